/-! ===== the layer: a typed heap. Labels are numbers; ad gives a label's address; a label's kind is fixed (kd); the state XS holds ints, longs, references by label, rows of ints, rows of references ===== -/
def xNest : Cond → Bool
  | .methodLinkNest .. => true
  | .fieldLinkNest .. => true
  | .castable .. => true
  | .declares .. => true
  | .arrayOver (.object _) => true
  | _ => false
def TB : List Cond := lw_tbl.filter goodWord
def TN : List Cond := lw_tbl.filter xNest
theorem TB_good {w : Cond} (h : w ∈ TB) : (w.onTables && w.keeps) = true ∨ ∃ ty, w = .arrayClass ty := good_of_word (List.mem_filter.mp h).2
theorem TB_mem {w : Cond} (i : Nat) (h : lw_tbl[i]? = some w) (g : goodWord w = true) : w ∈ TB := List.mem_filter.mpr ⟨List.mem_of_getElem? h, g⟩
theorem TN_mem {w : Cond} (i : Nat) (h : lw_tbl[i]? = some w) (g : xNest w = true) : w ∈ TN := List.mem_filter.mpr ⟨List.mem_of_getElem? h, g⟩
/-- the nest words, carried by themselves -/
def xN (U : State) : Prop := ∀ w ∈ TN, va_Nw w U
theorem xN.warm {s U : State} (hW : s.WarmedH U.vm) (h : xN s) : xN U := by
  intro w hw
  have hn := (List.mem_filter.mp hw).2
  have h1 := h w hw
  cases w with
  | methodLinkNest => exact va_Nw.warmM hW h1
  | fieldLinkNest => exact va_Nw.warmF hW h1
  | castable => exact va_Nw.warmC hW h1
  | declares => exact va_Nw.warmD hW h1
  | arrayOver ty =>
    cases ty with
    | object C => exact va_AO.moved hW.alike h1
    | _ => cases hn
  | _ => cases hn
theorem xN.same {u U : State} (hv : u.vm = U.vm) (h : xN u) : xN U := by
  intro w hw
  have hn := (List.mem_filter.mp hw).2
  have h1 := h w hw
  cases w with
  | methodLinkNest => exact va_Nw.same rfl hv h1
  | fieldLinkNest => exact va_Nw.same rfl hv h1
  | castable => exact va_Nw.same rfl hv h1
  | declares => exact va_Nw.same rfl hv h1
  | arrayOver ty =>
    cases ty with
    | object C => exact va_AO.moved (by rw [hv]; exact Vm.Alike.refl U.vm) h1
    | _ => cases hn
  | _ => cases hn
/-- a method's words: its code, and the whole table -/
def xw (y : MethodName) (bytes : ByteArray) (maxL : Nat) (ret : Option FieldType) : List Cond := .code y bytes maxL ret :: TB
def xR (n : Nat) : Room := { frames := n, cells := 0, slots := 0, locals := 40 * n }
theorem x_good {y y' : MethodName} {b b' : ByteArray} {n n' : Nat} {r r' : Option FieldType} (h : Cond.code y' b' n' r' ∈ TB) : GoodIn (xw y b n r) (xw y' b' n' r') := by
  intro w hw
  rcases List.mem_cons.mp hw with rfl | hw
  · exact ⟨List.mem_cons_of_mem _ h, TB_good h⟩
  · exact ⟨List.mem_cons_of_mem _ hw, TB_good hw⟩
-- the state
abbrev XS : Type := (Nat → Nat → Int32) × (Nat → Nat → Int64) × (Nat → Nat → Option Nat) × (Nat → Nat → Int32) × (Nat → Nat → Option Nat)
def gi (st : XS) (f k : Nat) : Int32 := st.1 f k
def gl (st : XS) (f k : Nat) : Int64 := st.2.1 f k
def gp (st : XS) (f k : Nat) : Option Nat := st.2.2.1 f k
def ga (st : XS) (k : Nat) : Nat → Int32 := st.2.2.2.1 k
def gb (st : XS) (k : Nat) : Nat → Option Nat := st.2.2.2.2 k
def xu2 {α : Type} (F : Nat → Nat → α) (f k : Nat) (v : α) : Nat → Nat → α := fun f' k' => if f' = f ∧ k' = k then v else F f' k'
def xu1 {α : Type} (F : Nat → α) (k : Nat) (v : α) : Nat → α := fun k' => if k' = k then v else F k'
def si (st : XS) (f k : Nat) (v : Int32) : XS := (xu2 st.1 f k v, st.2)
def sl (st : XS) (f k : Nat) (v : Int64) : XS := (st.1, xu2 st.2.1 f k v, st.2.2)
def sp (st : XS) (f k : Nat) (v : Option Nat) : XS := (st.1, st.2.1, xu2 st.2.2.1 f k v, st.2.2.2)
def sa (st : XS) (k : Nat) (v : Nat → Int32) : XS := (st.1, st.2.1, st.2.2.1, xu1 st.2.2.2.1 k v, st.2.2.2.2)
def sb (st : XS) (k : Nat) (v : Nat → Option Nat) : XS := (st.1, st.2.1, st.2.2.1, st.2.2.2.1, xu1 st.2.2.2.2 k v)
theorem gi_si (st : XS) (f k f' k' : Nat) (v : Int32) : gi (si st f k v) f' k' = if f' = f ∧ k' = k then v else gi st f' k' := rfl
theorem gi_sl (st : XS) (f k f' k' : Nat) (v : Int64) : gi (sl st f k v) f' k' = gi st f' k' := rfl
theorem gi_sp (st : XS) (f k f' k' : Nat) (v : Option Nat) : gi (sp st f k v) f' k' = gi st f' k' := rfl
theorem gi_sa (st : XS) (k f' k' : Nat) (v : Nat → Int32) : gi (sa st k v) f' k' = gi st f' k' := rfl
theorem gi_sb (st : XS) (k f' k' : Nat) (v : Nat → Option Nat) : gi (sb st k v) f' k' = gi st f' k' := rfl
theorem gl_si (st : XS) (f k f' k' : Nat) (v : Int32) : gl (si st f k v) f' k' = gl st f' k' := rfl
theorem gl_sl (st : XS) (f k f' k' : Nat) (v : Int64) : gl (sl st f k v) f' k' = if f' = f ∧ k' = k then v else gl st f' k' := rfl
theorem gl_sp (st : XS) (f k f' k' : Nat) (v : Option Nat) : gl (sp st f k v) f' k' = gl st f' k' := rfl
theorem gl_sa (st : XS) (k f' k' : Nat) (v : Nat → Int32) : gl (sa st k v) f' k' = gl st f' k' := rfl
theorem gl_sb (st : XS) (k f' k' : Nat) (v : Nat → Option Nat) : gl (sb st k v) f' k' = gl st f' k' := rfl
theorem gp_si (st : XS) (f k f' k' : Nat) (v : Int32) : gp (si st f k v) f' k' = gp st f' k' := rfl
theorem gp_sl (st : XS) (f k f' k' : Nat) (v : Int64) : gp (sl st f k v) f' k' = gp st f' k' := rfl
theorem gp_sp (st : XS) (f k f' k' : Nat) (v : Option Nat) : gp (sp st f k v) f' k' = if f' = f ∧ k' = k then v else gp st f' k' := rfl
theorem gp_sa (st : XS) (k f' k' : Nat) (v : Nat → Int32) : gp (sa st k v) f' k' = gp st f' k' := rfl
theorem gp_sb (st : XS) (k f' k' : Nat) (v : Nat → Option Nat) : gp (sb st k v) f' k' = gp st f' k' := rfl
theorem ga_si (st : XS) (f k k' : Nat) (v : Int32) : ga (si st f k v) k' = ga st k' := rfl
theorem ga_sl (st : XS) (f k k' : Nat) (v : Int64) : ga (sl st f k v) k' = ga st k' := rfl
theorem ga_sp (st : XS) (f k k' : Nat) (v : Option Nat) : ga (sp st f k v) k' = ga st k' := rfl
theorem ga_sa (st : XS) (k k' : Nat) (v : Nat → Int32) : ga (sa st k v) k' = if k' = k then v else ga st k' := rfl
theorem ga_sb (st : XS) (k k' : Nat) (v : Nat → Option Nat) : ga (sb st k v) k' = ga st k' := rfl
theorem gb_si (st : XS) (f k k' : Nat) (v : Int32) : gb (si st f k v) k' = gb st k' := rfl
theorem gb_sl (st : XS) (f k k' : Nat) (v : Int64) : gb (sl st f k v) k' = gb st k' := rfl
theorem gb_sp (st : XS) (f k k' : Nat) (v : Option Nat) : gb (sp st f k v) k' = gb st k' := rfl
theorem gb_sa (st : XS) (k k' : Nat) (v : Nat → Int32) : gb (sa st k v) k' = gb st k' := rfl
theorem gb_sb (st : XS) (k k' : Nat) (v : Nat → Option Nat) : gb (sb st k v) k' = if k' = k then v else gb st k' := rfl
theorem ga_self (st : XS) (k : Nat) (v : Nat → Int32) : ga (sa st k v) k = v := by rw [ga_sa, if_pos rfl]
-- the labels' kinds (31 to 36 the law's own rows, 40 to 42 its rows for a while, 50 to 56 the rows of an invoice's tellings): 0 to 8 an object of that class; 22 the row of bills, 23 of forms, 24 the row of booleans, 25 the row of longs; from 100 on a row of ints; 99 none
def ktab : List Nat := [7,5,3,6,4,2,23,104,110,22,104,260,110,160,160,160,160,140,140,140,99,99,99,99,99,99,99,99,99,99,99,164,164,164,132,116,104,99,99,99,104,104,104,99,99,99,99,99,99,99,104,104,104,104,104,104,104]
def kd (k : Nat) : Nat := if k < 100 then ktab.getD k 99 else if k < 300 then (match (k - 100) % 6 with | 0 => 0 | 1 => 106 | 2 => 106 | 3 => 106 | _ => 104) else (match (k - 300) % 4 with | 0 => 1 | _ => 260)
/-- the fields of a class: 0 an int, 1 a long, 2 a reference that changes, 10 + o: always the label o behind -/
def ftab : Nat → List Nat
  | 0 => [11,12,13,0,0,0,0,0,0,14,15,0,0]
  | 1 => [11,12,13,0]
  | 2 => [22,23,24,0]
  | 3 => [19,0]
  | 4 => [19,20,21,22,0]
  | 5 => [11,2,0,0]
  | 6 => [19,0,0,0,0,1,1]
  | 7 => [11,13,16,0,0,14,17,18,2,19,0,20,15]
  | 8 => [0,0,12,0,14,15,16,17,18,0,0,0,0,23,24,25,0,0,28,29,30,31,32,33,0,35,36,37,0,39,40,41,42,43,44,45,46,47,48,49,50,0,52,53,54,0,0,0,0,0,1]
  | _ => []
def nfl (ci : Nat) : Nat := (ftab ci).length
def fcd (ci f : Nat) : Nat := (ftab ci).getD f 0
def fv (ad : Nat → Nat) (st : XS) (k c f : Nat) : Value := match c with
  | 0 => .int (gi st f k)
  | 1 => .long (gl st f k)
  | 2 => va_rf ((gp st f k).map ad)
  | o => .ref (ad (k + (o - 10)))
def xE (cy : Nat → ClassId) (ad : Nat → Nat) (st : XS) (k : Nat) : va_E := match kd k with
  | 22 => .inl (cy 2, 30, .inr (.inr (.inr (.inr (fun i => (gb st k i).map ad)))))
  | 23 => .inl (cy 3, 6, .inr (.inr (.inr (.inr (fun i => (gb st k i).map ad)))))
  | 24 => .inl (cy 1, 5, .inl (ga st k))
  | 25 => .inl (cy 4, 1, .inr (.inl (fun i => gl st i k)))
  | n => if n < 9 then .inr (n, (List.range (nfl n)).map (fun f => fv ad st k (fcd n f) f)) else .inl (cy 0, n - 100, .inl (ga st k))
def xtys (cy : Nat → ClassId) : List (ClassId × FieldType) := [(cy 0, .int), (cy 1, .int), (cy 2, .object RX0), (cy 3, .object RX1), (cy 4, .int)]
def xws (ad : Nat → Nat) (Ls : List Nat) (E : Nat → va_E) : va_W := Ls.map (fun k => (ad k, E k))
/-- the cells that a method may change: the world's, and new ones -/
def XA (ad : Nat → Nat) (Ls : List Nat) (sz : Nat) : Nat → Prop := fun q => (∃ k, k ∈ Ls ∧ ad k = q) ∨ sz ≤ q
/-- what stands unchanged all along: two statics of Throwable, COMPACT_STRINGS, the two texts of names, the texts of the throws -/
def SRs : List (String × Nat × String) := [("InvoiceSmith", 76, "a sign is out of range, or stands behind 8 bits of 0"), ("InvoiceSmith", 87, "the page has no room for that many signs"), ("InvoiceSmith", 99, "no such template"), ("InvoiceSmith", 102, "no more templates can be told"), ("InvoiceSmith", 113, "days is out of range"), ("InvoiceSmith", 265, "no such place"), ("InvoiceSmith", 267, "no such kind"), ("InvoiceSmith", 125, "hundredths or from is out of range"), ("InvoiceSmith", 130, "no more rates can be told"), ("InvoiceSmith", 136, "day is out of range"), ("InvoiceSmith", 142, "way is out of range"), ("InvoiceSmith", 269, "no such client"), ("InvoiceSmith", 155, "quantity or price is out of range"), ("InvoiceSmith", 160, "the draft has no room for another line"), ("InvoiceSmith", 170, "no such line"), ("InvoiceSmith", 178, "the draft is empty, or no more invoices can be made"), ("InvoiceSmith", 271, "no such invoice"), ("InvoiceSmith", 225, "what is out of range"), ("InvoiceSmith", 238, "no such place in what is written")]
def eIAE : String := "java/lang/IllegalArgumentException"
def eISE : String := "java/lang/IllegalStateException"
def eIOB : String := "java/lang/IndexOutOfBoundsException"
def NCs : List (String × String) := []
def nmBy : List (List Int32) := [[110, 99, 100, 108, 115, 116, 103], [105, 107, 113, 112, 97, 120]]
def xVs (A : Nat → Prop) (U : State) (H : Heap) (adK adV : Nat → Nat) : Prop := vk_S 2 [7, 6] nmBy adK adV A U H ∧ vk_R "InvoiceSmith$Reader" 85 "ncdlstg" (adK 0) U ∧ vk_R "InvoiceSmith$Reader" 93 "ikqpax" (adK 1) U
def xV (A : Nat → Prop) (U : State) (H : Heap) : Prop :=
  vx_Zq Bundle.tN "UNASSIGNED_STACK" Bundle.steD A U H ∧ vx_Zq Bundle.tN "SUPPRESSED_SENTINEL" Bundle.listD A U H ∧ va_Z "java/lang/String" "COMPACT_STRINGS" "Z" (.int 1) A U H ∧ (∃ adK adV : Nat → Nat, xVs A U H adK adV) ∧ (∀ q ∈ SRs, ∃ a : Nat, vk_R q.1 q.2.1 q.2.2 a U) ∧ ∀ q ∈ NCs, va_Nc q.1 q.2 U
theorem xV.warm {A : Nat → Prop} {s U : State} {H : Heap} (hW : s.WarmedH U.vm) (h : xV A s H) : xV A U H := by
  obtain ⟨h1, h2, h3, ⟨k, v, h4, h5, h6⟩, h7, h8⟩ := h
  exact ⟨h1.moved hW.alike, h2.moved hW.alike, h3.moved hW.alike, ⟨k, v, h4.moved hW.alike, h5.warm hW, h6.warm hW⟩, fun q hq => (h7 q hq).elim fun a ha => ⟨a, ha.warm hW⟩, fun q hq => (h8 q hq).moved hW.alike⟩
theorem xV.same {A : Nat → Prop} {u U : State} {H : Heap} (hv : U.vm = u.vm) (h : xV A u H) : xV A U H := by
  obtain ⟨h1, h2, h3, ⟨k, v, h4, h5, h6⟩, h7, h8⟩ := h
  have hA : u.vm.Alike U.vm := by rw [hv]; exact Vm.Alike.refl u.vm
  exact ⟨h1.moved hA, h2.moved hA, h3.moved hA, ⟨k, v, h4.moved hA, h5.same hv, h6.same hv⟩, fun q hq => (h7 q hq).elim fun a ha => ⟨a, ha.same hv⟩, fun q hq => (h8 q hq).moved hA⟩
theorem xV.kept {A : Nat → Prop} {U : State} {H H1 : Heap} (h : xV A U H) (hq : ∀ a : Nat, a < H.size → ¬ A a → H1[a]? = H[a]?) : xV A U H1 := by
  obtain ⟨h1, h2, h3, ⟨k, v, h4, h5, h6⟩, h7, h8⟩ := h
  exact ⟨h1.kept hq, h2.kept hq, h3.kept hq, ⟨k, v, h4.kept hq, h5, h6⟩, h7, h8⟩
theorem xV.narrow {A B : Nat → Prop} {U : State} {H : Heap} (h : xV A U H) (hAB : ∀ q, B q → A q) : xV B U H := by
  obtain ⟨h1, h2, h3, ⟨k, v, h4, h5, h6⟩, h7, h8⟩ := h
  exact ⟨h1.narrow hAB, h2.narrow hAB, h3.narrow hAB, ⟨k, v, h4.narrow hAB, h5, h6⟩, h7, h8⟩
def xH (D : va_G) (cy : Nat → ClassId) (ad : Nat → Nat) (Ls : List Nat) (A : Nat → Prop) (s : State) (st : XS) (H : Heap) (locs : List Loc) : Prop :=
  va_P D vwCl (xws ad Ls (xE cy ad st)) H ∧ va_D A (xws ad Ls (xE cy ad st)) ∧ va_S A s.heap H locs ∧ (∀ q, s.heap.size ≤ q → A q) ∧ xV A s s.heap
def xCx (p : Program) (m : MethodId) (c : Code) (cc : ByteArray) (nL : Nat) (s : State) (args : Array Value) (own : String) (D : va_G) (cy : Nat → ClassId) : Prop :=
  p.tables.exec = Jvm.exec ∧ c.code = cc ∧ c.maxLocals = nL ∧ s.vm.findClass own = some m.cls ∧ (∀ w ∈ TB, w.before args s = true) ∧ va_K D vwCl (xtys cy) s ∧ xN s
def xPre (D : va_G) (cy : Nat → ClassId) (ad : Nat → Nat) (Ls : List Nat) (sz : Nat) (st : XS) : State → Prop := fun U => U.heap.size = sz ∧ va_P D vwCl (xws ad Ls (xE cy ad st)) U.heap ∧ va_D (fun _ => True) (xws ad Ls (xE cy ad st)) ∧ va_K D vwCl (xtys cy) U ∧ xN U ∧ xV (XA ad Ls sz) U U.heap
def xPost (D : va_G) (cy : Nat → ClassId) (ad : Nat → Nat) (Ls : List Nat) (A : Nat → Prop) (st : XS) : State → Prop := fun t => va_P D vwCl (xws ad Ls (xE cy ad st)) t.heap ∧ va_D A (xws ad Ls (xE cy ad st)) ∧ va_K D vwCl (xtys cy) t
/-- a contract: no cell is made; the answer and the state behind it as post says -/
def xMi (l : Launch) (y : MethodName) (bytes : ByteArray) (maxL : Nat) (ret : Option FieldType) (n : Nat) (D : va_G) (cy : Nat → ClassId) (ad : Nat → Nat) (Ls : List Nat) (st : XS) (av : List Value) (post : Int32 → XS → Prop) : Prop :=
  ∀ sz, Met l y (xw y bytes maxL ret) (xR n) (va_Pc av (xPre D cy ad Ls sz st)) (va_Qi post (fun u => xPost D cy ad Ls (XA ad Ls sz) u) (XA ad Ls sz)) 0 0 (XA ad Ls sz)
def xMv (l : Launch) (y : MethodName) (bytes : ByteArray) (maxL : Nat) (n : Nat) (D : va_G) (cy : Nat → ClassId) (ad : Nat → Nat) (Ls : List Nat) (st : XS) (av : List Value) (post : XS → Prop) : Prop :=
  ∀ sz, Met l y (xw y bytes maxL none) (xR n) (va_Pc av (xPre D cy ad Ls sz st)) (va_Qv post (fun u => xPost D cy ad Ls (XA ad Ls sz) u) (XA ad Ls sz)) 0 0 (XA ad Ls sz)
-- the world's places
theorem xws_get {ad : Nat → Nat} {Ls : List Nat} {E : Nat → va_E} {k : Nat} (h : k ∈ Ls) : ∃ q0 : Nat, Ls[q0]? = some k ∧ (xws ad Ls E)[q0]? = some (ad k, E k) := by
  obtain ⟨i, hi⟩ := List.getElem?_of_mem h
  exact ⟨i, hi, by unfold xws; rw [List.getElem?_map, hi]; rfl⟩
theorem xws_set {A : Nat → Prop} {ad : Nat → Nat} {Ls : List Nat} {E : Nat → va_E} {k q0 : Nat} {e : va_E} (hD : va_D A (xws ad Ls E)) (hq : Ls[q0]? = some k) : (xws ad Ls E).set q0 (ad k, e) = xws ad Ls (xu1 E k e) := by
  have hl : q0 < (xws ad Ls E).length := by unfold xws; rw [List.length_map]; exact (List.getElem?_eq_some_iff.mp hq).1
  have hq0 : (xws ad Ls E)[q0]? = some (ad k, E k) := by unfold xws; rw [List.getElem?_map, hq]; rfl
  apply List.ext_getElem?
  intro j
  by_cases hj : j = q0
  · subst hj
    rw [List.getElem?_set_self hl]
    unfold xws
    rw [List.getElem?_map, hq]
    simp [xu1]
  · rw [List.getElem?_set_ne (Ne.symm hj)]
    unfold xws
    simp only [List.getElem?_map]
    cases hb : Ls[j]? with
    | none => rfl
    | some b =>
      have hne : b ≠ k := by
        intro hbk
        subst hbk
        have h2 : (xws ad Ls E)[j]? = some (ad b, E b) := by unfold xws; rw [List.getElem?_map, hb]; rfl
        exact hj (hD.1 j q0 _ _ h2 hq0 rfl)
      simp [xu1, hne]
theorem xws_congr {ad : Nat → Nat} {Ls : List Nat} {E E' : Nat → va_E} (h : ∀ k, E k = E' k) : xws ad Ls E = xws ad Ls E' := by rw [show E = E' from funext h]
theorem xE_ob {cy : Nat → ClassId} {ad : Nat → Nat} {st : XS} {k ci : Nat} (h : kd k = ci) (hc : ci < 9) : xE cy ad st k = .inr (ci, (List.range (nfl ci)).map (fun f => fv ad st k (fcd ci f) f)) := by
  unfold xE
  rw [h]
  split
  · omega
  · omega
  · omega
  · omega
  · rw [if_pos hc]
theorem xE_row {cy : Nat → ClassId} {ad : Nat → Nat} {st : XS} {k n : Nat} (h : kd k = 100 + n) : xE cy ad st k = .inl (cy 0, n, .inl (ga st k)) := by
  unfold xE
  rw [h]
  split
  · omega
  · omega
  · omega
  · omega
  · rw [if_neg (by omega), Nat.add_sub_cancel_left]
theorem xE_bool {cy : Nat → ClassId} {ad : Nat → Nat} {st : XS} {k : Nat} (h : kd k = 24) : xE cy ad st k = .inl (cy 1, 5, .inl (ga st k)) := by unfold xE; rw [h]; rfl
theorem xE_bills {cy : Nat → ClassId} {ad : Nat → Nat} {st : XS} {k : Nat} (h : kd k = 22) : xE cy ad st k = .inl (cy 2, 30, .inr (.inr (.inr (.inr (fun i => (gb st k i).map ad))))) := by unfold xE; rw [h]; rfl
theorem xE_forms {cy : Nat → ClassId} {ad : Nat → Nat} {st : XS} {k : Nat} (h : kd k = 23) : xE cy ad st k = .inl (cy 3, 6, .inr (.inr (.inr (.inr (fun i => (gb st k i).map ad))))) := by unfold xE; rw [h]; rfl
theorem xE_longs {cy : Nat → ClassId} {ad : Nat → Nat} {st : XS} {k : Nat} (h : kd k = 25) : xE cy ad st k = .inl (cy 4, 1, .inr (.inl (fun i => gl st i k))) := by unfold xE; rw [h]; rfl
