/-! ===== rows over the typed heap ===== -/
theorem x_mapset {α : Type} (g : Nat → α) (n f : Nat) (v : α) : ((List.range n).map g).set f v = (List.range n).map (fun j => if j = f then v else g j) := by
  apply List.ext_getElem?
  intro j
  rw [List.getElem?_set]
  simp only [List.length_map, List.length_range, List.getElem?_map]
  by_cases h : f = j
  · subst h
    by_cases hn : f < n
    · simp [hn]
    · simp [hn]
  · rw [if_neg h]
    by_cases hn : j < n
    · simp [hn, Ne.symm h]
    · simp [hn]
theorem x_fs {ad : Nat → Nat} {st : XS} {k ci f : Nat} (hf : f < nfl ci) : ((List.range (nfl ci)).map (fun f => fv ad st k (fcd ci f) f))[f]? = some (fv ad st k (fcd ci f) f) := by
  rw [List.getElem?_map, List.getElem?_range hf]; rfl
section XROW
variable {p : Program} {l : Launch} {e : Env} {R : Room} {s : State} {m : MethodId} {args : Array Value} {below : List Frame} {meth : Method} {c : Code} {H : Heap} {locs : List Loc} {cells slots : Nat} {Q : State → Prop}
variable {cc : ByteArray} {pc nL : Nat} {ls : Array Slot} {rest : List Value} {D : va_G} {cy : Nat → ClassId} {ad : Nat → Nat} {Ls : List Nat} {A : Nat → Prop} {st : XS} {own : String}
theorem x_get (C : xCx p m c cc nL s args own D cy) (h : xH D cy ad Ls A s st H locs) {k ci f index : Nat} {Cn : String} {T : u_T} {N : Nat} (hk : k ∈ Ls) (hkd : kd k = ci) (hc9 : ci < 9) (hc : vwCl[ci]? = some (Cn, T, N)) (hf : f < N) (hn : nfl ci = N) (hin : ∀ w ∈ u_ws Cn T N, w ∈ TB) (hl : Cond.fieldLink own index Cn (T f).2.1 (T f).2.2.1 ∈ TB) (hO : (T f).1 = Cn) {v : Value} (hv : fv ad st k (fcd ci f) f = v) (hdg : decode cc pc = .ok (.getfield index, 3))
    (kk : W p l e R s m args below meth c H locs cells slots Q (F0 m (pc + 3) ls (v :: rest))) : W p l e R s m args below meth c H locs cells slots Q (F0 m pc ls (.ref (ad k) :: rest)) := by
  obtain ⟨hx, hb, hml, hown, hts, hK, hNn⟩ := C
  obtain ⟨q0, hq, hg⟩ := xws_get (ad := ad) (E := xE cy ad st) hk
  rw [xE_ob hkd hc9] at hg
  subst hv
  exact va_get hx hb hts hin hown hK h.1 q0 hg hc f hf (hts _ hl) (fun x hx => by rw [hO] at hx; exact hx) (x_fs (by rw [hn]; exact hf)) hdg kk
theorem x_getN (C : xCx p m c cc nL s args own D cy) (h : xH D cy ad Ls A s st H locs) {k ci f index : Nat} {Cn host : String} {T : u_T} {N : Nat} (hk : k ∈ Ls) (hkd : kd k = ci) (hc9 : ci < 9) (hc : vwCl[ci]? = some (Cn, T, N)) (hf : f < N) (hn : nfl ci = N) (hin : ∀ w ∈ u_ws Cn T N, w ∈ TB) (hl : Cond.fieldLinkNest own index Cn (T f).2.1 (T f).2.2.1 host ∈ TN) (hO : (T f).1 = Cn) {v : Value} (hv : fv ad st k (fcd ci f) f = v) (hdg : decode cc pc = .ok (.getfield index, 3))
    (kk : W p l e R s m args below meth c H locs cells slots Q (F0 m (pc + 3) ls (v :: rest))) : W p l e R s m args below meth c H locs cells slots Q (F0 m pc ls (.ref (ad k) :: rest)) := by
  obtain ⟨hx, hb, hml, hown, hts, hK, hNn⟩ := C
  obtain ⟨q0, hq, hg⟩ := xws_get (ad := ad) (E := xE cy ad st) hk
  rw [xE_ob hkd hc9] at hg
  subst hv
  exact va_getN hx hb hts hin hown hK h.1 q0 hg hc f hf (va_Nw.use rfl (hNn _ hl)) (fun x hx => by rw [hO] at hx; exact hx) (x_fs (by rw [hn]; exact hf)) hdg kk
/-- a field's new value, as a new state -/
theorem x_upE {st st' : XS} {k ci f : Nat} {v : Value} (hkd : kd k = ci) (hc9 : ci < 9) (ho : ∀ j, j ≠ k → xE cy ad st' j = xE cy ad st j) (hs : ∀ j, j < nfl ci → fv ad st' k (fcd ci j) j = if j = f then v else fv ad st k (fcd ci j) j) : ∀ j, xu1 (xE cy ad st) k (.inr (ci, ((List.range (nfl ci)).map (fun f => fv ad st k (fcd ci f) f)).set f v)) j = xE cy ad st' j := by
  intro j
  unfold xu1
  by_cases hj : j = k
  · subst hj
    rw [if_pos rfl, xE_ob hkd hc9, x_mapset]
    congr 2
    apply List.map_congr_left
    intro i hi
    exact (hs i (List.mem_range.mp hi)).symm
  · rw [if_neg hj]
    exact (ho j hj).symm
theorem x_setA {st st' : XS} {k ci f q0 : Nat} {v : Value} {H1 : Heap} {locs1 : List Loc} (h : xH D cy ad Ls A s st H locs) (hq : Ls[q0]? = some k) (hkd : kd k = ci) (hc9 : ci < 9) (ho : ∀ j, j ≠ k → xE cy ad st' j = xE cy ad st j) (hs : ∀ j, j < nfl ci → fv ad st' k (fcd ci j) j = if j = f then v else fv ad st k (fcd ci j) j)
    (g1 : va_P D vwCl ((xws ad Ls (xE cy ad st)).set q0 (ad k, .inr (ci, ((List.range (nfl ci)).map (fun f => fv ad st k (fcd ci f) f)).set f v))) H1) (g2 : va_D A ((xws ad Ls (xE cy ad st)).set q0 (ad k, .inr (ci, ((List.range (nfl ci)).map (fun f => fv ad st k (fcd ci f) f)).set f v)))) (g3 : va_S A s.heap H1 locs1) : xH D cy ad Ls A s st' H1 locs1 := by
  have e := (xws_set (e := .inr (ci, ((List.range (nfl ci)).map (fun f => fv ad st k (fcd ci f) f)).set f v)) h.2.1 hq).trans (xws_congr (x_upE (cy := cy) (ad := ad) (st' := st') hkd hc9 ho hs))
  rw [e] at g1 g2
  exact ⟨g1, g2, g3, h.2.2.2⟩
theorem xE_si {st : XS} {f k j : Nat} {v : Int32} (hj : j ≠ k) : xE cy ad (si st f k v) j = xE cy ad st j := by
  have hfv : ∀ c i, fv ad (si st f k v) j c i = fv ad st j c i := by
    intro c i
    unfold fv
    split
    · rw [gi_si, if_neg (fun z => hj z.2)]
    · rfl
    · rfl
    · rfl
  unfold xE
  simp only [hfv]
  rfl
theorem xE_sl {st : XS} {f k j : Nat} {v : Int64} (hj : j ≠ k) : xE cy ad (sl st f k v) j = xE cy ad st j := by
  have hg : ∀ i, gl (sl st f k v) i j = gl st i j := fun i => by rw [gl_sl, if_neg (fun z => hj z.2)]
  have hfv : ∀ c i, fv ad (sl st f k v) j c i = fv ad st j c i := by
    intro c i
    unfold fv
    split
    · rfl
    · rw [hg]
    · rfl
    · rfl
  unfold xE
  simp only [hfv, hg]
  rfl
theorem xE_sp {st : XS} {f k j : Nat} {v : Option Nat} (hj : j ≠ k) : xE cy ad (sp st f k v) j = xE cy ad st j := by
  have hfv : ∀ c i, fv ad (sp st f k v) j c i = fv ad st j c i := by
    intro c i
    unfold fv
    split
    · rfl
    · rfl
    · rw [gp_sp, if_neg (fun z => hj z.2)]
    · rfl
  unfold xE
  simp only [hfv]
  rfl
theorem xE_sa {st : XS} {k j : Nat} {v : Nat → Int32} (hj : j ≠ k) : xE cy ad (sa st k v) j = xE cy ad st j := by
  have hg : ga (sa st k v) j = ga st j := by rw [ga_sa, if_neg hj]
  unfold xE
  simp only [hg]
  rfl
theorem xE_sb {st : XS} {k j : Nat} {v : Nat → Option Nat} (hj : j ≠ k) : xE cy ad (sb st k v) j = xE cy ad st j := by
  have hg : gb (sb st k v) j = gb st j := by rw [gb_sb, if_neg hj]
  unfold xE
  simp only [hg]
  rfl
theorem x_puti (C : xCx p m c cc nL s args own D cy) (h : xH D cy ad Ls A s st H locs) {k ci f index : Nat} {Cn : String} {T : u_T} {N : Nat} {ty0 : Nat → FieldType} (hk : k ∈ Ls) (hkd : kd k = ci) (hc9 : ci < 9) (hc : vwCl[ci]? = some (Cn, T, N)) (hf : f < N) (hn : nfl ci = N) (hin : ∀ w ∈ u_ws Cn T N, w ∈ TB) (hty : ∀ k, k < N → parseFieldDescriptor (T k).2.2.1 = some (ty0 k)) (hnm : ∀ a, a < N → ∀ b, b < N → a ≠ b → (T a).2.1 ≠ (T b).2.1) (hl : Cond.fieldLink own index Cn (T f).2.1 (T f).2.2.1 ∈ TB) (hO : (T f).1 = Cn) (hfin : (T f).2.2.2 = false) {ty : FieldType} (hd : parseFieldDescriptor (T f).2.2.1 = some ty) (hcd : fcd ci f = 0) {x : Int32} (hna : narrow ty (.int x) = .int x) (hfit : fits ty (.int x) = true) (hdg : decode cc pc = .ok (.putfield index, 3))
    (kk : ∀ (H1 : Heap) (locs1 : List Loc) (u : XS), u = si st f k x → xH D cy ad Ls A s u H1 locs1 → W p l e R s m args below meth c H1 locs1 cells slots Q (F0 m (pc + 3) ls rest)) : W p l e R s m args below meth c H locs cells slots Q (F0 m pc ls (.int x :: .ref (ad k) :: rest)) := by
  obtain ⟨hx, hb, hml, hown, hts, hK, hNn⟩ := C
  obtain ⟨q0, hq, hg⟩ := xws_get (ad := ad) (E := xE cy ad st) hk
  rw [xE_ob hkd hc9] at hg
  refine va_put hx hb hts hin ty0 hty hnm hown hK h.1 h.2.1 h.2.2.1 q0 hg hc f hf (hts _ hl) (fun x hx => by rw [hO] at hx; exact hx) hfin hd hna hfit (by rw [List.length_map, List.length_range, hn]; exact hf) hdg (fun H1 locs1 g1 g2 g3 => ?_)
  refine kk H1 locs1 _ rfl (x_setA h hq hkd hc9 (fun j hj => xE_si hj) (fun j hj => ?_) g1 g2 g3)
  by_cases hjf : j = f
  · subst hjf; rw [if_pos rfl, hcd]; show Value.int _ = _; rw [gi_si, if_pos ⟨rfl, rfl⟩]
  · rw [if_neg hjf]; unfold fv; split <;> first | rfl | rw [gi_si, if_neg (fun z => hjf z.1)]
theorem x_putiN (C : xCx p m c cc nL s args own D cy) (h : xH D cy ad Ls A s st H locs) {k ci f index : Nat} {Cn host : String} {T : u_T} {N : Nat} {ty0 : Nat → FieldType} (hk : k ∈ Ls) (hkd : kd k = ci) (hc9 : ci < 9) (hc : vwCl[ci]? = some (Cn, T, N)) (hf : f < N) (hn : nfl ci = N) (hin : ∀ w ∈ u_ws Cn T N, w ∈ TB) (hty : ∀ k, k < N → parseFieldDescriptor (T k).2.2.1 = some (ty0 k)) (hnm : ∀ a, a < N → ∀ b, b < N → a ≠ b → (T a).2.1 ≠ (T b).2.1) (hl : Cond.fieldLinkNest own index Cn (T f).2.1 (T f).2.2.1 host ∈ TN) (hO : (T f).1 = Cn) (hfin : (T f).2.2.2 = false) {ty : FieldType} (hd : parseFieldDescriptor (T f).2.2.1 = some ty) (hcd : fcd ci f = 0) {x : Int32} (hna : narrow ty (.int x) = .int x) (hfit : fits ty (.int x) = true) (hdg : decode cc pc = .ok (.putfield index, 3))
    (kk : ∀ (H1 : Heap) (locs1 : List Loc) (u : XS), u = si st f k x → xH D cy ad Ls A s u H1 locs1 → W p l e R s m args below meth c H1 locs1 cells slots Q (F0 m (pc + 3) ls rest)) : W p l e R s m args below meth c H locs cells slots Q (F0 m pc ls (.int x :: .ref (ad k) :: rest)) := by
  obtain ⟨hx, hb, hml, hown, hts, hK, hNn⟩ := C
  obtain ⟨q0, hq, hg⟩ := xws_get (ad := ad) (E := xE cy ad st) hk
  rw [xE_ob hkd hc9] at hg
  refine va_putN hx hb hts hin ty0 hty hnm hown hK h.1 h.2.1 h.2.2.1 q0 hg hc f hf (va_Nw.use rfl (hNn _ hl)) (fun x hx => by rw [hO] at hx; exact hx) hfin hd hna hfit (by rw [List.length_map, List.length_range, hn]; exact hf) hdg (fun H1 locs1 g1 g2 g3 => ?_)
  refine kk H1 locs1 _ rfl (x_setA h hq hkd hc9 (fun j hj => xE_si hj) (fun j hj => ?_) g1 g2 g3)
  by_cases hjf : j = f
  · subst hjf; rw [if_pos rfl, hcd]; show Value.int _ = _; rw [gi_si, if_pos ⟨rfl, rfl⟩]
  · rw [if_neg hjf]; unfold fv; split <;> first | rfl | rw [gi_si, if_neg (fun z => hjf z.1)]
theorem x_putl (C : xCx p m c cc nL s args own D cy) (h : xH D cy ad Ls A s st H locs) {k ci f index : Nat} {Cn : String} {T : u_T} {N : Nat} {ty0 : Nat → FieldType} (hk : k ∈ Ls) (hkd : kd k = ci) (hc9 : ci < 9) (hc : vwCl[ci]? = some (Cn, T, N)) (hf : f < N) (hn : nfl ci = N) (hin : ∀ w ∈ u_ws Cn T N, w ∈ TB) (hty : ∀ k, k < N → parseFieldDescriptor (T k).2.2.1 = some (ty0 k)) (hnm : ∀ a, a < N → ∀ b, b < N → a ≠ b → (T a).2.1 ≠ (T b).2.1) (hl : Cond.fieldLink own index Cn (T f).2.1 (T f).2.2.1 ∈ TB) (hO : (T f).1 = Cn) (hfin : (T f).2.2.2 = false) (hd : parseFieldDescriptor (T f).2.2.1 = some .long) (hcd : fcd ci f = 1) {x : Int64} (hdg : decode cc pc = .ok (.putfield index, 3))
    (kk : ∀ (H1 : Heap) (locs1 : List Loc) (u : XS), u = sl st f k x → xH D cy ad Ls A s u H1 locs1 → W p l e R s m args below meth c H1 locs1 cells slots Q (F0 m (pc + 3) ls rest)) : W p l e R s m args below meth c H locs cells slots Q (F0 m pc ls (.long x :: .ref (ad k) :: rest)) := by
  obtain ⟨hx, hb, hml, hown, hts, hK, hNn⟩ := C
  obtain ⟨q0, hq, hg⟩ := xws_get (ad := ad) (E := xE cy ad st) hk
  rw [xE_ob hkd hc9] at hg
  refine va_put hx hb hts hin ty0 hty hnm hown hK h.1 h.2.1 h.2.2.1 q0 hg hc f hf (hts _ hl) (fun x hx => by rw [hO] at hx; exact hx) hfin hd rfl rfl (by rw [List.length_map, List.length_range, hn]; exact hf) hdg (fun H1 locs1 g1 g2 g3 => ?_)
  refine kk H1 locs1 _ rfl (x_setA h hq hkd hc9 (fun j hj => xE_sl hj) (fun j hj => ?_) g1 g2 g3)
  by_cases hjf : j = f
  · subst hjf; rw [if_pos rfl, hcd]; show Value.long _ = _; rw [gl_sl, if_pos ⟨rfl, rfl⟩]
  · rw [if_neg hjf]; unfold fv; split <;> first | rfl | rw [gl_sl, if_neg (fun z => hjf z.1)]
theorem x_putp (C : xCx p m c cc nL s args own D cy) (h : xH D cy ad Ls A s st H locs) {k ci f index : Nat} {Cn : String} {T : u_T} {N : Nat} {ty0 : Nat → FieldType} (hk : k ∈ Ls) (hkd : kd k = ci) (hc9 : ci < 9) (hc : vwCl[ci]? = some (Cn, T, N)) (hf : f < N) (hn : nfl ci = N) (hin : ∀ w ∈ u_ws Cn T N, w ∈ TB) (hty : ∀ k, k < N → parseFieldDescriptor (T k).2.2.1 = some (ty0 k)) (hnm : ∀ a, a < N → ∀ b, b < N → a ≠ b → (T a).2.1 ≠ (T b).2.1) (hl : Cond.fieldLink own index Cn (T f).2.1 (T f).2.2.1 ∈ TB) (hO : (T f).1 = Cn) (hfin : (T f).2.2.2 = false) {oc : String} (hd : parseFieldDescriptor (T f).2.2.1 = some (.object oc)) (hcd : fcd ci f = 2) {x : Nat} (hdg : decode cc pc = .ok (.putfield index, 3))
    (kk : ∀ (H1 : Heap) (locs1 : List Loc) (u : XS), u = sp st f k (some x) → xH D cy ad Ls A s u H1 locs1 → W p l e R s m args below meth c H1 locs1 cells slots Q (F0 m (pc + 3) ls rest)) : W p l e R s m args below meth c H locs cells slots Q (F0 m pc ls (.ref (ad x) :: .ref (ad k) :: rest)) := by
  obtain ⟨hx, hb, hml, hown, hts, hK, hNn⟩ := C
  obtain ⟨q0, hq, hg⟩ := xws_get (ad := ad) (E := xE cy ad st) hk
  rw [xE_ob hkd hc9] at hg
  refine va_put hx hb hts hin ty0 hty hnm hown hK h.1 h.2.1 h.2.2.1 q0 hg hc f hf (hts _ hl) (fun x hx => by rw [hO] at hx; exact hx) hfin hd rfl rfl (by rw [List.length_map, List.length_range, hn]; exact hf) hdg (fun H1 locs1 g1 g2 g3 => ?_)
  refine kk H1 locs1 _ rfl (x_setA h hq hkd hc9 (fun j hj => xE_sp hj) (fun j hj => ?_) g1 g2 g3)
  by_cases hjf : j = f
  · subst hjf; rw [if_pos rfl, hcd]; show va_rf _ = _; rw [gp_sp, if_pos ⟨rfl, rfl⟩]; rfl
  · rw [if_neg hjf]; unfold fv; split <;> first | rfl | rw [gp_sp, if_neg (fun z => hjf z.1)]
-- rows of ints
theorem x_ald (C : xCx p m c cc nL s args own D cy) (h : xH D cy ad Ls A s st H locs) {k n : Nat} (hk : k ∈ Ls) (hkd : kd k = 100 + n) {i : Int32} (j : Nat) (hj : j < n) (hn : n < 2 ^ 31) (hi : i = nI j) (hdg : decode cc pc = .ok (.iaload, 1))
    (kk : W p l e R s m args below meth c H locs cells slots Q (F0 m (pc + 1) ls (.int (ga st k j) :: rest))) : W p l e R s m args below meth c H locs cells slots Q (F0 m pc ls (.int i :: .ref (ad k) :: rest)) := by
  obtain ⟨hx, hb, hml, hown, hts, hK, hNn⟩ := C
  obtain ⟨q0, hq, hg⟩ := xws_get (ad := ad) (E := xE cy ad st) hk
  rw [xE_row hkd] at hg
  subst hi
  refine va_iald hx hb hK h.1 q0 0 hg rfl (vp_in_nI hj hn) hdg ?_
  rw [nI_clamp (by omega)]
  exact kk
theorem x_aldI (C : xCx p m c cc nL s args own D cy) (h : xH D cy ad Ls A s st H locs) {k n : Nat} (hk : k ∈ Ls) (hkd : kd k = 100 + n) {i : Int32} (hin : vp_in i n) (hdg : decode cc pc = .ok (.iaload, 1))
    (kk : W p l e R s m args below meth c H locs cells slots Q (F0 m (pc + 1) ls (.int (ga st k i.toNatClampNeg) :: rest))) : W p l e R s m args below meth c H locs cells slots Q (F0 m pc ls (.int i :: .ref (ad k) :: rest)) := by
  obtain ⟨hx, hb, hml, hown, hts, hK, hNn⟩ := C
  obtain ⟨q0, hq, hg⟩ := xws_get (ad := ad) (E := xE cy ad st) hk
  rw [xE_row hkd] at hg
  exact va_iald hx hb hK h.1 q0 0 hg rfl hin hdg kk
theorem x_alen (C : xCx p m c cc nL s args own D cy) (h : xH D cy ad Ls A s st H locs) {k n : Nat} (hk : k ∈ Ls) (hkd : kd k = 100 + n) (hdg : decode cc pc = .ok (.arraylength, 1))
    (kk : W p l e R s m args below meth c H locs cells slots Q (F0 m (pc + 1) ls (.int (nI n) :: rest))) : W p l e R s m args below meth c H locs cells slots Q (F0 m pc ls (.ref (ad k) :: rest)) := by
  obtain ⟨hx, hb, hml, hown, hts, hK, hNn⟩ := C
  obtain ⟨q0, hq, hg⟩ := xws_get (ad := ad) (E := xE cy ad st) hk
  rw [xE_row hkd] at hg
  exact va_alen hx hb hK h.1 q0 0 hg rfl rfl hdg kk
theorem x_rowE {st : XS} {k n : Nat} {f : Nat → Int32} (hkd : kd k = 100 + n) : ∀ j, xu1 (xE cy ad st) k (.inl (cy 0, n, .inl f)) j = xE cy ad (sa st k f) j := by
  intro j
  unfold xu1
  by_cases hj : j = k
  · subst hj
    rw [if_pos rfl, xE_row hkd, ga_self]
  · rw [if_neg hj, xE_sa hj]
theorem x_astI (C : xCx p m c cc nL s args own D cy) (h : xH D cy ad Ls A s st H locs) {k n : Nat} (hk : k ∈ Ls) (hkd : kd k = 100 + n) {i x : Int32} (hin : vp_in i n) (hdg : decode cc pc = .ok (.iastore, 1))
    (kk : ∀ (H1 : Heap) (locs1 : List Loc) (u : XS), u = sa st k (upd (ga st k) i.toNatClampNeg x) → xH D cy ad Ls A s u H1 locs1 → W p l e R s m args below meth c H1 locs1 cells slots Q (F0 m (pc + 1) ls rest)) : W p l e R s m args below meth c H locs cells slots Q (F0 m pc ls (.int x :: .int i :: .ref (ad k) :: rest)) := by
  obtain ⟨hx, hb, hml, hown, hts, hK, hNn⟩ := C
  obtain ⟨q0, hq, hg⟩ := xws_get (ad := ad) (E := xE cy ad st) hk
  rw [xE_row hkd] at hg
  refine va_iast hx hb hK h.1 h.2.1 h.2.2.1 q0 0 hg rfl hin hdg (fun H1 locs1 g1 g2 g3 => ?_)
  have e := (xws_set (e := .inl (cy 0, n, .inl (upd (ga st k) i.toNatClampNeg x))) h.2.1 hq).trans (xws_congr (x_rowE hkd))
  rw [e] at g1 g2
  exact kk H1 locs1 _ rfl ⟨g1, g2, g3, h.2.2.2⟩
theorem x_ast (C : xCx p m c cc nL s args own D cy) (h : xH D cy ad Ls A s st H locs) {k n : Nat} (hk : k ∈ Ls) (hkd : kd k = 100 + n) {i x : Int32} (j : Nat) (hj : j < n) (hn : n < 2 ^ 31) (hi : i = nI j) (hdg : decode cc pc = .ok (.iastore, 1))
    (kk : ∀ (H1 : Heap) (locs1 : List Loc) (u : XS), u = sa st k (upd (ga st k) j x) → xH D cy ad Ls A s u H1 locs1 → W p l e R s m args below meth c H1 locs1 cells slots Q (F0 m (pc + 1) ls rest)) : W p l e R s m args below meth c H locs cells slots Q (F0 m pc ls (.int x :: .int i :: .ref (ad k) :: rest)) := by
  subst hi
  refine x_astI C h hk hkd (vp_in_nI hj hn) hdg ?_
  rw [nI_clamp (by omega)]
  exact kk
/-- a row of references is read -/
theorem x_aldq (C : xCx p m c cc nL s args own D cy) (h : xH D cy ad Ls A s st H locs) {k n : Nat} (hk : k ∈ Ls) (hkd : kd k = 22 ∧ n = 30 ∨ kd k = 23 ∧ n = 6) {i : Int32} (j : Nat) (hj : j < n) (hi : i = nI j) (hdg : decode cc pc = .ok (.aaload, 1))
    (kk : W p l e R s m args below meth c H locs cells slots Q (F0 m (pc + 1) ls (va_rf ((gb st k j).map ad) :: rest))) : W p l e R s m args below meth c H locs cells slots Q (F0 m pc ls (.int i :: .ref (ad k) :: rest)) := by
  obtain ⟨hx, hb, hml, hown, hts, hK, hNn⟩ := C
  obtain ⟨q0, hq, hg⟩ := xws_get (ad := ad) (E := xE cy ad st) hk
  subst hi
  rcases hkd with ⟨hkd, rfl⟩ | ⟨hkd, rfl⟩
  · rw [xE_bills hkd] at hg
    refine va_aldq hx hb hK h.1 q0 2 hg rfl (vp_in_nI hj (by omega)) hdg ?_
    rw [nI_clamp (by omega)]
    exact kk
  · rw [xE_forms hkd] at hg
    refine va_aldq hx hb hK h.1 q0 3 hg rfl (vp_in_nI hj (by omega)) hdg ?_
    rw [nI_clamp (by omega)]
    exact kk
end XROW
