/-! ===== answers that are references, rows of references, throws over the typed heap ===== -/
def xRX (n mc ms : Nat) : Room := { frames := n, cells := mc, slots := ms, locals := 40 * n }
theorem x_roomX {n N mc ms : Nat} (h : n + 1 ≤ N) : n + 1 ≤ (xRX N mc ms).frames ∧ 40 * (n + 1) ≤ (xRX N mc ms).locals := ⟨h, Nat.mul_le_mul_left 40 h⟩
/-- thrown: the state stands as it was -/
def xXX (ex : String → Prop) (D : va_G) (cy : Nat → ClassId) (ad : Nat → Nat) (Ls : List Nat) (A : Nat → Prop) (st : XS) : String → State → State → Prop :=
  vx_X (fun u : XS => u = st) (fun E u t => ex E ∧ xPost D cy ad Ls A u t) A
def xXi (l : Launch) (y : MethodName) (bytes : ByteArray) (maxL : Nat) (ret : Option FieldType) (n mc ms : Nat) (D : va_G) (cy : Nat → ClassId) (ad : Nat → Nat) (Ls : List Nat) (st : XS) (av : List Value) (ex : String → Prop) (post : Int32 → XS → Prop) : Prop :=
  ∀ sz, vx_Met l y (xw y bytes maxL ret) (xRX n mc ms) (va_Pc av (xPre D cy ad Ls sz st)) (va_Qi post (fun u => xPost D cy ad Ls (XA ad Ls sz) u) (XA ad Ls sz)) (xXX ex D cy ad Ls (XA ad Ls sz) st) mc ms (XA ad Ls sz)
def xXv (l : Launch) (y : MethodName) (bytes : ByteArray) (maxL : Nat) (n mc ms : Nat) (D : va_G) (cy : Nat → ClassId) (ad : Nat → Nat) (Ls : List Nat) (st : XS) (av : List Value) (ex : String → Prop) (post : XS → Prop) : Prop :=
  ∀ sz, vx_Met l y (xw y bytes maxL none) (xRX n mc ms) (va_Pc av (xPre D cy ad Ls sz st)) (va_Qv post (fun u => xPost D cy ad Ls (XA ad Ls sz) u) (XA ad Ls sz)) (xXX ex D cy ad Ls (XA ad Ls sz) st) mc ms (XA ad Ls sz)
def xXe (l : Launch) (y : MethodName) (bytes : ByteArray) (maxL : Nat) (ret : Option FieldType) (n mc ms : Nat) (D : va_G) (cy : Nat → ClassId) (ad : Nat → Nat) (Ls : List Nat) (st : XS) (av : List Value) (ex : String → Prop) (post : Option Nat → XS → Prop) : Prop :=
  ∀ sz, vx_Met l y (xw y bytes maxL ret) (xRX n mc ms) (va_Pc av (xPre D cy ad Ls sz st)) (va_Qe ad post (fun u => xPost D cy ad Ls (XA ad Ls sz) u) (XA ad Ls sz)) (xXX ex D cy ad Ls (XA ad Ls sz) st) mc ms (XA ad Ls sz)
/-- a contract that answers a label -/
def xMe (l : Launch) (y : MethodName) (bytes : ByteArray) (maxL : Nat) (ret : Option FieldType) (n : Nat) (D : va_G) (cy : Nat → ClassId) (ad : Nat → Nat) (Ls : List Nat) (st : XS) (av : List Value) (post : Option Nat → XS → Prop) : Prop :=
  ∀ sz, Met l y (xw y bytes maxL ret) (xR n) (va_Pc av (xPre D cy ad Ls sz st)) (va_Qe ad post (fun u => xPost D cy ad Ls (XA ad Ls sz) u) (XA ad Ls sz)) 0 0 (XA ad Ls sz)
section XREF
variable {p : Program} {l : Launch} {e : Env} {R : Room} {s : State} {m : MethodId} {args : Array Value} {below : List Frame} {meth : Method} {c : Code} {H : Heap} {locs : List Loc} {cells slots : Nat} {Q : State → Prop}
variable {cc : ByteArray} {pc nL sz : Nat} {ls : Array Slot} {rest : List Value} {D : va_G} {cy : Nat → ClassId} {ad : Nat → Nat} {Ls : List Nat} {A : Nat → Prop} {st : XS} {own : String}
theorem x_aret0 {Qc : Array Value → State → Outcome → State → Prop} {free : Addr → Prop} {v : Value} {ty : FieldType} (hv : v.isRef = true) (hexec : p.tables.exec = Jvm.exec) (hb : c.code = cc) (hr : meth.sig.returnType = some ty) (hty : ty.isReference = true)
    (hq : ∀ t : State, t.heap = H → s.WarmedH t.vm → Qc args s (.returned (some v)) t) (hf : ∀ q ∈ locs, free q.base)
    (hdg : decode cc pc = .ok (.areturn, 1)) (hlocks : meth.locks = false) : W p l e R s m args below meth c H locs cells slots (MQ below Qc args s cells slots free) (F0 m pc ls [v]) := by
  intro T hT X
  obtain ⟨fs, hret, hrun, hended, hW, hframe⟩ := X.leave (v := some v) (fun h => by rw [hr] at h; cases h)
  have hb' : decode c.code pc = .ok (.areturn, 1) := by rw [hb]; exact hdg
  exact ⟨T.setFrames fs, X.areturnOut hexec hv hr hty hb' (fun f acts h1 h2 h3 => hret f acts h1 h2 h3), .returned (some v), hrun, hended, hq _ hT hW, locs, ⟨⟨_, rfl⟩, hW, hframe⟩, hf⟩
theorem x_aret {r : Option Nat} {ty : FieldType} {post : Option Nat → XS → Prop} (C : xCx p m c cc nL s args own D cy) (hr : meth.sig.returnType = some ty) (hty : ty.isReference = true) (hlocks : meth.locks = false) (h : xH D cy ad Ls (XA ad Ls sz) s st H locs) (hp : post r st) (hdg : decode cc pc = .ok (.areturn, 1)) :
    W p l e R s m args below meth c H locs cells slots (MQ below (va_Qe ad post (fun u => xPost D cy ad Ls (XA ad Ls sz) u) (XA ad Ls sz)) args s cells slots (XA ad Ls sz)) (F0 m pc ls [va_re ad r]) :=
  x_aret0 (by cases r <;> rfl) C.1 C.2.1 hr hty (fun t ht hW => ⟨⟨r, st, rfl, hp, x_end C h ht hW⟩, h.2.2.1.F ht⟩) h.2.2.1.2.2 hdg hlocks
theorem x_alenq (C : xCx p m c cc nL s args own D cy) (h : xH D cy ad Ls A s st H locs) {k n : Nat} (hk : k ∈ Ls) (hkd : kd k = 22 ∧ n = 30 ∨ kd k = 23 ∧ n = 6) (hdg : decode cc pc = .ok (.arraylength, 1))
    (kk : W p l e R s m args below meth c H locs cells slots Q (F0 m (pc + 1) ls (.int (nI n) :: rest))) : W p l e R s m args below meth c H locs cells slots Q (F0 m pc ls (.ref (ad k) :: rest)) := by
  obtain ⟨hx, hb, hml, hown, hts, hK, hNn⟩ := C
  obtain ⟨q0, hq, hg⟩ := xws_get (ad := ad) (E := xE cy ad st) hk
  rcases hkd with ⟨hkd, rfl⟩ | ⟨hkd, rfl⟩
  · rw [xE_bills hkd] at hg
    exact va_alen hx hb hK h.1 q0 2 hg rfl rfl hdg kk
  · rw [xE_forms hkd] at hg
    exact va_alen hx hb hK h.1 q0 3 hg rfl rfl hdg kk
theorem x_upq {ad : Nat → Nat} {f : Nat → Option Nat} {j kv : Nat} : va_up (fun i => (f i).map ad) j (some (ad kv)) = fun i => (if i = j then some kv else f i).map ad := by
  funext i
  unfold va_up
  by_cases hj : i = j
  · rw [if_pos hj, if_pos hj]; rfl
  · rw [if_neg hj, if_neg hj]
/-- a row of references is written -/
theorem x_astq (C : xCx p m c cc nL s args own D cy) (h : xH D cy ad Ls A s st H locs) {k n kv ci : Nat} (hk : k ∈ Ls) (hkv : kv ∈ Ls) (hkd : kd k = 22 ∧ n = 30 ∧ kd kv = 0 ∨ kd k = 23 ∧ n = 6 ∧ kd kv = 1) {i : Int32} (j : Nat) (hj : j < n) (hi : i = nI j) (hdg : decode cc pc = .ok (.aastore, 1))
    (kk : ∀ (H1 : Heap) (locs1 : List Loc) (u : XS), u = sb st k (fun z => if z = j then some kv else gb st k z) → xH D cy ad Ls A s u H1 locs1 → W p l e R s m args below meth c H1 locs1 cells slots Q (F0 m (pc + 1) ls rest)) : W p l e R s m args below meth c H locs cells slots Q (F0 m pc ls (.ref (ad kv) :: .int i :: .ref (ad k) :: rest)) := by
  obtain ⟨hx, hb, hml, hown, hts, hK, hNn⟩ := C
  obtain ⟨q0, hq, hg⟩ := xws_get (ad := ad) (E := xE cy ad st) hk
  obtain ⟨q1, hq1, hg1⟩ := xws_get (ad := ad) (E := xE cy ad st) hkv
  subst hi
  have hgb : ∀ (f : Nat → Option Nat) (i' : Nat), gb (sb st k f) i' = if i' = k then f else gb st i' := fun f i' => gb_sb st k i' f
  rcases hkd with ⟨hkd, rfl, hkv0⟩ | ⟨hkd, rfl, hkv0⟩
  · rw [xE_bills hkd] at hg
    rw [xE_ob hkv0 (by decide)] at hg1
    refine va_astq hx hb hK h.1 h.2.1 h.2.2.1 q0 2 q1 0 hg rfl hg1 rfl (vp_in_nI hj (by omega)) hdg (fun H1 locs1 g1 g2 g3 => ?_)
    rw [nI_clamp (by omega), x_upq] at g1 g2
    have e := (xws_set (e := .inl (cy 2, 30, .inr (.inr (.inr (.inr (fun i => (if i = j then some kv else gb st k i).map ad)))))) h.2.1 hq).trans (xws_congr (E' := xE cy ad (sb st k (fun z => if z = j then some kv else gb st k z))) (by
      intro i
      unfold xu1
      by_cases hj : i = k
      · subst hj
        rw [if_pos rfl, xE_bills hkd, hgb, if_pos rfl]
      · rw [if_neg hj]
        unfold xE
        simp only [hgb, if_neg hj]
        rfl))
    rw [e] at g1 g2
    exact kk H1 locs1 _ rfl ⟨g1, g2, g3, h.2.2.2⟩
  · rw [xE_forms hkd] at hg
    rw [xE_ob hkv0 (by decide)] at hg1
    refine va_astq hx hb hK h.1 h.2.1 h.2.2.1 q0 3 q1 1 hg rfl hg1 rfl (vp_in_nI hj (by omega)) hdg (fun H1 locs1 g1 g2 g3 => ?_)
    rw [nI_clamp (by omega), x_upq] at g1 g2
    have e := (xws_set (e := .inl (cy 3, 6, .inr (.inr (.inr (.inr (fun i => (if i = j then some kv else gb st k i).map ad)))))) h.2.1 hq).trans (xws_congr (E' := xE cy ad (sb st k (fun z => if z = j then some kv else gb st k z))) (by
      intro i
      unfold xu1
      by_cases hj : i = k
      · subst hj
        rw [if_pos rfl, xE_forms hkd, hgb, if_pos rfl]
      · rw [if_neg hj]
        unfold xE
        simp only [hgb, if_neg hj]
        rfl))
    rw [e] at g1 g2
    exact kk H1 locs1 _ rfl ⟨g1, g2, g3, h.2.2.2⟩
/-- behind a call that answers a label and makes nothing -/
theorem x_fe {a : Array Value} {post : Option Nat → XS → Prop} {st0 : List Value} (h : xH D cy ad Ls A s st H locs) (hr : va_Run p l e R s m args below meth c H locs cells slots 0 0 (F0 m pc ls st0) rest (va_Qe ad post (fun u => xPost D cy ad Ls (XA ad Ls H.size) u) (XA ad Ls H.size) a) (XA ad Ls H.size))
    (kk : ∀ (r : Option Nat) (u : XS) (H1 : Heap) (locs1 : List Loc), post r u → xH D cy ad Ls A s u H1 locs1 → W p l e R s m args below meth c H1 locs1 cells slots Q (F0 m (pc + 3) ls (va_re ad r :: rest))) : W p l e R s m args below meth c H locs cells slots Q (F0 m pc ls st0) :=
  va_calle hr h.2.2.1 (fun q _ hq => xH_sub h q hq) (fun q hq => xH_sub h q hq) (fun r u t H1 locs1 ht _ hp hB _ _ hS => kk r u H1 locs1 hp (x_after h ht hB hS))
-- ends
variable {mc ms : Nat} {XC : String → State → State → Prop}
theorem x_vretX {post : XS → Prop} (C : xCx p m c cc nL s args own D cy) (hr : meth.sig.returnType = none) (hlocks : meth.locks = false) (h : xH D cy ad Ls (XA ad Ls sz) s st H locs) (hc : cells ≤ mc) (hs : slots ≤ ms) (hp : post st) (hdg : decode cc pc = .ok (.return_, 1)) :
    W p l e R s m args below meth c H locs cells slots (vx_MQ below (va_Qv post (fun u => xPost D cy ad Ls (XA ad Ls sz) u) (XA ad Ls sz)) XC args s mc ms (XA ad Ls sz)) (F0 m pc ls []) := vx_ret (W.widen (k := mc) (n := ms) hc hs (x_vret C hr hlocks h hp hdg))
theorem x_iretX {v : Int32} {post : Int32 → XS → Prop} (C : xCx p m c cc nL s args own D cy) (hr : meth.sig.returnType = some .int) (hlocks : meth.locks = false) (h : xH D cy ad Ls (XA ad Ls sz) s st H locs) (hc : cells ≤ mc) (hs : slots ≤ ms) (hp : post v st) (hdg : decode cc pc = .ok (.ireturn, 1)) :
    W p l e R s m args below meth c H locs cells slots (vx_MQ below (va_Qi post (fun u => xPost D cy ad Ls (XA ad Ls sz) u) (XA ad Ls sz)) XC args s mc ms (XA ad Ls sz)) (F0 m pc ls [.int v]) := vx_ret (W.widen (k := mc) (n := ms) hc hs (x_iret C hr hlocks h hp hdg))
theorem x_zretX {v : Int32} {ty : FieldType} {post : Int32 → XS → Prop} (C : xCx p m c cc nL s args own D cy) (hr : meth.sig.returnType = some ty) (hlocks : meth.locks = false) (hn : narrow ty (.int v) = .int v) (h : xH D cy ad Ls (XA ad Ls sz) s st H locs) (hc : cells ≤ mc) (hs : slots ≤ ms) (hp : post v st) (hdg : decode cc pc = .ok (.ireturn, 1)) :
    W p l e R s m args below meth c H locs cells slots (vx_MQ below (va_Qi post (fun u => xPost D cy ad Ls (XA ad Ls sz) u) (XA ad Ls sz)) XC args s mc ms (XA ad Ls sz)) (F0 m pc ls [.int v]) := vx_ret (W.widen (k := mc) (n := ms) hc hs (x_zret C hr hlocks hn h hp hdg))
theorem x_aretX {r : Option Nat} {ty : FieldType} {post : Option Nat → XS → Prop} (C : xCx p m c cc nL s args own D cy) (hr : meth.sig.returnType = some ty) (hty : ty.isReference = true) (hlocks : meth.locks = false) (h : xH D cy ad Ls (XA ad Ls sz) s st H locs) (hc : cells ≤ mc) (hs : slots ≤ ms) (hp : post r st) (hdg : decode cc pc = .ok (.areturn, 1)) :
    W p l e R s m args below meth c H locs cells slots (vx_MQ below (va_Qe ad post (fun u => xPost D cy ad Ls (XA ad Ls sz) u) (XA ad Ls sz)) XC args s mc ms (XA ad Ls sz)) (F0 m pc ls [va_re ad r]) := vx_ret (W.widen (k := mc) (n := ms) hc hs (x_aret C hr hty hlocks h hp hdg))
-- throws
theorem x_grown {t : State} (C : xCx p m c cc nL s args own D cy) (h : xH D cy ad Ls (XA ad Ls sz) s st H locs) (hA : s.vm.Alike t.vm) (hz : H.size ≤ t.heap.size) (hq : ∀ q : Nat, q < H.size → t.heap[q]? = H[q]?) : xPost D cy ad Ls (XA ad Ls sz) st t ∧ va_F (XA ad Ls sz) s t := by
  refine ⟨⟨h.1.kept fun k q hk => hq _ (h.1 k q hk).lt, h.2.1, va_K.moved hA C.2.2.2.2.2.1⟩, Nat.le_trans h.2.2.1.1 hz, fun q h1 h2 => ?_⟩
  rw [hq q (Nat.lt_of_lt_of_le h1 h.2.2.1.1)]
  exact h.2.2.1.2.1 q h1 h2
def xNm : List String := ["java/lang/RuntimeException", "java/lang/Exception"]
/-- the words of a throw, decided once for a class -/
def xThr (own : String) (ik ic : Nat) (cls : String) : Prop := Bundle.fit cls = true ∧ ∀ w ∈ Cond.classLink own ik cls :: Cond.initialized cls :: vx_atS own ic cls xNm, (w ∈ TB ∨ w ∈ TN ∧ w.onTables = true) ∧ vx_ot w = true
theorem x_before (C : xCx p m c cc nL s args own D cy) {w : Cond} (h : w ∈ TB ∨ w ∈ TN ∧ w.onTables = true) : w.before args s = true := by
  obtain ⟨hx, hb, hml, hown, hts, hK, hNn⟩ := C
  rcases h with h | h
  · exact hts w h
  · exact va_Nw.use h.2 (hNn w h.1)
theorem x_thr {cls text : String} {ik is ic : Nat} {ex : String → Prop} {st0 : XS} {Qc : Array Value → State → Outcome → State → Prop} (C : xCx p m c cc nL s args "InvoiceSmith" D cy) (h : xH D cy ad Ls (XA ad Ls sz) s st H locs) (hl0 : l.stackTraces = false) (hT0 : ∀ x ∈ c.exceptionTable.toList, False) (hlocks : meth.locks = false)
    (hw : xThr "InvoiceSmith" ik ic cls) (hsr : ("InvoiceSmith", is, text) ∈ SRs) (hsz : ls.size = nL) (hR : 5 < R.frames ∧ (rest.map fun v => v.category).sum + 82 ≤ R.locals) (hRc : cells + 1 ≤ R.cells ∧ slots + 6 ≤ R.slots) (hc : cells + 1 ≤ mc ∧ slots + 6 ≤ ms) (hst : st = st0) (hex : ex cls)
    (d0 : decode cc pc = .ok (.new ik, 3)) (d3 : decode cc (pc + 3) = .ok (.dup, 1)) (d4 : decode cc (pc + 4) = .ok (.ldc is, 2)) (d6 : decode cc (pc + 6) = .ok (.invokespecial ic, 3)) (d9 : decode cc (pc + 9) = .ok (.athrow, 1)) :
    W p l e R s m args below meth c H locs cells slots (vx_MQ below Qc (xXX ex D cy ad Ls (XA ad Ls sz) st0) args s mc ms (XA ad Ls sz)) (F0 m pc ls rest) := by
  subst hst
  obtain ⟨hfit, hw⟩ := hw
  obtain ⟨sa, hstr⟩ := h.2.2.2.2.2.2.2.2.1 _ hsr
  have hx := C.1
  have hb := C.2.1
  refine vx_throwS (A := XA ad Ls sz) (names := xNm) hx hb hl0 C.2.2.2.1 hfit (by decide) (x_before C (hw _ List.mem_cons_self).1) (x_before C (hw _ (List.mem_cons_of_mem _ List.mem_cons_self)).1) hstr (fun w hw9 => x_before C (hw _ (List.mem_cons_of_mem _ (List.mem_cons_of_mem _ hw9))).1) (fun w hw9 => (hw w hw9).2) h.2.2.2.2.1 h.2.2.2.2.2.1 h.2.2.1 (hsz.trans C.2.2.1.symm) d0 d3 d4 d6 d9 (fun x hx => (hT0 x hx).elim) hR.1 hR.2 hRc.1 hRc.2 hlocks ?_ h.2.2.1.2.2 hc.1 hc.2
  intro t hA hz hq
  obtain ⟨g1, g2⟩ := x_grown C h hA hz hq
  exact ⟨_, rfl, ⟨hex, g1⟩, g2⟩
theorem x_thrW {cls text : String} {ik is ic : Nat} {ex : String → Prop} {st0 : XS} {Qc : Array Value → State → Outcome → State → Prop} (C : xCx p m c cc nL s args "InvoiceSmith" D cy) (h : xH D cy ad Ls (XA ad Ls sz) s st H locs) (hl0 : l.stackTraces = false) (hT0 : ∀ x ∈ c.exceptionTable.toList, False) (hlocks : meth.locks = false)
    (hw : xThr "InvoiceSmith" ik ic cls) (hsr : ("InvoiceSmith", is, text) ∈ SRs) (hsz : ls.size = nL) (hR : 5 < R.frames ∧ (rest.map fun v => v.category).sum + 82 ≤ R.locals) (hRc : cells + 1 ≤ R.cells ∧ slots + 6 ≤ R.slots) (hc : cells + 1 ≤ mc ∧ slots + 6 ≤ ms) (hst : st = st0) (hex : ex cls)
    (d0 : decode cc pc = .ok (.new ik, 3)) (d3 : decode cc (pc + 3) = .ok (.dup, 1)) (d4 : decode cc (pc + 4) = .ok (.ldc_w is, 3)) (d7 : decode cc (pc + 7) = .ok (.invokespecial ic, 3)) (d10 : decode cc (pc + 10) = .ok (.athrow, 1)) :
    W p l e R s m args below meth c H locs cells slots (vx_MQ below Qc (xXX ex D cy ad Ls (XA ad Ls sz) st0) args s mc ms (XA ad Ls sz)) (F0 m pc ls rest) := by
  subst hst
  obtain ⟨hfit, hw⟩ := hw
  obtain ⟨sa, hstr⟩ := h.2.2.2.2.2.2.2.2.1 _ hsr
  have hx := C.1
  have hb := C.2.1
  refine vx_throwSW (A := XA ad Ls sz) (names := xNm) hx hb hl0 C.2.2.2.1 hfit (by decide) (x_before C (hw _ List.mem_cons_self).1) (x_before C (hw _ (List.mem_cons_of_mem _ List.mem_cons_self)).1) hstr (fun w hw9 => x_before C (hw _ (List.mem_cons_of_mem _ (List.mem_cons_of_mem _ hw9))).1) (fun w hw9 => (hw w hw9).2) h.2.2.2.2.1 h.2.2.2.2.2.1 h.2.2.1 (hsz.trans C.2.2.1.symm) d0 d3 d4 d7 d10 (fun x hx => (hT0 x hx).elim) hR.1 hR.2 hRc.1 hRc.2 hlocks ?_ h.2.2.1.2.2 hc.1 hc.2
  intro t hA hz hq
  obtain ⟨g1, g2⟩ := x_grown C h hA hz hq
  exact ⟨_, rfl, ⟨hex, g1⟩, g2⟩
end XREF
set_option maxRecDepth 100000 in
theorem th_IOB : xThr "InvoiceSmith" 97 101 eIOB := ⟨by decide +kernel, by decide +kernel⟩
set_option maxRecDepth 100000 in
theorem th_IAE : xThr "InvoiceSmith" 74 78 eIAE := ⟨by decide +kernel, by decide +kernel⟩
set_option maxRecDepth 100000 in
theorem th_ISE : xThr "InvoiceSmith" 85 89 eISE := ⟨by decide +kernel, by decide +kernel⟩
