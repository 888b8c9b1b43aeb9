/-! ===== calls over the typed heap ===== -/
theorem xPre_blind {D : va_G} {cy : Nat → ClassId} {ad : Nat → Nat} {Ls : List Nat} {sz : Nat} {st : XS} {av : List Value} : FrameBlind (va_Pc av (xPre D cy ad Ls sz st)) := by
  intro a U g mk h
  obtain ⟨h0, h1, h2, h3, h4, h5, h6⟩ := h
  have hN : xN (U.calling g mk a) := xN.same (u := U) (U := U.calling g mk a) rfl h5
  exact ⟨h0, h1, h2, h3, va_K.moved (u := U) (U := U.calling g mk a) (Vm.Alike.refl U.vm) h4, hN, xV.same (u := U) (U := U.calling g mk a) rfl h6⟩
section XCALL
variable {p : Program} {l : Launch} {e : Env} {R : Room} {s : State} {m : MethodId} {args : Array Value} {below : List Frame} {meth : Method} {c : Code} {H : Heap} {locs : List Loc} {cells slots : Nat} {Q : State → Prop}
variable {cc : ByteArray} {pc nL : Nat} {ls : Array Slot} {rest : List Value} {D : va_G} {cy : Nat → ClassId} {ad : Nat → Nat} {Ls : List Nat} {A : Nat → Prop} {st : XS} {own : String}
theorem xH_lt (h : xH D cy ad Ls A s st H locs) {k : Nat} (hk : k ∈ Ls) : ad k < H.size := by
  obtain ⟨q0, hq, hg⟩ := xws_get (ad := ad) (E := xE cy ad st) hk
  exact (h.1 q0 _ hg).lt
theorem xH_A (h : xH D cy ad Ls A s st H locs) {k : Nat} (hk : k ∈ Ls) : A (ad k) := by
  obtain ⟨q0, hq, hg⟩ := xws_get (ad := ad) (E := xE cy ad st) hk
  exact h.2.1.2 q0 _ hg
theorem xH_sub (h : xH D cy ad Ls A s st H locs) : ∀ q, XA ad Ls H.size q → A q := by
  intro q hq
  rcases hq with ⟨k, hk, rfl⟩ | hq
  · exact xH_A h hk
  · exact h.2.2.2.1 q (Nat.le_trans h.2.2.1.1 hq)
theorem x_pre (C : xCx p m c cc nL s args own D cy) (h : xH D cy ad Ls A s st H locs) : ∀ U : State, U.heap = H → s.WarmedH U.vm → xPre D cy ad Ls H.size st U := by
  intro U hU hW
  obtain ⟨hx, hb, hml, hown, hts, hK, hNn⟩ := C
  exact ⟨by rw [hU], by rw [hU]; exact h.1, h.2.1.weaken (fun _ _ _ _ => trivial), va_K.moved hW.alike hK, xN.warm hW hNn, by rw [hU]; exact ((h.2.2.2.2.kept h.2.2.1.2.1).narrow (xH_sub h)).warm hW⟩
theorem x_recv (C : xCx p m c cc nL s args own D cy) (h : xH D cy ad Ls A s st H locs) {k ci : Nat} {Cn : String} {T : u_T} {N : Nat} (hk : k ∈ Ls) (hkd : kd k = ci) (hc9 : ci < 9) (hc : vwCl[ci]? = some (Cn, T, N)) : ∃ cell : Cell, H[ad k]? = some cell ∧ cell.vm.isStatics = false ∧ s.vm.findClass Cn = some cell.cls := by
  obtain ⟨hx, hb, hml, hown, hts, hK, hNn⟩ := C
  obtain ⟨q0, hq, hg⟩ := xws_get (ad := ad) (E := xE cy ad st) hk
  rw [xE_ob hkd hc9] at hg
  exact va_recv hK h.1 hc hg
variable {y : MethodName} {bytes : ByteArray} {maxL n index : Nat} {ret : Option FieldType} {As st0 : List Value} {mc ms : Nat} {rm : Room}
variable {Pc : Array Value → State → Prop} {Qc : Array Value → State → Outcome → State → Prop} {free : Addr → Prop}
/-- invokevirtual of a method of the same class -/
theorem x_rV (C : xCx p m c cc nL s args own D cy) (h : xH D cy ad Ls A s st H locs) {k ci : Nat} {Cn : String} {T : u_T} {N : Nat} (hk : k ∈ Ls) (hkd : kd k = ci) (hc9 : ci < 9) (hc : vwCl[ci]? = some (Cn, T, N))
    (hM : Met l y (xw y bytes maxL ret) rm (va_Pc (.ref (ad k) :: As) (xPre D cy ad Ls H.size st)) Qc mc ms free) (hrc : rm.cells = mc) (hrs : rm.slots = ms) (hrl : rm.locals = 40 * rm.frames) (hy : y.cls = Cn) (w1 : Cond.methodLink own index y ∈ TB) (w2 : Cond.instanceMethod y ∈ TB) (w3 : Cond.selects Cn y y ∈ TB) (w4 : Cond.initialized Cn ∈ TB) (w5 : Cond.code y bytes maxL ret ∈ TB)
    {na : Nat} (hna : As.length = na) (hd : y.cls ≠ "java/lang/invoke/MethodHandle" ∧ y.cls ≠ "java/lang/invoke/VarHandle" ∧ (parseMethodDescriptor y.desc).map (fun d => d.parameters.length) = some na) (hR : rm.frames + 1 ≤ R.frames ∧ 40 * (rm.frames + 1) ≤ R.locals) (hmax : maxL ≤ 21) (hf : cells + mc ≤ R.cells ∧ slots + ms ≤ R.slots) (hsz : ls.size = nL)
    (hst : st0 = As.reverse ++ .ref (ad k) :: rest) (hrest : (rest.map fun v => v.category).sum ≤ 8) (hdg : decode cc pc = .ok (.invokevirtual index, 3)) : va_Run p l e R s m args below meth c H locs cells slots mc ms (F0 m pc ls st0) rest (Qc (Value.ref (ad k) :: As).toArray) free := by
  have C' := C
  obtain ⟨hx, hb, hml, hown, hts, hK, hNn⟩ := C'
  have hG : GoodIn TB (wsV own index Cn y (xw y bytes maxL ret)) := by
    intro w hw
    have hm : w ∈ TB := by
      unfold wsV xw at hw
      rcases List.mem_append.mp hw with hw | hw
      · simp only [List.mem_cons, List.not_mem_nil, or_false] at hw
        rcases hw with rfl | rfl | rfl | rfl
        · exact w1
        · exact w2
        · exact w3
        · exact w4
      · rcases List.mem_cons.mp hw with rfl | hw
        · exact w5
        · exact hw
    exact ⟨hm, TB_good hm⟩
  exact va_runV (C := Cn) (As := As) (rest := rest) (Ts := TB) ⟨hx, hb, hml, hown, hts⟩ hM (cwV na hts hG rfl hrc hrs ⟨hy, hd⟩ ⟨hR.1, by rw [hrl]; omega⟩) ⟨xPre_blind, x_recv C h hk hkd hc9 hc, fun U hU hW => ⟨rfl, x_pre C h U hU hW⟩⟩ rfl hna hsz hst (lv_room hrest) hdg hf
/-- invokestatic of a method of the same class -/
theorem x_rS (C : xCx p m c cc nL s args own D cy) (h : xH D cy ad Ls A s st H locs)
    (hM : Met l y (xw y bytes maxL ret) rm (va_Pc As (xPre D cy ad Ls H.size st)) Qc mc ms free) (hrc : rm.cells = mc) (hrs : rm.slots = ms) (hrl : rm.locals = 40 * rm.frames) (hy : y.cls = own) (w1 : Cond.methodLink own index y ∈ TB) (w2 : Cond.static y ∈ TB) (w4 : Cond.initialized own ∈ TB) (w5 : Cond.code y bytes maxL ret ∈ TB)
    {na : Nat} (hna : As.length = na) (hd : y.cls ≠ "java/lang/invoke/MethodHandle" ∧ y.cls ≠ "java/lang/invoke/VarHandle" ∧ (parseMethodDescriptor y.desc).map (fun d => d.parameters.length) = some na) (hR : rm.frames + 1 ≤ R.frames ∧ 40 * (rm.frames + 1) ≤ R.locals) (hmax : maxL ≤ 21) (hf : cells + mc ≤ R.cells ∧ slots + ms ≤ R.slots) (hsz : ls.size = nL)
    (hst : st0 = As.reverse ++ rest) (hrest : (rest.map fun v => v.category).sum ≤ 8) (hdg : decode cc pc = .ok (.invokestatic index, 3)) : va_Run p l e R s m args below meth c H locs cells slots mc ms (F0 m pc ls st0) rest (Qc As.toArray) free := by
  have C' := C
  obtain ⟨hx, hb, hml, hown, hts, hK, hNn⟩ := C'
  have hG : GoodIn TB (wsS own index y (xw y bytes maxL ret)) := by
    intro w hw
    have hm : w ∈ TB := by
      unfold wsS xw at hw
      rcases List.mem_append.mp hw with hw | hw
      · simp only [List.mem_cons, List.not_mem_nil, or_false] at hw
        rcases hw with rfl | rfl | rfl
        · exact w1
        · exact w2
        · exact w4
      · rcases List.mem_cons.mp hw with rfl | hw
        · exact w5
        · exact hw
    exact ⟨hm, TB_good hm⟩
  exact va_runS (As := As) (rest := rest) (Ts := TB) ⟨hx, hb, hml, hown, hts⟩ hM (cwS na hts hG rfl hrc hrs ⟨hy, hd⟩ ⟨hR.1, by rw [hrl]; omega⟩) ⟨xPre_blind, fun U hU hW => ⟨rfl, x_pre C h U hU hW⟩⟩ rfl hna hsz hst (lv_room hrest) hdg hf
theorem x_cn (C : xCx p m c cc nL s args own D cy) {host : String} (hrc : rm.cells = mc) (hrs : rm.slots = ms) (hrl : rm.locals = 40 * rm.frames) (w1 : Cond.methodLinkNest own index y host ∈ TN) (w4 : Cond.initialized y.cls ∈ TB) (w5 : Cond.code y bytes maxL ret ∈ TB) {n : Nat}
    (hd : y.cls ≠ "java/lang/invoke/MethodHandle" ∧ y.cls ≠ "java/lang/invoke/VarHandle" ∧ (parseMethodDescriptor y.desc).map (fun d => d.parameters.length) = some n) (hR : rm.frames + 1 ≤ R.frames ∧ 40 * (rm.frames + 1) ≤ R.locals) (hmax : maxL ≤ 21) : va_CN R s args own index y host bytes maxL ret (xw y bytes maxL ret) rm mc ms n := by
  obtain ⟨hx, hb, hml, hown, hts, hK, hNn⟩ := C
  have hG : GoodIn TB (xw y bytes maxL ret) := by
    intro w hw
    rcases List.mem_cons.mp hw with rfl | hw
    · exact ⟨w5, TB_good w5⟩
    · exact ⟨hw, TB_good hw⟩
  exact va_cnB n hts hG rfl hrc hrs (hNn _ w1) (hts _ w4) hd ⟨hR.1, by rw [hrl]; omega⟩
/-- invokevirtual of a nest mate's private method -/
theorem x_rVN (C : xCx p m c cc nL s args own D cy) (h : xH D cy ad Ls A s st H locs) {host : String} {k ci : Nat} {Cn : String} {T : u_T} {N : Nat} (hk : k ∈ Ls) (hkd : kd k = ci) (hc9 : ci < 9) (hc : vwCl[ci]? = some (Cn, T, N))
    (hM : Met l y (xw y bytes maxL ret) rm (va_Pc (.ref (ad k) :: As) (xPre D cy ad Ls H.size st)) Qc mc ms free) (hrc : rm.cells = mc) (hrs : rm.slots = ms) (hrl : rm.locals = 40 * rm.frames) (hy : y.cls = Cn) (w1 : Cond.methodLinkNest own index y host ∈ TN) (w2 : Cond.instanceMethod y ∈ TB) (w3 : Cond.selects Cn y y ∈ TB) (w4 : Cond.initialized Cn ∈ TB) (w5 : Cond.code y bytes maxL ret ∈ TB)
    {na : Nat} (hna : As.length = na) (hd : y.cls ≠ "java/lang/invoke/MethodHandle" ∧ y.cls ≠ "java/lang/invoke/VarHandle" ∧ (parseMethodDescriptor y.desc).map (fun d => d.parameters.length) = some na) (hR : rm.frames + 1 ≤ R.frames ∧ 40 * (rm.frames + 1) ≤ R.locals) (hmax : maxL ≤ 21) (hf : cells + mc ≤ R.cells ∧ slots + ms ≤ R.slots) (hsz : ls.size = nL)
    (hst : st0 = As.reverse ++ .ref (ad k) :: rest) (hrest : (rest.map fun v => v.category).sum ≤ 8) (hdg : decode cc pc = .ok (.invokevirtual index, 3)) : va_Run p l e R s m args below meth c H locs cells slots mc ms (F0 m pc ls st0) rest (Qc (Value.ref (ad k) :: As).toArray) free := by
  have cn := x_cn (R := R) (n := na) C hrc hrs hrl w1 (by rw [hy]; exact w4) w5 hd hR hmax
  have C' := C
  obtain ⟨hx, hb, hml, hown, hts, hK, hNn⟩ := C'
  exact va_runVN (C := Cn) (As := As) (rest := rest) (Ts := TB) ⟨hx, hb, hml, hown, hts⟩ hM ⟨cn, hts _ w2, hts _ w3⟩ ⟨xPre_blind, x_recv C h hk hkd hc9 hc, fun U hU hW => ⟨rfl, x_pre C h U hU hW⟩⟩ rfl hna hsz hst (lv_room hrest) hdg hf
/-- invokestatic of a nest mate's private method -/
theorem x_rSN (C : xCx p m c cc nL s args own D cy) (h : xH D cy ad Ls A s st H locs) {host : String}
    (hM : Met l y (xw y bytes maxL ret) rm (va_Pc As (xPre D cy ad Ls H.size st)) Qc mc ms free) (hrc : rm.cells = mc) (hrs : rm.slots = ms) (hrl : rm.locals = 40 * rm.frames) (w1 : Cond.methodLinkNest own index y host ∈ TN) (w2 : Cond.static y ∈ TB) (w4 : Cond.initialized y.cls ∈ TB) (w5 : Cond.code y bytes maxL ret ∈ TB)
    {na : Nat} (hna : As.length = na) (hd : y.cls ≠ "java/lang/invoke/MethodHandle" ∧ y.cls ≠ "java/lang/invoke/VarHandle" ∧ (parseMethodDescriptor y.desc).map (fun d => d.parameters.length) = some na) (hR : rm.frames + 1 ≤ R.frames ∧ 40 * (rm.frames + 1) ≤ R.locals) (hmax : maxL ≤ 21) (hf : cells + mc ≤ R.cells ∧ slots + ms ≤ R.slots) (hsz : ls.size = nL)
    (hst : st0 = As.reverse ++ rest) (hrest : (rest.map fun v => v.category).sum ≤ 8) (hdg : decode cc pc = .ok (.invokestatic index, 3)) : va_Run p l e R s m args below meth c H locs cells slots mc ms (F0 m pc ls st0) rest (Qc As.toArray) free := by
  have cn := x_cn (R := R) (n := na) C hrc hrs hrl w1 w4 w5 hd hR hmax
  have C' := C
  obtain ⟨hx, hb, hml, hown, hts, hK, hNn⟩ := C'
  exact va_runSN (As := As) (rest := rest) (Ts := TB) ⟨hx, hb, hml, hown, hts⟩ hM ⟨cn, hts _ w2, trivial⟩ ⟨xPre_blind, fun U hU hW => ⟨rfl, x_pre C h U hU hW⟩⟩ rfl hna hsz hst (lv_room hrest) hdg hf
theorem x_after {u : XS} {t : State} {H1 : Heap} {locs1 : List Loc} (h : xH D cy ad Ls A s st H locs) (ht : t.heap = H1) (hB : xPost D cy ad Ls (XA ad Ls H.size) u t) (hS : va_S A s.heap H1 locs1) : xH D cy ad Ls A s u H1 locs1 := by
  subst ht
  exact ⟨hB.1, hB.2.1.weaken (fun _ q _ hq => xH_sub h q.1 hq), hS, h.2.2.2⟩
/-- behind a call that answers an int and makes nothing -/
theorem x_fi {a : Array Value} {post : Int32 → XS → Prop} (h : xH D cy ad Ls A s st H locs) (hr : va_Run p l e R s m args below meth c H locs cells slots 0 0 (F0 m pc ls st0) rest (va_Qi post (fun u => xPost D cy ad Ls (XA ad Ls H.size) u) (XA ad Ls H.size) a) (XA ad Ls H.size))
    (kk : ∀ (r : Int32) (u : XS) (H1 : Heap) (locs1 : List Loc), post r u → xH D cy ad Ls A s u H1 locs1 → W p l e R s m args below meth c H1 locs1 cells slots Q (F0 m (pc + 3) ls (.int r :: rest))) : W p l e R s m args below meth c H locs cells slots Q (F0 m pc ls st0) :=
  va_calli hr h.2.2.1 (fun q _ hq => xH_sub h q hq) (fun q hq => xH_sub h q hq) (fun r u t H1 locs1 ht _ hp hB _ _ hS => kk r u H1 locs1 hp (x_after h ht hB hS))
theorem x_fv {a : Array Value} {post : XS → Prop} (h : xH D cy ad Ls A s st H locs) (hr : va_Run p l e R s m args below meth c H locs cells slots 0 0 (F0 m pc ls st0) rest (va_Qv post (fun u => xPost D cy ad Ls (XA ad Ls H.size) u) (XA ad Ls H.size) a) (XA ad Ls H.size))
    (kk : ∀ (u : XS) (H1 : Heap) (locs1 : List Loc), post u → xH D cy ad Ls A s u H1 locs1 → W p l e R s m args below meth c H1 locs1 cells slots Q (F0 m (pc + 3) ls rest)) : W p l e R s m args below meth c H locs cells slots Q (F0 m pc ls st0) :=
  va_callv hr h.2.2.1 (fun q _ hq => xH_sub h q hq) (fun q hq => xH_sub h q hq) (fun u t H1 locs1 ht _ hp hB _ _ hS => kk u H1 locs1 hp (x_after h ht hB hS))
end XCALL
/-! ===== bodies ===== -/
section XBODY
variable {l : Launch} {y : MethodName} {bytes : ByteArray} {maxL : Nat} {ret : Option FieldType} {D : va_G} {cy : Nat → ClassId} {ad : Nat → Nat} {Ls : List Nat} {st : XS} {av : List Value} {rm : Room} {Qc : Array Value → State → Outcome → State → Prop} {mc ms : Nat} {free : Addr → Prop}
theorem x_of (sz : Nat) (hy : plainName y.cls = true) (hlen : (lg_sl av).length ≤ maxL)
    (body : ∀ (p : Program) (e : Env) (s : State) (m : MethodId) (args : Array Value) (below : List Frame) (meth : Method) (c : Code) (ls : Array Slot), p.tables.exec = Jvm.exec → c.code = bytes → meth.sig.returnType = ret → meth.locks = false → xCx p m c bytes maxL s args y.cls D cy → s.heap.size = sz → xH D cy ad Ls (XA ad Ls sz) s st s.heap [] → lv_has ls maxL (lv_args 0 av) → W p l e rm s m args below meth c s.heap [] 0 0 (MQ below Qc args s mc ms free) (F0 m 0 ls [])) : Met l y (xw y bytes maxL ret) rm (va_Pc av (xPre D cy ad Ls sz st)) Qc mc ms free := by
  refine Met.ofW (cc := bytes) (maxL := maxL) (ret := ret) hy rfl ?_
  intro p e s m args below meth c s₁ B hml hv
  obtain ⟨rfl, hsz, hP, hD, hK, hN, hV⟩ := hv
  have hts : ∀ w ∈ xw y bytes maxL ret, w.before av.toArray s = true := atoms_spec (ws := xw y bytes maxL ret) B.pre
  have hown : s.vm.findClass y.cls = some m.cls := findClass_of_methodNamed B.named
  have hl := lv_entry av (n := maxL) hlen
  rw [lg_entry_eq]
  exact body p e s m _ below meth c _ B.exec B.bytes B.returns B.notSynchronized ⟨B.exec, B.bytes, hml, hown, fun w hw => hts w (List.mem_cons_of_mem _ hw), hK, hN⟩ hsz
    ⟨hP, ⟨hD.1, fun k q hq => Or.inl (by
        unfold xws at hq
        rw [List.getElem?_map] at hq
        cases hk : Ls[k]? with
        | none => rw [hk] at hq; cases hq
        | some b => rw [hk] at hq; cases hq; exact ⟨b, List.mem_of_getElem? hk, rfl⟩)⟩, va_S.rf, fun q hq => Or.inr (by rw [← hsz]; exact hq), hV⟩ hl
end XBODY
section XRET
variable {p : Program} {l : Launch} {e : Env} {R : Room} {s : State} {m : MethodId} {args : Array Value} {below : List Frame} {meth : Method} {c : Code} {H : Heap} {locs : List Loc} {cells slots : Nat}
variable {cc : ByteArray} {pc nL sz : Nat} {ls : Array Slot} {D : va_G} {cy : Nat → ClassId} {ad : Nat → Nat} {Ls : List Nat} {st : XS} {own : String}
theorem x_end {t : State} (C : xCx p m c cc nL s args own D cy) (h : xH D cy ad Ls (XA ad Ls sz) s st H locs) (ht : t.heap = H) (hW : s.WarmedH t.vm) : xPost D cy ad Ls (XA ad Ls sz) st t := by
  subst ht
  exact ⟨h.1, h.2.1, va_K.moved hW.alike C.2.2.2.2.2.1⟩
theorem x_iret {v : Int32} {post : Int32 → XS → Prop} (C : xCx p m c cc nL s args own D cy) (hr : meth.sig.returnType = some .int) (hlocks : meth.locks = false) (h : xH D cy ad Ls (XA ad Ls sz) s st H locs) (hp : post v st) (hdg : decode cc pc = .ok (.ireturn, 1)) :
    W p l e R s m args below meth c H locs cells slots (MQ below (va_Qi post (fun u => xPost D cy ad Ls (XA ad Ls sz) u) (XA ad Ls sz)) args s cells slots (XA ad Ls sz)) (F0 m pc ls [.int v]) :=
  W.iret (v := v) C.1 C.2.1 hr (fun t ht hW => ⟨⟨v, st, rfl, hp, x_end C h ht hW⟩, h.2.2.1.F ht⟩) h.2.2.1.2.2 hdg hlocks
theorem x_zret {v : Int32} {ty : FieldType} {post : Int32 → XS → Prop} (C : xCx p m c cc nL s args own D cy) (hr : meth.sig.returnType = some ty) (hlocks : meth.locks = false) (hn : narrow ty (.int v) = .int v) (h : xH D cy ad Ls (XA ad Ls sz) s st H locs) (hp : post v st) (hdg : decode cc pc = .ok (.ireturn, 1)) :
    W p l e R s m args below meth c H locs cells slots (MQ below (va_Qi post (fun u => xPost D cy ad Ls (XA ad Ls sz) u) (XA ad Ls sz)) args s cells slots (XA ad Ls sz)) (F0 m pc ls [.int v]) :=
  W.zret (v := v) C.1 C.2.1 hr hn (fun t ht hW => ⟨⟨v, st, rfl, hp, x_end C h ht hW⟩, h.2.2.1.F ht⟩) h.2.2.1.2.2 hdg hlocks
theorem x_vret {post : XS → Prop} (C : xCx p m c cc nL s args own D cy) (hr : meth.sig.returnType = none) (hlocks : meth.locks = false) (h : xH D cy ad Ls (XA ad Ls sz) s st H locs) (hp : post st) (hdg : decode cc pc = .ok (.return_, 1)) :
    W p l e R s m args below meth c H locs cells slots (MQ below (va_Qv post (fun u => xPost D cy ad Ls (XA ad Ls sz) u) (XA ad Ls sz)) args s cells slots (XA ad Ls sz)) (F0 m pc ls []) :=
  W.vret C.1 C.2.1 hr (fun t ht hW => ⟨⟨st, rfl, hp, x_end C h ht hW⟩, h.2.2.1.F ht⟩) h.2.2.1.2.2 hdg hlocks
end XRET
