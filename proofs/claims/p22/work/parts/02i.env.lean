/-! ===== contracts that stand on a further thing of the heap that nobody writes (a text) ===== -/
abbrev xEt : Type := (Nat → Prop) → State → Heap → Prop
def xEok (E : xEt) : Prop := (∀ (A : Nat → Prop) (s U : State) (H : Heap), s.WarmedH U.vm → E A s H → E A U H) ∧ (∀ (A : Nat → Prop) (u U : State) (H : Heap), U.vm = u.vm → E A u H → E A U H) ∧ (∀ (A : Nat → Prop) (U : State) (H H1 : Heap), (∀ a : Nat, a < H.size → ¬ A a → H1[a]? = H[a]?) → E A U H → E A U H1) ∧ (∀ (A B : Nat → Prop) (U : State) (H : Heap), (∀ q, B q → A q) → E A U H → E B U H)
def xPreE (E : xEt) (D : va_G) (cy : Nat → ClassId) (ad : Nat → Nat) (Ls : List Nat) (sz : Nat) (st : XS) : State → Prop := fun U => xPre D cy ad Ls sz st U ∧ E (XA ad Ls sz) U U.heap
def xMiE (E : xEt) (l : Launch) (y : MethodName) (bytes : ByteArray) (maxL : Nat) (ret : Option FieldType) (n : Nat) (D : va_G) (cy : Nat → ClassId) (ad : Nat → Nat) (Ls : List Nat) (st : XS) (av : List Value) (post : Int32 → XS → Prop) : Prop :=
  ∀ sz, Met l y (xw y bytes maxL ret) (xR n) (va_Pc av (xPreE E D cy ad Ls sz st)) (va_Qi post (fun u => xPost D cy ad Ls (XA ad Ls sz) u) (XA ad Ls sz)) 0 0 (XA ad Ls sz)
def xByt (v len : Nat) (bs : List Int32) : xEt := fun A U H => va_T .byte v len (fun j => .int (bs.getD j 0)) A U H
def xStr (q v len : Nat) (bs : List Int32) : xEt := fun A U H => va_O "java/lang/String" q A U H ∧ va_OF "java/lang/String" "coder" "B" (.int 0) q A U H ∧ va_OF "java/lang/String" "value" "[B" (.ref v) q A U H ∧ xByt v len bs A U H
theorem xByt_ok (v len : Nat) (bs : List Int32) : xEok (xByt v len bs) :=
  ⟨fun _ _ _ _ hW h => va_T.moved hW.alike h, fun _ u U _ hv h => va_T.moved (by rw [hv]; exact Vm.Alike.refl u.vm) h, fun _ _ _ _ hq h => va_T.kept h hq, fun _ _ _ _ hAB h => va_T.narrow h hAB⟩
theorem xStr_ok (q v len : Nat) (bs : List Int32) : xEok (xStr q v len bs) :=
  ⟨fun _ _ _ _ hW h => ⟨va_O.moved hW.alike h.1, va_OF.moved hW.alike h.2.1, va_OF.moved hW.alike h.2.2.1, (xByt_ok v len bs).1 _ _ _ _ hW h.2.2.2⟩,
   fun _ u U _ hv h => have hA : u.vm.Alike U.vm := by { rw [hv]; exact Vm.Alike.refl u.vm }; ⟨va_O.moved hA h.1, va_OF.moved hA h.2.1, va_OF.moved hA h.2.2.1, va_T.moved hA h.2.2.2⟩,
   fun _ _ _ _ hq h => ⟨va_O.kept h.1 hq, va_OF.kept h.2.1 hq, va_OF.kept h.2.2.1 hq, va_T.kept h.2.2.2 hq⟩,
   fun _ _ _ _ hAB h => ⟨va_O.narrow h.1 hAB, va_OF.narrow h.2.1 hAB, va_OF.narrow h.2.2.1 hAB, va_T.narrow h.2.2.2 hAB⟩⟩
theorem xPreE_blind {E : xEt} (ok : xEok E) {D : va_G} {cy : Nat → ClassId} {ad : Nat → Nat} {Ls : List Nat} {sz : Nat} {st : XS} {av : List Value} : FrameBlind (va_Pc av (xPreE E D cy ad Ls sz st)) := by
  intro a U g mk h
  obtain ⟨h0, h1, h2⟩ := h
  have h3 := xPre_blind (av := av) a U g mk ⟨h0, h1⟩
  exact ⟨h0, h3.2, ok.2.1 _ U (U.calling g mk a) _ rfl h2⟩
section XENV
variable {p : Program} {l : Launch} {e : Env} {R : Room} {s : State} {m : MethodId} {args : Array Value} {below : List Frame} {meth : Method} {c : Code} {H : Heap} {locs : List Loc} {cells slots : Nat} {Q : State → Prop}
variable {cc : ByteArray} {pc nL : Nat} {ls : Array Slot} {rest : List Value} {D : va_G} {cy : Nat → ClassId} {ad : Nat → Nat} {Ls : List Nat} {A : Nat → Prop} {st : XS} {own : String}
variable {y : MethodName} {bytes : ByteArray} {maxL index : Nat} {ret : Option FieldType} {As st0 : List Value} {mc ms : Nat} {rm : Room}
variable {Pc : Array Value → State → Prop} {Qc : Array Value → State → Outcome → State → Prop} {free : Addr → Prop}
theorem x_preE {E : xEt} (ok : xEok E) (C : xCx p m c cc nL s args own D cy) (h : xH D cy ad Ls A s st H locs) (hE : E A s s.heap) : ∀ U : State, U.heap = H → s.WarmedH U.vm → xPreE E D cy ad Ls H.size st U := by
  intro U hU hW
  refine ⟨x_pre C h U hU hW, ?_⟩
  rw [hU]
  exact ok.1 _ _ _ _ hW (ok.2.2.2 _ _ _ _ (xH_sub h) (ok.2.2.1 _ _ _ _ h.2.2.1.2.1 hE))
/-- invokevirtual on any receiver of the class -/
theorem x_rVg (C : xCx p m c cc nL s args own D cy) {b : Nat} {Cn : String} (hrecv : ∃ cell : Cell, H[b]? = some cell ∧ cell.vm.isStatics = false ∧ s.vm.findClass Cn = some cell.cls)
    (hM : Met l y (xw y bytes maxL ret) rm Pc Qc mc ms free) (hbl : FrameBlind Pc) (hpre : ∀ U : State, U.heap = H → s.WarmedH U.vm → Pc (Value.ref b :: As).toArray U) (hrc : rm.cells = mc) (hrs : rm.slots = ms) (hrl : rm.locals = 40 * rm.frames) (hy : y.cls = Cn) (w1 : Cond.methodLink own index y ∈ TB) (w2 : Cond.instanceMethod y ∈ TB) (w3 : Cond.selects Cn y y ∈ TB) (w4 : Cond.initialized Cn ∈ TB) (w5 : Cond.code y bytes maxL ret ∈ TB)
    {na : Nat} (hna : As.length = na) (hd : y.cls ≠ "java/lang/invoke/MethodHandle" ∧ y.cls ≠ "java/lang/invoke/VarHandle" ∧ (parseMethodDescriptor y.desc).map (fun d => d.parameters.length) = some na) (hR : rm.frames + 1 ≤ R.frames ∧ 40 * (rm.frames + 1) ≤ R.locals) (hmax : maxL ≤ 21) (hf : cells + mc ≤ R.cells ∧ slots + ms ≤ R.slots) (hsz : ls.size = nL)
    (hst : st0 = As.reverse ++ .ref b :: rest) (hrest : (rest.map fun v => v.category).sum ≤ 8) (hdg : decode cc pc = .ok (.invokevirtual index, 3)) : va_Run p l e R s m args below meth c H locs cells slots mc ms (F0 m pc ls st0) rest (Qc (Value.ref b :: As).toArray) free := by
  obtain ⟨hx, hb, hml, hown, hts, hK, hNn⟩ := C
  have hG : GoodIn TB (wsV own index Cn y (xw y bytes maxL ret)) := by
    intro w hw
    have hm : w ∈ TB := by
      unfold wsV xw at hw
      rcases List.mem_append.mp hw with hw | hw
      · simp only [List.mem_cons, List.not_mem_nil, or_false] at hw
        rcases hw with rfl | rfl | rfl | rfl
        · exact w1
        · exact w2
        · exact w3
        · exact w4
      · rcases List.mem_cons.mp hw with rfl | hw
        · exact w5
        · exact hw
    exact ⟨hm, TB_good hm⟩
  exact va_runV (C := Cn) (As := As) (rest := rest) (Ts := TB) ⟨hx, hb, hml, hown, hts⟩ hM (cwV na hts hG rfl hrc hrs ⟨hy, hd⟩ ⟨hR.1, by rw [hrl]; omega⟩) ⟨hbl, hrecv, hpre⟩ rfl hna hsz hst (lv_room hrest) hdg hf
/-- invokestatic of a method of any class -/
theorem x_rSg (C : xCx p m c cc nL s args own D cy)
    (hM : Met l y (xw y bytes maxL ret) rm Pc Qc mc ms free) (hbl : FrameBlind Pc) (hpre : ∀ U : State, U.heap = H → s.WarmedH U.vm → Pc As.toArray U) (hrc : rm.cells = mc) (hrs : rm.slots = ms) (hrl : rm.locals = 40 * rm.frames) (w1 : Cond.methodLink own index y ∈ TB) (w2 : Cond.static y ∈ TB) (w4 : Cond.initialized y.cls ∈ TB) (w5 : Cond.code y bytes maxL ret ∈ TB)
    {na : Nat} (hna : As.length = na) (hd : y.cls ≠ "java/lang/invoke/MethodHandle" ∧ y.cls ≠ "java/lang/invoke/VarHandle" ∧ (parseMethodDescriptor y.desc).map (fun d => d.parameters.length) = some na) (hR : rm.frames + 1 ≤ R.frames ∧ 40 * (rm.frames + 1) ≤ R.locals) (hmax : maxL ≤ 21) (hf : cells + mc ≤ R.cells ∧ slots + ms ≤ R.slots) (hsz : ls.size = nL)
    (hst : st0 = As.reverse ++ rest) (hrest : (rest.map fun v => v.category).sum ≤ 8) (hdg : decode cc pc = .ok (.invokestatic index, 3)) : va_Run p l e R s m args below meth c H locs cells slots mc ms (F0 m pc ls st0) rest (Qc As.toArray) free := by
  obtain ⟨hx, hb, hml, hown, hts, hK, hNn⟩ := C
  have hG : GoodIn TB (va_wsS own index y (xw y bytes maxL ret)) := by
    intro w hw
    have hm : w ∈ TB := by
      unfold va_wsS xw at hw
      rcases List.mem_append.mp hw with hw | hw
      · simp only [List.mem_cons, List.not_mem_nil, or_false] at hw
        rcases hw with rfl | rfl | rfl
        · exact w1
        · exact w2
        · exact w4
      · rcases List.mem_cons.mp hw with rfl | hw
        · exact w5
        · exact hw
    exact ⟨hm, TB_good hm⟩
  exact va_runS (As := As) (rest := rest) (Ts := TB) ⟨hx, hb, hml, hown, hts⟩ hM (va_cwS na hts hG rfl hrc hrs hd ⟨hR.1, by rw [hrl]; omega⟩) ⟨hbl, hpre⟩ rfl hna hsz hst (lv_room hrest) hdg hf
end XENV
section XBODYE
variable {l : Launch} {y : MethodName} {bytes : ByteArray} {maxL : Nat} {ret : Option FieldType} {D : va_G} {cy : Nat → ClassId} {ad : Nat → Nat} {Ls : List Nat} {st : XS} {av : List Value} {rm : Room} {Qc : Array Value → State → Outcome → State → Prop} {mc ms : Nat} {free : Addr → Prop}
theorem x_ofE {E : xEt} (sz : Nat) (hy : plainName y.cls = true) (hlen : (lg_sl av).length ≤ maxL)
    (body : ∀ (p : Program) (e : Env) (s : State) (m : MethodId) (args : Array Value) (below : List Frame) (meth : Method) (c : Code) (ls : Array Slot), p.tables.exec = Jvm.exec → c.code = bytes → meth.sig.returnType = ret → meth.locks = false → xCx p m c bytes maxL s args y.cls D cy → s.heap.size = sz → E (XA ad Ls sz) s s.heap → xH D cy ad Ls (XA ad Ls sz) s st s.heap [] → lv_has ls maxL (lv_args 0 av) → W p l e rm s m args below meth c s.heap [] 0 0 (MQ below Qc args s mc ms free) (F0 m 0 ls [])) : Met l y (xw y bytes maxL ret) rm (va_Pc av (xPreE E D cy ad Ls sz st)) Qc mc ms free := by
  refine Met.ofW (cc := bytes) (maxL := maxL) (ret := ret) hy rfl ?_
  intro p e s m args below meth c s₁ B hml hv
  obtain ⟨rfl, ⟨hsz, hP, hD, hK, hN, hV⟩, hE⟩ := hv
  have hts : ∀ w ∈ xw y bytes maxL ret, w.before av.toArray s = true := atoms_spec (ws := xw y bytes maxL ret) B.pre
  have hown : s.vm.findClass y.cls = some m.cls := findClass_of_methodNamed B.named
  have hl := lv_entry av (n := maxL) hlen
  rw [lg_entry_eq]
  exact body p e s m _ below meth c _ B.exec B.bytes B.returns B.notSynchronized ⟨B.exec, B.bytes, hml, hown, fun w hw => hts w (List.mem_cons_of_mem _ hw), hK, hN⟩ hsz hE
    ⟨hP, ⟨hD.1, fun k q hq => Or.inl (by
        unfold xws at hq
        rw [List.getElem?_map] at hq
        cases hk : Ls[k]? with
        | none => rw [hk] at hq; cases hq
        | some b => rw [hk] at hq; cases hq; exact ⟨b, List.mem_of_getElem? hk, rfl⟩)⟩, va_S.rf, fun q hq => Or.inr (by rw [← hsz]; exact hq), hV⟩ hl
end XBODYE
theorem x_room {n N : Nat} (h : n + 1 ≤ N) : n + 1 ≤ (xR N).frames ∧ 40 * (n + 1) ≤ (xR N).locals := ⟨h, Nat.mul_le_mul_left 40 h⟩
