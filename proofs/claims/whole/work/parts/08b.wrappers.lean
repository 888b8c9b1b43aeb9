/-! ===== the law's wrappers ===== -/
def xwH (y : MethodName) (bytes : ByteArray) (maxL : Nat) (hh : List (Nat × Nat × Nat × Nat)) : List Cond := Cond.codeWith y bytes maxL (some .int) hh :: TB
/-- a wrapper's contract: state, addresses, labels behind it -/
def xMw (l : Launch) (y : MethodName) (bytes : ByteArray) (maxL : Nat) (hh : List (Nat × Nat × Nat × Nat)) (n mc ms : Nat) (D : va_G) (cy : Nat → ClassId) (ad : Nat → Nat) (Ls : List Nat) (st : XS) (av : List Value) (post : Int32 → XS × (Nat → Nat) × List Nat → Prop) : Prop :=
  ∀ sz, Met l y (xwH y bytes maxL hh) (xRX n mc ms) (va_Pc av (xPre D cy ad Ls sz st)) (va_Qi post (fun u => xPost D cy u.2.1 u.2.2 (XA ad Ls sz) u.1) (XA ad Ls sz)) mc ms (XA ad Ls sz)
theorem x_ofH {l : Launch} {y : MethodName} {bytes : ByteArray} {maxL : Nat} {hh : List (Nat × Nat × Nat × Nat)} {D : va_G} {cy : Nat → ClassId} {ad : Nat → Nat} {Ls : List Nat} {st : XS} {av : List Value} {rm : Room} {Qc : Array Value → State → Outcome → State → Prop} {mc ms : Nat} {free : Addr → Prop} (sz : Nat) (hy : plainName y.cls = true) (hlen : (lg_sl av).length ≤ maxL)
    (body : ∀ (p : Program) (e : Env) (s : State) (m : MethodId) (args : Array Value) (below : List Frame) (meth : Method) (c : Code) (ls : Array Slot), p.tables.exec = Jvm.exec → c.code = bytes → meth.sig.returnType = some .int → meth.locks = false → c.exceptionTable.toList = Jvm.tableOf hh → xCx p m c bytes maxL s args y.cls D cy → s.heap.size = sz → xH D cy ad Ls (XA ad Ls sz) s st s.heap [] → lv_has ls maxL (lv_args 0 av) → W p l e rm s m args below meth c s.heap [] 0 0 (MQ below Qc args s mc ms free) (F0 m 0 ls [])) : Met l y (xwH y bytes maxL hh) rm (va_Pc av (xPre D cy ad Ls sz st)) Qc mc ms free := by
  refine va_MetW (cc := bytes) (maxL := maxL) (ret := some .int) (hh := hh) hy rfl ?_
  intro p e s m args below meth c s₁ B hml hv
  obtain ⟨rfl, hsz, hP, hD, hK, hN, hV⟩ := hv
  have hts : ∀ w ∈ xwH y bytes maxL hh, w.before av.toArray s = true := atoms_spec (ws := xwH y bytes maxL hh) B.pre
  have hown : s.vm.findClass y.cls = some m.cls := findClass_of_methodNamed B.named
  have hl := lv_entry av (n := maxL) hlen
  rw [lg_entry_eq]
  exact body p e s m _ below meth c _ B.exec B.bytes B.returns B.notSynchronized (vx_table (x := y) B (hts _ List.mem_cons_self)) ⟨B.exec, B.bytes, hml, hown, fun w hw => hts w (List.mem_cons_of_mem _ hw), hK, hN⟩ hsz
    ⟨hP, ⟨hD.1, fun k q hq => Or.inl (by
        unfold xws at hq
        rw [List.getElem?_map] at hq
        cases hk : Ls[k]? with
        | none => rw [hk] at hq; cases hq
        | some b => rw [hk] at hq; cases hq; exact ⟨b, List.mem_of_getElem? hk, rfl⟩)⟩, va_S.rf, fun q hq => Or.inr (by rw [← hsz]; exact hq), hV⟩ hl
section XW
variable {p : Program} {l : Launch} {e : Env} {R : Room} {s : State} {m : MethodId} {args : Array Value} {below : List Frame} {meth : Method} {c : Code} {H : Heap} {locs : List Loc} {cells slots : Nat} {Q : State → Prop}
variable {cc : ByteArray} {pc nL : Nat} {ls : Array Slot} {rest : List Value} {D : va_G} {cy : Nat → ClassId} {ad : Nat → Nat} {Ls : List Nat} {A : Nat → Prop} {st : XS} {own : String}
theorem x_iretH {v : Int32} {post : Int32 → XS × (Nat → Nat) × List Nat → Prop} (C : xCx p m c cc nL s args own D cy) (hr : meth.sig.returnType = some .int) (hlocks : meth.locks = false) (h : xH D cy ad Ls A s st H locs) (hp : post v (st, ad, Ls)) (hdg : decode cc pc = .ok (.ireturn, 1)) :
    W p l e R s m args below meth c H locs cells slots (MQ below (va_Qi post (fun u => xPost D cy u.2.1 u.2.2 A u.1) A) args s cells slots A) (F0 m pc ls [.int v]) :=
  W.iret (v := v) C.1 C.2.1 hr (fun t ht hW => ⟨⟨v, (st, ad, Ls), rfl, hp, by subst ht; exact ⟨h.1, h.2.1, va_K.moved hW.alike C.2.2.2.2.2.1⟩⟩, h.2.2.1.F ht⟩) h.2.2.1.2.2 hdg hlocks
theorem x_lald (C : xCx p m c cc nL s args own D cy) (h : xH D cy ad Ls A s st H locs) {k : Nat} (hk : k ∈ Ls) (hkd : kd k = 25) {i : Int32} (hi : i = nI 0) (hdg : decode cc pc = .ok (.laload, 1))
    (kk : W p l e R s m args below meth c H locs cells slots Q (F0 m (pc + 1) ls (.long (gl st 0 k) :: rest))) : W p l e R s m args below meth c H locs cells slots Q (F0 m pc ls (.int i :: .ref (ad k) :: rest)) := by
  obtain ⟨hx, hb, hml, hown, hts, hK, hNn⟩ := C
  obtain ⟨q0, hq, hg⟩ := xws_get (ad := ad) (E := xE cy ad st) hk
  rw [xE_longs hkd] at hg
  subst hi
  exact va_lald hx hb hK h.1 q0 4 hg rfl (vp_in_nI (by decide) (by decide)) hdg kk
theorem x_last (C : xCx p m c cc nL s args own D cy) (h : xH D cy ad Ls A s st H locs) {k : Nat} (hk : k ∈ Ls) (hkd : kd k = 25) {i : Int32} {x : Int64} (hi : i = nI 0) (hdg : decode cc pc = .ok (.lastore, 1))
    (kk : ∀ (H1 : Heap) (locs1 : List Loc) (u : XS), u = sl st 0 k x → xH D cy ad Ls A s u H1 locs1 → W p l e R s m args below meth c H1 locs1 cells slots Q (F0 m (pc + 1) ls rest)) : W p l e R s m args below meth c H locs cells slots Q (F0 m pc ls (.long x :: .int i :: .ref (ad k) :: rest)) := by
  obtain ⟨hx, hb, hml, hown, hts, hK, hNn⟩ := C
  obtain ⟨q0, hq, hg⟩ := xws_get (ad := ad) (E := xE cy ad st) hk
  rw [xE_longs hkd] at hg
  subst hi
  refine va_last hx hb hK h.1 h.2.1 h.2.2.1 q0 4 hg rfl (vp_in_nI (by decide) (by decide)) hdg (fun H1 locs1 g1 g2 g3 => ?_)
  have e := (xws_set (e := .inl (cy 4, 1, .inr (.inl (vp_updL (fun i => gl st i k) (nI 0).toNatClampNeg x)))) h.2.1 hq).trans (xws_congr (E' := xE cy ad (sl st 0 k x)) (by
      intro j
      unfold xu1
      by_cases hj : j = k
      · subst hj
        rw [if_pos rfl, xE_longs hkd]
        congr 5
        funext i
        show (if i = (nI 0).toNatClampNeg then x else gl st i j) = _
        rw [gl_sl, show (nI 0).toNatClampNeg = 0 from rfl]
        by_cases hi : i = 0
        · rw [if_pos hi, if_pos ⟨hi, rfl⟩]
        · rw [if_neg hi, if_neg (fun q => hi q.1)]
      · rw [if_neg hj, xE_sl hj]))
  rw [e] at g1 g2
  exact kk H1 locs1 _ rfl ⟨g1, g2, g3, h.2.2.2⟩
end XW

section XGR
variable {p : Program} {l : Launch} {e : Env} {R : Room} {s : State} {m : MethodId} {args : Array Value} {below : List Frame} {meth : Method} {c : Code} {H : Heap} {locs : List Loc} {cells slots : Nat} {Q : State → Prop}
variable {cc : ByteArray} {pc nL : Nat} {ls : Array Slot} {rest st0 : List Value} {D : va_G} {cy : Nat → ClassId} {ad : Nat → Nat} {Ls : List Nat} {A : Nat → Prop} {st : XS}
variable {n mc ms : Nat}
theorem x_fiG {a : Array Value} {post : Int32 → XS × (Nat → Nat) × List Nat → Prop} {ex : String → Prop} (h : xH D cy ad Ls A s st H locs) (hr : vx_Run p l e R s m args below meth c H locs cells slots mc ms (F0 m pc ls st0) rest (va_Qi post (fun u => xPost D cy u.2.1 u.2.2 (XA ad Ls H.size) u.1) (XA ad Ls H.size) a) (xXX ex D cy ad Ls (XA ad Ls H.size) st) (XA ad Ls H.size))
    (kx : xKx p l e R s m args below meth c (cells + mc) (slots + ms) Q D cy ad Ls A st ex (F0 m pc ls rest))
    (kk : ∀ (r : Int32) (u : XS × (Nat → Nat) × List Nat) (H1 : Heap) (locs1 : List Loc), post r u → xH D cy u.2.1 u.2.2 A s u.1 H1 locs1 → W p l e R s m args below meth c H1 locs1 (cells + mc) (slots + ms) Q (F0 m (pc + 3) ls (.int r :: rest))) : W p l e R s m args below meth c H locs cells slots Q (F0 m pc ls st0) :=
  vx_calli hr h.2.2.1 (fun q _ hq => xH_sub h q hq) (fun q hq => xH_sub h q hq) (fun q _ hq => xH_sub h q hq) (fun E ce q9 u t H1 locs1 ht _ hu hB _ _ hS hc9 hv9 hcl => by cases hu; exact kx E ce q9 H1 locs1 hB.1 (x_after h ht hB.2 hS) hc9 hv9 hcl) (fun r u t H1 locs1 ht _ hp hB _ _ hS => kk r u H1 locs1 hp (by subst ht; exact ⟨hB.1, hB.2.1.weaken (fun _ q _ hq => xH_sub h q.1 hq), hS, h.2.2.2⟩))
theorem cG_L_17 (C : xCx p m c cc nL s args RL D cy) (h : xH D cy ad Ls A s st H locs) {k : Nat} (hk : k ∈ Ls) (hkd : kd k = 7) {a0 : Int32} {ex : String → Prop} {post : Int32 → XS × (Nat → Nat) × List Nat → Prop} (hM : xXg l yX7_template cX7_template 4 n mc ms D cy ad Ls st [.ref (ad k), .int a0] ex post) (hR : n + 1 ≤ R.frames ∧ 40 * (n + 1) ≤ R.locals) (hf : cells + mc ≤ R.cells ∧ slots + ms ≤ R.slots) (hsz : ls.size = nL) (hrest : (rest.map fun v => v.category).sum ≤ 8) (hdg : decode cc pc = .ok (.invokevirtual 17, 3)) (kx : xKx p l e R s m args below meth c (cells + mc) (slots + ms) Q D cy ad Ls A st ex (F0 m pc ls rest)) (kk : ∀ (r : Int32) (u : XS × (Nat → Nat) × List Nat) (H1 : Heap) (locs1 : List Loc), post r u → xH D cy u.2.1 u.2.2 A s u.1 H1 locs1 → W p l e R s m args below meth c H1 locs1 (cells + mc) (slots + ms) Q (F0 m (pc + 3) ls (.int r :: rest))) : W p l e R s m args below meth c H locs cells slots Q (F0 m pc ls (.int a0 :: .ref (ad k) :: rest)) := x_fiG h (x_rVX C h hk hkd (by decide) rfl (As := [.int a0]) (hM H.size) rfl rfl rfl rfl tb446 tb447 tb448 tb70 tb449 (na := 1) rfl (by decide +kernel) hR (by decide) hf hsz rfl hrest hdg) kx kk
theorem cG_L_47 (C : xCx p m c cc nL s args RL D cy) (h : xH D cy ad Ls A s st H locs) {k : Nat} (hk : k ∈ Ls) (hkd : kd k = 7) {a0 : Int32} {ex : String → Prop} {post : Int32 → XS × (Nat → Nat) × List Nat → Prop} (hM : xXg l yX7_make cX7_make 4 n mc ms D cy ad Ls st [.ref (ad k), .int a0] ex post) (hR : n + 1 ≤ R.frames ∧ 40 * (n + 1) ≤ R.locals) (hf : cells + mc ≤ R.cells ∧ slots + ms ≤ R.slots) (hsz : ls.size = nL) (hrest : (rest.map fun v => v.category).sum ≤ 8) (hdg : decode cc pc = .ok (.invokevirtual 47, 3)) (kx : xKx p l e R s m args below meth c (cells + mc) (slots + ms) Q D cy ad Ls A st ex (F0 m pc ls rest)) (kk : ∀ (r : Int32) (u : XS × (Nat → Nat) × List Nat) (H1 : Heap) (locs1 : List Loc), post r u → xH D cy u.2.1 u.2.2 A s u.1 H1 locs1 → W p l e R s m args below meth c H1 locs1 (cells + mc) (slots + ms) Q (F0 m (pc + 3) ls (.int r :: rest))) : W p l e R s m args below meth c H locs cells slots Q (F0 m pc ls (.int a0 :: .ref (ad k) :: rest)) := x_fiG h (x_rVX C h hk hkd (by decide) rfl (As := [.int a0]) (hM H.size) rfl rfl rfl rfl tb716 tb717 tb718 tb70 tb719 (na := 1) rfl (by decide +kernel) hR (by decide) hf hsz rfl hrest hdg) kx kk
end XGR

theorem tw_type : Cond.codeWith yL_type cL_type 5 (some .int) [(0, 9, 12, 13), (0, 9, 16, 15)] ∈ TB := TB_mem 340 (by decide +kernel) (by decide +kernel)
set_option maxHeartbeats 4000000 in
set_option maxRecDepth 100000 in
theorem w_type (l : Launch) (D : va_G) (cy : Nat → ClassId) (ad : Nat → Nat) (Ls : List Nat) (st : XS) (h0 : 0 ∈ Ls) (h90 : 90 ∈ Ls) (a0 : Int64) (K : Nat) {post : Int32 → XS → Prop} (hM : xXi l yX7_type cX7_type 5 (some .int) 8 4 24 D cy ad Ls st [.ref (ad 0), .long a0] (fun E => exK K [eIAE, eISE] E) post) : xMw l yL_type cL_type 5 [(0, 9, 12, 13), (0, 9, 16, 15)] 9 4 24 D cy ad Ls st [.ref (ad 0), .long a0, .ref (ad 90)] (fun r u => (∃ j, j < 2 ∧ K = j + 1 ∧ r = nI K ∧ u = (st, ad, Ls)) ∨ (r = nI 0 ∧ ∃ r1 u1, post r1 u1 ∧ u = (sl u1 0 90 r1.toInt64, ad, Ls))) := by
  intro sz
  refine x_ofH sz (by decide +kernel) (Nat.le_of_ble_eq_true rfl) ?_
  intro p e s m args below meth c ls hx hb hr hlocks hT C hsz h hl
  have hl : lv_has ls 5 [(0, .ref (ad 0)), (1, .long a0), (3, .ref (ad 90))] := hl
  obtain ⟨H, eH⟩ : ∃ z, z = s.heap := ⟨_, rfl⟩
  obtain ⟨locs, eL⟩ : ∃ z : List Loc, z = [] := ⟨_, rfl⟩
  rw [← eH, ← eL] at h
  rw [← eH, ← eL]
  clear eH eL
  refine lv_aload_n hx hb dL_type_0 rfl (lv_at hl 2 rfl) ?_
  refine lv_iconst (v := nI 0) hx hb dL_type_1 (by decide) ?_
  refine lv_aload_n hx hb dL_type_2 rfl (lv_at hl 0 rfl) ?_
  refine lv_lload_n hx hb dL_type_3 rfl (lv_at hl 1 rfl) ?_
  refine cx_L_7 C h h0 rfl hM ⟨Nat.le_of_ble_eq_true rfl, Nat.le_of_ble_eq_true rfl⟩ ⟨Nat.le_of_ble_eq_true rfl, Nat.le_of_ble_eq_true rfl⟩ hl.1 (Nat.le_of_ble_eq_true rfl) dL_type_4 ?_ ?_
  · intro E ce q9 H1 locs1 hE h1 hc9 hv9 hcl
    obtain ⟨j, hKj, hj⟩ := hE
    rcases j with _ | _ | j
    · have eE : E = eIAE := (Option.some.inj hj).symm
      subst eE
      refine vx_catch C.2.2.2.1 [] ⟨0, 9, 12, 13⟩ [⟨0, 9, 16, 15⟩] (hT.trans rfl) (fun z hz => by cases hz) (by decide) (by decide) (C.2.2.2.2.1 _ tb341) (va_Nw.use rfl (C.2.2.2.2.2.2 _ tn353)) hc9 hv9 hcl ?_
      refine lv_astore (lv' := [(4, .ref q9), (0, .ref (ad 0)), (1, .long a0), (3, .ref (ad 90))]) hx hb dL_type_12 hl (by decide) rfl (fun ls hl => ?_)
      refine lv_iconst (v := nI 1) hx hb dL_type_14 (by decide) ?_
      exact x_iretH C hr hlocks h1 (Or.inl ⟨0, by decide, hKj, by rw [hKj], rfl⟩) dL_type_15
    · have eE : E = eISE := (Option.some.inj hj).symm
      subst eE
      refine vx_catch C.2.2.2.1 [⟨0, 9, 12, 13⟩] ⟨0, 9, 16, 15⟩ [] (hT.trans rfl) (fun z hz => by rcases List.mem_singleton.mp hz with rfl; exact Or.inr ⟨by decide, _, C.2.2.2.2.1 _ tb341, h1.2.2.2.2.2.2.2.2.2 (eISE, eIAE) (by decide)⟩) (by decide) (by decide) (C.2.2.2.2.1 _ tb342) (va_Nw.use rfl (C.2.2.2.2.2.2 _ tn421)) hc9 hv9 hcl ?_
      refine lv_astore (lv' := [(4, .ref q9), (0, .ref (ad 0)), (1, .long a0), (3, .ref (ad 90))]) hx hb dL_type_16 hl (by decide) rfl (fun ls hl => ?_)
      refine lv_iconst (v := nI 2) hx hb dL_type_18 (by decide) ?_
      exact x_iretH C hr hlocks h1 (Or.inl ⟨1, by decide, hKj, by rw [hKj], rfl⟩) dL_type_19
    · cases hj
  · intro r1 u1 H1 locs1 hp h1
    refine lv_i2l hx hb dL_type_7 rfl ?_
    refine x_last C h1 h90 rfl rfl dL_type_8 (fun H2 locs2 u2 eu2 h2 => ?_)
    refine lv_goto (tgt := 20) hx hb dL_type_9 (by decide) ?_
    refine lv_iconst (v := nI 0) hx hb dL_type_20 (by decide) ?_
    exact x_iretH C hr hlocks h2 (Or.inr ⟨rfl, r1, u1, hp, by rw [eu2]⟩) dL_type_21

theorem tw_template : Cond.codeWith yL_template cL_template 4 (some .int) [(0, 9, 12, 21), (0, 9, 15, 15)] ∈ TB := TB_mem 444 (by decide +kernel) (by decide +kernel)
set_option maxHeartbeats 4000000 in
set_option maxRecDepth 100000 in
theorem w_template (l : Launch) (D : va_G) (cy : Nat → ClassId) (ad : Nat → Nat) (Ls : List Nat) (st : XS) (h0 : 0 ∈ Ls) (h90 : 90 ∈ Ls) (a0 : Int32) (K : Nat) {post : Int32 → XS × (Nat → Nat) × List Nat → Prop} (hM : xXg l yX7_template cX7_template 4 30 10 600 D cy ad Ls st [.ref (ad 0), .int a0] (fun E => exK K [eIOB, eISE] E) post) (hkeep : ∀ r u, post r u → u.2.1 90 = ad 90 ∧ 90 ∈ u.2.2) : xMw l yL_template cL_template 4 [(0, 9, 12, 21), (0, 9, 15, 15)] 31 10 600 D cy ad Ls st [.ref (ad 0), .int a0, .ref (ad 90)] (fun r u => (∃ j, j < 2 ∧ K = j + 1 ∧ r = nI K ∧ u = (st, ad, Ls)) ∨ (r = nI 0 ∧ ∃ r1 u1, post r1 u1 ∧ u = (sl u1.1 0 90 r1.toInt64, u1.2))) := by
  intro sz
  refine x_ofH sz (by decide +kernel) (Nat.le_of_ble_eq_true rfl) ?_
  intro p e s m args below meth c ls hx hb hr hlocks hT C hsz h hl
  have hl : lv_has ls 4 [(0, .ref (ad 0)), (1, .int a0), (2, .ref (ad 90))] := hl
  obtain ⟨H, eH⟩ : ∃ z, z = s.heap := ⟨_, rfl⟩
  obtain ⟨locs, eL⟩ : ∃ z : List Loc, z = [] := ⟨_, rfl⟩
  rw [← eH, ← eL] at h
  rw [← eH, ← eL]
  clear eH eL
  refine lv_aload_n hx hb dL_template_0 rfl (lv_at hl 2 rfl) ?_
  refine lv_iconst (v := nI 0) hx hb dL_template_1 (by decide) ?_
  refine lv_aload_n hx hb dL_template_2 rfl (lv_at hl 0 rfl) ?_
  refine lv_iload_n hx hb dL_template_3 rfl (lv_at hl 1 rfl) ?_
  refine cG_L_17 C h h0 rfl hM ⟨Nat.le_of_ble_eq_true rfl, Nat.le_of_ble_eq_true rfl⟩ ⟨Nat.le_of_ble_eq_true rfl, Nat.le_of_ble_eq_true rfl⟩ hl.1 (Nat.le_of_ble_eq_true rfl) dL_template_4 ?_ ?_
  · intro E ce q9 H1 locs1 hE h1 hc9 hv9 hcl
    obtain ⟨j, hKj, hj⟩ := hE
    rcases j with _ | _ | j
    · have eE : E = eIOB := (Option.some.inj hj).symm
      subst eE
      refine vx_catch C.2.2.2.1 [] ⟨0, 9, 12, 21⟩ [⟨0, 9, 15, 15⟩] (hT.trans rfl) (fun z hz => by cases hz) (by decide) (by decide) (C.2.2.2.2.1 _ tb445) (va_Nw.use rfl (C.2.2.2.2.2.2 _ tn452)) hc9 hv9 hcl ?_
      refine lv_astore_n (lv' := [(3, .ref q9), (0, .ref (ad 0)), (1, .int a0), (2, .ref (ad 90))]) hx hb dL_template_12 rfl hl (by decide) rfl (fun ls hl => ?_)
      refine lv_iconst (v := nI 1) hx hb dL_template_13 (by decide) ?_
      exact x_iretH C hr hlocks h1 (Or.inl ⟨0, by decide, hKj, by rw [hKj], rfl⟩) dL_template_14
    · have eE : E = eISE := (Option.some.inj hj).symm
      subst eE
      refine vx_catch C.2.2.2.1 [⟨0, 9, 12, 21⟩] ⟨0, 9, 15, 15⟩ [] (hT.trans rfl) (fun z hz => by rcases List.mem_singleton.mp hz with rfl; exact Or.inr ⟨by decide, _, C.2.2.2.2.1 _ tb445, h1.2.2.2.2.2.2.2.2.2 (eISE, eIOB) (by decide)⟩) (by decide) (by decide) (C.2.2.2.2.1 _ tb342) (va_Nw.use rfl (C.2.2.2.2.2.2 _ tn421)) hc9 hv9 hcl ?_
      refine lv_astore_n (lv' := [(3, .ref q9), (0, .ref (ad 0)), (1, .int a0), (2, .ref (ad 90))]) hx hb dL_template_15 rfl hl (by decide) rfl (fun ls hl => ?_)
      refine lv_iconst (v := nI 2) hx hb dL_template_16 (by decide) ?_
      exact x_iretH C hr hlocks h1 (Or.inl ⟨1, by decide, hKj, by rw [hKj], rfl⟩) dL_template_17
    · cases hj
  · rintro r1 ⟨u1, ad1, Ls1⟩ H1 locs1 hp h1
    obtain ⟨k1, k2⟩ := hkeep _ _ hp
    change ad1 90 = ad 90 at k1; change 90 ∈ Ls1 at k2
    refine lv_i2l hx hb dL_template_7 rfl ?_
    rw [← k1]
    refine x_last C h1 k2 rfl rfl dL_template_8 (fun H2 locs2 u2 eu2 h2 => ?_)
    refine lv_goto (tgt := 18) hx hb dL_template_9 (by decide) ?_
    refine lv_iconst (v := nI 0) hx hb dL_template_18 (by decide) ?_
    exact x_iretH C hr hlocks h2 (Or.inr ⟨rfl, r1, (u1, ad1, Ls1), hp, by rw [eu2]⟩) dL_template_19

theorem tw_pass : Cond.codeWith yL_pass cL_pass 4 (some .int) [(0, 9, 12, 13)] ∈ TB := TB_mem 620 (by decide +kernel) (by decide +kernel)
set_option maxHeartbeats 4000000 in
set_option maxRecDepth 100000 in
theorem w_pass (l : Launch) (D : va_G) (cy : Nat → ClassId) (ad : Nat → Nat) (Ls : List Nat) (st : XS) (h0 : 0 ∈ Ls) (h90 : 90 ∈ Ls) (a0 : Int32) (K : Nat) {post : Int32 → XS → Prop} (hM : xXi l yX7_pass cX7_pass 2 (some .int) 6 4 24 D cy ad Ls st [.ref (ad 0), .int a0] (fun E => exK K [eIAE] E) post) : xMw l yL_pass cL_pass 4 [(0, 9, 12, 13)] 7 4 24 D cy ad Ls st [.ref (ad 0), .int a0, .ref (ad 90)] (fun r u => (∃ j, j < 1 ∧ K = j + 1 ∧ r = nI K ∧ u = (st, ad, Ls)) ∨ (r = nI 0 ∧ ∃ r1 u1, post r1 u1 ∧ u = (sl u1 0 90 r1.toInt64, ad, Ls))) := by
  intro sz
  refine x_ofH sz (by decide +kernel) (Nat.le_of_ble_eq_true rfl) ?_
  intro p e s m args below meth c ls hx hb hr hlocks hT C hsz h hl
  have hl : lv_has ls 4 [(0, .ref (ad 0)), (1, .int a0), (2, .ref (ad 90))] := hl
  obtain ⟨H, eH⟩ : ∃ z, z = s.heap := ⟨_, rfl⟩
  obtain ⟨locs, eL⟩ : ∃ z : List Loc, z = [] := ⟨_, rfl⟩
  rw [← eH, ← eL] at h
  rw [← eH, ← eL]
  clear eH eL
  refine lv_aload_n hx hb dL_pass_0 rfl (lv_at hl 2 rfl) ?_
  refine lv_iconst (v := nI 0) hx hb dL_pass_1 (by decide) ?_
  refine lv_aload_n hx hb dL_pass_2 rfl (lv_at hl 0 rfl) ?_
  refine lv_iload_n hx hb dL_pass_3 rfl (lv_at hl 1 rfl) ?_
  refine cx_L_23 C h h0 rfl hM ⟨Nat.le_of_ble_eq_true rfl, Nat.le_of_ble_eq_true rfl⟩ ⟨Nat.le_of_ble_eq_true rfl, Nat.le_of_ble_eq_true rfl⟩ hl.1 (Nat.le_of_ble_eq_true rfl) dL_pass_4 ?_ ?_
  · intro E ce q9 H1 locs1 hE h1 hc9 hv9 hcl
    obtain ⟨j, hKj, hj⟩ := hE
    rcases j with _ | j
    · have eE : E = eIAE := (Option.some.inj hj).symm
      subst eE
      refine vx_catch C.2.2.2.1 [] ⟨0, 9, 12, 13⟩ [] (hT.trans rfl) (fun z hz => by cases hz) (by decide) (by decide) (C.2.2.2.2.1 _ tb341) (va_Nw.use rfl (C.2.2.2.2.2.2 _ tn353)) hc9 hv9 hcl ?_
      refine lv_astore_n (lv' := [(3, .ref q9), (0, .ref (ad 0)), (1, .int a0), (2, .ref (ad 90))]) hx hb dL_pass_12 rfl hl (by decide) rfl (fun ls hl => ?_)
      refine lv_iconst (v := nI 1) hx hb dL_pass_13 (by decide) ?_
      exact x_iretH C hr hlocks h1 (Or.inl ⟨0, by decide, hKj, by rw [hKj], rfl⟩) dL_pass_14
    · cases hj
  · intro r1 u1 H1 locs1 hp h1
    refine lv_i2l hx hb dL_pass_7 rfl ?_
    refine x_last C h1 h90 rfl rfl dL_pass_8 (fun H2 locs2 u2 eu2 h2 => ?_)
    refine lv_goto (tgt := 15) hx hb dL_pass_9 (by decide) ?_
    refine lv_iconst (v := nI 0) hx hb dL_pass_15 (by decide) ?_
    exact x_iretH C hr hlocks h2 (Or.inr ⟨rfl, r1, u1, hp, by rw [eu2]⟩) dL_pass_16

theorem tw_rate : Cond.codeWith yL_rate cL_rate 7 (some .int) [(0, 14, 17, 21), (0, 14, 21, 13), (0, 14, 25, 15)] ∈ TB := TB_mem 628 (by decide +kernel) (by decide +kernel)
set_option maxHeartbeats 4000000 in
set_option maxRecDepth 100000 in
theorem w_rate (l : Launch) (D : va_G) (cy : Nat → ClassId) (ad : Nat → Nat) (Ls : List Nat) (st : XS) (h0 : 0 ∈ Ls) (h90 : 90 ∈ Ls) (a0 : Int32) (a1 : Int32) (a2 : Int32) (a3 : Int32) (K : Nat) {post : Int32 → XS → Prop} (hM : xXi l yX7_rate cX7_rate 5 (some .int) 8 4 24 D cy ad Ls st [.ref (ad 0), .int a0, .int a1, .int a2, .int a3] (fun E => exK K [eIOB, eIAE, eISE] E) post) : xMw l yL_rate cL_rate 7 [(0, 14, 17, 21), (0, 14, 21, 13), (0, 14, 25, 15)] 9 4 24 D cy ad Ls st [.ref (ad 0), .int a0, .int a1, .int a2, .int a3, .ref (ad 90)] (fun r u => (∃ j, j < 3 ∧ K = j + 1 ∧ r = nI K ∧ u = (st, ad, Ls)) ∨ (r = nI 0 ∧ ∃ r1 u1, post r1 u1 ∧ u = (sl u1 0 90 r1.toInt64, ad, Ls))) := by
  intro sz
  refine x_ofH sz (by decide +kernel) (Nat.le_of_ble_eq_true rfl) ?_
  intro p e s m args below meth c ls hx hb hr hlocks hT C hsz h hl
  have hl : lv_has ls 7 [(0, .ref (ad 0)), (1, .int a0), (2, .int a1), (3, .int a2), (4, .int a3), (5, .ref (ad 90))] := hl
  obtain ⟨H, eH⟩ : ∃ z, z = s.heap := ⟨_, rfl⟩
  obtain ⟨locs, eL⟩ : ∃ z : List Loc, z = [] := ⟨_, rfl⟩
  rw [← eH, ← eL] at h
  rw [← eH, ← eL]
  clear eH eL
  refine lv_aload hx hb dL_rate_0 (lv_at hl 5 rfl) ?_
  refine lv_iconst (v := nI 0) hx hb dL_rate_2 (by decide) ?_
  refine lv_aload_n hx hb dL_rate_3 rfl (lv_at hl 0 rfl) ?_
  refine lv_iload_n hx hb dL_rate_4 rfl (lv_at hl 1 rfl) ?_
  refine lv_iload_n hx hb dL_rate_5 rfl (lv_at hl 2 rfl) ?_
  refine lv_iload_n hx hb dL_rate_6 rfl (lv_at hl 3 rfl) ?_
  refine lv_iload hx hb dL_rate_7 (lv_at hl 4 rfl) ?_
  refine cx_L_26 C h h0 rfl hM ⟨Nat.le_of_ble_eq_true rfl, Nat.le_of_ble_eq_true rfl⟩ ⟨Nat.le_of_ble_eq_true rfl, Nat.le_of_ble_eq_true rfl⟩ hl.1 (Nat.le_of_ble_eq_true rfl) dL_rate_9 ?_ ?_
  · intro E ce q9 H1 locs1 hE h1 hc9 hv9 hcl
    obtain ⟨j, hKj, hj⟩ := hE
    rcases j with _ | _ | _ | j
    · have eE : E = eIOB := (Option.some.inj hj).symm
      subst eE
      refine vx_catch C.2.2.2.1 [] ⟨0, 14, 17, 21⟩ [⟨0, 14, 21, 13⟩, ⟨0, 14, 25, 15⟩] (hT.trans rfl) (fun z hz => by cases hz) (by decide) (by decide) (C.2.2.2.2.1 _ tb445) (va_Nw.use rfl (C.2.2.2.2.2.2 _ tn452)) hc9 hv9 hcl ?_
      refine lv_astore (lv' := [(6, .ref q9), (0, .ref (ad 0)), (1, .int a0), (2, .int a1), (3, .int a2), (4, .int a3), (5, .ref (ad 90))]) hx hb dL_rate_17 hl (by decide) rfl (fun ls hl => ?_)
      refine lv_iconst (v := nI 1) hx hb dL_rate_19 (by decide) ?_
      exact x_iretH C hr hlocks h1 (Or.inl ⟨0, by decide, hKj, by rw [hKj], rfl⟩) dL_rate_20
    · have eE : E = eIAE := (Option.some.inj hj).symm
      subst eE
      refine vx_catch C.2.2.2.1 [⟨0, 14, 17, 21⟩] ⟨0, 14, 21, 13⟩ [⟨0, 14, 25, 15⟩] (hT.trans rfl) (fun z hz => by rcases List.mem_singleton.mp hz with rfl; exact Or.inr ⟨by decide, _, C.2.2.2.2.1 _ tb445, h1.2.2.2.2.2.2.2.2.2 (eIAE, eIOB) (by decide)⟩) (by decide) (by decide) (C.2.2.2.2.1 _ tb341) (va_Nw.use rfl (C.2.2.2.2.2.2 _ tn353)) hc9 hv9 hcl ?_
      refine lv_astore (lv' := [(6, .ref q9), (0, .ref (ad 0)), (1, .int a0), (2, .int a1), (3, .int a2), (4, .int a3), (5, .ref (ad 90))]) hx hb dL_rate_21 hl (by decide) rfl (fun ls hl => ?_)
      refine lv_iconst (v := nI 2) hx hb dL_rate_23 (by decide) ?_
      exact x_iretH C hr hlocks h1 (Or.inl ⟨1, by decide, hKj, by rw [hKj], rfl⟩) dL_rate_24
    · have eE : E = eISE := (Option.some.inj hj).symm
      subst eE
      refine vx_catch C.2.2.2.1 [⟨0, 14, 17, 21⟩, ⟨0, 14, 21, 13⟩] ⟨0, 14, 25, 15⟩ [] (hT.trans rfl) (fun z hz => by rcases List.mem_cons.mp hz with rfl | hz; exact Or.inr ⟨by decide, _, C.2.2.2.2.1 _ tb445, h1.2.2.2.2.2.2.2.2.2 (eISE, eIOB) (by decide)⟩; rcases List.mem_singleton.mp hz with rfl; exact Or.inr ⟨by decide, _, C.2.2.2.2.1 _ tb341, h1.2.2.2.2.2.2.2.2.2 (eISE, eIAE) (by decide)⟩) (by decide) (by decide) (C.2.2.2.2.1 _ tb342) (va_Nw.use rfl (C.2.2.2.2.2.2 _ tn421)) hc9 hv9 hcl ?_
      refine lv_astore (lv' := [(6, .ref q9), (0, .ref (ad 0)), (1, .int a0), (2, .int a1), (3, .int a2), (4, .int a3), (5, .ref (ad 90))]) hx hb dL_rate_25 hl (by decide) rfl (fun ls hl => ?_)
      refine lv_iconst (v := nI 3) hx hb dL_rate_27 (by decide) ?_
      exact x_iretH C hr hlocks h1 (Or.inl ⟨2, by decide, hKj, by rw [hKj], rfl⟩) dL_rate_28
    · cases hj
  · intro r1 u1 H1 locs1 hp h1
    refine lv_i2l hx hb dL_rate_12 rfl ?_
    refine x_last C h1 h90 rfl rfl dL_rate_13 (fun H2 locs2 u2 eu2 h2 => ?_)
    refine lv_goto (tgt := 29) hx hb dL_rate_14 (by decide) ?_
    refine lv_iconst (v := nI 0) hx hb dL_rate_29 (by decide) ?_
    exact x_iretH C hr hlocks h2 (Or.inr ⟨rfl, r1, u1, hp, by rw [eu2]⟩) dL_rate_30

theorem tw_telling : Cond.codeWith yL_telling cL_telling 6 (some .int) [(0, 12, 15, 21), (0, 12, 19, 13)] ∈ TB := TB_mem 650 (by decide +kernel) (by decide +kernel)
set_option maxHeartbeats 4000000 in
set_option maxRecDepth 100000 in
theorem w_telling (l : Launch) (D : va_G) (cy : Nat → ClassId) (ad : Nat → Nat) (Ls : List Nat) (st : XS) (h0 : 0 ∈ Ls) (h90 : 90 ∈ Ls) (a0 : Int32) (a1 : Int32) (a2 : Int32) (K : Nat) {post : Int32 → XS → Prop} (hM : xXi l yX7_telling cX7_telling 4 (some .int) 8 4 24 D cy ad Ls st [.ref (ad 0), .int a0, .int a1, .int a2] (fun E => exK K [eIOB, eIAE] E) post) : xMw l yL_telling cL_telling 6 [(0, 12, 15, 21), (0, 12, 19, 13)] 9 4 24 D cy ad Ls st [.ref (ad 0), .int a0, .int a1, .int a2, .ref (ad 90)] (fun r u => (∃ j, j < 2 ∧ K = j + 1 ∧ r = nI K ∧ u = (st, ad, Ls)) ∨ (r = nI 0 ∧ ∃ r1 u1, post r1 u1 ∧ u = (sl u1 0 90 r1.toInt64, ad, Ls))) := by
  intro sz
  refine x_ofH sz (by decide +kernel) (Nat.le_of_ble_eq_true rfl) ?_
  intro p e s m args below meth c ls hx hb hr hlocks hT C hsz h hl
  have hl : lv_has ls 6 [(0, .ref (ad 0)), (1, .int a0), (2, .int a1), (3, .int a2), (4, .ref (ad 90))] := hl
  obtain ⟨H, eH⟩ : ∃ z, z = s.heap := ⟨_, rfl⟩
  obtain ⟨locs, eL⟩ : ∃ z : List Loc, z = [] := ⟨_, rfl⟩
  rw [← eH, ← eL] at h
  rw [← eH, ← eL]
  clear eH eL
  refine lv_aload hx hb dL_telling_0 (lv_at hl 4 rfl) ?_
  refine lv_iconst (v := nI 0) hx hb dL_telling_2 (by decide) ?_
  refine lv_aload_n hx hb dL_telling_3 rfl (lv_at hl 0 rfl) ?_
  refine lv_iload_n hx hb dL_telling_4 rfl (lv_at hl 1 rfl) ?_
  refine lv_iload_n hx hb dL_telling_5 rfl (lv_at hl 2 rfl) ?_
  refine lv_iload_n hx hb dL_telling_6 rfl (lv_at hl 3 rfl) ?_
  refine cx_L_30 C h h0 rfl hM ⟨Nat.le_of_ble_eq_true rfl, Nat.le_of_ble_eq_true rfl⟩ ⟨Nat.le_of_ble_eq_true rfl, Nat.le_of_ble_eq_true rfl⟩ hl.1 (Nat.le_of_ble_eq_true rfl) dL_telling_7 ?_ ?_
  · intro E ce q9 H1 locs1 hE h1 hc9 hv9 hcl
    obtain ⟨j, hKj, hj⟩ := hE
    rcases j with _ | _ | j
    · have eE : E = eIOB := (Option.some.inj hj).symm
      subst eE
      refine vx_catch C.2.2.2.1 [] ⟨0, 12, 15, 21⟩ [⟨0, 12, 19, 13⟩] (hT.trans rfl) (fun z hz => by cases hz) (by decide) (by decide) (C.2.2.2.2.1 _ tb445) (va_Nw.use rfl (C.2.2.2.2.2.2 _ tn452)) hc9 hv9 hcl ?_
      refine lv_astore (lv' := [(5, .ref q9), (0, .ref (ad 0)), (1, .int a0), (2, .int a1), (3, .int a2), (4, .ref (ad 90))]) hx hb dL_telling_15 hl (by decide) rfl (fun ls hl => ?_)
      refine lv_iconst (v := nI 1) hx hb dL_telling_17 (by decide) ?_
      exact x_iretH C hr hlocks h1 (Or.inl ⟨0, by decide, hKj, by rw [hKj], rfl⟩) dL_telling_18
    · have eE : E = eIAE := (Option.some.inj hj).symm
      subst eE
      refine vx_catch C.2.2.2.1 [⟨0, 12, 15, 21⟩] ⟨0, 12, 19, 13⟩ [] (hT.trans rfl) (fun z hz => by rcases List.mem_singleton.mp hz with rfl; exact Or.inr ⟨by decide, _, C.2.2.2.2.1 _ tb445, h1.2.2.2.2.2.2.2.2.2 (eIAE, eIOB) (by decide)⟩) (by decide) (by decide) (C.2.2.2.2.1 _ tb341) (va_Nw.use rfl (C.2.2.2.2.2.2 _ tn353)) hc9 hv9 hcl ?_
      refine lv_astore (lv' := [(5, .ref q9), (0, .ref (ad 0)), (1, .int a0), (2, .int a1), (3, .int a2), (4, .ref (ad 90))]) hx hb dL_telling_19 hl (by decide) rfl (fun ls hl => ?_)
      refine lv_iconst (v := nI 2) hx hb dL_telling_21 (by decide) ?_
      exact x_iretH C hr hlocks h1 (Or.inl ⟨1, by decide, hKj, by rw [hKj], rfl⟩) dL_telling_22
    · cases hj
  · intro r1 u1 H1 locs1 hp h1
    refine lv_i2l hx hb dL_telling_10 rfl ?_
    refine x_last C h1 h90 rfl rfl dL_telling_11 (fun H2 locs2 u2 eu2 h2 => ?_)
    refine lv_goto (tgt := 23) hx hb dL_telling_12 (by decide) ?_
    refine lv_iconst (v := nI 0) hx hb dL_telling_23 (by decide) ?_
    exact x_iretH C hr hlocks h2 (Or.inr ⟨rfl, r1, u1, hp, by rw [eu2]⟩) dL_telling_24

theorem tw_round : Cond.codeWith yL_round cL_round 5 (some .int) [(0, 10, 13, 21), (0, 10, 17, 13)] ∈ TB := TB_mem 663 (by decide +kernel) (by decide +kernel)
set_option maxHeartbeats 4000000 in
set_option maxRecDepth 100000 in
theorem w_round (l : Launch) (D : va_G) (cy : Nat → ClassId) (ad : Nat → Nat) (Ls : List Nat) (st : XS) (h0 : 0 ∈ Ls) (h90 : 90 ∈ Ls) (a0 : Int32) (a1 : Int32) (K : Nat) {post : Int32 → XS → Prop} (hM : xXi l yX7_round cX7_round 4 (some .int) 8 4 24 D cy ad Ls st [.ref (ad 0), .int a0, .int a1] (fun E => exK K [eIOB, eIAE] E) post) : xMw l yL_round cL_round 5 [(0, 10, 13, 21), (0, 10, 17, 13)] 9 4 24 D cy ad Ls st [.ref (ad 0), .int a0, .int a1, .ref (ad 90)] (fun r u => (∃ j, j < 2 ∧ K = j + 1 ∧ r = nI K ∧ u = (st, ad, Ls)) ∨ (r = nI 0 ∧ ∃ r1 u1, post r1 u1 ∧ u = (sl u1 0 90 r1.toInt64, ad, Ls))) := by
  intro sz
  refine x_ofH sz (by decide +kernel) (Nat.le_of_ble_eq_true rfl) ?_
  intro p e s m args below meth c ls hx hb hr hlocks hT C hsz h hl
  have hl : lv_has ls 5 [(0, .ref (ad 0)), (1, .int a0), (2, .int a1), (3, .ref (ad 90))] := hl
  obtain ⟨H, eH⟩ : ∃ z, z = s.heap := ⟨_, rfl⟩
  obtain ⟨locs, eL⟩ : ∃ z : List Loc, z = [] := ⟨_, rfl⟩
  rw [← eH, ← eL] at h
  rw [← eH, ← eL]
  clear eH eL
  refine lv_aload_n hx hb dL_round_0 rfl (lv_at hl 3 rfl) ?_
  refine lv_iconst (v := nI 0) hx hb dL_round_1 (by decide) ?_
  refine lv_aload_n hx hb dL_round_2 rfl (lv_at hl 0 rfl) ?_
  refine lv_iload_n hx hb dL_round_3 rfl (lv_at hl 1 rfl) ?_
  refine lv_iload_n hx hb dL_round_4 rfl (lv_at hl 2 rfl) ?_
  refine cx_L_34 C h h0 rfl hM ⟨Nat.le_of_ble_eq_true rfl, Nat.le_of_ble_eq_true rfl⟩ ⟨Nat.le_of_ble_eq_true rfl, Nat.le_of_ble_eq_true rfl⟩ hl.1 (Nat.le_of_ble_eq_true rfl) dL_round_5 ?_ ?_
  · intro E ce q9 H1 locs1 hE h1 hc9 hv9 hcl
    obtain ⟨j, hKj, hj⟩ := hE
    rcases j with _ | _ | j
    · have eE : E = eIOB := (Option.some.inj hj).symm
      subst eE
      refine vx_catch C.2.2.2.1 [] ⟨0, 10, 13, 21⟩ [⟨0, 10, 17, 13⟩] (hT.trans rfl) (fun z hz => by cases hz) (by decide) (by decide) (C.2.2.2.2.1 _ tb445) (va_Nw.use rfl (C.2.2.2.2.2.2 _ tn452)) hc9 hv9 hcl ?_
      refine lv_astore (lv' := [(4, .ref q9), (0, .ref (ad 0)), (1, .int a0), (2, .int a1), (3, .ref (ad 90))]) hx hb dL_round_13 hl (by decide) rfl (fun ls hl => ?_)
      refine lv_iconst (v := nI 1) hx hb dL_round_15 (by decide) ?_
      exact x_iretH C hr hlocks h1 (Or.inl ⟨0, by decide, hKj, by rw [hKj], rfl⟩) dL_round_16
    · have eE : E = eIAE := (Option.some.inj hj).symm
      subst eE
      refine vx_catch C.2.2.2.1 [⟨0, 10, 13, 21⟩] ⟨0, 10, 17, 13⟩ [] (hT.trans rfl) (fun z hz => by rcases List.mem_singleton.mp hz with rfl; exact Or.inr ⟨by decide, _, C.2.2.2.2.1 _ tb445, h1.2.2.2.2.2.2.2.2.2 (eIAE, eIOB) (by decide)⟩) (by decide) (by decide) (C.2.2.2.2.1 _ tb341) (va_Nw.use rfl (C.2.2.2.2.2.2 _ tn353)) hc9 hv9 hcl ?_
      refine lv_astore (lv' := [(4, .ref q9), (0, .ref (ad 0)), (1, .int a0), (2, .int a1), (3, .ref (ad 90))]) hx hb dL_round_17 hl (by decide) rfl (fun ls hl => ?_)
      refine lv_iconst (v := nI 2) hx hb dL_round_19 (by decide) ?_
      exact x_iretH C hr hlocks h1 (Or.inl ⟨1, by decide, hKj, by rw [hKj], rfl⟩) dL_round_20
    · cases hj
  · intro r1 u1 H1 locs1 hp h1
    refine lv_i2l hx hb dL_round_8 rfl ?_
    refine x_last C h1 h90 rfl rfl dL_round_9 (fun H2 locs2 u2 eu2 h2 => ?_)
    refine lv_goto (tgt := 21) hx hb dL_round_10 (by decide) ?_
    refine lv_iconst (v := nI 0) hx hb dL_round_21 (by decide) ?_
    exact x_iretH C hr hlocks h2 (Or.inr ⟨rfl, r1, u1, hp, by rw [eu2]⟩) dL_round_22

theorem tw_client : Cond.codeWith yL_client cL_client 5 (some .int) [(0, 10, 13, 21)] ∈ TB := TB_mem 673 (by decide +kernel) (by decide +kernel)
set_option maxHeartbeats 4000000 in
set_option maxRecDepth 100000 in
theorem w_client (l : Launch) (D : va_G) (cy : Nat → ClassId) (ad : Nat → Nat) (Ls : List Nat) (st : XS) (h0 : 0 ∈ Ls) (h90 : 90 ∈ Ls) (a0 : Int32) (a1 : Int32) (K : Nat) {post : Int32 → XS → Prop} (hM : xXi l yX7_client cX7_client 4 (some .int) 8 4 24 D cy ad Ls st [.ref (ad 0), .int a0, .int a1] (fun E => exK K [eIOB] E) post) : xMw l yL_client cL_client 5 [(0, 10, 13, 21)] 9 4 24 D cy ad Ls st [.ref (ad 0), .int a0, .int a1, .ref (ad 90)] (fun r u => (∃ j, j < 1 ∧ K = j + 1 ∧ r = nI K ∧ u = (st, ad, Ls)) ∨ (r = nI 0 ∧ ∃ r1 u1, post r1 u1 ∧ u = (sl u1 0 90 r1.toInt64, ad, Ls))) := by
  intro sz
  refine x_ofH sz (by decide +kernel) (Nat.le_of_ble_eq_true rfl) ?_
  intro p e s m args below meth c ls hx hb hr hlocks hT C hsz h hl
  have hl : lv_has ls 5 [(0, .ref (ad 0)), (1, .int a0), (2, .int a1), (3, .ref (ad 90))] := hl
  obtain ⟨H, eH⟩ : ∃ z, z = s.heap := ⟨_, rfl⟩
  obtain ⟨locs, eL⟩ : ∃ z : List Loc, z = [] := ⟨_, rfl⟩
  rw [← eH, ← eL] at h
  rw [← eH, ← eL]
  clear eH eL
  refine lv_aload_n hx hb dL_client_0 rfl (lv_at hl 3 rfl) ?_
  refine lv_iconst (v := nI 0) hx hb dL_client_1 (by decide) ?_
  refine lv_aload_n hx hb dL_client_2 rfl (lv_at hl 0 rfl) ?_
  refine lv_iload_n hx hb dL_client_3 rfl (lv_at hl 1 rfl) ?_
  refine lv_iload_n hx hb dL_client_4 rfl (lv_at hl 2 rfl) ?_
  refine cx_L_38 C h h0 rfl hM ⟨Nat.le_of_ble_eq_true rfl, Nat.le_of_ble_eq_true rfl⟩ ⟨Nat.le_of_ble_eq_true rfl, Nat.le_of_ble_eq_true rfl⟩ hl.1 (Nat.le_of_ble_eq_true rfl) dL_client_5 ?_ ?_
  · intro E ce q9 H1 locs1 hE h1 hc9 hv9 hcl
    obtain ⟨j, hKj, hj⟩ := hE
    rcases j with _ | j
    · have eE : E = eIOB := (Option.some.inj hj).symm
      subst eE
      refine vx_catch C.2.2.2.1 [] ⟨0, 10, 13, 21⟩ [] (hT.trans rfl) (fun z hz => by cases hz) (by decide) (by decide) (C.2.2.2.2.1 _ tb445) (va_Nw.use rfl (C.2.2.2.2.2.2 _ tn452)) hc9 hv9 hcl ?_
      refine lv_astore (lv' := [(4, .ref q9), (0, .ref (ad 0)), (1, .int a0), (2, .int a1), (3, .ref (ad 90))]) hx hb dL_client_13 hl (by decide) rfl (fun ls hl => ?_)
      refine lv_iconst (v := nI 1) hx hb dL_client_15 (by decide) ?_
      exact x_iretH C hr hlocks h1 (Or.inl ⟨0, by decide, hKj, by rw [hKj], rfl⟩) dL_client_16
    · cases hj
  · intro r1 u1 H1 locs1 hp h1
    refine lv_i2l hx hb dL_client_8 rfl ?_
    refine x_last C h1 h90 rfl rfl dL_client_9 (fun H2 locs2 u2 eu2 h2 => ?_)
    refine lv_goto (tgt := 17) hx hb dL_client_10 (by decide) ?_
    refine lv_iconst (v := nI 0) hx hb dL_client_17 (by decide) ?_
    exact x_iretH C hr hlocks h2 (Or.inr ⟨rfl, r1, u1, hp, by rw [eu2]⟩) dL_client_18

theorem tw_line : Cond.codeWith yL_line cL_line 6 (some .int) [(0, 12, 15, 21), (0, 12, 19, 13), (0, 12, 23, 15)] ∈ TB := TB_mem 684 (by decide +kernel) (by decide +kernel)
set_option maxHeartbeats 4000000 in
set_option maxRecDepth 100000 in
theorem w_line (l : Launch) (D : va_G) (cy : Nat → ClassId) (ad : Nat → Nat) (Ls : List Nat) (st : XS) (h0 : 0 ∈ Ls) (h90 : 90 ∈ Ls) (a0 : Int32) (a1 : Int32) (a2 : Int32) (K : Nat) {post : Int32 → XS → Prop} (hM : xXi l yX7_line cX7_line 4 (some .int) 8 4 24 D cy ad Ls st [.ref (ad 0), .int a0, .int a1, .int a2] (fun E => exK K [eIOB, eIAE, eISE] E) post) : xMw l yL_line cL_line 6 [(0, 12, 15, 21), (0, 12, 19, 13), (0, 12, 23, 15)] 9 4 24 D cy ad Ls st [.ref (ad 0), .int a0, .int a1, .int a2, .ref (ad 90)] (fun r u => (∃ j, j < 3 ∧ K = j + 1 ∧ r = nI K ∧ u = (st, ad, Ls)) ∨ (r = nI 0 ∧ ∃ r1 u1, post r1 u1 ∧ u = (sl u1 0 90 r1.toInt64, ad, Ls))) := by
  intro sz
  refine x_ofH sz (by decide +kernel) (Nat.le_of_ble_eq_true rfl) ?_
  intro p e s m args below meth c ls hx hb hr hlocks hT C hsz h hl
  have hl : lv_has ls 6 [(0, .ref (ad 0)), (1, .int a0), (2, .int a1), (3, .int a2), (4, .ref (ad 90))] := hl
  obtain ⟨H, eH⟩ : ∃ z, z = s.heap := ⟨_, rfl⟩
  obtain ⟨locs, eL⟩ : ∃ z : List Loc, z = [] := ⟨_, rfl⟩
  rw [← eH, ← eL] at h
  rw [← eH, ← eL]
  clear eH eL
  refine lv_aload hx hb dL_line_0 (lv_at hl 4 rfl) ?_
  refine lv_iconst (v := nI 0) hx hb dL_line_2 (by decide) ?_
  refine lv_aload_n hx hb dL_line_3 rfl (lv_at hl 0 rfl) ?_
  refine lv_iload_n hx hb dL_line_4 rfl (lv_at hl 1 rfl) ?_
  refine lv_iload_n hx hb dL_line_5 rfl (lv_at hl 2 rfl) ?_
  refine lv_iload_n hx hb dL_line_6 rfl (lv_at hl 3 rfl) ?_
  refine cx_L_41 C h h0 rfl hM ⟨Nat.le_of_ble_eq_true rfl, Nat.le_of_ble_eq_true rfl⟩ ⟨Nat.le_of_ble_eq_true rfl, Nat.le_of_ble_eq_true rfl⟩ hl.1 (Nat.le_of_ble_eq_true rfl) dL_line_7 ?_ ?_
  · intro E ce q9 H1 locs1 hE h1 hc9 hv9 hcl
    obtain ⟨j, hKj, hj⟩ := hE
    rcases j with _ | _ | _ | j
    · have eE : E = eIOB := (Option.some.inj hj).symm
      subst eE
      refine vx_catch C.2.2.2.1 [] ⟨0, 12, 15, 21⟩ [⟨0, 12, 19, 13⟩, ⟨0, 12, 23, 15⟩] (hT.trans rfl) (fun z hz => by cases hz) (by decide) (by decide) (C.2.2.2.2.1 _ tb445) (va_Nw.use rfl (C.2.2.2.2.2.2 _ tn452)) hc9 hv9 hcl ?_
      refine lv_astore (lv' := [(5, .ref q9), (0, .ref (ad 0)), (1, .int a0), (2, .int a1), (3, .int a2), (4, .ref (ad 90))]) hx hb dL_line_15 hl (by decide) rfl (fun ls hl => ?_)
      refine lv_iconst (v := nI 1) hx hb dL_line_17 (by decide) ?_
      exact x_iretH C hr hlocks h1 (Or.inl ⟨0, by decide, hKj, by rw [hKj], rfl⟩) dL_line_18
    · have eE : E = eIAE := (Option.some.inj hj).symm
      subst eE
      refine vx_catch C.2.2.2.1 [⟨0, 12, 15, 21⟩] ⟨0, 12, 19, 13⟩ [⟨0, 12, 23, 15⟩] (hT.trans rfl) (fun z hz => by rcases List.mem_singleton.mp hz with rfl; exact Or.inr ⟨by decide, _, C.2.2.2.2.1 _ tb445, h1.2.2.2.2.2.2.2.2.2 (eIAE, eIOB) (by decide)⟩) (by decide) (by decide) (C.2.2.2.2.1 _ tb341) (va_Nw.use rfl (C.2.2.2.2.2.2 _ tn353)) hc9 hv9 hcl ?_
      refine lv_astore (lv' := [(5, .ref q9), (0, .ref (ad 0)), (1, .int a0), (2, .int a1), (3, .int a2), (4, .ref (ad 90))]) hx hb dL_line_19 hl (by decide) rfl (fun ls hl => ?_)
      refine lv_iconst (v := nI 2) hx hb dL_line_21 (by decide) ?_
      exact x_iretH C hr hlocks h1 (Or.inl ⟨1, by decide, hKj, by rw [hKj], rfl⟩) dL_line_22
    · have eE : E = eISE := (Option.some.inj hj).symm
      subst eE
      refine vx_catch C.2.2.2.1 [⟨0, 12, 15, 21⟩, ⟨0, 12, 19, 13⟩] ⟨0, 12, 23, 15⟩ [] (hT.trans rfl) (fun z hz => by rcases List.mem_cons.mp hz with rfl | hz; exact Or.inr ⟨by decide, _, C.2.2.2.2.1 _ tb445, h1.2.2.2.2.2.2.2.2.2 (eISE, eIOB) (by decide)⟩; rcases List.mem_singleton.mp hz with rfl; exact Or.inr ⟨by decide, _, C.2.2.2.2.1 _ tb341, h1.2.2.2.2.2.2.2.2.2 (eISE, eIAE) (by decide)⟩) (by decide) (by decide) (C.2.2.2.2.1 _ tb342) (va_Nw.use rfl (C.2.2.2.2.2.2 _ tn421)) hc9 hv9 hcl ?_
      refine lv_astore (lv' := [(5, .ref q9), (0, .ref (ad 0)), (1, .int a0), (2, .int a1), (3, .int a2), (4, .ref (ad 90))]) hx hb dL_line_23 hl (by decide) rfl (fun ls hl => ?_)
      refine lv_iconst (v := nI 3) hx hb dL_line_25 (by decide) ?_
      exact x_iretH C hr hlocks h1 (Or.inl ⟨2, by decide, hKj, by rw [hKj], rfl⟩) dL_line_26
    · cases hj
  · intro r1 u1 H1 locs1 hp h1
    refine lv_i2l hx hb dL_line_10 rfl ?_
    refine x_last C h1 h90 rfl rfl dL_line_11 (fun H2 locs2 u2 eu2 h2 => ?_)
    refine lv_goto (tgt := 27) hx hb dL_line_12 (by decide) ?_
    refine lv_iconst (v := nI 0) hx hb dL_line_27 (by decide) ?_
    exact x_iretH C hr hlocks h2 (Or.inr ⟨rfl, r1, u1, hp, by rw [eu2]⟩) dL_line_28

theorem tw_strike : Cond.codeWith yL_strike cL_strike 4 (some .int) [(0, 9, 12, 21)] ∈ TB := TB_mem 698 (by decide +kernel) (by decide +kernel)
set_option maxHeartbeats 4000000 in
set_option maxRecDepth 100000 in
theorem w_strike (l : Launch) (D : va_G) (cy : Nat → ClassId) (ad : Nat → Nat) (Ls : List Nat) (st : XS) (h0 : 0 ∈ Ls) (h90 : 90 ∈ Ls) (a0 : Int32) (K : Nat) {post : Int32 → XS → Prop} (hM : xXi l yX7_strike cX7_strike 2 (some .int) 8 4 24 D cy ad Ls st [.ref (ad 0), .int a0] (fun E => exK K [eIOB] E) post) : xMw l yL_strike cL_strike 4 [(0, 9, 12, 21)] 9 4 24 D cy ad Ls st [.ref (ad 0), .int a0, .ref (ad 90)] (fun r u => (∃ j, j < 1 ∧ K = j + 1 ∧ r = nI K ∧ u = (st, ad, Ls)) ∨ (r = nI 0 ∧ ∃ r1 u1, post r1 u1 ∧ u = (sl u1 0 90 r1.toInt64, ad, Ls))) := by
  intro sz
  refine x_ofH sz (by decide +kernel) (Nat.le_of_ble_eq_true rfl) ?_
  intro p e s m args below meth c ls hx hb hr hlocks hT C hsz h hl
  have hl : lv_has ls 4 [(0, .ref (ad 0)), (1, .int a0), (2, .ref (ad 90))] := hl
  obtain ⟨H, eH⟩ : ∃ z, z = s.heap := ⟨_, rfl⟩
  obtain ⟨locs, eL⟩ : ∃ z : List Loc, z = [] := ⟨_, rfl⟩
  rw [← eH, ← eL] at h
  rw [← eH, ← eL]
  clear eH eL
  refine lv_aload_n hx hb dL_strike_0 rfl (lv_at hl 2 rfl) ?_
  refine lv_iconst (v := nI 0) hx hb dL_strike_1 (by decide) ?_
  refine lv_aload_n hx hb dL_strike_2 rfl (lv_at hl 0 rfl) ?_
  refine lv_iload_n hx hb dL_strike_3 rfl (lv_at hl 1 rfl) ?_
  refine cx_L_44 C h h0 rfl hM ⟨Nat.le_of_ble_eq_true rfl, Nat.le_of_ble_eq_true rfl⟩ ⟨Nat.le_of_ble_eq_true rfl, Nat.le_of_ble_eq_true rfl⟩ hl.1 (Nat.le_of_ble_eq_true rfl) dL_strike_4 ?_ ?_
  · intro E ce q9 H1 locs1 hE h1 hc9 hv9 hcl
    obtain ⟨j, hKj, hj⟩ := hE
    rcases j with _ | j
    · have eE : E = eIOB := (Option.some.inj hj).symm
      subst eE
      refine vx_catch C.2.2.2.1 [] ⟨0, 9, 12, 21⟩ [] (hT.trans rfl) (fun z hz => by cases hz) (by decide) (by decide) (C.2.2.2.2.1 _ tb445) (va_Nw.use rfl (C.2.2.2.2.2.2 _ tn452)) hc9 hv9 hcl ?_
      refine lv_astore_n (lv' := [(3, .ref q9), (0, .ref (ad 0)), (1, .int a0), (2, .ref (ad 90))]) hx hb dL_strike_12 rfl hl (by decide) rfl (fun ls hl => ?_)
      refine lv_iconst (v := nI 1) hx hb dL_strike_13 (by decide) ?_
      exact x_iretH C hr hlocks h1 (Or.inl ⟨0, by decide, hKj, by rw [hKj], rfl⟩) dL_strike_14
    · cases hj
  · intro r1 u1 H1 locs1 hp h1
    refine lv_i2l hx hb dL_strike_7 rfl ?_
    refine x_last C h1 h90 rfl rfl dL_strike_8 (fun H2 locs2 u2 eu2 h2 => ?_)
    refine lv_goto (tgt := 15) hx hb dL_strike_9 (by decide) ?_
    refine lv_iconst (v := nI 0) hx hb dL_strike_15 (by decide) ?_
    exact x_iretH C hr hlocks h2 (Or.inr ⟨rfl, r1, u1, hp, by rw [eu2]⟩) dL_strike_16

theorem tw_make : Cond.codeWith yL_make cL_make 4 (some .int) [(0, 9, 12, 21), (0, 9, 15, 15)] ∈ TB := TB_mem 715 (by decide +kernel) (by decide +kernel)
set_option maxHeartbeats 4000000 in
set_option maxRecDepth 100000 in
theorem w_make (l : Launch) (D : va_G) (cy : Nat → ClassId) (ad : Nat → Nat) (Ls : List Nat) (st : XS) (h0 : 0 ∈ Ls) (h90 : 90 ∈ Ls) (a0 : Int32) (K : Nat) {post : Int32 → XS × (Nat → Nat) × List Nat → Prop} (hM : xXg l yX7_make cX7_make 4 8 10 80 D cy ad Ls st [.ref (ad 0), .int a0] (fun E => exK K [eIOB, eISE] E) post) (hkeep : ∀ r u, post r u → u.2.1 90 = ad 90 ∧ 90 ∈ u.2.2) : xMw l yL_make cL_make 4 [(0, 9, 12, 21), (0, 9, 15, 15)] 9 10 80 D cy ad Ls st [.ref (ad 0), .int a0, .ref (ad 90)] (fun r u => (∃ j, j < 2 ∧ K = j + 1 ∧ r = nI K ∧ u = (st, ad, Ls)) ∨ (r = nI 0 ∧ ∃ r1 u1, post r1 u1 ∧ u = (sl u1.1 0 90 r1.toInt64, u1.2))) := by
  intro sz
  refine x_ofH sz (by decide +kernel) (Nat.le_of_ble_eq_true rfl) ?_
  intro p e s m args below meth c ls hx hb hr hlocks hT C hsz h hl
  have hl : lv_has ls 4 [(0, .ref (ad 0)), (1, .int a0), (2, .ref (ad 90))] := hl
  obtain ⟨H, eH⟩ : ∃ z, z = s.heap := ⟨_, rfl⟩
  obtain ⟨locs, eL⟩ : ∃ z : List Loc, z = [] := ⟨_, rfl⟩
  rw [← eH, ← eL] at h
  rw [← eH, ← eL]
  clear eH eL
  refine lv_aload_n hx hb dL_make_0 rfl (lv_at hl 2 rfl) ?_
  refine lv_iconst (v := nI 0) hx hb dL_make_1 (by decide) ?_
  refine lv_aload_n hx hb dL_make_2 rfl (lv_at hl 0 rfl) ?_
  refine lv_iload_n hx hb dL_make_3 rfl (lv_at hl 1 rfl) ?_
  refine cG_L_47 C h h0 rfl hM ⟨Nat.le_of_ble_eq_true rfl, Nat.le_of_ble_eq_true rfl⟩ ⟨Nat.le_of_ble_eq_true rfl, Nat.le_of_ble_eq_true rfl⟩ hl.1 (Nat.le_of_ble_eq_true rfl) dL_make_4 ?_ ?_
  · intro E ce q9 H1 locs1 hE h1 hc9 hv9 hcl
    obtain ⟨j, hKj, hj⟩ := hE
    rcases j with _ | _ | j
    · have eE : E = eIOB := (Option.some.inj hj).symm
      subst eE
      refine vx_catch C.2.2.2.1 [] ⟨0, 9, 12, 21⟩ [⟨0, 9, 15, 15⟩] (hT.trans rfl) (fun z hz => by cases hz) (by decide) (by decide) (C.2.2.2.2.1 _ tb445) (va_Nw.use rfl (C.2.2.2.2.2.2 _ tn452)) hc9 hv9 hcl ?_
      refine lv_astore_n (lv' := [(3, .ref q9), (0, .ref (ad 0)), (1, .int a0), (2, .ref (ad 90))]) hx hb dL_make_12 rfl hl (by decide) rfl (fun ls hl => ?_)
      refine lv_iconst (v := nI 1) hx hb dL_make_13 (by decide) ?_
      exact x_iretH C hr hlocks h1 (Or.inl ⟨0, by decide, hKj, by rw [hKj], rfl⟩) dL_make_14
    · have eE : E = eISE := (Option.some.inj hj).symm
      subst eE
      refine vx_catch C.2.2.2.1 [⟨0, 9, 12, 21⟩] ⟨0, 9, 15, 15⟩ [] (hT.trans rfl) (fun z hz => by rcases List.mem_singleton.mp hz with rfl; exact Or.inr ⟨by decide, _, C.2.2.2.2.1 _ tb445, h1.2.2.2.2.2.2.2.2.2 (eISE, eIOB) (by decide)⟩) (by decide) (by decide) (C.2.2.2.2.1 _ tb342) (va_Nw.use rfl (C.2.2.2.2.2.2 _ tn421)) hc9 hv9 hcl ?_
      refine lv_astore_n (lv' := [(3, .ref q9), (0, .ref (ad 0)), (1, .int a0), (2, .ref (ad 90))]) hx hb dL_make_15 rfl hl (by decide) rfl (fun ls hl => ?_)
      refine lv_iconst (v := nI 2) hx hb dL_make_16 (by decide) ?_
      exact x_iretH C hr hlocks h1 (Or.inl ⟨1, by decide, hKj, by rw [hKj], rfl⟩) dL_make_17
    · cases hj
  · rintro r1 ⟨u1, ad1, Ls1⟩ H1 locs1 hp h1
    obtain ⟨k1, k2⟩ := hkeep _ _ hp
    change ad1 90 = ad 90 at k1; change 90 ∈ Ls1 at k2
    refine lv_i2l hx hb dL_make_7 rfl ?_
    rw [← k1]
    refine x_last C h1 k2 rfl rfl dL_make_8 (fun H2 locs2 u2 eu2 h2 => ?_)
    refine lv_goto (tgt := 18) hx hb dL_make_9 (by decide) ?_
    refine lv_iconst (v := nI 0) hx hb dL_make_18 (by decide) ?_
    exact x_iretH C hr hlocks h2 (Or.inr ⟨rfl, r1, (u1, ad1, Ls1), hp, by rw [eu2]⟩) dL_make_19

theorem tw_invoice : Cond.codeWith yL_invoice cL_invoice 5 (some .int) [(0, 10, 13, 21), (0, 10, 17, 13)] ∈ TB := TB_mem 759 (by decide +kernel) (by decide +kernel)
set_option maxHeartbeats 4000000 in
set_option maxRecDepth 100000 in
theorem w_invoice (l : Launch) (D : va_G) (cy : Nat → ClassId) (ad : Nat → Nat) (Ls : List Nat) (st : XS) (h0 : 0 ∈ Ls) (h90 : 90 ∈ Ls) (a0 : Int32) (a1 : Int32) (K : Nat) {post : Int32 → XS → Prop} (hM : xXi l yX7_invoice cX7_invoice 4 (some .int) 8 4 24 D cy ad Ls st [.ref (ad 0), .int a0, .int a1] (fun E => exK K [eIOB, eIAE] E) post) : xMw l yL_invoice cL_invoice 5 [(0, 10, 13, 21), (0, 10, 17, 13)] 9 4 24 D cy ad Ls st [.ref (ad 0), .int a0, .int a1, .ref (ad 90)] (fun r u => (∃ j, j < 2 ∧ K = j + 1 ∧ r = nI K ∧ u = (st, ad, Ls)) ∨ (r = nI 0 ∧ ∃ r1 u1, post r1 u1 ∧ u = (sl u1 0 90 r1.toInt64, ad, Ls))) := by
  intro sz
  refine x_ofH sz (by decide +kernel) (Nat.le_of_ble_eq_true rfl) ?_
  intro p e s m args below meth c ls hx hb hr hlocks hT C hsz h hl
  have hl : lv_has ls 5 [(0, .ref (ad 0)), (1, .int a0), (2, .int a1), (3, .ref (ad 90))] := hl
  obtain ⟨H, eH⟩ : ∃ z, z = s.heap := ⟨_, rfl⟩
  obtain ⟨locs, eL⟩ : ∃ z : List Loc, z = [] := ⟨_, rfl⟩
  rw [← eH, ← eL] at h
  rw [← eH, ← eL]
  clear eH eL
  refine lv_aload_n hx hb dL_invoice_0 rfl (lv_at hl 3 rfl) ?_
  refine lv_iconst (v := nI 0) hx hb dL_invoice_1 (by decide) ?_
  refine lv_aload_n hx hb dL_invoice_2 rfl (lv_at hl 0 rfl) ?_
  refine lv_iload_n hx hb dL_invoice_3 rfl (lv_at hl 1 rfl) ?_
  refine lv_iload_n hx hb dL_invoice_4 rfl (lv_at hl 2 rfl) ?_
  refine cx_L_50 C h h0 rfl hM ⟨Nat.le_of_ble_eq_true rfl, Nat.le_of_ble_eq_true rfl⟩ ⟨Nat.le_of_ble_eq_true rfl, Nat.le_of_ble_eq_true rfl⟩ hl.1 (Nat.le_of_ble_eq_true rfl) dL_invoice_5 ?_ ?_
  · intro E ce q9 H1 locs1 hE h1 hc9 hv9 hcl
    obtain ⟨j, hKj, hj⟩ := hE
    rcases j with _ | _ | j
    · have eE : E = eIOB := (Option.some.inj hj).symm
      subst eE
      refine vx_catch C.2.2.2.1 [] ⟨0, 10, 13, 21⟩ [⟨0, 10, 17, 13⟩] (hT.trans rfl) (fun z hz => by cases hz) (by decide) (by decide) (C.2.2.2.2.1 _ tb445) (va_Nw.use rfl (C.2.2.2.2.2.2 _ tn452)) hc9 hv9 hcl ?_
      refine lv_astore (lv' := [(4, .ref q9), (0, .ref (ad 0)), (1, .int a0), (2, .int a1), (3, .ref (ad 90))]) hx hb dL_invoice_13 hl (by decide) rfl (fun ls hl => ?_)
      refine lv_iconst (v := nI 1) hx hb dL_invoice_15 (by decide) ?_
      exact x_iretH C hr hlocks h1 (Or.inl ⟨0, by decide, hKj, by rw [hKj], rfl⟩) dL_invoice_16
    · have eE : E = eIAE := (Option.some.inj hj).symm
      subst eE
      refine vx_catch C.2.2.2.1 [⟨0, 10, 13, 21⟩] ⟨0, 10, 17, 13⟩ [] (hT.trans rfl) (fun z hz => by rcases List.mem_singleton.mp hz with rfl; exact Or.inr ⟨by decide, _, C.2.2.2.2.1 _ tb445, h1.2.2.2.2.2.2.2.2.2 (eIAE, eIOB) (by decide)⟩) (by decide) (by decide) (C.2.2.2.2.1 _ tb341) (va_Nw.use rfl (C.2.2.2.2.2.2 _ tn353)) hc9 hv9 hcl ?_
      refine lv_astore (lv' := [(4, .ref q9), (0, .ref (ad 0)), (1, .int a0), (2, .int a1), (3, .ref (ad 90))]) hx hb dL_invoice_17 hl (by decide) rfl (fun ls hl => ?_)
      refine lv_iconst (v := nI 2) hx hb dL_invoice_19 (by decide) ?_
      exact x_iretH C hr hlocks h1 (Or.inl ⟨1, by decide, hKj, by rw [hKj], rfl⟩) dL_invoice_20
    · cases hj
  · intro r1 u1 H1 locs1 hp h1
    refine lv_i2l hx hb dL_invoice_8 rfl ?_
    refine x_last C h1 h90 rfl rfl dL_invoice_9 (fun H2 locs2 u2 eu2 h2 => ?_)
    refine lv_goto (tgt := 21) hx hb dL_invoice_10 (by decide) ?_
    refine lv_iconst (v := nI 0) hx hb dL_invoice_21 (by decide) ?_
    exact x_iretH C hr hlocks h2 (Or.inr ⟨rfl, r1, u1, hp, by rw [eu2]⟩) dL_invoice_22

theorem tw_taxAnew : Cond.codeWith yL_taxAnew cL_taxAnew 4 (some .int) [(0, 9, 12, 21)] ∈ TB := TB_mem 780 (by decide +kernel) (by decide +kernel)
set_option maxHeartbeats 4000000 in
set_option maxRecDepth 100000 in
theorem w_taxAnew (l : Launch) (D : va_G) (cy : Nat → ClassId) (ad : Nat → Nat) (Ls : List Nat) (st : XS) (h0 : 0 ∈ Ls) (h90 : 90 ∈ Ls) (a0 : Int32) (K : Nat) {post : Int32 → XS → Prop} (hM : xXi l yX7_taxAnew cX7_taxAnew 2 (some .int) 8 4 24 D cy ad Ls st [.ref (ad 0), .int a0] (fun E => exK K [eIOB] E) post) : xMw l yL_taxAnew cL_taxAnew 4 [(0, 9, 12, 21)] 9 4 24 D cy ad Ls st [.ref (ad 0), .int a0, .ref (ad 90)] (fun r u => (∃ j, j < 1 ∧ K = j + 1 ∧ r = nI K ∧ u = (st, ad, Ls)) ∨ (r = nI 0 ∧ ∃ r1 u1, post r1 u1 ∧ u = (sl u1 0 90 r1.toInt64, ad, Ls))) := by
  intro sz
  refine x_ofH sz (by decide +kernel) (Nat.le_of_ble_eq_true rfl) ?_
  intro p e s m args below meth c ls hx hb hr hlocks hT C hsz h hl
  have hl : lv_has ls 4 [(0, .ref (ad 0)), (1, .int a0), (2, .ref (ad 90))] := hl
  obtain ⟨H, eH⟩ : ∃ z, z = s.heap := ⟨_, rfl⟩
  obtain ⟨locs, eL⟩ : ∃ z : List Loc, z = [] := ⟨_, rfl⟩
  rw [← eH, ← eL] at h
  rw [← eH, ← eL]
  clear eH eL
  refine lv_aload_n hx hb dL_taxAnew_0 rfl (lv_at hl 2 rfl) ?_
  refine lv_iconst (v := nI 0) hx hb dL_taxAnew_1 (by decide) ?_
  refine lv_aload_n hx hb dL_taxAnew_2 rfl (lv_at hl 0 rfl) ?_
  refine lv_iload_n hx hb dL_taxAnew_3 rfl (lv_at hl 1 rfl) ?_
  refine cx_L_53 C h h0 rfl hM ⟨Nat.le_of_ble_eq_true rfl, Nat.le_of_ble_eq_true rfl⟩ ⟨Nat.le_of_ble_eq_true rfl, Nat.le_of_ble_eq_true rfl⟩ hl.1 (Nat.le_of_ble_eq_true rfl) dL_taxAnew_4 ?_ ?_
  · intro E ce q9 H1 locs1 hE h1 hc9 hv9 hcl
    obtain ⟨j, hKj, hj⟩ := hE
    rcases j with _ | j
    · have eE : E = eIOB := (Option.some.inj hj).symm
      subst eE
      refine vx_catch C.2.2.2.1 [] ⟨0, 9, 12, 21⟩ [] (hT.trans rfl) (fun z hz => by cases hz) (by decide) (by decide) (C.2.2.2.2.1 _ tb445) (va_Nw.use rfl (C.2.2.2.2.2.2 _ tn452)) hc9 hv9 hcl ?_
      refine lv_astore_n (lv' := [(3, .ref q9), (0, .ref (ad 0)), (1, .int a0), (2, .ref (ad 90))]) hx hb dL_taxAnew_12 rfl hl (by decide) rfl (fun ls hl => ?_)
      refine lv_iconst (v := nI 1) hx hb dL_taxAnew_13 (by decide) ?_
      exact x_iretH C hr hlocks h1 (Or.inl ⟨0, by decide, hKj, by rw [hKj], rfl⟩) dL_taxAnew_14
    · cases hj
  · intro r1 u1 H1 locs1 hp h1
    refine lv_i2l hx hb dL_taxAnew_7 rfl ?_
    refine x_last C h1 h90 rfl rfl dL_taxAnew_8 (fun H2 locs2 u2 eu2 h2 => ?_)
    refine lv_goto (tgt := 15) hx hb dL_taxAnew_9 (by decide) ?_
    refine lv_iconst (v := nI 0) hx hb dL_taxAnew_15 (by decide) ?_
    exact x_iretH C hr hlocks h2 (Or.inr ⟨rfl, r1, u1, hp, by rw [eu2]⟩) dL_taxAnew_16

theorem tw_used : Cond.codeWith yL_used cL_used 5 (some .int) [(0, 10, 13, 21)] ∈ TB := TB_mem 791 (by decide +kernel) (by decide +kernel)
set_option maxHeartbeats 4000000 in
set_option maxRecDepth 100000 in
theorem w_used (l : Launch) (D : va_G) (cy : Nat → ClassId) (ad : Nat → Nat) (Ls : List Nat) (st : XS) (h0 : 0 ∈ Ls) (h90 : 90 ∈ Ls) (a0 : Int32) (a1 : Int32) (K : Nat) {post : Int32 → XS → Prop} (hM : xXi l yX7_used cX7_used 4 (some .int) 8 4 24 D cy ad Ls st [.ref (ad 0), .int a0, .int a1] (fun E => exK K [eIOB] E) post) : xMw l yL_used cL_used 5 [(0, 10, 13, 21)] 9 4 24 D cy ad Ls st [.ref (ad 0), .int a0, .int a1, .ref (ad 90)] (fun r u => (∃ j, j < 1 ∧ K = j + 1 ∧ r = nI K ∧ u = (st, ad, Ls)) ∨ (r = nI 0 ∧ ∃ r1 u1, post r1 u1 ∧ u = (sl u1 0 90 r1.toInt64, ad, Ls))) := by
  intro sz
  refine x_ofH sz (by decide +kernel) (Nat.le_of_ble_eq_true rfl) ?_
  intro p e s m args below meth c ls hx hb hr hlocks hT C hsz h hl
  have hl : lv_has ls 5 [(0, .ref (ad 0)), (1, .int a0), (2, .int a1), (3, .ref (ad 90))] := hl
  obtain ⟨H, eH⟩ : ∃ z, z = s.heap := ⟨_, rfl⟩
  obtain ⟨locs, eL⟩ : ∃ z : List Loc, z = [] := ⟨_, rfl⟩
  rw [← eH, ← eL] at h
  rw [← eH, ← eL]
  clear eH eL
  refine lv_aload_n hx hb dL_used_0 rfl (lv_at hl 3 rfl) ?_
  refine lv_iconst (v := nI 0) hx hb dL_used_1 (by decide) ?_
  refine lv_aload_n hx hb dL_used_2 rfl (lv_at hl 0 rfl) ?_
  refine lv_iload_n hx hb dL_used_3 rfl (lv_at hl 1 rfl) ?_
  refine lv_iload_n hx hb dL_used_4 rfl (lv_at hl 2 rfl) ?_
  refine cx_L_56 C h h0 rfl hM ⟨Nat.le_of_ble_eq_true rfl, Nat.le_of_ble_eq_true rfl⟩ ⟨Nat.le_of_ble_eq_true rfl, Nat.le_of_ble_eq_true rfl⟩ hl.1 (Nat.le_of_ble_eq_true rfl) dL_used_5 ?_ ?_
  · intro E ce q9 H1 locs1 hE h1 hc9 hv9 hcl
    obtain ⟨j, hKj, hj⟩ := hE
    rcases j with _ | j
    · have eE : E = eIOB := (Option.some.inj hj).symm
      subst eE
      refine vx_catch C.2.2.2.1 [] ⟨0, 10, 13, 21⟩ [] (hT.trans rfl) (fun z hz => by cases hz) (by decide) (by decide) (C.2.2.2.2.1 _ tb445) (va_Nw.use rfl (C.2.2.2.2.2.2 _ tn452)) hc9 hv9 hcl ?_
      refine lv_astore (lv' := [(4, .ref q9), (0, .ref (ad 0)), (1, .int a0), (2, .int a1), (3, .ref (ad 90))]) hx hb dL_used_13 hl (by decide) rfl (fun ls hl => ?_)
      refine lv_iconst (v := nI 1) hx hb dL_used_15 (by decide) ?_
      exact x_iretH C hr hlocks h1 (Or.inl ⟨0, by decide, hKj, by rw [hKj], rfl⟩) dL_used_16
    · cases hj
  · intro r1 u1 H1 locs1 hp h1
    refine lv_i2l hx hb dL_used_8 rfl ?_
    refine x_last C h1 h90 rfl rfl dL_used_9 (fun H2 locs2 u2 eu2 h2 => ?_)
    refine lv_goto (tgt := 17) hx hb dL_used_10 (by decide) ?_
    refine lv_iconst (v := nI 0) hx hb dL_used_17 (by decide) ?_
    exact x_iretH C hr hlocks h2 (Or.inr ⟨rfl, r1, u1, hp, by rw [eu2]⟩) dL_used_18

theorem tw_written : Cond.codeWith yL_written cL_written 6 (some .int) [(0, 12, 15, 21)] ∈ TB := TB_mem 798 (by decide +kernel) (by decide +kernel)
set_option maxHeartbeats 4000000 in
set_option maxRecDepth 100000 in
theorem w_written (l : Launch) (D : va_G) (cy : Nat → ClassId) (ad : Nat → Nat) (Ls : List Nat) (st : XS) (h0 : 0 ∈ Ls) (h90 : 90 ∈ Ls) (a0 : Int32) (a1 : Int32) (a2 : Int32) (K : Nat) {post : Int32 → XS → Prop} (hM : xXi l yX7_written cX7_written 6 (some .char) 14 4 24 D cy ad Ls st [.ref (ad 0), .int a0, .int a1, .int a2] (fun E => exK K [eIOB] E) post) : xMw l yL_written cL_written 6 [(0, 12, 15, 21)] 15 4 24 D cy ad Ls st [.ref (ad 0), .int a0, .int a1, .int a2, .ref (ad 90)] (fun r u => (∃ j, j < 1 ∧ K = j + 1 ∧ r = nI K ∧ u = (st, ad, Ls)) ∨ (r = nI 0 ∧ ∃ r1 u1, post r1 u1 ∧ u = (sl u1 0 90 r1.toInt64, ad, Ls))) := by
  intro sz
  refine x_ofH sz (by decide +kernel) (Nat.le_of_ble_eq_true rfl) ?_
  intro p e s m args below meth c ls hx hb hr hlocks hT C hsz h hl
  have hl : lv_has ls 6 [(0, .ref (ad 0)), (1, .int a0), (2, .int a1), (3, .int a2), (4, .ref (ad 90))] := hl
  obtain ⟨H, eH⟩ : ∃ z, z = s.heap := ⟨_, rfl⟩
  obtain ⟨locs, eL⟩ : ∃ z : List Loc, z = [] := ⟨_, rfl⟩
  rw [← eH, ← eL] at h
  rw [← eH, ← eL]
  clear eH eL
  refine lv_aload hx hb dL_written_0 (lv_at hl 4 rfl) ?_
  refine lv_iconst (v := nI 0) hx hb dL_written_2 (by decide) ?_
  refine lv_aload_n hx hb dL_written_3 rfl (lv_at hl 0 rfl) ?_
  refine lv_iload_n hx hb dL_written_4 rfl (lv_at hl 1 rfl) ?_
  refine lv_iload_n hx hb dL_written_5 rfl (lv_at hl 2 rfl) ?_
  refine lv_iload_n hx hb dL_written_6 rfl (lv_at hl 3 rfl) ?_
  refine cx_L_59 C h h0 rfl hM ⟨Nat.le_of_ble_eq_true rfl, Nat.le_of_ble_eq_true rfl⟩ ⟨Nat.le_of_ble_eq_true rfl, Nat.le_of_ble_eq_true rfl⟩ hl.1 (Nat.le_of_ble_eq_true rfl) dL_written_7 ?_ ?_
  · intro E ce q9 H1 locs1 hE h1 hc9 hv9 hcl
    obtain ⟨j, hKj, hj⟩ := hE
    rcases j with _ | j
    · have eE : E = eIOB := (Option.some.inj hj).symm
      subst eE
      refine vx_catch C.2.2.2.1 [] ⟨0, 12, 15, 21⟩ [] (hT.trans rfl) (fun z hz => by cases hz) (by decide) (by decide) (C.2.2.2.2.1 _ tb445) (va_Nw.use rfl (C.2.2.2.2.2.2 _ tn452)) hc9 hv9 hcl ?_
      refine lv_astore (lv' := [(5, .ref q9), (0, .ref (ad 0)), (1, .int a0), (2, .int a1), (3, .int a2), (4, .ref (ad 90))]) hx hb dL_written_15 hl (by decide) rfl (fun ls hl => ?_)
      refine lv_iconst (v := nI 1) hx hb dL_written_17 (by decide) ?_
      exact x_iretH C hr hlocks h1 (Or.inl ⟨0, by decide, hKj, by rw [hKj], rfl⟩) dL_written_18
    · cases hj
  · intro r1 u1 H1 locs1 hp h1
    refine lv_i2l hx hb dL_written_10 rfl ?_
    refine x_last C h1 h90 rfl rfl dL_written_11 (fun H2 locs2 u2 eu2 h2 => ?_)
    refine lv_goto (tgt := 19) hx hb dL_written_12 (by decide) ?_
    refine lv_iconst (v := nI 0) hx hb dL_written_19 (by decide) ?_
    exact x_iretH C hr hlocks h2 (Or.inr ⟨rfl, r1, u1, hp, by rw [eu2]⟩) dL_written_20

theorem tw_length : Cond.codeWith yL_length cL_length 5 (some .int) [(0, 10, 13, 21)] ∈ TB := TB_mem 844 (by decide +kernel) (by decide +kernel)
set_option maxHeartbeats 4000000 in
set_option maxRecDepth 100000 in
theorem w_length (l : Launch) (D : va_G) (cy : Nat → ClassId) (ad : Nat → Nat) (Ls : List Nat) (st : XS) (h0 : 0 ∈ Ls) (h90 : 90 ∈ Ls) (a0 : Int32) (a1 : Int32) (K : Nat) {post : Int32 → XS → Prop} (hM : xXi l yX7_length cX7_length 5 (some .int) 14 4 24 D cy ad Ls st [.ref (ad 0), .int a0, .int a1] (fun E => exK K [eIOB] E) post) : xMw l yL_length cL_length 5 [(0, 10, 13, 21)] 15 4 24 D cy ad Ls st [.ref (ad 0), .int a0, .int a1, .ref (ad 90)] (fun r u => (∃ j, j < 1 ∧ K = j + 1 ∧ r = nI K ∧ u = (st, ad, Ls)) ∨ (r = nI 0 ∧ ∃ r1 u1, post r1 u1 ∧ u = (sl u1 0 90 r1.toInt64, ad, Ls))) := by
  intro sz
  refine x_ofH sz (by decide +kernel) (Nat.le_of_ble_eq_true rfl) ?_
  intro p e s m args below meth c ls hx hb hr hlocks hT C hsz h hl
  have hl : lv_has ls 5 [(0, .ref (ad 0)), (1, .int a0), (2, .int a1), (3, .ref (ad 90))] := hl
  obtain ⟨H, eH⟩ : ∃ z, z = s.heap := ⟨_, rfl⟩
  obtain ⟨locs, eL⟩ : ∃ z : List Loc, z = [] := ⟨_, rfl⟩
  rw [← eH, ← eL] at h
  rw [← eH, ← eL]
  clear eH eL
  refine lv_aload_n hx hb dL_length_0 rfl (lv_at hl 3 rfl) ?_
  refine lv_iconst (v := nI 0) hx hb dL_length_1 (by decide) ?_
  refine lv_aload_n hx hb dL_length_2 rfl (lv_at hl 0 rfl) ?_
  refine lv_iload_n hx hb dL_length_3 rfl (lv_at hl 1 rfl) ?_
  refine lv_iload_n hx hb dL_length_4 rfl (lv_at hl 2 rfl) ?_
  refine cx_L_63 C h h0 rfl hM ⟨Nat.le_of_ble_eq_true rfl, Nat.le_of_ble_eq_true rfl⟩ ⟨Nat.le_of_ble_eq_true rfl, Nat.le_of_ble_eq_true rfl⟩ hl.1 (Nat.le_of_ble_eq_true rfl) dL_length_5 ?_ ?_
  · intro E ce q9 H1 locs1 hE h1 hc9 hv9 hcl
    obtain ⟨j, hKj, hj⟩ := hE
    rcases j with _ | j
    · have eE : E = eIOB := (Option.some.inj hj).symm
      subst eE
      refine vx_catch C.2.2.2.1 [] ⟨0, 10, 13, 21⟩ [] (hT.trans rfl) (fun z hz => by cases hz) (by decide) (by decide) (C.2.2.2.2.1 _ tb445) (va_Nw.use rfl (C.2.2.2.2.2.2 _ tn452)) hc9 hv9 hcl ?_
      refine lv_astore (lv' := [(4, .ref q9), (0, .ref (ad 0)), (1, .int a0), (2, .int a1), (3, .ref (ad 90))]) hx hb dL_length_13 hl (by decide) rfl (fun ls hl => ?_)
      refine lv_iconst (v := nI 1) hx hb dL_length_15 (by decide) ?_
      exact x_iretH C hr hlocks h1 (Or.inl ⟨0, by decide, hKj, by rw [hKj], rfl⟩) dL_length_16
    · cases hj
  · intro r1 u1 H1 locs1 hp h1
    refine lv_i2l hx hb dL_length_8 rfl ?_
    refine x_last C h1 h90 rfl rfl dL_length_9 (fun H2 locs2 u2 eu2 h2 => ?_)
    refine lv_goto (tgt := 17) hx hb dL_length_10 (by decide) ?_
    refine lv_iconst (v := nI 0) hx hb dL_length_17 (by decide) ?_
    exact x_iretH C hr hlocks h2 (Or.inr ⟨rfl, r1, u1, hp, by rw [eu2]⟩) dL_length_18

theorem tw_settle : Cond.codeWith yL_settle cL_settle 4 (some .int) [(0, 9, 12, 21)] ∈ TB := TB_mem 851 (by decide +kernel) (by decide +kernel)
set_option maxHeartbeats 4000000 in
set_option maxRecDepth 100000 in
theorem w_settle (l : Launch) (D : va_G) (cy : Nat → ClassId) (ad : Nat → Nat) (Ls : List Nat) (st : XS) (h0 : 0 ∈ Ls) (h90 : 90 ∈ Ls) (a0 : Int32) (K : Nat) {post : Int32 → XS → Prop} (hM : xXi l yX7_settle cX7_settle 5 (some .int) 9 4 24 D cy ad Ls st [.ref (ad 0), .int a0] (fun E => exK K [eIOB] E) post) : xMw l yL_settle cL_settle 4 [(0, 9, 12, 21)] 10 4 24 D cy ad Ls st [.ref (ad 0), .int a0, .ref (ad 90)] (fun r u => (∃ j, j < 1 ∧ K = j + 1 ∧ r = nI K ∧ u = (st, ad, Ls)) ∨ (r = nI 0 ∧ ∃ r1 u1, post r1 u1 ∧ u = (sl u1 0 90 r1.toInt64, ad, Ls))) := by
  intro sz
  refine x_ofH sz (by decide +kernel) (Nat.le_of_ble_eq_true rfl) ?_
  intro p e s m args below meth c ls hx hb hr hlocks hT C hsz h hl
  have hl : lv_has ls 4 [(0, .ref (ad 0)), (1, .int a0), (2, .ref (ad 90))] := hl
  obtain ⟨H, eH⟩ : ∃ z, z = s.heap := ⟨_, rfl⟩
  obtain ⟨locs, eL⟩ : ∃ z : List Loc, z = [] := ⟨_, rfl⟩
  rw [← eH, ← eL] at h
  rw [← eH, ← eL]
  clear eH eL
  refine lv_aload_n hx hb dL_settle_0 rfl (lv_at hl 2 rfl) ?_
  refine lv_iconst (v := nI 0) hx hb dL_settle_1 (by decide) ?_
  refine lv_aload_n hx hb dL_settle_2 rfl (lv_at hl 0 rfl) ?_
  refine lv_iload_n hx hb dL_settle_3 rfl (lv_at hl 1 rfl) ?_
  refine cx_L_66 C h h0 rfl hM ⟨Nat.le_of_ble_eq_true rfl, Nat.le_of_ble_eq_true rfl⟩ ⟨Nat.le_of_ble_eq_true rfl, Nat.le_of_ble_eq_true rfl⟩ hl.1 (Nat.le_of_ble_eq_true rfl) dL_settle_4 ?_ ?_
  · intro E ce q9 H1 locs1 hE h1 hc9 hv9 hcl
    obtain ⟨j, hKj, hj⟩ := hE
    rcases j with _ | j
    · have eE : E = eIOB := (Option.some.inj hj).symm
      subst eE
      refine vx_catch C.2.2.2.1 [] ⟨0, 9, 12, 21⟩ [] (hT.trans rfl) (fun z hz => by cases hz) (by decide) (by decide) (C.2.2.2.2.1 _ tb445) (va_Nw.use rfl (C.2.2.2.2.2.2 _ tn452)) hc9 hv9 hcl ?_
      refine lv_astore_n (lv' := [(3, .ref q9), (0, .ref (ad 0)), (1, .int a0), (2, .ref (ad 90))]) hx hb dL_settle_12 rfl hl (by decide) rfl (fun ls hl => ?_)
      refine lv_iconst (v := nI 1) hx hb dL_settle_13 (by decide) ?_
      exact x_iretH C hr hlocks h1 (Or.inl ⟨0, by decide, hKj, by rw [hKj], rfl⟩) dL_settle_14
    · cases hj
  · intro r1 u1 H1 locs1 hp h1
    refine lv_i2l hx hb dL_settle_7 rfl ?_
    refine x_last C h1 h90 rfl rfl dL_settle_8 (fun H2 locs2 u2 eu2 h2 => ?_)
    refine lv_goto (tgt := 15) hx hb dL_settle_9 (by decide) ?_
    refine lv_iconst (v := nI 0) hx hb dL_settle_15 (by decide) ?_
    exact x_iretH C hr hlocks h2 (Or.inr ⟨rfl, r1, u1, hp, by rw [eu2]⟩) dL_settle_16

theorem tw_note : Cond.codeWith yL_note cL_note 5 (some .int) [(0, 10, 13, 21), (0, 10, 17, 13)] ∈ TB := TB_mem 867 (by decide +kernel) (by decide +kernel)
set_option maxHeartbeats 4000000 in
set_option maxRecDepth 100000 in
theorem w_note (l : Launch) (D : va_G) (cy : Nat → ClassId) (ad : Nat → Nat) (Ls : List Nat) (st : XS) (h0 : 0 ∈ Ls) (h90 : 90 ∈ Ls) (a0 : Int32) (a1 : Int32) (K : Nat) {post : Int32 → XS → Prop} (hM : xXi l yX7_note cX7_note 3 (some .int) 6 4 24 D cy ad Ls st [.ref (ad 0), .int a0, .int a1] (fun E => exK K [eIOB, eIAE] E) post) : xMw l yL_note cL_note 5 [(0, 10, 13, 21), (0, 10, 17, 13)] 7 4 24 D cy ad Ls st [.ref (ad 0), .int a0, .int a1, .ref (ad 90)] (fun r u => (∃ j, j < 2 ∧ K = j + 1 ∧ r = nI K ∧ u = (st, ad, Ls)) ∨ (r = nI 0 ∧ ∃ r1 u1, post r1 u1 ∧ u = (sl u1 0 90 r1.toInt64, ad, Ls))) := by
  intro sz
  refine x_ofH sz (by decide +kernel) (Nat.le_of_ble_eq_true rfl) ?_
  intro p e s m args below meth c ls hx hb hr hlocks hT C hsz h hl
  have hl : lv_has ls 5 [(0, .ref (ad 0)), (1, .int a0), (2, .int a1), (3, .ref (ad 90))] := hl
  obtain ⟨H, eH⟩ : ∃ z, z = s.heap := ⟨_, rfl⟩
  obtain ⟨locs, eL⟩ : ∃ z : List Loc, z = [] := ⟨_, rfl⟩
  rw [← eH, ← eL] at h
  rw [← eH, ← eL]
  clear eH eL
  refine lv_aload_n hx hb dL_note_0 rfl (lv_at hl 3 rfl) ?_
  refine lv_iconst (v := nI 0) hx hb dL_note_1 (by decide) ?_
  refine lv_aload_n hx hb dL_note_2 rfl (lv_at hl 0 rfl) ?_
  refine lv_iload_n hx hb dL_note_3 rfl (lv_at hl 1 rfl) ?_
  refine lv_iload_n hx hb dL_note_4 rfl (lv_at hl 2 rfl) ?_
  refine cx_L_69 C h h0 rfl hM ⟨Nat.le_of_ble_eq_true rfl, Nat.le_of_ble_eq_true rfl⟩ ⟨Nat.le_of_ble_eq_true rfl, Nat.le_of_ble_eq_true rfl⟩ hl.1 (Nat.le_of_ble_eq_true rfl) dL_note_5 ?_ ?_
  · intro E ce q9 H1 locs1 hE h1 hc9 hv9 hcl
    obtain ⟨j, hKj, hj⟩ := hE
    rcases j with _ | _ | j
    · have eE : E = eIOB := (Option.some.inj hj).symm
      subst eE
      refine vx_catch C.2.2.2.1 [] ⟨0, 10, 13, 21⟩ [⟨0, 10, 17, 13⟩] (hT.trans rfl) (fun z hz => by cases hz) (by decide) (by decide) (C.2.2.2.2.1 _ tb445) (va_Nw.use rfl (C.2.2.2.2.2.2 _ tn452)) hc9 hv9 hcl ?_
      refine lv_astore (lv' := [(4, .ref q9), (0, .ref (ad 0)), (1, .int a0), (2, .int a1), (3, .ref (ad 90))]) hx hb dL_note_13 hl (by decide) rfl (fun ls hl => ?_)
      refine lv_iconst (v := nI 1) hx hb dL_note_15 (by decide) ?_
      exact x_iretH C hr hlocks h1 (Or.inl ⟨0, by decide, hKj, by rw [hKj], rfl⟩) dL_note_16
    · have eE : E = eIAE := (Option.some.inj hj).symm
      subst eE
      refine vx_catch C.2.2.2.1 [⟨0, 10, 13, 21⟩] ⟨0, 10, 17, 13⟩ [] (hT.trans rfl) (fun z hz => by rcases List.mem_singleton.mp hz with rfl; exact Or.inr ⟨by decide, _, C.2.2.2.2.1 _ tb445, h1.2.2.2.2.2.2.2.2.2 (eIAE, eIOB) (by decide)⟩) (by decide) (by decide) (C.2.2.2.2.1 _ tb341) (va_Nw.use rfl (C.2.2.2.2.2.2 _ tn353)) hc9 hv9 hcl ?_
      refine lv_astore (lv' := [(4, .ref q9), (0, .ref (ad 0)), (1, .int a0), (2, .int a1), (3, .ref (ad 90))]) hx hb dL_note_17 hl (by decide) rfl (fun ls hl => ?_)
      refine lv_iconst (v := nI 2) hx hb dL_note_19 (by decide) ?_
      exact x_iretH C hr hlocks h1 (Or.inl ⟨1, by decide, hKj, by rw [hKj], rfl⟩) dL_note_20
    · cases hj
  · intro r1 u1 H1 locs1 hp h1
    refine lv_i2l hx hb dL_note_8 rfl ?_
    refine x_last C h1 h90 rfl rfl dL_note_9 (fun H2 locs2 u2 eu2 h2 => ?_)
    refine lv_goto (tgt := 21) hx hb dL_note_10 (by decide) ?_
    refine lv_iconst (v := nI 0) hx hb dL_note_21 (by decide) ?_
    exact x_iretH C hr hlocks h2 (Or.inr ⟨rfl, r1, u1, hp, by rw [eu2]⟩) dL_note_22

theorem tw_owed : Cond.codeWith yL_owed cL_owed 4 (some .int) [(0, 9, 12, 21)] ∈ TB := TB_mem 875 (by decide +kernel) (by decide +kernel)
set_option maxHeartbeats 4000000 in
set_option maxRecDepth 100000 in
theorem w_owed (l : Launch) (D : va_G) (cy : Nat → ClassId) (ad : Nat → Nat) (Ls : List Nat) (st : XS) (h0 : 0 ∈ Ls) (h90 : 90 ∈ Ls) (a0 : Int32) (K : Nat) {post : Int32 → XS → Prop} (hM : xXi l yX7_owed cX7_owed 5 (some .int) 9 4 24 D cy ad Ls st [.ref (ad 0), .int a0] (fun E => exK K [eIOB] E) post) : xMw l yL_owed cL_owed 4 [(0, 9, 12, 21)] 10 4 24 D cy ad Ls st [.ref (ad 0), .int a0, .ref (ad 90)] (fun r u => (∃ j, j < 1 ∧ K = j + 1 ∧ r = nI K ∧ u = (st, ad, Ls)) ∨ (r = nI 0 ∧ ∃ r1 u1, post r1 u1 ∧ u = (sl u1 0 90 r1.toInt64, ad, Ls))) := by
  intro sz
  refine x_ofH sz (by decide +kernel) (Nat.le_of_ble_eq_true rfl) ?_
  intro p e s m args below meth c ls hx hb hr hlocks hT C hsz h hl
  have hl : lv_has ls 4 [(0, .ref (ad 0)), (1, .int a0), (2, .ref (ad 90))] := hl
  obtain ⟨H, eH⟩ : ∃ z, z = s.heap := ⟨_, rfl⟩
  obtain ⟨locs, eL⟩ : ∃ z : List Loc, z = [] := ⟨_, rfl⟩
  rw [← eH, ← eL] at h
  rw [← eH, ← eL]
  clear eH eL
  refine lv_aload_n hx hb dL_owed_0 rfl (lv_at hl 2 rfl) ?_
  refine lv_iconst (v := nI 0) hx hb dL_owed_1 (by decide) ?_
  refine lv_aload_n hx hb dL_owed_2 rfl (lv_at hl 0 rfl) ?_
  refine lv_iload_n hx hb dL_owed_3 rfl (lv_at hl 1 rfl) ?_
  refine cx_L_72 C h h0 rfl hM ⟨Nat.le_of_ble_eq_true rfl, Nat.le_of_ble_eq_true rfl⟩ ⟨Nat.le_of_ble_eq_true rfl, Nat.le_of_ble_eq_true rfl⟩ hl.1 (Nat.le_of_ble_eq_true rfl) dL_owed_4 ?_ ?_
  · intro E ce q9 H1 locs1 hE h1 hc9 hv9 hcl
    obtain ⟨j, hKj, hj⟩ := hE
    rcases j with _ | j
    · have eE : E = eIOB := (Option.some.inj hj).symm
      subst eE
      refine vx_catch C.2.2.2.1 [] ⟨0, 9, 12, 21⟩ [] (hT.trans rfl) (fun z hz => by cases hz) (by decide) (by decide) (C.2.2.2.2.1 _ tb445) (va_Nw.use rfl (C.2.2.2.2.2.2 _ tn452)) hc9 hv9 hcl ?_
      refine lv_astore_n (lv' := [(3, .ref q9), (0, .ref (ad 0)), (1, .int a0), (2, .ref (ad 90))]) hx hb dL_owed_12 rfl hl (by decide) rfl (fun ls hl => ?_)
      refine lv_iconst (v := nI 1) hx hb dL_owed_13 (by decide) ?_
      exact x_iretH C hr hlocks h1 (Or.inl ⟨0, by decide, hKj, by rw [hKj], rfl⟩) dL_owed_14
    · cases hj
  · intro r1 u1 H1 locs1 hp h1
    refine lv_i2l hx hb dL_owed_7 rfl ?_
    refine x_last C h1 h90 rfl rfl dL_owed_8 (fun H2 locs2 u2 eu2 h2 => ?_)
    refine lv_goto (tgt := 15) hx hb dL_owed_9 (by decide) ?_
    refine lv_iconst (v := nI 0) hx hb dL_owed_15 (by decide) ?_
    exact x_iretH C hr hlocks h2 (Or.inr ⟨rfl, r1, u1, hp, by rw [eu2]⟩) dL_owed_16
