/-! ===== new forms and bills; template, make ===== -/
def adF (ad : Nat → Nat) (g q q1 q2 q3 : Nat) : Nat → Nat := fun k => if k = 300 + 4 * g then q else if k = 300 + 4 * g + 1 then q1 else if k = 300 + 4 * g + 2 then q2 else if k = 300 + 4 * g + 3 then q3 else ad k
def LsF (g : Nat) : List Nat := [300 + 4 * g, 300 + 4 * g + 1, 300 + 4 * g + 2, 300 + 4 * g + 3]
/-- a form as it is made -/
def stF0 (st : XS) (g : Nat) : XS := (fun f k => if k = 300 + 4 * g then 0 else gi st f k, st.2.1, st.2.2.1, fun k => if 300 + 4 * g ≤ k ∧ k < 300 + 4 * g + 4 then (fun _ => 0) else ga st k, st.2.2.2.2)
theorem adF_ag {ad : Nat → Nat} {g q q1 q2 q3 : Nat} {Ls : List Nat} (h : ∀ k ∈ LsF g, k ∉ Ls) : ∀ k ∈ Ls, adF ad g q q1 q2 q3 k = ad k := by
  intro k hk
  unfold adF
  have h0 : ∀ j, j < 4 → ¬ k = 300 + 4 * g + j := fun j hj e => h k (by rw [e]; rcases (show j = 0 ∨ j = 1 ∨ j = 2 ∨ j = 3 by omega) with rfl | rfl | rfl | rfl <;> simp [LsF]) hk
  have hz : ¬ k = 300 + 4 * g := h0 0 (by decide)
  rw [if_neg hz, if_neg (h0 1 (by decide)), if_neg (h0 2 (by decide)), if_neg (h0 3 (by decide))]
theorem stF0_ag {st : XS} {g : Nat} {Ls : List Nat} (h : ∀ k ∈ LsF g, k ∉ Ls) : ∀ k ∈ Ls, xAg st (stF0 st g) k := by
  intro k hk
  have h0 : ∀ j, j < 4 → ¬ k = 300 + 4 * g + j := fun j hj e => h k (by rw [e]; rcases (show j = 0 ∨ j = 1 ∨ j = 2 ∨ j = 3 by omega) with rfl | rfl | rfl | rfl <;> simp [LsF]) hk
  have h1 := h0 0 (by decide); have h2 := h0 1 (by decide); have h3 := h0 2 (by decide); have h4 := h0 3 (by decide)
  exact ⟨fun f => if_neg h1, fun _ => rfl, fun _ => rfl, if_neg (by omega), rfl⟩
theorem xws_F {cy : Nat → ClassId} {ad : Nat → Nat} {st : XS} {g q q1 q2 q3 : Nat} (hg : g < 40) : xws (adF ad g q q1 q2 q3) (LsF g) (xE cy (adF ad g q q1 q2 q3) (stF0 st g)) = [(q, .inr (1, [.ref q1, .ref q2, .ref q3, .int 0])), (q1, .inl (cy 0, 160, .inl (fun _ => 0))), (q2, .inl (cy 0, 160, .inl (fun _ => 0))), (q3, .inl (cy 0, 160, .inl (fun _ => 0)))] := by
  have a0 : adF ad g q q1 q2 q3 (300 + 4 * g) = q := if_pos rfl
  have a1 : adF ad g q q1 q2 q3 (300 + 4 * g + 1) = q1 := by unfold adF; rw [if_neg (by omega), if_pos rfl]
  have a2 : adF ad g q q1 q2 q3 (300 + 4 * g + 2) = q2 := by unfold adF; rw [if_neg (by omega), if_neg (by omega), if_pos rfl]
  have a3 : adF ad g q q1 q2 q3 (300 + 4 * g + 3) = q3 := by unfold adF; rw [if_neg (by omega), if_neg (by omega), if_neg (by omega), if_pos rfl]
  have r1 : ga (stF0 st g) (300 + 4 * g + 1) = fun _ => 0 := if_pos (by omega)
  have r2 : ga (stF0 st g) (300 + 4 * g + 2) = fun _ => 0 := if_pos (by omega)
  have r3 : ga (stF0 st g) (300 + 4 * g + 3) = fun _ => 0 := if_pos (by omega)
  have z0 : gi (stF0 st g) 3 (300 + 4 * g) = 0 := if_pos rfl
  unfold xws LsF
  simp only [List.map_cons, List.map_nil]
  rw [xE_ob (kd_f0 hg) (by decide), xE_row (n := 160) (kd_f1 hg), xE_row (n := 160) (kd_f2 hg), xE_row (n := 160) (kd_f3 hg), a0, a1, a2, a3, r1, r2, r3]
  show [(q, Sum.inr (1, [Value.ref (adF ad g q q1 q2 q3 (300 + 4 * g + 1)), Value.ref (adF ad g q q1 q2 q3 (300 + 4 * g + 2)), Value.ref (adF ad g q q1 q2 q3 (300 + 4 * g + 3)), Value.int (gi (stF0 st g) 3 (300 + 4 * g))])), _, _, _] = _
  rw [a1, a2, a3, z0]
def adB (ad : Nat → Nat) (b q q1 q2 q3 q4 q5 : Nat) : Nat → Nat := fun k => if k = 100 + 6 * b then q else if k = 100 + 6 * b + 1 then q1 else if k = 100 + 6 * b + 2 then q2 else if k = 100 + 6 * b + 3 then q3 else if k = 100 + 6 * b + 4 then q4 else if k = 100 + 6 * b + 5 then q5 else ad k
def LsB (b : Nat) : List Nat := [100 + 6 * b, 100 + 6 * b + 1, 100 + 6 * b + 2, 100 + 6 * b + 3, 100 + 6 * b + 4, 100 + 6 * b + 5]
/-- a bill as it is made -/
def stB0 (st : XS) (b : Nat) : XS := (fun f k => if k = 100 + 6 * b then 0 else gi st f k, st.2.1, st.2.2.1, fun k => if 100 + 6 * b ≤ k ∧ k < 100 + 6 * b + 6 then (fun _ => 0) else ga st k, st.2.2.2.2)
theorem LsB_mem {b j : Nat} (hj : j < 6) : 100 + 6 * b + j ∈ LsB b := by
  rcases (show j = 0 ∨ j = 1 ∨ j = 2 ∨ j = 3 ∨ j = 4 ∨ j = 5 by omega) with rfl | rfl | rfl | rfl | rfl | rfl <;> simp [LsB]
theorem LsF_mem {g j : Nat} (hj : j < 4) : 300 + 4 * g + j ∈ LsF g := by
  rcases (show j = 0 ∨ j = 1 ∨ j = 2 ∨ j = 3 by omega) with rfl | rfl | rfl | rfl <;> simp [LsF]
theorem adB_ag {ad : Nat → Nat} {b q q1 q2 q3 q4 q5 : Nat} {Ls : List Nat} (h : ∀ k ∈ LsB b, k ∉ Ls) : ∀ k ∈ Ls, adB ad b q q1 q2 q3 q4 q5 k = ad k := by
  intro k hk
  unfold adB
  have h0 : ∀ j, j < 6 → ¬ k = 100 + 6 * b + j := fun j hj e => h k (by rw [e]; exact LsB_mem hj) hk
  have hz : ¬ k = 100 + 6 * b := h0 0 (by decide)
  rw [if_neg hz, if_neg (h0 1 (by decide)), if_neg (h0 2 (by decide)), if_neg (h0 3 (by decide)), if_neg (h0 4 (by decide)), if_neg (h0 5 (by decide))]
theorem stB0_ag {st : XS} {b : Nat} {Ls : List Nat} (h : ∀ k ∈ LsB b, k ∉ Ls) : ∀ k ∈ Ls, xAg st (stB0 st b) k := by
  intro k hk
  have h0 : ∀ j, j < 6 → ¬ k = 100 + 6 * b + j := fun j hj e => h k (by rw [e]; exact LsB_mem hj) hk
  have h1 := h0 0 (by decide); have h2 := h0 1 (by decide); have h3 := h0 2 (by decide); have h4 := h0 3 (by decide); have h5 := h0 4 (by decide); have h6 := h0 5 (by decide)
  exact ⟨fun f => if_neg h1, fun _ => rfl, fun _ => rfl, if_neg (by omega), rfl⟩
theorem xws_B {cy : Nat → ClassId} {ad : Nat → Nat} {st : XS} {b q q1 q2 q3 q4 q5 : Nat} (hb : b < 33) : xws (adB ad b q q1 q2 q3 q4 q5) (LsB b) (xE cy (adB ad b q q1 q2 q3 q4 q5) (stB0 st b)) = [(q, .inr (0, [.ref q1, .ref q2, .ref q3, .int 0, .int 0, .int 0, .int 0, .int 0, .int 0, .ref q4, .ref q5, .int 0, .int 0])), (q1, .inl (cy 0, 6, .inl (fun _ => 0))), (q2, .inl (cy 0, 6, .inl (fun _ => 0))), (q3, .inl (cy 0, 6, .inl (fun _ => 0))), (q4, .inl (cy 0, 4, .inl (fun _ => 0))), (q5, .inl (cy 0, 4, .inl (fun _ => 0)))] := by
  have a0 : adB ad b q q1 q2 q3 q4 q5 (100 + 6 * b) = q := if_pos rfl
  have a1 : adB ad b q q1 q2 q3 q4 q5 (100 + 6 * b + 1) = q1 := by unfold adB; rw [if_neg (by omega), if_pos rfl]
  have a2 : adB ad b q q1 q2 q3 q4 q5 (100 + 6 * b + 2) = q2 := by unfold adB; rw [if_neg (by omega), if_neg (by omega), if_pos rfl]
  have a3 : adB ad b q q1 q2 q3 q4 q5 (100 + 6 * b + 3) = q3 := by unfold adB; rw [if_neg (by omega), if_neg (by omega), if_neg (by omega), if_pos rfl]
  have a4 : adB ad b q q1 q2 q3 q4 q5 (100 + 6 * b + 4) = q4 := by unfold adB; rw [if_neg (by omega), if_neg (by omega), if_neg (by omega), if_neg (by omega), if_pos rfl]
  have a5 : adB ad b q q1 q2 q3 q4 q5 (100 + 6 * b + 5) = q5 := by unfold adB; rw [if_neg (by omega), if_neg (by omega), if_neg (by omega), if_neg (by omega), if_neg (by omega), if_pos rfl]
  have r : ∀ j, j < 6 → ga (stB0 st b) (100 + 6 * b + j) = fun _ => 0 := fun j hj => if_pos (by omega)
  have z : ∀ f, gi (stB0 st b) f (100 + 6 * b) = 0 := fun f => if_pos rfl
  unfold xws LsB
  simp only [List.map_cons, List.map_nil]
  rw [xE_ob (kd_b0 hb) (by decide), xE_row (n := 6) (kd_b1 hb), xE_row (n := 6) (kd_b2 hb), xE_row (n := 6) (kd_b3 hb), xE_row (n := 4) (kd_b4 hb), xE_row (n := 4) (kd_b5 hb), a0, a1, a2, a3, a4, a5, r 1 (by decide), r 2 (by decide), r 3 (by decide), r 4 (by decide), r 5 (by decide)]
  show [(q, Sum.inr (0, [Value.ref (adB ad b q q1 q2 q3 q4 q5 (100 + 6 * b + 1)), Value.ref (adB ad b q q1 q2 q3 q4 q5 (100 + 6 * b + 2)), Value.ref (adB ad b q q1 q2 q3 q4 q5 (100 + 6 * b + 3)), Value.int (gi (stB0 st b) 3 (100 + 6 * b)), Value.int (gi (stB0 st b) 4 (100 + 6 * b)), Value.int (gi (stB0 st b) 5 (100 + 6 * b)), Value.int (gi (stB0 st b) 6 (100 + 6 * b)), Value.int (gi (stB0 st b) 7 (100 + 6 * b)), Value.int (gi (stB0 st b) 8 (100 + 6 * b)), Value.ref (adB ad b q q1 q2 q3 q4 q5 (100 + 6 * b + 4)), Value.ref (adB ad b q q1 q2 q3 q4 q5 (100 + 6 * b + 5)), Value.int (gi (stB0 st b) 11 (100 + 6 * b)), Value.int (gi (stB0 st b) 12 (100 + 6 * b))])), _, _, _, _, _] = _
  rw [a1, a2, a3, a4, a5, z, z, z, z, z, z, z, z]
/-- a contract whose world grows: the state, the addresses, the labels behind it -/
def xXg (l : Launch) (y : MethodName) (bytes : ByteArray) (maxL : Nat) (n mc ms : Nat) (D : va_G) (cy : Nat → ClassId) (ad : Nat → Nat) (Ls : List Nat) (st : XS) (av : List Value) (ex : String → Prop) (post : Int32 → XS × (Nat → Nat) × List Nat → Prop) : Prop :=
  ∀ sz, vx_Met l y (xw y bytes maxL (some .int)) (xRX n mc ms) (va_Pc av (xPre D cy ad Ls sz st)) (va_Qi post (fun u => xPost D cy u.2.1 u.2.2 (XA ad Ls sz) u.1) (XA ad Ls sz)) (xXX ex D cy ad Ls (XA ad Ls sz) st) mc ms (XA ad Ls sz)
theorem x_iretG {p : Program} {l : Launch} {e : Env} {R : Room} {s : State} {m : MethodId} {args : Array Value} {below : List Frame} {meth : Method} {c : Code} {H : Heap} {locs : List Loc} {cells slots mc ms : Nat} {cc : ByteArray} {pc nL : Nat} {ls : Array Slot} {D : va_G} {cy : Nat → ClassId} {ad : Nat → Nat} {Ls : List Nat} {A : Nat → Prop} {st : XS} {own : String} {XC : String → State → State → Prop} {v : Int32} {post : Int32 → XS × (Nat → Nat) × List Nat → Prop} (C : xCx p m c cc nL s args own D cy) (hr : meth.sig.returnType = some .int) (hlocks : meth.locks = false) (h : xH D cy ad Ls A s st H locs) (hc : cells ≤ mc) (hs : slots ≤ ms) (hp : post v (st, ad, Ls)) (hdg : decode cc pc = .ok (.ireturn, 1)) :
    W p l e R s m args below meth c H locs cells slots (vx_MQ below (va_Qi post (fun u => xPost D cy u.2.1 u.2.2 A u.1) A) XC args s mc ms A) (F0 m pc ls [.int v]) :=
  vx_ret (W.widen (k := mc) (n := ms) hc hs (W.iret (v := v) C.1 C.2.1 hr (fun t ht hW => ⟨⟨v, (st, ad, Ls), rfl, hp, by subst ht; exact ⟨h.1, h.2.1, va_K.moved hW.alike C.2.2.2.2.2.1⟩⟩, h.2.2.1.F ht⟩) h.2.2.1.2.2 hdg hlocks))

theorem x_newF {p : Program} {l : Launch} {e : Env} {R : Room} {s : State} {m : MethodId} {args : Array Value} {below : List Frame} {meth : Method} {c : Code} {H : Heap} {locs : List Loc} {cells slots : Nat} {Q : State → Prop} {cc : ByteArray} {pc nL : Nat} {ls : Array Slot} {rest : List Value} {D : va_G} {cy : Nat → ClassId} {ad : Nat → Nat} {Ls : List Nat} {A : Nat → Prop} {st : XS} (C : xCx p m c cc nL s args RX7 D cy) (h : xH D cy ad Ls A s st H locs) {g : Nat} (hg : g < 40) (hcl : xCl st Ls) (hnew : ∀ k ∈ LsF g, k ∉ Ls) (hR : 2 ≤ R.frames ∧ 80 ≤ R.locals) (hf : cells + 1 + 3 ≤ R.cells ∧ slots + 4 + 480 ≤ R.slots) (hsz : ls.size = nL) (hrest : ((rest.map fun v => v.category).sum + 1) ≤ 8)
    (d0 : decode cc pc = .ok (.new 23, 3)) (d3 : decode cc (pc + 3) = .ok (.dup, 1)) (d4 : decode cc (pc + 4) = .ok (.invokespecial 108, 3))
    (kk : ∀ (q q1 q2 q3 : Nat) (H1 : Heap) (locs1 : List Loc), xH D cy (adF ad g q q1 q2 q3) (Ls ++ LsF g) A s (stF0 st g) H1 locs1 → W p l e R s m args below meth c H1 locs1 (cells + 1 + 3) (slots + 4 + 480) Q (F0 m (pc + 7) ls (.ref q :: rest))) : W p l e R s m args below meth c H locs cells slots Q (F0 m pc ls rest) := by
  refine x_newobj (B := fun q _ Wd => ∃ q1 q2 q3 : Nat, Wd = [(q, .inr (1, [.ref q1, .ref q2, .ref q3, .int 0])), (q1, .inl (cy 0, 160, .inl (fun _ => 0))), (q2, .inl (cy 0, 160, .inl (fun _ => 0))), (q3, .inl (cy 0, 160, .inl (fun _ => 0)))]) (mc := 3) (ms := 480) (rm := { frames := 1, cells := 3, slots := 480, locals := 40 }) C h (ci := 1) (fs := [.null, .null, .null, .int 0]) rfl tyX1 tyX1_ok inT1 tb160 tb93 tb45 (fun j hj => ?_) (fun q sz => c_X1_init l D cy q sz) rfl rfl rfl rfl rfl tn538 tb96 tb95 (by decide +kernel) hR hf hsz hrest d0 d3 d4 (fun q Wd H1 locs1 hB hh hP hD hX => ?_)
  · rcases (show j = 0 ∨ j = 1 ∨ j = 2 ∨ j = 3 by omega) with rfl | rfl | rfl | rfl <;> rfl
  · obtain ⟨q1, q2, q3, rfl⟩ := hB
    exact kk q q1 q2 q3 H1 locs1 (x_grow hh hP hD hX hcl (adF_ag hnew) (stF0_ag hnew) (xws_F hg))

theorem x_newB {p : Program} {l : Launch} {e : Env} {R : Room} {s : State} {m : MethodId} {args : Array Value} {below : List Frame} {meth : Method} {c : Code} {H : Heap} {locs : List Loc} {cells slots : Nat} {Q : State → Prop} {cc : ByteArray} {pc nL : Nat} {ls : Array Slot} {rest : List Value} {D : va_G} {cy : Nat → ClassId} {ad : Nat → Nat} {Ls : List Nat} {A : Nat → Prop} {st : XS} (C : xCx p m c cc nL s args RX7 D cy) (h : xH D cy ad Ls A s st H locs) {b : Nat} (hb : b < 33) (hcl : xCl st Ls) (hnew : ∀ k ∈ LsB b, k ∉ Ls) (hR : 2 ≤ R.frames ∧ 80 ≤ R.locals) (hf : cells + 1 + 5 ≤ R.cells ∧ slots + 13 + 26 ≤ R.slots) (hsz : ls.size = nL) (hrest : ((rest.map fun v => v.category).sum + 1) ≤ 8)
    (d0 : decode cc pc = .ok (.new 43, 3)) (d3 : decode cc (pc + 3) = .ok (.dup, 1)) (d4 : decode cc (pc + 4) = .ok (.invokespecial 45, 3))
    (kk : ∀ (q q1 q2 q3 q4 q5 : Nat) (H1 : Heap) (locs1 : List Loc), xH D cy (adB ad b q q1 q2 q3 q4 q5) (Ls ++ LsB b) A s (stB0 st b) H1 locs1 → W p l e R s m args below meth c H1 locs1 (cells + 1 + 5) (slots + 13 + 26) Q (F0 m (pc + 7) ls (.ref q :: rest))) : W p l e R s m args below meth c H locs cells slots Q (F0 m pc ls rest) := by
  refine x_newobj (B := fun q _ Wd => ∃ q1 q2 q3 q4 q5 : Nat, Wd = [(q, .inr (0, [.ref q1, .ref q2, .ref q3, .int 0, .int 0, .int 0, .int 0, .int 0, .int 0, .ref q4, .ref q5, .int 0, .int 0])), (q1, .inl (cy 0, 6, .inl (fun _ => 0))), (q2, .inl (cy 0, 6, .inl (fun _ => 0))), (q3, .inl (cy 0, 6, .inl (fun _ => 0))), (q4, .inl (cy 0, 4, .inl (fun _ => 0))), (q5, .inl (cy 0, 4, .inl (fun _ => 0)))]) (mc := 5) (ms := 26) (rm := { frames := 1, cells := 5, slots := 26, locals := 40 }) C h (ci := 0) (fs := [.null, .null, .null, .int 0, .int 0, .int 0, .int 0, .int 0, .int 0, .null, .null, .int 0, .int 0]) rfl tyX0 tyX0_ok inT0 tb185 tb186 tb48 (fun j hj => ?_) (fun q sz => c_X0_init l D cy q sz) rfl rfl rfl rfl rfl tn187 tb189 tb188 (by decide +kernel) hR hf hsz hrest d0 d3 d4 (fun q Wd H1 locs1 hB hh hP hD hX => ?_)
  · rcases (show j = 0 ∨ j = 1 ∨ j = 2 ∨ j = 3 ∨ j = 4 ∨ j = 5 ∨ j = 6 ∨ j = 7 ∨ j = 8 ∨ j = 9 ∨ j = 10 ∨ j = 11 ∨ j = 12 by omega) with rfl | rfl | rfl | rfl | rfl | rfl | rfl | rfl | rfl | rfl | rfl | rfl | rfl <;> rfl
  · obtain ⟨q1, q2, q3, q4, q5, rfl⟩ := hB
    exact kk q q1 q2 q3 q4 q5 H1 locs1 (x_grow hh hP hD hX hcl (adB_ag hnew) (stB0_ag hnew) (xws_B hb))
