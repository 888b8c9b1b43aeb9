/-! ===== the law's calls ===== -/
/-- a step: the class's contract, the reference's behind it, what they answer -/
def SI (l : Launch) (D : va_G) (cy : Nat → ClassId) (LI : Nat → List Nat → XS → Prop) (y7 : MethodName) (b7 : ByteArray) (k7 : Nat) (r7 : FieldType) (n7 mc ms : Nat) (Lc : List String) (y8 : MethodName) (b8 : ByteArray) (k8 : Nat) (r8 : FieldType) (n8 : Nat) (av : List Value) : Prop :=
  ∀ (t : Nat) (ad : Nat → Nat) (Ls : List Nat) (st : XS), t < 512 → LI t Ls st → ∃ (K : Nat) (post : Int32 → XS → Prop), xXi l y7 b7 k7 (some r7) n7 mc ms D cy ad Ls st (.ref (ad 0) :: av) (fun E => exK K Lc E) post ∧
    (¬ K = 0 → ∃ pb, xMi l y8 b8 k8 (some r8) n8 D cy ad Ls st (.ref (ad 30) :: av) pb ∧ ∀ rb u, pb rb u → gi u 0 30 = nI K ∧ LI (t + 1) Ls u) ∧
    (∀ r u, post r u → K = 0 ∧ ∀ u9, u9 = sl u 0 90 r.toInt64 → ∃ pb, xMi l y8 b8 k8 (some r8) n8 D cy ad Ls u9 (.ref (ad 30) :: av) pb ∧ ∀ rb u2, pb rb u2 → gi u2 0 30 = nI 0 ∧ rb = r ∧ gl u2 0 90 = r.toInt64 ∧ LI (t + 1) Ls u2)
/-- a step by which the world may grow -/
def SG (l : Launch) (D : va_G) (cy : Nat → ClassId) (LI : Nat → List Nat → XS → Prop) (y7 : MethodName) (b7 : ByteArray) (k7 : Nat) (r7 : FieldType) (n7 mc ms : Nat) (Lc : List String) (y8 : MethodName) (b8 : ByteArray) (k8 : Nat) (r8 : FieldType) (n8 : Nat) (av : List Value) : Prop :=
  ∀ (t : Nat) (ad : Nat → Nat) (Ls : List Nat) (st : XS), t < 512 → LI t Ls st → ∃ (K : Nat) (post : Int32 → XS × (Nat → Nat) × List Nat → Prop), xXg l y7 b7 k7 n7 mc ms D cy ad Ls st (.ref (ad 0) :: av) (fun E => exK K Lc E) post ∧ r7 = .int ∧
    (¬ K = 0 → ∃ pb, xMi l y8 b8 k8 (some r8) n8 D cy ad Ls st (.ref (ad 30) :: av) pb ∧ ∀ rb u, pb rb u → gi u 0 30 = nI K ∧ LI (t + 1) Ls u) ∧
    (∀ r u, post r u → K = 0 ∧ u.2.1 0 = ad 0 ∧ u.2.1 30 = ad 30 ∧ u.2.1 90 = ad 90 ∧ (∀ k, k ∈ Ls → k ∈ u.2.2) ∧ ∀ u9, u9 = sl u.1 0 90 r.toInt64 → ∃ pb, xMi l y8 b8 k8 (some r8) n8 D cy u.2.1 u.2.2 u9 (.ref (u.2.1 30) :: av) pb ∧ ∀ rb u2, pb rb u2 → gi u2 0 30 = nI 0 ∧ rb = r ∧ gl u2 0 90 = r.toInt64 ∧ LI (t + 1) u.2.2 u2)
/-- the invariant knows these labels -/
def LIok (LI : Nat → List Nat → XS → Prop) : Prop := ∀ t Ls st, LI t Ls st → (∀ k, xC k = true → k ∈ Ls) ∧ 90 ∈ Ls ∧ (∀ k, k ∈ LsM → k ∈ Ls) ∧ LI (t + 1) Ls st
abbrev lwA (s : State) : Nat → Prop := fun q => s.heap.size ≤ q
def lwL (b : Nat) (ad : Nat → Nat) (t : Nat) : List (Nat × Value) := [(0, .ref b), (1, .ref (ad 0)), (2, .ref (ad 30)), (3, .ref (ad 90)), (4, .int (nI (5 * t)))]
/-- what stands behind a call -/
def LK (p : Program) (l : Launch) (e : Env) (s : State) (m : MethodId) (below : List Frame) (meth : Method) (c : Code) (D : va_G) (cy : Nat → ClassId) (LI : Nat → List Nat → XS → Prop) (b t cells slots : Nat) (Q : State → Prop) : Prop :=
  ∀ (ad : Nat → Nat) (Ls : List Nat) (st : XS) (H : Heap) (locs : List Loc) (ls : Array Slot), xH D cy ad Ls (lwA s) s st H locs → LI (t + 1) Ls st → lv_has ls 7 (lwL b ad t) → W p l e room_1 s m #[Value.ref b] below meth c H locs (cells + 10) (slots + 600) Q (F0 m 1361 ls [])
section XSW
variable {p : Program} {l : Launch} {e : Env} {R : Room} {s : State} {m : MethodId} {args : Array Value} {below : List Frame} {meth : Method} {c : Code} {H : Heap} {locs : List Loc} {cells slots : Nat} {Q : State → Prop}
variable {cc : ByteArray} {pc nL : Nat} {ls : Array Slot} {rest st0 As : List Value} {D : va_G} {cy : Nat → ClassId} {ad : Nat → Nat} {Ls : List Nat} {A : Nat → Prop} {st : XS} {own : String}
theorem x_rSW {y : MethodName} {bytes : ByteArray} {maxL : Nat} {hh : List (Nat × Nat × Nat × Nat)} {n mc ms index : Nat} {post : Int32 → XS × (Nat → Nat) × List Nat → Prop} (C : xCx p m c cc nL s args own D cy) (h : xH D cy ad Ls A s st H locs) (hM : xMw l y bytes maxL hh n mc ms D cy ad Ls st As post) (hy : y.cls = own) (w1 : Cond.methodLink own index y ∈ TB) (w2 : Cond.static y ∈ TB) (w4 : Cond.initialized own ∈ TB) (w5 : Cond.codeWith y bytes maxL (some .int) hh ∈ TB)
    {na : Nat} (hna : As.length = na) (hd : y.cls ≠ "java/lang/invoke/MethodHandle" ∧ y.cls ≠ "java/lang/invoke/VarHandle" ∧ (parseMethodDescriptor y.desc).map (fun d => d.parameters.length) = some na) (hR : n + 1 ≤ R.frames ∧ 40 * (n + 1) ≤ R.locals) (hmax : maxL ≤ 21) (hf : cells + mc ≤ R.cells ∧ slots + ms ≤ R.slots) (hsz : ls.size = nL)
    (hst : st0 = As.reverse ++ rest) (hrest : (rest.map fun v => v.category).sum ≤ 8) (hdg : decode cc pc = .ok (.invokestatic index, 3))
    (kk : ∀ (r : Int32) (u : XS × (Nat → Nat) × List Nat) (H1 : Heap) (locs1 : List Loc), post r u → xH D cy u.2.1 u.2.2 A s u.1 H1 locs1 → W p l e R s m args below meth c H1 locs1 (cells + mc) (slots + ms) Q (F0 m (pc + 3) ls (.int r :: rest))) : W p l e R s m args below meth c H locs cells slots Q (F0 m pc ls st0) := by
  have C' := C
  obtain ⟨hx, hb, hml, hown, hts, hK, hNn⟩ := C'
  have hG : GoodIn TB (va_wsS own index y (xwH y bytes maxL hh)) := by
    intro w hw
    have hm : w ∈ TB := by
      unfold va_wsS xwH at hw
      rcases List.mem_append.mp hw with hw | hw
      · simp only [List.mem_cons, List.not_mem_nil, or_false] at hw
        rcases hw with rfl | rfl | rfl
        · exact w1
        · exact w2
        · rw [hy]; exact w4
      · rcases List.mem_cons.mp hw with rfl | hw
        · exact w5
        · exact hw
    exact ⟨hm, TB_good hm⟩
  exact va_calli (vx_runSW (As := As) (rest := rest) (Ts := TB) ⟨hx, hb, hml, hown, hts⟩ (hM H.size) (vx_cwSW na hts hG rfl rfl rfl hd ⟨hR.1, by show 8 + (maxL + 11) + 40 * n ≤ _; omega⟩) ⟨xPre_blind, fun U hU hW => ⟨rfl, x_pre C h U hU hW⟩⟩ rfl hna hsz hst (lv_room hrest) hdg hf) h.2.2.1 (fun q _ hq => xH_sub h q hq) (fun q hq => xH_sub h q hq)
    (fun r u t H1 locs1 ht _ hp hB _ _ hS => kk r u H1 locs1 hp (by subst ht; exact ⟨hB.1, hB.2.1.weaken (fun _ q _ hq => xH_sub h q.1 hq), hS, h.2.2.2⟩))
end XSW

set_option maxHeartbeats 4000000 in
set_option maxRecDepth 100000 in
theorem k_type {p : Program} {e : Env} {s : State} {m : MethodId} {below : List Frame} {meth : Method} {c : Code} (l : Launch) {D : va_G} {cy : Nat → ClassId} {ad : Nat → Nat} {Ls : List Nat} {st : XS} {H : Heap} {locs : List Loc} {cells slots : Nat} {Q : State → Prop} {b L : Nat} {xs : Nat → Int32} {LI : Nat → List Nat → XS → Prop} (C : xCx p m c code 7 s #[Value.ref b] RL D cy) (hX : va_X b L xs s s.heap) (hbl : b < s.heap.size) (hLI : LIok LI) (hS : ∀ (a0 : Int64), SI l D cy LI yX7_type cX7_type 5 .int 8 4 24 [eIAE, eISE] yX8_type cX8_type 7 .int 1 [.long a0]) (h : xH D cy ad Ls (lwA s) s st H locs) (t : Nat) (hI : LI t Ls st) (ht : 5 * t + 5 ≤ L) (hL : L ≤ 2560) (hcs : cells + 10 ≤ 601024 ∧ slots + 600 ≤ 7293034) {ls : Array Slot} (hl : lv_has ls 7 (lwL b ad t)) (kk : LK p l e s m below meth c D cy LI b t cells slots Q) : W p l e room_1 s m #[Value.ref b] below meth c H locs cells slots Q (F0 m 128 ls []) := by
  have hx := C.1; have hb := C.2.1
  have hbA : ¬ lwA s b := Nat.not_le.mpr hbl
  have hl : lv_has ls 7 [(0, .ref b), (1, .ref (ad 0)), (2, .ref (ad 30)), (3, .ref (ad 90)), (4, .int (nI (5 * t)))] := hl
  obtain ⟨hxC, h90, hM, _⟩ := hLI _ _ _ hI
  have ht512 : t < 512 := by omega
  obtain ⟨a0, ea0⟩ : ∃ z, z = ((xs (5 * t + 1)).toInt64 <<< ((nI 32).toInt64 &&& 63)) ||| ((xs (5 * t + 2)).toInt64 &&& 4294967295) := ⟨_, rfl⟩
  obtain ⟨K, post, hc7, hB, hG⟩ := hS a0 t ad Ls st ht512 hI
  refine lv_aload_n hx hb dL_law_128 rfl (lv_at hl 1 rfl) ?_
  refine lv_aload_n hx hb dL_law_129 rfl (lv_at hl 0 rfl) ?_
  refine lv_iload hx hb dL_law_130 (lv_at hl 4 rfl) ?_
  refine lv_iconst (v := nI 1) hx hb dL_law_132 (by decide) ?_
  refine x_addN hx hb dL_law_133 ?_
  refine va_sld hx hb hX hbl hbA h.2.2.1 (vp_in_nI (by omega) (by omega)) dL_law_134 ?_
  refine x_topi (y := xs (5 * t + 1)) (by rw [nI_clamp (by omega)]) ?_
  refine lv_i2l hx hb dL_law_135 rfl ?_
  refine lv_bipush (v := nI 32) hx hb dL_law_136 (by decide) ?_
  refine lv_lshl hx hb dL_law_138 rfl ?_
  refine lv_aload_n hx hb dL_law_139 rfl (lv_at hl 0 rfl) ?_
  refine lv_iload hx hb dL_law_140 (lv_at hl 4 rfl) ?_
  refine lv_iconst (v := nI 2) hx hb dL_law_142 (by decide) ?_
  refine x_addN hx hb dL_law_143 ?_
  refine va_sld hx hb hX hbl hbA h.2.2.1 (vp_in_nI (by omega) (by omega)) dL_law_144 ?_
  refine x_topi (y := xs (5 * t + 2)) (by rw [nI_clamp (by omega)]) ?_
  refine lv_i2l hx hb dL_law_145 rfl ?_
  refine lv_ldc2 (v := 4294967295) hx hb C.2.2.2.1 (C.2.2.2.2.1 _ tb1247) dL_law_146 ?_
  refine lv_land hx hb dL_law_149 ?_
  refine lv_lor hx hb dL_law_150 ?_
  refine x_topl ea0.symm ?_
  refine lv_aload_n hx hb dL_law_151 rfl (lv_at hl 3 rfl) ?_
  refine x_rSW C h (w_type l D cy ad Ls st (hxC 0 rfl) h90 a0 K hc7) rfl tb338 tb339 tb69 tw_type (na := 3) rfl (by decide +kernel) ⟨Nat.le_of_ble_eq_true rfl, Nat.le_of_ble_eq_true rfl⟩ (by decide) ⟨by show _ ≤ 601024; omega, by show _ ≤ 7293034; omega⟩ hl.1 rfl (Nat.le_of_ble_eq_true rfl) dL_law_152 (fun r u H locs hp h => ?_)
  rcases hp with ⟨j, hj, hK, hr, hu⟩ | ⟨hr, r1, u1, hp1, hu⟩
  · subst hu; subst hr; change xH D cy ad Ls (lwA s) s st H locs at h
    obtain ⟨pb, hc8, hpb⟩ := hB (by omega)
    refine lv_istore (lv' := [(5, .int (nI K)), (0, .ref b), (1, .ref (ad 0)), (2, .ref (ad 30)), (3, .ref (ad 90)), (4, .int (nI (5 * t)))]) hx hb dL_law_155 hl (by decide) rfl (fun ls hl => ?_)
    refine lv_aload_n hx hb dL_law_157 rfl (lv_at hl 3 rfl) ?_
    refine lv_aload_n hx hb dL_law_158 rfl (lv_at hl 1 rfl) ?_
    refine lv_iload hx hb dL_law_159 (lv_at hl 5 rfl) ?_
    refine lv_iconst (v := nI 1) hx hb dL_law_161 (by decide) ?_
    refine x_addN hx hb dL_law_162 ?_
    refine va_sld hx hb hX hbl hbA h.2.2.1 (vp_in_nI (by omega) (by omega)) dL_law_163 ?_
    refine x_topi (y := xs (5 * t + 1)) (by rw [nI_clamp (by omega)]) ?_
    refine lv_i2l hx hb dL_law_164 rfl ?_
    refine lv_bipush (v := nI 32) hx hb dL_law_165 (by decide) ?_
    refine lv_lshl hx hb dL_law_167 rfl ?_
    refine lv_aload_n hx hb dL_law_168 rfl (lv_at hl 1 rfl) ?_
    refine lv_iload hx hb dL_law_169 (lv_at hl 5 rfl) ?_
    refine lv_iconst (v := nI 2) hx hb dL_law_171 (by decide) ?_
    refine x_addN hx hb dL_law_172 ?_
    refine va_sld hx hb hX hbl hbA h.2.2.1 (vp_in_nI (by omega) (by omega)) dL_law_173 ?_
    refine x_topi (y := xs (5 * t + 2)) (by rw [nI_clamp (by omega)]) ?_
    refine lv_i2l hx hb dL_law_174 rfl ?_
    refine lv_ldc2 (v := 4294967295) hx hb C.2.2.2.1 (C.2.2.2.2.1 _ tb1247) dL_law_175 ?_
    refine lv_land hx hb dL_law_178 ?_
    refine lv_lor hx hb dL_law_179 ?_
    refine x_topl ea0.symm ?_
    refine cl_L_86 C h (hM 30 (by decide)) rfl hc8 ⟨Nat.le_of_ble_eq_true rfl, Nat.le_of_ble_eq_true rfl⟩ ⟨by show _ ≤ 601024; omega, by show _ ≤ 7293034; omega⟩ hl.1 (Nat.le_of_ble_eq_true rfl) dL_law_180 (fun rb u2 H locs hp2 h => ?_)
    obtain ⟨hth, hI2⟩ := hpb rb u2 hp2
    refine lv_istore (lv' := [(6, .int rb), (5, .int (nI K)), (0, .ref b), (1, .ref (ad 0)), (2, .ref (ad 30)), (3, .ref (ad 90)), (4, .int (nI (5 * t)))]) hx hb dL_law_183 hl (by decide) rfl (fun ls hl => ?_)
    refine lv_aload_n hx hb dL_law_185 rfl (lv_at hl 4 rfl) ?_
    refine cl_L_87 C h (hM 30 (by decide)) rfl (c_X8_thrown l D cy ad Ls u2 hM) ⟨Nat.le_of_ble_eq_true rfl, Nat.le_of_ble_eq_true rfl⟩ ⟨by show _ ≤ 601024; omega, by show _ ≤ 7293034; omega⟩ hl.1 (Nat.le_of_ble_eq_true rfl) dL_law_186 (fun r3 u3 H locs hp3 h => ?_)
    obtain ⟨er3, eu3⟩ := hp3; rw [eu3] at h; refine x_topi (er3.trans hth) ?_
    refine lv_iload hx hb dL_law_189 (lv_at hl 1 rfl) ?_
    refine lv_icmp_eq (tgt := 196) hx hb dL_law_191 (by decide) (fun _ => ?_) (fun q9 => absurd rfl q9)
    refine lv_iload hx hb dL_law_196 (lv_at hl 1 rfl) ?_
    refine x_ifN_ne (tgt := 213) hx hb dL_law_198 (by decide) (by omega) (fun _ => ?_) (fun q9 => absurd q9 (by omega))
    refine lv_goto (tgt := 1361) hx hb dL_law_213 (by decide) ?_
    exact W.widen (k := cells + 10) (n := slots + 600) (by omega) (by omega) (kk ad Ls _ H locs ls h hI2 (lv_sub hl [2, 3, 4, 5, 6] rfl))
  · subst hu; subst hr; obtain ⟨hK0, hG2⟩ := hG r1 u1 hp1
    obtain ⟨pb, hc8, hpb⟩ := hG2 _ rfl
    change xH D cy ad Ls (lwA s) s (sl u1 0 90 r1.toInt64) H locs at h
    refine lv_istore (lv' := [(5, .int (nI 0)), (0, .ref b), (1, .ref (ad 0)), (2, .ref (ad 30)), (3, .ref (ad 90)), (4, .int (nI (5 * t)))]) hx hb dL_law_155 hl (by decide) rfl (fun ls hl => ?_)
    refine lv_aload_n hx hb dL_law_157 rfl (lv_at hl 3 rfl) ?_
    refine lv_aload_n hx hb dL_law_158 rfl (lv_at hl 1 rfl) ?_
    refine lv_iload hx hb dL_law_159 (lv_at hl 5 rfl) ?_
    refine lv_iconst (v := nI 1) hx hb dL_law_161 (by decide) ?_
    refine x_addN hx hb dL_law_162 ?_
    refine va_sld hx hb hX hbl hbA h.2.2.1 (vp_in_nI (by omega) (by omega)) dL_law_163 ?_
    refine x_topi (y := xs (5 * t + 1)) (by rw [nI_clamp (by omega)]) ?_
    refine lv_i2l hx hb dL_law_164 rfl ?_
    refine lv_bipush (v := nI 32) hx hb dL_law_165 (by decide) ?_
    refine lv_lshl hx hb dL_law_167 rfl ?_
    refine lv_aload_n hx hb dL_law_168 rfl (lv_at hl 1 rfl) ?_
    refine lv_iload hx hb dL_law_169 (lv_at hl 5 rfl) ?_
    refine lv_iconst (v := nI 2) hx hb dL_law_171 (by decide) ?_
    refine x_addN hx hb dL_law_172 ?_
    refine va_sld hx hb hX hbl hbA h.2.2.1 (vp_in_nI (by omega) (by omega)) dL_law_173 ?_
    refine x_topi (y := xs (5 * t + 2)) (by rw [nI_clamp (by omega)]) ?_
    refine lv_i2l hx hb dL_law_174 rfl ?_
    refine lv_ldc2 (v := 4294967295) hx hb C.2.2.2.1 (C.2.2.2.2.1 _ tb1247) dL_law_175 ?_
    refine lv_land hx hb dL_law_178 ?_
    refine lv_lor hx hb dL_law_179 ?_
    refine x_topl ea0.symm ?_
    refine cl_L_86 C h (hM 30 (by decide)) rfl hc8 ⟨Nat.le_of_ble_eq_true rfl, Nat.le_of_ble_eq_true rfl⟩ ⟨by show _ ≤ 601024; omega, by show _ ≤ 7293034; omega⟩ hl.1 (Nat.le_of_ble_eq_true rfl) dL_law_180 (fun rb u2 H locs hp2 h => ?_)
    obtain ⟨hth, hrb, hgl, hI2⟩ := hpb rb u2 hp2
    refine lv_istore (lv' := [(6, .int rb), (5, .int (nI 0)), (0, .ref b), (1, .ref (ad 0)), (2, .ref (ad 30)), (3, .ref (ad 90)), (4, .int (nI (5 * t)))]) hx hb dL_law_183 hl (by decide) rfl (fun ls hl => ?_)
    refine lv_aload_n hx hb dL_law_185 rfl (lv_at hl 4 rfl) ?_
    refine cl_L_87 C h (hM 30 (by decide)) rfl (c_X8_thrown l D cy ad Ls u2 hM) ⟨Nat.le_of_ble_eq_true rfl, Nat.le_of_ble_eq_true rfl⟩ ⟨by show _ ≤ 601024; omega, by show _ ≤ 7293034; omega⟩ hl.1 (Nat.le_of_ble_eq_true rfl) dL_law_186 (fun r3 u3 H locs hp3 h => ?_)
    obtain ⟨er3, eu3⟩ := hp3; rw [eu3] at h; refine x_topi (er3.trans hth) ?_
    refine lv_iload hx hb dL_law_189 (lv_at hl 1 rfl) ?_
    refine lv_icmp_eq (tgt := 196) hx hb dL_law_191 (by decide) (fun _ => ?_) (fun q9 => absurd rfl q9)
    refine lv_iload hx hb dL_law_196 (lv_at hl 1 rfl) ?_
    refine x_ifN_ne (tgt := 213) hx hb dL_law_198 (by decide) (by decide) (fun q9 => absurd rfl q9) (fun _ => ?_)
    refine lv_aload_n hx hb dL_law_201 rfl (lv_at hl 5 rfl) ?_
    refine lv_iconst (v := nI 0) hx hb dL_law_202 (by decide) ?_
    refine x_lald C h h90 rfl rfl dL_law_203 ?_
    refine x_topl hgl ?_
    refine lv_iload hx hb dL_law_204 (lv_at hl 0 rfl) ?_
    refine lv_i2l hx hb dL_law_206 rfl ?_
    refine x_lcmp hx hb dL_law_207 (fun r4 h4 => ?_)
    refine lv_if_eq (tgt := 213) hx hb dL_law_208 (by decide) (fun _ => ?_) (fun q9 => absurd (h4.trans (lg_cmp_0.mpr (by rw [hrb]))) q9)
    refine lv_goto (tgt := 1361) hx hb dL_law_213 (by decide) ?_
    exact W.widen (k := cells + 10) (n := slots + 600) (by omega) (by omega) (kk ad Ls _ H locs ls h hI2 (lv_sub hl [2, 3, 4, 5, 6] rfl))

set_option maxHeartbeats 4000000 in
set_option maxRecDepth 100000 in
theorem k_template {p : Program} {e : Env} {s : State} {m : MethodId} {below : List Frame} {meth : Method} {c : Code} (l : Launch) {D : va_G} {cy : Nat → ClassId} {ad : Nat → Nat} {Ls : List Nat} {st : XS} {H : Heap} {locs : List Loc} {cells slots : Nat} {Q : State → Prop} {b L : Nat} {xs : Nat → Int32} {LI : Nat → List Nat → XS → Prop} (C : xCx p m c code 7 s #[Value.ref b] RL D cy) (hX : va_X b L xs s s.heap) (hbl : b < s.heap.size) (hLI : LIok LI) (hS : ∀ (a0 : Int32), SG l D cy LI yX7_template cX7_template 4 .int 30 10 600 [eIOB, eISE] yX8_template cX8_template 4 .int 7 [.int a0]) (h : xH D cy ad Ls (lwA s) s st H locs) (t : Nat) (hI : LI t Ls st) (ht : 5 * t + 5 ≤ L) (hL : L ≤ 2560) (hcs : cells + 10 ≤ 601024 ∧ slots + 600 ≤ 7293034) {ls : Array Slot} (hl : lv_has ls 7 (lwL b ad t)) (kk : LK p l e s m below meth c D cy LI b t cells slots Q) : W p l e room_1 s m #[Value.ref b] below meth c H locs cells slots Q (F0 m 216 ls []) := by
  have hx := C.1; have hb := C.2.1
  have hbA : ¬ lwA s b := Nat.not_le.mpr hbl
  have hl : lv_has ls 7 [(0, .ref b), (1, .ref (ad 0)), (2, .ref (ad 30)), (3, .ref (ad 90)), (4, .int (nI (5 * t)))] := hl
  obtain ⟨hxC, h90, hM, _⟩ := hLI _ _ _ hI
  have ht512 : t < 512 := by omega
  obtain ⟨a0, ea0⟩ : ∃ z, z = xs (5 * t + 1) := ⟨_, rfl⟩
  obtain ⟨K, post, hc7, _, hB, hG⟩ := hS a0 t ad Ls st ht512 hI
  refine lv_aload_n hx hb dL_law_216 rfl (lv_at hl 1 rfl) ?_
  refine lv_aload_n hx hb dL_law_217 rfl (lv_at hl 0 rfl) ?_
  refine lv_iload hx hb dL_law_218 (lv_at hl 4 rfl) ?_
  refine lv_iconst (v := nI 1) hx hb dL_law_220 (by decide) ?_
  refine x_addN hx hb dL_law_221 ?_
  refine va_sld hx hb hX hbl hbA h.2.2.1 (vp_in_nI (by omega) (by omega)) dL_law_222 ?_
  refine x_topi (y := xs (5 * t + 1)) (by rw [nI_clamp (by omega)]) ?_
  refine x_topi ea0.symm ?_
  refine lv_aload_n hx hb dL_law_223 rfl (lv_at hl 3 rfl) ?_
  refine x_rSW C h (w_template l D cy ad Ls st (hxC 0 rfl) h90 a0 K hc7 (fun r u hp => ⟨(hG r u hp).2.2.2.1, (hG r u hp).2.2.2.2.1 _ h90⟩)) rfl tb442 tb443 tb69 tw_template (na := 3) rfl (by decide +kernel) ⟨Nat.le_of_ble_eq_true rfl, Nat.le_of_ble_eq_true rfl⟩ (by decide) ⟨by show _ ≤ 601024; omega, by show _ ≤ 7293034; omega⟩ hl.1 rfl (Nat.le_of_ble_eq_true rfl) dL_law_224 (fun r u H locs hp h => ?_)
  rcases hp with ⟨j, hj, hK, hr, hu⟩ | ⟨hr, r1, u1, hp1, hu⟩
  · subst hu; subst hr; change xH D cy ad Ls (lwA s) s st H locs at h
    obtain ⟨pb, hc8, hpb⟩ := hB (by omega)
    refine lv_istore (lv' := [(5, .int (nI K)), (0, .ref b), (1, .ref (ad 0)), (2, .ref (ad 30)), (3, .ref (ad 90)), (4, .int (nI (5 * t)))]) hx hb dL_law_227 hl (by decide) rfl (fun ls hl => ?_)
    refine lv_aload_n hx hb dL_law_229 rfl (lv_at hl 3 rfl) ?_
    refine lv_aload_n hx hb dL_law_230 rfl (lv_at hl 1 rfl) ?_
    refine lv_iload hx hb dL_law_231 (lv_at hl 5 rfl) ?_
    refine lv_iconst (v := nI 1) hx hb dL_law_233 (by decide) ?_
    refine x_addN hx hb dL_law_234 ?_
    refine va_sld hx hb hX hbl hbA h.2.2.1 (vp_in_nI (by omega) (by omega)) dL_law_235 ?_
    refine x_topi (y := xs (5 * t + 1)) (by rw [nI_clamp (by omega)]) ?_
    refine x_topi ea0.symm ?_
    refine cl_L_94 C h (hM 30 (by decide)) rfl hc8 ⟨Nat.le_of_ble_eq_true rfl, Nat.le_of_ble_eq_true rfl⟩ ⟨by show _ ≤ 601024; omega, by show _ ≤ 7293034; omega⟩ hl.1 (Nat.le_of_ble_eq_true rfl) dL_law_236 (fun rb u2 H locs hp2 h => ?_)
    obtain ⟨hth, hI2⟩ := hpb rb u2 hp2
    refine lv_istore (lv' := [(6, .int rb), (5, .int (nI K)), (0, .ref b), (1, .ref (ad 0)), (2, .ref (ad 30)), (3, .ref (ad 90)), (4, .int (nI (5 * t)))]) hx hb dL_law_239 hl (by decide) rfl (fun ls hl => ?_)
    refine lv_aload_n hx hb dL_law_241 rfl (lv_at hl 4 rfl) ?_
    refine cl_L_87 C h (hM 30 (by decide)) rfl (c_X8_thrown l D cy ad Ls u2 hM) ⟨Nat.le_of_ble_eq_true rfl, Nat.le_of_ble_eq_true rfl⟩ ⟨by show _ ≤ 601024; omega, by show _ ≤ 7293034; omega⟩ hl.1 (Nat.le_of_ble_eq_true rfl) dL_law_242 (fun r3 u3 H locs hp3 h => ?_)
    obtain ⟨er3, eu3⟩ := hp3; rw [eu3] at h; refine x_topi (er3.trans hth) ?_
    refine lv_iload hx hb dL_law_245 (lv_at hl 1 rfl) ?_
    refine lv_icmp_eq (tgt := 252) hx hb dL_law_247 (by decide) (fun _ => ?_) (fun q9 => absurd rfl q9)
    refine lv_iload hx hb dL_law_252 (lv_at hl 1 rfl) ?_
    refine x_ifN_ne (tgt := 269) hx hb dL_law_254 (by decide) (by omega) (fun _ => ?_) (fun q9 => absurd q9 (by omega))
    refine lv_goto (tgt := 1361) hx hb dL_law_269 (by decide) ?_
    exact W.widen (k := cells + 10) (n := slots + 600) (by omega) (by omega) (kk ad Ls _ H locs ls h hI2 (lv_sub hl [2, 3, 4, 5, 6] rfl))
  · subst hu; subst hr; obtain ⟨hK0, g0, g30, g90, gsub, hG2⟩ := hG r1 u1 hp1
    obtain ⟨pb, hc8, hpb⟩ := hG2 _ rfl
    change xH D cy u1.2.1 u1.2.2 (lwA s) s (sl u1.1 0 90 r1.toInt64) H locs at h
    replace hl : lv_has ls 7 [(0, .ref b), (1, .ref (u1.2.1 0)), (2, .ref (u1.2.1 30)), (3, .ref (u1.2.1 90)), (4, .int (nI (5 * t)))] := by rw [g0, g30, g90]; exact hl
    have hM : ∀ k, k ∈ LsM → k ∈ u1.2.2 := fun k hk => gsub k (hM k hk)
    have h90 := gsub _ h90
    refine lv_istore (lv' := [(5, .int (nI 0)), (0, .ref b), (1, .ref (u1.2.1 0)), (2, .ref (u1.2.1 30)), (3, .ref (u1.2.1 90)), (4, .int (nI (5 * t)))]) hx hb dL_law_227 hl (by decide) rfl (fun ls hl => ?_)
    refine lv_aload_n hx hb dL_law_229 rfl (lv_at hl 3 rfl) ?_
    refine lv_aload_n hx hb dL_law_230 rfl (lv_at hl 1 rfl) ?_
    refine lv_iload hx hb dL_law_231 (lv_at hl 5 rfl) ?_
    refine lv_iconst (v := nI 1) hx hb dL_law_233 (by decide) ?_
    refine x_addN hx hb dL_law_234 ?_
    refine va_sld hx hb hX hbl hbA h.2.2.1 (vp_in_nI (by omega) (by omega)) dL_law_235 ?_
    refine x_topi (y := xs (5 * t + 1)) (by rw [nI_clamp (by omega)]) ?_
    refine x_topi ea0.symm ?_
    refine cl_L_94 C h (hM 30 (by decide)) rfl hc8 ⟨Nat.le_of_ble_eq_true rfl, Nat.le_of_ble_eq_true rfl⟩ ⟨by show _ ≤ 601024; omega, by show _ ≤ 7293034; omega⟩ hl.1 (Nat.le_of_ble_eq_true rfl) dL_law_236 (fun rb u2 H locs hp2 h => ?_)
    obtain ⟨hth, hrb, hgl, hI2⟩ := hpb rb u2 hp2
    refine lv_istore (lv' := [(6, .int rb), (5, .int (nI 0)), (0, .ref b), (1, .ref (u1.2.1 0)), (2, .ref (u1.2.1 30)), (3, .ref (u1.2.1 90)), (4, .int (nI (5 * t)))]) hx hb dL_law_239 hl (by decide) rfl (fun ls hl => ?_)
    refine lv_aload_n hx hb dL_law_241 rfl (lv_at hl 4 rfl) ?_
    refine cl_L_87 C h (hM 30 (by decide)) rfl (c_X8_thrown l D cy u1.2.1 u1.2.2 u2 hM) ⟨Nat.le_of_ble_eq_true rfl, Nat.le_of_ble_eq_true rfl⟩ ⟨by show _ ≤ 601024; omega, by show _ ≤ 7293034; omega⟩ hl.1 (Nat.le_of_ble_eq_true rfl) dL_law_242 (fun r3 u3 H locs hp3 h => ?_)
    obtain ⟨er3, eu3⟩ := hp3; rw [eu3] at h; refine x_topi (er3.trans hth) ?_
    refine lv_iload hx hb dL_law_245 (lv_at hl 1 rfl) ?_
    refine lv_icmp_eq (tgt := 252) hx hb dL_law_247 (by decide) (fun _ => ?_) (fun q9 => absurd rfl q9)
    refine lv_iload hx hb dL_law_252 (lv_at hl 1 rfl) ?_
    refine x_ifN_ne (tgt := 269) hx hb dL_law_254 (by decide) (by decide) (fun q9 => absurd rfl q9) (fun _ => ?_)
    refine lv_aload_n hx hb dL_law_257 rfl (lv_at hl 5 rfl) ?_
    refine lv_iconst (v := nI 0) hx hb dL_law_258 (by decide) ?_
    refine x_lald C h h90 rfl rfl dL_law_259 ?_
    refine x_topl hgl ?_
    refine lv_iload hx hb dL_law_260 (lv_at hl 0 rfl) ?_
    refine lv_i2l hx hb dL_law_262 rfl ?_
    refine x_lcmp hx hb dL_law_263 (fun r4 h4 => ?_)
    refine lv_if_eq (tgt := 269) hx hb dL_law_264 (by decide) (fun _ => ?_) (fun q9 => absurd (h4.trans (lg_cmp_0.mpr (by rw [hrb]))) q9)
    refine lv_goto (tgt := 1361) hx hb dL_law_269 (by decide) ?_
    exact W.widen (k := cells + 10) (n := slots + 600) (by omega) (by omega) (kk u1.2.1 u1.2.2 _ H locs ls h hI2 (lv_sub hl [2, 3, 4, 5, 6] rfl))

set_option maxHeartbeats 4000000 in
set_option maxRecDepth 100000 in
theorem k_pass {p : Program} {e : Env} {s : State} {m : MethodId} {below : List Frame} {meth : Method} {c : Code} (l : Launch) {D : va_G} {cy : Nat → ClassId} {ad : Nat → Nat} {Ls : List Nat} {st : XS} {H : Heap} {locs : List Loc} {cells slots : Nat} {Q : State → Prop} {b L : Nat} {xs : Nat → Int32} {LI : Nat → List Nat → XS → Prop} (C : xCx p m c code 7 s #[Value.ref b] RL D cy) (hX : va_X b L xs s s.heap) (hbl : b < s.heap.size) (hLI : LIok LI) (hS : ∀ (a0 : Int32), SI l D cy LI yX7_pass cX7_pass 2 .int 6 4 24 [eIAE] yX8_pass cX8_pass 2 .int 1 [.int a0]) (h : xH D cy ad Ls (lwA s) s st H locs) (t : Nat) (hI : LI t Ls st) (ht : 5 * t + 5 ≤ L) (hL : L ≤ 2560) (hcs : cells + 10 ≤ 601024 ∧ slots + 600 ≤ 7293034) {ls : Array Slot} (hl : lv_has ls 7 (lwL b ad t)) (kk : LK p l e s m below meth c D cy LI b t cells slots Q) : W p l e room_1 s m #[Value.ref b] below meth c H locs cells slots Q (F0 m 272 ls []) := by
  have hx := C.1; have hb := C.2.1
  have hbA : ¬ lwA s b := Nat.not_le.mpr hbl
  have hl : lv_has ls 7 [(0, .ref b), (1, .ref (ad 0)), (2, .ref (ad 30)), (3, .ref (ad 90)), (4, .int (nI (5 * t)))] := hl
  obtain ⟨hxC, h90, hM, _⟩ := hLI _ _ _ hI
  have ht512 : t < 512 := by omega
  obtain ⟨a0, ea0⟩ : ∃ z, z = xs (5 * t + 1) := ⟨_, rfl⟩
  obtain ⟨K, post, hc7, hB, hG⟩ := hS a0 t ad Ls st ht512 hI
  refine lv_aload_n hx hb dL_law_272 rfl (lv_at hl 1 rfl) ?_
  refine lv_aload_n hx hb dL_law_273 rfl (lv_at hl 0 rfl) ?_
  refine lv_iload hx hb dL_law_274 (lv_at hl 4 rfl) ?_
  refine lv_iconst (v := nI 1) hx hb dL_law_276 (by decide) ?_
  refine x_addN hx hb dL_law_277 ?_
  refine va_sld hx hb hX hbl hbA h.2.2.1 (vp_in_nI (by omega) (by omega)) dL_law_278 ?_
  refine x_topi (y := xs (5 * t + 1)) (by rw [nI_clamp (by omega)]) ?_
  refine x_topi ea0.symm ?_
  refine lv_aload_n hx hb dL_law_279 rfl (lv_at hl 3 rfl) ?_
  refine x_rSW C h (w_pass l D cy ad Ls st (hxC 0 rfl) h90 a0 K hc7) rfl tb618 tb619 tb69 tw_pass (na := 3) rfl (by decide +kernel) ⟨Nat.le_of_ble_eq_true rfl, Nat.le_of_ble_eq_true rfl⟩ (by decide) ⟨by show _ ≤ 601024; omega, by show _ ≤ 7293034; omega⟩ hl.1 rfl (Nat.le_of_ble_eq_true rfl) dL_law_280 (fun r u H locs hp h => ?_)
  rcases hp with ⟨j, hj, hK, hr, hu⟩ | ⟨hr, r1, u1, hp1, hu⟩
  · subst hu; subst hr; change xH D cy ad Ls (lwA s) s st H locs at h
    obtain ⟨pb, hc8, hpb⟩ := hB (by omega)
    refine lv_istore (lv' := [(5, .int (nI K)), (0, .ref b), (1, .ref (ad 0)), (2, .ref (ad 30)), (3, .ref (ad 90)), (4, .int (nI (5 * t)))]) hx hb dL_law_283 hl (by decide) rfl (fun ls hl => ?_)
    refine lv_aload_n hx hb dL_law_285 rfl (lv_at hl 3 rfl) ?_
    refine lv_aload_n hx hb dL_law_286 rfl (lv_at hl 1 rfl) ?_
    refine lv_iload hx hb dL_law_287 (lv_at hl 5 rfl) ?_
    refine lv_iconst (v := nI 1) hx hb dL_law_289 (by decide) ?_
    refine x_addN hx hb dL_law_290 ?_
    refine va_sld hx hb hX hbl hbA h.2.2.1 (vp_in_nI (by omega) (by omega)) dL_law_291 ?_
    refine x_topi (y := xs (5 * t + 1)) (by rw [nI_clamp (by omega)]) ?_
    refine x_topi ea0.symm ?_
    refine cl_L_97 C h (hM 30 (by decide)) rfl hc8 ⟨Nat.le_of_ble_eq_true rfl, Nat.le_of_ble_eq_true rfl⟩ ⟨by show _ ≤ 601024; omega, by show _ ≤ 7293034; omega⟩ hl.1 (Nat.le_of_ble_eq_true rfl) dL_law_292 (fun rb u2 H locs hp2 h => ?_)
    obtain ⟨hth, hI2⟩ := hpb rb u2 hp2
    refine lv_istore (lv' := [(6, .int rb), (5, .int (nI K)), (0, .ref b), (1, .ref (ad 0)), (2, .ref (ad 30)), (3, .ref (ad 90)), (4, .int (nI (5 * t)))]) hx hb dL_law_295 hl (by decide) rfl (fun ls hl => ?_)
    refine lv_aload_n hx hb dL_law_297 rfl (lv_at hl 4 rfl) ?_
    refine cl_L_87 C h (hM 30 (by decide)) rfl (c_X8_thrown l D cy ad Ls u2 hM) ⟨Nat.le_of_ble_eq_true rfl, Nat.le_of_ble_eq_true rfl⟩ ⟨by show _ ≤ 601024; omega, by show _ ≤ 7293034; omega⟩ hl.1 (Nat.le_of_ble_eq_true rfl) dL_law_298 (fun r3 u3 H locs hp3 h => ?_)
    obtain ⟨er3, eu3⟩ := hp3; rw [eu3] at h; refine x_topi (er3.trans hth) ?_
    refine lv_iload hx hb dL_law_301 (lv_at hl 1 rfl) ?_
    refine lv_icmp_eq (tgt := 308) hx hb dL_law_303 (by decide) (fun _ => ?_) (fun q9 => absurd rfl q9)
    refine lv_iload hx hb dL_law_308 (lv_at hl 1 rfl) ?_
    refine x_ifN_ne (tgt := 325) hx hb dL_law_310 (by decide) (by omega) (fun _ => ?_) (fun q9 => absurd q9 (by omega))
    refine lv_goto (tgt := 1361) hx hb dL_law_325 (by decide) ?_
    exact W.widen (k := cells + 10) (n := slots + 600) (by omega) (by omega) (kk ad Ls _ H locs ls h hI2 (lv_sub hl [2, 3, 4, 5, 6] rfl))
  · subst hu; subst hr; obtain ⟨hK0, hG2⟩ := hG r1 u1 hp1
    obtain ⟨pb, hc8, hpb⟩ := hG2 _ rfl
    change xH D cy ad Ls (lwA s) s (sl u1 0 90 r1.toInt64) H locs at h
    refine lv_istore (lv' := [(5, .int (nI 0)), (0, .ref b), (1, .ref (ad 0)), (2, .ref (ad 30)), (3, .ref (ad 90)), (4, .int (nI (5 * t)))]) hx hb dL_law_283 hl (by decide) rfl (fun ls hl => ?_)
    refine lv_aload_n hx hb dL_law_285 rfl (lv_at hl 3 rfl) ?_
    refine lv_aload_n hx hb dL_law_286 rfl (lv_at hl 1 rfl) ?_
    refine lv_iload hx hb dL_law_287 (lv_at hl 5 rfl) ?_
    refine lv_iconst (v := nI 1) hx hb dL_law_289 (by decide) ?_
    refine x_addN hx hb dL_law_290 ?_
    refine va_sld hx hb hX hbl hbA h.2.2.1 (vp_in_nI (by omega) (by omega)) dL_law_291 ?_
    refine x_topi (y := xs (5 * t + 1)) (by rw [nI_clamp (by omega)]) ?_
    refine x_topi ea0.symm ?_
    refine cl_L_97 C h (hM 30 (by decide)) rfl hc8 ⟨Nat.le_of_ble_eq_true rfl, Nat.le_of_ble_eq_true rfl⟩ ⟨by show _ ≤ 601024; omega, by show _ ≤ 7293034; omega⟩ hl.1 (Nat.le_of_ble_eq_true rfl) dL_law_292 (fun rb u2 H locs hp2 h => ?_)
    obtain ⟨hth, hrb, hgl, hI2⟩ := hpb rb u2 hp2
    refine lv_istore (lv' := [(6, .int rb), (5, .int (nI 0)), (0, .ref b), (1, .ref (ad 0)), (2, .ref (ad 30)), (3, .ref (ad 90)), (4, .int (nI (5 * t)))]) hx hb dL_law_295 hl (by decide) rfl (fun ls hl => ?_)
    refine lv_aload_n hx hb dL_law_297 rfl (lv_at hl 4 rfl) ?_
    refine cl_L_87 C h (hM 30 (by decide)) rfl (c_X8_thrown l D cy ad Ls u2 hM) ⟨Nat.le_of_ble_eq_true rfl, Nat.le_of_ble_eq_true rfl⟩ ⟨by show _ ≤ 601024; omega, by show _ ≤ 7293034; omega⟩ hl.1 (Nat.le_of_ble_eq_true rfl) dL_law_298 (fun r3 u3 H locs hp3 h => ?_)
    obtain ⟨er3, eu3⟩ := hp3; rw [eu3] at h; refine x_topi (er3.trans hth) ?_
    refine lv_iload hx hb dL_law_301 (lv_at hl 1 rfl) ?_
    refine lv_icmp_eq (tgt := 308) hx hb dL_law_303 (by decide) (fun _ => ?_) (fun q9 => absurd rfl q9)
    refine lv_iload hx hb dL_law_308 (lv_at hl 1 rfl) ?_
    refine x_ifN_ne (tgt := 325) hx hb dL_law_310 (by decide) (by decide) (fun q9 => absurd rfl q9) (fun _ => ?_)
    refine lv_aload_n hx hb dL_law_313 rfl (lv_at hl 5 rfl) ?_
    refine lv_iconst (v := nI 0) hx hb dL_law_314 (by decide) ?_
    refine x_lald C h h90 rfl rfl dL_law_315 ?_
    refine x_topl hgl ?_
    refine lv_iload hx hb dL_law_316 (lv_at hl 0 rfl) ?_
    refine lv_i2l hx hb dL_law_318 rfl ?_
    refine x_lcmp hx hb dL_law_319 (fun r4 h4 => ?_)
    refine lv_if_eq (tgt := 325) hx hb dL_law_320 (by decide) (fun _ => ?_) (fun q9 => absurd (h4.trans (lg_cmp_0.mpr (by rw [hrb]))) q9)
    refine lv_goto (tgt := 1361) hx hb dL_law_325 (by decide) ?_
    exact W.widen (k := cells + 10) (n := slots + 600) (by omega) (by omega) (kk ad Ls _ H locs ls h hI2 (lv_sub hl [2, 3, 4, 5, 6] rfl))

set_option maxHeartbeats 4000000 in
set_option maxRecDepth 100000 in
theorem k_rate {p : Program} {e : Env} {s : State} {m : MethodId} {below : List Frame} {meth : Method} {c : Code} (l : Launch) {D : va_G} {cy : Nat → ClassId} {ad : Nat → Nat} {Ls : List Nat} {st : XS} {H : Heap} {locs : List Loc} {cells slots : Nat} {Q : State → Prop} {b L : Nat} {xs : Nat → Int32} {LI : Nat → List Nat → XS → Prop} (C : xCx p m c code 7 s #[Value.ref b] RL D cy) (hX : va_X b L xs s s.heap) (hbl : b < s.heap.size) (hLI : LIok LI) (hS : ∀ (a0 : Int32) (a1 : Int32) (a2 : Int32) (a3 : Int32), SI l D cy LI yX7_rate cX7_rate 5 .int 8 4 24 [eIOB, eIAE, eISE] yX8_rate cX8_rate 7 .int 2 [.int a0, .int a1, .int a2, .int a3]) (h : xH D cy ad Ls (lwA s) s st H locs) (t : Nat) (hI : LI t Ls st) (ht : 5 * t + 5 ≤ L) (hL : L ≤ 2560) (hcs : cells + 10 ≤ 601024 ∧ slots + 600 ≤ 7293034) {ls : Array Slot} (hl : lv_has ls 7 (lwL b ad t)) (kk : LK p l e s m below meth c D cy LI b t cells slots Q) : W p l e room_1 s m #[Value.ref b] below meth c H locs cells slots Q (F0 m 328 ls []) := by
  have hx := C.1; have hb := C.2.1
  have hbA : ¬ lwA s b := Nat.not_le.mpr hbl
  have hl : lv_has ls 7 [(0, .ref b), (1, .ref (ad 0)), (2, .ref (ad 30)), (3, .ref (ad 90)), (4, .int (nI (5 * t)))] := hl
  obtain ⟨hxC, h90, hM, _⟩ := hLI _ _ _ hI
  have ht512 : t < 512 := by omega
  obtain ⟨a0, ea0⟩ : ∃ z, z = xs (5 * t + 1) := ⟨_, rfl⟩
  obtain ⟨a1, ea1⟩ : ∃ z, z = xs (5 * t + 2) := ⟨_, rfl⟩
  obtain ⟨a2, ea2⟩ : ∃ z, z = xs (5 * t + 3) := ⟨_, rfl⟩
  obtain ⟨a3, ea3⟩ : ∃ z, z = xs (5 * t + 4) := ⟨_, rfl⟩
  obtain ⟨K, post, hc7, hB, hG⟩ := hS a0 a1 a2 a3 t ad Ls st ht512 hI
  refine lv_aload_n hx hb dL_law_328 rfl (lv_at hl 1 rfl) ?_
  refine lv_aload_n hx hb dL_law_329 rfl (lv_at hl 0 rfl) ?_
  refine lv_iload hx hb dL_law_330 (lv_at hl 4 rfl) ?_
  refine lv_iconst (v := nI 1) hx hb dL_law_332 (by decide) ?_
  refine x_addN hx hb dL_law_333 ?_
  refine va_sld hx hb hX hbl hbA h.2.2.1 (vp_in_nI (by omega) (by omega)) dL_law_334 ?_
  refine x_topi (y := xs (5 * t + 1)) (by rw [nI_clamp (by omega)]) ?_
  refine x_topi ea0.symm ?_
  refine lv_aload_n hx hb dL_law_335 rfl (lv_at hl 0 rfl) ?_
  refine lv_iload hx hb dL_law_336 (lv_at hl 4 rfl) ?_
  refine lv_iconst (v := nI 2) hx hb dL_law_338 (by decide) ?_
  refine x_addN hx hb dL_law_339 ?_
  refine va_sld hx hb hX hbl hbA h.2.2.1 (vp_in_nI (by omega) (by omega)) dL_law_340 ?_
  refine x_topi (y := xs (5 * t + 2)) (by rw [nI_clamp (by omega)]) ?_
  refine x_topi ea1.symm ?_
  refine lv_aload_n hx hb dL_law_341 rfl (lv_at hl 0 rfl) ?_
  refine lv_iload hx hb dL_law_342 (lv_at hl 4 rfl) ?_
  refine lv_iconst (v := nI 3) hx hb dL_law_344 (by decide) ?_
  refine x_addN hx hb dL_law_345 ?_
  refine va_sld hx hb hX hbl hbA h.2.2.1 (vp_in_nI (by omega) (by omega)) dL_law_346 ?_
  refine x_topi (y := xs (5 * t + 3)) (by rw [nI_clamp (by omega)]) ?_
  refine x_topi ea2.symm ?_
  refine lv_aload_n hx hb dL_law_347 rfl (lv_at hl 0 rfl) ?_
  refine lv_iload hx hb dL_law_348 (lv_at hl 4 rfl) ?_
  refine lv_iconst (v := nI 4) hx hb dL_law_350 (by decide) ?_
  refine x_addN hx hb dL_law_351 ?_
  refine va_sld hx hb hX hbl hbA h.2.2.1 (vp_in_nI (by omega) (by omega)) dL_law_352 ?_
  refine x_topi (y := xs (5 * t + 4)) (by rw [nI_clamp (by omega)]) ?_
  refine x_topi ea3.symm ?_
  refine lv_aload_n hx hb dL_law_353 rfl (lv_at hl 3 rfl) ?_
  refine x_rSW C h (w_rate l D cy ad Ls st (hxC 0 rfl) h90 a0 a1 a2 a3 K hc7) rfl tb626 tb627 tb69 tw_rate (na := 6) rfl (by decide +kernel) ⟨Nat.le_of_ble_eq_true rfl, Nat.le_of_ble_eq_true rfl⟩ (by decide) ⟨by show _ ≤ 601024; omega, by show _ ≤ 7293034; omega⟩ hl.1 rfl (Nat.le_of_ble_eq_true rfl) dL_law_354 (fun r u H locs hp h => ?_)
  rcases hp with ⟨j, hj, hK, hr, hu⟩ | ⟨hr, r1, u1, hp1, hu⟩
  · subst hu; subst hr; change xH D cy ad Ls (lwA s) s st H locs at h
    obtain ⟨pb, hc8, hpb⟩ := hB (by omega)
    refine lv_istore (lv' := [(5, .int (nI K)), (0, .ref b), (1, .ref (ad 0)), (2, .ref (ad 30)), (3, .ref (ad 90)), (4, .int (nI (5 * t)))]) hx hb dL_law_357 hl (by decide) rfl (fun ls hl => ?_)
    refine lv_aload_n hx hb dL_law_359 rfl (lv_at hl 3 rfl) ?_
    refine lv_aload_n hx hb dL_law_360 rfl (lv_at hl 1 rfl) ?_
    refine lv_iload hx hb dL_law_361 (lv_at hl 5 rfl) ?_
    refine lv_iconst (v := nI 1) hx hb dL_law_363 (by decide) ?_
    refine x_addN hx hb dL_law_364 ?_
    refine va_sld hx hb hX hbl hbA h.2.2.1 (vp_in_nI (by omega) (by omega)) dL_law_365 ?_
    refine x_topi (y := xs (5 * t + 1)) (by rw [nI_clamp (by omega)]) ?_
    refine x_topi ea0.symm ?_
    refine lv_aload_n hx hb dL_law_366 rfl (lv_at hl 1 rfl) ?_
    refine lv_iload hx hb dL_law_367 (lv_at hl 5 rfl) ?_
    refine lv_iconst (v := nI 2) hx hb dL_law_369 (by decide) ?_
    refine x_addN hx hb dL_law_370 ?_
    refine va_sld hx hb hX hbl hbA h.2.2.1 (vp_in_nI (by omega) (by omega)) dL_law_371 ?_
    refine x_topi (y := xs (5 * t + 2)) (by rw [nI_clamp (by omega)]) ?_
    refine x_topi ea1.symm ?_
    refine lv_aload_n hx hb dL_law_372 rfl (lv_at hl 1 rfl) ?_
    refine lv_iload hx hb dL_law_373 (lv_at hl 5 rfl) ?_
    refine lv_iconst (v := nI 3) hx hb dL_law_375 (by decide) ?_
    refine x_addN hx hb dL_law_376 ?_
    refine va_sld hx hb hX hbl hbA h.2.2.1 (vp_in_nI (by omega) (by omega)) dL_law_377 ?_
    refine x_topi (y := xs (5 * t + 3)) (by rw [nI_clamp (by omega)]) ?_
    refine x_topi ea2.symm ?_
    refine lv_aload_n hx hb dL_law_378 rfl (lv_at hl 1 rfl) ?_
    refine lv_iload hx hb dL_law_379 (lv_at hl 5 rfl) ?_
    refine lv_iconst (v := nI 4) hx hb dL_law_381 (by decide) ?_
    refine x_addN hx hb dL_law_382 ?_
    refine va_sld hx hb hX hbl hbA h.2.2.1 (vp_in_nI (by omega) (by omega)) dL_law_383 ?_
    refine x_topi (y := xs (5 * t + 4)) (by rw [nI_clamp (by omega)]) ?_
    refine x_topi ea3.symm ?_
    refine cl_L_101 C h (hM 30 (by decide)) rfl hc8 ⟨Nat.le_of_ble_eq_true rfl, Nat.le_of_ble_eq_true rfl⟩ ⟨by show _ ≤ 601024; omega, by show _ ≤ 7293034; omega⟩ hl.1 (Nat.le_of_ble_eq_true rfl) dL_law_384 (fun rb u2 H locs hp2 h => ?_)
    obtain ⟨hth, hI2⟩ := hpb rb u2 hp2
    refine lv_istore (lv' := [(6, .int rb), (5, .int (nI K)), (0, .ref b), (1, .ref (ad 0)), (2, .ref (ad 30)), (3, .ref (ad 90)), (4, .int (nI (5 * t)))]) hx hb dL_law_387 hl (by decide) rfl (fun ls hl => ?_)
    refine lv_aload_n hx hb dL_law_389 rfl (lv_at hl 4 rfl) ?_
    refine cl_L_87 C h (hM 30 (by decide)) rfl (c_X8_thrown l D cy ad Ls u2 hM) ⟨Nat.le_of_ble_eq_true rfl, Nat.le_of_ble_eq_true rfl⟩ ⟨by show _ ≤ 601024; omega, by show _ ≤ 7293034; omega⟩ hl.1 (Nat.le_of_ble_eq_true rfl) dL_law_390 (fun r3 u3 H locs hp3 h => ?_)
    obtain ⟨er3, eu3⟩ := hp3; rw [eu3] at h; refine x_topi (er3.trans hth) ?_
    refine lv_iload hx hb dL_law_393 (lv_at hl 1 rfl) ?_
    refine lv_icmp_eq (tgt := 400) hx hb dL_law_395 (by decide) (fun _ => ?_) (fun q9 => absurd rfl q9)
    refine lv_iload hx hb dL_law_400 (lv_at hl 1 rfl) ?_
    refine x_ifN_ne (tgt := 417) hx hb dL_law_402 (by decide) (by omega) (fun _ => ?_) (fun q9 => absurd q9 (by omega))
    refine lv_goto (tgt := 1361) hx hb dL_law_417 (by decide) ?_
    exact W.widen (k := cells + 10) (n := slots + 600) (by omega) (by omega) (kk ad Ls _ H locs ls h hI2 (lv_sub hl [2, 3, 4, 5, 6] rfl))
  · subst hu; subst hr; obtain ⟨hK0, hG2⟩ := hG r1 u1 hp1
    obtain ⟨pb, hc8, hpb⟩ := hG2 _ rfl
    change xH D cy ad Ls (lwA s) s (sl u1 0 90 r1.toInt64) H locs at h
    refine lv_istore (lv' := [(5, .int (nI 0)), (0, .ref b), (1, .ref (ad 0)), (2, .ref (ad 30)), (3, .ref (ad 90)), (4, .int (nI (5 * t)))]) hx hb dL_law_357 hl (by decide) rfl (fun ls hl => ?_)
    refine lv_aload_n hx hb dL_law_359 rfl (lv_at hl 3 rfl) ?_
    refine lv_aload_n hx hb dL_law_360 rfl (lv_at hl 1 rfl) ?_
    refine lv_iload hx hb dL_law_361 (lv_at hl 5 rfl) ?_
    refine lv_iconst (v := nI 1) hx hb dL_law_363 (by decide) ?_
    refine x_addN hx hb dL_law_364 ?_
    refine va_sld hx hb hX hbl hbA h.2.2.1 (vp_in_nI (by omega) (by omega)) dL_law_365 ?_
    refine x_topi (y := xs (5 * t + 1)) (by rw [nI_clamp (by omega)]) ?_
    refine x_topi ea0.symm ?_
    refine lv_aload_n hx hb dL_law_366 rfl (lv_at hl 1 rfl) ?_
    refine lv_iload hx hb dL_law_367 (lv_at hl 5 rfl) ?_
    refine lv_iconst (v := nI 2) hx hb dL_law_369 (by decide) ?_
    refine x_addN hx hb dL_law_370 ?_
    refine va_sld hx hb hX hbl hbA h.2.2.1 (vp_in_nI (by omega) (by omega)) dL_law_371 ?_
    refine x_topi (y := xs (5 * t + 2)) (by rw [nI_clamp (by omega)]) ?_
    refine x_topi ea1.symm ?_
    refine lv_aload_n hx hb dL_law_372 rfl (lv_at hl 1 rfl) ?_
    refine lv_iload hx hb dL_law_373 (lv_at hl 5 rfl) ?_
    refine lv_iconst (v := nI 3) hx hb dL_law_375 (by decide) ?_
    refine x_addN hx hb dL_law_376 ?_
    refine va_sld hx hb hX hbl hbA h.2.2.1 (vp_in_nI (by omega) (by omega)) dL_law_377 ?_
    refine x_topi (y := xs (5 * t + 3)) (by rw [nI_clamp (by omega)]) ?_
    refine x_topi ea2.symm ?_
    refine lv_aload_n hx hb dL_law_378 rfl (lv_at hl 1 rfl) ?_
    refine lv_iload hx hb dL_law_379 (lv_at hl 5 rfl) ?_
    refine lv_iconst (v := nI 4) hx hb dL_law_381 (by decide) ?_
    refine x_addN hx hb dL_law_382 ?_
    refine va_sld hx hb hX hbl hbA h.2.2.1 (vp_in_nI (by omega) (by omega)) dL_law_383 ?_
    refine x_topi (y := xs (5 * t + 4)) (by rw [nI_clamp (by omega)]) ?_
    refine x_topi ea3.symm ?_
    refine cl_L_101 C h (hM 30 (by decide)) rfl hc8 ⟨Nat.le_of_ble_eq_true rfl, Nat.le_of_ble_eq_true rfl⟩ ⟨by show _ ≤ 601024; omega, by show _ ≤ 7293034; omega⟩ hl.1 (Nat.le_of_ble_eq_true rfl) dL_law_384 (fun rb u2 H locs hp2 h => ?_)
    obtain ⟨hth, hrb, hgl, hI2⟩ := hpb rb u2 hp2
    refine lv_istore (lv' := [(6, .int rb), (5, .int (nI 0)), (0, .ref b), (1, .ref (ad 0)), (2, .ref (ad 30)), (3, .ref (ad 90)), (4, .int (nI (5 * t)))]) hx hb dL_law_387 hl (by decide) rfl (fun ls hl => ?_)
    refine lv_aload_n hx hb dL_law_389 rfl (lv_at hl 4 rfl) ?_
    refine cl_L_87 C h (hM 30 (by decide)) rfl (c_X8_thrown l D cy ad Ls u2 hM) ⟨Nat.le_of_ble_eq_true rfl, Nat.le_of_ble_eq_true rfl⟩ ⟨by show _ ≤ 601024; omega, by show _ ≤ 7293034; omega⟩ hl.1 (Nat.le_of_ble_eq_true rfl) dL_law_390 (fun r3 u3 H locs hp3 h => ?_)
    obtain ⟨er3, eu3⟩ := hp3; rw [eu3] at h; refine x_topi (er3.trans hth) ?_
    refine lv_iload hx hb dL_law_393 (lv_at hl 1 rfl) ?_
    refine lv_icmp_eq (tgt := 400) hx hb dL_law_395 (by decide) (fun _ => ?_) (fun q9 => absurd rfl q9)
    refine lv_iload hx hb dL_law_400 (lv_at hl 1 rfl) ?_
    refine x_ifN_ne (tgt := 417) hx hb dL_law_402 (by decide) (by decide) (fun q9 => absurd rfl q9) (fun _ => ?_)
    refine lv_aload_n hx hb dL_law_405 rfl (lv_at hl 5 rfl) ?_
    refine lv_iconst (v := nI 0) hx hb dL_law_406 (by decide) ?_
    refine x_lald C h h90 rfl rfl dL_law_407 ?_
    refine x_topl hgl ?_
    refine lv_iload hx hb dL_law_408 (lv_at hl 0 rfl) ?_
    refine lv_i2l hx hb dL_law_410 rfl ?_
    refine x_lcmp hx hb dL_law_411 (fun r4 h4 => ?_)
    refine lv_if_eq (tgt := 417) hx hb dL_law_412 (by decide) (fun _ => ?_) (fun q9 => absurd (h4.trans (lg_cmp_0.mpr (by rw [hrb]))) q9)
    refine lv_goto (tgt := 1361) hx hb dL_law_417 (by decide) ?_
    exact W.widen (k := cells + 10) (n := slots + 600) (by omega) (by omega) (kk ad Ls _ H locs ls h hI2 (lv_sub hl [2, 3, 4, 5, 6] rfl))

set_option maxHeartbeats 4000000 in
set_option maxRecDepth 100000 in
theorem k_telling {p : Program} {e : Env} {s : State} {m : MethodId} {below : List Frame} {meth : Method} {c : Code} (l : Launch) {D : va_G} {cy : Nat → ClassId} {ad : Nat → Nat} {Ls : List Nat} {st : XS} {H : Heap} {locs : List Loc} {cells slots : Nat} {Q : State → Prop} {b L : Nat} {xs : Nat → Int32} {LI : Nat → List Nat → XS → Prop} (C : xCx p m c code 7 s #[Value.ref b] RL D cy) (hX : va_X b L xs s s.heap) (hbl : b < s.heap.size) (hLI : LIok LI) (hS : ∀ (a0 : Int32) (a1 : Int32) (a2 : Int32), SI l D cy LI yX7_telling cX7_telling 4 .int 8 4 24 [eIOB, eIAE] yX8_telling cX8_telling 5 .int 2 [.int a0, .int a1, .int a2]) (h : xH D cy ad Ls (lwA s) s st H locs) (t : Nat) (hI : LI t Ls st) (ht : 5 * t + 5 ≤ L) (hL : L ≤ 2560) (hcs : cells + 10 ≤ 601024 ∧ slots + 600 ≤ 7293034) {ls : Array Slot} (hl : lv_has ls 7 (lwL b ad t)) (kk : LK p l e s m below meth c D cy LI b t cells slots Q) : W p l e room_1 s m #[Value.ref b] below meth c H locs cells slots Q (F0 m 420 ls []) := by
  have hx := C.1; have hb := C.2.1
  have hbA : ¬ lwA s b := Nat.not_le.mpr hbl
  have hl : lv_has ls 7 [(0, .ref b), (1, .ref (ad 0)), (2, .ref (ad 30)), (3, .ref (ad 90)), (4, .int (nI (5 * t)))] := hl
  obtain ⟨hxC, h90, hM, _⟩ := hLI _ _ _ hI
  have ht512 : t < 512 := by omega
  obtain ⟨a0, ea0⟩ : ∃ z, z = xs (5 * t + 1) := ⟨_, rfl⟩
  obtain ⟨a1, ea1⟩ : ∃ z, z = xs (5 * t + 2) := ⟨_, rfl⟩
  obtain ⟨a2, ea2⟩ : ∃ z, z = xs (5 * t + 3) := ⟨_, rfl⟩
  obtain ⟨K, post, hc7, hB, hG⟩ := hS a0 a1 a2 t ad Ls st ht512 hI
  refine lv_aload_n hx hb dL_law_420 rfl (lv_at hl 1 rfl) ?_
  refine lv_aload_n hx hb dL_law_421 rfl (lv_at hl 0 rfl) ?_
  refine lv_iload hx hb dL_law_422 (lv_at hl 4 rfl) ?_
  refine lv_iconst (v := nI 1) hx hb dL_law_424 (by decide) ?_
  refine x_addN hx hb dL_law_425 ?_
  refine va_sld hx hb hX hbl hbA h.2.2.1 (vp_in_nI (by omega) (by omega)) dL_law_426 ?_
  refine x_topi (y := xs (5 * t + 1)) (by rw [nI_clamp (by omega)]) ?_
  refine x_topi ea0.symm ?_
  refine lv_aload_n hx hb dL_law_427 rfl (lv_at hl 0 rfl) ?_
  refine lv_iload hx hb dL_law_428 (lv_at hl 4 rfl) ?_
  refine lv_iconst (v := nI 2) hx hb dL_law_430 (by decide) ?_
  refine x_addN hx hb dL_law_431 ?_
  refine va_sld hx hb hX hbl hbA h.2.2.1 (vp_in_nI (by omega) (by omega)) dL_law_432 ?_
  refine x_topi (y := xs (5 * t + 2)) (by rw [nI_clamp (by omega)]) ?_
  refine x_topi ea1.symm ?_
  refine lv_aload_n hx hb dL_law_433 rfl (lv_at hl 0 rfl) ?_
  refine lv_iload hx hb dL_law_434 (lv_at hl 4 rfl) ?_
  refine lv_iconst (v := nI 3) hx hb dL_law_436 (by decide) ?_
  refine x_addN hx hb dL_law_437 ?_
  refine va_sld hx hb hX hbl hbA h.2.2.1 (vp_in_nI (by omega) (by omega)) dL_law_438 ?_
  refine x_topi (y := xs (5 * t + 3)) (by rw [nI_clamp (by omega)]) ?_
  refine x_topi ea2.symm ?_
  refine lv_aload_n hx hb dL_law_439 rfl (lv_at hl 3 rfl) ?_
  refine x_rSW C h (w_telling l D cy ad Ls st (hxC 0 rfl) h90 a0 a1 a2 K hc7) rfl tb648 tb649 tb69 tw_telling (na := 5) rfl (by decide +kernel) ⟨Nat.le_of_ble_eq_true rfl, Nat.le_of_ble_eq_true rfl⟩ (by decide) ⟨by show _ ≤ 601024; omega, by show _ ≤ 7293034; omega⟩ hl.1 rfl (Nat.le_of_ble_eq_true rfl) dL_law_440 (fun r u H locs hp h => ?_)
  rcases hp with ⟨j, hj, hK, hr, hu⟩ | ⟨hr, r1, u1, hp1, hu⟩
  · subst hu; subst hr; change xH D cy ad Ls (lwA s) s st H locs at h
    obtain ⟨pb, hc8, hpb⟩ := hB (by omega)
    refine lv_istore (lv' := [(5, .int (nI K)), (0, .ref b), (1, .ref (ad 0)), (2, .ref (ad 30)), (3, .ref (ad 90)), (4, .int (nI (5 * t)))]) hx hb dL_law_443 hl (by decide) rfl (fun ls hl => ?_)
    refine lv_aload_n hx hb dL_law_445 rfl (lv_at hl 3 rfl) ?_
    refine lv_aload_n hx hb dL_law_446 rfl (lv_at hl 1 rfl) ?_
    refine lv_iload hx hb dL_law_447 (lv_at hl 5 rfl) ?_
    refine lv_iconst (v := nI 1) hx hb dL_law_449 (by decide) ?_
    refine x_addN hx hb dL_law_450 ?_
    refine va_sld hx hb hX hbl hbA h.2.2.1 (vp_in_nI (by omega) (by omega)) dL_law_451 ?_
    refine x_topi (y := xs (5 * t + 1)) (by rw [nI_clamp (by omega)]) ?_
    refine x_topi ea0.symm ?_
    refine lv_aload_n hx hb dL_law_452 rfl (lv_at hl 1 rfl) ?_
    refine lv_iload hx hb dL_law_453 (lv_at hl 5 rfl) ?_
    refine lv_iconst (v := nI 2) hx hb dL_law_455 (by decide) ?_
    refine x_addN hx hb dL_law_456 ?_
    refine va_sld hx hb hX hbl hbA h.2.2.1 (vp_in_nI (by omega) (by omega)) dL_law_457 ?_
    refine x_topi (y := xs (5 * t + 2)) (by rw [nI_clamp (by omega)]) ?_
    refine x_topi ea1.symm ?_
    refine lv_aload_n hx hb dL_law_458 rfl (lv_at hl 1 rfl) ?_
    refine lv_iload hx hb dL_law_459 (lv_at hl 5 rfl) ?_
    refine lv_iconst (v := nI 3) hx hb dL_law_461 (by decide) ?_
    refine x_addN hx hb dL_law_462 ?_
    refine va_sld hx hb hX hbl hbA h.2.2.1 (vp_in_nI (by omega) (by omega)) dL_law_463 ?_
    refine x_topi (y := xs (5 * t + 3)) (by rw [nI_clamp (by omega)]) ?_
    refine x_topi ea2.symm ?_
    refine cl_L_105 C h (hM 30 (by decide)) rfl hc8 ⟨Nat.le_of_ble_eq_true rfl, Nat.le_of_ble_eq_true rfl⟩ ⟨by show _ ≤ 601024; omega, by show _ ≤ 7293034; omega⟩ hl.1 (Nat.le_of_ble_eq_true rfl) dL_law_464 (fun rb u2 H locs hp2 h => ?_)
    obtain ⟨hth, hI2⟩ := hpb rb u2 hp2
    refine lv_istore (lv' := [(6, .int rb), (5, .int (nI K)), (0, .ref b), (1, .ref (ad 0)), (2, .ref (ad 30)), (3, .ref (ad 90)), (4, .int (nI (5 * t)))]) hx hb dL_law_467 hl (by decide) rfl (fun ls hl => ?_)
    refine lv_aload_n hx hb dL_law_469 rfl (lv_at hl 4 rfl) ?_
    refine cl_L_87 C h (hM 30 (by decide)) rfl (c_X8_thrown l D cy ad Ls u2 hM) ⟨Nat.le_of_ble_eq_true rfl, Nat.le_of_ble_eq_true rfl⟩ ⟨by show _ ≤ 601024; omega, by show _ ≤ 7293034; omega⟩ hl.1 (Nat.le_of_ble_eq_true rfl) dL_law_470 (fun r3 u3 H locs hp3 h => ?_)
    obtain ⟨er3, eu3⟩ := hp3; rw [eu3] at h; refine x_topi (er3.trans hth) ?_
    refine lv_iload hx hb dL_law_473 (lv_at hl 1 rfl) ?_
    refine lv_icmp_eq (tgt := 480) hx hb dL_law_475 (by decide) (fun _ => ?_) (fun q9 => absurd rfl q9)
    refine lv_iload hx hb dL_law_480 (lv_at hl 1 rfl) ?_
    refine x_ifN_ne (tgt := 497) hx hb dL_law_482 (by decide) (by omega) (fun _ => ?_) (fun q9 => absurd q9 (by omega))
    refine lv_goto (tgt := 1361) hx hb dL_law_497 (by decide) ?_
    exact W.widen (k := cells + 10) (n := slots + 600) (by omega) (by omega) (kk ad Ls _ H locs ls h hI2 (lv_sub hl [2, 3, 4, 5, 6] rfl))
  · subst hu; subst hr; obtain ⟨hK0, hG2⟩ := hG r1 u1 hp1
    obtain ⟨pb, hc8, hpb⟩ := hG2 _ rfl
    change xH D cy ad Ls (lwA s) s (sl u1 0 90 r1.toInt64) H locs at h
    refine lv_istore (lv' := [(5, .int (nI 0)), (0, .ref b), (1, .ref (ad 0)), (2, .ref (ad 30)), (3, .ref (ad 90)), (4, .int (nI (5 * t)))]) hx hb dL_law_443 hl (by decide) rfl (fun ls hl => ?_)
    refine lv_aload_n hx hb dL_law_445 rfl (lv_at hl 3 rfl) ?_
    refine lv_aload_n hx hb dL_law_446 rfl (lv_at hl 1 rfl) ?_
    refine lv_iload hx hb dL_law_447 (lv_at hl 5 rfl) ?_
    refine lv_iconst (v := nI 1) hx hb dL_law_449 (by decide) ?_
    refine x_addN hx hb dL_law_450 ?_
    refine va_sld hx hb hX hbl hbA h.2.2.1 (vp_in_nI (by omega) (by omega)) dL_law_451 ?_
    refine x_topi (y := xs (5 * t + 1)) (by rw [nI_clamp (by omega)]) ?_
    refine x_topi ea0.symm ?_
    refine lv_aload_n hx hb dL_law_452 rfl (lv_at hl 1 rfl) ?_
    refine lv_iload hx hb dL_law_453 (lv_at hl 5 rfl) ?_
    refine lv_iconst (v := nI 2) hx hb dL_law_455 (by decide) ?_
    refine x_addN hx hb dL_law_456 ?_
    refine va_sld hx hb hX hbl hbA h.2.2.1 (vp_in_nI (by omega) (by omega)) dL_law_457 ?_
    refine x_topi (y := xs (5 * t + 2)) (by rw [nI_clamp (by omega)]) ?_
    refine x_topi ea1.symm ?_
    refine lv_aload_n hx hb dL_law_458 rfl (lv_at hl 1 rfl) ?_
    refine lv_iload hx hb dL_law_459 (lv_at hl 5 rfl) ?_
    refine lv_iconst (v := nI 3) hx hb dL_law_461 (by decide) ?_
    refine x_addN hx hb dL_law_462 ?_
    refine va_sld hx hb hX hbl hbA h.2.2.1 (vp_in_nI (by omega) (by omega)) dL_law_463 ?_
    refine x_topi (y := xs (5 * t + 3)) (by rw [nI_clamp (by omega)]) ?_
    refine x_topi ea2.symm ?_
    refine cl_L_105 C h (hM 30 (by decide)) rfl hc8 ⟨Nat.le_of_ble_eq_true rfl, Nat.le_of_ble_eq_true rfl⟩ ⟨by show _ ≤ 601024; omega, by show _ ≤ 7293034; omega⟩ hl.1 (Nat.le_of_ble_eq_true rfl) dL_law_464 (fun rb u2 H locs hp2 h => ?_)
    obtain ⟨hth, hrb, hgl, hI2⟩ := hpb rb u2 hp2
    refine lv_istore (lv' := [(6, .int rb), (5, .int (nI 0)), (0, .ref b), (1, .ref (ad 0)), (2, .ref (ad 30)), (3, .ref (ad 90)), (4, .int (nI (5 * t)))]) hx hb dL_law_467 hl (by decide) rfl (fun ls hl => ?_)
    refine lv_aload_n hx hb dL_law_469 rfl (lv_at hl 4 rfl) ?_
    refine cl_L_87 C h (hM 30 (by decide)) rfl (c_X8_thrown l D cy ad Ls u2 hM) ⟨Nat.le_of_ble_eq_true rfl, Nat.le_of_ble_eq_true rfl⟩ ⟨by show _ ≤ 601024; omega, by show _ ≤ 7293034; omega⟩ hl.1 (Nat.le_of_ble_eq_true rfl) dL_law_470 (fun r3 u3 H locs hp3 h => ?_)
    obtain ⟨er3, eu3⟩ := hp3; rw [eu3] at h; refine x_topi (er3.trans hth) ?_
    refine lv_iload hx hb dL_law_473 (lv_at hl 1 rfl) ?_
    refine lv_icmp_eq (tgt := 480) hx hb dL_law_475 (by decide) (fun _ => ?_) (fun q9 => absurd rfl q9)
    refine lv_iload hx hb dL_law_480 (lv_at hl 1 rfl) ?_
    refine x_ifN_ne (tgt := 497) hx hb dL_law_482 (by decide) (by decide) (fun q9 => absurd rfl q9) (fun _ => ?_)
    refine lv_aload_n hx hb dL_law_485 rfl (lv_at hl 5 rfl) ?_
    refine lv_iconst (v := nI 0) hx hb dL_law_486 (by decide) ?_
    refine x_lald C h h90 rfl rfl dL_law_487 ?_
    refine x_topl hgl ?_
    refine lv_iload hx hb dL_law_488 (lv_at hl 0 rfl) ?_
    refine lv_i2l hx hb dL_law_490 rfl ?_
    refine x_lcmp hx hb dL_law_491 (fun r4 h4 => ?_)
    refine lv_if_eq (tgt := 497) hx hb dL_law_492 (by decide) (fun _ => ?_) (fun q9 => absurd (h4.trans (lg_cmp_0.mpr (by rw [hrb]))) q9)
    refine lv_goto (tgt := 1361) hx hb dL_law_497 (by decide) ?_
    exact W.widen (k := cells + 10) (n := slots + 600) (by omega) (by omega) (kk ad Ls _ H locs ls h hI2 (lv_sub hl [2, 3, 4, 5, 6] rfl))

set_option maxHeartbeats 4000000 in
set_option maxRecDepth 100000 in
theorem k_round {p : Program} {e : Env} {s : State} {m : MethodId} {below : List Frame} {meth : Method} {c : Code} (l : Launch) {D : va_G} {cy : Nat → ClassId} {ad : Nat → Nat} {Ls : List Nat} {st : XS} {H : Heap} {locs : List Loc} {cells slots : Nat} {Q : State → Prop} {b L : Nat} {xs : Nat → Int32} {LI : Nat → List Nat → XS → Prop} (C : xCx p m c code 7 s #[Value.ref b] RL D cy) (hX : va_X b L xs s s.heap) (hbl : b < s.heap.size) (hLI : LIok LI) (hS : ∀ (a0 : Int32) (a1 : Int32), SI l D cy LI yX7_round cX7_round 4 .int 8 4 24 [eIOB, eIAE] yX8_round cX8_round 4 .int 2 [.int a0, .int a1]) (h : xH D cy ad Ls (lwA s) s st H locs) (t : Nat) (hI : LI t Ls st) (ht : 5 * t + 5 ≤ L) (hL : L ≤ 2560) (hcs : cells + 10 ≤ 601024 ∧ slots + 600 ≤ 7293034) {ls : Array Slot} (hl : lv_has ls 7 (lwL b ad t)) (kk : LK p l e s m below meth c D cy LI b t cells slots Q) : W p l e room_1 s m #[Value.ref b] below meth c H locs cells slots Q (F0 m 500 ls []) := by
  have hx := C.1; have hb := C.2.1
  have hbA : ¬ lwA s b := Nat.not_le.mpr hbl
  have hl : lv_has ls 7 [(0, .ref b), (1, .ref (ad 0)), (2, .ref (ad 30)), (3, .ref (ad 90)), (4, .int (nI (5 * t)))] := hl
  obtain ⟨hxC, h90, hM, _⟩ := hLI _ _ _ hI
  have ht512 : t < 512 := by omega
  obtain ⟨a0, ea0⟩ : ∃ z, z = xs (5 * t + 1) := ⟨_, rfl⟩
  obtain ⟨a1, ea1⟩ : ∃ z, z = xs (5 * t + 2) := ⟨_, rfl⟩
  obtain ⟨K, post, hc7, hB, hG⟩ := hS a0 a1 t ad Ls st ht512 hI
  refine lv_aload_n hx hb dL_law_500 rfl (lv_at hl 1 rfl) ?_
  refine lv_aload_n hx hb dL_law_501 rfl (lv_at hl 0 rfl) ?_
  refine lv_iload hx hb dL_law_502 (lv_at hl 4 rfl) ?_
  refine lv_iconst (v := nI 1) hx hb dL_law_504 (by decide) ?_
  refine x_addN hx hb dL_law_505 ?_
  refine va_sld hx hb hX hbl hbA h.2.2.1 (vp_in_nI (by omega) (by omega)) dL_law_506 ?_
  refine x_topi (y := xs (5 * t + 1)) (by rw [nI_clamp (by omega)]) ?_
  refine x_topi ea0.symm ?_
  refine lv_aload_n hx hb dL_law_507 rfl (lv_at hl 0 rfl) ?_
  refine lv_iload hx hb dL_law_508 (lv_at hl 4 rfl) ?_
  refine lv_iconst (v := nI 2) hx hb dL_law_510 (by decide) ?_
  refine x_addN hx hb dL_law_511 ?_
  refine va_sld hx hb hX hbl hbA h.2.2.1 (vp_in_nI (by omega) (by omega)) dL_law_512 ?_
  refine x_topi (y := xs (5 * t + 2)) (by rw [nI_clamp (by omega)]) ?_
  refine x_topi ea1.symm ?_
  refine lv_aload_n hx hb dL_law_513 rfl (lv_at hl 3 rfl) ?_
  refine x_rSW C h (w_round l D cy ad Ls st (hxC 0 rfl) h90 a0 a1 K hc7) rfl tb661 tb662 tb69 tw_round (na := 4) rfl (by decide +kernel) ⟨Nat.le_of_ble_eq_true rfl, Nat.le_of_ble_eq_true rfl⟩ (by decide) ⟨by show _ ≤ 601024; omega, by show _ ≤ 7293034; omega⟩ hl.1 rfl (Nat.le_of_ble_eq_true rfl) dL_law_514 (fun r u H locs hp h => ?_)
  rcases hp with ⟨j, hj, hK, hr, hu⟩ | ⟨hr, r1, u1, hp1, hu⟩
  · subst hu; subst hr; change xH D cy ad Ls (lwA s) s st H locs at h
    obtain ⟨pb, hc8, hpb⟩ := hB (by omega)
    refine lv_istore (lv' := [(5, .int (nI K)), (0, .ref b), (1, .ref (ad 0)), (2, .ref (ad 30)), (3, .ref (ad 90)), (4, .int (nI (5 * t)))]) hx hb dL_law_517 hl (by decide) rfl (fun ls hl => ?_)
    refine lv_aload_n hx hb dL_law_519 rfl (lv_at hl 3 rfl) ?_
    refine lv_aload_n hx hb dL_law_520 rfl (lv_at hl 1 rfl) ?_
    refine lv_iload hx hb dL_law_521 (lv_at hl 5 rfl) ?_
    refine lv_iconst (v := nI 1) hx hb dL_law_523 (by decide) ?_
    refine x_addN hx hb dL_law_524 ?_
    refine va_sld hx hb hX hbl hbA h.2.2.1 (vp_in_nI (by omega) (by omega)) dL_law_525 ?_
    refine x_topi (y := xs (5 * t + 1)) (by rw [nI_clamp (by omega)]) ?_
    refine x_topi ea0.symm ?_
    refine lv_aload_n hx hb dL_law_526 rfl (lv_at hl 1 rfl) ?_
    refine lv_iload hx hb dL_law_527 (lv_at hl 5 rfl) ?_
    refine lv_iconst (v := nI 2) hx hb dL_law_529 (by decide) ?_
    refine x_addN hx hb dL_law_530 ?_
    refine va_sld hx hb hX hbl hbA h.2.2.1 (vp_in_nI (by omega) (by omega)) dL_law_531 ?_
    refine x_topi (y := xs (5 * t + 2)) (by rw [nI_clamp (by omega)]) ?_
    refine x_topi ea1.symm ?_
    refine cl_L_109 C h (hM 30 (by decide)) rfl hc8 ⟨Nat.le_of_ble_eq_true rfl, Nat.le_of_ble_eq_true rfl⟩ ⟨by show _ ≤ 601024; omega, by show _ ≤ 7293034; omega⟩ hl.1 (Nat.le_of_ble_eq_true rfl) dL_law_532 (fun rb u2 H locs hp2 h => ?_)
    obtain ⟨hth, hI2⟩ := hpb rb u2 hp2
    refine lv_istore (lv' := [(6, .int rb), (5, .int (nI K)), (0, .ref b), (1, .ref (ad 0)), (2, .ref (ad 30)), (3, .ref (ad 90)), (4, .int (nI (5 * t)))]) hx hb dL_law_535 hl (by decide) rfl (fun ls hl => ?_)
    refine lv_aload_n hx hb dL_law_537 rfl (lv_at hl 4 rfl) ?_
    refine cl_L_87 C h (hM 30 (by decide)) rfl (c_X8_thrown l D cy ad Ls u2 hM) ⟨Nat.le_of_ble_eq_true rfl, Nat.le_of_ble_eq_true rfl⟩ ⟨by show _ ≤ 601024; omega, by show _ ≤ 7293034; omega⟩ hl.1 (Nat.le_of_ble_eq_true rfl) dL_law_538 (fun r3 u3 H locs hp3 h => ?_)
    obtain ⟨er3, eu3⟩ := hp3; rw [eu3] at h; refine x_topi (er3.trans hth) ?_
    refine lv_iload hx hb dL_law_541 (lv_at hl 1 rfl) ?_
    refine lv_icmp_eq (tgt := 548) hx hb dL_law_543 (by decide) (fun _ => ?_) (fun q9 => absurd rfl q9)
    refine lv_iload hx hb dL_law_548 (lv_at hl 1 rfl) ?_
    refine x_ifN_ne (tgt := 565) hx hb dL_law_550 (by decide) (by omega) (fun _ => ?_) (fun q9 => absurd q9 (by omega))
    refine lv_goto (tgt := 1361) hx hb dL_law_565 (by decide) ?_
    exact W.widen (k := cells + 10) (n := slots + 600) (by omega) (by omega) (kk ad Ls _ H locs ls h hI2 (lv_sub hl [2, 3, 4, 5, 6] rfl))
  · subst hu; subst hr; obtain ⟨hK0, hG2⟩ := hG r1 u1 hp1
    obtain ⟨pb, hc8, hpb⟩ := hG2 _ rfl
    change xH D cy ad Ls (lwA s) s (sl u1 0 90 r1.toInt64) H locs at h
    refine lv_istore (lv' := [(5, .int (nI 0)), (0, .ref b), (1, .ref (ad 0)), (2, .ref (ad 30)), (3, .ref (ad 90)), (4, .int (nI (5 * t)))]) hx hb dL_law_517 hl (by decide) rfl (fun ls hl => ?_)
    refine lv_aload_n hx hb dL_law_519 rfl (lv_at hl 3 rfl) ?_
    refine lv_aload_n hx hb dL_law_520 rfl (lv_at hl 1 rfl) ?_
    refine lv_iload hx hb dL_law_521 (lv_at hl 5 rfl) ?_
    refine lv_iconst (v := nI 1) hx hb dL_law_523 (by decide) ?_
    refine x_addN hx hb dL_law_524 ?_
    refine va_sld hx hb hX hbl hbA h.2.2.1 (vp_in_nI (by omega) (by omega)) dL_law_525 ?_
    refine x_topi (y := xs (5 * t + 1)) (by rw [nI_clamp (by omega)]) ?_
    refine x_topi ea0.symm ?_
    refine lv_aload_n hx hb dL_law_526 rfl (lv_at hl 1 rfl) ?_
    refine lv_iload hx hb dL_law_527 (lv_at hl 5 rfl) ?_
    refine lv_iconst (v := nI 2) hx hb dL_law_529 (by decide) ?_
    refine x_addN hx hb dL_law_530 ?_
    refine va_sld hx hb hX hbl hbA h.2.2.1 (vp_in_nI (by omega) (by omega)) dL_law_531 ?_
    refine x_topi (y := xs (5 * t + 2)) (by rw [nI_clamp (by omega)]) ?_
    refine x_topi ea1.symm ?_
    refine cl_L_109 C h (hM 30 (by decide)) rfl hc8 ⟨Nat.le_of_ble_eq_true rfl, Nat.le_of_ble_eq_true rfl⟩ ⟨by show _ ≤ 601024; omega, by show _ ≤ 7293034; omega⟩ hl.1 (Nat.le_of_ble_eq_true rfl) dL_law_532 (fun rb u2 H locs hp2 h => ?_)
    obtain ⟨hth, hrb, hgl, hI2⟩ := hpb rb u2 hp2
    refine lv_istore (lv' := [(6, .int rb), (5, .int (nI 0)), (0, .ref b), (1, .ref (ad 0)), (2, .ref (ad 30)), (3, .ref (ad 90)), (4, .int (nI (5 * t)))]) hx hb dL_law_535 hl (by decide) rfl (fun ls hl => ?_)
    refine lv_aload_n hx hb dL_law_537 rfl (lv_at hl 4 rfl) ?_
    refine cl_L_87 C h (hM 30 (by decide)) rfl (c_X8_thrown l D cy ad Ls u2 hM) ⟨Nat.le_of_ble_eq_true rfl, Nat.le_of_ble_eq_true rfl⟩ ⟨by show _ ≤ 601024; omega, by show _ ≤ 7293034; omega⟩ hl.1 (Nat.le_of_ble_eq_true rfl) dL_law_538 (fun r3 u3 H locs hp3 h => ?_)
    obtain ⟨er3, eu3⟩ := hp3; rw [eu3] at h; refine x_topi (er3.trans hth) ?_
    refine lv_iload hx hb dL_law_541 (lv_at hl 1 rfl) ?_
    refine lv_icmp_eq (tgt := 548) hx hb dL_law_543 (by decide) (fun _ => ?_) (fun q9 => absurd rfl q9)
    refine lv_iload hx hb dL_law_548 (lv_at hl 1 rfl) ?_
    refine x_ifN_ne (tgt := 565) hx hb dL_law_550 (by decide) (by decide) (fun q9 => absurd rfl q9) (fun _ => ?_)
    refine lv_aload_n hx hb dL_law_553 rfl (lv_at hl 5 rfl) ?_
    refine lv_iconst (v := nI 0) hx hb dL_law_554 (by decide) ?_
    refine x_lald C h h90 rfl rfl dL_law_555 ?_
    refine x_topl hgl ?_
    refine lv_iload hx hb dL_law_556 (lv_at hl 0 rfl) ?_
    refine lv_i2l hx hb dL_law_558 rfl ?_
    refine x_lcmp hx hb dL_law_559 (fun r4 h4 => ?_)
    refine lv_if_eq (tgt := 565) hx hb dL_law_560 (by decide) (fun _ => ?_) (fun q9 => absurd (h4.trans (lg_cmp_0.mpr (by rw [hrb]))) q9)
    refine lv_goto (tgt := 1361) hx hb dL_law_565 (by decide) ?_
    exact W.widen (k := cells + 10) (n := slots + 600) (by omega) (by omega) (kk ad Ls _ H locs ls h hI2 (lv_sub hl [2, 3, 4, 5, 6] rfl))

set_option maxHeartbeats 4000000 in
set_option maxRecDepth 100000 in
theorem k_client {p : Program} {e : Env} {s : State} {m : MethodId} {below : List Frame} {meth : Method} {c : Code} (l : Launch) {D : va_G} {cy : Nat → ClassId} {ad : Nat → Nat} {Ls : List Nat} {st : XS} {H : Heap} {locs : List Loc} {cells slots : Nat} {Q : State → Prop} {b L : Nat} {xs : Nat → Int32} {LI : Nat → List Nat → XS → Prop} (C : xCx p m c code 7 s #[Value.ref b] RL D cy) (hX : va_X b L xs s s.heap) (hbl : b < s.heap.size) (hLI : LIok LI) (hS : ∀ (a0 : Int32) (a1 : Int32), SI l D cy LI yX7_client cX7_client 4 .int 8 4 24 [eIOB] yX8_client cX8_client 4 .int 2 [.int a0, .int a1]) (h : xH D cy ad Ls (lwA s) s st H locs) (t : Nat) (hI : LI t Ls st) (ht : 5 * t + 5 ≤ L) (hL : L ≤ 2560) (hcs : cells + 10 ≤ 601024 ∧ slots + 600 ≤ 7293034) {ls : Array Slot} (hl : lv_has ls 7 (lwL b ad t)) (kk : LK p l e s m below meth c D cy LI b t cells slots Q) : W p l e room_1 s m #[Value.ref b] below meth c H locs cells slots Q (F0 m 568 ls []) := by
  have hx := C.1; have hb := C.2.1
  have hbA : ¬ lwA s b := Nat.not_le.mpr hbl
  have hl : lv_has ls 7 [(0, .ref b), (1, .ref (ad 0)), (2, .ref (ad 30)), (3, .ref (ad 90)), (4, .int (nI (5 * t)))] := hl
  obtain ⟨hxC, h90, hM, _⟩ := hLI _ _ _ hI
  have ht512 : t < 512 := by omega
  obtain ⟨a0, ea0⟩ : ∃ z, z = xs (5 * t + 1) := ⟨_, rfl⟩
  obtain ⟨a1, ea1⟩ : ∃ z, z = xs (5 * t + 2) := ⟨_, rfl⟩
  obtain ⟨K, post, hc7, hB, hG⟩ := hS a0 a1 t ad Ls st ht512 hI
  refine lv_aload_n hx hb dL_law_568 rfl (lv_at hl 1 rfl) ?_
  refine lv_aload_n hx hb dL_law_569 rfl (lv_at hl 0 rfl) ?_
  refine lv_iload hx hb dL_law_570 (lv_at hl 4 rfl) ?_
  refine lv_iconst (v := nI 1) hx hb dL_law_572 (by decide) ?_
  refine x_addN hx hb dL_law_573 ?_
  refine va_sld hx hb hX hbl hbA h.2.2.1 (vp_in_nI (by omega) (by omega)) dL_law_574 ?_
  refine x_topi (y := xs (5 * t + 1)) (by rw [nI_clamp (by omega)]) ?_
  refine x_topi ea0.symm ?_
  refine lv_aload_n hx hb dL_law_575 rfl (lv_at hl 0 rfl) ?_
  refine lv_iload hx hb dL_law_576 (lv_at hl 4 rfl) ?_
  refine lv_iconst (v := nI 2) hx hb dL_law_578 (by decide) ?_
  refine x_addN hx hb dL_law_579 ?_
  refine va_sld hx hb hX hbl hbA h.2.2.1 (vp_in_nI (by omega) (by omega)) dL_law_580 ?_
  refine x_topi (y := xs (5 * t + 2)) (by rw [nI_clamp (by omega)]) ?_
  refine x_topi ea1.symm ?_
  refine lv_aload_n hx hb dL_law_581 rfl (lv_at hl 3 rfl) ?_
  refine x_rSW C h (w_client l D cy ad Ls st (hxC 0 rfl) h90 a0 a1 K hc7) rfl tb671 tb672 tb69 tw_client (na := 4) rfl (by decide +kernel) ⟨Nat.le_of_ble_eq_true rfl, Nat.le_of_ble_eq_true rfl⟩ (by decide) ⟨by show _ ≤ 601024; omega, by show _ ≤ 7293034; omega⟩ hl.1 rfl (Nat.le_of_ble_eq_true rfl) dL_law_582 (fun r u H locs hp h => ?_)
  rcases hp with ⟨j, hj, hK, hr, hu⟩ | ⟨hr, r1, u1, hp1, hu⟩
  · subst hu; subst hr; change xH D cy ad Ls (lwA s) s st H locs at h
    obtain ⟨pb, hc8, hpb⟩ := hB (by omega)
    refine lv_istore (lv' := [(5, .int (nI K)), (0, .ref b), (1, .ref (ad 0)), (2, .ref (ad 30)), (3, .ref (ad 90)), (4, .int (nI (5 * t)))]) hx hb dL_law_585 hl (by decide) rfl (fun ls hl => ?_)
    refine lv_aload_n hx hb dL_law_587 rfl (lv_at hl 3 rfl) ?_
    refine lv_aload_n hx hb dL_law_588 rfl (lv_at hl 1 rfl) ?_
    refine lv_iload hx hb dL_law_589 (lv_at hl 5 rfl) ?_
    refine lv_iconst (v := nI 1) hx hb dL_law_591 (by decide) ?_
    refine x_addN hx hb dL_law_592 ?_
    refine va_sld hx hb hX hbl hbA h.2.2.1 (vp_in_nI (by omega) (by omega)) dL_law_593 ?_
    refine x_topi (y := xs (5 * t + 1)) (by rw [nI_clamp (by omega)]) ?_
    refine x_topi ea0.symm ?_
    refine lv_aload_n hx hb dL_law_594 rfl (lv_at hl 1 rfl) ?_
    refine lv_iload hx hb dL_law_595 (lv_at hl 5 rfl) ?_
    refine lv_iconst (v := nI 2) hx hb dL_law_597 (by decide) ?_
    refine x_addN hx hb dL_law_598 ?_
    refine va_sld hx hb hX hbl hbA h.2.2.1 (vp_in_nI (by omega) (by omega)) dL_law_599 ?_
    refine x_topi (y := xs (5 * t + 2)) (by rw [nI_clamp (by omega)]) ?_
    refine x_topi ea1.symm ?_
    refine cl_L_112 C h (hM 30 (by decide)) rfl hc8 ⟨Nat.le_of_ble_eq_true rfl, Nat.le_of_ble_eq_true rfl⟩ ⟨by show _ ≤ 601024; omega, by show _ ≤ 7293034; omega⟩ hl.1 (Nat.le_of_ble_eq_true rfl) dL_law_600 (fun rb u2 H locs hp2 h => ?_)
    obtain ⟨hth, hI2⟩ := hpb rb u2 hp2
    refine lv_istore (lv' := [(6, .int rb), (5, .int (nI K)), (0, .ref b), (1, .ref (ad 0)), (2, .ref (ad 30)), (3, .ref (ad 90)), (4, .int (nI (5 * t)))]) hx hb dL_law_603 hl (by decide) rfl (fun ls hl => ?_)
    refine lv_aload_n hx hb dL_law_605 rfl (lv_at hl 4 rfl) ?_
    refine cl_L_87 C h (hM 30 (by decide)) rfl (c_X8_thrown l D cy ad Ls u2 hM) ⟨Nat.le_of_ble_eq_true rfl, Nat.le_of_ble_eq_true rfl⟩ ⟨by show _ ≤ 601024; omega, by show _ ≤ 7293034; omega⟩ hl.1 (Nat.le_of_ble_eq_true rfl) dL_law_606 (fun r3 u3 H locs hp3 h => ?_)
    obtain ⟨er3, eu3⟩ := hp3; rw [eu3] at h; refine x_topi (er3.trans hth) ?_
    refine lv_iload hx hb dL_law_609 (lv_at hl 1 rfl) ?_
    refine lv_icmp_eq (tgt := 616) hx hb dL_law_611 (by decide) (fun _ => ?_) (fun q9 => absurd rfl q9)
    refine lv_iload hx hb dL_law_616 (lv_at hl 1 rfl) ?_
    refine x_ifN_ne (tgt := 633) hx hb dL_law_618 (by decide) (by omega) (fun _ => ?_) (fun q9 => absurd q9 (by omega))
    refine lv_goto (tgt := 1361) hx hb dL_law_633 (by decide) ?_
    exact W.widen (k := cells + 10) (n := slots + 600) (by omega) (by omega) (kk ad Ls _ H locs ls h hI2 (lv_sub hl [2, 3, 4, 5, 6] rfl))
  · subst hu; subst hr; obtain ⟨hK0, hG2⟩ := hG r1 u1 hp1
    obtain ⟨pb, hc8, hpb⟩ := hG2 _ rfl
    change xH D cy ad Ls (lwA s) s (sl u1 0 90 r1.toInt64) H locs at h
    refine lv_istore (lv' := [(5, .int (nI 0)), (0, .ref b), (1, .ref (ad 0)), (2, .ref (ad 30)), (3, .ref (ad 90)), (4, .int (nI (5 * t)))]) hx hb dL_law_585 hl (by decide) rfl (fun ls hl => ?_)
    refine lv_aload_n hx hb dL_law_587 rfl (lv_at hl 3 rfl) ?_
    refine lv_aload_n hx hb dL_law_588 rfl (lv_at hl 1 rfl) ?_
    refine lv_iload hx hb dL_law_589 (lv_at hl 5 rfl) ?_
    refine lv_iconst (v := nI 1) hx hb dL_law_591 (by decide) ?_
    refine x_addN hx hb dL_law_592 ?_
    refine va_sld hx hb hX hbl hbA h.2.2.1 (vp_in_nI (by omega) (by omega)) dL_law_593 ?_
    refine x_topi (y := xs (5 * t + 1)) (by rw [nI_clamp (by omega)]) ?_
    refine x_topi ea0.symm ?_
    refine lv_aload_n hx hb dL_law_594 rfl (lv_at hl 1 rfl) ?_
    refine lv_iload hx hb dL_law_595 (lv_at hl 5 rfl) ?_
    refine lv_iconst (v := nI 2) hx hb dL_law_597 (by decide) ?_
    refine x_addN hx hb dL_law_598 ?_
    refine va_sld hx hb hX hbl hbA h.2.2.1 (vp_in_nI (by omega) (by omega)) dL_law_599 ?_
    refine x_topi (y := xs (5 * t + 2)) (by rw [nI_clamp (by omega)]) ?_
    refine x_topi ea1.symm ?_
    refine cl_L_112 C h (hM 30 (by decide)) rfl hc8 ⟨Nat.le_of_ble_eq_true rfl, Nat.le_of_ble_eq_true rfl⟩ ⟨by show _ ≤ 601024; omega, by show _ ≤ 7293034; omega⟩ hl.1 (Nat.le_of_ble_eq_true rfl) dL_law_600 (fun rb u2 H locs hp2 h => ?_)
    obtain ⟨hth, hrb, hgl, hI2⟩ := hpb rb u2 hp2
    refine lv_istore (lv' := [(6, .int rb), (5, .int (nI 0)), (0, .ref b), (1, .ref (ad 0)), (2, .ref (ad 30)), (3, .ref (ad 90)), (4, .int (nI (5 * t)))]) hx hb dL_law_603 hl (by decide) rfl (fun ls hl => ?_)
    refine lv_aload_n hx hb dL_law_605 rfl (lv_at hl 4 rfl) ?_
    refine cl_L_87 C h (hM 30 (by decide)) rfl (c_X8_thrown l D cy ad Ls u2 hM) ⟨Nat.le_of_ble_eq_true rfl, Nat.le_of_ble_eq_true rfl⟩ ⟨by show _ ≤ 601024; omega, by show _ ≤ 7293034; omega⟩ hl.1 (Nat.le_of_ble_eq_true rfl) dL_law_606 (fun r3 u3 H locs hp3 h => ?_)
    obtain ⟨er3, eu3⟩ := hp3; rw [eu3] at h; refine x_topi (er3.trans hth) ?_
    refine lv_iload hx hb dL_law_609 (lv_at hl 1 rfl) ?_
    refine lv_icmp_eq (tgt := 616) hx hb dL_law_611 (by decide) (fun _ => ?_) (fun q9 => absurd rfl q9)
    refine lv_iload hx hb dL_law_616 (lv_at hl 1 rfl) ?_
    refine x_ifN_ne (tgt := 633) hx hb dL_law_618 (by decide) (by decide) (fun q9 => absurd rfl q9) (fun _ => ?_)
    refine lv_aload_n hx hb dL_law_621 rfl (lv_at hl 5 rfl) ?_
    refine lv_iconst (v := nI 0) hx hb dL_law_622 (by decide) ?_
    refine x_lald C h h90 rfl rfl dL_law_623 ?_
    refine x_topl hgl ?_
    refine lv_iload hx hb dL_law_624 (lv_at hl 0 rfl) ?_
    refine lv_i2l hx hb dL_law_626 rfl ?_
    refine x_lcmp hx hb dL_law_627 (fun r4 h4 => ?_)
    refine lv_if_eq (tgt := 633) hx hb dL_law_628 (by decide) (fun _ => ?_) (fun q9 => absurd (h4.trans (lg_cmp_0.mpr (by rw [hrb]))) q9)
    refine lv_goto (tgt := 1361) hx hb dL_law_633 (by decide) ?_
    exact W.widen (k := cells + 10) (n := slots + 600) (by omega) (by omega) (kk ad Ls _ H locs ls h hI2 (lv_sub hl [2, 3, 4, 5, 6] rfl))

set_option maxHeartbeats 4000000 in
set_option maxRecDepth 100000 in
theorem k_line {p : Program} {e : Env} {s : State} {m : MethodId} {below : List Frame} {meth : Method} {c : Code} (l : Launch) {D : va_G} {cy : Nat → ClassId} {ad : Nat → Nat} {Ls : List Nat} {st : XS} {H : Heap} {locs : List Loc} {cells slots : Nat} {Q : State → Prop} {b L : Nat} {xs : Nat → Int32} {LI : Nat → List Nat → XS → Prop} (C : xCx p m c code 7 s #[Value.ref b] RL D cy) (hX : va_X b L xs s s.heap) (hbl : b < s.heap.size) (hLI : LIok LI) (hS : ∀ (a0 : Int32) (a1 : Int32) (a2 : Int32), SI l D cy LI yX7_line cX7_line 4 .int 8 4 24 [eIOB, eIAE, eISE] yX8_line cX8_line 5 .int 2 [.int a0, .int a1, .int a2]) (h : xH D cy ad Ls (lwA s) s st H locs) (t : Nat) (hI : LI t Ls st) (ht : 5 * t + 5 ≤ L) (hL : L ≤ 2560) (hcs : cells + 10 ≤ 601024 ∧ slots + 600 ≤ 7293034) {ls : Array Slot} (hl : lv_has ls 7 (lwL b ad t)) (kk : LK p l e s m below meth c D cy LI b t cells slots Q) : W p l e room_1 s m #[Value.ref b] below meth c H locs cells slots Q (F0 m 636 ls []) := by
  have hx := C.1; have hb := C.2.1
  have hbA : ¬ lwA s b := Nat.not_le.mpr hbl
  have hl : lv_has ls 7 [(0, .ref b), (1, .ref (ad 0)), (2, .ref (ad 30)), (3, .ref (ad 90)), (4, .int (nI (5 * t)))] := hl
  obtain ⟨hxC, h90, hM, _⟩ := hLI _ _ _ hI
  have ht512 : t < 512 := by omega
  obtain ⟨a0, ea0⟩ : ∃ z, z = xs (5 * t + 1) := ⟨_, rfl⟩
  obtain ⟨a1, ea1⟩ : ∃ z, z = xs (5 * t + 2) := ⟨_, rfl⟩
  obtain ⟨a2, ea2⟩ : ∃ z, z = xs (5 * t + 3) := ⟨_, rfl⟩
  obtain ⟨K, post, hc7, hB, hG⟩ := hS a0 a1 a2 t ad Ls st ht512 hI
  refine lv_aload_n hx hb dL_law_636 rfl (lv_at hl 1 rfl) ?_
  refine lv_aload_n hx hb dL_law_637 rfl (lv_at hl 0 rfl) ?_
  refine lv_iload hx hb dL_law_638 (lv_at hl 4 rfl) ?_
  refine lv_iconst (v := nI 1) hx hb dL_law_640 (by decide) ?_
  refine x_addN hx hb dL_law_641 ?_
  refine va_sld hx hb hX hbl hbA h.2.2.1 (vp_in_nI (by omega) (by omega)) dL_law_642 ?_
  refine x_topi (y := xs (5 * t + 1)) (by rw [nI_clamp (by omega)]) ?_
  refine x_topi ea0.symm ?_
  refine lv_aload_n hx hb dL_law_643 rfl (lv_at hl 0 rfl) ?_
  refine lv_iload hx hb dL_law_644 (lv_at hl 4 rfl) ?_
  refine lv_iconst (v := nI 2) hx hb dL_law_646 (by decide) ?_
  refine x_addN hx hb dL_law_647 ?_
  refine va_sld hx hb hX hbl hbA h.2.2.1 (vp_in_nI (by omega) (by omega)) dL_law_648 ?_
  refine x_topi (y := xs (5 * t + 2)) (by rw [nI_clamp (by omega)]) ?_
  refine x_topi ea1.symm ?_
  refine lv_aload_n hx hb dL_law_649 rfl (lv_at hl 0 rfl) ?_
  refine lv_iload hx hb dL_law_650 (lv_at hl 4 rfl) ?_
  refine lv_iconst (v := nI 3) hx hb dL_law_652 (by decide) ?_
  refine x_addN hx hb dL_law_653 ?_
  refine va_sld hx hb hX hbl hbA h.2.2.1 (vp_in_nI (by omega) (by omega)) dL_law_654 ?_
  refine x_topi (y := xs (5 * t + 3)) (by rw [nI_clamp (by omega)]) ?_
  refine x_topi ea2.symm ?_
  refine lv_aload_n hx hb dL_law_655 rfl (lv_at hl 3 rfl) ?_
  refine x_rSW C h (w_line l D cy ad Ls st (hxC 0 rfl) h90 a0 a1 a2 K hc7) rfl tb682 tb683 tb69 tw_line (na := 5) rfl (by decide +kernel) ⟨Nat.le_of_ble_eq_true rfl, Nat.le_of_ble_eq_true rfl⟩ (by decide) ⟨by show _ ≤ 601024; omega, by show _ ≤ 7293034; omega⟩ hl.1 rfl (Nat.le_of_ble_eq_true rfl) dL_law_656 (fun r u H locs hp h => ?_)
  rcases hp with ⟨j, hj, hK, hr, hu⟩ | ⟨hr, r1, u1, hp1, hu⟩
  · subst hu; subst hr; change xH D cy ad Ls (lwA s) s st H locs at h
    obtain ⟨pb, hc8, hpb⟩ := hB (by omega)
    refine lv_istore (lv' := [(5, .int (nI K)), (0, .ref b), (1, .ref (ad 0)), (2, .ref (ad 30)), (3, .ref (ad 90)), (4, .int (nI (5 * t)))]) hx hb dL_law_659 hl (by decide) rfl (fun ls hl => ?_)
    refine lv_aload_n hx hb dL_law_661 rfl (lv_at hl 3 rfl) ?_
    refine lv_aload_n hx hb dL_law_662 rfl (lv_at hl 1 rfl) ?_
    refine lv_iload hx hb dL_law_663 (lv_at hl 5 rfl) ?_
    refine lv_iconst (v := nI 1) hx hb dL_law_665 (by decide) ?_
    refine x_addN hx hb dL_law_666 ?_
    refine va_sld hx hb hX hbl hbA h.2.2.1 (vp_in_nI (by omega) (by omega)) dL_law_667 ?_
    refine x_topi (y := xs (5 * t + 1)) (by rw [nI_clamp (by omega)]) ?_
    refine x_topi ea0.symm ?_
    refine lv_aload_n hx hb dL_law_668 rfl (lv_at hl 1 rfl) ?_
    refine lv_iload hx hb dL_law_669 (lv_at hl 5 rfl) ?_
    refine lv_iconst (v := nI 2) hx hb dL_law_671 (by decide) ?_
    refine x_addN hx hb dL_law_672 ?_
    refine va_sld hx hb hX hbl hbA h.2.2.1 (vp_in_nI (by omega) (by omega)) dL_law_673 ?_
    refine x_topi (y := xs (5 * t + 2)) (by rw [nI_clamp (by omega)]) ?_
    refine x_topi ea1.symm ?_
    refine lv_aload_n hx hb dL_law_674 rfl (lv_at hl 1 rfl) ?_
    refine lv_iload hx hb dL_law_675 (lv_at hl 5 rfl) ?_
    refine lv_iconst (v := nI 3) hx hb dL_law_677 (by decide) ?_
    refine x_addN hx hb dL_law_678 ?_
    refine va_sld hx hb hX hbl hbA h.2.2.1 (vp_in_nI (by omega) (by omega)) dL_law_679 ?_
    refine x_topi (y := xs (5 * t + 3)) (by rw [nI_clamp (by omega)]) ?_
    refine x_topi ea2.symm ?_
    refine cl_L_115 C h (hM 30 (by decide)) rfl hc8 ⟨Nat.le_of_ble_eq_true rfl, Nat.le_of_ble_eq_true rfl⟩ ⟨by show _ ≤ 601024; omega, by show _ ≤ 7293034; omega⟩ hl.1 (Nat.le_of_ble_eq_true rfl) dL_law_680 (fun rb u2 H locs hp2 h => ?_)
    obtain ⟨hth, hI2⟩ := hpb rb u2 hp2
    refine lv_istore (lv' := [(6, .int rb), (5, .int (nI K)), (0, .ref b), (1, .ref (ad 0)), (2, .ref (ad 30)), (3, .ref (ad 90)), (4, .int (nI (5 * t)))]) hx hb dL_law_683 hl (by decide) rfl (fun ls hl => ?_)
    refine lv_aload_n hx hb dL_law_685 rfl (lv_at hl 4 rfl) ?_
    refine cl_L_87 C h (hM 30 (by decide)) rfl (c_X8_thrown l D cy ad Ls u2 hM) ⟨Nat.le_of_ble_eq_true rfl, Nat.le_of_ble_eq_true rfl⟩ ⟨by show _ ≤ 601024; omega, by show _ ≤ 7293034; omega⟩ hl.1 (Nat.le_of_ble_eq_true rfl) dL_law_686 (fun r3 u3 H locs hp3 h => ?_)
    obtain ⟨er3, eu3⟩ := hp3; rw [eu3] at h; refine x_topi (er3.trans hth) ?_
    refine lv_iload hx hb dL_law_689 (lv_at hl 1 rfl) ?_
    refine lv_icmp_eq (tgt := 696) hx hb dL_law_691 (by decide) (fun _ => ?_) (fun q9 => absurd rfl q9)
    refine lv_iload hx hb dL_law_696 (lv_at hl 1 rfl) ?_
    refine x_ifN_ne (tgt := 713) hx hb dL_law_698 (by decide) (by omega) (fun _ => ?_) (fun q9 => absurd q9 (by omega))
    refine lv_goto (tgt := 1361) hx hb dL_law_713 (by decide) ?_
    exact W.widen (k := cells + 10) (n := slots + 600) (by omega) (by omega) (kk ad Ls _ H locs ls h hI2 (lv_sub hl [2, 3, 4, 5, 6] rfl))
  · subst hu; subst hr; obtain ⟨hK0, hG2⟩ := hG r1 u1 hp1
    obtain ⟨pb, hc8, hpb⟩ := hG2 _ rfl
    change xH D cy ad Ls (lwA s) s (sl u1 0 90 r1.toInt64) H locs at h
    refine lv_istore (lv' := [(5, .int (nI 0)), (0, .ref b), (1, .ref (ad 0)), (2, .ref (ad 30)), (3, .ref (ad 90)), (4, .int (nI (5 * t)))]) hx hb dL_law_659 hl (by decide) rfl (fun ls hl => ?_)
    refine lv_aload_n hx hb dL_law_661 rfl (lv_at hl 3 rfl) ?_
    refine lv_aload_n hx hb dL_law_662 rfl (lv_at hl 1 rfl) ?_
    refine lv_iload hx hb dL_law_663 (lv_at hl 5 rfl) ?_
    refine lv_iconst (v := nI 1) hx hb dL_law_665 (by decide) ?_
    refine x_addN hx hb dL_law_666 ?_
    refine va_sld hx hb hX hbl hbA h.2.2.1 (vp_in_nI (by omega) (by omega)) dL_law_667 ?_
    refine x_topi (y := xs (5 * t + 1)) (by rw [nI_clamp (by omega)]) ?_
    refine x_topi ea0.symm ?_
    refine lv_aload_n hx hb dL_law_668 rfl (lv_at hl 1 rfl) ?_
    refine lv_iload hx hb dL_law_669 (lv_at hl 5 rfl) ?_
    refine lv_iconst (v := nI 2) hx hb dL_law_671 (by decide) ?_
    refine x_addN hx hb dL_law_672 ?_
    refine va_sld hx hb hX hbl hbA h.2.2.1 (vp_in_nI (by omega) (by omega)) dL_law_673 ?_
    refine x_topi (y := xs (5 * t + 2)) (by rw [nI_clamp (by omega)]) ?_
    refine x_topi ea1.symm ?_
    refine lv_aload_n hx hb dL_law_674 rfl (lv_at hl 1 rfl) ?_
    refine lv_iload hx hb dL_law_675 (lv_at hl 5 rfl) ?_
    refine lv_iconst (v := nI 3) hx hb dL_law_677 (by decide) ?_
    refine x_addN hx hb dL_law_678 ?_
    refine va_sld hx hb hX hbl hbA h.2.2.1 (vp_in_nI (by omega) (by omega)) dL_law_679 ?_
    refine x_topi (y := xs (5 * t + 3)) (by rw [nI_clamp (by omega)]) ?_
    refine x_topi ea2.symm ?_
    refine cl_L_115 C h (hM 30 (by decide)) rfl hc8 ⟨Nat.le_of_ble_eq_true rfl, Nat.le_of_ble_eq_true rfl⟩ ⟨by show _ ≤ 601024; omega, by show _ ≤ 7293034; omega⟩ hl.1 (Nat.le_of_ble_eq_true rfl) dL_law_680 (fun rb u2 H locs hp2 h => ?_)
    obtain ⟨hth, hrb, hgl, hI2⟩ := hpb rb u2 hp2
    refine lv_istore (lv' := [(6, .int rb), (5, .int (nI 0)), (0, .ref b), (1, .ref (ad 0)), (2, .ref (ad 30)), (3, .ref (ad 90)), (4, .int (nI (5 * t)))]) hx hb dL_law_683 hl (by decide) rfl (fun ls hl => ?_)
    refine lv_aload_n hx hb dL_law_685 rfl (lv_at hl 4 rfl) ?_
    refine cl_L_87 C h (hM 30 (by decide)) rfl (c_X8_thrown l D cy ad Ls u2 hM) ⟨Nat.le_of_ble_eq_true rfl, Nat.le_of_ble_eq_true rfl⟩ ⟨by show _ ≤ 601024; omega, by show _ ≤ 7293034; omega⟩ hl.1 (Nat.le_of_ble_eq_true rfl) dL_law_686 (fun r3 u3 H locs hp3 h => ?_)
    obtain ⟨er3, eu3⟩ := hp3; rw [eu3] at h; refine x_topi (er3.trans hth) ?_
    refine lv_iload hx hb dL_law_689 (lv_at hl 1 rfl) ?_
    refine lv_icmp_eq (tgt := 696) hx hb dL_law_691 (by decide) (fun _ => ?_) (fun q9 => absurd rfl q9)
    refine lv_iload hx hb dL_law_696 (lv_at hl 1 rfl) ?_
    refine x_ifN_ne (tgt := 713) hx hb dL_law_698 (by decide) (by decide) (fun q9 => absurd rfl q9) (fun _ => ?_)
    refine lv_aload_n hx hb dL_law_701 rfl (lv_at hl 5 rfl) ?_
    refine lv_iconst (v := nI 0) hx hb dL_law_702 (by decide) ?_
    refine x_lald C h h90 rfl rfl dL_law_703 ?_
    refine x_topl hgl ?_
    refine lv_iload hx hb dL_law_704 (lv_at hl 0 rfl) ?_
    refine lv_i2l hx hb dL_law_706 rfl ?_
    refine x_lcmp hx hb dL_law_707 (fun r4 h4 => ?_)
    refine lv_if_eq (tgt := 713) hx hb dL_law_708 (by decide) (fun _ => ?_) (fun q9 => absurd (h4.trans (lg_cmp_0.mpr (by rw [hrb]))) q9)
    refine lv_goto (tgt := 1361) hx hb dL_law_713 (by decide) ?_
    exact W.widen (k := cells + 10) (n := slots + 600) (by omega) (by omega) (kk ad Ls _ H locs ls h hI2 (lv_sub hl [2, 3, 4, 5, 6] rfl))

set_option maxHeartbeats 4000000 in
set_option maxRecDepth 100000 in
theorem k_strike {p : Program} {e : Env} {s : State} {m : MethodId} {below : List Frame} {meth : Method} {c : Code} (l : Launch) {D : va_G} {cy : Nat → ClassId} {ad : Nat → Nat} {Ls : List Nat} {st : XS} {H : Heap} {locs : List Loc} {cells slots : Nat} {Q : State → Prop} {b L : Nat} {xs : Nat → Int32} {LI : Nat → List Nat → XS → Prop} (C : xCx p m c code 7 s #[Value.ref b] RL D cy) (hX : va_X b L xs s s.heap) (hbl : b < s.heap.size) (hLI : LIok LI) (hS : ∀ (a0 : Int32), SI l D cy LI yX7_strike cX7_strike 2 .int 8 4 24 [eIOB] yX8_strike cX8_strike 3 .int 1 [.int a0]) (h : xH D cy ad Ls (lwA s) s st H locs) (t : Nat) (hI : LI t Ls st) (ht : 5 * t + 5 ≤ L) (hL : L ≤ 2560) (hcs : cells + 10 ≤ 601024 ∧ slots + 600 ≤ 7293034) {ls : Array Slot} (hl : lv_has ls 7 (lwL b ad t)) (kk : LK p l e s m below meth c D cy LI b t cells slots Q) : W p l e room_1 s m #[Value.ref b] below meth c H locs cells slots Q (F0 m 716 ls []) := by
  have hx := C.1; have hb := C.2.1
  have hbA : ¬ lwA s b := Nat.not_le.mpr hbl
  have hl : lv_has ls 7 [(0, .ref b), (1, .ref (ad 0)), (2, .ref (ad 30)), (3, .ref (ad 90)), (4, .int (nI (5 * t)))] := hl
  obtain ⟨hxC, h90, hM, _⟩ := hLI _ _ _ hI
  have ht512 : t < 512 := by omega
  obtain ⟨a0, ea0⟩ : ∃ z, z = xs (5 * t + 1) := ⟨_, rfl⟩
  obtain ⟨K, post, hc7, hB, hG⟩ := hS a0 t ad Ls st ht512 hI
  refine lv_aload_n hx hb dL_law_716 rfl (lv_at hl 1 rfl) ?_
  refine lv_aload_n hx hb dL_law_717 rfl (lv_at hl 0 rfl) ?_
  refine lv_iload hx hb dL_law_718 (lv_at hl 4 rfl) ?_
  refine lv_iconst (v := nI 1) hx hb dL_law_720 (by decide) ?_
  refine x_addN hx hb dL_law_721 ?_
  refine va_sld hx hb hX hbl hbA h.2.2.1 (vp_in_nI (by omega) (by omega)) dL_law_722 ?_
  refine x_topi (y := xs (5 * t + 1)) (by rw [nI_clamp (by omega)]) ?_
  refine x_topi ea0.symm ?_
  refine lv_aload_n hx hb dL_law_723 rfl (lv_at hl 3 rfl) ?_
  refine x_rSW C h (w_strike l D cy ad Ls st (hxC 0 rfl) h90 a0 K hc7) rfl tb696 tb697 tb69 tw_strike (na := 3) rfl (by decide +kernel) ⟨Nat.le_of_ble_eq_true rfl, Nat.le_of_ble_eq_true rfl⟩ (by decide) ⟨by show _ ≤ 601024; omega, by show _ ≤ 7293034; omega⟩ hl.1 rfl (Nat.le_of_ble_eq_true rfl) dL_law_724 (fun r u H locs hp h => ?_)
  rcases hp with ⟨j, hj, hK, hr, hu⟩ | ⟨hr, r1, u1, hp1, hu⟩
  · subst hu; subst hr; change xH D cy ad Ls (lwA s) s st H locs at h
    obtain ⟨pb, hc8, hpb⟩ := hB (by omega)
    refine lv_istore (lv' := [(5, .int (nI K)), (0, .ref b), (1, .ref (ad 0)), (2, .ref (ad 30)), (3, .ref (ad 90)), (4, .int (nI (5 * t)))]) hx hb dL_law_727 hl (by decide) rfl (fun ls hl => ?_)
    refine lv_aload_n hx hb dL_law_729 rfl (lv_at hl 3 rfl) ?_
    refine lv_aload_n hx hb dL_law_730 rfl (lv_at hl 1 rfl) ?_
    refine lv_iload hx hb dL_law_731 (lv_at hl 5 rfl) ?_
    refine lv_iconst (v := nI 1) hx hb dL_law_733 (by decide) ?_
    refine x_addN hx hb dL_law_734 ?_
    refine va_sld hx hb hX hbl hbA h.2.2.1 (vp_in_nI (by omega) (by omega)) dL_law_735 ?_
    refine x_topi (y := xs (5 * t + 1)) (by rw [nI_clamp (by omega)]) ?_
    refine x_topi ea0.symm ?_
    refine cl_L_118 C h (hM 30 (by decide)) rfl hc8 ⟨Nat.le_of_ble_eq_true rfl, Nat.le_of_ble_eq_true rfl⟩ ⟨by show _ ≤ 601024; omega, by show _ ≤ 7293034; omega⟩ hl.1 (Nat.le_of_ble_eq_true rfl) dL_law_736 (fun rb u2 H locs hp2 h => ?_)
    obtain ⟨hth, hI2⟩ := hpb rb u2 hp2
    refine lv_istore (lv' := [(6, .int rb), (5, .int (nI K)), (0, .ref b), (1, .ref (ad 0)), (2, .ref (ad 30)), (3, .ref (ad 90)), (4, .int (nI (5 * t)))]) hx hb dL_law_739 hl (by decide) rfl (fun ls hl => ?_)
    refine lv_aload_n hx hb dL_law_741 rfl (lv_at hl 4 rfl) ?_
    refine cl_L_87 C h (hM 30 (by decide)) rfl (c_X8_thrown l D cy ad Ls u2 hM) ⟨Nat.le_of_ble_eq_true rfl, Nat.le_of_ble_eq_true rfl⟩ ⟨by show _ ≤ 601024; omega, by show _ ≤ 7293034; omega⟩ hl.1 (Nat.le_of_ble_eq_true rfl) dL_law_742 (fun r3 u3 H locs hp3 h => ?_)
    obtain ⟨er3, eu3⟩ := hp3; rw [eu3] at h; refine x_topi (er3.trans hth) ?_
    refine lv_iload hx hb dL_law_745 (lv_at hl 1 rfl) ?_
    refine lv_icmp_eq (tgt := 752) hx hb dL_law_747 (by decide) (fun _ => ?_) (fun q9 => absurd rfl q9)
    refine lv_iload hx hb dL_law_752 (lv_at hl 1 rfl) ?_
    refine x_ifN_ne (tgt := 769) hx hb dL_law_754 (by decide) (by omega) (fun _ => ?_) (fun q9 => absurd q9 (by omega))
    refine lv_goto (tgt := 1361) hx hb dL_law_769 (by decide) ?_
    exact W.widen (k := cells + 10) (n := slots + 600) (by omega) (by omega) (kk ad Ls _ H locs ls h hI2 (lv_sub hl [2, 3, 4, 5, 6] rfl))
  · subst hu; subst hr; obtain ⟨hK0, hG2⟩ := hG r1 u1 hp1
    obtain ⟨pb, hc8, hpb⟩ := hG2 _ rfl
    change xH D cy ad Ls (lwA s) s (sl u1 0 90 r1.toInt64) H locs at h
    refine lv_istore (lv' := [(5, .int (nI 0)), (0, .ref b), (1, .ref (ad 0)), (2, .ref (ad 30)), (3, .ref (ad 90)), (4, .int (nI (5 * t)))]) hx hb dL_law_727 hl (by decide) rfl (fun ls hl => ?_)
    refine lv_aload_n hx hb dL_law_729 rfl (lv_at hl 3 rfl) ?_
    refine lv_aload_n hx hb dL_law_730 rfl (lv_at hl 1 rfl) ?_
    refine lv_iload hx hb dL_law_731 (lv_at hl 5 rfl) ?_
    refine lv_iconst (v := nI 1) hx hb dL_law_733 (by decide) ?_
    refine x_addN hx hb dL_law_734 ?_
    refine va_sld hx hb hX hbl hbA h.2.2.1 (vp_in_nI (by omega) (by omega)) dL_law_735 ?_
    refine x_topi (y := xs (5 * t + 1)) (by rw [nI_clamp (by omega)]) ?_
    refine x_topi ea0.symm ?_
    refine cl_L_118 C h (hM 30 (by decide)) rfl hc8 ⟨Nat.le_of_ble_eq_true rfl, Nat.le_of_ble_eq_true rfl⟩ ⟨by show _ ≤ 601024; omega, by show _ ≤ 7293034; omega⟩ hl.1 (Nat.le_of_ble_eq_true rfl) dL_law_736 (fun rb u2 H locs hp2 h => ?_)
    obtain ⟨hth, hrb, hgl, hI2⟩ := hpb rb u2 hp2
    refine lv_istore (lv' := [(6, .int rb), (5, .int (nI 0)), (0, .ref b), (1, .ref (ad 0)), (2, .ref (ad 30)), (3, .ref (ad 90)), (4, .int (nI (5 * t)))]) hx hb dL_law_739 hl (by decide) rfl (fun ls hl => ?_)
    refine lv_aload_n hx hb dL_law_741 rfl (lv_at hl 4 rfl) ?_
    refine cl_L_87 C h (hM 30 (by decide)) rfl (c_X8_thrown l D cy ad Ls u2 hM) ⟨Nat.le_of_ble_eq_true rfl, Nat.le_of_ble_eq_true rfl⟩ ⟨by show _ ≤ 601024; omega, by show _ ≤ 7293034; omega⟩ hl.1 (Nat.le_of_ble_eq_true rfl) dL_law_742 (fun r3 u3 H locs hp3 h => ?_)
    obtain ⟨er3, eu3⟩ := hp3; rw [eu3] at h; refine x_topi (er3.trans hth) ?_
    refine lv_iload hx hb dL_law_745 (lv_at hl 1 rfl) ?_
    refine lv_icmp_eq (tgt := 752) hx hb dL_law_747 (by decide) (fun _ => ?_) (fun q9 => absurd rfl q9)
    refine lv_iload hx hb dL_law_752 (lv_at hl 1 rfl) ?_
    refine x_ifN_ne (tgt := 769) hx hb dL_law_754 (by decide) (by decide) (fun q9 => absurd rfl q9) (fun _ => ?_)
    refine lv_aload_n hx hb dL_law_757 rfl (lv_at hl 5 rfl) ?_
    refine lv_iconst (v := nI 0) hx hb dL_law_758 (by decide) ?_
    refine x_lald C h h90 rfl rfl dL_law_759 ?_
    refine x_topl hgl ?_
    refine lv_iload hx hb dL_law_760 (lv_at hl 0 rfl) ?_
    refine lv_i2l hx hb dL_law_762 rfl ?_
    refine x_lcmp hx hb dL_law_763 (fun r4 h4 => ?_)
    refine lv_if_eq (tgt := 769) hx hb dL_law_764 (by decide) (fun _ => ?_) (fun q9 => absurd (h4.trans (lg_cmp_0.mpr (by rw [hrb]))) q9)
    refine lv_goto (tgt := 1361) hx hb dL_law_769 (by decide) ?_
    exact W.widen (k := cells + 10) (n := slots + 600) (by omega) (by omega) (kk ad Ls _ H locs ls h hI2 (lv_sub hl [2, 3, 4, 5, 6] rfl))

set_option maxHeartbeats 4000000 in
set_option maxRecDepth 100000 in
theorem k_make {p : Program} {e : Env} {s : State} {m : MethodId} {below : List Frame} {meth : Method} {c : Code} (l : Launch) {D : va_G} {cy : Nat → ClassId} {ad : Nat → Nat} {Ls : List Nat} {st : XS} {H : Heap} {locs : List Loc} {cells slots : Nat} {Q : State → Prop} {b L : Nat} {xs : Nat → Int32} {LI : Nat → List Nat → XS → Prop} (C : xCx p m c code 7 s #[Value.ref b] RL D cy) (hX : va_X b L xs s s.heap) (hbl : b < s.heap.size) (hLI : LIok LI) (hS : ∀ (a0 : Int32), SG l D cy LI yX7_make cX7_make 4 .int 8 10 80 [eIOB, eISE] yX8_make cX8_make 5 .int 3 [.int a0]) (h : xH D cy ad Ls (lwA s) s st H locs) (t : Nat) (hI : LI t Ls st) (ht : 5 * t + 5 ≤ L) (hL : L ≤ 2560) (hcs : cells + 10 ≤ 601024 ∧ slots + 600 ≤ 7293034) {ls : Array Slot} (hl : lv_has ls 7 (lwL b ad t)) (kk : LK p l e s m below meth c D cy LI b t cells slots Q) : W p l e room_1 s m #[Value.ref b] below meth c H locs cells slots Q (F0 m 772 ls []) := by
  have hx := C.1; have hb := C.2.1
  have hbA : ¬ lwA s b := Nat.not_le.mpr hbl
  have hl : lv_has ls 7 [(0, .ref b), (1, .ref (ad 0)), (2, .ref (ad 30)), (3, .ref (ad 90)), (4, .int (nI (5 * t)))] := hl
  obtain ⟨hxC, h90, hM, _⟩ := hLI _ _ _ hI
  have ht512 : t < 512 := by omega
  obtain ⟨a0, ea0⟩ : ∃ z, z = xs (5 * t + 1) := ⟨_, rfl⟩
  obtain ⟨K, post, hc7, _, hB, hG⟩ := hS a0 t ad Ls st ht512 hI
  refine lv_aload_n hx hb dL_law_772 rfl (lv_at hl 1 rfl) ?_
  refine lv_aload_n hx hb dL_law_773 rfl (lv_at hl 0 rfl) ?_
  refine lv_iload hx hb dL_law_774 (lv_at hl 4 rfl) ?_
  refine lv_iconst (v := nI 1) hx hb dL_law_776 (by decide) ?_
  refine x_addN hx hb dL_law_777 ?_
  refine va_sld hx hb hX hbl hbA h.2.2.1 (vp_in_nI (by omega) (by omega)) dL_law_778 ?_
  refine x_topi (y := xs (5 * t + 1)) (by rw [nI_clamp (by omega)]) ?_
  refine x_topi ea0.symm ?_
  refine lv_aload_n hx hb dL_law_779 rfl (lv_at hl 3 rfl) ?_
  refine x_rSW C h (w_make l D cy ad Ls st (hxC 0 rfl) h90 a0 K hc7 (fun r u hp => ⟨(hG r u hp).2.2.2.1, (hG r u hp).2.2.2.2.1 _ h90⟩)) rfl tb713 tb714 tb69 tw_make (na := 3) rfl (by decide +kernel) ⟨Nat.le_of_ble_eq_true rfl, Nat.le_of_ble_eq_true rfl⟩ (by decide) ⟨by show _ ≤ 601024; omega, by show _ ≤ 7293034; omega⟩ hl.1 rfl (Nat.le_of_ble_eq_true rfl) dL_law_780 (fun r u H locs hp h => ?_)
  rcases hp with ⟨j, hj, hK, hr, hu⟩ | ⟨hr, r1, u1, hp1, hu⟩
  · subst hu; subst hr; change xH D cy ad Ls (lwA s) s st H locs at h
    obtain ⟨pb, hc8, hpb⟩ := hB (by omega)
    refine lv_istore (lv' := [(5, .int (nI K)), (0, .ref b), (1, .ref (ad 0)), (2, .ref (ad 30)), (3, .ref (ad 90)), (4, .int (nI (5 * t)))]) hx hb dL_law_783 hl (by decide) rfl (fun ls hl => ?_)
    refine lv_aload_n hx hb dL_law_785 rfl (lv_at hl 3 rfl) ?_
    refine lv_aload_n hx hb dL_law_786 rfl (lv_at hl 1 rfl) ?_
    refine lv_iload hx hb dL_law_787 (lv_at hl 5 rfl) ?_
    refine lv_iconst (v := nI 1) hx hb dL_law_789 (by decide) ?_
    refine x_addN hx hb dL_law_790 ?_
    refine va_sld hx hb hX hbl hbA h.2.2.1 (vp_in_nI (by omega) (by omega)) dL_law_791 ?_
    refine x_topi (y := xs (5 * t + 1)) (by rw [nI_clamp (by omega)]) ?_
    refine x_topi ea0.symm ?_
    refine cl_L_121 C h (hM 30 (by decide)) rfl hc8 ⟨Nat.le_of_ble_eq_true rfl, Nat.le_of_ble_eq_true rfl⟩ ⟨by show _ ≤ 601024; omega, by show _ ≤ 7293034; omega⟩ hl.1 (Nat.le_of_ble_eq_true rfl) dL_law_792 (fun rb u2 H locs hp2 h => ?_)
    obtain ⟨hth, hI2⟩ := hpb rb u2 hp2
    refine lv_istore (lv' := [(6, .int rb), (5, .int (nI K)), (0, .ref b), (1, .ref (ad 0)), (2, .ref (ad 30)), (3, .ref (ad 90)), (4, .int (nI (5 * t)))]) hx hb dL_law_795 hl (by decide) rfl (fun ls hl => ?_)
    refine lv_aload_n hx hb dL_law_797 rfl (lv_at hl 4 rfl) ?_
    refine cl_L_87 C h (hM 30 (by decide)) rfl (c_X8_thrown l D cy ad Ls u2 hM) ⟨Nat.le_of_ble_eq_true rfl, Nat.le_of_ble_eq_true rfl⟩ ⟨by show _ ≤ 601024; omega, by show _ ≤ 7293034; omega⟩ hl.1 (Nat.le_of_ble_eq_true rfl) dL_law_798 (fun r3 u3 H locs hp3 h => ?_)
    obtain ⟨er3, eu3⟩ := hp3; rw [eu3] at h; refine x_topi (er3.trans hth) ?_
    refine lv_iload hx hb dL_law_801 (lv_at hl 1 rfl) ?_
    refine lv_icmp_eq (tgt := 808) hx hb dL_law_803 (by decide) (fun _ => ?_) (fun q9 => absurd rfl q9)
    refine lv_iload hx hb dL_law_808 (lv_at hl 1 rfl) ?_
    refine x_ifN_ne (tgt := 825) hx hb dL_law_810 (by decide) (by omega) (fun _ => ?_) (fun q9 => absurd q9 (by omega))
    refine lv_goto (tgt := 1361) hx hb dL_law_825 (by decide) ?_
    exact W.widen (k := cells + 10) (n := slots + 600) (by omega) (by omega) (kk ad Ls _ H locs ls h hI2 (lv_sub hl [2, 3, 4, 5, 6] rfl))
  · subst hu; subst hr; obtain ⟨hK0, g0, g30, g90, gsub, hG2⟩ := hG r1 u1 hp1
    obtain ⟨pb, hc8, hpb⟩ := hG2 _ rfl
    change xH D cy u1.2.1 u1.2.2 (lwA s) s (sl u1.1 0 90 r1.toInt64) H locs at h
    replace hl : lv_has ls 7 [(0, .ref b), (1, .ref (u1.2.1 0)), (2, .ref (u1.2.1 30)), (3, .ref (u1.2.1 90)), (4, .int (nI (5 * t)))] := by rw [g0, g30, g90]; exact hl
    have hM : ∀ k, k ∈ LsM → k ∈ u1.2.2 := fun k hk => gsub k (hM k hk)
    have h90 := gsub _ h90
    refine lv_istore (lv' := [(5, .int (nI 0)), (0, .ref b), (1, .ref (u1.2.1 0)), (2, .ref (u1.2.1 30)), (3, .ref (u1.2.1 90)), (4, .int (nI (5 * t)))]) hx hb dL_law_783 hl (by decide) rfl (fun ls hl => ?_)
    refine lv_aload_n hx hb dL_law_785 rfl (lv_at hl 3 rfl) ?_
    refine lv_aload_n hx hb dL_law_786 rfl (lv_at hl 1 rfl) ?_
    refine lv_iload hx hb dL_law_787 (lv_at hl 5 rfl) ?_
    refine lv_iconst (v := nI 1) hx hb dL_law_789 (by decide) ?_
    refine x_addN hx hb dL_law_790 ?_
    refine va_sld hx hb hX hbl hbA h.2.2.1 (vp_in_nI (by omega) (by omega)) dL_law_791 ?_
    refine x_topi (y := xs (5 * t + 1)) (by rw [nI_clamp (by omega)]) ?_
    refine x_topi ea0.symm ?_
    refine cl_L_121 C h (hM 30 (by decide)) rfl hc8 ⟨Nat.le_of_ble_eq_true rfl, Nat.le_of_ble_eq_true rfl⟩ ⟨by show _ ≤ 601024; omega, by show _ ≤ 7293034; omega⟩ hl.1 (Nat.le_of_ble_eq_true rfl) dL_law_792 (fun rb u2 H locs hp2 h => ?_)
    obtain ⟨hth, hrb, hgl, hI2⟩ := hpb rb u2 hp2
    refine lv_istore (lv' := [(6, .int rb), (5, .int (nI 0)), (0, .ref b), (1, .ref (u1.2.1 0)), (2, .ref (u1.2.1 30)), (3, .ref (u1.2.1 90)), (4, .int (nI (5 * t)))]) hx hb dL_law_795 hl (by decide) rfl (fun ls hl => ?_)
    refine lv_aload_n hx hb dL_law_797 rfl (lv_at hl 4 rfl) ?_
    refine cl_L_87 C h (hM 30 (by decide)) rfl (c_X8_thrown l D cy u1.2.1 u1.2.2 u2 hM) ⟨Nat.le_of_ble_eq_true rfl, Nat.le_of_ble_eq_true rfl⟩ ⟨by show _ ≤ 601024; omega, by show _ ≤ 7293034; omega⟩ hl.1 (Nat.le_of_ble_eq_true rfl) dL_law_798 (fun r3 u3 H locs hp3 h => ?_)
    obtain ⟨er3, eu3⟩ := hp3; rw [eu3] at h; refine x_topi (er3.trans hth) ?_
    refine lv_iload hx hb dL_law_801 (lv_at hl 1 rfl) ?_
    refine lv_icmp_eq (tgt := 808) hx hb dL_law_803 (by decide) (fun _ => ?_) (fun q9 => absurd rfl q9)
    refine lv_iload hx hb dL_law_808 (lv_at hl 1 rfl) ?_
    refine x_ifN_ne (tgt := 825) hx hb dL_law_810 (by decide) (by decide) (fun q9 => absurd rfl q9) (fun _ => ?_)
    refine lv_aload_n hx hb dL_law_813 rfl (lv_at hl 5 rfl) ?_
    refine lv_iconst (v := nI 0) hx hb dL_law_814 (by decide) ?_
    refine x_lald C h h90 rfl rfl dL_law_815 ?_
    refine x_topl hgl ?_
    refine lv_iload hx hb dL_law_816 (lv_at hl 0 rfl) ?_
    refine lv_i2l hx hb dL_law_818 rfl ?_
    refine x_lcmp hx hb dL_law_819 (fun r4 h4 => ?_)
    refine lv_if_eq (tgt := 825) hx hb dL_law_820 (by decide) (fun _ => ?_) (fun q9 => absurd (h4.trans (lg_cmp_0.mpr (by rw [hrb]))) q9)
    refine lv_goto (tgt := 1361) hx hb dL_law_825 (by decide) ?_
    exact W.widen (k := cells + 10) (n := slots + 600) (by omega) (by omega) (kk u1.2.1 u1.2.2 _ H locs ls h hI2 (lv_sub hl [2, 3, 4, 5, 6] rfl))

set_option maxHeartbeats 4000000 in
set_option maxRecDepth 100000 in
theorem k_invoice {p : Program} {e : Env} {s : State} {m : MethodId} {below : List Frame} {meth : Method} {c : Code} (l : Launch) {D : va_G} {cy : Nat → ClassId} {ad : Nat → Nat} {Ls : List Nat} {st : XS} {H : Heap} {locs : List Loc} {cells slots : Nat} {Q : State → Prop} {b L : Nat} {xs : Nat → Int32} {LI : Nat → List Nat → XS → Prop} (C : xCx p m c code 7 s #[Value.ref b] RL D cy) (hX : va_X b L xs s s.heap) (hbl : b < s.heap.size) (hLI : LIok LI) (hS : ∀ (a0 : Int32) (a1 : Int32), SI l D cy LI yX7_invoice cX7_invoice 4 .int 8 4 24 [eIOB, eIAE] yX8_invoice cX8_invoice 3 .int 2 [.int a0, .int a1]) (h : xH D cy ad Ls (lwA s) s st H locs) (t : Nat) (hI : LI t Ls st) (ht : 5 * t + 5 ≤ L) (hL : L ≤ 2560) (hcs : cells + 10 ≤ 601024 ∧ slots + 600 ≤ 7293034) {ls : Array Slot} (hl : lv_has ls 7 (lwL b ad t)) (kk : LK p l e s m below meth c D cy LI b t cells slots Q) : W p l e room_1 s m #[Value.ref b] below meth c H locs cells slots Q (F0 m 828 ls []) := by
  have hx := C.1; have hb := C.2.1
  have hbA : ¬ lwA s b := Nat.not_le.mpr hbl
  have hl : lv_has ls 7 [(0, .ref b), (1, .ref (ad 0)), (2, .ref (ad 30)), (3, .ref (ad 90)), (4, .int (nI (5 * t)))] := hl
  obtain ⟨hxC, h90, hM, _⟩ := hLI _ _ _ hI
  have ht512 : t < 512 := by omega
  obtain ⟨a0, ea0⟩ : ∃ z, z = xs (5 * t + 1) := ⟨_, rfl⟩
  obtain ⟨a1, ea1⟩ : ∃ z, z = xs (5 * t + 2) := ⟨_, rfl⟩
  obtain ⟨K, post, hc7, hB, hG⟩ := hS a0 a1 t ad Ls st ht512 hI
  refine lv_aload_n hx hb dL_law_828 rfl (lv_at hl 1 rfl) ?_
  refine lv_aload_n hx hb dL_law_829 rfl (lv_at hl 0 rfl) ?_
  refine lv_iload hx hb dL_law_830 (lv_at hl 4 rfl) ?_
  refine lv_iconst (v := nI 1) hx hb dL_law_832 (by decide) ?_
  refine x_addN hx hb dL_law_833 ?_
  refine va_sld hx hb hX hbl hbA h.2.2.1 (vp_in_nI (by omega) (by omega)) dL_law_834 ?_
  refine x_topi (y := xs (5 * t + 1)) (by rw [nI_clamp (by omega)]) ?_
  refine x_topi ea0.symm ?_
  refine lv_aload_n hx hb dL_law_835 rfl (lv_at hl 0 rfl) ?_
  refine lv_iload hx hb dL_law_836 (lv_at hl 4 rfl) ?_
  refine lv_iconst (v := nI 2) hx hb dL_law_838 (by decide) ?_
  refine x_addN hx hb dL_law_839 ?_
  refine va_sld hx hb hX hbl hbA h.2.2.1 (vp_in_nI (by omega) (by omega)) dL_law_840 ?_
  refine x_topi (y := xs (5 * t + 2)) (by rw [nI_clamp (by omega)]) ?_
  refine x_topi ea1.symm ?_
  refine lv_aload_n hx hb dL_law_841 rfl (lv_at hl 3 rfl) ?_
  refine x_rSW C h (w_invoice l D cy ad Ls st (hxC 0 rfl) h90 a0 a1 K hc7) rfl tb757 tb758 tb69 tw_invoice (na := 4) rfl (by decide +kernel) ⟨Nat.le_of_ble_eq_true rfl, Nat.le_of_ble_eq_true rfl⟩ (by decide) ⟨by show _ ≤ 601024; omega, by show _ ≤ 7293034; omega⟩ hl.1 rfl (Nat.le_of_ble_eq_true rfl) dL_law_842 (fun r u H locs hp h => ?_)
  rcases hp with ⟨j, hj, hK, hr, hu⟩ | ⟨hr, r1, u1, hp1, hu⟩
  · subst hu; subst hr; change xH D cy ad Ls (lwA s) s st H locs at h
    obtain ⟨pb, hc8, hpb⟩ := hB (by omega)
    refine lv_istore (lv' := [(5, .int (nI K)), (0, .ref b), (1, .ref (ad 0)), (2, .ref (ad 30)), (3, .ref (ad 90)), (4, .int (nI (5 * t)))]) hx hb dL_law_845 hl (by decide) rfl (fun ls hl => ?_)
    refine lv_aload_n hx hb dL_law_847 rfl (lv_at hl 3 rfl) ?_
    refine lv_aload_n hx hb dL_law_848 rfl (lv_at hl 1 rfl) ?_
    refine lv_iload hx hb dL_law_849 (lv_at hl 5 rfl) ?_
    refine lv_iconst (v := nI 1) hx hb dL_law_851 (by decide) ?_
    refine x_addN hx hb dL_law_852 ?_
    refine va_sld hx hb hX hbl hbA h.2.2.1 (vp_in_nI (by omega) (by omega)) dL_law_853 ?_
    refine x_topi (y := xs (5 * t + 1)) (by rw [nI_clamp (by omega)]) ?_
    refine x_topi ea0.symm ?_
    refine lv_aload_n hx hb dL_law_854 rfl (lv_at hl 1 rfl) ?_
    refine lv_iload hx hb dL_law_855 (lv_at hl 5 rfl) ?_
    refine lv_iconst (v := nI 2) hx hb dL_law_857 (by decide) ?_
    refine x_addN hx hb dL_law_858 ?_
    refine va_sld hx hb hX hbl hbA h.2.2.1 (vp_in_nI (by omega) (by omega)) dL_law_859 ?_
    refine x_topi (y := xs (5 * t + 2)) (by rw [nI_clamp (by omega)]) ?_
    refine x_topi ea1.symm ?_
    refine cl_L_124 C h (hM 30 (by decide)) rfl hc8 ⟨Nat.le_of_ble_eq_true rfl, Nat.le_of_ble_eq_true rfl⟩ ⟨by show _ ≤ 601024; omega, by show _ ≤ 7293034; omega⟩ hl.1 (Nat.le_of_ble_eq_true rfl) dL_law_860 (fun rb u2 H locs hp2 h => ?_)
    obtain ⟨hth, hI2⟩ := hpb rb u2 hp2
    refine lv_istore (lv' := [(6, .int rb), (5, .int (nI K)), (0, .ref b), (1, .ref (ad 0)), (2, .ref (ad 30)), (3, .ref (ad 90)), (4, .int (nI (5 * t)))]) hx hb dL_law_863 hl (by decide) rfl (fun ls hl => ?_)
    refine lv_aload_n hx hb dL_law_865 rfl (lv_at hl 4 rfl) ?_
    refine cl_L_87 C h (hM 30 (by decide)) rfl (c_X8_thrown l D cy ad Ls u2 hM) ⟨Nat.le_of_ble_eq_true rfl, Nat.le_of_ble_eq_true rfl⟩ ⟨by show _ ≤ 601024; omega, by show _ ≤ 7293034; omega⟩ hl.1 (Nat.le_of_ble_eq_true rfl) dL_law_866 (fun r3 u3 H locs hp3 h => ?_)
    obtain ⟨er3, eu3⟩ := hp3; rw [eu3] at h; refine x_topi (er3.trans hth) ?_
    refine lv_iload hx hb dL_law_869 (lv_at hl 1 rfl) ?_
    refine lv_icmp_eq (tgt := 876) hx hb dL_law_871 (by decide) (fun _ => ?_) (fun q9 => absurd rfl q9)
    refine lv_iload hx hb dL_law_876 (lv_at hl 1 rfl) ?_
    refine x_ifN_ne (tgt := 893) hx hb dL_law_878 (by decide) (by omega) (fun _ => ?_) (fun q9 => absurd q9 (by omega))
    refine lv_goto (tgt := 1361) hx hb dL_law_893 (by decide) ?_
    exact W.widen (k := cells + 10) (n := slots + 600) (by omega) (by omega) (kk ad Ls _ H locs ls h hI2 (lv_sub hl [2, 3, 4, 5, 6] rfl))
  · subst hu; subst hr; obtain ⟨hK0, hG2⟩ := hG r1 u1 hp1
    obtain ⟨pb, hc8, hpb⟩ := hG2 _ rfl
    change xH D cy ad Ls (lwA s) s (sl u1 0 90 r1.toInt64) H locs at h
    refine lv_istore (lv' := [(5, .int (nI 0)), (0, .ref b), (1, .ref (ad 0)), (2, .ref (ad 30)), (3, .ref (ad 90)), (4, .int (nI (5 * t)))]) hx hb dL_law_845 hl (by decide) rfl (fun ls hl => ?_)
    refine lv_aload_n hx hb dL_law_847 rfl (lv_at hl 3 rfl) ?_
    refine lv_aload_n hx hb dL_law_848 rfl (lv_at hl 1 rfl) ?_
    refine lv_iload hx hb dL_law_849 (lv_at hl 5 rfl) ?_
    refine lv_iconst (v := nI 1) hx hb dL_law_851 (by decide) ?_
    refine x_addN hx hb dL_law_852 ?_
    refine va_sld hx hb hX hbl hbA h.2.2.1 (vp_in_nI (by omega) (by omega)) dL_law_853 ?_
    refine x_topi (y := xs (5 * t + 1)) (by rw [nI_clamp (by omega)]) ?_
    refine x_topi ea0.symm ?_
    refine lv_aload_n hx hb dL_law_854 rfl (lv_at hl 1 rfl) ?_
    refine lv_iload hx hb dL_law_855 (lv_at hl 5 rfl) ?_
    refine lv_iconst (v := nI 2) hx hb dL_law_857 (by decide) ?_
    refine x_addN hx hb dL_law_858 ?_
    refine va_sld hx hb hX hbl hbA h.2.2.1 (vp_in_nI (by omega) (by omega)) dL_law_859 ?_
    refine x_topi (y := xs (5 * t + 2)) (by rw [nI_clamp (by omega)]) ?_
    refine x_topi ea1.symm ?_
    refine cl_L_124 C h (hM 30 (by decide)) rfl hc8 ⟨Nat.le_of_ble_eq_true rfl, Nat.le_of_ble_eq_true rfl⟩ ⟨by show _ ≤ 601024; omega, by show _ ≤ 7293034; omega⟩ hl.1 (Nat.le_of_ble_eq_true rfl) dL_law_860 (fun rb u2 H locs hp2 h => ?_)
    obtain ⟨hth, hrb, hgl, hI2⟩ := hpb rb u2 hp2
    refine lv_istore (lv' := [(6, .int rb), (5, .int (nI 0)), (0, .ref b), (1, .ref (ad 0)), (2, .ref (ad 30)), (3, .ref (ad 90)), (4, .int (nI (5 * t)))]) hx hb dL_law_863 hl (by decide) rfl (fun ls hl => ?_)
    refine lv_aload_n hx hb dL_law_865 rfl (lv_at hl 4 rfl) ?_
    refine cl_L_87 C h (hM 30 (by decide)) rfl (c_X8_thrown l D cy ad Ls u2 hM) ⟨Nat.le_of_ble_eq_true rfl, Nat.le_of_ble_eq_true rfl⟩ ⟨by show _ ≤ 601024; omega, by show _ ≤ 7293034; omega⟩ hl.1 (Nat.le_of_ble_eq_true rfl) dL_law_866 (fun r3 u3 H locs hp3 h => ?_)
    obtain ⟨er3, eu3⟩ := hp3; rw [eu3] at h; refine x_topi (er3.trans hth) ?_
    refine lv_iload hx hb dL_law_869 (lv_at hl 1 rfl) ?_
    refine lv_icmp_eq (tgt := 876) hx hb dL_law_871 (by decide) (fun _ => ?_) (fun q9 => absurd rfl q9)
    refine lv_iload hx hb dL_law_876 (lv_at hl 1 rfl) ?_
    refine x_ifN_ne (tgt := 893) hx hb dL_law_878 (by decide) (by decide) (fun q9 => absurd rfl q9) (fun _ => ?_)
    refine lv_aload_n hx hb dL_law_881 rfl (lv_at hl 5 rfl) ?_
    refine lv_iconst (v := nI 0) hx hb dL_law_882 (by decide) ?_
    refine x_lald C h h90 rfl rfl dL_law_883 ?_
    refine x_topl hgl ?_
    refine lv_iload hx hb dL_law_884 (lv_at hl 0 rfl) ?_
    refine lv_i2l hx hb dL_law_886 rfl ?_
    refine x_lcmp hx hb dL_law_887 (fun r4 h4 => ?_)
    refine lv_if_eq (tgt := 893) hx hb dL_law_888 (by decide) (fun _ => ?_) (fun q9 => absurd (h4.trans (lg_cmp_0.mpr (by rw [hrb]))) q9)
    refine lv_goto (tgt := 1361) hx hb dL_law_893 (by decide) ?_
    exact W.widen (k := cells + 10) (n := slots + 600) (by omega) (by omega) (kk ad Ls _ H locs ls h hI2 (lv_sub hl [2, 3, 4, 5, 6] rfl))

set_option maxHeartbeats 4000000 in
set_option maxRecDepth 100000 in
theorem k_taxAnew {p : Program} {e : Env} {s : State} {m : MethodId} {below : List Frame} {meth : Method} {c : Code} (l : Launch) {D : va_G} {cy : Nat → ClassId} {ad : Nat → Nat} {Ls : List Nat} {st : XS} {H : Heap} {locs : List Loc} {cells slots : Nat} {Q : State → Prop} {b L : Nat} {xs : Nat → Int32} {LI : Nat → List Nat → XS → Prop} (C : xCx p m c code 7 s #[Value.ref b] RL D cy) (hX : va_X b L xs s s.heap) (hbl : b < s.heap.size) (hLI : LIok LI) (hS : ∀ (a0 : Int32), SI l D cy LI yX7_taxAnew cX7_taxAnew 2 .int 8 4 24 [eIOB] yX8_taxAnew cX8_taxAnew 2 .int 3 [.int a0]) (h : xH D cy ad Ls (lwA s) s st H locs) (t : Nat) (hI : LI t Ls st) (ht : 5 * t + 5 ≤ L) (hL : L ≤ 2560) (hcs : cells + 10 ≤ 601024 ∧ slots + 600 ≤ 7293034) {ls : Array Slot} (hl : lv_has ls 7 (lwL b ad t)) (kk : LK p l e s m below meth c D cy LI b t cells slots Q) : W p l e room_1 s m #[Value.ref b] below meth c H locs cells slots Q (F0 m 896 ls []) := by
  have hx := C.1; have hb := C.2.1
  have hbA : ¬ lwA s b := Nat.not_le.mpr hbl
  have hl : lv_has ls 7 [(0, .ref b), (1, .ref (ad 0)), (2, .ref (ad 30)), (3, .ref (ad 90)), (4, .int (nI (5 * t)))] := hl
  obtain ⟨hxC, h90, hM, _⟩ := hLI _ _ _ hI
  have ht512 : t < 512 := by omega
  obtain ⟨a0, ea0⟩ : ∃ z, z = xs (5 * t + 1) := ⟨_, rfl⟩
  obtain ⟨K, post, hc7, hB, hG⟩ := hS a0 t ad Ls st ht512 hI
  refine lv_aload_n hx hb dL_law_896 rfl (lv_at hl 1 rfl) ?_
  refine lv_aload_n hx hb dL_law_897 rfl (lv_at hl 0 rfl) ?_
  refine lv_iload hx hb dL_law_898 (lv_at hl 4 rfl) ?_
  refine lv_iconst (v := nI 1) hx hb dL_law_900 (by decide) ?_
  refine x_addN hx hb dL_law_901 ?_
  refine va_sld hx hb hX hbl hbA h.2.2.1 (vp_in_nI (by omega) (by omega)) dL_law_902 ?_
  refine x_topi (y := xs (5 * t + 1)) (by rw [nI_clamp (by omega)]) ?_
  refine x_topi ea0.symm ?_
  refine lv_aload_n hx hb dL_law_903 rfl (lv_at hl 3 rfl) ?_
  refine x_rSW C h (w_taxAnew l D cy ad Ls st (hxC 0 rfl) h90 a0 K hc7) rfl tb778 tb779 tb69 tw_taxAnew (na := 3) rfl (by decide +kernel) ⟨Nat.le_of_ble_eq_true rfl, Nat.le_of_ble_eq_true rfl⟩ (by decide) ⟨by show _ ≤ 601024; omega, by show _ ≤ 7293034; omega⟩ hl.1 rfl (Nat.le_of_ble_eq_true rfl) dL_law_904 (fun r u H locs hp h => ?_)
  rcases hp with ⟨j, hj, hK, hr, hu⟩ | ⟨hr, r1, u1, hp1, hu⟩
  · subst hu; subst hr; change xH D cy ad Ls (lwA s) s st H locs at h
    obtain ⟨pb, hc8, hpb⟩ := hB (by omega)
    refine lv_istore (lv' := [(5, .int (nI K)), (0, .ref b), (1, .ref (ad 0)), (2, .ref (ad 30)), (3, .ref (ad 90)), (4, .int (nI (5 * t)))]) hx hb dL_law_907 hl (by decide) rfl (fun ls hl => ?_)
    refine lv_aload_n hx hb dL_law_909 rfl (lv_at hl 3 rfl) ?_
    refine lv_aload_n hx hb dL_law_910 rfl (lv_at hl 1 rfl) ?_
    refine lv_iload hx hb dL_law_911 (lv_at hl 5 rfl) ?_
    refine lv_iconst (v := nI 1) hx hb dL_law_913 (by decide) ?_
    refine x_addN hx hb dL_law_914 ?_
    refine va_sld hx hb hX hbl hbA h.2.2.1 (vp_in_nI (by omega) (by omega)) dL_law_915 ?_
    refine x_topi (y := xs (5 * t + 1)) (by rw [nI_clamp (by omega)]) ?_
    refine x_topi ea0.symm ?_
    refine cl_L_127 C h (hM 30 (by decide)) rfl hc8 ⟨Nat.le_of_ble_eq_true rfl, Nat.le_of_ble_eq_true rfl⟩ ⟨by show _ ≤ 601024; omega, by show _ ≤ 7293034; omega⟩ hl.1 (Nat.le_of_ble_eq_true rfl) dL_law_916 (fun rb u2 H locs hp2 h => ?_)
    obtain ⟨hth, hI2⟩ := hpb rb u2 hp2
    refine lv_istore (lv' := [(6, .int rb), (5, .int (nI K)), (0, .ref b), (1, .ref (ad 0)), (2, .ref (ad 30)), (3, .ref (ad 90)), (4, .int (nI (5 * t)))]) hx hb dL_law_919 hl (by decide) rfl (fun ls hl => ?_)
    refine lv_aload_n hx hb dL_law_921 rfl (lv_at hl 4 rfl) ?_
    refine cl_L_87 C h (hM 30 (by decide)) rfl (c_X8_thrown l D cy ad Ls u2 hM) ⟨Nat.le_of_ble_eq_true rfl, Nat.le_of_ble_eq_true rfl⟩ ⟨by show _ ≤ 601024; omega, by show _ ≤ 7293034; omega⟩ hl.1 (Nat.le_of_ble_eq_true rfl) dL_law_922 (fun r3 u3 H locs hp3 h => ?_)
    obtain ⟨er3, eu3⟩ := hp3; rw [eu3] at h; refine x_topi (er3.trans hth) ?_
    refine lv_iload hx hb dL_law_925 (lv_at hl 1 rfl) ?_
    refine lv_icmp_eq (tgt := 932) hx hb dL_law_927 (by decide) (fun _ => ?_) (fun q9 => absurd rfl q9)
    refine lv_iload hx hb dL_law_932 (lv_at hl 1 rfl) ?_
    refine x_ifN_ne (tgt := 949) hx hb dL_law_934 (by decide) (by omega) (fun _ => ?_) (fun q9 => absurd q9 (by omega))
    refine lv_goto (tgt := 1361) hx hb dL_law_949 (by decide) ?_
    exact W.widen (k := cells + 10) (n := slots + 600) (by omega) (by omega) (kk ad Ls _ H locs ls h hI2 (lv_sub hl [2, 3, 4, 5, 6] rfl))
  · subst hu; subst hr; obtain ⟨hK0, hG2⟩ := hG r1 u1 hp1
    obtain ⟨pb, hc8, hpb⟩ := hG2 _ rfl
    change xH D cy ad Ls (lwA s) s (sl u1 0 90 r1.toInt64) H locs at h
    refine lv_istore (lv' := [(5, .int (nI 0)), (0, .ref b), (1, .ref (ad 0)), (2, .ref (ad 30)), (3, .ref (ad 90)), (4, .int (nI (5 * t)))]) hx hb dL_law_907 hl (by decide) rfl (fun ls hl => ?_)
    refine lv_aload_n hx hb dL_law_909 rfl (lv_at hl 3 rfl) ?_
    refine lv_aload_n hx hb dL_law_910 rfl (lv_at hl 1 rfl) ?_
    refine lv_iload hx hb dL_law_911 (lv_at hl 5 rfl) ?_
    refine lv_iconst (v := nI 1) hx hb dL_law_913 (by decide) ?_
    refine x_addN hx hb dL_law_914 ?_
    refine va_sld hx hb hX hbl hbA h.2.2.1 (vp_in_nI (by omega) (by omega)) dL_law_915 ?_
    refine x_topi (y := xs (5 * t + 1)) (by rw [nI_clamp (by omega)]) ?_
    refine x_topi ea0.symm ?_
    refine cl_L_127 C h (hM 30 (by decide)) rfl hc8 ⟨Nat.le_of_ble_eq_true rfl, Nat.le_of_ble_eq_true rfl⟩ ⟨by show _ ≤ 601024; omega, by show _ ≤ 7293034; omega⟩ hl.1 (Nat.le_of_ble_eq_true rfl) dL_law_916 (fun rb u2 H locs hp2 h => ?_)
    obtain ⟨hth, hrb, hgl, hI2⟩ := hpb rb u2 hp2
    refine lv_istore (lv' := [(6, .int rb), (5, .int (nI 0)), (0, .ref b), (1, .ref (ad 0)), (2, .ref (ad 30)), (3, .ref (ad 90)), (4, .int (nI (5 * t)))]) hx hb dL_law_919 hl (by decide) rfl (fun ls hl => ?_)
    refine lv_aload_n hx hb dL_law_921 rfl (lv_at hl 4 rfl) ?_
    refine cl_L_87 C h (hM 30 (by decide)) rfl (c_X8_thrown l D cy ad Ls u2 hM) ⟨Nat.le_of_ble_eq_true rfl, Nat.le_of_ble_eq_true rfl⟩ ⟨by show _ ≤ 601024; omega, by show _ ≤ 7293034; omega⟩ hl.1 (Nat.le_of_ble_eq_true rfl) dL_law_922 (fun r3 u3 H locs hp3 h => ?_)
    obtain ⟨er3, eu3⟩ := hp3; rw [eu3] at h; refine x_topi (er3.trans hth) ?_
    refine lv_iload hx hb dL_law_925 (lv_at hl 1 rfl) ?_
    refine lv_icmp_eq (tgt := 932) hx hb dL_law_927 (by decide) (fun _ => ?_) (fun q9 => absurd rfl q9)
    refine lv_iload hx hb dL_law_932 (lv_at hl 1 rfl) ?_
    refine x_ifN_ne (tgt := 949) hx hb dL_law_934 (by decide) (by decide) (fun q9 => absurd rfl q9) (fun _ => ?_)
    refine lv_aload_n hx hb dL_law_937 rfl (lv_at hl 5 rfl) ?_
    refine lv_iconst (v := nI 0) hx hb dL_law_938 (by decide) ?_
    refine x_lald C h h90 rfl rfl dL_law_939 ?_
    refine x_topl hgl ?_
    refine lv_iload hx hb dL_law_940 (lv_at hl 0 rfl) ?_
    refine lv_i2l hx hb dL_law_942 rfl ?_
    refine x_lcmp hx hb dL_law_943 (fun r4 h4 => ?_)
    refine lv_if_eq (tgt := 949) hx hb dL_law_944 (by decide) (fun _ => ?_) (fun q9 => absurd (h4.trans (lg_cmp_0.mpr (by rw [hrb]))) q9)
    refine lv_goto (tgt := 1361) hx hb dL_law_949 (by decide) ?_
    exact W.widen (k := cells + 10) (n := slots + 600) (by omega) (by omega) (kk ad Ls _ H locs ls h hI2 (lv_sub hl [2, 3, 4, 5, 6] rfl))

set_option maxHeartbeats 4000000 in
set_option maxRecDepth 100000 in
theorem k_used {p : Program} {e : Env} {s : State} {m : MethodId} {below : List Frame} {meth : Method} {c : Code} (l : Launch) {D : va_G} {cy : Nat → ClassId} {ad : Nat → Nat} {Ls : List Nat} {st : XS} {H : Heap} {locs : List Loc} {cells slots : Nat} {Q : State → Prop} {b L : Nat} {xs : Nat → Int32} {LI : Nat → List Nat → XS → Prop} (C : xCx p m c code 7 s #[Value.ref b] RL D cy) (hX : va_X b L xs s s.heap) (hbl : b < s.heap.size) (hLI : LIok LI) (hS : ∀ (a0 : Int32) (a1 : Int32), SI l D cy LI yX7_used cX7_used 4 .int 8 4 24 [eIOB] yX8_used cX8_used 3 .int 2 [.int a0, .int a1]) (h : xH D cy ad Ls (lwA s) s st H locs) (t : Nat) (hI : LI t Ls st) (ht : 5 * t + 5 ≤ L) (hL : L ≤ 2560) (hcs : cells + 10 ≤ 601024 ∧ slots + 600 ≤ 7293034) {ls : Array Slot} (hl : lv_has ls 7 (lwL b ad t)) (kk : LK p l e s m below meth c D cy LI b t cells slots Q) : W p l e room_1 s m #[Value.ref b] below meth c H locs cells slots Q (F0 m 952 ls []) := by
  have hx := C.1; have hb := C.2.1
  have hbA : ¬ lwA s b := Nat.not_le.mpr hbl
  have hl : lv_has ls 7 [(0, .ref b), (1, .ref (ad 0)), (2, .ref (ad 30)), (3, .ref (ad 90)), (4, .int (nI (5 * t)))] := hl
  obtain ⟨hxC, h90, hM, _⟩ := hLI _ _ _ hI
  have ht512 : t < 512 := by omega
  obtain ⟨a0, ea0⟩ : ∃ z, z = xs (5 * t + 1) := ⟨_, rfl⟩
  obtain ⟨a1, ea1⟩ : ∃ z, z = xs (5 * t + 2) := ⟨_, rfl⟩
  obtain ⟨K, post, hc7, hB, hG⟩ := hS a0 a1 t ad Ls st ht512 hI
  refine lv_aload_n hx hb dL_law_952 rfl (lv_at hl 1 rfl) ?_
  refine lv_aload_n hx hb dL_law_953 rfl (lv_at hl 0 rfl) ?_
  refine lv_iload hx hb dL_law_954 (lv_at hl 4 rfl) ?_
  refine lv_iconst (v := nI 1) hx hb dL_law_956 (by decide) ?_
  refine x_addN hx hb dL_law_957 ?_
  refine va_sld hx hb hX hbl hbA h.2.2.1 (vp_in_nI (by omega) (by omega)) dL_law_958 ?_
  refine x_topi (y := xs (5 * t + 1)) (by rw [nI_clamp (by omega)]) ?_
  refine x_topi ea0.symm ?_
  refine lv_aload_n hx hb dL_law_959 rfl (lv_at hl 0 rfl) ?_
  refine lv_iload hx hb dL_law_960 (lv_at hl 4 rfl) ?_
  refine lv_iconst (v := nI 2) hx hb dL_law_962 (by decide) ?_
  refine x_addN hx hb dL_law_963 ?_
  refine va_sld hx hb hX hbl hbA h.2.2.1 (vp_in_nI (by omega) (by omega)) dL_law_964 ?_
  refine x_topi (y := xs (5 * t + 2)) (by rw [nI_clamp (by omega)]) ?_
  refine x_topi ea1.symm ?_
  refine lv_aload_n hx hb dL_law_965 rfl (lv_at hl 3 rfl) ?_
  refine x_rSW C h (w_used l D cy ad Ls st (hxC 0 rfl) h90 a0 a1 K hc7) rfl tb789 tb790 tb69 tw_used (na := 4) rfl (by decide +kernel) ⟨Nat.le_of_ble_eq_true rfl, Nat.le_of_ble_eq_true rfl⟩ (by decide) ⟨by show _ ≤ 601024; omega, by show _ ≤ 7293034; omega⟩ hl.1 rfl (Nat.le_of_ble_eq_true rfl) dL_law_966 (fun r u H locs hp h => ?_)
  rcases hp with ⟨j, hj, hK, hr, hu⟩ | ⟨hr, r1, u1, hp1, hu⟩
  · subst hu; subst hr; change xH D cy ad Ls (lwA s) s st H locs at h
    obtain ⟨pb, hc8, hpb⟩ := hB (by omega)
    refine lv_istore (lv' := [(5, .int (nI K)), (0, .ref b), (1, .ref (ad 0)), (2, .ref (ad 30)), (3, .ref (ad 90)), (4, .int (nI (5 * t)))]) hx hb dL_law_969 hl (by decide) rfl (fun ls hl => ?_)
    refine lv_aload_n hx hb dL_law_971 rfl (lv_at hl 3 rfl) ?_
    refine lv_aload_n hx hb dL_law_972 rfl (lv_at hl 1 rfl) ?_
    refine lv_iload hx hb dL_law_973 (lv_at hl 5 rfl) ?_
    refine lv_iconst (v := nI 1) hx hb dL_law_975 (by decide) ?_
    refine x_addN hx hb dL_law_976 ?_
    refine va_sld hx hb hX hbl hbA h.2.2.1 (vp_in_nI (by omega) (by omega)) dL_law_977 ?_
    refine x_topi (y := xs (5 * t + 1)) (by rw [nI_clamp (by omega)]) ?_
    refine x_topi ea0.symm ?_
    refine lv_aload_n hx hb dL_law_978 rfl (lv_at hl 1 rfl) ?_
    refine lv_iload hx hb dL_law_979 (lv_at hl 5 rfl) ?_
    refine lv_iconst (v := nI 2) hx hb dL_law_981 (by decide) ?_
    refine x_addN hx hb dL_law_982 ?_
    refine va_sld hx hb hX hbl hbA h.2.2.1 (vp_in_nI (by omega) (by omega)) dL_law_983 ?_
    refine x_topi (y := xs (5 * t + 2)) (by rw [nI_clamp (by omega)]) ?_
    refine x_topi ea1.symm ?_
    refine cl_L_130 C h (hM 30 (by decide)) rfl hc8 ⟨Nat.le_of_ble_eq_true rfl, Nat.le_of_ble_eq_true rfl⟩ ⟨by show _ ≤ 601024; omega, by show _ ≤ 7293034; omega⟩ hl.1 (Nat.le_of_ble_eq_true rfl) dL_law_984 (fun rb u2 H locs hp2 h => ?_)
    obtain ⟨hth, hI2⟩ := hpb rb u2 hp2
    refine lv_istore (lv' := [(6, .int rb), (5, .int (nI K)), (0, .ref b), (1, .ref (ad 0)), (2, .ref (ad 30)), (3, .ref (ad 90)), (4, .int (nI (5 * t)))]) hx hb dL_law_987 hl (by decide) rfl (fun ls hl => ?_)
    refine lv_aload_n hx hb dL_law_989 rfl (lv_at hl 4 rfl) ?_
    refine cl_L_87 C h (hM 30 (by decide)) rfl (c_X8_thrown l D cy ad Ls u2 hM) ⟨Nat.le_of_ble_eq_true rfl, Nat.le_of_ble_eq_true rfl⟩ ⟨by show _ ≤ 601024; omega, by show _ ≤ 7293034; omega⟩ hl.1 (Nat.le_of_ble_eq_true rfl) dL_law_990 (fun r3 u3 H locs hp3 h => ?_)
    obtain ⟨er3, eu3⟩ := hp3; rw [eu3] at h; refine x_topi (er3.trans hth) ?_
    refine lv_iload hx hb dL_law_993 (lv_at hl 1 rfl) ?_
    refine lv_icmp_eq (tgt := 1000) hx hb dL_law_995 (by decide) (fun _ => ?_) (fun q9 => absurd rfl q9)
    refine lv_iload hx hb dL_law_1000 (lv_at hl 1 rfl) ?_
    refine x_ifN_ne (tgt := 1017) hx hb dL_law_1002 (by decide) (by omega) (fun _ => ?_) (fun q9 => absurd q9 (by omega))
    refine lv_goto (tgt := 1361) hx hb dL_law_1017 (by decide) ?_
    exact W.widen (k := cells + 10) (n := slots + 600) (by omega) (by omega) (kk ad Ls _ H locs ls h hI2 (lv_sub hl [2, 3, 4, 5, 6] rfl))
  · subst hu; subst hr; obtain ⟨hK0, hG2⟩ := hG r1 u1 hp1
    obtain ⟨pb, hc8, hpb⟩ := hG2 _ rfl
    change xH D cy ad Ls (lwA s) s (sl u1 0 90 r1.toInt64) H locs at h
    refine lv_istore (lv' := [(5, .int (nI 0)), (0, .ref b), (1, .ref (ad 0)), (2, .ref (ad 30)), (3, .ref (ad 90)), (4, .int (nI (5 * t)))]) hx hb dL_law_969 hl (by decide) rfl (fun ls hl => ?_)
    refine lv_aload_n hx hb dL_law_971 rfl (lv_at hl 3 rfl) ?_
    refine lv_aload_n hx hb dL_law_972 rfl (lv_at hl 1 rfl) ?_
    refine lv_iload hx hb dL_law_973 (lv_at hl 5 rfl) ?_
    refine lv_iconst (v := nI 1) hx hb dL_law_975 (by decide) ?_
    refine x_addN hx hb dL_law_976 ?_
    refine va_sld hx hb hX hbl hbA h.2.2.1 (vp_in_nI (by omega) (by omega)) dL_law_977 ?_
    refine x_topi (y := xs (5 * t + 1)) (by rw [nI_clamp (by omega)]) ?_
    refine x_topi ea0.symm ?_
    refine lv_aload_n hx hb dL_law_978 rfl (lv_at hl 1 rfl) ?_
    refine lv_iload hx hb dL_law_979 (lv_at hl 5 rfl) ?_
    refine lv_iconst (v := nI 2) hx hb dL_law_981 (by decide) ?_
    refine x_addN hx hb dL_law_982 ?_
    refine va_sld hx hb hX hbl hbA h.2.2.1 (vp_in_nI (by omega) (by omega)) dL_law_983 ?_
    refine x_topi (y := xs (5 * t + 2)) (by rw [nI_clamp (by omega)]) ?_
    refine x_topi ea1.symm ?_
    refine cl_L_130 C h (hM 30 (by decide)) rfl hc8 ⟨Nat.le_of_ble_eq_true rfl, Nat.le_of_ble_eq_true rfl⟩ ⟨by show _ ≤ 601024; omega, by show _ ≤ 7293034; omega⟩ hl.1 (Nat.le_of_ble_eq_true rfl) dL_law_984 (fun rb u2 H locs hp2 h => ?_)
    obtain ⟨hth, hrb, hgl, hI2⟩ := hpb rb u2 hp2
    refine lv_istore (lv' := [(6, .int rb), (5, .int (nI 0)), (0, .ref b), (1, .ref (ad 0)), (2, .ref (ad 30)), (3, .ref (ad 90)), (4, .int (nI (5 * t)))]) hx hb dL_law_987 hl (by decide) rfl (fun ls hl => ?_)
    refine lv_aload_n hx hb dL_law_989 rfl (lv_at hl 4 rfl) ?_
    refine cl_L_87 C h (hM 30 (by decide)) rfl (c_X8_thrown l D cy ad Ls u2 hM) ⟨Nat.le_of_ble_eq_true rfl, Nat.le_of_ble_eq_true rfl⟩ ⟨by show _ ≤ 601024; omega, by show _ ≤ 7293034; omega⟩ hl.1 (Nat.le_of_ble_eq_true rfl) dL_law_990 (fun r3 u3 H locs hp3 h => ?_)
    obtain ⟨er3, eu3⟩ := hp3; rw [eu3] at h; refine x_topi (er3.trans hth) ?_
    refine lv_iload hx hb dL_law_993 (lv_at hl 1 rfl) ?_
    refine lv_icmp_eq (tgt := 1000) hx hb dL_law_995 (by decide) (fun _ => ?_) (fun q9 => absurd rfl q9)
    refine lv_iload hx hb dL_law_1000 (lv_at hl 1 rfl) ?_
    refine x_ifN_ne (tgt := 1017) hx hb dL_law_1002 (by decide) (by decide) (fun q9 => absurd rfl q9) (fun _ => ?_)
    refine lv_aload_n hx hb dL_law_1005 rfl (lv_at hl 5 rfl) ?_
    refine lv_iconst (v := nI 0) hx hb dL_law_1006 (by decide) ?_
    refine x_lald C h h90 rfl rfl dL_law_1007 ?_
    refine x_topl hgl ?_
    refine lv_iload hx hb dL_law_1008 (lv_at hl 0 rfl) ?_
    refine lv_i2l hx hb dL_law_1010 rfl ?_
    refine x_lcmp hx hb dL_law_1011 (fun r4 h4 => ?_)
    refine lv_if_eq (tgt := 1017) hx hb dL_law_1012 (by decide) (fun _ => ?_) (fun q9 => absurd (h4.trans (lg_cmp_0.mpr (by rw [hrb]))) q9)
    refine lv_goto (tgt := 1361) hx hb dL_law_1017 (by decide) ?_
    exact W.widen (k := cells + 10) (n := slots + 600) (by omega) (by omega) (kk ad Ls _ H locs ls h hI2 (lv_sub hl [2, 3, 4, 5, 6] rfl))

set_option maxHeartbeats 4000000 in
set_option maxRecDepth 100000 in
theorem k_written {p : Program} {e : Env} {s : State} {m : MethodId} {below : List Frame} {meth : Method} {c : Code} (l : Launch) {D : va_G} {cy : Nat → ClassId} {ad : Nat → Nat} {Ls : List Nat} {st : XS} {H : Heap} {locs : List Loc} {cells slots : Nat} {Q : State → Prop} {b L : Nat} {xs : Nat → Int32} {LI : Nat → List Nat → XS → Prop} (C : xCx p m c code 7 s #[Value.ref b] RL D cy) (hX : va_X b L xs s s.heap) (hbl : b < s.heap.size) (hLI : LIok LI) (hS : ∀ (a0 : Int32) (a1 : Int32) (a2 : Int32), SI l D cy LI yX7_written cX7_written 6 .char 14 4 24 [eIOB] yX8_written cX8_written 4 .char 7 [.int a0, .int a1, .int a2]) (h : xH D cy ad Ls (lwA s) s st H locs) (t : Nat) (hI : LI t Ls st) (ht : 5 * t + 5 ≤ L) (hL : L ≤ 2560) (hcs : cells + 10 ≤ 601024 ∧ slots + 600 ≤ 7293034) {ls : Array Slot} (hl : lv_has ls 7 (lwL b ad t)) (kk : LK p l e s m below meth c D cy LI b t cells slots Q) : W p l e room_1 s m #[Value.ref b] below meth c H locs cells slots Q (F0 m 1020 ls []) := by
  have hx := C.1; have hb := C.2.1
  have hbA : ¬ lwA s b := Nat.not_le.mpr hbl
  have hl : lv_has ls 7 [(0, .ref b), (1, .ref (ad 0)), (2, .ref (ad 30)), (3, .ref (ad 90)), (4, .int (nI (5 * t)))] := hl
  obtain ⟨hxC, h90, hM, _⟩ := hLI _ _ _ hI
  have ht512 : t < 512 := by omega
  obtain ⟨a0, ea0⟩ : ∃ z, z = xs (5 * t + 1) := ⟨_, rfl⟩
  obtain ⟨a1, ea1⟩ : ∃ z, z = xs (5 * t + 2) := ⟨_, rfl⟩
  obtain ⟨a2, ea2⟩ : ∃ z, z = xs (5 * t + 3) := ⟨_, rfl⟩
  obtain ⟨K, post, hc7, hB, hG⟩ := hS a0 a1 a2 t ad Ls st ht512 hI
  refine lv_aload_n hx hb dL_law_1020 rfl (lv_at hl 1 rfl) ?_
  refine lv_aload_n hx hb dL_law_1021 rfl (lv_at hl 0 rfl) ?_
  refine lv_iload hx hb dL_law_1022 (lv_at hl 4 rfl) ?_
  refine lv_iconst (v := nI 1) hx hb dL_law_1024 (by decide) ?_
  refine x_addN hx hb dL_law_1025 ?_
  refine va_sld hx hb hX hbl hbA h.2.2.1 (vp_in_nI (by omega) (by omega)) dL_law_1026 ?_
  refine x_topi (y := xs (5 * t + 1)) (by rw [nI_clamp (by omega)]) ?_
  refine x_topi ea0.symm ?_
  refine lv_aload_n hx hb dL_law_1027 rfl (lv_at hl 0 rfl) ?_
  refine lv_iload hx hb dL_law_1028 (lv_at hl 4 rfl) ?_
  refine lv_iconst (v := nI 2) hx hb dL_law_1030 (by decide) ?_
  refine x_addN hx hb dL_law_1031 ?_
  refine va_sld hx hb hX hbl hbA h.2.2.1 (vp_in_nI (by omega) (by omega)) dL_law_1032 ?_
  refine x_topi (y := xs (5 * t + 2)) (by rw [nI_clamp (by omega)]) ?_
  refine x_topi ea1.symm ?_
  refine lv_aload_n hx hb dL_law_1033 rfl (lv_at hl 0 rfl) ?_
  refine lv_iload hx hb dL_law_1034 (lv_at hl 4 rfl) ?_
  refine lv_iconst (v := nI 3) hx hb dL_law_1036 (by decide) ?_
  refine x_addN hx hb dL_law_1037 ?_
  refine va_sld hx hb hX hbl hbA h.2.2.1 (vp_in_nI (by omega) (by omega)) dL_law_1038 ?_
  refine x_topi (y := xs (5 * t + 3)) (by rw [nI_clamp (by omega)]) ?_
  refine x_topi ea2.symm ?_
  refine lv_aload_n hx hb dL_law_1039 rfl (lv_at hl 3 rfl) ?_
  refine x_rSW C h (w_written l D cy ad Ls st (hxC 0 rfl) h90 a0 a1 a2 K hc7) rfl tb796 tb797 tb69 tw_written (na := 5) rfl (by decide +kernel) ⟨Nat.le_of_ble_eq_true rfl, Nat.le_of_ble_eq_true rfl⟩ (by decide) ⟨by show _ ≤ 601024; omega, by show _ ≤ 7293034; omega⟩ hl.1 rfl (Nat.le_of_ble_eq_true rfl) dL_law_1040 (fun r u H locs hp h => ?_)
  rcases hp with ⟨j, hj, hK, hr, hu⟩ | ⟨hr, r1, u1, hp1, hu⟩
  · subst hu; subst hr; change xH D cy ad Ls (lwA s) s st H locs at h
    obtain ⟨pb, hc8, hpb⟩ := hB (by omega)
    refine lv_istore (lv' := [(5, .int (nI K)), (0, .ref b), (1, .ref (ad 0)), (2, .ref (ad 30)), (3, .ref (ad 90)), (4, .int (nI (5 * t)))]) hx hb dL_law_1043 hl (by decide) rfl (fun ls hl => ?_)
    refine lv_aload_n hx hb dL_law_1045 rfl (lv_at hl 3 rfl) ?_
    refine lv_aload_n hx hb dL_law_1046 rfl (lv_at hl 1 rfl) ?_
    refine lv_iload hx hb dL_law_1047 (lv_at hl 5 rfl) ?_
    refine lv_iconst (v := nI 1) hx hb dL_law_1049 (by decide) ?_
    refine x_addN hx hb dL_law_1050 ?_
    refine va_sld hx hb hX hbl hbA h.2.2.1 (vp_in_nI (by omega) (by omega)) dL_law_1051 ?_
    refine x_topi (y := xs (5 * t + 1)) (by rw [nI_clamp (by omega)]) ?_
    refine x_topi ea0.symm ?_
    refine lv_aload_n hx hb dL_law_1052 rfl (lv_at hl 1 rfl) ?_
    refine lv_iload hx hb dL_law_1053 (lv_at hl 5 rfl) ?_
    refine lv_iconst (v := nI 2) hx hb dL_law_1055 (by decide) ?_
    refine x_addN hx hb dL_law_1056 ?_
    refine va_sld hx hb hX hbl hbA h.2.2.1 (vp_in_nI (by omega) (by omega)) dL_law_1057 ?_
    refine x_topi (y := xs (5 * t + 2)) (by rw [nI_clamp (by omega)]) ?_
    refine x_topi ea1.symm ?_
    refine lv_aload_n hx hb dL_law_1058 rfl (lv_at hl 1 rfl) ?_
    refine lv_iload hx hb dL_law_1059 (lv_at hl 5 rfl) ?_
    refine lv_iconst (v := nI 3) hx hb dL_law_1061 (by decide) ?_
    refine x_addN hx hb dL_law_1062 ?_
    refine va_sld hx hb hX hbl hbA h.2.2.1 (vp_in_nI (by omega) (by omega)) dL_law_1063 ?_
    refine x_topi (y := xs (5 * t + 3)) (by rw [nI_clamp (by omega)]) ?_
    refine x_topi ea2.symm ?_
    refine cl_L_133 C h (hM 30 (by decide)) rfl hc8 ⟨Nat.le_of_ble_eq_true rfl, Nat.le_of_ble_eq_true rfl⟩ ⟨by show _ ≤ 601024; omega, by show _ ≤ 7293034; omega⟩ hl.1 (Nat.le_of_ble_eq_true rfl) dL_law_1064 (fun rb u2 H locs hp2 h => ?_)
    obtain ⟨hth, hI2⟩ := hpb rb u2 hp2
    refine lv_istore (lv' := [(6, .int rb), (5, .int (nI K)), (0, .ref b), (1, .ref (ad 0)), (2, .ref (ad 30)), (3, .ref (ad 90)), (4, .int (nI (5 * t)))]) hx hb dL_law_1067 hl (by decide) rfl (fun ls hl => ?_)
    refine lv_aload_n hx hb dL_law_1069 rfl (lv_at hl 4 rfl) ?_
    refine cl_L_87 C h (hM 30 (by decide)) rfl (c_X8_thrown l D cy ad Ls u2 hM) ⟨Nat.le_of_ble_eq_true rfl, Nat.le_of_ble_eq_true rfl⟩ ⟨by show _ ≤ 601024; omega, by show _ ≤ 7293034; omega⟩ hl.1 (Nat.le_of_ble_eq_true rfl) dL_law_1070 (fun r3 u3 H locs hp3 h => ?_)
    obtain ⟨er3, eu3⟩ := hp3; rw [eu3] at h; refine x_topi (er3.trans hth) ?_
    refine lv_iload hx hb dL_law_1073 (lv_at hl 1 rfl) ?_
    refine lv_icmp_eq (tgt := 1080) hx hb dL_law_1075 (by decide) (fun _ => ?_) (fun q9 => absurd rfl q9)
    refine lv_iload hx hb dL_law_1080 (lv_at hl 1 rfl) ?_
    refine x_ifN_ne (tgt := 1097) hx hb dL_law_1082 (by decide) (by omega) (fun _ => ?_) (fun q9 => absurd q9 (by omega))
    refine lv_goto (tgt := 1361) hx hb dL_law_1097 (by decide) ?_
    exact W.widen (k := cells + 10) (n := slots + 600) (by omega) (by omega) (kk ad Ls _ H locs ls h hI2 (lv_sub hl [2, 3, 4, 5, 6] rfl))
  · subst hu; subst hr; obtain ⟨hK0, hG2⟩ := hG r1 u1 hp1
    obtain ⟨pb, hc8, hpb⟩ := hG2 _ rfl
    change xH D cy ad Ls (lwA s) s (sl u1 0 90 r1.toInt64) H locs at h
    refine lv_istore (lv' := [(5, .int (nI 0)), (0, .ref b), (1, .ref (ad 0)), (2, .ref (ad 30)), (3, .ref (ad 90)), (4, .int (nI (5 * t)))]) hx hb dL_law_1043 hl (by decide) rfl (fun ls hl => ?_)
    refine lv_aload_n hx hb dL_law_1045 rfl (lv_at hl 3 rfl) ?_
    refine lv_aload_n hx hb dL_law_1046 rfl (lv_at hl 1 rfl) ?_
    refine lv_iload hx hb dL_law_1047 (lv_at hl 5 rfl) ?_
    refine lv_iconst (v := nI 1) hx hb dL_law_1049 (by decide) ?_
    refine x_addN hx hb dL_law_1050 ?_
    refine va_sld hx hb hX hbl hbA h.2.2.1 (vp_in_nI (by omega) (by omega)) dL_law_1051 ?_
    refine x_topi (y := xs (5 * t + 1)) (by rw [nI_clamp (by omega)]) ?_
    refine x_topi ea0.symm ?_
    refine lv_aload_n hx hb dL_law_1052 rfl (lv_at hl 1 rfl) ?_
    refine lv_iload hx hb dL_law_1053 (lv_at hl 5 rfl) ?_
    refine lv_iconst (v := nI 2) hx hb dL_law_1055 (by decide) ?_
    refine x_addN hx hb dL_law_1056 ?_
    refine va_sld hx hb hX hbl hbA h.2.2.1 (vp_in_nI (by omega) (by omega)) dL_law_1057 ?_
    refine x_topi (y := xs (5 * t + 2)) (by rw [nI_clamp (by omega)]) ?_
    refine x_topi ea1.symm ?_
    refine lv_aload_n hx hb dL_law_1058 rfl (lv_at hl 1 rfl) ?_
    refine lv_iload hx hb dL_law_1059 (lv_at hl 5 rfl) ?_
    refine lv_iconst (v := nI 3) hx hb dL_law_1061 (by decide) ?_
    refine x_addN hx hb dL_law_1062 ?_
    refine va_sld hx hb hX hbl hbA h.2.2.1 (vp_in_nI (by omega) (by omega)) dL_law_1063 ?_
    refine x_topi (y := xs (5 * t + 3)) (by rw [nI_clamp (by omega)]) ?_
    refine x_topi ea2.symm ?_
    refine cl_L_133 C h (hM 30 (by decide)) rfl hc8 ⟨Nat.le_of_ble_eq_true rfl, Nat.le_of_ble_eq_true rfl⟩ ⟨by show _ ≤ 601024; omega, by show _ ≤ 7293034; omega⟩ hl.1 (Nat.le_of_ble_eq_true rfl) dL_law_1064 (fun rb u2 H locs hp2 h => ?_)
    obtain ⟨hth, hrb, hgl, hI2⟩ := hpb rb u2 hp2
    refine lv_istore (lv' := [(6, .int rb), (5, .int (nI 0)), (0, .ref b), (1, .ref (ad 0)), (2, .ref (ad 30)), (3, .ref (ad 90)), (4, .int (nI (5 * t)))]) hx hb dL_law_1067 hl (by decide) rfl (fun ls hl => ?_)
    refine lv_aload_n hx hb dL_law_1069 rfl (lv_at hl 4 rfl) ?_
    refine cl_L_87 C h (hM 30 (by decide)) rfl (c_X8_thrown l D cy ad Ls u2 hM) ⟨Nat.le_of_ble_eq_true rfl, Nat.le_of_ble_eq_true rfl⟩ ⟨by show _ ≤ 601024; omega, by show _ ≤ 7293034; omega⟩ hl.1 (Nat.le_of_ble_eq_true rfl) dL_law_1070 (fun r3 u3 H locs hp3 h => ?_)
    obtain ⟨er3, eu3⟩ := hp3; rw [eu3] at h; refine x_topi (er3.trans hth) ?_
    refine lv_iload hx hb dL_law_1073 (lv_at hl 1 rfl) ?_
    refine lv_icmp_eq (tgt := 1080) hx hb dL_law_1075 (by decide) (fun _ => ?_) (fun q9 => absurd rfl q9)
    refine lv_iload hx hb dL_law_1080 (lv_at hl 1 rfl) ?_
    refine x_ifN_ne (tgt := 1097) hx hb dL_law_1082 (by decide) (by decide) (fun q9 => absurd rfl q9) (fun _ => ?_)
    refine lv_aload_n hx hb dL_law_1085 rfl (lv_at hl 5 rfl) ?_
    refine lv_iconst (v := nI 0) hx hb dL_law_1086 (by decide) ?_
    refine x_lald C h h90 rfl rfl dL_law_1087 ?_
    refine x_topl hgl ?_
    refine lv_iload hx hb dL_law_1088 (lv_at hl 0 rfl) ?_
    refine lv_i2l hx hb dL_law_1090 rfl ?_
    refine x_lcmp hx hb dL_law_1091 (fun r4 h4 => ?_)
    refine lv_if_eq (tgt := 1097) hx hb dL_law_1092 (by decide) (fun _ => ?_) (fun q9 => absurd (h4.trans (lg_cmp_0.mpr (by rw [hrb]))) q9)
    refine lv_goto (tgt := 1361) hx hb dL_law_1097 (by decide) ?_
    exact W.widen (k := cells + 10) (n := slots + 600) (by omega) (by omega) (kk ad Ls _ H locs ls h hI2 (lv_sub hl [2, 3, 4, 5, 6] rfl))

set_option maxHeartbeats 4000000 in
set_option maxRecDepth 100000 in
theorem k_length {p : Program} {e : Env} {s : State} {m : MethodId} {below : List Frame} {meth : Method} {c : Code} (l : Launch) {D : va_G} {cy : Nat → ClassId} {ad : Nat → Nat} {Ls : List Nat} {st : XS} {H : Heap} {locs : List Loc} {cells slots : Nat} {Q : State → Prop} {b L : Nat} {xs : Nat → Int32} {LI : Nat → List Nat → XS → Prop} (C : xCx p m c code 7 s #[Value.ref b] RL D cy) (hX : va_X b L xs s s.heap) (hbl : b < s.heap.size) (hLI : LIok LI) (hS : ∀ (a0 : Int32) (a1 : Int32), SI l D cy LI yX7_length cX7_length 5 .int 14 4 24 [eIOB] yX8_length cX8_length 3 .int 7 [.int a0, .int a1]) (h : xH D cy ad Ls (lwA s) s st H locs) (t : Nat) (hI : LI t Ls st) (ht : 5 * t + 5 ≤ L) (hL : L ≤ 2560) (hcs : cells + 10 ≤ 601024 ∧ slots + 600 ≤ 7293034) {ls : Array Slot} (hl : lv_has ls 7 (lwL b ad t)) (kk : LK p l e s m below meth c D cy LI b t cells slots Q) : W p l e room_1 s m #[Value.ref b] below meth c H locs cells slots Q (F0 m 1100 ls []) := by
  have hx := C.1; have hb := C.2.1
  have hbA : ¬ lwA s b := Nat.not_le.mpr hbl
  have hl : lv_has ls 7 [(0, .ref b), (1, .ref (ad 0)), (2, .ref (ad 30)), (3, .ref (ad 90)), (4, .int (nI (5 * t)))] := hl
  obtain ⟨hxC, h90, hM, _⟩ := hLI _ _ _ hI
  have ht512 : t < 512 := by omega
  obtain ⟨a0, ea0⟩ : ∃ z, z = xs (5 * t + 1) := ⟨_, rfl⟩
  obtain ⟨a1, ea1⟩ : ∃ z, z = xs (5 * t + 2) := ⟨_, rfl⟩
  obtain ⟨K, post, hc7, hB, hG⟩ := hS a0 a1 t ad Ls st ht512 hI
  refine lv_aload_n hx hb dL_law_1100 rfl (lv_at hl 1 rfl) ?_
  refine lv_aload_n hx hb dL_law_1101 rfl (lv_at hl 0 rfl) ?_
  refine lv_iload hx hb dL_law_1102 (lv_at hl 4 rfl) ?_
  refine lv_iconst (v := nI 1) hx hb dL_law_1104 (by decide) ?_
  refine x_addN hx hb dL_law_1105 ?_
  refine va_sld hx hb hX hbl hbA h.2.2.1 (vp_in_nI (by omega) (by omega)) dL_law_1106 ?_
  refine x_topi (y := xs (5 * t + 1)) (by rw [nI_clamp (by omega)]) ?_
  refine x_topi ea0.symm ?_
  refine lv_aload_n hx hb dL_law_1107 rfl (lv_at hl 0 rfl) ?_
  refine lv_iload hx hb dL_law_1108 (lv_at hl 4 rfl) ?_
  refine lv_iconst (v := nI 2) hx hb dL_law_1110 (by decide) ?_
  refine x_addN hx hb dL_law_1111 ?_
  refine va_sld hx hb hX hbl hbA h.2.2.1 (vp_in_nI (by omega) (by omega)) dL_law_1112 ?_
  refine x_topi (y := xs (5 * t + 2)) (by rw [nI_clamp (by omega)]) ?_
  refine x_topi ea1.symm ?_
  refine lv_aload_n hx hb dL_law_1113 rfl (lv_at hl 3 rfl) ?_
  refine x_rSW C h (w_length l D cy ad Ls st (hxC 0 rfl) h90 a0 a1 K hc7) rfl tb842 tb843 tb69 tw_length (na := 4) rfl (by decide +kernel) ⟨Nat.le_of_ble_eq_true rfl, Nat.le_of_ble_eq_true rfl⟩ (by decide) ⟨by show _ ≤ 601024; omega, by show _ ≤ 7293034; omega⟩ hl.1 rfl (Nat.le_of_ble_eq_true rfl) dL_law_1114 (fun r u H locs hp h => ?_)
  rcases hp with ⟨j, hj, hK, hr, hu⟩ | ⟨hr, r1, u1, hp1, hu⟩
  · subst hu; subst hr; change xH D cy ad Ls (lwA s) s st H locs at h
    obtain ⟨pb, hc8, hpb⟩ := hB (by omega)
    refine lv_istore (lv' := [(5, .int (nI K)), (0, .ref b), (1, .ref (ad 0)), (2, .ref (ad 30)), (3, .ref (ad 90)), (4, .int (nI (5 * t)))]) hx hb dL_law_1117 hl (by decide) rfl (fun ls hl => ?_)
    refine lv_aload_n hx hb dL_law_1119 rfl (lv_at hl 3 rfl) ?_
    refine lv_aload_n hx hb dL_law_1120 rfl (lv_at hl 1 rfl) ?_
    refine lv_iload hx hb dL_law_1121 (lv_at hl 5 rfl) ?_
    refine lv_iconst (v := nI 1) hx hb dL_law_1123 (by decide) ?_
    refine x_addN hx hb dL_law_1124 ?_
    refine va_sld hx hb hX hbl hbA h.2.2.1 (vp_in_nI (by omega) (by omega)) dL_law_1125 ?_
    refine x_topi (y := xs (5 * t + 1)) (by rw [nI_clamp (by omega)]) ?_
    refine x_topi ea0.symm ?_
    refine lv_aload_n hx hb dL_law_1126 rfl (lv_at hl 1 rfl) ?_
    refine lv_iload hx hb dL_law_1127 (lv_at hl 5 rfl) ?_
    refine lv_iconst (v := nI 2) hx hb dL_law_1129 (by decide) ?_
    refine x_addN hx hb dL_law_1130 ?_
    refine va_sld hx hb hX hbl hbA h.2.2.1 (vp_in_nI (by omega) (by omega)) dL_law_1131 ?_
    refine x_topi (y := xs (5 * t + 2)) (by rw [nI_clamp (by omega)]) ?_
    refine x_topi ea1.symm ?_
    refine cl_L_136 C h (hM 30 (by decide)) rfl hc8 ⟨Nat.le_of_ble_eq_true rfl, Nat.le_of_ble_eq_true rfl⟩ ⟨by show _ ≤ 601024; omega, by show _ ≤ 7293034; omega⟩ hl.1 (Nat.le_of_ble_eq_true rfl) dL_law_1132 (fun rb u2 H locs hp2 h => ?_)
    obtain ⟨hth, hI2⟩ := hpb rb u2 hp2
    refine lv_istore (lv' := [(6, .int rb), (5, .int (nI K)), (0, .ref b), (1, .ref (ad 0)), (2, .ref (ad 30)), (3, .ref (ad 90)), (4, .int (nI (5 * t)))]) hx hb dL_law_1135 hl (by decide) rfl (fun ls hl => ?_)
    refine lv_aload_n hx hb dL_law_1137 rfl (lv_at hl 4 rfl) ?_
    refine cl_L_87 C h (hM 30 (by decide)) rfl (c_X8_thrown l D cy ad Ls u2 hM) ⟨Nat.le_of_ble_eq_true rfl, Nat.le_of_ble_eq_true rfl⟩ ⟨by show _ ≤ 601024; omega, by show _ ≤ 7293034; omega⟩ hl.1 (Nat.le_of_ble_eq_true rfl) dL_law_1138 (fun r3 u3 H locs hp3 h => ?_)
    obtain ⟨er3, eu3⟩ := hp3; rw [eu3] at h; refine x_topi (er3.trans hth) ?_
    refine lv_iload hx hb dL_law_1141 (lv_at hl 1 rfl) ?_
    refine lv_icmp_eq (tgt := 1148) hx hb dL_law_1143 (by decide) (fun _ => ?_) (fun q9 => absurd rfl q9)
    refine lv_iload hx hb dL_law_1148 (lv_at hl 1 rfl) ?_
    refine x_ifN_ne (tgt := 1165) hx hb dL_law_1150 (by decide) (by omega) (fun _ => ?_) (fun q9 => absurd q9 (by omega))
    refine lv_goto (tgt := 1361) hx hb dL_law_1165 (by decide) ?_
    exact W.widen (k := cells + 10) (n := slots + 600) (by omega) (by omega) (kk ad Ls _ H locs ls h hI2 (lv_sub hl [2, 3, 4, 5, 6] rfl))
  · subst hu; subst hr; obtain ⟨hK0, hG2⟩ := hG r1 u1 hp1
    obtain ⟨pb, hc8, hpb⟩ := hG2 _ rfl
    change xH D cy ad Ls (lwA s) s (sl u1 0 90 r1.toInt64) H locs at h
    refine lv_istore (lv' := [(5, .int (nI 0)), (0, .ref b), (1, .ref (ad 0)), (2, .ref (ad 30)), (3, .ref (ad 90)), (4, .int (nI (5 * t)))]) hx hb dL_law_1117 hl (by decide) rfl (fun ls hl => ?_)
    refine lv_aload_n hx hb dL_law_1119 rfl (lv_at hl 3 rfl) ?_
    refine lv_aload_n hx hb dL_law_1120 rfl (lv_at hl 1 rfl) ?_
    refine lv_iload hx hb dL_law_1121 (lv_at hl 5 rfl) ?_
    refine lv_iconst (v := nI 1) hx hb dL_law_1123 (by decide) ?_
    refine x_addN hx hb dL_law_1124 ?_
    refine va_sld hx hb hX hbl hbA h.2.2.1 (vp_in_nI (by omega) (by omega)) dL_law_1125 ?_
    refine x_topi (y := xs (5 * t + 1)) (by rw [nI_clamp (by omega)]) ?_
    refine x_topi ea0.symm ?_
    refine lv_aload_n hx hb dL_law_1126 rfl (lv_at hl 1 rfl) ?_
    refine lv_iload hx hb dL_law_1127 (lv_at hl 5 rfl) ?_
    refine lv_iconst (v := nI 2) hx hb dL_law_1129 (by decide) ?_
    refine x_addN hx hb dL_law_1130 ?_
    refine va_sld hx hb hX hbl hbA h.2.2.1 (vp_in_nI (by omega) (by omega)) dL_law_1131 ?_
    refine x_topi (y := xs (5 * t + 2)) (by rw [nI_clamp (by omega)]) ?_
    refine x_topi ea1.symm ?_
    refine cl_L_136 C h (hM 30 (by decide)) rfl hc8 ⟨Nat.le_of_ble_eq_true rfl, Nat.le_of_ble_eq_true rfl⟩ ⟨by show _ ≤ 601024; omega, by show _ ≤ 7293034; omega⟩ hl.1 (Nat.le_of_ble_eq_true rfl) dL_law_1132 (fun rb u2 H locs hp2 h => ?_)
    obtain ⟨hth, hrb, hgl, hI2⟩ := hpb rb u2 hp2
    refine lv_istore (lv' := [(6, .int rb), (5, .int (nI 0)), (0, .ref b), (1, .ref (ad 0)), (2, .ref (ad 30)), (3, .ref (ad 90)), (4, .int (nI (5 * t)))]) hx hb dL_law_1135 hl (by decide) rfl (fun ls hl => ?_)
    refine lv_aload_n hx hb dL_law_1137 rfl (lv_at hl 4 rfl) ?_
    refine cl_L_87 C h (hM 30 (by decide)) rfl (c_X8_thrown l D cy ad Ls u2 hM) ⟨Nat.le_of_ble_eq_true rfl, Nat.le_of_ble_eq_true rfl⟩ ⟨by show _ ≤ 601024; omega, by show _ ≤ 7293034; omega⟩ hl.1 (Nat.le_of_ble_eq_true rfl) dL_law_1138 (fun r3 u3 H locs hp3 h => ?_)
    obtain ⟨er3, eu3⟩ := hp3; rw [eu3] at h; refine x_topi (er3.trans hth) ?_
    refine lv_iload hx hb dL_law_1141 (lv_at hl 1 rfl) ?_
    refine lv_icmp_eq (tgt := 1148) hx hb dL_law_1143 (by decide) (fun _ => ?_) (fun q9 => absurd rfl q9)
    refine lv_iload hx hb dL_law_1148 (lv_at hl 1 rfl) ?_
    refine x_ifN_ne (tgt := 1165) hx hb dL_law_1150 (by decide) (by decide) (fun q9 => absurd rfl q9) (fun _ => ?_)
    refine lv_aload_n hx hb dL_law_1153 rfl (lv_at hl 5 rfl) ?_
    refine lv_iconst (v := nI 0) hx hb dL_law_1154 (by decide) ?_
    refine x_lald C h h90 rfl rfl dL_law_1155 ?_
    refine x_topl hgl ?_
    refine lv_iload hx hb dL_law_1156 (lv_at hl 0 rfl) ?_
    refine lv_i2l hx hb dL_law_1158 rfl ?_
    refine x_lcmp hx hb dL_law_1159 (fun r4 h4 => ?_)
    refine lv_if_eq (tgt := 1165) hx hb dL_law_1160 (by decide) (fun _ => ?_) (fun q9 => absurd (h4.trans (lg_cmp_0.mpr (by rw [hrb]))) q9)
    refine lv_goto (tgt := 1361) hx hb dL_law_1165 (by decide) ?_
    exact W.widen (k := cells + 10) (n := slots + 600) (by omega) (by omega) (kk ad Ls _ H locs ls h hI2 (lv_sub hl [2, 3, 4, 5, 6] rfl))

set_option maxHeartbeats 4000000 in
set_option maxRecDepth 100000 in
theorem k_settle {p : Program} {e : Env} {s : State} {m : MethodId} {below : List Frame} {meth : Method} {c : Code} (l : Launch) {D : va_G} {cy : Nat → ClassId} {ad : Nat → Nat} {Ls : List Nat} {st : XS} {H : Heap} {locs : List Loc} {cells slots : Nat} {Q : State → Prop} {b L : Nat} {xs : Nat → Int32} {LI : Nat → List Nat → XS → Prop} (C : xCx p m c code 7 s #[Value.ref b] RL D cy) (hX : va_X b L xs s s.heap) (hbl : b < s.heap.size) (hLI : LIok LI) (hS : ∀ (a0 : Int32), SI l D cy LI yX7_settle cX7_settle 5 .int 9 4 24 [eIOB] yX8_settle cX8_settle 5 .int 4 [.int a0]) (h : xH D cy ad Ls (lwA s) s st H locs) (t : Nat) (hI : LI t Ls st) (ht : 5 * t + 5 ≤ L) (hL : L ≤ 2560) (hcs : cells + 10 ≤ 601024 ∧ slots + 600 ≤ 7293034) {ls : Array Slot} (hl : lv_has ls 7 (lwL b ad t)) (kk : LK p l e s m below meth c D cy LI b t cells slots Q) : W p l e room_1 s m #[Value.ref b] below meth c H locs cells slots Q (F0 m 1168 ls []) := by
  have hx := C.1; have hb := C.2.1
  have hbA : ¬ lwA s b := Nat.not_le.mpr hbl
  have hl : lv_has ls 7 [(0, .ref b), (1, .ref (ad 0)), (2, .ref (ad 30)), (3, .ref (ad 90)), (4, .int (nI (5 * t)))] := hl
  obtain ⟨hxC, h90, hM, _⟩ := hLI _ _ _ hI
  have ht512 : t < 512 := by omega
  obtain ⟨a0, ea0⟩ : ∃ z, z = xs (5 * t + 1) := ⟨_, rfl⟩
  obtain ⟨K, post, hc7, hB, hG⟩ := hS a0 t ad Ls st ht512 hI
  refine lv_aload_n hx hb dL_law_1168 rfl (lv_at hl 1 rfl) ?_
  refine lv_aload_n hx hb dL_law_1169 rfl (lv_at hl 0 rfl) ?_
  refine lv_iload hx hb dL_law_1170 (lv_at hl 4 rfl) ?_
  refine lv_iconst (v := nI 1) hx hb dL_law_1172 (by decide) ?_
  refine x_addN hx hb dL_law_1173 ?_
  refine va_sld hx hb hX hbl hbA h.2.2.1 (vp_in_nI (by omega) (by omega)) dL_law_1174 ?_
  refine x_topi (y := xs (5 * t + 1)) (by rw [nI_clamp (by omega)]) ?_
  refine x_topi ea0.symm ?_
  refine lv_aload_n hx hb dL_law_1175 rfl (lv_at hl 3 rfl) ?_
  refine x_rSW C h (w_settle l D cy ad Ls st (hxC 0 rfl) h90 a0 K hc7) rfl tb849 tb850 tb69 tw_settle (na := 3) rfl (by decide +kernel) ⟨Nat.le_of_ble_eq_true rfl, Nat.le_of_ble_eq_true rfl⟩ (by decide) ⟨by show _ ≤ 601024; omega, by show _ ≤ 7293034; omega⟩ hl.1 rfl (Nat.le_of_ble_eq_true rfl) dL_law_1176 (fun r u H locs hp h => ?_)
  rcases hp with ⟨j, hj, hK, hr, hu⟩ | ⟨hr, r1, u1, hp1, hu⟩
  · subst hu; subst hr; change xH D cy ad Ls (lwA s) s st H locs at h
    obtain ⟨pb, hc8, hpb⟩ := hB (by omega)
    refine lv_istore (lv' := [(5, .int (nI K)), (0, .ref b), (1, .ref (ad 0)), (2, .ref (ad 30)), (3, .ref (ad 90)), (4, .int (nI (5 * t)))]) hx hb dL_law_1179 hl (by decide) rfl (fun ls hl => ?_)
    refine lv_aload_n hx hb dL_law_1181 rfl (lv_at hl 3 rfl) ?_
    refine lv_aload_n hx hb dL_law_1182 rfl (lv_at hl 1 rfl) ?_
    refine lv_iload hx hb dL_law_1183 (lv_at hl 5 rfl) ?_
    refine lv_iconst (v := nI 1) hx hb dL_law_1185 (by decide) ?_
    refine x_addN hx hb dL_law_1186 ?_
    refine va_sld hx hb hX hbl hbA h.2.2.1 (vp_in_nI (by omega) (by omega)) dL_law_1187 ?_
    refine x_topi (y := xs (5 * t + 1)) (by rw [nI_clamp (by omega)]) ?_
    refine x_topi ea0.symm ?_
    refine cl_L_139 C h (hM 30 (by decide)) rfl hc8 ⟨Nat.le_of_ble_eq_true rfl, Nat.le_of_ble_eq_true rfl⟩ ⟨by show _ ≤ 601024; omega, by show _ ≤ 7293034; omega⟩ hl.1 (Nat.le_of_ble_eq_true rfl) dL_law_1188 (fun rb u2 H locs hp2 h => ?_)
    obtain ⟨hth, hI2⟩ := hpb rb u2 hp2
    refine lv_istore (lv' := [(6, .int rb), (5, .int (nI K)), (0, .ref b), (1, .ref (ad 0)), (2, .ref (ad 30)), (3, .ref (ad 90)), (4, .int (nI (5 * t)))]) hx hb dL_law_1191 hl (by decide) rfl (fun ls hl => ?_)
    refine lv_aload_n hx hb dL_law_1193 rfl (lv_at hl 4 rfl) ?_
    refine cl_L_87 C h (hM 30 (by decide)) rfl (c_X8_thrown l D cy ad Ls u2 hM) ⟨Nat.le_of_ble_eq_true rfl, Nat.le_of_ble_eq_true rfl⟩ ⟨by show _ ≤ 601024; omega, by show _ ≤ 7293034; omega⟩ hl.1 (Nat.le_of_ble_eq_true rfl) dL_law_1194 (fun r3 u3 H locs hp3 h => ?_)
    obtain ⟨er3, eu3⟩ := hp3; rw [eu3] at h; refine x_topi (er3.trans hth) ?_
    refine lv_iload hx hb dL_law_1197 (lv_at hl 1 rfl) ?_
    refine lv_icmp_eq (tgt := 1204) hx hb dL_law_1199 (by decide) (fun _ => ?_) (fun q9 => absurd rfl q9)
    refine lv_iload hx hb dL_law_1204 (lv_at hl 1 rfl) ?_
    refine x_ifN_ne (tgt := 1221) hx hb dL_law_1206 (by decide) (by omega) (fun _ => ?_) (fun q9 => absurd q9 (by omega))
    refine lv_goto (tgt := 1361) hx hb dL_law_1221 (by decide) ?_
    exact W.widen (k := cells + 10) (n := slots + 600) (by omega) (by omega) (kk ad Ls _ H locs ls h hI2 (lv_sub hl [2, 3, 4, 5, 6] rfl))
  · subst hu; subst hr; obtain ⟨hK0, hG2⟩ := hG r1 u1 hp1
    obtain ⟨pb, hc8, hpb⟩ := hG2 _ rfl
    change xH D cy ad Ls (lwA s) s (sl u1 0 90 r1.toInt64) H locs at h
    refine lv_istore (lv' := [(5, .int (nI 0)), (0, .ref b), (1, .ref (ad 0)), (2, .ref (ad 30)), (3, .ref (ad 90)), (4, .int (nI (5 * t)))]) hx hb dL_law_1179 hl (by decide) rfl (fun ls hl => ?_)
    refine lv_aload_n hx hb dL_law_1181 rfl (lv_at hl 3 rfl) ?_
    refine lv_aload_n hx hb dL_law_1182 rfl (lv_at hl 1 rfl) ?_
    refine lv_iload hx hb dL_law_1183 (lv_at hl 5 rfl) ?_
    refine lv_iconst (v := nI 1) hx hb dL_law_1185 (by decide) ?_
    refine x_addN hx hb dL_law_1186 ?_
    refine va_sld hx hb hX hbl hbA h.2.2.1 (vp_in_nI (by omega) (by omega)) dL_law_1187 ?_
    refine x_topi (y := xs (5 * t + 1)) (by rw [nI_clamp (by omega)]) ?_
    refine x_topi ea0.symm ?_
    refine cl_L_139 C h (hM 30 (by decide)) rfl hc8 ⟨Nat.le_of_ble_eq_true rfl, Nat.le_of_ble_eq_true rfl⟩ ⟨by show _ ≤ 601024; omega, by show _ ≤ 7293034; omega⟩ hl.1 (Nat.le_of_ble_eq_true rfl) dL_law_1188 (fun rb u2 H locs hp2 h => ?_)
    obtain ⟨hth, hrb, hgl, hI2⟩ := hpb rb u2 hp2
    refine lv_istore (lv' := [(6, .int rb), (5, .int (nI 0)), (0, .ref b), (1, .ref (ad 0)), (2, .ref (ad 30)), (3, .ref (ad 90)), (4, .int (nI (5 * t)))]) hx hb dL_law_1191 hl (by decide) rfl (fun ls hl => ?_)
    refine lv_aload_n hx hb dL_law_1193 rfl (lv_at hl 4 rfl) ?_
    refine cl_L_87 C h (hM 30 (by decide)) rfl (c_X8_thrown l D cy ad Ls u2 hM) ⟨Nat.le_of_ble_eq_true rfl, Nat.le_of_ble_eq_true rfl⟩ ⟨by show _ ≤ 601024; omega, by show _ ≤ 7293034; omega⟩ hl.1 (Nat.le_of_ble_eq_true rfl) dL_law_1194 (fun r3 u3 H locs hp3 h => ?_)
    obtain ⟨er3, eu3⟩ := hp3; rw [eu3] at h; refine x_topi (er3.trans hth) ?_
    refine lv_iload hx hb dL_law_1197 (lv_at hl 1 rfl) ?_
    refine lv_icmp_eq (tgt := 1204) hx hb dL_law_1199 (by decide) (fun _ => ?_) (fun q9 => absurd rfl q9)
    refine lv_iload hx hb dL_law_1204 (lv_at hl 1 rfl) ?_
    refine x_ifN_ne (tgt := 1221) hx hb dL_law_1206 (by decide) (by decide) (fun q9 => absurd rfl q9) (fun _ => ?_)
    refine lv_aload_n hx hb dL_law_1209 rfl (lv_at hl 5 rfl) ?_
    refine lv_iconst (v := nI 0) hx hb dL_law_1210 (by decide) ?_
    refine x_lald C h h90 rfl rfl dL_law_1211 ?_
    refine x_topl hgl ?_
    refine lv_iload hx hb dL_law_1212 (lv_at hl 0 rfl) ?_
    refine lv_i2l hx hb dL_law_1214 rfl ?_
    refine x_lcmp hx hb dL_law_1215 (fun r4 h4 => ?_)
    refine lv_if_eq (tgt := 1221) hx hb dL_law_1216 (by decide) (fun _ => ?_) (fun q9 => absurd (h4.trans (lg_cmp_0.mpr (by rw [hrb]))) q9)
    refine lv_goto (tgt := 1361) hx hb dL_law_1221 (by decide) ?_
    exact W.widen (k := cells + 10) (n := slots + 600) (by omega) (by omega) (kk ad Ls _ H locs ls h hI2 (lv_sub hl [2, 3, 4, 5, 6] rfl))

set_option maxHeartbeats 4000000 in
set_option maxRecDepth 100000 in
theorem k_notes {p : Program} {e : Env} {s : State} {m : MethodId} {below : List Frame} {meth : Method} {c : Code} (l : Launch) {D : va_G} {cy : Nat → ClassId} {ad : Nat → Nat} {Ls : List Nat} {st : XS} {H : Heap} {locs : List Loc} {cells slots : Nat} {Q : State → Prop} {b L : Nat} {xs : Nat → Int32} {LI : Nat → List Nat → XS → Prop} (C : xCx p m c code 7 s #[Value.ref b] RL D cy) (hX : va_X b L xs s s.heap) (hbl : b < s.heap.size) (hLI : LIok LI) (hS : ∀ (t : Nat) (ad : Nat → Nat) (Ls : List Nat) (st : XS), t < 512 → LI t Ls st → ∃ n, gi st 3 5 = nI n ∧ gi st 41 30 = nI n ∧ LI (t + 1) Ls (si st 0 30 (nI 0))) (h : xH D cy ad Ls (lwA s) s st H locs) (t : Nat) (hI : LI t Ls st) (ht : 5 * t + 5 ≤ L) (hL : L ≤ 2560) (hcs : cells + 10 ≤ 601024 ∧ slots + 600 ≤ 7293034) {ls : Array Slot} (hl : lv_has ls 7 (lwL b ad t)) (kk : LK p l e s m below meth c D cy LI b t cells slots Q) : W p l e room_1 s m #[Value.ref b] below meth c H locs cells slots Q (F0 m 1224 ls []) := by
  have hx := C.1; have hb := C.2.1
  have hbA : ¬ lwA s b := Nat.not_le.mpr hbl
  have hl : lv_has ls 7 [(0, .ref b), (1, .ref (ad 0)), (2, .ref (ad 30)), (3, .ref (ad 90)), (4, .int (nI (5 * t)))] := hl
  obtain ⟨hxC, h90, hM, _⟩ := hLI _ _ _ hI
  have ht512 : t < 512 := by omega
  obtain ⟨n, hn1, hn2, hI2⟩ := hS t ad Ls st ht512 hI
  refine lv_aload_n hx hb dL_law_1224 rfl (lv_at hl 1 rfl) ?_
  refine cl_L_140 C h (hxC 0 rfl) rfl (c_X7_notes l D cy ad Ls st hxC n hn1) ⟨Nat.le_of_ble_eq_true rfl, Nat.le_of_ble_eq_true rfl⟩ ⟨by show _ ≤ 601024; omega, by show _ ≤ 7293034; omega⟩ hl.1 (Nat.le_of_ble_eq_true rfl) dL_law_1225 (fun r u H locs hp h => ?_)
  obtain ⟨er, eu⟩ := hp; rw [eu] at h; refine x_topi er ?_
  refine lv_aload_n hx hb dL_law_1228 rfl (lv_at hl 2 rfl) ?_
  refine cl_L_143 C h (hM 30 (by decide)) rfl (c_X8_notes l D cy ad Ls st hM) ⟨Nat.le_of_ble_eq_true rfl, Nat.le_of_ble_eq_true rfl⟩ ⟨by show _ ≤ 601024; omega, by show _ ≤ 7293034; omega⟩ hl.1 (Nat.le_of_ble_eq_true rfl) dL_law_1229 (fun r2 u2 H locs hp h => ?_)
  obtain ⟨er2, eu2⟩ := hp; rw [eu2] at h; refine x_topi (er2.trans hn2) ?_
  refine lv_icmp_eq (tgt := 1361) hx hb dL_law_1232 (by decide) (fun _ => ?_) (fun q9 => absurd rfl q9)
  exact W.widen (k := cells + 10) (n := slots + 600) (Nat.le_add_right _ _) (Nat.le_add_right _ _) (kk ad Ls _ H locs ls h hI2 hl)

set_option maxHeartbeats 4000000 in
set_option maxRecDepth 100000 in
theorem k_note {p : Program} {e : Env} {s : State} {m : MethodId} {below : List Frame} {meth : Method} {c : Code} (l : Launch) {D : va_G} {cy : Nat → ClassId} {ad : Nat → Nat} {Ls : List Nat} {st : XS} {H : Heap} {locs : List Loc} {cells slots : Nat} {Q : State → Prop} {b L : Nat} {xs : Nat → Int32} {LI : Nat → List Nat → XS → Prop} (C : xCx p m c code 7 s #[Value.ref b] RL D cy) (hX : va_X b L xs s s.heap) (hbl : b < s.heap.size) (hLI : LIok LI) (hS : ∀ (a0 : Int32) (a1 : Int32), SI l D cy LI yX7_note cX7_note 3 .int 6 4 24 [eIOB, eIAE] yX8_note cX8_note 3 .int 1 [.int a0, .int a1]) (h : xH D cy ad Ls (lwA s) s st H locs) (t : Nat) (hI : LI t Ls st) (ht : 5 * t + 5 ≤ L) (hL : L ≤ 2560) (hcs : cells + 10 ≤ 601024 ∧ slots + 600 ≤ 7293034) {ls : Array Slot} (hl : lv_has ls 7 (lwL b ad t)) (kk : LK p l e s m below meth c D cy LI b t cells slots Q) : W p l e room_1 s m #[Value.ref b] below meth c H locs cells slots Q (F0 m 1237 ls []) := by
  have hx := C.1; have hb := C.2.1
  have hbA : ¬ lwA s b := Nat.not_le.mpr hbl
  have hl : lv_has ls 7 [(0, .ref b), (1, .ref (ad 0)), (2, .ref (ad 30)), (3, .ref (ad 90)), (4, .int (nI (5 * t)))] := hl
  obtain ⟨hxC, h90, hM, _⟩ := hLI _ _ _ hI
  have ht512 : t < 512 := by omega
  obtain ⟨a0, ea0⟩ : ∃ z, z = xs (5 * t + 1) := ⟨_, rfl⟩
  obtain ⟨a1, ea1⟩ : ∃ z, z = xs (5 * t + 2) := ⟨_, rfl⟩
  obtain ⟨K, post, hc7, hB, hG⟩ := hS a0 a1 t ad Ls st ht512 hI
  refine lv_aload_n hx hb dL_law_1237 rfl (lv_at hl 1 rfl) ?_
  refine lv_aload_n hx hb dL_law_1238 rfl (lv_at hl 0 rfl) ?_
  refine lv_iload hx hb dL_law_1239 (lv_at hl 4 rfl) ?_
  refine lv_iconst (v := nI 1) hx hb dL_law_1241 (by decide) ?_
  refine x_addN hx hb dL_law_1242 ?_
  refine va_sld hx hb hX hbl hbA h.2.2.1 (vp_in_nI (by omega) (by omega)) dL_law_1243 ?_
  refine x_topi (y := xs (5 * t + 1)) (by rw [nI_clamp (by omega)]) ?_
  refine x_topi ea0.symm ?_
  refine lv_aload_n hx hb dL_law_1244 rfl (lv_at hl 0 rfl) ?_
  refine lv_iload hx hb dL_law_1245 (lv_at hl 4 rfl) ?_
  refine lv_iconst (v := nI 2) hx hb dL_law_1247 (by decide) ?_
  refine x_addN hx hb dL_law_1248 ?_
  refine va_sld hx hb hX hbl hbA h.2.2.1 (vp_in_nI (by omega) (by omega)) dL_law_1249 ?_
  refine x_topi (y := xs (5 * t + 2)) (by rw [nI_clamp (by omega)]) ?_
  refine x_topi ea1.symm ?_
  refine lv_aload_n hx hb dL_law_1250 rfl (lv_at hl 3 rfl) ?_
  refine x_rSW C h (w_note l D cy ad Ls st (hxC 0 rfl) h90 a0 a1 K hc7) rfl tb865 tb866 tb69 tw_note (na := 4) rfl (by decide +kernel) ⟨Nat.le_of_ble_eq_true rfl, Nat.le_of_ble_eq_true rfl⟩ (by decide) ⟨by show _ ≤ 601024; omega, by show _ ≤ 7293034; omega⟩ hl.1 rfl (Nat.le_of_ble_eq_true rfl) dL_law_1251 (fun r u H locs hp h => ?_)
  rcases hp with ⟨j, hj, hK, hr, hu⟩ | ⟨hr, r1, u1, hp1, hu⟩
  · subst hu; subst hr; change xH D cy ad Ls (lwA s) s st H locs at h
    obtain ⟨pb, hc8, hpb⟩ := hB (by omega)
    refine lv_istore (lv' := [(5, .int (nI K)), (0, .ref b), (1, .ref (ad 0)), (2, .ref (ad 30)), (3, .ref (ad 90)), (4, .int (nI (5 * t)))]) hx hb dL_law_1254 hl (by decide) rfl (fun ls hl => ?_)
    refine lv_aload_n hx hb dL_law_1256 rfl (lv_at hl 3 rfl) ?_
    refine lv_aload_n hx hb dL_law_1257 rfl (lv_at hl 1 rfl) ?_
    refine lv_iload hx hb dL_law_1258 (lv_at hl 5 rfl) ?_
    refine lv_iconst (v := nI 1) hx hb dL_law_1260 (by decide) ?_
    refine x_addN hx hb dL_law_1261 ?_
    refine va_sld hx hb hX hbl hbA h.2.2.1 (vp_in_nI (by omega) (by omega)) dL_law_1262 ?_
    refine x_topi (y := xs (5 * t + 1)) (by rw [nI_clamp (by omega)]) ?_
    refine x_topi ea0.symm ?_
    refine lv_aload_n hx hb dL_law_1263 rfl (lv_at hl 1 rfl) ?_
    refine lv_iload hx hb dL_law_1264 (lv_at hl 5 rfl) ?_
    refine lv_iconst (v := nI 2) hx hb dL_law_1266 (by decide) ?_
    refine x_addN hx hb dL_law_1267 ?_
    refine va_sld hx hb hX hbl hbA h.2.2.1 (vp_in_nI (by omega) (by omega)) dL_law_1268 ?_
    refine x_topi (y := xs (5 * t + 2)) (by rw [nI_clamp (by omega)]) ?_
    refine x_topi ea1.symm ?_
    refine cl_L_146 C h (hM 30 (by decide)) rfl hc8 ⟨Nat.le_of_ble_eq_true rfl, Nat.le_of_ble_eq_true rfl⟩ ⟨by show _ ≤ 601024; omega, by show _ ≤ 7293034; omega⟩ hl.1 (Nat.le_of_ble_eq_true rfl) dL_law_1269 (fun rb u2 H locs hp2 h => ?_)
    obtain ⟨hth, hI2⟩ := hpb rb u2 hp2
    refine lv_istore (lv' := [(6, .int rb), (5, .int (nI K)), (0, .ref b), (1, .ref (ad 0)), (2, .ref (ad 30)), (3, .ref (ad 90)), (4, .int (nI (5 * t)))]) hx hb dL_law_1272 hl (by decide) rfl (fun ls hl => ?_)
    refine lv_aload_n hx hb dL_law_1274 rfl (lv_at hl 4 rfl) ?_
    refine cl_L_87 C h (hM 30 (by decide)) rfl (c_X8_thrown l D cy ad Ls u2 hM) ⟨Nat.le_of_ble_eq_true rfl, Nat.le_of_ble_eq_true rfl⟩ ⟨by show _ ≤ 601024; omega, by show _ ≤ 7293034; omega⟩ hl.1 (Nat.le_of_ble_eq_true rfl) dL_law_1275 (fun r3 u3 H locs hp3 h => ?_)
    obtain ⟨er3, eu3⟩ := hp3; rw [eu3] at h; refine x_topi (er3.trans hth) ?_
    refine lv_iload hx hb dL_law_1278 (lv_at hl 1 rfl) ?_
    refine lv_icmp_eq (tgt := 1285) hx hb dL_law_1280 (by decide) (fun _ => ?_) (fun q9 => absurd rfl q9)
    refine lv_iload hx hb dL_law_1285 (lv_at hl 1 rfl) ?_
    refine x_ifN_ne (tgt := 1302) hx hb dL_law_1287 (by decide) (by omega) (fun _ => ?_) (fun q9 => absurd q9 (by omega))
    refine lv_goto (tgt := 1361) hx hb dL_law_1302 (by decide) ?_
    exact W.widen (k := cells + 10) (n := slots + 600) (by omega) (by omega) (kk ad Ls _ H locs ls h hI2 (lv_sub hl [2, 3, 4, 5, 6] rfl))
  · subst hu; subst hr; obtain ⟨hK0, hG2⟩ := hG r1 u1 hp1
    obtain ⟨pb, hc8, hpb⟩ := hG2 _ rfl
    change xH D cy ad Ls (lwA s) s (sl u1 0 90 r1.toInt64) H locs at h
    refine lv_istore (lv' := [(5, .int (nI 0)), (0, .ref b), (1, .ref (ad 0)), (2, .ref (ad 30)), (3, .ref (ad 90)), (4, .int (nI (5 * t)))]) hx hb dL_law_1254 hl (by decide) rfl (fun ls hl => ?_)
    refine lv_aload_n hx hb dL_law_1256 rfl (lv_at hl 3 rfl) ?_
    refine lv_aload_n hx hb dL_law_1257 rfl (lv_at hl 1 rfl) ?_
    refine lv_iload hx hb dL_law_1258 (lv_at hl 5 rfl) ?_
    refine lv_iconst (v := nI 1) hx hb dL_law_1260 (by decide) ?_
    refine x_addN hx hb dL_law_1261 ?_
    refine va_sld hx hb hX hbl hbA h.2.2.1 (vp_in_nI (by omega) (by omega)) dL_law_1262 ?_
    refine x_topi (y := xs (5 * t + 1)) (by rw [nI_clamp (by omega)]) ?_
    refine x_topi ea0.symm ?_
    refine lv_aload_n hx hb dL_law_1263 rfl (lv_at hl 1 rfl) ?_
    refine lv_iload hx hb dL_law_1264 (lv_at hl 5 rfl) ?_
    refine lv_iconst (v := nI 2) hx hb dL_law_1266 (by decide) ?_
    refine x_addN hx hb dL_law_1267 ?_
    refine va_sld hx hb hX hbl hbA h.2.2.1 (vp_in_nI (by omega) (by omega)) dL_law_1268 ?_
    refine x_topi (y := xs (5 * t + 2)) (by rw [nI_clamp (by omega)]) ?_
    refine x_topi ea1.symm ?_
    refine cl_L_146 C h (hM 30 (by decide)) rfl hc8 ⟨Nat.le_of_ble_eq_true rfl, Nat.le_of_ble_eq_true rfl⟩ ⟨by show _ ≤ 601024; omega, by show _ ≤ 7293034; omega⟩ hl.1 (Nat.le_of_ble_eq_true rfl) dL_law_1269 (fun rb u2 H locs hp2 h => ?_)
    obtain ⟨hth, hrb, hgl, hI2⟩ := hpb rb u2 hp2
    refine lv_istore (lv' := [(6, .int rb), (5, .int (nI 0)), (0, .ref b), (1, .ref (ad 0)), (2, .ref (ad 30)), (3, .ref (ad 90)), (4, .int (nI (5 * t)))]) hx hb dL_law_1272 hl (by decide) rfl (fun ls hl => ?_)
    refine lv_aload_n hx hb dL_law_1274 rfl (lv_at hl 4 rfl) ?_
    refine cl_L_87 C h (hM 30 (by decide)) rfl (c_X8_thrown l D cy ad Ls u2 hM) ⟨Nat.le_of_ble_eq_true rfl, Nat.le_of_ble_eq_true rfl⟩ ⟨by show _ ≤ 601024; omega, by show _ ≤ 7293034; omega⟩ hl.1 (Nat.le_of_ble_eq_true rfl) dL_law_1275 (fun r3 u3 H locs hp3 h => ?_)
    obtain ⟨er3, eu3⟩ := hp3; rw [eu3] at h; refine x_topi (er3.trans hth) ?_
    refine lv_iload hx hb dL_law_1278 (lv_at hl 1 rfl) ?_
    refine lv_icmp_eq (tgt := 1285) hx hb dL_law_1280 (by decide) (fun _ => ?_) (fun q9 => absurd rfl q9)
    refine lv_iload hx hb dL_law_1285 (lv_at hl 1 rfl) ?_
    refine x_ifN_ne (tgt := 1302) hx hb dL_law_1287 (by decide) (by decide) (fun q9 => absurd rfl q9) (fun _ => ?_)
    refine lv_aload_n hx hb dL_law_1290 rfl (lv_at hl 5 rfl) ?_
    refine lv_iconst (v := nI 0) hx hb dL_law_1291 (by decide) ?_
    refine x_lald C h h90 rfl rfl dL_law_1292 ?_
    refine x_topl hgl ?_
    refine lv_iload hx hb dL_law_1293 (lv_at hl 0 rfl) ?_
    refine lv_i2l hx hb dL_law_1295 rfl ?_
    refine x_lcmp hx hb dL_law_1296 (fun r4 h4 => ?_)
    refine lv_if_eq (tgt := 1302) hx hb dL_law_1297 (by decide) (fun _ => ?_) (fun q9 => absurd (h4.trans (lg_cmp_0.mpr (by rw [hrb]))) q9)
    refine lv_goto (tgt := 1361) hx hb dL_law_1302 (by decide) ?_
    exact W.widen (k := cells + 10) (n := slots + 600) (by omega) (by omega) (kk ad Ls _ H locs ls h hI2 (lv_sub hl [2, 3, 4, 5, 6] rfl))

set_option maxHeartbeats 4000000 in
set_option maxRecDepth 100000 in
theorem k_owed {p : Program} {e : Env} {s : State} {m : MethodId} {below : List Frame} {meth : Method} {c : Code} (l : Launch) {D : va_G} {cy : Nat → ClassId} {ad : Nat → Nat} {Ls : List Nat} {st : XS} {H : Heap} {locs : List Loc} {cells slots : Nat} {Q : State → Prop} {b L : Nat} {xs : Nat → Int32} {LI : Nat → List Nat → XS → Prop} (C : xCx p m c code 7 s #[Value.ref b] RL D cy) (hX : va_X b L xs s s.heap) (hbl : b < s.heap.size) (hLI : LIok LI) (hS : ∀ (a0 : Int32), SI l D cy LI yX7_owed cX7_owed 5 .int 9 4 24 [eIOB] yX8_owed cX8_owed 4 .int 2 [.int a0]) (h : xH D cy ad Ls (lwA s) s st H locs) (t : Nat) (hI : LI t Ls st) (ht : 5 * t + 5 ≤ L) (hL : L ≤ 2560) (hcs : cells + 10 ≤ 601024 ∧ slots + 600 ≤ 7293034) {ls : Array Slot} (hl : lv_has ls 7 (lwL b ad t)) (kk : LK p l e s m below meth c D cy LI b t cells slots Q) : W p l e room_1 s m #[Value.ref b] below meth c H locs cells slots Q (F0 m 1305 ls []) := by
  have hx := C.1; have hb := C.2.1
  have hbA : ¬ lwA s b := Nat.not_le.mpr hbl
  have hl : lv_has ls 7 [(0, .ref b), (1, .ref (ad 0)), (2, .ref (ad 30)), (3, .ref (ad 90)), (4, .int (nI (5 * t)))] := hl
  obtain ⟨hxC, h90, hM, _⟩ := hLI _ _ _ hI
  have ht512 : t < 512 := by omega
  obtain ⟨a0, ea0⟩ : ∃ z, z = xs (5 * t + 1) := ⟨_, rfl⟩
  obtain ⟨K, post, hc7, hB, hG⟩ := hS a0 t ad Ls st ht512 hI
  refine lv_aload_n hx hb dL_law_1305 rfl (lv_at hl 1 rfl) ?_
  refine lv_aload_n hx hb dL_law_1306 rfl (lv_at hl 0 rfl) ?_
  refine lv_iload hx hb dL_law_1307 (lv_at hl 4 rfl) ?_
  refine lv_iconst (v := nI 1) hx hb dL_law_1309 (by decide) ?_
  refine x_addN hx hb dL_law_1310 ?_
  refine va_sld hx hb hX hbl hbA h.2.2.1 (vp_in_nI (by omega) (by omega)) dL_law_1311 ?_
  refine x_topi (y := xs (5 * t + 1)) (by rw [nI_clamp (by omega)]) ?_
  refine x_topi ea0.symm ?_
  refine lv_aload_n hx hb dL_law_1312 rfl (lv_at hl 3 rfl) ?_
  refine x_rSW C h (w_owed l D cy ad Ls st (hxC 0 rfl) h90 a0 K hc7) rfl tb873 tb874 tb69 tw_owed (na := 3) rfl (by decide +kernel) ⟨Nat.le_of_ble_eq_true rfl, Nat.le_of_ble_eq_true rfl⟩ (by decide) ⟨by show _ ≤ 601024; omega, by show _ ≤ 7293034; omega⟩ hl.1 rfl (Nat.le_of_ble_eq_true rfl) dL_law_1313 (fun r u H locs hp h => ?_)
  rcases hp with ⟨j, hj, hK, hr, hu⟩ | ⟨hr, r1, u1, hp1, hu⟩
  · subst hu; subst hr; change xH D cy ad Ls (lwA s) s st H locs at h
    obtain ⟨pb, hc8, hpb⟩ := hB (by omega)
    refine lv_istore (lv' := [(5, .int (nI K)), (0, .ref b), (1, .ref (ad 0)), (2, .ref (ad 30)), (3, .ref (ad 90)), (4, .int (nI (5 * t)))]) hx hb dL_law_1316 hl (by decide) rfl (fun ls hl => ?_)
    refine lv_aload_n hx hb dL_law_1318 rfl (lv_at hl 3 rfl) ?_
    refine lv_aload_n hx hb dL_law_1319 rfl (lv_at hl 1 rfl) ?_
    refine lv_iload hx hb dL_law_1320 (lv_at hl 5 rfl) ?_
    refine lv_iconst (v := nI 1) hx hb dL_law_1322 (by decide) ?_
    refine x_addN hx hb dL_law_1323 ?_
    refine va_sld hx hb hX hbl hbA h.2.2.1 (vp_in_nI (by omega) (by omega)) dL_law_1324 ?_
    refine x_topi (y := xs (5 * t + 1)) (by rw [nI_clamp (by omega)]) ?_
    refine x_topi ea0.symm ?_
    refine cl_L_149 C h (hM 30 (by decide)) rfl hc8 ⟨Nat.le_of_ble_eq_true rfl, Nat.le_of_ble_eq_true rfl⟩ ⟨by show _ ≤ 601024; omega, by show _ ≤ 7293034; omega⟩ hl.1 (Nat.le_of_ble_eq_true rfl) dL_law_1325 (fun rb u2 H locs hp2 h => ?_)
    obtain ⟨hth, hI2⟩ := hpb rb u2 hp2
    refine lv_istore (lv' := [(6, .int rb), (5, .int (nI K)), (0, .ref b), (1, .ref (ad 0)), (2, .ref (ad 30)), (3, .ref (ad 90)), (4, .int (nI (5 * t)))]) hx hb dL_law_1328 hl (by decide) rfl (fun ls hl => ?_)
    refine lv_aload_n hx hb dL_law_1330 rfl (lv_at hl 4 rfl) ?_
    refine cl_L_87 C h (hM 30 (by decide)) rfl (c_X8_thrown l D cy ad Ls u2 hM) ⟨Nat.le_of_ble_eq_true rfl, Nat.le_of_ble_eq_true rfl⟩ ⟨by show _ ≤ 601024; omega, by show _ ≤ 7293034; omega⟩ hl.1 (Nat.le_of_ble_eq_true rfl) dL_law_1331 (fun r3 u3 H locs hp3 h => ?_)
    obtain ⟨er3, eu3⟩ := hp3; rw [eu3] at h; refine x_topi (er3.trans hth) ?_
    refine lv_iload hx hb dL_law_1334 (lv_at hl 1 rfl) ?_
    refine lv_icmp_eq (tgt := 1341) hx hb dL_law_1336 (by decide) (fun _ => ?_) (fun q9 => absurd rfl q9)
    refine lv_iload hx hb dL_law_1341 (lv_at hl 1 rfl) ?_
    refine x_ifN_ne (tgt := 1358) hx hb dL_law_1343 (by decide) (by omega) (fun _ => ?_) (fun q9 => absurd q9 (by omega))
    refine lv_goto (tgt := 1361) hx hb dL_law_1358 (by decide) ?_
    exact W.widen (k := cells + 10) (n := slots + 600) (by omega) (by omega) (kk ad Ls _ H locs ls h hI2 (lv_sub hl [2, 3, 4, 5, 6] rfl))
  · subst hu; subst hr; obtain ⟨hK0, hG2⟩ := hG r1 u1 hp1
    obtain ⟨pb, hc8, hpb⟩ := hG2 _ rfl
    change xH D cy ad Ls (lwA s) s (sl u1 0 90 r1.toInt64) H locs at h
    refine lv_istore (lv' := [(5, .int (nI 0)), (0, .ref b), (1, .ref (ad 0)), (2, .ref (ad 30)), (3, .ref (ad 90)), (4, .int (nI (5 * t)))]) hx hb dL_law_1316 hl (by decide) rfl (fun ls hl => ?_)
    refine lv_aload_n hx hb dL_law_1318 rfl (lv_at hl 3 rfl) ?_
    refine lv_aload_n hx hb dL_law_1319 rfl (lv_at hl 1 rfl) ?_
    refine lv_iload hx hb dL_law_1320 (lv_at hl 5 rfl) ?_
    refine lv_iconst (v := nI 1) hx hb dL_law_1322 (by decide) ?_
    refine x_addN hx hb dL_law_1323 ?_
    refine va_sld hx hb hX hbl hbA h.2.2.1 (vp_in_nI (by omega) (by omega)) dL_law_1324 ?_
    refine x_topi (y := xs (5 * t + 1)) (by rw [nI_clamp (by omega)]) ?_
    refine x_topi ea0.symm ?_
    refine cl_L_149 C h (hM 30 (by decide)) rfl hc8 ⟨Nat.le_of_ble_eq_true rfl, Nat.le_of_ble_eq_true rfl⟩ ⟨by show _ ≤ 601024; omega, by show _ ≤ 7293034; omega⟩ hl.1 (Nat.le_of_ble_eq_true rfl) dL_law_1325 (fun rb u2 H locs hp2 h => ?_)
    obtain ⟨hth, hrb, hgl, hI2⟩ := hpb rb u2 hp2
    refine lv_istore (lv' := [(6, .int rb), (5, .int (nI 0)), (0, .ref b), (1, .ref (ad 0)), (2, .ref (ad 30)), (3, .ref (ad 90)), (4, .int (nI (5 * t)))]) hx hb dL_law_1328 hl (by decide) rfl (fun ls hl => ?_)
    refine lv_aload_n hx hb dL_law_1330 rfl (lv_at hl 4 rfl) ?_
    refine cl_L_87 C h (hM 30 (by decide)) rfl (c_X8_thrown l D cy ad Ls u2 hM) ⟨Nat.le_of_ble_eq_true rfl, Nat.le_of_ble_eq_true rfl⟩ ⟨by show _ ≤ 601024; omega, by show _ ≤ 7293034; omega⟩ hl.1 (Nat.le_of_ble_eq_true rfl) dL_law_1331 (fun r3 u3 H locs hp3 h => ?_)
    obtain ⟨er3, eu3⟩ := hp3; rw [eu3] at h; refine x_topi (er3.trans hth) ?_
    refine lv_iload hx hb dL_law_1334 (lv_at hl 1 rfl) ?_
    refine lv_icmp_eq (tgt := 1341) hx hb dL_law_1336 (by decide) (fun _ => ?_) (fun q9 => absurd rfl q9)
    refine lv_iload hx hb dL_law_1341 (lv_at hl 1 rfl) ?_
    refine x_ifN_ne (tgt := 1358) hx hb dL_law_1343 (by decide) (by decide) (fun q9 => absurd rfl q9) (fun _ => ?_)
    refine lv_aload_n hx hb dL_law_1346 rfl (lv_at hl 5 rfl) ?_
    refine lv_iconst (v := nI 0) hx hb dL_law_1347 (by decide) ?_
    refine x_lald C h h90 rfl rfl dL_law_1348 ?_
    refine x_topl hgl ?_
    refine lv_iload hx hb dL_law_1349 (lv_at hl 0 rfl) ?_
    refine lv_i2l hx hb dL_law_1351 rfl ?_
    refine x_lcmp hx hb dL_law_1352 (fun r4 h4 => ?_)
    refine lv_if_eq (tgt := 1358) hx hb dL_law_1353 (by decide) (fun _ => ?_) (fun q9 => absurd (h4.trans (lg_cmp_0.mpr (by rw [hrb]))) q9)
    refine lv_goto (tgt := 1361) hx hb dL_law_1358 (by decide) ?_
    exact W.widen (k := cells + 10) (n := slots + 600) (by omega) (by omega) (kk ad Ls _ H locs ls h hI2 (lv_sub hl [2, 3, 4, 5, 6] rfl))
