/-! ===== the tax is noted, and the invoice is made ===== -/
theorem PI_tax {st u : XS} {bd d n mB nn mn c9 pl w : Nat} {ln : Nat → Nat} {T : Int32} (hv : PI0 st bd d n mB nn mn ln) (hm : mB < 7) (hW : RW st mB d mn c9 pl w) (hu : u = sa st 32 (upd (upd (ga st 32) (7 * mB + 5) T) (7 * mB + 6) T)) : PI0 u bd d n mB nn mn ln ∧ RW u mB d mn c9 pl w ∧ ga u 32 (7 * mB + 5) = T ∧ ga u 32 (7 * mB + 6) = T := by
  have e32 : ga u 32 = upd (upd (ga st 32) (7 * mB + 5) T) (7 * mB + 6) T := by rw [hu, ga_self]
  have ak : ∀ k, ¬ k = 32 → ga u k = ga st k := fun k q => by rw [hu, ga_sa, if_neg q]
  have hlo : ∀ i, i < 7 * mB + 5 → ga u 32 i = ga st 32 i := fun i hi => by rw [e32, pk_un (by omega), pk_un (by omega)]
  have hd := hv.2.2.1
  have hgi : ∀ f k, gi u f k = gi st f k := fun f k => by rw [hu]; rfl
  have hgp : ∀ f k, gp u f k = gp st f k := fun f k => by rw [hu]; rfl
  have hgb : ∀ k, gb u k = gb st k := fun k => by rw [hu]; rfl
  refine ⟨PI0_F (by omega) hv (fun f k _ => hgi f k) hgp (fun k _ q2 _ _ => ak k q2) hgb (fun i hi => hlo i (by omega)) (fun i _ => by rw [ak 33 (by decide)]) ⟨hd.1, (hgp ..).trans hd.2.1, (hgi ..).trans hd.2.2.1, (hgi ..).trans hd.2.2.2.1, (hgi ..).trans hd.2.2.2.2.1, fun k hk => PL_K (hd.2.2.2.2.2 k hk) (fun j j1 j2 => ak _ (by omega)) (fun i _ => by rw [ak 33 (by decide)])⟩, ?_, ?_, ?_⟩
  · obtain ⟨w1, w2, w3, w4, w5, w6, w7, w8, w9, w10⟩ := hW
    exact ⟨w1, w2, w3, by rw [ak 8 (by decide)]; exact w4, by rw [ak 7 (by decide)]; exact w5, (hlo _ (by omega)).trans w6, (hlo _ (by omega)).trans w7, (hlo _ (by omega)).trans w8, (hlo _ (by omega)).trans w9, (hlo _ (by omega)).trans w10⟩
  · rw [e32, pk_un (by omega), pk_us]
  · rw [e32, pk_us]
theorem MK_U {st : XS} {n mB mn : Nat} {c9 : Int32} {x : Nat} (hx : x < 100 ∨ (100 + 6 * mB ≤ x ∧ x < 100 + 6 * mB + 4)) : ga (mk7 st n mB mn c9) x = ga st x := by
  rw [mk_ga, if_neg (by omega), mk3_ga (by omega) (by omega)]
theorem PA_x {Ls : List Nat} {st u : XS} {mB : Nat} (h : PA Ls mB st) (hc : xCl u Ls) : PA Ls mB u := ⟨h.1, h.2.1, h.2.2.1, h.2.2.2.1, h.2.2.2.2.1, hc, h.2.2.2.2.2.2⟩
set_option maxHeartbeats 4000000 in
set_option maxRecDepth 100000 in
theorem br_make2 {p : Program} {e : Env} {s : State} {m : MethodId} {below : List Frame} {meth : Method} {c : Code} (l : Launch) (hl0 : l.stackTraces = false) {D : va_G} {cy : Nat → ClassId} {b L : Nat} {xs : Nat → Int32} (C : xCx p m c code 31 s #[Value.ref b] RL D cy) (hE : xScr b L xs (lwA s) s s.heap) (hL9 : L ≤ 260) {t : Nat} (ht40 : t < 40) {ad : Nat → Nat} {Ls : List Nat} {st : XS} {H : Heap} {locs : List Loc} {ls : Array Slot} {bd at9 d n mB nn p9 mn c9 pl w sm : Nat} {ln : Nat → Nat} (h : xH D cy ad (Ls ++ [50 + mB]) (lwA s) s st H locs) (hA9 : PA Ls mB st) (hv : PI0 st bd d n mB nn mn ln) (hcl1 : xCl st (Ls ++ [50 + mB])) (hat : at9 ≤ 3 + 5 * t) (hd : d ≤ 4 * t) (hp2 : p9 < 2) (hmB : mB < 7) (hmn : 0 < mn) (hW : RW st mB d mn c9 pl w) (hby : ∀ j, j < mn → ga st (50 + mB) j = oI (knoS st n (nI pl) (nI (kN st mB j)) (nI d))) (hsm : sumA (bQ st mB) (bP st mB) mn = nI sm) (hs9 : sm ≤ mn * 989901) (hl : lv_has ls 31 [(0, .ref b), (1, .ref (ad 0)), (2, .int (nI bd)), (3, .int (nI at9)), (6, .ref (ad 31)), (7, .ref (ad 32)), (8, .ref (ad 33)), (9, .ref (ad 34)), (10, .ref (ad 35)), (11, .ref (ad 36)), (12, .int (nI d)), (13, .int (nI n)), (14, .int (nI mB)), (15, .int (nI nn)), (16, .int (nI t)), (20, .int (nI p9)), (21, .int (nI mn)), (22, .int (nI c9)), (23, .ref (ad (50 + mB))), (24, .int (nI sm)), (25, .int (nI mn))]) (K : K78 p l e s m below meth c D cy b bd t) : W p l e room_1 s m #[Value.ref b] below meth c H locs (1101 + 4000 * t) (10104 + 40000 * t) (lw_Z below #[Value.ref b] s) (F0 m 809 ls []) := by
  have hx := C.1
  have hb := C.2.1
  have hL := hA9.1
  have hR9 := hA9.2.1
  refine lv_iinc (v := nI (at9 + 3)) (lv' := [(3, .int (nI (at9 + 3))), (0, .ref b), (1, .ref (ad 0)), (2, .int (nI bd)), (6, .ref (ad 31)), (7, .ref (ad 32)), (8, .ref (ad 33)), (9, .ref (ad 34)), (10, .ref (ad 35)), (11, .ref (ad 36)), (12, .int (nI d)), (13, .int (nI n)), (14, .int (nI mB)), (15, .int (nI nn)), (16, .int (nI t)), (20, .int (nI p9)), (21, .int (nI mn)), (22, .int (nI c9)), (23, .ref (ad (50 + mB))), (24, .int (nI sm)), (25, .int (nI mn))]) hx hb dL_law_809 hl (k := 3) rfl (nI_add _ _) (by decide) rfl (fun ls hl => ?_)
  refine lv_iload hx hb dL_law_812 (lv_at hl 12 rfl) ?_
  refine lv_istore (lv' := [(25, .int (nI mB)), (3, .int (nI (at9 + 3))), (0, .ref b), (1, .ref (ad 0)), (2, .int (nI bd)), (6, .ref (ad 31)), (7, .ref (ad 32)), (8, .ref (ad 33)), (9, .ref (ad 34)), (10, .ref (ad 35)), (11, .ref (ad 36)), (12, .int (nI d)), (13, .int (nI n)), (14, .int (nI mB)), (15, .int (nI nn)), (16, .int (nI t)), (20, .int (nI p9)), (21, .int (nI mn)), (22, .int (nI c9)), (23, .ref (ad (50 + mB))), (24, .int (nI sm))]) hx hb dL_law_814 hl (by decide) rfl (fun ls hl => ?_)
  refine lv_aload hx hb dL_law_816 (lv_at hl 6 rfl) ?_
  refine lv_bipush (v := nI 7) hx hb dL_law_818 (by decide) ?_
  refine lv_iload hx hb dL_law_820 (lv_at hl 0 rfl) ?_
  refine x_mulN hx hb dL_law_822 ?_
  refine lv_iconst (v := nI 5) hx hb dL_law_823 (by decide) ?_
  refine x_addN hx hb dL_law_824 ?_
  refine lv_aload hx hb dL_law_825 (lv_at hl 5 rfl) ?_
  refine lv_aload hx hb dL_law_827 (lv_at hl 6 rfl) ?_
  refine lv_aload hx hb dL_law_829 (lv_at hl 7 rfl) ?_
  refine lv_iload hx hb dL_law_831 (lv_at hl 0 rfl) ?_
  refine lv_aload hx hb dL_law_833 (lv_at hl 19 rfl) ?_
  have hn3 : mn ≤ 3 := hv.2.2.1.1
  refine ca_L_16 C h (c_L_tax l D cy ad (Ls ++ [50 + mB]) st (List.mem_append_left _ (hR9 31 (by decide) (by decide))) (List.mem_append_left _ (hR9 32 (by decide) (by decide))) (List.mem_append_left _ (hR9 33 (by decide) (by decide))) (50 + mB) (List.mem_append_right _ (List.mem_singleton.mpr rfl)) (kd_50 hmB) (by omega) (fun q => (List.mem_append.mp q).elim (hA9.2.2.2.2.2.2.1 41 (by decide) (by decide)) (fun q => by have := List.mem_singleton.mp q; omega)) hcl1 mB hmB mn hn3 hW.2.2.2.2.2.2.2.1 (nI w) hW.2.2.2.2.2.2.2.2.2 (kN st mB) (fun k hk => by have q := kN_of (hv.2.2.1.2.2.2.2.2 k hk); exact ⟨by omega, q.2.1⟩) (fun k => knoS st n (nI pl) (nI (kN st mB k)) (nI d)) (fun k hk => ⟨hby k hk, fun j hj => Nat.lt_of_lt_of_le (knO_lt _ _ _ _ _ _ _ _ hj) hv.1.1⟩)) (by decide) ⟨by show _ ≤ 754712; omega, by show _ ≤ 6837489; omega⟩ hl.1 (Nat.le_of_ble_eq_true rfl) dL_law_835 (fun r1 u1 H locs hp h => ?_)
  obtain ⟨er, eu⟩ := hp; rw [eu] at h; clear eu u1; refine x_topi (y := txM st n mB d mn pl w) er ?_; clear er r1
  refine x_ast C h (List.mem_append_left _ (hR9 32 (by decide) (by decide))) (n := 64) rfl ((7 * mB) + 5) (by omega) (by decide) rfl dL_law_838 (fun H locs u1 eu1 h => ?_)
  refine lv_aload hx hb dL_law_839 (lv_at hl 6 rfl) ?_
  refine lv_bipush (v := nI 7) hx hb dL_law_841 (by decide) ?_
  refine lv_iload hx hb dL_law_843 (lv_at hl 0 rfl) ?_
  refine x_mulN hx hb dL_law_845 ?_
  refine lv_bipush (v := nI 6) hx hb dL_law_846 (by decide) ?_
  refine x_addN hx hb dL_law_848 ?_
  refine lv_aload hx hb dL_law_849 (lv_at hl 6 rfl) ?_
  refine lv_bipush (v := nI 7) hx hb dL_law_851 (by decide) ?_
  refine lv_iload hx hb dL_law_853 (lv_at hl 0 rfl) ?_
  refine x_mulN hx hb dL_law_855 ?_
  refine lv_iconst (v := nI 5) hx hb dL_law_856 (by decide) ?_
  refine x_addN hx hb dL_law_857 ?_
  refine x_ald C h (List.mem_append_left _ (hR9 32 (by decide) (by decide))) (n := 64) rfl ((7 * mB) + 5) (by omega) (by decide) rfl dL_law_858 ?_
  refine x_topi (y := txM st n mB d mn pl w) (by rw [eu1, ga_self, pk_us]) ?_
  refine x_ast C h (List.mem_append_left _ (hR9 32 (by decide) (by decide))) (n := 64) rfl ((7 * mB) + 6) (by omega) (by decide) rfl dL_law_859 (fun H locs u2 eu2 h => ?_)
  refine lv_aload_n hx hb dL_law_860 rfl (lv_at hl 3 rfl) ?_
  refine lv_iload hx hb dL_law_861 (lv_at hl 18 rfl) ?_
  have hv2 : u2 = sa st 32 (upd (upd (ga st 32) (7 * mB + 5) (txM st n mB d mn pl w)) (7 * mB + 6) (txM st n mB d mn pl w)) := by rw [eu2, eu1]; simp only [ga_self, sa_sa]
  obtain ⟨hI2, hW2, h5, h6⟩ := PI_tax hv hmB hW hv2
  have hTx : txM st n mB d mn pl w = txM u2 n mB d mn pl w := by rw [hv2]; rfl
  rw [hTx] at h5 h6
  have hA2 : PA Ls mB u2 := PA_K hA9 (fun _ _ => by rw [hv2]; rfl) (fun _ => by rw [hv2]; rfl)
  obtain ⟨hPU, hBT, hBH⟩ := PI_make hA2 hI2 hmn hmB (by omega) hW2 h5 h6
  refine cG_L_80 C h (List.mem_append_left _ (hL 0 rfl)) rfl (c_X7_make l hl0 D cy ad (Ls ++ [50 + mB]) u2 (fun k hk => List.mem_append_left _ (hL k hk)) n (by have := hI2.1.1; omega) hI2.1.2.1 mB (by omega) (fun j hj => List.mem_append_left _ (hA9.2.2.1 mB (Nat.le_refl _) j hj)) mn (by have := hI2.2.2.1.1; omega) hI2.2.2.1.2.2.2.1 hI2.2.2.1.2.1 hI2.2.2.1.2.2.1 (by rw [hv2]; exact hcl1) (fun k hk q => (List.mem_append.mp q).elim (hA9.2.2.2.1 (mB + 1) (by omega) (by omega) k hk) (fun q => by have q1 := List.mem_singleton.mp q; obtain ⟨i, _, q2⟩ := LsB_iff.mp hk; omega)) (nI c9)) (by decide) ⟨by show _ ≤ 754712; omega, by show _ ≤ 6837489; omega⟩ hl.1 (Nat.le_of_ble_eq_true rfl) dL_law_863 (x_noX (kMake_0 (by have := hW.1; omega) hmn (by omega))) (fun r3 x3 H locs hp h => ?_)
  obtain ⟨-, er, ad3, had, ex⟩ := hp; refine x_topi (y := nI mB) er ?_; clear er r3; subst ex
  obtain ⟨U, hU⟩ : ∃ U, U = mk7 u2 n mB mn (nI c9) := ⟨_, rfl⟩
  replace h : xH D cy ad3 ((Ls ++ [50 + mB]) ++ LsB (mB + 1)) (lwA s) s U H locs := by rw [hU]; exact h
  rw [← hU] at hPU hBT hBH
  have hl : lv_has ls 31 [(25, .int (nI mB)), (3, .int (nI (at9 + 3))), (0, .ref b), (1, .ref (ad3 0)), (2, .int (nI bd)), (6, .ref (ad3 31)), (7, .ref (ad3 32)), (8, .ref (ad3 33)), (9, .ref (ad3 34)), (10, .ref (ad3 35)), (11, .ref (ad3 36)), (12, .int (nI d)), (13, .int (nI n)), (14, .int (nI mB)), (15, .int (nI nn)), (16, .int (nI t)), (20, .int (nI p9)), (21, .int (nI mn)), (22, .int (nI c9)), (23, .ref (ad3 (50 + mB))), (24, .int (nI sm))] := by rw [had 0 (List.mem_append_left _ (hL 0 rfl)), had 31 (List.mem_append_left _ (hR9 31 (by decide) (by decide))), had 32 (List.mem_append_left _ (hR9 32 (by decide) (by decide))), had 33 (List.mem_append_left _ (hR9 33 (by decide) (by decide))), had 34 (List.mem_append_left _ (hR9 34 (by decide) (by decide))), had 35 (List.mem_append_left _ (hR9 35 (by decide) (by decide))), had 36 (List.mem_append_left _ (hR9 36 (by decide) (by decide))), had (50 + mB) (List.mem_append_right _ (List.mem_singleton.mpr rfl))]; exact hl
  have h50 : 50 + mB ∈ (Ls ++ [50 + mB]) ++ LsB (mB + 1) := List.mem_append_left _ (List.mem_append_right _ (List.mem_singleton.mpr rfl))
  have hlo : ∀ x, x < 100 → ¬ x = 32 → ga U x = ga st x := fun x q1 q2 => by rw [hU, MK_U (Or.inl q1), hv2, ga_sa, if_neg q2]
  have hkU : ∀ x y z, knoS U n x y z = knoS st n x y z := fun x y z => by { show knO (ga U 13) (ga U 14) (ga U 16) x y z n = _; rw [hlo 13 (by decide) (by decide), hlo 14 (by decide) (by decide), hlo 16 (by decide) (by decide)] }
  have hk2 : ∀ x y z, knoS u2 n x y z = knoS st n x y z := fun x y z => by rw [hv2]; rfl
  have hkN : ∀ j, kN U mB j = kN st mB j := fun j => by unfold kN; rw [hlo 33 (by decide) (by decide)]
  have hbyU : ∀ j, j < mn → ga U (50 + mB) j = oI (knoS U n (nI pl) (nI (kN U mB j)) (nI d)) := fun j hj => by rw [hkU, hkN, hlo (50 + mB) (by omega) (by omega)]; exact hby j hj
  have hbhU : ∀ k, k < 4 → bH U mB k = rtO (ga U 31) (knoS U n (nI pl) (nI k) (nI d)) := fun k hk => by rw [hBH k hk, hkU, hk2, hlo 31 (by decide) (by decide), hv2]; rfl
  have hWU : RW U mB d mn c9 pl w := by { have q := hW2; unfold RW at q ⊢; rw [hU, MK_U (x := 7) (Or.inl (by decide)), MK_U (x := 8) (Or.inl (by decide)), MK_U (x := 32) (Or.inl (by decide))]; exact q }
  have hsmU : sumA (bQ U mB) (bP U mB) mn = nI sm := by { rw [show bQ U mB = bQ st mB by unfold bQ; rw [hU, MK_U (Or.inr (by omega)), hv2, ga_sa, if_neg (by omega)], show bP U mB = bP st mB by unfold bP; rw [hU, MK_U (Or.inr (by omega)), hv2, ga_sa, if_neg (by omega)]]; exact hsm }
  have hBU := hPU.2.2.2.2.1.2 mB (by omega)
  rw [show ln2 mB mn ln mB = mn from if_pos rfl] at hBU
  have hRDU := RD_of hPU.1 hPU.2.2.2.1 hPU.2.2.2.2.1
  refine lv_iload hx hb dL_law_866 (lv_at hl 0 rfl) ?_
  refine x_icmp_eq_t (tgt := 873) hx hb dL_law_868 (by decide) rfl ?_
  refine lv_iinc (v := nI (mB + 1)) (lv' := [(14, .int (nI (mB + 1))), (25, .int (nI mB)), (3, .int (nI (at9 + 3))), (0, .ref b), (1, .ref (ad3 0)), (2, .int (nI bd)), (6, .ref (ad3 31)), (7, .ref (ad3 32)), (8, .ref (ad3 33)), (9, .ref (ad3 34)), (10, .ref (ad3 35)), (11, .ref (ad3 36)), (12, .int (nI d)), (13, .int (nI n)), (15, .int (nI nn)), (16, .int (nI t)), (20, .int (nI p9)), (21, .int (nI mn)), (22, .int (nI c9)), (23, .ref (ad3 (50 + mB))), (24, .int (nI sm))]) hx hb dL_law_873 hl (k := 13) rfl (nI_add _ _) (by decide) rfl (fun ls hl => ?_)
  refine lv_iconst (v := nI 0) hx hb dL_law_876 (by decide) ?_
  refine lv_istore (lv' := [(26, .int (nI 0)), (14, .int (nI (mB + 1))), (25, .int (nI mB)), (3, .int (nI (at9 + 3))), (0, .ref b), (1, .ref (ad3 0)), (2, .int (nI bd)), (6, .ref (ad3 31)), (7, .ref (ad3 32)), (8, .ref (ad3 33)), (9, .ref (ad3 34)), (10, .ref (ad3 35)), (11, .ref (ad3 36)), (12, .int (nI d)), (13, .int (nI n)), (15, .int (nI nn)), (16, .int (nI t)), (20, .int (nI p9)), (21, .int (nI mn)), (22, .int (nI c9)), (23, .ref (ad3 (50 + mB))), (24, .int (nI sm))]) hx hb dL_law_877 hl (by decide) rfl (fun ls hl => ?_)
  have L879 : ∀ (N879 : Nat) (j : Nat) (hj : j ≤ mn) (hN : mn - j < N879) (H : Heap) (locs : List Loc) (ls : Array Slot), xH D cy ad3 ((Ls ++ [50 + mB]) ++ LsB (mB + 1)) (lwA s) s U H locs → lv_has ls 31 [(0, .ref b), (1, .ref (ad3 0)), (2, .int (nI bd)), (3, .int (nI (at9 + 3))), (6, .ref (ad3 31)), (7, .ref (ad3 32)), (8, .ref (ad3 33)), (9, .ref (ad3 34)), (10, .ref (ad3 35)), (11, .ref (ad3 36)), (12, .int (nI d)), (13, .int (nI n)), (14, .int (nI (mB + 1))), (15, .int (nI nn)), (16, .int (nI t)), (20, .int (nI p9)), (21, .int (nI mn)), (22, .int (nI c9)), (23, .ref (ad3 (50 + mB))), (24, .int (nI sm)), (25, .int (nI mB)), (26, .int (nI j))] → W p l e room_1 s m #[Value.ref b] below meth c H locs (1151 + 4000 * t + 4 * j) (10804 + 40000 * t + 24 * j) (lw_Z below #[Value.ref b] s) (F0 m 879 ls []) := by
    intro N879
    induction N879 with
    | zero => intro j hj hN; omega
    | succ N879 ih879 =>
      intro j hj hN H locs ls h hl
      refine lv_iload hx hb dL_law_879 (lv_at hl 21 rfl) ?_
      refine lv_iload hx hb dL_law_881 (lv_at hl 16 rfl) ?_
      refine x_icmpN_ge (tgt := 910) hx hb dL_law_883 (by decide) (by omega) (by omega) (fun c883 => ?_) (fun c883 => ?_)
      · refine W.widen (k := 1201 + 4000 * t) (n := 11000 + 40000 * t) (by omega) (by omega) ?_
        exact br_make3 l hl0 C hE hL9 ht40 h hPU (i9 := mB) rfl (if_pos rfl) h50 hWU hbyU hbhU hsmU hs9 hBU.2.1 (by omega) hd hp2 (lv_sub hl [0, 1, 2, 3, 4, 5, 6, 7, 8, 9, 10, 11, 12, 13, 14, 15, 16, 17, 18, 19, 20] rfl) K
      · refine lv_aload_n hx hb dL_law_886 rfl (lv_at hl 1 rfl) ?_
        refine lv_iload hx hb dL_law_887 (lv_at hl 20 rfl) ?_
        refine lv_iload hx hb dL_law_889 (lv_at hl 21 rfl) ?_
        refine cx_L_83 C h (hPU.1.1 0 rfl) rfl (r_used l D cy ad3 hl0 hRDU (nI mB) (nI j)) (by decide) ⟨by show _ ≤ 754712; omega, by show _ ≤ 6837489; omega⟩ hl.1 (Nat.le_of_ble_eq_true rfl) dL_law_891 (x_noX (kUsed_0 (by omega) (by omega) (by rw [lnX_lt (by omega)]; rw [show ln2 mB mn ln mB = mn from if_pos rfl]; omega) (by rw [lnX_lt (by omega)]; rw [show ln2 mB mn ln mB = mn from if_pos rfl]; omega))) (fun r4 u3 H locs hp h => ?_)
        obtain ⟨-, b1, hb1, eb, er, eu⟩ := hp; obtain rfl : mB = b1 := (nI_eq (by omega) (by omega)).mp eb; clear eb hb1; rw [eu] at h; clear eu u3
        have hkn := kN_of (hBU.2.2.2.2.2.2.2.2.2.2.2.2 j (by omega))
        refine x_topi (y := oI (knoS U n (nI pl) (nI (kN U mB j)) (nI d))) (by rw [er, xget_at (by omega) (by decide), show ga U (100 + 6 * mB + 1) j = nI (kN U mB j) from hkn.2.2.1, xget_at (by omega) (by decide)]; exact (hBT _ (by omega)).trans (by rw [hkU, hk2])) ?_; clear er r4
        refine lv_aload hx hb dL_law_894 (lv_at hl 18 rfl) ?_
        refine lv_iload hx hb dL_law_896 (lv_at hl 21 rfl) ?_
        refine x_ald C h h50 (n := 4) (kd_50 hmB) j (by omega) (by decide) rfl dL_law_898 ?_
        refine x_topi (y := oI (knoS U n (nI pl) (nI (kN U mB j)) (nI d))) (hbyU j (by omega)) ?_
        refine x_icmp_eq_t (tgt := 904) hx hb dL_law_899 (by decide) rfl ?_
        refine lv_iinc (v := nI (j + 1)) (lv' := [(26, .int (nI (j + 1))), (0, .ref b), (1, .ref (ad3 0)), (2, .int (nI bd)), (3, .int (nI (at9 + 3))), (6, .ref (ad3 31)), (7, .ref (ad3 32)), (8, .ref (ad3 33)), (9, .ref (ad3 34)), (10, .ref (ad3 35)), (11, .ref (ad3 36)), (12, .int (nI d)), (13, .int (nI n)), (14, .int (nI (mB + 1))), (15, .int (nI nn)), (16, .int (nI t)), (20, .int (nI p9)), (21, .int (nI mn)), (22, .int (nI c9)), (23, .ref (ad3 (50 + mB))), (24, .int (nI sm)), (25, .int (nI mB))]) hx hb dL_law_904 hl (k := 21) rfl (nI_add _ _) (by decide) rfl (fun ls hl => ?_)
        refine lv_goto (tgt := 879) hx hb dL_law_907 (by decide) ?_
        refine W.widen (k := 1151 + 4000 * t + 4 * (j + 1)) (n := 10804 + 40000 * t + 24 * (j + 1)) (by omega) (by omega) ?_
        exact ih879 (j + 1) (by omega) (by omega) H locs ls h (lv_sub hl [1, 2, 3, 4, 5, 6, 7, 8, 9, 10, 11, 12, 13, 14, 15, 16, 17, 18, 19, 20, 21, 0] rfl)
  refine W.widen (k := 1151 + 4000 * t + 4 * 0) (n := 10804 + 40000 * t + 24 * 0) (by omega) (by omega) ?_
  exact L879 (mn + 1) 0 (by omega) (by omega) H locs ls h (lv_sub hl [4, 5, 6, 3, 7, 8, 9, 10, 11, 12, 13, 14, 1, 15, 16, 17, 18, 19, 20, 21, 2, 0] rfl)
