/-! ===== the law's loop ===== -/
/-- all steps -/
def LawS (l : Launch) (D : va_G) (cy : Nat → ClassId) (LI : Nat → List Nat → XS → Prop) : Prop :=
  (∀ (a0 : Int64), SI l D cy LI yX7_type cX7_type 5 .int 8 4 24 [eIAE, eISE] yX8_type cX8_type 7 .int 1 [.long a0]) ∧
  (∀ (a0 : Int32), SG l D cy LI yX7_template cX7_template 4 .int 30 10 600 [eIOB, eISE] yX8_template cX8_template 4 .int 7 [.int a0]) ∧
  (∀ (a0 : Int32), SI l D cy LI yX7_pass cX7_pass 2 .int 6 4 24 [eIAE] yX8_pass cX8_pass 2 .int 1 [.int a0]) ∧
  (∀ (a0 : Int32) (a1 : Int32) (a2 : Int32) (a3 : Int32), SI l D cy LI yX7_rate cX7_rate 5 .int 8 4 24 [eIOB, eIAE, eISE] yX8_rate cX8_rate 7 .int 2 [.int a0, .int a1, .int a2, .int a3]) ∧
  (∀ (a0 : Int32) (a1 : Int32) (a2 : Int32), SI l D cy LI yX7_telling cX7_telling 4 .int 8 4 24 [eIOB, eIAE] yX8_telling cX8_telling 5 .int 2 [.int a0, .int a1, .int a2]) ∧
  (∀ (a0 : Int32) (a1 : Int32), SI l D cy LI yX7_round cX7_round 4 .int 8 4 24 [eIOB, eIAE] yX8_round cX8_round 4 .int 2 [.int a0, .int a1]) ∧
  (∀ (a0 : Int32) (a1 : Int32), SI l D cy LI yX7_client cX7_client 4 .int 8 4 24 [eIOB] yX8_client cX8_client 4 .int 2 [.int a0, .int a1]) ∧
  (∀ (a0 : Int32) (a1 : Int32) (a2 : Int32), SI l D cy LI yX7_line cX7_line 4 .int 8 4 24 [eIOB, eIAE, eISE] yX8_line cX8_line 5 .int 2 [.int a0, .int a1, .int a2]) ∧
  (∀ (a0 : Int32), SI l D cy LI yX7_strike cX7_strike 2 .int 8 4 24 [eIOB] yX8_strike cX8_strike 3 .int 1 [.int a0]) ∧
  (∀ (a0 : Int32), SG l D cy LI yX7_make cX7_make 4 .int 8 10 80 [eIOB, eISE] yX8_make cX8_make 5 .int 3 [.int a0]) ∧
  (∀ (a0 : Int32) (a1 : Int32), SI l D cy LI yX7_invoice cX7_invoice 4 .int 8 4 24 [eIOB, eIAE] yX8_invoice cX8_invoice 3 .int 2 [.int a0, .int a1]) ∧
  (∀ (a0 : Int32), SI l D cy LI yX7_taxAnew cX7_taxAnew 2 .int 8 4 24 [eIOB] yX8_taxAnew cX8_taxAnew 2 .int 3 [.int a0]) ∧
  (∀ (a0 : Int32) (a1 : Int32), SI l D cy LI yX7_used cX7_used 4 .int 8 4 24 [eIOB] yX8_used cX8_used 3 .int 2 [.int a0, .int a1]) ∧
  (∀ (a0 : Int32) (a1 : Int32) (a2 : Int32), SI l D cy LI yX7_written cX7_written 6 .char 14 4 24 [eIOB] yX8_written cX8_written 4 .char 7 [.int a0, .int a1, .int a2]) ∧
  (∀ (a0 : Int32) (a1 : Int32), SI l D cy LI yX7_length cX7_length 5 .int 14 4 24 [eIOB] yX8_length cX8_length 3 .int 7 [.int a0, .int a1]) ∧
  (∀ (a0 : Int32), SI l D cy LI yX7_settle cX7_settle 5 .int 9 4 24 [eIOB] yX8_settle cX8_settle 5 .int 4 [.int a0]) ∧
  (∀ (t : Nat) (ad : Nat → Nat) (Ls : List Nat) (st : XS), t < 512 → LI t Ls st → ∃ n, gi st 3 5 = nI n ∧ gi st 41 30 = nI n ∧ LI (t + 1) Ls (si st 0 30 (nI 0))) ∧
  (∀ (a0 : Int32) (a1 : Int32), SI l D cy LI yX7_note cX7_note 3 .int 6 4 24 [eIOB, eIAE] yX8_note cX8_note 3 .int 1 [.int a0, .int a1]) ∧
  (∀ (a0 : Int32), SI l D cy LI yX7_owed cX7_owed 5 .int 9 4 24 [eIOB] yX8_owed cX8_owed 4 .int 2 [.int a0])
theorem idx_ok {L t : Nat} (hL : L ≤ 2560) (ht : 5 * t ≤ 3000) (h : ¬ nI L - nI 5 < nI (5 * t)) : 5 * t + 5 ≤ L := by
  rcases Nat.lt_or_ge L 5 with q | q
  · refine absurd ?_ h
    rw [Int32.lt_iff_toInt_lt, nI_toInt (by omega)]
    rcases (show L = 0 ∨ L = 1 ∨ L = 2 ∨ L = 3 ∨ L = 4 by omega) with rfl | rfl | rfl | rfl | rfl
    · show (-5 : Int) < _; omega
    · show (-4 : Int) < _; omega
    · show (-3 : Int) < _; omega
    · show (-2 : Int) < _; omega
    · show (-1 : Int) < _; omega
  · obtain ⟨a, rfl⟩ : ∃ a, L = a + 5 := ⟨L - 5, by omega⟩
    rw [show nI (a + 5) - nI 5 = nI a by rw [← nI_add, Int32.add_sub_cancel]] at h
    exact Nat.add_le_add_right (Nat.not_lt.mp fun z => h (nI_lt z (by omega))) 5
set_option maxHeartbeats 4000000 in
set_option maxRecDepth 100000 in
theorem law_loop {p : Program} {e : Env} {s : State} {m : MethodId} {below : List Frame} {meth : Method} {c : Code} (l : Launch) {D : va_G} {cy : Nat → ClassId} {b L : Nat} {xs : Nat → Int32} {LI : Nat → List Nat → XS → Prop} (C : xCx p m c code 7 s #[Value.ref b] RL D cy) (hr : meth.sig.returnType = ret) (hlocks : meth.locks = false) (hX : va_X b L xs s s.heap) (hbl : b < s.heap.size) (hLI : LIok LI) (hS : LawS l D cy LI) (hL : L ≤ 2560) :
    ∀ (n t : Nat), L + 5 ≤ 5 * t + n → 5 * t ≤ L + 5 → ∀ (ad : Nat → Nat) (Ls : List Nat) (st : XS) (H : Heap) (locs : List Loc) (ls : Array Slot), xH D cy ad Ls (lwA s) s st H locs → LI t Ls st → lv_has ls 7 (lwL b ad t) → W p l e room_1 s m #[Value.ref b] below meth c H locs (65 + 10 * t) (7000 + 600 * t) (lw_Z below #[Value.ref b] s) (F0 m 23 ls []) := by
  have hx := C.1; have hb := C.2.1
  have hbA : ¬ lwA s b := Nat.not_le.mpr hbl
  intro n
  induction n with
  | zero =>
    intro t hn ht ad Ls st H locs ls h hI hl
    have hl : lv_has ls 7 [(0, .ref b), (1, .ref (ad 0)), (2, .ref (ad 30)), (3, .ref (ad 90)), (4, .int (nI (5 * t)))] := hl
    refine lv_iload hx hb dL_law_23 (lv_at hl 4 rfl) ?_
    refine lv_aload_n hx hb dL_law_25 rfl (lv_at hl 0 rfl) ?_
    refine va_slen hx hb hX hbl hbA h.2.2.1 dL_law_26 ?_
    refine x_topi (y := nI L) rfl ?_
    refine lv_iconst (v := nI 5) hx hb dL_law_27 (by decide) ?_
    refine lv_isub hx hb dL_law_28 ?_
    refine lv_icmp_gt (tgt := 1367) hx hb dL_law_29 (by decide) (fun _ => ?_) (fun c29 => absurd (idx_ok hL (by omega) c29) (by omega))
    refine lv_iconst (v := 1) hx hb dL_law_1367 (by decide) ?_
    refine W.widen (k := 601024) (n := 7293034) (by omega) (by omega) ?_
    refine va_forget (fun q hq => h.2.2.1.2.2 q hq) ?_
    exact lw_ret hx hb hr hlocks dL_law_1368
  | succ n ih =>
    intro t hn ht ad Ls st H locs ls h hI hl
    have hl : lv_has ls 7 [(0, .ref b), (1, .ref (ad 0)), (2, .ref (ad 30)), (3, .ref (ad 90)), (4, .int (nI (5 * t)))] := hl
    refine lv_iload hx hb dL_law_23 (lv_at hl 4 rfl) ?_
    refine lv_aload_n hx hb dL_law_25 rfl (lv_at hl 0 rfl) ?_
    refine va_slen hx hb hX hbl hbA h.2.2.1 dL_law_26 ?_
    refine x_topi (y := nI L) rfl ?_
    refine lv_iconst (v := nI 5) hx hb dL_law_27 (by decide) ?_
    refine lv_isub hx hb dL_law_28 ?_
    refine lv_icmp_gt (tgt := 1367) hx hb dL_law_29 (by decide) (fun _ => ?_) (fun c29 => ?_)
    · refine lv_iconst (v := 1) hx hb dL_law_1367 (by decide) ?_
      refine W.widen (k := 601024) (n := 7293034) (by omega) (by omega) ?_
      refine va_forget (fun q hq => h.2.2.1.2.2 q hq) ?_
      exact lw_ret hx hb hr hlocks dL_law_1368
    have h5 := idx_ok hL (by omega) c29
    have hN : LK p l e s m below meth c D cy LI b t (65 + 10 * t) (7000 + 600 * t) (lw_Z below #[Value.ref b] s) := by
      intro ad Ls st H locs ls h hI hl
      have hl : lv_has ls 7 [(0, .ref b), (1, .ref (ad 0)), (2, .ref (ad 30)), (3, .ref (ad 90)), (4, .int (nI (5 * t)))] := hl
      refine lv_iinc (v := nI (5 * t + 5)) (lv' := [(4, .int (nI (5 * t + 5))), (0, .ref b), (1, .ref (ad 0)), (2, .ref (ad 30)), (3, .ref (ad 90))]) hx hb dL_law_1361 hl (k := 4) rfl (nI_add _ _) (by decide) rfl (fun ls hl => ?_)
      refine lv_goto (tgt := 23) hx hb dL_law_1364 (by decide) ?_
      rw [show 65 + 10 * t + 10 = 65 + 10 * (t + 1) by omega, show 7000 + 600 * t + 600 = 7000 + 600 * (t + 1) by omega]
      exact ih (t + 1) (by omega) (by omega) ad Ls st H locs ls h hI (lv_sub hl [1, 2, 3, 4, 0] rfl)
    refine lv_aload_n hx hb dL_law_32 rfl (lv_at hl 0 rfl) ?_
    refine lv_iload hx hb dL_law_33 (lv_at hl 4 rfl) ?_
    refine va_sld hx hb hX hbl hbA h.2.2.1 (vp_in_nI (by omega) (by omega)) dL_law_35 ?_
    refine x_topi (y := xs (5 * t)) (by rw [nI_clamp (by omega)]) ?_
    refine lv_bipush (v := nI 31) hx hb dL_law_36 (by decide) ?_
    refine lv_iand hx hb dL_law_38 ?_
    by_cases g0 : xs (5 * t) &&& nI 31 = nI 0
    · refine x_topi g0 ?_
      refine lv_tableIn (tgt := 128) (off := 89) hx hb dL_law_39 (by decide) (by decide) (by decide) (by decide) ?_
      exact k_type l C hX hbl hLI hS.1 h t hI h5 hL ⟨by omega, by omega⟩ hl hN
    by_cases g1 : xs (5 * t) &&& nI 31 = nI 1
    · refine x_topi g1 ?_
      refine lv_tableIn (tgt := 216) (off := 177) hx hb dL_law_39 (by decide) (by decide) (by decide) (by decide) ?_
      exact k_template l C hX hbl hLI hS.2.1 h t hI h5 hL ⟨by omega, by omega⟩ hl hN
    by_cases g2 : xs (5 * t) &&& nI 31 = nI 2
    · refine x_topi g2 ?_
      refine lv_tableIn (tgt := 272) (off := 233) hx hb dL_law_39 (by decide) (by decide) (by decide) (by decide) ?_
      exact k_pass l C hX hbl hLI hS.2.2.1 h t hI h5 hL ⟨by omega, by omega⟩ hl hN
    by_cases g3 : xs (5 * t) &&& nI 31 = nI 3
    · refine x_topi g3 ?_
      refine lv_tableIn (tgt := 328) (off := 289) hx hb dL_law_39 (by decide) (by decide) (by decide) (by decide) ?_
      exact k_rate l C hX hbl hLI hS.2.2.2.1 h t hI h5 hL ⟨by omega, by omega⟩ hl hN
    by_cases g4 : xs (5 * t) &&& nI 31 = nI 4
    · refine x_topi g4 ?_
      refine lv_tableIn (tgt := 420) (off := 381) hx hb dL_law_39 (by decide) (by decide) (by decide) (by decide) ?_
      exact k_telling l C hX hbl hLI hS.2.2.2.2.1 h t hI h5 hL ⟨by omega, by omega⟩ hl hN
    by_cases g5 : xs (5 * t) &&& nI 31 = nI 5
    · refine x_topi g5 ?_
      refine lv_tableIn (tgt := 500) (off := 461) hx hb dL_law_39 (by decide) (by decide) (by decide) (by decide) ?_
      exact k_round l C hX hbl hLI hS.2.2.2.2.2.1 h t hI h5 hL ⟨by omega, by omega⟩ hl hN
    by_cases g6 : xs (5 * t) &&& nI 31 = nI 6
    · refine x_topi g6 ?_
      refine lv_tableIn (tgt := 568) (off := 529) hx hb dL_law_39 (by decide) (by decide) (by decide) (by decide) ?_
      exact k_client l C hX hbl hLI hS.2.2.2.2.2.2.1 h t hI h5 hL ⟨by omega, by omega⟩ hl hN
    by_cases g7 : xs (5 * t) &&& nI 31 = nI 7
    · refine x_topi g7 ?_
      refine lv_tableIn (tgt := 636) (off := 597) hx hb dL_law_39 (by decide) (by decide) (by decide) (by decide) ?_
      exact k_line l C hX hbl hLI hS.2.2.2.2.2.2.2.1 h t hI h5 hL ⟨by omega, by omega⟩ hl hN
    by_cases g8 : xs (5 * t) &&& nI 31 = nI 8
    · refine x_topi g8 ?_
      refine lv_tableIn (tgt := 716) (off := 677) hx hb dL_law_39 (by decide) (by decide) (by decide) (by decide) ?_
      exact k_strike l C hX hbl hLI hS.2.2.2.2.2.2.2.2.1 h t hI h5 hL ⟨by omega, by omega⟩ hl hN
    by_cases g9 : xs (5 * t) &&& nI 31 = nI 9
    · refine x_topi g9 ?_
      refine lv_tableIn (tgt := 772) (off := 733) hx hb dL_law_39 (by decide) (by decide) (by decide) (by decide) ?_
      exact k_make l C hX hbl hLI hS.2.2.2.2.2.2.2.2.2.1 h t hI h5 hL ⟨by omega, by omega⟩ hl hN
    by_cases g10 : xs (5 * t) &&& nI 31 = nI 10
    · refine x_topi g10 ?_
      refine lv_tableIn (tgt := 828) (off := 789) hx hb dL_law_39 (by decide) (by decide) (by decide) (by decide) ?_
      exact k_invoice l C hX hbl hLI hS.2.2.2.2.2.2.2.2.2.2.1 h t hI h5 hL ⟨by omega, by omega⟩ hl hN
    by_cases g11 : xs (5 * t) &&& nI 31 = nI 11
    · refine x_topi g11 ?_
      refine lv_tableIn (tgt := 896) (off := 857) hx hb dL_law_39 (by decide) (by decide) (by decide) (by decide) ?_
      exact k_taxAnew l C hX hbl hLI hS.2.2.2.2.2.2.2.2.2.2.2.1 h t hI h5 hL ⟨by omega, by omega⟩ hl hN
    by_cases g12 : xs (5 * t) &&& nI 31 = nI 12
    · refine x_topi g12 ?_
      refine lv_tableIn (tgt := 952) (off := 913) hx hb dL_law_39 (by decide) (by decide) (by decide) (by decide) ?_
      exact k_used l C hX hbl hLI hS.2.2.2.2.2.2.2.2.2.2.2.2.1 h t hI h5 hL ⟨by omega, by omega⟩ hl hN
    by_cases g13 : xs (5 * t) &&& nI 31 = nI 13
    · refine x_topi g13 ?_
      refine lv_tableIn (tgt := 1020) (off := 981) hx hb dL_law_39 (by decide) (by decide) (by decide) (by decide) ?_
      exact k_written l C hX hbl hLI hS.2.2.2.2.2.2.2.2.2.2.2.2.2.1 h t hI h5 hL ⟨by omega, by omega⟩ hl hN
    by_cases g14 : xs (5 * t) &&& nI 31 = nI 14
    · refine x_topi g14 ?_
      refine lv_tableIn (tgt := 1100) (off := 1061) hx hb dL_law_39 (by decide) (by decide) (by decide) (by decide) ?_
      exact k_length l C hX hbl hLI hS.2.2.2.2.2.2.2.2.2.2.2.2.2.2.1 h t hI h5 hL ⟨by omega, by omega⟩ hl hN
    by_cases g15 : xs (5 * t) &&& nI 31 = nI 15
    · refine x_topi g15 ?_
      refine lv_tableIn (tgt := 1168) (off := 1129) hx hb dL_law_39 (by decide) (by decide) (by decide) (by decide) ?_
      exact k_settle l C hX hbl hLI hS.2.2.2.2.2.2.2.2.2.2.2.2.2.2.2.1 h t hI h5 hL ⟨by omega, by omega⟩ hl hN
    by_cases g16 : xs (5 * t) &&& nI 31 = nI 16
    · refine x_topi g16 ?_
      refine lv_tableIn (tgt := 1224) (off := 1185) hx hb dL_law_39 (by decide) (by decide) (by decide) (by decide) ?_
      exact k_notes l C hX hbl hLI hS.2.2.2.2.2.2.2.2.2.2.2.2.2.2.2.2.1 h t hI h5 hL ⟨by omega, by omega⟩ hl hN
    by_cases g17 : xs (5 * t) &&& nI 31 = nI 17
    · refine x_topi g17 ?_
      refine lv_tableIn (tgt := 1237) (off := 1198) hx hb dL_law_39 (by decide) (by decide) (by decide) (by decide) ?_
      exact k_note l C hX hbl hLI hS.2.2.2.2.2.2.2.2.2.2.2.2.2.2.2.2.2.1 h t hI h5 hL ⟨by omega, by omega⟩ hl hN
    by_cases g18 : xs (5 * t) &&& nI 31 = nI 18
    · refine x_topi g18 ?_
      refine lv_tableIn (tgt := 1305) (off := 1266) hx hb dL_law_39 (by decide) (by decide) (by decide) (by decide) ?_
      exact k_owed l C hX hbl hLI hS.2.2.2.2.2.2.2.2.2.2.2.2.2.2.2.2.2.2 h t hI h5 hL ⟨by omega, by omega⟩ hl hN
    refine x_tsw (tgt := 1361) hx hb dL_law_39 (by decide) (by decide) ?_ ?_
    · intro i hi
      rcases (show i = 0 ∨ i = 1 ∨ i = 2 ∨ i = 3 ∨ i = 4 ∨ i = 5 ∨ i = 6 ∨ i = 7 ∨ i = 8 ∨ i = 9 ∨ i = 10 ∨ i = 11 ∨ i = 12 ∨ i = 13 ∨ i = 14 ∨ i = 15 ∨ i = 16 ∨ i = 17 ∨ i = 18 by have hi9 : i < 19 := hi; omega) with rfl | rfl | rfl | rfl | rfl | rfl | rfl | rfl | rfl | rfl | rfl | rfl | rfl | rfl | rfl | rfl | rfl | rfl | rfl
      all_goals first | (intro hne; exact absurd rfl hne) | (intro _ q9; first | exact g0 (x_toInt q9 (by decide)) | exact g1 (x_toInt q9 (by decide)) | exact g2 (x_toInt q9 (by decide)) | exact g3 (x_toInt q9 (by decide)) | exact g4 (x_toInt q9 (by decide)) | exact g5 (x_toInt q9 (by decide)) | exact g6 (x_toInt q9 (by decide)) | exact g7 (x_toInt q9 (by decide)) | exact g8 (x_toInt q9 (by decide)) | exact g9 (x_toInt q9 (by decide)) | exact g10 (x_toInt q9 (by decide)) | exact g11 (x_toInt q9 (by decide)) | exact g12 (x_toInt q9 (by decide)) | exact g13 (x_toInt q9 (by decide)) | exact g14 (x_toInt q9 (by decide)) | exact g15 (x_toInt q9 (by decide)) | exact g16 (x_toInt q9 (by decide)) | exact g17 (x_toInt q9 (by decide)) | exact g18 (x_toInt q9 (by decide)))
    · exact W.widen (k := 65 + 10 * t + 10) (n := 7000 + 600 * t + 600) (by omega) (by omega) (hN ad Ls st H locs ls h (hLI _ _ _ hI).2.2.2 hl)
