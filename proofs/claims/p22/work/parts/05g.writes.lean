/-! ===== written, length ===== -/
def chK (x : Int32) : Prop := ∃ n, n < 65536 ∧ x = nI n
theorem wPut_ch {wn ch : Int32} {x : Int32 × Int32} (h : chK x.2) (hc : chK ch) : chK (wPut wn x ch).2 := by
  unfold wPut
  show chK (if x.1 = wn then ch else x.2)
  split
  · exact hc
  · exact h
theorem wPuts_ch {wn : Int32} : ∀ (l : List Int32) (x : Int32 × Int32), chK x.2 → (∀ c ∈ l, chK c) → chK (wPuts wn x l).2 := by
  intro l
  induction l with
  | nil => intro x h _; exact h
  | cons a l ih => intro x h hl; exact ih _ (wPut_ch h (hl a List.mem_cons_self)) (fun c hc => hl c (List.mem_cons_of_mem _ hc))
theorem dgT_ch (q : Nat) : ∀ t, ∀ c ∈ dgT q t, chK c := by
  intro t
  induction t with
  | zero => intro c hc; cases hc
  | succ t ih =>
    intro c hc
    rcases List.mem_cons.mp hc with rfl | hc
    · exact ⟨_, by omega, rfl⟩
    · exact ih c hc
theorem numT_ch (q w : Nat) : ∀ c ∈ numT q w, chK c := by
  intro c hc
  rcases List.mem_append.mp hc with hc | hc
  · exact ⟨32, by decide, (List.mem_replicate.mp hc).2⟩
  · exact dgT_ch q _ c hc
theorem stepS_ch (D F S : Nat → Int32) (nm : Int32 → Int32 → Int32) (n : Nat) (wn i : Int32) (w : WS) (h : chK w.2.2.2.2.2) : chK (stepS D F S nm n wn i w).2.2.2.2.2.2 := by
  unfold stepS
  split
  · exact wPut_ch h (chr_n _)
  · split
    · exact wPuts_ch _ _ h (numT_ch _ _)
    · split
      · exact h
      · split
        · exact h
        · split
          · exact h
          · split
            · exact h
            · split
              · exact h
              · split
                · exact h
                · split
                  · exact h
                  · exact h
theorem runS_ch (D F S : Nat → Int32) (nm : Int32 → Int32 → Int32) (n : Nat) (wn z : Int32) : ∀ (k : Nat) (x : Int32 × WS), chK x.2.2.2.2.2.2 → chK (runS D F S nm n wn z k x).2.2.2.2.2 := by
  intro k
  induction k with
  | zero => intro x h; exact h
  | succ k ih =>
    intro x h
    unfold runS
    split
    · exact ih _ (stepS_ch _ _ _ _ _ _ _ _ h)
    · exact h
theorem wr_k9 (st : XS) (w : WS) : gi (wrS st w) 3 3 = w.2.2.2.2.2 := by obtain ⟨dg, ln, lf, sm, c, kp⟩ := w; exact wr_k ..
theorem wr_c9 (st : XS) (w : WS) : gi (wrS st w) 1 3 = w.2.2.2.2.1 := by obtain ⟨dg, ln, lf, sm, c, kp⟩ := w; exact wr_c ..
/-- an invoice written by a form -/
def wrtS (st : XS) (b n g gn M : Nat) (wn : Int32) : WS := runS (ga st (300 + 4 * g + 1)) (ga st (300 + 4 * g + 2)) (ga st (300 + 4 * g + 3)) (numS st b n) n wn (nI gn) M (nI 0, ga st 12, -1, 0, 0, nI 0, nI 32)
def kWrit (nB nF : Nat) (i t p : Int32) : Nat := if bdI nB i then 1 else if bdI nF t then 1 else if 0 ≤ p then 0 else 1
def kLen (nB nF : Nat) (i t : Int32) : Nat := if bdI nB i then 1 else if bdI nF t then 1 else 0

set_option maxHeartbeats 4000000 in
set_option maxRecDepth 100000 in
theorem c_X7_written (l : Launch) (hl0 : l.stackTraces = false) (D : va_G) (cy : Nat → ClassId) (ad : Nat → Nat) (Ls : List Nat) (st : XS) (hL : ∀ k, xC k = true → k ∈ Ls) (nB : Nat) (hnB : nB ≤ 30) (hrow : ∀ i, i < 30 → gb st 9 i = if i < nB then some (100 + 6 * i) else none) (hBL : ∀ b, b ≤ nB → ∀ j, j < 6 → 100 + 6 * b + j ∈ Ls) (ln : Nat → Nat) (hln : ∀ b, b ≤ nB → ln b ≤ 6 ∧ gi st 3 (100 + 6 * b) = nI (ln b)) (nF : Nat) (hnF : nF ≤ 6) (fm fz : Nat → Nat) (hrowF : ∀ i, i < 6 → gb st 6 i = if i < nF then some (300 + 4 * fm i) else none) (hFm : ∀ j, j < nF → fm j < 40 ∧ (∀ i, i < 4 → 300 + 4 * fm j + i ∈ Ls) ∧ gi st 3 (300 + 4 * fm j) = nI (fz j)) (hnum : ∀ b, b < nB → 0 < ln b ∧ ∀ name idx, lnOk (ln b) idx → numS st b (ln b) name idx = nI (numS st b (ln b) name idx).toNatClampNeg) (M : Nat) (hM : M = 1000000) (x y9 p9 : Int32) : xXi l yX7_written cX7_written 6 (some .char) 14 4 24 D cy ad Ls st [.ref (ad 0), .int x, .int y9, .int p9] (fun E => exK (kWrit nB nF x y9 p9) [eIOB] E) (fun r u => kWrit nB nF x y9 p9 = 0 ∧ ∃ b j : Nat, b < nB ∧ x = nI b ∧ j < nF ∧ y9 = nI j ∧ r = (wrtS st b (ln b) (fm j) (fz j) M p9).2.2.2.2.2 ∧ u = wrS (si st 2 3 p9) (wrtS st b (ln b) (fm j) (fz j) M p9)) := by
  intro sz
  refine x_ofX sz (by decide +kernel) (Nat.le_of_ble_eq_true rfl) ?_
  intro p e s m args below meth c ls hx hb hr hlocks hT0 C hsz h hl
  have hl : lv_has ls 6 [(0, .ref (ad 0)), (1, .int x), (2, .int y9), (3, .int p9)] := hl
  obtain ⟨H, eH⟩ : ∃ z, z = s.heap := ⟨_, rfl⟩
  obtain ⟨locs, eL⟩ : ∃ z : List Loc, z = [] := ⟨_, rfl⟩
  rw [← eH, ← eL] at h
  rw [← eH, ← eL]
  clear eH eL
  refine lv_aload_n hx hb dX7_written_0 rfl (lv_at hl 0 rfl) ?_
  refine lv_iload_n hx hb dX7_written_1 rfl (lv_at hl 1 rfl) ?_
  refine cx_X7_215 C h (hL 0 rfl) rfl (c_X7_findBill l hl0 D cy ad Ls st hL nB hnB hrow x) (x_roomX (by omega)) ⟨Nat.le_of_ble_eq_true rfl, Nat.le_of_ble_eq_true rfl⟩ hl.1 (Nat.le_of_ble_eq_true rfl) dX7_written_2 (x_up C hT0 hlocks rfl (fun E z9 => exK_i 0 (by simp only [kWrit, if_true, if_false, true_or, or_true, false_or, or_false, or_self, not_true_eq_false, not_false_eq_true, Bool.false_eq_true, eq_self, and_self, and_true, true_and, false_and, and_false, z9.2]) (by rw [z9.1]; rfl)) ⟨Nat.le_of_ble_eq_true rfl, Nat.le_of_ble_eq_true rfl⟩) (fun r2 u1 H locs hp h => ?_)
  obtain ⟨eu1, b, hbn, eb, er⟩ := hp; rw [eu1] at h; clear eu1 u1; subst er
  have g9 : ¬ bdI nB x := by rw [eb]; exact bdI_nI hbn (by omega)
  have hB := hBL b (by omega)
  have hb33 : b < 33 := by omega
  obtain ⟨hn6, hcn⟩ := hln b (by omega)
  obtain ⟨nb, enb⟩ : ∃ z, z = ln b := ⟨_, rfl⟩
  rw [← enb] at hn6 hcn
  refine x_topref (q := ad (100 + 6 * b)) rfl ?_
  refine lv_astore (lv' := [(4, .ref (ad (100 + 6 * b))), (0, .ref (ad 0)), (1, .int x), (2, .int y9), (3, .int p9)]) hx hb dX7_written_5 hl (by decide) rfl (fun ls hl => ?_)
  refine lv_aload_n hx hb dX7_written_7 rfl (lv_at hl 1 rfl) ?_
  refine lv_iload_n hx hb dX7_written_8 rfl (lv_at hl 3 rfl) ?_
  refine cx_X7_234 C h (hL 0 rfl) rfl (c_X7_findForm l hl0 D cy ad Ls st hL nF hnF fm hrowF y9) (x_roomX (by omega)) ⟨Nat.le_of_ble_eq_true rfl, Nat.le_of_ble_eq_true rfl⟩ hl.1 (Nat.le_of_ble_eq_true rfl) dX7_written_9 (x_up C hT0 hlocks rfl (fun E z9 => exK_i 0 (by simp only [kWrit, if_true, if_false, true_or, or_true, false_or, or_false, or_self, not_true_eq_false, not_false_eq_true, Bool.false_eq_true, eq_self, and_self, and_true, true_and, false_and, and_false, g9, z9.2]) (by rw [z9.1]; rfl)) ⟨Nat.le_of_ble_eq_true rfl, Nat.le_of_ble_eq_true rfl⟩) (fun r4 u3 H locs hp h => ?_)
  obtain ⟨eu3, j9, hj9, ej, er⟩ := hp; rw [eu3] at h; clear eu3 u3; subst er
  have g8 : ¬ bdI nF y9 := by rw [ej]; exact bdI_nI hj9 (by omega)
  obtain ⟨hg40, hG, hgn⟩ := hFm j9 hj9
  obtain ⟨g, eg⟩ : ∃ z, z = fm j9 := ⟨_, rfl⟩
  rw [← eg] at hg40 hG hgn ⊢
  obtain ⟨gn, egn⟩ : ∃ z, z = fz j9 := ⟨_, rfl⟩
  rw [← egn] at hgn
  refine x_topref (q := ad (300 + 4 * g)) rfl ?_
  refine lv_astore (lv' := [(5, .ref (ad (300 + 4 * g))), (4, .ref (ad (100 + 6 * b))), (0, .ref (ad 0)), (1, .int x), (2, .int y9), (3, .int p9)]) hx hb dX7_written_12 hl (by decide) rfl (fun ls hl => ?_)
  refine lv_iload_n hx hb dX7_written_14 rfl (lv_at hl 5 rfl) ?_
  refine lv_if_ge (tgt := 28) hx hb dX7_written_15 (by decide) (fun c15 => ?_) (fun c15 => ?_)
  · refine lv_aload_n hx hb dX7_written_28 rfl (lv_at hl 2 rfl) ?_
    refine gf_X7_19 C h (hL 0 rfl) rfl (k2 := 3) rfl dX7_written_29 ?_
    refine lv_aload hx hb dX7_written_32 (lv_at hl 1 rfl) ?_
    refine lv_aload hx hb dX7_written_34 (lv_at hl 0 rfl) ?_
    refine lv_iload_n hx hb dX7_written_36 rfl (lv_at hl 5 rfl) ?_
    refine cl_X7_240 C h (hL 3 rfl) rfl (c_X6_write l D cy ad Ls st hL p9 hb33 hB nb hn6 hcn (by rw [enb]; exact (hnum b hbn).1) (by rw [enb]; exact (hnum b hbn).2) hg40 hG gn hgn M hM) (x_roomX (by omega)) ⟨Nat.le_of_ble_eq_true rfl, Nat.le_of_ble_eq_true rfl⟩ hl.1 (Nat.le_of_ble_eq_true rfl) dX7_written_37 (fun u5 H locs hp h => ?_)
    have eu5 := hp; clear hp
    replace eu5 : u5 = wrS (si st 2 3 p9) (wrtS st b nb g gn M p9) := eu5
    have ku5 : gi u5 3 3 = (wrtS st b nb g gn M p9).2.2.2.2.2 := by rw [eu5]; exact wr_k9 ..
    have cu5 : gi u5 1 3 = (wrtS st b nb g gn M p9).2.2.2.2.1 := by rw [eu5]; exact wr_c9 ..
    refine lv_aload_n hx hb dX7_written_40 rfl (lv_at hl 2 rfl) ?_
    refine gf_X7_19 C h (hL 0 rfl) rfl (k2 := 3) rfl dX7_written_41 ?_
    refine gf_X7_244 C h (hL 3 rfl) rfl dX7_written_44 ?_
    refine x_topi ku5 ?_
    exact x_zretX C hr hlocks (by obtain ⟨q5, h5, e5⟩ := runS_ch _ _ _ _ _ _ _ M (nI 0, ga st 12, -1, 0, 0, nI 0, nI 32) (show chK (nI 32) from ⟨32, by decide, rfl⟩); rw [show (wrtS st b nb g gn M p9).2.2.2.2.2 = nI q5 from e5]; exact (chr_ok0 h5).1) h (Nat.le_of_ble_eq_true rfl) (Nat.le_of_ble_eq_true rfl) ⟨by simp only [kWrit, if_true, if_false, true_or, or_true, false_or, or_false, or_self, not_true_eq_false, not_false_eq_true, Bool.false_eq_true, eq_self, and_self, and_true, true_and, false_and, and_false, g9, g8, c15], b, j9, hbn, eb, hj9, ej, by rw [← enb, ← eg, ← egn], by rw [← enb, ← eg, ← egn]; exact eu5⟩ dX7_written_47
  · exact x_thr C h hl0 hT0 hlocks th_IOB (List.mem_of_getElem? (i := 18) rfl) hl.1 ⟨Nat.le_of_ble_eq_true rfl, Nat.le_of_ble_eq_true rfl⟩ ⟨Nat.le_of_ble_eq_true rfl, Nat.le_of_ble_eq_true rfl⟩ ⟨Nat.le_of_ble_eq_true rfl, Nat.le_of_ble_eq_true rfl⟩ rfl (exK_i 0 (by simp only [kWrit, if_true, if_false, true_or, or_true, false_or, or_false, or_self, not_true_eq_false, not_false_eq_true, Bool.false_eq_true, eq_self, and_self, and_true, true_and, false_and, and_false, g9, g8, c15]) rfl) dX7_written_18 dX7_written_21 dX7_written_22 dX7_written_24 dX7_written_27

set_option maxHeartbeats 4000000 in
set_option maxRecDepth 100000 in
theorem c_X7_length (l : Launch) (hl0 : l.stackTraces = false) (D : va_G) (cy : Nat → ClassId) (ad : Nat → Nat) (Ls : List Nat) (st : XS) (hL : ∀ k, xC k = true → k ∈ Ls) (nB : Nat) (hnB : nB ≤ 30) (hrow : ∀ i, i < 30 → gb st 9 i = if i < nB then some (100 + 6 * i) else none) (hBL : ∀ b, b ≤ nB → ∀ j, j < 6 → 100 + 6 * b + j ∈ Ls) (ln : Nat → Nat) (hln : ∀ b, b ≤ nB → ln b ≤ 6 ∧ gi st 3 (100 + 6 * b) = nI (ln b)) (nF : Nat) (hnF : nF ≤ 6) (fm fz : Nat → Nat) (hrowF : ∀ i, i < 6 → gb st 6 i = if i < nF then some (300 + 4 * fm i) else none) (hFm : ∀ j, j < nF → fm j < 40 ∧ (∀ i, i < 4 → 300 + 4 * fm j + i ∈ Ls) ∧ gi st 3 (300 + 4 * fm j) = nI (fz j)) (hnum : ∀ b, b < nB → 0 < ln b ∧ ∀ name idx, lnOk (ln b) idx → numS st b (ln b) name idx = nI (numS st b (ln b) name idx).toNatClampNeg) (M : Nat) (hM : M = 1000000) (x y9 : Int32) : xXi l yX7_length cX7_length 5 (some .int) 14 4 24 D cy ad Ls st [.ref (ad 0), .int x, .int y9] (fun E => exK (kLen nB nF x y9) [eIOB] E) (fun r u => kLen nB nF x y9 = 0 ∧ ∃ b j : Nat, b < nB ∧ x = nI b ∧ j < nF ∧ y9 = nI j ∧ r = (wrtS st b (ln b) (fm j) (fz j) M (-1)).2.2.2.2.1 ∧ u = wrS (si st 2 3 (-1)) (wrtS st b (ln b) (fm j) (fz j) M (-1))) := by
  intro sz
  refine x_ofX sz (by decide +kernel) (Nat.le_of_ble_eq_true rfl) ?_
  intro p e s m args below meth c ls hx hb hr hlocks hT0 C hsz h hl
  have hl : lv_has ls 5 [(0, .ref (ad 0)), (1, .int x), (2, .int y9)] := hl
  obtain ⟨H, eH⟩ : ∃ z, z = s.heap := ⟨_, rfl⟩
  obtain ⟨locs, eL⟩ : ∃ z : List Loc, z = [] := ⟨_, rfl⟩
  rw [← eH, ← eL] at h
  rw [← eH, ← eL]
  clear eH eL
  refine lv_aload_n hx hb dX7_length_0 rfl (lv_at hl 0 rfl) ?_
  refine lv_iload_n hx hb dX7_length_1 rfl (lv_at hl 1 rfl) ?_
  refine cx_X7_215 C h (hL 0 rfl) rfl (c_X7_findBill l hl0 D cy ad Ls st hL nB hnB hrow x) (x_roomX (by omega)) ⟨Nat.le_of_ble_eq_true rfl, Nat.le_of_ble_eq_true rfl⟩ hl.1 (Nat.le_of_ble_eq_true rfl) dX7_length_2 (x_up C hT0 hlocks rfl (fun E z9 => exK_i 0 (by simp only [kLen, if_true, if_false, true_or, or_true, false_or, or_false, or_self, not_true_eq_false, not_false_eq_true, Bool.false_eq_true, eq_self, and_self, and_true, true_and, false_and, and_false, z9.2]) (by rw [z9.1]; rfl)) ⟨Nat.le_of_ble_eq_true rfl, Nat.le_of_ble_eq_true rfl⟩) (fun r2 u1 H locs hp h => ?_)
  obtain ⟨eu1, b, hbn, eb, er⟩ := hp; rw [eu1] at h; clear eu1 u1; subst er
  have g9 : ¬ bdI nB x := by rw [eb]; exact bdI_nI hbn (by omega)
  have hB := hBL b (by omega)
  have hb33 : b < 33 := by omega
  obtain ⟨hn6, hcn⟩ := hln b (by omega)
  obtain ⟨nb, enb⟩ : ∃ z, z = ln b := ⟨_, rfl⟩
  rw [← enb] at hn6 hcn
  refine x_topref (q := ad (100 + 6 * b)) rfl ?_
  refine lv_astore_n (lv' := [(3, .ref (ad (100 + 6 * b))), (0, .ref (ad 0)), (1, .int x), (2, .int y9)]) hx hb dX7_length_5 rfl hl (by decide) rfl (fun ls hl => ?_)
  refine lv_aload_n hx hb dX7_length_6 rfl (lv_at hl 1 rfl) ?_
  refine lv_iload_n hx hb dX7_length_7 rfl (lv_at hl 3 rfl) ?_
  refine cx_X7_234 C h (hL 0 rfl) rfl (c_X7_findForm l hl0 D cy ad Ls st hL nF hnF fm hrowF y9) (x_roomX (by omega)) ⟨Nat.le_of_ble_eq_true rfl, Nat.le_of_ble_eq_true rfl⟩ hl.1 (Nat.le_of_ble_eq_true rfl) dX7_length_8 (x_up C hT0 hlocks rfl (fun E z9 => exK_i 0 (by simp only [kLen, if_true, if_false, true_or, or_true, false_or, or_false, or_self, not_true_eq_false, not_false_eq_true, Bool.false_eq_true, eq_self, and_self, and_true, true_and, false_and, and_false, g9, z9.2]) (by rw [z9.1]; rfl)) ⟨Nat.le_of_ble_eq_true rfl, Nat.le_of_ble_eq_true rfl⟩) (fun r4 u3 H locs hp h => ?_)
  obtain ⟨eu3, j9, hj9, ej, er⟩ := hp; rw [eu3] at h; clear eu3 u3; subst er
  have g8 : ¬ bdI nF y9 := by rw [ej]; exact bdI_nI hj9 (by omega)
  obtain ⟨hg40, hG, hgn⟩ := hFm j9 hj9
  obtain ⟨g, eg⟩ : ∃ z, z = fm j9 := ⟨_, rfl⟩
  rw [← eg] at hg40 hG hgn ⊢
  obtain ⟨gn, egn⟩ : ∃ z, z = fz j9 := ⟨_, rfl⟩
  rw [← egn] at hgn
  refine x_topref (q := ad (300 + 4 * g)) rfl ?_
  refine lv_astore (lv' := [(4, .ref (ad (300 + 4 * g))), (3, .ref (ad (100 + 6 * b))), (0, .ref (ad 0)), (1, .int x), (2, .int y9)]) hx hb dX7_length_11 hl (by decide) rfl (fun ls hl => ?_)
  refine lv_aload_n hx hb dX7_length_13 rfl (lv_at hl 2 rfl) ?_
  refine gf_X7_19 C h (hL 0 rfl) rfl (k2 := 3) rfl dX7_length_14 ?_
  refine lv_aload_n hx hb dX7_length_17 rfl (lv_at hl 1 rfl) ?_
  refine lv_aload hx hb dX7_length_18 (lv_at hl 0 rfl) ?_
  refine lv_iconst (v := (-1)) hx hb dX7_length_20 (by decide) ?_
  refine cl_X7_240 C h (hL 3 rfl) rfl (c_X6_write l D cy ad Ls st hL (-1) hb33 hB nb hn6 hcn (by rw [enb]; exact (hnum b hbn).1) (by rw [enb]; exact (hnum b hbn).2) hg40 hG gn hgn M hM) (x_roomX (by omega)) ⟨Nat.le_of_ble_eq_true rfl, Nat.le_of_ble_eq_true rfl⟩ hl.1 (Nat.le_of_ble_eq_true rfl) dX7_length_21 (fun u5 H locs hp h => ?_)
  have eu5 := hp; clear hp
  replace eu5 : u5 = wrS (si st 2 3 (-1)) (wrtS st b nb g gn M (-1)) := eu5
  have ku5 : gi u5 3 3 = (wrtS st b nb g gn M (-1)).2.2.2.2.2 := by rw [eu5]; exact wr_k9 ..
  have cu5 : gi u5 1 3 = (wrtS st b nb g gn M (-1)).2.2.2.2.1 := by rw [eu5]; exact wr_c9 ..
  refine lv_aload_n hx hb dX7_length_24 rfl (lv_at hl 2 rfl) ?_
  refine gf_X7_19 C h (hL 0 rfl) rfl (k2 := 3) rfl dX7_length_25 ?_
  refine gf_X7_248 C h (hL 3 rfl) rfl dX7_length_28 ?_
  refine x_topi cu5 ?_
  exact x_iretX C hr hlocks h (Nat.le_of_ble_eq_true rfl) (Nat.le_of_ble_eq_true rfl) ⟨by simp only [kLen, if_true, if_false, true_or, or_true, false_or, or_false, or_self, not_true_eq_false, not_false_eq_true, Bool.false_eq_true, eq_self, and_self, and_true, true_and, false_and, and_false, g9, g8], b, j9, hbn, eb, hj9, ej, by rw [← enb, ← eg, ← egn], by rw [← enb, ← eg, ← egn]; exact eu5⟩ dX7_length_31
