/-! ===== the reference: template ===== -/
def kbTmpl (n : Nat) (t : Int32) : Nat := if !inR t (nI 0) (nI n) then 1 else if t = nI 6 then 2 else 0
def cpS (tx pg : Nat → Int32) (bs k : Nat) : Nat → Int32 := fun i => if bs ≤ i ∧ i < bs + k then pg (i - bs) else tx i
theorem cpS_0 (tx pg : Nat → Int32) (bs : Nat) : cpS tx pg bs 0 = tx := funext fun i => if_neg (by omega)
theorem cpS_s (tx pg : Nat → Int32) (bs k : Nat) : upd (cpS tx pg bs k) (bs + k) (pg k) = cpS tx pg bs (k + 1) := by
  funext i
  show (if i = bs + k then pg k else cpS tx pg bs k i) = _
  unfold cpS
  by_cases h : i = bs + k
  · rw [if_pos h, if_pos (by omega), h, Nat.add_sub_cancel_left]
  · rw [if_neg h]
    by_cases h2 : bs ≤ i ∧ i < bs + k
    · rw [if_pos h2, if_pos (by omega)]
    · rw [if_neg h2, if_neg (by omega)]
theorem sa_sb (st : XS) (k : Nat) (v w : Nat → Int32) : sa (sa st k v) k w = sa st k w := by
  refine XS_ext (fun _ _ => rfl) (fun _ _ => rfl) (fun _ _ => rfl) (fun i => ?_) (fun _ => rfl)
  rw [ga_sa, ga_sa, ga_sa]; split <;> rfl
theorem sa_ie {st : XS} {k : Nat} {v : Nat → Int32} (h : ga st k = v) : sa st k v = st := by
  refine XS_ext (fun _ _ => rfl) (fun _ _ => rfl) (fun _ _ => rfl) (fun i => ?_) (fun _ => rfl)
  rw [ga_sa]; split
  · next e => rw [e, h]
  · rfl
theorem rq_id (st : XS) : rqS st (gi st 9 30, gi st 10 30, gi st 11 30, gi st 12 30, ga st 43, ga st 44, ga st 45, ga st 36, ga st 37, ga st 38) = st := by
  refine XS_ext (fun F k => ?_) (fun _ _ => rfl) (fun _ _ => rfl) (fun k => ?_) (fun _ => rfl)
  · rw [gi_rm]; repeat' split
    all_goals first | rfl | (next h => obtain ⟨rfl, rfl⟩ := h; rfl)
  · rw [ga_rm]; repeat' split
    all_goals first | rfl | (next h => subst h; rfl)
theorem rq_rq (st : XS) (x y : MR) : rqS (rqS st x) y = rqS st y := by
  obtain ⟨a, f, d, q, al, bg, mi, mk, bo, ot⟩ := y
  refine XS_ext (fun F k => ?_) (fun _ _ => rfl) (fun _ _ => rfl) (fun k => ?_) (fun _ => rfl)
  · rw [gi_rm, gi_rm]; repeat' split
    all_goals first | rfl | exact gi_rmo (by omega) | (rw [gi_rm]; repeat' split) ; all_goals first | rfl | omega
  · rw [ga_rm, ga_rm]; repeat' split
    all_goals first | rfl | (rw [ga_rm]; repeat' split) ; all_goals first | rfl | omega
/-- a template is kept -/
def mtZ (v : XS) (st : XS) (np n j : Nat) : XS := si (si (sa (sa v 35 (cpS (ga st 35) (ga st 32) (160 * j) np)) 34 (upd (ga st 34) j (nI np))) 3 30 (nI (n + if j = n then 1 else 0))) 1 30 (nI 0)

theorem pqStep_f {pg : Nat → Int32} {np bs : Nat} {x : PM} (ha : x.1 < np) (hf : x.2.1 = none) : (pqStep pg np bs x).1 ≤ np + 1 ∧ ∀ f, (pqStep pg np bs x).2.1 = some f → f ≤ np + 1 := by
  obtain ⟨a, f, S, q, mk, bo, ot⟩ := x
  change a < np at ha
  have hC := pqC_le (pg := pg) (np := np) (il := ilS S) (a + 1)
  have hF := pqF_le (pg := pg) (np := np) (a + 1)
  by_cases hb : pg a = nI 123
  · rw [pqStep_br _ _ _ hb]
    split
    · exact ⟨by show a + 1 + 1 ≤ _; omega, fun f e => by cases e⟩
    · split
      · next h => 
        have h1 := hC.2 (msg_lt h.1 (by decide))
        split
        · exact ⟨by show (pqC pg np (ilS S) (a + 1)).1 ≤ _; omega, fun f e => by cases e⟩
        · exact ⟨by show (pqC pg np (ilS S) (a + 1)).1 ≤ _; omega, fun f e => by cases e; omega⟩
      · split
        · next h =>
          have h1 := hF.2 (msg_nm h)
          refine ⟨by show (pqF pg np (a + 1)).1 + 1 ≤ _; omega, fun f e => ?_⟩
          change (if (pqF pg np (a + 1)).2 then none else some (pqF pg np (a + 1)).1) = some f at e
          split at e
          · cases e
          · cases e; omega
        · exact ⟨by show a + 1 ≤ _; omega, fun f e => by cases e; omega⟩
  · rcases S with _ | ⟨⟨b, b0, mo⟩, S⟩
    · rw [pqStep_nil _ _ _ hb]; split
      · exact ⟨by show a ≤ _; omega, fun f e => by cases e; omega⟩
      · exact ⟨by show a + 1 ≤ _; omega, fun f e => by cases e⟩
    · rcases b with _ | _
      · rcases mo with _ | j
        · rw [pqStep_n _ _ _ hb]; split
          · exact ⟨by show a + 1 ≤ _; omega, fun f e => by cases e⟩
          · split
            · exact ⟨by show a + 1 ≤ _; omega, fun f e => by cases e⟩
            · exact ⟨by show a + 1 ≤ _; omega, fun f e => by cases e⟩
        · rw [pqStep_s _ _ _ hb]; split
          · exact ⟨by show a + 1 ≤ _; omega, fun f e => by cases e⟩
          · split
            · exact ⟨by show a ≤ _; omega, fun f e => by cases e; omega⟩
            · exact ⟨by show a + 1 ≤ _; omega, fun f e => by cases e⟩
      · rw [pqStep_t _ _ _ hb]; split
        · exact ⟨by show a ≤ _; omega, fun f e => by cases e; omega⟩
        · split
          · exact ⟨by show a + 2 ≤ _; omega, fun f e => by cases e⟩
          · exact ⟨by show a + 1 ≤ _; omega, fun f e => by cases e⟩
theorem pqRun_f {pg : Nat → Int32} {np bs : Nat} : ∀ (n : Nat) (x : PM), (x.1 ≤ np + 1 ∧ ∀ f, x.2.1 = some f → f ≤ np + 1) → (pqRun pg np bs n x).1 ≤ np + 1 ∧ ∀ f, (pqRun pg np bs n x).2.1 = some f → f ≤ np + 1 := by
  intro n
  induction n with
  | zero => intro x h; exact h
  | succ n ih =>
    intro x h
    rw [pqRun]
    split
    · next hc => exact ih _ (pqStep_f hc.1 hc.2)
    · exact h
theorem pqRd_f {pg : Nat → Int32} {np bs : Nat} {mk bo ot : Nat → Int32} {a f : Nat} {y : List (Bool × Nat × Option Nat) × Int32 × (Nat → Int32) × (Nat → Int32) × (Nat → Int32)} (h : pqRd pg np bs mk bo ot = (a, some f, y)) : f ≤ np + 1 := by
  have h1 := pqRun_f (pg := pg) (np := np) (bs := bs) 400 (0, none, [], nI 0, mk, bo, ot) ⟨Nat.zero_le _, fun f e => by cases e⟩
  rw [pqRd, pqFin] at h
  split at h
  · have e := congrArg (fun z : PM => z.2.1) h
    cases e
    exact h1.1
  · rw [h] at h1
    exact h1.2 f rfl

set_option maxHeartbeats 4000000 in
set_option maxRecDepth 100000 in
theorem c_X8_template (l : Launch) (D : va_G) (cy : Nat → ClassId) (ad : Nat → Nat) (Ls : List Nat) (st : XS) (hM : ∀ k, k ∈ LsM → k ∈ Ls) (np : Nat) (hnp160 : np ≤ 160) (hnp : gi st 1 30 = nI np) (n : Nat) (hn6 : n ≤ 6) (hn3 : gi st 3 30 = nI n) (t9 : Int32) : xMi l yX8_template cX8_template 4 (some .int) 7 D cy ad Ls st [.ref (ad 30), .int t9] (fun r u => (¬ kbTmpl n t9 = 0 ∧ r = nI 0 ∧ u = si st 0 30 (nI (kbTmpl n t9))) ∨ (kbTmpl n t9 = 0 ∧ ∃ j al1 bg1 mi1, j < 6 ∧ j ≤ n ∧ t9 = nI j ∧ ((∃ f, (pqRd (ga st 32) np 960 (ga st 36) (ga st 37) (ga st 38)).2.1 = some f ∧ r = (-1) - nI f ∧ u = si (rqS (si st 0 30 (nI 0)) (rmT (pqRd (ga st 32) np 960 (ga st 36) (ga st 37) (ga st 38)) al1 bg1 mi1)) 1 30 (nI 0)) ∨ ((pqRd (ga st 32) np 960 (ga st 36) (ga st 37) (ga st 38)).2.1 = none ∧ r = (pqRd (ga st 32) np (160 * j) (pqRd (ga st 32) np 960 (ga st 36) (ga st 37) (ga st 38)).2.2.2.2.1 (pqRd (ga st 32) np 960 (ga st 36) (ga st 37) (ga st 38)).2.2.2.2.2.1 (pqRd (ga st 32) np 960 (ga st 36) (ga st 37) (ga st 38)).2.2.2.2.2.2).2.2.2.1 ∧ u = mtZ (rqS (si st 0 30 (nI 0)) (rmT (pqRd (ga st 32) np (160 * j) (pqRd (ga st 32) np 960 (ga st 36) (ga st 37) (ga st 38)).2.2.2.2.1 (pqRd (ga st 32) np 960 (ga st 36) (ga st 37) (ga st 38)).2.2.2.2.2.1 (pqRd (ga st 32) np 960 (ga st 36) (ga st 37) (ga st 38)).2.2.2.2.2.2) al1 bg1 mi1)) st np n j)))) := by
  intro sz
  refine x_of sz (by decide +kernel) (Nat.le_of_ble_eq_true rfl) ?_
  intro p e s m args below meth c ls hx hb hr hlocks C hsz h hl
  have hl : lv_has ls 4 [(0, .ref (ad 30)), (1, .int t9)] := hl
  obtain ⟨H, eH⟩ : ∃ z, z = s.heap := ⟨_, rfl⟩
  obtain ⟨locs, eL⟩ : ∃ z : List Loc, z = [] := ⟨_, rfl⟩
  rw [← eH, ← eL] at h
  rw [← eH, ← eL]
  clear eH eL
  refine lv_aload_n hx hb dX8_template_0 rfl (lv_at hl 0 rfl) ?_
  refine lv_iload_n hx hb dX8_template_1 rfl (lv_at hl 1 rfl) ?_
  refine lv_iconst (v := nI 0) hx hb dX8_template_2 (by decide) ?_
  refine lv_aload_n hx hb dX8_template_3 rfl (lv_at hl 0 rfl) ?_
  refine gf_X8_181 C h (hM 30 (by decide)) rfl dX8_template_4 ?_
  refine x_topi hn3 ?_
  refine cl_X8_120 C h (c_X8_isIn l D cy ad Ls st t9 (nI 0) (nI n)) (x_room (by omega)) ⟨Nat.zero_le _, Nat.zero_le _⟩ hl.1 (Nat.le_of_ble_eq_true rfl) dX8_template_7 (fun r2 u1 H locs hp h => ?_)
  obtain ⟨er2, eu1⟩ := hp; rw [eu1] at h; clear eu1 u1; refine x_topi er2 ?_; clear er2 r2
  refine x_ifb_ne (tgt := 17) hx hb dX8_template_10 (by decide) (fun c10 => ?_) (fun c10 => ?_)
  · refine lv_iload_n hx hb dX8_template_17 rfl (lv_at hl 1 rfl) ?_
    refine lv_bipush (v := nI 6) hx hb dX8_template_18 (by decide) ?_
    refine lv_icmp_ne (tgt := 27) hx hb dX8_template_20 (by decide) (fun c20 => ?_) (fun c20 => ?_)
    · refine lv_iconst (v := nI 0) hx hb dX8_template_27 (by decide) ?_
      refine pf_X8_110 C h (hM 30 (by decide)) rfl dX8_template_28 (fun H locs u3 eu3 h => ?_)
      have e4 : gi u3 1 30 = nI np := by rw [eu3, gi_si, if_neg (by omega)]; exact hnp
      have e5 : gi u3 3 30 = nI n := by rw [eu3, gi_si, if_neg (by omega)]; exact hn3
      have e6 : gi u3 0 30 = nI 0 := by rw [eu3, gi_si, if_pos ⟨rfl, rfl⟩]
      refine lv_aload_n hx hb dX8_template_31 rfl (lv_at hl 0 rfl) ?_
      refine gf_X8_110 C h (hM 30 (by decide)) rfl dX8_template_32 ?_
      refine x_topi e6 ?_
      refine x_ifN_le (tgt := 40) hx hb dX8_template_35 (by decide) (by decide) (fun _ => ?_) (fun z9 => absurd z9 (by decide))
      obtain ⟨j, hj, ejt⟩ := inR_j c10 (by omega)
      have hj6 : j < 6 := by rcases Nat.lt_or_ge j 6 with q | q; exact q; exact absurd (show t9 = nI 6 by rw [ejt, show j = 6 by omega]) c20
      rw [ejt] at hl
      replace hl : lv_has ls 4 [(0, .ref (ad 30)), (1, .int (nI j))] := hl
      refine lv_aload_n hx hb dX8_template_40 rfl (lv_at hl 0 rfl) ?_
      refine lv_sipush (v := nI 960) hx hb dX8_template_41 (by decide) ?_
      obtain ⟨s0, hs0⟩ : ∃ s0, s0 = si st 0 30 (nI 0) := ⟨_, rfl⟩
      rw [← hs0] at eu3
      have k1 : gi s0 1 30 = nI np := by rw [hs0]; exact hnp
      have k3 : gi s0 3 30 = nI n := by rw [hs0]; exact hn3
      have ka : ∀ i, ga s0 i = ga st i := by rw [hs0]; exact fun _ => rfl
      rw [eu3, ← rq_id s0] at h
      refine cl_X8_184 C h (hM 30 (by decide)) rfl (c_X8_reads l D cy ad Ls s0 hM np hnp160 k1 960 (by omega) _ _ _ _ _ _ _ _ _ _) (x_room (by omega)) ⟨Nat.zero_le _, Nat.zero_le _⟩ hl.1 (Nat.le_of_ble_eq_true rfl) dX8_template_44 (fun u7 H locs hp h => ?_)
      obtain ⟨al1, bg1, mi1, Eu7⟩ := hp
      rw [ka 32, ka 36, ka 37, ka 38] at Eu7
      obtain ⟨X8, hX8⟩ : ∃ X8, X8 = (pqRd (ga st 32) np 960 (ga st 36) (ga st 37) (ga st 38)) := ⟨_, rfl⟩
      obtain ⟨a1, f1, S1, q1, mk1, bo1, ot1⟩ := X8
      have hX := hX8.symm; clear hX8
      have EEu7 := Eu7
      rw [hX] at Eu7
      replace Eu7 : u7 = rqS s0 (nI a1, oI f1, nI S1.length, q1, al1, bg1, mi1, mk1, bo1, ot1) := Eu7
      have EXu7 : u7 = rqS s0 (rmT (pqRd (ga st 32) np 960 (ga st 36) (ga st 37) (ga st 38)) al1 bg1 mi1) := EEu7; clear EEu7
      refine lv_aload_n hx hb dX8_template_47 rfl (lv_at hl 0 rfl) ?_
      refine gf_X8_148 C h (hM 30 (by decide)) rfl dX8_template_48 ?_
      refine x_topi (y := oI f1) (by rw [Eu7]; exact gi_rm10) ?_
      refine lv_iconst (v := (-1)) hx hb dX8_template_51 (by decide) ?_
      rcases f1 with _ | f8
      · replace Eu7 : u7 = rqS s0 (nI a1, -1, nI S1.length, q1, al1, bg1, mi1, mk1, bo1, ot1) := Eu7
        refine lv_icmp_eq (tgt := 67) hx hb dX8_template_52 (by decide) (fun _ => ?_) (fun q9 => absurd rfl q9)
        refine lv_sipush (v := nI 160) hx hb dX8_template_67 (by decide) ?_
        refine lv_iload_n hx hb dX8_template_70 rfl (lv_at hl 1 rfl) ?_
        refine x_mulN hx hb dX8_template_71 ?_
        refine lv_istore_n (lv' := [(2, .int (nI (160 * j))), (0, .ref (ad 30)), (1, .int (nI j))]) hx hb dX8_template_72 rfl hl (by decide) rfl (fun ls hl => ?_)
        refine lv_aload_n hx hb dX8_template_73 rfl (lv_at hl 1 rfl) ?_
        refine lv_iload_n hx hb dX8_template_74 rfl (lv_at hl 0 rfl) ?_
        rw [Eu7] at h
        refine cl_X8_184 C h (hM 30 (by decide)) rfl (c_X8_reads l D cy ad Ls s0 hM np hnp160 k1 (160 * j) (by omega) _ _ _ _ _ _ _ _ _ _) (x_room (by omega)) ⟨Nat.zero_le _, Nat.zero_le _⟩ hl.1 (Nat.le_of_ble_eq_true rfl) dX8_template_75 (fun u9 H locs hp h => ?_)
        obtain ⟨al2, bg2, mi2, Eu9⟩ := hp
        rw [ka 32] at Eu9
        obtain ⟨X2, hX2⟩ : ∃ X2, X2 = pqRd (ga st 32) np (160 * j) (pqRd (ga st 32) np 960 (ga st 36) (ga st 37) (ga st 38)).2.2.2.2.1 (pqRd (ga st 32) np 960 (ga st 36) (ga st 37) (ga st 38)).2.2.2.2.2.1 (pqRd (ga st 32) np 960 (ga st 36) (ga st 37) (ga st 38)).2.2.2.2.2.2 := ⟨_, rfl⟩
        rw [show pqRd (ga st 32) np (160 * j) mk1 bo1 ot1 = X2 by rw [hX2, hX]] at Eu9
        obtain ⟨a2, f2, S2, q2, mk2, bo2, ot2⟩ := X2
        have f1_ : gi u9 1 30 = nI np := by rw [Eu9]; exact (gi_rmo (by decide)).trans k1
        have f3 : gi u9 3 30 = nI n := by rw [Eu9]; exact (gi_rmo (by decide)).trans k3
        have f12 : gi u9 12 30 = q2 := by rw [Eu9]; exact gi_rm12
        have g32 : ga u9 32 = ga st 32 := by rw [Eu9]; exact (ga_rmo (by decide)).trans (ka 32)
        have g34 : ga u9 34 = ga st 34 := by rw [Eu9]; exact (ga_rmo (by decide)).trans (ka 34)
        have g35 : ga u9 35 = ga st 35 := by rw [Eu9]; exact (ga_rmo (by decide)).trans (ka 35)
        refine lv_iconst (v := nI 0) hx hb dX8_template_78 (by decide) ?_
        refine lv_istore_n (lv' := [(3, .int (nI 0)), (2, .int (nI (160 * j))), (0, .ref (ad 30)), (1, .int (nI j))]) hx hb dX8_template_79 rfl hl (by decide) rfl (fun ls hl => ?_)
        have L80 : ∀ (N80 : Nat) (v9 : XS) (k : Nat) (hk : k ≤ np) (hv9 : v9 = sa u9 35 (cpS (ga st 35) (ga st 32) (160 * j) k)) (hN : np - k < N80) (H : Heap) (locs : List Loc) (ls : Array Slot), xH D cy ad Ls (XA ad Ls sz) s v9 H locs → lv_has ls 4 [(0, .ref (ad 30)), (1, .int (nI j)), (2, .int (nI (160 * j))), (3, .int (nI k))] → W p l e (xR 7) s m args below meth c H locs 0 0 (MQ below (va_Qi (fun r u => (¬ kbTmpl n t9 = 0 ∧ r = nI 0 ∧ u = si st 0 30 (nI (kbTmpl n t9))) ∨ (kbTmpl n t9 = 0 ∧ ∃ j al1 bg1 mi1, j < 6 ∧ j ≤ n ∧ t9 = nI j ∧ ((∃ f, (pqRd (ga st 32) np 960 (ga st 36) (ga st 37) (ga st 38)).2.1 = some f ∧ r = (-1) - nI f ∧ u = si (rqS (si st 0 30 (nI 0)) (rmT (pqRd (ga st 32) np 960 (ga st 36) (ga st 37) (ga st 38)) al1 bg1 mi1)) 1 30 (nI 0)) ∨ ((pqRd (ga st 32) np 960 (ga st 36) (ga st 37) (ga st 38)).2.1 = none ∧ r = (pqRd (ga st 32) np (160 * j) (pqRd (ga st 32) np 960 (ga st 36) (ga st 37) (ga st 38)).2.2.2.2.1 (pqRd (ga st 32) np 960 (ga st 36) (ga st 37) (ga st 38)).2.2.2.2.2.1 (pqRd (ga st 32) np 960 (ga st 36) (ga st 37) (ga st 38)).2.2.2.2.2.2).2.2.2.1 ∧ u = mtZ (rqS (si st 0 30 (nI 0)) (rmT (pqRd (ga st 32) np (160 * j) (pqRd (ga st 32) np 960 (ga st 36) (ga st 37) (ga st 38)).2.2.2.2.1 (pqRd (ga st 32) np 960 (ga st 36) (ga st 37) (ga st 38)).2.2.2.2.2.1 (pqRd (ga st 32) np 960 (ga st 36) (ga st 37) (ga st 38)).2.2.2.2.2.2) al1 bg1 mi1)) st np n j)))) (fun u => xPost D cy ad Ls (XA ad Ls sz) u) (XA ad Ls sz)) args s 0 0 (XA ad Ls sz)) (F0 m 80 ls []) := by
          intro N80
          induction N80 with
          | zero => intro v9 k hk hv9 hN; omega
          | succ N80 ih80 =>
            intro v9 k hk hv9 hN H locs ls h hl
            have g35x : ga v9 35 = cpS (ga st 35) (ga st 32) (160 * j) k := by rw [hv9, ga_self]
            have g32x : ga v9 32 = ga st 32 := by rw [hv9, ga_sa, if_neg (by decide)]; exact g32
            have g34x : ga v9 34 = ga st 34 := by rw [hv9, ga_sa, if_neg (by decide)]; exact g34
            have f1x : gi v9 1 30 = nI np := by rw [hv9]; exact f1_
            have f3x : gi v9 3 30 = nI n := by rw [hv9]; exact f3
            have f12x : gi v9 12 30 = q2 := by rw [hv9]; exact f12
            refine lv_iload_n hx hb dX8_template_80 rfl (lv_at hl 3 rfl) ?_
            refine lv_aload_n hx hb dX8_template_81 rfl (lv_at hl 0 rfl) ?_
            refine gf_X8_124 C h (hM 30 (by decide)) rfl dX8_template_82 ?_
            refine x_topi f1x ?_
            refine x_icmpN_ge (tgt := 108) hx hb dX8_template_85 (by decide) (by omega) (by omega) (fun c85 => ?_) (fun c85 => ?_)
            · refine lv_aload_n hx hb dX8_template_108 rfl (lv_at hl 0 rfl) ?_
              refine gf_X8_13 C h (hM 30 (by decide)) rfl (k2 := 34) rfl dX8_template_109 ?_
              refine lv_iload_n hx hb dX8_template_112 rfl (lv_at hl 1 rfl) ?_
              refine lv_aload_n hx hb dX8_template_113 rfl (lv_at hl 0 rfl) ?_
              refine gf_X8_124 C h (hM 30 (by decide)) rfl dX8_template_114 ?_
              refine x_topi f1x ?_
              refine x_ast C h (hM 34 (by decide)) (n := 6) rfl j (by omega) (by decide) rfl dX8_template_117 (fun H locs u11 eu11 h => ?_)
              rw [g34x] at eu11
              have e12 : gi u11 1 30 = nI np := by rw [eu11]; exact f1x
              have e13 : gi u11 3 30 = nI n := by rw [eu11]; exact f3x
              have e14 : gi u11 12 30 = q2 := by rw [eu11]; exact f12x
              have e15 : ga u11 32 = (ga st 32) := by rw [eu11, ga_sa, if_neg (by omega)]; exact g32x
              have e17 : ga u11 35 = (cpS (ga st 35) (ga st 32) (160 * j) k) := by rw [eu11, ga_sa, if_neg (by omega)]; exact g35x
              have e18 : ga u11 34 = (upd (ga st 34) j (nI np)) := by rw [eu11, ga_self]
              refine lv_aload_n hx hb dX8_template_118 rfl (lv_at hl 0 rfl) ?_
              refine lv_dup hx hb dX8_template_119 rfl ?_
              refine gf_X8_181 C h (hM 30 (by decide)) rfl dX8_template_120 ?_
              refine x_topi e13 ?_
              refine lv_iload_n hx hb dX8_template_123 rfl (lv_at hl 1 rfl) ?_
              refine lv_aload_n hx hb dX8_template_124 rfl (lv_at hl 0 rfl) ?_
              refine gf_X8_181 C h (hM 30 (by decide)) rfl dX8_template_125 ?_
              refine x_topi e13 ?_
              refine x_icmpN_ne (tgt := 135) hx hb dX8_template_128 (by decide) (by omega) (by omega) (fun c128 => ?_) (fun c128 => ?_)
              · refine lv_iconst (v := nI 0) hx hb dX8_template_135 (by decide) ?_
                refine x_addN hx hb dX8_template_136 ?_
                refine pf_X8_181 C h (hM 30 (by decide)) rfl dX8_template_137 (fun H locs u19 eu19 h => ?_)
                have e20 : gi u19 1 30 = nI np := by rw [eu19, gi_si, if_neg (by omega)]; exact e12
                have e22 : gi u19 12 30 = q2 := by rw [eu19, gi_si, if_neg (by omega)]; exact e14
                have e23 : ga u19 32 = (ga st 32) := by rw [eu19]; exact e15
                have e24 : ga u19 35 = (cpS (ga st 35) (ga st 32) (160 * j) k) := by rw [eu19]; exact e17
                have e25 : ga u19 34 = (upd (ga st 34) j (nI np)) := by rw [eu19]; exact e18
                have e26 : gi u19 3 30 = nI (n + 0) := by rw [eu19, gi_si, if_pos ⟨rfl, rfl⟩]
                refine lv_aload_n hx hb dX8_template_140 rfl (lv_at hl 0 rfl) ?_
                refine lv_iconst (v := nI 0) hx hb dX8_template_141 (by decide) ?_
                refine pf_X8_124 C h (hM 30 (by decide)) rfl dX8_template_142 (fun H locs u27 eu27 h => ?_)
                have e29 : gi u27 12 30 = q2 := by rw [eu27, gi_si, if_neg (by omega)]; exact e22
                have e30 : ga u27 32 = (ga st 32) := by rw [eu27]; exact e23
                have e31 : ga u27 35 = (cpS (ga st 35) (ga st 32) (160 * j) k) := by rw [eu27]; exact e24
                have e32 : ga u27 34 = (upd (ga st 34) j (nI np)) := by rw [eu27]; exact e25
                have e33 : gi u27 3 30 = nI (n + 0) := by rw [eu27, gi_si, if_neg (by omega)]; exact e26
                have e34 : gi u27 1 30 = nI 0 := by rw [eu27, gi_si, if_pos ⟨rfl, rfl⟩]
                refine lv_aload_n hx hb dX8_template_145 rfl (lv_at hl 0 rfl) ?_
                refine gf_X8_154 C h (hM 30 (by decide)) rfl dX8_template_146 ?_
                refine x_topi e29 ?_
                exact x_iret C hr hlocks h (Or.inr ⟨by simp only [kbTmpl, if_true, if_false, Bool.not_true, Bool.not_false, Bool.and_true, Bool.true_and, Bool.and_false, Bool.false_and, Bool.or_true, Bool.true_or, Bool.or_false, Bool.false_or, Bool.false_eq_true, eq_self, decide_true, decide_false, c10, c20], j, al2, bg2, mi2, hj6, hj, ejt, Or.inr ⟨by rw [hX], by rw [← hX2], by rw [eu27, eu19, eu11, hv9, show k = np by omega, mtZ, if_neg c128, ← hs0, ← hX2, ← Eu9]⟩⟩) dX8_template_149
              · refine lv_iconst (v := nI 1) hx hb dX8_template_131 (by decide) ?_
                refine lv_goto (tgt := 136) hx hb dX8_template_132 (by decide) ?_
                refine x_addN hx hb dX8_template_136 ?_
                refine pf_X8_181 C h (hM 30 (by decide)) rfl dX8_template_137 (fun H locs u35 eu35 h => ?_)
                have e36 : gi u35 1 30 = nI np := by rw [eu35, gi_si, if_neg (by omega)]; exact e12
                have e38 : gi u35 12 30 = q2 := by rw [eu35, gi_si, if_neg (by omega)]; exact e14
                have e39 : ga u35 32 = (ga st 32) := by rw [eu35]; exact e15
                have e40 : ga u35 35 = (cpS (ga st 35) (ga st 32) (160 * j) k) := by rw [eu35]; exact e17
                have e41 : ga u35 34 = (upd (ga st 34) j (nI np)) := by rw [eu35]; exact e18
                have e42 : gi u35 3 30 = nI (n + 1) := by rw [eu35, gi_si, if_pos ⟨rfl, rfl⟩]
                refine lv_aload_n hx hb dX8_template_140 rfl (lv_at hl 0 rfl) ?_
                refine lv_iconst (v := nI 0) hx hb dX8_template_141 (by decide) ?_
                refine pf_X8_124 C h (hM 30 (by decide)) rfl dX8_template_142 (fun H locs u43 eu43 h => ?_)
                have e45 : gi u43 12 30 = q2 := by rw [eu43, gi_si, if_neg (by omega)]; exact e38
                have e46 : ga u43 32 = (ga st 32) := by rw [eu43]; exact e39
                have e47 : ga u43 35 = (cpS (ga st 35) (ga st 32) (160 * j) k) := by rw [eu43]; exact e40
                have e48 : ga u43 34 = (upd (ga st 34) j (nI np)) := by rw [eu43]; exact e41
                have e49 : gi u43 3 30 = nI (n + 1) := by rw [eu43, gi_si, if_neg (by omega)]; exact e42
                have e50 : gi u43 1 30 = nI 0 := by rw [eu43, gi_si, if_pos ⟨rfl, rfl⟩]
                refine lv_aload_n hx hb dX8_template_145 rfl (lv_at hl 0 rfl) ?_
                refine gf_X8_154 C h (hM 30 (by decide)) rfl dX8_template_146 ?_
                refine x_topi e45 ?_
                exact x_iret C hr hlocks h (Or.inr ⟨by simp only [kbTmpl, if_true, if_false, Bool.not_true, Bool.not_false, Bool.and_true, Bool.true_and, Bool.and_false, Bool.false_and, Bool.or_true, Bool.true_or, Bool.or_false, Bool.false_or, Bool.false_eq_true, eq_self, decide_true, decide_false, c10, c20], j, al2, bg2, mi2, hj6, hj, ejt, Or.inr ⟨by rw [hX], by rw [← hX2], by rw [eu43, eu35, eu11, hv9, show k = np by omega, mtZ, if_pos c128, ← hs0, ← hX2, ← Eu9]⟩⟩) dX8_template_149
            · refine lv_aload_n hx hb dX8_template_88 rfl (lv_at hl 0 rfl) ?_
              refine gf_X8_16 C h (hM 30 (by decide)) rfl (k2 := 35) rfl dX8_template_89 ?_
              refine lv_iload_n hx hb dX8_template_92 rfl (lv_at hl 2 rfl) ?_
              refine lv_iload_n hx hb dX8_template_93 rfl (lv_at hl 3 rfl) ?_
              refine x_addN hx hb dX8_template_94 ?_
              refine lv_aload_n hx hb dX8_template_95 rfl (lv_at hl 0 rfl) ?_
              refine gf_X8_7 C h (hM 30 (by decide)) rfl (k2 := 32) rfl dX8_template_96 ?_
              refine lv_iload_n hx hb dX8_template_99 rfl (lv_at hl 3 rfl) ?_
              refine x_ald C h (hM 32 (by decide)) (n := 160) rfl k (by omega) (by decide) rfl dX8_template_100 ?_
              rw [g32x]
              refine x_ast C h (hM 35 (by decide)) (n := 960) rfl (160 * j + k) (by omega) (by decide) rfl dX8_template_101 (fun H locs u51 eu51 h => ?_)
              rw [g35x] at eu51
              have e52 : gi u51 1 30 = nI np := by rw [eu51]; exact f1x
              have e53 : gi u51 3 30 = nI n := by rw [eu51]; exact f3x
              have e54 : gi u51 12 30 = q2 := by rw [eu51]; exact f12x
              have e55 : ga u51 32 = (ga st 32) := by rw [eu51, ga_sa, if_neg (by omega)]; exact g32x
              have e56 : ga u51 34 = (ga st 34) := by rw [eu51, ga_sa, if_neg (by omega)]; exact g34x
              have e58 : ga u51 35 = (upd (cpS (ga st 35) (ga st 32) (160 * j) k) (160 * j + k) ((ga st 32) k)) := by rw [eu51, ga_self]
              refine lv_iinc (v := nI (k + 1)) (lv' := [(3, .int (nI (k + 1))), (0, .ref (ad 30)), (1, .int (nI j)), (2, .int (nI (160 * j)))]) hx hb dX8_template_102 hl (k := 3) rfl (nI_add _ _) (by decide) rfl (fun ls hl => ?_)
              refine lv_goto (tgt := 80) hx hb dX8_template_105 (by decide) ?_
              exact ih80 u51 (k + 1) (by omega) (by rw [eu51, hv9, sa_sb, cpS_s]) (by omega) H locs ls h (lv_sub hl [1, 2, 3, 0] rfl)
        exact L80 (np + 1) u9 0 (by omega) (by rw [cpS_0]; exact (sa_ie g35).symm) (by omega) H locs ls h (lv_sub hl [2, 3, 1, 0] rfl)
      · replace Eu7 : u7 = rqS s0 (nI a1, nI f8, nI S1.length, q1, al1, bg1, mi1, mk1, bo1, ot1) := Eu7
        have hf8 : f8 ≤ np + 1 := pqRd_f hX
        refine lv_icmp_eq (tgt := 67) hx hb dX8_template_52 (by decide) (fun q9 => absurd q9 (nI_ne1 (by omega))) (fun _ => ?_)
        have f10 : gi u7 10 30 = nI f8 := by rw [Eu7]; exact gi_rm10
        refine lv_aload_n hx hb dX8_template_55 rfl (lv_at hl 0 rfl) ?_
        refine lv_iconst (v := nI 0) hx hb dX8_template_56 (by decide) ?_
        refine pf_X8_124 C h (hM 30 (by decide)) rfl dX8_template_57 (fun H locs u59 eu59 h => ?_)
        have e60 : gi u59 10 30 = nI f8 := by rw [eu59, gi_si, if_neg (by omega)]; exact f10
        have e61 : gi u59 1 30 = nI 0 := by rw [eu59, gi_si, if_pos ⟨rfl, rfl⟩]
        refine lv_iconst (v := (-1)) hx hb dX8_template_60 (by decide) ?_
        refine lv_aload_n hx hb dX8_template_61 rfl (lv_at hl 0 rfl) ?_
        refine gf_X8_148 C h (hM 30 (by decide)) rfl dX8_template_62 ?_
        refine x_topi e60 ?_
        refine lv_isub hx hb dX8_template_65 ?_
        exact x_iret C hr hlocks h (Or.inr ⟨by simp only [kbTmpl, if_true, if_false, Bool.not_true, Bool.not_false, Bool.and_true, Bool.true_and, Bool.and_false, Bool.false_and, Bool.or_true, Bool.true_or, Bool.or_false, Bool.false_or, Bool.false_eq_true, eq_self, decide_true, decide_false, c10, c20], j, al1, bg1, mi1, hj6, hj, ejt, Or.inl ⟨f8, by rw [hX], rfl, by rw [eu59, EXu7, hs0]⟩⟩) dX8_template_66
    · refine lv_iconst (v := nI 2) hx hb dX8_template_23 (by decide) ?_
      refine lv_goto (tgt := 28) hx hb dX8_template_24 (by decide) ?_
      refine pf_X8_110 C h (hM 30 (by decide)) rfl dX8_template_28 (fun H locs u62 eu62 h => ?_)
      have e63 : gi u62 1 30 = nI np := by rw [eu62, gi_si, if_neg (by omega)]; exact hnp
      have e64 : gi u62 3 30 = nI n := by rw [eu62, gi_si, if_neg (by omega)]; exact hn3
      have e65 : gi u62 0 30 = nI 2 := by rw [eu62, gi_si, if_pos ⟨rfl, rfl⟩]
      refine lv_aload_n hx hb dX8_template_31 rfl (lv_at hl 0 rfl) ?_
      refine gf_X8_110 C h (hM 30 (by decide)) rfl dX8_template_32 ?_
      refine x_topi e65 ?_
      refine x_ifN_le (tgt := 40) hx hb dX8_template_35 (by decide) (by decide) (fun z9 => absurd z9 (by decide)) (fun _ => ?_)
      refine lv_iconst (v := nI 0) hx hb dX8_template_38 (by decide) ?_
      exact x_iret C hr hlocks h (Or.inl ⟨by rw [show kbTmpl n t9 = 2 from by rw [kbTmpl, c10, if_pos c20]; rfl]; decide, rfl, by rw [eu62, show kbTmpl n t9 = 2 from by rw [kbTmpl, c10, if_pos c20]; rfl]⟩) dX8_template_39
  · refine lv_iconst (v := nI 1) hx hb dX8_template_13 (by decide) ?_
    refine lv_goto (tgt := 28) hx hb dX8_template_14 (by decide) ?_
    refine pf_X8_110 C h (hM 30 (by decide)) rfl dX8_template_28 (fun H locs u66 eu66 h => ?_)
    have e67 : gi u66 1 30 = nI np := by rw [eu66, gi_si, if_neg (by omega)]; exact hnp
    have e68 : gi u66 3 30 = nI n := by rw [eu66, gi_si, if_neg (by omega)]; exact hn3
    have e69 : gi u66 0 30 = nI 1 := by rw [eu66, gi_si, if_pos ⟨rfl, rfl⟩]
    refine lv_aload_n hx hb dX8_template_31 rfl (lv_at hl 0 rfl) ?_
    refine gf_X8_110 C h (hM 30 (by decide)) rfl dX8_template_32 ?_
    refine x_topi e69 ?_
    refine x_ifN_le (tgt := 40) hx hb dX8_template_35 (by decide) (by decide) (fun z9 => absurd z9 (by decide)) (fun _ => ?_)
    refine lv_iconst (v := nI 0) hx hb dX8_template_38 (by decide) ?_
    exact x_iret C hr hlocks h (Or.inl ⟨by rw [show kbTmpl n t9 = 1 from by simp only [kbTmpl, if_true, if_false, Bool.not_true, Bool.not_false, Bool.and_true, Bool.true_and, Bool.and_false, Bool.false_and, Bool.or_true, Bool.true_or, Bool.or_false, Bool.false_or, Bool.false_eq_true, eq_self, decide_true, decide_false, c10]]; decide, rfl, by rw [eu66, show kbTmpl n t9 = 1 from by simp only [kbTmpl, if_true, if_false, Bool.not_true, Bool.not_false, Bool.and_true, Bool.true_and, Bool.and_false, Bool.false_and, Bool.or_true, Bool.true_or, Bool.or_false, Bool.false_or, Bool.false_eq_true, eq_self, decide_true, decide_false, c10]]⟩) dX8_template_39
