/-! ===== a line of the invoice that is being made ===== -/
theorem kd_50 {i : Nat} (h : i < 7) : kd (50 + i) = 104 := by
  rcases (show i = 0 ∨ i = 1 ∨ i = 2 ∨ i = 3 ∨ i = 4 ∨ i = 5 ∨ i = 6 by omega) with rfl | rfl | rfl | rfl | rfl | rfl | rfl <;> rfl
theorem upd5 {f : Nat → Int32} {n : Nat} {a0 a1 a2 a3 a4 : Int32} {g : Nat → Int32} (hg : g = upd (upd (upd (upd (upd f n a0) (n + 1) a1) (n + 2) a2) (n + 3) a3) (n + 4) a4) : g n = a0 ∧ g (n + 1) = a1 ∧ g (n + 2) = a2 ∧ g (n + 3) = a3 ∧ g (n + 4) = a4 ∧ ∀ j, j < n → g j = f j := by
  subst hg
  refine ⟨?_, ?_, ?_, ?_, ?_, fun j hj => ?_⟩
  · rw [pk_un (by omega), pk_un (by omega), pk_un (by omega), pk_un (by omega), pk_us]
  · rw [pk_un (by omega), pk_un (by omega), pk_un (by omega), pk_us]
  · rw [pk_un (by omega), pk_un (by omega), pk_us]
  · rw [pk_un (by omega), pk_us]
  · rw [pk_us]
  · rw [pk_un (by omega), pk_un (by omega), pk_un (by omega), pk_un (by omega), pk_un (by omega)]
theorem upd3 {f : Nat → Int32} {n : Nat} {a0 a1 a2 : Int32} {g : Nat → Int32} (hg : g = upd (upd (upd f n a0) (n + 1) a1) (n + 2) a2) : g n = a0 ∧ g (n + 1) = a1 ∧ g (n + 2) = a2 ∧ ∀ j, j < n → g j = f j := by
  subst hg
  refine ⟨?_, ?_, ?_, fun j hj => ?_⟩
  · rw [pk_un (by omega), pk_un (by omega), pk_us]
  · rw [pk_un (by omega), pk_us]
  · rw [pk_us]
  · rw [pk_un (by omega), pk_un (by omega), pk_un (by omega)]
/-- the turn of the law's loop over lines, at its beginning -/
theorem PI_open {Ls : List Nat} {st v : XS} {bd d n mB nn mn c9 pl w : Nat} {ln : Nat → Nat} {g : Nat → Int32} (h : PI Ls st bd d n mB nn ln) (hm : mB < 7) (hc : c9 < 3) (hpl : pl < 2) (hw : w < 3) (e8 : ga st 8 c9 = nI pl) (e7 : ga st 7 pl = nI w) (hg : g = upd (upd (upd (upd (upd (ga st 32) (7 * mB) (nI c9)) (7 * mB + 1) (nI d)) (7 * mB + 2) (nI mn)) (7 * mB + 3) (nI pl)) (7 * mB + 4) (nI w)) (hv : v = sa (sa st 32 g) (50 + mB) (fun _ => 0)) : PI0 v bd d n mB nn 0 ln ∧ RW v mB d mn c9 pl w := by
  obtain ⟨g0, g1, g2, g3, g4, g5⟩ := upd5 hg
  have ak : ∀ k, ¬ k = 32 → ¬ k = 50 + mB → ga v k = ga st k := fun k q1 q2 => by rw [hv, ga_sa, if_neg q2, ga_sa, if_neg q1]
  have e32 : ga v 32 = g := by rw [hv, ga_sa, if_neg (by omega), ga_self]
  have hgi : ∀ f k, gi v f k = gi st f k := fun f k => by rw [hv]; rfl
  have hgp : ∀ f k, gp v f k = gp st f k := fun f k => by rw [hv]; rfl
  have hgb : ∀ k, gb v k = gb st k := fun k => by rw [hv]; rfl
  have hd := h.2.2.2.1
  refine ⟨PI0_F (by omega) h.2 (fun f k _ => hgi f k) hgp (fun k q1 q2 q3 q4 => ak k q2 (by unfold PKa at q1; omega)) hgb (fun i hi => by rw [e32]; exact g5 i hi) (fun i hi => by rw [ak 33 (by decide) (by omega)]) ⟨hd.1, (hgp ..).trans hd.2.1, (hgi ..).trans hd.2.2.1, (hgi ..).trans hd.2.2.2.1, (hgi ..).trans hd.2.2.2.2.1, fun k hk => absurd hk (by omega)⟩, hc, hpl, hw, ?_, ?_, ?_, ?_, ?_, ?_, ?_⟩
  · rw [ak 8 (by decide) (by omega)]; exact e8
  · rw [ak 7 (by decide) (by omega)]; exact e7
  · rw [e32]; exact g0
  · rw [e32]; exact g1
  · rw [e32]; exact g2
  · rw [e32]; exact g3
  · rw [e32]; exact g4
theorem sumA_K {Q P Q' P' : Nat → Int32} : ∀ n, n ≤ 6 → (∀ k, k < n → Q' k = Q k ∧ P' k = P k) → sumA Q' P' n = sumA Q P n := by
  intro n
  induction n with
  | zero => intro _ _; rfl
  | succ n ih =>
    intro hn h
    obtain ⟨h1, h2⟩ := h n (by omega)
    rw [sumA, sumA, ih (by omega) (fun k hk => h k (by omega))]
    unfold amS
    rw [xget_at (by omega) (by decide), xget_at (by omega) (by decide), xget_at (by omega) (by decide), xget_at (by omega) (by decide), h1, h2]
set_option maxHeartbeats 1000000 in
theorem PI_line {v u3 u4 u5 u6 : XS} {bd d n mB nn mn c9 pl w k kk q p sm : Nat} {ln : Nat → Nat} {g g9 : Nat → Int32} (h : PI0 v bd d n mB nn k ln) (hk3 : k < 3) (hm : mB < 7) (hW : RW v mB d mn c9 pl w) (hby : ∀ j, j < k → ga v (50 + mB) j = oI (knoS v n (nI pl) (nI (kN v mB j)) (nI d))) (hsm : sumA (bQ v mB) (bP v mB) k = nI sm) (hs9 : sm ≤ k * 989901) (hkk : kk < 3) (hq1 : 1 ≤ q) (hq : q ≤ 99) (hp1 : 1 ≤ p) (hp : p ≤ 9999)
    (hg : g = upd (upd (upd (ga v 33) (9 * mB + 3 * k) (nI kk)) (9 * mB + 3 * k + 1) (nI q)) (9 * mB + 3 * k + 2) (nI p)) (e3 : u3 = sa v 33 g)
    (e4 : u4 = si (sa (sa (sa u3 (100 + 6 * mB + 1) (upd (bK u3 mB) k (nI kk))) (100 + 6 * mB + 2) (upd (bQ u3 mB) k (nI q))) (100 + 6 * mB + 3) (upd (bP u3 mB) k (nI p))) 3 (100 + 6 * mB) (nI (k + 1)))
    (e5 : u5 = sa u4 (50 + mB) (upd (ga u4 (50 + mB)) k (oI (knoS u4 n (nI pl) (nI kk) (nI d))))) (e6 : u6 = sa u5 34 g9) :
    PI0 u6 bd d n mB nn (k + 1) ln ∧ RW u6 mB d mn c9 pl w ∧ (∀ j, j < k + 1 → ga u6 (50 + mB) j = oI (knoS u6 n (nI pl) (nI (kN u6 mB j)) (nI d))) ∧ sumA (bQ u6 mB) (bP u6 mB) (k + 1) = nI (sm + q * p) ∧ sm + q * p ≤ (k + 1) * 989901 ∧ ∀ L, xCl v L → xCl u6 L := by
  obtain ⟨g0, g1, g2, g3⟩ := upd3 hg
  have b1 : bK u3 mB = bK v mB := by unfold bK; rw [e3, ga_sa, if_neg (by omega)]
  have b2 : bQ u3 mB = bQ v mB := by unfold bQ; rw [e3, ga_sa, if_neg (by omega)]
  have b3 : bP u3 mB = bP v mB := by unfold bP; rw [e3, ga_sa, if_neg (by omega)]
  have ak : ∀ x, ¬ x = 33 → ¬ x = 34 → ¬ x = 50 + mB → ¬ (100 + 6 * mB < x ∧ x < 100 + 6 * mB + 4) → ga u6 x = ga v x := fun x q1 q2 q3 q4 => by
    rw [e6, ga_sa, if_neg q2, e5, ga_sa, if_neg q3, e4, ga_si, ga_sa, if_neg (by omega), ga_sa, if_neg (by omega), ga_sa, if_neg (by omega), e3, ga_sa, if_neg q1]
  have a33 : ga u6 33 = g := by rw [e6, ga_sa, if_neg (by decide), e5, ga_sa, if_neg (by omega), e4, ga_si, ga_sa, if_neg (by omega), ga_sa, if_neg (by omega), ga_sa, if_neg (by omega), e3, ga_self]
  have aK : bK u6 mB = upd (bK v mB) k (nI kk) := by rw [show bK u6 mB = ga u6 (100 + 6 * mB + 1) from rfl, e6, ga_sa, if_neg (by omega), e5, ga_sa, if_neg (by omega), e4, ga_si, ga_sa, if_neg (by omega), ga_sa, if_neg (by omega), ga_self, b1]
  have aQ : bQ u6 mB = upd (bQ v mB) k (nI q) := by rw [show bQ u6 mB = ga u6 (100 + 6 * mB + 2) from rfl, e6, ga_sa, if_neg (by omega), e5, ga_sa, if_neg (by omega), e4, ga_si, ga_sa, if_neg (by omega), ga_self, b2]
  have aP : bP u6 mB = upd (bP v mB) k (nI p) := by rw [show bP u6 mB = ga u6 (100 + 6 * mB + 3) from rfl, e6, ga_sa, if_neg (by omega), e5, ga_sa, if_neg (by omega), e4, ga_si, ga_self, b3]
  have hgi : ∀ f x, ¬ (f = 3 ∧ x = 100 + 6 * mB) → gi u6 f x = gi v f x := fun f x q1 => by rw [e6, e5, e4]; show gi (si _ 3 (100 + 6 * mB) _) f x = _; rw [gi_si, if_neg q1, e3]; rfl
  have hg3 : gi u6 3 (100 + 6 * mB) = nI (k + 1) := by rw [e6, e5, e4]; show gi (si _ 3 (100 + 6 * mB) _) 3 _ = _; rw [gi_si, if_pos ⟨rfl, rfl⟩]
  have hgp : ∀ f x, gp u6 f x = gp v f x := fun f x => by rw [e6, e5, e4, e3]; rfl
  have hgb : ∀ x, gb u6 x = gb v x := fun x => by rw [e6, e5, e4, e3]; rfl
  have hd := h.2.2.1
  have hkn : ∀ x y z, knoS u6 n x y z = knoS v n x y z := fun x y z => by
    show knO (ga u6 13) (ga u6 14) (ga u6 16) x y z n = _
    rw [ak 13 (by decide) (by decide) (by omega) (by omega), ak 14 (by decide) (by decide) (by omega) (by omega), ak 16 (by decide) (by decide) (by omega) (by omega)]
  have hkn4 : ∀ x y z, knoS u4 n x y z = knoS v n x y z := fun x y z => by
    have a4 : ∀ i, 13 ≤ i → i ≤ 16 → ga u4 i = ga v i := fun i q1 q2 => by rw [e4, ga_si, ga_sa, if_neg (by omega), ga_sa, if_neg (by omega), ga_sa, if_neg (by omega), e3, ga_sa, if_neg (by omega)]
    show knO (ga u4 13) (ga u4 14) (ga u4 16) x y z n = _
    rw [a4 13 (by decide) (by decide), a4 14 (by decide) (by decide), a4 16 (by decide) (by decide)]
  have hPL : ∀ j, j < k + 1 → PL u6 mB j := fun j hj => by
    by_cases e : j = k
    · subst e
      refine ⟨kk, q, p, hkk, hq1, hq, hp1, hp, ?_, ?_, ?_, ?_, ?_, ?_⟩
      · rw [aK, pk_us]
      · rw [a33]; exact g0
      · rw [aQ, pk_us]
      · rw [a33]; exact g1
      · rw [aP, pk_us]
      · rw [a33]; exact g2
    · obtain ⟨k9, q9, p9, c1, c2, c3, c4, c5, c6, c7, c8, c9, c10, c11⟩ := hd.2.2.2.2.2 j (by omega)
      refine ⟨k9, q9, p9, c1, c2, c3, c4, c5, ?_, ?_, ?_, ?_, ?_, ?_⟩
      · rw [aK, pk_un e]; exact c6
      · rw [a33, g3 _ (by omega)]; exact c7
      · rw [aQ, pk_un e]; exact c8
      · rw [a33, g3 _ (by omega)]; exact c9
      · rw [aP, pk_un e]; exact c10
      · rw [a33, g3 _ (by omega)]; exact c11
  have kNk : kN u6 mB k = kk := by unfold kN; rw [a33, g0, nI_clamp (by omega)]
  have kNj : ∀ j, j < k → kN u6 mB j = kN v mB j := fun j hj => by unfold kN; rw [a33, g3 _ (by omega)]
  have hqp : q * p ≤ 99 * 9999 := Nat.mul_le_mul hq hp
  refine ⟨PI0_F (by omega) h hgi hgp (fun x q1 q2 q3 q4 => ?_) hgb (fun i hi => by rw [ak 32 (by decide) (by decide) (by omega) (by omega)]) (fun i hi => by rw [a33]; exact g3 i (by omega)) ⟨by omega, (hgp ..).trans hd.2.1, (hgi 10 0 (by omega)).trans hd.2.2.1, hg3, (hgi 12 _ (by omega)).trans hd.2.2.2.2.1, hPL⟩, ?_, fun j hj => ?_, ?_, by omega, fun L hc => ?_⟩
  · exact ak x q3 (by unfold PKa at q1; omega) (by unfold PKa at q1; omega) q4
  · obtain ⟨w1, w2, w3, w4, w5, w6⟩ := hW
    unfold RW
    rw [ak 8 (by decide) (by decide) (by omega) (by omega), ak 7 (by decide) (by decide) (by omega) (by omega), ak 32 (by decide) (by decide) (by omega) (by omega)]
    exact ⟨w1, w2, w3, w4, w5, w6⟩
  · rw [hkn]
    have e50 : ga u6 (50 + mB) = upd (ga v (50 + mB)) k (oI (knoS v n (nI pl) (nI kk) (nI d))) := by
      rw [e6, ga_sa, if_neg (by omega), e5, ga_self, hkn4, e4, ga_si, ga_sa, if_neg (by omega), ga_sa, if_neg (by omega), ga_sa, if_neg (by omega), e3, ga_sa, if_neg (by omega)]
    rw [e50]
    by_cases e : j = k
    · subst e; rw [pk_us, kNk]
    · rw [pk_un e, kNj j (by omega)]; exact hby j (by omega)
  · rw [sumA, sumA_K (Q := bQ v mB) (P := bP v mB) k (by omega) (fun j hj => by rw [aQ, aP, pk_un (by omega), pk_un (by omega)]; exact ⟨rfl, rfl⟩), hsm]
    unfold amS
    rw [aQ, aP, xget_at (by omega) (by decide), xget_at (by omega) (by decide), pk_us, pk_us, pk_mul, nI_add]
  · exact fun x hx => ⟨fun a f hf => ⟨((hc x hx).1 a f hf).1, fun q j hj => ((hc x hx).1 a f hf).2 q j (by rw [← hgp]; exact hj)⟩, fun a i j hj => (hc x hx).2 a i j (by rw [← hgb]; exact hj)⟩
