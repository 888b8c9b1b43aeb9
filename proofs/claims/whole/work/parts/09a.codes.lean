/-! ===== the codes of the class and of the reference are the same ===== -/
theorem i_lt0 {x : Int32} : x < 0 ↔ x.toInt < 0 := Int32.lt_iff_toInt_lt
theorem i_0le {x : Int32} : 0 ≤ x ↔ 0 ≤ x.toInt := Int32.le_iff_toInt_le
theorem i_ltN {x : Int32} {n : Nat} (h : n < 2 ^ 31) : x < nI n ↔ x.toInt < n := by rw [Int32.lt_iff_toInt_lt, nI_toInt h]
theorem i_Nlt {x : Int32} {n : Nat} (h : n < 2 ^ 31) : nI n < x ↔ (n : Int) < x.toInt := by rw [Int32.lt_iff_toInt_lt, nI_toInt h]
theorem i_leN {x : Int32} {n : Nat} (h : n < 2 ^ 31) : x ≤ nI n ↔ x.toInt ≤ n := by rw [Int32.le_iff_toInt_le, nI_toInt h]
theorem i_eqN {x : Int32} {n : Nat} (h : n < 2 ^ 31) : x = nI n ↔ x.toInt = n := by
  constructor
  · intro e; rw [e, nI_toInt h]
  · intro e; exact Int32.toInt_inj.mp (by rw [e, nI_toInt h])
theorem in_iff {x : Int32} {a b : Nat} (ha : a < 2 ^ 31) (hb : b < 2 ^ 31) : inR x (nI a) (nI b) = true ↔ (a : Int) ≤ x.toInt ∧ x.toInt ≤ b := by
  rw [inR, decide_eq_true_eq, i_ltN ha, i_Nlt hb]; omega
theorem bd_iff {x : Int32} {n : Nat} (hn : n < 2 ^ 31) : bdI n x = true ↔ x.toInt < 0 ∨ (n : Int) ≤ x.toInt := by
  rw [bdI, decide_eq_true_eq, i_lt0, i_ltN hn]; omega
theorem inb_iff {x : Int32} {n : Nat} (hn : n < 2 ^ 31) : inR x (nI 0) (nI n - nI 1) = true ↔ 0 ≤ x.toInt ∧ x.toInt < n := by
  rcases n with _ | n
  · rw [inR, decide_eq_true_eq, i_ltN (by decide), Int32.lt_iff_toInt_lt, show (nI 0 - nI 1).toInt = -1 by decide]; omega
  · rw [nI_sub (by omega), Nat.add_sub_cancel, in_iff (by decide) (by omega)]; omega
theorem in_eqb {x : Int32} {n : Nat} (hn : n < 2 ^ 31) : inR x (nI 0) (nI n - nI 1) = !bdI n x := by
  have h1 := inb_iff (x := x) hn; have h2 := bd_iff (x := x) hn
  cases ha : inR x (nI 0) (nI n - nI 1) <;> cases hb : bdI n x
  · rw [ha] at h1; rw [hb] at h2; exact absurd ((not_congr h1).mp (by decide)) (fun q => q (by have := (not_congr h2).mp (by decide); omega))
  · rfl
  · rfl
  · rw [ha] at h1; rw [hb] at h2; have := h1.mp rfl; have := h2.mp rfl; omega
theorem in_eq4 (x : Int32) : inR x (nI 0) (nI 3) = !bdI 4 x := in_eqb (n := 4) (by decide)
theorem in_eq10 (x : Int32) : inR x (nI 0) (nI 9) = !bdI 10 x := in_eqb (n := 10) (by decide)
theorem k_ePass (x : Int32) : kPass x = kbPass x := by
  unfold kPass kbPass
  have h := in_iff (x := x) (a := 1) (b := 99) (by decide) (by decide)
  simp (disch := decide) only [i_ltN, i_leN, h]
  repeat' split
  all_goals omega
theorem k_eRate {n : Nat} (hn : n ≤ 60) (p k h f : Int32) : kRate n p k h f = kbRate n p k h f := by
  unfold kRate kbRate
  rw [in_eq4, in_eq4]
  have h1 := in_iff (x := h) (a := 0) (b := 100) (by decide) (by decide)
  have h2 := in_iff (x := f) (a := 0) (b := 9999) (by decide) (by decide)
  cases bdI 4 p <;> cases bdI 4 k <;> simp (disch := decide) only [i_lt0, i_Nlt, i_leN, Bool.not_true, Bool.not_false, Bool.and_true, Bool.true_and, Bool.and_false, Bool.false_and, if_true, if_false, Bool.false_eq_true, Bool.not_and, Bool.or_eq_true, Bool.not_eq_true', ← Bool.not_eq_true, h1, h2]
  repeat' split
  all_goals omega
theorem k_eTell (p k d : Int32) : kTell p k d = kbTell p k d := by
  unfold kTell kbTell
  rw [in_eq4, in_eq4]
  have h2 := in_iff (x := d) (a := 0) (b := 9999) (by decide) (by decide)
  cases bdI 4 p <;> cases bdI 4 k <;> simp (disch := decide) only [i_lt0, i_Nlt, i_leN, Bool.not_true, Bool.not_false, Bool.and_true, Bool.true_and, Bool.and_false, Bool.false_and, if_true, if_false, Bool.false_eq_true, Bool.not_eq_true', ← Bool.not_eq_true, h2]
  repeat' split
  all_goals omega
theorem k_eRound (p w : Int32) : kRound p w = kbRound p w := by
  unfold kRound kbRound
  rw [in_eq4]
  have h2 := in_iff (x := w) (a := 0) (b := 2) (by decide) (by decide)
  cases bdI 4 p <;> simp (disch := decide) only [i_lt0, i_Nlt, i_leN, Bool.not_true, Bool.not_false, if_true, if_false, Bool.false_eq_true, Bool.not_eq_true', ← Bool.not_eq_true, h2]
  repeat' split
  all_goals omega
theorem k_eClient (c p : Int32) : kClient c p = kbClient c p := by
  unfold kClient kbClient
  rw [in_eq4, in_eq10]
  cases bdI 4 p <;> cases bdI 10 c <;> rfl
theorem k_eLine {n : Nat} (hn : n ≤ 6) (k q p : Int32) : kLine n k q p = kbLine n k q p := by
  unfold kLine kbLine
  rw [in_eq4]
  have h1 := in_iff (x := q) (a := 1) (b := 99) (by decide) (by decide)
  have h2 := in_iff (x := p) (a := 1) (b := 9999) (by decide) (by decide)
  cases bdI 4 k <;> simp (disch := decide) only [i_ltN, i_Nlt, i_leN, Bool.not_true, Bool.not_false, if_true, if_false, Bool.false_eq_true, Bool.not_and, Bool.or_eq_true, Bool.not_eq_true', ← Bool.not_eq_true, h1, h2]
  repeat' split
  all_goals omega
theorem k_eNote {n : Nat} (hn : n ≤ 40) (i w : Int32) : kNote n i w = kbNote n i w := by
  unfold kNote kbNote
  rw [in_eqb (by omega)]
  have h2 := in_iff (x := w) (a := 0) (b := 2) (by decide) (by decide)
  cases bdI n i <;> simp (disch := decide) only [i_eqN, Bool.not_true, Bool.not_false, if_true, if_false, Bool.false_eq_true, Bool.not_eq_true', ← Bool.not_eq_true, h2]
  repeat' split
  all_goals omega
theorem k_ePlace (p : Int32) : kPlace p = kbPlace p := by
  unfold kPlace kbPlace
  rw [in_eq4]
  cases bdI 4 p <;> rfl
theorem k_eBill {n : Nat} (hn : n ≤ 30) (i : Int32) : kBill n i = kbBill n i := by
  unfold kBill kbBill
  rw [in_eqb (by omega)]
  cases bdI n i <;> rfl
theorem k_eInv {n : Nat} (hn : n ≤ 30) (i w : Int32) : kInv n i w = kbInv n i w := by
  unfold kInv kbInv
  rw [in_eqb (by omega)]
  have h2 := in_iff (x := w) (a := 0) (b := 7) (by decide) (by decide)
  cases bdI n i <;> simp (disch := decide) only [i_eqN, Bool.not_true, Bool.not_false, if_true, if_false, Bool.false_eq_true, Bool.not_eq_true', ← Bool.not_eq_true, h2]
  repeat' split
  all_goals omega
theorem k_eStrike {n : Nat} (hn : n ≤ 6) (i : Int32) : kStrike n i = kbStrike n i := by
  unfold kStrike kbStrike
  have h1 := inb_iff (x := i) (n := n) (by omega)
  simp only [i_lt0, i_ltN (n := n) (by omega), h1]
  repeat' split
  all_goals omega
theorem k_eUsed {n : Nat} (hn : n ≤ 30) {ln : Nat → Nat} (i y : Int32) (hl : ∀ b, b < n → ln b ≤ 6) : kUsed n ln i y = kbUsed n ln i y := by
  unfold kUsed kbUsed
  rw [in_eqb (by omega)]
  have hb := bd_iff (x := i) (n := n) (by omega)
  cases h : bdI n i
  · rw [h] at hb
    have h3 : i.toNatClampNeg < n := by show i.toInt.toNat < n; have := (not_congr hb).mp (by decide); omega
    have h4 := hl _ h3
    have h1 := inb_iff (x := y) (n := ln i.toNatClampNeg) (by omega)
    simp only [i_lt0, i_ltN (n := ln i.toNatClampNeg) (by omega), h1, Bool.not_false, if_true, if_false, Bool.false_eq_true]
    repeat' split
    all_goals omega
  · rfl
theorem k_eMake {b n : Nat} (hb : b ≤ 30) (c : Int32) : kMake b n c = kbMake b n c := by
  unfold kMake kbMake
  rw [in_eq10]
  cases bdI 10 c <;> simp only [Bool.not_true, Bool.not_false, if_true, if_false, Bool.false_eq_true]
  repeat' split
  all_goals omega
theorem k_eTmpl {n : Nat} (hn : n ≤ 6) (t : Int32) : kTmpl n t = kbTmpl n t := by
  unfold kTmpl kbTmpl
  have h2 := in_iff (x := t) (a := 0) (b := n) (by decide) (by omega)
  simp (disch := decide) only [i_leN (n := n) (by omega), i_lt0, i_ltN, i_eqN, Bool.not_eq_true', ← Bool.not_eq_true, h2]
  repeat' split
  all_goals omega
theorem k_eWrit {nB nF : Nat} (hB : nB ≤ 30) (hF : nF ≤ 6) (i t p : Int32) : kWrit nB nF i t p = kbWrit nB nF i t p := by
  unfold kWrit kbWrit
  rw [in_eqb (by omega), in_eqb (by omega)]
  have h1 := i_0le (x := p); have h2 := i_lt0 (x := p)
  cases bdI nB i <;> cases bdI nF t <;> simp only [Bool.not_true, Bool.not_false, Bool.and_true, Bool.true_and, Bool.and_false, Bool.false_and, if_true, if_false, Bool.false_eq_true, Bool.not_eq_true', decide_eq_false_iff_not, h1, h2]
  repeat' split
  all_goals omega
theorem k_eLen {nB nF : Nat} (hB : nB ≤ 30) (hF : nF ≤ 6) (i t : Int32) : kLen nB nF i t = kbLen nB nF i t := by
  unfold kLen kbLen
  rw [in_eqb (by omega), in_eqb (by omega)]
  cases bdI nB i <;> cases bdI nF t <;> rfl
