/-! ===== the reference: make ===== -/
def fcp (f : Nat → Int32) (m : Nat) (g : Nat → Int32) : Nat → (Nat → Int32)
  | 0 => f
  | k + 1 => upd (fcp f m g k) (m + k) (g k)
def sa5 (st : XS) (a b c d e : Nat → Int32) : XS := sa (sa (sa (sa (sa st 64 a) 65 b) 66 c) 67 d) 70 e
theorem sa5_s (st : XS) (a b c d e a' b' c' d' e' : Nat → Int32) : sa (sa (sa (sa (sa (sa5 st a b c d e) 64 a') 65 b') 66 c') 67 d') 70 e' = sa5 st a' b' c' d' e' := by
  unfold sa5
  refine XS_ext (fun _ _ => rfl) (fun _ _ => rfl) (fun _ _ => rfl) (fun k => ?_) (fun _ => rfl)
  simp only [ga_sa]
  by_cases k1 : k = 70
  · simp only [if_pos k1]
  · by_cases k2 : k = 67
    · simp only [if_neg k1, if_pos k2]
    · by_cases k3 : k = 66
      · simp only [if_neg k1, if_neg k2, if_pos k3]
      · by_cases k4 : k = 65
        · simp only [if_neg k1, if_neg k2, if_neg k3, if_pos k4]
        · by_cases k5 : k = 64
          · simp only [if_neg k1, if_neg k2, if_neg k3, if_neg k4, if_pos k5]
          · simp only [if_neg k1, if_neg k2, if_neg k3, if_neg k4, if_neg k5]
theorem sa5_id (st : XS) : sa5 st (ga st 64) (ga st 65) (ga st 66) (ga st 67) (ga st 70) = st := by
  unfold sa5
  refine XS_ext (fun _ _ => rfl) (fun _ _ => rfl) (fun _ _ => rfl) (fun k => ?_) (fun _ => rfl)
  simp only [ga_sa]
  by_cases k1 : k = 70
  · rw [if_pos k1, k1]
  · by_cases k2 : k = 67
    · rw [if_neg k1, if_pos k2, k2]
    · by_cases k3 : k = 66
      · rw [if_neg k1, if_neg k2, if_pos k3, k3]
      · by_cases k4 : k = 65
        · rw [if_neg k1, if_neg k2, if_neg k3, if_pos k4, k4]
        · by_cases k5 : k = 64
          · rw [if_neg k1, if_neg k2, if_neg k3, if_neg k4, if_pos k5, k5]
          · rw [if_neg k1, if_neg k2, if_neg k3, if_neg k4, if_neg k5]
def kbMake (b n : Nat) (c : Int32) : Nat := if !inR c (nI 0) (nI 9) then 1 else if n = 0 then 2 else if b = 30 then 2 else 0
