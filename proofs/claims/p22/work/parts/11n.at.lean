/-! ===== a text's places ===== -/
def At9 (T : List Int32) (q : Nat) (S : List Int32) : Prop := ∀ j, j < S.length → T.getD (q + j) (nI 32) = S.getD j (nI 32)
theorem At9_app {T A B : List Int32} {q : Nat} (h : At9 T q (A ++ B)) : At9 T q A ∧ At9 T (q + A.length) B := by
  refine ⟨fun j hj => ?_, fun j hj => ?_⟩
  · rw [h j (by rw [List.length_append]; omega), List.getD_eq_getElem?_getD, List.getElem?_append_left hj, ← List.getD_eq_getElem?_getD]
  · rw [Nat.add_assoc, h (A.length + j) (by rw [List.length_append]; omega), List.getD_eq_getElem?_getD, List.getElem?_append_right (by omega), Nat.add_sub_cancel_left, ← List.getD_eq_getElem?_getD]
theorem At9_cons {T B : List Int32} {c : Int32} {q : Nat} (h : At9 T q (c :: B)) : T.getD q (nI 32) = c ∧ At9 T (q + 1) B :=
  ⟨h 0 (by rw [List.length_cons]; omega), fun j hj => by rw [Nat.add_assoc, Nat.add_comm 1 j, h (j + 1) (by rw [List.length_cons]; omega)]; rfl⟩
theorem At9_self (T : List Int32) : At9 T 0 T := fun j _ => by rw [Nat.zero_add]
theorem lnsT_sp {f : Nat → List Int32} {k : Nat} : ∀ n, k < n → ∃ R, lnsT f n = lnsT f k ++ (f k ++ R) := by
  intro n
  induction n with
  | zero => intro h; omega
  | succ n ih =>
    intro h
    by_cases e : k = n
    · subst e; exact ⟨[], by rw [lnsT, List.append_nil]⟩
    · obtain ⟨R, hR⟩ := ih (by omega)
      exact ⟨R ++ f n, by rw [lnsT, hR, List.append_assoc, List.append_assoc]⟩
theorem At9_lns {T : List Int32} {q n k : Nat} {f : Nat → List Int32} (h : At9 T q (lnsT f n)) (hk : k < n) : At9 T (q + (lnsT f k).length) (f k) := by
  obtain ⟨R, hR⟩ := lnsT_sp n hk
  rw [hR] at h
  exact (At9_app (At9_app h).2).1
theorem getD_end {T : List Int32} {q : Nat} (h : T.length ≤ q) : T.getD q (nI 32) = nI 32 := by
  rw [List.getD_eq_getElem?_getD, List.getElem?_eq_none h]; rfl
/-- the pieces of an invoice's text -/
theorem txT_At (b : Nat) (LL : List Int32) (s t : Nat) : At9 (txT b LL s t) 0 (numT b 0) ∧ (txT b LL s t).getD (numT b 0).length (nI 32) = nI 58 ∧ At9 (txT b LL s t) ((numT b 0).length + 1) LL ∧ (s = t → (txT b LL s t).getD ((numT b 0).length + 1 + LL.length) (nI 32) = nI 33) ∧ At9 (txT b LL s t) ((numT b 0).length + 1 + LL.length + (if s = t then 1 else 0)) (numT (s + t) 9) ∧ (txT b LL s t).length = (numT b 0).length + 1 + LL.length + (if s = t then 1 else 0) + (numT (s + t) 9).length := by
  have h0 := At9_self (txT b LL s t)
  have hlen : ((numT b 0) ++ [nI 58]).length = (numT b 0).length + 1 := by rw [List.length_append]; rfl
  have e : txT b LL s t = (numT b 0 ++ [nI 58]) ++ (LL ++ ((if s = t then [nI 33] else []) ++ numT (s + t) 9)) := rfl
  obtain ⟨T, hT⟩ : ∃ T, T = txT b LL s t := ⟨_, rfl⟩
  rw [← hT] at h0 ⊢
  have h1 : At9 T 0 ((numT b 0 ++ [nI 58]) ++ (LL ++ ((if s = t then [nI 33] else []) ++ numT (s + t) 9))) := by rw [← e, ← hT]; exact h0
  obtain ⟨p1, p2⟩ := At9_app h1
  obtain ⟨p3, p4⟩ := At9_app p1
  obtain ⟨p5, p6⟩ := At9_app p2
  obtain ⟨p7, p8⟩ := At9_app p6
  rw [hlen, Nat.zero_add] at p5
  rw [hlen, Nat.zero_add] at p7 p8
  rw [Nat.zero_add] at p4
  refine ⟨p3, (At9_cons p4).1, p5, fun hc => ?_, ?_, ?_⟩
  · rw [if_pos hc] at p7; exact (At9_cons p7).1
  · have : (if s = t then [nI 33] else []).length = if s = t then 1 else 0 := by split <;> rfl
    rw [this] at p8; exact p8
  · rw [hT, e, List.length_append, hlen, List.length_append, List.length_append]
    split
    · rw [List.length_cons, List.length_nil]; omega
    · rw [List.length_nil]; omega
theorem PI_WK {Ls : List Nat} {st v : XS} {bd d n mB nn : Nat} {ln : Nat → Nat} (h : PI Ls st bd d n mB nn ln) (hw : WK st v) : PI Ls v bd d n mB nn ln :=
  ⟨PA_K h.1 hw.2.2.1 hw.2.2.2.2, PI0_K h.1.2.2.2.2.2.2.2.2 h.2 hw.1 hw.2.2.1 (fun k hk => hw.2.2.2.1 k (by unfold PKa at hk; omega)) hw.2.2.2.2⟩
