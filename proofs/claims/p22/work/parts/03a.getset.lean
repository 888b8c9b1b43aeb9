/-! ===== InvoiceSmith.get and set: a row read and changed with the index tested ===== -/
def xget (n : Nat) (f : Nat → Int32) (i : Int32) : Int32 := if i < 0 ∨ n ≤ i.toNatClampNeg then 0 else f i.toNatClampNeg
def xset (n : Nat) (f : Nat → Int32) (i v : Int32) : Nat → Int32 := if i < 0 ∨ n ≤ i.toNatClampNeg then f else upd f i.toNatClampNeg v
theorem xget_nI {n j : Nat} {f : Nat → Int32} (h : j < n) (hn : n < 2 ^ 31) : xget n f (nI j) = f j := by
  unfold xget; rw [nI_clamp (by omega), if_neg]; rintro (h1 | h1)
  · exact nI_pos (by omega) h1
  · omega
theorem xset_nI {n j : Nat} {f : Nat → Int32} {v : Int32} (h : j < n) (hn : n < 2 ^ 31) : xset n f (nI j) v = upd f j v := by
  unfold xset; rw [nI_clamp (by omega), if_neg]; rintro (h1 | h1)
  · exact nI_pos (by omega) h1
  · omega
theorem x_vpin {i : Int32} {n : Nat} (hn : n < 2 ^ 31) (h0 : ¬ i < 0) (h1 : ¬ nI n ≤ i) : vp_in i n := by
  rw [vp_in_iff]
  rw [Int32.lt_iff_toInt_lt] at h0
  rw [Int32.le_iff_toInt_le, nI_toInt hn] at h1
  have z : (0 : Int32).toInt = 0 := rfl
  rw [z] at h0
  omega
theorem x_vpout {i : Int32} {n : Nat} (hn : n < 2 ^ 31) (h0 : ¬ i < 0) (h1 : nI n ≤ i) : n ≤ i.toNatClampNeg := by
  obtain ⟨j, hj, rfl⟩ := nI_of h0
  rw [nI_leI hn hj] at h1
  rw [nI_clamp hj]; exact h1
theorem sa_id (st : XS) (k : Nat) : sa st k (ga st k) = st := by
  unfold sa ga
  have e : xu1 st.2.2.2.1 k (st.2.2.2.1 k) = st.2.2.2.1 := by
    funext j; unfold xu1; by_cases h : j = k
    · subst h; rw [if_pos rfl]
    · rw [if_neg h]
  rw [e]
theorem x_len0 {ls : Array Slot} {nL : Nat} {l : List (Nat × Value)} (h : lv_has ls nL l) : ls.size = nL := h.1
set_option maxHeartbeats 1000000 in
theorem c_X7_get (l : Launch) (D : va_G) (cy : Nat → ClassId) (ad : Nat → Nat) (Ls : List Nat) (st : XS) {k n : Nat} (hk : k ∈ Ls) (hkd : kd k = 100 + n) (hn : n < 2 ^ 31) (i : Int32) : xMi l yX7_get cX7_get 2 (some .int) 0 D cy ad Ls st [.ref (ad k), .int i] (fun r u => r = xget n (ga st k) i ∧ u = st) := by
  intro sz
  refine x_of sz (by decide +kernel) (Nat.le_of_ble_eq_true rfl) ?_
  intro p e s m args below meth c ls hx hb hr hlocks C hsz h hl
  have hl : lv_has ls 2 [(0, .ref (ad k)), (1, .int i)] := hl
  refine lv_iload_n hx hb dX7_get_0 rfl (lv_at hl 1 rfl) ?_
  refine lv_if_lt (tgt := 16) hx hb dX7_get_1 (by decide) (fun c1 => ?_) (fun c1 => ?_)
  · refine lv_iconst (v := 0) hx hb dX7_get_16 rfl ?_
    exact x_iret C hr hlocks h ⟨by unfold xget; rw [if_pos (Or.inl c1)], rfl⟩ dX7_get_17
  · refine lv_iload_n hx hb dX7_get_4 rfl (lv_at hl 1 rfl) ?_
    refine lv_aload_n hx hb dX7_get_5 rfl (lv_at hl 0 rfl) ?_
    refine x_alen C h hk hkd dX7_get_6 ?_
    refine lv_icmp_ge (tgt := 16) hx hb dX7_get_7 (by decide) (fun c2 => ?_) (fun c2 => ?_)
    · refine lv_iconst (v := 0) hx hb dX7_get_16 rfl ?_
      exact x_iret C hr hlocks h ⟨by unfold xget; rw [if_pos (Or.inr (x_vpout hn c1 c2))], rfl⟩ dX7_get_17
    · have hv := x_vpin hn c1 c2
      refine lv_aload_n hx hb dX7_get_10 rfl (lv_at hl 0 rfl) ?_
      refine lv_iload_n hx hb dX7_get_11 rfl (lv_at hl 1 rfl) ?_
      refine x_aldI C h hk hkd hv dX7_get_12 ?_
      refine lv_goto (tgt := 17) hx hb dX7_get_13 (by decide) ?_
      exact x_iret C hr hlocks h ⟨by unfold xget; rw [if_neg hv], rfl⟩ dX7_get_17
set_option maxHeartbeats 1000000 in
theorem c_X7_set (l : Launch) (D : va_G) (cy : Nat → ClassId) (ad : Nat → Nat) (Ls : List Nat) (st : XS) {k n : Nat} (hk : k ∈ Ls) (hkd : kd k = 100 + n) (hn : n < 2 ^ 31) (i v : Int32) : xMv l yX7_set cX7_set 3 0 D cy ad Ls st [.ref (ad k), .int i, .int v] (fun u => u = sa st k (xset n (ga st k) i v)) := by
  intro sz
  refine x_of sz (by decide +kernel) (Nat.le_of_ble_eq_true rfl) ?_
  intro p e s m args below meth c ls hx hb hr hlocks C hsz h hl
  have hl : lv_has ls 3 [(0, .ref (ad k)), (1, .int i), (2, .int v)] := hl
  refine lv_iload_n hx hb dX7_set_0 rfl (lv_at hl 1 rfl) ?_
  refine lv_if_lt (tgt := 14) hx hb dX7_set_1 (by decide) (fun c1 => ?_) (fun c1 => ?_)
  · exact x_vret C hr hlocks h (by unfold xset; rw [if_pos (Or.inl c1), sa_id]) dX7_set_14
  · refine lv_iload_n hx hb dX7_set_4 rfl (lv_at hl 1 rfl) ?_
    refine lv_aload_n hx hb dX7_set_5 rfl (lv_at hl 0 rfl) ?_
    refine x_alen C h hk hkd dX7_set_6 ?_
    refine lv_icmp_ge (tgt := 14) hx hb dX7_set_7 (by decide) (fun c2 => ?_) (fun c2 => ?_)
    · exact x_vret C hr hlocks h (by unfold xset; rw [if_pos (Or.inr (x_vpout hn c1 c2)), sa_id]) dX7_set_14
    · have hv := x_vpin hn c1 c2
      refine lv_aload_n hx hb dX7_set_10 rfl (lv_at hl 0 rfl) ?_
      refine lv_iload_n hx hb dX7_set_11 rfl (lv_at hl 1 rfl) ?_
      refine lv_iload_n hx hb dX7_set_12 rfl (lv_at hl 2 rfl) ?_
      refine x_astI C h hk hkd hv dX7_set_13 (fun H locs u eu h => ?_)
      exact x_vret C hr hlocks h (by rw [eu]; unfold xset; rw [if_neg hv]) dX7_set_14
