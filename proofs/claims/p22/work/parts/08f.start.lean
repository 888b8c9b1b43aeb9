/-! ===== what the start says ===== -/
theorem x_strA {args : Array Value} {s : State} {own tx : String} {k : Nat} (h1 : (Cond.stringRef own k tx).before args s = true) (h2 : (Cond.exactly (Term.string own k) "java/lang/String").before args s = true) : ∃ a : Nat, vk_R own k tx a s := by
  obtain ⟨a, c, cell, kA, q1, -⟩ := Cond.exactly_spec (args := args) (first := s) (o := none) (s := s) (idx := []) h2
  exact ⟨a, vk_R.of h1 q1⟩
abbrev nwC : Cond := Jvm.Cond.and given_1 narrow_1
section V0
variable {args : Array Value} {s : State}
set_option maxRecDepth 100000 in
theorem x_SR0 (hts : ∀ w ∈ lw_tbl, w.before args s = true) (hs : ∀ w ∈ flatC nwC, w.before args s = true) : ∀ q ∈ SRs, ∃ a : Nat, vk_R q.1 q.2.1 q.2.2 a s := by
  have v0 : ∃ a : Nat, vk_R "InvoiceSmith" 76 "a sign is out of range, or stands behind 8 bits of 0" a s := x_strA (hts _ (List.mem_of_getElem? (i := 792) (by decide +kernel))) (hs (Cond.exactly (Term.string "InvoiceSmith" 76) "java/lang/String") (by decide +kernel))
  have v1 : ∃ a : Nat, vk_R "InvoiceSmith" 87 "the page has no room for that many signs" a s := x_strA (hts _ (List.mem_of_getElem? (i := 793) (by decide +kernel))) (hs (Cond.exactly (Term.string "InvoiceSmith" 87) "java/lang/String") (by decide +kernel))
  have v2 : ∃ a : Nat, vk_R "InvoiceSmith" 99 "no such template" a s := x_strA (hts _ (List.mem_of_getElem? (i := 347) (by decide +kernel))) (hs (Cond.exactly (Term.string "InvoiceSmith" 99) "java/lang/String") (by decide +kernel))
  have v3 : ∃ a : Nat, vk_R "InvoiceSmith" 102 "no more templates can be told" a s := x_strA (hts _ (List.mem_of_getElem? (i := 383) (by decide +kernel))) (hs (Cond.exactly (Term.string "InvoiceSmith" 102) "java/lang/String") (by decide +kernel))
  have v4 : ∃ a : Nat, vk_R "InvoiceSmith" 113 "days is out of range" a s := x_strA (hts _ (List.mem_of_getElem? (i := 556) (by decide +kernel))) (hs (Cond.exactly (Term.string "InvoiceSmith" 113) "java/lang/String") (by decide +kernel))
  have v5 : ∃ a : Nat, vk_R "InvoiceSmith" 265 "no such place" a s := x_strA (hts _ (List.mem_of_getElem? (i := 570) (by decide +kernel))) (hs (Cond.exactly (Term.string "InvoiceSmith" 265) "java/lang/String") (by decide +kernel))
  have v6 : ∃ a : Nat, vk_R "InvoiceSmith" 267 "no such kind" a s := x_strA (hts _ (List.mem_of_getElem? (i := 574) (by decide +kernel))) (hs (Cond.exactly (Term.string "InvoiceSmith" 267) "java/lang/String") (by decide +kernel))
  have v7 : ∃ a : Nat, vk_R "InvoiceSmith" 125 "hundredths or from is out of range" a s := x_strA (hts _ (List.mem_of_getElem? (i := 575) (by decide +kernel))) (hs (Cond.exactly (Term.string "InvoiceSmith" 125) "java/lang/String") (by decide +kernel))
  have v8 : ∃ a : Nat, vk_R "InvoiceSmith" 130 "no more rates can be told" a s := x_strA (hts _ (List.mem_of_getElem? (i := 576) (by decide +kernel))) (hs (Cond.exactly (Term.string "InvoiceSmith" 130) "java/lang/String") (by decide +kernel))
  have v9 : ∃ a : Nat, vk_R "InvoiceSmith" 136 "day is out of range" a s := x_strA (hts _ (List.mem_of_getElem? (i := 586) (by decide +kernel))) (hs (Cond.exactly (Term.string "InvoiceSmith" 136) "java/lang/String") (by decide +kernel))
  have v10 : ∃ a : Nat, vk_R "InvoiceSmith" 142 "way is out of range" a s := x_strA (hts _ (List.mem_of_getElem? (i := 596) (by decide +kernel))) (hs (Cond.exactly (Term.string "InvoiceSmith" 142) "java/lang/String") (by decide +kernel))
  have v11 : ∃ a : Nat, vk_R "InvoiceSmith" 269 "no such client" a s := x_strA (hts _ (List.mem_of_getElem? (i := 606) (by decide +kernel))) (hs (Cond.exactly (Term.string "InvoiceSmith" 269) "java/lang/String") (by decide +kernel))
  have v12 : ∃ a : Nat, vk_R "InvoiceSmith" 155 "quantity or price is out of range" a s := x_strA (hts _ (List.mem_of_getElem? (i := 611) (by decide +kernel))) (hs (Cond.exactly (Term.string "InvoiceSmith" 155) "java/lang/String") (by decide +kernel))
  have v13 : ∃ a : Nat, vk_R "InvoiceSmith" 160 "the draft has no room for another line" a s := x_strA (hts _ (List.mem_of_getElem? (i := 612) (by decide +kernel))) (hs (Cond.exactly (Term.string "InvoiceSmith" 160) "java/lang/String") (by decide +kernel))
  have v14 : ∃ a : Nat, vk_R "InvoiceSmith" 170 "no such line" a s := x_strA (hts _ (List.mem_of_getElem? (i := 694) (by decide +kernel))) (hs (Cond.exactly (Term.string "InvoiceSmith" 170) "java/lang/String") (by decide +kernel))
  have v15 : ∃ a : Nat, vk_R "InvoiceSmith" 178 "the draft is empty, or no more invoices can be made" a s := x_strA (hts _ (List.mem_of_getElem? (i := 622) (by decide +kernel))) (hs (Cond.exactly (Term.string "InvoiceSmith" 178) "java/lang/String") (by decide +kernel))
  have v16 : ∃ a : Nat, vk_R "InvoiceSmith" 271 "no such invoice" a s := x_strA (hts _ (List.mem_of_getElem? (i := 668) (by decide +kernel))) (hs (Cond.exactly (Term.string "InvoiceSmith" 271) "java/lang/String") (by decide +kernel))
  have v17 : ∃ a : Nat, vk_R "InvoiceSmith" 225 "what is out of range" a s := x_strA (hts _ (List.mem_of_getElem? (i := 677) (by decide +kernel))) (hs (Cond.exactly (Term.string "InvoiceSmith" 225) "java/lang/String") (by decide +kernel))
  have v18 : ∃ a : Nat, vk_R "InvoiceSmith" 238 "no such place in what is written" a s := x_strA (hts _ (List.mem_of_getElem? (i := 703) (by decide +kernel))) (hs (Cond.exactly (Term.string "InvoiceSmith" 238) "java/lang/String") (by decide +kernel))
  exact List.forall_mem_cons.mpr ⟨v0, List.forall_mem_cons.mpr ⟨v1, List.forall_mem_cons.mpr ⟨v2, List.forall_mem_cons.mpr ⟨v3, List.forall_mem_cons.mpr ⟨v4, List.forall_mem_cons.mpr ⟨v5, List.forall_mem_cons.mpr ⟨v6, List.forall_mem_cons.mpr ⟨v7, List.forall_mem_cons.mpr ⟨v8, List.forall_mem_cons.mpr ⟨v9, List.forall_mem_cons.mpr ⟨v10, List.forall_mem_cons.mpr ⟨v11, List.forall_mem_cons.mpr ⟨v12, List.forall_mem_cons.mpr ⟨v13, List.forall_mem_cons.mpr ⟨v14, List.forall_mem_cons.mpr ⟨v15, List.forall_mem_cons.mpr ⟨v16, List.forall_mem_cons.mpr ⟨v17, List.forall_mem_cons.mpr ⟨v18, (fun _ h => absurd h List.not_mem_nil)⟩⟩⟩⟩⟩⟩⟩⟩⟩⟩⟩⟩⟩⟩⟩⟩⟩⟩⟩
set_option maxRecDepth 100000 in
theorem x_NC0 {s : State} (hs : ∀ w ∈ flatC nwC, w.before args s = true) : ∀ q ∈ NCs, va_Nc q.1 q.2 s := by
  exact (fun _ h => absurd h List.not_mem_nil)
def nmT (i : Nat) : Term := if i = 0 then Term.string "InvoiceSmith$Reader" 85 else Term.string "InvoiceSmith$Reader" 93
theorem lwA_no {s : State} : ∀ a : Nat, a < s.heap.size → ¬ lwA s a := fun a h => Nat.not_le.mpr h
set_option maxRecDepth 100000 in
theorem x_Vs0 (hts : ∀ w ∈ lw_tbl, w.before args s = true) (hs : ∀ w ∈ flatC nwC, w.before args s = true) : ∃ adK adV : Nat → Nat, xVs (lwA s) s s.heap adK adV := by
  have two : ∀ {P : Nat → Prop}, P 0 → P 1 → ∀ i, i < 2 → P i := fun h0 h1 i hi => by rcases (show i = 0 ∨ i = 1 by omega) with rfl | rfl; exact h0; exact h1
  obtain ⟨adK, adV, h1, h2⟩ := vk_Sof (args := args) (s := s) (N := 2) (tm := nmT) (len := [7, 6]) (byt := nmBy) (A := lwA s) (two (by decide) (by decide)) (two (hs _ (by decide +kernel)) (hs _ (by decide +kernel))) (two (hs _ (by decide +kernel)) (hs _ (by decide +kernel))) (two (hs _ (by decide +kernel)) (hs _ (by decide +kernel))) (two (hs _ (by decide +kernel)) (hs _ (by decide +kernel)))
    (two (fun j hj => by
      rcases (show j = 0 ∨ j = 1 ∨ j = 2 ∨ j = 3 ∨ j = 4 ∨ j = 5 ∨ j = 6 by have hj9 : j < 7 := hj; omega) with rfl | rfl | rfl | rfl | rfl | rfl | rfl
      all_goals exact hs _ (by decide +kernel)) (fun j hj => by
      rcases (show j = 0 ∨ j = 1 ∨ j = 2 ∨ j = 3 ∨ j = 4 ∨ j = 5 by have hj9 : j < 6 := hj; omega) with rfl | rfl | rfl | rfl | rfl | rfl
      all_goals exact hs _ (by decide +kernel)))
    (fun i j hi hj hij => by
      rcases (show (i = 0 ∧ j = 1) ∨ (i = 1 ∧ j = 0) by omega) with ⟨rfl, rfl⟩ | ⟨rfl, rfl⟩
      · exact Or.inl (hs _ (by decide +kernel))
      · exact Or.inr (hs _ (by decide +kernel))) lwA_no
  exact ⟨adK, adV, h1, vk_R.of (hts _ (List.mem_of_getElem? (i := 435) (by decide +kernel))) (h2 0 (by decide)), vk_R.of (hts _ (List.mem_of_getElem? (i := 522) (by decide +kernel))) (h2 1 (by decide))⟩
set_option maxRecDepth 100000 in
theorem x_V0 (hts : ∀ w ∈ lw_tbl, w.before args s = true) (hs : ∀ w ∈ flatC nwC, w.before args s = true) : xV (lwA s) s s.heap := by
  refine ⟨vx_Zqof (hts _ (List.mem_of_getElem? (i := 333) (by decide +kernel))) (hts _ (List.mem_of_getElem? (i := 50) (by decide +kernel))) (hs _ (by decide +kernel)) lwA_no, vx_Zqof (hts _ (List.mem_of_getElem? (i := 335) (by decide +kernel))) (hts _ (List.mem_of_getElem? (i := 50) (by decide +kernel))) (hs _ (by decide +kernel)) lwA_no, va_Zof (hts _ (List.mem_of_getElem? (i := 449) (by decide +kernel))) (hts _ (List.mem_of_getElem? (i := 56) (by decide +kernel))) (va_eqi (hs _ (by decide +kernel))) lwA_no, x_Vs0 hts hs, x_SR0 hts hs, x_NC0 hs⟩
theorem x_N0 (hts : ∀ w ∈ lw_tbl, w.before args s = true) : xN s := by
  intro w hw
  obtain ⟨h1, h2⟩ := List.mem_filter.mp hw
  have h3 := hts w h1
  cases w with
  | methodLinkNest => exact va_Nw.of rfl h3
  | fieldLinkNest => exact va_Nw.of rfl h3
  | castable => exact va_Nw.of rfl h3
  | declares => exact va_Nw.of rfl h3
  | arrayOver ty =>
    cases ty with
    | object C => exact va_AO.of h3
    | _ => cases h2
  | _ => cases h2
theorem x_ar {args : Array Value} {s : State} {ty : FieldType} (h : (Cond.arrayClass ty).before args s = true) (hp : ∀ C, ty ≠ .object C) : ∃ cA : ClassId, ArrOfT s cA ty ∧ va_RA s cA ty := by
  obtain ⟨cA, kA, comp, h1, h2, h3⟩ := Cond.arrayClass_spec (args := args) (first := s) (o := none) (s := s) (idx := []) h
  refine ⟨cA, fun n z => ⟨(fun k h => by cases h), kA, h2, comp, h3⟩, ?_⟩
  cases ty with
  | object C => exact absurd rfl (hp C)
  | _ => exact h1
theorem x_ao {args : Array Value} {s : State} {C : String} (h : (Cond.arrayOver (.object C)).before args s = true) : ∃ cA : ClassId, ArrOfT s cA (.object C) ∧ va_RA s cA (.object C) := by
  obtain ⟨comp, cA, kA, h1, h2, h3, h4, h5⟩ := Cond.arrayOver_spec (args := args) (first := s) (o := none) (s := s) (idx := []) h
  exact ⟨cA, fun n z => ⟨(fun k h => by cases h), kA, h3, comp, h4⟩, kA, comp, h3, h4, h1, h5⟩
set_option maxRecDepth 100000 in
theorem x_K0 (hts : ∀ w ∈ lw_tbl, w.before args s = true) : ∃ (D : va_G) (cy : Nat → ClassId), va_K D vwCl (xtys cy) s := by
  have ht : ∀ w ∈ TB, w.before args s = true := fun w hw => hts w (List.mem_filter.mp hw).1
  obtain ⟨c0, i0, k0⟩ := u_known (C := RX0) (T := TX0) (N := 13) (n := 13) ht inT0 (ht _ tb186)
  obtain ⟨c1, i1, k1⟩ := u_known (C := RX1) (T := TX1) (N := 4) (n := 4) ht inT1 (ht _ tb93)
  obtain ⟨c2, i2, k2⟩ := u_known (C := RX2) (T := TX2) (N := 4) (n := 4) ht inT2 (ht _ tb243)
  obtain ⟨c3, i3, k3⟩ := u_known (C := RX3) (T := TX3) (N := 2) (n := 2) ht inT3 (ht _ tb77)
  obtain ⟨c4, i4, k4⟩ := u_known (C := RX4) (T := TX4) (N := 5) (n := 5) ht inT4 (ht _ tb163)
  obtain ⟨c5, i5, k5⟩ := u_known (C := RX5) (T := TX5) (N := 4) (n := 4) ht inT5 (ht _ tb71)
  obtain ⟨c6, i6, k6⟩ := u_known (C := RX6) (T := TX6) (N := 7) (n := 7) ht inT6 (ht _ tb131)
  obtain ⟨c7, i7, k7⟩ := u_known (C := RX7) (T := TX7) (N := 13) (n := 13) ht inT7 (ht _ tb63)
  obtain ⟨a0, p0⟩ := x_ar (ht _ ac_int) (fun C h => by cases h)
  obtain ⟨a2, p2⟩ := x_ao (x_N0 hts _ ao_bill)
  obtain ⟨a3, p3⟩ := x_ao (x_N0 hts _ ao_form)
  refine ⟨(fun k => [c0, c1, c2, c3, c4, c5, c6, c7].getD k c0, fun k => [i0, i1, i2, i3, i4, i5, i6, i7].getD k i0), fun k => [a0, a0, a2, a3, a0].getD k a0, fun k q hq => ?_, fun k q hq => ?_⟩
  · match k, hq with
    | 0, hq => cases hq; exact k0
    | 1, hq => cases hq; exact k1
    | 2, hq => cases hq; exact k2
    | 3, hq => cases hq; exact k3
    | 4, hq => cases hq; exact k4
    | 5, hq => cases hq; exact k5
    | 6, hq => cases hq; exact k6
    | 7, hq => cases hq; exact k7
    | k + 8, hq => cases hq
  · match k, hq with
    | 0, hq => cases hq; exact p0
    | 1, hq => cases hq; exact p0
    | 2, hq => cases hq; exact p2
    | 3, hq => cases hq; exact p3
    | 4, hq => cases hq; exact p0
    | k + 5, hq => cases hq
end V0
def Ls0 : List Nat := [0, 1, 2, 11, 300, 301, 302, 303, 3, 12, 6, 4, 13, 14, 15, 16, 7, 8, 100, 101, 102, 103, 104, 105, 9, 10, 5, 17, 18, 19]
def st0 : XS := (fun _ _ => 0, fun _ _ => 0, fun f k => if f = 8 ∧ k = 0 then some 100 else if f = 1 ∧ k = 1 then some 300 else none, fun _ _ => 0, fun _ _ => none)
def ad0 (qs : List Nat) : Nat → Nat := fun k => qs.getD (Ls0.idxOf k) 0
set_option maxRecDepth 100000 in
set_option maxHeartbeats 4000000 in
theorem ws0 (cy : Nat → ClassId) (q0 q1 q2 q3 q4 q5 q6 q7 q8 q9 q10 q11 q12 q13 q14 q15 q16 q17 q18 q19 q20 q21 q22 q23 q24 q25 q26 q27 q28 q29 : Nat) : xws (ad0 [q0, q1, q2, q3, q4, q5, q6, q7, q8, q9, q10, q11, q12, q13, q14, q15, q16, q17, q18, q19, q20, q21, q22, q23, q24, q25, q26, q27, q28, q29]) Ls0 (xE cy (ad0 [q0, q1, q2, q3, q4, q5, q6, q7, q8, q9, q10, q11, q12, q13, q14, q15, q16, q17, q18, q19, q20, q21, q22, q23, q24, q25, q26, q27, q28, q29]) st0) = [(q0, .inr (7, [.ref q1, .ref q8, .ref q10, .int 0, .int 0, .ref q11, .ref q16, .ref q17, .ref q18, .ref q24, .int 0, .ref q25, .ref q26])), (q1, .inr (5, [.ref q2, .ref q4, .int 0, .int 0])), (q2, .inr (3, [.ref q3, .int 0])), (q3, .inl (cy 0, 160, .inl (fun _ => 0))), (q4, .inr (1, [.ref q5, .ref q6, .ref q7, .int 0])), (q5, .inl (cy 0, 160, .inl (fun _ => 0))), (q6, .inl (cy 0, 160, .inl (fun _ => 0))), (q7, .inl (cy 0, 160, .inl (fun _ => 0))), (q8, .inr (6, [.ref q9, .int 0, .int 0, .int 0, .int 0, .long 0, .long 0])), (q9, .inl (cy 0, 10, .inl (fun _ => 0))), (q10, .inl (cy 3, 6, .inr (.inr (.inr (.inr (fun _ => none)))))), (q11, .inr (4, [.ref q12, .ref q13, .ref q14, .ref q15, .int 0])), (q12, .inl (cy 0, 60, .inl (fun _ => 0))), (q13, .inl (cy 0, 60, .inl (fun _ => 0))), (q14, .inl (cy 0, 60, .inl (fun _ => 0))), (q15, .inl (cy 0, 60, .inl (fun _ => 0))), (q16, .inl (cy 0, 4, .inl (fun _ => 0))), (q17, .inl (cy 0, 10, .inl (fun _ => 0))), (q18, .inr (0, [.ref q19, .ref q20, .ref q21, .int 0, .int 0, .int 0, .int 0, .int 0, .int 0, .ref q22, .ref q23, .int 0, .int 0])), (q19, .inl (cy 0, 6, .inl (fun _ => 0))), (q20, .inl (cy 0, 6, .inl (fun _ => 0))), (q21, .inl (cy 0, 6, .inl (fun _ => 0))), (q22, .inl (cy 0, 4, .inl (fun _ => 0))), (q23, .inl (cy 0, 4, .inl (fun _ => 0))), (q24, .inl (cy 2, 30, .inr (.inr (.inr (.inr (fun _ => none)))))), (q25, .inl (cy 0, 4, .inl (fun _ => 0))), (q26, .inr (2, [.ref q27, .ref q28, .ref q29, .int 0])), (q27, .inl (cy 0, 40, .inl (fun _ => 0))), (q28, .inl (cy 0, 40, .inl (fun _ => 0))), (q29, .inl (cy 0, 40, .inl (fun _ => 0)))] := rfl
