/-! ===== the reference: nameOf ===== -/
def oZ : Option Nat → Nat := fun o => match o with | none => 0 | some j => j
/-- what a name stands for, by the reference -/
def mnmS (st : XS) (b n : Nat) (us : Nat → Option Nat) (o : Option Nat) (c : Int32) : Int32 :=
  if c = nI 97 then maS st b (oZ o) else if c = nI 99 then ga st 59 b else if c = nI 100 then ga st 60 b else if c = nI 103 then msS st b n + ga st 68 b else if c = nI 105 then oI o + nI 1 else if c = nI 107 then ga st 64 (6 * b + oZ o)
  else if c = nI 108 then ga st 61 b else if c = nI 110 then nI b else if c = nI 112 then ga st 66 (6 * b + oZ o) else if c = nI 113 then ga st 65 (6 * b + oZ o) else if c = nI 115 then msS st b n else if c = nI 116 then ga st 68 b else hun (maS st b (oZ o) * mrS st (us (oZ o)))

set_option maxHeartbeats 4000000 in
set_option maxRecDepth 100000 in
theorem c_X8_nameOf (l : Launch) (D : va_G) (cy : Nat → ClassId) (ad : Nat → Nat) (Ls : List Nat) (st : XS) (hM : ∀ k, k ∈ LsM → k ∈ Ls) (b n : Nat) (hb30 : b < 30) (hn6 : n ≤ 6) (hmany : ga st 61 b = nI n) (o : Option Nat) (ho : ∀ j, o = some j → j < 6) (hln : gi st 45 30 = oI o) (us : Nat → Option Nat) (hus : ∀ k, k < 6 → (∀ i, us k = some i → i < 60) ∧ ga st 67 (6 * b + k) = oI (us k)) (c9 : Int32) (hin : o = none → nmL0.contains c9 = true) : xMi l yX8_nameOf cX8_nameOf 4 (some .int) 2 D cy ad Ls st [.ref (ad 30), .int (nI b), .int c9] (fun r u => r = mnmS st b n us o c9 ∧ u = st) := by
  intro sz
  refine x_of sz (by decide +kernel) (Nat.le_of_ble_eq_true rfl) ?_
  intro p e s m args below meth c ls hx hb hr hlocks C hsz h hl
  have hl : lv_has ls 4 [(0, .ref (ad 30)), (1, .int (nI b)), (2, .int c9)] := hl
  obtain ⟨H, eH⟩ : ∃ z, z = s.heap := ⟨_, rfl⟩
  obtain ⟨locs, eL⟩ : ∃ z : List Loc, z = [] := ⟨_, rfl⟩
  rw [← eH, ← eL] at h
  rw [← eH, ← eL]
  clear eH eL
  rcases o with _ | j
  · have hl45 : gi st 45 30 = -1 := hln
    refine lv_bipush (v := nI 6) hx hb dX8_nameOf_0 (by decide) ?_
    refine lv_iload_n hx hb dX8_nameOf_2 rfl (lv_at hl 1 rfl) ?_
    refine x_mulN hx hb dX8_nameOf_3 ?_
    refine lv_aload_n hx hb dX8_nameOf_4 rfl (lv_at hl 0 rfl) ?_
    refine gf_X8_234 C h (hM 30 (by decide)) rfl dX8_nameOf_5 ?_
    refine x_topi hl45 ?_
    refine lv_iconst (v := (-1)) hx hb dX8_nameOf_8 (by decide) ?_
    refine lv_icmp_ne (tgt := 16) hx hb dX8_nameOf_9 (by decide) (fun q => absurd rfl q) (fun _ => ?_)
    refine lv_iconst (v := nI 0) hx hb dX8_nameOf_12 (by decide) ?_
    refine lv_goto (tgt := 20) hx hb dX8_nameOf_13 (by decide) ?_
    refine x_addN hx hb dX8_nameOf_20 ?_
    refine lv_istore_n (lv' := [(3, .int (nI ((6 * b) + 0))), (0, .ref (ad 30)), (1, .int (nI b)), (2, .int c9)]) hx hb dX8_nameOf_21 rfl hl (by decide) rfl (fun ls hl => ?_)
    refine lv_iload_n hx hb dX8_nameOf_22 rfl (lv_at hl 3 rfl) ?_
    by_cases g23_97 : c9 = nI 97
    · refine x_topi g23_97 ?_
      refine lv_tableIn (tgt := 193) (off := 170) hx hb dX8_nameOf_23 (by decide) (by decide) (by decide) (by decide) ?_
      exact absurd (hin rfl) (by rw [g23_97]; decide)
    by_cases g23_99 : c9 = nI 99
    · refine x_topi g23_99 ?_
      refine lv_tableIn (tgt := 118) (off := 95) hx hb dX8_nameOf_23 (by decide) (by decide) (by decide) (by decide) ?_
      refine lv_aload_n hx hb dX8_nameOf_118 rfl (lv_at hl 1 rfl) ?_
      refine gf_X8_65 C h (hM 30 (by decide)) rfl (k2 := 59) rfl dX8_nameOf_119 ?_
      refine lv_iload_n hx hb dX8_nameOf_122 rfl (lv_at hl 2 rfl) ?_
      refine x_ald C h (hM 59 (by decide)) (n := 30) rfl b (by omega) (by decide) rfl dX8_nameOf_123 ?_
      exact x_iret C hr hlocks h ⟨by (rw [mnmS, if_neg (by rw [g23_99]; decide), if_pos g23_99]) <;> first | rfl | exact (nI_add _ _).symm, rfl⟩ dX8_nameOf_124
    by_cases g23_100 : c9 = nI 100
    · refine x_topi g23_100 ?_
      refine lv_tableIn (tgt := 125) (off := 102) hx hb dX8_nameOf_23 (by decide) (by decide) (by decide) (by decide) ?_
      refine lv_aload_n hx hb dX8_nameOf_125 rfl (lv_at hl 1 rfl) ?_
      refine gf_X8_68 C h (hM 30 (by decide)) rfl (k2 := 60) rfl dX8_nameOf_126 ?_
      refine lv_iload_n hx hb dX8_nameOf_129 rfl (lv_at hl 2 rfl) ?_
      refine x_ald C h (hM 60 (by decide)) (n := 30) rfl b (by omega) (by decide) rfl dX8_nameOf_130 ?_
      exact x_iret C hr hlocks h ⟨by (rw [mnmS, if_neg (by rw [g23_100]; decide), if_neg (by rw [g23_100]; decide), if_pos g23_100]) <;> first | rfl | exact (nI_add _ _).symm, rfl⟩ dX8_nameOf_131
    by_cases g23_103 : c9 = nI 103
    · refine x_topi g23_103 ?_
      refine lv_tableIn (tgt := 152) (off := 129) hx hb dX8_nameOf_23 (by decide) (by decide) (by decide) (by decide) ?_
      refine lv_aload_n hx hb dX8_nameOf_152 rfl (lv_at hl 1 rfl) ?_
      refine lv_iload_n hx hb dX8_nameOf_153 rfl (lv_at hl 2 rfl) ?_
      refine cl_X8_225 C h (hM 30 (by decide)) rfl (c_X8_sumOf l D cy ad Ls st hM b n hb30 hn6 hmany) (x_room (by omega)) ⟨Nat.zero_le _, Nat.zero_le _⟩ hl.1 (Nat.le_of_ble_eq_true rfl) dX8_nameOf_154 (fun r2 u1 H locs hp h => ?_)
      obtain ⟨er2, eu1⟩ := hp; rw [eu1] at h; clear eu1 u1; refine x_topi er2 ?_; clear er2 r2
      refine lv_aload_n hx hb dX8_nameOf_157 rfl (lv_at hl 1 rfl) ?_
      refine gf_X8_92 C h (hM 30 (by decide)) rfl (k2 := 68) rfl dX8_nameOf_158 ?_
      refine lv_iload_n hx hb dX8_nameOf_161 rfl (lv_at hl 2 rfl) ?_
      refine x_ald C h (hM 68 (by decide)) (n := 30) rfl b (by omega) (by decide) rfl dX8_nameOf_162 ?_
      refine lv_iadd hx hb dX8_nameOf_163 ?_
      exact x_iret C hr hlocks h ⟨by (rw [mnmS, if_neg (by rw [g23_103]; decide), if_neg (by rw [g23_103]; decide), if_neg (by rw [g23_103]; decide), if_pos g23_103]) <;> first | rfl | exact (nI_add _ _).symm, rfl⟩ dX8_nameOf_164
    by_cases g23_105 : c9 = nI 105
    · refine x_topi g23_105 ?_
      refine lv_tableIn (tgt := 165) (off := 142) hx hb dX8_nameOf_23 (by decide) (by decide) (by decide) (by decide) ?_
      refine lv_aload_n hx hb dX8_nameOf_165 rfl (lv_at hl 1 rfl) ?_
      refine gf_X8_234 C h (hM 30 (by decide)) rfl dX8_nameOf_166 ?_
      refine x_topi hl45 ?_
      refine lv_iconst (v := nI 1) hx hb dX8_nameOf_169 (by decide) ?_
      refine lv_iadd hx hb dX8_nameOf_170 ?_
      exact x_iret C hr hlocks h ⟨by (rw [mnmS, if_neg (by rw [g23_105]; decide), if_neg (by rw [g23_105]; decide), if_neg (by rw [g23_105]; decide), if_neg (by rw [g23_105]; decide), if_pos g23_105]) <;> first | rfl | exact (nI_add _ _).symm, rfl⟩ dX8_nameOf_171
    by_cases g23_107 : c9 = nI 107
    · refine x_topi g23_107 ?_
      refine lv_tableIn (tgt := 172) (off := 149) hx hb dX8_nameOf_23 (by decide) (by decide) (by decide) (by decide) ?_
      refine lv_aload_n hx hb dX8_nameOf_172 rfl (lv_at hl 1 rfl) ?_
      refine gf_X8_80 C h (hM 30 (by decide)) rfl (k2 := 64) rfl dX8_nameOf_173 ?_
      refine lv_iload_n hx hb dX8_nameOf_176 rfl (lv_at hl 0 rfl) ?_
      refine x_ald C h (hM 64 (by decide)) (n := 180) rfl (6 * b + 0) (by omega) (by decide) rfl dX8_nameOf_177 ?_
      exact x_iret C hr hlocks h ⟨by (rw [mnmS, if_neg (by rw [g23_107]; decide), if_neg (by rw [g23_107]; decide), if_neg (by rw [g23_107]; decide), if_neg (by rw [g23_107]; decide), if_neg (by rw [g23_107]; decide), if_pos g23_107]) <;> first | rfl | exact (nI_add _ _).symm, rfl⟩ dX8_nameOf_178
    by_cases g23_108 : c9 = nI 108
    · refine x_topi g23_108 ?_
      refine lv_tableIn (tgt := 132) (off := 109) hx hb dX8_nameOf_23 (by decide) (by decide) (by decide) (by decide) ?_
      refine lv_aload_n hx hb dX8_nameOf_132 rfl (lv_at hl 1 rfl) ?_
      refine gf_X8_71 C h (hM 30 (by decide)) rfl (k2 := 61) rfl dX8_nameOf_133 ?_
      refine lv_iload_n hx hb dX8_nameOf_136 rfl (lv_at hl 2 rfl) ?_
      refine x_ald C h (hM 61 (by decide)) (n := 30) rfl b (by omega) (by decide) rfl dX8_nameOf_137 ?_
      exact x_iret C hr hlocks h ⟨by (rw [mnmS, if_neg (by rw [g23_108]; decide), if_neg (by rw [g23_108]; decide), if_neg (by rw [g23_108]; decide), if_neg (by rw [g23_108]; decide), if_neg (by rw [g23_108]; decide), if_neg (by rw [g23_108]; decide), if_pos g23_108]) <;> first | rfl | exact (nI_add _ _).symm, rfl⟩ dX8_nameOf_138
    by_cases g23_110 : c9 = nI 110
    · refine x_topi g23_110 ?_
      refine lv_tableIn (tgt := 116) (off := 93) hx hb dX8_nameOf_23 (by decide) (by decide) (by decide) (by decide) ?_
      refine lv_iload_n hx hb dX8_nameOf_116 rfl (lv_at hl 2 rfl) ?_
      exact x_iret C hr hlocks h ⟨by (rw [mnmS, if_neg (by rw [g23_110]; decide), if_neg (by rw [g23_110]; decide), if_neg (by rw [g23_110]; decide), if_neg (by rw [g23_110]; decide), if_neg (by rw [g23_110]; decide), if_neg (by rw [g23_110]; decide), if_neg (by rw [g23_110]; decide), if_pos g23_110]) <;> first | rfl | exact (nI_add _ _).symm, rfl⟩ dX8_nameOf_117
    by_cases g23_112 : c9 = nI 112
    · refine x_topi g23_112 ?_
      refine lv_tableIn (tgt := 186) (off := 163) hx hb dX8_nameOf_23 (by decide) (by decide) (by decide) (by decide) ?_
      refine lv_aload_n hx hb dX8_nameOf_186 rfl (lv_at hl 1 rfl) ?_
      refine gf_X8_86 C h (hM 30 (by decide)) rfl (k2 := 66) rfl dX8_nameOf_187 ?_
      refine lv_iload_n hx hb dX8_nameOf_190 rfl (lv_at hl 0 rfl) ?_
      refine x_ald C h (hM 66 (by decide)) (n := 180) rfl (6 * b + 0) (by omega) (by decide) rfl dX8_nameOf_191 ?_
      exact x_iret C hr hlocks h ⟨by (rw [mnmS, if_neg (by rw [g23_112]; decide), if_neg (by rw [g23_112]; decide), if_neg (by rw [g23_112]; decide), if_neg (by rw [g23_112]; decide), if_neg (by rw [g23_112]; decide), if_neg (by rw [g23_112]; decide), if_neg (by rw [g23_112]; decide), if_neg (by rw [g23_112]; decide), if_pos g23_112]) <;> first | rfl | exact (nI_add _ _).symm, rfl⟩ dX8_nameOf_192
    by_cases g23_113 : c9 = nI 113
    · refine x_topi g23_113 ?_
      refine lv_tableIn (tgt := 179) (off := 156) hx hb dX8_nameOf_23 (by decide) (by decide) (by decide) (by decide) ?_
      refine lv_aload_n hx hb dX8_nameOf_179 rfl (lv_at hl 1 rfl) ?_
      refine gf_X8_83 C h (hM 30 (by decide)) rfl (k2 := 65) rfl dX8_nameOf_180 ?_
      refine lv_iload_n hx hb dX8_nameOf_183 rfl (lv_at hl 0 rfl) ?_
      refine x_ald C h (hM 65 (by decide)) (n := 180) rfl (6 * b + 0) (by omega) (by decide) rfl dX8_nameOf_184 ?_
      exact x_iret C hr hlocks h ⟨by (rw [mnmS, if_neg (by rw [g23_113]; decide), if_neg (by rw [g23_113]; decide), if_neg (by rw [g23_113]; decide), if_neg (by rw [g23_113]; decide), if_neg (by rw [g23_113]; decide), if_neg (by rw [g23_113]; decide), if_neg (by rw [g23_113]; decide), if_neg (by rw [g23_113]; decide), if_neg (by rw [g23_113]; decide), if_pos g23_113]) <;> first | rfl | exact (nI_add _ _).symm, rfl⟩ dX8_nameOf_185
    by_cases g23_115 : c9 = nI 115
    · refine x_topi g23_115 ?_
      refine lv_tableIn (tgt := 139) (off := 116) hx hb dX8_nameOf_23 (by decide) (by decide) (by decide) (by decide) ?_
      refine lv_aload_n hx hb dX8_nameOf_139 rfl (lv_at hl 1 rfl) ?_
      refine lv_iload_n hx hb dX8_nameOf_140 rfl (lv_at hl 2 rfl) ?_
      refine cl_X8_225 C h (hM 30 (by decide)) rfl (c_X8_sumOf l D cy ad Ls st hM b n hb30 hn6 hmany) (x_room (by omega)) ⟨Nat.zero_le _, Nat.zero_le _⟩ hl.1 (Nat.le_of_ble_eq_true rfl) dX8_nameOf_141 (fun r4 u3 H locs hp h => ?_)
      obtain ⟨er4, eu3⟩ := hp; rw [eu3] at h; clear eu3 u3; refine x_topi er4 ?_; clear er4 r4
      exact x_iret C hr hlocks h ⟨by (rw [mnmS, if_neg (by rw [g23_115]; decide), if_neg (by rw [g23_115]; decide), if_neg (by rw [g23_115]; decide), if_neg (by rw [g23_115]; decide), if_neg (by rw [g23_115]; decide), if_neg (by rw [g23_115]; decide), if_neg (by rw [g23_115]; decide), if_neg (by rw [g23_115]; decide), if_neg (by rw [g23_115]; decide), if_neg (by rw [g23_115]; decide), if_pos g23_115]) <;> first | rfl | exact (nI_add _ _).symm, rfl⟩ dX8_nameOf_144
    by_cases g23_116 : c9 = nI 116
    · refine x_topi g23_116 ?_
      refine lv_tableIn (tgt := 145) (off := 122) hx hb dX8_nameOf_23 (by decide) (by decide) (by decide) (by decide) ?_
      refine lv_aload_n hx hb dX8_nameOf_145 rfl (lv_at hl 1 rfl) ?_
      refine gf_X8_92 C h (hM 30 (by decide)) rfl (k2 := 68) rfl dX8_nameOf_146 ?_
      refine lv_iload_n hx hb dX8_nameOf_149 rfl (lv_at hl 2 rfl) ?_
      refine x_ald C h (hM 68 (by decide)) (n := 30) rfl b (by omega) (by decide) rfl dX8_nameOf_150 ?_
      exact x_iret C hr hlocks h ⟨by (rw [mnmS, if_neg (by rw [g23_116]; decide), if_neg (by rw [g23_116]; decide), if_neg (by rw [g23_116]; decide), if_neg (by rw [g23_116]; decide), if_neg (by rw [g23_116]; decide), if_neg (by rw [g23_116]; decide), if_neg (by rw [g23_116]; decide), if_neg (by rw [g23_116]; decide), if_neg (by rw [g23_116]; decide), if_neg (by rw [g23_116]; decide), if_neg (by rw [g23_116]; decide), if_pos g23_116]) <;> first | rfl | exact (nI_add _ _).symm, rfl⟩ dX8_nameOf_151
    refine x_tsw (tgt := 203) hx hb dX8_nameOf_23 (by decide) (by decide) ?_ ?_
    · intro i hi; rcases (show i = 0 ∨ i = 1 ∨ i = 2 ∨ i = 3 ∨ i = 4 ∨ i = 5 ∨ i = 6 ∨ i = 7 ∨ i = 8 ∨ i = 9 ∨ i = 10 ∨ i = 11 ∨ i = 12 ∨ i = 13 ∨ i = 14 ∨ i = 15 ∨ i = 16 ∨ i = 17 ∨ i = 18 ∨ i = 19 by have hi9 : i < 20 := hi; omega) with rfl | rfl | rfl | rfl | rfl | rfl | rfl | rfl | rfl | rfl | rfl | rfl | rfl | rfl | rfl | rfl | rfl | rfl | rfl | rfl
      all_goals first | (intro hne; exact absurd rfl hne) | (intro _ q9; first | exact g23_97 (x_toInt q9 (by decide)) | exact g23_99 (x_toInt q9 (by decide)) | exact g23_100 (x_toInt q9 (by decide)) | exact g23_103 (x_toInt q9 (by decide)) | exact g23_105 (x_toInt q9 (by decide)) | exact g23_107 (x_toInt q9 (by decide)) | exact g23_108 (x_toInt q9 (by decide)) | exact g23_110 (x_toInt q9 (by decide)) | exact g23_112 (x_toInt q9 (by decide)) | exact g23_113 (x_toInt q9 (by decide)) | exact g23_115 (x_toInt q9 (by decide)) | exact g23_116 (x_toInt q9 (by decide)))
    exact absurd (hin rfl) (by rw [nm0_f g23_110 g23_99 g23_100 g23_108 g23_115 g23_116 g23_103]; decide)
  · have hj6 : j < 6 := ho j rfl
    have hl45 : gi st 45 30 = nI j := hln
    refine lv_bipush (v := nI 6) hx hb dX8_nameOf_0 (by decide) ?_
    refine lv_iload_n hx hb dX8_nameOf_2 rfl (lv_at hl 1 rfl) ?_
    refine x_mulN hx hb dX8_nameOf_3 ?_
    refine lv_aload_n hx hb dX8_nameOf_4 rfl (lv_at hl 0 rfl) ?_
    refine gf_X8_234 C h (hM 30 (by decide)) rfl dX8_nameOf_5 ?_
    refine x_topi hl45 ?_
    refine lv_iconst (v := (-1)) hx hb dX8_nameOf_8 (by decide) ?_
    refine lv_icmp_ne (tgt := 16) hx hb dX8_nameOf_9 (by decide) (fun _ => ?_) (fun q => absurd q (nI_ne1 (by omega)))
    refine lv_aload_n hx hb dX8_nameOf_16 rfl (lv_at hl 0 rfl) ?_
    refine gf_X8_234 C h (hM 30 (by decide)) rfl dX8_nameOf_17 ?_
    refine x_topi hl45 ?_
    refine x_addN hx hb dX8_nameOf_20 ?_
    refine lv_istore_n (lv' := [(3, .int (nI ((6 * b) + j))), (0, .ref (ad 30)), (1, .int (nI b)), (2, .int c9)]) hx hb dX8_nameOf_21 rfl hl (by decide) rfl (fun ls hl => ?_)
    refine lv_iload_n hx hb dX8_nameOf_22 rfl (lv_at hl 3 rfl) ?_
    by_cases g23_97 : c9 = nI 97
    · refine x_topi g23_97 ?_
      refine lv_tableIn (tgt := 193) (off := 170) hx hb dX8_nameOf_23 (by decide) (by decide) (by decide) (by decide) ?_
      refine lv_aload_n hx hb dX8_nameOf_193 rfl (lv_at hl 1 rfl) ?_
      refine lv_iload_n hx hb dX8_nameOf_194 rfl (lv_at hl 2 rfl) ?_
      refine lv_aload_n hx hb dX8_nameOf_195 rfl (lv_at hl 1 rfl) ?_
      refine gf_X8_234 C h (hM 30 (by decide)) rfl dX8_nameOf_196 ?_
      refine x_topi hl45 ?_
      refine cl_X8_203 C h (hM 30 (by decide)) rfl (c_X8_amount l D cy ad Ls st hM b j (by omega) (by omega)) (x_room (by omega)) ⟨Nat.zero_le _, Nat.zero_le _⟩ hl.1 (Nat.le_of_ble_eq_true rfl) dX8_nameOf_199 (fun r6 u5 H locs hp h => ?_)
      obtain ⟨er6, eu5⟩ := hp; rw [eu5] at h; clear eu5 u5; refine x_topi er6 ?_; clear er6 r6
      exact x_iret C hr hlocks h ⟨by (rw [mnmS, if_pos g23_97]) <;> first | rfl | exact (nI_add _ _).symm, rfl⟩ dX8_nameOf_202
    by_cases g23_99 : c9 = nI 99
    · refine x_topi g23_99 ?_
      refine lv_tableIn (tgt := 118) (off := 95) hx hb dX8_nameOf_23 (by decide) (by decide) (by decide) (by decide) ?_
      refine lv_aload_n hx hb dX8_nameOf_118 rfl (lv_at hl 1 rfl) ?_
      refine gf_X8_65 C h (hM 30 (by decide)) rfl (k2 := 59) rfl dX8_nameOf_119 ?_
      refine lv_iload_n hx hb dX8_nameOf_122 rfl (lv_at hl 2 rfl) ?_
      refine x_ald C h (hM 59 (by decide)) (n := 30) rfl b (by omega) (by decide) rfl dX8_nameOf_123 ?_
      exact x_iret C hr hlocks h ⟨by (rw [mnmS, if_neg (by rw [g23_99]; decide), if_pos g23_99]) <;> first | rfl | exact (nI_add _ _).symm, rfl⟩ dX8_nameOf_124
    by_cases g23_100 : c9 = nI 100
    · refine x_topi g23_100 ?_
      refine lv_tableIn (tgt := 125) (off := 102) hx hb dX8_nameOf_23 (by decide) (by decide) (by decide) (by decide) ?_
      refine lv_aload_n hx hb dX8_nameOf_125 rfl (lv_at hl 1 rfl) ?_
      refine gf_X8_68 C h (hM 30 (by decide)) rfl (k2 := 60) rfl dX8_nameOf_126 ?_
      refine lv_iload_n hx hb dX8_nameOf_129 rfl (lv_at hl 2 rfl) ?_
      refine x_ald C h (hM 60 (by decide)) (n := 30) rfl b (by omega) (by decide) rfl dX8_nameOf_130 ?_
      exact x_iret C hr hlocks h ⟨by (rw [mnmS, if_neg (by rw [g23_100]; decide), if_neg (by rw [g23_100]; decide), if_pos g23_100]) <;> first | rfl | exact (nI_add _ _).symm, rfl⟩ dX8_nameOf_131
    by_cases g23_103 : c9 = nI 103
    · refine x_topi g23_103 ?_
      refine lv_tableIn (tgt := 152) (off := 129) hx hb dX8_nameOf_23 (by decide) (by decide) (by decide) (by decide) ?_
      refine lv_aload_n hx hb dX8_nameOf_152 rfl (lv_at hl 1 rfl) ?_
      refine lv_iload_n hx hb dX8_nameOf_153 rfl (lv_at hl 2 rfl) ?_
      refine cl_X8_225 C h (hM 30 (by decide)) rfl (c_X8_sumOf l D cy ad Ls st hM b n hb30 hn6 hmany) (x_room (by omega)) ⟨Nat.zero_le _, Nat.zero_le _⟩ hl.1 (Nat.le_of_ble_eq_true rfl) dX8_nameOf_154 (fun r8 u7 H locs hp h => ?_)
      obtain ⟨er8, eu7⟩ := hp; rw [eu7] at h; clear eu7 u7; refine x_topi er8 ?_; clear er8 r8
      refine lv_aload_n hx hb dX8_nameOf_157 rfl (lv_at hl 1 rfl) ?_
      refine gf_X8_92 C h (hM 30 (by decide)) rfl (k2 := 68) rfl dX8_nameOf_158 ?_
      refine lv_iload_n hx hb dX8_nameOf_161 rfl (lv_at hl 2 rfl) ?_
      refine x_ald C h (hM 68 (by decide)) (n := 30) rfl b (by omega) (by decide) rfl dX8_nameOf_162 ?_
      refine lv_iadd hx hb dX8_nameOf_163 ?_
      exact x_iret C hr hlocks h ⟨by (rw [mnmS, if_neg (by rw [g23_103]; decide), if_neg (by rw [g23_103]; decide), if_neg (by rw [g23_103]; decide), if_pos g23_103]) <;> first | rfl | exact (nI_add _ _).symm, rfl⟩ dX8_nameOf_164
    by_cases g23_105 : c9 = nI 105
    · refine x_topi g23_105 ?_
      refine lv_tableIn (tgt := 165) (off := 142) hx hb dX8_nameOf_23 (by decide) (by decide) (by decide) (by decide) ?_
      refine lv_aload_n hx hb dX8_nameOf_165 rfl (lv_at hl 1 rfl) ?_
      refine gf_X8_234 C h (hM 30 (by decide)) rfl dX8_nameOf_166 ?_
      refine x_topi hl45 ?_
      refine lv_iconst (v := nI 1) hx hb dX8_nameOf_169 (by decide) ?_
      refine x_addN hx hb dX8_nameOf_170 ?_
      exact x_iret C hr hlocks h ⟨by (rw [mnmS, if_neg (by rw [g23_105]; decide), if_neg (by rw [g23_105]; decide), if_neg (by rw [g23_105]; decide), if_neg (by rw [g23_105]; decide), if_pos g23_105]) <;> first | rfl | exact (nI_add _ _).symm, rfl⟩ dX8_nameOf_171
    by_cases g23_107 : c9 = nI 107
    · refine x_topi g23_107 ?_
      refine lv_tableIn (tgt := 172) (off := 149) hx hb dX8_nameOf_23 (by decide) (by decide) (by decide) (by decide) ?_
      refine lv_aload_n hx hb dX8_nameOf_172 rfl (lv_at hl 1 rfl) ?_
      refine gf_X8_80 C h (hM 30 (by decide)) rfl (k2 := 64) rfl dX8_nameOf_173 ?_
      refine lv_iload_n hx hb dX8_nameOf_176 rfl (lv_at hl 0 rfl) ?_
      refine x_ald C h (hM 64 (by decide)) (n := 180) rfl (6 * b + j) (by omega) (by decide) rfl dX8_nameOf_177 ?_
      exact x_iret C hr hlocks h ⟨by (rw [mnmS, if_neg (by rw [g23_107]; decide), if_neg (by rw [g23_107]; decide), if_neg (by rw [g23_107]; decide), if_neg (by rw [g23_107]; decide), if_neg (by rw [g23_107]; decide), if_pos g23_107]) <;> first | rfl | exact (nI_add _ _).symm, rfl⟩ dX8_nameOf_178
    by_cases g23_108 : c9 = nI 108
    · refine x_topi g23_108 ?_
      refine lv_tableIn (tgt := 132) (off := 109) hx hb dX8_nameOf_23 (by decide) (by decide) (by decide) (by decide) ?_
      refine lv_aload_n hx hb dX8_nameOf_132 rfl (lv_at hl 1 rfl) ?_
      refine gf_X8_71 C h (hM 30 (by decide)) rfl (k2 := 61) rfl dX8_nameOf_133 ?_
      refine lv_iload_n hx hb dX8_nameOf_136 rfl (lv_at hl 2 rfl) ?_
      refine x_ald C h (hM 61 (by decide)) (n := 30) rfl b (by omega) (by decide) rfl dX8_nameOf_137 ?_
      exact x_iret C hr hlocks h ⟨by (rw [mnmS, if_neg (by rw [g23_108]; decide), if_neg (by rw [g23_108]; decide), if_neg (by rw [g23_108]; decide), if_neg (by rw [g23_108]; decide), if_neg (by rw [g23_108]; decide), if_neg (by rw [g23_108]; decide), if_pos g23_108]) <;> first | rfl | exact (nI_add _ _).symm, rfl⟩ dX8_nameOf_138
    by_cases g23_110 : c9 = nI 110
    · refine x_topi g23_110 ?_
      refine lv_tableIn (tgt := 116) (off := 93) hx hb dX8_nameOf_23 (by decide) (by decide) (by decide) (by decide) ?_
      refine lv_iload_n hx hb dX8_nameOf_116 rfl (lv_at hl 2 rfl) ?_
      exact x_iret C hr hlocks h ⟨by (rw [mnmS, if_neg (by rw [g23_110]; decide), if_neg (by rw [g23_110]; decide), if_neg (by rw [g23_110]; decide), if_neg (by rw [g23_110]; decide), if_neg (by rw [g23_110]; decide), if_neg (by rw [g23_110]; decide), if_neg (by rw [g23_110]; decide), if_pos g23_110]) <;> first | rfl | exact (nI_add _ _).symm, rfl⟩ dX8_nameOf_117
    by_cases g23_112 : c9 = nI 112
    · refine x_topi g23_112 ?_
      refine lv_tableIn (tgt := 186) (off := 163) hx hb dX8_nameOf_23 (by decide) (by decide) (by decide) (by decide) ?_
      refine lv_aload_n hx hb dX8_nameOf_186 rfl (lv_at hl 1 rfl) ?_
      refine gf_X8_86 C h (hM 30 (by decide)) rfl (k2 := 66) rfl dX8_nameOf_187 ?_
      refine lv_iload_n hx hb dX8_nameOf_190 rfl (lv_at hl 0 rfl) ?_
      refine x_ald C h (hM 66 (by decide)) (n := 180) rfl (6 * b + j) (by omega) (by decide) rfl dX8_nameOf_191 ?_
      exact x_iret C hr hlocks h ⟨by (rw [mnmS, if_neg (by rw [g23_112]; decide), if_neg (by rw [g23_112]; decide), if_neg (by rw [g23_112]; decide), if_neg (by rw [g23_112]; decide), if_neg (by rw [g23_112]; decide), if_neg (by rw [g23_112]; decide), if_neg (by rw [g23_112]; decide), if_neg (by rw [g23_112]; decide), if_pos g23_112]) <;> first | rfl | exact (nI_add _ _).symm, rfl⟩ dX8_nameOf_192
    by_cases g23_113 : c9 = nI 113
    · refine x_topi g23_113 ?_
      refine lv_tableIn (tgt := 179) (off := 156) hx hb dX8_nameOf_23 (by decide) (by decide) (by decide) (by decide) ?_
      refine lv_aload_n hx hb dX8_nameOf_179 rfl (lv_at hl 1 rfl) ?_
      refine gf_X8_83 C h (hM 30 (by decide)) rfl (k2 := 65) rfl dX8_nameOf_180 ?_
      refine lv_iload_n hx hb dX8_nameOf_183 rfl (lv_at hl 0 rfl) ?_
      refine x_ald C h (hM 65 (by decide)) (n := 180) rfl (6 * b + j) (by omega) (by decide) rfl dX8_nameOf_184 ?_
      exact x_iret C hr hlocks h ⟨by (rw [mnmS, if_neg (by rw [g23_113]; decide), if_neg (by rw [g23_113]; decide), if_neg (by rw [g23_113]; decide), if_neg (by rw [g23_113]; decide), if_neg (by rw [g23_113]; decide), if_neg (by rw [g23_113]; decide), if_neg (by rw [g23_113]; decide), if_neg (by rw [g23_113]; decide), if_neg (by rw [g23_113]; decide), if_pos g23_113]) <;> first | rfl | exact (nI_add _ _).symm, rfl⟩ dX8_nameOf_185
    by_cases g23_115 : c9 = nI 115
    · refine x_topi g23_115 ?_
      refine lv_tableIn (tgt := 139) (off := 116) hx hb dX8_nameOf_23 (by decide) (by decide) (by decide) (by decide) ?_
      refine lv_aload_n hx hb dX8_nameOf_139 rfl (lv_at hl 1 rfl) ?_
      refine lv_iload_n hx hb dX8_nameOf_140 rfl (lv_at hl 2 rfl) ?_
      refine cl_X8_225 C h (hM 30 (by decide)) rfl (c_X8_sumOf l D cy ad Ls st hM b n hb30 hn6 hmany) (x_room (by omega)) ⟨Nat.zero_le _, Nat.zero_le _⟩ hl.1 (Nat.le_of_ble_eq_true rfl) dX8_nameOf_141 (fun r10 u9 H locs hp h => ?_)
      obtain ⟨er10, eu9⟩ := hp; rw [eu9] at h; clear eu9 u9; refine x_topi er10 ?_; clear er10 r10
      exact x_iret C hr hlocks h ⟨by (rw [mnmS, if_neg (by rw [g23_115]; decide), if_neg (by rw [g23_115]; decide), if_neg (by rw [g23_115]; decide), if_neg (by rw [g23_115]; decide), if_neg (by rw [g23_115]; decide), if_neg (by rw [g23_115]; decide), if_neg (by rw [g23_115]; decide), if_neg (by rw [g23_115]; decide), if_neg (by rw [g23_115]; decide), if_neg (by rw [g23_115]; decide), if_pos g23_115]) <;> first | rfl | exact (nI_add _ _).symm, rfl⟩ dX8_nameOf_144
    by_cases g23_116 : c9 = nI 116
    · refine x_topi g23_116 ?_
      refine lv_tableIn (tgt := 145) (off := 122) hx hb dX8_nameOf_23 (by decide) (by decide) (by decide) (by decide) ?_
      refine lv_aload_n hx hb dX8_nameOf_145 rfl (lv_at hl 1 rfl) ?_
      refine gf_X8_92 C h (hM 30 (by decide)) rfl (k2 := 68) rfl dX8_nameOf_146 ?_
      refine lv_iload_n hx hb dX8_nameOf_149 rfl (lv_at hl 2 rfl) ?_
      refine x_ald C h (hM 68 (by decide)) (n := 30) rfl b (by omega) (by decide) rfl dX8_nameOf_150 ?_
      exact x_iret C hr hlocks h ⟨by (rw [mnmS, if_neg (by rw [g23_116]; decide), if_neg (by rw [g23_116]; decide), if_neg (by rw [g23_116]; decide), if_neg (by rw [g23_116]; decide), if_neg (by rw [g23_116]; decide), if_neg (by rw [g23_116]; decide), if_neg (by rw [g23_116]; decide), if_neg (by rw [g23_116]; decide), if_neg (by rw [g23_116]; decide), if_neg (by rw [g23_116]; decide), if_neg (by rw [g23_116]; decide), if_pos g23_116]) <;> first | rfl | exact (nI_add _ _).symm, rfl⟩ dX8_nameOf_151
    refine x_tsw (tgt := 203) hx hb dX8_nameOf_23 (by decide) (by decide) ?_ ?_
    · intro i hi; rcases (show i = 0 ∨ i = 1 ∨ i = 2 ∨ i = 3 ∨ i = 4 ∨ i = 5 ∨ i = 6 ∨ i = 7 ∨ i = 8 ∨ i = 9 ∨ i = 10 ∨ i = 11 ∨ i = 12 ∨ i = 13 ∨ i = 14 ∨ i = 15 ∨ i = 16 ∨ i = 17 ∨ i = 18 ∨ i = 19 by have hi9 : i < 20 := hi; omega) with rfl | rfl | rfl | rfl | rfl | rfl | rfl | rfl | rfl | rfl | rfl | rfl | rfl | rfl | rfl | rfl | rfl | rfl | rfl | rfl
      all_goals first | (intro hne; exact absurd rfl hne) | (intro _ q9; first | exact g23_97 (x_toInt q9 (by decide)) | exact g23_99 (x_toInt q9 (by decide)) | exact g23_100 (x_toInt q9 (by decide)) | exact g23_103 (x_toInt q9 (by decide)) | exact g23_105 (x_toInt q9 (by decide)) | exact g23_107 (x_toInt q9 (by decide)) | exact g23_108 (x_toInt q9 (by decide)) | exact g23_110 (x_toInt q9 (by decide)) | exact g23_112 (x_toInt q9 (by decide)) | exact g23_113 (x_toInt q9 (by decide)) | exact g23_115 (x_toInt q9 (by decide)) | exact g23_116 (x_toInt q9 (by decide)))
    refine lv_aload_n hx hb dX8_nameOf_203 rfl (lv_at hl 1 rfl) ?_
    refine lv_iload_n hx hb dX8_nameOf_204 rfl (lv_at hl 2 rfl) ?_
    refine lv_aload_n hx hb dX8_nameOf_205 rfl (lv_at hl 1 rfl) ?_
    refine gf_X8_234 C h (hM 30 (by decide)) rfl dX8_nameOf_206 ?_
    refine x_topi hl45 ?_
    refine cl_X8_203 C h (hM 30 (by decide)) rfl (c_X8_amount l D cy ad Ls st hM b j (by omega) (by omega)) (x_room (by omega)) ⟨Nat.zero_le _, Nat.zero_le _⟩ hl.1 (Nat.le_of_ble_eq_true rfl) dX8_nameOf_209 (fun r12 u11 H locs hp h => ?_)
    obtain ⟨er12, eu11⟩ := hp; rw [eu11] at h; clear eu11 u11; refine x_topi er12 ?_; clear er12 r12
    refine lv_aload_n hx hb dX8_nameOf_212 rfl (lv_at hl 1 rfl) ?_
    refine lv_aload_n hx hb dX8_nameOf_213 rfl (lv_at hl 1 rfl) ?_
    refine gf_X8_89 C h (hM 30 (by decide)) rfl (k2 := 67) rfl dX8_nameOf_214 ?_
    refine lv_iload_n hx hb dX8_nameOf_217 rfl (lv_at hl 0 rfl) ?_
    refine x_ald C h (hM 67 (by decide)) (n := 180) rfl (6 * b + j) (by omega) (by decide) rfl dX8_nameOf_218 ?_
    refine x_topi (y := oI (us j)) ((hus j (by omega)).2) ?_
    refine cl_X8_213 C h (hM 30 (by decide)) rfl (c_X8_rateOf l D cy ad Ls st hM (us j) (fun i hi => (hus j (by omega)).1 i hi)) (x_room (by omega)) ⟨Nat.zero_le _, Nat.zero_le _⟩ hl.1 (Nat.le_of_ble_eq_true rfl) dX8_nameOf_219 (fun r14 u13 H locs hp h => ?_)
    obtain ⟨er14, eu13⟩ := hp; rw [eu13] at h; clear eu13 u13; refine x_topi er14 ?_; clear er14 r14
    refine lv_imul hx hb dX8_nameOf_222 ?_
    refine cl_X8_207 C h (c_X8_rounded l D cy ad Ls st ((maS st b j) * (mrS st (us j)))) (x_room (by omega)) ⟨Nat.zero_le _, Nat.zero_le _⟩ hl.1 (Nat.le_of_ble_eq_true rfl) dX8_nameOf_223 (fun r16 u15 H locs hp h => ?_)
    obtain ⟨er16, eu15⟩ := hp; rw [eu15] at h; clear eu15 u15; refine x_topi er16 ?_; clear er16 r16
    exact x_iret C hr hlocks h ⟨by (rw [mnmS, if_neg g23_97, if_neg g23_99, if_neg g23_100, if_neg g23_103, if_neg g23_105, if_neg g23_107, if_neg g23_108, if_neg g23_110, if_neg g23_112, if_neg g23_113, if_neg g23_115, if_neg g23_116]) <;> first | rfl | exact (nI_add _ _).symm, rfl⟩ dX8_nameOf_226
