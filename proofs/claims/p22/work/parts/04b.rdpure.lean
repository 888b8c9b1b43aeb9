/-! ===== the reader's state and what its methods do to it, as plain functions ===== -/
theorem XS_ext {a b : XS} (h1 : ∀ f k, gi a f k = gi b f k) (h2 : ∀ f k, gl a f k = gl b f k) (h3 : ∀ f k, gp a f k = gp b f k) (h4 : ∀ k, ga a k = ga b k) (h5 : ∀ k, gb a k = gb b k) : a = b := by
  obtain ⟨a1, a2, a3, a4, a5⟩ := a
  obtain ⟨b1, b2, b3, b4, b5⟩ := b
  have e1 : a1 = b1 := funext fun f => funext fun k => h1 f k
  have e2 : a2 = b2 := funext fun f => funext fun k => h2 f k
  have e3 : a3 = b3 := funext fun f => funext fun k => h3 f k
  have e4 : a4 = b4 := funext fun k => h4 k
  have e5 : a5 = b5 := funext fun k => h5 k
  subst e1; subst e2; subst e3; subst e4; subst e5; rfl
/-- the reader's at and parts; the form's size, deeds, firsts, seconds -/
abbrev RS : Type := Int32 × Int32 × Int32 × (Nat → Int32) × (Nat → Int32) × (Nat → Int32)
def rdS (st : XS) (g : Nat) (x : RS) : XS := si (si (sa (sa (sa (si st 3 (300 + 4 * g) x.2.2.1) (300 + 4 * g + 1) x.2.2.2.1) (300 + 4 * g + 2) x.2.2.2.2.1) (300 + 4 * g + 3) x.2.2.2.2.2) 3 1 x.2.1) 2 1 x.1
section RD
variable {st : XS} {g : Nat} {a p z v : Int32} {d f w r : Nat → Int32}
theorem gi_rd (F k : Nat) : gi (rdS st g (a, p, z, d, f, w)) F k = if F = 2 ∧ k = 1 then a else if F = 3 ∧ k = 1 then p else if F = 3 ∧ k = 300 + 4 * g then z else gi st F k := by
  simp only [rdS, gi_si, gi_sa]
theorem gi_rd_a : gi (rdS st g (a, p, z, d, f, w)) 2 1 = a := by rw [gi_rd, if_pos ⟨rfl, rfl⟩]
theorem gi_rd_p : gi (rdS st g (a, p, z, d, f, w)) 3 1 = p := by rw [gi_rd, if_neg (by decide), if_pos ⟨rfl, rfl⟩]
theorem gi_rd_z : gi (rdS st g (a, p, z, d, f, w)) 3 (300 + 4 * g) = z := by rw [gi_rd, if_neg (by omega), if_neg (by omega), if_pos ⟨rfl, rfl⟩]
theorem gi_rd_o {F k : Nat} (h1 : ¬ (F = 2 ∧ k = 1)) (h2 : ¬ (F = 3 ∧ k = 1)) (h3 : ¬ (F = 3 ∧ k = 300 + 4 * g)) : gi (rdS st g (a, p, z, d, f, w)) F k = gi st F k := by rw [gi_rd, if_neg h1, if_neg h2, if_neg h3]
theorem gp_rd {F k : Nat} {x : RS} : gp (rdS st g x) F k = gp st F k := rfl
theorem gl_rd {F k : Nat} {x : RS} : gl (rdS st g x) F k = gl st F k := rfl
theorem gb_rd {k : Nat} {x : RS} : gb (rdS st g x) k = gb st k := rfl
theorem ga_rd (k : Nat) : ga (rdS st g (a, p, z, d, f, w)) k = if k = 300 + 4 * g + 3 then w else if k = 300 + 4 * g + 2 then f else if k = 300 + 4 * g + 1 then d else ga st k := by
  simp only [rdS, ga_si, ga_sa]
theorem ga_rd_o {k : Nat} (h : k < 300) : ga (rdS st g (a, p, z, d, f, w)) k = ga st k := by rw [ga_rd, if_neg (by omega), if_neg (by omega), if_neg (by omega)]
theorem ga_rd_1 : ga (rdS st g (a, p, z, d, f, w)) (300 + 4 * g + 1) = d := by rw [ga_rd, if_neg (by omega), if_neg (by omega), if_pos rfl]
theorem ga_rd_2 : ga (rdS st g (a, p, z, d, f, w)) (300 + 4 * g + 2) = f := by rw [ga_rd, if_neg (by omega), if_pos rfl]
theorem ga_rd_3 : ga (rdS st g (a, p, z, d, f, w)) (300 + 4 * g + 3) = w := by rw [ga_rd, if_pos rfl]
theorem rd_a : si (rdS st g (a, p, z, d, f, w)) 2 1 v = rdS st g (v, p, z, d, f, w) := by
  apply XS_ext <;> intros <;> first | rfl | skip
  · rename_i F k; simp only [gi_si, gi_rd]; repeat' split
    all_goals first | rfl | omega
theorem rd_p : si (rdS st g (a, p, z, d, f, w)) 3 1 v = rdS st g (a, v, z, d, f, w) := by
  apply XS_ext <;> intros <;> first | rfl | skip
  · rename_i F k; simp only [gi_si, gi_rd]; repeat' split
    all_goals first | rfl | omega
theorem rd_z : si (rdS st g (a, p, z, d, f, w)) 3 (300 + 4 * g) v = rdS st g (a, p, v, d, f, w) := by
  apply XS_ext <;> intros <;> first | rfl | skip
  · rename_i F k; simp only [gi_si, gi_rd]; repeat' split
    all_goals first | rfl | omega
theorem rd_3 : sa (rdS st g (a, p, z, d, f, w)) (300 + 4 * g + 3) r = rdS st g (a, p, z, d, f, r) := by
  apply XS_ext
  · intro F k; simp only [gi_sa, gi_rd]
  · intros; rfl
  · intros; rfl
  · intro k; simp only [ga_sa, ga_rd]; repeat' split
    all_goals first | rfl | omega
  · intros; rfl
theorem rd_2 : sa (rdS st g (a, p, z, d, f, w)) (300 + 4 * g + 2) r = rdS st g (a, p, z, d, r, w) := by
  apply XS_ext
  · intro F k; simp only [gi_sa, gi_rd]
  · intros; rfl
  · intros; rfl
  · intro k; simp only [ga_sa, ga_rd]; repeat' split
    all_goals first | rfl | omega
  · intros; rfl
theorem rd_1 : sa (rdS st g (a, p, z, d, f, w)) (300 + 4 * g + 1) r = rdS st g (a, p, z, r, f, w) := by
  apply XS_ext
  · intro F k; simp only [gi_sa, gi_rd]
  · intros; rfl
  · intros; rfl
  · intro k; simp only [ga_sa, ga_rd]; repeat' split
    all_goals first | rfl | omega
  · intros; rfl
end RD
def rUp (x : RS) : RS := (x.1 + nI 1, x.2)
def rPt (x : RS) : RS := (x.1, x.2.1 + nI 1, x.2.2)
def rAdd (x : RS) (i j k : Int32) : RS := (x.1, x.2.1, x.2.2.1 + nI 1, xset 160 x.2.2.2.1 x.2.2.1 i, xset 160 x.2.2.2.2.1 x.2.2.1 j, xset 160 x.2.2.2.2.2 x.2.2.1 k)
def rAim (x : RS) (i : Int32) : RS := (x.1, x.2.1, x.2.2.1, x.2.2.2.1, x.2.2.2.2.1, xset 160 x.2.2.2.2.2 i x.2.2.1)
def nmL0 : List Int32 := [110, 99, 100, 108, 115, 116, 103]
def nmL1 : List Int32 := [105, 107, 113, 112, 97, 120]
/-- is it a NAME's sign -/
def nmB (c : Int32) (il : Bool) : Bool := nmL0.contains c || (il && nmL1.contains c)
def dgB (c : Int32) : Bool := decide (¬ c < nI 48) && decide (¬ nI 57 < c)
section RF
variable (T : Nat → Int32) (np : Nat)
def rSkip (c : Int32) (x : RS) : Bool × RS := if sgF T np x.1 = c then (true, rUp x) else (false, x)
def rEnds (x : RS) : Bool := if sgF T np x.1 = nI 42 then decide (sgF T np (x.1 + nI 1) = nI 125) else false
/-- up to n digits more: the state, the number, how many there are -/
def rDig : Nat → RS → Int32 → Nat → RS × Int32 × Nat
  | 0, x, v, t => (x, v, t)
  | n + 1, x, v, t => if dgB (sgF T np x.1) then rDig n (rUp x) (v * nI 10 + (sgF T np x.1 - nI 48)) (t + 1) else (x, v, t)
def rTerm (i : Int32) (il : Bool) (x : RS) : Bool × RS :=
  if nmB (sgF T np x.1) il then (true, rAdd (rUp x) i (sgF T np x.1) (nI 0))
  else (decide (0 < (rDig T np 6 x (nI 0) 0).2.2), rAdd (rDig T np 6 x (nI 0) 0).1 i (nI 0) (rDig T np 6 x (nI 0) 0).2.1)
def rSumL (il : Bool) : Nat → RS → Bool × RS
  | 0, x => (true, x)
  | n + 1, x =>
    if (rSkip T np (nI 43) x).1 then (if (rTerm T np (nI 2) il (rSkip T np (nI 43) x).2).1 then rSumL il n (rTerm T np (nI 2) il (rSkip T np (nI 43) x).2).2 else (false, (rTerm T np (nI 2) il (rSkip T np (nI 43) x).2).2))
    else if (rSkip T np (nI 45) (rSkip T np (nI 43) x).2).1 then (if (rTerm T np (nI 3) il (rSkip T np (nI 45) (rSkip T np (nI 43) x).2).2).1 then rSumL il n (rTerm T np (nI 3) il (rSkip T np (nI 45) (rSkip T np (nI 43) x).2).2).2 else (false, (rTerm T np (nI 3) il (rSkip T np (nI 45) (rSkip T np (nI 43) x).2).2).2))
    else (true, (rSkip T np (nI 45) (rSkip T np (nI 43) x).2).2)
def rSum (il : Bool) (x : RS) : Bool × RS := if (rTerm T np (nI 2) il x).1 then rSumL T np il 160 (rTerm T np (nI 2) il x).2 else (false, (rTerm T np (nI 2) il x).2)
/-- the width of a field, and the state behind it -/
def rWid (x : RS) : Int32 × RS := if ¬ sgF T np x.1 < nI 49 ∧ ¬ nI 57 < sgF T np x.1 then (sgF T np x.1 - nI 48, rUp x) else (nI 0, x)
def rField (il : Bool) (x : RS) : Bool × RS :=
  if nmB (sgF T np x.1) il then rSkip T np (nI 125) (rAdd (rWid T np (rPt (rUp x))).2 (nI 1) (sgF T np x.1) (rWid T np (rPt (rUp x))).1) else (false, x)
def rUp2 (x : RS) : RS := (x.1 + nI 2, x.2)
def rLoop (pt : RS → Bool × RS) (x : RS) : Bool × RS :=
  if (pt (rAdd (rPt (rUp x)) (nI 7) (nI 0) (nI 0))).1 then
    (if rEnds T np (pt (rAdd (rPt (rUp x)) (nI 7) (nI 0) (nI 0))).2 then (true, rAdd (rUp2 (pt (rAdd (rPt (rUp x)) (nI 7) (nI 0) (nI 0))).2) (nI 8) (nI 0) (x.2.2.1 + nI 1)) else (false, (pt (rAdd (rPt (rUp x)) (nI 7) (nI 0) (nI 0))).2))
  else (false, (pt (rAdd (rPt (rUp x)) (nI 7) (nI 0) (nI 0))).2)
/-- behind the second sum of a choice: c the relation's sign -/
def rChoiceB (pt : RS → Bool × RS) (c : Int32) (x : RS) : Bool × RS :=
  let un := x.2.2.1
  let p1 := pt (rAdd x (nI 5) c (nI 0))
  if p1.1 then
    (if (rSkip T np (nI 124) p1.2).1 then
      let jp := (rSkip T np (nI 124) p1.2).2.2.2.1
      let p2 := pt (rAim (rAdd (rSkip T np (nI 124) p1.2).2 (nI 6) (nI 0) (nI 0)) un)
      if p2.1 then rSkip T np (nI 125) (rAim p2.2 jp) else (false, p2.2)
    else rSkip T np (nI 125) (rAim (rSkip T np (nI 124) p1.2).2 un))
  else (false, p1.2)
/-- behind the relation -/
def rChoiceA (il : Bool) (pt : RS → Bool × RS) (c : Int32) (x : RS) : Bool × RS :=
  let s2 := rSum T np il (rAdd x (nI 4) (nI 0) (nI 0))
  if s2.1 then (if (rSkip T np (nI 58) s2.2).1 then rChoiceB T np pt c (rSkip T np (nI 58) s2.2).2 else (false, (rSkip T np (nI 58) s2.2).2)) else (false, s2.2)
def rChoice (il : Bool) (pt : RS → Bool × RS) (x : RS) : Bool × RS :=
  let s1 := rSum T np il (rPt (rUp x))
  if s1.1 then
    let k1 := rSkip T np (nI 60) s1.2
    if k1.1 then rChoiceA T np il pt (sgF T np s1.2.1) k1.2 else
    let k2 := rSkip T np (nI 62) k1.2
    if k2.1 then rChoiceA T np il pt (sgF T np s1.2.1) k2.2 else
    let k3 := rSkip T np (nI 61) k2.2
    if k3.1 then rChoiceA T np il pt (sgF T np s1.2.1) k3.2 else (false, k3.2)
  else (false, s1.2)
/-- one PART that begins with a { : x stands behind it -/
def rPart (lp ch : RS → Bool × RS) (il : Bool) (x : RS) : Bool × RS :=
  if sgF T np x.1 = nI 42 then lp x else if sgF T np x.1 = nI 63 then ch x else rField T np il x
/-- do the PARTs end here -/
def rStop (ol : Bool) (x : RS) : Bool := decide (sgF T np x.1 = 0) || decide (sgF T np x.1 = nI 124) || decide (sgF T np x.1 = nI 125) || (ol && rEnds T np x)
def rPartsL (lp ch : RS → Bool × RS) (il ol : Bool) : Nat → RS → Bool × RS
  | 0, x => (true, x)
  | n + 1, x =>
    if rStop T np ol x then (true, x)
    else if sgF T np x.1 = nI 123 then (if (rPart T np lp ch il (rUp x)).1 then rPartsL lp ch il ol n (rPart T np lp ch il (rUp x)).2 else (false, (rPart T np lp ch il (rUp x)).2))
    else rPartsL lp ch il ol n (rAdd (rUp x) (nI 0) (sgF T np x.1) (nI 0))
def rNo (x : RS) : Bool × RS := (false, x)
/-- PARTs where k more levels may stand within -/
def rParts : Nat → Bool → Bool → RS → Bool × RS
  | 0, il, ol, x => rPartsL T np rNo rNo il ol 160 x
  | k + 1, il, ol, x => rPartsL T np (fun y => if il then (false, y) else rLoop T np (rParts k true true) y) (fun y => rChoice T np il (rParts k il false) y) il ol 160 x
end RF
