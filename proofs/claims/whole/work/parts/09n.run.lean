/-! ===== a form and its text write alike ===== -/
section CR
variable (D F S : Nat → Int32) (nm : Int32 → Int32 → Int32) (n : Nat) (wn z : Int32)
def CR : Nat → Int32 × WS → Int32 × WS → Prop
  | 0, x, y => x = y
  | k + 1, x, y => x.1 < z ∧ CR k (stepS D F S nm n wn x.1 x.2) y
end CR
section CRL
variable {D F S : Nat → Int32} {nm : Int32 → Int32 → Int32} {n : Nat} {wn z : Int32}
theorem CR_tr : ∀ {k m : Nat} {x y w : Int32 × WS}, CR D F S nm n wn z k x y → CR D F S nm n wn z m y w → CR D F S nm n wn z (k + m) x w := by
  intro k
  induction k with
  | zero => intro m x y w h g; obtain rfl : x = y := h; rw [Nat.zero_add]; exact g
  | succ k ih => intro m x y w h g; rw [Nat.succ_add]; exact ⟨h.1, ih h.2 g⟩
theorem CR_1 {x y : Int32 × WS} (h : x.1 < z) (e : stepS D F S nm n wn x.1 x.2 = y) : CR D F S nm n wn z 1 x y := ⟨h, e⟩
theorem CR_run : ∀ {k : Nat} (m : Nat) {x y : Int32 × WS}, CR D F S nm n wn z k x y → runS D F S nm n wn z (k + m) x = runS D F S nm n wn z m y := by
  intro k
  induction k with
  | zero => intro m x y h; obtain rfl : x = y := h; rw [Nat.zero_add]
  | succ k ih => intro m x y h; rw [Nat.succ_add, runS, if_pos h.1]; exact ih m h.2
theorem runS_end (m : Nat) {x : Int32 × WS} (h : ¬ x.1 < z) : runS D F S nm n wn z m x = x.2 := by
  cases m with
  | zero => rfl
  | succ m => rw [runS, if_neg h]
theorem st_0 {i : Nat} (hi : i < 160) (w : WS) (h : D i = nI 0) : stepS D F S nm n wn (nI i) w = (nI (i + 1), w.1, w.2.1, w.2.2.1, w.2.2.2.1, wPut wn w.2.2.2.2 (chr (F i))) := by
  unfold stepS
  rw [xget_at hi (by decide), xget_at hi (by decide), xget_at hi (by decide), h, if_pos rfl, nI_add]
theorem st_1 {i : Nat} (hi : i < 160) (w : WS) (h : D i = nI 1) : stepS D F S nm n wn (nI i) w = (nI (i + 1), dgR w.1 (nm (chr (F i)) w.2.1).toNatClampNeg (dsz 9 (nm (chr (F i)) w.2.1).toNatClampNeg), w.2.1, w.2.2.1, w.2.2.2.1, wPuts wn w.2.2.2.2 (numT (nm (chr (F i)) w.2.1).toNatClampNeg (S i).toNatClampNeg)) := by
  unfold stepS
  rw [xget_at hi (by decide), xget_at hi (by decide), xget_at hi (by decide), h, if_neg (by decide), if_pos rfl, nI_add]
theorem st_2 {i : Nat} (hi : i < 160) (w : WS) (h : D i = nI 2) : stepS D F S nm n wn (nI i) w = (nI (i + 1), w.1, w.2.1, w.2.2.1, w.2.2.2.1 + (if F i = 0 then (S i).toInt64 else (nm (chr (F i)) w.2.1).toInt64), w.2.2.2.2) := by
  unfold stepS
  rw [xget_at hi (by decide), xget_at hi (by decide), xget_at hi (by decide), h, if_neg (by decide), if_neg (by decide), if_pos rfl, nI_add]
theorem st_3 {i : Nat} (hi : i < 160) (w : WS) (h : D i = nI 3) : stepS D F S nm n wn (nI i) w = (nI (i + 1), w.1, w.2.1, w.2.2.1, w.2.2.2.1 - (if F i = 0 then (S i).toInt64 else (nm (chr (F i)) w.2.1).toInt64), w.2.2.2.2) := by
  unfold stepS
  rw [xget_at hi (by decide), xget_at hi (by decide), xget_at hi (by decide), h, if_neg (by decide), if_neg (by decide), if_neg (by decide), if_pos rfl, nI_add]
theorem st_4 {i : Nat} (hi : i < 160) (w : WS) (h : D i = nI 4) : stepS D F S nm n wn (nI i) w = (nI (i + 1), w.1, w.2.1, w.2.2.2.1, 0, w.2.2.2.2) := by
  unfold stepS
  rw [xget_at hi (by decide), h, if_neg (by decide), if_neg (by decide), if_neg (by decide), if_neg (by decide), if_pos rfl, nI_add]
theorem st_5 {i : Nat} (hi : i < 160) (w : WS) (h : D i = nI 5) : stepS D F S nm n wn (nI i) w = (if cmpR (chr (F i)) w.2.2.1 w.2.2.2.1 then nI (i + 1) else S i, w.1, w.2.1, w.2.2.1, 0, w.2.2.2.2) := by
  unfold stepS
  rw [xget_at hi (by decide), xget_at hi (by decide), xget_at hi (by decide), h, if_neg (by decide), if_neg (by decide), if_neg (by decide), if_neg (by decide), if_neg (by decide), if_pos rfl, nI_add]
theorem st_6 {i : Nat} (hi : i < 160) (w : WS) (h : D i = nI 6) : stepS D F S nm n wn (nI i) w = (S i, w) := by
  unfold stepS
  rw [xget_at hi (by decide), xget_at hi (by decide), xget_at hi (by decide), h, if_neg (by decide), if_neg (by decide), if_neg (by decide), if_neg (by decide), if_neg (by decide), if_neg (by decide), if_pos rfl]
theorem st_7 {i : Nat} (hi : i < 160) (w : WS) (h : D i = nI 7) : stepS D F S nm n wn (nI i) w = (nI (i + 1), w.1, nI 0, w.2.2.1, w.2.2.2.1, w.2.2.2.2) := by
  unfold stepS
  rw [xget_at hi (by decide), h, if_neg (by decide), if_neg (by decide), if_neg (by decide), if_neg (by decide), if_neg (by decide), if_neg (by decide), if_neg (by decide), if_pos rfl, nI_add]
theorem st_8 {i : Nat} (hi : i < 160) (w : WS) (h : D i = nI 8) : stepS D F S nm n wn (nI i) w = (if ¬ w.2.1 + nI 1 < 0 ∧ w.2.1 + nI 1 < nI n then (S i, w.1, w.2.1 + nI 1, w.2.2.1, w.2.2.2.1, w.2.2.2.2) else (nI (i + 1), w.1, -1, w.2.2.1, w.2.2.2.1, w.2.2.2.2)) := by
  unfold stepS
  rw [xget_at hi (by decide), xget_at hi (by decide), xget_at hi (by decide), h, if_neg (by decide), if_neg (by decide), if_neg (by decide), if_neg (by decide), if_neg (by decide), if_neg (by decide), if_neg (by decide), if_neg (by decide), nI_add]
end CRL
theorem KS_mk {X : Nat → Int32} {nm : Int32 → Int32} {ok : Int32 → Prop} {c1 : Nat} {r1 : Int64} {a b : Nat} {g : Int32} {v w : Int64} (h : KT X nm ok a b w) (h2 : (¬ X b = nI 43 ∧ ¬ X b = nI 45 ∧ b = c1 ∧ v + g.toInt64 * w = r1) ∨ (X b = nI 43 ∧ KS X nm ok c1 r1 (b + 1) (nI 1) (v + g.toInt64 * w)) ∨ (X b = nI 45 ∧ KS X nm ok c1 r1 (b + 1) (-1) (v + g.toInt64 * w))) : KS X nm ok c1 r1 a g v := by
  rcases h2 with h2 | ⟨h2, n, h3⟩ | ⟨h2, n, h3⟩
  · exact ⟨1, b, w, h, Or.inl h2⟩
  · exact ⟨n + 1, b, w, h, Or.inr (Or.inl ⟨h2, h3⟩)⟩
  · exact ⟨n + 1, b, w, h, Or.inr (Or.inr ⟨h2, h3⟩)⟩
theorem g_p (v w : Int64) : v + (nI 1).toInt64 * w = v + w := by
  rw [show (nI 1).toInt64 = 1 from by decide, Int64.one_mul]
theorem g_m (v w : Int64) : v + (-1 : Int32).toInt64 * w = v - w := by
  rw [show (-1 : Int32).toInt64 = -1 from by decide, Int64.neg_mul, Int64.one_mul, Int64.sub_eq_add_neg]
theorem WRun_tr {X mk bo ot : Nat → Int32} {nm : Option Nat → Int32 → Int32} {n : Nat} {wn : Int32} {sz : Nat} : ∀ {k m : Nat} {x y w : WQ}, WRun X mk bo ot nm n wn sz k x y → WRun X mk bo ot nm n wn sz m y w → WRun X mk bo ot nm n wn sz (k + m) x w := by
  intro k
  induction k with
  | zero => intro m x y w h g; obtain rfl : x = y := h; rw [Nat.zero_add]; exact g
  | succ k ih => intro m x y w h g; rw [Nat.succ_add]; obtain ⟨u, h1, h2, h3⟩ := h; exact ⟨u, h1, h2, ih h3 g⟩
theorem WRun_1 {X mk bo ot : Nat → Int32} {nm : Option Nat → Int32 → Int32} {n : Nat} {wn : Int32} {sz : Nat} {x y : WQ} (h : x.1 < sz) (h2 : WStp X mk bo ot nm n wn x y) : WRun X mk bo ot nm n wn sz 1 x y := ⟨y, h, h2, rfl⟩
section RUN
variable {D F S X mk bo ot : Nat → Int32} {nm1 : Int32 → Int32 → Int32} {nm2 : Option Nat → Int32 → Int32} {n : Nat} {wn : Int32} {gn sz : Nat}
/-- signs of a text -/
def XS9 (X : Nat → Int32) (sz : Nat) : Prop := sz ≤ 160 ∧ ∀ p, p < sz → ∃ c, 32 ≤ c ∧ c ≤ 126 ∧ X p = nI c
theorem chr_X (hX : XS9 X sz) {p : Nat} (hp : p < sz) : chr (X p) = X p := by
  obtain ⟨c, c1, c2, c3⟩ := hX.2 p hp
  rw [c3]; exact nI_chr (by omega)
def NM (nm1 : Int32 → Int32 → Int32) (nm2 : Option Nat → Int32 → Int32) (n : Nat) : Prop := ∀ o x, (∀ j, o = some j → j < n) → nmB x o.isSome = true → ∃ q, q < 2 ^ 31 ∧ nm2 o x = nI q ∧ nm1 x (oI o) = nI q
theorem nmB_ok {x : Int32} {o : Option Nat} (h : nmB x o.isSome = true) : okN o x := by
  intro e; subst e
  unfold nmB at h
  rw [Option.isSome_none, Bool.false_and, Bool.or_false] at h; exact h
theorem tm_run (hX : XS9 X sz) (hN : NM nm1 nm2 n) {o : Option Nat} (ho : ∀ j, o = some j → j < n) {d i a b : Nat} (h : TmC D F S X o.isSome d i a b) (hb : b < sz) (hd : inR (X b) (nI 48) (nI 57) = false) : ∃ w, KT X (nm2 o) (okN o) a b w ∧ (if F i = 0 then (S i).toInt64 else (nm1 (chr (F i)) (oI o)).toInt64) = w := by
  obtain ⟨h1, h2, h3, h4⟩ := h
  have hsz := hX.1
  rcases h4 with ⟨g1, g2, v, g3, g4, g5⟩ | ⟨g1, g2, g3, g4⟩
  · refine ⟨(nI v).toInt64, ⟨by omega, h2, Or.inl ⟨g1, hd, b - a, g5⟩⟩, ?_⟩
    rw [if_pos (show F i = 0 from g2), g4]
  · obtain ⟨q, q1, q2, q3⟩ := hN o (X a) ho g2
    obtain ⟨c, c1, c2, c3⟩ := hX.2 a (by omega)
    refine ⟨(nI q).toInt64, ⟨by omega, h2, Or.inr ⟨g1, nmB_ok g2, g4, by rw [q2]⟩⟩, ?_⟩
    rw [if_neg (by rw [g3, c3]; exact fun q => absurd ((nI_eq (b := 0) (by omega) (by omega)).mp q) (by omega)), g3, chr_X hX (by omega), q3]
theorem nd_43 {x : Int32} (h : x = nI 43 ∨ x = nI 45 ∨ x = nI 58) : inR x (nI 48) (nI 57) = false := by rcases h with rfl | rfl | rfl <;> decide
theorem tl_run (hX : XS9 X sz) (hN : NM nm1 nm2 n) {o : Option Nat} (ho : ∀ j, o = some j → j < n) (hg : gn ≤ 160) {c : Nat} (hc : c < sz) (hc1 : ¬ X c = nI 43) (hc2 : ¬ X c = nI 45) (hc3 : inR (X c) (nI 48) (nI 57) = false) {i' : Nat} (hi' : i' ≤ gn) (dg : Nat → Int32) (lf : Int64) (x : Int32 × Int32) :
    ∀ m i b v, TlC D F S X o.isSome m i b i' c → inR (X b) (nI 48) (nI 57) = false ∧ ∃ r, CR D F S nm1 n wn (nI gn) (i' - i) (nI i, dg, oI o, lf, v, x) (nI i', dg, oI o, lf, r, x) ∧ ((¬ X b = nI 43 ∧ ¬ X b = nI 45 ∧ b = c ∧ v = r) ∨ (X b = nI 43 ∧ KS X (nm2 o) (okN o) c r (b + 1) (nI 1) v) ∨ (X b = nI 45 ∧ KS X (nm2 o) (okN o) c r (b + 1) (-1) v)) := by
  intro m
  induction m with
  | zero =>
    intro i b v h
    obtain ⟨rfl, rfl⟩ := h
    exact ⟨hc3, v, by rw [Nat.sub_self]; exact rfl, Or.inl ⟨hc1, hc2, rfl, rfl⟩⟩
  | succ m ih =>
    intro i b v h
    rcases h with ⟨rfl, rfl⟩ | ⟨g1, b2, h1, h2⟩ | ⟨g1, b2, h1, h2⟩
    · exact ⟨hc3, v, by rw [Nat.sub_self]; exact rfl, Or.inl ⟨hc1, hc2, rfl, rfl⟩⟩
    · have hle := TlC_le h2
      obtain ⟨e1, r, e2, e3⟩ := ih (i + 1) b2 (v + (if F i = 0 then (S i).toInt64 else (nm1 (chr (F i)) (oI o)).toInt64)) h2
      obtain ⟨w, w1, w2⟩ := tm_run hX hN ho h1 (by omega) e1
      refine ⟨nd_43 (Or.inl g1), r, ?_, Or.inr (Or.inl ⟨g1, KS_mk w1 (by rw [g_p, ← w2]; exact e3)⟩)⟩
      rw [show i' - i = 1 + (i' - (i + 1)) by omega]
      exact CR_tr (CR_1 (nI_lt (by omega) (by omega)) (st_2 h1.1 _ h1.2.2.1)) e2
    · have hle := TlC_le h2
      obtain ⟨e1, r, e2, e3⟩ := ih (i + 1) b2 (v - (if F i = 0 then (S i).toInt64 else (nm1 (chr (F i)) (oI o)).toInt64)) h2
      obtain ⟨w, w1, w2⟩ := tm_run hX hN ho h1 (by omega) e1
      refine ⟨nd_43 (Or.inr (Or.inl g1)), r, ?_, Or.inr (Or.inr ⟨g1, KS_mk w1 (by rw [g_m, ← w2]; exact e3)⟩)⟩
      rw [show i' - i = 1 + (i' - (i + 1)) by omega]
      exact CR_tr (CR_1 (nI_lt (by omega) (by omega)) (st_3 h1.1 _ h1.2.2.1)) e2
theorem sm_run (hX : XS9 X sz) (hN : NM nm1 nm2 n) {o : Option Nat} (ho : ∀ j, o = some j → j < n) (hg : gn ≤ 160) {c : Nat} (hc : c < sz) (hc1 : ¬ X c = nI 43) (hc2 : ¬ X c = nI 45) (hc3 : inR (X c) (nI 48) (nI 57) = false) {i i' a : Nat} (hi' : i' ≤ gn) (dg : Nat → Int32) (lf : Int64) (x : Int32 × Int32) (h : SmC D F S X o.isSome i a i' c) :
    ∃ r, CR D F S nm1 n wn (nI gn) (i' - i) (nI i, dg, oI o, lf, 0, x) (nI i', dg, oI o, lf, r, x) ∧ KS X (nm2 o) (okN o) c r a (nI 1) 0 := by
  obtain ⟨b, m, h1, h2⟩ := h
  have hle := TlC_le h2
  obtain ⟨e1, r, e2, e3⟩ := tl_run (wn := wn) hX hN ho hg hc hc1 hc2 hc3 hi' dg lf x m (i + 1) b (0 + (if F i = 0 then (S i).toInt64 else (nm1 (chr (F i)) (oI o)).toInt64)) h2
  obtain ⟨w, w1, w2⟩ := tm_run hX hN ho h1 (by omega) e1
  refine ⟨r, ?_, KS_mk w1 (by rw [g_p, ← w2]; exact e3)⟩
  rw [show i' - i = 1 + (i' - (i + 1)) by omega]
  exact CR_tr (CR_1 (nI_lt (by omega) (by omega)) (st_2 h1.1 _ h1.2.2.1)) e2
def RunG (D F S X mk bo ot : Nat → Int32) (nm1 : Int32 → Int32 → Int32) (nm2 : Option Nat → Int32 → Int32) (n : Nat) (wn : Int32) (gn sz : Nat) (il : Bool) (i a i' a' : Nat) : Prop :=
  ∀ (o : Option Nat), il = o.isSome → (∀ j, o = some j → j < n) → i' ≤ gn → a' ≤ sz → ∀ (dg : Nat → Int32) (lf : Int64) (x : Int32 × Int32) (lo : Int32), ∃ N N2 dg' lf' x' lo', N ≤ 6 * (i' - i) ∧ (il = true → N ≤ i' - i ∧ lo' = lo) ∧ CR D F S nm1 n wn (nI gn) N (nI i, dg, oI o, lf, 0, x) (nI i', dg', oI o, lf', 0, x') ∧ WRun X mk bo ot nm2 n wn sz N2 (a, x, o, lo) (a', x', o, lo')
/-- a loop's runs from its body's begin on, r more times -/
theorem loop_run (hX : XS9 X sz) (hg : gn ≤ 160) {i a j b : Nat} (hn6 : n ≤ 6) (hij : i + 1 ≤ j) (hab : a + 2 ≤ b) (hP : RunG D F S X mk bo ot nm1 nm2 n wn gn sz true (i + 1) (a + 2) j b) (hb : ¬ X b = nI 123) (hk : mk b = nI 1) (hD : D j = nI 8) (hS : S j = nI (i + 1)) (hj : j + 1 ≤ gn) (hb2 : b + 2 ≤ sz) :
    ∀ r k, k + r + 1 = n → ∀ (dg : Nat → Int32) (lf : Int64) (x : Int32 × Int32), ∃ N N2 dg' lf' x', N ≤ (r + 1) * (j - i) ∧ CR D F S nm1 n wn (nI gn) N (nI (i + 1), dg, nI k, lf, 0, x) (nI (j + 1), dg', -1, lf', 0, x') ∧ WRun X mk bo ot nm2 n wn sz N2 (a + 2, x, some k, nI (a + 2)) (b + 2, x', none, nI (a + 2)) := by
  have hsz := hX.1
  intro r
  induction r with
  | zero =>
    intro k hk9 dg lf x
    obtain ⟨N, N2, dg', lf', x', lo', h1, h2, h3, h4⟩ := hP (some k) rfl (fun j q => by cases q; omega) (by omega) (by omega) dg lf x (nI (a + 2))
    obtain ⟨h5, rfl⟩ := h2 rfl
    refine ⟨N + 1, N2 + 1, dg', lf', x', by omega, CR_tr h3 (CR_1 (nI_lt (by omega) (by omega)) ?_), WRun_tr h4 (WRun_1 (by show b < sz; omega) ⟨by show b < 160; omega, fun q => absurd q hb, by show b + 2 ≤ 160; omega, Or.inr (Or.inr (Or.inr (Or.inr (Or.inl ⟨hb, hk, k, rfl, by omega, by omega, rfl⟩))))⟩)⟩
    rw [show ((nI j, dg', oI (some k), lf', 0, x') : Int32 × WS).1 = nI j from rfl, st_8 (by omega) _ hD, if_neg]
    rintro ⟨_, q⟩
    have q' : nI k + nI 1 < nI n := q
    rw [nI_add, i_ltN (by omega), nI_toInt (by omega)] at q'
    omega
  | succ r ih =>
    intro k hk9 dg lf x
    obtain ⟨N, N2, dg', lf', x', lo', h1, h2, h3, h4⟩ := hP (some k) rfl (fun j q => by cases q; omega) (by omega) (by omega) dg lf x (nI (a + 2))
    obtain ⟨h5, rfl⟩ := h2 rfl
    obtain ⟨M, M2, dg2, lf2, x2, g1, g2, g3⟩ := ih (k + 1) (by omega) dg' lf' x'
    refine ⟨N + (1 + M), N2 + (1 + M2), dg2, lf2, x2, ?_, CR_tr h3 (CR_tr (CR_1 (nI_lt (by omega) (by omega)) ?_) g2), WRun_tr h4 (WRun_tr (WRun_1 (by show b < sz; omega) ⟨by show b < 160; omega, fun q => absurd q hb, by show a + 2 ≤ 160; omega, Or.inr (Or.inr (Or.inr (Or.inl ⟨hb, hk, k, rfl, by omega, rfl, rfl⟩)))⟩) g3)⟩
    · have e9 : (r + 1 + 1) * (j - i) = (r + 1) * (j - i) + (j - i) := by rw [Nat.add_mul (r + 1) 1, Nat.one_mul]
      rw [e9]
      generalize (r + 1) * (j - i) = z at g1 ⊢
      omega
    · rw [show ((nI j, dg', oI (some k), lf', 0, x') : Int32 × WS).1 = nI j from rfl, st_8 (by omega) _ hD, if_pos]
      · rw [hS, show ((nI j, dg', oI (some k), lf', 0, x') : Int32 × WS).2.2.1 = nI k from rfl, nI_add]
      · show ¬ nI k + nI 1 < 0 ∧ nI k + nI 1 < nI n
        rw [nI_add]
        exact ⟨nI_pos (by omega), nI_lt (by omega) (by omega)⟩
set_option maxHeartbeats 8000000 in
theorem Itm_run (hX : XS9 X sz) (hN : NM nm1 nm2 n) (hg : gn ≤ 160) (hn0 : 0 < n) (hn6 : n ≤ 6) {P : Bool → Nat → Nat → Nat → Nat → Prop} (hP : PLe P) (hR : ∀ il i a i' a', P il i a i' a' → RunG D F S X mk bo ot nm1 nm2 n wn gn sz il i a i' a') {il : Bool} {i a i1 a1 : Nat} (h : Itm D F S X mk bo ot P il i a i1 a1) : RunG D F S X mk bo ot nm1 nm2 n wn gn sz il i a i1 a1 := by
  have hsz := hX.1
  have hle := Itm_le hP h
  intro o hil ho hi1 ha1 dg lf x lo
  have hz : ∀ {k : Nat}, k < i1 → nI k < nI gn := fun h => nI_lt (by omega) (by omega)
  rcases h with ⟨e1, e2, e3, e4, e5, e6⟩ | ⟨e1, e2, e3, e4, e5, w, e6, e7, h⟩ | ⟨e0, e1, e2, e3, e4, j, b, h, f1, f2, f3, f4, f5, f6⟩ | ⟨e1, e2, i2, c2, i3, c3, h1, e3, e4, h2, e5, e6, e7, e8, j, b, h3, e9, h⟩
  · subst e5; subst e6
    refine ⟨1, 1, dg, lf, wPut wn x (X a), lo, by omega, fun _ => ⟨by omega, rfl⟩, CR_1 (hz (Nat.lt_succ_self _)) ?_, WRun_1 (show a < sz by omega) ⟨show a < 160 by omega, fun q => absurd q e1, show a + 1 ≤ 160 by omega, Or.inr (Or.inr (Or.inr (Or.inr (Or.inr (Or.inr (Or.inr ⟨e1, e2, rfl⟩))))))⟩⟩
    refine (st_0 (by omega) _ e3).trans ?_
    rw [e4, chr_X hX (by omega)]
  · subst e5
    rw [hil] at e2
    obtain ⟨q, q1, q2, q3⟩ := hN o (X (a + 1)) ho e2
    have ha : a + 3 ≤ a1 := by rcases h with ⟨_, q, _⟩ | ⟨_, q⟩ <;> omega
    have n42 : ¬ X (a + 1) = nI 42 := fun q => by rw [q] at e2; revert e2; cases o.isSome <;> decide
    have n63 : ¬ X (a + 1) = nI 63 := fun q => by rw [q] at e2; revert e2; cases o.isSome <;> decide
    refine ⟨1, 1, dgR dg q (dsz 9 q), lf, wPuts wn x (numT q w), lo, by omega, fun _ => ⟨by omega, rfl⟩, CR_1 (hz (Nat.lt_succ_self _)) ?_, WRun_1 (show a < sz by omega) ⟨show a < 160 by omega, fun _ => show a < 158 by omega, show a1 ≤ 160 by omega, Or.inr (Or.inr (Or.inl ⟨e1, n42, n63, nmB_ok e2, q, nI w, q2, q1, ?_, ?_⟩))⟩⟩
    · refine (st_1 (by omega) _ e3).trans ?_
      rw [e4, chr_X hX (by omega), show ((dg, oI o, lf, 0, x) : WS).2.1 = oI o from rfl, q3, nI_clamp q1, e7, nI_clamp (by omega)]
    · rcases h with ⟨g1, g2, g3⟩ | ⟨g1, g2⟩
      · subst g3; exact Or.inl ⟨g1, g2, rfl⟩
      · refine Or.inr ⟨fun q => ?_, g2, ?_⟩
        · have q' := g1.symm.trans q
          exact absurd ((nI_eq (by omega) (by omega)).mp q') (by omega)
        · show nI w = X (a + 2) - nI 48
          rw [g1, nI_sub (by omega)]; congr 1; omega
    · rw [nI_clamp (by omega)]
  · subst e0; subst f5; subst f6
    have ho9 : o = none := by cases o with
      | none => rfl
      | some z => cases hil
    subst ho9
    have g := hP _ _ _ _ _ h
    obtain ⟨N, N2, dg', lf', x', h1, h2, h3⟩ := loop_run hX hg hn6 g.1 g.2 (hR _ _ _ _ _ h) f1 f2 f3 f4 hi1 ha1 (n - 1) 0 (by omega) dg lf x
    refine ⟨1 + N, 1 + N2, dg', lf', x', nI (a + 2), ?_, fun q => (by cases q), CR_tr (CR_1 (hz (by omega)) (st_7 (by omega) _ e4)) h2, WRun_tr (WRun_1 (show a < sz by omega) ⟨show a < 160 by omega, fun _ => show a < 158 by omega, show a + 2 ≤ 160 by omega, Or.inl ⟨e1, e2, hn0, e3, rfl⟩⟩) h3⟩
    have := Nat.mul_le_mul_right (j - i) (show n - 1 + 1 ≤ 6 by omega)
    omega
  · have g1 := SmC_le h1; have g2 := SmC_le h2; have g3 := hP _ _ _ _ _ h3
    have hb : j ≤ i1 ∧ b < a1 := by
      rcases h with ⟨_, _, _, q1, q2⟩ | ⟨_, _, _, _, j2, b2, h4, _, _, _, _, q1, q2⟩
      · omega
      · have g4 := hP _ _ _ _ _ h4; omega
    have hr9 : ¬ X c2 = nI 43 ∧ ¬ X c2 = nI 45 ∧ inR (X c2) (nI 48) (nI 57) = false := by
      unfold pqR at e3
      rw [Bool.or_eq_true, Bool.or_eq_true, decide_eq_true_eq, decide_eq_true_eq, decide_eq_true_eq] at e3
      rcases e3 with (q | q) | q <;> rw [q] <;> decide
    rw [hil] at h1 h2
    obtain ⟨r1, s1, k1⟩ := sm_run (wn := wn) hX hN ho hg (show c2 < sz by omega) hr9.1 hr9.2.1 hr9.2.2 (show i2 ≤ gn by omega) dg lf x h1
    obtain ⟨r2, s2, k2⟩ := sm_run (wn := wn) hX hN ho hg (show c3 < sz by omega) (by rw [e5]; decide) (by rw [e5]; decide) (by rw [e5]; decide) (show i3 ≤ gn by omega) dg r1 x h2
    have t4 : CR D F S nm1 n wn (nI gn) 1 (nI i2, dg, oI o, lf, r1, x) (nI (i2 + 1), dg, oI o, r1, 0, x) := CR_1 (hz (by omega)) (st_4 (by omega) _ e4)
    have hR3 := hR _ _ _ _ _ h3 o hil ho (by omega) (by omega)
    have stp : ∀ t1, t1 ≤ 160 → (if cmpR (X c2) r1 r2 then bo a else ot a) = nI t1 → WRun X mk bo ot nm2 n wn sz 1 (a, x, o, lo) (t1, x, o, lo) := fun t1 ht e => WRun_1 (show a < sz by omega) ⟨show a < 160 by omega, fun _ => show a < 158 by omega, ht, Or.inr (Or.inl ⟨e1, e2, ⟨c2, r1, c3, r2, k1, by omega, k2, e⟩, rfl⟩)⟩
    by_cases c : cmpR (X c2) r1 r2 = true
    · have t5 : CR D F S nm1 n wn (nI gn) 1 (nI i3, dg, oI o, r1, r2, x) (nI (i3 + 1), dg, oI o, r1, 0, x) := CR_1 (hz (by omega)) ((st_5 (by omega) _ e7).trans (by
        rw [e8, chr_X hX (by omega), show ((dg, oI o, r1, r2, x) : WS).2.2.1 = r1 from rfl, show ((dg, oI o, r1, r2, x) : WS).2.2.2.1 = r2 from rfl, if_pos c]))
      have w5 := stp (c3 + 1) (by omega) (by rw [if_pos c]; exact e6)
      obtain ⟨N, N2, dg', lf', x', lo', n1, n2, n3, n4⟩ := hR3 dg r1 x lo
      have A := CR_tr (CR_tr (CR_tr (CR_tr s1 t4) s2) t5) n3
      have B := WRun_tr w5 n4
      rcases h with ⟨p1, p2, p3, p4, p5⟩ | ⟨p1, p2, p3, p4, j2, b2, h4, p5, p6, p7, p8, p9, p10⟩
      · subst p4; subst p5
        refine ⟨_, _, dg', lf', x', lo', ?_, fun q => ?_, A, WRun_tr B (WRun_1 (show b < sz by omega) ⟨show b < 160 by omega, fun q => absurd q e9, show b + 1 ≤ 160 by omega, Or.inr (Or.inr (Or.inr (Or.inr (Or.inr (Or.inr (Or.inl ⟨e9, p1, rfl⟩))))))⟩)⟩
        · omega
        · have := n2 q; exact ⟨by omega, this.2⟩
      · subst p9; subst p10
        have g4 := hP _ _ _ _ _ h4
        refine ⟨_, _, dg', lf', x', lo', ?_, fun q => ?_, CR_tr A (CR_1 (hz (by omega)) ((st_6 (by omega) _ p2).trans (by rw [p6]))), WRun_tr B (WRun_1 (show b < sz by omega) ⟨show b < 160 by omega, fun q => absurd q e9, show b2 + 1 ≤ 160 by omega, Or.inr (Or.inr (Or.inr (Or.inr (Or.inr (Or.inl ⟨e9, p1, p5, rfl⟩)))))⟩)⟩
        · omega
        · have := n2 q; exact ⟨by omega, this.2⟩
    · have t5 : ∀ t, S i3 = nI t → CR D F S nm1 n wn (nI gn) 1 (nI i3, dg, oI o, r1, r2, x) (nI t, dg, oI o, r1, 0, x) := fun t e => CR_1 (hz (by omega)) ((st_5 (by omega) _ e7).trans (by
        rw [e8, chr_X hX (by omega), show ((dg, oI o, r1, r2, x) : WS).2.2.1 = r1 from rfl, show ((dg, oI o, r1, r2, x) : WS).2.2.2.1 = r2 from rfl, if_neg c, e]))
      have A := CR_tr (CR_tr s1 t4) s2
      rcases h with ⟨p1, p2, p3, p4, p5⟩ | ⟨p1, p2, p3, p4, j2, b2, h4, p5, p6, p7, p8, p9, p10⟩
      · subst p4; subst p5
        exact ⟨_, _, dg, r1, x, lo, by omega, fun q => ⟨by omega, rfl⟩, CR_tr A (t5 _ p2), stp (b + 1) (by omega) (by rw [if_neg c]; exact p3)⟩
      · subst p9; subst p10
        have g4 := hP _ _ _ _ _ h4
        obtain ⟨N, N2, dg', lf', x', lo', n1, n2, n3, n4⟩ := hR _ _ _ _ _ h4 o hil ho (by omega) (by omega) dg r1 x lo
        refine ⟨_, _, dg', lf', x', lo', ?_, fun q => ?_, CR_tr (CR_tr A (t5 _ p3)) n3, WRun_tr (WRun_tr (stp (b + 1) (by omega) (by rw [if_neg c]; exact p4)) n4) (WRun_1 (show b2 < sz by omega) ⟨show b2 < 160 by omega, fun q => absurd q p7, show b2 + 1 ≤ 160 by omega, Or.inr (Or.inr (Or.inr (Or.inr (Or.inr (Or.inr (Or.inl ⟨p7, p8, rfl⟩))))))⟩)⟩
        · omega
        · have := n2 q; exact ⟨by omega, this.2⟩
theorem Seg_run (hX : XS9 X sz) (hN : NM nm1 nm2 n) (hg : gn ≤ 160) (hn0 : 0 < n) (hn6 : n ≤ 6) : ∀ m il i a i' a', Seg D F S X mk bo ot m il i a i' a' → RunG D F S X mk bo ot nm1 nm2 n wn gn sz il i a i' a' := by
  intro m
  induction m with
  | zero =>
    intro il i a i' a' h o hil ho hi ha dg lf x lo
    obtain ⟨rfl, rfl⟩ := h
    exact ⟨0, 0, dg, lf, x, lo, Nat.zero_le _, fun _ => ⟨Nat.zero_le _, rfl⟩, rfl, rfl⟩
  | succ m ih =>
    intro il i a i' a' h o hil ho hi ha dg lf x lo
    rcases h with ⟨rfl, rfl⟩ | ⟨i1, a1, h1, h2⟩
    · exact ⟨0, 0, dg, lf, x, lo, Nat.zero_le _, fun _ => ⟨Nat.zero_le _, rfl⟩, rfl, rfl⟩
    · have g1 := Itm_le (Seg_le m) h1; have g2 := Seg_le m _ _ _ _ _ h2
      obtain ⟨N, N2, dg', lf', x', lo', n1, n2, n3, n4⟩ := Itm_run hX hN hg hn0 hn6 (Seg_le m) ih h1 o hil ho (by omega) (by omega) dg lf x lo
      obtain ⟨M, M2, dg2, lf2, x2, lo2, m1, m2, m3, m4⟩ := ih _ _ _ _ _ h2 o hil ho hi ha dg' lf' x' lo'
      refine ⟨N + M, N2 + M2, dg2, lf2, x2, lo2, by omega, fun q => ?_, CR_tr n3 m3, WRun_tr n4 m4⟩
      have q1 := n2 q; have q2 := m2 q
      exact ⟨by omega, q2.2.trans q1.2⟩
end RUN
/-- a form that belongs to a text writes as the text -/
theorem FormOK_seg {D F S X mk bo ot : Nat → Int32} {m gn sz : Nat} (h : Seg D F S X mk bo ot m false 0 0 gn sz) (hg : gn ≤ 160) (hX : XS9 X sz) : FormOK D F S gn X mk bo ot sz := by
  intro X' mk' bo' ot' he nm1 nm2 n wn lo0 dg0 M hM hn0 hn6 hN
  have hsz := hX.1
  have h2 : Seg D F S X' mk' bo' ot' m false 0 0 gn sz := Seg_K m _ _ _ _ _ h (fun k _ _ => ⟨rfl, rfl, rfl⟩) (fun p _ q => he p (by omega))
  have hX' : XS9 X' sz := ⟨hX.1, fun p hp => by rw [(he p (by omega)).1]; exact hX.2 p hp⟩
  obtain ⟨N, N2, dg', lf', x', lo', n1, _, n3, n4⟩ := Seg_run (nm1 := nm1) (nm2 := nm2) (n := n) (wn := wn) (gn := gn) hX' hN hg hn0 hn6 m _ _ _ _ _ h2 none rfl (fun j q => by cases q) (Nat.le_refl _) (Nat.le_refl _) dg0 0 (nI 0, nI 32) lo0
  refine ⟨N2, x', none, lo', n4, ?_⟩
  have e := CR_run (M - N) n3
  rw [show N + (M - N) = M by omega, runS_end (x := (nI gn, dg', oI none, lf', 0, x')) (z := nI gn) _ Int32.lt_irrefl] at e
  exact congrArg (fun w : WS => w.2.2.2.2) e
