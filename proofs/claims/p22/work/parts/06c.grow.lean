/-! ===== the typed heap grows ===== -/
/-- what the world's cells point to is in the world -/
def xCl (st : XS) (Ls : List Nat) : Prop := ∀ k ∈ Ls, (kd k < 9 → ∀ f, f < nfl (kd k) → (10 ≤ fcd (kd k) f → k + (fcd (kd k) f - 10) ∈ Ls) ∧ (fcd (kd k) f = 2 → ∀ j, gp st f k = some j → j ∈ Ls)) ∧ ((kd k = 22 ∨ kd k = 23) → ∀ i j, gb st k i = some j → j ∈ Ls)
/-- two states agree at a label -/
def xAg (st st' : XS) (k : Nat) : Prop := (∀ f, gi st' f k = gi st f k) ∧ (∀ f, gl st' f k = gl st f k) ∧ (∀ f, gp st' f k = gp st f k) ∧ ga st' k = ga st k ∧ gb st' k = gb st k
theorem xOpt {ad ad' : Nat → Nat} {o : Option Nat} (h : ∀ j, o = some j → ad' j = ad j) : o.map ad' = o.map ad := by
  cases o with
  | none => rfl
  | some j => show some _ = some _; rw [h j rfl]
theorem xE_same {cy : Nat → ClassId} {ad ad' : Nat → Nat} {st st' : XS} {Ls : List Nat} (hc : xCl st Ls) (had : ∀ k ∈ Ls, ad' k = ad k) {k : Nat} (hk : k ∈ Ls) (hag : xAg st st' k) : xE cy ad' st' k = xE cy ad st k := by
  obtain ⟨h1, h2, h3, h4, h5⟩ := hag
  obtain ⟨c1, c2⟩ := hc k hk
  by_cases hkd : kd k < 9
  · rw [xE_ob (ci := kd k) rfl hkd, xE_ob (ci := kd k) rfl hkd]
    congr 2
    apply List.map_congr_left
    intro f hf
    obtain ⟨d1, d2⟩ := c1 hkd f (List.mem_range.mp hf)
    generalize hcd : fcd (kd k) f = o at d1 d2
    unfold fv
    split
    · rw [h1]
    · rw [h2]
    · rw [h3, xOpt (fun j hj => had j (d2 rfl j hj))]
    · next n0 n1 n2 =>
      rcases Nat.lt_or_ge o 10 with h | h
      · rw [show o - 10 = 0 by omega, Nat.add_zero, had k hk]
      · rw [had _ (d1 h)]
  · unfold xE
    split
    · next e => rw [h5, show (fun i => (gb st k i).map ad') = fun i => (gb st k i).map ad from funext fun i => xOpt (fun j hj => had j (c2 (Or.inl e) i j hj))]
    · next e => rw [h5, show (fun i => (gb st k i).map ad') = fun i => (gb st k i).map ad from funext fun i => xOpt (fun j hj => had j (c2 (Or.inr e) i j hj))]
    · rw [h4]
    · simp only [h2]
    · rw [if_neg hkd, if_neg hkd, h4]
section XGROW
variable {s : State} {H : Heap} {locs : List Loc} {D : va_G} {cy : Nat → ClassId} {ad ad' : Nat → Nat} {Ls N : List Nat} {A : Nat → Prop} {st st' : XS}
theorem x_grow (h : xH D cy ad Ls A s st H locs) {W : va_W} (hW : va_P D vwCl W H) (hWD : va_D A W) (hX : ∀ k ∈ Ls, ∀ (i : Nat) (q : Nat × va_E), W[i]? = some q → ad k ≠ q.1) (hcl : xCl st Ls) (had : ∀ k ∈ Ls, ad' k = ad k) (hag : ∀ k ∈ Ls, xAg st st' k) (hN : xws ad' N (xE cy ad' st') = W) : xH D cy ad' (Ls ++ N) A s st' H locs := by
  have e1 : xws ad' (Ls ++ N) (xE cy ad' st') = xws ad Ls (xE cy ad st) ++ W := by
    rw [← hN]
    unfold xws
    rw [List.map_append]
    congr 1
    apply List.map_congr_left
    intro k hk
    rw [had k hk, xE_same hcl had hk (hag k hk)]
  unfold xH
  rw [e1]
  refine ⟨h.1.app hW, h.2.1.app hWD ?_, h.2.2.1, h.2.2.2⟩
  intro i j a b ha hb
  unfold xws at ha
  rw [List.getElem?_map] at ha
  cases hk : Ls[i]? with
  | none => rw [hk] at ha; cases ha
  | some k =>
    rw [hk] at ha
    cases ha
    exact hX k (List.mem_of_getElem? hk) j b hb
/-- a typed heap stands where its cells are as they were -/
theorem x_kept {H1 : Heap} {locs1 : List Loc} (h : xH D cy ad Ls A s st H locs) (hq : ∀ k ∈ Ls, H1[ad k]? = H[ad k]?) (hS : va_S A s.heap H1 locs1) : xH D cy ad Ls A s st H1 locs1 := by
  refine ⟨h.1.kept fun k q hk => ?_, h.2.1, hS, h.2.2.2⟩
  unfold xws at hk
  rw [List.getElem?_map] at hk
  cases hj : Ls[k]? with
  | none => rw [hj] at hk; cases hk
  | some b => rw [hj] at hk; cases hk; exact hq b (List.mem_of_getElem? hj)
end XGROW
section XNEW
variable {p : Program} {l : Launch} {e : Env} {R : Room} {s : State} {m : MethodId} {args : Array Value} {below : List Frame} {meth : Method} {c : Code} {H : Heap} {locs : List Loc} {cells slots : Nat} {Q : State → Prop}
variable {cc : ByteArray} {pc nL : Nat} {ls : Array Slot} {rest : List Value} {D : va_G} {cy : Nat → ClassId} {ad : Nat → Nat} {Ls : List Nat} {A : Nat → Prop} {st : XS} {own : String}
/-- new; dup; <init> of a nest mate, over the typed heap: it stands, and what is made stands beside it -/
theorem x_newobj (C : xCx p m c cc nL s args own D cy) (h : xH D cy ad Ls A s st H locs) {Cn host : String} {T : u_T} {N ci ik ii mc ms : Nat} {y : MethodName} {bytes : ByteArray} {rm : Room} {fs : List Value} {B : Nat → Heap → va_W → Prop}
    (hc : vwCl[ci]? = some (Cn, T, N)) (ty : Nat → FieldType) (hty : ∀ k, k < N → parseFieldDescriptor (T k).2.2.1 = some (ty k)) (hin : ∀ w ∈ u_ws Cn T N, w ∈ TB) (w1 : Cond.classLink own ik Cn ∈ TB) (w2 : Cond.instantiable Cn N ∈ TB) (w3 : Cond.initialized Cn ∈ TB) (hfs : ∀ j, j < N → defaultValue (ty j) = vp_V fs j)
    (hM : ∀ q sz, Met l y (xw y bytes 1 none) rm (va_Pc [.ref q] (xRaw D cy [(q, .inr (ci, fs))] sz)) (va_Qv (fun _ : Unit => True) (fun _ t => ∃ Wd : va_W, B q t.heap Wd ∧ va_P D vwCl Wd t.heap ∧ va_D (va_A [(q, .inr (ci, fs))] sz) Wd ∧ va_K D vwCl (xtys cy) t) (va_A [(q, .inr (ci, fs))] sz)) mc ms (va_A [(q, .inr (ci, fs))] sz))
    (hrc : rm.cells = mc) (hrs : rm.slots = ms) (hrl : rm.locals = 40 * rm.frames) (hy : y.cls = Cn) (hyn : y.name = "<init>") (w4 : Cond.methodLinkNest own ii y host ∈ TN) (w5 : Cond.code y bytes 1 none ∈ TB) (w6 : Cond.instanceMethod y ∈ TB)
    (hd : y.cls ≠ "java/lang/invoke/MethodHandle" ∧ y.cls ≠ "java/lang/invoke/VarHandle" ∧ (parseMethodDescriptor y.desc).map (fun d => d.parameters.length) = some 0) (hR : rm.frames + 1 ≤ R.frames ∧ 40 * (rm.frames + 1) ≤ R.locals) (hf : cells + 1 + mc ≤ R.cells ∧ slots + N + ms ≤ R.slots) (hsz : ls.size = nL) (hrest : ((rest.map fun v => v.category).sum + 1) ≤ 8)
    (d0 : decode cc pc = .ok (.new ik, 3)) (d3 : decode cc (pc + 3) = .ok (.dup, 1)) (d4 : decode cc (pc + 4) = .ok (.invokespecial ii, 3))
    (kk : ∀ (q : Nat) (Wd : va_W) (H1 : Heap) (locs1 : List Loc), B q H1 Wd → xH D cy ad Ls A s st H1 locs1 → va_P D vwCl Wd H1 → va_D A Wd → (∀ k ∈ Ls, ∀ (i : Nat) (x : Nat × va_E), Wd[i]? = some x → ad k ≠ x.1) → W p l e R s m args below meth c H1 locs1 (cells + 1 + mc) (slots + N + ms) Q (F0 m (pc + 7) ls (.ref q :: rest))) : W p l e R s m args below meth c H locs cells slots Q (F0 m pc ls rest) := by
  have C' := C
  obtain ⟨hx, hb, hml, hown, hts, hK, hNn⟩ := C'
  refine va_new (ci := ci) (fs := fs) (C := Cn) (T := T) (N := N) hx hb hts hin ty hty hown (hts _ w1) (hts _ w2) (hts _ w3) hK h.1 h.2.1 h.2.2.1 h.2.2.2.1 hc hfs (by omega) (by omega) d0 (fun q H1 hP1 hD1 hS1 => ?_)
  refine lv_dup hx hb d3 rfl ?_
  have hlast : ((xws ad Ls (xE cy ad st)) ++ [(q, Sum.inr (ci, fs))])[(xws ad Ls (xE cy ad st)).length]? = some (q, Sum.inr (ci, fs)) := by rw [List.getElem?_append_right (Nat.le_refl _), Nat.sub_self]; rfl
  have hix : ∀ k ∈ Ls, ∃ q0, q0 < (xws ad Ls (xE cy ad st)).length ∧ (xws ad Ls (xE cy ad st))[q0]? = some (ad k, xE cy ad st k) ∧ ((xws ad Ls (xE cy ad st)) ++ [(q, Sum.inr (ci, fs))])[q0]? = some (ad k, xE cy ad st k) := by
    intro k hk
    obtain ⟨q0, hq0, hg⟩ := xws_get (ad := ad) (E := xE cy ad st) hk
    have hl := (List.getElem?_eq_some_iff.mp hg).1
    exact ⟨q0, hl, hg, by rw [List.getElem?_append_left hl]; exact hg⟩
  have hq : ∀ k ∈ Ls, ad k ≠ q := by
    intro k hk e
    obtain ⟨q0, h1, h2, h3⟩ := hix k hk
    have := hD1.1 q0 _ _ _ h3 hlast e
    omega
  have hlt : ∀ k ∈ Ls, ad k < H1.size := by
    intro k hk
    obtain ⟨q0, h1, h2, h3⟩ := hix k hk
    exact (hP1 q0 _ h3).lt
  have hPq : va_P D vwCl [(q, Sum.inr (ci, fs))] H1 := by
    intro k x hx
    have hz : k < 1 := (List.getElem?_eq_some_iff.mp hx).1
    rw [show k = 0 by omega] at hx
    cases hx
    exact hP1 _ _ hlast
  have hDq : va_D (fun _ => True) [(q, (Sum.inr (ci, fs) : va_E))] := by
    refine ⟨fun i j a b hi hj _ => ?_, fun _ _ _ => trivial⟩
    have h1 : i < 1 := (List.getElem?_eq_some_iff.mp hi).1
    have h2 : j < 1 := (List.getElem?_eq_some_iff.mp hj).1
    omega
  have hh1 : xH D cy ad Ls A s st H1 locs := by
    refine ⟨fun k x hx => hP1 k x ?_, h.2.1, hS1, h.2.2.2⟩
    rw [List.getElem?_append_left (List.getElem?_eq_some_iff.mp hx).1]; exact hx
  have hfr : ∀ x, va_A [(q, (Sum.inr (ci, fs) : va_E))] H1.size x → A x := by
    intro x hx
    rcases hx with ⟨k, ee, hx⟩ | hx
    · have hz : k < 1 := (List.getElem?_eq_some_iff.mp hx).1
      rw [show k = 0 by omega] at hx
      cases hx
      exact hD1.2 _ _ hlast
    · exact h.2.2.2.1 x (Nat.le_trans hS1.1 hx)
  have hna : ∀ k ∈ Ls, ¬ va_A [(q, (Sum.inr (ci, fs) : va_E))] H1.size (ad k) := by
    intro k hk hx
    rcases hx with ⟨j, ee, hx⟩ | hx
    · have hz : j < 1 := (List.getElem?_eq_some_iff.mp hx).1
      rw [show j = 0 by omega] at hx
      injection hx with hx
      exact hq k hk (congrArg Prod.fst hx).symm
    · have := hlt k hk; omega
  refine va_callv (va_runIN (As := []) (rest := .ref q :: rest) (Ts := TB) ⟨hx, hb, hml, hown, hts⟩ (hM q H1.size) ⟨x_cn (R := R) (n := 0) ⟨hx, hb, hml, hown, hts, hK, hNn⟩ hrc hrs hrl w4 (by rw [hy]; exact w3) w5 hd hR (by decide), hyn, hts _ w6⟩ ⟨xRaw_blind, fun U hU hW => ⟨rfl, by rw [hU], by rw [hU]; exact hPq, hDq, va_K.moved hW.alike hK, xN.warm hW hNn⟩⟩ rfl rfl hsz rfl (lv_room (by rw [List.map_cons, List.sum_cons, show (Value.ref q).category = 1 from rfl]; omega)) d4 ⟨by omega, by omega⟩) hS1 (fun x _ hx => hfr x hx) hfr (fun u t H2 locs2 ht hvm hw hB hz hk2 hS2 => ?_)
  obtain ⟨Wd, hBq, hPw, hDw, hKw⟩ := hB
  rw [ht] at hBq hPw
  exact kk q Wd H2 locs2 hBq (x_kept hh1 (fun k hk => hk2 _ (hlt k hk) (hna k hk)) hS2) hPw (hDw.weaken fun _ x _ hx => hfr x.1 hx) (fun k hk i x hx e => hna k hk (by rw [e]; exact hDw.2 i x hx))
end XNEW
