/-! ===== the law's own methods: contracts that may make cells; rows for a while; the script ===== -/
/-- a contract that makes mc cells of ms slots at most, and throws nothing -/
def xAi (l : Launch) (y : MethodName) (bytes : ByteArray) (maxL : Nat) (ret : Option FieldType) (n mc ms : Nat) (D : va_G) (cy : Nat → ClassId) (ad : Nat → Nat) (Ls : List Nat) (st : XS) (av : List Value) (post : Int32 → XS → Prop) : Prop :=
  ∀ sz, Met l y (xw y bytes maxL ret) (xRX n mc ms) (va_Pc av (xPre D cy ad Ls sz st)) (va_Qi post (fun u => xPost D cy ad Ls (XA ad Ls sz) u) (XA ad Ls sz)) mc ms (XA ad Ls sz)
section XAI
variable {p : Program} {l : Launch} {e : Env} {R : Room} {s : State} {m : MethodId} {args : Array Value} {below : List Frame} {meth : Method} {c : Code} {H : Heap} {locs : List Loc} {cells slots : Nat} {Q : State → Prop}
variable {cc : ByteArray} {pc nL : Nat} {ls : Array Slot} {rest : List Value} {D : va_G} {cy : Nat → ClassId} {ad ad2 : Nat → Nat} {Ls N : List Nat} {A : Nat → Prop} {st u : XS} {own : String} {st0 : List Value} {mc ms : Nat}
theorem x_fiA {a : Array Value} {post : Int32 → XS → Prop} (h : xH D cy ad Ls A s st H locs) (hr : va_Run p l e R s m args below meth c H locs cells slots mc ms (F0 m pc ls st0) rest (va_Qi post (fun u => xPost D cy ad Ls (XA ad Ls H.size) u) (XA ad Ls H.size) a) (XA ad Ls H.size))
    (kk : ∀ (r : Int32) (u : XS) (H1 : Heap) (locs1 : List Loc), post r u → xH D cy ad Ls A s u H1 locs1 → W p l e R s m args below meth c H1 locs1 (cells + mc) (slots + ms) Q (F0 m (pc + 3) ls (.int r :: rest))) : W p l e R s m args below meth c H locs cells slots Q (F0 m pc ls st0) :=
  va_calli hr h.2.2.1 (fun q _ hq => xH_sub h q hq) (fun q hq => xH_sub h q hq) (fun r u t H1 locs1 ht _ hp hB _ _ hS => kk r u H1 locs1 hp (x_after h ht hB hS))
theorem x_icmp_eq_t {x y : Int32} {off : Int} {tgt : Nat} (hx : p.tables.exec = Jvm.exec) (hb : c.code = cc) (hdg : decode cc pc = .ok (.if_icmp .eq off, 3)) (ht : (pc : Int) + off = (tgt : Int)) (h : x = y) (k : W p l e R s m args below meth c H locs cells slots Q (F0 m tgt ls rest)) : W p l e R s m args below meth c H locs cells slots Q (F0 m pc ls (.int y :: .int x :: rest)) :=
  lv_icmp_eq hx hb hdg ht (fun _ => k) (fun z => absurd h z)
theorem x_icmp_ne_f {x y : Int32} {off : Int} {tgt : Nat} (hx : p.tables.exec = Jvm.exec) (hb : c.code = cc) (hdg : decode cc pc = .ok (.if_icmp .ne off, 3)) (ht : (pc : Int) + off = (tgt : Int)) (h : x = y) (k : W p l e R s m args below meth c H locs cells slots Q (F0 m (pc + 3) ls rest)) : W p l e R s m args below meth c H locs cells slots Q (F0 m pc ls (.int y :: .int x :: rest)) :=
  lv_icmp_ne hx hb hdg ht (fun z => absurd h z) (fun _ => k)
theorem exK_0 {k : Nat} {L : List String} {E : String} (h : k = 0) : ¬ exK k L E := by
  subst h; rintro ⟨j, hj, _⟩; omega
/-- no throw can come -/
theorem x_noX {fr : JFrame} {k : Nat} {L : List String} (h : k = 0) : xKx p l e R s m args below meth c cells slots Q D cy ad Ls A st (fun E => exK k L E) fr :=
  fun _ _ _ _ _ hE => absurd hE (exK_0 h)
theorem x_agrf (st : XS) (k : Nat) : xAg st st k := ⟨fun _ => rfl, fun _ => rfl, fun _ => rfl, rfl, rfl⟩
theorem x_agsa {st : XS} {k j : Nat} {f : Nat → Int32} (h : k ≠ j) : xAg st (sa st j f) k := ⟨fun _ => rfl, fun _ => rfl, fun _ => rfl, by rw [ga_sa, if_neg h], rfl⟩
theorem x_agsa' {st : XS} {k j : Nat} {f : Nat → Int32} (h : k ≠ j) : xAg (sa st j f) st k := ⟨fun _ => rfl, fun _ => rfl, fun _ => rfl, by rw [ga_sa, if_neg h], rfl⟩
/-- labels behind are let go, and the state told as it is at those that stay -/
theorem x_back (h : xH D cy ad2 (Ls ++ N) A s u H locs) (had : ∀ k ∈ Ls, ad2 k = ad k) (hag : ∀ k ∈ Ls, xAg st u k) (hcl : xCl st Ls) : xH D cy ad Ls A s st H locs := by
  have e1 : xws ad2 (Ls ++ N) (xE cy ad2 u) = xws ad Ls (xE cy ad st) ++ xws ad2 N (xE cy ad2 u) := by
    unfold xws
    rw [List.map_append]
    congr 1
    apply List.map_congr_left
    intro k hk
    rw [had k hk, xE_same hcl had hk (hag k hk)]
  obtain ⟨h1, h2, h3⟩ := h
  rw [e1] at h1 h2
  have hl : ∀ (i : Nat) (q : Nat × va_E), (xws ad Ls (xE cy ad st))[i]? = some q → (xws ad Ls (xE cy ad st) ++ xws ad2 N (xE cy ad2 u))[i]? = some q := fun i q hq => by
    rw [List.getElem?_append_left (List.getElem?_eq_some_iff.mp hq).1]; exact hq
  exact ⟨fun i q hq => h1 i q (hl i q hq), ⟨fun i j a b hi hj => h2.1 i j a b (hl i a hi) (hl j b hj), fun i q hq => h2.2 i q (hl i q hq)⟩, h3⟩
theorem xCl_app {k n : Nat} (hcl : xCl st Ls) (hkd : kd k = 100 + n) (hag : ∀ j ∈ Ls, xAg st u j) : xCl u (Ls ++ [k]) := by
  intro j hj
  rcases List.mem_append.mp hj with hj | hj
  · obtain ⟨c1, c2⟩ := hcl j hj
    obtain ⟨g1, g2, g3, g4, g5⟩ := hag j hj
    exact ⟨fun a f hf => ⟨fun q => List.mem_append_left _ ((c1 a f hf).1 q), fun q i hi => List.mem_append_left _ ((c1 a f hf).2 q i (by rw [← g3]; exact hi))⟩, fun a i q hq => List.mem_append_left _ (c2 a i q (by rw [← g5]; exact hq))⟩
  · rw [List.mem_singleton.mp hj]
    exact ⟨fun a => absurd a (by omega), fun a => absurd a (by omega)⟩
/-- a new row of ints, at a label that wasn't there -/
theorem x_mkI (C : xCx p m c cc nL s args own D cy) (h : xH D cy ad Ls A s st H locs) (hcl : xCl st Ls) {k n : Nat} (hk : k ∉ Ls) (hkd : kd k = 100 + n) (hn : n < 2 ^ 20) (hcells : cells + 1 ≤ R.cells) (hslots : slots + n ≤ R.slots) (hdg : decode cc pc = .ok (.newarray .int, 2))
    (kk : ∀ (ad2 : Nat → Nat) (H1 : Heap), (∀ j ∈ Ls, ad2 j = ad j) → xH D cy ad2 (Ls ++ [k]) A s (sa st k (fun _ => 0)) H1 locs → xCl (sa st k (fun _ => 0)) (Ls ++ [k]) → W p l e R s m args below meth c H1 locs (cells + 1) (slots + n) Q (F0 m (pc + 2) ls (.ref (ad2 k) :: rest))) : W p l e R s m args below meth c H locs cells slots Q (F0 m pc ls (.int (nI n) :: rest)) := by
  have C' := C
  obtain ⟨hx, hb, hml, hown, hts, hK, hNn⟩ := C'
  refine x_newaI hx hb (hts _ ac_int) hK h.1 h.2.1 h.2.2.1 h.2.2.2.1 n rfl hn hcells hslots hdg (fun q H1 g1 g2 g3 => ?_)
  have hkk : ∀ j ∈ Ls, j ≠ k := fun j hj e => hk (e ▸ hj)
  obtain ⟨ad2, ea⟩ : ∃ f : Nat → Nat, f = fun z => if z = k then q else ad z := ⟨_, rfl⟩
  have eq2 : ad2 k = q := by rw [ea]; exact if_pos rfl
  have hne : ∀ j ∈ Ls, ad2 j = ad j := fun j hj => by rw [ea]; exact if_neg (hkk j hj)
  have e1 : xws ad2 (Ls ++ [k]) (xE cy ad2 (sa st k (fun _ => 0))) = xws ad Ls (xE cy ad st) ++ [(q, .inl (cy 0, n, .inl (fun _ => 0)))] := by
    unfold xws
    rw [List.map_append]
    congr 1
    · apply List.map_congr_left
      intro j hj
      rw [hne j hj, xE_same hcl hne hj (x_agsa (hkk j hj))]
    · rw [List.map_cons, List.map_nil, eq2, xE_row hkd, ga_self]
  have h1 : xH D cy ad2 (Ls ++ [k]) A s (sa st k (fun _ => 0)) H1 locs := by
    unfold xH
    rw [e1]
    exact ⟨g1, g2, g3, h.2.2.2⟩
  have := kk ad2 H1 hne h1 (xCl_app hcl hkd (fun j hj => x_agsa (hkk j hj)))
  rw [eq2] at this
  exact this
end XAI
/-- the script -/
def xScr (b L : Nat) (xs : Nat → Int32) : xEt := fun A U H => va_T .int b L (fun j => .int (xs j)) A U H
theorem xScr_ok (b L : Nat) (xs : Nat → Int32) : xEok (xScr b L xs) :=
  ⟨fun _ _ _ _ hW h => va_T.moved hW.alike h, fun _ u U _ hv h => va_T.moved (by rw [hv]; exact Vm.Alike.refl u.vm) h, fun _ _ _ _ hq h => va_T.kept h hq, fun _ _ _ _ hAB h => va_T.narrow h hAB⟩
def celF (L : Nat) (xs : Nat → Int32) (k : Nat) : Int32 := if k < L then xs k else 1000308311 * nI (k + 1) + 751363485
def lowN (v : Int32) (n : Nat) : Nat := v.toBitVec.toNat % 2 ^ 31 % n
theorem lowN_lt {v : Int32} {n : Nat} (h : 0 < n) : lowN v n < n := Nat.mod_lt _ h
theorem lowN_e {v : Int32} {n : Nat} (h : 0 < n) (hn : n < 2 ^ 31) : (v &&& 2147483647) - (v &&& 2147483647) / nI n * nI n = nI (lowN v n) := by
  rw [pk_and v 31 (by decide)]
  exact pk_rem (Nat.mod_lt _ (by decide)) h hn
