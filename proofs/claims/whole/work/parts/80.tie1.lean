/-! CLASS AND REFERENCE: THE SAME SEARCH, THE SAME LEAST MACHINE -/
theorem exI_all {k x0 : Nat} {A : Nat → Nat → Nat} {F L : Nat → Nat} {z p a : Nat} {V : Nat → Prop} (h : exI k A x0 F L z p a) (h0 : V x0) (hs : ∀ x b, V x → b < k → V (A x b)) : ∀ i, i < z → V (F i) := by
  obtain ⟨h1, h2, h3, h4, h5, h6, h7⟩ := h
  intro i
  induction i using Nat.strongRecOn with
  | _ i ih =>
    intro hi
    rcases Nat.eq_zero_or_pos i with e | e
    · rw [e, h3]; exact h0
    · obtain ⟨q, b, g1, g2, g3, g4⟩ := h6 i e hi
      have := (h5 q b g1 g2).2
      rw [g4] at this
      rw [this]
      exact hs _ _ (ih q g3 (by omega)) g1
theorem exI_map {k x0 y0 : Nat} {A B : Nat → Nat → Nat} {F L : Nat → Nat} {z p a : Nat} {V : Nat → Prop} {φ : Nat → Nat} (h : exI k A x0 F L z p a) (h0 : V x0) (hs : ∀ x b, V x → b < k → V (A x b)) (e0 : φ x0 = y0) (es : ∀ x b, V x → b < k → φ (A x b) = B (φ x) b) (ei : ∀ x y, V x → V y → φ x = φ y → x = y) (hp : ∀ q b, lx q b p a → q < z) : exI k B y0 (fun i => φ (F i)) L z p a := by
  have hV := exI_all h h0 hs
  obtain ⟨h1, h2, h3, h4, h5, h6, h7⟩ := h
  refine ⟨h1, h2, by show φ (F 0) = y0; rw [h3]; exact e0, fun i j hi hj e => h4 i j hi hj (ei _ _ (hV i hi) (hV j hj) e), fun q b hb hl => ?_, h6, h7⟩
  obtain ⟨g1, g2⟩ := h5 q b hb hl
  refine ⟨g1, ?_⟩
  dsimp only
  rw [g2]
  exact es _ _ (hV q (hp q b hl)) hb
theorem exI_step {k x0 : Nat} {A : Nat → Nat → Nat} {F L F' L' : Nat → Nat} {z p a z' p' a' : Nat} (h : exI k A x0 F L z p a) (h' : exI k A x0 F' L' z' p' a') :
    ∀ (j q b : Nat), q * k + b = j → b < k → lx q b p a → lx q b p' a' → q < z → q < z' → F q = F' q ∧ L (q * 4 + b) = L' (q * 4 + b) := by
  obtain ⟨h1, h2, h3, h4, h5, h6, h7⟩ := h
  obtain ⟨k1, k2, k3, k4, k5, k6, k7⟩ := h'
  intro j
  induction j using Nat.strongRecOn with
  | _ j ih =>
    intro q b hj hb hl hl' hq hq'
    have lt : ∀ q' b' q'' b'' , lx q' b' q'' b'' → lx q'' b'' p a → lx q' b' p a := by
      intro q' b' q'' b'' g1 g2
      rcases g1 with u | ⟨u, u'⟩ <;> rcases g2 with v | ⟨v, v'⟩
      · exact Or.inl (by omega)
      · exact Or.inl (by omega)
      · exact Or.inl (by omega)
      · exact Or.inr ⟨by omega, by omega⟩
    have lt' : ∀ q' b' q'' b'' , lx q' b' q'' b'' → lx q'' b'' p' a' → lx q' b' p' a' := by
      intro q' b' q'' b'' g1 g2
      rcases g1 with u | ⟨u, u'⟩ <;> rcases g2 with v | ⟨v, v'⟩
      · exact Or.inl (by omega)
      · exact Or.inl (by omega)
      · exact Or.inl (by omega)
      · exact Or.inr ⟨by omega, by omega⟩
    have seen : ∀ q' b', b' < k → lx q' b' q b → F q' = F' q' ∧ L (q' * 4 + b') = L' (q' * 4 + b') := by
      intro q' b' hb' g
      have hle : q' ≤ q := by rcases g with u | ⟨u, _⟩ <;> omega
      exact ih (q' * k + b') (by rw [← hj]; exact lex_lt hb' g) q' b' rfl hb' (lt _ _ _ _ g hl) (lt' _ _ _ _ g hl') (by omega) (by omega)
    have hF : F q = F' q := by
      rcases Nat.eq_zero_or_pos q with e | e
      · rw [e, h3, k3]
      · obtain ⟨q', b', g1, g2, g3, g4⟩ := h6 q e hq
        obtain ⟨f1, f2⟩ := seen q' b' g1 (Or.inl g3)
        have a1 := (h5 q' b' g1 g2).2
        have a2 := (k5 q' b' g1 (lt' _ _ _ _ (Or.inl g3) hl')).2
        rw [g4] at a1
        rw [← f2, g4] at a2
        rw [a1, a2, f1]
    refine ⟨hF, ?_⟩
    obtain ⟨a1, a2⟩ := h5 q b hb hl
    obtain ⟨b1, b2⟩ := k5 q b hb hl'
    -- a place that was met before, in either, is the same
    have key : ∀ x, x < L (q * 4 + b) ∨ x < L' (q * 4 + b) → x < z → x < z' → (0 < x → ∃ q' b', b' < k ∧ lx q' b' q b ∧ L (q' * 4 + b') = x ∧ L' (q' * 4 + b') = x) → F x = F' x := by
      intro x _ hx hx' hex
      rcases Nat.eq_zero_or_pos x with e | e
      · rw [e, h3, k3]
      · obtain ⟨q', b', g1, g2, g3, g4⟩ := hex e
        obtain ⟨f1, f2⟩ := seen q' b' g1 g2
        have u1 := (h5 q' b' g1 (lt _ _ _ _ g2 hl)).2
        have u2 := (k5 q' b' g1 (lt' _ _ _ _ g2 hl')).2
        rw [g3] at u1
        rw [g4] at u2
        rw [u1, u2, f1]
    rcases Nat.lt_trichotomy (L (q * 4 + b)) (L' (q * 4 + b)) with hlt | heq | hgt
    · exfalso
      have hx' : L (q * 4 + b) < z' := by omega
      have e := key (L (q * 4 + b)) (Or.inr hlt) a1 hx' (fun hp => by
        obtain ⟨q', b', g1, g2, g3⟩ := k7 q b hb hl' _ hp hlt
        exact ⟨q', b', g1, g2, by rw [(seen q' b' g1 g2).2]; exact g3, g3⟩)
      have := k4 _ _ hx' b1 (by rw [← e, a2, b2, hF])
      omega
    · exact heq
    · exfalso
      have hx : L' (q * 4 + b) < z := by omega
      have e := key (L' (q * 4 + b)) (Or.inl hgt) hx b1 (fun hp => by
        obtain ⟨q', b', g1, g2, g3⟩ := h7 q b hb hl _ hp hgt
        exact ⟨q', b', g1, g2, g3, by rw [← (seen q' b' g1 g2).2]; exact g3⟩)
      have := h4 _ _ hx a1 (by rw [e, a2, b2, hF])
      omega
theorem exI_F {k x0 : Nat} {A : Nat → Nat → Nat} {F L F' L' : Nat → Nat} {z p a z' p' a' : Nat} (h : exI k A x0 F L z p a) (h' : exI k A x0 F' L' z' p' a') {x : Nat} (hx : x < z) (hx' : x < z') (hl : ∀ q b, b < k → q < x → lx q b p a → lx q b p' a') : F x = F' x := by
  rcases Nat.eq_zero_or_pos x with e | e
  · rw [e, h.2.2.1, h'.2.2.1]
  · obtain ⟨q', b', g1, g2, g3, g4⟩ := h.2.2.2.2.2.1 x e hx
    have g5 := hl q' b' g1 g3 g2
    obtain ⟨f1, f2⟩ := exI_step h h' _ q' b' rfl g1 g2 g5 (by omega) (by omega)
    have a1 := (h.2.2.2.2.1 q' b' g1 g2).2
    have a2 := (h'.2.2.2.2.1 q' b' g1 g5).2
    rw [g4] at a1
    rw [← f2, g4] at a2
    rw [a1, a2, f1]
theorem exI_le {k x0 : Nat} {A : Nat → Nat → Nat} {F L F' L' : Nat → Nat} {z z' p' a' : Nat} (h : exI k A x0 F L z z 0) (h' : exI k A x0 F' L' z' p' a') : z' ≤ z := by
  rcases Nat.lt_or_ge z z' with q | q
  · exfalso
    obtain ⟨q', b', g1, g2, g3, g4⟩ := h'.2.2.2.2.2.1 z h.1 q
    obtain ⟨f1, f2⟩ := exI_step h h' _ q' b' rfl g1 (Or.inl (by omega)) g2 (by omega) (by omega)
    have := (h.2.2.2.2.1 q' b' g1 (Or.inl (by omega))).1
    omega
  · exact q
/-- two searches that came to their ends are the same -/
theorem exI_uniq {k x0 : Nat} {A : Nat → Nat → Nat} {F L F' L' : Nat → Nat} {z z' : Nat} (h : exI k A x0 F L z z 0) (h' : exI k A x0 F' L' z' z' 0) : z = z' ∧ (∀ i, i < z → F i = F' i) ∧ ∀ q b, q < z → b < k → L (q * 4 + b) = L' (q * 4 + b) := by
  have e : z = z' := Nat.le_antisymm (exI_le h' h) (exI_le h h')
  subst e
  refine ⟨rfl, fun i hi => exI_F h h' hi hi (fun q b _ _ g => g), fun q b hq hb => (exI_step h h' _ q b rfl hb (Or.inl hq) (Or.inl hq) hq hq).2⟩
/-- one that came to its end, and one that has too many places: never both -/
theorem exI_not {k x0 : Nat} {A : Nat → Nat → Nat} {F L F' L' : Nat → Nat} {z p0 a0 : Nat} (h : exI k A x0 F L z z 0) (h' : exI k A x0 F' L' 200 p0 a0) (hp : p0 < 200) (ha : a0 < k) (hn : ∀ i, i < 200 → F' i ≠ A (F' p0) a0) : False := by
  have e1 := exI_le h h'
  have e2 := h.2.1
  have e : z = 200 := by omega
  subst e
  have hF : ∀ x, x < 200 → F' x = F x := fun x hx => exI_F h' h hx hx (fun q b _ g _ => Or.inl (by omega))
  obtain ⟨g1, g2⟩ := h.2.2.2.2.1 p0 a0 ha (Or.inl hp)
  refine hn _ g1 ?_
  rw [hF _ g1, g2, hF _ hp]
/-- places that are come to in their order: each by a text -/
theorem ord_tx {k z : Nat} {d : Nat → Nat → Nat} (hO1 : ∀ x, 0 < x → x < z → ∃ q b, q < x ∧ b < k ∧ d q b = x) : ∀ x, x < z → ∃ u, tx k u ∧ dr d 0 u = x := by
  intro x
  induction x using Nat.strongRecOn with
  | _ x ih =>
    intro hx
    rcases Nat.eq_zero_or_pos x with e | e
    · exact ⟨[], tx_nil, e.symm⟩
    · obtain ⟨q, b, g1, g2, g3⟩ := hO1 x e hx
      obtain ⟨u, hu, eu⟩ := ih q g1 (by omega)
      exact ⟨u ++ [b], tx_app.mpr ⟨hu, tx_one g2⟩, by rw [dr_app, eu]; exact g3⟩
theorem lst_rls {k z n E : Nat} {L : Nat → Nat} {Z : Nat → Bool} {f : Nat → Int32} {st : Nat → Nat → Nat} (hz : 0 < z) (hd : ∀ p a, p < z → a < k → dL L p a < z) (hO1 : ∀ x, 0 < x → x < z → ∃ q b, q < x ∧ b < k ∧ dL L q b = x) (hO2 : ∀ p a, p < z → a < k → ∀ x, 0 < x → x < dL L p a → ∃ q b, b < k ∧ (q < p ∨ (q = p ∧ b < a)) ∧ dL L q b = x) (h : lst k z L Z n E f st) : rls k (lng L Z) n E st := by
  obtain ⟨⟨_, h2⟩, hm, K, ⟨hf, hn⟩, hs, hE⟩ := h
  obtain ⟨c1, c2⟩ := can_quo (fin := fun s => E.testBit s) hz hd hO1 hO2 hf hn hs hE
  have h0 : K 0 = 0 := by
    rcases Nat.eq_zero_or_pos (K 0) with e | e
    · exact e
    · obtain ⟨q, g, _⟩ := hf.2.2.1 0 hz 0 e
      omega
  refine ⟨c1, h2, hm.2.2.2.1, fun u hu => ?_⟩
  have := c2 0 hz u hu
  rw [h0] at this
  exact this
theorem tooM_L {k z : Nat} {L : Nat → Nat} {Z : Nat → Bool} (hO1 : ∀ x, 0 < x → x < z → ∃ q b, q < x ∧ b < k ∧ dL L q b = x) (h : tooM k z L Z) : tooL k (lng L Z) := by
  obtain ⟨Dd, h1, h2⟩ := h
  have hch : ∀ i, ∃ u, i < 41 → tx k u ∧ dr (dL L) 0 u = Dd i := by
    intro i
    by_cases hi : i < 41
    · obtain ⟨u, hu, e⟩ := ord_tx hO1 (Dd i) (h1 i hi)
      exact ⟨u, fun _ => ⟨hu, e⟩⟩
    · exact ⟨[], fun e => absurd e hi⟩
  obtain ⟨U, hU⟩ := Classical.axiomOfChoice hch
  refine ⟨U, fun i hi => (hU i hi).1, fun i j hi hj e => h2 i j hi hj (fun v hv => ?_)⟩
  have := e v hv
  rw [lng, lng, dr_app, dr_app, (hU i hi).2, (hU j hj).2] at this
  exact this
theorem exI_ord {k x0 : Nat} {A : Nat → Nat → Nat} {F L : Nat → Nat} {z : Nat} (h : exI k A x0 F L z z 0) : (∀ p a, p < z → a < k → dL L p a < z) ∧ (∀ x, 0 < x → x < z → ∃ q b, q < x ∧ b < k ∧ dL L q b = x) ∧ ∀ p a, p < z → a < k → ∀ x, 0 < x → x < dL L p a → ∃ q b, b < k ∧ (q < p ∨ (q = p ∧ b < a)) ∧ dL L q b = x := by
  obtain ⟨h1, h2, h3, h4, h5, h6, h7⟩ := h
  refine ⟨fun p a hp ha => (h5 p a ha (Or.inl hp)).1, fun x e hx => ?_, fun p a hp ha x e hx => ?_⟩
  · obtain ⟨q, b, g1, g2, g3, g4⟩ := h6 x e hx
    exact ⟨q, b, g3, g1, g4⟩
  · exact h7 p a ha (Or.inl hp) x e hx
/-- texts told alike by places that step alike -/
theorem sim_tx {k : Nat} {d d' : Nat → Nat → Nat} {Z Z' : Nat → Bool} {R : Nat → Nat → Prop} (hs : ∀ x y b, R x y → b < k → R (d x b) (d' y b)) (hz : ∀ x y, R x y → Z x = Z' y) : ∀ (u : List Nat) (x y : Nat), R x y → tx k u → Z (dr d x u) = Z' (dr d' y u)
  | [], x, y, h, _ => hz x y h
  | b :: u, x, y, h, hu => sim_tx hs hz u _ _ (hs x y b h (tx_cons.mp hu).1) (tx_cons.mp hu).2
/-- the texts of a search, by its rule alone -/
theorem exI_tx {k x0 : Nat} {A : Nat → Nat → Nat} {F L : Nat → Nat} {Z Zf : Nat → Bool} {z : Nat} (h : exI k A x0 F L z z 0) (hZ : ∀ i, i < z → Z i = Zf (F i)) (u : List Nat) (hu : tx k u) : lng L Z u = Zf (dr A x0 u) := by
  refine sim_tx (R := fun x y => x < z ∧ F x = y) (fun x y b hr hb => ?_) (fun x y hr => ?_) u 0 x0 ⟨h.1, h.2.2.1⟩ hu
  · obtain ⟨g1, g2⟩ := h.2.2.2.2.1 x b hb (Or.inl hr.1)
    exact ⟨g1, by rw [← hr.2]; exact g2⟩
  · rw [hZ x hr.1, hr.2]
/-- keeping a least machine: what is answered, and what stands then -/
def kpD (k mn : Nat) (Sz En Nx : Nat → Nat) (g : List Nat → Bool) (r : Int32) (mn' : Nat) (Sz' En' Nx' : Nat → Nat) : Prop :=
  (tooL k g ∧ r = -4 ∧ mn' = mn ∧ Sz' = Sz ∧ En' = En ∧ Nx' = Nx) ∨ ∃ n E st, rls k g n E st ∧
    ((∃ i0, (i0 < mn ∧ rsam Sz En Nx k i0 n E st ∧ ∀ j, j < i0 → ¬ rsam Sz En Nx k j n E st) ∧ r = nI i0 ∧ mn' = mn ∧ Sz' = Sz ∧ En' = En ∧ Nx' = Nx) ∨
     (mn = 60 ∧ (∀ j, j < mn → ¬ rsam Sz En Nx k j n E st) ∧ r = -3 ∧ mn' = mn ∧ Sz' = Sz ∧ En' = En ∧ Nx' = Nx) ∨
     ((mn < 60 ∧ (∀ j, j < mn → ¬ rsam Sz En Nx k j n E st) ∧ (∀ q b, q < n → b < k → nxt Nx' mn q b = st q b) ∧ ∀ x, x < 160 * mn → Nx' x = Nx x) ∧ r = nI mn ∧ mn' = mn + 1 ∧ Sz' = nu Sz mn n ∧ En' = nu En mn E))
/-- the same machines stand -/
def sMc (k mn : Nat) (Sz En Nx Sz' En' Nx' : Nat → Nat) : Prop := ∀ i, i < mn → Sz i = Sz' i ∧ En i = En' i ∧ ∀ q b, q < Sz i → b < k → nxt Nx i q b = nxt Nx' i q b
theorem sMc_rfl {k mn : Nat} {Sz En Nx : Nat → Nat} : sMc k mn Sz En Nx Sz En Nx := fun _ _ => ⟨rfl, rfl, fun _ _ _ _ => rfl⟩
theorem rsam_cg {Sz En Nx : Nat → Nat} {k i n E n2 E2 : Nat} {st st2 : Nat → Nat → Nat} (e1 : n = n2) (e2 : E = E2) (e3 : ∀ q b, q < n → b < k → st q b = st2 q b) : rsam Sz En Nx k i n E st ↔ rsam Sz En Nx k i n2 E2 st2 := by
  subst e1; subst e2
  exact ⟨fun h => ⟨h.1, h.2.1, fun q b hq hb => (h.2.2 q b hq hb).trans (e3 q b hq hb)⟩, fun h => ⟨h.1, h.2.1, fun q b hq hb => (h.2.2 q b hq hb).trans (e3 q b hq hb).symm⟩⟩
theorem kpD_det {k mn : Nat} {Sz En Nx : Nat → Nat} {g g2 : List Nat → Bool} {r r2 : Int32} {mn1 mn2 : Nat} {Sz1 En1 Nx1 Sz2 En2 Nx2 : Nat → Nat} (hk : 0 < k) (hmn : mn ≤ 60) (hSz : k ≤ 4 ∧ ∀ i, i < mn → Sz i ≤ 40) (hg : ∀ u, tx k u → g u = g2 u) (h : kpD k mn Sz En Nx g r mn1 Sz1 En1 Nx1) (h2 : kpD k mn Sz En Nx g2 r2 mn2 Sz2 En2 Nx2) : r = r2 ∧ mn1 = mn2 ∧ sMc k mn1 Sz1 En1 Nx1 Sz2 En2 Nx2 := by
  rcases h with ⟨a1, a2, a3, a4, a5, a6⟩ | ⟨n, E, st, hr, h⟩
  · rcases h2 with ⟨b1, b2, b3, b4, b5, b6⟩ | ⟨n2, E2, st2, hr2, h2⟩
    · subst a3; subst a4; subst a5; subst a6; subst b4; subst b5; subst b6
      exact ⟨by rw [a2, b2], b3.symm, sMc_rfl⟩
    · exact (rls_too hr2 a1 (fun u hu => (hg u hu).symm)).elim
  · rcases h2 with ⟨b1, b2, b3, b4, b5, b6⟩ | ⟨n2, E2, st2, hr2, h2⟩
    · exact (rls_too hr b1 hg).elim
    · obtain ⟨e1, e2, e3⟩ := rls_uniq hk hr hr2 hg
      have cg := fun i => rsam_cg (Sz := Sz) (En := En) (Nx := Nx) (k := k) (i := i) e1 e2 e3
      rcases h with ⟨i0, ⟨p1, p2, p3⟩, p4, p5, p6, p7, p8⟩ | ⟨p1, p2, p3, p4, p5, p6, p7⟩ | ⟨⟨p1, p2, p3, p4⟩, p5, p6, p7, p8⟩
      · rcases h2 with ⟨i1, ⟨q1, q2, q3⟩, q4, q5, q6, q7, q8⟩ | ⟨q1, q2, q3, q4, q5, q6, q7⟩ | ⟨⟨q1, q2, q3, q4⟩, q5, q6, q7, q8⟩
        · have : i0 = i1 := by
            rcases Nat.lt_trichotomy i0 i1 with u | u | u
            · exact absurd ((cg i0).mp p2) (q3 i0 u)
            · exact u
            · exact absurd ((cg i1).mpr q2) (p3 i1 u)
          subst this
          rw [p6, p7, p8, q6, q7, q8]
          exact ⟨by rw [p4, q4], by rw [p5, q5], sMc_rfl⟩
        · exact absurd ((cg i0).mp p2) (q2 i0 p1)
        · exact absurd ((cg i0).mp p2) (q2 i0 p1)
      · rcases h2 with ⟨i1, ⟨q1, q2, q3⟩, q4, q5, q6, q7, q8⟩ | ⟨q1, q2, q3, q4, q5, q6, q7⟩ | ⟨⟨q1, q2, q3, q4⟩, q5, q6, q7, q8⟩
        · exact absurd ((cg i1).mpr q2) (p2 i1 q1)
        · rw [p5, p6, p7, q5, q6, q7]
          exact ⟨by rw [p3, q3], by rw [p4, q4], sMc_rfl⟩
        · omega
      · rcases h2 with ⟨i1, ⟨q1, q2, q3⟩, q4, q5, q6, q7, q8⟩ | ⟨q1, q2, q3, q4, q5, q6, q7⟩ | ⟨⟨q1, q2, q3, q4⟩, q5, q6, q7, q8⟩
        · exact absurd ((cg i1).mpr q2) (p2 i1 q1)
        · omega
        · refine ⟨by rw [p5, q5], by rw [p6, q6], fun i hi => ?_⟩
          rw [p7, p8, q7, q8]
          by_cases e : i = mn
          · subst e
            rw [nu_s, nu_s, nu_s, nu_s]
            exact ⟨e1, e2, fun q b hq hb => by rw [p3 q b hq hb, q3 q b (by omega) hb]; exact e3 q b hq hb⟩
          · rw [nu_n e, nu_n e, nu_n e, nu_n e]
            refine ⟨rfl, rfl, fun q b hq hb => ?_⟩
            have : i < mn := by omega
            have := hSz.2 i this
            have := hSz.1
            rw [nxt, nxt, p4 _ (by omega), q4 _ (by omega)]
/-- what a search and a keeping give: answer, machines, how many places were come to -/
def opX (k mn : Nat) (Sz En Nx : Nat → Nat) (A : Nat → Nat → Nat) (x0 : Nat) (Zf : Nat → Bool) (r : Int32) (mn' : Nat) (Sz' En' Nx' : Nat → Nat) (ca' : Nat) : Prop :=
  (∃ F L z Z, exI k A x0 F L z z 0 ∧ (∀ i, i < z → Z i = Zf (F i)) ∧ ca' = z ∧ kpD k mn Sz En Nx (lng L Z) r mn' Sz' En' Nx') ∨
  (∃ F L p0 a0, (exI k A x0 F L 200 p0 a0 ∧ p0 < 200 ∧ a0 < k ∧ ∀ i, i < 200 → F i ≠ A (F p0) a0) ∧ r = -4 ∧ ca' = 201 ∧ mn' = mn ∧ Sz' = Sz ∧ En' = En ∧ Nx' = Nx)
theorem opX_det {k mn : Nat} {Sz En Nx : Nat → Nat} {A : Nat → Nat → Nat} {x0 : Nat} {Zf Zf2 : Nat → Bool} {r r2 : Int32} {mn1 mn2 ca1 ca2 : Nat} {Sz1 En1 Nx1 Sz2 En2 Nx2 : Nat → Nat} {V : Nat → Prop} (hk : 0 < k) (hmn : mn ≤ 60) (hSz : k ≤ 4 ∧ ∀ i, i < mn → Sz i ≤ 40) (h0 : V x0) (hs : ∀ x b, V x → b < k → V (A x b)) (hZ : ∀ x, V x → Zf x = Zf2 x) (h : opX k mn Sz En Nx A x0 Zf r mn1 Sz1 En1 Nx1 ca1) (h2 : opX k mn Sz En Nx A x0 Zf2 r2 mn2 Sz2 En2 Nx2 ca2) : r = r2 ∧ mn1 = mn2 ∧ ca1 = ca2 ∧ sMc k mn1 Sz1 En1 Nx1 Sz2 En2 Nx2 := by
  rcases h with ⟨F, L, z, Z, a1, a2, a3, a4⟩ | ⟨F, L, p0, a0, ⟨a1, a2, a3, a4⟩, a5, a6, a7, a8, a9, a10⟩
  · rcases h2 with ⟨F', L', z', Z', b1, b2, b3, b4⟩ | ⟨F', L', p0', a0', ⟨b1, b2, b3, b4⟩, _⟩
    · obtain ⟨e1, _, _⟩ := exI_uniq a1 b1
      have hV : ∀ u, tx k u → V (dr A x0 u) := by
        intro u
        have : ∀ (u : List Nat) (x : Nat), V x → tx k u → V (dr A x u) := by
          intro u
          induction u with
          | nil => intro x hx _; exact hx
          | cons b u ih => intro x hx hu; exact ih _ (hs x b hx (tx_cons.mp hu).1) (tx_cons.mp hu).2
        exact this u x0 h0
      obtain ⟨r1, r2, r3⟩ := kpD_det hk hmn hSz (fun u hu => by rw [exI_tx a1 a2 u hu, exI_tx b1 b2 u hu]; exact hZ _ (hV u hu)) a4 b4
      exact ⟨r1, r2, by omega, r3⟩
    · exact (exI_not a1 b1 b2 b3 b4).elim
  · rcases h2 with ⟨F', L', z', Z', b1, b2, b3, b4⟩ | ⟨F', L', p0', a0', ⟨b1, b2, b3, b4⟩, b5, b6, b7, b8, b9, b10⟩
    · exact (exI_not b1 a1 a2 a3 a4).elim
    · rw [a8, a9, a10, b8, b9, b10]
      exact ⟨by rw [a5, b5], by rw [a7, b7], by omega, sMc_rfl⟩
