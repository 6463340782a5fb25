/-! LEAST MACHINES: a machine whose states are told apart by texts and numbered as they are come to is known by its texts -/
def dr (st : Nat → Nat → Nat) (s : Nat) : List Nat → Nat
  | [] => s
  | a :: t => dr st (st s a) t
def tx (k : Nat) (t : List Nat) : Prop := ∀ a ∈ t, a < k
theorem tx_nil {k : Nat} : tx k [] := fun _ h => by cases h
theorem tx_cons {k a : Nat} {t : List Nat} : tx k (a :: t) ↔ a < k ∧ tx k t := by simp [tx]
theorem tx_app {k : Nat} {u v : List Nat} : tx k (u ++ v) ↔ tx k u ∧ tx k v := by
  simp only [tx, List.mem_append]
  exact ⟨fun h => ⟨fun a ha => h a (Or.inl ha), fun a ha => h a (Or.inr ha)⟩, fun h a ha => ha.elim (h.1 a) (h.2 a)⟩
theorem tx_one {k a : Nat} (h : a < k) : tx k [a] := tx_cons.mpr ⟨h, tx_nil⟩
theorem dr_app {st : Nat → Nat → Nat} : ∀ (u v : List Nat) (s : Nat), dr st s (u ++ v) = dr st (dr st s u) v
  | [], _, _ => rfl
  | a :: u, v, s => dr_app u v (st s a)
theorem dr_lt {st : Nat → Nat → Nat} {k n : Nat} (h : ∀ s a, s < n → a < k → st s a < n) : ∀ (u : List Nat) (s : Nat), s < n → tx k u → dr st s u < n
  | [], _, hs, _ => hs
  | a :: u, s, hs, hu => dr_lt h u (st s a) (h s a hs (tx_cons.mp hu).1) (tx_cons.mp hu).2
/-- n states, told apart, all come to, and numbered so -/
def can (k n : Nat) (st : Nat → Nat → Nat) (fin : Nat → Bool) : Prop :=
  0 < n ∧ (∀ s a, s < n → a < k → st s a < n) ∧ (∀ x y, x < n → y < n → (∀ u, tx k u → fin (dr st x u) = fin (dr st y u)) → x = y) ∧
  (∀ x, 0 < x → x < n → ∃ s a, s < x ∧ a < k ∧ st s a = x) ∧
  (∀ s a, s < n → a < k → ∀ x, 0 < x → x < st s a → ∃ s' a', a' < k ∧ (s' < s ∨ (s' = s ∧ a' < a)) ∧ st s' a' = x)
def dfR (st1 st2 : Nat → Nat → Nat) (k x y : Nat) : Prop := ∃ u, tx k u ∧ dr st1 0 u = x ∧ dr st2 0 u = y
theorem dfR_step {st1 st2 : Nat → Nat → Nat} {k x y a : Nat} (h : dfR st1 st2 k x y) (ha : a < k) : dfR st1 st2 k (st1 x a) (st2 y a) := by
  obtain ⟨u, hu, e1, e2⟩ := h
  exact ⟨u ++ [a], tx_app.mpr ⟨hu, tx_one ha⟩, by rw [dr_app, e1]; rfl, by rw [dr_app, e2]; rfl⟩
theorem dfR_fun {st1 st2 : Nat → Nat → Nat} {f1 f2 : Nat → Bool} {k n2 x y z : Nat} (h2 : can k n2 st2 f2) (hl : ∀ u, tx k u → f1 (dr st1 0 u) = f2 (dr st2 0 u)) (hy : dfR st1 st2 k x y) (hz : dfR st1 st2 k x z) : y = z := by
  obtain ⟨u, hu, e1, e2⟩ := hy
  obtain ⟨v, hv, g1, g2⟩ := hz
  refine h2.2.2.1 y z ?_ ?_ (fun t ht => ?_)
  · rw [← e2]; exact dr_lt h2.2.1 u 0 h2.1 hu
  · rw [← g2]; exact dr_lt h2.2.1 v 0 h2.1 hv
  · have a1 := hl (u ++ t) (tx_app.mpr ⟨hu, ht⟩)
    have a2 := hl (v ++ t) (tx_app.mpr ⟨hv, ht⟩)
    rw [dr_app, dr_app, e1, e2] at a1
    rw [dr_app, dr_app, g1, g2] at a2
    rw [← a1, ← a2]
theorem dfR_inj {st1 st2 : Nat → Nat → Nat} {f1 f2 : Nat → Bool} {k n1 x y z : Nat} (h1 : can k n1 st1 f1) (hl : ∀ u, tx k u → f1 (dr st1 0 u) = f2 (dr st2 0 u)) (hy : dfR st1 st2 k y x) (hz : dfR st1 st2 k z x) : y = z := by
  obtain ⟨u, hu, e1, e2⟩ := hy
  obtain ⟨v, hv, g1, g2⟩ := hz
  refine h1.2.2.1 y z ?_ ?_ (fun t ht => ?_)
  · rw [← e1]; exact dr_lt h1.2.1 u 0 h1.1 hu
  · rw [← g1]; exact dr_lt h1.2.1 v 0 h1.1 hv
  · have a1 := hl (u ++ t) (tx_app.mpr ⟨hu, ht⟩)
    have a2 := hl (v ++ t) (tx_app.mpr ⟨hv, ht⟩)
    rw [dr_app, dr_app, e1, e2] at a1
    rw [dr_app, dr_app, g1, g2] at a2
    rw [a1, a2]
theorem lex_lt {k s a s' a' : Nat} (ha' : a' < k) (h : s' < s ∨ (s' = s ∧ a' < a)) : s' * k + a' < s * k + a := by
  rcases h with h | ⟨h, h2⟩
  · have : (s' + 1) * k ≤ s * k := Nat.mul_le_mul_right k h
    rw [Nat.add_mul, Nat.one_mul] at this
    omega
  · subst h
    omega
theorem can_step {k n1 n2 : Nat} {st1 st2 : Nat → Nat → Nat} {f1 f2 : Nat → Bool} (h1 : can k n1 st1 f1) (h2 : can k n2 st2 f2) (hl : ∀ u, tx k u → f1 (dr st1 0 u) = f2 (dr st2 0 u)) :
    ∀ (j s a : Nat), s * k + a = j → s < n1 → a < k → dfR st1 st2 k s s ∧ st1 s a = st2 s a := by
  intro j
  induction j using Nat.strongRecOn with
  | _ j ih =>
    intro s a hj hs ha
    have hR : dfR st1 st2 k s s := by
      rcases Nat.eq_zero_or_pos s with h0 | hp
      · subst h0
        exact ⟨[], tx_nil, rfl, rfl⟩
      · obtain ⟨s', a', g1, g2, g3⟩ := h1.2.2.2.1 s hp hs
        have hlt : s' * k + a' < j := by rw [← hj]; exact lex_lt g2 (Or.inl g1)
        obtain ⟨e1, e2⟩ := ih _ hlt s' a' rfl (by omega) g2
        have := dfR_step e1 g2
        rw [g3, ← e2, g3] at this
        exact this
    refine ⟨hR, ?_⟩
    have hs2 : s < n2 := by
      obtain ⟨u, hu, -, e2⟩ := hR
      rw [← e2]; exact dr_lt h2.2.1 u 0 h2.1 hu
    have hxy := dfR_step hR ha
    -- what was met before, in either
    have seen : ∀ (s' a' : Nat), a' < k → (s' < s ∨ (s' = s ∧ a' < a)) → st1 s' a' = st2 s' a' ∧ dfR st1 st2 k (st1 s' a') (st1 s' a') := by
      intro s' a' ha' hlx
      obtain ⟨e1, e2⟩ := ih (s' * k + a') (by rw [← hj]; exact lex_lt ha' hlx) s' a' rfl (by omega) ha'
      have := dfR_step e1 ha'
      rw [← e2] at this
      exact ⟨e2, this⟩
    have zero : dfR st1 st2 k 0 0 := ⟨[], tx_nil, rfl, rfl⟩
    rcases Nat.lt_trichotomy (st1 s a) (st2 s a) with hlt | heq | hgt
    · rcases Nat.eq_zero_or_pos (st1 s a) with h0 | hp
      · rw [h0] at hxy ⊢
        exact (dfR_fun h2 hl hxy zero).symm
      · obtain ⟨s', a', g1, g2, g3⟩ := h2.2.2.2.2 s a hs2 ha (st1 s a) hp hlt
        obtain ⟨e1, e2⟩ := seen s' a' g1 g2
        rw [e1, g3] at e2
        exact (dfR_fun h2 hl hxy e2).symm
    · exact heq
    · rcases Nat.eq_zero_or_pos (st2 s a) with h0 | hp
      · rw [h0] at hxy ⊢
        exact dfR_inj h1 hl hxy zero
      · obtain ⟨s', a', g1, g2, g3⟩ := h1.2.2.2.2 s a hs ha (st2 s a) hp hgt
        obtain ⟨e1, e2⟩ := seen s' a' g1 g2
        rw [g3] at e2
        exact dfR_inj h1 hl hxy e2
theorem can_le {k n1 n2 : Nat} {st1 st2 : Nat → Nat → Nat} {f1 f2 : Nat → Bool} (hk : 0 < k) (h1 : can k n1 st1 f1) (h2 : can k n2 st2 f2) (hl : ∀ u, tx k u → f1 (dr st1 0 u) = f2 (dr st2 0 u)) : n1 ≤ n2 := by
  have hp := h1.1
  obtain ⟨⟨u, hu, -, e2⟩, -⟩ := can_step h1 h2 hl _ (n1 - 1) 0 rfl (by omega) hk
  have := dr_lt h2.2.1 u 0 h2.1 hu
  omega
/-- the same texts: the same machine -/
theorem can_uniq {k n1 n2 : Nat} {st1 st2 : Nat → Nat → Nat} {f1 f2 : Nat → Bool} (hk : 0 < k) (h1 : can k n1 st1 f1) (h2 : can k n2 st2 f2) (hl : ∀ u, tx k u → f1 (dr st1 0 u) = f2 (dr st2 0 u)) :
    n1 = n2 ∧ (∀ s a, s < n1 → a < k → st1 s a = st2 s a) ∧ ∀ s, s < n1 → f1 s = f2 s := by
  refine ⟨Nat.le_antisymm (can_le hk h1 h2 hl) (can_le hk h2 h1 (fun u hu => (hl u hu).symm)), fun s a hs ha => (can_step h1 h2 hl _ s a rfl hs ha).2, fun s hs => ?_⟩
  obtain ⟨⟨u, hu, e1, e2⟩, -⟩ := can_step h1 h2 hl _ s 0 rfl hs hk
  have := hl u hu
  rw [e1, e2] at this
  exact this
