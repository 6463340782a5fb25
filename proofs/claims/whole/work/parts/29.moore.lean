/-! PIGEONS: more than c things in c holes -/
theorem php : ∀ (c : Nat) (f : Nat → Nat), (∀ i, i < c + 1 → f i < c) → ∃ i j, i < j ∧ j < c + 1 ∧ f i = f j
  | 0, f, h => absurd (h 0 (by omega)) (by omega)
  | c + 1, f, h => by
    by_cases hx : ∃ i, i < c + 1 ∧ f i = f (c + 1)
    · obtain ⟨i, h1, h2⟩ := hx
      exact ⟨i, c + 1, h1, by omega, h2⟩
    · have hno : ∀ i, i < c + 1 → f i ≠ f (c + 1) := fun i hi q => hx ⟨i, hi, q⟩
      obtain ⟨i, j, h1, h2, h3⟩ := php c (fun i => if f i = c then f (c + 1) else f i) (by
        intro i hi
        have a1 := h i (by omega)
        have a2 := h (c + 1) (by omega)
        have a3 := hno i hi
        split <;> omega)
      refine ⟨i, j, h1, by omega, ?_⟩
      have b1 := hno i (by omega)
      have b2 := hno j (by omega)
      split at h3 <;> split at h3 <;> omega
theorem php_inj {c : Nat} {f : Nat → Nat} (h : ∀ i, i < c + 1 → f i < c) (hi : ∀ i j, i < c + 1 → j < c + 1 → f i = f j → i = j) : False := by
  obtain ⟨i, j, h1, h2, h3⟩ := php c f h
  have := hi i j (by omega) h2 h3
  omega
theorem php_le {a c : Nat} {f : Nat → Nat} (h : ∀ i, i < a → f i < c) (hi : ∀ i j, i < a → j < a → f i = f j → i = j) : a ≤ c := by
  rcases Nat.lt_or_ge c a with q | q
  · exact absurd (php_inj (c := c) (f := f) (fun i h1 => h i (by omega)) (fun i j h1 h2 => hi i j (by omega) (by omega))) id
  · exact q
/-- numbers given by first places: what has the same mark has the same number -/
def foN (mk K : Nat → Nat) (z c : Nat) : Prop := (∀ p, p < z → K p < c) ∧ (∀ p q, p < z → q < z → (K p = K q ↔ mk p = mk q)) ∧ (∀ p, p < z → ∀ x, x < K p → ∃ q, q < p ∧ K q = x) ∧ ∀ x, x < c → ∃ p, p < z ∧ K p = x
/-- alike by all texts of up to i letters -/
def eqv (k : Nat) (d : Nat → Nat → Nat) (Z : Nat → Bool) (i p q : Nat) : Prop := ∀ u, tx k u → u.length ≤ i → Z (dr d p u) = Z (dr d q u)
theorem eqv_0 {k : Nat} {d : Nat → Nat → Nat} {Z : Nat → Bool} {p q : Nat} : eqv k d Z 0 p q ↔ Z p = Z q := by
  constructor
  · intro h
    exact h [] tx_nil (Nat.le_refl _)
  · intro h u _ hu
    have : u = [] := List.length_eq_zero_iff.mp (by omega)
    subst this
    exact h
theorem eqv_s {k : Nat} {d : Nat → Nat → Nat} {Z : Nat → Bool} {i p q : Nat} : eqv k d Z (i + 1) p q ↔ Z p = Z q ∧ ∀ a, a < k → eqv k d Z i (d p a) (d q a) := by
  constructor
  · intro h
    refine ⟨h [] tx_nil (Nat.zero_le _), fun a ha u hu hl => ?_⟩
    exact h (a :: u) (tx_cons.mpr ⟨ha, hu⟩) (by simp; omega)
  · rintro ⟨h1, h2⟩ u hu hl
    cases u with
    | nil => exact h1
    | cons a u => exact h2 a (tx_cons.mp hu).1 u (tx_cons.mp hu).2 (by simp at hl; omega)
theorem eqv_le {k : Nat} {d : Nat → Nat → Nat} {Z : Nat → Bool} {i j p q : Nat} (h : i ≤ j) (hj : eqv k d Z j p q) : eqv k d Z i p q := fun u hu hl => hj u hu (by omega)
theorem eqv_mark {k z : Nat} {d : Nat → Nat → Nat} {Z : Nat → Bool} {K : Nat → Nat} {i : Nat} (hd : ∀ p a, p < z → a < k → d p a < z) (hK : ∀ p q, p < z → q < z → (K p = K q ↔ eqv k d Z i p q)) {p q : Nat} (hp : p < z) (hq : q < z) :
    (K p = K q ∧ ∀ a, a < k → K (d p a) = K (d q a)) ↔ eqv k d Z (i + 1) p q := by
  constructor
  · rintro ⟨h1, h2⟩
    refine eqv_s.mpr ⟨?_, fun a ha => (hK _ _ (hd p a hp ha) (hd q a hq ha)).mp (h2 a ha)⟩
    exact (hK p q hp hq).mp h1 [] tx_nil (Nat.zero_le _)
  · intro h
    exact ⟨(hK p q hp hq).mpr (eqv_le (by omega) h), fun a ha => (hK _ _ (hd p a hp ha) (hd q a hq ha)).mpr ((eqv_s.mp h).2 a ha)⟩
/-- as many kinds by one letter more: no letter more tells more -/
theorem eqv_stop {k z c : Nat} {d : Nat → Nat → Nat} {Z : Nat → Bool} {K K' : Nat → Nat} {i : Nat} (h1 : ∀ p q, p < z → q < z → (K p = K q ↔ eqv k d Z i p q)) (h2 : ∀ x, x < c → ∃ p, p < z ∧ K p = x) (h2' : ∀ p, p < z → K p < c)
    (h3 : ∀ p q, p < z → q < z → (K' p = K' q ↔ eqv k d Z (i + 1) p q)) (h4 : ∀ p, p < z → K' p < c) {p q : Nat} (hp : p < z) (hq : q < z) (h : eqv k d Z i p q) : eqv k d Z (i + 1) p q := by
  refine Classical.byContradiction fun hn => ?_
  have hpq : K p = K q := (h1 p q hp hq).mpr h
  have hne : K' p ≠ K' q := fun e => hn ((h3 p q hp hq).mp e)
  have fin : ∀ a b, a < z → b < z → K' a = K' b → K a = K b := fun a b ha hb e => (h1 a b ha hb).mpr (eqv_le (by omega) ((h3 a b ha hb).mp e))
  have hch : ∀ x, ∃ r, x < c → r < z ∧ K r = x ∧ (x = K p → r = p) := by
    intro x
    by_cases hx : x < c
    · by_cases hxp : x = K p
      · exact ⟨p, fun _ => ⟨hp, hxp.symm, fun _ => rfl⟩⟩
      · obtain ⟨r, hr1, hr2⟩ := h2 x hx
        exact ⟨r, fun _ => ⟨hr1, hr2, fun e => absurd e hxp⟩⟩
    · exact ⟨0, fun e => absurd e hx⟩
  obtain ⟨r, hr⟩ := Classical.axiomOfChoice hch
  refine php_inj (c := c) (f := fun x => if x < c then K' (r x) else K' q) ?_ ?_
  · intro x hx
    split
    · rename_i h9; exact h4 _ (hr x h9).1
    · exact h4 q hq
  · intro x y hx hy e
    have key : ∀ a, a < c → K' (r a) ≠ K' q := by
      intro a ha e9
      have e8 := fin _ _ (hr a ha).1 hq e9
      rw [(hr a ha).2.1] at e8
      have e7 := (hr a ha).2.2 (by rw [e8, hpq])
      rw [e7] at e9
      exact hne e9
    by_cases a1 : x < c
    · rw [if_pos a1] at e
      by_cases a2 : y < c
      · rw [if_pos a2] at e
        have e8 := fin _ _ (hr x a1).1 (hr y a2).1 e
        rw [(hr x a1).2.1, (hr y a2).2.1] at e8
        exact e8
      · rw [if_neg a2] at e
        exact absurd e (key x a1)
    · rw [if_neg a1] at e
      by_cases a2 : y < c
      · rw [if_pos a2] at e
        exact absurd e.symm (key y a2)
      · omega
theorem eqv_all {k z : Nat} {d : Nat → Nat → Nat} {Z : Nat → Bool} {i : Nat} (hd : ∀ p a, p < z → a < k → d p a < z) (h : ∀ p q, p < z → q < z → eqv k d Z i p q → eqv k d Z (i + 1) p q) : ∀ (j p q : Nat), p < z → q < z → eqv k d Z i p q → eqv k d Z (i + j) p q
  | 0, p, q, _, _, e => e
  | j + 1, p, q, hp, hq, e => by
    have e1 := h p q hp hq e
    have e2 := eqv_s.mp e1
    refine eqv_s.mpr ⟨e2.1, fun a ha => ?_⟩
    exact eqv_all hd h j _ _ (hd p a hp ha) (hd q a hq ha) (e2.2 a ha)
/-- alike by all texts -/
def nrd (k : Nat) (d : Nat → Nat → Nat) (Z : Nat → Bool) (p q : Nat) : Prop := ∀ u, tx k u → Z (dr d p u) = Z (dr d q u)
theorem nrd_of {k z : Nat} {d : Nat → Nat → Nat} {Z : Nat → Bool} {i : Nat} (hd : ∀ p a, p < z → a < k → d p a < z) (h : ∀ p q, p < z → q < z → eqv k d Z i p q → eqv k d Z (i + 1) p q) {p q : Nat} (hp : p < z) (hq : q < z) : eqv k d Z i p q ↔ nrd k d Z p q :=
  ⟨fun e u hu => eqv_all hd h u.length p q hp hq e u hu (by omega), fun e u hu _ => e u hu⟩
/-- THE LEAST MACHINE of places that are numbered as they are come to: kinds by first places -/
theorem can_quo {k z c : Nat} {d st : Nat → Nat → Nat} {Z fin : Nat → Bool} {K mk : Nat → Nat} (hz : 0 < z) (hd : ∀ p a, p < z → a < k → d p a < z) (hO1 : ∀ x, 0 < x → x < z → ∃ q b, q < x ∧ b < k ∧ d q b = x)
    (hO2 : ∀ p a, p < z → a < k → ∀ x, 0 < x → x < d p a → ∃ q b, b < k ∧ (q < p ∨ (q = p ∧ b < a)) ∧ d q b = x) (hK : foN mk K z c) (hn : ∀ p q, p < z → q < z → (K p = K q ↔ nrd k d Z p q)) (hst : ∀ p a, p < z → a < k → st (K p) a = K (d p a)) (hfin : ∀ p, p < z → fin (K p) = Z p) :
    can k c st fin ∧ ∀ p, p < z → ∀ u, tx k u → fin (dr st (K p) u) = Z (dr d p u) := by
  obtain ⟨f1, f2, f3, f4⟩ := hK
  have run : ∀ (u : List Nat) (p : Nat), p < z → tx k u → dr st (K p) u = K (dr d p u) := by
    intro u
    induction u with
    | nil => intro p _ _; rfl
    | cons a u ih =>
      intro p hp hu
      show dr st (st (K p) a) u = K (dr d (d p a) u)
      rw [hst p a hp (tx_cons.mp hu).1]
      exact ih _ (hd p a hp (tx_cons.mp hu).1) (tx_cons.mp hu).2
  have acc : ∀ p, p < z → ∀ u, tx k u → fin (dr st (K p) u) = Z (dr d p u) := by
    intro p hp u hu
    rw [run u p hp hu]
    exact hfin _ (dr_lt hd u p hp hu)
  -- the first place of a kind: those ahead of it have lower kinds
  have first : ∀ x, x < c → ∃ p, p < z ∧ K p = x ∧ ∀ q, q < p → K q < x := by
    intro x hx
    obtain ⟨p, hp, hmin⟩ := pk_least (fun p => p < z ∧ K p = x) (f4 x hx)
    refine ⟨p, hp.1, hp.2, fun q hq => ?_⟩
    rcases Nat.lt_trichotomy (K q) x with h | h | h
    · exact h
    · exact absurd ⟨by omega, h⟩ (hmin q hq)
    · obtain ⟨q', h1, h2⟩ := f3 q (by omega) x h
      exact absurd ⟨by omega, h2⟩ (hmin q' (by omega))
  have h0 : K 0 = 0 := by
    rcases Nat.eq_zero_or_pos (K 0) with h | h
    · exact h
    · obtain ⟨q, h1, -⟩ := f3 0 hz 0 h
      omega
  refine ⟨⟨?_, ?_, ?_, ?_, ?_⟩, acc⟩
  · have := f1 0 hz; omega
  · intro s a hs ha
    obtain ⟨p, hp, rfl⟩ := f4 s hs
    rw [hst p a hp ha]
    exact f1 _ (hd p a hp ha)
  · intro x y hx hy h
    obtain ⟨p, hp, rfl⟩ := f4 x hx
    obtain ⟨q, hq, rfl⟩ := f4 y hy
    refine (hn p q hp hq).mpr (fun u hu => ?_)
    rw [← acc p hp u hu, ← acc q hq u hu]
    exact h u hu
  · intro x hx0 hx
    obtain ⟨p, hp, e, hlow⟩ := first x hx
    have hp0 : 0 < p := by
      rcases Nat.eq_zero_or_pos p with h | h
      · subst h; omega
      · exact h
    obtain ⟨q, b, g1, g2, g3⟩ := hO1 p hp0 hp
    exact ⟨K q, b, hlow q g1, g2, by rw [hst q b (by omega) g2, g3, e]⟩
  · intro s a hs ha x hx0 hx
    obtain ⟨p, hp, e, hlow⟩ := first s hs
    subst e
    rw [hst p a hp ha] at hx
    have hq := hd p a hp ha
    have hxc : x < c := Nat.lt_trans hx (f1 _ hq)
    obtain ⟨px, hpx, ex, hlx⟩ := first x hxc
    have hpx0 : 0 < px := by
      rcases Nat.eq_zero_or_pos px with h | h
      · subst h; omega
      · exact h
    have hlt : px < d p a := by
      obtain ⟨q', h1, h2⟩ := f3 (d p a) hq x hx
      rcases Nat.lt_or_ge q' px with h | h
      · have := hlx q' h; omega
      · omega
    obtain ⟨q, b, g1, g2, g3⟩ := hO2 p a hp ha px hpx0 hlt
    refine ⟨K q, b, g1, ?_, by rw [hst q b (by omega) g1, g3, ex]⟩
    rcases g2 with g2 | ⟨g2, g4⟩
    · exact Or.inl (hlow q g2)
    · subst g2
      exact Or.inr ⟨rfl, g4⟩
