/-! TEXTS: SHORT ONES, THOSE OF SO MANY LETTERS -/
theorem short_tx {k n : Nat} {d : Nat → Nat → Nat} (hd : ∀ s a, s < n → a < k → d s a < n) {x : Nat} (hx : x < n) : ∀ (m : Nat) (u : List Nat), u.length = m → tx k u → ∃ v, tx k v ∧ v.length ≤ n ∧ v.length ≤ u.length ∧ dr d x v = dr d x u := by
  intro m
  induction m using Nat.strongRecOn with
  | _ m ih =>
    intro u hu ht
    rcases Nat.lt_or_ge n u.length with q | q
    · have hp : ∀ i, tx k (u.take i) := fun i a ha => ht a (List.mem_of_mem_take ha)
      obtain ⟨i, j, h1, h2, h3⟩ := php n (fun i => dr d x (u.take i)) (fun i _ => dr_lt hd _ _ hx (hp i))
      have hq : tx k (u.take i ++ u.drop j) := tx_app.mpr ⟨hp i, fun a ha => ht a (List.mem_of_mem_drop ha)⟩
      have hl : (u.take i ++ u.drop j).length = i + (u.length - j) := by
        rw [List.length_append, List.length_take, List.length_drop]; omega
      obtain ⟨v, g1, g2, g3, g4⟩ := ih _ (by omega) (u.take i ++ u.drop j) hl hq
      refine ⟨v, g1, g2, by omega, ?_⟩
      rw [g4, dr_app, h3, ← dr_app, List.take_append_drop]
    · exact ⟨u, ht, q, Nat.le_refl _, rfl⟩
theorem befI_bit {k n : Nat} {st : Nat → Nat → Nat} {S u L j : Nat} : ∀ a, (befI k n st S u L a).testBit j = true ↔ L.testBit j = true ∨ (j = u ∧ ∃ b, b < a ∧ S.testBit (stp k n st u b) = true)
  | 0 => by simp [befI]
  | a + 1 => by
    have ih := befI_bit (k := k) (n := n) (st := st) (S := S) (u := u) (L := L) (j := j) a
    rw [befI]
    split
    · rename_i h
      rw [or_bit, ih, pow_bit]
      constructor
      · rintro ((h1 | ⟨h1, b, h2, h3⟩) | h1)
        · exact Or.inl h1
        · exact Or.inr ⟨h1, b, by omega, h3⟩
        · exact Or.inr ⟨h1.symm, a, by omega, h⟩
      · rintro (h1 | ⟨h1, b, h2, h3⟩)
        · exact Or.inl (Or.inl h1)
        · exact Or.inr h1.symm
    · rename_i h
      rw [ih]
      constructor
      · rintro (h1 | ⟨h1, b, h2, h3⟩)
        · exact Or.inl h1
        · exact Or.inr ⟨h1, b, by omega, h3⟩
      · rintro (h1 | ⟨h1, b, h2, h3⟩)
        · exact Or.inl h1
        · by_cases e : b = a
          · subst e; exact absurd h3 h
          · exact Or.inr ⟨h1, b, by omega, h3⟩
theorem bef_bit {k n : Nat} {st : Nat → Nat → Nat} {S j : Nat} : ∀ m, (bef k n st S m).testBit j = true ↔ j < m ∧ ∃ b, b < k ∧ S.testBit (stp k n st j b) = true
  | 0 => by simp [bef]
  | m + 1 => by
    rw [bef, befI_bit, bef_bit m]
    constructor
    · rintro (⟨h1, h2⟩ | ⟨h1, h2⟩)
      · exact ⟨by omega, h2⟩
      · subst h1; exact ⟨by omega, h2⟩
    · rintro ⟨h1, h2⟩
      by_cases e : j = m
      · subst e; exact Or.inr ⟨rfl, h2⟩
      · exact Or.inl ⟨by omega, h2⟩
theorem ahn_edn {k n E : Nat} {st : Nat → Nat → Nat} : ∀ i, ahn k n E st i = edn k n E st i
  | 0 => rfl
  | i + 1 => by rw [ahn, edn, ahn_edn i]
theorem rcI_aftA {k n : Nat} {st : Nat → Nat → Nat} {S : Nat} : ∀ l, rcI k n st S l = aftA k n st S l
  | 0 => rfl
  | l + 1 => by rw [rcI, aftA, rcI_aftA l]
theorem rcn_rch {k n : Nat} {st : Nat → Nat → Nat} : ∀ i, rcn k n st i = rch k n st i
  | 0 => rfl
  | i + 1 => by rw [rcn, rch, rcn_rch i, rcI_aftA]
theorem ahn_bit {k n E : Nat} {st : Nat → Nat → Nat} (hm : rOK k n E st) : ∀ i j, (ahn k n E st i).testBit j = true ↔ j < n ∧ ∃ u, tx k u ∧ u.length = i ∧ E.testBit (dr st j u) = true := by
  intro i
  induction i with
  | zero =>
    intro j
    rw [ahn]
    constructor
    · intro h; exact ⟨bit_lt hm.2.2.2.1 h, [], tx_nil, rfl, h⟩
    · rintro ⟨_, u, _, h2, h3⟩
      rw [List.length_eq_zero_iff.mp h2] at h3
      exact h3
  | succ i ih =>
    intro j
    rw [ahn, bef_bit]
    constructor
    · rintro ⟨h1, b, h2, h3⟩
      obtain ⟨g1, u, g2, g3, g4⟩ := (ih _).mp h3
      rw [stp_in h1 h2] at g4
      exact ⟨h1, b :: u, tx_cons.mpr ⟨h2, g2⟩, by simp [g3], g4⟩
    · rintro ⟨h1, u, h2, h3, h4⟩
      cases u with
      | nil => simp at h3
      | cons b u =>
        have hb := (tx_cons.mp h2).1
        refine ⟨h1, b, hb, (ih _).mpr ⟨?_, u, (tx_cons.mp h2).2, by simpa using h3, ?_⟩⟩
        · rw [stp_in h1 hb]; exact hm.2.2.2.2 j b h1 hb
        · rw [stp_in h1 hb]; exact h4
theorem liv_bit {k n E : Nat} {st : Nat → Nat → Nat} (hm : rOK k n E st) : ∀ i j, (liv k n E st i).testBit j = true ↔ j < n ∧ ∃ u, tx k u ∧ u.length ≤ i ∧ E.testBit (dr st j u) = true := by
  intro i
  induction i with
  | zero =>
    intro j
    rw [liv]
    constructor
    · intro h; exact ⟨bit_lt hm.2.2.2.1 h, [], tx_nil, Nat.le_refl _, h⟩
    · rintro ⟨_, u, _, h2, h3⟩
      have e9 : u = [] := List.length_eq_zero_iff.mp (by omega)
      rw [e9] at h3
      exact h3
  | succ i ih =>
    intro j
    rw [liv, or_bit, ih, bef_bit]
    constructor
    · rintro (⟨h1, u, h2, h3, h4⟩ | ⟨h1, b, h2, h3⟩)
      · exact ⟨h1, u, h2, by omega, h4⟩
      · obtain ⟨g1, u, g2, g3, g4⟩ := (ih _).mp h3
        rw [stp_in h1 h2] at g4
        exact ⟨h1, b :: u, tx_cons.mpr ⟨h2, g2⟩, by simp; omega, g4⟩
    · rintro ⟨h1, u, h2, h3, h4⟩
      cases u with
      | nil => exact Or.inl ⟨h1, [], tx_nil, Nat.zero_le _, h4⟩
      | cons b u =>
        have hb := (tx_cons.mp h2).1
        refine Or.inr ⟨h1, b, hb, (ih _).mpr ⟨?_, u, (tx_cons.mp h2).2, by simp at h3; omega, ?_⟩⟩
        · rw [stp_in h1 hb]; exact hm.2.2.2.2 j b h1 hb
        · rw [stp_in h1 hb]; exact h4
theorem tie_liv {k n E : Nat} {st : Nat → Nat → Nat} (hm : rOK k n E st) : liv k n E st 40 = liv k n E st n := by
  refine bits_ext fun j => ?_
  rw [liv_bit hm, liv_bit hm]
  constructor
  · rintro ⟨h1, u, h2, h3, h4⟩
    obtain ⟨v, g1, g2, g3, g4⟩ := short_tx hm.2.2.2.2 h1 _ u rfl h2
    exact ⟨h1, v, g1, g2, by rw [g4]; exact h4⟩
  · rintro ⟨h1, u, h2, h3, h4⟩
    have := hm.2.1
    exact ⟨h1, u, h2, by omega, h4⟩
theorem aftA_bit {k n : Nat} {st : Nat → Nat → Nat} {S j : Nat} : ∀ m, (aftA k n st S m).testBit j = true ↔ ∃ b, b < m ∧ ∃ u, u < n ∧ S.testBit u = true ∧ stp k n st u b = j
  | 0 => by simp [aftA]
  | m + 1 => by
    rw [aftA, or_bit, aftA_bit m, aft_bit]
    constructor
    · rintro (⟨b, h1, h2⟩ | h1)
      · exact ⟨b, by omega, h2⟩
      · exact ⟨m, by omega, h1⟩
    · rintro ⟨b, h1, h2⟩
      by_cases e : b = m
      · subst e; exact Or.inr h2
      · exact Or.inl ⟨b, by omega, h2⟩
theorem rch_bit {k n E : Nat} {st : Nat → Nat → Nat} (hm : rOK k n E st) : ∀ i j, (rch k n st i).testBit j = true ↔ ∃ u, tx k u ∧ u.length = i ∧ dr st 0 u = j := by
  intro i
  induction i with
  | zero =>
    intro j
    rw [rch, one_bit]
    constructor
    · intro h; exact ⟨[], tx_nil, rfl, h.symm⟩
    · rintro ⟨u, _, h2, h3⟩
      rw [List.length_eq_zero_iff.mp h2] at h3
      exact h3.symm
  | succ i ih =>
    intro j
    rw [rch, aftA_bit]
    constructor
    · rintro ⟨b, h1, u, h2, h3, h4⟩
      obtain ⟨v, g1, g2, g3⟩ := (ih u).mp h3
      rw [stp_in h2 h1] at h4
      exact ⟨v ++ [b], tx_app.mpr ⟨g1, tx_one h1⟩, by simp [g2], by rw [dr_app, g3]; exact h4⟩
    · rintro ⟨u, h1, h2, h3⟩
      rcases List.eq_nil_or_concat u with e | ⟨v, b, e⟩
      · rw [e] at h2; simp at h2
      · subst e
        rw [List.concat_eq_append] at h1 h2 h3
        have hb := (tx_app.mp h1).2 b (List.mem_singleton_self b)
        have hv := (tx_app.mp h1).1
        have hl := dr_lt hm.2.2.2.2 v 0 hm.2.2.1 hv
        rw [dr_app] at h3
        exact ⟨b, hb, dr st 0 v, hl, (ih _).mpr ⟨v, hv, by simpa using h2, rfl⟩, by rw [stp_in hl hb]; exact h3⟩
theorem tie_len {k n E : Nat} {st : Nat → Nat → Nat} (hm : rOK k n E st) (i : Nat) : (ahn k n E st i).testBit 0 = true ↔ rch k n st i &&& E ≠ 0 := by
  rw [ahn_bit hm, and_ne]
  constructor
  · rintro ⟨_, u, h2, h3, h4⟩
    exact ⟨_, (rch_bit hm i _).mpr ⟨u, h2, h3, rfl⟩, h4⟩
  · rintro ⟨j, h1, h2⟩
    obtain ⟨u, g1, g2, g3⟩ := (rch_bit hm i j).mp h1
    exact ⟨hm.2.2.1, u, g1, g2, by rw [g3]; exact h2⟩
theorem mst_sp {k n E : Nat} {st : Nat → Nat → Nat} : ∀ m, (mst k n E st m = -1 ∧ ∀ j, j < m → rch k n st j &&& E = 0) ∨ ∃ j0, j0 < m ∧ mst k n E st m = nI j0 ∧ rch k n st j0 &&& E ≠ 0 ∧ ∀ j, j0 < j → j < m → rch k n st j &&& E = 0
  | 0 => Or.inl ⟨rfl, fun j h => by omega⟩
  | m + 1 => by
    rw [mst]
    split
    · rename_i h
      rcases mst_sp (k := k) (n := n) (E := E) (st := st) m with ⟨h1, h2⟩ | ⟨j0, h1, h2, h3, h4⟩
      · refine Or.inl ⟨h1, fun j hj => ?_⟩
        by_cases e : j = m
        · rw [e]; exact h
        · exact h2 j (by omega)
      · refine Or.inr ⟨j0, by omega, h2, h3, fun j a b => ?_⟩
        by_cases e : j = m
        · rw [e]; exact h
        · exact h4 j a (by omega)
    · rename_i h
      exact Or.inr ⟨m, by omega, rfl, h, fun j a b => by omega⟩
theorem tie_long1 {k n E : Nat} {st : Nat → Nat → Nat} (hm : rOK k n E st) {j0 : Nat} (h1 : n ≤ j0) (h2 : j0 < 2 * n) (h3 : (ahn k n E st j0).testBit 0 = true) : (if ((n : Nat) : Int) ≤ (mst k n E st (2 * n)).toInt then (-5 : Int32) else mst k n E st (2 * n)) = -5 := by
  have hn := hm.2.1
  rcases mst_sp (k := k) (n := n) (E := E) (st := st) (2 * n) with ⟨g1, g2⟩ | ⟨j, g1, g2, g3, g4⟩
  · exact absurd (g2 j0 h2) ((tie_len hm j0).mp h3)
  · have : j0 ≤ j := by
      rcases Nat.lt_or_ge j j0 with q | q
      · exact absurd (g4 j0 q h2) ((tie_len hm j0).mp h3)
      · exact q
    rw [if_pos (by rw [g2, nI_toInt (by omega)]; omega)]
theorem tie_long2 {k n E : Nat} {st : Nat → Nat → Nat} (hm : rOK k n E st) (h : ∀ j, j < 2 * n → ¬ ((ahn k n E st j).testBit 0 = true)) : (if ((n : Nat) : Int) ≤ (mst k n E st (2 * n)).toInt then (-5 : Int32) else mst k n E st (2 * n)) = -1 := by
  have hn := hm.2.2.1
  rcases mst_sp (k := k) (n := n) (E := E) (st := st) (2 * n) with ⟨g1, g2⟩ | ⟨j, g1, g2, g3, g4⟩
  · have e : (-1 : Int32).toInt = -1 := by decide
    rw [g1, if_neg (by rw [e]; omega)]
  · exact absurd ((tie_len hm j).mpr g3) (h j g1)
theorem tie_long3 {k n E : Nat} {st : Nat → Nat → Nat} (hm : rOK k n E st) {j0 : Nat} (h1 : j0 < n) (h2 : (ahn k n E st j0).testBit 0 = true) (h : ∀ j, j0 < j → j < 2 * n → ¬ ((ahn k n E st j).testBit 0 = true)) : (if ((n : Nat) : Int) ≤ (mst k n E st (2 * n)).toInt then (-5 : Int32) else mst k n E st (2 * n)) = nI j0 := by
  have hn := hm.2.1
  rcases mst_sp (k := k) (n := n) (E := E) (st := st) (2 * n) with ⟨g1, g2⟩ | ⟨j, g1, g2, g3, g4⟩
  · exact absurd (g2 j0 (by omega)) ((tie_len hm j0).mp h2)
  · have : j = j0 := by
      rcases Nat.lt_trichotomy j j0 with q | q | q
      · exact absurd (g4 j0 q (by omega)) ((tie_len hm j0).mp h2)
      · exact q
      · exact absurd ((tie_len hm j).mpr g3) (h j q g1)
    subst this
    rw [if_neg (by rw [g2, nI_toInt (by omega)]; omega), g2]
/-! HOW LONG A TEXT MUST BE THAT TELLS TWO STATES APART -/
def cnt (P : Nat → Prop) [DecidablePred P] : Nat → Nat
  | 0 => 0
  | n + 1 => cnt P n + (if P n then 1 else 0)
theorem cnt_le {P : Nat → Prop} [DecidablePred P] : ∀ n, cnt P n ≤ n
  | 0 => Nat.le_refl _
  | n + 1 => by
    have := cnt_le (P := P) n
    rw [cnt]; split <;> omega
theorem cnt_mono {P Q : Nat → Prop} [DecidablePred P] [DecidablePred Q] : ∀ n, (∀ x, x < n → P x → Q x) → cnt P n ≤ cnt Q n
  | 0, _ => Nat.le_refl _
  | n + 1, h => by
    have ih := cnt_mono n (fun x hx => h x (by omega))
    have := h n (by omega)
    rw [cnt, cnt]
    split
    · rename_i q; rw [if_pos (this q)]; omega
    · split <;> omega
theorem cnt_lt {P Q : Nat → Prop} [DecidablePred P] [DecidablePred Q] {x : Nat} : ∀ n, (∀ x, x < n → P x → Q x) → x < n → Q x → ¬ P x → cnt P n < cnt Q n
  | 0, _, h, _, _ => by omega
  | n + 1, h, hx, hq, hp => by
    rw [cnt, cnt]
    by_cases e : x = n
    · subst e
      have := cnt_mono (P := P) (Q := Q) x (fun y hy => h y (by omega))
      rw [if_neg hp, if_pos hq]; omega
    · have ih := cnt_lt n (fun y hy => h y (by omega)) (by omega) hq hp
      have := h n (by omega)
      split
      · rename_i q; rw [if_pos (this q)]; omega
      · split <;> omega
/-- the first of its kind -/
def fst9 (k : Nat) (d : Nat → Nat → Nat) (Z : Nat → Bool) (i x : Nat) : Prop := ∀ y, y < x → ¬ eqv k d Z i x y
theorem moore {k z : Nat} {d : Nat → Nat → Nat} {Z : Nat → Bool} (hd : ∀ p a, p < z → a < k → d p a < z) (hz : 0 < z) {x y : Nat} (hx : x < z) (hy : y < z) (h : eqv k d Z z x y) : nrd k d Z x y := by
  have dec : ∀ i, DecidablePred (fst9 k d Z i) := fun i x => Classical.propDecidable _
  have mono : ∀ i x, fst9 k d Z i x → fst9 k d Z (i + 1) x := fun i x g w hw e => g w hw (eqv_le (by omega) e)
  -- a level at which nothing more is told apart
  have lev : ∃ i, i ≤ z ∧ ∀ p q, p < z → q < z → eqv k d Z i p q → eqv k d Z (i + 1) p q := by
    refine Classical.byContradiction fun hn => ?_
    have hgrow : ∀ i, i ≤ z → (@cnt (fst9 k d Z i) (dec i) z) < (@cnt (fst9 k d Z (i + 1)) (dec (i + 1)) z) := by
      intro i hi
      have hne : ∃ p q, p < z ∧ q < z ∧ eqv k d Z i p q ∧ ¬ eqv k d Z (i + 1) p q := by
        refine Classical.byContradiction fun h9 => hn ⟨i, hi, fun p q hp hq e => ?_⟩
        exact Classical.byContradiction fun h8 => h9 ⟨p, q, hp, hq, e, h8⟩
      obtain ⟨p, q, hp, hq, e1, e2⟩ := hne
      -- the first that is alike to p by i, and one of its kind that is not by i + 1
      obtain ⟨r, hr, hrm⟩ := pk_least (fun r => r < z ∧ eqv k d Z i p r) ⟨q, hq, e1⟩
      have hs : ∃ s, s < z ∧ eqv k d Z i r s ∧ ¬ eqv k d Z (i + 1) r s := by
        by_cases g : eqv k d Z (i + 1) r p
        · refine ⟨q, hq, eqv_tr (eqv_sy hr.2) e1, fun g2 => e2 (eqv_tr (eqv_sy g) g2)⟩
        · exact ⟨p, hp, eqv_sy hr.2, g⟩
      obtain ⟨s, hs, hsm⟩ := pk_least (fun s => s < z ∧ eqv k d Z i r s ∧ ¬ eqv k d Z (i + 1) r s) hs
      have hrs : r < s := by
        rcases Nat.lt_trichotomy r s with q9 | q9 | q9
        · exact q9
        · subst q9; exact absurd (fun _ _ _ => rfl) hs.2.2
        · exact absurd ⟨by omega, eqv_tr hr.2 hs.2.1⟩ (hrm s q9)
      refine @cnt_lt _ _ (dec i) (dec (i + 1)) s z (fun x _ g => mono i x g) hs.1 ?_ (fun g => g r hrs (eqv_sy hs.2.1))
      intro w hw g
      have gi := eqv_le (Nat.le_succ i) g
      have g3 : eqv k d Z i r w := eqv_tr hs.2.1 gi
      have g4 : ¬ eqv k d Z (i + 1) r w := fun g5 => hs.2.2 (eqv_tr g5 (eqv_sy g))
      exact hsm w hw ⟨by omega, g3, g4⟩
    have hge : ∀ i, i ≤ z + 1 → i ≤ @cnt (fst9 k d Z i) (dec i) z := by
      intro i
      induction i with
      | zero => intro _; omega
      | succ i ih =>
        intro hi
        have := ih (by omega)
        have := hgrow i (by omega)
        omega
    have h1 := hge (z + 1) (Nat.le_refl _)
    have h2 := @cnt_le (fst9 k d Z (z + 1)) (dec (z + 1)) z
    omega
  obtain ⟨i, hi, hs⟩ := lev
  exact (nrd_of hd hs hx hy).mp (eqv_le hi h)
