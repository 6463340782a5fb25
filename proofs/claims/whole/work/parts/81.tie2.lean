/-! SETS OF STATES, BIT BY BIT -/
theorem bits_ext {x y : Nat} (h : ∀ j, x.testBit j = true ↔ y.testBit j = true) : x = y := Nat.eq_of_testBit_eq (fun i => Bool.eq_iff_iff.mpr (h i))
theorem pow_bit {i j : Nat} : (2 ^ i).testBit j = true ↔ i = j := by rw [Nat.testBit_two_pow, decide_eq_true_eq]
theorem zero_bit {j : Nat} : (0 : Nat).testBit j = true ↔ False := by simp
theorem or_bit {x y j : Nat} : (x ||| y).testBit j = true ↔ x.testBit j = true ∨ y.testBit j = true := by rw [Nat.testBit_or, Bool.or_eq_true]
theorem one_bit {j : Nat} : (1 : Nat).testBit j = true ↔ j = 0 := by
  rw [show (1 : Nat) = 2 ^ 0 from rfl, pow_bit]; exact eq_comm
theorem and_ne {x y : Nat} : x &&& y ≠ 0 ↔ ∃ j, x.testBit j = true ∧ y.testBit j = true := by
  constructor
  · intro h
    refine Classical.byContradiction fun hn => h (Nat.eq_of_testBit_eq (fun i => ?_))
    rw [Nat.testBit_and, Nat.zero_testBit]
    cases e1 : x.testBit i
    · rfl
    · cases e2 : y.testBit i
      · rfl
      · exact absurd ⟨i, e1, e2⟩ hn
  · rintro ⟨j, h1, h2⟩ e
    have := congrArg (fun v => Nat.testBit v j) e
    simp only [Nat.testBit_and, h1, h2, Nat.zero_testBit, Bool.and_self] at this
    cases this
theorem bit_lt {x n j : Nat} (h : x < 2 ^ n) (hj : x.testBit j = true) : j < n := by
  rcases Nat.lt_or_ge j n with q | q
  · exact q
  · rw [Nat.testBit_lt_two_pow (Nat.lt_of_lt_of_le h (Nat.pow_le_pow_right (by decide) q))] at hj
    cases hj
theorem aft_bit {g : Nat → Nat → Nat} {S a j : Nat} : ∀ n, (aft g S a n).testBit j = true ↔ ∃ u, u < n ∧ S.testBit u = true ∧ g u a = j
  | 0 => by simp [aft]
  | n + 1 => by
    have ih := aft_bit (g := g) (S := S) (a := a) (j := j) n
    rw [aft]
    split
    · rename_i h
      rw [or_bit, ih, pow_bit]
      constructor
      · rintro (⟨u, h1, h2, h3⟩ | h1)
        · exact ⟨u, by omega, h2, h3⟩
        · exact ⟨n, by omega, h, h1⟩
      · rintro ⟨u, h1, h2, h3⟩
        by_cases e : u = n
        · subst e; exact Or.inr h3
        · exact Or.inl ⟨u, by omega, h2, h3⟩
    · rename_i h
      rw [ih]
      constructor
      · rintro ⟨u, h1, h2, h3⟩; exact ⟨u, by omega, h2, h3⟩
      · rintro ⟨u, h1, h2, h3⟩
        by_cases e : u = n
        · subst e; exact absurd h2 h
        · exact ⟨u, by omega, h2, h3⟩
theorem sAf_bit {Ld : Nat → Nat → Nat} {S a j : Nat} : ∀ n, (sAf Ld S a n).testBit j = true ↔ ∃ u, u < n ∧ S.testBit u = true ∧ (Ld u a).testBit j = true
  | 0 => by simp [sAf]
  | n + 1 => by
    have ih := sAf_bit (Ld := Ld) (S := S) (a := a) (j := j) n
    rw [sAf]
    split
    · rename_i h
      rw [or_bit, ih]
      constructor
      · rintro (⟨u, h1, h2, h3⟩ | h1)
        · exact ⟨u, by omega, h2, h3⟩
        · exact ⟨n, by omega, h, h1⟩
      · rintro ⟨u, h1, h2, h3⟩
        by_cases e : u = n
        · subst e; exact Or.inr h3
        · exact Or.inl ⟨u, by omega, h2, h3⟩
    · rename_i h
      rw [ih]
      constructor
      · rintro ⟨u, h1, h2, h3⟩; exact ⟨u, by omega, h2, h3⟩
      · rintro ⟨u, h1, h2, h3⟩
        by_cases e : u = n
        · subst e; exact absurd h2 h
        · exact ⟨u, by omega, h2, h3⟩
theorem if_bit {c : Prop} [Decidable c] {x j : Nat} : (if c then x else 0).testBit j = true ↔ c ∧ x.testBit j = true := by
  split
  · rename_i h; exact ⟨fun q => ⟨h, q⟩, fun q => q.2⟩
  · rename_i h; rw [zero_bit]; exact ⟨fun q => q.elim, fun q => h q.1⟩
theorem tie_fol {k n : Nat} {st : Nat → Nat → Nat} (hn : n ≤ 40) (S b : Nat) : aft (stp k n st) S b n = sAf (fun z1 z2 => if z1 < n then 2 ^ stp k n st z1 z2 else 0) S b 41 := by
  refine bits_ext fun j => ?_
  rw [aft_bit, sAf_bit]
  constructor
  · rintro ⟨u, h1, h2, h3⟩
    exact ⟨u, by omega, h2, if_bit.mpr ⟨h1, pow_bit.mpr h3⟩⟩
  · rintro ⟨u, h1, h2, h3⟩
    obtain ⟨h4, h5⟩ := if_bit.mp h3
    exact ⟨u, h4, h2, pow_bit.mp h5⟩
theorem tie_bec {k n x1 y1 : Nat} {st : Nat → Nat → Nat} (hn : n ≤ 40) (S b : Nat) : (if b = y1 then aft (stp k n st) S x1 n ||| aft (stp k n st) S y1 n else if b = x1 then 0 else aft (stp k n st) S b n) = sAf (fun z1 z2 => if x1 = y1 then (if z1 < n then 2 ^ stp k n st z1 z2 else 0) else if z1 < 40 then (if z2 = y1 then (if z1 < n then 2 ^ stp k n st z1 y1 else 0) ||| (if z1 < n then 2 ^ stp k n st z1 x1 else 0) else if z2 = x1 then 0 else (if z1 < n then 2 ^ stp k n st z1 z2 else 0)) else (if z1 < n then 2 ^ stp k n st z1 z2 else 0)) S b 41 := by
  refine bits_ext fun j => ?_
  rw [sAf_bit]
  by_cases hxy : x1 = y1
  · subst hxy
    simp only [if_true]
    have key : (∃ u, u < 41 ∧ S.testBit u = true ∧ (if u < n then 2 ^ stp k n st u b else 0).testBit j = true) ↔ (aft (stp k n st) S b n).testBit j = true := by
      rw [tie_fol hn, sAf_bit]
    rw [key]
    by_cases hb : b = x1
    · subst hb
      rw [if_pos rfl, or_bit, or_self]
    · rw [if_neg hb, if_neg hb]
  · simp only [if_neg hxy]
    by_cases hy : b = y1
    · subst hy
      simp only [if_true]
      rw [or_bit, aft_bit, aft_bit]
      constructor
      · rintro (⟨u, h1, h2, h3⟩ | ⟨u, h1, h2, h3⟩)
        · refine ⟨u, by omega, h2, ?_⟩
          rw [if_pos (by omega), or_bit, if_bit, if_bit]
          exact Or.inr ⟨h1, pow_bit.mpr h3⟩
        · refine ⟨u, by omega, h2, ?_⟩
          rw [if_pos (by omega), or_bit, if_bit, if_bit]
          exact Or.inl ⟨h1, pow_bit.mpr h3⟩
      · rintro ⟨u, h1, h2, h3⟩
        by_cases hu : u < 40
        · rw [if_pos hu, or_bit, if_bit, if_bit] at h3
          rcases h3 with ⟨h4, h5⟩ | ⟨h4, h5⟩
          · exact Or.inr ⟨u, h4, h2, pow_bit.mp h5⟩
          · exact Or.inl ⟨u, h4, h2, pow_bit.mp h5⟩
        · rw [if_neg hu, if_bit] at h3
          omega
    · simp only [if_neg hy]
      by_cases hx : b = x1
      · subst hx
        simp only [if_true]
        rw [zero_bit]
        refine ⟨fun q => q.elim, ?_⟩
        rintro ⟨u, h1, h2, h3⟩
        by_cases hu : u < 40
        · rw [if_pos hu, zero_bit] at h3; exact h3
        · rw [if_neg hu, if_bit] at h3; omega
      · simp only [if_neg hx]
        rw [aft_bit]
        constructor
        · rintro ⟨u, h1, h2, h3⟩
          refine ⟨u, by omega, h2, ?_⟩
          rw [if_pos (by omega), if_bit]
          exact ⟨h1, pow_bit.mpr h3⟩
        · rintro ⟨u, h1, h2, h3⟩
          have h4 : u < n ∧ (2 ^ stp k n st u b).testBit j = true := by
            by_cases hu : u < 40
            · rw [if_pos hu, if_bit] at h3; exact h3
            · rw [if_neg hu, if_bit] at h3; exact h3
          exact ⟨u, h4.1, h2, pow_bit.mp h4.2⟩
theorem rvS_bit {k n : Nat} {st : Nat → Nat → Nat} {v a j : Nat} : ∀ m, (rvS k n st v a m).testBit j = true ↔ j < m ∧ stp k n st j a = v
  | 0 => by simp [rvS]
  | m + 1 => by
    have ih := rvS_bit (k := k) (n := n) (st := st) (v := v) (a := a) (j := j) m
    rw [rvS]
    split
    · rename_i h
      rw [or_bit, ih, pow_bit]
      constructor
      · rintro (⟨h1, h2⟩ | h1)
        · exact ⟨by omega, h2⟩
        · subst h1; exact ⟨by omega, h⟩
      · rintro ⟨h1, h2⟩
        by_cases e : j = m
        · exact Or.inr e.symm
        · exact Or.inl ⟨by omega, h2⟩
    · rename_i h
      rw [ih]
      constructor
      · rintro ⟨h1, h2⟩; exact ⟨by omega, h2⟩
      · rintro ⟨h1, h2⟩
        by_cases e : j = m
        · subst e; exact absurd h2 h
        · exact ⟨by omega, h2⟩
theorem tb_bit {c : Bool} {i j : Nat} : (c.toNat * 2 ^ i).testBit j = true ↔ c = true ∧ i = j := by
  cases c
  · simp
  · simp only [Bool.toNat_true, Nat.one_mul, true_and]; exact pow_bit
theorem trI_bit {st : Nat → Nat → Nat} {S b j : Nat} : ∀ m, (trI st S b m).testBit j = true ↔ j < m ∧ S.testBit (st j b) = true
  | 0 => by simp [trI]
  | m + 1 => by
    have ih := trI_bit (st := st) (S := S) (b := b) (j := j) m
    rw [trI, or_bit, ih, tb_bit]
    constructor
    · rintro (⟨h1, h2⟩ | ⟨h1, h2⟩)
      · exact ⟨by omega, h2⟩
      · subst h2; exact ⟨by omega, h1⟩
    · rintro ⟨h1, h2⟩
      by_cases e : j = m
      · subst e; exact Or.inr ⟨h2, rfl⟩
      · exact Or.inl ⟨by omega, h2⟩
theorem tie_turn {k n E : Nat} {st : Nat → Nat → Nat} (hm : rOK k n E st) {S b : Nat} (hb : b < k) : trI st S b n = sAf (fun z1 z2 => rvS k n st z1 z2 n) S b 41 := by
  refine bits_ext fun j => ?_
  rw [trI_bit, sAf_bit]
  have hn := hm.2.1
  constructor
  · rintro ⟨h1, h2⟩
    have := hm.2.2.2.2 j b h1 hb
    exact ⟨st j b, by omega, h2, rvS_bit n |>.mpr ⟨h1, stp_in h1 hb⟩⟩
  · rintro ⟨u, h1, h2, h3⟩
    obtain ⟨h4, h5⟩ := (rvS_bit n).mp h3
    rw [stp_in h4 hb] at h5
    exact ⟨h4, by rw [h5]; exact h2⟩
theorem chn_add {k n x u : Nat} {st : Nat → Nat → Nat} {a : Nat} : ∀ b, chn k n st x u (a + b) = chn k n st x (chn k n st x u a) b
  | 0 => rfl
  | b + 1 => by
    show stp k n st (chn k n st x u (a + b)) x = stp k n st (chn k n st x (chn k n st x u a) b) x
    rw [chn_add b]
theorem chn_in {k n E : Nat} {f : Nat → Int32} {st : Nat → Nat → Nat} (hm : mOK k n E f st) {x u : Nat} (hu : u < n) : ∀ i, chn k n st x u i < n
  | 0 => hu
  | i + 1 => stp_lt hm _ _
theorem chn_bd {k n E : Nat} {f : Nat → Int32} {st : Nat → Nat → Nat} (hm : mOK k n E f st) {x u : Nat} (hu : u < n) : ∀ m, ∃ i, i ≤ n ∧ chn k n st x u i = chn k n st x u m := by
  obtain ⟨i, j, h1, h2, h3⟩ := php n (chn k n st x u) (fun i _ => chn_in hm hu i)
  intro m
  induction m using Nat.strongRecOn with
  | _ m ih =>
    rcases Nat.lt_or_ge n m with q | q
    · obtain ⟨i', g1, g2⟩ := ih (i + (m - j)) (by omega)
      refine ⟨i', g1, ?_⟩
      rw [g2, chn_add, h3, ← chn_add]
      congr 1
      omega
    · exact ⟨m, q, rfl⟩
theorem sby_bit {k n x u : Nat} {st : Nat → Nat → Nat} {j : Nat} : ∀ m, (sby k n st x u m).testBit j = true ↔ ∃ i, i ≤ m ∧ chn k n st x u i = j
  | 0 => by
    rw [sby, pow_bit]
    constructor
    · intro h; exact ⟨0, by omega, h⟩
    · rintro ⟨i, h1, h2⟩; rw [show i = 0 by omega] at h2; exact h2
  | m + 1 => by
    rw [sby, or_bit, sby_bit m, pow_bit]
    constructor
    · rintro (⟨i, h1, h2⟩ | h1)
      · exact ⟨i, by omega, h2⟩
      · exact ⟨m + 1, by omega, h1⟩
    · rintro ⟨i, h1, h2⟩
      by_cases e : i = m + 1
      · subst e; exact Or.inr h2
      · exact Or.inl ⟨i, by omega, h2⟩
theorem wit_bit {k n E : Nat} {f : Nat → Int32} {st : Nat → Nat → Nat} (hm : mOK k n E f st) {x S j : Nat} (hS : S < 2 ^ n) : ∀ i, (wit k n st x S i).testBit j = true ↔ ∃ u, S.testBit u = true ∧ ∃ m, m ≤ i ∧ chn k n st x u m = j := by
  intro i
  induction i generalizing j with
  | zero =>
    rw [wit]
    constructor
    · intro h; exact ⟨j, h, 0, by omega, rfl⟩
    · rintro ⟨u, h1, m, h2, h3⟩
      rw [show m = 0 by omega] at h3
      have h3 : u = j := h3
      rw [← h3]; exact h1
  | succ i ih =>
    rw [wit, or_bit, ih, aft_bit]
    constructor
    · rintro (⟨u, h1, m, h2, h3⟩ | ⟨v, h1, h2, h3⟩)
      · exact ⟨u, h1, m, by omega, h3⟩
      · obtain ⟨u, g1, m, g2, g3⟩ := ih.mp h2
        exact ⟨u, g1, m + 1, by omega, by show stp k n st (chn k n st x u m) x = j; rw [g3]; exact h3⟩
    · rintro ⟨u, h1, m, h2, h3⟩
      by_cases e : m = i + 1
      · subst e
        have hu := bit_lt hS h1
        exact Or.inr ⟨chn k n st x u i, chn_in hm hu i, ih.mpr ⟨u, h1, i, by omega, rfl⟩, h3⟩
      · exact Or.inl ⟨u, h1, m, by omega, h3⟩
theorem wcz_bit {k n E : Nat} {f : Nat → Int32} {st : Nat → Nat → Nat} (hm : mOK k n E f st) {x S j : Nat} (hS : S < 2 ^ n) : (wcz k n st x S).testBit j = true ↔ ∃ u, S.testBit u = true ∧ ∃ m, m ≤ n ∧ chn k n st x u m = j := by
  obtain ⟨i, e1, e2⟩ := wcz_fix hm (x := x) (S := S) (Nat.lt_of_lt_of_le hS (pow_le40 hm.2.1))
  rw [e1, wit_bit hm hS]
  constructor
  · rintro ⟨u, h1, m, _, h3⟩
    obtain ⟨i', g1, g2⟩ := chn_bd hm (x := x) (bit_lt hS h1) m
    exact ⟨u, h1, i', g1, by rw [g2]; exact h3⟩
  · rintro ⟨u, h1, m, _, h3⟩
    have h4 := (wit_bit hm (x := x) (j := j) hS (i + m)).mpr ⟨u, h1, m, by omega, h3⟩
    rw [wit_up e2 m] at h4
    exact (wit_bit hm hS i).mp h4
theorem aft_lt2 {k n E : Nat} {f : Nat → Int32} {st : Nat → Nat → Nat} (hm : mOK k n E f st) (S b : Nat) : aft (stp k n st) S b n < 2 ^ n := by
  refine Nat.lt_pow_two_of_testBit _ (fun i hi => ?_)
  cases e : (aft (stp k n st) S b n).testBit i with
  | false => rfl
  | true =>
    obtain ⟨u, _, _, h3⟩ := (aft_bit n).mp e
    have := stp_lt hm u b
    omega
theorem tie_drop {k n E x : Nat} {f : Nat → Int32} {st : Nat → Nat → Nat} (hm : mOK k n E f st) (S b : Nat) : (if b = x then 0 else wcz k n st x (aft (stp k n st) S b n)) = sAf (fun z1 z2 => if z1 < n then (if z2 = x then 0 else sby k n st x (stp k n st z1 z2) n) else 0) S b 41 := by
  refine bits_ext fun j => ?_
  rw [sAf_bit]
  have hn := hm.2.1
  by_cases hb : b = x
  · subst hb
    simp only [if_true]
    rw [zero_bit]
    refine ⟨fun q => q.elim, ?_⟩
    rintro ⟨u, h1, h2, h3⟩
    rw [if_bit, zero_bit] at h3
    exact h3.2
  · simp only [if_neg hb]
    rw [wcz_bit hm (aft_lt2 hm S b)]
    constructor
    · rintro ⟨v, h1, m, h2, h3⟩
      obtain ⟨u, g1, g2, g3⟩ := (aft_bit n).mp h1
      refine ⟨u, by omega, g2, if_bit.mpr ⟨g1, (sby_bit n).mpr ⟨m, h2, ?_⟩⟩⟩
      rw [g3]; exact h3
    · rintro ⟨u, h1, h2, h3⟩
      obtain ⟨h4, h5⟩ := if_bit.mp h3
      obtain ⟨m, g1, g2⟩ := (sby_bit n).mp h5
      exact ⟨_, (aft_bit n).mpr ⟨u, h4, h2, rfl⟩, m, g1, g2⟩
theorem tie_drop0 {k n E x : Nat} {f : Nat → Int32} {st : Nat → Nat → Nat} (hm : mOK k n E f st) : wcz k n st x 1 = sby k n st x 0 n := by
  refine bits_ext fun j => ?_
  have h1 : 1 < 2 ^ n := by
    have := Nat.pow_le_pow_right (n := 2) (by decide) hm.2.2.1
    omega
  rw [wcz_bit hm h1, sby_bit]
  constructor
  · rintro ⟨u, g1, m, g2, g3⟩
    rw [one_bit.mp g1] at g3
    exact ⟨m, g2, g3⟩
  · rintro ⟨m, g2, g3⟩
    exact ⟨0, by decide, m, g2, g3⟩
theorem shI_bit {k n : Nat} {st : Nat → Nat → Nat} {C : Nat → Nat} {u j : Nat} : ∀ o, (shI k n st C u o).testBit j = true ↔ j < o ∧ (C u).testBit j = true ∧ ∀ a, a < k → (C (stp k n st u a)).testBit (stp k n st j a) = true
  | 0 => by simp [shI]
  | o + 1 => by
    have ih := shI_bit (k := k) (n := n) (st := st) (C := C) (u := u) (j := j) o
    rw [shI]
    split
    · rename_i h
      rw [or_bit, ih, pow_bit]
      constructor
      · rintro (⟨h1, h2⟩ | h1)
        · exact ⟨by omega, h2⟩
        · subst h1; exact ⟨by omega, h⟩
      · rintro ⟨h1, h2⟩
        by_cases e : j = o
        · exact Or.inr e.symm
        · exact Or.inl ⟨by omega, h2⟩
    · rename_i h
      rw [ih]
      constructor
      · rintro ⟨h1, h2⟩; exact ⟨by omega, h2⟩
      · rintro ⟨h1, h2⟩
        by_cases e : j = o
        · subst e; exact absurd h2 h
        · exact ⟨by omega, h2⟩
theorem blr_bit {k n E : Nat} {st : Nat → Nat → Nat} (hm : rOK k n E st) : ∀ d u v, u < n → ((blr k n E st d u).testBit v = true ↔ v < n ∧ eqv k st (fun z9 => E.testBit z9) d u v) := by
  have hE := hm.2.2.2.1
  intro d
  induction d with
  | zero =>
    intro u v hu
    show (bl0 n E u).testBit v = true ↔ _
    rw [eqv_0, bl0, decide_eq_true hu, Bool.true_and]
    split
    · rename_i h
      rw [h]
      constructor
      · intro q; exact ⟨bit_lt hE q, q.symm⟩
      · intro q; exact q.2.symm
    · rename_i h
      rw [Nat.testBit_two_pow_sub_succ hE]
      have h9 : E.testBit u = false := by cases q : E.testBit u; rfl; exact absurd q h
      rw [h9, Bool.and_eq_true, decide_eq_true_eq]
      cases E.testBit v <;> simp
  | succ d ih =>
    intro u v hu
    show (if u < n then shI k n st (blr k n E st d) u n else blr k n E st d u).testBit v = true ↔ _
    rw [if_pos hu, shI_bit, ih u v hu]
    constructor
    · rintro ⟨h1, ⟨_, h2⟩, h3⟩
      refine ⟨h1, eqv_s.mpr ⟨h2 [] tx_nil (Nat.zero_le _), fun a ha => ?_⟩⟩
      have := h3 a ha
      rw [stp_in hu ha, stp_in h1 ha] at this
      exact ((ih _ _ (hm.2.2.2.2 u a hu ha)).mp this).2
    · rintro ⟨h1, h2⟩
      refine ⟨h1, ⟨h1, eqv_le (by omega) h2⟩, fun a ha => ?_⟩
      rw [stp_in hu ha, stp_in h1 ha]
      exact (ih _ _ (hm.2.2.2.2 u a hu ha)).mpr ⟨hm.2.2.2.2 v a h1 ha, (eqv_s.mp h2).2 a ha⟩
theorem alI_bit {LO : Nat → Nat} {S u T j : Nat} : ∀ q, (alI LO S u T q).testBit j = true ↔ T.testBit j = true ∨ (j = u ∧ ∃ q', q' < q ∧ S.testBit q' = true ∧ LO q' = LO u)
  | 0 => by simp [alI]
  | q + 1 => by
    have ih := alI_bit (LO := LO) (S := S) (u := u) (T := T) (j := j) q
    rw [alI]
    split
    · rename_i h
      rw [or_bit, ih, pow_bit]
      constructor
      · rintro ((h1 | ⟨h1, q', h2, h3⟩) | h1)
        · exact Or.inl h1
        · exact Or.inr ⟨h1, q', by omega, h3⟩
        · exact Or.inr ⟨h1.symm, q, by omega, h.1, h.2⟩
      · rintro (h1 | ⟨h1, q', h2, h3⟩)
        · exact Or.inl (Or.inl h1)
        · exact Or.inr h1.symm
    · rename_i h
      rw [ih]
      constructor
      · rintro (h1 | ⟨h1, q', h2, h3⟩)
        · exact Or.inl h1
        · exact Or.inr ⟨h1, q', by omega, h3⟩
      · rintro (h1 | ⟨h1, q', h2, h3⟩)
        · exact Or.inl h1
        · by_cases e : q' = q
          · subst e; exact absurd h3 h
          · exact Or.inr ⟨h1, q', by omega, h3⟩
theorem alk_bit {LO : Nat → Nat} {S n j : Nat} : ∀ u, (alk LO S n u).testBit j = true ↔ j < u ∧ ∃ q, q < n ∧ S.testBit q = true ∧ LO q = LO j
  | 0 => by simp [alk]
  | u + 1 => by
    rw [alk, alI_bit, alk_bit u]
    constructor
    · rintro (⟨h1, h2⟩ | ⟨h1, h2⟩)
      · exact ⟨by omega, h2⟩
      · subst h1; exact ⟨by omega, h2⟩
    · rintro ⟨h1, h2⟩
      by_cases e : j = u
      · subst e; exact Or.inr ⟨rfl, h2⟩
      · exact Or.inl ⟨by omega, h2⟩
theorem tie_widen {k n E d : Nat} {st : Nat → Nat → Nat} {LO : Nat → Nat} (hm : rOK k n E st) (hcl : ∀ u v, u < n → v < n → (LO u = LO v ↔ eqv k st (fun z9 => E.testBit z9) d u v)) {S b : Nat} : alk LO (aft (stp k n st) S b n) n n = sAf (fun z1 z2 => if z1 < n then blr k n E st d (stp k n st z1 z2) else 0) S b 41 := by
  refine bits_ext fun j => ?_
  have hn := hm.2.1
  have hM := rOK_m hm
  rw [alk_bit, sAf_bit]
  constructor
  · rintro ⟨h1, q, h2, h3, h4⟩
    obtain ⟨u, g1, g2, g3⟩ := (aft_bit n).mp h3
    refine ⟨u, by omega, g2, if_bit.mpr ⟨g1, ?_⟩⟩
    rw [g3]
    exact (blr_bit hm d q j h2).mpr ⟨h1, (hcl q j h2 h1).mp h4⟩
  · rintro ⟨u, h1, h2, h3⟩
    obtain ⟨h4, h5⟩ := if_bit.mp h3
    have h6 := stp_lt hM u b
    obtain ⟨h7, h8⟩ := (blr_bit hm d _ j h6).mp h5
    exact ⟨h7, _, h6, (aft_bit n).mpr ⟨u, h4, h2, rfl⟩, (hcl _ j h6 h7).mpr h8⟩
theorem tie_widen0 {k n E d : Nat} {st : Nat → Nat → Nat} {LO : Nat → Nat} (hm : rOK k n E st) (hcl : ∀ u v, u < n → v < n → (LO u = LO v ↔ eqv k st (fun z9 => E.testBit z9) d u v)) : alk LO 1 n n = blr k n E st d 0 := by
  refine bits_ext fun j => ?_
  have h0 := hm.2.2.1
  rw [alk_bit, blr_bit hm d 0 j h0]
  constructor
  · rintro ⟨h1, q, h2, h3, h4⟩
    rw [one_bit.mp h3] at h4
    exact ⟨h1, (hcl 0 j h0 h1).mp h4⟩
  · rintro ⟨h1, h2⟩
    exact ⟨h1, 0, h0, by decide, (hcl 0 j h0 h1).mpr h2⟩
theorem mnT_bit {T E j : Nat} : (mnT T E).testBit j = true ↔ T.testBit j = true ∨ (j = 0 ∧ ∃ v, T.testBit v = true ∧ E.testBit v = true) := by
  rw [mnT, or_bit]
  by_cases h : T &&& E = 0
  · rw [if_pos h, zero_bit]
    constructor
    · rintro (h1 | h1)
      · exact Or.inl h1
      · exact h1.elim
    · rintro (h1 | ⟨_, h1⟩)
      · exact Or.inl h1
      · exact absurd h (and_ne.mpr h1)
  · rw [if_neg h, one_bit]
    constructor
    · rintro (h1 | h1)
      · exact Or.inl h1
      · exact Or.inr ⟨h1, and_ne.mp h⟩
    · rintro (h1 | ⟨h1, _⟩)
      · exact Or.inl h1
      · exact Or.inr h1
theorem cmR_bit {n E u j : Nat} (hu : u < n) : (cmR n E u).testBit j = true ↔ u = j ∨ (j = 0 ∧ E.testBit u = true) := by
  rw [cmR, or_bit, pow_bit, decide_eq_true hu, Bool.true_and]
  by_cases h : E.testBit u = true
  · rw [if_pos h, one_bit]; simp [h]
  · rw [if_neg h, zero_bit]; simp [h]
theorem tie_many {k n E : Nat} {f : Nat → Int32} {st : Nat → Nat → Nat} (hm : mOK k n E f st) {S S' b : Nat} (hS : (S' = 1 ∧ S = 2 ^ 40) ∨ (S' = S ∧ S < 2 ^ 40)) : mnT (aft (stp k n st) S' b n) E = sAf (fun z1 z2 => if z1 < n then cmR n E (stp k n st z1 z2) else if z1 = 40 then cmR n E (stp k n st 0 z2) else 0) S b 41 := by
  refine bits_ext fun j => ?_
  have hn := hm.2.1
  have h0 := hm.2.2.1
  rw [mnT_bit, sAf_bit]
  rcases hS with ⟨e1, e2⟩ | ⟨e1, e2⟩
  · subst e1; subst e2
    have one : ∀ v, (aft (stp k n st) 1 b n).testBit v = true ↔ stp k n st 0 b = v := by
      intro v
      rw [aft_bit]
      constructor
      · rintro ⟨u, h1, h2, h3⟩; rw [one_bit.mp h2] at h3; exact h3
      · intro h; exact ⟨0, h0, by decide, h⟩
    constructor
    · intro h
      refine ⟨40, by omega, pow_bit.mpr rfl, ?_⟩
      rw [if_neg (by omega), if_pos rfl, cmR_bit (stp_lt hm 0 b)]
      rcases h with h | ⟨h1, v, h2, h3⟩
      · exact Or.inl ((one j).mp h)
      · rw [← (one v).mp h2] at h3; exact Or.inr ⟨h1, h3⟩
    · rintro ⟨u, h1, h2, h3⟩
      rw [← pow_bit.mp h2, if_neg (by omega), if_pos rfl, cmR_bit (stp_lt hm 0 b)] at h3
      rcases h3 with h | ⟨h4, h5⟩
      · exact Or.inl ((one j).mpr h)
      · exact Or.inr ⟨h4, _, (one _).mpr rfl, h5⟩
  · subst e1
    constructor
    · rintro (h | ⟨h1, v, h2, h3⟩)
      · obtain ⟨u, g1, g2, g3⟩ := (aft_bit n).mp h
        refine ⟨u, by omega, g2, ?_⟩
        rw [if_pos g1, cmR_bit (stp_lt hm u b)]
        exact Or.inl g3
      · obtain ⟨u, g1, g2, g3⟩ := (aft_bit n).mp h2
        refine ⟨u, by omega, g2, ?_⟩
        rw [if_pos g1, cmR_bit (stp_lt hm u b), g3]
        exact Or.inr ⟨h1, h3⟩
    · rintro ⟨u, h1, h2, h3⟩
      have hu := bit_lt e2 h2
      by_cases g : u < n
      · rw [if_pos g, cmR_bit (stp_lt hm u b)] at h3
        rcases h3 with h | ⟨h4, h5⟩
        · exact Or.inl ((aft_bit n).mpr ⟨u, g, h2, h⟩)
        · exact Or.inr ⟨h4, _, (aft_bit n).mpr ⟨u, g, h2, rfl⟩, h5⟩
      · rw [if_neg g, if_neg (by omega), zero_bit] at h3
        exact h3.elim
theorem tie_manyE {S E : Nat} (hS : S < 2 ^ 40) : (S &&& (E ||| 1099511627776) ≠ 0) ↔ S &&& E ≠ 0 := by
  rw [and_ne, and_ne]
  constructor
  · rintro ⟨j, h1, h2⟩
    rcases or_bit.mp h2 with h | h
    · exact ⟨j, h1, h⟩
    · rw [show (1099511627776 : Nat) = 2 ^ 40 from rfl, pow_bit] at h
      have := bit_lt hS h1
      omega
  · rintro ⟨j, h1, h2⟩
    exact ⟨j, h1, or_bit.mpr (Or.inl h2)⟩
