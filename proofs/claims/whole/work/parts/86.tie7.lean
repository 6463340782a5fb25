/-! THE REFERENCE'S WAYS IN THE CLASS'S WORDS -/
/-- one search steps as another -/
def simX (k : Nat) (A : Nat → Nat → Nat) (x0 : Nat) (B : Nat → Nat → Nat) (y0 : Nat) (V : Nat → Prop) (φ : Nat → Nat) : Prop := V x0 ∧ (∀ x b, V x → b < k → V (A x b)) ∧ φ x0 = y0 ∧ (∀ x b, V x → b < k → φ (A x b) = B (φ x) b) ∧ ∀ x y, V x → V y → φ x = φ y → x = y
theorem simX_end {k x0 y0 : Nat} {A B : Nat → Nat → Nat} {V : Nat → Prop} {φ : Nat → Nat} (hs : simX k A x0 B y0 V φ) {F L : Nat → Nat} {z : Nat} (h : exI k A x0 F L z z 0) : exI k B y0 (fun i => φ (F i)) L z z 0 ∧ ∀ i, i < z → V (F i) :=
  ⟨exI_map h hs.1 hs.2.1 hs.2.2.1 hs.2.2.2.1 hs.2.2.2.2 (fun q b hl => by rcases hl with e | ⟨e, e'⟩ <;> omega), exI_all h hs.1 hs.2.1⟩
theorem simX_cut {k x0 y0 : Nat} {A B : Nat → Nat → Nat} {V : Nat → Prop} {φ : Nat → Nat} (hs : simX k A x0 B y0 V φ) {F L : Nat → Nat} {p a : Nat} (h : exI k A x0 F L 200 p a ∧ p < 200 ∧ a < k ∧ ∀ i, i < 200 → F i ≠ A (F p) a) : exI k B y0 (fun i => φ (F i)) L 200 p a ∧ p < 200 ∧ a < k ∧ ∀ i, i < 200 → φ (F i) ≠ B (φ (F p)) a := by
  have hV := exI_all h.1 hs.1 hs.2.1
  refine ⟨exI_map h.1 hs.1 hs.2.1 hs.2.2.1 hs.2.2.2.1 hs.2.2.2.2 (fun q b hl => by rcases hl with e | ⟨e, e'⟩ <;> omega), h.2.1, h.2.2.1, fun i hi e => ?_⟩
  rw [← hs.2.2.2.1 _ _ (hV p h.2.1) h.2.2.1] at e
  exact h.2.2.2 i hi (hs.2.2.2.2 _ _ (hV i hi) (hs.2.1 _ _ (hV p h.2.1) h.2.2.1) e)
theorem opX_end {k mn : Nat} {Sz En Nx : Nat → Nat} {x0 y0 : Nat} {A B : Nat → Nat → Nat} {V : Nat → Prop} {φ : Nat → Nat} {Zf : Nat → Bool} {iev : Nat → Nat → Bool} {r : Int32} {mn' : Nat} {Sz' En' Nx' : Nat → Nat} (hs : simX k A x0 B y0 V φ) {PS PT L : Nat → Nat} {z : Nat} {Z : Nat → Bool} (hZ : ∀ s S, s < 128 → V (cdP s S) → iev s S = Zf (φ (cdP s S))) (h : exI k A x0 (cdF PS PT) L z z 0) (h2 : ∀ i, i < z → Z i = iev (PS i) (PT i)) (h3 : ∀ i, i < z → PS i < 128) (h4 : kpD k mn Sz En Nx (lng L Z) r mn' Sz' En' Nx') : opX k mn Sz En Nx B y0 Zf r mn' Sz' En' Nx' z := by
  obtain ⟨g1, g2⟩ := simX_end hs h
  exact Or.inl ⟨_, L, z, Z, g1, fun i hi => by rw [h2 i hi]; exact hZ _ _ (h3 i hi) (g2 i hi), rfl, h4⟩
theorem opX_cut {k mn : Nat} {Sz En Nx : Nat → Nat} {x0 y0 : Nat} {A B : Nat → Nat → Nat} {V : Nat → Prop} {φ : Nat → Nat} {Zf : Nat → Bool} {F L : Nat → Nat} {p a : Nat} (hs : simX k A x0 B y0 V φ) (h : exI k A x0 F L 200 p a ∧ p < 200 ∧ a < k ∧ ∀ i, i < 200 → F i ≠ A (F p) a) : opX k mn Sz En Nx B y0 Zf (-4) mn Sz En Nx 201 :=
  Or.inr ⟨_, L, p, a, simX_cut hs h, rfl, rfl, rfl, rfl, rfl, rfl⟩
theorem sim_pair {k a b x y : Nat} {Sz En Nx LO CN : Nat → Nat} (hm : rOK k (Sz a) (En a) (nxt Nx a)) (hm2 : rOK k (Sz b) (En b) (nxt Nx b)) : simX k (exA k 1 a b x y Sz En Nx LO CN) (cdP 0 0) (fun S9 a9 => pAf k (Sz a) (nxt Nx a) (Sz b) (nxt Nx b) S9 a9) 0 (fun c => c % 128 < Sz a ∧ c / 128 < Sz b) (fun c => c % 128 * 64 + c / 128) := by
  have n1 := hm.2.1
  have n2 := hm2.2.1
  have st1 : ∀ c b9, c % 128 < Sz a → c / 128 < Sz b → b9 < k → exA k 1 a b x y Sz En Nx LO CN c b9 = cdP (nxt Nx a (c % 128) b9) (nxt Nx b (c / 128) b9) := by
    intro c b9 h1 h2 hb
    unfold exA ldS ldT
    rw [if_pos (Or.inl rfl), if_pos rfl]
  unfold simX
  dsimp only
  refine ⟨⟨hm.2.2.1, hm2.2.2.1⟩, fun c b9 hc hb => ?_, rfl, fun c b9 hc hb => ?_, fun c d hc hd e => ?_⟩
  · have s1 := hm.2.2.2.2 _ b9 hc.1 hb
    have s2 := hm2.2.2.2.2 _ b9 hc.2 hb
    rw [st1 c b9 hc.1 hc.2 hb, cdP_m (by omega), cdP_d (by omega)]
    exact ⟨s1, s2⟩
  · have s1 := hm.2.2.2.2 _ b9 hc.1 hb
    rw [st1 c b9 hc.1 hc.2 hb, cdP_m (by omega), cdP_d (by omega)]
    unfold pAf
    rw [show (c % 128 * 64 + c / 128) / 64 = c % 128 by omega, show (c % 128 * 64 + c / 128) % 64 = c / 128 by omega, stp_in hc.1 hb, stp_in hc.2 hb]
  · omega
theorem iev_pair {k a b how av ce : Nat} {Sz En Nx : Nat → Nat} (hm2 : rOK k (Sz b) (En b) (nxt Nx b)) : ∀ s S, s < 128 → (cdP s S % 128 < Sz a ∧ cdP s S / 128 < Sz b) → ieV 1 a b how En av ce s S = (fun S9 => wnt how (inE (Sz a) (En a) (S9 / 64)) (inE (Sz b) (En b) (S9 % 64))) (cdP s S % 128 * 64 + cdP s S / 128) := by
  intro s S hs hV
  have n2 := hm2.2.1
  rw [cdP_m hs, cdP_d hs] at hV ⊢
  unfold ieV
  rw [if_pos (Or.inl rfl), if_pos rfl]
  dsimp only
  rw [show (s * 64 + S) / 64 = s by omega, show (s * 64 + S) % 64 = S by omega, inE, inE, decide_eq_true hV.1, decide_eq_true hV.2, Bool.true_and, Bool.true_and]
  rfl
theorem sim_join {k a b x y : Nat} {Sz En Nx LO CN : Nat → Nat} (hm : rOK k (Sz a) (En a) (nxt Nx a)) (hm2 : rOK k (Sz b) (En b) (nxt Nx b)) : simX k (exA k 2 a b x y Sz En Nx LO CN) (cdP 0 (if (En a).testBit 0 = true then 1 else 0)) (fun S9 a9 => jPl (Sz a) (En a) (stp k (Sz a) (nxt Nx a) (S9 / 1099511627776) a9) (aft (stp k (Sz b) (nxt Nx b)) (S9 % 1099511627776) a9 (Sz b))) (jPl (Sz a) (En a) 0 0) (fun c => c % 128 < Sz a ∧ c / 128 < 2 ^ 40) (fun c => c % 128 * 1099511627776 + c / 128) := by
  have n1 := hm.2.1
  have hM2 := rOK_m hm2
  have st1 : ∀ c b9, c % 128 < Sz a → b9 < k → exA k 2 a b x y Sz En Nx LO CN c b9 = cdP (nxt Nx a (c % 128) b9) (aft (stp k (Sz b) (nxt Nx b)) (c / 128) b9 (Sz b) ||| (if (En a).testBit (nxt Nx a (c % 128) b9) = true then 1 else 0)) := by
    intro c b9 h1 hb
    unfold exA ldS ldT ldS
    rw [if_pos (by omega), if_neg (by omega), if_pos rfl]
  have orl : ∀ c b9 v, (aft (stp k (Sz b) (nxt Nx b)) (c / 128) b9 (Sz b) ||| (if (En a).testBit v = true then 1 else 0)) < 2 ^ 40 := fun c b9 v => Nat.or_lt_two_pow (aft_lt hM2 _ _ _) (by split <;> decide)
  unfold simX
  dsimp only
  refine ⟨?_, fun c b9 hc hb => ?_, ?_, fun c b9 hc hb => ?_, fun c d hc hd e => ?_⟩
  · rw [cdP_m (by decide), cdP_d (by decide)]
    exact ⟨hm.2.2.1, by split <;> decide⟩
  · have s1 := hm.2.2.2.2 _ b9 hc.1 hb
    rw [st1 c b9 hc.1 hb, cdP_m (by omega), cdP_d (by omega)]
    exact ⟨s1, orl _ _ _⟩
  · rw [cdP_m (by decide), cdP_d (by decide)]
    unfold jPl inE
    rw [decide_eq_true hm.2.2.1, Bool.true_and, Nat.zero_or]
  · have s1 := hm.2.2.2.2 _ b9 hc.1 hb
    rw [st1 c b9 hc.1 hb, cdP_m (by omega), cdP_d (by omega)]
    have h40 : (2 : Nat) ^ 40 = 1099511627776 := by decide
    have d1 : (c % 128 * 1099511627776 + c / 128) / 1099511627776 = c % 128 := by have := hc.2; omega
    have d2 : (c % 128 * 1099511627776 + c / 128) % 1099511627776 = c / 128 := by have := hc.2; omega
    rw [d1, d2, stp_in hc.1 hb]
    unfold jPl inE
    rw [decide_eq_true s1, Bool.true_and]
  · have h40 : (2 : Nat) ^ 40 = 1099511627776 := by decide
    have := hc.2
    have := hd.2
    omega
theorem iev_join {a b av ce : Nat} {Sz En : Nat → Nat} (h40 : Sz a ≤ 40) : ∀ s S, s < 128 → (cdP s S % 128 < Sz a ∧ cdP s S / 128 < 2 ^ 40) → ieV 2 a b 0 En av ce s S = (fun S9 => decide ((S9 % 1099511627776) &&& En b ≠ 0)) (cdP s S % 128 * 1099511627776 + cdP s S / 128) := by
  intro s S hs hV
  rw [cdP_m hs, cdP_d hs] at hV ⊢
  unfold ieV
  have h41 : (2 : Nat) ^ 40 = 1099511627776 := by decide
  rw [if_neg (by omega), if_neg (by omega), if_neg (by omega), if_pos rfl]
  dsimp only
  rw [show (s * 1099511627776 + S) % 1099511627776 = S by omega]
/-- ways over sets of states alone -/
theorem sim_set {k wy a x y S0 T0 : Nat} {Sz En Nx LO CN : Nat → Nat} {B : Nat → Nat → Nat} (hwy : 4 ≤ wy ∧ wy ≤ 8) (h0 : S0 = T0) (hB : ∀ S b, b < k → ldT k wy a a x y Sz En Nx LO CN 0 S b = B S b) : simX k (exA k wy a a x y Sz En Nx LO CN) (cdP 0 S0) B T0 (fun c => c % 128 = 0) (fun c => c / 128) := by
  have st1 : ∀ c b9, c % 128 = 0 → exA k wy a a x y Sz En Nx LO CN c b9 = cdP 0 (ldT k wy a a x y Sz En Nx LO CN 0 (c / 128) b9) := by
    intro c b9 h1
    unfold exA ldS
    rw [if_neg (by omega), h1]
  unfold simX
  dsimp only
  refine ⟨cdP_m (by decide), fun c b9 hc hb => ?_, ?_, fun c b9 hc hb => ?_, fun c d hc hd e => ?_⟩
  · rw [st1 c b9 hc]; exact cdP_m (by decide)
  · rw [← h0]; exact cdP_d (by decide)
  · rw [st1 c b9 hc, cdP_d (by decide)]; exact hB _ _ hb
  · omega
theorem iev_set {wy a ho av ce en : Nat} {En : Nat → Nat} (hwy : 5 ≤ wy ∧ wy ≤ 8) (he : (if ho = 2 then av else En a) = en) : ∀ s S, s < 128 → cdP s S % 128 = 0 → ieV wy a a ho En av ce s S = (fun S9 => decide (S9 &&& en ≠ 0)) (cdP s S / 128) := by
  intro s S hs hV
  rw [cdP_m hs] at hV
  rw [cdP_d hs]
  unfold ieV
  rw [if_neg (by omega), if_neg (by omega), if_neg (by omega), if_neg (by omega), he]
theorem iev_turn {a av ce : Nat} {En : Nat → Nat} : ∀ s S, s < 128 → cdP s S % 128 = 0 → ieV 4 a a 0 En av ce s S = (fun S9 => decide (S9 &&& 1 ≠ 0)) (cdP s S / 128) := by
  intro s S hs hV
  rw [cdP_d hs]
  unfold ieV
  rw [if_neg (by omega), if_pos rfl]
  dsimp only
  rw [decide_eq_decide, Nat.and_one_is_mod]
  omega
theorem sim_many {k a x y : Nat} {Sz En Nx LO CN : Nat → Nat} (hm : rOK k (Sz a) (En a) (nxt Nx a)) : simX k (exA k 3 a a x y Sz En Nx LO CN) (cdP 100 0) (fun S9 a9 => sAf (fun z1 z2 => if z1 < Sz a then cmR (Sz a) (En a) (stp k (Sz a) (nxt Nx a) z1 z2) else if z1 = 40 then cmR (Sz a) (En a) (stp k (Sz a) (nxt Nx a) 0 z2) else 0) S9 a9 41) 1099511627776 (fun c => c = cdP 100 0 ∨ (c % 128 = 0 ∧ c / 128 < 2 ^ 40)) (fun c => if c % 128 = 100 then 1099511627776 else c / 128) := by
  have hM := rOK_m hm
  have st1 : ∀ c b9, exA k 3 a a x y Sz En Nx LO CN c b9 = cdP 0 (mnT (aft (stp k (Sz a) (nxt Nx a)) (mnS (c % 128) (c / 128)) b9 (Sz a)) (En a)) := by
    intro c b9
    unfold exA ldS ldT
    rw [if_neg (by omega), if_neg (by omega), if_neg (by omega), if_pos rfl]
  have h41 : (2 : Nat) ^ 40 = 1099511627776 := by decide
  have e100 : cdP 100 0 % 128 = 100 := cdP_m (by decide)
  unfold simX
  dsimp only
  refine ⟨Or.inl rfl, fun c b9 hc hb => ?_, by rw [if_pos e100], fun c b9 hc hb => ?_, fun c d hc hd e => ?_⟩
  · rw [st1]
    exact Or.inr ⟨cdP_m (by decide), by rw [cdP_d (by decide)]; exact mnT_lt (aft_lt hM _ _ _)⟩
  · rw [st1, cdP_m (by decide), if_neg (by decide), cdP_d (by decide)]
    rcases hc with hc | ⟨h1, h2⟩
    · rw [hc, e100, if_pos rfl, show cdP 100 0 / 128 = 0 from cdP_d (by decide)]
      exact tie_many hM (Or.inl ⟨by unfold mnS; rw [if_pos rfl], h41.symm⟩)
    · rw [h1, if_neg (by decide)]
      exact tie_many hM (Or.inr ⟨by unfold mnS; rw [if_neg (by decide)], h2⟩)
  · rcases hc with hc | ⟨h1, h2⟩ <;> rcases hd with hd | ⟨g1, g2⟩
    · rw [hc, hd]
    · rw [hc, e100, if_pos rfl, g1, if_neg (by decide)] at e
      omega
    · rw [hd, e100, if_pos rfl, h1, if_neg (by decide)] at e
      omega
    · rw [h1, g1, if_neg (by decide), if_neg (by decide)] at e
      omega
theorem iev_many {a av ce : Nat} {En : Nat → Nat} (hE : En a < 2 ^ 40) : ∀ s S, s < 128 → (cdP s S = cdP 100 0 ∨ (cdP s S % 128 = 0 ∧ cdP s S / 128 < 2 ^ 40)) → ieV 3 a a 0 En av ce s S = (fun S9 => decide (S9 &&& (En a ||| 1099511627776) ≠ 0)) (if cdP s S % 128 = 100 then 1099511627776 else cdP s S / 128) := by
  intro s S hs hV
  have h41 : (2 : Nat) ^ 40 = 1099511627776 := by decide
  rcases hV with hV | ⟨h1, h2⟩
  · obtain ⟨e1, e2⟩ := cdP_inj hs (by decide) hV
    subst e1; subst e2
    rw [show cdP 100 0 % 128 = 100 from cdP_m (by decide), if_pos rfl]
    unfold ieV
    rw [if_neg (by omega), if_neg (by omega), if_pos rfl]
    dsimp only
    refine (decide_eq_true (and_ne.mpr ⟨40, ?_, ?_⟩)).symm
    · rw [← h41]; exact pow_bit.mpr rfl
    · rw [← h41]; exact or_bit.mpr (Or.inr (pow_bit.mpr rfl))
  · rw [cdP_m hs] at h1 ⊢
    rw [cdP_d hs] at h2 ⊢
    subst h1
    rw [if_neg (by decide)]
    unfold ieV
    rw [if_neg (by omega), if_neg (by omega), if_neg (by omega), if_neg (by omega), if_neg (by omega)]
    dsimp only
    rw [decide_eq_decide]
    exact (tie_manyE h2).symm
theorem sim_when {k a x y op z : Nat} {Sz En Nx LO CN cl : Nat → Nat} (hm : rOK k (Sz a) (En a) (nxt Nx a)) (hcn : ∀ s l, s < cdM op z → l < k → cdO cl op z s l (CN (4 * s + l))) : simX k (exA k 9 a a x y Sz En Nx LO CN) (cdP 0 0) (whA k (Sz a) (nxt Nx a) cl op z) 0 (fun c => c % 128 < Sz a ∧ c / 128 < cdM op z) (fun c => c) := by
  have n1 := hm.2.1
  have st1 : ∀ c b9, c % 128 < Sz a → c / 128 < cdM op z → b9 < k → exA k 9 a a x y Sz En Nx LO CN c b9 = cdP (nxt Nx a (c % 128) b9) (CN (4 * (c / 128) + b9)) := by
    intro c b9 h1 h2 hb
    unfold exA ldS ldT
    rw [if_pos (by omega), if_neg (by omega), if_neg (by omega), if_neg (by omega), if_neg (by omega), if_neg (by omega), if_neg (by omega), if_neg (by omega), if_pos rfl]
  unfold simX
  dsimp only
  refine ⟨⟨hm.2.2.1, ?_⟩, fun c b9 hc hb => ?_, rfl, fun c b9 hc hb => ?_, fun c d _ _ e => e⟩
  · show 0 < cdM op z
    unfold cdM
    split
    · omega
    · split <;> omega
  · have s1 := hm.2.2.2.2 _ b9 hc.1 hb
    rw [st1 c b9 hc.1 hc.2 hb, cdP_m (by omega), cdP_d (by omega)]
    exact ⟨s1, cdO_lt hc.2 (hcn _ _ hc.2 hb)⟩
  · rw [st1 c b9 hc.1 hc.2 hb, whA, stp_in hc.1 hb, csn_eq (hcn _ _ hc.2 hb)]
theorem iev_when {a how av z op : Nat} {Sz En : Nat → Nat} : ∀ s S, s < 128 → (cdP s S % 128 < Sz a ∧ cdP s S / 128 < cdM op z) → ieV 9 a a how En av (2 ^ z) s S = whZ how (Sz a) (En a) z (cdP s S) := by
  intro s S hs hV
  rw [cdP_m hs] at hV
  unfold ieV whZ
  rw [cdP_m hs, cdP_d hs, if_pos (by omega), if_neg (by omega), inE, decide_eq_true hV.1, Bool.true_and, Nat.testBit_two_pow]
  rw [show decide (z = S) = decide (S = z) from decide_eq_decide.mpr eq_comm]
  rfl
/-! MACHINES THAT ARE KEPT -/
def mcO (k mn : Nat) (Sz En Nx : Nat → Nat) : Prop := mn ≤ 60 ∧ ∀ i, i < mn → rOK k (Sz i) (En i) (nxt Nx i) ∧ can k (Sz i) (nxt Nx i) (fun s => (En i).testBit s)
theorem rls_rOK {k n E : Nat} {g : List Nat → Bool} {st : Nat → Nat → Nat} (hk : k ≤ 4) (h : rls k g n E st) : rOK k n E st := ⟨hk, h.2.1, h.1.1, h.2.2.1, h.1.2.1⟩
theorem rOK_cg {k n E : Nat} {st st2 : Nat → Nat → Nat} (h : rOK k n E st) (e : ∀ q b, q < n → b < k → st2 q b = st q b) : rOK k n E st2 := ⟨h.1, h.2.1, h.2.2.1, h.2.2.2.1, fun u a hu ha => by rw [e u a hu ha]; exact h.2.2.2.2 u a hu ha⟩
theorem dr_cg {k n : Nat} {st st2 : Nat → Nat → Nat} (hc : ∀ s a, s < n → a < k → st s a < n) (e : ∀ q b, q < n → b < k → st2 q b = st q b) : ∀ (u : List Nat) (x : Nat), x < n → tx k u → dr st2 x u = dr st x u
  | [], _, _, _ => rfl
  | a :: u, x, hx, hu => by
    show dr st2 (st2 x a) u = dr st (st x a) u
    rw [e x a hx (tx_cons.mp hu).1]
    exact dr_cg hc e u _ (hc x a hx (tx_cons.mp hu).1) (tx_cons.mp hu).2
theorem can_cg {k n : Nat} {st st2 : Nat → Nat → Nat} {f : Nat → Bool} (h : can k n st f) (e : ∀ q b, q < n → b < k → st2 q b = st q b) : can k n st2 f := by
  obtain ⟨h1, h2, h3, h4, h5⟩ := h
  refine ⟨h1, fun s a hs ha => by rw [e s a hs ha]; exact h2 s a hs ha, fun x y hx hy q => h3 x y hx hy (fun u hu => by rw [← dr_cg h2 e u x hx hu, ← dr_cg h2 e u y hy hu]; exact q u hu), fun x hx0 hx => ?_, fun s a hs ha x hx0 hx => ?_⟩
  · obtain ⟨s, a, g1, g2, g3⟩ := h4 x hx0 hx
    exact ⟨s, a, g1, g2, by rw [e s a (by omega) g2]; exact g3⟩
  · rw [e s a hs ha] at hx
    obtain ⟨s', a', g1, g2, g3⟩ := h5 s a hs ha x hx0 hx
    exact ⟨s', a', g1, g2, by rw [e s' a' (by omega) g1]; exact g3⟩
theorem kpD_mc {k mn : Nat} {Sz En Nx : Nat → Nat} {g : List Nat → Bool} {r : Int32} {mn' : Nat} {Sz' En' Nx' : Nat → Nat} (hk : k ≤ 4) (hm : mcO k mn Sz En Nx) (h : kpD k mn Sz En Nx g r mn' Sz' En' Nx') : mcO k mn' Sz' En' Nx' := by
  rcases h with ⟨_, _, a3, a4, a5, a6⟩ | ⟨n, E, st, hr, h⟩
  · rw [a3, a4, a5, a6]; exact hm
  · rcases h with ⟨i0, _, p4, p5, p6, p7, p8⟩ | ⟨p1, p2, p3, p4, p5, p6, p7⟩ | ⟨⟨p1, p2, p3, p4⟩, p5, p6, p7, p8⟩
    · rw [p5, p6, p7, p8]; exact hm
    · rw [p4, p5, p6, p7]; exact hm
    · rw [p6, p7, p8]
      refine ⟨by omega, fun i hi => ?_⟩
      by_cases e : i = mn
      · subst e
        rw [nu_s, nu_s]
        exact ⟨rOK_cg (rls_rOK hk hr) p3, can_cg hr.1 p3⟩
      · rw [nu_n e, nu_n e]
        obtain ⟨g1, g2⟩ := hm.2 i (by omega)
        have n4 := g1.2.1
        have eq : ∀ q b, q < Sz i → b < k → nxt Nx' i q b = nxt Nx i q b := fun q b hq hb => by unfold nxt; exact p4 _ (by omega)
        exact ⟨rOK_cg g1 eq, can_cg g2 eq⟩
theorem sMc_mc {k mn : Nat} {Sz En Nx Sz' En' Nx' : Nat → Nat} (h : sMc k mn Sz En Nx Sz' En' Nx') (hm : mcO k mn Sz En Nx) : mcO k mn Sz' En' Nx' := by
  refine ⟨hm.1, fun i hi => ?_⟩
  obtain ⟨g1, g2⟩ := hm.2 i hi
  obtain ⟨e1, e2, e3⟩ := h i hi
  rw [← e1, ← e2]
  exact ⟨rOK_cg g1 (fun q b hq hb => (e3 q b hq hb).symm), can_cg g2 (fun q b hq hb => (e3 q b hq hb).symm)⟩
theorem tooL_cg {k : Nat} {g g2 : List Nat → Bool} (hg : ∀ u, tx k u → g u = g2 u) (h : tooL k g) : tooL k g2 := by
  obtain ⟨U, h1, h2⟩ := h
  exact ⟨U, h1, fun i j hi hj e => h2 i j hi hj (fun v hv => by rw [hg _ (tx_app.mpr ⟨h1 i hi, hv⟩), hg _ (tx_app.mpr ⟨h1 j hj, hv⟩)]; exact e v hv)⟩
theorem rls_cg {k n E : Nat} {g g2 : List Nat → Bool} {st : Nat → Nat → Nat} (hg : ∀ u, tx k u → g u = g2 u) (h : rls k g n E st) : rls k g2 n E st := ⟨h.1, h.2.1, h.2.2.1, fun u hu => by rw [h.2.2.2 u hu]; exact hg u hu⟩
theorem kpD_cg {k mn : Nat} {Sz En Nx : Nat → Nat} {g g2 : List Nat → Bool} {r : Int32} {mn' : Nat} {Sz' En' Nx' : Nat → Nat} (hg : ∀ u, tx k u → g u = g2 u) (h : kpD k mn Sz En Nx g r mn' Sz' En' Nx') : kpD k mn Sz En Nx g2 r mn' Sz' En' Nx' := by
  rcases h with ⟨a1, a2⟩ | ⟨n, E, st, hr, h⟩
  · exact Or.inl ⟨tooL_cg hg a1, a2⟩
  · exact Or.inr ⟨n, E, st, rls_cg hg hr, h⟩
/-- a machine's texts with other ends -/
theorem lng_ends {k n S : Nat} {L : Nat → Nat} {Z : Nat → Bool} {st : Nat → Nat → Nat} (hc : ∀ s a, s < n → a < k → st s a < n) (h0 : 0 < n) (hL : ∀ p b, p < n → b < k → dL L p b = st p b) (hZ : ∀ p, p < n → Z p = S.testBit p) (u : List Nat) (hu : tx k u) : lng L Z u = S.testBit (dr st 0 u) := by
  rw [lng, dr_cg hc hL u 0 h0 hu]
  exact hZ _ (dr_lt hc u 0 h0 hu)
theorem can_ord {k n : Nat} {L : Nat → Nat} {st : Nat → Nat → Nat} {f : Nat → Bool} (h : can k n st f) (hL : ∀ p b, p < n → b < k → dL L p b = st p b) : (∀ p a, p < n → a < k → dL L p a < n) ∧ (∀ x, 0 < x → x < n → ∃ q b, q < x ∧ b < k ∧ dL L q b = x) ∧ ∀ p a, p < n → a < k → ∀ x, 0 < x → x < dL L p a → ∃ q b, b < k ∧ (q < p ∨ (q = p ∧ b < a)) ∧ dL L q b = x := by
  have := can_cg h hL
  exact ⟨this.2.1, this.2.2.2.1, this.2.2.2.2⟩
theorem rls_not {k n E : Nat} {st : Nat → Nat → Nat} (hm : rOK k n E st) (hc : can k n st (fun s => E.testBit s)) : rls k (fun u => (2 ^ 64 - 1 - E).testBit (dr st 0 u)) n ((2 ^ 64 - 1 - E) % 2 ^ n) st := by
  have hn := hm.2.1
  have hE := hm.E40
  have b1 : ∀ x, x < n → ((2 ^ 64 - 1 - E) % 2 ^ n).testBit x = !E.testBit x := by
    intro x hx
    rw [Nat.testBit_mod_two_pow, decide_eq_true hx, Bool.true_and, show 2 ^ 64 - 1 - E = 2 ^ 64 - (E + 1) by omega, Nat.testBit_two_pow_sub_succ (by omega), decide_eq_true (by omega), Bool.true_and]
  have b2 : ∀ x, x < n → (2 ^ 64 - 1 - E).testBit x = !E.testBit x := by
    intro x hx
    rw [show 2 ^ 64 - 1 - E = 2 ^ 64 - (E + 1) by omega, Nat.testBit_two_pow_sub_succ (by omega), decide_eq_true (by omega), Bool.true_and]
  obtain ⟨h1, h2, h3, h4, h5⟩ := hc
  refine ⟨⟨h1, h2, fun x y hx hy q => h3 x y hx hy (fun u hu => ?_), h4, h5⟩, hn, Nat.mod_lt _ (Nat.pow_pos (by decide)), fun u hu => ?_⟩
  · have := q u hu
    dsimp only at this ⊢
    rw [b1 _ (dr_lt h2 u x hx hu), b1 _ (dr_lt h2 u y hy hu)] at this
    cases e1 : E.testBit (dr st x u) <;> cases e2 : E.testBit (dr st y u) <;> rw [e1, e2] at this <;> first | rfl | cases this
  · have := dr_lt h2 u 0 h1 hu
    dsimp only
    rw [b1 _ this, b2 _ this]
theorem rls_one {k E : Nat} {c : Bool} (hE : E < 2) (hb : E.testBit 0 = c) : rls k (fun _ => c) 1 E (fun _ _ => 0) := by
  refine ⟨⟨by decide, fun _ _ _ _ => Nat.zero_lt_one, fun x y hx hy _ => by omega, fun x h1 h2 => by omega, fun _ _ _ _ x _ hx => absurd hx (Nat.not_lt_zero x)⟩, by decide, hE, fun u hu => ?_⟩
  have : dr (fun _ _ => 0) 0 u = 0 := by
    induction u with
    | nil => rfl
    | cons a u ih => exact ih (tx_cons.mp hu).2
  rw [this]; exact hb
theorem lng_one {k : Nat} {L : Nat → Nat} {Z : Nat → Bool} {c : Bool} (hL : ∀ b, b < k → dL L 0 b = 0) (hZ : Z 0 = c) (u : List Nat) (hu : tx k u) : lng L Z u = c := by
  have : dr (dL L) 0 u = 0 := by
    induction u with
    | nil => rfl
    | cons a u ih =>
      show dr (dL L) (dL L 0 a) u = 0
      rw [hL a (tx_cons.mp hu).1]
      exact ih (tx_cons.mp hu).2
  rw [lng, this]; exact hZ
theorem nI_inj9 {x y : Nat} (hx : x < 2 ^ 31) (hy : y < 2 ^ 31) (h : nI x = nI y) : x = y := by
  have := congrArg Int32.toInt h
  rw [nI_toInt hx, nI_toInt hy] at this
  omega
theorem sam_rsam {k i n E : Nat} {Sz En Nx : Nat → Nat} {ff f : Nat → Int32} {st : Nat → Nat → Nat} (hi : mOK k (Sz i) (En i) ff (nxt Nx i)) (hm : mOK k n E f st) : sam (Sz i) (En i) ff n E f ↔ rsam Sz En Nx k i n E st := by
  have hk := hm.1
  constructor
  · rintro ⟨h1, h2, h3⟩
    refine ⟨h1, h2, fun q b hq hb => ?_⟩
    have a1 := hi.2.2.2.2.1 q b (by omega) hb
    have a2 := hm.2.2.2.2.1 q b hq hb
    have n1 := hi.2.1
    have n2 := hm.2.1
    have e0 := h3 q (by omega)
    have e1 : pkN ff q = pkN f q := nI_inj9 (by have := pkN_lt ff q; omega) (by have := pkN_lt f q; omega) e0
    have e2 := pkN_get ff q b (by omega)
    rw [e1, pkN_get f q b (by omega), a1.1, a2.1, lo6_n (show st q b < 64 by omega), lo6_n (show nxt Nx i q b < 64 by omega)] at e2
    exact e2.symm
  · rintro ⟨h1, h2, h3⟩
    refine ⟨h1, h2, fun x hx => congrArg nI (pkN_cg fun b hb => ?_)⟩
    rcases Nat.lt_or_ge b k with q | q
    · rw [(hi.2.2.2.2.1 x b (by omega) q).1, (hm.2.2.2.2.1 x b (by omega) q).1, h3 _ _ (by omega) q]
    · rw [hi.2.2.2.2.2 x b (by omega) q hb, hm.2.2.2.2.2 x b (by omega) q hb]
theorem mOK_cg {k n E : Nat} {f g : Nat → Int32} {st st2 : Nat → Nat → Nat} (h : mOK k n E f st) (hf : ∀ j, j < 160 → g j = f j) (e : ∀ q b, q < n → b < k → st2 q b = st q b) : mOK k n E g st2 := by
  have hk := h.1
  have hn := h.2.1
  exact ⟨h.1, h.2.1, h.2.2.1, h.2.2.2.1, fun s a hs ha => by rw [hf _ (by omega), e s a hs ha]; exact h.2.2.2.2.1 s a hs ha, fun s a hs ha ha4 => by rw [hf _ (by omega)]; exact h.2.2.2.2.2 s a hs ha ha4⟩
/-- steps of one machine more -/
def mkN (Nx : Nat → Nat) (mn : Nat) (st : Nat → Nat → Nat) (x : Nat) : Nat := if x < 160 * mn then Nx x else st ((x - 160 * mn) / 4) ((x - 160 * mn) % 4)
theorem mkN_new {Nx : Nat → Nat} {mn : Nat} {st : Nat → Nat → Nat} {q b : Nat} (hb : b < 4) : nxt (mkN Nx mn st) mn q b = st q b := by
  unfold nxt mkN
  rw [if_neg (by omega), show (160 * mn + 4 * q + b - 160 * mn) / 4 = q by omega, show (160 * mn + 4 * q + b - 160 * mn) % 4 = b by omega]
theorem mkN_old {Nx : Nat → Nat} {mn : Nat} {st : Nat → Nat → Nat} {x : Nat} (h : x < 160 * mn) : mkN Nx mn st x = Nx x := by unfold mkN; rw [if_pos h]
theorem mkN_i {Nx : Nat → Nat} {mn i : Nat} {st : Nat → Nat → Nat} {q b : Nat} (hi : i < mn) (hq : q < 40) (hb : b < 4) : nxt (mkN Nx mn st) i q b = nxt Nx i q b := by unfold nxt; exact mkN_old (by omega)
