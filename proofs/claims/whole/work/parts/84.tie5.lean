/-! NUMERALS -/
theorem sdF_1 {z : Nat} {D : Nat → Nat} {i b a : Nat} (h : sdF z D i b a = 1) : i < z ∧ b = 1 ∧ a = D i := by
  unfold sdF at h
  split at h
  · omega
  · split at h
    · omega
    · split at h <;> omega
def cmD (z : Nat) (D G : Nat → Nat) : Nat → Nat
  | 0 => 1
  | d + 1 => sdF z D d (cmD z D G d) (G d)
def nuV (zl zh : Nat) (dl dh : Nat → Nat) (S : Nat) : Prop := S < 3 ∨ ∃ d x y, S = cod d x y ∧ 1 ≤ d ∧ d ≤ zh ∧ x < 3 ∧ y < 3 ∧ (x = 1 → y = cmD zh dh dl d) ∧ (y = 1 → x = cmD zl dl dh d)
theorem cod_d {d x y : Nat} (hx : x < 3) (hy : y < 3) : (cod d x y - 3) / 9 = d ∧ (cod d x y - 3) / 3 % 3 = x ∧ (cod d x y - 3) % 3 = y ∧ 3 ≤ cod d x y := by
  unfold cod; omega
theorem nuV_s {zl zh : Nat} {dl dh : Nat → Nat} {S a : Nat} (hzh : 1 ≤ zh) (h : nuV zl zh dl dh S) : nuV zl zh dl dh (nAf zl zh dl dh S a) := by
  unfold nAf
  split
  · split
    · exact Or.inl (by omega)
    · refine Or.inr ⟨1, _, _, rfl, Nat.le_refl _, hzh, sdF_lt (by decide), sdF_lt (by decide), fun e => ?_, fun e => ?_⟩
      · rw [(sdF_1 e).2.2]; rfl
      · rw [(sdF_1 e).2.2]; rfl
  · rename_i h0
    split
    · exact Or.inl (by omega)
    · rename_i h1
      rcases h with h | ⟨d, x, y, e, h2, h3, h4, h5, h6, h7⟩
      · omega
      · obtain ⟨g1, g2, g3, g4⟩ := cod_d (d := d) h4 h5
        rw [e, g1, g2, g3]
        rw [e, g1] at h1
        refine Or.inr ⟨d + 1, _, _, rfl, by omega, by omega, sdF_lt h4, sdF_lt h5, fun q => ?_, fun q => ?_⟩
        · obtain ⟨q1, q2, q3⟩ := sdF_1 q
          rw [h6 q2, q3]; rfl
        · obtain ⟨q1, q2, q3⟩ := sdF_1 q
          rw [h7 q2, q3]; rfl
def nuX (x y : Nat) : Nat := if x = 1 then 0 else if y = 1 then 1 else 2 + x + y / 2
theorem exN_no {k zl zh p a : Nat} {dl dh F L : Nat → Nat} (hz1 : 1 ≤ zh) (hz : zh ≤ 30) (h : exI k (fun S9 a9 => nAf zl zh dl dh S9 a9) 0 F L 200 p a) : False := by
  have hV := exI_all (V := nuV zl zh dl dh) h (Or.inl (by decide)) (fun x b hx _ => nuV_s hz1 hx)
  have hle := php_le (a := 200) (c := 183) (f := fun i => if F i < 3 then F i else 3 + 6 * ((F i - 3) / 9 - 1) + nuX ((F i - 3) / 3 % 3) ((F i - 3) % 3)) (fun i hi => ?_) (fun i j hi hj e => ?_)
  · omega
  · rcases hV i hi with q | ⟨d, x, y, q, h2, h3, h4, h5, h6, h7⟩
    · rw [if_pos q]; omega
    · obtain ⟨g1, g2, g3, g4⟩ := cod_d (d := d) h4 h5
      rw [q, if_neg (by omega), g1, g2, g3]
      unfold nuX
      split
      · omega
      · split <;> omega
  · refine h.2.2.2.1 i j hi hj ?_
    rcases hV i hi with q | ⟨d, x, y, q, h2, h3, h4, h5, h6, h7⟩
    · rcases hV j hj with q' | ⟨d', x', y', q', h2', h3', h4', h5', h6', h7'⟩
      · rw [if_pos q, if_pos q'] at e; exact e
      · obtain ⟨g1, g2, g3, g4⟩ := cod_d (d := d') h4' h5'
        rw [if_pos q, q', if_neg (by omega)] at e
        omega
    · obtain ⟨g1, g2, g3, g4⟩ := cod_d (d := d) h4 h5
      rcases hV j hj with q' | ⟨d', x', y', q', h2', h3', h4', h5', h6', h7'⟩
      · rw [if_pos q', q, if_neg (by omega)] at e
        omega
      · obtain ⟨f1, f2, f3, f4⟩ := cod_d (d := d') h4' h5'
        rw [q, q', if_neg (by omega), if_neg (by omega), g1, g2, g3, f1, f2, f3] at e
        have b1 : nuX x y < 6 := by unfold nuX; split; omega; split <;> omega
        have b2 : nuX x' y' < 6 := by unfold nuX; split; omega; split <;> omega
        have ed : d = d' := by omega
        have ex : nuX x y = nuX x' y' := by omega
        subst ed
        have : x = x' ∧ y = y' := by
          unfold nuX at ex
          by_cases a1 : x = 1 <;> by_cases a2 : x' = 1
          · exact ⟨by omega, by rw [h6 a1, h6' a2]⟩
          · rw [if_pos a1, if_neg a2] at ex
            split at ex <;> omega
          · rw [if_neg a1, if_pos a2] at ex
            split at ex <;> omega
          · rw [if_neg a1, if_neg a2] at ex
            by_cases c1 : y = 1 <;> by_cases c2 : y' = 1
            · exact ⟨by rw [h7 c1, h7' c2], by omega⟩
            · rw [if_pos c1, if_neg c2] at ex; omega
            · rw [if_neg c1, if_pos c2] at ex; omega
            · rw [if_neg c1, if_neg c2] at ex; omega
        rw [q, q', this.1, this.2]
theorem pow_uq {k v a b : Nat} (hk : 2 ≤ k) (h1 : v < k ^ a) (h2 : k ^ (b - 1) ≤ v) (hb : 1 ≤ b) : b ≤ a := by
  rcases Nat.lt_or_ge a b with q | q
  · have := Nat.pow_le_pow_right (n := k) (by omega) (show a ≤ b - 1 by omega)
    omega
  · exact q
theorem sd_ag {z : Nat} {D : Nat → Nat} {i b a : Nat} (hi : i < z) : sdF z D i b a = if b = 1 then ag a (D i) else b := by
  unfold sdF ag
  rw [if_neg (by omega)]
  by_cases h : b = 1
  · rw [if_pos h]
    by_cases h2 : a = D i
    · rw [if_pos (Or.inr h2), if_neg (by omega), if_neg (by omega)]; exact h
    · rw [if_neg (by omega)]
      by_cases h3 : a < D i
      · rw [if_pos h3, if_pos h3]
      · rw [if_neg h3, if_neg h3, if_pos (by omega)]
  · rw [if_neg h, if_pos (Or.inl h)]
/-- low sides that tell the same from here on -/
def nuL (lz m x x' : Nat) : Prop := (m < lz → x = x') ∧ (m = lz → (x = 0 ↔ x' = 0)) ∧ (lz < m → x ≠ 0)
theorem tie_num {k v v2 zl zh lz hz : Nat} {dl dh LD HD L : Nat → Nat} {Z : Nat → Bool} (hk : 2 ≤ k ∧ k ≤ 4) (hvv : v ≤ v2)
    (hl : 1 ≤ zl ∧ zl ≤ 30 ∧ v < k ^ zl ∧ (zl = 1 ∨ k ^ (zl - 1) ≤ v)) (hh : 1 ≤ zh ∧ zh ≤ 30 ∧ v2 < k ^ zh ∧ (zh = 1 ∨ k ^ (zh - 1) ≤ v2)) (hdl : ∀ j, j < zl → dl j = v / k ^ (zl - 1 - j) % k) (hdh : ∀ j, j < zh → dh j = v2 / k ^ (zh - 1 - j) % k)
    (rl : lz ≤ 30 ∧ (if v = 0 then 1 else v) < k ^ lz ∧ (lz = 0 ∨ k ^ (lz - 1) ≤ (if v = 0 then 1 else v))) (rh : hz ≤ 30 ∧ v2 < k ^ hz ∧ (hz = 0 ∨ k ^ (hz - 1) ≤ v2)) (rdl : ∀ j, j < lz → LD j = (if v = 0 then 1 else v) / k ^ (lz - 1 - j) % k) (rdh : ∀ j, j < hz → HD j = v2 / k ^ (hz - 1 - j) % k)
    (hH : numH k hz v LD HD L Z) (hP : ∀ m x y, 1 ≤ m → m ≤ hz → x < 3 → y < 3 → numP k lz hz LD HD L Z m x y) (u : List Nat) (hu : tx k u) : lng L Z u = nLa zl zh dl (dr (fun S9 a9 => nAf zl zh dl dh S9 a9) 0 u) := by
  -- as many digits
  have lz1 : 1 ≤ lz := by
    rcases Nat.eq_zero_or_pos lz with e | e
    · rw [e, Nat.pow_zero] at rl
      have := rl.2.1
      split at this <;> omega
    · exact e
  have lzz : lz = zl := by
    by_cases e : v = 0
    · rw [if_pos e] at rl
      have a1 : zl = 1 := by
        rcases hl.2.2.2 with q | q
        · exact q
        · have := Nat.pow_pos (n := zl - 1) (show 0 < k by omega)
          omega
      have a2 := pow_uq (a := 1) hk.1 (show 1 < k ^ 1 by rw [Nat.pow_one]; omega) (by rcases rl.2.2 with q | q; omega; exact q) lz1
      omega
    · rw [if_neg e] at rl
      have b1 := pow_uq hk.1 hl.2.2.1 (by rcases rl.2.2 with q | q; omega; exact q) lz1
      have b2 : zl ≤ lz := by
        rcases hl.2.2.2 with q | q
        · omega
        · exact pow_uq hk.1 rl.2.1 q hl.1
      omega
  have hzz : (v2 = 0 ∧ hz = 0 ∧ zh = 1) ∨ (v2 ≠ 0 ∧ 1 ≤ hz ∧ hz = zh) := by
    by_cases e : v2 = 0
    · refine Or.inl ⟨e, ?_, ?_⟩
      · rcases rh.2.2 with q | q
        · exact q
        · have := Nat.pow_pos (n := hz - 1) (show 0 < k by omega); omega
      · rcases hh.2.2.2 with q | q
        · exact q
        · have := Nat.pow_pos (n := zh - 1) (show 0 < k by omega); omega
    · have c1 : 1 ≤ hz := by
        rcases Nat.eq_zero_or_pos hz with q | q
        · rw [q, Nat.pow_zero] at rh; omega
        · exact q
      have c2 := pow_uq hk.1 hh.2.2.1 (by rcases rh.2.2 with q | q; omega; exact q) c1
      have c3 : zh ≤ hz := by
        rcases hh.2.2.2 with q | q
        · omega
        · exact pow_uq hk.1 rh.2.1 q hh.1
      exact Or.inr ⟨e, c1, by omega⟩
  have dle : v ≠ 0 → ∀ j, j < lz → LD j = dl j := by
    intro e j hj
    rw [rdl j hj, hdl j (by omega), if_neg e, lzz]
  have dhe : v2 ≠ 0 → ∀ j, j < hz → HD j = dh j := by
    intro e j hj
    rcases hzz with q | q
    · exact absurd q.1 e
    · rw [rdh j hj, hdh j (by omega), q.2.2]
  have dl0 : dl 0 = 0 ↔ v = 0 := by
    rw [hdl 0 (by omega), Nat.sub_zero]
    constructor
    · intro h
      have b1 : v / k ^ (zl - 1) < k := by
        rw [Nat.div_lt_iff_lt_mul (Nat.pow_pos (by omega))]
        have e : k * k ^ (zl - 1) = k ^ zl := by rw [Nat.mul_comm, ← Nat.pow_succ]; congr 1; omega
        omega
      rw [Nat.mod_eq_of_lt b1] at h
      rcases hl.2.2.2 with q | q
      · rw [q, Nat.sub_self, Nat.pow_zero, Nat.div_one] at h; exact h
      · have := Nat.div_pos q (Nat.pow_pos (by omega)); omega
    · intro h; rw [h]; simp
  have dh0 : v2 = 0 → dh 0 = 0 := by
    intro e; rw [hdh 0 (by omega), e]; simp
  have l1v : v = 0 → lz = 1 := by
    intro e
    rw [if_pos e] at rl
    have := pow_uq (a := 1) hk.1 (show 1 < k ^ 1 by rw [Nat.pow_one]; omega) (by rcases rl.2.2 with q | q; omega; exact q) lz1
    omega
  have LD0 : v = 0 → LD 0 = 1 := by
    intro e
    rw [rdl 0 (by omega), if_pos e, l1v e]
    show 1 / k ^ 0 % k = 1
    rw [Nat.pow_zero, Nat.div_one, Nat.mod_eq_of_lt (by omega)]
  obtain ⟨H1, H2, H3, H4, H5, H6, H7⟩ := hH
  refine sim_tx (Z' := nLa zl zh dl) (R := fun p S => (S = 0 ∧ p = 0) ∨ (S = 1 ∧ p = 1) ∨ (S = 2 ∧ p = 2) ∨ (∃ m x x' y, S = cod m x y ∧ p = plc m x' y ∧ 1 ≤ m ∧ m ≤ hz ∧ x < 3 ∧ x' < 3 ∧ y < 3 ∧ nuL lz m x x') ∨ (hz = 0 ∧ p = 2 ∧ ∃ x, S = cod 1 x 2 ∧ x < 3)) (fun p S b hr hb => ?_) (fun p S hr => ?_) u 0 0 (Or.inl ⟨rfl, rfl⟩) hu
  · rcases hr with ⟨e1, e2⟩ | ⟨e1, e2⟩ | ⟨e1, e2⟩ | ⟨m, x, x', y, e1, e2, g1, g2, g3, g4, g5, g6⟩ | ⟨e0, e1, x, e2, e3⟩
    · subst e1; subst e2
      unfold nAf
      rw [if_pos rfl]
      by_cases hb0 : b = 0
      · subst hb0
        rw [if_pos rfl, H4]
        exact Or.inr (Or.inl ⟨rfl, rfl⟩)
      · rw [if_neg hb0, H5 b (by omega) hb]
        rcases hzz with ⟨q1, q2, q3⟩ | ⟨q1, q2, q3⟩
        · rw [if_neg (by omega)]
          have ey : sdF zh dh 0 1 b = 2 := by
            rw [sd_ag (by omega), if_pos rfl, dh0 q1, ag, if_neg (by omega), if_pos (by omega)]
          rw [ey]
          exact Or.inr (Or.inr (Or.inr (Or.inr ⟨q2, rfl, _, rfl, sdF_lt (by decide)⟩)))
        · rw [if_pos (by omega), sd_ag (show 0 < zl by omega), sd_ag (show 0 < zh by omega), if_pos rfl, if_pos rfl, dhe q1 0 (by omega)]
          refine Or.inr (Or.inr (Or.inr (Or.inl ⟨1, _, _, _, rfl, rfl, Nat.le_refl _, q2, ag_lt, ag_lt, ag_lt, ?_⟩)))
          by_cases ev : v = 0
          · rw [LD0 ev, dl0.mpr ev]
            have := l1v ev
            refine ⟨fun _ => by omega, fun _ => ?_, fun _ => by omega⟩
            unfold ag
            rw [if_neg (by omega), if_pos (by omega), if_neg (by omega)]
            split <;> omega
          · rw [dle ev 0 (by omega)]
            exact ⟨fun _ => rfl, fun _ => Iff.rfl, fun _ => by omega⟩
    · subst e1; subst e2
      unfold nAf
      rw [if_neg (by omega), if_pos (by omega), H6 b hb]
      exact Or.inr (Or.inr (Or.inl ⟨rfl, rfl⟩))
    · subst e1; subst e2
      unfold nAf
      rw [if_neg (by omega), if_pos (by omega), H7 b hb]
      exact Or.inr (Or.inr (Or.inl ⟨rfl, rfl⟩))
    · obtain ⟨f1, f2, f3, f4⟩ := cod_d (d := m) g3 g5
      have hzh : v2 ≠ 0 ∧ 1 ≤ hz ∧ hz = zh := by rcases hzz with q | q; omega; exact q
      rw [e2, (hP m x' y g1 g2 g4 g5).2 b hb]
      unfold nAf
      rw [e1, if_neg (by omega), f1, f2, f3]
      by_cases em : m = hz
      · rw [if_pos em, if_pos (by omega)]
        exact Or.inr (Or.inr (Or.inl ⟨rfl, rfl⟩))
      · rw [if_neg em, if_neg (by omega)]
        have ey : sdF zh dh m y b = nsd hz HD m y b := by
          rw [sd_ag (by omega), nsd, dhe hzh.1 m (by omega)]
          by_cases q : y = 1
          · rw [if_pos q, if_pos ⟨q, by omega⟩]
          · rw [if_neg q, if_neg (fun h => q h.1)]
        rw [ey]
        refine Or.inr (Or.inr (Or.inr (Or.inl ⟨m + 1, _, _, _, rfl, rfl, by omega, by omega, sdF_lt g3, nsd_lt g4, nsd_lt g5, ?_⟩)))
        have exx : m + 1 ≤ lz → sdF zl dl m x b = nsd lz LD m x' b := by
          intro q
          have ev : v ≠ 0 := fun e => by have := l1v e; omega
          rw [← g6.1 (by omega), sd_ag (by omega), nsd, dle ev m (by omega)]
          by_cases q2 : x = 1
          · rw [if_pos q2, if_pos ⟨q2, by omega⟩]
          · rw [if_neg q2, if_neg (fun h => q2 h.1)]
        refine ⟨fun q => exx (by omega), fun q => by rw [exx (by omega)], fun q => ?_⟩
        unfold sdF
        rw [if_pos (by omega)]
        omega
    · obtain ⟨f1, f2, f3, f4⟩ := cod_d (d := 1) e3 (show 2 < 3 by decide)
      have hzh : zh = 1 := by rcases hzz with q | q; exact q.2.2; omega
      rw [e1, H7 b hb]
      unfold nAf
      rw [e2, if_neg (by omega), if_pos (by omega)]
      exact Or.inr (Or.inr (Or.inl ⟨rfl, rfl⟩))
  · rcases hr with ⟨e1, e2⟩ | ⟨e1, e2⟩ | ⟨e1, e2⟩ | ⟨m, x, x', y, e1, e2, g1, g2, g3, g4, g5, g6⟩ | ⟨e0, e1, x, e2, e3⟩
    · subst e1; subst e2
      rw [H1, nLa, if_pos (by decide), decide_eq_false (by omega)]
    · subst e1; subst e2
      rw [H2, nLa, if_pos (by decide), decide_eq_decide]
      constructor
      · intro h; exact ⟨rfl, dl0.mpr h⟩
      · intro h; exact dl0.mp h.2
    · subst e1; subst e2
      rw [H3, nLa, if_pos (by decide), decide_eq_false (by omega)]
    · obtain ⟨f1, f2, f3, f4⟩ := cod_d (d := m) g3 g5
      have hzh : hz = zh := by rcases hzz with q | q; omega; exact q.2.2
      rw [e1, e2, (hP m x' y g1 g2 g4 g5).1, nLa, if_neg (by omega), f1, f2, f3, nZd, decide_eq_decide]
      obtain ⟨n1, n2, n3⟩ := g6
      constructor
      · rintro ⟨⟨a1, a2⟩, a3⟩
        refine ⟨⟨by omega, ?_⟩, by omega⟩
        rcases Nat.lt_or_ge lz m with q | q
        · exact n3 q
        · have := n2 (by omega)
          intro e
          have := this.mp e
          omega
      · rintro ⟨⟨a1, a2⟩, a3⟩
        refine ⟨⟨by omega, ?_⟩, by omega⟩
        rcases Nat.lt_or_ge lz m with q | q
        · exact Or.inl q
        · refine Or.inr ?_
          have := n2 (by omega)
          rcases Nat.eq_zero_or_pos x' with e | e
          · exact absurd (this.mpr e) a2
          · exact e
    · obtain ⟨f1, f2, f3, f4⟩ := cod_d (d := 1) e3 (show 2 < 3 by decide)
      have hzh : zh = 1 := by rcases hzz with q | q; exact q.2.2; omega
      rw [e1, e2, H3, nLa, if_neg (by omega), f1, f2, f3, decide_eq_false (by omega)]
