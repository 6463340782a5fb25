/-! THE SEARCH OF PLACES -/
def lx (q b p a : Nat) : Prop := q < p ∨ (q = p ∧ b < a)
/-- the search, up to place p and letter a: z places found, and where letters lead -/
def exI (k : Nat) (aft : Nat → Nat → Nat) (x0 : Nat) (F L : Nat → Nat) (z p a : Nat) : Prop :=
  0 < z ∧ z ≤ 200 ∧ F 0 = x0 ∧ (∀ i j, i < z → j < z → F i = F j → i = j) ∧ (∀ q b, b < k → lx q b p a → L (q * 4 + b) < z ∧ F (L (q * 4 + b)) = aft (F q) b) ∧
  (∀ x, 0 < x → x < z → ∃ q b, b < k ∧ lx q b p a ∧ q < x ∧ L (q * 4 + b) = x) ∧ (∀ q b, b < k → lx q b p a → ∀ x, 0 < x → x < L (q * 4 + b) → ∃ q' b', b' < k ∧ lx q' b' q b ∧ L (q' * 4 + b') = x)
theorem exI_0 {k : Nat} {aft : Nat → Nat → Nat} {x0 : Nat} {F L : Nat → Nat} (h : F 0 = x0) : exI k aft x0 F L 1 0 0 := by
  refine ⟨by omega, by omega, h, fun i j hi hj _ => by omega, fun q b _ hl => ?_, fun x h1 h2 => by omega, fun q b _ hl => ?_⟩
  · rcases hl with h | ⟨h, h'⟩ <;> omega
  · rcases hl with h | ⟨h, h'⟩ <;> omega
theorem exI_old {k : Nat} {aft : Nat → Nat → Nat} {x0 : Nat} {F L : Nat → Nat} {z p a i : Nat} (hk : k ≤ 4) (h : exI k aft x0 F L z p a) (ha : a < k) (hi : i < z) (he : F i = aft (F p) a) : exI k aft x0 F (nu L (p * 4 + a) i) z p (a + 1) := by
  obtain ⟨h1, h2, h3, h4, h5, h6, h7⟩ := h
  have old : ∀ q b, b < k → lx q b p a → nu L (p * 4 + a) i (q * 4 + b) = L (q * 4 + b) := fun q b hb hl => nu_n (by rcases hl with e | ⟨e, e'⟩ <;> omega)
  have cas : ∀ q b, b < k → lx q b p (a + 1) → lx q b p a ∨ (q = p ∧ b = a) := fun q b hb hl => by
    rcases hl with e | ⟨e, e'⟩
    · exact Or.inl (Or.inl e)
    · by_cases e2 : b = a
      · exact Or.inr ⟨e, e2⟩
      · exact Or.inl (Or.inr ⟨e, by omega⟩)
  have up : ∀ q b, lx q b p a → lx q b p (a + 1) := fun q b hl => by
    rcases hl with e | ⟨e, e'⟩
    · exact Or.inl e
    · exact Or.inr ⟨e, by omega⟩
  refine ⟨h1, h2, h3, h4, fun q b hb hl => ?_, fun x hx0 hx => ?_, fun q b hb hl x hx0 hx => ?_⟩
  · rcases cas q b hb hl with e | ⟨e, e'⟩
    · rw [old q b hb e]; exact h5 q b hb e
    · rw [nu_e (by rw [e, e'])]
      rw [e, e']
      exact ⟨hi, he⟩
  · obtain ⟨q, b, g1, g2, g3, g4⟩ := h6 x hx0 hx
    exact ⟨q, b, g1, up q b g2, g3, by rw [old q b g1 g2]; exact g4⟩
  · rcases cas q b hb hl with e | ⟨e, e'⟩
    · rw [old q b hb e] at hx
      obtain ⟨q', b', g1, g2, g3⟩ := h7 q b hb e x hx0 hx
      have e3 : lx q' b' p a := by
        rcases g2 with u | ⟨u, u'⟩ <;> rcases e with v | ⟨v, v'⟩
        · exact Or.inl (by omega)
        · exact Or.inl (by omega)
        · exact Or.inl (by omega)
        · exact Or.inr ⟨by omega, by omega⟩
      exact ⟨q', b', g1, g2, by rw [old q' b' g1 e3]; exact g3⟩
    · rw [nu_e (by rw [e, e'])] at hx
      obtain ⟨q', b', g1, g2, g3, g4⟩ := h6 x hx0 (by omega)
      rw [e, e']
      exact ⟨q', b', g1, g2, by rw [old q' b' g1 g2]; exact g4⟩
theorem exI_new {k : Nat} {aft : Nat → Nat → Nat} {x0 : Nat} {F L : Nat → Nat} {z p a : Nat} (hk : k ≤ 4) (h : exI k aft x0 F L z p a) (ha : a < k) (hp : p < z) (hz : z < 200) (hno : ∀ i, i < z → F i ≠ aft (F p) a) : exI k aft x0 (nu F z (aft (F p) a)) (nu L (p * 4 + a) z) (z + 1) p (a + 1) := by
  obtain ⟨h1, h2, h3, h4, h5, h6, h7⟩ := h
  have Fo : ∀ i, i < z → nu F z (aft (F p) a) i = F i := fun i hi => nu_n (by omega)
  have h0 : exI k aft x0 (nu F z (aft (F p) a)) L (z + 1) p a → exI k aft x0 (nu F z (aft (F p) a)) (nu L (p * 4 + a) z) (z + 1) p (a + 1) := fun hh => exI_old hk hh ha (by omega) (by rw [nu_s, Fo p hp])
  -- as an old one over one place more: only that it is come to is wanting
  have old : ∀ q b, b < k → lx q b p a → nu L (p * 4 + a) z (q * 4 + b) = L (q * 4 + b) := fun q b hb hl => nu_n (by rcases hl with e | ⟨e, e'⟩ <;> omega)
  have cas : ∀ q b, b < k → lx q b p (a + 1) → lx q b p a ∨ (q = p ∧ b = a) := fun q b hb hl => by
    rcases hl with e | ⟨e, e'⟩
    · exact Or.inl (Or.inl e)
    · by_cases e2 : b = a
      · exact Or.inr ⟨e, e2⟩
      · exact Or.inl (Or.inr ⟨e, by omega⟩)
  have up : ∀ q b, lx q b p a → lx q b p (a + 1) := fun q b hl => by
    rcases hl with e | ⟨e, e'⟩
    · exact Or.inl e
    · exact Or.inr ⟨e, by omega⟩
  have lq : ∀ q b, lx q b p a → q < z := fun q b hl => by rcases hl with e | ⟨e, e'⟩ <;> omega
  refine ⟨by omega, by omega, by rw [Fo 0 h1]; exact h3, fun i j hi hj e => ?_, fun q b hb hl => ?_, fun x hx0 hx => ?_, fun q b hb hl x hx0 hx => ?_⟩
  · by_cases a1 : i = z
    · by_cases a2 : j = z
      · omega
      · rw [nu_e a1, Fo j (by omega)] at e
        exact absurd e.symm (hno j (by omega))
    · by_cases a2 : j = z
      · rw [Fo i (by omega), nu_e a2] at e
        exact absurd e (hno i (by omega))
      · rw [Fo i (by omega), Fo j (by omega)] at e
        exact h4 i j (by omega) (by omega) e
  · rcases cas q b hb hl with e | ⟨e, e'⟩
    · obtain ⟨g1, g2⟩ := h5 q b hb e
      rw [old q b hb e, Fo _ g1, Fo q (lq q b e)]
      exact ⟨by omega, g2⟩
    · rw [nu_e (by rw [e, e']), nu_s, e, e', Fo p hp]
      exact ⟨by omega, rfl⟩
  · by_cases e : x = z
    · exact ⟨p, a, ha, Or.inr ⟨rfl, by omega⟩, by omega, by rw [nu_s]; omega⟩
    · obtain ⟨q, b, g1, g2, g3, g4⟩ := h6 x hx0 (by omega)
      exact ⟨q, b, g1, up q b g2, g3, by rw [old q b g1 g2]; exact g4⟩
  · rcases cas q b hb hl with e | ⟨e, e'⟩
    · rw [old q b hb e] at hx
      obtain ⟨q', b', g1, g2, g3⟩ := h7 q b hb e x hx0 hx
      have e3 : lx q' b' p a := by
        rcases g2 with u | ⟨u, u'⟩ <;> rcases e with v | ⟨v, v'⟩
        · exact Or.inl (by omega)
        · exact Or.inl (by omega)
        · exact Or.inl (by omega)
        · exact Or.inr ⟨by omega, by omega⟩
      exact ⟨q', b', g1, g2, by rw [old q' b' g1 e3]; exact g3⟩
    · rw [nu_e (by rw [e, e'])] at hx
      obtain ⟨q', b', g1, g2, g3, g4⟩ := h6 x hx0 (by omega)
      rw [e, e']
      exact ⟨q', b', g1, g2, by rw [old q' b' g1 g2]; exact g4⟩
theorem exI_next {k : Nat} {aft : Nat → Nat → Nat} {x0 : Nat} {F L : Nat → Nat} {z p a : Nat} (h : exI k aft x0 F L z p a) (ha : a = k) : exI k aft x0 F L z (p + 1) 0 := by
  obtain ⟨h1, h2, h3, h4, h5, h6, h7⟩ := h
  have dn : ∀ q b, b < k → lx q b (p + 1) 0 → lx q b p a := fun q b hb hl => by
    rcases hl with e | ⟨e, e'⟩
    · by_cases e2 : q = p
      · exact Or.inr ⟨e2, by omega⟩
      · exact Or.inl (by omega)
    · omega
  have up : ∀ q b, lx q b p a → lx q b (p + 1) 0 := fun q b hl => by
    rcases hl with e | ⟨e, e'⟩
    · exact Or.inl (by omega)
    · exact Or.inl (by omega)
  refine ⟨h1, h2, h3, h4, fun q b hb hl => h5 q b hb (dn q b hb hl), fun x hx0 hx => ?_, fun q b hb hl => h7 q b hb (dn q b hb hl)⟩
  obtain ⟨q, b, g1, g2, g3, g4⟩ := h6 x hx0 hx
  exact ⟨q, b, g1, up q b g2, g3, g4⟩
set_option maxHeartbeats 4000000 in
set_option maxRecDepth 100000 in
theorem c_Pla_explore_Set_L50 {l : Launch} {D : va_G} {t : Nat → ClassId} {w : wf_W} {g pf pl pz pk pn pm k z : Nat} {F L : Nat → Nat} {Z : Nat → Bool} {r rl rc rz b en : Nat} {G : Nat → Nat} {Ld : Nat → Nat → Nat} {q : Nat} {Z9 : Nat → Bool} {p : Program} {e : Env} {s : State} {m : MethodId} {below : List Frame} {meth : Method} {c : Code} (X : Cx p s m meth c R_Pla "explore" b_Pla_explore 5 (some .boolean) D t) (hN : nd [g, pf, pl, pz]) (hO : apart [r, rl] [g, pf, pl, pz]) (hP : w g = some (.inr (2, [.int (nI k), .ref pf, .ref pl, .ref pz, .ref pk, .ref pn, .ref pm, .int (nI z)]))) (hPf : w pf = some (.inl (t 1, 200, .inr (.inl (lA F))))) (hPl : w pl = some (.inl (t 0, 800, .inl (iA L)))) (hPz : w pz = some (.inl (t 2, 200, .inl (zA Z)))) (hS : w r = some (.inr (3, [.int (nI k), .ref rl, .ref rc, .ref rz, .long (lN b), .long (lN en)]))) (hL : w rl = some (.inl (t 1, 164, .inr (.inl (lA G))))) (hk : k ≤ 4) (hx0 : b < 2 ^ 60) (hab : ∀ S a, S < 2 ^ 60 → a < k → sAf Ld S a 41 < 2 ^ 60) (hLd : lOK k G Ld) (hen : en < 2 ^ 41)
    (K_101 : ∀ (j : Nat) (z2 : Nat) (F2 : Nat → Nat) (L2 : Nat → Nat), (j ≤ k) → (q < z2) → (∀ i, i < z2 → F2 i < 2 ^ 60) → (exI k (fun S9 a9 => sAf Ld S9 a9 41) b F2 L2 z2 q j) → (∀ i, i < q + 1 → Z9 i = decide ((F2 i) &&& en ≠ 0)) → (j = k) → ∀ (H : Heap) (locs : List Loc) (ls : Array Slot), lv_has ls 5 [(0, .ref g), (1, .ref r), (2, .int (nI q)), (3, .int (nI j))] → wf_B D wcl (wf_A w s.heap.size) s.heap (wf_l w [(g, .inr (2, [.int (nI k), .ref pf, .ref pl, .ref pz, .ref pk, .ref pn, .ref pm, .int (nI z2)])), (pf, .inl (t 1, 200, .inr (.inl (lA F2)))), (pl, .inl (t 0, 800, .inl (iA L2))), (pz, .inl (t 2, 200, .inl (zA Z9)))]) H locs → W p l e (rmk 3 70 0 0) s m [.ref g, .ref r].toArray below meth c H locs 0 0 (MQ below (wf_Qi D wcl w (fun r w' => (∃ z0 : Nat, ∃ F0 : Nat → Nat, ∃ L0 : Nat → Nat, ∃ Z0 : Nat → Bool, (exI k (fun S9 a9 => sAf Ld S9 a9 41) b F0 L0 z0 z0 0 ∧ (∀ i, i < z0 → Z0 i = decide ((F0 i) &&& en ≠ 0)) ∧ ∀ i, i < z0 → F0 i < 2 ^ 60) ∧ r = (bI true) ∧ w' = wf_l w [(g, .inr (2, [.int (nI k), .ref pf, .ref pl, .ref pz, .ref pk, .ref pn, .ref pm, .int (nI z0)])), (pf, .inl (t 1, 200, .inr (.inl (lA F0)))), (pl, .inl (t 0, 800, .inl (iA L0))), (pz, .inl (t 2, 200, .inl (zA Z0)))]) ∨ (∃ F0 : Nat → Nat, ∃ L0 : Nat → Nat, ∃ Z0 : Nat → Bool, ∃ p0 : Nat, ∃ a0 : Nat, (exI k (fun S9 a9 => sAf Ld S9 a9 41) b F0 L0 200 p0 a0 ∧ p0 < 200 ∧ a0 < k ∧ ∀ i, i < 200 → F0 i ≠ sAf Ld (F0 p0) a0 41) ∧ r = (bI false) ∧ w' = wf_l w [(g, .inr (2, [.int (nI k), .ref pf, .ref pl, .ref pz, .ref pk, .ref pn, .ref pm, .int (nI 200)])), (pf, .inl (t 1, 200, .inr (.inl (lA F0)))), (pl, .inl (t 0, 800, .inl (iA L0))), (pz, .inl (t 2, 200, .inl (zA Z0)))])) s.heap.size) [.ref g, .ref r].toArray s 0 0 (wf_A w s.heap.size)) (F0 m 101 ls [])) :
    ∀ (fu : Nat) (j : Nat) (z2 : Nat) (F2 : Nat → Nat) (L2 : Nat → Nat), (j ≤ k) → (q < z2) → (∀ i, i < z2 → F2 i < 2 ^ 60) → (exI k (fun S9 a9 => sAf Ld S9 a9 41) b F2 L2 z2 q j) → (∀ i, i < q + 1 → Z9 i = decide ((F2 i) &&& en ≠ 0)) → k - j < fu → ∀ (H : Heap) (locs : List Loc) (ls : Array Slot), lv_has ls 5 [(0, .ref g), (1, .ref r), (2, .int (nI q)), (3, .int (nI j))] → wf_B D wcl (wf_A w s.heap.size) s.heap (wf_l w [(g, .inr (2, [.int (nI k), .ref pf, .ref pl, .ref pz, .ref pk, .ref pn, .ref pm, .int (nI z2)])), (pf, .inl (t 1, 200, .inr (.inl (lA F2)))), (pl, .inl (t 0, 800, .inl (iA L2))), (pz, .inl (t 2, 200, .inl (zA Z9)))]) H locs → W p l e (rmk 3 70 0 0) s m [.ref g, .ref r].toArray below meth c H locs 0 0 (MQ below (wf_Qi D wcl w (fun r w' => (∃ z0 : Nat, ∃ F0 : Nat → Nat, ∃ L0 : Nat → Nat, ∃ Z0 : Nat → Bool, (exI k (fun S9 a9 => sAf Ld S9 a9 41) b F0 L0 z0 z0 0 ∧ (∀ i, i < z0 → Z0 i = decide ((F0 i) &&& en ≠ 0)) ∧ ∀ i, i < z0 → F0 i < 2 ^ 60) ∧ r = (bI true) ∧ w' = wf_l w [(g, .inr (2, [.int (nI k), .ref pf, .ref pl, .ref pz, .ref pk, .ref pn, .ref pm, .int (nI z0)])), (pf, .inl (t 1, 200, .inr (.inl (lA F0)))), (pl, .inl (t 0, 800, .inl (iA L0))), (pz, .inl (t 2, 200, .inl (zA Z0)))]) ∨ (∃ F0 : Nat → Nat, ∃ L0 : Nat → Nat, ∃ Z0 : Nat → Bool, ∃ p0 : Nat, ∃ a0 : Nat, (exI k (fun S9 a9 => sAf Ld S9 a9 41) b F0 L0 200 p0 a0 ∧ p0 < 200 ∧ a0 < k ∧ ∀ i, i < 200 → F0 i ≠ sAf Ld (F0 p0) a0 41) ∧ r = (bI false) ∧ w' = wf_l w [(g, .inr (2, [.int (nI k), .ref pf, .ref pl, .ref pz, .ref pk, .ref pn, .ref pm, .int (nI 200)])), (pf, .inl (t 1, 200, .inr (.inl (lA F0)))), (pl, .inl (t 0, 800, .inl (iA L0))), (pz, .inl (t 2, 200, .inl (zA Z0)))])) s.heap.size) [.ref g, .ref r].toArray s 0 0 (wf_A w s.heap.size)) (F0 m 50 ls []) := by
  have hx := X.1
  have hb := X.2.1
  intro fu
  induction fu with
  | zero => intro j z2 F2 L2 hj hqz hb60 hex hZ1 hfu; exact absurd hfu (Nat.not_lt_zero _)
  | succ fu ih =>
    intro j z2 F2 L2 hj hqz hb60 hex hZ1 hfu H locs ls hl hB
    have hz200 := hex.2.1
    refine lv_iload_n hx hb d_Pla_explore_50 rfl (lv_at hl 3 rfl) ?_
    refine lv_aload_n hx hb d_Pla_explore_51 rfl (lv_at hl 0 rfl) ?_
    refine rgetL X hB hN 0 i_Pla rfl cl_Pla 0 (by decide) k_144 rfl rfl d_Pla_explore_52 ?_
    refine wf_cge (tgt := 101) hx hb d_Pla_explore_55 (by decide) (nI_toInt (by omega)) (nI_toInt (by omega)) (fun c_55 => ?_) (fun c_55 => ?_)
    · exact K_101 j z2 F2 L2 hj hqz hb60 hex hZ1 (by omega) H locs ls (lv_sub hl [0, 1, 2, 3] rfl) hB
    · refine lv_aload_n hx hb d_Pla_explore_58 rfl (lv_at hl 0 rfl) ?_
      refine lv_aload_n hx hb d_Pla_explore_59 rfl (lv_at hl 1 rfl) ?_
      refine lv_aload_n hx hb d_Pla_explore_60 rfl (lv_at hl 0 rfl) ?_
      refine rgetL X hB hN 0 i_Pla rfl cl_Pla 1 (by decide) k_145 rfl rfl d_Pla_explore_61 ?_
      refine lv_iload_n hx hb d_Pla_explore_64 rfl (lv_at hl 2 rfl) ?_
      refine rlaldL X hB hN 1 rfl (i := q) (by omega) (by decide) d_Pla_explore_65 ?_
      refine wf_tl (y := lN (F2 q)) rfl ?_
      refine lv_iload_n hx hb d_Pla_explore_66 rfl (lv_at hl 3 rfl) ?_
      refine callAl (As := [.long (lN (F2 q)), .int (nI j)]) (rest := [.ref g]) X hB wf_hA (c_Set_after (l := l) (D := D) (t := t) (w := (wf_l w [(g, .inr (2, [.int (nI k), .ref pf, .ref pl, .ref pz, .ref pk, .ref pn, .ref pm, .int (nI z2)])), (pf, .inl (t 1, 200, .inr (.inl (lA F2)))), (pl, .inl (t 0, 800, .inl (iA L2))), (pz, .inl (t 2, 200, .inl (zA Z9)))])) (sz := H.size) (r := r) (rl := rl) (rc := rc) (rz := rz) (k := k) (b := b) (en := en) (G := G) (Ld := Ld) (S := F2 q) (a := j) (wf_ro (w := w) (wl := [(g, .inr (2, [.int (nI k), .ref pf, .ref pl, .ref pz, .ref pk, .ref pn, .ref pm, .int (nI z2)])), (pf, .inl (t 1, 200, .inr (.inl (lA F2)))), (pl, .inl (t 0, 800, .inl (iA L2))), (pz, .inl (t 2, 200, .inl (zA Z9)))]) hO 0 rfl hS) (wf_ro (w := w) (wl := [(g, .inr (2, [.int (nI k), .ref pf, .ref pl, .ref pz, .ref pk, .ref pn, .ref pm, .int (nI z2)])), (pf, .inl (t 1, 200, .inr (.inl (lA F2)))), (pl, .inl (t 0, 800, .inl (iA L2))), (pz, .inl (t 2, 200, .inl (zA Z9)))]) hO 1 rfl hL) (by exact hk) (by exact hLd) (by omega) (by have := hb60 q (by omega); omega)) k_427 k_429 k_460 k_461 k_70 k_428 k_462 (wf_ro (w := w) (wl := [(g, .inr (2, [.int (nI k), .ref pf, .ref pl, .ref pz, .ref pk, .ref pn, .ref pm, .int (nI z2)])), (pf, .inl (t 1, 200, .inr (.inl (lA F2)))), (pl, .inl (t 0, 800, .inl (iA L2))), (pz, .inl (t 2, 200, .inl (zA Z9)))]) hO 0 rfl hS) cl_Set rfl hdA_after ⟨Nat.le_of_ble_eq_true rfl, Nat.le_of_ble_eq_true rfl⟩ ⟨Nat.le_of_ble_eq_true rfl, Nat.le_of_ble_eq_true rfl⟩ hl.1 (Nat.le_of_ble_eq_true rfl) d_Pla_explore_67 rfl (fun r_67 w1 H locs hp hB => ?_)
      obtain ⟨rfl, hw_67⟩ := hp
      have hB : wf_B D wcl (wf_A w s.heap.size) s.heap (wf_l w [(g, .inr (2, [.int (nI k), .ref pf, .ref pl, .ref pz, .ref pk, .ref pn, .ref pm, .int (nI z2)])), (pf, .inl (t 1, 200, .inr (.inl (lA F2)))), (pl, .inl (t 0, 800, .inl (iA L2))), (pz, .inl (t 2, 200, .inl (zA Z9)))]) H locs := wf_Bto hw_67 hB
      refine callVi (As := [.long (lN (sAf Ld (F2 q) j 41))]) (rest := []) X hB wf_hA (c_Pla_numberOf (l := l) (D := D) (t := t) (w := (wf_l w [(g, .inr (2, [.int (nI k), .ref pf, .ref pl, .ref pz, .ref pk, .ref pn, .ref pm, .int (nI z2)])), (pf, .inl (t 1, 200, .inr (.inl (lA F2)))), (pl, .inl (t 0, 800, .inl (iA L2))), (pz, .inl (t 2, 200, .inl (zA Z9)))])) (sz := H.size) (g := g) (pf := pf) (pl := pl) (pz := pz) (pk := pk) (pn := pn) (pm := pm) (k := k) (z := z2) (F := F2) (x := sAf Ld (F2 q) j 41) (nd_sub hN [0, 1] rfl (by decide)) (wf_lg (w := w) (l := [(g, .inr (2, [.int (nI k), .ref pf, .ref pl, .ref pz, .ref pk, .ref pn, .ref pm, .int (nI z2)])), (pf, .inl (t 1, 200, .inr (.inl (lA F2)))), (pl, .inl (t 0, 800, .inl (iA L2))), (pz, .inl (t 2, 200, .inl (zA Z9)))]) hN 0 rfl) (wf_lg (w := w) (l := [(g, .inr (2, [.int (nI k), .ref pf, .ref pl, .ref pz, .ref pk, .ref pn, .ref pm, .int (nI z2)])), (pf, .inl (t 1, 200, .inr (.inl (lA F2)))), (pl, .inl (t 0, 800, .inl (iA L2))), (pz, .inl (t 2, 200, .inl (zA Z9)))]) hN 1 rfl) (by omega) (by intro i hi; have := hb60 i hi; omega) (by have := hab (F2 q) j (hb60 q (by omega)) (by omega); omega)) k_479 k_481 k_7 k_68 k_482 (wf_lg (w := w) (l := [(g, .inr (2, [.int (nI k), .ref pf, .ref pl, .ref pz, .ref pk, .ref pn, .ref pm, .int (nI z2)])), (pf, .inl (t 1, 200, .inr (.inl (lA F2)))), (pl, .inl (t 0, 800, .inl (iA L2))), (pz, .inl (t 2, 200, .inl (zA Z9)))]) hN 0 rfl) cl_Pla rfl hd_Pla_numberOf ⟨Nat.le_of_ble_eq_true rfl, Nat.le_of_ble_eq_true rfl⟩ ⟨Nat.le_of_ble_eq_true rfl, Nat.le_of_ble_eq_true rfl⟩ hl.1 (Nat.le_of_ble_eq_true rfl) d_Pla_explore_70 rfl (fun r_70 w1 H locs hp hB => ?_)
      rcases hp with ⟨i0_70, hi0_70, hF0_70, rfl, hw_70⟩ | ⟨hno_70, hz2_70, rfl, hw_70⟩ | ⟨hno_70, hz2_70, rfl, hw_70⟩
      · have hB : wf_B D wcl (wf_A w s.heap.size) s.heap (wf_l w [(g, .inr (2, [.int (nI k), .ref pf, .ref pl, .ref pz, .ref pk, .ref pn, .ref pm, .int (nI z2)])), (pf, .inl (t 1, 200, .inr (.inl (lA F2)))), (pl, .inl (t 0, 800, .inl (iA L2))), (pz, .inl (t 2, 200, .inl (zA Z9)))]) H locs := wf_Bto (hw_70.trans (wlw (L1 := [(g, .inr (2, [.int (nI k), .ref pf, .ref pl, .ref pz, .ref pk, .ref pn, .ref pm, .int (nI z2)])), (pf, .inl (t 1, 200, .inr (.inl (lA F2)))), (pl, .inl (t 0, 800, .inl (iA L2))), (pz, .inl (t 2, 200, .inl (zA Z9)))]) hN 0 rfl rfl (wlw (L1 := [(g, .inr (2, [.int (nI k), .ref pf, .ref pl, .ref pz, .ref pk, .ref pn, .ref pm, .int (nI z2)])), (pf, .inl (t 1, 200, .inr (.inl (lA F2)))), (pl, .inl (t 0, 800, .inl (iA L2))), (pz, .inl (t 2, 200, .inl (zA Z9)))]) hN 1 rfl rfl rfl))) hB
        refine lv_istore (lv' := [(4, .int (nI i0_70)), (0, .ref g), (1, .ref r), (2, .int (nI q)), (3, .int (nI j))]) hx hb d_Pla_explore_73 hl (by decide) rfl (fun ls hl => ?_)
        refine lv_iload hx hb d_Pla_explore_75 (lv_at hl 0 rfl) ?_
        refine lv_iconst (v := (-1)) hx hb d_Pla_explore_77 (by decide) ?_
        refine wf_cne (tgt := 83) hx hb d_Pla_explore_78 (by decide) (nI_toInt (by omega)) (show _ = (-1 : Int) from by decide) (fun c_78 => ?_) (fun c_78 => absurd c_78 (by omega))
        refine lv_aload_n hx hb d_Pla_explore_83 rfl (lv_at hl 1 rfl) ?_
        refine rgetL X hB hN 0 i_Pla rfl cl_Pla 2 (by decide) k_146 rfl rfl d_Pla_explore_84 ?_
        refine lv_iload_n hx hb d_Pla_explore_87 rfl (lv_at hl 3 rfl) ?_
        refine lv_iconst (v := nI 4) hx hb d_Pla_explore_88 (by decide) ?_
        refine wf_imul (x := q) (y := 4) hx hb d_Pla_explore_89 ?_
        refine lv_iload_n hx hb d_Pla_explore_90 rfl (lv_at hl 4 rfl) ?_
        refine wf_iadd (x := q * 4) (y := j) hx hb d_Pla_explore_91 ?_
        refine lv_iload hx hb d_Pla_explore_92 (lv_at hl 0 rfl) ?_
        refine riastA X hB hN 2 (wl' := [(g, .inr (2, [.int (nI k), .ref pf, .ref pl, .ref pz, .ref pk, .ref pn, .ref pm, .int (nI z2)])), (pf, .inl (t 1, 200, .inr (.inl (lA F2)))), (pl, .inl (t 0, 800, .inl (iA (nu L2 ((q * 4) + j) i0_70)))), (pz, .inl (t 2, 200, .inl (zA Z9)))]) rfl (i := (q * 4) + j) (by omega) (by decide) d_Pla_explore_94 rfl (fun H locs hB => ?_)
        refine lv_iinc (v := nI (j + 1)) (lv' := [(3, .int (nI (j + 1))), (4, .int (nI i0_70)), (0, .ref g), (1, .ref r), (2, .int (nI q))]) hx hb d_Pla_explore_95 hl (k := 4) rfl (show nI j + nI 1 = nI (j + 1) from nI_add _ _) (by decide) rfl (fun ls hl => ?_)
        refine lv_goto (tgt := 50) hx hb d_Pla_explore_98 (by decide) ?_
        exact ih (j + 1) z2 F2 (nu L2 ((q * 4) + j) i0_70) (by omega) (by omega) (by first | exact hb60 | (intro i hi; by_cases e9 : i = z2; (rw [nu_e e9]; exact hab (F2 q) j (hb60 q (by omega)) (by omega)); rw [nu_n e9]; exact hb60 i (by omega))) (by first | exact exI_old hk hex (by omega) hi0_70 hF0_70 | exact exI_new hk hex (by omega) (by omega) hz2_70 hno_70) (by first | exact hZ1 | (intro i hi; rw [nu_n (by omega)]; exact hZ1 i hi)) (by omega) H locs ls (lv_sub hl [2, 3, 4, 0] rfl) hB
      · have hB : wf_B D wcl (wf_A w s.heap.size) s.heap (wf_l w [(g, .inr (2, [.int (nI k), .ref pf, .ref pl, .ref pz, .ref pk, .ref pn, .ref pm, .int (nI (z2 + 1))])), (pf, .inl (t 1, 200, .inr (.inl (lA (nu F2 z2 (sAf Ld (F2 q) j 41)))))), (pl, .inl (t 0, 800, .inl (iA L2))), (pz, .inl (t 2, 200, .inl (zA Z9)))]) H locs := wf_Bto (hw_70.trans (wlw (L1 := [(g, .inr (2, [.int (nI k), .ref pf, .ref pl, .ref pz, .ref pk, .ref pn, .ref pm, .int (nI (z2 + 1))])), (pf, .inl (t 1, 200, .inr (.inl (lA F2)))), (pl, .inl (t 0, 800, .inl (iA L2))), (pz, .inl (t 2, 200, .inl (zA Z9)))]) hN 0 rfl rfl (wlw (L1 := [(g, .inr (2, [.int (nI k), .ref pf, .ref pl, .ref pz, .ref pk, .ref pn, .ref pm, .int (nI (z2 + 1))])), (pf, .inl (t 1, 200, .inr (.inl (lA (nu F2 z2 (sAf Ld (F2 q) j 41)))))), (pl, .inl (t 0, 800, .inl (iA L2))), (pz, .inl (t 2, 200, .inl (zA Z9)))]) hN 1 rfl rfl rfl))) hB
        refine lv_istore (lv' := [(4, .int (nI z2)), (0, .ref g), (1, .ref r), (2, .int (nI q)), (3, .int (nI j))]) hx hb d_Pla_explore_73 hl (by decide) rfl (fun ls hl => ?_)
        refine lv_iload hx hb d_Pla_explore_75 (lv_at hl 0 rfl) ?_
        refine lv_iconst (v := (-1)) hx hb d_Pla_explore_77 (by decide) ?_
        refine wf_cne (tgt := 83) hx hb d_Pla_explore_78 (by decide) (nI_toInt (by omega)) (show _ = (-1 : Int) from by decide) (fun c_78 => ?_) (fun c_78 => absurd c_78 (by omega))
        refine lv_aload_n hx hb d_Pla_explore_83 rfl (lv_at hl 1 rfl) ?_
        refine rgetL X hB hN 0 i_Pla rfl cl_Pla 2 (by decide) k_146 rfl rfl d_Pla_explore_84 ?_
        refine lv_iload_n hx hb d_Pla_explore_87 rfl (lv_at hl 3 rfl) ?_
        refine lv_iconst (v := nI 4) hx hb d_Pla_explore_88 (by decide) ?_
        refine wf_imul (x := q) (y := 4) hx hb d_Pla_explore_89 ?_
        refine lv_iload_n hx hb d_Pla_explore_90 rfl (lv_at hl 4 rfl) ?_
        refine wf_iadd (x := q * 4) (y := j) hx hb d_Pla_explore_91 ?_
        refine lv_iload hx hb d_Pla_explore_92 (lv_at hl 0 rfl) ?_
        refine riastA X hB hN 2 (wl' := [(g, .inr (2, [.int (nI k), .ref pf, .ref pl, .ref pz, .ref pk, .ref pn, .ref pm, .int (nI (z2 + 1))])), (pf, .inl (t 1, 200, .inr (.inl (lA (nu F2 z2 (sAf Ld (F2 q) j 41)))))), (pl, .inl (t 0, 800, .inl (iA (nu L2 ((q * 4) + j) z2)))), (pz, .inl (t 2, 200, .inl (zA Z9)))]) rfl (i := (q * 4) + j) (by omega) (by decide) d_Pla_explore_94 rfl (fun H locs hB => ?_)
        refine lv_iinc (v := nI (j + 1)) (lv' := [(3, .int (nI (j + 1))), (4, .int (nI z2)), (0, .ref g), (1, .ref r), (2, .int (nI q))]) hx hb d_Pla_explore_95 hl (k := 4) rfl (show nI j + nI 1 = nI (j + 1) from nI_add _ _) (by decide) rfl (fun ls hl => ?_)
        refine lv_goto (tgt := 50) hx hb d_Pla_explore_98 (by decide) ?_
        exact ih (j + 1) (z2 + 1) (nu F2 z2 (sAf Ld (F2 q) j 41)) (nu L2 ((q * 4) + j) z2) (by omega) (by omega) (by first | exact hb60 | (intro i hi; by_cases e9 : i = z2; (rw [nu_e e9]; exact hab (F2 q) j (hb60 q (by omega)) (by omega)); rw [nu_n e9]; exact hb60 i (by omega))) (by first | exact exI_old hk hex (by omega) hi0_70 hF0_70 | exact exI_new hk hex (by omega) (by omega) hz2_70 hno_70) (by first | exact hZ1 | (intro i hi; rw [nu_n (by omega)]; exact hZ1 i hi)) (by omega) H locs ls (lv_sub hl [2, 3, 4, 0] rfl) hB
      · have hB : wf_B D wcl (wf_A w s.heap.size) s.heap (wf_l w [(g, .inr (2, [.int (nI k), .ref pf, .ref pl, .ref pz, .ref pk, .ref pn, .ref pm, .int (nI z2)])), (pf, .inl (t 1, 200, .inr (.inl (lA F2)))), (pl, .inl (t 0, 800, .inl (iA L2))), (pz, .inl (t 2, 200, .inl (zA Z9)))]) H locs := wf_Bto (hw_70.trans (wlw (L1 := [(g, .inr (2, [.int (nI k), .ref pf, .ref pl, .ref pz, .ref pk, .ref pn, .ref pm, .int (nI z2)])), (pf, .inl (t 1, 200, .inr (.inl (lA F2)))), (pl, .inl (t 0, 800, .inl (iA L2))), (pz, .inl (t 2, 200, .inl (zA Z9)))]) hN 0 rfl rfl (wlw (L1 := [(g, .inr (2, [.int (nI k), .ref pf, .ref pl, .ref pz, .ref pk, .ref pn, .ref pm, .int (nI z2)])), (pf, .inl (t 1, 200, .inr (.inl (lA F2)))), (pl, .inl (t 0, 800, .inl (iA L2))), (pz, .inl (t 2, 200, .inl (zA Z9)))]) hN 1 rfl rfl rfl))) hB
        refine lv_istore (lv' := [(4, .int (-1)), (0, .ref g), (1, .ref r), (2, .int (nI q)), (3, .int (nI j))]) hx hb d_Pla_explore_73 hl (by decide) rfl (fun ls hl => ?_)
        refine lv_iload hx hb d_Pla_explore_75 (lv_at hl 0 rfl) ?_
        refine lv_iconst (v := (-1)) hx hb d_Pla_explore_77 (by decide) ?_
        refine wf_cne (tgt := 83) hx hb d_Pla_explore_78 (by decide) (show _ = (-1 : Int) from by decide) (show _ = (-1 : Int) from by decide) (fun c_78 => absurd c_78 (by omega)) (fun c_78 => ?_)
        refine lv_iconst (v := nI 0) hx hb d_Pla_explore_81 (by decide) ?_
        refine wf_ti (y := bI false) rfl ?_
        refine ret_z X hB d_Pla_explore_82 ?_
        subst hz2_70
        exact Or.inr ⟨_, _, _, q, j, ⟨hex, by omega, by omega, hno_70⟩, rfl, rfl⟩
set_option maxHeartbeats 4000000 in
set_option maxRecDepth 100000 in
theorem c_Pla_explore_Set_L17 {l : Launch} {D : va_G} {t : Nat → ClassId} {w : wf_W} {g pf pl pz pk pn pm k z : Nat} {F L : Nat → Nat} {Z : Nat → Bool} {r rl rc rz b en : Nat} {G : Nat → Nat} {Ld : Nat → Nat → Nat}  {p : Program} {e : Env} {s : State} {m : MethodId} {below : List Frame} {meth : Method} {c : Code} (X : Cx p s m meth c R_Pla "explore" b_Pla_explore 5 (some .boolean) D t) (hN : nd [g, pf, pl, pz]) (hO : apart [r, rl] [g, pf, pl, pz]) (hP : w g = some (.inr (2, [.int (nI k), .ref pf, .ref pl, .ref pz, .ref pk, .ref pn, .ref pm, .int (nI z)]))) (hPf : w pf = some (.inl (t 1, 200, .inr (.inl (lA F))))) (hPl : w pl = some (.inl (t 0, 800, .inl (iA L)))) (hPz : w pz = some (.inl (t 2, 200, .inl (zA Z)))) (hS : w r = some (.inr (3, [.int (nI k), .ref rl, .ref rc, .ref rz, .long (lN b), .long (lN en)]))) (hL : w rl = some (.inl (t 1, 164, .inr (.inl (lA G))))) (hk : k ≤ 4) (hx0 : b < 2 ^ 60) (hab : ∀ S a, S < 2 ^ 60 → a < k → sAf Ld S a 41 < 2 ^ 60) (hLd : lOK k G Ld) (hen : en < 2 ^ 41)
    (K_107 : ∀ (q : Nat) (z1 : Nat) (F1 : Nat → Nat) (L1 : Nat → Nat) (Z1 : Nat → Bool), (q ≤ z1) → (∀ i, i < z1 → F1 i < 2 ^ 60) → (exI k (fun S9 a9 => sAf Ld S9 a9 41) b F1 L1 z1 q 0) → (∀ i, i < q → Z1 i = decide ((F1 i) &&& en ≠ 0)) → (q = z1) → ∀ (H : Heap) (locs : List Loc) (ls : Array Slot), lv_has ls 5 [(0, .ref g), (1, .ref r), (2, .int (nI q))] → wf_B D wcl (wf_A w s.heap.size) s.heap (wf_l w [(g, .inr (2, [.int (nI k), .ref pf, .ref pl, .ref pz, .ref pk, .ref pn, .ref pm, .int (nI z1)])), (pf, .inl (t 1, 200, .inr (.inl (lA F1)))), (pl, .inl (t 0, 800, .inl (iA L1))), (pz, .inl (t 2, 200, .inl (zA Z1)))]) H locs → W p l e (rmk 3 70 0 0) s m [.ref g, .ref r].toArray below meth c H locs 0 0 (MQ below (wf_Qi D wcl w (fun r w' => (∃ z0 : Nat, ∃ F0 : Nat → Nat, ∃ L0 : Nat → Nat, ∃ Z0 : Nat → Bool, (exI k (fun S9 a9 => sAf Ld S9 a9 41) b F0 L0 z0 z0 0 ∧ (∀ i, i < z0 → Z0 i = decide ((F0 i) &&& en ≠ 0)) ∧ ∀ i, i < z0 → F0 i < 2 ^ 60) ∧ r = (bI true) ∧ w' = wf_l w [(g, .inr (2, [.int (nI k), .ref pf, .ref pl, .ref pz, .ref pk, .ref pn, .ref pm, .int (nI z0)])), (pf, .inl (t 1, 200, .inr (.inl (lA F0)))), (pl, .inl (t 0, 800, .inl (iA L0))), (pz, .inl (t 2, 200, .inl (zA Z0)))]) ∨ (∃ F0 : Nat → Nat, ∃ L0 : Nat → Nat, ∃ Z0 : Nat → Bool, ∃ p0 : Nat, ∃ a0 : Nat, (exI k (fun S9 a9 => sAf Ld S9 a9 41) b F0 L0 200 p0 a0 ∧ p0 < 200 ∧ a0 < k ∧ ∀ i, i < 200 → F0 i ≠ sAf Ld (F0 p0) a0 41) ∧ r = (bI false) ∧ w' = wf_l w [(g, .inr (2, [.int (nI k), .ref pf, .ref pl, .ref pz, .ref pk, .ref pn, .ref pm, .int (nI 200)])), (pf, .inl (t 1, 200, .inr (.inl (lA F0)))), (pl, .inl (t 0, 800, .inl (iA L0))), (pz, .inl (t 2, 200, .inl (zA Z0)))])) s.heap.size) [.ref g, .ref r].toArray s 0 0 (wf_A w s.heap.size)) (F0 m 107 ls [])) :
    ∀ (fu : Nat) (q : Nat) (z1 : Nat) (F1 : Nat → Nat) (L1 : Nat → Nat) (Z1 : Nat → Bool), (q ≤ z1) → (∀ i, i < z1 → F1 i < 2 ^ 60) → (exI k (fun S9 a9 => sAf Ld S9 a9 41) b F1 L1 z1 q 0) → (∀ i, i < q → Z1 i = decide ((F1 i) &&& en ≠ 0)) → 200 - q < fu → ∀ (H : Heap) (locs : List Loc) (ls : Array Slot), lv_has ls 5 [(0, .ref g), (1, .ref r), (2, .int (nI q))] → wf_B D wcl (wf_A w s.heap.size) s.heap (wf_l w [(g, .inr (2, [.int (nI k), .ref pf, .ref pl, .ref pz, .ref pk, .ref pn, .ref pm, .int (nI z1)])), (pf, .inl (t 1, 200, .inr (.inl (lA F1)))), (pl, .inl (t 0, 800, .inl (iA L1))), (pz, .inl (t 2, 200, .inl (zA Z1)))]) H locs → W p l e (rmk 3 70 0 0) s m [.ref g, .ref r].toArray below meth c H locs 0 0 (MQ below (wf_Qi D wcl w (fun r w' => (∃ z0 : Nat, ∃ F0 : Nat → Nat, ∃ L0 : Nat → Nat, ∃ Z0 : Nat → Bool, (exI k (fun S9 a9 => sAf Ld S9 a9 41) b F0 L0 z0 z0 0 ∧ (∀ i, i < z0 → Z0 i = decide ((F0 i) &&& en ≠ 0)) ∧ ∀ i, i < z0 → F0 i < 2 ^ 60) ∧ r = (bI true) ∧ w' = wf_l w [(g, .inr (2, [.int (nI k), .ref pf, .ref pl, .ref pz, .ref pk, .ref pn, .ref pm, .int (nI z0)])), (pf, .inl (t 1, 200, .inr (.inl (lA F0)))), (pl, .inl (t 0, 800, .inl (iA L0))), (pz, .inl (t 2, 200, .inl (zA Z0)))]) ∨ (∃ F0 : Nat → Nat, ∃ L0 : Nat → Nat, ∃ Z0 : Nat → Bool, ∃ p0 : Nat, ∃ a0 : Nat, (exI k (fun S9 a9 => sAf Ld S9 a9 41) b F0 L0 200 p0 a0 ∧ p0 < 200 ∧ a0 < k ∧ ∀ i, i < 200 → F0 i ≠ sAf Ld (F0 p0) a0 41) ∧ r = (bI false) ∧ w' = wf_l w [(g, .inr (2, [.int (nI k), .ref pf, .ref pl, .ref pz, .ref pk, .ref pn, .ref pm, .int (nI 200)])), (pf, .inl (t 1, 200, .inr (.inl (lA F0)))), (pl, .inl (t 0, 800, .inl (iA L0))), (pz, .inl (t 2, 200, .inl (zA Z0)))])) s.heap.size) [.ref g, .ref r].toArray s 0 0 (wf_A w s.heap.size)) (F0 m 17 ls []) := by
  have hx := X.1
  have hb := X.2.1
  intro fu
  induction fu with
  | zero => intro q z1 F1 L1 Z1 hq hb60 hex hZ1 hfu; exact absurd hfu (Nat.not_lt_zero _)
  | succ fu ih =>
    intro q z1 F1 L1 Z1 hq hb60 hex hZ1 hfu H locs ls hl hB
    have hz200 := hex.2.1
    refine lv_iload_n hx hb d_Pla_explore_17 rfl (lv_at hl 2 rfl) ?_
    refine lv_aload_n hx hb d_Pla_explore_18 rfl (lv_at hl 0 rfl) ?_
    refine rgetL X hB hN 0 i_Pla rfl cl_Pla 7 (by decide) k_151 rfl rfl d_Pla_explore_19 ?_
    refine wf_cge (tgt := 107) hx hb d_Pla_explore_22 (by decide) (nI_toInt (by omega)) (nI_toInt (by omega)) (fun c_22 => ?_) (fun c_22 => ?_)
    · exact K_107 q z1 F1 L1 Z1 hq hb60 hex hZ1 (by omega) H locs ls (lv_sub hl [0, 1, 2] rfl) hB
    · refine lv_iload_n hx hb d_Pla_explore_25 rfl (lv_at hl 2 rfl) ?_
      refine lv_sipush (v := nI 200) hx hb d_Pla_explore_26 (by decide) ?_
      refine wf_cge (tgt := 107) hx hb d_Pla_explore_29 (by decide) (nI_toInt (by omega)) (nI_toInt (by omega)) (fun c_29 => ?_) (fun c_29 => ?_)
      · exact K_107 q z1 F1 L1 Z1 hq hb60 hex hZ1 (by omega) H locs ls (lv_sub hl [0, 1, 2] rfl) hB
      · have hq : q < z1 := by omega
        refine lv_aload_n hx hb d_Pla_explore_32 rfl (lv_at hl 0 rfl) ?_
        refine rgetL X hB hN 0 i_Pla rfl cl_Pla 3 (by decide) k_147 rfl rfl d_Pla_explore_33 ?_
        refine lv_iload_n hx hb d_Pla_explore_36 rfl (lv_at hl 2 rfl) ?_
        refine lv_aload_n hx hb d_Pla_explore_37 rfl (lv_at hl 1 rfl) ?_
        refine lv_aload_n hx hb d_Pla_explore_38 rfl (lv_at hl 0 rfl) ?_
        refine rgetL X hB hN 0 i_Pla rfl cl_Pla 1 (by decide) k_145 rfl rfl d_Pla_explore_39 ?_
        refine lv_iload_n hx hb d_Pla_explore_42 rfl (lv_at hl 2 rfl) ?_
        refine rlaldL X hB hN 1 rfl (i := q) (by omega) (by decide) d_Pla_explore_43 ?_
        refine wf_tl (y := lN (F1 q)) rfl ?_
        refine callAi (As := [.long (lN (F1 q))]) (rest := [.int (nI q), .ref pz]) X hB wf_hA (c_Set_isLast (l := l) (D := D) (t := t) (w := (wf_l w [(g, .inr (2, [.int (nI k), .ref pf, .ref pl, .ref pz, .ref pk, .ref pn, .ref pm, .int (nI z1)])), (pf, .inl (t 1, 200, .inr (.inl (lA F1)))), (pl, .inl (t 0, 800, .inl (iA L1))), (pz, .inl (t 2, 200, .inl (zA Z1)))])) (sz := H.size) (r := r) (rl := rl) (rc := rc) (rz := rz) (k := k) (b := b) (en := en) (S := F1 q) (wf_ro (w := w) (wl := [(g, .inr (2, [.int (nI k), .ref pf, .ref pl, .ref pz, .ref pk, .ref pn, .ref pm, .int (nI z1)])), (pf, .inl (t 1, 200, .inr (.inl (lA F1)))), (pl, .inl (t 0, 800, .inl (iA L1))), (pz, .inl (t 2, 200, .inl (zA Z1)))]) hO 0 rfl hS) (by have := hb60 q (by omega); omega) (by exact hen)) k_392 k_394 k_421 k_422 k_70 k_393 k_423 (wf_ro (w := w) (wl := [(g, .inr (2, [.int (nI k), .ref pf, .ref pl, .ref pz, .ref pk, .ref pn, .ref pm, .int (nI z1)])), (pf, .inl (t 1, 200, .inr (.inl (lA F1)))), (pl, .inl (t 0, 800, .inl (iA L1))), (pz, .inl (t 2, 200, .inl (zA Z1)))]) hO 0 rfl hS) cl_Set rfl hdA_isLast ⟨Nat.le_of_ble_eq_true rfl, Nat.le_of_ble_eq_true rfl⟩ ⟨Nat.le_of_ble_eq_true rfl, Nat.le_of_ble_eq_true rfl⟩ hl.1 (Nat.le_of_ble_eq_true rfl) d_Pla_explore_44 rfl (fun r_44 w1 H locs hp hB => ?_)
        obtain ⟨rfl, hw_44⟩ := hp
        have hB : wf_B D wcl (wf_A w s.heap.size) s.heap (wf_l w [(g, .inr (2, [.int (nI k), .ref pf, .ref pl, .ref pz, .ref pk, .ref pn, .ref pm, .int (nI z1)])), (pf, .inl (t 1, 200, .inr (.inl (lA F1)))), (pl, .inl (t 0, 800, .inl (iA L1))), (pz, .inl (t 2, 200, .inl (zA Z1)))]) H locs := wf_Bto hw_44 hB
        refine rzastA X hB hN 3 (wl' := [(g, .inr (2, [.int (nI k), .ref pf, .ref pl, .ref pz, .ref pk, .ref pn, .ref pm, .int (nI z1)])), (pf, .inl (t 1, 200, .inr (.inl (lA F1)))), (pl, .inl (t 0, 800, .inl (iA L1))), (pz, .inl (t 2, 200, .inl (zA (nu Z1 q (decide ((F1 q) &&& en ≠ 0))))))]) rfl (i := q) (by omega) (by decide) d_Pla_explore_47 rfl (fun H locs hB => ?_)
        refine lv_iconst (v := nI 0) hx hb d_Pla_explore_48 (by decide) ?_
        refine lv_istore_n (lv' := [(3, .int (nI 0)), (0, .ref g), (1, .ref r), (2, .int (nI q))]) hx hb d_Pla_explore_49 rfl hl (by decide) rfl (fun ls hl => ?_)
        refine c_Pla_explore_Set_L50 (l := l) X hN hO hP hPf hPl hPz hS hL hk hx0 hab hLd hen (fun j z2 F2 L2 hj hqz hb60 hex hZ1 he H locs ls hl hB => ?_) (k - 0 + 1) 0 z1 F1 L1 (by omega) (by omega) (by omega) (by omega) (by intro i hi; by_cases e9 : i = q; (rw [nu_e e9, e9]); rw [nu_n e9]; exact hZ1 i (by omega)) (by omega) H locs ls (lv_sub hl [1, 2, 3, 0] rfl) hB
        refine lv_iinc (v := nI (q + 1)) (lv' := [(2, .int (nI (q + 1))), (0, .ref g), (1, .ref r), (3, .int (nI j))]) hx hb d_Pla_explore_101 hl (k := 2) rfl (show nI q + nI 1 = nI (q + 1) from nI_add _ _) (by decide) rfl (fun ls hl => ?_)
        refine lv_goto (tgt := 17) hx hb d_Pla_explore_104 (by decide) ?_
        exact ih (q + 1) z2 F2 L2 (nu Z1 q (decide ((F1 q) &&& en ≠ 0))) (by omega) (by omega) (by exact exI_next hex he) (by intro i hi; exact hZ1 i (by omega)) (by omega) H locs ls (lv_sub hl [1, 2, 0] rfl) hB
set_option maxHeartbeats 4000000 in
set_option maxRecDepth 100000 in
theorem c_Pla_explore_Set {l : Launch} {D : va_G} {t : Nat → ClassId} {w : wf_W} {sz : Nat} {g pf pl pz pk pn pm k z : Nat} {F L : Nat → Nat} {Z : Nat → Bool} {r rl rc rz b en : Nat} {G : Nat → Nat} {Ld : Nat → Nat → Nat} (hN : nd [g, pf, pl, pz]) (hO : apart [r, rl] [g, pf, pl, pz]) (hP : w g = some (.inr (2, [.int (nI k), .ref pf, .ref pl, .ref pz, .ref pk, .ref pn, .ref pm, .int (nI z)]))) (hPf : w pf = some (.inl (t 1, 200, .inr (.inl (lA F))))) (hPl : w pl = some (.inl (t 0, 800, .inl (iA L)))) (hPz : w pz = some (.inl (t 2, 200, .inl (zA Z)))) (hS : w r = some (.inr (3, [.int (nI k), .ref rl, .ref rc, .ref rz, .long (lN b), .long (lN en)]))) (hL : w rl = some (.inl (t 1, 164, .inr (.inl (lA G))))) (hk : k ≤ 4) (hx0 : b < 2 ^ 60) (hab : ∀ S a, S < 2 ^ 60 → a < k → sAf Ld S a 41 < 2 ^ 60) (hLd : lOK k G Ld) (hen : en < 2 ^ 41) : Mi l y_Pla_explore b_Pla_explore 5 (some .boolean) 3 70 0 0 D t w sz [.ref g, .ref r] (fun r w' => (∃ z0 : Nat, ∃ F0 : Nat → Nat, ∃ L0 : Nat → Nat, ∃ Z0 : Nat → Bool, (exI k (fun S9 a9 => sAf Ld S9 a9 41) b F0 L0 z0 z0 0 ∧ (∀ i, i < z0 → Z0 i = decide ((F0 i) &&& en ≠ 0)) ∧ ∀ i, i < z0 → F0 i < 2 ^ 60) ∧ r = (bI true) ∧ w' = wf_l w [(g, .inr (2, [.int (nI k), .ref pf, .ref pl, .ref pz, .ref pk, .ref pn, .ref pm, .int (nI z0)])), (pf, .inl (t 1, 200, .inr (.inl (lA F0)))), (pl, .inl (t 0, 800, .inl (iA L0))), (pz, .inl (t 2, 200, .inl (zA Z0)))]) ∨ (∃ F0 : Nat → Nat, ∃ L0 : Nat → Nat, ∃ Z0 : Nat → Bool, ∃ p0 : Nat, ∃ a0 : Nat, (exI k (fun S9 a9 => sAf Ld S9 a9 41) b F0 L0 200 p0 a0 ∧ p0 < 200 ∧ a0 < k ∧ ∀ i, i < 200 → F0 i ≠ sAf Ld (F0 p0) a0 41) ∧ r = (bI false) ∧ w' = wf_l w [(g, .inr (2, [.int (nI k), .ref pf, .ref pl, .ref pz, .ref pk, .ref pn, .ref pm, .int (nI 200)])), (pf, .inl (t 1, 200, .inr (.inl (lA F0)))), (pl, .inl (t 0, 800, .inl (iA L0))), (pz, .inl (t 2, 200, .inl (zA Z0)))])) := by
  refine start_i (by decide) (Nat.le_of_ble_eq_true rfl) ?_
  intro p e s m below meth c ls H locs X hB hl
  have hx := X.1
  have hb := X.2.1
  have hl : lv_has ls 5 [(0, .ref g), (1, .ref r)] := hl
  have hB : wf_B D wcl (wf_A w s.heap.size) s.heap (wf_l w [(g, .inr (2, [.int (nI k), .ref pf, .ref pl, .ref pz, .ref pk, .ref pn, .ref pm, .int (nI z)])), (pf, .inl (t 1, 200, .inr (.inl (lA F)))), (pl, .inl (t 0, 800, .inl (iA L))), (pz, .inl (t 2, 200, .inl (zA Z)))]) H locs := wf_Bto (wf_l4 hP hPf hPl hPz).symm hB
  refine lv_aload_n hx hb d_Pla_explore_0 rfl (lv_at hl 0 rfl) ?_
  refine rgetL X hB hN 0 i_Pla rfl cl_Pla 1 (by decide) k_145 rfl rfl d_Pla_explore_1 ?_
  refine lv_iconst (v := nI 0) hx hb d_Pla_explore_4 (by decide) ?_
  refine lv_aload_n hx hb d_Pla_explore_5 rfl (lv_at hl 1 rfl) ?_
  refine callAl (As := []) (rest := [.int (nI 0), .ref pf]) X hB wf_hA (c_Set_first (l := l) (D := D) (t := t) (w := (wf_l w [(g, .inr (2, [.int (nI k), .ref pf, .ref pl, .ref pz, .ref pk, .ref pn, .ref pm, .int (nI z)])), (pf, .inl (t 1, 200, .inr (.inl (lA F)))), (pl, .inl (t 0, 800, .inl (iA L))), (pz, .inl (t 2, 200, .inl (zA Z)))])) (sz := H.size) (r := r) (rl := rl) (rc := rc) (rz := rz) (k := k) (b := b) (en := en) (wf_ro (w := w) (wl := [(g, .inr (2, [.int (nI k), .ref pf, .ref pl, .ref pz, .ref pk, .ref pn, .ref pm, .int (nI z)])), (pf, .inl (t 1, 200, .inr (.inl (lA F)))), (pl, .inl (t 0, 800, .inl (iA L))), (pz, .inl (t 2, 200, .inl (zA Z)))]) hO 0 rfl hS)) k_362 k_364 k_386 k_387 k_70 k_363 k_388 (wf_ro (w := w) (wl := [(g, .inr (2, [.int (nI k), .ref pf, .ref pl, .ref pz, .ref pk, .ref pn, .ref pm, .int (nI z)])), (pf, .inl (t 1, 200, .inr (.inl (lA F)))), (pl, .inl (t 0, 800, .inl (iA L))), (pz, .inl (t 2, 200, .inl (zA Z)))]) hO 0 rfl hS) cl_Set rfl hdA_first ⟨Nat.le_of_ble_eq_true rfl, Nat.le_of_ble_eq_true rfl⟩ ⟨Nat.le_of_ble_eq_true rfl, Nat.le_of_ble_eq_true rfl⟩ hl.1 (Nat.le_of_ble_eq_true rfl) d_Pla_explore_6 rfl (fun r_6 w1 H locs hp hB => ?_)
  obtain ⟨rfl, hw_6⟩ := hp
  have hB : wf_B D wcl (wf_A w s.heap.size) s.heap (wf_l w [(g, .inr (2, [.int (nI k), .ref pf, .ref pl, .ref pz, .ref pk, .ref pn, .ref pm, .int (nI z)])), (pf, .inl (t 1, 200, .inr (.inl (lA F)))), (pl, .inl (t 0, 800, .inl (iA L))), (pz, .inl (t 2, 200, .inl (zA Z)))]) H locs := wf_Bto hw_6 hB
  refine rlastA X hB hN 1 (wl' := [(g, .inr (2, [.int (nI k), .ref pf, .ref pl, .ref pz, .ref pk, .ref pn, .ref pm, .int (nI z)])), (pf, .inl (t 1, 200, .inr (.inl (lA (nu F 0 b))))), (pl, .inl (t 0, 800, .inl (iA L))), (pz, .inl (t 2, 200, .inl (zA Z)))]) rfl (i := 0) (by omega) (by decide) d_Pla_explore_9 rfl (fun H locs hB => ?_)
  refine lv_aload_n hx hb d_Pla_explore_10 rfl (lv_at hl 0 rfl) ?_
  refine lv_iconst (v := nI 1) hx hb d_Pla_explore_11 (by decide) ?_
  refine rput X hB hN 0 (wl' := [(g, .inr (2, [.int (nI k), .ref pf, .ref pl, .ref pz, .ref pk, .ref pn, .ref pm, .int (nI 1)])), (pf, .inl (t 1, 200, .inr (.inl (lA (nu F 0 b))))), (pl, .inl (t 0, 800, .inl (iA L))), (pz, .inl (t 2, 200, .inl (zA Z)))]) i_Pla t_Pla_ok n_Pla rfl cl_Pla 7 (by decide) k_151 rfl rfl rfl rfl (Nat.le_of_ble_eq_true rfl) d_Pla_explore_12 rfl (fun H locs hB => ?_)
  refine lv_iconst (v := nI 0) hx hb d_Pla_explore_15 (by decide) ?_
  refine lv_istore_n (lv' := [(2, .int (nI 0)), (0, .ref g), (1, .ref r)]) hx hb d_Pla_explore_16 rfl hl (by decide) rfl (fun ls hl => ?_)
  refine c_Pla_explore_Set_L17 (l := l) X hN hO hP hPf hPl hPz hS hL hk hx0 hab hLd hen (fun q z1 F1 L1 Z1 hq hb60 hex hZ1 he H locs ls hl hB => ?_) (200 - 0 + 1) 0 1 (nu F 0 b) L Z (by omega) (by intro i hi; rw [nu_e (by omega)]; exact hx0) (by exact exI_0 nu_s) (by intro i hi; omega) (by omega) H locs ls (lv_sub hl [1, 2, 0] rfl) hB
  refine lv_iconst (v := nI 1) hx hb d_Pla_explore_107 (by decide) ?_
  refine wf_ti (y := bI true) rfl ?_
  refine ret_z X hB d_Pla_explore_108 ?_
  exact Or.inl ⟨z1, F1, L1, Z1, ⟨he ▸ hex, fun i hi => hZ1 i (by omega), hb60⟩, rfl, rfl⟩
