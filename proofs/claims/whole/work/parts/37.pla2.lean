/-- the parting by marks, p places through: c kinds, M the mark of each -/
def spI (mk Fi M : Nat → Nat) (p c : Nat) : Prop := (∀ q, q < p → Fi q < c ∧ M (Fi q) = mk q) ∧ (∀ i j, i < c → j < c → M i = M j → i = j) ∧ (∀ q, q < p → ∀ x, x < Fi q → ∃ q', q' < q ∧ Fi q' = x) ∧ ∀ x, x < c → ∃ q, q < p ∧ Fi q = x
theorem spI_0 {mk Fi M : Nat → Nat} : spI mk Fi M 0 0 := ⟨fun q h => absurd h (by omega), fun i j h => absurd h (by omega), fun q h => absurd h (by omega), fun x h => absurd h (by omega)⟩
theorem spI_s {mk Fi M : Nat → Nat} {p c i : Nat} (h : spI mk Fi M p c) (hx : (i = c ∧ ∀ j, j < c → M j ≠ mk p) ∨ (i < c ∧ M i = mk p)) : spI mk (nu Fi p i) (nu M i (mk p)) (p + 1) (max c (i + 1)) := by
  obtain ⟨h1, h2, h3, h4⟩ := h
  have hM : ∀ j, j < c → nu M i (mk p) j = M j := by
    intro j hj
    rcases hx with ⟨e, -⟩ | ⟨e, e2⟩
    · exact nu_n (by omega)
    · by_cases hji : j = i
      · rw [nu_e hji, hji, e2]
      · exact nu_n hji
  refine ⟨?_, ?_, ?_, ?_⟩
  · intro q hq
    by_cases e : q = p
    · rw [nu_e e, nu_s, e]
      exact ⟨by omega, rfl⟩
    · obtain ⟨a1, a2⟩ := h1 q (by omega)
      rw [nu_n e, hM _ a1, a2]
      exact ⟨by omega, rfl⟩
  · intro a b ha hb e
    rcases hx with ⟨e1, hno⟩ | ⟨e1, e2⟩
    · by_cases a1 : a = i
      · by_cases b1 : b = i
        · omega
        · rw [nu_e a1, nu_n b1] at e
          exact absurd e.symm (hno b (by omega))
      · by_cases b1 : b = i
        · rw [nu_n a1, nu_e b1] at e
          exact absurd e (hno a (by omega))
        · rw [nu_n a1, nu_n b1] at e
          exact h2 a b (by omega) (by omega) e
    · rw [hM a (by omega), hM b (by omega)] at e
      exact h2 a b (by omega) (by omega) e
  · intro q hq x hxq
    by_cases e : q = p
    · rw [nu_e e] at hxq
      obtain ⟨q', g1, g2⟩ := h4 x (by omega)
      exact ⟨q', by omega, by rw [nu_n (by omega), g2]⟩
    · rw [nu_n e] at hxq
      obtain ⟨q', g1, g2⟩ := h3 q (by omega) x hxq
      exact ⟨q', g1, by rw [nu_n (by omega), g2]⟩
  · intro x hxc
    by_cases e : x < c
    · obtain ⟨q, g1, g2⟩ := h4 x e
      exact ⟨q, by omega, by rw [nu_n (by omega), g2]⟩
    · exact ⟨p, by omega, by rw [nu_s]; omega⟩
theorem spI_fo {mk Fi M K : Nat → Nat} {z c : Nat} (h : spI mk Fi M z c) : foN mk (ncp Fi K z) z c := by
  obtain ⟨h1, h2, h3, h4⟩ := h
  have e : ∀ p, p < z → ncp Fi K z p = Fi p := fun p hp => by simp [ncp, hp]
  refine ⟨fun p hp => by rw [e p hp]; exact (h1 p hp).1, fun p q hp hq => ?_, fun p hp x hx => ?_, fun x hx => ?_⟩
  · rw [e p hp, e q hq]
    constructor
    · intro g
      rw [← (h1 p hp).2, ← (h1 q hq).2, g]
    · intro g
      exact h2 _ _ (h1 p hp).1 (h1 q hq).1 (by rw [(h1 p hp).2, (h1 q hq).2, g])
  · rw [e p hp] at hx
    obtain ⟨q, g1, g2⟩ := h3 p hp x hx
    exact ⟨q, g1, by rw [e q (by omega), g2]⟩
  · obtain ⟨p, g1, g2⟩ := h4 x hx
    exact ⟨p, g1, by rw [e p g1, g2]⟩
/-- a 41st kind -/
theorem spI_many {mk Fi M : Nat → Nat} {p z : Nat} (h : spI mk Fi M p 40) (hp : p < z) (hno : ∀ j, j < 40 → M j ≠ mk p) : ∃ Dd : Nat → Nat, (∀ i, i < 41 → Dd i < z) ∧ ∀ i j, i < 41 → j < 41 → mk (Dd i) = mk (Dd j) → i = j := by
  obtain ⟨h1, h2, h3, h4⟩ := h
  have hch : ∀ x, ∃ q, x < 40 → q < p ∧ Fi q = x := fun x => by
    by_cases hx : x < 40
    · obtain ⟨q, g1, g2⟩ := h4 x hx
      exact ⟨q, fun _ => ⟨g1, g2⟩⟩
    · exact ⟨0, fun e => absurd e hx⟩
  obtain ⟨r, hr⟩ := Classical.axiomOfChoice hch
  have mkr : ∀ x, x < 40 → mk (r x) = M x := fun x hx => by
    have := (h1 (r x) (hr x hx).1).2
    rw [(hr x hx).2] at this
    exact this.symm
  refine ⟨fun x => if x < 40 then r x else p, fun i hi => ?_, fun i j hi hj e => ?_⟩
  · show (if i < 40 then r i else p) < z
    split
    · rename_i h9; have := (hr i h9).1; omega
    · exact hp
  · by_cases a1 : i < 40
    · by_cases a2 : j < 40
      · simp only [if_pos a1, if_pos a2] at e
        rw [mkr i a1, mkr j a2] at e
        exact h2 i j a1 a2 e
      · simp only [if_pos a1, if_neg a2] at e
        rw [mkr i a1] at e
        exact absurd e (hno i a1)
    · by_cases a2 : j < 40
      · simp only [if_neg a1, if_pos a2] at e
        rw [mkr j a2] at e
        exact absurd e.symm (hno j a2)
      · omega
theorem mx_nat {a b : Nat} (ha : a < 2 ^ 31) (hb : b < 2 ^ 31) : (if nI a < nI b then nI b else nI a) = nI (max a b) := by
  rcases Nat.lt_or_ge a b with h | h
  · rw [if_pos (nI_lt h hb), Nat.max_eq_right (by omega)]
  · rw [if_neg (nI_nlt h ha), Nat.max_eq_left h]
theorem mrk_all {K L : Nat → Nat} {z k u : Nat} (hk : k ≤ 4) (hK : ∀ p, p < z → K p < 64) (hL : ∀ p a, p < z → a < k → L (p * 4 + a) < z) (hu : u < z) : mrk K L u k < 1073741824 :=
  Nat.lt_of_lt_of_le (mrk_lt hK (fun b hb => hL u b hu hb) hu k (Nat.le_refl _)) (Nat.le_trans (Nat.pow_le_pow_right (by decide) (show k + 1 ≤ 5 by omega)) (by decide))
set_option maxHeartbeats 4000000 in
set_option maxRecDepth 100000 in
theorem c_Pla_splitByLeads_L21 {l : Launch} {D : va_G} {t : Nat → ClassId} {w : wf_W} {g pf pl pz pk pn pm k z : Nat} {L K Fi Mk : Nat → Nat} {q c1 : Nat} {Fi1 M1 : Nat → Nat} {p : Program} {e : Env} {s : State} {m : MethodId} {below : List Frame} {meth : Method} {c : Code} {Q : State → Prop} (X : Cx p s m meth c R_Pla "splitByLeads" b_Pla_splitByLeads 5 (some .int) D t) (hN : nd [g, pl, pk, pn, pm]) (hP : w g = some (.inr (2, [.int (nI k), .ref pf, .ref pl, .ref pz, .ref pk, .ref pn, .ref pm, .int (nI z)]))) (hPl : w pl = some (.inl (t 0, 800, .inl (iA L)))) (hPk : w pk = some (.inl (t 0, 200, .inl (iA K)))) (hPn : w pn = some (.inl (t 0, 200, .inl (iA Fi)))) (hPm : w pm = some (.inl (t 0, 40, .inl (iA Mk)))) (hk : k ≤ 4) (hz : z ≤ 200) (hLz : ∀ p a, p < z → a < k → L (p * 4 + a) < z) (hK64 : ∀ p, p < z → K p < 64) (hq : q < z) (hc : c1 ≤ 40) (hsp : spI (fun q9 => mrk K L q9 k) Fi1 M1 q c1)
    (K_44 : ∀ (i : Nat), (i ≤ c1) → (∀ j, j < i → M1 j ≠ mrk K L q k) → ((i = c1 ∧ ∀ j, j < c1 → M1 j ≠ mrk K L q k) ∨ (i < c1 ∧ M1 i = mrk K L q k)) → ∀ (H : Heap) (locs : List Loc) (ls : Array Slot), lv_has ls 5 [(0, .ref g), (1, .int (nI c1)), (2, .int (nI q)), (3, .int (nI (mrk K L q k))), (4, .int (nI i))] → wf_B D wcl (wf_A w s.heap.size) s.heap (wf_l w [(g, .inr (2, [.int (nI k), .ref pf, .ref pl, .ref pz, .ref pk, .ref pn, .ref pm, .int (nI z)])), (pl, .inl (t 0, 800, .inl (iA L))), (pk, .inl (t 0, 200, .inl (iA K))), (pn, .inl (t 0, 200, .inl (iA Fi1))), (pm, .inl (t 0, 40, .inl (iA M1)))]) H locs → W p l e (rmk 2 46 0 0) s m [.ref g].toArray below meth c H locs 0 0 Q (F0 m 44 ls [])) :
    ∀ (fu : Nat) (i : Nat), (i ≤ c1) → (∀ j, j < i → M1 j ≠ mrk K L q k) → c1 - i < fu → ∀ (H : Heap) (locs : List Loc) (ls : Array Slot), lv_has ls 5 [(0, .ref g), (1, .int (nI c1)), (2, .int (nI q)), (3, .int (nI (mrk K L q k))), (4, .int (nI i))] → wf_B D wcl (wf_A w s.heap.size) s.heap (wf_l w [(g, .inr (2, [.int (nI k), .ref pf, .ref pl, .ref pz, .ref pk, .ref pn, .ref pm, .int (nI z)])), (pl, .inl (t 0, 800, .inl (iA L))), (pk, .inl (t 0, 200, .inl (iA K))), (pn, .inl (t 0, 200, .inl (iA Fi1))), (pm, .inl (t 0, 40, .inl (iA M1)))]) H locs → W p l e (rmk 2 46 0 0) s m [.ref g].toArray below meth c H locs 0 0 Q (F0 m 21 ls []) := by
  have hx := X.1
  have hb := X.2.1
  intro fu
  induction fu with
  | zero => intro i hi hno hfu; exact absurd hfu (Nat.not_lt_zero _)
  | succ fu ih =>
    intro i hi hno hfu H locs ls hl hB
    have hmq := mrk_all hk hK64 hLz hq
    refine lv_iload hx hb d_Pla_splitByLeads_21 (lv_at hl 4 rfl) ?_
    refine lv_iload_n hx hb d_Pla_splitByLeads_23 rfl (lv_at hl 1 rfl) ?_
    refine wf_cge (tgt := 44) hx hb d_Pla_splitByLeads_24 (by decide) (nI_toInt (by omega)) (nI_toInt (by omega)) (fun c_24 => ?_) (fun c_24 => ?_)
    · exact K_44 i hi hno (by first | exact Or.inl ⟨by omega, fun j hj => hno j (by omega)⟩ | exact Or.inr ⟨by omega, by omega⟩) H locs ls (lv_sub hl [0, 1, 2, 3, 4] rfl) hB
    · refine lv_aload_n hx hb d_Pla_splitByLeads_27 rfl (lv_at hl 0 rfl) ?_
      refine rgetL X hB hN 0 i_Pla rfl cl_Pla 6 (by decide) k_150 rfl rfl d_Pla_splitByLeads_28 ?_
      refine lv_iload hx hb d_Pla_splitByLeads_31 (lv_at hl 4 rfl) ?_
      refine rialdL X hB hN 4 rfl (i := i) (by omega) (by decide) d_Pla_splitByLeads_33 ?_
      refine wf_ti (y := nI (M1 i)) rfl ?_
      refine lv_iload_n hx hb d_Pla_splitByLeads_34 rfl (lv_at hl 3 rfl) ?_
      refine wf_ceq (tgt := 44) hx hb d_Pla_splitByLeads_35 (by decide) (nI_toInt (by obtain ⟨q', g1, g2⟩ := hsp.2.2.2 i (by omega); have g3 : M1 (Fi1 q') = mrk K L q' k := (hsp.1 q' g1).2; rw [g2] at g3; rw [g3]; have g4 := mrk_all hk hK64 hLz (show q' < z by omega); omega)) (nI_toInt (by omega)) (fun c_35 => ?_) (fun c_35 => ?_)
      · exact K_44 i hi hno (by first | exact Or.inl ⟨by omega, fun j hj => hno j (by omega)⟩ | exact Or.inr ⟨by omega, by omega⟩) H locs ls (lv_sub hl [0, 1, 2, 3, 4] rfl) hB
      · refine lv_iinc (v := nI (i + 1)) (lv' := [(4, .int (nI (i + 1))), (0, .ref g), (1, .int (nI c1)), (2, .int (nI q)), (3, .int (nI (mrk K L q k)))]) hx hb d_Pla_splitByLeads_38 hl (k := 4) rfl (show nI i + nI 1 = nI (i + 1) from nI_add _ _) (by decide) rfl (fun ls hl => ?_)
        refine lv_goto (tgt := 21) hx hb d_Pla_splitByLeads_41 (by decide) ?_
        exact ih (i + 1) (by omega) (by intro j hj e9; by_cases e8 : j = i; (rw [e8] at e9; omega); exact hno j (by omega) e9) (by omega) H locs ls (lv_sub hl [1, 2, 3, 4, 0] rfl) hB
set_option maxHeartbeats 4000000 in
set_option maxRecDepth 100000 in
theorem c_Pla_splitByLeads_L4 {l : Launch} {D : va_G} {t : Nat → ClassId} {w : wf_W} {g pf pl pz pk pn pm k z : Nat} {L K Fi Mk : Nat → Nat}  {p : Program} {e : Env} {s : State} {m : MethodId} {below : List Frame} {meth : Method} {c : Code} (X : Cx p s m meth c R_Pla "splitByLeads" b_Pla_splitByLeads 5 (some .int) D t) (hN : nd [g, pl, pk, pn, pm]) (hP : w g = some (.inr (2, [.int (nI k), .ref pf, .ref pl, .ref pz, .ref pk, .ref pn, .ref pm, .int (nI z)]))) (hPl : w pl = some (.inl (t 0, 800, .inl (iA L)))) (hPk : w pk = some (.inl (t 0, 200, .inl (iA K)))) (hPn : w pn = some (.inl (t 0, 200, .inl (iA Fi)))) (hPm : w pm = some (.inl (t 0, 40, .inl (iA Mk)))) (hk : k ≤ 4) (hz : z ≤ 200) (hLz : ∀ p a, p < z → a < k → L (p * 4 + a) < z) (hK64 : ∀ p, p < z → K p < 64)
    (K_84 : ∀ (q : Nat) (c1 : Nat) (Fi1 : Nat → Nat) (M1 : Nat → Nat), (q ≤ z) → (c1 ≤ 40) → (spI (fun q9 => mrk K L q9 k) Fi1 M1 q c1) → (q = z) → ∀ (H : Heap) (locs : List Loc) (ls : Array Slot), lv_has ls 5 [(0, .ref g), (1, .int (nI c1)), (2, .int (nI q))] → wf_B D wcl (wf_A w s.heap.size) s.heap (wf_l w [(g, .inr (2, [.int (nI k), .ref pf, .ref pl, .ref pz, .ref pk, .ref pn, .ref pm, .int (nI z)])), (pl, .inl (t 0, 800, .inl (iA L))), (pk, .inl (t 0, 200, .inl (iA K))), (pn, .inl (t 0, 200, .inl (iA Fi1))), (pm, .inl (t 0, 40, .inl (iA M1)))]) H locs → W p l e (rmk 2 46 0 0) s m [.ref g].toArray below meth c H locs 0 0 (MQ below (wf_Qi D wcl w (fun r w' => (∃ c0 : Nat, ∃ K0 : Nat → Nat, ∃ Fi0 : Nat → Nat, ∃ M0 : Nat → Nat, (c0 ≤ 40) ∧ (foN (fun q9 => mrk K L q9 k) K0 z c0) ∧ r = (nI c0) ∧ w' = wf_l w [(g, .inr (2, [.int (nI k), .ref pf, .ref pl, .ref pz, .ref pk, .ref pn, .ref pm, .int (nI z)])), (pl, .inl (t 0, 800, .inl (iA L))), (pk, .inl (t 0, 200, .inl (iA K0))), (pn, .inl (t 0, 200, .inl (iA Fi0))), (pm, .inl (t 0, 40, .inl (iA M0)))]) ∨ (∃ Fi0 : Nat → Nat, ∃ M0 : Nat → Nat, (∃ Dd : Nat → Nat, (∀ i, i < 41 → Dd i < z) ∧ ∀ i j, i < 41 → j < 41 → mrk K L (Dd i) k = mrk K L (Dd j) k → i = j) ∧ r = (-1) ∧ w' = wf_l w [(g, .inr (2, [.int (nI k), .ref pf, .ref pl, .ref pz, .ref pk, .ref pn, .ref pm, .int (nI z)])), (pl, .inl (t 0, 800, .inl (iA L))), (pk, .inl (t 0, 200, .inl (iA K))), (pn, .inl (t 0, 200, .inl (iA Fi0))), (pm, .inl (t 0, 40, .inl (iA M0)))])) s.heap.size) [.ref g].toArray s 0 0 (wf_A w s.heap.size)) (F0 m 84 ls [])) :
    ∀ (fu : Nat) (q : Nat) (c1 : Nat) (Fi1 : Nat → Nat) (M1 : Nat → Nat), (q ≤ z) → (c1 ≤ 40) → (spI (fun q9 => mrk K L q9 k) Fi1 M1 q c1) → z - q < fu → ∀ (H : Heap) (locs : List Loc) (ls : Array Slot), lv_has ls 5 [(0, .ref g), (1, .int (nI c1)), (2, .int (nI q))] → wf_B D wcl (wf_A w s.heap.size) s.heap (wf_l w [(g, .inr (2, [.int (nI k), .ref pf, .ref pl, .ref pz, .ref pk, .ref pn, .ref pm, .int (nI z)])), (pl, .inl (t 0, 800, .inl (iA L))), (pk, .inl (t 0, 200, .inl (iA K))), (pn, .inl (t 0, 200, .inl (iA Fi1))), (pm, .inl (t 0, 40, .inl (iA M1)))]) H locs → W p l e (rmk 2 46 0 0) s m [.ref g].toArray below meth c H locs 0 0 (MQ below (wf_Qi D wcl w (fun r w' => (∃ c0 : Nat, ∃ K0 : Nat → Nat, ∃ Fi0 : Nat → Nat, ∃ M0 : Nat → Nat, (c0 ≤ 40) ∧ (foN (fun q9 => mrk K L q9 k) K0 z c0) ∧ r = (nI c0) ∧ w' = wf_l w [(g, .inr (2, [.int (nI k), .ref pf, .ref pl, .ref pz, .ref pk, .ref pn, .ref pm, .int (nI z)])), (pl, .inl (t 0, 800, .inl (iA L))), (pk, .inl (t 0, 200, .inl (iA K0))), (pn, .inl (t 0, 200, .inl (iA Fi0))), (pm, .inl (t 0, 40, .inl (iA M0)))]) ∨ (∃ Fi0 : Nat → Nat, ∃ M0 : Nat → Nat, (∃ Dd : Nat → Nat, (∀ i, i < 41 → Dd i < z) ∧ ∀ i j, i < 41 → j < 41 → mrk K L (Dd i) k = mrk K L (Dd j) k → i = j) ∧ r = (-1) ∧ w' = wf_l w [(g, .inr (2, [.int (nI k), .ref pf, .ref pl, .ref pz, .ref pk, .ref pn, .ref pm, .int (nI z)])), (pl, .inl (t 0, 800, .inl (iA L))), (pk, .inl (t 0, 200, .inl (iA K))), (pn, .inl (t 0, 200, .inl (iA Fi0))), (pm, .inl (t 0, 40, .inl (iA M0)))])) s.heap.size) [.ref g].toArray s 0 0 (wf_A w s.heap.size)) (F0 m 4 ls []) := by
  have hx := X.1
  have hb := X.2.1
  intro fu
  induction fu with
  | zero => intro q c1 Fi1 M1 hq hc hsp hfu; exact absurd hfu (Nat.not_lt_zero _)
  | succ fu ih =>
    intro q c1 Fi1 M1 hq hc hsp hfu H locs ls hl hB
    refine lv_iload_n hx hb d_Pla_splitByLeads_4 rfl (lv_at hl 2 rfl) ?_
    refine lv_aload_n hx hb d_Pla_splitByLeads_5 rfl (lv_at hl 0 rfl) ?_
    refine rgetL X hB hN 0 i_Pla rfl cl_Pla 7 (by decide) k_151 rfl rfl d_Pla_splitByLeads_6 ?_
    refine wf_cge (tgt := 84) hx hb d_Pla_splitByLeads_9 (by decide) (nI_toInt (by omega)) (nI_toInt (by omega)) (fun c_9 => ?_) (fun c_9 => ?_)
    · exact K_84 q c1 Fi1 M1 hq hc hsp (by omega) H locs ls (lv_sub hl [0, 1, 2] rfl) hB
    · have hq : q < z := by omega
      have hmq := mrk_all hk hK64 hLz hq
      refine lv_aload_n hx hb d_Pla_splitByLeads_12 rfl (lv_at hl 0 rfl) ?_
      refine lv_iload_n hx hb d_Pla_splitByLeads_13 rfl (lv_at hl 2 rfl) ?_
      refine callVi (As := [.int (nI q)]) (rest := []) X hB wf_hA (c_Pla_markOf (l := l) (D := D) (t := t) (w := (wf_l w [(g, .inr (2, [.int (nI k), .ref pf, .ref pl, .ref pz, .ref pk, .ref pn, .ref pm, .int (nI z)])), (pl, .inl (t 0, 800, .inl (iA L))), (pk, .inl (t 0, 200, .inl (iA K))), (pn, .inl (t 0, 200, .inl (iA Fi1))), (pm, .inl (t 0, 40, .inl (iA M1)))])) (sz := H.size) (g := g) (pf := pf) (pl := pl) (pz := pz) (pk := pk) (pn := pn) (pm := pm) (k := k) (z := z) (L := L) (K := K) (u := q) (wf_lg (w := w) (l := [(g, .inr (2, [.int (nI k), .ref pf, .ref pl, .ref pz, .ref pk, .ref pn, .ref pm, .int (nI z)])), (pl, .inl (t 0, 800, .inl (iA L))), (pk, .inl (t 0, 200, .inl (iA K))), (pn, .inl (t 0, 200, .inl (iA Fi1))), (pm, .inl (t 0, 40, .inl (iA M1)))]) hN 0 rfl) (wf_lg (w := w) (l := [(g, .inr (2, [.int (nI k), .ref pf, .ref pl, .ref pz, .ref pk, .ref pn, .ref pm, .int (nI z)])), (pl, .inl (t 0, 800, .inl (iA L))), (pk, .inl (t 0, 200, .inl (iA K))), (pn, .inl (t 0, 200, .inl (iA Fi1))), (pm, .inl (t 0, 40, .inl (iA M1)))]) hN 1 rfl) (wf_lg (w := w) (l := [(g, .inr (2, [.int (nI k), .ref pf, .ref pl, .ref pz, .ref pk, .ref pn, .ref pm, .int (nI z)])), (pl, .inl (t 0, 800, .inl (iA L))), (pk, .inl (t 0, 200, .inl (iA K))), (pn, .inl (t 0, 200, .inl (iA Fi1))), (pm, .inl (t 0, 40, .inl (iA M1)))]) hN 2 rfl) (by exact hk) (by exact hz) (by exact hLz) (by exact hK64) (by omega)) k_499 k_501 k_11 k_68 k_502 (wf_lg (w := w) (l := [(g, .inr (2, [.int (nI k), .ref pf, .ref pl, .ref pz, .ref pk, .ref pn, .ref pm, .int (nI z)])), (pl, .inl (t 0, 800, .inl (iA L))), (pk, .inl (t 0, 200, .inl (iA K))), (pn, .inl (t 0, 200, .inl (iA Fi1))), (pm, .inl (t 0, 40, .inl (iA M1)))]) hN 0 rfl) cl_Pla rfl hd_Pla_markOf ⟨Nat.le_of_ble_eq_true rfl, Nat.le_of_ble_eq_true rfl⟩ ⟨Nat.le_of_ble_eq_true rfl, Nat.le_of_ble_eq_true rfl⟩ hl.1 (Nat.le_of_ble_eq_true rfl) d_Pla_splitByLeads_14 rfl (fun r_14 w1 H locs hp hB => ?_)
      obtain ⟨rfl, hw_14⟩ := hp
      have hB : wf_B D wcl (wf_A w s.heap.size) s.heap (wf_l w [(g, .inr (2, [.int (nI k), .ref pf, .ref pl, .ref pz, .ref pk, .ref pn, .ref pm, .int (nI z)])), (pl, .inl (t 0, 800, .inl (iA L))), (pk, .inl (t 0, 200, .inl (iA K))), (pn, .inl (t 0, 200, .inl (iA Fi1))), (pm, .inl (t 0, 40, .inl (iA M1)))]) H locs := wf_Bto hw_14 hB
      refine lv_istore_n (lv' := [(3, .int (nI (mrk K L q k))), (0, .ref g), (1, .int (nI c1)), (2, .int (nI q))]) hx hb d_Pla_splitByLeads_17 rfl hl (by decide) rfl (fun ls hl => ?_)
      refine lv_iconst (v := nI 0) hx hb d_Pla_splitByLeads_18 (by decide) ?_
      refine lv_istore (lv' := [(4, .int (nI 0)), (3, .int (nI (mrk K L q k))), (0, .ref g), (1, .int (nI c1)), (2, .int (nI q))]) hx hb d_Pla_splitByLeads_19 hl (by decide) rfl (fun ls hl => ?_)
      refine c_Pla_splitByLeads_L21 (l := l) X hN hP hPl hPk hPn hPm hk hz hLz hK64 hq hc hsp (fun i hi hno hxx H locs ls hl hB => ?_) (c1 - 0 + 1) 0 (by omega) (by intro j hj; omega) (by omega) H locs ls (lv_sub hl [2, 3, 4, 1, 0] rfl) hB
      refine lv_iload hx hb d_Pla_splitByLeads_44 (lv_at hl 4 rfl) ?_
      refine lv_bipush (v := nI 40) hx hb d_Pla_splitByLeads_46 (by decide) ?_
      refine wf_clt (tgt := 53) hx hb d_Pla_splitByLeads_48 (by decide) (nI_toInt (by omega)) (nI_toInt (by omega)) (fun c_48 => ?_) (fun c_48 => ?_)
      · refine lv_aload_n hx hb d_Pla_splitByLeads_53 rfl (lv_at hl 0 rfl) ?_
        refine rgetL X hB hN 0 i_Pla rfl cl_Pla 6 (by decide) k_150 rfl rfl d_Pla_splitByLeads_54 ?_
        refine lv_iload hx hb d_Pla_splitByLeads_57 (lv_at hl 4 rfl) ?_
        refine lv_iload_n hx hb d_Pla_splitByLeads_59 rfl (lv_at hl 3 rfl) ?_
        refine riastA X hB hN 4 (wl' := [(g, .inr (2, [.int (nI k), .ref pf, .ref pl, .ref pz, .ref pk, .ref pn, .ref pm, .int (nI z)])), (pl, .inl (t 0, 800, .inl (iA L))), (pk, .inl (t 0, 200, .inl (iA K))), (pn, .inl (t 0, 200, .inl (iA Fi1))), (pm, .inl (t 0, 40, .inl (iA (nu M1 i (mrk K L q k)))))]) rfl (i := i) (by omega) (by decide) d_Pla_splitByLeads_60 rfl (fun H locs hB => ?_)
        refine lv_aload_n hx hb d_Pla_splitByLeads_61 rfl (lv_at hl 0 rfl) ?_
        refine rgetL X hB hN 0 i_Pla rfl cl_Pla 5 (by decide) k_149 rfl rfl d_Pla_splitByLeads_62 ?_
        refine lv_iload_n hx hb d_Pla_splitByLeads_65 rfl (lv_at hl 2 rfl) ?_
        refine lv_iload hx hb d_Pla_splitByLeads_66 (lv_at hl 4 rfl) ?_
        refine riastA X hB hN 3 (wl' := [(g, .inr (2, [.int (nI k), .ref pf, .ref pl, .ref pz, .ref pk, .ref pn, .ref pm, .int (nI z)])), (pl, .inl (t 0, 800, .inl (iA L))), (pk, .inl (t 0, 200, .inl (iA K))), (pn, .inl (t 0, 200, .inl (iA (nu Fi1 q i)))), (pm, .inl (t 0, 40, .inl (iA (nu M1 i (mrk K L q k)))))]) rfl (i := q) (by omega) (by decide) d_Pla_splitByLeads_68 rfl (fun H locs hB => ?_)
        refine lv_iload_n hx hb d_Pla_splitByLeads_69 rfl (lv_at hl 1 rfl) ?_
        refine lv_iload hx hb d_Pla_splitByLeads_70 (lv_at hl 4 rfl) ?_
        refine lv_iconst (v := nI 1) hx hb d_Pla_splitByLeads_72 (by decide) ?_
        refine wf_iadd (x := i) (y := 1) hx hb d_Pla_splitByLeads_73 ?_
        refine va_mmax hx hb (by rw [X.2.2.2.1]; exact hl.1.symm) X.2.2.1 (X.2.2.2.2.1.2 _ k_507 _) (X.2.2.2.2.1.2 _ k_91 _) (X.2.2.2.2.1.2 _ k_65 _) (X.2.2.2.2.1.2 _ k_92 _) (Nat.le_of_ble_eq_true rfl) (Nat.le_of_ble_eq_true rfl) (Nat.le_of_ble_eq_true rfl) (Nat.le_of_ble_eq_true rfl) d_Pla_splitByLeads_74 ?_
        refine wf_ti (y := nI (max c1 (i + 1))) (by exact mx_nat (by omega) (by omega)) ?_
        refine lv_istore_n (lv' := [(1, .int (nI (max c1 (i + 1)))), (0, .ref g), (2, .int (nI q)), (3, .int (nI (mrk K L q k))), (4, .int (nI i))]) hx hb d_Pla_splitByLeads_77 rfl hl (by decide) rfl (fun ls hl => ?_)
        refine lv_iinc (v := nI (q + 1)) (lv' := [(2, .int (nI (q + 1))), (1, .int (nI (max c1 (i + 1)))), (0, .ref g), (3, .int (nI (mrk K L q k))), (4, .int (nI i))]) hx hb d_Pla_splitByLeads_78 hl (k := 2) rfl (show nI q + nI 1 = nI (q + 1) from nI_add _ _) (by decide) rfl (fun ls hl => ?_)
        refine lv_goto (tgt := 4) hx hb d_Pla_splitByLeads_81 (by decide) ?_
        exact ih (q + 1) (max c1 (i + 1)) (nu Fi1 q i) (nu M1 i (mrk K L q k)) (by omega) (by omega) (by exact spI_s hsp hxx) (by omega) H locs ls (lv_sub hl [2, 1, 0] rfl) hB
      · refine lv_iconst (v := (-1)) hx hb d_Pla_splitByLeads_51 (by decide) ?_
        refine ret_i X hB d_Pla_splitByLeads_52 ?_
        have hc40 : c1 = 40 := by omega
        have hi40 : i = c1 := by omega
        subst hc40
        exact Or.inr ⟨_, _, spI_many hsp hq (fun j hj => by (rcases hxx with g | g; exact g.2 j hj; omega)), rfl, rfl⟩
set_option maxHeartbeats 4000000 in
set_option maxRecDepth 100000 in
theorem c_Pla_splitByLeads {l : Launch} {D : va_G} {t : Nat → ClassId} {w : wf_W} {sz : Nat} {g pf pl pz pk pn pm k z : Nat} {L K Fi Mk : Nat → Nat} (hN : nd [g, pl, pk, pn, pm]) (hP : w g = some (.inr (2, [.int (nI k), .ref pf, .ref pl, .ref pz, .ref pk, .ref pn, .ref pm, .int (nI z)]))) (hPl : w pl = some (.inl (t 0, 800, .inl (iA L)))) (hPk : w pk = some (.inl (t 0, 200, .inl (iA K)))) (hPn : w pn = some (.inl (t 0, 200, .inl (iA Fi)))) (hPm : w pm = some (.inl (t 0, 40, .inl (iA Mk)))) (hk : k ≤ 4) (hz : z ≤ 200) (hLz : ∀ p a, p < z → a < k → L (p * 4 + a) < z) (hK64 : ∀ p, p < z → K p < 64) : Mi l y_Pla_splitByLeads b_Pla_splitByLeads 5 (some .int) 2 46 0 0 D t w sz [.ref g] (fun r w' => (∃ c0 : Nat, ∃ K0 : Nat → Nat, ∃ Fi0 : Nat → Nat, ∃ M0 : Nat → Nat, (c0 ≤ 40) ∧ (foN (fun q9 => mrk K L q9 k) K0 z c0) ∧ r = (nI c0) ∧ w' = wf_l w [(g, .inr (2, [.int (nI k), .ref pf, .ref pl, .ref pz, .ref pk, .ref pn, .ref pm, .int (nI z)])), (pl, .inl (t 0, 800, .inl (iA L))), (pk, .inl (t 0, 200, .inl (iA K0))), (pn, .inl (t 0, 200, .inl (iA Fi0))), (pm, .inl (t 0, 40, .inl (iA M0)))]) ∨ (∃ Fi0 : Nat → Nat, ∃ M0 : Nat → Nat, (∃ Dd : Nat → Nat, (∀ i, i < 41 → Dd i < z) ∧ ∀ i j, i < 41 → j < 41 → mrk K L (Dd i) k = mrk K L (Dd j) k → i = j) ∧ r = (-1) ∧ w' = wf_l w [(g, .inr (2, [.int (nI k), .ref pf, .ref pl, .ref pz, .ref pk, .ref pn, .ref pm, .int (nI z)])), (pl, .inl (t 0, 800, .inl (iA L))), (pk, .inl (t 0, 200, .inl (iA K))), (pn, .inl (t 0, 200, .inl (iA Fi0))), (pm, .inl (t 0, 40, .inl (iA M0)))])) := by
  refine start_i (by decide) (Nat.le_of_ble_eq_true rfl) ?_
  intro p e s m below meth c ls H locs X hB hl
  have hx := X.1
  have hb := X.2.1
  have hl : lv_has ls 5 [(0, .ref g)] := hl
  have hB : wf_B D wcl (wf_A w s.heap.size) s.heap (wf_l w [(g, .inr (2, [.int (nI k), .ref pf, .ref pl, .ref pz, .ref pk, .ref pn, .ref pm, .int (nI z)])), (pl, .inl (t 0, 800, .inl (iA L))), (pk, .inl (t 0, 200, .inl (iA K))), (pn, .inl (t 0, 200, .inl (iA Fi))), (pm, .inl (t 0, 40, .inl (iA Mk)))]) H locs := wf_Bto (wf_l5 hP hPl hPk hPn hPm).symm hB
  refine lv_iconst (v := nI 0) hx hb d_Pla_splitByLeads_0 (by decide) ?_
  refine lv_istore_n (lv' := [(1, .int (nI 0)), (0, .ref g)]) hx hb d_Pla_splitByLeads_1 rfl hl (by decide) rfl (fun ls hl => ?_)
  refine lv_iconst (v := nI 0) hx hb d_Pla_splitByLeads_2 (by decide) ?_
  refine lv_istore_n (lv' := [(2, .int (nI 0)), (1, .int (nI 0)), (0, .ref g)]) hx hb d_Pla_splitByLeads_3 rfl hl (by decide) rfl (fun ls hl => ?_)
  refine c_Pla_splitByLeads_L4 (l := l) X hN hP hPl hPk hPn hPm hk hz hLz hK64 (fun q c1 Fi1 M1 hq hc hsp he H locs ls hl hB => ?_) (z - 0 + 1) 0 0 Fi Mk (by omega) (by omega) (by exact spI_0) (by omega) H locs ls (lv_sub hl [2, 1, 0] rfl) hB
  refine lv_aload_n hx hb d_Pla_splitByLeads_84 rfl (lv_at hl 0 rfl) ?_
  refine rgetL X hB hN 0 i_Pla rfl cl_Pla 5 (by decide) k_149 rfl rfl d_Pla_splitByLeads_85 ?_
  refine lv_iconst (v := nI 0) hx hb d_Pla_splitByLeads_88 (by decide) ?_
  refine lv_aload_n hx hb d_Pla_splitByLeads_89 rfl (lv_at hl 0 rfl) ?_
  refine rgetL X hB hN 0 i_Pla rfl cl_Pla 4 (by decide) k_148 rfl rfl d_Pla_splitByLeads_90 ?_
  refine lv_iconst (v := nI 0) hx hb d_Pla_splitByLeads_93 (by decide) ?_
  refine lv_aload_n hx hb d_Pla_splitByLeads_94 rfl (lv_at hl 0 rfl) ?_
  refine rgetL X hB hN 0 i_Pla rfl cl_Pla 7 (by decide) k_151 rfl rfl d_Pla_splitByLeads_95 ?_
  refine rcopyi X hB hN 2 (wl' := [(g, .inr (2, [.int (nI k), .ref pf, .ref pl, .ref pz, .ref pk, .ref pn, .ref pm, .int (nI z)])), (pl, .inl (t 0, 800, .inl (iA L))), (pk, .inl (t 0, 200, .inl (va_cpy (iA Fi1) (iA K) 0 0 z))), (pn, .inl (t 0, 200, .inl (iA Fi1))), (pm, .inl (t 0, 40, .inl (iA M1)))]) hl.1 (wf_lg (w := w) (l := [(g, .inr (2, [.int (nI k), .ref pf, .ref pl, .ref pz, .ref pk, .ref pn, .ref pm, .int (nI z)])), (pl, .inl (t 0, 800, .inl (iA L))), (pk, .inl (t 0, 200, .inl (iA K))), (pn, .inl (t 0, 200, .inl (iA Fi1))), (pm, .inl (t 0, 40, .inl (iA M1)))]) hN 3 rfl) rfl (sp := 0) (dp := 0) (n := z) (by omega) (by omega) (by decide) (by decide) k_508 k_349 k_348 k_76 (Nat.le_of_ble_eq_true rfl) (by decide +kernel) d_Pla_splitByLeads_98 rfl (fun H locs hB => ?_)
  rw [iA_cpy] at hB
  refine lv_iload_n hx hb d_Pla_splitByLeads_101 rfl (lv_at hl 1 rfl) ?_
  refine ret_i X hB d_Pla_splitByLeads_102 ?_
  subst he; exact Or.inl ⟨_, _, _, _, by omega, spI_fo hsp, rfl, rfl⟩
