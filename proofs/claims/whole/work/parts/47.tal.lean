/-! HOW MANY TEXTS -/
def smF (F : Nat → Nat) : Nat → Nat
  | 0 => 0
  | a + 1 => smF F a + F a
def wyc (k n E : Nat) (st : Nat → Nat → Nat) : Nat → Nat → Nat
  | 0, u => if inE n E u = true then 1 else 0
  | ln + 1, u => min (smF (fun a => wyc k n E st ln (stp k n st u a)) k) 1000000000000000000
theorem wyc_le {k n E : Nat} {st : Nat → Nat → Nat} : ∀ ln u, wyc k n E st ln u ≤ 1000000000000000000
  | 0, u => by rw [wyc]; split <;> omega
  | ln + 1, u => by rw [wyc]; omega
def pS (k n E : Nat) (st : Nat → Nat → Nat) (ln u : Nat) : Nat → Nat
  | 0 => if ln = 0 ∧ inE n E u = true then 1 else 0
  | a + 1 => pS k n E st ln u a + (if ln = 0 then 0 else wyc k n E st (ln - 1) (stp k n st u a))
theorem pS_leC {k n E : Nat} {st : Nat → Nat → Nat} {ln u C : Nat} (hC : ∀ l v, wyc k n E st l v ≤ C) : ∀ a, pS k n E st ln u a ≤ 1 + a * C
  | 0 => by rw [pS]; split <;> omega
  | a + 1 => by
    have ih := pS_leC (ln := ln) (u := u) hC a
    have h := hC (ln - 1) (stp k n st u a)
    rw [pS, Nat.succ_mul]
    split <;> omega
theorem pS_le {k n E : Nat} {st : Nat → Nat → Nat} {ln u : Nat} (a : Nat) : pS k n E st ln u a ≤ 1 + a * 1000000000000000000 := pS_leC wyc_le a
theorem pS_0 {k n E : Nat} {st : Nat → Nat → Nat} {u : Nat} : ∀ a, pS k n E st 0 u a = if inE n E u = true then 1 else 0
  | 0 => by simp [pS]
  | a + 1 => by rw [pS, if_pos rfl, Nat.add_zero, pS_0 a]
theorem pS_s {k n E : Nat} {st : Nat → Nat → Nat} {ln u : Nat} : ∀ a, pS k n E st (ln + 1) u a = smF (fun b => wyc k n E st ln (stp k n st u b)) a
  | 0 => by simp [pS, smF]
  | a + 1 => by rw [pS, smF, pS_s a, if_neg (by omega)]; rfl
theorem wyc_pS {k n E : Nat} {st : Nat → Nat → Nat} {u : Nat} : ∀ ln, min (pS k n E st ln u k) 1000000000000000000 = wyc k n E st ln u
  | 0 => by rw [pS_0, wyc]; split <;> omega
  | ln + 1 => by rw [pS_s, wyc]
theorem mn_long {a b : Nat} (ha : a < 2 ^ 63) (hb : b < 2 ^ 63) : (if lN b < lN a then lN b else lN a) = lN (min a b) := by
  by_cases h : b < a
  · rw [if_pos ((pk_lLT hb ha).mpr h), Nat.min_eq_right (by omega)]
  · rw [if_neg (fun q => h ((pk_lLT hb ha).mp q)), Nat.min_eq_left (by omega)]
/-- the letter at which the count runs out -/
def ltF (F : Nat → Nat) : Nat → Nat → Nat → Nat × Nat
  | 0, a, r => (a, r)
  | fu + 1, a, r => if F a ≤ r then ltF F fu (a + 1) (r - F a) else (a, r)
theorem ltF_le {F : Nat → Nat} : ∀ fu a r, (ltF F fu a r).1 ≤ a + fu ∧ (ltF F fu a r).2 ≤ r
  | 0, a, r => by simp [ltF]
  | fu + 1, a, r => by
    rw [ltF]
    split
    · have := ltF_le (F := F) fu (a + 1) (r - F a)
      omega
    · simp
def spF (k n E : Nat) (st : Nat → Nat → Nat) (ln j u : Nat) : Nat → Nat := fun b => wyc k n E st (ln - 1 - j) (stp k n st u b)
def spP (k n E : Nat) (st : Nat → Nat → Nat) (ln r : Nat) : Nat → Nat × Nat
  | 0 => (0, r)
  | j + 1 => (stp k n st (spP k n E st ln r j).1 (ltF (spF k n E st ln j (spP k n E st ln r j).1) (k - 1) 0 (spP k n E st ln r j).2).1, (ltF (spF k n E st ln j (spP k n E st ln r j).1) (k - 1) 0 (spP k n E st ln r j).2).2)
def spL (k n E : Nat) (st : Nat → Nat → Nat) (ln r j : Nat) : Nat := (ltF (spF k n E st ln j (spP k n E st ln r j).1) (k - 1) 0 (spP k n E st ln r j).2).1
theorem spL_lt {k n E : Nat} {st : Nat → Nat → Nat} {ln r j : Nat} (hk : 0 < k) : spL k n E st ln r j < k := by
  have := (ltF_le (F := spF k n E st ln j (spP k n E st ln r j).1) (k - 1) 0 (spP k n E st ln r j).2).1
  unfold spL
  omega
set_option maxHeartbeats 4000000 in
set_option maxRecDepth 100000 in
theorem c_Tal_isEntry {l : Launch} {D : va_G} {t : Nat → ClassId} {w : wf_W} {sz : Nat} {u v : Nat} (hu : u < 2 ^ 31) (hv : v < 2 ^ 31) : Mi l y_Tal_isEntry b_Tal_isEntry 2 (some .boolean) 0 0 0 0 D t w sz [.int (nI u), .int (nI v)] (fun r w' => r = (bI (decide (u < 40) && decide (v ≤ 100))) ∧ w' = w) := by
  refine start_i (by decide) (Nat.le_of_ble_eq_true rfl) ?_
  intro p e s m below meth c ls H locs X hB hl
  have hx := X.1
  have hb := X.2.1
  have hl : lv_has ls 2 [(0, .int (nI u)), (1, .int (nI v))] := hl
  refine lv_iload_n hx hb d_Tal_isEntry_0 rfl (lv_at hl 0 rfl) ?_
  refine wf_zlt (tgt := 24) hx hb d_Tal_isEntry_1 (by decide) (nI_toInt (by omega)) (fun c_1 => ?_) (fun c_1 => ?_)
  · refine lv_iconst (v := nI 0) hx hb d_Tal_isEntry_24 (by decide) ?_
    refine wf_ti (y := bI false) rfl ?_
    refine ret_z X hB d_Tal_isEntry_25 ?_
    refine ⟨congrArg bI (Bool.eq_iff_iff.mpr ?_), rfl⟩; simp only [Bool.and_eq_true, Bool.or_eq_true, Bool.not_eq_true', decide_eq_true_eq, decide_eq_false_iff_not, Bool.false_eq_true, true_iff, false_iff]; omega
  · refine lv_iload_n hx hb d_Tal_isEntry_4 rfl (lv_at hl 0 rfl) ?_
    refine lv_bipush (v := nI 40) hx hb d_Tal_isEntry_5 (by decide) ?_
    refine wf_cge (tgt := 24) hx hb d_Tal_isEntry_7 (by decide) (nI_toInt (by omega)) (nI_toInt (by omega)) (fun c_7 => ?_) (fun c_7 => ?_)
    · refine lv_iconst (v := nI 0) hx hb d_Tal_isEntry_24 (by decide) ?_
      refine wf_ti (y := bI false) rfl ?_
      refine ret_z X hB d_Tal_isEntry_25 ?_
      refine ⟨congrArg bI (Bool.eq_iff_iff.mpr ?_), rfl⟩; simp only [Bool.and_eq_true, Bool.or_eq_true, Bool.not_eq_true', decide_eq_true_eq, decide_eq_false_iff_not, Bool.false_eq_true, true_iff, false_iff]; omega
    · refine lv_iload_n hx hb d_Tal_isEntry_10 rfl (lv_at hl 1 rfl) ?_
      refine wf_zlt (tgt := 24) hx hb d_Tal_isEntry_11 (by decide) (nI_toInt (by omega)) (fun c_11 => ?_) (fun c_11 => ?_)
      · refine lv_iconst (v := nI 0) hx hb d_Tal_isEntry_24 (by decide) ?_
        refine wf_ti (y := bI false) rfl ?_
        refine ret_z X hB d_Tal_isEntry_25 ?_
        refine ⟨congrArg bI (Bool.eq_iff_iff.mpr ?_), rfl⟩; simp only [Bool.and_eq_true, Bool.or_eq_true, Bool.not_eq_true', decide_eq_true_eq, decide_eq_false_iff_not, Bool.false_eq_true, true_iff, false_iff]; omega
      · refine lv_iload_n hx hb d_Tal_isEntry_14 rfl (lv_at hl 1 rfl) ?_
        refine lv_bipush (v := nI 100) hx hb d_Tal_isEntry_15 (by decide) ?_
        refine wf_cgt (tgt := 24) hx hb d_Tal_isEntry_17 (by decide) (nI_toInt (by omega)) (nI_toInt (by omega)) (fun c_17 => ?_) (fun c_17 => ?_)
        · refine lv_iconst (v := nI 0) hx hb d_Tal_isEntry_24 (by decide) ?_
          refine wf_ti (y := bI false) rfl ?_
          refine ret_z X hB d_Tal_isEntry_25 ?_
          refine ⟨congrArg bI (Bool.eq_iff_iff.mpr ?_), rfl⟩; simp only [Bool.and_eq_true, Bool.or_eq_true, Bool.not_eq_true', decide_eq_true_eq, decide_eq_false_iff_not, Bool.false_eq_true, true_iff, false_iff]; omega
        · refine lv_iconst (v := nI 1) hx hb d_Tal_isEntry_20 (by decide) ?_
          refine lv_goto (tgt := 25) hx hb d_Tal_isEntry_21 (by decide) ?_
          refine wf_ti (y := bI true) rfl ?_
          refine ret_z X hB d_Tal_isEntry_25 ?_
          refine ⟨congrArg bI (Bool.eq_iff_iff.mpr ?_), rfl⟩; simp only [Bool.and_eq_true, Bool.or_eq_true, Bool.not_eq_true', decide_eq_true_eq, decide_eq_false_iff_not, Bool.false_eq_true, true_iff, false_iff]; omega
set_option maxHeartbeats 4000000 in
set_option maxRecDepth 100000 in
theorem c_Tal_isEntryQ {l : Launch} {D : va_G} {t : Nat → ClassId} {w : wf_W} {sz : Nat} {u : Nat} {q : Int32} (hu : u < 2 ^ 31) : Mi l y_Tal_isEntry b_Tal_isEntry 2 (some .boolean) 0 0 0 0 D t w sz [.int (nI u), .int q] (fun r w' => r = (bI (decide (u < 40) && decide (0 ≤ q.toInt ∧ q.toInt ≤ 100))) ∧ w' = w) := by
  refine start_i (by decide) (Nat.le_of_ble_eq_true rfl) ?_
  intro p e s m below meth c ls H locs X hB hl
  have hx := X.1
  have hb := X.2.1
  have hl : lv_has ls 2 [(0, .int (nI u)), (1, .int q)] := hl
  refine lv_iload_n hx hb d_Tal_isEntry_0 rfl (lv_at hl 0 rfl) ?_
  refine wf_zlt (tgt := 24) hx hb d_Tal_isEntry_1 (by decide) (nI_toInt (by omega)) (fun c_1 => ?_) (fun c_1 => ?_)
  · refine lv_iconst (v := nI 0) hx hb d_Tal_isEntry_24 (by decide) ?_
    refine wf_ti (y := bI false) rfl ?_
    refine ret_z X hB d_Tal_isEntry_25 ?_
    refine ⟨congrArg bI (Bool.eq_iff_iff.mpr ?_), rfl⟩; simp only [Bool.and_eq_true, Bool.or_eq_true, Bool.not_eq_true', decide_eq_true_eq, decide_eq_false_iff_not, Bool.false_eq_true, true_iff, false_iff]; omega
  · refine lv_iload_n hx hb d_Tal_isEntry_4 rfl (lv_at hl 0 rfl) ?_
    refine lv_bipush (v := nI 40) hx hb d_Tal_isEntry_5 (by decide) ?_
    refine wf_cge (tgt := 24) hx hb d_Tal_isEntry_7 (by decide) (nI_toInt (by omega)) (nI_toInt (by omega)) (fun c_7 => ?_) (fun c_7 => ?_)
    · refine lv_iconst (v := nI 0) hx hb d_Tal_isEntry_24 (by decide) ?_
      refine wf_ti (y := bI false) rfl ?_
      refine ret_z X hB d_Tal_isEntry_25 ?_
      refine ⟨congrArg bI (Bool.eq_iff_iff.mpr ?_), rfl⟩; simp only [Bool.and_eq_true, Bool.or_eq_true, Bool.not_eq_true', decide_eq_true_eq, decide_eq_false_iff_not, Bool.false_eq_true, true_iff, false_iff]; omega
    · refine lv_iload_n hx hb d_Tal_isEntry_10 rfl (lv_at hl 1 rfl) ?_
      refine wf_zlt (tgt := 24) hx hb d_Tal_isEntry_11 (by decide) rfl (fun c_11 => ?_) (fun c_11 => ?_)
      · refine lv_iconst (v := nI 0) hx hb d_Tal_isEntry_24 (by decide) ?_
        refine wf_ti (y := bI false) rfl ?_
        refine ret_z X hB d_Tal_isEntry_25 ?_
        refine ⟨congrArg bI (Bool.eq_iff_iff.mpr ?_), rfl⟩; simp only [Bool.and_eq_true, Bool.or_eq_true, Bool.not_eq_true', decide_eq_true_eq, decide_eq_false_iff_not, Bool.false_eq_true, true_iff, false_iff]; omega
      · refine lv_iload_n hx hb d_Tal_isEntry_14 rfl (lv_at hl 1 rfl) ?_
        refine lv_bipush (v := nI 100) hx hb d_Tal_isEntry_15 (by decide) ?_
        refine wf_cgt (tgt := 24) hx hb d_Tal_isEntry_17 (by decide) rfl (nI_toInt (by omega)) (fun c_17 => ?_) (fun c_17 => ?_)
        · refine lv_iconst (v := nI 0) hx hb d_Tal_isEntry_24 (by decide) ?_
          refine wf_ti (y := bI false) rfl ?_
          refine ret_z X hB d_Tal_isEntry_25 ?_
          refine ⟨congrArg bI (Bool.eq_iff_iff.mpr ?_), rfl⟩; simp only [Bool.and_eq_true, Bool.or_eq_true, Bool.not_eq_true', decide_eq_true_eq, decide_eq_false_iff_not, Bool.false_eq_true, true_iff, false_iff]; omega
        · refine lv_iconst (v := nI 1) hx hb d_Tal_isEntry_20 (by decide) ?_
          refine lv_goto (tgt := 25) hx hb d_Tal_isEntry_21 (by decide) ?_
          refine wf_ti (y := bI true) rfl ?_
          refine ret_z X hB d_Tal_isEntry_25 ?_
          refine ⟨congrArg bI (Bool.eq_iff_iff.mpr ?_), rfl⟩; simp only [Bool.and_eq_true, Bool.or_eq_true, Bool.not_eq_true', decide_eq_true_eq, decide_eq_false_iff_not, Bool.false_eq_true, true_iff, false_iff]; omega
set_option maxHeartbeats 4000000 in
set_option maxRecDepth 100000 in
theorem c_Tal_waysFrom {l : Launch} {D : va_G} {t : Nat → ClassId} {w : wf_W} {sz : Nat} {ta tw k : Nat} {Wy : Nat → Nat} {u v : Nat} (hTa : w ta = some (.inr (9, [.int (nI k), .ref tw]))) (hTw : w tw = some (.inl (t 1, 4040, .inr (.inl (lA Wy))))) (hu : u < 40) (hv : v ≤ 100) : Ml l y_Tal_waysFrom b_Tal_waysFrom 3 (some .long) 1 21 0 0 D t w sz [.ref ta, .int (nI u), .int (nI v)] (fun r w' => r = (lN (Wy (v * 40 + u))) ∧ w' = w) := by
  refine start_l (by decide) (Nat.le_of_ble_eq_true rfl) ?_
  intro p e s m below meth c ls H locs X hB hl
  have hx := X.1
  have hb := X.2.1
  have hl : lv_has ls 3 [(0, .ref ta), (1, .int (nI u)), (2, .int (nI v))] := hl
  refine lv_iload_n hx hb d_Tal_waysFrom_0 rfl (lv_at hl 1 rfl) ?_
  refine lv_iload_n hx hb d_Tal_waysFrom_1 rfl (lv_at hl 2 rfl) ?_
  refine callSi (As := [.int (nI u), .int (nI v)]) (rest := []) X hB wf_hA (c_Tal_isEntry (l := l) (D := D) (t := t) (w := w) (sz := H.size) (u := u) (v := v) (by omega) (by omega)) k_823 k_824 k_74 k_825 hd_Tal_isEntry ⟨Nat.le_of_ble_eq_true rfl, Nat.le_of_ble_eq_true rfl⟩ ⟨Nat.le_of_ble_eq_true rfl, Nat.le_of_ble_eq_true rfl⟩ hl.1 (Nat.le_of_ble_eq_true rfl) d_Tal_waysFrom_2 rfl (fun r_2 w1 H locs hp hB => ?_)
  obtain ⟨rfl, hw_2⟩ := hp
  have hB : wf_B D wcl (wf_A w s.heap.size) s.heap w H locs := wf_Bto hw_2 hB
  refine wf_beq (tgt := 22) hx hb d_Tal_waysFrom_5 (by decide) (fun c_5 => ?_) (fun c_5 => ?_)
  · exact absurd c_5 (by simp [hu, hv])
  · refine lv_aload_n hx hb d_Tal_waysFrom_8 rfl (lv_at hl 0 rfl) ?_
    refine rget X hB  i_Tal hTa cl_Tal 1 (by decide) k_262 rfl rfl d_Tal_waysFrom_9 ?_
    refine lv_iload_n hx hb d_Tal_waysFrom_12 rfl (lv_at hl 2 rfl) ?_
    refine lv_bipush (v := nI 40) hx hb d_Tal_waysFrom_13 (by decide) ?_
    refine wf_imul (x := v) (y := 40) hx hb d_Tal_waysFrom_15 ?_
    refine lv_iload_n hx hb d_Tal_waysFrom_16 rfl (lv_at hl 1 rfl) ?_
    refine wf_iadd (x := v * 40) (y := u) hx hb d_Tal_waysFrom_17 ?_
    refine rlald X hB  hTw (i := (v * 40) + u) (by omega) (by decide) d_Tal_waysFrom_18 ?_
    refine wf_tl (y := lN (Wy ((v * 40) + u))) rfl ?_
    refine wf_tl (y := lN (Wy (v * 40 + u))) (by rfl) ?_
    refine lv_goto (tgt := 23) hx hb d_Tal_waysFrom_19 (by decide) ?_
    refine ret_l X hB d_Tal_waysFrom_23 ?_
    exact ⟨rfl, rfl⟩
set_option maxHeartbeats 4000000 in
set_option maxRecDepth 100000 in
theorem c_Tal_waysFromP {l : Launch} {D : va_G} {t : Nat → ClassId} {w : wf_W} {sz : Nat} {ta tw k : Nat} {Wy : Nat → Nat} {u v : Nat} (hTa : w ta = some (.inr (9, [.int (nI k), .ref tw]))) (hTw : w tw = some (.inl (t 1, 4040, .inr (.inl (lA Wy))))) (hu : u < 40) (hv : v ≤ 100) : Ml l y_Tal_waysFrom b_Tal_waysFrom 3 (some .long) 1 21 0 0 D t w sz [.ref ta, .int (nI u), .int ((nI v) - (nI 1))] (fun r w' => r = (lN (if v = 0 then 0 else Wy ((v - 1) * 40 + u))) ∧ w' = w) := by
  refine start_l (by decide) (Nat.le_of_ble_eq_true rfl) ?_
  intro p e s m below meth c ls H locs X hB hl
  have hx := X.1
  have hb := X.2.1
  have hl : lv_has ls 3 [(0, .ref ta), (1, .int (nI u)), (2, .int ((nI v) - (nI 1)))] := hl
  have e9 := pk_sub_toInt (a := v) (b := 1) (by omega) (by decide)
  refine lv_iload_n hx hb d_Tal_waysFrom_0 rfl (lv_at hl 1 rfl) ?_
  refine lv_iload_n hx hb d_Tal_waysFrom_1 rfl (lv_at hl 2 rfl) ?_
  refine callSi (As := [.int (nI u), .int ((nI v) - (nI 1))]) (rest := []) X hB wf_hA (c_Tal_isEntryQ (l := l) (D := D) (t := t) (w := w) (sz := H.size) (u := u) (q := (nI v) - (nI 1)) (by omega)) k_823 k_824 k_74 k_825 hd_Tal_isEntry ⟨Nat.le_of_ble_eq_true rfl, Nat.le_of_ble_eq_true rfl⟩ ⟨Nat.le_of_ble_eq_true rfl, Nat.le_of_ble_eq_true rfl⟩ hl.1 (Nat.le_of_ble_eq_true rfl) d_Tal_waysFrom_2 rfl (fun r_2 w1 H locs hp hB => ?_)
  obtain ⟨rfl, hw_2⟩ := hp
  have hB : wf_B D wcl (wf_A w s.heap.size) s.heap w H locs := wf_Bto hw_2 hB
  refine wf_beq (tgt := 22) hx hb d_Tal_waysFrom_5 (by decide) (fun c_5 => ?_) (fun c_5 => ?_)
  · simp only [Bool.and_eq_false_iff, decide_eq_false_iff_not] at c_5
    refine lv_lconst (v := lN 0) hx hb d_Tal_waysFrom_22 (by decide) ?_
    refine ret_l X hB d_Tal_waysFrom_23 ?_
    exact ⟨congrArg lN (Eq.symm (by rw [if_pos (show v = 0 by omega)])), rfl⟩
  · simp only [Bool.and_eq_true, decide_eq_true_eq] at c_5
    refine lv_aload_n hx hb d_Tal_waysFrom_8 rfl (lv_at hl 0 rfl) ?_
    refine rget X hB  i_Tal hTa cl_Tal 1 (by decide) k_262 rfl rfl d_Tal_waysFrom_9 ?_
    refine lv_iload_n hx hb d_Tal_waysFrom_12 rfl (lv_at hl 2 rfl) ?_
    refine wf_ti (y := nI (v - 1)) (by exact pk_sub (by omega)) ?_
    refine lv_bipush (v := nI 40) hx hb d_Tal_waysFrom_13 (by decide) ?_
    refine wf_imul (x := v - 1) (y := 40) hx hb d_Tal_waysFrom_15 ?_
    refine lv_iload_n hx hb d_Tal_waysFrom_16 rfl (lv_at hl 1 rfl) ?_
    refine wf_iadd (x := (v - 1) * 40) (y := u) hx hb d_Tal_waysFrom_17 ?_
    refine rlald X hB  hTw (i := ((v - 1) * 40) + u) (by omega) (by decide) d_Tal_waysFrom_18 ?_
    refine wf_tl (y := lN (Wy (((v - 1) * 40) + u))) rfl ?_
    refine lv_goto (tgt := 23) hx hb d_Tal_waysFrom_19 (by decide) ?_
    refine ret_l X hB d_Tal_waysFrom_23 ?_
    exact ⟨congrArg lN (Eq.symm (by rw [if_neg (show ¬ v = 0 by omega)])), rfl⟩
set_option maxHeartbeats 4000000 in
set_option maxRecDepth 100000 in
theorem c_Tal_setWays {l : Launch} {D : va_G} {t : Nat → ClassId} {w : wf_W} {sz : Nat} {ta tw k : Nat} {Wy : Nat → Nat} {u v y : Nat} (hN : nd [ta, tw]) (hTa : w ta = some (.inr (9, [.int (nI k), .ref tw]))) (hTw : w tw = some (.inl (t 1, 4040, .inr (.inl (lA Wy))))) (hu : u < 40) (hv : v ≤ 100) : Mv l y_Tal_setWays b_Tal_setWays 5 none 1 21 0 0 D t w sz [.ref ta, .int (nI u), .int (nI v), .long (lN y)] (fun w' => w' = wf_l w [(ta, .inr (9, [.int (nI k), .ref tw])), (tw, .inl (t 1, 4040, .inr (.inl (lA (nu Wy (v * 40 + u) y)))))]) := by
  refine start_v (by decide) (Nat.le_of_ble_eq_true rfl) ?_
  intro p e s m below meth c ls H locs X hB hl
  have hx := X.1
  have hb := X.2.1
  have hl : lv_has ls 5 [(0, .ref ta), (1, .int (nI u)), (2, .int (nI v)), (3, .long (lN y))] := hl
  have hB : wf_B D wcl (wf_A w s.heap.size) s.heap (wf_l w [(ta, .inr (9, [.int (nI k), .ref tw])), (tw, .inl (t 1, 4040, .inr (.inl (lA Wy))))]) H locs := wf_Bto (wf_l2 hTa hTw).symm hB
  refine lv_iload_n hx hb d_Tal_setWays_0 rfl (lv_at hl 1 rfl) ?_
  refine lv_iload_n hx hb d_Tal_setWays_1 rfl (lv_at hl 2 rfl) ?_
  refine callSi (As := [.int (nI u), .int (nI v)]) (rest := []) X hB wf_hA (c_Tal_isEntry (l := l) (D := D) (t := t) (w := (wf_l w [(ta, .inr (9, [.int (nI k), .ref tw])), (tw, .inl (t 1, 4040, .inr (.inl (lA Wy))))])) (sz := H.size) (u := u) (v := v) (by omega) (by omega)) k_823 k_824 k_74 k_825 hd_Tal_isEntry ⟨Nat.le_of_ble_eq_true rfl, Nat.le_of_ble_eq_true rfl⟩ ⟨Nat.le_of_ble_eq_true rfl, Nat.le_of_ble_eq_true rfl⟩ hl.1 (Nat.le_of_ble_eq_true rfl) d_Tal_setWays_2 rfl (fun r_2 w1 H locs hp hB => ?_)
  obtain ⟨rfl, hw_2⟩ := hp
  have hB : wf_B D wcl (wf_A w s.heap.size) s.heap (wf_l w [(ta, .inr (9, [.int (nI k), .ref tw])), (tw, .inl (t 1, 4040, .inr (.inl (lA Wy))))]) H locs := wf_Bto hw_2 hB
  refine wf_beq (tgt := 20) hx hb d_Tal_setWays_5 (by decide) (fun c_5 => ?_) (fun c_5 => ?_)
  · exact absurd c_5 (by simp [hu, hv])
  · refine lv_aload_n hx hb d_Tal_setWays_8 rfl (lv_at hl 0 rfl) ?_
    refine rgetL X hB hN 0 i_Tal rfl cl_Tal 1 (by decide) k_262 rfl rfl d_Tal_setWays_9 ?_
    refine lv_iload_n hx hb d_Tal_setWays_12 rfl (lv_at hl 2 rfl) ?_
    refine lv_bipush (v := nI 40) hx hb d_Tal_setWays_13 (by decide) ?_
    refine wf_imul (x := v) (y := 40) hx hb d_Tal_setWays_15 ?_
    refine lv_iload_n hx hb d_Tal_setWays_16 rfl (lv_at hl 1 rfl) ?_
    refine wf_iadd (x := v * 40) (y := u) hx hb d_Tal_setWays_17 ?_
    refine lv_lload_n hx hb d_Tal_setWays_18 rfl (lv_at hl 3 rfl) ?_
    refine rlastA X hB hN 1 (wl' := [(ta, .inr (9, [.int (nI k), .ref tw])), (tw, .inl (t 1, 4040, .inr (.inl (lA (nu Wy ((v * 40) + u) y)))))]) rfl (i := (v * 40) + u) (by omega) (by decide) d_Tal_setWays_19 rfl (fun H locs hB => ?_)
    refine ret_v X hB d_Tal_setWays_20 ?_
    exact rfl
set_option maxHeartbeats 4000000 in
set_option maxRecDepth 100000 in
theorem c_Tal_countTexts_L32 {l : Launch} {D : va_G} {t : Nat → ClassId} {w : wf_W} {ta tw k : Nat} {Wy : Nat → Nat} {h hs n E ln : Nat} {f : Nat → Int32} {st : Nat → Nat → Nat} {i : Nat} {W9 : Nat → Nat} {p : Program} {e : Env} {s : State} {m : MethodId} {below : List Frame} {meth : Method} {c : Code} {Q : State → Prop} (X : Cx p s m meth c R_Tal "countTexts" b_Tal_countTexts 7 none D t) (hN : nd [ta, tw, h, hs]) (hTa : w ta = some (.inr (9, [.int (nI k), .ref tw]))) (hTw : w tw = some (.inl (t 1, 4040, .inr (.inl (lA Wy))))) (hM : w h = some (.inr (1, [.int (nI k), .ref hs, .int (nI n), .long (lN E)]))) (hF : w hs = some (.inl (t 0, 40, .inl (pkA f)))) (hm : mOK k n E f st) (hln : ln ≤ 100) (hW : ln = 0 ∨ ∀ u, u < n → Wy ((ln - 1) * 40 + u) = wyc k n E st (ln - 1) u) (hi : i < n) (hg : (∀ u, u < i → W9 (ln * 40 + u) = wyc k n E st ln u) ∧ ∀ i, i < ln * 40 → W9 i = Wy i)
    (K_66 : ∀ (j : Nat), (j ≤ k) → (j = k) → ∀ (H : Heap) (locs : List Loc) (ls : Array Slot), lv_has ls 7 [(0, .ref ta), (1, .ref h), (2, .int (nI ln)), (3, .int (nI i)), (4, .long (lN (pS k n E st ln i j))), (6, .int (nI j))] → wf_B D wcl (wf_A w s.heap.size) s.heap (wf_l w [(ta, .inr (9, [.int (nI k), .ref tw])), (tw, .inl (t 1, 4040, .inr (.inl (lA W9)))), (h, .inr (1, [.int (nI k), .ref hs, .int (nI n), .long (lN E)])), (hs, .inl (t 0, 40, .inl (pkA f)))]) H locs → W p l e (rmk 2 45 0 0) s m [.ref ta, .ref h, .int (nI ln)].toArray below meth c H locs 0 0 Q (F0 m 66 ls [])) :
    ∀ (fu : Nat) (j : Nat), (j ≤ k) → k - j < fu → ∀ (H : Heap) (locs : List Loc) (ls : Array Slot), lv_has ls 7 [(0, .ref ta), (1, .ref h), (2, .int (nI ln)), (3, .int (nI i)), (4, .long (lN (pS k n E st ln i j))), (6, .int (nI j))] → wf_B D wcl (wf_A w s.heap.size) s.heap (wf_l w [(ta, .inr (9, [.int (nI k), .ref tw])), (tw, .inl (t 1, 4040, .inr (.inl (lA W9)))), (h, .inr (1, [.int (nI k), .ref hs, .int (nI n), .long (lN E)])), (hs, .inl (t 0, 40, .inl (pkA f)))]) H locs → W p l e (rmk 2 45 0 0) s m [.ref ta, .ref h, .int (nI ln)].toArray below meth c H locs 0 0 Q (F0 m 32 ls []) := by
  have hx := X.1
  have hb := X.2.1
  intro fu
  induction fu with
  | zero => intro j hj hfu; exact absurd hfu (Nat.not_lt_zero _)
  | succ fu ih =>
    intro j hj hfu H locs ls hl hB
    have hk := hm.1
    have hn := hm.2.1
    have hn0 := hm.2.2.1
    have hE := hm.E40
    refine lv_iload hx hb d_Tal_countTexts_32 (lv_at hl 5 rfl) ?_
    refine lv_aload_n hx hb d_Tal_countTexts_34 rfl (lv_at hl 0 rfl) ?_
    refine rgetL X hB hN 0 i_Tal rfl cl_Tal 0 (by decide) k_261 rfl rfl d_Tal_countTexts_35 ?_
    refine wf_cge (tgt := 66) hx hb d_Tal_countTexts_38 (by decide) (nI_toInt (by omega)) (nI_toInt (by omega)) (fun c_38 => ?_) (fun c_38 => ?_)
    · exact K_66 j hj (by omega) H locs ls (lv_sub hl [0, 1, 2, 3, 4, 5] rfl) hB
    · refine lv_lload hx hb d_Tal_countTexts_41 (lv_at hl 4 rfl) ?_
      refine lv_aload_n hx hb d_Tal_countTexts_43 rfl (lv_at hl 0 rfl) ?_
      refine lv_aload_n hx hb d_Tal_countTexts_44 rfl (lv_at hl 1 rfl) ?_
      refine lv_iload_n hx hb d_Tal_countTexts_45 rfl (lv_at hl 3 rfl) ?_
      refine lv_iload hx hb d_Tal_countTexts_46 (lv_at hl 5 rfl) ?_
      refine callVi (As := [.int (nI i), .int (nI j)]) (rest := [.ref ta, .long (lN (pS k n E st ln i j))]) X hB wf_hA (c_Mac_step (l := l) (D := D) (t := t) (w := (wf_l w [(ta, .inr (9, [.int (nI k), .ref tw])), (tw, .inl (t 1, 4040, .inr (.inl (lA W9)))), (h, .inr (1, [.int (nI k), .ref hs, .int (nI n), .long (lN E)])), (hs, .inl (t 0, 40, .inl (pkA f)))])) (sz := H.size) (h := h) (hs := hs) (k := k) (n := n) (E := E) (f := f) (st := st) (u := i) (a := j) (wf_lg (w := w) (l := [(ta, .inr (9, [.int (nI k), .ref tw])), (tw, .inl (t 1, 4040, .inr (.inl (lA W9)))), (h, .inr (1, [.int (nI k), .ref hs, .int (nI n), .long (lN E)])), (hs, .inl (t 0, 40, .inl (pkA f)))]) hN 2 rfl) (wf_lg (w := w) (l := [(ta, .inr (9, [.int (nI k), .ref tw])), (tw, .inl (t 1, 4040, .inr (.inl (lA W9)))), (h, .inr (1, [.int (nI k), .ref hs, .int (nI n), .long (lN E)])), (hs, .inl (t 0, 40, .inl (pkA f)))]) hN 3 rfl) (by exact hm) (by omega) (by omega)) k_818 k_434 k_435 k_67 k_436 (wf_lg (w := w) (l := [(ta, .inr (9, [.int (nI k), .ref tw])), (tw, .inl (t 1, 4040, .inr (.inl (lA W9)))), (h, .inr (1, [.int (nI k), .ref hs, .int (nI n), .long (lN E)])), (hs, .inl (t 0, 40, .inl (pkA f)))]) hN 2 rfl) cl_Mac rfl hd_Mac_step ⟨Nat.le_of_ble_eq_true rfl, Nat.le_of_ble_eq_true rfl⟩ ⟨Nat.le_of_ble_eq_true rfl, Nat.le_of_ble_eq_true rfl⟩ hl.1 (Nat.le_of_ble_eq_true rfl) d_Tal_countTexts_48 rfl (fun r_48 w1 H locs hp hB => ?_)
      obtain ⟨rfl, hw_48⟩ := hp
      have hB : wf_B D wcl (wf_A w s.heap.size) s.heap (wf_l w [(ta, .inr (9, [.int (nI k), .ref tw])), (tw, .inl (t 1, 4040, .inr (.inl (lA W9)))), (h, .inr (1, [.int (nI k), .ref hs, .int (nI n), .long (lN E)])), (hs, .inl (t 0, 40, .inl (pkA f)))]) H locs := wf_Bto hw_48 hB
      refine lv_iload_n hx hb d_Tal_countTexts_51 rfl (lv_at hl 2 rfl) ?_
      refine lv_iconst (v := nI 1) hx hb d_Tal_countTexts_52 (by decide) ?_
      refine lv_isub hx hb d_Tal_countTexts_53 ?_
      refine callVl (As := [.int (nI (stp k n st i j)), .int ((nI ln) - (nI 1))]) (rest := [.long (lN (pS k n E st ln i j))]) X hB wf_hA (c_Tal_waysFromP (l := l) (D := D) (t := t) (w := (wf_l w [(ta, .inr (9, [.int (nI k), .ref tw])), (tw, .inl (t 1, 4040, .inr (.inl (lA W9)))), (h, .inr (1, [.int (nI k), .ref hs, .int (nI n), .long (lN E)])), (hs, .inl (t 0, 40, .inl (pkA f)))])) (sz := H.size) (ta := ta) (tw := tw) (k := k) (Wy := W9) (u := stp k n st i j) (v := ln) (wf_lg (w := w) (l := [(ta, .inr (9, [.int (nI k), .ref tw])), (tw, .inl (t 1, 4040, .inr (.inl (lA W9)))), (h, .inr (1, [.int (nI k), .ref hs, .int (nI n), .long (lN E)])), (hs, .inl (t 0, 40, .inl (pkA f)))]) hN 0 rfl) (wf_lg (w := w) (l := [(ta, .inr (9, [.int (nI k), .ref tw])), (tw, .inl (t 1, 4040, .inr (.inl (lA W9)))), (h, .inr (1, [.int (nI k), .ref hs, .int (nI n), .long (lN E)])), (hs, .inl (t 0, 40, .inl (pkA f)))]) hN 1 rfl) (by have := stp_lt hm i j; omega) (by exact hln)) k_819 k_821 k_31 k_74 k_822 (wf_lg (w := w) (l := [(ta, .inr (9, [.int (nI k), .ref tw])), (tw, .inl (t 1, 4040, .inr (.inl (lA W9)))), (h, .inr (1, [.int (nI k), .ref hs, .int (nI n), .long (lN E)])), (hs, .inl (t 0, 40, .inl (pkA f)))]) hN 0 rfl) cl_Tal rfl hd_Tal_waysFrom ⟨Nat.le_of_ble_eq_true rfl, Nat.le_of_ble_eq_true rfl⟩ ⟨Nat.le_of_ble_eq_true rfl, Nat.le_of_ble_eq_true rfl⟩ hl.1 (Nat.le_of_ble_eq_true rfl) d_Tal_countTexts_54 rfl (fun r_54 w1 H locs hp hB => ?_)
      obtain ⟨rfl, hw_54⟩ := hp
      have hB : wf_B D wcl (wf_A w s.heap.size) s.heap (wf_l w [(ta, .inr (9, [.int (nI k), .ref tw])), (tw, .inl (t 1, 4040, .inr (.inl (lA W9)))), (h, .inr (1, [.int (nI k), .ref hs, .int (nI n), .long (lN E)])), (hs, .inl (t 0, 40, .inl (pkA f)))]) H locs := wf_Bto hw_54 hB
      refine wf_tl (y := lN (if ln = 0 then 0 else wyc k n E st (ln - 1) (stp k n st i j))) (by by_cases e9 : ln = 0; (rw [if_pos e9, if_pos e9]); rw [if_neg e9, if_neg e9, hg.2 _ (by have := stp_lt hm i j; omega), hW.resolve_left e9 _ (stp_lt hm i j)]) ?_
      refine wf_ladd (x := pS k n E st ln i j) (y := if ln = 0 then 0 else wyc k n E st (ln - 1) (stp k n st i j)) hx hb d_Tal_countTexts_57 ?_
      refine wf_tl (y := lN (pS k n E st ln i (j + 1))) (by rw [pS]) ?_
      refine lv_lstore (lv' := [(4, .long (lN (pS k n E st ln i (j + 1)))), (0, .ref ta), (1, .ref h), (2, .int (nI ln)), (3, .int (nI i)), (6, .int (nI j))]) hx hb d_Tal_countTexts_58 hl (by decide) rfl (fun ls hl => ?_)
      refine lv_iinc (v := nI (j + 1)) (lv' := [(6, .int (nI (j + 1))), (4, .long (lN (pS k n E st ln i (j + 1)))), (0, .ref ta), (1, .ref h), (2, .int (nI ln)), (3, .int (nI i))]) hx hb d_Tal_countTexts_60 hl (k := 5) rfl (show nI j + nI 1 = nI (j + 1) from nI_add _ _) (by decide) rfl (fun ls hl => ?_)
      refine lv_goto (tgt := 32) hx hb d_Tal_countTexts_63 (by decide) ?_
      exact ih (j + 1) (by omega) (by omega) H locs ls (lv_sub hl [2, 3, 4, 5, 1, 0] rfl) hB
set_option maxHeartbeats 4000000 in
set_option maxRecDepth 100000 in
theorem c_Tal_countTexts_L2 {l : Launch} {D : va_G} {t : Nat → ClassId} {w : wf_W} {ta tw k : Nat} {Wy : Nat → Nat} {h hs n E ln : Nat} {f : Nat → Int32} {st : Nat → Nat → Nat}  {p : Program} {e : Env} {s : State} {m : MethodId} {below : List Frame} {meth : Method} {c : Code} {Q : State → Prop} (X : Cx p s m meth c R_Tal "countTexts" b_Tal_countTexts 7 none D t) (hN : nd [ta, tw, h, hs]) (hTa : w ta = some (.inr (9, [.int (nI k), .ref tw]))) (hTw : w tw = some (.inl (t 1, 4040, .inr (.inl (lA Wy))))) (hM : w h = some (.inr (1, [.int (nI k), .ref hs, .int (nI n), .long (lN E)]))) (hF : w hs = some (.inl (t 0, 40, .inl (pkA f)))) (hm : mOK k n E f st) (hln : ln ≤ 100) (hW : ln = 0 ∨ ∀ u, u < n → Wy ((ln - 1) * 40 + u) = wyc k n E st (ln - 1) u)
    (K_86 : ∀ (i : Nat) (W1 : Nat → Nat), (i ≤ n) → ((∀ u, u < i → W1 (ln * 40 + u) = wyc k n E st ln u) ∧ ∀ i, i < ln * 40 → W1 i = Wy i) → (i = n) → ∀ (H : Heap) (locs : List Loc) (ls : Array Slot), lv_has ls 7 [(0, .ref ta), (1, .ref h), (2, .int (nI ln)), (3, .int (nI i))] → wf_B D wcl (wf_A w s.heap.size) s.heap (wf_l w [(ta, .inr (9, [.int (nI k), .ref tw])), (tw, .inl (t 1, 4040, .inr (.inl (lA W1)))), (h, .inr (1, [.int (nI k), .ref hs, .int (nI n), .long (lN E)])), (hs, .inl (t 0, 40, .inl (pkA f)))]) H locs → W p l e (rmk 2 45 0 0) s m [.ref ta, .ref h, .int (nI ln)].toArray below meth c H locs 0 0 Q (F0 m 86 ls [])) :
    ∀ (fu : Nat) (i : Nat) (W1 : Nat → Nat), (i ≤ n) → ((∀ u, u < i → W1 (ln * 40 + u) = wyc k n E st ln u) ∧ ∀ i, i < ln * 40 → W1 i = Wy i) → n - i < fu → ∀ (H : Heap) (locs : List Loc) (ls : Array Slot), lv_has ls 7 [(0, .ref ta), (1, .ref h), (2, .int (nI ln)), (3, .int (nI i))] → wf_B D wcl (wf_A w s.heap.size) s.heap (wf_l w [(ta, .inr (9, [.int (nI k), .ref tw])), (tw, .inl (t 1, 4040, .inr (.inl (lA W1)))), (h, .inr (1, [.int (nI k), .ref hs, .int (nI n), .long (lN E)])), (hs, .inl (t 0, 40, .inl (pkA f)))]) H locs → W p l e (rmk 2 45 0 0) s m [.ref ta, .ref h, .int (nI ln)].toArray below meth c H locs 0 0 Q (F0 m 2 ls []) := by
  have hx := X.1
  have hb := X.2.1
  intro fu
  induction fu with
  | zero => intro i W1 hi hg hfu; exact absurd hfu (Nat.not_lt_zero _)
  | succ fu ih =>
    intro i W1 hi hg hfu H locs ls hl hB
    have hk := hm.1
    have hn := hm.2.1
    have hn0 := hm.2.2.1
    have hE := hm.E40
    refine lv_iload_n hx hb d_Tal_countTexts_2 rfl (lv_at hl 3 rfl) ?_
    refine lv_aload_n hx hb d_Tal_countTexts_3 rfl (lv_at hl 1 rfl) ?_
    refine rgetNL X hB hN 2 i_Mac rfl cl_Mac 2 (by decide) k_122 rfl rfl d_Tal_countTexts_4 ?_
    refine wf_cge (tgt := 86) hx hb d_Tal_countTexts_7 (by decide) (nI_toInt (by omega)) (nI_toInt (by omega)) (fun c_7 => ?_) (fun c_7 => ?_)
    · exact K_86 i W1 hi hg (by omega) H locs ls (lv_sub hl [0, 1, 2, 3] rfl) hB
    · have hi : i < n := by omega
      refine lv_iload_n hx hb d_Tal_countTexts_10 rfl (lv_at hl 2 rfl) ?_
      refine wf_zne (tgt := 26) hx hb d_Tal_countTexts_11 (by decide) (nI_toInt (by omega)) (fun c_11 => ?_) (fun c_11 => ?_)
      · refine lv_lconst (v := lN 0) hx hb d_Tal_countTexts_26 (by decide) ?_
        refine lv_lstore (lv' := [(4, .long (lN 0)), (0, .ref ta), (1, .ref h), (2, .int (nI ln)), (3, .int (nI i))]) hx hb d_Tal_countTexts_27 hl (by decide) rfl (fun ls hl => ?_)
        have hl : lv_has ls 7 [(4, .long (lN (pS k n E st ln i 0))), (0, .ref ta), (1, .ref h), (2, .int (nI ln)), (3, .int (nI i))] := by rw [pS]; first | (rw [if_pos ⟨by omega, c_19⟩]; exact hl) | (rw [if_neg (fun q => by omega)]; exact hl) | (rw [if_neg (fun q => Bool.false_ne_true (c_19.symm.trans q.2))]; exact hl)
        refine lv_iconst (v := nI 0) hx hb d_Tal_countTexts_29 (by decide) ?_
        refine lv_istore (lv' := [(6, .int (nI 0)), (4, .long (lN (pS k n E st ln i 0))), (0, .ref ta), (1, .ref h), (2, .int (nI ln)), (3, .int (nI i))]) hx hb d_Tal_countTexts_30 hl (by decide) rfl (fun ls hl => ?_)
        refine c_Tal_countTexts_L32 (l := l) X hN hTa hTw hM hF hm hln hW hi hg (fun j hj he H locs ls hl hB => ?_) (k - 0 + 1) 0 (by omega) (by omega) H locs ls (lv_sub hl [2, 3, 4, 5, 1, 0] rfl) hB
        have hl : lv_has ls 7 [(0, .ref ta), (1, .ref h), (2, .int (nI ln)), (3, .int (nI i)), (4, .long (lN (pS k n E st ln i k))), (6, .int (nI j))] := by rw [he] at hl ⊢; exact hl
        refine lv_aload_n hx hb d_Tal_countTexts_66 rfl (lv_at hl 0 rfl) ?_
        refine lv_iload_n hx hb d_Tal_countTexts_67 rfl (lv_at hl 3 rfl) ?_
        refine lv_iload_n hx hb d_Tal_countTexts_68 rfl (lv_at hl 2 rfl) ?_
        refine lv_lload hx hb d_Tal_countTexts_69 (lv_at hl 4 rfl) ?_
        refine lv_ldc2 (own := R_Tal) hx hb X.2.2.1 (X.2.2.2.2.1.2 _ k_826 _) d_Tal_countTexts_71 ?_
        refine wf_tl (y := lN 1000000000000000000) (by decide) ?_
        refine va_mmin_long hx hb (by rw [X.2.2.2.1]; exact hl.1.symm) X.2.2.1 (X.2.2.2.2.1.2 _ k_827 _) (X.2.2.2.2.1.2 _ k_828 _) (X.2.2.2.2.1.2 _ k_65 _) (X.2.2.2.2.1.2 _ k_829 _) (Nat.le_of_ble_eq_true rfl) (Nat.le_of_ble_eq_true rfl) (Nat.le_of_ble_eq_true rfl) (Nat.le_of_ble_eq_true rfl) d_Tal_countTexts_74 ?_
        refine wf_tl (y := lN (wyc k n E st ln i)) (by rw [mn_long (by have := pS_le (k := k) (n := n) (E := E) (st := st) (ln := ln) (u := i) k; omega) (by decide), wyc_pS]) ?_
        refine callVv (As := [.int (nI i), .int (nI ln), .long (lN (wyc k n E st ln i))]) (rest := []) X hB wf_hA (c_Tal_setWays (l := l) (D := D) (t := t) (w := (wf_l w [(ta, .inr (9, [.int (nI k), .ref tw])), (tw, .inl (t 1, 4040, .inr (.inl (lA W1)))), (h, .inr (1, [.int (nI k), .ref hs, .int (nI n), .long (lN E)])), (hs, .inl (t 0, 40, .inl (pkA f)))])) (sz := H.size) (ta := ta) (tw := tw) (k := k) (Wy := W1) (u := i) (v := ln) (y := wyc k n E st ln i) (nd_sub hN [0, 1] rfl (by decide)) (wf_lg (w := w) (l := [(ta, .inr (9, [.int (nI k), .ref tw])), (tw, .inl (t 1, 4040, .inr (.inl (lA W1)))), (h, .inr (1, [.int (nI k), .ref hs, .int (nI n), .long (lN E)])), (hs, .inl (t 0, 40, .inl (pkA f)))]) hN 0 rfl) (wf_lg (w := w) (l := [(ta, .inr (9, [.int (nI k), .ref tw])), (tw, .inl (t 1, 4040, .inr (.inl (lA W1)))), (h, .inr (1, [.int (nI k), .ref hs, .int (nI n), .long (lN E)])), (hs, .inl (t 0, 40, .inl (pkA f)))]) hN 1 rfl) (by omega) (by exact hln)) k_830 k_832 k_32 k_74 k_833 (wf_lg (w := w) (l := [(ta, .inr (9, [.int (nI k), .ref tw])), (tw, .inl (t 1, 4040, .inr (.inl (lA W1)))), (h, .inr (1, [.int (nI k), .ref hs, .int (nI n), .long (lN E)])), (hs, .inl (t 0, 40, .inl (pkA f)))]) hN 0 rfl) cl_Tal rfl hd_Tal_setWays ⟨Nat.le_of_ble_eq_true rfl, Nat.le_of_ble_eq_true rfl⟩ ⟨Nat.le_of_ble_eq_true rfl, Nat.le_of_ble_eq_true rfl⟩ hl.1 (Nat.le_of_ble_eq_true rfl) d_Tal_countTexts_77 rfl (fun w1 H locs hp hB => ?_)
        have hw_77 := hp
        have hB : wf_B D wcl (wf_A w s.heap.size) s.heap (wf_l w [(ta, .inr (9, [.int (nI k), .ref tw])), (tw, .inl (t 1, 4040, .inr (.inl (lA (nu W1 (ln * 40 + i) (wyc k n E st ln i)))))), (h, .inr (1, [.int (nI k), .ref hs, .int (nI n), .long (lN E)])), (hs, .inl (t 0, 40, .inl (pkA f)))]) H locs := wf_Bto (hw_77.trans (wlw (L1 := [(ta, .inr (9, [.int (nI k), .ref tw])), (tw, .inl (t 1, 4040, .inr (.inl (lA W1)))), (h, .inr (1, [.int (nI k), .ref hs, .int (nI n), .long (lN E)])), (hs, .inl (t 0, 40, .inl (pkA f)))]) hN 0 rfl rfl (wlw (L1 := [(ta, .inr (9, [.int (nI k), .ref tw])), (tw, .inl (t 1, 4040, .inr (.inl (lA (nu W1 (ln * 40 + i) (wyc k n E st ln i)))))), (h, .inr (1, [.int (nI k), .ref hs, .int (nI n), .long (lN E)])), (hs, .inl (t 0, 40, .inl (pkA f)))]) hN 1 rfl rfl rfl))) hB
        refine lv_iinc (v := nI (i + 1)) (lv' := [(3, .int (nI (i + 1))), (0, .ref ta), (1, .ref h), (2, .int (nI ln)), (4, .long (lN (pS k n E st ln i k))), (6, .int (nI j))]) hx hb d_Tal_countTexts_80 hl (k := 3) rfl (show nI i + nI 1 = nI (i + 1) from nI_add _ _) (by decide) rfl (fun ls hl => ?_)
        refine lv_goto (tgt := 2) hx hb d_Tal_countTexts_83 (by decide) ?_
        exact ih (i + 1) (nu W1 (ln * 40 + i) (wyc k n E st ln i)) (by omega) (by refine ⟨fun u hu => ?_, fun x hx => ?_⟩; (by_cases e9 : u = i; (rw [nu_e (by rw [e9]), e9]); rw [nu_n (by omega)]; exact hg.1 u (by omega)); rw [nu_n (by omega)]; exact hg.2 x hx) (by omega) H locs ls (lv_sub hl [1, 2, 3, 0] rfl) hB
      · refine lv_aload_n hx hb d_Tal_countTexts_14 rfl (lv_at hl 1 rfl) ?_
        refine lv_iload_n hx hb d_Tal_countTexts_15 rfl (lv_at hl 3 rfl) ?_
        refine callVi (As := [.int (nI i)]) (rest := []) X hB wf_hA (c_Mac_isEnd (l := l) (D := D) (t := t) (w := (wf_l w [(ta, .inr (9, [.int (nI k), .ref tw])), (tw, .inl (t 1, 4040, .inr (.inl (lA W1)))), (h, .inr (1, [.int (nI k), .ref hs, .int (nI n), .long (lN E)])), (hs, .inl (t 0, 40, .inl (pkA f)))])) (sz := H.size) (h := h) (hs := hs) (k := k) (n := n) (E := E) (u := i) (wf_lg (w := w) (l := [(ta, .inr (9, [.int (nI k), .ref tw])), (tw, .inl (t 1, 4040, .inr (.inl (lA W1)))), (h, .inr (1, [.int (nI k), .ref hs, .int (nI n), .long (lN E)])), (hs, .inl (t 0, 40, .inl (pkA f)))]) hN 2 rfl) (by omega) (by omega) (by omega)) k_817 k_374 k_375 k_67 k_376 (wf_lg (w := w) (l := [(ta, .inr (9, [.int (nI k), .ref tw])), (tw, .inl (t 1, 4040, .inr (.inl (lA W1)))), (h, .inr (1, [.int (nI k), .ref hs, .int (nI n), .long (lN E)])), (hs, .inl (t 0, 40, .inl (pkA f)))]) hN 2 rfl) cl_Mac rfl hd_Mac_isEnd ⟨Nat.le_of_ble_eq_true rfl, Nat.le_of_ble_eq_true rfl⟩ ⟨Nat.le_of_ble_eq_true rfl, Nat.le_of_ble_eq_true rfl⟩ hl.1 (Nat.le_of_ble_eq_true rfl) d_Tal_countTexts_16 rfl (fun r_16 w1 H locs hp hB => ?_)
        obtain ⟨rfl, hw_16⟩ := hp
        have hB : wf_B D wcl (wf_A w s.heap.size) s.heap (wf_l w [(ta, .inr (9, [.int (nI k), .ref tw])), (tw, .inl (t 1, 4040, .inr (.inl (lA W1)))), (h, .inr (1, [.int (nI k), .ref hs, .int (nI n), .long (lN E)])), (hs, .inl (t 0, 40, .inl (pkA f)))]) H locs := wf_Bto hw_16 hB
        refine wf_beq (tgt := 26) hx hb d_Tal_countTexts_19 (by decide) (fun c_19 => ?_) (fun c_19 => ?_)
        · refine lv_lconst (v := lN 0) hx hb d_Tal_countTexts_26 (by decide) ?_
          refine lv_lstore (lv' := [(4, .long (lN 0)), (0, .ref ta), (1, .ref h), (2, .int (nI ln)), (3, .int (nI i))]) hx hb d_Tal_countTexts_27 hl (by decide) rfl (fun ls hl => ?_)
          have hl : lv_has ls 7 [(4, .long (lN (pS k n E st ln i 0))), (0, .ref ta), (1, .ref h), (2, .int (nI ln)), (3, .int (nI i))] := by rw [pS]; first | (rw [if_pos ⟨by omega, c_19⟩]; exact hl) | (rw [if_neg (fun q => by omega)]; exact hl) | (rw [if_neg (fun q => Bool.false_ne_true (c_19.symm.trans q.2))]; exact hl)
          refine lv_iconst (v := nI 0) hx hb d_Tal_countTexts_29 (by decide) ?_
          refine lv_istore (lv' := [(6, .int (nI 0)), (4, .long (lN (pS k n E st ln i 0))), (0, .ref ta), (1, .ref h), (2, .int (nI ln)), (3, .int (nI i))]) hx hb d_Tal_countTexts_30 hl (by decide) rfl (fun ls hl => ?_)
          refine c_Tal_countTexts_L32 (l := l) X hN hTa hTw hM hF hm hln hW hi hg (fun j hj he H locs ls hl hB => ?_) (k - 0 + 1) 0 (by omega) (by omega) H locs ls (lv_sub hl [2, 3, 4, 5, 1, 0] rfl) hB
          have hl : lv_has ls 7 [(0, .ref ta), (1, .ref h), (2, .int (nI ln)), (3, .int (nI i)), (4, .long (lN (pS k n E st ln i k))), (6, .int (nI j))] := by rw [he] at hl ⊢; exact hl
          refine lv_aload_n hx hb d_Tal_countTexts_66 rfl (lv_at hl 0 rfl) ?_
          refine lv_iload_n hx hb d_Tal_countTexts_67 rfl (lv_at hl 3 rfl) ?_
          refine lv_iload_n hx hb d_Tal_countTexts_68 rfl (lv_at hl 2 rfl) ?_
          refine lv_lload hx hb d_Tal_countTexts_69 (lv_at hl 4 rfl) ?_
          refine lv_ldc2 (own := R_Tal) hx hb X.2.2.1 (X.2.2.2.2.1.2 _ k_826 _) d_Tal_countTexts_71 ?_
          refine wf_tl (y := lN 1000000000000000000) (by decide) ?_
          refine va_mmin_long hx hb (by rw [X.2.2.2.1]; exact hl.1.symm) X.2.2.1 (X.2.2.2.2.1.2 _ k_827 _) (X.2.2.2.2.1.2 _ k_828 _) (X.2.2.2.2.1.2 _ k_65 _) (X.2.2.2.2.1.2 _ k_829 _) (Nat.le_of_ble_eq_true rfl) (Nat.le_of_ble_eq_true rfl) (Nat.le_of_ble_eq_true rfl) (Nat.le_of_ble_eq_true rfl) d_Tal_countTexts_74 ?_
          refine wf_tl (y := lN (wyc k n E st ln i)) (by rw [mn_long (by have := pS_le (k := k) (n := n) (E := E) (st := st) (ln := ln) (u := i) k; omega) (by decide), wyc_pS]) ?_
          refine callVv (As := [.int (nI i), .int (nI ln), .long (lN (wyc k n E st ln i))]) (rest := []) X hB wf_hA (c_Tal_setWays (l := l) (D := D) (t := t) (w := (wf_l w [(ta, .inr (9, [.int (nI k), .ref tw])), (tw, .inl (t 1, 4040, .inr (.inl (lA W1)))), (h, .inr (1, [.int (nI k), .ref hs, .int (nI n), .long (lN E)])), (hs, .inl (t 0, 40, .inl (pkA f)))])) (sz := H.size) (ta := ta) (tw := tw) (k := k) (Wy := W1) (u := i) (v := ln) (y := wyc k n E st ln i) (nd_sub hN [0, 1] rfl (by decide)) (wf_lg (w := w) (l := [(ta, .inr (9, [.int (nI k), .ref tw])), (tw, .inl (t 1, 4040, .inr (.inl (lA W1)))), (h, .inr (1, [.int (nI k), .ref hs, .int (nI n), .long (lN E)])), (hs, .inl (t 0, 40, .inl (pkA f)))]) hN 0 rfl) (wf_lg (w := w) (l := [(ta, .inr (9, [.int (nI k), .ref tw])), (tw, .inl (t 1, 4040, .inr (.inl (lA W1)))), (h, .inr (1, [.int (nI k), .ref hs, .int (nI n), .long (lN E)])), (hs, .inl (t 0, 40, .inl (pkA f)))]) hN 1 rfl) (by omega) (by exact hln)) k_830 k_832 k_32 k_74 k_833 (wf_lg (w := w) (l := [(ta, .inr (9, [.int (nI k), .ref tw])), (tw, .inl (t 1, 4040, .inr (.inl (lA W1)))), (h, .inr (1, [.int (nI k), .ref hs, .int (nI n), .long (lN E)])), (hs, .inl (t 0, 40, .inl (pkA f)))]) hN 0 rfl) cl_Tal rfl hd_Tal_setWays ⟨Nat.le_of_ble_eq_true rfl, Nat.le_of_ble_eq_true rfl⟩ ⟨Nat.le_of_ble_eq_true rfl, Nat.le_of_ble_eq_true rfl⟩ hl.1 (Nat.le_of_ble_eq_true rfl) d_Tal_countTexts_77 rfl (fun w1 H locs hp hB => ?_)
          have hw_77 := hp
          have hB : wf_B D wcl (wf_A w s.heap.size) s.heap (wf_l w [(ta, .inr (9, [.int (nI k), .ref tw])), (tw, .inl (t 1, 4040, .inr (.inl (lA (nu W1 (ln * 40 + i) (wyc k n E st ln i)))))), (h, .inr (1, [.int (nI k), .ref hs, .int (nI n), .long (lN E)])), (hs, .inl (t 0, 40, .inl (pkA f)))]) H locs := wf_Bto (hw_77.trans (wlw (L1 := [(ta, .inr (9, [.int (nI k), .ref tw])), (tw, .inl (t 1, 4040, .inr (.inl (lA W1)))), (h, .inr (1, [.int (nI k), .ref hs, .int (nI n), .long (lN E)])), (hs, .inl (t 0, 40, .inl (pkA f)))]) hN 0 rfl rfl (wlw (L1 := [(ta, .inr (9, [.int (nI k), .ref tw])), (tw, .inl (t 1, 4040, .inr (.inl (lA (nu W1 (ln * 40 + i) (wyc k n E st ln i)))))), (h, .inr (1, [.int (nI k), .ref hs, .int (nI n), .long (lN E)])), (hs, .inl (t 0, 40, .inl (pkA f)))]) hN 1 rfl rfl rfl))) hB
          refine lv_iinc (v := nI (i + 1)) (lv' := [(3, .int (nI (i + 1))), (0, .ref ta), (1, .ref h), (2, .int (nI ln)), (4, .long (lN (pS k n E st ln i k))), (6, .int (nI j))]) hx hb d_Tal_countTexts_80 hl (k := 3) rfl (show nI i + nI 1 = nI (i + 1) from nI_add _ _) (by decide) rfl (fun ls hl => ?_)
          refine lv_goto (tgt := 2) hx hb d_Tal_countTexts_83 (by decide) ?_
          exact ih (i + 1) (nu W1 (ln * 40 + i) (wyc k n E st ln i)) (by omega) (by refine ⟨fun u hu => ?_, fun x hx => ?_⟩; (by_cases e9 : u = i; (rw [nu_e (by rw [e9]), e9]); rw [nu_n (by omega)]; exact hg.1 u (by omega)); rw [nu_n (by omega)]; exact hg.2 x hx) (by omega) H locs ls (lv_sub hl [1, 2, 3, 0] rfl) hB
        · refine lv_lconst (v := lN 1) hx hb d_Tal_countTexts_22 (by decide) ?_
          refine lv_goto (tgt := 27) hx hb d_Tal_countTexts_23 (by decide) ?_
          refine lv_lstore (lv' := [(4, .long (lN 1)), (0, .ref ta), (1, .ref h), (2, .int (nI ln)), (3, .int (nI i))]) hx hb d_Tal_countTexts_27 hl (by decide) rfl (fun ls hl => ?_)
          have hl : lv_has ls 7 [(4, .long (lN (pS k n E st ln i 0))), (0, .ref ta), (1, .ref h), (2, .int (nI ln)), (3, .int (nI i))] := by rw [pS]; first | (rw [if_pos ⟨by omega, c_19⟩]; exact hl) | (rw [if_neg (fun q => by omega)]; exact hl) | (rw [if_neg (fun q => Bool.false_ne_true (c_19.symm.trans q.2))]; exact hl)
          refine lv_iconst (v := nI 0) hx hb d_Tal_countTexts_29 (by decide) ?_
          refine lv_istore (lv' := [(6, .int (nI 0)), (4, .long (lN (pS k n E st ln i 0))), (0, .ref ta), (1, .ref h), (2, .int (nI ln)), (3, .int (nI i))]) hx hb d_Tal_countTexts_30 hl (by decide) rfl (fun ls hl => ?_)
          refine c_Tal_countTexts_L32 (l := l) X hN hTa hTw hM hF hm hln hW hi hg (fun j hj he H locs ls hl hB => ?_) (k - 0 + 1) 0 (by omega) (by omega) H locs ls (lv_sub hl [2, 3, 4, 5, 1, 0] rfl) hB
          have hl : lv_has ls 7 [(0, .ref ta), (1, .ref h), (2, .int (nI ln)), (3, .int (nI i)), (4, .long (lN (pS k n E st ln i k))), (6, .int (nI j))] := by rw [he] at hl ⊢; exact hl
          refine lv_aload_n hx hb d_Tal_countTexts_66 rfl (lv_at hl 0 rfl) ?_
          refine lv_iload_n hx hb d_Tal_countTexts_67 rfl (lv_at hl 3 rfl) ?_
          refine lv_iload_n hx hb d_Tal_countTexts_68 rfl (lv_at hl 2 rfl) ?_
          refine lv_lload hx hb d_Tal_countTexts_69 (lv_at hl 4 rfl) ?_
          refine lv_ldc2 (own := R_Tal) hx hb X.2.2.1 (X.2.2.2.2.1.2 _ k_826 _) d_Tal_countTexts_71 ?_
          refine wf_tl (y := lN 1000000000000000000) (by decide) ?_
          refine va_mmin_long hx hb (by rw [X.2.2.2.1]; exact hl.1.symm) X.2.2.1 (X.2.2.2.2.1.2 _ k_827 _) (X.2.2.2.2.1.2 _ k_828 _) (X.2.2.2.2.1.2 _ k_65 _) (X.2.2.2.2.1.2 _ k_829 _) (Nat.le_of_ble_eq_true rfl) (Nat.le_of_ble_eq_true rfl) (Nat.le_of_ble_eq_true rfl) (Nat.le_of_ble_eq_true rfl) d_Tal_countTexts_74 ?_
          refine wf_tl (y := lN (wyc k n E st ln i)) (by rw [mn_long (by have := pS_le (k := k) (n := n) (E := E) (st := st) (ln := ln) (u := i) k; omega) (by decide), wyc_pS]) ?_
          refine callVv (As := [.int (nI i), .int (nI ln), .long (lN (wyc k n E st ln i))]) (rest := []) X hB wf_hA (c_Tal_setWays (l := l) (D := D) (t := t) (w := (wf_l w [(ta, .inr (9, [.int (nI k), .ref tw])), (tw, .inl (t 1, 4040, .inr (.inl (lA W1)))), (h, .inr (1, [.int (nI k), .ref hs, .int (nI n), .long (lN E)])), (hs, .inl (t 0, 40, .inl (pkA f)))])) (sz := H.size) (ta := ta) (tw := tw) (k := k) (Wy := W1) (u := i) (v := ln) (y := wyc k n E st ln i) (nd_sub hN [0, 1] rfl (by decide)) (wf_lg (w := w) (l := [(ta, .inr (9, [.int (nI k), .ref tw])), (tw, .inl (t 1, 4040, .inr (.inl (lA W1)))), (h, .inr (1, [.int (nI k), .ref hs, .int (nI n), .long (lN E)])), (hs, .inl (t 0, 40, .inl (pkA f)))]) hN 0 rfl) (wf_lg (w := w) (l := [(ta, .inr (9, [.int (nI k), .ref tw])), (tw, .inl (t 1, 4040, .inr (.inl (lA W1)))), (h, .inr (1, [.int (nI k), .ref hs, .int (nI n), .long (lN E)])), (hs, .inl (t 0, 40, .inl (pkA f)))]) hN 1 rfl) (by omega) (by exact hln)) k_830 k_832 k_32 k_74 k_833 (wf_lg (w := w) (l := [(ta, .inr (9, [.int (nI k), .ref tw])), (tw, .inl (t 1, 4040, .inr (.inl (lA W1)))), (h, .inr (1, [.int (nI k), .ref hs, .int (nI n), .long (lN E)])), (hs, .inl (t 0, 40, .inl (pkA f)))]) hN 0 rfl) cl_Tal rfl hd_Tal_setWays ⟨Nat.le_of_ble_eq_true rfl, Nat.le_of_ble_eq_true rfl⟩ ⟨Nat.le_of_ble_eq_true rfl, Nat.le_of_ble_eq_true rfl⟩ hl.1 (Nat.le_of_ble_eq_true rfl) d_Tal_countTexts_77 rfl (fun w1 H locs hp hB => ?_)
          have hw_77 := hp
          have hB : wf_B D wcl (wf_A w s.heap.size) s.heap (wf_l w [(ta, .inr (9, [.int (nI k), .ref tw])), (tw, .inl (t 1, 4040, .inr (.inl (lA (nu W1 (ln * 40 + i) (wyc k n E st ln i)))))), (h, .inr (1, [.int (nI k), .ref hs, .int (nI n), .long (lN E)])), (hs, .inl (t 0, 40, .inl (pkA f)))]) H locs := wf_Bto (hw_77.trans (wlw (L1 := [(ta, .inr (9, [.int (nI k), .ref tw])), (tw, .inl (t 1, 4040, .inr (.inl (lA W1)))), (h, .inr (1, [.int (nI k), .ref hs, .int (nI n), .long (lN E)])), (hs, .inl (t 0, 40, .inl (pkA f)))]) hN 0 rfl rfl (wlw (L1 := [(ta, .inr (9, [.int (nI k), .ref tw])), (tw, .inl (t 1, 4040, .inr (.inl (lA (nu W1 (ln * 40 + i) (wyc k n E st ln i)))))), (h, .inr (1, [.int (nI k), .ref hs, .int (nI n), .long (lN E)])), (hs, .inl (t 0, 40, .inl (pkA f)))]) hN 1 rfl rfl rfl))) hB
          refine lv_iinc (v := nI (i + 1)) (lv' := [(3, .int (nI (i + 1))), (0, .ref ta), (1, .ref h), (2, .int (nI ln)), (4, .long (lN (pS k n E st ln i k))), (6, .int (nI j))]) hx hb d_Tal_countTexts_80 hl (k := 3) rfl (show nI i + nI 1 = nI (i + 1) from nI_add _ _) (by decide) rfl (fun ls hl => ?_)
          refine lv_goto (tgt := 2) hx hb d_Tal_countTexts_83 (by decide) ?_
          exact ih (i + 1) (nu W1 (ln * 40 + i) (wyc k n E st ln i)) (by omega) (by refine ⟨fun u hu => ?_, fun x hx => ?_⟩; (by_cases e9 : u = i; (rw [nu_e (by rw [e9]), e9]); rw [nu_n (by omega)]; exact hg.1 u (by omega)); rw [nu_n (by omega)]; exact hg.2 x hx) (by omega) H locs ls (lv_sub hl [1, 2, 3, 0] rfl) hB
set_option maxHeartbeats 4000000 in
set_option maxRecDepth 100000 in
theorem c_Tal_countTexts {l : Launch} {D : va_G} {t : Nat → ClassId} {w : wf_W} {sz : Nat} {ta tw k : Nat} {Wy : Nat → Nat} {h hs n E ln : Nat} {f : Nat → Int32} {st : Nat → Nat → Nat} (hN : nd [ta, tw, h, hs]) (hTa : w ta = some (.inr (9, [.int (nI k), .ref tw]))) (hTw : w tw = some (.inl (t 1, 4040, .inr (.inl (lA Wy))))) (hM : w h = some (.inr (1, [.int (nI k), .ref hs, .int (nI n), .long (lN E)]))) (hF : w hs = some (.inl (t 0, 40, .inl (pkA f)))) (hm : mOK k n E f st) (hln : ln ≤ 100) (hW : ln = 0 ∨ ∀ u, u < n → Wy ((ln - 1) * 40 + u) = wyc k n E st (ln - 1) u) : Mv l y_Tal_countTexts b_Tal_countTexts 7 none 2 45 0 0 D t w sz [.ref ta, .ref h, .int (nI ln)] (fun w' => ∃ W0 : Nat → Nat, ((∀ u, u < n → W0 (ln * 40 + u) = wyc k n E st ln u) ∧ ∀ i, i < ln * 40 → W0 i = Wy i) ∧ w' = wf_l w [(ta, .inr (9, [.int (nI k), .ref tw])), (tw, .inl (t 1, 4040, .inr (.inl (lA W0)))), (h, .inr (1, [.int (nI k), .ref hs, .int (nI n), .long (lN E)])), (hs, .inl (t 0, 40, .inl (pkA f)))]) := by
  refine start_v (by decide) (Nat.le_of_ble_eq_true rfl) ?_
  intro p e s m below meth c ls H locs X hB hl
  have hx := X.1
  have hb := X.2.1
  have hl : lv_has ls 7 [(0, .ref ta), (1, .ref h), (2, .int (nI ln))] := hl
  have hB : wf_B D wcl (wf_A w s.heap.size) s.heap (wf_l w [(ta, .inr (9, [.int (nI k), .ref tw])), (tw, .inl (t 1, 4040, .inr (.inl (lA Wy)))), (h, .inr (1, [.int (nI k), .ref hs, .int (nI n), .long (lN E)])), (hs, .inl (t 0, 40, .inl (pkA f)))]) H locs := wf_Bto (wf_l4 hTa hTw hM hF).symm hB
  have hk := hm.1
  have hn := hm.2.1
  have hn0 := hm.2.2.1
  have hE := hm.E40
  refine lv_iconst (v := nI 0) hx hb d_Tal_countTexts_0 (by decide) ?_
  refine lv_istore_n (lv' := [(3, .int (nI 0)), (0, .ref ta), (1, .ref h), (2, .int (nI ln))]) hx hb d_Tal_countTexts_1 rfl hl (by decide) rfl (fun ls hl => ?_)
  refine c_Tal_countTexts_L2 (l := l) X hN hTa hTw hM hF hm hln hW (fun i W1 hi hg he H locs ls hl hB => ?_) (n - 0 + 1) 0 Wy (by omega) (by exact ⟨fun u hu => by omega, fun i hi => rfl⟩) (by omega) H locs ls (lv_sub hl [1, 2, 3, 0] rfl) hB
  refine ret_v X hB d_Tal_countTexts_86 ?_
  subst he; exact ⟨W1, hg, rfl⟩
set_option maxHeartbeats 4000000 in
set_option maxRecDepth 100000 in
theorem c_Tal_waysOf_L2 {l : Launch} {D : va_G} {t : Nat → ClassId} {w : wf_W} {ta tw k : Nat} {Wy : Nat → Nat} {h hs n E : Nat} {f : Nat → Int32} {st : Nat → Nat → Nat} {q : Nat}  {p : Program} {e : Env} {s : State} {m : MethodId} {below : List Frame} {meth : Method} {c : Code} {Q : State → Prop} (X : Cx p s m meth c R_Tal "waysOf" b_Tal_waysOf 4 (some .long) D t) (hN : nd [ta, tw, h, hs]) (hTa : w ta = some (.inr (9, [.int (nI k), .ref tw]))) (hTw : w tw = some (.inl (t 1, 4040, .inr (.inl (lA Wy))))) (hM : w h = some (.inr (1, [.int (nI k), .ref hs, .int (nI n), .long (lN E)]))) (hF : w hs = some (.inl (t 0, 40, .inl (pkA f)))) (hm : mOK k n E f st) (hq : q ≤ 100)
    (K_25 : ∀ (i : Nat) (W1 : Nat → Nat), (i ≤ q + 1) → (∀ l1, l1 < i → ∀ u, u < n → W1 (l1 * 40 + u) = wyc k n E st l1 u) → (i = q + 1) → ∀ (H : Heap) (locs : List Loc) (ls : Array Slot), lv_has ls 4 [(0, .ref ta), (1, .ref h), (2, .int (nI q)), (3, .int (nI i))] → wf_B D wcl (wf_A w s.heap.size) s.heap (wf_l w [(ta, .inr (9, [.int (nI k), .ref tw])), (tw, .inl (t 1, 4040, .inr (.inl (lA W1)))), (h, .inr (1, [.int (nI k), .ref hs, .int (nI n), .long (lN E)])), (hs, .inl (t 0, 40, .inl (pkA f)))]) H locs → W p l e (rmk 3 71 0 0) s m [.ref ta, .ref h, .int (nI q)].toArray below meth c H locs 0 0 Q (F0 m 25 ls [])) :
    ∀ (fu : Nat) (i : Nat) (W1 : Nat → Nat), (i ≤ q + 1) → (∀ l1, l1 < i → ∀ u, u < n → W1 (l1 * 40 + u) = wyc k n E st l1 u) → q + 1 - i < fu → ∀ (H : Heap) (locs : List Loc) (ls : Array Slot), lv_has ls 4 [(0, .ref ta), (1, .ref h), (2, .int (nI q)), (3, .int (nI i))] → wf_B D wcl (wf_A w s.heap.size) s.heap (wf_l w [(ta, .inr (9, [.int (nI k), .ref tw])), (tw, .inl (t 1, 4040, .inr (.inl (lA W1)))), (h, .inr (1, [.int (nI k), .ref hs, .int (nI n), .long (lN E)])), (hs, .inl (t 0, 40, .inl (pkA f)))]) H locs → W p l e (rmk 3 71 0 0) s m [.ref ta, .ref h, .int (nI q)].toArray below meth c H locs 0 0 Q (F0 m 2 ls []) := by
  have hx := X.1
  have hb := X.2.1
  intro fu
  induction fu with
  | zero => intro i W1 hi hg hfu; exact absurd hfu (Nat.not_lt_zero _)
  | succ fu ih =>
    intro i W1 hi hg hfu H locs ls hl hB
    have hk := hm.1
    have hn := hm.2.1
    have hn0 := hm.2.2.1
    have hE := hm.E40
    refine lv_iload_n hx hb d_Tal_waysOf_2 rfl (lv_at hl 3 rfl) ?_
    refine lv_iload_n hx hb d_Tal_waysOf_3 rfl (lv_at hl 2 rfl) ?_
    refine wf_cgt (tgt := 25) hx hb d_Tal_waysOf_4 (by decide) (nI_toInt (by omega)) (nI_toInt (by omega)) (fun c_4 => ?_) (fun c_4 => ?_)
    · exact K_25 i W1 hi hg (by omega) H locs ls (lv_sub hl [0, 1, 2, 3] rfl) hB
    · refine lv_iload_n hx hb d_Tal_waysOf_7 rfl (lv_at hl 3 rfl) ?_
      refine lv_bipush (v := nI 100) hx hb d_Tal_waysOf_8 (by decide) ?_
      refine wf_cgt (tgt := 25) hx hb d_Tal_waysOf_10 (by decide) (nI_toInt (by omega)) (nI_toInt (by omega)) (fun c_10 => ?_) (fun c_10 => ?_)
      · exact K_25 i W1 hi hg (by omega) H locs ls (lv_sub hl [0, 1, 2, 3] rfl) hB
      · refine lv_aload_n hx hb d_Tal_waysOf_13 rfl (lv_at hl 0 rfl) ?_
        refine lv_aload_n hx hb d_Tal_waysOf_14 rfl (lv_at hl 1 rfl) ?_
        refine lv_iload_n hx hb d_Tal_waysOf_15 rfl (lv_at hl 3 rfl) ?_
        refine callVv (As := [.ref h, .int (nI i)]) (rest := []) X hB wf_hA (c_Tal_countTexts (l := l) (D := D) (t := t) (w := (wf_l w [(ta, .inr (9, [.int (nI k), .ref tw])), (tw, .inl (t 1, 4040, .inr (.inl (lA W1)))), (h, .inr (1, [.int (nI k), .ref hs, .int (nI n), .long (lN E)])), (hs, .inl (t 0, 40, .inl (pkA f)))])) (sz := H.size) (ta := ta) (tw := tw) (k := k) (Wy := W1) (h := h) (hs := hs) (n := n) (E := E) (ln := i) (f := f) (st := st) (nd_sub hN [0, 1, 2, 3] rfl (by decide)) (wf_lg (w := w) (l := [(ta, .inr (9, [.int (nI k), .ref tw])), (tw, .inl (t 1, 4040, .inr (.inl (lA W1)))), (h, .inr (1, [.int (nI k), .ref hs, .int (nI n), .long (lN E)])), (hs, .inl (t 0, 40, .inl (pkA f)))]) hN 0 rfl) (wf_lg (w := w) (l := [(ta, .inr (9, [.int (nI k), .ref tw])), (tw, .inl (t 1, 4040, .inr (.inl (lA W1)))), (h, .inr (1, [.int (nI k), .ref hs, .int (nI n), .long (lN E)])), (hs, .inl (t 0, 40, .inl (pkA f)))]) hN 1 rfl) (wf_lg (w := w) (l := [(ta, .inr (9, [.int (nI k), .ref tw])), (tw, .inl (t 1, 4040, .inr (.inl (lA W1)))), (h, .inr (1, [.int (nI k), .ref hs, .int (nI n), .long (lN E)])), (hs, .inl (t 0, 40, .inl (pkA f)))]) hN 2 rfl) (wf_lg (w := w) (l := [(ta, .inr (9, [.int (nI k), .ref tw])), (tw, .inl (t 1, 4040, .inr (.inl (lA W1)))), (h, .inr (1, [.int (nI k), .ref hs, .int (nI n), .long (lN E)])), (hs, .inl (t 0, 40, .inl (pkA f)))]) hN 3 rfl) (by exact hm) (by omega) (by by_cases e9 : i = 0; exact Or.inl e9; exact Or.inr (fun u hu => hg (i - 1) (by omega) u hu))) k_813 k_815 k_30 k_74 k_816 (wf_lg (w := w) (l := [(ta, .inr (9, [.int (nI k), .ref tw])), (tw, .inl (t 1, 4040, .inr (.inl (lA W1)))), (h, .inr (1, [.int (nI k), .ref hs, .int (nI n), .long (lN E)])), (hs, .inl (t 0, 40, .inl (pkA f)))]) hN 0 rfl) cl_Tal rfl hd_Tal_countTexts ⟨Nat.le_of_ble_eq_true rfl, Nat.le_of_ble_eq_true rfl⟩ ⟨Nat.le_of_ble_eq_true rfl, Nat.le_of_ble_eq_true rfl⟩ hl.1 (Nat.le_of_ble_eq_true rfl) d_Tal_waysOf_16 rfl (fun w1 H locs hp hB => ?_)
        obtain ⟨W0_16, hW0_16, hw_16⟩ := hp
        have hB : wf_B D wcl (wf_A w s.heap.size) s.heap (wf_l w [(ta, .inr (9, [.int (nI k), .ref tw])), (tw, .inl (t 1, 4040, .inr (.inl (lA W0_16)))), (h, .inr (1, [.int (nI k), .ref hs, .int (nI n), .long (lN E)])), (hs, .inl (t 0, 40, .inl (pkA f)))]) H locs := wf_Bto (hw_16.trans (wlw (L1 := [(ta, .inr (9, [.int (nI k), .ref tw])), (tw, .inl (t 1, 4040, .inr (.inl (lA W1)))), (h, .inr (1, [.int (nI k), .ref hs, .int (nI n), .long (lN E)])), (hs, .inl (t 0, 40, .inl (pkA f)))]) hN 0 rfl rfl (wlw (L1 := [(ta, .inr (9, [.int (nI k), .ref tw])), (tw, .inl (t 1, 4040, .inr (.inl (lA W0_16)))), (h, .inr (1, [.int (nI k), .ref hs, .int (nI n), .long (lN E)])), (hs, .inl (t 0, 40, .inl (pkA f)))]) hN 1 rfl rfl (wlw (L1 := [(ta, .inr (9, [.int (nI k), .ref tw])), (tw, .inl (t 1, 4040, .inr (.inl (lA W0_16)))), (h, .inr (1, [.int (nI k), .ref hs, .int (nI n), .long (lN E)])), (hs, .inl (t 0, 40, .inl (pkA f)))]) hN 2 rfl rfl (wlw (L1 := [(ta, .inr (9, [.int (nI k), .ref tw])), (tw, .inl (t 1, 4040, .inr (.inl (lA W0_16)))), (h, .inr (1, [.int (nI k), .ref hs, .int (nI n), .long (lN E)])), (hs, .inl (t 0, 40, .inl (pkA f)))]) hN 3 rfl rfl rfl))))) hB
        refine lv_iinc (v := nI (i + 1)) (lv' := [(3, .int (nI (i + 1))), (0, .ref ta), (1, .ref h), (2, .int (nI q))]) hx hb d_Tal_waysOf_19 hl (k := 3) rfl (show nI i + nI 1 = nI (i + 1) from nI_add _ _) (by decide) rfl (fun ls hl => ?_)
        refine lv_goto (tgt := 2) hx hb d_Tal_waysOf_22 (by decide) ?_
        exact ih (i + 1) W0_16 (by omega) (by intro l1 h1 u hu; by_cases e9 : l1 = i; (rw [e9]; exact hW0_16.1 u hu); rw [hW0_16.2 _ (by have h8 : l1 + 1 ≤ i := (by omega); have h7 := Nat.mul_le_mul_right 40 h8; omega)]; exact hg l1 (by omega) u hu) (by omega) H locs ls (lv_sub hl [1, 2, 3, 0] rfl) hB
set_option maxHeartbeats 4000000 in
set_option maxRecDepth 100000 in
theorem c_Tal_waysOf {l : Launch} {D : va_G} {t : Nat → ClassId} {w : wf_W} {sz : Nat} {ta tw k : Nat} {Wy : Nat → Nat} {h hs n E : Nat} {f : Nat → Int32} {st : Nat → Nat → Nat} {q : Nat} (hN : nd [ta, tw, h, hs]) (hTa : w ta = some (.inr (9, [.int (nI k), .ref tw]))) (hTw : w tw = some (.inl (t 1, 4040, .inr (.inl (lA Wy))))) (hM : w h = some (.inr (1, [.int (nI k), .ref hs, .int (nI n), .long (lN E)]))) (hF : w hs = some (.inl (t 0, 40, .inl (pkA f)))) (hm : mOK k n E f st) (hq : q ≤ 100) : Ml l y_Tal_waysOf b_Tal_waysOf 4 (some .long) 3 71 0 0 D t w sz [.ref ta, .ref h, .int (nI q)] (fun r w' => ∃ W0 : Nat → Nat, r = (lN (wyc k n E st q 0)) ∧ w' = wf_l w [(ta, .inr (9, [.int (nI k), .ref tw])), (tw, .inl (t 1, 4040, .inr (.inl (lA W0)))), (h, .inr (1, [.int (nI k), .ref hs, .int (nI n), .long (lN E)])), (hs, .inl (t 0, 40, .inl (pkA f)))]) := by
  refine start_l (by decide) (Nat.le_of_ble_eq_true rfl) ?_
  intro p e s m below meth c ls H locs X hB hl
  have hx := X.1
  have hb := X.2.1
  have hl : lv_has ls 4 [(0, .ref ta), (1, .ref h), (2, .int (nI q))] := hl
  have hB : wf_B D wcl (wf_A w s.heap.size) s.heap (wf_l w [(ta, .inr (9, [.int (nI k), .ref tw])), (tw, .inl (t 1, 4040, .inr (.inl (lA Wy)))), (h, .inr (1, [.int (nI k), .ref hs, .int (nI n), .long (lN E)])), (hs, .inl (t 0, 40, .inl (pkA f)))]) H locs := wf_Bto (wf_l4 hTa hTw hM hF).symm hB
  have hk := hm.1
  have hn := hm.2.1
  have hn0 := hm.2.2.1
  have hE := hm.E40
  refine lv_iconst (v := nI 0) hx hb d_Tal_waysOf_0 (by decide) ?_
  refine lv_istore_n (lv' := [(3, .int (nI 0)), (0, .ref ta), (1, .ref h), (2, .int (nI q))]) hx hb d_Tal_waysOf_1 rfl hl (by decide) rfl (fun ls hl => ?_)
  refine c_Tal_waysOf_L2 (l := l) X hN hTa hTw hM hF hm hq (fun i W1 hi hg he H locs ls hl hB => ?_) (q + 1 - 0 + 1) 0 Wy (by omega) (by intro l1 h1; omega) (by omega) H locs ls (lv_sub hl [1, 2, 3, 0] rfl) hB
  refine lv_aload_n hx hb d_Tal_waysOf_25 rfl (lv_at hl 0 rfl) ?_
  refine lv_iconst (v := nI 0) hx hb d_Tal_waysOf_26 (by decide) ?_
  refine lv_iload_n hx hb d_Tal_waysOf_27 rfl (lv_at hl 2 rfl) ?_
  refine callVl (As := [.int (nI 0), .int (nI q)]) (rest := []) X hB wf_hA (c_Tal_waysFrom (l := l) (D := D) (t := t) (w := (wf_l w [(ta, .inr (9, [.int (nI k), .ref tw])), (tw, .inl (t 1, 4040, .inr (.inl (lA W1)))), (h, .inr (1, [.int (nI k), .ref hs, .int (nI n), .long (lN E)])), (hs, .inl (t 0, 40, .inl (pkA f)))])) (sz := H.size) (ta := ta) (tw := tw) (k := k) (Wy := W1) (u := 0) (v := q) (wf_lg (w := w) (l := [(ta, .inr (9, [.int (nI k), .ref tw])), (tw, .inl (t 1, 4040, .inr (.inl (lA W1)))), (h, .inr (1, [.int (nI k), .ref hs, .int (nI n), .long (lN E)])), (hs, .inl (t 0, 40, .inl (pkA f)))]) hN 0 rfl) (wf_lg (w := w) (l := [(ta, .inr (9, [.int (nI k), .ref tw])), (tw, .inl (t 1, 4040, .inr (.inl (lA W1)))), (h, .inr (1, [.int (nI k), .ref hs, .int (nI n), .long (lN E)])), (hs, .inl (t 0, 40, .inl (pkA f)))]) hN 1 rfl) (by omega) (by exact hq)) k_819 k_821 k_31 k_74 k_822 (wf_lg (w := w) (l := [(ta, .inr (9, [.int (nI k), .ref tw])), (tw, .inl (t 1, 4040, .inr (.inl (lA W1)))), (h, .inr (1, [.int (nI k), .ref hs, .int (nI n), .long (lN E)])), (hs, .inl (t 0, 40, .inl (pkA f)))]) hN 0 rfl) cl_Tal rfl hd_Tal_waysFrom ⟨Nat.le_of_ble_eq_true rfl, Nat.le_of_ble_eq_true rfl⟩ ⟨Nat.le_of_ble_eq_true rfl, Nat.le_of_ble_eq_true rfl⟩ hl.1 (Nat.le_of_ble_eq_true rfl) d_Tal_waysOf_28 rfl (fun r_28 w1 H locs hp hB => ?_)
  obtain ⟨rfl, hw_28⟩ := hp
  have hB : wf_B D wcl (wf_A w s.heap.size) s.heap (wf_l w [(ta, .inr (9, [.int (nI k), .ref tw])), (tw, .inl (t 1, 4040, .inr (.inl (lA W1)))), (h, .inr (1, [.int (nI k), .ref hs, .int (nI n), .long (lN E)])), (hs, .inl (t 0, 40, .inl (pkA f)))]) H locs := wf_Bto hw_28 hB
  refine wf_tl (y := lN (wyc k n E st q 0)) (by exact congrArg lN (hg q (by omega) 0 hn0)) ?_
  refine ret_l X hB d_Tal_waysOf_31 ?_
  exact ⟨W1, rfl, rfl⟩
