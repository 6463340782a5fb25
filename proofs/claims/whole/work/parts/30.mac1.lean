/-- a machine's cells say n states, ends E, steps st, over k letters -/
def mOK (k n E : Nat) (f : Nat → Int32) (st : Nat → Nat → Nat) : Prop := k ≤ 4 ∧ n ≤ 40 ∧ 0 < n ∧ E < 2 ^ n ∧ (∀ s a, s < n → a < k → f (s * 4 + a) = nI (st s a) ∧ st s a < n) ∧ ∀ s a, s < n → k ≤ a → a < 4 → f (s * 4 + a) = nI 0
def stp (k n : Nat) (st : Nat → Nat → Nat) (s a : Nat) : Nat := if s < n ∧ a < k then st s a else 0
theorem stp_lt {k n E : Nat} {f : Nat → Int32} {st : Nat → Nat → Nat} (hm : mOK k n E f st) (s a : Nat) : stp k n st s a < n := by
  unfold stp
  split
  · rename_i h; exact (hm.2.2.2.2.1 s a h.1 h.2).2
  · exact hm.2.2.1
theorem pow_le40 {n : Nat} (h : n ≤ 40) : 2 ^ n ≤ 2 ^ 40 := Nat.pow_le_pow_right (by decide) h
theorem mOK.E40 {k n E : Nat} {f : Nat → Int32} {st : Nat → Nat → Nat} (hm : mOK k n E f st) : E < 2 ^ 40 := Nat.lt_of_lt_of_le hm.2.2.2.1 (pow_le40 hm.2.1)
/-- the states to which those of the first i in S lead by a -/
def aft (g : Nat → Nat → Nat) (S a : Nat) : Nat → Nat
  | 0 => 0
  | i + 1 => if S.testBit i = true then aft g S a i ||| 2 ^ g i a else aft g S a i
theorem aft_lt {k n E : Nat} {f : Nat → Int32} {st : Nat → Nat → Nat} (hm : mOK k n E f st) (S a : Nat) : ∀ i, aft (stp k n st) S a i < 2 ^ 40
  | 0 => by simp [aft]
  | i + 1 => by
    have ih := aft_lt hm S a i
    rw [aft]
    split
    · refine Nat.or_lt_two_pow ih ?_
      exact Nat.pow_lt_pow_right (by decide) (Nat.lt_of_lt_of_le (stp_lt hm i a) hm.2.1)
    · exact ih
set_option maxHeartbeats 4000000 in
set_option maxRecDepth 100000 in
/-- isIn(set, state): whether the state is in the set -/
theorem c_TM_isIn {l : Launch} {D : va_G} {t : Nat → ClassId} {w : wf_W} {sz : Nat} {S i : Nat} (hS : S < 2 ^ 64) (hi : i < 64) : Mi l y_TM_isIn b_TM_isIn 3 (some .boolean) 0 0 0 0 D t w sz [.long (lN S), .int (nI i)] (fun r w' => r = (bI (S.testBit i)) ∧ w' = w) := by
  refine start_i (by decide) (Nat.le_of_ble_eq_true rfl) ?_
  intro p e s m below meth c ls H locs X hB hl
  have hx := X.1
  have hb := X.2.1
  have hl : lv_has ls 3 [(0, .long (lN S)), (2, .int (nI i))] := hl
  refine lv_lload_n hx hb d_TM_isIn_0 rfl (lv_at hl 0 rfl) ?_
  refine lv_iload_n hx hb d_TM_isIn_1 rfl (lv_at hl 1 rfl) ?_
  refine lv_lushr (v := lN (S / 2 ^ i)) hx hb d_TM_isIn_2 (wb_shr (by omega) (by omega)) ?_
  refine lv_lconst (v := lN 1) hx hb d_TM_isIn_3 (by decide) ?_
  refine lv_land hx hb d_TM_isIn_4 ?_
  refine wf_tl (y := lN ((S / 2 ^ i) &&& 1)) (wb_and (by exact Nat.lt_of_le_of_lt (Nat.div_le_self _ _) hS) (by decide)) ?_
  refine wf_tl (y := lN ((S.testBit i).toNat)) (by rw [bit_nat]) ?_
  refine lv_lconst (v := lN 0) hx hb d_TM_isIn_5 (by decide) ?_
  refine W.lcmp hx hb d_TM_isIn_6 ?_
  refine wf_leq (tgt := 14) hx hb d_TM_isIn_7 (by decide) (pk_lT (by cases S.testBit i <;> decide)) (pk_lT (by decide)) (fun c_7 => ?_) (fun c_7 => ?_)
  · refine lv_iconst (v := nI 0) hx hb d_TM_isIn_14 (by decide) ?_
    refine wf_ti (y := bI false) rfl ?_
    refine ret_z X hB d_TM_isIn_15 ?_
    exact ⟨by cases h : S.testBit i <;> simp_all, rfl⟩
  · refine lv_iconst (v := nI 1) hx hb d_TM_isIn_10 (by decide) ?_
    refine lv_goto (tgt := 15) hx hb d_TM_isIn_11 (by decide) ?_
    refine wf_ti (y := bI true) rfl ?_
    refine ret_z X hB d_TM_isIn_15 ?_
    exact ⟨by cases h : S.testBit i <;> simp_all, rfl⟩
set_option maxHeartbeats 4000000 in
set_option maxRecDepth 100000 in
theorem c_Mac_hasStep {l : Launch} {D : va_G} {t : Nat → ClassId} {w : wf_W} {sz : Nat} {h hs k n E u a : Nat} (hM : w h = some (.inr (1, [.int (nI k), .ref hs, .int (nI n), .long (lN E)]))) (hk : k ≤ 4) (hn : n ≤ 40) (hu : u < 2 ^ 31) (ha1 : a < 2 ^ 31) : Mi l y_Mac_hasStep b_Mac_hasStep 3 (some .boolean) 0 0 0 0 D t w sz [.ref h, .int (nI u), .int (nI a)] (fun r w' => r = (bI (decide (u < n) && decide (a < k))) ∧ w' = w) := by
  refine start_i (by decide) (Nat.le_of_ble_eq_true rfl) ?_
  intro p e s m below meth c ls H locs X hB hl
  have hx := X.1
  have hb := X.2.1
  have hl : lv_has ls 3 [(0, .ref h), (1, .int (nI u)), (2, .int (nI a))] := hl
  refine lv_iload_n hx hb d_Mac_hasStep_0 rfl (lv_at hl 1 rfl) ?_
  refine wf_zlt (tgt := 28) hx hb d_Mac_hasStep_1 (by decide) (nI_toInt (by omega)) (fun c_1 => ?_) (fun c_1 => ?_)
  · refine lv_iconst (v := nI 0) hx hb d_Mac_hasStep_28 (by decide) ?_
    refine wf_ti (y := bI false) rfl ?_
    refine ret_z X hB d_Mac_hasStep_29 ?_
    refine ⟨congrArg bI (Bool.eq_iff_iff.mpr ?_), rfl⟩; simp only [Bool.and_eq_true, Bool.or_eq_true, Bool.not_eq_true', decide_eq_true_eq, decide_eq_false_iff_not, Bool.false_eq_true, true_iff, false_iff]; omega
  · refine lv_iload_n hx hb d_Mac_hasStep_4 rfl (lv_at hl 1 rfl) ?_
    refine lv_aload_n hx hb d_Mac_hasStep_5 rfl (lv_at hl 0 rfl) ?_
    refine rget X hB  i_Mac hM cl_Mac 2 (by decide) k_120 rfl rfl d_Mac_hasStep_6 ?_
    refine wf_cge (tgt := 28) hx hb d_Mac_hasStep_9 (by decide) (nI_toInt (by omega)) (nI_toInt (by omega)) (fun c_9 => ?_) (fun c_9 => ?_)
    · refine lv_iconst (v := nI 0) hx hb d_Mac_hasStep_28 (by decide) ?_
      refine wf_ti (y := bI false) rfl ?_
      refine ret_z X hB d_Mac_hasStep_29 ?_
      refine ⟨congrArg bI (Bool.eq_iff_iff.mpr ?_), rfl⟩; simp only [Bool.and_eq_true, Bool.or_eq_true, Bool.not_eq_true', decide_eq_true_eq, decide_eq_false_iff_not, Bool.false_eq_true, true_iff, false_iff]; omega
    · refine lv_iload_n hx hb d_Mac_hasStep_12 rfl (lv_at hl 2 rfl) ?_
      refine wf_zlt (tgt := 28) hx hb d_Mac_hasStep_13 (by decide) (nI_toInt (by omega)) (fun c_13 => ?_) (fun c_13 => ?_)
      · refine lv_iconst (v := nI 0) hx hb d_Mac_hasStep_28 (by decide) ?_
        refine wf_ti (y := bI false) rfl ?_
        refine ret_z X hB d_Mac_hasStep_29 ?_
        refine ⟨congrArg bI (Bool.eq_iff_iff.mpr ?_), rfl⟩; simp only [Bool.and_eq_true, Bool.or_eq_true, Bool.not_eq_true', decide_eq_true_eq, decide_eq_false_iff_not, Bool.false_eq_true, true_iff, false_iff]; omega
      · refine lv_iload_n hx hb d_Mac_hasStep_16 rfl (lv_at hl 2 rfl) ?_
        refine lv_aload_n hx hb d_Mac_hasStep_17 rfl (lv_at hl 0 rfl) ?_
        refine rget X hB  i_Mac hM cl_Mac 0 (by decide) k_118 rfl rfl d_Mac_hasStep_18 ?_
        refine wf_cge (tgt := 28) hx hb d_Mac_hasStep_21 (by decide) (nI_toInt (by omega)) (nI_toInt (by omega)) (fun c_21 => ?_) (fun c_21 => ?_)
        · refine lv_iconst (v := nI 0) hx hb d_Mac_hasStep_28 (by decide) ?_
          refine wf_ti (y := bI false) rfl ?_
          refine ret_z X hB d_Mac_hasStep_29 ?_
          refine ⟨congrArg bI (Bool.eq_iff_iff.mpr ?_), rfl⟩; simp only [Bool.and_eq_true, Bool.or_eq_true, Bool.not_eq_true', decide_eq_true_eq, decide_eq_false_iff_not, Bool.false_eq_true, true_iff, false_iff]; omega
        · refine lv_iconst (v := nI 1) hx hb d_Mac_hasStep_24 (by decide) ?_
          refine lv_goto (tgt := 29) hx hb d_Mac_hasStep_25 (by decide) ?_
          refine wf_ti (y := bI true) rfl ?_
          refine ret_z X hB d_Mac_hasStep_29 ?_
          refine ⟨congrArg bI (Bool.eq_iff_iff.mpr ?_), rfl⟩; simp only [Bool.and_eq_true, Bool.or_eq_true, Bool.not_eq_true', decide_eq_true_eq, decide_eq_false_iff_not, Bool.false_eq_true, true_iff, false_iff]; omega
set_option maxHeartbeats 4000000 in
set_option maxRecDepth 100000 in
theorem c_Mac_step {l : Launch} {D : va_G} {t : Nat → ClassId} {w : wf_W} {sz : Nat} {h hs k n E : Nat} {f : Nat → Int32} {st : Nat → Nat → Nat} {u a : Nat} (hM : w h = some (.inr (1, [.int (nI k), .ref hs, .int (nI n), .long (lN E)]))) (hF : w hs = some (.inl (t 0, 40, .inl (pkA f)))) (hm : mOK k n E f st) (hu : u < 2 ^ 31) (ha1 : a < 2 ^ 31) : Mi l y_Mac_step b_Mac_step 3 (some .int) 1 22 0 0 D t w sz [.ref h, .int (nI u), .int (nI a)] (fun r w' => r = (nI (stp k n st u a)) ∧ w' = w) := by
  refine start_i (by decide) (Nat.le_of_ble_eq_true rfl) ?_
  intro p e s m below meth c ls H locs X hB hl
  have hx := X.1
  have hb := X.2.1
  have hl : lv_has ls 3 [(0, .ref h), (1, .int (nI u)), (2, .int (nI a))] := hl
  have hk := hm.1
  have hn := hm.2.1
  refine lv_aload_n hx hb d_Mac_step_0 rfl (lv_at hl 0 rfl) ?_
  refine lv_iload_n hx hb d_Mac_step_1 rfl (lv_at hl 1 rfl) ?_
  refine lv_iload_n hx hb d_Mac_step_2 rfl (lv_at hl 2 rfl) ?_
  refine callVi (As := [.int (nI u), .int (nI a)]) (rest := []) X hB wf_hA (c_Mac_hasStep (l := l) (D := D) (t := t) (w := w) (sz := H.size) (h := h) (hs := hs) (k := k) (n := n) (E := E) (u := u) (a := a) hM (by omega) (by omega) (by exact hu) (by exact ha1)) k_437 k_439 k_3 k_67 k_440 hM cl_Mac rfl hd_Mac_hasStep ⟨Nat.le_of_ble_eq_true rfl, Nat.le_of_ble_eq_true rfl⟩ ⟨Nat.le_of_ble_eq_true rfl, Nat.le_of_ble_eq_true rfl⟩ hl.1 (Nat.le_of_ble_eq_true rfl) d_Mac_step_3 rfl (fun r_3 w1 H locs hp hB => ?_)
  obtain ⟨rfl, hw_3⟩ := hp
  have hB : wf_B D wcl (wf_A w s.heap.size) s.heap w H locs := wf_Bto hw_3 hB
  refine wf_beq (tgt := 26) hx hb d_Mac_step_6 (by decide) (fun c_6 => ?_) (fun c_6 => ?_)
  · refine lv_iconst (v := nI 0) hx hb d_Mac_step_26 (by decide) ?_
    refine ret_i X hB d_Mac_step_27 ?_
    exact ⟨by rw [stp, if_neg]; simpa using c_6, rfl⟩
  · simp only [Bool.and_eq_true, decide_eq_true_eq] at c_6
    refine lv_aload_n hx hb d_Mac_step_9 rfl (lv_at hl 0 rfl) ?_
    refine rget X hB  i_Mac hM cl_Mac 1 (by decide) k_119 rfl rfl d_Mac_step_10 ?_
    refine lv_iload_n hx hb d_Mac_step_13 rfl (lv_at hl 1 rfl) ?_
    refine riald X hB  hF (i := u) (by omega) (by decide) d_Mac_step_14 ?_
    refine wf_ti (y := nI (pkN f u)) (by rfl) ?_
    refine lv_iload_n hx hb d_Mac_step_15 rfl (lv_at hl 2 rfl) ?_
    refine lv_bipush (v := nI 6) hx hb d_Mac_step_16 (by decide) ?_
    refine wf_imul (x := a) (y := 6) hx hb d_Mac_step_18 ?_
    refine lv_iushr (v := nI ((pkN f u) / 2 ^ (a * 6))) hx hb d_Mac_step_19 (pk_ushrN (by have := pkN_lt f u; omega) _ _ (sh32 _ (by omega))) ?_
    refine lv_bipush (v := nI 63) hx hb d_Mac_step_20 (by decide) ?_
    refine lv_iand hx hb d_Mac_step_22 ?_
    refine wf_ti (y := nI (stp k n st u a)) (by rw [wi_and63 (Nat.lt_of_le_of_lt (Nat.div_le_self _ _) (by have := pkN_lt f u; omega)), pkN_get f u a (by omega), (hm.2.2.2.2.1 u a c_6.1 c_6.2).1, lo6_n (by have := (hm.2.2.2.2.1 u a c_6.1 c_6.2).2; omega)]; simp [stp, c_6]) ?_
    refine lv_goto (tgt := 27) hx hb d_Mac_step_23 (by decide) ?_
    refine ret_i X hB d_Mac_step_27 ?_
    exact ⟨rfl, rfl⟩
set_option maxHeartbeats 4000000 in
set_option maxRecDepth 100000 in
theorem c_Mac_isEnd {l : Launch} {D : va_G} {t : Nat → ClassId} {w : wf_W} {sz : Nat} {h hs k n E u : Nat} (hM : w h = some (.inr (1, [.int (nI k), .ref hs, .int (nI n), .long (lN E)]))) (hn : n ≤ 40) (hE : E < 2 ^ 40) (hu : u < 2 ^ 31) : Mi l y_Mac_isEnd b_Mac_isEnd 2 (some .boolean) 1 22 0 0 D t w sz [.ref h, .int (nI u)] (fun r w' => r = (bI (decide (u < n) && E.testBit u)) ∧ w' = w) := by
  refine start_i (by decide) (Nat.le_of_ble_eq_true rfl) ?_
  intro p e s m below meth c ls H locs X hB hl
  have hx := X.1
  have hb := X.2.1
  have hl : lv_has ls 2 [(0, .ref h), (1, .int (nI u))] := hl
  refine lv_iload_n hx hb d_Mac_isEnd_0 rfl (lv_at hl 1 rfl) ?_
  refine wf_zlt (tgt := 27) hx hb d_Mac_isEnd_1 (by decide) (nI_toInt (by omega)) (fun c_1 => ?_) (fun c_1 => ?_)
  · refine lv_iconst (v := nI 0) hx hb d_Mac_isEnd_27 (by decide) ?_
    refine wf_ti (y := bI false) rfl ?_
    refine ret_z X hB d_Mac_isEnd_28 ?_
    refine ⟨congrArg bI (Bool.eq_iff_iff.mpr ?_), rfl⟩; first | (have c_9 : u < n := by omega); simp [c_9, c_20] | (have c_9 : ¬ u < n := by omega); simp [c_9]
  · refine lv_iload_n hx hb d_Mac_isEnd_4 rfl (lv_at hl 1 rfl) ?_
    refine lv_aload_n hx hb d_Mac_isEnd_5 rfl (lv_at hl 0 rfl) ?_
    refine rget X hB  i_Mac hM cl_Mac 2 (by decide) k_120 rfl rfl d_Mac_isEnd_6 ?_
    refine wf_cge (tgt := 27) hx hb d_Mac_isEnd_9 (by decide) (nI_toInt (by omega)) (nI_toInt (by omega)) (fun c_9 => ?_) (fun c_9 => ?_)
    · refine lv_iconst (v := nI 0) hx hb d_Mac_isEnd_27 (by decide) ?_
      refine wf_ti (y := bI false) rfl ?_
      refine ret_z X hB d_Mac_isEnd_28 ?_
      refine ⟨congrArg bI (Bool.eq_iff_iff.mpr ?_), rfl⟩; first | (have c_9 : u < n := by omega); simp [c_9, c_20] | (have c_9 : ¬ u < n := by omega); simp [c_9]
    · refine lv_aload_n hx hb d_Mac_isEnd_12 rfl (lv_at hl 0 rfl) ?_
      refine rget X hB  i_Mac hM cl_Mac 3 (by decide) k_125 rfl rfl d_Mac_isEnd_13 ?_
      refine lv_iload_n hx hb d_Mac_isEnd_16 rfl (lv_at hl 1 rfl) ?_
      refine callTi (As := [.long (lN E), .int (nI u)]) (rest := []) X hB wf_hA (c_TM_isIn (l := l) (D := D) (t := t) (w := w) (sz := H.size) (S := E) (i := u) (by omega) (by omega)) k_377 k_378 k_64 k_379 hd_TM_isIn ⟨Nat.le_of_ble_eq_true rfl, Nat.le_of_ble_eq_true rfl⟩ ⟨Nat.le_of_ble_eq_true rfl, Nat.le_of_ble_eq_true rfl⟩ hl.1 (Nat.le_of_ble_eq_true rfl) d_Mac_isEnd_17 rfl (fun r_17 w1 H locs hp hB => ?_)
      obtain ⟨rfl, hw_17⟩ := hp
      have hB : wf_B D wcl (wf_A w s.heap.size) s.heap w H locs := wf_Bto hw_17 hB
      refine wf_beq (tgt := 27) hx hb d_Mac_isEnd_20 (by decide) (fun c_20 => ?_) (fun c_20 => ?_)
      · refine lv_iconst (v := nI 0) hx hb d_Mac_isEnd_27 (by decide) ?_
        refine wf_ti (y := bI false) rfl ?_
        refine ret_z X hB d_Mac_isEnd_28 ?_
        refine ⟨congrArg bI (Bool.eq_iff_iff.mpr ?_), rfl⟩; first | (have c_9 : u < n := by omega); simp [c_9, c_20] | (have c_9 : ¬ u < n := by omega); simp [c_9]
      · refine lv_iconst (v := nI 1) hx hb d_Mac_isEnd_23 (by decide) ?_
        refine lv_goto (tgt := 28) hx hb d_Mac_isEnd_24 (by decide) ?_
        refine wf_ti (y := bI true) rfl ?_
        refine ret_z X hB d_Mac_isEnd_28 ?_
        refine ⟨congrArg bI (Bool.eq_iff_iff.mpr ?_), rfl⟩; first | (have c_9 : u < n := by omega); simp [c_9, c_20] | (have c_9 : ¬ u < n := by omega); simp [c_9]
set_option maxHeartbeats 4000000 in
set_option maxRecDepth 100000 in
theorem c_Mac_allStates {l : Launch} {D : va_G} {t : Nat → ClassId} {w : wf_W} {sz : Nat} {h hs k n E : Nat} (hM : w h = some (.inr (1, [.int (nI k), .ref hs, .int (nI n), .long (lN E)]))) (hn : n ≤ 40) : Ml l y_Mac_allStates b_Mac_allStates 1 (some .long) 0 0 0 0 D t w sz [.ref h] (fun r w' => r = (lN (2 ^ n - 1)) ∧ w' = w) := by
  refine start_l (by decide) (Nat.le_of_ble_eq_true rfl) ?_
  intro p e s m below meth c ls H locs X hB hl
  have hx := X.1
  have hb := X.2.1
  have hl : lv_has ls 1 [(0, .ref h)] := hl
  refine lv_lconst (v := lN 1) hx hb d_Mac_allStates_0 (by decide) ?_
  refine lv_aload_n hx hb d_Mac_allStates_1 rfl (lv_at hl 0 rfl) ?_
  refine rget X hB  i_Mac hM cl_Mac 2 (by decide) k_120 rfl rfl d_Mac_allStates_2 ?_
  refine lv_lshl (v := lN (1 * 2 ^ n)) hx hb d_Mac_allStates_5 (wb_shl _ (by omega)) ?_
  refine wf_tl (y := lN (2 ^ n)) (by rw [Nat.one_mul]) ?_
  refine lv_lconst (v := lN 1) hx hb d_Mac_allStates_6 (by decide) ?_
  refine wf_lsub (x := 2 ^ n) (y := 1) hx hb d_Mac_allStates_7 (by exact Nat.one_le_two_pow) ?_
  refine ret_l X hB d_Mac_allStates_8 ?_
  exact ⟨rfl, rfl⟩
set_option maxHeartbeats 4000000 in
set_option maxRecDepth 100000 in
theorem c_Mac_after_L6 {l : Launch} {D : va_G} {t : Nat → ClassId} {w : wf_W} {h hs k n E : Nat} {f : Nat → Int32} {st : Nat → Nat → Nat} {S a : Nat}  {p : Program} {e : Env} {s : State} {m : MethodId} {below : List Frame} {meth : Method} {c : Code} {Q : State → Prop} (X : Cx p s m meth c R_Mac "after" b_Mac_after 7 (some .long) D t) (hM : w h = some (.inr (1, [.int (nI k), .ref hs, .int (nI n), .long (lN E)]))) (hF : w hs = some (.inl (t 0, 40, .inl (pkA f)))) (hm : mOK k n E f st) (hS : S < 2 ^ 64) (ha1 : a < 2 ^ 31)
    (K_44 : ∀ (i : Nat), (i ≤ n) → (i = n) → ∀ (H : Heap) (locs : List Loc) (ls : Array Slot), lv_has ls 7 [(0, .ref h), (1, .long (lN S)), (3, .int (nI a)), (4, .long (lN (aft (stp k n st) S a i))), (6, .int (nI i))] → wf_B D wcl (wf_A w s.heap.size) s.heap w H locs → W p l e (rmk 2 44 0 0) s m [.ref h, .long (lN S), .int (nI a)].toArray below meth c H locs 0 0 Q (F0 m 44 ls [])) :
    ∀ (fu : Nat) (i : Nat), (i ≤ n) → n - i < fu → ∀ (H : Heap) (locs : List Loc) (ls : Array Slot), lv_has ls 7 [(0, .ref h), (1, .long (lN S)), (3, .int (nI a)), (4, .long (lN (aft (stp k n st) S a i))), (6, .int (nI i))] → wf_B D wcl (wf_A w s.heap.size) s.heap w H locs → W p l e (rmk 2 44 0 0) s m [.ref h, .long (lN S), .int (nI a)].toArray below meth c H locs 0 0 Q (F0 m 6 ls []) := by
  have hx := X.1
  have hb := X.2.1
  intro fu
  induction fu with
  | zero => intro i hi hfu; exact absurd hfu (Nat.not_lt_zero _)
  | succ fu ih =>
    intro i hi hfu H locs ls hl hB
    have hk := hm.1
    have hn := hm.2.1
    refine lv_iload hx hb d_Mac_after_6 (lv_at hl 4 rfl) ?_
    refine lv_aload_n hx hb d_Mac_after_8 rfl (lv_at hl 0 rfl) ?_
    refine rget X hB  i_Mac hM cl_Mac 2 (by decide) k_120 rfl rfl d_Mac_after_9 ?_
    refine wf_cge (tgt := 44) hx hb d_Mac_after_12 (by decide) (nI_toInt (by omega)) (nI_toInt (by omega)) (fun c_12 => ?_) (fun c_12 => ?_)
    · exact K_44 i hi (by omega) H locs ls (lv_sub hl [0, 1, 2, 3, 4] rfl) hB
    · refine lv_lload_n hx hb d_Mac_after_15 rfl (lv_at hl 1 rfl) ?_
      refine lv_iload hx hb d_Mac_after_16 (lv_at hl 4 rfl) ?_
      refine callTi (As := [.long (lN S), .int (nI i)]) (rest := []) X hB wf_hA (c_TM_isIn (l := l) (D := D) (t := t) (w := w) (sz := H.size) (S := S) (i := i) (by exact hS) (by omega)) k_377 k_378 k_64 k_379 hd_TM_isIn ⟨Nat.le_of_ble_eq_true rfl, Nat.le_of_ble_eq_true rfl⟩ ⟨Nat.le_of_ble_eq_true rfl, Nat.le_of_ble_eq_true rfl⟩ hl.1 (Nat.le_of_ble_eq_true rfl) d_Mac_after_18 rfl (fun r_18 w1 H locs hp hB => ?_)
      obtain ⟨rfl, hw_18⟩ := hp
      have hB : wf_B D wcl (wf_A w s.heap.size) s.heap w H locs := wf_Bto hw_18 hB
      refine wf_beq (tgt := 38) hx hb d_Mac_after_21 (by decide) (fun c_21 => ?_) (fun c_21 => ?_)
      · have hl : lv_has ls 7 [(0, .ref h), (1, .long (lN S)), (3, .int (nI a)), (4, .long (lN (aft (stp k n st) S a (i + 1)))), (6, .int (nI i))] := by rw [aft, if_neg (by simp [c_21])]; exact hl
        refine lv_iinc (v := nI (i + 1)) (lv' := [(6, .int (nI (i + 1))), (0, .ref h), (1, .long (lN S)), (3, .int (nI a)), (4, .long (lN (aft (stp k n st) S a (i + 1))))]) hx hb d_Mac_after_38 hl (k := 4) rfl (show nI i + nI 1 = nI (i + 1) from nI_add _ _) (by decide) rfl (fun ls hl => ?_)
        refine lv_goto (tgt := 6) hx hb d_Mac_after_41 (by decide) ?_
        exact ih (i + 1) (by omega) (by omega) H locs ls (lv_sub hl [1, 2, 3, 4, 0] rfl) hB
      · refine lv_lload hx hb d_Mac_after_24 (lv_at hl 3 rfl) ?_
        refine lv_lconst (v := lN 1) hx hb d_Mac_after_26 (by decide) ?_
        refine lv_aload_n hx hb d_Mac_after_27 rfl (lv_at hl 0 rfl) ?_
        refine lv_iload hx hb d_Mac_after_28 (lv_at hl 4 rfl) ?_
        refine lv_iload_n hx hb d_Mac_after_30 rfl (lv_at hl 2 rfl) ?_
        refine callVi (As := [.int (nI i), .int (nI a)]) (rest := [.long (lN 1), .long (lN (aft (stp k n st) S a i))]) X hB wf_hA (c_Mac_step (l := l) (D := D) (t := t) (w := w) (sz := H.size) (h := h) (hs := hs) (k := k) (n := n) (E := E) (f := f) (st := st) (u := i) (a := a) hM hF (by exact hm) (by omega) (by exact ha1)) k_445 k_434 k_435 k_67 k_436 hM cl_Mac rfl hd_Mac_step ⟨Nat.le_of_ble_eq_true rfl, Nat.le_of_ble_eq_true rfl⟩ ⟨Nat.le_of_ble_eq_true rfl, Nat.le_of_ble_eq_true rfl⟩ hl.1 (Nat.le_of_ble_eq_true rfl) d_Mac_after_31 rfl (fun r_31 w1 H locs hp hB => ?_)
        obtain ⟨rfl, hw_31⟩ := hp
        have hB : wf_B D wcl (wf_A w s.heap.size) s.heap w H locs := wf_Bto hw_31 hB
        refine lv_lshl (v := lN (1 * 2 ^ (stp k n st i a))) hx hb d_Mac_after_34 (wb_shl _ (by have := stp_lt hm i a; omega)) ?_
        refine wf_tl (y := lN (2 ^ stp k n st i a)) (by rw [Nat.one_mul]) ?_
        refine lv_lor hx hb d_Mac_after_35 ?_
        refine wf_tl (y := lN ((aft (stp k n st) S a i) ||| (2 ^ stp k n st i a))) (wb_or (by have := aft_lt hm S a i; omega) (by have := stp_lt hm i a; have := Nat.pow_lt_pow_right (a := 2) (by decide) (show stp k n st i a < 64 by omega); exact this)) ?_
        refine wf_tl (y := lN (aft (stp k n st) S a (i + 1))) (by rw [aft, if_pos c_21]) ?_
        refine lv_lstore (lv' := [(4, .long (lN (aft (stp k n st) S a (i + 1)))), (0, .ref h), (1, .long (lN S)), (3, .int (nI a)), (6, .int (nI i))]) hx hb d_Mac_after_36 hl (by decide) rfl (fun ls hl => ?_)
        refine lv_iinc (v := nI (i + 1)) (lv' := [(6, .int (nI (i + 1))), (4, .long (lN (aft (stp k n st) S a (i + 1)))), (0, .ref h), (1, .long (lN S)), (3, .int (nI a))]) hx hb d_Mac_after_38 hl (k := 4) rfl (show nI i + nI 1 = nI (i + 1) from nI_add _ _) (by decide) rfl (fun ls hl => ?_)
        refine lv_goto (tgt := 6) hx hb d_Mac_after_41 (by decide) ?_
        exact ih (i + 1) (by omega) (by omega) H locs ls (lv_sub hl [2, 3, 4, 1, 0] rfl) hB
set_option maxHeartbeats 4000000 in
set_option maxRecDepth 100000 in
theorem c_Mac_after {l : Launch} {D : va_G} {t : Nat → ClassId} {w : wf_W} {sz : Nat} {h hs k n E : Nat} {f : Nat → Int32} {st : Nat → Nat → Nat} {S a : Nat} (hM : w h = some (.inr (1, [.int (nI k), .ref hs, .int (nI n), .long (lN E)]))) (hF : w hs = some (.inl (t 0, 40, .inl (pkA f)))) (hm : mOK k n E f st) (hS : S < 2 ^ 64) (ha1 : a < 2 ^ 31) : Ml l y_Mac_after b_Mac_after 7 (some .long) 2 44 0 0 D t w sz [.ref h, .long (lN S), .int (nI a)] (fun r w' => r = (lN (aft (stp k n st) S a n)) ∧ w' = w) := by
  refine start_l (by decide) (Nat.le_of_ble_eq_true rfl) ?_
  intro p e s m below meth c ls H locs X hB hl
  have hx := X.1
  have hb := X.2.1
  have hl : lv_has ls 7 [(0, .ref h), (1, .long (lN S)), (3, .int (nI a))] := hl
  have hk := hm.1
  have hn := hm.2.1
  refine lv_lconst (v := lN 0) hx hb d_Mac_after_0 (by decide) ?_
  refine lv_lstore (lv' := [(4, .long (lN 0)), (0, .ref h), (1, .long (lN S)), (3, .int (nI a))]) hx hb d_Mac_after_1 hl (by decide) rfl (fun ls hl => ?_)
  refine lv_iconst (v := nI 0) hx hb d_Mac_after_3 (by decide) ?_
  refine lv_istore (lv' := [(6, .int (nI 0)), (4, .long (lN 0)), (0, .ref h), (1, .long (lN S)), (3, .int (nI a))]) hx hb d_Mac_after_4 hl (by decide) rfl (fun ls hl => ?_)
  refine c_Mac_after_L6 (l := l) X hM hF hm hS ha1 (fun i hi he H locs ls hl hB => ?_) (n - 0 + 1) 0 (by omega) (by omega) H locs ls (lv_sub hl [2, 3, 4, 1, 0] rfl) hB
  refine lv_lload hx hb d_Mac_after_44 (lv_at hl 3 rfl) ?_
  refine ret_l X hB d_Mac_after_46 ?_
  subst he; exact ⟨rfl, rfl⟩
