/-! PAIRS AND JOINS -/
def wnt (how : Nat) (x y : Bool) : Bool := if how = 0 then x && y else if how = 1 then x || y else if how = 2 then x && !y else x != y
def inE (n E u : Nat) : Bool := decide (u < n) && E.testBit u
def pAf (k n : Nat) (st : Nat → Nat → Nat) (n2 : Nat) (st2 : Nat → Nat → Nat) (S a : Nat) : Nat := stp k n st (S / 64) a * 64 + stp k n2 st2 (S % 64) a
theorem or_add {x y j : Nat} (hy : y < 2 ^ j) : x * 2 ^ j ||| y = x * 2 ^ j + y := by
  have := Nat.two_pow_add_eq_or_of_lt (i := j) (b := y) hy x
  rw [Nat.mul_comm x, ← this]
def jPl (n E v T : Nat) : Nat := v * 1099511627776 + (T ||| (if inE n E v = true then 1 else 0))
theorem jPl_eq {n E v T : Nat} {b : Nat} (hT : T < 2 ^ 40) (hb : b = if inE n E v = true then 1 else 0) : v * 2 ^ 40 ||| T ||| b = jPl n E v T := by
  subst hb
  unfold jPl
  rw [Nat.or_assoc, or_add (Nat.or_lt_two_pow hT (by split <;> decide))]
theorem jPl_lt {n E v T : Nat} (hT : T < 2 ^ 40) (hv : v < 40) : jPl n E v T < 2 ^ 46 := by
  unfold jPl
  have := Nat.or_lt_two_pow hT (show (if inE n E v = true then 1 else 0) < 2 ^ 40 by split <;> decide)
  omega
theorem and_mod (S j : Nat) : S &&& (2 ^ j - 1) = S % 2 ^ j := Nat.and_two_pow_sub_one_eq_mod S j
set_option maxHeartbeats 4000000 in
set_option maxRecDepth 100000 in
theorem c_TM_isWanted {l : Launch} {D : va_G} {t : Nat → ClassId} {w : wf_W} {sz : Nat} {how : Nat} {x y : Bool} (hh : how < 2 ^ 31) : Mi l y_TM_isWanted b_TM_isWanted 3 (some .boolean) 0 0 0 0 D t w sz [.int (nI how), .int (bI x), .int (bI y)] (fun r w' => r = (bI (wnt how x y)) ∧ w' = w) := by
  refine start_i (by decide) (Nat.le_of_ble_eq_true rfl) ?_
  intro p e s m below meth c ls H locs X hB hl
  have hx := X.1
  have hb := X.2.1
  have hl : lv_has ls 3 [(0, .int (nI how)), (1, .int (bI x)), (2, .int (bI y))] := hl
  refine lv_iload_n hx hb d_TM_isWanted_0 rfl (lv_at hl 0 rfl) ?_
  by_cases hs1_0 : how = 0
  · refine lv_tableIn (off := 27) (tgt := 28) hx hb d_TM_isWanted_1 (by rw [nI_toInt (by omega)]; omega) (by rw [nI_toInt (by omega)]; omega) (by rw [nI_toInt (by omega)]; rw [hs1_0]; decide) (by decide) ?_
    refine lv_iload_n hx hb d_TM_isWanted_28 rfl (lv_at hl 1 rfl) ?_
    refine wf_beq (tgt := 40) hx hb d_TM_isWanted_29 (by decide) (fun c_29 => ?_) (fun c_29 => ?_)
    · refine lv_iconst (v := nI 0) hx hb d_TM_isWanted_40 (by decide) ?_
      refine wf_ti (y := bI false) rfl ?_
      refine ret_z X hB d_TM_isWanted_41 ?_
      exact ⟨congrArg bI (by unfold wnt; simp_all), rfl⟩
    · refine lv_iload_n hx hb d_TM_isWanted_32 rfl (lv_at hl 2 rfl) ?_
      refine wf_beq (tgt := 40) hx hb d_TM_isWanted_33 (by decide) (fun c_33 => ?_) (fun c_33 => ?_)
      · refine lv_iconst (v := nI 0) hx hb d_TM_isWanted_40 (by decide) ?_
        refine wf_ti (y := bI false) rfl ?_
        refine ret_z X hB d_TM_isWanted_41 ?_
        exact ⟨congrArg bI (by unfold wnt; simp_all), rfl⟩
      · refine lv_iconst (v := nI 1) hx hb d_TM_isWanted_36 (by decide) ?_
        refine lv_goto (tgt := 41) hx hb d_TM_isWanted_37 (by decide) ?_
        refine wf_ti (y := bI true) rfl ?_
        refine ret_z X hB d_TM_isWanted_41 ?_
        exact ⟨congrArg bI (by unfold wnt; simp_all), rfl⟩
  by_cases hs1_1 : how = 1
  · refine lv_tableIn (off := 41) (tgt := 42) hx hb d_TM_isWanted_1 (by rw [nI_toInt (by omega)]; omega) (by rw [nI_toInt (by omega)]; omega) (by rw [nI_toInt (by omega)]; rw [hs1_1]; decide) (by decide) ?_
    refine lv_iload_n hx hb d_TM_isWanted_42 rfl (lv_at hl 1 rfl) ?_
    refine wf_bne (tgt := 50) hx hb d_TM_isWanted_43 (by decide) (fun c_43 => ?_) (fun c_43 => ?_)
    · refine lv_iconst (v := nI 1) hx hb d_TM_isWanted_50 (by decide) ?_
      refine lv_goto (tgt := 55) hx hb d_TM_isWanted_51 (by decide) ?_
      refine wf_ti (y := bI true) rfl ?_
      refine ret_z X hB d_TM_isWanted_55 ?_
      exact ⟨congrArg bI (by unfold wnt; simp_all), rfl⟩
    · refine lv_iload_n hx hb d_TM_isWanted_46 rfl (lv_at hl 2 rfl) ?_
      refine wf_beq (tgt := 54) hx hb d_TM_isWanted_47 (by decide) (fun c_47 => ?_) (fun c_47 => ?_)
      · refine lv_iconst (v := nI 0) hx hb d_TM_isWanted_54 (by decide) ?_
        refine wf_ti (y := bI false) rfl ?_
        refine ret_z X hB d_TM_isWanted_55 ?_
        exact ⟨congrArg bI (by unfold wnt; simp_all), rfl⟩
      · refine lv_iconst (v := nI 1) hx hb d_TM_isWanted_50 (by decide) ?_
        refine lv_goto (tgt := 55) hx hb d_TM_isWanted_51 (by decide) ?_
        refine wf_ti (y := bI true) rfl ?_
        refine ret_z X hB d_TM_isWanted_55 ?_
        exact ⟨congrArg bI (by unfold wnt; simp_all), rfl⟩
  by_cases hs1_2 : how = 2
  · refine lv_tableIn (off := 55) (tgt := 56) hx hb d_TM_isWanted_1 (by rw [nI_toInt (by omega)]; omega) (by rw [nI_toInt (by omega)]; omega) (by rw [nI_toInt (by omega)]; rw [hs1_2]; decide) (by decide) ?_
    refine lv_iload_n hx hb d_TM_isWanted_56 rfl (lv_at hl 1 rfl) ?_
    refine wf_beq (tgt := 68) hx hb d_TM_isWanted_57 (by decide) (fun c_57 => ?_) (fun c_57 => ?_)
    · refine lv_iconst (v := nI 0) hx hb d_TM_isWanted_68 (by decide) ?_
      refine wf_ti (y := bI false) rfl ?_
      refine ret_z X hB d_TM_isWanted_69 ?_
      exact ⟨congrArg bI (by unfold wnt; simp_all), rfl⟩
    · refine lv_iload_n hx hb d_TM_isWanted_60 rfl (lv_at hl 2 rfl) ?_
      refine wf_bne (tgt := 68) hx hb d_TM_isWanted_61 (by decide) (fun c_61 => ?_) (fun c_61 => ?_)
      · refine lv_iconst (v := nI 0) hx hb d_TM_isWanted_68 (by decide) ?_
        refine wf_ti (y := bI false) rfl ?_
        refine ret_z X hB d_TM_isWanted_69 ?_
        exact ⟨congrArg bI (by unfold wnt; simp_all), rfl⟩
      · refine lv_iconst (v := nI 1) hx hb d_TM_isWanted_64 (by decide) ?_
        refine lv_goto (tgt := 69) hx hb d_TM_isWanted_65 (by decide) ?_
        refine wf_ti (y := bI true) rfl ?_
        refine ret_z X hB d_TM_isWanted_69 ?_
        exact ⟨congrArg bI (by unfold wnt; simp_all), rfl⟩
  refine lv_tableOut (tgt := 70) hx hb d_TM_isWanted_1 (by rw [nI_toInt (by omega)]; omega) (by decide) ?_
  refine lv_iload_n hx hb d_TM_isWanted_70 rfl (lv_at hl 1 rfl) ?_
  refine lv_iload_n hx hb d_TM_isWanted_71 rfl (lv_at hl 2 rfl) ?_
  refine wf_ceq (tgt := 79) hx hb d_TM_isWanted_72 (by decide) rfl rfl (fun c_72 => ?_) (fun c_72 => ?_)
  · refine lv_iconst (v := nI 0) hx hb d_TM_isWanted_79 (by decide) ?_
    refine wf_ti (y := bI false) rfl ?_
    refine ret_z X hB d_TM_isWanted_80 ?_
    exact ⟨congrArg bI (by unfold wnt; rw [if_neg (by omega), if_neg (by omega), if_neg (by omega)]; revert c_72; cases x <;> cases y <;> decide), rfl⟩
  · refine lv_iconst (v := nI 1) hx hb d_TM_isWanted_75 (by decide) ?_
    refine lv_goto (tgt := 80) hx hb d_TM_isWanted_76 (by decide) ?_
    refine wf_ti (y := bI true) rfl ?_
    refine ret_z X hB d_TM_isWanted_80 ?_
    exact ⟨congrArg bI (by unfold wnt; rw [if_neg (by omega), if_neg (by omega), if_neg (by omega)]; revert c_72; cases x <;> cases y <;> decide), rfl⟩
set_option maxHeartbeats 4000000 in
set_option maxRecDepth 100000 in
theorem c_Pai_first {l : Launch} {D : va_G} {t : Nat → ClassId} {w : wf_W} {sz : Nat} {u how h o : Nat} (hu : w u = some (.inr (6, [.int (nI how), .ref h, .ref o]))) : Ml l y_Pai_first b_Pai_first 1 (some .long) 0 0 0 0 D t w sz [.ref u] (fun r w' => r = (lN 0) ∧ w' = w) := by
  refine start_l (by decide) (Nat.le_of_ble_eq_true rfl) ?_
  intro p e s m below meth c ls H locs X hB hl
  have hx := X.1
  have hb := X.2.1
  have hl : lv_has ls 1 [(0, .ref u)] := hl
  refine lv_lconst (v := lN 0) hx hb d_Pai_first_0 (by decide) ?_
  refine ret_l X hB d_Pai_first_1 ?_
  exact ⟨rfl, rfl⟩
set_option maxHeartbeats 4000000 in
set_option maxRecDepth 100000 in
theorem c_Pai_after {l : Launch} {D : va_G} {t : Nat → ClassId} {w : wf_W} {sz : Nat} {u how h hs k n E o os n2 E2 : Nat} {f f2 : Nat → Int32} {st st2 : Nat → Nat → Nat} {S a : Nat} (hu : w u = some (.inr (6, [.int (nI how), .ref h, .ref o]))) (hM : w h = some (.inr (1, [.int (nI k), .ref hs, .int (nI n), .long (lN E)]))) (hF : w hs = some (.inl (t 0, 40, .inl (pkA f)))) (hM2 : w o = some (.inr (1, [.int (nI k), .ref os, .int (nI n2), .long (lN E2)]))) (hF2 : w os = some (.inl (t 0, 40, .inl (pkA f2)))) (hm : mOK k n E f st) (hm2 : mOK k n2 E2 f2 st2) (hS : S < 2 ^ 31) (ha : a < k) : Ml l y_Pai_after b_Pai_after 6 (some .long) 2 44 0 0 D t w sz [.ref u, .long (lN S), .int (nI a)] (fun r w' => r = (lN (pAf k n st n2 st2 S a)) ∧ w' = w) := by
  refine start_l (by decide) (Nat.le_of_ble_eq_true rfl) ?_
  intro p e s m below meth c ls H locs X hB hl
  have hx := X.1
  have hb := X.2.1
  have hl : lv_has ls 6 [(0, .ref u), (1, .long (lN S)), (3, .int (nI a))] := hl
  have hk := hm.1
  have hn := hm.2.1
  have hE := hm.E40
  have hn2 := hm2.2.1
  have hE2 := hm2.E40
  refine lv_aload_n hx hb d_Pai_after_0 rfl (lv_at hl 0 rfl) ?_
  refine rget X hB  i_Pai hu cl_Pai 1 (by decide) k_565 rfl rfl d_Pai_after_1 ?_
  refine lv_lload_n hx hb d_Pai_after_4 rfl (lv_at hl 1 rfl) ?_
  refine lv_bipush (v := nI 6) hx hb d_Pai_after_5 (by decide) ?_
  refine lv_lushr (v := lN (S / 2 ^ 6)) hx hb d_Pai_after_7 (wb_shr (by omega) (by decide)) ?_
  refine wf_tl (y := lN (S / 64)) (by rfl) ?_
  refine lv_l2i (v := nI (S / 64)) hx hb d_Pai_after_8 (lN_i _) ?_
  refine lv_iload_n hx hb d_Pai_after_9 rfl (lv_at hl 2 rfl) ?_
  refine callVi (As := [.int (nI (S / 64)), .int (nI a)]) (rest := []) X hB wf_hA (c_Mac_step (l := l) (D := D) (t := t) (w := w) (sz := H.size) (h := h) (hs := hs) (k := k) (n := n) (E := E) (f := f) (st := st) (u := S / 64) (a := a) hM hF (by exact hm) (by omega) (by omega)) k_459 k_434 k_435 k_67 k_436 hM cl_Mac rfl hd_Mac_step ⟨Nat.le_of_ble_eq_true rfl, Nat.le_of_ble_eq_true rfl⟩ ⟨Nat.le_of_ble_eq_true rfl, Nat.le_of_ble_eq_true rfl⟩ hl.1 (Nat.le_of_ble_eq_true rfl) d_Pai_after_10 rfl (fun r_10 w1 H locs hp hB => ?_)
  obtain ⟨rfl, hw_10⟩ := hp
  have hB : wf_B D wcl (wf_A w s.heap.size) s.heap w H locs := wf_Bto hw_10 hB
  refine lv_i2l (v := lN (stp k n st (S / 64) a)) hx hb d_Pai_after_13 (nI_l (by have := stp_lt hm (S / 64) a; omega)) ?_
  refine lv_lstore (lv' := [(4, .long (lN (stp k n st (S / 64) a))), (0, .ref u), (1, .long (lN S)), (3, .int (nI a))]) hx hb d_Pai_after_14 hl (by decide) rfl (fun ls hl => ?_)
  refine lv_lload hx hb d_Pai_after_16 (lv_at hl 0 rfl) ?_
  refine lv_bipush (v := nI 6) hx hb d_Pai_after_18 (by decide) ?_
  refine lv_lshl (v := lN ((stp k n st (S / 64) a) * 2 ^ 6)) hx hb d_Pai_after_20 (wb_shl _ (by decide)) ?_
  refine lv_aload_n hx hb d_Pai_after_21 rfl (lv_at hl 1 rfl) ?_
  refine rget X hB  i_Pai hu cl_Pai 2 (by decide) k_566 rfl rfl d_Pai_after_22 ?_
  refine lv_lload_n hx hb d_Pai_after_25 rfl (lv_at hl 2 rfl) ?_
  refine lv_ldc2 (own := R_Pai) hx hb X.2.2.1 (X.2.2.2.2.1.2 _ k_417 _) d_Pai_after_26 ?_
  refine wf_tl (y := lN 63) (by decide) ?_
  refine lv_land hx hb d_Pai_after_29 ?_
  refine wf_tl (y := lN (S &&& 63)) (wb_and (by omega) (by decide)) ?_
  refine wf_tl (y := lN (S % 64)) (by exact congrArg lN (and_mod S 6)) ?_
  refine lv_l2i (v := nI (S % 64)) hx hb d_Pai_after_30 (lN_i _) ?_
  refine lv_iload_n hx hb d_Pai_after_31 rfl (lv_at hl 3 rfl) ?_
  refine callVi (As := [.int (nI (S % 64)), .int (nI a)]) (rest := [.long (lN ((stp k n st (S / 64) a) * 2 ^ 6))]) X hB wf_hA (c_Mac_step (l := l) (D := D) (t := t) (w := w) (sz := H.size) (h := o) (hs := os) (k := k) (n := n2) (E := E2) (f := f2) (st := st2) (u := S % 64) (a := a) hM2 hF2 (by exact hm2) (by omega) (by omega)) k_459 k_434 k_435 k_67 k_436 hM2 cl_Mac rfl hd_Mac_step ⟨Nat.le_of_ble_eq_true rfl, Nat.le_of_ble_eq_true rfl⟩ ⟨Nat.le_of_ble_eq_true rfl, Nat.le_of_ble_eq_true rfl⟩ hl.1 (Nat.le_of_ble_eq_true rfl) d_Pai_after_32 rfl (fun r_32 w1 H locs hp hB => ?_)
  obtain ⟨rfl, hw_32⟩ := hp
  have hB : wf_B D wcl (wf_A w s.heap.size) s.heap w H locs := wf_Bto hw_32 hB
  refine lv_i2l (v := lN (stp k n2 st2 (S % 64) a)) hx hb d_Pai_after_35 (nI_l (by have := stp_lt hm2 (S % 64) a; omega)) ?_
  refine lv_lor hx hb d_Pai_after_36 ?_
  refine wf_tl (y := lN (((stp k n st (S / 64) a) * 2 ^ 6) ||| (stp k n2 st2 (S % 64) a))) (wb_or (by have := stp_lt hm (S / 64) a; omega) (by have := stp_lt hm2 (S % 64) a; omega)) ?_
  refine wf_tl (y := lN (pAf k n st n2 st2 S a)) (by exact congrArg lN (or_add (j := 6) (by have := stp_lt hm2 (S % 64) a; omega))) ?_
  refine ret_l X hB d_Pai_after_37 ?_
  exact ⟨rfl, rfl⟩
set_option maxHeartbeats 4000000 in
set_option maxRecDepth 100000 in
theorem c_Pai_isLast {l : Launch} {D : va_G} {t : Nat → ClassId} {w : wf_W} {sz : Nat} {u how h hs k n E o os n2 E2 : Nat} {S : Nat} (hu : w u = some (.inr (6, [.int (nI how), .ref h, .ref o]))) (hM : w h = some (.inr (1, [.int (nI k), .ref hs, .int (nI n), .long (lN E)]))) (hM2 : w o = some (.inr (1, [.int (nI k), .ref os, .int (nI n2), .long (lN E2)]))) (hh : how < 2 ^ 31) (hn : n ≤ 40) (hn2 : n2 ≤ 40) (hE : E < 2 ^ 40) (hE2 : E2 < 2 ^ 40) (hS : S < 2 ^ 31) : Mi l y_Pai_isLast b_Pai_isLast 3 (some .boolean) 2 43 0 0 D t w sz [.ref u, .long (lN S)] (fun r w' => r = (bI (wnt how (inE n E (S / 64)) (inE n2 E2 (S % 64)))) ∧ w' = w) := by
  refine start_i (by decide) (Nat.le_of_ble_eq_true rfl) ?_
  intro p e s m below meth c ls H locs X hB hl
  have hx := X.1
  have hb := X.2.1
  have hl : lv_has ls 3 [(0, .ref u), (1, .long (lN S))] := hl
  refine lv_aload_n hx hb d_Pai_isLast_0 rfl (lv_at hl 0 rfl) ?_
  refine rget X hB  i_Pai hu cl_Pai 0 (by decide) k_564 rfl rfl d_Pai_isLast_1 ?_
  refine lv_aload_n hx hb d_Pai_isLast_4 rfl (lv_at hl 0 rfl) ?_
  refine rget X hB  i_Pai hu cl_Pai 1 (by decide) k_565 rfl rfl d_Pai_isLast_5 ?_
  refine lv_lload_n hx hb d_Pai_isLast_8 rfl (lv_at hl 1 rfl) ?_
  refine lv_bipush (v := nI 6) hx hb d_Pai_isLast_9 (by decide) ?_
  refine lv_lushr (v := lN (S / 2 ^ 6)) hx hb d_Pai_isLast_11 (wb_shr (by omega) (by decide)) ?_
  refine wf_tl (y := lN (S / 64)) (by rfl) ?_
  refine lv_l2i (v := nI (S / 64)) hx hb d_Pai_isLast_12 (lN_i _) ?_
  refine callVi (As := [.int (nI (S / 64))]) (rest := [.int (nI how)]) X hB wf_hA (c_Mac_isEnd (l := l) (D := D) (t := t) (w := w) (sz := H.size) (h := h) (hs := hs) (k := k) (n := n) (E := E) (u := S / 64) hM (by exact hn) (by exact hE) (by omega)) k_416 k_374 k_375 k_67 k_376 hM cl_Mac rfl hd_Mac_isEnd ⟨Nat.le_of_ble_eq_true rfl, Nat.le_of_ble_eq_true rfl⟩ ⟨Nat.le_of_ble_eq_true rfl, Nat.le_of_ble_eq_true rfl⟩ hl.1 (Nat.le_of_ble_eq_true rfl) d_Pai_isLast_13 rfl (fun r_13 w1 H locs hp hB => ?_)
  obtain ⟨rfl, hw_13⟩ := hp
  have hB : wf_B D wcl (wf_A w s.heap.size) s.heap w H locs := wf_Bto hw_13 hB
  refine lv_aload_n hx hb d_Pai_isLast_16 rfl (lv_at hl 0 rfl) ?_
  refine rget X hB  i_Pai hu cl_Pai 2 (by decide) k_566 rfl rfl d_Pai_isLast_17 ?_
  refine lv_lload_n hx hb d_Pai_isLast_20 rfl (lv_at hl 1 rfl) ?_
  refine lv_ldc2 (own := R_Pai) hx hb X.2.2.1 (X.2.2.2.2.1.2 _ k_417 _) d_Pai_isLast_21 ?_
  refine wf_tl (y := lN 63) (by decide) ?_
  refine lv_land hx hb d_Pai_isLast_24 ?_
  refine wf_tl (y := lN (S &&& 63)) (wb_and (by omega) (by decide)) ?_
  refine wf_tl (y := lN (S % 64)) (by exact congrArg lN (and_mod S 6)) ?_
  refine lv_l2i (v := nI (S % 64)) hx hb d_Pai_isLast_25 (lN_i _) ?_
  refine callVi (As := [.int (nI (S % 64))]) (rest := [.int (bI (decide ((S / 64) < n) && E.testBit (S / 64))), .int (nI how)]) X hB wf_hA (c_Mac_isEnd (l := l) (D := D) (t := t) (w := w) (sz := H.size) (h := o) (hs := os) (k := k) (n := n2) (E := E2) (u := S % 64) hM2 (by exact hn2) (by exact hE2) (by omega)) k_416 k_374 k_375 k_67 k_376 hM2 cl_Mac rfl hd_Mac_isEnd ⟨Nat.le_of_ble_eq_true rfl, Nat.le_of_ble_eq_true rfl⟩ ⟨Nat.le_of_ble_eq_true rfl, Nat.le_of_ble_eq_true rfl⟩ hl.1 (Nat.le_of_ble_eq_true rfl) d_Pai_isLast_26 rfl (fun r_26 w1 H locs hp hB => ?_)
  obtain ⟨rfl, hw_26⟩ := hp
  have hB : wf_B D wcl (wf_A w s.heap.size) s.heap w H locs := wf_Bto hw_26 hB
  refine callTi (As := [.int (nI how), .int (bI (decide ((S / 64) < n) && E.testBit (S / 64))), .int (bI (decide ((S % 64) < n2) && E2.testBit (S % 64)))]) (rest := []) X hB wf_hA (c_TM_isWanted (l := l) (D := D) (t := t) (w := w) (sz := H.size) (how := how) (x := decide ((S / 64) < n) && E.testBit (S / 64)) (y := decide ((S % 64) < n2) && E2.testBit (S % 64)) (by exact hh)) k_418 k_419 k_64 k_420 hd_TM_isWanted ⟨Nat.le_of_ble_eq_true rfl, Nat.le_of_ble_eq_true rfl⟩ ⟨Nat.le_of_ble_eq_true rfl, Nat.le_of_ble_eq_true rfl⟩ hl.1 (Nat.le_of_ble_eq_true rfl) d_Pai_isLast_29 rfl (fun r_29 w1 H locs hp hB => ?_)
  obtain ⟨rfl, hw_29⟩ := hp
  have hB : wf_B D wcl (wf_A w s.heap.size) s.heap w H locs := wf_Bto hw_29 hB
  refine ret_z X hB d_Pai_isLast_32 ?_
  exact ⟨rfl, rfl⟩
set_option maxHeartbeats 4000000 in
set_option maxRecDepth 100000 in
theorem c_Joi_placeOf {l : Launch} {D : va_G} {t : Nat → ClassId} {w : wf_W} {sz : Nat} {u h hs k n E o : Nat} {v T : Nat} (hu : w u = some (.inr (7, [.ref h, .ref o]))) (hM : w h = some (.inr (1, [.int (nI k), .ref hs, .int (nI n), .long (lN E)]))) (hn : n ≤ 40) (hE : E < 2 ^ 40) (hv : v < 40) (hT : T < 2 ^ 40) : Ml l y_Joi_placeOf b_Joi_placeOf 4 (some .long) 2 43 0 0 D t w sz [.ref u, .int (nI v), .long (lN T)] (fun r w' => r = (lN (jPl n E v T)) ∧ w' = w) := by
  refine start_l (by decide) (Nat.le_of_ble_eq_true rfl) ?_
  intro p e s m below meth c ls H locs X hB hl
  have hx := X.1
  have hb := X.2.1
  have hl : lv_has ls 4 [(0, .ref u), (1, .int (nI v)), (2, .long (lN T))] := hl
  refine lv_iload_n hx hb d_Joi_placeOf_0 rfl (lv_at hl 1 rfl) ?_
  refine lv_i2l (v := lN v) hx hb d_Joi_placeOf_1 (nI_l (by omega)) ?_
  refine lv_bipush (v := nI 40) hx hb d_Joi_placeOf_2 (by decide) ?_
  refine lv_lshl (v := lN (v * 2 ^ 40)) hx hb d_Joi_placeOf_4 (wb_shl _ (by decide)) ?_
  refine lv_lload_n hx hb d_Joi_placeOf_5 rfl (lv_at hl 2 rfl) ?_
  refine lv_lor hx hb d_Joi_placeOf_6 ?_
  refine wf_tl (y := lN ((v * 2 ^ 40) ||| T)) (wb_or (by omega) (by omega)) ?_
  refine lv_aload_n hx hb d_Joi_placeOf_7 rfl (lv_at hl 0 rfl) ?_
  refine rget X hB  i_Joi hu cl_Joi 0 (by decide) k_592 rfl rfl d_Joi_placeOf_8 ?_
  refine lv_iload_n hx hb d_Joi_placeOf_11 rfl (lv_at hl 1 rfl) ?_
  refine callVi (As := [.int (nI v)]) (rest := [.long (lN ((v * 2 ^ 40) ||| T))]) X hB wf_hA (c_Mac_isEnd (l := l) (D := D) (t := t) (w := w) (sz := H.size) (h := h) (hs := hs) (k := k) (n := n) (E := E) (u := v) hM (by exact hn) (by exact hE) (by omega)) k_373 k_374 k_375 k_67 k_376 hM cl_Mac rfl hd_Mac_isEnd ⟨Nat.le_of_ble_eq_true rfl, Nat.le_of_ble_eq_true rfl⟩ ⟨Nat.le_of_ble_eq_true rfl, Nat.le_of_ble_eq_true rfl⟩ hl.1 (Nat.le_of_ble_eq_true rfl) d_Joi_placeOf_12 rfl (fun r_12 w1 H locs hp hB => ?_)
  obtain ⟨rfl, hw_12⟩ := hp
  have hB : wf_B D wcl (wf_A w s.heap.size) s.heap w H locs := wf_Bto hw_12 hB
  refine wf_beq (tgt := 22) hx hb d_Joi_placeOf_15 (by decide) (fun c_15 => ?_) (fun c_15 => ?_)
  · refine lv_lconst (v := lN 0) hx hb d_Joi_placeOf_22 (by decide) ?_
    refine lv_lor hx hb d_Joi_placeOf_23 ?_
    refine wf_tl (y := lN (((v * 2 ^ 40) ||| T) ||| 0)) (wb_or (by have := or_add (x := v) hT; omega) (by decide)) ?_
    refine wf_tl (y := lN (jPl n E v T)) (by exact congrArg lN (jPl_eq hT (by rw [show inE n E v = (decide (v < n) && E.testBit v) from rfl, c_15]; rfl))) ?_
    refine ret_l X hB d_Joi_placeOf_24 ?_
    exact ⟨rfl, rfl⟩
  · refine lv_lconst (v := lN 1) hx hb d_Joi_placeOf_18 (by decide) ?_
    refine lv_goto (tgt := 23) hx hb d_Joi_placeOf_19 (by decide) ?_
    refine lv_lor hx hb d_Joi_placeOf_23 ?_
    refine wf_tl (y := lN (((v * 2 ^ 40) ||| T) ||| 1)) (wb_or (by have := or_add (x := v) hT; omega) (by decide)) ?_
    refine wf_tl (y := lN (jPl n E v T)) (by exact congrArg lN (jPl_eq hT (by rw [show inE n E v = (decide (v < n) && E.testBit v) from rfl, c_15]; rfl))) ?_
    refine ret_l X hB d_Joi_placeOf_24 ?_
    exact ⟨rfl, rfl⟩
set_option maxHeartbeats 4000000 in
set_option maxRecDepth 100000 in
theorem c_Joi_first {l : Launch} {D : va_G} {t : Nat → ClassId} {w : wf_W} {sz : Nat} {u h hs k n E o : Nat} (hu : w u = some (.inr (7, [.ref h, .ref o]))) (hM : w h = some (.inr (1, [.int (nI k), .ref hs, .int (nI n), .long (lN E)]))) (hn : n ≤ 40) (hE : E < 2 ^ 40) : Ml l y_Joi_first b_Joi_first 1 (some .long) 3 66 0 0 D t w sz [.ref u] (fun r w' => r = (lN (jPl n E 0 0)) ∧ w' = w) := by
  refine start_l (by decide) (Nat.le_of_ble_eq_true rfl) ?_
  intro p e s m below meth c ls H locs X hB hl
  have hx := X.1
  have hb := X.2.1
  have hl : lv_has ls 1 [(0, .ref u)] := hl
  refine lv_aload_n hx hb d_Joi_first_0 rfl (lv_at hl 0 rfl) ?_
  refine lv_iconst (v := nI 0) hx hb d_Joi_first_1 (by decide) ?_
  refine lv_lconst (v := lN 0) hx hb d_Joi_first_2 (by decide) ?_
  refine callVl (As := [.int (nI 0), .long (lN 0)]) (rest := []) X hB wf_hA (c_Joi_placeOf (l := l) (D := D) (t := t) (w := w) (sz := H.size) (u := u) (h := h) (hs := hs) (k := k) (n := n) (E := E) (o := o) (v := 0) (T := 0) hu hM (by exact hn) (by exact hE) (by omega) (by omega)) k_368 k_370 k_2 k_78 k_372 hu cl_Joi rfl hd_Joi_placeOf ⟨Nat.le_of_ble_eq_true rfl, Nat.le_of_ble_eq_true rfl⟩ ⟨Nat.le_of_ble_eq_true rfl, Nat.le_of_ble_eq_true rfl⟩ hl.1 (Nat.le_of_ble_eq_true rfl) d_Joi_first_3 rfl (fun r_3 w1 H locs hp hB => ?_)
  obtain ⟨rfl, hw_3⟩ := hp
  have hB : wf_B D wcl (wf_A w s.heap.size) s.heap w H locs := wf_Bto hw_3 hB
  refine ret_l X hB d_Joi_first_6 ?_
  exact ⟨rfl, rfl⟩
set_option maxHeartbeats 4000000 in
set_option maxRecDepth 100000 in
theorem c_Joi_after {l : Launch} {D : va_G} {t : Nat → ClassId} {w : wf_W} {sz : Nat} {u h hs k n E o os n2 E2 : Nat} {f f2 : Nat → Int32} {st st2 : Nat → Nat → Nat} {S a : Nat} (hu : w u = some (.inr (7, [.ref h, .ref o]))) (hM : w h = some (.inr (1, [.int (nI k), .ref hs, .int (nI n), .long (lN E)]))) (hF : w hs = some (.inl (t 0, 40, .inl (pkA f)))) (hM2 : w o = some (.inr (1, [.int (nI k), .ref os, .int (nI n2), .long (lN E2)]))) (hF2 : w os = some (.inl (t 0, 40, .inl (pkA f2)))) (hm : mOK k n E f st) (hm2 : mOK k n2 E2 f2 st2) (hS : S < 2 ^ 60) (ha : a < k) : Ml l y_Joi_after b_Joi_after 4 (some .long) 3 70 0 0 D t w sz [.ref u, .long (lN S), .int (nI a)] (fun r w' => r = (lN (jPl n E (stp k n st (S / 1099511627776) a) (aft (stp k n2 st2) (S % 1099511627776) a n2))) ∧ w' = w) := by
  refine start_l (by decide) (Nat.le_of_ble_eq_true rfl) ?_
  intro p e s m below meth c ls H locs X hB hl
  have hx := X.1
  have hb := X.2.1
  have hl : lv_has ls 4 [(0, .ref u), (1, .long (lN S)), (3, .int (nI a))] := hl
  have hk := hm.1
  have hn := hm.2.1
  have hE := hm.E40
  have hn2 := hm2.2.1
  have hE2 := hm2.E40
  refine lv_aload_n hx hb d_Joi_after_0 rfl (lv_at hl 0 rfl) ?_
  refine lv_aload_n hx hb d_Joi_after_1 rfl (lv_at hl 0 rfl) ?_
  refine rget X hB  i_Joi hu cl_Joi 0 (by decide) k_592 rfl rfl d_Joi_after_2 ?_
  refine lv_lload_n hx hb d_Joi_after_5 rfl (lv_at hl 1 rfl) ?_
  refine lv_bipush (v := nI 40) hx hb d_Joi_after_6 (by decide) ?_
  refine lv_lushr (v := lN (S / 2 ^ 40)) hx hb d_Joi_after_8 (wb_shr (by omega) (by decide)) ?_
  refine wf_tl (y := lN (S / 1099511627776)) (by rfl) ?_
  refine lv_l2i (v := nI (S / 1099511627776)) hx hb d_Joi_after_9 (lN_i _) ?_
  refine lv_iload_n hx hb d_Joi_after_10 rfl (lv_at hl 2 rfl) ?_
  refine callVi (As := [.int (nI (S / 1099511627776)), .int (nI a)]) (rest := [.ref u]) X hB wf_hA (c_Mac_step (l := l) (D := D) (t := t) (w := w) (sz := H.size) (h := h) (hs := hs) (k := k) (n := n) (E := E) (f := f) (st := st) (u := S / 1099511627776) (a := a) hM hF (by exact hm) (by omega) (by omega)) k_433 k_434 k_435 k_67 k_436 hM cl_Mac rfl hd_Mac_step ⟨Nat.le_of_ble_eq_true rfl, Nat.le_of_ble_eq_true rfl⟩ ⟨Nat.le_of_ble_eq_true rfl, Nat.le_of_ble_eq_true rfl⟩ hl.1 (Nat.le_of_ble_eq_true rfl) d_Joi_after_11 rfl (fun r_11 w1 H locs hp hB => ?_)
  obtain ⟨rfl, hw_11⟩ := hp
  have hB : wf_B D wcl (wf_A w s.heap.size) s.heap w H locs := wf_Bto hw_11 hB
  refine lv_aload_n hx hb d_Joi_after_14 rfl (lv_at hl 0 rfl) ?_
  refine rget X hB  i_Joi hu cl_Joi 1 (by decide) k_593 rfl rfl d_Joi_after_15 ?_
  refine lv_lload_n hx hb d_Joi_after_18 rfl (lv_at hl 1 rfl) ?_
  refine lv_ldc2 (own := R_Joi) hx hb X.2.2.1 (X.2.2.2.2.1.2 _ k_398 _) d_Joi_after_19 ?_
  refine wf_tl (y := lN 1099511627775) (by decide) ?_
  refine lv_land hx hb d_Joi_after_22 ?_
  refine wf_tl (y := lN (S &&& 1099511627775)) (wb_and (by omega) (by decide)) ?_
  refine wf_tl (y := lN (S % 1099511627776)) (by exact congrArg lN (and_mod S 40)) ?_
  refine lv_iload_n hx hb d_Joi_after_23 rfl (lv_at hl 2 rfl) ?_
  refine callVl (As := [.long (lN (S % 1099511627776)), .int (nI a)]) (rest := [.int (nI (stp k n st (S / 1099511627776) a)), .ref u]) X hB wf_hA (c_Mac_after (l := l) (D := D) (t := t) (w := w) (sz := H.size) (h := o) (hs := os) (k := k) (n := n2) (E := E2) (f := f2) (st := st2) (S := S % 1099511627776) (a := a) hM2 hF2 (by exact hm2) (by omega) (by omega)) k_441 k_442 k_443 k_67 k_444 hM2 cl_Mac rfl hd_Mac_after ⟨Nat.le_of_ble_eq_true rfl, Nat.le_of_ble_eq_true rfl⟩ ⟨Nat.le_of_ble_eq_true rfl, Nat.le_of_ble_eq_true rfl⟩ hl.1 (Nat.le_of_ble_eq_true rfl) d_Joi_after_24 rfl (fun r_24 w1 H locs hp hB => ?_)
  obtain ⟨rfl, hw_24⟩ := hp
  have hB : wf_B D wcl (wf_A w s.heap.size) s.heap w H locs := wf_Bto hw_24 hB
  refine callVl (As := [.int (nI (stp k n st (S / 1099511627776) a)), .long (lN (aft (stp k n2 st2) (S % 1099511627776) a n2))]) (rest := []) X hB wf_hA (c_Joi_placeOf (l := l) (D := D) (t := t) (w := w) (sz := H.size) (u := u) (h := h) (hs := hs) (k := k) (n := n) (E := E) (o := o) (v := stp k n st (S / 1099511627776) a) (T := aft (stp k n2 st2) (S % 1099511627776) a n2) hu hM (by omega) (by omega) (by have := stp_lt hm (S / 1099511627776) a; omega) (by exact aft_lt hm2 _ a n2)) k_368 k_370 k_2 k_78 k_372 hu cl_Joi rfl hd_Joi_placeOf ⟨Nat.le_of_ble_eq_true rfl, Nat.le_of_ble_eq_true rfl⟩ ⟨Nat.le_of_ble_eq_true rfl, Nat.le_of_ble_eq_true rfl⟩ hl.1 (Nat.le_of_ble_eq_true rfl) d_Joi_after_27 rfl (fun r_27 w1 H locs hp hB => ?_)
  obtain ⟨rfl, hw_27⟩ := hp
  have hB : wf_B D wcl (wf_A w s.heap.size) s.heap w H locs := wf_Bto hw_27 hB
  refine ret_l X hB d_Joi_after_30 ?_
  exact ⟨rfl, rfl⟩
set_option maxHeartbeats 4000000 in
set_option maxRecDepth 100000 in
theorem c_Joi_isLast {l : Launch} {D : va_G} {t : Nat → ClassId} {w : wf_W} {sz : Nat} {u h k o os n2 E2 : Nat} {S : Nat} (hu : w u = some (.inr (7, [.ref h, .ref o]))) (hM2 : w o = some (.inr (1, [.int (nI k), .ref os, .int (nI n2), .long (lN E2)]))) (hE2 : E2 < 2 ^ 40) (hS : S < 2 ^ 60) : Mi l y_Joi_isLast b_Joi_isLast 3 (some .boolean) 0 0 0 0 D t w sz [.ref u, .long (lN S)] (fun r w' => r = (bI (decide ((S % 1099511627776) &&& E2 ≠ 0))) ∧ w' = w) := by
  refine start_i (by decide) (Nat.le_of_ble_eq_true rfl) ?_
  intro p e s m below meth c ls H locs X hB hl
  have hx := X.1
  have hb := X.2.1
  have hl : lv_has ls 3 [(0, .ref u), (1, .long (lN S))] := hl
  refine lv_lload_n hx hb d_Joi_isLast_0 rfl (lv_at hl 1 rfl) ?_
  refine lv_ldc2 (own := R_Joi) hx hb X.2.2.1 (X.2.2.2.2.1.2 _ k_398 _) d_Joi_isLast_1 ?_
  refine wf_tl (y := lN 1099511627775) (by decide) ?_
  refine lv_land hx hb d_Joi_isLast_4 ?_
  refine wf_tl (y := lN (S &&& 1099511627775)) (wb_and (by omega) (by decide)) ?_
  refine wf_tl (y := lN (S % 1099511627776)) (by exact congrArg lN (and_mod S 40)) ?_
  refine lv_aload_n hx hb d_Joi_isLast_5 rfl (lv_at hl 0 rfl) ?_
  refine rget X hB  i_Joi hu cl_Joi 1 (by decide) k_593 rfl rfl d_Joi_isLast_6 ?_
  refine rgetN X hB  i_Mac hM2 cl_Mac 3 (by decide) k_126 rfl rfl d_Joi_isLast_9 ?_
  refine lv_land hx hb d_Joi_isLast_12 ?_
  refine wf_tl (y := lN ((S % 1099511627776) &&& E2)) (wb_and (by omega) (by omega)) ?_
  refine lv_lconst (v := lN 0) hx hb d_Joi_isLast_13 (by decide) ?_
  refine W.lcmp hx hb d_Joi_isLast_14 ?_
  refine wf_leq (tgt := 22) hx hb d_Joi_isLast_15 (by decide) (pk_lT (by have := Nat.and_le_right (n := S % 1099511627776) (m := E2); omega)) (pk_lT (by decide)) (fun c_15 => ?_) (fun c_15 => ?_)
  · refine lv_iconst (v := nI 0) hx hb d_Joi_isLast_22 (by decide) ?_
    refine wf_ti (y := bI false) rfl ?_
    refine ret_z X hB d_Joi_isLast_23 ?_
    exact ⟨congrArg bI (Bool.eq_iff_iff.mpr (by simp only [decide_eq_true_eq, Bool.false_eq_true, true_iff, false_iff]; omega)), rfl⟩
  · refine lv_iconst (v := nI 1) hx hb d_Joi_isLast_18 (by decide) ?_
    refine lv_goto (tgt := 23) hx hb d_Joi_isLast_19 (by decide) ?_
    refine wf_ti (y := bI true) rfl ?_
    refine ret_z X hB d_Joi_isLast_23 ?_
    exact ⟨congrArg bI (Bool.eq_iff_iff.mpr (by simp only [decide_eq_true_eq, Bool.false_eq_true, true_iff, false_iff]; omega)), rfl⟩
