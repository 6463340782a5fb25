/-! THE RULE OF SETS -/
def lOK (k : Nat) (G : Nat → Nat) (Ld : Nat → Nat → Nat) : Prop := ∀ u a, u ≤ 40 → a < k → G (u * 4 + a) = Ld u a ∧ Ld u a < 2 ^ 41
def sAf (Ld : Nat → Nat → Nat) (S a : Nat) : Nat → Nat
  | 0 => 0
  | i + 1 => if S.testBit i = true then sAf Ld S a i ||| Ld i a else sAf Ld S a i
theorem sAf_lt {k : Nat} {G : Nat → Nat} {Ld : Nat → Nat → Nat} (h : lOK k G Ld) {S a : Nat} (ha : a < k) : ∀ i, i ≤ 41 → sAf Ld S a i < 2 ^ 41
  | 0, _ => by simp [sAf]
  | i + 1, hi => by
    have ih := sAf_lt h (S := S) ha i (by omega)
    rw [sAf]
    split
    · exact Nat.or_lt_two_pow ih (h i a (by omega) ha).2
    · exact ih
set_option maxHeartbeats 4000000 in
set_option maxRecDepth 100000 in
theorem c_Set_hasLead {l : Launch} {D : va_G} {t : Nat → ClassId} {w : wf_W} {sz : Nat} {r rl rc rz k b en : Nat} {u a : Nat} (hS : w r = some (.inr (3, [.int (nI k), .ref rl, .ref rc, .ref rz, .long (lN b), .long (lN en)]))) (hk : k ≤ 4) (hu : u < 2 ^ 31) (ha : a < 2 ^ 31) : Mi l y_Set_hasLead b_Set_hasLead 3 (some .boolean) 0 0 0 0 D t w sz [.ref r, .int (nI u), .int (nI a)] (fun r w' => r = (bI (decide (u ≤ 40) && decide (a < k))) ∧ w' = w) := by
  refine start_i (by decide) (Nat.le_of_ble_eq_true rfl) ?_
  intro p e s m below meth c ls H locs X hB hl
  have hx := X.1
  have hb := X.2.1
  have hl : lv_has ls 3 [(0, .ref r), (1, .int (nI u)), (2, .int (nI a))] := hl
  refine lv_iload_n hx hb d_Set_hasLead_0 rfl (lv_at hl 1 rfl) ?_
  refine wf_zlt (tgt := 26) hx hb d_Set_hasLead_1 (by decide) (nI_toInt (by omega)) (fun c_1 => ?_) (fun c_1 => ?_)
  · refine lv_iconst (v := nI 0) hx hb d_Set_hasLead_26 (by decide) ?_
    refine wf_ti (y := bI false) rfl ?_
    refine ret_z X hB d_Set_hasLead_27 ?_
    refine ⟨congrArg bI (Bool.eq_iff_iff.mpr ?_), rfl⟩; simp only [Bool.and_eq_true, Bool.or_eq_true, Bool.not_eq_true', decide_eq_true_eq, decide_eq_false_iff_not, Bool.false_eq_true, true_iff, false_iff]; omega
  · refine lv_iload_n hx hb d_Set_hasLead_4 rfl (lv_at hl 1 rfl) ?_
    refine lv_bipush (v := nI 40) hx hb d_Set_hasLead_5 (by decide) ?_
    refine wf_cgt (tgt := 26) hx hb d_Set_hasLead_7 (by decide) (nI_toInt (by omega)) (nI_toInt (by omega)) (fun c_7 => ?_) (fun c_7 => ?_)
    · refine lv_iconst (v := nI 0) hx hb d_Set_hasLead_26 (by decide) ?_
      refine wf_ti (y := bI false) rfl ?_
      refine ret_z X hB d_Set_hasLead_27 ?_
      refine ⟨congrArg bI (Bool.eq_iff_iff.mpr ?_), rfl⟩; simp only [Bool.and_eq_true, Bool.or_eq_true, Bool.not_eq_true', decide_eq_true_eq, decide_eq_false_iff_not, Bool.false_eq_true, true_iff, false_iff]; omega
    · refine lv_iload_n hx hb d_Set_hasLead_10 rfl (lv_at hl 2 rfl) ?_
      refine wf_zlt (tgt := 26) hx hb d_Set_hasLead_11 (by decide) (nI_toInt (by omega)) (fun c_11 => ?_) (fun c_11 => ?_)
      · refine lv_iconst (v := nI 0) hx hb d_Set_hasLead_26 (by decide) ?_
        refine wf_ti (y := bI false) rfl ?_
        refine ret_z X hB d_Set_hasLead_27 ?_
        refine ⟨congrArg bI (Bool.eq_iff_iff.mpr ?_), rfl⟩; simp only [Bool.and_eq_true, Bool.or_eq_true, Bool.not_eq_true', decide_eq_true_eq, decide_eq_false_iff_not, Bool.false_eq_true, true_iff, false_iff]; omega
      · refine lv_iload_n hx hb d_Set_hasLead_14 rfl (lv_at hl 2 rfl) ?_
        refine lv_aload_n hx hb d_Set_hasLead_15 rfl (lv_at hl 0 rfl) ?_
        refine rget X hB  i_Set hS cl_Set 0 (by decide) k_181 rfl rfl d_Set_hasLead_16 ?_
        refine wf_cge (tgt := 26) hx hb d_Set_hasLead_19 (by decide) (nI_toInt (by omega)) (nI_toInt (by omega)) (fun c_19 => ?_) (fun c_19 => ?_)
        · refine lv_iconst (v := nI 0) hx hb d_Set_hasLead_26 (by decide) ?_
          refine wf_ti (y := bI false) rfl ?_
          refine ret_z X hB d_Set_hasLead_27 ?_
          refine ⟨congrArg bI (Bool.eq_iff_iff.mpr ?_), rfl⟩; simp only [Bool.and_eq_true, Bool.or_eq_true, Bool.not_eq_true', decide_eq_true_eq, decide_eq_false_iff_not, Bool.false_eq_true, true_iff, false_iff]; omega
        · refine lv_iconst (v := nI 1) hx hb d_Set_hasLead_22 (by decide) ?_
          refine lv_goto (tgt := 27) hx hb d_Set_hasLead_23 (by decide) ?_
          refine wf_ti (y := bI true) rfl ?_
          refine ret_z X hB d_Set_hasLead_27 ?_
          refine ⟨congrArg bI (Bool.eq_iff_iff.mpr ?_), rfl⟩; simp only [Bool.and_eq_true, Bool.or_eq_true, Bool.not_eq_true', decide_eq_true_eq, decide_eq_false_iff_not, Bool.false_eq_true, true_iff, false_iff]; omega
set_option maxHeartbeats 4000000 in
set_option maxRecDepth 100000 in
theorem c_Set_lead {l : Launch} {D : va_G} {t : Nat → ClassId} {w : wf_W} {sz : Nat} {r rl rc rz k b en : Nat} {G : Nat → Nat} {Ld : Nat → Nat → Nat} {u a : Nat} (hS : w r = some (.inr (3, [.int (nI k), .ref rl, .ref rc, .ref rz, .long (lN b), .long (lN en)]))) (hL : w rl = some (.inl (t 1, 164, .inr (.inl (lA G))))) (hk : k ≤ 4) (hLd : lOK k G Ld) (hu : u ≤ 40) (ha : a < k) : Ml l y_Set_lead b_Set_lead 3 (some .long) 1 22 0 0 D t w sz [.ref r, .int (nI u), .int (nI a)] (fun r w' => r = (lN (Ld u a)) ∧ w' = w) := by
  refine start_l (by decide) (Nat.le_of_ble_eq_true rfl) ?_
  intro p e s m below meth c ls H locs X hB hl
  have hx := X.1
  have hb := X.2.1
  have hl : lv_has ls 3 [(0, .ref r), (1, .int (nI u)), (2, .int (nI a))] := hl
  refine lv_aload_n hx hb d_Set_lead_0 rfl (lv_at hl 0 rfl) ?_
  refine lv_iload_n hx hb d_Set_lead_1 rfl (lv_at hl 1 rfl) ?_
  refine lv_iload_n hx hb d_Set_lead_2 rfl (lv_at hl 2 rfl) ?_
  refine callVi (As := [.int (nI u), .int (nI a)]) (rest := []) X hB wf_hA (c_Set_hasLead (l := l) (D := D) (t := t) (w := w) (sz := H.size) (r := r) (rl := rl) (rc := rc) (rz := rz) (k := k) (b := b) (en := en) (u := u) (a := a) hS (by exact hk) (by omega) (by omega)) k_468 k_470 k_5 k_70 k_471 hS cl_Set rfl hd_Set_hasLead ⟨Nat.le_of_ble_eq_true rfl, Nat.le_of_ble_eq_true rfl⟩ ⟨Nat.le_of_ble_eq_true rfl, Nat.le_of_ble_eq_true rfl⟩ hl.1 (Nat.le_of_ble_eq_true rfl) d_Set_lead_3 rfl (fun r_3 w1 H locs hp hB => ?_)
  obtain ⟨rfl, hw_3⟩ := hp
  have hB : wf_B D wcl (wf_A w s.heap.size) s.heap w H locs := wf_Bto hw_3 hB
  refine wf_beq (tgt := 22) hx hb d_Set_lead_6 (by decide) (fun c_6 => ?_) (fun c_6 => ?_)
  · exact absurd c_6 (by simp [hu, ha])
  · refine lv_aload_n hx hb d_Set_lead_9 rfl (lv_at hl 0 rfl) ?_
    refine rget X hB  i_Set hS cl_Set 1 (by decide) k_182 rfl rfl d_Set_lead_10 ?_
    refine lv_iload_n hx hb d_Set_lead_13 rfl (lv_at hl 1 rfl) ?_
    refine lv_iconst (v := nI 4) hx hb d_Set_lead_14 (by decide) ?_
    refine wf_imul (x := u) (y := 4) hx hb d_Set_lead_15 ?_
    refine lv_iload_n hx hb d_Set_lead_16 rfl (lv_at hl 2 rfl) ?_
    refine wf_iadd (x := u * 4) (y := a) hx hb d_Set_lead_17 ?_
    refine rlald X hB  hL (i := (u * 4) + a) (by omega) (by decide) d_Set_lead_18 ?_
    refine wf_tl (y := lN (G ((u * 4) + a))) rfl ?_
    refine wf_tl (y := lN (Ld u a)) (by rw [show (u * 4) + a = u * 4 + a from rfl, (hLd u a hu ha).1]) ?_
    refine lv_goto (tgt := 23) hx hb d_Set_lead_19 (by decide) ?_
    refine ret_l X hB d_Set_lead_23 ?_
    exact ⟨rfl, rfl⟩
set_option maxHeartbeats 4000000 in
set_option maxRecDepth 100000 in
theorem c_Set_setLead {l : Launch} {D : va_G} {t : Nat → ClassId} {w : wf_W} {sz : Nat} {r rl rc rz k b en : Nat} {G : Nat → Nat} {u a x : Nat} (hN : nd [r, rl]) (hS : w r = some (.inr (3, [.int (nI k), .ref rl, .ref rc, .ref rz, .long (lN b), .long (lN en)]))) (hL : w rl = some (.inl (t 1, 164, .inr (.inl (lA G))))) (hk : k ≤ 4) (hu : u ≤ 40) (ha : a < k) : Mv l y_Set_setLead b_Set_setLead 5 none 1 22 0 0 D t w sz [.ref r, .int (nI u), .int (nI a), .long (lN x)] (fun w' => w' = wf_l w [(r, .inr (3, [.int (nI k), .ref rl, .ref rc, .ref rz, .long (lN b), .long (lN en)])), (rl, .inl (t 1, 164, .inr (.inl (lA (nu G (u * 4 + a) x)))))]) := by
  refine start_v (by decide) (Nat.le_of_ble_eq_true rfl) ?_
  intro p e s m below meth c ls H locs X hB hl
  have hx := X.1
  have hb := X.2.1
  have hl : lv_has ls 5 [(0, .ref r), (1, .int (nI u)), (2, .int (nI a)), (3, .long (lN x))] := hl
  have hB : wf_B D wcl (wf_A w s.heap.size) s.heap (wf_l w [(r, .inr (3, [.int (nI k), .ref rl, .ref rc, .ref rz, .long (lN b), .long (lN en)])), (rl, .inl (t 1, 164, .inr (.inl (lA G))))]) H locs := wf_Bto (wf_l2 hS hL).symm hB
  refine lv_aload_n hx hb d_Set_setLead_0 rfl (lv_at hl 0 rfl) ?_
  refine lv_iload_n hx hb d_Set_setLead_1 rfl (lv_at hl 1 rfl) ?_
  refine lv_iload_n hx hb d_Set_setLead_2 rfl (lv_at hl 2 rfl) ?_
  refine callVi (As := [.int (nI u), .int (nI a)]) (rest := []) X hB wf_hA (c_Set_hasLead (l := l) (D := D) (t := t) (w := (wf_l w [(r, .inr (3, [.int (nI k), .ref rl, .ref rc, .ref rz, .long (lN b), .long (lN en)])), (rl, .inl (t 1, 164, .inr (.inl (lA G))))])) (sz := H.size) (r := r) (rl := rl) (rc := rc) (rz := rz) (k := k) (b := b) (en := en) (u := u) (a := a) (wf_lg (w := w) (l := [(r, .inr (3, [.int (nI k), .ref rl, .ref rc, .ref rz, .long (lN b), .long (lN en)])), (rl, .inl (t 1, 164, .inr (.inl (lA G))))]) hN 0 rfl) (by exact hk) (by omega) (by omega)) k_468 k_470 k_5 k_70 k_471 (wf_lg (w := w) (l := [(r, .inr (3, [.int (nI k), .ref rl, .ref rc, .ref rz, .long (lN b), .long (lN en)])), (rl, .inl (t 1, 164, .inr (.inl (lA G))))]) hN 0 rfl) cl_Set rfl hd_Set_hasLead ⟨Nat.le_of_ble_eq_true rfl, Nat.le_of_ble_eq_true rfl⟩ ⟨Nat.le_of_ble_eq_true rfl, Nat.le_of_ble_eq_true rfl⟩ hl.1 (Nat.le_of_ble_eq_true rfl) d_Set_setLead_3 rfl (fun r_3 w1 H locs hp hB => ?_)
  obtain ⟨rfl, hw_3⟩ := hp
  have hB : wf_B D wcl (wf_A w s.heap.size) s.heap (wf_l w [(r, .inr (3, [.int (nI k), .ref rl, .ref rc, .ref rz, .long (lN b), .long (lN en)])), (rl, .inl (t 1, 164, .inr (.inl (lA G))))]) H locs := wf_Bto hw_3 hB
  refine wf_beq (tgt := 20) hx hb d_Set_setLead_6 (by decide) (fun c_6 => ?_) (fun c_6 => ?_)
  · exact absurd c_6 (by simp [hu, ha])
  · refine lv_aload_n hx hb d_Set_setLead_9 rfl (lv_at hl 0 rfl) ?_
    refine rgetL X hB hN 0 i_Set rfl cl_Set 1 (by decide) k_182 rfl rfl d_Set_setLead_10 ?_
    refine lv_iload_n hx hb d_Set_setLead_13 rfl (lv_at hl 1 rfl) ?_
    refine lv_iconst (v := nI 4) hx hb d_Set_setLead_14 (by decide) ?_
    refine wf_imul (x := u) (y := 4) hx hb d_Set_setLead_15 ?_
    refine lv_iload_n hx hb d_Set_setLead_16 rfl (lv_at hl 2 rfl) ?_
    refine wf_iadd (x := u * 4) (y := a) hx hb d_Set_setLead_17 ?_
    refine lv_lload_n hx hb d_Set_setLead_18 rfl (lv_at hl 3 rfl) ?_
    refine rlastA X hB hN 1 (wl' := [(r, .inr (3, [.int (nI k), .ref rl, .ref rc, .ref rz, .long (lN b), .long (lN en)])), (rl, .inl (t 1, 164, .inr (.inl (lA (nu G ((u * 4) + a) x)))))]) rfl (i := (u * 4) + a) (by omega) (by decide) d_Set_setLead_19 rfl (fun H locs hB => ?_)
    refine ret_v X hB d_Set_setLead_20 ?_
    exact rfl
set_option maxHeartbeats 4000000 in
set_option maxRecDepth 100000 in
theorem c_Set_first {l : Launch} {D : va_G} {t : Nat → ClassId} {w : wf_W} {sz : Nat} {r rl rc rz k b en : Nat} (hS : w r = some (.inr (3, [.int (nI k), .ref rl, .ref rc, .ref rz, .long (lN b), .long (lN en)]))) : Ml l y_Set_first b_Set_first 1 (some .long) 0 0 0 0 D t w sz [.ref r] (fun r w' => r = (lN b) ∧ w' = w) := by
  refine start_l (by decide) (Nat.le_of_ble_eq_true rfl) ?_
  intro p e s m below meth c ls H locs X hB hl
  have hx := X.1
  have hb := X.2.1
  have hl : lv_has ls 1 [(0, .ref r)] := hl
  refine lv_aload_n hx hb d_Set_first_0 rfl (lv_at hl 0 rfl) ?_
  refine rget X hB  i_Set hS cl_Set 4 (by decide) k_185 rfl rfl d_Set_first_1 ?_
  refine ret_l X hB d_Set_first_4 ?_
  exact ⟨rfl, rfl⟩
set_option maxHeartbeats 4000000 in
set_option maxRecDepth 100000 in
theorem c_Set_after_L6 {l : Launch} {D : va_G} {t : Nat → ClassId} {w : wf_W} {r rl rc rz k b en : Nat} {G : Nat → Nat} {Ld : Nat → Nat → Nat} {S a : Nat}  {p : Program} {e : Env} {s : State} {m : MethodId} {below : List Frame} {meth : Method} {c : Code} {Q : State → Prop} (X : Cx p s m meth c R_Set "after" b_Set_after 7 (some .long) D t) (hS : w r = some (.inr (3, [.int (nI k), .ref rl, .ref rc, .ref rz, .long (lN b), .long (lN en)]))) (hL : w rl = some (.inl (t 1, 164, .inr (.inl (lA G))))) (hk : k ≤ 4) (hLd : lOK k G Ld) (ha : a < k) (hS64 : S < 2 ^ 64)
    (K_40 : ∀ (i : Nat), (i ≤ 41) → (i = 41) → ∀ (H : Heap) (locs : List Loc) (ls : Array Slot), lv_has ls 7 [(0, .ref r), (1, .long (lN S)), (3, .int (nI a)), (4, .long (lN (sAf Ld S a i))), (6, .int (nI i))] → wf_B D wcl (wf_A w s.heap.size) s.heap w H locs → W p l e (rmk 2 44 0 0) s m [.ref r, .long (lN S), .int (nI a)].toArray below meth c H locs 0 0 Q (F0 m 40 ls [])) :
    ∀ (fu : Nat) (i : Nat), (i ≤ 41) → 41 - i < fu → ∀ (H : Heap) (locs : List Loc) (ls : Array Slot), lv_has ls 7 [(0, .ref r), (1, .long (lN S)), (3, .int (nI a)), (4, .long (lN (sAf Ld S a i))), (6, .int (nI i))] → wf_B D wcl (wf_A w s.heap.size) s.heap w H locs → W p l e (rmk 2 44 0 0) s m [.ref r, .long (lN S), .int (nI a)].toArray below meth c H locs 0 0 Q (F0 m 6 ls []) := by
  have hx := X.1
  have hb := X.2.1
  intro fu
  induction fu with
  | zero => intro i hi hfu; exact absurd hfu (Nat.not_lt_zero _)
  | succ fu ih =>
    intro i hi hfu H locs ls hl hB
    refine lv_iload hx hb d_Set_after_6 (lv_at hl 4 rfl) ?_
    refine lv_bipush (v := nI 40) hx hb d_Set_after_8 (by decide) ?_
    refine wf_cgt (tgt := 40) hx hb d_Set_after_10 (by decide) (nI_toInt (by omega)) (nI_toInt (by omega)) (fun c_10 => ?_) (fun c_10 => ?_)
    · exact K_40 i hi (by omega) H locs ls (lv_sub hl [0, 1, 2, 3, 4] rfl) hB
    · refine lv_lload_n hx hb d_Set_after_13 rfl (lv_at hl 1 rfl) ?_
      refine lv_iload hx hb d_Set_after_14 (lv_at hl 4 rfl) ?_
      refine callTi (As := [.long (lN S), .int (nI i)]) (rest := []) X hB wf_hA (c_TM_isIn (l := l) (D := D) (t := t) (w := w) (sz := H.size) (S := S) (i := i) (by exact hS64) (by omega)) k_463 k_378 k_64 k_379 hd_TM_isIn ⟨Nat.le_of_ble_eq_true rfl, Nat.le_of_ble_eq_true rfl⟩ ⟨Nat.le_of_ble_eq_true rfl, Nat.le_of_ble_eq_true rfl⟩ hl.1 (Nat.le_of_ble_eq_true rfl) d_Set_after_16 rfl (fun r_16 w1 H locs hp hB => ?_)
      obtain ⟨rfl, hw_16⟩ := hp
      have hB : wf_B D wcl (wf_A w s.heap.size) s.heap w H locs := wf_Bto hw_16 hB
      refine wf_beq (tgt := 34) hx hb d_Set_after_19 (by decide) (fun c_19 => ?_) (fun c_19 => ?_)
      · have hl : lv_has ls 7 [(0, .ref r), (1, .long (lN S)), (3, .int (nI a)), (4, .long (lN (sAf Ld S a (i + 1)))), (6, .int (nI i))] := by rw [sAf, if_neg (by simp [c_19])]; exact hl
        refine lv_iinc (v := nI (i + 1)) (lv' := [(6, .int (nI (i + 1))), (0, .ref r), (1, .long (lN S)), (3, .int (nI a)), (4, .long (lN (sAf Ld S a (i + 1))))]) hx hb d_Set_after_34 hl (k := 4) rfl (show nI i + nI 1 = nI (i + 1) from nI_add _ _) (by decide) rfl (fun ls hl => ?_)
        refine lv_goto (tgt := 6) hx hb d_Set_after_37 (by decide) ?_
        exact ih (i + 1) (by omega) (by omega) H locs ls (lv_sub hl [1, 2, 3, 4, 0] rfl) hB
      · refine lv_lload hx hb d_Set_after_22 (lv_at hl 3 rfl) ?_
        refine lv_aload_n hx hb d_Set_after_24 rfl (lv_at hl 0 rfl) ?_
        refine lv_iload hx hb d_Set_after_25 (lv_at hl 4 rfl) ?_
        refine lv_iload_n hx hb d_Set_after_27 rfl (lv_at hl 2 rfl) ?_
        refine callVl (As := [.int (nI i), .int (nI a)]) (rest := [.long (lN (sAf Ld S a i))]) X hB wf_hA (c_Set_lead (l := l) (D := D) (t := t) (w := w) (sz := H.size) (r := r) (rl := rl) (rc := rc) (rz := rz) (k := k) (b := b) (en := en) (G := G) (Ld := Ld) (u := i) (a := a) hS hL (by exact hk) (by exact hLd) (by omega) (by exact ha)) k_464 k_466 k_4 k_70 k_467 hS cl_Set rfl hd_Set_lead ⟨Nat.le_of_ble_eq_true rfl, Nat.le_of_ble_eq_true rfl⟩ ⟨Nat.le_of_ble_eq_true rfl, Nat.le_of_ble_eq_true rfl⟩ hl.1 (Nat.le_of_ble_eq_true rfl) d_Set_after_28 rfl (fun r_28 w1 H locs hp hB => ?_)
        obtain ⟨rfl, hw_28⟩ := hp
        have hB : wf_B D wcl (wf_A w s.heap.size) s.heap w H locs := wf_Bto hw_28 hB
        refine lv_lor hx hb d_Set_after_31 ?_
        refine wf_tl (y := lN ((sAf Ld S a i) ||| (Ld i a))) (wb_or (by have := sAf_lt hLd (S := S) ha i hi; omega) (by have := (hLd i a (by omega) ha).2; omega)) ?_
        refine wf_tl (y := lN (sAf Ld S a (i + 1))) (by rw [sAf, if_pos c_19]) ?_
        refine lv_lstore (lv' := [(4, .long (lN (sAf Ld S a (i + 1)))), (0, .ref r), (1, .long (lN S)), (3, .int (nI a)), (6, .int (nI i))]) hx hb d_Set_after_32 hl (by decide) rfl (fun ls hl => ?_)
        refine lv_iinc (v := nI (i + 1)) (lv' := [(6, .int (nI (i + 1))), (4, .long (lN (sAf Ld S a (i + 1)))), (0, .ref r), (1, .long (lN S)), (3, .int (nI a))]) hx hb d_Set_after_34 hl (k := 4) rfl (show nI i + nI 1 = nI (i + 1) from nI_add _ _) (by decide) rfl (fun ls hl => ?_)
        refine lv_goto (tgt := 6) hx hb d_Set_after_37 (by decide) ?_
        exact ih (i + 1) (by omega) (by omega) H locs ls (lv_sub hl [2, 3, 4, 1, 0] rfl) hB
set_option maxHeartbeats 4000000 in
set_option maxRecDepth 100000 in
theorem c_Set_after {l : Launch} {D : va_G} {t : Nat → ClassId} {w : wf_W} {sz : Nat} {r rl rc rz k b en : Nat} {G : Nat → Nat} {Ld : Nat → Nat → Nat} {S a : Nat} (hS : w r = some (.inr (3, [.int (nI k), .ref rl, .ref rc, .ref rz, .long (lN b), .long (lN en)]))) (hL : w rl = some (.inl (t 1, 164, .inr (.inl (lA G))))) (hk : k ≤ 4) (hLd : lOK k G Ld) (ha : a < k) (hS64 : S < 2 ^ 64) : Ml l y_Set_after b_Set_after 7 (some .long) 2 44 0 0 D t w sz [.ref r, .long (lN S), .int (nI a)] (fun r w' => r = (lN (sAf Ld S a 41)) ∧ w' = w) := by
  refine start_l (by decide) (Nat.le_of_ble_eq_true rfl) ?_
  intro p e s m below meth c ls H locs X hB hl
  have hx := X.1
  have hb := X.2.1
  have hl : lv_has ls 7 [(0, .ref r), (1, .long (lN S)), (3, .int (nI a))] := hl
  refine lv_lconst (v := lN 0) hx hb d_Set_after_0 (by decide) ?_
  refine lv_lstore (lv' := [(4, .long (lN 0)), (0, .ref r), (1, .long (lN S)), (3, .int (nI a))]) hx hb d_Set_after_1 hl (by decide) rfl (fun ls hl => ?_)
  refine lv_iconst (v := nI 0) hx hb d_Set_after_3 (by decide) ?_
  refine lv_istore (lv' := [(6, .int (nI 0)), (4, .long (lN 0)), (0, .ref r), (1, .long (lN S)), (3, .int (nI a))]) hx hb d_Set_after_4 hl (by decide) rfl (fun ls hl => ?_)
  refine c_Set_after_L6 (l := l) X hS hL hk hLd ha hS64 (fun i hi he H locs ls hl hB => ?_) (41 - 0 + 1) 0 (by omega) (by omega) H locs ls (lv_sub hl [2, 3, 4, 1, 0] rfl) hB
  refine lv_lload hx hb d_Set_after_40 (lv_at hl 3 rfl) ?_
  refine ret_l X hB d_Set_after_42 ?_
  subst he; exact ⟨rfl, rfl⟩
set_option maxHeartbeats 4000000 in
set_option maxRecDepth 100000 in
theorem c_Set_isLast {l : Launch} {D : va_G} {t : Nat → ClassId} {w : wf_W} {sz : Nat} {r rl rc rz k b en : Nat} {S : Nat} (hS : w r = some (.inr (3, [.int (nI k), .ref rl, .ref rc, .ref rz, .long (lN b), .long (lN en)]))) (hS64 : S < 2 ^ 64) (hen : en < 2 ^ 41) : Mi l y_Set_isLast b_Set_isLast 3 (some .boolean) 0 0 0 0 D t w sz [.ref r, .long (lN S)] (fun r w' => r = (bI (decide (S &&& en ≠ 0))) ∧ w' = w) := by
  refine start_i (by decide) (Nat.le_of_ble_eq_true rfl) ?_
  intro p e s m below meth c ls H locs X hB hl
  have hx := X.1
  have hb := X.2.1
  have hl : lv_has ls 3 [(0, .ref r), (1, .long (lN S))] := hl
  refine lv_lload_n hx hb d_Set_isLast_0 rfl (lv_at hl 1 rfl) ?_
  refine lv_aload_n hx hb d_Set_isLast_1 rfl (lv_at hl 0 rfl) ?_
  refine rget X hB  i_Set hS cl_Set 5 (by decide) k_186 rfl rfl d_Set_isLast_2 ?_
  refine lv_land hx hb d_Set_isLast_5 ?_
  refine wf_tl (y := lN (S &&& en)) (wb_and (by omega) (by omega)) ?_
  refine lv_lconst (v := lN 0) hx hb d_Set_isLast_6 (by decide) ?_
  refine W.lcmp hx hb d_Set_isLast_7 ?_
  refine wf_leq (tgt := 15) hx hb d_Set_isLast_8 (by decide) (pk_lT (by have := Nat.and_le_right (n := S) (m := en); omega)) (pk_lT (by decide)) (fun c_8 => ?_) (fun c_8 => ?_)
  · refine lv_iconst (v := nI 0) hx hb d_Set_isLast_15 (by decide) ?_
    refine wf_ti (y := bI false) rfl ?_
    refine ret_z X hB d_Set_isLast_16 ?_
    exact ⟨congrArg bI (Bool.eq_iff_iff.mpr (by simp only [decide_eq_true_eq, Bool.false_eq_true, true_iff, false_iff]; omega)), rfl⟩
  · refine lv_iconst (v := nI 1) hx hb d_Set_isLast_11 (by decide) ?_
    refine lv_goto (tgt := 16) hx hb d_Set_isLast_12 (by decide) ?_
    refine wf_ti (y := bI true) rfl ?_
    refine ret_z X hB d_Set_isLast_16 ?_
    exact ⟨congrArg bI (Bool.eq_iff_iff.mpr (by simp only [decide_eq_true_eq, Bool.false_eq_true, true_iff, false_iff]; omega)), rfl⟩
set_option maxHeartbeats 4000000 in
set_option maxRecDepth 100000 in
theorem c_Set_startAt {l : Launch} {D : va_G} {t : Nat → ClassId} {w : wf_W} {sz : Nat} {r rl rc rz k b en : Nat} {S : Nat} (hN : nd [r]) (hS : w r = some (.inr (3, [.int (nI k), .ref rl, .ref rc, .ref rz, .long (lN b), .long (lN en)]))) : Mv l y_Set_startAt b_Set_startAt 3 none 0 0 0 0 D t w sz [.ref r, .long (lN S)] (fun w' => w' = wf_l w [(r, .inr (3, [.int (nI k), .ref rl, .ref rc, .ref rz, .long (lN S), .long (lN en)]))]) := by
  refine start_v (by decide) (Nat.le_of_ble_eq_true rfl) ?_
  intro p e s m below meth c ls H locs X hB hl
  have hx := X.1
  have hb := X.2.1
  have hl : lv_has ls 3 [(0, .ref r), (1, .long (lN S))] := hl
  have hB : wf_B D wcl (wf_A w s.heap.size) s.heap (wf_l w [(r, .inr (3, [.int (nI k), .ref rl, .ref rc, .ref rz, .long (lN b), .long (lN en)]))]) H locs := wf_Bto (wf_l1 hS).symm hB
  refine lv_aload_n hx hb d_Set_startAt_0 rfl (lv_at hl 0 rfl) ?_
  refine lv_lload_n hx hb d_Set_startAt_1 rfl (lv_at hl 1 rfl) ?_
  refine rput X hB hN 0 (wl' := [(r, .inr (3, [.int (nI k), .ref rl, .ref rc, .ref rz, .long (lN S), .long (lN en)]))]) i_Set t_Set_ok n_Set rfl cl_Set 4 (by decide) k_185 rfl rfl rfl rfl (Nat.le_of_ble_eq_true rfl) d_Set_startAt_2 rfl (fun H locs hB => ?_)
  refine ret_v X hB d_Set_startAt_5 ?_
  exact rfl
set_option maxHeartbeats 4000000 in
set_option maxRecDepth 100000 in
theorem c_Set_endAt {l : Launch} {D : va_G} {t : Nat → ClassId} {w : wf_W} {sz : Nat} {r rl rc rz k b en : Nat} {S : Nat} (hN : nd [r]) (hS : w r = some (.inr (3, [.int (nI k), .ref rl, .ref rc, .ref rz, .long (lN b), .long (lN en)]))) : Mv l y_Set_endAt b_Set_endAt 3 none 0 0 0 0 D t w sz [.ref r, .long (lN S)] (fun w' => w' = wf_l w [(r, .inr (3, [.int (nI k), .ref rl, .ref rc, .ref rz, .long (lN b), .long (lN S)]))]) := by
  refine start_v (by decide) (Nat.le_of_ble_eq_true rfl) ?_
  intro p e s m below meth c ls H locs X hB hl
  have hx := X.1
  have hb := X.2.1
  have hl : lv_has ls 3 [(0, .ref r), (1, .long (lN S))] := hl
  have hB : wf_B D wcl (wf_A w s.heap.size) s.heap (wf_l w [(r, .inr (3, [.int (nI k), .ref rl, .ref rc, .ref rz, .long (lN b), .long (lN en)]))]) H locs := wf_Bto (wf_l1 hS).symm hB
  refine lv_aload_n hx hb d_Set_endAt_0 rfl (lv_at hl 0 rfl) ?_
  refine lv_lload_n hx hb d_Set_endAt_1 rfl (lv_at hl 1 rfl) ?_
  refine rput X hB hN 0 (wl' := [(r, .inr (3, [.int (nI k), .ref rl, .ref rc, .ref rz, .long (lN b), .long (lN S)]))]) i_Set t_Set_ok n_Set rfl cl_Set 5 (by decide) k_186 rfl rfl rfl rfl (Nat.le_of_ble_eq_true rfl) d_Set_endAt_2 rfl (fun H locs hB => ?_)
  refine ret_v X hB d_Set_endAt_5 ?_
  exact rfl
set_option maxHeartbeats 4000000 in
set_option maxRecDepth 100000 in
theorem c_Set_forgetLeads_L2 {l : Launch} {D : va_G} {t : Nat → ClassId} {w : wf_W} {r rl rc rz k b en : Nat} {G : Nat → Nat}  {p : Program} {e : Env} {s : State} {m : MethodId} {below : List Frame} {meth : Method} {c : Code} {Q : State → Prop} (X : Cx p s m meth c R_Set "forgetLeads" b_Set_forgetLeads 2 none D t) (hN : nd [r, rl]) (hS : w r = some (.inr (3, [.int (nI k), .ref rl, .ref rc, .ref rz, .long (lN b), .long (lN en)]))) (hL : w rl = some (.inl (t 1, 164, .inr (.inl (lA G)))))
    (K_24 : ∀ (i : Nat) (K : Nat → Nat), (i ≤ 164) → (∀ j, j < i → K j = 0) → (i = 164) → ∀ (H : Heap) (locs : List Loc) (ls : Array Slot), lv_has ls 2 [(0, .ref r), (1, .int (nI i))] → wf_B D wcl (wf_A w s.heap.size) s.heap (wf_l w [(r, .inr (3, [.int (nI k), .ref rl, .ref rc, .ref rz, .long (lN b), .long (lN en)])), (rl, .inl (t 1, 164, .inr (.inl (lA K))))]) H locs → W p l e (rmk 0 0 0 0) s m [.ref r].toArray below meth c H locs 0 0 Q (F0 m 24 ls [])) :
    ∀ (fu : Nat) (i : Nat) (K : Nat → Nat), (i ≤ 164) → (∀ j, j < i → K j = 0) → 164 - i < fu → ∀ (H : Heap) (locs : List Loc) (ls : Array Slot), lv_has ls 2 [(0, .ref r), (1, .int (nI i))] → wf_B D wcl (wf_A w s.heap.size) s.heap (wf_l w [(r, .inr (3, [.int (nI k), .ref rl, .ref rc, .ref rz, .long (lN b), .long (lN en)])), (rl, .inl (t 1, 164, .inr (.inl (lA K))))]) H locs → W p l e (rmk 0 0 0 0) s m [.ref r].toArray below meth c H locs 0 0 Q (F0 m 2 ls []) := by
  have hx := X.1
  have hb := X.2.1
  intro fu
  induction fu with
  | zero => intro i K hi hg hfu; exact absurd hfu (Nat.not_lt_zero _)
  | succ fu ih =>
    intro i K hi hg hfu H locs ls hl hB
    refine lv_iload_n hx hb d_Set_forgetLeads_2 rfl (lv_at hl 1 rfl) ?_
    refine lv_aload_n hx hb d_Set_forgetLeads_3 rfl (lv_at hl 0 rfl) ?_
    refine rgetL X hB hN 0 i_Set rfl cl_Set 1 (by decide) k_182 rfl rfl d_Set_forgetLeads_4 ?_
    refine ralenL X hB hN 1 1 rfl rfl d_Set_forgetLeads_7 ?_
    refine wf_cge (tgt := 24) hx hb d_Set_forgetLeads_8 (by decide) (nI_toInt (by omega)) (nI_toInt (by omega)) (fun c_8 => ?_) (fun c_8 => ?_)
    · exact K_24 i K hi hg (by omega) H locs ls (lv_sub hl [0, 1] rfl) hB
    · refine lv_aload_n hx hb d_Set_forgetLeads_11 rfl (lv_at hl 0 rfl) ?_
      refine rgetL X hB hN 0 i_Set rfl cl_Set 1 (by decide) k_182 rfl rfl d_Set_forgetLeads_12 ?_
      refine lv_iload_n hx hb d_Set_forgetLeads_15 rfl (lv_at hl 1 rfl) ?_
      refine lv_lconst (v := lN 0) hx hb d_Set_forgetLeads_16 (by decide) ?_
      refine rlastA X hB hN 1 (wl' := [(r, .inr (3, [.int (nI k), .ref rl, .ref rc, .ref rz, .long (lN b), .long (lN en)])), (rl, .inl (t 1, 164, .inr (.inl (lA (nu K i 0)))))]) rfl (i := i) (by omega) (by decide) d_Set_forgetLeads_17 rfl (fun H locs hB => ?_)
      refine lv_iinc (v := nI (i + 1)) (lv' := [(1, .int (nI (i + 1))), (0, .ref r)]) hx hb d_Set_forgetLeads_18 hl (k := 1) rfl (show nI i + nI 1 = nI (i + 1) from nI_add _ _) (by decide) rfl (fun ls hl => ?_)
      refine lv_goto (tgt := 2) hx hb d_Set_forgetLeads_21 (by decide) ?_
      exact ih (i + 1) (nu K i 0) (by omega) (by intro j hj; by_cases e9 : j = i; rw [nu_e e9]; rw [nu_n e9]; exact hg j (by omega)) (by omega) H locs ls (lv_sub hl [1, 0] rfl) hB
set_option maxHeartbeats 4000000 in
set_option maxRecDepth 100000 in
theorem c_Set_forgetLeads {l : Launch} {D : va_G} {t : Nat → ClassId} {w : wf_W} {sz : Nat} {r rl rc rz k b en : Nat} {G : Nat → Nat} (hN : nd [r, rl]) (hS : w r = some (.inr (3, [.int (nI k), .ref rl, .ref rc, .ref rz, .long (lN b), .long (lN en)]))) (hL : w rl = some (.inl (t 1, 164, .inr (.inl (lA G))))) : Mv l y_Set_forgetLeads b_Set_forgetLeads 2 none 0 0 0 0 D t w sz [.ref r] (fun w' => ∃ G0 : Nat → Nat, (∀ i, i < 164 → G0 i = 0) ∧ w' = wf_l w [(r, .inr (3, [.int (nI k), .ref rl, .ref rc, .ref rz, .long (lN b), .long (lN en)])), (rl, .inl (t 1, 164, .inr (.inl (lA G0))))]) := by
  refine start_v (by decide) (Nat.le_of_ble_eq_true rfl) ?_
  intro p e s m below meth c ls H locs X hB hl
  have hx := X.1
  have hb := X.2.1
  have hl : lv_has ls 2 [(0, .ref r)] := hl
  have hB : wf_B D wcl (wf_A w s.heap.size) s.heap (wf_l w [(r, .inr (3, [.int (nI k), .ref rl, .ref rc, .ref rz, .long (lN b), .long (lN en)])), (rl, .inl (t 1, 164, .inr (.inl (lA G))))]) H locs := wf_Bto (wf_l2 hS hL).symm hB
  refine lv_iconst (v := nI 0) hx hb d_Set_forgetLeads_0 (by decide) ?_
  refine lv_istore_n (lv' := [(1, .int (nI 0)), (0, .ref r)]) hx hb d_Set_forgetLeads_1 rfl hl (by decide) rfl (fun ls hl => ?_)
  refine c_Set_forgetLeads_L2 (l := l) X hN hS hL (fun i K hi hg he H locs ls hl hB => ?_) (164 - 0 + 1) 0 G (by omega) (by intro j hj; omega) (by omega) H locs ls (lv_sub hl [1, 0] rfl) hB
  refine ret_v X hB d_Set_forgetLeads_24 ?_
  exact ⟨K, fun j hj => hg j (by omega), rfl⟩
set_option maxHeartbeats 4000000 in
set_option maxRecDepth 100000 in
theorem c_Set_companyOf {l : Launch} {D : va_G} {t : Nat → ClassId} {w : wf_W} {sz : Nat} {r rl rc rz k b en : Nat} {C : Nat → Nat} {u : Nat} (hS : w r = some (.inr (3, [.int (nI k), .ref rl, .ref rc, .ref rz, .long (lN b), .long (lN en)]))) (hC : w rc = some (.inl (t 1, 40, .inr (.inl (lA C))))) (hu : u < 2 ^ 31) : Ml l y_Set_companyOf b_Set_companyOf 2 (some .long) 0 0 0 0 D t w sz [.ref r, .int (nI u)] (fun r w' => r = (lN (if u < 40 then C u else 0)) ∧ w' = w) := by
  refine start_l (by decide) (Nat.le_of_ble_eq_true rfl) ?_
  intro p e s m below meth c ls H locs X hB hl
  have hx := X.1
  have hb := X.2.1
  have hl : lv_has ls 2 [(0, .ref r), (1, .int (nI u))] := hl
  refine lv_iload_n hx hb d_Set_companyOf_0 rfl (lv_at hl 1 rfl) ?_
  refine wf_zlt (tgt := 19) hx hb d_Set_companyOf_1 (by decide) (nI_toInt (by omega)) (fun c_1 => ?_) (fun c_1 => ?_)
  · refine lv_lconst (v := lN 0) hx hb d_Set_companyOf_19 (by decide) ?_
    refine ret_l X hB d_Set_companyOf_20 ?_
    exact ⟨by rw [if_neg (by omega)], rfl⟩
  · refine lv_iload_n hx hb d_Set_companyOf_4 rfl (lv_at hl 1 rfl) ?_
    refine lv_bipush (v := nI 40) hx hb d_Set_companyOf_5 (by decide) ?_
    refine wf_cge (tgt := 19) hx hb d_Set_companyOf_7 (by decide) (nI_toInt (by omega)) (nI_toInt (by omega)) (fun c_7 => ?_) (fun c_7 => ?_)
    · refine lv_lconst (v := lN 0) hx hb d_Set_companyOf_19 (by decide) ?_
      refine ret_l X hB d_Set_companyOf_20 ?_
      exact ⟨by rw [if_neg (by omega)], rfl⟩
    · refine lv_aload_n hx hb d_Set_companyOf_10 rfl (lv_at hl 0 rfl) ?_
      refine rget X hB  i_Set hS cl_Set 2 (by decide) k_183 rfl rfl d_Set_companyOf_11 ?_
      refine lv_iload_n hx hb d_Set_companyOf_14 rfl (lv_at hl 1 rfl) ?_
      refine rlald X hB  hC (i := u) (by omega) (by decide) d_Set_companyOf_15 ?_
      refine wf_tl (y := lN (C u)) rfl ?_
      refine lv_goto (tgt := 20) hx hb d_Set_companyOf_16 (by decide) ?_
      refine ret_l X hB d_Set_companyOf_20 ?_
      exact ⟨by rw [if_pos (by omega)], rfl⟩
set_option maxHeartbeats 4000000 in
set_option maxRecDepth 100000 in
theorem c_Set_followWithCompany_L16 {l : Launch} {D : va_G} {t : Nat → ClassId} {w : wf_W} {r rl rc rz k b en : Nat} {G C : Nat → Nat} {h hs n E : Nat} {f : Nat → Int32} {st : Nat → Nat → Nat} {i : Nat} {p : Program} {e : Env} {s : State} {m : MethodId} {below : List Frame} {meth : Method} {c : Code} {Q : State → Prop} (X : Cx p s m meth c R_Set "followWithCompany" b_Set_followWithCompany 4 none D t) (hN : nd [r, rl, rc, h, hs]) (hS : w r = some (.inr (3, [.int (nI k), .ref rl, .ref rc, .ref rz, .long (lN b), .long (lN en)]))) (hL : w rl = some (.inl (t 1, 164, .inr (.inl (lA G))))) (hC : w rc = some (.inl (t 1, 40, .inr (.inl (lA C))))) (hM : w h = some (.inr (1, [.int (nI k), .ref hs, .int (nI n), .long (lN E)]))) (hF : w hs = some (.inl (t 0, 40, .inl (pkA f)))) (hm : mOK k n E f st) (hi : i < n)
    (K_46 : ∀ (j : Nat) (K : Nat → Nat), (j ≤ k) → (∀ u a, u ≤ 40 → a < k → K (u * 4 + a) = if u < i ∨ (u = i ∧ a < j) then C (stp k n st u a) else 0) → (j = k) → ∀ (H : Heap) (locs : List Loc) (ls : Array Slot), lv_has ls 4 [(0, .ref r), (1, .ref h), (2, .int (nI i)), (3, .int (nI j))] → wf_B D wcl (wf_A w s.heap.size) s.heap (wf_l w [(r, .inr (3, [.int (nI k), .ref rl, .ref rc, .ref rz, .long (lN b), .long (lN en)])), (rl, .inl (t 1, 164, .inr (.inl (lA K)))), (rc, .inl (t 1, 40, .inr (.inl (lA C)))), (h, .inr (1, [.int (nI k), .ref hs, .int (nI n), .long (lN E)])), (hs, .inl (t 0, 40, .inl (pkA f)))]) H locs → W p l e (rmk 2 46 0 0) s m [.ref r, .ref h].toArray below meth c H locs 0 0 Q (F0 m 46 ls [])) :
    ∀ (fu : Nat) (j : Nat) (K : Nat → Nat), (j ≤ k) → (∀ u a, u ≤ 40 → a < k → K (u * 4 + a) = if u < i ∨ (u = i ∧ a < j) then C (stp k n st u a) else 0) → k - j < fu → ∀ (H : Heap) (locs : List Loc) (ls : Array Slot), lv_has ls 4 [(0, .ref r), (1, .ref h), (2, .int (nI i)), (3, .int (nI j))] → wf_B D wcl (wf_A w s.heap.size) s.heap (wf_l w [(r, .inr (3, [.int (nI k), .ref rl, .ref rc, .ref rz, .long (lN b), .long (lN en)])), (rl, .inl (t 1, 164, .inr (.inl (lA K)))), (rc, .inl (t 1, 40, .inr (.inl (lA C)))), (h, .inr (1, [.int (nI k), .ref hs, .int (nI n), .long (lN E)])), (hs, .inl (t 0, 40, .inl (pkA f)))]) H locs → W p l e (rmk 2 46 0 0) s m [.ref r, .ref h].toArray below meth c H locs 0 0 Q (F0 m 16 ls []) := by
  have hx := X.1
  have hb := X.2.1
  intro fu
  induction fu with
  | zero => intro j K hj hg hfu; exact absurd hfu (Nat.not_lt_zero _)
  | succ fu ih =>
    intro j K hj hg hfu H locs ls hl hB
    have hk := hm.1
    have hn := hm.2.1
    have hn0 := hm.2.2.1
    have hE := hm.E40
    refine lv_iload_n hx hb d_Set_followWithCompany_16 rfl (lv_at hl 3 rfl) ?_
    refine lv_aload_n hx hb d_Set_followWithCompany_17 rfl (lv_at hl 0 rfl) ?_
    refine rgetL X hB hN 0 i_Set rfl cl_Set 0 (by decide) k_181 rfl rfl d_Set_followWithCompany_18 ?_
    refine wf_cge (tgt := 46) hx hb d_Set_followWithCompany_21 (by decide) (nI_toInt (by omega)) (nI_toInt (by omega)) (fun c_21 => ?_) (fun c_21 => ?_)
    · exact K_46 j K hj hg (by omega) H locs ls (lv_sub hl [0, 1, 2, 3] rfl) hB
    · refine lv_aload_n hx hb d_Set_followWithCompany_24 rfl (lv_at hl 0 rfl) ?_
      refine lv_iload_n hx hb d_Set_followWithCompany_25 rfl (lv_at hl 2 rfl) ?_
      refine lv_iload_n hx hb d_Set_followWithCompany_26 rfl (lv_at hl 3 rfl) ?_
      refine lv_aload_n hx hb d_Set_followWithCompany_27 rfl (lv_at hl 0 rfl) ?_
      refine lv_aload_n hx hb d_Set_followWithCompany_28 rfl (lv_at hl 1 rfl) ?_
      refine lv_iload_n hx hb d_Set_followWithCompany_29 rfl (lv_at hl 2 rfl) ?_
      refine lv_iload_n hx hb d_Set_followWithCompany_30 rfl (lv_at hl 3 rfl) ?_
      refine callVi (As := [.int (nI i), .int (nI j)]) (rest := [.ref r, .int (nI j), .int (nI i), .ref r]) X hB wf_hA (c_Mac_step (l := l) (D := D) (t := t) (w := (wf_l w [(r, .inr (3, [.int (nI k), .ref rl, .ref rc, .ref rz, .long (lN b), .long (lN en)])), (rl, .inl (t 1, 164, .inr (.inl (lA K)))), (rc, .inl (t 1, 40, .inr (.inl (lA C)))), (h, .inr (1, [.int (nI k), .ref hs, .int (nI n), .long (lN E)])), (hs, .inl (t 0, 40, .inl (pkA f)))])) (sz := H.size) (h := h) (hs := hs) (k := k) (n := n) (E := E) (f := f) (st := st) (u := i) (a := j) (wf_lg (w := w) (l := [(r, .inr (3, [.int (nI k), .ref rl, .ref rc, .ref rz, .long (lN b), .long (lN en)])), (rl, .inl (t 1, 164, .inr (.inl (lA K)))), (rc, .inl (t 1, 40, .inr (.inl (lA C)))), (h, .inr (1, [.int (nI k), .ref hs, .int (nI n), .long (lN E)])), (hs, .inl (t 0, 40, .inl (pkA f)))]) hN 3 rfl) (wf_lg (w := w) (l := [(r, .inr (3, [.int (nI k), .ref rl, .ref rc, .ref rz, .long (lN b), .long (lN en)])), (rl, .inl (t 1, 164, .inr (.inl (lA K)))), (rc, .inl (t 1, 40, .inr (.inl (lA C)))), (h, .inr (1, [.int (nI k), .ref hs, .int (nI n), .long (lN E)])), (hs, .inl (t 0, 40, .inl (pkA f)))]) hN 4 rfl) (by exact hm) (by omega) (by omega)) k_616 k_434 k_435 k_67 k_436 (wf_lg (w := w) (l := [(r, .inr (3, [.int (nI k), .ref rl, .ref rc, .ref rz, .long (lN b), .long (lN en)])), (rl, .inl (t 1, 164, .inr (.inl (lA K)))), (rc, .inl (t 1, 40, .inr (.inl (lA C)))), (h, .inr (1, [.int (nI k), .ref hs, .int (nI n), .long (lN E)])), (hs, .inl (t 0, 40, .inl (pkA f)))]) hN 3 rfl) cl_Mac rfl hd_Mac_step ⟨Nat.le_of_ble_eq_true rfl, Nat.le_of_ble_eq_true rfl⟩ ⟨Nat.le_of_ble_eq_true rfl, Nat.le_of_ble_eq_true rfl⟩ hl.1 (Nat.le_of_ble_eq_true rfl) d_Set_followWithCompany_31 rfl (fun r_31 w1 H locs hp hB => ?_)
      obtain ⟨rfl, hw_31⟩ := hp
      have hB : wf_B D wcl (wf_A w s.heap.size) s.heap (wf_l w [(r, .inr (3, [.int (nI k), .ref rl, .ref rc, .ref rz, .long (lN b), .long (lN en)])), (rl, .inl (t 1, 164, .inr (.inl (lA K)))), (rc, .inl (t 1, 40, .inr (.inl (lA C)))), (h, .inr (1, [.int (nI k), .ref hs, .int (nI n), .long (lN E)])), (hs, .inl (t 0, 40, .inl (pkA f)))]) H locs := wf_Bto hw_31 hB
      refine callVl (As := [.int (nI (stp k n st i j))]) (rest := [.int (nI j), .int (nI i), .ref r]) X hB wf_hA (c_Set_companyOf (l := l) (D := D) (t := t) (w := (wf_l w [(r, .inr (3, [.int (nI k), .ref rl, .ref rc, .ref rz, .long (lN b), .long (lN en)])), (rl, .inl (t 1, 164, .inr (.inl (lA K)))), (rc, .inl (t 1, 40, .inr (.inl (lA C)))), (h, .inr (1, [.int (nI k), .ref hs, .int (nI n), .long (lN E)])), (hs, .inl (t 0, 40, .inl (pkA f)))])) (sz := H.size) (r := r) (rl := rl) (rc := rc) (rz := rz) (k := k) (b := b) (en := en) (C := C) (u := stp k n st i j) (wf_lg (w := w) (l := [(r, .inr (3, [.int (nI k), .ref rl, .ref rc, .ref rz, .long (lN b), .long (lN en)])), (rl, .inl (t 1, 164, .inr (.inl (lA K)))), (rc, .inl (t 1, 40, .inr (.inl (lA C)))), (h, .inr (1, [.int (nI k), .ref hs, .int (nI n), .long (lN E)])), (hs, .inl (t 0, 40, .inl (pkA f)))]) hN 0 rfl) (wf_lg (w := w) (l := [(r, .inr (3, [.int (nI k), .ref rl, .ref rc, .ref rz, .long (lN b), .long (lN en)])), (rl, .inl (t 1, 164, .inr (.inl (lA K)))), (rc, .inl (t 1, 40, .inr (.inl (lA C)))), (h, .inr (1, [.int (nI k), .ref hs, .int (nI n), .long (lN E)])), (hs, .inl (t 0, 40, .inl (pkA f)))]) hN 2 rfl) (by have := stp_lt hm i j; omega)) k_617 k_619 k_20 k_70 k_620 (wf_lg (w := w) (l := [(r, .inr (3, [.int (nI k), .ref rl, .ref rc, .ref rz, .long (lN b), .long (lN en)])), (rl, .inl (t 1, 164, .inr (.inl (lA K)))), (rc, .inl (t 1, 40, .inr (.inl (lA C)))), (h, .inr (1, [.int (nI k), .ref hs, .int (nI n), .long (lN E)])), (hs, .inl (t 0, 40, .inl (pkA f)))]) hN 0 rfl) cl_Set rfl hd_Set_companyOf ⟨Nat.le_of_ble_eq_true rfl, Nat.le_of_ble_eq_true rfl⟩ ⟨Nat.le_of_ble_eq_true rfl, Nat.le_of_ble_eq_true rfl⟩ hl.1 (Nat.le_of_ble_eq_true rfl) d_Set_followWithCompany_34 rfl (fun r_34 w1 H locs hp hB => ?_)
      obtain ⟨rfl, hw_34⟩ := hp
      have hB : wf_B D wcl (wf_A w s.heap.size) s.heap (wf_l w [(r, .inr (3, [.int (nI k), .ref rl, .ref rc, .ref rz, .long (lN b), .long (lN en)])), (rl, .inl (t 1, 164, .inr (.inl (lA K)))), (rc, .inl (t 1, 40, .inr (.inl (lA C)))), (h, .inr (1, [.int (nI k), .ref hs, .int (nI n), .long (lN E)])), (hs, .inl (t 0, 40, .inl (pkA f)))]) H locs := wf_Bto hw_34 hB
      refine wf_tl (y := lN (C (stp k n st i j))) (by rw [if_pos (by have := stp_lt hm i j; omega)]) ?_
      refine callVv (As := [.int (nI i), .int (nI j), .long (lN (C (stp k n st i j)))]) (rest := []) X hB wf_hA (c_Set_setLead (l := l) (D := D) (t := t) (w := (wf_l w [(r, .inr (3, [.int (nI k), .ref rl, .ref rc, .ref rz, .long (lN b), .long (lN en)])), (rl, .inl (t 1, 164, .inr (.inl (lA K)))), (rc, .inl (t 1, 40, .inr (.inl (lA C)))), (h, .inr (1, [.int (nI k), .ref hs, .int (nI n), .long (lN E)])), (hs, .inl (t 0, 40, .inl (pkA f)))])) (sz := H.size) (r := r) (rl := rl) (rc := rc) (rz := rz) (k := k) (b := b) (en := en) (G := K) (u := i) (a := j) (x := C (stp k n st i j)) (nd_sub hN [0, 1] rfl (by decide)) (wf_lg (w := w) (l := [(r, .inr (3, [.int (nI k), .ref rl, .ref rc, .ref rz, .long (lN b), .long (lN en)])), (rl, .inl (t 1, 164, .inr (.inl (lA K)))), (rc, .inl (t 1, 40, .inr (.inl (lA C)))), (h, .inr (1, [.int (nI k), .ref hs, .int (nI n), .long (lN E)])), (hs, .inl (t 0, 40, .inl (pkA f)))]) hN 0 rfl) (wf_lg (w := w) (l := [(r, .inr (3, [.int (nI k), .ref rl, .ref rc, .ref rz, .long (lN b), .long (lN en)])), (rl, .inl (t 1, 164, .inr (.inl (lA K)))), (rc, .inl (t 1, 40, .inr (.inl (lA C)))), (h, .inr (1, [.int (nI k), .ref hs, .int (nI n), .long (lN E)])), (hs, .inl (t 0, 40, .inl (pkA f)))]) hN 1 rfl) (by omega) (by omega) (by omega)) k_621 k_623 k_21 k_70 k_624 (wf_lg (w := w) (l := [(r, .inr (3, [.int (nI k), .ref rl, .ref rc, .ref rz, .long (lN b), .long (lN en)])), (rl, .inl (t 1, 164, .inr (.inl (lA K)))), (rc, .inl (t 1, 40, .inr (.inl (lA C)))), (h, .inr (1, [.int (nI k), .ref hs, .int (nI n), .long (lN E)])), (hs, .inl (t 0, 40, .inl (pkA f)))]) hN 0 rfl) cl_Set rfl hd_Set_setLead ⟨Nat.le_of_ble_eq_true rfl, Nat.le_of_ble_eq_true rfl⟩ ⟨Nat.le_of_ble_eq_true rfl, Nat.le_of_ble_eq_true rfl⟩ hl.1 (Nat.le_of_ble_eq_true rfl) d_Set_followWithCompany_37 rfl (fun w1 H locs hp hB => ?_)
      have hw_37 := hp
      have hB : wf_B D wcl (wf_A w s.heap.size) s.heap (wf_l w [(r, .inr (3, [.int (nI k), .ref rl, .ref rc, .ref rz, .long (lN b), .long (lN en)])), (rl, .inl (t 1, 164, .inr (.inl (lA (nu K (i * 4 + j) (C (stp k n st i j))))))), (rc, .inl (t 1, 40, .inr (.inl (lA C)))), (h, .inr (1, [.int (nI k), .ref hs, .int (nI n), .long (lN E)])), (hs, .inl (t 0, 40, .inl (pkA f)))]) H locs := wf_Bto (hw_37.trans (wlw (L1 := [(r, .inr (3, [.int (nI k), .ref rl, .ref rc, .ref rz, .long (lN b), .long (lN en)])), (rl, .inl (t 1, 164, .inr (.inl (lA K)))), (rc, .inl (t 1, 40, .inr (.inl (lA C)))), (h, .inr (1, [.int (nI k), .ref hs, .int (nI n), .long (lN E)])), (hs, .inl (t 0, 40, .inl (pkA f)))]) hN 0 rfl rfl (wlw (L1 := [(r, .inr (3, [.int (nI k), .ref rl, .ref rc, .ref rz, .long (lN b), .long (lN en)])), (rl, .inl (t 1, 164, .inr (.inl (lA (nu K (i * 4 + j) (C (stp k n st i j))))))), (rc, .inl (t 1, 40, .inr (.inl (lA C)))), (h, .inr (1, [.int (nI k), .ref hs, .int (nI n), .long (lN E)])), (hs, .inl (t 0, 40, .inl (pkA f)))]) hN 1 rfl rfl rfl))) hB
      refine lv_iinc (v := nI (j + 1)) (lv' := [(3, .int (nI (j + 1))), (0, .ref r), (1, .ref h), (2, .int (nI i))]) hx hb d_Set_followWithCompany_40 hl (k := 3) rfl (show nI j + nI 1 = nI (j + 1) from nI_add _ _) (by decide) rfl (fun ls hl => ?_)
      refine lv_goto (tgt := 16) hx hb d_Set_followWithCompany_43 (by decide) ?_
      exact ih (j + 1) (nu K (i * 4 + j) (C (stp k n st i j))) (by omega) (by intro u a hu ha; by_cases e9 : u = i ∧ a = j; (rw [nu_e (by rw [e9.1, e9.2]), if_pos (by omega), e9.1, e9.2]); rw [nu_n (by omega), hg u a hu ha]; by_cases e8 : u < i ∨ (u = i ∧ a < j); (rw [if_pos e8, if_pos (by omega)]); rw [if_neg e8, if_neg (by omega)]) (by omega) H locs ls (lv_sub hl [1, 2, 3, 0] rfl) hB
set_option maxHeartbeats 4000000 in
set_option maxRecDepth 100000 in
theorem c_Set_followWithCompany_L6 {l : Launch} {D : va_G} {t : Nat → ClassId} {w : wf_W} {r rl rc rz k b en : Nat} {G C : Nat → Nat} {h hs n E : Nat} {f : Nat → Int32} {st : Nat → Nat → Nat}  {p : Program} {e : Env} {s : State} {m : MethodId} {below : List Frame} {meth : Method} {c : Code} {Q : State → Prop} (X : Cx p s m meth c R_Set "followWithCompany" b_Set_followWithCompany 4 none D t) (hN : nd [r, rl, rc, h, hs]) (hS : w r = some (.inr (3, [.int (nI k), .ref rl, .ref rc, .ref rz, .long (lN b), .long (lN en)]))) (hL : w rl = some (.inl (t 1, 164, .inr (.inl (lA G))))) (hC : w rc = some (.inl (t 1, 40, .inr (.inl (lA C))))) (hM : w h = some (.inr (1, [.int (nI k), .ref hs, .int (nI n), .long (lN E)]))) (hF : w hs = some (.inl (t 0, 40, .inl (pkA f)))) (hm : mOK k n E f st)
    (K_52 : ∀ (i : Nat) (K : Nat → Nat), (i ≤ n) → (∀ u a, u ≤ 40 → a < k → K (u * 4 + a) = if u < i then C (stp k n st u a) else 0) → (i = n) → ∀ (H : Heap) (locs : List Loc) (ls : Array Slot), lv_has ls 4 [(0, .ref r), (1, .ref h), (2, .int (nI i))] → wf_B D wcl (wf_A w s.heap.size) s.heap (wf_l w [(r, .inr (3, [.int (nI k), .ref rl, .ref rc, .ref rz, .long (lN b), .long (lN en)])), (rl, .inl (t 1, 164, .inr (.inl (lA K)))), (rc, .inl (t 1, 40, .inr (.inl (lA C)))), (h, .inr (1, [.int (nI k), .ref hs, .int (nI n), .long (lN E)])), (hs, .inl (t 0, 40, .inl (pkA f)))]) H locs → W p l e (rmk 2 46 0 0) s m [.ref r, .ref h].toArray below meth c H locs 0 0 Q (F0 m 52 ls [])) :
    ∀ (fu : Nat) (i : Nat) (K : Nat → Nat), (i ≤ n) → (∀ u a, u ≤ 40 → a < k → K (u * 4 + a) = if u < i then C (stp k n st u a) else 0) → n - i < fu → ∀ (H : Heap) (locs : List Loc) (ls : Array Slot), lv_has ls 4 [(0, .ref r), (1, .ref h), (2, .int (nI i))] → wf_B D wcl (wf_A w s.heap.size) s.heap (wf_l w [(r, .inr (3, [.int (nI k), .ref rl, .ref rc, .ref rz, .long (lN b), .long (lN en)])), (rl, .inl (t 1, 164, .inr (.inl (lA K)))), (rc, .inl (t 1, 40, .inr (.inl (lA C)))), (h, .inr (1, [.int (nI k), .ref hs, .int (nI n), .long (lN E)])), (hs, .inl (t 0, 40, .inl (pkA f)))]) H locs → W p l e (rmk 2 46 0 0) s m [.ref r, .ref h].toArray below meth c H locs 0 0 Q (F0 m 6 ls []) := by
  have hx := X.1
  have hb := X.2.1
  intro fu
  induction fu with
  | zero => intro i K hi hg hfu; exact absurd hfu (Nat.not_lt_zero _)
  | succ fu ih =>
    intro i K hi hg hfu H locs ls hl hB
    have hk := hm.1
    have hn := hm.2.1
    have hn0 := hm.2.2.1
    have hE := hm.E40
    refine lv_iload_n hx hb d_Set_followWithCompany_6 rfl (lv_at hl 2 rfl) ?_
    refine lv_aload_n hx hb d_Set_followWithCompany_7 rfl (lv_at hl 1 rfl) ?_
    refine rgetNL X hB hN 3 i_Mac rfl cl_Mac 2 (by decide) k_123 rfl rfl d_Set_followWithCompany_8 ?_
    refine wf_cge (tgt := 52) hx hb d_Set_followWithCompany_11 (by decide) (nI_toInt (by omega)) (nI_toInt (by omega)) (fun c_11 => ?_) (fun c_11 => ?_)
    · exact K_52 i K hi hg (by omega) H locs ls (lv_sub hl [0, 1, 2] rfl) hB
    · have hi : i < n := by omega
      refine lv_iconst (v := nI 0) hx hb d_Set_followWithCompany_14 (by decide) ?_
      refine lv_istore_n (lv' := [(3, .int (nI 0)), (0, .ref r), (1, .ref h), (2, .int (nI i))]) hx hb d_Set_followWithCompany_15 rfl hl (by decide) rfl (fun ls hl => ?_)
      refine c_Set_followWithCompany_L16 (l := l) X hN hS hL hC hM hF hm hi (fun j K hj hg he H locs ls hl hB => ?_) (k - 0 + 1) 0 K (by omega) (by intro u a hu ha; rw [hg u a hu ha]; by_cases e8 : u < i; (rw [if_pos e8, if_pos (by omega)]); rw [if_neg e8, if_neg (by omega)]) (by omega) H locs ls (lv_sub hl [1, 2, 3, 0] rfl) hB
      refine lv_iinc (v := nI (i + 1)) (lv' := [(2, .int (nI (i + 1))), (0, .ref r), (1, .ref h), (3, .int (nI j))]) hx hb d_Set_followWithCompany_46 hl (k := 2) rfl (show nI i + nI 1 = nI (i + 1) from nI_add _ _) (by decide) rfl (fun ls hl => ?_)
      refine lv_goto (tgt := 6) hx hb d_Set_followWithCompany_49 (by decide) ?_
      exact ih (i + 1) K (by omega) (by intro u a hu ha; rw [hg u a hu ha]; by_cases e8 : u < i + 1; (rw [if_pos e8, if_pos (by omega)]); rw [if_neg e8, if_neg (by omega)]) (by omega) H locs ls (lv_sub hl [1, 2, 0] rfl) hB
set_option maxHeartbeats 4000000 in
set_option maxRecDepth 100000 in
theorem c_Set_followWithCompany {l : Launch} {D : va_G} {t : Nat → ClassId} {w : wf_W} {sz : Nat} {r rl rc rz k b en : Nat} {G C : Nat → Nat} {h hs n E : Nat} {f : Nat → Int32} {st : Nat → Nat → Nat} (hN : nd [r, rl, rc, h, hs]) (hS : w r = some (.inr (3, [.int (nI k), .ref rl, .ref rc, .ref rz, .long (lN b), .long (lN en)]))) (hL : w rl = some (.inl (t 1, 164, .inr (.inl (lA G))))) (hC : w rc = some (.inl (t 1, 40, .inr (.inl (lA C))))) (hM : w h = some (.inr (1, [.int (nI k), .ref hs, .int (nI n), .long (lN E)]))) (hF : w hs = some (.inl (t 0, 40, .inl (pkA f)))) (hm : mOK k n E f st) : Mv l y_Set_followWithCompany b_Set_followWithCompany 4 none 2 46 0 0 D t w sz [.ref r, .ref h] (fun w' => ∃ G0 : Nat → Nat, (∀ u a, u ≤ 40 → a < k → G0 (u * 4 + a) = if u < n then C (stp k n st u a) else 0) ∧ w' = wf_l w [(r, .inr (3, [.int (nI k), .ref rl, .ref rc, .ref rz, .long (lN (C 0)), .long (lN E)])), (rl, .inl (t 1, 164, .inr (.inl (lA G0)))), (rc, .inl (t 1, 40, .inr (.inl (lA C)))), (h, .inr (1, [.int (nI k), .ref hs, .int (nI n), .long (lN E)])), (hs, .inl (t 0, 40, .inl (pkA f)))]) := by
  refine start_v (by decide) (Nat.le_of_ble_eq_true rfl) ?_
  intro p e s m below meth c ls H locs X hB hl
  have hx := X.1
  have hb := X.2.1
  have hl : lv_has ls 4 [(0, .ref r), (1, .ref h)] := hl
  have hB : wf_B D wcl (wf_A w s.heap.size) s.heap (wf_l w [(r, .inr (3, [.int (nI k), .ref rl, .ref rc, .ref rz, .long (lN b), .long (lN en)])), (rl, .inl (t 1, 164, .inr (.inl (lA G)))), (rc, .inl (t 1, 40, .inr (.inl (lA C)))), (h, .inr (1, [.int (nI k), .ref hs, .int (nI n), .long (lN E)])), (hs, .inl (t 0, 40, .inl (pkA f)))]) H locs := wf_Bto (wf_l5 hS hL hC hM hF).symm hB
  have hk := hm.1
  have hn := hm.2.1
  have hn0 := hm.2.2.1
  have hE := hm.E40
  refine lv_aload_n hx hb d_Set_followWithCompany_0 rfl (lv_at hl 0 rfl) ?_
  refine callVv (As := []) (rest := []) X hB wf_hA (c_Set_forgetLeads (l := l) (D := D) (t := t) (w := (wf_l w [(r, .inr (3, [.int (nI k), .ref rl, .ref rc, .ref rz, .long (lN b), .long (lN en)])), (rl, .inl (t 1, 164, .inr (.inl (lA G)))), (rc, .inl (t 1, 40, .inr (.inl (lA C)))), (h, .inr (1, [.int (nI k), .ref hs, .int (nI n), .long (lN E)])), (hs, .inl (t 0, 40, .inl (pkA f)))])) (sz := H.size) (r := r) (rl := rl) (rc := rc) (rz := rz) (k := k) (b := b) (en := en) (G := G) (nd_sub hN [0, 1] rfl (by decide)) (wf_lg (w := w) (l := [(r, .inr (3, [.int (nI k), .ref rl, .ref rc, .ref rz, .long (lN b), .long (lN en)])), (rl, .inl (t 1, 164, .inr (.inl (lA G)))), (rc, .inl (t 1, 40, .inr (.inl (lA C)))), (h, .inr (1, [.int (nI k), .ref hs, .int (nI n), .long (lN E)])), (hs, .inl (t 0, 40, .inl (pkA f)))]) hN 0 rfl) (wf_lg (w := w) (l := [(r, .inr (3, [.int (nI k), .ref rl, .ref rc, .ref rz, .long (lN b), .long (lN en)])), (rl, .inl (t 1, 164, .inr (.inl (lA G)))), (rc, .inl (t 1, 40, .inr (.inl (lA C)))), (h, .inr (1, [.int (nI k), .ref hs, .int (nI n), .long (lN E)])), (hs, .inl (t 0, 40, .inl (pkA f)))]) hN 1 rfl)) k_612 k_614 k_19 k_70 k_615 (wf_lg (w := w) (l := [(r, .inr (3, [.int (nI k), .ref rl, .ref rc, .ref rz, .long (lN b), .long (lN en)])), (rl, .inl (t 1, 164, .inr (.inl (lA G)))), (rc, .inl (t 1, 40, .inr (.inl (lA C)))), (h, .inr (1, [.int (nI k), .ref hs, .int (nI n), .long (lN E)])), (hs, .inl (t 0, 40, .inl (pkA f)))]) hN 0 rfl) cl_Set rfl hd_Set_forgetLeads ⟨Nat.le_of_ble_eq_true rfl, Nat.le_of_ble_eq_true rfl⟩ ⟨Nat.le_of_ble_eq_true rfl, Nat.le_of_ble_eq_true rfl⟩ hl.1 (Nat.le_of_ble_eq_true rfl) d_Set_followWithCompany_1 rfl (fun w1 H locs hp hB => ?_)
  obtain ⟨G0_1, hG0_1, hw_1⟩ := hp
  have hB : wf_B D wcl (wf_A w s.heap.size) s.heap (wf_l w [(r, .inr (3, [.int (nI k), .ref rl, .ref rc, .ref rz, .long (lN b), .long (lN en)])), (rl, .inl (t 1, 164, .inr (.inl (lA G0_1)))), (rc, .inl (t 1, 40, .inr (.inl (lA C)))), (h, .inr (1, [.int (nI k), .ref hs, .int (nI n), .long (lN E)])), (hs, .inl (t 0, 40, .inl (pkA f)))]) H locs := wf_Bto (hw_1.trans (wlw (L1 := [(r, .inr (3, [.int (nI k), .ref rl, .ref rc, .ref rz, .long (lN b), .long (lN en)])), (rl, .inl (t 1, 164, .inr (.inl (lA G)))), (rc, .inl (t 1, 40, .inr (.inl (lA C)))), (h, .inr (1, [.int (nI k), .ref hs, .int (nI n), .long (lN E)])), (hs, .inl (t 0, 40, .inl (pkA f)))]) hN 0 rfl rfl (wlw (L1 := [(r, .inr (3, [.int (nI k), .ref rl, .ref rc, .ref rz, .long (lN b), .long (lN en)])), (rl, .inl (t 1, 164, .inr (.inl (lA G0_1)))), (rc, .inl (t 1, 40, .inr (.inl (lA C)))), (h, .inr (1, [.int (nI k), .ref hs, .int (nI n), .long (lN E)])), (hs, .inl (t 0, 40, .inl (pkA f)))]) hN 1 rfl rfl rfl))) hB
  refine lv_iconst (v := nI 0) hx hb d_Set_followWithCompany_4 (by decide) ?_
  refine lv_istore_n (lv' := [(2, .int (nI 0)), (0, .ref r), (1, .ref h)]) hx hb d_Set_followWithCompany_5 rfl hl (by decide) rfl (fun ls hl => ?_)
  refine c_Set_followWithCompany_L6 (l := l) X hN hS hL hC hM hF hm (fun i K hi hg he H locs ls hl hB => ?_) (n - 0 + 1) 0 G0_1 (by omega) (by intro u a hu ha; rw [if_neg (by omega)]; exact hG0_1 _ (by omega)) (by omega) H locs ls (lv_sub hl [1, 2, 0] rfl) hB
  refine lv_aload_n hx hb d_Set_followWithCompany_52 rfl (lv_at hl 0 rfl) ?_
  refine lv_aload_n hx hb d_Set_followWithCompany_53 rfl (lv_at hl 0 rfl) ?_
  refine lv_iconst (v := nI 0) hx hb d_Set_followWithCompany_54 (by decide) ?_
  refine callVl (As := [.int (nI 0)]) (rest := [.ref r]) X hB wf_hA (c_Set_companyOf (l := l) (D := D) (t := t) (w := (wf_l w [(r, .inr (3, [.int (nI k), .ref rl, .ref rc, .ref rz, .long (lN b), .long (lN en)])), (rl, .inl (t 1, 164, .inr (.inl (lA K)))), (rc, .inl (t 1, 40, .inr (.inl (lA C)))), (h, .inr (1, [.int (nI k), .ref hs, .int (nI n), .long (lN E)])), (hs, .inl (t 0, 40, .inl (pkA f)))])) (sz := H.size) (r := r) (rl := rl) (rc := rc) (rz := rz) (k := k) (b := b) (en := en) (C := C) (u := 0) (wf_lg (w := w) (l := [(r, .inr (3, [.int (nI k), .ref rl, .ref rc, .ref rz, .long (lN b), .long (lN en)])), (rl, .inl (t 1, 164, .inr (.inl (lA K)))), (rc, .inl (t 1, 40, .inr (.inl (lA C)))), (h, .inr (1, [.int (nI k), .ref hs, .int (nI n), .long (lN E)])), (hs, .inl (t 0, 40, .inl (pkA f)))]) hN 0 rfl) (wf_lg (w := w) (l := [(r, .inr (3, [.int (nI k), .ref rl, .ref rc, .ref rz, .long (lN b), .long (lN en)])), (rl, .inl (t 1, 164, .inr (.inl (lA K)))), (rc, .inl (t 1, 40, .inr (.inl (lA C)))), (h, .inr (1, [.int (nI k), .ref hs, .int (nI n), .long (lN E)])), (hs, .inl (t 0, 40, .inl (pkA f)))]) hN 2 rfl) (by decide)) k_617 k_619 k_20 k_70 k_620 (wf_lg (w := w) (l := [(r, .inr (3, [.int (nI k), .ref rl, .ref rc, .ref rz, .long (lN b), .long (lN en)])), (rl, .inl (t 1, 164, .inr (.inl (lA K)))), (rc, .inl (t 1, 40, .inr (.inl (lA C)))), (h, .inr (1, [.int (nI k), .ref hs, .int (nI n), .long (lN E)])), (hs, .inl (t 0, 40, .inl (pkA f)))]) hN 0 rfl) cl_Set rfl hd_Set_companyOf ⟨Nat.le_of_ble_eq_true rfl, Nat.le_of_ble_eq_true rfl⟩ ⟨Nat.le_of_ble_eq_true rfl, Nat.le_of_ble_eq_true rfl⟩ hl.1 (Nat.le_of_ble_eq_true rfl) d_Set_followWithCompany_55 rfl (fun r_55 w1 H locs hp hB => ?_)
  obtain ⟨rfl, hw_55⟩ := hp
  have hB : wf_B D wcl (wf_A w s.heap.size) s.heap (wf_l w [(r, .inr (3, [.int (nI k), .ref rl, .ref rc, .ref rz, .long (lN b), .long (lN en)])), (rl, .inl (t 1, 164, .inr (.inl (lA K)))), (rc, .inl (t 1, 40, .inr (.inl (lA C)))), (h, .inr (1, [.int (nI k), .ref hs, .int (nI n), .long (lN E)])), (hs, .inl (t 0, 40, .inl (pkA f)))]) H locs := wf_Bto hw_55 hB
  refine wf_tl (y := lN (C 0)) (by rfl) ?_
  refine rput X hB hN 0 (wl' := [(r, .inr (3, [.int (nI k), .ref rl, .ref rc, .ref rz, .long (lN (C 0)), .long (lN en)])), (rl, .inl (t 1, 164, .inr (.inl (lA K)))), (rc, .inl (t 1, 40, .inr (.inl (lA C)))), (h, .inr (1, [.int (nI k), .ref hs, .int (nI n), .long (lN E)])), (hs, .inl (t 0, 40, .inl (pkA f)))]) i_Set t_Set_ok n_Set rfl cl_Set 4 (by decide) k_185 rfl rfl rfl rfl (Nat.le_of_ble_eq_true rfl) d_Set_followWithCompany_58 rfl (fun H locs hB => ?_)
  refine lv_aload_n hx hb d_Set_followWithCompany_61 rfl (lv_at hl 0 rfl) ?_
  refine lv_aload_n hx hb d_Set_followWithCompany_62 rfl (lv_at hl 1 rfl) ?_
  refine rgetNL X hB hN 3 i_Mac rfl cl_Mac 3 (by decide) k_128 rfl rfl d_Set_followWithCompany_63 ?_
  refine rput X hB hN 0 (wl' := [(r, .inr (3, [.int (nI k), .ref rl, .ref rc, .ref rz, .long (lN (C 0)), .long (lN E)])), (rl, .inl (t 1, 164, .inr (.inl (lA K)))), (rc, .inl (t 1, 40, .inr (.inl (lA C)))), (h, .inr (1, [.int (nI k), .ref hs, .int (nI n), .long (lN E)])), (hs, .inl (t 0, 40, .inl (pkA f)))]) i_Set t_Set_ok n_Set rfl cl_Set 5 (by decide) k_186 rfl rfl rfl rfl (Nat.le_of_ble_eq_true rfl) d_Set_followWithCompany_66 rfl (fun H locs hB => ?_)
  refine ret_v X hB d_Set_followWithCompany_69 ?_
  subst he; exact ⟨K, hg, rfl⟩
