/-! PLACES -/
def mrk (K L : Nat → Nat) (u : Nat) : Nat → Nat
  | 0 => K u
  | a + 1 => mrk K L u a * 64 + K (L (u * 4 + a))
theorem mrk_lt {K L : Nat → Nat} {z u : Nat} (hK : ∀ p, p < z → K p < 64) {i : Nat} (hL : ∀ b, b < i → L (u * 4 + b) < z) (hu : u < z) : ∀ j, j ≤ i → mrk K L u j < 64 ^ (j + 1)
  | 0, _ => by have := hK u hu; simpa [mrk] using this
  | j + 1, h => by
    have ih := mrk_lt hK hL hu j (by omega)
    have h2 := hK _ (hL j (by omega))
    rw [mrk, Nat.pow_succ]
    omega
theorem mrk_lt4 {x i : Nat} (h : x < 64 ^ (i + 1)) (hi : i < 4) : x < 16777216 := Nat.lt_of_lt_of_le h (Nat.le_trans (Nat.pow_le_pow_right (by decide) (show i + 1 ≤ 4 by omega)) (by decide))
theorem shl6 {n : Nat} (h : n < 16777216) : nI n <<< (nI 6 &&& 31) = nI (n * 64) := pk_shlN (nI 6 &&& 31) 6 (by decide) (by omega)
theorem or6 {n x : Nat} (hx : x < 64) (hn : n < 16777216) : nI (n * 64) ||| nI x = nI (n * 64 + x) := by
  apply Int32.toBitVec_inj.mp
  rw [Int32.toBitVec_or]
  show BitVec.ofNat 32 _ ||| BitVec.ofNat 32 _ = BitVec.ofNat 32 _
  rw [← BitVec.ofNat_or]
  congr 1
  have := Nat.two_pow_add_eq_or_of_lt (i := 6) (b := x) hx n
  rw [show n * 64 = 2 ^ 6 * n by omega, ← this]
set_option maxHeartbeats 4000000 in
set_option maxRecDepth 100000 in
theorem c_Pla_numberOf_L2 {l : Launch} {D : va_G} {t : Nat → ClassId} {w : wf_W} {g pf pl pz pk pn pm k z : Nat} {F : Nat → Nat} {x : Nat}  {p : Program} {e : Env} {s : State} {m : MethodId} {below : List Frame} {meth : Method} {c : Code} (X : Cx p s m meth c R_Pla "numberOf" b_Pla_numberOf 4 (some .int) D t) (hN : nd [g, pf]) (hP : w g = some (.inr (2, [.int (nI k), .ref pf, .ref pl, .ref pz, .ref pk, .ref pn, .ref pm, .int (nI z)]))) (hPf : w pf = some (.inl (t 1, 200, .inr (.inl (lA F))))) (hz : z ≤ 200) (hF : ∀ i, i < z → F i < 2 ^ 62) (hx62 : x < 2 ^ 62)
    (K_29 : ∀ (i : Nat), (i ≤ z) → (∀ j, j < i → F j ≠ x) → (i = z) → ∀ (H : Heap) (locs : List Loc) (ls : Array Slot), lv_has ls 4 [(0, .ref g), (1, .long (lN x)), (3, .int (nI i))] → wf_B D wcl (wf_A w s.heap.size) s.heap (wf_l w [(g, .inr (2, [.int (nI k), .ref pf, .ref pl, .ref pz, .ref pk, .ref pn, .ref pm, .int (nI z)])), (pf, .inl (t 1, 200, .inr (.inl (lA F))))]) H locs → W p l e (rmk 0 0 0 0) s m [.ref g, .long (lN x)].toArray below meth c H locs 0 0 (MQ below (wf_Qi D wcl w (fun r w' => (∃ i0 : Nat, (i0 < z) ∧ (F i0 = x) ∧ r = (nI i0) ∧ w' = wf_l w [(g, .inr (2, [.int (nI k), .ref pf, .ref pl, .ref pz, .ref pk, .ref pn, .ref pm, .int (nI z)])), (pf, .inl (t 1, 200, .inr (.inl (lA F))))]) ∨ ((∀ i, i < z → F i ≠ x) ∧ (z < 200) ∧ r = (nI z) ∧ w' = wf_l w [(g, .inr (2, [.int (nI k), .ref pf, .ref pl, .ref pz, .ref pk, .ref pn, .ref pm, .int (nI (z + 1))])), (pf, .inl (t 1, 200, .inr (.inl (lA (nu F z x)))))]) ∨ ((∀ i, i < z → F i ≠ x) ∧ (z = 200) ∧ r = (-1) ∧ w' = wf_l w [(g, .inr (2, [.int (nI k), .ref pf, .ref pl, .ref pz, .ref pk, .ref pn, .ref pm, .int (nI z)])), (pf, .inl (t 1, 200, .inr (.inl (lA F))))])) s.heap.size) [.ref g, .long (lN x)].toArray s 0 0 (wf_A w s.heap.size)) (F0 m 29 ls [])) :
    ∀ (fu : Nat) (i : Nat), (i ≤ z) → (∀ j, j < i → F j ≠ x) → z - i < fu → ∀ (H : Heap) (locs : List Loc) (ls : Array Slot), lv_has ls 4 [(0, .ref g), (1, .long (lN x)), (3, .int (nI i))] → wf_B D wcl (wf_A w s.heap.size) s.heap (wf_l w [(g, .inr (2, [.int (nI k), .ref pf, .ref pl, .ref pz, .ref pk, .ref pn, .ref pm, .int (nI z)])), (pf, .inl (t 1, 200, .inr (.inl (lA F))))]) H locs → W p l e (rmk 0 0 0 0) s m [.ref g, .long (lN x)].toArray below meth c H locs 0 0 (MQ below (wf_Qi D wcl w (fun r w' => (∃ i0 : Nat, (i0 < z) ∧ (F i0 = x) ∧ r = (nI i0) ∧ w' = wf_l w [(g, .inr (2, [.int (nI k), .ref pf, .ref pl, .ref pz, .ref pk, .ref pn, .ref pm, .int (nI z)])), (pf, .inl (t 1, 200, .inr (.inl (lA F))))]) ∨ ((∀ i, i < z → F i ≠ x) ∧ (z < 200) ∧ r = (nI z) ∧ w' = wf_l w [(g, .inr (2, [.int (nI k), .ref pf, .ref pl, .ref pz, .ref pk, .ref pn, .ref pm, .int (nI (z + 1))])), (pf, .inl (t 1, 200, .inr (.inl (lA (nu F z x)))))]) ∨ ((∀ i, i < z → F i ≠ x) ∧ (z = 200) ∧ r = (-1) ∧ w' = wf_l w [(g, .inr (2, [.int (nI k), .ref pf, .ref pl, .ref pz, .ref pk, .ref pn, .ref pm, .int (nI z)])), (pf, .inl (t 1, 200, .inr (.inl (lA F))))])) s.heap.size) [.ref g, .long (lN x)].toArray s 0 0 (wf_A w s.heap.size)) (F0 m 2 ls []) := by
  have hx := X.1
  have hb := X.2.1
  intro fu
  induction fu with
  | zero => intro i hi hno hfu; exact absurd hfu (Nat.not_lt_zero _)
  | succ fu ih =>
    intro i hi hno hfu H locs ls hl hB
    refine lv_iload_n hx hb d_Pla_numberOf_2 rfl (lv_at hl 2 rfl) ?_
    refine lv_aload_n hx hb d_Pla_numberOf_3 rfl (lv_at hl 0 rfl) ?_
    refine rgetL X hB hN 0 i_Pla rfl cl_Pla 7 (by decide) k_151 rfl rfl d_Pla_numberOf_4 ?_
    refine wf_cge (tgt := 29) hx hb d_Pla_numberOf_7 (by decide) (nI_toInt (by omega)) (nI_toInt (by omega)) (fun c_7 => ?_) (fun c_7 => ?_)
    · exact K_29 i hi hno (by omega) H locs ls (lv_sub hl [0, 1, 2] rfl) hB
    · refine lv_aload_n hx hb d_Pla_numberOf_10 rfl (lv_at hl 0 rfl) ?_
      refine rgetL X hB hN 0 i_Pla rfl cl_Pla 1 (by decide) k_145 rfl rfl d_Pla_numberOf_11 ?_
      refine lv_iload_n hx hb d_Pla_numberOf_14 rfl (lv_at hl 2 rfl) ?_
      refine rlaldL X hB hN 1 rfl (i := i) (by omega) (by decide) d_Pla_numberOf_15 ?_
      refine wf_tl (y := lN (F i)) rfl ?_
      refine lv_lload_n hx hb d_Pla_numberOf_16 rfl (lv_at hl 1 rfl) ?_
      refine W.lcmp hx hb d_Pla_numberOf_17 ?_
      refine wf_lne (tgt := 23) hx hb d_Pla_numberOf_18 (by decide) (pk_lT (by have := hF i (by omega); omega)) (pk_lT (by omega)) (fun c_18 => ?_) (fun c_18 => ?_)
      · refine lv_iinc (v := nI (i + 1)) (lv' := [(3, .int (nI (i + 1))), (0, .ref g), (1, .long (lN x))]) hx hb d_Pla_numberOf_23 hl (k := 2) rfl (show nI i + nI 1 = nI (i + 1) from nI_add _ _) (by decide) rfl (fun ls hl => ?_)
        refine lv_goto (tgt := 2) hx hb d_Pla_numberOf_26 (by decide) ?_
        exact ih (i + 1) (by omega) (by intro j hj q; by_cases e9 : j = i; (rw [e9] at q; omega); exact hno j (by omega) q) (by omega) H locs ls (lv_sub hl [1, 2, 0] rfl) hB
      · refine lv_iload_n hx hb d_Pla_numberOf_21 rfl (lv_at hl 2 rfl) ?_
        refine ret_i X hB d_Pla_numberOf_22 ?_
        exact Or.inl ⟨i, by omega, by omega, rfl, rfl⟩
set_option maxHeartbeats 4000000 in
set_option maxRecDepth 100000 in
theorem c_Pla_numberOf {l : Launch} {D : va_G} {t : Nat → ClassId} {w : wf_W} {sz : Nat} {g pf pl pz pk pn pm k z : Nat} {F : Nat → Nat} {x : Nat} (hN : nd [g, pf]) (hP : w g = some (.inr (2, [.int (nI k), .ref pf, .ref pl, .ref pz, .ref pk, .ref pn, .ref pm, .int (nI z)]))) (hPf : w pf = some (.inl (t 1, 200, .inr (.inl (lA F))))) (hz : z ≤ 200) (hF : ∀ i, i < z → F i < 2 ^ 62) (hx62 : x < 2 ^ 62) : Mi l y_Pla_numberOf b_Pla_numberOf 4 (some .int) 0 0 0 0 D t w sz [.ref g, .long (lN x)] (fun r w' => (∃ i0 : Nat, (i0 < z) ∧ (F i0 = x) ∧ r = (nI i0) ∧ w' = wf_l w [(g, .inr (2, [.int (nI k), .ref pf, .ref pl, .ref pz, .ref pk, .ref pn, .ref pm, .int (nI z)])), (pf, .inl (t 1, 200, .inr (.inl (lA F))))]) ∨ ((∀ i, i < z → F i ≠ x) ∧ (z < 200) ∧ r = (nI z) ∧ w' = wf_l w [(g, .inr (2, [.int (nI k), .ref pf, .ref pl, .ref pz, .ref pk, .ref pn, .ref pm, .int (nI (z + 1))])), (pf, .inl (t 1, 200, .inr (.inl (lA (nu F z x)))))]) ∨ ((∀ i, i < z → F i ≠ x) ∧ (z = 200) ∧ r = (-1) ∧ w' = wf_l w [(g, .inr (2, [.int (nI k), .ref pf, .ref pl, .ref pz, .ref pk, .ref pn, .ref pm, .int (nI z)])), (pf, .inl (t 1, 200, .inr (.inl (lA F))))])) := by
  refine start_i (by decide) (Nat.le_of_ble_eq_true rfl) ?_
  intro p e s m below meth c ls H locs X hB hl
  have hx := X.1
  have hb := X.2.1
  have hl : lv_has ls 4 [(0, .ref g), (1, .long (lN x))] := hl
  have hB : wf_B D wcl (wf_A w s.heap.size) s.heap (wf_l w [(g, .inr (2, [.int (nI k), .ref pf, .ref pl, .ref pz, .ref pk, .ref pn, .ref pm, .int (nI z)])), (pf, .inl (t 1, 200, .inr (.inl (lA F))))]) H locs := wf_Bto (wf_l2 hP hPf).symm hB
  refine lv_iconst (v := nI 0) hx hb d_Pla_numberOf_0 (by decide) ?_
  refine lv_istore_n (lv' := [(3, .int (nI 0)), (0, .ref g), (1, .long (lN x))]) hx hb d_Pla_numberOf_1 rfl hl (by decide) rfl (fun ls hl => ?_)
  refine c_Pla_numberOf_L2 (l := l) X hN hP hPf hz hF hx62 (fun i hi hno he H locs ls hl hB => ?_) (z - 0 + 1) 0 (by omega) (by intro j hj; omega) (by omega) H locs ls (lv_sub hl [1, 2, 0] rfl) hB
  refine lv_aload_n hx hb d_Pla_numberOf_29 rfl (lv_at hl 0 rfl) ?_
  refine rgetL X hB hN 0 i_Pla rfl cl_Pla 7 (by decide) k_151 rfl rfl d_Pla_numberOf_30 ?_
  refine lv_sipush (v := nI 200) hx hb d_Pla_numberOf_33 (by decide) ?_
  refine wf_clt (tgt := 41) hx hb d_Pla_numberOf_36 (by decide) (nI_toInt (by omega)) (nI_toInt (by omega)) (fun c_36 => ?_) (fun c_36 => ?_)
  · refine lv_aload_n hx hb d_Pla_numberOf_41 rfl (lv_at hl 0 rfl) ?_
    refine rgetL X hB hN 0 i_Pla rfl cl_Pla 1 (by decide) k_145 rfl rfl d_Pla_numberOf_42 ?_
    refine lv_aload_n hx hb d_Pla_numberOf_45 rfl (lv_at hl 0 rfl) ?_
    refine rgetL X hB hN 0 i_Pla rfl cl_Pla 7 (by decide) k_151 rfl rfl d_Pla_numberOf_46 ?_
    refine lv_lload_n hx hb d_Pla_numberOf_49 rfl (lv_at hl 1 rfl) ?_
    refine rlastA X hB hN 1 (wl' := [(g, .inr (2, [.int (nI k), .ref pf, .ref pl, .ref pz, .ref pk, .ref pn, .ref pm, .int (nI z)])), (pf, .inl (t 1, 200, .inr (.inl (lA (nu F z x)))))]) rfl (i := z) (by omega) (by decide) d_Pla_numberOf_50 rfl (fun H locs hB => ?_)
    refine lv_aload_n hx hb d_Pla_numberOf_51 rfl (lv_at hl 0 rfl) ?_
    refine lv_dup hx hb d_Pla_numberOf_52 rfl ?_
    refine rgetL X hB hN 0 i_Pla rfl cl_Pla 7 (by decide) k_151 rfl rfl d_Pla_numberOf_53 ?_
    refine lv_iconst (v := nI 1) hx hb d_Pla_numberOf_56 (by decide) ?_
    refine wf_iadd (x := z) (y := 1) hx hb d_Pla_numberOf_57 ?_
    refine rput X hB hN 0 (wl' := [(g, .inr (2, [.int (nI k), .ref pf, .ref pl, .ref pz, .ref pk, .ref pn, .ref pm, .int (nI (z + 1))])), (pf, .inl (t 1, 200, .inr (.inl (lA (nu F z x)))))]) i_Pla t_Pla_ok n_Pla rfl cl_Pla 7 (by decide) k_151 rfl rfl rfl rfl (Nat.le_of_ble_eq_true rfl) d_Pla_numberOf_58 rfl (fun H locs hB => ?_)
    refine lv_aload_n hx hb d_Pla_numberOf_61 rfl (lv_at hl 0 rfl) ?_
    refine rgetL X hB hN 0 i_Pla rfl cl_Pla 7 (by decide) k_151 rfl rfl d_Pla_numberOf_62 ?_
    refine lv_iconst (v := nI 1) hx hb d_Pla_numberOf_65 (by decide) ?_
    refine wf_isub (x := z + 1) (y := 1) hx hb d_Pla_numberOf_66 (by omega) ?_
    refine wf_ti (y := nI z) (by rw [Nat.add_sub_cancel]) ?_
    refine ret_i X hB d_Pla_numberOf_67 ?_
    exact Or.inr (Or.inl ⟨fun j hj => hno j (by omega), by omega, rfl, rfl⟩)
  · refine lv_iconst (v := (-1)) hx hb d_Pla_numberOf_39 (by decide) ?_
    refine ret_i X hB d_Pla_numberOf_40 ?_
    exact Or.inr (Or.inr ⟨fun j hj => hno j (by omega), by omega, rfl, rfl⟩)
set_option maxHeartbeats 4000000 in
set_option maxRecDepth 100000 in
theorem c_Pla_splitByEnd_L2 {l : Launch} {D : va_G} {t : Nat → ClassId} {w : wf_W} {g pf pl pz pk pn pm k z : Nat} {K : Nat → Nat} {Z : Nat → Bool}  {p : Program} {e : Env} {s : State} {m : MethodId} {below : List Frame} {meth : Method} {c : Code} {Q : State → Prop} (X : Cx p s m meth c R_Pla "splitByEnd" b_Pla_splitByEnd 2 none D t) (hN : nd [g, pz, pk]) (hP : w g = some (.inr (2, [.int (nI k), .ref pf, .ref pl, .ref pz, .ref pk, .ref pn, .ref pm, .int (nI z)]))) (hPz : w pz = some (.inl (t 2, 200, .inl (zA Z)))) (hPk : w pk = some (.inl (t 0, 200, .inl (iA K)))) (hz : z ≤ 200)
    (K_36 : ∀ (i : Nat) (K1 : Nat → Nat), (i ≤ z) → (∀ p, p < i → K1 p = if Z p = true then 1 else 0) → (i = z) → ∀ (H : Heap) (locs : List Loc) (ls : Array Slot), lv_has ls 2 [(0, .ref g), (1, .int (nI i))] → wf_B D wcl (wf_A w s.heap.size) s.heap (wf_l w [(g, .inr (2, [.int (nI k), .ref pf, .ref pl, .ref pz, .ref pk, .ref pn, .ref pm, .int (nI z)])), (pz, .inl (t 2, 200, .inl (zA Z))), (pk, .inl (t 0, 200, .inl (iA K1)))]) H locs → W p l e (rmk 0 0 0 0) s m [.ref g].toArray below meth c H locs 0 0 Q (F0 m 36 ls [])) :
    ∀ (fu : Nat) (i : Nat) (K1 : Nat → Nat), (i ≤ z) → (∀ p, p < i → K1 p = if Z p = true then 1 else 0) → z - i < fu → ∀ (H : Heap) (locs : List Loc) (ls : Array Slot), lv_has ls 2 [(0, .ref g), (1, .int (nI i))] → wf_B D wcl (wf_A w s.heap.size) s.heap (wf_l w [(g, .inr (2, [.int (nI k), .ref pf, .ref pl, .ref pz, .ref pk, .ref pn, .ref pm, .int (nI z)])), (pz, .inl (t 2, 200, .inl (zA Z))), (pk, .inl (t 0, 200, .inl (iA K1)))]) H locs → W p l e (rmk 0 0 0 0) s m [.ref g].toArray below meth c H locs 0 0 Q (F0 m 2 ls []) := by
  have hx := X.1
  have hb := X.2.1
  intro fu
  induction fu with
  | zero => intro i K1 hi hg hfu; exact absurd hfu (Nat.not_lt_zero _)
  | succ fu ih =>
    intro i K1 hi hg hfu H locs ls hl hB
    refine lv_iload_n hx hb d_Pla_splitByEnd_2 rfl (lv_at hl 1 rfl) ?_
    refine lv_aload_n hx hb d_Pla_splitByEnd_3 rfl (lv_at hl 0 rfl) ?_
    refine rgetL X hB hN 0 i_Pla rfl cl_Pla 7 (by decide) k_151 rfl rfl d_Pla_splitByEnd_4 ?_
    refine wf_cge (tgt := 36) hx hb d_Pla_splitByEnd_7 (by decide) (nI_toInt (by omega)) (nI_toInt (by omega)) (fun c_7 => ?_) (fun c_7 => ?_)
    · exact K_36 i K1 hi hg (by omega) H locs ls (lv_sub hl [0, 1] rfl) hB
    · refine lv_aload_n hx hb d_Pla_splitByEnd_10 rfl (lv_at hl 0 rfl) ?_
      refine rgetL X hB hN 0 i_Pla rfl cl_Pla 4 (by decide) k_148 rfl rfl d_Pla_splitByEnd_11 ?_
      refine lv_iload_n hx hb d_Pla_splitByEnd_14 rfl (lv_at hl 1 rfl) ?_
      refine lv_aload_n hx hb d_Pla_splitByEnd_15 rfl (lv_at hl 0 rfl) ?_
      refine rgetL X hB hN 0 i_Pla rfl cl_Pla 3 (by decide) k_147 rfl rfl d_Pla_splitByEnd_16 ?_
      refine lv_iload_n hx hb d_Pla_splitByEnd_19 rfl (lv_at hl 1 rfl) ?_
      refine rzaldL X hB hN 1 rfl (i := i) (by omega) (by decide) d_Pla_splitByEnd_20 ?_
      refine wf_ti (y := bI (Z i)) rfl ?_
      refine wf_beq (tgt := 28) hx hb d_Pla_splitByEnd_21 (by decide) (fun c_21 => ?_) (fun c_21 => ?_)
      · refine lv_iconst (v := nI 0) hx hb d_Pla_splitByEnd_28 (by decide) ?_
        refine riastA X hB hN 2 (wl' := [(g, .inr (2, [.int (nI k), .ref pf, .ref pl, .ref pz, .ref pk, .ref pn, .ref pm, .int (nI z)])), (pz, .inl (t 2, 200, .inl (zA Z))), (pk, .inl (t 0, 200, .inl (iA (nu K1 i 0))))]) rfl (i := i) (by omega) (by decide) d_Pla_splitByEnd_29 rfl (fun H locs hB => ?_)
        refine lv_iinc (v := nI (i + 1)) (lv' := [(1, .int (nI (i + 1))), (0, .ref g)]) hx hb d_Pla_splitByEnd_30 hl (k := 1) rfl (show nI i + nI 1 = nI (i + 1) from nI_add _ _) (by decide) rfl (fun ls hl => ?_)
        refine lv_goto (tgt := 2) hx hb d_Pla_splitByEnd_33 (by decide) ?_
        exact ih (i + 1) (nu K1 i 0) (by omega) (by intro p hp; by_cases e9 : p = i; (rw [nu_e e9, e9, c_21]; rfl); rw [nu_n e9]; exact hg p (by omega)) (by omega) H locs ls (lv_sub hl [1, 0] rfl) hB
      · refine lv_iconst (v := nI 1) hx hb d_Pla_splitByEnd_24 (by decide) ?_
        refine lv_goto (tgt := 29) hx hb d_Pla_splitByEnd_25 (by decide) ?_
        refine riastA X hB hN 2 (wl' := [(g, .inr (2, [.int (nI k), .ref pf, .ref pl, .ref pz, .ref pk, .ref pn, .ref pm, .int (nI z)])), (pz, .inl (t 2, 200, .inl (zA Z))), (pk, .inl (t 0, 200, .inl (iA (nu K1 i 1))))]) rfl (i := i) (by omega) (by decide) d_Pla_splitByEnd_29 rfl (fun H locs hB => ?_)
        refine lv_iinc (v := nI (i + 1)) (lv' := [(1, .int (nI (i + 1))), (0, .ref g)]) hx hb d_Pla_splitByEnd_30 hl (k := 1) rfl (show nI i + nI 1 = nI (i + 1) from nI_add _ _) (by decide) rfl (fun ls hl => ?_)
        refine lv_goto (tgt := 2) hx hb d_Pla_splitByEnd_33 (by decide) ?_
        exact ih (i + 1) (nu K1 i 1) (by omega) (by intro p hp; by_cases e9 : p = i; (rw [nu_e e9, e9, c_21]; rfl); rw [nu_n e9]; exact hg p (by omega)) (by omega) H locs ls (lv_sub hl [1, 0] rfl) hB
set_option maxHeartbeats 4000000 in
set_option maxRecDepth 100000 in
theorem c_Pla_splitByEnd {l : Launch} {D : va_G} {t : Nat → ClassId} {w : wf_W} {sz : Nat} {g pf pl pz pk pn pm k z : Nat} {K : Nat → Nat} {Z : Nat → Bool} (hN : nd [g, pz, pk]) (hP : w g = some (.inr (2, [.int (nI k), .ref pf, .ref pl, .ref pz, .ref pk, .ref pn, .ref pm, .int (nI z)]))) (hPz : w pz = some (.inl (t 2, 200, .inl (zA Z)))) (hPk : w pk = some (.inl (t 0, 200, .inl (iA K)))) (hz : z ≤ 200) : Mv l y_Pla_splitByEnd b_Pla_splitByEnd 2 none 0 0 0 0 D t w sz [.ref g] (fun w' => ∃ K0 : Nat → Nat, (∀ p, p < z → K0 p = if Z p = true then 1 else 0) ∧ w' = wf_l w [(g, .inr (2, [.int (nI k), .ref pf, .ref pl, .ref pz, .ref pk, .ref pn, .ref pm, .int (nI z)])), (pz, .inl (t 2, 200, .inl (zA Z))), (pk, .inl (t 0, 200, .inl (iA K0)))]) := by
  refine start_v (by decide) (Nat.le_of_ble_eq_true rfl) ?_
  intro p e s m below meth c ls H locs X hB hl
  have hx := X.1
  have hb := X.2.1
  have hl : lv_has ls 2 [(0, .ref g)] := hl
  have hB : wf_B D wcl (wf_A w s.heap.size) s.heap (wf_l w [(g, .inr (2, [.int (nI k), .ref pf, .ref pl, .ref pz, .ref pk, .ref pn, .ref pm, .int (nI z)])), (pz, .inl (t 2, 200, .inl (zA Z))), (pk, .inl (t 0, 200, .inl (iA K)))]) H locs := wf_Bto (wf_l3 hP hPz hPk).symm hB
  refine lv_iconst (v := nI 0) hx hb d_Pla_splitByEnd_0 (by decide) ?_
  refine lv_istore_n (lv' := [(1, .int (nI 0)), (0, .ref g)]) hx hb d_Pla_splitByEnd_1 rfl hl (by decide) rfl (fun ls hl => ?_)
  refine c_Pla_splitByEnd_L2 (l := l) X hN hP hPz hPk hz (fun i K1 hi hg he H locs ls hl hB => ?_) (z - 0 + 1) 0 K (by omega) (by intro p hp; omega) (by omega) H locs ls (lv_sub hl [1, 0] rfl) hB
  refine ret_v X hB d_Pla_splitByEnd_36 ?_
  exact ⟨K1, fun p hp => hg p (by omega), rfl⟩
set_option maxHeartbeats 4000000 in
set_option maxRecDepth 100000 in
theorem c_Pla_kindAfter {l : Launch} {D : va_G} {t : Nat → ClassId} {w : wf_W} {sz : Nat} {g pf pl pz pk pn pm k z : Nat} {L K : Nat → Nat} {u a : Nat} (hP : w g = some (.inr (2, [.int (nI k), .ref pf, .ref pl, .ref pz, .ref pk, .ref pn, .ref pm, .int (nI z)]))) (hPl : w pl = some (.inl (t 0, 800, .inl (iA L)))) (hPk : w pk = some (.inl (t 0, 200, .inl (iA K)))) (hk : k ≤ 4) (hz : z ≤ 200) (hLz : ∀ p a, p < z → a < k → L (p * 4 + a) < z) (hu : u < z) (ha : a < k) : Mi l y_Pla_kindAfter b_Pla_kindAfter 4 (some .int) 0 0 0 0 D t w sz [.ref g, .int (nI u), .int (nI a)] (fun r w' => r = (nI (K (L (u * 4 + a)))) ∧ w' = w) := by
  refine start_i (by decide) (Nat.le_of_ble_eq_true rfl) ?_
  intro p e s m below meth c ls H locs X hB hl
  have hx := X.1
  have hb := X.2.1
  have hl : lv_has ls 4 [(0, .ref g), (1, .int (nI u)), (2, .int (nI a))] := hl
  have hL1 := hLz u a hu ha
  refine lv_aload_n hx hb d_Pla_kindAfter_0 rfl (lv_at hl 0 rfl) ?_
  refine rget X hB  i_Pla hP cl_Pla 2 (by decide) k_146 rfl rfl d_Pla_kindAfter_1 ?_
  refine lv_iload_n hx hb d_Pla_kindAfter_4 rfl (lv_at hl 1 rfl) ?_
  refine lv_iconst (v := nI 4) hx hb d_Pla_kindAfter_5 (by decide) ?_
  refine wf_imul (x := u) (y := 4) hx hb d_Pla_kindAfter_6 ?_
  refine lv_iload_n hx hb d_Pla_kindAfter_7 rfl (lv_at hl 2 rfl) ?_
  refine wf_iadd (x := u * 4) (y := a) hx hb d_Pla_kindAfter_8 ?_
  refine riald X hB  hPl (i := (u * 4) + a) (by omega) (by decide) d_Pla_kindAfter_9 ?_
  refine wf_ti (y := nI (L ((u * 4) + a))) rfl ?_
  refine wf_ti (y := nI (L (u * 4 + a))) (by rfl) ?_
  refine lv_istore_n (lv' := [(3, .int (nI (L (u * 4 + a)))), (0, .ref g), (1, .int (nI u)), (2, .int (nI a))]) hx hb d_Pla_kindAfter_10 rfl hl (by decide) rfl (fun ls hl => ?_)
  refine lv_iload_n hx hb d_Pla_kindAfter_11 rfl (lv_at hl 0 rfl) ?_
  refine wf_zlt (tgt := 32) hx hb d_Pla_kindAfter_12 (by decide) (nI_toInt (by omega)) (fun c_12 => ?_) (fun c_12 => ?_)
  · exact absurd c_12 (by omega)
  · refine lv_iload_n hx hb d_Pla_kindAfter_15 rfl (lv_at hl 0 rfl) ?_
    refine lv_aload_n hx hb d_Pla_kindAfter_16 rfl (lv_at hl 1 rfl) ?_
    refine rget X hB  i_Pla hP cl_Pla 7 (by decide) k_151 rfl rfl d_Pla_kindAfter_17 ?_
    refine wf_cge (tgt := 32) hx hb d_Pla_kindAfter_20 (by decide) (nI_toInt (by omega)) (nI_toInt (by omega)) (fun c_20 => ?_) (fun c_20 => ?_)
    · exact absurd c_20 (by omega)
    · refine lv_aload_n hx hb d_Pla_kindAfter_23 rfl (lv_at hl 1 rfl) ?_
      refine rget X hB  i_Pla hP cl_Pla 4 (by decide) k_148 rfl rfl d_Pla_kindAfter_24 ?_
      refine lv_iload_n hx hb d_Pla_kindAfter_27 rfl (lv_at hl 0 rfl) ?_
      refine riald X hB  hPk (i := L (u * 4 + a)) (by omega) (by decide) d_Pla_kindAfter_28 ?_
      refine wf_ti (y := nI (K (L (u * 4 + a)))) rfl ?_
      refine lv_goto (tgt := 33) hx hb d_Pla_kindAfter_29 (by decide) ?_
      refine ret_i X hB d_Pla_kindAfter_33 ?_
      exact ⟨rfl, rfl⟩
set_option maxHeartbeats 4000000 in
set_option maxRecDepth 100000 in
theorem c_Pla_markOf_L9 {l : Launch} {D : va_G} {t : Nat → ClassId} {w : wf_W} {g pf pl pz pk pn pm k z : Nat} {L K : Nat → Nat} {u : Nat}  {p : Program} {e : Env} {s : State} {m : MethodId} {below : List Frame} {meth : Method} {c : Code} {Q : State → Prop} (X : Cx p s m meth c R_Pla "markOf" b_Pla_markOf 4 (some .int) D t) (hP : w g = some (.inr (2, [.int (nI k), .ref pf, .ref pl, .ref pz, .ref pk, .ref pn, .ref pm, .int (nI z)]))) (hPl : w pl = some (.inl (t 0, 800, .inl (iA L)))) (hPk : w pk = some (.inl (t 0, 200, .inl (iA K)))) (hk : k ≤ 4) (hz : z ≤ 200) (hLz : ∀ p a, p < z → a < k → L (p * 4 + a) < z) (hK64 : ∀ p, p < z → K p < 64) (hu : u < z)
    (K_35 : ∀ (i : Nat), (i ≤ k) → (i = k) → ∀ (H : Heap) (locs : List Loc) (ls : Array Slot), lv_has ls 4 [(0, .ref g), (1, .int (nI u)), (2, .int (nI (mrk K L u i))), (3, .int (nI i))] → wf_B D wcl (wf_A w s.heap.size) s.heap w H locs → W p l e (rmk 1 23 0 0) s m [.ref g, .int (nI u)].toArray below meth c H locs 0 0 Q (F0 m 35 ls [])) :
    ∀ (fu : Nat) (i : Nat), (i ≤ k) → k - i < fu → ∀ (H : Heap) (locs : List Loc) (ls : Array Slot), lv_has ls 4 [(0, .ref g), (1, .int (nI u)), (2, .int (nI (mrk K L u i))), (3, .int (nI i))] → wf_B D wcl (wf_A w s.heap.size) s.heap w H locs → W p l e (rmk 1 23 0 0) s m [.ref g, .int (nI u)].toArray below meth c H locs 0 0 Q (F0 m 9 ls []) := by
  have hx := X.1
  have hb := X.2.1
  intro fu
  induction fu with
  | zero => intro i hi hfu; exact absurd hfu (Nat.not_lt_zero _)
  | succ fu ih =>
    intro i hi hfu H locs ls hl hB
    refine lv_iload_n hx hb d_Pla_markOf_9 rfl (lv_at hl 3 rfl) ?_
    refine lv_aload_n hx hb d_Pla_markOf_10 rfl (lv_at hl 0 rfl) ?_
    refine rget X hB  i_Pla hP cl_Pla 0 (by decide) k_144 rfl rfl d_Pla_markOf_11 ?_
    refine wf_cge (tgt := 35) hx hb d_Pla_markOf_14 (by decide) (nI_toInt (by omega)) (nI_toInt (by omega)) (fun c_14 => ?_) (fun c_14 => ?_)
    · exact K_35 i hi (by omega) H locs ls (lv_sub hl [0, 1, 2, 3] rfl) hB
    · have hb9 := mrk_lt hK64 (fun b hb => hLz u b hu (by omega)) hu i (by omega)
      refine lv_iload_n hx hb d_Pla_markOf_17 rfl (lv_at hl 2 rfl) ?_
      refine lv_bipush (v := nI 6) hx hb d_Pla_markOf_18 (by decide) ?_
      refine lv_ishl hx hb d_Pla_markOf_20 ?_
      refine wf_ti (y := nI (mrk K L u i * 64)) (by exact shl6 (by have := mrk_lt4 hb9 (show i < 4 by omega); omega)) ?_
      refine lv_aload_n hx hb d_Pla_markOf_21 rfl (lv_at hl 0 rfl) ?_
      refine lv_iload_n hx hb d_Pla_markOf_22 rfl (lv_at hl 1 rfl) ?_
      refine lv_iload_n hx hb d_Pla_markOf_23 rfl (lv_at hl 3 rfl) ?_
      refine callVi (As := [.int (nI u), .int (nI i)]) (rest := [.int (nI (mrk K L u i * 64))]) X hB wf_hA (c_Pla_kindAfter (l := l) (D := D) (t := t) (w := w) (sz := H.size) (g := g) (pf := pf) (pl := pl) (pz := pz) (pk := pk) (pn := pn) (pm := pm) (k := k) (z := z) (L := L) (K := K) (u := u) (a := i) hP hPl hPk (by exact hk) (by exact hz) (by omega) (by exact hu) (by omega)) k_503 k_505 k_12 k_68 k_506 hP cl_Pla rfl hd_Pla_kindAfter ⟨Nat.le_of_ble_eq_true rfl, Nat.le_of_ble_eq_true rfl⟩ ⟨Nat.le_of_ble_eq_true rfl, Nat.le_of_ble_eq_true rfl⟩ hl.1 (Nat.le_of_ble_eq_true rfl) d_Pla_markOf_24 rfl (fun r_24 w1 H locs hp hB => ?_)
      obtain ⟨rfl, hw_24⟩ := hp
      have hB : wf_B D wcl (wf_A w s.heap.size) s.heap w H locs := wf_Bto hw_24 hB
      refine lv_ior hx hb d_Pla_markOf_27 ?_
      refine wf_ti (y := nI (mrk K L u (i + 1))) (by rw [mrk]; exact or6 (hK64 _ (hLz u i hu (by omega))) (by have := mrk_lt4 hb9 (show i < 4 by omega); omega)) ?_
      refine lv_istore_n (lv' := [(2, .int (nI (mrk K L u (i + 1)))), (0, .ref g), (1, .int (nI u)), (3, .int (nI i))]) hx hb d_Pla_markOf_28 rfl hl (by decide) rfl (fun ls hl => ?_)
      refine lv_iinc (v := nI (i + 1)) (lv' := [(3, .int (nI (i + 1))), (2, .int (nI (mrk K L u (i + 1)))), (0, .ref g), (1, .int (nI u))]) hx hb d_Pla_markOf_29 hl (k := 3) rfl (show nI i + nI 1 = nI (i + 1) from nI_add _ _) (by decide) rfl (fun ls hl => ?_)
      refine lv_goto (tgt := 9) hx hb d_Pla_markOf_32 (by decide) ?_
      exact ih (i + 1) (by omega) (by omega) H locs ls (lv_sub hl [2, 3, 1, 0] rfl) hB
set_option maxHeartbeats 4000000 in
set_option maxRecDepth 100000 in
theorem c_Pla_markOf {l : Launch} {D : va_G} {t : Nat → ClassId} {w : wf_W} {sz : Nat} {g pf pl pz pk pn pm k z : Nat} {L K : Nat → Nat} {u : Nat} (hP : w g = some (.inr (2, [.int (nI k), .ref pf, .ref pl, .ref pz, .ref pk, .ref pn, .ref pm, .int (nI z)]))) (hPl : w pl = some (.inl (t 0, 800, .inl (iA L)))) (hPk : w pk = some (.inl (t 0, 200, .inl (iA K)))) (hk : k ≤ 4) (hz : z ≤ 200) (hLz : ∀ p a, p < z → a < k → L (p * 4 + a) < z) (hK64 : ∀ p, p < z → K p < 64) (hu : u < z) : Mi l y_Pla_markOf b_Pla_markOf 4 (some .int) 1 23 0 0 D t w sz [.ref g, .int (nI u)] (fun r w' => r = (nI (mrk K L u k)) ∧ w' = w) := by
  refine start_i (by decide) (Nat.le_of_ble_eq_true rfl) ?_
  intro p e s m below meth c ls H locs X hB hl
  have hx := X.1
  have hb := X.2.1
  have hl : lv_has ls 4 [(0, .ref g), (1, .int (nI u))] := hl
  refine lv_aload_n hx hb d_Pla_markOf_0 rfl (lv_at hl 0 rfl) ?_
  refine rget X hB  i_Pla hP cl_Pla 4 (by decide) k_148 rfl rfl d_Pla_markOf_1 ?_
  refine lv_iload_n hx hb d_Pla_markOf_4 rfl (lv_at hl 1 rfl) ?_
  refine riald X hB  hPk (i := u) (by omega) (by decide) d_Pla_markOf_5 ?_
  refine wf_ti (y := nI (K u)) rfl ?_
  refine lv_istore_n (lv' := [(2, .int (nI (K u))), (0, .ref g), (1, .int (nI u))]) hx hb d_Pla_markOf_6 rfl hl (by decide) rfl (fun ls hl => ?_)
  refine lv_iconst (v := nI 0) hx hb d_Pla_markOf_7 (by decide) ?_
  refine lv_istore_n (lv' := [(3, .int (nI 0)), (2, .int (nI (K u))), (0, .ref g), (1, .int (nI u))]) hx hb d_Pla_markOf_8 rfl hl (by decide) rfl (fun ls hl => ?_)
  refine c_Pla_markOf_L9 (l := l) X hP hPl hPk hk hz hLz hK64 hu (fun i hi he H locs ls hl hB => ?_) (k - 0 + 1) 0 (by omega) (by omega) H locs ls (lv_sub hl [2, 3, 1, 0] rfl) hB
  refine lv_iload_n hx hb d_Pla_markOf_35 rfl (lv_at hl 2 rfl) ?_
  refine ret_i X hB d_Pla_markOf_36 ?_
  subst he; exact ⟨rfl, rfl⟩
