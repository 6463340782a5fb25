theorem mx_min {u : Nat} (h1 : u ≤ 40) : (if nI u < nI 40 then nI u else nI 40) = nI u := by
  rcases Nat.lt_or_ge u 40 with q | q
  · rw [if_pos (nI_lt q (by decide))]
  · rw [show u = 40 by omega]; rfl
theorem mx_max {u : Nat} (h1 : 1 ≤ u) (h2 : u ≤ 40) : (if nI 1 < nI u then nI u else nI 1) = nI u := by
  rcases Nat.lt_or_ge 1 u with q | q
  · rw [if_pos (nI_lt q (by omega))]
  · rw [show u = 1 by omega]; rfl
theorem nd_one {q : Nat} : nd [q] := by
  intro i j a hi hj
  have h1 := (List.getElem?_eq_some_iff.mp hi).1
  have h2 := (List.getElem?_eq_some_iff.mp hj).1
  simp at h1 h2
  omega
theorem cpy0 {f g : Nat → Int32} {n j : Nat} (h : j < n) : va_cpy f g 0 0 n j = f j := by
  rw [pk_cpy_in (Nat.zero_le _) (by omega)]
  congr 1
  omega
theorem cpyL0 {f g : Nat → Int64} {n j : Nat} (h : j < n) : va_cpy f g 0 0 n j = f j := by
  rw [pk_cpy_in (Nat.zero_le _) (by omega)]
  congr 1
  omega
set_option maxHeartbeats 4000000 in
set_option maxRecDepth 100000 in
theorem c_Mac_init {l : Launch} {D : va_G} {t : Nat → ClassId} {w : wf_W} {sz : Nat} {h k : Nat} (hN : nd [h]) (hM : w h = some (.inr (1, [.int (nI 0), .null, .int (nI 0), .long (lN 0)]))) : Mv l y_Mac_init b_Mac_init 2 none 1 12 1 40 D t w sz [.ref h, .int (nI k)] (fun w' => ∃ q : Nat, (nd [q]) ∧ (∀ z9, z9 ∈ [q] → w z9 = none) ∧ w' = wf_l w [(h, .inr (1, [.int (nI k), .ref q, .int (nI 1), .long (lN 0)])), (q, .inl (t 0, 40, .inl (pkA (fun _ => nI 0))))]) := by
  refine start_v (by decide) (Nat.le_of_ble_eq_true rfl) ?_
  intro p e s m below meth c ls H locs X hB hl
  have hx := X.1
  have hb := X.2.1
  have hl : lv_has ls 2 [(0, .ref h), (1, .int (nI k))] := hl
  have hB : wf_B D wcl (wf_A w s.heap.size) s.heap (wf_l w [(h, .inr (1, [.int (nI 0), .null, .int (nI 0), .long (lN 0)]))]) H locs := wf_Bto (wf_l1 hM).symm hB
  refine lv_aload_n hx hb d_Mac_init_0 rfl (lv_at hl 0 rfl) ?_
  refine W.objInit hx hb X.2.2.1 (X.2.2.2.2.1.2 _ k_117 _) (X.2.2.2.2.1.2 _ k_85 _) (X.2.2.2.2.1.2 _ k_86 _) rfl (by rw [X.2.2.2.1]; exact hl.1) rfl d_Mac_init_1 (Nat.le_of_ble_eq_true rfl) (Nat.le_of_ble_eq_true rfl) ?_
  refine W.eq (g2 := F0 m 4 ls []) rfl ?_
  refine lv_aload_n hx hb d_Mac_init_4 rfl (lv_at hl 0 rfl) ?_
  refine lv_bipush (v := nI 40) hx hb d_Mac_init_5 (by decide) ?_
  refine rnewi X hB hN wf_hA k_110 (by decide) (Nat.le_of_ble_eq_true rfl) (Nat.le_of_ble_eq_true rfl) d_Mac_init_7 (fun q_7 H hq_7 hN hB => ?_)
  have hN : nd [h, q_7] := hN
  have hB : wf_B D wcl (wf_A w s.heap.size) s.heap (wf_l w [(h, .inr (1, [.int (nI 0), .null, .int (nI 0), .long (lN 0)])), (q_7, .inl (t 0, 40, .inl (fun _ => nI 0)))]) H locs := hB
  have hB : wf_B D wcl (wf_A w s.heap.size) s.heap (wf_l w [(h, .inr (1, [.int (nI 0), .null, .int (nI 0), .long (lN 0)])), (q_7, .inl (t 0, 40, .inl (pkA (fun _ => nI 0))))]) H locs := by
          have e9 : ([(h, .inr (1, [.int (nI 0), .null, .int (nI 0), .long (lN 0)])), (q_7, .inl (t 0, 40, .inl (pkA (fun _ => nI 0))))] : List (Nat × va_E)) = [(h, .inr (1, [.int (nI 0), .null, .int (nI 0), .long (lN 0)])), (q_7, .inl (t 0, 40, .inl (fun _ => nI 0)))] := by rw [← pkA_0]
          rw [e9]; exact hB
  refine rputF X hB hN 0 (wl' := [(h, .inr (1, [.int (nI 0), .ref q_7, .int (nI 0), .long (lN 0)])), (q_7, .inl (t 0, 40, .inl (pkA (fun _ => nI 0))))]) i_Mac t_Mac_ok n_Mac rfl cl_Mac 1 (by decide) k_119 rfl rfl rfl rfl rfl rfl (Nat.le_of_ble_eq_true rfl) d_Mac_init_9 rfl (fun H locs hB => ?_)
  refine lv_aload_n hx hb d_Mac_init_12 rfl (lv_at hl 0 rfl) ?_
  refine lv_iconst (v := nI 1) hx hb d_Mac_init_13 (by decide) ?_
  refine rput X hB hN 0 (wl' := [(h, .inr (1, [.int (nI 0), .ref q_7, .int (nI 1), .long (lN 0)])), (q_7, .inl (t 0, 40, .inl (pkA (fun _ => nI 0))))]) i_Mac t_Mac_ok n_Mac rfl cl_Mac 2 (by decide) k_120 rfl rfl rfl rfl (Nat.le_of_ble_eq_true rfl) d_Mac_init_14 rfl (fun H locs hB => ?_)
  refine lv_aload_n hx hb d_Mac_init_17 rfl (lv_at hl 0 rfl) ?_
  refine lv_lconst (v := lN 0) hx hb d_Mac_init_18 (by decide) ?_
  refine rput X hB hN 0 (wl' := [(h, .inr (1, [.int (nI 0), .ref q_7, .int (nI 1), .long (lN 0)])), (q_7, .inl (t 0, 40, .inl (pkA (fun _ => nI 0))))]) i_Mac t_Mac_ok n_Mac rfl cl_Mac 3 (by decide) k_125 rfl rfl rfl rfl (Nat.le_of_ble_eq_true rfl) d_Mac_init_19 rfl (fun H locs hB => ?_)
  refine lv_aload_n hx hb d_Mac_init_22 rfl (lv_at hl 0 rfl) ?_
  refine lv_iload_n hx hb d_Mac_init_23 rfl (lv_at hl 1 rfl) ?_
  refine rputF X hB hN 0 (wl' := [(h, .inr (1, [.int (nI k), .ref q_7, .int (nI 1), .long (lN 0)])), (q_7, .inl (t 0, 40, .inl (pkA (fun _ => nI 0))))]) i_Mac t_Mac_ok n_Mac rfl cl_Mac 0 (by decide) k_118 rfl rfl rfl rfl rfl rfl (Nat.le_of_ble_eq_true rfl) d_Mac_init_24 rfl (fun H locs hB => ?_)
  refine ret_v X hB d_Mac_init_27 ?_
  exact ⟨q_7, nd_sub hN [1] rfl (by decide), fun z hz => by (simp only [List.mem_cons, List.not_mem_nil, or_false] at hz; rcases hz with rfl <;> assumption), rfl⟩
set_option maxHeartbeats 4000000 in
set_option maxRecDepth 100000 in
theorem c_Mac_begin_L21 {l : Launch} {D : va_G} {t : Nat → ClassId} {w : wf_W} {h hs k n E u : Nat} {f : Nat → Int32}  {p : Program} {e : Env} {s : State} {m : MethodId} {below : List Frame} {meth : Method} {c : Code} {Q : State → Prop} (X : Cx p s m meth c R_Mac "begin" b_Mac_begin 3 none D t) (hN : nd [h, hs]) (hM : w h = some (.inr (1, [.int (nI k), .ref hs, .int (nI n), .long (lN E)]))) (hF : w hs = some (.inl (t 0, 40, .inl (pkA f)))) (hu : 1 ≤ u ∧ u ≤ 40)
    (K_43 : ∀ (i : Nat) (g : Nat → Int32), (i ≤ 40) → (∀ j, j < i * 4 → g j = nI 0) → (i = 40) → ∀ (H : Heap) (locs : List Loc) (ls : Array Slot), lv_has ls 3 [(0, .ref h), (1, .int (nI u)), (2, .int (nI i))] → wf_B D wcl (wf_A w s.heap.size) s.heap (wf_l w [(h, .inr (1, [.int (nI k), .ref hs, .int (nI u), .long (lN 0)])), (hs, .inl (t 0, 40, .inl (pkA g)))]) H locs → W p l e (rmk 1 30 0 0) s m [.ref h, .int (nI u)].toArray below meth c H locs 0 0 Q (F0 m 43 ls [])) :
    ∀ (fu : Nat) (i : Nat) (g : Nat → Int32), (i ≤ 40) → (∀ j, j < i * 4 → g j = nI 0) → 40 - i < fu → ∀ (H : Heap) (locs : List Loc) (ls : Array Slot), lv_has ls 3 [(0, .ref h), (1, .int (nI u)), (2, .int (nI i))] → wf_B D wcl (wf_A w s.heap.size) s.heap (wf_l w [(h, .inr (1, [.int (nI k), .ref hs, .int (nI u), .long (lN 0)])), (hs, .inl (t 0, 40, .inl (pkA g)))]) H locs → W p l e (rmk 1 30 0 0) s m [.ref h, .int (nI u)].toArray below meth c H locs 0 0 Q (F0 m 21 ls []) := by
  have hx := X.1
  have hb := X.2.1
  intro fu
  induction fu with
  | zero => intro i g hi hg hfu; exact absurd hfu (Nat.not_lt_zero _)
  | succ fu ih =>
    intro i g hi hg hfu H locs ls hl hB
    refine lv_iload_n hx hb d_Mac_begin_21 rfl (lv_at hl 2 rfl) ?_
    refine lv_aload_n hx hb d_Mac_begin_22 rfl (lv_at hl 0 rfl) ?_
    refine rgetL X hB hN 0 i_Mac rfl cl_Mac 1 (by decide) k_119 rfl rfl d_Mac_begin_23 ?_
    refine ralenL X hB hN 1 0 rfl rfl d_Mac_begin_26 ?_
    refine wf_cge (tgt := 43) hx hb d_Mac_begin_27 (by decide) (nI_toInt (by omega)) (nI_toInt (by omega)) (fun c_27 => ?_) (fun c_27 => ?_)
    · exact K_43 i g hi hg (by omega) H locs ls (lv_sub hl [0, 1, 2] rfl) hB
    · refine lv_aload_n hx hb d_Mac_begin_30 rfl (lv_at hl 0 rfl) ?_
      refine rgetL X hB hN 0 i_Mac rfl cl_Mac 1 (by decide) k_119 rfl rfl d_Mac_begin_31 ?_
      refine lv_iload_n hx hb d_Mac_begin_34 rfl (lv_at hl 2 rfl) ?_
      refine lv_iconst (v := nI 0) hx hb d_Mac_begin_35 (by decide) ?_
      refine riast X hB hN 1 (wl' := [(h, .inr (1, [.int (nI k), .ref hs, .int (nI u), .long (lN 0)])), (hs, .inl (t 0, 40, .inl (upd (pkA g) i (nI 0))))]) rfl (i := i) (by omega) (by decide) d_Mac_begin_36 rfl (fun H locs hB => ?_)
      have hB : wf_B D wcl (wf_A w s.heap.size) s.heap (wf_l w [(h, .inr (1, [.int (nI k), .ref hs, .int (nI u), .long (lN 0)])), (hs, .inl (t 0, 40, .inl (pkA (z4 g i))))]) H locs := by
          have e9 : ([(h, .inr (1, [.int (nI k), .ref hs, .int (nI u), .long (lN 0)])), (hs, .inl (t 0, 40, .inl (pkA (z4 g i))))] : List (Nat × va_E)) = [(h, .inr (1, [.int (nI k), .ref hs, .int (nI u), .long (lN 0)])), (hs, .inl (t 0, 40, .inl (upd (pkA g) i (nI 0))))] := by rw [pkA_z4]
          rw [e9]; exact hB
      refine lv_iinc (v := nI (i + 1)) (lv' := [(2, .int (nI (i + 1))), (0, .ref h), (1, .int (nI u))]) hx hb d_Mac_begin_37 hl (k := 2) rfl (show nI i + nI 1 = nI (i + 1) from nI_add _ _) (by decide) rfl (fun ls hl => ?_)
      refine lv_goto (tgt := 21) hx hb d_Mac_begin_40 (by decide) ?_
      exact ih (i + 1) (z4 g i) (by omega) (by intro j hj; by_cases e9 : j / 4 = i; exact z4_s e9; rw [z4_n e9]; exact hg j (by omega)) (by omega) H locs ls (lv_sub hl [1, 2, 0] rfl) hB
set_option maxHeartbeats 4000000 in
set_option maxRecDepth 100000 in
theorem c_Mac_begin {l : Launch} {D : va_G} {t : Nat → ClassId} {w : wf_W} {sz : Nat} {h hs k n E u : Nat} {f : Nat → Int32} (hN : nd [h, hs]) (hM : w h = some (.inr (1, [.int (nI k), .ref hs, .int (nI n), .long (lN E)]))) (hF : w hs = some (.inl (t 0, 40, .inl (pkA f)))) (hu : 1 ≤ u ∧ u ≤ 40) : Mv l y_Mac_begin b_Mac_begin 3 none 1 30 0 0 D t w sz [.ref h, .int (nI u)] (fun w' => ∃ g0 : Nat → Int32, (∀ j, j < 160 → g0 j = nI 0) ∧ w' = wf_l w [(h, .inr (1, [.int (nI k), .ref hs, .int (nI u), .long (lN 0)])), (hs, .inl (t 0, 40, .inl (pkA g0)))]) := by
  refine start_v (by decide) (Nat.le_of_ble_eq_true rfl) ?_
  intro p e s m below meth c ls H locs X hB hl
  have hx := X.1
  have hb := X.2.1
  have hl : lv_has ls 3 [(0, .ref h), (1, .int (nI u))] := hl
  have hB : wf_B D wcl (wf_A w s.heap.size) s.heap (wf_l w [(h, .inr (1, [.int (nI k), .ref hs, .int (nI n), .long (lN E)])), (hs, .inl (t 0, 40, .inl (pkA f)))]) H locs := wf_Bto (wf_l2 hM hF).symm hB
  refine lv_aload_n hx hb d_Mac_begin_0 rfl (lv_at hl 0 rfl) ?_
  refine lv_iconst (v := nI 1) hx hb d_Mac_begin_1 (by decide) ?_
  refine lv_bipush (v := nI 40) hx hb d_Mac_begin_2 (by decide) ?_
  refine lv_iload_n hx hb d_Mac_begin_4 rfl (lv_at hl 1 rfl) ?_
  refine va_mmin hx hb (by rw [X.2.2.2.1]; exact hl.1.symm) X.2.2.1 (X.2.2.2.2.1.2 _ k_517 _) (X.2.2.2.2.1.2 _ k_88 _) (X.2.2.2.2.1.2 _ k_65 _) (X.2.2.2.2.1.2 _ k_89 _) (Nat.le_of_ble_eq_true rfl) (Nat.le_of_ble_eq_true rfl) (Nat.le_of_ble_eq_true rfl) (Nat.le_of_ble_eq_true rfl) d_Mac_begin_5 ?_
  refine wf_ti (y := nI u) (by exact mx_min hu.2) ?_
  refine va_mmax hx hb (by rw [X.2.2.2.1]; exact hl.1.symm) X.2.2.1 (X.2.2.2.2.1.2 _ k_518 _) (X.2.2.2.2.1.2 _ k_91 _) (X.2.2.2.2.1.2 _ k_65 _) (X.2.2.2.2.1.2 _ k_92 _) (Nat.le_of_ble_eq_true rfl) (Nat.le_of_ble_eq_true rfl) (Nat.le_of_ble_eq_true rfl) (Nat.le_of_ble_eq_true rfl) d_Mac_begin_8 ?_
  refine wf_ti (y := nI u) (by exact mx_max hu.1 hu.2) ?_
  refine rput X hB hN 0 (wl' := [(h, .inr (1, [.int (nI k), .ref hs, .int (nI u), .long (lN E)])), (hs, .inl (t 0, 40, .inl (pkA f)))]) i_Mac t_Mac_ok n_Mac rfl cl_Mac 2 (by decide) k_120 rfl rfl rfl rfl (Nat.le_of_ble_eq_true rfl) d_Mac_begin_11 rfl (fun H locs hB => ?_)
  refine lv_aload_n hx hb d_Mac_begin_14 rfl (lv_at hl 0 rfl) ?_
  refine lv_lconst (v := lN 0) hx hb d_Mac_begin_15 (by decide) ?_
  refine rput X hB hN 0 (wl' := [(h, .inr (1, [.int (nI k), .ref hs, .int (nI u), .long (lN 0)])), (hs, .inl (t 0, 40, .inl (pkA f)))]) i_Mac t_Mac_ok n_Mac rfl cl_Mac 3 (by decide) k_125 rfl rfl rfl rfl (Nat.le_of_ble_eq_true rfl) d_Mac_begin_16 rfl (fun H locs hB => ?_)
  refine lv_iconst (v := nI 0) hx hb d_Mac_begin_19 (by decide) ?_
  refine lv_istore_n (lv' := [(2, .int (nI 0)), (0, .ref h), (1, .int (nI u))]) hx hb d_Mac_begin_20 rfl hl (by decide) rfl (fun ls hl => ?_)
  refine c_Mac_begin_L21 (l := l) X hN hM hF hu (fun i g hi hg he H locs ls hl hB => ?_) (40 - 0 + 1) 0 f (by omega) (by intro j hj; omega) (by omega) H locs ls (lv_sub hl [1, 2, 0] rfl) hB
  refine ret_v X hB d_Mac_begin_43 ?_
  exact ⟨g, fun j hj => hg j (by omega), rfl⟩
set_option maxHeartbeats 4000000 in
set_option maxRecDepth 100000 in
theorem c_Mac_copy {l : Launch} {D : va_G} {t : Nat → ClassId} {w : wf_W} {sz : Nat} {h hs k n E o os k2 n2 E2 : Nat} {f f2 : Nat → Int32} (hN : nd [h, hs, o, os]) (hM : w h = some (.inr (1, [.int (nI k), .ref hs, .int (nI n), .long (lN E)]))) (hF : w hs = some (.inl (t 0, 40, .inl (pkA f)))) (hM2 : w o = some (.inr (1, [.int (nI k2), .ref os, .int (nI n2), .long (lN E2)]))) (hF2 : w os = some (.inl (t 0, 40, .inl (pkA f2)))) : Mv l y_Mac_copy b_Mac_copy 2 none 1 40 0 0 D t w sz [.ref h, .ref o] (fun w' => ∃ g0 : Nat → Int32, (∀ j, j < 160 → g0 j = f2 j) ∧ w' = wf_l w [(h, .inr (1, [.int (nI k), .ref hs, .int (nI n2), .long (lN E2)])), (hs, .inl (t 0, 40, .inl (pkA g0))), (o, .inr (1, [.int (nI k2), .ref os, .int (nI n2), .long (lN E2)])), (os, .inl (t 0, 40, .inl (pkA f2)))]) := by
  refine start_v (by decide) (Nat.le_of_ble_eq_true rfl) ?_
  intro p e s m below meth c ls H locs X hB hl
  have hx := X.1
  have hb := X.2.1
  have hl : lv_has ls 2 [(0, .ref h), (1, .ref o)] := hl
  have hB : wf_B D wcl (wf_A w s.heap.size) s.heap (wf_l w [(h, .inr (1, [.int (nI k), .ref hs, .int (nI n), .long (lN E)])), (hs, .inl (t 0, 40, .inl (pkA f))), (o, .inr (1, [.int (nI k2), .ref os, .int (nI n2), .long (lN E2)])), (os, .inl (t 0, 40, .inl (pkA f2)))]) H locs := wf_Bto (wf_l4 hM hF hM2 hF2).symm hB
  refine lv_aload_n hx hb d_Mac_copy_0 rfl (lv_at hl 0 rfl) ?_
  refine lv_aload_n hx hb d_Mac_copy_1 rfl (lv_at hl 1 rfl) ?_
  refine rgetL X hB hN 2 i_Mac rfl cl_Mac 2 (by decide) k_120 rfl rfl d_Mac_copy_2 ?_
  refine rput X hB hN 0 (wl' := [(h, .inr (1, [.int (nI k), .ref hs, .int (nI n2), .long (lN E)])), (hs, .inl (t 0, 40, .inl (pkA f))), (o, .inr (1, [.int (nI k2), .ref os, .int (nI n2), .long (lN E2)])), (os, .inl (t 0, 40, .inl (pkA f2)))]) i_Mac t_Mac_ok n_Mac rfl cl_Mac 2 (by decide) k_120 rfl rfl rfl rfl (Nat.le_of_ble_eq_true rfl) d_Mac_copy_5 rfl (fun H locs hB => ?_)
  refine lv_aload_n hx hb d_Mac_copy_8 rfl (lv_at hl 0 rfl) ?_
  refine lv_aload_n hx hb d_Mac_copy_9 rfl (lv_at hl 1 rfl) ?_
  refine rgetL X hB hN 2 i_Mac rfl cl_Mac 3 (by decide) k_125 rfl rfl d_Mac_copy_10 ?_
  refine rput X hB hN 0 (wl' := [(h, .inr (1, [.int (nI k), .ref hs, .int (nI n2), .long (lN E2)])), (hs, .inl (t 0, 40, .inl (pkA f))), (o, .inr (1, [.int (nI k2), .ref os, .int (nI n2), .long (lN E2)])), (os, .inl (t 0, 40, .inl (pkA f2)))]) i_Mac t_Mac_ok n_Mac rfl cl_Mac 3 (by decide) k_125 rfl rfl rfl rfl (Nat.le_of_ble_eq_true rfl) d_Mac_copy_13 rfl (fun H locs hB => ?_)
  refine lv_aload_n hx hb d_Mac_copy_16 rfl (lv_at hl 1 rfl) ?_
  refine rgetL X hB hN 2 i_Mac rfl cl_Mac 1 (by decide) k_119 rfl rfl d_Mac_copy_17 ?_
  refine lv_iconst (v := nI 0) hx hb d_Mac_copy_20 (by decide) ?_
  refine lv_aload_n hx hb d_Mac_copy_21 rfl (lv_at hl 0 rfl) ?_
  refine rgetL X hB hN 0 i_Mac rfl cl_Mac 1 (by decide) k_119 rfl rfl d_Mac_copy_22 ?_
  refine lv_iconst (v := nI 0) hx hb d_Mac_copy_25 (by decide) ?_
  refine lv_aload_n hx hb d_Mac_copy_26 rfl (lv_at hl 0 rfl) ?_
  refine rgetL X hB hN 0 i_Mac rfl cl_Mac 1 (by decide) k_119 rfl rfl d_Mac_copy_27 ?_
  refine ralenL X hB hN 1 0 rfl rfl d_Mac_copy_30 ?_
  refine rcopyi X hB hN 1 (wl' := [(h, .inr (1, [.int (nI k), .ref hs, .int (nI n2), .long (lN E2)])), (hs, .inl (t 0, 40, .inl (va_cpy (pkA f2) (pkA f) 0 0 40))), (o, .inr (1, [.int (nI k2), .ref os, .int (nI n2), .long (lN E2)])), (os, .inl (t 0, 40, .inl (pkA f2)))]) hl.1 (wf_lg (w := w) (l := [(h, .inr (1, [.int (nI k), .ref hs, .int (nI n2), .long (lN E2)])), (hs, .inl (t 0, 40, .inl (pkA f))), (o, .inr (1, [.int (nI k2), .ref os, .int (nI n2), .long (lN E2)])), (os, .inl (t 0, 40, .inl (pkA f2)))]) hN 3 rfl) rfl (sp := 0) (dp := 0) (n := 40) (by omega) (by omega) (by decide) (by decide) k_543 k_349 k_348 k_76 (Nat.le_of_ble_eq_true rfl) (by decide +kernel) d_Mac_copy_31 rfl (fun H locs hB => ?_)
  have hB : wf_B D wcl (wf_A w s.heap.size) s.heap (wf_l w [(h, .inr (1, [.int (nI k), .ref hs, .int (nI n2), .long (lN E2)])), (hs, .inl (t 0, 40, .inl (pkA (ncp f2 f 160)))), (o, .inr (1, [.int (nI k2), .ref os, .int (nI n2), .long (lN E2)])), (os, .inl (t 0, 40, .inl (pkA f2)))]) H locs := by
          have e9 : ([(h, .inr (1, [.int (nI k), .ref hs, .int (nI n2), .long (lN E2)])), (hs, .inl (t 0, 40, .inl (pkA (ncp f2 f 160)))), (o, .inr (1, [.int (nI k2), .ref os, .int (nI n2), .long (lN E2)])), (os, .inl (t 0, 40, .inl (pkA f2)))] : List (Nat × va_E)) = [(h, .inr (1, [.int (nI k), .ref hs, .int (nI n2), .long (lN E2)])), (hs, .inl (t 0, 40, .inl (va_cpy (pkA f2) (pkA f) 0 0 40))), (o, .inr (1, [.int (nI k2), .ref os, .int (nI n2), .long (lN E2)])), (os, .inl (t 0, 40, .inl (pkA f2)))] := by rw [pkA_cpy]
          rw [e9]; exact hB
  refine ret_v X hB d_Mac_copy_34 ?_
  exact ⟨ncp f2 f 160, fun j hj => if_pos hj, rfl⟩
set_option maxHeartbeats 4000000 in
set_option maxRecDepth 100000 in
theorem c_Mac_setStep {l : Launch} {D : va_G} {t : Nat → ClassId} {w : wf_W} {sz : Nat} {h hs k n E u a v : Nat} {f : Nat → Int32} (hN : nd [h, hs]) (hM : w h = some (.inr (1, [.int (nI k), .ref hs, .int (nI n), .long (lN E)]))) (hF : w hs = some (.inl (t 0, 40, .inl (pkA f)))) (hk : k ≤ 4) (hn : n ≤ 40) (hu : u < n) (ha : a < k) (hv : v < n) : Mv l y_Mac_setStep b_Mac_setStep 5 none 1 22 0 0 D t w sz [.ref h, .int (nI u), .int (nI a), .int (nI v)] (fun w' => w' = wf_l w [(h, .inr (1, [.int (nI k), .ref hs, .int (nI n), .long (lN E)])), (hs, .inl (t 0, 40, .inl (pkA (upd f (u * 4 + a) (nI v)))))]) := by
  refine start_v (by decide) (Nat.le_of_ble_eq_true rfl) ?_
  intro p e s m below meth c ls H locs X hB hl
  have hx := X.1
  have hb := X.2.1
  have hl : lv_has ls 5 [(0, .ref h), (1, .int (nI u)), (2, .int (nI a)), (3, .int (nI v))] := hl
  have hB : wf_B D wcl (wf_A w s.heap.size) s.heap (wf_l w [(h, .inr (1, [.int (nI k), .ref hs, .int (nI n), .long (lN E)])), (hs, .inl (t 0, 40, .inl (pkA f)))]) H locs := wf_Bto (wf_l2 hM hF).symm hB
  refine lv_aload_n hx hb d_Mac_setStep_0 rfl (lv_at hl 0 rfl) ?_
  refine lv_iload_n hx hb d_Mac_setStep_1 rfl (lv_at hl 1 rfl) ?_
  refine lv_iload_n hx hb d_Mac_setStep_2 rfl (lv_at hl 2 rfl) ?_
  refine callVi (As := [.int (nI u), .int (nI a)]) (rest := []) X hB wf_hA (c_Mac_hasStep (l := l) (D := D) (t := t) (w := (wf_l w [(h, .inr (1, [.int (nI k), .ref hs, .int (nI n), .long (lN E)])), (hs, .inl (t 0, 40, .inl (pkA f)))])) (sz := H.size) (h := h) (hs := hs) (k := k) (n := n) (E := E) (u := u) (a := a) (wf_lg (w := w) (l := [(h, .inr (1, [.int (nI k), .ref hs, .int (nI n), .long (lN E)])), (hs, .inl (t 0, 40, .inl (pkA f)))]) hN 0 rfl) (by exact hk) (by exact hn) (by omega) (by omega)) k_437 k_439 k_3 k_67 k_440 (wf_lg (w := w) (l := [(h, .inr (1, [.int (nI k), .ref hs, .int (nI n), .long (lN E)])), (hs, .inl (t 0, 40, .inl (pkA f)))]) hN 0 rfl) cl_Mac rfl hd_Mac_hasStep ⟨Nat.le_of_ble_eq_true rfl, Nat.le_of_ble_eq_true rfl⟩ ⟨Nat.le_of_ble_eq_true rfl, Nat.le_of_ble_eq_true rfl⟩ hl.1 (Nat.le_of_ble_eq_true rfl) d_Mac_setStep_3 rfl (fun r_3 w1 H locs hp hB => ?_)
  obtain ⟨rfl, hw_3⟩ := hp
  have hB : wf_B D wcl (wf_A w s.heap.size) s.heap (wf_l w [(h, .inr (1, [.int (nI k), .ref hs, .int (nI n), .long (lN E)])), (hs, .inl (t 0, 40, .inl (pkA f)))]) H locs := wf_Bto hw_3 hB
  refine wf_beq (tgt := 52) hx hb d_Mac_setStep_6 (by decide) (fun c_6 => ?_) (fun c_6 => ?_)
  · exact absurd c_6 (by simp [hu, ha])
  · refine lv_iload_n hx hb d_Mac_setStep_9 rfl (lv_at hl 3 rfl) ?_
    refine wf_zlt (tgt := 52) hx hb d_Mac_setStep_10 (by decide) (nI_toInt (by omega)) (fun c_10 => ?_) (fun c_10 => ?_)
    · exact absurd c_10 (by omega)
    · refine lv_iload_n hx hb d_Mac_setStep_13 rfl (lv_at hl 3 rfl) ?_
      refine lv_aload_n hx hb d_Mac_setStep_14 rfl (lv_at hl 0 rfl) ?_
      refine rgetL X hB hN 0 i_Mac rfl cl_Mac 2 (by decide) k_120 rfl rfl d_Mac_setStep_15 ?_
      refine wf_cge (tgt := 52) hx hb d_Mac_setStep_18 (by decide) (nI_toInt (by omega)) (nI_toInt (by omega)) (fun c_18 => ?_) (fun c_18 => ?_)
      · exact absurd c_18 (by omega)
      · refine lv_iload_n hx hb d_Mac_setStep_21 rfl (lv_at hl 2 rfl) ?_
        refine lv_bipush (v := nI 6) hx hb d_Mac_setStep_22 (by decide) ?_
        refine wf_imul (x := a) (y := 6) hx hb d_Mac_setStep_24 ?_
        refine lv_istore (lv' := [(4, .int (nI (a * 6))), (0, .ref h), (1, .int (nI u)), (2, .int (nI a)), (3, .int (nI v))]) hx hb d_Mac_setStep_25 hl (by decide) rfl (fun ls hl => ?_)
        refine lv_aload_n hx hb d_Mac_setStep_27 rfl (lv_at hl 1 rfl) ?_
        refine rgetL X hB hN 0 i_Mac rfl cl_Mac 1 (by decide) k_119 rfl rfl d_Mac_setStep_28 ?_
        refine lv_iload_n hx hb d_Mac_setStep_31 rfl (lv_at hl 2 rfl) ?_
        refine lv_aload_n hx hb d_Mac_setStep_32 rfl (lv_at hl 1 rfl) ?_
        refine rgetL X hB hN 0 i_Mac rfl cl_Mac 1 (by decide) k_119 rfl rfl d_Mac_setStep_33 ?_
        refine lv_iload_n hx hb d_Mac_setStep_36 rfl (lv_at hl 2 rfl) ?_
        refine rialdL X hB hN 1 rfl (i := u) (by omega) (by decide) d_Mac_setStep_37 ?_
        refine wf_ti (y := nI (pkN f u)) (by rfl) ?_
        refine lv_bipush (v := nI 63) hx hb d_Mac_setStep_38 (by decide) ?_
        refine lv_iload hx hb d_Mac_setStep_40 (lv_at hl 0 rfl) ?_
        refine lv_ishl hx hb d_Mac_setStep_42 ?_
        refine wf_ti (y := nI (63 * 2 ^ (a * 6))) (pk_shlN _ _ (sh32l _ (by omega)) (by exact Nat.lt_of_le_of_lt (Nat.mul_le_mul_left 63 (Nat.pow_le_pow_right (by decide) (show a * 6 ≤ 18 by omega))) (by decide))) ?_
        refine lv_iconst (v := (-1)) hx hb d_Mac_setStep_43 (by decide) ?_
        refine lv_ixor hx hb d_Mac_setStep_44 ?_
        refine lv_iand hx hb d_Mac_setStep_45 ?_
        refine lv_iload_n hx hb d_Mac_setStep_46 rfl (lv_at hl 4 rfl) ?_
        refine lv_iload hx hb d_Mac_setStep_47 (lv_at hl 0 rfl) ?_
        refine lv_ishl hx hb d_Mac_setStep_49 ?_
        refine wf_ti (y := nI (v * 2 ^ (a * 6))) (pk_shlN _ _ (sh32l _ (by omega)) (by exact Nat.lt_of_le_of_lt (Nat.mul_le_mul (show v ≤ 63 by omega) (Nat.pow_le_pow_right (by decide) (show a * 6 ≤ 18 by omega))) (by decide))) ?_
        refine lv_ior hx hb d_Mac_setStep_50 ?_
        refine wf_ti (y := nI (pkN (upd f (u * 4 + a) (nI v)) u)) (by exact pk_set f u v (by omega) a (by omega)) ?_
        refine riast X hB hN 1 (wl' := [(h, .inr (1, [.int (nI k), .ref hs, .int (nI n), .long (lN E)])), (hs, .inl (t 0, 40, .inl (upd (pkA f) u (nI (pkN (upd f (u * 4 + a) (nI v)) u)))))]) rfl (i := u) (by omega) (by decide) d_Mac_setStep_51 rfl (fun H locs hB => ?_)
        have hB : wf_B D wcl (wf_A w s.heap.size) s.heap (wf_l w [(h, .inr (1, [.int (nI k), .ref hs, .int (nI n), .long (lN E)])), (hs, .inl (t 0, 40, .inl (pkA (upd f (u * 4 + a) (nI v)))))]) H locs := by
          have e9 : ([(h, .inr (1, [.int (nI k), .ref hs, .int (nI n), .long (lN E)])), (hs, .inl (t 0, 40, .inl (pkA (upd f (u * 4 + a) (nI v)))))] : List (Nat × va_E)) = [(h, .inr (1, [.int (nI k), .ref hs, .int (nI n), .long (lN E)])), (hs, .inl (t 0, 40, .inl (upd (pkA f) u (nI (pkN (upd f (u * 4 + a) (nI v)) u)))))] := by rw [pkA_setE (by omega)]
          rw [e9]; exact hB
        refine ret_v X hB d_Mac_setStep_52 ?_
        exact rfl
set_option maxHeartbeats 4000000 in
set_option maxRecDepth 100000 in
theorem c_Mac_setEnds {l : Launch} {D : va_G} {t : Nat → ClassId} {w : wf_W} {sz : Nat} {h hs k n E S : Nat} (hN : nd [h]) (hM : w h = some (.inr (1, [.int (nI k), .ref hs, .int (nI n), .long (lN E)]))) (hn : n ≤ 40) (hS : S < 2 ^ 64) : Mv l y_Mac_setEnds b_Mac_setEnds 3 none 1 20 0 0 D t w sz [.ref h, .long (lN S)] (fun w' => w' = wf_l w [(h, .inr (1, [.int (nI k), .ref hs, .int (nI n), .long (lN (S % 2 ^ n))]))]) := by
  refine start_v (by decide) (Nat.le_of_ble_eq_true rfl) ?_
  intro p e s m below meth c ls H locs X hB hl
  have hx := X.1
  have hb := X.2.1
  have hl : lv_has ls 3 [(0, .ref h), (1, .long (lN S))] := hl
  have hB : wf_B D wcl (wf_A w s.heap.size) s.heap (wf_l w [(h, .inr (1, [.int (nI k), .ref hs, .int (nI n), .long (lN E)]))]) H locs := wf_Bto (wf_l1 hM).symm hB
  refine lv_aload_n hx hb d_Mac_setEnds_0 rfl (lv_at hl 0 rfl) ?_
  refine lv_lload_n hx hb d_Mac_setEnds_1 rfl (lv_at hl 1 rfl) ?_
  refine lv_aload_n hx hb d_Mac_setEnds_2 rfl (lv_at hl 0 rfl) ?_
  refine callVl (As := []) (rest := [.long (lN S), .ref h]) X hB wf_hA (c_Mac_allStates (l := l) (D := D) (t := t) (w := (wf_l w [(h, .inr (1, [.int (nI k), .ref hs, .int (nI n), .long (lN E)]))])) (sz := H.size) (h := h) (hs := hs) (k := k) (n := n) (E := E) (wf_lg (w := w) (l := [(h, .inr (1, [.int (nI k), .ref hs, .int (nI n), .long (lN E)]))]) hN 0 rfl) (by exact hn)) k_527 k_528 k_529 k_67 k_530 (wf_lg (w := w) (l := [(h, .inr (1, [.int (nI k), .ref hs, .int (nI n), .long (lN E)]))]) hN 0 rfl) cl_Mac rfl hd_Mac_allStates ⟨Nat.le_of_ble_eq_true rfl, Nat.le_of_ble_eq_true rfl⟩ ⟨Nat.le_of_ble_eq_true rfl, Nat.le_of_ble_eq_true rfl⟩ hl.1 (Nat.le_of_ble_eq_true rfl) d_Mac_setEnds_3 rfl (fun r_3 w1 H locs hp hB => ?_)
  obtain ⟨rfl, hw_3⟩ := hp
  have hB : wf_B D wcl (wf_A w s.heap.size) s.heap (wf_l w [(h, .inr (1, [.int (nI k), .ref hs, .int (nI n), .long (lN E)]))]) H locs := wf_Bto hw_3 hB
  refine lv_land hx hb d_Mac_setEnds_6 ?_
  refine wf_tl (y := lN (S &&& (2 ^ n - 1))) (wb_and (by exact hS) (by have := pow_le40 hn; omega)) ?_
  refine wf_tl (y := lN (S % 2 ^ n)) (by rw [Nat.and_two_pow_sub_one_eq_mod]) ?_
  refine rput X hB hN 0 (wl' := [(h, .inr (1, [.int (nI k), .ref hs, .int (nI n), .long (lN (S % 2 ^ n))]))]) i_Mac t_Mac_ok n_Mac rfl cl_Mac 3 (by decide) k_125 rfl rfl rfl rfl (Nat.le_of_ble_eq_true rfl) d_Mac_setEnds_7 rfl (fun H locs hB => ?_)
  refine ret_v X hB d_Mac_setEnds_10 ?_
  exact rfl
set_option maxHeartbeats 4000000 in
set_option maxRecDepth 100000 in
theorem c_Row_init {l : Launch} {D : va_G} {t : Nat → ClassId} {w : wf_W} {sz : Nat} {o : Nat} (hN : nd [o]) (hR : w o = some (.inr (0, [.null, .int (nI 0)]))) : Mv l y_Row_init b_Row_init 1 none 1 12 1 100 D t w sz [.ref o] (fun w' => ∃ q : Nat, (nd [q]) ∧ (∀ z9, z9 ∈ [q] → w z9 = none) ∧ w' = wf_l w [(o, .inr (0, [.ref q, .int (nI 0)])), (q, .inl (t 0, 100, .inl (fun _ => nI 0)))]) := by
  refine start_v (by decide) (Nat.le_of_ble_eq_true rfl) ?_
  intro p e s m below meth c ls H locs X hB hl
  have hx := X.1
  have hb := X.2.1
  have hl : lv_has ls 1 [(0, .ref o)] := hl
  have hB : wf_B D wcl (wf_A w s.heap.size) s.heap (wf_l w [(o, .inr (0, [.null, .int (nI 0)]))]) H locs := wf_Bto (wf_l1 hR).symm hB
  refine lv_aload_n hx hb d_Row_init_0 rfl (lv_at hl 0 rfl) ?_
  refine W.objInit hx hb X.2.2.1 (X.2.2.2.2.1.2 _ k_98 _) (X.2.2.2.2.1.2 _ k_85 _) (X.2.2.2.2.1.2 _ k_86 _) rfl (by rw [X.2.2.2.1]; exact hl.1) rfl d_Row_init_1 (Nat.le_of_ble_eq_true rfl) (Nat.le_of_ble_eq_true rfl) ?_
  refine W.eq (g2 := F0 m 4 ls []) rfl ?_
  refine lv_aload_n hx hb d_Row_init_4 rfl (lv_at hl 0 rfl) ?_
  refine lv_bipush (v := nI 100) hx hb d_Row_init_5 (by decide) ?_
  refine rnewi X hB hN wf_hA k_110 (by decide) (Nat.le_of_ble_eq_true rfl) (Nat.le_of_ble_eq_true rfl) d_Row_init_7 (fun q_7 H hq_7 hN hB => ?_)
  have hN : nd [o, q_7] := hN
  have hB : wf_B D wcl (wf_A w s.heap.size) s.heap (wf_l w [(o, .inr (0, [.null, .int (nI 0)])), (q_7, .inl (t 0, 100, .inl (fun _ => nI 0)))]) H locs := hB
  refine rputF X hB hN 0 (wl' := [(o, .inr (0, [.ref q_7, .int (nI 0)])), (q_7, .inl (t 0, 100, .inl (fun _ => nI 0)))]) i_Row t_Row_ok n_Row rfl cl_Row 0 (by decide) k_99 rfl rfl rfl rfl rfl rfl (Nat.le_of_ble_eq_true rfl) d_Row_init_9 rfl (fun H locs hB => ?_)
  refine lv_aload_n hx hb d_Row_init_12 rfl (lv_at hl 0 rfl) ?_
  refine lv_iconst (v := nI 0) hx hb d_Row_init_13 (by decide) ?_
  refine rput X hB hN 0 (wl' := [(o, .inr (0, [.ref q_7, .int (nI 0)])), (q_7, .inl (t 0, 100, .inl (fun _ => nI 0)))]) i_Row t_Row_ok n_Row rfl cl_Row 1 (by decide) k_100 rfl rfl rfl rfl (Nat.le_of_ble_eq_true rfl) d_Row_init_14 rfl (fun H locs hB => ?_)
  refine ret_v X hB d_Row_init_17 ?_
  exact ⟨q_7, nd_sub hN [1] rfl (by decide), fun z hz => by (simp only [List.mem_cons, List.not_mem_nil, or_false] at hz; rcases hz with rfl <;> assumption), rfl⟩
set_option maxHeartbeats 4000000 in
set_option maxRecDepth 100000 in
theorem c_Row_append {l : Launch} {D : va_G} {t : Nat → ClassId} {w : wf_W} {sz : Nat} {o oi z a : Nat} {rf : Nat → Int32} (hN : nd [o, oi]) (hR : w o = some (.inr (0, [.ref oi, .int (nI z)]))) (hI : w oi = some (.inl (t 0, 100, .inl rf))) (hz : z ≤ 100) : Mi l y_Row_append b_Row_append 2 (some .boolean) 0 0 0 0 D t w sz [.ref o, .int (nI a)] (fun r w' => ((z < 100) ∧ r = (bI true) ∧ w' = wf_l w [(o, .inr (0, [.ref oi, .int (nI (z + 1))])), (oi, .inl (t 0, 100, .inl (upd rf z (nI a))))]) ∨ ((z = 100) ∧ r = (bI false) ∧ w' = wf_l w [(o, .inr (0, [.ref oi, .int (nI z)])), (oi, .inl (t 0, 100, .inl rf))])) := by
  refine start_i (by decide) (Nat.le_of_ble_eq_true rfl) ?_
  intro p e s m below meth c ls H locs X hB hl
  have hx := X.1
  have hb := X.2.1
  have hl : lv_has ls 2 [(0, .ref o), (1, .int (nI a))] := hl
  have hB : wf_B D wcl (wf_A w s.heap.size) s.heap (wf_l w [(o, .inr (0, [.ref oi, .int (nI z)])), (oi, .inl (t 0, 100, .inl rf))]) H locs := wf_Bto (wf_l2 hR hI).symm hB
  refine lv_aload_n hx hb d_Row_append_0 rfl (lv_at hl 0 rfl) ?_
  refine rgetL X hB hN 0 i_Row rfl cl_Row 1 (by decide) k_100 rfl rfl d_Row_append_1 ?_
  refine lv_bipush (v := nI 100) hx hb d_Row_append_4 (by decide) ?_
  refine wf_clt (tgt := 11) hx hb d_Row_append_6 (by decide) (nI_toInt (by omega)) (nI_toInt (by omega)) (fun c_6 => ?_) (fun c_6 => ?_)
  · refine lv_aload_n hx hb d_Row_append_11 rfl (lv_at hl 0 rfl) ?_
    refine rgetL X hB hN 0 i_Row rfl cl_Row 0 (by decide) k_99 rfl rfl d_Row_append_12 ?_
    refine lv_aload_n hx hb d_Row_append_15 rfl (lv_at hl 0 rfl) ?_
    refine rgetL X hB hN 0 i_Row rfl cl_Row 1 (by decide) k_100 rfl rfl d_Row_append_16 ?_
    refine lv_iload_n hx hb d_Row_append_19 rfl (lv_at hl 1 rfl) ?_
    refine riast X hB hN 1 (wl' := [(o, .inr (0, [.ref oi, .int (nI z)])), (oi, .inl (t 0, 100, .inl (upd rf z (nI a))))]) rfl (i := z) (by omega) (by decide) d_Row_append_20 rfl (fun H locs hB => ?_)
    refine lv_aload_n hx hb d_Row_append_21 rfl (lv_at hl 0 rfl) ?_
    refine lv_dup hx hb d_Row_append_22 rfl ?_
    refine rgetL X hB hN 0 i_Row rfl cl_Row 1 (by decide) k_100 rfl rfl d_Row_append_23 ?_
    refine lv_iconst (v := nI 1) hx hb d_Row_append_26 (by decide) ?_
    refine wf_iadd (x := z) (y := 1) hx hb d_Row_append_27 ?_
    refine rput X hB hN 0 (wl' := [(o, .inr (0, [.ref oi, .int (nI (z + 1))])), (oi, .inl (t 0, 100, .inl (upd rf z (nI a))))]) i_Row t_Row_ok n_Row rfl cl_Row 1 (by decide) k_100 rfl rfl rfl rfl (Nat.le_of_ble_eq_true rfl) d_Row_append_28 rfl (fun H locs hB => ?_)
    refine lv_iconst (v := nI 1) hx hb d_Row_append_31 (by decide) ?_
    refine wf_ti (y := bI true) rfl ?_
    refine ret_z X hB d_Row_append_32 ?_
    exact Or.inl ⟨by omega, rfl, rfl⟩
  · refine lv_iconst (v := nI 0) hx hb d_Row_append_9 (by decide) ?_
    refine wf_ti (y := bI false) rfl ?_
    refine ret_z X hB d_Row_append_10 ?_
    exact Or.inr ⟨by omega, rfl, rfl⟩
set_option maxHeartbeats 4000000 in
set_option maxRecDepth 100000 in
theorem c_Row_shortenTo {l : Launch} {D : va_G} {t : Nat → ClassId} {w : wf_W} {sz : Nat} {o oi z u : Nat} (hN : nd [o]) (hR : w o = some (.inr (0, [.ref oi, .int (nI z)]))) (hz : z ≤ 100) (hu : u ≤ 100) : Mv l y_Row_shortenTo b_Row_shortenTo 2 none 0 0 0 0 D t w sz [.ref o, .int (nI u)] (fun w' => w' = wf_l w [(o, .inr (0, [.ref oi, .int (nI (min u z))]))]) := by
  refine start_v (by decide) (Nat.le_of_ble_eq_true rfl) ?_
  intro p e s m below meth c ls H locs X hB hl
  have hx := X.1
  have hb := X.2.1
  have hl : lv_has ls 2 [(0, .ref o), (1, .int (nI u))] := hl
  have hB : wf_B D wcl (wf_A w s.heap.size) s.heap (wf_l w [(o, .inr (0, [.ref oi, .int (nI z)]))]) H locs := wf_Bto (wf_l1 hR).symm hB
  refine lv_iload_n hx hb d_Row_shortenTo_0 rfl (lv_at hl 1 rfl) ?_
  refine wf_zlt (tgt := 17) hx hb d_Row_shortenTo_1 (by decide) (nI_toInt (by omega)) (fun c_1 => ?_) (fun c_1 => ?_)
  · refine ret_v X hB d_Row_shortenTo_17 ?_
    rw [show min u z = z by omega]
  · refine lv_iload_n hx hb d_Row_shortenTo_4 rfl (lv_at hl 1 rfl) ?_
    refine lv_aload_n hx hb d_Row_shortenTo_5 rfl (lv_at hl 0 rfl) ?_
    refine rgetL X hB hN 0 i_Row rfl cl_Row 1 (by decide) k_100 rfl rfl d_Row_shortenTo_6 ?_
    refine wf_cge (tgt := 17) hx hb d_Row_shortenTo_9 (by decide) (nI_toInt (by omega)) (nI_toInt (by omega)) (fun c_9 => ?_) (fun c_9 => ?_)
    · refine ret_v X hB d_Row_shortenTo_17 ?_
      rw [show min u z = z by omega]
    · refine lv_aload_n hx hb d_Row_shortenTo_12 rfl (lv_at hl 0 rfl) ?_
      refine lv_iload_n hx hb d_Row_shortenTo_13 rfl (lv_at hl 1 rfl) ?_
      refine rput X hB hN 0 (wl' := [(o, .inr (0, [.ref oi, .int (nI u)]))]) i_Row t_Row_ok n_Row rfl cl_Row 1 (by decide) k_100 rfl rfl rfl rfl (Nat.le_of_ble_eq_true rfl) d_Row_shortenTo_14 rfl (fun H locs hB => ?_)
      refine ret_v X hB d_Row_shortenTo_17 ?_
      rw [show min u z = u by omega]
set_option maxHeartbeats 4000000 in
set_option maxRecDepth 100000 in
theorem c_Row_turnAround_L2 {l : Launch} {D : va_G} {t : Nat → ClassId} {w : wf_W} {o oi z : Nat} {rf : Nat → Int32}  {p : Program} {e : Env} {s : State} {m : MethodId} {below : List Frame} {meth : Method} {c : Code} {Q : State → Prop} (X : Cx p s m meth c R_Row "turnAround" b_Row_turnAround 3 none D t) (hN : nd [o, oi]) (hR : w o = some (.inr (0, [.ref oi, .int (nI z)]))) (hI : w oi = some (.inl (t 0, 100, .inl rf))) (hz : z ≤ 100)
    (K_58 : ∀ (i : Nat) (g : Nat → Int32), (i ≤ z / 2) → (∀ j, j < z → g j = if j < i ∨ z - 1 - i < j then rf (z - 1 - j) else rf j) → (i = z / 2) → ∀ (H : Heap) (locs : List Loc) (ls : Array Slot), lv_has ls 3 [(0, .ref o), (1, .int (nI i))] → wf_B D wcl (wf_A w s.heap.size) s.heap (wf_l w [(o, .inr (0, [.ref oi, .int (nI z)])), (oi, .inl (t 0, 100, .inl g))]) H locs → W p l e (rmk 0 0 0 0) s m [.ref o].toArray below meth c H locs 0 0 Q (F0 m 58 ls [])) :
    ∀ (fu : Nat) (i : Nat) (g : Nat → Int32), (i ≤ z / 2) → (∀ j, j < z → g j = if j < i ∨ z - 1 - i < j then rf (z - 1 - j) else rf j) → z / 2 - i < fu → ∀ (H : Heap) (locs : List Loc) (ls : Array Slot), lv_has ls 3 [(0, .ref o), (1, .int (nI i))] → wf_B D wcl (wf_A w s.heap.size) s.heap (wf_l w [(o, .inr (0, [.ref oi, .int (nI z)])), (oi, .inl (t 0, 100, .inl g))]) H locs → W p l e (rmk 0 0 0 0) s m [.ref o].toArray below meth c H locs 0 0 Q (F0 m 2 ls []) := by
  have hx := X.1
  have hb := X.2.1
  intro fu
  induction fu with
  | zero => intro i g hi hg hfu; exact absurd hfu (Nat.not_lt_zero _)
  | succ fu ih =>
    intro i g hi hg hfu H locs ls hl hB
    refine lv_iload_n hx hb d_Row_turnAround_2 rfl (lv_at hl 1 rfl) ?_
    refine lv_aload_n hx hb d_Row_turnAround_3 rfl (lv_at hl 0 rfl) ?_
    refine rgetL X hB hN 0 i_Row rfl cl_Row 1 (by decide) k_100 rfl rfl d_Row_turnAround_4 ?_
    refine lv_iconst (v := nI 2) hx hb d_Row_turnAround_7 (by decide) ?_
    refine wf_idiv (x := z) (y := 2) hx hb d_Row_turnAround_8 (by omega) (by omega) (by omega) ?_
    refine wf_cge (tgt := 58) hx hb d_Row_turnAround_9 (by decide) (nI_toInt (by omega)) (nI_toInt (by omega)) (fun c_9 => ?_) (fun c_9 => ?_)
    · exact K_58 i g hi hg (by omega) H locs ls (lv_sub hl [0, 1] rfl) hB
    · refine lv_aload_n hx hb d_Row_turnAround_12 rfl (lv_at hl 0 rfl) ?_
      refine rgetL X hB hN 0 i_Row rfl cl_Row 0 (by decide) k_99 rfl rfl d_Row_turnAround_13 ?_
      refine lv_iload_n hx hb d_Row_turnAround_16 rfl (lv_at hl 1 rfl) ?_
      refine rialdL X hB hN 1 rfl (i := i) (by omega) (by decide) d_Row_turnAround_17 ?_
      refine lv_istore_n (lv' := [(2, .int (g i)), (0, .ref o), (1, .int (nI i))]) hx hb d_Row_turnAround_18 rfl hl (by decide) rfl (fun ls hl => ?_)
      refine lv_aload_n hx hb d_Row_turnAround_19 rfl (lv_at hl 1 rfl) ?_
      refine rgetL X hB hN 0 i_Row rfl cl_Row 0 (by decide) k_99 rfl rfl d_Row_turnAround_20 ?_
      refine lv_iload_n hx hb d_Row_turnAround_23 rfl (lv_at hl 2 rfl) ?_
      refine lv_aload_n hx hb d_Row_turnAround_24 rfl (lv_at hl 1 rfl) ?_
      refine rgetL X hB hN 0 i_Row rfl cl_Row 0 (by decide) k_99 rfl rfl d_Row_turnAround_25 ?_
      refine lv_aload_n hx hb d_Row_turnAround_28 rfl (lv_at hl 1 rfl) ?_
      refine rgetL X hB hN 0 i_Row rfl cl_Row 1 (by decide) k_100 rfl rfl d_Row_turnAround_29 ?_
      refine lv_iconst (v := nI 1) hx hb d_Row_turnAround_32 (by decide) ?_
      refine wf_isub (x := z) (y := 1) hx hb d_Row_turnAround_33 (by omega) ?_
      refine lv_iload_n hx hb d_Row_turnAround_34 rfl (lv_at hl 2 rfl) ?_
      refine wf_isub (x := z - 1) (y := i) hx hb d_Row_turnAround_35 (by omega) ?_
      refine rialdL X hB hN 1 rfl (i := (z - 1) - i) (by omega) (by decide) d_Row_turnAround_36 ?_
      refine riast X hB hN 1 (wl' := [(o, .inr (0, [.ref oi, .int (nI z)])), (oi, .inl (t 0, 100, .inl (upd g i (g ((z - 1) - i)))))]) rfl (i := i) (by omega) (by decide) d_Row_turnAround_37 rfl (fun H locs hB => ?_)
      refine lv_aload_n hx hb d_Row_turnAround_38 rfl (lv_at hl 1 rfl) ?_
      refine rgetL X hB hN 0 i_Row rfl cl_Row 0 (by decide) k_99 rfl rfl d_Row_turnAround_39 ?_
      refine lv_aload_n hx hb d_Row_turnAround_42 rfl (lv_at hl 1 rfl) ?_
      refine rgetL X hB hN 0 i_Row rfl cl_Row 1 (by decide) k_100 rfl rfl d_Row_turnAround_43 ?_
      refine lv_iconst (v := nI 1) hx hb d_Row_turnAround_46 (by decide) ?_
      refine wf_isub (x := z) (y := 1) hx hb d_Row_turnAround_47 (by omega) ?_
      refine lv_iload_n hx hb d_Row_turnAround_48 rfl (lv_at hl 2 rfl) ?_
      refine wf_isub (x := z - 1) (y := i) hx hb d_Row_turnAround_49 (by omega) ?_
      refine lv_iload_n hx hb d_Row_turnAround_50 rfl (lv_at hl 0 rfl) ?_
      refine riast X hB hN 1 (wl' := [(o, .inr (0, [.ref oi, .int (nI z)])), (oi, .inl (t 0, 100, .inl (upd (upd g i (g ((z - 1) - i))) ((z - 1) - i) (g i))))]) rfl (i := (z - 1) - i) (by omega) (by decide) d_Row_turnAround_51 rfl (fun H locs hB => ?_)
      refine lv_iinc (v := nI (i + 1)) (lv' := [(1, .int (nI (i + 1))), (2, .int (g i)), (0, .ref o)]) hx hb d_Row_turnAround_52 hl (k := 2) rfl (show nI i + nI 1 = nI (i + 1) from nI_add _ _) (by decide) rfl (fun ls hl => ?_)
      refine lv_goto (tgt := 2) hx hb d_Row_turnAround_55 (by decide) ?_
      exact ih (i + 1) (upd (upd g i (g ((z - 1) - i))) ((z - 1) - i) (g i)) (by omega) (by intro j hj; by_cases e1 : j = z - 1 - i; (rw [e1, pk_us, if_pos (by omega), hg i (by omega), if_neg (by omega)]; congr 1; omega); rw [pk_un e1]; by_cases e2 : j = i; (rw [e2, pk_us, if_pos (by omega), hg _ (by omega), if_neg (by omega)]); rw [pk_un e2, hg j hj]; by_cases e3 : j < i ∨ z - 1 - i < j; (rw [if_pos e3, if_pos (by omega)]); rw [if_neg e3, if_neg (by omega)]) (by omega) H locs ls (lv_sub hl [2, 0] rfl) hB
set_option maxHeartbeats 4000000 in
set_option maxRecDepth 100000 in
theorem c_Row_turnAround {l : Launch} {D : va_G} {t : Nat → ClassId} {w : wf_W} {sz : Nat} {o oi z : Nat} {rf : Nat → Int32} (hN : nd [o, oi]) (hR : w o = some (.inr (0, [.ref oi, .int (nI z)]))) (hI : w oi = some (.inl (t 0, 100, .inl rf))) (hz : z ≤ 100) : Mv l y_Row_turnAround b_Row_turnAround 3 none 0 0 0 0 D t w sz [.ref o] (fun w' => ∃ g0 : Nat → Int32, (∀ j, j < z → g0 j = rf (z - 1 - j)) ∧ w' = wf_l w [(o, .inr (0, [.ref oi, .int (nI z)])), (oi, .inl (t 0, 100, .inl g0))]) := by
  refine start_v (by decide) (Nat.le_of_ble_eq_true rfl) ?_
  intro p e s m below meth c ls H locs X hB hl
  have hx := X.1
  have hb := X.2.1
  have hl : lv_has ls 3 [(0, .ref o)] := hl
  have hB : wf_B D wcl (wf_A w s.heap.size) s.heap (wf_l w [(o, .inr (0, [.ref oi, .int (nI z)])), (oi, .inl (t 0, 100, .inl rf))]) H locs := wf_Bto (wf_l2 hR hI).symm hB
  refine lv_iconst (v := nI 0) hx hb d_Row_turnAround_0 (by decide) ?_
  refine lv_istore_n (lv' := [(1, .int (nI 0)), (0, .ref o)]) hx hb d_Row_turnAround_1 rfl hl (by decide) rfl (fun ls hl => ?_)
  refine c_Row_turnAround_L2 (l := l) X hN hR hI hz (fun i g hi hg he H locs ls hl hB => ?_) (z / 2 - 0 + 1) 0 rf (by omega) (by intro j hj; rw [if_neg (by omega)]) (by omega) H locs ls (lv_sub hl [1, 0] rfl) hB
  refine ret_v X hB d_Row_turnAround_58 ?_
  exact ⟨g, fun j hj => by (rw [hg j hj]; split; rfl; congr 1; omega), rfl⟩
set_option maxHeartbeats 4000000 in
set_option maxRecDepth 100000 in
theorem c_Row_copy {l : Launch} {D : va_G} {t : Nat → ClassId} {w : wf_W} {sz : Nat} {o oi z o2 oi2 z2 : Nat} {rf rf2 : Nat → Int32} (hN : nd [o, oi]) (hO : apart [o2, oi2] [o, oi]) (hR : w o = some (.inr (0, [.ref oi, .int (nI z)]))) (hI : w oi = some (.inl (t 0, 100, .inl rf))) (hR2 : w o2 = some (.inr (0, [.ref oi2, .int (nI z2)]))) (hI2 : w oi2 = some (.inl (t 0, 100, .inl rf2))) : Mv l y_Row_copy b_Row_copy 2 none 1 40 0 0 D t w sz [.ref o, .ref o2] (fun w' => ∃ g0 : Nat → Int32, (∀ j, j < 100 → g0 j = rf2 j) ∧ w' = wf_l w [(o, .inr (0, [.ref oi, .int (nI z2)])), (oi, .inl (t 0, 100, .inl g0))]) := by
  refine start_v (by decide) (Nat.le_of_ble_eq_true rfl) ?_
  intro p e s m below meth c ls H locs X hB hl
  have hx := X.1
  have hb := X.2.1
  have hl : lv_has ls 2 [(0, .ref o), (1, .ref o2)] := hl
  have hB : wf_B D wcl (wf_A w s.heap.size) s.heap (wf_l w [(o, .inr (0, [.ref oi, .int (nI z)])), (oi, .inl (t 0, 100, .inl rf))]) H locs := wf_Bto (wf_l2 hR hI).symm hB
  refine lv_aload_n hx hb d_Row_copy_0 rfl (lv_at hl 0 rfl) ?_
  refine lv_aload_n hx hb d_Row_copy_1 rfl (lv_at hl 1 rfl) ?_
  refine rget X hB  i_Row (wf_ro (w := w) (wl := [(o, .inr (0, [.ref oi, .int (nI z)])), (oi, .inl (t 0, 100, .inl rf))]) hO 0 rfl hR2) cl_Row 1 (by decide) k_100 rfl rfl d_Row_copy_2 ?_
  refine rput X hB hN 0 (wl' := [(o, .inr (0, [.ref oi, .int (nI z2)])), (oi, .inl (t 0, 100, .inl rf))]) i_Row t_Row_ok n_Row rfl cl_Row 1 (by decide) k_100 rfl rfl rfl rfl (Nat.le_of_ble_eq_true rfl) d_Row_copy_5 rfl (fun H locs hB => ?_)
  refine lv_aload_n hx hb d_Row_copy_8 rfl (lv_at hl 1 rfl) ?_
  refine rget X hB  i_Row (wf_ro (w := w) (wl := [(o, .inr (0, [.ref oi, .int (nI z2)])), (oi, .inl (t 0, 100, .inl rf))]) hO 0 rfl hR2) cl_Row 0 (by decide) k_99 rfl rfl d_Row_copy_9 ?_
  refine lv_iconst (v := nI 0) hx hb d_Row_copy_12 (by decide) ?_
  refine lv_aload_n hx hb d_Row_copy_13 rfl (lv_at hl 0 rfl) ?_
  refine rgetL X hB hN 0 i_Row rfl cl_Row 0 (by decide) k_99 rfl rfl d_Row_copy_14 ?_
  refine lv_iconst (v := nI 0) hx hb d_Row_copy_17 (by decide) ?_
  refine lv_aload_n hx hb d_Row_copy_18 rfl (lv_at hl 0 rfl) ?_
  refine rgetL X hB hN 0 i_Row rfl cl_Row 0 (by decide) k_99 rfl rfl d_Row_copy_19 ?_
  refine ralenL X hB hN 1 0 rfl rfl d_Row_copy_22 ?_
  refine rcopyi X hB hN 1 (wl' := [(o, .inr (0, [.ref oi, .int (nI z2)])), (oi, .inl (t 0, 100, .inl (va_cpy rf2 rf 0 0 100)))]) hl.1 (wf_ro (w := w) (wl := [(o, .inr (0, [.ref oi, .int (nI z2)])), (oi, .inl (t 0, 100, .inl rf))]) hO 1 rfl hI2) rfl (sp := 0) (dp := 0) (n := 100) (by omega) (by omega) (by decide) (by decide) k_347 k_349 k_348 k_76 (Nat.le_of_ble_eq_true rfl) (by decide +kernel) d_Row_copy_23 rfl (fun H locs hB => ?_)
  refine ret_v X hB d_Row_copy_26 ?_
  exact ⟨_, fun j hj => cpy0 hj, rfl⟩
