theorem wl_none {L : List (Nat × va_E)} : ∀ {w : wf_W} {a : Nat}, wf_l w L a = none → w a = none := by
  induction L with
  | nil => intro w a h; exact h
  | cons x t ih =>
    intro w a h
    have h2 : wf_u w x.1 x.2 a = none := ih h
    unfold wf_u at h2
    split at h2
    · cases h2
    · exact h2
set_option maxHeartbeats 4000000 in
set_option maxRecDepth 100000 in
theorem c_Rul_init {l : Launch} {D : va_G} {t : Nat → ClassId} {w : wf_W} {sz : Nat} {r0 : Nat} : Mv l y_Rul_init b_Rul_init 1 none 1 12 0 0 D t w sz [.ref r0] (fun w' => w' = w) := by
  refine start_v (by decide) (Nat.le_of_ble_eq_true rfl) ?_
  intro p e s m below meth c ls H locs X hB hl
  have hx := X.1
  have hb := X.2.1
  have hl : lv_has ls 1 [(0, .ref r0)] := hl
  refine lv_aload_n hx hb d_Rul_init_0 rfl (lv_at hl 0 rfl) ?_
  refine W.objInit hx hb X.2.2.1 (X.2.2.2.2.1.2 _ k_180 _) (X.2.2.2.2.1.2 _ k_85 _) (X.2.2.2.2.1.2 _ k_86 _) rfl (by rw [X.2.2.2.1]; exact hl.1) rfl d_Rul_init_1 (Nat.le_of_ble_eq_true rfl) (Nat.le_of_ble_eq_true rfl) ?_
  refine W.eq (g2 := F0 m 4 ls []) rfl ?_
  refine ret_v X hB d_Rul_init_4 ?_
  exact rfl
set_option maxHeartbeats 4000000 in
set_option maxRecDepth 100000 in
theorem c_Set_init {l : Launch} {D : va_G} {t : Nat → ClassId} {w : wf_W} {sz : Nat} {r k : Nat} (hN : nd [r]) (hS : w r = some (.inr (3, [.int (nI 0), .null, .null, .null, .long (lN 0), .long (lN 0)]))) : Mv l y_Set_init b_Set_init 2 none 2 32 3 244 D t w sz [.ref r, .int (nI k)] (fun w' => ∃ q1 : Nat, ∃ q2 : Nat, ∃ q3 : Nat, (nd [q1, q2, q3]) ∧ (∀ z9, z9 ∈ [q1, q2, q3] → w z9 = none) ∧ w' = wf_l w [(r, .inr (3, [.int (nI k), .ref q1, .ref q2, .ref q3, .long (lN 0), .long (lN 0)])), (q1, .inl (t 1, 164, .inr (.inl (fun _ => lN 0)))), (q2, .inl (t 1, 40, .inr (.inl (fun _ => lN 0)))), (q3, .inl (t 1, 40, .inr (.inl (fun _ => lN 0))))]) := by
  refine start_v (by decide) (Nat.le_of_ble_eq_true rfl) ?_
  intro p e s m below meth c ls H locs X hB hl
  have hx := X.1
  have hb := X.2.1
  have hl : lv_has ls 2 [(0, .ref r), (1, .int (nI k))] := hl
  have hB : wf_B D wcl (wf_A w s.heap.size) s.heap (wf_l w [(r, .inr (3, [.int (nI 0), .null, .null, .null, .long (lN 0), .long (lN 0)]))]) H locs := wf_Bto (wf_l1 hS).symm hB
  refine lv_aload_n hx hb d_Set_init_0 rfl (lv_at hl 0 rfl) ?_
  refine callJv (rt := none) (As := []) (rest := []) X hB wf_hA (c_Rul_init (l := l) (D := D) (t := t) (w := (wf_l w [(r, .inr (3, [.int (nI 0), .null, .null, .null, .long (lN 0), .long (lN 0)]))])) (sz := H.size) (r0 := r)) k_177 k_178 k_69 rfl k_179 hd_Rul_init ⟨Nat.le_of_ble_eq_true rfl, Nat.le_of_ble_eq_true rfl⟩ ⟨Nat.le_of_ble_eq_true rfl, Nat.le_of_ble_eq_true rfl⟩ hl.1 (Nat.le_of_ble_eq_true rfl) d_Set_init_1 rfl (fun w1 H locs hp hB => ?_)
  have hw_1 := hp
  have hB : wf_B D wcl (wf_A w s.heap.size) s.heap (wf_l w [(r, .inr (3, [.int (nI 0), .null, .null, .null, .long (lN 0), .long (lN 0)]))]) H locs := wf_Bto hw_1 hB
  refine lv_aload_n hx hb d_Set_init_4 rfl (lv_at hl 0 rfl) ?_
  refine lv_sipush (v := nI 164) hx hb d_Set_init_5 (by decide) ?_
  refine rnewl X hB hN wf_hA k_170 (by decide) (Nat.le_of_ble_eq_true rfl) (Nat.le_of_ble_eq_true rfl) d_Set_init_8 (fun q_8 H hq_8 hN hB => ?_)
  have hN : nd [r, q_8] := hN
  have hB : wf_B D wcl (wf_A w s.heap.size) s.heap (wf_l w [(r, .inr (3, [.int (nI 0), .null, .null, .null, .long (lN 0), .long (lN 0)])), (q_8, .inl (t 1, 164, .inr (.inl (fun _ => lN 0))))]) H locs := hB
  refine rputF X hB hN 0 (wl' := [(r, .inr (3, [.int (nI 0), .ref q_8, .null, .null, .long (lN 0), .long (lN 0)])), (q_8, .inl (t 1, 164, .inr (.inl (fun _ => lN 0))))]) i_Set t_Set_ok n_Set rfl cl_Set 1 (by decide) k_182 rfl rfl rfl rfl rfl rfl (Nat.le_of_ble_eq_true rfl) d_Set_init_10 rfl (fun H locs hB => ?_)
  refine lv_aload_n hx hb d_Set_init_13 rfl (lv_at hl 0 rfl) ?_
  refine lv_bipush (v := nI 40) hx hb d_Set_init_14 (by decide) ?_
  refine rnewl X hB hN wf_hA k_170 (by decide) (Nat.le_of_ble_eq_true rfl) (Nat.le_of_ble_eq_true rfl) d_Set_init_16 (fun q_16 H hq_16 hN hB => ?_)
  have hN : nd [r, q_8, q_16] := hN
  have hB : wf_B D wcl (wf_A w s.heap.size) s.heap (wf_l w [(r, .inr (3, [.int (nI 0), .ref q_8, .null, .null, .long (lN 0), .long (lN 0)])), (q_8, .inl (t 1, 164, .inr (.inl (fun _ => lN 0)))), (q_16, .inl (t 1, 40, .inr (.inl (fun _ => lN 0))))]) H locs := hB
  refine rputF X hB hN 0 (wl' := [(r, .inr (3, [.int (nI 0), .ref q_8, .ref q_16, .null, .long (lN 0), .long (lN 0)])), (q_8, .inl (t 1, 164, .inr (.inl (fun _ => lN 0)))), (q_16, .inl (t 1, 40, .inr (.inl (fun _ => lN 0))))]) i_Set t_Set_ok n_Set rfl cl_Set 2 (by decide) k_183 rfl rfl rfl rfl rfl rfl (Nat.le_of_ble_eq_true rfl) d_Set_init_18 rfl (fun H locs hB => ?_)
  refine lv_aload_n hx hb d_Set_init_21 rfl (lv_at hl 0 rfl) ?_
  refine lv_bipush (v := nI 40) hx hb d_Set_init_22 (by decide) ?_
  refine rnewl X hB hN wf_hA k_170 (by decide) (Nat.le_of_ble_eq_true rfl) (Nat.le_of_ble_eq_true rfl) d_Set_init_24 (fun q_24 H hq_24 hN hB => ?_)
  have hN : nd [r, q_8, q_16, q_24] := hN
  have hB : wf_B D wcl (wf_A w s.heap.size) s.heap (wf_l w [(r, .inr (3, [.int (nI 0), .ref q_8, .ref q_16, .null, .long (lN 0), .long (lN 0)])), (q_8, .inl (t 1, 164, .inr (.inl (fun _ => lN 0)))), (q_16, .inl (t 1, 40, .inr (.inl (fun _ => lN 0)))), (q_24, .inl (t 1, 40, .inr (.inl (fun _ => lN 0))))]) H locs := hB
  refine rputF X hB hN 0 (wl' := [(r, .inr (3, [.int (nI 0), .ref q_8, .ref q_16, .ref q_24, .long (lN 0), .long (lN 0)])), (q_8, .inl (t 1, 164, .inr (.inl (fun _ => lN 0)))), (q_16, .inl (t 1, 40, .inr (.inl (fun _ => lN 0)))), (q_24, .inl (t 1, 40, .inr (.inl (fun _ => lN 0))))]) i_Set t_Set_ok n_Set rfl cl_Set 3 (by decide) k_184 rfl rfl rfl rfl rfl rfl (Nat.le_of_ble_eq_true rfl) d_Set_init_26 rfl (fun H locs hB => ?_)
  refine lv_aload_n hx hb d_Set_init_29 rfl (lv_at hl 0 rfl) ?_
  refine lv_lconst (v := lN 0) hx hb d_Set_init_30 (by decide) ?_
  refine rput X hB hN 0 (wl' := [(r, .inr (3, [.int (nI 0), .ref q_8, .ref q_16, .ref q_24, .long (lN 0), .long (lN 0)])), (q_8, .inl (t 1, 164, .inr (.inl (fun _ => lN 0)))), (q_16, .inl (t 1, 40, .inr (.inl (fun _ => lN 0)))), (q_24, .inl (t 1, 40, .inr (.inl (fun _ => lN 0))))]) i_Set t_Set_ok n_Set rfl cl_Set 4 (by decide) k_185 rfl rfl rfl rfl (Nat.le_of_ble_eq_true rfl) d_Set_init_31 rfl (fun H locs hB => ?_)
  refine lv_aload_n hx hb d_Set_init_34 rfl (lv_at hl 0 rfl) ?_
  refine lv_lconst (v := lN 0) hx hb d_Set_init_35 (by decide) ?_
  refine rput X hB hN 0 (wl' := [(r, .inr (3, [.int (nI 0), .ref q_8, .ref q_16, .ref q_24, .long (lN 0), .long (lN 0)])), (q_8, .inl (t 1, 164, .inr (.inl (fun _ => lN 0)))), (q_16, .inl (t 1, 40, .inr (.inl (fun _ => lN 0)))), (q_24, .inl (t 1, 40, .inr (.inl (fun _ => lN 0))))]) i_Set t_Set_ok n_Set rfl cl_Set 5 (by decide) k_186 rfl rfl rfl rfl (Nat.le_of_ble_eq_true rfl) d_Set_init_36 rfl (fun H locs hB => ?_)
  refine lv_aload_n hx hb d_Set_init_39 rfl (lv_at hl 0 rfl) ?_
  refine lv_iload_n hx hb d_Set_init_40 rfl (lv_at hl 1 rfl) ?_
  refine rputF X hB hN 0 (wl' := [(r, .inr (3, [.int (nI k), .ref q_8, .ref q_16, .ref q_24, .long (lN 0), .long (lN 0)])), (q_8, .inl (t 1, 164, .inr (.inl (fun _ => lN 0)))), (q_16, .inl (t 1, 40, .inr (.inl (fun _ => lN 0)))), (q_24, .inl (t 1, 40, .inr (.inl (fun _ => lN 0))))]) i_Set t_Set_ok n_Set rfl cl_Set 0 (by decide) k_181 rfl rfl rfl rfl rfl rfl (Nat.le_of_ble_eq_true rfl) d_Set_init_41 rfl (fun H locs hB => ?_)
  refine ret_v X hB d_Set_init_44 ?_
  exact ⟨q_8, q_16, q_24, nd_sub hN [1, 2, 3] rfl (by decide), fun z hz => by (simp only [List.mem_cons, List.not_mem_nil, or_false] at hz; rcases hz with rfl | rfl | rfl <;> assumption), rfl⟩
set_option maxHeartbeats 4000000 in
set_option maxRecDepth 100000 in
theorem c_Pla_init {l : Launch} {D : va_G} {t : Nat → ClassId} {w : wf_W} {sz : Nat} {g k : Nat} (hN : nd [g]) (hG : w g = some (.inr (2, [.int (nI 0), .null, .null, .null, .null, .null, .null, .int (nI 0)]))) : Mv l y_Pla_init b_Pla_init 2 none 1 12 6 1640 D t w sz [.ref g, .int (nI k)] (fun w' => ∃ q1 : Nat, ∃ q2 : Nat, ∃ q3 : Nat, ∃ q4 : Nat, ∃ q5 : Nat, ∃ q6 : Nat, (nd [q1, q2, q3, q4, q5, q6]) ∧ (∀ z9, z9 ∈ [q1, q2, q3, q4, q5, q6] → w z9 = none) ∧ w' = wf_l w [(g, .inr (2, [.int (nI k), .ref q1, .ref q2, .ref q3, .ref q4, .ref q5, .ref q6, .int (nI 0)])), (q1, .inl (t 1, 200, .inr (.inl (fun _ => lN 0)))), (q2, .inl (t 0, 800, .inl (fun _ => nI 0))), (q3, .inl (t 2, 200, .inl (fun _ => nI 0))), (q4, .inl (t 0, 200, .inl (fun _ => nI 0))), (q5, .inl (t 0, 200, .inl (fun _ => nI 0))), (q6, .inl (t 0, 40, .inl (fun _ => nI 0)))]) := by
  refine start_v (by decide) (Nat.le_of_ble_eq_true rfl) ?_
  intro p e s m below meth c ls H locs X hB hl
  have hx := X.1
  have hb := X.2.1
  have hl : lv_has ls 2 [(0, .ref g), (1, .int (nI k))] := hl
  have hB : wf_B D wcl (wf_A w s.heap.size) s.heap (wf_l w [(g, .inr (2, [.int (nI 0), .null, .null, .null, .null, .null, .null, .int (nI 0)]))]) H locs := wf_Bto (wf_l1 hG).symm hB
  refine lv_aload_n hx hb d_Pla_init_0 rfl (lv_at hl 0 rfl) ?_
  refine W.objInit hx hb X.2.2.1 (X.2.2.2.2.1.2 _ k_143 _) (X.2.2.2.2.1.2 _ k_85 _) (X.2.2.2.2.1.2 _ k_86 _) rfl (by rw [X.2.2.2.1]; exact hl.1) rfl d_Pla_init_1 (Nat.le_of_ble_eq_true rfl) (Nat.le_of_ble_eq_true rfl) ?_
  refine W.eq (g2 := F0 m 4 ls []) rfl ?_
  refine lv_aload_n hx hb d_Pla_init_4 rfl (lv_at hl 0 rfl) ?_
  refine lv_sipush (v := nI 200) hx hb d_Pla_init_5 (by decide) ?_
  refine rnewl X hB hN wf_hA k_170 (by decide) (Nat.le_of_ble_eq_true rfl) (Nat.le_of_ble_eq_true rfl) d_Pla_init_8 (fun q_8 H hq_8 hN hB => ?_)
  have hN : nd [g, q_8] := hN
  have hB : wf_B D wcl (wf_A w s.heap.size) s.heap (wf_l w [(g, .inr (2, [.int (nI 0), .null, .null, .null, .null, .null, .null, .int (nI 0)])), (q_8, .inl (t 1, 200, .inr (.inl (fun _ => lN 0))))]) H locs := hB
  refine rputF X hB hN 0 (wl' := [(g, .inr (2, [.int (nI 0), .ref q_8, .null, .null, .null, .null, .null, .int (nI 0)])), (q_8, .inl (t 1, 200, .inr (.inl (fun _ => lN 0))))]) i_Pla t_Pla_ok n_Pla rfl cl_Pla 1 (by decide) k_145 rfl rfl rfl rfl rfl rfl (Nat.le_of_ble_eq_true rfl) d_Pla_init_10 rfl (fun H locs hB => ?_)
  refine lv_aload_n hx hb d_Pla_init_13 rfl (lv_at hl 0 rfl) ?_
  refine lv_sipush (v := nI 800) hx hb d_Pla_init_14 (by decide) ?_
  refine rnewi X hB hN wf_hA k_110 (by decide) (Nat.le_of_ble_eq_true rfl) (Nat.le_of_ble_eq_true rfl) d_Pla_init_17 (fun q_17 H hq_17 hN hB => ?_)
  have hN : nd [g, q_8, q_17] := hN
  have hB : wf_B D wcl (wf_A w s.heap.size) s.heap (wf_l w [(g, .inr (2, [.int (nI 0), .ref q_8, .null, .null, .null, .null, .null, .int (nI 0)])), (q_8, .inl (t 1, 200, .inr (.inl (fun _ => lN 0)))), (q_17, .inl (t 0, 800, .inl (fun _ => nI 0)))]) H locs := hB
  refine rputF X hB hN 0 (wl' := [(g, .inr (2, [.int (nI 0), .ref q_8, .ref q_17, .null, .null, .null, .null, .int (nI 0)])), (q_8, .inl (t 1, 200, .inr (.inl (fun _ => lN 0)))), (q_17, .inl (t 0, 800, .inl (fun _ => nI 0)))]) i_Pla t_Pla_ok n_Pla rfl cl_Pla 2 (by decide) k_146 rfl rfl rfl rfl rfl rfl (Nat.le_of_ble_eq_true rfl) d_Pla_init_19 rfl (fun H locs hB => ?_)
  refine lv_aload_n hx hb d_Pla_init_22 rfl (lv_at hl 0 rfl) ?_
  refine lv_sipush (v := nI 200) hx hb d_Pla_init_23 (by decide) ?_
  refine rnewz X hB hN wf_hA k_171 (by decide) (Nat.le_of_ble_eq_true rfl) (Nat.le_of_ble_eq_true rfl) d_Pla_init_26 (fun q_26 H hq_26 hN hB => ?_)
  have hN : nd [g, q_8, q_17, q_26] := hN
  have hB : wf_B D wcl (wf_A w s.heap.size) s.heap (wf_l w [(g, .inr (2, [.int (nI 0), .ref q_8, .ref q_17, .null, .null, .null, .null, .int (nI 0)])), (q_8, .inl (t 1, 200, .inr (.inl (fun _ => lN 0)))), (q_17, .inl (t 0, 800, .inl (fun _ => nI 0))), (q_26, .inl (t 2, 200, .inl (fun _ => nI 0)))]) H locs := hB
  refine rputF X hB hN 0 (wl' := [(g, .inr (2, [.int (nI 0), .ref q_8, .ref q_17, .ref q_26, .null, .null, .null, .int (nI 0)])), (q_8, .inl (t 1, 200, .inr (.inl (fun _ => lN 0)))), (q_17, .inl (t 0, 800, .inl (fun _ => nI 0))), (q_26, .inl (t 2, 200, .inl (fun _ => nI 0)))]) i_Pla t_Pla_ok n_Pla rfl cl_Pla 3 (by decide) k_147 rfl rfl rfl rfl rfl rfl (Nat.le_of_ble_eq_true rfl) d_Pla_init_28 rfl (fun H locs hB => ?_)
  refine lv_aload_n hx hb d_Pla_init_31 rfl (lv_at hl 0 rfl) ?_
  refine lv_sipush (v := nI 200) hx hb d_Pla_init_32 (by decide) ?_
  refine rnewi X hB hN wf_hA k_110 (by decide) (Nat.le_of_ble_eq_true rfl) (Nat.le_of_ble_eq_true rfl) d_Pla_init_35 (fun q_35 H hq_35 hN hB => ?_)
  have hN : nd [g, q_8, q_17, q_26, q_35] := hN
  have hB : wf_B D wcl (wf_A w s.heap.size) s.heap (wf_l w [(g, .inr (2, [.int (nI 0), .ref q_8, .ref q_17, .ref q_26, .null, .null, .null, .int (nI 0)])), (q_8, .inl (t 1, 200, .inr (.inl (fun _ => lN 0)))), (q_17, .inl (t 0, 800, .inl (fun _ => nI 0))), (q_26, .inl (t 2, 200, .inl (fun _ => nI 0))), (q_35, .inl (t 0, 200, .inl (fun _ => nI 0)))]) H locs := hB
  refine rputF X hB hN 0 (wl' := [(g, .inr (2, [.int (nI 0), .ref q_8, .ref q_17, .ref q_26, .ref q_35, .null, .null, .int (nI 0)])), (q_8, .inl (t 1, 200, .inr (.inl (fun _ => lN 0)))), (q_17, .inl (t 0, 800, .inl (fun _ => nI 0))), (q_26, .inl (t 2, 200, .inl (fun _ => nI 0))), (q_35, .inl (t 0, 200, .inl (fun _ => nI 0)))]) i_Pla t_Pla_ok n_Pla rfl cl_Pla 4 (by decide) k_148 rfl rfl rfl rfl rfl rfl (Nat.le_of_ble_eq_true rfl) d_Pla_init_37 rfl (fun H locs hB => ?_)
  refine lv_aload_n hx hb d_Pla_init_40 rfl (lv_at hl 0 rfl) ?_
  refine lv_sipush (v := nI 200) hx hb d_Pla_init_41 (by decide) ?_
  refine rnewi X hB hN wf_hA k_110 (by decide) (Nat.le_of_ble_eq_true rfl) (Nat.le_of_ble_eq_true rfl) d_Pla_init_44 (fun q_44 H hq_44 hN hB => ?_)
  have hN : nd [g, q_8, q_17, q_26, q_35, q_44] := hN
  have hB : wf_B D wcl (wf_A w s.heap.size) s.heap (wf_l w [(g, .inr (2, [.int (nI 0), .ref q_8, .ref q_17, .ref q_26, .ref q_35, .null, .null, .int (nI 0)])), (q_8, .inl (t 1, 200, .inr (.inl (fun _ => lN 0)))), (q_17, .inl (t 0, 800, .inl (fun _ => nI 0))), (q_26, .inl (t 2, 200, .inl (fun _ => nI 0))), (q_35, .inl (t 0, 200, .inl (fun _ => nI 0))), (q_44, .inl (t 0, 200, .inl (fun _ => nI 0)))]) H locs := hB
  refine rputF X hB hN 0 (wl' := [(g, .inr (2, [.int (nI 0), .ref q_8, .ref q_17, .ref q_26, .ref q_35, .ref q_44, .null, .int (nI 0)])), (q_8, .inl (t 1, 200, .inr (.inl (fun _ => lN 0)))), (q_17, .inl (t 0, 800, .inl (fun _ => nI 0))), (q_26, .inl (t 2, 200, .inl (fun _ => nI 0))), (q_35, .inl (t 0, 200, .inl (fun _ => nI 0))), (q_44, .inl (t 0, 200, .inl (fun _ => nI 0)))]) i_Pla t_Pla_ok n_Pla rfl cl_Pla 5 (by decide) k_149 rfl rfl rfl rfl rfl rfl (Nat.le_of_ble_eq_true rfl) d_Pla_init_46 rfl (fun H locs hB => ?_)
  refine lv_aload_n hx hb d_Pla_init_49 rfl (lv_at hl 0 rfl) ?_
  refine lv_bipush (v := nI 40) hx hb d_Pla_init_50 (by decide) ?_
  refine rnewi X hB hN wf_hA k_110 (by decide) (Nat.le_of_ble_eq_true rfl) (Nat.le_of_ble_eq_true rfl) d_Pla_init_52 (fun q_52 H hq_52 hN hB => ?_)
  have hN : nd [g, q_8, q_17, q_26, q_35, q_44, q_52] := hN
  have hB : wf_B D wcl (wf_A w s.heap.size) s.heap (wf_l w [(g, .inr (2, [.int (nI 0), .ref q_8, .ref q_17, .ref q_26, .ref q_35, .ref q_44, .null, .int (nI 0)])), (q_8, .inl (t 1, 200, .inr (.inl (fun _ => lN 0)))), (q_17, .inl (t 0, 800, .inl (fun _ => nI 0))), (q_26, .inl (t 2, 200, .inl (fun _ => nI 0))), (q_35, .inl (t 0, 200, .inl (fun _ => nI 0))), (q_44, .inl (t 0, 200, .inl (fun _ => nI 0))), (q_52, .inl (t 0, 40, .inl (fun _ => nI 0)))]) H locs := hB
  refine rputF X hB hN 0 (wl' := [(g, .inr (2, [.int (nI 0), .ref q_8, .ref q_17, .ref q_26, .ref q_35, .ref q_44, .ref q_52, .int (nI 0)])), (q_8, .inl (t 1, 200, .inr (.inl (fun _ => lN 0)))), (q_17, .inl (t 0, 800, .inl (fun _ => nI 0))), (q_26, .inl (t 2, 200, .inl (fun _ => nI 0))), (q_35, .inl (t 0, 200, .inl (fun _ => nI 0))), (q_44, .inl (t 0, 200, .inl (fun _ => nI 0))), (q_52, .inl (t 0, 40, .inl (fun _ => nI 0)))]) i_Pla t_Pla_ok n_Pla rfl cl_Pla 6 (by decide) k_150 rfl rfl rfl rfl rfl rfl (Nat.le_of_ble_eq_true rfl) d_Pla_init_54 rfl (fun H locs hB => ?_)
  refine lv_aload_n hx hb d_Pla_init_57 rfl (lv_at hl 0 rfl) ?_
  refine lv_iconst (v := nI 0) hx hb d_Pla_init_58 (by decide) ?_
  refine rput X hB hN 0 (wl' := [(g, .inr (2, [.int (nI 0), .ref q_8, .ref q_17, .ref q_26, .ref q_35, .ref q_44, .ref q_52, .int (nI 0)])), (q_8, .inl (t 1, 200, .inr (.inl (fun _ => lN 0)))), (q_17, .inl (t 0, 800, .inl (fun _ => nI 0))), (q_26, .inl (t 2, 200, .inl (fun _ => nI 0))), (q_35, .inl (t 0, 200, .inl (fun _ => nI 0))), (q_44, .inl (t 0, 200, .inl (fun _ => nI 0))), (q_52, .inl (t 0, 40, .inl (fun _ => nI 0)))]) i_Pla t_Pla_ok n_Pla rfl cl_Pla 7 (by decide) k_151 rfl rfl rfl rfl (Nat.le_of_ble_eq_true rfl) d_Pla_init_59 rfl (fun H locs hB => ?_)
  refine lv_aload_n hx hb d_Pla_init_62 rfl (lv_at hl 0 rfl) ?_
  refine lv_iload_n hx hb d_Pla_init_63 rfl (lv_at hl 1 rfl) ?_
  refine rputF X hB hN 0 (wl' := [(g, .inr (2, [.int (nI k), .ref q_8, .ref q_17, .ref q_26, .ref q_35, .ref q_44, .ref q_52, .int (nI 0)])), (q_8, .inl (t 1, 200, .inr (.inl (fun _ => lN 0)))), (q_17, .inl (t 0, 800, .inl (fun _ => nI 0))), (q_26, .inl (t 2, 200, .inl (fun _ => nI 0))), (q_35, .inl (t 0, 200, .inl (fun _ => nI 0))), (q_44, .inl (t 0, 200, .inl (fun _ => nI 0))), (q_52, .inl (t 0, 40, .inl (fun _ => nI 0)))]) i_Pla t_Pla_ok n_Pla rfl cl_Pla 0 (by decide) k_144 rfl rfl rfl rfl rfl rfl (Nat.le_of_ble_eq_true rfl) d_Pla_init_64 rfl (fun H locs hB => ?_)
  refine ret_v X hB d_Pla_init_67 ?_
  exact ⟨q_8, q_17, q_26, q_35, q_44, q_52, nd_sub hN [1, 2, 3, 4, 5, 6] rfl (by decide), fun z hz => by (simp only [List.mem_cons, List.not_mem_nil, or_false] at hz; rcases hz with rfl | rfl | rfl | rfl | rfl | rfl <;> assumption), rfl⟩
set_option maxHeartbeats 4000000 in
set_option maxRecDepth 100000 in
theorem c_Pai_init {l : Launch} {D : va_G} {t : Nat → ClassId} {w : wf_W} {sz : Nat} {u how h o : Nat} (hN : nd [u]) (hu : w u = some (.inr (6, [.int (nI 0), .null, .null]))) : Mv l y_Pai_init b_Pai_init 4 none 2 32 0 0 D t w sz [.ref u, .int (nI how), .ref h, .ref o] (fun w' => w' = wf_l w [(u, .inr (6, [.int (nI how), .ref h, .ref o]))]) := by
  refine start_v (by decide) (Nat.le_of_ble_eq_true rfl) ?_
  intro p e s m below meth c ls H locs X hB hl
  have hx := X.1
  have hb := X.2.1
  have hl : lv_has ls 4 [(0, .ref u), (1, .int (nI how)), (2, .ref h), (3, .ref o)] := hl
  have hB : wf_B D wcl (wf_A w s.heap.size) s.heap (wf_l w [(u, .inr (6, [.int (nI 0), .null, .null]))]) H locs := wf_Bto (wf_l1 hu).symm hB
  refine lv_aload_n hx hb d_Pai_init_0 rfl (lv_at hl 0 rfl) ?_
  refine callJv (rt := none) (As := []) (rest := []) X hB wf_hA (c_Rul_init (l := l) (D := D) (t := t) (w := (wf_l w [(u, .inr (6, [.int (nI 0), .null, .null]))])) (sz := H.size) (r0 := u)) k_563 k_178 k_69 rfl k_179 hd_Rul_init ⟨Nat.le_of_ble_eq_true rfl, Nat.le_of_ble_eq_true rfl⟩ ⟨Nat.le_of_ble_eq_true rfl, Nat.le_of_ble_eq_true rfl⟩ hl.1 (Nat.le_of_ble_eq_true rfl) d_Pai_init_1 rfl (fun w1 H locs hp hB => ?_)
  have hw_1 := hp
  have hB : wf_B D wcl (wf_A w s.heap.size) s.heap (wf_l w [(u, .inr (6, [.int (nI 0), .null, .null]))]) H locs := wf_Bto hw_1 hB
  refine lv_aload_n hx hb d_Pai_init_4 rfl (lv_at hl 0 rfl) ?_
  refine lv_iload_n hx hb d_Pai_init_5 rfl (lv_at hl 1 rfl) ?_
  refine rputF X hB hN 0 (wl' := [(u, .inr (6, [.int (nI how), .null, .null]))]) i_Pai t_Pai_ok n_Pai rfl cl_Pai 0 (by decide) k_564 rfl rfl rfl rfl rfl rfl (Nat.le_of_ble_eq_true rfl) d_Pai_init_6 rfl (fun H locs hB => ?_)
  refine lv_aload_n hx hb d_Pai_init_9 rfl (lv_at hl 0 rfl) ?_
  refine lv_aload_n hx hb d_Pai_init_10 rfl (lv_at hl 2 rfl) ?_
  refine rputF X hB hN 0 (wl' := [(u, .inr (6, [.int (nI how), .ref h, .null]))]) i_Pai t_Pai_ok n_Pai rfl cl_Pai 1 (by decide) k_565 rfl rfl rfl rfl rfl rfl (Nat.le_of_ble_eq_true rfl) d_Pai_init_11 rfl (fun H locs hB => ?_)
  refine lv_aload_n hx hb d_Pai_init_14 rfl (lv_at hl 0 rfl) ?_
  refine lv_aload_n hx hb d_Pai_init_15 rfl (lv_at hl 3 rfl) ?_
  refine rputF X hB hN 0 (wl' := [(u, .inr (6, [.int (nI how), .ref h, .ref o]))]) i_Pai t_Pai_ok n_Pai rfl cl_Pai 2 (by decide) k_566 rfl rfl rfl rfl rfl rfl (Nat.le_of_ble_eq_true rfl) d_Pai_init_16 rfl (fun H locs hB => ?_)
  refine ret_v X hB d_Pai_init_19 ?_
  exact rfl
set_option maxHeartbeats 4000000 in
set_option maxRecDepth 100000 in
theorem c_Joi_init {l : Launch} {D : va_G} {t : Nat → ClassId} {w : wf_W} {sz : Nat} {u h o : Nat} (hN : nd [u]) (hu : w u = some (.inr (7, [.null, .null]))) : Mv l y_Joi_init b_Joi_init 3 none 2 32 0 0 D t w sz [.ref u, .ref h, .ref o] (fun w' => w' = wf_l w [(u, .inr (7, [.ref h, .ref o]))]) := by
  refine start_v (by decide) (Nat.le_of_ble_eq_true rfl) ?_
  intro p e s m below meth c ls H locs X hB hl
  have hx := X.1
  have hb := X.2.1
  have hl : lv_has ls 3 [(0, .ref u), (1, .ref h), (2, .ref o)] := hl
  have hB : wf_B D wcl (wf_A w s.heap.size) s.heap (wf_l w [(u, .inr (7, [.null, .null]))]) H locs := wf_Bto (wf_l1 hu).symm hB
  refine lv_aload_n hx hb d_Joi_init_0 rfl (lv_at hl 0 rfl) ?_
  refine callJv (rt := none) (As := []) (rest := []) X hB wf_hA (c_Rul_init (l := l) (D := D) (t := t) (w := (wf_l w [(u, .inr (7, [.null, .null]))])) (sz := H.size) (r0 := u)) k_591 k_178 k_69 rfl k_179 hd_Rul_init ⟨Nat.le_of_ble_eq_true rfl, Nat.le_of_ble_eq_true rfl⟩ ⟨Nat.le_of_ble_eq_true rfl, Nat.le_of_ble_eq_true rfl⟩ hl.1 (Nat.le_of_ble_eq_true rfl) d_Joi_init_1 rfl (fun w1 H locs hp hB => ?_)
  have hw_1 := hp
  have hB : wf_B D wcl (wf_A w s.heap.size) s.heap (wf_l w [(u, .inr (7, [.null, .null]))]) H locs := wf_Bto hw_1 hB
  refine lv_aload_n hx hb d_Joi_init_4 rfl (lv_at hl 0 rfl) ?_
  refine lv_aload_n hx hb d_Joi_init_5 rfl (lv_at hl 1 rfl) ?_
  refine rputF X hB hN 0 (wl' := [(u, .inr (7, [.ref h, .null]))]) i_Joi t_Joi_ok n_Joi rfl cl_Joi 0 (by decide) k_592 rfl rfl rfl rfl rfl rfl (Nat.le_of_ble_eq_true rfl) d_Joi_init_6 rfl (fun H locs hB => ?_)
  refine lv_aload_n hx hb d_Joi_init_9 rfl (lv_at hl 0 rfl) ?_
  refine lv_aload_n hx hb d_Joi_init_10 rfl (lv_at hl 2 rfl) ?_
  refine rputF X hB hN 0 (wl' := [(u, .inr (7, [.ref h, .ref o]))]) i_Joi t_Joi_ok n_Joi rfl cl_Joi 1 (by decide) k_593 rfl rfl rfl rfl rfl rfl (Nat.le_of_ble_eq_true rfl) d_Joi_init_11 rfl (fun H locs hB => ?_)
  refine ret_v X hB d_Joi_init_14 ?_
  exact rfl
set_option maxHeartbeats 4000000 in
set_option maxRecDepth 100000 in
theorem c_Txt_init {l : Launch} {D : va_G} {t : Nat → ClassId} {w : wf_W} {sz : Nat} {u : Nat} (hN : nd [u]) (hu : w u = some (.inr (4, [.null, .null, .int (nI 0)]))) : Mv l y_Txt_init b_Txt_init 1 none 2 32 3 203 D t w sz [.ref u] (fun w' => ∃ q1 : Nat, ∃ q2 : Nat, ∃ q3 : Nat, (nd [q1, q2, q3]) ∧ (∀ z9, z9 ∈ [q1, q2, q3] → w z9 = none) ∧ w' = wf_l w [(u, .inr (4, [.ref q1, .ref q3, .int (nI 0)])), (q1, .inr (0, [.ref q2, .int (nI 0)])), (q2, .inl (t 0, 100, .inl (fun _ => nI 0))), (q3, .inl (t 0, 101, .inl (fun _ => nI 0)))]) := by
  refine start_v (by decide) (Nat.le_of_ble_eq_true rfl) ?_
  intro p e s m below meth c ls H locs X hB hl
  have hx := X.1
  have hb := X.2.1
  have hl : lv_has ls 1 [(0, .ref u)] := hl
  have hB : wf_B D wcl (wf_A w s.heap.size) s.heap (wf_l w [(u, .inr (4, [.null, .null, .int (nI 0)]))]) H locs := wf_Bto (wf_l1 hu).symm hB
  refine lv_aload_n hx hb d_Txt_init_0 rfl (lv_at hl 0 rfl) ?_
  refine callJv (rt := none) (As := []) (rest := []) X hB wf_hA (c_Rul_init (l := l) (D := D) (t := t) (w := (wf_l w [(u, .inr (4, [.null, .null, .int (nI 0)]))])) (sz := H.size) (r0 := u)) k_205 k_178 k_69 rfl k_179 hd_Rul_init ⟨Nat.le_of_ble_eq_true rfl, Nat.le_of_ble_eq_true rfl⟩ ⟨Nat.le_of_ble_eq_true rfl, Nat.le_of_ble_eq_true rfl⟩ hl.1 (Nat.le_of_ble_eq_true rfl) d_Txt_init_1 rfl (fun w1 H locs hp hB => ?_)
  have hw_1 := hp
  have hB : wf_B D wcl (wf_A w s.heap.size) s.heap (wf_l w [(u, .inr (4, [.null, .null, .int (nI 0)]))]) H locs := wf_Bto hw_1 hB
  refine lv_aload_n hx hb d_Txt_init_4 rfl (lv_at hl 0 rfl) ?_
  refine rnew X hB hN wf_hA i_Row t_Row_ok k_206 k_94 k_66 cl_Row df_Row (Nat.le_of_ble_eq_true rfl) (Nat.le_of_ble_eq_true rfl) d_Txt_init_5 (fun q_5 H hq_5 hN hB => ?_)
  have hN : nd [u, q_5] := hN
  have hB : wf_B D wcl (wf_A w s.heap.size) s.heap (wf_l w [(u, .inr (4, [.null, .null, .int (nI 0)])), (q_5, .inr (0, [.null, .int (nI 0)]))]) H locs := hB
  refine lv_dup hx hb d_Txt_init_8 rfl ?_
  refine callJv (rt := none) (As := []) (rest := [.ref q_5, .ref u]) X hB wf_hA (c_Row_init (l := l) (D := D) (t := t) (w := (wf_l w [(u, .inr (4, [.null, .null, .int (nI 0)])), (q_5, .inr (0, [.null, .int (nI 0)]))])) (sz := H.size) (o := q_5) (nd_sub hN [1] rfl (by decide)) (wf_lg (w := w) (l := [(u, .inr (4, [.null, .null, .int (nI 0)])), (q_5, .inr (0, [.null, .int (nI 0)]))]) hN 1 rfl)) k_207 k_96 k_66 rfl k_97 hd_Row_init ⟨Nat.le_of_ble_eq_true rfl, Nat.le_of_ble_eq_true rfl⟩ ⟨Nat.le_of_ble_eq_true rfl, Nat.le_of_ble_eq_true rfl⟩ hl.1 (Nat.le_of_ble_eq_true rfl) d_Txt_init_9 rfl (fun w1 H locs hp hB => ?_)
  obtain ⟨q_9, hqn_9, hq0_9, hw_9⟩ := hp
  have hB : wf_B D wcl (wf_A w s.heap.size) s.heap (wf_l w [(u, .inr (4, [.null, .null, .int (nI 0)])), (q_5, .inr (0, [.ref q_9, .int (nI 0)])), (q_9, .inl (t 0, 100, .inl (fun _ => nI 0)))]) H locs := wf_Bto (hw_9.trans (wlw (L1 := [(u, .inr (4, [.null, .null, .int (nI 0)])), (q_5, .inr (0, [.ref q_9, .int (nI 0)]))]) hN 1 rfl rfl (wlwN (L1 := [(u, .inr (4, [.null, .null, .int (nI 0)])), (q_5, .inr (0, [.ref q_9, .int (nI 0)])), (q_9, .inl (t 0, 100, .inl (fun _ => nI 0)))]) rfl rfl))) hB
  have hN : nd [u, q_5, q_9] := nd_app (wl := [(u, .inr (4, [.null, .null, .int (nI 0)])), (q_5, .inr (0, [.null, .int (nI 0)]))]) (w := w) hN hqn_9 hq0_9
  refine rputF X hB hN 0 (wl' := [(u, .inr (4, [.ref q_5, .null, .int (nI 0)])), (q_5, .inr (0, [.ref q_9, .int (nI 0)])), (q_9, .inl (t 0, 100, .inl (fun _ => nI 0)))]) i_Txt t_Txt_ok n_Txt rfl cl_Txt 0 (by decide) k_208 rfl rfl rfl rfl rfl rfl (Nat.le_of_ble_eq_true rfl) d_Txt_init_12 rfl (fun H locs hB => ?_)
  refine lv_aload_n hx hb d_Txt_init_15 rfl (lv_at hl 0 rfl) ?_
  refine lv_bipush (v := nI 101) hx hb d_Txt_init_16 (by decide) ?_
  refine rnewi X hB hN wf_hA k_110 (by decide) (Nat.le_of_ble_eq_true rfl) (Nat.le_of_ble_eq_true rfl) d_Txt_init_18 (fun q_18 H hq_18 hN hB => ?_)
  have hN : nd [u, q_5, q_9, q_18] := hN
  have hB : wf_B D wcl (wf_A w s.heap.size) s.heap (wf_l w [(u, .inr (4, [.ref q_5, .null, .int (nI 0)])), (q_5, .inr (0, [.ref q_9, .int (nI 0)])), (q_9, .inl (t 0, 100, .inl (fun _ => nI 0))), (q_18, .inl (t 0, 101, .inl (fun _ => nI 0)))]) H locs := hB
  refine rputF X hB hN 0 (wl' := [(u, .inr (4, [.ref q_5, .ref q_18, .int (nI 0)])), (q_5, .inr (0, [.ref q_9, .int (nI 0)])), (q_9, .inl (t 0, 100, .inl (fun _ => nI 0))), (q_18, .inl (t 0, 101, .inl (fun _ => nI 0)))]) i_Txt t_Txt_ok n_Txt rfl cl_Txt 1 (by decide) k_209 rfl rfl rfl rfl rfl rfl (Nat.le_of_ble_eq_true rfl) d_Txt_init_20 rfl (fun H locs hB => ?_)
  refine lv_aload_n hx hb d_Txt_init_23 rfl (lv_at hl 0 rfl) ?_
  refine lv_iconst (v := nI 0) hx hb d_Txt_init_24 (by decide) ?_
  refine rput X hB hN 0 (wl' := [(u, .inr (4, [.ref q_5, .ref q_18, .int (nI 0)])), (q_5, .inr (0, [.ref q_9, .int (nI 0)])), (q_9, .inl (t 0, 100, .inl (fun _ => nI 0))), (q_18, .inl (t 0, 101, .inl (fun _ => nI 0)))]) i_Txt t_Txt_ok n_Txt rfl cl_Txt 2 (by decide) k_210 rfl rfl rfl rfl (Nat.le_of_ble_eq_true rfl) d_Txt_init_25 rfl (fun H locs hB => ?_)
  refine ret_v X hB d_Txt_init_28 ?_
  exact ⟨q_5, q_9, q_18, nd_sub hN [1, 2, 3] rfl (by decide), fun z hz => by (simp only [List.mem_cons, List.not_mem_nil, or_false] at hz; rcases hz with rfl | rfl | rfl <;> first | assumption | exact wl_none (hq0_9 _ (List.mem_singleton_self _))), rfl⟩
set_option maxHeartbeats 4000000 in
set_option maxRecDepth 100000 in
theorem c_Num_init {l : Launch} {D : va_G} {t : Nat → ClassId} {w : wf_W} {sz : Nat} {u k : Nat} (hN : nd [u]) (hu : w u = some (.inr (5, [.int (nI 0), .null, .null]))) : Mv l y_Num_init b_Num_init 2 none 2 32 4 204 D t w sz [.ref u, .int (nI k)] (fun w' => ∃ q1 : Nat, ∃ q2 : Nat, ∃ q3 : Nat, ∃ q4 : Nat, (nd [q1, q2, q3, q4]) ∧ (∀ z9, z9 ∈ [q1, q2, q3, q4] → w z9 = none) ∧ w' = wf_l w [(u, .inr (5, [.int (nI k), .ref q1, .ref q3])), (q1, .inr (0, [.ref q2, .int (nI 0)])), (q2, .inl (t 0, 100, .inl (fun _ => nI 0))), (q3, .inr (0, [.ref q4, .int (nI 0)])), (q4, .inl (t 0, 100, .inl (fun _ => nI 0)))]) := by
  refine start_v (by decide) (Nat.le_of_ble_eq_true rfl) ?_
  intro p e s m below meth c ls H locs X hB hl
  have hx := X.1
  have hb := X.2.1
  have hl : lv_has ls 2 [(0, .ref u), (1, .int (nI k))] := hl
  have hB : wf_B D wcl (wf_A w s.heap.size) s.heap (wf_l w [(u, .inr (5, [.int (nI 0), .null, .null]))]) H locs := wf_Bto (wf_l1 hu).symm hB
  refine lv_aload_n hx hb d_Num_init_0 rfl (lv_at hl 0 rfl) ?_
  refine callJv (rt := none) (As := []) (rest := []) X hB wf_hA (c_Rul_init (l := l) (D := D) (t := t) (w := (wf_l w [(u, .inr (5, [.int (nI 0), .null, .null]))])) (sz := H.size) (r0 := u)) k_223 k_178 k_69 rfl k_179 hd_Rul_init ⟨Nat.le_of_ble_eq_true rfl, Nat.le_of_ble_eq_true rfl⟩ ⟨Nat.le_of_ble_eq_true rfl, Nat.le_of_ble_eq_true rfl⟩ hl.1 (Nat.le_of_ble_eq_true rfl) d_Num_init_1 rfl (fun w1 H locs hp hB => ?_)
  have hw_1 := hp
  have hB : wf_B D wcl (wf_A w s.heap.size) s.heap (wf_l w [(u, .inr (5, [.int (nI 0), .null, .null]))]) H locs := wf_Bto hw_1 hB
  refine lv_aload_n hx hb d_Num_init_4 rfl (lv_at hl 0 rfl) ?_
  refine rnew X hB hN wf_hA i_Row t_Row_ok k_224 k_94 k_66 cl_Row df_Row (Nat.le_of_ble_eq_true rfl) (Nat.le_of_ble_eq_true rfl) d_Num_init_5 (fun q_5 H hq_5 hN hB => ?_)
  have hN : nd [u, q_5] := hN
  have hB : wf_B D wcl (wf_A w s.heap.size) s.heap (wf_l w [(u, .inr (5, [.int (nI 0), .null, .null])), (q_5, .inr (0, [.null, .int (nI 0)]))]) H locs := hB
  refine lv_dup hx hb d_Num_init_8 rfl ?_
  refine callJv (rt := none) (As := []) (rest := [.ref q_5, .ref u]) X hB wf_hA (c_Row_init (l := l) (D := D) (t := t) (w := (wf_l w [(u, .inr (5, [.int (nI 0), .null, .null])), (q_5, .inr (0, [.null, .int (nI 0)]))])) (sz := H.size) (o := q_5) (nd_sub hN [1] rfl (by decide)) (wf_lg (w := w) (l := [(u, .inr (5, [.int (nI 0), .null, .null])), (q_5, .inr (0, [.null, .int (nI 0)]))]) hN 1 rfl)) k_225 k_96 k_66 rfl k_97 hd_Row_init ⟨Nat.le_of_ble_eq_true rfl, Nat.le_of_ble_eq_true rfl⟩ ⟨Nat.le_of_ble_eq_true rfl, Nat.le_of_ble_eq_true rfl⟩ hl.1 (Nat.le_of_ble_eq_true rfl) d_Num_init_9 rfl (fun w1 H locs hp hB => ?_)
  obtain ⟨q_9, hqn_9, hq0_9, hw_9⟩ := hp
  have hB : wf_B D wcl (wf_A w s.heap.size) s.heap (wf_l w [(u, .inr (5, [.int (nI 0), .null, .null])), (q_5, .inr (0, [.ref q_9, .int (nI 0)])), (q_9, .inl (t 0, 100, .inl (fun _ => nI 0)))]) H locs := wf_Bto (hw_9.trans (wlw (L1 := [(u, .inr (5, [.int (nI 0), .null, .null])), (q_5, .inr (0, [.ref q_9, .int (nI 0)]))]) hN 1 rfl rfl (wlwN (L1 := [(u, .inr (5, [.int (nI 0), .null, .null])), (q_5, .inr (0, [.ref q_9, .int (nI 0)])), (q_9, .inl (t 0, 100, .inl (fun _ => nI 0)))]) rfl rfl))) hB
  have hN : nd [u, q_5, q_9] := nd_app (wl := [(u, .inr (5, [.int (nI 0), .null, .null])), (q_5, .inr (0, [.null, .int (nI 0)]))]) (w := w) hN hqn_9 hq0_9
  refine rputF X hB hN 0 (wl' := [(u, .inr (5, [.int (nI 0), .ref q_5, .null])), (q_5, .inr (0, [.ref q_9, .int (nI 0)])), (q_9, .inl (t 0, 100, .inl (fun _ => nI 0)))]) i_Num t_Num_ok n_Num rfl cl_Num 1 (by decide) k_227 rfl rfl rfl rfl rfl rfl (Nat.le_of_ble_eq_true rfl) d_Num_init_12 rfl (fun H locs hB => ?_)
  refine lv_aload_n hx hb d_Num_init_15 rfl (lv_at hl 0 rfl) ?_
  refine rnew X hB hN wf_hA i_Row t_Row_ok k_224 k_94 k_66 cl_Row df_Row (Nat.le_of_ble_eq_true rfl) (Nat.le_of_ble_eq_true rfl) d_Num_init_16 (fun q_16 H hq_16 hN hB => ?_)
  have hN : nd [u, q_5, q_9, q_16] := hN
  have hB : wf_B D wcl (wf_A w s.heap.size) s.heap (wf_l w [(u, .inr (5, [.int (nI 0), .ref q_5, .null])), (q_5, .inr (0, [.ref q_9, .int (nI 0)])), (q_9, .inl (t 0, 100, .inl (fun _ => nI 0))), (q_16, .inr (0, [.null, .int (nI 0)]))]) H locs := hB
  refine lv_dup hx hb d_Num_init_19 rfl ?_
  refine callJv (rt := none) (As := []) (rest := [.ref q_16, .ref u]) X hB wf_hA (c_Row_init (l := l) (D := D) (t := t) (w := (wf_l w [(u, .inr (5, [.int (nI 0), .ref q_5, .null])), (q_5, .inr (0, [.ref q_9, .int (nI 0)])), (q_9, .inl (t 0, 100, .inl (fun _ => nI 0))), (q_16, .inr (0, [.null, .int (nI 0)]))])) (sz := H.size) (o := q_16) (nd_sub hN [3] rfl (by decide)) (wf_lg (w := w) (l := [(u, .inr (5, [.int (nI 0), .ref q_5, .null])), (q_5, .inr (0, [.ref q_9, .int (nI 0)])), (q_9, .inl (t 0, 100, .inl (fun _ => nI 0))), (q_16, .inr (0, [.null, .int (nI 0)]))]) hN 3 rfl)) k_225 k_96 k_66 rfl k_97 hd_Row_init ⟨Nat.le_of_ble_eq_true rfl, Nat.le_of_ble_eq_true rfl⟩ ⟨Nat.le_of_ble_eq_true rfl, Nat.le_of_ble_eq_true rfl⟩ hl.1 (Nat.le_of_ble_eq_true rfl) d_Num_init_20 rfl (fun w1 H locs hp hB => ?_)
  obtain ⟨q_20, hqn_20, hq0_20, hw_20⟩ := hp
  have hB : wf_B D wcl (wf_A w s.heap.size) s.heap (wf_l w [(u, .inr (5, [.int (nI 0), .ref q_5, .null])), (q_5, .inr (0, [.ref q_9, .int (nI 0)])), (q_9, .inl (t 0, 100, .inl (fun _ => nI 0))), (q_16, .inr (0, [.ref q_20, .int (nI 0)])), (q_20, .inl (t 0, 100, .inl (fun _ => nI 0)))]) H locs := wf_Bto (hw_20.trans (wlw (L1 := [(u, .inr (5, [.int (nI 0), .ref q_5, .null])), (q_5, .inr (0, [.ref q_9, .int (nI 0)])), (q_9, .inl (t 0, 100, .inl (fun _ => nI 0))), (q_16, .inr (0, [.ref q_20, .int (nI 0)]))]) hN 3 rfl rfl (wlwN (L1 := [(u, .inr (5, [.int (nI 0), .ref q_5, .null])), (q_5, .inr (0, [.ref q_9, .int (nI 0)])), (q_9, .inl (t 0, 100, .inl (fun _ => nI 0))), (q_16, .inr (0, [.ref q_20, .int (nI 0)])), (q_20, .inl (t 0, 100, .inl (fun _ => nI 0)))]) rfl rfl))) hB
  have hN : nd [u, q_5, q_9, q_16, q_20] := nd_app (wl := [(u, .inr (5, [.int (nI 0), .ref q_5, .null])), (q_5, .inr (0, [.ref q_9, .int (nI 0)])), (q_9, .inl (t 0, 100, .inl (fun _ => nI 0))), (q_16, .inr (0, [.null, .int (nI 0)]))]) (w := w) hN hqn_20 hq0_20
  refine rputF X hB hN 0 (wl' := [(u, .inr (5, [.int (nI 0), .ref q_5, .ref q_16])), (q_5, .inr (0, [.ref q_9, .int (nI 0)])), (q_9, .inl (t 0, 100, .inl (fun _ => nI 0))), (q_16, .inr (0, [.ref q_20, .int (nI 0)])), (q_20, .inl (t 0, 100, .inl (fun _ => nI 0)))]) i_Num t_Num_ok n_Num rfl cl_Num 2 (by decide) k_228 rfl rfl rfl rfl rfl rfl (Nat.le_of_ble_eq_true rfl) d_Num_init_23 rfl (fun H locs hB => ?_)
  refine lv_aload_n hx hb d_Num_init_26 rfl (lv_at hl 0 rfl) ?_
  refine lv_iload_n hx hb d_Num_init_27 rfl (lv_at hl 1 rfl) ?_
  refine rputF X hB hN 0 (wl' := [(u, .inr (5, [.int (nI k), .ref q_5, .ref q_16])), (q_5, .inr (0, [.ref q_9, .int (nI 0)])), (q_9, .inl (t 0, 100, .inl (fun _ => nI 0))), (q_16, .inr (0, [.ref q_20, .int (nI 0)])), (q_20, .inl (t 0, 100, .inl (fun _ => nI 0)))]) i_Num t_Num_ok n_Num rfl cl_Num 0 (by decide) k_226 rfl rfl rfl rfl rfl rfl (Nat.le_of_ble_eq_true rfl) d_Num_init_28 rfl (fun H locs hB => ?_)
  refine ret_v X hB d_Num_init_31 ?_
  exact ⟨q_5, q_9, q_16, q_20, nd_sub hN [1, 2, 3, 4] rfl (by decide), fun z hz => by (simp only [List.mem_cons, List.not_mem_nil, or_false] at hz; rcases hz with rfl | rfl | rfl | rfl <;> first | assumption | exact wl_none (hq0_9 _ (List.mem_singleton_self _)) | exact wl_none (hq0_20 _ (List.mem_singleton_self _))), rfl⟩
set_option maxHeartbeats 4000000 in
set_option maxRecDepth 100000 in
theorem c_Tal_init {l : Launch} {D : va_G} {t : Nat → ClassId} {w : wf_W} {sz : Nat} {ta k : Nat} (hN : nd [ta]) (hta : w ta = some (.inr (9, [.int (nI 0), .null]))) : Mv l y_Tal_init b_Tal_init 2 none 1 12 1 4040 D t w sz [.ref ta, .int (nI k)] (fun w' => ∃ q1 : Nat, (nd [q1]) ∧ (∀ z9, z9 ∈ [q1] → w z9 = none) ∧ w' = wf_l w [(ta, .inr (9, [.int (nI k), .ref q1])), (q1, .inl (t 1, 4040, .inr (.inl (fun _ => lN 0))))]) := by
  refine start_v (by decide) (Nat.le_of_ble_eq_true rfl) ?_
  intro p e s m below meth c ls H locs X hB hl
  have hx := X.1
  have hb := X.2.1
  have hl : lv_has ls 2 [(0, .ref ta), (1, .int (nI k))] := hl
  have hB : wf_B D wcl (wf_A w s.heap.size) s.heap (wf_l w [(ta, .inr (9, [.int (nI 0), .null]))]) H locs := wf_Bto (wf_l1 hta).symm hB
  refine lv_aload_n hx hb d_Tal_init_0 rfl (lv_at hl 0 rfl) ?_
  refine W.objInit hx hb X.2.2.1 (X.2.2.2.2.1.2 _ k_260 _) (X.2.2.2.2.1.2 _ k_85 _) (X.2.2.2.2.1.2 _ k_86 _) rfl (by rw [X.2.2.2.1]; exact hl.1) rfl d_Tal_init_1 (Nat.le_of_ble_eq_true rfl) (Nat.le_of_ble_eq_true rfl) ?_
  refine W.eq (g2 := F0 m 4 ls []) rfl ?_
  refine lv_aload_n hx hb d_Tal_init_4 rfl (lv_at hl 0 rfl) ?_
  refine lv_sipush (v := nI 4040) hx hb d_Tal_init_5 (by decide) ?_
  refine rnewl X hB hN wf_hA k_170 (by decide) (Nat.le_of_ble_eq_true rfl) (Nat.le_of_ble_eq_true rfl) d_Tal_init_8 (fun q_8 H hq_8 hN hB => ?_)
  have hN : nd [ta, q_8] := hN
  have hB : wf_B D wcl (wf_A w s.heap.size) s.heap (wf_l w [(ta, .inr (9, [.int (nI 0), .null])), (q_8, .inl (t 1, 4040, .inr (.inl (fun _ => lN 0))))]) H locs := hB
  refine rputF X hB hN 0 (wl' := [(ta, .inr (9, [.int (nI 0), .ref q_8])), (q_8, .inl (t 1, 4040, .inr (.inl (fun _ => lN 0))))]) i_Tal t_Tal_ok n_Tal rfl cl_Tal 1 (by decide) k_262 rfl rfl rfl rfl rfl rfl (Nat.le_of_ble_eq_true rfl) d_Tal_init_10 rfl (fun H locs hB => ?_)
  refine lv_aload_n hx hb d_Tal_init_13 rfl (lv_at hl 0 rfl) ?_
  refine lv_iload_n hx hb d_Tal_init_14 rfl (lv_at hl 1 rfl) ?_
  refine rputF X hB hN 0 (wl' := [(ta, .inr (9, [.int (nI k), .ref q_8])), (q_8, .inl (t 1, 4040, .inr (.inl (fun _ => lN 0))))]) i_Tal t_Tal_ok n_Tal rfl cl_Tal 0 (by decide) k_261 rfl rfl rfl rfl rfl rfl (Nat.le_of_ble_eq_true rfl) d_Tal_init_15 rfl (fun H locs hB => ?_)
  refine ret_v X hB d_Tal_init_18 ?_
  exact ⟨q_8, nd_sub hN [1] rfl (by decide), fun z hz => by (simp only [List.mem_cons, List.not_mem_nil, or_false] at hz; rcases hz with rfl <;> assumption), rfl⟩
set_option maxHeartbeats 4000000 in
set_option maxRecDepth 100000 in
theorem c_Com_init {l : Launch} {D : va_G} {t : Nat → ClassId} {w : wf_W} {sz : Nat} {cm k : Nat} (hN : nd [cm]) (hC : w cm = some (.inr (8, [.int (nI 0), .null, .null, .int (nI 0)]))) : Mv l y_Com_init b_Com_init 2 none 1 12 2 3200 D t w sz [.ref cm, .int (nI k)] (fun w' => ∃ q1 : Nat, ∃ q2 : Nat, (nd [q1, q2]) ∧ (∀ z9, z9 ∈ [q1, q2] → w z9 = none) ∧ w' = wf_l w [(cm, .inr (8, [.int (nI k), .ref q1, .ref q2, .int (nI 0)])), (q1, .inl (t 0, 1600, .inl (fun _ => nI 0))), (q2, .inl (t 0, 1600, .inl (fun _ => nI 0)))]) := by
  refine start_v (by decide) (Nat.le_of_ble_eq_true rfl) ?_
  intro p e s m below meth c ls H locs X hB hl
  have hx := X.1
  have hb := X.2.1
  have hl : lv_has ls 2 [(0, .ref cm), (1, .int (nI k))] := hl
  have hB : wf_B D wcl (wf_A w s.heap.size) s.heap (wf_l w [(cm, .inr (8, [.int (nI 0), .null, .null, .int (nI 0)]))]) H locs := wf_Bto (wf_l1 hC).symm hB
  refine lv_aload_n hx hb d_Com_init_0 rfl (lv_at hl 0 rfl) ?_
  refine W.objInit hx hb X.2.2.1 (X.2.2.2.2.1.2 _ k_241 _) (X.2.2.2.2.1.2 _ k_85 _) (X.2.2.2.2.1.2 _ k_86 _) rfl (by rw [X.2.2.2.1]; exact hl.1) rfl d_Com_init_1 (Nat.le_of_ble_eq_true rfl) (Nat.le_of_ble_eq_true rfl) ?_
  refine W.eq (g2 := F0 m 4 ls []) rfl ?_
  refine lv_aload_n hx hb d_Com_init_4 rfl (lv_at hl 0 rfl) ?_
  refine lv_sipush (v := nI 1600) hx hb d_Com_init_5 (by decide) ?_
  refine rnewi X hB hN wf_hA k_110 (by decide) (Nat.le_of_ble_eq_true rfl) (Nat.le_of_ble_eq_true rfl) d_Com_init_8 (fun q_8 H hq_8 hN hB => ?_)
  have hN : nd [cm, q_8] := hN
  have hB : wf_B D wcl (wf_A w s.heap.size) s.heap (wf_l w [(cm, .inr (8, [.int (nI 0), .null, .null, .int (nI 0)])), (q_8, .inl (t 0, 1600, .inl (fun _ => nI 0)))]) H locs := hB
  refine rputF X hB hN 0 (wl' := [(cm, .inr (8, [.int (nI 0), .ref q_8, .null, .int (nI 0)])), (q_8, .inl (t 0, 1600, .inl (fun _ => nI 0)))]) i_Com t_Com_ok n_Com rfl cl_Com 1 (by decide) k_243 rfl rfl rfl rfl rfl rfl (Nat.le_of_ble_eq_true rfl) d_Com_init_10 rfl (fun H locs hB => ?_)
  refine lv_aload_n hx hb d_Com_init_13 rfl (lv_at hl 0 rfl) ?_
  refine lv_sipush (v := nI 1600) hx hb d_Com_init_14 (by decide) ?_
  refine rnewi X hB hN wf_hA k_110 (by decide) (Nat.le_of_ble_eq_true rfl) (Nat.le_of_ble_eq_true rfl) d_Com_init_17 (fun q_17 H hq_17 hN hB => ?_)
  have hN : nd [cm, q_8, q_17] := hN
  have hB : wf_B D wcl (wf_A w s.heap.size) s.heap (wf_l w [(cm, .inr (8, [.int (nI 0), .ref q_8, .null, .int (nI 0)])), (q_8, .inl (t 0, 1600, .inl (fun _ => nI 0))), (q_17, .inl (t 0, 1600, .inl (fun _ => nI 0)))]) H locs := hB
  refine rputF X hB hN 0 (wl' := [(cm, .inr (8, [.int (nI 0), .ref q_8, .ref q_17, .int (nI 0)])), (q_8, .inl (t 0, 1600, .inl (fun _ => nI 0))), (q_17, .inl (t 0, 1600, .inl (fun _ => nI 0)))]) i_Com t_Com_ok n_Com rfl cl_Com 2 (by decide) k_244 rfl rfl rfl rfl rfl rfl (Nat.le_of_ble_eq_true rfl) d_Com_init_19 rfl (fun H locs hB => ?_)
  refine lv_aload_n hx hb d_Com_init_22 rfl (lv_at hl 0 rfl) ?_
  refine lv_iconst (v := nI 0) hx hb d_Com_init_23 (by decide) ?_
  refine rput X hB hN 0 (wl' := [(cm, .inr (8, [.int (nI 0), .ref q_8, .ref q_17, .int (nI 0)])), (q_8, .inl (t 0, 1600, .inl (fun _ => nI 0))), (q_17, .inl (t 0, 1600, .inl (fun _ => nI 0)))]) i_Com t_Com_ok n_Com rfl cl_Com 3 (by decide) k_245 rfl rfl rfl rfl (Nat.le_of_ble_eq_true rfl) d_Com_init_24 rfl (fun H locs hB => ?_)
  refine lv_aload_n hx hb d_Com_init_27 rfl (lv_at hl 0 rfl) ?_
  refine lv_iload_n hx hb d_Com_init_28 rfl (lv_at hl 1 rfl) ?_
  refine rputF X hB hN 0 (wl' := [(cm, .inr (8, [.int (nI k), .ref q_8, .ref q_17, .int (nI 0)])), (q_8, .inl (t 0, 1600, .inl (fun _ => nI 0))), (q_17, .inl (t 0, 1600, .inl (fun _ => nI 0)))]) i_Com t_Com_ok n_Com rfl cl_Com 0 (by decide) k_242 rfl rfl rfl rfl rfl rfl (Nat.le_of_ble_eq_true rfl) d_Com_init_29 rfl (fun H locs hB => ?_)
  refine ret_v X hB d_Com_init_32 ?_
  exact ⟨q_8, q_17, nd_sub hN [1, 2] rfl (by decide), fun z hz => by (simp only [List.mem_cons, List.not_mem_nil, or_false] at hz; rcases hz with rfl | rfl <;> assumption), rfl⟩
