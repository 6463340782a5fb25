set_option maxHeartbeats 4000000 in
set_option maxRecDepth 100000 in
theorem c_Set_leadAlike_L3 {l : Launch} {D : va_G} {t : Nat → ClassId} {w : wf_W} {r rl rc rz k b en : Nat} {C : Nat → Nat} {h hs n E : Nat} {f : Nat → Int32} {st : Nat → Nat → Nat} {u v : Nat}  {p : Program} {e : Env} {s : State} {m : MethodId} {below : List Frame} {meth : Method} {c : Code} (X : Cx p s m meth c R_Set "leadAlike" b_Set_leadAlike 5 (some .boolean) D t) (hS : w r = some (.inr (3, [.int (nI k), .ref rl, .ref rc, .ref rz, .long (lN b), .long (lN en)]))) (hC : w rc = some (.inl (t 1, 40, .inr (.inl (lA C))))) (hM : w h = some (.inr (1, [.int (nI k), .ref hs, .int (nI n), .long (lN E)]))) (hF : w hs = some (.inl (t 0, 40, .inl (pkA f)))) (hm : mOK k n E f st) (hC64 : ∀ i, i < 40 → C i < 2 ^ 64) (hu : u < 40) (hv : v < 40)
    (K_44 : ∀ (i : Nat), (i ≤ k) → (∀ a, a < i → (C (stp k n st u a)).testBit (stp k n st v a) = true) → (i = k) → ∀ (H : Heap) (locs : List Loc) (ls : Array Slot), lv_has ls 5 [(0, .ref r), (1, .ref h), (2, .int (nI u)), (3, .int (nI v)), (4, .int (nI i))] → wf_B D wcl (wf_A w s.heap.size) s.heap w H locs → W p l e (rmk 2 44 0 0) s m [.ref r, .ref h, .int (nI u), .int (nI v)].toArray below meth c H locs 0 0 (MQ below (wf_Qi D wcl w (fun r w' => ((∀ a, a < k → (C (stp k n st u a)).testBit (stp k n st v a) = true) ∧ r = (bI true) ∧ w' = w) ∨ ((¬ (∀ a, a < k → (C (stp k n st u a)).testBit (stp k n st v a) = true)) ∧ r = (bI false) ∧ w' = w)) s.heap.size) [.ref r, .ref h, .int (nI u), .int (nI v)].toArray s 0 0 (wf_A w s.heap.size)) (F0 m 44 ls [])) :
    ∀ (fu : Nat) (i : Nat), (i ≤ k) → (∀ a, a < i → (C (stp k n st u a)).testBit (stp k n st v a) = true) → k - i < fu → ∀ (H : Heap) (locs : List Loc) (ls : Array Slot), lv_has ls 5 [(0, .ref r), (1, .ref h), (2, .int (nI u)), (3, .int (nI v)), (4, .int (nI i))] → wf_B D wcl (wf_A w s.heap.size) s.heap w H locs → W p l e (rmk 2 44 0 0) s m [.ref r, .ref h, .int (nI u), .int (nI v)].toArray below meth c H locs 0 0 (MQ below (wf_Qi D wcl w (fun r w' => ((∀ a, a < k → (C (stp k n st u a)).testBit (stp k n st v a) = true) ∧ r = (bI true) ∧ w' = w) ∨ ((¬ (∀ a, a < k → (C (stp k n st u a)).testBit (stp k n st v a) = true)) ∧ r = (bI false) ∧ w' = w)) s.heap.size) [.ref r, .ref h, .int (nI u), .int (nI v)].toArray s 0 0 (wf_A w s.heap.size)) (F0 m 3 ls []) := by
  have hx := X.1
  have hb := X.2.1
  intro fu
  induction fu with
  | zero => intro i hi ha hfu; exact absurd hfu (Nat.not_lt_zero _)
  | succ fu ih =>
    intro i hi ha hfu H locs ls hl hB
    have hk := hm.1
    have hn := hm.2.1
    have hn0 := hm.2.2.1
    have hE := hm.E40
    refine lv_iload hx hb d_Set_leadAlike_3 (lv_at hl 4 rfl) ?_
    refine lv_aload_n hx hb d_Set_leadAlike_5 rfl (lv_at hl 0 rfl) ?_
    refine rget X hB  i_Set hS cl_Set 0 (by decide) k_181 rfl rfl d_Set_leadAlike_6 ?_
    refine wf_cge (tgt := 44) hx hb d_Set_leadAlike_9 (by decide) (nI_toInt (by omega)) (nI_toInt (by omega)) (fun c_9 => ?_) (fun c_9 => ?_)
    · exact K_44 i hi ha (by omega) H locs ls (lv_sub hl [0, 1, 2, 3, 4] rfl) hB
    · refine lv_aload_n hx hb d_Set_leadAlike_12 rfl (lv_at hl 0 rfl) ?_
      refine lv_aload_n hx hb d_Set_leadAlike_13 rfl (lv_at hl 1 rfl) ?_
      refine lv_iload_n hx hb d_Set_leadAlike_14 rfl (lv_at hl 2 rfl) ?_
      refine lv_iload hx hb d_Set_leadAlike_15 (lv_at hl 4 rfl) ?_
      refine callVi (As := [.int (nI u), .int (nI i)]) (rest := [.ref r]) X hB wf_hA (c_Mac_step (l := l) (D := D) (t := t) (w := w) (sz := H.size) (h := h) (hs := hs) (k := k) (n := n) (E := E) (f := f) (st := st) (u := u) (a := i) hM hF (by exact hm) (by omega) (by omega)) k_616 k_434 k_435 k_67 k_436 hM cl_Mac rfl hd_Mac_step ⟨Nat.le_of_ble_eq_true rfl, Nat.le_of_ble_eq_true rfl⟩ ⟨Nat.le_of_ble_eq_true rfl, Nat.le_of_ble_eq_true rfl⟩ hl.1 (Nat.le_of_ble_eq_true rfl) d_Set_leadAlike_17 rfl (fun r_17 w1 H locs hp hB => ?_)
      obtain ⟨rfl, hw_17⟩ := hp
      have hB : wf_B D wcl (wf_A w s.heap.size) s.heap w H locs := wf_Bto hw_17 hB
      refine callVl (As := [.int (nI (stp k n st u i))]) (rest := []) X hB wf_hA (c_Set_companyOf (l := l) (D := D) (t := t) (w := w) (sz := H.size) (r := r) (rl := rl) (rc := rc) (rz := rz) (k := k) (b := b) (en := en) (C := C) (u := stp k n st u i) hS hC (by have := stp_lt hm u i; omega)) k_617 k_619 k_20 k_70 k_620 hS cl_Set rfl hd_Set_companyOf ⟨Nat.le_of_ble_eq_true rfl, Nat.le_of_ble_eq_true rfl⟩ ⟨Nat.le_of_ble_eq_true rfl, Nat.le_of_ble_eq_true rfl⟩ hl.1 (Nat.le_of_ble_eq_true rfl) d_Set_leadAlike_20 rfl (fun r_20 w1 H locs hp hB => ?_)
      obtain ⟨rfl, hw_20⟩ := hp
      have hB : wf_B D wcl (wf_A w s.heap.size) s.heap w H locs := wf_Bto hw_20 hB
      refine wf_tl (y := lN (C (stp k n st u i))) (by rw [if_pos (by have := stp_lt hm u i; omega)]) ?_
      refine lv_aload_n hx hb d_Set_leadAlike_23 rfl (lv_at hl 1 rfl) ?_
      refine lv_iload_n hx hb d_Set_leadAlike_24 rfl (lv_at hl 3 rfl) ?_
      refine lv_iload hx hb d_Set_leadAlike_25 (lv_at hl 4 rfl) ?_
      refine callVi (As := [.int (nI v), .int (nI i)]) (rest := [.long (lN (C (stp k n st u i)))]) X hB wf_hA (c_Mac_step (l := l) (D := D) (t := t) (w := w) (sz := H.size) (h := h) (hs := hs) (k := k) (n := n) (E := E) (f := f) (st := st) (u := v) (a := i) hM hF (by exact hm) (by omega) (by omega)) k_616 k_434 k_435 k_67 k_436 hM cl_Mac rfl hd_Mac_step ⟨Nat.le_of_ble_eq_true rfl, Nat.le_of_ble_eq_true rfl⟩ ⟨Nat.le_of_ble_eq_true rfl, Nat.le_of_ble_eq_true rfl⟩ hl.1 (Nat.le_of_ble_eq_true rfl) d_Set_leadAlike_27 rfl (fun r_27 w1 H locs hp hB => ?_)
      obtain ⟨rfl, hw_27⟩ := hp
      have hB : wf_B D wcl (wf_A w s.heap.size) s.heap w H locs := wf_Bto hw_27 hB
      refine callTi (As := [.long (lN (C (stp k n st u i))), .int (nI (stp k n st v i))]) (rest := []) X hB wf_hA (c_TM_isIn (l := l) (D := D) (t := t) (w := w) (sz := H.size) (S := C (stp k n st u i)) (i := stp k n st v i) (by exact hC64 _ (by have := stp_lt hm u i; omega)) (by have := stp_lt hm v i; omega)) k_463 k_378 k_64 k_379 hd_TM_isIn ⟨Nat.le_of_ble_eq_true rfl, Nat.le_of_ble_eq_true rfl⟩ ⟨Nat.le_of_ble_eq_true rfl, Nat.le_of_ble_eq_true rfl⟩ hl.1 (Nat.le_of_ble_eq_true rfl) d_Set_leadAlike_30 rfl (fun r_30 w1 H locs hp hB => ?_)
      obtain ⟨rfl, hw_30⟩ := hp
      have hB : wf_B D wcl (wf_A w s.heap.size) s.heap w H locs := wf_Bto hw_30 hB
      refine wf_bne (tgt := 38) hx hb d_Set_leadAlike_33 (by decide) (fun c_33 => ?_) (fun c_33 => ?_)
      · refine lv_iinc (v := nI (i + 1)) (lv' := [(4, .int (nI (i + 1))), (0, .ref r), (1, .ref h), (2, .int (nI u)), (3, .int (nI v))]) hx hb d_Set_leadAlike_38 hl (k := 4) rfl (show nI i + nI 1 = nI (i + 1) from nI_add _ _) (by decide) rfl (fun ls hl => ?_)
        refine lv_goto (tgt := 3) hx hb d_Set_leadAlike_41 (by decide) ?_
        exact ih (i + 1) (by omega) (by intro a h9; by_cases e9 : a = i; (rw [e9]; exact c_33); exact ha a (by omega)) (by omega) H locs ls (lv_sub hl [1, 2, 3, 4, 0] rfl) hB
      · refine lv_iconst (v := nI 0) hx hb d_Set_leadAlike_36 (by decide) ?_
        refine wf_ti (y := bI false) rfl ?_
        refine ret_z X hB d_Set_leadAlike_37 ?_
        exact Or.inr ⟨fun q => by (have := q i (by omega); rw [c_33] at this; cases this), rfl, rfl⟩
set_option maxHeartbeats 4000000 in
set_option maxRecDepth 100000 in
theorem c_Set_leadAlike {l : Launch} {D : va_G} {t : Nat → ClassId} {w : wf_W} {sz : Nat} {r rl rc rz k b en : Nat} {C : Nat → Nat} {h hs n E : Nat} {f : Nat → Int32} {st : Nat → Nat → Nat} {u v : Nat} (hS : w r = some (.inr (3, [.int (nI k), .ref rl, .ref rc, .ref rz, .long (lN b), .long (lN en)]))) (hC : w rc = some (.inl (t 1, 40, .inr (.inl (lA C))))) (hM : w h = some (.inr (1, [.int (nI k), .ref hs, .int (nI n), .long (lN E)]))) (hF : w hs = some (.inl (t 0, 40, .inl (pkA f)))) (hm : mOK k n E f st) (hC64 : ∀ i, i < 40 → C i < 2 ^ 64) (hu : u < 40) (hv : v < 40) : Mi l y_Set_leadAlike b_Set_leadAlike 5 (some .boolean) 2 44 0 0 D t w sz [.ref r, .ref h, .int (nI u), .int (nI v)] (fun r w' => ((∀ a, a < k → (C (stp k n st u a)).testBit (stp k n st v a) = true) ∧ r = (bI true) ∧ w' = w) ∨ ((¬ (∀ a, a < k → (C (stp k n st u a)).testBit (stp k n st v a) = true)) ∧ r = (bI false) ∧ w' = w)) := by
  refine start_i (by decide) (Nat.le_of_ble_eq_true rfl) ?_
  intro p e s m below meth c ls H locs X hB hl
  have hx := X.1
  have hb := X.2.1
  have hl : lv_has ls 5 [(0, .ref r), (1, .ref h), (2, .int (nI u)), (3, .int (nI v))] := hl
  have hk := hm.1
  have hn := hm.2.1
  have hn0 := hm.2.2.1
  have hE := hm.E40
  refine lv_iconst (v := nI 0) hx hb d_Set_leadAlike_0 (by decide) ?_
  refine lv_istore (lv' := [(4, .int (nI 0)), (0, .ref r), (1, .ref h), (2, .int (nI u)), (3, .int (nI v))]) hx hb d_Set_leadAlike_1 hl (by decide) rfl (fun ls hl => ?_)
  refine c_Set_leadAlike_L3 (l := l) X hS hC hM hF hm hC64 hu hv (fun i hi ha he H locs ls hl hB => ?_) (k - 0 + 1) 0 (by omega) (by intro a ha; omega) (by omega) H locs ls (lv_sub hl [1, 2, 3, 4, 0] rfl) hB
  refine lv_iconst (v := nI 1) hx hb d_Set_leadAlike_44 (by decide) ?_
  refine wf_ti (y := bI true) rfl ?_
  refine ret_z X hB d_Set_leadAlike_45 ?_
  exact Or.inl ⟨fun a h9 => ha a (by omega), rfl, rfl⟩
set_option maxHeartbeats 4000000 in
set_option maxRecDepth 100000 in
theorem c_Set_sharpenCompany_L19 {l : Launch} {D : va_G} {t : Nat → ClassId} {w : wf_W} {r rl rc rz k b en : Nat} {C Zc : Nat → Nat} {h hs n E : Nat} {f : Nat → Int32} {st : Nat → Nat → Nat} {i : Nat} {p : Program} {e : Env} {s : State} {m : MethodId} {below : List Frame} {meth : Method} {c : Code} {Q : State → Prop} (X : Cx p s m meth c R_Set "sharpenCompany" b_Set_sharpenCompany 4 none D t) (hN : nd [r, rc, rz, h, hs]) (hS : w r = some (.inr (3, [.int (nI k), .ref rl, .ref rc, .ref rz, .long (lN b), .long (lN en)]))) (hC : w rc = some (.inl (t 1, 40, .inr (.inl (lA C))))) (hZ : w rz = some (.inl (t 1, 40, .inr (.inl (lA Zc))))) (hM : w h = some (.inr (1, [.int (nI k), .ref hs, .int (nI n), .long (lN E)]))) (hF : w hs = some (.inl (t 0, 40, .inl (pkA f)))) (hm : mOK k n E f st) (hC64 : ∀ i, i < 40 → C i < 2 ^ 64) (hi : i < n)
    (K_68 : ∀ (j : Nat) (K2 : Nat → Nat), (j ≤ n) → (∀ u, u < i → K2 u = shI k n st C u n) → (K2 i = shI k n st C i j) → (j = n) → ∀ (H : Heap) (locs : List Loc) (ls : Array Slot), lv_has ls 4 [(0, .ref r), (1, .ref h), (2, .int (nI i)), (3, .int (nI j))] → wf_B D wcl (wf_A w s.heap.size) s.heap (wf_l w [(r, .inr (3, [.int (nI k), .ref rl, .ref rc, .ref rz, .long (lN b), .long (lN en)])), (rc, .inl (t 1, 40, .inr (.inl (lA C)))), (rz, .inl (t 1, 40, .inr (.inl (lA K2)))), (h, .inr (1, [.int (nI k), .ref hs, .int (nI n), .long (lN E)])), (hs, .inl (t 0, 40, .inl (pkA f)))]) H locs → W p l e (rmk 3 68 0 0) s m [.ref r, .ref h].toArray below meth c H locs 0 0 Q (F0 m 68 ls [])) :
    ∀ (fu : Nat) (j : Nat) (K2 : Nat → Nat), (j ≤ n) → (∀ u, u < i → K2 u = shI k n st C u n) → (K2 i = shI k n st C i j) → n - j < fu → ∀ (H : Heap) (locs : List Loc) (ls : Array Slot), lv_has ls 4 [(0, .ref r), (1, .ref h), (2, .int (nI i)), (3, .int (nI j))] → wf_B D wcl (wf_A w s.heap.size) s.heap (wf_l w [(r, .inr (3, [.int (nI k), .ref rl, .ref rc, .ref rz, .long (lN b), .long (lN en)])), (rc, .inl (t 1, 40, .inr (.inl (lA C)))), (rz, .inl (t 1, 40, .inr (.inl (lA K2)))), (h, .inr (1, [.int (nI k), .ref hs, .int (nI n), .long (lN E)])), (hs, .inl (t 0, 40, .inl (pkA f)))]) H locs → W p l e (rmk 3 68 0 0) s m [.ref r, .ref h].toArray below meth c H locs 0 0 Q (F0 m 19 ls []) := by
  have hx := X.1
  have hb := X.2.1
  intro fu
  induction fu with
  | zero => intro j K2 hj hg2 hg3 hfu; exact absurd hfu (Nat.not_lt_zero _)
  | succ fu ih =>
    intro j K2 hj hg2 hg3 hfu H locs ls hl hB
    have hk := hm.1
    have hn := hm.2.1
    have hn0 := hm.2.2.1
    have hE := hm.E40
    refine lv_iload_n hx hb d_Set_sharpenCompany_19 rfl (lv_at hl 3 rfl) ?_
    refine lv_aload_n hx hb d_Set_sharpenCompany_20 rfl (lv_at hl 1 rfl) ?_
    refine rgetNL X hB hN 3 i_Mac rfl cl_Mac 2 (by decide) k_123 rfl rfl d_Set_sharpenCompany_21 ?_
    refine wf_cge (tgt := 68) hx hb d_Set_sharpenCompany_24 (by decide) (nI_toInt (by omega)) (nI_toInt (by omega)) (fun c_24 => ?_) (fun c_24 => ?_)
    · exact K_68 j K2 hj hg2 hg3 (by omega) H locs ls (lv_sub hl [0, 1, 2, 3] rfl) hB
    · refine lv_aload_n hx hb d_Set_sharpenCompany_27 rfl (lv_at hl 0 rfl) ?_
      refine rgetL X hB hN 0 i_Set rfl cl_Set 2 (by decide) k_183 rfl rfl d_Set_sharpenCompany_28 ?_
      refine lv_iload_n hx hb d_Set_sharpenCompany_31 rfl (lv_at hl 2 rfl) ?_
      refine rlaldL X hB hN 1 rfl (i := i) (by omega) (by decide) d_Set_sharpenCompany_32 ?_
      refine wf_tl (y := lN (C i)) rfl ?_
      refine lv_iload_n hx hb d_Set_sharpenCompany_33 rfl (lv_at hl 3 rfl) ?_
      refine callTi (As := [.long (lN (C i)), .int (nI j)]) (rest := []) X hB wf_hA (c_TM_isIn (l := l) (D := D) (t := t) (w := (wf_l w [(r, .inr (3, [.int (nI k), .ref rl, .ref rc, .ref rz, .long (lN b), .long (lN en)])), (rc, .inl (t 1, 40, .inr (.inl (lA C)))), (rz, .inl (t 1, 40, .inr (.inl (lA K2)))), (h, .inr (1, [.int (nI k), .ref hs, .int (nI n), .long (lN E)])), (hs, .inl (t 0, 40, .inl (pkA f)))])) (sz := H.size) (S := C i) (i := j) (by exact hC64 _ (by omega)) (by omega)) k_463 k_378 k_64 k_379 hd_TM_isIn ⟨Nat.le_of_ble_eq_true rfl, Nat.le_of_ble_eq_true rfl⟩ ⟨Nat.le_of_ble_eq_true rfl, Nat.le_of_ble_eq_true rfl⟩ hl.1 (Nat.le_of_ble_eq_true rfl) d_Set_sharpenCompany_34 rfl (fun r_34 w1 H locs hp hB => ?_)
      obtain ⟨rfl, hw_34⟩ := hp
      have hB : wf_B D wcl (wf_A w s.heap.size) s.heap (wf_l w [(r, .inr (3, [.int (nI k), .ref rl, .ref rc, .ref rz, .long (lN b), .long (lN en)])), (rc, .inl (t 1, 40, .inr (.inl (lA C)))), (rz, .inl (t 1, 40, .inr (.inl (lA K2)))), (h, .inr (1, [.int (nI k), .ref hs, .int (nI n), .long (lN E)])), (hs, .inl (t 0, 40, .inl (pkA f)))]) H locs := wf_Bto hw_34 hB
      refine wf_beq (tgt := 62) hx hb d_Set_sharpenCompany_37 (by decide) (fun c_37 => ?_) (fun c_37 => ?_)
      · have hno : True := trivial
        refine lv_iinc (v := nI (j + 1)) (lv' := [(3, .int (nI (j + 1))), (0, .ref r), (1, .ref h), (2, .int (nI i))]) hx hb d_Set_sharpenCompany_62 hl (k := 3) rfl (show nI j + nI 1 = nI (j + 1) from nI_add _ _) (by decide) rfl (fun ls hl => ?_)
        refine lv_goto (tgt := 19) hx hb d_Set_sharpenCompany_65 (by decide) ?_
        exact ih (j + 1) K2 (by omega) (by intro u hu; first | (rw [nu_n (by omega)]; exact hg2 u hu) | exact hg2 u hu) (by rw [shI]; first | (rw [nu_s, if_pos ⟨c_37, hy_44⟩]) | (rw [if_neg (fun q => hy_44 q.2)]; exact hg3) | (rw [if_neg (fun q => Bool.false_ne_true (c_37.symm.trans q.1))]; exact hg3)) (by omega) H locs ls (lv_sub hl [1, 2, 3, 0] rfl) hB
      · refine lv_aload_n hx hb d_Set_sharpenCompany_40 rfl (lv_at hl 0 rfl) ?_
        refine lv_aload_n hx hb d_Set_sharpenCompany_41 rfl (lv_at hl 1 rfl) ?_
        refine lv_iload_n hx hb d_Set_sharpenCompany_42 rfl (lv_at hl 2 rfl) ?_
        refine lv_iload_n hx hb d_Set_sharpenCompany_43 rfl (lv_at hl 3 rfl) ?_
        refine callVi (As := [.ref h, .int (nI i), .int (nI j)]) (rest := []) X hB wf_hA (c_Set_leadAlike (l := l) (D := D) (t := t) (w := (wf_l w [(r, .inr (3, [.int (nI k), .ref rl, .ref rc, .ref rz, .long (lN b), .long (lN en)])), (rc, .inl (t 1, 40, .inr (.inl (lA C)))), (rz, .inl (t 1, 40, .inr (.inl (lA K2)))), (h, .inr (1, [.int (nI k), .ref hs, .int (nI n), .long (lN E)])), (hs, .inl (t 0, 40, .inl (pkA f)))])) (sz := H.size) (r := r) (rl := rl) (rc := rc) (rz := rz) (k := k) (b := b) (en := en) (C := C) (h := h) (hs := hs) (n := n) (E := E) (f := f) (st := st) (u := i) (v := j) (wf_lg (w := w) (l := [(r, .inr (3, [.int (nI k), .ref rl, .ref rc, .ref rz, .long (lN b), .long (lN en)])), (rc, .inl (t 1, 40, .inr (.inl (lA C)))), (rz, .inl (t 1, 40, .inr (.inl (lA K2)))), (h, .inr (1, [.int (nI k), .ref hs, .int (nI n), .long (lN E)])), (hs, .inl (t 0, 40, .inl (pkA f)))]) hN 0 rfl) (wf_lg (w := w) (l := [(r, .inr (3, [.int (nI k), .ref rl, .ref rc, .ref rz, .long (lN b), .long (lN en)])), (rc, .inl (t 1, 40, .inr (.inl (lA C)))), (rz, .inl (t 1, 40, .inr (.inl (lA K2)))), (h, .inr (1, [.int (nI k), .ref hs, .int (nI n), .long (lN E)])), (hs, .inl (t 0, 40, .inl (pkA f)))]) hN 1 rfl) (wf_lg (w := w) (l := [(r, .inr (3, [.int (nI k), .ref rl, .ref rc, .ref rz, .long (lN b), .long (lN en)])), (rc, .inl (t 1, 40, .inr (.inl (lA C)))), (rz, .inl (t 1, 40, .inr (.inl (lA K2)))), (h, .inr (1, [.int (nI k), .ref hs, .int (nI n), .long (lN E)])), (hs, .inl (t 0, 40, .inl (pkA f)))]) hN 3 rfl) (wf_lg (w := w) (l := [(r, .inr (3, [.int (nI k), .ref rl, .ref rc, .ref rz, .long (lN b), .long (lN en)])), (rc, .inl (t 1, 40, .inr (.inl (lA C)))), (rz, .inl (t 1, 40, .inr (.inl (lA K2)))), (h, .inr (1, [.int (nI k), .ref hs, .int (nI n), .long (lN E)])), (hs, .inl (t 0, 40, .inl (pkA f)))]) hN 4 rfl) (by exact hm) (by exact hC64) (by omega) (by omega)) k_723 k_725 k_26 k_70 k_726 (wf_lg (w := w) (l := [(r, .inr (3, [.int (nI k), .ref rl, .ref rc, .ref rz, .long (lN b), .long (lN en)])), (rc, .inl (t 1, 40, .inr (.inl (lA C)))), (rz, .inl (t 1, 40, .inr (.inl (lA K2)))), (h, .inr (1, [.int (nI k), .ref hs, .int (nI n), .long (lN E)])), (hs, .inl (t 0, 40, .inl (pkA f)))]) hN 0 rfl) cl_Set rfl hd_Set_leadAlike ⟨Nat.le_of_ble_eq_true rfl, Nat.le_of_ble_eq_true rfl⟩ ⟨Nat.le_of_ble_eq_true rfl, Nat.le_of_ble_eq_true rfl⟩ hl.1 (Nat.le_of_ble_eq_true rfl) d_Set_sharpenCompany_44 rfl (fun r_44 w1 H locs hp hB => ?_)
        rcases hp with ⟨hy_44, rfl, hw_44⟩ | ⟨hy_44, rfl, hw_44⟩
        · have hB : wf_B D wcl (wf_A w s.heap.size) s.heap (wf_l w [(r, .inr (3, [.int (nI k), .ref rl, .ref rc, .ref rz, .long (lN b), .long (lN en)])), (rc, .inl (t 1, 40, .inr (.inl (lA C)))), (rz, .inl (t 1, 40, .inr (.inl (lA K2)))), (h, .inr (1, [.int (nI k), .ref hs, .int (nI n), .long (lN E)])), (hs, .inl (t 0, 40, .inl (pkA f)))]) H locs := wf_Bto hw_44 hB
          refine wf_beq (tgt := 62) hx hb d_Set_sharpenCompany_47 (by decide) (fun c9 => absurd c9 (by decide)) (fun _ => ?_)
          refine lv_aload_n hx hb d_Set_sharpenCompany_50 rfl (lv_at hl 0 rfl) ?_
          refine rgetL X hB hN 0 i_Set rfl cl_Set 3 (by decide) k_184 rfl rfl d_Set_sharpenCompany_51 ?_
          refine lv_iload_n hx hb d_Set_sharpenCompany_54 rfl (lv_at hl 2 rfl) ?_
          refine lv_dup2_11 hx hb d_Set_sharpenCompany_55 rfl rfl ?_
          refine rlaldL X hB hN 2 rfl (i := i) (by omega) (by decide) d_Set_sharpenCompany_56 ?_
          refine wf_tl (y := lN (K2 i)) rfl ?_
          refine lv_lconst (v := lN 1) hx hb d_Set_sharpenCompany_57 (by decide) ?_
          refine lv_iload_n hx hb d_Set_sharpenCompany_58 rfl (lv_at hl 3 rfl) ?_
          refine lv_lshl (v := lN (1 * 2 ^ j)) hx hb d_Set_sharpenCompany_59 (wb_shl _ (by omega)) ?_
          refine lv_lor hx hb d_Set_sharpenCompany_60 ?_
          refine wf_tl (y := lN ((K2 i) ||| (1 * 2 ^ j))) (wb_or (by rw [hg3]; have := shI_lt (k := k) (n := n) (st := st) (C := C) (u := i) j (by omega); omega) (by rw [Nat.one_mul]; exact Nat.pow_lt_pow_right (by decide) (by omega))) ?_
          refine wf_tl (y := lN (shI k n st C i j ||| 2 ^ j)) (by rw [hg3, Nat.one_mul]) ?_
          refine rlastA X hB hN 2 (wl' := [(r, .inr (3, [.int (nI k), .ref rl, .ref rc, .ref rz, .long (lN b), .long (lN en)])), (rc, .inl (t 1, 40, .inr (.inl (lA C)))), (rz, .inl (t 1, 40, .inr (.inl (lA (nu K2 i (shI k n st C i j ||| 2 ^ j)))))), (h, .inr (1, [.int (nI k), .ref hs, .int (nI n), .long (lN E)])), (hs, .inl (t 0, 40, .inl (pkA f)))]) rfl (i := i) (by omega) (by decide) d_Set_sharpenCompany_61 rfl (fun H locs hB => ?_)
          have hno : True := trivial
          refine lv_iinc (v := nI (j + 1)) (lv' := [(3, .int (nI (j + 1))), (0, .ref r), (1, .ref h), (2, .int (nI i))]) hx hb d_Set_sharpenCompany_62 hl (k := 3) rfl (show nI j + nI 1 = nI (j + 1) from nI_add _ _) (by decide) rfl (fun ls hl => ?_)
          refine lv_goto (tgt := 19) hx hb d_Set_sharpenCompany_65 (by decide) ?_
          exact ih (j + 1) (nu K2 i (shI k n st C i j ||| 2 ^ j)) (by omega) (by intro u hu; first | (rw [nu_n (by omega)]; exact hg2 u hu) | exact hg2 u hu) (by rw [shI]; first | (rw [nu_s, if_pos ⟨c_37, hy_44⟩]) | (rw [if_neg (fun q => hy_44 q.2)]; exact hg3) | (rw [if_neg (fun q => Bool.false_ne_true (c_37.symm.trans q.1))]; exact hg3)) (by omega) H locs ls (lv_sub hl [1, 2, 3, 0] rfl) hB
        · have hB : wf_B D wcl (wf_A w s.heap.size) s.heap (wf_l w [(r, .inr (3, [.int (nI k), .ref rl, .ref rc, .ref rz, .long (lN b), .long (lN en)])), (rc, .inl (t 1, 40, .inr (.inl (lA C)))), (rz, .inl (t 1, 40, .inr (.inl (lA K2)))), (h, .inr (1, [.int (nI k), .ref hs, .int (nI n), .long (lN E)])), (hs, .inl (t 0, 40, .inl (pkA f)))]) H locs := wf_Bto hw_44 hB
          refine wf_beq (tgt := 62) hx hb d_Set_sharpenCompany_47 (by decide) (fun _ => ?_) (fun c9 => absurd c9 (by decide))
          have hno : True := trivial
          refine lv_iinc (v := nI (j + 1)) (lv' := [(3, .int (nI (j + 1))), (0, .ref r), (1, .ref h), (2, .int (nI i))]) hx hb d_Set_sharpenCompany_62 hl (k := 3) rfl (show nI j + nI 1 = nI (j + 1) from nI_add _ _) (by decide) rfl (fun ls hl => ?_)
          refine lv_goto (tgt := 19) hx hb d_Set_sharpenCompany_65 (by decide) ?_
          exact ih (j + 1) K2 (by omega) (by intro u hu; first | (rw [nu_n (by omega)]; exact hg2 u hu) | exact hg2 u hu) (by rw [shI]; first | (rw [nu_s, if_pos ⟨c_37, hy_44⟩]) | (rw [if_neg (fun q => hy_44 q.2)]; exact hg3) | (rw [if_neg (fun q => Bool.false_ne_true (c_37.symm.trans q.1))]; exact hg3)) (by omega) H locs ls (lv_sub hl [1, 2, 3, 0] rfl) hB
set_option maxHeartbeats 4000000 in
set_option maxRecDepth 100000 in
theorem c_Set_sharpenCompany_L2 {l : Launch} {D : va_G} {t : Nat → ClassId} {w : wf_W} {r rl rc rz k b en : Nat} {C Zc : Nat → Nat} {h hs n E : Nat} {f : Nat → Int32} {st : Nat → Nat → Nat}  {p : Program} {e : Env} {s : State} {m : MethodId} {below : List Frame} {meth : Method} {c : Code} {Q : State → Prop} (X : Cx p s m meth c R_Set "sharpenCompany" b_Set_sharpenCompany 4 none D t) (hN : nd [r, rc, rz, h, hs]) (hS : w r = some (.inr (3, [.int (nI k), .ref rl, .ref rc, .ref rz, .long (lN b), .long (lN en)]))) (hC : w rc = some (.inl (t 1, 40, .inr (.inl (lA C))))) (hZ : w rz = some (.inl (t 1, 40, .inr (.inl (lA Zc))))) (hM : w h = some (.inr (1, [.int (nI k), .ref hs, .int (nI n), .long (lN E)]))) (hF : w hs = some (.inl (t 0, 40, .inl (pkA f)))) (hm : mOK k n E f st) (hC64 : ∀ i, i < 40 → C i < 2 ^ 64)
    (K_74 : ∀ (i : Nat) (K : Nat → Nat), (i ≤ n) → (∀ u, u < i → K u = shI k n st C u n) → (i = n) → ∀ (H : Heap) (locs : List Loc) (ls : Array Slot), lv_has ls 4 [(0, .ref r), (1, .ref h), (2, .int (nI i))] → wf_B D wcl (wf_A w s.heap.size) s.heap (wf_l w [(r, .inr (3, [.int (nI k), .ref rl, .ref rc, .ref rz, .long (lN b), .long (lN en)])), (rc, .inl (t 1, 40, .inr (.inl (lA C)))), (rz, .inl (t 1, 40, .inr (.inl (lA K)))), (h, .inr (1, [.int (nI k), .ref hs, .int (nI n), .long (lN E)])), (hs, .inl (t 0, 40, .inl (pkA f)))]) H locs → W p l e (rmk 3 68 0 0) s m [.ref r, .ref h].toArray below meth c H locs 0 0 Q (F0 m 74 ls [])) :
    ∀ (fu : Nat) (i : Nat) (K : Nat → Nat), (i ≤ n) → (∀ u, u < i → K u = shI k n st C u n) → n - i < fu → ∀ (H : Heap) (locs : List Loc) (ls : Array Slot), lv_has ls 4 [(0, .ref r), (1, .ref h), (2, .int (nI i))] → wf_B D wcl (wf_A w s.heap.size) s.heap (wf_l w [(r, .inr (3, [.int (nI k), .ref rl, .ref rc, .ref rz, .long (lN b), .long (lN en)])), (rc, .inl (t 1, 40, .inr (.inl (lA C)))), (rz, .inl (t 1, 40, .inr (.inl (lA K)))), (h, .inr (1, [.int (nI k), .ref hs, .int (nI n), .long (lN E)])), (hs, .inl (t 0, 40, .inl (pkA f)))]) H locs → W p l e (rmk 3 68 0 0) s m [.ref r, .ref h].toArray below meth c H locs 0 0 Q (F0 m 2 ls []) := by
  have hx := X.1
  have hb := X.2.1
  intro fu
  induction fu with
  | zero => intro i K hi hg hfu; exact absurd hfu (Nat.not_lt_zero _)
  | succ fu ih =>
    intro i K hi hg hfu H locs ls hl hB
    have hk := hm.1
    have hn := hm.2.1
    have hn0 := hm.2.2.1
    have hE := hm.E40
    refine lv_iload_n hx hb d_Set_sharpenCompany_2 rfl (lv_at hl 2 rfl) ?_
    refine lv_aload_n hx hb d_Set_sharpenCompany_3 rfl (lv_at hl 1 rfl) ?_
    refine rgetNL X hB hN 3 i_Mac rfl cl_Mac 2 (by decide) k_123 rfl rfl d_Set_sharpenCompany_4 ?_
    refine wf_cge (tgt := 74) hx hb d_Set_sharpenCompany_7 (by decide) (nI_toInt (by omega)) (nI_toInt (by omega)) (fun c_7 => ?_) (fun c_7 => ?_)
    · exact K_74 i K hi hg (by omega) H locs ls (lv_sub hl [0, 1, 2] rfl) hB
    · have hi : i < n := by omega
      refine lv_aload_n hx hb d_Set_sharpenCompany_10 rfl (lv_at hl 0 rfl) ?_
      refine rgetL X hB hN 0 i_Set rfl cl_Set 3 (by decide) k_184 rfl rfl d_Set_sharpenCompany_11 ?_
      refine lv_iload_n hx hb d_Set_sharpenCompany_14 rfl (lv_at hl 2 rfl) ?_
      refine lv_lconst (v := lN 0) hx hb d_Set_sharpenCompany_15 (by decide) ?_
      refine rlastA X hB hN 2 (wl' := [(r, .inr (3, [.int (nI k), .ref rl, .ref rc, .ref rz, .long (lN b), .long (lN en)])), (rc, .inl (t 1, 40, .inr (.inl (lA C)))), (rz, .inl (t 1, 40, .inr (.inl (lA (nu K i 0))))), (h, .inr (1, [.int (nI k), .ref hs, .int (nI n), .long (lN E)])), (hs, .inl (t 0, 40, .inl (pkA f)))]) rfl (i := i) (by omega) (by decide) d_Set_sharpenCompany_16 rfl (fun H locs hB => ?_)
      refine lv_iconst (v := nI 0) hx hb d_Set_sharpenCompany_17 (by decide) ?_
      refine lv_istore_n (lv' := [(3, .int (nI 0)), (0, .ref r), (1, .ref h), (2, .int (nI i))]) hx hb d_Set_sharpenCompany_18 rfl hl (by decide) rfl (fun ls hl => ?_)
      refine c_Set_sharpenCompany_L19 (l := l) X hN hS hC hZ hM hF hm hC64 hi (fun j K2 hj hg2 hg3 he H locs ls hl hB => ?_) (n - 0 + 1) 0 (nu K i 0) (by omega) (by intro u hu; rw [nu_n (by omega)]; exact hg u hu) (by rw [nu_s]; rfl) (by omega) H locs ls (lv_sub hl [1, 2, 3, 0] rfl) hB
      refine lv_iinc (v := nI (i + 1)) (lv' := [(2, .int (nI (i + 1))), (0, .ref r), (1, .ref h), (3, .int (nI j))]) hx hb d_Set_sharpenCompany_68 hl (k := 2) rfl (show nI i + nI 1 = nI (i + 1) from nI_add _ _) (by decide) rfl (fun ls hl => ?_)
      refine lv_goto (tgt := 2) hx hb d_Set_sharpenCompany_71 (by decide) ?_
      exact ih (i + 1) K2 (by omega) (by intro u hu; by_cases e9 : u = i; (rw [e9, hg3, he]); exact hg2 u (by omega)) (by omega) H locs ls (lv_sub hl [1, 2, 0] rfl) hB
set_option maxHeartbeats 4000000 in
set_option maxRecDepth 100000 in
theorem c_Set_sharpenCompany {l : Launch} {D : va_G} {t : Nat → ClassId} {w : wf_W} {sz : Nat} {r rl rc rz k b en : Nat} {C Zc : Nat → Nat} {h hs n E : Nat} {f : Nat → Int32} {st : Nat → Nat → Nat} (hN : nd [r, rc, rz, h, hs]) (hS : w r = some (.inr (3, [.int (nI k), .ref rl, .ref rc, .ref rz, .long (lN b), .long (lN en)]))) (hC : w rc = some (.inl (t 1, 40, .inr (.inl (lA C))))) (hZ : w rz = some (.inl (t 1, 40, .inr (.inl (lA Zc))))) (hM : w h = some (.inr (1, [.int (nI k), .ref hs, .int (nI n), .long (lN E)]))) (hF : w hs = some (.inl (t 0, 40, .inl (pkA f)))) (hm : mOK k n E f st) (hC64 : ∀ i, i < 40 → C i < 2 ^ 64) : Mv l y_Set_sharpenCompany b_Set_sharpenCompany 4 none 3 68 0 0 D t w sz [.ref r, .ref h] (fun w' => ∃ C0 : Nat → Nat, ∃ Z0 : Nat → Nat, (∀ u, C0 u = if u < n then shI k n st C u n else C u) ∧ w' = wf_l w [(r, .inr (3, [.int (nI k), .ref rl, .ref rc, .ref rz, .long (lN b), .long (lN en)])), (rc, .inl (t 1, 40, .inr (.inl (lA C0)))), (rz, .inl (t 1, 40, .inr (.inl (lA Z0)))), (h, .inr (1, [.int (nI k), .ref hs, .int (nI n), .long (lN E)])), (hs, .inl (t 0, 40, .inl (pkA f)))]) := by
  refine start_v (by decide) (Nat.le_of_ble_eq_true rfl) ?_
  intro p e s m below meth c ls H locs X hB hl
  have hx := X.1
  have hb := X.2.1
  have hl : lv_has ls 4 [(0, .ref r), (1, .ref h)] := hl
  have hB : wf_B D wcl (wf_A w s.heap.size) s.heap (wf_l w [(r, .inr (3, [.int (nI k), .ref rl, .ref rc, .ref rz, .long (lN b), .long (lN en)])), (rc, .inl (t 1, 40, .inr (.inl (lA C)))), (rz, .inl (t 1, 40, .inr (.inl (lA Zc)))), (h, .inr (1, [.int (nI k), .ref hs, .int (nI n), .long (lN E)])), (hs, .inl (t 0, 40, .inl (pkA f)))]) H locs := wf_Bto (wf_l5 hS hC hZ hM hF).symm hB
  have hk := hm.1
  have hn := hm.2.1
  have hn0 := hm.2.2.1
  have hE := hm.E40
  refine lv_iconst (v := nI 0) hx hb d_Set_sharpenCompany_0 (by decide) ?_
  refine lv_istore_n (lv' := [(2, .int (nI 0)), (0, .ref r), (1, .ref h)]) hx hb d_Set_sharpenCompany_1 rfl hl (by decide) rfl (fun ls hl => ?_)
  refine c_Set_sharpenCompany_L2 (l := l) X hN hS hC hZ hM hF hm hC64 (fun i K hi hg he H locs ls hl hB => ?_) (n - 0 + 1) 0 Zc (by omega) (by intro u hu; omega) (by omega) H locs ls (lv_sub hl [1, 2, 0] rfl) hB
  refine lv_aload_n hx hb d_Set_sharpenCompany_74 rfl (lv_at hl 0 rfl) ?_
  refine rgetL X hB hN 0 i_Set rfl cl_Set 3 (by decide) k_184 rfl rfl d_Set_sharpenCompany_75 ?_
  refine lv_iconst (v := nI 0) hx hb d_Set_sharpenCompany_78 (by decide) ?_
  refine lv_aload_n hx hb d_Set_sharpenCompany_79 rfl (lv_at hl 0 rfl) ?_
  refine rgetL X hB hN 0 i_Set rfl cl_Set 2 (by decide) k_183 rfl rfl d_Set_sharpenCompany_80 ?_
  refine lv_iconst (v := nI 0) hx hb d_Set_sharpenCompany_83 (by decide) ?_
  refine lv_aload_n hx hb d_Set_sharpenCompany_84 rfl (lv_at hl 1 rfl) ?_
  refine rgetNL X hB hN 3 i_Mac rfl cl_Mac 2 (by decide) k_123 rfl rfl d_Set_sharpenCompany_85 ?_
  refine rcopyl X hB hN 1 (wl' := [(r, .inr (3, [.int (nI k), .ref rl, .ref rc, .ref rz, .long (lN b), .long (lN en)])), (rc, .inl (t 1, 40, .inr (.inl (va_cpy (lA K) (lA C) 0 0 n)))), (rz, .inl (t 1, 40, .inr (.inl (lA K)))), (h, .inr (1, [.int (nI k), .ref hs, .int (nI n), .long (lN E)])), (hs, .inl (t 0, 40, .inl (pkA f)))]) hl.1 (wf_lg (w := w) (l := [(r, .inr (3, [.int (nI k), .ref rl, .ref rc, .ref rz, .long (lN b), .long (lN en)])), (rc, .inl (t 1, 40, .inr (.inl (lA C)))), (rz, .inl (t 1, 40, .inr (.inl (lA K)))), (h, .inr (1, [.int (nI k), .ref hs, .int (nI n), .long (lN E)])), (hs, .inl (t 0, 40, .inl (pkA f)))]) hN 2 rfl) rfl (sp := 0) (dp := 0) (n := n) (by omega) (by omega) (by decide) (by decide) k_727 k_349 k_348 k_76 (Nat.le_of_ble_eq_true rfl) (by decide +kernel) d_Set_sharpenCompany_88 rfl (fun H locs hB => ?_)
  rw [lA_cpy] at hB
  refine ret_v X hB d_Set_sharpenCompany_91 ?_
  exact ⟨_, _, fun u => by (unfold ncp; split; (rw [hg u (by omega)]); rfl), rfl⟩
set_option maxHeartbeats 4000000 in
set_option maxRecDepth 100000 in
theorem c_Set_blur_L50 {l : Launch} {D : va_G} {t : Nat → ClassId} {w : wf_W} {r rl rc rz k b en : Nat} {G C Zc : Nat → Nat} {h hs n E : Nat} {f : Nat → Int32} {st : Nat → Nat → Nat} {dd : Nat}  {p : Program} {e : Env} {s : State} {m : MethodId} {below : List Frame} {meth : Method} {c : Code} {Q : State → Prop} (X : Cx p s m meth c R_Set "blur" b_Set_blur 4 none D t) (hN : nd [r, rl, rc, rz, h, hs]) (hS : w r = some (.inr (3, [.int (nI k), .ref rl, .ref rc, .ref rz, .long (lN b), .long (lN en)]))) (hL : w rl = some (.inl (t 1, 164, .inr (.inl (lA G))))) (hC : w rc = some (.inl (t 1, 40, .inr (.inl (lA C))))) (hZ : w rz = some (.inl (t 1, 40, .inr (.inl (lA Zc))))) (hM : w h = some (.inr (1, [.int (nI k), .ref hs, .int (nI n), .long (lN E)]))) (hF : w hs = some (.inl (t 0, 40, .inl (pkA f)))) (hm : mOK k n E f st) (hd : dd ≤ 40)
    (K_66 : ∀ (j : Nat) (K2 : Nat → Nat) (Z2 : Nat → Nat), (j ≤ dd) → (∀ u, u < 40 → K2 u = blr k n E st j u) → (j = dd) → ∀ (H : Heap) (locs : List Loc) (ls : Array Slot), lv_has ls 4 [(0, .ref r), (1, .ref h), (2, .int (nI dd)), (3, .int (nI j))] → wf_B D wcl (wf_A w s.heap.size) s.heap (wf_l w [(r, .inr (3, [.int (nI k), .ref rl, .ref rc, .ref rz, .long (lN b), .long (lN en)])), (rl, .inl (t 1, 164, .inr (.inl (lA G)))), (rc, .inl (t 1, 40, .inr (.inl (lA K2)))), (rz, .inl (t 1, 40, .inr (.inl (lA Z2)))), (h, .inr (1, [.int (nI k), .ref hs, .int (nI n), .long (lN E)])), (hs, .inl (t 0, 40, .inl (pkA f)))]) H locs → W p l e (rmk 4 91 0 0) s m [.ref r, .ref h, .int (nI dd)].toArray below meth c H locs 0 0 Q (F0 m 66 ls [])) :
    ∀ (fu : Nat) (j : Nat) (K2 : Nat → Nat) (Z2 : Nat → Nat), (j ≤ dd) → (∀ u, u < 40 → K2 u = blr k n E st j u) → dd - j < fu → ∀ (H : Heap) (locs : List Loc) (ls : Array Slot), lv_has ls 4 [(0, .ref r), (1, .ref h), (2, .int (nI dd)), (3, .int (nI j))] → wf_B D wcl (wf_A w s.heap.size) s.heap (wf_l w [(r, .inr (3, [.int (nI k), .ref rl, .ref rc, .ref rz, .long (lN b), .long (lN en)])), (rl, .inl (t 1, 164, .inr (.inl (lA G)))), (rc, .inl (t 1, 40, .inr (.inl (lA K2)))), (rz, .inl (t 1, 40, .inr (.inl (lA Z2)))), (h, .inr (1, [.int (nI k), .ref hs, .int (nI n), .long (lN E)])), (hs, .inl (t 0, 40, .inl (pkA f)))]) H locs → W p l e (rmk 4 91 0 0) s m [.ref r, .ref h, .int (nI dd)].toArray below meth c H locs 0 0 Q (F0 m 50 ls []) := by
  have hx := X.1
  have hb := X.2.1
  intro fu
  induction fu with
  | zero => intro j K2 Z2 hj hg2 hfu; exact absurd hfu (Nat.not_lt_zero _)
  | succ fu ih =>
    intro j K2 Z2 hj hg2 hfu H locs ls hl hB
    have hk := hm.1
    have hn := hm.2.1
    have hn0 := hm.2.2.1
    have hE := hm.E40
    refine lv_iload_n hx hb d_Set_blur_50 rfl (lv_at hl 3 rfl) ?_
    refine lv_iload_n hx hb d_Set_blur_51 rfl (lv_at hl 2 rfl) ?_
    refine wf_cge (tgt := 66) hx hb d_Set_blur_52 (by decide) (nI_toInt (by omega)) (nI_toInt (by omega)) (fun c_52 => ?_) (fun c_52 => ?_)
    · exact K_66 j K2 Z2 hj hg2 (by omega) H locs ls (lv_sub hl [0, 1, 2, 3] rfl) hB
    · refine lv_aload_n hx hb d_Set_blur_55 rfl (lv_at hl 0 rfl) ?_
      refine lv_aload_n hx hb d_Set_blur_56 rfl (lv_at hl 1 rfl) ?_
      refine callVv (As := [.ref h]) (rest := []) X hB wf_hA (c_Set_sharpenCompany (l := l) (D := D) (t := t) (w := (wf_l w [(r, .inr (3, [.int (nI k), .ref rl, .ref rc, .ref rz, .long (lN b), .long (lN en)])), (rl, .inl (t 1, 164, .inr (.inl (lA G)))), (rc, .inl (t 1, 40, .inr (.inl (lA K2)))), (rz, .inl (t 1, 40, .inr (.inl (lA Z2)))), (h, .inr (1, [.int (nI k), .ref hs, .int (nI n), .long (lN E)])), (hs, .inl (t 0, 40, .inl (pkA f)))])) (sz := H.size) (r := r) (rl := rl) (rc := rc) (rz := rz) (k := k) (b := b) (en := en) (C := K2) (Zc := Z2) (h := h) (hs := hs) (n := n) (E := E) (f := f) (st := st) (nd_sub hN [0, 2, 3, 4, 5] rfl (by decide)) (wf_lg (w := w) (l := [(r, .inr (3, [.int (nI k), .ref rl, .ref rc, .ref rz, .long (lN b), .long (lN en)])), (rl, .inl (t 1, 164, .inr (.inl (lA G)))), (rc, .inl (t 1, 40, .inr (.inl (lA K2)))), (rz, .inl (t 1, 40, .inr (.inl (lA Z2)))), (h, .inr (1, [.int (nI k), .ref hs, .int (nI n), .long (lN E)])), (hs, .inl (t 0, 40, .inl (pkA f)))]) hN 0 rfl) (wf_lg (w := w) (l := [(r, .inr (3, [.int (nI k), .ref rl, .ref rc, .ref rz, .long (lN b), .long (lN en)])), (rl, .inl (t 1, 164, .inr (.inl (lA G)))), (rc, .inl (t 1, 40, .inr (.inl (lA K2)))), (rz, .inl (t 1, 40, .inr (.inl (lA Z2)))), (h, .inr (1, [.int (nI k), .ref hs, .int (nI n), .long (lN E)])), (hs, .inl (t 0, 40, .inl (pkA f)))]) hN 2 rfl) (wf_lg (w := w) (l := [(r, .inr (3, [.int (nI k), .ref rl, .ref rc, .ref rz, .long (lN b), .long (lN en)])), (rl, .inl (t 1, 164, .inr (.inl (lA G)))), (rc, .inl (t 1, 40, .inr (.inl (lA K2)))), (rz, .inl (t 1, 40, .inr (.inl (lA Z2)))), (h, .inr (1, [.int (nI k), .ref hs, .int (nI n), .long (lN E)])), (hs, .inl (t 0, 40, .inl (pkA f)))]) hN 3 rfl) (wf_lg (w := w) (l := [(r, .inr (3, [.int (nI k), .ref rl, .ref rc, .ref rz, .long (lN b), .long (lN en)])), (rl, .inl (t 1, 164, .inr (.inl (lA G)))), (rc, .inl (t 1, 40, .inr (.inl (lA K2)))), (rz, .inl (t 1, 40, .inr (.inl (lA Z2)))), (h, .inr (1, [.int (nI k), .ref hs, .int (nI n), .long (lN E)])), (hs, .inl (t 0, 40, .inl (pkA f)))]) hN 4 rfl) (wf_lg (w := w) (l := [(r, .inr (3, [.int (nI k), .ref rl, .ref rc, .ref rz, .long (lN b), .long (lN en)])), (rl, .inl (t 1, 164, .inr (.inl (lA G)))), (rc, .inl (t 1, 40, .inr (.inl (lA K2)))), (rz, .inl (t 1, 40, .inr (.inl (lA Z2)))), (h, .inr (1, [.int (nI k), .ref hs, .int (nI n), .long (lN E)])), (hs, .inl (t 0, 40, .inl (pkA f)))]) hN 5 rfl) (by exact hm) (by intro i hi; rw [hg2 i hi]; have := blr_lt (k := k) (st := st) hn hE j i; omega)) k_719 k_721 k_25 k_70 k_722 (wf_lg (w := w) (l := [(r, .inr (3, [.int (nI k), .ref rl, .ref rc, .ref rz, .long (lN b), .long (lN en)])), (rl, .inl (t 1, 164, .inr (.inl (lA G)))), (rc, .inl (t 1, 40, .inr (.inl (lA K2)))), (rz, .inl (t 1, 40, .inr (.inl (lA Z2)))), (h, .inr (1, [.int (nI k), .ref hs, .int (nI n), .long (lN E)])), (hs, .inl (t 0, 40, .inl (pkA f)))]) hN 0 rfl) cl_Set rfl hd_Set_sharpenCompany ⟨Nat.le_of_ble_eq_true rfl, Nat.le_of_ble_eq_true rfl⟩ ⟨Nat.le_of_ble_eq_true rfl, Nat.le_of_ble_eq_true rfl⟩ hl.1 (Nat.le_of_ble_eq_true rfl) d_Set_blur_57 rfl (fun w1 H locs hp hB => ?_)
      obtain ⟨C0_57, Z0_57, hC0_57, hw_57⟩ := hp
      have hB : wf_B D wcl (wf_A w s.heap.size) s.heap (wf_l w [(r, .inr (3, [.int (nI k), .ref rl, .ref rc, .ref rz, .long (lN b), .long (lN en)])), (rl, .inl (t 1, 164, .inr (.inl (lA G)))), (rc, .inl (t 1, 40, .inr (.inl (lA C0_57)))), (rz, .inl (t 1, 40, .inr (.inl (lA Z0_57)))), (h, .inr (1, [.int (nI k), .ref hs, .int (nI n), .long (lN E)])), (hs, .inl (t 0, 40, .inl (pkA f)))]) H locs := wf_Bto (hw_57.trans (wlw (L1 := [(r, .inr (3, [.int (nI k), .ref rl, .ref rc, .ref rz, .long (lN b), .long (lN en)])), (rl, .inl (t 1, 164, .inr (.inl (lA G)))), (rc, .inl (t 1, 40, .inr (.inl (lA K2)))), (rz, .inl (t 1, 40, .inr (.inl (lA Z2)))), (h, .inr (1, [.int (nI k), .ref hs, .int (nI n), .long (lN E)])), (hs, .inl (t 0, 40, .inl (pkA f)))]) hN 0 rfl rfl (wlw (L1 := [(r, .inr (3, [.int (nI k), .ref rl, .ref rc, .ref rz, .long (lN b), .long (lN en)])), (rl, .inl (t 1, 164, .inr (.inl (lA G)))), (rc, .inl (t 1, 40, .inr (.inl (lA C0_57)))), (rz, .inl (t 1, 40, .inr (.inl (lA Z2)))), (h, .inr (1, [.int (nI k), .ref hs, .int (nI n), .long (lN E)])), (hs, .inl (t 0, 40, .inl (pkA f)))]) hN 2 rfl rfl (wlw (L1 := [(r, .inr (3, [.int (nI k), .ref rl, .ref rc, .ref rz, .long (lN b), .long (lN en)])), (rl, .inl (t 1, 164, .inr (.inl (lA G)))), (rc, .inl (t 1, 40, .inr (.inl (lA C0_57)))), (rz, .inl (t 1, 40, .inr (.inl (lA Z0_57)))), (h, .inr (1, [.int (nI k), .ref hs, .int (nI n), .long (lN E)])), (hs, .inl (t 0, 40, .inl (pkA f)))]) hN 3 rfl rfl (wlw (L1 := [(r, .inr (3, [.int (nI k), .ref rl, .ref rc, .ref rz, .long (lN b), .long (lN en)])), (rl, .inl (t 1, 164, .inr (.inl (lA G)))), (rc, .inl (t 1, 40, .inr (.inl (lA C0_57)))), (rz, .inl (t 1, 40, .inr (.inl (lA Z0_57)))), (h, .inr (1, [.int (nI k), .ref hs, .int (nI n), .long (lN E)])), (hs, .inl (t 0, 40, .inl (pkA f)))]) hN 4 rfl rfl (wlw (L1 := [(r, .inr (3, [.int (nI k), .ref rl, .ref rc, .ref rz, .long (lN b), .long (lN en)])), (rl, .inl (t 1, 164, .inr (.inl (lA G)))), (rc, .inl (t 1, 40, .inr (.inl (lA C0_57)))), (rz, .inl (t 1, 40, .inr (.inl (lA Z0_57)))), (h, .inr (1, [.int (nI k), .ref hs, .int (nI n), .long (lN E)])), (hs, .inl (t 0, 40, .inl (pkA f)))]) hN 5 rfl rfl rfl)))))) hB
      refine lv_iinc (v := nI (j + 1)) (lv' := [(3, .int (nI (j + 1))), (0, .ref r), (1, .ref h), (2, .int (nI dd))]) hx hb d_Set_blur_60 hl (k := 3) rfl (show nI j + nI 1 = nI (j + 1) from nI_add _ _) (by decide) rfl (fun ls hl => ?_)
      refine lv_goto (tgt := 50) hx hb d_Set_blur_63 (by decide) ?_
      exact ih (j + 1) C0_57 Z0_57 (by omega) (by intro u hu; rw [hC0_57 u, blr]; dsimp only; split; (exact shI_congr hm (fun v hv => hg2 v hv) (by omega)); exact hg2 u hu) (by omega) H locs ls (lv_sub hl [1, 2, 3, 0] rfl) hB
set_option maxHeartbeats 4000000 in
set_option maxRecDepth 100000 in
theorem c_Set_blur_L2 {l : Launch} {D : va_G} {t : Nat → ClassId} {w : wf_W} {r rl rc rz k b en : Nat} {G C Zc : Nat → Nat} {h hs n E : Nat} {f : Nat → Int32} {st : Nat → Nat → Nat} {dd : Nat}  {p : Program} {e : Env} {s : State} {m : MethodId} {below : List Frame} {meth : Method} {c : Code} {Q : State → Prop} (X : Cx p s m meth c R_Set "blur" b_Set_blur 4 none D t) (hN : nd [r, rl, rc, rz, h, hs]) (hS : w r = some (.inr (3, [.int (nI k), .ref rl, .ref rc, .ref rz, .long (lN b), .long (lN en)]))) (hL : w rl = some (.inl (t 1, 164, .inr (.inl (lA G))))) (hC : w rc = some (.inl (t 1, 40, .inr (.inl (lA C))))) (hZ : w rz = some (.inl (t 1, 40, .inr (.inl (lA Zc))))) (hM : w h = some (.inr (1, [.int (nI k), .ref hs, .int (nI n), .long (lN E)]))) (hF : w hs = some (.inl (t 0, 40, .inl (pkA f)))) (hm : mOK k n E f st) (hd : dd ≤ 40)
    (K_48 : ∀ (i : Nat) (K : Nat → Nat), (i ≤ 40) → (∀ j, j < i → K j = bl0 n E j) → (i = 40) → ∀ (H : Heap) (locs : List Loc) (ls : Array Slot), lv_has ls 4 [(0, .ref r), (1, .ref h), (2, .int (nI dd)), (3, .int (nI i))] → wf_B D wcl (wf_A w s.heap.size) s.heap (wf_l w [(r, .inr (3, [.int (nI k), .ref rl, .ref rc, .ref rz, .long (lN b), .long (lN en)])), (rl, .inl (t 1, 164, .inr (.inl (lA G)))), (rc, .inl (t 1, 40, .inr (.inl (lA K)))), (rz, .inl (t 1, 40, .inr (.inl (lA Zc)))), (h, .inr (1, [.int (nI k), .ref hs, .int (nI n), .long (lN E)])), (hs, .inl (t 0, 40, .inl (pkA f)))]) H locs → W p l e (rmk 4 91 0 0) s m [.ref r, .ref h, .int (nI dd)].toArray below meth c H locs 0 0 Q (F0 m 48 ls [])) :
    ∀ (fu : Nat) (i : Nat) (K : Nat → Nat), (i ≤ 40) → (∀ j, j < i → K j = bl0 n E j) → 40 - i < fu → ∀ (H : Heap) (locs : List Loc) (ls : Array Slot), lv_has ls 4 [(0, .ref r), (1, .ref h), (2, .int (nI dd)), (3, .int (nI i))] → wf_B D wcl (wf_A w s.heap.size) s.heap (wf_l w [(r, .inr (3, [.int (nI k), .ref rl, .ref rc, .ref rz, .long (lN b), .long (lN en)])), (rl, .inl (t 1, 164, .inr (.inl (lA G)))), (rc, .inl (t 1, 40, .inr (.inl (lA K)))), (rz, .inl (t 1, 40, .inr (.inl (lA Zc)))), (h, .inr (1, [.int (nI k), .ref hs, .int (nI n), .long (lN E)])), (hs, .inl (t 0, 40, .inl (pkA f)))]) H locs → W p l e (rmk 4 91 0 0) s m [.ref r, .ref h, .int (nI dd)].toArray below meth c H locs 0 0 Q (F0 m 2 ls []) := by
  have hx := X.1
  have hb := X.2.1
  intro fu
  induction fu with
  | zero => intro i K hi hg hfu; exact absurd hfu (Nat.not_lt_zero _)
  | succ fu ih =>
    intro i K hi hg hfu H locs ls hl hB
    have hk := hm.1
    have hn := hm.2.1
    have hn0 := hm.2.2.1
    have hE := hm.E40
    refine lv_iload_n hx hb d_Set_blur_2 rfl (lv_at hl 3 rfl) ?_
    refine lv_bipush (v := nI 40) hx hb d_Set_blur_3 (by decide) ?_
    refine wf_cge (tgt := 48) hx hb d_Set_blur_5 (by decide) (nI_toInt (by omega)) (nI_toInt (by omega)) (fun c_5 => ?_) (fun c_5 => ?_)
    · exact K_48 i K hi hg (by omega) H locs ls (lv_sub hl [0, 1, 2, 3] rfl) hB
    · refine lv_aload_n hx hb d_Set_blur_8 rfl (lv_at hl 0 rfl) ?_
      refine rgetL X hB hN 0 i_Set rfl cl_Set 2 (by decide) k_183 rfl rfl d_Set_blur_9 ?_
      refine lv_iload_n hx hb d_Set_blur_12 rfl (lv_at hl 3 rfl) ?_
      refine lv_aload_n hx hb d_Set_blur_13 rfl (lv_at hl 1 rfl) ?_
      refine lv_iload_n hx hb d_Set_blur_14 rfl (lv_at hl 3 rfl) ?_
      refine callVi (As := [.int (nI i)]) (rest := [.int (nI i), .ref rc]) X hB wf_hA (c_Mac_isEnd (l := l) (D := D) (t := t) (w := (wf_l w [(r, .inr (3, [.int (nI k), .ref rl, .ref rc, .ref rz, .long (lN b), .long (lN en)])), (rl, .inl (t 1, 164, .inr (.inl (lA G)))), (rc, .inl (t 1, 40, .inr (.inl (lA K)))), (rz, .inl (t 1, 40, .inr (.inl (lA Zc)))), (h, .inr (1, [.int (nI k), .ref hs, .int (nI n), .long (lN E)])), (hs, .inl (t 0, 40, .inl (pkA f)))])) (sz := H.size) (h := h) (hs := hs) (k := k) (n := n) (E := E) (u := i) (wf_lg (w := w) (l := [(r, .inr (3, [.int (nI k), .ref rl, .ref rc, .ref rz, .long (lN b), .long (lN en)])), (rl, .inl (t 1, 164, .inr (.inl (lA G)))), (rc, .inl (t 1, 40, .inr (.inl (lA K)))), (rz, .inl (t 1, 40, .inr (.inl (lA Zc)))), (h, .inr (1, [.int (nI k), .ref hs, .int (nI n), .long (lN E)])), (hs, .inl (t 0, 40, .inl (pkA f)))]) hN 4 rfl) (by omega) (by omega) (by omega)) k_607 k_374 k_375 k_67 k_376 (wf_lg (w := w) (l := [(r, .inr (3, [.int (nI k), .ref rl, .ref rc, .ref rz, .long (lN b), .long (lN en)])), (rl, .inl (t 1, 164, .inr (.inl (lA G)))), (rc, .inl (t 1, 40, .inr (.inl (lA K)))), (rz, .inl (t 1, 40, .inr (.inl (lA Zc)))), (h, .inr (1, [.int (nI k), .ref hs, .int (nI n), .long (lN E)])), (hs, .inl (t 0, 40, .inl (pkA f)))]) hN 4 rfl) cl_Mac rfl hd_Mac_isEnd ⟨Nat.le_of_ble_eq_true rfl, Nat.le_of_ble_eq_true rfl⟩ ⟨Nat.le_of_ble_eq_true rfl, Nat.le_of_ble_eq_true rfl⟩ hl.1 (Nat.le_of_ble_eq_true rfl) d_Set_blur_15 rfl (fun r_15 w1 H locs hp hB => ?_)
      obtain ⟨rfl, hw_15⟩ := hp
      have hB : wf_B D wcl (wf_A w s.heap.size) s.heap (wf_l w [(r, .inr (3, [.int (nI k), .ref rl, .ref rc, .ref rz, .long (lN b), .long (lN en)])), (rl, .inl (t 1, 164, .inr (.inl (lA G)))), (rc, .inl (t 1, 40, .inr (.inl (lA K)))), (rz, .inl (t 1, 40, .inr (.inl (lA Zc)))), (h, .inr (1, [.int (nI k), .ref hs, .int (nI n), .long (lN E)])), (hs, .inl (t 0, 40, .inl (pkA f)))]) H locs := wf_Bto hw_15 hB
      refine wf_beq (tgt := 28) hx hb d_Set_blur_18 (by decide) (fun c_18 => ?_) (fun c_18 => ?_)
      · refine lv_aload_n hx hb d_Set_blur_28 rfl (lv_at hl 1 rfl) ?_
        refine callVl (As := []) (rest := [.int (nI i), .ref rc]) X hB wf_hA (c_Mac_allStates (l := l) (D := D) (t := t) (w := (wf_l w [(r, .inr (3, [.int (nI k), .ref rl, .ref rc, .ref rz, .long (lN b), .long (lN en)])), (rl, .inl (t 1, 164, .inr (.inl (lA G)))), (rc, .inl (t 1, 40, .inr (.inl (lA K)))), (rz, .inl (t 1, 40, .inr (.inl (lA Zc)))), (h, .inr (1, [.int (nI k), .ref hs, .int (nI n), .long (lN E)])), (hs, .inl (t 0, 40, .inl (pkA f)))])) (sz := H.size) (h := h) (hs := hs) (k := k) (n := n) (E := E) (wf_lg (w := w) (l := [(r, .inr (3, [.int (nI k), .ref rl, .ref rc, .ref rz, .long (lN b), .long (lN en)])), (rl, .inl (t 1, 164, .inr (.inl (lA G)))), (rc, .inl (t 1, 40, .inr (.inl (lA K)))), (rz, .inl (t 1, 40, .inr (.inl (lA Zc)))), (h, .inr (1, [.int (nI k), .ref hs, .int (nI n), .long (lN E)])), (hs, .inl (t 0, 40, .inl (pkA f)))]) hN 4 rfl) (by omega)) k_717 k_528 k_529 k_67 k_530 (wf_lg (w := w) (l := [(r, .inr (3, [.int (nI k), .ref rl, .ref rc, .ref rz, .long (lN b), .long (lN en)])), (rl, .inl (t 1, 164, .inr (.inl (lA G)))), (rc, .inl (t 1, 40, .inr (.inl (lA K)))), (rz, .inl (t 1, 40, .inr (.inl (lA Zc)))), (h, .inr (1, [.int (nI k), .ref hs, .int (nI n), .long (lN E)])), (hs, .inl (t 0, 40, .inl (pkA f)))]) hN 4 rfl) cl_Mac rfl hd_Mac_allStates ⟨Nat.le_of_ble_eq_true rfl, Nat.le_of_ble_eq_true rfl⟩ ⟨Nat.le_of_ble_eq_true rfl, Nat.le_of_ble_eq_true rfl⟩ hl.1 (Nat.le_of_ble_eq_true rfl) d_Set_blur_29 rfl (fun r_29 w1 H locs hp hB => ?_)
        obtain ⟨rfl, hw_29⟩ := hp
        have hB : wf_B D wcl (wf_A w s.heap.size) s.heap (wf_l w [(r, .inr (3, [.int (nI k), .ref rl, .ref rc, .ref rz, .long (lN b), .long (lN en)])), (rl, .inl (t 1, 164, .inr (.inl (lA G)))), (rc, .inl (t 1, 40, .inr (.inl (lA K)))), (rz, .inl (t 1, 40, .inr (.inl (lA Zc)))), (h, .inr (1, [.int (nI k), .ref hs, .int (nI n), .long (lN E)])), (hs, .inl (t 0, 40, .inl (pkA f)))]) H locs := wf_Bto hw_29 hB
        refine lv_aload_n hx hb d_Set_blur_32 rfl (lv_at hl 1 rfl) ?_
        refine rgetNL X hB hN 4 i_Mac rfl cl_Mac 3 (by decide) k_128 rfl rfl d_Set_blur_33 ?_
        refine lv_ldc2 (own := R_Set) hx hb X.2.2.1 (X.2.2.2.2.1.2 _ k_718 _) d_Set_blur_36 ?_
        refine lv_lxor hx hb d_Set_blur_39 ?_
        refine lv_land hx hb d_Set_blur_40 ?_
        refine wf_tl (y := lN (2 ^ n - (E + 1))) (by exact compl_and hn hm.2.2.2.1) ?_
        refine rlastA X hB hN 2 (wl' := [(r, .inr (3, [.int (nI k), .ref rl, .ref rc, .ref rz, .long (lN b), .long (lN en)])), (rl, .inl (t 1, 164, .inr (.inl (lA G)))), (rc, .inl (t 1, 40, .inr (.inl (lA (nu K i (2 ^ n - (E + 1))))))), (rz, .inl (t 1, 40, .inr (.inl (lA Zc)))), (h, .inr (1, [.int (nI k), .ref hs, .int (nI n), .long (lN E)])), (hs, .inl (t 0, 40, .inl (pkA f)))]) rfl (i := i) (by omega) (by decide) d_Set_blur_41 rfl (fun H locs hB => ?_)
        refine lv_iinc (v := nI (i + 1)) (lv' := [(3, .int (nI (i + 1))), (0, .ref r), (1, .ref h), (2, .int (nI dd))]) hx hb d_Set_blur_42 hl (k := 3) rfl (show nI i + nI 1 = nI (i + 1) from nI_add _ _) (by decide) rfl (fun ls hl => ?_)
        refine lv_goto (tgt := 2) hx hb d_Set_blur_45 (by decide) ?_
        exact ih (i + 1) (nu K i (2 ^ n - (E + 1))) (by omega) (by intro j hj; by_cases e9 : j = i; (rw [nu_e e9, e9, bl0, c_18]; rfl); rw [nu_n e9]; exact hg j (by omega)) (by omega) H locs ls (lv_sub hl [1, 2, 3, 0] rfl) hB
      · refine lv_aload_n hx hb d_Set_blur_21 rfl (lv_at hl 1 rfl) ?_
        refine rgetNL X hB hN 4 i_Mac rfl cl_Mac 3 (by decide) k_128 rfl rfl d_Set_blur_22 ?_
        refine lv_goto (tgt := 41) hx hb d_Set_blur_25 (by decide) ?_
        refine rlastA X hB hN 2 (wl' := [(r, .inr (3, [.int (nI k), .ref rl, .ref rc, .ref rz, .long (lN b), .long (lN en)])), (rl, .inl (t 1, 164, .inr (.inl (lA G)))), (rc, .inl (t 1, 40, .inr (.inl (lA (nu K i E))))), (rz, .inl (t 1, 40, .inr (.inl (lA Zc)))), (h, .inr (1, [.int (nI k), .ref hs, .int (nI n), .long (lN E)])), (hs, .inl (t 0, 40, .inl (pkA f)))]) rfl (i := i) (by omega) (by decide) d_Set_blur_41 rfl (fun H locs hB => ?_)
        refine lv_iinc (v := nI (i + 1)) (lv' := [(3, .int (nI (i + 1))), (0, .ref r), (1, .ref h), (2, .int (nI dd))]) hx hb d_Set_blur_42 hl (k := 3) rfl (show nI i + nI 1 = nI (i + 1) from nI_add _ _) (by decide) rfl (fun ls hl => ?_)
        refine lv_goto (tgt := 2) hx hb d_Set_blur_45 (by decide) ?_
        exact ih (i + 1) (nu K i E) (by omega) (by intro j hj; by_cases e9 : j = i; (rw [nu_e e9, e9, bl0, c_18]; rfl); rw [nu_n e9]; exact hg j (by omega)) (by omega) H locs ls (lv_sub hl [1, 2, 3, 0] rfl) hB
set_option maxHeartbeats 4000000 in
set_option maxRecDepth 100000 in
theorem c_Set_blur {l : Launch} {D : va_G} {t : Nat → ClassId} {w : wf_W} {sz : Nat} {r rl rc rz k b en : Nat} {G C Zc : Nat → Nat} {h hs n E : Nat} {f : Nat → Int32} {st : Nat → Nat → Nat} {dd : Nat} (hN : nd [r, rl, rc, rz, h, hs]) (hS : w r = some (.inr (3, [.int (nI k), .ref rl, .ref rc, .ref rz, .long (lN b), .long (lN en)]))) (hL : w rl = some (.inl (t 1, 164, .inr (.inl (lA G))))) (hC : w rc = some (.inl (t 1, 40, .inr (.inl (lA C))))) (hZ : w rz = some (.inl (t 1, 40, .inr (.inl (lA Zc))))) (hM : w h = some (.inr (1, [.int (nI k), .ref hs, .int (nI n), .long (lN E)]))) (hF : w hs = some (.inl (t 0, 40, .inl (pkA f)))) (hm : mOK k n E f st) (hd : dd ≤ 40) : Mv l y_Set_blur b_Set_blur 4 none 4 91 0 0 D t w sz [.ref r, .ref h, .int (nI dd)] (fun w' => ∃ G0 : Nat → Nat, ∃ C0 : Nat → Nat, ∃ Z0 : Nat → Nat, (lOK k G0 (fun z1 z2 => if z1 < n then blr k n E st dd (stp k n st z1 z2) else 0)) ∧ w' = wf_l w [(r, .inr (3, [.int (nI k), .ref rl, .ref rc, .ref rz, .long (lN (blr k n E st dd 0)), .long (lN E)])), (rl, .inl (t 1, 164, .inr (.inl (lA G0)))), (rc, .inl (t 1, 40, .inr (.inl (lA C0)))), (rz, .inl (t 1, 40, .inr (.inl (lA Z0)))), (h, .inr (1, [.int (nI k), .ref hs, .int (nI n), .long (lN E)])), (hs, .inl (t 0, 40, .inl (pkA f)))]) := by
  refine start_v (by decide) (Nat.le_of_ble_eq_true rfl) ?_
  intro p e s m below meth c ls H locs X hB hl
  have hx := X.1
  have hb := X.2.1
  have hl : lv_has ls 4 [(0, .ref r), (1, .ref h), (2, .int (nI dd))] := hl
  have hB : wf_B D wcl (wf_A w s.heap.size) s.heap (wf_l w [(r, .inr (3, [.int (nI k), .ref rl, .ref rc, .ref rz, .long (lN b), .long (lN en)])), (rl, .inl (t 1, 164, .inr (.inl (lA G)))), (rc, .inl (t 1, 40, .inr (.inl (lA C)))), (rz, .inl (t 1, 40, .inr (.inl (lA Zc)))), (h, .inr (1, [.int (nI k), .ref hs, .int (nI n), .long (lN E)])), (hs, .inl (t 0, 40, .inl (pkA f)))]) H locs := wf_Bto (wf_l6 hS hL hC hZ hM hF).symm hB
  have hk := hm.1
  have hn := hm.2.1
  have hn0 := hm.2.2.1
  have hE := hm.E40
  refine lv_iconst (v := nI 0) hx hb d_Set_blur_0 (by decide) ?_
  refine lv_istore_n (lv' := [(3, .int (nI 0)), (0, .ref r), (1, .ref h), (2, .int (nI dd))]) hx hb d_Set_blur_1 rfl hl (by decide) rfl (fun ls hl => ?_)
  refine c_Set_blur_L2 (l := l) X hN hS hL hC hZ hM hF hm hd (fun i K hi hg he H locs ls hl hB => ?_) (40 - 0 + 1) 0 C (by omega) (by intro j hj; omega) (by omega) H locs ls (lv_sub hl [1, 2, 3, 0] rfl) hB
  refine lv_iconst (v := nI 0) hx hb d_Set_blur_48 (by decide) ?_
  refine lv_istore_n (lv' := [(3, .int (nI 0)), (0, .ref r), (1, .ref h), (2, .int (nI dd))]) hx hb d_Set_blur_49 rfl hl (by decide) rfl (fun ls hl => ?_)
  refine c_Set_blur_L50 (l := l) X hN hS hL hC hZ hM hF hm hd (fun j K2 Z2 hj hg2 he2 H locs ls hl hB => ?_) (dd - 0 + 1) 0 K Zc (by omega) (by intro u hu; exact hg u (by omega)) (by omega) H locs ls (lv_sub hl [1, 2, 3, 0] rfl) hB
  refine lv_aload_n hx hb d_Set_blur_66 rfl (lv_at hl 0 rfl) ?_
  refine lv_aload_n hx hb d_Set_blur_67 rfl (lv_at hl 1 rfl) ?_
  refine callVv (As := [.ref h]) (rest := []) X hB wf_hA (c_Set_followWithCompany (l := l) (D := D) (t := t) (w := (wf_l w [(r, .inr (3, [.int (nI k), .ref rl, .ref rc, .ref rz, .long (lN b), .long (lN en)])), (rl, .inl (t 1, 164, .inr (.inl (lA G)))), (rc, .inl (t 1, 40, .inr (.inl (lA K2)))), (rz, .inl (t 1, 40, .inr (.inl (lA Z2)))), (h, .inr (1, [.int (nI k), .ref hs, .int (nI n), .long (lN E)])), (hs, .inl (t 0, 40, .inl (pkA f)))])) (sz := H.size) (r := r) (rl := rl) (rc := rc) (rz := rz) (k := k) (b := b) (en := en) (G := G) (C := K2) (h := h) (hs := hs) (n := n) (E := E) (f := f) (st := st) (nd_sub hN [0, 1, 2, 4, 5] rfl (by decide)) (wf_lg (w := w) (l := [(r, .inr (3, [.int (nI k), .ref rl, .ref rc, .ref rz, .long (lN b), .long (lN en)])), (rl, .inl (t 1, 164, .inr (.inl (lA G)))), (rc, .inl (t 1, 40, .inr (.inl (lA K2)))), (rz, .inl (t 1, 40, .inr (.inl (lA Z2)))), (h, .inr (1, [.int (nI k), .ref hs, .int (nI n), .long (lN E)])), (hs, .inl (t 0, 40, .inl (pkA f)))]) hN 0 rfl) (wf_lg (w := w) (l := [(r, .inr (3, [.int (nI k), .ref rl, .ref rc, .ref rz, .long (lN b), .long (lN en)])), (rl, .inl (t 1, 164, .inr (.inl (lA G)))), (rc, .inl (t 1, 40, .inr (.inl (lA K2)))), (rz, .inl (t 1, 40, .inr (.inl (lA Z2)))), (h, .inr (1, [.int (nI k), .ref hs, .int (nI n), .long (lN E)])), (hs, .inl (t 0, 40, .inl (pkA f)))]) hN 1 rfl) (wf_lg (w := w) (l := [(r, .inr (3, [.int (nI k), .ref rl, .ref rc, .ref rz, .long (lN b), .long (lN en)])), (rl, .inl (t 1, 164, .inr (.inl (lA G)))), (rc, .inl (t 1, 40, .inr (.inl (lA K2)))), (rz, .inl (t 1, 40, .inr (.inl (lA Z2)))), (h, .inr (1, [.int (nI k), .ref hs, .int (nI n), .long (lN E)])), (hs, .inl (t 0, 40, .inl (pkA f)))]) hN 2 rfl) (wf_lg (w := w) (l := [(r, .inr (3, [.int (nI k), .ref rl, .ref rc, .ref rz, .long (lN b), .long (lN en)])), (rl, .inl (t 1, 164, .inr (.inl (lA G)))), (rc, .inl (t 1, 40, .inr (.inl (lA K2)))), (rz, .inl (t 1, 40, .inr (.inl (lA Z2)))), (h, .inr (1, [.int (nI k), .ref hs, .int (nI n), .long (lN E)])), (hs, .inl (t 0, 40, .inl (pkA f)))]) hN 4 rfl) (wf_lg (w := w) (l := [(r, .inr (3, [.int (nI k), .ref rl, .ref rc, .ref rz, .long (lN b), .long (lN en)])), (rl, .inl (t 1, 164, .inr (.inl (lA G)))), (rc, .inl (t 1, 40, .inr (.inl (lA K2)))), (rz, .inl (t 1, 40, .inr (.inl (lA Z2)))), (h, .inr (1, [.int (nI k), .ref hs, .int (nI n), .long (lN E)])), (hs, .inl (t 0, 40, .inl (pkA f)))]) hN 5 rfl) (by exact hm)) k_608 k_610 k_18 k_70 k_611 (wf_lg (w := w) (l := [(r, .inr (3, [.int (nI k), .ref rl, .ref rc, .ref rz, .long (lN b), .long (lN en)])), (rl, .inl (t 1, 164, .inr (.inl (lA G)))), (rc, .inl (t 1, 40, .inr (.inl (lA K2)))), (rz, .inl (t 1, 40, .inr (.inl (lA Z2)))), (h, .inr (1, [.int (nI k), .ref hs, .int (nI n), .long (lN E)])), (hs, .inl (t 0, 40, .inl (pkA f)))]) hN 0 rfl) cl_Set rfl hd_Set_followWithCompany ⟨Nat.le_of_ble_eq_true rfl, Nat.le_of_ble_eq_true rfl⟩ ⟨Nat.le_of_ble_eq_true rfl, Nat.le_of_ble_eq_true rfl⟩ hl.1 (Nat.le_of_ble_eq_true rfl) d_Set_blur_68 rfl (fun w1 H locs hp hB => ?_)
  obtain ⟨G0_68, hG0_68, hw_68⟩ := hp
  have hB : wf_B D wcl (wf_A w s.heap.size) s.heap (wf_l w [(r, .inr (3, [.int (nI k), .ref rl, .ref rc, .ref rz, .long (lN (K2 0)), .long (lN E)])), (rl, .inl (t 1, 164, .inr (.inl (lA G0_68)))), (rc, .inl (t 1, 40, .inr (.inl (lA K2)))), (rz, .inl (t 1, 40, .inr (.inl (lA Z2)))), (h, .inr (1, [.int (nI k), .ref hs, .int (nI n), .long (lN E)])), (hs, .inl (t 0, 40, .inl (pkA f)))]) H locs := wf_Bto (hw_68.trans (wlw (L1 := [(r, .inr (3, [.int (nI k), .ref rl, .ref rc, .ref rz, .long (lN (K2 0)), .long (lN E)])), (rl, .inl (t 1, 164, .inr (.inl (lA G)))), (rc, .inl (t 1, 40, .inr (.inl (lA K2)))), (rz, .inl (t 1, 40, .inr (.inl (lA Z2)))), (h, .inr (1, [.int (nI k), .ref hs, .int (nI n), .long (lN E)])), (hs, .inl (t 0, 40, .inl (pkA f)))]) hN 0 rfl rfl (wlw (L1 := [(r, .inr (3, [.int (nI k), .ref rl, .ref rc, .ref rz, .long (lN (K2 0)), .long (lN E)])), (rl, .inl (t 1, 164, .inr (.inl (lA G0_68)))), (rc, .inl (t 1, 40, .inr (.inl (lA K2)))), (rz, .inl (t 1, 40, .inr (.inl (lA Z2)))), (h, .inr (1, [.int (nI k), .ref hs, .int (nI n), .long (lN E)])), (hs, .inl (t 0, 40, .inl (pkA f)))]) hN 1 rfl rfl (wlw (L1 := [(r, .inr (3, [.int (nI k), .ref rl, .ref rc, .ref rz, .long (lN (K2 0)), .long (lN E)])), (rl, .inl (t 1, 164, .inr (.inl (lA G0_68)))), (rc, .inl (t 1, 40, .inr (.inl (lA K2)))), (rz, .inl (t 1, 40, .inr (.inl (lA Z2)))), (h, .inr (1, [.int (nI k), .ref hs, .int (nI n), .long (lN E)])), (hs, .inl (t 0, 40, .inl (pkA f)))]) hN 2 rfl rfl (wlw (L1 := [(r, .inr (3, [.int (nI k), .ref rl, .ref rc, .ref rz, .long (lN (K2 0)), .long (lN E)])), (rl, .inl (t 1, 164, .inr (.inl (lA G0_68)))), (rc, .inl (t 1, 40, .inr (.inl (lA K2)))), (rz, .inl (t 1, 40, .inr (.inl (lA Z2)))), (h, .inr (1, [.int (nI k), .ref hs, .int (nI n), .long (lN E)])), (hs, .inl (t 0, 40, .inl (pkA f)))]) hN 4 rfl rfl (wlw (L1 := [(r, .inr (3, [.int (nI k), .ref rl, .ref rc, .ref rz, .long (lN (K2 0)), .long (lN E)])), (rl, .inl (t 1, 164, .inr (.inl (lA G0_68)))), (rc, .inl (t 1, 40, .inr (.inl (lA K2)))), (rz, .inl (t 1, 40, .inr (.inl (lA Z2)))), (h, .inr (1, [.int (nI k), .ref hs, .int (nI n), .long (lN E)])), (hs, .inl (t 0, 40, .inl (pkA f)))]) hN 5 rfl rfl rfl)))))) hB
  refine ret_v X hB d_Set_blur_71 ?_
  rw [hg2 0 (by omega), he2]; refine ⟨_, _, _, fun u a hu ha => ?_, rfl⟩; have h1 := stp_lt hm u a; have h3 := blr_lt (k := k) (st := st) hn hE dd (stp k n st u a); rw [hG0_68 u a hu ha, hg2 _ (by omega), he2]; by_cases e7 : u < n; (simp only [if_pos e7]; exact ⟨trivial, by omega⟩); simp only [if_neg e7]; exact ⟨trivial, by decide⟩
