/-! NUMERALS -/
def sdF (z : Nat) (cl : Nat → Nat) (i b a : Nat) : Nat := if z ≤ i then 2 else if b ≠ 1 ∨ a = cl i then b else if a < cl i then 0 else 2
theorem sdF_lt {z : Nat} {cl : Nat → Nat} {i b a : Nat} (hb : b < 3) : sdF z cl i b a < 3 := by
  unfold sdF
  repeat' split
  all_goals omega
def cod (d x y : Nat) : Nat := 3 + (d * 3 + x) * 3 + y
def nAf (zl zh : Nat) (dl dh : Nat → Nat) (S a : Nat) : Nat := if S = 0 then (if a = 0 then 1 else cod 1 (sdF zl dl 0 1 a) (sdF zh dh 0 1 a)) else if S < 3 ∨ zh ≤ (S - 3) / 9 then 2 else cod ((S - 3) / 9 + 1) (sdF zl dl ((S - 3) / 9) ((S - 3) / 3 % 3) a) (sdF zh dh ((S - 3) / 9) ((S - 3) % 3) a)
def nLa (zl zh : Nat) (dl : Nat → Nat) (S : Nat) : Bool := if S < 3 then decide (S = 1 ∧ dl 0 = 0) else decide ((zl ≤ (S - 3) / 9 ∧ (S - 3) / 3 % 3 ≠ 0) ∧ ((S - 3) / 9 < zh ∨ (S - 3) % 3 ≠ 2))
theorem nAf_lt {zl zh : Nat} {dl dh : Nat → Nat} {S a : Nat} (hzh : zh ≤ 100) : nAf zl zh dl dh S a < 2000 := by
  unfold nAf
  have h1 := sdF_lt (z := zl) (cl := dl) (i := 0) (b := 1) (a := a) (by decide)
  have h2 := sdF_lt (z := zh) (cl := dh) (i := 0) (b := 1) (a := a) (by decide)
  have h3 := sdF_lt (z := zl) (cl := dl) (i := (S - 3) / 9) (b := (S - 3) / 3 % 3) (a := a) (by omega)
  have h4 := sdF_lt (z := zh) (cl := dh) (i := (S - 3) / 9) (b := (S - 3) % 3) (a := a) (by omega)
  unfold cod
  repeat' split
  all_goals omega
theorem div9 {S : Nat} (hS : S < 2 ^ 31) : Int64.toInt32 (lN S - lN 3) / nI 9 = nI ((S - 3) / 9) := by
  rcases Nat.lt_or_ge S 3 with h | h
  · rcases (show S = 0 ∨ S = 1 ∨ S = 2 by omega) with rfl | rfl | rfl <;> decide
  · rw [lN_sub h, lN_i, pk_div (by omega) (by decide) (by decide)]
/-- the digits of v to the base k, the highest first -/
def dgO (k v zc : Nat) (dg : Nat → Nat) : Prop := 1 ≤ zc ∧ zc ≤ 30 ∧ v < k ^ zc ∧ (zc = 1 ∨ k ^ (zc - 1) ≤ v) ∧ ∀ j, j < zc → dg j = v / k ^ (zc - 1 - j) % k
set_option maxHeartbeats 4000000 in
set_option maxRecDepth 100000 in
theorem c_Num_digitsOf {l : Launch} {D : va_G} {t : Nat → ClassId} {w : wf_W} {sz : Nat} {S : Nat} (hS : S < 2 ^ 31) : Mi l y_Num_digitsOf b_Num_digitsOf 2 (some .int) 0 0 0 0 D t w sz [.long (lN S)] (fun r w' => r = (nI ((S - 3) / 9)) ∧ w' = w) := by
  refine start_i (by decide) (Nat.le_of_ble_eq_true rfl) ?_
  intro p e s m below meth c ls H locs X hB hl
  have hx := X.1
  have hb := X.2.1
  have hl : lv_has ls 2 [(0, .long (lN S))] := hl
  refine lv_lload_n hx hb d_Num_digitsOf_0 rfl (lv_at hl 0 rfl) ?_
  refine lv_ldc2 (own := R_Num) hx hb X.2.2.1 (X.2.2.2.2.1.2 _ k_402 _) d_Num_digitsOf_1 ?_
  refine wf_tl (y := lN 3) (by decide) ?_
  refine lv_lsub hx hb d_Num_digitsOf_4 ?_
  refine lv_l2i hx hb d_Num_digitsOf_5 rfl ?_
  refine lv_bipush (v := nI 9) hx hb d_Num_digitsOf_6 (by decide) ?_
  refine lv_idiv hx hb d_Num_digitsOf_8 (by decide) ?_
  refine wf_ti (y := nI ((S - 3) / 9)) (by exact div9 hS) ?_
  refine ret_i X hB d_Num_digitsOf_9 ?_
  exact ⟨rfl, rfl⟩
set_option maxHeartbeats 4000000 in
set_option maxRecDepth 100000 in
theorem c_Num_lowSide {l : Launch} {D : va_G} {t : Nat → ClassId} {w : wf_W} {sz : Nat} {S : Nat} (h3 : 3 ≤ S) (hS : S < 2 ^ 31) : Mi l y_Num_lowSide b_Num_lowSide 2 (some .int) 0 0 0 0 D t w sz [.long (lN S)] (fun r w' => r = (nI ((S - 3) / 3 % 3)) ∧ w' = w) := by
  refine start_i (by decide) (Nat.le_of_ble_eq_true rfl) ?_
  intro p e s m below meth c ls H locs X hB hl
  have hx := X.1
  have hb := X.2.1
  have hl : lv_has ls 2 [(0, .long (lN S))] := hl
  refine lv_lload_n hx hb d_Num_lowSide_0 rfl (lv_at hl 0 rfl) ?_
  refine lv_ldc2 (own := R_Num) hx hb X.2.2.1 (X.2.2.2.2.1.2 _ k_402 _) d_Num_lowSide_1 ?_
  refine wf_tl (y := lN 3) (by decide) ?_
  refine wf_lsub (x := S) (y := 3) hx hb d_Num_lowSide_4 (by omega) ?_
  refine lv_l2i (v := nI (S - 3)) hx hb d_Num_lowSide_5 (lN_i _) ?_
  refine lv_iconst (v := nI 3) hx hb d_Num_lowSide_6 (by decide) ?_
  refine wf_idiv (x := S - 3) (y := 3) hx hb d_Num_lowSide_7 (by omega) (by omega) (by omega) ?_
  refine lv_iconst (v := nI 3) hx hb d_Num_lowSide_8 (by decide) ?_
  refine wf_irem (x := (S - 3) / 3) (y := 3) hx hb d_Num_lowSide_9 (by omega) (by omega) (by omega) ?_
  refine ret_i X hB d_Num_lowSide_10 ?_
  exact ⟨rfl, rfl⟩
set_option maxHeartbeats 4000000 in
set_option maxRecDepth 100000 in
theorem c_Num_highSide {l : Launch} {D : va_G} {t : Nat → ClassId} {w : wf_W} {sz : Nat} {S : Nat} (h3 : 3 ≤ S) (hS : S < 2 ^ 31) : Mi l y_Num_highSide b_Num_highSide 2 (some .int) 0 0 0 0 D t w sz [.long (lN S)] (fun r w' => r = (nI ((S - 3) % 3)) ∧ w' = w) := by
  refine start_i (by decide) (Nat.le_of_ble_eq_true rfl) ?_
  intro p e s m below meth c ls H locs X hB hl
  have hx := X.1
  have hb := X.2.1
  have hl : lv_has ls 2 [(0, .long (lN S))] := hl
  refine lv_lload_n hx hb d_Num_highSide_0 rfl (lv_at hl 0 rfl) ?_
  refine lv_ldc2 (own := R_Num) hx hb X.2.2.1 (X.2.2.2.2.1.2 _ k_402 _) d_Num_highSide_1 ?_
  refine wf_tl (y := lN 3) (by decide) ?_
  refine wf_lsub (x := S) (y := 3) hx hb d_Num_highSide_4 (by omega) ?_
  refine lv_l2i (v := nI (S - 3)) hx hb d_Num_highSide_5 (lN_i _) ?_
  refine lv_iconst (v := nI 3) hx hb d_Num_highSide_6 (by decide) ?_
  refine wf_irem (x := S - 3) (y := 3) hx hb d_Num_highSide_7 (by omega) (by omega) (by omega) ?_
  refine ret_i X hB d_Num_highSide_8 ?_
  exact ⟨rfl, rfl⟩
set_option maxHeartbeats 4000000 in
set_option maxRecDepth 100000 in
theorem c_Num_codeOf {l : Launch} {D : va_G} {t : Nat → ClassId} {w : wf_W} {sz : Nat} {dd x y : Nat} (hd : dd ≤ 1000) (hx3 : x < 3) (hy3 : y < 3) : Ml l y_Num_codeOf b_Num_codeOf 3 (some .long) 0 0 0 0 D t w sz [.int (nI dd), .int (nI x), .int (nI y)] (fun r w' => r = (lN (cod dd x y)) ∧ w' = w) := by
  refine start_l (by decide) (Nat.le_of_ble_eq_true rfl) ?_
  intro p e s m below meth c ls H locs X hB hl
  have hx := X.1
  have hb := X.2.1
  have hl : lv_has ls 3 [(0, .int (nI dd)), (1, .int (nI x)), (2, .int (nI y))] := hl
  refine lv_iconst (v := nI 3) hx hb d_Num_codeOf_0 (by decide) ?_
  refine lv_iload_n hx hb d_Num_codeOf_1 rfl (lv_at hl 0 rfl) ?_
  refine lv_iconst (v := nI 3) hx hb d_Num_codeOf_2 (by decide) ?_
  refine wf_imul (x := dd) (y := 3) hx hb d_Num_codeOf_3 ?_
  refine lv_iload_n hx hb d_Num_codeOf_4 rfl (lv_at hl 1 rfl) ?_
  refine wf_iadd (x := dd * 3) (y := x) hx hb d_Num_codeOf_5 ?_
  refine lv_iconst (v := nI 3) hx hb d_Num_codeOf_6 (by decide) ?_
  refine wf_imul (x := (dd * 3) + x) (y := 3) hx hb d_Num_codeOf_7 ?_
  refine wf_iadd (x := 3) (y := ((dd * 3) + x) * 3) hx hb d_Num_codeOf_8 ?_
  refine lv_iload_n hx hb d_Num_codeOf_9 rfl (lv_at hl 2 rfl) ?_
  refine wf_iadd (x := 3 + (((dd * 3) + x) * 3)) (y := y) hx hb d_Num_codeOf_10 ?_
  refine lv_i2l (v := lN ((3 + (((dd * 3) + x) * 3)) + y)) hx hb d_Num_codeOf_11 (nI_l (by omega)) ?_
  refine ret_l X hB d_Num_codeOf_12 ?_
  exact ⟨rfl, rfl⟩
set_option maxHeartbeats 4000000 in
set_option maxRecDepth 100000 in
theorem c_Num_side {l : Launch} {D : va_G} {t : Nat → ClassId} {w : wf_W} {sz : Nat} {o oi z i bb a : Nat} {rf : Nat → Int32} {cl : Nat → Nat} (hR : w o = some (.inr (0, [.ref oi, .int (nI z)]))) (hI : w oi = some (.inl (t 0, 100, .inl rf))) (hz : z ≤ 100) (hr : ∀ i, i < z → rf i = nI (cl i) ∧ cl i < 4) (hi : i ≤ 1000) (hbb : bb < 3) (ha : a < 4) : Mi l y_Num_side b_Num_side 4 (some .int) 1 21 0 0 D t w sz [.ref o, .int (nI i), .int (nI bb), .int (nI a)] (fun r w' => r = (nI (sdF z cl i bb a)) ∧ w' = w) := by
  refine start_i (by decide) (Nat.le_of_ble_eq_true rfl) ?_
  intro p e s m below meth c ls H locs X hB hl
  have hx := X.1
  have hb := X.2.1
  have hl : lv_has ls 4 [(0, .ref o), (1, .int (nI i)), (2, .int (nI bb)), (3, .int (nI a))] := hl
  refine lv_iload_n hx hb d_Num_side_0 rfl (lv_at hl 1 rfl) ?_
  refine lv_aload_n hx hb d_Num_side_1 rfl (lv_at hl 0 rfl) ?_
  refine rgetN X hB  i_Row hR cl_Row 1 (by decide) k_103 rfl rfl d_Num_side_2 ?_
  refine wf_clt (tgt := 10) hx hb d_Num_side_5 (by decide) (nI_toInt (by omega)) (nI_toInt (by omega)) (fun c_5 => ?_) (fun c_5 => ?_)
  · refine lv_iload_n hx hb d_Num_side_10 rfl (lv_at hl 2 rfl) ?_
    refine lv_iconst (v := nI 1) hx hb d_Num_side_11 (by decide) ?_
    refine wf_cne (tgt := 24) hx hb d_Num_side_12 (by decide) (nI_toInt (by omega)) (nI_toInt (by omega)) (fun c_12 => ?_) (fun c_12 => ?_)
    · refine lv_iload_n hx hb d_Num_side_24 rfl (lv_at hl 2 rfl) ?_
      refine ret_i X hB d_Num_side_25 ?_
      exact ⟨congrArg nI (Eq.symm (by rw [sdF, if_neg (show ¬ z ≤ i by omega), if_pos (show bb ≠ 1 ∨ a = cl i by omega)])), rfl⟩
    · refine lv_iload_n hx hb d_Num_side_15 rfl (lv_at hl 3 rfl) ?_
      refine lv_aload_n hx hb d_Num_side_16 rfl (lv_at hl 0 rfl) ?_
      refine lv_iload_n hx hb d_Num_side_17 rfl (lv_at hl 1 rfl) ?_
      refine callVi (As := [.int (nI i)]) (rest := [.int (nI a)]) X hB wf_hA (c_Row_at (l := l) (D := D) (t := t) (w := w) (sz := H.size) (o := o) (oi := oi) (z := z) (i := i) (rf := rf) hR hI (by exact hz) (by omega)) k_403 k_351 k_352 k_66 k_353 hR cl_Row rfl hd_Row_at ⟨Nat.le_of_ble_eq_true rfl, Nat.le_of_ble_eq_true rfl⟩ ⟨Nat.le_of_ble_eq_true rfl, Nat.le_of_ble_eq_true rfl⟩ hl.1 (Nat.le_of_ble_eq_true rfl) d_Num_side_18 rfl (fun r_18 w1 H locs hp hB => ?_)
      obtain ⟨rfl, hw_18⟩ := hp
      have hB : wf_B D wcl (wf_A w s.heap.size) s.heap w H locs := wf_Bto hw_18 hB
      refine wf_ti (y := nI (cl i)) (by rw [if_pos (by omega)]; exact (hr _ (by omega)).1) ?_
      refine wf_cne (tgt := 26) hx hb d_Num_side_21 (by decide) (nI_toInt (by omega)) (nI_toInt (by have := (hr i (by omega)).2; omega)) (fun c_21 => ?_) (fun c_21 => ?_)
      · refine lv_iload_n hx hb d_Num_side_26 rfl (lv_at hl 3 rfl) ?_
        refine lv_aload_n hx hb d_Num_side_27 rfl (lv_at hl 0 rfl) ?_
        refine lv_iload_n hx hb d_Num_side_28 rfl (lv_at hl 1 rfl) ?_
        refine callVi (As := [.int (nI i)]) (rest := [.int (nI a)]) X hB wf_hA (c_Row_at (l := l) (D := D) (t := t) (w := w) (sz := H.size) (o := o) (oi := oi) (z := z) (i := i) (rf := rf) hR hI (by exact hz) (by omega)) k_403 k_351 k_352 k_66 k_353 hR cl_Row rfl hd_Row_at ⟨Nat.le_of_ble_eq_true rfl, Nat.le_of_ble_eq_true rfl⟩ ⟨Nat.le_of_ble_eq_true rfl, Nat.le_of_ble_eq_true rfl⟩ hl.1 (Nat.le_of_ble_eq_true rfl) d_Num_side_29 rfl (fun r_29 w1 H locs hp hB => ?_)
        obtain ⟨rfl, hw_29⟩ := hp
        have hB : wf_B D wcl (wf_A w s.heap.size) s.heap w H locs := wf_Bto hw_29 hB
        refine wf_ti (y := nI (cl i)) (by rw [if_pos (by omega)]; exact (hr _ (by omega)).1) ?_
        refine wf_cge (tgt := 39) hx hb d_Num_side_32 (by decide) (nI_toInt (by omega)) (nI_toInt (by have := (hr i (by omega)).2; omega)) (fun c_32 => ?_) (fun c_32 => ?_)
        · refine lv_iconst (v := nI 2) hx hb d_Num_side_39 (by decide) ?_
          refine ret_i X hB d_Num_side_40 ?_
          exact ⟨congrArg nI (Eq.symm (by rw [sdF, if_neg (show ¬ z ≤ i by omega), if_neg (show ¬ (bb ≠ 1 ∨ a = cl i) by omega), if_neg (show ¬ a < cl i by omega)])), rfl⟩
        · refine lv_iconst (v := nI 0) hx hb d_Num_side_35 (by decide) ?_
          refine lv_goto (tgt := 40) hx hb d_Num_side_36 (by decide) ?_
          refine ret_i X hB d_Num_side_40 ?_
          exact ⟨congrArg nI (Eq.symm (by rw [sdF, if_neg (show ¬ z ≤ i by omega), if_neg (show ¬ (bb ≠ 1 ∨ a = cl i) by omega), if_pos (show a < cl i by omega)])), rfl⟩
      · refine lv_iload_n hx hb d_Num_side_24 rfl (lv_at hl 2 rfl) ?_
        refine ret_i X hB d_Num_side_25 ?_
        exact ⟨congrArg nI (Eq.symm (by rw [sdF, if_neg (show ¬ z ≤ i by omega), if_pos (show bb ≠ 1 ∨ a = cl i by omega)])), rfl⟩
  · refine lv_iconst (v := nI 2) hx hb d_Num_side_8 (by decide) ?_
    refine ret_i X hB d_Num_side_9 ?_
    exact ⟨congrArg nI (Eq.symm (by rw [sdF, if_pos (show z ≤ i by omega)])), rfl⟩
set_option maxHeartbeats 4000000 in
set_option maxRecDepth 100000 in
theorem c_Num_first {l : Launch} {D : va_G} {t : Nat → ClassId} {w : wf_W} {sz : Nat} {u lo hi k : Nat} (hu : w u = some (.inr (5, [.int (nI k), .ref lo, .ref hi]))) : Ml l y_Num_first b_Num_first 1 (some .long) 0 0 0 0 D t w sz [.ref u] (fun r w' => r = (lN 0) ∧ w' = w) := by
  refine start_l (by decide) (Nat.le_of_ble_eq_true rfl) ?_
  intro p e s m below meth c ls H locs X hB hl
  have hx := X.1
  have hb := X.2.1
  have hl : lv_has ls 1 [(0, .ref u)] := hl
  refine lv_lconst (v := lN 0) hx hb d_Num_first_0 (by decide) ?_
  refine ret_l X hB d_Num_first_1 ?_
  exact ⟨rfl, rfl⟩
set_option maxHeartbeats 4000000 in
set_option maxRecDepth 100000 in
theorem c_Num_after {l : Launch} {D : va_G} {t : Nat → ClassId} {w : wf_W} {sz : Nat} {u lo loi zl hi hii zh k : Nat} {lf hf : Nat → Int32} {dl dh : Nat → Nat} {S a : Nat} (hu : w u = some (.inr (5, [.int (nI k), .ref lo, .ref hi]))) (hlo : w lo = some (.inr (0, [.ref loi, .int (nI zl)]))) (hloi : w loi = some (.inl (t 0, 100, .inl lf))) (hhi : w hi = some (.inr (0, [.ref hii, .int (nI zh)]))) (hhii : w hii = some (.inl (t 0, 100, .inl hf))) (hzl : zl ≤ 100) (hzh : zh ≤ 100) (hrl : ∀ i, i < zl → lf i = nI (dl i) ∧ dl i < 4) (hrh : ∀ i, i < zh → hf i = nI (dh i) ∧ dh i < 4) (hS : S < 2000) (ha : a < 4) : Ml l y_Num_after b_Num_after 7 (some .long) 2 44 0 0 D t w sz [.ref u, .long (lN S), .int (nI a)] (fun r w' => r = (lN (nAf zl zh dl dh S a)) ∧ w' = w) := by
  refine start_l (by decide) (Nat.le_of_ble_eq_true rfl) ?_
  intro p e s m below meth c ls H locs X hB hl
  have hx := X.1
  have hb := X.2.1
  have hl : lv_has ls 7 [(0, .ref u), (1, .long (lN S)), (3, .int (nI a))] := hl
  refine lv_lload_n hx hb d_Num_after_0 rfl (lv_at hl 1 rfl) ?_
  refine lv_lconst (v := lN 0) hx hb d_Num_after_1 (by decide) ?_
  refine W.lcmp hx hb d_Num_after_2 ?_
  refine wf_lne (tgt := 39) hx hb d_Num_after_3 (by decide) (pk_lT (by omega)) (pk_lT (by omega)) (fun c_3 => ?_) (fun c_3 => ?_)
  · refine lv_lload_n hx hb d_Num_after_39 rfl (lv_at hl 1 rfl) ?_
    refine callSi (As := [.long (lN S)]) (rest := []) X hB wf_hA (c_Num_digitsOf (l := l) (D := D) (t := t) (w := w) (sz := H.size) (S := S) (by omega)) k_404 k_405 k_72 k_406 hd_Num_digitsOf ⟨Nat.le_of_ble_eq_true rfl, Nat.le_of_ble_eq_true rfl⟩ ⟨Nat.le_of_ble_eq_true rfl, Nat.le_of_ble_eq_true rfl⟩ hl.1 (Nat.le_of_ble_eq_true rfl) d_Num_after_40 rfl (fun r_40 w1 H locs hp hB => ?_)
    obtain ⟨rfl, hw_40⟩ := hp
    have hB : wf_B D wcl (wf_A w s.heap.size) s.heap w H locs := wf_Bto hw_40 hB
    refine lv_istore (lv' := [(4, .int (nI ((S - 3) / 9))), (0, .ref u), (1, .long (lN S)), (3, .int (nI a))]) hx hb d_Num_after_43 hl (by decide) rfl (fun ls hl => ?_)
    refine lv_lload_n hx hb d_Num_after_45 rfl (lv_at hl 2 rfl) ?_
    refine lv_ldc2 (own := R_Num) hx hb X.2.2.1 (X.2.2.2.2.1.2 _ k_402 _) d_Num_after_46 ?_
    refine wf_tl (y := lN 3) (by decide) ?_
    refine W.lcmp hx hb d_Num_after_49 ?_
    refine wf_llt (tgt := 65) hx hb d_Num_after_50 (by decide) (pk_lT (by omega)) (pk_lT (by omega)) (fun c_50 => ?_) (fun c_50 => ?_)
    · refine lv_ldc2 (own := R_Num) hx hb X.2.2.1 (X.2.2.2.2.1.2 _ k_455 _) d_Num_after_65 ?_
      refine wf_tl (y := lN 2) (by decide) ?_
      refine ret_l X hB d_Num_after_68 ?_
      exact ⟨congrArg lN (Eq.symm (by rw [nAf, if_neg (show ¬ S = 0 by omega), if_pos (show S < 3 ∨ zh ≤ (S - 3) / 9 by omega)])), rfl⟩
    · refine lv_iload hx hb d_Num_after_53 (lv_at hl 0 rfl) ?_
      refine lv_aload_n hx hb d_Num_after_55 rfl (lv_at hl 1 rfl) ?_
      refine rget X hB  i_Num hu cl_Num 2 (by decide) k_228 rfl rfl d_Num_after_56 ?_
      refine rgetN X hB  i_Row hhi cl_Row 1 (by decide) k_103 rfl rfl d_Num_after_59 ?_
      refine wf_clt (tgt := 69) hx hb d_Num_after_62 (by decide) (nI_toInt (by omega)) (nI_toInt (by omega)) (fun c_62 => ?_) (fun c_62 => ?_)
      · refine lv_aload_n hx hb d_Num_after_69 rfl (lv_at hl 1 rfl) ?_
        refine rget X hB  i_Num hu cl_Num 1 (by decide) k_227 rfl rfl d_Num_after_70 ?_
        refine lv_iload hx hb d_Num_after_73 (lv_at hl 0 rfl) ?_
        refine lv_lload_n hx hb d_Num_after_75 rfl (lv_at hl 2 rfl) ?_
        refine callSi (As := [.long (lN S)]) (rest := [.int (nI ((S - 3) / 9)), .ref lo]) X hB wf_hA (c_Num_lowSide (l := l) (D := D) (t := t) (w := w) (sz := H.size) (S := S) (by omega) (by omega)) k_407 k_408 k_72 k_409 hd_Num_lowSide ⟨Nat.le_of_ble_eq_true rfl, Nat.le_of_ble_eq_true rfl⟩ ⟨Nat.le_of_ble_eq_true rfl, Nat.le_of_ble_eq_true rfl⟩ hl.1 (Nat.le_of_ble_eq_true rfl) d_Num_after_76 rfl (fun r_76 w1 H locs hp hB => ?_)
        obtain ⟨rfl, hw_76⟩ := hp
        have hB : wf_B D wcl (wf_A w s.heap.size) s.heap w H locs := wf_Bto hw_76 hB
        refine lv_iload_n hx hb d_Num_after_79 rfl (lv_at hl 3 rfl) ?_
        refine callSi (As := [.ref lo, .int (nI ((S - 3) / 9)), .int (nI ((S - 3) / 3 % 3)), .int (nI a)]) (rest := []) X hB wf_hA (c_Num_side (l := l) (D := D) (t := t) (w := w) (sz := H.size) (o := lo) (oi := loi) (z := zl) (i := (S - 3) / 9) (bb := (S - 3) / 3 % 3) (a := a) (rf := lf) (cl := dl) hlo hloi (by exact hzl) (by exact hrl) (by omega) (by omega) (by exact ha)) k_449 k_450 k_72 k_451 hd_Num_side ⟨Nat.le_of_ble_eq_true rfl, Nat.le_of_ble_eq_true rfl⟩ ⟨Nat.le_of_ble_eq_true rfl, Nat.le_of_ble_eq_true rfl⟩ hl.1 (Nat.le_of_ble_eq_true rfl) d_Num_after_80 rfl (fun r_80 w1 H locs hp hB => ?_)
        obtain ⟨rfl, hw_80⟩ := hp
        have hB : wf_B D wcl (wf_A w s.heap.size) s.heap w H locs := wf_Bto hw_80 hB
        refine lv_istore (lv' := [(5, .int (nI (sdF zl dl ((S - 3) / 9) ((S - 3) / 3 % 3) a))), (4, .int (nI ((S - 3) / 9))), (0, .ref u), (1, .long (lN S)), (3, .int (nI a))]) hx hb d_Num_after_83 hl (by decide) rfl (fun ls hl => ?_)
        refine lv_aload_n hx hb d_Num_after_85 rfl (lv_at hl 2 rfl) ?_
        refine rget X hB  i_Num hu cl_Num 2 (by decide) k_228 rfl rfl d_Num_after_86 ?_
        refine lv_iload hx hb d_Num_after_89 (lv_at hl 1 rfl) ?_
        refine lv_lload_n hx hb d_Num_after_91 rfl (lv_at hl 3 rfl) ?_
        refine callSi (As := [.long (lN S)]) (rest := [.int (nI ((S - 3) / 9)), .ref hi]) X hB wf_hA (c_Num_highSide (l := l) (D := D) (t := t) (w := w) (sz := H.size) (S := S) (by omega) (by omega)) k_410 k_411 k_72 k_412 hd_Num_highSide ⟨Nat.le_of_ble_eq_true rfl, Nat.le_of_ble_eq_true rfl⟩ ⟨Nat.le_of_ble_eq_true rfl, Nat.le_of_ble_eq_true rfl⟩ hl.1 (Nat.le_of_ble_eq_true rfl) d_Num_after_92 rfl (fun r_92 w1 H locs hp hB => ?_)
        obtain ⟨rfl, hw_92⟩ := hp
        have hB : wf_B D wcl (wf_A w s.heap.size) s.heap w H locs := wf_Bto hw_92 hB
        refine lv_iload_n hx hb d_Num_after_95 rfl (lv_at hl 4 rfl) ?_
        refine callSi (As := [.ref hi, .int (nI ((S - 3) / 9)), .int (nI ((S - 3) % 3)), .int (nI a)]) (rest := []) X hB wf_hA (c_Num_side (l := l) (D := D) (t := t) (w := w) (sz := H.size) (o := hi) (oi := hii) (z := zh) (i := (S - 3) / 9) (bb := (S - 3) % 3) (a := a) (rf := hf) (cl := dh) hhi hhii (by exact hzh) (by exact hrh) (by omega) (by omega) (by exact ha)) k_449 k_450 k_72 k_451 hd_Num_side ⟨Nat.le_of_ble_eq_true rfl, Nat.le_of_ble_eq_true rfl⟩ ⟨Nat.le_of_ble_eq_true rfl, Nat.le_of_ble_eq_true rfl⟩ hl.1 (Nat.le_of_ble_eq_true rfl) d_Num_after_96 rfl (fun r_96 w1 H locs hp hB => ?_)
        obtain ⟨rfl, hw_96⟩ := hp
        have hB : wf_B D wcl (wf_A w s.heap.size) s.heap w H locs := wf_Bto hw_96 hB
        refine lv_istore (lv' := [(6, .int (nI (sdF zh dh ((S - 3) / 9) ((S - 3) % 3) a))), (5, .int (nI (sdF zl dl ((S - 3) / 9) ((S - 3) / 3 % 3) a))), (4, .int (nI ((S - 3) / 9))), (0, .ref u), (1, .long (lN S)), (3, .int (nI a))]) hx hb d_Num_after_99 hl (by decide) rfl (fun ls hl => ?_)
        refine lv_iload hx hb d_Num_after_101 (lv_at hl 2 rfl) ?_
        refine lv_iconst (v := nI 1) hx hb d_Num_after_103 (by decide) ?_
        refine wf_iadd (x := (S - 3) / 9) (y := 1) hx hb d_Num_after_104 ?_
        refine lv_iload hx hb d_Num_after_105 (lv_at hl 1 rfl) ?_
        refine lv_iload hx hb d_Num_after_107 (lv_at hl 0 rfl) ?_
        refine callSl (As := [.int (nI (((S - 3) / 9) + 1)), .int (nI (sdF zl dl ((S - 3) / 9) ((S - 3) / 3 % 3) a)), .int (nI (sdF zh dh ((S - 3) / 9) ((S - 3) % 3) a))]) (rest := []) X hB wf_hA (c_Num_codeOf (l := l) (D := D) (t := t) (w := w) (sz := H.size) (dd := ((S - 3) / 9) + 1) (x := sdF zl dl ((S - 3) / 9) ((S - 3) / 3 % 3) a) (y := sdF zh dh ((S - 3) / 9) ((S - 3) % 3) a) (by omega) (by exact sdF_lt (by omega)) (by exact sdF_lt (by omega))) k_452 k_453 k_72 k_454 hd_Num_codeOf ⟨Nat.le_of_ble_eq_true rfl, Nat.le_of_ble_eq_true rfl⟩ ⟨Nat.le_of_ble_eq_true rfl, Nat.le_of_ble_eq_true rfl⟩ hl.1 (Nat.le_of_ble_eq_true rfl) d_Num_after_109 rfl (fun r_109 w1 H locs hp hB => ?_)
        obtain ⟨rfl, hw_109⟩ := hp
        have hB : wf_B D wcl (wf_A w s.heap.size) s.heap w H locs := wf_Bto hw_109 hB
        refine ret_l X hB d_Num_after_112 ?_
        exact ⟨congrArg lN (Eq.symm (by rw [nAf, if_neg (show ¬ S = 0 by omega), if_neg (show ¬ (S < 3 ∨ zh ≤ (S - 3) / 9) by omega)])), rfl⟩
      · refine lv_ldc2 (own := R_Num) hx hb X.2.2.1 (X.2.2.2.2.1.2 _ k_455 _) d_Num_after_65 ?_
        refine wf_tl (y := lN 2) (by decide) ?_
        refine ret_l X hB d_Num_after_68 ?_
        exact ⟨congrArg lN (Eq.symm (by rw [nAf, if_neg (show ¬ S = 0 by omega), if_pos (show S < 3 ∨ zh ≤ (S - 3) / 9 by omega)])), rfl⟩
  · refine lv_iload_n hx hb d_Num_after_6 rfl (lv_at hl 2 rfl) ?_
    refine wf_zne (tgt := 14) hx hb d_Num_after_7 (by decide) (nI_toInt (by omega)) (fun c_7 => ?_) (fun c_7 => ?_)
    · refine lv_iconst (v := nI 1) hx hb d_Num_after_14 (by decide) ?_
      refine lv_aload_n hx hb d_Num_after_15 rfl (lv_at hl 0 rfl) ?_
      refine rget X hB  i_Num hu cl_Num 1 (by decide) k_227 rfl rfl d_Num_after_16 ?_
      refine lv_iconst (v := nI 0) hx hb d_Num_after_19 (by decide) ?_
      refine lv_iconst (v := nI 1) hx hb d_Num_after_20 (by decide) ?_
      refine lv_iload_n hx hb d_Num_after_21 rfl (lv_at hl 2 rfl) ?_
      refine callSi (As := [.ref lo, .int (nI 0), .int (nI 1), .int (nI a)]) (rest := [.int (nI 1)]) X hB wf_hA (c_Num_side (l := l) (D := D) (t := t) (w := w) (sz := H.size) (o := lo) (oi := loi) (z := zl) (i := 0) (bb := 1) (a := a) (rf := lf) (cl := dl) hlo hloi (by exact hzl) (by exact hrl) (by omega) (by omega) (by exact ha)) k_449 k_450 k_72 k_451 hd_Num_side ⟨Nat.le_of_ble_eq_true rfl, Nat.le_of_ble_eq_true rfl⟩ ⟨Nat.le_of_ble_eq_true rfl, Nat.le_of_ble_eq_true rfl⟩ hl.1 (Nat.le_of_ble_eq_true rfl) d_Num_after_22 rfl (fun r_22 w1 H locs hp hB => ?_)
      obtain ⟨rfl, hw_22⟩ := hp
      have hB : wf_B D wcl (wf_A w s.heap.size) s.heap w H locs := wf_Bto hw_22 hB
      refine lv_aload_n hx hb d_Num_after_25 rfl (lv_at hl 0 rfl) ?_
      refine rget X hB  i_Num hu cl_Num 2 (by decide) k_228 rfl rfl d_Num_after_26 ?_
      refine lv_iconst (v := nI 0) hx hb d_Num_after_29 (by decide) ?_
      refine lv_iconst (v := nI 1) hx hb d_Num_after_30 (by decide) ?_
      refine lv_iload_n hx hb d_Num_after_31 rfl (lv_at hl 2 rfl) ?_
      refine callSi (As := [.ref hi, .int (nI 0), .int (nI 1), .int (nI a)]) (rest := [.int (nI (sdF zl dl 0 1 a)), .int (nI 1)]) X hB wf_hA (c_Num_side (l := l) (D := D) (t := t) (w := w) (sz := H.size) (o := hi) (oi := hii) (z := zh) (i := 0) (bb := 1) (a := a) (rf := hf) (cl := dh) hhi hhii (by exact hzh) (by exact hrh) (by omega) (by omega) (by exact ha)) k_449 k_450 k_72 k_451 hd_Num_side ⟨Nat.le_of_ble_eq_true rfl, Nat.le_of_ble_eq_true rfl⟩ ⟨Nat.le_of_ble_eq_true rfl, Nat.le_of_ble_eq_true rfl⟩ hl.1 (Nat.le_of_ble_eq_true rfl) d_Num_after_32 rfl (fun r_32 w1 H locs hp hB => ?_)
      obtain ⟨rfl, hw_32⟩ := hp
      have hB : wf_B D wcl (wf_A w s.heap.size) s.heap w H locs := wf_Bto hw_32 hB
      refine callSl (As := [.int (nI 1), .int (nI (sdF zl dl 0 1 a)), .int (nI (sdF zh dh 0 1 a))]) (rest := []) X hB wf_hA (c_Num_codeOf (l := l) (D := D) (t := t) (w := w) (sz := H.size) (dd := 1) (x := sdF zl dl 0 1 a) (y := sdF zh dh 0 1 a) (by omega) (by exact sdF_lt (by decide)) (by exact sdF_lt (by decide))) k_452 k_453 k_72 k_454 hd_Num_codeOf ⟨Nat.le_of_ble_eq_true rfl, Nat.le_of_ble_eq_true rfl⟩ ⟨Nat.le_of_ble_eq_true rfl, Nat.le_of_ble_eq_true rfl⟩ hl.1 (Nat.le_of_ble_eq_true rfl) d_Num_after_35 rfl (fun r_35 w1 H locs hp hB => ?_)
      obtain ⟨rfl, hw_35⟩ := hp
      have hB : wf_B D wcl (wf_A w s.heap.size) s.heap w H locs := wf_Bto hw_35 hB
      refine ret_l X hB d_Num_after_38 ?_
      exact ⟨congrArg lN (Eq.symm (by rw [nAf, if_pos (show S = 0 by omega), if_neg (show ¬ a = 0 by omega)])), rfl⟩
    · refine lv_lconst (v := lN 1) hx hb d_Num_after_10 (by decide) ?_
      refine lv_goto (tgt := 38) hx hb d_Num_after_11 (by decide) ?_
      refine ret_l X hB d_Num_after_38 ?_
      exact ⟨congrArg lN (Eq.symm (by rw [nAf, if_pos (show S = 0 by omega), if_pos (show a = 0 by omega)])), rfl⟩
set_option maxHeartbeats 4000000 in
set_option maxRecDepth 100000 in
theorem c_Num_isLast {l : Launch} {D : va_G} {t : Nat → ClassId} {w : wf_W} {sz : Nat} {u lo loi zl hi hii zh k : Nat} {lf : Nat → Int32} {dl : Nat → Nat} {S : Nat} (hu : w u = some (.inr (5, [.int (nI k), .ref lo, .ref hi]))) (hlo : w lo = some (.inr (0, [.ref loi, .int (nI zl)]))) (hloi : w loi = some (.inl (t 0, 100, .inl lf))) (hhi : w hi = some (.inr (0, [.ref hii, .int (nI zh)]))) (hzl : zl ≤ 100) (hzh : zh ≤ 100) (hrl : ∀ i, i < zl → lf i = nI (dl i) ∧ dl i < 4) (hS : S < 2000) (hl0 : 0 < zl) : Mi l y_Num_isLast b_Num_isLast 5 (some .boolean) 1 21 0 0 D t w sz [.ref u, .long (lN S)] (fun r w' => r = (bI (nLa zl zh dl S)) ∧ w' = w) := by
  refine start_i (by decide) (Nat.le_of_ble_eq_true rfl) ?_
  intro p e s m below meth c ls H locs X hB hl
  have hx := X.1
  have hb := X.2.1
  have hl : lv_has ls 5 [(0, .ref u), (1, .long (lN S))] := hl
  refine lv_lload_n hx hb d_Num_isLast_0 rfl (lv_at hl 1 rfl) ?_
  refine lv_ldc2 (own := R_Num) hx hb X.2.2.1 (X.2.2.2.2.1.2 _ k_402 _) d_Num_isLast_1 ?_
  refine wf_tl (y := lN 3) (by decide) ?_
  refine W.lcmp hx hb d_Num_isLast_4 ?_
  refine wf_lge (tgt := 31) hx hb d_Num_isLast_5 (by decide) (pk_lT (by omega)) (pk_lT (by omega)) (fun c_5 => ?_) (fun c_5 => ?_)
  · refine lv_lload_n hx hb d_Num_isLast_31 rfl (lv_at hl 1 rfl) ?_
    refine callSi (As := [.long (lN S)]) (rest := []) X hB wf_hA (c_Num_digitsOf (l := l) (D := D) (t := t) (w := w) (sz := H.size) (S := S) (by omega)) k_404 k_405 k_72 k_406 hd_Num_digitsOf ⟨Nat.le_of_ble_eq_true rfl, Nat.le_of_ble_eq_true rfl⟩ ⟨Nat.le_of_ble_eq_true rfl, Nat.le_of_ble_eq_true rfl⟩ hl.1 (Nat.le_of_ble_eq_true rfl) d_Num_isLast_32 rfl (fun r_32 w1 H locs hp hB => ?_)
    obtain ⟨rfl, hw_32⟩ := hp
    have hB : wf_B D wcl (wf_A w s.heap.size) s.heap w H locs := wf_Bto hw_32 hB
    refine lv_istore_n (lv' := [(3, .int (nI ((S - 3) / 9))), (0, .ref u), (1, .long (lN S))]) hx hb d_Num_isLast_35 rfl hl (by decide) rfl (fun ls hl => ?_)
    refine lv_iload_n hx hb d_Num_isLast_36 rfl (lv_at hl 0 rfl) ?_
    refine lv_aload_n hx hb d_Num_isLast_37 rfl (lv_at hl 1 rfl) ?_
    refine rget X hB  i_Num hu cl_Num 1 (by decide) k_227 rfl rfl d_Num_isLast_38 ?_
    refine rgetN X hB  i_Row hlo cl_Row 1 (by decide) k_103 rfl rfl d_Num_isLast_41 ?_
    refine wf_clt (tgt := 58) hx hb d_Num_isLast_44 (by decide) (nI_toInt (by omega)) (nI_toInt (by omega)) (fun c_44 => ?_) (fun c_44 => ?_)
    · refine lv_iconst (v := nI 0) hx hb d_Num_isLast_58 (by decide) ?_
      refine lv_istore (lv' := [(4, .int (nI 0)), (3, .int (nI ((S - 3) / 9))), (0, .ref u), (1, .long (lN S))]) hx hb d_Num_isLast_59 hl (by decide) rfl (fun ls hl => ?_)
      refine lv_iload hx hb d_Num_isLast_61 (lv_at hl 0 rfl) ?_
      refine wf_zeq (tgt := 89) hx hb d_Num_isLast_63 (by decide) (nI_toInt (by omega)) (fun c_63 => ?_) (fun c_63 => absurd c_63 (by decide))
      refine lv_iconst (v := nI 0) hx hb d_Num_isLast_89 (by decide) ?_
      refine wf_ti (y := bI false) rfl ?_
      refine ret_z X hB d_Num_isLast_90 ?_
      exact ⟨congrArg bI (Eq.symm (by rw [nLa, if_neg (show ¬ S < 3 by omega)]; first | exact decide_eq_true (by omega) | exact decide_eq_false (by omega))), rfl⟩
    · refine lv_lload_n hx hb d_Num_isLast_47 rfl (lv_at hl 2 rfl) ?_
      refine callSi (As := [.long (lN S)]) (rest := []) X hB wf_hA (c_Num_lowSide (l := l) (D := D) (t := t) (w := w) (sz := H.size) (S := S) (by omega) (by omega)) k_407 k_408 k_72 k_409 hd_Num_lowSide ⟨Nat.le_of_ble_eq_true rfl, Nat.le_of_ble_eq_true rfl⟩ ⟨Nat.le_of_ble_eq_true rfl, Nat.le_of_ble_eq_true rfl⟩ hl.1 (Nat.le_of_ble_eq_true rfl) d_Num_isLast_48 rfl (fun r_48 w1 H locs hp hB => ?_)
      obtain ⟨rfl, hw_48⟩ := hp
      have hB : wf_B D wcl (wf_A w s.heap.size) s.heap w H locs := wf_Bto hw_48 hB
      refine wf_zeq (tgt := 58) hx hb d_Num_isLast_51 (by decide) (nI_toInt (by omega)) (fun c_51 => ?_) (fun c_51 => ?_)
      · refine lv_iconst (v := nI 0) hx hb d_Num_isLast_58 (by decide) ?_
        refine lv_istore (lv' := [(4, .int (nI 0)), (3, .int (nI ((S - 3) / 9))), (0, .ref u), (1, .long (lN S))]) hx hb d_Num_isLast_59 hl (by decide) rfl (fun ls hl => ?_)
        refine lv_iload hx hb d_Num_isLast_61 (lv_at hl 0 rfl) ?_
        refine wf_zeq (tgt := 89) hx hb d_Num_isLast_63 (by decide) (nI_toInt (by omega)) (fun c_63 => ?_) (fun c_63 => absurd c_63 (by decide))
        refine lv_iconst (v := nI 0) hx hb d_Num_isLast_89 (by decide) ?_
        refine wf_ti (y := bI false) rfl ?_
        refine ret_z X hB d_Num_isLast_90 ?_
        exact ⟨congrArg bI (Eq.symm (by rw [nLa, if_neg (show ¬ S < 3 by omega)]; first | exact decide_eq_true (by omega) | exact decide_eq_false (by omega))), rfl⟩
      · refine lv_iconst (v := nI 1) hx hb d_Num_isLast_54 (by decide) ?_
        refine lv_goto (tgt := 59) hx hb d_Num_isLast_55 (by decide) ?_
        refine lv_istore (lv' := [(4, .int (nI 1)), (3, .int (nI ((S - 3) / 9))), (0, .ref u), (1, .long (lN S))]) hx hb d_Num_isLast_59 hl (by decide) rfl (fun ls hl => ?_)
        refine lv_iload hx hb d_Num_isLast_61 (lv_at hl 0 rfl) ?_
        refine wf_zeq (tgt := 89) hx hb d_Num_isLast_63 (by decide) (nI_toInt (by omega)) (fun c_63 => absurd c_63 (by decide)) (fun c_63 => ?_)
        refine lv_iload_n hx hb d_Num_isLast_66 rfl (lv_at hl 1 rfl) ?_
        refine lv_aload_n hx hb d_Num_isLast_67 rfl (lv_at hl 2 rfl) ?_
        refine rget X hB  i_Num hu cl_Num 2 (by decide) k_228 rfl rfl d_Num_isLast_68 ?_
        refine rgetN X hB  i_Row hhi cl_Row 1 (by decide) k_103 rfl rfl d_Num_isLast_71 ?_
        refine wf_clt (tgt := 85) hx hb d_Num_isLast_74 (by decide) (nI_toInt (by omega)) (nI_toInt (by omega)) (fun c_74 => ?_) (fun c_74 => ?_)
        · refine lv_iconst (v := nI 1) hx hb d_Num_isLast_85 (by decide) ?_
          refine lv_goto (tgt := 90) hx hb d_Num_isLast_86 (by decide) ?_
          refine wf_ti (y := bI true) rfl ?_
          refine ret_z X hB d_Num_isLast_90 ?_
          exact ⟨congrArg bI (Eq.symm (by rw [nLa, if_neg (show ¬ S < 3 by omega)]; first | exact decide_eq_true (by omega) | exact decide_eq_false (by omega))), rfl⟩
        · refine lv_lload_n hx hb d_Num_isLast_77 rfl (lv_at hl 3 rfl) ?_
          refine callSi (As := [.long (lN S)]) (rest := []) X hB wf_hA (c_Num_highSide (l := l) (D := D) (t := t) (w := w) (sz := H.size) (S := S) (by omega) (by omega)) k_410 k_411 k_72 k_412 hd_Num_highSide ⟨Nat.le_of_ble_eq_true rfl, Nat.le_of_ble_eq_true rfl⟩ ⟨Nat.le_of_ble_eq_true rfl, Nat.le_of_ble_eq_true rfl⟩ hl.1 (Nat.le_of_ble_eq_true rfl) d_Num_isLast_78 rfl (fun r_78 w1 H locs hp hB => ?_)
          obtain ⟨rfl, hw_78⟩ := hp
          have hB : wf_B D wcl (wf_A w s.heap.size) s.heap w H locs := wf_Bto hw_78 hB
          refine lv_iconst (v := nI 2) hx hb d_Num_isLast_81 (by decide) ?_
          refine wf_ceq (tgt := 89) hx hb d_Num_isLast_82 (by decide) (nI_toInt (by omega)) (nI_toInt (by omega)) (fun c_82 => ?_) (fun c_82 => ?_)
          · refine lv_iconst (v := nI 0) hx hb d_Num_isLast_89 (by decide) ?_
            refine wf_ti (y := bI false) rfl ?_
            refine ret_z X hB d_Num_isLast_90 ?_
            exact ⟨congrArg bI (Eq.symm (by rw [nLa, if_neg (show ¬ S < 3 by omega)]; first | exact decide_eq_true (by omega) | exact decide_eq_false (by omega))), rfl⟩
          · refine lv_iconst (v := nI 1) hx hb d_Num_isLast_85 (by decide) ?_
            refine lv_goto (tgt := 90) hx hb d_Num_isLast_86 (by decide) ?_
            refine wf_ti (y := bI true) rfl ?_
            refine ret_z X hB d_Num_isLast_90 ?_
            exact ⟨congrArg bI (Eq.symm (by rw [nLa, if_neg (show ¬ S < 3 by omega)]; first | exact decide_eq_true (by omega) | exact decide_eq_false (by omega))), rfl⟩
  · refine lv_lload_n hx hb d_Num_isLast_8 rfl (lv_at hl 1 rfl) ?_
    refine lv_lconst (v := lN 1) hx hb d_Num_isLast_9 (by decide) ?_
    refine W.lcmp hx hb d_Num_isLast_10 ?_
    refine wf_lne (tgt := 29) hx hb d_Num_isLast_11 (by decide) (pk_lT (by omega)) (pk_lT (by omega)) (fun c_11 => ?_) (fun c_11 => ?_)
    · refine lv_iconst (v := nI 0) hx hb d_Num_isLast_29 (by decide) ?_
      refine wf_ti (y := bI false) rfl ?_
      refine ret_z X hB d_Num_isLast_30 ?_
      exact ⟨congrArg bI (Eq.symm (by rw [nLa, if_pos (show S < 3 by omega)]; first | exact decide_eq_true (by omega) | exact decide_eq_false (by omega))), rfl⟩
    · refine lv_aload_n hx hb d_Num_isLast_14 rfl (lv_at hl 0 rfl) ?_
      refine rget X hB  i_Num hu cl_Num 1 (by decide) k_227 rfl rfl d_Num_isLast_15 ?_
      refine lv_iconst (v := nI 0) hx hb d_Num_isLast_18 (by decide) ?_
      refine callVi (As := [.int (nI 0)]) (rest := []) X hB wf_hA (c_Row_at (l := l) (D := D) (t := t) (w := w) (sz := H.size) (o := lo) (oi := loi) (z := zl) (i := 0) (rf := lf) hlo hloi (by exact hzl) (by omega)) k_403 k_351 k_352 k_66 k_353 hlo cl_Row rfl hd_Row_at ⟨Nat.le_of_ble_eq_true rfl, Nat.le_of_ble_eq_true rfl⟩ ⟨Nat.le_of_ble_eq_true rfl, Nat.le_of_ble_eq_true rfl⟩ hl.1 (Nat.le_of_ble_eq_true rfl) d_Num_isLast_19 rfl (fun r_19 w1 H locs hp hB => ?_)
      obtain ⟨rfl, hw_19⟩ := hp
      have hB : wf_B D wcl (wf_A w s.heap.size) s.heap w H locs := wf_Bto hw_19 hB
      refine wf_ti (y := nI (dl 0)) (by rw [if_pos (by omega)]; exact (hrl _ (by omega)).1) ?_
      refine wf_zne (tgt := 29) hx hb d_Num_isLast_22 (by decide) (nI_toInt (by have := (hrl 0 (by omega)).2; omega)) (fun c_22 => ?_) (fun c_22 => ?_)
      · refine lv_iconst (v := nI 0) hx hb d_Num_isLast_29 (by decide) ?_
        refine wf_ti (y := bI false) rfl ?_
        refine ret_z X hB d_Num_isLast_30 ?_
        exact ⟨congrArg bI (Eq.symm (by rw [nLa, if_pos (show S < 3 by omega)]; first | exact decide_eq_true (by omega) | exact decide_eq_false (by omega))), rfl⟩
      · refine lv_iconst (v := nI 1) hx hb d_Num_isLast_25 (by decide) ?_
        refine lv_goto (tgt := 30) hx hb d_Num_isLast_26 (by decide) ?_
        refine wf_ti (y := bI true) rfl ?_
        refine ret_z X hB d_Num_isLast_30 ?_
        exact ⟨congrArg bI (Eq.symm (by rw [nLa, if_pos (show S < 3 by omega)]; first | exact decide_eq_true (by omega) | exact decide_eq_false (by omega))), rfl⟩
