/-! THE REFERENCE -/
/-- its object -/
abbrev rfO (k mn az an ae ac cz ato tz ca aps apt al aip pz wy fi se ho lx ly ts tS alo alt aic arw aco act asp cs anu aor ann av ald ahd lz hz1 nl nh acn ce ais aq acf acb qd aw : Nat) : va_E := .inr (11, [.int (nI k), .int (nI mn), .ref az, .ref an, .ref ae, .ref ac, .int (nI cz), .ref ato, .int (nI tz), .int (nI ca), .ref aps, .ref apt, .ref al, .ref aip, .int (nI pz), .int (nI wy), .int (nI fi), .int (nI se), .int (nI ho), .int (nI lx), .int (nI ly), .int (nI ts), .long (lN tS), .ref alo, .ref alt, .ref aic, .ref arw, .ref aco, .ref act, .ref asp, .int (nI cs), .ref anu, .ref aor, .ref ann, .long (lN av), .ref ald, .ref ahd, .int (nI lz), .int (nI hz1), .int (nI nl), .int (nI nh), .ref acn, .long (lN ce), .ref ais, .ref aq, .ref acf, .ref acb, .int (nI qd), .ref aw])
theorem wb_sbit {n i : Nat} (hn : n < 2 ^ 64) (hi : i < 64) : (lN n >>> ((nI i).toInt64 &&& 63)) &&& lN 1 = lN (n.testBit i).toNat := by
  apply wb_inj
  rw [wb_c i hi, Int64.toBitVec_and, Int64.toBitVec_shiftRight, wb_tb, wb_tb, wb_tb, wb_tb, wb_sm i hi]
  apply BitVec.eq_of_getLsbD_eq
  intro j hj
  rw [BitVec.getLsbD_and, BitVec.sshiftRight_eq', BitVec.getLsbD_sshiftRight, BitVec.toNat_ofNat, Nat.mod_eq_of_lt (by omega), BitVec.getLsbD_ofNat, BitVec.getLsbD_ofNat, BitVec.getLsbD_ofNat]
  by_cases h0 : j = 0
  · subst h0
    cases n.testBit i <;> simp_all
  · have h1 : Nat.testBit 1 j = false := by
      rw [show (1 : Nat) = 2 ^ 0 from rfl, Nat.testBit_two_pow]; simp; omega
    have h2 : Nat.testBit (n.testBit i).toNat j = false := by
      cases n.testBit i
      · simp
      · exact h1
    rw [h1, h2]; simp
/-- a machine's numbers are in their bounds -/
def rOK (k n E : Nat) (st : Nat → Nat → Nat) : Prop := k ≤ 4 ∧ n ≤ 40 ∧ 0 < n ∧ E < 2 ^ n ∧ ∀ u a, u < n → a < k → st u a < n
theorem rOK.E40 {k n E : Nat} {st : Nat → Nat → Nat} (hm : rOK k n E st) : E < 2 ^ 40 := Nat.lt_of_lt_of_le hm.2.2.2.1 (pow_le40 hm.2.1)
theorem rOK.st40 {k n E : Nat} {st : Nat → Nat → Nat} (hm : rOK k n E st) {u a : Nat} (hu : u < n) (ha : a < k) : st u a < 40 := Nat.lt_of_lt_of_le (hm.2.2.2.2 u a hu ha) hm.2.1
/-- where the reference keeps machine a's steps -/
def nxt (Nx : Nat → Nat) (a u b : Nat) : Nat := Nx (160 * a + 4 * u + b)
set_option maxHeartbeats 4000000 in
set_option maxRecDepth 100000 in
theorem c_Ref_lies {l : Launch} {D : va_G} {t : Nat → ClassId} {w : wf_W} {sz : Nat} {v1 l1 h1 : Int64} : Mi l y_Ref_lies b_Ref_lies 6 (some .boolean) 0 0 0 0 D t w sz [.long v1, .long l1, .long h1] (fun r w' => r = (bI (decide (l1.toInt ≤ v1.toInt ∧ v1.toInt ≤ h1.toInt))) ∧ w' = w) := by
  refine start_i (by decide) (Nat.le_of_ble_eq_true rfl) ?_
  intro p e s m below meth c ls H locs X hB hl
  have hx := X.1
  have hb := X.2.1
  have hl : lv_has ls 6 [(0, .long v1), (2, .long l1), (4, .long h1)] := hl
  refine lv_lload_n hx hb d_Ref_lies_0 rfl (lv_at hl 0 rfl) ?_
  refine lv_lload_n hx hb d_Ref_lies_1 rfl (lv_at hl 1 rfl) ?_
  refine W.lcmp hx hb d_Ref_lies_2 ?_
  refine wf_llt (tgt := 17) hx hb d_Ref_lies_3 (by decide) rfl rfl (fun c_3 => ?_) (fun c_3 => ?_)
  · refine lv_iconst (v := nI 0) hx hb d_Ref_lies_17 (by decide) ?_
    refine wf_ti (y := bI false) rfl ?_
    refine ret_z X hB d_Ref_lies_18 ?_
    refine ⟨congrArg bI (Bool.eq_iff_iff.mpr ?_), rfl⟩; simp only [Bool.and_eq_true, Bool.or_eq_true, Bool.not_eq_true', decide_eq_true_eq, decide_eq_false_iff_not, Bool.false_eq_true, true_iff, false_iff]; omega
  · refine lv_lload_n hx hb d_Ref_lies_6 rfl (lv_at hl 0 rfl) ?_
    refine lv_lload hx hb d_Ref_lies_7 (lv_at hl 2 rfl) ?_
    refine W.lcmp hx hb d_Ref_lies_9 ?_
    refine wf_lgt (tgt := 17) hx hb d_Ref_lies_10 (by decide) rfl rfl (fun c_10 => ?_) (fun c_10 => ?_)
    · refine lv_iconst (v := nI 0) hx hb d_Ref_lies_17 (by decide) ?_
      refine wf_ti (y := bI false) rfl ?_
      refine ret_z X hB d_Ref_lies_18 ?_
      refine ⟨congrArg bI (Bool.eq_iff_iff.mpr ?_), rfl⟩; simp only [Bool.and_eq_true, Bool.or_eq_true, Bool.not_eq_true', decide_eq_true_eq, decide_eq_false_iff_not, Bool.false_eq_true, true_iff, false_iff]; omega
    · refine lv_iconst (v := nI 1) hx hb d_Ref_lies_13 (by decide) ?_
      refine lv_goto (tgt := 18) hx hb d_Ref_lies_14 (by decide) ?_
      refine wf_ti (y := bI true) rfl ?_
      refine ret_z X hB d_Ref_lies_18 ?_
      refine ⟨congrArg bI (Bool.eq_iff_iff.mpr ?_), rfl⟩; simp only [Bool.and_eq_true, Bool.or_eq_true, Bool.not_eq_true', decide_eq_true_eq, decide_eq_false_iff_not, Bool.false_eq_true, true_iff, false_iff]; omega
set_option maxHeartbeats 4000000 in
set_option maxRecDepth 100000 in
theorem c_Ref_is {l : Launch} {D : va_G} {t : Nat → ClassId} {w : wf_W} {sz : Nat} {mo az an ae ac ato aps apt al aip alo alt aic arw aco act asp anu aor ann ald ahd acn ais aq acf acb aw k mn cz tz ca pz wy fi se ho lx ly ts tS cs av lz hz1 nl nh ce qd : Nat} {q : Int32} (hMo : w mo = some (rfO k mn az an ae ac cz ato tz ca aps apt al aip pz wy fi se ho lx ly ts tS alo alt aic arw aco act asp cs anu aor ann av ald ahd lz hz1 nl nh acn ce ais aq acf acb qd aw)) (hmn : mn ≤ 60) : Mi l y_Ref_is b_Ref_is 2 (some .boolean) 1 25 0 0 D t w sz [.ref mo, .int q] (fun r w' => r = (bI (decide (0 ≤ q.toInt ∧ q.toInt < mn))) ∧ w' = w) := by
  refine start_i (by decide) (Nat.le_of_ble_eq_true rfl) ?_
  intro p e s m below meth c ls H locs X hB hl
  have hx := X.1
  have hb := X.2.1
  have hl : lv_has ls 2 [(0, .ref mo), (1, .int q)] := hl
  refine lv_iload_n hx hb d_Ref_is_0 rfl (lv_at hl 1 rfl) ?_
  refine lv_i2l hx hb d_Ref_is_1 rfl ?_
  refine lv_lconst (v := lN 0) hx hb d_Ref_is_2 (by decide) ?_
  refine lv_aload_n hx hb d_Ref_is_3 rfl (lv_at hl 0 rfl) ?_
  refine rget X hB  i_Ref hMo cl_Ref 1 (by decide) k_875 rfl rfl d_Ref_is_4 ?_
  refine lv_iconst (v := nI 1) hx hb d_Ref_is_7 (by decide) ?_
  refine lv_isub hx hb d_Ref_is_8 ?_
  refine lv_i2l hx hb d_Ref_is_9 rfl ?_
  refine callSi (As := [.long (Int32.toInt64 q), .long (lN 0), .long (Int32.toInt64 ((nI mn) - (nI 1)))]) (rest := []) X hB wf_hA (c_Ref_lies (l := l) (D := D) (t := t) (w := w) (sz := H.size) (v1 := Int32.toInt64 q) (l1 := lN 0) (h1 := Int32.toInt64 ((nI mn) - (nI 1)))) k_1030 k_1031 k_75 k_1032 hd_Ref_lies ⟨Nat.le_of_ble_eq_true rfl, Nat.le_of_ble_eq_true rfl⟩ ⟨Nat.le_of_ble_eq_true rfl, Nat.le_of_ble_eq_true rfl⟩ hl.1 (Nat.le_of_ble_eq_true rfl) d_Ref_is_10 rfl (fun r_10 w1 H locs hp hB => ?_)
  obtain ⟨rfl, hw_10⟩ := hp
  have hB : wf_B D wcl (wf_A w s.heap.size) s.heap w H locs := wf_Bto hw_10 hB
  refine ret_z X hB d_Ref_is_13 ?_
  refine ⟨congrArg bI (Bool.eq_iff_iff.mpr ?_), rfl⟩; simp only [decide_eq_true_eq, Int32.toInt_toInt64]; rw [pk_sub_toInt (by omega) (by decide), pk_lT (by decide)]; omega
set_option maxHeartbeats 4000000 in
set_option maxRecDepth 100000 in
theorem c_Ref_isy {l : Launch} {D : va_G} {t : Nat → ClassId} {w : wf_W} {sz : Nat} {mo az an ae ac ato aps apt al aip alo alt aic arw aco act asp anu aor ann ald ahd acn ais aq acf acb aw k mn cz tz ca pz wy fi se ho lx ly ts tS cs av lz hz1 nl nh ce qd : Nat} {a : Nat} (hMo : w mo = some (rfO k mn az an ae ac cz ato tz ca aps apt al aip pz wy fi se ho lx ly ts tS alo alt aic arw aco act asp cs anu aor ann av ald ahd lz hz1 nl nh acn ce ais aq acf acb qd aw)) (hmn : mn ≤ 60) (ha : a < mn) : Mi l y_Ref_is b_Ref_is 2 (some .boolean) 1 25 0 0 D t w sz [.ref mo, .int (nI a)] (fun r w' => r = (bI true) ∧ w' = w) := by
  refine start_i (by decide) (Nat.le_of_ble_eq_true rfl) ?_
  intro p e s m below meth c ls H locs X hB hl
  have hx := X.1
  have hb := X.2.1
  have hl : lv_has ls 2 [(0, .ref mo), (1, .int (nI a))] := hl
  refine lv_iload_n hx hb d_Ref_is_0 rfl (lv_at hl 1 rfl) ?_
  refine lv_i2l (v := lN a) hx hb d_Ref_is_1 (nI_l (by omega)) ?_
  refine lv_lconst (v := lN 0) hx hb d_Ref_is_2 (by decide) ?_
  refine lv_aload_n hx hb d_Ref_is_3 rfl (lv_at hl 0 rfl) ?_
  refine rget X hB  i_Ref hMo cl_Ref 1 (by decide) k_875 rfl rfl d_Ref_is_4 ?_
  refine lv_iconst (v := nI 1) hx hb d_Ref_is_7 (by decide) ?_
  refine lv_isub hx hb d_Ref_is_8 ?_
  refine lv_i2l hx hb d_Ref_is_9 rfl ?_
  refine callSi (As := [.long (lN a), .long (lN 0), .long (Int32.toInt64 ((nI mn) - (nI 1)))]) (rest := []) X hB wf_hA (c_Ref_lies (l := l) (D := D) (t := t) (w := w) (sz := H.size) (v1 := lN a) (l1 := lN 0) (h1 := Int32.toInt64 ((nI mn) - (nI 1)))) k_1030 k_1031 k_75 k_1032 hd_Ref_lies ⟨Nat.le_of_ble_eq_true rfl, Nat.le_of_ble_eq_true rfl⟩ ⟨Nat.le_of_ble_eq_true rfl, Nat.le_of_ble_eq_true rfl⟩ hl.1 (Nat.le_of_ble_eq_true rfl) d_Ref_is_10 rfl (fun r_10 w1 H locs hp hB => ?_)
  obtain ⟨rfl, hw_10⟩ := hp
  have hB : wf_B D wcl (wf_A w s.heap.size) s.heap w H locs := wf_Bto hw_10 hB
  refine ret_z X hB d_Ref_is_13 ?_
  refine ⟨congrArg bI (decide_eq_true ?_), rfl⟩; rw [Int32.toInt_toInt64, pk_sub_toInt (by omega) (by decide), pk_lT (by decide), pk_lT (by omega)]; omega
set_option maxHeartbeats 4000000 in
set_option maxRecDepth 100000 in
theorem c_Ref_nextOf {l : Launch} {D : va_G} {t : Nat → ClassId} {w : wf_W} {sz : Nat} {mo az an ae ac ato aps apt al aip alo alt aic arw aco act asp anu aor ann ald ahd acn ais aq acf acb aw k mn cz tz ca pz wy fi se ho lx ly ts tS cs av lz hz1 nl nh ce qd : Nat} {Nx : Nat → Nat} {a u b : Nat} (hMo : w mo = some (rfO k mn az an ae ac cz ato tz ca aps apt al aip pz wy fi se ho lx ly ts tS alo alt aic arw aco act asp cs anu aor ann av ald ahd lz hz1 nl nh acn ce ais aq acf acb qd aw)) (h_an : w an = some (.inl (t 0, 9600, .inl (iA Nx)))) (ha : a < 60) (hu : u < 40) (hb4 : b < 4) : Mi l y_Ref_nextOf b_Ref_nextOf 4 (some .int) 0 0 0 0 D t w sz [.ref mo, .int (nI a), .int (nI u), .int (nI b)] (fun r w' => r = (nI (nxt Nx a u b)) ∧ w' = w) := by
  refine start_i (by decide) (Nat.le_of_ble_eq_true rfl) ?_
  intro p e s m below meth c ls H locs X hB hl
  have hx := X.1
  have hb := X.2.1
  have hl : lv_has ls 4 [(0, .ref mo), (1, .int (nI a)), (2, .int (nI u)), (3, .int (nI b))] := hl
  refine lv_aload_n hx hb d_Ref_nextOf_0 rfl (lv_at hl 0 rfl) ?_
  refine rget X hB  i_Ref hMo cl_Ref 3 (by decide) k_877 rfl rfl d_Ref_nextOf_1 ?_
  refine lv_sipush (v := nI 160) hx hb d_Ref_nextOf_4 (by decide) ?_
  refine lv_iload_n hx hb d_Ref_nextOf_7 rfl (lv_at hl 1 rfl) ?_
  refine wf_imul (x := 160) (y := a) hx hb d_Ref_nextOf_8 ?_
  refine lv_iconst (v := nI 4) hx hb d_Ref_nextOf_9 (by decide) ?_
  refine lv_iload_n hx hb d_Ref_nextOf_10 rfl (lv_at hl 2 rfl) ?_
  refine wf_imul (x := 4) (y := u) hx hb d_Ref_nextOf_11 ?_
  refine wf_iadd (x := 160 * a) (y := 4 * u) hx hb d_Ref_nextOf_12 ?_
  refine lv_iload_n hx hb d_Ref_nextOf_13 rfl (lv_at hl 3 rfl) ?_
  refine wf_iadd (x := (160 * a) + (4 * u)) (y := b) hx hb d_Ref_nextOf_14 ?_
  refine riald X hB  h_an (i := ((160 * a) + (4 * u)) + b) (by omega) (by decide) d_Ref_nextOf_15 ?_
  refine wf_ti (y := nI (Nx (((160 * a) + (4 * u)) + b))) rfl ?_
  refine wf_ti (y := nI (nxt Nx a u b)) (by rfl) ?_
  refine ret_i X hB d_Ref_nextOf_16 ?_
  exact ⟨rfl, rfl⟩
set_option maxHeartbeats 4000000 in
set_option maxRecDepth 100000 in
theorem c_Ref_isEnd {l : Launch} {D : va_G} {t : Nat → ClassId} {w : wf_W} {sz : Nat} {mo az an ae ac ato aps apt al aip alo alt aic arw aco act asp anu aor ann ald ahd acn ais aq acf acb aw k mn cz tz ca pz wy fi se ho lx ly ts tS cs av lz hz1 nl nh ce qd : Nat} {En : Nat → Nat} {a u : Nat} (hMo : w mo = some (rfO k mn az an ae ac cz ato tz ca aps apt al aip pz wy fi se ho lx ly ts tS alo alt aic arw aco act asp cs anu aor ann av ald ahd lz hz1 nl nh acn ce ais aq acf acb qd aw)) (h_ae : w ae = some (.inl (t 1, 60, .inr (.inl (lA En))))) (ha : a < 60) (hu : u < 64) (hE : En a < 2 ^ 64) : Mi l y_Ref_isEnd b_Ref_isEnd 3 (some .boolean) 0 0 0 0 D t w sz [.ref mo, .int (nI a), .int (nI u)] (fun r w' => r = (bI (Nat.testBit (En a) u)) ∧ w' = w) := by
  refine start_i (by decide) (Nat.le_of_ble_eq_true rfl) ?_
  intro p e s m below meth c ls H locs X hB hl
  have hx := X.1
  have hb := X.2.1
  have hl : lv_has ls 3 [(0, .ref mo), (1, .int (nI a)), (2, .int (nI u))] := hl
  refine lv_aload_n hx hb d_Ref_isEnd_0 rfl (lv_at hl 0 rfl) ?_
  refine rget X hB  i_Ref hMo cl_Ref 4 (by decide) k_878 rfl rfl d_Ref_isEnd_1 ?_
  refine lv_iload_n hx hb d_Ref_isEnd_4 rfl (lv_at hl 1 rfl) ?_
  refine rlald X hB  h_ae (i := a) (by omega) (by decide) d_Ref_isEnd_5 ?_
  refine wf_tl (y := lN (En a)) rfl ?_
  refine lv_iload_n hx hb d_Ref_isEnd_6 rfl (lv_at hl 2 rfl) ?_
  refine lv_lshr hx hb d_Ref_isEnd_7 rfl ?_
  refine lv_lconst (v := lN 1) hx hb d_Ref_isEnd_8 (by decide) ?_
  refine lv_land hx hb d_Ref_isEnd_9 ?_
  refine wf_tl (y := lN ((Nat.testBit (En a) u).toNat)) (by exact wb_sbit (by omega) (by omega)) ?_
  refine lv_lconst (v := lN 1) hx hb d_Ref_isEnd_10 (by decide) ?_
  refine W.lcmp hx hb d_Ref_isEnd_11 ?_
  refine wf_lne (tgt := 19) hx hb d_Ref_isEnd_12 (by decide) (pk_lT (by cases Nat.testBit (En a) u <;> decide)) (pk_lT (by decide)) (fun c_12 => ?_) (fun c_12 => ?_)
  · refine lv_iconst (v := nI 0) hx hb d_Ref_isEnd_19 (by decide) ?_
    refine wf_ti (y := bI false) rfl ?_
    refine ret_z X hB d_Ref_isEnd_20 ?_
    exact ⟨by cases hq : Nat.testBit (En a) u <;> simp_all, rfl⟩
  · refine lv_iconst (v := nI 1) hx hb d_Ref_isEnd_15 (by decide) ?_
    refine lv_goto (tgt := 20) hx hb d_Ref_isEnd_16 (by decide) ?_
    refine wf_ti (y := bI true) rfl ?_
    refine ret_z X hB d_Ref_isEnd_20 ?_
    exact ⟨by cases hq : Nat.testBit (En a) u <;> simp_all, rfl⟩
