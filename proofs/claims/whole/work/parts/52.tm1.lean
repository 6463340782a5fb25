/-! THE CLASS ITSELF: ADDRESSES APART, THE MACHINES KEPT -/
theorem wlwR {w : wf_W} {a : Nat} {x : va_E} {tl : List (Nat × va_E)} {W' : wf_W} (h : w a = some x) (ht : wf_l w tl = W') : wf_l w ((a, x) :: tl) = W' := by
  show wf_l (wf_u w a x) tl = W'
  rw [wf_id h]
  exact ht
/-- the first kp machines stand where they are kept -/
def pool (t : Nat → ClassId) (w : wf_W) (pa sa : Nat → Nat) (k kp : Nat) (nn EE : Nat → Nat) (ff : Nat → Nat → Int32) : Prop := ∀ i, i < kp → w (pa i) = some (.inr (1, [.int (nI k), .ref (sa i), .int (nI (nn i)), .long (lN (EE i))])) ∧ w (sa i) = some (.inl (t 0, 40, .inl (pkA (ff i))))
def papart (pa sa : Nat → Nat) (kp : Nat) (L : List Nat) : Prop := ∀ i, i < kp → pa i ∉ L ∧ sa i ∉ L
theorem papart_sub {pa sa : Nat → Nat} {kp : Nat} {L L' : List Nat} (h : papart pa sa kp L) (is : List Nat) (hs : is.map (fun i => L[i]?) = L'.map some) : papart pa sa kp L' := by
  have hin : ∀ a, a ∈ L' → a ∈ L := by
    intro a ha
    have : some a ∈ L'.map some := List.mem_map.mpr ⟨a, ha, rfl⟩
    rw [← hs] at this
    obtain ⟨i, -, hi⟩ := List.mem_map.mp this
    exact List.mem_of_getElem? hi
  exact fun i hi => ⟨fun q => (h i hi).1 (hin _ q), fun q => (h i hi).2 (hin _ q)⟩
theorem pool_l {t : Nat → ClassId} {w : wf_W} {pa sa : Nat → Nat} {k kp : Nat} {nn EE : Nat → Nat} {ff : Nat → Nat → Int32} {wl : List (Nat × va_E)} (hP : pool t w pa sa k kp nn EE ff) (hpo : papart pa sa kp (wl.map Prod.fst)) : pool t (wf_l w wl) pa sa k kp nn EE ff :=
  fun i hi => ⟨by rw [wf_lo (hpo i hi).1]; exact (hP i hi).1, by rw [wf_lo (hpo i hi).2]; exact (hP i hi).2⟩
theorem papart_new {t : Nat → ClassId} {w : wf_W} {pa sa : Nat → Nat} {k kp : Nat} {nn EE : Nat → Nat} {ff : Nat → Nat → Int32} {L : List Nat} {q : Nat} (hP : pool t w pa sa k kp nn EE ff) (hpo : papart pa sa kp L) (hq : w q = none) : papart pa sa kp (L ++ [q]) := by
  intro i hi
  obtain ⟨h1, h2⟩ := hpo i hi
  obtain ⟨g1, g2⟩ := hP i hi
  refine ⟨fun h => ?_, fun h => ?_⟩
  · rcases List.mem_append.mp h with h | h
    · exact h1 h
    · rw [List.mem_singleton.mp h, hq] at g1
      cases g1
  · rcases List.mem_append.mp h with h | h
    · exact h2 h
    · rw [List.mem_singleton.mp h, hq] at g2
      cases g2
/-- two machines' cells say the same -/
def sam (n E : Nat) (f : Nat → Int32) (n2 E2 : Nat) (f2 : Nat → Int32) : Prop := n = n2 ∧ E = E2 ∧ ∀ i, i < n → pkA f i = pkA f2 i
/-- the least machine of z places -/
def lst (k z : Nat) (L : Nat → Nat) (Z : Nat → Bool) (n E : Nat) (f : Nat → Int32) (st : Nat → Nat → Nat) : Prop := (1 ≤ n ∧ n ≤ 40) ∧ mOK k n E f st ∧ ∃ K : Nat → Nat, qOK k z L Z n K ∧ (∀ p a, p < z → a < k → st (K p) a = K (L (p * 4 + a))) ∧ ∀ p, p < z → E.testBit (K p) = Z p
def tooM (k z : Nat) (L : Nat → Nat) (Z : Nat → Bool) : Prop := ∃ Dd : Nat → Nat, (∀ i, i < 41 → Dd i < z) ∧ ∀ i j, i < 41 → j < 41 → nrd k (fun p9 a9 => L (p9 * 4 + a9)) Z (Dd i) (Dd j) → i = j
set_option maxHeartbeats 4000000 in
set_option maxRecDepth 100000 in
theorem c_TM_isLetter {l : Launch} {D : va_G} {t : Nat → ClassId} {w : wf_W} {sz : Nat} {tm k co lt ms g md cd ru tu nb cm ta kp ca : Nat} {q : Int32} (hT : w tm = some (.inr (10, [.int (nI k), .ref co, .ref lt, .ref ms, .ref g, .ref md, .ref cd, .ref ru, .ref tu, .ref nb, .ref cm, .ref ta, .int (nI kp), .int (nI ca)]))) (hk : k ≤ 4) : Mi l y_TM_isLetter b_TM_isLetter 2 (some .boolean) 0 0 0 0 D t w sz [.ref tm, .int q] (fun r w' => r = (bI (decide (0 ≤ q.toInt ∧ q.toInt < k))) ∧ w' = w) := by
  refine start_i (by decide) (Nat.le_of_ble_eq_true rfl) ?_
  intro p e s m below meth c ls H locs X hB hl
  have hx := X.1
  have hb := X.2.1
  have hl : lv_has ls 2 [(0, .ref tm), (1, .int q)] := hl
  refine lv_iload_n hx hb d_TM_isLetter_0 rfl (lv_at hl 1 rfl) ?_
  refine wf_zlt (tgt := 16) hx hb d_TM_isLetter_1 (by decide) rfl (fun c_1 => ?_) (fun c_1 => ?_)
  · refine lv_iconst (v := nI 0) hx hb d_TM_isLetter_16 (by decide) ?_
    refine wf_ti (y := bI false) rfl ?_
    refine ret_z X hB d_TM_isLetter_17 ?_
    refine ⟨congrArg bI (Bool.eq_iff_iff.mpr ?_), rfl⟩; simp only [Bool.and_eq_true, Bool.or_eq_true, Bool.not_eq_true', decide_eq_true_eq, decide_eq_false_iff_not, Bool.false_eq_true, true_iff, false_iff]; omega
  · refine lv_iload_n hx hb d_TM_isLetter_4 rfl (lv_at hl 1 rfl) ?_
    refine lv_aload_n hx hb d_TM_isLetter_5 rfl (lv_at hl 0 rfl) ?_
    refine rget X hB  i_TM hT cl_TM 0 (by decide) k_268 rfl rfl d_TM_isLetter_6 ?_
    refine wf_cge (tgt := 16) hx hb d_TM_isLetter_9 (by decide) rfl (nI_toInt (by omega)) (fun c_9 => ?_) (fun c_9 => ?_)
    · refine lv_iconst (v := nI 0) hx hb d_TM_isLetter_16 (by decide) ?_
      refine wf_ti (y := bI false) rfl ?_
      refine ret_z X hB d_TM_isLetter_17 ?_
      refine ⟨congrArg bI (Bool.eq_iff_iff.mpr ?_), rfl⟩; simp only [Bool.and_eq_true, Bool.or_eq_true, Bool.not_eq_true', decide_eq_true_eq, decide_eq_false_iff_not, Bool.false_eq_true, true_iff, false_iff]; omega
    · refine lv_iconst (v := nI 1) hx hb d_TM_isLetter_12 (by decide) ?_
      refine lv_goto (tgt := 17) hx hb d_TM_isLetter_13 (by decide) ?_
      refine wf_ti (y := bI true) rfl ?_
      refine ret_z X hB d_TM_isLetter_17 ?_
      refine ⟨congrArg bI (Bool.eq_iff_iff.mpr ?_), rfl⟩; simp only [Bool.and_eq_true, Bool.or_eq_true, Bool.not_eq_true', decide_eq_true_eq, decide_eq_false_iff_not, Bool.false_eq_true, true_iff, false_iff]; omega
set_option maxHeartbeats 4000000 in
set_option maxRecDepth 100000 in
theorem c_TM_isLettery {l : Launch} {D : va_G} {t : Nat → ClassId} {w : wf_W} {sz : Nat} {tm k co lt ms g md cd ru tu nb cm ta kp ca : Nat} {a : Nat} (hT : w tm = some (.inr (10, [.int (nI k), .ref co, .ref lt, .ref ms, .ref g, .ref md, .ref cd, .ref ru, .ref tu, .ref nb, .ref cm, .ref ta, .int (nI kp), .int (nI ca)]))) (hk : k ≤ 4) (ha : a < k) : Mi l y_TM_isLetter b_TM_isLetter 2 (some .boolean) 0 0 0 0 D t w sz [.ref tm, .int (nI a)] (fun r w' => r = (bI true) ∧ w' = w) := by
  refine start_i (by decide) (Nat.le_of_ble_eq_true rfl) ?_
  intro p e s m below meth c ls H locs X hB hl
  have hx := X.1
  have hb := X.2.1
  have hl : lv_has ls 2 [(0, .ref tm), (1, .int (nI a))] := hl
  refine lv_iload_n hx hb d_TM_isLetter_0 rfl (lv_at hl 1 rfl) ?_
  refine wf_zlt (tgt := 16) hx hb d_TM_isLetter_1 (by decide) (nI_toInt (by omega)) (fun c_1 => ?_) (fun c_1 => ?_)
  · exact absurd c_1 (by omega)
  · refine lv_iload_n hx hb d_TM_isLetter_4 rfl (lv_at hl 1 rfl) ?_
    refine lv_aload_n hx hb d_TM_isLetter_5 rfl (lv_at hl 0 rfl) ?_
    refine rget X hB  i_TM hT cl_TM 0 (by decide) k_268 rfl rfl d_TM_isLetter_6 ?_
    refine wf_cge (tgt := 16) hx hb d_TM_isLetter_9 (by decide) (nI_toInt (by omega)) (nI_toInt (by omega)) (fun c_9 => ?_) (fun c_9 => ?_)
    · exact absurd c_9 (by omega)
    · refine lv_iconst (v := nI 1) hx hb d_TM_isLetter_12 (by decide) ?_
      refine lv_goto (tgt := 17) hx hb d_TM_isLetter_13 (by decide) ?_
      refine wf_ti (y := bI true) rfl ?_
      refine ret_z X hB d_TM_isLetter_17 ?_
      exact ⟨rfl, rfl⟩
set_option maxHeartbeats 4000000 in
set_option maxRecDepth 100000 in
theorem c_TM_isThere {l : Launch} {D : va_G} {t : Nat → ClassId} {w : wf_W} {sz : Nat} {tm k co lt ms g md cd ru tu nb cm ta kp ca : Nat} {q : Int32} (hT : w tm = some (.inr (10, [.int (nI k), .ref co, .ref lt, .ref ms, .ref g, .ref md, .ref cd, .ref ru, .ref tu, .ref nb, .ref cm, .ref ta, .int (nI kp), .int (nI ca)]))) (hk6 : kp ≤ 60) : Mi l y_TM_isThere b_TM_isThere 2 (some .boolean) 0 0 0 0 D t w sz [.ref tm, .int q] (fun r w' => r = (bI (decide (0 ≤ q.toInt ∧ q.toInt < kp))) ∧ w' = w) := by
  refine start_i (by decide) (Nat.le_of_ble_eq_true rfl) ?_
  intro p e s m below meth c ls H locs X hB hl
  have hx := X.1
  have hb := X.2.1
  have hl : lv_has ls 2 [(0, .ref tm), (1, .int q)] := hl
  refine lv_iload_n hx hb d_TM_isThere_0 rfl (lv_at hl 1 rfl) ?_
  refine wf_zlt (tgt := 16) hx hb d_TM_isThere_1 (by decide) rfl (fun c_1 => ?_) (fun c_1 => ?_)
  · refine lv_iconst (v := nI 0) hx hb d_TM_isThere_16 (by decide) ?_
    refine wf_ti (y := bI false) rfl ?_
    refine ret_z X hB d_TM_isThere_17 ?_
    refine ⟨congrArg bI (Bool.eq_iff_iff.mpr ?_), rfl⟩; simp only [Bool.and_eq_true, Bool.or_eq_true, Bool.not_eq_true', decide_eq_true_eq, decide_eq_false_iff_not, Bool.false_eq_true, true_iff, false_iff]; omega
  · refine lv_iload_n hx hb d_TM_isThere_4 rfl (lv_at hl 1 rfl) ?_
    refine lv_aload_n hx hb d_TM_isThere_5 rfl (lv_at hl 0 rfl) ?_
    refine rget X hB  i_TM hT cl_TM 12 (by decide) k_280 rfl rfl d_TM_isThere_6 ?_
    refine wf_cge (tgt := 16) hx hb d_TM_isThere_9 (by decide) rfl (nI_toInt (by omega)) (fun c_9 => ?_) (fun c_9 => ?_)
    · refine lv_iconst (v := nI 0) hx hb d_TM_isThere_16 (by decide) ?_
      refine wf_ti (y := bI false) rfl ?_
      refine ret_z X hB d_TM_isThere_17 ?_
      refine ⟨congrArg bI (Bool.eq_iff_iff.mpr ?_), rfl⟩; simp only [Bool.and_eq_true, Bool.or_eq_true, Bool.not_eq_true', decide_eq_true_eq, decide_eq_false_iff_not, Bool.false_eq_true, true_iff, false_iff]; omega
    · refine lv_iconst (v := nI 1) hx hb d_TM_isThere_12 (by decide) ?_
      refine lv_goto (tgt := 17) hx hb d_TM_isThere_13 (by decide) ?_
      refine wf_ti (y := bI true) rfl ?_
      refine ret_z X hB d_TM_isThere_17 ?_
      refine ⟨congrArg bI (Bool.eq_iff_iff.mpr ?_), rfl⟩; simp only [Bool.and_eq_true, Bool.or_eq_true, Bool.not_eq_true', decide_eq_true_eq, decide_eq_false_iff_not, Bool.false_eq_true, true_iff, false_iff]; omega
set_option maxHeartbeats 4000000 in
set_option maxRecDepth 100000 in
theorem c_TM_isTherey {l : Launch} {D : va_G} {t : Nat → ClassId} {w : wf_W} {sz : Nat} {tm k co lt ms g md cd ru tu nb cm ta kp ca : Nat} {a : Nat} (hT : w tm = some (.inr (10, [.int (nI k), .ref co, .ref lt, .ref ms, .ref g, .ref md, .ref cd, .ref ru, .ref tu, .ref nb, .ref cm, .ref ta, .int (nI kp), .int (nI ca)]))) (hk6 : kp ≤ 60) (ha : a < kp) : Mi l y_TM_isThere b_TM_isThere 2 (some .boolean) 0 0 0 0 D t w sz [.ref tm, .int (nI a)] (fun r w' => r = (bI true) ∧ w' = w) := by
  refine start_i (by decide) (Nat.le_of_ble_eq_true rfl) ?_
  intro p e s m below meth c ls H locs X hB hl
  have hx := X.1
  have hb := X.2.1
  have hl : lv_has ls 2 [(0, .ref tm), (1, .int (nI a))] := hl
  refine lv_iload_n hx hb d_TM_isThere_0 rfl (lv_at hl 1 rfl) ?_
  refine wf_zlt (tgt := 16) hx hb d_TM_isThere_1 (by decide) (nI_toInt (by omega)) (fun c_1 => ?_) (fun c_1 => ?_)
  · exact absurd c_1 (by omega)
  · refine lv_iload_n hx hb d_TM_isThere_4 rfl (lv_at hl 1 rfl) ?_
    refine lv_aload_n hx hb d_TM_isThere_5 rfl (lv_at hl 0 rfl) ?_
    refine rget X hB  i_TM hT cl_TM 12 (by decide) k_280 rfl rfl d_TM_isThere_6 ?_
    refine wf_cge (tgt := 16) hx hb d_TM_isThere_9 (by decide) (nI_toInt (by omega)) (nI_toInt (by omega)) (fun c_9 => ?_) (fun c_9 => ?_)
    · exact absurd c_9 (by omega)
    · refine lv_iconst (v := nI 1) hx hb d_TM_isThere_12 (by decide) ?_
      refine lv_goto (tgt := 17) hx hb d_TM_isThere_13 (by decide) ?_
      refine wf_ti (y := bI true) rfl ?_
      refine ret_z X hB d_TM_isThere_17 ?_
      exact ⟨rfl, rfl⟩
set_option maxHeartbeats 4000000 in
set_option maxRecDepth 100000 in
theorem c_TM_machine {l : Launch} {D : va_G} {t : Nat → ClassId} {w : wf_W} {sz : Nat} {tm k co lt ms g md cd ru tu nb cm ta kp ca : Nat} {mq : Nat → Option Nat} {pa : Nat → Nat} {a : Nat} (hT : w tm = some (.inr (10, [.int (nI k), .ref co, .ref lt, .ref ms, .ref g, .ref md, .ref cd, .ref ru, .ref tu, .ref nb, .ref cm, .ref ta, .int (nI kp), .int (nI ca)]))) (hMs : w ms = some (.inl (t 3, 60, .inr (.inr (.inr (.inr mq)))))) (hk6 : kp ≤ 60) (ha : a < kp) (hmq : ∀ i, i < kp → mq i = some (pa i)) : Mr l y_TM_machine b_TM_machine 2 (some (.object "TextMachines$Machine")) 1 21 0 0 D t w sz [.ref tm, .int (nI a)] (fun r w' => r = (pa a) ∧ w' = w) := by
  refine start_r (by decide) (Nat.le_of_ble_eq_true rfl) ?_
  intro p e s m below meth c ls H locs X hB hl
  have hx := X.1
  have hb := X.2.1
  have hl : lv_has ls 2 [(0, .ref tm), (1, .int (nI a))] := hl
  refine lv_aload_n hx hb d_TM_machine_0 rfl (lv_at hl 0 rfl) ?_
  refine rget X hB  i_TM hT cl_TM 3 (by decide) k_271 rfl rfl d_TM_machine_1 ?_
  refine lv_aload_n hx hb d_TM_machine_4 rfl (lv_at hl 0 rfl) ?_
  refine lv_iload_n hx hb d_TM_machine_5 rfl (lv_at hl 1 rfl) ?_
  refine callVi (As := [.int (nI a)]) (rest := [.ref ms]) X hB wf_hA (c_TM_isTherey (l := l) (D := D) (t := t) (w := w) (sz := H.size) (tm := tm) (k := k) (co := co) (lt := lt) (ms := ms) (g := g) (md := md) (cd := cd) (ru := ru) (tu := tu) (nb := nb) (cm := cm) (ta := ta) (kp := kp) (ca := ca) (a := a) hT (by exact hk6) (by exact ha)) k_550 k_552 k_15 k_64 k_553 hT cl_TM rfl hd_TM_isThere ⟨Nat.le_of_ble_eq_true rfl, Nat.le_of_ble_eq_true rfl⟩ ⟨Nat.le_of_ble_eq_true rfl, Nat.le_of_ble_eq_true rfl⟩ hl.1 (Nat.le_of_ble_eq_true rfl) d_TM_machine_6 rfl (fun r_6 w1 H locs hp hB => ?_)
  obtain ⟨rfl, hw_6⟩ := hp
  have hB : wf_B D wcl (wf_A w s.heap.size) s.heap w H locs := wf_Bto hw_6 hB
  refine wf_beq (tgt := 16) hx hb d_TM_machine_9 (by decide) (fun c9 => absurd c9 (by decide)) (fun _ => ?_)
  refine lv_iload_n hx hb d_TM_machine_12 rfl (lv_at hl 1 rfl) ?_
  refine lv_goto (tgt := 17) hx hb d_TM_machine_13 (by decide) ?_
  refine raald X hB  hMs (b := pa a) (by omega) (by decide) (by exact hmq a ha) d_TM_machine_17 ?_
  refine ret_r X hB d_TM_machine_18 ?_
  exact ⟨rfl, rfl⟩
set_option maxHeartbeats 4000000 in
set_option maxRecDepth 100000 in
theorem c_TM_keep_L2 {l : Launch} {D : va_G} {t : Nat → ClassId} {w : wf_W} {tm k co lt ms g md cd ru tu nb cm ta kp ca : Nat} {mds nM EM : Nat} {fM : Nat → Int32} {mq : Nat → Option Nat} {pa sa nn EE : Nat → Nat} {ff : Nat → Nat → Int32} {P Ps nP EP : Nat} {fP : Nat → Int32}  {p : Program} {e : Env} {s : State} {m : MethodId} {below : List Frame} {meth : Method} {c : Code} (X : Cx p s m meth c R_TM "keep" b_TM_keep 3 (some .int) D t) (hN : nd [tm, md, mds, P, Ps]) (hO : apart [ms] [tm, md, mds, P, Ps]) (hT : w tm = some (.inr (10, [.int (nI k), .ref co, .ref lt, .ref ms, .ref g, .ref md, .ref cd, .ref ru, .ref tu, .ref nb, .ref cm, .ref ta, .int (nI kp), .int (nI ca)]))) (hMd : w md = some (.inr (1, [.int (nI k), .ref mds, .int (nI nM), .long (lN EM)]))) (hMds : w mds = some (.inl (t 0, 40, .inl (pkA fM)))) (hMP : w P = some (.inr (1, [.int (nI k), .ref Ps, .int (nI nP), .long (lN EP)]))) (hMPs : w Ps = some (.inl (t 0, 40, .inl (pkA fP)))) (hMs : w ms = some (.inl (t 3, 60, .inr (.inr (.inr (.inr mq)))))) (hkp : kp < 60) (hmq : ∀ i, i < kp → mq i = some (pa i)) (hPkq : mq kp = some P) (hPo : pool t w pa sa k kp nn EE ff) (hpo : papart pa sa kp [tm, md, mds, P, Ps]) (hnn : ∀ i, i < kp → nn i ≤ 40 ∧ EE i < 2 ^ 40) (hn : nM ≤ 40) (hE : EM < 2 ^ 40)
    (K_31 : ∀ (i : Nat), (i ≤ kp) → (∀ j, j < i → ¬ sam (nn j) (EE j) (ff j) nM EM fM) → (i = kp) → ∀ (H : Heap) (locs : List Loc) (ls : Array Slot), lv_has ls 3 [(0, .ref tm), (1, .ref md), (2, .int (nI i))] → wf_B D wcl (wf_A w s.heap.size) s.heap (wf_l w [(tm, .inr (10, [.int (nI k), .ref co, .ref lt, .ref ms, .ref g, .ref md, .ref cd, .ref ru, .ref tu, .ref nb, .ref cm, .ref ta, .int (nI kp), .int (nI ca)])), (md, .inr (1, [.int (nI k), .ref mds, .int (nI nM), .long (lN EM)])), (mds, .inl (t 0, 40, .inl (pkA fM))), (P, .inr (1, [.int (nI k), .ref Ps, .int (nI nP), .long (lN EP)])), (Ps, .inl (t 0, 40, .inl (pkA fP)))]) H locs → W p l e (rmk 2 61 0 0) s m [.ref tm, .ref md].toArray below meth c H locs 0 0 (MQ below (wf_Qi D wcl w (fun r w' => (∃ i0 : Nat, (i0 < kp ∧ sam (nn i0) (EE i0) (ff i0) nM EM fM ∧ ∀ j, j < i0 → ¬ sam (nn j) (EE j) (ff j) nM EM fM) ∧ r = (nI i0) ∧ w' = wf_l w [(tm, .inr (10, [.int (nI k), .ref co, .ref lt, .ref ms, .ref g, .ref md, .ref cd, .ref ru, .ref tu, .ref nb, .ref cm, .ref ta, .int (nI kp), .int (nI ca)])), (md, .inr (1, [.int (nI k), .ref mds, .int (nI nM), .long (lN EM)])), (mds, .inl (t 0, 40, .inl (pkA fM))), (P, .inr (1, [.int (nI k), .ref Ps, .int (nI nP), .long (lN EP)])), (Ps, .inl (t 0, 40, .inl (pkA fP)))]) ∨ (∃ g0 : Nat → Int32, (∀ j, j < 160 → g0 j = fM j) ∧ (∀ j, j < kp → ¬ sam (nn j) (EE j) (ff j) nM EM fM) ∧ r = (nI kp) ∧ w' = wf_l w [(tm, .inr (10, [.int (nI k), .ref co, .ref lt, .ref ms, .ref g, .ref md, .ref cd, .ref ru, .ref tu, .ref nb, .ref cm, .ref ta, .int (nI (kp + 1)), .int (nI ca)])), (md, .inr (1, [.int (nI k), .ref mds, .int (nI nM), .long (lN EM)])), (mds, .inl (t 0, 40, .inl (pkA fM))), (P, .inr (1, [.int (nI k), .ref Ps, .int (nI nM), .long (lN EM)])), (Ps, .inl (t 0, 40, .inl (pkA g0)))])) s.heap.size) [.ref tm, .ref md].toArray s 0 0 (wf_A w s.heap.size)) (F0 m 31 ls [])) :
    ∀ (fu : Nat) (i : Nat), (i ≤ kp) → (∀ j, j < i → ¬ sam (nn j) (EE j) (ff j) nM EM fM) → kp - i < fu → ∀ (H : Heap) (locs : List Loc) (ls : Array Slot), lv_has ls 3 [(0, .ref tm), (1, .ref md), (2, .int (nI i))] → wf_B D wcl (wf_A w s.heap.size) s.heap (wf_l w [(tm, .inr (10, [.int (nI k), .ref co, .ref lt, .ref ms, .ref g, .ref md, .ref cd, .ref ru, .ref tu, .ref nb, .ref cm, .ref ta, .int (nI kp), .int (nI ca)])), (md, .inr (1, [.int (nI k), .ref mds, .int (nI nM), .long (lN EM)])), (mds, .inl (t 0, 40, .inl (pkA fM))), (P, .inr (1, [.int (nI k), .ref Ps, .int (nI nP), .long (lN EP)])), (Ps, .inl (t 0, 40, .inl (pkA fP)))]) H locs → W p l e (rmk 2 61 0 0) s m [.ref tm, .ref md].toArray below meth c H locs 0 0 (MQ below (wf_Qi D wcl w (fun r w' => (∃ i0 : Nat, (i0 < kp ∧ sam (nn i0) (EE i0) (ff i0) nM EM fM ∧ ∀ j, j < i0 → ¬ sam (nn j) (EE j) (ff j) nM EM fM) ∧ r = (nI i0) ∧ w' = wf_l w [(tm, .inr (10, [.int (nI k), .ref co, .ref lt, .ref ms, .ref g, .ref md, .ref cd, .ref ru, .ref tu, .ref nb, .ref cm, .ref ta, .int (nI kp), .int (nI ca)])), (md, .inr (1, [.int (nI k), .ref mds, .int (nI nM), .long (lN EM)])), (mds, .inl (t 0, 40, .inl (pkA fM))), (P, .inr (1, [.int (nI k), .ref Ps, .int (nI nP), .long (lN EP)])), (Ps, .inl (t 0, 40, .inl (pkA fP)))]) ∨ (∃ g0 : Nat → Int32, (∀ j, j < 160 → g0 j = fM j) ∧ (∀ j, j < kp → ¬ sam (nn j) (EE j) (ff j) nM EM fM) ∧ r = (nI kp) ∧ w' = wf_l w [(tm, .inr (10, [.int (nI k), .ref co, .ref lt, .ref ms, .ref g, .ref md, .ref cd, .ref ru, .ref tu, .ref nb, .ref cm, .ref ta, .int (nI (kp + 1)), .int (nI ca)])), (md, .inr (1, [.int (nI k), .ref mds, .int (nI nM), .long (lN EM)])), (mds, .inl (t 0, 40, .inl (pkA fM))), (P, .inr (1, [.int (nI k), .ref Ps, .int (nI nM), .long (lN EM)])), (Ps, .inl (t 0, 40, .inl (pkA g0)))])) s.heap.size) [.ref tm, .ref md].toArray s 0 0 (wf_A w s.heap.size)) (F0 m 2 ls []) := by
  have hx := X.1
  have hb := X.2.1
  intro fu
  induction fu with
  | zero => intro i hi hno hfu; exact absurd hfu (Nat.not_lt_zero _)
  | succ fu ih =>
    intro i hi hno hfu H locs ls hl hB
    refine lv_iload_n hx hb d_TM_keep_2 rfl (lv_at hl 2 rfl) ?_
    refine lv_aload_n hx hb d_TM_keep_3 rfl (lv_at hl 0 rfl) ?_
    refine rgetL X hB hN 0 i_TM rfl cl_TM 12 (by decide) k_280 rfl rfl d_TM_keep_4 ?_
    refine wf_cge (tgt := 31) hx hb d_TM_keep_7 (by decide) (nI_toInt (by omega)) (nI_toInt (by omega)) (fun c_7 => ?_) (fun c_7 => ?_)
    · exact K_31 i hi hno (by omega) H locs ls (lv_sub hl [0, 1, 2] rfl) hB
    · refine lv_aload_n hx hb d_TM_keep_10 rfl (lv_at hl 0 rfl) ?_
      refine rgetL X hB hN 0 i_TM rfl cl_TM 3 (by decide) k_271 rfl rfl d_TM_keep_11 ?_
      refine lv_iload_n hx hb d_TM_keep_14 rfl (lv_at hl 2 rfl) ?_
      refine raald X hB  (wf_ro (w := w) (wl := [(tm, .inr (10, [.int (nI k), .ref co, .ref lt, .ref ms, .ref g, .ref md, .ref cd, .ref ru, .ref tu, .ref nb, .ref cm, .ref ta, .int (nI kp), .int (nI ca)])), (md, .inr (1, [.int (nI k), .ref mds, .int (nI nM), .long (lN EM)])), (mds, .inl (t 0, 40, .inl (pkA fM))), (P, .inr (1, [.int (nI k), .ref Ps, .int (nI nP), .long (lN EP)])), (Ps, .inl (t 0, 40, .inl (pkA fP)))]) hO 0 rfl hMs) (b := pa i) (by omega) (by decide) (by exact hmq i (by omega)) d_TM_keep_15 ?_
      refine lv_aload_n hx hb d_TM_keep_16 rfl (lv_at hl 1 rfl) ?_
      refine callVi (As := [.ref md]) (rest := []) X hB wf_hA (c_Mac_isSame (l := l) (D := D) (t := t) (w := (wf_l w [(tm, .inr (10, [.int (nI k), .ref co, .ref lt, .ref ms, .ref g, .ref md, .ref cd, .ref ru, .ref tu, .ref nb, .ref cm, .ref ta, .int (nI kp), .int (nI ca)])), (md, .inr (1, [.int (nI k), .ref mds, .int (nI nM), .long (lN EM)])), (mds, .inl (t 0, 40, .inl (pkA fM))), (P, .inr (1, [.int (nI k), .ref Ps, .int (nI nP), .long (lN EP)])), (Ps, .inl (t 0, 40, .inl (pkA fP)))])) (sz := H.size) (h := pa i) (hs := sa i) (k := k) (n := nn i) (E := EE i) (o := md) (os := mds) (k2 := k) (n2 := nM) (E2 := EM) (f := (ff i)) (f2 := fM) (pool_l (wl := [(tm, .inr (10, [.int (nI k), .ref co, .ref lt, .ref ms, .ref g, .ref md, .ref cd, .ref ru, .ref tu, .ref nb, .ref cm, .ref ta, .int (nI kp), .int (nI ca)])), (md, .inr (1, [.int (nI k), .ref mds, .int (nI nM), .long (lN EM)])), (mds, .inl (t 0, 40, .inl (pkA fM))), (P, .inr (1, [.int (nI k), .ref Ps, .int (nI nP), .long (lN EP)])), (Ps, .inl (t 0, 40, .inl (pkA fP)))]) hPo hpo i (by omega)).1 (pool_l (wl := [(tm, .inr (10, [.int (nI k), .ref co, .ref lt, .ref ms, .ref g, .ref md, .ref cd, .ref ru, .ref tu, .ref nb, .ref cm, .ref ta, .int (nI kp), .int (nI ca)])), (md, .inr (1, [.int (nI k), .ref mds, .int (nI nM), .long (lN EM)])), (mds, .inl (t 0, 40, .inl (pkA fM))), (P, .inr (1, [.int (nI k), .ref Ps, .int (nI nP), .long (lN EP)])), (Ps, .inl (t 0, 40, .inl (pkA fP)))]) hPo hpo i (by omega)).2 (wf_lg (w := w) (l := [(tm, .inr (10, [.int (nI k), .ref co, .ref lt, .ref ms, .ref g, .ref md, .ref cd, .ref ru, .ref tu, .ref nb, .ref cm, .ref ta, .int (nI kp), .int (nI ca)])), (md, .inr (1, [.int (nI k), .ref mds, .int (nI nM), .long (lN EM)])), (mds, .inl (t 0, 40, .inl (pkA fM))), (P, .inr (1, [.int (nI k), .ref Ps, .int (nI nP), .long (lN EP)])), (Ps, .inl (t 0, 40, .inl (pkA fP)))]) hN 1 rfl) (wf_lg (w := w) (l := [(tm, .inr (10, [.int (nI k), .ref co, .ref lt, .ref ms, .ref g, .ref md, .ref cd, .ref ru, .ref tu, .ref nb, .ref cm, .ref ta, .int (nI kp), .int (nI ca)])), (md, .inr (1, [.int (nI k), .ref mds, .int (nI nM), .long (lN EM)])), (mds, .inl (t 0, 40, .inl (pkA fM))), (P, .inr (1, [.int (nI k), .ref Ps, .int (nI nP), .long (lN EP)])), (Ps, .inl (t 0, 40, .inl (pkA fP)))]) hN 2 rfl) (by exact (hnn i (by omega)).1) (by exact hn) (by exact (hnn i (by omega)).2) (by exact hE)) k_535 k_536 k_537 k_67 k_538 (pool_l (wl := [(tm, .inr (10, [.int (nI k), .ref co, .ref lt, .ref ms, .ref g, .ref md, .ref cd, .ref ru, .ref tu, .ref nb, .ref cm, .ref ta, .int (nI kp), .int (nI ca)])), (md, .inr (1, [.int (nI k), .ref mds, .int (nI nM), .long (lN EM)])), (mds, .inl (t 0, 40, .inl (pkA fM))), (P, .inr (1, [.int (nI k), .ref Ps, .int (nI nP), .long (lN EP)])), (Ps, .inl (t 0, 40, .inl (pkA fP)))]) hPo hpo i (by omega)).1 cl_Mac rfl hd_Mac_isSame ⟨Nat.le_of_ble_eq_true rfl, Nat.le_of_ble_eq_true rfl⟩ ⟨Nat.le_of_ble_eq_true rfl, Nat.le_of_ble_eq_true rfl⟩ hl.1 (Nat.le_of_ble_eq_true rfl) d_TM_keep_17 rfl (fun r_17 w1 H locs hp hB => ?_)
      rcases hp with ⟨hy_17, rfl, hw_17⟩ | ⟨hy_17, rfl, hw_17⟩
      · have hB : wf_B D wcl (wf_A w s.heap.size) s.heap (wf_l w [(tm, .inr (10, [.int (nI k), .ref co, .ref lt, .ref ms, .ref g, .ref md, .ref cd, .ref ru, .ref tu, .ref nb, .ref cm, .ref ta, .int (nI kp), .int (nI ca)])), (md, .inr (1, [.int (nI k), .ref mds, .int (nI nM), .long (lN EM)])), (mds, .inl (t 0, 40, .inl (pkA fM))), (P, .inr (1, [.int (nI k), .ref Ps, .int (nI nP), .long (lN EP)])), (Ps, .inl (t 0, 40, .inl (pkA fP)))]) H locs := wf_Bto hw_17 hB
        refine wf_beq (tgt := 25) hx hb d_TM_keep_20 (by decide) (fun c9 => absurd c9 (by decide)) (fun _ => ?_)
        refine lv_iload_n hx hb d_TM_keep_23 rfl (lv_at hl 2 rfl) ?_
        refine ret_i X hB d_TM_keep_24 ?_
        exact Or.inl ⟨i, ⟨by omega, hy_17, hno⟩, rfl, rfl⟩
      · have hB : wf_B D wcl (wf_A w s.heap.size) s.heap (wf_l w [(tm, .inr (10, [.int (nI k), .ref co, .ref lt, .ref ms, .ref g, .ref md, .ref cd, .ref ru, .ref tu, .ref nb, .ref cm, .ref ta, .int (nI kp), .int (nI ca)])), (md, .inr (1, [.int (nI k), .ref mds, .int (nI nM), .long (lN EM)])), (mds, .inl (t 0, 40, .inl (pkA fM))), (P, .inr (1, [.int (nI k), .ref Ps, .int (nI nP), .long (lN EP)])), (Ps, .inl (t 0, 40, .inl (pkA fP)))]) H locs := wf_Bto hw_17 hB
        refine wf_beq (tgt := 25) hx hb d_TM_keep_20 (by decide) (fun _ => ?_) (fun c9 => absurd c9 (by decide))
        refine lv_iinc (v := nI (i + 1)) (lv' := [(2, .int (nI (i + 1))), (0, .ref tm), (1, .ref md)]) hx hb d_TM_keep_25 hl (k := 2) rfl (show nI i + nI 1 = nI (i + 1) from nI_add _ _) (by decide) rfl (fun ls hl => ?_)
        refine lv_goto (tgt := 2) hx hb d_TM_keep_28 (by decide) ?_
        exact ih (i + 1) (by omega) (by intro j hj; by_cases e9 : j = i; (rw [e9]; exact hy_17); exact hno j (by omega)) (by omega) H locs ls (lv_sub hl [1, 2, 0] rfl) hB
set_option maxHeartbeats 4000000 in
set_option maxRecDepth 100000 in
theorem c_TM_keep {l : Launch} {D : va_G} {t : Nat → ClassId} {w : wf_W} {sz : Nat} {tm k co lt ms g md cd ru tu nb cm ta kp ca : Nat} {mds nM EM : Nat} {fM : Nat → Int32} {mq : Nat → Option Nat} {pa sa nn EE : Nat → Nat} {ff : Nat → Nat → Int32} {P Ps nP EP : Nat} {fP : Nat → Int32} (hN : nd [tm, md, mds, P, Ps]) (hO : apart [ms] [tm, md, mds, P, Ps]) (hT : w tm = some (.inr (10, [.int (nI k), .ref co, .ref lt, .ref ms, .ref g, .ref md, .ref cd, .ref ru, .ref tu, .ref nb, .ref cm, .ref ta, .int (nI kp), .int (nI ca)]))) (hMd : w md = some (.inr (1, [.int (nI k), .ref mds, .int (nI nM), .long (lN EM)]))) (hMds : w mds = some (.inl (t 0, 40, .inl (pkA fM)))) (hMP : w P = some (.inr (1, [.int (nI k), .ref Ps, .int (nI nP), .long (lN EP)]))) (hMPs : w Ps = some (.inl (t 0, 40, .inl (pkA fP)))) (hMs : w ms = some (.inl (t 3, 60, .inr (.inr (.inr (.inr mq)))))) (hkp : kp < 60) (hmq : ∀ i, i < kp → mq i = some (pa i)) (hPkq : mq kp = some P) (hPo : pool t w pa sa k kp nn EE ff) (hpo : papart pa sa kp [tm, md, mds, P, Ps]) (hnn : ∀ i, i < kp → nn i ≤ 40 ∧ EE i < 2 ^ 40) (hn : nM ≤ 40) (hE : EM < 2 ^ 40) : Mi l y_TM_keep b_TM_keep 3 (some .int) 2 61 0 0 D t w sz [.ref tm, .ref md] (fun r w' => (∃ i0 : Nat, (i0 < kp ∧ sam (nn i0) (EE i0) (ff i0) nM EM fM ∧ ∀ j, j < i0 → ¬ sam (nn j) (EE j) (ff j) nM EM fM) ∧ r = (nI i0) ∧ w' = wf_l w [(tm, .inr (10, [.int (nI k), .ref co, .ref lt, .ref ms, .ref g, .ref md, .ref cd, .ref ru, .ref tu, .ref nb, .ref cm, .ref ta, .int (nI kp), .int (nI ca)])), (md, .inr (1, [.int (nI k), .ref mds, .int (nI nM), .long (lN EM)])), (mds, .inl (t 0, 40, .inl (pkA fM))), (P, .inr (1, [.int (nI k), .ref Ps, .int (nI nP), .long (lN EP)])), (Ps, .inl (t 0, 40, .inl (pkA fP)))]) ∨ (∃ g0 : Nat → Int32, (∀ j, j < 160 → g0 j = fM j) ∧ (∀ j, j < kp → ¬ sam (nn j) (EE j) (ff j) nM EM fM) ∧ r = (nI kp) ∧ w' = wf_l w [(tm, .inr (10, [.int (nI k), .ref co, .ref lt, .ref ms, .ref g, .ref md, .ref cd, .ref ru, .ref tu, .ref nb, .ref cm, .ref ta, .int (nI (kp + 1)), .int (nI ca)])), (md, .inr (1, [.int (nI k), .ref mds, .int (nI nM), .long (lN EM)])), (mds, .inl (t 0, 40, .inl (pkA fM))), (P, .inr (1, [.int (nI k), .ref Ps, .int (nI nM), .long (lN EM)])), (Ps, .inl (t 0, 40, .inl (pkA g0)))])) := by
  refine start_i (by decide) (Nat.le_of_ble_eq_true rfl) ?_
  intro p e s m below meth c ls H locs X hB hl
  have hx := X.1
  have hb := X.2.1
  have hl : lv_has ls 3 [(0, .ref tm), (1, .ref md)] := hl
  have hB : wf_B D wcl (wf_A w s.heap.size) s.heap (wf_l w [(tm, .inr (10, [.int (nI k), .ref co, .ref lt, .ref ms, .ref g, .ref md, .ref cd, .ref ru, .ref tu, .ref nb, .ref cm, .ref ta, .int (nI kp), .int (nI ca)])), (md, .inr (1, [.int (nI k), .ref mds, .int (nI nM), .long (lN EM)])), (mds, .inl (t 0, 40, .inl (pkA fM))), (P, .inr (1, [.int (nI k), .ref Ps, .int (nI nP), .long (lN EP)])), (Ps, .inl (t 0, 40, .inl (pkA fP)))]) H locs := wf_Bto (wf_l5 hT hMd hMds hMP hMPs).symm hB
  refine lv_iconst (v := nI 0) hx hb d_TM_keep_0 (by decide) ?_
  refine lv_istore_n (lv' := [(2, .int (nI 0)), (0, .ref tm), (1, .ref md)]) hx hb d_TM_keep_1 rfl hl (by decide) rfl (fun ls hl => ?_)
  refine c_TM_keep_L2 (l := l) X hN hO hT hMd hMds hMP hMPs hMs hkp hmq hPkq hPo hpo hnn hn hE (fun i hi hno he H locs ls hl hB => ?_) (kp - 0 + 1) 0 (by omega) (by intro j hj; omega) (by omega) H locs ls (lv_sub hl [1, 2, 0] rfl) hB
  refine lv_aload_n hx hb d_TM_keep_31 rfl (lv_at hl 0 rfl) ?_
  refine rgetL X hB hN 0 i_TM rfl cl_TM 12 (by decide) k_280 rfl rfl d_TM_keep_32 ?_
  refine lv_bipush (v := nI 60) hx hb d_TM_keep_35 (by decide) ?_
  refine wf_clt (tgt := 43) hx hb d_TM_keep_37 (by decide) (nI_toInt (by omega)) (nI_toInt (by omega)) (fun c_37 => ?_) (fun c_37 => ?_)
  · refine lv_aload_n hx hb d_TM_keep_43 rfl (lv_at hl 0 rfl) ?_
    refine rgetL X hB hN 0 i_TM rfl cl_TM 3 (by decide) k_271 rfl rfl d_TM_keep_44 ?_
    refine lv_aload_n hx hb d_TM_keep_47 rfl (lv_at hl 0 rfl) ?_
    refine rgetL X hB hN 0 i_TM rfl cl_TM 12 (by decide) k_280 rfl rfl d_TM_keep_48 ?_
    refine raald X hB  (wf_ro (w := w) (wl := [(tm, .inr (10, [.int (nI k), .ref co, .ref lt, .ref ms, .ref g, .ref md, .ref cd, .ref ru, .ref tu, .ref nb, .ref cm, .ref ta, .int (nI kp), .int (nI ca)])), (md, .inr (1, [.int (nI k), .ref mds, .int (nI nM), .long (lN EM)])), (mds, .inl (t 0, 40, .inl (pkA fM))), (P, .inr (1, [.int (nI k), .ref Ps, .int (nI nP), .long (lN EP)])), (Ps, .inl (t 0, 40, .inl (pkA fP)))]) hO 0 rfl hMs) (b := P) (by omega) (by decide) (by exact hPkq) d_TM_keep_51 ?_
    refine lv_aload_n hx hb d_TM_keep_52 rfl (lv_at hl 1 rfl) ?_
    refine callVv (As := [.ref md]) (rest := []) X hB wf_hA (c_Mac_copy (l := l) (D := D) (t := t) (w := (wf_l w [(tm, .inr (10, [.int (nI k), .ref co, .ref lt, .ref ms, .ref g, .ref md, .ref cd, .ref ru, .ref tu, .ref nb, .ref cm, .ref ta, .int (nI kp), .int (nI ca)])), (md, .inr (1, [.int (nI k), .ref mds, .int (nI nM), .long (lN EM)])), (mds, .inl (t 0, 40, .inl (pkA fM))), (P, .inr (1, [.int (nI k), .ref Ps, .int (nI nP), .long (lN EP)])), (Ps, .inl (t 0, 40, .inl (pkA fP)))])) (sz := H.size) (h := P) (hs := Ps) (k := k) (n := nP) (E := EP) (o := md) (os := mds) (k2 := k) (n2 := nM) (E2 := EM) (f := fP) (f2 := fM) (nd_sub hN [3, 4, 1, 2] rfl (by decide)) (wf_lg (w := w) (l := [(tm, .inr (10, [.int (nI k), .ref co, .ref lt, .ref ms, .ref g, .ref md, .ref cd, .ref ru, .ref tu, .ref nb, .ref cm, .ref ta, .int (nI kp), .int (nI ca)])), (md, .inr (1, [.int (nI k), .ref mds, .int (nI nM), .long (lN EM)])), (mds, .inl (t 0, 40, .inl (pkA fM))), (P, .inr (1, [.int (nI k), .ref Ps, .int (nI nP), .long (lN EP)])), (Ps, .inl (t 0, 40, .inl (pkA fP)))]) hN 3 rfl) (wf_lg (w := w) (l := [(tm, .inr (10, [.int (nI k), .ref co, .ref lt, .ref ms, .ref g, .ref md, .ref cd, .ref ru, .ref tu, .ref nb, .ref cm, .ref ta, .int (nI kp), .int (nI ca)])), (md, .inr (1, [.int (nI k), .ref mds, .int (nI nM), .long (lN EM)])), (mds, .inl (t 0, 40, .inl (pkA fM))), (P, .inr (1, [.int (nI k), .ref Ps, .int (nI nP), .long (lN EP)])), (Ps, .inl (t 0, 40, .inl (pkA fP)))]) hN 4 rfl) (wf_lg (w := w) (l := [(tm, .inr (10, [.int (nI k), .ref co, .ref lt, .ref ms, .ref g, .ref md, .ref cd, .ref ru, .ref tu, .ref nb, .ref cm, .ref ta, .int (nI kp), .int (nI ca)])), (md, .inr (1, [.int (nI k), .ref mds, .int (nI nM), .long (lN EM)])), (mds, .inl (t 0, 40, .inl (pkA fM))), (P, .inr (1, [.int (nI k), .ref Ps, .int (nI nP), .long (lN EP)])), (Ps, .inl (t 0, 40, .inl (pkA fP)))]) hN 1 rfl) (wf_lg (w := w) (l := [(tm, .inr (10, [.int (nI k), .ref co, .ref lt, .ref ms, .ref g, .ref md, .ref cd, .ref ru, .ref tu, .ref nb, .ref cm, .ref ta, .int (nI kp), .int (nI ca)])), (md, .inr (1, [.int (nI k), .ref mds, .int (nI nM), .long (lN EM)])), (mds, .inl (t 0, 40, .inl (pkA fM))), (P, .inr (1, [.int (nI k), .ref Ps, .int (nI nP), .long (lN EP)])), (Ps, .inl (t 0, 40, .inl (pkA fP)))]) hN 2 rfl)) k_539 k_540 k_541 k_67 k_542 (wf_lg (w := w) (l := [(tm, .inr (10, [.int (nI k), .ref co, .ref lt, .ref ms, .ref g, .ref md, .ref cd, .ref ru, .ref tu, .ref nb, .ref cm, .ref ta, .int (nI kp), .int (nI ca)])), (md, .inr (1, [.int (nI k), .ref mds, .int (nI nM), .long (lN EM)])), (mds, .inl (t 0, 40, .inl (pkA fM))), (P, .inr (1, [.int (nI k), .ref Ps, .int (nI nP), .long (lN EP)])), (Ps, .inl (t 0, 40, .inl (pkA fP)))]) hN 3 rfl) cl_Mac rfl hd_Mac_copy ⟨Nat.le_of_ble_eq_true rfl, Nat.le_of_ble_eq_true rfl⟩ ⟨Nat.le_of_ble_eq_true rfl, Nat.le_of_ble_eq_true rfl⟩ hl.1 (Nat.le_of_ble_eq_true rfl) d_TM_keep_53 rfl (fun w1 H locs hp hB => ?_)
    obtain ⟨g0_53, hg0_53, hw_53⟩ := hp
    have hB : wf_B D wcl (wf_A w s.heap.size) s.heap (wf_l w [(tm, .inr (10, [.int (nI k), .ref co, .ref lt, .ref ms, .ref g, .ref md, .ref cd, .ref ru, .ref tu, .ref nb, .ref cm, .ref ta, .int (nI kp), .int (nI ca)])), (md, .inr (1, [.int (nI k), .ref mds, .int (nI nM), .long (lN EM)])), (mds, .inl (t 0, 40, .inl (pkA fM))), (P, .inr (1, [.int (nI k), .ref Ps, .int (nI nM), .long (lN EM)])), (Ps, .inl (t 0, 40, .inl (pkA g0_53)))]) H locs := wf_Bto (hw_53.trans (wlw (L1 := [(tm, .inr (10, [.int (nI k), .ref co, .ref lt, .ref ms, .ref g, .ref md, .ref cd, .ref ru, .ref tu, .ref nb, .ref cm, .ref ta, .int (nI kp), .int (nI ca)])), (md, .inr (1, [.int (nI k), .ref mds, .int (nI nM), .long (lN EM)])), (mds, .inl (t 0, 40, .inl (pkA fM))), (P, .inr (1, [.int (nI k), .ref Ps, .int (nI nM), .long (lN EM)])), (Ps, .inl (t 0, 40, .inl (pkA fP)))]) hN 3 rfl rfl (wlw (L1 := [(tm, .inr (10, [.int (nI k), .ref co, .ref lt, .ref ms, .ref g, .ref md, .ref cd, .ref ru, .ref tu, .ref nb, .ref cm, .ref ta, .int (nI kp), .int (nI ca)])), (md, .inr (1, [.int (nI k), .ref mds, .int (nI nM), .long (lN EM)])), (mds, .inl (t 0, 40, .inl (pkA fM))), (P, .inr (1, [.int (nI k), .ref Ps, .int (nI nM), .long (lN EM)])), (Ps, .inl (t 0, 40, .inl (pkA g0_53)))]) hN 4 rfl rfl (wlw (L1 := [(tm, .inr (10, [.int (nI k), .ref co, .ref lt, .ref ms, .ref g, .ref md, .ref cd, .ref ru, .ref tu, .ref nb, .ref cm, .ref ta, .int (nI kp), .int (nI ca)])), (md, .inr (1, [.int (nI k), .ref mds, .int (nI nM), .long (lN EM)])), (mds, .inl (t 0, 40, .inl (pkA fM))), (P, .inr (1, [.int (nI k), .ref Ps, .int (nI nM), .long (lN EM)])), (Ps, .inl (t 0, 40, .inl (pkA g0_53)))]) hN 1 rfl rfl (wlw (L1 := [(tm, .inr (10, [.int (nI k), .ref co, .ref lt, .ref ms, .ref g, .ref md, .ref cd, .ref ru, .ref tu, .ref nb, .ref cm, .ref ta, .int (nI kp), .int (nI ca)])), (md, .inr (1, [.int (nI k), .ref mds, .int (nI nM), .long (lN EM)])), (mds, .inl (t 0, 40, .inl (pkA fM))), (P, .inr (1, [.int (nI k), .ref Ps, .int (nI nM), .long (lN EM)])), (Ps, .inl (t 0, 40, .inl (pkA g0_53)))]) hN 2 rfl rfl rfl))))) hB
    refine lv_aload_n hx hb d_TM_keep_56 rfl (lv_at hl 0 rfl) ?_
    refine lv_dup hx hb d_TM_keep_57 rfl ?_
    refine rgetL X hB hN 0 i_TM rfl cl_TM 12 (by decide) k_280 rfl rfl d_TM_keep_58 ?_
    refine lv_iconst (v := nI 1) hx hb d_TM_keep_61 (by decide) ?_
    refine wf_iadd (x := kp) (y := 1) hx hb d_TM_keep_62 ?_
    refine rput X hB hN 0 (wl' := [(tm, .inr (10, [.int (nI k), .ref co, .ref lt, .ref ms, .ref g, .ref md, .ref cd, .ref ru, .ref tu, .ref nb, .ref cm, .ref ta, .int (nI (kp + 1)), .int (nI ca)])), (md, .inr (1, [.int (nI k), .ref mds, .int (nI nM), .long (lN EM)])), (mds, .inl (t 0, 40, .inl (pkA fM))), (P, .inr (1, [.int (nI k), .ref Ps, .int (nI nM), .long (lN EM)])), (Ps, .inl (t 0, 40, .inl (pkA g0_53)))]) i_TM t_TM_ok n_TM rfl cl_TM 12 (by decide) k_280 rfl rfl rfl rfl (Nat.le_of_ble_eq_true rfl) d_TM_keep_63 rfl (fun H locs hB => ?_)
    refine lv_aload_n hx hb d_TM_keep_66 rfl (lv_at hl 0 rfl) ?_
    refine rgetL X hB hN 0 i_TM rfl cl_TM 12 (by decide) k_280 rfl rfl d_TM_keep_67 ?_
    refine lv_iconst (v := nI 1) hx hb d_TM_keep_70 (by decide) ?_
    refine wf_isub (x := kp + 1) (y := 1) hx hb d_TM_keep_71 (by omega) ?_
    refine wf_ti (y := nI kp) (by rw [Nat.add_sub_cancel]) ?_
    refine ret_i X hB d_TM_keep_72 ?_
    subst he
    exact Or.inr ⟨g0_53, hg0_53, hno, rfl, rfl⟩
  · exact absurd c_37 (by omega)
set_option maxHeartbeats 4000000 in
set_option maxRecDepth 100000 in
theorem c_TM_keepF_L2 {l : Launch} {D : va_G} {t : Nat → ClassId} {w : wf_W} {tm k co lt ms g md cd ru tu nb cm ta kp ca : Nat} {mds nM EM : Nat} {fM : Nat → Int32} {mq : Nat → Option Nat} {pa sa nn EE : Nat → Nat} {ff : Nat → Nat → Int32}  {p : Program} {e : Env} {s : State} {m : MethodId} {below : List Frame} {meth : Method} {c : Code} (X : Cx p s m meth c R_TM "keep" b_TM_keep 3 (some .int) D t) (hN : nd [tm, md, mds]) (hO : apart [ms] [tm, md, mds]) (hT : w tm = some (.inr (10, [.int (nI k), .ref co, .ref lt, .ref ms, .ref g, .ref md, .ref cd, .ref ru, .ref tu, .ref nb, .ref cm, .ref ta, .int (nI kp), .int (nI ca)]))) (hMd : w md = some (.inr (1, [.int (nI k), .ref mds, .int (nI nM), .long (lN EM)]))) (hMds : w mds = some (.inl (t 0, 40, .inl (pkA fM)))) (hMs : w ms = some (.inl (t 3, 60, .inr (.inr (.inr (.inr mq)))))) (hkp : kp = 60) (hmq : ∀ i, i < kp → mq i = some (pa i)) (hPo : pool t w pa sa k kp nn EE ff) (hpo : papart pa sa kp [tm, md, mds]) (hnn : ∀ i, i < kp → nn i ≤ 40 ∧ EE i < 2 ^ 40) (hn : nM ≤ 40) (hE : EM < 2 ^ 40)
    (K_31 : ∀ (i : Nat), (i ≤ kp) → (∀ j, j < i → ¬ sam (nn j) (EE j) (ff j) nM EM fM) → (i = kp) → ∀ (H : Heap) (locs : List Loc) (ls : Array Slot), lv_has ls 3 [(0, .ref tm), (1, .ref md), (2, .int (nI i))] → wf_B D wcl (wf_A w s.heap.size) s.heap (wf_l w [(tm, .inr (10, [.int (nI k), .ref co, .ref lt, .ref ms, .ref g, .ref md, .ref cd, .ref ru, .ref tu, .ref nb, .ref cm, .ref ta, .int (nI kp), .int (nI ca)])), (md, .inr (1, [.int (nI k), .ref mds, .int (nI nM), .long (lN EM)])), (mds, .inl (t 0, 40, .inl (pkA fM)))]) H locs → W p l e (rmk 1 22 0 0) s m [.ref tm, .ref md].toArray below meth c H locs 0 0 (MQ below (wf_Qi D wcl w (fun r w' => (∃ i0 : Nat, (i0 < kp ∧ sam (nn i0) (EE i0) (ff i0) nM EM fM ∧ ∀ j, j < i0 → ¬ sam (nn j) (EE j) (ff j) nM EM fM) ∧ r = (nI i0) ∧ w' = wf_l w [(tm, .inr (10, [.int (nI k), .ref co, .ref lt, .ref ms, .ref g, .ref md, .ref cd, .ref ru, .ref tu, .ref nb, .ref cm, .ref ta, .int (nI kp), .int (nI ca)])), (md, .inr (1, [.int (nI k), .ref mds, .int (nI nM), .long (lN EM)])), (mds, .inl (t 0, 40, .inl (pkA fM)))]) ∨ ((∀ j, j < kp → ¬ sam (nn j) (EE j) (ff j) nM EM fM) ∧ r = (-3) ∧ w' = wf_l w [(tm, .inr (10, [.int (nI k), .ref co, .ref lt, .ref ms, .ref g, .ref md, .ref cd, .ref ru, .ref tu, .ref nb, .ref cm, .ref ta, .int (nI kp), .int (nI ca)])), (md, .inr (1, [.int (nI k), .ref mds, .int (nI nM), .long (lN EM)])), (mds, .inl (t 0, 40, .inl (pkA fM)))])) s.heap.size) [.ref tm, .ref md].toArray s 0 0 (wf_A w s.heap.size)) (F0 m 31 ls [])) :
    ∀ (fu : Nat) (i : Nat), (i ≤ kp) → (∀ j, j < i → ¬ sam (nn j) (EE j) (ff j) nM EM fM) → kp - i < fu → ∀ (H : Heap) (locs : List Loc) (ls : Array Slot), lv_has ls 3 [(0, .ref tm), (1, .ref md), (2, .int (nI i))] → wf_B D wcl (wf_A w s.heap.size) s.heap (wf_l w [(tm, .inr (10, [.int (nI k), .ref co, .ref lt, .ref ms, .ref g, .ref md, .ref cd, .ref ru, .ref tu, .ref nb, .ref cm, .ref ta, .int (nI kp), .int (nI ca)])), (md, .inr (1, [.int (nI k), .ref mds, .int (nI nM), .long (lN EM)])), (mds, .inl (t 0, 40, .inl (pkA fM)))]) H locs → W p l e (rmk 1 22 0 0) s m [.ref tm, .ref md].toArray below meth c H locs 0 0 (MQ below (wf_Qi D wcl w (fun r w' => (∃ i0 : Nat, (i0 < kp ∧ sam (nn i0) (EE i0) (ff i0) nM EM fM ∧ ∀ j, j < i0 → ¬ sam (nn j) (EE j) (ff j) nM EM fM) ∧ r = (nI i0) ∧ w' = wf_l w [(tm, .inr (10, [.int (nI k), .ref co, .ref lt, .ref ms, .ref g, .ref md, .ref cd, .ref ru, .ref tu, .ref nb, .ref cm, .ref ta, .int (nI kp), .int (nI ca)])), (md, .inr (1, [.int (nI k), .ref mds, .int (nI nM), .long (lN EM)])), (mds, .inl (t 0, 40, .inl (pkA fM)))]) ∨ ((∀ j, j < kp → ¬ sam (nn j) (EE j) (ff j) nM EM fM) ∧ r = (-3) ∧ w' = wf_l w [(tm, .inr (10, [.int (nI k), .ref co, .ref lt, .ref ms, .ref g, .ref md, .ref cd, .ref ru, .ref tu, .ref nb, .ref cm, .ref ta, .int (nI kp), .int (nI ca)])), (md, .inr (1, [.int (nI k), .ref mds, .int (nI nM), .long (lN EM)])), (mds, .inl (t 0, 40, .inl (pkA fM)))])) s.heap.size) [.ref tm, .ref md].toArray s 0 0 (wf_A w s.heap.size)) (F0 m 2 ls []) := by
  have hx := X.1
  have hb := X.2.1
  intro fu
  induction fu with
  | zero => intro i hi hno hfu; exact absurd hfu (Nat.not_lt_zero _)
  | succ fu ih =>
    intro i hi hno hfu H locs ls hl hB
    refine lv_iload_n hx hb d_TM_keep_2 rfl (lv_at hl 2 rfl) ?_
    refine lv_aload_n hx hb d_TM_keep_3 rfl (lv_at hl 0 rfl) ?_
    refine rgetL X hB hN 0 i_TM rfl cl_TM 12 (by decide) k_280 rfl rfl d_TM_keep_4 ?_
    refine wf_cge (tgt := 31) hx hb d_TM_keep_7 (by decide) (nI_toInt (by omega)) (nI_toInt (by omega)) (fun c_7 => ?_) (fun c_7 => ?_)
    · exact K_31 i hi hno (by omega) H locs ls (lv_sub hl [0, 1, 2] rfl) hB
    · refine lv_aload_n hx hb d_TM_keep_10 rfl (lv_at hl 0 rfl) ?_
      refine rgetL X hB hN 0 i_TM rfl cl_TM 3 (by decide) k_271 rfl rfl d_TM_keep_11 ?_
      refine lv_iload_n hx hb d_TM_keep_14 rfl (lv_at hl 2 rfl) ?_
      refine raald X hB  (wf_ro (w := w) (wl := [(tm, .inr (10, [.int (nI k), .ref co, .ref lt, .ref ms, .ref g, .ref md, .ref cd, .ref ru, .ref tu, .ref nb, .ref cm, .ref ta, .int (nI kp), .int (nI ca)])), (md, .inr (1, [.int (nI k), .ref mds, .int (nI nM), .long (lN EM)])), (mds, .inl (t 0, 40, .inl (pkA fM)))]) hO 0 rfl hMs) (b := pa i) (by omega) (by decide) (by exact hmq i (by omega)) d_TM_keep_15 ?_
      refine lv_aload_n hx hb d_TM_keep_16 rfl (lv_at hl 1 rfl) ?_
      refine callVi (As := [.ref md]) (rest := []) X hB wf_hA (c_Mac_isSame (l := l) (D := D) (t := t) (w := (wf_l w [(tm, .inr (10, [.int (nI k), .ref co, .ref lt, .ref ms, .ref g, .ref md, .ref cd, .ref ru, .ref tu, .ref nb, .ref cm, .ref ta, .int (nI kp), .int (nI ca)])), (md, .inr (1, [.int (nI k), .ref mds, .int (nI nM), .long (lN EM)])), (mds, .inl (t 0, 40, .inl (pkA fM)))])) (sz := H.size) (h := pa i) (hs := sa i) (k := k) (n := nn i) (E := EE i) (o := md) (os := mds) (k2 := k) (n2 := nM) (E2 := EM) (f := (ff i)) (f2 := fM) (pool_l (wl := [(tm, .inr (10, [.int (nI k), .ref co, .ref lt, .ref ms, .ref g, .ref md, .ref cd, .ref ru, .ref tu, .ref nb, .ref cm, .ref ta, .int (nI kp), .int (nI ca)])), (md, .inr (1, [.int (nI k), .ref mds, .int (nI nM), .long (lN EM)])), (mds, .inl (t 0, 40, .inl (pkA fM)))]) hPo hpo i (by omega)).1 (pool_l (wl := [(tm, .inr (10, [.int (nI k), .ref co, .ref lt, .ref ms, .ref g, .ref md, .ref cd, .ref ru, .ref tu, .ref nb, .ref cm, .ref ta, .int (nI kp), .int (nI ca)])), (md, .inr (1, [.int (nI k), .ref mds, .int (nI nM), .long (lN EM)])), (mds, .inl (t 0, 40, .inl (pkA fM)))]) hPo hpo i (by omega)).2 (wf_lg (w := w) (l := [(tm, .inr (10, [.int (nI k), .ref co, .ref lt, .ref ms, .ref g, .ref md, .ref cd, .ref ru, .ref tu, .ref nb, .ref cm, .ref ta, .int (nI kp), .int (nI ca)])), (md, .inr (1, [.int (nI k), .ref mds, .int (nI nM), .long (lN EM)])), (mds, .inl (t 0, 40, .inl (pkA fM)))]) hN 1 rfl) (wf_lg (w := w) (l := [(tm, .inr (10, [.int (nI k), .ref co, .ref lt, .ref ms, .ref g, .ref md, .ref cd, .ref ru, .ref tu, .ref nb, .ref cm, .ref ta, .int (nI kp), .int (nI ca)])), (md, .inr (1, [.int (nI k), .ref mds, .int (nI nM), .long (lN EM)])), (mds, .inl (t 0, 40, .inl (pkA fM)))]) hN 2 rfl) (by exact (hnn i (by omega)).1) (by exact hn) (by exact (hnn i (by omega)).2) (by exact hE)) k_535 k_536 k_537 k_67 k_538 (pool_l (wl := [(tm, .inr (10, [.int (nI k), .ref co, .ref lt, .ref ms, .ref g, .ref md, .ref cd, .ref ru, .ref tu, .ref nb, .ref cm, .ref ta, .int (nI kp), .int (nI ca)])), (md, .inr (1, [.int (nI k), .ref mds, .int (nI nM), .long (lN EM)])), (mds, .inl (t 0, 40, .inl (pkA fM)))]) hPo hpo i (by omega)).1 cl_Mac rfl hd_Mac_isSame ⟨Nat.le_of_ble_eq_true rfl, Nat.le_of_ble_eq_true rfl⟩ ⟨Nat.le_of_ble_eq_true rfl, Nat.le_of_ble_eq_true rfl⟩ hl.1 (Nat.le_of_ble_eq_true rfl) d_TM_keep_17 rfl (fun r_17 w1 H locs hp hB => ?_)
      rcases hp with ⟨hy_17, rfl, hw_17⟩ | ⟨hy_17, rfl, hw_17⟩
      · have hB : wf_B D wcl (wf_A w s.heap.size) s.heap (wf_l w [(tm, .inr (10, [.int (nI k), .ref co, .ref lt, .ref ms, .ref g, .ref md, .ref cd, .ref ru, .ref tu, .ref nb, .ref cm, .ref ta, .int (nI kp), .int (nI ca)])), (md, .inr (1, [.int (nI k), .ref mds, .int (nI nM), .long (lN EM)])), (mds, .inl (t 0, 40, .inl (pkA fM)))]) H locs := wf_Bto hw_17 hB
        refine wf_beq (tgt := 25) hx hb d_TM_keep_20 (by decide) (fun c9 => absurd c9 (by decide)) (fun _ => ?_)
        refine lv_iload_n hx hb d_TM_keep_23 rfl (lv_at hl 2 rfl) ?_
        refine ret_i X hB d_TM_keep_24 ?_
        exact Or.inl ⟨i, ⟨by omega, hy_17, hno⟩, rfl, rfl⟩
      · have hB : wf_B D wcl (wf_A w s.heap.size) s.heap (wf_l w [(tm, .inr (10, [.int (nI k), .ref co, .ref lt, .ref ms, .ref g, .ref md, .ref cd, .ref ru, .ref tu, .ref nb, .ref cm, .ref ta, .int (nI kp), .int (nI ca)])), (md, .inr (1, [.int (nI k), .ref mds, .int (nI nM), .long (lN EM)])), (mds, .inl (t 0, 40, .inl (pkA fM)))]) H locs := wf_Bto hw_17 hB
        refine wf_beq (tgt := 25) hx hb d_TM_keep_20 (by decide) (fun _ => ?_) (fun c9 => absurd c9 (by decide))
        refine lv_iinc (v := nI (i + 1)) (lv' := [(2, .int (nI (i + 1))), (0, .ref tm), (1, .ref md)]) hx hb d_TM_keep_25 hl (k := 2) rfl (show nI i + nI 1 = nI (i + 1) from nI_add _ _) (by decide) rfl (fun ls hl => ?_)
        refine lv_goto (tgt := 2) hx hb d_TM_keep_28 (by decide) ?_
        exact ih (i + 1) (by omega) (by intro j hj; by_cases e9 : j = i; (rw [e9]; exact hy_17); exact hno j (by omega)) (by omega) H locs ls (lv_sub hl [1, 2, 0] rfl) hB
set_option maxHeartbeats 4000000 in
set_option maxRecDepth 100000 in
theorem c_TM_keepF {l : Launch} {D : va_G} {t : Nat → ClassId} {w : wf_W} {sz : Nat} {tm k co lt ms g md cd ru tu nb cm ta kp ca : Nat} {mds nM EM : Nat} {fM : Nat → Int32} {mq : Nat → Option Nat} {pa sa nn EE : Nat → Nat} {ff : Nat → Nat → Int32} (hN : nd [tm, md, mds]) (hO : apart [ms] [tm, md, mds]) (hT : w tm = some (.inr (10, [.int (nI k), .ref co, .ref lt, .ref ms, .ref g, .ref md, .ref cd, .ref ru, .ref tu, .ref nb, .ref cm, .ref ta, .int (nI kp), .int (nI ca)]))) (hMd : w md = some (.inr (1, [.int (nI k), .ref mds, .int (nI nM), .long (lN EM)]))) (hMds : w mds = some (.inl (t 0, 40, .inl (pkA fM)))) (hMs : w ms = some (.inl (t 3, 60, .inr (.inr (.inr (.inr mq)))))) (hkp : kp = 60) (hmq : ∀ i, i < kp → mq i = some (pa i)) (hPo : pool t w pa sa k kp nn EE ff) (hpo : papart pa sa kp [tm, md, mds]) (hnn : ∀ i, i < kp → nn i ≤ 40 ∧ EE i < 2 ^ 40) (hn : nM ≤ 40) (hE : EM < 2 ^ 40) : Mi l y_TM_keep b_TM_keep 3 (some .int) 1 22 0 0 D t w sz [.ref tm, .ref md] (fun r w' => (∃ i0 : Nat, (i0 < kp ∧ sam (nn i0) (EE i0) (ff i0) nM EM fM ∧ ∀ j, j < i0 → ¬ sam (nn j) (EE j) (ff j) nM EM fM) ∧ r = (nI i0) ∧ w' = wf_l w [(tm, .inr (10, [.int (nI k), .ref co, .ref lt, .ref ms, .ref g, .ref md, .ref cd, .ref ru, .ref tu, .ref nb, .ref cm, .ref ta, .int (nI kp), .int (nI ca)])), (md, .inr (1, [.int (nI k), .ref mds, .int (nI nM), .long (lN EM)])), (mds, .inl (t 0, 40, .inl (pkA fM)))]) ∨ ((∀ j, j < kp → ¬ sam (nn j) (EE j) (ff j) nM EM fM) ∧ r = (-3) ∧ w' = wf_l w [(tm, .inr (10, [.int (nI k), .ref co, .ref lt, .ref ms, .ref g, .ref md, .ref cd, .ref ru, .ref tu, .ref nb, .ref cm, .ref ta, .int (nI kp), .int (nI ca)])), (md, .inr (1, [.int (nI k), .ref mds, .int (nI nM), .long (lN EM)])), (mds, .inl (t 0, 40, .inl (pkA fM)))])) := by
  refine start_i (by decide) (Nat.le_of_ble_eq_true rfl) ?_
  intro p e s m below meth c ls H locs X hB hl
  have hx := X.1
  have hb := X.2.1
  have hl : lv_has ls 3 [(0, .ref tm), (1, .ref md)] := hl
  have hB : wf_B D wcl (wf_A w s.heap.size) s.heap (wf_l w [(tm, .inr (10, [.int (nI k), .ref co, .ref lt, .ref ms, .ref g, .ref md, .ref cd, .ref ru, .ref tu, .ref nb, .ref cm, .ref ta, .int (nI kp), .int (nI ca)])), (md, .inr (1, [.int (nI k), .ref mds, .int (nI nM), .long (lN EM)])), (mds, .inl (t 0, 40, .inl (pkA fM)))]) H locs := wf_Bto (wf_l3 hT hMd hMds).symm hB
  refine lv_iconst (v := nI 0) hx hb d_TM_keep_0 (by decide) ?_
  refine lv_istore_n (lv' := [(2, .int (nI 0)), (0, .ref tm), (1, .ref md)]) hx hb d_TM_keep_1 rfl hl (by decide) rfl (fun ls hl => ?_)
  refine c_TM_keepF_L2 (l := l) X hN hO hT hMd hMds hMs hkp hmq hPo hpo hnn hn hE (fun i hi hno he H locs ls hl hB => ?_) (kp - 0 + 1) 0 (by omega) (by intro j hj; omega) (by omega) H locs ls (lv_sub hl [1, 2, 0] rfl) hB
  refine lv_aload_n hx hb d_TM_keep_31 rfl (lv_at hl 0 rfl) ?_
  refine rgetL X hB hN 0 i_TM rfl cl_TM 12 (by decide) k_280 rfl rfl d_TM_keep_32 ?_
  refine lv_bipush (v := nI 60) hx hb d_TM_keep_35 (by decide) ?_
  refine wf_clt (tgt := 43) hx hb d_TM_keep_37 (by decide) (nI_toInt (by omega)) (nI_toInt (by omega)) (fun c_37 => ?_) (fun c_37 => ?_)
  · exact absurd c_37 (by omega)
  · refine lv_bipush (v := (-3)) hx hb d_TM_keep_40 (by decide) ?_
    refine ret_i X hB d_TM_keep_42 ?_
    subst he
    exact Or.inr ⟨hno, rfl, rfl⟩
