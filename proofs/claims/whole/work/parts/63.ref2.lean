theorem rOK_m {k n E : Nat} {st : Nat → Nat → Nat} (h : rOK k n E st) : mOK k n E (fun j => nI (if j % 4 < k then st (j / 4) (j % 4) else 0)) st := by
  refine ⟨h.1, h.2.1, h.2.2.1, h.2.2.2.1, fun s a hs ha => ?_, fun s a hs ha ha4 => ?_⟩
  · have h1 := h.1
    dsimp only
    rw [show (s * 4 + a) % 4 = a by omega, show (s * 4 + a) / 4 = s by omega, if_pos ha]
    exact ⟨rfl, h.2.2.2.2 s a hs ha⟩
  · dsimp only
    rw [show (s * 4 + a) % 4 = a by omega, if_neg (by omega)]
theorem stp_in {k n u b : Nat} {st : Nat → Nat → Nat} (hu : u < n) (hb : b < k) : stp k n st u b = st u b := by rw [stp, if_pos ⟨hu, hb⟩]
/-- what may be added by x alone, so many times -/
def wit (k n : Nat) (st : Nat → Nat → Nat) (x S : Nat) : Nat → Nat
  | 0 => S
  | i + 1 => wit k n st x S i ||| aft (stp k n st) (wit k n st x S i) x n
theorem wit_lt {k n E : Nat} {f : Nat → Int32} {st : Nat → Nat → Nat} (hm : mOK k n E f st) {x S : Nat} (hS : S < 2 ^ 40) : ∀ i, wit k n st x S i < 2 ^ 40
  | 0 => hS
  | i + 1 => Nat.or_lt_two_pow (wit_lt hm hS i) (aft_lt hm _ _ _)
theorem or_ge {a b : Nat} : a ≤ a ||| b := Nat.left_le_or
def alI (LO : Nat → Nat) (S u T : Nat) : Nat → Nat
  | 0 => T
  | q + 1 => if S.testBit q = true ∧ LO q = LO u then alI LO S u T q ||| 2 ^ u else alI LO S u T q
def alk (LO : Nat → Nat) (S n : Nat) : Nat → Nat
  | 0 => 0
  | u + 1 => alI LO S u (alk LO S n u) n
theorem alI_lt {LO : Nat → Nat} {S u T : Nat} (hu : u < 40) (hT : T < 2 ^ 40) : ∀ q, alI LO S u T q < 2 ^ 40
  | 0 => hT
  | q + 1 => by
    have ih := alI_lt (LO := LO) (S := S) hu hT q
    rw [alI]
    split
    · exact Nat.or_lt_two_pow ih (Nat.pow_lt_pow_right (by decide) hu)
    · exact ih
theorem alk_lt {LO : Nat → Nat} {S n : Nat} : ∀ u, u ≤ 40 → alk LO S n u < 2 ^ 40
  | 0, _ => by simp [alk]
  | u + 1, h => alI_lt (by omega) (alk_lt u (by omega)) n
def smL (LO : Nat → Nat) (st : Nat → Nat → Nat) (k u v : Nat) : Prop := LO u = LO v ∧ ∀ b, b < k → LO (st u b) = LO (st v b)
theorem eqv_sy {k : Nat} {d : Nat → Nat → Nat} {Z : Nat → Bool} {i p q : Nat} (h : eqv k d Z i p q) : eqv k d Z i q p := fun u hu hl => (h u hu hl).symm
theorem eqv_tr {k : Nat} {d : Nat → Nat → Nat} {Z : Nat → Bool} {i p q r : Nat} (h : eqv k d Z i p q) (h' : eqv k d Z i q r) : eqv k d Z i p r := fun u hu hl => (h u hu hl).trans (h' u hu hl)
set_option maxHeartbeats 4000000 in
set_option maxRecDepth 100000 in
theorem c_Ref_step_L6 {l : Launch} {D : va_G} {t : Nat → ClassId} {w : wf_W} {mo az an ae ac ato aps apt al aip alo alt aic arw aco act asp anu aor ann ald ahd acn ais aq acf acb aw k mn cz tz ca pz wy fi se ho lx ly ts tS cs av lz hz1 nl nh ce qd : Nat} {Sz Nx En : Nat → Nat} {a S b : Nat}  {p : Program} {e : Env} {s : State} {m : MethodId} {below : List Frame} {meth : Method} {c : Code} {Q : State → Prop} (X : Cx p s m meth c R_Ref "step" b_Ref_step 8 (some .long) D t) (hMo : w mo = some (rfO k mn az an ae ac cz ato tz ca aps apt al aip pz wy fi se ho lx ly ts tS alo alt aic arw aco act asp cs anu aor ann av ald ahd lz hz1 nl nh acn ce ais aq acf acb qd aw)) (h_az : w az = some (.inl (t 0, 60, .inl (iA Sz)))) (h_an : w an = some (.inl (t 0, 9600, .inl (iA Nx)))) (hm : rOK k (Sz a) (En a) (nxt Nx a)) (ha6 : a < 60) (hS : S < 2 ^ 64) (hbk : b < k)
    (K_50 : ∀ (i : Nat), (i ≤ Sz a) → (i = Sz a) → ∀ (H : Heap) (locs : List Loc) (ls : Array Slot), lv_has ls 8 [(0, .ref mo), (1, .int (nI a)), (2, .long (lN S)), (4, .int (nI b)), (5, .long (lN (aft (stp k (Sz a) (nxt Nx a)) S b i))), (7, .int (nI i))] → wf_B D wcl (wf_A w s.heap.size) s.heap w H locs → W p l e (rmk 1 23 0 0) s m [.ref mo, .int (nI a), .long (lN S), .int (nI b)].toArray below meth c H locs 0 0 Q (F0 m 50 ls [])) :
    ∀ (fu : Nat) (i : Nat), (i ≤ Sz a) → Sz a - i < fu → ∀ (H : Heap) (locs : List Loc) (ls : Array Slot), lv_has ls 8 [(0, .ref mo), (1, .int (nI a)), (2, .long (lN S)), (4, .int (nI b)), (5, .long (lN (aft (stp k (Sz a) (nxt Nx a)) S b i))), (7, .int (nI i))] → wf_B D wcl (wf_A w s.heap.size) s.heap w H locs → W p l e (rmk 1 23 0 0) s m [.ref mo, .int (nI a), .long (lN S), .int (nI b)].toArray below meth c H locs 0 0 Q (F0 m 6 ls []) := by
  have hx := X.1
  have hb := X.2.1
  intro fu
  induction fu with
  | zero => intro i hi hfu; exact absurd hfu (Nat.not_lt_zero _)
  | succ fu ih =>
    intro i hi hfu H locs ls hl hB
    have hM := rOK_m hm
    have hk := hm.1
    have hn := hm.2.1
    have hn0 := hm.2.2.1
    have hE := hm.E40
    refine lv_iload hx hb d_Ref_step_6 (lv_at hl 5 rfl) ?_
    refine lv_aload_n hx hb d_Ref_step_8 rfl (lv_at hl 0 rfl) ?_
    refine rget X hB  i_Ref hMo cl_Ref 2 (by decide) k_876 rfl rfl d_Ref_step_9 ?_
    refine lv_iload_n hx hb d_Ref_step_12 rfl (lv_at hl 1 rfl) ?_
    refine riald X hB  h_az (i := a) (by omega) (by decide) d_Ref_step_13 ?_
    refine wf_ti (y := nI (Sz a)) rfl ?_
    refine wf_cge (tgt := 50) hx hb d_Ref_step_14 (by decide) (nI_toInt (by omega)) (nI_toInt (by omega)) (fun c_14 => ?_) (fun c_14 => ?_)
    · exact K_50 i hi (by omega) H locs ls (lv_sub hl [0, 1, 2, 3, 4, 5] rfl) hB
    · refine lv_lload_n hx hb d_Ref_step_17 rfl (lv_at hl 2 rfl) ?_
      refine lv_iload hx hb d_Ref_step_18 (lv_at hl 5 rfl) ?_
      refine lv_lshr hx hb d_Ref_step_20 rfl ?_
      refine lv_lconst (v := lN 1) hx hb d_Ref_step_21 (by decide) ?_
      refine lv_land hx hb d_Ref_step_22 ?_
      refine wf_tl (y := lN ((Nat.testBit S i).toNat)) (by exact wb_sbit (by omega) (by omega)) ?_
      refine lv_lconst (v := lN 1) hx hb d_Ref_step_23 (by decide) ?_
      refine W.lcmp hx hb d_Ref_step_24 ?_
      refine wf_lne (tgt := 44) hx hb d_Ref_step_25 (by decide) (pk_lT (by cases Nat.testBit S i <;> decide)) (pk_lT (by decide)) (fun c_25 => ?_) (fun c_25 => ?_)
      · have hl : lv_has ls 8 [(0, .ref mo), (1, .int (nI a)), (2, .long (lN S)), (4, .int (nI b)), (5, .long (lN (aft (stp k (Sz a) (nxt Nx a)) S b (i + 1)))), (7, .int (nI i))] := by rw [aft, if_neg (by intro q9; rw [q9] at c_25; exact c_25 rfl)]; exact hl
        refine lv_iinc (v := nI (i + 1)) (lv' := [(7, .int (nI (i + 1))), (0, .ref mo), (1, .int (nI a)), (2, .long (lN S)), (4, .int (nI b)), (5, .long (lN (aft (stp k (Sz a) (nxt Nx a)) S b (i + 1))))]) hx hb d_Ref_step_44 hl (k := 5) rfl (show nI i + nI 1 = nI (i + 1) from nI_add _ _) (by decide) rfl (fun ls hl => ?_)
        refine lv_goto (tgt := 6) hx hb d_Ref_step_47 (by decide) ?_
        exact ih (i + 1) (by omega) (by omega) H locs ls (lv_sub hl [1, 2, 3, 4, 5, 0] rfl) hB
      · refine lv_lload hx hb d_Ref_step_28 (lv_at hl 4 rfl) ?_
        refine lv_lconst (v := lN 1) hx hb d_Ref_step_30 (by decide) ?_
        refine lv_aload_n hx hb d_Ref_step_31 rfl (lv_at hl 0 rfl) ?_
        refine lv_iload_n hx hb d_Ref_step_32 rfl (lv_at hl 1 rfl) ?_
        refine lv_iload hx hb d_Ref_step_33 (lv_at hl 5 rfl) ?_
        refine lv_iload hx hb d_Ref_step_35 (lv_at hl 3 rfl) ?_
        refine callVi (As := [.int (nI a), .int (nI i), .int (nI b)]) (rest := [.long (lN 1), .long (lN (aft (stp k (Sz a) (nxt Nx a)) S b i))]) X hB wf_hA (c_Ref_nextOf (l := l) (D := D) (t := t) (w := w) (sz := H.size) (mo := mo) (az := az) (an := an) (ae := ae) (ac := ac) (ato := ato) (aps := aps) (apt := apt) (al := al) (aip := aip) (alo := alo) (alt := alt) (aic := aic) (arw := arw) (aco := aco) (act := act) (asp := asp) (anu := anu) (aor := aor) (ann := ann) (ald := ald) (ahd := ahd) (acn := acn) (ais := ais) (aq := aq) (acf := acf) (acb := acb) (aw := aw) (k := k) (mn := mn) (cz := cz) (tz := tz) (ca := ca) (pz := pz) (wy := wy) (fi := fi) (se := se) (ho := ho) (lx := lx) (ly := ly) (ts := ts) (tS := tS) (cs := cs) (av := av) (lz := lz) (hz1 := hz1) (nl := nl) (nh := nh) (ce := ce) (qd := qd) (Nx := Nx) (a := a) (u := i) (b := b) hMo h_an (by exact ha6) (by omega) (by omega)) k_1070 k_1072 k_41 k_75 k_1073 hMo cl_Ref rfl hd_Ref_nextOf ⟨Nat.le_of_ble_eq_true rfl, Nat.le_of_ble_eq_true rfl⟩ ⟨Nat.le_of_ble_eq_true rfl, Nat.le_of_ble_eq_true rfl⟩ hl.1 (Nat.le_of_ble_eq_true rfl) d_Ref_step_37 rfl (fun r_37 w1 H locs hp hB => ?_)
        obtain ⟨rfl, hw_37⟩ := hp
        have hB : wf_B D wcl (wf_A w s.heap.size) s.heap w H locs := wf_Bto hw_37 hB
        refine wf_ti (y := nI (stp k (Sz a) (nxt Nx a) i b)) (by rw [stp_in (by omega) (by omega)]) ?_
        refine lv_lshl (v := lN (1 * 2 ^ (stp k (Sz a) (nxt Nx a) i b))) hx hb d_Ref_step_40 (wb_shl _ (by have := stp_lt hM i b; omega)) ?_
        refine wf_tl (y := lN (2 ^ stp k (Sz a) (nxt Nx a) i b)) (by rw [Nat.one_mul]) ?_
        refine lv_lor hx hb d_Ref_step_41 ?_
        refine wf_tl (y := lN ((aft (stp k (Sz a) (nxt Nx a)) S b i) ||| (2 ^ stp k (Sz a) (nxt Nx a) i b))) (wb_or (by have := aft_lt hM S b i; omega) (by have := stp_lt hM i b; have := Nat.pow_lt_pow_right (a := 2) (by decide) (show stp k (Sz a) (nxt Nx a) i b < 64 by omega); exact this)) ?_
        refine wf_tl (y := lN (aft (stp k (Sz a) (nxt Nx a)) S b (i + 1))) (by rw [aft, if_pos (by cases q9 : Nat.testBit S i; (rw [q9] at c_25; exact absurd c_25 (by decide)); rfl)]) ?_
        refine lv_lstore (lv' := [(5, .long (lN (aft (stp k (Sz a) (nxt Nx a)) S b (i + 1)))), (0, .ref mo), (1, .int (nI a)), (2, .long (lN S)), (4, .int (nI b)), (7, .int (nI i))]) hx hb d_Ref_step_42 hl (by decide) rfl (fun ls hl => ?_)
        refine lv_iinc (v := nI (i + 1)) (lv' := [(7, .int (nI (i + 1))), (5, .long (lN (aft (stp k (Sz a) (nxt Nx a)) S b (i + 1)))), (0, .ref mo), (1, .int (nI a)), (2, .long (lN S)), (4, .int (nI b))]) hx hb d_Ref_step_44 hl (k := 5) rfl (show nI i + nI 1 = nI (i + 1) from nI_add _ _) (by decide) rfl (fun ls hl => ?_)
        refine lv_goto (tgt := 6) hx hb d_Ref_step_47 (by decide) ?_
        exact ih (i + 1) (by omega) (by omega) H locs ls (lv_sub hl [2, 3, 4, 5, 1, 0] rfl) hB
set_option maxHeartbeats 4000000 in
set_option maxRecDepth 100000 in
theorem c_Ref_step {l : Launch} {D : va_G} {t : Nat → ClassId} {w : wf_W} {sz : Nat} {mo az an ae ac ato aps apt al aip alo alt aic arw aco act asp anu aor ann ald ahd acn ais aq acf acb aw k mn cz tz ca pz wy fi se ho lx ly ts tS cs av lz hz1 nl nh ce qd : Nat} {Sz Nx En : Nat → Nat} {a S b : Nat} (hMo : w mo = some (rfO k mn az an ae ac cz ato tz ca aps apt al aip pz wy fi se ho lx ly ts tS alo alt aic arw aco act asp cs anu aor ann av ald ahd lz hz1 nl nh acn ce ais aq acf acb qd aw)) (h_az : w az = some (.inl (t 0, 60, .inl (iA Sz)))) (h_an : w an = some (.inl (t 0, 9600, .inl (iA Nx)))) (hm : rOK k (Sz a) (En a) (nxt Nx a)) (ha6 : a < 60) (hS : S < 2 ^ 64) (hbk : b < k) : Ml l y_Ref_step b_Ref_step 8 (some .long) 1 23 0 0 D t w sz [.ref mo, .int (nI a), .long (lN S), .int (nI b)] (fun r w' => r = (lN (aft (stp k (Sz a) (nxt Nx a)) S b (Sz a))) ∧ w' = w) := by
  refine start_l (by decide) (Nat.le_of_ble_eq_true rfl) ?_
  intro p e s m below meth c ls H locs X hB hl
  have hx := X.1
  have hb := X.2.1
  have hl : lv_has ls 8 [(0, .ref mo), (1, .int (nI a)), (2, .long (lN S)), (4, .int (nI b))] := hl
  have hM := rOK_m hm
  have hk := hm.1
  have hn := hm.2.1
  have hn0 := hm.2.2.1
  have hE := hm.E40
  refine lv_lconst (v := lN 0) hx hb d_Ref_step_0 (by decide) ?_
  refine lv_lstore (lv' := [(5, .long (lN 0)), (0, .ref mo), (1, .int (nI a)), (2, .long (lN S)), (4, .int (nI b))]) hx hb d_Ref_step_1 hl (by decide) rfl (fun ls hl => ?_)
  refine lv_iconst (v := nI 0) hx hb d_Ref_step_3 (by decide) ?_
  refine lv_istore (lv' := [(7, .int (nI 0)), (5, .long (lN 0)), (0, .ref mo), (1, .int (nI a)), (2, .long (lN S)), (4, .int (nI b))]) hx hb d_Ref_step_4 hl (by decide) rfl (fun ls hl => ?_)
  refine c_Ref_step_L6 (l := l) X hMo h_az h_an hm ha6 hS hbk (fun i hi he H locs ls hl hB => ?_) (Sz a - 0 + 1) 0 (by omega) (by omega) H locs ls (lv_sub hl [2, 3, 4, 5, 1, 0] rfl) hB
  refine lv_lload hx hb d_Ref_step_50 (lv_at hl 4 rfl) ?_
  refine ret_l X hB d_Ref_step_52 ?_
  subst he; exact ⟨rfl, rfl⟩
set_option maxHeartbeats 4000000 in
set_option maxRecDepth 100000 in
theorem c_Ref_ahead_L20 {l : Launch} {D : va_G} {t : Nat → ClassId} {w : wf_W} {mo az an ae ac ato aps apt al aip alo alt aic arw aco act asp anu aor ann ald ahd acn ais aq acf acb aw k mn cz tz ca pz wy fi se ho lx ly ts tS cs av lz hz1 nl nh ce qd : Nat} {Sz Nx En : Nat → Nat} {a S : Nat} {i : Nat} {p : Program} {e : Env} {s : State} {m : MethodId} {below : List Frame} {meth : Method} {c : Code} {Q : State → Prop} (X : Cx p s m meth c R_Ref "ahead" b_Ref_ahead 8 (some .long) D t) (hMo : w mo = some (rfO k mn az an ae ac cz ato tz ca aps apt al aip pz wy fi se ho lx ly ts tS alo alt aic arw aco act asp cs anu aor ann av ald ahd lz hz1 nl nh acn ce ais aq acf acb qd aw)) (h_az : w az = some (.inl (t 0, 60, .inl (iA Sz)))) (h_an : w an = some (.inl (t 0, 9600, .inl (iA Nx)))) (hm : rOK k (Sz a) (En a) (nxt Nx a)) (ha6 : a < 60) (hS : S < 2 ^ 64) (hi : i < Sz a)
    (K_56 : ∀ (j : Nat), (j ≤ k) → (j = k) → ∀ (H : Heap) (locs : List Loc) (ls : Array Slot), lv_has ls 8 [(0, .ref mo), (1, .int (nI a)), (2, .long (lN S)), (4, .long (lN (befI k (Sz a) (nxt Nx a) S i (bef k (Sz a) (nxt Nx a) S i) j))), (6, .int (nI i)), (7, .int (nI j))] → wf_B D wcl (wf_A w s.heap.size) s.heap w H locs → W p l e (rmk 1 23 0 0) s m [.ref mo, .int (nI a), .long (lN S)].toArray below meth c H locs 0 0 Q (F0 m 56 ls [])) :
    ∀ (fu : Nat) (j : Nat), (j ≤ k) → k - j < fu → ∀ (H : Heap) (locs : List Loc) (ls : Array Slot), lv_has ls 8 [(0, .ref mo), (1, .int (nI a)), (2, .long (lN S)), (4, .long (lN (befI k (Sz a) (nxt Nx a) S i (bef k (Sz a) (nxt Nx a) S i) j))), (6, .int (nI i)), (7, .int (nI j))] → wf_B D wcl (wf_A w s.heap.size) s.heap w H locs → W p l e (rmk 1 23 0 0) s m [.ref mo, .int (nI a), .long (lN S)].toArray below meth c H locs 0 0 Q (F0 m 20 ls []) := by
  have hx := X.1
  have hb := X.2.1
  intro fu
  induction fu with
  | zero => intro j hj hfu; exact absurd hfu (Nat.not_lt_zero _)
  | succ fu ih =>
    intro j hj hfu H locs ls hl hB
    have hM := rOK_m hm
    have hk := hm.1
    have hn := hm.2.1
    have hn0 := hm.2.2.1
    have hE := hm.E40
    refine lv_iload hx hb d_Ref_ahead_20 (lv_at hl 5 rfl) ?_
    refine lv_aload_n hx hb d_Ref_ahead_22 rfl (lv_at hl 0 rfl) ?_
    refine rget X hB  i_Ref hMo cl_Ref 0 (by decide) k_874 rfl rfl d_Ref_ahead_23 ?_
    refine wf_cge (tgt := 56) hx hb d_Ref_ahead_26 (by decide) (nI_toInt (by omega)) (nI_toInt (by omega)) (fun c_26 => ?_) (fun c_26 => ?_)
    · exact K_56 j hj (by omega) H locs ls (lv_sub hl [0, 1, 2, 3, 4, 5] rfl) hB
    · have hs9 := stp_lt hM i j
      have hb9 := befI_lt (k := k) (n := Sz a) (st := nxt Nx a) (S := S) (show i < 40 by omega) (bef_lt (k := k) (n := Sz a) (st := nxt Nx a) (S := S) i (by omega)) j
      have hp9 := Nat.pow_lt_pow_right (a := 2) (by decide) (show i < 40 by omega)
      refine lv_lload hx hb d_Ref_ahead_29 (lv_at hl 3 rfl) ?_
      refine lv_lload_n hx hb d_Ref_ahead_31 rfl (lv_at hl 2 rfl) ?_
      refine lv_aload_n hx hb d_Ref_ahead_32 rfl (lv_at hl 0 rfl) ?_
      refine lv_iload_n hx hb d_Ref_ahead_33 rfl (lv_at hl 1 rfl) ?_
      refine lv_iload hx hb d_Ref_ahead_34 (lv_at hl 4 rfl) ?_
      refine lv_iload hx hb d_Ref_ahead_36 (lv_at hl 5 rfl) ?_
      refine callVi (As := [.int (nI a), .int (nI i), .int (nI j)]) (rest := [.long (lN S), .long (lN (befI k (Sz a) (nxt Nx a) S i (bef k (Sz a) (nxt Nx a) S i) j))]) X hB wf_hA (c_Ref_nextOf (l := l) (D := D) (t := t) (w := w) (sz := H.size) (mo := mo) (az := az) (an := an) (ae := ae) (ac := ac) (ato := ato) (aps := aps) (apt := apt) (al := al) (aip := aip) (alo := alo) (alt := alt) (aic := aic) (arw := arw) (aco := aco) (act := act) (asp := asp) (anu := anu) (aor := aor) (ann := ann) (ald := ald) (ahd := ahd) (acn := acn) (ais := ais) (aq := aq) (acf := acf) (acb := acb) (aw := aw) (k := k) (mn := mn) (cz := cz) (tz := tz) (ca := ca) (pz := pz) (wy := wy) (fi := fi) (se := se) (ho := ho) (lx := lx) (ly := ly) (ts := ts) (tS := tS) (cs := cs) (av := av) (lz := lz) (hz1 := hz1) (nl := nl) (nh := nh) (ce := ce) (qd := qd) (Nx := Nx) (a := a) (u := i) (b := j) hMo h_an (by exact ha6) (by omega) (by omega)) k_1070 k_1072 k_41 k_75 k_1073 hMo cl_Ref rfl hd_Ref_nextOf ⟨Nat.le_of_ble_eq_true rfl, Nat.le_of_ble_eq_true rfl⟩ ⟨Nat.le_of_ble_eq_true rfl, Nat.le_of_ble_eq_true rfl⟩ hl.1 (Nat.le_of_ble_eq_true rfl) d_Ref_ahead_38 rfl (fun r_38 w1 H locs hp hB => ?_)
      obtain ⟨rfl, hw_38⟩ := hp
      have hB : wf_B D wcl (wf_A w s.heap.size) s.heap w H locs := wf_Bto hw_38 hB
      refine wf_ti (y := nI (stp k (Sz a) (nxt Nx a) i j)) (by rw [stp_in (by omega) (by omega)]) ?_
      refine lv_lshr hx hb d_Ref_ahead_41 rfl ?_
      refine lv_lconst (v := lN 1) hx hb d_Ref_ahead_42 (by decide) ?_
      refine lv_land hx hb d_Ref_ahead_43 ?_
      refine wf_tl (y := lN ((Nat.testBit S (stp k (Sz a) (nxt Nx a) i j)).toNat)) (by exact wb_sbit (by omega) (by omega)) ?_
      refine lv_iload hx hb d_Ref_ahead_44 (lv_at hl 4 rfl) ?_
      refine lv_lshl (v := lN (((Nat.testBit S (stp k (Sz a) (nxt Nx a) i j)).toNat) * 2 ^ i)) hx hb d_Ref_ahead_46 (wb_shl _ (by omega)) ?_
      refine lv_lor hx hb d_Ref_ahead_47 ?_
      refine wf_tl (y := lN ((befI k (Sz a) (nxt Nx a) S i (bef k (Sz a) (nxt Nx a) S i) j) ||| (((Nat.testBit S (stp k (Sz a) (nxt Nx a) i j)).toNat) * 2 ^ i))) (wb_or (by omega) (by cases Nat.testBit S (stp k (Sz a) (nxt Nx a) i j) <;> simp; (exact Nat.lt_trans hp9 (by decide)))) ?_
      refine wf_tl (y := lN (befI k (Sz a) (nxt Nx a) S i (bef k (Sz a) (nxt Nx a) S i) (j + 1))) (by rw [befI]; cases Nat.testBit S (stp k (Sz a) (nxt Nx a) i j) <;> simp) ?_
      refine lv_lstore (lv' := [(4, .long (lN (befI k (Sz a) (nxt Nx a) S i (bef k (Sz a) (nxt Nx a) S i) (j + 1)))), (0, .ref mo), (1, .int (nI a)), (2, .long (lN S)), (6, .int (nI i)), (7, .int (nI j))]) hx hb d_Ref_ahead_48 hl (by decide) rfl (fun ls hl => ?_)
      refine lv_iinc (v := nI (j + 1)) (lv' := [(7, .int (nI (j + 1))), (4, .long (lN (befI k (Sz a) (nxt Nx a) S i (bef k (Sz a) (nxt Nx a) S i) (j + 1)))), (0, .ref mo), (1, .int (nI a)), (2, .long (lN S)), (6, .int (nI i))]) hx hb d_Ref_ahead_50 hl (k := 5) rfl (show nI j + nI 1 = nI (j + 1) from nI_add _ _) (by decide) rfl (fun ls hl => ?_)
      refine lv_goto (tgt := 20) hx hb d_Ref_ahead_53 (by decide) ?_
      exact ih (j + 1) (by omega) (by omega) H locs ls (lv_sub hl [2, 3, 4, 1, 5, 0] rfl) hB
set_option maxHeartbeats 4000000 in
set_option maxRecDepth 100000 in
theorem c_Ref_ahead_L6 {l : Launch} {D : va_G} {t : Nat → ClassId} {w : wf_W} {mo az an ae ac ato aps apt al aip alo alt aic arw aco act asp anu aor ann ald ahd acn ais aq acf acb aw k mn cz tz ca pz wy fi se ho lx ly ts tS cs av lz hz1 nl nh ce qd : Nat} {Sz Nx En : Nat → Nat} {a S : Nat}  {p : Program} {e : Env} {s : State} {m : MethodId} {below : List Frame} {meth : Method} {c : Code} {Q : State → Prop} (X : Cx p s m meth c R_Ref "ahead" b_Ref_ahead 8 (some .long) D t) (hMo : w mo = some (rfO k mn az an ae ac cz ato tz ca aps apt al aip pz wy fi se ho lx ly ts tS alo alt aic arw aco act asp cs anu aor ann av ald ahd lz hz1 nl nh acn ce ais aq acf acb qd aw)) (h_az : w az = some (.inl (t 0, 60, .inl (iA Sz)))) (h_an : w an = some (.inl (t 0, 9600, .inl (iA Nx)))) (hm : rOK k (Sz a) (En a) (nxt Nx a)) (ha6 : a < 60) (hS : S < 2 ^ 64)
    (K_62 : ∀ (i : Nat), (i ≤ Sz a) → (i = Sz a) → ∀ (H : Heap) (locs : List Loc) (ls : Array Slot), lv_has ls 8 [(0, .ref mo), (1, .int (nI a)), (2, .long (lN S)), (4, .long (lN (bef k (Sz a) (nxt Nx a) S i))), (6, .int (nI i))] → wf_B D wcl (wf_A w s.heap.size) s.heap w H locs → W p l e (rmk 1 23 0 0) s m [.ref mo, .int (nI a), .long (lN S)].toArray below meth c H locs 0 0 Q (F0 m 62 ls [])) :
    ∀ (fu : Nat) (i : Nat), (i ≤ Sz a) → Sz a - i < fu → ∀ (H : Heap) (locs : List Loc) (ls : Array Slot), lv_has ls 8 [(0, .ref mo), (1, .int (nI a)), (2, .long (lN S)), (4, .long (lN (bef k (Sz a) (nxt Nx a) S i))), (6, .int (nI i))] → wf_B D wcl (wf_A w s.heap.size) s.heap w H locs → W p l e (rmk 1 23 0 0) s m [.ref mo, .int (nI a), .long (lN S)].toArray below meth c H locs 0 0 Q (F0 m 6 ls []) := by
  have hx := X.1
  have hb := X.2.1
  intro fu
  induction fu with
  | zero => intro i hi hfu; exact absurd hfu (Nat.not_lt_zero _)
  | succ fu ih =>
    intro i hi hfu H locs ls hl hB
    have hM := rOK_m hm
    have hk := hm.1
    have hn := hm.2.1
    have hn0 := hm.2.2.1
    have hE := hm.E40
    refine lv_iload hx hb d_Ref_ahead_6 (lv_at hl 4 rfl) ?_
    refine lv_aload_n hx hb d_Ref_ahead_8 rfl (lv_at hl 0 rfl) ?_
    refine rget X hB  i_Ref hMo cl_Ref 2 (by decide) k_876 rfl rfl d_Ref_ahead_9 ?_
    refine lv_iload_n hx hb d_Ref_ahead_12 rfl (lv_at hl 1 rfl) ?_
    refine riald X hB  h_az (i := a) (by omega) (by decide) d_Ref_ahead_13 ?_
    refine wf_ti (y := nI (Sz a)) rfl ?_
    refine wf_cge (tgt := 62) hx hb d_Ref_ahead_14 (by decide) (nI_toInt (by omega)) (nI_toInt (by omega)) (fun c_14 => ?_) (fun c_14 => ?_)
    · exact K_62 i hi (by omega) H locs ls (lv_sub hl [0, 1, 2, 3, 4] rfl) hB
    · have hi : i < Sz a := by omega
      refine lv_iconst (v := nI 0) hx hb d_Ref_ahead_17 (by decide) ?_
      refine lv_istore (lv' := [(7, .int (nI 0)), (0, .ref mo), (1, .int (nI a)), (2, .long (lN S)), (4, .long (lN (bef k (Sz a) (nxt Nx a) S i))), (6, .int (nI i))]) hx hb d_Ref_ahead_18 hl (by decide) rfl (fun ls hl => ?_)
      refine c_Ref_ahead_L20 (l := l) X hMo h_az h_an hm ha6 hS hi (fun j hj he H locs ls hl hB => ?_) (k - 0 + 1) 0 (by omega) (by omega) H locs ls (lv_sub hl [1, 2, 3, 4, 5, 0] rfl) hB
      have hl : lv_has ls 8 [(0, .ref mo), (1, .int (nI a)), (2, .long (lN S)), (4, .long (lN (bef k (Sz a) (nxt Nx a) S (i + 1)))), (6, .int (nI i)), (7, .int (nI j))] := by rw [he] at hl ⊢; exact hl
      refine lv_iinc (v := nI (i + 1)) (lv' := [(6, .int (nI (i + 1))), (0, .ref mo), (1, .int (nI a)), (2, .long (lN S)), (4, .long (lN (bef k (Sz a) (nxt Nx a) S (i + 1)))), (7, .int (nI j))]) hx hb d_Ref_ahead_56 hl (k := 4) rfl (show nI i + nI 1 = nI (i + 1) from nI_add _ _) (by decide) rfl (fun ls hl => ?_)
      refine lv_goto (tgt := 6) hx hb d_Ref_ahead_59 (by decide) ?_
      exact ih (i + 1) (by omega) (by omega) H locs ls (lv_sub hl [1, 2, 3, 4, 0] rfl) hB
set_option maxHeartbeats 4000000 in
set_option maxRecDepth 100000 in
theorem c_Ref_ahead {l : Launch} {D : va_G} {t : Nat → ClassId} {w : wf_W} {sz : Nat} {mo az an ae ac ato aps apt al aip alo alt aic arw aco act asp anu aor ann ald ahd acn ais aq acf acb aw k mn cz tz ca pz wy fi se ho lx ly ts tS cs av lz hz1 nl nh ce qd : Nat} {Sz Nx En : Nat → Nat} {a S : Nat} (hMo : w mo = some (rfO k mn az an ae ac cz ato tz ca aps apt al aip pz wy fi se ho lx ly ts tS alo alt aic arw aco act asp cs anu aor ann av ald ahd lz hz1 nl nh acn ce ais aq acf acb qd aw)) (h_az : w az = some (.inl (t 0, 60, .inl (iA Sz)))) (h_an : w an = some (.inl (t 0, 9600, .inl (iA Nx)))) (hm : rOK k (Sz a) (En a) (nxt Nx a)) (ha6 : a < 60) (hS : S < 2 ^ 64) : Ml l y_Ref_ahead b_Ref_ahead 8 (some .long) 1 23 0 0 D t w sz [.ref mo, .int (nI a), .long (lN S)] (fun r w' => r = (lN (bef k (Sz a) (nxt Nx a) S (Sz a))) ∧ w' = w) := by
  refine start_l (by decide) (Nat.le_of_ble_eq_true rfl) ?_
  intro p e s m below meth c ls H locs X hB hl
  have hx := X.1
  have hb := X.2.1
  have hl : lv_has ls 8 [(0, .ref mo), (1, .int (nI a)), (2, .long (lN S))] := hl
  have hM := rOK_m hm
  have hk := hm.1
  have hn := hm.2.1
  have hn0 := hm.2.2.1
  have hE := hm.E40
  refine lv_lconst (v := lN 0) hx hb d_Ref_ahead_0 (by decide) ?_
  refine lv_lstore (lv' := [(4, .long (lN 0)), (0, .ref mo), (1, .int (nI a)), (2, .long (lN S))]) hx hb d_Ref_ahead_1 hl (by decide) rfl (fun ls hl => ?_)
  refine lv_iconst (v := nI 0) hx hb d_Ref_ahead_3 (by decide) ?_
  refine lv_istore (lv' := [(6, .int (nI 0)), (4, .long (lN 0)), (0, .ref mo), (1, .int (nI a)), (2, .long (lN S))]) hx hb d_Ref_ahead_4 hl (by decide) rfl (fun ls hl => ?_)
  refine c_Ref_ahead_L6 (l := l) X hMo h_az h_an hm ha6 hS (fun i hi he H locs ls hl hB => ?_) (Sz a - 0 + 1) 0 (by omega) (by omega) H locs ls (lv_sub hl [2, 3, 4, 1, 0] rfl) hB
  refine lv_lload hx hb d_Ref_ahead_62 (lv_at hl 3 rfl) ?_
  refine ret_l X hB d_Ref_ahead_64 ?_
  subst he; exact ⟨rfl, rfl⟩
set_option maxHeartbeats 4000000 in
set_option maxRecDepth 100000 in
theorem c_Ref_without_L7 {l : Launch} {D : va_G} {t : Nat → ClassId} {w : wf_W} {mo az an ae ac ato aps apt al aip alo alt aic arw aco act asp anu aor ann ald ahd acn ais aq acf acb aw k mn cz tz ca pz wy fi se ho lx ly ts tS cs av lz hz1 nl nh ce qd : Nat} {Sz Nx En : Nat → Nat} {S : Nat}  {p : Program} {e : Env} {s : State} {m : MethodId} {below : List Frame} {meth : Method} {c : Code} {Q : State → Prop} (X : Cx p s m meth c R_Ref "without" b_Ref_without 7 (some .long) D t) (hMo : w mo = some (rfO k mn az an ae ac cz ato tz ca aps apt al aip pz wy fi se ho lx ly ts tS alo alt aic arw aco act asp cs anu aor ann av ald ahd lz hz1 nl nh acn ce ais aq acf acb qd aw)) (h_az : w az = some (.inl (t 0, 60, .inl (iA Sz)))) (h_an : w an = some (.inl (t 0, 9600, .inl (iA Nx)))) (hm : rOK k (Sz fi) (En fi) (nxt Nx fi)) (hf6 : fi < 60) (hS : S < 2 ^ 40) (hx1 : lx < k)
    (K_36 : ∀ (i : Nat) (bf : Int64), ((i = 0 ∧ bf = -1) ∨ (1 ≤ i ∧ bf = lN (wit k (Sz fi) (nxt Nx fi) lx S (i - 1)))) → (1 ≤ i ∧ wit k (Sz fi) (nxt Nx fi) lx S i = wit k (Sz fi) (nxt Nx fi) lx S (i - 1)) → ∀ (H : Heap) (locs : List Loc) (ls : Array Slot), lv_has ls 7 [(0, .ref mo), (1, .long (lN S)), (3, .long (lN (wit k (Sz fi) (nxt Nx fi) lx S i))), (5, .long bf)] → wf_B D wcl (wf_A w s.heap.size) s.heap w H locs → W p l e (rmk 2 50 0 0) s m [.ref mo, .long (lN S)].toArray below meth c H locs 0 0 Q (F0 m 36 ls [])) :
    ∀ (fu : Nat) (i : Nat) (bf : Int64), ((i = 0 ∧ bf = -1) ∨ (1 ≤ i ∧ bf = lN (wit k (Sz fi) (nxt Nx fi) lx S (i - 1)))) → (if i = 0 then 2 ^ 40 + 1 else 2 ^ 40 - wit k (Sz fi) (nxt Nx fi) lx S (i - 1)) < fu → ∀ (H : Heap) (locs : List Loc) (ls : Array Slot), lv_has ls 7 [(0, .ref mo), (1, .long (lN S)), (3, .long (lN (wit k (Sz fi) (nxt Nx fi) lx S i))), (5, .long bf)] → wf_B D wcl (wf_A w s.heap.size) s.heap w H locs → W p l e (rmk 2 50 0 0) s m [.ref mo, .long (lN S)].toArray below meth c H locs 0 0 Q (F0 m 7 ls []) := by
  have hx := X.1
  have hb := X.2.1
  intro fu
  induction fu with
  | zero => intro i bf hbf hfu; exact absurd hfu (Nat.not_lt_zero _)
  | succ fu ih =>
    intro i bf hbf hfu H locs ls hl hB
    have hM := rOK_m hm
    have hk := hm.1
    have hn := hm.2.1
    have hn0 := hm.2.2.1
    have hE := hm.E40
    have hwt := wit_lt hM (x := lx) hS i
    have hwt1 := wit_lt hM (x := lx) hS (i - 1)
    have em : (-1 : Int64).toInt = -1 := by decide
    refine lv_lload_n hx hb d_Ref_without_7 rfl (lv_at hl 2 rfl) ?_
    refine lv_lload hx hb d_Ref_without_8 (lv_at hl 3 rfl) ?_
    refine W.lcmp hx hb d_Ref_without_10 ?_
    refine wf_leq (tgt := 36) hx hb d_Ref_without_11 (by decide) (pk_lT (by omega)) rfl (fun c_11 => ?_) (fun c_11 => ?_)
    · exact K_36 i bf hbf (by rcases hbf with ⟨h1, h2⟩ | ⟨h1, h2⟩; (rw [h2, em] at c_11; omega); (rw [h2, pk_lT (by omega)] at c_11; exact ⟨h1, by omega⟩)) H locs ls (lv_sub hl [0, 1, 2, 3] rfl) hB
    · refine lv_lload_n hx hb d_Ref_without_14 rfl (lv_at hl 2 rfl) ?_
      refine lv_lstore (lv' := [(5, .long (lN (wit k (Sz fi) (nxt Nx fi) lx S i))), (0, .ref mo), (1, .long (lN S)), (3, .long (lN (wit k (Sz fi) (nxt Nx fi) lx S i)))]) hx hb d_Ref_without_15 hl (by decide) rfl (fun ls hl => ?_)
      refine lv_lload_n hx hb d_Ref_without_17 rfl (lv_at hl 3 rfl) ?_
      refine lv_aload_n hx hb d_Ref_without_18 rfl (lv_at hl 1 rfl) ?_
      refine lv_aload_n hx hb d_Ref_without_19 rfl (lv_at hl 1 rfl) ?_
      refine rget X hB  i_Ref hMo cl_Ref 16 (by decide) k_890 rfl rfl d_Ref_without_20 ?_
      refine lv_lload_n hx hb d_Ref_without_23 rfl (lv_at hl 3 rfl) ?_
      refine lv_aload_n hx hb d_Ref_without_24 rfl (lv_at hl 1 rfl) ?_
      refine rget X hB  i_Ref hMo cl_Ref 19 (by decide) k_893 rfl rfl d_Ref_without_25 ?_
      refine callVl (As := [.int (nI fi), .long (lN (wit k (Sz fi) (nxt Nx fi) lx S i)), .int (nI lx)]) (rest := [.long (lN (wit k (Sz fi) (nxt Nx fi) lx S i))]) X hB wf_hA (c_Ref_step (l := l) (D := D) (t := t) (w := w) (sz := H.size) (mo := mo) (az := az) (an := an) (ae := ae) (ac := ac) (ato := ato) (aps := aps) (apt := apt) (al := al) (aip := aip) (alo := alo) (alt := alt) (aic := aic) (arw := arw) (aco := aco) (act := act) (asp := asp) (anu := anu) (aor := aor) (ann := ann) (ald := ald) (ahd := ahd) (acn := acn) (ais := ais) (aq := aq) (acf := acf) (acb := acb) (aw := aw) (k := k) (mn := mn) (cz := cz) (tz := tz) (ca := ca) (pz := pz) (wy := wy) (fi := fi) (se := se) (ho := ho) (lx := lx) (ly := ly) (ts := ts) (tS := tS) (cs := cs) (av := av) (lz := lz) (hz1 := hz1) (nl := nl) (nh := nh) (ce := ce) (qd := qd) (Sz := Sz) (Nx := Nx) (En := En) (a := fi) (S := wit k (Sz fi) (nxt Nx fi) lx S i) (b := lx) hMo h_az h_an (by exact hm) (by exact hf6) (by omega) (by exact hx1)) k_1144 k_1146 k_53 k_75 k_1147 hMo cl_Ref rfl hd_Ref_step ⟨Nat.le_of_ble_eq_true rfl, Nat.le_of_ble_eq_true rfl⟩ ⟨Nat.le_of_ble_eq_true rfl, Nat.le_of_ble_eq_true rfl⟩ hl.1 (Nat.le_of_ble_eq_true rfl) d_Ref_without_28 rfl (fun r_28 w1 H locs hp hB => ?_)
      obtain ⟨rfl, hw_28⟩ := hp
      have hB : wf_B D wcl (wf_A w s.heap.size) s.heap w H locs := wf_Bto hw_28 hB
      refine lv_lor hx hb d_Ref_without_31 ?_
      refine wf_tl (y := lN ((wit k (Sz fi) (nxt Nx fi) lx S i) ||| (aft (stp k (Sz fi) (nxt Nx fi)) (wit k (Sz fi) (nxt Nx fi) lx S i) lx (Sz fi)))) (wb_or (by omega) (by have := aft_lt hM (wit k (Sz fi) (nxt Nx fi) lx S i) lx (Sz fi); omega)) ?_
      refine wf_tl (y := lN (wit k (Sz fi) (nxt Nx fi) lx S (i + 1))) (by rfl) ?_
      refine lv_lstore_n (lv' := [(3, .long (lN (wit k (Sz fi) (nxt Nx fi) lx S (i + 1)))), (5, .long (lN (wit k (Sz fi) (nxt Nx fi) lx S i))), (0, .ref mo), (1, .long (lN S))]) hx hb d_Ref_without_32 rfl hl (by decide) rfl (fun ls hl => ?_)
      refine lv_goto (tgt := 7) hx hb d_Ref_without_33 (by decide) ?_
      exact ih (i + 1) (lN (wit k (Sz fi) (nxt Nx fi) lx S i)) (by exact Or.inr ⟨by omega, rfl⟩) (by rw [if_neg (by omega), Nat.add_sub_cancel]; rcases hbf with ⟨h1, h2⟩ | ⟨h1, h2⟩; (rw [if_pos h1] at hfu; omega); (rw [if_neg (by omega)] at hfu; rw [h2, pk_lT (by omega)] at c_11; have hge : wit k (Sz fi) (nxt Nx fi) lx S (i - 1) ≤ wit k (Sz fi) (nxt Nx fi) lx S i := (by obtain ⟨v9, hv9⟩ : ∃ v9, i = v9 + 1 := ⟨i - 1, by omega⟩; rw [hv9, Nat.add_sub_cancel]; exact or_ge); omega)) H locs ls (lv_sub hl [2, 3, 0, 1] rfl) hB
set_option maxHeartbeats 4000000 in
set_option maxRecDepth 100000 in
theorem c_Ref_without {l : Launch} {D : va_G} {t : Nat → ClassId} {w : wf_W} {sz : Nat} {mo az an ae ac ato aps apt al aip alo alt aic arw aco act asp anu aor ann ald ahd acn ais aq acf acb aw k mn cz tz ca pz wy fi se ho lx ly ts tS cs av lz hz1 nl nh ce qd : Nat} {Sz Nx En : Nat → Nat} {S : Nat} (hMo : w mo = some (rfO k mn az an ae ac cz ato tz ca aps apt al aip pz wy fi se ho lx ly ts tS alo alt aic arw aco act asp cs anu aor ann av ald ahd lz hz1 nl nh acn ce ais aq acf acb qd aw)) (h_az : w az = some (.inl (t 0, 60, .inl (iA Sz)))) (h_an : w an = some (.inl (t 0, 9600, .inl (iA Nx)))) (hm : rOK k (Sz fi) (En fi) (nxt Nx fi)) (hf6 : fi < 60) (hS : S < 2 ^ 40) (hx1 : lx < k) : Ml l y_Ref_without b_Ref_without 7 (some .long) 2 50 0 0 D t w sz [.ref mo, .long (lN S)] (fun r w' => ∃ i0 : Nat, (wit k (Sz fi) (nxt Nx fi) lx S (i0 + 1) = wit k (Sz fi) (nxt Nx fi) lx S i0) ∧ r = (lN (wit k (Sz fi) (nxt Nx fi) lx S i0)) ∧ w' = w) := by
  refine start_l (by decide) (Nat.le_of_ble_eq_true rfl) ?_
  intro p e s m below meth c ls H locs X hB hl
  have hx := X.1
  have hb := X.2.1
  have hl : lv_has ls 7 [(0, .ref mo), (1, .long (lN S))] := hl
  have hM := rOK_m hm
  have hk := hm.1
  have hn := hm.2.1
  have hn0 := hm.2.2.1
  have hE := hm.E40
  refine lv_lload_n hx hb d_Ref_without_0 rfl (lv_at hl 1 rfl) ?_
  refine lv_lstore_n (lv' := [(3, .long (lN S)), (0, .ref mo), (1, .long (lN S))]) hx hb d_Ref_without_1 rfl hl (by decide) rfl (fun ls hl => ?_)
  refine lv_ldc2 (own := R_Ref) hx hb X.2.2.1 (X.2.2.2.2.1.2 _ k_1082 _) d_Ref_without_2 ?_
  refine lv_lstore (lv' := [(5, .long (-1)), (3, .long (lN S)), (0, .ref mo), (1, .long (lN S))]) hx hb d_Ref_without_5 hl (by decide) rfl (fun ls hl => ?_)
  refine c_Ref_without_L7 (l := l) X hMo h_az h_an hm hf6 hS hx1 (fun i bf hbf he H locs ls hl hB => ?_) ((if 0 = 0 then 2 ^ 40 + 1 else 2 ^ 40 - wit k (Sz fi) (nxt Nx fi) lx S (0 - 1)) + 1) 0 (-1) (by exact Or.inl ⟨rfl, rfl⟩) (by omega) H locs ls (lv_sub hl [2, 3, 1, 0] rfl) hB
  refine lv_lload_n hx hb d_Ref_without_36 rfl (lv_at hl 2 rfl) ?_
  refine ret_l X hB d_Ref_without_37 ?_
  exact ⟨i - 1, by rw [Nat.sub_add_cancel he.1]; exact he.2, by rw [he.2], rfl⟩
set_option maxHeartbeats 4000000 in
set_option maxRecDepth 100000 in
theorem c_Ref_alike_L22 {l : Launch} {D : va_G} {t : Nat → ClassId} {w : wf_W} {mo az an ae ac ato aps apt al aip alo alt aic arw aco act asp anu aor ann ald ahd acn ais aq acf acb aw k mn cz tz ca pz wy fi se ho lx ly ts tS cs av lz hz1 nl nh ce qd : Nat} {Sz LO : Nat → Nat} {S : Nat} {u : Nat} {p : Program} {e : Env} {s : State} {m : MethodId} {below : List Frame} {meth : Method} {c : Code} {Q : State → Prop} (X : Cx p s m meth c R_Ref "alike" b_Ref_alike 7 (some .long) D t) (hMo : w mo = some (rfO k mn az an ae ac cz ato tz ca aps apt al aip pz wy fi se ho lx ly ts tS alo alt aic arw aco act asp cs anu aor ann av ald ahd lz hz1 nl nh acn ce ais aq acf acb qd aw)) (h_az : w az = some (.inl (t 0, 60, .inl (iA Sz)))) (h_alo : w alo = some (.inl (t 0, 40, .inl (iA LO)))) (hn : Sz fi ≤ 40) (hf6 : fi < 60) (hS : S < 2 ^ 64) (hLO : ∀ u, u < Sz fi → LO u < 2 ^ 31) (hu : u < Sz fi)
    (K_77 : ∀ (j : Nat), (j ≤ Sz fi) → (j = Sz fi) → ∀ (H : Heap) (locs : List Loc) (ls : Array Slot), lv_has ls 7 [(0, .ref mo), (1, .long (lN S)), (3, .long (lN (alI LO S u (alk LO S (Sz fi) u) j))), (5, .int (nI u)), (6, .int (nI j))] → wf_B D wcl (wf_A w s.heap.size) s.heap w H locs → W p l e (rmk 0 0 0 0) s m [.ref mo, .long (lN S)].toArray below meth c H locs 0 0 Q (F0 m 77 ls [])) :
    ∀ (fu : Nat) (j : Nat), (j ≤ Sz fi) → Sz fi - j < fu → ∀ (H : Heap) (locs : List Loc) (ls : Array Slot), lv_has ls 7 [(0, .ref mo), (1, .long (lN S)), (3, .long (lN (alI LO S u (alk LO S (Sz fi) u) j))), (5, .int (nI u)), (6, .int (nI j))] → wf_B D wcl (wf_A w s.heap.size) s.heap w H locs → W p l e (rmk 0 0 0 0) s m [.ref mo, .long (lN S)].toArray below meth c H locs 0 0 Q (F0 m 22 ls []) := by
  have hx := X.1
  have hb := X.2.1
  intro fu
  induction fu with
  | zero => intro j hj hfu; exact absurd hfu (Nat.not_lt_zero _)
  | succ fu ih =>
    intro j hj hfu H locs ls hl hB
    refine lv_iload hx hb d_Ref_alike_22 (lv_at hl 4 rfl) ?_
    refine lv_aload_n hx hb d_Ref_alike_24 rfl (lv_at hl 0 rfl) ?_
    refine rget X hB  i_Ref hMo cl_Ref 2 (by decide) k_876 rfl rfl d_Ref_alike_25 ?_
    refine lv_aload_n hx hb d_Ref_alike_28 rfl (lv_at hl 0 rfl) ?_
    refine rget X hB  i_Ref hMo cl_Ref 16 (by decide) k_890 rfl rfl d_Ref_alike_29 ?_
    refine riald X hB  h_az (i := fi) (by omega) (by decide) d_Ref_alike_32 ?_
    refine wf_ti (y := nI (Sz fi)) rfl ?_
    refine wf_cge (tgt := 77) hx hb d_Ref_alike_33 (by decide) (nI_toInt (by omega)) (nI_toInt (by omega)) (fun c_33 => ?_) (fun c_33 => ?_)
    · exact K_77 j hj (by omega) H locs ls (lv_sub hl [0, 1, 2, 3, 4] rfl) hB
    · refine lv_lload_n hx hb d_Ref_alike_36 rfl (lv_at hl 1 rfl) ?_
      refine lv_iload hx hb d_Ref_alike_37 (lv_at hl 4 rfl) ?_
      refine lv_lshr hx hb d_Ref_alike_39 rfl ?_
      refine lv_lconst (v := lN 1) hx hb d_Ref_alike_40 (by decide) ?_
      refine lv_land hx hb d_Ref_alike_41 ?_
      refine wf_tl (y := lN ((Nat.testBit S j).toNat)) (by exact wb_sbit (by omega) (by omega)) ?_
      refine lv_lconst (v := lN 1) hx hb d_Ref_alike_42 (by decide) ?_
      refine W.lcmp hx hb d_Ref_alike_43 ?_
      refine wf_lne (tgt := 71) hx hb d_Ref_alike_44 (by decide) (pk_lT (by cases Nat.testBit S j <;> decide)) (pk_lT (by decide)) (fun c_44 => ?_) (fun c_44 => ?_)
      · have hl : lv_has ls 7 [(0, .ref mo), (1, .long (lN S)), (3, .long (lN (alI LO S u (alk LO S (Sz fi) u) (j + 1)))), (5, .int (nI u)), (6, .int (nI j))] := by rw [alI, if_neg (by intro q9; rw [q9.1] at c_44; exact c_44 rfl)]; exact hl
        refine lv_iinc (v := nI (j + 1)) (lv' := [(6, .int (nI (j + 1))), (0, .ref mo), (1, .long (lN S)), (3, .long (lN (alI LO S u (alk LO S (Sz fi) u) (j + 1)))), (5, .int (nI u))]) hx hb d_Ref_alike_71 hl (k := 4) rfl (show nI j + nI 1 = nI (j + 1) from nI_add _ _) (by decide) rfl (fun ls hl => ?_)
        refine lv_goto (tgt := 22) hx hb d_Ref_alike_74 (by decide) ?_
        exact ih (j + 1) (by omega) (by omega) H locs ls (lv_sub hl [1, 2, 3, 4, 0] rfl) hB
      · refine lv_aload_n hx hb d_Ref_alike_47 rfl (lv_at hl 0 rfl) ?_
        refine rget X hB  i_Ref hMo cl_Ref 23 (by decide) k_897 rfl rfl d_Ref_alike_48 ?_
        refine lv_iload hx hb d_Ref_alike_51 (lv_at hl 4 rfl) ?_
        refine riald X hB  h_alo (i := j) (by omega) (by decide) d_Ref_alike_53 ?_
        refine wf_ti (y := nI (LO j)) rfl ?_
        refine lv_aload_n hx hb d_Ref_alike_54 rfl (lv_at hl 0 rfl) ?_
        refine rget X hB  i_Ref hMo cl_Ref 23 (by decide) k_897 rfl rfl d_Ref_alike_55 ?_
        refine lv_iload hx hb d_Ref_alike_58 (lv_at hl 3 rfl) ?_
        refine riald X hB  h_alo (i := u) (by omega) (by decide) d_Ref_alike_60 ?_
        refine wf_ti (y := nI (LO u)) rfl ?_
        refine wf_cne (tgt := 71) hx hb d_Ref_alike_61 (by decide) (nI_toInt (by exact hLO j (by omega))) (nI_toInt (by exact hLO u (by omega))) (fun c_61 => ?_) (fun c_61 => ?_)
        · have hl : lv_has ls 7 [(0, .ref mo), (1, .long (lN S)), (3, .long (lN (alI LO S u (alk LO S (Sz fi) u) (j + 1)))), (5, .int (nI u)), (6, .int (nI j))] := by rw [alI, if_neg (by intro q9; exact c_61 (by rw [q9.2]))]; exact hl
          refine lv_iinc (v := nI (j + 1)) (lv' := [(6, .int (nI (j + 1))), (0, .ref mo), (1, .long (lN S)), (3, .long (lN (alI LO S u (alk LO S (Sz fi) u) (j + 1)))), (5, .int (nI u))]) hx hb d_Ref_alike_71 hl (k := 4) rfl (show nI j + nI 1 = nI (j + 1) from nI_add _ _) (by decide) rfl (fun ls hl => ?_)
          refine lv_goto (tgt := 22) hx hb d_Ref_alike_74 (by decide) ?_
          exact ih (j + 1) (by omega) (by omega) H locs ls (lv_sub hl [1, 2, 3, 4, 0] rfl) hB
        · refine lv_lload_n hx hb d_Ref_alike_64 rfl (lv_at hl 2 rfl) ?_
          refine lv_lconst (v := lN 1) hx hb d_Ref_alike_65 (by decide) ?_
          refine lv_iload hx hb d_Ref_alike_66 (lv_at hl 3 rfl) ?_
          refine lv_lshl (v := lN (1 * 2 ^ u)) hx hb d_Ref_alike_68 (wb_shl _ (by omega)) ?_
          refine wf_tl (y := lN (2 ^ u)) (by rw [Nat.one_mul]) ?_
          refine lv_lor hx hb d_Ref_alike_69 ?_
          refine wf_tl (y := lN ((alI LO S u (alk LO S (Sz fi) u) j) ||| (2 ^ u))) (wb_or (by have := alI_lt (LO := LO) (S := S) (show u < 40 by omega) (alk_lt (LO := LO) (S := S) (n := Sz fi) u (by omega)) j; omega) (by exact Nat.pow_lt_pow_right (by decide) (by omega))) ?_
          refine wf_tl (y := lN (alI LO S u (alk LO S (Sz fi) u) (j + 1))) (by rw [alI, if_pos ⟨by cases q9 : Nat.testBit S j; (rw [q9] at c_44; exact absurd c_44 (by decide)); rfl, by omega⟩]) ?_
          refine lv_lstore_n (lv' := [(3, .long (lN (alI LO S u (alk LO S (Sz fi) u) (j + 1)))), (0, .ref mo), (1, .long (lN S)), (5, .int (nI u)), (6, .int (nI j))]) hx hb d_Ref_alike_70 rfl hl (by decide) rfl (fun ls hl => ?_)
          refine lv_iinc (v := nI (j + 1)) (lv' := [(6, .int (nI (j + 1))), (3, .long (lN (alI LO S u (alk LO S (Sz fi) u) (j + 1)))), (0, .ref mo), (1, .long (lN S)), (5, .int (nI u))]) hx hb d_Ref_alike_71 hl (k := 4) rfl (show nI j + nI 1 = nI (j + 1) from nI_add _ _) (by decide) rfl (fun ls hl => ?_)
          refine lv_goto (tgt := 22) hx hb d_Ref_alike_74 (by decide) ?_
          exact ih (j + 1) (by omega) (by omega) H locs ls (lv_sub hl [2, 3, 1, 4, 0] rfl) hB
set_option maxHeartbeats 4000000 in
set_option maxRecDepth 100000 in
theorem c_Ref_alike_L5 {l : Launch} {D : va_G} {t : Nat → ClassId} {w : wf_W} {mo az an ae ac ato aps apt al aip alo alt aic arw aco act asp anu aor ann ald ahd acn ais aq acf acb aw k mn cz tz ca pz wy fi se ho lx ly ts tS cs av lz hz1 nl nh ce qd : Nat} {Sz LO : Nat → Nat} {S : Nat}  {p : Program} {e : Env} {s : State} {m : MethodId} {below : List Frame} {meth : Method} {c : Code} {Q : State → Prop} (X : Cx p s m meth c R_Ref "alike" b_Ref_alike 7 (some .long) D t) (hMo : w mo = some (rfO k mn az an ae ac cz ato tz ca aps apt al aip pz wy fi se ho lx ly ts tS alo alt aic arw aco act asp cs anu aor ann av ald ahd lz hz1 nl nh acn ce ais aq acf acb qd aw)) (h_az : w az = some (.inl (t 0, 60, .inl (iA Sz)))) (h_alo : w alo = some (.inl (t 0, 40, .inl (iA LO)))) (hn : Sz fi ≤ 40) (hf6 : fi < 60) (hS : S < 2 ^ 64) (hLO : ∀ u, u < Sz fi → LO u < 2 ^ 31)
    (K_83 : ∀ (u : Nat), (u ≤ Sz fi) → (u = Sz fi) → ∀ (H : Heap) (locs : List Loc) (ls : Array Slot), lv_has ls 7 [(0, .ref mo), (1, .long (lN S)), (3, .long (lN (alk LO S (Sz fi) u))), (5, .int (nI u))] → wf_B D wcl (wf_A w s.heap.size) s.heap w H locs → W p l e (rmk 0 0 0 0) s m [.ref mo, .long (lN S)].toArray below meth c H locs 0 0 Q (F0 m 83 ls [])) :
    ∀ (fu : Nat) (u : Nat), (u ≤ Sz fi) → Sz fi - u < fu → ∀ (H : Heap) (locs : List Loc) (ls : Array Slot), lv_has ls 7 [(0, .ref mo), (1, .long (lN S)), (3, .long (lN (alk LO S (Sz fi) u))), (5, .int (nI u))] → wf_B D wcl (wf_A w s.heap.size) s.heap w H locs → W p l e (rmk 0 0 0 0) s m [.ref mo, .long (lN S)].toArray below meth c H locs 0 0 Q (F0 m 5 ls []) := by
  have hx := X.1
  have hb := X.2.1
  intro fu
  induction fu with
  | zero => intro u hu hfu; exact absurd hfu (Nat.not_lt_zero _)
  | succ fu ih =>
    intro u hu hfu H locs ls hl hB
    refine lv_iload hx hb d_Ref_alike_5 (lv_at hl 3 rfl) ?_
    refine lv_aload_n hx hb d_Ref_alike_7 rfl (lv_at hl 0 rfl) ?_
    refine rget X hB  i_Ref hMo cl_Ref 2 (by decide) k_876 rfl rfl d_Ref_alike_8 ?_
    refine lv_aload_n hx hb d_Ref_alike_11 rfl (lv_at hl 0 rfl) ?_
    refine rget X hB  i_Ref hMo cl_Ref 16 (by decide) k_890 rfl rfl d_Ref_alike_12 ?_
    refine riald X hB  h_az (i := fi) (by omega) (by decide) d_Ref_alike_15 ?_
    refine wf_ti (y := nI (Sz fi)) rfl ?_
    refine wf_cge (tgt := 83) hx hb d_Ref_alike_16 (by decide) (nI_toInt (by omega)) (nI_toInt (by omega)) (fun c_16 => ?_) (fun c_16 => ?_)
    · exact K_83 u hu (by omega) H locs ls (lv_sub hl [0, 1, 2, 3] rfl) hB
    · have hu : u < Sz fi := by omega
      refine lv_iconst (v := nI 0) hx hb d_Ref_alike_19 (by decide) ?_
      refine lv_istore (lv' := [(6, .int (nI 0)), (0, .ref mo), (1, .long (lN S)), (3, .long (lN (alk LO S (Sz fi) u))), (5, .int (nI u))]) hx hb d_Ref_alike_20 hl (by decide) rfl (fun ls hl => ?_)
      refine c_Ref_alike_L22 (l := l) X hMo h_az h_alo hn hf6 hS hLO hu (fun j hj he H locs ls hl hB => ?_) (Sz fi - 0 + 1) 0 (by omega) (by omega) H locs ls (lv_sub hl [1, 2, 3, 4, 0] rfl) hB
      have hl : lv_has ls 7 [(0, .ref mo), (1, .long (lN S)), (3, .long (lN (alk LO S (Sz fi) (u + 1)))), (5, .int (nI u)), (6, .int (nI j))] := by rw [he] at hl ⊢; exact hl
      refine lv_iinc (v := nI (u + 1)) (lv' := [(5, .int (nI (u + 1))), (0, .ref mo), (1, .long (lN S)), (3, .long (lN (alk LO S (Sz fi) (u + 1)))), (6, .int (nI j))]) hx hb d_Ref_alike_77 hl (k := 3) rfl (show nI u + nI 1 = nI (u + 1) from nI_add _ _) (by decide) rfl (fun ls hl => ?_)
      refine lv_goto (tgt := 5) hx hb d_Ref_alike_80 (by decide) ?_
      exact ih (u + 1) (by omega) (by omega) H locs ls (lv_sub hl [1, 2, 3, 0] rfl) hB
set_option maxHeartbeats 4000000 in
set_option maxRecDepth 100000 in
theorem c_Ref_alike {l : Launch} {D : va_G} {t : Nat → ClassId} {w : wf_W} {sz : Nat} {mo az an ae ac ato aps apt al aip alo alt aic arw aco act asp anu aor ann ald ahd acn ais aq acf acb aw k mn cz tz ca pz wy fi se ho lx ly ts tS cs av lz hz1 nl nh ce qd : Nat} {Sz LO : Nat → Nat} {S : Nat} (hMo : w mo = some (rfO k mn az an ae ac cz ato tz ca aps apt al aip pz wy fi se ho lx ly ts tS alo alt aic arw aco act asp cs anu aor ann av ald ahd lz hz1 nl nh acn ce ais aq acf acb qd aw)) (h_az : w az = some (.inl (t 0, 60, .inl (iA Sz)))) (h_alo : w alo = some (.inl (t 0, 40, .inl (iA LO)))) (hn : Sz fi ≤ 40) (hf6 : fi < 60) (hS : S < 2 ^ 64) (hLO : ∀ u, u < Sz fi → LO u < 2 ^ 31) : Ml l y_Ref_alike b_Ref_alike 7 (some .long) 0 0 0 0 D t w sz [.ref mo, .long (lN S)] (fun r w' => r = (lN (alk LO S (Sz fi) (Sz fi))) ∧ w' = w) := by
  refine start_l (by decide) (Nat.le_of_ble_eq_true rfl) ?_
  intro p e s m below meth c ls H locs X hB hl
  have hx := X.1
  have hb := X.2.1
  have hl : lv_has ls 7 [(0, .ref mo), (1, .long (lN S))] := hl
  refine lv_lconst (v := lN 0) hx hb d_Ref_alike_0 (by decide) ?_
  refine lv_lstore_n (lv' := [(3, .long (lN 0)), (0, .ref mo), (1, .long (lN S))]) hx hb d_Ref_alike_1 rfl hl (by decide) rfl (fun ls hl => ?_)
  refine lv_iconst (v := nI 0) hx hb d_Ref_alike_2 (by decide) ?_
  refine lv_istore (lv' := [(5, .int (nI 0)), (3, .long (lN 0)), (0, .ref mo), (1, .long (lN S))]) hx hb d_Ref_alike_3 hl (by decide) rfl (fun ls hl => ?_)
  refine c_Ref_alike_L5 (l := l) X hMo h_az h_alo hn hf6 hS hLO (fun u hu he H locs ls hl hB => ?_) (Sz fi - 0 + 1) 0 (by omega) (by omega) H locs ls (lv_sub hl [2, 3, 1, 0] rfl) hB
  refine lv_lload_n hx hb d_Ref_alike_83 rfl (lv_at hl 2 rfl) ?_
  refine ret_l X hB d_Ref_alike_84 ?_
  subst he; exact ⟨rfl, rfl⟩
set_option maxHeartbeats 4000000 in
set_option maxRecDepth 100000 in
theorem c_Ref_isSameLike_L24 {l : Launch} {D : va_G} {t : Nat → ClassId} {w : wf_W} {mo az an ae ac ato aps apt al aip alo alt aic arw aco act asp anu aor ann ald ahd acn ais aq acf acb aw k mn cz tz ca pz wy fi se ho lx ly ts tS cs av lz hz1 nl nh ce qd : Nat} {Sz Nx En LO : Nat → Nat} {u v : Nat}  {p : Program} {e : Env} {s : State} {m : MethodId} {below : List Frame} {meth : Method} {c : Code} {Q : State → Prop} (X : Cx p s m meth c R_Ref "isSameLike" b_Ref_isSameLike 5 (some .boolean) D t) (hMo : w mo = some (rfO k mn az an ae ac cz ato tz ca aps apt al aip pz wy fi se ho lx ly ts tS alo alt aic arw aco act asp cs anu aor ann av ald ahd lz hz1 nl nh acn ce ais aq acf acb qd aw)) (h_an : w an = some (.inl (t 0, 9600, .inl (iA Nx)))) (h_alo : w alo = some (.inl (t 0, 40, .inl (iA LO)))) (hm : rOK k (Sz fi) (En fi) (nxt Nx fi)) (hf6 : fi < 60) (hu : u < Sz fi) (hv : v < Sz fi) (hLO : ∀ u, u < Sz fi → LO u < 2 ^ 31)
    (K_84 : ∀ (j : Nat) (bb : Bool), (j ≤ k) → (bb = true ↔ (LO u = LO v ∧ ∀ b, b < j → LO (nxt Nx fi u b) = LO (nxt Nx fi v b))) → (bb = true ↔ smL LO (nxt Nx fi) k u v) → ∀ (H : Heap) (locs : List Loc) (ls : Array Slot), lv_has ls 5 [(0, .ref mo), (1, .int (nI u)), (2, .int (nI v)), (3, .int (bI bb)), (4, .int (nI j))] → wf_B D wcl (wf_A w s.heap.size) s.heap w H locs → W p l e (rmk 1 23 0 0) s m [.ref mo, .int (nI u), .int (nI v)].toArray below meth c H locs 0 0 Q (F0 m 84 ls [])) :
    ∀ (fu : Nat) (j : Nat) (bb : Bool), (j ≤ k) → (bb = true ↔ (LO u = LO v ∧ ∀ b, b < j → LO (nxt Nx fi u b) = LO (nxt Nx fi v b))) → k - j < fu → ∀ (H : Heap) (locs : List Loc) (ls : Array Slot), lv_has ls 5 [(0, .ref mo), (1, .int (nI u)), (2, .int (nI v)), (3, .int (bI bb)), (4, .int (nI j))] → wf_B D wcl (wf_A w s.heap.size) s.heap w H locs → W p l e (rmk 1 23 0 0) s m [.ref mo, .int (nI u), .int (nI v)].toArray below meth c H locs 0 0 Q (F0 m 24 ls []) := by
  have hx := X.1
  have hb := X.2.1
  intro fu
  induction fu with
  | zero => intro j bb hj hbb hfu; exact absurd hfu (Nat.not_lt_zero _)
  | succ fu ih =>
    intro j bb hj hbb hfu H locs ls hl hB
    have hM := rOK_m hm
    have hk := hm.1
    have hn := hm.2.1
    have hn0 := hm.2.2.1
    have hE := hm.E40
    have hs1 : j < k → nxt Nx fi u j < Sz fi := fun q9 => hm.2.2.2.2 u j hu q9
    have hs2 : j < k → nxt Nx fi v j < Sz fi := fun q9 => hm.2.2.2.2 v j hv q9
    refine lv_iload hx hb d_Ref_isSameLike_24 (lv_at hl 4 rfl) ?_
    refine lv_aload_n hx hb d_Ref_isSameLike_26 rfl (lv_at hl 0 rfl) ?_
    refine rget X hB  i_Ref hMo cl_Ref 0 (by decide) k_874 rfl rfl d_Ref_isSameLike_27 ?_
    refine wf_cge (tgt := 84) hx hb d_Ref_isSameLike_30 (by decide) (nI_toInt (by omega)) (nI_toInt (by omega)) (fun c_30 => ?_) (fun c_30 => ?_)
    · exact K_84 j bb hj hbb (by first | (have e9 : j = k := (by omega); rw [hbb, e9]; exact Iff.rfl) | (rw [c_34]; constructor; (intro q9; cases q9); intro q9; rw [hbb.mpr ⟨q9.1, fun b hb => q9.2 b (by omega)⟩] at c_34; cases c_34)) H locs ls (lv_sub hl [0, 1, 2, 3, 4] rfl) hB
    · refine lv_iload_n hx hb d_Ref_isSameLike_33 rfl (lv_at hl 3 rfl) ?_
      refine wf_beq (tgt := 84) hx hb d_Ref_isSameLike_34 (by decide) (fun c_34 => ?_) (fun c_34 => ?_)
      · exact K_84 j bb hj hbb (by first | (have e9 : j = k := (by omega); rw [hbb, e9]; exact Iff.rfl) | (rw [c_34]; constructor; (intro q9; cases q9); intro q9; rw [hbb.mpr ⟨q9.1, fun b hb => q9.2 b (by omega)⟩] at c_34; cases c_34)) H locs ls (lv_sub hl [0, 1, 2, 3, 4] rfl) hB
      · refine lv_aload_n hx hb d_Ref_isSameLike_37 rfl (lv_at hl 0 rfl) ?_
        refine rget X hB  i_Ref hMo cl_Ref 23 (by decide) k_897 rfl rfl d_Ref_isSameLike_38 ?_
        refine lv_aload_n hx hb d_Ref_isSameLike_41 rfl (lv_at hl 0 rfl) ?_
        refine lv_aload_n hx hb d_Ref_isSameLike_42 rfl (lv_at hl 0 rfl) ?_
        refine rget X hB  i_Ref hMo cl_Ref 16 (by decide) k_890 rfl rfl d_Ref_isSameLike_43 ?_
        refine lv_iload_n hx hb d_Ref_isSameLike_46 rfl (lv_at hl 1 rfl) ?_
        refine lv_iload hx hb d_Ref_isSameLike_47 (lv_at hl 4 rfl) ?_
        refine callVi (As := [.int (nI fi), .int (nI u), .int (nI j)]) (rest := [.ref alo]) X hB wf_hA (c_Ref_nextOf (l := l) (D := D) (t := t) (w := w) (sz := H.size) (mo := mo) (az := az) (an := an) (ae := ae) (ac := ac) (ato := ato) (aps := aps) (apt := apt) (al := al) (aip := aip) (alo := alo) (alt := alt) (aic := aic) (arw := arw) (aco := aco) (act := act) (asp := asp) (anu := anu) (aor := aor) (ann := ann) (ald := ald) (ahd := ahd) (acn := acn) (ais := ais) (aq := aq) (acf := acf) (acb := acb) (aw := aw) (k := k) (mn := mn) (cz := cz) (tz := tz) (ca := ca) (pz := pz) (wy := wy) (fi := fi) (se := se) (ho := ho) (lx := lx) (ly := ly) (ts := ts) (tS := tS) (cs := cs) (av := av) (lz := lz) (hz1 := hz1) (nl := nl) (nh := nh) (ce := ce) (qd := qd) (Nx := Nx) (a := fi) (u := u) (b := j) hMo h_an (by exact hf6) (by omega) (by omega)) k_1070 k_1072 k_41 k_75 k_1073 hMo cl_Ref rfl hd_Ref_nextOf ⟨Nat.le_of_ble_eq_true rfl, Nat.le_of_ble_eq_true rfl⟩ ⟨Nat.le_of_ble_eq_true rfl, Nat.le_of_ble_eq_true rfl⟩ hl.1 (Nat.le_of_ble_eq_true rfl) d_Ref_isSameLike_49 rfl (fun r_49 w1 H locs hp hB => ?_)
        obtain ⟨rfl, hw_49⟩ := hp
        have hB : wf_B D wcl (wf_A w s.heap.size) s.heap w H locs := wf_Bto hw_49 hB
        refine riald X hB  h_alo (i := nxt Nx fi u j) (by omega) (by decide) d_Ref_isSameLike_52 ?_
        refine wf_ti (y := nI (LO (nxt Nx fi u j))) rfl ?_
        refine lv_aload_n hx hb d_Ref_isSameLike_53 rfl (lv_at hl 0 rfl) ?_
        refine rget X hB  i_Ref hMo cl_Ref 23 (by decide) k_897 rfl rfl d_Ref_isSameLike_54 ?_
        refine lv_aload_n hx hb d_Ref_isSameLike_57 rfl (lv_at hl 0 rfl) ?_
        refine lv_aload_n hx hb d_Ref_isSameLike_58 rfl (lv_at hl 0 rfl) ?_
        refine rget X hB  i_Ref hMo cl_Ref 16 (by decide) k_890 rfl rfl d_Ref_isSameLike_59 ?_
        refine lv_iload_n hx hb d_Ref_isSameLike_62 rfl (lv_at hl 2 rfl) ?_
        refine lv_iload hx hb d_Ref_isSameLike_63 (lv_at hl 4 rfl) ?_
        refine callVi (As := [.int (nI fi), .int (nI v), .int (nI j)]) (rest := [.ref alo, .int (nI (LO (nxt Nx fi u j)))]) X hB wf_hA (c_Ref_nextOf (l := l) (D := D) (t := t) (w := w) (sz := H.size) (mo := mo) (az := az) (an := an) (ae := ae) (ac := ac) (ato := ato) (aps := aps) (apt := apt) (al := al) (aip := aip) (alo := alo) (alt := alt) (aic := aic) (arw := arw) (aco := aco) (act := act) (asp := asp) (anu := anu) (aor := aor) (ann := ann) (ald := ald) (ahd := ahd) (acn := acn) (ais := ais) (aq := aq) (acf := acf) (acb := acb) (aw := aw) (k := k) (mn := mn) (cz := cz) (tz := tz) (ca := ca) (pz := pz) (wy := wy) (fi := fi) (se := se) (ho := ho) (lx := lx) (ly := ly) (ts := ts) (tS := tS) (cs := cs) (av := av) (lz := lz) (hz1 := hz1) (nl := nl) (nh := nh) (ce := ce) (qd := qd) (Nx := Nx) (a := fi) (u := v) (b := j) hMo h_an (by exact hf6) (by omega) (by omega)) k_1070 k_1072 k_41 k_75 k_1073 hMo cl_Ref rfl hd_Ref_nextOf ⟨Nat.le_of_ble_eq_true rfl, Nat.le_of_ble_eq_true rfl⟩ ⟨Nat.le_of_ble_eq_true rfl, Nat.le_of_ble_eq_true rfl⟩ hl.1 (Nat.le_of_ble_eq_true rfl) d_Ref_isSameLike_65 rfl (fun r_65 w1 H locs hp hB => ?_)
        obtain ⟨rfl, hw_65⟩ := hp
        have hB : wf_B D wcl (wf_A w s.heap.size) s.heap w H locs := wf_Bto hw_65 hB
        refine riald X hB  h_alo (i := nxt Nx fi v j) (by omega) (by decide) d_Ref_isSameLike_68 ?_
        refine wf_ti (y := nI (LO (nxt Nx fi v j))) rfl ?_
        refine wf_cne (tgt := 76) hx hb d_Ref_isSameLike_69 (by decide) (nI_toInt (by exact hLO _ (hs1 (by omega)))) (nI_toInt (by exact hLO _ (hs2 (by omega)))) (fun c_69 => ?_) (fun c_69 => ?_)
        · refine lv_iconst (v := nI 0) hx hb d_Ref_isSameLike_76 (by decide) ?_
          refine lv_istore_n (lv' := [(3, .int (nI 0)), (0, .ref mo), (1, .int (nI u)), (2, .int (nI v)), (4, .int (nI j))]) hx hb d_Ref_isSameLike_77 rfl hl (by decide) rfl (fun ls hl => ?_)
          refine lv_iinc (v := nI (j + 1)) (lv' := [(4, .int (nI (j + 1))), (3, .int (nI 0)), (0, .ref mo), (1, .int (nI u)), (2, .int (nI v))]) hx hb d_Ref_isSameLike_78 hl (k := 4) rfl (show nI j + nI 1 = nI (j + 1) from nI_add _ _) (by decide) rfl (fun ls hl => ?_)
          refine lv_goto (tgt := 24) hx hb d_Ref_isSameLike_81 (by decide) ?_
          exact ih (j + 1) false (by omega) (by first | (constructor; (intro _; refine ⟨(hbb.mp c_34).1, fun b hb => ?_⟩; by_cases e9 : b = j; (rw [e9]; omega); exact (hbb.mp c_34).2 b (by omega)); intro _; rfl) | (constructor; (intro q9; cases q9); intro q9; exact absurd (q9.2 j (by omega)) (by omega))) (by omega) H locs ls (lv_sub hl [2, 3, 4, 1, 0] rfl) hB
        · refine lv_iconst (v := nI 1) hx hb d_Ref_isSameLike_72 (by decide) ?_
          refine lv_goto (tgt := 77) hx hb d_Ref_isSameLike_73 (by decide) ?_
          refine lv_istore_n (lv' := [(3, .int (nI 1)), (0, .ref mo), (1, .int (nI u)), (2, .int (nI v)), (4, .int (nI j))]) hx hb d_Ref_isSameLike_77 rfl hl (by decide) rfl (fun ls hl => ?_)
          refine lv_iinc (v := nI (j + 1)) (lv' := [(4, .int (nI (j + 1))), (3, .int (nI 1)), (0, .ref mo), (1, .int (nI u)), (2, .int (nI v))]) hx hb d_Ref_isSameLike_78 hl (k := 4) rfl (show nI j + nI 1 = nI (j + 1) from nI_add _ _) (by decide) rfl (fun ls hl => ?_)
          refine lv_goto (tgt := 24) hx hb d_Ref_isSameLike_81 (by decide) ?_
          exact ih (j + 1) true (by omega) (by first | (constructor; (intro _; refine ⟨(hbb.mp c_34).1, fun b hb => ?_⟩; by_cases e9 : b = j; (rw [e9]; omega); exact (hbb.mp c_34).2 b (by omega)); intro _; rfl) | (constructor; (intro q9; cases q9); intro q9; exact absurd (q9.2 j (by omega)) (by omega))) (by omega) H locs ls (lv_sub hl [2, 3, 4, 1, 0] rfl) hB
set_option maxHeartbeats 4000000 in
set_option maxRecDepth 100000 in
theorem c_Ref_isSameLike {l : Launch} {D : va_G} {t : Nat → ClassId} {w : wf_W} {sz : Nat} {mo az an ae ac ato aps apt al aip alo alt aic arw aco act asp anu aor ann ald ahd acn ais aq acf acb aw k mn cz tz ca pz wy fi se ho lx ly ts tS cs av lz hz1 nl nh ce qd : Nat} {Sz Nx En LO : Nat → Nat} {u v : Nat} (hMo : w mo = some (rfO k mn az an ae ac cz ato tz ca aps apt al aip pz wy fi se ho lx ly ts tS alo alt aic arw aco act asp cs anu aor ann av ald ahd lz hz1 nl nh acn ce ais aq acf acb qd aw)) (h_an : w an = some (.inl (t 0, 9600, .inl (iA Nx)))) (h_alo : w alo = some (.inl (t 0, 40, .inl (iA LO)))) (hm : rOK k (Sz fi) (En fi) (nxt Nx fi)) (hf6 : fi < 60) (hu : u < Sz fi) (hv : v < Sz fi) (hLO : ∀ u, u < Sz fi → LO u < 2 ^ 31) : Mi l y_Ref_isSameLike b_Ref_isSameLike 5 (some .boolean) 1 23 0 0 D t w sz [.ref mo, .int (nI u), .int (nI v)] (fun r w' => ((smL LO (nxt Nx fi) k u v) ∧ r = (bI true) ∧ w' = w) ∨ ((¬ smL LO (nxt Nx fi) k u v) ∧ r = (bI false) ∧ w' = w)) := by
  refine start_i (by decide) (Nat.le_of_ble_eq_true rfl) ?_
  intro p e s m below meth c ls H locs X hB hl
  have hx := X.1
  have hb := X.2.1
  have hl : lv_has ls 5 [(0, .ref mo), (1, .int (nI u)), (2, .int (nI v))] := hl
  have hM := rOK_m hm
  have hk := hm.1
  have hn := hm.2.1
  have hn0 := hm.2.2.1
  have hE := hm.E40
  refine lv_aload_n hx hb d_Ref_isSameLike_0 rfl (lv_at hl 0 rfl) ?_
  refine rget X hB  i_Ref hMo cl_Ref 23 (by decide) k_897 rfl rfl d_Ref_isSameLike_1 ?_
  refine lv_iload_n hx hb d_Ref_isSameLike_4 rfl (lv_at hl 1 rfl) ?_
  refine riald X hB  h_alo (i := u) (by omega) (by decide) d_Ref_isSameLike_5 ?_
  refine wf_ti (y := nI (LO u)) rfl ?_
  refine lv_aload_n hx hb d_Ref_isSameLike_6 rfl (lv_at hl 0 rfl) ?_
  refine rget X hB  i_Ref hMo cl_Ref 23 (by decide) k_897 rfl rfl d_Ref_isSameLike_7 ?_
  refine lv_iload_n hx hb d_Ref_isSameLike_10 rfl (lv_at hl 2 rfl) ?_
  refine riald X hB  h_alo (i := v) (by omega) (by decide) d_Ref_isSameLike_11 ?_
  refine wf_ti (y := nI (LO v)) rfl ?_
  refine wf_cne (tgt := 19) hx hb d_Ref_isSameLike_12 (by decide) (nI_toInt (by exact hLO u hu)) (nI_toInt (by exact hLO v hv)) (fun c_12 => ?_) (fun c_12 => ?_)
  · refine lv_iconst (v := nI 0) hx hb d_Ref_isSameLike_19 (by decide) ?_
    refine lv_istore_n (lv' := [(3, .int (nI 0)), (0, .ref mo), (1, .int (nI u)), (2, .int (nI v))]) hx hb d_Ref_isSameLike_20 rfl hl (by decide) rfl (fun ls hl => ?_)
    refine lv_iconst (v := nI 0) hx hb d_Ref_isSameLike_21 (by decide) ?_
    refine lv_istore (lv' := [(4, .int (nI 0)), (3, .int (nI 0)), (0, .ref mo), (1, .int (nI u)), (2, .int (nI v))]) hx hb d_Ref_isSameLike_22 hl (by decide) rfl (fun ls hl => ?_)
    refine c_Ref_isSameLike_L24 (l := l) X hMo h_an h_alo hm hf6 hu hv hLO (fun j bb hj hbb he H locs ls hl hB => ?_) (k - 0 + 1) 0 false (by omega) (by first | (constructor; (intro _; exact ⟨by omega, fun b hb => by omega⟩); intro _; rfl) | (constructor; (intro q9; cases q9); intro q9; exact absurd q9.1 (by omega))) (by omega) H locs ls (lv_sub hl [2, 3, 4, 1, 0] rfl) hB
    refine lv_iload_n hx hb d_Ref_isSameLike_84 rfl (lv_at hl 3 rfl) ?_
    refine ret_z X hB d_Ref_isSameLike_85 ?_
    cases bb
    · exact Or.inr ⟨fun q9 => (by have := he.mpr q9; cases this), rfl, rfl⟩
    · exact Or.inl ⟨he.mp rfl, rfl, rfl⟩
  · refine lv_iconst (v := nI 1) hx hb d_Ref_isSameLike_15 (by decide) ?_
    refine lv_goto (tgt := 20) hx hb d_Ref_isSameLike_16 (by decide) ?_
    refine lv_istore_n (lv' := [(3, .int (nI 1)), (0, .ref mo), (1, .int (nI u)), (2, .int (nI v))]) hx hb d_Ref_isSameLike_20 rfl hl (by decide) rfl (fun ls hl => ?_)
    refine lv_iconst (v := nI 0) hx hb d_Ref_isSameLike_21 (by decide) ?_
    refine lv_istore (lv' := [(4, .int (nI 0)), (3, .int (nI 1)), (0, .ref mo), (1, .int (nI u)), (2, .int (nI v))]) hx hb d_Ref_isSameLike_22 hl (by decide) rfl (fun ls hl => ?_)
    refine c_Ref_isSameLike_L24 (l := l) X hMo h_an h_alo hm hf6 hu hv hLO (fun j bb hj hbb he H locs ls hl hB => ?_) (k - 0 + 1) 0 true (by omega) (by first | (constructor; (intro _; exact ⟨by omega, fun b hb => by omega⟩); intro _; rfl) | (constructor; (intro q9; cases q9); intro q9; exact absurd q9.1 (by omega))) (by omega) H locs ls (lv_sub hl [2, 3, 4, 1, 0] rfl) hB
    refine lv_iload_n hx hb d_Ref_isSameLike_84 rfl (lv_at hl 3 rfl) ?_
    refine ret_z X hB d_Ref_isSameLike_85 ?_
    cases bb
    · exact Or.inr ⟨fun q9 => (by have := he.mpr q9; cases this), rfl, rfl⟩
    · exact Or.inl ⟨he.mp rfl, rfl, rfl⟩
