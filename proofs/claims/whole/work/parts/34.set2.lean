def chn (k n : Nat) (st : Nat → Nat → Nat) (x u : Nat) : Nat → Nat
  | 0 => u
  | i + 1 => stp k n st (chn k n st x u i) x
def sby (k n : Nat) (st : Nat → Nat → Nat) (x u : Nat) : Nat → Nat
  | 0 => 2 ^ u
  | i + 1 => sby k n st x u i ||| 2 ^ chn k n st x u (i + 1)
theorem chn_lt {k n E : Nat} {f : Nat → Int32} {st : Nat → Nat → Nat} (hm : mOK k n E f st) {x u : Nat} (hu : u < 40) : ∀ i, chn k n st x u i < 40
  | 0 => hu
  | i + 1 => Nat.lt_of_lt_of_le (stp_lt hm _ _) hm.2.1
theorem sby_lt {k n E : Nat} {f : Nat → Int32} {st : Nat → Nat → Nat} (hm : mOK k n E f st) {x u : Nat} (hu : u < 40) : ∀ i, sby k n st x u i < 2 ^ 40
  | 0 => Nat.pow_lt_pow_right (by decide) hu
  | i + 1 => Nat.or_lt_two_pow (sby_lt hm hu i) (Nat.pow_lt_pow_right (by decide) (chn_lt hm hu (i + 1)))
def cmR (n E u : Nat) : Nat := 2 ^ u ||| (if (decide (u < n) && E.testBit u) = true then 1 else 0)
theorem cmR_lt {n E u : Nat} (hu : u < 40) : cmR n E u < 2 ^ 40 := by
  unfold cmR
  refine Nat.or_lt_two_pow (Nat.pow_lt_pow_right (by decide) hu) ?_
  split <;> decide
def rvS (k n : Nat) (st : Nat → Nat → Nat) (v a : Nat) : Nat → Nat
  | 0 => 0
  | u + 1 => if stp k n st u a = v then rvS k n st v a u ||| 2 ^ u else rvS k n st v a u
theorem rvS_lt {k n : Nat} {st : Nat → Nat → Nat} {v a : Nat} : ∀ u, u ≤ 40 → rvS k n st v a u < 2 ^ 40
  | 0, _ => by simp [rvS]
  | u + 1, h => by
    have ih := rvS_lt (k := k) (n := n) (st := st) (v := v) (a := a) u (by omega)
    rw [rvS]
    split
    · exact Nat.or_lt_two_pow ih (Nat.pow_lt_pow_right (by decide) (by omega))
    · exact ih
def shI (k n : Nat) (st : Nat → Nat → Nat) (C : Nat → Nat) (u : Nat) : Nat → Nat
  | 0 => 0
  | o + 1 => if (C u).testBit o = true ∧ ∀ a, a < k → (C (stp k n st u a)).testBit (stp k n st o a) = true then shI k n st C u o ||| 2 ^ o else shI k n st C u o
theorem shI_lt {k n : Nat} {st : Nat → Nat → Nat} {C : Nat → Nat} {u : Nat} : ∀ o, o ≤ 40 → shI k n st C u o < 2 ^ 40
  | 0, _ => by simp [shI]
  | o + 1, h => by
    have ih := shI_lt (k := k) (n := n) (st := st) (C := C) (u := u) o (by omega)
    rw [shI]
    split
    · exact Nat.or_lt_two_pow ih (Nat.pow_lt_pow_right (by decide) (by omega))
    · exact ih
def bl0 (n E u : Nat) : Nat := if (decide (u < n) && E.testBit u) = true then E else 2 ^ n - (E + 1)
def blr (k n E : Nat) (st : Nat → Nat → Nat) : Nat → Nat → Nat
  | 0 => bl0 n E
  | d + 1 => fun u => if u < n then shI k n st (blr k n E st d) u n else blr k n E st d u
theorem blr_lt {k n E : Nat} {st : Nat → Nat → Nat} (hn : n ≤ 40) (hE : E < 2 ^ 40) : ∀ d u, blr k n E st d u < 2 ^ 40
  | 0, u => by
    show bl0 n E u < _
    unfold bl0
    split
    · exact hE
    · have := pow_le40 hn; have := Nat.two_pow_pos n; omega
  | d + 1, u => by
    show (if u < n then shI k n st (blr k n E st d) u n else blr k n E st d u) < _
    split
    · exact shI_lt n hn
    · exact blr_lt hn hE d u
theorem compl_and {n E : Nat} (hn : n ≤ 40) (hE : E < 2 ^ n) : lN (2 ^ n - 1) &&& (lN E ^^^ (-1)) = lN (2 ^ n - (E + 1)) := by
  have h40 := pow_le40 hn
  apply wb_inj
  apply BitVec.eq_of_getLsbD_eq
  intro i hi
  rw [Int64.toBitVec_and, Int64.toBitVec_xor, wb_tb, wb_tb, wb_tb]
  have hm : (-1 : Int64).toBitVec = BitVec.allOnes 64 := by decide
  simp only [hm, BitVec.getLsbD_and, BitVec.getLsbD_xor, BitVec.getLsbD_ofNat, BitVec.getLsbD_allOnes, hi, decide_true, Bool.true_and, Nat.testBit_two_pow_sub_one, Nat.testBit_two_pow_sub_succ hE]
  cases E.testBit i <;> simp
theorem shI_congr {k n E : Nat} {f : Nat → Int32} {st : Nat → Nat → Nat} (hm : mOK k n E f st) {C K : Nat → Nat} (h : ∀ v, v < 40 → C v = K v) {u : Nat} (hu : u < 40) : ∀ {o : Nat}, shI k n st C u o = shI k n st K u o := by
  intro o
  induction o with
  | zero => rfl
  | succ o ih =>
    rw [shI, shI, ih, h u hu]
    have e : (∀ a, a < k → (C (stp k n st u a)).testBit (stp k n st o a) = true) ↔ (∀ a, a < k → (K (stp k n st u a)).testBit (stp k n st o a) = true) := by
      constructor <;> intro q a ha
      · rw [← h _ (Nat.lt_of_lt_of_le (stp_lt hm u a) hm.2.1)]; exact q a ha
      · rw [h _ (Nat.lt_of_lt_of_le (stp_lt hm u a) hm.2.1)]; exact q a ha
    simp only [e]
set_option maxHeartbeats 4000000 in
set_option maxRecDepth 100000 in
theorem c_Set_follow_L2 {l : Launch} {D : va_G} {t : Nat → ClassId} {w : wf_W} {r rl rc rz k b en : Nat} {G C : Nat → Nat} {h hs n E : Nat} {f : Nat → Int32} {st : Nat → Nat → Nat}  {p : Program} {e : Env} {s : State} {m : MethodId} {below : List Frame} {meth : Method} {c : Code} {Q : State → Prop} (X : Cx p s m meth c R_Set "follow" b_Set_follow 3 none D t) (hN : nd [r, rl, rc, h, hs]) (hS : w r = some (.inr (3, [.int (nI k), .ref rl, .ref rc, .ref rz, .long (lN b), .long (lN en)]))) (hL : w rl = some (.inl (t 1, 164, .inr (.inl (lA G))))) (hC : w rc = some (.inl (t 1, 40, .inr (.inl (lA C))))) (hM : w h = some (.inr (1, [.int (nI k), .ref hs, .int (nI n), .long (lN E)]))) (hF : w hs = some (.inl (t 0, 40, .inl (pkA f)))) (hm : mOK k n E f st)
    (K_23 : ∀ (i : Nat) (K : Nat → Nat), (i ≤ 40) → (∀ j, j < i → K j = 2 ^ j) → (i = 40) → ∀ (H : Heap) (locs : List Loc) (ls : Array Slot), lv_has ls 3 [(0, .ref r), (1, .ref h), (2, .int (nI i))] → wf_B D wcl (wf_A w s.heap.size) s.heap (wf_l w [(r, .inr (3, [.int (nI k), .ref rl, .ref rc, .ref rz, .long (lN b), .long (lN en)])), (rl, .inl (t 1, 164, .inr (.inl (lA G)))), (rc, .inl (t 1, 40, .inr (.inl (lA K)))), (h, .inr (1, [.int (nI k), .ref hs, .int (nI n), .long (lN E)])), (hs, .inl (t 0, 40, .inl (pkA f)))]) H locs → W p l e (rmk 3 69 0 0) s m [.ref r, .ref h].toArray below meth c H locs 0 0 Q (F0 m 23 ls [])) :
    ∀ (fu : Nat) (i : Nat) (K : Nat → Nat), (i ≤ 40) → (∀ j, j < i → K j = 2 ^ j) → 40 - i < fu → ∀ (H : Heap) (locs : List Loc) (ls : Array Slot), lv_has ls 3 [(0, .ref r), (1, .ref h), (2, .int (nI i))] → wf_B D wcl (wf_A w s.heap.size) s.heap (wf_l w [(r, .inr (3, [.int (nI k), .ref rl, .ref rc, .ref rz, .long (lN b), .long (lN en)])), (rl, .inl (t 1, 164, .inr (.inl (lA G)))), (rc, .inl (t 1, 40, .inr (.inl (lA K)))), (h, .inr (1, [.int (nI k), .ref hs, .int (nI n), .long (lN E)])), (hs, .inl (t 0, 40, .inl (pkA f)))]) H locs → W p l e (rmk 3 69 0 0) s m [.ref r, .ref h].toArray below meth c H locs 0 0 Q (F0 m 2 ls []) := by
  have hx := X.1
  have hb := X.2.1
  intro fu
  induction fu with
  | zero => intro i K hi hg hfu; exact absurd hfu (Nat.not_lt_zero _)
  | succ fu ih =>
    intro i K hi hg hfu H locs ls hl hB
    refine lv_iload_n hx hb d_Set_follow_2 rfl (lv_at hl 2 rfl) ?_
    refine lv_bipush (v := nI 40) hx hb d_Set_follow_3 (by decide) ?_
    refine wf_cge (tgt := 23) hx hb d_Set_follow_5 (by decide) (nI_toInt (by omega)) (nI_toInt (by omega)) (fun c_5 => ?_) (fun c_5 => ?_)
    · exact K_23 i K hi hg (by omega) H locs ls (lv_sub hl [0, 1, 2] rfl) hB
    · refine lv_aload_n hx hb d_Set_follow_8 rfl (lv_at hl 0 rfl) ?_
      refine rgetL X hB hN 0 i_Set rfl cl_Set 2 (by decide) k_183 rfl rfl d_Set_follow_9 ?_
      refine lv_iload_n hx hb d_Set_follow_12 rfl (lv_at hl 2 rfl) ?_
      refine lv_lconst (v := lN 1) hx hb d_Set_follow_13 (by decide) ?_
      refine lv_iload_n hx hb d_Set_follow_14 rfl (lv_at hl 2 rfl) ?_
      refine lv_lshl (v := lN (1 * 2 ^ i)) hx hb d_Set_follow_15 (wb_shl _ (by omega)) ?_
      refine wf_tl (y := lN (2 ^ i)) (by rw [Nat.one_mul]) ?_
      refine rlastA X hB hN 2 (wl' := [(r, .inr (3, [.int (nI k), .ref rl, .ref rc, .ref rz, .long (lN b), .long (lN en)])), (rl, .inl (t 1, 164, .inr (.inl (lA G)))), (rc, .inl (t 1, 40, .inr (.inl (lA (nu K i (2 ^ i)))))), (h, .inr (1, [.int (nI k), .ref hs, .int (nI n), .long (lN E)])), (hs, .inl (t 0, 40, .inl (pkA f)))]) rfl (i := i) (by omega) (by decide) d_Set_follow_16 rfl (fun H locs hB => ?_)
      refine lv_iinc (v := nI (i + 1)) (lv' := [(2, .int (nI (i + 1))), (0, .ref r), (1, .ref h)]) hx hb d_Set_follow_17 hl (k := 2) rfl (show nI i + nI 1 = nI (i + 1) from nI_add _ _) (by decide) rfl (fun ls hl => ?_)
      refine lv_goto (tgt := 2) hx hb d_Set_follow_20 (by decide) ?_
      exact ih (i + 1) (nu K i (2 ^ i)) (by omega) (by intro j hj; by_cases e9 : j = i; rw [nu_e e9, e9]; rw [nu_n e9]; exact hg j (by omega)) (by omega) H locs ls (lv_sub hl [1, 2, 0] rfl) hB
set_option maxHeartbeats 4000000 in
set_option maxRecDepth 100000 in
theorem c_Set_follow {l : Launch} {D : va_G} {t : Nat → ClassId} {w : wf_W} {sz : Nat} {r rl rc rz k b en : Nat} {G C : Nat → Nat} {h hs n E : Nat} {f : Nat → Int32} {st : Nat → Nat → Nat} (hN : nd [r, rl, rc, h, hs]) (hS : w r = some (.inr (3, [.int (nI k), .ref rl, .ref rc, .ref rz, .long (lN b), .long (lN en)]))) (hL : w rl = some (.inl (t 1, 164, .inr (.inl (lA G))))) (hC : w rc = some (.inl (t 1, 40, .inr (.inl (lA C))))) (hM : w h = some (.inr (1, [.int (nI k), .ref hs, .int (nI n), .long (lN E)]))) (hF : w hs = some (.inl (t 0, 40, .inl (pkA f)))) (hm : mOK k n E f st) : Mv l y_Set_follow b_Set_follow 3 none 3 69 0 0 D t w sz [.ref r, .ref h] (fun w' => ∃ G0 : Nat → Nat, ∃ C0 : Nat → Nat, (lOK k G0 (fun z1 z2 => if z1 < n then 2 ^ stp k n st z1 z2 else 0)) ∧ w' = wf_l w [(r, .inr (3, [.int (nI k), .ref rl, .ref rc, .ref rz, .long (lN 1), .long (lN E)])), (rl, .inl (t 1, 164, .inr (.inl (lA G0)))), (rc, .inl (t 1, 40, .inr (.inl (lA C0)))), (h, .inr (1, [.int (nI k), .ref hs, .int (nI n), .long (lN E)])), (hs, .inl (t 0, 40, .inl (pkA f)))]) := by
  refine start_v (by decide) (Nat.le_of_ble_eq_true rfl) ?_
  intro p e s m below meth c ls H locs X hB hl
  have hx := X.1
  have hb := X.2.1
  have hl : lv_has ls 3 [(0, .ref r), (1, .ref h)] := hl
  have hB : wf_B D wcl (wf_A w s.heap.size) s.heap (wf_l w [(r, .inr (3, [.int (nI k), .ref rl, .ref rc, .ref rz, .long (lN b), .long (lN en)])), (rl, .inl (t 1, 164, .inr (.inl (lA G)))), (rc, .inl (t 1, 40, .inr (.inl (lA C)))), (h, .inr (1, [.int (nI k), .ref hs, .int (nI n), .long (lN E)])), (hs, .inl (t 0, 40, .inl (pkA f)))]) H locs := wf_Bto (wf_l5 hS hL hC hM hF).symm hB
  have hk := hm.1
  have hn := hm.2.1
  have hn0 := hm.2.2.1
  have hE := hm.E40
  refine lv_iconst (v := nI 0) hx hb d_Set_follow_0 (by decide) ?_
  refine lv_istore_n (lv' := [(2, .int (nI 0)), (0, .ref r), (1, .ref h)]) hx hb d_Set_follow_1 rfl hl (by decide) rfl (fun ls hl => ?_)
  refine c_Set_follow_L2 (l := l) X hN hS hL hC hM hF hm (fun i K hi hg he H locs ls hl hB => ?_) (40 - 0 + 1) 0 C (by omega) (by intro j hj; omega) (by omega) H locs ls (lv_sub hl [1, 2, 0] rfl) hB
  refine lv_aload_n hx hb d_Set_follow_23 rfl (lv_at hl 0 rfl) ?_
  refine lv_aload_n hx hb d_Set_follow_24 rfl (lv_at hl 1 rfl) ?_
  refine callVv (As := [.ref h]) (rest := []) X hB wf_hA (c_Set_followWithCompany (l := l) (D := D) (t := t) (w := (wf_l w [(r, .inr (3, [.int (nI k), .ref rl, .ref rc, .ref rz, .long (lN b), .long (lN en)])), (rl, .inl (t 1, 164, .inr (.inl (lA G)))), (rc, .inl (t 1, 40, .inr (.inl (lA K)))), (h, .inr (1, [.int (nI k), .ref hs, .int (nI n), .long (lN E)])), (hs, .inl (t 0, 40, .inl (pkA f)))])) (sz := H.size) (r := r) (rl := rl) (rc := rc) (rz := rz) (k := k) (b := b) (en := en) (G := G) (C := K) (h := h) (hs := hs) (n := n) (E := E) (f := f) (st := st) (nd_sub hN [0, 1, 2, 3, 4] rfl (by decide)) (wf_lg (w := w) (l := [(r, .inr (3, [.int (nI k), .ref rl, .ref rc, .ref rz, .long (lN b), .long (lN en)])), (rl, .inl (t 1, 164, .inr (.inl (lA G)))), (rc, .inl (t 1, 40, .inr (.inl (lA K)))), (h, .inr (1, [.int (nI k), .ref hs, .int (nI n), .long (lN E)])), (hs, .inl (t 0, 40, .inl (pkA f)))]) hN 0 rfl) (wf_lg (w := w) (l := [(r, .inr (3, [.int (nI k), .ref rl, .ref rc, .ref rz, .long (lN b), .long (lN en)])), (rl, .inl (t 1, 164, .inr (.inl (lA G)))), (rc, .inl (t 1, 40, .inr (.inl (lA K)))), (h, .inr (1, [.int (nI k), .ref hs, .int (nI n), .long (lN E)])), (hs, .inl (t 0, 40, .inl (pkA f)))]) hN 1 rfl) (wf_lg (w := w) (l := [(r, .inr (3, [.int (nI k), .ref rl, .ref rc, .ref rz, .long (lN b), .long (lN en)])), (rl, .inl (t 1, 164, .inr (.inl (lA G)))), (rc, .inl (t 1, 40, .inr (.inl (lA K)))), (h, .inr (1, [.int (nI k), .ref hs, .int (nI n), .long (lN E)])), (hs, .inl (t 0, 40, .inl (pkA f)))]) hN 2 rfl) (wf_lg (w := w) (l := [(r, .inr (3, [.int (nI k), .ref rl, .ref rc, .ref rz, .long (lN b), .long (lN en)])), (rl, .inl (t 1, 164, .inr (.inl (lA G)))), (rc, .inl (t 1, 40, .inr (.inl (lA K)))), (h, .inr (1, [.int (nI k), .ref hs, .int (nI n), .long (lN E)])), (hs, .inl (t 0, 40, .inl (pkA f)))]) hN 3 rfl) (wf_lg (w := w) (l := [(r, .inr (3, [.int (nI k), .ref rl, .ref rc, .ref rz, .long (lN b), .long (lN en)])), (rl, .inl (t 1, 164, .inr (.inl (lA G)))), (rc, .inl (t 1, 40, .inr (.inl (lA K)))), (h, .inr (1, [.int (nI k), .ref hs, .int (nI n), .long (lN E)])), (hs, .inl (t 0, 40, .inl (pkA f)))]) hN 4 rfl) (by exact hm)) k_608 k_610 k_18 k_70 k_611 (wf_lg (w := w) (l := [(r, .inr (3, [.int (nI k), .ref rl, .ref rc, .ref rz, .long (lN b), .long (lN en)])), (rl, .inl (t 1, 164, .inr (.inl (lA G)))), (rc, .inl (t 1, 40, .inr (.inl (lA K)))), (h, .inr (1, [.int (nI k), .ref hs, .int (nI n), .long (lN E)])), (hs, .inl (t 0, 40, .inl (pkA f)))]) hN 0 rfl) cl_Set rfl hd_Set_followWithCompany ⟨Nat.le_of_ble_eq_true rfl, Nat.le_of_ble_eq_true rfl⟩ ⟨Nat.le_of_ble_eq_true rfl, Nat.le_of_ble_eq_true rfl⟩ hl.1 (Nat.le_of_ble_eq_true rfl) d_Set_follow_25 rfl (fun w1 H locs hp hB => ?_)
  obtain ⟨G0_25, hG0_25, hw_25⟩ := hp
  have hB : wf_B D wcl (wf_A w s.heap.size) s.heap (wf_l w [(r, .inr (3, [.int (nI k), .ref rl, .ref rc, .ref rz, .long (lN (K 0)), .long (lN E)])), (rl, .inl (t 1, 164, .inr (.inl (lA G0_25)))), (rc, .inl (t 1, 40, .inr (.inl (lA K)))), (h, .inr (1, [.int (nI k), .ref hs, .int (nI n), .long (lN E)])), (hs, .inl (t 0, 40, .inl (pkA f)))]) H locs := wf_Bto (hw_25.trans (wlw (L1 := [(r, .inr (3, [.int (nI k), .ref rl, .ref rc, .ref rz, .long (lN (K 0)), .long (lN E)])), (rl, .inl (t 1, 164, .inr (.inl (lA G)))), (rc, .inl (t 1, 40, .inr (.inl (lA K)))), (h, .inr (1, [.int (nI k), .ref hs, .int (nI n), .long (lN E)])), (hs, .inl (t 0, 40, .inl (pkA f)))]) hN 0 rfl rfl (wlw (L1 := [(r, .inr (3, [.int (nI k), .ref rl, .ref rc, .ref rz, .long (lN (K 0)), .long (lN E)])), (rl, .inl (t 1, 164, .inr (.inl (lA G0_25)))), (rc, .inl (t 1, 40, .inr (.inl (lA K)))), (h, .inr (1, [.int (nI k), .ref hs, .int (nI n), .long (lN E)])), (hs, .inl (t 0, 40, .inl (pkA f)))]) hN 1 rfl rfl (wlw (L1 := [(r, .inr (3, [.int (nI k), .ref rl, .ref rc, .ref rz, .long (lN (K 0)), .long (lN E)])), (rl, .inl (t 1, 164, .inr (.inl (lA G0_25)))), (rc, .inl (t 1, 40, .inr (.inl (lA K)))), (h, .inr (1, [.int (nI k), .ref hs, .int (nI n), .long (lN E)])), (hs, .inl (t 0, 40, .inl (pkA f)))]) hN 2 rfl rfl (wlw (L1 := [(r, .inr (3, [.int (nI k), .ref rl, .ref rc, .ref rz, .long (lN (K 0)), .long (lN E)])), (rl, .inl (t 1, 164, .inr (.inl (lA G0_25)))), (rc, .inl (t 1, 40, .inr (.inl (lA K)))), (h, .inr (1, [.int (nI k), .ref hs, .int (nI n), .long (lN E)])), (hs, .inl (t 0, 40, .inl (pkA f)))]) hN 3 rfl rfl (wlw (L1 := [(r, .inr (3, [.int (nI k), .ref rl, .ref rc, .ref rz, .long (lN (K 0)), .long (lN E)])), (rl, .inl (t 1, 164, .inr (.inl (lA G0_25)))), (rc, .inl (t 1, 40, .inr (.inl (lA K)))), (h, .inr (1, [.int (nI k), .ref hs, .int (nI n), .long (lN E)])), (hs, .inl (t 0, 40, .inl (pkA f)))]) hN 4 rfl rfl rfl)))))) hB
  refine ret_v X hB d_Set_follow_28 ?_
  rw [hg 0 (by omega)]; refine ⟨_, _, fun u a hu ha => ?_, rfl⟩; have h1 := stp_lt hm u a; rw [hG0_25 u a hu ha]; by_cases e8 : u < n; (simp only [if_pos e8]; rw [hg _ (by omega)]; exact ⟨rfl, Nat.pow_lt_pow_right (by decide) (by omega)⟩); simp only [if_neg e8]; exact ⟨trivial, by decide⟩
set_option maxHeartbeats 4000000 in
set_option maxRecDepth 100000 in
theorem c_Set_repeat_L44 {l : Launch} {D : va_G} {t : Nat → ClassId} {w : wf_W} {r rl rc rz k b en : Nat} {G C : Nat → Nat} {h hs n E : Nat} {f : Nat → Int32} {st : Nat → Nat → Nat} {b9 : Nat} {C9 : Nat → Nat} {p : Program} {e : Env} {s : State} {m : MethodId} {below : List Frame} {meth : Method} {c : Code} {Q : State → Prop} (X : Cx p s m meth c R_Set "repeat" b_Set_repeat 3 none D t) (hN : nd [r, rl, rc, h, hs]) (hS : w r = some (.inr (3, [.int (nI k), .ref rl, .ref rc, .ref rz, .long (lN b), .long (lN en)]))) (hL : w rl = some (.inl (t 1, 164, .inr (.inl (lA G))))) (hC : w rc = some (.inl (t 1, 40, .inr (.inl (lA C))))) (hM : w h = some (.inr (1, [.int (nI k), .ref hs, .int (nI n), .long (lN E)]))) (hF : w hs = some (.inl (t 0, 40, .inl (pkA f)))) (hm : mOK k n E f st)
    (K_71 : ∀ (j : Nat) (K2 : Nat → Nat), (j ≤ k) → (∀ u a, u ≤ 40 → a < k → K2 (u * 4 + a) = if u < n then cmR n E (stp k n st u a) else if u = 40 ∧ a < j then cmR n E (stp k n st 0 a) else 0) → (j = k) → ∀ (H : Heap) (locs : List Loc) (ls : Array Slot), lv_has ls 3 [(0, .ref r), (1, .ref h), (2, .int (nI j))] → wf_B D wcl (wf_A w s.heap.size) s.heap (wf_l w [(r, .inr (3, [.int (nI k), .ref rl, .ref rc, .ref rz, .long (lN b9), .long (lN E)])), (rl, .inl (t 1, 164, .inr (.inl (lA K2)))), (rc, .inl (t 1, 40, .inr (.inl (lA C9)))), (h, .inr (1, [.int (nI k), .ref hs, .int (nI n), .long (lN E)])), (hs, .inl (t 0, 40, .inl (pkA f)))]) H locs → W p l e (rmk 3 69 0 0) s m [.ref r, .ref h].toArray below meth c H locs 0 0 Q (F0 m 71 ls [])) :
    ∀ (fu : Nat) (j : Nat) (K2 : Nat → Nat), (j ≤ k) → (∀ u a, u ≤ 40 → a < k → K2 (u * 4 + a) = if u < n then cmR n E (stp k n st u a) else if u = 40 ∧ a < j then cmR n E (stp k n st 0 a) else 0) → k - j < fu → ∀ (H : Heap) (locs : List Loc) (ls : Array Slot), lv_has ls 3 [(0, .ref r), (1, .ref h), (2, .int (nI j))] → wf_B D wcl (wf_A w s.heap.size) s.heap (wf_l w [(r, .inr (3, [.int (nI k), .ref rl, .ref rc, .ref rz, .long (lN b9), .long (lN E)])), (rl, .inl (t 1, 164, .inr (.inl (lA K2)))), (rc, .inl (t 1, 40, .inr (.inl (lA C9)))), (h, .inr (1, [.int (nI k), .ref hs, .int (nI n), .long (lN E)])), (hs, .inl (t 0, 40, .inl (pkA f)))]) H locs → W p l e (rmk 3 69 0 0) s m [.ref r, .ref h].toArray below meth c H locs 0 0 Q (F0 m 44 ls []) := by
  have hx := X.1
  have hb := X.2.1
  intro fu
  induction fu with
  | zero => intro j K2 hj hg hfu; exact absurd hfu (Nat.not_lt_zero _)
  | succ fu ih =>
    intro j K2 hj hg hfu H locs ls hl hB
    have hk := hm.1
    have hn := hm.2.1
    have hn0 := hm.2.2.1
    have hE := hm.E40
    refine lv_iload_n hx hb d_Set_repeat_44 rfl (lv_at hl 2 rfl) ?_
    refine lv_aload_n hx hb d_Set_repeat_45 rfl (lv_at hl 0 rfl) ?_
    refine rgetL X hB hN 0 i_Set rfl cl_Set 0 (by decide) k_181 rfl rfl d_Set_repeat_46 ?_
    refine wf_cge (tgt := 71) hx hb d_Set_repeat_49 (by decide) (nI_toInt (by omega)) (nI_toInt (by omega)) (fun c_49 => ?_) (fun c_49 => ?_)
    · exact K_71 j K2 hj hg (by omega) H locs ls (lv_sub hl [0, 1, 2] rfl) hB
    · have hld : lOK k K2 (fun z1 z2 => K2 (z1 * 4 + z2)) := fun u a hu ha => ⟨rfl, by have h1 := stp_lt hm u a; have h2 := stp_lt hm 0 a; have h3 := cmR_lt (n := n) (E := E) (show stp k n st u a < 40 by omega); have h4 := cmR_lt (n := n) (E := E) (show stp k n st 0 a < 40 by omega); show K2 (u * 4 + a) < _; rw [hg u a hu ha]; split; omega; split; omega; decide⟩
      refine lv_aload_n hx hb d_Set_repeat_52 rfl (lv_at hl 0 rfl) ?_
      refine lv_bipush (v := nI 40) hx hb d_Set_repeat_53 (by decide) ?_
      refine lv_iload_n hx hb d_Set_repeat_55 rfl (lv_at hl 2 rfl) ?_
      refine lv_aload_n hx hb d_Set_repeat_56 rfl (lv_at hl 0 rfl) ?_
      refine lv_iconst (v := nI 0) hx hb d_Set_repeat_57 (by decide) ?_
      refine lv_iload_n hx hb d_Set_repeat_58 rfl (lv_at hl 2 rfl) ?_
      refine callVl (As := [.int (nI 0), .int (nI j)]) (rest := [.int (nI j), .int (nI 40), .ref r]) X hB wf_hA (c_Set_lead (l := l) (D := D) (t := t) (w := (wf_l w [(r, .inr (3, [.int (nI k), .ref rl, .ref rc, .ref rz, .long (lN b9), .long (lN E)])), (rl, .inl (t 1, 164, .inr (.inl (lA K2)))), (rc, .inl (t 1, 40, .inr (.inl (lA C9)))), (h, .inr (1, [.int (nI k), .ref hs, .int (nI n), .long (lN E)])), (hs, .inl (t 0, 40, .inl (pkA f)))])) (sz := H.size) (r := r) (rl := rl) (rc := rc) (rz := rz) (k := k) (b := b9) (en := E) (G := K2) (Ld := fun z1 z2 => K2 (z1 * 4 + z2)) (u := 0) (a := j) (wf_lg (w := w) (l := [(r, .inr (3, [.int (nI k), .ref rl, .ref rc, .ref rz, .long (lN b9), .long (lN E)])), (rl, .inl (t 1, 164, .inr (.inl (lA K2)))), (rc, .inl (t 1, 40, .inr (.inl (lA C9)))), (h, .inr (1, [.int (nI k), .ref hs, .int (nI n), .long (lN E)])), (hs, .inl (t 0, 40, .inl (pkA f)))]) hN 0 rfl) (wf_lg (w := w) (l := [(r, .inr (3, [.int (nI k), .ref rl, .ref rc, .ref rz, .long (lN b9), .long (lN E)])), (rl, .inl (t 1, 164, .inr (.inl (lA K2)))), (rc, .inl (t 1, 40, .inr (.inl (lA C9)))), (h, .inr (1, [.int (nI k), .ref hs, .int (nI n), .long (lN E)])), (hs, .inl (t 0, 40, .inl (pkA f)))]) hN 1 rfl) (by omega) (by exact hld) (by omega) (by omega)) k_464 k_466 k_4 k_70 k_467 (wf_lg (w := w) (l := [(r, .inr (3, [.int (nI k), .ref rl, .ref rc, .ref rz, .long (lN b9), .long (lN E)])), (rl, .inl (t 1, 164, .inr (.inl (lA K2)))), (rc, .inl (t 1, 40, .inr (.inl (lA C9)))), (h, .inr (1, [.int (nI k), .ref hs, .int (nI n), .long (lN E)])), (hs, .inl (t 0, 40, .inl (pkA f)))]) hN 0 rfl) cl_Set rfl hd_Set_lead ⟨Nat.le_of_ble_eq_true rfl, Nat.le_of_ble_eq_true rfl⟩ ⟨Nat.le_of_ble_eq_true rfl, Nat.le_of_ble_eq_true rfl⟩ hl.1 (Nat.le_of_ble_eq_true rfl) d_Set_repeat_59 rfl (fun r_59 w1 H locs hp hB => ?_)
      obtain ⟨rfl, hw_59⟩ := hp
      have hB : wf_B D wcl (wf_A w s.heap.size) s.heap (wf_l w [(r, .inr (3, [.int (nI k), .ref rl, .ref rc, .ref rz, .long (lN b9), .long (lN E)])), (rl, .inl (t 1, 164, .inr (.inl (lA K2)))), (rc, .inl (t 1, 40, .inr (.inl (lA C9)))), (h, .inr (1, [.int (nI k), .ref hs, .int (nI n), .long (lN E)])), (hs, .inl (t 0, 40, .inl (pkA f)))]) H locs := wf_Bto hw_59 hB
      refine wf_tl (y := lN (cmR n E (stp k n st 0 j))) (by rw [show (0 : Nat) * 4 + j = 0 * 4 + j from rfl, hg 0 j (by omega) (by omega), if_pos hn0]) ?_
      refine callVv (As := [.int (nI 40), .int (nI j), .long (lN (cmR n E (stp k n st 0 j)))]) (rest := []) X hB wf_hA (c_Set_setLead (l := l) (D := D) (t := t) (w := (wf_l w [(r, .inr (3, [.int (nI k), .ref rl, .ref rc, .ref rz, .long (lN b9), .long (lN E)])), (rl, .inl (t 1, 164, .inr (.inl (lA K2)))), (rc, .inl (t 1, 40, .inr (.inl (lA C9)))), (h, .inr (1, [.int (nI k), .ref hs, .int (nI n), .long (lN E)])), (hs, .inl (t 0, 40, .inl (pkA f)))])) (sz := H.size) (r := r) (rl := rl) (rc := rc) (rz := rz) (k := k) (b := b9) (en := E) (G := K2) (u := 40) (a := j) (x := cmR n E (stp k n st 0 j)) (nd_sub hN [0, 1] rfl (by decide)) (wf_lg (w := w) (l := [(r, .inr (3, [.int (nI k), .ref rl, .ref rc, .ref rz, .long (lN b9), .long (lN E)])), (rl, .inl (t 1, 164, .inr (.inl (lA K2)))), (rc, .inl (t 1, 40, .inr (.inl (lA C9)))), (h, .inr (1, [.int (nI k), .ref hs, .int (nI n), .long (lN E)])), (hs, .inl (t 0, 40, .inl (pkA f)))]) hN 0 rfl) (wf_lg (w := w) (l := [(r, .inr (3, [.int (nI k), .ref rl, .ref rc, .ref rz, .long (lN b9), .long (lN E)])), (rl, .inl (t 1, 164, .inr (.inl (lA K2)))), (rc, .inl (t 1, 40, .inr (.inl (lA C9)))), (h, .inr (1, [.int (nI k), .ref hs, .int (nI n), .long (lN E)])), (hs, .inl (t 0, 40, .inl (pkA f)))]) hN 1 rfl) (by omega) (by decide) (by omega)) k_621 k_623 k_21 k_70 k_624 (wf_lg (w := w) (l := [(r, .inr (3, [.int (nI k), .ref rl, .ref rc, .ref rz, .long (lN b9), .long (lN E)])), (rl, .inl (t 1, 164, .inr (.inl (lA K2)))), (rc, .inl (t 1, 40, .inr (.inl (lA C9)))), (h, .inr (1, [.int (nI k), .ref hs, .int (nI n), .long (lN E)])), (hs, .inl (t 0, 40, .inl (pkA f)))]) hN 0 rfl) cl_Set rfl hd_Set_setLead ⟨Nat.le_of_ble_eq_true rfl, Nat.le_of_ble_eq_true rfl⟩ ⟨Nat.le_of_ble_eq_true rfl, Nat.le_of_ble_eq_true rfl⟩ hl.1 (Nat.le_of_ble_eq_true rfl) d_Set_repeat_62 rfl (fun w1 H locs hp hB => ?_)
      have hw_62 := hp
      have hB : wf_B D wcl (wf_A w s.heap.size) s.heap (wf_l w [(r, .inr (3, [.int (nI k), .ref rl, .ref rc, .ref rz, .long (lN b9), .long (lN E)])), (rl, .inl (t 1, 164, .inr (.inl (lA (nu K2 (40 * 4 + j) (cmR n E (stp k n st 0 j))))))), (rc, .inl (t 1, 40, .inr (.inl (lA C9)))), (h, .inr (1, [.int (nI k), .ref hs, .int (nI n), .long (lN E)])), (hs, .inl (t 0, 40, .inl (pkA f)))]) H locs := wf_Bto (hw_62.trans (wlw (L1 := [(r, .inr (3, [.int (nI k), .ref rl, .ref rc, .ref rz, .long (lN b9), .long (lN E)])), (rl, .inl (t 1, 164, .inr (.inl (lA K2)))), (rc, .inl (t 1, 40, .inr (.inl (lA C9)))), (h, .inr (1, [.int (nI k), .ref hs, .int (nI n), .long (lN E)])), (hs, .inl (t 0, 40, .inl (pkA f)))]) hN 0 rfl rfl (wlw (L1 := [(r, .inr (3, [.int (nI k), .ref rl, .ref rc, .ref rz, .long (lN b9), .long (lN E)])), (rl, .inl (t 1, 164, .inr (.inl (lA (nu K2 (40 * 4 + j) (cmR n E (stp k n st 0 j))))))), (rc, .inl (t 1, 40, .inr (.inl (lA C9)))), (h, .inr (1, [.int (nI k), .ref hs, .int (nI n), .long (lN E)])), (hs, .inl (t 0, 40, .inl (pkA f)))]) hN 1 rfl rfl rfl))) hB
      refine lv_iinc (v := nI (j + 1)) (lv' := [(2, .int (nI (j + 1))), (0, .ref r), (1, .ref h)]) hx hb d_Set_repeat_65 hl (k := 2) rfl (show nI j + nI 1 = nI (j + 1) from nI_add _ _) (by decide) rfl (fun ls hl => ?_)
      refine lv_goto (tgt := 44) hx hb d_Set_repeat_68 (by decide) ?_
      exact ih (j + 1) (nu K2 (40 * 4 + j) (cmR n E (stp k n st 0 j))) (by omega) (by intro u a hu ha; by_cases e9 : u = 40 ∧ a = j; (rw [nu_e (by rw [e9.1, e9.2]), if_neg (by omega), if_pos (by omega), e9.2]); rw [nu_n (by omega), hg u a hu ha]; split; rfl; by_cases e8 : u = 40 ∧ a < j; (rw [if_pos e8, if_pos (by omega)]); rw [if_neg e8, if_neg (by omega)]) (by omega) H locs ls (lv_sub hl [1, 2, 0] rfl) hB
set_option maxHeartbeats 4000000 in
set_option maxRecDepth 100000 in
theorem c_Set_repeat_L2 {l : Launch} {D : va_G} {t : Nat → ClassId} {w : wf_W} {r rl rc rz k b en : Nat} {G C : Nat → Nat} {h hs n E : Nat} {f : Nat → Int32} {st : Nat → Nat → Nat}  {p : Program} {e : Env} {s : State} {m : MethodId} {below : List Frame} {meth : Method} {c : Code} {Q : State → Prop} (X : Cx p s m meth c R_Set "repeat" b_Set_repeat 3 none D t) (hN : nd [r, rl, rc, h, hs]) (hS : w r = some (.inr (3, [.int (nI k), .ref rl, .ref rc, .ref rz, .long (lN b), .long (lN en)]))) (hL : w rl = some (.inl (t 1, 164, .inr (.inl (lA G))))) (hC : w rc = some (.inl (t 1, 40, .inr (.inl (lA C))))) (hM : w h = some (.inr (1, [.int (nI k), .ref hs, .int (nI n), .long (lN E)]))) (hF : w hs = some (.inl (t 0, 40, .inl (pkA f)))) (hm : mOK k n E f st)
    (K_37 : ∀ (i : Nat) (K : Nat → Nat), (i ≤ 40) → (∀ j, j < i → K j = cmR n E j) → (i = 40) → ∀ (H : Heap) (locs : List Loc) (ls : Array Slot), lv_has ls 3 [(0, .ref r), (1, .ref h), (2, .int (nI i))] → wf_B D wcl (wf_A w s.heap.size) s.heap (wf_l w [(r, .inr (3, [.int (nI k), .ref rl, .ref rc, .ref rz, .long (lN b), .long (lN en)])), (rl, .inl (t 1, 164, .inr (.inl (lA G)))), (rc, .inl (t 1, 40, .inr (.inl (lA K)))), (h, .inr (1, [.int (nI k), .ref hs, .int (nI n), .long (lN E)])), (hs, .inl (t 0, 40, .inl (pkA f)))]) H locs → W p l e (rmk 3 69 0 0) s m [.ref r, .ref h].toArray below meth c H locs 0 0 Q (F0 m 37 ls [])) :
    ∀ (fu : Nat) (i : Nat) (K : Nat → Nat), (i ≤ 40) → (∀ j, j < i → K j = cmR n E j) → 40 - i < fu → ∀ (H : Heap) (locs : List Loc) (ls : Array Slot), lv_has ls 3 [(0, .ref r), (1, .ref h), (2, .int (nI i))] → wf_B D wcl (wf_A w s.heap.size) s.heap (wf_l w [(r, .inr (3, [.int (nI k), .ref rl, .ref rc, .ref rz, .long (lN b), .long (lN en)])), (rl, .inl (t 1, 164, .inr (.inl (lA G)))), (rc, .inl (t 1, 40, .inr (.inl (lA K)))), (h, .inr (1, [.int (nI k), .ref hs, .int (nI n), .long (lN E)])), (hs, .inl (t 0, 40, .inl (pkA f)))]) H locs → W p l e (rmk 3 69 0 0) s m [.ref r, .ref h].toArray below meth c H locs 0 0 Q (F0 m 2 ls []) := by
  have hx := X.1
  have hb := X.2.1
  intro fu
  induction fu with
  | zero => intro i K hi hg hfu; exact absurd hfu (Nat.not_lt_zero _)
  | succ fu ih =>
    intro i K hi hg hfu H locs ls hl hB
    have hk := hm.1
    have hn := hm.2.1
    have hn0 := hm.2.2.1
    have hE := hm.E40
    refine lv_iload_n hx hb d_Set_repeat_2 rfl (lv_at hl 2 rfl) ?_
    refine lv_bipush (v := nI 40) hx hb d_Set_repeat_3 (by decide) ?_
    refine wf_cge (tgt := 37) hx hb d_Set_repeat_5 (by decide) (nI_toInt (by omega)) (nI_toInt (by omega)) (fun c_5 => ?_) (fun c_5 => ?_)
    · exact K_37 i K hi hg (by omega) H locs ls (lv_sub hl [0, 1, 2] rfl) hB
    · refine lv_aload_n hx hb d_Set_repeat_8 rfl (lv_at hl 0 rfl) ?_
      refine rgetL X hB hN 0 i_Set rfl cl_Set 2 (by decide) k_183 rfl rfl d_Set_repeat_9 ?_
      refine lv_iload_n hx hb d_Set_repeat_12 rfl (lv_at hl 2 rfl) ?_
      refine lv_lconst (v := lN 1) hx hb d_Set_repeat_13 (by decide) ?_
      refine lv_iload_n hx hb d_Set_repeat_14 rfl (lv_at hl 2 rfl) ?_
      refine lv_lshl (v := lN (1 * 2 ^ i)) hx hb d_Set_repeat_15 (wb_shl _ (by omega)) ?_
      refine wf_tl (y := lN (2 ^ i)) (by rw [Nat.one_mul]) ?_
      refine lv_aload_n hx hb d_Set_repeat_16 rfl (lv_at hl 1 rfl) ?_
      refine lv_iload_n hx hb d_Set_repeat_17 rfl (lv_at hl 2 rfl) ?_
      refine callVi (As := [.int (nI i)]) (rest := [.long (lN (2 ^ i)), .int (nI i), .ref rc]) X hB wf_hA (c_Mac_isEnd (l := l) (D := D) (t := t) (w := (wf_l w [(r, .inr (3, [.int (nI k), .ref rl, .ref rc, .ref rz, .long (lN b), .long (lN en)])), (rl, .inl (t 1, 164, .inr (.inl (lA G)))), (rc, .inl (t 1, 40, .inr (.inl (lA K)))), (h, .inr (1, [.int (nI k), .ref hs, .int (nI n), .long (lN E)])), (hs, .inl (t 0, 40, .inl (pkA f)))])) (sz := H.size) (h := h) (hs := hs) (k := k) (n := n) (E := E) (u := i) (wf_lg (w := w) (l := [(r, .inr (3, [.int (nI k), .ref rl, .ref rc, .ref rz, .long (lN b), .long (lN en)])), (rl, .inl (t 1, 164, .inr (.inl (lA G)))), (rc, .inl (t 1, 40, .inr (.inl (lA K)))), (h, .inr (1, [.int (nI k), .ref hs, .int (nI n), .long (lN E)])), (hs, .inl (t 0, 40, .inl (pkA f)))]) hN 3 rfl) (by omega) (by omega) (by omega)) k_607 k_374 k_375 k_67 k_376 (wf_lg (w := w) (l := [(r, .inr (3, [.int (nI k), .ref rl, .ref rc, .ref rz, .long (lN b), .long (lN en)])), (rl, .inl (t 1, 164, .inr (.inl (lA G)))), (rc, .inl (t 1, 40, .inr (.inl (lA K)))), (h, .inr (1, [.int (nI k), .ref hs, .int (nI n), .long (lN E)])), (hs, .inl (t 0, 40, .inl (pkA f)))]) hN 3 rfl) cl_Mac rfl hd_Mac_isEnd ⟨Nat.le_of_ble_eq_true rfl, Nat.le_of_ble_eq_true rfl⟩ ⟨Nat.le_of_ble_eq_true rfl, Nat.le_of_ble_eq_true rfl⟩ hl.1 (Nat.le_of_ble_eq_true rfl) d_Set_repeat_18 rfl (fun r_18 w1 H locs hp hB => ?_)
      obtain ⟨rfl, hw_18⟩ := hp
      have hB : wf_B D wcl (wf_A w s.heap.size) s.heap (wf_l w [(r, .inr (3, [.int (nI k), .ref rl, .ref rc, .ref rz, .long (lN b), .long (lN en)])), (rl, .inl (t 1, 164, .inr (.inl (lA G)))), (rc, .inl (t 1, 40, .inr (.inl (lA K)))), (h, .inr (1, [.int (nI k), .ref hs, .int (nI n), .long (lN E)])), (hs, .inl (t 0, 40, .inl (pkA f)))]) H locs := wf_Bto hw_18 hB
      refine wf_beq (tgt := 28) hx hb d_Set_repeat_21 (by decide) (fun c_21 => ?_) (fun c_21 => ?_)
      · refine lv_lconst (v := lN 0) hx hb d_Set_repeat_28 (by decide) ?_
        refine lv_lor hx hb d_Set_repeat_29 ?_
        refine wf_tl (y := lN ((2 ^ i) ||| 0)) (wb_or (by exact Nat.pow_lt_pow_right (by decide) (by omega)) (by decide)) ?_
        refine wf_tl (y := lN (cmR n E i)) (by rw [cmR, c_21]; rfl) ?_
        refine rlastA X hB hN 2 (wl' := [(r, .inr (3, [.int (nI k), .ref rl, .ref rc, .ref rz, .long (lN b), .long (lN en)])), (rl, .inl (t 1, 164, .inr (.inl (lA G)))), (rc, .inl (t 1, 40, .inr (.inl (lA (nu K i (cmR n E i)))))), (h, .inr (1, [.int (nI k), .ref hs, .int (nI n), .long (lN E)])), (hs, .inl (t 0, 40, .inl (pkA f)))]) rfl (i := i) (by omega) (by decide) d_Set_repeat_30 rfl (fun H locs hB => ?_)
        refine lv_iinc (v := nI (i + 1)) (lv' := [(2, .int (nI (i + 1))), (0, .ref r), (1, .ref h)]) hx hb d_Set_repeat_31 hl (k := 2) rfl (show nI i + nI 1 = nI (i + 1) from nI_add _ _) (by decide) rfl (fun ls hl => ?_)
        refine lv_goto (tgt := 2) hx hb d_Set_repeat_34 (by decide) ?_
        exact ih (i + 1) (nu K i (cmR n E i)) (by omega) (by intro j hj; by_cases e9 : j = i; rw [nu_e e9, e9]; rw [nu_n e9]; exact hg j (by omega)) (by omega) H locs ls (lv_sub hl [1, 2, 0] rfl) hB
      · refine lv_lconst (v := lN 1) hx hb d_Set_repeat_24 (by decide) ?_
        refine lv_goto (tgt := 29) hx hb d_Set_repeat_25 (by decide) ?_
        refine lv_lor hx hb d_Set_repeat_29 ?_
        refine wf_tl (y := lN ((2 ^ i) ||| 1)) (wb_or (by exact Nat.pow_lt_pow_right (by decide) (by omega)) (by decide)) ?_
        refine wf_tl (y := lN (cmR n E i)) (by rw [cmR, c_21]; rfl) ?_
        refine rlastA X hB hN 2 (wl' := [(r, .inr (3, [.int (nI k), .ref rl, .ref rc, .ref rz, .long (lN b), .long (lN en)])), (rl, .inl (t 1, 164, .inr (.inl (lA G)))), (rc, .inl (t 1, 40, .inr (.inl (lA (nu K i (cmR n E i)))))), (h, .inr (1, [.int (nI k), .ref hs, .int (nI n), .long (lN E)])), (hs, .inl (t 0, 40, .inl (pkA f)))]) rfl (i := i) (by omega) (by decide) d_Set_repeat_30 rfl (fun H locs hB => ?_)
        refine lv_iinc (v := nI (i + 1)) (lv' := [(2, .int (nI (i + 1))), (0, .ref r), (1, .ref h)]) hx hb d_Set_repeat_31 hl (k := 2) rfl (show nI i + nI 1 = nI (i + 1) from nI_add _ _) (by decide) rfl (fun ls hl => ?_)
        refine lv_goto (tgt := 2) hx hb d_Set_repeat_34 (by decide) ?_
        exact ih (i + 1) (nu K i (cmR n E i)) (by omega) (by intro j hj; by_cases e9 : j = i; rw [nu_e e9, e9]; rw [nu_n e9]; exact hg j (by omega)) (by omega) H locs ls (lv_sub hl [1, 2, 0] rfl) hB
set_option maxHeartbeats 4000000 in
set_option maxRecDepth 100000 in
theorem c_Set_repeat {l : Launch} {D : va_G} {t : Nat → ClassId} {w : wf_W} {sz : Nat} {r rl rc rz k b en : Nat} {G C : Nat → Nat} {h hs n E : Nat} {f : Nat → Int32} {st : Nat → Nat → Nat} (hN : nd [r, rl, rc, h, hs]) (hS : w r = some (.inr (3, [.int (nI k), .ref rl, .ref rc, .ref rz, .long (lN b), .long (lN en)]))) (hL : w rl = some (.inl (t 1, 164, .inr (.inl (lA G))))) (hC : w rc = some (.inl (t 1, 40, .inr (.inl (lA C))))) (hM : w h = some (.inr (1, [.int (nI k), .ref hs, .int (nI n), .long (lN E)]))) (hF : w hs = some (.inl (t 0, 40, .inl (pkA f)))) (hm : mOK k n E f st) : Mv l y_Set_repeat b_Set_repeat 3 none 3 69 0 0 D t w sz [.ref r, .ref h] (fun w' => ∃ G0 : Nat → Nat, ∃ C0 : Nat → Nat, (lOK k G0 (fun z1 z2 => if z1 < n then cmR n E (stp k n st z1 z2) else if z1 = 40 then cmR n E (stp k n st 0 z2) else 0)) ∧ w' = wf_l w [(r, .inr (3, [.int (nI k), .ref rl, .ref rc, .ref rz, .long (lN 1099511627776), .long (lN (E ||| 1099511627776))])), (rl, .inl (t 1, 164, .inr (.inl (lA G0)))), (rc, .inl (t 1, 40, .inr (.inl (lA C0)))), (h, .inr (1, [.int (nI k), .ref hs, .int (nI n), .long (lN E)])), (hs, .inl (t 0, 40, .inl (pkA f)))]) := by
  refine start_v (by decide) (Nat.le_of_ble_eq_true rfl) ?_
  intro p e s m below meth c ls H locs X hB hl
  have hx := X.1
  have hb := X.2.1
  have hl : lv_has ls 3 [(0, .ref r), (1, .ref h)] := hl
  have hB : wf_B D wcl (wf_A w s.heap.size) s.heap (wf_l w [(r, .inr (3, [.int (nI k), .ref rl, .ref rc, .ref rz, .long (lN b), .long (lN en)])), (rl, .inl (t 1, 164, .inr (.inl (lA G)))), (rc, .inl (t 1, 40, .inr (.inl (lA C)))), (h, .inr (1, [.int (nI k), .ref hs, .int (nI n), .long (lN E)])), (hs, .inl (t 0, 40, .inl (pkA f)))]) H locs := wf_Bto (wf_l5 hS hL hC hM hF).symm hB
  have hk := hm.1
  have hn := hm.2.1
  have hn0 := hm.2.2.1
  have hE := hm.E40
  refine lv_iconst (v := nI 0) hx hb d_Set_repeat_0 (by decide) ?_
  refine lv_istore_n (lv' := [(2, .int (nI 0)), (0, .ref r), (1, .ref h)]) hx hb d_Set_repeat_1 rfl hl (by decide) rfl (fun ls hl => ?_)
  refine c_Set_repeat_L2 (l := l) X hN hS hL hC hM hF hm (fun i K hi hg he H locs ls hl hB => ?_) (40 - 0 + 1) 0 C (by omega) (by intro j hj; omega) (by omega) H locs ls (lv_sub hl [1, 2, 0] rfl) hB
  refine lv_aload_n hx hb d_Set_repeat_37 rfl (lv_at hl 0 rfl) ?_
  refine lv_aload_n hx hb d_Set_repeat_38 rfl (lv_at hl 1 rfl) ?_
  refine callVv (As := [.ref h]) (rest := []) X hB wf_hA (c_Set_followWithCompany (l := l) (D := D) (t := t) (w := (wf_l w [(r, .inr (3, [.int (nI k), .ref rl, .ref rc, .ref rz, .long (lN b), .long (lN en)])), (rl, .inl (t 1, 164, .inr (.inl (lA G)))), (rc, .inl (t 1, 40, .inr (.inl (lA K)))), (h, .inr (1, [.int (nI k), .ref hs, .int (nI n), .long (lN E)])), (hs, .inl (t 0, 40, .inl (pkA f)))])) (sz := H.size) (r := r) (rl := rl) (rc := rc) (rz := rz) (k := k) (b := b) (en := en) (G := G) (C := K) (h := h) (hs := hs) (n := n) (E := E) (f := f) (st := st) (nd_sub hN [0, 1, 2, 3, 4] rfl (by decide)) (wf_lg (w := w) (l := [(r, .inr (3, [.int (nI k), .ref rl, .ref rc, .ref rz, .long (lN b), .long (lN en)])), (rl, .inl (t 1, 164, .inr (.inl (lA G)))), (rc, .inl (t 1, 40, .inr (.inl (lA K)))), (h, .inr (1, [.int (nI k), .ref hs, .int (nI n), .long (lN E)])), (hs, .inl (t 0, 40, .inl (pkA f)))]) hN 0 rfl) (wf_lg (w := w) (l := [(r, .inr (3, [.int (nI k), .ref rl, .ref rc, .ref rz, .long (lN b), .long (lN en)])), (rl, .inl (t 1, 164, .inr (.inl (lA G)))), (rc, .inl (t 1, 40, .inr (.inl (lA K)))), (h, .inr (1, [.int (nI k), .ref hs, .int (nI n), .long (lN E)])), (hs, .inl (t 0, 40, .inl (pkA f)))]) hN 1 rfl) (wf_lg (w := w) (l := [(r, .inr (3, [.int (nI k), .ref rl, .ref rc, .ref rz, .long (lN b), .long (lN en)])), (rl, .inl (t 1, 164, .inr (.inl (lA G)))), (rc, .inl (t 1, 40, .inr (.inl (lA K)))), (h, .inr (1, [.int (nI k), .ref hs, .int (nI n), .long (lN E)])), (hs, .inl (t 0, 40, .inl (pkA f)))]) hN 2 rfl) (wf_lg (w := w) (l := [(r, .inr (3, [.int (nI k), .ref rl, .ref rc, .ref rz, .long (lN b), .long (lN en)])), (rl, .inl (t 1, 164, .inr (.inl (lA G)))), (rc, .inl (t 1, 40, .inr (.inl (lA K)))), (h, .inr (1, [.int (nI k), .ref hs, .int (nI n), .long (lN E)])), (hs, .inl (t 0, 40, .inl (pkA f)))]) hN 3 rfl) (wf_lg (w := w) (l := [(r, .inr (3, [.int (nI k), .ref rl, .ref rc, .ref rz, .long (lN b), .long (lN en)])), (rl, .inl (t 1, 164, .inr (.inl (lA G)))), (rc, .inl (t 1, 40, .inr (.inl (lA K)))), (h, .inr (1, [.int (nI k), .ref hs, .int (nI n), .long (lN E)])), (hs, .inl (t 0, 40, .inl (pkA f)))]) hN 4 rfl) (by exact hm)) k_608 k_610 k_18 k_70 k_611 (wf_lg (w := w) (l := [(r, .inr (3, [.int (nI k), .ref rl, .ref rc, .ref rz, .long (lN b), .long (lN en)])), (rl, .inl (t 1, 164, .inr (.inl (lA G)))), (rc, .inl (t 1, 40, .inr (.inl (lA K)))), (h, .inr (1, [.int (nI k), .ref hs, .int (nI n), .long (lN E)])), (hs, .inl (t 0, 40, .inl (pkA f)))]) hN 0 rfl) cl_Set rfl hd_Set_followWithCompany ⟨Nat.le_of_ble_eq_true rfl, Nat.le_of_ble_eq_true rfl⟩ ⟨Nat.le_of_ble_eq_true rfl, Nat.le_of_ble_eq_true rfl⟩ hl.1 (Nat.le_of_ble_eq_true rfl) d_Set_repeat_39 rfl (fun w1 H locs hp hB => ?_)
  obtain ⟨G0_39, hG0_39, hw_39⟩ := hp
  have hB : wf_B D wcl (wf_A w s.heap.size) s.heap (wf_l w [(r, .inr (3, [.int (nI k), .ref rl, .ref rc, .ref rz, .long (lN (K 0)), .long (lN E)])), (rl, .inl (t 1, 164, .inr (.inl (lA G0_39)))), (rc, .inl (t 1, 40, .inr (.inl (lA K)))), (h, .inr (1, [.int (nI k), .ref hs, .int (nI n), .long (lN E)])), (hs, .inl (t 0, 40, .inl (pkA f)))]) H locs := wf_Bto (hw_39.trans (wlw (L1 := [(r, .inr (3, [.int (nI k), .ref rl, .ref rc, .ref rz, .long (lN (K 0)), .long (lN E)])), (rl, .inl (t 1, 164, .inr (.inl (lA G)))), (rc, .inl (t 1, 40, .inr (.inl (lA K)))), (h, .inr (1, [.int (nI k), .ref hs, .int (nI n), .long (lN E)])), (hs, .inl (t 0, 40, .inl (pkA f)))]) hN 0 rfl rfl (wlw (L1 := [(r, .inr (3, [.int (nI k), .ref rl, .ref rc, .ref rz, .long (lN (K 0)), .long (lN E)])), (rl, .inl (t 1, 164, .inr (.inl (lA G0_39)))), (rc, .inl (t 1, 40, .inr (.inl (lA K)))), (h, .inr (1, [.int (nI k), .ref hs, .int (nI n), .long (lN E)])), (hs, .inl (t 0, 40, .inl (pkA f)))]) hN 1 rfl rfl (wlw (L1 := [(r, .inr (3, [.int (nI k), .ref rl, .ref rc, .ref rz, .long (lN (K 0)), .long (lN E)])), (rl, .inl (t 1, 164, .inr (.inl (lA G0_39)))), (rc, .inl (t 1, 40, .inr (.inl (lA K)))), (h, .inr (1, [.int (nI k), .ref hs, .int (nI n), .long (lN E)])), (hs, .inl (t 0, 40, .inl (pkA f)))]) hN 2 rfl rfl (wlw (L1 := [(r, .inr (3, [.int (nI k), .ref rl, .ref rc, .ref rz, .long (lN (K 0)), .long (lN E)])), (rl, .inl (t 1, 164, .inr (.inl (lA G0_39)))), (rc, .inl (t 1, 40, .inr (.inl (lA K)))), (h, .inr (1, [.int (nI k), .ref hs, .int (nI n), .long (lN E)])), (hs, .inl (t 0, 40, .inl (pkA f)))]) hN 3 rfl rfl (wlw (L1 := [(r, .inr (3, [.int (nI k), .ref rl, .ref rc, .ref rz, .long (lN (K 0)), .long (lN E)])), (rl, .inl (t 1, 164, .inr (.inl (lA G0_39)))), (rc, .inl (t 1, 40, .inr (.inl (lA K)))), (h, .inr (1, [.int (nI k), .ref hs, .int (nI n), .long (lN E)])), (hs, .inl (t 0, 40, .inl (pkA f)))]) hN 4 rfl rfl rfl)))))) hB
  refine lv_iconst (v := nI 0) hx hb d_Set_repeat_42 (by decide) ?_
  refine lv_istore_n (lv' := [(2, .int (nI 0)), (0, .ref r), (1, .ref h)]) hx hb d_Set_repeat_43 rfl hl (by decide) rfl (fun ls hl => ?_)
  refine c_Set_repeat_L44 (l := l) X hN hS hL hC hM hF hm (fun j K2 hj hg he H locs ls hl hB => ?_) (k - 0 + 1) 0 G0_39 (by omega) (by intro u a hu ha; have h1 := stp_lt hm u a; rw [hG0_39 u a hu ha, hg _ (by omega)]; split; rfl; rw [if_neg (by omega)]) (by omega) H locs ls (lv_sub hl [1, 2, 0] rfl) hB
  refine lv_aload_n hx hb d_Set_repeat_71 rfl (lv_at hl 0 rfl) ?_
  refine lv_ldc2 (own := R_Set) hx hb X.2.2.1 (X.2.2.2.2.1.2 _ k_625 _) d_Set_repeat_72 ?_
  refine wf_tl (y := lN 1099511627776) (by decide) ?_
  refine rput X hB hN 0 (wl' := [(r, .inr (3, [.int (nI k), .ref rl, .ref rc, .ref rz, .long (lN 1099511627776), .long (lN E)])), (rl, .inl (t 1, 164, .inr (.inl (lA K2)))), (rc, .inl (t 1, 40, .inr (.inl (lA K)))), (h, .inr (1, [.int (nI k), .ref hs, .int (nI n), .long (lN E)])), (hs, .inl (t 0, 40, .inl (pkA f)))]) i_Set t_Set_ok n_Set rfl cl_Set 4 (by decide) k_185 rfl rfl rfl rfl (Nat.le_of_ble_eq_true rfl) d_Set_repeat_75 rfl (fun H locs hB => ?_)
  refine lv_aload_n hx hb d_Set_repeat_78 rfl (lv_at hl 0 rfl) ?_
  refine lv_aload_n hx hb d_Set_repeat_79 rfl (lv_at hl 1 rfl) ?_
  refine rgetNL X hB hN 3 i_Mac rfl cl_Mac 3 (by decide) k_128 rfl rfl d_Set_repeat_80 ?_
  refine lv_aload_n hx hb d_Set_repeat_83 rfl (lv_at hl 0 rfl) ?_
  refine rgetL X hB hN 0 i_Set rfl cl_Set 4 (by decide) k_185 rfl rfl d_Set_repeat_84 ?_
  refine lv_lor hx hb d_Set_repeat_87 ?_
  refine wf_tl (y := lN (E ||| 1099511627776)) (wb_or (by omega) (by decide)) ?_
  refine rput X hB hN 0 (wl' := [(r, .inr (3, [.int (nI k), .ref rl, .ref rc, .ref rz, .long (lN 1099511627776), .long (lN (E ||| 1099511627776))])), (rl, .inl (t 1, 164, .inr (.inl (lA K2)))), (rc, .inl (t 1, 40, .inr (.inl (lA K)))), (h, .inr (1, [.int (nI k), .ref hs, .int (nI n), .long (lN E)])), (hs, .inl (t 0, 40, .inl (pkA f)))]) i_Set t_Set_ok n_Set rfl cl_Set 5 (by decide) k_186 rfl rfl rfl rfl (Nat.le_of_ble_eq_true rfl) d_Set_repeat_88 rfl (fun H locs hB => ?_)
  refine ret_v X hB d_Set_repeat_91 ?_
  refine ⟨_, _, fun u a hu ha => ?_, rfl⟩; have h1 := stp_lt hm u a; have h2 := stp_lt hm 0 a; have h3 := cmR_lt (n := n) (E := E) (show stp k n st u a < 40 by omega); have h4 := cmR_lt (n := n) (E := E) (show stp k n st 0 a < 40 by omega); rw [hg u a hu ha]; by_cases e7 : u < n; (simp only [if_pos e7]; exact ⟨trivial, by omega⟩); by_cases e8 : u = 40; (simp only [if_neg e7, if_pos (show u = 40 ∧ a < j from ⟨e8, by omega⟩), if_pos e8]; exact ⟨trivial, by omega⟩); simp only [if_neg e7, if_neg (show ¬ (u = 40 ∧ a < j) by omega), if_neg e8]; exact ⟨trivial, by decide⟩
set_option maxHeartbeats 4000000 in
set_option maxRecDepth 100000 in
theorem c_Set_reverse_L16 {l : Launch} {D : va_G} {t : Nat → ClassId} {w : wf_W} {r rl rc rz k b en : Nat} {G : Nat → Nat} {h hs n E : Nat} {f : Nat → Int32} {st : Nat → Nat → Nat} {i : Nat} {p : Program} {e : Env} {s : State} {m : MethodId} {below : List Frame} {meth : Method} {c : Code} {Q : State → Prop} (X : Cx p s m meth c R_Set "reverse" b_Set_reverse 5 none D t) (hN : nd [r, rl, h, hs]) (hS : w r = some (.inr (3, [.int (nI k), .ref rl, .ref rc, .ref rz, .long (lN b), .long (lN en)]))) (hL : w rl = some (.inl (t 1, 164, .inr (.inl (lA G))))) (hM : w h = some (.inr (1, [.int (nI k), .ref hs, .int (nI n), .long (lN E)]))) (hF : w hs = some (.inl (t 0, 40, .inl (pkA f)))) (hm : mOK k n E f st) (hi : i < n)
    (K_56 : ∀ (j : Nat) (K2 : Nat → Nat), (j ≤ k) → (∀ v a, v ≤ 40 → a < k → K2 (v * 4 + a) = if a < j then rvS k n st v a (i + 1) else rvS k n st v a i) → (j = k) → ∀ (H : Heap) (locs : List Loc) (ls : Array Slot), lv_has ls 5 [(0, .ref r), (1, .ref h), (2, .int (nI i)), (3, .int (nI j))] → wf_B D wcl (wf_A w s.heap.size) s.heap (wf_l w [(r, .inr (3, [.int (nI k), .ref rl, .ref rc, .ref rz, .long (lN b), .long (lN en)])), (rl, .inl (t 1, 164, .inr (.inl (lA K2)))), (h, .inr (1, [.int (nI k), .ref hs, .int (nI n), .long (lN E)])), (hs, .inl (t 0, 40, .inl (pkA f)))]) H locs → W p l e (rmk 2 46 0 0) s m [.ref r, .ref h].toArray below meth c H locs 0 0 Q (F0 m 56 ls [])) :
    ∀ (fu : Nat) (j : Nat) (K2 : Nat → Nat), (j ≤ k) → (∀ v a, v ≤ 40 → a < k → K2 (v * 4 + a) = if a < j then rvS k n st v a (i + 1) else rvS k n st v a i) → k - j < fu → ∀ (H : Heap) (locs : List Loc) (ls : Array Slot), lv_has ls 5 [(0, .ref r), (1, .ref h), (2, .int (nI i)), (3, .int (nI j))] → wf_B D wcl (wf_A w s.heap.size) s.heap (wf_l w [(r, .inr (3, [.int (nI k), .ref rl, .ref rc, .ref rz, .long (lN b), .long (lN en)])), (rl, .inl (t 1, 164, .inr (.inl (lA K2)))), (h, .inr (1, [.int (nI k), .ref hs, .int (nI n), .long (lN E)])), (hs, .inl (t 0, 40, .inl (pkA f)))]) H locs → W p l e (rmk 2 46 0 0) s m [.ref r, .ref h].toArray below meth c H locs 0 0 Q (F0 m 16 ls []) := by
  have hx := X.1
  have hb := X.2.1
  intro fu
  induction fu with
  | zero => intro j K2 hj hg hfu; exact absurd hfu (Nat.not_lt_zero _)
  | succ fu ih =>
    intro j K2 hj hg hfu H locs ls hl hB
    have hk := hm.1
    have hn := hm.2.1
    have hn0 := hm.2.2.1
    have hE := hm.E40
    refine lv_iload_n hx hb d_Set_reverse_16 rfl (lv_at hl 3 rfl) ?_
    refine lv_aload_n hx hb d_Set_reverse_17 rfl (lv_at hl 0 rfl) ?_
    refine rgetL X hB hN 0 i_Set rfl cl_Set 0 (by decide) k_181 rfl rfl d_Set_reverse_18 ?_
    refine wf_cge (tgt := 56) hx hb d_Set_reverse_21 (by decide) (nI_toInt (by omega)) (nI_toInt (by omega)) (fun c_21 => ?_) (fun c_21 => ?_)
    · exact K_56 j K2 hj hg (by omega) H locs ls (lv_sub hl [0, 1, 2, 3] rfl) hB
    · have hld : lOK k K2 (fun z1 z2 => K2 (z1 * 4 + z2)) := fun v a hv ha => ⟨rfl, by show K2 (v * 4 + a) < _; rw [hg v a hv ha]; have h1 := rvS_lt (k := k) (n := n) (st := st) (v := v) (a := a) (i + 1) (by omega); have h2 := rvS_lt (k := k) (n := n) (st := st) (v := v) (a := a) i (by omega); split <;> omega⟩
      refine lv_aload_n hx hb d_Set_reverse_24 rfl (lv_at hl 1 rfl) ?_
      refine lv_iload_n hx hb d_Set_reverse_25 rfl (lv_at hl 2 rfl) ?_
      refine lv_iload_n hx hb d_Set_reverse_26 rfl (lv_at hl 3 rfl) ?_
      refine callVi (As := [.int (nI i), .int (nI j)]) (rest := []) X hB wf_hA (c_Mac_step (l := l) (D := D) (t := t) (w := (wf_l w [(r, .inr (3, [.int (nI k), .ref rl, .ref rc, .ref rz, .long (lN b), .long (lN en)])), (rl, .inl (t 1, 164, .inr (.inl (lA K2)))), (h, .inr (1, [.int (nI k), .ref hs, .int (nI n), .long (lN E)])), (hs, .inl (t 0, 40, .inl (pkA f)))])) (sz := H.size) (h := h) (hs := hs) (k := k) (n := n) (E := E) (f := f) (st := st) (u := i) (a := j) (wf_lg (w := w) (l := [(r, .inr (3, [.int (nI k), .ref rl, .ref rc, .ref rz, .long (lN b), .long (lN en)])), (rl, .inl (t 1, 164, .inr (.inl (lA K2)))), (h, .inr (1, [.int (nI k), .ref hs, .int (nI n), .long (lN E)])), (hs, .inl (t 0, 40, .inl (pkA f)))]) hN 2 rfl) (wf_lg (w := w) (l := [(r, .inr (3, [.int (nI k), .ref rl, .ref rc, .ref rz, .long (lN b), .long (lN en)])), (rl, .inl (t 1, 164, .inr (.inl (lA K2)))), (h, .inr (1, [.int (nI k), .ref hs, .int (nI n), .long (lN E)])), (hs, .inl (t 0, 40, .inl (pkA f)))]) hN 3 rfl) (by exact hm) (by omega) (by omega)) k_616 k_434 k_435 k_67 k_436 (wf_lg (w := w) (l := [(r, .inr (3, [.int (nI k), .ref rl, .ref rc, .ref rz, .long (lN b), .long (lN en)])), (rl, .inl (t 1, 164, .inr (.inl (lA K2)))), (h, .inr (1, [.int (nI k), .ref hs, .int (nI n), .long (lN E)])), (hs, .inl (t 0, 40, .inl (pkA f)))]) hN 2 rfl) cl_Mac rfl hd_Mac_step ⟨Nat.le_of_ble_eq_true rfl, Nat.le_of_ble_eq_true rfl⟩ ⟨Nat.le_of_ble_eq_true rfl, Nat.le_of_ble_eq_true rfl⟩ hl.1 (Nat.le_of_ble_eq_true rfl) d_Set_reverse_27 rfl (fun r_27 w1 H locs hp hB => ?_)
      obtain ⟨rfl, hw_27⟩ := hp
      have hB : wf_B D wcl (wf_A w s.heap.size) s.heap (wf_l w [(r, .inr (3, [.int (nI k), .ref rl, .ref rc, .ref rz, .long (lN b), .long (lN en)])), (rl, .inl (t 1, 164, .inr (.inl (lA K2)))), (h, .inr (1, [.int (nI k), .ref hs, .int (nI n), .long (lN E)])), (hs, .inl (t 0, 40, .inl (pkA f)))]) H locs := wf_Bto hw_27 hB
      refine lv_istore (lv' := [(4, .int (nI (stp k n st i j))), (0, .ref r), (1, .ref h), (2, .int (nI i)), (3, .int (nI j))]) hx hb d_Set_reverse_30 hl (by decide) rfl (fun ls hl => ?_)
      refine lv_aload_n hx hb d_Set_reverse_32 rfl (lv_at hl 1 rfl) ?_
      refine lv_iload hx hb d_Set_reverse_33 (lv_at hl 0 rfl) ?_
      refine lv_iload_n hx hb d_Set_reverse_35 rfl (lv_at hl 4 rfl) ?_
      refine lv_aload_n hx hb d_Set_reverse_36 rfl (lv_at hl 1 rfl) ?_
      refine lv_iload hx hb d_Set_reverse_37 (lv_at hl 0 rfl) ?_
      refine lv_iload_n hx hb d_Set_reverse_39 rfl (lv_at hl 4 rfl) ?_
      refine callVl (As := [.int (nI (stp k n st i j)), .int (nI j)]) (rest := [.int (nI j), .int (nI (stp k n st i j)), .ref r]) X hB wf_hA (c_Set_lead (l := l) (D := D) (t := t) (w := (wf_l w [(r, .inr (3, [.int (nI k), .ref rl, .ref rc, .ref rz, .long (lN b), .long (lN en)])), (rl, .inl (t 1, 164, .inr (.inl (lA K2)))), (h, .inr (1, [.int (nI k), .ref hs, .int (nI n), .long (lN E)])), (hs, .inl (t 0, 40, .inl (pkA f)))])) (sz := H.size) (r := r) (rl := rl) (rc := rc) (rz := rz) (k := k) (b := b) (en := en) (G := K2) (Ld := fun z1 z2 => K2 (z1 * 4 + z2)) (u := stp k n st i j) (a := j) (wf_lg (w := w) (l := [(r, .inr (3, [.int (nI k), .ref rl, .ref rc, .ref rz, .long (lN b), .long (lN en)])), (rl, .inl (t 1, 164, .inr (.inl (lA K2)))), (h, .inr (1, [.int (nI k), .ref hs, .int (nI n), .long (lN E)])), (hs, .inl (t 0, 40, .inl (pkA f)))]) hN 0 rfl) (wf_lg (w := w) (l := [(r, .inr (3, [.int (nI k), .ref rl, .ref rc, .ref rz, .long (lN b), .long (lN en)])), (rl, .inl (t 1, 164, .inr (.inl (lA K2)))), (h, .inr (1, [.int (nI k), .ref hs, .int (nI n), .long (lN E)])), (hs, .inl (t 0, 40, .inl (pkA f)))]) hN 1 rfl) (by omega) (by exact hld) (by have := stp_lt hm i j; omega) (by omega)) k_464 k_466 k_4 k_70 k_467 (wf_lg (w := w) (l := [(r, .inr (3, [.int (nI k), .ref rl, .ref rc, .ref rz, .long (lN b), .long (lN en)])), (rl, .inl (t 1, 164, .inr (.inl (lA K2)))), (h, .inr (1, [.int (nI k), .ref hs, .int (nI n), .long (lN E)])), (hs, .inl (t 0, 40, .inl (pkA f)))]) hN 0 rfl) cl_Set rfl hd_Set_lead ⟨Nat.le_of_ble_eq_true rfl, Nat.le_of_ble_eq_true rfl⟩ ⟨Nat.le_of_ble_eq_true rfl, Nat.le_of_ble_eq_true rfl⟩ hl.1 (Nat.le_of_ble_eq_true rfl) d_Set_reverse_40 rfl (fun r_40 w1 H locs hp hB => ?_)
      obtain ⟨rfl, hw_40⟩ := hp
      have hB : wf_B D wcl (wf_A w s.heap.size) s.heap (wf_l w [(r, .inr (3, [.int (nI k), .ref rl, .ref rc, .ref rz, .long (lN b), .long (lN en)])), (rl, .inl (t 1, 164, .inr (.inl (lA K2)))), (h, .inr (1, [.int (nI k), .ref hs, .int (nI n), .long (lN E)])), (hs, .inl (t 0, 40, .inl (pkA f)))]) H locs := wf_Bto hw_40 hB
      refine wf_tl (y := lN (rvS k n st (stp k n st i j) j i)) (by rw [hg _ _ (by have := stp_lt hm i j; omega) (by omega), if_neg (by omega)]) ?_
      refine lv_lconst (v := lN 1) hx hb d_Set_reverse_43 (by decide) ?_
      refine lv_iload_n hx hb d_Set_reverse_44 rfl (lv_at hl 3 rfl) ?_
      refine lv_lshl (v := lN (1 * 2 ^ i)) hx hb d_Set_reverse_45 (wb_shl _ (by omega)) ?_
      refine wf_tl (y := lN (2 ^ i)) (by rw [Nat.one_mul]) ?_
      refine lv_lor hx hb d_Set_reverse_46 ?_
      refine wf_tl (y := lN ((rvS k n st (stp k n st i j) j i) ||| (2 ^ i))) (wb_or (by have := rvS_lt (k := k) (n := n) (st := st) (v := stp k n st i j) (a := j) i (by omega); omega) (by exact Nat.pow_lt_pow_right (by decide) (by omega))) ?_
      refine wf_tl (y := lN (rvS k n st (stp k n st i j) j (i + 1))) (by rw [rvS, if_pos rfl]) ?_
      refine callVv (As := [.int (nI (stp k n st i j)), .int (nI j), .long (lN (rvS k n st (stp k n st i j) j (i + 1)))]) (rest := []) X hB wf_hA (c_Set_setLead (l := l) (D := D) (t := t) (w := (wf_l w [(r, .inr (3, [.int (nI k), .ref rl, .ref rc, .ref rz, .long (lN b), .long (lN en)])), (rl, .inl (t 1, 164, .inr (.inl (lA K2)))), (h, .inr (1, [.int (nI k), .ref hs, .int (nI n), .long (lN E)])), (hs, .inl (t 0, 40, .inl (pkA f)))])) (sz := H.size) (r := r) (rl := rl) (rc := rc) (rz := rz) (k := k) (b := b) (en := en) (G := K2) (u := stp k n st i j) (a := j) (x := rvS k n st (stp k n st i j) j (i + 1)) (nd_sub hN [0, 1] rfl (by decide)) (wf_lg (w := w) (l := [(r, .inr (3, [.int (nI k), .ref rl, .ref rc, .ref rz, .long (lN b), .long (lN en)])), (rl, .inl (t 1, 164, .inr (.inl (lA K2)))), (h, .inr (1, [.int (nI k), .ref hs, .int (nI n), .long (lN E)])), (hs, .inl (t 0, 40, .inl (pkA f)))]) hN 0 rfl) (wf_lg (w := w) (l := [(r, .inr (3, [.int (nI k), .ref rl, .ref rc, .ref rz, .long (lN b), .long (lN en)])), (rl, .inl (t 1, 164, .inr (.inl (lA K2)))), (h, .inr (1, [.int (nI k), .ref hs, .int (nI n), .long (lN E)])), (hs, .inl (t 0, 40, .inl (pkA f)))]) hN 1 rfl) (by omega) (by have := stp_lt hm i j; omega) (by omega)) k_621 k_623 k_21 k_70 k_624 (wf_lg (w := w) (l := [(r, .inr (3, [.int (nI k), .ref rl, .ref rc, .ref rz, .long (lN b), .long (lN en)])), (rl, .inl (t 1, 164, .inr (.inl (lA K2)))), (h, .inr (1, [.int (nI k), .ref hs, .int (nI n), .long (lN E)])), (hs, .inl (t 0, 40, .inl (pkA f)))]) hN 0 rfl) cl_Set rfl hd_Set_setLead ⟨Nat.le_of_ble_eq_true rfl, Nat.le_of_ble_eq_true rfl⟩ ⟨Nat.le_of_ble_eq_true rfl, Nat.le_of_ble_eq_true rfl⟩ hl.1 (Nat.le_of_ble_eq_true rfl) d_Set_reverse_47 rfl (fun w1 H locs hp hB => ?_)
      have hw_47 := hp
      have hB : wf_B D wcl (wf_A w s.heap.size) s.heap (wf_l w [(r, .inr (3, [.int (nI k), .ref rl, .ref rc, .ref rz, .long (lN b), .long (lN en)])), (rl, .inl (t 1, 164, .inr (.inl (lA (nu K2 ((stp k n st i j) * 4 + j) (rvS k n st (stp k n st i j) j (i + 1))))))), (h, .inr (1, [.int (nI k), .ref hs, .int (nI n), .long (lN E)])), (hs, .inl (t 0, 40, .inl (pkA f)))]) H locs := wf_Bto (hw_47.trans (wlw (L1 := [(r, .inr (3, [.int (nI k), .ref rl, .ref rc, .ref rz, .long (lN b), .long (lN en)])), (rl, .inl (t 1, 164, .inr (.inl (lA K2)))), (h, .inr (1, [.int (nI k), .ref hs, .int (nI n), .long (lN E)])), (hs, .inl (t 0, 40, .inl (pkA f)))]) hN 0 rfl rfl (wlw (L1 := [(r, .inr (3, [.int (nI k), .ref rl, .ref rc, .ref rz, .long (lN b), .long (lN en)])), (rl, .inl (t 1, 164, .inr (.inl (lA (nu K2 ((stp k n st i j) * 4 + j) (rvS k n st (stp k n st i j) j (i + 1))))))), (h, .inr (1, [.int (nI k), .ref hs, .int (nI n), .long (lN E)])), (hs, .inl (t 0, 40, .inl (pkA f)))]) hN 1 rfl rfl rfl))) hB
      refine lv_iinc (v := nI (j + 1)) (lv' := [(3, .int (nI (j + 1))), (4, .int (nI (stp k n st i j))), (0, .ref r), (1, .ref h), (2, .int (nI i))]) hx hb d_Set_reverse_50 hl (k := 4) rfl (show nI j + nI 1 = nI (j + 1) from nI_add _ _) (by decide) rfl (fun ls hl => ?_)
      refine lv_goto (tgt := 16) hx hb d_Set_reverse_53 (by decide) ?_
      exact ih (j + 1) (nu K2 ((stp k n st i j) * 4 + j) (rvS k n st (stp k n st i j) j (i + 1))) (by omega) (by intro v a hv ha; by_cases e9 : v = stp k n st i j ∧ a = j; (rw [nu_e (by rw [e9.1, e9.2]), if_pos (by omega), e9.1, e9.2]); rw [nu_n (by have := stp_lt hm i j; omega), hg v a hv ha]; by_cases e8 : a < j; (rw [if_pos e8, if_pos (by omega)]); rw [if_neg e8]; by_cases e7 : a = j; (rw [if_pos (by omega), rvS, if_neg (fun q => e9 ⟨by rw [← q, e7], e7⟩)]); rw [if_neg (by omega)]) (by omega) H locs ls (lv_sub hl [2, 3, 4, 0] rfl) hB
set_option maxHeartbeats 4000000 in
set_option maxRecDepth 100000 in
theorem c_Set_reverse_L6 {l : Launch} {D : va_G} {t : Nat → ClassId} {w : wf_W} {r rl rc rz k b en : Nat} {G : Nat → Nat} {h hs n E : Nat} {f : Nat → Int32} {st : Nat → Nat → Nat}  {p : Program} {e : Env} {s : State} {m : MethodId} {below : List Frame} {meth : Method} {c : Code} {Q : State → Prop} (X : Cx p s m meth c R_Set "reverse" b_Set_reverse 5 none D t) (hN : nd [r, rl, h, hs]) (hS : w r = some (.inr (3, [.int (nI k), .ref rl, .ref rc, .ref rz, .long (lN b), .long (lN en)]))) (hL : w rl = some (.inl (t 1, 164, .inr (.inl (lA G))))) (hM : w h = some (.inr (1, [.int (nI k), .ref hs, .int (nI n), .long (lN E)]))) (hF : w hs = some (.inl (t 0, 40, .inl (pkA f)))) (hm : mOK k n E f st)
    (K_62 : ∀ (i : Nat) (K : Nat → Nat), (i ≤ n) → (∀ v a, v ≤ 40 → a < k → K (v * 4 + a) = rvS k n st v a i) → (i = n) → ∀ (H : Heap) (locs : List Loc) (ls : Array Slot), lv_has ls 5 [(0, .ref r), (1, .ref h), (2, .int (nI i))] → wf_B D wcl (wf_A w s.heap.size) s.heap (wf_l w [(r, .inr (3, [.int (nI k), .ref rl, .ref rc, .ref rz, .long (lN b), .long (lN en)])), (rl, .inl (t 1, 164, .inr (.inl (lA K)))), (h, .inr (1, [.int (nI k), .ref hs, .int (nI n), .long (lN E)])), (hs, .inl (t 0, 40, .inl (pkA f)))]) H locs → W p l e (rmk 2 46 0 0) s m [.ref r, .ref h].toArray below meth c H locs 0 0 Q (F0 m 62 ls [])) :
    ∀ (fu : Nat) (i : Nat) (K : Nat → Nat), (i ≤ n) → (∀ v a, v ≤ 40 → a < k → K (v * 4 + a) = rvS k n st v a i) → n - i < fu → ∀ (H : Heap) (locs : List Loc) (ls : Array Slot), lv_has ls 5 [(0, .ref r), (1, .ref h), (2, .int (nI i))] → wf_B D wcl (wf_A w s.heap.size) s.heap (wf_l w [(r, .inr (3, [.int (nI k), .ref rl, .ref rc, .ref rz, .long (lN b), .long (lN en)])), (rl, .inl (t 1, 164, .inr (.inl (lA K)))), (h, .inr (1, [.int (nI k), .ref hs, .int (nI n), .long (lN E)])), (hs, .inl (t 0, 40, .inl (pkA f)))]) H locs → W p l e (rmk 2 46 0 0) s m [.ref r, .ref h].toArray below meth c H locs 0 0 Q (F0 m 6 ls []) := by
  have hx := X.1
  have hb := X.2.1
  intro fu
  induction fu with
  | zero => intro i K hi hg hfu; exact absurd hfu (Nat.not_lt_zero _)
  | succ fu ih =>
    intro i K hi hg hfu H locs ls hl hB
    have hk := hm.1
    have hn := hm.2.1
    have hn0 := hm.2.2.1
    have hE := hm.E40
    refine lv_iload_n hx hb d_Set_reverse_6 rfl (lv_at hl 2 rfl) ?_
    refine lv_aload_n hx hb d_Set_reverse_7 rfl (lv_at hl 1 rfl) ?_
    refine rgetNL X hB hN 2 i_Mac rfl cl_Mac 2 (by decide) k_123 rfl rfl d_Set_reverse_8 ?_
    refine wf_cge (tgt := 62) hx hb d_Set_reverse_11 (by decide) (nI_toInt (by omega)) (nI_toInt (by omega)) (fun c_11 => ?_) (fun c_11 => ?_)
    · exact K_62 i K hi hg (by omega) H locs ls (lv_sub hl [0, 1, 2] rfl) hB
    · have hi : i < n := by omega
      refine lv_iconst (v := nI 0) hx hb d_Set_reverse_14 (by decide) ?_
      refine lv_istore_n (lv' := [(3, .int (nI 0)), (0, .ref r), (1, .ref h), (2, .int (nI i))]) hx hb d_Set_reverse_15 rfl hl (by decide) rfl (fun ls hl => ?_)
      refine c_Set_reverse_L16 (l := l) X hN hS hL hM hF hm hi (fun j K2 hj hg he H locs ls hl hB => ?_) (k - 0 + 1) 0 K (by omega) (by intro v a hv ha; rw [if_neg (by omega)]; exact hg v a hv ha) (by omega) H locs ls (lv_sub hl [1, 2, 3, 0] rfl) hB
      refine lv_iinc (v := nI (i + 1)) (lv' := [(2, .int (nI (i + 1))), (0, .ref r), (1, .ref h), (3, .int (nI j))]) hx hb d_Set_reverse_56 hl (k := 2) rfl (show nI i + nI 1 = nI (i + 1) from nI_add _ _) (by decide) rfl (fun ls hl => ?_)
      refine lv_goto (tgt := 6) hx hb d_Set_reverse_59 (by decide) ?_
      exact ih (i + 1) K2 (by omega) (by intro v a hv ha; rw [hg v a hv ha, if_pos (by omega)]) (by omega) H locs ls (lv_sub hl [1, 2, 0] rfl) hB
set_option maxHeartbeats 4000000 in
set_option maxRecDepth 100000 in
theorem c_Set_reverse {l : Launch} {D : va_G} {t : Nat → ClassId} {w : wf_W} {sz : Nat} {r rl rc rz k b en : Nat} {G : Nat → Nat} {h hs n E : Nat} {f : Nat → Int32} {st : Nat → Nat → Nat} (hN : nd [r, rl, h, hs]) (hS : w r = some (.inr (3, [.int (nI k), .ref rl, .ref rc, .ref rz, .long (lN b), .long (lN en)]))) (hL : w rl = some (.inl (t 1, 164, .inr (.inl (lA G))))) (hM : w h = some (.inr (1, [.int (nI k), .ref hs, .int (nI n), .long (lN E)]))) (hF : w hs = some (.inl (t 0, 40, .inl (pkA f)))) (hm : mOK k n E f st) : Mv l y_Set_reverse b_Set_reverse 5 none 2 46 0 0 D t w sz [.ref r, .ref h] (fun w' => ∃ G0 : Nat → Nat, (lOK k G0 (fun z1 z2 => rvS k n st z1 z2 n)) ∧ w' = wf_l w [(r, .inr (3, [.int (nI k), .ref rl, .ref rc, .ref rz, .long (lN E), .long (lN 1)])), (rl, .inl (t 1, 164, .inr (.inl (lA G0)))), (h, .inr (1, [.int (nI k), .ref hs, .int (nI n), .long (lN E)])), (hs, .inl (t 0, 40, .inl (pkA f)))]) := by
  refine start_v (by decide) (Nat.le_of_ble_eq_true rfl) ?_
  intro p e s m below meth c ls H locs X hB hl
  have hx := X.1
  have hb := X.2.1
  have hl : lv_has ls 5 [(0, .ref r), (1, .ref h)] := hl
  have hB : wf_B D wcl (wf_A w s.heap.size) s.heap (wf_l w [(r, .inr (3, [.int (nI k), .ref rl, .ref rc, .ref rz, .long (lN b), .long (lN en)])), (rl, .inl (t 1, 164, .inr (.inl (lA G)))), (h, .inr (1, [.int (nI k), .ref hs, .int (nI n), .long (lN E)])), (hs, .inl (t 0, 40, .inl (pkA f)))]) H locs := wf_Bto (wf_l4 hS hL hM hF).symm hB
  have hk := hm.1
  have hn := hm.2.1
  have hn0 := hm.2.2.1
  have hE := hm.E40
  refine lv_aload_n hx hb d_Set_reverse_0 rfl (lv_at hl 0 rfl) ?_
  refine callVv (As := []) (rest := []) X hB wf_hA (c_Set_forgetLeads (l := l) (D := D) (t := t) (w := (wf_l w [(r, .inr (3, [.int (nI k), .ref rl, .ref rc, .ref rz, .long (lN b), .long (lN en)])), (rl, .inl (t 1, 164, .inr (.inl (lA G)))), (h, .inr (1, [.int (nI k), .ref hs, .int (nI n), .long (lN E)])), (hs, .inl (t 0, 40, .inl (pkA f)))])) (sz := H.size) (r := r) (rl := rl) (rc := rc) (rz := rz) (k := k) (b := b) (en := en) (G := G) (nd_sub hN [0, 1] rfl (by decide)) (wf_lg (w := w) (l := [(r, .inr (3, [.int (nI k), .ref rl, .ref rc, .ref rz, .long (lN b), .long (lN en)])), (rl, .inl (t 1, 164, .inr (.inl (lA G)))), (h, .inr (1, [.int (nI k), .ref hs, .int (nI n), .long (lN E)])), (hs, .inl (t 0, 40, .inl (pkA f)))]) hN 0 rfl) (wf_lg (w := w) (l := [(r, .inr (3, [.int (nI k), .ref rl, .ref rc, .ref rz, .long (lN b), .long (lN en)])), (rl, .inl (t 1, 164, .inr (.inl (lA G)))), (h, .inr (1, [.int (nI k), .ref hs, .int (nI n), .long (lN E)])), (hs, .inl (t 0, 40, .inl (pkA f)))]) hN 1 rfl)) k_612 k_614 k_19 k_70 k_615 (wf_lg (w := w) (l := [(r, .inr (3, [.int (nI k), .ref rl, .ref rc, .ref rz, .long (lN b), .long (lN en)])), (rl, .inl (t 1, 164, .inr (.inl (lA G)))), (h, .inr (1, [.int (nI k), .ref hs, .int (nI n), .long (lN E)])), (hs, .inl (t 0, 40, .inl (pkA f)))]) hN 0 rfl) cl_Set rfl hd_Set_forgetLeads ⟨Nat.le_of_ble_eq_true rfl, Nat.le_of_ble_eq_true rfl⟩ ⟨Nat.le_of_ble_eq_true rfl, Nat.le_of_ble_eq_true rfl⟩ hl.1 (Nat.le_of_ble_eq_true rfl) d_Set_reverse_1 rfl (fun w1 H locs hp hB => ?_)
  obtain ⟨G0_1, hG0_1, hw_1⟩ := hp
  have hB : wf_B D wcl (wf_A w s.heap.size) s.heap (wf_l w [(r, .inr (3, [.int (nI k), .ref rl, .ref rc, .ref rz, .long (lN b), .long (lN en)])), (rl, .inl (t 1, 164, .inr (.inl (lA G0_1)))), (h, .inr (1, [.int (nI k), .ref hs, .int (nI n), .long (lN E)])), (hs, .inl (t 0, 40, .inl (pkA f)))]) H locs := wf_Bto (hw_1.trans (wlw (L1 := [(r, .inr (3, [.int (nI k), .ref rl, .ref rc, .ref rz, .long (lN b), .long (lN en)])), (rl, .inl (t 1, 164, .inr (.inl (lA G)))), (h, .inr (1, [.int (nI k), .ref hs, .int (nI n), .long (lN E)])), (hs, .inl (t 0, 40, .inl (pkA f)))]) hN 0 rfl rfl (wlw (L1 := [(r, .inr (3, [.int (nI k), .ref rl, .ref rc, .ref rz, .long (lN b), .long (lN en)])), (rl, .inl (t 1, 164, .inr (.inl (lA G0_1)))), (h, .inr (1, [.int (nI k), .ref hs, .int (nI n), .long (lN E)])), (hs, .inl (t 0, 40, .inl (pkA f)))]) hN 1 rfl rfl rfl))) hB
  refine lv_iconst (v := nI 0) hx hb d_Set_reverse_4 (by decide) ?_
  refine lv_istore_n (lv' := [(2, .int (nI 0)), (0, .ref r), (1, .ref h)]) hx hb d_Set_reverse_5 rfl hl (by decide) rfl (fun ls hl => ?_)
  refine c_Set_reverse_L6 (l := l) X hN hS hL hM hF hm (fun i K hi hg he H locs ls hl hB => ?_) (n - 0 + 1) 0 G0_1 (by omega) (by intro v a hv ha; rw [rvS]; exact hG0_1 _ (by omega)) (by omega) H locs ls (lv_sub hl [1, 2, 0] rfl) hB
  refine lv_aload_n hx hb d_Set_reverse_62 rfl (lv_at hl 0 rfl) ?_
  refine lv_aload_n hx hb d_Set_reverse_63 rfl (lv_at hl 1 rfl) ?_
  refine rgetNL X hB hN 2 i_Mac rfl cl_Mac 3 (by decide) k_128 rfl rfl d_Set_reverse_64 ?_
  refine rput X hB hN 0 (wl' := [(r, .inr (3, [.int (nI k), .ref rl, .ref rc, .ref rz, .long (lN E), .long (lN en)])), (rl, .inl (t 1, 164, .inr (.inl (lA K)))), (h, .inr (1, [.int (nI k), .ref hs, .int (nI n), .long (lN E)])), (hs, .inl (t 0, 40, .inl (pkA f)))]) i_Set t_Set_ok n_Set rfl cl_Set 4 (by decide) k_185 rfl rfl rfl rfl (Nat.le_of_ble_eq_true rfl) d_Set_reverse_67 rfl (fun H locs hB => ?_)
  refine lv_aload_n hx hb d_Set_reverse_70 rfl (lv_at hl 0 rfl) ?_
  refine lv_lconst (v := lN 1) hx hb d_Set_reverse_71 (by decide) ?_
  refine rput X hB hN 0 (wl' := [(r, .inr (3, [.int (nI k), .ref rl, .ref rc, .ref rz, .long (lN E), .long (lN 1)])), (rl, .inl (t 1, 164, .inr (.inl (lA K)))), (h, .inr (1, [.int (nI k), .ref hs, .int (nI n), .long (lN E)])), (hs, .inl (t 0, 40, .inl (pkA f)))]) i_Set t_Set_ok n_Set rfl cl_Set 5 (by decide) k_186 rfl rfl rfl rfl (Nat.le_of_ble_eq_true rfl) d_Set_reverse_72 rfl (fun H locs hB => ?_)
  refine ret_v X hB d_Set_reverse_75 ?_
  refine ⟨_, fun u a hu ha => ?_, rfl⟩; have h1 := rvS_lt (k := k) (n := n) (st := st) (v := u) (a := a) n hn; exact ⟨by rw [hg u a hu ha, he], by dsimp only; omega⟩
set_option maxHeartbeats 4000000 in
set_option maxRecDepth 100000 in
theorem c_Set_readAs_L8 {l : Launch} {D : va_G} {t : Nat → ClassId} {w : wf_W} {r rl rc rz k b en : Nat} {G : Nat → Nat} {Ld : Nat → Nat → Nat} {x y : Nat}  {p : Program} {e : Env} {s : State} {m : MethodId} {below : List Frame} {meth : Method} {c : Code} {Q : State → Prop} (X : Cx p s m meth c R_Set "readAs" b_Set_readAs 4 none D t) (hN : nd [r, rl]) (hS : w r = some (.inr (3, [.int (nI k), .ref rl, .ref rc, .ref rz, .long (lN b), .long (lN en)]))) (hL : w rl = some (.inl (t 1, 164, .inr (.inl (lA G))))) (hk : k ≤ 4) (hLd : lOK k G Ld) (hxk : x < k) (hyk : y < k) (hne : x ≠ y)
    (K_46 : ∀ (i : Nat) (K : Nat → Nat), (i ≤ 40) → (∀ u a, u ≤ 40 → a < k → K (u * 4 + a) = if u < i then (if a = y then Ld u y ||| Ld u x else if a = x then 0 else Ld u a) else Ld u a) → (i = 40) → ∀ (H : Heap) (locs : List Loc) (ls : Array Slot), lv_has ls 4 [(0, .ref r), (1, .int (nI x)), (2, .int (nI y)), (3, .int (nI i))] → wf_B D wcl (wf_A w s.heap.size) s.heap (wf_l w [(r, .inr (3, [.int (nI k), .ref rl, .ref rc, .ref rz, .long (lN b), .long (lN en)])), (rl, .inl (t 1, 164, .inr (.inl (lA K))))]) H locs → W p l e (rmk 2 46 0 0) s m [.ref r, .int (nI x), .int (nI y)].toArray below meth c H locs 0 0 Q (F0 m 46 ls [])) :
    ∀ (fu : Nat) (i : Nat) (K : Nat → Nat), (i ≤ 40) → (∀ u a, u ≤ 40 → a < k → K (u * 4 + a) = if u < i then (if a = y then Ld u y ||| Ld u x else if a = x then 0 else Ld u a) else Ld u a) → 40 - i < fu → ∀ (H : Heap) (locs : List Loc) (ls : Array Slot), lv_has ls 4 [(0, .ref r), (1, .int (nI x)), (2, .int (nI y)), (3, .int (nI i))] → wf_B D wcl (wf_A w s.heap.size) s.heap (wf_l w [(r, .inr (3, [.int (nI k), .ref rl, .ref rc, .ref rz, .long (lN b), .long (lN en)])), (rl, .inl (t 1, 164, .inr (.inl (lA K))))]) H locs → W p l e (rmk 2 46 0 0) s m [.ref r, .int (nI x), .int (nI y)].toArray below meth c H locs 0 0 Q (F0 m 8 ls []) := by
  have hx := X.1
  have hb := X.2.1
  intro fu
  induction fu with
  | zero => intro i K hi hg hfu; exact absurd hfu (Nat.not_lt_zero _)
  | succ fu ih =>
    intro i K hi hg hfu H locs ls hl hB
    refine lv_iload_n hx hb d_Set_readAs_8 rfl (lv_at hl 3 rfl) ?_
    refine lv_bipush (v := nI 40) hx hb d_Set_readAs_9 (by decide) ?_
    refine wf_cge (tgt := 46) hx hb d_Set_readAs_11 (by decide) (nI_toInt (by omega)) (nI_toInt (by omega)) (fun c_11 => ?_) (fun c_11 => ?_)
    · exact K_46 i K hi hg (by omega) H locs ls (lv_sub hl [0, 1, 2, 3] rfl) hB
    · have hld : lOK k K (fun z1 z2 => K (z1 * 4 + z2)) := fun u a hu ha => ⟨rfl, by show K (u * 4 + a) < _; rw [hg u a hu ha]; have h1 := (hLd u a hu ha).2; have h2 := (hLd u x hu hxk).2; have h3 := (hLd u y hu hyk).2; have h4 := Nat.or_lt_two_pow h3 h2; split; split; omega; split; decide; omega; omega⟩
      refine lv_aload_n hx hb d_Set_readAs_14 rfl (lv_at hl 0 rfl) ?_
      refine lv_iload_n hx hb d_Set_readAs_15 rfl (lv_at hl 3 rfl) ?_
      refine lv_iload_n hx hb d_Set_readAs_16 rfl (lv_at hl 2 rfl) ?_
      refine lv_aload_n hx hb d_Set_readAs_17 rfl (lv_at hl 0 rfl) ?_
      refine lv_iload_n hx hb d_Set_readAs_18 rfl (lv_at hl 3 rfl) ?_
      refine lv_iload_n hx hb d_Set_readAs_19 rfl (lv_at hl 2 rfl) ?_
      refine callVl (As := [.int (nI i), .int (nI y)]) (rest := [.int (nI y), .int (nI i), .ref r]) X hB wf_hA (c_Set_lead (l := l) (D := D) (t := t) (w := (wf_l w [(r, .inr (3, [.int (nI k), .ref rl, .ref rc, .ref rz, .long (lN b), .long (lN en)])), (rl, .inl (t 1, 164, .inr (.inl (lA K))))])) (sz := H.size) (r := r) (rl := rl) (rc := rc) (rz := rz) (k := k) (b := b) (en := en) (G := K) (Ld := fun z1 z2 => K (z1 * 4 + z2)) (u := i) (a := y) (wf_lg (w := w) (l := [(r, .inr (3, [.int (nI k), .ref rl, .ref rc, .ref rz, .long (lN b), .long (lN en)])), (rl, .inl (t 1, 164, .inr (.inl (lA K))))]) hN 0 rfl) (wf_lg (w := w) (l := [(r, .inr (3, [.int (nI k), .ref rl, .ref rc, .ref rz, .long (lN b), .long (lN en)])), (rl, .inl (t 1, 164, .inr (.inl (lA K))))]) hN 1 rfl) (by exact hk) (by exact hld) (by exact hi) (by exact hyk)) k_464 k_466 k_4 k_70 k_467 (wf_lg (w := w) (l := [(r, .inr (3, [.int (nI k), .ref rl, .ref rc, .ref rz, .long (lN b), .long (lN en)])), (rl, .inl (t 1, 164, .inr (.inl (lA K))))]) hN 0 rfl) cl_Set rfl hd_Set_lead ⟨Nat.le_of_ble_eq_true rfl, Nat.le_of_ble_eq_true rfl⟩ ⟨Nat.le_of_ble_eq_true rfl, Nat.le_of_ble_eq_true rfl⟩ hl.1 (Nat.le_of_ble_eq_true rfl) d_Set_readAs_20 rfl (fun r_20 w1 H locs hp hB => ?_)
      obtain ⟨rfl, hw_20⟩ := hp
      have hB : wf_B D wcl (wf_A w s.heap.size) s.heap (wf_l w [(r, .inr (3, [.int (nI k), .ref rl, .ref rc, .ref rz, .long (lN b), .long (lN en)])), (rl, .inl (t 1, 164, .inr (.inl (lA K))))]) H locs := wf_Bto hw_20 hB
      refine wf_tl (y := lN (Ld i y)) (by rw [hg i y (by omega) hyk, if_neg (by omega)]) ?_
      refine lv_aload_n hx hb d_Set_readAs_23 rfl (lv_at hl 0 rfl) ?_
      refine lv_iload_n hx hb d_Set_readAs_24 rfl (lv_at hl 3 rfl) ?_
      refine lv_iload_n hx hb d_Set_readAs_25 rfl (lv_at hl 1 rfl) ?_
      refine callVl (As := [.int (nI i), .int (nI x)]) (rest := [.long (lN (Ld i y)), .int (nI y), .int (nI i), .ref r]) X hB wf_hA (c_Set_lead (l := l) (D := D) (t := t) (w := (wf_l w [(r, .inr (3, [.int (nI k), .ref rl, .ref rc, .ref rz, .long (lN b), .long (lN en)])), (rl, .inl (t 1, 164, .inr (.inl (lA K))))])) (sz := H.size) (r := r) (rl := rl) (rc := rc) (rz := rz) (k := k) (b := b) (en := en) (G := K) (Ld := fun z1 z2 => K (z1 * 4 + z2)) (u := i) (a := x) (wf_lg (w := w) (l := [(r, .inr (3, [.int (nI k), .ref rl, .ref rc, .ref rz, .long (lN b), .long (lN en)])), (rl, .inl (t 1, 164, .inr (.inl (lA K))))]) hN 0 rfl) (wf_lg (w := w) (l := [(r, .inr (3, [.int (nI k), .ref rl, .ref rc, .ref rz, .long (lN b), .long (lN en)])), (rl, .inl (t 1, 164, .inr (.inl (lA K))))]) hN 1 rfl) (by exact hk) (by exact hld) (by exact hi) (by exact hxk)) k_464 k_466 k_4 k_70 k_467 (wf_lg (w := w) (l := [(r, .inr (3, [.int (nI k), .ref rl, .ref rc, .ref rz, .long (lN b), .long (lN en)])), (rl, .inl (t 1, 164, .inr (.inl (lA K))))]) hN 0 rfl) cl_Set rfl hd_Set_lead ⟨Nat.le_of_ble_eq_true rfl, Nat.le_of_ble_eq_true rfl⟩ ⟨Nat.le_of_ble_eq_true rfl, Nat.le_of_ble_eq_true rfl⟩ hl.1 (Nat.le_of_ble_eq_true rfl) d_Set_readAs_26 rfl (fun r_26 w1 H locs hp hB => ?_)
      obtain ⟨rfl, hw_26⟩ := hp
      have hB : wf_B D wcl (wf_A w s.heap.size) s.heap (wf_l w [(r, .inr (3, [.int (nI k), .ref rl, .ref rc, .ref rz, .long (lN b), .long (lN en)])), (rl, .inl (t 1, 164, .inr (.inl (lA K))))]) H locs := wf_Bto hw_26 hB
      refine wf_tl (y := lN (Ld i x)) (by rw [hg i x (by omega) hxk, if_neg (by omega)]) ?_
      refine lv_lor hx hb d_Set_readAs_29 ?_
      refine wf_tl (y := lN ((Ld i y) ||| (Ld i x))) (wb_or (by have := (hLd i y (by omega) hyk).2; omega) (by have := (hLd i x (by omega) hxk).2; omega)) ?_
      refine callVv (As := [.int (nI i), .int (nI y), .long (lN ((Ld i y) ||| (Ld i x)))]) (rest := []) X hB wf_hA (c_Set_setLead (l := l) (D := D) (t := t) (w := (wf_l w [(r, .inr (3, [.int (nI k), .ref rl, .ref rc, .ref rz, .long (lN b), .long (lN en)])), (rl, .inl (t 1, 164, .inr (.inl (lA K))))])) (sz := H.size) (r := r) (rl := rl) (rc := rc) (rz := rz) (k := k) (b := b) (en := en) (G := K) (u := i) (a := y) (x := (Ld i y) ||| (Ld i x)) (nd_sub hN [0, 1] rfl (by decide)) (wf_lg (w := w) (l := [(r, .inr (3, [.int (nI k), .ref rl, .ref rc, .ref rz, .long (lN b), .long (lN en)])), (rl, .inl (t 1, 164, .inr (.inl (lA K))))]) hN 0 rfl) (wf_lg (w := w) (l := [(r, .inr (3, [.int (nI k), .ref rl, .ref rc, .ref rz, .long (lN b), .long (lN en)])), (rl, .inl (t 1, 164, .inr (.inl (lA K))))]) hN 1 rfl) (by exact hk) (by exact hi) (by exact hyk)) k_621 k_623 k_21 k_70 k_624 (wf_lg (w := w) (l := [(r, .inr (3, [.int (nI k), .ref rl, .ref rc, .ref rz, .long (lN b), .long (lN en)])), (rl, .inl (t 1, 164, .inr (.inl (lA K))))]) hN 0 rfl) cl_Set rfl hd_Set_setLead ⟨Nat.le_of_ble_eq_true rfl, Nat.le_of_ble_eq_true rfl⟩ ⟨Nat.le_of_ble_eq_true rfl, Nat.le_of_ble_eq_true rfl⟩ hl.1 (Nat.le_of_ble_eq_true rfl) d_Set_readAs_30 rfl (fun w1 H locs hp hB => ?_)
      have hw_30 := hp
      have hB : wf_B D wcl (wf_A w s.heap.size) s.heap (wf_l w [(r, .inr (3, [.int (nI k), .ref rl, .ref rc, .ref rz, .long (lN b), .long (lN en)])), (rl, .inl (t 1, 164, .inr (.inl (lA (nu K (i * 4 + y) ((Ld i y) ||| (Ld i x)))))))]) H locs := wf_Bto (hw_30.trans (wlw (L1 := [(r, .inr (3, [.int (nI k), .ref rl, .ref rc, .ref rz, .long (lN b), .long (lN en)])), (rl, .inl (t 1, 164, .inr (.inl (lA K))))]) hN 0 rfl rfl (wlw (L1 := [(r, .inr (3, [.int (nI k), .ref rl, .ref rc, .ref rz, .long (lN b), .long (lN en)])), (rl, .inl (t 1, 164, .inr (.inl (lA (nu K (i * 4 + y) ((Ld i y) ||| (Ld i x)))))))]) hN 1 rfl rfl rfl))) hB
      refine lv_aload_n hx hb d_Set_readAs_33 rfl (lv_at hl 0 rfl) ?_
      refine lv_iload_n hx hb d_Set_readAs_34 rfl (lv_at hl 3 rfl) ?_
      refine lv_iload_n hx hb d_Set_readAs_35 rfl (lv_at hl 1 rfl) ?_
      refine lv_lconst (v := lN 0) hx hb d_Set_readAs_36 (by decide) ?_
      refine callVv (As := [.int (nI i), .int (nI x), .long (lN 0)]) (rest := []) X hB wf_hA (c_Set_setLead (l := l) (D := D) (t := t) (w := (wf_l w [(r, .inr (3, [.int (nI k), .ref rl, .ref rc, .ref rz, .long (lN b), .long (lN en)])), (rl, .inl (t 1, 164, .inr (.inl (lA (nu K (i * 4 + y) ((Ld i y) ||| (Ld i x)))))))])) (sz := H.size) (r := r) (rl := rl) (rc := rc) (rz := rz) (k := k) (b := b) (en := en) (G := (nu K (i * 4 + y) ((Ld i y) ||| (Ld i x)))) (u := i) (a := x) (x := 0) (nd_sub hN [0, 1] rfl (by decide)) (wf_lg (w := w) (l := [(r, .inr (3, [.int (nI k), .ref rl, .ref rc, .ref rz, .long (lN b), .long (lN en)])), (rl, .inl (t 1, 164, .inr (.inl (lA (nu K (i * 4 + y) ((Ld i y) ||| (Ld i x)))))))]) hN 0 rfl) (wf_lg (w := w) (l := [(r, .inr (3, [.int (nI k), .ref rl, .ref rc, .ref rz, .long (lN b), .long (lN en)])), (rl, .inl (t 1, 164, .inr (.inl (lA (nu K (i * 4 + y) ((Ld i y) ||| (Ld i x)))))))]) hN 1 rfl) (by exact hk) (by exact hi) (by exact hxk)) k_621 k_623 k_21 k_70 k_624 (wf_lg (w := w) (l := [(r, .inr (3, [.int (nI k), .ref rl, .ref rc, .ref rz, .long (lN b), .long (lN en)])), (rl, .inl (t 1, 164, .inr (.inl (lA (nu K (i * 4 + y) ((Ld i y) ||| (Ld i x)))))))]) hN 0 rfl) cl_Set rfl hd_Set_setLead ⟨Nat.le_of_ble_eq_true rfl, Nat.le_of_ble_eq_true rfl⟩ ⟨Nat.le_of_ble_eq_true rfl, Nat.le_of_ble_eq_true rfl⟩ hl.1 (Nat.le_of_ble_eq_true rfl) d_Set_readAs_37 rfl (fun w1 H locs hp hB => ?_)
      have hw_37 := hp
      have hB : wf_B D wcl (wf_A w s.heap.size) s.heap (wf_l w [(r, .inr (3, [.int (nI k), .ref rl, .ref rc, .ref rz, .long (lN b), .long (lN en)])), (rl, .inl (t 1, 164, .inr (.inl (lA (nu (nu K (i * 4 + y) ((Ld i y) ||| (Ld i x))) (i * 4 + x) 0)))))]) H locs := wf_Bto (hw_37.trans (wlw (L1 := [(r, .inr (3, [.int (nI k), .ref rl, .ref rc, .ref rz, .long (lN b), .long (lN en)])), (rl, .inl (t 1, 164, .inr (.inl (lA (nu K (i * 4 + y) ((Ld i y) ||| (Ld i x)))))))]) hN 0 rfl rfl (wlw (L1 := [(r, .inr (3, [.int (nI k), .ref rl, .ref rc, .ref rz, .long (lN b), .long (lN en)])), (rl, .inl (t 1, 164, .inr (.inl (lA (nu (nu K (i * 4 + y) ((Ld i y) ||| (Ld i x))) (i * 4 + x) 0)))))]) hN 1 rfl rfl rfl))) hB
      refine lv_iinc (v := nI (i + 1)) (lv' := [(3, .int (nI (i + 1))), (0, .ref r), (1, .int (nI x)), (2, .int (nI y))]) hx hb d_Set_readAs_40 hl (k := 3) rfl (show nI i + nI 1 = nI (i + 1) from nI_add _ _) (by decide) rfl (fun ls hl => ?_)
      refine lv_goto (tgt := 8) hx hb d_Set_readAs_43 (by decide) ?_
      exact ih (i + 1) (nu (nu K (i * 4 + y) ((Ld i y) ||| (Ld i x))) (i * 4 + x) 0) (by omega) (by intro u a hu ha; by_cases e9 : u = i; (rw [if_pos (by omega)]; by_cases e8 : a = x; (rw [nu_e (by rw [e9, e8]), if_neg (by omega), if_pos e8]); rw [nu_n (by omega)]; by_cases e7 : a = y; (rw [nu_e (by rw [e9, e7]), if_pos e7, e9]); rw [nu_n (by omega), if_neg e7, if_neg e8, hg u a hu ha, if_neg (by omega)]); rw [nu_n (by omega), nu_n (by omega), hg u a hu ha]; by_cases e6 : u < i; (rw [if_pos e6, if_pos (show u < i + 1 by omega)]); rw [if_neg e6, if_neg (show ¬ u < i + 1 by omega)]) (by omega) H locs ls (lv_sub hl [1, 2, 3, 0] rfl) hB
set_option maxHeartbeats 4000000 in
set_option maxRecDepth 100000 in
theorem c_Set_readAs {l : Launch} {D : va_G} {t : Nat → ClassId} {w : wf_W} {sz : Nat} {r rl rc rz k b en : Nat} {G : Nat → Nat} {Ld : Nat → Nat → Nat} {x y : Nat} (hN : nd [r, rl]) (hS : w r = some (.inr (3, [.int (nI k), .ref rl, .ref rc, .ref rz, .long (lN b), .long (lN en)]))) (hL : w rl = some (.inl (t 1, 164, .inr (.inl (lA G))))) (hk : k ≤ 4) (hLd : lOK k G Ld) (hxk : x < k) (hyk : y < k) : Mv l y_Set_readAs b_Set_readAs 4 none 2 46 0 0 D t w sz [.ref r, .int (nI x), .int (nI y)] (fun w' => ((x = y) ∧ w' = wf_l w [(r, .inr (3, [.int (nI k), .ref rl, .ref rc, .ref rz, .long (lN b), .long (lN en)])), (rl, .inl (t 1, 164, .inr (.inl (lA G))))]) ∨ (∃ G0 : Nat → Nat, (x ≠ y) ∧ (lOK k G0 (fun z1 z2 => if z1 < 40 then (if z2 = y then Ld z1 y ||| Ld z1 x else if z2 = x then 0 else Ld z1 z2) else Ld z1 z2)) ∧ w' = wf_l w [(r, .inr (3, [.int (nI k), .ref rl, .ref rc, .ref rz, .long (lN b), .long (lN en)])), (rl, .inl (t 1, 164, .inr (.inl (lA G0))))])) := by
  refine start_v (by decide) (Nat.le_of_ble_eq_true rfl) ?_
  intro p e s m below meth c ls H locs X hB hl
  have hx := X.1
  have hb := X.2.1
  have hl : lv_has ls 4 [(0, .ref r), (1, .int (nI x)), (2, .int (nI y))] := hl
  have hB : wf_B D wcl (wf_A w s.heap.size) s.heap (wf_l w [(r, .inr (3, [.int (nI k), .ref rl, .ref rc, .ref rz, .long (lN b), .long (lN en)])), (rl, .inl (t 1, 164, .inr (.inl (lA G))))]) H locs := wf_Bto (wf_l2 hS hL).symm hB
  refine lv_iload_n hx hb d_Set_readAs_0 rfl (lv_at hl 1 rfl) ?_
  refine lv_iload_n hx hb d_Set_readAs_1 rfl (lv_at hl 2 rfl) ?_
  refine wf_cne (tgt := 6) hx hb d_Set_readAs_2 (by decide) (nI_toInt (by omega)) (nI_toInt (by omega)) (fun c_2 => ?_) (fun c_2 => ?_)
  · have hne : x ≠ y := by omega
    refine lv_iconst (v := nI 0) hx hb d_Set_readAs_6 (by decide) ?_
    refine lv_istore_n (lv' := [(3, .int (nI 0)), (0, .ref r), (1, .int (nI x)), (2, .int (nI y))]) hx hb d_Set_readAs_7 rfl hl (by decide) rfl (fun ls hl => ?_)
    refine c_Set_readAs_L8 (l := l) X hN hS hL hk hLd hxk hyk hne (fun i K hi hg he H locs ls hl hB => ?_) (40 - 0 + 1) 0 G (by omega) (by intro u a hu ha; rw [if_neg (by omega)]; exact (hLd u a hu ha).1) (by omega) H locs ls (lv_sub hl [1, 2, 3, 0] rfl) hB
    refine ret_v X hB d_Set_readAs_46 ?_
    refine Or.inr ⟨_, hne, fun u a hu ha => ⟨by rw [hg u a hu ha, he], ?_⟩, rfl⟩; have h1 := (hLd u a hu ha).2; have h2 := (hLd u x hu hxk).2; have h3 := (hLd u y hu hyk).2; have h4 := Nat.or_lt_two_pow h3 h2; dsimp only; split; split; omega; split; decide; omega; omega
  · refine ret_v X hB d_Set_readAs_5 ?_
    exact Or.inl ⟨by omega, rfl⟩
set_option maxHeartbeats 4000000 in
set_option maxRecDepth 100000 in
theorem c_Set_statesBy_L10 {l : Launch} {D : va_G} {t : Nat → ClassId} {w : wf_W} {h hs k n E : Nat} {f : Nat → Int32} {st : Nat → Nat → Nat} {u x : Nat}  {p : Program} {e : Env} {s : State} {m : MethodId} {below : List Frame} {meth : Method} {c : Code} {Q : State → Prop} (X : Cx p s m meth c R_Set "statesBy" b_Set_statesBy 7 (some .long) D t) (hM : w h = some (.inr (1, [.int (nI k), .ref hs, .int (nI n), .long (lN E)]))) (hF : w hs = some (.inl (t 0, 40, .inl (pkA f)))) (hm : mOK k n E f st) (hu : u < 40) (hx4 : x < 4)
    (K_41 : ∀ (i : Nat), (i ≤ n) → (i = n) → ∀ (H : Heap) (locs : List Loc) (ls : Array Slot), lv_has ls 7 [(0, .ref h), (1, .int (nI u)), (2, .int (nI x)), (3, .long (lN (sby k n st x u i))), (5, .int (nI (chn k n st x u i))), (6, .int (nI i))] → wf_B D wcl (wf_A w s.heap.size) s.heap w H locs → W p l e (rmk 2 44 0 0) s m [.ref h, .int (nI u), .int (nI x)].toArray below meth c H locs 0 0 Q (F0 m 41 ls [])) :
    ∀ (fu : Nat) (i : Nat), (i ≤ n) → n - i < fu → ∀ (H : Heap) (locs : List Loc) (ls : Array Slot), lv_has ls 7 [(0, .ref h), (1, .int (nI u)), (2, .int (nI x)), (3, .long (lN (sby k n st x u i))), (5, .int (nI (chn k n st x u i))), (6, .int (nI i))] → wf_B D wcl (wf_A w s.heap.size) s.heap w H locs → W p l e (rmk 2 44 0 0) s m [.ref h, .int (nI u), .int (nI x)].toArray below meth c H locs 0 0 Q (F0 m 10 ls []) := by
  have hx := X.1
  have hb := X.2.1
  intro fu
  induction fu with
  | zero => intro i hi hfu; exact absurd hfu (Nat.not_lt_zero _)
  | succ fu ih =>
    intro i hi hfu H locs ls hl hB
    have hk := hm.1
    have hn := hm.2.1
    have hn0 := hm.2.2.1
    have hE := hm.E40
    refine lv_iload hx hb d_Set_statesBy_10 (lv_at hl 5 rfl) ?_
    refine lv_aload_n hx hb d_Set_statesBy_12 rfl (lv_at hl 0 rfl) ?_
    refine rgetN X hB  i_Mac hM cl_Mac 2 (by decide) k_123 rfl rfl d_Set_statesBy_13 ?_
    refine wf_cge (tgt := 41) hx hb d_Set_statesBy_16 (by decide) (nI_toInt (by omega)) (nI_toInt (by omega)) (fun c_16 => ?_) (fun c_16 => ?_)
    · exact K_41 i hi (by omega) H locs ls (lv_sub hl [0, 1, 2, 3, 4, 5] rfl) hB
    · refine lv_aload_n hx hb d_Set_statesBy_19 rfl (lv_at hl 0 rfl) ?_
      refine lv_iload hx hb d_Set_statesBy_20 (lv_at hl 4 rfl) ?_
      refine lv_iload_n hx hb d_Set_statesBy_22 rfl (lv_at hl 2 rfl) ?_
      refine callVi (As := [.int (nI (chn k n st x u i)), .int (nI x)]) (rest := []) X hB wf_hA (c_Mac_step (l := l) (D := D) (t := t) (w := w) (sz := H.size) (h := h) (hs := hs) (k := k) (n := n) (E := E) (f := f) (st := st) (u := chn k n st x u i) (a := x) hM hF (by exact hm) (by have := chn_lt hm (x := x) hu i; omega) (by omega)) k_616 k_434 k_435 k_67 k_436 hM cl_Mac rfl hd_Mac_step ⟨Nat.le_of_ble_eq_true rfl, Nat.le_of_ble_eq_true rfl⟩ ⟨Nat.le_of_ble_eq_true rfl, Nat.le_of_ble_eq_true rfl⟩ hl.1 (Nat.le_of_ble_eq_true rfl) d_Set_statesBy_23 rfl (fun r_23 w1 H locs hp hB => ?_)
      obtain ⟨rfl, hw_23⟩ := hp
      have hB : wf_B D wcl (wf_A w s.heap.size) s.heap w H locs := wf_Bto hw_23 hB
      refine wf_ti (y := nI (chn k n st x u (i + 1))) (by rw [chn]) ?_
      refine lv_istore (lv' := [(5, .int (nI (chn k n st x u (i + 1)))), (0, .ref h), (1, .int (nI u)), (2, .int (nI x)), (3, .long (lN (sby k n st x u i))), (6, .int (nI i))]) hx hb d_Set_statesBy_26 hl (by decide) rfl (fun ls hl => ?_)
      refine lv_lload_n hx hb d_Set_statesBy_28 rfl (lv_at hl 4 rfl) ?_
      refine lv_lconst (v := lN 1) hx hb d_Set_statesBy_29 (by decide) ?_
      refine lv_iload hx hb d_Set_statesBy_30 (lv_at hl 0 rfl) ?_
      refine lv_lshl (v := lN (1 * 2 ^ (chn k n st x u (i + 1)))) hx hb d_Set_statesBy_32 (wb_shl _ (by have := chn_lt hm (x := x) hu (i + 1); omega)) ?_
      refine wf_tl (y := lN (2 ^ chn k n st x u (i + 1))) (by rw [Nat.one_mul]) ?_
      refine lv_lor hx hb d_Set_statesBy_33 ?_
      refine wf_tl (y := lN ((sby k n st x u i) ||| (2 ^ chn k n st x u (i + 1)))) (wb_or (by have := sby_lt hm (x := x) hu i; omega) (by have := chn_lt hm (x := x) hu (i + 1); exact Nat.pow_lt_pow_right (by decide) (by omega))) ?_
      refine wf_tl (y := lN (sby k n st x u (i + 1))) (by rw [sby]) ?_
      refine lv_lstore_n (lv' := [(3, .long (lN (sby k n st x u (i + 1)))), (5, .int (nI (chn k n st x u (i + 1)))), (0, .ref h), (1, .int (nI u)), (2, .int (nI x)), (6, .int (nI i))]) hx hb d_Set_statesBy_34 rfl hl (by decide) rfl (fun ls hl => ?_)
      refine lv_iinc (v := nI (i + 1)) (lv' := [(6, .int (nI (i + 1))), (3, .long (lN (sby k n st x u (i + 1)))), (5, .int (nI (chn k n st x u (i + 1)))), (0, .ref h), (1, .int (nI u)), (2, .int (nI x))]) hx hb d_Set_statesBy_35 hl (k := 5) rfl (show nI i + nI 1 = nI (i + 1) from nI_add _ _) (by decide) rfl (fun ls hl => ?_)
      refine lv_goto (tgt := 10) hx hb d_Set_statesBy_38 (by decide) ?_
      exact ih (i + 1) (by omega) (by omega) H locs ls (lv_sub hl [3, 4, 5, 1, 2, 0] rfl) hB
set_option maxHeartbeats 4000000 in
set_option maxRecDepth 100000 in
theorem c_Set_statesBy {l : Launch} {D : va_G} {t : Nat → ClassId} {w : wf_W} {sz : Nat} {h hs k n E : Nat} {f : Nat → Int32} {st : Nat → Nat → Nat} {u x : Nat} (hM : w h = some (.inr (1, [.int (nI k), .ref hs, .int (nI n), .long (lN E)]))) (hF : w hs = some (.inl (t 0, 40, .inl (pkA f)))) (hm : mOK k n E f st) (hu : u < 40) (hx4 : x < 4) : Ml l y_Set_statesBy b_Set_statesBy 7 (some .long) 2 44 0 0 D t w sz [.ref h, .int (nI u), .int (nI x)] (fun r w' => r = (lN (sby k n st x u n)) ∧ w' = w) := by
  refine start_l (by decide) (Nat.le_of_ble_eq_true rfl) ?_
  intro p e s m below meth c ls H locs X hB hl
  have hx := X.1
  have hb := X.2.1
  have hl : lv_has ls 7 [(0, .ref h), (1, .int (nI u)), (2, .int (nI x))] := hl
  have hk := hm.1
  have hn := hm.2.1
  have hn0 := hm.2.2.1
  have hE := hm.E40
  refine lv_lconst (v := lN 1) hx hb d_Set_statesBy_0 (by decide) ?_
  refine lv_iload_n hx hb d_Set_statesBy_1 rfl (lv_at hl 1 rfl) ?_
  refine lv_lshl (v := lN (1 * 2 ^ u)) hx hb d_Set_statesBy_2 (wb_shl _ (by omega)) ?_
  refine wf_tl (y := lN (2 ^ u)) (by rw [Nat.one_mul]) ?_
  refine lv_lstore_n (lv' := [(3, .long (lN (2 ^ u))), (0, .ref h), (1, .int (nI u)), (2, .int (nI x))]) hx hb d_Set_statesBy_3 rfl hl (by decide) rfl (fun ls hl => ?_)
  refine lv_iload_n hx hb d_Set_statesBy_4 rfl (lv_at hl 2 rfl) ?_
  refine lv_istore (lv' := [(5, .int (nI u)), (3, .long (lN (2 ^ u))), (0, .ref h), (1, .int (nI u)), (2, .int (nI x))]) hx hb d_Set_statesBy_5 hl (by decide) rfl (fun ls hl => ?_)
  refine lv_iconst (v := nI 0) hx hb d_Set_statesBy_7 (by decide) ?_
  refine lv_istore (lv' := [(6, .int (nI 0)), (5, .int (nI u)), (3, .long (lN (2 ^ u))), (0, .ref h), (1, .int (nI u)), (2, .int (nI x))]) hx hb d_Set_statesBy_8 hl (by decide) rfl (fun ls hl => ?_)
  refine c_Set_statesBy_L10 (l := l) X hM hF hm hu hx4 (fun i hi he H locs ls hl hB => ?_) (n - 0 + 1) 0 (by omega) (by omega) H locs ls (lv_sub hl [3, 4, 5, 2, 1, 0] rfl) hB
  refine lv_lload_n hx hb d_Set_statesBy_41 rfl (lv_at hl 3 rfl) ?_
  refine ret_l X hB d_Set_statesBy_42 ?_
  subst he; exact ⟨rfl, rfl⟩
set_option maxHeartbeats 4000000 in
set_option maxRecDepth 100000 in
theorem c_Set_skip_L33 {l : Launch} {D : va_G} {t : Nat → ClassId} {w : wf_W} {r rl rc rz k b en : Nat} {G C : Nat → Nat} {h hs n E : Nat} {f : Nat → Int32} {st : Nat → Nat → Nat} {x : Nat} {b9 : Nat} {C9 : Nat → Nat} {p : Program} {e : Env} {s : State} {m : MethodId} {below : List Frame} {meth : Method} {c : Code} {Q : State → Prop} (X : Cx p s m meth c R_Set "skip" b_Set_skip 4 none D t) (hN : nd [r, rl, rc, h, hs]) (hS : w r = some (.inr (3, [.int (nI k), .ref rl, .ref rc, .ref rz, .long (lN b), .long (lN en)]))) (hL : w rl = some (.inl (t 1, 164, .inr (.inl (lA G))))) (hC : w rc = some (.inl (t 1, 40, .inr (.inl (lA C))))) (hM : w h = some (.inr (1, [.int (nI k), .ref hs, .int (nI n), .long (lN E)]))) (hF : w hs = some (.inl (t 0, 40, .inl (pkA f)))) (hm : mOK k n E f st) (hxk : x < k)
    (K_52 : ∀ (j : Nat) (K2 : Nat → Nat), (j ≤ 40) → (∀ u a, u ≤ 40 → a < k → K2 (u * 4 + a) = if u < n then (if a = x ∧ u < j then 0 else sby k n st x (stp k n st u a) n) else 0) → (j = 40) → ∀ (H : Heap) (locs : List Loc) (ls : Array Slot), lv_has ls 4 [(0, .ref r), (1, .ref h), (2, .int (nI x)), (3, .int (nI j))] → wf_B D wcl (wf_A w s.heap.size) s.heap (wf_l w [(r, .inr (3, [.int (nI k), .ref rl, .ref rc, .ref rz, .long (lN b9), .long (lN E)])), (rl, .inl (t 1, 164, .inr (.inl (lA K2)))), (rc, .inl (t 1, 40, .inr (.inl (lA C9)))), (h, .inr (1, [.int (nI k), .ref hs, .int (nI n), .long (lN E)])), (hs, .inl (t 0, 40, .inl (pkA f)))]) H locs → W p l e (rmk 3 70 0 0) s m [.ref r, .ref h, .int (nI x)].toArray below meth c H locs 0 0 Q (F0 m 52 ls [])) :
    ∀ (fu : Nat) (j : Nat) (K2 : Nat → Nat), (j ≤ 40) → (∀ u a, u ≤ 40 → a < k → K2 (u * 4 + a) = if u < n then (if a = x ∧ u < j then 0 else sby k n st x (stp k n st u a) n) else 0) → 40 - j < fu → ∀ (H : Heap) (locs : List Loc) (ls : Array Slot), lv_has ls 4 [(0, .ref r), (1, .ref h), (2, .int (nI x)), (3, .int (nI j))] → wf_B D wcl (wf_A w s.heap.size) s.heap (wf_l w [(r, .inr (3, [.int (nI k), .ref rl, .ref rc, .ref rz, .long (lN b9), .long (lN E)])), (rl, .inl (t 1, 164, .inr (.inl (lA K2)))), (rc, .inl (t 1, 40, .inr (.inl (lA C9)))), (h, .inr (1, [.int (nI k), .ref hs, .int (nI n), .long (lN E)])), (hs, .inl (t 0, 40, .inl (pkA f)))]) H locs → W p l e (rmk 3 70 0 0) s m [.ref r, .ref h, .int (nI x)].toArray below meth c H locs 0 0 Q (F0 m 33 ls []) := by
  have hx := X.1
  have hb := X.2.1
  intro fu
  induction fu with
  | zero => intro j K2 hj hg2 hfu; exact absurd hfu (Nat.not_lt_zero _)
  | succ fu ih =>
    intro j K2 hj hg2 hfu H locs ls hl hB
    have hk := hm.1
    have hn := hm.2.1
    have hn0 := hm.2.2.1
    have hE := hm.E40
    refine lv_iload_n hx hb d_Set_skip_33 rfl (lv_at hl 3 rfl) ?_
    refine lv_bipush (v := nI 40) hx hb d_Set_skip_34 (by decide) ?_
    refine wf_cge (tgt := 52) hx hb d_Set_skip_36 (by decide) (nI_toInt (by omega)) (nI_toInt (by omega)) (fun c_36 => ?_) (fun c_36 => ?_)
    · exact K_52 j K2 hj hg2 (by omega) H locs ls (lv_sub hl [0, 1, 2, 3] rfl) hB
    · refine lv_aload_n hx hb d_Set_skip_39 rfl (lv_at hl 0 rfl) ?_
      refine lv_iload_n hx hb d_Set_skip_40 rfl (lv_at hl 3 rfl) ?_
      refine lv_iload_n hx hb d_Set_skip_41 rfl (lv_at hl 2 rfl) ?_
      refine lv_lconst (v := lN 0) hx hb d_Set_skip_42 (by decide) ?_
      refine callVv (As := [.int (nI j), .int (nI x), .long (lN 0)]) (rest := []) X hB wf_hA (c_Set_setLead (l := l) (D := D) (t := t) (w := (wf_l w [(r, .inr (3, [.int (nI k), .ref rl, .ref rc, .ref rz, .long (lN b9), .long (lN E)])), (rl, .inl (t 1, 164, .inr (.inl (lA K2)))), (rc, .inl (t 1, 40, .inr (.inl (lA C9)))), (h, .inr (1, [.int (nI k), .ref hs, .int (nI n), .long (lN E)])), (hs, .inl (t 0, 40, .inl (pkA f)))])) (sz := H.size) (r := r) (rl := rl) (rc := rc) (rz := rz) (k := k) (b := b9) (en := E) (G := K2) (u := j) (a := x) (x := 0) (nd_sub hN [0, 1] rfl (by decide)) (wf_lg (w := w) (l := [(r, .inr (3, [.int (nI k), .ref rl, .ref rc, .ref rz, .long (lN b9), .long (lN E)])), (rl, .inl (t 1, 164, .inr (.inl (lA K2)))), (rc, .inl (t 1, 40, .inr (.inl (lA C9)))), (h, .inr (1, [.int (nI k), .ref hs, .int (nI n), .long (lN E)])), (hs, .inl (t 0, 40, .inl (pkA f)))]) hN 0 rfl) (wf_lg (w := w) (l := [(r, .inr (3, [.int (nI k), .ref rl, .ref rc, .ref rz, .long (lN b9), .long (lN E)])), (rl, .inl (t 1, 164, .inr (.inl (lA K2)))), (rc, .inl (t 1, 40, .inr (.inl (lA C9)))), (h, .inr (1, [.int (nI k), .ref hs, .int (nI n), .long (lN E)])), (hs, .inl (t 0, 40, .inl (pkA f)))]) hN 1 rfl) (by omega) (by exact hj) (by exact hxk)) k_621 k_623 k_21 k_70 k_624 (wf_lg (w := w) (l := [(r, .inr (3, [.int (nI k), .ref rl, .ref rc, .ref rz, .long (lN b9), .long (lN E)])), (rl, .inl (t 1, 164, .inr (.inl (lA K2)))), (rc, .inl (t 1, 40, .inr (.inl (lA C9)))), (h, .inr (1, [.int (nI k), .ref hs, .int (nI n), .long (lN E)])), (hs, .inl (t 0, 40, .inl (pkA f)))]) hN 0 rfl) cl_Set rfl hd_Set_setLead ⟨Nat.le_of_ble_eq_true rfl, Nat.le_of_ble_eq_true rfl⟩ ⟨Nat.le_of_ble_eq_true rfl, Nat.le_of_ble_eq_true rfl⟩ hl.1 (Nat.le_of_ble_eq_true rfl) d_Set_skip_43 rfl (fun w1 H locs hp hB => ?_)
      have hw_43 := hp
      have hB : wf_B D wcl (wf_A w s.heap.size) s.heap (wf_l w [(r, .inr (3, [.int (nI k), .ref rl, .ref rc, .ref rz, .long (lN b9), .long (lN E)])), (rl, .inl (t 1, 164, .inr (.inl (lA (nu K2 (j * 4 + x) 0))))), (rc, .inl (t 1, 40, .inr (.inl (lA C9)))), (h, .inr (1, [.int (nI k), .ref hs, .int (nI n), .long (lN E)])), (hs, .inl (t 0, 40, .inl (pkA f)))]) H locs := wf_Bto (hw_43.trans (wlw (L1 := [(r, .inr (3, [.int (nI k), .ref rl, .ref rc, .ref rz, .long (lN b9), .long (lN E)])), (rl, .inl (t 1, 164, .inr (.inl (lA K2)))), (rc, .inl (t 1, 40, .inr (.inl (lA C9)))), (h, .inr (1, [.int (nI k), .ref hs, .int (nI n), .long (lN E)])), (hs, .inl (t 0, 40, .inl (pkA f)))]) hN 0 rfl rfl (wlw (L1 := [(r, .inr (3, [.int (nI k), .ref rl, .ref rc, .ref rz, .long (lN b9), .long (lN E)])), (rl, .inl (t 1, 164, .inr (.inl (lA (nu K2 (j * 4 + x) 0))))), (rc, .inl (t 1, 40, .inr (.inl (lA C9)))), (h, .inr (1, [.int (nI k), .ref hs, .int (nI n), .long (lN E)])), (hs, .inl (t 0, 40, .inl (pkA f)))]) hN 1 rfl rfl rfl))) hB
      refine lv_iinc (v := nI (j + 1)) (lv' := [(3, .int (nI (j + 1))), (0, .ref r), (1, .ref h), (2, .int (nI x))]) hx hb d_Set_skip_46 hl (k := 3) rfl (show nI j + nI 1 = nI (j + 1) from nI_add _ _) (by decide) rfl (fun ls hl => ?_)
      refine lv_goto (tgt := 33) hx hb d_Set_skip_49 (by decide) ?_
      exact ih (j + 1) (nu K2 (j * 4 + x) 0) (by omega) (by intro u a hu ha; by_cases e9 : u = j ∧ a = x; (rw [nu_e (by rw [e9.1, e9.2])]; split; (rw [if_pos (show a = x ∧ u < j + 1 by omega)]); rfl); rw [nu_n (by omega), hg2 u a hu ha]; by_cases e8 : a = x ∧ u < j; (rw [if_pos e8, if_pos (show a = x ∧ u < j + 1 by omega)]); rw [if_neg e8, if_neg (show ¬ (a = x ∧ u < j + 1) by omega)]) (by omega) H locs ls (lv_sub hl [1, 2, 3, 0] rfl) hB
set_option maxHeartbeats 4000000 in
set_option maxRecDepth 100000 in
theorem c_Set_skip_L2 {l : Launch} {D : va_G} {t : Nat → ClassId} {w : wf_W} {r rl rc rz k b en : Nat} {G C : Nat → Nat} {h hs n E : Nat} {f : Nat → Int32} {st : Nat → Nat → Nat} {x : Nat}  {p : Program} {e : Env} {s : State} {m : MethodId} {below : List Frame} {meth : Method} {c : Code} {Q : State → Prop} (X : Cx p s m meth c R_Set "skip" b_Set_skip 4 none D t) (hN : nd [r, rl, rc, h, hs]) (hS : w r = some (.inr (3, [.int (nI k), .ref rl, .ref rc, .ref rz, .long (lN b), .long (lN en)]))) (hL : w rl = some (.inl (t 1, 164, .inr (.inl (lA G))))) (hC : w rc = some (.inl (t 1, 40, .inr (.inl (lA C))))) (hM : w h = some (.inr (1, [.int (nI k), .ref hs, .int (nI n), .long (lN E)]))) (hF : w hs = some (.inl (t 0, 40, .inl (pkA f)))) (hm : mOK k n E f st) (hxk : x < k)
    (K_26 : ∀ (i : Nat) (K : Nat → Nat), (i ≤ 40) → (∀ j, j < i → K j = sby k n st x j n) → (i = 40) → ∀ (H : Heap) (locs : List Loc) (ls : Array Slot), lv_has ls 4 [(0, .ref r), (1, .ref h), (2, .int (nI x)), (3, .int (nI i))] → wf_B D wcl (wf_A w s.heap.size) s.heap (wf_l w [(r, .inr (3, [.int (nI k), .ref rl, .ref rc, .ref rz, .long (lN b), .long (lN en)])), (rl, .inl (t 1, 164, .inr (.inl (lA G)))), (rc, .inl (t 1, 40, .inr (.inl (lA K)))), (h, .inr (1, [.int (nI k), .ref hs, .int (nI n), .long (lN E)])), (hs, .inl (t 0, 40, .inl (pkA f)))]) H locs → W p l e (rmk 3 70 0 0) s m [.ref r, .ref h, .int (nI x)].toArray below meth c H locs 0 0 Q (F0 m 26 ls [])) :
    ∀ (fu : Nat) (i : Nat) (K : Nat → Nat), (i ≤ 40) → (∀ j, j < i → K j = sby k n st x j n) → 40 - i < fu → ∀ (H : Heap) (locs : List Loc) (ls : Array Slot), lv_has ls 4 [(0, .ref r), (1, .ref h), (2, .int (nI x)), (3, .int (nI i))] → wf_B D wcl (wf_A w s.heap.size) s.heap (wf_l w [(r, .inr (3, [.int (nI k), .ref rl, .ref rc, .ref rz, .long (lN b), .long (lN en)])), (rl, .inl (t 1, 164, .inr (.inl (lA G)))), (rc, .inl (t 1, 40, .inr (.inl (lA K)))), (h, .inr (1, [.int (nI k), .ref hs, .int (nI n), .long (lN E)])), (hs, .inl (t 0, 40, .inl (pkA f)))]) H locs → W p l e (rmk 3 70 0 0) s m [.ref r, .ref h, .int (nI x)].toArray below meth c H locs 0 0 Q (F0 m 2 ls []) := by
  have hx := X.1
  have hb := X.2.1
  intro fu
  induction fu with
  | zero => intro i K hi hg hfu; exact absurd hfu (Nat.not_lt_zero _)
  | succ fu ih =>
    intro i K hi hg hfu H locs ls hl hB
    have hk := hm.1
    have hn := hm.2.1
    have hn0 := hm.2.2.1
    have hE := hm.E40
    refine lv_iload_n hx hb d_Set_skip_2 rfl (lv_at hl 3 rfl) ?_
    refine lv_bipush (v := nI 40) hx hb d_Set_skip_3 (by decide) ?_
    refine wf_cge (tgt := 26) hx hb d_Set_skip_5 (by decide) (nI_toInt (by omega)) (nI_toInt (by omega)) (fun c_5 => ?_) (fun c_5 => ?_)
    · exact K_26 i K hi hg (by omega) H locs ls (lv_sub hl [0, 1, 2, 3] rfl) hB
    · refine lv_aload_n hx hb d_Set_skip_8 rfl (lv_at hl 0 rfl) ?_
      refine rgetL X hB hN 0 i_Set rfl cl_Set 2 (by decide) k_183 rfl rfl d_Set_skip_9 ?_
      refine lv_iload_n hx hb d_Set_skip_12 rfl (lv_at hl 3 rfl) ?_
      refine lv_aload_n hx hb d_Set_skip_13 rfl (lv_at hl 1 rfl) ?_
      refine lv_iload_n hx hb d_Set_skip_14 rfl (lv_at hl 3 rfl) ?_
      refine lv_iload_n hx hb d_Set_skip_15 rfl (lv_at hl 2 rfl) ?_
      refine callSl (As := [.ref h, .int (nI i), .int (nI x)]) (rest := [.int (nI i), .ref rc]) X hB wf_hA (c_Set_statesBy (l := l) (D := D) (t := t) (w := (wf_l w [(r, .inr (3, [.int (nI k), .ref rl, .ref rc, .ref rz, .long (lN b), .long (lN en)])), (rl, .inl (t 1, 164, .inr (.inl (lA G)))), (rc, .inl (t 1, 40, .inr (.inl (lA K)))), (h, .inr (1, [.int (nI k), .ref hs, .int (nI n), .long (lN E)])), (hs, .inl (t 0, 40, .inl (pkA f)))])) (sz := H.size) (h := h) (hs := hs) (k := k) (n := n) (E := E) (f := f) (st := st) (u := i) (x := x) (wf_lg (w := w) (l := [(r, .inr (3, [.int (nI k), .ref rl, .ref rc, .ref rz, .long (lN b), .long (lN en)])), (rl, .inl (t 1, 164, .inr (.inl (lA G)))), (rc, .inl (t 1, 40, .inr (.inl (lA K)))), (h, .inr (1, [.int (nI k), .ref hs, .int (nI n), .long (lN E)])), (hs, .inl (t 0, 40, .inl (pkA f)))]) hN 3 rfl) (wf_lg (w := w) (l := [(r, .inr (3, [.int (nI k), .ref rl, .ref rc, .ref rz, .long (lN b), .long (lN en)])), (rl, .inl (t 1, 164, .inr (.inl (lA G)))), (rc, .inl (t 1, 40, .inr (.inl (lA K)))), (h, .inr (1, [.int (nI k), .ref hs, .int (nI n), .long (lN E)])), (hs, .inl (t 0, 40, .inl (pkA f)))]) hN 4 rfl) (by exact hm) (by omega) (by omega)) k_654 k_655 k_70 k_656 hd_Set_statesBy ⟨Nat.le_of_ble_eq_true rfl, Nat.le_of_ble_eq_true rfl⟩ ⟨Nat.le_of_ble_eq_true rfl, Nat.le_of_ble_eq_true rfl⟩ hl.1 (Nat.le_of_ble_eq_true rfl) d_Set_skip_16 rfl (fun r_16 w1 H locs hp hB => ?_)
      obtain ⟨rfl, hw_16⟩ := hp
      have hB : wf_B D wcl (wf_A w s.heap.size) s.heap (wf_l w [(r, .inr (3, [.int (nI k), .ref rl, .ref rc, .ref rz, .long (lN b), .long (lN en)])), (rl, .inl (t 1, 164, .inr (.inl (lA G)))), (rc, .inl (t 1, 40, .inr (.inl (lA K)))), (h, .inr (1, [.int (nI k), .ref hs, .int (nI n), .long (lN E)])), (hs, .inl (t 0, 40, .inl (pkA f)))]) H locs := wf_Bto hw_16 hB
      refine rlastA X hB hN 2 (wl' := [(r, .inr (3, [.int (nI k), .ref rl, .ref rc, .ref rz, .long (lN b), .long (lN en)])), (rl, .inl (t 1, 164, .inr (.inl (lA G)))), (rc, .inl (t 1, 40, .inr (.inl (lA (nu K i (sby k n st x i n)))))), (h, .inr (1, [.int (nI k), .ref hs, .int (nI n), .long (lN E)])), (hs, .inl (t 0, 40, .inl (pkA f)))]) rfl (i := i) (by omega) (by decide) d_Set_skip_19 rfl (fun H locs hB => ?_)
      refine lv_iinc (v := nI (i + 1)) (lv' := [(3, .int (nI (i + 1))), (0, .ref r), (1, .ref h), (2, .int (nI x))]) hx hb d_Set_skip_20 hl (k := 3) rfl (show nI i + nI 1 = nI (i + 1) from nI_add _ _) (by decide) rfl (fun ls hl => ?_)
      refine lv_goto (tgt := 2) hx hb d_Set_skip_23 (by decide) ?_
      exact ih (i + 1) (nu K i (sby k n st x i n)) (by omega) (by intro j hj; by_cases e9 : j = i; rw [nu_e e9, e9]; rw [nu_n e9]; exact hg j (by omega)) (by omega) H locs ls (lv_sub hl [1, 2, 3, 0] rfl) hB
set_option maxHeartbeats 4000000 in
set_option maxRecDepth 100000 in
theorem c_Set_skip {l : Launch} {D : va_G} {t : Nat → ClassId} {w : wf_W} {sz : Nat} {r rl rc rz k b en : Nat} {G C : Nat → Nat} {h hs n E : Nat} {f : Nat → Int32} {st : Nat → Nat → Nat} {x : Nat} (hN : nd [r, rl, rc, h, hs]) (hS : w r = some (.inr (3, [.int (nI k), .ref rl, .ref rc, .ref rz, .long (lN b), .long (lN en)]))) (hL : w rl = some (.inl (t 1, 164, .inr (.inl (lA G))))) (hC : w rc = some (.inl (t 1, 40, .inr (.inl (lA C))))) (hM : w h = some (.inr (1, [.int (nI k), .ref hs, .int (nI n), .long (lN E)]))) (hF : w hs = some (.inl (t 0, 40, .inl (pkA f)))) (hm : mOK k n E f st) (hxk : x < k) : Mv l y_Set_skip b_Set_skip 4 none 3 70 0 0 D t w sz [.ref r, .ref h, .int (nI x)] (fun w' => ∃ G0 : Nat → Nat, ∃ C0 : Nat → Nat, (lOK k G0 (fun z1 z2 => if z1 < n then (if z2 = x then 0 else sby k n st x (stp k n st z1 z2) n) else 0)) ∧ w' = wf_l w [(r, .inr (3, [.int (nI k), .ref rl, .ref rc, .ref rz, .long (lN (sby k n st x 0 n)), .long (lN E)])), (rl, .inl (t 1, 164, .inr (.inl (lA G0)))), (rc, .inl (t 1, 40, .inr (.inl (lA C0)))), (h, .inr (1, [.int (nI k), .ref hs, .int (nI n), .long (lN E)])), (hs, .inl (t 0, 40, .inl (pkA f)))]) := by
  refine start_v (by decide) (Nat.le_of_ble_eq_true rfl) ?_
  intro p e s m below meth c ls H locs X hB hl
  have hx := X.1
  have hb := X.2.1
  have hl : lv_has ls 4 [(0, .ref r), (1, .ref h), (2, .int (nI x))] := hl
  have hB : wf_B D wcl (wf_A w s.heap.size) s.heap (wf_l w [(r, .inr (3, [.int (nI k), .ref rl, .ref rc, .ref rz, .long (lN b), .long (lN en)])), (rl, .inl (t 1, 164, .inr (.inl (lA G)))), (rc, .inl (t 1, 40, .inr (.inl (lA C)))), (h, .inr (1, [.int (nI k), .ref hs, .int (nI n), .long (lN E)])), (hs, .inl (t 0, 40, .inl (pkA f)))]) H locs := wf_Bto (wf_l5 hS hL hC hM hF).symm hB
  have hk := hm.1
  have hn := hm.2.1
  have hn0 := hm.2.2.1
  have hE := hm.E40
  refine lv_iconst (v := nI 0) hx hb d_Set_skip_0 (by decide) ?_
  refine lv_istore_n (lv' := [(3, .int (nI 0)), (0, .ref r), (1, .ref h), (2, .int (nI x))]) hx hb d_Set_skip_1 rfl hl (by decide) rfl (fun ls hl => ?_)
  refine c_Set_skip_L2 (l := l) X hN hS hL hC hM hF hm hxk (fun i K hi hg he H locs ls hl hB => ?_) (40 - 0 + 1) 0 C (by omega) (by intro j hj; omega) (by omega) H locs ls (lv_sub hl [1, 2, 3, 0] rfl) hB
  refine lv_aload_n hx hb d_Set_skip_26 rfl (lv_at hl 0 rfl) ?_
  refine lv_aload_n hx hb d_Set_skip_27 rfl (lv_at hl 1 rfl) ?_
  refine callVv (As := [.ref h]) (rest := []) X hB wf_hA (c_Set_followWithCompany (l := l) (D := D) (t := t) (w := (wf_l w [(r, .inr (3, [.int (nI k), .ref rl, .ref rc, .ref rz, .long (lN b), .long (lN en)])), (rl, .inl (t 1, 164, .inr (.inl (lA G)))), (rc, .inl (t 1, 40, .inr (.inl (lA K)))), (h, .inr (1, [.int (nI k), .ref hs, .int (nI n), .long (lN E)])), (hs, .inl (t 0, 40, .inl (pkA f)))])) (sz := H.size) (r := r) (rl := rl) (rc := rc) (rz := rz) (k := k) (b := b) (en := en) (G := G) (C := K) (h := h) (hs := hs) (n := n) (E := E) (f := f) (st := st) (nd_sub hN [0, 1, 2, 3, 4] rfl (by decide)) (wf_lg (w := w) (l := [(r, .inr (3, [.int (nI k), .ref rl, .ref rc, .ref rz, .long (lN b), .long (lN en)])), (rl, .inl (t 1, 164, .inr (.inl (lA G)))), (rc, .inl (t 1, 40, .inr (.inl (lA K)))), (h, .inr (1, [.int (nI k), .ref hs, .int (nI n), .long (lN E)])), (hs, .inl (t 0, 40, .inl (pkA f)))]) hN 0 rfl) (wf_lg (w := w) (l := [(r, .inr (3, [.int (nI k), .ref rl, .ref rc, .ref rz, .long (lN b), .long (lN en)])), (rl, .inl (t 1, 164, .inr (.inl (lA G)))), (rc, .inl (t 1, 40, .inr (.inl (lA K)))), (h, .inr (1, [.int (nI k), .ref hs, .int (nI n), .long (lN E)])), (hs, .inl (t 0, 40, .inl (pkA f)))]) hN 1 rfl) (wf_lg (w := w) (l := [(r, .inr (3, [.int (nI k), .ref rl, .ref rc, .ref rz, .long (lN b), .long (lN en)])), (rl, .inl (t 1, 164, .inr (.inl (lA G)))), (rc, .inl (t 1, 40, .inr (.inl (lA K)))), (h, .inr (1, [.int (nI k), .ref hs, .int (nI n), .long (lN E)])), (hs, .inl (t 0, 40, .inl (pkA f)))]) hN 2 rfl) (wf_lg (w := w) (l := [(r, .inr (3, [.int (nI k), .ref rl, .ref rc, .ref rz, .long (lN b), .long (lN en)])), (rl, .inl (t 1, 164, .inr (.inl (lA G)))), (rc, .inl (t 1, 40, .inr (.inl (lA K)))), (h, .inr (1, [.int (nI k), .ref hs, .int (nI n), .long (lN E)])), (hs, .inl (t 0, 40, .inl (pkA f)))]) hN 3 rfl) (wf_lg (w := w) (l := [(r, .inr (3, [.int (nI k), .ref rl, .ref rc, .ref rz, .long (lN b), .long (lN en)])), (rl, .inl (t 1, 164, .inr (.inl (lA G)))), (rc, .inl (t 1, 40, .inr (.inl (lA K)))), (h, .inr (1, [.int (nI k), .ref hs, .int (nI n), .long (lN E)])), (hs, .inl (t 0, 40, .inl (pkA f)))]) hN 4 rfl) (by exact hm)) k_608 k_610 k_18 k_70 k_611 (wf_lg (w := w) (l := [(r, .inr (3, [.int (nI k), .ref rl, .ref rc, .ref rz, .long (lN b), .long (lN en)])), (rl, .inl (t 1, 164, .inr (.inl (lA G)))), (rc, .inl (t 1, 40, .inr (.inl (lA K)))), (h, .inr (1, [.int (nI k), .ref hs, .int (nI n), .long (lN E)])), (hs, .inl (t 0, 40, .inl (pkA f)))]) hN 0 rfl) cl_Set rfl hd_Set_followWithCompany ⟨Nat.le_of_ble_eq_true rfl, Nat.le_of_ble_eq_true rfl⟩ ⟨Nat.le_of_ble_eq_true rfl, Nat.le_of_ble_eq_true rfl⟩ hl.1 (Nat.le_of_ble_eq_true rfl) d_Set_skip_28 rfl (fun w1 H locs hp hB => ?_)
  obtain ⟨G0_28, hG0_28, hw_28⟩ := hp
  have hB : wf_B D wcl (wf_A w s.heap.size) s.heap (wf_l w [(r, .inr (3, [.int (nI k), .ref rl, .ref rc, .ref rz, .long (lN (K 0)), .long (lN E)])), (rl, .inl (t 1, 164, .inr (.inl (lA G0_28)))), (rc, .inl (t 1, 40, .inr (.inl (lA K)))), (h, .inr (1, [.int (nI k), .ref hs, .int (nI n), .long (lN E)])), (hs, .inl (t 0, 40, .inl (pkA f)))]) H locs := wf_Bto (hw_28.trans (wlw (L1 := [(r, .inr (3, [.int (nI k), .ref rl, .ref rc, .ref rz, .long (lN (K 0)), .long (lN E)])), (rl, .inl (t 1, 164, .inr (.inl (lA G)))), (rc, .inl (t 1, 40, .inr (.inl (lA K)))), (h, .inr (1, [.int (nI k), .ref hs, .int (nI n), .long (lN E)])), (hs, .inl (t 0, 40, .inl (pkA f)))]) hN 0 rfl rfl (wlw (L1 := [(r, .inr (3, [.int (nI k), .ref rl, .ref rc, .ref rz, .long (lN (K 0)), .long (lN E)])), (rl, .inl (t 1, 164, .inr (.inl (lA G0_28)))), (rc, .inl (t 1, 40, .inr (.inl (lA K)))), (h, .inr (1, [.int (nI k), .ref hs, .int (nI n), .long (lN E)])), (hs, .inl (t 0, 40, .inl (pkA f)))]) hN 1 rfl rfl (wlw (L1 := [(r, .inr (3, [.int (nI k), .ref rl, .ref rc, .ref rz, .long (lN (K 0)), .long (lN E)])), (rl, .inl (t 1, 164, .inr (.inl (lA G0_28)))), (rc, .inl (t 1, 40, .inr (.inl (lA K)))), (h, .inr (1, [.int (nI k), .ref hs, .int (nI n), .long (lN E)])), (hs, .inl (t 0, 40, .inl (pkA f)))]) hN 2 rfl rfl (wlw (L1 := [(r, .inr (3, [.int (nI k), .ref rl, .ref rc, .ref rz, .long (lN (K 0)), .long (lN E)])), (rl, .inl (t 1, 164, .inr (.inl (lA G0_28)))), (rc, .inl (t 1, 40, .inr (.inl (lA K)))), (h, .inr (1, [.int (nI k), .ref hs, .int (nI n), .long (lN E)])), (hs, .inl (t 0, 40, .inl (pkA f)))]) hN 3 rfl rfl (wlw (L1 := [(r, .inr (3, [.int (nI k), .ref rl, .ref rc, .ref rz, .long (lN (K 0)), .long (lN E)])), (rl, .inl (t 1, 164, .inr (.inl (lA G0_28)))), (rc, .inl (t 1, 40, .inr (.inl (lA K)))), (h, .inr (1, [.int (nI k), .ref hs, .int (nI n), .long (lN E)])), (hs, .inl (t 0, 40, .inl (pkA f)))]) hN 4 rfl rfl rfl)))))) hB
  refine lv_iconst (v := nI 0) hx hb d_Set_skip_31 (by decide) ?_
  refine lv_istore_n (lv' := [(3, .int (nI 0)), (0, .ref r), (1, .ref h), (2, .int (nI x))]) hx hb d_Set_skip_32 rfl hl (by decide) rfl (fun ls hl => ?_)
  refine c_Set_skip_L33 (l := l) X hN hS hL hC hM hF hm hxk (fun j K2 hj hg2 he2 H locs ls hl hB => ?_) (40 - 0 + 1) 0 G0_28 (by omega) (by intro u a hu ha; have h1 := stp_lt hm u a; rw [hG0_28 u a hu ha, hg _ (by omega), if_neg (show ¬ (a = x ∧ u < 0) by omega)]) (by omega) H locs ls (lv_sub hl [1, 2, 3, 0] rfl) hB
  refine ret_v X hB d_Set_skip_52 ?_
  rw [hg 0 (by omega)]; refine ⟨_, _, fun u a hu ha => ?_, rfl⟩; have h1 := stp_lt hm u a; have h3 := sby_lt hm (x := x) (show stp k n st u a < 40 by omega) n; rw [hg2 u a hu ha]; by_cases e7 : u < n; (simp only [if_pos e7]; by_cases e8 : a = x; (simp only [if_pos (show a = x ∧ u < j by omega), if_pos e8]; exact ⟨trivial, by decide⟩); simp only [if_neg (show ¬ (a = x ∧ u < j) by omega), if_neg e8]; exact ⟨trivial, by omega⟩); simp only [if_neg e7]; exact ⟨trivial, by decide⟩
