def aftA (k n : Nat) (st : Nat → Nat → Nat) (S : Nat) : Nat → Nat
  | 0 => 0
  | a + 1 => aftA k n st S a ||| aft (stp k n st) S a n
def befI (k n : Nat) (st : Nat → Nat → Nat) (S u L : Nat) : Nat → Nat
  | 0 => L
  | a + 1 => if S.testBit (stp k n st u a) = true then befI k n st S u L a ||| 2 ^ u else befI k n st S u L a
def bef (k n : Nat) (st : Nat → Nat → Nat) (S : Nat) : Nat → Nat
  | 0 => 0
  | u + 1 => befI k n st S u (bef k n st S u) k
def rch (k n : Nat) (st : Nat → Nat → Nat) : Nat → Nat
  | 0 => 1
  | i + 1 => aftA k n st (rch k n st i) k
def edn (k n E : Nat) (st : Nat → Nat → Nat) : Nat → Nat
  | 0 => E
  | i + 1 => bef k n st (edn k n E st i) n
def liv (k n E : Nat) (st : Nat → Nat → Nat) : Nat → Nat
  | 0 => E
  | i + 1 => liv k n E st i ||| bef k n st (liv k n E st i) n
def mst (k n E : Nat) (st : Nat → Nat → Nat) : Nat → Int32
  | 0 => -1
  | i + 1 => if rch k n st i &&& E = 0 then mst k n E st i else nI i
def wlk (g : Nat → Nat → Nat) (cl : Nat → Nat) : Nat → Nat
  | 0 => 0
  | i + 1 => g (wlk g cl i) (cl i)
theorem aftA_lt {k n E : Nat} {f : Nat → Int32} {st : Nat → Nat → Nat} (hm : mOK k n E f st) (S : Nat) : ∀ a, aftA k n st S a < 2 ^ 40
  | 0 => by simp [aftA]
  | a + 1 => Nat.or_lt_two_pow (aftA_lt hm S a) (aft_lt hm S a n)
theorem befI_lt {k n : Nat} {st : Nat → Nat → Nat} {S u L : Nat} (hu : u < 40) (hL : L < 2 ^ 40) : ∀ a, befI k n st S u L a < 2 ^ 40
  | 0 => hL
  | a + 1 => by
    have ih := befI_lt (k := k) (n := n) (st := st) (S := S) hu hL a
    rw [befI]
    split
    · exact Nat.or_lt_two_pow ih (Nat.pow_lt_pow_right (by decide) hu)
    · exact ih
theorem bef_lt {k n : Nat} {st : Nat → Nat → Nat} {S : Nat} : ∀ u, u ≤ 40 → bef k n st S u < 2 ^ 40
  | 0, _ => by simp [bef]
  | u + 1, h => befI_lt (by omega) (bef_lt u (by omega)) k
theorem rch_lt {k n E : Nat} {f : Nat → Int32} {st : Nat → Nat → Nat} (hm : mOK k n E f st) : ∀ i, rch k n st i < 2 ^ 40
  | 0 => by simp [rch]
  | i + 1 => aftA_lt hm _ k
theorem edn_lt {k n E : Nat} {f : Nat → Int32} {st : Nat → Nat → Nat} (hm : mOK k n E f st) : ∀ i, edn k n E st i < 2 ^ 40
  | 0 => hm.E40
  | i + 1 => bef_lt n hm.2.1
theorem liv_lt {k n E : Nat} {f : Nat → Int32} {st : Nat → Nat → Nat} (hm : mOK k n E f st) : ∀ i, liv k n E st i < 2 ^ 40
  | 0 => hm.E40
  | i + 1 => Nat.or_lt_two_pow (liv_lt hm i) (bef_lt n hm.2.1)
theorem wlk_lt {k n E : Nat} {f : Nat → Int32} {st : Nat → Nat → Nat} (hm : mOK k n E f st) (cl : Nat → Nat) : ∀ i, wlk (stp k n st) cl i < n
  | 0 => hm.2.2.1
  | i + 1 => stp_lt hm _ _
theorem i32_nat {q : Int32} (h : 0 ≤ q.toInt) : q = nI q.toInt.toNat := by
  apply Int32.toInt_inj.mp
  have h2 : q.toInt < 2 ^ 31 := Int32.toInt_lt q
  rw [nI_toInt (by omega)]
  omega
set_option maxHeartbeats 4000000 in
set_option maxRecDepth 100000 in
theorem c_Row_at {l : Launch} {D : va_G} {t : Nat → ClassId} {w : wf_W} {sz : Nat} {o oi z i : Nat} {rf : Nat → Int32} (hR : w o = some (.inr (0, [.ref oi, .int (nI z)]))) (hI : w oi = some (.inl (t 0, 100, .inl rf))) (hz : z ≤ 100) (hi : i < 2 ^ 31) : Mi l y_Row_at b_Row_at 2 (some .int) 0 0 0 0 D t w sz [.ref o, .int (nI i)] (fun r w' => r = (if i < z then rf i else (-1)) ∧ w' = w) := by
  refine start_i (by decide) (Nat.le_of_ble_eq_true rfl) ?_
  intro p e s m below meth c ls H locs X hB hl
  have hx := X.1
  have hb := X.2.1
  have hl : lv_has ls 2 [(0, .ref o), (1, .int (nI i))] := hl
  refine lv_iload_n hx hb d_Row_at_0 rfl (lv_at hl 1 rfl) ?_
  refine wf_zlt (tgt := 21) hx hb d_Row_at_1 (by decide) (nI_toInt (by omega)) (fun c_1 => ?_) (fun c_1 => ?_)
  · refine lv_iconst (v := (-1)) hx hb d_Row_at_21 (by decide) ?_
    refine ret_i X hB d_Row_at_22 ?_
    exact ⟨by rw [if_neg (by omega)], rfl⟩
  · refine lv_iload_n hx hb d_Row_at_4 rfl (lv_at hl 1 rfl) ?_
    refine lv_aload_n hx hb d_Row_at_5 rfl (lv_at hl 0 rfl) ?_
    refine rget X hB  i_Row hR cl_Row 1 (by decide) k_100 rfl rfl d_Row_at_6 ?_
    refine wf_cge (tgt := 21) hx hb d_Row_at_9 (by decide) (nI_toInt (by omega)) (nI_toInt (by omega)) (fun c_9 => ?_) (fun c_9 => ?_)
    · refine lv_iconst (v := (-1)) hx hb d_Row_at_21 (by decide) ?_
      refine ret_i X hB d_Row_at_22 ?_
      exact ⟨by rw [if_neg (by omega)], rfl⟩
    · refine lv_aload_n hx hb d_Row_at_12 rfl (lv_at hl 0 rfl) ?_
      refine rget X hB  i_Row hR cl_Row 0 (by decide) k_99 rfl rfl d_Row_at_13 ?_
      refine lv_iload_n hx hb d_Row_at_16 rfl (lv_at hl 1 rfl) ?_
      refine riald X hB  hI (i := i) (by omega) (by decide) d_Row_at_17 ?_
      refine lv_goto (tgt := 22) hx hb d_Row_at_18 (by decide) ?_
      refine ret_i X hB d_Row_at_22 ?_
      exact ⟨by rw [if_pos (by omega)], rfl⟩
set_option maxHeartbeats 4000000 in
set_option maxRecDepth 100000 in
theorem c_Row_atq {l : Launch} {D : va_G} {t : Nat → ClassId} {w : wf_W} {sz : Nat} {o oi z : Nat} {q : Int32} {rf : Nat → Int32} (hR : w o = some (.inr (0, [.ref oi, .int (nI z)]))) (hI : w oi = some (.inl (t 0, 100, .inl rf))) (hz : z ≤ 100) : Mi l y_Row_at b_Row_at 2 (some .int) 0 0 0 0 D t w sz [.ref o, .int q] (fun r w' => r = (if 0 ≤ q.toInt ∧ q.toInt < z then rf q.toInt.toNat else (-1)) ∧ w' = w) := by
  refine start_i (by decide) (Nat.le_of_ble_eq_true rfl) ?_
  intro p e s m below meth c ls H locs X hB hl
  have hx := X.1
  have hb := X.2.1
  have hl : lv_has ls 2 [(0, .ref o), (1, .int q)] := hl
  refine lv_iload_n hx hb d_Row_at_0 rfl (lv_at hl 1 rfl) ?_
  refine wf_zlt (tgt := 21) hx hb d_Row_at_1 (by decide) rfl (fun c_1 => ?_) (fun c_1 => ?_)
  · refine lv_iconst (v := (-1)) hx hb d_Row_at_21 (by decide) ?_
    refine ret_i X hB d_Row_at_22 ?_
    exact ⟨by rw [if_neg (by omega)], rfl⟩
  · refine lv_iload_n hx hb d_Row_at_4 rfl (lv_at hl 1 rfl) ?_
    refine lv_aload_n hx hb d_Row_at_5 rfl (lv_at hl 0 rfl) ?_
    refine rget X hB  i_Row hR cl_Row 1 (by decide) k_100 rfl rfl d_Row_at_6 ?_
    refine wf_cge (tgt := 21) hx hb d_Row_at_9 (by decide) rfl (nI_toInt (by omega)) (fun c_9 => ?_) (fun c_9 => ?_)
    · refine lv_iconst (v := (-1)) hx hb d_Row_at_21 (by decide) ?_
      refine ret_i X hB d_Row_at_22 ?_
      exact ⟨by rw [if_neg (by omega)], rfl⟩
    · refine lv_aload_n hx hb d_Row_at_12 rfl (lv_at hl 0 rfl) ?_
      refine rget X hB  i_Row hR cl_Row 0 (by decide) k_99 rfl rfl d_Row_at_13 ?_
      refine lv_iload_n hx hb d_Row_at_16 rfl (lv_at hl 1 rfl) ?_
      refine wf_ti (y := nI q.toInt.toNat) (by exact i32_nat c_1) ?_
      refine riald X hB  hI (i := q.toInt.toNat) (by omega) (by decide) d_Row_at_17 ?_
      refine lv_goto (tgt := 22) hx hb d_Row_at_18 (by decide) ?_
      refine ret_i X hB d_Row_at_22 ?_
      exact ⟨by rw [if_pos (by omega)], rfl⟩
set_option maxHeartbeats 4000000 in
set_option maxRecDepth 100000 in
theorem c_Mac_afterAny_L5 {l : Launch} {D : va_G} {t : Nat → ClassId} {w : wf_W} {h hs k n E : Nat} {f : Nat → Int32} {st : Nat → Nat → Nat} {S : Nat}  {p : Program} {e : Env} {s : State} {m : MethodId} {below : List Frame} {meth : Method} {c : Code} {Q : State → Prop} (X : Cx p s m meth c R_Mac "afterAny" b_Mac_afterAny 6 (some .long) D t) (hM : w h = some (.inr (1, [.int (nI k), .ref hs, .int (nI n), .long (lN E)]))) (hF : w hs = some (.inl (t 0, 40, .inl (pkA f)))) (hm : mOK k n E f st) (hS : S < 2 ^ 64)
    (K_30 : ∀ (i : Nat), (i ≤ k) → (i = k) → ∀ (H : Heap) (locs : List Loc) (ls : Array Slot), lv_has ls 6 [(0, .ref h), (1, .long (lN S)), (3, .long (lN (aftA k n st S i))), (5, .int (nI i))] → wf_B D wcl (wf_A w s.heap.size) s.heap w H locs → W p l e (rmk 3 70 0 0) s m [.ref h, .long (lN S)].toArray below meth c H locs 0 0 Q (F0 m 30 ls [])) :
    ∀ (fu : Nat) (i : Nat), (i ≤ k) → k - i < fu → ∀ (H : Heap) (locs : List Loc) (ls : Array Slot), lv_has ls 6 [(0, .ref h), (1, .long (lN S)), (3, .long (lN (aftA k n st S i))), (5, .int (nI i))] → wf_B D wcl (wf_A w s.heap.size) s.heap w H locs → W p l e (rmk 3 70 0 0) s m [.ref h, .long (lN S)].toArray below meth c H locs 0 0 Q (F0 m 5 ls []) := by
  have hx := X.1
  have hb := X.2.1
  intro fu
  induction fu with
  | zero => intro i hi hfu; exact absurd hfu (Nat.not_lt_zero _)
  | succ fu ih =>
    intro i hi hfu H locs ls hl hB
    have hk := hm.1
    have hn := hm.2.1
    have hn0 := hm.2.2.1
    have hE := hm.E40
    refine lv_iload hx hb d_Mac_afterAny_5 (lv_at hl 3 rfl) ?_
    refine lv_aload_n hx hb d_Mac_afterAny_7 rfl (lv_at hl 0 rfl) ?_
    refine rget X hB  i_Mac hM cl_Mac 0 (by decide) k_118 rfl rfl d_Mac_afterAny_8 ?_
    refine wf_cge (tgt := 30) hx hb d_Mac_afterAny_11 (by decide) (nI_toInt (by omega)) (nI_toInt (by omega)) (fun c_11 => ?_) (fun c_11 => ?_)
    · exact K_30 i hi (by omega) H locs ls (lv_sub hl [0, 1, 2, 3] rfl) hB
    · refine lv_lload_n hx hb d_Mac_afterAny_14 rfl (lv_at hl 2 rfl) ?_
      refine lv_aload_n hx hb d_Mac_afterAny_15 rfl (lv_at hl 0 rfl) ?_
      refine lv_lload_n hx hb d_Mac_afterAny_16 rfl (lv_at hl 1 rfl) ?_
      refine lv_iload hx hb d_Mac_afterAny_17 (lv_at hl 3 rfl) ?_
      refine callVl (As := [.long (lN S), .int (nI i)]) (rest := [.long (lN (aftA k n st S i))]) X hB wf_hA (c_Mac_after (l := l) (D := D) (t := t) (w := w) (sz := H.size) (h := h) (hs := hs) (k := k) (n := n) (E := E) (f := f) (st := st) (S := S) (a := i) hM hF (by exact hm) (by exact hS) (by omega)) k_669 k_442 k_443 k_67 k_444 hM cl_Mac rfl hd_Mac_after ⟨Nat.le_of_ble_eq_true rfl, Nat.le_of_ble_eq_true rfl⟩ ⟨Nat.le_of_ble_eq_true rfl, Nat.le_of_ble_eq_true rfl⟩ hl.1 (Nat.le_of_ble_eq_true rfl) d_Mac_afterAny_19 rfl (fun r_19 w1 H locs hp hB => ?_)
      obtain ⟨rfl, hw_19⟩ := hp
      have hB : wf_B D wcl (wf_A w s.heap.size) s.heap w H locs := wf_Bto hw_19 hB
      refine lv_lor hx hb d_Mac_afterAny_22 ?_
      refine wf_tl (y := lN ((aftA k n st S i) ||| (aft (stp k n st) S i n))) (wb_or (by have := aftA_lt hm S i; omega) (by have := aft_lt hm S i n; omega)) ?_
      refine wf_tl (y := lN (aftA k n st S (i + 1))) (by rw [aftA]) ?_
      refine lv_lstore_n (lv' := [(3, .long (lN (aftA k n st S (i + 1)))), (0, .ref h), (1, .long (lN S)), (5, .int (nI i))]) hx hb d_Mac_afterAny_23 rfl hl (by decide) rfl (fun ls hl => ?_)
      refine lv_iinc (v := nI (i + 1)) (lv' := [(5, .int (nI (i + 1))), (3, .long (lN (aftA k n st S (i + 1)))), (0, .ref h), (1, .long (lN S))]) hx hb d_Mac_afterAny_24 hl (k := 3) rfl (show nI i + nI 1 = nI (i + 1) from nI_add _ _) (by decide) rfl (fun ls hl => ?_)
      refine lv_goto (tgt := 5) hx hb d_Mac_afterAny_27 (by decide) ?_
      exact ih (i + 1) (by omega) (by omega) H locs ls (lv_sub hl [2, 3, 1, 0] rfl) hB
set_option maxHeartbeats 4000000 in
set_option maxRecDepth 100000 in
theorem c_Mac_afterAny {l : Launch} {D : va_G} {t : Nat → ClassId} {w : wf_W} {sz : Nat} {h hs k n E : Nat} {f : Nat → Int32} {st : Nat → Nat → Nat} {S : Nat} (hM : w h = some (.inr (1, [.int (nI k), .ref hs, .int (nI n), .long (lN E)]))) (hF : w hs = some (.inl (t 0, 40, .inl (pkA f)))) (hm : mOK k n E f st) (hS : S < 2 ^ 64) : Ml l y_Mac_afterAny b_Mac_afterAny 6 (some .long) 3 70 0 0 D t w sz [.ref h, .long (lN S)] (fun r w' => r = (lN (aftA k n st S k)) ∧ w' = w) := by
  refine start_l (by decide) (Nat.le_of_ble_eq_true rfl) ?_
  intro p e s m below meth c ls H locs X hB hl
  have hx := X.1
  have hb := X.2.1
  have hl : lv_has ls 6 [(0, .ref h), (1, .long (lN S))] := hl
  have hk := hm.1
  have hn := hm.2.1
  have hn0 := hm.2.2.1
  have hE := hm.E40
  refine lv_lconst (v := lN 0) hx hb d_Mac_afterAny_0 (by decide) ?_
  refine lv_lstore_n (lv' := [(3, .long (lN 0)), (0, .ref h), (1, .long (lN S))]) hx hb d_Mac_afterAny_1 rfl hl (by decide) rfl (fun ls hl => ?_)
  refine lv_iconst (v := nI 0) hx hb d_Mac_afterAny_2 (by decide) ?_
  refine lv_istore (lv' := [(5, .int (nI 0)), (3, .long (lN 0)), (0, .ref h), (1, .long (lN S))]) hx hb d_Mac_afterAny_3 hl (by decide) rfl (fun ls hl => ?_)
  refine c_Mac_afterAny_L5 (l := l) X hM hF hm hS (fun i hi he H locs ls hl hB => ?_) (k - 0 + 1) 0 (by omega) (by omega) H locs ls (lv_sub hl [2, 3, 1, 0] rfl) hB
  refine lv_lload_n hx hb d_Mac_afterAny_30 rfl (lv_at hl 2 rfl) ?_
  refine ret_l X hB d_Mac_afterAny_31 ?_
  subst he; exact ⟨rfl, rfl⟩
set_option maxHeartbeats 4000000 in
set_option maxRecDepth 100000 in
theorem c_Mac_beforeAny_L17 {l : Launch} {D : va_G} {t : Nat → ClassId} {w : wf_W} {h hs k n E : Nat} {f : Nat → Int32} {st : Nat → Nat → Nat} {S : Nat} {i : Nat} {p : Program} {e : Env} {s : State} {m : MethodId} {below : List Frame} {meth : Method} {c : Code} {Q : State → Prop} (X : Cx p s m meth c R_Mac "beforeAny" b_Mac_beforeAny 7 (some .long) D t) (hM : w h = some (.inr (1, [.int (nI k), .ref hs, .int (nI n), .long (lN E)]))) (hF : w hs = some (.inl (t 0, 40, .inl (pkA f)))) (hm : mOK k n E f st) (hS : S < 2 ^ 64) (hi : i < n)
    (K_54 : ∀ (j : Nat), (j ≤ k) → (j = k) → ∀ (H : Heap) (locs : List Loc) (ls : Array Slot), lv_has ls 7 [(0, .ref h), (1, .long (lN S)), (3, .long (lN (befI k n st S i (bef k n st S i) j))), (5, .int (nI i)), (6, .int (nI j))] → wf_B D wcl (wf_A w s.heap.size) s.heap w H locs → W p l e (rmk 2 44 0 0) s m [.ref h, .long (lN S)].toArray below meth c H locs 0 0 Q (F0 m 54 ls [])) :
    ∀ (fu : Nat) (j : Nat), (j ≤ k) → k - j < fu → ∀ (H : Heap) (locs : List Loc) (ls : Array Slot), lv_has ls 7 [(0, .ref h), (1, .long (lN S)), (3, .long (lN (befI k n st S i (bef k n st S i) j))), (5, .int (nI i)), (6, .int (nI j))] → wf_B D wcl (wf_A w s.heap.size) s.heap w H locs → W p l e (rmk 2 44 0 0) s m [.ref h, .long (lN S)].toArray below meth c H locs 0 0 Q (F0 m 17 ls []) := by
  have hx := X.1
  have hb := X.2.1
  intro fu
  induction fu with
  | zero => intro j hj hfu; exact absurd hfu (Nat.not_lt_zero _)
  | succ fu ih =>
    intro j hj hfu H locs ls hl hB
    have hk := hm.1
    have hn := hm.2.1
    have hn0 := hm.2.2.1
    have hE := hm.E40
    refine lv_iload hx hb d_Mac_beforeAny_17 (lv_at hl 4 rfl) ?_
    refine lv_aload_n hx hb d_Mac_beforeAny_19 rfl (lv_at hl 0 rfl) ?_
    refine rget X hB  i_Mac hM cl_Mac 0 (by decide) k_118 rfl rfl d_Mac_beforeAny_20 ?_
    refine wf_cge (tgt := 54) hx hb d_Mac_beforeAny_23 (by decide) (nI_toInt (by omega)) (nI_toInt (by omega)) (fun c_23 => ?_) (fun c_23 => ?_)
    · exact K_54 j hj (by omega) H locs ls (lv_sub hl [0, 1, 2, 3, 4] rfl) hB
    · refine lv_lload_n hx hb d_Mac_beforeAny_26 rfl (lv_at hl 1 rfl) ?_
      refine lv_aload_n hx hb d_Mac_beforeAny_27 rfl (lv_at hl 0 rfl) ?_
      refine lv_iload hx hb d_Mac_beforeAny_28 (lv_at hl 3 rfl) ?_
      refine lv_iload hx hb d_Mac_beforeAny_30 (lv_at hl 4 rfl) ?_
      refine callVi (As := [.int (nI i), .int (nI j)]) (rest := [.long (lN S)]) X hB wf_hA (c_Mac_step (l := l) (D := D) (t := t) (w := w) (sz := H.size) (h := h) (hs := hs) (k := k) (n := n) (E := E) (f := f) (st := st) (u := i) (a := j) hM hF (by exact hm) (by omega) (by omega)) k_445 k_434 k_435 k_67 k_436 hM cl_Mac rfl hd_Mac_step ⟨Nat.le_of_ble_eq_true rfl, Nat.le_of_ble_eq_true rfl⟩ ⟨Nat.le_of_ble_eq_true rfl, Nat.le_of_ble_eq_true rfl⟩ hl.1 (Nat.le_of_ble_eq_true rfl) d_Mac_beforeAny_32 rfl (fun r_32 w1 H locs hp hB => ?_)
      obtain ⟨rfl, hw_32⟩ := hp
      have hB : wf_B D wcl (wf_A w s.heap.size) s.heap w H locs := wf_Bto hw_32 hB
      refine callTi (As := [.long (lN S), .int (nI (stp k n st i j))]) (rest := []) X hB wf_hA (c_TM_isIn (l := l) (D := D) (t := t) (w := w) (sz := H.size) (S := S) (i := stp k n st i j) (by exact hS) (by have := stp_lt hm i j; omega)) k_377 k_378 k_64 k_379 hd_TM_isIn ⟨Nat.le_of_ble_eq_true rfl, Nat.le_of_ble_eq_true rfl⟩ ⟨Nat.le_of_ble_eq_true rfl, Nat.le_of_ble_eq_true rfl⟩ hl.1 (Nat.le_of_ble_eq_true rfl) d_Mac_beforeAny_35 rfl (fun r_35 w1 H locs hp hB => ?_)
      obtain ⟨rfl, hw_35⟩ := hp
      have hB : wf_B D wcl (wf_A w s.heap.size) s.heap w H locs := wf_Bto hw_35 hB
      refine wf_beq (tgt := 48) hx hb d_Mac_beforeAny_38 (by decide) (fun c_38 => ?_) (fun c_38 => ?_)
      · have hl : lv_has ls 7 [(0, .ref h), (1, .long (lN S)), (3, .long (lN (befI k n st S i (bef k n st S i) (j + 1)))), (5, .int (nI i)), (6, .int (nI j))] := by rw [befI, if_neg (by simp [c_38])]; exact hl
        refine lv_iinc (v := nI (j + 1)) (lv' := [(6, .int (nI (j + 1))), (0, .ref h), (1, .long (lN S)), (3, .long (lN (befI k n st S i (bef k n st S i) (j + 1)))), (5, .int (nI i))]) hx hb d_Mac_beforeAny_48 hl (k := 4) rfl (show nI j + nI 1 = nI (j + 1) from nI_add _ _) (by decide) rfl (fun ls hl => ?_)
        refine lv_goto (tgt := 17) hx hb d_Mac_beforeAny_51 (by decide) ?_
        exact ih (j + 1) (by omega) (by omega) H locs ls (lv_sub hl [1, 2, 3, 4, 0] rfl) hB
      · refine lv_lload_n hx hb d_Mac_beforeAny_41 rfl (lv_at hl 2 rfl) ?_
        refine lv_lconst (v := lN 1) hx hb d_Mac_beforeAny_42 (by decide) ?_
        refine lv_iload hx hb d_Mac_beforeAny_43 (lv_at hl 3 rfl) ?_
        refine lv_lshl (v := lN (1 * 2 ^ i)) hx hb d_Mac_beforeAny_45 (wb_shl _ (by omega)) ?_
        refine wf_tl (y := lN (2 ^ i)) (by rw [Nat.one_mul]) ?_
        refine lv_lor hx hb d_Mac_beforeAny_46 ?_
        refine wf_tl (y := lN ((befI k n st S i (bef k n st S i) j) ||| (2 ^ i))) (wb_or (by have := befI_lt (k := k) (n := n) (st := st) (S := S) (show i < 40 by omega) (bef_lt (k := k) (n := n) (st := st) (S := S) i (by omega)) j; omega) (by exact Nat.pow_lt_pow_right (by decide) (by omega))) ?_
        refine wf_tl (y := lN (befI k n st S i (bef k n st S i) (j + 1))) (by rw [befI, if_pos c_38]) ?_
        refine lv_lstore_n (lv' := [(3, .long (lN (befI k n st S i (bef k n st S i) (j + 1)))), (0, .ref h), (1, .long (lN S)), (5, .int (nI i)), (6, .int (nI j))]) hx hb d_Mac_beforeAny_47 rfl hl (by decide) rfl (fun ls hl => ?_)
        refine lv_iinc (v := nI (j + 1)) (lv' := [(6, .int (nI (j + 1))), (3, .long (lN (befI k n st S i (bef k n st S i) (j + 1)))), (0, .ref h), (1, .long (lN S)), (5, .int (nI i))]) hx hb d_Mac_beforeAny_48 hl (k := 4) rfl (show nI j + nI 1 = nI (j + 1) from nI_add _ _) (by decide) rfl (fun ls hl => ?_)
        refine lv_goto (tgt := 17) hx hb d_Mac_beforeAny_51 (by decide) ?_
        exact ih (j + 1) (by omega) (by omega) H locs ls (lv_sub hl [2, 3, 1, 4, 0] rfl) hB
set_option maxHeartbeats 4000000 in
set_option maxRecDepth 100000 in
theorem c_Mac_beforeAny_L5 {l : Launch} {D : va_G} {t : Nat → ClassId} {w : wf_W} {h hs k n E : Nat} {f : Nat → Int32} {st : Nat → Nat → Nat} {S : Nat}  {p : Program} {e : Env} {s : State} {m : MethodId} {below : List Frame} {meth : Method} {c : Code} {Q : State → Prop} (X : Cx p s m meth c R_Mac "beforeAny" b_Mac_beforeAny 7 (some .long) D t) (hM : w h = some (.inr (1, [.int (nI k), .ref hs, .int (nI n), .long (lN E)]))) (hF : w hs = some (.inl (t 0, 40, .inl (pkA f)))) (hm : mOK k n E f st) (hS : S < 2 ^ 64)
    (K_60 : ∀ (i : Nat), (i ≤ n) → (i = n) → ∀ (H : Heap) (locs : List Loc) (ls : Array Slot), lv_has ls 7 [(0, .ref h), (1, .long (lN S)), (3, .long (lN (bef k n st S i))), (5, .int (nI i))] → wf_B D wcl (wf_A w s.heap.size) s.heap w H locs → W p l e (rmk 2 44 0 0) s m [.ref h, .long (lN S)].toArray below meth c H locs 0 0 Q (F0 m 60 ls [])) :
    ∀ (fu : Nat) (i : Nat), (i ≤ n) → n - i < fu → ∀ (H : Heap) (locs : List Loc) (ls : Array Slot), lv_has ls 7 [(0, .ref h), (1, .long (lN S)), (3, .long (lN (bef k n st S i))), (5, .int (nI i))] → wf_B D wcl (wf_A w s.heap.size) s.heap w H locs → W p l e (rmk 2 44 0 0) s m [.ref h, .long (lN S)].toArray below meth c H locs 0 0 Q (F0 m 5 ls []) := by
  have hx := X.1
  have hb := X.2.1
  intro fu
  induction fu with
  | zero => intro i hi hfu; exact absurd hfu (Nat.not_lt_zero _)
  | succ fu ih =>
    intro i hi hfu H locs ls hl hB
    have hk := hm.1
    have hn := hm.2.1
    have hn0 := hm.2.2.1
    have hE := hm.E40
    refine lv_iload hx hb d_Mac_beforeAny_5 (lv_at hl 3 rfl) ?_
    refine lv_aload_n hx hb d_Mac_beforeAny_7 rfl (lv_at hl 0 rfl) ?_
    refine rget X hB  i_Mac hM cl_Mac 2 (by decide) k_120 rfl rfl d_Mac_beforeAny_8 ?_
    refine wf_cge (tgt := 60) hx hb d_Mac_beforeAny_11 (by decide) (nI_toInt (by omega)) (nI_toInt (by omega)) (fun c_11 => ?_) (fun c_11 => ?_)
    · exact K_60 i hi (by omega) H locs ls (lv_sub hl [0, 1, 2, 3] rfl) hB
    · have hi : i < n := by omega
      refine lv_iconst (v := nI 0) hx hb d_Mac_beforeAny_14 (by decide) ?_
      refine lv_istore (lv' := [(6, .int (nI 0)), (0, .ref h), (1, .long (lN S)), (3, .long (lN (bef k n st S i))), (5, .int (nI i))]) hx hb d_Mac_beforeAny_15 hl (by decide) rfl (fun ls hl => ?_)
      refine c_Mac_beforeAny_L17 (l := l) X hM hF hm hS hi (fun j hj he H locs ls hl hB => ?_) (k - 0 + 1) 0 (by omega) (by omega) H locs ls (lv_sub hl [1, 2, 3, 4, 0] rfl) hB
      have hl : lv_has ls 7 [(0, .ref h), (1, .long (lN S)), (3, .long (lN (bef k n st S (i + 1)))), (5, .int (nI i)), (6, .int (nI j))] := by rw [he] at hl ⊢; exact hl
      refine lv_iinc (v := nI (i + 1)) (lv' := [(5, .int (nI (i + 1))), (0, .ref h), (1, .long (lN S)), (3, .long (lN (bef k n st S (i + 1)))), (6, .int (nI j))]) hx hb d_Mac_beforeAny_54 hl (k := 3) rfl (show nI i + nI 1 = nI (i + 1) from nI_add _ _) (by decide) rfl (fun ls hl => ?_)
      refine lv_goto (tgt := 5) hx hb d_Mac_beforeAny_57 (by decide) ?_
      exact ih (i + 1) (by omega) (by omega) H locs ls (lv_sub hl [1, 2, 3, 0] rfl) hB
set_option maxHeartbeats 4000000 in
set_option maxRecDepth 100000 in
theorem c_Mac_beforeAny {l : Launch} {D : va_G} {t : Nat → ClassId} {w : wf_W} {sz : Nat} {h hs k n E : Nat} {f : Nat → Int32} {st : Nat → Nat → Nat} {S : Nat} (hM : w h = some (.inr (1, [.int (nI k), .ref hs, .int (nI n), .long (lN E)]))) (hF : w hs = some (.inl (t 0, 40, .inl (pkA f)))) (hm : mOK k n E f st) (hS : S < 2 ^ 64) : Ml l y_Mac_beforeAny b_Mac_beforeAny 7 (some .long) 2 44 0 0 D t w sz [.ref h, .long (lN S)] (fun r w' => r = (lN (bef k n st S n)) ∧ w' = w) := by
  refine start_l (by decide) (Nat.le_of_ble_eq_true rfl) ?_
  intro p e s m below meth c ls H locs X hB hl
  have hx := X.1
  have hb := X.2.1
  have hl : lv_has ls 7 [(0, .ref h), (1, .long (lN S))] := hl
  have hk := hm.1
  have hn := hm.2.1
  have hn0 := hm.2.2.1
  have hE := hm.E40
  refine lv_lconst (v := lN 0) hx hb d_Mac_beforeAny_0 (by decide) ?_
  refine lv_lstore_n (lv' := [(3, .long (lN 0)), (0, .ref h), (1, .long (lN S))]) hx hb d_Mac_beforeAny_1 rfl hl (by decide) rfl (fun ls hl => ?_)
  refine lv_iconst (v := nI 0) hx hb d_Mac_beforeAny_2 (by decide) ?_
  refine lv_istore (lv' := [(5, .int (nI 0)), (3, .long (lN 0)), (0, .ref h), (1, .long (lN S))]) hx hb d_Mac_beforeAny_3 hl (by decide) rfl (fun ls hl => ?_)
  refine c_Mac_beforeAny_L5 (l := l) X hM hF hm hS (fun i hi he H locs ls hl hB => ?_) (n - 0 + 1) 0 (by omega) (by omega) H locs ls (lv_sub hl [2, 3, 1, 0] rfl) hB
  refine lv_lload_n hx hb d_Mac_beforeAny_60 rfl (lv_at hl 2 rfl) ?_
  refine ret_l X hB d_Mac_beforeAny_61 ?_
  subst he; exact ⟨rfl, rfl⟩
set_option maxHeartbeats 4000000 in
set_option maxRecDepth 100000 in
theorem c_Mac_reachedBy_L5 {l : Launch} {D : va_G} {t : Nat → ClassId} {w : wf_W} {h hs k n E : Nat} {f : Nat → Int32} {st : Nat → Nat → Nat} {q : Nat}  {p : Program} {e : Env} {s : State} {m : MethodId} {below : List Frame} {meth : Method} {c : Code} {Q : State → Prop} (X : Cx p s m meth c R_Mac "reachedBy" b_Mac_reachedBy 5 (some .long) D t) (hM : w h = some (.inr (1, [.int (nI k), .ref hs, .int (nI n), .long (lN E)]))) (hF : w hs = some (.inl (t 0, 40, .inl (pkA f)))) (hm : mOK k n E f st) (hq : q ≤ 100)
    (K_23 : ∀ (i : Nat), (i ≤ q) → (i = q) → ∀ (H : Heap) (locs : List Loc) (ls : Array Slot), lv_has ls 5 [(0, .ref h), (1, .int (nI q)), (2, .long (lN (rch k n st i))), (4, .int (nI i))] → wf_B D wcl (wf_A w s.heap.size) s.heap w H locs → W p l e (rmk 4 95 0 0) s m [.ref h, .int (nI q)].toArray below meth c H locs 0 0 Q (F0 m 23 ls [])) :
    ∀ (fu : Nat) (i : Nat), (i ≤ q) → q - i < fu → ∀ (H : Heap) (locs : List Loc) (ls : Array Slot), lv_has ls 5 [(0, .ref h), (1, .int (nI q)), (2, .long (lN (rch k n st i))), (4, .int (nI i))] → wf_B D wcl (wf_A w s.heap.size) s.heap w H locs → W p l e (rmk 4 95 0 0) s m [.ref h, .int (nI q)].toArray below meth c H locs 0 0 Q (F0 m 5 ls []) := by
  have hx := X.1
  have hb := X.2.1
  intro fu
  induction fu with
  | zero => intro i hi hfu; exact absurd hfu (Nat.not_lt_zero _)
  | succ fu ih =>
    intro i hi hfu H locs ls hl hB
    have hk := hm.1
    have hn := hm.2.1
    have hn0 := hm.2.2.1
    have hE := hm.E40
    refine lv_iload hx hb d_Mac_reachedBy_5 (lv_at hl 3 rfl) ?_
    refine lv_iload_n hx hb d_Mac_reachedBy_7 rfl (lv_at hl 1 rfl) ?_
    refine wf_cge (tgt := 23) hx hb d_Mac_reachedBy_8 (by decide) (nI_toInt (by omega)) (nI_toInt (by omega)) (fun c_8 => ?_) (fun c_8 => ?_)
    · exact K_23 i hi (by omega) H locs ls (lv_sub hl [0, 1, 2, 3] rfl) hB
    · refine lv_aload_n hx hb d_Mac_reachedBy_11 rfl (lv_at hl 0 rfl) ?_
      refine lv_lload_n hx hb d_Mac_reachedBy_12 rfl (lv_at hl 2 rfl) ?_
      refine callVl (As := [.long (lN (rch k n st i))]) (rest := []) X hB wf_hA (c_Mac_afterAny (l := l) (D := D) (t := t) (w := w) (sz := H.size) (h := h) (hs := hs) (k := k) (n := n) (E := E) (f := f) (st := st) (S := rch k n st i) hM hF (by exact hm) (by have := rch_lt hm i; omega)) k_665 k_667 k_22 k_67 k_668 hM cl_Mac rfl hd_Mac_afterAny ⟨Nat.le_of_ble_eq_true rfl, Nat.le_of_ble_eq_true rfl⟩ ⟨Nat.le_of_ble_eq_true rfl, Nat.le_of_ble_eq_true rfl⟩ hl.1 (Nat.le_of_ble_eq_true rfl) d_Mac_reachedBy_13 rfl (fun r_13 w1 H locs hp hB => ?_)
      obtain ⟨rfl, hw_13⟩ := hp
      have hB : wf_B D wcl (wf_A w s.heap.size) s.heap w H locs := wf_Bto hw_13 hB
      refine lv_lstore_n (lv' := [(2, .long (lN (aftA k n st (rch k n st i) k))), (0, .ref h), (1, .int (nI q)), (4, .int (nI i))]) hx hb d_Mac_reachedBy_16 rfl hl (by decide) rfl (fun ls hl => ?_)
      refine lv_iinc (v := nI (i + 1)) (lv' := [(4, .int (nI (i + 1))), (2, .long (lN (aftA k n st (rch k n st i) k))), (0, .ref h), (1, .int (nI q))]) hx hb d_Mac_reachedBy_17 hl (k := 3) rfl (show nI i + nI 1 = nI (i + 1) from nI_add _ _) (by decide) rfl (fun ls hl => ?_)
      refine lv_goto (tgt := 5) hx hb d_Mac_reachedBy_20 (by decide) ?_
      exact ih (i + 1) (by omega) (by omega) H locs ls (lv_sub hl [2, 3, 1, 0] rfl) hB
set_option maxHeartbeats 4000000 in
set_option maxRecDepth 100000 in
theorem c_Mac_reachedBy {l : Launch} {D : va_G} {t : Nat → ClassId} {w : wf_W} {sz : Nat} {h hs k n E : Nat} {f : Nat → Int32} {st : Nat → Nat → Nat} {q : Nat} (hM : w h = some (.inr (1, [.int (nI k), .ref hs, .int (nI n), .long (lN E)]))) (hF : w hs = some (.inl (t 0, 40, .inl (pkA f)))) (hm : mOK k n E f st) (hq : q ≤ 100) : Ml l y_Mac_reachedBy b_Mac_reachedBy 5 (some .long) 4 95 0 0 D t w sz [.ref h, .int (nI q)] (fun r w' => r = (lN (rch k n st q)) ∧ w' = w) := by
  refine start_l (by decide) (Nat.le_of_ble_eq_true rfl) ?_
  intro p e s m below meth c ls H locs X hB hl
  have hx := X.1
  have hb := X.2.1
  have hl : lv_has ls 5 [(0, .ref h), (1, .int (nI q))] := hl
  have hk := hm.1
  have hn := hm.2.1
  have hn0 := hm.2.2.1
  have hE := hm.E40
  refine lv_lconst (v := lN 1) hx hb d_Mac_reachedBy_0 (by decide) ?_
  refine lv_lstore_n (lv' := [(2, .long (lN 1)), (0, .ref h), (1, .int (nI q))]) hx hb d_Mac_reachedBy_1 rfl hl (by decide) rfl (fun ls hl => ?_)
  refine lv_iconst (v := nI 0) hx hb d_Mac_reachedBy_2 (by decide) ?_
  refine lv_istore (lv' := [(4, .int (nI 0)), (2, .long (lN 1)), (0, .ref h), (1, .int (nI q))]) hx hb d_Mac_reachedBy_3 hl (by decide) rfl (fun ls hl => ?_)
  refine c_Mac_reachedBy_L5 (l := l) X hM hF hm hq (fun i hi he H locs ls hl hB => ?_) (q - 0 + 1) 0 (by omega) (by omega) H locs ls (lv_sub hl [2, 3, 1, 0] rfl) hB
  refine lv_lload_n hx hb d_Mac_reachedBy_23 rfl (lv_at hl 2 rfl) ?_
  refine ret_l X hB d_Mac_reachedBy_24 ?_
  subst he; exact ⟨rfl, rfl⟩
set_option maxHeartbeats 4000000 in
set_option maxRecDepth 100000 in
theorem c_Mac_endingIn_L8 {l : Launch} {D : va_G} {t : Nat → ClassId} {w : wf_W} {h hs k n E : Nat} {f : Nat → Int32} {st : Nat → Nat → Nat} {q : Nat}  {p : Program} {e : Env} {s : State} {m : MethodId} {below : List Frame} {meth : Method} {c : Code} {Q : State → Prop} (X : Cx p s m meth c R_Mac "endingIn" b_Mac_endingIn 5 (some .long) D t) (hM : w h = some (.inr (1, [.int (nI k), .ref hs, .int (nI n), .long (lN E)]))) (hF : w hs = some (.inl (t 0, 40, .inl (pkA f)))) (hm : mOK k n E f st) (hq : q ≤ 100)
    (K_26 : ∀ (i : Nat), (i ≤ q) → (i = q) → ∀ (H : Heap) (locs : List Loc) (ls : Array Slot), lv_has ls 5 [(0, .ref h), (1, .int (nI q)), (2, .long (lN (edn k n E st i))), (4, .int (nI i))] → wf_B D wcl (wf_A w s.heap.size) s.heap w H locs → W p l e (rmk 3 70 0 0) s m [.ref h, .int (nI q)].toArray below meth c H locs 0 0 Q (F0 m 26 ls [])) :
    ∀ (fu : Nat) (i : Nat), (i ≤ q) → q - i < fu → ∀ (H : Heap) (locs : List Loc) (ls : Array Slot), lv_has ls 5 [(0, .ref h), (1, .int (nI q)), (2, .long (lN (edn k n E st i))), (4, .int (nI i))] → wf_B D wcl (wf_A w s.heap.size) s.heap w H locs → W p l e (rmk 3 70 0 0) s m [.ref h, .int (nI q)].toArray below meth c H locs 0 0 Q (F0 m 8 ls []) := by
  have hx := X.1
  have hb := X.2.1
  intro fu
  induction fu with
  | zero => intro i hi hfu; exact absurd hfu (Nat.not_lt_zero _)
  | succ fu ih =>
    intro i hi hfu H locs ls hl hB
    have hk := hm.1
    have hn := hm.2.1
    have hn0 := hm.2.2.1
    have hE := hm.E40
    refine lv_iload hx hb d_Mac_endingIn_8 (lv_at hl 3 rfl) ?_
    refine lv_iload_n hx hb d_Mac_endingIn_10 rfl (lv_at hl 1 rfl) ?_
    refine wf_cge (tgt := 26) hx hb d_Mac_endingIn_11 (by decide) (nI_toInt (by omega)) (nI_toInt (by omega)) (fun c_11 => ?_) (fun c_11 => ?_)
    · exact K_26 i hi (by omega) H locs ls (lv_sub hl [0, 1, 2, 3] rfl) hB
    · refine lv_aload_n hx hb d_Mac_endingIn_14 rfl (lv_at hl 0 rfl) ?_
      refine lv_lload_n hx hb d_Mac_endingIn_15 rfl (lv_at hl 2 rfl) ?_
      refine callVl (As := [.long (lN (edn k n E st i))]) (rest := []) X hB wf_hA (c_Mac_beforeAny (l := l) (D := D) (t := t) (w := w) (sz := H.size) (h := h) (hs := hs) (k := k) (n := n) (E := E) (f := f) (st := st) (S := edn k n E st i) hM hF (by exact hm) (by have := edn_lt hm i; omega)) k_682 k_684 k_23 k_67 k_685 hM cl_Mac rfl hd_Mac_beforeAny ⟨Nat.le_of_ble_eq_true rfl, Nat.le_of_ble_eq_true rfl⟩ ⟨Nat.le_of_ble_eq_true rfl, Nat.le_of_ble_eq_true rfl⟩ hl.1 (Nat.le_of_ble_eq_true rfl) d_Mac_endingIn_16 rfl (fun r_16 w1 H locs hp hB => ?_)
      obtain ⟨rfl, hw_16⟩ := hp
      have hB : wf_B D wcl (wf_A w s.heap.size) s.heap w H locs := wf_Bto hw_16 hB
      refine lv_lstore_n (lv' := [(2, .long (lN (bef k n st (edn k n E st i) n))), (0, .ref h), (1, .int (nI q)), (4, .int (nI i))]) hx hb d_Mac_endingIn_19 rfl hl (by decide) rfl (fun ls hl => ?_)
      refine lv_iinc (v := nI (i + 1)) (lv' := [(4, .int (nI (i + 1))), (2, .long (lN (bef k n st (edn k n E st i) n))), (0, .ref h), (1, .int (nI q))]) hx hb d_Mac_endingIn_20 hl (k := 3) rfl (show nI i + nI 1 = nI (i + 1) from nI_add _ _) (by decide) rfl (fun ls hl => ?_)
      refine lv_goto (tgt := 8) hx hb d_Mac_endingIn_23 (by decide) ?_
      exact ih (i + 1) (by omega) (by omega) H locs ls (lv_sub hl [2, 3, 1, 0] rfl) hB
set_option maxHeartbeats 4000000 in
set_option maxRecDepth 100000 in
theorem c_Mac_endingIn {l : Launch} {D : va_G} {t : Nat → ClassId} {w : wf_W} {sz : Nat} {h hs k n E : Nat} {f : Nat → Int32} {st : Nat → Nat → Nat} {q : Nat} (hM : w h = some (.inr (1, [.int (nI k), .ref hs, .int (nI n), .long (lN E)]))) (hF : w hs = some (.inl (t 0, 40, .inl (pkA f)))) (hm : mOK k n E f st) (hq : q ≤ 100) : Ml l y_Mac_endingIn b_Mac_endingIn 5 (some .long) 3 70 0 0 D t w sz [.ref h, .int (nI q)] (fun r w' => r = (lN (edn k n E st q)) ∧ w' = w) := by
  refine start_l (by decide) (Nat.le_of_ble_eq_true rfl) ?_
  intro p e s m below meth c ls H locs X hB hl
  have hx := X.1
  have hb := X.2.1
  have hl : lv_has ls 5 [(0, .ref h), (1, .int (nI q))] := hl
  have hk := hm.1
  have hn := hm.2.1
  have hn0 := hm.2.2.1
  have hE := hm.E40
  refine lv_aload_n hx hb d_Mac_endingIn_0 rfl (lv_at hl 0 rfl) ?_
  refine rget X hB  i_Mac hM cl_Mac 3 (by decide) k_125 rfl rfl d_Mac_endingIn_1 ?_
  refine lv_lstore_n (lv' := [(2, .long (lN E)), (0, .ref h), (1, .int (nI q))]) hx hb d_Mac_endingIn_4 rfl hl (by decide) rfl (fun ls hl => ?_)
  refine lv_iconst (v := nI 0) hx hb d_Mac_endingIn_5 (by decide) ?_
  refine lv_istore (lv' := [(4, .int (nI 0)), (2, .long (lN E)), (0, .ref h), (1, .int (nI q))]) hx hb d_Mac_endingIn_6 hl (by decide) rfl (fun ls hl => ?_)
  refine c_Mac_endingIn_L8 (l := l) X hM hF hm hq (fun i hi he H locs ls hl hB => ?_) (q - 0 + 1) 0 (by omega) (by omega) H locs ls (lv_sub hl [2, 3, 1, 0] rfl) hB
  refine lv_lload_n hx hb d_Mac_endingIn_26 rfl (lv_at hl 2 rfl) ?_
  refine ret_l X hB d_Mac_endingIn_27 ?_
  subst he; exact ⟨rfl, rfl⟩
set_option maxHeartbeats 4000000 in
set_option maxRecDepth 100000 in
theorem c_Mac_liveStates_L7 {l : Launch} {D : va_G} {t : Nat → ClassId} {w : wf_W} {h hs k n E : Nat} {f : Nat → Int32} {st : Nat → Nat → Nat}  {p : Program} {e : Env} {s : State} {m : MethodId} {below : List Frame} {meth : Method} {c : Code} {Q : State → Prop} (X : Cx p s m meth c R_Mac "liveStates" b_Mac_liveStates 4 (some .long) D t) (hM : w h = some (.inr (1, [.int (nI k), .ref hs, .int (nI n), .long (lN E)]))) (hF : w hs = some (.inl (t 0, 40, .inl (pkA f)))) (hm : mOK k n E f st)
    (K_29 : ∀ (i : Nat), (i ≤ n) → (i = n) → ∀ (H : Heap) (locs : List Loc) (ls : Array Slot), lv_has ls 4 [(0, .ref h), (1, .long (lN (liv k n E st i))), (3, .int (nI i))] → wf_B D wcl (wf_A w s.heap.size) s.heap w H locs → W p l e (rmk 3 70 0 0) s m [.ref h].toArray below meth c H locs 0 0 Q (F0 m 29 ls [])) :
    ∀ (fu : Nat) (i : Nat), (i ≤ n) → n - i < fu → ∀ (H : Heap) (locs : List Loc) (ls : Array Slot), lv_has ls 4 [(0, .ref h), (1, .long (lN (liv k n E st i))), (3, .int (nI i))] → wf_B D wcl (wf_A w s.heap.size) s.heap w H locs → W p l e (rmk 3 70 0 0) s m [.ref h].toArray below meth c H locs 0 0 Q (F0 m 7 ls []) := by
  have hx := X.1
  have hb := X.2.1
  intro fu
  induction fu with
  | zero => intro i hi hfu; exact absurd hfu (Nat.not_lt_zero _)
  | succ fu ih =>
    intro i hi hfu H locs ls hl hB
    have hk := hm.1
    have hn := hm.2.1
    have hn0 := hm.2.2.1
    have hE := hm.E40
    refine lv_iload_n hx hb d_Mac_liveStates_7 rfl (lv_at hl 2 rfl) ?_
    refine lv_aload_n hx hb d_Mac_liveStates_8 rfl (lv_at hl 0 rfl) ?_
    refine rget X hB  i_Mac hM cl_Mac 2 (by decide) k_120 rfl rfl d_Mac_liveStates_9 ?_
    refine wf_cge (tgt := 29) hx hb d_Mac_liveStates_12 (by decide) (nI_toInt (by omega)) (nI_toInt (by omega)) (fun c_12 => ?_) (fun c_12 => ?_)
    · exact K_29 i hi (by omega) H locs ls (lv_sub hl [0, 1, 2] rfl) hB
    · refine lv_lload_n hx hb d_Mac_liveStates_15 rfl (lv_at hl 1 rfl) ?_
      refine lv_aload_n hx hb d_Mac_liveStates_16 rfl (lv_at hl 0 rfl) ?_
      refine lv_lload_n hx hb d_Mac_liveStates_17 rfl (lv_at hl 1 rfl) ?_
      refine callVl (As := [.long (lN (liv k n E st i))]) (rest := [.long (lN (liv k n E st i))]) X hB wf_hA (c_Mac_beforeAny (l := l) (D := D) (t := t) (w := w) (sz := H.size) (h := h) (hs := hs) (k := k) (n := n) (E := E) (f := f) (st := st) (S := liv k n E st i) hM hF (by exact hm) (by have := liv_lt hm i; omega)) k_682 k_684 k_23 k_67 k_685 hM cl_Mac rfl hd_Mac_beforeAny ⟨Nat.le_of_ble_eq_true rfl, Nat.le_of_ble_eq_true rfl⟩ ⟨Nat.le_of_ble_eq_true rfl, Nat.le_of_ble_eq_true rfl⟩ hl.1 (Nat.le_of_ble_eq_true rfl) d_Mac_liveStates_18 rfl (fun r_18 w1 H locs hp hB => ?_)
      obtain ⟨rfl, hw_18⟩ := hp
      have hB : wf_B D wcl (wf_A w s.heap.size) s.heap w H locs := wf_Bto hw_18 hB
      refine lv_lor hx hb d_Mac_liveStates_21 ?_
      refine wf_tl (y := lN ((liv k n E st i) ||| (bef k n st (liv k n E st i) n))) (wb_or (by have := liv_lt hm i; omega) (by have := bef_lt (k := k) (n := n) (st := st) (S := liv k n E st i) n hn; omega)) ?_
      refine wf_tl (y := lN (liv k n E st (i + 1))) (by rw [liv]) ?_
      refine lv_lstore_n (lv' := [(1, .long (lN (liv k n E st (i + 1)))), (0, .ref h), (3, .int (nI i))]) hx hb d_Mac_liveStates_22 rfl hl (by decide) rfl (fun ls hl => ?_)
      refine lv_iinc (v := nI (i + 1)) (lv' := [(3, .int (nI (i + 1))), (1, .long (lN (liv k n E st (i + 1)))), (0, .ref h)]) hx hb d_Mac_liveStates_23 hl (k := 2) rfl (show nI i + nI 1 = nI (i + 1) from nI_add _ _) (by decide) rfl (fun ls hl => ?_)
      refine lv_goto (tgt := 7) hx hb d_Mac_liveStates_26 (by decide) ?_
      exact ih (i + 1) (by omega) (by omega) H locs ls (lv_sub hl [2, 1, 0] rfl) hB
set_option maxHeartbeats 4000000 in
set_option maxRecDepth 100000 in
theorem c_Mac_liveStates {l : Launch} {D : va_G} {t : Nat → ClassId} {w : wf_W} {sz : Nat} {h hs k n E : Nat} {f : Nat → Int32} {st : Nat → Nat → Nat} (hM : w h = some (.inr (1, [.int (nI k), .ref hs, .int (nI n), .long (lN E)]))) (hF : w hs = some (.inl (t 0, 40, .inl (pkA f)))) (hm : mOK k n E f st) : Ml l y_Mac_liveStates b_Mac_liveStates 4 (some .long) 3 70 0 0 D t w sz [.ref h] (fun r w' => r = (lN (liv k n E st n)) ∧ w' = w) := by
  refine start_l (by decide) (Nat.le_of_ble_eq_true rfl) ?_
  intro p e s m below meth c ls H locs X hB hl
  have hx := X.1
  have hb := X.2.1
  have hl : lv_has ls 4 [(0, .ref h)] := hl
  have hk := hm.1
  have hn := hm.2.1
  have hn0 := hm.2.2.1
  have hE := hm.E40
  refine lv_aload_n hx hb d_Mac_liveStates_0 rfl (lv_at hl 0 rfl) ?_
  refine rget X hB  i_Mac hM cl_Mac 3 (by decide) k_125 rfl rfl d_Mac_liveStates_1 ?_
  refine lv_lstore_n (lv' := [(1, .long (lN E)), (0, .ref h)]) hx hb d_Mac_liveStates_4 rfl hl (by decide) rfl (fun ls hl => ?_)
  refine lv_iconst (v := nI 0) hx hb d_Mac_liveStates_5 (by decide) ?_
  refine lv_istore_n (lv' := [(3, .int (nI 0)), (1, .long (lN E)), (0, .ref h)]) hx hb d_Mac_liveStates_6 rfl hl (by decide) rfl (fun ls hl => ?_)
  refine c_Mac_liveStates_L7 (l := l) X hM hF hm (fun i hi he H locs ls hl hB => ?_) (n - 0 + 1) 0 (by omega) (by omega) H locs ls (lv_sub hl [2, 1, 0] rfl) hB
  refine lv_lload_n hx hb d_Mac_liveStates_29 rfl (lv_at hl 1 rfl) ?_
  refine ret_l X hB d_Mac_liveStates_30 ?_
  subst he; exact ⟨rfl, rfl⟩
set_option maxHeartbeats 4000000 in
set_option maxRecDepth 100000 in
theorem c_Mac_mostLetters_L7 {l : Launch} {D : va_G} {t : Nat → ClassId} {w : wf_W} {h hs k n E : Nat} {f : Nat → Int32} {st : Nat → Nat → Nat}  {p : Program} {e : Env} {s : State} {m : MethodId} {below : List Frame} {meth : Method} {c : Code} {Q : State → Prop} (X : Cx p s m meth c R_Mac "mostLetters" b_Mac_mostLetters 5 (some .int) D t) (hM : w h = some (.inr (1, [.int (nI k), .ref hs, .int (nI n), .long (lN E)]))) (hF : w hs = some (.inl (t 0, 40, .inl (pkA f)))) (hm : mOK k n E f st)
    (K_44 : ∀ (i : Nat), (i ≤ 2 * n) → (i = 2 * n) → ∀ (H : Heap) (locs : List Loc) (ls : Array Slot), lv_has ls 5 [(0, .ref h), (1, .int (mst k n E st i)), (2, .long (lN (rch k n st i))), (4, .int (nI i))] → wf_B D wcl (wf_A w s.heap.size) s.heap w H locs → W p l e (rmk 4 95 0 0) s m [.ref h].toArray below meth c H locs 0 0 Q (F0 m 44 ls [])) :
    ∀ (fu : Nat) (i : Nat), (i ≤ 2 * n) → 2 * n - i < fu → ∀ (H : Heap) (locs : List Loc) (ls : Array Slot), lv_has ls 5 [(0, .ref h), (1, .int (mst k n E st i)), (2, .long (lN (rch k n st i))), (4, .int (nI i))] → wf_B D wcl (wf_A w s.heap.size) s.heap w H locs → W p l e (rmk 4 95 0 0) s m [.ref h].toArray below meth c H locs 0 0 Q (F0 m 7 ls []) := by
  have hx := X.1
  have hb := X.2.1
  intro fu
  induction fu with
  | zero => intro i hi hfu; exact absurd hfu (Nat.not_lt_zero _)
  | succ fu ih =>
    intro i hi hfu H locs ls hl hB
    have hk := hm.1
    have hn := hm.2.1
    have hn0 := hm.2.2.1
    have hE := hm.E40
    refine lv_iload hx hb d_Mac_mostLetters_7 (lv_at hl 3 rfl) ?_
    refine lv_iconst (v := nI 2) hx hb d_Mac_mostLetters_9 (by decide) ?_
    refine lv_aload_n hx hb d_Mac_mostLetters_10 rfl (lv_at hl 0 rfl) ?_
    refine rget X hB  i_Mac hM cl_Mac 2 (by decide) k_120 rfl rfl d_Mac_mostLetters_11 ?_
    refine wf_imul (x := 2) (y := n) hx hb d_Mac_mostLetters_14 ?_
    refine wf_cge (tgt := 44) hx hb d_Mac_mostLetters_15 (by decide) (nI_toInt (by omega)) (nI_toInt (by omega)) (fun c_15 => ?_) (fun c_15 => ?_)
    · exact K_44 i hi (by omega) H locs ls (lv_sub hl [0, 1, 2, 3] rfl) hB
    · refine lv_lload_n hx hb d_Mac_mostLetters_18 rfl (lv_at hl 2 rfl) ?_
      refine lv_aload_n hx hb d_Mac_mostLetters_19 rfl (lv_at hl 0 rfl) ?_
      refine rget X hB  i_Mac hM cl_Mac 3 (by decide) k_125 rfl rfl d_Mac_mostLetters_20 ?_
      refine lv_land hx hb d_Mac_mostLetters_23 ?_
      refine wf_tl (y := lN ((rch k n st i) &&& E)) (wb_and (by have := rch_lt hm i; omega) (by omega)) ?_
      refine lv_lconst (v := lN 0) hx hb d_Mac_mostLetters_24 (by decide) ?_
      refine W.lcmp hx hb d_Mac_mostLetters_25 ?_
      refine wf_leq (tgt := 32) hx hb d_Mac_mostLetters_26 (by decide) (pk_lT (by have := Nat.and_le_left (n := rch k n st i) (m := E); have := rch_lt hm i; omega)) (pk_lT (by decide)) (fun c_26 => ?_) (fun c_26 => ?_)
      · have hl : lv_has ls 5 [(0, .ref h), (1, .int (mst k n E st (i + 1))), (2, .long (lN (rch k n st i))), (4, .int (nI i))] := by first | (rw [mst, if_pos (by exact_mod_cast c_26)]; exact hl) | (rw [mst, if_neg (by exact_mod_cast c_26)]; exact hl)
        refine lv_aload_n hx hb d_Mac_mostLetters_32 rfl (lv_at hl 0 rfl) ?_
        refine lv_lload_n hx hb d_Mac_mostLetters_33 rfl (lv_at hl 2 rfl) ?_
        refine callVl (As := [.long (lN (rch k n st i))]) (rest := []) X hB wf_hA (c_Mac_afterAny (l := l) (D := D) (t := t) (w := w) (sz := H.size) (h := h) (hs := hs) (k := k) (n := n) (E := E) (f := f) (st := st) (S := rch k n st i) hM hF (by exact hm) (by have := rch_lt hm i; omega)) k_665 k_667 k_22 k_67 k_668 hM cl_Mac rfl hd_Mac_afterAny ⟨Nat.le_of_ble_eq_true rfl, Nat.le_of_ble_eq_true rfl⟩ ⟨Nat.le_of_ble_eq_true rfl, Nat.le_of_ble_eq_true rfl⟩ hl.1 (Nat.le_of_ble_eq_true rfl) d_Mac_mostLetters_34 rfl (fun r_34 w1 H locs hp hB => ?_)
        obtain ⟨rfl, hw_34⟩ := hp
        have hB : wf_B D wcl (wf_A w s.heap.size) s.heap w H locs := wf_Bto hw_34 hB
        refine lv_lstore_n (lv' := [(2, .long (lN (aftA k n st (rch k n st i) k))), (0, .ref h), (1, .int (mst k n E st (i + 1))), (4, .int (nI i))]) hx hb d_Mac_mostLetters_37 rfl hl (by decide) rfl (fun ls hl => ?_)
        refine lv_iinc (v := nI (i + 1)) (lv' := [(4, .int (nI (i + 1))), (2, .long (lN (aftA k n st (rch k n st i) k))), (0, .ref h), (1, .int (mst k n E st (i + 1)))]) hx hb d_Mac_mostLetters_38 hl (k := 3) rfl (show nI i + nI 1 = nI (i + 1) from nI_add _ _) (by decide) rfl (fun ls hl => ?_)
        refine lv_goto (tgt := 7) hx hb d_Mac_mostLetters_41 (by decide) ?_
        exact ih (i + 1) (by omega) (by omega) H locs ls (lv_sub hl [2, 3, 1, 0] rfl) hB
      · refine lv_iload hx hb d_Mac_mostLetters_29 (lv_at hl 3 rfl) ?_
        refine lv_istore_n (lv' := [(1, .int (nI i)), (0, .ref h), (2, .long (lN (rch k n st i))), (4, .int (nI i))]) hx hb d_Mac_mostLetters_31 rfl hl (by decide) rfl (fun ls hl => ?_)
        have hl : lv_has ls 5 [(1, .int (mst k n E st (i + 1))), (0, .ref h), (2, .long (lN (rch k n st i))), (4, .int (nI i))] := by first | (rw [mst, if_pos (by exact_mod_cast c_26)]; exact hl) | (rw [mst, if_neg (by exact_mod_cast c_26)]; exact hl)
        refine lv_aload_n hx hb d_Mac_mostLetters_32 rfl (lv_at hl 1 rfl) ?_
        refine lv_lload_n hx hb d_Mac_mostLetters_33 rfl (lv_at hl 2 rfl) ?_
        refine callVl (As := [.long (lN (rch k n st i))]) (rest := []) X hB wf_hA (c_Mac_afterAny (l := l) (D := D) (t := t) (w := w) (sz := H.size) (h := h) (hs := hs) (k := k) (n := n) (E := E) (f := f) (st := st) (S := rch k n st i) hM hF (by exact hm) (by have := rch_lt hm i; omega)) k_665 k_667 k_22 k_67 k_668 hM cl_Mac rfl hd_Mac_afterAny ⟨Nat.le_of_ble_eq_true rfl, Nat.le_of_ble_eq_true rfl⟩ ⟨Nat.le_of_ble_eq_true rfl, Nat.le_of_ble_eq_true rfl⟩ hl.1 (Nat.le_of_ble_eq_true rfl) d_Mac_mostLetters_34 rfl (fun r_34 w1 H locs hp hB => ?_)
        obtain ⟨rfl, hw_34⟩ := hp
        have hB : wf_B D wcl (wf_A w s.heap.size) s.heap w H locs := wf_Bto hw_34 hB
        refine lv_lstore_n (lv' := [(2, .long (lN (aftA k n st (rch k n st i) k))), (1, .int (mst k n E st (i + 1))), (0, .ref h), (4, .int (nI i))]) hx hb d_Mac_mostLetters_37 rfl hl (by decide) rfl (fun ls hl => ?_)
        refine lv_iinc (v := nI (i + 1)) (lv' := [(4, .int (nI (i + 1))), (2, .long (lN (aftA k n st (rch k n st i) k))), (1, .int (mst k n E st (i + 1))), (0, .ref h)]) hx hb d_Mac_mostLetters_38 hl (k := 3) rfl (show nI i + nI 1 = nI (i + 1) from nI_add _ _) (by decide) rfl (fun ls hl => ?_)
        refine lv_goto (tgt := 7) hx hb d_Mac_mostLetters_41 (by decide) ?_
        exact ih (i + 1) (by omega) (by omega) H locs ls (lv_sub hl [3, 2, 1, 0] rfl) hB
set_option maxHeartbeats 4000000 in
set_option maxRecDepth 100000 in
theorem c_Mac_mostLetters {l : Launch} {D : va_G} {t : Nat → ClassId} {w : wf_W} {sz : Nat} {h hs k n E : Nat} {f : Nat → Int32} {st : Nat → Nat → Nat} (hM : w h = some (.inr (1, [.int (nI k), .ref hs, .int (nI n), .long (lN E)]))) (hF : w hs = some (.inl (t 0, 40, .inl (pkA f)))) (hm : mOK k n E f st) : Mi l y_Mac_mostLetters b_Mac_mostLetters 5 (some .int) 4 95 0 0 D t w sz [.ref h] (fun r w' => r = (if (n : Int) ≤ (mst k n E st (2 * n)).toInt then (-5) else mst k n E st (2 * n)) ∧ w' = w) := by
  refine start_i (by decide) (Nat.le_of_ble_eq_true rfl) ?_
  intro p e s m below meth c ls H locs X hB hl
  have hx := X.1
  have hb := X.2.1
  have hl : lv_has ls 5 [(0, .ref h)] := hl
  have hk := hm.1
  have hn := hm.2.1
  have hn0 := hm.2.2.1
  have hE := hm.E40
  refine lv_iconst (v := (-1)) hx hb d_Mac_mostLetters_0 (by decide) ?_
  refine lv_istore_n (lv' := [(1, .int (-1)), (0, .ref h)]) hx hb d_Mac_mostLetters_1 rfl hl (by decide) rfl (fun ls hl => ?_)
  refine lv_lconst (v := lN 1) hx hb d_Mac_mostLetters_2 (by decide) ?_
  refine lv_lstore_n (lv' := [(2, .long (lN 1)), (1, .int (-1)), (0, .ref h)]) hx hb d_Mac_mostLetters_3 rfl hl (by decide) rfl (fun ls hl => ?_)
  refine lv_iconst (v := nI 0) hx hb d_Mac_mostLetters_4 (by decide) ?_
  refine lv_istore (lv' := [(4, .int (nI 0)), (2, .long (lN 1)), (1, .int (-1)), (0, .ref h)]) hx hb d_Mac_mostLetters_5 hl (by decide) rfl (fun ls hl => ?_)
  refine c_Mac_mostLetters_L7 (l := l) X hM hF hm (fun i hi he H locs ls hl hB => ?_) (2 * n - 0 + 1) 0 (by omega) (by omega) H locs ls (lv_sub hl [3, 2, 1, 0] rfl) hB
  have hl : lv_has ls 5 [(0, .ref h), (1, .int (mst k n E st (2 * n))), (2, .long (lN (rch k n st i))), (4, .int (nI i))] := by rw [he] at hl ⊢; exact hl
  refine lv_iload_n hx hb d_Mac_mostLetters_44 rfl (lv_at hl 1 rfl) ?_
  refine lv_aload_n hx hb d_Mac_mostLetters_45 rfl (lv_at hl 0 rfl) ?_
  refine rget X hB  i_Mac hM cl_Mac 2 (by decide) k_120 rfl rfl d_Mac_mostLetters_46 ?_
  refine wf_clt (tgt := 57) hx hb d_Mac_mostLetters_49 (by decide) rfl (nI_toInt (by omega)) (fun c_49 => ?_) (fun c_49 => ?_)
  · refine lv_iload_n hx hb d_Mac_mostLetters_57 rfl (lv_at hl 1 rfl) ?_
    refine ret_i X hB d_Mac_mostLetters_58 ?_
    exact ⟨by rw [if_neg (by omega)], rfl⟩
  · refine lv_bipush (v := (-5)) hx hb d_Mac_mostLetters_52 (by decide) ?_
    refine lv_goto (tgt := 58) hx hb d_Mac_mostLetters_54 (by decide) ?_
    refine ret_i X hB d_Mac_mostLetters_58 ?_
    exact ⟨by rw [if_pos (by omega)], rfl⟩
set_option maxHeartbeats 4000000 in
set_option maxRecDepth 100000 in
theorem c_Mac_isSame_L27 {l : Launch} {D : va_G} {t : Nat → ClassId} {w : wf_W} {h hs k n E o os k2 n2 E2 : Nat} {f f2 : Nat → Int32}  {p : Program} {e : Env} {s : State} {m : MethodId} {below : List Frame} {meth : Method} {c : Code} (X : Cx p s m meth c R_Mac "isSame" b_Mac_isSame 3 (some .boolean) D t) (hM : w h = some (.inr (1, [.int (nI k), .ref hs, .int (nI n), .long (lN E)]))) (hF : w hs = some (.inl (t 0, 40, .inl (pkA f)))) (hM2 : w o = some (.inr (1, [.int (nI k2), .ref os, .int (nI n2), .long (lN E2)]))) (hF2 : w os = some (.inl (t 0, 40, .inl (pkA f2)))) (hn : n ≤ 40) (hn2 : n2 ≤ 40) (hE : E < 2 ^ 40) (hE2 : E2 < 2 ^ 40) (hne : n = n2) (hee : E = E2)
    (K_58 : ∀ (i : Nat), (i ≤ n) → (∀ j, j < i → pkA f j = pkA f2 j) → (i = n) → ∀ (H : Heap) (locs : List Loc) (ls : Array Slot), lv_has ls 3 [(0, .ref h), (1, .ref o), (2, .int (nI i))] → wf_B D wcl (wf_A w s.heap.size) s.heap w H locs → W p l e (rmk 0 0 0 0) s m [.ref h, .ref o].toArray below meth c H locs 0 0 (MQ below (wf_Qi D wcl w (fun r w' => ((n = n2 ∧ E = E2 ∧ ∀ i, i < n → pkA f i = pkA f2 i) ∧ r = (bI true) ∧ w' = w) ∨ ((¬ (n = n2 ∧ E = E2 ∧ ∀ i, i < n → pkA f i = pkA f2 i)) ∧ r = (bI false) ∧ w' = w)) s.heap.size) [.ref h, .ref o].toArray s 0 0 (wf_A w s.heap.size)) (F0 m 58 ls [])) :
    ∀ (fu : Nat) (i : Nat), (i ≤ n) → (∀ j, j < i → pkA f j = pkA f2 j) → n - i < fu → ∀ (H : Heap) (locs : List Loc) (ls : Array Slot), lv_has ls 3 [(0, .ref h), (1, .ref o), (2, .int (nI i))] → wf_B D wcl (wf_A w s.heap.size) s.heap w H locs → W p l e (rmk 0 0 0 0) s m [.ref h, .ref o].toArray below meth c H locs 0 0 (MQ below (wf_Qi D wcl w (fun r w' => ((n = n2 ∧ E = E2 ∧ ∀ i, i < n → pkA f i = pkA f2 i) ∧ r = (bI true) ∧ w' = w) ∨ ((¬ (n = n2 ∧ E = E2 ∧ ∀ i, i < n → pkA f i = pkA f2 i)) ∧ r = (bI false) ∧ w' = w)) s.heap.size) [.ref h, .ref o].toArray s 0 0 (wf_A w s.heap.size)) (F0 m 27 ls []) := by
  have hx := X.1
  have hb := X.2.1
  intro fu
  induction fu with
  | zero => intro i hi ha hfu; exact absurd hfu (Nat.not_lt_zero _)
  | succ fu ih =>
    intro i hi ha hfu H locs ls hl hB
    refine lv_iload_n hx hb d_Mac_isSame_27 rfl (lv_at hl 2 rfl) ?_
    refine lv_aload_n hx hb d_Mac_isSame_28 rfl (lv_at hl 0 rfl) ?_
    refine rget X hB  i_Mac hM cl_Mac 2 (by decide) k_120 rfl rfl d_Mac_isSame_29 ?_
    refine wf_cge (tgt := 58) hx hb d_Mac_isSame_32 (by decide) (nI_toInt (by omega)) (nI_toInt (by omega)) (fun c_32 => ?_) (fun c_32 => ?_)
    · exact K_58 i hi ha (by omega) H locs ls (lv_sub hl [0, 1, 2] rfl) hB
    · refine lv_aload_n hx hb d_Mac_isSame_35 rfl (lv_at hl 0 rfl) ?_
      refine rget X hB  i_Mac hM cl_Mac 1 (by decide) k_119 rfl rfl d_Mac_isSame_36 ?_
      refine lv_iload_n hx hb d_Mac_isSame_39 rfl (lv_at hl 2 rfl) ?_
      refine riald X hB  hF (i := i) (by omega) (by decide) d_Mac_isSame_40 ?_
      refine lv_aload_n hx hb d_Mac_isSame_41 rfl (lv_at hl 1 rfl) ?_
      refine rget X hB  i_Mac hM2 cl_Mac 1 (by decide) k_119 rfl rfl d_Mac_isSame_42 ?_
      refine lv_iload_n hx hb d_Mac_isSame_45 rfl (lv_at hl 2 rfl) ?_
      refine riald X hB  hF2 (i := i) (by omega) (by decide) d_Mac_isSame_46 ?_
      refine wf_ceq (tgt := 52) hx hb d_Mac_isSame_47 (by decide) rfl rfl (fun c_47 => ?_) (fun c_47 => ?_)
      · refine lv_iinc (v := nI (i + 1)) (lv' := [(2, .int (nI (i + 1))), (0, .ref h), (1, .ref o)]) hx hb d_Mac_isSame_52 hl (k := 2) rfl (show nI i + nI 1 = nI (i + 1) from nI_add _ _) (by decide) rfl (fun ls hl => ?_)
        refine lv_goto (tgt := 27) hx hb d_Mac_isSame_55 (by decide) ?_
        exact ih (i + 1) (by omega) (by intro j hj; rcases Nat.lt_or_ge j i with q | q; exact ha j q; exact (show j = i by omega) ▸ Int32.toInt_inj.mp c_47) (by omega) H locs ls (lv_sub hl [1, 2, 0] rfl) hB
      · refine lv_iconst (v := nI 0) hx hb d_Mac_isSame_50 (by decide) ?_
        refine wf_ti (y := bI false) rfl ?_
        refine ret_z X hB d_Mac_isSame_51 ?_
        exact Or.inr ⟨fun q => c_47 (congrArg Int32.toInt (q.2.2 i (by omega))), rfl, rfl⟩
set_option maxHeartbeats 4000000 in
set_option maxRecDepth 100000 in
theorem c_Mac_isSame {l : Launch} {D : va_G} {t : Nat → ClassId} {w : wf_W} {sz : Nat} {h hs k n E o os k2 n2 E2 : Nat} {f f2 : Nat → Int32} (hM : w h = some (.inr (1, [.int (nI k), .ref hs, .int (nI n), .long (lN E)]))) (hF : w hs = some (.inl (t 0, 40, .inl (pkA f)))) (hM2 : w o = some (.inr (1, [.int (nI k2), .ref os, .int (nI n2), .long (lN E2)]))) (hF2 : w os = some (.inl (t 0, 40, .inl (pkA f2)))) (hn : n ≤ 40) (hn2 : n2 ≤ 40) (hE : E < 2 ^ 40) (hE2 : E2 < 2 ^ 40) : Mi l y_Mac_isSame b_Mac_isSame 3 (some .boolean) 0 0 0 0 D t w sz [.ref h, .ref o] (fun r w' => ((n = n2 ∧ E = E2 ∧ ∀ i, i < n → pkA f i = pkA f2 i) ∧ r = (bI true) ∧ w' = w) ∨ ((¬ (n = n2 ∧ E = E2 ∧ ∀ i, i < n → pkA f i = pkA f2 i)) ∧ r = (bI false) ∧ w' = w)) := by
  refine start_i (by decide) (Nat.le_of_ble_eq_true rfl) ?_
  intro p e s m below meth c ls H locs X hB hl
  have hx := X.1
  have hb := X.2.1
  have hl : lv_has ls 3 [(0, .ref h), (1, .ref o)] := hl
  refine lv_aload_n hx hb d_Mac_isSame_0 rfl (lv_at hl 0 rfl) ?_
  refine rget X hB  i_Mac hM cl_Mac 2 (by decide) k_120 rfl rfl d_Mac_isSame_1 ?_
  refine lv_aload_n hx hb d_Mac_isSame_4 rfl (lv_at hl 1 rfl) ?_
  refine rget X hB  i_Mac hM2 cl_Mac 2 (by decide) k_120 rfl rfl d_Mac_isSame_5 ?_
  refine wf_cne (tgt := 23) hx hb d_Mac_isSame_8 (by decide) (nI_toInt (by omega)) (nI_toInt (by omega)) (fun c_8 => ?_) (fun c_8 => ?_)
  · refine lv_iconst (v := nI 0) hx hb d_Mac_isSame_23 (by decide) ?_
    refine wf_ti (y := bI false) rfl ?_
    refine ret_z X hB d_Mac_isSame_24 ?_
    exact Or.inr ⟨by omega, rfl, rfl⟩
  · refine lv_aload_n hx hb d_Mac_isSame_11 rfl (lv_at hl 0 rfl) ?_
    refine rget X hB  i_Mac hM cl_Mac 3 (by decide) k_125 rfl rfl d_Mac_isSame_12 ?_
    refine lv_aload_n hx hb d_Mac_isSame_15 rfl (lv_at hl 1 rfl) ?_
    refine rget X hB  i_Mac hM2 cl_Mac 3 (by decide) k_125 rfl rfl d_Mac_isSame_16 ?_
    refine W.lcmp hx hb d_Mac_isSame_19 ?_
    refine wf_leq (tgt := 25) hx hb d_Mac_isSame_20 (by decide) (pk_lT (by omega)) (pk_lT (by omega)) (fun c_20 => ?_) (fun c_20 => ?_)
    · have hne : n = n2 := by omega
      refine lv_iconst (v := nI 0) hx hb d_Mac_isSame_25 (by decide) ?_
      have hee : E = E2 := by omega
      refine lv_istore_n (lv' := [(2, .int (nI 0)), (0, .ref h), (1, .ref o)]) hx hb d_Mac_isSame_26 rfl hl (by decide) rfl (fun ls hl => ?_)
      refine c_Mac_isSame_L27 (l := l) X hM hF hM2 hF2 hn hn2 hE hE2 hne hee (fun i hi ha he H locs ls hl hB => ?_) (n - 0 + 1) 0 (by omega) (by intro j hj; omega) (by omega) H locs ls (lv_sub hl [1, 2, 0] rfl) hB
      refine lv_iconst (v := nI 1) hx hb d_Mac_isSame_58 (by decide) ?_
      refine wf_ti (y := bI true) rfl ?_
      refine ret_z X hB d_Mac_isSame_59 ?_
      exact Or.inl ⟨⟨hne, hee, fun j hj => ha j (by omega)⟩, rfl, rfl⟩
    · refine lv_iconst (v := nI 0) hx hb d_Mac_isSame_23 (by decide) ?_
      refine wf_ti (y := bI false) rfl ?_
      refine ret_z X hB d_Mac_isSame_24 ?_
      exact Or.inr ⟨by omega, rfl, rfl⟩
set_option maxHeartbeats 4000000 in
set_option maxRecDepth 100000 in
theorem c_Mac_walk_L4 {l : Launch} {D : va_G} {t : Nat → ClassId} {w : wf_W} {h hs k n E : Nat} {f : Nat → Int32} {st : Nat → Nat → Nat} {o oi z : Nat} {rf : Nat → Int32} {cl : Nat → Nat}  {p : Program} {e : Env} {s : State} {m : MethodId} {below : List Frame} {meth : Method} {c : Code} {Q : State → Prop} (X : Cx p s m meth c R_Mac "walk" b_Mac_walk 4 (some .int) D t) (hM : w h = some (.inr (1, [.int (nI k), .ref hs, .int (nI n), .long (lN E)]))) (hF : w hs = some (.inl (t 0, 40, .inl (pkA f)))) (hR : w o = some (.inr (0, [.ref oi, .int (nI z)]))) (hI : w oi = some (.inl (t 0, 100, .inl rf))) (hm : mOK k n E f st) (hz : z ≤ 100) (hr : ∀ i, i < z → rf i = nI (cl i) ∧ cl i < 4)
    (K_29 : ∀ (i : Nat), (i ≤ z) → (i = z) → ∀ (H : Heap) (locs : List Loc) (ls : Array Slot), lv_has ls 4 [(0, .ref h), (1, .ref o), (2, .int (nI (wlk (stp k n st) cl i))), (3, .int (nI i))] → wf_B D wcl (wf_A w s.heap.size) s.heap w H locs → W p l e (rmk 2 44 0 0) s m [.ref h, .ref o].toArray below meth c H locs 0 0 Q (F0 m 29 ls [])) :
    ∀ (fu : Nat) (i : Nat), (i ≤ z) → z - i < fu → ∀ (H : Heap) (locs : List Loc) (ls : Array Slot), lv_has ls 4 [(0, .ref h), (1, .ref o), (2, .int (nI (wlk (stp k n st) cl i))), (3, .int (nI i))] → wf_B D wcl (wf_A w s.heap.size) s.heap w H locs → W p l e (rmk 2 44 0 0) s m [.ref h, .ref o].toArray below meth c H locs 0 0 Q (F0 m 4 ls []) := by
  have hx := X.1
  have hb := X.2.1
  intro fu
  induction fu with
  | zero => intro i hi hfu; exact absurd hfu (Nat.not_lt_zero _)
  | succ fu ih =>
    intro i hi hfu H locs ls hl hB
    have hk := hm.1
    have hn := hm.2.1
    have hn0 := hm.2.2.1
    have hE := hm.E40
    refine lv_iload_n hx hb d_Mac_walk_4 rfl (lv_at hl 3 rfl) ?_
    refine lv_aload_n hx hb d_Mac_walk_5 rfl (lv_at hl 1 rfl) ?_
    refine rgetN X hB  i_Row hR cl_Row 1 (by decide) k_104 rfl rfl d_Mac_walk_6 ?_
    refine wf_cge (tgt := 29) hx hb d_Mac_walk_9 (by decide) (nI_toInt (by omega)) (nI_toInt (by omega)) (fun c_9 => ?_) (fun c_9 => ?_)
    · exact K_29 i hi (by omega) H locs ls (lv_sub hl [0, 1, 2, 3] rfl) hB
    · refine lv_aload_n hx hb d_Mac_walk_12 rfl (lv_at hl 0 rfl) ?_
      refine lv_iload_n hx hb d_Mac_walk_13 rfl (lv_at hl 2 rfl) ?_
      refine lv_aload_n hx hb d_Mac_walk_14 rfl (lv_at hl 1 rfl) ?_
      refine lv_iload_n hx hb d_Mac_walk_15 rfl (lv_at hl 3 rfl) ?_
      refine callVi (As := [.int (nI i)]) (rest := [.int (nI (wlk (stp k n st) cl i)), .ref h]) X hB wf_hA (c_Row_at (l := l) (D := D) (t := t) (w := w) (sz := H.size) (o := o) (oi := oi) (z := z) (i := i) (rf := rf) hR hI (by exact hz) (by omega)) k_777 k_351 k_352 k_66 k_353 hR cl_Row rfl hd_Row_at ⟨Nat.le_of_ble_eq_true rfl, Nat.le_of_ble_eq_true rfl⟩ ⟨Nat.le_of_ble_eq_true rfl, Nat.le_of_ble_eq_true rfl⟩ hl.1 (Nat.le_of_ble_eq_true rfl) d_Mac_walk_16 rfl (fun r_16 w1 H locs hp hB => ?_)
      obtain ⟨rfl, hw_16⟩ := hp
      have hB : wf_B D wcl (wf_A w s.heap.size) s.heap w H locs := wf_Bto hw_16 hB
      refine wf_ti (y := nI (cl i)) (by rw [if_pos (by omega)]; exact (hr i (by omega)).1) ?_
      refine callVi (As := [.int (nI (wlk (stp k n st) cl i)), .int (nI (cl i))]) (rest := []) X hB wf_hA (c_Mac_step (l := l) (D := D) (t := t) (w := w) (sz := H.size) (h := h) (hs := hs) (k := k) (n := n) (E := E) (f := f) (st := st) (u := wlk (stp k n st) cl i) (a := cl i) hM hF (by exact hm) (by have := wlk_lt hm cl i; omega) (by have := (hr i (by omega)).2; omega)) k_445 k_434 k_435 k_67 k_436 hM cl_Mac rfl hd_Mac_step ⟨Nat.le_of_ble_eq_true rfl, Nat.le_of_ble_eq_true rfl⟩ ⟨Nat.le_of_ble_eq_true rfl, Nat.le_of_ble_eq_true rfl⟩ hl.1 (Nat.le_of_ble_eq_true rfl) d_Mac_walk_19 rfl (fun r_19 w1 H locs hp hB => ?_)
      obtain ⟨rfl, hw_19⟩ := hp
      have hB : wf_B D wcl (wf_A w s.heap.size) s.heap w H locs := wf_Bto hw_19 hB
      refine lv_istore_n (lv' := [(2, .int (nI (stp k n st (wlk (stp k n st) cl i) (cl i)))), (0, .ref h), (1, .ref o), (3, .int (nI i))]) hx hb d_Mac_walk_22 rfl hl (by decide) rfl (fun ls hl => ?_)
      refine lv_iinc (v := nI (i + 1)) (lv' := [(3, .int (nI (i + 1))), (2, .int (nI (stp k n st (wlk (stp k n st) cl i) (cl i)))), (0, .ref h), (1, .ref o)]) hx hb d_Mac_walk_23 hl (k := 3) rfl (show nI i + nI 1 = nI (i + 1) from nI_add _ _) (by decide) rfl (fun ls hl => ?_)
      refine lv_goto (tgt := 4) hx hb d_Mac_walk_26 (by decide) ?_
      exact ih (i + 1) (by omega) (by omega) H locs ls (lv_sub hl [2, 3, 1, 0] rfl) hB
set_option maxHeartbeats 4000000 in
set_option maxRecDepth 100000 in
theorem c_Mac_walk {l : Launch} {D : va_G} {t : Nat → ClassId} {w : wf_W} {sz : Nat} {h hs k n E : Nat} {f : Nat → Int32} {st : Nat → Nat → Nat} {o oi z : Nat} {rf : Nat → Int32} {cl : Nat → Nat} (hM : w h = some (.inr (1, [.int (nI k), .ref hs, .int (nI n), .long (lN E)]))) (hF : w hs = some (.inl (t 0, 40, .inl (pkA f)))) (hR : w o = some (.inr (0, [.ref oi, .int (nI z)]))) (hI : w oi = some (.inl (t 0, 100, .inl rf))) (hm : mOK k n E f st) (hz : z ≤ 100) (hr : ∀ i, i < z → rf i = nI (cl i) ∧ cl i < 4) : Mi l y_Mac_walk b_Mac_walk 4 (some .int) 2 44 0 0 D t w sz [.ref h, .ref o] (fun r w' => r = (nI (wlk (stp k n st) cl z)) ∧ w' = w) := by
  refine start_i (by decide) (Nat.le_of_ble_eq_true rfl) ?_
  intro p e s m below meth c ls H locs X hB hl
  have hx := X.1
  have hb := X.2.1
  have hl : lv_has ls 4 [(0, .ref h), (1, .ref o)] := hl
  have hk := hm.1
  have hn := hm.2.1
  have hn0 := hm.2.2.1
  have hE := hm.E40
  refine lv_iconst (v := nI 0) hx hb d_Mac_walk_0 (by decide) ?_
  refine lv_istore_n (lv' := [(2, .int (nI 0)), (0, .ref h), (1, .ref o)]) hx hb d_Mac_walk_1 rfl hl (by decide) rfl (fun ls hl => ?_)
  refine lv_iconst (v := nI 0) hx hb d_Mac_walk_2 (by decide) ?_
  refine lv_istore_n (lv' := [(3, .int (nI 0)), (2, .int (nI 0)), (0, .ref h), (1, .ref o)]) hx hb d_Mac_walk_3 rfl hl (by decide) rfl (fun ls hl => ?_)
  refine c_Mac_walk_L4 (l := l) X hM hF hR hI hm hz hr (fun i hi he H locs ls hl hB => ?_) (z - 0 + 1) 0 (by omega) (by omega) H locs ls (lv_sub hl [2, 3, 1, 0] rfl) hB
  refine lv_iload_n hx hb d_Mac_walk_29 rfl (lv_at hl 2 rfl) ?_
  refine ret_i X hB d_Mac_walk_30 ?_
  subst he; exact ⟨rfl, rfl⟩
