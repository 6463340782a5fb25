/-! TEXTS THAT ARE LOOKED FOR -/
def maF (fb cl : Nat → Nat) (z a : Nat) : Nat → Nat → Nat
  | 0, _ => 0
  | fu + 1, kp => if kp < z ∧ cl kp = a then kp + 1 else if kp = 0 ∨ 100 < kp then 0 else maF fb cl z a fu (fb kp)
theorem maF_le {fb cl : Nat → Nat} {z a : Nat} (hz : z ≤ 100) : ∀ fu kp, maF fb cl z a fu kp ≤ 100
  | 0, _ => by simp [maF]
  | fu + 1, kp => by
    rw [maF]
    split
    · omega
    · split
      · omega
      · exact maF_le hz fu _
/-- a beginning of j letters that is an end of the first m, too -/
def brd (cl : Nat → Nat) (m j : Nat) : Prop := j < m ∧ ∀ i, i < j → cl i = cl (m - j + i)
def fbOK (cl fb : Nat → Nat) (n : Nat) : Prop := ∀ m, 1 ≤ m → m ≤ n → brd cl m (fb m) ∧ ∀ j, brd cl m j → j ≤ fb m
/-- the first m letters are an end of the first n with a behind them -/
def fitM (cl : Nat → Nat) (n a m : Nat) : Prop := m = 0 ∨ (cl (m - 1) = a ∧ ∀ i, i + 1 < m → cl i = cl (n + 1 - m + i))
theorem maF_best {fb cl : Nat → Nat} {z a n : Nat} (hn : n ≤ 100) (hfb : fbOK cl fb n) : ∀ (fu kp : Nat), kp < fu → (kp = n ∨ brd cl n kp) → maF fb cl z a fu kp ≤ kp + 1 ∧ maF fb cl z a fu kp ≤ z ∧ fitM cl n a (maF fb cl z a fu kp) ∧ ∀ m, m ≤ kp + 1 → m ≤ z → fitM cl n a m → m ≤ maF fb cl z a fu kp := by
  intro fu
  induction fu with
  | zero => intro kp h; omega
  | succ fu ih =>
    intro kp hkp hb
    have hkn : kp ≤ n := by rcases hb with e | e; omega; have := e.1; omega
    have sfx : ∀ i, i < kp → cl i = cl (n - kp + i) := by
      intro i hi
      rcases hb with e | e
      · rw [e, Nat.sub_self, Nat.zero_add]
      · exact e.2 i hi
    rw [maF]
    by_cases h1 : kp < z ∧ cl kp = a
    · rw [if_pos h1]
      refine ⟨by omega, by omega, Or.inr ⟨by simpa using h1.2, fun i hi => ?_⟩, fun m hm _ _ => hm⟩
      rw [sfx i (by omega)]
      congr 1
      omega
    · rw [if_neg h1]
      have small : ∀ m, m ≤ kp + 1 → m ≤ z → fitM cl n a m → m ≤ kp := by
        intro m hm hmz hf
        rcases Nat.lt_or_ge kp m with q | q
        · rcases hf with e | ⟨e, -⟩
          · omega
          · have : m - 1 = kp := by omega
            rw [this] at e
            exact absurd ⟨by omega, e⟩ h1
        · exact q
      by_cases h2 : kp = 0 ∨ 100 < kp
      · rw [if_pos h2]
        refine ⟨by omega, by omega, Or.inl rfl, fun m hm hmz hf => ?_⟩
        have := small m hm hmz hf
        omega
      · rw [if_neg h2]
        obtain ⟨⟨b1, b2⟩, b3⟩ := hfb kp (by omega) hkn
        have hb' : brd cl n (fb kp) := by
          refine ⟨by omega, fun i hi => ?_⟩
          rw [b2 i hi, sfx _ (by omega)]
          congr 1
          omega
        obtain ⟨g1, g2, g3, g4⟩ := ih (fb kp) (by omega) (Or.inr hb')
        refine ⟨by omega, g2, g3, fun m hm hmz hf => ?_⟩
        have hmk := small m hm hmz hf
        rcases Nat.eq_zero_or_pos m with e | e
        · omega
        · refine g4 m ?_ hmz hf
          have : m - 1 ≤ fb kp := b3 (m - 1) ⟨by omega, fun i hi => by
            rcases hf with q | ⟨-, q⟩
            · omega
            · rw [q i (by omega), sfx (kp - (m - 1) + i) (by omega)]
              congr 1
              omega⟩
          omega
theorem fbOK_s {fb cl : Nat → Nat} {z n : Nat} (hn : n < 100) (hz : n < z) (hfb : fbOK cl fb n) (hn1 : 1 ≤ n) : fbOK cl (nu fb (n + 1) (maF fb cl z (cl n) 101 (fb n))) (n + 1) := by
  obtain ⟨⟨b1, b2⟩, b3⟩ := hfb n hn1 (Nat.le_refl _)
  obtain ⟨g1, g2, g3, g4⟩ := maF_best (z := z) (a := cl n) (by omega) hfb 101 (fb n) (by omega) (Or.inr ⟨b1, b2⟩)
  intro m hm1 hm
  by_cases e : m = n + 1
  · subst e
    rw [nu_s]
    refine ⟨⟨by omega, fun i hi => ?_⟩, fun j hj => ?_⟩
    · rcases g3 with q | ⟨q1, q2⟩
      · omega
      · by_cases e2 : i + 1 < maF fb cl z (cl n) 101 (fb n)
        · exact q2 i e2
        · have e3 : i = maF fb cl z (cl n) 101 (fb n) - 1 := by omega
          rw [e3, q1]
          congr 1
          omega
    · rcases Nat.eq_zero_or_pos j with q | q
      · omega
      · obtain ⟨h1, h2⟩ := hj
        have hb : brd cl n (j - 1) := ⟨by omega, fun i hi => by rw [h2 i (by omega)]; congr 1; omega⟩
        have := b3 _ hb
        refine g4 j (by omega) (by omega) (Or.inr ⟨?_, fun i hi => ?_⟩)
        · rw [h2 (j - 1) (by omega)]
          congr 1
          omega
        · rw [h2 i (by omega)]
  · rw [nu_n e]
    exact hfb m hm1 (by omega)
theorem fbOK_1 {fb cl : Nat → Nat} (h : fb 1 = 0) : fbOK cl fb 1 := by
  intro m h1 h2
  have : m = 1 := by omega
  subst this
  rw [h]
  exact ⟨⟨by omega, fun i hi => by omega⟩, fun j hj => by have := hj.1; omega⟩
def tAf (fb cl : Nat → Nat) (z op S a : Nat) : Nat := if S = z ∧ (op = 1 ∨ op = 3) then S else if op = 0 ∨ op = 1 then (if S < z ∧ cl S = a then S + 1 else 101) else maF fb cl z a 101 S
theorem tAf_lt {fb cl : Nat → Nat} {z op S a : Nat} (hz : z ≤ 100) (hS : S < 102) : tAf fb cl z op S a < 102 := by
  unfold tAf
  have := maF_le (fb := fb) (cl := cl) (a := a) hz 101 S
  repeat' split
  all_goals omega
set_option maxHeartbeats 4000000 in
set_option maxRecDepth 100000 in
theorem c_Txt_metAhead {l : Launch} {D : va_G} {t : Nat → ClassId} {w : wf_W} {sz : Nat} {u tf op o oi z : Nat} {rf : Nat → Int32} {cl : Nat → Nat} {q a : Nat} (hu : w u = some (.inr (4, [.ref o, .ref tf, .int (nI op)]))) (hR : w o = some (.inr (0, [.ref oi, .int (nI z)]))) (hI : w oi = some (.inl (t 0, 100, .inl rf))) (hz : z ≤ 100) (hr : ∀ i, i < z → rf i = nI (cl i) ∧ cl i < 4) (hq : q < 102) (ha : a < 4) : Mi l y_Txt_metAhead b_Txt_metAhead 3 (some .int) 1 21 0 0 D t w sz [.ref u, .int (nI q), .int (nI a)] (fun r w' => r = (nI (if q < z ∧ cl q = a then q + 1 else 101)) ∧ w' = w) := by
  refine start_i (by decide) (Nat.le_of_ble_eq_true rfl) ?_
  intro p e s m below meth c ls H locs X hB hl
  have hx := X.1
  have hb := X.2.1
  have hl : lv_has ls 3 [(0, .ref u), (1, .int (nI q)), (2, .int (nI a))] := hl
  refine lv_iload_n hx hb d_Txt_metAhead_0 rfl (lv_at hl 1 rfl) ?_
  refine lv_aload_n hx hb d_Txt_metAhead_1 rfl (lv_at hl 0 rfl) ?_
  refine rget X hB  i_Txt hu cl_Txt 0 (by decide) k_208 rfl rfl d_Txt_metAhead_2 ?_
  refine rgetN X hB  i_Row hR cl_Row 1 (by decide) k_101 rfl rfl d_Txt_metAhead_5 ?_
  refine wf_cge (tgt := 29) hx hb d_Txt_metAhead_8 (by decide) (nI_toInt (by omega)) (nI_toInt (by omega)) (fun c_8 => ?_) (fun c_8 => ?_)
  · refine lv_bipush (v := nI 101) hx hb d_Txt_metAhead_29 (by decide) ?_
    refine ret_i X hB d_Txt_metAhead_31 ?_
    exact ⟨by rw [if_neg (by omega)], rfl⟩
  · refine lv_aload_n hx hb d_Txt_metAhead_11 rfl (lv_at hl 0 rfl) ?_
    refine rget X hB  i_Txt hu cl_Txt 0 (by decide) k_208 rfl rfl d_Txt_metAhead_12 ?_
    refine lv_iload_n hx hb d_Txt_metAhead_15 rfl (lv_at hl 1 rfl) ?_
    refine callVi (As := [.int (nI q)]) (rest := []) X hB wf_hA (c_Row_at (l := l) (D := D) (t := t) (w := w) (sz := H.size) (o := o) (oi := oi) (z := z) (i := q) (rf := rf) hR hI (by exact hz) (by omega)) k_350 k_351 k_352 k_66 k_353 hR cl_Row rfl hd_Row_at ⟨Nat.le_of_ble_eq_true rfl, Nat.le_of_ble_eq_true rfl⟩ ⟨Nat.le_of_ble_eq_true rfl, Nat.le_of_ble_eq_true rfl⟩ hl.1 (Nat.le_of_ble_eq_true rfl) d_Txt_metAhead_16 rfl (fun r_16 w1 H locs hp hB => ?_)
    obtain ⟨rfl, hw_16⟩ := hp
    have hB : wf_B D wcl (wf_A w s.heap.size) s.heap w H locs := wf_Bto hw_16 hB
    refine wf_ti (y := nI (cl q)) (by rw [if_pos (by omega)]; exact (hr _ (by omega)).1) ?_
    refine lv_iload_n hx hb d_Txt_metAhead_19 rfl (lv_at hl 2 rfl) ?_
    refine wf_cne (tgt := 29) hx hb d_Txt_metAhead_20 (by decide) (nI_toInt (by have := (hr q (by omega)).2; omega)) (nI_toInt (by omega)) (fun c_20 => ?_) (fun c_20 => ?_)
    · refine lv_bipush (v := nI 101) hx hb d_Txt_metAhead_29 (by decide) ?_
      refine ret_i X hB d_Txt_metAhead_31 ?_
      exact ⟨by rw [if_neg (by omega)], rfl⟩
    · refine lv_iload_n hx hb d_Txt_metAhead_23 rfl (lv_at hl 1 rfl) ?_
      refine lv_iconst (v := nI 1) hx hb d_Txt_metAhead_24 (by decide) ?_
      refine wf_iadd (x := q) (y := 1) hx hb d_Txt_metAhead_25 ?_
      refine lv_goto (tgt := 31) hx hb d_Txt_metAhead_26 (by decide) ?_
      refine ret_i X hB d_Txt_metAhead_31 ?_
      exact ⟨by rw [if_pos (by omega)], rfl⟩
set_option maxHeartbeats 4000000 in
set_option maxRecDepth 100000 in
theorem c_Txt_metAnywhere_L5 {l : Launch} {D : va_G} {t : Nat → ClassId} {w : wf_W} {u tf op o oi z : Nat} {rf : Nat → Int32} {fb cl : Nat → Nat} {q a : Nat}  {p : Program} {e : Env} {s : State} {m : MethodId} {below : List Frame} {meth : Method} {c : Code} (X : Cx p s m meth c R_Txt "metAnywhere" b_Txt_metAnywhere 5 (some .int) D t) (hu : w u = some (.inr (4, [.ref o, .ref tf, .int (nI op)]))) (hT : w tf = some (.inl (t 0, 101, .inl (iA fb)))) (hR : w o = some (.inr (0, [.ref oi, .int (nI z)]))) (hI : w oi = some (.inl (t 0, 100, .inl rf))) (hz : z ≤ 100) (hr : ∀ i, i < z → rf i = nI (cl i) ∧ cl i < 4) (hfb : ∀ j, j ≤ 100 → fb j ≤ 100) (hq : q < 102) (ha : a < 4)
    (K_64 : ∀ (i : Nat) (kp : Nat), (i ≤ 101) → (kp < 102) → (maF fb cl z a (101 - i) kp = maF fb cl z a 101 q) → (i = 101) → ∀ (H : Heap) (locs : List Loc) (ls : Array Slot), lv_has ls 5 [(0, .ref u), (2, .int (nI a)), (3, .int (nI kp)), (4, .int (nI i))] → wf_B D wcl (wf_A w s.heap.size) s.heap w H locs → W p l e (rmk 1 21 0 0) s m [.ref u, .int (nI q), .int (nI a)].toArray below meth c H locs 0 0 (MQ below (wf_Qi D wcl w (fun r w' => r = (nI (maF fb cl z a 101 q)) ∧ w' = w) s.heap.size) [.ref u, .int (nI q), .int (nI a)].toArray s 0 0 (wf_A w s.heap.size)) (F0 m 64 ls [])) :
    ∀ (fu : Nat) (i : Nat) (kp : Nat), (i ≤ 101) → (kp < 102) → (maF fb cl z a (101 - i) kp = maF fb cl z a 101 q) → 101 - i < fu → ∀ (H : Heap) (locs : List Loc) (ls : Array Slot), lv_has ls 5 [(0, .ref u), (2, .int (nI a)), (3, .int (nI kp)), (4, .int (nI i))] → wf_B D wcl (wf_A w s.heap.size) s.heap w H locs → W p l e (rmk 1 21 0 0) s m [.ref u, .int (nI q), .int (nI a)].toArray below meth c H locs 0 0 (MQ below (wf_Qi D wcl w (fun r w' => r = (nI (maF fb cl z a 101 q)) ∧ w' = w) s.heap.size) [.ref u, .int (nI q), .int (nI a)].toArray s 0 0 (wf_A w s.heap.size)) (F0 m 5 ls []) := by
  have hx := X.1
  have hb := X.2.1
  intro fu
  induction fu with
  | zero => intro i kp hi hkp hmm hfu; exact absurd hfu (Nat.not_lt_zero _)
  | succ fu ih =>
    intro i kp hi hkp hmm hfu H locs ls hl hB
    refine lv_iload hx hb d_Txt_metAnywhere_5 (lv_at hl 3 rfl) ?_
    refine lv_bipush (v := nI 100) hx hb d_Txt_metAnywhere_7 (by decide) ?_
    refine wf_cgt (tgt := 64) hx hb d_Txt_metAnywhere_9 (by decide) (nI_toInt (by omega)) (nI_toInt (by omega)) (fun c_9 => ?_) (fun c_9 => ?_)
    · exact K_64 i kp hi hkp hmm (by omega) H locs ls (lv_sub hl [0, 1, 2, 3] rfl) hB
    · obtain ⟨v, hv⟩ : ∃ v, 101 - i = v + 1 := ⟨100 - i, by omega⟩
      rw [hv, maF] at hmm
      refine lv_iload_n hx hb d_Txt_metAnywhere_12 rfl (lv_at hl 2 rfl) ?_
      refine lv_aload_n hx hb d_Txt_metAnywhere_13 rfl (lv_at hl 0 rfl) ?_
      refine rget X hB  i_Txt hu cl_Txt 0 (by decide) k_208 rfl rfl d_Txt_metAnywhere_14 ?_
      refine rgetN X hB  i_Row hR cl_Row 1 (by decide) k_101 rfl rfl d_Txt_metAnywhere_17 ?_
      refine wf_cge (tgt := 39) hx hb d_Txt_metAnywhere_20 (by decide) (nI_toInt (by omega)) (nI_toInt (by omega)) (fun c_20 => ?_) (fun c_20 => ?_)
      · refine lv_iload_n hx hb d_Txt_metAnywhere_39 rfl (lv_at hl 2 rfl) ?_
        refine wf_zle (tgt := 49) hx hb d_Txt_metAnywhere_40 (by decide) (nI_toInt (by omega)) (fun c_40 => ?_) (fun c_40 => ?_)
        · refine lv_iconst (v := nI 0) hx hb d_Txt_metAnywhere_49 (by decide) ?_
          refine ret_i X hB d_Txt_metAnywhere_50 ?_
          exact ⟨by rw [← hmm, if_neg (by omega), if_pos (by omega)], rfl⟩
        · refine lv_iload_n hx hb d_Txt_metAnywhere_43 rfl (lv_at hl 2 rfl) ?_
          refine lv_bipush (v := nI 100) hx hb d_Txt_metAnywhere_44 (by decide) ?_
          refine wf_cle (tgt := 51) hx hb d_Txt_metAnywhere_46 (by decide) (nI_toInt (by omega)) (nI_toInt (by omega)) (fun c_46 => ?_) (fun c_46 => ?_)
          · refine lv_aload_n hx hb d_Txt_metAnywhere_51 rfl (lv_at hl 0 rfl) ?_
            refine rget X hB  i_Txt hu cl_Txt 1 (by decide) k_209 rfl rfl d_Txt_metAnywhere_52 ?_
            refine lv_iload_n hx hb d_Txt_metAnywhere_55 rfl (lv_at hl 2 rfl) ?_
            refine riald X hB  hT (i := kp) (by omega) (by decide) d_Txt_metAnywhere_56 ?_
            refine wf_ti (y := nI (fb kp)) rfl ?_
            refine lv_istore_n (lv' := [(3, .int (nI (fb kp))), (0, .ref u), (2, .int (nI a)), (4, .int (nI i))]) hx hb d_Txt_metAnywhere_57 rfl hl (by decide) rfl (fun ls hl => ?_)
            refine lv_iinc (v := nI (i + 1)) (lv' := [(4, .int (nI (i + 1))), (3, .int (nI (fb kp))), (0, .ref u), (2, .int (nI a))]) hx hb d_Txt_metAnywhere_58 hl (k := 3) rfl (show nI i + nI 1 = nI (i + 1) from nI_add _ _) (by decide) rfl (fun ls hl => ?_)
            refine lv_goto (tgt := 5) hx hb d_Txt_metAnywhere_61 (by decide) ?_
            exact ih (i + 1) (fb kp) (by omega) (by have := hfb kp (by omega); omega) (by rw [← hmm, if_neg (by omega), if_neg (by omega)]; congr 1; omega) (by omega) H locs ls (lv_sub hl [2, 3, 1, 0] rfl) hB
          · refine lv_iconst (v := nI 0) hx hb d_Txt_metAnywhere_49 (by decide) ?_
            refine ret_i X hB d_Txt_metAnywhere_50 ?_
            exact ⟨by rw [← hmm, if_neg (by omega), if_pos (by omega)], rfl⟩
      · refine lv_aload_n hx hb d_Txt_metAnywhere_23 rfl (lv_at hl 0 rfl) ?_
        refine rget X hB  i_Txt hu cl_Txt 0 (by decide) k_208 rfl rfl d_Txt_metAnywhere_24 ?_
        refine lv_iload_n hx hb d_Txt_metAnywhere_27 rfl (lv_at hl 2 rfl) ?_
        refine callVi (As := [.int (nI kp)]) (rest := []) X hB wf_hA (c_Row_at (l := l) (D := D) (t := t) (w := w) (sz := H.size) (o := o) (oi := oi) (z := z) (i := kp) (rf := rf) hR hI (by exact hz) (by omega)) k_350 k_351 k_352 k_66 k_353 hR cl_Row rfl hd_Row_at ⟨Nat.le_of_ble_eq_true rfl, Nat.le_of_ble_eq_true rfl⟩ ⟨Nat.le_of_ble_eq_true rfl, Nat.le_of_ble_eq_true rfl⟩ hl.1 (Nat.le_of_ble_eq_true rfl) d_Txt_metAnywhere_28 rfl (fun r_28 w1 H locs hp hB => ?_)
        obtain ⟨rfl, hw_28⟩ := hp
        have hB : wf_B D wcl (wf_A w s.heap.size) s.heap w H locs := wf_Bto hw_28 hB
        refine wf_ti (y := nI (cl kp)) (by rw [if_pos (by omega)]; exact (hr _ (by omega)).1) ?_
        refine lv_iload_n hx hb d_Txt_metAnywhere_31 rfl (lv_at hl 1 rfl) ?_
        refine wf_cne (tgt := 39) hx hb d_Txt_metAnywhere_32 (by decide) (nI_toInt (by have := (hr kp (by omega)).2; omega)) (nI_toInt (by omega)) (fun c_32 => ?_) (fun c_32 => ?_)
        · refine lv_iload_n hx hb d_Txt_metAnywhere_39 rfl (lv_at hl 2 rfl) ?_
          refine wf_zle (tgt := 49) hx hb d_Txt_metAnywhere_40 (by decide) (nI_toInt (by omega)) (fun c_40 => ?_) (fun c_40 => ?_)
          · refine lv_iconst (v := nI 0) hx hb d_Txt_metAnywhere_49 (by decide) ?_
            refine ret_i X hB d_Txt_metAnywhere_50 ?_
            exact ⟨by rw [← hmm, if_neg (by omega), if_pos (by omega)], rfl⟩
          · refine lv_iload_n hx hb d_Txt_metAnywhere_43 rfl (lv_at hl 2 rfl) ?_
            refine lv_bipush (v := nI 100) hx hb d_Txt_metAnywhere_44 (by decide) ?_
            refine wf_cle (tgt := 51) hx hb d_Txt_metAnywhere_46 (by decide) (nI_toInt (by omega)) (nI_toInt (by omega)) (fun c_46 => ?_) (fun c_46 => ?_)
            · refine lv_aload_n hx hb d_Txt_metAnywhere_51 rfl (lv_at hl 0 rfl) ?_
              refine rget X hB  i_Txt hu cl_Txt 1 (by decide) k_209 rfl rfl d_Txt_metAnywhere_52 ?_
              refine lv_iload_n hx hb d_Txt_metAnywhere_55 rfl (lv_at hl 2 rfl) ?_
              refine riald X hB  hT (i := kp) (by omega) (by decide) d_Txt_metAnywhere_56 ?_
              refine wf_ti (y := nI (fb kp)) rfl ?_
              refine lv_istore_n (lv' := [(3, .int (nI (fb kp))), (0, .ref u), (2, .int (nI a)), (4, .int (nI i))]) hx hb d_Txt_metAnywhere_57 rfl hl (by decide) rfl (fun ls hl => ?_)
              refine lv_iinc (v := nI (i + 1)) (lv' := [(4, .int (nI (i + 1))), (3, .int (nI (fb kp))), (0, .ref u), (2, .int (nI a))]) hx hb d_Txt_metAnywhere_58 hl (k := 3) rfl (show nI i + nI 1 = nI (i + 1) from nI_add _ _) (by decide) rfl (fun ls hl => ?_)
              refine lv_goto (tgt := 5) hx hb d_Txt_metAnywhere_61 (by decide) ?_
              exact ih (i + 1) (fb kp) (by omega) (by have := hfb kp (by omega); omega) (by rw [← hmm, if_neg (by omega), if_neg (by omega)]; congr 1; omega) (by omega) H locs ls (lv_sub hl [2, 3, 1, 0] rfl) hB
            · refine lv_iconst (v := nI 0) hx hb d_Txt_metAnywhere_49 (by decide) ?_
              refine ret_i X hB d_Txt_metAnywhere_50 ?_
              exact ⟨by rw [← hmm, if_neg (by omega), if_pos (by omega)], rfl⟩
        · refine lv_iload_n hx hb d_Txt_metAnywhere_35 rfl (lv_at hl 2 rfl) ?_
          refine lv_iconst (v := nI 1) hx hb d_Txt_metAnywhere_36 (by decide) ?_
          refine wf_iadd (x := kp) (y := 1) hx hb d_Txt_metAnywhere_37 ?_
          refine ret_i X hB d_Txt_metAnywhere_38 ?_
          exact ⟨by rw [← hmm, if_pos (by omega)], rfl⟩
set_option maxHeartbeats 4000000 in
set_option maxRecDepth 100000 in
theorem c_Txt_metAnywhere {l : Launch} {D : va_G} {t : Nat → ClassId} {w : wf_W} {sz : Nat} {u tf op o oi z : Nat} {rf : Nat → Int32} {fb cl : Nat → Nat} {q a : Nat} (hu : w u = some (.inr (4, [.ref o, .ref tf, .int (nI op)]))) (hT : w tf = some (.inl (t 0, 101, .inl (iA fb)))) (hR : w o = some (.inr (0, [.ref oi, .int (nI z)]))) (hI : w oi = some (.inl (t 0, 100, .inl rf))) (hz : z ≤ 100) (hr : ∀ i, i < z → rf i = nI (cl i) ∧ cl i < 4) (hfb : ∀ j, j ≤ 100 → fb j ≤ 100) (hq : q < 102) (ha : a < 4) : Mi l y_Txt_metAnywhere b_Txt_metAnywhere 5 (some .int) 1 21 0 0 D t w sz [.ref u, .int (nI q), .int (nI a)] (fun r w' => r = (nI (maF fb cl z a 101 q)) ∧ w' = w) := by
  refine start_i (by decide) (Nat.le_of_ble_eq_true rfl) ?_
  intro p e s m below meth c ls H locs X hB hl
  have hx := X.1
  have hb := X.2.1
  have hl : lv_has ls 5 [(0, .ref u), (1, .int (nI q)), (2, .int (nI a))] := hl
  refine lv_iload_n hx hb d_Txt_metAnywhere_0 rfl (lv_at hl 1 rfl) ?_
  refine lv_istore_n (lv' := [(3, .int (nI q)), (0, .ref u), (1, .int (nI q)), (2, .int (nI a))]) hx hb d_Txt_metAnywhere_1 rfl hl (by decide) rfl (fun ls hl => ?_)
  refine lv_iconst (v := nI 0) hx hb d_Txt_metAnywhere_2 (by decide) ?_
  refine lv_istore (lv' := [(4, .int (nI 0)), (3, .int (nI q)), (0, .ref u), (1, .int (nI q)), (2, .int (nI a))]) hx hb d_Txt_metAnywhere_3 hl (by decide) rfl (fun ls hl => ?_)
  refine c_Txt_metAnywhere_L5 (l := l) X hu hT hR hI hz hr hfb hq ha (fun i kp hi hkp hmm he H locs ls hl hB => ?_) (101 - 0 + 1) 0 q (by omega) (by omega) (by rfl) (by omega) H locs ls (lv_sub hl [2, 4, 1, 0] rfl) hB
  refine lv_iconst (v := nI 0) hx hb d_Txt_metAnywhere_64 (by decide) ?_
  refine ret_i X hB d_Txt_metAnywhere_65 ?_
  subst he; exact ⟨by rw [← hmm]; rfl, rfl⟩
set_option maxHeartbeats 4000000 in
set_option maxRecDepth 100000 in
theorem c_Txt_look_L15 {l : Launch} {D : va_G} {t : Nat → ClassId} {w : wf_W} {u tf op o oi z : Nat} {rf : Nat → Int32} {fb cl : Nat → Nat} {co coi zc : Nat} {cof : Nat → Int32} {op2 : Nat}  {p : Program} {e : Env} {s : State} {m : MethodId} {below : List Frame} {meth : Method} {c : Code} {Q : State → Prop} (X : Cx p s m meth c R_Txt "look" b_Txt_look 4 none D t) (hN : nd [u, tf, o, oi]) (hO : apart [co, coi] [u, tf, o, oi]) (hu : w u = some (.inr (4, [.ref o, .ref tf, .int (nI op)]))) (hT : w tf = some (.inl (t 0, 101, .inl (iA fb)))) (hR : w o = some (.inr (0, [.ref oi, .int (nI z)]))) (hI : w oi = some (.inl (t 0, 100, .inl rf))) (hCo : w co = some (.inr (0, [.ref coi, .int (nI zc)]))) (hCoi : w coi = some (.inl (t 0, 100, .inl cof))) (hzc : zc ≤ 100) (hcl : ∀ i, i < zc → cof i = nI (cl i) ∧ cl i < 4) (hfb : ∀ j, j ≤ 100 → fb j ≤ 100) (hf1 : fb 1 = 0)
    (K_58 : ∀ (q : Nat) (fb1 : Nat → Nat) (rf1 : Nat → Int32), (1 ≤ q ∧ (q ≤ zc ∨ q = 1)) → ((∀ j, j ≤ 100 → fb1 j ≤ 100) ∧ fb1 1 = 0 ∧ fbOK cl fb1 q) → (∀ i, i < zc → rf1 i = nI (cl i) ∧ cl i < 4) → (zc ≤ q) → ∀ (H : Heap) (locs : List Loc) (ls : Array Slot), lv_has ls 4 [(0, .ref u), (1, .int (nI op2)), (2, .ref co), (3, .int (nI q))] → wf_B D wcl (wf_A w s.heap.size) s.heap (wf_l w [(u, .inr (4, [.ref o, .ref tf, .int (nI op2)])), (tf, .inl (t 0, 101, .inl (iA fb1))), (o, .inr (0, [.ref oi, .int (nI zc)])), (oi, .inl (t 0, 100, .inl rf1))]) H locs → W p l e (rmk 2 61 0 0) s m [.ref u, .int (nI op2), .ref co].toArray below meth c H locs 0 0 Q (F0 m 58 ls [])) :
    ∀ (fu : Nat) (q : Nat) (fb1 : Nat → Nat) (rf1 : Nat → Int32), (1 ≤ q ∧ (q ≤ zc ∨ q = 1)) → ((∀ j, j ≤ 100 → fb1 j ≤ 100) ∧ fb1 1 = 0 ∧ fbOK cl fb1 q) → (∀ i, i < zc → rf1 i = nI (cl i) ∧ cl i < 4) → zc - q < fu → ∀ (H : Heap) (locs : List Loc) (ls : Array Slot), lv_has ls 4 [(0, .ref u), (1, .int (nI op2)), (2, .ref co), (3, .int (nI q))] → wf_B D wcl (wf_A w s.heap.size) s.heap (wf_l w [(u, .inr (4, [.ref o, .ref tf, .int (nI op2)])), (tf, .inl (t 0, 101, .inl (iA fb1))), (o, .inr (0, [.ref oi, .int (nI zc)])), (oi, .inl (t 0, 100, .inl rf1))]) H locs → W p l e (rmk 2 61 0 0) s m [.ref u, .int (nI op2), .ref co].toArray below meth c H locs 0 0 Q (F0 m 15 ls []) := by
  have hx := X.1
  have hb := X.2.1
  intro fu
  induction fu with
  | zero => intro q fb1 rf1 hq hg hr1 hfu; exact absurd hfu (Nat.not_lt_zero _)
  | succ fu ih =>
    intro q fb1 rf1 hq hg hr1 hfu H locs ls hl hB
    refine lv_iload_n hx hb d_Txt_look_15 rfl (lv_at hl 3 rfl) ?_
    refine lv_aload_n hx hb d_Txt_look_16 rfl (lv_at hl 0 rfl) ?_
    refine rgetL X hB hN 0 i_Txt rfl cl_Txt 0 (by decide) k_208 rfl rfl d_Txt_look_17 ?_
    refine rgetNL X hB hN 2 i_Row rfl cl_Row 1 (by decide) k_101 rfl rfl d_Txt_look_20 ?_
    refine wf_cge (tgt := 58) hx hb d_Txt_look_23 (by decide) (nI_toInt (by omega)) (nI_toInt (by omega)) (fun c_23 => ?_) (fun c_23 => ?_)
    · exact K_58 q fb1 rf1 hq hg hr1 (by omega) H locs ls (lv_sub hl [0, 1, 2, 3] rfl) hB
    · refine lv_aload_n hx hb d_Txt_look_26 rfl (lv_at hl 0 rfl) ?_
      refine rgetL X hB hN 0 i_Txt rfl cl_Txt 1 (by decide) k_209 rfl rfl d_Txt_look_27 ?_
      refine lv_iload_n hx hb d_Txt_look_30 rfl (lv_at hl 3 rfl) ?_
      refine lv_iconst (v := nI 1) hx hb d_Txt_look_31 (by decide) ?_
      refine wf_iadd (x := q) (y := 1) hx hb d_Txt_look_32 ?_
      refine lv_aload_n hx hb d_Txt_look_33 rfl (lv_at hl 0 rfl) ?_
      refine lv_aload_n hx hb d_Txt_look_34 rfl (lv_at hl 0 rfl) ?_
      refine rgetL X hB hN 0 i_Txt rfl cl_Txt 1 (by decide) k_209 rfl rfl d_Txt_look_35 ?_
      refine lv_iload_n hx hb d_Txt_look_38 rfl (lv_at hl 3 rfl) ?_
      refine rialdL X hB hN 1 rfl (i := q) (by omega) (by decide) d_Txt_look_39 ?_
      refine wf_ti (y := nI (fb1 q)) rfl ?_
      refine lv_aload_n hx hb d_Txt_look_40 rfl (lv_at hl 0 rfl) ?_
      refine rgetL X hB hN 0 i_Txt rfl cl_Txt 0 (by decide) k_208 rfl rfl d_Txt_look_41 ?_
      refine lv_iload_n hx hb d_Txt_look_44 rfl (lv_at hl 3 rfl) ?_
      refine callVi (As := [.int (nI q)]) (rest := [.int (nI (fb1 q)), .ref u, .int (nI (q + 1)), .ref tf]) X hB wf_hA (c_Row_at (l := l) (D := D) (t := t) (w := (wf_l w [(u, .inr (4, [.ref o, .ref tf, .int (nI op2)])), (tf, .inl (t 0, 101, .inl (iA fb1))), (o, .inr (0, [.ref oi, .int (nI zc)])), (oi, .inl (t 0, 100, .inl rf1))])) (sz := H.size) (o := o) (oi := oi) (z := zc) (i := q) (rf := rf1) (wf_lg (w := w) (l := [(u, .inr (4, [.ref o, .ref tf, .int (nI op2)])), (tf, .inl (t 0, 101, .inl (iA fb1))), (o, .inr (0, [.ref oi, .int (nI zc)])), (oi, .inl (t 0, 100, .inl rf1))]) hN 2 rfl) (wf_lg (w := w) (l := [(u, .inr (4, [.ref o, .ref tf, .int (nI op2)])), (tf, .inl (t 0, 101, .inl (iA fb1))), (o, .inr (0, [.ref oi, .int (nI zc)])), (oi, .inl (t 0, 100, .inl rf1))]) hN 3 rfl) (by exact hzc) (by omega)) k_350 k_351 k_352 k_66 k_353 (wf_lg (w := w) (l := [(u, .inr (4, [.ref o, .ref tf, .int (nI op2)])), (tf, .inl (t 0, 101, .inl (iA fb1))), (o, .inr (0, [.ref oi, .int (nI zc)])), (oi, .inl (t 0, 100, .inl rf1))]) hN 2 rfl) cl_Row rfl hd_Row_at ⟨Nat.le_of_ble_eq_true rfl, Nat.le_of_ble_eq_true rfl⟩ ⟨Nat.le_of_ble_eq_true rfl, Nat.le_of_ble_eq_true rfl⟩ hl.1 (Nat.le_of_ble_eq_true rfl) d_Txt_look_45 rfl (fun r_45 w1 H locs hp hB => ?_)
      obtain ⟨rfl, hw_45⟩ := hp
      have hB : wf_B D wcl (wf_A w s.heap.size) s.heap (wf_l w [(u, .inr (4, [.ref o, .ref tf, .int (nI op2)])), (tf, .inl (t 0, 101, .inl (iA fb1))), (o, .inr (0, [.ref oi, .int (nI zc)])), (oi, .inl (t 0, 100, .inl rf1))]) H locs := wf_Bto hw_45 hB
      refine wf_ti (y := nI (cl q)) (by rw [if_pos (by omega)]; exact (hr1 _ (by omega)).1) ?_
      refine callVi (As := [.int (nI (fb1 q)), .int (nI (cl q))]) (rest := [.int (nI (q + 1)), .ref tf]) X hB wf_hA (c_Txt_metAnywhere (l := l) (D := D) (t := t) (w := (wf_l w [(u, .inr (4, [.ref o, .ref tf, .int (nI op2)])), (tf, .inl (t 0, 101, .inl (iA fb1))), (o, .inr (0, [.ref oi, .int (nI zc)])), (oi, .inl (t 0, 100, .inl rf1))])) (sz := H.size) (u := u) (tf := tf) (op := op2) (o := o) (oi := oi) (z := zc) (rf := rf1) (fb := fb1) (cl := cl) (q := fb1 q) (a := cl q) (wf_lg (w := w) (l := [(u, .inr (4, [.ref o, .ref tf, .int (nI op2)])), (tf, .inl (t 0, 101, .inl (iA fb1))), (o, .inr (0, [.ref oi, .int (nI zc)])), (oi, .inl (t 0, 100, .inl rf1))]) hN 0 rfl) (wf_lg (w := w) (l := [(u, .inr (4, [.ref o, .ref tf, .int (nI op2)])), (tf, .inl (t 0, 101, .inl (iA fb1))), (o, .inr (0, [.ref oi, .int (nI zc)])), (oi, .inl (t 0, 100, .inl rf1))]) hN 1 rfl) (wf_lg (w := w) (l := [(u, .inr (4, [.ref o, .ref tf, .int (nI op2)])), (tf, .inl (t 0, 101, .inl (iA fb1))), (o, .inr (0, [.ref oi, .int (nI zc)])), (oi, .inl (t 0, 100, .inl rf1))]) hN 2 rfl) (wf_lg (w := w) (l := [(u, .inr (4, [.ref o, .ref tf, .int (nI op2)])), (tf, .inl (t 0, 101, .inl (iA fb1))), (o, .inr (0, [.ref oi, .int (nI zc)])), (oi, .inl (t 0, 100, .inl rf1))]) hN 3 rfl) (by exact hzc) (by exact hr1) (by exact hg.1) (by have := hg.1 q (by omega); omega) (by exact (hr1 q (by omega)).2)) k_354 k_356 k_1 k_71 k_357 (wf_lg (w := w) (l := [(u, .inr (4, [.ref o, .ref tf, .int (nI op2)])), (tf, .inl (t 0, 101, .inl (iA fb1))), (o, .inr (0, [.ref oi, .int (nI zc)])), (oi, .inl (t 0, 100, .inl rf1))]) hN 0 rfl) cl_Txt rfl hd_Txt_metAnywhere ⟨Nat.le_of_ble_eq_true rfl, Nat.le_of_ble_eq_true rfl⟩ ⟨Nat.le_of_ble_eq_true rfl, Nat.le_of_ble_eq_true rfl⟩ hl.1 (Nat.le_of_ble_eq_true rfl) d_Txt_look_48 rfl (fun r_48 w1 H locs hp hB => ?_)
      obtain ⟨rfl, hw_48⟩ := hp
      have hB : wf_B D wcl (wf_A w s.heap.size) s.heap (wf_l w [(u, .inr (4, [.ref o, .ref tf, .int (nI op2)])), (tf, .inl (t 0, 101, .inl (iA fb1))), (o, .inr (0, [.ref oi, .int (nI zc)])), (oi, .inl (t 0, 100, .inl rf1))]) H locs := wf_Bto hw_48 hB
      refine riastA X hB hN 1 (wl' := [(u, .inr (4, [.ref o, .ref tf, .int (nI op2)])), (tf, .inl (t 0, 101, .inl (iA (nu fb1 (q + 1) (maF fb1 cl zc (cl q) 101 (fb1 q)))))), (o, .inr (0, [.ref oi, .int (nI zc)])), (oi, .inl (t 0, 100, .inl rf1))]) rfl (i := q + 1) (by omega) (by decide) d_Txt_look_51 rfl (fun H locs hB => ?_)
      refine lv_iinc (v := nI (q + 1)) (lv' := [(3, .int (nI (q + 1))), (0, .ref u), (1, .int (nI op2)), (2, .ref co)]) hx hb d_Txt_look_52 hl (k := 3) rfl (show nI q + nI 1 = nI (q + 1) from nI_add _ _) (by decide) rfl (fun ls hl => ?_)
      refine lv_goto (tgt := 15) hx hb d_Txt_look_55 (by decide) ?_
      exact ih (q + 1) (nu fb1 (q + 1) (maF fb1 cl zc (cl q) 101 (fb1 q))) rf1 (by omega) (by refine ⟨fun j hj => ?_, ?_, fbOK_s (by omega) (by omega) hg.2.2 (by omega)⟩; (by_cases e9 : j = q + 1; (rw [nu_e e9]; exact maF_le hzc _ _); rw [nu_n e9]; exact hg.1 j hj); rw [nu_n (by omega)]; exact hg.2.1) (by exact hr1) (by omega) H locs ls (lv_sub hl [1, 2, 3, 0] rfl) hB
set_option maxHeartbeats 4000000 in
set_option maxRecDepth 100000 in
theorem c_Txt_look {l : Launch} {D : va_G} {t : Nat → ClassId} {w : wf_W} {sz : Nat} {u tf op o oi z : Nat} {rf : Nat → Int32} {fb cl : Nat → Nat} {co coi zc : Nat} {cof : Nat → Int32} {op2 : Nat} (hN : nd [u, tf, o, oi]) (hO : apart [co, coi] [u, tf, o, oi]) (hu : w u = some (.inr (4, [.ref o, .ref tf, .int (nI op)]))) (hT : w tf = some (.inl (t 0, 101, .inl (iA fb)))) (hR : w o = some (.inr (0, [.ref oi, .int (nI z)]))) (hI : w oi = some (.inl (t 0, 100, .inl rf))) (hCo : w co = some (.inr (0, [.ref coi, .int (nI zc)]))) (hCoi : w coi = some (.inl (t 0, 100, .inl cof))) (hzc : zc ≤ 100) (hcl : ∀ i, i < zc → cof i = nI (cl i) ∧ cl i < 4) (hfb : ∀ j, j ≤ 100 → fb j ≤ 100) (hf1 : fb 1 = 0) : Mv l y_Txt_look b_Txt_look 4 none 2 61 0 0 D t w sz [.ref u, .int (nI op2), .ref co] (fun w' => ∃ rf0 : Nat → Int32, ∃ fb0 : Nat → Nat, (∀ i, i < zc → rf0 i = nI (cl i) ∧ cl i < 4) ∧ ((∀ j, j ≤ 100 → fb0 j ≤ 100) ∧ fb0 1 = 0 ∧ fbOK cl fb0 zc) ∧ w' = wf_l w [(u, .inr (4, [.ref o, .ref tf, .int (nI op2)])), (tf, .inl (t 0, 101, .inl (iA fb0))), (o, .inr (0, [.ref oi, .int (nI zc)])), (oi, .inl (t 0, 100, .inl rf0))]) := by
  refine start_v (by decide) (Nat.le_of_ble_eq_true rfl) ?_
  intro p e s m below meth c ls H locs X hB hl
  have hx := X.1
  have hb := X.2.1
  have hl : lv_has ls 4 [(0, .ref u), (1, .int (nI op2)), (2, .ref co)] := hl
  have hB : wf_B D wcl (wf_A w s.heap.size) s.heap (wf_l w [(u, .inr (4, [.ref o, .ref tf, .int (nI op)])), (tf, .inl (t 0, 101, .inl (iA fb))), (o, .inr (0, [.ref oi, .int (nI z)])), (oi, .inl (t 0, 100, .inl rf))]) H locs := wf_Bto (wf_l4 hu hT hR hI).symm hB
  refine lv_aload_n hx hb d_Txt_look_0 rfl (lv_at hl 0 rfl) ?_
  refine lv_iload_n hx hb d_Txt_look_1 rfl (lv_at hl 1 rfl) ?_
  refine rput X hB hN 0 (wl' := [(u, .inr (4, [.ref o, .ref tf, .int (nI op2)])), (tf, .inl (t 0, 101, .inl (iA fb))), (o, .inr (0, [.ref oi, .int (nI z)])), (oi, .inl (t 0, 100, .inl rf))]) i_Txt t_Txt_ok n_Txt rfl cl_Txt 2 (by decide) k_210 rfl rfl rfl rfl (Nat.le_of_ble_eq_true rfl) d_Txt_look_2 rfl (fun H locs hB => ?_)
  refine lv_aload_n hx hb d_Txt_look_5 rfl (lv_at hl 0 rfl) ?_
  refine rgetL X hB hN 0 i_Txt rfl cl_Txt 0 (by decide) k_208 rfl rfl d_Txt_look_6 ?_
  refine lv_aload_n hx hb d_Txt_look_9 rfl (lv_at hl 2 rfl) ?_
  refine callVv (As := [.ref co]) (rest := []) X hB wf_hA (c_Row_copy (l := l) (D := D) (t := t) (w := (wf_l w [(u, .inr (4, [.ref o, .ref tf, .int (nI op2)])), (tf, .inl (t 0, 101, .inl (iA fb))), (o, .inr (0, [.ref oi, .int (nI z)])), (oi, .inl (t 0, 100, .inl rf))])) (sz := H.size) (o := o) (oi := oi) (z := z) (o2 := co) (oi2 := coi) (z2 := zc) (rf := rf) (rf2 := cof) (nd_sub hN [2, 3] rfl (by decide)) (apart_mk hN hO [4, 5] [2, 3] rfl rfl (by decide)) (wf_lg (w := w) (l := [(u, .inr (4, [.ref o, .ref tf, .int (nI op2)])), (tf, .inl (t 0, 101, .inl (iA fb))), (o, .inr (0, [.ref oi, .int (nI z)])), (oi, .inl (t 0, 100, .inl rf))]) hN 2 rfl) (wf_lg (w := w) (l := [(u, .inr (4, [.ref o, .ref tf, .int (nI op2)])), (tf, .inl (t 0, 101, .inl (iA fb))), (o, .inr (0, [.ref oi, .int (nI z)])), (oi, .inl (t 0, 100, .inl rf))]) hN 3 rfl) (wf_ro (w := w) (wl := [(u, .inr (4, [.ref o, .ref tf, .int (nI op2)])), (tf, .inl (t 0, 101, .inl (iA fb))), (o, .inr (0, [.ref oi, .int (nI z)])), (oi, .inl (t 0, 100, .inl rf))]) hO 0 rfl hCo) (wf_ro (w := w) (wl := [(u, .inr (4, [.ref o, .ref tf, .int (nI op2)])), (tf, .inl (t 0, 101, .inl (iA fb))), (o, .inr (0, [.ref oi, .int (nI z)])), (oi, .inl (t 0, 100, .inl rf))]) hO 1 rfl hCoi)) k_343 k_344 k_345 k_66 k_346 (wf_lg (w := w) (l := [(u, .inr (4, [.ref o, .ref tf, .int (nI op2)])), (tf, .inl (t 0, 101, .inl (iA fb))), (o, .inr (0, [.ref oi, .int (nI z)])), (oi, .inl (t 0, 100, .inl rf))]) hN 2 rfl) cl_Row rfl hd_Row_copy ⟨Nat.le_of_ble_eq_true rfl, Nat.le_of_ble_eq_true rfl⟩ ⟨Nat.le_of_ble_eq_true rfl, Nat.le_of_ble_eq_true rfl⟩ hl.1 (Nat.le_of_ble_eq_true rfl) d_Txt_look_10 rfl (fun w1 H locs hp hB => ?_)
  obtain ⟨g0_10, hg0_10, hw_10⟩ := hp
  have hB : wf_B D wcl (wf_A w s.heap.size) s.heap (wf_l w [(u, .inr (4, [.ref o, .ref tf, .int (nI op2)])), (tf, .inl (t 0, 101, .inl (iA fb))), (o, .inr (0, [.ref oi, .int (nI zc)])), (oi, .inl (t 0, 100, .inl g0_10))]) H locs := wf_Bto (hw_10.trans (wlw (L1 := [(u, .inr (4, [.ref o, .ref tf, .int (nI op2)])), (tf, .inl (t 0, 101, .inl (iA fb))), (o, .inr (0, [.ref oi, .int (nI zc)])), (oi, .inl (t 0, 100, .inl rf))]) hN 2 rfl rfl (wlw (L1 := [(u, .inr (4, [.ref o, .ref tf, .int (nI op2)])), (tf, .inl (t 0, 101, .inl (iA fb))), (o, .inr (0, [.ref oi, .int (nI zc)])), (oi, .inl (t 0, 100, .inl g0_10))]) hN 3 rfl rfl rfl))) hB
  refine lv_iconst (v := nI 1) hx hb d_Txt_look_13 (by decide) ?_
  refine lv_istore_n (lv' := [(3, .int (nI 1)), (0, .ref u), (1, .int (nI op2)), (2, .ref co)]) hx hb d_Txt_look_14 rfl hl (by decide) rfl (fun ls hl => ?_)
  refine c_Txt_look_L15 (l := l) X hN hO hu hT hR hI hCo hCoi hzc hcl hfb hf1 (fun q fb1 rf1 hq hg hr1 he H locs ls hl hB => ?_) (zc - 1 + 1) 1 fb g0_10 (by omega) (by exact ⟨hfb, hf1, fbOK_1 hf1⟩) (by intro i1 h1; rw [hg0_10 i1 (by omega)]; exact hcl i1 h1) (by omega) H locs ls (lv_sub hl [1, 2, 3, 0] rfl) hB
  refine ret_v X hB d_Txt_look_58 ?_
  exact ⟨rf1, fb1, hr1, ⟨hg.1, hg.2.1, fun m h1 h2 => hg.2.2 m h1 (by omega)⟩, rfl⟩
set_option maxHeartbeats 4000000 in
set_option maxRecDepth 100000 in
theorem c_Txt_first {l : Launch} {D : va_G} {t : Nat → ClassId} {w : wf_W} {sz : Nat} {u tf op o : Nat} (hu : w u = some (.inr (4, [.ref o, .ref tf, .int (nI op)]))) : Ml l y_Txt_first b_Txt_first 1 (some .long) 0 0 0 0 D t w sz [.ref u] (fun r w' => r = (lN 0) ∧ w' = w) := by
  refine start_l (by decide) (Nat.le_of_ble_eq_true rfl) ?_
  intro p e s m below meth c ls H locs X hB hl
  have hx := X.1
  have hb := X.2.1
  have hl : lv_has ls 1 [(0, .ref u)] := hl
  refine lv_lconst (v := lN 0) hx hb d_Txt_first_0 (by decide) ?_
  refine ret_l X hB d_Txt_first_1 ?_
  exact ⟨rfl, rfl⟩
set_option maxHeartbeats 4000000 in
set_option maxRecDepth 100000 in
theorem c_Txt_after {l : Launch} {D : va_G} {t : Nat → ClassId} {w : wf_W} {sz : Nat} {u tf op o oi z : Nat} {rf : Nat → Int32} {fb cl : Nat → Nat} {S a : Nat} (hu : w u = some (.inr (4, [.ref o, .ref tf, .int (nI op)]))) (hT : w tf = some (.inl (t 0, 101, .inl (iA fb)))) (hR : w o = some (.inr (0, [.ref oi, .int (nI z)]))) (hI : w oi = some (.inl (t 0, 100, .inl rf))) (hz : z ≤ 100) (hr : ∀ i, i < z → rf i = nI (cl i) ∧ cl i < 4) (hfb : ∀ j, j ≤ 100 → fb j ≤ 100) (hop : op < 4) (hS : S < 102) (ha : a < 4) : Ml l y_Txt_after b_Txt_after 6 (some .long) 2 45 0 0 D t w sz [.ref u, .long (lN S), .int (nI a)] (fun r w' => r = (lN (tAf fb cl z op S a)) ∧ w' = w) := by
  refine start_l (by decide) (Nat.le_of_ble_eq_true rfl) ?_
  intro p e s m below meth c ls H locs X hB hl
  have hx := X.1
  have hb := X.2.1
  have hl : lv_has ls 6 [(0, .ref u), (1, .long (lN S)), (3, .int (nI a))] := hl
  refine lv_lload_n hx hb d_Txt_after_0 rfl (lv_at hl 1 rfl) ?_
  refine lv_l2i (v := nI S) hx hb d_Txt_after_1 (lN_i _) ?_
  refine lv_istore (lv' := [(4, .int (nI S)), (0, .ref u), (1, .long (lN S)), (3, .int (nI a))]) hx hb d_Txt_after_2 hl (by decide) rfl (fun ls hl => ?_)
  refine lv_iload hx hb d_Txt_after_4 (lv_at hl 0 rfl) ?_
  refine lv_aload_n hx hb d_Txt_after_6 rfl (lv_at hl 1 rfl) ?_
  refine rget X hB  i_Txt hu cl_Txt 0 (by decide) k_208 rfl rfl d_Txt_after_7 ?_
  refine rgetN X hB  i_Row hR cl_Row 1 (by decide) k_101 rfl rfl d_Txt_after_10 ?_
  refine wf_cne (tgt := 20) hx hb d_Txt_after_13 (by decide) (nI_toInt (by omega)) (nI_toInt (by omega)) (fun c_13 => ?_) (fun c_13 => ?_)
  · refine lv_iconst (v := nI 0) hx hb d_Txt_after_20 (by decide) ?_
    refine lv_istore (lv' := [(5, .int (nI 0)), (4, .int (nI S)), (0, .ref u), (1, .long (lN S)), (3, .int (nI a))]) hx hb d_Txt_after_21 hl (by decide) rfl (fun ls hl => ?_)
    refine lv_iload hx hb d_Txt_after_23 (lv_at hl 0 rfl) ?_
    refine wf_zeq (tgt := 48) hx hb d_Txt_after_25 (by decide) (nI_toInt (by omega)) (fun c_25 => ?_) (fun c_25 => absurd c_25 (by decide))
    refine lv_aload_n hx hb d_Txt_after_48 rfl (lv_at hl 2 rfl) ?_
    refine rget X hB  i_Txt hu cl_Txt 2 (by decide) k_210 rfl rfl d_Txt_after_49 ?_
    refine wf_zeq (tgt := 63) hx hb d_Txt_after_52 (by decide) (nI_toInt (by omega)) (fun c_52 => ?_) (fun c_52 => ?_)
    · refine lv_aload_n hx hb d_Txt_after_63 rfl (lv_at hl 2 rfl) ?_
      refine lv_iload hx hb d_Txt_after_64 (lv_at hl 1 rfl) ?_
      refine lv_iload_n hx hb d_Txt_after_66 rfl (lv_at hl 4 rfl) ?_
      refine callVi (As := [.int (nI S), .int (nI a)]) (rest := []) X hB wf_hA (c_Txt_metAhead (l := l) (D := D) (t := t) (w := w) (sz := H.size) (u := u) (tf := tf) (op := op) (o := o) (oi := oi) (z := z) (rf := rf) (cl := cl) (q := S) (a := a) hu hR hI (by exact hz) (by exact hr) (by exact hS) (by exact ha)) k_475 k_477 k_6 k_71 k_478 hu cl_Txt rfl hd_Txt_metAhead ⟨Nat.le_of_ble_eq_true rfl, Nat.le_of_ble_eq_true rfl⟩ ⟨Nat.le_of_ble_eq_true rfl, Nat.le_of_ble_eq_true rfl⟩ hl.1 (Nat.le_of_ble_eq_true rfl) d_Txt_after_67 rfl (fun r_67 w1 H locs hp hB => ?_)
      obtain ⟨rfl, hw_67⟩ := hp
      have hB : wf_B D wcl (wf_A w s.heap.size) s.heap w H locs := wf_Bto hw_67 hB
      refine lv_i2l (v := lN (if S < z ∧ cl S = a then S + 1 else 101)) hx hb d_Txt_after_70 (nI_l (by split <;> omega)) ?_
      refine lv_goto (tgt := 82) hx hb d_Txt_after_71 (by decide) ?_
      refine ret_l X hB d_Txt_after_82 ?_
      exact ⟨congrArg lN (Eq.symm (by rw [tAf, if_neg (show ¬ (S = z ∧ (op = 1 ∨ op = 3)) by omega), if_pos (show op = 0 ∨ op = 1 by omega)])), rfl⟩
    · refine lv_aload_n hx hb d_Txt_after_55 rfl (lv_at hl 2 rfl) ?_
      refine rget X hB  i_Txt hu cl_Txt 2 (by decide) k_210 rfl rfl d_Txt_after_56 ?_
      refine lv_iconst (v := nI 1) hx hb d_Txt_after_59 (by decide) ?_
      refine wf_cne (tgt := 74) hx hb d_Txt_after_60 (by decide) (nI_toInt (by omega)) (nI_toInt (by omega)) (fun c_60 => ?_) (fun c_60 => ?_)
      · refine lv_aload_n hx hb d_Txt_after_74 rfl (lv_at hl 2 rfl) ?_
        refine lv_iload hx hb d_Txt_after_75 (lv_at hl 1 rfl) ?_
        refine lv_iload_n hx hb d_Txt_after_77 rfl (lv_at hl 4 rfl) ?_
        refine callVi (As := [.int (nI S), .int (nI a)]) (rest := []) X hB wf_hA (c_Txt_metAnywhere (l := l) (D := D) (t := t) (w := w) (sz := H.size) (u := u) (tf := tf) (op := op) (o := o) (oi := oi) (z := z) (rf := rf) (fb := fb) (cl := cl) (q := S) (a := a) hu hT hR hI (by exact hz) (by exact hr) (by exact hfb) (by exact hS) (by exact ha)) k_354 k_356 k_1 k_71 k_357 hu cl_Txt rfl hd_Txt_metAnywhere ⟨Nat.le_of_ble_eq_true rfl, Nat.le_of_ble_eq_true rfl⟩ ⟨Nat.le_of_ble_eq_true rfl, Nat.le_of_ble_eq_true rfl⟩ hl.1 (Nat.le_of_ble_eq_true rfl) d_Txt_after_78 rfl (fun r_78 w1 H locs hp hB => ?_)
        obtain ⟨rfl, hw_78⟩ := hp
        have hB : wf_B D wcl (wf_A w s.heap.size) s.heap w H locs := wf_Bto hw_78 hB
        refine lv_i2l (v := lN (maF fb cl z a 101 S)) hx hb d_Txt_after_81 (nI_l (by have := maF_le (fb := fb) (cl := cl) (a := a) hz 101 S; omega)) ?_
        refine ret_l X hB d_Txt_after_82 ?_
        exact ⟨congrArg lN (Eq.symm (by rw [tAf, if_neg (show ¬ (S = z ∧ (op = 1 ∨ op = 3)) by omega), if_neg (show ¬ (op = 0 ∨ op = 1) by omega)])), rfl⟩
      · refine lv_aload_n hx hb d_Txt_after_63 rfl (lv_at hl 2 rfl) ?_
        refine lv_iload hx hb d_Txt_after_64 (lv_at hl 1 rfl) ?_
        refine lv_iload_n hx hb d_Txt_after_66 rfl (lv_at hl 4 rfl) ?_
        refine callVi (As := [.int (nI S), .int (nI a)]) (rest := []) X hB wf_hA (c_Txt_metAhead (l := l) (D := D) (t := t) (w := w) (sz := H.size) (u := u) (tf := tf) (op := op) (o := o) (oi := oi) (z := z) (rf := rf) (cl := cl) (q := S) (a := a) hu hR hI (by exact hz) (by exact hr) (by exact hS) (by exact ha)) k_475 k_477 k_6 k_71 k_478 hu cl_Txt rfl hd_Txt_metAhead ⟨Nat.le_of_ble_eq_true rfl, Nat.le_of_ble_eq_true rfl⟩ ⟨Nat.le_of_ble_eq_true rfl, Nat.le_of_ble_eq_true rfl⟩ hl.1 (Nat.le_of_ble_eq_true rfl) d_Txt_after_67 rfl (fun r_67 w1 H locs hp hB => ?_)
        obtain ⟨rfl, hw_67⟩ := hp
        have hB : wf_B D wcl (wf_A w s.heap.size) s.heap w H locs := wf_Bto hw_67 hB
        refine lv_i2l (v := lN (if S < z ∧ cl S = a then S + 1 else 101)) hx hb d_Txt_after_70 (nI_l (by split <;> omega)) ?_
        refine lv_goto (tgt := 82) hx hb d_Txt_after_71 (by decide) ?_
        refine ret_l X hB d_Txt_after_82 ?_
        exact ⟨congrArg lN (Eq.symm (by rw [tAf, if_neg (show ¬ (S = z ∧ (op = 1 ∨ op = 3)) by omega), if_pos (show op = 0 ∨ op = 1 by omega)])), rfl⟩
  · refine lv_iconst (v := nI 1) hx hb d_Txt_after_16 (by decide) ?_
    refine lv_goto (tgt := 21) hx hb d_Txt_after_17 (by decide) ?_
    refine lv_istore (lv' := [(5, .int (nI 1)), (4, .int (nI S)), (0, .ref u), (1, .long (lN S)), (3, .int (nI a))]) hx hb d_Txt_after_21 hl (by decide) rfl (fun ls hl => ?_)
    refine lv_iload hx hb d_Txt_after_23 (lv_at hl 0 rfl) ?_
    refine wf_zeq (tgt := 48) hx hb d_Txt_after_25 (by decide) (nI_toInt (by omega)) (fun c_25 => absurd c_25 (by decide)) (fun c_25 => ?_)
    refine lv_aload_n hx hb d_Txt_after_28 rfl (lv_at hl 2 rfl) ?_
    refine rget X hB  i_Txt hu cl_Txt 2 (by decide) k_210 rfl rfl d_Txt_after_29 ?_
    refine lv_iconst (v := nI 1) hx hb d_Txt_after_32 (by decide) ?_
    refine wf_ceq (tgt := 44) hx hb d_Txt_after_33 (by decide) (nI_toInt (by omega)) (nI_toInt (by omega)) (fun c_33 => ?_) (fun c_33 => ?_)
    · refine lv_iload hx hb d_Txt_after_44 (lv_at hl 1 rfl) ?_
      refine lv_i2l (v := lN S) hx hb d_Txt_after_46 (nI_l (by omega)) ?_
      refine ret_l X hB d_Txt_after_47 ?_
      exact ⟨congrArg lN (Eq.symm (by rw [tAf, if_pos (show S = z ∧ (op = 1 ∨ op = 3) by omega)])), rfl⟩
    · refine lv_aload_n hx hb d_Txt_after_36 rfl (lv_at hl 2 rfl) ?_
      refine rget X hB  i_Txt hu cl_Txt 2 (by decide) k_210 rfl rfl d_Txt_after_37 ?_
      refine lv_iconst (v := nI 3) hx hb d_Txt_after_40 (by decide) ?_
      refine wf_cne (tgt := 48) hx hb d_Txt_after_41 (by decide) (nI_toInt (by omega)) (nI_toInt (by omega)) (fun c_41 => ?_) (fun c_41 => ?_)
      · refine lv_aload_n hx hb d_Txt_after_48 rfl (lv_at hl 2 rfl) ?_
        refine rget X hB  i_Txt hu cl_Txt 2 (by decide) k_210 rfl rfl d_Txt_after_49 ?_
        refine wf_zeq (tgt := 63) hx hb d_Txt_after_52 (by decide) (nI_toInt (by omega)) (fun c_52 => ?_) (fun c_52 => ?_)
        · refine lv_aload_n hx hb d_Txt_after_63 rfl (lv_at hl 2 rfl) ?_
          refine lv_iload hx hb d_Txt_after_64 (lv_at hl 1 rfl) ?_
          refine lv_iload_n hx hb d_Txt_after_66 rfl (lv_at hl 4 rfl) ?_
          refine callVi (As := [.int (nI S), .int (nI a)]) (rest := []) X hB wf_hA (c_Txt_metAhead (l := l) (D := D) (t := t) (w := w) (sz := H.size) (u := u) (tf := tf) (op := op) (o := o) (oi := oi) (z := z) (rf := rf) (cl := cl) (q := S) (a := a) hu hR hI (by exact hz) (by exact hr) (by exact hS) (by exact ha)) k_475 k_477 k_6 k_71 k_478 hu cl_Txt rfl hd_Txt_metAhead ⟨Nat.le_of_ble_eq_true rfl, Nat.le_of_ble_eq_true rfl⟩ ⟨Nat.le_of_ble_eq_true rfl, Nat.le_of_ble_eq_true rfl⟩ hl.1 (Nat.le_of_ble_eq_true rfl) d_Txt_after_67 rfl (fun r_67 w1 H locs hp hB => ?_)
          obtain ⟨rfl, hw_67⟩ := hp
          have hB : wf_B D wcl (wf_A w s.heap.size) s.heap w H locs := wf_Bto hw_67 hB
          refine lv_i2l (v := lN (if S < z ∧ cl S = a then S + 1 else 101)) hx hb d_Txt_after_70 (nI_l (by split <;> omega)) ?_
          refine lv_goto (tgt := 82) hx hb d_Txt_after_71 (by decide) ?_
          refine ret_l X hB d_Txt_after_82 ?_
          exact ⟨congrArg lN (Eq.symm (by rw [tAf, if_neg (show ¬ (S = z ∧ (op = 1 ∨ op = 3)) by omega), if_pos (show op = 0 ∨ op = 1 by omega)])), rfl⟩
        · refine lv_aload_n hx hb d_Txt_after_55 rfl (lv_at hl 2 rfl) ?_
          refine rget X hB  i_Txt hu cl_Txt 2 (by decide) k_210 rfl rfl d_Txt_after_56 ?_
          refine lv_iconst (v := nI 1) hx hb d_Txt_after_59 (by decide) ?_
          refine wf_cne (tgt := 74) hx hb d_Txt_after_60 (by decide) (nI_toInt (by omega)) (nI_toInt (by omega)) (fun c_60 => ?_) (fun c_60 => ?_)
          · refine lv_aload_n hx hb d_Txt_after_74 rfl (lv_at hl 2 rfl) ?_
            refine lv_iload hx hb d_Txt_after_75 (lv_at hl 1 rfl) ?_
            refine lv_iload_n hx hb d_Txt_after_77 rfl (lv_at hl 4 rfl) ?_
            refine callVi (As := [.int (nI S), .int (nI a)]) (rest := []) X hB wf_hA (c_Txt_metAnywhere (l := l) (D := D) (t := t) (w := w) (sz := H.size) (u := u) (tf := tf) (op := op) (o := o) (oi := oi) (z := z) (rf := rf) (fb := fb) (cl := cl) (q := S) (a := a) hu hT hR hI (by exact hz) (by exact hr) (by exact hfb) (by exact hS) (by exact ha)) k_354 k_356 k_1 k_71 k_357 hu cl_Txt rfl hd_Txt_metAnywhere ⟨Nat.le_of_ble_eq_true rfl, Nat.le_of_ble_eq_true rfl⟩ ⟨Nat.le_of_ble_eq_true rfl, Nat.le_of_ble_eq_true rfl⟩ hl.1 (Nat.le_of_ble_eq_true rfl) d_Txt_after_78 rfl (fun r_78 w1 H locs hp hB => ?_)
            obtain ⟨rfl, hw_78⟩ := hp
            have hB : wf_B D wcl (wf_A w s.heap.size) s.heap w H locs := wf_Bto hw_78 hB
            refine lv_i2l (v := lN (maF fb cl z a 101 S)) hx hb d_Txt_after_81 (nI_l (by have := maF_le (fb := fb) (cl := cl) (a := a) hz 101 S; omega)) ?_
            refine ret_l X hB d_Txt_after_82 ?_
            exact ⟨congrArg lN (Eq.symm (by rw [tAf, if_neg (show ¬ (S = z ∧ (op = 1 ∨ op = 3)) by omega), if_neg (show ¬ (op = 0 ∨ op = 1) by omega)])), rfl⟩
          · refine lv_aload_n hx hb d_Txt_after_63 rfl (lv_at hl 2 rfl) ?_
            refine lv_iload hx hb d_Txt_after_64 (lv_at hl 1 rfl) ?_
            refine lv_iload_n hx hb d_Txt_after_66 rfl (lv_at hl 4 rfl) ?_
            refine callVi (As := [.int (nI S), .int (nI a)]) (rest := []) X hB wf_hA (c_Txt_metAhead (l := l) (D := D) (t := t) (w := w) (sz := H.size) (u := u) (tf := tf) (op := op) (o := o) (oi := oi) (z := z) (rf := rf) (cl := cl) (q := S) (a := a) hu hR hI (by exact hz) (by exact hr) (by exact hS) (by exact ha)) k_475 k_477 k_6 k_71 k_478 hu cl_Txt rfl hd_Txt_metAhead ⟨Nat.le_of_ble_eq_true rfl, Nat.le_of_ble_eq_true rfl⟩ ⟨Nat.le_of_ble_eq_true rfl, Nat.le_of_ble_eq_true rfl⟩ hl.1 (Nat.le_of_ble_eq_true rfl) d_Txt_after_67 rfl (fun r_67 w1 H locs hp hB => ?_)
            obtain ⟨rfl, hw_67⟩ := hp
            have hB : wf_B D wcl (wf_A w s.heap.size) s.heap w H locs := wf_Bto hw_67 hB
            refine lv_i2l (v := lN (if S < z ∧ cl S = a then S + 1 else 101)) hx hb d_Txt_after_70 (nI_l (by split <;> omega)) ?_
            refine lv_goto (tgt := 82) hx hb d_Txt_after_71 (by decide) ?_
            refine ret_l X hB d_Txt_after_82 ?_
            exact ⟨congrArg lN (Eq.symm (by rw [tAf, if_neg (show ¬ (S = z ∧ (op = 1 ∨ op = 3)) by omega), if_pos (show op = 0 ∨ op = 1 by omega)])), rfl⟩
      · refine lv_iload hx hb d_Txt_after_44 (lv_at hl 1 rfl) ?_
        refine lv_i2l (v := lN S) hx hb d_Txt_after_46 (nI_l (by omega)) ?_
        refine ret_l X hB d_Txt_after_47 ?_
        exact ⟨congrArg lN (Eq.symm (by rw [tAf, if_pos (show S = z ∧ (op = 1 ∨ op = 3) by omega)])), rfl⟩
set_option maxHeartbeats 4000000 in
set_option maxRecDepth 100000 in
theorem c_Txt_isLast {l : Launch} {D : va_G} {t : Nat → ClassId} {w : wf_W} {sz : Nat} {u tf op o oi z : Nat} {S : Nat} (hu : w u = some (.inr (4, [.ref o, .ref tf, .int (nI op)]))) (hR : w o = some (.inr (0, [.ref oi, .int (nI z)]))) (hz : z ≤ 100) (hS : S < 102) : Mi l y_Txt_isLast b_Txt_isLast 3 (some .boolean) 0 0 0 0 D t w sz [.ref u, .long (lN S)] (fun r w' => r = (bI (decide (S = z))) ∧ w' = w) := by
  refine start_i (by decide) (Nat.le_of_ble_eq_true rfl) ?_
  intro p e s m below meth c ls H locs X hB hl
  have hx := X.1
  have hb := X.2.1
  have hl : lv_has ls 3 [(0, .ref u), (1, .long (lN S))] := hl
  refine lv_lload_n hx hb d_Txt_isLast_0 rfl (lv_at hl 1 rfl) ?_
  refine lv_aload_n hx hb d_Txt_isLast_1 rfl (lv_at hl 0 rfl) ?_
  refine rget X hB  i_Txt hu cl_Txt 0 (by decide) k_208 rfl rfl d_Txt_isLast_2 ?_
  refine rgetN X hB  i_Row hR cl_Row 1 (by decide) k_101 rfl rfl d_Txt_isLast_5 ?_
  refine lv_i2l (v := lN z) hx hb d_Txt_isLast_8 (nI_l (by omega)) ?_
  refine W.lcmp hx hb d_Txt_isLast_9 ?_
  refine wf_lne (tgt := 17) hx hb d_Txt_isLast_10 (by decide) (pk_lT (by omega)) (pk_lT (by omega)) (fun c_10 => ?_) (fun c_10 => ?_)
  · refine lv_iconst (v := nI 0) hx hb d_Txt_isLast_17 (by decide) ?_
    refine wf_ti (y := bI false) rfl ?_
    refine ret_z X hB d_Txt_isLast_18 ?_
    exact ⟨congrArg bI (Bool.eq_iff_iff.mpr (by simp only [decide_eq_true_eq, Bool.false_eq_true, true_iff, false_iff]; omega)), rfl⟩
  · refine lv_iconst (v := nI 1) hx hb d_Txt_isLast_13 (by decide) ?_
    refine lv_goto (tgt := 18) hx hb d_Txt_isLast_14 (by decide) ?_
    refine wf_ti (y := bI true) rfl ?_
    refine ret_z X hB d_Txt_isLast_18 ?_
    exact ⟨congrArg bI (Bool.eq_iff_iff.mpr (by simp only [decide_eq_true_eq, Bool.false_eq_true, true_iff, false_iff]; omega)), rfl⟩
