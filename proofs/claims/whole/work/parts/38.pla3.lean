/-- the laying down of a machine, p places through -/
def ldI (k cn : Nat) (K L : Nat → Nat) (Z : Nat → Bool) (f : Nat → Int32) (E p sc : Nat) : Prop := sc ≤ cn ∧ (∀ q, q < p → K q < sc) ∧ (∀ x, x < sc → ∃ q, q < p ∧ K q = x) ∧ (∀ q a, q < p → a < k → f (K q * 4 + a) = nI (K (L (q * 4 + a)))) ∧ (∀ x a, x < 40 → k ≤ a → a < 4 → f (x * 4 + a) = nI 0) ∧ (∀ q, q < p → E.testBit (K q) = Z q) ∧ E < 2 ^ sc
theorem ldI_0 {k cn : Nat} {K L : Nat → Nat} {Z : Nat → Bool} {f : Nat → Int32} (h : ∀ j, j < 160 → f j = nI 0) : ldI k cn K L Z f 0 0 0 := ⟨Nat.zero_le _, fun q h => absurd h (by omega), fun q h => absurd h (by omega), fun q a h => absurd h (by omega), fun x a _ _ _ => h _ (by omega), fun q h => absurd h (by omega), by simp⟩
theorem ldI_old {k z cn : Nat} {K L mk : Nat → Nat} {Z : Nat → Bool} {f : Nat → Int32} {E p sc : Nat} (h : ldI k cn K L Z f E p sc) (hfo : foN mk K z cn) (hco : ∀ p q, p < z → q < z → K p = K q → Z p = Z q ∧ ∀ a, a < k → K (L (p * 4 + a)) = K (L (q * 4 + a))) (hp : p < z) (hne : K p ≠ sc) : ldI k cn K L Z f E (p + 1) sc := by
  obtain ⟨h1, h2, h3, h4, h5, h6, h7⟩ := h
  have hlt : K p < sc := by
    rcases Nat.lt_trichotomy (K p) sc with q | q | q
    · exact q
    · exact absurd q hne
    · obtain ⟨q', g1, g2⟩ := hfo.2.2.1 p hp sc q
      have := h2 q' g1
      omega
  obtain ⟨r, r1, r2⟩ := h3 (K p) hlt
  have hr := hco p r hp (by omega) r2.symm
  refine ⟨h1, fun q hq => ?_, fun x hx => ?_, fun q a hq ha => ?_, h5, fun q hq => ?_, h7⟩
  · by_cases e : q = p
    · rw [e]; exact hlt
    · exact h2 q (by omega)
  · obtain ⟨q, g1, g2⟩ := h3 x hx
    exact ⟨q, by omega, g2⟩
  · by_cases e : q = p
    · rw [e, ← r2, h4 r a r1 ha, hr.2 a ha]
    · exact h4 q a (by omega) ha
  · by_cases e : q = p
    · rw [e, ← r2, h6 r r1, hr.1]
    · exact h6 q (by omega)
theorem ldI_new {k z cn : Nat} {K L mk : Nat → Nat} {Z : Nat → Bool} {f f2 : Nat → Int32} {E p sc : Nat} (hk : k ≤ 4) (h : ldI k cn K L Z f E p sc) (hfo : foN mk K z cn) (hp : p < z) (he : K p = sc) (hf1 : ∀ a, a < k → f2 (sc * 4 + a) = nI (K (L (p * 4 + a)))) (hf2 : ∀ x, (∀ a, a < k → x ≠ sc * 4 + a) → f2 x = f x) : ldI k cn K L Z f2 (E ||| (if Z p = true then 2 ^ sc else 0)) (p + 1) (sc + 1) := by
  obtain ⟨h1, h2, h3, h4, h5, h6, h7⟩ := h
  have hc := hfo.1 p hp
  refine ⟨by omega, fun q hq => ?_, fun x hx => ?_, fun q a hq ha => ?_, fun x a hx ha ha4 => ?_, fun q hq => ?_, ?_⟩
  · by_cases e : q = p
    · rw [e]; omega
    · have := h2 q (by omega); omega
  · by_cases e : x = sc
    · exact ⟨p, by omega, by omega⟩
    · obtain ⟨q, g1, g2⟩ := h3 x (by omega)
      exact ⟨q, by omega, g2⟩
  · by_cases e : q = p
    · rw [e, he]; exact hf1 a ha
    · have := h2 q (by omega)
      rw [hf2 _ (fun b hb => by omega)]
      exact h4 q a (by omega) ha
  · rw [hf2 _ (fun b hb => by omega)]
    exact h5 x a hx ha ha4
  · by_cases e : q = p
    · rw [e, he, Nat.testBit_or, Nat.testBit_lt_two_pow h7]
      cases Z p <;> simp
    · have := h2 q (by omega)
      rw [Nat.testBit_or, h6 q (by omega)]
      split
      · rw [Nat.testBit_two_pow]
        simp
        omega
      · simp
  · refine Nat.or_lt_two_pow (Nat.lt_of_lt_of_le h7 (Nat.pow_le_pow_right (by decide) (by omega))) ?_
    split
    · exact Nat.pow_lt_pow_right (by decide) (by omega)
    · exact Nat.two_pow_pos _
/-- the machine that was laid down -/
theorem ldI_end {k z cn : Nat} {K L mk : Nat → Nat} {Z : Nat → Bool} {f : Nat → Int32} {E sc : Nat} (hk : k ≤ 4) (hc : 1 ≤ cn ∧ cn ≤ 40) (hLz : ∀ p a, p < z → a < k → L (p * 4 + a) < z) (h : ldI k cn K L Z f E z sc) (hfo : foN mk K z cn) : E < 2 ^ cn ∧ ∃ st : Nat → Nat → Nat, mOK k cn E f st ∧ (∀ p a, p < z → a < k → st (K p) a = K (L (p * 4 + a))) ∧ ∀ p, p < z → E.testBit (K p) = Z p := by
  obtain ⟨h1, h2, h3, h4, h5, h6, h7⟩ := h
  have hE : E < 2 ^ cn := Nat.lt_of_lt_of_le h7 (Nat.pow_le_pow_right (by decide) h1)
  have hch : ∀ x, ∃ p, x < cn → p < z ∧ K p = x := fun x => by
    by_cases hx : x < cn
    · obtain ⟨p, g1, g2⟩ := hfo.2.2.2 x hx
      exact ⟨p, fun _ => ⟨g1, g2⟩⟩
    · exact ⟨0, fun e => absurd e hx⟩
  obtain ⟨r, hr⟩ := Classical.axiomOfChoice hch
  refine ⟨hE, fun s a => K (L (r s * 4 + a)), ⟨hk, hc.2, hc.1, hE, fun s a hs ha => ?_, fun s a hs ha ha4 => h5 s a (by omega) ha ha4⟩, fun p a hp ha => ?_, h6⟩
  · have hs2 := hr s hs
    have := h4 (r s) a hs2.1 ha
    rw [hs2.2] at this
    exact ⟨this, hfo.1 _ (hLz _ a hs2.1 ha)⟩
  · have hs2 := hr (K p) (hfo.1 p hp)
    have a1 := h4 (r (K p)) a hs2.1 ha
    have a2 := h4 p a hp ha
    rw [hs2.2] at a1
    rw [a1] at a2
    have b1 := hfo.1 _ (hLz _ a hs2.1 ha)
    have b2 := hfo.1 _ (hLz _ a hp ha)
    show K (L (r (K p) * 4 + a)) = K (L (p * 4 + a))
    exact (nI_eq (by omega) (by omega)).mp a2
set_option maxHeartbeats 4000000 in
set_option maxRecDepth 100000 in
theorem c_Pla_layDown_L58 {l : Launch} {D : va_G} {t : Nat → ClassId} {w : wf_W} {g pf pl pz pk pn pm k z : Nat} {L K : Nat → Nat} {Z : Nat → Bool} {h hs n E cn : Nat} {f : Nat → Int32} {mk : Nat → Nat} {q sc E1 : Nat} {f1 : Nat → Int32} {p : Program} {e : Env} {s : State} {m : MethodId} {below : List Frame} {meth : Method} {c : Code} {Q : State → Prop} (X : Cx p s m meth c R_Pla "layDown" b_Pla_layDown 8 none D t) (hN : nd [g, pl, pz, pk, h, hs]) (hP : w g = some (.inr (2, [.int (nI k), .ref pf, .ref pl, .ref pz, .ref pk, .ref pn, .ref pm, .int (nI z)]))) (hPl : w pl = some (.inl (t 0, 800, .inl (iA L)))) (hPz : w pz = some (.inl (t 2, 200, .inl (zA Z)))) (hPk : w pk = some (.inl (t 0, 200, .inl (iA K)))) (hM : w h = some (.inr (1, [.int (nI k), .ref hs, .int (nI n), .long (lN E)]))) (hF : w hs = some (.inl (t 0, 40, .inl (pkA f)))) (hk : k ≤ 4) (hz : z ≤ 200) (hLz : ∀ p a, p < z → a < k → L (p * 4 + a) < z) (hcn : 1 ≤ cn ∧ cn ≤ 40) (hfo : foN mk K z cn) (hco : ∀ p q, p < z → q < z → K p = K q → Z p = Z q ∧ ∀ a, a < k → K (L (p * 4 + a)) = K (L (q * 4 + a))) (hq : q < z) (hks : K q = sc) (hsc : sc < cn)
    (K_89 : ∀ (j : Nat) (f2 : Nat → Int32), (j ≤ k) → (∀ a, a < j → f2 (sc * 4 + a) = nI (K (L (q * 4 + a)))) → (∀ x, (∀ a, a < j → x ≠ sc * 4 + a) → f2 x = f1 x) → (j = k) → ∀ (H : Heap) (locs : List Loc) (ls : Array Slot), lv_has ls 8 [(0, .ref g), (1, .ref h), (2, .int (nI cn)), (3, .long (lN (E1 ||| (if Z q = true then 2 ^ sc else 0)))), (5, .int (nI sc)), (6, .int (nI q)), (7, .int (nI j))] → wf_B D wcl (wf_A w s.heap.size) s.heap (wf_l w [(g, .inr (2, [.int (nI k), .ref pf, .ref pl, .ref pz, .ref pk, .ref pn, .ref pm, .int (nI z)])), (pl, .inl (t 0, 800, .inl (iA L))), (pz, .inl (t 2, 200, .inl (zA Z))), (pk, .inl (t 0, 200, .inl (iA K))), (h, .inr (1, [.int (nI k), .ref hs, .int (nI cn), .long (lN 0)])), (hs, .inl (t 0, 40, .inl (pkA f2)))]) H locs → W p l e (rmk 2 52 0 0) s m [.ref g, .ref h, .int (nI cn)].toArray below meth c H locs 0 0 Q (F0 m 89 ls [])) :
    ∀ (fu : Nat) (j : Nat) (f2 : Nat → Int32), (j ≤ k) → (∀ a, a < j → f2 (sc * 4 + a) = nI (K (L (q * 4 + a)))) → (∀ x, (∀ a, a < j → x ≠ sc * 4 + a) → f2 x = f1 x) → k - j < fu → ∀ (H : Heap) (locs : List Loc) (ls : Array Slot), lv_has ls 8 [(0, .ref g), (1, .ref h), (2, .int (nI cn)), (3, .long (lN (E1 ||| (if Z q = true then 2 ^ sc else 0)))), (5, .int (nI sc)), (6, .int (nI q)), (7, .int (nI j))] → wf_B D wcl (wf_A w s.heap.size) s.heap (wf_l w [(g, .inr (2, [.int (nI k), .ref pf, .ref pl, .ref pz, .ref pk, .ref pn, .ref pm, .int (nI z)])), (pl, .inl (t 0, 800, .inl (iA L))), (pz, .inl (t 2, 200, .inl (zA Z))), (pk, .inl (t 0, 200, .inl (iA K))), (h, .inr (1, [.int (nI k), .ref hs, .int (nI cn), .long (lN 0)])), (hs, .inl (t 0, 40, .inl (pkA f2)))]) H locs → W p l e (rmk 2 52 0 0) s m [.ref g, .ref h, .int (nI cn)].toArray below meth c H locs 0 0 Q (F0 m 58 ls []) := by
  have hx := X.1
  have hb := X.2.1
  intro fu
  induction fu with
  | zero => intro j f2 hj hf1 hf2 hfu; exact absurd hfu (Nat.not_lt_zero _)
  | succ fu ih =>
    intro j f2 hj hf1 hf2 hfu H locs ls hl hB
    refine lv_iload hx hb d_Pla_layDown_58 (lv_at hl 6 rfl) ?_
    refine lv_aload_n hx hb d_Pla_layDown_60 rfl (lv_at hl 0 rfl) ?_
    refine rgetL X hB hN 0 i_Pla rfl cl_Pla 0 (by decide) k_144 rfl rfl d_Pla_layDown_61 ?_
    refine wf_cge (tgt := 89) hx hb d_Pla_layDown_64 (by decide) (nI_toInt (by omega)) (nI_toInt (by omega)) (fun c_64 => ?_) (fun c_64 => ?_)
    · exact K_89 j f2 hj hf1 hf2 (by omega) H locs ls (lv_sub hl [0, 1, 2, 3, 4, 5, 6] rfl) hB
    · refine lv_aload_n hx hb d_Pla_layDown_67 rfl (lv_at hl 1 rfl) ?_
      refine lv_iload hx hb d_Pla_layDown_68 (lv_at hl 4 rfl) ?_
      refine lv_iload hx hb d_Pla_layDown_70 (lv_at hl 6 rfl) ?_
      refine lv_aload_n hx hb d_Pla_layDown_72 rfl (lv_at hl 0 rfl) ?_
      refine lv_iload hx hb d_Pla_layDown_73 (lv_at hl 5 rfl) ?_
      refine lv_iload hx hb d_Pla_layDown_75 (lv_at hl 6 rfl) ?_
      refine callVi (As := [.int (nI q), .int (nI j)]) (rest := [.int (nI j), .int (nI sc), .ref h]) X hB wf_hA (c_Pla_kindAfter (l := l) (D := D) (t := t) (w := (wf_l w [(g, .inr (2, [.int (nI k), .ref pf, .ref pl, .ref pz, .ref pk, .ref pn, .ref pm, .int (nI z)])), (pl, .inl (t 0, 800, .inl (iA L))), (pz, .inl (t 2, 200, .inl (zA Z))), (pk, .inl (t 0, 200, .inl (iA K))), (h, .inr (1, [.int (nI k), .ref hs, .int (nI cn), .long (lN 0)])), (hs, .inl (t 0, 40, .inl (pkA f2)))])) (sz := H.size) (g := g) (pf := pf) (pl := pl) (pz := pz) (pk := pk) (pn := pn) (pm := pm) (k := k) (z := z) (L := L) (K := K) (u := q) (a := j) (wf_lg (w := w) (l := [(g, .inr (2, [.int (nI k), .ref pf, .ref pl, .ref pz, .ref pk, .ref pn, .ref pm, .int (nI z)])), (pl, .inl (t 0, 800, .inl (iA L))), (pz, .inl (t 2, 200, .inl (zA Z))), (pk, .inl (t 0, 200, .inl (iA K))), (h, .inr (1, [.int (nI k), .ref hs, .int (nI cn), .long (lN 0)])), (hs, .inl (t 0, 40, .inl (pkA f2)))]) hN 0 rfl) (wf_lg (w := w) (l := [(g, .inr (2, [.int (nI k), .ref pf, .ref pl, .ref pz, .ref pk, .ref pn, .ref pm, .int (nI z)])), (pl, .inl (t 0, 800, .inl (iA L))), (pz, .inl (t 2, 200, .inl (zA Z))), (pk, .inl (t 0, 200, .inl (iA K))), (h, .inr (1, [.int (nI k), .ref hs, .int (nI cn), .long (lN 0)])), (hs, .inl (t 0, 40, .inl (pkA f2)))]) hN 1 rfl) (wf_lg (w := w) (l := [(g, .inr (2, [.int (nI k), .ref pf, .ref pl, .ref pz, .ref pk, .ref pn, .ref pm, .int (nI z)])), (pl, .inl (t 0, 800, .inl (iA L))), (pz, .inl (t 2, 200, .inl (zA Z))), (pk, .inl (t 0, 200, .inl (iA K))), (h, .inr (1, [.int (nI k), .ref hs, .int (nI cn), .long (lN 0)])), (hs, .inl (t 0, 40, .inl (pkA f2)))]) hN 3 rfl) (by exact hk) (by exact hz) (by omega) (by exact hq) (by omega)) k_503 k_505 k_12 k_68 k_506 (wf_lg (w := w) (l := [(g, .inr (2, [.int (nI k), .ref pf, .ref pl, .ref pz, .ref pk, .ref pn, .ref pm, .int (nI z)])), (pl, .inl (t 0, 800, .inl (iA L))), (pz, .inl (t 2, 200, .inl (zA Z))), (pk, .inl (t 0, 200, .inl (iA K))), (h, .inr (1, [.int (nI k), .ref hs, .int (nI cn), .long (lN 0)])), (hs, .inl (t 0, 40, .inl (pkA f2)))]) hN 0 rfl) cl_Pla rfl hd_Pla_kindAfter ⟨Nat.le_of_ble_eq_true rfl, Nat.le_of_ble_eq_true rfl⟩ ⟨Nat.le_of_ble_eq_true rfl, Nat.le_of_ble_eq_true rfl⟩ hl.1 (Nat.le_of_ble_eq_true rfl) d_Pla_layDown_77 rfl (fun r_77 w1 H locs hp hB => ?_)
      obtain ⟨rfl, hw_77⟩ := hp
      have hB : wf_B D wcl (wf_A w s.heap.size) s.heap (wf_l w [(g, .inr (2, [.int (nI k), .ref pf, .ref pl, .ref pz, .ref pk, .ref pn, .ref pm, .int (nI z)])), (pl, .inl (t 0, 800, .inl (iA L))), (pz, .inl (t 2, 200, .inl (zA Z))), (pk, .inl (t 0, 200, .inl (iA K))), (h, .inr (1, [.int (nI k), .ref hs, .int (nI cn), .long (lN 0)])), (hs, .inl (t 0, 40, .inl (pkA f2)))]) H locs := wf_Bto hw_77 hB
      refine callVv (As := [.int (nI sc), .int (nI j), .int (nI (K (L (q * 4 + j))))]) (rest := []) X hB wf_hA (c_Mac_setStep (l := l) (D := D) (t := t) (w := (wf_l w [(g, .inr (2, [.int (nI k), .ref pf, .ref pl, .ref pz, .ref pk, .ref pn, .ref pm, .int (nI z)])), (pl, .inl (t 0, 800, .inl (iA L))), (pz, .inl (t 2, 200, .inl (zA Z))), (pk, .inl (t 0, 200, .inl (iA K))), (h, .inr (1, [.int (nI k), .ref hs, .int (nI cn), .long (lN 0)])), (hs, .inl (t 0, 40, .inl (pkA f2)))])) (sz := H.size) (h := h) (hs := hs) (k := k) (n := cn) (E := 0) (u := sc) (a := j) (v := K (L (q * 4 + j))) (f := f2) (nd_sub hN [4, 5] rfl (by decide)) (wf_lg (w := w) (l := [(g, .inr (2, [.int (nI k), .ref pf, .ref pl, .ref pz, .ref pk, .ref pn, .ref pm, .int (nI z)])), (pl, .inl (t 0, 800, .inl (iA L))), (pz, .inl (t 2, 200, .inl (zA Z))), (pk, .inl (t 0, 200, .inl (iA K))), (h, .inr (1, [.int (nI k), .ref hs, .int (nI cn), .long (lN 0)])), (hs, .inl (t 0, 40, .inl (pkA f2)))]) hN 4 rfl) (wf_lg (w := w) (l := [(g, .inr (2, [.int (nI k), .ref pf, .ref pl, .ref pz, .ref pk, .ref pn, .ref pm, .int (nI z)])), (pl, .inl (t 0, 800, .inl (iA L))), (pz, .inl (t 2, 200, .inl (zA Z))), (pk, .inl (t 0, 200, .inl (iA K))), (h, .inr (1, [.int (nI k), .ref hs, .int (nI cn), .long (lN 0)])), (hs, .inl (t 0, 40, .inl (pkA f2)))]) hN 5 rfl) (by exact hk) (by omega) (by exact hsc) (by omega) (by exact hfo.1 _ (hLz q j hq (by omega)))) k_519 k_520 k_521 k_67 k_522 (wf_lg (w := w) (l := [(g, .inr (2, [.int (nI k), .ref pf, .ref pl, .ref pz, .ref pk, .ref pn, .ref pm, .int (nI z)])), (pl, .inl (t 0, 800, .inl (iA L))), (pz, .inl (t 2, 200, .inl (zA Z))), (pk, .inl (t 0, 200, .inl (iA K))), (h, .inr (1, [.int (nI k), .ref hs, .int (nI cn), .long (lN 0)])), (hs, .inl (t 0, 40, .inl (pkA f2)))]) hN 4 rfl) cl_Mac rfl hd_Mac_setStep ⟨Nat.le_of_ble_eq_true rfl, Nat.le_of_ble_eq_true rfl⟩ ⟨Nat.le_of_ble_eq_true rfl, Nat.le_of_ble_eq_true rfl⟩ hl.1 (Nat.le_of_ble_eq_true rfl) d_Pla_layDown_80 rfl (fun w1 H locs hp hB => ?_)
      have hw_80 := hp
      have hB : wf_B D wcl (wf_A w s.heap.size) s.heap (wf_l w [(g, .inr (2, [.int (nI k), .ref pf, .ref pl, .ref pz, .ref pk, .ref pn, .ref pm, .int (nI z)])), (pl, .inl (t 0, 800, .inl (iA L))), (pz, .inl (t 2, 200, .inl (zA Z))), (pk, .inl (t 0, 200, .inl (iA K))), (h, .inr (1, [.int (nI k), .ref hs, .int (nI cn), .long (lN 0)])), (hs, .inl (t 0, 40, .inl (pkA (upd f2 (sc * 4 + j) (nI (K (L (q * 4 + j))))))))]) H locs := wf_Bto (hw_80.trans (wlw (L1 := [(g, .inr (2, [.int (nI k), .ref pf, .ref pl, .ref pz, .ref pk, .ref pn, .ref pm, .int (nI z)])), (pl, .inl (t 0, 800, .inl (iA L))), (pz, .inl (t 2, 200, .inl (zA Z))), (pk, .inl (t 0, 200, .inl (iA K))), (h, .inr (1, [.int (nI k), .ref hs, .int (nI cn), .long (lN 0)])), (hs, .inl (t 0, 40, .inl (pkA f2)))]) hN 4 rfl rfl (wlw (L1 := [(g, .inr (2, [.int (nI k), .ref pf, .ref pl, .ref pz, .ref pk, .ref pn, .ref pm, .int (nI z)])), (pl, .inl (t 0, 800, .inl (iA L))), (pz, .inl (t 2, 200, .inl (zA Z))), (pk, .inl (t 0, 200, .inl (iA K))), (h, .inr (1, [.int (nI k), .ref hs, .int (nI cn), .long (lN 0)])), (hs, .inl (t 0, 40, .inl (pkA (upd f2 (sc * 4 + j) (nI (K (L (q * 4 + j))))))))]) hN 5 rfl rfl rfl))) hB
      refine lv_iinc (v := nI (j + 1)) (lv' := [(7, .int (nI (j + 1))), (0, .ref g), (1, .ref h), (2, .int (nI cn)), (3, .long (lN (E1 ||| (if Z q = true then 2 ^ sc else 0)))), (5, .int (nI sc)), (6, .int (nI q))]) hx hb d_Pla_layDown_83 hl (k := 6) rfl (show nI j + nI 1 = nI (j + 1) from nI_add _ _) (by decide) rfl (fun ls hl => ?_)
      refine lv_goto (tgt := 58) hx hb d_Pla_layDown_86 (by decide) ?_
      exact ih (j + 1) (upd f2 (sc * 4 + j) (nI (K (L (q * 4 + j))))) (by omega) (by intro a ha; by_cases e9 : a = j; (rw [e9, pk_us]); rw [pk_un (by omega)]; exact hf1 a (by omega)) (by intro x hx; rw [pk_un (hx j (by omega))]; exact hf2 x (fun a ha => hx a (by omega))) (by omega) H locs ls (lv_sub hl [1, 2, 3, 4, 5, 6, 0] rfl) hB
set_option maxHeartbeats 4000000 in
set_option maxRecDepth 100000 in
theorem c_Pla_layDown_L13 {l : Launch} {D : va_G} {t : Nat → ClassId} {w : wf_W} {g pf pl pz pk pn pm k z : Nat} {L K : Nat → Nat} {Z : Nat → Bool} {h hs n E cn : Nat} {f : Nat → Int32} {mk : Nat → Nat}  {p : Program} {e : Env} {s : State} {m : MethodId} {below : List Frame} {meth : Method} {c : Code} {Q : State → Prop} (X : Cx p s m meth c R_Pla "layDown" b_Pla_layDown 8 none D t) (hN : nd [g, pl, pz, pk, h, hs]) (hP : w g = some (.inr (2, [.int (nI k), .ref pf, .ref pl, .ref pz, .ref pk, .ref pn, .ref pm, .int (nI z)]))) (hPl : w pl = some (.inl (t 0, 800, .inl (iA L)))) (hPz : w pz = some (.inl (t 2, 200, .inl (zA Z)))) (hPk : w pk = some (.inl (t 0, 200, .inl (iA K)))) (hM : w h = some (.inr (1, [.int (nI k), .ref hs, .int (nI n), .long (lN E)]))) (hF : w hs = some (.inl (t 0, 40, .inl (pkA f)))) (hk : k ≤ 4) (hz : z ≤ 200) (hLz : ∀ p a, p < z → a < k → L (p * 4 + a) < z) (hcn : 1 ≤ cn ∧ cn ≤ 40) (hfo : foN mk K z cn) (hco : ∀ p q, p < z → q < z → K p = K q → Z p = Z q ∧ ∀ a, a < k → K (L (p * 4 + a)) = K (L (q * 4 + a)))
    (K_98 : ∀ (q : Nat) (sc : Nat) (E1 : Nat) (f1 : Nat → Int32), (q ≤ z) → (ldI k cn K L Z f1 E1 q sc) → (q = z) → ∀ (H : Heap) (locs : List Loc) (ls : Array Slot), lv_has ls 8 [(0, .ref g), (1, .ref h), (2, .int (nI cn)), (3, .long (lN E1)), (5, .int (nI sc)), (6, .int (nI q))] → wf_B D wcl (wf_A w s.heap.size) s.heap (wf_l w [(g, .inr (2, [.int (nI k), .ref pf, .ref pl, .ref pz, .ref pk, .ref pn, .ref pm, .int (nI z)])), (pl, .inl (t 0, 800, .inl (iA L))), (pz, .inl (t 2, 200, .inl (zA Z))), (pk, .inl (t 0, 200, .inl (iA K))), (h, .inr (1, [.int (nI k), .ref hs, .int (nI cn), .long (lN 0)])), (hs, .inl (t 0, 40, .inl (pkA f1)))]) H locs → W p l e (rmk 2 52 0 0) s m [.ref g, .ref h, .int (nI cn)].toArray below meth c H locs 0 0 Q (F0 m 98 ls [])) :
    ∀ (fu : Nat) (q : Nat) (sc : Nat) (E1 : Nat) (f1 : Nat → Int32), (q ≤ z) → (ldI k cn K L Z f1 E1 q sc) → z - q < fu → ∀ (H : Heap) (locs : List Loc) (ls : Array Slot), lv_has ls 8 [(0, .ref g), (1, .ref h), (2, .int (nI cn)), (3, .long (lN E1)), (5, .int (nI sc)), (6, .int (nI q))] → wf_B D wcl (wf_A w s.heap.size) s.heap (wf_l w [(g, .inr (2, [.int (nI k), .ref pf, .ref pl, .ref pz, .ref pk, .ref pn, .ref pm, .int (nI z)])), (pl, .inl (t 0, 800, .inl (iA L))), (pz, .inl (t 2, 200, .inl (zA Z))), (pk, .inl (t 0, 200, .inl (iA K))), (h, .inr (1, [.int (nI k), .ref hs, .int (nI cn), .long (lN 0)])), (hs, .inl (t 0, 40, .inl (pkA f1)))]) H locs → W p l e (rmk 2 52 0 0) s m [.ref g, .ref h, .int (nI cn)].toArray below meth c H locs 0 0 Q (F0 m 13 ls []) := by
  have hx := X.1
  have hb := X.2.1
  intro fu
  induction fu with
  | zero => intro q sc E1 f1 hq hld hfu; exact absurd hfu (Nat.not_lt_zero _)
  | succ fu ih =>
    intro q sc E1 f1 hq hld hfu H locs ls hl hB
    refine lv_iload hx hb d_Pla_layDown_13 (lv_at hl 5 rfl) ?_
    refine lv_aload_n hx hb d_Pla_layDown_15 rfl (lv_at hl 0 rfl) ?_
    refine rgetL X hB hN 0 i_Pla rfl cl_Pla 7 (by decide) k_151 rfl rfl d_Pla_layDown_16 ?_
    refine wf_cge (tgt := 98) hx hb d_Pla_layDown_19 (by decide) (nI_toInt (by omega)) (nI_toInt (by omega)) (fun c_19 => ?_) (fun c_19 => ?_)
    · exact K_98 q sc E1 f1 hq hld (by omega) H locs ls (lv_sub hl [0, 1, 2, 3, 4, 5] rfl) hB
    · have hq : q < z := by omega
      have hKq := hfo.1 q hq
      have hE1 := hld.2.2.2.2.2.2
      have hscn := hld.1
      have hp40 : 2 ^ sc ≤ 2 ^ 40 := Nat.pow_le_pow_right (by decide) (by omega)
      refine lv_aload_n hx hb d_Pla_layDown_22 rfl (lv_at hl 0 rfl) ?_
      refine rgetL X hB hN 0 i_Pla rfl cl_Pla 4 (by decide) k_148 rfl rfl d_Pla_layDown_23 ?_
      refine lv_iload hx hb d_Pla_layDown_26 (lv_at hl 5 rfl) ?_
      refine rialdL X hB hN 3 rfl (i := q) (by omega) (by decide) d_Pla_layDown_28 ?_
      refine wf_ti (y := nI (K q)) rfl ?_
      refine lv_iload hx hb d_Pla_layDown_29 (lv_at hl 4 rfl) ?_
      refine wf_cne (tgt := 92) hx hb d_Pla_layDown_31 (by decide) (nI_toInt (by omega)) (nI_toInt (by omega)) (fun c_31 => ?_) (fun c_31 => ?_)
      · refine lv_iinc (v := nI (q + 1)) (lv' := [(6, .int (nI (q + 1))), (0, .ref g), (1, .ref h), (2, .int (nI cn)), (3, .long (lN E1)), (5, .int (nI sc))]) hx hb d_Pla_layDown_92 hl (k := 5) rfl (show nI q + nI 1 = nI (q + 1) from nI_add _ _) (by decide) rfl (fun ls hl => ?_)
        refine lv_goto (tgt := 13) hx hb d_Pla_layDown_95 (by decide) ?_
        exact ih (q + 1) sc E1 f1 (by omega) (by first | exact ldI_old hld hfo hco hq (by omega) | exact ldI_new hk hld hfo hq hks (fun a ha => hf1 a (by omega)) (fun x hx => hf2 x (fun a ha => hx a (by omega)))) (by omega) H locs ls (lv_sub hl [1, 2, 3, 4, 5, 0] rfl) hB
      · have hks : K q = sc := by omega
        have hsc : sc < cn := by omega
        refine lv_lload_n hx hb d_Pla_layDown_34 rfl (lv_at hl 3 rfl) ?_
        refine lv_aload_n hx hb d_Pla_layDown_35 rfl (lv_at hl 0 rfl) ?_
        refine rgetL X hB hN 0 i_Pla rfl cl_Pla 3 (by decide) k_147 rfl rfl d_Pla_layDown_36 ?_
        refine lv_iload hx hb d_Pla_layDown_39 (lv_at hl 5 rfl) ?_
        refine rzaldL X hB hN 2 rfl (i := q) (by omega) (by decide) d_Pla_layDown_41 ?_
        refine wf_ti (y := bI (Z q)) rfl ?_
        refine wf_beq (tgt := 52) hx hb d_Pla_layDown_42 (by decide) (fun c_42 => ?_) (fun c_42 => ?_)
        · refine lv_lconst (v := lN 0) hx hb d_Pla_layDown_52 (by decide) ?_
          refine lv_lor hx hb d_Pla_layDown_53 ?_
          refine wf_tl (y := lN (E1 ||| 0)) (wb_or (by omega) (by first | decide | (have := Nat.pow_lt_pow_right (a := 2) (by decide) (show sc < 64 by omega); exact this))) ?_
          refine wf_tl (y := lN (E1 ||| (if Z q = true then 2 ^ sc else 0))) (by rw [c_42]; rfl) ?_
          refine lv_lstore_n (lv' := [(3, .long (lN (E1 ||| (if Z q = true then 2 ^ sc else 0)))), (0, .ref g), (1, .ref h), (2, .int (nI cn)), (5, .int (nI sc)), (6, .int (nI q))]) hx hb d_Pla_layDown_54 rfl hl (by decide) rfl (fun ls hl => ?_)
          refine lv_iconst (v := nI 0) hx hb d_Pla_layDown_55 (by decide) ?_
          refine lv_istore (lv' := [(7, .int (nI 0)), (3, .long (lN (E1 ||| (if Z q = true then 2 ^ sc else 0)))), (0, .ref g), (1, .ref h), (2, .int (nI cn)), (5, .int (nI sc)), (6, .int (nI q))]) hx hb d_Pla_layDown_56 hl (by decide) rfl (fun ls hl => ?_)
          refine c_Pla_layDown_L58 (l := l) X hN hP hPl hPz hPk hM hF hk hz hLz hcn hfo hco hq hks hsc (fun j f2 hj hf1 hf2 he H locs ls hl hB => ?_) (k - 0 + 1) 0 f1 (by omega) (by intro a ha; omega) (by intro x hx; rfl) (by omega) H locs ls (lv_sub hl [2, 3, 4, 1, 5, 6, 0] rfl) hB
          refine lv_iinc (v := nI (sc + 1)) (lv' := [(5, .int (nI (sc + 1))), (0, .ref g), (1, .ref h), (2, .int (nI cn)), (3, .long (lN (E1 ||| (if Z q = true then 2 ^ sc else 0)))), (6, .int (nI q)), (7, .int (nI j))]) hx hb d_Pla_layDown_89 hl (k := 4) rfl (show nI sc + nI 1 = nI (sc + 1) from nI_add _ _) (by decide) rfl (fun ls hl => ?_)
          refine lv_iinc (v := nI (q + 1)) (lv' := [(6, .int (nI (q + 1))), (5, .int (nI (sc + 1))), (0, .ref g), (1, .ref h), (2, .int (nI cn)), (3, .long (lN (E1 ||| (if Z q = true then 2 ^ sc else 0)))), (7, .int (nI j))]) hx hb d_Pla_layDown_92 hl (k := 5) rfl (show nI q + nI 1 = nI (q + 1) from nI_add _ _) (by decide) rfl (fun ls hl => ?_)
          refine lv_goto (tgt := 13) hx hb d_Pla_layDown_95 (by decide) ?_
          exact ih (q + 1) (sc + 1) (E1 ||| (if Z q = true then 2 ^ sc else 0)) f2 (by omega) (by first | exact ldI_old hld hfo hco hq (by omega) | exact ldI_new hk hld hfo hq hks (fun a ha => hf1 a (by omega)) (fun x hx => hf2 x (fun a ha => hx a (by omega)))) (by omega) H locs ls (lv_sub hl [2, 3, 4, 5, 1, 0] rfl) hB
        · refine lv_lconst (v := lN 1) hx hb d_Pla_layDown_45 (by decide) ?_
          refine lv_iload hx hb d_Pla_layDown_46 (lv_at hl 4 rfl) ?_
          refine lv_lshl (v := lN (1 * 2 ^ sc)) hx hb d_Pla_layDown_48 (wb_shl _ (by omega)) ?_
          refine wf_tl (y := lN (2 ^ sc)) (by rw [Nat.one_mul]) ?_
          refine lv_goto (tgt := 53) hx hb d_Pla_layDown_49 (by decide) ?_
          refine lv_lor hx hb d_Pla_layDown_53 ?_
          refine wf_tl (y := lN (E1 ||| (2 ^ sc))) (wb_or (by omega) (by first | decide | (have := Nat.pow_lt_pow_right (a := 2) (by decide) (show sc < 64 by omega); exact this))) ?_
          refine wf_tl (y := lN (E1 ||| (if Z q = true then 2 ^ sc else 0))) (by rw [c_42]; rfl) ?_
          refine lv_lstore_n (lv' := [(3, .long (lN (E1 ||| (if Z q = true then 2 ^ sc else 0)))), (0, .ref g), (1, .ref h), (2, .int (nI cn)), (5, .int (nI sc)), (6, .int (nI q))]) hx hb d_Pla_layDown_54 rfl hl (by decide) rfl (fun ls hl => ?_)
          refine lv_iconst (v := nI 0) hx hb d_Pla_layDown_55 (by decide) ?_
          refine lv_istore (lv' := [(7, .int (nI 0)), (3, .long (lN (E1 ||| (if Z q = true then 2 ^ sc else 0)))), (0, .ref g), (1, .ref h), (2, .int (nI cn)), (5, .int (nI sc)), (6, .int (nI q))]) hx hb d_Pla_layDown_56 hl (by decide) rfl (fun ls hl => ?_)
          refine c_Pla_layDown_L58 (l := l) X hN hP hPl hPz hPk hM hF hk hz hLz hcn hfo hco hq hks hsc (fun j f2 hj hf1 hf2 he H locs ls hl hB => ?_) (k - 0 + 1) 0 f1 (by omega) (by intro a ha; omega) (by intro x hx; rfl) (by omega) H locs ls (lv_sub hl [2, 3, 4, 1, 5, 6, 0] rfl) hB
          refine lv_iinc (v := nI (sc + 1)) (lv' := [(5, .int (nI (sc + 1))), (0, .ref g), (1, .ref h), (2, .int (nI cn)), (3, .long (lN (E1 ||| (if Z q = true then 2 ^ sc else 0)))), (6, .int (nI q)), (7, .int (nI j))]) hx hb d_Pla_layDown_89 hl (k := 4) rfl (show nI sc + nI 1 = nI (sc + 1) from nI_add _ _) (by decide) rfl (fun ls hl => ?_)
          refine lv_iinc (v := nI (q + 1)) (lv' := [(6, .int (nI (q + 1))), (5, .int (nI (sc + 1))), (0, .ref g), (1, .ref h), (2, .int (nI cn)), (3, .long (lN (E1 ||| (if Z q = true then 2 ^ sc else 0)))), (7, .int (nI j))]) hx hb d_Pla_layDown_92 hl (k := 5) rfl (show nI q + nI 1 = nI (q + 1) from nI_add _ _) (by decide) rfl (fun ls hl => ?_)
          refine lv_goto (tgt := 13) hx hb d_Pla_layDown_95 (by decide) ?_
          exact ih (q + 1) (sc + 1) (E1 ||| (if Z q = true then 2 ^ sc else 0)) f2 (by omega) (by first | exact ldI_old hld hfo hco hq (by omega) | exact ldI_new hk hld hfo hq hks (fun a ha => hf1 a (by omega)) (fun x hx => hf2 x (fun a ha => hx a (by omega)))) (by omega) H locs ls (lv_sub hl [2, 3, 4, 5, 1, 0] rfl) hB
set_option maxHeartbeats 4000000 in
set_option maxRecDepth 100000 in
theorem c_Pla_layDown {l : Launch} {D : va_G} {t : Nat → ClassId} {w : wf_W} {sz : Nat} {g pf pl pz pk pn pm k z : Nat} {L K : Nat → Nat} {Z : Nat → Bool} {h hs n E cn : Nat} {f : Nat → Int32} {mk : Nat → Nat} (hN : nd [g, pl, pz, pk, h, hs]) (hP : w g = some (.inr (2, [.int (nI k), .ref pf, .ref pl, .ref pz, .ref pk, .ref pn, .ref pm, .int (nI z)]))) (hPl : w pl = some (.inl (t 0, 800, .inl (iA L)))) (hPz : w pz = some (.inl (t 2, 200, .inl (zA Z)))) (hPk : w pk = some (.inl (t 0, 200, .inl (iA K)))) (hM : w h = some (.inr (1, [.int (nI k), .ref hs, .int (nI n), .long (lN E)]))) (hF : w hs = some (.inl (t 0, 40, .inl (pkA f)))) (hk : k ≤ 4) (hz : z ≤ 200) (hLz : ∀ p a, p < z → a < k → L (p * 4 + a) < z) (hcn : 1 ≤ cn ∧ cn ≤ 40) (hfo : foN mk K z cn) (hco : ∀ p q, p < z → q < z → K p = K q → Z p = Z q ∧ ∀ a, a < k → K (L (p * 4 + a)) = K (L (q * 4 + a))) : Mv l y_Pla_layDown b_Pla_layDown 8 none 2 52 0 0 D t w sz [.ref g, .ref h, .int (nI cn)] (fun w' => ∃ E0 : Nat, ∃ f0 : Nat → Int32, ∃ st0 : Nat → Nat → Nat, (mOK k cn E0 f0 st0) ∧ (∀ p a, p < z → a < k → st0 (K p) a = K (L (p * 4 + a))) ∧ (∀ p, p < z → E0.testBit (K p) = Z p) ∧ w' = wf_l w [(g, .inr (2, [.int (nI k), .ref pf, .ref pl, .ref pz, .ref pk, .ref pn, .ref pm, .int (nI z)])), (pl, .inl (t 0, 800, .inl (iA L))), (pz, .inl (t 2, 200, .inl (zA Z))), (pk, .inl (t 0, 200, .inl (iA K))), (h, .inr (1, [.int (nI k), .ref hs, .int (nI cn), .long (lN E0)])), (hs, .inl (t 0, 40, .inl (pkA f0)))]) := by
  refine start_v (by decide) (Nat.le_of_ble_eq_true rfl) ?_
  intro p e s m below meth c ls H locs X hB hl
  have hx := X.1
  have hb := X.2.1
  have hl : lv_has ls 8 [(0, .ref g), (1, .ref h), (2, .int (nI cn))] := hl
  have hB : wf_B D wcl (wf_A w s.heap.size) s.heap (wf_l w [(g, .inr (2, [.int (nI k), .ref pf, .ref pl, .ref pz, .ref pk, .ref pn, .ref pm, .int (nI z)])), (pl, .inl (t 0, 800, .inl (iA L))), (pz, .inl (t 2, 200, .inl (zA Z))), (pk, .inl (t 0, 200, .inl (iA K))), (h, .inr (1, [.int (nI k), .ref hs, .int (nI n), .long (lN E)])), (hs, .inl (t 0, 40, .inl (pkA f)))]) H locs := wf_Bto (wf_l6 hP hPl hPz hPk hM hF).symm hB
  refine lv_aload_n hx hb d_Pla_layDown_0 rfl (lv_at hl 1 rfl) ?_
  refine lv_iload_n hx hb d_Pla_layDown_1 rfl (lv_at hl 2 rfl) ?_
  refine callVv (As := [.int (nI cn)]) (rest := []) X hB wf_hA (c_Mac_begin (l := l) (D := D) (t := t) (w := (wf_l w [(g, .inr (2, [.int (nI k), .ref pf, .ref pl, .ref pz, .ref pk, .ref pn, .ref pm, .int (nI z)])), (pl, .inl (t 0, 800, .inl (iA L))), (pz, .inl (t 2, 200, .inl (zA Z))), (pk, .inl (t 0, 200, .inl (iA K))), (h, .inr (1, [.int (nI k), .ref hs, .int (nI n), .long (lN E)])), (hs, .inl (t 0, 40, .inl (pkA f)))])) (sz := H.size) (h := h) (hs := hs) (k := k) (n := n) (E := E) (u := cn) (f := f) (nd_sub hN [4, 5] rfl (by decide)) (wf_lg (w := w) (l := [(g, .inr (2, [.int (nI k), .ref pf, .ref pl, .ref pz, .ref pk, .ref pn, .ref pm, .int (nI z)])), (pl, .inl (t 0, 800, .inl (iA L))), (pz, .inl (t 2, 200, .inl (zA Z))), (pk, .inl (t 0, 200, .inl (iA K))), (h, .inr (1, [.int (nI k), .ref hs, .int (nI n), .long (lN E)])), (hs, .inl (t 0, 40, .inl (pkA f)))]) hN 4 rfl) (wf_lg (w := w) (l := [(g, .inr (2, [.int (nI k), .ref pf, .ref pl, .ref pz, .ref pk, .ref pn, .ref pm, .int (nI z)])), (pl, .inl (t 0, 800, .inl (iA L))), (pz, .inl (t 2, 200, .inl (zA Z))), (pk, .inl (t 0, 200, .inl (iA K))), (h, .inr (1, [.int (nI k), .ref hs, .int (nI n), .long (lN E)])), (hs, .inl (t 0, 40, .inl (pkA f)))]) hN 5 rfl) (by exact hcn)) k_513 k_514 k_515 k_67 k_516 (wf_lg (w := w) (l := [(g, .inr (2, [.int (nI k), .ref pf, .ref pl, .ref pz, .ref pk, .ref pn, .ref pm, .int (nI z)])), (pl, .inl (t 0, 800, .inl (iA L))), (pz, .inl (t 2, 200, .inl (zA Z))), (pk, .inl (t 0, 200, .inl (iA K))), (h, .inr (1, [.int (nI k), .ref hs, .int (nI n), .long (lN E)])), (hs, .inl (t 0, 40, .inl (pkA f)))]) hN 4 rfl) cl_Mac rfl hd_Mac_begin ⟨Nat.le_of_ble_eq_true rfl, Nat.le_of_ble_eq_true rfl⟩ ⟨Nat.le_of_ble_eq_true rfl, Nat.le_of_ble_eq_true rfl⟩ hl.1 (Nat.le_of_ble_eq_true rfl) d_Pla_layDown_2 rfl (fun w1 H locs hp hB => ?_)
  obtain ⟨g0_2, hg0_2, hw_2⟩ := hp
  have hB : wf_B D wcl (wf_A w s.heap.size) s.heap (wf_l w [(g, .inr (2, [.int (nI k), .ref pf, .ref pl, .ref pz, .ref pk, .ref pn, .ref pm, .int (nI z)])), (pl, .inl (t 0, 800, .inl (iA L))), (pz, .inl (t 2, 200, .inl (zA Z))), (pk, .inl (t 0, 200, .inl (iA K))), (h, .inr (1, [.int (nI k), .ref hs, .int (nI cn), .long (lN 0)])), (hs, .inl (t 0, 40, .inl (pkA g0_2)))]) H locs := wf_Bto (hw_2.trans (wlw (L1 := [(g, .inr (2, [.int (nI k), .ref pf, .ref pl, .ref pz, .ref pk, .ref pn, .ref pm, .int (nI z)])), (pl, .inl (t 0, 800, .inl (iA L))), (pz, .inl (t 2, 200, .inl (zA Z))), (pk, .inl (t 0, 200, .inl (iA K))), (h, .inr (1, [.int (nI k), .ref hs, .int (nI cn), .long (lN 0)])), (hs, .inl (t 0, 40, .inl (pkA f)))]) hN 4 rfl rfl (wlw (L1 := [(g, .inr (2, [.int (nI k), .ref pf, .ref pl, .ref pz, .ref pk, .ref pn, .ref pm, .int (nI z)])), (pl, .inl (t 0, 800, .inl (iA L))), (pz, .inl (t 2, 200, .inl (zA Z))), (pk, .inl (t 0, 200, .inl (iA K))), (h, .inr (1, [.int (nI k), .ref hs, .int (nI cn), .long (lN 0)])), (hs, .inl (t 0, 40, .inl (pkA g0_2)))]) hN 5 rfl rfl rfl))) hB
  refine lv_lconst (v := lN 0) hx hb d_Pla_layDown_5 (by decide) ?_
  refine lv_lstore_n (lv' := [(3, .long (lN 0)), (0, .ref g), (1, .ref h), (2, .int (nI cn))]) hx hb d_Pla_layDown_6 rfl hl (by decide) rfl (fun ls hl => ?_)
  refine lv_iconst (v := nI 0) hx hb d_Pla_layDown_7 (by decide) ?_
  refine lv_istore (lv' := [(5, .int (nI 0)), (3, .long (lN 0)), (0, .ref g), (1, .ref h), (2, .int (nI cn))]) hx hb d_Pla_layDown_8 hl (by decide) rfl (fun ls hl => ?_)
  refine lv_iconst (v := nI 0) hx hb d_Pla_layDown_10 (by decide) ?_
  refine lv_istore (lv' := [(6, .int (nI 0)), (5, .int (nI 0)), (3, .long (lN 0)), (0, .ref g), (1, .ref h), (2, .int (nI cn))]) hx hb d_Pla_layDown_11 hl (by decide) rfl (fun ls hl => ?_)
  refine c_Pla_layDown_L13 (l := l) X hN hP hPl hPz hPk hM hF hk hz hLz hcn hfo hco (fun q sc E1 f1 hq hld he H locs ls hl hB => ?_) (z - 0 + 1) 0 0 0 g0_2 (by omega) (by exact ldI_0 hg0_2) (by omega) H locs ls (lv_sub hl [3, 4, 5, 2, 1, 0] rfl) hB
  refine lv_aload_n hx hb d_Pla_layDown_98 rfl (lv_at hl 1 rfl) ?_
  refine lv_lload_n hx hb d_Pla_layDown_99 rfl (lv_at hl 3 rfl) ?_
  refine callVv (As := [.long (lN E1)]) (rest := []) X hB wf_hA (c_Mac_setEnds (l := l) (D := D) (t := t) (w := (wf_l w [(g, .inr (2, [.int (nI k), .ref pf, .ref pl, .ref pz, .ref pk, .ref pn, .ref pm, .int (nI z)])), (pl, .inl (t 0, 800, .inl (iA L))), (pz, .inl (t 2, 200, .inl (zA Z))), (pk, .inl (t 0, 200, .inl (iA K))), (h, .inr (1, [.int (nI k), .ref hs, .int (nI cn), .long (lN 0)])), (hs, .inl (t 0, 40, .inl (pkA f1)))])) (sz := H.size) (h := h) (hs := hs) (k := k) (n := cn) (E := 0) (S := E1) (nd_sub hN [4] rfl (by decide)) (wf_lg (w := w) (l := [(g, .inr (2, [.int (nI k), .ref pf, .ref pl, .ref pz, .ref pk, .ref pn, .ref pm, .int (nI z)])), (pl, .inl (t 0, 800, .inl (iA L))), (pz, .inl (t 2, 200, .inl (zA Z))), (pk, .inl (t 0, 200, .inl (iA K))), (h, .inr (1, [.int (nI k), .ref hs, .int (nI cn), .long (lN 0)])), (hs, .inl (t 0, 40, .inl (pkA f1)))]) hN 4 rfl) (by omega) (by have h9 := hld.2.2.2.2.2.2; have h8 := hld.1; have := Nat.pow_lt_pow_right (a := 2) (by decide) (show sc < 64 by omega); omega)) k_523 k_524 k_525 k_67 k_526 (wf_lg (w := w) (l := [(g, .inr (2, [.int (nI k), .ref pf, .ref pl, .ref pz, .ref pk, .ref pn, .ref pm, .int (nI z)])), (pl, .inl (t 0, 800, .inl (iA L))), (pz, .inl (t 2, 200, .inl (zA Z))), (pk, .inl (t 0, 200, .inl (iA K))), (h, .inr (1, [.int (nI k), .ref hs, .int (nI cn), .long (lN 0)])), (hs, .inl (t 0, 40, .inl (pkA f1)))]) hN 4 rfl) cl_Mac rfl hd_Mac_setEnds ⟨Nat.le_of_ble_eq_true rfl, Nat.le_of_ble_eq_true rfl⟩ ⟨Nat.le_of_ble_eq_true rfl, Nat.le_of_ble_eq_true rfl⟩ hl.1 (Nat.le_of_ble_eq_true rfl) d_Pla_layDown_100 rfl (fun w1 H locs hp hB => ?_)
  have hw_100 := hp
  have hB : wf_B D wcl (wf_A w s.heap.size) s.heap (wf_l w [(g, .inr (2, [.int (nI k), .ref pf, .ref pl, .ref pz, .ref pk, .ref pn, .ref pm, .int (nI z)])), (pl, .inl (t 0, 800, .inl (iA L))), (pz, .inl (t 2, 200, .inl (zA Z))), (pk, .inl (t 0, 200, .inl (iA K))), (h, .inr (1, [.int (nI k), .ref hs, .int (nI cn), .long (lN (E1 % 2 ^ cn))])), (hs, .inl (t 0, 40, .inl (pkA f1)))]) H locs := wf_Bto (hw_100.trans (wlw (L1 := [(g, .inr (2, [.int (nI k), .ref pf, .ref pl, .ref pz, .ref pk, .ref pn, .ref pm, .int (nI z)])), (pl, .inl (t 0, 800, .inl (iA L))), (pz, .inl (t 2, 200, .inl (zA Z))), (pk, .inl (t 0, 200, .inl (iA K))), (h, .inr (1, [.int (nI k), .ref hs, .int (nI cn), .long (lN (E1 % 2 ^ cn))])), (hs, .inl (t 0, 40, .inl (pkA f1)))]) hN 4 rfl rfl rfl)) hB
  refine ret_v X hB d_Pla_layDown_103 ?_
  subst he
  obtain ⟨e1, st9, e2, e3, e4⟩ := ldI_end hk hcn hLz hld hfo
  rw [Nat.mod_eq_of_lt e1]
  exact ⟨E1, f1, st9, e2, e3, e4, rfl⟩
set_option maxHeartbeats 4000000 in
set_option maxRecDepth 100000 in
theorem c_Pla_take_L36 {l : Launch} {D : va_G} {t : Nat → ClassId} {w : wf_W} {g pf pl pz pk pn pm k z : Nat} {L : Nat → Nat} {Z : Nat → Bool} {h hs n E S : Nat} {f : Nat → Int32} {st : Nat → Nat → Nat} {q : Nat} {Z9 : Nat → Bool} {p : Program} {e : Env} {s : State} {m : MethodId} {below : List Frame} {meth : Method} {c : Code} {Q : State → Prop} (X : Cx p s m meth c R_Pla "take" b_Pla_take 6 none D t) (hN : nd [g, pl, pz, h, hs]) (hP : w g = some (.inr (2, [.int (nI k), .ref pf, .ref pl, .ref pz, .ref pk, .ref pn, .ref pm, .int (nI z)]))) (hPl : w pl = some (.inl (t 0, 800, .inl (iA L)))) (hPz : w pz = some (.inl (t 2, 200, .inl (zA Z)))) (hM : w h = some (.inr (1, [.int (nI k), .ref hs, .int (nI n), .long (lN E)]))) (hF : w hs = some (.inl (t 0, 40, .inl (pkA f)))) (hm : mOK k n E f st) (hS : S < 2 ^ 64) (hq : q < n)
    (K_71 : ∀ (j : Nat) (L2 : Nat → Nat), (j ≤ k) → (∀ p a, (p < q ∨ (p = q ∧ a < j)) → a < k → L2 (p * 4 + a) = stp k n st p a) → (j = k) → ∀ (H : Heap) (locs : List Loc) (ls : Array Slot), lv_has ls 6 [(0, .ref g), (1, .ref h), (2, .long (lN S)), (4, .int (nI q)), (5, .int (nI j))] → wf_B D wcl (wf_A w s.heap.size) s.heap (wf_l w [(g, .inr (2, [.int (nI k), .ref pf, .ref pl, .ref pz, .ref pk, .ref pn, .ref pm, .int (nI n)])), (pl, .inl (t 0, 800, .inl (iA L2))), (pz, .inl (t 2, 200, .inl (zA Z9))), (h, .inr (1, [.int (nI k), .ref hs, .int (nI n), .long (lN E)])), (hs, .inl (t 0, 40, .inl (pkA f)))]) H locs → W p l e (rmk 2 44 0 0) s m [.ref g, .ref h, .long (lN S)].toArray below meth c H locs 0 0 Q (F0 m 71 ls [])) :
    ∀ (fu : Nat) (j : Nat) (L2 : Nat → Nat), (j ≤ k) → (∀ p a, (p < q ∨ (p = q ∧ a < j)) → a < k → L2 (p * 4 + a) = stp k n st p a) → k - j < fu → ∀ (H : Heap) (locs : List Loc) (ls : Array Slot), lv_has ls 6 [(0, .ref g), (1, .ref h), (2, .long (lN S)), (4, .int (nI q)), (5, .int (nI j))] → wf_B D wcl (wf_A w s.heap.size) s.heap (wf_l w [(g, .inr (2, [.int (nI k), .ref pf, .ref pl, .ref pz, .ref pk, .ref pn, .ref pm, .int (nI n)])), (pl, .inl (t 0, 800, .inl (iA L2))), (pz, .inl (t 2, 200, .inl (zA Z9))), (h, .inr (1, [.int (nI k), .ref hs, .int (nI n), .long (lN E)])), (hs, .inl (t 0, 40, .inl (pkA f)))]) H locs → W p l e (rmk 2 44 0 0) s m [.ref g, .ref h, .long (lN S)].toArray below meth c H locs 0 0 Q (F0 m 36 ls []) := by
  have hx := X.1
  have hb := X.2.1
  intro fu
  induction fu with
  | zero => intro j L2 hj hg hfu; exact absurd hfu (Nat.not_lt_zero _)
  | succ fu ih =>
    intro j L2 hj hg hfu H locs ls hl hB
    have hk := hm.1
    have hn := hm.2.1
    have hn0 := hm.2.2.1
    have hE := hm.E40
    refine lv_iload hx hb d_Pla_take_36 (lv_at hl 4 rfl) ?_
    refine lv_aload_n hx hb d_Pla_take_38 rfl (lv_at hl 0 rfl) ?_
    refine rgetL X hB hN 0 i_Pla rfl cl_Pla 0 (by decide) k_144 rfl rfl d_Pla_take_39 ?_
    refine wf_cge (tgt := 71) hx hb d_Pla_take_42 (by decide) (nI_toInt (by omega)) (nI_toInt (by omega)) (fun c_42 => ?_) (fun c_42 => ?_)
    · exact K_71 j L2 hj hg (by omega) H locs ls (lv_sub hl [0, 1, 2, 3, 4] rfl) hB
    · refine lv_aload_n hx hb d_Pla_take_45 rfl (lv_at hl 0 rfl) ?_
      refine rgetL X hB hN 0 i_Pla rfl cl_Pla 2 (by decide) k_146 rfl rfl d_Pla_take_46 ?_
      refine lv_iload hx hb d_Pla_take_49 (lv_at hl 3 rfl) ?_
      refine lv_iconst (v := nI 4) hx hb d_Pla_take_51 (by decide) ?_
      refine wf_imul (x := q) (y := 4) hx hb d_Pla_take_52 ?_
      refine lv_iload hx hb d_Pla_take_53 (lv_at hl 4 rfl) ?_
      refine wf_iadd (x := q * 4) (y := j) hx hb d_Pla_take_55 ?_
      refine lv_aload_n hx hb d_Pla_take_56 rfl (lv_at hl 1 rfl) ?_
      refine lv_iload hx hb d_Pla_take_57 (lv_at hl 3 rfl) ?_
      refine lv_iload hx hb d_Pla_take_59 (lv_at hl 4 rfl) ?_
      refine callVi (As := [.int (nI q), .int (nI j)]) (rest := [.int (nI ((q * 4) + j)), .ref pl]) X hB wf_hA (c_Mac_step (l := l) (D := D) (t := t) (w := (wf_l w [(g, .inr (2, [.int (nI k), .ref pf, .ref pl, .ref pz, .ref pk, .ref pn, .ref pm, .int (nI n)])), (pl, .inl (t 0, 800, .inl (iA L2))), (pz, .inl (t 2, 200, .inl (zA Z9))), (h, .inr (1, [.int (nI k), .ref hs, .int (nI n), .long (lN E)])), (hs, .inl (t 0, 40, .inl (pkA f)))])) (sz := H.size) (h := h) (hs := hs) (k := k) (n := n) (E := E) (f := f) (st := st) (u := q) (a := j) (wf_lg (w := w) (l := [(g, .inr (2, [.int (nI k), .ref pf, .ref pl, .ref pz, .ref pk, .ref pn, .ref pm, .int (nI n)])), (pl, .inl (t 0, 800, .inl (iA L2))), (pz, .inl (t 2, 200, .inl (zA Z9))), (h, .inr (1, [.int (nI k), .ref hs, .int (nI n), .long (lN E)])), (hs, .inl (t 0, 40, .inl (pkA f)))]) hN 3 rfl) (wf_lg (w := w) (l := [(g, .inr (2, [.int (nI k), .ref pf, .ref pl, .ref pz, .ref pk, .ref pn, .ref pm, .int (nI n)])), (pl, .inl (t 0, 800, .inl (iA L2))), (pz, .inl (t 2, 200, .inl (zA Z9))), (h, .inr (1, [.int (nI k), .ref hs, .int (nI n), .long (lN E)])), (hs, .inl (t 0, 40, .inl (pkA f)))]) hN 4 rfl) (by exact hm) (by omega) (by omega)) k_695 k_434 k_435 k_67 k_436 (wf_lg (w := w) (l := [(g, .inr (2, [.int (nI k), .ref pf, .ref pl, .ref pz, .ref pk, .ref pn, .ref pm, .int (nI n)])), (pl, .inl (t 0, 800, .inl (iA L2))), (pz, .inl (t 2, 200, .inl (zA Z9))), (h, .inr (1, [.int (nI k), .ref hs, .int (nI n), .long (lN E)])), (hs, .inl (t 0, 40, .inl (pkA f)))]) hN 3 rfl) cl_Mac rfl hd_Mac_step ⟨Nat.le_of_ble_eq_true rfl, Nat.le_of_ble_eq_true rfl⟩ ⟨Nat.le_of_ble_eq_true rfl, Nat.le_of_ble_eq_true rfl⟩ hl.1 (Nat.le_of_ble_eq_true rfl) d_Pla_take_61 rfl (fun r_61 w1 H locs hp hB => ?_)
      obtain ⟨rfl, hw_61⟩ := hp
      have hB : wf_B D wcl (wf_A w s.heap.size) s.heap (wf_l w [(g, .inr (2, [.int (nI k), .ref pf, .ref pl, .ref pz, .ref pk, .ref pn, .ref pm, .int (nI n)])), (pl, .inl (t 0, 800, .inl (iA L2))), (pz, .inl (t 2, 200, .inl (zA Z9))), (h, .inr (1, [.int (nI k), .ref hs, .int (nI n), .long (lN E)])), (hs, .inl (t 0, 40, .inl (pkA f)))]) H locs := wf_Bto hw_61 hB
      refine riastA X hB hN 1 (wl' := [(g, .inr (2, [.int (nI k), .ref pf, .ref pl, .ref pz, .ref pk, .ref pn, .ref pm, .int (nI n)])), (pl, .inl (t 0, 800, .inl (iA (nu L2 ((q * 4) + j) (stp k n st q j))))), (pz, .inl (t 2, 200, .inl (zA Z9))), (h, .inr (1, [.int (nI k), .ref hs, .int (nI n), .long (lN E)])), (hs, .inl (t 0, 40, .inl (pkA f)))]) rfl (i := (q * 4) + j) (by omega) (by decide) d_Pla_take_64 rfl (fun H locs hB => ?_)
      refine lv_iinc (v := nI (j + 1)) (lv' := [(5, .int (nI (j + 1))), (0, .ref g), (1, .ref h), (2, .long (lN S)), (4, .int (nI q))]) hx hb d_Pla_take_65 hl (k := 4) rfl (show nI j + nI 1 = nI (j + 1) from nI_add _ _) (by decide) rfl (fun ls hl => ?_)
      refine lv_goto (tgt := 36) hx hb d_Pla_take_68 (by decide) ?_
      exact ih (j + 1) (nu L2 ((q * 4) + j) (stp k n st q j)) (by omega) (by intro p a hp ha; by_cases e9 : p = q ∧ a = j; (rw [nu_e (by rw [e9.1, e9.2]), e9.1, e9.2]); rw [nu_n (by omega)]; exact hg p a (by omega) ha) (by omega) H locs ls (lv_sub hl [1, 2, 3, 4, 0] rfl) hB
set_option maxHeartbeats 4000000 in
set_option maxRecDepth 100000 in
theorem c_Pla_take_L11 {l : Launch} {D : va_G} {t : Nat → ClassId} {w : wf_W} {g pf pl pz pk pn pm k z : Nat} {L : Nat → Nat} {Z : Nat → Bool} {h hs n E S : Nat} {f : Nat → Int32} {st : Nat → Nat → Nat}  {p : Program} {e : Env} {s : State} {m : MethodId} {below : List Frame} {meth : Method} {c : Code} {Q : State → Prop} (X : Cx p s m meth c R_Pla "take" b_Pla_take 6 none D t) (hN : nd [g, pl, pz, h, hs]) (hP : w g = some (.inr (2, [.int (nI k), .ref pf, .ref pl, .ref pz, .ref pk, .ref pn, .ref pm, .int (nI z)]))) (hPl : w pl = some (.inl (t 0, 800, .inl (iA L)))) (hPz : w pz = some (.inl (t 2, 200, .inl (zA Z)))) (hM : w h = some (.inr (1, [.int (nI k), .ref hs, .int (nI n), .long (lN E)]))) (hF : w hs = some (.inl (t 0, 40, .inl (pkA f)))) (hm : mOK k n E f st) (hS : S < 2 ^ 64)
    (K_77 : ∀ (q : Nat) (L1 : Nat → Nat) (Z1 : Nat → Bool), (q ≤ n) → (∀ p a, p < q → a < k → L1 (p * 4 + a) = stp k n st p a) → (∀ p, p < q → Z1 p = S.testBit p) → (q = n) → ∀ (H : Heap) (locs : List Loc) (ls : Array Slot), lv_has ls 6 [(0, .ref g), (1, .ref h), (2, .long (lN S)), (4, .int (nI q))] → wf_B D wcl (wf_A w s.heap.size) s.heap (wf_l w [(g, .inr (2, [.int (nI k), .ref pf, .ref pl, .ref pz, .ref pk, .ref pn, .ref pm, .int (nI n)])), (pl, .inl (t 0, 800, .inl (iA L1))), (pz, .inl (t 2, 200, .inl (zA Z1))), (h, .inr (1, [.int (nI k), .ref hs, .int (nI n), .long (lN E)])), (hs, .inl (t 0, 40, .inl (pkA f)))]) H locs → W p l e (rmk 2 44 0 0) s m [.ref g, .ref h, .long (lN S)].toArray below meth c H locs 0 0 Q (F0 m 77 ls [])) :
    ∀ (fu : Nat) (q : Nat) (L1 : Nat → Nat) (Z1 : Nat → Bool), (q ≤ n) → (∀ p a, p < q → a < k → L1 (p * 4 + a) = stp k n st p a) → (∀ p, p < q → Z1 p = S.testBit p) → n - q < fu → ∀ (H : Heap) (locs : List Loc) (ls : Array Slot), lv_has ls 6 [(0, .ref g), (1, .ref h), (2, .long (lN S)), (4, .int (nI q))] → wf_B D wcl (wf_A w s.heap.size) s.heap (wf_l w [(g, .inr (2, [.int (nI k), .ref pf, .ref pl, .ref pz, .ref pk, .ref pn, .ref pm, .int (nI n)])), (pl, .inl (t 0, 800, .inl (iA L1))), (pz, .inl (t 2, 200, .inl (zA Z1))), (h, .inr (1, [.int (nI k), .ref hs, .int (nI n), .long (lN E)])), (hs, .inl (t 0, 40, .inl (pkA f)))]) H locs → W p l e (rmk 2 44 0 0) s m [.ref g, .ref h, .long (lN S)].toArray below meth c H locs 0 0 Q (F0 m 11 ls []) := by
  have hx := X.1
  have hb := X.2.1
  intro fu
  induction fu with
  | zero => intro q L1 Z1 hq hg hg2 hfu; exact absurd hfu (Nat.not_lt_zero _)
  | succ fu ih =>
    intro q L1 Z1 hq hg hg2 hfu H locs ls hl hB
    have hk := hm.1
    have hn := hm.2.1
    have hn0 := hm.2.2.1
    have hE := hm.E40
    refine lv_iload hx hb d_Pla_take_11 (lv_at hl 3 rfl) ?_
    refine lv_aload_n hx hb d_Pla_take_13 rfl (lv_at hl 0 rfl) ?_
    refine rgetL X hB hN 0 i_Pla rfl cl_Pla 7 (by decide) k_151 rfl rfl d_Pla_take_14 ?_
    refine wf_cge (tgt := 77) hx hb d_Pla_take_17 (by decide) (nI_toInt (by omega)) (nI_toInt (by omega)) (fun c_17 => ?_) (fun c_17 => ?_)
    · exact K_77 q L1 Z1 hq hg hg2 (by omega) H locs ls (lv_sub hl [0, 1, 2, 3] rfl) hB
    · have hq : q < n := by omega
      refine lv_aload_n hx hb d_Pla_take_20 rfl (lv_at hl 0 rfl) ?_
      refine rgetL X hB hN 0 i_Pla rfl cl_Pla 3 (by decide) k_147 rfl rfl d_Pla_take_21 ?_
      refine lv_iload hx hb d_Pla_take_24 (lv_at hl 3 rfl) ?_
      refine lv_lload_n hx hb d_Pla_take_26 rfl (lv_at hl 2 rfl) ?_
      refine lv_iload hx hb d_Pla_take_27 (lv_at hl 3 rfl) ?_
      refine callTi (As := [.long (lN S), .int (nI q)]) (rest := [.int (nI q), .ref pz]) X hB wf_hA (c_TM_isIn (l := l) (D := D) (t := t) (w := (wf_l w [(g, .inr (2, [.int (nI k), .ref pf, .ref pl, .ref pz, .ref pk, .ref pn, .ref pm, .int (nI n)])), (pl, .inl (t 0, 800, .inl (iA L1))), (pz, .inl (t 2, 200, .inl (zA Z1))), (h, .inr (1, [.int (nI k), .ref hs, .int (nI n), .long (lN E)])), (hs, .inl (t 0, 40, .inl (pkA f)))])) (sz := H.size) (S := S) (i := q) (by exact hS) (by omega)) k_694 k_378 k_64 k_379 hd_TM_isIn ⟨Nat.le_of_ble_eq_true rfl, Nat.le_of_ble_eq_true rfl⟩ ⟨Nat.le_of_ble_eq_true rfl, Nat.le_of_ble_eq_true rfl⟩ hl.1 (Nat.le_of_ble_eq_true rfl) d_Pla_take_29 rfl (fun r_29 w1 H locs hp hB => ?_)
      obtain ⟨rfl, hw_29⟩ := hp
      have hB : wf_B D wcl (wf_A w s.heap.size) s.heap (wf_l w [(g, .inr (2, [.int (nI k), .ref pf, .ref pl, .ref pz, .ref pk, .ref pn, .ref pm, .int (nI n)])), (pl, .inl (t 0, 800, .inl (iA L1))), (pz, .inl (t 2, 200, .inl (zA Z1))), (h, .inr (1, [.int (nI k), .ref hs, .int (nI n), .long (lN E)])), (hs, .inl (t 0, 40, .inl (pkA f)))]) H locs := wf_Bto hw_29 hB
      refine rzastA X hB hN 2 (wl' := [(g, .inr (2, [.int (nI k), .ref pf, .ref pl, .ref pz, .ref pk, .ref pn, .ref pm, .int (nI n)])), (pl, .inl (t 0, 800, .inl (iA L1))), (pz, .inl (t 2, 200, .inl (zA (nu Z1 q (S.testBit q))))), (h, .inr (1, [.int (nI k), .ref hs, .int (nI n), .long (lN E)])), (hs, .inl (t 0, 40, .inl (pkA f)))]) rfl (i := q) (by omega) (by decide) d_Pla_take_32 rfl (fun H locs hB => ?_)
      refine lv_iconst (v := nI 0) hx hb d_Pla_take_33 (by decide) ?_
      refine lv_istore (lv' := [(5, .int (nI 0)), (0, .ref g), (1, .ref h), (2, .long (lN S)), (4, .int (nI q))]) hx hb d_Pla_take_34 hl (by decide) rfl (fun ls hl => ?_)
      refine c_Pla_take_L36 (l := l) X hN hP hPl hPz hM hF hm hS hq (fun j L2 hj hg he H locs ls hl hB => ?_) (k - 0 + 1) 0 L1 (by omega) (by intro p a hp ha; exact hg p a (by omega) ha) (by omega) H locs ls (lv_sub hl [1, 2, 3, 4, 0] rfl) hB
      refine lv_iinc (v := nI (q + 1)) (lv' := [(4, .int (nI (q + 1))), (0, .ref g), (1, .ref h), (2, .long (lN S)), (5, .int (nI j))]) hx hb d_Pla_take_71 hl (k := 3) rfl (show nI q + nI 1 = nI (q + 1) from nI_add _ _) (by decide) rfl (fun ls hl => ?_)
      refine lv_goto (tgt := 11) hx hb d_Pla_take_74 (by decide) ?_
      exact ih (q + 1) L2 (nu Z1 q (S.testBit q)) (by omega) (by intro p a hp ha; exact hg p a (by omega) ha) (by intro p hp; by_cases e9 : p = q; (rw [nu_e e9, e9]); rw [nu_n e9]; exact hg2 p (by omega)) (by omega) H locs ls (lv_sub hl [1, 2, 3, 0] rfl) hB
set_option maxHeartbeats 4000000 in
set_option maxRecDepth 100000 in
theorem c_Pla_take {l : Launch} {D : va_G} {t : Nat → ClassId} {w : wf_W} {sz : Nat} {g pf pl pz pk pn pm k z : Nat} {L : Nat → Nat} {Z : Nat → Bool} {h hs n E S : Nat} {f : Nat → Int32} {st : Nat → Nat → Nat} (hN : nd [g, pl, pz, h, hs]) (hP : w g = some (.inr (2, [.int (nI k), .ref pf, .ref pl, .ref pz, .ref pk, .ref pn, .ref pm, .int (nI z)]))) (hPl : w pl = some (.inl (t 0, 800, .inl (iA L)))) (hPz : w pz = some (.inl (t 2, 200, .inl (zA Z)))) (hM : w h = some (.inr (1, [.int (nI k), .ref hs, .int (nI n), .long (lN E)]))) (hF : w hs = some (.inl (t 0, 40, .inl (pkA f)))) (hm : mOK k n E f st) (hS : S < 2 ^ 64) : Mv l y_Pla_take b_Pla_take 6 none 2 44 0 0 D t w sz [.ref g, .ref h, .long (lN S)] (fun w' => ∃ L0 : Nat → Nat, ∃ Z0 : Nat → Bool, (∀ p a, p < n → a < k → L0 (p * 4 + a) = stp k n st p a) ∧ (∀ p, p < n → Z0 p = S.testBit p) ∧ w' = wf_l w [(g, .inr (2, [.int (nI k), .ref pf, .ref pl, .ref pz, .ref pk, .ref pn, .ref pm, .int (nI n)])), (pl, .inl (t 0, 800, .inl (iA L0))), (pz, .inl (t 2, 200, .inl (zA Z0))), (h, .inr (1, [.int (nI k), .ref hs, .int (nI n), .long (lN E)])), (hs, .inl (t 0, 40, .inl (pkA f)))]) := by
  refine start_v (by decide) (Nat.le_of_ble_eq_true rfl) ?_
  intro p e s m below meth c ls H locs X hB hl
  have hx := X.1
  have hb := X.2.1
  have hl : lv_has ls 6 [(0, .ref g), (1, .ref h), (2, .long (lN S))] := hl
  have hB : wf_B D wcl (wf_A w s.heap.size) s.heap (wf_l w [(g, .inr (2, [.int (nI k), .ref pf, .ref pl, .ref pz, .ref pk, .ref pn, .ref pm, .int (nI z)])), (pl, .inl (t 0, 800, .inl (iA L))), (pz, .inl (t 2, 200, .inl (zA Z))), (h, .inr (1, [.int (nI k), .ref hs, .int (nI n), .long (lN E)])), (hs, .inl (t 0, 40, .inl (pkA f)))]) H locs := wf_Bto (wf_l5 hP hPl hPz hM hF).symm hB
  have hk := hm.1
  have hn := hm.2.1
  have hn0 := hm.2.2.1
  have hE := hm.E40
  refine lv_aload_n hx hb d_Pla_take_0 rfl (lv_at hl 0 rfl) ?_
  refine lv_aload_n hx hb d_Pla_take_1 rfl (lv_at hl 1 rfl) ?_
  refine rgetNL X hB hN 3 i_Mac rfl cl_Mac 2 (by decide) k_121 rfl rfl d_Pla_take_2 ?_
  refine rput X hB hN 0 (wl' := [(g, .inr (2, [.int (nI k), .ref pf, .ref pl, .ref pz, .ref pk, .ref pn, .ref pm, .int (nI n)])), (pl, .inl (t 0, 800, .inl (iA L))), (pz, .inl (t 2, 200, .inl (zA Z))), (h, .inr (1, [.int (nI k), .ref hs, .int (nI n), .long (lN E)])), (hs, .inl (t 0, 40, .inl (pkA f)))]) i_Pla t_Pla_ok n_Pla rfl cl_Pla 7 (by decide) k_151 rfl rfl rfl rfl (Nat.le_of_ble_eq_true rfl) d_Pla_take_5 rfl (fun H locs hB => ?_)
  refine lv_iconst (v := nI 0) hx hb d_Pla_take_8 (by decide) ?_
  refine lv_istore (lv' := [(4, .int (nI 0)), (0, .ref g), (1, .ref h), (2, .long (lN S))]) hx hb d_Pla_take_9 hl (by decide) rfl (fun ls hl => ?_)
  refine c_Pla_take_L11 (l := l) X hN hP hPl hPz hM hF hm hS (fun q L1 Z1 hq hg hg2 he H locs ls hl hB => ?_) (n - 0 + 1) 0 L Z (by omega) (by intro p a hp; omega) (by intro p hp; omega) (by omega) H locs ls (lv_sub hl [1, 2, 3, 0] rfl) hB
  refine ret_v X hB d_Pla_take_77 ?_
  subst he; exact ⟨L1, Z1, hg, hg2, rfl⟩
