def cAf (k n : Nat) (st : Nat → Nat → Nat) (n2 : Nat) (st2 : Nat → Nat → Nat) (S a : Nat) : Nat := stp k n st (S / 40) a * 40 + stp k n2 st2 (S % 40) a
def cWn (how n E n2 E2 S : Nat) : Bool := wnt how (inE n E (S / 40)) (inE n2 E2 (S % 40))
theorem cAf_lt {k n E n2 E2 : Nat} {f f2 : Nat → Int32} {st st2 : Nat → Nat → Nat} (hm : mOK k n E f st) (hm2 : mOK k n2 E2 f2 st2) (S a : Nat) : cAf k n st n2 st2 S a < 1600 := by
  unfold cAf
  have := stp_lt hm (S / 40) a
  have := stp_lt hm2 (S % 40) a
  have := hm.2.1
  have := hm2.2.1
  omega
theorem bfs_at {k i j : Nat} (hj : j < k) : (i * k + j) / k = i ∧ (i * k + j) % k = j := by
  have hk : 0 < k := by omega
  refine ⟨?_, ?_⟩
  · rw [Nat.mul_comm, Nat.mul_add_div hk, Nat.div_eq_of_lt hj, Nat.add_zero]
  · rw [Nat.mul_comm, Nat.mul_add_mod, Nat.mod_eq_of_lt hj]
theorem bfs_s {k i j : Nat} {A : Nat → Nat → Nat} {Qu : Nat → Nat} {cf : Nat → Int32} (h : rqO (bfs k A (i * k + j)) Qu cf) (hj : j < k) (hi : i < (bfs k A (i * k + j)).length) : bfs k A (i * k + j + 1) = if (bfs k A (i * k + j)).any (fun q => q.1 == A (Qu i) j) = true then bfs k A (i * k + j) else bfs k A (i * k + j) ++ [(A (Qu i) j, i, j)] := by
  have e := List.getElem?_eq_getElem hi
  have a := (h.1 i _ e).1
  obtain ⟨e1, e2⟩ := bfs_at (i := i) hj
  rw [bfs, e1, e2, e, a]
theorem bfs_new {k i j : Nat} {A : Nat → Nat → Nat} {Qu : Nat → Nat} {cf : Nat → Int32} (h : rqO (bfs k A (i * k + j)) Qu cf) (hj : j < k) (hi : i < (bfs k A (i * k + j)).length) (hc : cf (A (Qu i) j) = -1) : bfs k A (i * k + j + 1) = bfs k A (i * k + j) ++ [(A (Qu i) j, i, j)] := by
  rw [bfs_s h hj hi, if_neg]
  intro hq
  obtain ⟨p, hp, he⟩ := List.any_eq_true.mp hq
  obtain ⟨q, hq⟩ := List.getElem?_of_mem hp
  exact rqO_no h hc q p hq (by simpa using he)
theorem bfs_old {k i j : Nat} {A : Nat → Nat → Nat} {Qu : Nat → Nat} {cf : Nat → Int32} (h : rqO (bfs k A (i * k + j)) Qu cf) (hj : j < k) (hi : i < (bfs k A (i * k + j)).length) (hv : A (Qu i) j < 1600) (hc : cf (A (Qu i) j) ≠ -1) : bfs k A (i * k + j + 1) = bfs k A (i * k + j) := by
  rw [bfs_s h hj hi, if_pos]
  refine Classical.byContradiction fun hq => hc (h.2.1 _ hv (fun q p hp e => hq ?_))
  exact List.any_eq_true.mpr ⟨p, List.mem_of_getElem? hp, by simpa using e⟩
/-- the place from which, and the letter by which -/
def bpr (ll : List (Nat × Nat × Nat)) (i : Nat) : Nat := (ll[i]?.getD (0, 0, 0)).2.1
def blt (ll : List (Nat × Nat × Nat)) (i : Nat) : Nat := (ll[i]?.getD (0, 0, 0)).2.2
def bup (ll : List (Nat × Nat × Nat)) (i : Nat) : Nat → Nat
  | 0 => i
  | j + 1 => bpr ll (bup ll i j)
theorem bup_lt {ll : List (Nat × Nat × Nat)} {Qu : Nat → Nat} {cf : Nat → Int32} (h : rqO ll Qu cf) {i : Nat} (hi : i < ll.length) : ∀ j, bup ll i j < ll.length
  | 0 => hi
  | j + 1 => by
    have ih := bup_lt h hi j
    have e := List.getElem?_eq_getElem ih
    have := (h.1 _ _ e).2.2.1
    rw [bup, bpr, e]
    show (ll[bup ll i j]).2.1 < _
    omega
theorem rqO_cf {ll : List (Nat × Nat × Nat)} {Qu : Nat → Nat} {cf : Nat → Int32} (h : rqO ll Qu cf) {i : Nat} (hi : i < ll.length) : Qu i < 1600 ∧ blt ll i < 4 ∧ cf (Qu i) = if i = 0 then -2 else nI (Qu (bpr ll i) * 4 + blt ll i) := by
  have e := List.getElem?_eq_getElem hi
  obtain ⟨a1, a2, a3, a4, a5⟩ := h.1 i _ e
  rw [bpr, blt, e, a1]
  exact ⟨a2, a4, a5⟩
set_option maxHeartbeats 4000000 in
set_option maxRecDepth 100000 in
theorem c_Com_search_L111 {l : Launch} {D : va_G} {t : Nat → ClassId} {w : wf_W} {cm cq cy k z how : Nat} {Qu : Nat → Nat} {cf : Nat → Int32} {h hs n E o os n2 E2 : Nat} {f f2 : Nat → Int32} {st st2 : Nat → Nat → Nat} {v i : Nat} {p : Program} {e : Env} {s : State} {m : MethodId} {below : List Frame} {meth : Method} {c : Code} {Q : State → Prop} (X : Cx p s m meth c R_Com "search" b_Com_search 9 (some .int) D t) (hN : nd [cm, cq, cy]) (hO : apart [h, hs, o, os] [cm, cq, cy]) (hC : w cm = some (.inr (8, [.int (nI k), .ref cq, .ref cy, .int (nI z)]))) (hQ : w cq = some (.inl (t 0, 1600, .inl (iA Qu)))) (hY : w cy = some (.inl (t 0, 1600, .inl cf))) (hM : w h = some (.inr (1, [.int (nI k), .ref hs, .int (nI n), .long (lN E)]))) (hF : w hs = some (.inl (t 0, 40, .inl (pkA f)))) (hM2 : w o = some (.inr (1, [.int (nI k), .ref os, .int (nI n2), .long (lN E2)]))) (hF2 : w os = some (.inl (t 0, 40, .inl (pkA f2)))) (hm : mOK k n E f st) (hm2 : mOK k n2 E2 f2 st2) (hh : how < 2 ^ 31)
    (K_166 : ∀ (j : Nat) (z2 : Nat) (Q2 : Nat → Nat) (c3 : Nat → Int32), (j ≤ k) → (rqO (bfs k (cAf k n st n2 st2) (i * k + j)) Q2 c3) → ((bfs k (cAf k n st n2 st2) (i * k + j)).length = z2) → (i < z2) → (Q2 i = v) → (∀ i1, i1 < (i + 1) → cWn how n E n2 E2 (Q2 i1) = false) → (j = k) → ∀ (H : Heap) (locs : List Loc) (ls : Array Slot), lv_has ls 9 [(0, .ref cm), (1, .int (nI how)), (2, .ref h), (3, .ref o), (4, .int (nI i)), (5, .int (nI (v / 40))), (6, .int (nI (v % 40))), (7, .int (nI j))] → wf_B D wcl (wf_A w s.heap.size) s.heap (wf_l w [(cm, .inr (8, [.int (nI k), .ref cq, .ref cy, .int (nI z2)])), (cq, .inl (t 0, 1600, .inl (iA Q2))), (cy, .inl (t 0, 1600, .inl c3))]) H locs → W p l e (rmk 2 44 0 0) s m [.ref cm, .int (nI how), .ref h, .ref o].toArray below meth c H locs 0 0 Q (F0 m 166 ls [])) :
    ∀ (fu : Nat) (j : Nat) (z2 : Nat) (Q2 : Nat → Nat) (c3 : Nat → Int32), (j ≤ k) → (rqO (bfs k (cAf k n st n2 st2) (i * k + j)) Q2 c3) → ((bfs k (cAf k n st n2 st2) (i * k + j)).length = z2) → (i < z2) → (Q2 i = v) → (∀ i1, i1 < (i + 1) → cWn how n E n2 E2 (Q2 i1) = false) → k - j < fu → ∀ (H : Heap) (locs : List Loc) (ls : Array Slot), lv_has ls 9 [(0, .ref cm), (1, .int (nI how)), (2, .ref h), (3, .ref o), (4, .int (nI i)), (5, .int (nI (v / 40))), (6, .int (nI (v % 40))), (7, .int (nI j))] → wf_B D wcl (wf_A w s.heap.size) s.heap (wf_l w [(cm, .inr (8, [.int (nI k), .ref cq, .ref cy, .int (nI z2)])), (cq, .inl (t 0, 1600, .inl (iA Q2))), (cy, .inl (t 0, 1600, .inl c3))]) H locs → W p l e (rmk 2 44 0 0) s m [.ref cm, .int (nI how), .ref h, .ref o].toArray below meth c H locs 0 0 Q (F0 m 111 ls []) := by
  have hx := X.1
  have hb := X.2.1
  intro fu
  induction fu with
  | zero => intro j z2 Q2 c3 hj hq hlen hiz hqv hno hfu; exact absurd hfu (Nat.not_lt_zero _)
  | succ fu ih =>
    intro j z2 Q2 c3 hj hq hlen hiz hqv hno hfu H locs ls hl hB
    have hk := hm.1
    have hn := hm.2.1
    have hE := hm.E40
    have hn2 := hm2.2.1
    have hE2 := hm2.E40
    have hlen1 := rqO_len hq
    have hca := cAf_lt hm hm2 v j
    have hcf := rqO_cf hq (i := i) (by omega)
    have hs1 := stp_lt hm (v / 40) j
    have hs2 := stp_lt hm2 (v % 40) j
    refine lv_iload hx hb d_Com_search_111 (lv_at hl 7 rfl) ?_
    refine lv_aload_n hx hb d_Com_search_113 rfl (lv_at hl 0 rfl) ?_
    refine rgetL X hB hN 0 i_Com rfl cl_Com 0 (by decide) k_242 rfl rfl d_Com_search_114 ?_
    refine wf_cge (tgt := 166) hx hb d_Com_search_117 (by decide) (nI_toInt (by omega)) (nI_toInt (by omega)) (fun c_117 => ?_) (fun c_117 => ?_)
    · exact K_166 j z2 Q2 c3 hj hq hlen hiz hqv hno (by omega) H locs ls (lv_sub hl [0, 1, 2, 3, 4, 5, 6, 7] rfl) hB
    · refine lv_aload_n hx hb d_Com_search_120 rfl (lv_at hl 2 rfl) ?_
      refine lv_iload hx hb d_Com_search_121 (lv_at hl 5 rfl) ?_
      refine lv_iload hx hb d_Com_search_123 (lv_at hl 7 rfl) ?_
      refine callVi (As := [.int (nI (v / 40)), .int (nI j)]) (rest := []) X hB wf_hA (c_Mac_step (l := l) (D := D) (t := t) (w := (wf_l w [(cm, .inr (8, [.int (nI k), .ref cq, .ref cy, .int (nI z2)])), (cq, .inl (t 0, 1600, .inl (iA Q2))), (cy, .inl (t 0, 1600, .inl c3))])) (sz := H.size) (h := h) (hs := hs) (k := k) (n := n) (E := E) (f := f) (st := st) (u := v / 40) (a := j) (wf_ro (w := w) (wl := [(cm, .inr (8, [.int (nI k), .ref cq, .ref cy, .int (nI z2)])), (cq, .inl (t 0, 1600, .inl (iA Q2))), (cy, .inl (t 0, 1600, .inl c3))]) hO 0 rfl hM) (wf_ro (w := w) (wl := [(cm, .inr (8, [.int (nI k), .ref cq, .ref cy, .int (nI z2)])), (cq, .inl (t 0, 1600, .inl (iA Q2))), (cy, .inl (t 0, 1600, .inl c3))]) hO 1 rfl hF) (by exact hm) (by omega) (by omega)) k_792 k_434 k_435 k_67 k_436 (wf_ro (w := w) (wl := [(cm, .inr (8, [.int (nI k), .ref cq, .ref cy, .int (nI z2)])), (cq, .inl (t 0, 1600, .inl (iA Q2))), (cy, .inl (t 0, 1600, .inl c3))]) hO 0 rfl hM) cl_Mac rfl hd_Mac_step ⟨Nat.le_of_ble_eq_true rfl, Nat.le_of_ble_eq_true rfl⟩ ⟨Nat.le_of_ble_eq_true rfl, Nat.le_of_ble_eq_true rfl⟩ hl.1 (Nat.le_of_ble_eq_true rfl) d_Com_search_125 rfl (fun r_125 w1 H locs hp hB => ?_)
      obtain ⟨rfl, hw_125⟩ := hp
      have hB : wf_B D wcl (wf_A w s.heap.size) s.heap (wf_l w [(cm, .inr (8, [.int (nI k), .ref cq, .ref cy, .int (nI z2)])), (cq, .inl (t 0, 1600, .inl (iA Q2))), (cy, .inl (t 0, 1600, .inl c3))]) H locs := wf_Bto hw_125 hB
      refine lv_bipush (v := nI 40) hx hb d_Com_search_128 (by decide) ?_
      refine wf_imul (x := stp k n st (v / 40) j) (y := 40) hx hb d_Com_search_130 ?_
      refine lv_aload_n hx hb d_Com_search_131 rfl (lv_at hl 3 rfl) ?_
      refine lv_iload hx hb d_Com_search_132 (lv_at hl 6 rfl) ?_
      refine lv_iload hx hb d_Com_search_134 (lv_at hl 7 rfl) ?_
      refine callVi (As := [.int (nI (v % 40)), .int (nI j)]) (rest := [.int (nI ((stp k n st (v / 40) j) * 40))]) X hB wf_hA (c_Mac_step (l := l) (D := D) (t := t) (w := (wf_l w [(cm, .inr (8, [.int (nI k), .ref cq, .ref cy, .int (nI z2)])), (cq, .inl (t 0, 1600, .inl (iA Q2))), (cy, .inl (t 0, 1600, .inl c3))])) (sz := H.size) (h := o) (hs := os) (k := k) (n := n2) (E := E2) (f := f2) (st := st2) (u := v % 40) (a := j) (wf_ro (w := w) (wl := [(cm, .inr (8, [.int (nI k), .ref cq, .ref cy, .int (nI z2)])), (cq, .inl (t 0, 1600, .inl (iA Q2))), (cy, .inl (t 0, 1600, .inl c3))]) hO 2 rfl hM2) (wf_ro (w := w) (wl := [(cm, .inr (8, [.int (nI k), .ref cq, .ref cy, .int (nI z2)])), (cq, .inl (t 0, 1600, .inl (iA Q2))), (cy, .inl (t 0, 1600, .inl c3))]) hO 3 rfl hF2) (by exact hm2) (by omega) (by omega)) k_792 k_434 k_435 k_67 k_436 (wf_ro (w := w) (wl := [(cm, .inr (8, [.int (nI k), .ref cq, .ref cy, .int (nI z2)])), (cq, .inl (t 0, 1600, .inl (iA Q2))), (cy, .inl (t 0, 1600, .inl c3))]) hO 2 rfl hM2) cl_Mac rfl hd_Mac_step ⟨Nat.le_of_ble_eq_true rfl, Nat.le_of_ble_eq_true rfl⟩ ⟨Nat.le_of_ble_eq_true rfl, Nat.le_of_ble_eq_true rfl⟩ hl.1 (Nat.le_of_ble_eq_true rfl) d_Com_search_136 rfl (fun r_136 w1 H locs hp hB => ?_)
      obtain ⟨rfl, hw_136⟩ := hp
      have hB : wf_B D wcl (wf_A w s.heap.size) s.heap (wf_l w [(cm, .inr (8, [.int (nI k), .ref cq, .ref cy, .int (nI z2)])), (cq, .inl (t 0, 1600, .inl (iA Q2))), (cy, .inl (t 0, 1600, .inl c3))]) H locs := wf_Bto hw_136 hB
      refine wf_iadd (x := (stp k n st (v / 40) j) * 40) (y := stp k n2 st2 (v % 40) j) hx hb d_Com_search_139 ?_
      refine wf_ti (y := nI (cAf k n st n2 st2 v j)) (by rfl) ?_
      refine lv_istore (lv' := [(8, .int (nI (cAf k n st n2 st2 v j))), (0, .ref cm), (1, .int (nI how)), (2, .ref h), (3, .ref o), (4, .int (nI i)), (5, .int (nI (v / 40))), (6, .int (nI (v % 40))), (7, .int (nI j))]) hx hb d_Com_search_140 hl (by decide) rfl (fun ls hl => ?_)
      refine lv_aload_n hx hb d_Com_search_142 rfl (lv_at hl 1 rfl) ?_
      refine lv_iload hx hb d_Com_search_143 (lv_at hl 0 rfl) ?_
      refine lv_aload_n hx hb d_Com_search_145 rfl (lv_at hl 1 rfl) ?_
      refine rgetL X hB hN 0 i_Com rfl cl_Com 1 (by decide) k_243 rfl rfl d_Com_search_146 ?_
      refine lv_iload hx hb d_Com_search_149 (lv_at hl 5 rfl) ?_
      refine rialdL X hB hN 1 rfl (i := i) (by omega) (by decide) d_Com_search_151 ?_
      refine wf_ti (y := nI (Q2 i)) rfl ?_
      refine wf_ti (y := nI v) (by rw [hqv]) ?_
      refine lv_iconst (v := nI 4) hx hb d_Com_search_152 (by decide) ?_
      refine wf_imul (x := v) (y := 4) hx hb d_Com_search_153 ?_
      refine lv_iload hx hb d_Com_search_154 (lv_at hl 8 rfl) ?_
      refine wf_iadd (x := v * 4) (y := j) hx hb d_Com_search_156 ?_
      refine callVv (As := [.int (nI (cAf k n st n2 st2 v j)), .int (nI ((v * 4) + j))]) (rest := []) X hB wf_hA (c_Com_enqueue (l := l) (D := D) (t := t) (w := (wf_l w [(cm, .inr (8, [.int (nI k), .ref cq, .ref cy, .int (nI z2)])), (cq, .inl (t 0, 1600, .inl (iA Q2))), (cy, .inl (t 0, 1600, .inl c3))])) (sz := H.size) (cm := cm) (cq := cq) (cy := cy) (k := k) (z := z2) (Qu := Q2) (cf := c3) (v := cAf k n st n2 st2 v j) (by1 := nI ((v * 4) + j)) (nd_sub hN [0, 1, 2] rfl (by decide)) (wf_lg (w := w) (l := [(cm, .inr (8, [.int (nI k), .ref cq, .ref cy, .int (nI z2)])), (cq, .inl (t 0, 1600, .inl (iA Q2))), (cy, .inl (t 0, 1600, .inl c3))]) hN 0 rfl) (wf_lg (w := w) (l := [(cm, .inr (8, [.int (nI k), .ref cq, .ref cy, .int (nI z2)])), (cq, .inl (t 0, 1600, .inl (iA Q2))), (cy, .inl (t 0, 1600, .inl c3))]) hN 1 rfl) (wf_lg (w := w) (l := [(cm, .inr (8, [.int (nI k), .ref cq, .ref cy, .int (nI z2)])), (cq, .inl (t 0, 1600, .inl (iA Q2))), (cy, .inl (t 0, 1600, .inl c3))]) hN 2 rfl) (by omega) (by omega) (by intro hc9; (have g9 := rqO_len1 hq hca (rqO_no hq hc9)); omega)) k_786 k_788 k_29 k_73 k_789 (wf_lg (w := w) (l := [(cm, .inr (8, [.int (nI k), .ref cq, .ref cy, .int (nI z2)])), (cq, .inl (t 0, 1600, .inl (iA Q2))), (cy, .inl (t 0, 1600, .inl c3))]) hN 0 rfl) cl_Com rfl hd_Com_enqueue ⟨Nat.le_of_ble_eq_true rfl, Nat.le_of_ble_eq_true rfl⟩ ⟨Nat.le_of_ble_eq_true rfl, Nat.le_of_ble_eq_true rfl⟩ hl.1 (Nat.le_of_ble_eq_true rfl) d_Com_search_157 rfl (fun w1 H locs hp hB => ?_)
      rcases hp with ⟨hc_157, hw_157⟩ | ⟨hc_157, hw_157⟩
      · have hB : wf_B D wcl (wf_A w s.heap.size) s.heap (wf_l w [(cm, .inr (8, [.int (nI k), .ref cq, .ref cy, .int (nI (z2 + 1))])), (cq, .inl (t 0, 1600, .inl (iA (nu Q2 z2 (cAf k n st n2 st2 v j))))), (cy, .inl (t 0, 1600, .inl (upd c3 (cAf k n st n2 st2 v j) (nI ((v * 4) + j)))))]) H locs := wf_Bto (hw_157.trans (wlw (L1 := [(cm, .inr (8, [.int (nI k), .ref cq, .ref cy, .int (nI (z2 + 1))])), (cq, .inl (t 0, 1600, .inl (iA Q2))), (cy, .inl (t 0, 1600, .inl c3))]) hN 0 rfl rfl (wlw (L1 := [(cm, .inr (8, [.int (nI k), .ref cq, .ref cy, .int (nI (z2 + 1))])), (cq, .inl (t 0, 1600, .inl (iA (nu Q2 z2 (cAf k n st n2 st2 v j))))), (cy, .inl (t 0, 1600, .inl c3))]) hN 1 rfl rfl (wlw (L1 := [(cm, .inr (8, [.int (nI k), .ref cq, .ref cy, .int (nI (z2 + 1))])), (cq, .inl (t 0, 1600, .inl (iA (nu Q2 z2 (cAf k n st n2 st2 v j))))), (cy, .inl (t 0, 1600, .inl (upd c3 (cAf k n st n2 st2 v j) (nI ((v * 4) + j)))))]) hN 2 rfl rfl rfl)))) hB
        refine lv_iinc (v := nI (j + 1)) (lv' := [(7, .int (nI (j + 1))), (8, .int (nI (cAf k n st n2 st2 v j))), (0, .ref cm), (1, .int (nI how)), (2, .ref h), (3, .ref o), (4, .int (nI i)), (5, .int (nI (v / 40))), (6, .int (nI (v % 40)))]) hx hb d_Com_search_160 hl (k := 8) rfl (show nI j + nI 1 = nI (j + 1) from nI_add _ _) (by decide) rfl (fun ls hl => ?_)
        refine lv_goto (tgt := 111) hx hb d_Com_search_163 (by decide) ?_
        exact ih (j + 1) (z2 + 1) (nu Q2 z2 (cAf k n st n2 st2 v j)) (upd c3 (cAf k n st n2 st2 v j) (nI ((v * 4) + j))) (by omega) (by first | (rw [show i * k + (j + 1) = i * k + j + 1 from rfl, bfs_new hq (by omega) (by omega) (by rw [hqv]; exact hc_157), hqv]; have g9 := rqO_add hq (q := i) (b := j) (by omega) hca (by omega) (by omega) (rqO_no hq hc_157); rw [hlen, hqv] at g9; exact g9) | (rw [show i * k + (j + 1) = i * k + j + 1 from rfl, bfs_old hq (by omega) (by omega) (by rw [hqv]; exact hca) (by rw [hqv]; exact hc_157)]; exact hq)) (by first | (rw [show i * k + (j + 1) = i * k + j + 1 from rfl, bfs_new hq (by omega) (by omega) (by rw [hqv]; exact hc_157), List.length_append, hlen]; rfl) | (rw [show i * k + (j + 1) = i * k + j + 1 from rfl, bfs_old hq (by omega) (by omega) (by rw [hqv]; exact hca) (by rw [hqv]; exact hc_157)]; exact hlen)) (by omega) (by first | exact hqv | (rw [nu_n (by omega)]; exact hqv)) (by first | exact hno | (intro i1 h1; rw [nu_n (by omega)]; exact hno i1 h1)) (by omega) H locs ls (lv_sub hl [2, 3, 4, 5, 6, 7, 8, 0] rfl) hB
      · have hB : wf_B D wcl (wf_A w s.heap.size) s.heap (wf_l w [(cm, .inr (8, [.int (nI k), .ref cq, .ref cy, .int (nI z2)])), (cq, .inl (t 0, 1600, .inl (iA Q2))), (cy, .inl (t 0, 1600, .inl c3))]) H locs := wf_Bto (hw_157.trans (wlw (L1 := [(cm, .inr (8, [.int (nI k), .ref cq, .ref cy, .int (nI z2)])), (cq, .inl (t 0, 1600, .inl (iA Q2))), (cy, .inl (t 0, 1600, .inl c3))]) hN 0 rfl rfl (wlw (L1 := [(cm, .inr (8, [.int (nI k), .ref cq, .ref cy, .int (nI z2)])), (cq, .inl (t 0, 1600, .inl (iA Q2))), (cy, .inl (t 0, 1600, .inl c3))]) hN 1 rfl rfl (wlw (L1 := [(cm, .inr (8, [.int (nI k), .ref cq, .ref cy, .int (nI z2)])), (cq, .inl (t 0, 1600, .inl (iA Q2))), (cy, .inl (t 0, 1600, .inl c3))]) hN 2 rfl rfl rfl)))) hB
        refine lv_iinc (v := nI (j + 1)) (lv' := [(7, .int (nI (j + 1))), (8, .int (nI (cAf k n st n2 st2 v j))), (0, .ref cm), (1, .int (nI how)), (2, .ref h), (3, .ref o), (4, .int (nI i)), (5, .int (nI (v / 40))), (6, .int (nI (v % 40)))]) hx hb d_Com_search_160 hl (k := 8) rfl (show nI j + nI 1 = nI (j + 1) from nI_add _ _) (by decide) rfl (fun ls hl => ?_)
        refine lv_goto (tgt := 111) hx hb d_Com_search_163 (by decide) ?_
        exact ih (j + 1) z2 Q2 c3 (by omega) (by first | (rw [show i * k + (j + 1) = i * k + j + 1 from rfl, bfs_new hq (by omega) (by omega) (by rw [hqv]; exact hc_157), hqv]; have g9 := rqO_add hq (q := i) (b := j) (by omega) hca (by omega) (by omega) (rqO_no hq hc_157); rw [hlen, hqv] at g9; exact g9) | (rw [show i * k + (j + 1) = i * k + j + 1 from rfl, bfs_old hq (by omega) (by omega) (by rw [hqv]; exact hca) (by rw [hqv]; exact hc_157)]; exact hq)) (by first | (rw [show i * k + (j + 1) = i * k + j + 1 from rfl, bfs_new hq (by omega) (by omega) (by rw [hqv]; exact hc_157), List.length_append, hlen]; rfl) | (rw [show i * k + (j + 1) = i * k + j + 1 from rfl, bfs_old hq (by omega) (by omega) (by rw [hqv]; exact hca) (by rw [hqv]; exact hc_157)]; exact hlen)) (by omega) (by first | exact hqv | (rw [nu_n (by omega)]; exact hqv)) (by first | exact hno | (intro i1 h1; rw [nu_n (by omega)]; exact hno i1 h1)) (by omega) H locs ls (lv_sub hl [2, 3, 4, 5, 6, 7, 8, 0] rfl) hB
set_option maxHeartbeats 4000000 in
set_option maxRecDepth 100000 in
theorem c_Com_search_L40 {l : Launch} {D : va_G} {t : Nat → ClassId} {w : wf_W} {cm cq cy k z how : Nat} {Qu : Nat → Nat} {cf : Nat → Int32} {h hs n E o os n2 E2 : Nat} {f f2 : Nat → Int32} {st st2 : Nat → Nat → Nat}  {p : Program} {e : Env} {s : State} {m : MethodId} {below : List Frame} {meth : Method} {c : Code} (X : Cx p s m meth c R_Com "search" b_Com_search 9 (some .int) D t) (hN : nd [cm, cq, cy]) (hO : apart [h, hs, o, os] [cm, cq, cy]) (hC : w cm = some (.inr (8, [.int (nI k), .ref cq, .ref cy, .int (nI z)]))) (hQ : w cq = some (.inl (t 0, 1600, .inl (iA Qu)))) (hY : w cy = some (.inl (t 0, 1600, .inl cf))) (hM : w h = some (.inr (1, [.int (nI k), .ref hs, .int (nI n), .long (lN E)]))) (hF : w hs = some (.inl (t 0, 40, .inl (pkA f)))) (hM2 : w o = some (.inr (1, [.int (nI k), .ref os, .int (nI n2), .long (lN E2)]))) (hF2 : w os = some (.inl (t 0, 40, .inl (pkA f2)))) (hm : mOK k n E f st) (hm2 : mOK k n2 E2 f2 st2) (hh : how < 2 ^ 31)
    (K_172 : ∀ (i : Nat) (z1 : Nat) (Q1 : Nat → Nat) (c2 : Nat → Int32), (rqO (bfs k (cAf k n st n2 st2) (i * k)) Q1 c2) → ((bfs k (cAf k n st n2 st2) (i * k)).length = z1) → (i ≤ z1) → (∀ i1, i1 < i → cWn how n E n2 E2 (Q1 i1) = false) → (i = z1) → ∀ (H : Heap) (locs : List Loc) (ls : Array Slot), lv_has ls 9 [(0, .ref cm), (1, .int (nI how)), (2, .ref h), (3, .ref o), (4, .int (nI i))] → wf_B D wcl (wf_A w s.heap.size) s.heap (wf_l w [(cm, .inr (8, [.int (nI k), .ref cq, .ref cy, .int (nI z1)])), (cq, .inl (t 0, 1600, .inl (iA Q1))), (cy, .inl (t 0, 1600, .inl c2))]) H locs → W p l e (rmk 2 44 0 0) s m [.ref cm, .int (nI how), .ref h, .ref o].toArray below meth c H locs 0 0 (MQ below (wf_Qi D wcl w (fun r w' => (∃ i0 : Nat, ∃ z0 : Nat, ∃ Q0 : Nat → Nat, ∃ c0 : Nat → Int32, (rqO (bfs k (cAf k n st n2 st2) (i0 * k)) Q0 c0) ∧ ((bfs k (cAf k n st n2 st2) (i0 * k)).length = z0 ∧ i0 < z0) ∧ (∀ i1, i1 < i0 → cWn how n E n2 E2 (Q0 i1) = false) ∧ (cWn how n E n2 E2 (Q0 i0) = true) ∧ r = (nI (Q0 i0)) ∧ w' = wf_l w [(cm, .inr (8, [.int (nI k), .ref cq, .ref cy, .int (nI z0)])), (cq, .inl (t 0, 1600, .inl (iA Q0))), (cy, .inl (t 0, 1600, .inl c0))]) ∨ (∃ z0 : Nat, ∃ Q0 : Nat → Nat, ∃ c0 : Nat → Int32, (rqO (bfs k (cAf k n st n2 st2) (z0 * k)) Q0 c0) ∧ ((bfs k (cAf k n st n2 st2) (z0 * k)).length = z0) ∧ (∀ i1, i1 < z0 → cWn how n E n2 E2 (Q0 i1) = false) ∧ r = (-1) ∧ w' = wf_l w [(cm, .inr (8, [.int (nI k), .ref cq, .ref cy, .int (nI z0)])), (cq, .inl (t 0, 1600, .inl (iA Q0))), (cy, .inl (t 0, 1600, .inl c0))])) s.heap.size) [.ref cm, .int (nI how), .ref h, .ref o].toArray s 0 0 (wf_A w s.heap.size)) (F0 m 172 ls [])) :
    ∀ (fu : Nat) (i : Nat) (z1 : Nat) (Q1 : Nat → Nat) (c2 : Nat → Int32), (rqO (bfs k (cAf k n st n2 st2) (i * k)) Q1 c2) → ((bfs k (cAf k n st n2 st2) (i * k)).length = z1) → (i ≤ z1) → (∀ i1, i1 < i → cWn how n E n2 E2 (Q1 i1) = false) → 1600 - i < fu → ∀ (H : Heap) (locs : List Loc) (ls : Array Slot), lv_has ls 9 [(0, .ref cm), (1, .int (nI how)), (2, .ref h), (3, .ref o), (4, .int (nI i))] → wf_B D wcl (wf_A w s.heap.size) s.heap (wf_l w [(cm, .inr (8, [.int (nI k), .ref cq, .ref cy, .int (nI z1)])), (cq, .inl (t 0, 1600, .inl (iA Q1))), (cy, .inl (t 0, 1600, .inl c2))]) H locs → W p l e (rmk 2 44 0 0) s m [.ref cm, .int (nI how), .ref h, .ref o].toArray below meth c H locs 0 0 (MQ below (wf_Qi D wcl w (fun r w' => (∃ i0 : Nat, ∃ z0 : Nat, ∃ Q0 : Nat → Nat, ∃ c0 : Nat → Int32, (rqO (bfs k (cAf k n st n2 st2) (i0 * k)) Q0 c0) ∧ ((bfs k (cAf k n st n2 st2) (i0 * k)).length = z0 ∧ i0 < z0) ∧ (∀ i1, i1 < i0 → cWn how n E n2 E2 (Q0 i1) = false) ∧ (cWn how n E n2 E2 (Q0 i0) = true) ∧ r = (nI (Q0 i0)) ∧ w' = wf_l w [(cm, .inr (8, [.int (nI k), .ref cq, .ref cy, .int (nI z0)])), (cq, .inl (t 0, 1600, .inl (iA Q0))), (cy, .inl (t 0, 1600, .inl c0))]) ∨ (∃ z0 : Nat, ∃ Q0 : Nat → Nat, ∃ c0 : Nat → Int32, (rqO (bfs k (cAf k n st n2 st2) (z0 * k)) Q0 c0) ∧ ((bfs k (cAf k n st n2 st2) (z0 * k)).length = z0) ∧ (∀ i1, i1 < z0 → cWn how n E n2 E2 (Q0 i1) = false) ∧ r = (-1) ∧ w' = wf_l w [(cm, .inr (8, [.int (nI k), .ref cq, .ref cy, .int (nI z0)])), (cq, .inl (t 0, 1600, .inl (iA Q0))), (cy, .inl (t 0, 1600, .inl c0))])) s.heap.size) [.ref cm, .int (nI how), .ref h, .ref o].toArray s 0 0 (wf_A w s.heap.size)) (F0 m 40 ls []) := by
  have hx := X.1
  have hb := X.2.1
  intro fu
  induction fu with
  | zero => intro i z1 Q1 c2 hq hlen hiz hno hfu; exact absurd hfu (Nat.not_lt_zero _)
  | succ fu ih =>
    intro i z1 Q1 c2 hq hlen hiz hno hfu H locs ls hl hB
    have hk := hm.1
    have hn := hm.2.1
    have hE := hm.E40
    have hn2 := hm2.2.1
    have hE2 := hm2.E40
    have hlen1 := rqO_len hq
    refine lv_iload hx hb d_Com_search_40 (lv_at hl 4 rfl) ?_
    refine lv_aload_n hx hb d_Com_search_42 rfl (lv_at hl 0 rfl) ?_
    refine rgetL X hB hN 0 i_Com rfl cl_Com 3 (by decide) k_245 rfl rfl d_Com_search_43 ?_
    refine wf_cge (tgt := 172) hx hb d_Com_search_46 (by decide) (nI_toInt (by omega)) (nI_toInt (by omega)) (fun c_46 => ?_) (fun c_46 => ?_)
    · exact K_172 i z1 Q1 c2 hq hlen hiz hno (by omega) H locs ls (lv_sub hl [0, 1, 2, 3, 4] rfl) hB
    · refine lv_iload hx hb d_Com_search_49 (lv_at hl 4 rfl) ?_
      refine lv_sipush (v := nI 1600) hx hb d_Com_search_51 (by decide) ?_
      refine wf_cge (tgt := 172) hx hb d_Com_search_54 (by decide) (nI_toInt (by omega)) (nI_toInt (by omega)) (fun c_54 => ?_) (fun c_54 => ?_)
      · exact K_172 i z1 Q1 c2 hq hlen hiz hno (by omega) H locs ls (lv_sub hl [0, 1, 2, 3, 4] rfl) hB
      · have hi : i < z1 := by omega
        have hcf := rqO_cf hq (i := i) (by omega)
        refine lv_aload_n hx hb d_Com_search_57 rfl (lv_at hl 0 rfl) ?_
        refine rgetL X hB hN 0 i_Com rfl cl_Com 1 (by decide) k_243 rfl rfl d_Com_search_58 ?_
        refine lv_iload hx hb d_Com_search_61 (lv_at hl 4 rfl) ?_
        refine rialdL X hB hN 1 rfl (i := i) (by omega) (by decide) d_Com_search_63 ?_
        refine wf_ti (y := nI (Q1 i)) rfl ?_
        refine lv_bipush (v := nI 40) hx hb d_Com_search_64 (by decide) ?_
        refine wf_idiv (x := Q1 i) (y := 40) hx hb d_Com_search_66 (by omega) (by omega) (by omega) ?_
        refine lv_istore (lv' := [(5, .int (nI ((Q1 i) / 40))), (0, .ref cm), (1, .int (nI how)), (2, .ref h), (3, .ref o), (4, .int (nI i))]) hx hb d_Com_search_67 hl (by decide) rfl (fun ls hl => ?_)
        refine lv_aload_n hx hb d_Com_search_69 rfl (lv_at hl 1 rfl) ?_
        refine rgetL X hB hN 0 i_Com rfl cl_Com 1 (by decide) k_243 rfl rfl d_Com_search_70 ?_
        refine lv_iload hx hb d_Com_search_73 (lv_at hl 5 rfl) ?_
        refine rialdL X hB hN 1 rfl (i := i) (by omega) (by decide) d_Com_search_75 ?_
        refine wf_ti (y := nI (Q1 i)) rfl ?_
        refine lv_bipush (v := nI 40) hx hb d_Com_search_76 (by decide) ?_
        refine wf_irem (x := Q1 i) (y := 40) hx hb d_Com_search_78 (by omega) (by omega) (by omega) ?_
        refine lv_istore (lv' := [(6, .int (nI ((Q1 i) % 40))), (5, .int (nI ((Q1 i) / 40))), (0, .ref cm), (1, .int (nI how)), (2, .ref h), (3, .ref o), (4, .int (nI i))]) hx hb d_Com_search_79 hl (by decide) rfl (fun ls hl => ?_)
        refine lv_iload_n hx hb d_Com_search_81 rfl (lv_at hl 3 rfl) ?_
        refine lv_aload_n hx hb d_Com_search_82 rfl (lv_at hl 4 rfl) ?_
        refine lv_iload hx hb d_Com_search_83 (lv_at hl 1 rfl) ?_
        refine callVi (As := [.int (nI ((Q1 i) / 40))]) (rest := [.int (nI how)]) X hB wf_hA (c_Mac_isEnd (l := l) (D := D) (t := t) (w := (wf_l w [(cm, .inr (8, [.int (nI k), .ref cq, .ref cy, .int (nI z1)])), (cq, .inl (t 0, 1600, .inl (iA Q1))), (cy, .inl (t 0, 1600, .inl c2))])) (sz := H.size) (h := h) (hs := hs) (k := k) (n := n) (E := E) (u := (Q1 i) / 40) (wf_ro (w := w) (wl := [(cm, .inr (8, [.int (nI k), .ref cq, .ref cy, .int (nI z1)])), (cq, .inl (t 0, 1600, .inl (iA Q1))), (cy, .inl (t 0, 1600, .inl c2))]) hO 0 rfl hM) (by omega) (by omega) (by omega)) k_790 k_374 k_375 k_67 k_376 (wf_ro (w := w) (wl := [(cm, .inr (8, [.int (nI k), .ref cq, .ref cy, .int (nI z1)])), (cq, .inl (t 0, 1600, .inl (iA Q1))), (cy, .inl (t 0, 1600, .inl c2))]) hO 0 rfl hM) cl_Mac rfl hd_Mac_isEnd ⟨Nat.le_of_ble_eq_true rfl, Nat.le_of_ble_eq_true rfl⟩ ⟨Nat.le_of_ble_eq_true rfl, Nat.le_of_ble_eq_true rfl⟩ hl.1 (Nat.le_of_ble_eq_true rfl) d_Com_search_85 rfl (fun r_85 w1 H locs hp hB => ?_)
        obtain ⟨rfl, hw_85⟩ := hp
        have hB : wf_B D wcl (wf_A w s.heap.size) s.heap (wf_l w [(cm, .inr (8, [.int (nI k), .ref cq, .ref cy, .int (nI z1)])), (cq, .inl (t 0, 1600, .inl (iA Q1))), (cy, .inl (t 0, 1600, .inl c2))]) H locs := wf_Bto hw_85 hB
        refine lv_aload_n hx hb d_Com_search_88 rfl (lv_at hl 5 rfl) ?_
        refine lv_iload hx hb d_Com_search_89 (lv_at hl 0 rfl) ?_
        refine callVi (As := [.int (nI ((Q1 i) % 40))]) (rest := [.int (bI (decide (((Q1 i) / 40) < n) && E.testBit ((Q1 i) / 40))), .int (nI how)]) X hB wf_hA (c_Mac_isEnd (l := l) (D := D) (t := t) (w := (wf_l w [(cm, .inr (8, [.int (nI k), .ref cq, .ref cy, .int (nI z1)])), (cq, .inl (t 0, 1600, .inl (iA Q1))), (cy, .inl (t 0, 1600, .inl c2))])) (sz := H.size) (h := o) (hs := os) (k := k) (n := n2) (E := E2) (u := (Q1 i) % 40) (wf_ro (w := w) (wl := [(cm, .inr (8, [.int (nI k), .ref cq, .ref cy, .int (nI z1)])), (cq, .inl (t 0, 1600, .inl (iA Q1))), (cy, .inl (t 0, 1600, .inl c2))]) hO 2 rfl hM2) (by omega) (by omega) (by omega)) k_790 k_374 k_375 k_67 k_376 (wf_ro (w := w) (wl := [(cm, .inr (8, [.int (nI k), .ref cq, .ref cy, .int (nI z1)])), (cq, .inl (t 0, 1600, .inl (iA Q1))), (cy, .inl (t 0, 1600, .inl c2))]) hO 2 rfl hM2) cl_Mac rfl hd_Mac_isEnd ⟨Nat.le_of_ble_eq_true rfl, Nat.le_of_ble_eq_true rfl⟩ ⟨Nat.le_of_ble_eq_true rfl, Nat.le_of_ble_eq_true rfl⟩ hl.1 (Nat.le_of_ble_eq_true rfl) d_Com_search_91 rfl (fun r_91 w1 H locs hp hB => ?_)
        obtain ⟨rfl, hw_91⟩ := hp
        have hB : wf_B D wcl (wf_A w s.heap.size) s.heap (wf_l w [(cm, .inr (8, [.int (nI k), .ref cq, .ref cy, .int (nI z1)])), (cq, .inl (t 0, 1600, .inl (iA Q1))), (cy, .inl (t 0, 1600, .inl c2))]) H locs := wf_Bto hw_91 hB
        refine callTi (As := [.int (nI how), .int (bI (decide (((Q1 i) / 40) < n) && E.testBit ((Q1 i) / 40))), .int (bI (decide (((Q1 i) % 40) < n2) && E2.testBit ((Q1 i) % 40)))]) (rest := []) X hB wf_hA (c_TM_isWanted (l := l) (D := D) (t := t) (w := (wf_l w [(cm, .inr (8, [.int (nI k), .ref cq, .ref cy, .int (nI z1)])), (cq, .inl (t 0, 1600, .inl (iA Q1))), (cy, .inl (t 0, 1600, .inl c2))])) (sz := H.size) (how := how) (x := decide (((Q1 i) / 40) < n) && E.testBit ((Q1 i) / 40)) (y := decide (((Q1 i) % 40) < n2) && E2.testBit ((Q1 i) % 40)) (by exact hh)) k_791 k_419 k_64 k_420 hd_TM_isWanted ⟨Nat.le_of_ble_eq_true rfl, Nat.le_of_ble_eq_true rfl⟩ ⟨Nat.le_of_ble_eq_true rfl, Nat.le_of_ble_eq_true rfl⟩ hl.1 (Nat.le_of_ble_eq_true rfl) d_Com_search_94 rfl (fun r_94 w1 H locs hp hB => ?_)
        obtain ⟨rfl, hw_94⟩ := hp
        have hB : wf_B D wcl (wf_A w s.heap.size) s.heap (wf_l w [(cm, .inr (8, [.int (nI k), .ref cq, .ref cy, .int (nI z1)])), (cq, .inl (t 0, 1600, .inl (iA Q1))), (cy, .inl (t 0, 1600, .inl c2))]) H locs := wf_Bto hw_94 hB
        refine wf_beq (tgt := 108) hx hb d_Com_search_97 (by decide) (fun c_97 => ?_) (fun c_97 => ?_)
        · refine lv_iconst (v := nI 0) hx hb d_Com_search_108 (by decide) ?_
          refine lv_istore (lv' := [(7, .int (nI 0)), (6, .int (nI ((Q1 i) % 40))), (5, .int (nI ((Q1 i) / 40))), (0, .ref cm), (1, .int (nI how)), (2, .ref h), (3, .ref o), (4, .int (nI i))]) hx hb d_Com_search_109 hl (by decide) rfl (fun ls hl => ?_)
          refine c_Com_search_L111 (l := l) X hN hO hC hQ hY hM hF hM2 hF2 hm hm2 hh (fun j z2 Q2 c3 hj hq hlen hiz hqv hno he H locs ls hl hB => ?_) (k - 0 + 1) 0 z1 Q1 c2 (by omega) (by exact hq) (by exact hlen) (by omega) (by rfl) (by intro i1 h1; by_cases e9 : i1 = i; (rw [e9]; exact c_97); exact hno i1 (by omega)) (by omega) H locs ls (lv_sub hl [3, 4, 5, 6, 7, 2, 1, 0] rfl) hB
          refine lv_iinc (v := nI (i + 1)) (lv' := [(4, .int (nI (i + 1))), (0, .ref cm), (1, .int (nI how)), (2, .ref h), (3, .ref o), (5, .int (nI ((Q1 i) / 40))), (6, .int (nI ((Q1 i) % 40))), (7, .int (nI j))]) hx hb d_Com_search_166 hl (k := 4) rfl (show nI i + nI 1 = nI (i + 1) from nI_add _ _) (by decide) rfl (fun ls hl => ?_)
          refine lv_goto (tgt := 40) hx hb d_Com_search_169 (by decide) ?_
          exact ih (i + 1) z2 Q2 c3 (by subst he; rw [Nat.succ_mul]; exact hq) (by subst he; rw [Nat.succ_mul]; exact hlen) (by omega) (by exact hno) (by omega) H locs ls (lv_sub hl [1, 2, 3, 4, 0] rfl) hB
        · refine lv_aload_n hx hb d_Com_search_100 rfl (lv_at hl 2 rfl) ?_
          refine rgetL X hB hN 0 i_Com rfl cl_Com 1 (by decide) k_243 rfl rfl d_Com_search_101 ?_
          refine lv_iload hx hb d_Com_search_104 (lv_at hl 6 rfl) ?_
          refine rialdL X hB hN 1 rfl (i := i) (by omega) (by decide) d_Com_search_106 ?_
          refine wf_ti (y := nI (Q1 i)) rfl ?_
          refine ret_i X hB d_Com_search_107 ?_
          exact Or.inl ⟨i, z1, Q1, c2, hq, ⟨hlen, hi⟩, hno, c_97, rfl, rfl⟩
set_option maxHeartbeats 4000000 in
set_option maxRecDepth 100000 in
theorem c_Com_search_L3 {l : Launch} {D : va_G} {t : Nat → ClassId} {w : wf_W} {cm cq cy k z how : Nat} {Qu : Nat → Nat} {cf : Nat → Int32} {h hs n E o os n2 E2 : Nat} {f f2 : Nat → Int32} {st st2 : Nat → Nat → Nat}  {p : Program} {e : Env} {s : State} {m : MethodId} {below : List Frame} {meth : Method} {c : Code} {Q : State → Prop} (X : Cx p s m meth c R_Com "search" b_Com_search 9 (some .int) D t) (hN : nd [cm, cq, cy]) (hO : apart [h, hs, o, os] [cm, cq, cy]) (hC : w cm = some (.inr (8, [.int (nI k), .ref cq, .ref cy, .int (nI z)]))) (hQ : w cq = some (.inl (t 0, 1600, .inl (iA Qu)))) (hY : w cy = some (.inl (t 0, 1600, .inl cf))) (hM : w h = some (.inr (1, [.int (nI k), .ref hs, .int (nI n), .long (lN E)]))) (hF : w hs = some (.inl (t 0, 40, .inl (pkA f)))) (hM2 : w o = some (.inr (1, [.int (nI k), .ref os, .int (nI n2), .long (lN E2)]))) (hF2 : w os = some (.inl (t 0, 40, .inl (pkA f2)))) (hm : mOK k n E f st) (hm2 : mOK k n2 E2 f2 st2) (hh : how < 2 ^ 31)
    (K_25 : ∀ (v1 : Nat) (c1 : Nat → Int32), (v1 ≤ 1600) → (∀ j1, j1 < v1 → c1 j1 = -1) → (v1 = 1600) → ∀ (H : Heap) (locs : List Loc) (ls : Array Slot), lv_has ls 9 [(0, .ref cm), (1, .int (nI how)), (2, .ref h), (3, .ref o), (4, .int (nI v1))] → wf_B D wcl (wf_A w s.heap.size) s.heap (wf_l w [(cm, .inr (8, [.int (nI k), .ref cq, .ref cy, .int (nI z)])), (cq, .inl (t 0, 1600, .inl (iA Qu))), (cy, .inl (t 0, 1600, .inl c1))]) H locs → W p l e (rmk 2 44 0 0) s m [.ref cm, .int (nI how), .ref h, .ref o].toArray below meth c H locs 0 0 Q (F0 m 25 ls [])) :
    ∀ (fu : Nat) (v1 : Nat) (c1 : Nat → Int32), (v1 ≤ 1600) → (∀ j1, j1 < v1 → c1 j1 = -1) → 1600 - v1 < fu → ∀ (H : Heap) (locs : List Loc) (ls : Array Slot), lv_has ls 9 [(0, .ref cm), (1, .int (nI how)), (2, .ref h), (3, .ref o), (4, .int (nI v1))] → wf_B D wcl (wf_A w s.heap.size) s.heap (wf_l w [(cm, .inr (8, [.int (nI k), .ref cq, .ref cy, .int (nI z)])), (cq, .inl (t 0, 1600, .inl (iA Qu))), (cy, .inl (t 0, 1600, .inl c1))]) H locs → W p l e (rmk 2 44 0 0) s m [.ref cm, .int (nI how), .ref h, .ref o].toArray below meth c H locs 0 0 Q (F0 m 3 ls []) := by
  have hx := X.1
  have hb := X.2.1
  intro fu
  induction fu with
  | zero => intro v1 c1 hv1 hg hfu; exact absurd hfu (Nat.not_lt_zero _)
  | succ fu ih =>
    intro v1 c1 hv1 hg hfu H locs ls hl hB
    refine lv_iload hx hb d_Com_search_3 (lv_at hl 4 rfl) ?_
    refine lv_sipush (v := nI 1600) hx hb d_Com_search_5 (by decide) ?_
    refine wf_cge (tgt := 25) hx hb d_Com_search_8 (by decide) (nI_toInt (by omega)) (nI_toInt (by omega)) (fun c_8 => ?_) (fun c_8 => ?_)
    · exact K_25 v1 c1 hv1 hg (by omega) H locs ls (lv_sub hl [0, 1, 2, 3, 4] rfl) hB
    · refine lv_aload_n hx hb d_Com_search_11 rfl (lv_at hl 0 rfl) ?_
      refine rgetL X hB hN 0 i_Com rfl cl_Com 2 (by decide) k_244 rfl rfl d_Com_search_12 ?_
      refine lv_iload hx hb d_Com_search_15 (lv_at hl 4 rfl) ?_
      refine lv_iconst (v := (-1)) hx hb d_Com_search_17 (by decide) ?_
      refine riast X hB hN 2 (wl' := [(cm, .inr (8, [.int (nI k), .ref cq, .ref cy, .int (nI z)])), (cq, .inl (t 0, 1600, .inl (iA Qu))), (cy, .inl (t 0, 1600, .inl (upd c1 v1 (-1))))]) rfl (i := v1) (by omega) (by decide) d_Com_search_18 rfl (fun H locs hB => ?_)
      refine lv_iinc (v := nI (v1 + 1)) (lv' := [(4, .int (nI (v1 + 1))), (0, .ref cm), (1, .int (nI how)), (2, .ref h), (3, .ref o)]) hx hb d_Com_search_19 hl (k := 4) rfl (show nI v1 + nI 1 = nI (v1 + 1) from nI_add _ _) (by decide) rfl (fun ls hl => ?_)
      refine lv_goto (tgt := 3) hx hb d_Com_search_22 (by decide) ?_
      exact ih (v1 + 1) (upd c1 v1 (-1)) (by omega) (by intro j1 h1; by_cases e9 : j1 = v1; (rw [e9, pk_us]); rw [pk_un e9]; exact hg j1 (by omega)) (by omega) H locs ls (lv_sub hl [1, 2, 3, 4, 0] rfl) hB
set_option maxHeartbeats 4000000 in
set_option maxRecDepth 100000 in
theorem c_Com_search {l : Launch} {D : va_G} {t : Nat → ClassId} {w : wf_W} {sz : Nat} {cm cq cy k z how : Nat} {Qu : Nat → Nat} {cf : Nat → Int32} {h hs n E o os n2 E2 : Nat} {f f2 : Nat → Int32} {st st2 : Nat → Nat → Nat} (hN : nd [cm, cq, cy]) (hO : apart [h, hs, o, os] [cm, cq, cy]) (hC : w cm = some (.inr (8, [.int (nI k), .ref cq, .ref cy, .int (nI z)]))) (hQ : w cq = some (.inl (t 0, 1600, .inl (iA Qu)))) (hY : w cy = some (.inl (t 0, 1600, .inl cf))) (hM : w h = some (.inr (1, [.int (nI k), .ref hs, .int (nI n), .long (lN E)]))) (hF : w hs = some (.inl (t 0, 40, .inl (pkA f)))) (hM2 : w o = some (.inr (1, [.int (nI k), .ref os, .int (nI n2), .long (lN E2)]))) (hF2 : w os = some (.inl (t 0, 40, .inl (pkA f2)))) (hm : mOK k n E f st) (hm2 : mOK k n2 E2 f2 st2) (hh : how < 2 ^ 31) : Mi l y_Com_search b_Com_search 9 (some .int) 2 44 0 0 D t w sz [.ref cm, .int (nI how), .ref h, .ref o] (fun r w' => (∃ i0 : Nat, ∃ z0 : Nat, ∃ Q0 : Nat → Nat, ∃ c0 : Nat → Int32, (rqO (bfs k (cAf k n st n2 st2) (i0 * k)) Q0 c0) ∧ ((bfs k (cAf k n st n2 st2) (i0 * k)).length = z0 ∧ i0 < z0) ∧ (∀ i1, i1 < i0 → cWn how n E n2 E2 (Q0 i1) = false) ∧ (cWn how n E n2 E2 (Q0 i0) = true) ∧ r = (nI (Q0 i0)) ∧ w' = wf_l w [(cm, .inr (8, [.int (nI k), .ref cq, .ref cy, .int (nI z0)])), (cq, .inl (t 0, 1600, .inl (iA Q0))), (cy, .inl (t 0, 1600, .inl c0))]) ∨ (∃ z0 : Nat, ∃ Q0 : Nat → Nat, ∃ c0 : Nat → Int32, (rqO (bfs k (cAf k n st n2 st2) (z0 * k)) Q0 c0) ∧ ((bfs k (cAf k n st n2 st2) (z0 * k)).length = z0) ∧ (∀ i1, i1 < z0 → cWn how n E n2 E2 (Q0 i1) = false) ∧ r = (-1) ∧ w' = wf_l w [(cm, .inr (8, [.int (nI k), .ref cq, .ref cy, .int (nI z0)])), (cq, .inl (t 0, 1600, .inl (iA Q0))), (cy, .inl (t 0, 1600, .inl c0))])) := by
  refine start_i (by decide) (Nat.le_of_ble_eq_true rfl) ?_
  intro p e s m below meth c ls H locs X hB hl
  have hx := X.1
  have hb := X.2.1
  have hl : lv_has ls 9 [(0, .ref cm), (1, .int (nI how)), (2, .ref h), (3, .ref o)] := hl
  have hB : wf_B D wcl (wf_A w s.heap.size) s.heap (wf_l w [(cm, .inr (8, [.int (nI k), .ref cq, .ref cy, .int (nI z)])), (cq, .inl (t 0, 1600, .inl (iA Qu))), (cy, .inl (t 0, 1600, .inl cf))]) H locs := wf_Bto (wf_l3 hC hQ hY).symm hB
  have hk := hm.1
  have hn := hm.2.1
  have hE := hm.E40
  have hn2 := hm2.2.1
  have hE2 := hm2.E40
  refine lv_iconst (v := nI 0) hx hb d_Com_search_0 (by decide) ?_
  refine lv_istore (lv' := [(4, .int (nI 0)), (0, .ref cm), (1, .int (nI how)), (2, .ref h), (3, .ref o)]) hx hb d_Com_search_1 hl (by decide) rfl (fun ls hl => ?_)
  refine c_Com_search_L3 (l := l) X hN hO hC hQ hY hM hF hM2 hF2 hm hm2 hh (fun v1 c1 hv1 hg he H locs ls hl hB => ?_) (1600 - 0 + 1) 0 cf (by omega) (by intro j1 h1; omega) (by omega) H locs ls (lv_sub hl [1, 2, 3, 4, 0] rfl) hB
  refine lv_aload_n hx hb d_Com_search_25 rfl (lv_at hl 0 rfl) ?_
  refine lv_iconst (v := nI 0) hx hb d_Com_search_26 (by decide) ?_
  refine rput X hB hN 0 (wl' := [(cm, .inr (8, [.int (nI k), .ref cq, .ref cy, .int (nI 0)])), (cq, .inl (t 0, 1600, .inl (iA Qu))), (cy, .inl (t 0, 1600, .inl c1))]) i_Com t_Com_ok n_Com rfl cl_Com 3 (by decide) k_245 rfl rfl rfl rfl (Nat.le_of_ble_eq_true rfl) d_Com_search_27 rfl (fun H locs hB => ?_)
  refine lv_aload_n hx hb d_Com_search_30 rfl (lv_at hl 0 rfl) ?_
  refine lv_iconst (v := nI 0) hx hb d_Com_search_31 (by decide) ?_
  refine lv_bipush (v := (-2)) hx hb d_Com_search_32 (by decide) ?_
  refine callVv (As := [.int (nI 0), .int (-2)]) (rest := []) X hB wf_hA (c_Com_enqueue (l := l) (D := D) (t := t) (w := (wf_l w [(cm, .inr (8, [.int (nI k), .ref cq, .ref cy, .int (nI 0)])), (cq, .inl (t 0, 1600, .inl (iA Qu))), (cy, .inl (t 0, 1600, .inl c1))])) (sz := H.size) (cm := cm) (cq := cq) (cy := cy) (k := k) (z := 0) (Qu := Qu) (cf := c1) (v := 0) (by1 := (-2)) (nd_sub hN [0, 1, 2] rfl (by decide)) (wf_lg (w := w) (l := [(cm, .inr (8, [.int (nI k), .ref cq, .ref cy, .int (nI 0)])), (cq, .inl (t 0, 1600, .inl (iA Qu))), (cy, .inl (t 0, 1600, .inl c1))]) hN 0 rfl) (wf_lg (w := w) (l := [(cm, .inr (8, [.int (nI k), .ref cq, .ref cy, .int (nI 0)])), (cq, .inl (t 0, 1600, .inl (iA Qu))), (cy, .inl (t 0, 1600, .inl c1))]) hN 1 rfl) (wf_lg (w := w) (l := [(cm, .inr (8, [.int (nI k), .ref cq, .ref cy, .int (nI 0)])), (cq, .inl (t 0, 1600, .inl (iA Qu))), (cy, .inl (t 0, 1600, .inl c1))]) hN 2 rfl) (by omega) (by omega) (by intro _; decide)) k_786 k_788 k_29 k_73 k_789 (wf_lg (w := w) (l := [(cm, .inr (8, [.int (nI k), .ref cq, .ref cy, .int (nI 0)])), (cq, .inl (t 0, 1600, .inl (iA Qu))), (cy, .inl (t 0, 1600, .inl c1))]) hN 0 rfl) cl_Com rfl hd_Com_enqueue ⟨Nat.le_of_ble_eq_true rfl, Nat.le_of_ble_eq_true rfl⟩ ⟨Nat.le_of_ble_eq_true rfl, Nat.le_of_ble_eq_true rfl⟩ hl.1 (Nat.le_of_ble_eq_true rfl) d_Com_search_34 rfl (fun w1 H locs hp hB => ?_)
  rcases hp with ⟨hc_34, hw_34⟩ | ⟨hc_34, hw_34⟩
  · have hB : wf_B D wcl (wf_A w s.heap.size) s.heap (wf_l w [(cm, .inr (8, [.int (nI k), .ref cq, .ref cy, .int (nI (0 + 1))])), (cq, .inl (t 0, 1600, .inl (iA (nu Qu 0 0)))), (cy, .inl (t 0, 1600, .inl (upd c1 0 (-2))))]) H locs := wf_Bto (hw_34.trans (wlw (L1 := [(cm, .inr (8, [.int (nI k), .ref cq, .ref cy, .int (nI (0 + 1))])), (cq, .inl (t 0, 1600, .inl (iA Qu))), (cy, .inl (t 0, 1600, .inl c1))]) hN 0 rfl rfl (wlw (L1 := [(cm, .inr (8, [.int (nI k), .ref cq, .ref cy, .int (nI (0 + 1))])), (cq, .inl (t 0, 1600, .inl (iA (nu Qu 0 0)))), (cy, .inl (t 0, 1600, .inl c1))]) hN 1 rfl rfl (wlw (L1 := [(cm, .inr (8, [.int (nI k), .ref cq, .ref cy, .int (nI (0 + 1))])), (cq, .inl (t 0, 1600, .inl (iA (nu Qu 0 0)))), (cy, .inl (t 0, 1600, .inl (upd c1 0 (-2))))]) hN 2 rfl rfl rfl)))) hB
    refine lv_iconst (v := nI 0) hx hb d_Com_search_37 (by decide) ?_
    refine lv_istore (lv' := [(4, .int (nI 0)), (0, .ref cm), (1, .int (nI how)), (2, .ref h), (3, .ref o)]) hx hb d_Com_search_38 hl (by decide) rfl (fun ls hl => ?_)
    refine c_Com_search_L40 (l := l) X hN hO hC hQ hY hM hF hM2 hF2 hm hm2 hh (fun i z1 Q1 c2 hq hlen hiz hno he H locs ls hl hB => ?_) (1600 - 0 + 1) 0 1 (nu Qu 0 0) (upd c1 0 (-2)) (by rw [Nat.zero_mul]; exact rqO_0 (fun j h1 => hg j (by omega))) (by rw [Nat.zero_mul]; rfl) (by omega) (by intro i1 h1; omega) (by omega) H locs ls (lv_sub hl [1, 2, 3, 4, 0] rfl) hB
    refine lv_iconst (v := (-1)) hx hb d_Com_search_172 (by decide) ?_
    refine ret_i X hB d_Com_search_173 ?_
    subst he; exact Or.inr ⟨i, Q1, c2, hq, hlen, hno, rfl, rfl⟩
  · have hB : wf_B D wcl (wf_A w s.heap.size) s.heap (wf_l w [(cm, .inr (8, [.int (nI k), .ref cq, .ref cy, .int (nI 0)])), (cq, .inl (t 0, 1600, .inl (iA Qu))), (cy, .inl (t 0, 1600, .inl c1))]) H locs := wf_Bto (hw_34.trans (wlw (L1 := [(cm, .inr (8, [.int (nI k), .ref cq, .ref cy, .int (nI 0)])), (cq, .inl (t 0, 1600, .inl (iA Qu))), (cy, .inl (t 0, 1600, .inl c1))]) hN 0 rfl rfl (wlw (L1 := [(cm, .inr (8, [.int (nI k), .ref cq, .ref cy, .int (nI 0)])), (cq, .inl (t 0, 1600, .inl (iA Qu))), (cy, .inl (t 0, 1600, .inl c1))]) hN 1 rfl rfl (wlw (L1 := [(cm, .inr (8, [.int (nI k), .ref cq, .ref cy, .int (nI 0)])), (cq, .inl (t 0, 1600, .inl (iA Qu))), (cy, .inl (t 0, 1600, .inl c1))]) hN 2 rfl rfl rfl)))) hB
    exact absurd (hg 0 (by omega)) hc_34
set_option maxHeartbeats 4000000 in
set_option maxRecDepth 100000 in
theorem c_Com_tellWay_L10 {l : Launch} {D : va_G} {t : Nat → ClassId} {w : wf_W} {cm cq cy k z zo i d o oi : Nat} {Qu : Nat → Nat} {cf rf : Nat → Int32} {ll : List (Nat × Nat × Nat)}  {p : Program} {e : Env} {s : State} {m : MethodId} {below : List Frame} {meth : Method} {c : Code} {Q : State → Prop} (X : Cx p s m meth c R_Com "tellWay" b_Com_tellWay 6 none D t) (hN : nd [cm, cy, o, oi]) (hC : w cm = some (.inr (8, [.int (nI k), .ref cq, .ref cy, .int (nI z)]))) (hY : w cy = some (.inl (t 0, 1600, .inl cf))) (hR : w o = some (.inr (0, [.ref oi, .int (nI zo)]))) (hI : w oi = some (.inl (t 0, 100, .inl rf))) (hzo : zo ≤ 100) (hq : rqO ll Qu cf) (hi : i < ll.length) (hd : d ≤ 100) (hd1 : bup ll i d = 0) (hd2 : ∀ j, j < d → bup ll i j ≠ 0)
    (K_69 : ∀ (j : Nat) (r1 : Nat → Int32), (j ≤ d) → (∀ x1, x1 < j → r1 x1 = nI (blt ll (bup ll i x1))) → (j = d) → ∀ (H : Heap) (locs : List Loc) (ls : Array Slot), lv_has ls 6 [(0, .ref cm), (2, .ref o), (3, .int (nI (Qu (bup ll i j)))), (4, .int (nI j))] → wf_B D wcl (wf_A w s.heap.size) s.heap (wf_l w [(cm, .inr (8, [.int (nI k), .ref cq, .ref cy, .int (nI z)])), (cy, .inl (t 0, 1600, .inl cf)), (o, .inr (0, [.ref oi, .int (nI j)])), (oi, .inl (t 0, 100, .inl r1))]) H locs → W p l e (rmk 1 22 0 0) s m [.ref cm, .int (nI (Qu i)), .ref o].toArray below meth c H locs 0 0 Q (F0 m 69 ls [])) :
    ∀ (fu : Nat) (j : Nat) (r1 : Nat → Int32), (j ≤ d) → (∀ x1, x1 < j → r1 x1 = nI (blt ll (bup ll i x1))) → d - j < fu → ∀ (H : Heap) (locs : List Loc) (ls : Array Slot), lv_has ls 6 [(0, .ref cm), (2, .ref o), (3, .int (nI (Qu (bup ll i j)))), (4, .int (nI j))] → wf_B D wcl (wf_A w s.heap.size) s.heap (wf_l w [(cm, .inr (8, [.int (nI k), .ref cq, .ref cy, .int (nI z)])), (cy, .inl (t 0, 1600, .inl cf)), (o, .inr (0, [.ref oi, .int (nI j)])), (oi, .inl (t 0, 100, .inl r1))]) H locs → W p l e (rmk 1 22 0 0) s m [.ref cm, .int (nI (Qu i)), .ref o].toArray below meth c H locs 0 0 Q (F0 m 10 ls []) := by
  have hx := X.1
  have hb := X.2.1
  intro fu
  induction fu with
  | zero => intro j r1 hj hg hfu; exact absurd hfu (Nat.not_lt_zero _)
  | succ fu ih =>
    intro j r1 hj hg hfu H locs ls hl hB
    have hcf := rqO_cf hq (bup_lt hq hi j)
    have hcf2 := rqO_cf hq (bup_lt hq hi (j + 1))
    refine lv_iload hx hb d_Com_tellWay_10 (lv_at hl 3 rfl) ?_
    refine lv_bipush (v := nI 100) hx hb d_Com_tellWay_12 (by decide) ?_
    refine wf_cge (tgt := 69) hx hb d_Com_tellWay_14 (by decide) (nI_toInt (by omega)) (nI_toInt (by omega)) (fun c_14 => ?_) (fun c_14 => ?_)
    · exact K_69 j r1 hj hg (by first | omega | (refine Classical.byContradiction fun e9 => ?_; rw [if_neg (hd2 j (by omega))] at hcf; rw [hcf.2.2, nI_toInt (by have := hcf2.1; have : Qu (bpr ll (bup ll i j)) < 1600 := hcf2.1; omega)] at c_43; omega)) H locs ls (lv_sub hl [0, 1, 2, 3] rfl) hB
    · refine lv_iload_n hx hb d_Com_tellWay_17 rfl (lv_at hl 2 rfl) ?_
      refine wf_zlt (tgt := 37) hx hb d_Com_tellWay_18 (by decide) (nI_toInt (by omega)) (fun c_18 => ?_) (fun c_18 => ?_)
      · exact absurd c_18 (by omega)
      · refine lv_iload_n hx hb d_Com_tellWay_21 rfl (lv_at hl 2 rfl) ?_
        refine lv_sipush (v := nI 1600) hx hb d_Com_tellWay_22 (by decide) ?_
        refine wf_cge (tgt := 37) hx hb d_Com_tellWay_25 (by decide) (nI_toInt (by omega)) (nI_toInt (by omega)) (fun c_25 => ?_) (fun c_25 => ?_)
        · exact absurd c_25 (by omega)
        · refine lv_aload_n hx hb d_Com_tellWay_28 rfl (lv_at hl 0 rfl) ?_
          refine rgetL X hB hN 0 i_Com rfl cl_Com 2 (by decide) k_244 rfl rfl d_Com_tellWay_29 ?_
          refine lv_iload_n hx hb d_Com_tellWay_32 rfl (lv_at hl 2 rfl) ?_
          refine rialdL X hB hN 1 rfl (i := Qu (bup ll i j)) (by omega) (by decide) d_Com_tellWay_33 ?_
          refine lv_goto (tgt := 39) hx hb d_Com_tellWay_34 (by decide) ?_
          refine lv_istore (lv' := [(5, .int (cf (Qu (bup ll i j)))), (0, .ref cm), (2, .ref o), (3, .int (nI (Qu (bup ll i j)))), (4, .int (nI j))]) hx hb d_Com_tellWay_39 hl (by decide) rfl (fun ls hl => ?_)
          refine lv_iload hx hb d_Com_tellWay_41 (lv_at hl 0 rfl) ?_
          refine wf_zge (tgt := 49) hx hb d_Com_tellWay_43 (by decide) rfl (fun c_43 => ?_) (fun c_43 => ?_)
          · have e8 : bup ll i j ≠ 0 := fun e9 => absurd c_43 (by rw [hcf.2.2, if_pos e9]; decide)
            have hjd : j < d := Classical.byContradiction fun e9 => e8 (by rw [show j = d by omega]; exact hd1)
            have e6 : cf (Qu (bup ll i j)) = nI (Qu (bup ll i (j + 1)) * 4 + blt ll (bup ll i j)) := by rw [hcf.2.2, if_neg e8]; rfl
            refine lv_aload_n hx hb d_Com_tellWay_49 rfl (lv_at hl 2 rfl) ?_
            have hl : lv_has ls 6 [(5, .int (nI (Qu (bup ll i (j + 1)) * 4 + blt ll (bup ll i j)))), (0, .ref cm), (2, .ref o), (3, .int (nI (Qu (bup ll i j)))), (4, .int (nI j))] := by rw [← e6]; exact hl
            refine lv_iload hx hb d_Com_tellWay_50 (lv_at hl 0 rfl) ?_
            refine lv_iconst (v := nI 4) hx hb d_Com_tellWay_52 (by decide) ?_
            refine wf_irem (x := Qu (bup ll i (j + 1)) * 4 + blt ll (bup ll i j)) (y := 4) hx hb d_Com_tellWay_53 (by omega) (by omega) (by omega) ?_
            refine wf_ti (y := nI (blt ll (bup ll i j))) (by congr 1; omega) ?_
            refine callVi (As := [.int (nI (blt ll (bup ll i j)))]) (rest := []) X hB wf_hA (c_Row_append (l := l) (D := D) (t := t) (w := (wf_l w [(cm, .inr (8, [.int (nI k), .ref cq, .ref cy, .int (nI z)])), (cy, .inl (t 0, 1600, .inl cf)), (o, .inr (0, [.ref oi, .int (nI j)])), (oi, .inl (t 0, 100, .inl r1))])) (sz := H.size) (o := o) (oi := oi) (z := j) (a := blt ll (bup ll i j)) (rf := r1) (nd_sub hN [2, 3] rfl (by decide)) (wf_lg (w := w) (l := [(cm, .inr (8, [.int (nI k), .ref cq, .ref cy, .int (nI z)])), (cy, .inl (t 0, 1600, .inl cf)), (o, .inr (0, [.ref oi, .int (nI j)])), (oi, .inl (t 0, 100, .inl r1))]) hN 2 rfl) (wf_lg (w := w) (l := [(cm, .inr (8, [.int (nI k), .ref cq, .ref cy, .int (nI z)])), (cy, .inl (t 0, 1600, .inl cf)), (o, .inr (0, [.ref oi, .int (nI j)])), (oi, .inl (t 0, 100, .inl r1))]) hN 3 rfl) (by omega)) k_802 k_328 k_329 k_66 k_330 (wf_lg (w := w) (l := [(cm, .inr (8, [.int (nI k), .ref cq, .ref cy, .int (nI z)])), (cy, .inl (t 0, 1600, .inl cf)), (o, .inr (0, [.ref oi, .int (nI j)])), (oi, .inl (t 0, 100, .inl r1))]) hN 2 rfl) cl_Row rfl hd_Row_append ⟨Nat.le_of_ble_eq_true rfl, Nat.le_of_ble_eq_true rfl⟩ ⟨Nat.le_of_ble_eq_true rfl, Nat.le_of_ble_eq_true rfl⟩ hl.1 (Nat.le_of_ble_eq_true rfl) d_Com_tellWay_54 rfl (fun r_54 w1 H locs hp hB => ?_)
            rcases hp with ⟨hz2_54, rfl, hw_54⟩ | ⟨hz2_54, rfl, hw_54⟩
            · have hB : wf_B D wcl (wf_A w s.heap.size) s.heap (wf_l w [(cm, .inr (8, [.int (nI k), .ref cq, .ref cy, .int (nI z)])), (cy, .inl (t 0, 1600, .inl cf)), (o, .inr (0, [.ref oi, .int (nI (j + 1))])), (oi, .inl (t 0, 100, .inl (upd r1 j (nI (blt ll (bup ll i j))))))]) H locs := wf_Bto (hw_54.trans (wlw (L1 := [(cm, .inr (8, [.int (nI k), .ref cq, .ref cy, .int (nI z)])), (cy, .inl (t 0, 1600, .inl cf)), (o, .inr (0, [.ref oi, .int (nI (j + 1))])), (oi, .inl (t 0, 100, .inl r1))]) hN 2 rfl rfl (wlw (L1 := [(cm, .inr (8, [.int (nI k), .ref cq, .ref cy, .int (nI z)])), (cy, .inl (t 0, 1600, .inl cf)), (o, .inr (0, [.ref oi, .int (nI (j + 1))])), (oi, .inl (t 0, 100, .inl (upd r1 j (nI (blt ll (bup ll i j))))))]) hN 3 rfl rfl rfl))) hB
              refine lv_pop hx hb d_Com_tellWay_57 rfl ?_
              refine lv_iload hx hb d_Com_tellWay_58 (lv_at hl 0 rfl) ?_
              refine lv_iconst (v := nI 4) hx hb d_Com_tellWay_60 (by decide) ?_
              refine wf_idiv (x := Qu (bup ll i (j + 1)) * 4 + blt ll (bup ll i j)) (y := 4) hx hb d_Com_tellWay_61 (by omega) (by omega) (by omega) ?_
              refine wf_ti (y := nI (Qu (bup ll i (j + 1)))) (by congr 1; omega) ?_
              refine lv_istore_n (lv' := [(3, .int (nI (Qu (bup ll i (j + 1))))), (5, .int (nI (Qu (bup ll i (j + 1)) * 4 + blt ll (bup ll i j)))), (0, .ref cm), (2, .ref o), (4, .int (nI j))]) hx hb d_Com_tellWay_62 rfl hl (by decide) rfl (fun ls hl => ?_)
              refine lv_iinc (v := nI (j + 1)) (lv' := [(4, .int (nI (j + 1))), (3, .int (nI (Qu (bup ll i (j + 1))))), (5, .int (nI (Qu (bup ll i (j + 1)) * 4 + blt ll (bup ll i j)))), (0, .ref cm), (2, .ref o)]) hx hb d_Com_tellWay_63 hl (k := 4) rfl (show nI j + nI 1 = nI (j + 1) from nI_add _ _) (by decide) rfl (fun ls hl => ?_)
              refine lv_goto (tgt := 10) hx hb d_Com_tellWay_66 (by decide) ?_
              exact ih (j + 1) (upd r1 j (nI (blt ll (bup ll i j)))) (by omega) (by intro x1 h1; by_cases e9 : x1 = j; (rw [e9, pk_us]); rw [pk_un e9]; exact hg x1 (by omega)) (by omega) H locs ls (lv_sub hl [3, 4, 1, 0] rfl) hB
            · have hB : wf_B D wcl (wf_A w s.heap.size) s.heap (wf_l w [(cm, .inr (8, [.int (nI k), .ref cq, .ref cy, .int (nI z)])), (cy, .inl (t 0, 1600, .inl cf)), (o, .inr (0, [.ref oi, .int (nI j)])), (oi, .inl (t 0, 100, .inl r1))]) H locs := wf_Bto (hw_54.trans (wlw (L1 := [(cm, .inr (8, [.int (nI k), .ref cq, .ref cy, .int (nI z)])), (cy, .inl (t 0, 1600, .inl cf)), (o, .inr (0, [.ref oi, .int (nI j)])), (oi, .inl (t 0, 100, .inl r1))]) hN 2 rfl rfl (wlw (L1 := [(cm, .inr (8, [.int (nI k), .ref cq, .ref cy, .int (nI z)])), (cy, .inl (t 0, 1600, .inl cf)), (o, .inr (0, [.ref oi, .int (nI j)])), (oi, .inl (t 0, 100, .inl r1))]) hN 3 rfl rfl rfl))) hB
              exact absurd hz2_54 (by omega)
          · refine lv_goto (tgt := 69) hx hb d_Com_tellWay_46 (by decide) ?_
            exact K_69 j r1 hj hg (by first | omega | (refine Classical.byContradiction fun e9 => ?_; rw [if_neg (hd2 j (by omega))] at hcf; rw [hcf.2.2, nI_toInt (by have := hcf2.1; have : Qu (bpr ll (bup ll i j)) < 1600 := hcf2.1; omega)] at c_43; omega)) H locs ls (lv_sub hl [1, 2, 3, 4] rfl) hB
set_option maxHeartbeats 4000000 in
set_option maxRecDepth 100000 in
theorem c_Com_tellWay {l : Launch} {D : va_G} {t : Nat → ClassId} {w : wf_W} {sz : Nat} {cm cq cy k z zo i d o oi : Nat} {Qu : Nat → Nat} {cf rf : Nat → Int32} {ll : List (Nat × Nat × Nat)} (hN : nd [cm, cy, o, oi]) (hC : w cm = some (.inr (8, [.int (nI k), .ref cq, .ref cy, .int (nI z)]))) (hY : w cy = some (.inl (t 0, 1600, .inl cf))) (hR : w o = some (.inr (0, [.ref oi, .int (nI zo)]))) (hI : w oi = some (.inl (t 0, 100, .inl rf))) (hzo : zo ≤ 100) (hq : rqO ll Qu cf) (hi : i < ll.length) (hd : d ≤ 100) (hd1 : bup ll i d = 0) (hd2 : ∀ j, j < d → bup ll i j ≠ 0) : Mv l y_Com_tellWay b_Com_tellWay 6 none 1 22 0 0 D t w sz [.ref cm, .int (nI (Qu i)), .ref o] (fun w' => ∃ rr : Nat → Int32, (∀ x1, x1 < d → rr x1 = nI (blt ll (bup ll i (d - 1 - x1)))) ∧ w' = wf_l w [(cm, .inr (8, [.int (nI k), .ref cq, .ref cy, .int (nI z)])), (cy, .inl (t 0, 1600, .inl cf)), (o, .inr (0, [.ref oi, .int (nI d)])), (oi, .inl (t 0, 100, .inl rr))]) := by
  refine start_v (by decide) (Nat.le_of_ble_eq_true rfl) ?_
  intro p e s m below meth c ls H locs X hB hl
  have hx := X.1
  have hb := X.2.1
  have hl : lv_has ls 6 [(0, .ref cm), (1, .int (nI (Qu i))), (2, .ref o)] := hl
  have hB : wf_B D wcl (wf_A w s.heap.size) s.heap (wf_l w [(cm, .inr (8, [.int (nI k), .ref cq, .ref cy, .int (nI z)])), (cy, .inl (t 0, 1600, .inl cf)), (o, .inr (0, [.ref oi, .int (nI zo)])), (oi, .inl (t 0, 100, .inl rf))]) H locs := wf_Bto (wf_l4 hC hY hR hI).symm hB
  refine lv_aload_n hx hb d_Com_tellWay_0 rfl (lv_at hl 2 rfl) ?_
  refine lv_iconst (v := nI 0) hx hb d_Com_tellWay_1 (by decide) ?_
  refine callVv (As := [.int (nI 0)]) (rest := []) X hB wf_hA (c_Row_shortenTo (l := l) (D := D) (t := t) (w := (wf_l w [(cm, .inr (8, [.int (nI k), .ref cq, .ref cy, .int (nI z)])), (cy, .inl (t 0, 1600, .inl cf)), (o, .inr (0, [.ref oi, .int (nI zo)])), (oi, .inl (t 0, 100, .inl rf))])) (sz := H.size) (o := o) (oi := oi) (z := zo) (u := 0) (nd_sub hN [2] rfl (by decide)) (wf_lg (w := w) (l := [(cm, .inr (8, [.int (nI k), .ref cq, .ref cy, .int (nI z)])), (cy, .inl (t 0, 1600, .inl cf)), (o, .inr (0, [.ref oi, .int (nI zo)])), (oi, .inl (t 0, 100, .inl rf))]) hN 2 rfl) (by exact hzo) (by omega)) k_801 k_316 k_317 k_66 k_318 (wf_lg (w := w) (l := [(cm, .inr (8, [.int (nI k), .ref cq, .ref cy, .int (nI z)])), (cy, .inl (t 0, 1600, .inl cf)), (o, .inr (0, [.ref oi, .int (nI zo)])), (oi, .inl (t 0, 100, .inl rf))]) hN 2 rfl) cl_Row rfl hd_Row_shortenTo ⟨Nat.le_of_ble_eq_true rfl, Nat.le_of_ble_eq_true rfl⟩ ⟨Nat.le_of_ble_eq_true rfl, Nat.le_of_ble_eq_true rfl⟩ hl.1 (Nat.le_of_ble_eq_true rfl) d_Com_tellWay_2 rfl (fun w1 H locs hp hB => ?_)
  have hw_2 := hp
  have hB : wf_B D wcl (wf_A w s.heap.size) s.heap (wf_l w [(cm, .inr (8, [.int (nI k), .ref cq, .ref cy, .int (nI z)])), (cy, .inl (t 0, 1600, .inl cf)), (o, .inr (0, [.ref oi, .int (nI (min 0 zo))])), (oi, .inl (t 0, 100, .inl rf))]) H locs := wf_Bto (hw_2.trans (wlw (L1 := [(cm, .inr (8, [.int (nI k), .ref cq, .ref cy, .int (nI z)])), (cy, .inl (t 0, 1600, .inl cf)), (o, .inr (0, [.ref oi, .int (nI (min 0 zo))])), (oi, .inl (t 0, 100, .inl rf))]) hN 2 rfl rfl rfl)) hB
  have hB : wf_B D wcl (wf_A w s.heap.size) s.heap (wf_l w [(cm, .inr (8, [.int (nI k), .ref cq, .ref cy, .int (nI z)])), (cy, .inl (t 0, 1600, .inl cf)), (o, .inr (0, [.ref oi, .int (nI 0)])), (oi, .inl (t 0, 100, .inl rf))]) H locs := by rw [Nat.zero_min] at hB; exact hB
  refine lv_iload_n hx hb d_Com_tellWay_5 rfl (lv_at hl 1 rfl) ?_
  refine lv_istore_n (lv' := [(3, .int (nI (Qu i))), (0, .ref cm), (1, .int (nI (Qu i))), (2, .ref o)]) hx hb d_Com_tellWay_6 rfl hl (by decide) rfl (fun ls hl => ?_)
  refine lv_iconst (v := nI 0) hx hb d_Com_tellWay_7 (by decide) ?_
  refine lv_istore (lv' := [(4, .int (nI 0)), (3, .int (nI (Qu i))), (0, .ref cm), (1, .int (nI (Qu i))), (2, .ref o)]) hx hb d_Com_tellWay_8 hl (by decide) rfl (fun ls hl => ?_)
  refine c_Com_tellWay_L10 (l := l) X hN hC hY hR hI hzo hq hi hd hd1 hd2 (fun j r1 hj hg he H locs ls hl hB => ?_) (d - 0 + 1) 0 rf (by omega) (by intro x1 h1; omega) (by omega) H locs ls (lv_sub hl [2, 4, 1, 0] rfl) hB
  refine lv_aload_n hx hb d_Com_tellWay_69 rfl (lv_at hl 1 rfl) ?_
  refine callVv (As := []) (rest := []) X hB wf_hA (c_Row_turnAround (l := l) (D := D) (t := t) (w := (wf_l w [(cm, .inr (8, [.int (nI k), .ref cq, .ref cy, .int (nI z)])), (cy, .inl (t 0, 1600, .inl cf)), (o, .inr (0, [.ref oi, .int (nI j)])), (oi, .inl (t 0, 100, .inl r1))])) (sz := H.size) (o := o) (oi := oi) (z := j) (rf := r1) (nd_sub hN [2, 3] rfl (by decide)) (wf_lg (w := w) (l := [(cm, .inr (8, [.int (nI k), .ref cq, .ref cy, .int (nI z)])), (cy, .inl (t 0, 1600, .inl cf)), (o, .inr (0, [.ref oi, .int (nI j)])), (oi, .inl (t 0, 100, .inl r1))]) hN 2 rfl) (wf_lg (w := w) (l := [(cm, .inr (8, [.int (nI k), .ref cq, .ref cy, .int (nI z)])), (cy, .inl (t 0, 1600, .inl cf)), (o, .inr (0, [.ref oi, .int (nI j)])), (oi, .inl (t 0, 100, .inl r1))]) hN 3 rfl) (by omega)) k_803 k_748 k_749 k_66 k_750 (wf_lg (w := w) (l := [(cm, .inr (8, [.int (nI k), .ref cq, .ref cy, .int (nI z)])), (cy, .inl (t 0, 1600, .inl cf)), (o, .inr (0, [.ref oi, .int (nI j)])), (oi, .inl (t 0, 100, .inl r1))]) hN 2 rfl) cl_Row rfl hd_Row_turnAround ⟨Nat.le_of_ble_eq_true rfl, Nat.le_of_ble_eq_true rfl⟩ ⟨Nat.le_of_ble_eq_true rfl, Nat.le_of_ble_eq_true rfl⟩ hl.1 (Nat.le_of_ble_eq_true rfl) d_Com_tellWay_70 rfl (fun w1 H locs hp hB => ?_)
  obtain ⟨g0_70, hg0_70, hw_70⟩ := hp
  have hB : wf_B D wcl (wf_A w s.heap.size) s.heap (wf_l w [(cm, .inr (8, [.int (nI k), .ref cq, .ref cy, .int (nI z)])), (cy, .inl (t 0, 1600, .inl cf)), (o, .inr (0, [.ref oi, .int (nI j)])), (oi, .inl (t 0, 100, .inl g0_70))]) H locs := wf_Bto (hw_70.trans (wlw (L1 := [(cm, .inr (8, [.int (nI k), .ref cq, .ref cy, .int (nI z)])), (cy, .inl (t 0, 1600, .inl cf)), (o, .inr (0, [.ref oi, .int (nI j)])), (oi, .inl (t 0, 100, .inl r1))]) hN 2 rfl rfl (wlw (L1 := [(cm, .inr (8, [.int (nI k), .ref cq, .ref cy, .int (nI z)])), (cy, .inl (t 0, 1600, .inl cf)), (o, .inr (0, [.ref oi, .int (nI j)])), (oi, .inl (t 0, 100, .inl g0_70))]) hN 3 rfl rfl rfl))) hB
  refine ret_v X hB d_Com_tellWay_73 ?_
  subst he; exact ⟨g0_70, fun x1 h1 => by rw [hg0_70 x1 h1]; exact hg _ (by omega), rfl⟩
