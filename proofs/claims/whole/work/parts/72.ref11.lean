/-! QUESTIONS TO THE REFERENCE -/
def rqR (ll : List (Nat × Nat × Nat)) (QU CF CB : Nat → Nat) (IS : Nat → Bool) : Prop := (∀ (i : Nat) (p : Nat × Nat × Nat), ll[i]? = some p → QU i = p.1 ∧ p.1 < 1600 ∧ p.2.1 ≤ i ∧ p.2.2 < 4 ∧ (0 < i → CF i = p.2.1 ∧ CB i = p.2.2)) ∧ (∀ v, v < 1600 → (IS v = true ↔ ∃ (i : Nat) (p : Nat × Nat × Nat), ll[i]? = some p ∧ p.1 = v)) ∧ ∀ (i j : Nat) (p q : Nat × Nat × Nat), ll[i]? = some p → ll[j]? = some q → p.1 = q.1 → i = j
theorem rqR_len {ll : List (Nat × Nat × Nat)} {QU CF CB : Nat → Nat} {IS : Nat → Bool} (h : rqR ll QU CF CB IS) : ll.length ≤ 1600 := by
  refine php_le (f := fun i => (ll[i]?.getD (0, 0, 0)).1) (fun i hi => ?_) (fun i j hi hj e => ?_)
  · have e1 := List.getElem?_eq_getElem hi
    rw [e1]
    exact (h.1 i _ e1).2.1
  · have e1 := List.getElem?_eq_getElem hi
    have e2 := List.getElem?_eq_getElem hj
    rw [e1, e2] at e
    exact h.2.2 i j _ _ e1 e2 e
theorem rqR_0 {QU CF CB : Nat → Nat} {IS : Nat → Bool} {k : Nat} {A : Nat → Nat → Nat} (hI : ∀ v, v < 1600 → IS v = decide (v = 0)) : rqR (bfs k A 0) (nu QU 0 0) CF CB IS := by
  have one : ∀ (i : Nat) (p : Nat × Nat × Nat), (bfs k A 0)[i]? = some p → i = 0 ∧ p = (0, 0, 0) := by
    intro i p h
    cases i with
    | zero => exact ⟨rfl, (Option.some.inj h).symm⟩
    | succ i => cases h
  refine ⟨fun i p h => ?_, fun v hv => ?_, fun i j p q hi hj _ => by rw [(one i p hi).1, (one j q hj).1]⟩
  · obtain ⟨rfl, rfl⟩ := one i p h
    exact ⟨nu_s, by decide, by decide, by decide, fun h => absurd h (by decide)⟩
  · rw [hI v hv, decide_eq_true_eq]
    constructor
    · intro e; exact ⟨0, (0, 0, 0), rfl, e.symm⟩
    · rintro ⟨i, p, h, e⟩; rw [(one i p h).2] at e; exact e.symm
theorem rqR_at {ll : List (Nat × Nat × Nat)} {QU CF CB : Nat → Nat} {IS : Nat → Bool} (h : rqR ll QU CF CB IS) {i : Nat} (hi : i < ll.length) : QU i < 1600 ∧ (0 < i → CF i = bpr ll i ∧ CB i = blt ll i ∧ bpr ll i < ll.length ∧ blt ll i < 4) := by
  have e := List.getElem?_eq_getElem hi
  obtain ⟨a1, a2, a3, a4, a5⟩ := h.1 i _ e
  refine ⟨by rw [a1]; exact a2, fun h0 => ?_⟩
  rw [bpr, blt, e]
  exact ⟨(a5 h0).1, (a5 h0).2, Nat.lt_of_le_of_lt a3 hi, a4⟩
theorem bfs_r {k i j : Nat} {A : Nat → Nat → Nat} {QU CF CB : Nat → Nat} {IS : Nat → Bool} (h : rqR (bfs k A (i * k + j)) QU CF CB IS) (hj : j < k) (hi : i < (bfs k A (i * k + j)).length) : bfs k A (i * k + j + 1) = if (bfs k A (i * k + j)).any (fun q => q.1 == A (QU i) j) = true then bfs k A (i * k + j) else bfs k A (i * k + j) ++ [(A (QU i) j, i, j)] := by
  have e := List.getElem?_eq_getElem hi
  have a := (h.1 i _ e).1
  obtain ⟨e1, e2⟩ := bfs_at (i := i) hj
  rw [bfs, e1, e2, e, a]
theorem bfs_rO {k i j : Nat} {A : Nat → Nat → Nat} {QU CF CB : Nat → Nat} {IS : Nat → Bool} (h : rqR (bfs k A (i * k + j)) QU CF CB IS) (hj : j < k) (hi : i < (bfs k A (i * k + j)).length) (hv : A (QU i) j < 1600) (hc : IS (A (QU i) j) = true) : bfs k A (i * k + j + 1) = bfs k A (i * k + j) := by
  rw [bfs_r h hj hi, if_pos]
  obtain ⟨q, p, hp, e⟩ := (h.2.1 _ hv).mp hc
  exact List.any_eq_true.mpr ⟨p, List.mem_of_getElem? hp, by simpa using e⟩
theorem bfs_rN {k i j : Nat} {A : Nat → Nat → Nat} {QU CF CB : Nat → Nat} {IS : Nat → Bool} (h : rqR (bfs k A (i * k + j)) QU CF CB IS) (hj : j < k) (hi : i < (bfs k A (i * k + j)).length) (hv : A (QU i) j < 1600) (hc : IS (A (QU i) j) = false) : bfs k A (i * k + j + 1) = bfs k A (i * k + j) ++ [(A (QU i) j, i, j)] := by
  rw [bfs_r h hj hi, if_neg]
  intro hq
  obtain ⟨p, hp, he⟩ := List.any_eq_true.mp hq
  obtain ⟨q, hq⟩ := List.getElem?_of_mem hp
  have := (h.2.1 _ hv).mpr ⟨q, p, hq, by simpa using he⟩
  rw [hc] at this
  cases this
theorem rqR_add {ll : List (Nat × Nat × Nat)} {QU CF CB : Nat → Nat} {IS : Nat → Bool} (h : rqR ll QU CF CB IS) {v i j : Nat} (hv : v < 1600) (hi : i < ll.length) (hj : j < 4) (hc : IS v = false) : rqR (ll ++ [(v, i, j)]) (nu QU ll.length v) (nu CF ll.length i) (nu CB ll.length j) (nu IS v true) := by
  have cas : ∀ (x : Nat) (p : Nat × Nat × Nat), (ll ++ [(v, i, j)])[x]? = some p → (x < ll.length ∧ ll[x]? = some p) ∨ (x = ll.length ∧ p = (v, i, j)) := by
    intro x p hx
    by_cases h1 : x < ll.length
    · rw [List.getElem?_append_left h1] at hx; exact Or.inl ⟨h1, hx⟩
    · rw [List.getElem?_append_right (by omega)] at hx
      have h2 : x - ll.length < 1 := (List.getElem?_eq_some_iff.mp hx).1
      rw [show x - ll.length = 0 by omega] at hx
      exact Or.inr ⟨by omega, (Option.some.inj hx).symm⟩
  have hno : ∀ (x : Nat) (p : Nat × Nat × Nat), ll[x]? = some p → p.1 ≠ v := by
    intro x p hx e
    have := (h.2.1 v hv).mpr ⟨x, p, hx, e⟩
    rw [hc] at this
    cases this
  refine ⟨fun x p hx => ?_, fun y hy => ?_, fun x y p q hx hy e => ?_⟩
  · rcases cas x p hx with ⟨h1, h2⟩ | ⟨h1, h2⟩
    · rw [nu_n (by omega), nu_n (by omega), nu_n (by omega)]; exact h.1 x p h2
    · rw [nu_e h1, nu_e h1, nu_e h1, h2]
      exact ⟨rfl, hv, by dsimp only; omega, hj, fun _ => ⟨rfl, rfl⟩⟩
  · by_cases e : y = v
    · rw [nu_e e]
      exact ⟨fun _ => ⟨ll.length, (v, i, j), by simp, e.symm⟩, fun _ => rfl⟩
    · rw [nu_n e, h.2.1 y hy]
      constructor
      · rintro ⟨x, p, hx, e2⟩
        exact ⟨x, p, by rw [List.getElem?_append_left (List.getElem?_eq_some_iff.mp hx).1]; exact hx, e2⟩
      · rintro ⟨x, p, hx, e2⟩
        rcases cas x p hx with ⟨h1, h2⟩ | ⟨h1, h2⟩
        · exact ⟨x, p, h2, e2⟩
        · rw [h2] at e2; exact absurd e2.symm e
  · rcases cas x p hx with ⟨h1, h2⟩ | ⟨h1, h2⟩
    · rcases cas y q hy with ⟨h3, h4⟩ | ⟨h3, h4⟩
      · exact h.2.2 x y p q h2 h4 e
      · rw [h4] at e; exact absurd e (hno x p h2)
    · rcases cas y q hy with ⟨h3, h4⟩ | ⟨h3, h4⟩
      · rw [h2] at e; exact absurd e.symm (hno y q h4)
      · omega
theorem rqR_lenN {ll : List (Nat × Nat × Nat)} {QU CF CB : Nat → Nat} {IS : Nat → Bool} (h : rqR ll QU CF CB IS) {v i j : Nat} (hv : v < 1600) (hi : i < ll.length) (hj : j < 4) (hc : IS v = false) : ll.length < 1600 := by
  have := rqR_len (rqR_add h hv hi hj hc)
  rw [List.length_append] at this
  simp at this
  omega
theorem bupR_lt {ll : List (Nat × Nat × Nat)} {QU CF CB : Nat → Nat} {IS : Nat → Bool} (h : rqR ll QU CF CB IS) {i : Nat} (hi : i < ll.length) : ∀ j, bup ll i j < ll.length
  | 0 => hi
  | j + 1 => by
    have ih := bupR_lt h hi j
    have e := List.getElem?_eq_getElem ih
    have := (h.1 _ _ e).2.2.1
    rw [bup, bpr, e]
    show (ll[bup ll i j]).2.1 < _
    omega
/-- a pair of the search -/
def bQ (ll : List (Nat × Nat × Nat)) (i : Nat) : Nat := (ll[i]?.getD (0, 0, 0)).1
theorem rqR_Q {ll : List (Nat × Nat × Nat)} {QU CF CB : Nat → Nat} {IS : Nat → Bool} (h : rqR ll QU CF CB IS) {i : Nat} (hi : i < ll.length) : QU i = bQ ll i := by
  have e := List.getElem?_eq_getElem hi
  rw [bQ, e]
  exact (h.1 i _ e).1
/-- all pairs are of states -/
theorem bfs_st {k n E n2 E2 : Nat} {f f2 : Nat → Int32} {st st2 : Nat → Nat → Nat} (hm : mOK k n E f st) (hm2 : mOK k n2 E2 f2 st2) : ∀ t (p : Nat × Nat × Nat), p ∈ bfs k (cAf k n st n2 st2) t → p.1 / 40 < n ∧ p.1 % 40 < n2 := by
  have one : ∀ S a, cAf k n st n2 st2 S a / 40 < n ∧ cAf k n st n2 st2 S a % 40 < n2 := by
    intro S a
    unfold cAf
    have := stp_lt hm (S / 40) a
    have := stp_lt hm2 (S % 40) a
    have := hm2.2.1
    omega
  intro t
  induction t with
  | zero =>
    intro p hp
    rw [bfs, List.mem_singleton] at hp
    rw [hp]
    exact ⟨hm.2.2.1, hm2.2.2.1⟩
  | succ t ih =>
    intro p hp
    rw [bfs] at hp
    split at hp
    · exact ih p hp
    · split at hp
      · exact ih p hp
      · rcases List.mem_append.mp hp with h | h
        · exact ih p h
        · rw [List.mem_singleton.mp h]; exact one _ _
theorem bfs_Q {k n E n2 E2 : Nat} {f f2 : Nat → Int32} {st st2 : Nat → Nat → Nat} (hm : mOK k n E f st) (hm2 : mOK k n2 E2 f2 st2) {QU CF CB : Nat → Nat} {IS : Nat → Bool} {t i : Nat} (h : rqR (bfs k (cAf k n st n2 st2) t) QU CF CB IS) (hi : i < (bfs k (cAf k n st n2 st2) t).length) : QU i / 40 < n ∧ QU i % 40 < n2 := by
  have e := List.getElem?_eq_getElem hi
  rw [(h.1 i _ e).1]
  exact bfs_st hm hm2 t _ (List.getElem_mem hi)
theorem cAf_in {k n E n2 E2 : Nat} {f f2 : Nat → Int32} {st st2 : Nat → Nat → Nat} {v j : Nat} (hm : mOK k n E f st) (hm2 : mOK k n2 E2 f2 st2) (h1 : v / 40 < n) (h2 : v % 40 < n2) (hj : j < k) : 40 * st (v / 40) j + st2 (v % 40) j = cAf k n st n2 st2 v j := by
  unfold cAf
  rw [stp_in h1 hj, stp_in h2 hj, Nat.mul_comm]
/-- the machine's count by its states' steps -/
theorem wyc_in {k n E : Nat} {st : Nat → Nat → Nat} {u : Nat} (hu : u < n) (E2 : Nat) : wyc k n E st 0 u = if E.testBit u = true then 1 else 0 := by
  rw [wyc, inE, decide_eq_true hu, Bool.true_and]
theorem ltF_in {F : Nat → Nat} : ∀ (fu a r : Nat), r < smF (fun b => F (a + b)) (fu + 1) → (ltF F fu a r).2 < F (ltF F fu a r).1
  | 0, a, r, h => by
    simp [smF] at h
    simpa [ltF] using h
  | fu + 1, a, r, h => by
    rw [ltF]
    split
    · rename_i q
      refine ltF_in fu (a + 1) (r - F a) ?_
      have e : ∀ m, smF (fun b => F (a + b)) (m + 1) = F a + smF (fun b => F (a + 1 + b)) m := by
        intro m
        induction m with
        | zero => simp [smF]
        | succ m ih => rw [smF, ih, smF, show a + (m + 1) = a + 1 + m by omega, Nat.add_assoc]
      rw [e] at h
      omega
    · rename_i q
      show r < F a
      omega
set_option maxHeartbeats 4000000 in
set_option maxRecDepth 100000 in
theorem c_Ref_liesq {l : Launch} {D : va_G} {t : Nat → ClassId} {w : wf_W} {sz : Nat} {q1 : Int32} {l1 h1 : Nat} (hh1 : l1 < 2 ^ 62 ∧ h1 < 2 ^ 62) : Mi l y_Ref_lies b_Ref_lies 6 (some .boolean) 0 0 0 0 D t w sz [.long (Int32.toInt64 q1), .long (lN l1), .long (lN h1)] (fun r w' => r = (bI (decide ((l1 : Int) ≤ q1.toInt ∧ q1.toInt ≤ (h1 : Int)))) ∧ w' = w) := by
  refine start_i (by decide) (Nat.le_of_ble_eq_true rfl) ?_
  intro p e s m below meth c ls H locs X hB hl
  have hx := X.1
  have hb := X.2.1
  have hl : lv_has ls 6 [(0, .long (Int32.toInt64 q1)), (2, .long (lN l1)), (4, .long (lN h1))] := hl
  have e1 := Int32.toInt_toInt64 q1
  refine lv_lload_n hx hb d_Ref_lies_0 rfl (lv_at hl 0 rfl) ?_
  refine lv_lload_n hx hb d_Ref_lies_1 rfl (lv_at hl 1 rfl) ?_
  refine W.lcmp hx hb d_Ref_lies_2 ?_
  refine wf_llt (tgt := 17) hx hb d_Ref_lies_3 (by decide) rfl (pk_lT (by omega)) (fun c_3 => ?_) (fun c_3 => ?_)
  · refine lv_iconst (v := nI 0) hx hb d_Ref_lies_17 (by decide) ?_
    refine wf_ti (y := bI false) rfl ?_
    refine ret_z X hB d_Ref_lies_18 ?_
    refine ⟨congrArg bI (Bool.eq_iff_iff.mpr ?_), rfl⟩; simp only [Bool.and_eq_true, Bool.or_eq_true, Bool.not_eq_true', decide_eq_true_eq, decide_eq_false_iff_not, Bool.false_eq_true, true_iff, false_iff]; omega
  · refine lv_lload_n hx hb d_Ref_lies_6 rfl (lv_at hl 0 rfl) ?_
    refine lv_lload hx hb d_Ref_lies_7 (lv_at hl 2 rfl) ?_
    refine W.lcmp hx hb d_Ref_lies_9 ?_
    refine wf_lgt (tgt := 17) hx hb d_Ref_lies_10 (by decide) rfl (pk_lT (by omega)) (fun c_10 => ?_) (fun c_10 => ?_)
    · refine lv_iconst (v := nI 0) hx hb d_Ref_lies_17 (by decide) ?_
      refine wf_ti (y := bI false) rfl ?_
      refine ret_z X hB d_Ref_lies_18 ?_
      refine ⟨congrArg bI (Bool.eq_iff_iff.mpr ?_), rfl⟩; simp only [Bool.and_eq_true, Bool.or_eq_true, Bool.not_eq_true', decide_eq_true_eq, decide_eq_false_iff_not, Bool.false_eq_true, true_iff, false_iff]; omega
    · refine lv_iconst (v := nI 1) hx hb d_Ref_lies_13 (by decide) ?_
      refine lv_goto (tgt := 18) hx hb d_Ref_lies_14 (by decide) ?_
      refine wf_ti (y := bI true) rfl ?_
      refine ret_z X hB d_Ref_lies_18 ?_
      refine ⟨congrArg bI (Bool.eq_iff_iff.mpr ?_), rfl⟩; simp only [Bool.and_eq_true, Bool.or_eq_true, Bool.not_eq_true', decide_eq_true_eq, decide_eq_false_iff_not, Bool.false_eq_true, true_iff, false_iff]; omega
set_option maxHeartbeats 4000000 in
set_option maxRecDepth 100000 in
theorem c_Ref_notb {l : Launch} {D : va_G} {t : Nat → ClassId} {w : wf_W} {sz : Nat} {mo az an ae ac ato aps apt al aip alo alt aic arw aco act asp anu aor ann ald ahd acn ais aq acf acb aw k mn cz tz ca pz wy fi se ho lx ly ts tS cs av lz hz1 nl nh ce qd : Nat} {q : Int32} (hMo : w mo = some (rfO k mn az an ae ac cz ato tz ca aps apt al aip pz wy fi se ho lx ly ts tS alo alt aic arw aco act asp cs anu aor ann av ald ahd lz hz1 nl nh acn ce ais aq acf acb qd aw)) (hmn : mn ≤ 60) (hbd : ¬ (0 ≤ q.toInt ∧ q.toInt < mn)) : Mi l y_Ref_not b_Ref_not 2 (some .int) 2 46 0 0 D t w sz [.ref mo, .int q] (fun r w' => r = (-2) ∧ w' = w) := by
  refine start_i (by decide) (Nat.le_of_ble_eq_true rfl) ?_
  intro p e s m below meth c ls H locs X hB hl
  have hx := X.1
  have hb := X.2.1
  have hl : lv_has ls 2 [(0, .ref mo), (1, .int q)] := hl
  refine lv_aload_n hx hb d_Ref_not_0 rfl (lv_at hl 0 rfl) ?_
  refine lv_iload_n hx hb d_Ref_not_1 rfl (lv_at hl 1 rfl) ?_
  refine callVi (As := [.int q]) (rest := []) X hB wf_hA (c_Ref_is (l := l) (D := D) (t := t) (w := w) (sz := H.size) (mo := mo) (az := az) (an := an) (ae := ae) (ac := ac) (ato := ato) (aps := aps) (apt := apt) (al := al) (aip := aip) (alo := alo) (alt := alt) (aic := aic) (arw := arw) (aco := aco) (act := act) (asp := asp) (anu := anu) (aor := aor) (ann := ann) (ald := ald) (ahd := ahd) (acn := acn) (ais := ais) (aq := aq) (acf := acf) (acb := acb) (aw := aw) (k := k) (mn := mn) (cz := cz) (tz := tz) (ca := ca) (pz := pz) (wy := wy) (fi := fi) (se := se) (ho := ho) (lx := lx) (ly := ly) (ts := ts) (tS := tS) (cs := cs) (av := av) (lz := lz) (hz1 := hz1) (nl := nl) (nh := nh) (ce := ce) (qd := qd) (q := q) hMo (by exact hmn)) k_1078 k_1080 k_42 k_75 k_1081 hMo cl_Ref rfl hd_Ref_is ⟨Nat.le_of_ble_eq_true rfl, Nat.le_of_ble_eq_true rfl⟩ ⟨Nat.le_of_ble_eq_true rfl, Nat.le_of_ble_eq_true rfl⟩ hl.1 (Nat.le_of_ble_eq_true rfl) d_Ref_not_2 rfl (fun r_2 w1 H locs hp hB => ?_)
  obtain ⟨rfl, hw_2⟩ := hp
  have hB : wf_B D wcl (wf_A w s.heap.size) s.heap w H locs := wf_Bto hw_2 hB
  refine wf_beq (tgt := 26) hx hb d_Ref_not_5 (by decide) (fun c_5 => ?_) (fun c_5 => ?_)
  · refine lv_bipush (v := (-2)) hx hb d_Ref_not_26 (by decide) ?_
    refine ret_i X hB d_Ref_not_28 ?_
    exact ⟨rfl, rfl⟩
  · exact absurd (of_decide_eq_true c_5) hbd
set_option maxHeartbeats 4000000 in
set_option maxRecDepth 100000 in
theorem c_Ref_statesb {l : Launch} {D : va_G} {t : Nat → ClassId} {w : wf_W} {sz : Nat} {mo az an ae ac ato aps apt al aip alo alt aic arw aco act asp anu aor ann ald ahd acn ais aq acf acb aw k mn cz tz ca pz wy fi se ho lx ly ts tS cs av lz hz1 nl nh ce qd : Nat} {q : Int32} (hMo : w mo = some (rfO k mn az an ae ac cz ato tz ca aps apt al aip pz wy fi se ho lx ly ts tS alo alt aic arw aco act asp cs anu aor ann av ald ahd lz hz1 nl nh acn ce ais aq acf acb qd aw)) (hmn : mn ≤ 60) (hbd : ¬ (0 ≤ q.toInt ∧ q.toInt < mn)) : Mi l y_Ref_states b_Ref_states 2 (some .int) 2 46 0 0 D t w sz [.ref mo, .int q] (fun r w' => r = (-2) ∧ w' = w) := by
  refine start_i (by decide) (Nat.le_of_ble_eq_true rfl) ?_
  intro p e s m below meth c ls H locs X hB hl
  have hx := X.1
  have hb := X.2.1
  have hl : lv_has ls 2 [(0, .ref mo), (1, .int q)] := hl
  refine lv_aload_n hx hb d_Ref_states_0 rfl (lv_at hl 0 rfl) ?_
  refine lv_iload_n hx hb d_Ref_states_1 rfl (lv_at hl 1 rfl) ?_
  refine callVi (As := [.int q]) (rest := []) X hB wf_hA (c_Ref_is (l := l) (D := D) (t := t) (w := w) (sz := H.size) (mo := mo) (az := az) (an := an) (ae := ae) (ac := ac) (ato := ato) (aps := aps) (apt := apt) (al := al) (aip := aip) (alo := alo) (alt := alt) (aic := aic) (arw := arw) (aco := aco) (act := act) (asp := asp) (anu := anu) (aor := aor) (ann := ann) (ald := ald) (ahd := ahd) (acn := acn) (ais := ais) (aq := aq) (acf := acf) (acb := acb) (aw := aw) (k := k) (mn := mn) (cz := cz) (tz := tz) (ca := ca) (pz := pz) (wy := wy) (fi := fi) (se := se) (ho := ho) (lx := lx) (ly := ly) (ts := ts) (tS := tS) (cs := cs) (av := av) (lz := lz) (hz1 := hz1) (nl := nl) (nh := nh) (ce := ce) (qd := qd) (q := q) hMo (by exact hmn)) k_1078 k_1080 k_42 k_75 k_1081 hMo cl_Ref rfl hd_Ref_is ⟨Nat.le_of_ble_eq_true rfl, Nat.le_of_ble_eq_true rfl⟩ ⟨Nat.le_of_ble_eq_true rfl, Nat.le_of_ble_eq_true rfl⟩ hl.1 (Nat.le_of_ble_eq_true rfl) d_Ref_states_2 rfl (fun r_2 w1 H locs hp hB => ?_)
  obtain ⟨rfl, hw_2⟩ := hp
  have hB : wf_B D wcl (wf_A w s.heap.size) s.heap w H locs := wf_Bto hw_2 hB
  refine wf_beq (tgt := 17) hx hb d_Ref_states_5 (by decide) (fun c_5 => ?_) (fun c_5 => ?_)
  · refine lv_bipush (v := (-2)) hx hb d_Ref_states_17 (by decide) ?_
    refine ret_i X hB d_Ref_states_19 ?_
    exact ⟨rfl, rfl⟩
  · exact absurd (of_decide_eq_true c_5) hbd
set_option maxHeartbeats 4000000 in
set_option maxRecDepth 100000 in
theorem c_Ref_hasb {l : Launch} {D : va_G} {t : Nat → ClassId} {w : wf_W} {sz : Nat} {mo az an ae ac ato aps apt al aip alo alt aic arw aco act asp anu aor ann ald ahd acn ais aq acf acb aw k mn cz tz ca pz wy fi se ho lx ly ts tS cs av lz hz1 nl nh ce qd : Nat} {q : Int32} (hMo : w mo = some (rfO k mn az an ae ac cz ato tz ca aps apt al aip pz wy fi se ho lx ly ts tS alo alt aic arw aco act asp cs anu aor ann av ald ahd lz hz1 nl nh acn ce ais aq acf acb qd aw)) (hmn : mn ≤ 60) (hbd : ¬ (0 ≤ q.toInt ∧ q.toInt < mn)) : Mi l y_Ref_has b_Ref_has 4 (some .int) 2 46 0 0 D t w sz [.ref mo, .int q] (fun r w' => r = (-2) ∧ w' = w) := by
  refine start_i (by decide) (Nat.le_of_ble_eq_true rfl) ?_
  intro p e s m below meth c ls H locs X hB hl
  have hx := X.1
  have hb := X.2.1
  have hl : lv_has ls 4 [(0, .ref mo), (1, .int q)] := hl
  refine lv_aload_n hx hb d_Ref_has_0 rfl (lv_at hl 0 rfl) ?_
  refine lv_iload_n hx hb d_Ref_has_1 rfl (lv_at hl 1 rfl) ?_
  refine callVi (As := [.int q]) (rest := []) X hB wf_hA (c_Ref_is (l := l) (D := D) (t := t) (w := w) (sz := H.size) (mo := mo) (az := az) (an := an) (ae := ae) (ac := ac) (ato := ato) (aps := aps) (apt := apt) (al := al) (aip := aip) (alo := alo) (alt := alt) (aic := aic) (arw := arw) (aco := aco) (act := act) (asp := asp) (anu := anu) (aor := aor) (ann := ann) (ald := ald) (ahd := ahd) (acn := acn) (ais := ais) (aq := aq) (acf := acf) (acb := acb) (aw := aw) (k := k) (mn := mn) (cz := cz) (tz := tz) (ca := ca) (pz := pz) (wy := wy) (fi := fi) (se := se) (ho := ho) (lx := lx) (ly := ly) (ts := ts) (tS := tS) (cs := cs) (av := av) (lz := lz) (hz1 := hz1) (nl := nl) (nh := nh) (ce := ce) (qd := qd) (q := q) hMo (by exact hmn)) k_1078 k_1080 k_42 k_75 k_1081 hMo cl_Ref rfl hd_Ref_is ⟨Nat.le_of_ble_eq_true rfl, Nat.le_of_ble_eq_true rfl⟩ ⟨Nat.le_of_ble_eq_true rfl, Nat.le_of_ble_eq_true rfl⟩ hl.1 (Nat.le_of_ble_eq_true rfl) d_Ref_has_2 rfl (fun r_2 w1 H locs hp hB => ?_)
  obtain ⟨rfl, hw_2⟩ := hp
  have hB : wf_B D wcl (wf_A w s.heap.size) s.heap w H locs := wf_Bto hw_2 hB
  refine wf_bne (tgt := 11) hx hb d_Ref_has_5 (by decide) (fun c_5 => ?_) (fun c_5 => ?_)
  · exact absurd (of_decide_eq_true c_5) hbd
  · refine lv_bipush (v := (-2)) hx hb d_Ref_has_8 (by decide) ?_
    refine ret_i X hB d_Ref_has_10 ?_
    exact ⟨rfl, rfl⟩
set_option maxHeartbeats 4000000 in
set_option maxRecDepth 100000 in
theorem c_Ref_longestb {l : Launch} {D : va_G} {t : Nat → ClassId} {w : wf_W} {sz : Nat} {mo az an ae ac ato aps apt al aip alo alt aic arw aco act asp anu aor ann ald ahd acn ais aq acf acb aw k mn cz tz ca pz wy fi se ho lx ly ts tS cs av lz hz1 nl nh ce qd : Nat} {q : Int32} (hMo : w mo = some (rfO k mn az an ae ac cz ato tz ca aps apt al aip pz wy fi se ho lx ly ts tS alo alt aic arw aco act asp cs anu aor ann av ald ahd lz hz1 nl nh acn ce ais aq acf acb qd aw)) (hmn : mn ≤ 60) (hbd : ¬ (0 ≤ q.toInt ∧ q.toInt < mn)) : Mi l y_Ref_longest b_Ref_longest 6 (some .int) 2 46 0 0 D t w sz [.ref mo, .int q] (fun r w' => r = (-2) ∧ w' = w) := by
  refine start_i (by decide) (Nat.le_of_ble_eq_true rfl) ?_
  intro p e s m below meth c ls H locs X hB hl
  have hx := X.1
  have hb := X.2.1
  have hl : lv_has ls 6 [(0, .ref mo), (1, .int q)] := hl
  refine lv_aload_n hx hb d_Ref_longest_0 rfl (lv_at hl 0 rfl) ?_
  refine lv_iload_n hx hb d_Ref_longest_1 rfl (lv_at hl 1 rfl) ?_
  refine callVi (As := [.int q]) (rest := []) X hB wf_hA (c_Ref_is (l := l) (D := D) (t := t) (w := w) (sz := H.size) (mo := mo) (az := az) (an := an) (ae := ae) (ac := ac) (ato := ato) (aps := aps) (apt := apt) (al := al) (aip := aip) (alo := alo) (alt := alt) (aic := aic) (arw := arw) (aco := aco) (act := act) (asp := asp) (anu := anu) (aor := aor) (ann := ann) (ald := ald) (ahd := ahd) (acn := acn) (ais := ais) (aq := aq) (acf := acf) (acb := acb) (aw := aw) (k := k) (mn := mn) (cz := cz) (tz := tz) (ca := ca) (pz := pz) (wy := wy) (fi := fi) (se := se) (ho := ho) (lx := lx) (ly := ly) (ts := ts) (tS := tS) (cs := cs) (av := av) (lz := lz) (hz1 := hz1) (nl := nl) (nh := nh) (ce := ce) (qd := qd) (q := q) hMo (by exact hmn)) k_1078 k_1080 k_42 k_75 k_1081 hMo cl_Ref rfl hd_Ref_is ⟨Nat.le_of_ble_eq_true rfl, Nat.le_of_ble_eq_true rfl⟩ ⟨Nat.le_of_ble_eq_true rfl, Nat.le_of_ble_eq_true rfl⟩ hl.1 (Nat.le_of_ble_eq_true rfl) d_Ref_longest_2 rfl (fun r_2 w1 H locs hp hB => ?_)
  obtain ⟨rfl, hw_2⟩ := hp
  have hB : wf_B D wcl (wf_A w s.heap.size) s.heap w H locs := wf_Bto hw_2 hB
  refine wf_bne (tgt := 11) hx hb d_Ref_longest_5 (by decide) (fun c_5 => ?_) (fun c_5 => ?_)
  · exact absurd (of_decide_eq_true c_5) hbd
  · refine lv_bipush (v := (-2)) hx hb d_Ref_longest_8 (by decide) ?_
    refine ret_i X hB d_Ref_longest_10 ?_
    exact ⟨rfl, rfl⟩
set_option maxHeartbeats 4000000 in
set_option maxRecDepth 100000 in
theorem c_Ref_manyb {l : Launch} {D : va_G} {t : Nat → ClassId} {w : wf_W} {sz : Nat} {mo az an ae ac ato aps apt al aip alo alt aic arw aco act asp anu aor ann ald ahd acn ais aq acf acb aw k mn cz tz ca pz wy fi se ho lx ly ts tS cs av lz hz1 nl nh ce qd : Nat} {q : Int32} (hMo : w mo = some (rfO k mn az an ae ac cz ato tz ca aps apt al aip pz wy fi se ho lx ly ts tS alo alt aic arw aco act asp cs anu aor ann av ald ahd lz hz1 nl nh acn ce ais aq acf acb qd aw)) (hmn : mn ≤ 60) (hbd : ¬ (0 ≤ q.toInt ∧ q.toInt < mn)) : Mi l y_Ref_many b_Ref_many 2 (some .int) 2 46 0 0 D t w sz [.ref mo, .int q] (fun r w' => r = (-2) ∧ w' = w) := by
  refine start_i (by decide) (Nat.le_of_ble_eq_true rfl) ?_
  intro p e s m below meth c ls H locs X hB hl
  have hx := X.1
  have hb := X.2.1
  have hl : lv_has ls 2 [(0, .ref mo), (1, .int q)] := hl
  refine lv_aload_n hx hb d_Ref_many_0 rfl (lv_at hl 0 rfl) ?_
  refine lv_iload_n hx hb d_Ref_many_1 rfl (lv_at hl 1 rfl) ?_
  refine callVi (As := [.int q]) (rest := []) X hB wf_hA (c_Ref_is (l := l) (D := D) (t := t) (w := w) (sz := H.size) (mo := mo) (az := az) (an := an) (ae := ae) (ac := ac) (ato := ato) (aps := aps) (apt := apt) (al := al) (aip := aip) (alo := alo) (alt := alt) (aic := aic) (arw := arw) (aco := aco) (act := act) (asp := asp) (anu := anu) (aor := aor) (ann := ann) (ald := ald) (ahd := ahd) (acn := acn) (ais := ais) (aq := aq) (acf := acf) (acb := acb) (aw := aw) (k := k) (mn := mn) (cz := cz) (tz := tz) (ca := ca) (pz := pz) (wy := wy) (fi := fi) (se := se) (ho := ho) (lx := lx) (ly := ly) (ts := ts) (tS := tS) (cs := cs) (av := av) (lz := lz) (hz1 := hz1) (nl := nl) (nh := nh) (ce := ce) (qd := qd) (q := q) hMo (by exact hmn)) k_1078 k_1080 k_42 k_75 k_1081 hMo cl_Ref rfl hd_Ref_is ⟨Nat.le_of_ble_eq_true rfl, Nat.le_of_ble_eq_true rfl⟩ ⟨Nat.le_of_ble_eq_true rfl, Nat.le_of_ble_eq_true rfl⟩ hl.1 (Nat.le_of_ble_eq_true rfl) d_Ref_many_2 rfl (fun r_2 w1 H locs hp hB => ?_)
  obtain ⟨rfl, hw_2⟩ := hp
  have hB : wf_B D wcl (wf_A w s.heap.size) s.heap w H locs := wf_Bto hw_2 hB
  refine wf_bne (tgt := 11) hx hb d_Ref_many_5 (by decide) (fun c_5 => ?_) (fun c_5 => ?_)
  · exact absurd (of_decide_eq_true c_5) hbd
  · refine lv_bipush (v := (-2)) hx hb d_Ref_many_8 (by decide) ?_
    refine ret_i X hB d_Ref_many_10 ?_
    exact ⟨rfl, rfl⟩
set_option maxHeartbeats 4000000 in
set_option maxRecDepth 100000 in
theorem c_Ref_turnb {l : Launch} {D : va_G} {t : Nat → ClassId} {w : wf_W} {sz : Nat} {mo az an ae ac ato aps apt al aip alo alt aic arw aco act asp anu aor ann ald ahd acn ais aq acf acb aw k mn cz tz ca pz wy fi se ho lx ly ts tS cs av lz hz1 nl nh ce qd : Nat} {q : Int32} (hMo : w mo = some (rfO k mn az an ae ac cz ato tz ca aps apt al aip pz wy fi se ho lx ly ts tS alo alt aic arw aco act asp cs anu aor ann av ald ahd lz hz1 nl nh acn ce ais aq acf acb qd aw)) (hmn : mn ≤ 60) (hbd : ¬ (0 ≤ q.toInt ∧ q.toInt < mn)) : Mi l y_Ref_turn b_Ref_turn 2 (some .int) 2 46 0 0 D t w sz [.ref mo, .int q] (fun r w' => r = (-2) ∧ w' = w) := by
  refine start_i (by decide) (Nat.le_of_ble_eq_true rfl) ?_
  intro p e s m below meth c ls H locs X hB hl
  have hx := X.1
  have hb := X.2.1
  have hl : lv_has ls 2 [(0, .ref mo), (1, .int q)] := hl
  refine lv_aload_n hx hb d_Ref_turn_0 rfl (lv_at hl 0 rfl) ?_
  refine lv_iload_n hx hb d_Ref_turn_1 rfl (lv_at hl 1 rfl) ?_
  refine callVi (As := [.int q]) (rest := []) X hB wf_hA (c_Ref_is (l := l) (D := D) (t := t) (w := w) (sz := H.size) (mo := mo) (az := az) (an := an) (ae := ae) (ac := ac) (ato := ato) (aps := aps) (apt := apt) (al := al) (aip := aip) (alo := alo) (alt := alt) (aic := aic) (arw := arw) (aco := aco) (act := act) (asp := asp) (anu := anu) (aor := aor) (ann := ann) (ald := ald) (ahd := ahd) (acn := acn) (ais := ais) (aq := aq) (acf := acf) (acb := acb) (aw := aw) (k := k) (mn := mn) (cz := cz) (tz := tz) (ca := ca) (pz := pz) (wy := wy) (fi := fi) (se := se) (ho := ho) (lx := lx) (ly := ly) (ts := ts) (tS := tS) (cs := cs) (av := av) (lz := lz) (hz1 := hz1) (nl := nl) (nh := nh) (ce := ce) (qd := qd) (q := q) hMo (by exact hmn)) k_1078 k_1080 k_42 k_75 k_1081 hMo cl_Ref rfl hd_Ref_is ⟨Nat.le_of_ble_eq_true rfl, Nat.le_of_ble_eq_true rfl⟩ ⟨Nat.le_of_ble_eq_true rfl, Nat.le_of_ble_eq_true rfl⟩ hl.1 (Nat.le_of_ble_eq_true rfl) d_Ref_turn_2 rfl (fun r_2 w1 H locs hp hB => ?_)
  obtain ⟨rfl, hw_2⟩ := hp
  have hB : wf_B D wcl (wf_A w s.heap.size) s.heap w H locs := wf_Bto hw_2 hB
  refine wf_bne (tgt := 11) hx hb d_Ref_turn_5 (by decide) (fun c_5 => ?_) (fun c_5 => ?_)
  · exact absurd (of_decide_eq_true c_5) hbd
  · refine lv_bipush (v := (-2)) hx hb d_Ref_turn_8 (by decide) ?_
    refine ret_i X hB d_Ref_turn_10 ?_
    exact ⟨rfl, rfl⟩
set_option maxHeartbeats 4000000 in
set_option maxRecDepth 100000 in
theorem c_Ref_joinb {l : Launch} {D : va_G} {t : Nat → ClassId} {w : wf_W} {sz : Nat} {mo az an ae ac ato aps apt al aip alo alt aic arw aco act asp anu aor ann ald ahd acn ais aq acf acb aw k mn cz tz ca pz wy fi se ho lx ly ts tS cs av lz hz1 nl nh ce qd : Nat} {q q2 : Int32} (hMo : w mo = some (rfO k mn az an ae ac cz ato tz ca aps apt al aip pz wy fi se ho lx ly ts tS alo alt aic arw aco act asp cs anu aor ann av ald ahd lz hz1 nl nh acn ce ais aq acf acb qd aw)) (hmn : mn ≤ 60) (hbd : ¬ ((0 ≤ q.toInt ∧ q.toInt < mn) ∧ (0 ≤ q2.toInt ∧ q2.toInt < mn))) : Mi l y_Ref_join b_Ref_join 3 (some .int) 2 46 0 0 D t w sz [.ref mo, .int q, .int q2] (fun r w' => r = (-2) ∧ w' = w) := by
  refine start_i (by decide) (Nat.le_of_ble_eq_true rfl) ?_
  intro p e s m below meth c ls H locs X hB hl
  have hx := X.1
  have hb := X.2.1
  have hl : lv_has ls 3 [(0, .ref mo), (1, .int q), (2, .int q2)] := hl
  refine lv_aload_n hx hb d_Ref_join_0 rfl (lv_at hl 0 rfl) ?_
  refine lv_iload_n hx hb d_Ref_join_1 rfl (lv_at hl 1 rfl) ?_
  refine callVi (As := [.int q]) (rest := []) X hB wf_hA (c_Ref_is (l := l) (D := D) (t := t) (w := w) (sz := H.size) (mo := mo) (az := az) (an := an) (ae := ae) (ac := ac) (ato := ato) (aps := aps) (apt := apt) (al := al) (aip := aip) (alo := alo) (alt := alt) (aic := aic) (arw := arw) (aco := aco) (act := act) (asp := asp) (anu := anu) (aor := aor) (ann := ann) (ald := ald) (ahd := ahd) (acn := acn) (ais := ais) (aq := aq) (acf := acf) (acb := acb) (aw := aw) (k := k) (mn := mn) (cz := cz) (tz := tz) (ca := ca) (pz := pz) (wy := wy) (fi := fi) (se := se) (ho := ho) (lx := lx) (ly := ly) (ts := ts) (tS := tS) (cs := cs) (av := av) (lz := lz) (hz1 := hz1) (nl := nl) (nh := nh) (ce := ce) (qd := qd) (q := q) hMo (by exact hmn)) k_1078 k_1080 k_42 k_75 k_1081 hMo cl_Ref rfl hd_Ref_is ⟨Nat.le_of_ble_eq_true rfl, Nat.le_of_ble_eq_true rfl⟩ ⟨Nat.le_of_ble_eq_true rfl, Nat.le_of_ble_eq_true rfl⟩ hl.1 (Nat.le_of_ble_eq_true rfl) d_Ref_join_2 rfl (fun r_2 w1 H locs hp hB => ?_)
  obtain ⟨rfl, hw_2⟩ := hp
  have hB : wf_B D wcl (wf_A w s.heap.size) s.heap w H locs := wf_Bto hw_2 hB
  refine wf_beq (tgt := 16) hx hb d_Ref_join_5 (by decide) (fun c_5 => ?_) (fun c_5 => ?_)
  · refine lv_bipush (v := (-2)) hx hb d_Ref_join_16 (by decide) ?_
    refine ret_i X hB d_Ref_join_18 ?_
    exact ⟨rfl, rfl⟩
  · refine lv_aload_n hx hb d_Ref_join_8 rfl (lv_at hl 0 rfl) ?_
    refine lv_iload_n hx hb d_Ref_join_9 rfl (lv_at hl 2 rfl) ?_
    refine callVi (As := [.int q2]) (rest := []) X hB wf_hA (c_Ref_is (l := l) (D := D) (t := t) (w := w) (sz := H.size) (mo := mo) (az := az) (an := an) (ae := ae) (ac := ac) (ato := ato) (aps := aps) (apt := apt) (al := al) (aip := aip) (alo := alo) (alt := alt) (aic := aic) (arw := arw) (aco := aco) (act := act) (asp := asp) (anu := anu) (aor := aor) (ann := ann) (ald := ald) (ahd := ahd) (acn := acn) (ais := ais) (aq := aq) (acf := acf) (acb := acb) (aw := aw) (k := k) (mn := mn) (cz := cz) (tz := tz) (ca := ca) (pz := pz) (wy := wy) (fi := fi) (se := se) (ho := ho) (lx := lx) (ly := ly) (ts := ts) (tS := tS) (cs := cs) (av := av) (lz := lz) (hz1 := hz1) (nl := nl) (nh := nh) (ce := ce) (qd := qd) (q := q2) hMo (by exact hmn)) k_1078 k_1080 k_42 k_75 k_1081 hMo cl_Ref rfl hd_Ref_is ⟨Nat.le_of_ble_eq_true rfl, Nat.le_of_ble_eq_true rfl⟩ ⟨Nat.le_of_ble_eq_true rfl, Nat.le_of_ble_eq_true rfl⟩ hl.1 (Nat.le_of_ble_eq_true rfl) d_Ref_join_10 rfl (fun r_10 w1 H locs hp hB => ?_)
    obtain ⟨rfl, hw_10⟩ := hp
    have hB : wf_B D wcl (wf_A w s.heap.size) s.heap w H locs := wf_Bto hw_10 hB
    refine wf_bne (tgt := 19) hx hb d_Ref_join_13 (by decide) (fun c_13 => ?_) (fun c_13 => ?_)
    · exact absurd ⟨of_decide_eq_true c_5, of_decide_eq_true c_13⟩ hbd
    · refine lv_bipush (v := (-2)) hx hb d_Ref_join_16 (by decide) ?_
      refine ret_i X hB d_Ref_join_18 ?_
      exact ⟨rfl, rfl⟩
set_option maxHeartbeats 4000000 in
set_option maxRecDepth 100000 in
theorem c_Ref_withinb {l : Launch} {D : va_G} {t : Nat → ClassId} {w : wf_W} {sz : Nat} {mo az an ae ac ato aps apt al aip alo alt aic arw aco act asp anu aor ann ald ahd acn ais aq acf acb aw k mn cz tz ca pz wy fi se ho lx ly ts tS cs av lz hz1 nl nh ce qd : Nat} {q q2 : Int32} (hMo : w mo = some (rfO k mn az an ae ac cz ato tz ca aps apt al aip pz wy fi se ho lx ly ts tS alo alt aic arw aco act asp cs anu aor ann av ald ahd lz hz1 nl nh acn ce ais aq acf acb qd aw)) (hmn : mn ≤ 60) (hbd : ¬ ((0 ≤ q.toInt ∧ q.toInt < mn) ∧ (0 ≤ q2.toInt ∧ q2.toInt < mn))) : Mi l y_Ref_within b_Ref_within 3 (some .int) 2 46 0 0 D t w sz [.ref mo, .int q, .int q2] (fun r w' => r = (-2) ∧ w' = w) := by
  refine start_i (by decide) (Nat.le_of_ble_eq_true rfl) ?_
  intro p e s m below meth c ls H locs X hB hl
  have hx := X.1
  have hb := X.2.1
  have hl : lv_has ls 3 [(0, .ref mo), (1, .int q), (2, .int q2)] := hl
  refine lv_aload_n hx hb d_Ref_within_0 rfl (lv_at hl 0 rfl) ?_
  refine lv_iload_n hx hb d_Ref_within_1 rfl (lv_at hl 1 rfl) ?_
  refine callVi (As := [.int q]) (rest := []) X hB wf_hA (c_Ref_is (l := l) (D := D) (t := t) (w := w) (sz := H.size) (mo := mo) (az := az) (an := an) (ae := ae) (ac := ac) (ato := ato) (aps := aps) (apt := apt) (al := al) (aip := aip) (alo := alo) (alt := alt) (aic := aic) (arw := arw) (aco := aco) (act := act) (asp := asp) (anu := anu) (aor := aor) (ann := ann) (ald := ald) (ahd := ahd) (acn := acn) (ais := ais) (aq := aq) (acf := acf) (acb := acb) (aw := aw) (k := k) (mn := mn) (cz := cz) (tz := tz) (ca := ca) (pz := pz) (wy := wy) (fi := fi) (se := se) (ho := ho) (lx := lx) (ly := ly) (ts := ts) (tS := tS) (cs := cs) (av := av) (lz := lz) (hz1 := hz1) (nl := nl) (nh := nh) (ce := ce) (qd := qd) (q := q) hMo (by exact hmn)) k_1078 k_1080 k_42 k_75 k_1081 hMo cl_Ref rfl hd_Ref_is ⟨Nat.le_of_ble_eq_true rfl, Nat.le_of_ble_eq_true rfl⟩ ⟨Nat.le_of_ble_eq_true rfl, Nat.le_of_ble_eq_true rfl⟩ hl.1 (Nat.le_of_ble_eq_true rfl) d_Ref_within_2 rfl (fun r_2 w1 H locs hp hB => ?_)
  obtain ⟨rfl, hw_2⟩ := hp
  have hB : wf_B D wcl (wf_A w s.heap.size) s.heap w H locs := wf_Bto hw_2 hB
  refine wf_beq (tgt := 16) hx hb d_Ref_within_5 (by decide) (fun c_5 => ?_) (fun c_5 => ?_)
  · refine lv_bipush (v := (-2)) hx hb d_Ref_within_16 (by decide) ?_
    refine lv_goto (tgt := 36) hx hb d_Ref_within_18 (by decide) ?_
    refine ret_i X hB d_Ref_within_36 ?_
    exact ⟨rfl, rfl⟩
  · refine lv_aload_n hx hb d_Ref_within_8 rfl (lv_at hl 0 rfl) ?_
    refine lv_iload_n hx hb d_Ref_within_9 rfl (lv_at hl 2 rfl) ?_
    refine callVi (As := [.int q2]) (rest := []) X hB wf_hA (c_Ref_is (l := l) (D := D) (t := t) (w := w) (sz := H.size) (mo := mo) (az := az) (an := an) (ae := ae) (ac := ac) (ato := ato) (aps := aps) (apt := apt) (al := al) (aip := aip) (alo := alo) (alt := alt) (aic := aic) (arw := arw) (aco := aco) (act := act) (asp := asp) (anu := anu) (aor := aor) (ann := ann) (ald := ald) (ahd := ahd) (acn := acn) (ais := ais) (aq := aq) (acf := acf) (acb := acb) (aw := aw) (k := k) (mn := mn) (cz := cz) (tz := tz) (ca := ca) (pz := pz) (wy := wy) (fi := fi) (se := se) (ho := ho) (lx := lx) (ly := ly) (ts := ts) (tS := tS) (cs := cs) (av := av) (lz := lz) (hz1 := hz1) (nl := nl) (nh := nh) (ce := ce) (qd := qd) (q := q2) hMo (by exact hmn)) k_1078 k_1080 k_42 k_75 k_1081 hMo cl_Ref rfl hd_Ref_is ⟨Nat.le_of_ble_eq_true rfl, Nat.le_of_ble_eq_true rfl⟩ ⟨Nat.le_of_ble_eq_true rfl, Nat.le_of_ble_eq_true rfl⟩ hl.1 (Nat.le_of_ble_eq_true rfl) d_Ref_within_10 rfl (fun r_10 w1 H locs hp hB => ?_)
    obtain ⟨rfl, hw_10⟩ := hp
    have hB : wf_B D wcl (wf_A w s.heap.size) s.heap w H locs := wf_Bto hw_10 hB
    refine wf_bne (tgt := 21) hx hb d_Ref_within_13 (by decide) (fun c_13 => ?_) (fun c_13 => ?_)
    · exact absurd ⟨of_decide_eq_true c_5, of_decide_eq_true c_13⟩ hbd
    · refine lv_bipush (v := (-2)) hx hb d_Ref_within_16 (by decide) ?_
      refine lv_goto (tgt := 36) hx hb d_Ref_within_18 (by decide) ?_
      refine ret_i X hB d_Ref_within_36 ?_
      exact ⟨rfl, rfl⟩
set_option maxHeartbeats 4000000 in
set_option maxRecDepth 100000 in
theorem c_Ref_differb {l : Launch} {D : va_G} {t : Nat → ClassId} {w : wf_W} {sz : Nat} {mo az an ae ac ato aps apt al aip alo alt aic arw aco act asp anu aor ann ald ahd acn ais aq acf acb aw k mn cz tz ca pz wy fi se ho lx ly ts tS cs av lz hz1 nl nh ce qd : Nat} {q q2 : Int32} (hMo : w mo = some (rfO k mn az an ae ac cz ato tz ca aps apt al aip pz wy fi se ho lx ly ts tS alo alt aic arw aco act asp cs anu aor ann av ald ahd lz hz1 nl nh acn ce ais aq acf acb qd aw)) (hmn : mn ≤ 60) (hbd : ¬ ((0 ≤ q.toInt ∧ q.toInt < mn) ∧ (0 ≤ q2.toInt ∧ q2.toInt < mn))) : Mi l y_Ref_differ b_Ref_differ 6 (some .int) 2 46 0 0 D t w sz [.ref mo, .int q, .int q2] (fun r w' => r = (-2) ∧ w' = w) := by
  refine start_i (by decide) (Nat.le_of_ble_eq_true rfl) ?_
  intro p e s m below meth c ls H locs X hB hl
  have hx := X.1
  have hb := X.2.1
  have hl : lv_has ls 6 [(0, .ref mo), (1, .int q), (2, .int q2)] := hl
  refine lv_aload_n hx hb d_Ref_differ_0 rfl (lv_at hl 0 rfl) ?_
  refine lv_iload_n hx hb d_Ref_differ_1 rfl (lv_at hl 1 rfl) ?_
  refine callVi (As := [.int q]) (rest := []) X hB wf_hA (c_Ref_is (l := l) (D := D) (t := t) (w := w) (sz := H.size) (mo := mo) (az := az) (an := an) (ae := ae) (ac := ac) (ato := ato) (aps := aps) (apt := apt) (al := al) (aip := aip) (alo := alo) (alt := alt) (aic := aic) (arw := arw) (aco := aco) (act := act) (asp := asp) (anu := anu) (aor := aor) (ann := ann) (ald := ald) (ahd := ahd) (acn := acn) (ais := ais) (aq := aq) (acf := acf) (acb := acb) (aw := aw) (k := k) (mn := mn) (cz := cz) (tz := tz) (ca := ca) (pz := pz) (wy := wy) (fi := fi) (se := se) (ho := ho) (lx := lx) (ly := ly) (ts := ts) (tS := tS) (cs := cs) (av := av) (lz := lz) (hz1 := hz1) (nl := nl) (nh := nh) (ce := ce) (qd := qd) (q := q) hMo (by exact hmn)) k_1078 k_1080 k_42 k_75 k_1081 hMo cl_Ref rfl hd_Ref_is ⟨Nat.le_of_ble_eq_true rfl, Nat.le_of_ble_eq_true rfl⟩ ⟨Nat.le_of_ble_eq_true rfl, Nat.le_of_ble_eq_true rfl⟩ hl.1 (Nat.le_of_ble_eq_true rfl) d_Ref_differ_2 rfl (fun r_2 w1 H locs hp hB => ?_)
  obtain ⟨rfl, hw_2⟩ := hp
  have hB : wf_B D wcl (wf_A w s.heap.size) s.heap w H locs := wf_Bto hw_2 hB
  refine wf_beq (tgt := 16) hx hb d_Ref_differ_5 (by decide) (fun c_5 => ?_) (fun c_5 => ?_)
  · refine lv_bipush (v := (-2)) hx hb d_Ref_differ_16 (by decide) ?_
    refine ret_i X hB d_Ref_differ_18 ?_
    exact ⟨rfl, rfl⟩
  · refine lv_aload_n hx hb d_Ref_differ_8 rfl (lv_at hl 0 rfl) ?_
    refine lv_iload_n hx hb d_Ref_differ_9 rfl (lv_at hl 2 rfl) ?_
    refine callVi (As := [.int q2]) (rest := []) X hB wf_hA (c_Ref_is (l := l) (D := D) (t := t) (w := w) (sz := H.size) (mo := mo) (az := az) (an := an) (ae := ae) (ac := ac) (ato := ato) (aps := aps) (apt := apt) (al := al) (aip := aip) (alo := alo) (alt := alt) (aic := aic) (arw := arw) (aco := aco) (act := act) (asp := asp) (anu := anu) (aor := aor) (ann := ann) (ald := ald) (ahd := ahd) (acn := acn) (ais := ais) (aq := aq) (acf := acf) (acb := acb) (aw := aw) (k := k) (mn := mn) (cz := cz) (tz := tz) (ca := ca) (pz := pz) (wy := wy) (fi := fi) (se := se) (ho := ho) (lx := lx) (ly := ly) (ts := ts) (tS := tS) (cs := cs) (av := av) (lz := lz) (hz1 := hz1) (nl := nl) (nh := nh) (ce := ce) (qd := qd) (q := q2) hMo (by exact hmn)) k_1078 k_1080 k_42 k_75 k_1081 hMo cl_Ref rfl hd_Ref_is ⟨Nat.le_of_ble_eq_true rfl, Nat.le_of_ble_eq_true rfl⟩ ⟨Nat.le_of_ble_eq_true rfl, Nat.le_of_ble_eq_true rfl⟩ hl.1 (Nat.le_of_ble_eq_true rfl) d_Ref_differ_10 rfl (fun r_10 w1 H locs hp hB => ?_)
    obtain ⟨rfl, hw_10⟩ := hp
    have hB : wf_B D wcl (wf_A w s.heap.size) s.heap w H locs := wf_Bto hw_10 hB
    refine wf_bne (tgt := 19) hx hb d_Ref_differ_13 (by decide) (fun c_13 => ?_) (fun c_13 => ?_)
    · exact absurd ⟨of_decide_eq_true c_5, of_decide_eq_true c_13⟩ hbd
    · refine lv_bipush (v := (-2)) hx hb d_Ref_differ_16 (by decide) ?_
      refine ret_i X hB d_Ref_differ_18 ?_
      exact ⟨rfl, rfl⟩
set_option maxHeartbeats 4000000 in
set_option maxRecDepth 100000 in
theorem c_Ref_trimb {l : Launch} {D : va_G} {t : Nat → ClassId} {w : wf_W} {sz : Nat} {mo az an ae ac ato aps apt al aip alo alt aic arw aco act asp anu aor ann ald ahd acn ais aq acf acb aw k mn cz tz ca pz wy fi se ho lx ly ts tS cs av lz hz1 nl nh ce qd : Nat} {q q2 : Int32} (hMo : w mo = some (rfO k mn az an ae ac cz ato tz ca aps apt al aip pz wy fi se ho lx ly ts tS alo alt aic arw aco act asp cs anu aor ann av ald ahd lz hz1 nl nh acn ce ais aq acf acb qd aw)) (hmn : mn ≤ 60) (hbd : ¬ ((0 ≤ q.toInt ∧ q.toInt < mn) ∧ (0 ≤ q2.toInt ∧ q2.toInt ≤ 100))) : Mi l y_Ref_trim b_Ref_trim 6 (some .int) 2 46 0 0 D t w sz [.ref mo, .int q, .int q2] (fun r w' => r = (-2) ∧ w' = w) := by
  refine start_i (by decide) (Nat.le_of_ble_eq_true rfl) ?_
  intro p e s m below meth c ls H locs X hB hl
  have hx := X.1
  have hb := X.2.1
  have hl : lv_has ls 6 [(0, .ref mo), (1, .int q), (2, .int q2)] := hl
  refine lv_aload_n hx hb d_Ref_trim_0 rfl (lv_at hl 0 rfl) ?_
  refine lv_iload_n hx hb d_Ref_trim_1 rfl (lv_at hl 1 rfl) ?_
  refine callVi (As := [.int q]) (rest := []) X hB wf_hA (c_Ref_is (l := l) (D := D) (t := t) (w := w) (sz := H.size) (mo := mo) (az := az) (an := an) (ae := ae) (ac := ac) (ato := ato) (aps := aps) (apt := apt) (al := al) (aip := aip) (alo := alo) (alt := alt) (aic := aic) (arw := arw) (aco := aco) (act := act) (asp := asp) (anu := anu) (aor := aor) (ann := ann) (ald := ald) (ahd := ahd) (acn := acn) (ais := ais) (aq := aq) (acf := acf) (acb := acb) (aw := aw) (k := k) (mn := mn) (cz := cz) (tz := tz) (ca := ca) (pz := pz) (wy := wy) (fi := fi) (se := se) (ho := ho) (lx := lx) (ly := ly) (ts := ts) (tS := tS) (cs := cs) (av := av) (lz := lz) (hz1 := hz1) (nl := nl) (nh := nh) (ce := ce) (qd := qd) (q := q) hMo (by exact hmn)) k_1078 k_1080 k_42 k_75 k_1081 hMo cl_Ref rfl hd_Ref_is ⟨Nat.le_of_ble_eq_true rfl, Nat.le_of_ble_eq_true rfl⟩ ⟨Nat.le_of_ble_eq_true rfl, Nat.le_of_ble_eq_true rfl⟩ hl.1 (Nat.le_of_ble_eq_true rfl) d_Ref_trim_2 rfl (fun r_2 w1 H locs hp hB => ?_)
  obtain ⟨rfl, hw_2⟩ := hp
  have hB : wf_B D wcl (wf_A w s.heap.size) s.heap w H locs := wf_Bto hw_2 hB
  refine wf_beq (tgt := 20) hx hb d_Ref_trim_5 (by decide) (fun c_5 => ?_) (fun c_5 => ?_)
  · refine lv_bipush (v := (-2)) hx hb d_Ref_trim_20 (by decide) ?_
    refine ret_i X hB d_Ref_trim_22 ?_
    exact ⟨rfl, rfl⟩
  · refine lv_iload_n hx hb d_Ref_trim_8 rfl (lv_at hl 2 rfl) ?_
    refine lv_i2l hx hb d_Ref_trim_9 rfl ?_
    refine lv_lconst (v := lN 0) hx hb d_Ref_trim_10 (by decide) ?_
    refine lv_ldc2 (own := R_Ref) hx hb X.2.2.1 (X.2.2.2.2.1.2 _ k_1091 _) d_Ref_trim_11 ?_
    refine wf_tl (y := lN 100) (by decide) ?_
    refine callSi (As := [.long (Int32.toInt64 q2), .long (lN 0), .long (lN 100)]) (rest := []) X hB wf_hA (c_Ref_liesq (l := l) (D := D) (t := t) (w := w) (sz := H.size) (q1 := q2) (l1 := 0) (h1 := 100) (by omega)) k_1030 k_1031 k_75 k_1032 hd_Ref_lies ⟨Nat.le_of_ble_eq_true rfl, Nat.le_of_ble_eq_true rfl⟩ ⟨Nat.le_of_ble_eq_true rfl, Nat.le_of_ble_eq_true rfl⟩ hl.1 (Nat.le_of_ble_eq_true rfl) d_Ref_trim_14 rfl (fun r_14 w1 H locs hp hB => ?_)
    obtain ⟨rfl, hw_14⟩ := hp
    have hB : wf_B D wcl (wf_A w s.heap.size) s.heap w H locs := wf_Bto hw_14 hB
    refine wf_bne (tgt := 23) hx hb d_Ref_trim_17 (by decide) (fun c_17 => ?_) (fun c_17 => ?_)
    · exact absurd ⟨of_decide_eq_true c_5, by have := of_decide_eq_true c_17; omega⟩ hbd
    · refine lv_bipush (v := (-2)) hx hb d_Ref_trim_20 (by decide) ?_
      refine ret_i X hB d_Ref_trim_22 ?_
      exact ⟨rfl, rfl⟩
set_option maxHeartbeats 4000000 in
set_option maxRecDepth 100000 in
theorem c_Ref_cutb {l : Launch} {D : va_G} {t : Nat → ClassId} {w : wf_W} {sz : Nat} {mo az an ae ac ato aps apt al aip alo alt aic arw aco act asp anu aor ann ald ahd acn ais aq acf acb aw k mn cz tz ca pz wy fi se ho lx ly ts tS cs av lz hz1 nl nh ce qd : Nat} {q q2 : Int32} (hMo : w mo = some (rfO k mn az an ae ac cz ato tz ca aps apt al aip pz wy fi se ho lx ly ts tS alo alt aic arw aco act asp cs anu aor ann av ald ahd lz hz1 nl nh acn ce ais aq acf acb qd aw)) (hmn : mn ≤ 60) (hbd : ¬ ((0 ≤ q.toInt ∧ q.toInt < mn) ∧ (0 ≤ q2.toInt ∧ q2.toInt ≤ 100))) : Mi l y_Ref_cut b_Ref_cut 9 (some .int) 2 46 0 0 D t w sz [.ref mo, .int q, .int q2] (fun r w' => r = (-2) ∧ w' = w) := by
  refine start_i (by decide) (Nat.le_of_ble_eq_true rfl) ?_
  intro p e s m below meth c ls H locs X hB hl
  have hx := X.1
  have hb := X.2.1
  have hl : lv_has ls 9 [(0, .ref mo), (1, .int q), (2, .int q2)] := hl
  refine lv_aload_n hx hb d_Ref_cut_0 rfl (lv_at hl 0 rfl) ?_
  refine lv_iload_n hx hb d_Ref_cut_1 rfl (lv_at hl 1 rfl) ?_
  refine callVi (As := [.int q]) (rest := []) X hB wf_hA (c_Ref_is (l := l) (D := D) (t := t) (w := w) (sz := H.size) (mo := mo) (az := az) (an := an) (ae := ae) (ac := ac) (ato := ato) (aps := aps) (apt := apt) (al := al) (aip := aip) (alo := alo) (alt := alt) (aic := aic) (arw := arw) (aco := aco) (act := act) (asp := asp) (anu := anu) (aor := aor) (ann := ann) (ald := ald) (ahd := ahd) (acn := acn) (ais := ais) (aq := aq) (acf := acf) (acb := acb) (aw := aw) (k := k) (mn := mn) (cz := cz) (tz := tz) (ca := ca) (pz := pz) (wy := wy) (fi := fi) (se := se) (ho := ho) (lx := lx) (ly := ly) (ts := ts) (tS := tS) (cs := cs) (av := av) (lz := lz) (hz1 := hz1) (nl := nl) (nh := nh) (ce := ce) (qd := qd) (q := q) hMo (by exact hmn)) k_1078 k_1080 k_42 k_75 k_1081 hMo cl_Ref rfl hd_Ref_is ⟨Nat.le_of_ble_eq_true rfl, Nat.le_of_ble_eq_true rfl⟩ ⟨Nat.le_of_ble_eq_true rfl, Nat.le_of_ble_eq_true rfl⟩ hl.1 (Nat.le_of_ble_eq_true rfl) d_Ref_cut_2 rfl (fun r_2 w1 H locs hp hB => ?_)
  obtain ⟨rfl, hw_2⟩ := hp
  have hB : wf_B D wcl (wf_A w s.heap.size) s.heap w H locs := wf_Bto hw_2 hB
  refine wf_beq (tgt := 20) hx hb d_Ref_cut_5 (by decide) (fun c_5 => ?_) (fun c_5 => ?_)
  · refine lv_bipush (v := (-2)) hx hb d_Ref_cut_20 (by decide) ?_
    refine ret_i X hB d_Ref_cut_22 ?_
    exact ⟨rfl, rfl⟩
  · refine lv_iload_n hx hb d_Ref_cut_8 rfl (lv_at hl 2 rfl) ?_
    refine lv_i2l hx hb d_Ref_cut_9 rfl ?_
    refine lv_lconst (v := lN 0) hx hb d_Ref_cut_10 (by decide) ?_
    refine lv_ldc2 (own := R_Ref) hx hb X.2.2.1 (X.2.2.2.2.1.2 _ k_1091 _) d_Ref_cut_11 ?_
    refine wf_tl (y := lN 100) (by decide) ?_
    refine callSi (As := [.long (Int32.toInt64 q2), .long (lN 0), .long (lN 100)]) (rest := []) X hB wf_hA (c_Ref_liesq (l := l) (D := D) (t := t) (w := w) (sz := H.size) (q1 := q2) (l1 := 0) (h1 := 100) (by omega)) k_1030 k_1031 k_75 k_1032 hd_Ref_lies ⟨Nat.le_of_ble_eq_true rfl, Nat.le_of_ble_eq_true rfl⟩ ⟨Nat.le_of_ble_eq_true rfl, Nat.le_of_ble_eq_true rfl⟩ hl.1 (Nat.le_of_ble_eq_true rfl) d_Ref_cut_14 rfl (fun r_14 w1 H locs hp hB => ?_)
    obtain ⟨rfl, hw_14⟩ := hp
    have hB : wf_B D wcl (wf_A w s.heap.size) s.heap w H locs := wf_Bto hw_14 hB
    refine wf_bne (tgt := 23) hx hb d_Ref_cut_17 (by decide) (fun c_17 => ?_) (fun c_17 => ?_)
    · exact absurd ⟨of_decide_eq_true c_5, by have := of_decide_eq_true c_17; omega⟩ hbd
    · refine lv_bipush (v := (-2)) hx hb d_Ref_cut_20 (by decide) ?_
      refine ret_i X hB d_Ref_cut_22 ?_
      exact ⟨rfl, rfl⟩
set_option maxHeartbeats 4000000 in
set_option maxRecDepth 100000 in
theorem c_Ref_partb {l : Launch} {D : va_G} {t : Nat → ClassId} {w : wf_W} {sz : Nat} {mo az an ae ac ato aps apt al aip alo alt aic arw aco act asp anu aor ann ald ahd acn ais aq acf acb aw k mn cz tz ca pz wy fi se ho lx ly ts tS cs av lz hz1 nl nh ce qd : Nat} {q q2 : Int32} (hMo : w mo = some (rfO k mn az an ae ac cz ato tz ca aps apt al aip pz wy fi se ho lx ly ts tS alo alt aic arw aco act asp cs anu aor ann av ald ahd lz hz1 nl nh acn ce ais aq acf acb qd aw)) (hmn : mn ≤ 60) (hbd : ¬ ((0 ≤ q.toInt ∧ q.toInt < mn) ∧ (0 ≤ q2.toInt ∧ q2.toInt ≤ 2))) : Mi l y_Ref_part b_Ref_part 3 (some .int) 2 46 0 0 D t w sz [.ref mo, .int q, .int q2] (fun r w' => r = (-2) ∧ w' = w) := by
  refine start_i (by decide) (Nat.le_of_ble_eq_true rfl) ?_
  intro p e s m below meth c ls H locs X hB hl
  have hx := X.1
  have hb := X.2.1
  have hl : lv_has ls 3 [(0, .ref mo), (1, .int q), (2, .int q2)] := hl
  refine lv_aload_n hx hb d_Ref_part_0 rfl (lv_at hl 0 rfl) ?_
  refine lv_iload_n hx hb d_Ref_part_1 rfl (lv_at hl 1 rfl) ?_
  refine callVi (As := [.int q]) (rest := []) X hB wf_hA (c_Ref_is (l := l) (D := D) (t := t) (w := w) (sz := H.size) (mo := mo) (az := az) (an := an) (ae := ae) (ac := ac) (ato := ato) (aps := aps) (apt := apt) (al := al) (aip := aip) (alo := alo) (alt := alt) (aic := aic) (arw := arw) (aco := aco) (act := act) (asp := asp) (anu := anu) (aor := aor) (ann := ann) (ald := ald) (ahd := ahd) (acn := acn) (ais := ais) (aq := aq) (acf := acf) (acb := acb) (aw := aw) (k := k) (mn := mn) (cz := cz) (tz := tz) (ca := ca) (pz := pz) (wy := wy) (fi := fi) (se := se) (ho := ho) (lx := lx) (ly := ly) (ts := ts) (tS := tS) (cs := cs) (av := av) (lz := lz) (hz1 := hz1) (nl := nl) (nh := nh) (ce := ce) (qd := qd) (q := q) hMo (by exact hmn)) k_1078 k_1080 k_42 k_75 k_1081 hMo cl_Ref rfl hd_Ref_is ⟨Nat.le_of_ble_eq_true rfl, Nat.le_of_ble_eq_true rfl⟩ ⟨Nat.le_of_ble_eq_true rfl, Nat.le_of_ble_eq_true rfl⟩ hl.1 (Nat.le_of_ble_eq_true rfl) d_Ref_part_2 rfl (fun r_2 w1 H locs hp hB => ?_)
  obtain ⟨rfl, hw_2⟩ := hp
  have hB : wf_B D wcl (wf_A w s.heap.size) s.heap w H locs := wf_Bto hw_2 hB
  refine wf_beq (tgt := 20) hx hb d_Ref_part_5 (by decide) (fun c_5 => ?_) (fun c_5 => ?_)
  · refine lv_bipush (v := (-2)) hx hb d_Ref_part_20 (by decide) ?_
    refine ret_i X hB d_Ref_part_22 ?_
    exact ⟨rfl, rfl⟩
  · refine lv_iload_n hx hb d_Ref_part_8 rfl (lv_at hl 2 rfl) ?_
    refine lv_i2l hx hb d_Ref_part_9 rfl ?_
    refine lv_lconst (v := lN 0) hx hb d_Ref_part_10 (by decide) ?_
    refine lv_ldc2 (own := R_Ref) hx hb X.2.2.1 (X.2.2.2.2.1.2 _ k_1041 _) d_Ref_part_11 ?_
    refine wf_tl (y := lN 2) (by decide) ?_
    refine callSi (As := [.long (Int32.toInt64 q2), .long (lN 0), .long (lN 2)]) (rest := []) X hB wf_hA (c_Ref_liesq (l := l) (D := D) (t := t) (w := w) (sz := H.size) (q1 := q2) (l1 := 0) (h1 := 2) (by omega)) k_1030 k_1031 k_75 k_1032 hd_Ref_lies ⟨Nat.le_of_ble_eq_true rfl, Nat.le_of_ble_eq_true rfl⟩ ⟨Nat.le_of_ble_eq_true rfl, Nat.le_of_ble_eq_true rfl⟩ hl.1 (Nat.le_of_ble_eq_true rfl) d_Ref_part_14 rfl (fun r_14 w1 H locs hp hB => ?_)
    obtain ⟨rfl, hw_14⟩ := hp
    have hB : wf_B D wcl (wf_A w s.heap.size) s.heap w H locs := wf_Bto hw_14 hB
    refine wf_bne (tgt := 23) hx hb d_Ref_part_17 (by decide) (fun c_17 => ?_) (fun c_17 => ?_)
    · exact absurd ⟨of_decide_eq_true c_5, by have := of_decide_eq_true c_17; omega⟩ hbd
    · refine lv_bipush (v := (-2)) hx hb d_Ref_part_20 (by decide) ?_
      refine ret_i X hB d_Ref_part_22 ?_
      exact ⟨rfl, rfl⟩
set_option maxHeartbeats 4000000 in
set_option maxRecDepth 100000 in
theorem c_Ref_widenb {l : Launch} {D : va_G} {t : Nat → ClassId} {w : wf_W} {sz : Nat} {mo az an ae ac ato aps apt al aip alo alt aic arw aco act asp anu aor ann ald ahd acn ais aq acf acb aw k mn cz tz ca pz wy fi se ho lx ly ts tS cs av lz hz1 nl nh ce qd : Nat} {q q2 : Int32} (hMo : w mo = some (rfO k mn az an ae ac cz ato tz ca aps apt al aip pz wy fi se ho lx ly ts tS alo alt aic arw aco act asp cs anu aor ann av ald ahd lz hz1 nl nh acn ce ais aq acf acb qd aw)) (hmn : mn ≤ 60) (hbd : ¬ ((0 ≤ q.toInt ∧ q.toInt < mn) ∧ (0 ≤ q2.toInt ∧ q2.toInt ≤ 40))) : Mi l y_Ref_widen b_Ref_widen 3 (some .int) 2 46 0 0 D t w sz [.ref mo, .int q, .int q2] (fun r w' => r = (-2) ∧ w' = w) := by
  refine start_i (by decide) (Nat.le_of_ble_eq_true rfl) ?_
  intro p e s m below meth c ls H locs X hB hl
  have hx := X.1
  have hb := X.2.1
  have hl : lv_has ls 3 [(0, .ref mo), (1, .int q), (2, .int q2)] := hl
  refine lv_aload_n hx hb d_Ref_widen_0 rfl (lv_at hl 0 rfl) ?_
  refine lv_iload_n hx hb d_Ref_widen_1 rfl (lv_at hl 1 rfl) ?_
  refine callVi (As := [.int q]) (rest := []) X hB wf_hA (c_Ref_is (l := l) (D := D) (t := t) (w := w) (sz := H.size) (mo := mo) (az := az) (an := an) (ae := ae) (ac := ac) (ato := ato) (aps := aps) (apt := apt) (al := al) (aip := aip) (alo := alo) (alt := alt) (aic := aic) (arw := arw) (aco := aco) (act := act) (asp := asp) (anu := anu) (aor := aor) (ann := ann) (ald := ald) (ahd := ahd) (acn := acn) (ais := ais) (aq := aq) (acf := acf) (acb := acb) (aw := aw) (k := k) (mn := mn) (cz := cz) (tz := tz) (ca := ca) (pz := pz) (wy := wy) (fi := fi) (se := se) (ho := ho) (lx := lx) (ly := ly) (ts := ts) (tS := tS) (cs := cs) (av := av) (lz := lz) (hz1 := hz1) (nl := nl) (nh := nh) (ce := ce) (qd := qd) (q := q) hMo (by exact hmn)) k_1078 k_1080 k_42 k_75 k_1081 hMo cl_Ref rfl hd_Ref_is ⟨Nat.le_of_ble_eq_true rfl, Nat.le_of_ble_eq_true rfl⟩ ⟨Nat.le_of_ble_eq_true rfl, Nat.le_of_ble_eq_true rfl⟩ hl.1 (Nat.le_of_ble_eq_true rfl) d_Ref_widen_2 rfl (fun r_2 w1 H locs hp hB => ?_)
  obtain ⟨rfl, hw_2⟩ := hp
  have hB : wf_B D wcl (wf_A w s.heap.size) s.heap w H locs := wf_Bto hw_2 hB
  refine wf_beq (tgt := 20) hx hb d_Ref_widen_5 (by decide) (fun c_5 => ?_) (fun c_5 => ?_)
  · refine lv_bipush (v := (-2)) hx hb d_Ref_widen_20 (by decide) ?_
    refine ret_i X hB d_Ref_widen_22 ?_
    exact ⟨rfl, rfl⟩
  · refine lv_iload_n hx hb d_Ref_widen_8 rfl (lv_at hl 2 rfl) ?_
    refine lv_i2l hx hb d_Ref_widen_9 rfl ?_
    refine lv_lconst (v := lN 0) hx hb d_Ref_widen_10 (by decide) ?_
    refine lv_ldc2 (own := R_Ref) hx hb X.2.2.1 (X.2.2.2.2.1.2 _ k_1192 _) d_Ref_widen_11 ?_
    refine wf_tl (y := lN 40) (by decide) ?_
    refine callSi (As := [.long (Int32.toInt64 q2), .long (lN 0), .long (lN 40)]) (rest := []) X hB wf_hA (c_Ref_liesq (l := l) (D := D) (t := t) (w := w) (sz := H.size) (q1 := q2) (l1 := 0) (h1 := 40) (by omega)) k_1030 k_1031 k_75 k_1032 hd_Ref_lies ⟨Nat.le_of_ble_eq_true rfl, Nat.le_of_ble_eq_true rfl⟩ ⟨Nat.le_of_ble_eq_true rfl, Nat.le_of_ble_eq_true rfl⟩ hl.1 (Nat.le_of_ble_eq_true rfl) d_Ref_widen_14 rfl (fun r_14 w1 H locs hp hB => ?_)
    obtain ⟨rfl, hw_14⟩ := hp
    have hB : wf_B D wcl (wf_A w s.heap.size) s.heap w H locs := wf_Bto hw_14 hB
    refine wf_bne (tgt := 23) hx hb d_Ref_widen_17 (by decide) (fun c_17 => ?_) (fun c_17 => ?_)
    · exact absurd ⟨of_decide_eq_true c_5, by have := of_decide_eq_true c_17; omega⟩ hbd
    · refine lv_bipush (v := (-2)) hx hb d_Ref_widen_20 (by decide) ?_
      refine ret_i X hB d_Ref_widen_22 ?_
      exact ⟨rfl, rfl⟩
set_option maxHeartbeats 4000000 in
set_option maxRecDepth 100000 in
theorem c_Ref_countb {l : Launch} {D : va_G} {t : Nat → ClassId} {w : wf_W} {sz : Nat} {mo az an ae ac ato aps apt al aip alo alt aic arw aco act asp anu aor ann ald ahd acn ais aq acf acb aw k mn cz tz ca pz wy fi se ho lx ly ts tS cs av lz hz1 nl nh ce qd : Nat} {q q2 : Int32} (hMo : w mo = some (rfO k mn az an ae ac cz ato tz ca aps apt al aip pz wy fi se ho lx ly ts tS alo alt aic arw aco act asp cs anu aor ann av ald ahd lz hz1 nl nh acn ce ais aq acf acb qd aw)) (hmn : mn ≤ 60) (hbd : ¬ ((0 ≤ q.toInt ∧ q.toInt < mn) ∧ (0 ≤ q2.toInt ∧ q2.toInt ≤ 100))) : Ml l y_Ref_count b_Ref_count 3 (some .long) 2 46 0 0 D t w sz [.ref mo, .int q, .int q2] (fun r w' => r = (-2) ∧ w' = w) := by
  refine start_l (by decide) (Nat.le_of_ble_eq_true rfl) ?_
  intro p e s m below meth c ls H locs X hB hl
  have hx := X.1
  have hb := X.2.1
  have hl : lv_has ls 3 [(0, .ref mo), (1, .int q), (2, .int q2)] := hl
  refine lv_aload_n hx hb d_Ref_count_0 rfl (lv_at hl 0 rfl) ?_
  refine lv_iload_n hx hb d_Ref_count_1 rfl (lv_at hl 1 rfl) ?_
  refine callVi (As := [.int q]) (rest := []) X hB wf_hA (c_Ref_is (l := l) (D := D) (t := t) (w := w) (sz := H.size) (mo := mo) (az := az) (an := an) (ae := ae) (ac := ac) (ato := ato) (aps := aps) (apt := apt) (al := al) (aip := aip) (alo := alo) (alt := alt) (aic := aic) (arw := arw) (aco := aco) (act := act) (asp := asp) (anu := anu) (aor := aor) (ann := ann) (ald := ald) (ahd := ahd) (acn := acn) (ais := ais) (aq := aq) (acf := acf) (acb := acb) (aw := aw) (k := k) (mn := mn) (cz := cz) (tz := tz) (ca := ca) (pz := pz) (wy := wy) (fi := fi) (se := se) (ho := ho) (lx := lx) (ly := ly) (ts := ts) (tS := tS) (cs := cs) (av := av) (lz := lz) (hz1 := hz1) (nl := nl) (nh := nh) (ce := ce) (qd := qd) (q := q) hMo (by exact hmn)) k_1078 k_1080 k_42 k_75 k_1081 hMo cl_Ref rfl hd_Ref_is ⟨Nat.le_of_ble_eq_true rfl, Nat.le_of_ble_eq_true rfl⟩ ⟨Nat.le_of_ble_eq_true rfl, Nat.le_of_ble_eq_true rfl⟩ hl.1 (Nat.le_of_ble_eq_true rfl) d_Ref_count_2 rfl (fun r_2 w1 H locs hp hB => ?_)
  obtain ⟨rfl, hw_2⟩ := hp
  have hB : wf_B D wcl (wf_A w s.heap.size) s.heap w H locs := wf_Bto hw_2 hB
  refine wf_beq (tgt := 20) hx hb d_Ref_count_5 (by decide) (fun c_5 => ?_) (fun c_5 => ?_)
  · refine lv_ldc2 (own := R_Ref) hx hb X.2.2.1 (X.2.2.2.2.1.2 _ k_1245 _) d_Ref_count_20 ?_
    refine ret_l X hB d_Ref_count_23 ?_
    exact ⟨rfl, rfl⟩
  · refine lv_iload_n hx hb d_Ref_count_8 rfl (lv_at hl 2 rfl) ?_
    refine lv_i2l hx hb d_Ref_count_9 rfl ?_
    refine lv_lconst (v := lN 0) hx hb d_Ref_count_10 (by decide) ?_
    refine lv_ldc2 (own := R_Ref) hx hb X.2.2.1 (X.2.2.2.2.1.2 _ k_1091 _) d_Ref_count_11 ?_
    refine wf_tl (y := lN 100) (by decide) ?_
    refine callSi (As := [.long (Int32.toInt64 q2), .long (lN 0), .long (lN 100)]) (rest := []) X hB wf_hA (c_Ref_liesq (l := l) (D := D) (t := t) (w := w) (sz := H.size) (q1 := q2) (l1 := 0) (h1 := 100) (by omega)) k_1030 k_1031 k_75 k_1032 hd_Ref_lies ⟨Nat.le_of_ble_eq_true rfl, Nat.le_of_ble_eq_true rfl⟩ ⟨Nat.le_of_ble_eq_true rfl, Nat.le_of_ble_eq_true rfl⟩ hl.1 (Nat.le_of_ble_eq_true rfl) d_Ref_count_14 rfl (fun r_14 w1 H locs hp hB => ?_)
    obtain ⟨rfl, hw_14⟩ := hp
    have hB : wf_B D wcl (wf_A w s.heap.size) s.heap w H locs := wf_Bto hw_14 hB
    refine wf_bne (tgt := 24) hx hb d_Ref_count_17 (by decide) (fun c_17 => ?_) (fun c_17 => ?_)
    · exact absurd ⟨of_decide_eq_true c_5, by have := of_decide_eq_true c_17; omega⟩ hbd
    · refine lv_ldc2 (own := R_Ref) hx hb X.2.2.1 (X.2.2.2.2.1.2 _ k_1245 _) d_Ref_count_20 ?_
      refine ret_l X hB d_Ref_count_23 ?_
      exact ⟨rfl, rfl⟩
set_option maxHeartbeats 4000000 in
set_option maxRecDepth 100000 in
theorem c_Ref_pickb {l : Launch} {D : va_G} {t : Nat → ClassId} {w : wf_W} {sz : Nat} {mo az an ae ac ato aps apt al aip alo alt aic arw aco act asp anu aor ann ald ahd acn ais aq acf acb aw k mn cz tz ca pz wy fi se ho lx ly ts tS cs av lz hz1 nl nh ce qd : Nat} {q q2 : Int32} (hMo : w mo = some (rfO k mn az an ae ac cz ato tz ca aps apt al aip pz wy fi se ho lx ly ts tS alo alt aic arw aco act asp cs anu aor ann av ald ahd lz hz1 nl nh acn ce ais aq acf acb qd aw)) (hmn : mn ≤ 60) (hbd : ¬ ((0 ≤ q.toInt ∧ q.toInt < mn) ∧ 0 ≤ q2.toInt)) : Mi l y_Ref_pick b_Ref_pick 9 (some .int) 2 46 0 0 D t w sz [.ref mo, .int q, .int q2] (fun r w' => r = (-2) ∧ w' = w) := by
  refine start_i (by decide) (Nat.le_of_ble_eq_true rfl) ?_
  intro p e s m below meth c ls H locs X hB hl
  have hx := X.1
  have hb := X.2.1
  have hl : lv_has ls 9 [(0, .ref mo), (1, .int q), (2, .int q2)] := hl
  refine lv_aload_n hx hb d_Ref_pick_0 rfl (lv_at hl 0 rfl) ?_
  refine lv_iload_n hx hb d_Ref_pick_1 rfl (lv_at hl 1 rfl) ?_
  refine callVi (As := [.int q]) (rest := []) X hB wf_hA (c_Ref_is (l := l) (D := D) (t := t) (w := w) (sz := H.size) (mo := mo) (az := az) (an := an) (ae := ae) (ac := ac) (ato := ato) (aps := aps) (apt := apt) (al := al) (aip := aip) (alo := alo) (alt := alt) (aic := aic) (arw := arw) (aco := aco) (act := act) (asp := asp) (anu := anu) (aor := aor) (ann := ann) (ald := ald) (ahd := ahd) (acn := acn) (ais := ais) (aq := aq) (acf := acf) (acb := acb) (aw := aw) (k := k) (mn := mn) (cz := cz) (tz := tz) (ca := ca) (pz := pz) (wy := wy) (fi := fi) (se := se) (ho := ho) (lx := lx) (ly := ly) (ts := ts) (tS := tS) (cs := cs) (av := av) (lz := lz) (hz1 := hz1) (nl := nl) (nh := nh) (ce := ce) (qd := qd) (q := q) hMo (by exact hmn)) k_1078 k_1080 k_42 k_75 k_1081 hMo cl_Ref rfl hd_Ref_is ⟨Nat.le_of_ble_eq_true rfl, Nat.le_of_ble_eq_true rfl⟩ ⟨Nat.le_of_ble_eq_true rfl, Nat.le_of_ble_eq_true rfl⟩ hl.1 (Nat.le_of_ble_eq_true rfl) d_Ref_pick_2 rfl (fun r_2 w1 H locs hp hB => ?_)
  obtain ⟨rfl, hw_2⟩ := hp
  have hB : wf_B D wcl (wf_A w s.heap.size) s.heap w H locs := wf_Bto hw_2 hB
  refine wf_beq (tgt := 12) hx hb d_Ref_pick_5 (by decide) (fun c_5 => ?_) (fun c_5 => ?_)
  · refine lv_bipush (v := (-2)) hx hb d_Ref_pick_12 (by decide) ?_
    refine ret_i X hB d_Ref_pick_14 ?_
    exact ⟨rfl, rfl⟩
  · refine lv_iload_n hx hb d_Ref_pick_8 rfl (lv_at hl 2 rfl) ?_
    refine wf_zge (tgt := 15) hx hb d_Ref_pick_9 (by decide) rfl (fun c_9 => ?_) (fun c_9 => ?_)
    · exact absurd ⟨of_decide_eq_true c_5, by omega⟩ hbd
    · refine lv_bipush (v := (-2)) hx hb d_Ref_pick_12 (by decide) ?_
      refine ret_i X hB d_Ref_pick_14 ?_
      exact ⟨rfl, rfl⟩
set_option maxHeartbeats 4000000 in
set_option maxRecDepth 100000 in
theorem c_Ref_dropb {l : Launch} {D : va_G} {t : Nat → ClassId} {w : wf_W} {sz : Nat} {mo az an ae ac ato aps apt al aip alo alt aic arw aco act asp anu aor ann ald ahd acn ais aq acf acb aw k mn cz tz ca pz wy fi se ho lx ly ts tS cs av lz hz1 nl nh ce qd : Nat} {q q2 : Int32} (hMo : w mo = some (rfO k mn az an ae ac cz ato tz ca aps apt al aip pz wy fi se ho lx ly ts tS alo alt aic arw aco act asp cs anu aor ann av ald ahd lz hz1 nl nh acn ce ais aq acf acb qd aw)) (hmn : mn ≤ 60) (hk : 1 ≤ k ∧ k ≤ 4) (hbd : ¬ ((0 ≤ q.toInt ∧ q.toInt < mn) ∧ (0 ≤ q2.toInt ∧ q2.toInt < k))) : Mi l y_Ref_drop b_Ref_drop 3 (some .int) 2 46 0 0 D t w sz [.ref mo, .int q, .int q2] (fun r w' => r = (-2) ∧ w' = w) := by
  refine start_i (by decide) (Nat.le_of_ble_eq_true rfl) ?_
  intro p e s m below meth c ls H locs X hB hl
  have hx := X.1
  have hb := X.2.1
  have hl : lv_has ls 3 [(0, .ref mo), (1, .int q), (2, .int q2)] := hl
  refine lv_aload_n hx hb d_Ref_drop_0 rfl (lv_at hl 0 rfl) ?_
  refine lv_iload_n hx hb d_Ref_drop_1 rfl (lv_at hl 1 rfl) ?_
  refine callVi (As := [.int q]) (rest := []) X hB wf_hA (c_Ref_is (l := l) (D := D) (t := t) (w := w) (sz := H.size) (mo := mo) (az := az) (an := an) (ae := ae) (ac := ac) (ato := ato) (aps := aps) (apt := apt) (al := al) (aip := aip) (alo := alo) (alt := alt) (aic := aic) (arw := arw) (aco := aco) (act := act) (asp := asp) (anu := anu) (aor := aor) (ann := ann) (ald := ald) (ahd := ahd) (acn := acn) (ais := ais) (aq := aq) (acf := acf) (acb := acb) (aw := aw) (k := k) (mn := mn) (cz := cz) (tz := tz) (ca := ca) (pz := pz) (wy := wy) (fi := fi) (se := se) (ho := ho) (lx := lx) (ly := ly) (ts := ts) (tS := tS) (cs := cs) (av := av) (lz := lz) (hz1 := hz1) (nl := nl) (nh := nh) (ce := ce) (qd := qd) (q := q) hMo (by exact hmn)) k_1078 k_1080 k_42 k_75 k_1081 hMo cl_Ref rfl hd_Ref_is ⟨Nat.le_of_ble_eq_true rfl, Nat.le_of_ble_eq_true rfl⟩ ⟨Nat.le_of_ble_eq_true rfl, Nat.le_of_ble_eq_true rfl⟩ hl.1 (Nat.le_of_ble_eq_true rfl) d_Ref_drop_2 rfl (fun r_2 w1 H locs hp hB => ?_)
  obtain ⟨rfl, hw_2⟩ := hp
  have hB : wf_B D wcl (wf_A w s.heap.size) s.heap w H locs := wf_Bto hw_2 hB
  refine wf_beq (tgt := 24) hx hb d_Ref_drop_5 (by decide) (fun c_5 => ?_) (fun c_5 => ?_)
  · refine lv_bipush (v := (-2)) hx hb d_Ref_drop_24 (by decide) ?_
    refine ret_i X hB d_Ref_drop_26 ?_
    exact ⟨rfl, rfl⟩
  · refine lv_iload_n hx hb d_Ref_drop_8 rfl (lv_at hl 2 rfl) ?_
    refine lv_i2l hx hb d_Ref_drop_9 rfl ?_
    refine lv_lconst (v := lN 0) hx hb d_Ref_drop_10 (by decide) ?_
    refine lv_aload_n hx hb d_Ref_drop_11 rfl (lv_at hl 0 rfl) ?_
    refine rget X hB  i_Ref hMo cl_Ref 0 (by decide) k_874 rfl rfl d_Ref_drop_12 ?_
    refine lv_iconst (v := nI 1) hx hb d_Ref_drop_15 (by decide) ?_
    refine wf_isub (x := k) (y := 1) hx hb d_Ref_drop_16 (by omega) ?_
    refine lv_i2l (v := lN (k - 1)) hx hb d_Ref_drop_17 (nI_l (by omega)) ?_
    refine callSi (As := [.long (Int32.toInt64 q2), .long (lN 0), .long (lN (k - 1))]) (rest := []) X hB wf_hA (c_Ref_liesq (l := l) (D := D) (t := t) (w := w) (sz := H.size) (q1 := q2) (l1 := 0) (h1 := k - 1) (by omega)) k_1030 k_1031 k_75 k_1032 hd_Ref_lies ⟨Nat.le_of_ble_eq_true rfl, Nat.le_of_ble_eq_true rfl⟩ ⟨Nat.le_of_ble_eq_true rfl, Nat.le_of_ble_eq_true rfl⟩ hl.1 (Nat.le_of_ble_eq_true rfl) d_Ref_drop_18 rfl (fun r_18 w1 H locs hp hB => ?_)
    obtain ⟨rfl, hw_18⟩ := hp
    have hB : wf_B D wcl (wf_A w s.heap.size) s.heap w H locs := wf_Bto hw_18 hB
    refine wf_bne (tgt := 27) hx hb d_Ref_drop_21 (by decide) (fun c_21 => ?_) (fun c_21 => ?_)
    · exact absurd ⟨of_decide_eq_true c_5, by have := of_decide_eq_true c_21; omega⟩ hbd
    · refine lv_bipush (v := (-2)) hx hb d_Ref_drop_24 (by decide) ?_
      refine ret_i X hB d_Ref_drop_26 ?_
      exact ⟨rfl, rfl⟩
set_option maxHeartbeats 4000000 in
set_option maxRecDepth 100000 in
theorem c_Ref_becomeb {l : Launch} {D : va_G} {t : Nat → ClassId} {w : wf_W} {sz : Nat} {mo az an ae ac ato aps apt al aip alo alt aic arw aco act asp anu aor ann ald ahd acn ais aq acf acb aw k mn cz tz ca pz wy fi se ho lx ly ts tS cs av lz hz1 nl nh ce qd : Nat} {q q2 q3 : Int32} (hMo : w mo = some (rfO k mn az an ae ac cz ato tz ca aps apt al aip pz wy fi se ho lx ly ts tS alo alt aic arw aco act asp cs anu aor ann av ald ahd lz hz1 nl nh acn ce ais aq acf acb qd aw)) (hmn : mn ≤ 60) (hk : 1 ≤ k ∧ k ≤ 4) (hbd : ¬ ((0 ≤ q.toInt ∧ q.toInt < mn) ∧ (0 ≤ q2.toInt ∧ q2.toInt < k) ∧ (0 ≤ q3.toInt ∧ q3.toInt < k))) : Mi l y_Ref_become b_Ref_become 4 (some .int) 2 46 0 0 D t w sz [.ref mo, .int q, .int q2, .int q3] (fun r w' => r = (-2) ∧ w' = w) := by
  refine start_i (by decide) (Nat.le_of_ble_eq_true rfl) ?_
  intro p e s m below meth c ls H locs X hB hl
  have hx := X.1
  have hb := X.2.1
  have hl : lv_has ls 4 [(0, .ref mo), (1, .int q), (2, .int q2), (3, .int q3)] := hl
  refine lv_aload_n hx hb d_Ref_become_0 rfl (lv_at hl 0 rfl) ?_
  refine lv_iload_n hx hb d_Ref_become_1 rfl (lv_at hl 1 rfl) ?_
  refine callVi (As := [.int q]) (rest := []) X hB wf_hA (c_Ref_is (l := l) (D := D) (t := t) (w := w) (sz := H.size) (mo := mo) (az := az) (an := an) (ae := ae) (ac := ac) (ato := ato) (aps := aps) (apt := apt) (al := al) (aip := aip) (alo := alo) (alt := alt) (aic := aic) (arw := arw) (aco := aco) (act := act) (asp := asp) (anu := anu) (aor := aor) (ann := ann) (ald := ald) (ahd := ahd) (acn := acn) (ais := ais) (aq := aq) (acf := acf) (acb := acb) (aw := aw) (k := k) (mn := mn) (cz := cz) (tz := tz) (ca := ca) (pz := pz) (wy := wy) (fi := fi) (se := se) (ho := ho) (lx := lx) (ly := ly) (ts := ts) (tS := tS) (cs := cs) (av := av) (lz := lz) (hz1 := hz1) (nl := nl) (nh := nh) (ce := ce) (qd := qd) (q := q) hMo (by exact hmn)) k_1078 k_1080 k_42 k_75 k_1081 hMo cl_Ref rfl hd_Ref_is ⟨Nat.le_of_ble_eq_true rfl, Nat.le_of_ble_eq_true rfl⟩ ⟨Nat.le_of_ble_eq_true rfl, Nat.le_of_ble_eq_true rfl⟩ hl.1 (Nat.le_of_ble_eq_true rfl) d_Ref_become_2 rfl (fun r_2 w1 H locs hp hB => ?_)
  obtain ⟨rfl, hw_2⟩ := hp
  have hB : wf_B D wcl (wf_A w s.heap.size) s.heap w H locs := wf_Bto hw_2 hB
  refine wf_beq (tgt := 40) hx hb d_Ref_become_5 (by decide) (fun c_5 => ?_) (fun c_5 => ?_)
  · refine lv_bipush (v := (-2)) hx hb d_Ref_become_40 (by decide) ?_
    refine ret_i X hB d_Ref_become_42 ?_
    exact ⟨rfl, rfl⟩
  · refine lv_iload_n hx hb d_Ref_become_8 rfl (lv_at hl 2 rfl) ?_
    refine lv_i2l hx hb d_Ref_become_9 rfl ?_
    refine lv_lconst (v := lN 0) hx hb d_Ref_become_10 (by decide) ?_
    refine lv_aload_n hx hb d_Ref_become_11 rfl (lv_at hl 0 rfl) ?_
    refine rget X hB  i_Ref hMo cl_Ref 0 (by decide) k_874 rfl rfl d_Ref_become_12 ?_
    refine lv_iconst (v := nI 1) hx hb d_Ref_become_15 (by decide) ?_
    refine wf_isub (x := k) (y := 1) hx hb d_Ref_become_16 (by omega) ?_
    refine lv_i2l (v := lN (k - 1)) hx hb d_Ref_become_17 (nI_l (by omega)) ?_
    refine callSi (As := [.long (Int32.toInt64 q2), .long (lN 0), .long (lN (k - 1))]) (rest := []) X hB wf_hA (c_Ref_liesq (l := l) (D := D) (t := t) (w := w) (sz := H.size) (q1 := q2) (l1 := 0) (h1 := k - 1) (by omega)) k_1030 k_1031 k_75 k_1032 hd_Ref_lies ⟨Nat.le_of_ble_eq_true rfl, Nat.le_of_ble_eq_true rfl⟩ ⟨Nat.le_of_ble_eq_true rfl, Nat.le_of_ble_eq_true rfl⟩ hl.1 (Nat.le_of_ble_eq_true rfl) d_Ref_become_18 rfl (fun r_18 w1 H locs hp hB => ?_)
    obtain ⟨rfl, hw_18⟩ := hp
    have hB : wf_B D wcl (wf_A w s.heap.size) s.heap w H locs := wf_Bto hw_18 hB
    refine wf_beq (tgt := 40) hx hb d_Ref_become_21 (by decide) (fun c_21 => ?_) (fun c_21 => ?_)
    · refine lv_bipush (v := (-2)) hx hb d_Ref_become_40 (by decide) ?_
      refine ret_i X hB d_Ref_become_42 ?_
      exact ⟨rfl, rfl⟩
    · refine lv_iload_n hx hb d_Ref_become_24 rfl (lv_at hl 3 rfl) ?_
      refine lv_i2l hx hb d_Ref_become_25 rfl ?_
      refine lv_lconst (v := lN 0) hx hb d_Ref_become_26 (by decide) ?_
      refine lv_aload_n hx hb d_Ref_become_27 rfl (lv_at hl 0 rfl) ?_
      refine rget X hB  i_Ref hMo cl_Ref 0 (by decide) k_874 rfl rfl d_Ref_become_28 ?_
      refine lv_iconst (v := nI 1) hx hb d_Ref_become_31 (by decide) ?_
      refine wf_isub (x := k) (y := 1) hx hb d_Ref_become_32 (by omega) ?_
      refine lv_i2l (v := lN (k - 1)) hx hb d_Ref_become_33 (nI_l (by omega)) ?_
      refine callSi (As := [.long (Int32.toInt64 q3), .long (lN 0), .long (lN (k - 1))]) (rest := []) X hB wf_hA (c_Ref_liesq (l := l) (D := D) (t := t) (w := w) (sz := H.size) (q1 := q3) (l1 := 0) (h1 := k - 1) (by omega)) k_1030 k_1031 k_75 k_1032 hd_Ref_lies ⟨Nat.le_of_ble_eq_true rfl, Nat.le_of_ble_eq_true rfl⟩ ⟨Nat.le_of_ble_eq_true rfl, Nat.le_of_ble_eq_true rfl⟩ hl.1 (Nat.le_of_ble_eq_true rfl) d_Ref_become_34 rfl (fun r_34 w1 H locs hp hB => ?_)
      obtain ⟨rfl, hw_34⟩ := hp
      have hB : wf_B D wcl (wf_A w s.heap.size) s.heap w H locs := wf_Bto hw_34 hB
      refine wf_bne (tgt := 43) hx hb d_Ref_become_37 (by decide) (fun c_37 => ?_) (fun c_37 => ?_)
      · exact absurd ⟨of_decide_eq_true c_5, by have := of_decide_eq_true c_21; omega, by have := of_decide_eq_true c_37; omega⟩ hbd
      · refine lv_bipush (v := (-2)) hx hb d_Ref_become_40 (by decide) ?_
        refine ret_i X hB d_Ref_become_42 ?_
        exact ⟨rfl, rfl⟩
set_option maxHeartbeats 4000000 in
set_option maxRecDepth 100000 in
theorem c_Ref_pairb {l : Launch} {D : va_G} {t : Nat → ClassId} {w : wf_W} {sz : Nat} {mo az an ae ac ato aps apt al aip alo alt aic arw aco act asp anu aor ann ald ahd acn ais aq acf acb aw k mn cz tz ca pz wy fi se ho lx ly ts tS cs av lz hz1 nl nh ce qd : Nat} {q q2 q3 : Int32} (hMo : w mo = some (rfO k mn az an ae ac cz ato tz ca aps apt al aip pz wy fi se ho lx ly ts tS alo alt aic arw aco act asp cs anu aor ann av ald ahd lz hz1 nl nh acn ce ais aq acf acb qd aw)) (hmn : mn ≤ 60) (hbd : ¬ ((0 ≤ q.toInt ∧ q.toInt ≤ 3) ∧ (0 ≤ q2.toInt ∧ q2.toInt < mn) ∧ (0 ≤ q3.toInt ∧ q3.toInt < mn))) : Mi l y_Ref_pair b_Ref_pair 4 (some .int) 2 46 0 0 D t w sz [.ref mo, .int q, .int q2, .int q3] (fun r w' => r = (-2) ∧ w' = w) := by
  refine start_i (by decide) (Nat.le_of_ble_eq_true rfl) ?_
  intro p e s m below meth c ls H locs X hB hl
  have hx := X.1
  have hb := X.2.1
  have hl : lv_has ls 4 [(0, .ref mo), (1, .int q), (2, .int q2), (3, .int q3)] := hl
  refine lv_iload_n hx hb d_Ref_pair_0 rfl (lv_at hl 1 rfl) ?_
  refine lv_i2l hx hb d_Ref_pair_1 rfl ?_
  refine lv_lconst (v := lN 0) hx hb d_Ref_pair_2 (by decide) ?_
  refine lv_ldc2 (own := R_Ref) hx hb X.2.2.1 (X.2.2.2.2.1.2 _ k_1123 _) d_Ref_pair_3 ?_
  refine wf_tl (y := lN 3) (by decide) ?_
  refine callSi (As := [.long (Int32.toInt64 q), .long (lN 0), .long (lN 3)]) (rest := []) X hB wf_hA (c_Ref_liesq (l := l) (D := D) (t := t) (w := w) (sz := H.size) (q1 := q) (l1 := 0) (h1 := 3) (by omega)) k_1030 k_1031 k_75 k_1032 hd_Ref_lies ⟨Nat.le_of_ble_eq_true rfl, Nat.le_of_ble_eq_true rfl⟩ ⟨Nat.le_of_ble_eq_true rfl, Nat.le_of_ble_eq_true rfl⟩ hl.1 (Nat.le_of_ble_eq_true rfl) d_Ref_pair_6 rfl (fun r_6 w1 H locs hp hB => ?_)
  obtain ⟨rfl, hw_6⟩ := hp
  have hB : wf_B D wcl (wf_A w s.heap.size) s.heap w H locs := wf_Bto hw_6 hB
  refine wf_beq (tgt := 28) hx hb d_Ref_pair_9 (by decide) (fun c_9 => ?_) (fun c_9 => ?_)
  · refine lv_bipush (v := (-2)) hx hb d_Ref_pair_28 (by decide) ?_
    refine ret_i X hB d_Ref_pair_30 ?_
    exact ⟨rfl, rfl⟩
  · refine lv_aload_n hx hb d_Ref_pair_12 rfl (lv_at hl 0 rfl) ?_
    refine lv_iload_n hx hb d_Ref_pair_13 rfl (lv_at hl 2 rfl) ?_
    refine callVi (As := [.int q2]) (rest := []) X hB wf_hA (c_Ref_is (l := l) (D := D) (t := t) (w := w) (sz := H.size) (mo := mo) (az := az) (an := an) (ae := ae) (ac := ac) (ato := ato) (aps := aps) (apt := apt) (al := al) (aip := aip) (alo := alo) (alt := alt) (aic := aic) (arw := arw) (aco := aco) (act := act) (asp := asp) (anu := anu) (aor := aor) (ann := ann) (ald := ald) (ahd := ahd) (acn := acn) (ais := ais) (aq := aq) (acf := acf) (acb := acb) (aw := aw) (k := k) (mn := mn) (cz := cz) (tz := tz) (ca := ca) (pz := pz) (wy := wy) (fi := fi) (se := se) (ho := ho) (lx := lx) (ly := ly) (ts := ts) (tS := tS) (cs := cs) (av := av) (lz := lz) (hz1 := hz1) (nl := nl) (nh := nh) (ce := ce) (qd := qd) (q := q2) hMo (by exact hmn)) k_1078 k_1080 k_42 k_75 k_1081 hMo cl_Ref rfl hd_Ref_is ⟨Nat.le_of_ble_eq_true rfl, Nat.le_of_ble_eq_true rfl⟩ ⟨Nat.le_of_ble_eq_true rfl, Nat.le_of_ble_eq_true rfl⟩ hl.1 (Nat.le_of_ble_eq_true rfl) d_Ref_pair_14 rfl (fun r_14 w1 H locs hp hB => ?_)
    obtain ⟨rfl, hw_14⟩ := hp
    have hB : wf_B D wcl (wf_A w s.heap.size) s.heap w H locs := wf_Bto hw_14 hB
    refine wf_beq (tgt := 28) hx hb d_Ref_pair_17 (by decide) (fun c_17 => ?_) (fun c_17 => ?_)
    · refine lv_bipush (v := (-2)) hx hb d_Ref_pair_28 (by decide) ?_
      refine ret_i X hB d_Ref_pair_30 ?_
      exact ⟨rfl, rfl⟩
    · refine lv_aload_n hx hb d_Ref_pair_20 rfl (lv_at hl 0 rfl) ?_
      refine lv_iload_n hx hb d_Ref_pair_21 rfl (lv_at hl 3 rfl) ?_
      refine callVi (As := [.int q3]) (rest := []) X hB wf_hA (c_Ref_is (l := l) (D := D) (t := t) (w := w) (sz := H.size) (mo := mo) (az := az) (an := an) (ae := ae) (ac := ac) (ato := ato) (aps := aps) (apt := apt) (al := al) (aip := aip) (alo := alo) (alt := alt) (aic := aic) (arw := arw) (aco := aco) (act := act) (asp := asp) (anu := anu) (aor := aor) (ann := ann) (ald := ald) (ahd := ahd) (acn := acn) (ais := ais) (aq := aq) (acf := acf) (acb := acb) (aw := aw) (k := k) (mn := mn) (cz := cz) (tz := tz) (ca := ca) (pz := pz) (wy := wy) (fi := fi) (se := se) (ho := ho) (lx := lx) (ly := ly) (ts := ts) (tS := tS) (cs := cs) (av := av) (lz := lz) (hz1 := hz1) (nl := nl) (nh := nh) (ce := ce) (qd := qd) (q := q3) hMo (by exact hmn)) k_1078 k_1080 k_42 k_75 k_1081 hMo cl_Ref rfl hd_Ref_is ⟨Nat.le_of_ble_eq_true rfl, Nat.le_of_ble_eq_true rfl⟩ ⟨Nat.le_of_ble_eq_true rfl, Nat.le_of_ble_eq_true rfl⟩ hl.1 (Nat.le_of_ble_eq_true rfl) d_Ref_pair_22 rfl (fun r_22 w1 H locs hp hB => ?_)
      obtain ⟨rfl, hw_22⟩ := hp
      have hB : wf_B D wcl (wf_A w s.heap.size) s.heap w H locs := wf_Bto hw_22 hB
      refine wf_bne (tgt := 31) hx hb d_Ref_pair_25 (by decide) (fun c_25 => ?_) (fun c_25 => ?_)
      · exact absurd ⟨by have := of_decide_eq_true c_9; omega, of_decide_eq_true c_17, of_decide_eq_true c_25⟩ hbd
      · refine lv_bipush (v := (-2)) hx hb d_Ref_pair_28 (by decide) ?_
        refine ret_i X hB d_Ref_pair_30 ?_
        exact ⟨rfl, rfl⟩
set_option maxHeartbeats 4000000 in
set_option maxRecDepth 100000 in
theorem c_Ref_whenb {l : Launch} {D : va_G} {t : Nat → ClassId} {w : wf_W} {sz : Nat} {mo az an ae ac ato aps apt al aip alo alt aic arw aco act asp anu aor ann ald ahd acn ais aq acf acb aw k mn cz tz ca pz wy fi se ho lx ly ts tS cs av lz hz1 nl nh ce qd : Nat} {q q2 : Int32} {yy : Bool} (hMo : w mo = some (rfO k mn az an ae ac cz ato tz ca aps apt al aip pz wy fi se ho lx ly ts tS alo alt aic arw aco act asp cs anu aor ann av ald ahd lz hz1 nl nh acn ce ais aq acf acb qd aw)) (hmn : mn ≤ 60) (hbd : ¬ ((0 ≤ q.toInt ∧ q.toInt ≤ 3) ∧ (0 ≤ q2.toInt ∧ q2.toInt < mn))) : Mi l y_Ref_when b_Ref_when 4 (some .int) 2 46 0 0 D t w sz [.ref mo, .int q, .int q2, .int (bI yy)] (fun r w' => r = (-2) ∧ w' = w) := by
  refine start_i (by decide) (Nat.le_of_ble_eq_true rfl) ?_
  intro p e s m below meth c ls H locs X hB hl
  have hx := X.1
  have hb := X.2.1
  have hl : lv_has ls 4 [(0, .ref mo), (1, .int q), (2, .int q2), (3, .int (bI yy))] := hl
  refine lv_iload_n hx hb d_Ref_when_0 rfl (lv_at hl 1 rfl) ?_
  refine lv_i2l hx hb d_Ref_when_1 rfl ?_
  refine lv_lconst (v := lN 0) hx hb d_Ref_when_2 (by decide) ?_
  refine lv_ldc2 (own := R_Ref) hx hb X.2.2.1 (X.2.2.2.2.1.2 _ k_1123 _) d_Ref_when_3 ?_
  refine wf_tl (y := lN 3) (by decide) ?_
  refine callSi (As := [.long (Int32.toInt64 q), .long (lN 0), .long (lN 3)]) (rest := []) X hB wf_hA (c_Ref_liesq (l := l) (D := D) (t := t) (w := w) (sz := H.size) (q1 := q) (l1 := 0) (h1 := 3) (by omega)) k_1030 k_1031 k_75 k_1032 hd_Ref_lies ⟨Nat.le_of_ble_eq_true rfl, Nat.le_of_ble_eq_true rfl⟩ ⟨Nat.le_of_ble_eq_true rfl, Nat.le_of_ble_eq_true rfl⟩ hl.1 (Nat.le_of_ble_eq_true rfl) d_Ref_when_6 rfl (fun r_6 w1 H locs hp hB => ?_)
  obtain ⟨rfl, hw_6⟩ := hp
  have hB : wf_B D wcl (wf_A w s.heap.size) s.heap w H locs := wf_Bto hw_6 hB
  refine wf_beq (tgt := 20) hx hb d_Ref_when_9 (by decide) (fun c_9 => ?_) (fun c_9 => ?_)
  · refine lv_bipush (v := (-2)) hx hb d_Ref_when_20 (by decide) ?_
    refine ret_i X hB d_Ref_when_22 ?_
    exact ⟨rfl, rfl⟩
  · refine lv_aload_n hx hb d_Ref_when_12 rfl (lv_at hl 0 rfl) ?_
    refine lv_iload_n hx hb d_Ref_when_13 rfl (lv_at hl 2 rfl) ?_
    refine callVi (As := [.int q2]) (rest := []) X hB wf_hA (c_Ref_is (l := l) (D := D) (t := t) (w := w) (sz := H.size) (mo := mo) (az := az) (an := an) (ae := ae) (ac := ac) (ato := ato) (aps := aps) (apt := apt) (al := al) (aip := aip) (alo := alo) (alt := alt) (aic := aic) (arw := arw) (aco := aco) (act := act) (asp := asp) (anu := anu) (aor := aor) (ann := ann) (ald := ald) (ahd := ahd) (acn := acn) (ais := ais) (aq := aq) (acf := acf) (acb := acb) (aw := aw) (k := k) (mn := mn) (cz := cz) (tz := tz) (ca := ca) (pz := pz) (wy := wy) (fi := fi) (se := se) (ho := ho) (lx := lx) (ly := ly) (ts := ts) (tS := tS) (cs := cs) (av := av) (lz := lz) (hz1 := hz1) (nl := nl) (nh := nh) (ce := ce) (qd := qd) (q := q2) hMo (by exact hmn)) k_1078 k_1080 k_42 k_75 k_1081 hMo cl_Ref rfl hd_Ref_is ⟨Nat.le_of_ble_eq_true rfl, Nat.le_of_ble_eq_true rfl⟩ ⟨Nat.le_of_ble_eq_true rfl, Nat.le_of_ble_eq_true rfl⟩ hl.1 (Nat.le_of_ble_eq_true rfl) d_Ref_when_14 rfl (fun r_14 w1 H locs hp hB => ?_)
    obtain ⟨rfl, hw_14⟩ := hp
    have hB : wf_B D wcl (wf_A w s.heap.size) s.heap w H locs := wf_Bto hw_14 hB
    refine wf_bne (tgt := 23) hx hb d_Ref_when_17 (by decide) (fun c_17 => ?_) (fun c_17 => ?_)
    · exact absurd ⟨by have := of_decide_eq_true c_9; omega, of_decide_eq_true c_17⟩ hbd
    · refine lv_bipush (v := (-2)) hx hb d_Ref_when_20 (by decide) ?_
      refine ret_i X hB d_Ref_when_22 ?_
      exact ⟨rfl, rfl⟩
set_option maxHeartbeats 4000000 in
set_option maxRecDepth 100000 in
theorem c_Ref_makeb {l : Launch} {D : va_G} {t : Nat → ClassId} {w : wf_W} {sz : Nat} {mo az an ae ac ato aps apt al aip alo alt aic arw aco act asp anu aor ann ald ahd acn ais aq acf acb aw k mn cz tz ca pz wy fi se ho lx ly ts tS cs av lz hz1 nl nh ce qd : Nat} {q : Int32} (hMo : w mo = some (rfO k mn az an ae ac cz ato tz ca aps apt al aip pz wy fi se ho lx ly ts tS alo alt aic arw aco act asp cs anu aor ann av ald ahd lz hz1 nl nh acn ce ais aq acf acb qd aw)) (hbd : ¬ (0 ≤ q.toInt ∧ q.toInt ≤ 2)) : Mi l y_Ref_make b_Ref_make 4 (some .int) 1 25 0 0 D t w sz [.ref mo, .int q] (fun r w' => r = (-2) ∧ w' = w) := by
  refine start_i (by decide) (Nat.le_of_ble_eq_true rfl) ?_
  intro p e s m below meth c ls H locs X hB hl
  have hx := X.1
  have hb := X.2.1
  have hl : lv_has ls 4 [(0, .ref mo), (1, .int q)] := hl
  refine lv_iload_n hx hb d_Ref_make_0 rfl (lv_at hl 1 rfl) ?_
  refine lv_i2l hx hb d_Ref_make_1 rfl ?_
  refine lv_lconst (v := lN 0) hx hb d_Ref_make_2 (by decide) ?_
  refine lv_ldc2 (own := R_Ref) hx hb X.2.2.1 (X.2.2.2.2.1.2 _ k_1041 _) d_Ref_make_3 ?_
  refine wf_tl (y := lN 2) (by decide) ?_
  refine callSi (As := [.long (Int32.toInt64 q), .long (lN 0), .long (lN 2)]) (rest := []) X hB wf_hA (c_Ref_liesq (l := l) (D := D) (t := t) (w := w) (sz := H.size) (q1 := q) (l1 := 0) (h1 := 2) (by omega)) k_1030 k_1031 k_75 k_1032 hd_Ref_lies ⟨Nat.le_of_ble_eq_true rfl, Nat.le_of_ble_eq_true rfl⟩ ⟨Nat.le_of_ble_eq_true rfl, Nat.le_of_ble_eq_true rfl⟩ hl.1 (Nat.le_of_ble_eq_true rfl) d_Ref_make_6 rfl (fun r_6 w1 H locs hp hB => ?_)
  obtain ⟨rfl, hw_6⟩ := hp
  have hB : wf_B D wcl (wf_A w s.heap.size) s.heap w H locs := wf_Bto hw_6 hB
  refine wf_bne (tgt := 15) hx hb d_Ref_make_9 (by decide) (fun c_9 => ?_) (fun c_9 => ?_)
  · exact absurd (of_decide_eq_true c_9) (by omega)
  · refine lv_bipush (v := (-2)) hx hb d_Ref_make_12 (by decide) ?_
    refine ret_i X hB d_Ref_make_14 ?_
    exact ⟨rfl, rfl⟩
set_option maxHeartbeats 4000000 in
set_option maxRecDepth 100000 in
theorem c_Ref_numeralsb {l : Launch} {D : va_G} {t : Nat → ClassId} {w : wf_W} {sz : Nat} {mo az an ae ac ato aps apt al aip alo alt aic arw aco act asp anu aor ann ald ahd acn ais aq acf acb aw k mn cz tz ca pz wy fi se ho lx ly ts tS cs av lz hz1 nl nh ce qd : Nat} {q q2 : Int32} (hMo : w mo = some (rfO k mn az an ae ac cz ato tz ca aps apt al aip pz wy fi se ho lx ly ts tS alo alt aic arw aco act asp cs anu aor ann av ald ahd lz hz1 nl nh acn ce ais aq acf acb qd aw)) (hbd : ¬ (0 ≤ q.toInt ∧ q.toInt ≤ q2.toInt ∧ q2.toInt ≤ 1000000000)) : Mi l y_Ref_numerals b_Ref_numerals 5 (some .int) 0 0 0 0 D t w sz [.ref mo, .int q, .int q2] (fun r w' => r = (-2) ∧ w' = w) := by
  refine start_i (by decide) (Nat.le_of_ble_eq_true rfl) ?_
  intro p e s m below meth c ls H locs X hB hl
  have hx := X.1
  have hb := X.2.1
  have hl : lv_has ls 5 [(0, .ref mo), (1, .int q), (2, .int q2)] := hl
  refine lv_iload_n hx hb d_Ref_numerals_0 rfl (lv_at hl 1 rfl) ?_
  refine wf_zlt (tgt := 15) hx hb d_Ref_numerals_1 (by decide) rfl (fun c_1 => ?_) (fun c_1 => ?_)
  · refine lv_bipush (v := (-2)) hx hb d_Ref_numerals_15 (by decide) ?_
    refine ret_i X hB d_Ref_numerals_17 ?_
    exact ⟨rfl, rfl⟩
  · refine lv_iload_n hx hb d_Ref_numerals_4 rfl (lv_at hl 2 rfl) ?_
    refine lv_iload_n hx hb d_Ref_numerals_5 rfl (lv_at hl 1 rfl) ?_
    refine wf_clt (tgt := 15) hx hb d_Ref_numerals_6 (by decide) rfl rfl (fun c_6 => ?_) (fun c_6 => ?_)
    · refine lv_bipush (v := (-2)) hx hb d_Ref_numerals_15 (by decide) ?_
      refine ret_i X hB d_Ref_numerals_17 ?_
      exact ⟨rfl, rfl⟩
    · refine lv_iload_n hx hb d_Ref_numerals_9 rfl (lv_at hl 2 rfl) ?_
      refine lv_ldc (own := R_Ref) hx hb X.2.2.1 (X.2.2.2.2.1.2 _ k_1100 _) d_Ref_numerals_10 ?_
      refine wf_ti (y := nI 1000000000) (by decide) ?_
      refine wf_cle (tgt := 18) hx hb d_Ref_numerals_12 (by decide) rfl (nI_toInt (by omega)) (fun c_12 => ?_) (fun c_12 => ?_)
      · exact absurd ⟨by omega, by omega, by omega⟩ hbd
      · refine lv_bipush (v := (-2)) hx hb d_Ref_numerals_15 (by decide) ?_
        refine ret_i X hB d_Ref_numerals_17 ?_
        exact ⟨rfl, rfl⟩
set_option maxHeartbeats 4000000 in
set_option maxRecDepth 100000 in
theorem c_Ref_addy {l : Launch} {D : va_G} {t : Nat → ClassId} {w : wf_W} {sz : Nat} {mo az an ae ac ato aps apt al aip alo alt aic arw aco act asp anu aor ann ald ahd acn ais aq acf acb aw k mn cz tz ca pz wy fi se ho lx ly ts tS cs av lz hz1 nl nh ce qd : Nat} {cl : Nat → Nat} {a : Nat} (hN : nd [mo, ac]) (hMo : w mo = some (rfO k mn az an ae ac cz ato tz ca aps apt al aip pz wy fi se ho lx ly ts tS alo alt aic arw aco act asp cs anu aor ann av ald ahd lz hz1 nl nh acn ce ais aq acf acb qd aw)) (h_ac : w ac = some (.inl (t 0, 100, .inl (iA cl)))) (hk : 1 ≤ k ∧ k ≤ 4) (hak : a < k) (hcz : cz ≤ 100) : Mi l y_Ref_add b_Ref_add 2 (some .int) 1 25 0 0 D t w sz [.ref mo, .int (nI a)] (fun r w' => ((cz < 100) ∧ r = (nI (cz + 1)) ∧ w' = wf_l w [(mo, rfO k mn az an ae ac (cz + 1) ato tz ca aps apt al aip pz wy fi se ho lx ly ts tS alo alt aic arw aco act asp cs anu aor ann av ald ahd lz hz1 nl nh acn ce ais aq acf acb qd aw), (ac, .inl (t 0, 100, .inl (iA (nu cl cz a))))]) ∨ ((cz = 100) ∧ r = (-3) ∧ w' = wf_l w [(mo, rfO k mn az an ae ac cz ato tz ca aps apt al aip pz wy fi se ho lx ly ts tS alo alt aic arw aco act asp cs anu aor ann av ald ahd lz hz1 nl nh acn ce ais aq acf acb qd aw), (ac, .inl (t 0, 100, .inl (iA cl)))])) := by
  refine start_i (by decide) (Nat.le_of_ble_eq_true rfl) ?_
  intro p e s m below meth c ls H locs X hB hl
  have hx := X.1
  have hb := X.2.1
  have hl : lv_has ls 2 [(0, .ref mo), (1, .int (nI a))] := hl
  have hB : wf_B D wcl (wf_A w s.heap.size) s.heap (wf_l w [(mo, rfO k mn az an ae ac cz ato tz ca aps apt al aip pz wy fi se ho lx ly ts tS alo alt aic arw aco act asp cs anu aor ann av ald ahd lz hz1 nl nh acn ce ais aq acf acb qd aw), (ac, .inl (t 0, 100, .inl (iA cl)))]) H locs := wf_Bto (wf_l2 hMo h_ac).symm hB
  refine lv_iload_n hx hb d_Ref_add_0 rfl (lv_at hl 1 rfl) ?_
  refine lv_i2l (v := lN a) hx hb d_Ref_add_1 (nI_l (by omega)) ?_
  refine lv_lconst (v := lN 0) hx hb d_Ref_add_2 (by decide) ?_
  refine lv_aload_n hx hb d_Ref_add_3 rfl (lv_at hl 0 rfl) ?_
  refine rgetL X hB hN 0 i_Ref rfl cl_Ref 0 (by decide) k_874 rfl rfl d_Ref_add_4 ?_
  refine lv_iconst (v := nI 1) hx hb d_Ref_add_7 (by decide) ?_
  refine wf_isub (x := k) (y := 1) hx hb d_Ref_add_8 (by omega) ?_
  refine lv_i2l (v := lN (k - 1)) hx hb d_Ref_add_9 (nI_l (by omega)) ?_
  refine callSi (As := [.long (lN a), .long (lN 0), .long (lN (k - 1))]) (rest := []) X hB wf_hA (c_Ref_liesy (l := l) (D := D) (t := t) (w := (wf_l w [(mo, rfO k mn az an ae ac cz ato tz ca aps apt al aip pz wy fi se ho lx ly ts tS alo alt aic arw aco act asp cs anu aor ann av ald ahd lz hz1 nl nh acn ce ais aq acf acb qd aw), (ac, .inl (t 0, 100, .inl (iA cl)))])) (sz := H.size) (v1 := a) (l1 := 0) (h1 := k - 1) (by omega)) k_1030 k_1031 k_75 k_1032 hd_Ref_lies ⟨Nat.le_of_ble_eq_true rfl, Nat.le_of_ble_eq_true rfl⟩ ⟨Nat.le_of_ble_eq_true rfl, Nat.le_of_ble_eq_true rfl⟩ hl.1 (Nat.le_of_ble_eq_true rfl) d_Ref_add_10 rfl (fun r_10 w1 H locs hp hB => ?_)
  obtain ⟨rfl, hw_10⟩ := hp
  have hB : wf_B D wcl (wf_A w s.heap.size) s.heap (wf_l w [(mo, rfO k mn az an ae ac cz ato tz ca aps apt al aip pz wy fi se ho lx ly ts tS alo alt aic arw aco act asp cs anu aor ann av ald ahd lz hz1 nl nh acn ce ais aq acf acb qd aw), (ac, .inl (t 0, 100, .inl (iA cl)))]) H locs := wf_Bto hw_10 hB
  refine wf_bne (tgt := 19) hx hb d_Ref_add_13 (by decide) (fun _ => ?_) (fun c9 => absurd c9 (by decide))
  refine lv_aload_n hx hb d_Ref_add_19 rfl (lv_at hl 0 rfl) ?_
  refine rgetL X hB hN 0 i_Ref rfl cl_Ref 6 (by decide) k_880 rfl rfl d_Ref_add_20 ?_
  refine lv_bipush (v := nI 100) hx hb d_Ref_add_23 (by decide) ?_
  refine wf_cne (tgt := 31) hx hb d_Ref_add_25 (by decide) (nI_toInt (by omega)) (nI_toInt (by omega)) (fun c_25 => ?_) (fun c_25 => ?_)
  · refine lv_aload_n hx hb d_Ref_add_31 rfl (lv_at hl 0 rfl) ?_
    refine rgetL X hB hN 0 i_Ref rfl cl_Ref 5 (by decide) k_879 rfl rfl d_Ref_add_32 ?_
    refine lv_aload_n hx hb d_Ref_add_35 rfl (lv_at hl 0 rfl) ?_
    refine rgetL X hB hN 0 i_Ref rfl cl_Ref 6 (by decide) k_880 rfl rfl d_Ref_add_36 ?_
    refine lv_iload_n hx hb d_Ref_add_39 rfl (lv_at hl 1 rfl) ?_
    refine riastA X hB hN 1 (wl' := [(mo, rfO k mn az an ae ac cz ato tz ca aps apt al aip pz wy fi se ho lx ly ts tS alo alt aic arw aco act asp cs anu aor ann av ald ahd lz hz1 nl nh acn ce ais aq acf acb qd aw), (ac, .inl (t 0, 100, .inl (iA (nu cl cz a))))]) rfl (i := cz) (by omega) (by decide) d_Ref_add_40 rfl (fun H locs hB => ?_)
    refine lv_aload_n hx hb d_Ref_add_41 rfl (lv_at hl 0 rfl) ?_
    refine lv_dup hx hb d_Ref_add_42 rfl ?_
    refine rgetL X hB hN 0 i_Ref rfl cl_Ref 6 (by decide) k_880 rfl rfl d_Ref_add_43 ?_
    refine lv_iconst (v := nI 1) hx hb d_Ref_add_46 (by decide) ?_
    refine wf_iadd (x := cz) (y := 1) hx hb d_Ref_add_47 ?_
    refine rput X hB hN 0 (wl' := [(mo, rfO k mn az an ae ac (cz + 1) ato tz ca aps apt al aip pz wy fi se ho lx ly ts tS alo alt aic arw aco act asp cs anu aor ann av ald ahd lz hz1 nl nh acn ce ais aq acf acb qd aw), (ac, .inl (t 0, 100, .inl (iA (nu cl cz a))))]) i_Ref t_Ref_ok n_Ref rfl cl_Ref 6 (by decide) k_880 rfl rfl rfl rfl (Nat.le_of_ble_eq_true rfl) d_Ref_add_48 rfl (fun H locs hB => ?_)
    refine lv_aload_n hx hb d_Ref_add_51 rfl (lv_at hl 0 rfl) ?_
    refine rgetL X hB hN 0 i_Ref rfl cl_Ref 6 (by decide) k_880 rfl rfl d_Ref_add_52 ?_
    refine ret_i X hB d_Ref_add_55 ?_
    exact Or.inl ⟨by omega, rfl, rfl⟩
  · refine lv_bipush (v := (-3)) hx hb d_Ref_add_28 (by decide) ?_
    refine ret_i X hB d_Ref_add_30 ?_
    exact Or.inr ⟨by omega, rfl, rfl⟩
set_option maxHeartbeats 4000000 in
set_option maxRecDepth 100000 in
theorem c_Ref_addb {l : Launch} {D : va_G} {t : Nat → ClassId} {w : wf_W} {sz : Nat} {mo az an ae ac ato aps apt al aip alo alt aic arw aco act asp anu aor ann ald ahd acn ais aq acf acb aw k mn cz tz ca pz wy fi se ho lx ly ts tS cs av lz hz1 nl nh ce qd : Nat} {q : Int32} (hMo : w mo = some (rfO k mn az an ae ac cz ato tz ca aps apt al aip pz wy fi se ho lx ly ts tS alo alt aic arw aco act asp cs anu aor ann av ald ahd lz hz1 nl nh acn ce ais aq acf acb qd aw)) (hk : 1 ≤ k ∧ k ≤ 4) (hbd : ¬ (0 ≤ q.toInt ∧ q.toInt < k)) : Mi l y_Ref_add b_Ref_add 2 (some .int) 1 25 0 0 D t w sz [.ref mo, .int q] (fun r w' => r = (-2) ∧ w' = w) := by
  refine start_i (by decide) (Nat.le_of_ble_eq_true rfl) ?_
  intro p e s m below meth c ls H locs X hB hl
  have hx := X.1
  have hb := X.2.1
  have hl : lv_has ls 2 [(0, .ref mo), (1, .int q)] := hl
  refine lv_iload_n hx hb d_Ref_add_0 rfl (lv_at hl 1 rfl) ?_
  refine lv_i2l hx hb d_Ref_add_1 rfl ?_
  refine lv_lconst (v := lN 0) hx hb d_Ref_add_2 (by decide) ?_
  refine lv_aload_n hx hb d_Ref_add_3 rfl (lv_at hl 0 rfl) ?_
  refine rget X hB  i_Ref hMo cl_Ref 0 (by decide) k_874 rfl rfl d_Ref_add_4 ?_
  refine lv_iconst (v := nI 1) hx hb d_Ref_add_7 (by decide) ?_
  refine wf_isub (x := k) (y := 1) hx hb d_Ref_add_8 (by omega) ?_
  refine lv_i2l (v := lN (k - 1)) hx hb d_Ref_add_9 (nI_l (by omega)) ?_
  refine callSi (As := [.long (Int32.toInt64 q), .long (lN 0), .long (lN (k - 1))]) (rest := []) X hB wf_hA (c_Ref_liesq (l := l) (D := D) (t := t) (w := w) (sz := H.size) (q1 := q) (l1 := 0) (h1 := k - 1) (by omega)) k_1030 k_1031 k_75 k_1032 hd_Ref_lies ⟨Nat.le_of_ble_eq_true rfl, Nat.le_of_ble_eq_true rfl⟩ ⟨Nat.le_of_ble_eq_true rfl, Nat.le_of_ble_eq_true rfl⟩ hl.1 (Nat.le_of_ble_eq_true rfl) d_Ref_add_10 rfl (fun r_10 w1 H locs hp hB => ?_)
  obtain ⟨rfl, hw_10⟩ := hp
  have hB : wf_B D wcl (wf_A w s.heap.size) s.heap w H locs := wf_Bto hw_10 hB
  refine wf_bne (tgt := 19) hx hb d_Ref_add_13 (by decide) (fun c_13 => ?_) (fun c_13 => ?_)
  · exact absurd (of_decide_eq_true c_13) (by omega)
  · refine lv_bipush (v := (-2)) hx hb d_Ref_add_16 (by decide) ?_
    refine ret_i X hB d_Ref_add_18 ?_
    exact ⟨rfl, rfl⟩
set_option maxHeartbeats 4000000 in
set_option maxRecDepth 100000 in
theorem c_Ref_clear {l : Launch} {D : va_G} {t : Nat → ClassId} {w : wf_W} {sz : Nat} {mo az an ae ac ato aps apt al aip alo alt aic arw aco act asp anu aor ann ald ahd acn ais aq acf acb aw k mn cz tz ca pz wy fi se ho lx ly ts tS cs av lz hz1 nl nh ce qd : Nat} (hN : nd [mo]) (hMo : w mo = some (rfO k mn az an ae ac cz ato tz ca aps apt al aip pz wy fi se ho lx ly ts tS alo alt aic arw aco act asp cs anu aor ann av ald ahd lz hz1 nl nh acn ce ais aq acf acb qd aw)) : Mi l y_Ref_clear b_Ref_clear 2 (some .int) 0 0 0 0 D t w sz [.ref mo] (fun r w' => r = (nI mn) ∧ w' = wf_l w [(mo, rfO k 0 az an ae ac 0 ato 0 0 aps apt al aip pz wy fi se ho lx ly ts tS alo alt aic arw aco act asp cs anu aor ann av ald ahd lz hz1 nl nh acn ce ais aq acf acb qd aw)]) := by
  refine start_i (by decide) (Nat.le_of_ble_eq_true rfl) ?_
  intro p e s m below meth c ls H locs X hB hl
  have hx := X.1
  have hb := X.2.1
  have hl : lv_has ls 2 [(0, .ref mo)] := hl
  have hB : wf_B D wcl (wf_A w s.heap.size) s.heap (wf_l w [(mo, rfO k mn az an ae ac cz ato tz ca aps apt al aip pz wy fi se ho lx ly ts tS alo alt aic arw aco act asp cs anu aor ann av ald ahd lz hz1 nl nh acn ce ais aq acf acb qd aw)]) H locs := wf_Bto (wf_l1 hMo).symm hB
  refine lv_aload_n hx hb d_Ref_clear_0 rfl (lv_at hl 0 rfl) ?_
  refine rgetL X hB hN 0 i_Ref rfl cl_Ref 1 (by decide) k_875 rfl rfl d_Ref_clear_1 ?_
  refine lv_istore_n (lv' := [(1, .int (nI mn)), (0, .ref mo)]) hx hb d_Ref_clear_4 rfl hl (by decide) rfl (fun ls hl => ?_)
  refine lv_aload_n hx hb d_Ref_clear_5 rfl (lv_at hl 1 rfl) ?_
  refine lv_iconst (v := nI 0) hx hb d_Ref_clear_6 (by decide) ?_
  refine rput X hB hN 0 (wl' := [(mo, rfO k 0 az an ae ac cz ato tz ca aps apt al aip pz wy fi se ho lx ly ts tS alo alt aic arw aco act asp cs anu aor ann av ald ahd lz hz1 nl nh acn ce ais aq acf acb qd aw)]) i_Ref t_Ref_ok n_Ref rfl cl_Ref 1 (by decide) k_875 rfl rfl rfl rfl (Nat.le_of_ble_eq_true rfl) d_Ref_clear_7 rfl (fun H locs hB => ?_)
  refine lv_aload_n hx hb d_Ref_clear_10 rfl (lv_at hl 1 rfl) ?_
  refine lv_iconst (v := nI 0) hx hb d_Ref_clear_11 (by decide) ?_
  refine rput X hB hN 0 (wl' := [(mo, rfO k 0 az an ae ac 0 ato tz ca aps apt al aip pz wy fi se ho lx ly ts tS alo alt aic arw aco act asp cs anu aor ann av ald ahd lz hz1 nl nh acn ce ais aq acf acb qd aw)]) i_Ref t_Ref_ok n_Ref rfl cl_Ref 6 (by decide) k_880 rfl rfl rfl rfl (Nat.le_of_ble_eq_true rfl) d_Ref_clear_12 rfl (fun H locs hB => ?_)
  refine lv_aload_n hx hb d_Ref_clear_15 rfl (lv_at hl 1 rfl) ?_
  refine lv_iconst (v := nI 0) hx hb d_Ref_clear_16 (by decide) ?_
  refine rput X hB hN 0 (wl' := [(mo, rfO k 0 az an ae ac 0 ato 0 ca aps apt al aip pz wy fi se ho lx ly ts tS alo alt aic arw aco act asp cs anu aor ann av ald ahd lz hz1 nl nh acn ce ais aq acf acb qd aw)]) i_Ref t_Ref_ok n_Ref rfl cl_Ref 8 (by decide) k_882 rfl rfl rfl rfl (Nat.le_of_ble_eq_true rfl) d_Ref_clear_17 rfl (fun H locs hB => ?_)
  refine lv_aload_n hx hb d_Ref_clear_20 rfl (lv_at hl 1 rfl) ?_
  refine lv_iconst (v := nI 0) hx hb d_Ref_clear_21 (by decide) ?_
  refine rput X hB hN 0 (wl' := [(mo, rfO k 0 az an ae ac 0 ato 0 0 aps apt al aip pz wy fi se ho lx ly ts tS alo alt aic arw aco act asp cs anu aor ann av ald ahd lz hz1 nl nh acn ce ais aq acf acb qd aw)]) i_Ref t_Ref_ok n_Ref rfl cl_Ref 9 (by decide) k_883 rfl rfl rfl rfl (Nat.le_of_ble_eq_true rfl) d_Ref_clear_22 rfl (fun H locs hB => ?_)
  refine lv_iload_n hx hb d_Ref_clear_25 rfl (lv_at hl 0 rfl) ?_
  refine ret_i X hB d_Ref_clear_26 ?_
  exact ⟨rfl, rfl⟩
set_option maxHeartbeats 4000000 in
set_option maxRecDepth 100000 in
theorem c_Ref_wipe {l : Launch} {D : va_G} {t : Nat → ClassId} {w : wf_W} {sz : Nat} {mo az an ae ac ato aps apt al aip alo alt aic arw aco act asp anu aor ann ald ahd acn ais aq acf acb aw k mn cz tz ca pz wy fi se ho lx ly ts tS cs av lz hz1 nl nh ce qd : Nat} (hN : nd [mo]) (hMo : w mo = some (rfO k mn az an ae ac cz ato tz ca aps apt al aip pz wy fi se ho lx ly ts tS alo alt aic arw aco act asp cs anu aor ann av ald ahd lz hz1 nl nh acn ce ais aq acf acb qd aw)) : Mi l y_Ref_wipe b_Ref_wipe 2 (some .int) 0 0 0 0 D t w sz [.ref mo] (fun r w' => r = (nI cz) ∧ w' = wf_l w [(mo, rfO k mn az an ae ac 0 ato tz ca aps apt al aip pz wy fi se ho lx ly ts tS alo alt aic arw aco act asp cs anu aor ann av ald ahd lz hz1 nl nh acn ce ais aq acf acb qd aw)]) := by
  refine start_i (by decide) (Nat.le_of_ble_eq_true rfl) ?_
  intro p e s m below meth c ls H locs X hB hl
  have hx := X.1
  have hb := X.2.1
  have hl : lv_has ls 2 [(0, .ref mo)] := hl
  have hB : wf_B D wcl (wf_A w s.heap.size) s.heap (wf_l w [(mo, rfO k mn az an ae ac cz ato tz ca aps apt al aip pz wy fi se ho lx ly ts tS alo alt aic arw aco act asp cs anu aor ann av ald ahd lz hz1 nl nh acn ce ais aq acf acb qd aw)]) H locs := wf_Bto (wf_l1 hMo).symm hB
  refine lv_aload_n hx hb d_Ref_wipe_0 rfl (lv_at hl 0 rfl) ?_
  refine rgetL X hB hN 0 i_Ref rfl cl_Ref 6 (by decide) k_880 rfl rfl d_Ref_wipe_1 ?_
  refine lv_istore_n (lv' := [(1, .int (nI cz)), (0, .ref mo)]) hx hb d_Ref_wipe_4 rfl hl (by decide) rfl (fun ls hl => ?_)
  refine lv_aload_n hx hb d_Ref_wipe_5 rfl (lv_at hl 1 rfl) ?_
  refine lv_iconst (v := nI 0) hx hb d_Ref_wipe_6 (by decide) ?_
  refine rput X hB hN 0 (wl' := [(mo, rfO k mn az an ae ac 0 ato tz ca aps apt al aip pz wy fi se ho lx ly ts tS alo alt aic arw aco act asp cs anu aor ann av ald ahd lz hz1 nl nh acn ce ais aq acf acb qd aw)]) i_Ref t_Ref_ok n_Ref rfl cl_Ref 6 (by decide) k_880 rfl rfl rfl rfl (Nat.le_of_ble_eq_true rfl) d_Ref_wipe_7 rfl (fun H locs hB => ?_)
  refine lv_iload_n hx hb d_Ref_wipe_10 rfl (lv_at hl 0 rfl) ?_
  refine ret_i X hB d_Ref_wipe_11 ?_
  exact ⟨rfl, rfl⟩
set_option maxHeartbeats 4000000 in
set_option maxRecDepth 100000 in
theorem c_Ref_of {l : Launch} {D : va_G} {t : Nat → ClassId} {w : wf_W} {sz : Nat} {mo az an ae ac ato aps apt al aip alo alt aic arw aco act asp anu aor ann ald ahd acn ais aq acf acb aw k mn cz tz ca pz wy fi se ho lx ly ts tS cs av lz hz1 nl nh ce qd : Nat} {q : Int32} (hMo : w mo = some (rfO k mn az an ae ac cz ato tz ca aps apt al aip pz wy fi se ho lx ly ts tS alo alt aic arw aco act asp cs anu aor ann av ald ahd lz hz1 nl nh acn ce ais aq acf acb qd aw)) : Mi l y_Ref_of b_Ref_of 2 (some .int) 0 0 0 0 D t w sz [.ref mo, .int q] (fun r w' => r = (if q.toInt = 0 then nI mn else if q.toInt = 1 then nI cz else if q.toInt = 2 then nI ca else if q.toInt = 3 then nI k else (-2)) ∧ w' = w) := by
  refine start_i (by decide) (Nat.le_of_ble_eq_true rfl) ?_
  intro p e s m below meth c ls H locs X hB hl
  have hx := X.1
  have hb := X.2.1
  have hl : lv_has ls 2 [(0, .ref mo), (1, .int q)] := hl
  refine lv_iload_n hx hb d_Ref_of_0 rfl (lv_at hl 1 rfl) ?_
  refine wf_zne (tgt := 11) hx hb d_Ref_of_1 (by decide) rfl (fun c_1 => ?_) (fun c_1 => ?_)
  · refine lv_iload_n hx hb d_Ref_of_11 rfl (lv_at hl 1 rfl) ?_
    refine lv_iconst (v := nI 1) hx hb d_Ref_of_12 (by decide) ?_
    refine wf_cne (tgt := 23) hx hb d_Ref_of_13 (by decide) rfl (nI_toInt (by omega)) (fun c_13 => ?_) (fun c_13 => ?_)
    · refine lv_iload_n hx hb d_Ref_of_23 rfl (lv_at hl 1 rfl) ?_
      refine lv_iconst (v := nI 2) hx hb d_Ref_of_24 (by decide) ?_
      refine wf_cne (tgt := 35) hx hb d_Ref_of_25 (by decide) rfl (nI_toInt (by omega)) (fun c_25 => ?_) (fun c_25 => ?_)
      · refine lv_iload_n hx hb d_Ref_of_35 rfl (lv_at hl 1 rfl) ?_
        refine lv_iconst (v := nI 3) hx hb d_Ref_of_36 (by decide) ?_
        refine wf_cne (tgt := 47) hx hb d_Ref_of_37 (by decide) rfl (nI_toInt (by omega)) (fun c_37 => ?_) (fun c_37 => ?_)
        · refine lv_bipush (v := (-2)) hx hb d_Ref_of_47 (by decide) ?_
          refine ret_i X hB d_Ref_of_49 ?_
          exact ⟨Eq.symm (by rw [if_neg (by omega), if_neg (by omega), if_neg (by omega), if_neg (by omega)]), rfl⟩
        · refine lv_aload_n hx hb d_Ref_of_40 rfl (lv_at hl 0 rfl) ?_
          refine rget X hB  i_Ref hMo cl_Ref 0 (by decide) k_874 rfl rfl d_Ref_of_41 ?_
          refine lv_goto (tgt := 49) hx hb d_Ref_of_44 (by decide) ?_
          refine ret_i X hB d_Ref_of_49 ?_
          exact ⟨Eq.symm (by rw [if_neg (by omega), if_neg (by omega), if_neg (by omega), if_pos (by omega)]), rfl⟩
      · refine lv_aload_n hx hb d_Ref_of_28 rfl (lv_at hl 0 rfl) ?_
        refine rget X hB  i_Ref hMo cl_Ref 9 (by decide) k_883 rfl rfl d_Ref_of_29 ?_
        refine lv_goto (tgt := 49) hx hb d_Ref_of_32 (by decide) ?_
        refine ret_i X hB d_Ref_of_49 ?_
        exact ⟨Eq.symm (by rw [if_neg (by omega), if_neg (by omega), if_pos (by omega)]), rfl⟩
    · refine lv_aload_n hx hb d_Ref_of_16 rfl (lv_at hl 0 rfl) ?_
      refine rget X hB  i_Ref hMo cl_Ref 6 (by decide) k_880 rfl rfl d_Ref_of_17 ?_
      refine lv_goto (tgt := 49) hx hb d_Ref_of_20 (by decide) ?_
      refine ret_i X hB d_Ref_of_49 ?_
      exact ⟨Eq.symm (by rw [if_neg (by omega), if_pos (by omega)]), rfl⟩
  · refine lv_aload_n hx hb d_Ref_of_4 rfl (lv_at hl 0 rfl) ?_
    refine rget X hB  i_Ref hMo cl_Ref 1 (by decide) k_875 rfl rfl d_Ref_of_5 ?_
    refine lv_goto (tgt := 49) hx hb d_Ref_of_8 (by decide) ?_
    refine ret_i X hB d_Ref_of_49 ?_
    exact ⟨Eq.symm (by rw [if_pos (by omega)]), rfl⟩
set_option maxHeartbeats 4000000 in
set_option maxRecDepth 100000 in
theorem c_Ref_toldy {l : Launch} {D : va_G} {t : Nat → ClassId} {w : wf_W} {sz : Nat} {mo az an ae ac ato aps apt al aip alo alt aic arw aco act asp anu aor ann ald ahd acn ais aq acf acb aw k mn cz tz ca pz wy fi se ho lx ly ts tS cs av lz hz1 nl nh ce qd : Nat} {tl : Nat → Nat} {a : Nat} (hMo : w mo = some (rfO k mn az an ae ac cz ato tz ca aps apt al aip pz wy fi se ho lx ly ts tS alo alt aic arw aco act asp cs anu aor ann av ald ahd lz hz1 nl nh acn ce ais aq acf acb qd aw)) (h_ato : w ato = some (.inl (t 0, 100, .inl (iA tl)))) (hat : a < tz) (htz : tz ≤ 100) : Mi l y_Ref_told b_Ref_told 2 (some .int) 1 25 0 0 D t w sz [.ref mo, .int (nI a)] (fun r w' => r = (nI (tl a)) ∧ w' = w) := by
  refine start_i (by decide) (Nat.le_of_ble_eq_true rfl) ?_
  intro p e s m below meth c ls H locs X hB hl
  have hx := X.1
  have hb := X.2.1
  have hl : lv_has ls 2 [(0, .ref mo), (1, .int (nI a))] := hl
  refine lv_iload_n hx hb d_Ref_told_0 rfl (lv_at hl 1 rfl) ?_
  refine lv_i2l (v := lN a) hx hb d_Ref_told_1 (nI_l (by omega)) ?_
  refine lv_lconst (v := lN 0) hx hb d_Ref_told_2 (by decide) ?_
  refine lv_aload_n hx hb d_Ref_told_3 rfl (lv_at hl 0 rfl) ?_
  refine rget X hB  i_Ref hMo cl_Ref 8 (by decide) k_882 rfl rfl d_Ref_told_4 ?_
  refine lv_iconst (v := nI 1) hx hb d_Ref_told_7 (by decide) ?_
  refine wf_isub (x := tz) (y := 1) hx hb d_Ref_told_8 (by omega) ?_
  refine lv_i2l (v := lN (tz - 1)) hx hb d_Ref_told_9 (nI_l (by omega)) ?_
  refine callSi (As := [.long (lN a), .long (lN 0), .long (lN (tz - 1))]) (rest := []) X hB wf_hA (c_Ref_liesy (l := l) (D := D) (t := t) (w := w) (sz := H.size) (v1 := a) (l1 := 0) (h1 := tz - 1) (by omega)) k_1030 k_1031 k_75 k_1032 hd_Ref_lies ⟨Nat.le_of_ble_eq_true rfl, Nat.le_of_ble_eq_true rfl⟩ ⟨Nat.le_of_ble_eq_true rfl, Nat.le_of_ble_eq_true rfl⟩ hl.1 (Nat.le_of_ble_eq_true rfl) d_Ref_told_10 rfl (fun r_10 w1 H locs hp hB => ?_)
  obtain ⟨rfl, hw_10⟩ := hp
  have hB : wf_B D wcl (wf_A w s.heap.size) s.heap w H locs := wf_Bto hw_10 hB
  refine wf_beq (tgt := 25) hx hb d_Ref_told_13 (by decide) (fun c9 => absurd c9 (by decide)) (fun _ => ?_)
  refine lv_aload_n hx hb d_Ref_told_16 rfl (lv_at hl 0 rfl) ?_
  refine rget X hB  i_Ref hMo cl_Ref 7 (by decide) k_881 rfl rfl d_Ref_told_17 ?_
  refine lv_iload_n hx hb d_Ref_told_20 rfl (lv_at hl 1 rfl) ?_
  refine riald X hB  h_ato (i := a) (by omega) (by decide) d_Ref_told_21 ?_
  refine wf_ti (y := nI (tl a)) rfl ?_
  refine lv_goto (tgt := 26) hx hb d_Ref_told_22 (by decide) ?_
  refine ret_i X hB d_Ref_told_26 ?_
  exact ⟨rfl, rfl⟩
set_option maxHeartbeats 4000000 in
set_option maxRecDepth 100000 in
theorem c_Ref_toldb {l : Launch} {D : va_G} {t : Nat → ClassId} {w : wf_W} {sz : Nat} {mo az an ae ac ato aps apt al aip alo alt aic arw aco act asp anu aor ann ald ahd acn ais aq acf acb aw k mn cz tz ca pz wy fi se ho lx ly ts tS cs av lz hz1 nl nh ce qd : Nat} {q : Int32} (hMo : w mo = some (rfO k mn az an ae ac cz ato tz ca aps apt al aip pz wy fi se ho lx ly ts tS alo alt aic arw aco act asp cs anu aor ann av ald ahd lz hz1 nl nh acn ce ais aq acf acb qd aw)) (htz : tz ≤ 100) (hbd : ¬ (0 ≤ q.toInt ∧ q.toInt < tz)) : Mi l y_Ref_told b_Ref_told 2 (some .int) 1 25 0 0 D t w sz [.ref mo, .int q] (fun r w' => r = (-1) ∧ w' = w) := by
  refine start_i (by decide) (Nat.le_of_ble_eq_true rfl) ?_
  intro p e s m below meth c ls H locs X hB hl
  have hx := X.1
  have hb := X.2.1
  have hl : lv_has ls 2 [(0, .ref mo), (1, .int q)] := hl
  have e1 := Int32.toInt_toInt64 q
  have e2 := pk_sub_toInt (a := tz) (b := 1) (by omega) (by decide)
  have e3 := Int32.toInt_toInt64 (nI tz - nI 1)
  have e4 := pk_lT (n := 0) (by decide)
  refine lv_iload_n hx hb d_Ref_told_0 rfl (lv_at hl 1 rfl) ?_
  refine lv_i2l hx hb d_Ref_told_1 rfl ?_
  refine lv_lconst (v := lN 0) hx hb d_Ref_told_2 (by decide) ?_
  refine lv_aload_n hx hb d_Ref_told_3 rfl (lv_at hl 0 rfl) ?_
  refine rget X hB  i_Ref hMo cl_Ref 8 (by decide) k_882 rfl rfl d_Ref_told_4 ?_
  refine lv_iconst (v := nI 1) hx hb d_Ref_told_7 (by decide) ?_
  refine lv_isub hx hb d_Ref_told_8 ?_
  refine lv_i2l hx hb d_Ref_told_9 rfl ?_
  refine callSi (As := [.long (Int32.toInt64 q), .long (lN 0), .long (Int32.toInt64 ((nI tz) - (nI 1)))]) (rest := []) X hB wf_hA (c_Ref_lies (l := l) (D := D) (t := t) (w := w) (sz := H.size) (v1 := Int32.toInt64 q) (l1 := lN 0) (h1 := Int32.toInt64 ((nI tz) - (nI 1)))) k_1030 k_1031 k_75 k_1032 hd_Ref_lies ⟨Nat.le_of_ble_eq_true rfl, Nat.le_of_ble_eq_true rfl⟩ ⟨Nat.le_of_ble_eq_true rfl, Nat.le_of_ble_eq_true rfl⟩ hl.1 (Nat.le_of_ble_eq_true rfl) d_Ref_told_10 rfl (fun r_10 w1 H locs hp hB => ?_)
  obtain ⟨rfl, hw_10⟩ := hp
  have hB : wf_B D wcl (wf_A w s.heap.size) s.heap w H locs := wf_Bto hw_10 hB
  refine wf_beq (tgt := 25) hx hb d_Ref_told_13 (by decide) (fun c_13 => ?_) (fun c_13 => ?_)
  · refine lv_iconst (v := (-1)) hx hb d_Ref_told_25 (by decide) ?_
    refine ret_i X hB d_Ref_told_26 ?_
    exact ⟨rfl, rfl⟩
  · exact absurd (of_decide_eq_true c_13) (by rw [e1, e3, e2, e4]; omega)
set_option maxHeartbeats 4000000 in
set_option maxRecDepth 100000 in
theorem c_Ref_statesy {l : Launch} {D : va_G} {t : Nat → ClassId} {w : wf_W} {sz : Nat} {mo az an ae ac ato aps apt al aip alo alt aic arw aco act asp anu aor ann ald ahd acn ais aq acf acb aw k mn cz tz ca pz wy fi se ho lx ly ts tS cs av lz hz1 nl nh ce qd : Nat} {Sz : Nat → Nat} {a : Nat} (hMo : w mo = some (rfO k mn az an ae ac cz ato tz ca aps apt al aip pz wy fi se ho lx ly ts tS alo alt aic arw aco act asp cs anu aor ann av ald ahd lz hz1 nl nh acn ce ais aq acf acb qd aw)) (h_az : w az = some (.inl (t 0, 60, .inl (iA Sz)))) (hmn : mn ≤ 60) (ha : a < mn) : Mi l y_Ref_states b_Ref_states 2 (some .int) 2 46 0 0 D t w sz [.ref mo, .int (nI a)] (fun r w' => r = (nI (Sz a)) ∧ w' = w) := by
  refine start_i (by decide) (Nat.le_of_ble_eq_true rfl) ?_
  intro p e s m below meth c ls H locs X hB hl
  have hx := X.1
  have hb := X.2.1
  have hl : lv_has ls 2 [(0, .ref mo), (1, .int (nI a))] := hl
  refine lv_aload_n hx hb d_Ref_states_0 rfl (lv_at hl 0 rfl) ?_
  refine lv_iload_n hx hb d_Ref_states_1 rfl (lv_at hl 1 rfl) ?_
  refine callVi (As := [.int (nI a)]) (rest := []) X hB wf_hA (c_Ref_isy (l := l) (D := D) (t := t) (w := w) (sz := H.size) (mo := mo) (az := az) (an := an) (ae := ae) (ac := ac) (ato := ato) (aps := aps) (apt := apt) (al := al) (aip := aip) (alo := alo) (alt := alt) (aic := aic) (arw := arw) (aco := aco) (act := act) (asp := asp) (anu := anu) (aor := aor) (ann := ann) (ald := ald) (ahd := ahd) (acn := acn) (ais := ais) (aq := aq) (acf := acf) (acb := acb) (aw := aw) (k := k) (mn := mn) (cz := cz) (tz := tz) (ca := ca) (pz := pz) (wy := wy) (fi := fi) (se := se) (ho := ho) (lx := lx) (ly := ly) (ts := ts) (tS := tS) (cs := cs) (av := av) (lz := lz) (hz1 := hz1) (nl := nl) (nh := nh) (ce := ce) (qd := qd) (a := a) hMo (by exact hmn) (by exact ha)) k_1078 k_1080 k_42 k_75 k_1081 hMo cl_Ref rfl hd_Ref_is ⟨Nat.le_of_ble_eq_true rfl, Nat.le_of_ble_eq_true rfl⟩ ⟨Nat.le_of_ble_eq_true rfl, Nat.le_of_ble_eq_true rfl⟩ hl.1 (Nat.le_of_ble_eq_true rfl) d_Ref_states_2 rfl (fun r_2 w1 H locs hp hB => ?_)
  obtain ⟨rfl, hw_2⟩ := hp
  have hB : wf_B D wcl (wf_A w s.heap.size) s.heap w H locs := wf_Bto hw_2 hB
  refine wf_beq (tgt := 17) hx hb d_Ref_states_5 (by decide) (fun c9 => absurd c9 (by decide)) (fun _ => ?_)
  refine lv_aload_n hx hb d_Ref_states_8 rfl (lv_at hl 0 rfl) ?_
  refine rget X hB  i_Ref hMo cl_Ref 2 (by decide) k_876 rfl rfl d_Ref_states_9 ?_
  refine lv_iload_n hx hb d_Ref_states_12 rfl (lv_at hl 1 rfl) ?_
  refine riald X hB  h_az (i := a) (by omega) (by decide) d_Ref_states_13 ?_
  refine wf_ti (y := nI (Sz a)) rfl ?_
  refine lv_goto (tgt := 19) hx hb d_Ref_states_14 (by decide) ?_
  refine ret_i X hB d_Ref_states_19 ?_
  exact ⟨rfl, rfl⟩
set_option maxHeartbeats 4000000 in
set_option maxRecDepth 100000 in
theorem c_Ref_nexty {l : Launch} {D : va_G} {t : Nat → ClassId} {w : wf_W} {sz : Nat} {mo az an ae ac ato aps apt al aip alo alt aic arw aco act asp anu aor ann ald ahd acn ais aq acf acb aw k mn cz tz ca pz wy fi se ho lx ly ts tS cs av lz hz1 nl nh ce qd : Nat} {Sz Nx : Nat → Nat} {a v b : Nat} (hMo : w mo = some (rfO k mn az an ae ac cz ato tz ca aps apt al aip pz wy fi se ho lx ly ts tS alo alt aic arw aco act asp cs anu aor ann av ald ahd lz hz1 nl nh acn ce ais aq acf acb qd aw)) (h_az : w az = some (.inl (t 0, 60, .inl (iA Sz)))) (h_an : w an = some (.inl (t 0, 9600, .inl (iA Nx)))) (hmn : mn ≤ 60) (ha : a < mn) (hk : 1 ≤ k ∧ k ≤ 4) (hSa : 0 < Sz a ∧ Sz a ≤ 40) (hv : v < Sz a) (hbk : b < k) : Mi l y_Ref_next b_Ref_next 4 (some .int) 2 46 0 0 D t w sz [.ref mo, .int (nI a), .int (nI v), .int (nI b)] (fun r w' => r = (nI (nxt Nx a v b)) ∧ w' = w) := by
  refine start_i (by decide) (Nat.le_of_ble_eq_true rfl) ?_
  intro p e s m below meth c ls H locs X hB hl
  have hx := X.1
  have hb := X.2.1
  have hl : lv_has ls 4 [(0, .ref mo), (1, .int (nI a)), (2, .int (nI v)), (3, .int (nI b))] := hl
  refine lv_aload_n hx hb d_Ref_next_0 rfl (lv_at hl 0 rfl) ?_
  refine lv_iload_n hx hb d_Ref_next_1 rfl (lv_at hl 1 rfl) ?_
  refine callVi (As := [.int (nI a)]) (rest := []) X hB wf_hA (c_Ref_isy (l := l) (D := D) (t := t) (w := w) (sz := H.size) (mo := mo) (az := az) (an := an) (ae := ae) (ac := ac) (ato := ato) (aps := aps) (apt := apt) (al := al) (aip := aip) (alo := alo) (alt := alt) (aic := aic) (arw := arw) (aco := aco) (act := act) (asp := asp) (anu := anu) (aor := aor) (ann := ann) (ald := ald) (ahd := ahd) (acn := acn) (ais := ais) (aq := aq) (acf := acf) (acb := acb) (aw := aw) (k := k) (mn := mn) (cz := cz) (tz := tz) (ca := ca) (pz := pz) (wy := wy) (fi := fi) (se := se) (ho := ho) (lx := lx) (ly := ly) (ts := ts) (tS := tS) (cs := cs) (av := av) (lz := lz) (hz1 := hz1) (nl := nl) (nh := nh) (ce := ce) (qd := qd) (a := a) hMo (by exact hmn) (by exact ha)) k_1078 k_1080 k_42 k_75 k_1081 hMo cl_Ref rfl hd_Ref_is ⟨Nat.le_of_ble_eq_true rfl, Nat.le_of_ble_eq_true rfl⟩ ⟨Nat.le_of_ble_eq_true rfl, Nat.le_of_ble_eq_true rfl⟩ hl.1 (Nat.le_of_ble_eq_true rfl) d_Ref_next_2 rfl (fun r_2 w1 H locs hp hB => ?_)
  obtain ⟨rfl, hw_2⟩ := hp
  have hB : wf_B D wcl (wf_A w s.heap.size) s.heap w H locs := wf_Bto hw_2 hB
  refine wf_beq (tgt := 52) hx hb d_Ref_next_5 (by decide) (fun c9 => absurd c9 (by decide)) (fun _ => ?_)
  refine lv_iload_n hx hb d_Ref_next_8 rfl (lv_at hl 2 rfl) ?_
  refine lv_i2l (v := lN v) hx hb d_Ref_next_9 (nI_l (by omega)) ?_
  refine lv_lconst (v := lN 0) hx hb d_Ref_next_10 (by decide) ?_
  refine lv_aload_n hx hb d_Ref_next_11 rfl (lv_at hl 0 rfl) ?_
  refine rget X hB  i_Ref hMo cl_Ref 2 (by decide) k_876 rfl rfl d_Ref_next_12 ?_
  refine lv_iload_n hx hb d_Ref_next_15 rfl (lv_at hl 1 rfl) ?_
  refine riald X hB  h_az (i := a) (by omega) (by decide) d_Ref_next_16 ?_
  refine wf_ti (y := nI (Sz a)) rfl ?_
  refine lv_iconst (v := nI 1) hx hb d_Ref_next_17 (by decide) ?_
  refine wf_isub (x := Sz a) (y := 1) hx hb d_Ref_next_18 (by omega) ?_
  refine lv_i2l (v := lN ((Sz a) - 1)) hx hb d_Ref_next_19 (nI_l (by omega)) ?_
  refine callSi (As := [.long (lN v), .long (lN 0), .long (lN ((Sz a) - 1))]) (rest := []) X hB wf_hA (c_Ref_liesy (l := l) (D := D) (t := t) (w := w) (sz := H.size) (v1 := v) (l1 := 0) (h1 := (Sz a) - 1) (by omega)) k_1030 k_1031 k_75 k_1032 hd_Ref_lies ⟨Nat.le_of_ble_eq_true rfl, Nat.le_of_ble_eq_true rfl⟩ ⟨Nat.le_of_ble_eq_true rfl, Nat.le_of_ble_eq_true rfl⟩ hl.1 (Nat.le_of_ble_eq_true rfl) d_Ref_next_20 rfl (fun r_20 w1 H locs hp hB => ?_)
  obtain ⟨rfl, hw_20⟩ := hp
  have hB : wf_B D wcl (wf_A w s.heap.size) s.heap w H locs := wf_Bto hw_20 hB
  refine wf_beq (tgt := 52) hx hb d_Ref_next_23 (by decide) (fun c9 => absurd c9 (by decide)) (fun _ => ?_)
  refine lv_iload_n hx hb d_Ref_next_26 rfl (lv_at hl 3 rfl) ?_
  refine lv_i2l (v := lN b) hx hb d_Ref_next_27 (nI_l (by omega)) ?_
  refine lv_lconst (v := lN 0) hx hb d_Ref_next_28 (by decide) ?_
  refine lv_aload_n hx hb d_Ref_next_29 rfl (lv_at hl 0 rfl) ?_
  refine rget X hB  i_Ref hMo cl_Ref 0 (by decide) k_874 rfl rfl d_Ref_next_30 ?_
  refine lv_iconst (v := nI 1) hx hb d_Ref_next_33 (by decide) ?_
  refine wf_isub (x := k) (y := 1) hx hb d_Ref_next_34 (by omega) ?_
  refine lv_i2l (v := lN (k - 1)) hx hb d_Ref_next_35 (nI_l (by omega)) ?_
  refine callSi (As := [.long (lN b), .long (lN 0), .long (lN (k - 1))]) (rest := []) X hB wf_hA (c_Ref_liesy (l := l) (D := D) (t := t) (w := w) (sz := H.size) (v1 := b) (l1 := 0) (h1 := k - 1) (by omega)) k_1030 k_1031 k_75 k_1032 hd_Ref_lies ⟨Nat.le_of_ble_eq_true rfl, Nat.le_of_ble_eq_true rfl⟩ ⟨Nat.le_of_ble_eq_true rfl, Nat.le_of_ble_eq_true rfl⟩ hl.1 (Nat.le_of_ble_eq_true rfl) d_Ref_next_36 rfl (fun r_36 w1 H locs hp hB => ?_)
  obtain ⟨rfl, hw_36⟩ := hp
  have hB : wf_B D wcl (wf_A w s.heap.size) s.heap w H locs := wf_Bto hw_36 hB
  refine wf_beq (tgt := 52) hx hb d_Ref_next_39 (by decide) (fun c9 => absurd c9 (by decide)) (fun _ => ?_)
  refine lv_aload_n hx hb d_Ref_next_42 rfl (lv_at hl 0 rfl) ?_
  refine lv_iload_n hx hb d_Ref_next_43 rfl (lv_at hl 1 rfl) ?_
  refine lv_iload_n hx hb d_Ref_next_44 rfl (lv_at hl 2 rfl) ?_
  refine lv_iload_n hx hb d_Ref_next_45 rfl (lv_at hl 3 rfl) ?_
  refine callVi (As := [.int (nI a), .int (nI v), .int (nI b)]) (rest := []) X hB wf_hA (c_Ref_nextOf (l := l) (D := D) (t := t) (w := w) (sz := H.size) (mo := mo) (az := az) (an := an) (ae := ae) (ac := ac) (ato := ato) (aps := aps) (apt := apt) (al := al) (aip := aip) (alo := alo) (alt := alt) (aic := aic) (arw := arw) (aco := aco) (act := act) (asp := asp) (anu := anu) (aor := aor) (ann := ann) (ald := ald) (ahd := ahd) (acn := acn) (ais := ais) (aq := aq) (acf := acf) (acb := acb) (aw := aw) (k := k) (mn := mn) (cz := cz) (tz := tz) (ca := ca) (pz := pz) (wy := wy) (fi := fi) (se := se) (ho := ho) (lx := lx) (ly := ly) (ts := ts) (tS := tS) (cs := cs) (av := av) (lz := lz) (hz1 := hz1) (nl := nl) (nh := nh) (ce := ce) (qd := qd) (Nx := Nx) (a := a) (u := v) (b := b) hMo h_an (by omega) (by omega) (by omega)) k_1070 k_1072 k_41 k_75 k_1073 hMo cl_Ref rfl hd_Ref_nextOf ⟨Nat.le_of_ble_eq_true rfl, Nat.le_of_ble_eq_true rfl⟩ ⟨Nat.le_of_ble_eq_true rfl, Nat.le_of_ble_eq_true rfl⟩ hl.1 (Nat.le_of_ble_eq_true rfl) d_Ref_next_46 rfl (fun r_46 w1 H locs hp hB => ?_)
  obtain ⟨rfl, hw_46⟩ := hp
  have hB : wf_B D wcl (wf_A w s.heap.size) s.heap w H locs := wf_Bto hw_46 hB
  refine lv_goto (tgt := 54) hx hb d_Ref_next_49 (by decide) ?_
  refine ret_i X hB d_Ref_next_54 ?_
  exact ⟨rfl, rfl⟩
set_option maxHeartbeats 4000000 in
set_option maxRecDepth 100000 in
theorem c_Ref_nextn {l : Launch} {D : va_G} {t : Nat → ClassId} {w : wf_W} {sz : Nat} {mo az an ae ac ato aps apt al aip alo alt aic arw aco act asp anu aor ann ald ahd acn ais aq acf acb aw k mn cz tz ca pz wy fi se ho lx ly ts tS cs av lz hz1 nl nh ce qd : Nat} {q v1 b1 : Int32} (hMo : w mo = some (rfO k mn az an ae ac cz ato tz ca aps apt al aip pz wy fi se ho lx ly ts tS alo alt aic arw aco act asp cs anu aor ann av ald ahd lz hz1 nl nh acn ce ais aq acf acb qd aw)) (hmn : mn ≤ 60) (hbd : ¬ (0 ≤ q.toInt ∧ q.toInt < mn)) : Mi l y_Ref_next b_Ref_next 4 (some .int) 2 46 0 0 D t w sz [.ref mo, .int q, .int v1, .int b1] (fun r w' => r = (-2) ∧ w' = w) := by
  refine start_i (by decide) (Nat.le_of_ble_eq_true rfl) ?_
  intro p e s m below meth c ls H locs X hB hl
  have hx := X.1
  have hb := X.2.1
  have hl : lv_has ls 4 [(0, .ref mo), (1, .int q), (2, .int v1), (3, .int b1)] := hl
  refine lv_aload_n hx hb d_Ref_next_0 rfl (lv_at hl 0 rfl) ?_
  refine lv_iload_n hx hb d_Ref_next_1 rfl (lv_at hl 1 rfl) ?_
  refine callVi (As := [.int q]) (rest := []) X hB wf_hA (c_Ref_is (l := l) (D := D) (t := t) (w := w) (sz := H.size) (mo := mo) (az := az) (an := an) (ae := ae) (ac := ac) (ato := ato) (aps := aps) (apt := apt) (al := al) (aip := aip) (alo := alo) (alt := alt) (aic := aic) (arw := arw) (aco := aco) (act := act) (asp := asp) (anu := anu) (aor := aor) (ann := ann) (ald := ald) (ahd := ahd) (acn := acn) (ais := ais) (aq := aq) (acf := acf) (acb := acb) (aw := aw) (k := k) (mn := mn) (cz := cz) (tz := tz) (ca := ca) (pz := pz) (wy := wy) (fi := fi) (se := se) (ho := ho) (lx := lx) (ly := ly) (ts := ts) (tS := tS) (cs := cs) (av := av) (lz := lz) (hz1 := hz1) (nl := nl) (nh := nh) (ce := ce) (qd := qd) (q := q) hMo (by exact hmn)) k_1078 k_1080 k_42 k_75 k_1081 hMo cl_Ref rfl hd_Ref_is ⟨Nat.le_of_ble_eq_true rfl, Nat.le_of_ble_eq_true rfl⟩ ⟨Nat.le_of_ble_eq_true rfl, Nat.le_of_ble_eq_true rfl⟩ hl.1 (Nat.le_of_ble_eq_true rfl) d_Ref_next_2 rfl (fun r_2 w1 H locs hp hB => ?_)
  obtain ⟨rfl, hw_2⟩ := hp
  have hB : wf_B D wcl (wf_A w s.heap.size) s.heap w H locs := wf_Bto hw_2 hB
  refine wf_beq (tgt := 52) hx hb d_Ref_next_5 (by decide) (fun c_5 => ?_) (fun c_5 => ?_)
  · refine lv_bipush (v := (-2)) hx hb d_Ref_next_52 (by decide) ?_
    refine ret_i X hB d_Ref_next_54 ?_
    exact ⟨rfl, rfl⟩
  · exact absurd (of_decide_eq_true c_5) hbd
set_option maxHeartbeats 4000000 in
set_option maxRecDepth 100000 in
theorem c_Ref_nextb {l : Launch} {D : va_G} {t : Nat → ClassId} {w : wf_W} {sz : Nat} {mo az an ae ac ato aps apt al aip alo alt aic arw aco act asp anu aor ann ald ahd acn ais aq acf acb aw k mn cz tz ca pz wy fi se ho lx ly ts tS cs av lz hz1 nl nh ce qd : Nat} {Sz : Nat → Nat} {a : Nat} {v1 b1 : Int32} (hMo : w mo = some (rfO k mn az an ae ac cz ato tz ca aps apt al aip pz wy fi se ho lx ly ts tS alo alt aic arw aco act asp cs anu aor ann av ald ahd lz hz1 nl nh acn ce ais aq acf acb qd aw)) (h_az : w az = some (.inl (t 0, 60, .inl (iA Sz)))) (hmn : mn ≤ 60) (ha : a < mn) (hk : 1 ≤ k ∧ k ≤ 4) (hSa : 0 < Sz a ∧ Sz a ≤ 40) (hbd : ¬ ((0 ≤ v1.toInt ∧ v1.toInt < Sz a) ∧ (0 ≤ b1.toInt ∧ b1.toInt < k))) : Mi l y_Ref_next b_Ref_next 4 (some .int) 2 46 0 0 D t w sz [.ref mo, .int (nI a), .int v1, .int b1] (fun r w' => r = (-2) ∧ w' = w) := by
  refine start_i (by decide) (Nat.le_of_ble_eq_true rfl) ?_
  intro p e s m below meth c ls H locs X hB hl
  have hx := X.1
  have hb := X.2.1
  have hl : lv_has ls 4 [(0, .ref mo), (1, .int (nI a)), (2, .int v1), (3, .int b1)] := hl
  refine lv_aload_n hx hb d_Ref_next_0 rfl (lv_at hl 0 rfl) ?_
  refine lv_iload_n hx hb d_Ref_next_1 rfl (lv_at hl 1 rfl) ?_
  refine callVi (As := [.int (nI a)]) (rest := []) X hB wf_hA (c_Ref_isy (l := l) (D := D) (t := t) (w := w) (sz := H.size) (mo := mo) (az := az) (an := an) (ae := ae) (ac := ac) (ato := ato) (aps := aps) (apt := apt) (al := al) (aip := aip) (alo := alo) (alt := alt) (aic := aic) (arw := arw) (aco := aco) (act := act) (asp := asp) (anu := anu) (aor := aor) (ann := ann) (ald := ald) (ahd := ahd) (acn := acn) (ais := ais) (aq := aq) (acf := acf) (acb := acb) (aw := aw) (k := k) (mn := mn) (cz := cz) (tz := tz) (ca := ca) (pz := pz) (wy := wy) (fi := fi) (se := se) (ho := ho) (lx := lx) (ly := ly) (ts := ts) (tS := tS) (cs := cs) (av := av) (lz := lz) (hz1 := hz1) (nl := nl) (nh := nh) (ce := ce) (qd := qd) (a := a) hMo (by exact hmn) (by exact ha)) k_1078 k_1080 k_42 k_75 k_1081 hMo cl_Ref rfl hd_Ref_is ⟨Nat.le_of_ble_eq_true rfl, Nat.le_of_ble_eq_true rfl⟩ ⟨Nat.le_of_ble_eq_true rfl, Nat.le_of_ble_eq_true rfl⟩ hl.1 (Nat.le_of_ble_eq_true rfl) d_Ref_next_2 rfl (fun r_2 w1 H locs hp hB => ?_)
  obtain ⟨rfl, hw_2⟩ := hp
  have hB : wf_B D wcl (wf_A w s.heap.size) s.heap w H locs := wf_Bto hw_2 hB
  refine wf_beq (tgt := 52) hx hb d_Ref_next_5 (by decide) (fun c9 => absurd c9 (by decide)) (fun _ => ?_)
  refine lv_iload_n hx hb d_Ref_next_8 rfl (lv_at hl 2 rfl) ?_
  refine lv_i2l hx hb d_Ref_next_9 rfl ?_
  refine lv_lconst (v := lN 0) hx hb d_Ref_next_10 (by decide) ?_
  refine lv_aload_n hx hb d_Ref_next_11 rfl (lv_at hl 0 rfl) ?_
  refine rget X hB  i_Ref hMo cl_Ref 2 (by decide) k_876 rfl rfl d_Ref_next_12 ?_
  refine lv_iload_n hx hb d_Ref_next_15 rfl (lv_at hl 1 rfl) ?_
  refine riald X hB  h_az (i := a) (by omega) (by decide) d_Ref_next_16 ?_
  refine wf_ti (y := nI (Sz a)) rfl ?_
  refine lv_iconst (v := nI 1) hx hb d_Ref_next_17 (by decide) ?_
  refine wf_isub (x := Sz a) (y := 1) hx hb d_Ref_next_18 (by omega) ?_
  refine lv_i2l (v := lN ((Sz a) - 1)) hx hb d_Ref_next_19 (nI_l (by omega)) ?_
  refine callSi (As := [.long (Int32.toInt64 v1), .long (lN 0), .long (lN ((Sz a) - 1))]) (rest := []) X hB wf_hA (c_Ref_liesq (l := l) (D := D) (t := t) (w := w) (sz := H.size) (q1 := v1) (l1 := 0) (h1 := (Sz a) - 1) (by omega)) k_1030 k_1031 k_75 k_1032 hd_Ref_lies ⟨Nat.le_of_ble_eq_true rfl, Nat.le_of_ble_eq_true rfl⟩ ⟨Nat.le_of_ble_eq_true rfl, Nat.le_of_ble_eq_true rfl⟩ hl.1 (Nat.le_of_ble_eq_true rfl) d_Ref_next_20 rfl (fun r_20 w1 H locs hp hB => ?_)
  obtain ⟨rfl, hw_20⟩ := hp
  have hB : wf_B D wcl (wf_A w s.heap.size) s.heap w H locs := wf_Bto hw_20 hB
  refine wf_beq (tgt := 52) hx hb d_Ref_next_23 (by decide) (fun c_23 => ?_) (fun c_23 => ?_)
  · refine lv_bipush (v := (-2)) hx hb d_Ref_next_52 (by decide) ?_
    refine ret_i X hB d_Ref_next_54 ?_
    exact ⟨rfl, rfl⟩
  · refine lv_iload_n hx hb d_Ref_next_26 rfl (lv_at hl 3 rfl) ?_
    refine lv_i2l hx hb d_Ref_next_27 rfl ?_
    refine lv_lconst (v := lN 0) hx hb d_Ref_next_28 (by decide) ?_
    refine lv_aload_n hx hb d_Ref_next_29 rfl (lv_at hl 0 rfl) ?_
    refine rget X hB  i_Ref hMo cl_Ref 0 (by decide) k_874 rfl rfl d_Ref_next_30 ?_
    refine lv_iconst (v := nI 1) hx hb d_Ref_next_33 (by decide) ?_
    refine wf_isub (x := k) (y := 1) hx hb d_Ref_next_34 (by omega) ?_
    refine lv_i2l (v := lN (k - 1)) hx hb d_Ref_next_35 (nI_l (by omega)) ?_
    refine callSi (As := [.long (Int32.toInt64 b1), .long (lN 0), .long (lN (k - 1))]) (rest := []) X hB wf_hA (c_Ref_liesq (l := l) (D := D) (t := t) (w := w) (sz := H.size) (q1 := b1) (l1 := 0) (h1 := k - 1) (by omega)) k_1030 k_1031 k_75 k_1032 hd_Ref_lies ⟨Nat.le_of_ble_eq_true rfl, Nat.le_of_ble_eq_true rfl⟩ ⟨Nat.le_of_ble_eq_true rfl, Nat.le_of_ble_eq_true rfl⟩ hl.1 (Nat.le_of_ble_eq_true rfl) d_Ref_next_36 rfl (fun r_36 w1 H locs hp hB => ?_)
    obtain ⟨rfl, hw_36⟩ := hp
    have hB : wf_B D wcl (wf_A w s.heap.size) s.heap w H locs := wf_Bto hw_36 hB
    refine wf_beq (tgt := 52) hx hb d_Ref_next_39 (by decide) (fun c_39 => ?_) (fun c_39 => ?_)
    · refine lv_bipush (v := (-2)) hx hb d_Ref_next_52 (by decide) ?_
      refine ret_i X hB d_Ref_next_54 ?_
      exact ⟨rfl, rfl⟩
    · exact absurd ⟨by have := of_decide_eq_true c_23; omega, by have := of_decide_eq_true c_39; omega⟩ hbd
set_option maxHeartbeats 4000000 in
set_option maxRecDepth 100000 in
theorem c_Ref_endy {l : Launch} {D : va_G} {t : Nat → ClassId} {w : wf_W} {sz : Nat} {mo az an ae ac ato aps apt al aip alo alt aic arw aco act asp anu aor ann ald ahd acn ais aq acf acb aw k mn cz tz ca pz wy fi se ho lx ly ts tS cs av lz hz1 nl nh ce qd : Nat} {Sz En : Nat → Nat} {a v : Nat} (hMo : w mo = some (rfO k mn az an ae ac cz ato tz ca aps apt al aip pz wy fi se ho lx ly ts tS alo alt aic arw aco act asp cs anu aor ann av ald ahd lz hz1 nl nh acn ce ais aq acf acb qd aw)) (h_az : w az = some (.inl (t 0, 60, .inl (iA Sz)))) (h_ae : w ae = some (.inl (t 1, 60, .inr (.inl (lA En))))) (hmn : mn ≤ 60) (ha : a < mn) (hSa : 0 < Sz a ∧ Sz a ≤ 40) (hE40 : En a < 2 ^ 40) (hv : v < Sz a) : Mi l y_Ref_end b_Ref_end 3 (some .int) 2 46 0 0 D t w sz [.ref mo, .int (nI a), .int (nI v)] (fun r w' => r = (nI (if Nat.testBit (En a) v = true then 1 else 0)) ∧ w' = w) := by
  refine start_i (by decide) (Nat.le_of_ble_eq_true rfl) ?_
  intro p e s m below meth c ls H locs X hB hl
  have hx := X.1
  have hb := X.2.1
  have hl : lv_has ls 3 [(0, .ref mo), (1, .int (nI a)), (2, .int (nI v))] := hl
  refine lv_aload_n hx hb d_Ref_end_0 rfl (lv_at hl 0 rfl) ?_
  refine lv_iload_n hx hb d_Ref_end_1 rfl (lv_at hl 1 rfl) ?_
  refine callVi (As := [.int (nI a)]) (rest := []) X hB wf_hA (c_Ref_isy (l := l) (D := D) (t := t) (w := w) (sz := H.size) (mo := mo) (az := az) (an := an) (ae := ae) (ac := ac) (ato := ato) (aps := aps) (apt := apt) (al := al) (aip := aip) (alo := alo) (alt := alt) (aic := aic) (arw := arw) (aco := aco) (act := act) (asp := asp) (anu := anu) (aor := aor) (ann := ann) (ald := ald) (ahd := ahd) (acn := acn) (ais := ais) (aq := aq) (acf := acf) (acb := acb) (aw := aw) (k := k) (mn := mn) (cz := cz) (tz := tz) (ca := ca) (pz := pz) (wy := wy) (fi := fi) (se := se) (ho := ho) (lx := lx) (ly := ly) (ts := ts) (tS := tS) (cs := cs) (av := av) (lz := lz) (hz1 := hz1) (nl := nl) (nh := nh) (ce := ce) (qd := qd) (a := a) hMo (by exact hmn) (by exact ha)) k_1078 k_1080 k_42 k_75 k_1081 hMo cl_Ref rfl hd_Ref_is ⟨Nat.le_of_ble_eq_true rfl, Nat.le_of_ble_eq_true rfl⟩ ⟨Nat.le_of_ble_eq_true rfl, Nat.le_of_ble_eq_true rfl⟩ hl.1 (Nat.le_of_ble_eq_true rfl) d_Ref_end_2 rfl (fun r_2 w1 H locs hp hB => ?_)
  obtain ⟨rfl, hw_2⟩ := hp
  have hB : wf_B D wcl (wf_A w s.heap.size) s.heap w H locs := wf_Bto hw_2 hB
  refine wf_beq (tgt := 26) hx hb d_Ref_end_5 (by decide) (fun c9 => absurd c9 (by decide)) (fun _ => ?_)
  refine lv_iload_n hx hb d_Ref_end_8 rfl (lv_at hl 2 rfl) ?_
  refine lv_i2l (v := lN v) hx hb d_Ref_end_9 (nI_l (by omega)) ?_
  refine lv_lconst (v := lN 0) hx hb d_Ref_end_10 (by decide) ?_
  refine lv_aload_n hx hb d_Ref_end_11 rfl (lv_at hl 0 rfl) ?_
  refine rget X hB  i_Ref hMo cl_Ref 2 (by decide) k_876 rfl rfl d_Ref_end_12 ?_
  refine lv_iload_n hx hb d_Ref_end_15 rfl (lv_at hl 1 rfl) ?_
  refine riald X hB  h_az (i := a) (by omega) (by decide) d_Ref_end_16 ?_
  refine wf_ti (y := nI (Sz a)) rfl ?_
  refine lv_iconst (v := nI 1) hx hb d_Ref_end_17 (by decide) ?_
  refine wf_isub (x := Sz a) (y := 1) hx hb d_Ref_end_18 (by omega) ?_
  refine lv_i2l (v := lN ((Sz a) - 1)) hx hb d_Ref_end_19 (nI_l (by omega)) ?_
  refine callSi (As := [.long (lN v), .long (lN 0), .long (lN ((Sz a) - 1))]) (rest := []) X hB wf_hA (c_Ref_liesy (l := l) (D := D) (t := t) (w := w) (sz := H.size) (v1 := v) (l1 := 0) (h1 := (Sz a) - 1) (by omega)) k_1030 k_1031 k_75 k_1032 hd_Ref_lies ⟨Nat.le_of_ble_eq_true rfl, Nat.le_of_ble_eq_true rfl⟩ ⟨Nat.le_of_ble_eq_true rfl, Nat.le_of_ble_eq_true rfl⟩ hl.1 (Nat.le_of_ble_eq_true rfl) d_Ref_end_20 rfl (fun r_20 w1 H locs hp hB => ?_)
  obtain ⟨rfl, hw_20⟩ := hp
  have hB : wf_B D wcl (wf_A w s.heap.size) s.heap w H locs := wf_Bto hw_20 hB
  refine wf_bne (tgt := 31) hx hb d_Ref_end_23 (by decide) (fun _ => ?_) (fun c9 => absurd c9 (by decide))
  refine lv_aload_n hx hb d_Ref_end_31 rfl (lv_at hl 0 rfl) ?_
  refine lv_iload_n hx hb d_Ref_end_32 rfl (lv_at hl 1 rfl) ?_
  refine lv_iload_n hx hb d_Ref_end_33 rfl (lv_at hl 2 rfl) ?_
  refine callVi (As := [.int (nI a), .int (nI v)]) (rest := []) X hB wf_hA (c_Ref_isEnd (l := l) (D := D) (t := t) (w := w) (sz := H.size) (mo := mo) (az := az) (an := an) (ae := ae) (ac := ac) (ato := ato) (aps := aps) (apt := apt) (al := al) (aip := aip) (alo := alo) (alt := alt) (aic := aic) (arw := arw) (aco := aco) (act := act) (asp := asp) (anu := anu) (aor := aor) (ann := ann) (ald := ald) (ahd := ahd) (acn := acn) (ais := ais) (aq := aq) (acf := acf) (acb := acb) (aw := aw) (k := k) (mn := mn) (cz := cz) (tz := tz) (ca := ca) (pz := pz) (wy := wy) (fi := fi) (se := se) (ho := ho) (lx := lx) (ly := ly) (ts := ts) (tS := tS) (cs := cs) (av := av) (lz := lz) (hz1 := hz1) (nl := nl) (nh := nh) (ce := ce) (qd := qd) (En := En) (a := a) (u := v) hMo h_ae (by omega) (by omega) (by omega)) k_1136 k_1138 k_51 k_75 k_1139 hMo cl_Ref rfl hd_Ref_isEnd ⟨Nat.le_of_ble_eq_true rfl, Nat.le_of_ble_eq_true rfl⟩ ⟨Nat.le_of_ble_eq_true rfl, Nat.le_of_ble_eq_true rfl⟩ hl.1 (Nat.le_of_ble_eq_true rfl) d_Ref_end_34 rfl (fun r_34 w1 H locs hp hB => ?_)
  obtain ⟨rfl, hw_34⟩ := hp
  have hB : wf_B D wcl (wf_A w s.heap.size) s.heap w H locs := wf_Bto hw_34 hB
  refine wf_beq (tgt := 44) hx hb d_Ref_end_37 (by decide) (fun c_37 => ?_) (fun c_37 => ?_)
  · refine lv_iconst (v := nI 0) hx hb d_Ref_end_44 (by decide) ?_
    refine ret_i X hB d_Ref_end_45 ?_
    exact ⟨congrArg nI (Eq.symm (if_neg (by rw [c_37]; decide))), rfl⟩
  · refine lv_iconst (v := nI 1) hx hb d_Ref_end_40 (by decide) ?_
    refine lv_goto (tgt := 45) hx hb d_Ref_end_41 (by decide) ?_
    refine ret_i X hB d_Ref_end_45 ?_
    exact ⟨congrArg nI (Eq.symm (if_pos (by rw [c_37]))), rfl⟩
set_option maxHeartbeats 4000000 in
set_option maxRecDepth 100000 in
theorem c_Ref_endn {l : Launch} {D : va_G} {t : Nat → ClassId} {w : wf_W} {sz : Nat} {mo az an ae ac ato aps apt al aip alo alt aic arw aco act asp anu aor ann ald ahd acn ais aq acf acb aw k mn cz tz ca pz wy fi se ho lx ly ts tS cs av lz hz1 nl nh ce qd : Nat} {q v1 : Int32} (hMo : w mo = some (rfO k mn az an ae ac cz ato tz ca aps apt al aip pz wy fi se ho lx ly ts tS alo alt aic arw aco act asp cs anu aor ann av ald ahd lz hz1 nl nh acn ce ais aq acf acb qd aw)) (hmn : mn ≤ 60) (hbd : ¬ (0 ≤ q.toInt ∧ q.toInt < mn)) : Mi l y_Ref_end b_Ref_end 3 (some .int) 2 46 0 0 D t w sz [.ref mo, .int q, .int v1] (fun r w' => r = (-2) ∧ w' = w) := by
  refine start_i (by decide) (Nat.le_of_ble_eq_true rfl) ?_
  intro p e s m below meth c ls H locs X hB hl
  have hx := X.1
  have hb := X.2.1
  have hl : lv_has ls 3 [(0, .ref mo), (1, .int q), (2, .int v1)] := hl
  refine lv_aload_n hx hb d_Ref_end_0 rfl (lv_at hl 0 rfl) ?_
  refine lv_iload_n hx hb d_Ref_end_1 rfl (lv_at hl 1 rfl) ?_
  refine callVi (As := [.int q]) (rest := []) X hB wf_hA (c_Ref_is (l := l) (D := D) (t := t) (w := w) (sz := H.size) (mo := mo) (az := az) (an := an) (ae := ae) (ac := ac) (ato := ato) (aps := aps) (apt := apt) (al := al) (aip := aip) (alo := alo) (alt := alt) (aic := aic) (arw := arw) (aco := aco) (act := act) (asp := asp) (anu := anu) (aor := aor) (ann := ann) (ald := ald) (ahd := ahd) (acn := acn) (ais := ais) (aq := aq) (acf := acf) (acb := acb) (aw := aw) (k := k) (mn := mn) (cz := cz) (tz := tz) (ca := ca) (pz := pz) (wy := wy) (fi := fi) (se := se) (ho := ho) (lx := lx) (ly := ly) (ts := ts) (tS := tS) (cs := cs) (av := av) (lz := lz) (hz1 := hz1) (nl := nl) (nh := nh) (ce := ce) (qd := qd) (q := q) hMo (by exact hmn)) k_1078 k_1080 k_42 k_75 k_1081 hMo cl_Ref rfl hd_Ref_is ⟨Nat.le_of_ble_eq_true rfl, Nat.le_of_ble_eq_true rfl⟩ ⟨Nat.le_of_ble_eq_true rfl, Nat.le_of_ble_eq_true rfl⟩ hl.1 (Nat.le_of_ble_eq_true rfl) d_Ref_end_2 rfl (fun r_2 w1 H locs hp hB => ?_)
  obtain ⟨rfl, hw_2⟩ := hp
  have hB : wf_B D wcl (wf_A w s.heap.size) s.heap w H locs := wf_Bto hw_2 hB
  refine wf_beq (tgt := 26) hx hb d_Ref_end_5 (by decide) (fun c_5 => ?_) (fun c_5 => ?_)
  · refine lv_bipush (v := (-2)) hx hb d_Ref_end_26 (by decide) ?_
    refine lv_goto (tgt := 45) hx hb d_Ref_end_28 (by decide) ?_
    refine ret_i X hB d_Ref_end_45 ?_
    exact ⟨rfl, rfl⟩
  · exact absurd (of_decide_eq_true c_5) hbd
set_option maxHeartbeats 4000000 in
set_option maxRecDepth 100000 in
theorem c_Ref_endb {l : Launch} {D : va_G} {t : Nat → ClassId} {w : wf_W} {sz : Nat} {mo az an ae ac ato aps apt al aip alo alt aic arw aco act asp anu aor ann ald ahd acn ais aq acf acb aw k mn cz tz ca pz wy fi se ho lx ly ts tS cs av lz hz1 nl nh ce qd : Nat} {Sz : Nat → Nat} {a : Nat} {v1 : Int32} (hMo : w mo = some (rfO k mn az an ae ac cz ato tz ca aps apt al aip pz wy fi se ho lx ly ts tS alo alt aic arw aco act asp cs anu aor ann av ald ahd lz hz1 nl nh acn ce ais aq acf acb qd aw)) (h_az : w az = some (.inl (t 0, 60, .inl (iA Sz)))) (hmn : mn ≤ 60) (ha : a < mn) (hSa : 0 < Sz a ∧ Sz a ≤ 40) (hbd : ¬ (0 ≤ v1.toInt ∧ v1.toInt < Sz a)) : Mi l y_Ref_end b_Ref_end 3 (some .int) 2 46 0 0 D t w sz [.ref mo, .int (nI a), .int v1] (fun r w' => r = (-2) ∧ w' = w) := by
  refine start_i (by decide) (Nat.le_of_ble_eq_true rfl) ?_
  intro p e s m below meth c ls H locs X hB hl
  have hx := X.1
  have hb := X.2.1
  have hl : lv_has ls 3 [(0, .ref mo), (1, .int (nI a)), (2, .int v1)] := hl
  refine lv_aload_n hx hb d_Ref_end_0 rfl (lv_at hl 0 rfl) ?_
  refine lv_iload_n hx hb d_Ref_end_1 rfl (lv_at hl 1 rfl) ?_
  refine callVi (As := [.int (nI a)]) (rest := []) X hB wf_hA (c_Ref_isy (l := l) (D := D) (t := t) (w := w) (sz := H.size) (mo := mo) (az := az) (an := an) (ae := ae) (ac := ac) (ato := ato) (aps := aps) (apt := apt) (al := al) (aip := aip) (alo := alo) (alt := alt) (aic := aic) (arw := arw) (aco := aco) (act := act) (asp := asp) (anu := anu) (aor := aor) (ann := ann) (ald := ald) (ahd := ahd) (acn := acn) (ais := ais) (aq := aq) (acf := acf) (acb := acb) (aw := aw) (k := k) (mn := mn) (cz := cz) (tz := tz) (ca := ca) (pz := pz) (wy := wy) (fi := fi) (se := se) (ho := ho) (lx := lx) (ly := ly) (ts := ts) (tS := tS) (cs := cs) (av := av) (lz := lz) (hz1 := hz1) (nl := nl) (nh := nh) (ce := ce) (qd := qd) (a := a) hMo (by exact hmn) (by exact ha)) k_1078 k_1080 k_42 k_75 k_1081 hMo cl_Ref rfl hd_Ref_is ⟨Nat.le_of_ble_eq_true rfl, Nat.le_of_ble_eq_true rfl⟩ ⟨Nat.le_of_ble_eq_true rfl, Nat.le_of_ble_eq_true rfl⟩ hl.1 (Nat.le_of_ble_eq_true rfl) d_Ref_end_2 rfl (fun r_2 w1 H locs hp hB => ?_)
  obtain ⟨rfl, hw_2⟩ := hp
  have hB : wf_B D wcl (wf_A w s.heap.size) s.heap w H locs := wf_Bto hw_2 hB
  refine wf_beq (tgt := 26) hx hb d_Ref_end_5 (by decide) (fun c9 => absurd c9 (by decide)) (fun _ => ?_)
  refine lv_iload_n hx hb d_Ref_end_8 rfl (lv_at hl 2 rfl) ?_
  refine lv_i2l hx hb d_Ref_end_9 rfl ?_
  refine lv_lconst (v := lN 0) hx hb d_Ref_end_10 (by decide) ?_
  refine lv_aload_n hx hb d_Ref_end_11 rfl (lv_at hl 0 rfl) ?_
  refine rget X hB  i_Ref hMo cl_Ref 2 (by decide) k_876 rfl rfl d_Ref_end_12 ?_
  refine lv_iload_n hx hb d_Ref_end_15 rfl (lv_at hl 1 rfl) ?_
  refine riald X hB  h_az (i := a) (by omega) (by decide) d_Ref_end_16 ?_
  refine wf_ti (y := nI (Sz a)) rfl ?_
  refine lv_iconst (v := nI 1) hx hb d_Ref_end_17 (by decide) ?_
  refine wf_isub (x := Sz a) (y := 1) hx hb d_Ref_end_18 (by omega) ?_
  refine lv_i2l (v := lN ((Sz a) - 1)) hx hb d_Ref_end_19 (nI_l (by omega)) ?_
  refine callSi (As := [.long (Int32.toInt64 v1), .long (lN 0), .long (lN ((Sz a) - 1))]) (rest := []) X hB wf_hA (c_Ref_liesq (l := l) (D := D) (t := t) (w := w) (sz := H.size) (q1 := v1) (l1 := 0) (h1 := (Sz a) - 1) (by omega)) k_1030 k_1031 k_75 k_1032 hd_Ref_lies ⟨Nat.le_of_ble_eq_true rfl, Nat.le_of_ble_eq_true rfl⟩ ⟨Nat.le_of_ble_eq_true rfl, Nat.le_of_ble_eq_true rfl⟩ hl.1 (Nat.le_of_ble_eq_true rfl) d_Ref_end_20 rfl (fun r_20 w1 H locs hp hB => ?_)
  obtain ⟨rfl, hw_20⟩ := hp
  have hB : wf_B D wcl (wf_A w s.heap.size) s.heap w H locs := wf_Bto hw_20 hB
  refine wf_bne (tgt := 31) hx hb d_Ref_end_23 (by decide) (fun c_23 => ?_) (fun c_23 => ?_)
  · exact absurd (of_decide_eq_true c_23) (by omega)
  · refine lv_bipush (v := (-2)) hx hb d_Ref_end_26 (by decide) ?_
    refine lv_goto (tgt := 45) hx hb d_Ref_end_28 (by decide) ?_
    refine ret_i X hB d_Ref_end_45 ?_
    exact ⟨rfl, rfl⟩
set_option maxHeartbeats 4000000 in
set_option maxRecDepth 100000 in
theorem c_Ref_hasy_L15 {l : Launch} {D : va_G} {t : Nat → ClassId} {w : wf_W} {mo az an ae ac ato aps apt al aip alo alt aic arw aco act asp anu aor ann ald ahd acn ais aq acf acb aw k mn cz tz ca pz wy fi se ho lx ly ts tS cs av lz hz1 nl nh ce qd : Nat} {Sz Nx En cl : Nat → Nat} {a : Nat}  {p : Program} {e : Env} {s : State} {m : MethodId} {below : List Frame} {meth : Method} {c : Code} {Q : State → Prop} (X : Cx p s m meth c R_Ref "has" b_Ref_has 4 (some .int) D t) (hMo : w mo = some (rfO k mn az an ae ac cz ato tz ca aps apt al aip pz wy fi se ho lx ly ts tS alo alt aic arw aco act asp cs anu aor ann av ald ahd lz hz1 nl nh acn ce ais aq acf acb qd aw)) (h_an : w an = some (.inl (t 0, 9600, .inl (iA Nx)))) (h_ae : w ae = some (.inl (t 1, 60, .inr (.inl (lA En))))) (h_ac : w ac = some (.inl (t 0, 100, .inl (iA cl)))) (hmn : mn ≤ 60) (ha : a < mn) (hm : rOK k (Sz a) (En a) (nxt Nx a)) (hcz : cz ≤ 100) (hck : ∀ i, i < cz → cl i < k)
    (K_42 : ∀ (i : Nat), (i ≤ cz) → (i = cz) → ∀ (H : Heap) (locs : List Loc) (ls : Array Slot), lv_has ls 4 [(0, .ref mo), (1, .int (nI a)), (2, .int (nI (wlk (stp k (Sz a) (nxt Nx a)) cl i))), (3, .int (nI i))] → wf_B D wcl (wf_A w s.heap.size) s.heap w H locs → W p l e (rmk 2 46 0 0) s m [.ref mo, .int (nI a)].toArray below meth c H locs 0 0 Q (F0 m 42 ls [])) :
    ∀ (fu : Nat) (i : Nat), (i ≤ cz) → cz - i < fu → ∀ (H : Heap) (locs : List Loc) (ls : Array Slot), lv_has ls 4 [(0, .ref mo), (1, .int (nI a)), (2, .int (nI (wlk (stp k (Sz a) (nxt Nx a)) cl i))), (3, .int (nI i))] → wf_B D wcl (wf_A w s.heap.size) s.heap w H locs → W p l e (rmk 2 46 0 0) s m [.ref mo, .int (nI a)].toArray below meth c H locs 0 0 Q (F0 m 15 ls []) := by
  have hx := X.1
  have hb := X.2.1
  intro fu
  induction fu with
  | zero => intro i hi hfu; exact absurd hfu (Nat.not_lt_zero _)
  | succ fu ih =>
    intro i hi hfu H locs ls hl hB
    have hM := rOK_m hm
    have hk := hm.1
    have hn := hm.2.1
    have hn0 := hm.2.2.1
    have hE := hm.E40
    have hw9 := wlk_lt hM cl i
    refine lv_iload_n hx hb d_Ref_has_15 rfl (lv_at hl 3 rfl) ?_
    refine lv_aload_n hx hb d_Ref_has_16 rfl (lv_at hl 0 rfl) ?_
    refine rget X hB  i_Ref hMo cl_Ref 6 (by decide) k_880 rfl rfl d_Ref_has_17 ?_
    refine wf_cge (tgt := 42) hx hb d_Ref_has_20 (by decide) (nI_toInt (by omega)) (nI_toInt (by omega)) (fun c_20 => ?_) (fun c_20 => ?_)
    · exact K_42 i hi (by omega) H locs ls (lv_sub hl [0, 1, 2, 3] rfl) hB
    · refine lv_aload_n hx hb d_Ref_has_23 rfl (lv_at hl 0 rfl) ?_
      refine lv_iload_n hx hb d_Ref_has_24 rfl (lv_at hl 1 rfl) ?_
      refine lv_iload_n hx hb d_Ref_has_25 rfl (lv_at hl 2 rfl) ?_
      refine lv_aload_n hx hb d_Ref_has_26 rfl (lv_at hl 0 rfl) ?_
      refine rget X hB  i_Ref hMo cl_Ref 5 (by decide) k_879 rfl rfl d_Ref_has_27 ?_
      refine lv_iload_n hx hb d_Ref_has_30 rfl (lv_at hl 3 rfl) ?_
      refine riald X hB  h_ac (i := i) (by omega) (by decide) d_Ref_has_31 ?_
      refine wf_ti (y := nI (cl i)) rfl ?_
      refine callVi (As := [.int (nI a), .int (nI (wlk (stp k (Sz a) (nxt Nx a)) cl i)), .int (nI (cl i))]) (rest := []) X hB wf_hA (c_Ref_nextOf (l := l) (D := D) (t := t) (w := w) (sz := H.size) (mo := mo) (az := az) (an := an) (ae := ae) (ac := ac) (ato := ato) (aps := aps) (apt := apt) (al := al) (aip := aip) (alo := alo) (alt := alt) (aic := aic) (arw := arw) (aco := aco) (act := act) (asp := asp) (anu := anu) (aor := aor) (ann := ann) (ald := ald) (ahd := ahd) (acn := acn) (ais := ais) (aq := aq) (acf := acf) (acb := acb) (aw := aw) (k := k) (mn := mn) (cz := cz) (tz := tz) (ca := ca) (pz := pz) (wy := wy) (fi := fi) (se := se) (ho := ho) (lx := lx) (ly := ly) (ts := ts) (tS := tS) (cs := cs) (av := av) (lz := lz) (hz1 := hz1) (nl := nl) (nh := nh) (ce := ce) (qd := qd) (Nx := Nx) (a := a) (u := wlk (stp k (Sz a) (nxt Nx a)) cl i) (b := cl i) hMo h_an (by omega) (by omega) (by have := hck i (by omega); omega)) k_1070 k_1072 k_41 k_75 k_1073 hMo cl_Ref rfl hd_Ref_nextOf ⟨Nat.le_of_ble_eq_true rfl, Nat.le_of_ble_eq_true rfl⟩ ⟨Nat.le_of_ble_eq_true rfl, Nat.le_of_ble_eq_true rfl⟩ hl.1 (Nat.le_of_ble_eq_true rfl) d_Ref_has_32 rfl (fun r_32 w1 H locs hp hB => ?_)
      obtain ⟨rfl, hw_32⟩ := hp
      have hB : wf_B D wcl (wf_A w s.heap.size) s.heap w H locs := wf_Bto hw_32 hB
      refine wf_ti (y := nI (wlk (stp k (Sz a) (nxt Nx a)) cl (i + 1))) (by rw [wlk, stp_in hw9 (hck i (by omega))]) ?_
      refine lv_istore_n (lv' := [(2, .int (nI (wlk (stp k (Sz a) (nxt Nx a)) cl (i + 1)))), (0, .ref mo), (1, .int (nI a)), (3, .int (nI i))]) hx hb d_Ref_has_35 rfl hl (by decide) rfl (fun ls hl => ?_)
      refine lv_iinc (v := nI (i + 1)) (lv' := [(3, .int (nI (i + 1))), (2, .int (nI (wlk (stp k (Sz a) (nxt Nx a)) cl (i + 1)))), (0, .ref mo), (1, .int (nI a))]) hx hb d_Ref_has_36 hl (k := 3) rfl (show nI i + nI 1 = nI (i + 1) from nI_add _ _) (by decide) rfl (fun ls hl => ?_)
      refine lv_goto (tgt := 15) hx hb d_Ref_has_39 (by decide) ?_
      exact ih (i + 1) (by omega) (by omega) H locs ls (lv_sub hl [2, 3, 1, 0] rfl) hB
set_option maxHeartbeats 4000000 in
set_option maxRecDepth 100000 in
theorem c_Ref_hasy {l : Launch} {D : va_G} {t : Nat → ClassId} {w : wf_W} {sz : Nat} {mo az an ae ac ato aps apt al aip alo alt aic arw aco act asp anu aor ann ald ahd acn ais aq acf acb aw k mn cz tz ca pz wy fi se ho lx ly ts tS cs av lz hz1 nl nh ce qd : Nat} {Sz Nx En cl : Nat → Nat} {a : Nat} (hMo : w mo = some (rfO k mn az an ae ac cz ato tz ca aps apt al aip pz wy fi se ho lx ly ts tS alo alt aic arw aco act asp cs anu aor ann av ald ahd lz hz1 nl nh acn ce ais aq acf acb qd aw)) (h_an : w an = some (.inl (t 0, 9600, .inl (iA Nx)))) (h_ae : w ae = some (.inl (t 1, 60, .inr (.inl (lA En))))) (h_ac : w ac = some (.inl (t 0, 100, .inl (iA cl)))) (hmn : mn ≤ 60) (ha : a < mn) (hm : rOK k (Sz a) (En a) (nxt Nx a)) (hcz : cz ≤ 100) (hck : ∀ i, i < cz → cl i < k) : Mi l y_Ref_has b_Ref_has 4 (some .int) 2 46 0 0 D t w sz [.ref mo, .int (nI a)] (fun r w' => r = (nI (if Nat.testBit (En a) (wlk (stp k (Sz a) (nxt Nx a)) cl cz) = true then 1 else 0)) ∧ w' = w) := by
  refine start_i (by decide) (Nat.le_of_ble_eq_true rfl) ?_
  intro p e s m below meth c ls H locs X hB hl
  have hx := X.1
  have hb := X.2.1
  have hl : lv_has ls 4 [(0, .ref mo), (1, .int (nI a))] := hl
  have hM := rOK_m hm
  have hk := hm.1
  have hn := hm.2.1
  have hn0 := hm.2.2.1
  have hE := hm.E40
  refine lv_aload_n hx hb d_Ref_has_0 rfl (lv_at hl 0 rfl) ?_
  refine lv_iload_n hx hb d_Ref_has_1 rfl (lv_at hl 1 rfl) ?_
  refine callVi (As := [.int (nI a)]) (rest := []) X hB wf_hA (c_Ref_isy (l := l) (D := D) (t := t) (w := w) (sz := H.size) (mo := mo) (az := az) (an := an) (ae := ae) (ac := ac) (ato := ato) (aps := aps) (apt := apt) (al := al) (aip := aip) (alo := alo) (alt := alt) (aic := aic) (arw := arw) (aco := aco) (act := act) (asp := asp) (anu := anu) (aor := aor) (ann := ann) (ald := ald) (ahd := ahd) (acn := acn) (ais := ais) (aq := aq) (acf := acf) (acb := acb) (aw := aw) (k := k) (mn := mn) (cz := cz) (tz := tz) (ca := ca) (pz := pz) (wy := wy) (fi := fi) (se := se) (ho := ho) (lx := lx) (ly := ly) (ts := ts) (tS := tS) (cs := cs) (av := av) (lz := lz) (hz1 := hz1) (nl := nl) (nh := nh) (ce := ce) (qd := qd) (a := a) hMo (by exact hmn) (by exact ha)) k_1078 k_1080 k_42 k_75 k_1081 hMo cl_Ref rfl hd_Ref_is ⟨Nat.le_of_ble_eq_true rfl, Nat.le_of_ble_eq_true rfl⟩ ⟨Nat.le_of_ble_eq_true rfl, Nat.le_of_ble_eq_true rfl⟩ hl.1 (Nat.le_of_ble_eq_true rfl) d_Ref_has_2 rfl (fun r_2 w1 H locs hp hB => ?_)
  obtain ⟨rfl, hw_2⟩ := hp
  have hB : wf_B D wcl (wf_A w s.heap.size) s.heap w H locs := wf_Bto hw_2 hB
  refine wf_bne (tgt := 11) hx hb d_Ref_has_5 (by decide) (fun _ => ?_) (fun c9 => absurd c9 (by decide))
  refine lv_iconst (v := nI 0) hx hb d_Ref_has_11 (by decide) ?_
  refine lv_istore_n (lv' := [(2, .int (nI 0)), (0, .ref mo), (1, .int (nI a))]) hx hb d_Ref_has_12 rfl hl (by decide) rfl (fun ls hl => ?_)
  refine lv_iconst (v := nI 0) hx hb d_Ref_has_13 (by decide) ?_
  refine lv_istore_n (lv' := [(3, .int (nI 0)), (2, .int (nI 0)), (0, .ref mo), (1, .int (nI a))]) hx hb d_Ref_has_14 rfl hl (by decide) rfl (fun ls hl => ?_)
  refine c_Ref_hasy_L15 (l := l) X hMo h_an h_ae h_ac hmn ha hm hcz hck (fun i hi he H locs ls hl hB => ?_) (cz - 0 + 1) 0 (by omega) (by omega) H locs ls (lv_sub hl [2, 3, 1, 0] rfl) hB
  have hl : lv_has ls 4 [(0, .ref mo), (1, .int (nI a)), (2, .int (nI (wlk (stp k (Sz a) (nxt Nx a)) cl cz))), (3, .int (nI i))] := by rw [he] at hl ⊢; exact hl
  refine lv_aload_n hx hb d_Ref_has_42 rfl (lv_at hl 0 rfl) ?_
  refine lv_iload_n hx hb d_Ref_has_43 rfl (lv_at hl 1 rfl) ?_
  refine lv_iload_n hx hb d_Ref_has_44 rfl (lv_at hl 2 rfl) ?_
  refine callVi (As := [.int (nI a), .int (nI (wlk (stp k (Sz a) (nxt Nx a)) cl cz))]) (rest := []) X hB wf_hA (c_Ref_isEnd (l := l) (D := D) (t := t) (w := w) (sz := H.size) (mo := mo) (az := az) (an := an) (ae := ae) (ac := ac) (ato := ato) (aps := aps) (apt := apt) (al := al) (aip := aip) (alo := alo) (alt := alt) (aic := aic) (arw := arw) (aco := aco) (act := act) (asp := asp) (anu := anu) (aor := aor) (ann := ann) (ald := ald) (ahd := ahd) (acn := acn) (ais := ais) (aq := aq) (acf := acf) (acb := acb) (aw := aw) (k := k) (mn := mn) (cz := cz) (tz := tz) (ca := ca) (pz := pz) (wy := wy) (fi := fi) (se := se) (ho := ho) (lx := lx) (ly := ly) (ts := ts) (tS := tS) (cs := cs) (av := av) (lz := lz) (hz1 := hz1) (nl := nl) (nh := nh) (ce := ce) (qd := qd) (En := En) (a := a) (u := wlk (stp k (Sz a) (nxt Nx a)) cl cz) hMo h_ae (by omega) (by have := wlk_lt hM cl cz; omega) (by omega)) k_1136 k_1138 k_51 k_75 k_1139 hMo cl_Ref rfl hd_Ref_isEnd ⟨Nat.le_of_ble_eq_true rfl, Nat.le_of_ble_eq_true rfl⟩ ⟨Nat.le_of_ble_eq_true rfl, Nat.le_of_ble_eq_true rfl⟩ hl.1 (Nat.le_of_ble_eq_true rfl) d_Ref_has_45 rfl (fun r_45 w1 H locs hp hB => ?_)
  obtain ⟨rfl, hw_45⟩ := hp
  have hB : wf_B D wcl (wf_A w s.heap.size) s.heap w H locs := wf_Bto hw_45 hB
  refine wf_beq (tgt := 55) hx hb d_Ref_has_48 (by decide) (fun c_48 => ?_) (fun c_48 => ?_)
  · refine lv_iconst (v := nI 0) hx hb d_Ref_has_55 (by decide) ?_
    refine ret_i X hB d_Ref_has_56 ?_
    exact ⟨congrArg nI (Eq.symm (if_neg (by rw [c_48]; decide))), rfl⟩
  · refine lv_iconst (v := nI 1) hx hb d_Ref_has_51 (by decide) ?_
    refine lv_goto (tgt := 56) hx hb d_Ref_has_52 (by decide) ?_
    refine ret_i X hB d_Ref_has_56 ?_
    exact ⟨congrArg nI (Eq.symm (if_pos (by rw [c_48]))), rfl⟩
set_option maxHeartbeats 4000000 in
set_option maxRecDepth 100000 in
theorem c_Ref_longesty_L23 {l : Launch} {D : va_G} {t : Nat → ClassId} {w : wf_W} {mo az an ae ac ato aps apt al aip alo alt aic arw aco act asp anu aor ann ald ahd acn ais aq acf acb aw k mn cz tz ca pz wy fi se ho lx ly ts tS cs av lz hz1 nl nh ce qd : Nat} {Sz Nx En : Nat → Nat} {a : Nat}  {p : Program} {e : Env} {s : State} {m : MethodId} {below : List Frame} {meth : Method} {c : Code} (X : Cx p s m meth c R_Ref "longest" b_Ref_longest 6 (some .int) D t) (hMo : w mo = some (rfO k mn az an ae ac cz ato tz ca aps apt al aip pz wy fi se ho lx ly ts tS alo alt aic arw aco act asp cs anu aor ann av ald ahd lz hz1 nl nh acn ce ais aq acf acb qd aw)) (h_az : w az = some (.inl (t 0, 60, .inl (iA Sz)))) (h_an : w an = some (.inl (t 0, 9600, .inl (iA Nx)))) (h_ae : w ae = some (.inl (t 1, 60, .inr (.inl (lA En))))) (hmn : mn ≤ 60) (ha : a < mn) (hm : rOK k (Sz a) (En a) (nxt Nx a))
    (K_85 : ∀ (i : Nat) (ms : Int32), (i ≤ 2 * Sz a) → ((ms = -1 ∧ ∀ j, j < i → ¬ (Nat.testBit (ahn k (Sz a) (En a) (nxt Nx a) j) 0 = true)) ∨ ∃ j0, j0 < Sz a ∧ j0 < i ∧ ms = nI j0 ∧ (Nat.testBit (ahn k (Sz a) (En a) (nxt Nx a) j0) 0 = true) ∧ ∀ j, j0 < j → j < i → ¬ (Nat.testBit (ahn k (Sz a) (En a) (nxt Nx a) j) 0 = true)) → (i = 2 * Sz a) → ∀ (H : Heap) (locs : List Loc) (ls : Array Slot), lv_has ls 6 [(0, .ref mo), (1, .int (nI a)), (2, .int ms), (3, .long (lN (ahn k (Sz a) (En a) (nxt Nx a) i))), (5, .int (nI i))] → wf_B D wcl (wf_A w s.heap.size) s.heap w H locs → W p l e (rmk 2 50 0 0) s m [.ref mo, .int (nI a)].toArray below meth c H locs 0 0 (MQ below (wf_Qi D wcl w (fun r w' => (∃ j0 : Nat, (Sz a ≤ j0 ∧ j0 < 2 * Sz a ∧ (Nat.testBit (ahn k (Sz a) (En a) (nxt Nx a) j0) 0 = true)) ∧ r = (-5) ∧ w' = w) ∨ ((∀ j, j < 2 * Sz a → ¬ (Nat.testBit (ahn k (Sz a) (En a) (nxt Nx a) j) 0 = true)) ∧ r = (-1) ∧ w' = w) ∨ (∃ j0 : Nat, (j0 < Sz a ∧ (Nat.testBit (ahn k (Sz a) (En a) (nxt Nx a) j0) 0 = true) ∧ ∀ j, j0 < j → j < 2 * Sz a → ¬ (Nat.testBit (ahn k (Sz a) (En a) (nxt Nx a) j) 0 = true)) ∧ r = (nI j0) ∧ w' = w)) s.heap.size) [.ref mo, .int (nI a)].toArray s 0 0 (wf_A w s.heap.size)) (F0 m 85 ls [])) :
    ∀ (fu : Nat) (i : Nat) (ms : Int32), (i ≤ 2 * Sz a) → ((ms = -1 ∧ ∀ j, j < i → ¬ (Nat.testBit (ahn k (Sz a) (En a) (nxt Nx a) j) 0 = true)) ∨ ∃ j0, j0 < Sz a ∧ j0 < i ∧ ms = nI j0 ∧ (Nat.testBit (ahn k (Sz a) (En a) (nxt Nx a) j0) 0 = true) ∧ ∀ j, j0 < j → j < i → ¬ (Nat.testBit (ahn k (Sz a) (En a) (nxt Nx a) j) 0 = true)) → 2 * Sz a - i < fu → ∀ (H : Heap) (locs : List Loc) (ls : Array Slot), lv_has ls 6 [(0, .ref mo), (1, .int (nI a)), (2, .int ms), (3, .long (lN (ahn k (Sz a) (En a) (nxt Nx a) i))), (5, .int (nI i))] → wf_B D wcl (wf_A w s.heap.size) s.heap w H locs → W p l e (rmk 2 50 0 0) s m [.ref mo, .int (nI a)].toArray below meth c H locs 0 0 (MQ below (wf_Qi D wcl w (fun r w' => (∃ j0 : Nat, (Sz a ≤ j0 ∧ j0 < 2 * Sz a ∧ (Nat.testBit (ahn k (Sz a) (En a) (nxt Nx a) j0) 0 = true)) ∧ r = (-5) ∧ w' = w) ∨ ((∀ j, j < 2 * Sz a → ¬ (Nat.testBit (ahn k (Sz a) (En a) (nxt Nx a) j) 0 = true)) ∧ r = (-1) ∧ w' = w) ∨ (∃ j0 : Nat, (j0 < Sz a ∧ (Nat.testBit (ahn k (Sz a) (En a) (nxt Nx a) j0) 0 = true) ∧ ∀ j, j0 < j → j < 2 * Sz a → ¬ (Nat.testBit (ahn k (Sz a) (En a) (nxt Nx a) j) 0 = true)) ∧ r = (nI j0) ∧ w' = w)) s.heap.size) [.ref mo, .int (nI a)].toArray s 0 0 (wf_A w s.heap.size)) (F0 m 23 ls []) := by
  have hx := X.1
  have hb := X.2.1
  intro fu
  induction fu with
  | zero => intro i ms hi hms hfu; exact absurd hfu (Nat.not_lt_zero _)
  | succ fu ih =>
    intro i ms hi hms hfu H locs ls hl hB
    have hM := rOK_m hm
    have hk := hm.1
    have hn := hm.2.1
    have hn0 := hm.2.2.1
    have hE := hm.E40
    have hh9 := ahn_lt hm i
    have hb9 : (ahn k (Sz a) (En a) (nxt Nx a) i &&& 1) = (Nat.testBit (ahn k (Sz a) (En a) (nxt Nx a) i) 0).toNat := (by have := bit_nat (ahn k (Sz a) (En a) (nxt Nx a) i) 0; rw [Nat.pow_zero, Nat.div_one] at this; exact this)
    refine lv_iload hx hb d_Ref_longest_23 (lv_at hl 4 rfl) ?_
    refine lv_iconst (v := nI 2) hx hb d_Ref_longest_25 (by decide) ?_
    refine lv_aload_n hx hb d_Ref_longest_26 rfl (lv_at hl 0 rfl) ?_
    refine rget X hB  i_Ref hMo cl_Ref 2 (by decide) k_876 rfl rfl d_Ref_longest_27 ?_
    refine lv_iload_n hx hb d_Ref_longest_30 rfl (lv_at hl 1 rfl) ?_
    refine riald X hB  h_az (i := a) (by omega) (by decide) d_Ref_longest_31 ?_
    refine wf_ti (y := nI (Sz a)) rfl ?_
    refine wf_imul (x := 2) (y := Sz a) hx hb d_Ref_longest_32 ?_
    refine wf_cge (tgt := 85) hx hb d_Ref_longest_33 (by decide) (nI_toInt (by omega)) (nI_toInt (by omega)) (fun c_33 => ?_) (fun c_33 => ?_)
    · exact K_85 i ms hi hms (by omega) H locs ls (lv_sub hl [0, 1, 2, 3, 4] rfl) hB
    · refine lv_lload_n hx hb d_Ref_longest_36 rfl (lv_at hl 3 rfl) ?_
      refine lv_lconst (v := lN 1) hx hb d_Ref_longest_37 (by decide) ?_
      refine lv_land hx hb d_Ref_longest_38 ?_
      refine wf_tl (y := lN ((ahn k (Sz a) (En a) (nxt Nx a) i) &&& 1)) (wb_and (by omega) (by decide)) ?_
      refine wf_tl (y := lN ((Nat.testBit (ahn k (Sz a) (En a) (nxt Nx a) i) 0).toNat)) (by rw [hb9]) ?_
      refine lv_lconst (v := lN 1) hx hb d_Ref_longest_39 (by decide) ?_
      refine W.lcmp hx hb d_Ref_longest_40 ?_
      refine wf_lne (tgt := 63) hx hb d_Ref_longest_41 (by decide) (pk_lT (by cases Nat.testBit (ahn k (Sz a) (En a) (nxt Nx a) i) 0 <;> decide)) (pk_lT (by decide)) (fun c_41 => ?_) (fun c_41 => ?_)
      · have hbt : ¬ (Nat.testBit (ahn k (Sz a) (En a) (nxt Nx a) i) 0 = true) := (fun q9 => by rw [q9] at c_41; exact c_41 rfl)
        refine lv_iload_n hx hb d_Ref_longest_63 rfl (lv_at hl 2 rfl) ?_
        refine lv_bipush (v := (-5)) hx hb d_Ref_longest_64 (by decide) ?_
        refine wf_cne (tgt := 72) hx hb d_Ref_longest_66 (by decide) rfl (show _ = (-5 : Int) from by decide) (fun c_66 => ?_) (fun c_66 => ?_)
        · refine lv_aload_n hx hb d_Ref_longest_72 rfl (lv_at hl 0 rfl) ?_
          refine lv_iload_n hx hb d_Ref_longest_73 rfl (lv_at hl 1 rfl) ?_
          refine lv_lload_n hx hb d_Ref_longest_74 rfl (lv_at hl 3 rfl) ?_
          refine callVl (As := [.int (nI a), .long (lN (ahn k (Sz a) (En a) (nxt Nx a) i))]) (rest := []) X hB wf_hA (c_Ref_ahead (l := l) (D := D) (t := t) (w := w) (sz := H.size) (mo := mo) (az := az) (an := an) (ae := ae) (ac := ac) (ato := ato) (aps := aps) (apt := apt) (al := al) (aip := aip) (alo := alo) (alt := alt) (aic := aic) (arw := arw) (aco := aco) (act := act) (asp := asp) (anu := anu) (aor := aor) (ann := ann) (ald := ald) (ahd := ahd) (acn := acn) (ais := ais) (aq := aq) (acf := acf) (acb := acb) (aw := aw) (k := k) (mn := mn) (cz := cz) (tz := tz) (ca := ca) (pz := pz) (wy := wy) (fi := fi) (se := se) (ho := ho) (lx := lx) (ly := ly) (ts := ts) (tS := tS) (cs := cs) (av := av) (lz := lz) (hz1 := hz1) (nl := nl) (nh := nh) (ce := ce) (qd := qd) (Sz := Sz) (Nx := Nx) (En := En) (a := a) (S := ahn k (Sz a) (En a) (nxt Nx a) i) hMo h_az h_an (by exact hm) (by omega) (by omega)) k_1092 k_1094 k_44 k_75 k_1095 hMo cl_Ref rfl hd_Ref_ahead ⟨Nat.le_of_ble_eq_true rfl, Nat.le_of_ble_eq_true rfl⟩ ⟨Nat.le_of_ble_eq_true rfl, Nat.le_of_ble_eq_true rfl⟩ hl.1 (Nat.le_of_ble_eq_true rfl) d_Ref_longest_75 rfl (fun r_75 w1 H locs hp hB => ?_)
          obtain ⟨rfl, hw_75⟩ := hp
          have hB : wf_B D wcl (wf_A w s.heap.size) s.heap w H locs := wf_Bto hw_75 hB
          refine wf_tl (y := lN (ahn k (Sz a) (En a) (nxt Nx a) (i + 1))) (by rfl) ?_
          refine lv_lstore_n (lv' := [(3, .long (lN (ahn k (Sz a) (En a) (nxt Nx a) (i + 1)))), (0, .ref mo), (1, .int (nI a)), (2, .int ms), (5, .int (nI i))]) hx hb d_Ref_longest_78 rfl hl (by decide) rfl (fun ls hl => ?_)
          refine lv_iinc (v := nI (i + 1)) (lv' := [(5, .int (nI (i + 1))), (3, .long (lN (ahn k (Sz a) (En a) (nxt Nx a) (i + 1)))), (0, .ref mo), (1, .int (nI a)), (2, .int ms)]) hx hb d_Ref_longest_79 hl (k := 4) rfl (show nI i + nI 1 = nI (i + 1) from nI_add _ _) (by decide) rfl (fun ls hl => ?_)
          refine lv_goto (tgt := 23) hx hb d_Ref_longest_82 (by decide) ?_
          exact ih (i + 1) ms (by omega) (by first | exact Or.inr ⟨i, by omega, by omega, rfl, hbt, fun j h9 h8 => by omega⟩ | (rcases hms with ⟨h9, h8⟩ | ⟨j9, h8, h7, h9, h6, h5⟩; (exact Or.inl ⟨h9, fun j h4 => by by_cases e9 : j = i; (rw [e9]; exact hbt); exact h8 j (by omega)⟩); exact Or.inr ⟨j9, h8, by omega, h9, h6, fun j h4 h3 => by by_cases e9 : j = i; (rw [e9]; exact hbt); exact h5 j h4 (by omega)⟩)) (by omega) H locs ls (lv_sub hl [2, 3, 4, 1, 0] rfl) hB
        · refine lv_bipush (v := (-5)) hx hb d_Ref_longest_69 (by decide) ?_
          refine ret_i X hB d_Ref_longest_71 ?_
          first | exact Or.inl ⟨i, ⟨by omega, by omega, hbt⟩, rfl, rfl⟩ | (exfalso; rcases hms with ⟨h9, _⟩ | ⟨j9, h8, h7, h9, _⟩; (rw [h9] at c_66; exact absurd c_66 (by decide)); (rw [h9, nI_toInt (by omega)] at c_66; omega))
      · have hbt : (Nat.testBit (ahn k (Sz a) (En a) (nxt Nx a) i) 0 = true) := (by cases q9 : Nat.testBit (ahn k (Sz a) (En a) (nxt Nx a) i) 0; (rw [q9] at c_41; exact absurd c_41 (by decide)); rfl)
        refine lv_iload hx hb d_Ref_longest_44 (lv_at hl 4 rfl) ?_
        refine lv_aload_n hx hb d_Ref_longest_46 rfl (lv_at hl 0 rfl) ?_
        refine rget X hB  i_Ref hMo cl_Ref 2 (by decide) k_876 rfl rfl d_Ref_longest_47 ?_
        refine lv_iload_n hx hb d_Ref_longest_50 rfl (lv_at hl 1 rfl) ?_
        refine riald X hB  h_az (i := a) (by omega) (by decide) d_Ref_longest_51 ?_
        refine wf_ti (y := nI (Sz a)) rfl ?_
        refine wf_cge (tgt := 60) hx hb d_Ref_longest_52 (by decide) (nI_toInt (by omega)) (nI_toInt (by omega)) (fun c_52 => ?_) (fun c_52 => ?_)
        · refine lv_bipush (v := (-5)) hx hb d_Ref_longest_60 (by decide) ?_
          refine lv_istore_n (lv' := [(2, .int (-5)), (0, .ref mo), (1, .int (nI a)), (3, .long (lN (ahn k (Sz a) (En a) (nxt Nx a) i))), (5, .int (nI i))]) hx hb d_Ref_longest_62 rfl hl (by decide) rfl (fun ls hl => ?_)
          refine lv_iload_n hx hb d_Ref_longest_63 rfl (lv_at hl 0 rfl) ?_
          refine lv_bipush (v := (-5)) hx hb d_Ref_longest_64 (by decide) ?_
          refine wf_cne (tgt := 72) hx hb d_Ref_longest_66 (by decide) (show _ = (-5 : Int) from by decide) (show _ = (-5 : Int) from by decide) (fun c_66 => absurd c_66 (by omega)) (fun c_66 => ?_)
          refine lv_bipush (v := (-5)) hx hb d_Ref_longest_69 (by decide) ?_
          refine ret_i X hB d_Ref_longest_71 ?_
          first | exact Or.inl ⟨i, ⟨by omega, by omega, hbt⟩, rfl, rfl⟩ | (exfalso; rcases hms with ⟨h9, _⟩ | ⟨j9, h8, h7, h9, _⟩; (rw [h9] at c_66; exact absurd c_66 (by decide)); (rw [h9, nI_toInt (by omega)] at c_66; omega))
        · refine lv_iload hx hb d_Ref_longest_55 (lv_at hl 4 rfl) ?_
          refine lv_goto (tgt := 62) hx hb d_Ref_longest_57 (by decide) ?_
          refine lv_istore_n (lv' := [(2, .int (nI i)), (0, .ref mo), (1, .int (nI a)), (3, .long (lN (ahn k (Sz a) (En a) (nxt Nx a) i))), (5, .int (nI i))]) hx hb d_Ref_longest_62 rfl hl (by decide) rfl (fun ls hl => ?_)
          refine lv_iload_n hx hb d_Ref_longest_63 rfl (lv_at hl 0 rfl) ?_
          refine lv_bipush (v := (-5)) hx hb d_Ref_longest_64 (by decide) ?_
          refine wf_cne (tgt := 72) hx hb d_Ref_longest_66 (by decide) (nI_toInt (by omega)) (show _ = (-5 : Int) from by decide) (fun c_66 => ?_) (fun c_66 => absurd c_66 (by omega))
          refine lv_aload_n hx hb d_Ref_longest_72 rfl (lv_at hl 1 rfl) ?_
          refine lv_iload_n hx hb d_Ref_longest_73 rfl (lv_at hl 2 rfl) ?_
          refine lv_lload_n hx hb d_Ref_longest_74 rfl (lv_at hl 3 rfl) ?_
          refine callVl (As := [.int (nI a), .long (lN (ahn k (Sz a) (En a) (nxt Nx a) i))]) (rest := []) X hB wf_hA (c_Ref_ahead (l := l) (D := D) (t := t) (w := w) (sz := H.size) (mo := mo) (az := az) (an := an) (ae := ae) (ac := ac) (ato := ato) (aps := aps) (apt := apt) (al := al) (aip := aip) (alo := alo) (alt := alt) (aic := aic) (arw := arw) (aco := aco) (act := act) (asp := asp) (anu := anu) (aor := aor) (ann := ann) (ald := ald) (ahd := ahd) (acn := acn) (ais := ais) (aq := aq) (acf := acf) (acb := acb) (aw := aw) (k := k) (mn := mn) (cz := cz) (tz := tz) (ca := ca) (pz := pz) (wy := wy) (fi := fi) (se := se) (ho := ho) (lx := lx) (ly := ly) (ts := ts) (tS := tS) (cs := cs) (av := av) (lz := lz) (hz1 := hz1) (nl := nl) (nh := nh) (ce := ce) (qd := qd) (Sz := Sz) (Nx := Nx) (En := En) (a := a) (S := ahn k (Sz a) (En a) (nxt Nx a) i) hMo h_az h_an (by exact hm) (by omega) (by omega)) k_1092 k_1094 k_44 k_75 k_1095 hMo cl_Ref rfl hd_Ref_ahead ⟨Nat.le_of_ble_eq_true rfl, Nat.le_of_ble_eq_true rfl⟩ ⟨Nat.le_of_ble_eq_true rfl, Nat.le_of_ble_eq_true rfl⟩ hl.1 (Nat.le_of_ble_eq_true rfl) d_Ref_longest_75 rfl (fun r_75 w1 H locs hp hB => ?_)
          obtain ⟨rfl, hw_75⟩ := hp
          have hB : wf_B D wcl (wf_A w s.heap.size) s.heap w H locs := wf_Bto hw_75 hB
          refine wf_tl (y := lN (ahn k (Sz a) (En a) (nxt Nx a) (i + 1))) (by rfl) ?_
          refine lv_lstore_n (lv' := [(3, .long (lN (ahn k (Sz a) (En a) (nxt Nx a) (i + 1)))), (2, .int (nI i)), (0, .ref mo), (1, .int (nI a)), (5, .int (nI i))]) hx hb d_Ref_longest_78 rfl hl (by decide) rfl (fun ls hl => ?_)
          refine lv_iinc (v := nI (i + 1)) (lv' := [(5, .int (nI (i + 1))), (3, .long (lN (ahn k (Sz a) (En a) (nxt Nx a) (i + 1)))), (2, .int (nI i)), (0, .ref mo), (1, .int (nI a))]) hx hb d_Ref_longest_79 hl (k := 4) rfl (show nI i + nI 1 = nI (i + 1) from nI_add _ _) (by decide) rfl (fun ls hl => ?_)
          refine lv_goto (tgt := 23) hx hb d_Ref_longest_82 (by decide) ?_
          exact ih (i + 1) (nI i) (by omega) (by first | exact Or.inr ⟨i, by omega, by omega, rfl, hbt, fun j h9 h8 => by omega⟩ | (rcases hms with ⟨h9, h8⟩ | ⟨j9, h8, h7, h9, h6, h5⟩; (exact Or.inl ⟨h9, fun j h4 => by by_cases e9 : j = i; (rw [e9]; exact hbt); exact h8 j (by omega)⟩); exact Or.inr ⟨j9, h8, by omega, h9, h6, fun j h4 h3 => by by_cases e9 : j = i; (rw [e9]; exact hbt); exact h5 j h4 (by omega)⟩)) (by omega) H locs ls (lv_sub hl [3, 4, 2, 1, 0] rfl) hB
set_option maxHeartbeats 4000000 in
set_option maxRecDepth 100000 in
theorem c_Ref_longesty {l : Launch} {D : va_G} {t : Nat → ClassId} {w : wf_W} {sz : Nat} {mo az an ae ac ato aps apt al aip alo alt aic arw aco act asp anu aor ann ald ahd acn ais aq acf acb aw k mn cz tz ca pz wy fi se ho lx ly ts tS cs av lz hz1 nl nh ce qd : Nat} {Sz Nx En : Nat → Nat} {a : Nat} (hMo : w mo = some (rfO k mn az an ae ac cz ato tz ca aps apt al aip pz wy fi se ho lx ly ts tS alo alt aic arw aco act asp cs anu aor ann av ald ahd lz hz1 nl nh acn ce ais aq acf acb qd aw)) (h_az : w az = some (.inl (t 0, 60, .inl (iA Sz)))) (h_an : w an = some (.inl (t 0, 9600, .inl (iA Nx)))) (h_ae : w ae = some (.inl (t 1, 60, .inr (.inl (lA En))))) (hmn : mn ≤ 60) (ha : a < mn) (hm : rOK k (Sz a) (En a) (nxt Nx a)) : Mi l y_Ref_longest b_Ref_longest 6 (some .int) 2 50 0 0 D t w sz [.ref mo, .int (nI a)] (fun r w' => (∃ j0 : Nat, (Sz a ≤ j0 ∧ j0 < 2 * Sz a ∧ (Nat.testBit (ahn k (Sz a) (En a) (nxt Nx a) j0) 0 = true)) ∧ r = (-5) ∧ w' = w) ∨ ((∀ j, j < 2 * Sz a → ¬ (Nat.testBit (ahn k (Sz a) (En a) (nxt Nx a) j) 0 = true)) ∧ r = (-1) ∧ w' = w) ∨ (∃ j0 : Nat, (j0 < Sz a ∧ (Nat.testBit (ahn k (Sz a) (En a) (nxt Nx a) j0) 0 = true) ∧ ∀ j, j0 < j → j < 2 * Sz a → ¬ (Nat.testBit (ahn k (Sz a) (En a) (nxt Nx a) j) 0 = true)) ∧ r = (nI j0) ∧ w' = w)) := by
  refine start_i (by decide) (Nat.le_of_ble_eq_true rfl) ?_
  intro p e s m below meth c ls H locs X hB hl
  have hx := X.1
  have hb := X.2.1
  have hl : lv_has ls 6 [(0, .ref mo), (1, .int (nI a))] := hl
  have hM := rOK_m hm
  have hk := hm.1
  have hn := hm.2.1
  have hn0 := hm.2.2.1
  have hE := hm.E40
  refine lv_aload_n hx hb d_Ref_longest_0 rfl (lv_at hl 0 rfl) ?_
  refine lv_iload_n hx hb d_Ref_longest_1 rfl (lv_at hl 1 rfl) ?_
  refine callVi (As := [.int (nI a)]) (rest := []) X hB wf_hA (c_Ref_isy (l := l) (D := D) (t := t) (w := w) (sz := H.size) (mo := mo) (az := az) (an := an) (ae := ae) (ac := ac) (ato := ato) (aps := aps) (apt := apt) (al := al) (aip := aip) (alo := alo) (alt := alt) (aic := aic) (arw := arw) (aco := aco) (act := act) (asp := asp) (anu := anu) (aor := aor) (ann := ann) (ald := ald) (ahd := ahd) (acn := acn) (ais := ais) (aq := aq) (acf := acf) (acb := acb) (aw := aw) (k := k) (mn := mn) (cz := cz) (tz := tz) (ca := ca) (pz := pz) (wy := wy) (fi := fi) (se := se) (ho := ho) (lx := lx) (ly := ly) (ts := ts) (tS := tS) (cs := cs) (av := av) (lz := lz) (hz1 := hz1) (nl := nl) (nh := nh) (ce := ce) (qd := qd) (a := a) hMo (by exact hmn) (by exact ha)) k_1078 k_1080 k_42 k_75 k_1081 hMo cl_Ref rfl hd_Ref_is ⟨Nat.le_of_ble_eq_true rfl, Nat.le_of_ble_eq_true rfl⟩ ⟨Nat.le_of_ble_eq_true rfl, Nat.le_of_ble_eq_true rfl⟩ hl.1 (Nat.le_of_ble_eq_true rfl) d_Ref_longest_2 rfl (fun r_2 w1 H locs hp hB => ?_)
  obtain ⟨rfl, hw_2⟩ := hp
  have hB : wf_B D wcl (wf_A w s.heap.size) s.heap w H locs := wf_Bto hw_2 hB
  refine wf_bne (tgt := 11) hx hb d_Ref_longest_5 (by decide) (fun _ => ?_) (fun c9 => absurd c9 (by decide))
  refine lv_iconst (v := (-1)) hx hb d_Ref_longest_11 (by decide) ?_
  refine lv_istore_n (lv' := [(2, .int (-1)), (0, .ref mo), (1, .int (nI a))]) hx hb d_Ref_longest_12 rfl hl (by decide) rfl (fun ls hl => ?_)
  refine lv_aload_n hx hb d_Ref_longest_13 rfl (lv_at hl 1 rfl) ?_
  refine rget X hB  i_Ref hMo cl_Ref 4 (by decide) k_878 rfl rfl d_Ref_longest_14 ?_
  refine lv_iload_n hx hb d_Ref_longest_17 rfl (lv_at hl 2 rfl) ?_
  refine rlald X hB  h_ae (i := a) (by omega) (by decide) d_Ref_longest_18 ?_
  refine wf_tl (y := lN (En a)) rfl ?_
  refine lv_lstore_n (lv' := [(3, .long (lN (En a))), (2, .int (-1)), (0, .ref mo), (1, .int (nI a))]) hx hb d_Ref_longest_19 rfl hl (by decide) rfl (fun ls hl => ?_)
  refine lv_iconst (v := nI 0) hx hb d_Ref_longest_20 (by decide) ?_
  refine lv_istore (lv' := [(5, .int (nI 0)), (3, .long (lN (En a))), (2, .int (-1)), (0, .ref mo), (1, .int (nI a))]) hx hb d_Ref_longest_21 hl (by decide) rfl (fun ls hl => ?_)
  refine c_Ref_longesty_L23 (l := l) X hMo h_az h_an h_ae hmn ha hm (fun i ms hi hms he H locs ls hl hB => ?_) (2 * Sz a - 0 + 1) 0 (-1) (by omega) (by exact Or.inl ⟨rfl, fun j h9 => by omega⟩) (by omega) H locs ls (lv_sub hl [3, 4, 2, 1, 0] rfl) hB
  refine lv_iload_n hx hb d_Ref_longest_85 rfl (lv_at hl 2 rfl) ?_
  refine ret_i X hB d_Ref_longest_86 ?_
  rcases hms with ⟨h9, h8⟩ | ⟨j9, h8, h7, h9, h6, h5⟩
  · exact Or.inr (Or.inl ⟨fun j h7 => h8 j (by omega), h9, rfl⟩)
  · exact Or.inr (Or.inr ⟨j9, ⟨h8, h6, fun j h4 h3 => h5 j h4 (by omega)⟩, h9, rfl⟩)
