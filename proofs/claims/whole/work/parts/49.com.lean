/-! THE SEARCH OF PAIRS -/
/-- pairs in the order in which they are come to, each with the place from which, and the letter by which -/
def bfs (k : Nat) (aft : Nat → Nat → Nat) : Nat → List (Nat × Nat × Nat)
  | 0 => [(0, 0, 0)]
  | t1 + 1 => match (bfs k aft t1)[t1 / k]? with
    | none => bfs k aft t1
    | some p => if (bfs k aft t1).any (fun q => q.1 == aft p.1 (t1 % k)) = true then bfs k aft t1 else bfs k aft t1 ++ [(aft p.1 (t1 % k), t1 / k, t1 % k)]
/-- what the arrays hold of such a list -/
def rqO (ll : List (Nat × Nat × Nat)) (Qu : Nat → Nat) (cf : Nat → Int32) : Prop := (∀ (i : Nat) (p : Nat × Nat × Nat), ll[i]? = some p → Qu i = p.1 ∧ p.1 < 1600 ∧ p.2.1 ≤ i ∧ p.2.2 < 4 ∧ cf p.1 = if i = 0 then -2 else nI (Qu p.2.1 * 4 + p.2.2)) ∧ (∀ v, v < 1600 → (∀ (i : Nat) (p : Nat × Nat × Nat), ll[i]? = some p → p.1 ≠ v) → cf v = -1) ∧ ∀ (i j : Nat) (p q : Nat × Nat × Nat), ll[i]? = some p → ll[j]? = some q → p.1 = q.1 → i = j
theorem rqO_len {ll : List (Nat × Nat × Nat)} {Qu : Nat → Nat} {cf : Nat → Int32} (h : rqO ll Qu cf) : ll.length ≤ 1600 := by
  refine php_le (f := fun i => (ll[i]?.getD (0, 0, 0)).1) (fun i hi => ?_) (fun i j hi hj e => ?_)
  · have e1 := List.getElem?_eq_getElem hi
    rw [e1]
    exact (h.1 i _ e1).2.1
  · have e1 := List.getElem?_eq_getElem hi
    have e2 := List.getElem?_eq_getElem hj
    rw [e1, e2] at e
    exact h.2.2 i j _ _ e1 e2 e
theorem rqO_len1 {ll : List (Nat × Nat × Nat)} {Qu : Nat → Nat} {cf : Nat → Int32} (h : rqO ll Qu cf) {v : Nat} (hv : v < 1600) (hn : ∀ (i : Nat) (p : Nat × Nat × Nat), ll[i]? = some p → p.1 ≠ v) : ll.length < 1600 := by
  have : ll.length + 1 ≤ 1600 := by
    refine php_le (f := fun i => if i < ll.length then (ll[i]?.getD (0, 0, 0)).1 else v) (fun i hi => ?_) (fun i j hi hj e => ?_)
    · split
      · rename_i h9
        have e1 := List.getElem?_eq_getElem h9
        rw [e1]
        exact (h.1 i _ e1).2.1
      · exact hv
    · by_cases a1 : i < ll.length
      · have e1 := List.getElem?_eq_getElem a1
        by_cases a2 : j < ll.length
        · have e2 := List.getElem?_eq_getElem a2
          simp only [if_pos a1, if_pos a2, e1, e2] at e
          exact h.2.2 i j _ _ e1 e2 e
        · simp only [if_pos a1, if_neg a2, e1] at e
          exact absurd e (hn i _ e1)
      · by_cases a2 : j < ll.length
        · have e2 := List.getElem?_eq_getElem a2
          simp only [if_neg a1, if_pos a2, e2] at e
          exact absurd e.symm (hn j _ e2)
        · omega
  omega
theorem rqO_no {ll : List (Nat × Nat × Nat)} {Qu : Nat → Nat} {cf : Nat → Int32} (h : rqO ll Qu cf) {v : Nat} (hc : cf v = -1) : ∀ (i : Nat) (p : Nat × Nat × Nat), ll[i]? = some p → p.1 ≠ v := by
  intro i p hp e
  have a := (h.1 i p hp)
  rw [e] at a
  rw [hc] at a
  have b := a.2.2.2.2
  split at b
  · exact absurd b (by decide)
  · have h3 : Qu p.2.1 < 1600 := by
      have hpi : p.2.1 < ll.length := by
        have := (List.getElem?_eq_some_iff.mp hp).1
        have := a.2.2.1
        omega
      have e1 := List.getElem?_eq_getElem hpi
      have a2 := h.1 _ _ e1
      rw [a2.1]
      exact a2.2.1
    have b2 := congrArg Int32.toInt b
    rw [nI_toInt (by have := a.2.2.2.1; omega)] at b2
    have : (-1 : Int32).toInt = -1 := by decide
    omega
theorem rqO_add {ll : List (Nat × Nat × Nat)} {Qu : Nat → Nat} {cf : Nat → Int32} (h : rqO ll Qu cf) {v q b : Nat} (hl : 0 < ll.length) (hv : v < 1600) (hq : q < ll.length) (hb : b < 4) (hn : ∀ (i : Nat) (p : Nat × Nat × Nat), ll[i]? = some p → p.1 ≠ v) : rqO (ll ++ [(v, q, b)]) (nu Qu ll.length v) (upd cf v (nI (Qu q * 4 + b))) := by
  have key : ∀ (i : Nat) (p : Nat × Nat × Nat), (ll ++ [(v, q, b)])[i]? = some p → ll[i]? = some p ∨ (i = ll.length ∧ p = (v, q, b)) := by
    intro i p hp
    by_cases hi : i < ll.length
    · rw [List.getElem?_append_left hi] at hp
      exact Or.inl hp
    · rw [List.getElem?_append_right (by omega)] at hp
      have hz : i - ll.length < 1 := (List.getElem?_eq_some_iff.mp hp).1
      rw [show i - ll.length = 0 by omega] at hp
      exact Or.inr ⟨by omega, (Option.some.inj hp).symm⟩
  refine ⟨fun i p hp => ?_, fun x hx hno => ?_, fun i j p p' hp hp' e => ?_⟩
  · rcases key i p hp with g | ⟨g1, g2⟩
    · have hi := (List.getElem?_eq_some_iff.mp g).1
      obtain ⟨a1, a2, a3, a4, a5⟩ := h.1 i p g
      refine ⟨by rw [nu_n (by omega)]; exact a1, a2, a3, a4, ?_⟩
      rw [pk_un (hn i p g), a5, nu_n (by omega)]
    · subst g2
      refine ⟨by rw [g1, nu_s], hv, by dsimp only; omega, hb, ?_⟩
      rw [pk_us, if_neg (by omega), nu_n (by dsimp only; omega)]
  · have h1 : x ≠ v := fun e => hno ll.length (v, q, b) (by rw [List.getElem?_append_right (Nat.le_refl _), Nat.sub_self]; rfl) e.symm
    rw [pk_un h1]
    refine h.2.1 x hx (fun i p hp => hno i p ?_)
    rw [List.getElem?_append_left (List.getElem?_eq_some_iff.mp hp).1]
    exact hp
  · rcases key i p hp with g | ⟨g1, g2⟩ <;> rcases key j p' hp' with g' | ⟨g1', g2'⟩
    · exact h.2.2 i j p p' g g' e
    · subst g2'
      exact absurd e (hn i p g)
    · subst g2
      exact absurd e.symm (hn j p' g')
    · omega
theorem rqO_0 {Qu : Nat → Nat} {cf : Nat → Int32} (hc : ∀ j, j < 1600 → cf j = -1) : rqO [(0, 0, 0)] (nu Qu 0 0) (upd cf 0 (-2)) := by
  have key : ∀ (i : Nat) (p : Nat × Nat × Nat), [((0 : Nat), (0 : Nat), (0 : Nat))][i]? = some p → i = 0 ∧ p = (0, 0, 0) := by
    intro i p hp
    have hz : i < 1 := (List.getElem?_eq_some_iff.mp hp).1
    have : i = 0 := by omega
    subst this
    exact ⟨rfl, (Option.some.inj hp).symm⟩
  refine ⟨fun i p hp => ?_, fun x hx hno => ?_, fun i j p q hp hq _ => ?_⟩
  · obtain ⟨rfl, rfl⟩ := key i p hp
    exact ⟨nu_s, by decide, by decide, by decide, by rw [pk_us]; rfl⟩
  · rw [pk_un (fun e => hno 0 (0, 0, 0) rfl e.symm)]
    exact hc x hx
  · have := (key i p hp).1
    have := (key j q hq).1
    omega
theorem bfs_pos {k : Nat} {aft : Nat → Nat → Nat} : ∀ t1, 0 < (bfs k aft t1).length
  | 0 => by simp [bfs]
  | t1 + 1 => by
    have ih := bfs_pos (k := k) (aft := aft) t1
    rw [bfs]
    split
    · exact ih
    · split
      · exact ih
      · rw [List.length_append]; omega
set_option maxHeartbeats 4000000 in
set_option maxRecDepth 100000 in
theorem c_Com_enqueue {l : Launch} {D : va_G} {t : Nat → ClassId} {w : wf_W} {sz : Nat} {cm cq cy k z : Nat} {Qu : Nat → Nat} {cf : Nat → Int32} {v : Nat} {by1 : Int32} (hN : nd [cm, cq, cy]) (hC : w cm = some (.inr (8, [.int (nI k), .ref cq, .ref cy, .int (nI z)]))) (hQ : w cq = some (.inl (t 0, 1600, .inl (iA Qu)))) (hY : w cy = some (.inl (t 0, 1600, .inl cf))) (hz : z ≤ 1600) (hv : v < 1600) (hzz : cf v = -1 → z < 1600) : Mv l y_Com_enqueue b_Com_enqueue 3 none 0 0 0 0 D t w sz [.ref cm, .int (nI v), .int by1] (fun w' => ((cf v = -1) ∧ w' = wf_l w [(cm, .inr (8, [.int (nI k), .ref cq, .ref cy, .int (nI (z + 1))])), (cq, .inl (t 0, 1600, .inl (iA (nu Qu z v)))), (cy, .inl (t 0, 1600, .inl (upd cf v by1)))]) ∨ ((cf v ≠ -1) ∧ w' = wf_l w [(cm, .inr (8, [.int (nI k), .ref cq, .ref cy, .int (nI z)])), (cq, .inl (t 0, 1600, .inl (iA Qu))), (cy, .inl (t 0, 1600, .inl cf))])) := by
  refine start_v (by decide) (Nat.le_of_ble_eq_true rfl) ?_
  intro p e s m below meth c ls H locs X hB hl
  have hx := X.1
  have hb := X.2.1
  have hl : lv_has ls 3 [(0, .ref cm), (1, .int (nI v)), (2, .int by1)] := hl
  have hB : wf_B D wcl (wf_A w s.heap.size) s.heap (wf_l w [(cm, .inr (8, [.int (nI k), .ref cq, .ref cy, .int (nI z)])), (cq, .inl (t 0, 1600, .inl (iA Qu))), (cy, .inl (t 0, 1600, .inl cf))]) H locs := wf_Bto (wf_l3 hC hQ hY).symm hB
  have e1 : (-1 : Int32).toInt = -1 := by decide
  refine lv_iload_n hx hb d_Com_enqueue_0 rfl (lv_at hl 1 rfl) ?_
  refine wf_zlt (tgt := 58) hx hb d_Com_enqueue_1 (by decide) (nI_toInt (by omega)) (fun c_1 => ?_) (fun c_1 => ?_)
  · exact absurd c_1 (by omega)
  · refine lv_iload_n hx hb d_Com_enqueue_4 rfl (lv_at hl 1 rfl) ?_
    refine lv_sipush (v := nI 1600) hx hb d_Com_enqueue_5 (by decide) ?_
    refine wf_cge (tgt := 58) hx hb d_Com_enqueue_8 (by decide) (nI_toInt (by omega)) (nI_toInt (by omega)) (fun c_8 => ?_) (fun c_8 => ?_)
    · exact absurd c_8 (by omega)
    · refine lv_aload_n hx hb d_Com_enqueue_11 rfl (lv_at hl 0 rfl) ?_
      refine rgetL X hB hN 0 i_Com rfl cl_Com 3 (by decide) k_245 rfl rfl d_Com_enqueue_12 ?_
      refine lv_sipush (v := nI 1600) hx hb d_Com_enqueue_15 (by decide) ?_
      refine wf_cge (tgt := 58) hx hb d_Com_enqueue_18 (by decide) (nI_toInt (by omega)) (nI_toInt (by omega)) (fun c_18 => ?_) (fun c_18 => ?_)
      · refine ret_v X hB d_Com_enqueue_58 ?_
        first | exact Or.inr ⟨fun q => c_28 (by rw [q]; decide), rfl⟩ | exact Or.inr ⟨fun q => by (have := hzz q; omega), rfl⟩
      · refine lv_aload_n hx hb d_Com_enqueue_21 rfl (lv_at hl 0 rfl) ?_
        refine rgetL X hB hN 0 i_Com rfl cl_Com 2 (by decide) k_244 rfl rfl d_Com_enqueue_22 ?_
        refine lv_iload_n hx hb d_Com_enqueue_25 rfl (lv_at hl 1 rfl) ?_
        refine rialdL X hB hN 2 rfl (i := v) (by omega) (by decide) d_Com_enqueue_26 ?_
        refine lv_iconst (v := (-1)) hx hb d_Com_enqueue_27 (by decide) ?_
        refine wf_cne (tgt := 58) hx hb d_Com_enqueue_28 (by decide) rfl (show _ = (-1 : Int) from by decide) (fun c_28 => ?_) (fun c_28 => ?_)
        · refine ret_v X hB d_Com_enqueue_58 ?_
          first | exact Or.inr ⟨fun q => c_28 (by rw [q]; decide), rfl⟩ | exact Or.inr ⟨fun q => by (have := hzz q; omega), rfl⟩
        · refine lv_aload_n hx hb d_Com_enqueue_31 rfl (lv_at hl 0 rfl) ?_
          refine rgetL X hB hN 0 i_Com rfl cl_Com 2 (by decide) k_244 rfl rfl d_Com_enqueue_32 ?_
          refine lv_iload_n hx hb d_Com_enqueue_35 rfl (lv_at hl 1 rfl) ?_
          refine lv_iload_n hx hb d_Com_enqueue_36 rfl (lv_at hl 2 rfl) ?_
          refine riast X hB hN 2 (wl' := [(cm, .inr (8, [.int (nI k), .ref cq, .ref cy, .int (nI z)])), (cq, .inl (t 0, 1600, .inl (iA Qu))), (cy, .inl (t 0, 1600, .inl (upd cf v by1)))]) rfl (i := v) (by omega) (by decide) d_Com_enqueue_37 rfl (fun H locs hB => ?_)
          refine lv_aload_n hx hb d_Com_enqueue_38 rfl (lv_at hl 0 rfl) ?_
          refine rgetL X hB hN 0 i_Com rfl cl_Com 1 (by decide) k_243 rfl rfl d_Com_enqueue_39 ?_
          refine lv_aload_n hx hb d_Com_enqueue_42 rfl (lv_at hl 0 rfl) ?_
          refine rgetL X hB hN 0 i_Com rfl cl_Com 3 (by decide) k_245 rfl rfl d_Com_enqueue_43 ?_
          refine lv_iload_n hx hb d_Com_enqueue_46 rfl (lv_at hl 1 rfl) ?_
          refine riastA X hB hN 1 (wl' := [(cm, .inr (8, [.int (nI k), .ref cq, .ref cy, .int (nI z)])), (cq, .inl (t 0, 1600, .inl (iA (nu Qu z v)))), (cy, .inl (t 0, 1600, .inl (upd cf v by1)))]) rfl (i := z) (by omega) (by decide) d_Com_enqueue_47 rfl (fun H locs hB => ?_)
          refine lv_aload_n hx hb d_Com_enqueue_48 rfl (lv_at hl 0 rfl) ?_
          refine lv_dup hx hb d_Com_enqueue_49 rfl ?_
          refine rgetL X hB hN 0 i_Com rfl cl_Com 3 (by decide) k_245 rfl rfl d_Com_enqueue_50 ?_
          refine lv_iconst (v := nI 1) hx hb d_Com_enqueue_53 (by decide) ?_
          refine wf_iadd (x := z) (y := 1) hx hb d_Com_enqueue_54 ?_
          refine rput X hB hN 0 (wl' := [(cm, .inr (8, [.int (nI k), .ref cq, .ref cy, .int (nI (z + 1))])), (cq, .inl (t 0, 1600, .inl (iA (nu Qu z v)))), (cy, .inl (t 0, 1600, .inl (upd cf v by1)))]) i_Com t_Com_ok n_Com rfl cl_Com 3 (by decide) k_245 rfl rfl rfl rfl (Nat.le_of_ble_eq_true rfl) d_Com_enqueue_55 rfl (fun H locs hB => ?_)
          refine ret_v X hB d_Com_enqueue_58 ?_
          exact Or.inl ⟨Int32.toInt_inj.mp (by omega), rfl⟩
