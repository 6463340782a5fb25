/-! HOW FAR THE SEARCH OF PAIRS GOES -/
theorem bfs_grow {k : Nat} {A : Nat → Nat → Nat} {t i : Nat} {p : Nat × Nat × Nat} (h : (bfs k A t)[i]? = some p) : (bfs k A (t + 1))[i]? = some p := by
  have hi := (List.getElem?_eq_some_iff.mp h).1
  rw [bfs]
  split
  · exact h
  · split
    · exact h
    · rw [List.getElem?_append_left hi]; exact h
/-- what stands in the row of pairs -/
def bfI (k : Nat) (A : Nat → Nat → Nat) (t : Nat) : Prop :=
  (bfs k A t)[0]? = some (0, 0, 0) ∧ (∀ (j : Nat) (p : Nat × Nat × Nat), 0 < j → (bfs k A t)[j]? = some p → p.2.1 < j ∧ p.2.1 * k + p.2.2 < t ∧ p.2.2 < k ∧ ∃ q, (bfs k A t)[p.2.1]? = some q ∧ p.1 = A q.1 p.2.2) ∧
  (∀ (j j' : Nat) (p p' : Nat × Nat × Nat), 0 < j → j ≤ j' → (bfs k A t)[j]? = some p → (bfs k A t)[j']? = some p' → p.2.1 ≤ p'.2.1) ∧
  ∀ t', t' < t → (bfs k A t).length ≤ t' / k ∨ ∃ q, (bfs k A t)[t' / k]? = some q ∧ ∃ (j : Nat) (p : Nat × Nat × Nat), (bfs k A t)[j]? = some p ∧ p.1 = A q.1 (t' % k) ∧ (j = 0 ∨ p.2.1 ≤ t' / k)
theorem bfI_all {k : Nat} {A : Nat → Nat → Nat} (hk : 0 < k) : ∀ t, bfI k A t := by
  intro t
  induction t with
  | zero =>
    have one : ∀ (i : Nat) (p : Nat × Nat × Nat), (bfs k A 0)[i]? = some p → i = 0 := by
      intro i p h
      cases i with
      | zero => rfl
      | succ i => cases h
    exact ⟨rfl, fun j p hj h => absurd (one j p h) (by omega), fun j j' p p' hj _ h _ => absurd (one j p h) (by omega), fun t' h => by omega⟩
  | succ t ih =>
    obtain ⟨h1, h2, h3, h4⟩ := ih
    have dm := Nat.div_add_mod t k
    have ml := Nat.mod_lt t hk
    have dm' : t / k * k + t % k = t := by rw [Nat.mul_comm]; exact dm
    cases e : (bfs k A t)[t / k]? with
    | none =>
      have es : bfs k A (t + 1) = bfs k A t := by rw [bfs, e]
      have hlen : (bfs k A t).length ≤ t / k := List.getElem?_eq_none_iff.mp e
      unfold bfI
      rw [es]
      refine ⟨h1, fun j p hj h => ?_, h3, fun t' ht => ?_⟩
      · obtain ⟨g1, g2, g3⟩ := h2 j p hj h
        exact ⟨g1, by omega, g3⟩
      · by_cases q : t' = t
        · rw [q]; exact Or.inl hlen
        · exact h4 t' (by omega)
    | some p0 =>
      have hi0 := (List.getElem?_eq_some_iff.mp e).1
      by_cases c : (bfs k A t).any (fun q => q.1 == A p0.1 (t % k)) = true
      · have es : bfs k A (t + 1) = bfs k A t := by rw [bfs, e]; exact if_pos c
        unfold bfI
        rw [es]
        refine ⟨h1, fun j p hj h => ?_, h3, fun t' ht => ?_⟩
        · obtain ⟨g1, g2, g3⟩ := h2 j p hj h
          exact ⟨g1, by omega, g3⟩
        · by_cases q : t' = t
          · subst q
            obtain ⟨p, hp, he⟩ := List.any_eq_true.mp c
            obtain ⟨j, hj⟩ := List.getElem?_of_mem hp
            refine Or.inr ⟨p0, e, j, p, hj, by simpa using he, ?_⟩
            rcases Nat.eq_zero_or_pos j with q | q
            · exact Or.inl q
            · obtain ⟨g1, g2, g3, _⟩ := h2 j p q hj
              refine Or.inr ?_
              rw [Nat.le_div_iff_mul_le hk]
              omega
          · exact h4 t' (by omega)
      · have es : bfs k A (t + 1) = bfs k A t ++ [(A p0.1 (t % k), t / k, t % k)] := by rw [bfs, e]; exact if_neg c
        have cas : ∀ (x : Nat) (p : Nat × Nat × Nat), (bfs k A t ++ [(A p0.1 (t % k), t / k, t % k)])[x]? = some p → (x < (bfs k A t).length ∧ (bfs k A t)[x]? = some p) ∨ (x = (bfs k A t).length ∧ p = (A p0.1 (t % k), t / k, t % k)) := by
          intro x p hx
          by_cases g : x < (bfs k A t).length
          · rw [List.getElem?_append_left g] at hx; exact Or.inl ⟨g, hx⟩
          · rw [List.getElem?_append_right (by omega)] at hx
            have g2 : x - (bfs k A t).length < 1 := (List.getElem?_eq_some_iff.mp hx).1
            rw [show x - (bfs k A t).length = 0 by omega] at hx
            exact Or.inr ⟨by omega, (Option.some.inj hx).symm⟩
        have old : ∀ (x : Nat) (p : Nat × Nat × Nat), (bfs k A t)[x]? = some p → (bfs k A t ++ [(A p0.1 (t % k), t / k, t % k)])[x]? = some p := by
          intro x p hx
          rw [List.getElem?_append_left (List.getElem?_eq_some_iff.mp hx).1]; exact hx
        unfold bfI
        rw [es]
        refine ⟨old _ _ h1, fun j p hj h => ?_, fun j j' p p' hj hjj h h' => ?_, fun t' ht => ?_⟩
        · rcases cas j p h with ⟨g1, g2⟩ | ⟨g1, g2⟩
          · obtain ⟨f1, f2, f3, q, f4, f5⟩ := h2 j p hj g2
            exact ⟨f1, by omega, f3, q, old _ _ f4, f5⟩
          · rw [g2]
            exact ⟨by dsimp only; omega, by dsimp only; omega, ml, p0, old _ _ e, rfl⟩
        · rcases cas j p h with ⟨g1, g2⟩ | ⟨g1, g2⟩
          · rcases cas j' p' h' with ⟨g3, g4⟩ | ⟨g3, g4⟩
            · exact h3 j j' p p' hj hjj g2 g4
            · rw [g4]
              show p.2.1 ≤ t / k
              obtain ⟨f1, f2, f3, _⟩ := h2 j p hj g2
              rw [Nat.le_div_iff_mul_le hk]
              omega
          · rcases cas j' p' h' with ⟨g3, g4⟩ | ⟨g3, g4⟩
            · omega
            · rw [g2, g4]; exact Nat.le_refl _
        · by_cases q : t' = t
          · subst q
            exact Or.inr ⟨p0, old _ _ e, (bfs k A t').length, (A p0.1 (t' % k), t' / k, t' % k), by rw [List.getElem?_append_right (Nat.le_refl _), Nat.sub_self]; rfl, rfl, Or.inr (Nat.le_refl _)⟩
          · rcases h4 t' (by omega) with g | ⟨q9, g1, j, p, g2, g3, g4⟩
            · have : t' / k ≤ t / k := Nat.div_le_div_right (by omega)
              omega
            · exact Or.inr ⟨q9, old _ _ g1, j, p, old _ _ g2, g3, g4⟩
theorem bup_s {ll : List (Nat × Nat × Nat)} {i : Nat} : ∀ j, bup ll i (j + 1) = bup ll (bpr ll i) j
  | 0 => rfl
  | j + 1 => by
    show bpr ll (bup ll i (j + 1)) = bpr ll (bup ll (bpr ll i) j)
    rw [bup_s j]
/-- so many letters lead there -/
def dpt (ll : List (Nat × Nat × Nat)) (i d : Nat) : Prop := bup ll i d = 0 ∧ ∀ j, j < d → bup ll i j ≠ 0
theorem dpt_s {ll : List (Nat × Nat × Nat)} {i d : Nat} (hi : i ≠ 0) (h : dpt ll (bpr ll i) d) : dpt ll i (d + 1) := by
  refine ⟨by rw [bup_s]; exact h.1, fun j hj => ?_⟩
  cases j with
  | zero => exact hi
  | succ j => rw [bup_s]; exact h.2 j (by omega)
theorem dpt_0 {ll : List (Nat × Nat × Nat)} : dpt ll 0 0 := ⟨rfl, fun j h => by omega⟩
theorem dpt_u {ll : List (Nat × Nat × Nat)} {i d d' : Nat} (h : dpt ll i d) (h' : dpt ll i d') : d = d' := by
  rcases Nat.lt_trichotomy d d' with q | q | q
  · exact absurd h.1 (h'.2 d q)
  · exact q
  · exact absurd h'.1 (h.2 d' q)
theorem bpr_at {ll : List (Nat × Nat × Nat)} {i : Nat} {p : Nat × Nat × Nat} (h : ll[i]? = some p) : bpr ll i = p.2.1 := by rw [bpr, h]; rfl
theorem dpt_tx {k : Nat} {A : Nat → Nat → Nat} {t : Nat} (hb : bfI k A t) : ∀ i, i < (bfs k A t).length → ∃ d u, dpt (bfs k A t) i d ∧ tx k u ∧ u.length = d ∧ dr A 0 u = bQ (bfs k A t) i := by
  intro i
  induction i using Nat.strongRecOn with
  | _ i ih =>
    intro hi
    rcases Nat.eq_zero_or_pos i with e | e
    · subst e
      exact ⟨0, [], dpt_0, tx_nil, rfl, by rw [bQ, hb.1]; rfl⟩
    · have g := List.getElem?_eq_getElem hi
      obtain ⟨h1, h2, h3, q, h4, h5⟩ := hb.2.1 i _ e g
      obtain ⟨d, u, f1, f2, f3, f4⟩ := ih _ h1 (List.getElem?_eq_some_iff.mp h4).1
      refine ⟨d + 1, u ++ [((bfs k A t)[i]).2.2], dpt_s (by omega) (by rw [bpr_at g]; exact f1), tx_app.mpr ⟨f2, tx_one h3⟩, by simp [f3], ?_⟩
      rw [dr_app, f4]
      rw [bQ, h4, bQ, g]
      exact h5.symm
theorem dpt_mono {k : Nat} {A : Nat → Nat → Nat} {t : Nat} (hb : bfI k A t) : ∀ j i d d', i ≤ j → j < (bfs k A t).length → dpt (bfs k A t) i d → dpt (bfs k A t) j d' → d ≤ d' := by
  intro j
  induction j using Nat.strongRecOn with
  | _ j ih =>
    intro i d d' hij hj h h'
    rcases Nat.eq_zero_or_pos i with e | e
    · subst e
      have := dpt_u h dpt_0
      omega
    · have gi := List.getElem?_eq_getElem (show i < (bfs k A t).length by omega)
      have gj := List.getElem?_eq_getElem hj
      obtain ⟨a1, _, _, q, a4, _⟩ := hb.2.1 i _ e gi
      obtain ⟨b1, _, _, q', b4, _⟩ := hb.2.1 j _ (by omega) gj
      obtain ⟨di, _, f1, _⟩ := dpt_tx hb _ (List.getElem?_eq_some_iff.mp a4).1
      obtain ⟨dj, _, f2, _⟩ := dpt_tx hb _ (List.getElem?_eq_some_iff.mp b4).1
      have e1 := dpt_u h (dpt_s (by omega) (by rw [bpr_at gi]; exact f1))
      have e2 := dpt_u h' (dpt_s (by omega) (by rw [bpr_at gj]; exact f2))
      have hm := hb.2.2.1 i j _ _ e hij gi gj
      have := ih _ b1 _ di dj hm (List.getElem?_eq_some_iff.mp b4).1 f1 f2
      omega
/-- texts shorter than the way to i lead to pairs ahead of i -/
theorem bfs_lo {k i d : Nat} {A : Nat → Nat → Nat} (hk : 0 < k) (hi : i < (bfs k A (i * k)).length) (hd : dpt (bfs k A (i * k)) i d) : ∀ (m : Nat) (w : List Nat), w.length = m → tx k w → m < d → ∃ j, j < i ∧ bQ (bfs k A (i * k)) j = dr A 0 w := by
  have hb := bfI_all (A := A) hk (i * k)
  have key : ∀ (m : Nat) (w : List Nat), w.length = m → tx k w → m < d → ∃ j dj, j < i ∧ dpt (bfs k A (i * k)) j dj ∧ dj ≤ m ∧ bQ (bfs k A (i * k)) j = dr A 0 w := by
    intro m
    have below : ∀ j dj, j < (bfs k A (i * k)).length → dpt (bfs k A (i * k)) j dj → dj < d → j < i := by
      intro j dj hj h1 h2
      rcases Nat.lt_or_ge j i with q | q
      · exact q
      · have := dpt_mono hb j i d dj q hj hd h1
        omega
    induction m with
    | zero =>
      intro w hw _ hm
      rw [List.length_eq_zero_iff.mp hw]
      exact ⟨0, 0, below 0 0 (by omega) dpt_0 hm, dpt_0, Nat.le_refl _, by rw [bQ, hb.1]; rfl⟩
    | succ m ih =>
      intro w hw ht hm
      rcases List.eq_nil_or_concat w with e | ⟨v, b, e⟩
      · rw [e] at hw; simp at hw
      · subst e
        rw [List.concat_eq_append] at hw ht ⊢
        have hbk := (tx_app.mp ht).2 b (List.mem_singleton_self b)
        obtain ⟨j, dj, h1, h2, h3, h4⟩ := ih v (by simpa using hw) (tx_app.mp ht).1 (by omega)
        have hlt : j * k + b < i * k := by
          have := Nat.mul_le_mul_right k (show j + 1 ≤ i by omega)
          rw [Nat.add_mul, Nat.one_mul] at this
          omega
        obtain ⟨e1, e2⟩ := bfs_at (i := j) hbk
        rcases hb.2.2.2 (j * k + b) hlt with g | ⟨q, g1, j', p, g2, g3, g4⟩
        · rw [e1] at g; omega
        · rw [e1] at g1 g4
          rw [e2] at g3
          have hj' := (List.getElem?_eq_some_iff.mp g2).1
          have hd' : ∃ d', dpt (bfs k A (i * k)) j' d' ∧ d' ≤ dj + 1 := by
            rcases Nat.eq_zero_or_pos j' with z | z
            · rw [z]; exact ⟨0, dpt_0, by omega⟩
            · obtain ⟨f1, _, _, q', f4, _⟩ := hb.2.1 j' p z g2
              obtain ⟨dp, _, f5, _⟩ := dpt_tx hb _ (List.getElem?_eq_some_iff.mp f4).1
              refine ⟨dp + 1, dpt_s (by omega) (by rw [bpr_at g2]; exact f5), ?_⟩
              have := dpt_mono hb j _ dp dj (by rcases g4 with g4 | g4; omega; exact g4) (by omega) f5 h2
              omega
          obtain ⟨d', f1, f2⟩ := hd'
          refine ⟨j', d', below j' d' hj' f1 (by omega), f1, by omega, ?_⟩
          rw [dr_app, ← h4, bQ, g2, bQ, g1]
          exact g3
  intro m w hw ht hm
  obtain ⟨j, _, h1, _, _, h4⟩ := key m w hw ht hm
  exact ⟨j, h1, h4⟩
/-- two machines side by side -/
def sbs (n : Nat) (st st2 : Nat → Nat → Nat) (x a : Nat) : Nat := if x < n then st x a else n + st2 (x - n) a
theorem sbs_1 {k n n2 : Nat} {st st2 : Nat → Nat → Nat} (h1 : ∀ s a, s < n → a < k → st s a < n) : ∀ (u : List Nat) (x : Nat), x < n → tx k u → dr (sbs n st st2) x u = dr st x u
  | [], _, _, _ => rfl
  | a :: u, x, hx, hu => by
    show dr (sbs n st st2) (sbs n st st2 x a) u = dr st (st x a) u
    have e : sbs n st st2 x a = st x a := if_pos hx
    rw [e]
    exact sbs_1 (n2 := n2) h1 u _ (h1 x a hx (tx_cons.mp hu).1) (tx_cons.mp hu).2
theorem sbs_2 {k n : Nat} {st st2 : Nat → Nat → Nat} : ∀ (u : List Nat) (y : Nat), dr (sbs n st st2) (n + y) u = n + dr st2 y u
  | [], _ => rfl
  | a :: u, y => by
    show dr (sbs n st st2) (sbs n st st2 (n + y) a) u = n + dr st2 (st2 y a) u
    have e : sbs n st st2 (n + y) a = n + st2 y a := by unfold sbs; rw [if_neg (by omega), Nat.add_sub_cancel_left]
    rw [e]
    exact sbs_2 (k := k) u _
theorem cAf_run {k n E n2 E2 : Nat} {st st2 : Nat → Nat → Nat} (hm : rOK k n E st) (hm2 : rOK k n2 E2 st2) : ∀ (u : List Nat) (x y : Nat), x < n → y < n2 → tx k u → dr (cAf k n st n2 st2) (40 * x + y) u = 40 * dr st x u + dr st2 y u
  | [], _, _, _, _, _ => rfl
  | a :: u, x, y, hx, hy, hu => by
    have ha := (tx_cons.mp hu).1
    have h2 := hm2.2.1
    show dr (cAf k n st n2 st2) (cAf k n st n2 st2 (40 * x + y) a) u = 40 * dr st (st x a) u + dr st2 (st2 y a) u
    rw [show cAf k n st n2 st2 (40 * x + y) a = 40 * st x a + st2 y a from by
      unfold cAf
      rw [show (40 * x + y) / 40 = x by omega, show (40 * x + y) % 40 = y by omega, stp_in hx ha, stp_in hy ha, Nat.mul_comm]]
    exact cAf_run hm hm2 u _ _ (hm.2.2.2.2 x a hx ha) (hm2.2.2.2.2 y a hy ha) (tx_cons.mp hu).2
theorem cWn_at {k n E n2 E2 : Nat} {st st2 : Nat → Nat → Nat} (hm : rOK k n E st) (hm2 : rOK k n2 E2 st2) {u : List Nat} (hu : tx k u) : cWn 3 n E n2 E2 (dr (cAf k n st n2 st2) 0 u) = (E.testBit (dr st 0 u) != E2.testBit (dr st2 0 u)) := by
  have r := cAf_run hm hm2 u 0 0 hm.2.2.1 hm2.2.2.1 hu
  have l1 := dr_lt hm.2.2.2.2 u 0 hm.2.2.1 hu
  have l2 := dr_lt hm2.2.2.2.2 u 0 hm2.2.2.1 hu
  have n2' := hm2.2.1
  rw [show 40 * 0 + 0 = 0 from rfl] at r
  rw [r, cWn, show (40 * dr st 0 u + dr st2 0 u) / 40 = dr st 0 u by omega, show (40 * dr st 0 u + dr st2 0 u) % 40 = dr st2 0 u by omega, inE, inE, decide_eq_true l1, decide_eq_true l2, Bool.true_and, Bool.true_and]
  rfl
/-- the way to the first pair that tells is no longer than the states are many -/
theorem dep_ok {k n E n2 E2 : Nat} {st st2 : Nat → Nat → Nat} (hk : 0 < k) (hm : rOK k n E st) (hm2 : rOK k n2 E2 st2) : ∀ i1, i1 < (bfs k (cAf k n st n2 st2) (i1 * k)).length → (∀ j1, j1 < i1 → cWn 3 n E n2 E2 (bQ (bfs k (cAf k n st n2 st2) (i1 * k)) j1) = false) → cWn 3 n E n2 E2 (bQ (bfs k (cAf k n st n2 st2) (i1 * k)) i1) = true → ∃ d, d ≤ 100 ∧ bup (bfs k (cAf k n st n2 st2) (i1 * k)) i1 d = 0 ∧ ∀ j1, j1 < d → bup (bfs k (cAf k n st n2 st2) (i1 * k)) i1 j1 ≠ 0 := by
  intro i hi hno hy
  have hb := bfI_all (A := cAf k n st n2 st2) hk (i * k)
  obtain ⟨d, u, h1, h2, h3, h4⟩ := dpt_tx hb i hi
  refine ⟨d, ?_, h1.1, h1.2⟩
  have n1 := hm.2.1
  have n2' := hm2.2.1
  rcases Nat.lt_or_ge (n + n2) d with q | q
  · exfalso
    have same : ∀ w, tx k w → w.length < d → E.testBit (dr st 0 w) = E2.testBit (dr st2 0 w) := by
      intro w hw hl
      obtain ⟨j, g1, g2⟩ := bfs_lo hk hi h1 _ w rfl hw hl
      have := hno j g1
      rw [g2, cWn_at hm hm2 hw] at this
      cases e1 : E.testBit (dr st 0 w) <;> cases e2 : E2.testBit (dr st2 0 w) <;> rw [e1, e2] at this <;> first | rfl | cases this
    have hd : ∀ p a, p < n + n2 → a < k → sbs n st st2 p a < n + n2 := by
      intro p a hp ha
      unfold sbs
      split
      · rename_i g; have := hm.2.2.2.2 p a g ha; omega
      · have := hm2.2.2.2.2 (p - n) a (by omega) ha; omega
    have ZZ : ∀ w, tx k w → (fun x => if x < n then E.testBit x else E2.testBit (x - n)) (dr (sbs n st st2) 0 w) = E.testBit (dr st 0 w) ∧ (fun x => if x < n then E.testBit x else E2.testBit (x - n)) (dr (sbs n st st2) (n + 0) w) = E2.testBit (dr st2 0 w) := by
      intro w hw
      have l1 := dr_lt hm.2.2.2.2 w 0 hm.2.2.1 hw
      rw [sbs_1 (n2 := n2) hm.2.2.2.2 w 0 hm.2.2.1 hw, sbs_2 (k := k)]
      dsimp only
      rw [if_pos l1, if_neg (by omega), Nat.add_sub_cancel_left]
      exact ⟨rfl, rfl⟩
    have hq := moore (Z := fun x => if x < n then E.testBit x else E2.testBit (x - n)) hd (by have := hm.2.2.1; omega) (show 0 < n + n2 by have := hm.2.2.1; omega) (show n + 0 < n + n2 by have := hm2.2.2.1; omega) (fun w hw hl => by
      rw [(ZZ w hw).1, (ZZ w hw).2]
      exact same w hw (by omega))
    have hu := hq u h2
    rw [(ZZ u h2).1, (ZZ u h2).2] at hu
    rw [← h4, cWn_at hm hm2 h2, hu] at hy
    cases e : E2.testBit (dr st2 0 u) <;> rw [e] at hy <;> cases hy
  · omega
