/-! TEXTS THAT ARE COLLECTED: make AND when -/
theorem maF_z {fb cl : Nat → Nat} {z a : Nat} : ∀ fu kp, maF fb cl z a fu kp ≤ z
  | 0, _ => by simp [maF]
  | fu + 1, kp => by
    rw [maF]
    split
    · omega
    · split
      · omega
      · exact maF_z fu _
theorem maF_up {fb cl : Nat → Nat} {z a n : Nat} (hn : n ≤ 100) (hfb : fbOK cl fb n) : maF fb cl z a 101 n ≤ n + 1 := (maF_best (z := z) (a := a) hn hfb 101 n (by omega) (Or.inl rfl)).1
theorem fb_le {cl fb : Nat → Nat} {n m : Nat} (h : fbOK cl fb n) (hm : m ≤ n) : fbOK cl fb m := fun x h1 h2 => h x h1 (by omega)
/-- the places of a text's rule -/
def tV (z S : Nat) : Prop := S ≤ z ∨ S = 101
theorem tAf_V {fb cl : Nat → Nat} {z op S a : Nat} (h : tV z S) : tV z (tAf fb cl z op S a) := by
  unfold tAf
  split
  · exact h
  · split
    · split
      · exact Or.inl (by omega)
      · exact Or.inr rfl
    · exact Or.inl (maF_z _ _)
theorem exT_no {k z op p a : Nat} {fb cl F L : Nat → Nat} (hz : z ≤ 100) (h : exI k (fun S9 a9 => tAf fb cl z op S9 a9) 0 F L 200 p a) : False := by
  have hV := exI_all (V := tV z) h (Or.inl (Nat.zero_le _)) (fun x b hx _ => tAf_V hx)
  have := php_le (a := 200) (c := 102) (f := F) (fun i hi => by rcases hV i hi with q | q <;> omega) h.2.2.2.1
  omega
theorem tie_make0 {k z : Nat} {fb cl L : Nat → Nat} {Z : Nat → Bool} (hz : z ≤ 100) (hL : ∀ p b, p < z + 2 → b < k → dL L p b = if p < z ∧ b = cl p then p + 1 else z + 1) (hZ : ∀ p, p < z + 2 → Z p = decide (p = z)) (u : List Nat) (hu : tx k u) : lng L Z u = decide (dr (fun S9 a9 => tAf fb cl z 0 S9 a9) 0 u = z) := by
  refine sim_tx (Z' := fun S => decide (S = z)) (R := fun p S => (S = p ∧ p ≤ z) ∨ (S = 101 ∧ p = z + 1)) (fun p S b hr hb => ?_) (fun p S hr => ?_) u 0 0 (Or.inl ⟨rfl, Nat.zero_le _⟩) hu
  · unfold tAf
    rw [if_neg (by omega), if_pos (by omega)]
    rcases hr with ⟨e1, e2⟩ | ⟨e1, e2⟩
    · subst e1
      rw [hL S b (by omega) hb]
      by_cases q : S < z ∧ b = cl S
      · rw [if_pos q, if_pos ⟨q.1, q.2.symm⟩]; exact Or.inl ⟨rfl, by omega⟩
      · rw [if_neg q, if_neg (fun h => q ⟨h.1, h.2.symm⟩)]; exact Or.inr ⟨rfl, rfl⟩
    · rw [hL p b (by omega) hb, if_neg (by omega), if_neg (by omega)]
      exact Or.inr ⟨rfl, rfl⟩
  · rcases hr with ⟨e1, e2⟩ | ⟨e1, e2⟩
    · subst e1; exact hZ S (by omega)
    · rw [hZ p (by omega), decide_eq_false (by omega), decide_eq_false (by omega)]
/-- a place of the class's rule as a state of the reference's condition -/
def dlt (z S : Nat) : Nat := if S = 101 then z + 1 else S
theorem dlt_inj {z S S' : Nat} (hz : z ≤ 100) (h : tV z S) (h' : tV z S') (e : dlt z S = dlt z S') : S = S' := by
  unfold dlt at e
  rcases h with q | q <;> rcases h' with q' | q'
  · rw [if_neg (by omega), if_neg (by omega)] at e; exact e
  · rw [if_neg (by omega), if_pos q'] at e; omega
  · rw [if_pos q, if_neg (by omega)] at e; omega
  · omega
noncomputable def csn (cl : Nat → Nat) (op n S b : Nat) : Nat := Classical.epsilon (fun v => cdO cl op n S b v)
theorem cdO_uniq {cl : Nat → Nat} {op n S b v v' : Nat} (h : cdO cl op n S b v) (h' : cdO cl op n S b v') : v = v' := by
  unfold cdO at h h'
  split at h
  · rename_i q
    rw [if_pos q] at h'
    omega
  · rename_i q
    rw [if_neg q] at h'
    split at h
    · rename_i q2
      rw [if_pos q2] at h'
      exact Nat.le_antisymm (h'.2 v h.1.1 h.1.2.1 h.1.2.2) (h.2 v' h'.1.1 h'.1.2.1 h'.1.2.2)
    · rename_i q2
      rw [if_neg q2] at h'
      split at h
      · rename_i q3
        rw [if_pos q3] at h'
        omega
      · rename_i q3
        rw [if_neg q3] at h'
        omega
theorem csn_eq {cl : Nat → Nat} {op n S b v : Nat} (h : cdO cl op n S b v) : csn cl op n S b = v := cdO_uniq (Classical.epsilon_spec (p := fun v => cdO cl op n S b v) ⟨v, h⟩) h
theorem tie_cd {fb cl : Nat → Nat} {z op S b : Nat} (hz : z ≤ 100) (hfb : fbOK cl fb z) (hop : op < 4) (hS : tV z S) (hd : dlt z S < cdM op z) : cdO cl op z (dlt z S) b (dlt z (tAf fb cl z op S b)) := by
  unfold cdO
  by_cases e : S = 101
  · subst e
    have e1 : dlt z 101 = z + 1 := by unfold dlt; rw [if_pos rfl]
    rw [e1] at hd ⊢
    have h2 : ¬ 2 ≤ op := by
      intro q
      unfold cdM at hd
      rw [if_pos q] at hd
      omega
    have e2 : tAf fb cl z op 101 b = 101 := by
      unfold tAf
      rw [if_neg (by omega), if_pos (by omega), if_neg (by omega)]
    rw [e2, e1, if_neg (by omega), if_neg h2, if_neg (by omega)]
    unfold cdM at hd ⊢
    rw [if_neg h2] at hd ⊢
    split at hd
    · omega
    · rename_i q; rw [if_neg q]; omega
  · have hSz : S ≤ z := by rcases hS with q | q; exact q; exact absurd q e
    have e1 : dlt z S = S := by unfold dlt; rw [if_neg e]
    rw [e1] at hd ⊢
    by_cases h1 : (op = 1 ∧ S = z) ∨ (op = 3 ∧ S = z)
    · rw [if_pos h1]
      have : tAf fb cl z op S b = S := by unfold tAf; rw [if_pos (by omega)]
      rw [this, e1]
    · rw [if_neg h1]
      by_cases h2 : 2 ≤ op
      · rw [if_pos h2]
        have e2 : tAf fb cl z op S b = maF fb cl z b 101 S := by unfold tAf; rw [if_neg (by omega), if_neg (by omega)]
        have hle := maF_z (fb := fb) (cl := cl) (z := z) (a := b) 101 S
        have e3 : dlt z (tAf fb cl z op S b) = maF fb cl z b 101 S := by rw [e2]; unfold dlt; rw [if_neg (by omega)]
        rw [e3]
        obtain ⟨g1, g2, g3, g4⟩ := maF_best (z := z) (a := b) (show S ≤ 100 by omega) (fb_le hfb hSz) 101 S (by omega) (Or.inl rfl)
        exact ⟨⟨g1, g2, g3⟩, fun m h3 h4 h5 => g4 m h3 h4 h5⟩
      · rw [if_neg h2]
        have e2 : tAf fb cl z op S b = if S < z ∧ cl S = b then S + 1 else 101 := by unfold tAf; rw [if_neg (by omega), if_pos (by omega)]
        rw [e2]
        by_cases h3 : S < z ∧ cl S = b
        · rw [if_pos h3, if_pos h3]; unfold dlt; rw [if_neg (by omega)]
        · rw [if_neg h3, if_neg h3]
          unfold dlt
          rw [if_pos rfl]
          unfold cdM at hd ⊢
          rw [if_neg h2] at hd ⊢
          split
          · rename_i q
            exact absurd (Or.inl ⟨q.1, by omega⟩) h1
          · omega
theorem tdl_lt {fb cl : Nat → Nat} {z op S b : Nat} (hz : z ≤ 100) (hfb : fbOK cl fb z) (hop : op < 4) (hS : tV z S) (hd : dlt z S < cdM op z) : dlt z (tAf fb cl z op S b) < cdM op z := cdO_lt hd (tie_cd hz hfb hop hS hd)
/-- the places are told apart -/
def suf (cl : Nat → Nat) (z S : Nat) : List Nat := (List.range (z - S)).map (fun i => cl (S + i))
theorem suf_tx {k z S : Nat} {cl : Nat → Nat} (hcl : ∀ i, i < z → cl i < k) : tx k (suf cl z S) := by
  intro a ha
  obtain ⟨i, hi, rfl⟩ := List.mem_map.mp ha
  have := List.mem_range.mp hi
  exact hcl _ (by omega)
theorem suf_s {z S : Nat} {cl : Nat → Nat} (h : S < z) : suf cl z S = cl S :: suf cl z (S + 1) := by
  unfold suf
  obtain ⟨m, hm⟩ : ∃ m, z - S = m + 1 := ⟨z - S - 1, by omega⟩
  rw [hm, List.range_succ_eq_map, List.map_cons, List.map_map, show z - (S + 1) = m by omega]
  congr 1
  apply List.map_congr_left
  intro i _
  show cl (S + (i + 1)) = cl (S + 1 + i)
  congr 1
  omega
theorem suf_run {fb cl : Nat → Nat} {z op : Nat} (hz : z ≤ 100) : ∀ (m S : Nat), z - S = m → S ≤ z → dr (fun S9 a9 => tAf fb cl z op S9 a9) S (suf cl z S) = z := by
  intro m
  induction m with
  | zero =>
    intro S h1 h2
    have : S = z := by omega
    subst this
    unfold suf
    rw [Nat.sub_self]
    rfl
  | succ m ih =>
    intro S h1 h2
    rw [suf_s (by omega)]
    show dr _ (tAf fb cl z op S (cl S)) _ = z
    have e : tAf fb cl z op S (cl S) = S + 1 := by
      unfold tAf
      rw [if_neg (by omega)]
      split
      · rw [if_pos ⟨by omega, rfl⟩]
      · show maF fb cl z (cl S) (100 + 1) S = S + 1
        rw [maF, if_pos ⟨by omega, rfl⟩]
    rw [e]
    exact ih (S + 1) (by omega) (by omega)
/-- from S no more than so many letters get on -/
theorem run_up {k z op : Nat} {fb cl : Nat → Nat} (hz : z ≤ 100) (hfb : fbOK cl fb z) : ∀ (u : List Nat) (S : Nat), tV z S → S + u.length < z ∨ S = 101 ∧ op < 2 → dr (fun S9 a9 => tAf fb cl z op S9 a9) S u ≠ z
  | [], S, hV, h => by
    show S ≠ z
    simp at h
    omega
  | b :: u, S, hV, h => by
    show dr _ (tAf fb cl z op S b) u ≠ z
    refine run_up (k := k) hz hfb u _ (tAf_V hV) ?_
    rcases h with h | ⟨h1, h2⟩
    · simp at h
      unfold tAf
      rw [if_neg (by omega)]
      split
      · rename_i q
        split
        · exact Or.inl (by omega)
        · exact Or.inr ⟨rfl, by omega⟩
      · have := maF_up (z := z) (a := b) (show S ≤ 100 by omega) (fb_le hfb (show S ≤ z by omega))
        exact Or.inl (by omega)
    · subst h1
      unfold tAf
      rw [if_neg (by omega), if_pos (by omega), if_neg (by omega)]
      exact Or.inr ⟨rfl, h2⟩
theorem suf_len {cl : Nat → Nat} {z S : Nat} : (suf cl z S).length = z - S := by simp [suf]
theorem t_apart {k z op S S' : Nat} {fb cl : Nat → Nat} (hz : z ≤ 100) (hfb : fbOK cl fb z) (hcl : ∀ i, i < z → cl i < k) (hS : tV z S) (hS' : tV z S') (h1 : S = 101 → op < 2) (h2 : S' = 101 → op < 2) (h : ∀ u, tx k u → (dr (fun S9 a9 => tAf fb cl z op S9 a9) S u = z ↔ dr (fun S9 a9 => tAf fb cl z op S9 a9) S' u = z)) : S = S' := by
  have one : ∀ A B, tV z A → tV z B → (A = 101 → op < 2) → (∀ u, tx k u → (dr (fun S9 a9 => tAf fb cl z op S9 a9) A u = z ↔ dr (fun S9 a9 => tAf fb cl z op S9 a9) B u = z)) → B ≤ z → A < B ∨ A = 101 → False := by
    intro A B hA hB ho hh hBz hAB
    have r1 := suf_run (fb := fb) (cl := cl) (op := op) hz _ B rfl hBz
    have r2 := (hh _ (suf_tx hcl)).mpr r1
    refine run_up (k := k) hz hfb _ A hA ?_ r2
    rw [suf_len]
    rcases hAB with q | q
    · exact Or.inl (by omega)
    · exact Or.inr ⟨q, ho q⟩
  rcases Nat.lt_trichotomy S S' with q | q | q
  · exfalso
    rcases hS' with q' | q'
    · exact one S S' hS (Or.inl q') h1 h q' (Or.inl q)
    · have : S ≤ z := by rcases hS with g | g; exact g; omega
      exact one S' S (Or.inr q') hS h2 (fun u hu => (h u hu).symm) this (Or.inr q')
  · exact q
  · exfalso
    rcases hS with q' | q'
    · exact one S' S hS' (Or.inl q') h2 (fun u hu => (h u hu).symm) q' (Or.inl q)
    · have : S' ≤ z := by rcases hS' with g | g; exact g; omega
      exact one S S' (Or.inr q') hS' h1 h this (Or.inr q')
/-- the machine of a condition, as the class makes it: the places themselves -/
theorem cond_id {k z op z1 cn E1 : Nat} {fb cl F1 L1 : Nat → Nat} {Z1 : Nat → Bool} {f1 : Nat → Int32} {st1 : Nat → Nat → Nat} (hz : z ≤ 100) (hfb : fbOK cl fb z) (hop : op < 4) (hcl : ∀ i, i < z → cl i < k) (hx : exI k (fun S9 a9 => tAf fb cl z op S9 a9) 0 F1 L1 z1 z1 0) (hZ : ∀ i, i < z1 → Z1 i = decide (F1 i = z)) (hl : lst k z1 L1 Z1 cn E1 f1 st1) : cn = z1 ∧ (∀ p a, p < z1 → a < k → st1 p a = L1 (p * 4 + a)) ∧ ∀ p, p < z1 → E1.testBit p = Z1 p := by
  obtain ⟨_, hm, K, ⟨hf, hn⟩, hs, hE⟩ := hl
  have hV : ∀ i, i < z1 → tV z (F1 i) ∧ dlt z (F1 i) < cdM op z := by
    refine exI_all (V := fun S => tV z S ∧ dlt z S < cdM op z) hx ⟨Or.inl (Nat.zero_le _), ?_⟩ (fun x b hx _ => ⟨tAf_V hx.1, tdl_lt hz hfb hop hx.1 hx.2⟩)
    have : dlt z 0 = 0 := by unfold dlt; rw [if_neg (by omega)]
    rw [this]
    unfold cdM
    split
    · omega
    · split <;> omega
  have hdd : ∀ i, i < z1 → F1 i = 101 → op < 2 := by
    intro i hi e
    have := (hV i hi).2
    rw [e] at this
    unfold dlt cdM at this
    rw [if_pos rfl] at this
    rcases Nat.lt_or_ge op 2 with q | q
    · exact q
    · rw [if_pos q] at this; omega
  have run : ∀ p, p < z1 → ∀ u, tx k u → Z1 (dr (dL L1) p u) = decide (dr (fun S9 a9 => tAf fb cl z op S9 a9) (F1 p) u = z) := by
    intro p hp u hu
    refine sim_tx (Z' := fun S => decide (S = z)) (R := fun x y => x < z1 ∧ F1 x = y) (fun x y b hr hb => ?_) (fun x y hr => ?_) u p (F1 p) ⟨hp, rfl⟩ hu
    · obtain ⟨g1, g2⟩ := hx.2.2.2.2.1 x b hb (Or.inl hr.1)
      exact ⟨g1, by rw [← hr.2]; exact g2⟩
    · rw [hZ x hr.1, hr.2]
  have inj : ∀ p q, p < z1 → q < z1 → K p = K q → p = q := by
    intro p q hp hq e
    have hnr := (hn p q hp hq).mp e
    refine hx.2.2.2.1 p q hp hq (t_apart hz hfb hcl (hV p hp).1 (hV q hq).1 (hdd p hp) (hdd q hq) (fun u hu => ?_))
    have := hnr u hu
    rw [show (fun p9 a9 => L1 (p9 * 4 + a9)) = dL L1 from rfl, run p hp u hu, run q hq u hu, decide_eq_decide] at this
    exact this
  have idK : ∀ p, p < z1 → K p = p := by
    intro p
    induction p using Nat.strongRecOn with
    | _ p ih =>
      intro hp
      rcases Nat.lt_trichotomy (K p) p with q | q | q
      · have := ih (K p) q (by omega)
        exact (absurd (inj _ _ (by omega) hp this) (by omega))
      · exact q
      · obtain ⟨r, g1, g2⟩ := hf.2.2.1 p hp p q
        rw [ih r g1 (by omega)] at g2
        omega
  have e1 : cn = z1 := by
    apply Nat.le_antisymm
    · rcases Nat.lt_or_ge z1 cn with q | q
      · obtain ⟨p, g1, g2⟩ := hf.2.2.2 z1 q
        rw [idK p g1] at g2
        omega
      · exact q
    · rcases Nat.lt_or_ge cn z1 with q | q
      · have := hf.1 cn q
        rw [idK cn q] at this
        omega
      · exact q
  refine ⟨e1, fun p a hp ha => ?_, fun p hp => ?_⟩
  · have := hs p a hp ha
    have g := (hx.2.2.2.2.1 p a ha (Or.inl hp)).1
    rw [idK p hp, idK _ g] at this
    exact this
  · have := hE p hp
    rw [idK p hp] at this
    exact this
theorem cond_z {k z op z1 : Nat} {fb cl F1 L1 : Nat → Nat} (hz : z ≤ 100) (hfb : fbOK cl fb z) (hop : op < 4) (hk : 2 ≤ k) (hcl : ∀ i, i < z → cl i < k) (hx : exI k (fun S9 a9 => tAf fb cl z op S9 a9) 0 F1 L1 z1 z1 0) : z1 = cdM op z := by
  have d0 : dlt z 0 < cdM op z := by
    have : dlt z 0 = 0 := by unfold dlt; rw [if_neg (by omega)]
    rw [this]
    unfold cdM
    split
    · omega
    · split <;> omega
  have hV : ∀ i, i < z1 → tV z (F1 i) ∧ dlt z (F1 i) < cdM op z := exI_all (V := fun S => tV z S ∧ dlt z S < cdM op z) hx ⟨Or.inl (Nat.zero_le _), d0⟩ (fun x b hx _ => ⟨tAf_V hx.1, tdl_lt hz hfb hop hx.1 hx.2⟩)
  apply Nat.le_antisymm
  · exact php_le (f := fun i => dlt z (F1 i)) (fun i hi => (hV i hi).2) (fun i j hi hj e => hx.2.2.2.1 i j hi hj (dlt_inj hz (hV i hi).1 (hV j hj).1 e))
  · -- each is come to
    have step : ∀ x b, x < z1 → b < k → ∃ y, y < z1 ∧ F1 y = tAf fb cl z op (F1 x) b := fun x b hx9 hb => ⟨_, (hx.2.2.2.2.1 x b hb (Or.inl hx9)).1, (hx.2.2.2.2.1 x b hb (Or.inl hx9)).2⟩
    have low : ∀ s, s ≤ z → ∃ y, y < z1 ∧ F1 y = s := by
      intro s
      induction s with
      | zero => intro _; exact ⟨0, hx.1, hx.2.2.1⟩
      | succ s ih =>
        intro hs
        obtain ⟨y, g1, g2⟩ := ih (by omega)
        obtain ⟨y', g3, g4⟩ := step y (cl s) g1 (hcl s (by omega))
        refine ⟨y', g3, ?_⟩
        rw [g4, g2]
        unfold tAf
        rw [if_neg (by omega)]
        split
        · rw [if_pos ⟨by omega, rfl⟩]
        · show maF fb cl z (cl s) (100 + 1) s = s + 1
          rw [maF, if_pos ⟨by omega, rfl⟩]
    have all : ∀ s, ∃ y, s < cdM op z → y < z1 ∧ dlt z (F1 y) = s := by
      intro s
      by_cases h : s < cdM op z
      · by_cases hs : s ≤ z
        · obtain ⟨y, g1, g2⟩ := low s hs
          exact ⟨y, fun _ => ⟨g1, by rw [g2]; unfold dlt; rw [if_neg (by omega)]⟩⟩
        · -- the place from which nothing fits
          have h2 : op < 2 := by
            rcases Nat.lt_or_ge op 2 with q | q
            · exact q
            · unfold cdM at h; rw [if_pos q] at h; omega
          have h3 : ¬ (op = 1 ∧ z = 0) ∧ s = z + 1 := by
            unfold cdM at h
            rw [if_neg (by omega)] at h
            split at h
            · omega
            · rename_i q; exact ⟨q, by omega⟩
          have hb : ∃ b, b < k ∧ tAf fb cl z op 0 b = 101 := by
            by_cases q : z = 0
            · refine ⟨0, by omega, ?_⟩
              unfold tAf
              rw [if_neg (by omega), if_pos (by omega), if_neg (by omega)]
            · refine ⟨if cl 0 = 0 then 1 else 0, by split <;> omega, ?_⟩
              unfold tAf
              rw [if_neg (by omega), if_pos (by omega), if_neg (by split <;> omega)]
          obtain ⟨b, g1, g2⟩ := hb
          obtain ⟨y, g3, g4⟩ := step 0 b hx.1 g1
          refine ⟨y, fun _ => ⟨g3, ?_⟩⟩
          rw [g4, hx.2.2.1, g2, h3.2]
          unfold dlt
          rw [if_pos rfl]
      · exact ⟨0, fun e => absurd e h⟩
    obtain ⟨Y, hY⟩ := Classical.axiomOfChoice all
    exact php_le (f := Y) (fun s hs => (hY s hs).1) (fun s s' hs hs' e => by rw [← (hY s hs).2, ← (hY s' hs').2, e])
/-- the pairs of a machine's state and a condition's -/
noncomputable def whA (k n : Nat) (st : Nat → Nat → Nat) (cl : Nat → Nat) (op z c b : Nat) : Nat := cdP (stp k n st (c % 128) b) (csn cl op z (c / 128) b)
def whZ (how n E z c : Nat) : Bool := wnt how (inE n E (c % 128)) (decide (c / 128 = z))
theorem when_map {k z op z1 n E E1 cn p a : Nat} {fb cl F1 L1 F L : Nat → Nat} {f : Nat → Int32} {st st1 : Nat → Nat → Nat} (hm : mOK k n E f st) (hz : z ≤ 100) (hfb : fbOK cl fb z) (hop : op < 4) (hcn : cn = z1) (hc40 : cn ≤ 40) (hst : ∀ p a, p < z1 → a < k → st1 p a = L1 (p * 4 + a)) (hx : exI k (fun S9 a9 => tAf fb cl z op S9 a9) 0 F1 L1 z1 z1 0) {zz : Nat} (h : exI k (fun S9 a9 => pAf k n st cn st1 S9 a9) 0 F L zz p a) (hp : ∀ q b, lx q b p a → q < zz) : exI k (whA k n st cl op z) 0 (fun i => cdP (F i / 64) (dlt z (F1 (F i % 64)))) L zz p a := by
  subst hcn
  have hn := hm.2.1
  have d0 : dlt z 0 = 0 := by unfold dlt; rw [if_neg (by omega)]
  have d0' : dlt z 0 < cdM op z := by
    rw [d0]
    unfold cdM
    split
    · omega
    · split <;> omega
  have hV : ∀ i, i < cn → tV z (F1 i) ∧ dlt z (F1 i) < cdM op z := exI_all (V := fun S => tV z S ∧ dlt z S < cdM op z) hx ⟨Or.inl (Nat.zero_le _), d0'⟩ (fun x b hx _ => ⟨tAf_V hx.1, tdl_lt hz hfb hop hx.1 hx.2⟩)
  have cl9 : ∀ x b, x < cn → b < k → stp k cn st1 x b < cn ∧ F1 (stp k cn st1 x b) = tAf fb cl z op (F1 x) b := by
    intro x b hx9 hb
    rw [stp_in hx9 hb, hst x b hx9 hb]
    exact hx.2.2.2.2.1 x b hb (Or.inl hx9)
  refine exI_map (V := fun c => c / 64 < n ∧ c % 64 < cn) (φ := fun c => cdP (c / 64) (dlt z (F1 (c % 64)))) h ⟨hm.2.2.1, hx.1⟩ (fun x b hx9 hb => ?_) ?_ (fun x b hx9 hb => ?_) (fun x y hx9 hy9 e => ?_) hp
  · unfold pAf
    have h1 := stp_lt hm (x / 64) b
    have h2 := (cl9 (x % 64) b hx9.2 hb).1
    omega
  · show cdP (0 / 64) (dlt z (F1 (0 % 64))) = 0
    rw [show (0 : Nat) % 64 = 0 from rfl, hx.2.2.1, d0]
    rfl
  · have h1 := stp_lt hm (x / 64) b
    obtain ⟨h2, h3⟩ := cl9 (x % 64) b hx9.2 hb
    have e1 : pAf k n st cn st1 x b / 64 = stp k n st (x / 64) b := by unfold pAf; omega
    have e2 : pAf k n st cn st1 x b % 64 = stp k cn st1 (x % 64) b := by unfold pAf; omega
    obtain ⟨v1, v2⟩ := hV (x % 64) hx9.2
    rw [e1, e2, whA, cdP_m (by omega), cdP_d (by omega), h3, csn_eq (tie_cd hz hfb hop v1 v2)]
  · obtain ⟨e1, e2⟩ := cdP_inj (by omega) (by omega) e
    have e3 := hx.2.2.2.1 _ _ hx9.2 hy9.2 (dlt_inj hz (hV _ hx9.2).1 (hV _ hy9.2).1 e2)
    omega
