/-! FOUR NUMBERS OF SIX BITS IN ONE -/
def lo6 (v : Int32) : Nat := v.toBitVec.toNat % 64
def pkN (f : Nat → Int32) (s : Nat) : Nat := lo6 (f (s * 4 + 0)) + 64 * lo6 (f (s * 4 + 1)) + 4096 * lo6 (f (s * 4 + 2)) + 262144 * lo6 (f (s * 4 + 3))
def pkA (f : Nat → Int32) : Nat → Int32 := fun s => nI (pkN f s)
theorem lo6_lt (v : Int32) : lo6 v < 64 := Nat.mod_lt _ (by decide)
theorem lo6_n {n : Nat} (h : n < 64) : lo6 (nI n) = n := by
  unfold lo6
  rw [pk_tn (show n < 2 ^ 32 by omega), Nat.mod_eq_of_lt h]
theorem pkN_lt (f : Nat → Int32) (s : Nat) : pkN f s < 16777216 := by
  have h0 := lo6_lt (f (s * 4 + 0))
  have h1 := lo6_lt (f (s * 4 + 1))
  have h2 := lo6_lt (f (s * 4 + 2))
  have h3 := lo6_lt (f (s * 4 + 3))
  unfold pkN
  omega
theorem pk_four {x0 x1 x2 x3 : Nat} (h0 : x0 < 64) (h1 : x1 < 64) (h2 : x2 < 64) (h3 : x3 < 64) : (x0 + 64 * x1 + 4096 * x2 + 262144 * x3) / 1 % 64 = x0 ∧ (x0 + 64 * x1 + 4096 * x2 + 262144 * x3) / 64 % 64 = x1 ∧ (x0 + 64 * x1 + 4096 * x2 + 262144 * x3) / 4096 % 64 = x2 ∧ (x0 + 64 * x1 + 4096 * x2 + 262144 * x3) / 262144 % 64 = x3 := by
  refine ⟨?_, ?_, ?_, ?_⟩ <;> omega
theorem pkN_get (f : Nat → Int32) (s : Nat) : ∀ a, a < 4 → pkN f s / 2 ^ (a * 6) % 64 = lo6 (f (s * 4 + a)) := by
  have h := pk_four (lo6_lt (f (s * 4 + 0))) (lo6_lt (f (s * 4 + 1))) (lo6_lt (f (s * 4 + 2))) (lo6_lt (f (s * 4 + 3)))
  intro a ha
  match a, ha with
  | 0, _ => exact h.1
  | 1, _ => exact h.2.1
  | 2, _ => exact h.2.2.1
  | 3, _ => exact h.2.2.2
  | a + 4, h => exact absurd h (by omega)
theorem sh32 : ∀ k, k < 32 → (((nI k).toUInt32 &&& Int32.toUInt32 31).toBitVec % 32).toNat = k := by decide +kernel
theorem sh32l : ∀ k, k < 32 → ((nI k &&& 31).toBitVec.smod 32).toNat = k := by decide +kernel
theorem wi_and63 {n : Nat} (h : n < 2 ^ 32) : nI n &&& nI 63 = nI (n % 64) := pk_andN (m := nI 63) h 6 (by decide)
theorem tb3 {H x L m : Nat} (hx : x < 2 ^ 6) (hL : L < 2 ^ m) (j : Nat) : (2 ^ m * (2 ^ 6 * H + x) + L).testBit j = if j < m then L.testBit j else if j - m < 6 then x.testBit (j - m) else H.testBit (j - m - 6) := by
  rw [Nat.testBit_two_pow_mul_add _ hL, Nat.testBit_two_pow_mul_add _ hx]
theorem b63 : ∀ i, i < 6 → Nat.testBit 63 i = true := by decide
theorem set6b {H x v L m : Nat} (hx : x < 2 ^ 6) (hv : v < 2 ^ 6) (hL : L < 2 ^ m) (j : Nat) : (((2 ^ m * (2 ^ 6 * H + x) + L).testBit j && (((63 * 2 ^ m).testBit j) ^^ true)) || (v * 2 ^ m).testBit j) = (2 ^ m * (2 ^ 6 * H + v) + L).testBit j := by
  rw [tb3 hx hL, tb3 hv hL, Nat.testBit_mul_two_pow, Nat.testBit_mul_two_pow]
  rcases Nat.lt_or_ge j m with q | q
  · rw [if_pos q, if_pos q, decide_eq_false (show ¬ m ≤ j by omega)]
    cases L.testBit j <;> rfl
  · have q2 : ¬ j < m := by omega
    rw [if_neg q2, if_neg q2, decide_eq_true q]
    rcases Nat.lt_or_ge (j - m) 6 with r | r
    · rw [if_pos r, if_pos r, b63 _ r]
      cases x.testBit (j - m) <;> cases v.testBit (j - m) <;> rfl
    · have r2 : ¬ j - m < 6 := by omega
      have p2 : 2 ^ 6 ≤ 2 ^ (j - m) := Nat.pow_le_pow_right (by decide) r
      have e1 : Nat.testBit 63 (j - m) = false := Nat.testBit_lt_two_pow (Nat.lt_of_lt_of_le (by decide) p2)
      have e2 : v.testBit (j - m) = false := Nat.testBit_lt_two_pow (Nat.lt_of_lt_of_le hv p2)
      rw [if_neg r2, if_neg r2, e1, e2]
      cases H.testBit (j - m - 6) <;> rfl
theorem set6 {H x v L m : Nat} (hx : x < 2 ^ 6) (hv : v < 2 ^ 6) (hL : L < 2 ^ m) : (nI (2 ^ m * (2 ^ 6 * H + x) + L) &&& (nI (63 * 2 ^ m) ^^^ (-1))) ||| nI (v * 2 ^ m) = nI (2 ^ m * (2 ^ 6 * H + v) + L) := by
  apply Int32.toBitVec_inj.mp
  have hm1 : (-1 : Int32).toBitVec = BitVec.allOnes 32 := by decide
  rw [Int32.toBitVec_or, Int32.toBitVec_and, Int32.toBitVec_xor, hm1]
  apply BitVec.eq_of_getLsbD_eq
  intro j hj
  have e : ∀ n : Nat, (nI n).toBitVec.getLsbD j = n.testBit j := by
    intro n
    show (BitVec.ofNat 32 n).getLsbD j = n.testBit j
    rw [BitVec.getLsbD_ofNat, decide_eq_true hj, Bool.true_and]
  rw [BitVec.getLsbD_or, BitVec.getLsbD_and, BitVec.getLsbD_xor, BitVec.getLsbD_allOnes, e, e, e, e, decide_eq_true hj]
  exact set6b hx hv hL j
theorem pkN_cg {f g : Nat → Int32} {s : Nat} (h : ∀ b, b < 4 → f (s * 4 + b) = g (s * 4 + b)) : pkN f s = pkN g s := by
  unfold pkN
  rw [h 0 (by decide), h 1 (by decide), h 2 (by decide), h 3 (by decide)]
theorem pk_set (f : Nat → Int32) (u v : Nat) (hv : v < 64) : ∀ a, a < 4 → (nI (pkN f u) &&& (nI (63 * 2 ^ (a * 6)) ^^^ (-1))) ||| nI (v * 2 ^ (a * 6)) = nI (pkN (upd f (u * 4 + a) (nI v)) u) := by
  have h0 := lo6_lt (f (u * 4 + 0))
  have h1 := lo6_lt (f (u * 4 + 1))
  have h2 := lo6_lt (f (u * 4 + 2))
  have h3 := lo6_lt (f (u * 4 + 3))
  have key : ∀ (a H x L : Nat), x < 2 ^ 6 → L < 2 ^ (a * 6) → pkN f u = 2 ^ (a * 6) * (2 ^ 6 * H + x) + L → pkN (upd f (u * 4 + a) (nI v)) u = 2 ^ (a * 6) * (2 ^ 6 * H + v) + L → (nI (pkN f u) &&& (nI (63 * 2 ^ (a * 6)) ^^^ (-1))) ||| nI (v * 2 ^ (a * 6)) = nI (pkN (upd f (u * 4 + a) (nI v)) u) := by
    intro a H x L hx hL e1 e2
    rw [e1, e2]
    exact set6 hx hv hL
  intro a ha
  match a, ha with
  | 0, _ =>
    have e2 : pkN (upd f (u * 4 + 0) (nI v)) u = v + 64 * lo6 (f (u * 4 + 1)) + 4096 * lo6 (f (u * 4 + 2)) + 262144 * lo6 (f (u * 4 + 3)) := by
      unfold pkN
      rw [pk_us, pk_un (show u * 4 + 1 ≠ u * 4 + 0 by omega), pk_un (show u * 4 + 2 ≠ u * 4 + 0 by omega), pk_un (show u * 4 + 3 ≠ u * 4 + 0 by omega), lo6_n hv]
    have e1 : pkN f u = lo6 (f (u * 4 + 0)) + 64 * lo6 (f (u * 4 + 1)) + 4096 * lo6 (f (u * 4 + 2)) + 262144 * lo6 (f (u * 4 + 3)) := rfl
    have g1 : pkN f u = 1 * (64 * (lo6 (f (u * 4 + 1)) + 64 * lo6 (f (u * 4 + 2)) + 4096 * lo6 (f (u * 4 + 3))) + lo6 (f (u * 4 + 0))) + (0) := by
      rw [e1]
      omega
    have g2 : pkN (upd f (u * 4 + 0) (nI v)) u = 1 * (64 * (lo6 (f (u * 4 + 1)) + 64 * lo6 (f (u * 4 + 2)) + 4096 * lo6 (f (u * 4 + 3))) + v) + (0) := by
      rw [e2]
      omega
    exact key 0 (lo6 (f (u * 4 + 1)) + 64 * lo6 (f (u * 4 + 2)) + 4096 * lo6 (f (u * 4 + 3))) (lo6 (f (u * 4 + 0))) (0) h0 (show 0 < 1 by omega) g1 g2
  | 1, _ =>
    have e2 : pkN (upd f (u * 4 + 1) (nI v)) u = lo6 (f (u * 4 + 0)) + 64 * v + 4096 * lo6 (f (u * 4 + 2)) + 262144 * lo6 (f (u * 4 + 3)) := by
      unfold pkN
      rw [pk_un (show u * 4 + 0 ≠ u * 4 + 1 by omega), pk_us, pk_un (show u * 4 + 2 ≠ u * 4 + 1 by omega), pk_un (show u * 4 + 3 ≠ u * 4 + 1 by omega), lo6_n hv]
    have e1 : pkN f u = lo6 (f (u * 4 + 0)) + 64 * lo6 (f (u * 4 + 1)) + 4096 * lo6 (f (u * 4 + 2)) + 262144 * lo6 (f (u * 4 + 3)) := rfl
    have g1 : pkN f u = 64 * (64 * (lo6 (f (u * 4 + 2)) + 64 * lo6 (f (u * 4 + 3))) + lo6 (f (u * 4 + 1))) + (lo6 (f (u * 4 + 0))) := by
      rw [e1]
      omega
    have g2 : pkN (upd f (u * 4 + 1) (nI v)) u = 64 * (64 * (lo6 (f (u * 4 + 2)) + 64 * lo6 (f (u * 4 + 3))) + v) + (lo6 (f (u * 4 + 0))) := by
      rw [e2]
      omega
    exact key 1 (lo6 (f (u * 4 + 2)) + 64 * lo6 (f (u * 4 + 3))) (lo6 (f (u * 4 + 1))) (lo6 (f (u * 4 + 0))) h1 (show lo6 (f (u * 4 + 0)) < 64 by omega) g1 g2
  | 2, _ =>
    have e2 : pkN (upd f (u * 4 + 2) (nI v)) u = lo6 (f (u * 4 + 0)) + 64 * lo6 (f (u * 4 + 1)) + 4096 * v + 262144 * lo6 (f (u * 4 + 3)) := by
      unfold pkN
      rw [pk_un (show u * 4 + 0 ≠ u * 4 + 2 by omega), pk_un (show u * 4 + 1 ≠ u * 4 + 2 by omega), pk_us, pk_un (show u * 4 + 3 ≠ u * 4 + 2 by omega), lo6_n hv]
    have e1 : pkN f u = lo6 (f (u * 4 + 0)) + 64 * lo6 (f (u * 4 + 1)) + 4096 * lo6 (f (u * 4 + 2)) + 262144 * lo6 (f (u * 4 + 3)) := rfl
    have g1 : pkN f u = 4096 * (64 * (lo6 (f (u * 4 + 3))) + lo6 (f (u * 4 + 2))) + (lo6 (f (u * 4 + 0)) + 64 * lo6 (f (u * 4 + 1))) := by
      rw [e1]
      omega
    have g2 : pkN (upd f (u * 4 + 2) (nI v)) u = 4096 * (64 * (lo6 (f (u * 4 + 3))) + v) + (lo6 (f (u * 4 + 0)) + 64 * lo6 (f (u * 4 + 1))) := by
      rw [e2]
      omega
    exact key 2 (lo6 (f (u * 4 + 3))) (lo6 (f (u * 4 + 2))) (lo6 (f (u * 4 + 0)) + 64 * lo6 (f (u * 4 + 1))) h2 (show lo6 (f (u * 4 + 0)) + 64 * lo6 (f (u * 4 + 1)) < 4096 by omega) g1 g2
  | 3, _ =>
    have e2 : pkN (upd f (u * 4 + 3) (nI v)) u = lo6 (f (u * 4 + 0)) + 64 * lo6 (f (u * 4 + 1)) + 4096 * lo6 (f (u * 4 + 2)) + 262144 * v := by
      unfold pkN
      rw [pk_un (show u * 4 + 0 ≠ u * 4 + 3 by omega), pk_un (show u * 4 + 1 ≠ u * 4 + 3 by omega), pk_un (show u * 4 + 2 ≠ u * 4 + 3 by omega), pk_us, lo6_n hv]
    have e1 : pkN f u = lo6 (f (u * 4 + 0)) + 64 * lo6 (f (u * 4 + 1)) + 4096 * lo6 (f (u * 4 + 2)) + 262144 * lo6 (f (u * 4 + 3)) := rfl
    have g1 : pkN f u = 262144 * (64 * (0) + lo6 (f (u * 4 + 3))) + (lo6 (f (u * 4 + 0)) + 64 * lo6 (f (u * 4 + 1)) + 4096 * lo6 (f (u * 4 + 2))) := by
      rw [e1]
      omega
    have g2 : pkN (upd f (u * 4 + 3) (nI v)) u = 262144 * (64 * (0) + v) + (lo6 (f (u * 4 + 0)) + 64 * lo6 (f (u * 4 + 1)) + 4096 * lo6 (f (u * 4 + 2))) := by
      rw [e2]
      omega
    exact key 3 (0) (lo6 (f (u * 4 + 3))) (lo6 (f (u * 4 + 0)) + 64 * lo6 (f (u * 4 + 1)) + 4096 * lo6 (f (u * 4 + 2))) h3 (show lo6 (f (u * 4 + 0)) + 64 * lo6 (f (u * 4 + 1)) + 4096 * lo6 (f (u * 4 + 2)) < 262144 by omega) g1 g2
  | a + 4, h => exact absurd h (by omega)
theorem pkA_set {f : Nat → Int32} {u a v : Nat} : upd (pkA f) u (nI (pkN (upd f (u * 4 + a) (nI v)) u)) = pkA (upd f (u * 4 + a) (nI v)) ∨ 4 ≤ a := by
  rcases Nat.lt_or_ge a 4 with ha | ha
  · refine Or.inl (funext fun s => ?_)
    by_cases h : s = u
    · subst h
      rw [pk_us]
      rfl
    · rw [pk_un h]
      exact congrArg nI (pkN_cg fun b hb => (pk_un (show s * 4 + b ≠ u * 4 + a by omega)).symm)
  · exact Or.inr ha
theorem pkA_setE {f : Nat → Int32} {u a v : Nat} (ha : a < 4) : upd (pkA f) u (nI (pkN (upd f (u * 4 + a) (nI v)) u)) = pkA (upd f (u * 4 + a) (nI v)) := pkA_set.resolve_right (by omega)
theorem pkA_cpy {f g : Nat → Int32} : va_cpy (pkA f) (pkA g) 0 0 40 = pkA (ncp f g 160) := by
  funext s
  by_cases h : s < 40
  · have e : va_cpy (pkA f) (pkA g) 0 0 40 s = pkA f s := by simp [va_cpy, h]
    rw [e]
    exact congrArg nI (pkN_cg fun b hb => (if_pos (show s * 4 + b < 160 by omega)).symm)
  · have e : va_cpy (pkA f) (pkA g) 0 0 40 s = pkA g s := by simp [va_cpy, h]
    rw [e]
    exact congrArg nI (pkN_cg fun b hb => (if_neg (show ¬ s * 4 + b < 160 by omega)).symm)
def z4 (g : Nat → Int32) (i : Nat) : Nat → Int32 := fun j => if j / 4 = i then nI 0 else g j
theorem z4_s {g : Nat → Int32} {i j : Nat} (h : j / 4 = i) : z4 g i j = nI 0 := if_pos h
theorem z4_n {g : Nat → Int32} {i j : Nat} (h : ¬ j / 4 = i) : z4 g i j = g j := if_neg h
theorem pkN_0 : pkN (fun _ => nI 0) 0 = 0 := by decide
theorem pkA_0 : (fun _ : Nat => nI 0) = pkA (fun _ => nI 0) := by
  funext s
  show nI 0 = nI (pkN (fun _ => nI 0) 0)
  rw [pkN_0]
theorem pkA_z4 {g : Nat → Int32} {i : Nat} : upd (pkA g) i (nI 0) = pkA (z4 g i) := by
  funext s
  by_cases h : s = i
  · subst h
    rw [pk_us]
    show nI 0 = nI (pkN (z4 g s) s)
    rw [pkN_cg (f := z4 g s) (g := fun _ => nI 0) (fun b hb => z4_s (by omega))]
    show nI 0 = nI (pkN (fun _ => nI 0) 0)
    rw [pkN_0]
  · rw [pk_un h]
    exact congrArg nI (pkN_cg fun b hb => (z4_n (show ¬ (s * 4 + b) / 4 = i by omega)).symm)
def apart (A B : List Nat) : Prop := ∀ (i j a : Nat), A[i]? = some a → B[j]? = some a → False
theorem wf_ro {w : wf_W} {wl : List (Nat × va_E)} {A : List Nat} {a : Nat} {x : Option va_E} (hO : apart A (wl.map Prod.fst)) (i : Nat) (hi : A[i]? = some a) (h : w a = x) : wf_l w wl a = x := by
  rw [wf_lo]
  · exact h
  · intro hm
    obtain ⟨j, hj⟩ := List.getElem?_of_mem hm
    exact hO i j a hi hj
theorem apart_nil {B : List Nat} : apart [] B := fun i j a h _ => by simp at h
theorem nd_two {A B : List Nat} (hA : nd A) (hB : nd B) (hO : apart B A) : nd (A ++ B) := by
  intro i j a hi hj
  by_cases h1 : i < A.length
  · rw [List.getElem?_append_left h1] at hi
    by_cases h2 : j < A.length
    · rw [List.getElem?_append_left h2] at hj
      exact hA i j a hi hj
    · rw [List.getElem?_append_right (by omega)] at hj
      exact (hO _ _ a hj hi).elim
  · rw [List.getElem?_append_right (by omega)] at hi
    by_cases h2 : j < A.length
    · rw [List.getElem?_append_left h2] at hj
      exact (hO _ _ a hi hj).elim
    · rw [List.getElem?_append_right (by omega)] at hj
      have := hB _ _ a hi hj
      omega
theorem apart_mk {C Ro A B : List Nat} (hN : nd C) (hO : apart Ro C) (is js : List Nat) (hA : is.map (fun i => (C ++ Ro)[i]?) = A.map some) (hB : js.map (fun i => C[i]?) = B.map some) (hd : is.all (fun i => !js.contains i) = true) : apart A B := by
  intro i j a hi hj
  have h1 : (is.map (fun i => (C ++ Ro)[i]?))[i]? = some (some a) := by rw [hA, List.getElem?_map, hi]; rfl
  have h2 : (js.map (fun i => C[i]?))[j]? = some (some a) := by rw [hB, List.getElem?_map, hj]; rfl
  rw [List.getElem?_map] at h1 h2
  cases e1 : is[i]? with
  | none => rw [e1] at h1; cases h1
  | some x =>
    cases e2 : js[j]? with
    | none => rw [e2] at h2; cases h2
    | some y =>
      rw [e1] at h1
      rw [e2] at h2
      have h1 : (C ++ Ro)[x]? = some a := Option.some.inj h1
      have h2 : C[y]? = some a := Option.some.inj h2
      have hx := List.all_eq_true.mp hd x (List.mem_of_getElem? e1)
      have hy := List.mem_of_getElem? e2
      by_cases hl : x < C.length
      · rw [List.getElem?_append_left hl] at h1
        have := hN x y a h1 h2
        subst this
        simp [hy] at hx
      · rw [List.getElem?_append_right (by omega)] at h1
        exact hO _ _ a h1 h2
theorem apart_new {w : wf_W} {A B : List Nat} {q : Nat} (hO : apart A B) (hA : ∀ a, a ∈ A → w a ≠ none) (hq : w q = none) : apart A (B ++ [q]) := by
  intro i j a hi hj
  by_cases h1 : j < B.length
  · rw [List.getElem?_append_left h1] at hj
    exact hO i j a hi hj
  · rw [List.getElem?_append_right (by omega)] at hj
    have hz : j - B.length < 1 := (List.getElem?_eq_some_iff.mp hj).1
    rw [show j - B.length = 0 by omega] at hj
    have : q = a := Option.some.inj hj
    subst this
    exact hA q (List.mem_of_getElem? hi) hq
