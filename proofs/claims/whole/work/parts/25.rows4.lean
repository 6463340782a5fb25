/-! ARRAYS OF NUMBERS -/
def iA (G : Nat → Nat) : Nat → Int32 := fun i => nI (G i)
def lA (G : Nat → Nat) : Nat → Int64 := fun i => lN (G i)
def zA (P : Nat → Bool) : Nat → Int32 := fun i => bI (P i)
def nu {α : Type} (G : Nat → α) (i : Nat) (x : α) : Nat → α := fun j => if j = i then x else G j
theorem nu_s {α : Type} {G : Nat → α} {i : Nat} {x : α} : nu G i x i = x := by simp [nu]
theorem nu_n {α : Type} {G : Nat → α} {i j : Nat} {x : α} (h : j ≠ i) : nu G i x j = G j := by simp [nu, h]
theorem nu_e {α : Type} {G : Nat → α} {i j : Nat} {x : α} (h : j = i) : nu G i x j = x := by simp [nu, h]
def ncp {α : Type} (G K : Nat → α) (n : Nat) : Nat → α := fun j => if j < n then G j else K j
theorem iA_upd {G : Nat → Nat} {i x : Nat} : upd (iA G) i (nI x) = iA (nu G i x) := by
  funext j
  by_cases h : j = i <;> simp [upd, iA, nu, h]
theorem lA_upd {G : Nat → Nat} {i x : Nat} : vp_updL (lA G) i (lN x) = lA (nu G i x) := by
  funext j
  by_cases h : j = i <;> simp [vp_updL, lA, nu, h]
theorem zA_upd {P : Nat → Bool} {i : Nat} {x : Bool} : upd (zA P) i (vp_nar .boolean (bI x)) = zA (nu P i x) := by
  funext j
  rw [bI_nar]
  by_cases h : j = i <;> simp [upd, zA, nu, h]
theorem iA_cpy {G K : Nat → Nat} {n : Nat} : va_cpy (iA G) (iA K) 0 0 n = iA (ncp G K n) := by
  funext j
  by_cases h : j < n <;> simp [va_cpy, iA, ncp, h]
theorem lA_cpy {G K : Nat → Nat} {n : Nat} : va_cpy (lA G) (lA K) 0 0 n = lA (ncp G K n) := by
  funext j
  by_cases h : j < n <;> simp [va_cpy, lA, ncp, h]
section R4
variable {p : Program} {l : Launch} {e : Env} {R : Room} {s : State} {m : MethodId} {args : Array Value} {below : List Frame} {meth : Method} {c : Code} {H : Heap} {locs : List Loc} {cells slots : Nat} {Q : State → Prop}
variable {cc : ByteArray} {pc nL : Nat} {ls : Array Slot} {rest st0 : List Value} {D : va_G} {t : Nat → ClassId} {A : Nat → Prop} {a : Nat} {w : wf_W} {H0 : Heap} {own nm : String} {ret : Option FieldType} {wl wl' : List (Nat × va_E)}
theorem riastA (X : Cx p s m meth c own nm cc nL ret D t) (hB : wf_B D wcl A H0 (wf_l w wl) H locs) (hN : nd (wl.map Prod.fst)) (q : Nat) {n : Nat} {G : Nat → Nat} (ha : wl[q]? = some (a, .inl (t 0, n, .inl (iA G)))) {i : Nat} {x : Nat} (hi : i < n) (hn : n < 2 ^ 31) (hdg : decode cc pc = .ok (.iastore, 1)) (hwl : wl.set q (a, .inl (t 0, n, .inl (iA (nu G i x)))) = wl')
    (kk : ∀ (H : Heap) (locs : List Loc), wf_B D wcl A H0 (wf_l w wl') H locs → W p l e R s m args below meth c H locs cells slots Q (F0 m (pc + 1) ls rest)) : W p l e R s m args below meth c H locs cells slots Q (F0 m pc ls (.int (nI x) :: .int (nI i) :: .ref a :: rest)) :=
  riast X hB hN q ha hi hn hdg (by rw [iA_upd]; exact hwl) kk
theorem rlastA (X : Cx p s m meth c own nm cc nL ret D t) (hB : wf_B D wcl A H0 (wf_l w wl) H locs) (hN : nd (wl.map Prod.fst)) (q : Nat) {n : Nat} {G : Nat → Nat} (ha : wl[q]? = some (a, .inl (t 1, n, .inr (.inl (lA G))))) {i : Nat} {x : Nat} (hi : i < n) (hn : n < 2 ^ 31) (hdg : decode cc pc = .ok (.lastore, 1)) (hwl : wl.set q (a, .inl (t 1, n, .inr (.inl (lA (nu G i x))))) = wl')
    (kk : ∀ (H : Heap) (locs : List Loc), wf_B D wcl A H0 (wf_l w wl') H locs → W p l e R s m args below meth c H locs cells slots Q (F0 m (pc + 1) ls rest)) : W p l e R s m args below meth c H locs cells slots Q (F0 m pc ls (.long (lN x) :: .int (nI i) :: .ref a :: rest)) :=
  rlast X hB hN q ha hi hn hdg (by rw [lA_upd]; exact hwl) kk
theorem rzastA (X : Cx p s m meth c own nm cc nL ret D t) (hB : wf_B D wcl A H0 (wf_l w wl) H locs) (hN : nd (wl.map Prod.fst)) (q : Nat) {n : Nat} {G : Nat → Bool} (ha : wl[q]? = some (a, .inl (t 2, n, .inl (zA G)))) {i : Nat} {x : Bool} (hi : i < n) (hn : n < 2 ^ 31) (hdg : decode cc pc = .ok (.bastore, 1)) (hwl : wl.set q (a, .inl (t 2, n, .inl (zA (nu G i x)))) = wl')
    (kk : ∀ (H : Heap) (locs : List Loc), wf_B D wcl A H0 (wf_l w wl') H locs → W p l e R s m args below meth c H locs cells slots Q (F0 m (pc + 1) ls rest)) : W p l e R s m args below meth c H locs cells slots Q (F0 m pc ls (.int (bI x) :: .int (nI i) :: .ref a :: rest)) :=
  rzast X hB hN q ha hi hn hdg (by rw [zA_upd]; exact hwl) kk
end R4
