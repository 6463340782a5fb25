/-! ROWS that make cells, and copies -/
theorem wf_lapp {L : List (Nat × va_E)} : ∀ {w : wf_W} {q : Nat} {x : va_E}, wf_l w (L ++ [(q, x)]) = wf_u (wf_l w L) q x := by
  induction L with
  | nil => intro w q x; rfl
  | cons y t ih => intro w q x; exact ih (w := wf_u w y.1 y.2)
theorem wf_lnone {L : List (Nat × va_E)} : ∀ {w : wf_W} {q : Nat}, wf_l w L q = none → w q = none := by
  induction L with
  | nil => intro w q h; exact h
  | cons y t ih =>
    intro w q h
    have h2 : wf_u w y.1 y.2 q = none := ih h
    by_cases hq : q = y.1
    · rw [hq, wf_us] at h2
      cases h2
    · rw [show wf_u w y.1 y.2 q = w q by simp [wf_u, hq]] at h2
      exact h2
theorem nd_push {L : List (Nat × va_E)} {w : wf_W} {q : Nat} (hN : nd (L.map Prod.fst)) (hq : wf_l w L q = none) : nd (L.map Prod.fst ++ [q]) := by
  have hne : ∀ (i a : Nat), (L.map Prod.fst)[i]? = some a → a ≠ q := by
    intro i a hi e
    subst e
    rw [List.getElem?_map] at hi
    cases hl : L[i]? with
    | none => rw [hl] at hi; cases hi
    | some y =>
      rw [hl] at hi
      have e1 : y.1 = a := Option.some.inj hi
      have := wf_lg (w := w) hN i (a := y.1) (x := y.2) hl
      rw [e1, hq] at this
      cases this
  intro i j a hi hj
  have key : ∀ k : Nat, (L.map Prod.fst ++ [q])[k]? = some a → ((L.map Prod.fst)[k]? = some a ∧ k < (L.map Prod.fst).length) ∨ (k = (L.map Prod.fst).length ∧ a = q) := by
    intro k hk
    by_cases h : k < (L.map Prod.fst).length
    · rw [List.getElem?_append_left h] at hk
      exact Or.inl ⟨hk, h⟩
    · rw [List.getElem?_append_right (by omega)] at hk
      have hz : k - (L.map Prod.fst).length < 1 := (List.getElem?_eq_some_iff.mp hk).1
      rw [show k - (L.map Prod.fst).length = 0 by omega] at hk
      exact Or.inr ⟨by omega, (Option.some.inj hk).symm⟩
  rcases key i hi with ⟨a1, a2⟩ | ⟨a1, a2⟩
  · rcases key j hj with ⟨b1, b2⟩ | ⟨b1, b2⟩
    · exact hN i j a a1 b1
    · exact absurd b2 (hne i a a1)
  · rcases key j hj with ⟨b1, b2⟩ | ⟨b1, b2⟩
    · exact absurd a2 (hne j a b1)
    · omega
theorem nd_app {wl : List (Nat × va_E)} {w : wf_W} : ∀ {qs : List Nat}, nd (wl.map Prod.fst) → nd qs → (∀ q, q ∈ qs → wf_l w wl q = none) → nd (wl.map Prod.fst ++ qs) := by
  intro qs hN hq h0
  have hin : ∀ (i a : Nat), (wl.map Prod.fst)[i]? = some a → a ∉ qs := by
    intro i a hi hm
    rw [List.getElem?_map] at hi
    cases hl : wl[i]? with
    | none => rw [hl] at hi; cases hi
    | some y =>
      rw [hl] at hi
      have e1 : y.1 = a := Option.some.inj hi
      have := wf_lg (w := w) hN i (a := y.1) (x := y.2) hl
      rw [e1, h0 a hm] at this
      cases this
  intro i j a hi hj
  have key : ∀ k : Nat, (wl.map Prod.fst ++ qs)[k]? = some a → ((wl.map Prod.fst)[k]? = some a) ∨ ((wl.map Prod.fst).length ≤ k ∧ qs[k - (wl.map Prod.fst).length]? = some a) := by
    intro k hk
    by_cases h : k < (wl.map Prod.fst).length
    · rw [List.getElem?_append_left h] at hk
      exact Or.inl hk
    · rw [List.getElem?_append_right (by omega)] at hk
      exact Or.inr ⟨by omega, hk⟩
  rcases key i hi with a1 | ⟨a1, a2⟩
  · rcases key j hj with b1 | ⟨b1, b2⟩
    · exact hN i j a a1 b1
    · exact absurd (List.mem_of_getElem? b2) (hin i a a1)
  · rcases key j hj with b1 | ⟨b1, b2⟩
    · exact absurd (List.mem_of_getElem? a2) (hin j a b1)
    · have := hq _ _ a a2 b2
      omega
theorem wlwN {w : wf_W} {L L1 : List (Nat × va_E)} {q : Nat} {x : va_E} {tl : List (Nat × va_E)} {W' : wf_W} (h1 : L ++ [(q, x)] = L1) (ht : wf_l (wf_l w L1) tl = W') : wf_l (wf_l w L) ((q, x) :: tl) = W' := by
  subst h1
  rw [wf_lapp] at ht
  exact ht
section R3
variable {p : Program} {l : Launch} {e : Env} {R : Room} {s : State} {m : MethodId} {args : Array Value} {below : List Frame} {meth : Method} {c : Code} {H : Heap} {locs : List Loc} {cells slots : Nat} {Q : State → Prop}
variable {cc : ByteArray} {pc nL : Nat} {ls : Array Slot} {rest st0 : List Value} {D : va_G} {t : Nat → ClassId} {A : Nat → Prop} {a : Nat} {w : wf_W} {H0 : Heap} {own nm : String} {ret : Option FieldType} {wl wl' : List (Nat × va_E)}
theorem rcopyi {idx : Nat} (X : Cx p s m meth c own nm cc nL ret D t) (hB : wf_B D wcl A H0 (wf_l w wl) H locs) (hN : nd (wl.map Prod.fst)) (q : Nat) (hls : ls.size = nL) {a0 n0 n1 : Nat} {f g : Nat → Int32} (ha0 : wf_l w wl a0 = some (.inl (t 0, n0, .inl f))) (ha1 : wl[q]? = some (a, .inl (t 0, n1, .inl g))) {sp dp n : Nat} (h4 : sp + n ≤ n0) (h5 : dp + n ≤ n1) (h0 : n0 < 2 ^ 31) (h1 : n1 < 2 ^ 31) (k1 : Cond.methodLink own idx arraycopyName ∈ TW) (k2 : Cond.native arraycopyName ∈ TW) (k3 : Cond.static arraycopyName ∈ TW) (k4 : Cond.initialized "java/lang/System" ∈ TW)
    (hfr : 1 ≤ R.frames) (hlo : (rest.map fun v => v.category).sum + (nativeFrameWords "java/lang/System" "arraycopy" 5 + 11) ≤ R.locals) (hdg : decode cc pc = .ok (.invokestatic idx, 3)) (hwl : wl.set q (a, .inl (t 0, n1, .inl (va_cpy f g sp dp n))) = wl')
    (kk : ∀ (H : Heap) (locs : List Loc), wf_B D wcl A H0 (wf_l w wl') H locs → W p l e R s m args below meth c H locs cells slots Q (F0 m (pc + 3) ls rest)) : W p l e R s m args below meth c H locs cells slots Q (F0 m pc ls (.int (nI n) :: .int (nI dp) :: .ref a :: .int (nI sp) :: .ref a0 :: rest)) := by
  refine wl_copyi X.1 X.2.1 (by rw [X.2.2.2.1, hls]) X.2.2.1 (X.2.2.2.2.1.2 _ k1 args) (X.2.2.2.2.1.2 _ k2 args) (X.2.2.2.2.1.2 _ k3 args) (X.2.2.2.2.1.2 _ k4 args) X.2.2.2.2.1.1 hB hN q 0 0 (ty := .int) ha0 ha1 rfl rfl rfl (nI_pos (by omega)) (nI_pos (by omega)) (nI_pos (by omega)) ?_ ?_ (fun i _ => rfl) hfr hlo hdg ?_ kk
  · rw [nI_clamp (by omega), nI_clamp (by omega)]; exact h4
  · rw [nI_clamp (by omega), nI_clamp (by omega)]; exact h5
  · rw [nI_clamp (by omega), nI_clamp (by omega), nI_clamp (by omega)]; exact hwl
theorem rcopyl {idx : Nat} (X : Cx p s m meth c own nm cc nL ret D t) (hB : wf_B D wcl A H0 (wf_l w wl) H locs) (hN : nd (wl.map Prod.fst)) (q : Nat) (hls : ls.size = nL) {a0 n0 n1 : Nat} {f g : Nat → Int64} (ha0 : wf_l w wl a0 = some (.inl (t 1, n0, .inr (.inl f)))) (ha1 : wl[q]? = some (a, .inl (t 1, n1, .inr (.inl g)))) {sp dp n : Nat} (h4 : sp + n ≤ n0) (h5 : dp + n ≤ n1) (h0 : n0 < 2 ^ 31) (h1 : n1 < 2 ^ 31) (k1 : Cond.methodLink own idx arraycopyName ∈ TW) (k2 : Cond.native arraycopyName ∈ TW) (k3 : Cond.static arraycopyName ∈ TW) (k4 : Cond.initialized "java/lang/System" ∈ TW)
    (hfr : 1 ≤ R.frames) (hlo : (rest.map fun v => v.category).sum + (nativeFrameWords "java/lang/System" "arraycopy" 5 + 11) ≤ R.locals) (hdg : decode cc pc = .ok (.invokestatic idx, 3)) (hwl : wl.set q (a, .inl (t 1, n1, .inr (.inl (va_cpy f g sp dp n)))) = wl')
    (kk : ∀ (H : Heap) (locs : List Loc), wf_B D wcl A H0 (wf_l w wl') H locs → W p l e R s m args below meth c H locs cells slots Q (F0 m (pc + 3) ls rest)) : W p l e R s m args below meth c H locs cells slots Q (F0 m pc ls (.int (nI n) :: .int (nI dp) :: .ref a :: .int (nI sp) :: .ref a0 :: rest)) := by
  refine wl_copyl X.1 X.2.1 (by rw [X.2.2.2.1, hls]) X.2.2.1 (X.2.2.2.2.1.2 _ k1 args) (X.2.2.2.2.1.2 _ k2 args) (X.2.2.2.2.1.2 _ k3 args) (X.2.2.2.2.1.2 _ k4 args) X.2.2.2.2.1.1 hB hN q 1 1 (ty := .long) ha0 ha1 rfl rfl rfl (nI_pos (by omega)) (nI_pos (by omega)) (nI_pos (by omega)) ?_ ?_ (fun i _ => rfl) hfr hlo hdg ?_ kk
  · rw [nI_clamp (by omega), nI_clamp (by omega)]; exact h4
  · rw [nI_clamp (by omega), nI_clamp (by omega)]; exact h5
  · rw [nI_clamp (by omega), nI_clamp (by omega), nI_clamp (by omega)]; exact hwl
theorem rgetL {C ref : String} {T : u_T} {N ci idx : Nat} (X : Cx p s m meth c own nm cc nL ret D t) (hB : wf_B D wcl A H0 (wf_l w wl) H locs) (hN : nd (wl.map Prod.fst)) (q : Nat) (hin : ∀ w ∈ u_ws C T N, w ∈ TW) {fs : List Value} (he : wl[q]? = some (a, .inr (ci, fs))) (hc : wcl[ci]? = some (C, T, N)) (k : Nat) (hk : k < N) (kl : Cond.fieldLink own idx ref (T k).2.1 (T k).2.2.1 ∈ TW) (href : (T k).1 = ref) {v : Value} (hv : fs[k]? = some v) (hdg : decode cc pc = .ok (.getfield idx, 3))
    (kk : W p l e R s m args below meth c H locs cells slots Q (F0 m (pc + 3) ls (v :: rest))) : W p l e R s m args below meth c H locs cells slots Q (F0 m pc ls (.ref a :: rest)) :=
  rget X hB hin (wf_lg hN q he) hc k hk kl href hv hdg kk
theorem rgetNL {C ref host : String} {T : u_T} {N ci idx : Nat} (X : Cx p s m meth c own nm cc nL ret D t) (hB : wf_B D wcl A H0 (wf_l w wl) H locs) (hN : nd (wl.map Prod.fst)) (q : Nat) (hin : ∀ w ∈ u_ws C T N, w ∈ TW) {fs : List Value} (he : wl[q]? = some (a, .inr (ci, fs))) (hc : wcl[ci]? = some (C, T, N)) (k : Nat) (hk : k < N) (kl : Cond.fieldLinkNest own idx ref (T k).2.1 (T k).2.2.1 host ∈ TW) (href : (T k).1 = ref) {v : Value} (hv : fs[k]? = some v) (hdg : decode cc pc = .ok (.getfield idx, 3))
    (kk : W p l e R s m args below meth c H locs cells slots Q (F0 m (pc + 3) ls (v :: rest))) : W p l e R s m args below meth c H locs cells slots Q (F0 m pc ls (.ref a :: rest)) :=
  rgetN X hB hin (wf_lg hN q he) hc k hk kl href hv hdg kk
theorem rialdL (X : Cx p s m meth c own nm cc nL ret D t) (hB : wf_B D wcl A H0 (wf_l w wl) H locs) (hN : nd (wl.map Prod.fst)) (q : Nat) {n : Nat} {f : Nat → Int32} (ha : wl[q]? = some (a, .inl (t 0, n, .inl f))) {i : Nat} (hi : i < n) (hn : n < 2 ^ 31) (hdg : decode cc pc = .ok (.iaload, 1))
    (kk : W p l e R s m args below meth c H locs cells slots Q (F0 m (pc + 1) ls (.int (f i) :: rest))) : W p l e R s m args below meth c H locs cells slots Q (F0 m pc ls (.int (nI i) :: .ref a :: rest)) :=
  riald X hB (wf_lg hN q ha) hi hn hdg kk
theorem rzaldL (X : Cx p s m meth c own nm cc nL ret D t) (hB : wf_B D wcl A H0 (wf_l w wl) H locs) (hN : nd (wl.map Prod.fst)) (q : Nat) {n : Nat} {f : Nat → Int32} (ha : wl[q]? = some (a, .inl (t 2, n, .inl f))) {i : Nat} (hi : i < n) (hn : n < 2 ^ 31) (hdg : decode cc pc = .ok (.baload, 1))
    (kk : W p l e R s m args below meth c H locs cells slots Q (F0 m (pc + 1) ls (.int (f i) :: rest))) : W p l e R s m args below meth c H locs cells slots Q (F0 m pc ls (.int (nI i) :: .ref a :: rest)) :=
  rzald X hB (wf_lg hN q ha) hi hn hdg kk
theorem rlaldL (X : Cx p s m meth c own nm cc nL ret D t) (hB : wf_B D wcl A H0 (wf_l w wl) H locs) (hN : nd (wl.map Prod.fst)) (q : Nat) {n : Nat} {f : Nat → Int64} (ha : wl[q]? = some (a, .inl (t 1, n, .inr (.inl f)))) {i : Nat} (hi : i < n) (hn : n < 2 ^ 31) (hdg : decode cc pc = .ok (.laload, 1))
    (kk : W p l e R s m args below meth c H locs cells slots Q (F0 m (pc + 1) ls (.long (f i) :: rest))) : W p l e R s m args below meth c H locs cells slots Q (F0 m pc ls (.int (nI i) :: .ref a :: rest)) :=
  rlald X hB (wf_lg hN q ha) hi hn hdg kk
theorem ralenL (X : Cx p s m meth c own nm cc nL ret D t) (hB : wf_B D wcl A H0 (wf_l w wl) H locs) (hN : nd (wl.map Prod.fst)) (q : Nat) (tn : Nat) {ty : FieldType} {x : vp_A} (ha : wl[q]? = some (a, .inl (t tn, x))) (ht : (wty t)[tn]? = some (t tn, ty)) (hdg : decode cc pc = .ok (.arraylength, 1))
    (kk : W p l e R s m args below meth c H locs cells slots Q (F0 m (pc + 1) ls (.int (nI x.1) :: rest))) : W p l e R s m args below meth c H locs cells slots Q (F0 m pc ls (.ref a :: rest)) :=
  ralen X hB tn (wf_lg hN q ha) ht hdg kk
theorem raaldL (X : Cx p s m meth c own nm cc nL ret D t) (hB : wf_B D wcl A H0 (wf_l w wl) H locs) (hN : nd (wl.map Prod.fst)) (q : Nat) {n : Nat} {f : Nat → Option Nat} (ha : wl[q]? = some (a, .inl (t 3, n, .inr (.inr (.inr (.inr f)))))) {i b : Nat} (hi : i < n) (hn : n < 2 ^ 31) (hf : f i = some b) (hdg : decode cc pc = .ok (.aaload, 1))
    (kk : W p l e R s m args below meth c H locs cells slots Q (F0 m (pc + 1) ls (.ref b :: rest))) : W p l e R s m args below meth c H locs cells slots Q (F0 m pc ls (.int (nI i) :: .ref a :: rest)) :=
  raald X hB (wf_lg hN q ha) hi hn hf hdg kk
theorem rnewi (X : Cx p s m meth c own nm cc nL ret D t) (hB : wf_B D wcl A H0 (wf_l w wl) H locs) (hN : nd (wl.map Prod.fst)) (hA : ∀ q, H0.size ≤ q → A q) (harr : Cond.arrayClass .int ∈ TW) {n : Nat} (hn : n < 2 ^ 20) (hc : cells + 1 ≤ R.cells) (hs : slots + n ≤ R.slots) (hdg : decode cc pc = .ok (.newarray .int, 2))
    (kk : ∀ (q : Nat) (H : Heap), w q = none → nd (wl.map Prod.fst ++ [q]) → wf_B D wcl A H0 (wf_l w (wl ++ [(q, .inl (t 0, n, .inl (fun _ => nI 0)))])) H locs → W p l e R s m args below meth c H locs (cells + 1) (slots + n) Q (F0 m (pc + 2) ls (.ref q :: rest))) : W p l e R s m args below meth c H locs cells slots Q (F0 m pc ls (.int (nI n) :: rest)) := by
  refine wf_newa X.1 X.2.1 (atype := .int) (X.2.2.2.2.1.2 _ harr args) (ty := .int) rfl X.2.2.2.2.1.1 hB hA 0 rfl (a0 := (n, .inl (fun _ => nI 0))) (N' := n) (fun cA => by rw [vp_cell_i]; rfl) (nI_pos (by omega)) (nI_clamp (by omega)) (by show n * 4 ≤ _; omega) hc hs hdg (fun q H1 hq h1 => ?_)
  exact kk q H1 (wf_lnone hq) (nd_push hN hq) (by rw [wf_lapp]; exact h1)
theorem rnewl (X : Cx p s m meth c own nm cc nL ret D t) (hB : wf_B D wcl A H0 (wf_l w wl) H locs) (hN : nd (wl.map Prod.fst)) (hA : ∀ q, H0.size ≤ q → A q) (harr : Cond.arrayClass .long ∈ TW) {n : Nat} (hn : n < 2 ^ 20) (hc : cells + 1 ≤ R.cells) (hs : slots + n ≤ R.slots) (hdg : decode cc pc = .ok (.newarray .long, 2))
    (kk : ∀ (q : Nat) (H : Heap), w q = none → nd (wl.map Prod.fst ++ [q]) → wf_B D wcl A H0 (wf_l w (wl ++ [(q, .inl (t 1, n, .inr (.inl (fun _ => lN 0))))])) H locs → W p l e R s m args below meth c H locs (cells + 1) (slots + n) Q (F0 m (pc + 2) ls (.ref q :: rest))) : W p l e R s m args below meth c H locs cells slots Q (F0 m pc ls (.int (nI n) :: rest)) := by
  refine wf_newa X.1 X.2.1 (atype := .long) (X.2.2.2.2.1.2 _ harr args) (ty := .long) rfl X.2.2.2.2.1.1 hB hA 1 rfl (a0 := (n, .inr (.inl (fun _ => lN 0)))) (N' := n) (fun cA => by rw [vp_cell_l]; rfl) (nI_pos (by omega)) (nI_clamp (by omega)) (by show n * 8 ≤ _; omega) hc hs hdg (fun q H1 hq h1 => ?_)
  exact kk q H1 (wf_lnone hq) (nd_push hN hq) (by rw [wf_lapp]; exact h1)
theorem rnewz (X : Cx p s m meth c own nm cc nL ret D t) (hB : wf_B D wcl A H0 (wf_l w wl) H locs) (hN : nd (wl.map Prod.fst)) (hA : ∀ q, H0.size ≤ q → A q) (harr : Cond.arrayClass .boolean ∈ TW) {n : Nat} (hn : n < 2 ^ 20) (hc : cells + 1 ≤ R.cells) (hs : slots + n ≤ R.slots) (hdg : decode cc pc = .ok (.newarray .boolean, 2))
    (kk : ∀ (q : Nat) (H : Heap), w q = none → nd (wl.map Prod.fst ++ [q]) → wf_B D wcl A H0 (wf_l w (wl ++ [(q, .inl (t 2, n, .inl (fun _ => nI 0)))])) H locs → W p l e R s m args below meth c H locs (cells + 1) (slots + n) Q (F0 m (pc + 2) ls (.ref q :: rest))) : W p l e R s m args below meth c H locs cells slots Q (F0 m pc ls (.int (nI n) :: rest)) := by
  refine wf_newa X.1 X.2.1 (atype := .boolean) (X.2.2.2.2.1.2 _ harr args) (ty := .boolean) rfl X.2.2.2.2.1.1 hB hA 2 rfl (a0 := (n, .inl (fun _ => nI 0))) (N' := n) (fun cA => by rw [vp_cell_i]; rfl) (nI_pos (by omega)) (nI_clamp (by omega)) (by show n * 1 ≤ _; omega) hc hs hdg (fun q H1 hq h1 => ?_)
  exact kk q H1 (wf_lnone hq) (nd_push hN hq) (by rw [wf_lapp]; exact h1)
theorem rnewq {idx : Nat} (X : Cx p s m meth c own nm cc nL ret D t) (hB : wf_B D wcl A H0 (wf_l w wl) H locs) (hN : nd (wl.map Prod.fst)) (hA : ∀ q, H0.size ≤ q → A q) (kc : Cond.classLink own idx "TextMachines$Machine" ∈ TW) (ko : Cond.arrayOver (.object "TextMachines$Machine") ∈ TW) {n : Nat} (hn : n < 2 ^ 20) (hc : cells + 1 ≤ R.cells) (hs : slots + n ≤ R.slots) (hdg : decode cc pc = .ok (.anewarray idx, 3))
    (kk : ∀ (q : Nat) (H : Heap), w q = none → nd (wl.map Prod.fst ++ [q]) → wf_B D wcl A H0 (wf_l w (wl ++ [(q, .inl (t 3, n, .inr (.inr (.inr (.inr (fun _ => none))))))])) H locs → W p l e R s m args below meth c H locs (cells + 1) (slots + n) Q (F0 m (pc + 3) ls (.ref q :: rest))) : W p l e R s m args below meth c H locs cells slots Q (F0 m pc ls (.int (nI n) :: rest)) := by
  refine wf_newq X.1 X.2.1 X.2.2.1 (X.2.2.2.2.1.2 _ kc args) (X.2.2.2.2.1.2 _ ko #[]) X.2.2.2.2.1.1 hB hA 3 rfl (N' := n) (nI_pos (by omega)) (nI_clamp (by omega)) (by omega) hc hs hdg (fun q H1 hq h1 => ?_)
  exact kk q H1 (wf_lnone hq) (nd_push hN hq) (by rw [wf_lapp]; exact h1)
theorem rnew {C : String} {T : u_T} {N ci idx : Nat} (X : Cx p s m meth c own nm cc nL ret D t) (hB : wf_B D wcl A H0 (wf_l w wl) H locs) (hN : nd (wl.map Prod.fst)) (hA : ∀ q, H0.size ≤ q → A q) (hin : ∀ w ∈ u_ws C T N, w ∈ TW) {ty : Nat → FieldType} (hty : ∀ k, k < N → parseFieldDescriptor (T k).2.2.1 = some (ty k)) (kc : Cond.classLink own idx C ∈ TW) (kn : Cond.instantiable C N ∈ TW) (ki : Cond.initialized C ∈ TW) (hc : wcl[ci]? = some (C, T, N)) {fs : List Value} (hfs : ∀ j, j < N → defaultValue (ty j) = vp_V fs j) (hce : cells + 1 ≤ R.cells) (hs : slots + N ≤ R.slots) (hdg : decode cc pc = .ok (.new idx, 3))
    (kk : ∀ (q : Nat) (H : Heap), w q = none → nd (wl.map Prod.fst ++ [q]) → wf_B D wcl A H0 (wf_l w (wl ++ [(q, .inr (ci, fs))])) H locs → W p l e R s m args below meth c H locs (cells + 1) (slots + N) Q (F0 m (pc + 3) ls (.ref q :: rest))) : W p l e R s m args below meth c H locs cells slots Q (F0 m pc ls rest) := by
  refine wf_new X.1 X.2.1 (Ts := TW) (fun x h => X.2.2.2.2.1.2 x h args) hin ty hty X.2.2.1 (X.2.2.2.2.1.2 _ kc args) (X.2.2.2.2.1.2 _ kn args) (X.2.2.2.2.1.2 _ ki args) X.2.2.2.2.1.1 hB hA hc hfs hce hs hdg (fun q H1 hq h1 => ?_)
  exact kk q H1 (wf_lnone hq) (nd_push hN hq) (by rw [wf_lapp]; exact h1)
theorem raast (X : Cx p s m meth c own nm cc nL ret D t) (hB : wf_B D wcl A H0 (wf_l w wl) H locs) (hN : nd (wl.map Prod.fst)) (q : Nat) {ci n b : Nat} {vs : List Value} {f : Nat → Option Nat} {T : u_T} {N : Nat} (ha : wl[q]? = some (a, .inl (t 3, n, .inr (.inr (.inr (.inr f)))))) (hv : wf_l w wl b = some (.inr (ci, vs))) (hc : wcl[ci]? = some ("TextMachines$Machine", T, N)) {i : Nat} (hi : i < n) (hn : n < 2 ^ 31) (hdg : decode cc pc = .ok (.aastore, 1)) (hwl : wl.set q (a, .inl (t 3, n, .inr (.inr (.inr (.inr (va_up f i (some b))))))) = wl')
    (kk : ∀ (H : Heap) (locs : List Loc), wf_B D wcl A H0 (wf_l w wl') H locs → W p l e R s m args below meth c H locs cells slots Q (F0 m (pc + 1) ls rest)) : W p l e R s m args below meth c H locs cells slots Q (F0 m pc ls (.ref b :: .int (nI i) :: .ref a :: rest)) := by
  refine wl_astq X.1 X.2.1 X.2.2.2.2.1.1 hB hN q 3 ci ha (r := ("TextMachines$Machine", T, N)) rfl hv hc (vp_in_nI hi hn) hdg ?_ kk
  rw [nI_clamp (by omega)]
  exact hwl
end R3
theorem df_Row : ∀ j, j < 2 → defaultValue (t_Row j) = vp_V [.null, .int (nI 0)] j := by
  intro j hj
  match j, hj with
  | 0, _ => rfl
  | 1, _ => rfl
  | j + 2, hj => exact absurd hj (by omega)
theorem df_Mac : ∀ j, j < 4 → defaultValue (t_Mac j) = vp_V [.int (nI 0), .null, .int (nI 0), .long (lN 0)] j := by
  intro j hj
  match j, hj with
  | 0, _ => rfl
  | 1, _ => rfl
  | 2, _ => rfl
  | 3, _ => rfl
  | j + 4, hj => exact absurd hj (by omega)
theorem df_Pla : ∀ j, j < 8 → defaultValue (t_Pla j) = vp_V [.int (nI 0), .null, .null, .null, .null, .null, .null, .int (nI 0)] j := by
  intro j hj
  match j, hj with
  | 0, _ => rfl
  | 1, _ => rfl
  | 2, _ => rfl
  | 3, _ => rfl
  | 4, _ => rfl
  | 5, _ => rfl
  | 6, _ => rfl
  | 7, _ => rfl
  | j + 8, hj => exact absurd hj (by omega)
theorem df_Set : ∀ j, j < 6 → defaultValue (t_Set j) = vp_V [.int (nI 0), .null, .null, .null, .long (lN 0), .long (lN 0)] j := by
  intro j hj
  match j, hj with
  | 0, _ => rfl
  | 1, _ => rfl
  | 2, _ => rfl
  | 3, _ => rfl
  | 4, _ => rfl
  | 5, _ => rfl
  | j + 6, hj => exact absurd hj (by omega)
theorem df_Txt : ∀ j, j < 3 → defaultValue (t_Txt j) = vp_V [.null, .null, .int (nI 0)] j := by
  intro j hj
  match j, hj with
  | 0, _ => rfl
  | 1, _ => rfl
  | 2, _ => rfl
  | j + 3, hj => exact absurd hj (by omega)
theorem df_Num : ∀ j, j < 3 → defaultValue (t_Num j) = vp_V [.int (nI 0), .null, .null] j := by
  intro j hj
  match j, hj with
  | 0, _ => rfl
  | 1, _ => rfl
  | 2, _ => rfl
  | j + 3, hj => exact absurd hj (by omega)
theorem df_Pai : ∀ j, j < 3 → defaultValue (t_Pai j) = vp_V [.int (nI 0), .null, .null] j := by
  intro j hj
  match j, hj with
  | 0, _ => rfl
  | 1, _ => rfl
  | 2, _ => rfl
  | j + 3, hj => exact absurd hj (by omega)
theorem df_Joi : ∀ j, j < 2 → defaultValue (t_Joi j) = vp_V [.null, .null] j := by
  intro j hj
  match j, hj with
  | 0, _ => rfl
  | 1, _ => rfl
  | j + 2, hj => exact absurd hj (by omega)
theorem df_Com : ∀ j, j < 4 → defaultValue (t_Com j) = vp_V [.int (nI 0), .null, .null, .int (nI 0)] j := by
  intro j hj
  match j, hj with
  | 0, _ => rfl
  | 1, _ => rfl
  | 2, _ => rfl
  | 3, _ => rfl
  | j + 4, hj => exact absurd hj (by omega)
theorem df_Tal : ∀ j, j < 2 → defaultValue (t_Tal j) = vp_V [.int (nI 0), .null] j := by
  intro j hj
  match j, hj with
  | 0, _ => rfl
  | 1, _ => rfl
  | j + 2, hj => exact absurd hj (by omega)
theorem df_TM : ∀ j, j < 14 → defaultValue (t_TM j) = vp_V [.int (nI 0), .null, .null, .null, .null, .null, .null, .null, .null, .null, .null, .null, .int (nI 0), .int (nI 0)] j := by
  intro j hj
  match j, hj with
  | 0, _ => rfl
  | 1, _ => rfl
  | 2, _ => rfl
  | 3, _ => rfl
  | 4, _ => rfl
  | 5, _ => rfl
  | 6, _ => rfl
  | 7, _ => rfl
  | 8, _ => rfl
  | 9, _ => rfl
  | 10, _ => rfl
  | 11, _ => rfl
  | 12, _ => rfl
  | 13, _ => rfl
  | j + 14, hj => exact absurd hj (by omega)
theorem df_Ref : ∀ j, j < 49 → defaultValue (t_Ref j) = vp_V [.int (nI 0), .int (nI 0), .null, .null, .null, .null, .int (nI 0), .null, .int (nI 0), .int (nI 0), .null, .null, .null, .null, .int (nI 0), .int (nI 0), .int (nI 0), .int (nI 0), .int (nI 0), .int (nI 0), .int (nI 0), .int (nI 0), .long (lN 0), .null, .null, .null, .null, .null, .null, .null, .int (nI 0), .null, .null, .null, .long (lN 0), .null, .null, .int (nI 0), .int (nI 0), .int (nI 0), .int (nI 0), .null, .long (lN 0), .null, .null, .null, .null, .int (nI 0), .null] j := by
  intro j hj
  match j, hj with
  | 0, _ => rfl
  | 1, _ => rfl
  | 2, _ => rfl
  | 3, _ => rfl
  | 4, _ => rfl
  | 5, _ => rfl
  | 6, _ => rfl
  | 7, _ => rfl
  | 8, _ => rfl
  | 9, _ => rfl
  | 10, _ => rfl
  | 11, _ => rfl
  | 12, _ => rfl
  | 13, _ => rfl
  | 14, _ => rfl
  | 15, _ => rfl
  | 16, _ => rfl
  | 17, _ => rfl
  | 18, _ => rfl
  | 19, _ => rfl
  | 20, _ => rfl
  | 21, _ => rfl
  | 22, _ => rfl
  | 23, _ => rfl
  | 24, _ => rfl
  | 25, _ => rfl
  | 26, _ => rfl
  | 27, _ => rfl
  | 28, _ => rfl
  | 29, _ => rfl
  | 30, _ => rfl
  | 31, _ => rfl
  | 32, _ => rfl
  | 33, _ => rfl
  | 34, _ => rfl
  | 35, _ => rfl
  | 36, _ => rfl
  | 37, _ => rfl
  | 38, _ => rfl
  | 39, _ => rfl
  | 40, _ => rfl
  | 41, _ => rfl
  | 42, _ => rfl
  | 43, _ => rfl
  | 44, _ => rfl
  | 45, _ => rfl
  | 46, _ => rfl
  | 47, _ => rfl
  | 48, _ => rfl
  | j + 49, hj => exact absurd hj (by omega)
