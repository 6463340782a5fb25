/-! FUNCTION WORLDS: what the heap holds is a partial function from addresses to contents; a method takes and gives back the whole of it -/
abbrev wf_W : Type := Nat → Option va_E
def wf_P (D : va_G) (cl : List vw_C) (w : wf_W) (H : Heap) : Prop := ∀ (a : Nat) (e : va_E), w a = some e → va_at D cl (a, e) H
def wf_u (w : wf_W) (a : Nat) (e : va_E) : wf_W := fun q => if q = a then some e else w q
theorem wf_us {w : wf_W} {a : Nat} {e : va_E} : wf_u w a e a = some e := by simp [wf_u]
theorem wf_un {w : wf_W} {a b : Nat} {e : va_E} {x : Option va_E} (h : b ≠ a) (hw : w b = x) : wf_u w a e b = x := by simp [wf_u, h, hw]
theorem wf_uu {w : wf_W} {a : Nat} {e e' : va_E} : wf_u (wf_u w a e) a e' = wf_u w a e' := by
  funext q
  by_cases h : q = a <;> simp [wf_u, h]
theorem wf_uc {w : wf_W} {a b : Nat} {e e' : va_E} (h : a ≠ b) : wf_u (wf_u w a e) b e' = wf_u (wf_u w b e') a e := by
  funext q
  by_cases h1 : q = a
  · subst h1
    simp [wf_u, h]
  · simp [wf_u, h1]
theorem wf_id {w : wf_W} {a : Nat} {e : va_E} (h : w a = some e) : wf_u w a e = w := by
  funext q
  by_cases h1 : q = a
  · subst h1
    simp [wf_u, h]
  · simp [wf_u, h1]
theorem wf_ne {w : wf_W} {a b : Nat} {x y : va_E} (h1 : w a = some x) (h2 : w b = some y) (h : x ≠ y) : a ≠ b := by
  intro q
  subst q
  exact h (Option.some.inj (h1.symm.trans h2))
def wf_A (w : wf_W) (sz : Nat) : Nat → Prop := fun q => (∃ e, w q = some e) ∨ sz ≤ q
def wf_B (D : va_G) (cl : List vw_C) (A : Nat → Prop) (H0 : Heap) (w : wf_W) (H : Heap) (locs : List Loc) : Prop := wf_P D cl w H ∧ (∀ (a : Nat) (e : va_E), w a = some e → A a) ∧ va_S A H0 H locs
/-- the world as a list, up to an address -/
def wf_enum (w : wf_W) : Nat → va_W
  | 0 => []
  | n + 1 => match w n with
    | some e => wf_enum w n ++ [(n, e)]
    | none => wf_enum w n
theorem wf_enum_mem {w : wf_W} {q : Nat} {e : va_E} : ∀ n : Nat, (q, e) ∈ wf_enum w n ↔ (q < n ∧ w q = some e)
  | 0 => by simp [wf_enum]
  | n + 1 => by
    have ih := wf_enum_mem (w := w) (q := q) (e := e) n
    cases h : w n with
    | none =>
      simp only [wf_enum, h, ih]
      constructor
      · rintro ⟨h1, h2⟩
        exact ⟨by omega, h2⟩
      · rintro ⟨h1, h2⟩
        refine ⟨?_, h2⟩
        rcases Nat.lt_or_ge q n with h3 | h3
        · exact h3
        · have : q = n := by omega
          subst this
          rw [h] at h2
          cases h2
    | some x =>
      simp only [wf_enum, h, List.mem_append, ih, List.mem_singleton, Prod.mk.injEq]
      constructor
      · rintro (⟨h1, h2⟩ | ⟨h1, h2⟩)
        · exact ⟨by omega, h2⟩
        · subst h1
          subst h2
          exact ⟨by omega, h⟩
      · rintro ⟨h1, h2⟩
        rcases Nat.lt_or_ge q n with h3 | h3
        · exact Or.inl ⟨h3, h2⟩
        · have h4 : q = n := by omega
          subst h4
          rw [h] at h2
          exact Or.inr ⟨rfl, (Option.some.inj h2).symm⟩
theorem wf_enum_inj {w : wf_W} : ∀ (n i j : Nat) (p q : Nat × va_E), (wf_enum w n)[i]? = some p → (wf_enum w n)[j]? = some q → p.1 = q.1 → i = j
  | 0, i, j, p, q, h1, _, _ => by simp [wf_enum] at h1
  | n + 1, i, j, p, q, h1, h2, h3 => by
    have ih := wf_enum_inj (w := w) n
    cases h : w n with
    | none =>
      simp only [wf_enum, h] at h1 h2
      exact ih i j p q h1 h2 h3
    | some x =>
      simp only [wf_enum, h] at h1 h2
      have lt : ∀ (k : Nat) (r : Nat × va_E), (wf_enum w n)[k]? = some r → r.1 < n := fun k r hr => ((wf_enum_mem (q := r.1) (e := r.2) n).mp (List.mem_of_getElem? hr)).1
      have last : ∀ (k : Nat) (r : Nat × va_E), ¬ k < (wf_enum w n).length → (wf_enum w n ++ [(n, x)])[k]? = some r → k = (wf_enum w n).length ∧ r.1 = n := by
        intro k r hk hr
        rw [List.getElem?_append_right (by omega)] at hr
        have hz : k - (wf_enum w n).length < 1 := (List.getElem?_eq_some_iff.mp hr).1
        rw [show k - (wf_enum w n).length = 0 by omega] at hr
        cases hr
        exact ⟨by omega, rfl⟩
      by_cases hi : i < (wf_enum w n).length
      · rw [List.getElem?_append_left hi] at h1
        by_cases hj : j < (wf_enum w n).length
        · rw [List.getElem?_append_left hj] at h2
          exact ih i j p q h1 h2 h3
        · have e1 := lt i p h1
          have e2 := last j q hj h2
          omega
      · have e1 := last i p hi h1
        by_cases hj : j < (wf_enum w n).length
        · rw [List.getElem?_append_left hj] at h2
          have e2 := lt j q h2
          omega
        · have e2 := last j q hj h2
          omega
section WF
variable {D : va_G} {cl : List vw_C} {A : Nat → Prop} {H0 H H1 : Heap} {w w' : wf_W} {locs : List Loc} {a b n k : Nat} {e e' : va_E}
theorem wf_P.lt (h : wf_P D cl w H) (hw : w a = some e) : a < H.size := (h a e hw).lt
theorem wf_toP (h : wf_P D cl w H) : va_P D cl (wf_enum w H.size) H := fun _ q hk => h q.1 q.2 ((wf_enum_mem (q := q.1) (e := q.2) H.size).mp (List.mem_of_getElem? hk)).2
theorem wf_toD (h : ∀ (a : Nat) (e : va_E), w a = some e → A a) : va_D A (wf_enum w n) := ⟨fun i j p q => wf_enum_inj n i j p q, fun _ q hk => h q.1 q.2 ((wf_enum_mem (q := q.1) (e := q.2) n).mp (List.mem_of_getElem? hk)).2⟩
theorem wf_pos (h : wf_P D cl w H) (hw : w a = some e) : ∃ k : Nat, (wf_enum w H.size)[k]? = some (a, e) := List.getElem?_of_mem ((wf_enum_mem H.size).mpr ⟨h.lt hw, hw⟩)
theorem wf_ofSet (hP : wf_P D cl w H) (hk : (wf_enum w H.size)[k]? = some (a, e)) (h : va_P D cl ((wf_enum w H.size).set k (a, e')) H1) : wf_P D cl (wf_u w a e') H1 := by
  intro b x hb
  by_cases hba : b = a
  · subst hba
    rw [wf_us] at hb
    cases hb
    refine h k (b, e') ?_
    rw [List.getElem?_set_self (List.getElem?_eq_some_iff.mp hk).1]
  · rw [show wf_u w a e' b = w b by simp [wf_u, hba]] at hb
    obtain ⟨j, hj⟩ := wf_pos hP hb
    refine h j (b, x) ?_
    rw [List.getElem?_set_ne]
    · exact hj
    · intro q
      subst q
      rw [hk] at hj
      cases hj
      exact hba rfl
theorem wf_ofApp (hP : wf_P D cl w H) (h : va_P D cl (wf_enum w H.size ++ [(a, e)]) H1) : wf_P D cl (wf_u w a e) H1 := by
  intro b x hb
  by_cases hba : b = a
  · subst hba
    rw [wf_us] at hb
    cases hb
    refine h (wf_enum w H.size).length (b, e) ?_
    rw [List.getElem?_append_right (Nat.le_refl _), Nat.sub_self]
    rfl
  · rw [show wf_u w a e b = w b by simp [wf_u, hba]] at hb
    obtain ⟨j, hj⟩ := wf_pos hP hb
    refine h j (b, x) ?_
    rw [List.getElem?_append_left (List.getElem?_eq_some_iff.mp hj).1]
    exact hj
theorem wf_uA (hA : ∀ (a : Nat) (e : va_E), w a = some e → A a) (ha : A a) : ∀ (b : Nat) (x : va_E), wf_u w a e b = some x → A b := by
  intro b x hb
  by_cases hba : b = a
  · subst hba
    exact ha
  · rw [show wf_u w a e b = w b by simp [wf_u, hba]] at hb
    exact hA b x hb
theorem wf_fresh (hP : wf_P D cl w H) (h : va_D A (wf_enum w H.size ++ [(a, e)])) : w a = none := by
  cases hw : w a with
  | none => rfl
  | some x =>
    obtain ⟨j, hj⟩ := wf_pos hP hw
    have hl := (List.getElem?_eq_some_iff.mp hj).1
    have := h.1 j (wf_enum w H.size).length (a, x) (a, e) (by rw [List.getElem?_append_left hl]; exact hj) (by rw [List.getElem?_append_right (Nat.le_refl _), Nat.sub_self]; rfl) rfl
    omega
end WF
/-! a few cells over a world: the last says -/
def wf_l (w : wf_W) : List (Nat × va_E) → wf_W
  | [] => w
  | q :: t => wf_l (wf_u w q.1 q.2) t
/-- addresses that are apart -/
def nd (l : List Nat) : Prop := ∀ i j a : Nat, l[i]? = some a → l[j]? = some a → i = j
theorem nd_cons {a : Nat} {t : List Nat} (h : nd (a :: t)) : a ∉ t ∧ nd t := by
  refine ⟨fun hm => ?_, fun i j x hi hj => ?_⟩
  · obtain ⟨i, hi⟩ := List.getElem?_of_mem hm
    have := h 0 (i + 1) a rfl hi
    omega
  · have := h (i + 1) (j + 1) x hi hj
    omega
theorem nd_sub {l l' : List Nat} (h : nd l) (is : List Nat) (hs : is.map (fun i => l[i]?) = l'.map some) (hd : va_nd is = true) : nd l' := by
  have at' : ∀ (k a : Nat), l'[k]? = some a → ∃ i, is[k]? = some i ∧ l[i]? = some a := by
    intro k a hk
    have h1 : (is.map (fun i => l[i]?))[k]? = some (some a) := by rw [hs, List.getElem?_map, hk]; rfl
    rw [List.getElem?_map] at h1
    cases hi : is[k]? with
    | none => rw [hi] at h1; cases h1
    | some i => rw [hi] at h1; exact ⟨i, rfl, Option.some.inj h1⟩
  intro i j a hi hj
  obtain ⟨x, x1, x2⟩ := at' i a hi
  obtain ⟨y, y1, y2⟩ := at' j a hj
  have := h x y a x2 y2
  subst this
  exact va_nd_inj is hd i j x x1 y1
theorem nd_ne {l : List Nat} (h : nd l) (i j : Nat) {a b : Nat} (ha : l[i]? = some a) (hb : l[j]? = some b) (hij : i ≠ j) : a ≠ b := by
  intro q
  subst q
  exact hij (h i j a ha hb)
theorem wf_lcong {t : List (Nat × va_E)} : ∀ {w1 w2 : wf_W} {q : Nat}, w1 q = w2 q → wf_l w1 t q = wf_l w2 t q := by
  induction t with
  | nil => intro w1 w2 q h; exact h
  | cons x t ih =>
    intro w1 w2 q h
    refine ih ?_
    by_cases hq : q = x.1 <;> simp [wf_u, hq, h]
theorem wf_lo {l : List (Nat × va_E)} : ∀ {w : wf_W} {a : Nat}, a ∉ l.map Prod.fst → wf_l w l a = w a := by
  induction l with
  | nil => intro w a _; rfl
  | cons x t ih =>
    intro w a h
    simp only [List.map_cons, List.mem_cons, not_or] at h
    show wf_l (wf_u w x.1 x.2) t a = w a
    rw [ih h.2]
    simp [wf_u, h.1]
theorem wf_lg {l : List (Nat × va_E)} {w : wf_W} (hN : nd (l.map Prod.fst)) (i : Nat) {a : Nat} {x : va_E} (h : l[i]? = some (a, x)) : wf_l w l a = some x := by
  induction l generalizing w i with
  | nil => simp at h
  | cons y t ih =>
    obtain ⟨h1, h2⟩ := nd_cons hN
    cases i with
    | zero =>
      simp at h
      subst h
      show wf_l (wf_u w a x) t a = some x
      rw [wf_lo h1, wf_us]
    | succ i => exact ih h2 i h
theorem wf_lset {l : List (Nat × va_E)} : ∀ {w : wf_W} {i a q : Nat} {x x' : va_E}, l[i]? = some (a, x) → q ≠ a → wf_l w (l.set i (a, x')) q = wf_l w l q := by
  induction l with
  | nil => intro w i a q x x' h _; simp at h
  | cons y t ih =>
    intro w i a q x x' h hq
    cases i with
    | zero =>
      simp at h
      subst h
      refine wf_lcong (t := t) (w1 := wf_u w a x') (w2 := wf_u w a x) (q := q) ?_
      simp [wf_u, hq]
    | succ i => exact ih (w := wf_u w y.1 y.2) h hq
theorem wf_lmap {l : List (Nat × va_E)} : ∀ {i a : Nat} {x x' : va_E}, l[i]? = some (a, x) → (l.set i (a, x')).map Prod.fst = l.map Prod.fst := by
  induction l with
  | nil => intro i a x x' h; simp at h
  | cons y t ih =>
    intro i a x x' h
    cases i with
    | zero =>
      simp at h
      subst h
      rfl
    | succ i =>
      show y.1 :: (t.set i (a, x')).map Prod.fst = y.1 :: t.map Prod.fst
      rw [ih h]
theorem wf_ls {l : List (Nat × va_E)} {w : wf_W} (hN : nd (l.map Prod.fst)) (i : Nat) {a : Nat} {x x' : va_E} (h : l[i]? = some (a, x)) : wf_u (wf_l w l) a x' = wf_l w (l.set i (a, x')) := by
  funext q
  by_cases hq : q = a
  · subst hq
    rw [wf_us]
    refine (wf_lg (i := i) ?_ ?_).symm
    · rw [wf_lmap h]; exact hN
    · rw [List.getElem?_set_self (List.getElem?_eq_some_iff.mp h).1]
  · rw [wf_lset h hq]
    simp [wf_u, hq]
theorem wf_li {l : List (Nat × va_E)} : ∀ {w : wf_W}, (∀ (i a : Nat) (x : va_E), l[i]? = some (a, x) → w a = some x) → wf_l w l = w := by
  induction l with
  | nil => intro w _; rfl
  | cons y t ih =>
    intro w h
    show wf_l (wf_u w y.1 y.2) t = w
    rw [wf_id (h 0 y.1 y.2 rfl)]
    exact ih (fun i a x hi => h (i + 1) a x hi)
section WR
variable {p : Program} {l : Launch} {e : Env} {R : Room} {s : State} {m : MethodId} {args : Array Value} {below : List Frame} {meth : Method} {c : Code} {H : Heap} {locs : List Loc} {cells slots : Nat} {Q : State → Prop}
variable {cc : ByteArray} {pc : Nat} {ls : Array Slot} {rest : List Value} {D : va_G} {cl : List vw_C} {A : Nat → Prop} {a : Nat} {tys : List (ClassId × FieldType)} {w : wf_W} {H0 : Heap}
theorem wf_get (hexec : p.tables.exec = Jvm.exec) (hb : c.code = cc) {own ref C : String} {T : u_T} {N ci index : Nat} {Ts : List Cond} (hts : ∀ w ∈ Ts, w.before args s = true) (hin : ∀ w ∈ u_ws C T N, w ∈ Ts) (hown : s.vm.findClass own = some m.cls) (hK : va_K D cl tys s) (hB : wf_B D cl A H0 w H locs) {fs : List Value} (he : w a = some (.inr (ci, fs))) (hc : cl[ci]? = some (C, T, N)) (k : Nat) (hk : k < N) (hlink : (Cond.fieldLink own index ref (T k).2.1 (T k).2.2.1).before args s = true) (hsame : ∀ x, s.fieldFound? (T k).1 (T k).2.1 (T k).2.2.1 = some x → s.fieldFound? ref (T k).2.1 (T k).2.2.1 = some x) {v : Value} (hv : fs[k]? = some v) (hdg : decode cc pc = .ok (.getfield index, 3))
    (kk : W p l e R s m args below meth c H locs cells slots Q (F0 m (pc + 3) ls (v :: rest))) : W p l e R s m args below meth c H locs cells slots Q (F0 m pc ls (.ref a :: rest)) := by
  obtain ⟨q0, hq0⟩ := wf_pos hB.1 he
  exact va_get hexec hb hts hin hown hK (wf_toP hB.1) q0 hq0 hc k hk hlink hsame hv hdg kk
theorem wf_getN (hexec : p.tables.exec = Jvm.exec) (hb : c.code = cc) {own ref C host : String} {T : u_T} {N ci index : Nat} {Ts : List Cond} (hts : ∀ w ∈ Ts, w.before args s = true) (hin : ∀ w ∈ u_ws C T N, w ∈ Ts) (hown : s.vm.findClass own = some m.cls) (hK : va_K D cl tys s) (hB : wf_B D cl A H0 w H locs) {fs : List Value} (he : w a = some (.inr (ci, fs))) (hc : cl[ci]? = some (C, T, N)) (k : Nat) (hk : k < N) (hlink : (Cond.fieldLinkNest own index ref (T k).2.1 (T k).2.2.1 host).before args s = true) (hsame : ∀ x, s.fieldFound? (T k).1 (T k).2.1 (T k).2.2.1 = some x → s.fieldFound? ref (T k).2.1 (T k).2.2.1 = some x) {v : Value} (hv : fs[k]? = some v) (hdg : decode cc pc = .ok (.getfield index, 3))
    (kk : W p l e R s m args below meth c H locs cells slots Q (F0 m (pc + 3) ls (v :: rest))) : W p l e R s m args below meth c H locs cells slots Q (F0 m pc ls (.ref a :: rest)) := by
  obtain ⟨q0, hq0⟩ := wf_pos hB.1 he
  exact va_getN hexec hb hts hin hown hK (wf_toP hB.1) q0 hq0 hc k hk hlink hsame hv hdg kk
theorem wf_put (hexec : p.tables.exec = Jvm.exec) (hb : c.code = cc) {own ref C : String} {T : u_T} {N ci index : Nat} {Ts : List Cond} (hts : ∀ w ∈ Ts, w.before args s = true) (hin : ∀ w ∈ u_ws C T N, w ∈ Ts) (ty0 : Nat → FieldType) (hty : ∀ k, k < N → parseFieldDescriptor (T k).2.2.1 = some (ty0 k)) (hnm : ∀ a, a < N → ∀ b, b < N → a ≠ b → (T a).2.1 ≠ (T b).2.1) (hown : s.vm.findClass own = some m.cls) (hK : va_K D cl tys s) (hB : wf_B D cl A H0 w H locs) {fs : List Value} (he : w a = some (.inr (ci, fs))) (hc : cl[ci]? = some (C, T, N)) (k : Nat) (hk : k < N) (hlink : (Cond.fieldLink own index ref (T k).2.1 (T k).2.2.1).before args s = true) (hsame : ∀ x, s.fieldFound? (T k).1 (T k).2.1 (T k).2.2.1 = some x → s.fieldFound? ref (T k).2.1 (T k).2.2.1 = some x) (hfin : (T k).2.2.2 = false) {ty : FieldType} {v : Value} (hd : parseFieldDescriptor (T k).2.2.1 = some ty) (hn : narrow ty v = v) (hfit : fits ty v = true) (hl : k < fs.length) (hdg : decode cc pc = .ok (.putfield index, 3))
    (kk : ∀ (H : Heap) (locs : List Loc), wf_B D cl A H0 (wf_u w a (.inr (ci, fs.set k v))) H locs → W p l e R s m args below meth c H locs cells slots Q (F0 m (pc + 3) ls rest)) : W p l e R s m args below meth c H locs cells slots Q (F0 m pc ls (v :: .ref a :: rest)) := by
  obtain ⟨q0, hq0⟩ := wf_pos hB.1 he
  exact va_put hexec hb hts hin ty0 hty hnm hown hK (wf_toP hB.1) (wf_toD hB.2.1) hB.2.2 q0 hq0 hc k hk hlink hsame hfin hd hn hfit hl hdg (fun H1 locs1 hP1 hD1 hS1 => kk H1 locs1 ⟨wf_ofSet hB.1 hq0 hP1, wf_uA hB.2.1 (hB.2.1 a _ he), hS1⟩)
theorem wf_putN (hexec : p.tables.exec = Jvm.exec) (hb : c.code = cc) {own ref C host : String} {T : u_T} {N ci index : Nat} {Ts : List Cond} (hts : ∀ w ∈ Ts, w.before args s = true) (hin : ∀ w ∈ u_ws C T N, w ∈ Ts) (ty0 : Nat → FieldType) (hty : ∀ k, k < N → parseFieldDescriptor (T k).2.2.1 = some (ty0 k)) (hnm : ∀ a, a < N → ∀ b, b < N → a ≠ b → (T a).2.1 ≠ (T b).2.1) (hown : s.vm.findClass own = some m.cls) (hK : va_K D cl tys s) (hB : wf_B D cl A H0 w H locs) {fs : List Value} (he : w a = some (.inr (ci, fs))) (hc : cl[ci]? = some (C, T, N)) (k : Nat) (hk : k < N) (hlink : (Cond.fieldLinkNest own index ref (T k).2.1 (T k).2.2.1 host).before args s = true) (hsame : ∀ x, s.fieldFound? (T k).1 (T k).2.1 (T k).2.2.1 = some x → s.fieldFound? ref (T k).2.1 (T k).2.2.1 = some x) (hfin : (T k).2.2.2 = false) {ty : FieldType} {v : Value} (hd : parseFieldDescriptor (T k).2.2.1 = some ty) (hn : narrow ty v = v) (hfit : fits ty v = true) (hl : k < fs.length) (hdg : decode cc pc = .ok (.putfield index, 3))
    (kk : ∀ (H : Heap) (locs : List Loc), wf_B D cl A H0 (wf_u w a (.inr (ci, fs.set k v))) H locs → W p l e R s m args below meth c H locs cells slots Q (F0 m (pc + 3) ls rest)) : W p l e R s m args below meth c H locs cells slots Q (F0 m pc ls (v :: .ref a :: rest)) := by
  obtain ⟨q0, hq0⟩ := wf_pos hB.1 he
  exact va_putN hexec hb hts hin ty0 hty hnm hown hK (wf_toP hB.1) (wf_toD hB.2.1) hB.2.2 q0 hq0 hc k hk hlink hsame hfin hd hn hfit hl hdg (fun H1 locs1 hP1 hD1 hS1 => kk H1 locs1 ⟨wf_ofSet hB.1 hq0 hP1, wf_uA hB.2.1 (hB.2.1 a _ he), hS1⟩)
theorem wf_putF (hexec : p.tables.exec = Jvm.exec) (hb : c.code = cc) {own ref C : String} {T : u_T} {N ci index : Nat} {Ts : List Cond} (hts : ∀ w ∈ Ts, w.before args s = true) (hin : ∀ w ∈ u_ws C T N, w ∈ Ts) (ty0 : Nat → FieldType) (hty : ∀ k, k < N → parseFieldDescriptor (T k).2.2.1 = some (ty0 k)) (hnm : ∀ a, a < N → ∀ b, b < N → a ≠ b → (T a).2.1 ≠ (T b).2.1) (hown : s.vm.findClass own = some m.cls) (hK : va_K D cl tys s) (hB : wf_B D cl A H0 w H locs) {fs : List Value} (he : w a = some (.inr (ci, fs))) (hc : cl[ci]? = some (C, T, N)) (k : Nat) (hk : k < N) (hlink : (Cond.fieldLink own index ref (T k).2.1 (T k).2.2.1).before args s = true) (hsame : ∀ x, s.fieldFound? (T k).1 (T k).2.1 (T k).2.2.1 = some x → s.fieldFound? ref (T k).2.1 (T k).2.2.1 = some x) (hfin : (T k).2.2.2 = true) (hin2 : meth.name = "<init>") (hdecl : (T k).1 = own) {ty : FieldType} {v : Value} (hd : parseFieldDescriptor (T k).2.2.1 = some ty) (hn : narrow ty v = v) (hfit : fits ty v = true) (hl : k < fs.length) (hdg : decode cc pc = .ok (.putfield index, 3))
    (kk : ∀ (H : Heap) (locs : List Loc), wf_B D cl A H0 (wf_u w a (.inr (ci, fs.set k v))) H locs → W p l e R s m args below meth c H locs cells slots Q (F0 m (pc + 3) ls rest)) : W p l e R s m args below meth c H locs cells slots Q (F0 m pc ls (v :: .ref a :: rest)) := by
  obtain ⟨q0, hq0⟩ := wf_pos hB.1 he
  exact va_putF hexec hb hts hin ty0 hty hnm hown hK (wf_toP hB.1) (wf_toD hB.2.1) hB.2.2 q0 hq0 hc k hk hlink hsame hfin hin2 hdecl hd hn hfit hl hdg (fun H1 locs1 hP1 hD1 hS1 => kk H1 locs1 ⟨wf_ofSet hB.1 hq0 hP1, wf_uA hB.2.1 (hB.2.1 a _ he), hS1⟩)
theorem wf_iald (hexec : p.tables.exec = Jvm.exec) (hb : c.code = cc) (hK : va_K D cl tys s) (hB : wf_B D cl A H0 w H locs) (t0 : Nat) {cA : ClassId} {n : Nat} {f : Nat → Int32} (ha : w a = some (.inl (cA, n, .inl f))) (ht : tys[t0]? = some (cA, .int)) {i : Int32} (hin : vp_in i n) (hdg : decode cc pc = .ok (.iaload, 1))
    (kk : W p l e R s m args below meth c H locs cells slots Q (F0 m (pc + 1) ls (.int (f i.toNatClampNeg) :: rest))) : W p l e R s m args below meth c H locs cells slots Q (F0 m pc ls (.int i :: .ref a :: rest)) := by
  obtain ⟨q0, hq0⟩ := wf_pos hB.1 ha
  exact va_iald hexec hb hK (wf_toP hB.1) q0 t0 hq0 ht hin hdg kk
theorem wf_iast (hexec : p.tables.exec = Jvm.exec) (hb : c.code = cc) (hK : va_K D cl tys s) (hB : wf_B D cl A H0 w H locs) (t0 : Nat) {cA : ClassId} {n : Nat} {f : Nat → Int32} (ha : w a = some (.inl (cA, n, .inl f))) (ht : tys[t0]? = some (cA, .int)) {i : Int32} {x : Int32} (hin : vp_in i n) (hdg : decode cc pc = .ok (.iastore, 1))
    (kk : ∀ (H : Heap) (locs : List Loc), wf_B D cl A H0 (wf_u w a (.inl (cA, n, .inl (upd f i.toNatClampNeg x)))) H locs → W p l e R s m args below meth c H locs cells slots Q (F0 m (pc + 1) ls rest)) : W p l e R s m args below meth c H locs cells slots Q (F0 m pc ls (.int x :: .int i :: .ref a :: rest)) := by
  obtain ⟨q0, hq0⟩ := wf_pos hB.1 ha
  exact va_iast hexec hb hK (wf_toP hB.1) (wf_toD hB.2.1) hB.2.2 q0 t0 hq0 ht hin hdg (fun H1 locs1 hP1 hD1 hS1 => kk H1 locs1 ⟨wf_ofSet hB.1 hq0 hP1, wf_uA hB.2.1 (hB.2.1 a _ ha), hS1⟩)
theorem wf_zald (hexec : p.tables.exec = Jvm.exec) (hb : c.code = cc) (hK : va_K D cl tys s) (hB : wf_B D cl A H0 w H locs) (t0 : Nat) {cA : ClassId} {n : Nat} {f : Nat → Int32} (ha : w a = some (.inl (cA, n, .inl f))) (ht : tys[t0]? = some (cA, .boolean)) {i : Int32} (hin : vp_in i n) (hdg : decode cc pc = .ok (.baload, 1))
    (kk : W p l e R s m args below meth c H locs cells slots Q (F0 m (pc + 1) ls (.int (f i.toNatClampNeg) :: rest))) : W p l e R s m args below meth c H locs cells slots Q (F0 m pc ls (.int i :: .ref a :: rest)) := by
  obtain ⟨q0, hq0⟩ := wf_pos hB.1 ha
  exact va_zald hexec hb hK (wf_toP hB.1) q0 t0 hq0 ht hin hdg kk
theorem wf_zast (hexec : p.tables.exec = Jvm.exec) (hb : c.code = cc) (hK : va_K D cl tys s) (hB : wf_B D cl A H0 w H locs) (t0 : Nat) {cA : ClassId} {n : Nat} {f : Nat → Int32} (ha : w a = some (.inl (cA, n, .inl f))) (ht : tys[t0]? = some (cA, .boolean)) {i : Int32} {x : Int32} (hin : vp_in i n) (hdg : decode cc pc = .ok (.bastore, 1))
    (kk : ∀ (H : Heap) (locs : List Loc), wf_B D cl A H0 (wf_u w a (.inl (cA, n, .inl (upd f i.toNatClampNeg (vp_nar .boolean x))))) H locs → W p l e R s m args below meth c H locs cells slots Q (F0 m (pc + 1) ls rest)) : W p l e R s m args below meth c H locs cells slots Q (F0 m pc ls (.int x :: .int i :: .ref a :: rest)) := by
  obtain ⟨q0, hq0⟩ := wf_pos hB.1 ha
  exact va_zast hexec hb hK (wf_toP hB.1) (wf_toD hB.2.1) hB.2.2 q0 t0 hq0 ht hin hdg (fun H1 locs1 hP1 hD1 hS1 => kk H1 locs1 ⟨wf_ofSet hB.1 hq0 hP1, wf_uA hB.2.1 (hB.2.1 a _ ha), hS1⟩)
theorem wf_bald (hexec : p.tables.exec = Jvm.exec) (hb : c.code = cc) (hK : va_K D cl tys s) (hB : wf_B D cl A H0 w H locs) (t0 : Nat) {cA : ClassId} {n : Nat} {f : Nat → Int32} (ha : w a = some (.inl (cA, n, .inl f))) (ht : tys[t0]? = some (cA, .byte)) {i : Int32} (hin : vp_in i n) (hdg : decode cc pc = .ok (.baload, 1))
    (kk : W p l e R s m args below meth c H locs cells slots Q (F0 m (pc + 1) ls (.int (f i.toNatClampNeg) :: rest))) : W p l e R s m args below meth c H locs cells slots Q (F0 m pc ls (.int i :: .ref a :: rest)) := by
  obtain ⟨q0, hq0⟩ := wf_pos hB.1 ha
  exact va_bald hexec hb hK (wf_toP hB.1) q0 t0 hq0 ht hin hdg kk
theorem wf_bast (hexec : p.tables.exec = Jvm.exec) (hb : c.code = cc) (hK : va_K D cl tys s) (hB : wf_B D cl A H0 w H locs) (t0 : Nat) {cA : ClassId} {n : Nat} {f : Nat → Int32} (ha : w a = some (.inl (cA, n, .inl f))) (ht : tys[t0]? = some (cA, .byte)) {i : Int32} {x : Int32} (hin : vp_in i n) (hdg : decode cc pc = .ok (.bastore, 1))
    (kk : ∀ (H : Heap) (locs : List Loc), wf_B D cl A H0 (wf_u w a (.inl (cA, n, .inl (upd f i.toNatClampNeg (vp_nar .byte x))))) H locs → W p l e R s m args below meth c H locs cells slots Q (F0 m (pc + 1) ls rest)) : W p l e R s m args below meth c H locs cells slots Q (F0 m pc ls (.int x :: .int i :: .ref a :: rest)) := by
  obtain ⟨q0, hq0⟩ := wf_pos hB.1 ha
  exact va_bast hexec hb hK (wf_toP hB.1) (wf_toD hB.2.1) hB.2.2 q0 t0 hq0 ht hin hdg (fun H1 locs1 hP1 hD1 hS1 => kk H1 locs1 ⟨wf_ofSet hB.1 hq0 hP1, wf_uA hB.2.1 (hB.2.1 a _ ha), hS1⟩)
theorem wf_cald (hexec : p.tables.exec = Jvm.exec) (hb : c.code = cc) (hK : va_K D cl tys s) (hB : wf_B D cl A H0 w H locs) (t0 : Nat) {cA : ClassId} {n : Nat} {f : Nat → Int32} (ha : w a = some (.inl (cA, n, .inl f))) (ht : tys[t0]? = some (cA, .char)) {i : Int32} (hin : vp_in i n) (hdg : decode cc pc = .ok (.caload, 1))
    (kk : W p l e R s m args below meth c H locs cells slots Q (F0 m (pc + 1) ls (.int (f i.toNatClampNeg) :: rest))) : W p l e R s m args below meth c H locs cells slots Q (F0 m pc ls (.int i :: .ref a :: rest)) := by
  obtain ⟨q0, hq0⟩ := wf_pos hB.1 ha
  exact va_cald hexec hb hK (wf_toP hB.1) q0 t0 hq0 ht hin hdg kk
theorem wf_cast (hexec : p.tables.exec = Jvm.exec) (hb : c.code = cc) (hK : va_K D cl tys s) (hB : wf_B D cl A H0 w H locs) (t0 : Nat) {cA : ClassId} {n : Nat} {f : Nat → Int32} (ha : w a = some (.inl (cA, n, .inl f))) (ht : tys[t0]? = some (cA, .char)) {i : Int32} {x : Int32} (hin : vp_in i n) (hdg : decode cc pc = .ok (.castore, 1))
    (kk : ∀ (H : Heap) (locs : List Loc), wf_B D cl A H0 (wf_u w a (.inl (cA, n, .inl (upd f i.toNatClampNeg (vp_nar .char x))))) H locs → W p l e R s m args below meth c H locs cells slots Q (F0 m (pc + 1) ls rest)) : W p l e R s m args below meth c H locs cells slots Q (F0 m pc ls (.int x :: .int i :: .ref a :: rest)) := by
  obtain ⟨q0, hq0⟩ := wf_pos hB.1 ha
  exact va_cast hexec hb hK (wf_toP hB.1) (wf_toD hB.2.1) hB.2.2 q0 t0 hq0 ht hin hdg (fun H1 locs1 hP1 hD1 hS1 => kk H1 locs1 ⟨wf_ofSet hB.1 hq0 hP1, wf_uA hB.2.1 (hB.2.1 a _ ha), hS1⟩)
theorem wf_lald (hexec : p.tables.exec = Jvm.exec) (hb : c.code = cc) (hK : va_K D cl tys s) (hB : wf_B D cl A H0 w H locs) (t0 : Nat) {cA : ClassId} {n : Nat} {f : Nat → Int64} (ha : w a = some (.inl (cA, n, .inr (.inl f)))) (ht : tys[t0]? = some (cA, .long)) {i : Int32} (hin : vp_in i n) (hdg : decode cc pc = .ok (.laload, 1))
    (kk : W p l e R s m args below meth c H locs cells slots Q (F0 m (pc + 1) ls (.long (f i.toNatClampNeg) :: rest))) : W p l e R s m args below meth c H locs cells slots Q (F0 m pc ls (.int i :: .ref a :: rest)) := by
  obtain ⟨q0, hq0⟩ := wf_pos hB.1 ha
  exact va_lald hexec hb hK (wf_toP hB.1) q0 t0 hq0 ht hin hdg kk
theorem wf_last (hexec : p.tables.exec = Jvm.exec) (hb : c.code = cc) (hK : va_K D cl tys s) (hB : wf_B D cl A H0 w H locs) (t0 : Nat) {cA : ClassId} {n : Nat} {f : Nat → Int64} (ha : w a = some (.inl (cA, n, .inr (.inl f)))) (ht : tys[t0]? = some (cA, .long)) {i : Int32} {x : Int64} (hin : vp_in i n) (hdg : decode cc pc = .ok (.lastore, 1))
    (kk : ∀ (H : Heap) (locs : List Loc), wf_B D cl A H0 (wf_u w a (.inl (cA, n, .inr (.inl (vp_updL f i.toNatClampNeg x))))) H locs → W p l e R s m args below meth c H locs cells slots Q (F0 m (pc + 1) ls rest)) : W p l e R s m args below meth c H locs cells slots Q (F0 m pc ls (.long x :: .int i :: .ref a :: rest)) := by
  obtain ⟨q0, hq0⟩ := wf_pos hB.1 ha
  exact va_last hexec hb hK (wf_toP hB.1) (wf_toD hB.2.1) hB.2.2 q0 t0 hq0 ht hin hdg (fun H1 locs1 hP1 hD1 hS1 => kk H1 locs1 ⟨wf_ofSet hB.1 hq0 hP1, wf_uA hB.2.1 (hB.2.1 a _ ha), hS1⟩)
theorem wf_aldq (hexec : p.tables.exec = Jvm.exec) (hb : c.code = cc) (hK : va_K D cl tys s) (hB : wf_B D cl A H0 w H locs) (t0 : Nat) {cA : ClassId} {C : String} {n : Nat} {f : Nat → Option Nat} (ha : w a = some (.inl (cA, n, .inr (.inr (.inr (.inr f)))))) (ht : tys[t0]? = some (cA, .object C)) {i : Int32} (hin : vp_in i n) (hdg : decode cc pc = .ok (.aaload, 1))
    (kk : W p l e R s m args below meth c H locs cells slots Q (F0 m (pc + 1) ls (va_rf (f i.toNatClampNeg) :: rest))) : W p l e R s m args below meth c H locs cells slots Q (F0 m pc ls (.int i :: .ref a :: rest)) := by
  obtain ⟨q0, hq0⟩ := wf_pos hB.1 ha
  exact va_aldq hexec hb hK (wf_toP hB.1) q0 t0 hq0 ht hin hdg kk
theorem wf_astq (hexec : p.tables.exec = Jvm.exec) (hb : c.code = cc) (hK : va_K D cl tys s) (hB : wf_B D cl A H0 w H locs) (t0 ci : Nat) {cA : ClassId} {r : vw_C} {n v : Nat} {vs : List Value} {f : Nat → Option Nat} (ha : w a = some (.inl (cA, n, .inr (.inr (.inr (.inr f)))))) (ht : tys[t0]? = some (cA, .object r.1)) (hv : w v = some (.inr (ci, vs))) (hc : cl[ci]? = some r) {i : Int32} (hin : vp_in i n) (hdg : decode cc pc = .ok (.aastore, 1))
    (kk : ∀ (H : Heap) (locs : List Loc), wf_B D cl A H0 (wf_u w a (.inl (cA, n, .inr (.inr (.inr (.inr (va_up f i.toNatClampNeg (some v)))))))) H locs → W p l e R s m args below meth c H locs cells slots Q (F0 m (pc + 1) ls rest)) : W p l e R s m args below meth c H locs cells slots Q (F0 m pc ls (.ref v :: .int i :: .ref a :: rest)) := by
  obtain ⟨q0, hq0⟩ := wf_pos hB.1 ha
  obtain ⟨qk, hqk⟩ := wf_pos hB.1 hv
  exact va_astq hexec hb hK (wf_toP hB.1) (wf_toD hB.2.1) hB.2.2 q0 t0 qk ci hq0 ht hqk hc hin hdg (fun H1 locs1 hP1 hD1 hS1 => kk H1 locs1 ⟨wf_ofSet hB.1 hq0 hP1, wf_uA hB.2.1 (hB.2.1 a _ ha), hS1⟩)
theorem wf_alen (hexec : p.tables.exec = Jvm.exec) (hb : c.code = cc) (hK : va_K D cl tys s) (hB : wf_B D cl A H0 w H locs) (t0 : Nat) {cA : ClassId} {x : vp_A} (ha : w a = some (.inl (cA, x))) {ty : FieldType} (ht : tys[t0]? = some (cA, ty)) {v : Int32} (hv : Int32.ofNat x.1 = v) (hdg : decode cc pc = .ok (.arraylength, 1))
    (kk : W p l e R s m args below meth c H locs cells slots Q (F0 m (pc + 1) ls (.int v :: rest))) : W p l e R s m args below meth c H locs cells slots Q (F0 m pc ls (.ref a :: rest)) := by
  obtain ⟨q0, hq0⟩ := wf_pos hB.1 ha
  exact va_alen hexec hb hK (wf_toP hB.1) q0 t0 hq0 ht hv hdg kk
/-- an array class is known by its name: there is one -/
theorem wf_one {tys : List (ClassId × FieldType)} {tys2 : List (ClassId × FieldType)} {i j : Nat} {c1 c2 : ClassId} {ty : FieldType} (h1 : va_K D cl tys s) (h2 : va_K D cl tys2 s) (e1 : tys[i]? = some (c1, ty)) (e2 : tys2[j]? = some (c2, ty)) : c1 = c2 := by
  have a1 := (h1.2 i _ e1).2
  have a2 := (h2.2 j _ e2).2
  cases ty with
  | object C =>
    obtain ⟨_, _, _, _, _, k1⟩ := a1
    obtain ⟨_, _, _, _, _, k2⟩ := a2
    exact Option.some.inj (k1.symm.trans k2)
  | _ => exact Option.some.inj (a1.symm.trans a2)
theorem wf_newa (hexec : p.tables.exec = Jvm.exec) (hb : c.code = cc) {atype : ArrayType} (harr : (Cond.arrayClass (newarray.typeOf atype)).before args s = true) {ty : FieldType} (hty : newarray.typeOf atype = ty) (hK : va_K D cl tys s) (hB : wf_B D cl A H0 w H locs) (hA : ∀ q, H0.size ≤ q → A q) (t0 : Nat) {cA : ClassId} (ht : tys[t0]? = some (cA, ty))
    {n : Int32} {N' : Nat} {a0 : vp_A} (ha : ∀ cA : ClassId, vp_cell cA a0 = arrV cA N' (fun _ => defaultValue ty)) (hn : ¬ n < 0) (hN : n.toNatClampNeg = N') (hbytes : N' * componentBytes ty ≤ 536870912) (hcells : cells + 1 ≤ R.cells) (hslots : slots + N' ≤ R.slots) (hdg : decode cc pc = .ok (.newarray atype, 2))
    (kk : ∀ (q : Nat) (H : Heap), w q = none → wf_B D cl A H0 (wf_u w q (.inl (cA, a0))) H locs → W p l e R s m args below meth c H locs (cells + 1) (slots + N') Q (F0 m (pc + 2) ls (.ref q :: rest))) : W p l e R s m args below meth c H locs cells slots Q (F0 m pc ls (.int n :: rest)) := by
  refine va_newa hexec hb harr hty hK (wf_toP hB.1) (wf_toD hB.2.1) hB.2.2 hA ha hn hN hbytes hcells hslots hdg (fun q cA' H1 hK1 hP1 hD1 hS1 => ?_)
  have hc : cA' = cA := wf_one hK1 hK (i := tys.length) (by rw [List.getElem?_append_right (Nat.le_refl _), Nat.sub_self]; rfl) ht
  subst hc
  refine kk q H1 (wf_fresh hB.1 hD1) ⟨wf_ofApp hB.1 hP1, wf_uA hB.2.1 ?_, hS1⟩
  exact hD1.2 (wf_enum w H.size).length (q, .inl (cA', a0)) (by rw [List.getElem?_append_right (Nat.le_refl _), Nat.sub_self]; rfl)
theorem wf_newq (hexec : p.tables.exec = Jvm.exec) (hb : c.code = cc) {own C : String} {index : Nat} (hown : s.vm.findClass own = some m.cls) (hclink : (Cond.classLink own index C).before args s = true) (hover : va_AO C s) (hK : va_K D cl tys s) (hB : wf_B D cl A H0 w H locs) (hA : ∀ q, H0.size ≤ q → A q) (t0 : Nat) {cA : ClassId} (ht : tys[t0]? = some (cA, .object C))
    {n : Int32} {N' : Nat} (hn : ¬ n < 0) (hN : n.toNatClampNeg = N') (hbytes : N' * 4 ≤ 536870912) (hcells : cells + 1 ≤ R.cells) (hslots : slots + N' ≤ R.slots) (hdg : decode cc pc = .ok (.anewarray index, 3))
    (kk : ∀ (q : Nat) (H : Heap), w q = none → wf_B D cl A H0 (wf_u w q (.inl (cA, N', .inr (.inr (.inr (.inr (fun _ => none))))))) H locs → W p l e R s m args below meth c H locs (cells + 1) (slots + N') Q (F0 m (pc + 3) ls (.ref q :: rest))) : W p l e R s m args below meth c H locs cells slots Q (F0 m pc ls (.int n :: rest)) := by
  refine va_newq hexec hb hown hclink hover hK (wf_toP hB.1) (wf_toD hB.2.1) hB.2.2 hA hn hN hbytes hcells hslots hdg (fun q cA' H1 hK1 hP1 hD1 hS1 => ?_)
  have hc : cA' = cA := wf_one hK1 hK (i := tys.length) (by rw [List.getElem?_append_right (Nat.le_refl _), Nat.sub_self]; rfl) ht
  subst hc
  refine kk q H1 (wf_fresh hB.1 hD1) ⟨wf_ofApp hB.1 hP1, wf_uA hB.2.1 ?_, hS1⟩
  exact hD1.2 (wf_enum w H.size).length (q, _) (by rw [List.getElem?_append_right (Nat.le_refl _), Nat.sub_self]; rfl)
theorem wf_new (hexec : p.tables.exec = Jvm.exec) (hb : c.code = cc) {own C : String} {T : u_T} {N ci index : Nat} {Ts : List Cond} (hts : ∀ w ∈ Ts, w.before args s = true) (hin : ∀ w ∈ u_ws C T N, w ∈ Ts) (ty : Nat → FieldType) (hty : ∀ k, k < N → parseFieldDescriptor (T k).2.2.1 = some (ty k)) (hown : s.vm.findClass own = some m.cls) (hcl : (Cond.classLink own index C).before args s = true) (hinst : (Cond.instantiable C N).before args s = true) (hini : (Cond.initialized C).before args s = true)
    (hK : va_K D cl tys s) (hB : wf_B D cl A H0 w H locs) (hA : ∀ q, H0.size ≤ q → A q) (hc : cl[ci]? = some (C, T, N)) {fs : List Value} (hfs : ∀ j, j < N → defaultValue (ty j) = vp_V fs j) (hcells : cells + 1 ≤ R.cells) (hslots : slots + N ≤ R.slots) (hdg : decode cc pc = .ok (.new index, 3))
    (kk : ∀ (q : Nat) (H : Heap), w q = none → wf_B D cl A H0 (wf_u w q (.inr (ci, fs))) H locs → W p l e R s m args below meth c H locs (cells + 1) (slots + N) Q (F0 m (pc + 3) ls (.ref q :: rest))) : W p l e R s m args below meth c H locs cells slots Q (F0 m pc ls rest) := by
  refine va_new hexec hb hts hin ty hty hown hcl hinst hini hK (wf_toP hB.1) (wf_toD hB.2.1) hB.2.2 hA hc hfs hcells hslots hdg (fun q H1 hP1 hD1 hS1 => ?_)
  refine kk q H1 (wf_fresh hB.1 hD1) ⟨wf_ofApp hB.1 hP1, wf_uA hB.2.1 ?_, hS1⟩
  exact hD1.2 (wf_enum w H.size).length (q, .inr (ci, fs)) (by rw [List.getElem?_append_right (Nat.le_refl _), Nat.sub_self]; rfl)
theorem wf_copyi (hexec : p.tables.exec = Jvm.exec) (hb : c.code = cc) (hml : c.maxLocals = ls.size) {own : String} {index : Nat} (hown : s.vm.findClass own = some m.cls) (hlink : (Cond.methodLink own index arraycopyName).before args s = true) (hnat : (Cond.native arraycopyName).before args s = true) (hstat : (Cond.static arraycopyName).before args s = true) (hini : (Cond.initialized "java/lang/System").before args s = true)
    (hK : va_K D cl tys s) (hB : wf_B D cl A H0 w H locs) (t0 t1 : Nat) {a0 : Nat} {c0 c1 : ClassId} {n0 n1 : Nat} {f g : Nat → Int32} {ty : FieldType} (ha0 : w a0 = some (.inl (c0, n0, .inl f))) (ha1 : w a = some (.inl (c1, n1, .inl g))) (ht0 : tys[t0]? = some (c0, ty)) (ht1 : tys[t1]? = some (c1, ty)) (hprim : refKind ty = false)
    {sp dp n : Int32} (h1 : ¬ sp < 0) (h2 : ¬ dp < 0) (h3 : ¬ n < 0) (h4 : sp.toNatClampNeg + n.toNatClampNeg ≤ n0) (h5 : dp.toNatClampNeg + n.toNatClampNeg ≤ n1) (hfit : ∀ i, i < n.toNatClampNeg → fits ty (.int (f (sp.toNatClampNeg + i))) = true)
    (hframes : 1 ≤ R.frames) (hlocals : (rest.map fun v => v.category).sum + (nativeFrameWords "java/lang/System" "arraycopy" 5 + 11) ≤ R.locals) (hdg : decode cc pc = .ok (.invokestatic index, 3))
    (kk : ∀ (H : Heap) (locs : List Loc), wf_B D cl A H0 (wf_u w a (.inl (c1, n1, .inl (va_cpy f g sp.toNatClampNeg dp.toNatClampNeg n.toNatClampNeg)))) H locs → W p l e R s m args below meth c H locs cells slots Q (F0 m (pc + 3) ls rest)) : W p l e R s m args below meth c H locs cells slots Q (F0 m pc ls (.int n :: .int dp :: .ref a :: .int sp :: .ref a0 :: rest)) := by
  obtain ⟨q0, hq0⟩ := wf_pos hB.1 ha0
  obtain ⟨q1, hq1⟩ := wf_pos hB.1 ha1
  exact va_copyi hexec hb hml hown hlink hnat hstat hini hK (wf_toP hB.1) (wf_toD hB.2.1) hB.2.2 q0 q1 t0 t1 hq0 hq1 ht0 ht1 hprim h1 h2 h3 h4 h5 hfit hframes hlocals hdg (fun H1 locs1 hP1 hD1 hS1 => kk H1 locs1 ⟨wf_ofSet hB.1 hq1 hP1, wf_uA hB.2.1 (hB.2.1 a _ ha1), hS1⟩)
theorem wf_copyl (hexec : p.tables.exec = Jvm.exec) (hb : c.code = cc) (hml : c.maxLocals = ls.size) {own : String} {index : Nat} (hown : s.vm.findClass own = some m.cls) (hlink : (Cond.methodLink own index arraycopyName).before args s = true) (hnat : (Cond.native arraycopyName).before args s = true) (hstat : (Cond.static arraycopyName).before args s = true) (hini : (Cond.initialized "java/lang/System").before args s = true)
    (hK : va_K D cl tys s) (hB : wf_B D cl A H0 w H locs) (t0 t1 : Nat) {a0 : Nat} {c0 c1 : ClassId} {n0 n1 : Nat} {f g : Nat → Int64} {ty : FieldType} (ha0 : w a0 = some (.inl (c0, n0, .inr (.inl f)))) (ha1 : w a = some (.inl (c1, n1, .inr (.inl g)))) (ht0 : tys[t0]? = some (c0, ty)) (ht1 : tys[t1]? = some (c1, ty)) (hprim : refKind ty = false)
    {sp dp n : Int32} (h1 : ¬ sp < 0) (h2 : ¬ dp < 0) (h3 : ¬ n < 0) (h4 : sp.toNatClampNeg + n.toNatClampNeg ≤ n0) (h5 : dp.toNatClampNeg + n.toNatClampNeg ≤ n1) (hfit : ∀ i, i < n.toNatClampNeg → fits ty (.long (f (sp.toNatClampNeg + i))) = true)
    (hframes : 1 ≤ R.frames) (hlocals : (rest.map fun v => v.category).sum + (nativeFrameWords "java/lang/System" "arraycopy" 5 + 11) ≤ R.locals) (hdg : decode cc pc = .ok (.invokestatic index, 3))
    (kk : ∀ (H : Heap) (locs : List Loc), wf_B D cl A H0 (wf_u w a (.inl (c1, n1, .inr (.inl (va_cpy f g sp.toNatClampNeg dp.toNatClampNeg n.toNatClampNeg))))) H locs → W p l e R s m args below meth c H locs cells slots Q (F0 m (pc + 3) ls rest)) : W p l e R s m args below meth c H locs cells slots Q (F0 m pc ls (.int n :: .int dp :: .ref a :: .int sp :: .ref a0 :: rest)) := by
  obtain ⟨q0, hq0⟩ := wf_pos hB.1 ha0
  obtain ⟨q1, hq1⟩ := wf_pos hB.1 ha1
  exact va_copyl hexec hb hml hown hlink hnat hstat hini hK (wf_toP hB.1) (wf_toD hB.2.1) hB.2.2 q0 q1 t0 t1 hq0 hq1 ht0 ht1 hprim h1 h2 h3 h4 h5 hfit hframes hlocals hdg (fun H1 locs1 hP1 hD1 hS1 => kk H1 locs1 ⟨wf_ofSet hB.1 hq1 hP1, wf_uA hB.2.1 (hB.2.1 a _ ha1), hS1⟩)
end WR
section WL
variable {p : Program} {l : Launch} {e : Env} {R : Room} {s : State} {m : MethodId} {args : Array Value} {below : List Frame} {meth : Method} {c : Code} {H : Heap} {locs : List Loc} {cells slots : Nat} {Q : State → Prop}
variable {cc : ByteArray} {pc : Nat} {ls : Array Slot} {rest : List Value} {D : va_G} {cl : List vw_C} {A : Nat → Prop} {a : Nat} {tys : List (ClassId × FieldType)} {w : wf_W} {wl wl' : List (Nat × va_E)} {H0 : Heap}
theorem wl_put (hexec : p.tables.exec = Jvm.exec) (hb : c.code = cc) {own ref C : String} {T : u_T} {N ci index : Nat} {Ts : List Cond} (hts : ∀ w ∈ Ts, w.before args s = true) (hin : ∀ w ∈ u_ws C T N, w ∈ Ts) (ty0 : Nat → FieldType) (hty : ∀ k, k < N → parseFieldDescriptor (T k).2.2.1 = some (ty0 k)) (hnm : ∀ a, a < N → ∀ b, b < N → a ≠ b → (T a).2.1 ≠ (T b).2.1) (hown : s.vm.findClass own = some m.cls) (hK : va_K D cl tys s) (hB : wf_B D cl A H0 (wf_l w wl) H locs) (hN : nd (wl.map Prod.fst)) (q : Nat) {fs : List Value} (he : wl[q]? = some (a, .inr (ci, fs))) (hc : cl[ci]? = some (C, T, N)) (k : Nat) (hk : k < N) (hlink : (Cond.fieldLink own index ref (T k).2.1 (T k).2.2.1).before args s = true) (hsame : ∀ x, s.fieldFound? (T k).1 (T k).2.1 (T k).2.2.1 = some x → s.fieldFound? ref (T k).2.1 (T k).2.2.1 = some x) (hfin : (T k).2.2.2 = false) {ty : FieldType} {v : Value} (hd : parseFieldDescriptor (T k).2.2.1 = some ty) (hn : narrow ty v = v) (hfit : fits ty v = true) (hl : k < fs.length) (hdg : decode cc pc = .ok (.putfield index, 3)) (hwl : wl.set q (a, .inr (ci, fs.set k v)) = wl')
    (kk : ∀ (H : Heap) (locs : List Loc), wf_B D cl A H0 (wf_l w wl') H locs → W p l e R s m args below meth c H locs cells slots Q (F0 m (pc + 3) ls rest)) : W p l e R s m args below meth c H locs cells slots Q (F0 m pc ls (v :: .ref a :: rest)) := by
  subst hwl
  exact wf_put hexec hb hts hin ty0 hty hnm hown hK hB (wf_lg hN q he) hc k hk hlink hsame hfin hd hn hfit hl hdg (fun H1 locs1 h1 => kk H1 locs1 (by rw [← wf_ls hN q he]; exact h1))
theorem wl_putN (hexec : p.tables.exec = Jvm.exec) (hb : c.code = cc) {own ref C host : String} {T : u_T} {N ci index : Nat} {Ts : List Cond} (hts : ∀ w ∈ Ts, w.before args s = true) (hin : ∀ w ∈ u_ws C T N, w ∈ Ts) (ty0 : Nat → FieldType) (hty : ∀ k, k < N → parseFieldDescriptor (T k).2.2.1 = some (ty0 k)) (hnm : ∀ a, a < N → ∀ b, b < N → a ≠ b → (T a).2.1 ≠ (T b).2.1) (hown : s.vm.findClass own = some m.cls) (hK : va_K D cl tys s) (hB : wf_B D cl A H0 (wf_l w wl) H locs) (hN : nd (wl.map Prod.fst)) (q : Nat) {fs : List Value} (he : wl[q]? = some (a, .inr (ci, fs))) (hc : cl[ci]? = some (C, T, N)) (k : Nat) (hk : k < N) (hlink : (Cond.fieldLinkNest own index ref (T k).2.1 (T k).2.2.1 host).before args s = true) (hsame : ∀ x, s.fieldFound? (T k).1 (T k).2.1 (T k).2.2.1 = some x → s.fieldFound? ref (T k).2.1 (T k).2.2.1 = some x) (hfin : (T k).2.2.2 = false) {ty : FieldType} {v : Value} (hd : parseFieldDescriptor (T k).2.2.1 = some ty) (hn : narrow ty v = v) (hfit : fits ty v = true) (hl : k < fs.length) (hdg : decode cc pc = .ok (.putfield index, 3)) (hwl : wl.set q (a, .inr (ci, fs.set k v)) = wl')
    (kk : ∀ (H : Heap) (locs : List Loc), wf_B D cl A H0 (wf_l w wl') H locs → W p l e R s m args below meth c H locs cells slots Q (F0 m (pc + 3) ls rest)) : W p l e R s m args below meth c H locs cells slots Q (F0 m pc ls (v :: .ref a :: rest)) := by
  subst hwl
  exact wf_putN hexec hb hts hin ty0 hty hnm hown hK hB (wf_lg hN q he) hc k hk hlink hsame hfin hd hn hfit hl hdg (fun H1 locs1 h1 => kk H1 locs1 (by rw [← wf_ls hN q he]; exact h1))
theorem wl_putF (hexec : p.tables.exec = Jvm.exec) (hb : c.code = cc) {own ref C : String} {T : u_T} {N ci index : Nat} {Ts : List Cond} (hts : ∀ w ∈ Ts, w.before args s = true) (hin : ∀ w ∈ u_ws C T N, w ∈ Ts) (ty0 : Nat → FieldType) (hty : ∀ k, k < N → parseFieldDescriptor (T k).2.2.1 = some (ty0 k)) (hnm : ∀ a, a < N → ∀ b, b < N → a ≠ b → (T a).2.1 ≠ (T b).2.1) (hown : s.vm.findClass own = some m.cls) (hK : va_K D cl tys s) (hB : wf_B D cl A H0 (wf_l w wl) H locs) (hN : nd (wl.map Prod.fst)) (q : Nat) {fs : List Value} (he : wl[q]? = some (a, .inr (ci, fs))) (hc : cl[ci]? = some (C, T, N)) (k : Nat) (hk : k < N) (hlink : (Cond.fieldLink own index ref (T k).2.1 (T k).2.2.1).before args s = true) (hsame : ∀ x, s.fieldFound? (T k).1 (T k).2.1 (T k).2.2.1 = some x → s.fieldFound? ref (T k).2.1 (T k).2.2.1 = some x) (hfin : (T k).2.2.2 = true) (hin2 : meth.name = "<init>") (hdecl : (T k).1 = own) {ty : FieldType} {v : Value} (hd : parseFieldDescriptor (T k).2.2.1 = some ty) (hn : narrow ty v = v) (hfit : fits ty v = true) (hl : k < fs.length) (hdg : decode cc pc = .ok (.putfield index, 3)) (hwl : wl.set q (a, .inr (ci, fs.set k v)) = wl')
    (kk : ∀ (H : Heap) (locs : List Loc), wf_B D cl A H0 (wf_l w wl') H locs → W p l e R s m args below meth c H locs cells slots Q (F0 m (pc + 3) ls rest)) : W p l e R s m args below meth c H locs cells slots Q (F0 m pc ls (v :: .ref a :: rest)) := by
  subst hwl
  exact wf_putF hexec hb hts hin ty0 hty hnm hown hK hB (wf_lg hN q he) hc k hk hlink hsame hfin hin2 hdecl hd hn hfit hl hdg (fun H1 locs1 h1 => kk H1 locs1 (by rw [← wf_ls hN q he]; exact h1))
theorem wl_iast (hexec : p.tables.exec = Jvm.exec) (hb : c.code = cc) (hK : va_K D cl tys s) (hB : wf_B D cl A H0 (wf_l w wl) H locs) (hN : nd (wl.map Prod.fst)) (q : Nat) (t0 : Nat) {cA : ClassId} {n : Nat} {f : Nat → Int32} (ha : wl[q]? = some (a, .inl (cA, n, .inl f))) (ht : tys[t0]? = some (cA, .int)) {i : Int32} {x : Int32} (hin : vp_in i n) (hdg : decode cc pc = .ok (.iastore, 1)) (hwl : wl.set q (a, .inl (cA, n, .inl (upd f i.toNatClampNeg x))) = wl')
    (kk : ∀ (H : Heap) (locs : List Loc), wf_B D cl A H0 (wf_l w wl') H locs → W p l e R s m args below meth c H locs cells slots Q (F0 m (pc + 1) ls rest)) : W p l e R s m args below meth c H locs cells slots Q (F0 m pc ls (.int x :: .int i :: .ref a :: rest)) := by
  subst hwl
  exact wf_iast hexec hb hK hB t0 (wf_lg hN q ha) ht hin hdg (fun H1 locs1 h1 => kk H1 locs1 (by rw [← wf_ls hN q ha]; exact h1))
theorem wl_zast (hexec : p.tables.exec = Jvm.exec) (hb : c.code = cc) (hK : va_K D cl tys s) (hB : wf_B D cl A H0 (wf_l w wl) H locs) (hN : nd (wl.map Prod.fst)) (q : Nat) (t0 : Nat) {cA : ClassId} {n : Nat} {f : Nat → Int32} (ha : wl[q]? = some (a, .inl (cA, n, .inl f))) (ht : tys[t0]? = some (cA, .boolean)) {i : Int32} {x : Int32} (hin : vp_in i n) (hdg : decode cc pc = .ok (.bastore, 1)) (hwl : wl.set q (a, .inl (cA, n, .inl (upd f i.toNatClampNeg (vp_nar .boolean x)))) = wl')
    (kk : ∀ (H : Heap) (locs : List Loc), wf_B D cl A H0 (wf_l w wl') H locs → W p l e R s m args below meth c H locs cells slots Q (F0 m (pc + 1) ls rest)) : W p l e R s m args below meth c H locs cells slots Q (F0 m pc ls (.int x :: .int i :: .ref a :: rest)) := by
  subst hwl
  exact wf_zast hexec hb hK hB t0 (wf_lg hN q ha) ht hin hdg (fun H1 locs1 h1 => kk H1 locs1 (by rw [← wf_ls hN q ha]; exact h1))
theorem wl_bast (hexec : p.tables.exec = Jvm.exec) (hb : c.code = cc) (hK : va_K D cl tys s) (hB : wf_B D cl A H0 (wf_l w wl) H locs) (hN : nd (wl.map Prod.fst)) (q : Nat) (t0 : Nat) {cA : ClassId} {n : Nat} {f : Nat → Int32} (ha : wl[q]? = some (a, .inl (cA, n, .inl f))) (ht : tys[t0]? = some (cA, .byte)) {i : Int32} {x : Int32} (hin : vp_in i n) (hdg : decode cc pc = .ok (.bastore, 1)) (hwl : wl.set q (a, .inl (cA, n, .inl (upd f i.toNatClampNeg (vp_nar .byte x)))) = wl')
    (kk : ∀ (H : Heap) (locs : List Loc), wf_B D cl A H0 (wf_l w wl') H locs → W p l e R s m args below meth c H locs cells slots Q (F0 m (pc + 1) ls rest)) : W p l e R s m args below meth c H locs cells slots Q (F0 m pc ls (.int x :: .int i :: .ref a :: rest)) := by
  subst hwl
  exact wf_bast hexec hb hK hB t0 (wf_lg hN q ha) ht hin hdg (fun H1 locs1 h1 => kk H1 locs1 (by rw [← wf_ls hN q ha]; exact h1))
theorem wl_cast (hexec : p.tables.exec = Jvm.exec) (hb : c.code = cc) (hK : va_K D cl tys s) (hB : wf_B D cl A H0 (wf_l w wl) H locs) (hN : nd (wl.map Prod.fst)) (q : Nat) (t0 : Nat) {cA : ClassId} {n : Nat} {f : Nat → Int32} (ha : wl[q]? = some (a, .inl (cA, n, .inl f))) (ht : tys[t0]? = some (cA, .char)) {i : Int32} {x : Int32} (hin : vp_in i n) (hdg : decode cc pc = .ok (.castore, 1)) (hwl : wl.set q (a, .inl (cA, n, .inl (upd f i.toNatClampNeg (vp_nar .char x)))) = wl')
    (kk : ∀ (H : Heap) (locs : List Loc), wf_B D cl A H0 (wf_l w wl') H locs → W p l e R s m args below meth c H locs cells slots Q (F0 m (pc + 1) ls rest)) : W p l e R s m args below meth c H locs cells slots Q (F0 m pc ls (.int x :: .int i :: .ref a :: rest)) := by
  subst hwl
  exact wf_cast hexec hb hK hB t0 (wf_lg hN q ha) ht hin hdg (fun H1 locs1 h1 => kk H1 locs1 (by rw [← wf_ls hN q ha]; exact h1))
theorem wl_last (hexec : p.tables.exec = Jvm.exec) (hb : c.code = cc) (hK : va_K D cl tys s) (hB : wf_B D cl A H0 (wf_l w wl) H locs) (hN : nd (wl.map Prod.fst)) (q : Nat) (t0 : Nat) {cA : ClassId} {n : Nat} {f : Nat → Int64} (ha : wl[q]? = some (a, .inl (cA, n, .inr (.inl f)))) (ht : tys[t0]? = some (cA, .long)) {i : Int32} {x : Int64} (hin : vp_in i n) (hdg : decode cc pc = .ok (.lastore, 1)) (hwl : wl.set q (a, .inl (cA, n, .inr (.inl (vp_updL f i.toNatClampNeg x)))) = wl')
    (kk : ∀ (H : Heap) (locs : List Loc), wf_B D cl A H0 (wf_l w wl') H locs → W p l e R s m args below meth c H locs cells slots Q (F0 m (pc + 1) ls rest)) : W p l e R s m args below meth c H locs cells slots Q (F0 m pc ls (.long x :: .int i :: .ref a :: rest)) := by
  subst hwl
  exact wf_last hexec hb hK hB t0 (wf_lg hN q ha) ht hin hdg (fun H1 locs1 h1 => kk H1 locs1 (by rw [← wf_ls hN q ha]; exact h1))
theorem wl_astq (hexec : p.tables.exec = Jvm.exec) (hb : c.code = cc) (hK : va_K D cl tys s) (hB : wf_B D cl A H0 (wf_l w wl) H locs) (hN : nd (wl.map Prod.fst)) (q : Nat) (t0 ci : Nat) {cA : ClassId} {r : vw_C} {n v : Nat} {vs : List Value} {f : Nat → Option Nat} (ha : wl[q]? = some (a, .inl (cA, n, .inr (.inr (.inr (.inr f)))))) (ht : tys[t0]? = some (cA, .object r.1)) (hv : wf_l w wl v = some (.inr (ci, vs))) (hc : cl[ci]? = some r) {i : Int32} (hin : vp_in i n) (hdg : decode cc pc = .ok (.aastore, 1)) (hwl : wl.set q (a, .inl (cA, n, .inr (.inr (.inr (.inr (va_up f i.toNatClampNeg (some v))))))) = wl')
    (kk : ∀ (H : Heap) (locs : List Loc), wf_B D cl A H0 (wf_l w wl') H locs → W p l e R s m args below meth c H locs cells slots Q (F0 m (pc + 1) ls rest)) : W p l e R s m args below meth c H locs cells slots Q (F0 m pc ls (.ref v :: .int i :: .ref a :: rest)) := by
  subst hwl
  exact wf_astq hexec hb hK hB t0 ci (wf_lg hN q ha) ht hv hc hin hdg (fun H1 locs1 h1 => kk H1 locs1 (by rw [← wf_ls hN q ha]; exact h1))
theorem wl_copyi (hexec : p.tables.exec = Jvm.exec) (hb : c.code = cc) (hml : c.maxLocals = ls.size) {own : String} {index : Nat} (hown : s.vm.findClass own = some m.cls) (hlink : (Cond.methodLink own index arraycopyName).before args s = true) (hnat : (Cond.native arraycopyName).before args s = true) (hstat : (Cond.static arraycopyName).before args s = true) (hini : (Cond.initialized "java/lang/System").before args s = true)
    (hK : va_K D cl tys s) (hB : wf_B D cl A H0 (wf_l w wl) H locs) (hN : nd (wl.map Prod.fst)) (q : Nat) (t0 t1 : Nat) {a0 : Nat} {c0 c1 : ClassId} {n0 n1 : Nat} {f g : Nat → Int32} {ty : FieldType} (ha0 : wf_l w wl a0 = some (.inl (c0, n0, .inl f))) (ha1 : wl[q]? = some (a, .inl (c1, n1, .inl g))) (ht0 : tys[t0]? = some (c0, ty)) (ht1 : tys[t1]? = some (c1, ty)) (hprim : refKind ty = false)
    {sp dp n : Int32} (h1 : ¬ sp < 0) (h2 : ¬ dp < 0) (h3 : ¬ n < 0) (h4 : sp.toNatClampNeg + n.toNatClampNeg ≤ n0) (h5 : dp.toNatClampNeg + n.toNatClampNeg ≤ n1) (hfit : ∀ i, i < n.toNatClampNeg → fits ty (.int (f (sp.toNatClampNeg + i))) = true)
    (hframes : 1 ≤ R.frames) (hlocals : (rest.map fun v => v.category).sum + (nativeFrameWords "java/lang/System" "arraycopy" 5 + 11) ≤ R.locals) (hdg : decode cc pc = .ok (.invokestatic index, 3)) (hwl : wl.set q (a, .inl (c1, n1, .inl (va_cpy f g sp.toNatClampNeg dp.toNatClampNeg n.toNatClampNeg))) = wl')
    (kk : ∀ (H : Heap) (locs : List Loc), wf_B D cl A H0 (wf_l w wl') H locs → W p l e R s m args below meth c H locs cells slots Q (F0 m (pc + 3) ls rest)) : W p l e R s m args below meth c H locs cells slots Q (F0 m pc ls (.int n :: .int dp :: .ref a :: .int sp :: .ref a0 :: rest)) := by
  subst hwl
  exact wf_copyi hexec hb hml hown hlink hnat hstat hini hK hB t0 t1 ha0 (wf_lg hN q ha1) ht0 ht1 hprim h1 h2 h3 h4 h5 hfit hframes hlocals hdg (fun H1 locs1 h => kk H1 locs1 (by rw [← wf_ls hN q ha1]; exact h))
theorem wl_copyl (hexec : p.tables.exec = Jvm.exec) (hb : c.code = cc) (hml : c.maxLocals = ls.size) {own : String} {index : Nat} (hown : s.vm.findClass own = some m.cls) (hlink : (Cond.methodLink own index arraycopyName).before args s = true) (hnat : (Cond.native arraycopyName).before args s = true) (hstat : (Cond.static arraycopyName).before args s = true) (hini : (Cond.initialized "java/lang/System").before args s = true)
    (hK : va_K D cl tys s) (hB : wf_B D cl A H0 (wf_l w wl) H locs) (hN : nd (wl.map Prod.fst)) (q : Nat) (t0 t1 : Nat) {a0 : Nat} {c0 c1 : ClassId} {n0 n1 : Nat} {f g : Nat → Int64} {ty : FieldType} (ha0 : wf_l w wl a0 = some (.inl (c0, n0, .inr (.inl f)))) (ha1 : wl[q]? = some (a, .inl (c1, n1, .inr (.inl g)))) (ht0 : tys[t0]? = some (c0, ty)) (ht1 : tys[t1]? = some (c1, ty)) (hprim : refKind ty = false)
    {sp dp n : Int32} (h1 : ¬ sp < 0) (h2 : ¬ dp < 0) (h3 : ¬ n < 0) (h4 : sp.toNatClampNeg + n.toNatClampNeg ≤ n0) (h5 : dp.toNatClampNeg + n.toNatClampNeg ≤ n1) (hfit : ∀ i, i < n.toNatClampNeg → fits ty (.long (f (sp.toNatClampNeg + i))) = true)
    (hframes : 1 ≤ R.frames) (hlocals : (rest.map fun v => v.category).sum + (nativeFrameWords "java/lang/System" "arraycopy" 5 + 11) ≤ R.locals) (hdg : decode cc pc = .ok (.invokestatic index, 3)) (hwl : wl.set q (a, .inl (c1, n1, .inr (.inl (va_cpy f g sp.toNatClampNeg dp.toNatClampNeg n.toNatClampNeg)))) = wl')
    (kk : ∀ (H : Heap) (locs : List Loc), wf_B D cl A H0 (wf_l w wl') H locs → W p l e R s m args below meth c H locs cells slots Q (F0 m (pc + 3) ls rest)) : W p l e R s m args below meth c H locs cells slots Q (F0 m pc ls (.int n :: .int dp :: .ref a :: .int sp :: .ref a0 :: rest)) := by
  subst hwl
  exact wf_copyl hexec hb hml hown hlink hnat hstat hini hK hB t0 t1 ha0 (wf_lg hN q ha1) ht0 ht1 hprim h1 h2 h3 h4 h5 hfit hframes hlocals hdg (fun H1 locs1 h => kk H1 locs1 (by rw [← wf_ls hN q ha1]; exact h))
end WL
