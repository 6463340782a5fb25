/-! THE STATE OF CLASS AND REFERENCE -/
theorem Mi_mono {l : Launch} {y : MethodName} {b : ByteArray} {n : Nat} {ret : Option FieldType} {fr lo mc ms : Nat} {D : va_G} {t : Nat → ClassId} {w : wf_W} {sz : Nat} {av : List Value} {post post' : Int32 → wf_W → Prop} (h : Mi l y b n ret fr lo mc ms D t w sz av post) (hp : ∀ r w', post r w' → post' r w') : Mi l y b n ret fr lo mc ms D t w sz av post' := by
  unfold Mi Met at h ⊢
  exact MetFree.mono h (fun _ _ h => h) (fun _ _ _ _ _ h => h) (fun _ _ _ _ _ hq => ⟨⟨by obtain ⟨⟨r, u, a, b, c⟩, _⟩ := hq.1; exact ⟨r, u, a, hp _ _ b, c⟩, hq.1.2⟩, hq.2⟩)
theorem Ml_mono {l : Launch} {y : MethodName} {b : ByteArray} {n : Nat} {ret : Option FieldType} {fr lo mc ms : Nat} {D : va_G} {t : Nat → ClassId} {w : wf_W} {sz : Nat} {av : List Value} {post post' : Int64 → wf_W → Prop} (h : Ml l y b n ret fr lo mc ms D t w sz av post) (hp : ∀ r w', post r w' → post' r w') : Ml l y b n ret fr lo mc ms D t w sz av post' := by
  unfold Ml Met at h ⊢
  exact MetFree.mono h (fun _ _ h => h) (fun _ _ _ _ _ h => h) (fun _ _ _ _ _ hq => ⟨⟨by obtain ⟨⟨r, u, a, b, c⟩, _⟩ := hq.1; exact ⟨r, u, a, hp _ _ b, c⟩, hq.1.2⟩, hq.2⟩)
/-- the class's own addresses -/
def CL (C : Nat → Nat) : List Nat := [C 0, C 1, C 2, C 3, C 4, C 5, C 6, C 7, C 8, C 9, C 10, C 11, C 12, C 13, C 14, C 15, C 16, C 17, C 18, C 19, C 20, C 21, C 22, C 23, C 24, C 25, C 26, C 27, C 28, C 29, C 30, C 31, C 32, C 33, C 34]
def AD (C pa sa : Nat → Nat) : Prop := nd (CL C) ∧ (∀ i, i < 60 → pa i ∉ CL C ∧ sa i ∉ CL C) ∧ (∀ i j, i < 60 → j < 60 → pa i = pa j → i = j) ∧ (∀ i j, i < 60 → j < 60 → sa i = sa j → i = j) ∧ ∀ i j, i < 60 → j < 60 → pa i ≠ sa j
theorem nd_snoc {L : List Nat} {a : Nat} (h : nd L) (ha : a ∉ L) : nd (L ++ [a]) := by
  refine nd_two h nd_one (fun i j x hi hj => ?_)
  have : i < 1 := (List.getElem?_eq_some_iff.mp hi).1
  rw [show i = 0 by omega] at hi
  have : a = x := Option.some.inj hi
  rw [this] at ha
  exact ha (List.mem_of_getElem? hj)
theorem out_app {a : Nat} {L M : List Nat} (h1 : a ∉ L) (h2 : a ∉ M) : a ∉ L ++ M := fun h => (List.mem_append.mp h).elim h1 h2
theorem out_two {a b c : Nat} (h1 : a ≠ b) (h2 : a ≠ c) : a ∉ [b, c] := by simp [h1, h2]
theorem out_sub {a : Nat} {L L' : List Nat} (h : a ∉ L) (is : List Nat) (hs : is.map (fun i => L[i]?) = L'.map some) : a ∉ L' := by
  intro ha
  have : some a ∈ L'.map some := List.mem_map.mpr ⟨a, ha, rfl⟩
  rw [← hs] at this
  obtain ⟨i, -, hi⟩ := List.mem_map.mp this
  exact h (List.mem_of_getElem? hi)
theorem nd_out {L L' : List Nat} {a : Nat} (h : nd L) (is : List Nat) (hs : is.map (fun i => L[i]?) = L'.map some) (j : Nat) (hj : L[j]? = some a) (hd : is.contains j = false) : a ∉ L' := by
  intro ha
  have : some a ∈ L'.map some := List.mem_map.mpr ⟨a, ha, rfl⟩
  rw [← hs] at this
  obtain ⟨i, hi, he⟩ := List.mem_map.mp this
  have := h i j a he hj
  subst this
  rw [List.contains_eq_mem, decide_eq_false_iff_not] at hd
  exact hd hi
theorem AD.big {C pa sa : Nat → Nat} (h : AD C pa sa) {i : Nat} (hi : i < 60) : nd (CL C ++ [pa i, sa i]) := by
  have h1 := nd_snoc h.1 (h.2.1 i hi).1
  have h2 := nd_snoc h1 (a := sa i) (out_app (h.2.1 i hi).2 (by simp; exact fun e => h.2.2.2.2 i i hi hi e.symm))
  rw [List.append_assoc] at h2
  exact h2
theorem AD.big2 {C pa sa : Nat → Nat} (h : AD C pa sa) {i j : Nat} (hi : i < 60) (hj : j < 60) (hn : i ≠ j) : nd (CL C ++ [pa i, sa i] ++ [pa j, sa j]) := by
  have h0 := h.big hi
  have o1 : pa j ∉ CL C ++ [pa i, sa i] := out_app (h.2.1 j hj).1 (out_two (fun e => hn (h.2.2.1 _ _ hi hj e.symm)) (h.2.2.2.2 j i hj hi))
  have o2 : sa j ∉ CL C ++ [pa i, sa i] ++ [pa j] := out_app (out_app (h.2.1 j hj).2 (out_two (fun e => h.2.2.2.2 i j hi hj e.symm) (fun e => hn (h.2.2.2.1 _ _ hi hj e.symm)))) (by simp; exact fun e => h.2.2.2.2 j j hj hj e.symm)
  have h2 := nd_snoc (nd_snoc h0 o1) o2
  rw [List.append_assoc (CL C ++ [pa i, sa i])] at h2
  exact h2
theorem AD.pap {C pa sa : Nat → Nat} (h : AD C pa sa) {mn : Nat} (hm : mn < 60) : papart pa sa mn (CL C ++ [pa mn, sa mn]) := fun i hi => ⟨out_app (h.2.1 i (by omega)).1 (out_two (fun e => by have := h.2.2.1 i mn (by omega) hm e; omega) (h.2.2.2.2 i mn (by omega) hm)), out_app (h.2.1 i (by omega)).2 (out_two (fun e => h.2.2.2.2 mn i hm (by omega) e.symm) (fun e => by have := h.2.2.2.1 i mn (by omega) hm e; omega))⟩
theorem AD.papF {C pa sa : Nat → Nat} (h : AD C pa sa) {mn : Nat} (hm : mn ≤ 60) : papart pa sa mn (CL C) := fun i hi => h.2.1 i (by omega)
theorem AD.pa {C pa sa : Nat → Nat} (h : AD C pa sa) {mn i : Nat} (hm : mn < 60) (hi : i < 60) (hn : i ≠ mn) : pa i ∉ CL C ++ [pa mn, sa mn] ∧ sa i ∉ CL C ++ [pa mn, sa mn] := ⟨out_app (h.2.1 i hi).1 (out_two (fun e => hn (h.2.2.1 i mn hi hm e)) (h.2.2.2.2 i mn hi hm)), out_app (h.2.1 i hi).2 (out_two (fun e => h.2.2.2.2 mn i hm hi e.symm) (fun e => hn (h.2.2.2.1 i mn hi hm e)))⟩
theorem apart_app {A1 A2 B : List Nat} (h1 : apart A1 B) (h2 : apart A2 B) : apart (A1 ++ A2) B := by
  intro i j a hi hj
  by_cases h : i < A1.length
  · rw [List.getElem?_append_left h] at hi; exact h1 i j a hi hj
  · rw [List.getElem?_append_right (by omega)] at hi; exact h2 _ j a hi hj
theorem out_new {w : wf_W} {a u : Nat} {x : va_E} (h : w a = some x) (hu : w u = none) : a ∉ [u] := by
  intro hm
  rw [List.mem_singleton.mp hm, hu] at h
  cases h
theorem nd_new {w : wf_W} {L : List Nat} {u : Nat} (h : nd L) (hL : ∀ a, a ∈ L → w a ≠ none) (hu : w u = none) : nd (L ++ [u]) := nd_snoc h (fun hm => hL u hm hu)
/-- what a call of the class leaves alone -/
def frC (C pa sa : Nat → Nat) (w w' : wf_W) : Prop := ∀ a, (∀ i, i < 35 → a ≠ C i) → (∀ i, i < 60 → a ≠ pa i ∧ a ≠ sa i) → w a ≠ none → w' a = w a
theorem frC_rfl {C pa sa : Nat → Nat} {w : wf_W} : frC C pa sa w w := fun _ _ _ _ => rfl
def ownC (C pa sa : Nat → Nat) (w : wf_W) (x : Nat) : Prop := (∃ i, i < 35 ∧ x = C i) ∨ (∃ i, i < 60 ∧ (x = pa i ∨ x = sa i)) ∨ w x = none
theorem frC_l {C pa sa : Nat → Nat} {w : wf_W} {L : List (Nat × va_E)} (h : ∀ x, x ∈ L.map Prod.fst → ownC C pa sa w x) : frC C pa sa w (wf_l w L) := by
  intro a h1 h2 h3
  refine wf_lo (fun hm => ?_)
  rcases h a hm with ⟨i, g1, g2⟩ | ⟨i, g1, g2 | g2⟩ | g
  · exact h1 i g1 g2
  · exact (h2 i g1).1 g2
  · exact (h2 i g1).2 g2
  · exact h3 g
theorem fm_n {P : Nat → Prop} : ∀ x, x ∈ ([] : List Nat) → P x := fun _ h => by cases h
theorem fm_c {P : Nat → Prop} {a : Nat} {l : List Nat} (h : P a) (hl : ∀ x, x ∈ l → P x) : ∀ x, x ∈ a :: l → P x := by
  intro x hx
  rcases List.mem_cons.mp hx with e | e
  · rw [e]; exact h
  · exact hl x e
theorem oC {C pa sa : Nat → Nat} {w : wf_W} (i : Nat) (h : i < 35) : ownC C pa sa w (C i) := Or.inl ⟨i, h, rfl⟩
theorem oP {C pa sa : Nat → Nat} {w : wf_W} {i : Nat} (h : i < 60) : ownC C pa sa w (pa i) := Or.inr (Or.inl ⟨i, h, Or.inl rfl⟩)
theorem oS {C pa sa : Nat → Nat} {w : wf_W} {i : Nat} (h : i < 60) : ownC C pa sa w (sa i) := Or.inr (Or.inl ⟨i, h, Or.inr rfl⟩)
theorem oN {C pa sa : Nat → Nat} {w : wf_W} {u : Nat} (h : w u = none) : ownC C pa sa w u := Or.inr (Or.inr h)
def CSt (t : Nat → ClassId) (w : wf_W) (C pa sa : Nat → Nat) (k mn cz tz ca : Nat) (cl tl Sz En Nx : Nat → Nat) : Prop :=
  (w (C 0) = some (.inr (10, [.int (nI k), .ref (C 1), .ref (C 3), .ref (C 5), .ref (C 6), .ref (C 13), .ref (C 15), .ref (C 17), .ref (C 21), .ref (C 25), .ref (C 30), .ref (C 33), .int (nI mn), .int (nI ca)]))) ∧
  (w (C 1) = some (.inr (0, [.ref (C 2), .int (nI cz)]))) ∧
  (∃ (cof : Nat → Int32), w (C 2) = some (.inl (t 0, 100, .inl cof)) ∧ ∀ i, i < cz → cof i = nI (cl i)) ∧
  (w (C 3) = some (.inr (0, [.ref (C 4), .int (nI tz)]))) ∧
  (∃ (ltf : Nat → Int32), w (C 4) = some (.inl (t 0, 100, .inl ltf)) ∧ ∀ i, i < tz → ltf i = nI (tl i)) ∧
  (∃ (mq : Nat → Option Nat), w (C 5) = some (.inl (t 3, 60, .inr (.inr (.inr (.inr mq))))) ∧ ∀ i, i < 60 → mq i = some (pa i)) ∧
  (∃ (z : Nat), w (C 6) = some (.inr (2, [.int (nI k), .ref (C 7), .ref (C 8), .ref (C 9), .ref (C 10), .ref (C 11), .ref (C 12), .int (nI z)]))) ∧
  (∃ (F : Nat → Nat), w (C 7) = some (.inl (t 1, 200, .inr (.inl (lA F))))) ∧
  (∃ (L : Nat → Nat), w (C 8) = some (.inl (t 0, 800, .inl (iA L)))) ∧
  (∃ (Z : Nat → Bool), w (C 9) = some (.inl (t 2, 200, .inl (zA Z)))) ∧
  (∃ (K : Nat → Nat), w (C 10) = some (.inl (t 0, 200, .inl (iA K)))) ∧
  (∃ (Fi : Nat → Nat), w (C 11) = some (.inl (t 0, 200, .inl (iA Fi)))) ∧
  (∃ (Mk : Nat → Nat), w (C 12) = some (.inl (t 0, 40, .inl (iA Mk)))) ∧
  (∃ (nM : Nat) (EM : Nat), w (C 13) = some (.inr (1, [.int (nI k), .ref (C 14), .int (nI nM), .long (lN EM)]))) ∧
  (∃ (fM : Nat → Int32), w (C 14) = some (.inl (t 0, 40, .inl (pkA fM)))) ∧
  (∃ (nC : Nat) (EC : Nat), w (C 15) = some (.inr (1, [.int (nI k), .ref (C 16), .int (nI nC), .long (lN EC)]))) ∧
  (∃ (fC : Nat → Int32), w (C 16) = some (.inl (t 0, 40, .inl (pkA fC)))) ∧
  (∃ (b : Nat) (en : Nat), w (C 17) = some (.inr (3, [.int (nI k), .ref (C 18), .ref (C 19), .ref (C 20), .long (lN b), .long (lN en)]))) ∧
  (∃ (G : Nat → Nat), w (C 18) = some (.inl (t 1, 164, .inr (.inl (lA G))))) ∧
  (∃ (Cr : Nat → Nat), w (C 19) = some (.inl (t 1, 40, .inr (.inl (lA Cr))))) ∧
  (∃ (Zc : Nat → Nat), w (C 20) = some (.inl (t 1, 40, .inr (.inl (lA Zc))))) ∧
  (∃ (op : Nat), w (C 21) = some (.inr (4, [.ref (C 22), .ref (C 24), .int (nI op)]))) ∧
  (∃ (zq : Nat), w (C 22) = some (.inr (0, [.ref (C 23), .int (nI zq)]))) ∧
  (∃ (tqf : Nat → Int32), w (C 23) = some (.inl (t 0, 100, .inl tqf))) ∧
  (∃ (fb : Nat → Nat), w (C 24) = some (.inl (t 0, 101, .inl (iA fb))) ∧ ((∀ j, j ≤ 100 → fb j ≤ 100) ∧ fb 1 = 0)) ∧
  (w (C 25) = some (.inr (5, [.int (nI k), .ref (C 26), .ref (C 28)]))) ∧
  (∃ (zl : Nat), w (C 26) = some (.inr (0, [.ref (C 27), .int (nI zl)])) ∧ zl ≤ 100) ∧
  (∃ (lf : Nat → Int32), w (C 27) = some (.inl (t 0, 100, .inl lf))) ∧
  (∃ (zh : Nat), w (C 28) = some (.inr (0, [.ref (C 29), .int (nI zh)])) ∧ zh ≤ 100) ∧
  (∃ (hf : Nat → Int32), w (C 29) = some (.inl (t 0, 100, .inl hf))) ∧
  (∃ (qz : Nat), w (C 30) = some (.inr (8, [.int (nI k), .ref (C 31), .ref (C 32), .int (nI qz)]))) ∧
  (∃ (Qu : Nat → Nat), w (C 31) = some (.inl (t 0, 1600, .inl (iA Qu)))) ∧
  (∃ (cf : Nat → Int32), w (C 32) = some (.inl (t 0, 1600, .inl cf))) ∧
  (w (C 33) = some (.inr (9, [.int (nI k), .ref (C 34)]))) ∧
  (∃ (Wy : Nat → Nat), w (C 34) = some (.inl (t 1, 4040, .inr (.inl (lA Wy))))) ∧
  (∃ ff, pool t w pa sa k mn Sz En ff ∧ ∀ i, i < mn → mOK k (Sz i) (En i) (ff i) (nxt Nx i)) ∧
  ∀ i, mn ≤ i → i < 60 → ∃ n E f, w (pa i) = some (.inr (1, [.int (nI k), .ref (sa i), .int (nI n), .long (lN E)])) ∧ w (sa i) = some (.inl (t 0, 40, .inl (pkA f)))
def RSt (t : Nat → ClassId) (w : wf_W) (mo : Nat) (A : Nat → Nat) (k mn cz tz ca : Nat) (cl tl Sz En Nx : Nat → Nat) : Prop :=
  (∃ (pz wy fi se ho lx ly ts tS cs av lz hz1 nl nh ce qd : Nat), w mo = some (rfO k mn (A 0) (A 1) (A 2) (A 3) cz (A 4) tz ca (A 5) (A 6) (A 7) (A 8) pz wy fi se ho lx ly ts tS (A 9) (A 10) (A 11) (A 12) (A 13) (A 14) (A 15) cs (A 16) (A 17) (A 18) av (A 19) (A 20) lz hz1 nl nh (A 21) ce (A 22) (A 23) (A 24) (A 25) qd (A 26))) ∧
  w (A 0) = some (.inl (t 0, 60, .inl (iA Sz))) ∧
  w (A 1) = some (.inl (t 0, 9600, .inl (iA Nx))) ∧
  w (A 2) = some (.inl (t 1, 60, .inr (.inl (lA En)))) ∧
  w (A 3) = some (.inl (t 0, 100, .inl (iA cl))) ∧
  w (A 4) = some (.inl (t 0, 100, .inl (iA tl))) ∧
  (∃ PS : Nat → Nat, w (A 5) = some (.inl (t 0, 300, .inl (iA PS)))) ∧
  (∃ PT : Nat → Nat, w (A 6) = some (.inl (t 1, 300, .inr (.inl (lA PT))))) ∧
  (∃ L : Nat → Nat, w (A 7) = some (.inl (t 0, 1200, .inl (iA L)))) ∧
  (∃ Z : Nat → Bool, w (A 8) = some (.inl (t 2, 300, .inl (zA Z)))) ∧
  (∃ LO : Nat → Nat, w (A 9) = some (.inl (t 0, 40, .inl (iA LO)))) ∧
  (∃ LT : Nat → Nat, w (A 10) = some (.inl (t 0, 40, .inl (iA LT)))) ∧
  (∃ IC : Nat → Bool, w (A 11) = some (.inl (t 2, 300, .inl (zA IC)))) ∧
  (∃ RW : Nat → Nat, w (A 12) = some (.inl (t 0, 300, .inl (iA RW)))) ∧
  (∃ CO : Nat → Nat, w (A 13) = some (.inl (t 0, 300, .inl (iA CO)))) ∧
  (∃ CT : Nat → Nat, w (A 14) = some (.inl (t 0, 300, .inl (iA CT)))) ∧
  (∃ SP : Nat → Nat, w (A 15) = some (.inl (t 0, 41, .inl (iA SP)))) ∧
  (∃ NU : Nat → Int32, w (A 16) = some (.inl (t 0, 41, .inl NU))) ∧
  (∃ OR : Nat → Nat, w (A 17) = some (.inl (t 0, 41, .inl (iA OR)))) ∧
  (∃ NN : Nat → Nat, w (A 18) = some (.inl (t 0, 160, .inl (iA NN)))) ∧
  (∃ LD : Nat → Nat, w (A 19) = some (.inl (t 0, 32, .inl (iA LD)))) ∧
  (∃ HD : Nat → Nat, w (A 20) = some (.inl (t 0, 32, .inl (iA HD)))) ∧
  (∃ CN : Nat → Nat, w (A 21) = some (.inl (t 0, 164, .inl (iA CN)))) ∧
  (∃ IS : Nat → Bool, w (A 22) = some (.inl (t 2, 1600, .inl (zA IS)))) ∧
  (∃ QU : Nat → Nat, w (A 23) = some (.inl (t 0, 1600, .inl (iA QU)))) ∧
  (∃ CF : Nat → Nat, w (A 24) = some (.inl (t 0, 1600, .inl (iA CF)))) ∧
  (∃ CB : Nat → Nat, w (A 25) = some (.inl (t 0, 1600, .inl (iA CB)))) ∧
  (∃ WY : Nat → Nat, w (A 26) = some (.inl (t 1, 4040, .inr (.inl (lA WY)))))

/-- the class's state where its cells stand as they were -/
theorem CSt_fr {t : Nat → ClassId} {w w' : wf_W} {C pa sa : Nat → Nat} {k mn cz tz ca : Nat} {cl tl Sz En Nx : Nat → Nat} (hm : mn ≤ 60) (eC : ∀ i, i < 35 → w' (C i) = w (C i)) (eP : ∀ i, i < 60 → w' (pa i) = w (pa i) ∧ w' (sa i) = w (sa i)) (hC : CSt t w C pa sa k mn cz tz ca cl tl Sz En Nx) : CSt t w' C pa sa k mn cz tz ca cl tl Sz En Nx := by
  obtain ⟨h0, h1, ⟨cof, h2, h2c⟩, h3, ⟨ltf, h4, h4c⟩, ⟨mq, h5, h5c⟩, ⟨z, h6⟩, ⟨F, h7⟩, ⟨L, h8⟩, ⟨Z, h9⟩, ⟨K, h10⟩, ⟨Fi, h11⟩, ⟨Mk, h12⟩, ⟨nM, EM, h13⟩, ⟨fM, h14⟩, ⟨nC, EC, h15⟩, ⟨fC, h16⟩, ⟨b, en, h17⟩, ⟨G, h18⟩, ⟨Cr, h19⟩, ⟨Zc, h20⟩, ⟨op, h21⟩, ⟨zq, h22⟩, ⟨tqf, h23⟩, ⟨fb, h24, h24c⟩, h25, ⟨zl, h26, h26c⟩, ⟨lf, h27⟩, ⟨zh, h28, h28c⟩, ⟨hf, h29⟩, ⟨qz, h30⟩, ⟨Qu, h31⟩, ⟨cf, h32⟩, h33, ⟨Wy, h34⟩, ⟨ff, hpl, hmO⟩, hfree⟩ := hC
  exact ⟨(by rw [eC 0 (by decide)]; exact h0), (by rw [eC 1 (by decide)]; exact h1), ⟨cof, (by rw [eC 2 (by decide)]; exact h2), h2c⟩, (by rw [eC 3 (by decide)]; exact h3), ⟨ltf, (by rw [eC 4 (by decide)]; exact h4), h4c⟩, ⟨mq, (by rw [eC 5 (by decide)]; exact h5), h5c⟩, ⟨z, (by rw [eC 6 (by decide)]; exact h6)⟩, ⟨F, (by rw [eC 7 (by decide)]; exact h7)⟩, ⟨L, (by rw [eC 8 (by decide)]; exact h8)⟩, ⟨Z, (by rw [eC 9 (by decide)]; exact h9)⟩, ⟨K, (by rw [eC 10 (by decide)]; exact h10)⟩, ⟨Fi, (by rw [eC 11 (by decide)]; exact h11)⟩, ⟨Mk, (by rw [eC 12 (by decide)]; exact h12)⟩, ⟨nM, EM, (by rw [eC 13 (by decide)]; exact h13)⟩, ⟨fM, (by rw [eC 14 (by decide)]; exact h14)⟩, ⟨nC, EC, (by rw [eC 15 (by decide)]; exact h15)⟩, ⟨fC, (by rw [eC 16 (by decide)]; exact h16)⟩, ⟨b, en, (by rw [eC 17 (by decide)]; exact h17)⟩, ⟨G, (by rw [eC 18 (by decide)]; exact h18)⟩, ⟨Cr, (by rw [eC 19 (by decide)]; exact h19)⟩, ⟨Zc, (by rw [eC 20 (by decide)]; exact h20)⟩, ⟨op, (by rw [eC 21 (by decide)]; exact h21)⟩, ⟨zq, (by rw [eC 22 (by decide)]; exact h22)⟩, ⟨tqf, (by rw [eC 23 (by decide)]; exact h23)⟩, ⟨fb, (by rw [eC 24 (by decide)]; exact h24), h24c⟩, (by rw [eC 25 (by decide)]; exact h25), ⟨zl, (by rw [eC 26 (by decide)]; exact h26), h26c⟩, ⟨lf, (by rw [eC 27 (by decide)]; exact h27)⟩, ⟨zh, (by rw [eC 28 (by decide)]; exact h28), h28c⟩, ⟨hf, (by rw [eC 29 (by decide)]; exact h29)⟩, ⟨qz, (by rw [eC 30 (by decide)]; exact h30)⟩, ⟨Qu, (by rw [eC 31 (by decide)]; exact h31)⟩, ⟨cf, (by rw [eC 32 (by decide)]; exact h32)⟩, (by rw [eC 33 (by decide)]; exact h33), ⟨Wy, (by rw [eC 34 (by decide)]; exact h34)⟩, ⟨ff, fun i hi => ⟨by rw [(eP i (by omega)).1]; exact (hpl i hi).1, by rw [(eP i (by omega)).2]; exact (hpl i hi).2⟩, hmO⟩, fun i g1 g2 => by obtain ⟨n, E, f, f1, f2⟩ := hfree i g1 g2; exact ⟨n, E, f, by rw [(eP i g2).1]; exact f1, by rw [(eP i g2).2]; exact f2⟩⟩
theorem RSt_fr {t : Nat → ClassId} {w w' : wf_W} {mo : Nat} {A : Nat → Nat} {k mn cz tz ca : Nat} {cl tl Sz En Nx : Nat → Nat} (h0 : w' mo = w mo) (h1 : ∀ i, i < 27 → w' (A i) = w (A i)) (hR : RSt t w mo A k mn cz tz ca cl tl Sz En Nx) : RSt t w' mo A k mn cz tz ca cl tl Sz En Nx := by
  obtain ⟨⟨pz, wy, fi, se, ho, lx, ly, ts, tS, cs, av, lz, hz1, nl, nh, ce, qd, g_mo⟩, g0, g1, g2, g3, g4, ⟨PS, g5⟩, ⟨PT, g6⟩, ⟨L, g7⟩, ⟨Z, g8⟩, ⟨LO, g9⟩, ⟨LT, g10⟩, ⟨IC, g11⟩, ⟨RW, g12⟩, ⟨CO, g13⟩, ⟨CT, g14⟩, ⟨SP, g15⟩, ⟨NU, g16⟩, ⟨OR, g17⟩, ⟨NN, g18⟩, ⟨LD, g19⟩, ⟨HD, g20⟩, ⟨CN, g21⟩, ⟨IS, g22⟩, ⟨QU, g23⟩, ⟨CF, g24⟩, ⟨CB, g25⟩, ⟨WY, g26⟩⟩ := hR
  exact ⟨⟨pz, wy, fi, se, ho, lx, ly, ts, tS, cs, av, lz, hz1, nl, nh, ce, qd, by rw [h0]; exact g_mo⟩, (by rw [h1 0 (by decide)]; exact g0), (by rw [h1 1 (by decide)]; exact g1), (by rw [h1 2 (by decide)]; exact g2), (by rw [h1 3 (by decide)]; exact g3), (by rw [h1 4 (by decide)]; exact g4), ⟨PS, (by rw [h1 5 (by decide)]; exact g5)⟩, ⟨PT, (by rw [h1 6 (by decide)]; exact g6)⟩, ⟨L, (by rw [h1 7 (by decide)]; exact g7)⟩, ⟨Z, (by rw [h1 8 (by decide)]; exact g8)⟩, ⟨LO, (by rw [h1 9 (by decide)]; exact g9)⟩, ⟨LT, (by rw [h1 10 (by decide)]; exact g10)⟩, ⟨IC, (by rw [h1 11 (by decide)]; exact g11)⟩, ⟨RW, (by rw [h1 12 (by decide)]; exact g12)⟩, ⟨CO, (by rw [h1 13 (by decide)]; exact g13)⟩, ⟨CT, (by rw [h1 14 (by decide)]; exact g14)⟩, ⟨SP, (by rw [h1 15 (by decide)]; exact g15)⟩, ⟨NU, (by rw [h1 16 (by decide)]; exact g16)⟩, ⟨OR, (by rw [h1 17 (by decide)]; exact g17)⟩, ⟨NN, (by rw [h1 18 (by decide)]; exact g18)⟩, ⟨LD, (by rw [h1 19 (by decide)]; exact g19)⟩, ⟨HD, (by rw [h1 20 (by decide)]; exact g20)⟩, ⟨CN, (by rw [h1 21 (by decide)]; exact g21)⟩, ⟨IS, (by rw [h1 22 (by decide)]; exact g22)⟩, ⟨QU, (by rw [h1 23 (by decide)]; exact g23)⟩, ⟨CF, (by rw [h1 24 (by decide)]; exact g24)⟩, ⟨CB, (by rw [h1 25 (by decide)]; exact g25)⟩, ⟨WY, (by rw [h1 26 (by decide)]; exact g26)⟩⟩
/-- the same machines, said otherwise -/
theorem CSt_sMc {t : Nat → ClassId} {w : wf_W} {C pa sa : Nat → Nat} {k mn cz tz ca : Nat} {cl tl Sz En Nx Sz' En' Nx' : Nat → Nat} (h : sMc k mn Sz En Nx Sz' En' Nx') (hC : CSt t w C pa sa k mn cz tz ca cl tl Sz En Nx) : CSt t w C pa sa k mn cz tz ca cl tl Sz' En' Nx' := by
  obtain ⟨h0, h1, ⟨cof, h2, h2c⟩, h3, ⟨ltf, h4, h4c⟩, ⟨mq, h5, h5c⟩, ⟨z, h6⟩, ⟨F, h7⟩, ⟨L, h8⟩, ⟨Z, h9⟩, ⟨K, h10⟩, ⟨Fi, h11⟩, ⟨Mk, h12⟩, ⟨nM, EM, h13⟩, ⟨fM, h14⟩, ⟨nC, EC, h15⟩, ⟨fC, h16⟩, ⟨b, en, h17⟩, ⟨G, h18⟩, ⟨Cr, h19⟩, ⟨Zc, h20⟩, ⟨op, h21⟩, ⟨zq, h22⟩, ⟨tqf, h23⟩, ⟨fb, h24, h24c⟩, h25, ⟨zl, h26, h26c⟩, ⟨lf, h27⟩, ⟨zh, h28, h28c⟩, ⟨hf, h29⟩, ⟨qz, h30⟩, ⟨Qu, h31⟩, ⟨cf, h32⟩, h33, ⟨Wy, h34⟩, ⟨ff, hpl, hmO⟩, hfree⟩ := hC
  refine ⟨h0, h1, ⟨cof, h2, h2c⟩, h3, ⟨ltf, h4, h4c⟩, ⟨mq, h5, h5c⟩, ⟨z, h6⟩, ⟨F, h7⟩, ⟨L, h8⟩, ⟨Z, h9⟩, ⟨K, h10⟩, ⟨Fi, h11⟩, ⟨Mk, h12⟩, ⟨nM, EM, h13⟩, ⟨fM, h14⟩, ⟨nC, EC, h15⟩, ⟨fC, h16⟩, ⟨b, en, h17⟩, ⟨G, h18⟩, ⟨Cr, h19⟩, ⟨Zc, h20⟩, ⟨op, h21⟩, ⟨zq, h22⟩, ⟨tqf, h23⟩, ⟨fb, h24, h24c⟩, h25, ⟨zl, h26, h26c⟩, ⟨lf, h27⟩, ⟨zh, h28, h28c⟩, ⟨hf, h29⟩, ⟨qz, h30⟩, ⟨Qu, h31⟩, ⟨cf, h32⟩, h33, ⟨Wy, h34⟩, ⟨ff, fun i hi => ?_, fun i hi => ?_⟩, hfree⟩
  · obtain ⟨e1, e2, e3⟩ := h i hi
    rw [← e1, ← e2]; exact hpl i hi
  · obtain ⟨e1, e2, e3⟩ := h i hi
    rw [← e1, ← e2]
    exact mOK_cg (hmO i hi) (fun _ _ => rfl) (fun q b hq hb => (e3 q b hq hb).symm)
