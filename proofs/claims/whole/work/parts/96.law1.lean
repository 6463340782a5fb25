/-! THE LAW: ONE STATE FOR BOTH -/
def DJ (C pa sa : Nat → Nat) (mo : Nat) (A : Nat → Nat) : Prop := (∀ i, i < 35 → C i ∉ RL mo A) ∧ ∀ i, i < 60 → pa i ∉ RL mo A ∧ sa i ∉ RL mo A
def LI (t : Nat → ClassId) (w : wf_W) (C pa sa : Nat → Nat) (mo : Nat) (A : Nat → Nat) (k mn cz tz ca : Nat) (cl tl Sz En Nx : Nat → Nat) : Prop := AD C pa sa ∧ nd (RL mo A) ∧ DJ C pa sa mo A ∧ (2 ≤ k ∧ k ≤ 4) ∧ mcO k mn Sz En Nx ∧ cz ≤ 100 ∧ tz ≤ 100 ∧ (∀ i, i < cz → cl i < k) ∧ CSt t w C pa sa k mn cz tz ca cl tl Sz En Nx ∧ RSt t w mo A k mn cz tz ca cl tl Sz En Nx
theorem RSt_some {t : Nat → ClassId} {w : wf_W} {mo : Nat} {A : Nat → Nat} {k mn cz tz ca : Nat} {cl tl Sz En Nx : Nat → Nat} (hR : RSt t w mo A k mn cz tz ca cl tl Sz En Nx) : w mo ≠ none ∧ ∀ i, i < 27 → w (A i) ≠ none := by
  obtain ⟨⟨pz, wy, fi, se, ho, lx, ly, ts, tS, cs, av, lz, hz1, nl, nh, ce, qd, g_mo⟩, g0, g1, g2, g3, g4, ⟨PS, g5⟩, ⟨PT, g6⟩, ⟨L, g7⟩, ⟨Z, g8⟩, ⟨LO, g9⟩, ⟨LT, g10⟩, ⟨IC, g11⟩, ⟨RW, g12⟩, ⟨CO, g13⟩, ⟨CT, g14⟩, ⟨SP, g15⟩, ⟨NU, g16⟩, ⟨OR, g17⟩, ⟨NN, g18⟩, ⟨LD, g19⟩, ⟨HD, g20⟩, ⟨CN, g21⟩, ⟨IS, g22⟩, ⟨QU, g23⟩, ⟨CF, g24⟩, ⟨CB, g25⟩, ⟨WY, g26⟩⟩ := hR
  refine ⟨by rw [g_mo]; exact Option.some_ne_none _, fun i hi => ?_⟩
  match i, hi with
  | 0, _ => rw [g0]; exact Option.some_ne_none _
  | 1, _ => rw [g1]; exact Option.some_ne_none _
  | 2, _ => rw [g2]; exact Option.some_ne_none _
  | 3, _ => rw [g3]; exact Option.some_ne_none _
  | 4, _ => rw [g4]; exact Option.some_ne_none _
  | 5, _ => rw [g5]; exact Option.some_ne_none _
  | 6, _ => rw [g6]; exact Option.some_ne_none _
  | 7, _ => rw [g7]; exact Option.some_ne_none _
  | 8, _ => rw [g8]; exact Option.some_ne_none _
  | 9, _ => rw [g9]; exact Option.some_ne_none _
  | 10, _ => rw [g10]; exact Option.some_ne_none _
  | 11, _ => rw [g11]; exact Option.some_ne_none _
  | 12, _ => rw [g12]; exact Option.some_ne_none _
  | 13, _ => rw [g13]; exact Option.some_ne_none _
  | 14, _ => rw [g14]; exact Option.some_ne_none _
  | 15, _ => rw [g15]; exact Option.some_ne_none _
  | 16, _ => rw [g16]; exact Option.some_ne_none _
  | 17, _ => rw [g17]; exact Option.some_ne_none _
  | 18, _ => rw [g18]; exact Option.some_ne_none _
  | 19, _ => rw [g19]; exact Option.some_ne_none _
  | 20, _ => rw [g20]; exact Option.some_ne_none _
  | 21, _ => rw [g21]; exact Option.some_ne_none _
  | 22, _ => rw [g22]; exact Option.some_ne_none _
  | 23, _ => rw [g23]; exact Option.some_ne_none _
  | 24, _ => rw [g24]; exact Option.some_ne_none _
  | 25, _ => rw [g25]; exact Option.some_ne_none _
  | 26, _ => rw [g26]; exact Option.some_ne_none _
  | i + 27, hi => exact absurd hi (by omega)
theorem RL_mo {mo : Nat} {A : Nat → Nat} : mo ∈ RL mo A := List.mem_of_getElem? (i := 0) rfl
theorem RL_A {mo : Nat} {A : Nat → Nat} {i : Nat} (hi : i < 27) : A i ∈ RL mo A := by
  refine List.mem_of_getElem? (i := i + 1) ?_
  match i, hi with
  | 0, _ => rfl
  | 1, _ => rfl
  | 2, _ => rfl
  | 3, _ => rfl
  | 4, _ => rfl
  | 5, _ => rfl
  | 6, _ => rfl
  | 7, _ => rfl
  | 8, _ => rfl
  | 9, _ => rfl
  | 10, _ => rfl
  | 11, _ => rfl
  | 12, _ => rfl
  | 13, _ => rfl
  | 14, _ => rfl
  | 15, _ => rfl
  | 16, _ => rfl
  | 17, _ => rfl
  | 18, _ => rfl
  | 19, _ => rfl
  | 20, _ => rfl
  | 21, _ => rfl
  | 22, _ => rfl
  | 23, _ => rfl
  | 24, _ => rfl
  | 25, _ => rfl
  | 26, _ => rfl
  | i + 27, hi => exact absurd hi (by omega)
theorem RSt_C {t : Nat → ClassId} {w w1 : wf_W} {C pa sa : Nat → Nat} {mo : Nat} {A : Nat → Nat} {k mn cz tz ca : Nat} {cl tl Sz En Nx : Nat → Nat} (hD : DJ C pa sa mo A) (hf : frC C pa sa w w1) (hR : RSt t w mo A k mn cz tz ca cl tl Sz En Nx) : RSt t w1 mo A k mn cz tz ca cl tl Sz En Nx := by
  obtain ⟨s1, s2⟩ := RSt_some hR
  have key : ∀ a, a ∈ RL mo A → w a ≠ none → w1 a = w a := fun a ha hn => hf a (fun i hi e => hD.1 i hi (e ▸ ha)) (fun i hi => ⟨fun e => (hD.2 i hi).1 (e ▸ ha), fun e => (hD.2 i hi).2 (e ▸ ha)⟩) hn
  exact RSt_fr (key mo RL_mo s1) (fun i hi => key (A i) (RL_A hi) (s2 i hi)) hR
theorem CSt_R {t : Nat → ClassId} {w w1 : wf_W} {C pa sa : Nat → Nat} {mo : Nat} {A : Nat → Nat} {k mn cz tz ca : Nat} {cl tl Sz En Nx : Nat → Nat} (hD : DJ C pa sa mo A) (hm : mn ≤ 60) (hf : frR mo A w w1) (hC : CSt t w C pa sa k mn cz tz ca cl tl Sz En Nx) : CSt t w1 C pa sa k mn cz tz ca cl tl Sz En Nx :=
  CSt_fr hm (fun i hi => hf _ (hD.1 i hi)) (fun i hi => ⟨hf _ (hD.2 i hi).1, hf _ (hD.2 i hi).2⟩) hC
theorem opX_mc {k mn : Nat} {Sz En Nx : Nat → Nat} {A : Nat → Nat → Nat} {x0 : Nat} {Zf : Nat → Bool} {r : Int32} {mn' ca' : Nat} {Sz' En' Nx' : Nat → Nat} (hk : k ≤ 4) (hm : mcO k mn Sz En Nx) (h : opX k mn Sz En Nx A x0 Zf r mn' Sz' En' Nx' ca') : mcO k mn' Sz' En' Nx' := by
  rcases h with ⟨F, L, z, Z, a1, a2, a3, a4⟩ | ⟨F, L, p0, a0, _, a5, a6, a7, a8, a9, a10⟩
  · exact kpD_mc hk hm a4
  · rw [a7, a8, a9, a10]; exact hm
theorem mc_sz {k mn : Nat} {Sz En Nx : Nat → Nat} (hk : k ≤ 4) (hm : mcO k mn Sz En Nx) : k ≤ 4 ∧ ∀ i, i < mn → Sz i ≤ 40 := ⟨hk, fun i hi => (hm.2 i hi).1.2.1⟩
/-- both sides' answers and machines are the same -/
def eqD (k : Nat) (r r2 : Int32) (mn1 mn2 ca1 ca2 : Nat) (Sz1 En1 Nx1 Sz2 En2 Nx2 : Nat → Nat) : Prop := r = r2 ∧ mn1 = mn2 ∧ ca1 = ca2 ∧ sMc k mn1 Sz1 En1 Nx1 Sz2 En2 Nx2 ∧ mcO k mn2 Sz2 En2 Nx2
theorem det_X {k mn : Nat} {Sz En Nx : Nat → Nat} {A : Nat → Nat → Nat} {x0 : Nat} {Zf : Nat → Bool} {r r2 : Int32} {mn1 mn2 ca1 ca2 : Nat} {Sz1 En1 Nx1 Sz2 En2 Nx2 : Nat → Nat} (hk : 2 ≤ k ∧ k ≤ 4) (hm : mcO k mn Sz En Nx) (h : opX k mn Sz En Nx A x0 Zf r mn1 Sz1 En1 Nx1 ca1) (h2 : opX k mn Sz En Nx A x0 Zf r2 mn2 Sz2 En2 Nx2 ca2) : eqD k r r2 mn1 mn2 ca1 ca2 Sz1 En1 Nx1 Sz2 En2 Nx2 := by
  obtain ⟨e1, e2, e3, e4⟩ := opX_det (V := fun _ => True) (by omega) hm.1 (mc_sz hk.2 hm) trivial (fun _ _ _ _ => trivial) (fun _ _ => rfl) h h2
  exact ⟨e1, e2, e3, e4, opX_mc hk.2 hm h2⟩
theorem det_K {k mn : Nat} {Sz En Nx : Nat → Nat} {g : List Nat → Bool} {r r2 : Int32} {mn1 mn2 ca1 ca2 : Nat} {Sz1 En1 Nx1 Sz2 En2 Nx2 : Nat → Nat} (hk : 2 ≤ k ∧ k ≤ 4) (hm : mcO k mn Sz En Nx) (h : kpD k mn Sz En Nx g r mn1 Sz1 En1 Nx1 ∧ ca1 = 0) (h2 : kpD k mn Sz En Nx g r2 mn2 Sz2 En2 Nx2 ∧ ca2 = 0) : eqD k r r2 mn1 mn2 ca1 ca2 Sz1 En1 Nx1 Sz2 En2 Nx2 := by
  obtain ⟨e1, e2, e4⟩ := kpD_det (by omega) hm.1 (mc_sz hk.2 hm) (fun _ _ => rfl) h.1 h2.1
  exact ⟨e1, e2, by rw [h.2, h2.2], e4, kpD_mc hk.2 hm h2.1⟩
theorem zl_uq {k v z z' : Nat} (hk : 2 ≤ k) (h : 1 ≤ z ∧ z ≤ 30 ∧ v < k ^ z ∧ (z = 1 ∨ k ^ (z - 1) ≤ v)) (h' : 1 ≤ z' ∧ z' ≤ 30 ∧ v < k ^ z' ∧ (z' = 1 ∨ k ^ (z' - 1) ≤ v)) : z = z' := by
  have one : ∀ z z', (1 ≤ z ∧ z ≤ 30 ∧ v < k ^ z ∧ (z = 1 ∨ k ^ (z - 1) ≤ v)) → (1 ≤ z' ∧ z' ≤ 30 ∧ v < k ^ z' ∧ (z' = 1 ∨ k ^ (z' - 1) ≤ v)) → z ≤ z' := by
    intro z z' h h'
    rcases h.2.2.2 with q | q
    · omega
    · exact pow_uq hk h'.2.2.1 q h.1
  exact Nat.le_antisymm (one z z' h h') (one z' z h' h)
theorem LI_mk {t : Nat → ClassId} {w w1 w2 : wf_W} {C pa sa : Nat → Nat} {mo : Nat} {A : Nat → Nat} {k mn cz tz ca : Nat} {cl tl Sz En Nx : Nat → Nat} {r r2 : Int32} {mn1 mn2 ca1 ca2 : Nat} {Sz1 En1 Nx1 Sz2 En2 Nx2 : Nat → Nat} (h : LI t w C pa sa mo A k mn cz tz ca cl tl Sz En Nx) (hC1 : CSt t w1 C pa sa k mn1 cz tz ca1 cl tl Sz1 En1 Nx1) (hf2 : frR mo A w1 w2) (hR2 : RSt t w2 mo A k mn2 cz tz ca2 cl tl Sz2 En2 Nx2) (he : eqD k r r2 mn1 mn2 ca1 ca2 Sz1 En1 Nx1 Sz2 En2 Nx2) : LI t w2 C pa sa mo A k mn2 cz tz ca2 cl tl Sz2 En2 Nx2 := by
  obtain ⟨i1, i2, i3, i4, i5, i6, i7, i8, i9, i10⟩ := h
  obtain ⟨e1, e2, e3, e4, e5⟩ := he
  subst e2; subst e3
  exact ⟨i1, i2, i3, i4, e5, i6, i7, i8, CSt_R i3 e5.1 hf2 (CSt_sMc e4 hC1), hR2⟩
theorem LI_tl {t : Nat → ClassId} {w w1 w2 : wf_W} {C pa sa : Nat → Nat} {mo : Nat} {A : Nat → Nat} {k mn cz tz ca : Nat} {cl tl Sz En Nx : Nat → Nat} {tz1 tz2 : Nat} {tl1 tl2 : Nat → Nat} (h : LI t w C pa sa mo A k mn cz tz ca cl tl Sz En Nx) (hC1 : CSt t w1 C pa sa k mn cz tz1 ca cl tl1 Sz En Nx) (hf2 : frR mo A w1 w2) (hR2 : RSt t w2 mo A k mn cz tz2 ca cl tl2 Sz En Nx) (e1 : tz1 = tz2) (e2 : ∀ x, x < tz1 → tl1 x = tl2 x) (ht : tz2 ≤ 100) : LI t w2 C pa sa mo A k mn cz tz2 ca cl tl2 Sz En Nx := by
  obtain ⟨i1, i2, i3, i4, i5, i6, i7, i8, i9, i10⟩ := h
  subst e1
  exact ⟨i1, i2, i3, i4, i5, i6, ht, i8, CSt_R i3 i5.1 hf2 (CSt_tl e2 hC1), hR2⟩
/-- an int that lies in a range is a number -/
theorem nat_of {q : Int32} (h : 0 ≤ q.toInt) : q = nI q.toInt.toNat := by
  have hu := Int32.toInt_lt q
  exact Int32.toInt_inj.mp (by rw [nI_toInt (by omega)]; omega)
