theorem lw_ld {p : Program} {l : Launch} {e : Env} {R : Room} {s : State} {m : MethodId} {args : Array Value} {below : List Frame} {meth : Method} {c : Code} {H : Heap} {locs : List Loc} {cells slots : Nat} {Q : State → Prop} {cc : ByteArray} {pc : Nat} {ls : Array Slot} {rest : List Value} {D : va_G} {A : Nat → Prop} {w : wf_W} {H0 : Heap} {b L n : Nat} {xs : Nat → Int32} (hx : p.tables.exec = Jvm.exec) (hb : c.code = cc) (hX : va_X b L xs s H0) (hbl : b < H0.size) (hB : wf_B D wcl A H0 w H locs) (hbA : ¬ A b) (hn : n < L) (hL : L ≤ 2049) (hdg : decode cc pc = .ok (.iaload, 1)) (kk : W p l e R s m args below meth c H locs cells slots Q (F0 m (pc + 1) ls (.int (xs n) :: rest))) : W p l e R s m args below meth c H locs cells slots Q (F0 m pc ls (.int (nI n) :: .ref b :: rest)) :=
  va_sld hx hb hX hbl hbA hB.2.2 (nI_in hn (by omega)) hdg (by rw [nI_clamp (by omega)]; exact kk)
theorem det_N {k mn v v2 : Nat} {Sz En Nx : Nat → Nat} {r r2 : Int32} {mn1 mn2 ca1 ca2 : Nat} {Sz1 En1 Nx1 Sz2 En2 Nx2 : Nat → Nat} (hk : 2 ≤ k ∧ k ≤ 4) (hm : mcO k mn Sz En Nx) (h : ∃ zl zh : Nat, (1 ≤ zl ∧ zl ≤ 30 ∧ v < k ^ zl ∧ (zl = 1 ∨ k ^ (zl - 1) ≤ v)) ∧ (1 ≤ zh ∧ zh ≤ 30 ∧ v2 < k ^ zh ∧ (zh = 1 ∨ k ^ (zh - 1) ≤ v2)) ∧ kpD k mn Sz En Nx (fun u9 => nLa zl zh (fun j => v / k ^ (zl - 1 - j) % k) (dr (fun S9 a9 => nAf zl zh (fun j => v / k ^ (zl - 1 - j) % k) (fun j => v2 / k ^ (zh - 1 - j) % k) S9 a9) 0 u9)) r mn1 Sz1 En1 Nx1 ∧ ca1 = 0) (h2 : ∃ zl zh : Nat, (1 ≤ zl ∧ zl ≤ 30 ∧ v < k ^ zl ∧ (zl = 1 ∨ k ^ (zl - 1) ≤ v)) ∧ (1 ≤ zh ∧ zh ≤ 30 ∧ v2 < k ^ zh ∧ (zh = 1 ∨ k ^ (zh - 1) ≤ v2)) ∧ kpD k mn Sz En Nx (fun u9 => nLa zl zh (fun j => v / k ^ (zl - 1 - j) % k) (dr (fun S9 a9 => nAf zl zh (fun j => v / k ^ (zl - 1 - j) % k) (fun j => v2 / k ^ (zh - 1 - j) % k) S9 a9) 0 u9)) r2 mn2 Sz2 En2 Nx2 ∧ ca2 = 0) : eqD k r r2 mn1 mn2 ca1 ca2 Sz1 En1 Nx1 Sz2 En2 Nx2 := by
  obtain ⟨zl, zh, a1, a2, a3⟩ := h
  obtain ⟨zl2, zh2, b1, b2, b3⟩ := h2
  have e1 := zl_uq hk.1 a1 b1
  have e2 := zl_uq hk.1 a2 b2
  subst e1; subst e2
  exact det_K hk hm a3 b3
theorem det_W {k mn op z x0 : Nat} {B : Nat → Nat → Nat} {Zf : Nat → Bool} {Sz En Nx : Nat → Nat} {r r2 : Int32} {mn1 mn2 ca1 ca2 : Nat} {Sz1 En1 Nx1 Sz2 En2 Nx2 : Nat → Nat} (hk : 2 ≤ k ∧ k ≤ 4) (hm : mcO k mn Sz En Nx) (h : (40 < cdM op z ∧ r = -4 ∧ mn1 = mn ∧ Sz1 = Sz ∧ En1 = En ∧ Nx1 = Nx ∧ ca1 = 0) ∨ (cdM op z ≤ 40 ∧ opX k mn Sz En Nx B x0 Zf r mn1 Sz1 En1 Nx1 ca1)) (h2 : (40 < cdM op z ∧ r2 = -4 ∧ mn2 = mn ∧ Sz2 = Sz ∧ En2 = En ∧ Nx2 = Nx ∧ ca2 = 0) ∨ (cdM op z ≤ 40 ∧ opX k mn Sz En Nx B x0 Zf r2 mn2 Sz2 En2 Nx2 ca2)) : eqD k r r2 mn1 mn2 ca1 ca2 Sz1 En1 Nx1 Sz2 En2 Nx2 := by
  rcases h with ⟨a1, a2, a3, a4, a5, a6, a7⟩ | ⟨a1, a2⟩ <;> rcases h2 with ⟨b1, b2, b3, b4, b5, b6, b7⟩ | ⟨b1, b2⟩
  · subst a4; subst a5; subst a6; subst b4; subst b5; subst b6
    exact ⟨a2.trans b2.symm, a3.trans b3.symm, a7.trans b7.symm, sMc_rfl, by rw [b3]; exact hm⟩
  · omega
  · omega
  · exact det_X hk hm a2 b2
theorem opDi_le {k n E n2 E2 tz : Nat} {st st2 : Nat → Nat → Nat} {tl : Nat → Nat} {r : Int32} {tz' : Nat} {tl' : Nat → Nat} (ht : tz ≤ 100) (h : opDi k n E st n2 E2 st2 tz tl r tz' tl') : tz' ≤ 100 := by
  rcases h with ⟨i, d, _, a2, _, a4, _⟩ | ⟨_, _, a3, _⟩
  · rw [a4]; exact a2.1
  · rw [a3]; exact ht
theorem opPi_le {k n E v tz : Nat} {st : Nat → Nat → Nat} {tl : Nat → Nat} {r : Int32} {tz' : Nat} {tl' : Nat → Nat} (ht : tz ≤ 100) (h : opPi k n E st v tz tl r tz' tl') : tz' ≤ 100 := by
  rcases h with ⟨ln, a1, _, a4, _⟩ | ⟨_, _, a3, _⟩
  · rw [a4]; exact a1.1
  · rw [a3]; exact ht
set_option maxHeartbeats 4000000 in
set_option maxRecDepth 100000 in
theorem lw_c0 {l : Launch} {p : Program} {e : Env} {s : State} {m : MethodId} {below : List Frame} {meth : Method} {c : Code} {D : va_G} {t : Nat → ClassId} {nm : String} {ret0 : Option FieldType} {b L : Nat} {xs : Nat → Int32} {Q : State → Prop} {w : wf_W} {H : Heap} {locs : List Loc} {ls : Array Slot} {cells slots i : Nat} {C pa sa : Nat → Nat} {mo : Nat} {A : Nat → Nat} {k mn cz tz ca : Nat} {cl tl Sz En Nx : Nat → Nat} (X : Cx p s m meth c R_Law nm code 4 ret0 D t) (hX : va_X b L xs s s.heap) (hbl : b < s.heap.size) (hB : wf_B D wcl (fun q : Nat => s.heap.size ≤ q) s.heap w H locs) (hI : LI t w C pa sa mo A k mn cz tz ca cl tl Sz En Nx) (hl : lv_has ls 4 [(0, .ref b), (1, .ref (C 0)), (2, .ref mo), (3, .int (nI i))]) (hi : i + 3 < L) (hL : L ≤ 2049) (hcc : cells + 1 ≤ 600000 ∧ slots + 3 ≤ 7302250) (K : ∀ (w' : wf_W) (H' : Heap) (locs' : List Loc) (mn' cz' tz' ca' : Nat) (cl' tl' Sz' En' Nx' : Nat → Nat), LI t w' C pa sa mo A k mn' cz' tz' ca' cl' tl' Sz' En' Nx' → wf_B D wcl (fun q : Nat => s.heap.size ≤ q) s.heap w' H' locs' → W p l e room_1 s m #[Value.ref b] below meth c H' locs' (cells + 1) (slots + 3) Q (F0 m 1009 ls [])) : W p l e room_1 s m #[Value.ref b] below meth c H locs cells slots Q (F0 m 168 ls []) := by
  have hx := X.1
  have hb := X.2.1
  have hbA : ¬ (fun q : Nat => s.heap.size ≤ q) b := Nat.not_le.mpr hbl
  obtain ⟨i1, i2, i3, i4, i5, i6, i7, i8, i9, i10⟩ := id hI
  have hmn := i5.1
  refine lv_aload_n hx hb d_law_168 rfl (lv_at hl 1 rfl) ?_
  refine callVi (As := []) (rest := []) X hB (fun _ h => h) (k_clear (l := l) (D := D) (sz := H.size)  i1 i4 i5 i6 i7 i8 i9 ) k_311 k_312 k_313 k_64 k_314 i9.1 cl_TM rfl hd_TM_clear ⟨Nat.le_of_ble_eq_true rfl, Nat.le_of_ble_eq_true rfl⟩ ⟨show cells + 0 ≤ 600000 by omega, show slots + 0 ≤ 7302250 by omega⟩ hl.1 (Nat.le_of_ble_eq_true rfl) d_law_169 rfl (fun r1 w1 H1 locs1 hp1 hB1 => ?_)
  obtain ⟨q1, hC1, hf1⟩ := hp1
  have hR1 := RSt_C i3 hf1 i10
  obtain ⟨pz9, wy9, fi9, se9, ho9, lx9, ly9, ts9, tS9, cs9, av9, lz9, hz19, nl9, nh9, ce9, qd9, gmo⟩ := hR1.1
  refine lv_aload_n hx hb d_law_172 rfl (lv_at hl 2 rfl) ?_
  refine callVi (As := []) (rest := [.int r1]) X hB1 (fun _ h => h) (r_clear (l := l) (D := D) (sz := H1.size)  i2 i4 i5 i6 i7 i8 hR1 ) k_1022 k_1023 k_1024 k_75 k_1025 gmo cl_Ref rfl hd_Ref_clear ⟨Nat.le_of_ble_eq_true rfl, Nat.le_of_ble_eq_true rfl⟩ ⟨show cells + 0 + 0 ≤ 600000 by omega, show slots + 0 + 0 ≤ 7302250 by omega⟩ hl.1 (Nat.le_of_ble_eq_true rfl) d_law_173 rfl (fun r2 w2 H2 locs2 hp2 hB2 => ?_)
  obtain ⟨q2, hR2, hf2⟩ := hp2
  have heq := q1.trans q2.symm
  have hLI : LI t w2 C pa sa mo A k 0 0 0 0 cl tl Sz En Nx := ⟨i1, i2, i3, i4, ⟨Nat.zero_le _, fun i hi => absurd hi (Nat.not_lt_zero _)⟩, Nat.zero_le _, Nat.zero_le _, fun i hi => absurd hi (Nat.not_lt_zero _), CSt_R i3 (Nat.zero_le _) hf2 hC1, hR2⟩
  refine wf_ceq (tgt := 1009) hx hb d_law_176 (by decide) rfl rfl (fun _ => ?_) (fun hne => absurd (congrArg Int32.toInt heq) hne)
  refine W.widen (k := cells + 1) (n := slots + 3) (by omega) (by omega) ?_
  exact K _ _ _ _ _ _ _ _ _ _ _ _ hLI hB2
set_option maxHeartbeats 4000000 in
set_option maxRecDepth 100000 in
theorem lw_c1 {l : Launch} {p : Program} {e : Env} {s : State} {m : MethodId} {below : List Frame} {meth : Method} {c : Code} {D : va_G} {t : Nat → ClassId} {nm : String} {ret0 : Option FieldType} {b L : Nat} {xs : Nat → Int32} {Q : State → Prop} {w : wf_W} {H : Heap} {locs : List Loc} {ls : Array Slot} {cells slots i : Nat} {C pa sa : Nat → Nat} {mo : Nat} {A : Nat → Nat} {k mn cz tz ca : Nat} {cl tl Sz En Nx : Nat → Nat} (X : Cx p s m meth c R_Law nm code 4 ret0 D t) (hX : va_X b L xs s s.heap) (hbl : b < s.heap.size) (hB : wf_B D wcl (fun q : Nat => s.heap.size ≤ q) s.heap w H locs) (hI : LI t w C pa sa mo A k mn cz tz ca cl tl Sz En Nx) (hl : lv_has ls 4 [(0, .ref b), (1, .ref (C 0)), (2, .ref mo), (3, .int (nI i))]) (hi : i + 3 < L) (hL : L ≤ 2049) (hcc : cells + 1 ≤ 600000 ∧ slots + 3 ≤ 7302250) (K : ∀ (w' : wf_W) (H' : Heap) (locs' : List Loc) (mn' cz' tz' ca' : Nat) (cl' tl' Sz' En' Nx' : Nat → Nat), LI t w' C pa sa mo A k mn' cz' tz' ca' cl' tl' Sz' En' Nx' → wf_B D wcl (fun q : Nat => s.heap.size ≤ q) s.heap w' H' locs' → W p l e room_1 s m #[Value.ref b] below meth c H' locs' (cells + 1) (slots + 3) Q (F0 m 1009 ls [])) : W p l e room_1 s m #[Value.ref b] below meth c H locs cells slots Q (F0 m 181 ls []) := by
  have hx := X.1
  have hb := X.2.1
  have hbA : ¬ (fun q : Nat => s.heap.size ≤ q) b := Nat.not_le.mpr hbl
  obtain ⟨i1, i2, i3, i4, i5, i6, i7, i8, i9, i10⟩ := id hI
  have hmn := i5.1
  by_cases hv : (0 ≤ (xs (i + 1)).toInt ∧ (xs (i + 1)).toInt < k)
  · have e1 : xs (i + 1) = nI ((xs (i + 1)).toInt.toNat) := nat_of (hv.1)
    have hgood : (xs (i + 1)).toInt.toNat < k := by omega
    refine lv_aload_n hx hb d_law_181 rfl (lv_at hl 1 rfl) ?_
    refine lv_aload_n hx hb d_law_182 rfl (lv_at hl 0 rfl) ?_
    refine lv_iload_n hx hb d_law_183 rfl (lv_at hl 3 rfl) ?_
    refine lv_iconst (v := nI 1) hx hb d_law_184 (by decide) ?_
    refine wf_iadd (x := i) (y := 1) hx hb d_law_185 ?_
    refine lw_ld hx hb hX hbl hB hbA (n := i + 1) (by omega) hL d_law_186 ?_
    refine wf_ti (y := nI ((xs (i + 1)).toInt.toNat)) e1 ?_
    refine callVi (As := [.int (nI ((xs (i + 1)).toInt.toNat))]) (rest := []) X hB (fun _ h => h) (k_add (l := l) (D := D) (sz := H.size)  i1 i4 i5 i6 i7 i8 i9 hgood) k_319 k_320 k_321 k_64 k_322 i9.1 cl_TM rfl hd_TM_add ⟨Nat.le_of_ble_eq_true rfl, Nat.le_of_ble_eq_true rfl⟩ ⟨show cells + 0 ≤ 600000 by omega, show slots + 0 ≤ 7302250 by omega⟩ hl.1 (Nat.le_of_ble_eq_true rfl) d_law_187 rfl (fun r1 w1 H1 locs1 hp1 hB1 => ?_)
    obtain ⟨cz1, cl1, o1, hC1, hf1⟩ := hp1
    have hR1 := RSt_C i3 hf1 i10
    obtain ⟨pz9, wy9, fi9, se9, ho9, lx9, ly9, ts9, tS9, cs9, av9, lz9, hz19, nl9, nh9, ce9, qd9, gmo⟩ := hR1.1
    refine lv_aload_n hx hb d_law_190 rfl (lv_at hl 2 rfl) ?_
    refine lv_aload_n hx hb d_law_191 rfl (lv_at hl 0 rfl) ?_
    refine lv_iload_n hx hb d_law_192 rfl (lv_at hl 3 rfl) ?_
    refine lv_iconst (v := nI 1) hx hb d_law_193 (by decide) ?_
    refine wf_iadd (x := i) (y := 1) hx hb d_law_194 ?_
    refine lw_ld hx hb hX hbl hB1 hbA (n := i + 1) (by omega) hL d_law_195 ?_
    refine wf_ti (y := nI ((xs (i + 1)).toInt.toNat)) e1 ?_
    refine callVi (As := [.int (nI ((xs (i + 1)).toInt.toNat))]) (rest := [.int r1]) X hB1 (fun _ h => h) (r_add (l := l) (D := D) (sz := H1.size)  i2 i4 i5 i6 i7 i8 hR1 hgood) k_1026 k_1027 k_1028 k_75 k_1029 gmo cl_Ref rfl hd_Ref_add ⟨Nat.le_of_ble_eq_true rfl, Nat.le_of_ble_eq_true rfl⟩ ⟨show cells + 0 + 0 ≤ 600000 by omega, show slots + 0 + 0 ≤ 7302250 by omega⟩ hl.1 (Nat.le_of_ble_eq_true rfl) d_law_196 rfl (fun r2 w2 H2 locs2 hp2 hB2 => ?_)
    obtain ⟨cz2, cl2, o2, hR2, hf2⟩ := hp2
    have hdet : r1 = r2 ∧ cz1 = cz2 ∧ cl1 = cl2 := (by rcases o1 with ⟨a1, a2, a3, a4⟩ | ⟨a1, a2, a3, a4⟩ <;> rcases o2 with ⟨b1, b2, b3, b4⟩ | ⟨b1, b2, b3, b4⟩ <;> first | omega | exact ⟨a2.trans b2.symm, a3.trans b3.symm, a4.trans b4.symm⟩)
    have heq := hdet.1
    obtain ⟨-, rfl, rfl⟩ := hdet
    have hbd9 : cz1 ≤ 100 ∧ ∀ i, i < cz1 → cl1 i < k := (by rcases o1 with ⟨a1, a2, a3, a4⟩ | ⟨a1, a2, a3, a4⟩; (rw [a3, a4]; exact ⟨by omega, fun i hi => by by_cases e9 : i = cz; (rw [nu_e e9]; exact hgood); (rw [nu_n e9]; exact i8 i (by omega))⟩); (rw [a3, a4]; exact ⟨i6, i8⟩))
    have hLI : LI t w2 C pa sa mo A k mn cz1 tz ca cl1 tl Sz En Nx := ⟨i1, i2, i3, i4, i5, hbd9.1, i7, hbd9.2, CSt_R i3 i5.1 hf2 hC1, hR2⟩
    refine wf_ceq (tgt := 1009) hx hb d_law_199 (by decide) rfl rfl (fun _ => ?_) (fun hne => absurd (congrArg Int32.toInt heq) hne)
    refine W.widen (k := cells + 1) (n := slots + 3) (by omega) (by omega) ?_
    exact K _ _ _ _ _ _ _ _ _ _ _ _ hLI hB2
  · refine lv_aload_n hx hb d_law_181 rfl (lv_at hl 1 rfl) ?_
    refine lv_aload_n hx hb d_law_182 rfl (lv_at hl 0 rfl) ?_
    refine lv_iload_n hx hb d_law_183 rfl (lv_at hl 3 rfl) ?_
    refine lv_iconst (v := nI 1) hx hb d_law_184 (by decide) ?_
    refine wf_iadd (x := i) (y := 1) hx hb d_law_185 ?_
    refine lw_ld hx hb hX hbl hB hbA (n := i + 1) (by omega) hL d_law_186 ?_
    refine callVi (As := [.int (xs (i + 1))]) (rest := []) X hB (fun _ h => h) (k_addb (l := l) (D := D) (sz := H.size)  i1 i4 i5 i6 i7 i8 i9 hv) k_319 k_320 k_321 k_64 k_322 i9.1 cl_TM rfl hd_TM_add ⟨Nat.le_of_ble_eq_true rfl, Nat.le_of_ble_eq_true rfl⟩ ⟨show cells + 0 ≤ 600000 by omega, show slots + 0 ≤ 7302250 by omega⟩ hl.1 (Nat.le_of_ble_eq_true rfl) d_law_187 rfl (fun r1 w1 H1 locs1 hp1 hB1 => ?_)
    obtain ⟨q1, rfl⟩ := hp1
    have hR1 := i10
    obtain ⟨pz9, wy9, fi9, se9, ho9, lx9, ly9, ts9, tS9, cs9, av9, lz9, hz19, nl9, nh9, ce9, qd9, gmo⟩ := hR1.1
    refine lv_aload_n hx hb d_law_190 rfl (lv_at hl 2 rfl) ?_
    refine lv_aload_n hx hb d_law_191 rfl (lv_at hl 0 rfl) ?_
    refine lv_iload_n hx hb d_law_192 rfl (lv_at hl 3 rfl) ?_
    refine lv_iconst (v := nI 1) hx hb d_law_193 (by decide) ?_
    refine wf_iadd (x := i) (y := 1) hx hb d_law_194 ?_
    refine lw_ld hx hb hX hbl hB1 hbA (n := i + 1) (by omega) hL d_law_195 ?_
    refine callVi (As := [.int (xs (i + 1))]) (rest := [.int r1]) X hB1 (fun _ h => h) (r_addb (l := l) (D := D) (sz := H1.size)  i2 i4 i5 i6 i7 i8 hR1 hv) k_1026 k_1027 k_1028 k_75 k_1029 gmo cl_Ref rfl hd_Ref_add ⟨Nat.le_of_ble_eq_true rfl, Nat.le_of_ble_eq_true rfl⟩ ⟨show cells + 0 + 0 ≤ 600000 by omega, show slots + 0 + 0 ≤ 7302250 by omega⟩ hl.1 (Nat.le_of_ble_eq_true rfl) d_law_196 rfl (fun r2 w2 H2 locs2 hp2 hB2 => ?_)
    obtain ⟨q2, rfl⟩ := hp2
    have heq := q1.trans q2.symm
    have hLI := hI
    refine wf_ceq (tgt := 1009) hx hb d_law_199 (by decide) rfl rfl (fun _ => ?_) (fun hne => absurd (congrArg Int32.toInt heq) hne)
    refine W.widen (k := cells + 1) (n := slots + 3) (by omega) (by omega) ?_
    exact K _ _ _ _ _ _ _ _ _ _ _ _ hLI hB2
set_option maxHeartbeats 4000000 in
set_option maxRecDepth 100000 in
theorem lw_c2 {l : Launch} {p : Program} {e : Env} {s : State} {m : MethodId} {below : List Frame} {meth : Method} {c : Code} {D : va_G} {t : Nat → ClassId} {nm : String} {ret0 : Option FieldType} {b L : Nat} {xs : Nat → Int32} {Q : State → Prop} {w : wf_W} {H : Heap} {locs : List Loc} {ls : Array Slot} {cells slots i : Nat} {C pa sa : Nat → Nat} {mo : Nat} {A : Nat → Nat} {k mn cz tz ca : Nat} {cl tl Sz En Nx : Nat → Nat} (X : Cx p s m meth c R_Law nm code 4 ret0 D t) (hX : va_X b L xs s s.heap) (hbl : b < s.heap.size) (hB : wf_B D wcl (fun q : Nat => s.heap.size ≤ q) s.heap w H locs) (hI : LI t w C pa sa mo A k mn cz tz ca cl tl Sz En Nx) (hl : lv_has ls 4 [(0, .ref b), (1, .ref (C 0)), (2, .ref mo), (3, .int (nI i))]) (hi : i + 3 < L) (hL : L ≤ 2049) (hcc : cells + 1 ≤ 600000 ∧ slots + 3 ≤ 7302250) (K : ∀ (w' : wf_W) (H' : Heap) (locs' : List Loc) (mn' cz' tz' ca' : Nat) (cl' tl' Sz' En' Nx' : Nat → Nat), LI t w' C pa sa mo A k mn' cz' tz' ca' cl' tl' Sz' En' Nx' → wf_B D wcl (fun q : Nat => s.heap.size ≤ q) s.heap w' H' locs' → W p l e room_1 s m #[Value.ref b] below meth c H' locs' (cells + 1) (slots + 3) Q (F0 m 1009 ls [])) : W p l e room_1 s m #[Value.ref b] below meth c H locs cells slots Q (F0 m 204 ls []) := by
  have hx := X.1
  have hb := X.2.1
  have hbA : ¬ (fun q : Nat => s.heap.size ≤ q) b := Nat.not_le.mpr hbl
  obtain ⟨i1, i2, i3, i4, i5, i6, i7, i8, i9, i10⟩ := id hI
  have hmn := i5.1
  refine lv_aload_n hx hb d_law_204 rfl (lv_at hl 1 rfl) ?_
  refine callVi (As := []) (rest := []) X hB (fun _ h => h) (k_wipe (l := l) (D := D) (sz := H.size)  i1 i4 i5 i6 i7 i8 i9 ) k_331 k_332 k_333 k_64 k_334 i9.1 cl_TM rfl hd_TM_wipe ⟨Nat.le_of_ble_eq_true rfl, Nat.le_of_ble_eq_true rfl⟩ ⟨show cells + 0 ≤ 600000 by omega, show slots + 0 ≤ 7302250 by omega⟩ hl.1 (Nat.le_of_ble_eq_true rfl) d_law_205 rfl (fun r1 w1 H1 locs1 hp1 hB1 => ?_)
  obtain ⟨q1, hC1, hf1⟩ := hp1
  have hR1 := RSt_C i3 hf1 i10
  obtain ⟨pz9, wy9, fi9, se9, ho9, lx9, ly9, ts9, tS9, cs9, av9, lz9, hz19, nl9, nh9, ce9, qd9, gmo⟩ := hR1.1
  refine lv_aload_n hx hb d_law_208 rfl (lv_at hl 2 rfl) ?_
  refine callVi (As := []) (rest := [.int r1]) X hB1 (fun _ h => h) (r_wipe (l := l) (D := D) (sz := H1.size)  i2 i4 i5 i6 i7 i8 hR1 ) k_1033 k_1034 k_1035 k_75 k_1036 gmo cl_Ref rfl hd_Ref_wipe ⟨Nat.le_of_ble_eq_true rfl, Nat.le_of_ble_eq_true rfl⟩ ⟨show cells + 0 + 0 ≤ 600000 by omega, show slots + 0 + 0 ≤ 7302250 by omega⟩ hl.1 (Nat.le_of_ble_eq_true rfl) d_law_209 rfl (fun r2 w2 H2 locs2 hp2 hB2 => ?_)
  obtain ⟨q2, hR2, hf2⟩ := hp2
  have heq := q1.trans q2.symm
  have hLI : LI t w2 C pa sa mo A k mn 0 tz ca cl tl Sz En Nx := ⟨i1, i2, i3, i4, i5, Nat.zero_le _, i7, fun i hi => absurd hi (Nat.not_lt_zero _), CSt_R i3 i5.1 hf2 hC1, hR2⟩
  refine wf_ceq (tgt := 1009) hx hb d_law_212 (by decide) rfl rfl (fun _ => ?_) (fun hne => absurd (congrArg Int32.toInt heq) hne)
  refine W.widen (k := cells + 1) (n := slots + 3) (by omega) (by omega) ?_
  exact K _ _ _ _ _ _ _ _ _ _ _ _ hLI hB2
set_option maxHeartbeats 4000000 in
set_option maxRecDepth 100000 in
theorem lw_c3 {l : Launch} {p : Program} {e : Env} {s : State} {m : MethodId} {below : List Frame} {meth : Method} {c : Code} {D : va_G} {t : Nat → ClassId} {nm : String} {ret0 : Option FieldType} {b L : Nat} {xs : Nat → Int32} {Q : State → Prop} {w : wf_W} {H : Heap} {locs : List Loc} {ls : Array Slot} {cells slots i : Nat} {C pa sa : Nat → Nat} {mo : Nat} {A : Nat → Nat} {k mn cz tz ca : Nat} {cl tl Sz En Nx : Nat → Nat} (X : Cx p s m meth c R_Law nm code 4 ret0 D t) (hX : va_X b L xs s s.heap) (hbl : b < s.heap.size) (hB : wf_B D wcl (fun q : Nat => s.heap.size ≤ q) s.heap w H locs) (hI : LI t w C pa sa mo A k mn cz tz ca cl tl Sz En Nx) (hl : lv_has ls 4 [(0, .ref b), (1, .ref (C 0)), (2, .ref mo), (3, .int (nI i))]) (hi : i + 3 < L) (hL : L ≤ 2049) (hcc : cells + 1 ≤ 600000 ∧ slots + 3 ≤ 7302250) (K : ∀ (w' : wf_W) (H' : Heap) (locs' : List Loc) (mn' cz' tz' ca' : Nat) (cl' tl' Sz' En' Nx' : Nat → Nat), LI t w' C pa sa mo A k mn' cz' tz' ca' cl' tl' Sz' En' Nx' → wf_B D wcl (fun q : Nat => s.heap.size ≤ q) s.heap w' H' locs' → W p l e room_1 s m #[Value.ref b] below meth c H' locs' (cells + 1) (slots + 3) Q (F0 m 1009 ls [])) : W p l e room_1 s m #[Value.ref b] below meth c H locs cells slots Q (F0 m 217 ls []) := by
  have hx := X.1
  have hb := X.2.1
  have hbA : ¬ (fun q : Nat => s.heap.size ≤ q) b := Nat.not_le.mpr hbl
  obtain ⟨i1, i2, i3, i4, i5, i6, i7, i8, i9, i10⟩ := id hI
  have hmn := i5.1
  by_cases hv : (0 ≤ (xs (i + 1)).toInt ∧ (xs (i + 1)).toInt ≤ 2)
  · rcases (show (xs (i + 1)).toInt = 0 ∨ (xs (i + 1)).toInt = 1 ∨ (xs (i + 1)).toInt = 2 by omega) with hs | hs | hs
    · have e1 : xs (i + 1) = nI 0 := (nat_of (by omega)).trans (congrArg nI (by omega))
      refine lv_aload_n hx hb d_law_217 rfl (lv_at hl 1 rfl) ?_
      refine lv_aload_n hx hb d_law_218 rfl (lv_at hl 0 rfl) ?_
      refine lv_iload_n hx hb d_law_219 rfl (lv_at hl 3 rfl) ?_
      refine lv_iconst (v := nI 1) hx hb d_law_220 (by decide) ?_
      refine wf_iadd (x := i) (y := 1) hx hb d_law_221 ?_
      refine lw_ld hx hb hX hbl hB hbA (n := i + 1) (by omega) hL d_law_222 ?_
      refine wf_ti (y := nI 0) e1 ?_
      refine callVi (As := [.int (nI 0)]) (rest := []) X hB (fun _ h => h) (k_make0 (l := l) (D := D) (sz := H.size)  i1 i4 i5 i6 i7 i8 i9 ) k_335 k_336 k_337 k_64 k_338 i9.1 cl_TM rfl hd_TM_make ⟨Nat.le_of_ble_eq_true rfl, Nat.le_of_ble_eq_true rfl⟩ ⟨show cells + 0 ≤ 600000 by omega, show slots + 0 ≤ 7302250 by omega⟩ hl.1 (Nat.le_of_ble_eq_true rfl) d_law_223 rfl (fun r1 w1 H1 locs1 hp1 hB1 => ?_)
      obtain ⟨mn1, Sz1, En1, Nx1, ca1, o1, hC1, hf1⟩ := hp1
      have hR1 := RSt_C i3 hf1 i10
      obtain ⟨pz9, wy9, fi9, se9, ho9, lx9, ly9, ts9, tS9, cs9, av9, lz9, hz19, nl9, nh9, ce9, qd9, gmo⟩ := hR1.1
      refine lv_aload_n hx hb d_law_226 rfl (lv_at hl 2 rfl) ?_
      refine lv_aload_n hx hb d_law_227 rfl (lv_at hl 0 rfl) ?_
      refine lv_iload_n hx hb d_law_228 rfl (lv_at hl 3 rfl) ?_
      refine lv_iconst (v := nI 1) hx hb d_law_229 (by decide) ?_
      refine wf_iadd (x := i) (y := 1) hx hb d_law_230 ?_
      refine lw_ld hx hb hX hbl hB1 hbA (n := i + 1) (by omega) hL d_law_231 ?_
      refine wf_ti (y := nI 0) e1 ?_
      refine callVi (As := [.int (nI 0)]) (rest := [.int r1]) X hB1 (fun _ h => h) (r_make0 (l := l) (D := D) (sz := H1.size)  i2 i4 i5 i6 i7 i8 hR1 ) k_1037 k_1038 k_1039 k_75 k_1040 gmo cl_Ref rfl hd_Ref_make ⟨Nat.le_of_ble_eq_true rfl, Nat.le_of_ble_eq_true rfl⟩ ⟨show cells + 0 + 0 ≤ 600000 by omega, show slots + 0 + 0 ≤ 7302250 by omega⟩ hl.1 (Nat.le_of_ble_eq_true rfl) d_law_232 rfl (fun r2 w2 H2 locs2 hp2 hB2 => ?_)
      obtain ⟨mn2, Sz2, En2, Nx2, ca2, o2, hR2, hf2⟩ := hp2
      have hdet := det_K i4 i5 o1 o2
      have heq := hdet.1
      have hLI := LI_mk hI hC1 hf2 hR2 hdet
      refine wf_ceq (tgt := 1009) hx hb d_law_235 (by decide) rfl rfl (fun _ => ?_) (fun hne => absurd (congrArg Int32.toInt heq) hne)
      refine W.widen (k := cells + 1) (n := slots + 3) (by omega) (by omega) ?_
      exact K _ _ _ _ _ _ _ _ _ _ _ _ hLI hB2
    · by_cases h60 : mn = 60
      · have e1 : xs (i + 1) = nI 1 := (nat_of (by omega)).trans (congrArg nI (by omega))
        refine lv_aload_n hx hb d_law_217 rfl (lv_at hl 1 rfl) ?_
        refine lv_aload_n hx hb d_law_218 rfl (lv_at hl 0 rfl) ?_
        refine lv_iload_n hx hb d_law_219 rfl (lv_at hl 3 rfl) ?_
        refine lv_iconst (v := nI 1) hx hb d_law_220 (by decide) ?_
        refine wf_iadd (x := i) (y := 1) hx hb d_law_221 ?_
        refine lw_ld hx hb hX hbl hB hbA (n := i + 1) (by omega) hL d_law_222 ?_
        refine wf_ti (y := nI 1) e1 ?_
        refine callVi (As := [.int (nI 1)]) (rest := []) X hB (fun _ h => h) (k_make1F (l := l) (D := D) (sz := H.size)  i1 i4 i5 i6 i7 i8 i9  h60) k_335 k_336 k_337 k_64 k_338 i9.1 cl_TM rfl hd_TM_make ⟨Nat.le_of_ble_eq_true rfl, Nat.le_of_ble_eq_true rfl⟩ ⟨show cells + 0 ≤ 600000 by omega, show slots + 0 ≤ 7302250 by omega⟩ hl.1 (Nat.le_of_ble_eq_true rfl) d_law_223 rfl (fun r1 w1 H1 locs1 hp1 hB1 => ?_)
        obtain ⟨mn1, Sz1, En1, Nx1, ca1, o1, hC1, hf1⟩ := hp1
        have hR1 := RSt_C i3 hf1 i10
        obtain ⟨pz9, wy9, fi9, se9, ho9, lx9, ly9, ts9, tS9, cs9, av9, lz9, hz19, nl9, nh9, ce9, qd9, gmo⟩ := hR1.1
        refine lv_aload_n hx hb d_law_226 rfl (lv_at hl 2 rfl) ?_
        refine lv_aload_n hx hb d_law_227 rfl (lv_at hl 0 rfl) ?_
        refine lv_iload_n hx hb d_law_228 rfl (lv_at hl 3 rfl) ?_
        refine lv_iconst (v := nI 1) hx hb d_law_229 (by decide) ?_
        refine wf_iadd (x := i) (y := 1) hx hb d_law_230 ?_
        refine lw_ld hx hb hX hbl hB1 hbA (n := i + 1) (by omega) hL d_law_231 ?_
        refine wf_ti (y := nI 1) e1 ?_
        refine callVi (As := [.int (nI 1)]) (rest := [.int r1]) X hB1 (fun _ h => h) (r_make1 (l := l) (D := D) (sz := H1.size)  i2 i4 i5 i6 i7 i8 hR1 ) k_1037 k_1038 k_1039 k_75 k_1040 gmo cl_Ref rfl hd_Ref_make ⟨Nat.le_of_ble_eq_true rfl, Nat.le_of_ble_eq_true rfl⟩ ⟨show cells + 0 + 0 ≤ 600000 by omega, show slots + 0 + 0 ≤ 7302250 by omega⟩ hl.1 (Nat.le_of_ble_eq_true rfl) d_law_232 rfl (fun r2 w2 H2 locs2 hp2 hB2 => ?_)
        obtain ⟨mn2, Sz2, En2, Nx2, ca2, o2, hR2, hf2⟩ := hp2
        have hdet := det_K i4 i5 o1 o2
        have heq := hdet.1
        have hLI := LI_mk hI hC1 hf2 hR2 hdet
        refine wf_ceq (tgt := 1009) hx hb d_law_235 (by decide) rfl rfl (fun _ => ?_) (fun hne => absurd (congrArg Int32.toInt heq) hne)
        refine W.widen (k := cells + 1) (n := slots + 3) (by omega) (by omega) ?_
        exact K _ _ _ _ _ _ _ _ _ _ _ _ hLI hB2
      · have e1 : xs (i + 1) = nI 1 := (nat_of (by omega)).trans (congrArg nI (by omega))
        refine lv_aload_n hx hb d_law_217 rfl (lv_at hl 1 rfl) ?_
        refine lv_aload_n hx hb d_law_218 rfl (lv_at hl 0 rfl) ?_
        refine lv_iload_n hx hb d_law_219 rfl (lv_at hl 3 rfl) ?_
        refine lv_iconst (v := nI 1) hx hb d_law_220 (by decide) ?_
        refine wf_iadd (x := i) (y := 1) hx hb d_law_221 ?_
        refine lw_ld hx hb hX hbl hB hbA (n := i + 1) (by omega) hL d_law_222 ?_
        refine wf_ti (y := nI 1) e1 ?_
        refine callVi (As := [.int (nI 1)]) (rest := []) X hB (fun _ h => h) (k_make1 (l := l) (D := D) (sz := H.size)  i1 i4 i5 i6 i7 i8 i9  h60) k_335 k_336 k_337 k_64 k_338 i9.1 cl_TM rfl hd_TM_make ⟨Nat.le_of_ble_eq_true rfl, Nat.le_of_ble_eq_true rfl⟩ ⟨show cells + 0 ≤ 600000 by omega, show slots + 0 ≤ 7302250 by omega⟩ hl.1 (Nat.le_of_ble_eq_true rfl) d_law_223 rfl (fun r1 w1 H1 locs1 hp1 hB1 => ?_)
        obtain ⟨mn1, Sz1, En1, Nx1, ca1, o1, hC1, hf1⟩ := hp1
        have hR1 := RSt_C i3 hf1 i10
        obtain ⟨pz9, wy9, fi9, se9, ho9, lx9, ly9, ts9, tS9, cs9, av9, lz9, hz19, nl9, nh9, ce9, qd9, gmo⟩ := hR1.1
        refine lv_aload_n hx hb d_law_226 rfl (lv_at hl 2 rfl) ?_
        refine lv_aload_n hx hb d_law_227 rfl (lv_at hl 0 rfl) ?_
        refine lv_iload_n hx hb d_law_228 rfl (lv_at hl 3 rfl) ?_
        refine lv_iconst (v := nI 1) hx hb d_law_229 (by decide) ?_
        refine wf_iadd (x := i) (y := 1) hx hb d_law_230 ?_
        refine lw_ld hx hb hX hbl hB1 hbA (n := i + 1) (by omega) hL d_law_231 ?_
        refine wf_ti (y := nI 1) e1 ?_
        refine callVi (As := [.int (nI 1)]) (rest := [.int r1]) X hB1 (fun _ h => h) (r_make1 (l := l) (D := D) (sz := H1.size)  i2 i4 i5 i6 i7 i8 hR1 ) k_1037 k_1038 k_1039 k_75 k_1040 gmo cl_Ref rfl hd_Ref_make ⟨Nat.le_of_ble_eq_true rfl, Nat.le_of_ble_eq_true rfl⟩ ⟨show cells + 0 + 0 ≤ 600000 by omega, show slots + 0 + 0 ≤ 7302250 by omega⟩ hl.1 (Nat.le_of_ble_eq_true rfl) d_law_232 rfl (fun r2 w2 H2 locs2 hp2 hB2 => ?_)
        obtain ⟨mn2, Sz2, En2, Nx2, ca2, o2, hR2, hf2⟩ := hp2
        have hdet := det_K i4 i5 o1 o2
        have heq := hdet.1
        have hLI := LI_mk hI hC1 hf2 hR2 hdet
        refine wf_ceq (tgt := 1009) hx hb d_law_235 (by decide) rfl rfl (fun _ => ?_) (fun hne => absurd (congrArg Int32.toInt heq) hne)
        refine W.widen (k := cells + 1) (n := slots + 3) (by omega) (by omega) ?_
        exact K _ _ _ _ _ _ _ _ _ _ _ _ hLI hB2
    · by_cases h60 : mn = 60
      · have e1 : xs (i + 1) = nI 2 := (nat_of (by omega)).trans (congrArg nI (by omega))
        refine lv_aload_n hx hb d_law_217 rfl (lv_at hl 1 rfl) ?_
        refine lv_aload_n hx hb d_law_218 rfl (lv_at hl 0 rfl) ?_
        refine lv_iload_n hx hb d_law_219 rfl (lv_at hl 3 rfl) ?_
        refine lv_iconst (v := nI 1) hx hb d_law_220 (by decide) ?_
        refine wf_iadd (x := i) (y := 1) hx hb d_law_221 ?_
        refine lw_ld hx hb hX hbl hB hbA (n := i + 1) (by omega) hL d_law_222 ?_
        refine wf_ti (y := nI 2) e1 ?_
        refine callVi (As := [.int (nI 2)]) (rest := []) X hB (fun _ h => h) (k_make2F (l := l) (D := D) (sz := H.size)  i1 i4 i5 i6 i7 i8 i9  h60) k_335 k_336 k_337 k_64 k_338 i9.1 cl_TM rfl hd_TM_make ⟨Nat.le_of_ble_eq_true rfl, Nat.le_of_ble_eq_true rfl⟩ ⟨show cells + 0 ≤ 600000 by omega, show slots + 0 ≤ 7302250 by omega⟩ hl.1 (Nat.le_of_ble_eq_true rfl) d_law_223 rfl (fun r1 w1 H1 locs1 hp1 hB1 => ?_)
        obtain ⟨mn1, Sz1, En1, Nx1, ca1, o1, hC1, hf1⟩ := hp1
        have hR1 := RSt_C i3 hf1 i10
        obtain ⟨pz9, wy9, fi9, se9, ho9, lx9, ly9, ts9, tS9, cs9, av9, lz9, hz19, nl9, nh9, ce9, qd9, gmo⟩ := hR1.1
        refine lv_aload_n hx hb d_law_226 rfl (lv_at hl 2 rfl) ?_
        refine lv_aload_n hx hb d_law_227 rfl (lv_at hl 0 rfl) ?_
        refine lv_iload_n hx hb d_law_228 rfl (lv_at hl 3 rfl) ?_
        refine lv_iconst (v := nI 1) hx hb d_law_229 (by decide) ?_
        refine wf_iadd (x := i) (y := 1) hx hb d_law_230 ?_
        refine lw_ld hx hb hX hbl hB1 hbA (n := i + 1) (by omega) hL d_law_231 ?_
        refine wf_ti (y := nI 2) e1 ?_
        refine callVi (As := [.int (nI 2)]) (rest := [.int r1]) X hB1 (fun _ h => h) (r_make2 (l := l) (D := D) (sz := H1.size)  i2 i4 i5 i6 i7 i8 hR1 ) k_1037 k_1038 k_1039 k_75 k_1040 gmo cl_Ref rfl hd_Ref_make ⟨Nat.le_of_ble_eq_true rfl, Nat.le_of_ble_eq_true rfl⟩ ⟨show cells + 0 + 0 ≤ 600000 by omega, show slots + 0 + 0 ≤ 7302250 by omega⟩ hl.1 (Nat.le_of_ble_eq_true rfl) d_law_232 rfl (fun r2 w2 H2 locs2 hp2 hB2 => ?_)
        obtain ⟨mn2, Sz2, En2, Nx2, ca2, o2, hR2, hf2⟩ := hp2
        have hdet := det_K i4 i5 o1 o2
        have heq := hdet.1
        have hLI := LI_mk hI hC1 hf2 hR2 hdet
        refine wf_ceq (tgt := 1009) hx hb d_law_235 (by decide) rfl rfl (fun _ => ?_) (fun hne => absurd (congrArg Int32.toInt heq) hne)
        refine W.widen (k := cells + 1) (n := slots + 3) (by omega) (by omega) ?_
        exact K _ _ _ _ _ _ _ _ _ _ _ _ hLI hB2
      · have e1 : xs (i + 1) = nI 2 := (nat_of (by omega)).trans (congrArg nI (by omega))
        refine lv_aload_n hx hb d_law_217 rfl (lv_at hl 1 rfl) ?_
        refine lv_aload_n hx hb d_law_218 rfl (lv_at hl 0 rfl) ?_
        refine lv_iload_n hx hb d_law_219 rfl (lv_at hl 3 rfl) ?_
        refine lv_iconst (v := nI 1) hx hb d_law_220 (by decide) ?_
        refine wf_iadd (x := i) (y := 1) hx hb d_law_221 ?_
        refine lw_ld hx hb hX hbl hB hbA (n := i + 1) (by omega) hL d_law_222 ?_
        refine wf_ti (y := nI 2) e1 ?_
        refine callVi (As := [.int (nI 2)]) (rest := []) X hB (fun _ h => h) (k_make2 (l := l) (D := D) (sz := H.size)  i1 i4 i5 i6 i7 i8 i9  h60) k_335 k_336 k_337 k_64 k_338 i9.1 cl_TM rfl hd_TM_make ⟨Nat.le_of_ble_eq_true rfl, Nat.le_of_ble_eq_true rfl⟩ ⟨show cells + 0 ≤ 600000 by omega, show slots + 0 ≤ 7302250 by omega⟩ hl.1 (Nat.le_of_ble_eq_true rfl) d_law_223 rfl (fun r1 w1 H1 locs1 hp1 hB1 => ?_)
        obtain ⟨mn1, Sz1, En1, Nx1, ca1, o1, hC1, hf1⟩ := hp1
        have hR1 := RSt_C i3 hf1 i10
        obtain ⟨pz9, wy9, fi9, se9, ho9, lx9, ly9, ts9, tS9, cs9, av9, lz9, hz19, nl9, nh9, ce9, qd9, gmo⟩ := hR1.1
        refine lv_aload_n hx hb d_law_226 rfl (lv_at hl 2 rfl) ?_
        refine lv_aload_n hx hb d_law_227 rfl (lv_at hl 0 rfl) ?_
        refine lv_iload_n hx hb d_law_228 rfl (lv_at hl 3 rfl) ?_
        refine lv_iconst (v := nI 1) hx hb d_law_229 (by decide) ?_
        refine wf_iadd (x := i) (y := 1) hx hb d_law_230 ?_
        refine lw_ld hx hb hX hbl hB1 hbA (n := i + 1) (by omega) hL d_law_231 ?_
        refine wf_ti (y := nI 2) e1 ?_
        refine callVi (As := [.int (nI 2)]) (rest := [.int r1]) X hB1 (fun _ h => h) (r_make2 (l := l) (D := D) (sz := H1.size)  i2 i4 i5 i6 i7 i8 hR1 ) k_1037 k_1038 k_1039 k_75 k_1040 gmo cl_Ref rfl hd_Ref_make ⟨Nat.le_of_ble_eq_true rfl, Nat.le_of_ble_eq_true rfl⟩ ⟨show cells + 0 + 0 ≤ 600000 by omega, show slots + 0 + 0 ≤ 7302250 by omega⟩ hl.1 (Nat.le_of_ble_eq_true rfl) d_law_232 rfl (fun r2 w2 H2 locs2 hp2 hB2 => ?_)
        obtain ⟨mn2, Sz2, En2, Nx2, ca2, o2, hR2, hf2⟩ := hp2
        have hdet := det_K i4 i5 o1 o2
        have heq := hdet.1
        have hLI := LI_mk hI hC1 hf2 hR2 hdet
        refine wf_ceq (tgt := 1009) hx hb d_law_235 (by decide) rfl rfl (fun _ => ?_) (fun hne => absurd (congrArg Int32.toInt heq) hne)
        refine W.widen (k := cells + 1) (n := slots + 3) (by omega) (by omega) ?_
        exact K _ _ _ _ _ _ _ _ _ _ _ _ hLI hB2
  · refine lv_aload_n hx hb d_law_217 rfl (lv_at hl 1 rfl) ?_
    refine lv_aload_n hx hb d_law_218 rfl (lv_at hl 0 rfl) ?_
    refine lv_iload_n hx hb d_law_219 rfl (lv_at hl 3 rfl) ?_
    refine lv_iconst (v := nI 1) hx hb d_law_220 (by decide) ?_
    refine wf_iadd (x := i) (y := 1) hx hb d_law_221 ?_
    refine lw_ld hx hb hX hbl hB hbA (n := i + 1) (by omega) hL d_law_222 ?_
    refine callVi (As := [.int (xs (i + 1))]) (rest := []) X hB (fun _ h => h) (k_makeb (l := l) (D := D) (sz := H.size)  i1 i4 i5 i6 i7 i8 i9 hv) k_335 k_336 k_337 k_64 k_338 i9.1 cl_TM rfl hd_TM_make ⟨Nat.le_of_ble_eq_true rfl, Nat.le_of_ble_eq_true rfl⟩ ⟨show cells + 0 ≤ 600000 by omega, show slots + 0 ≤ 7302250 by omega⟩ hl.1 (Nat.le_of_ble_eq_true rfl) d_law_223 rfl (fun r1 w1 H1 locs1 hp1 hB1 => ?_)
    obtain ⟨q1, rfl⟩ := hp1
    have hR1 := i10
    obtain ⟨pz9, wy9, fi9, se9, ho9, lx9, ly9, ts9, tS9, cs9, av9, lz9, hz19, nl9, nh9, ce9, qd9, gmo⟩ := hR1.1
    refine lv_aload_n hx hb d_law_226 rfl (lv_at hl 2 rfl) ?_
    refine lv_aload_n hx hb d_law_227 rfl (lv_at hl 0 rfl) ?_
    refine lv_iload_n hx hb d_law_228 rfl (lv_at hl 3 rfl) ?_
    refine lv_iconst (v := nI 1) hx hb d_law_229 (by decide) ?_
    refine wf_iadd (x := i) (y := 1) hx hb d_law_230 ?_
    refine lw_ld hx hb hX hbl hB1 hbA (n := i + 1) (by omega) hL d_law_231 ?_
    refine callVi (As := [.int (xs (i + 1))]) (rest := [.int r1]) X hB1 (fun _ h => h) (r_makeb (l := l) (D := D) (sz := H1.size)  i2 i4 i5 i6 i7 i8 hR1 hv) k_1037 k_1038 k_1039 k_75 k_1040 gmo cl_Ref rfl hd_Ref_make ⟨Nat.le_of_ble_eq_true rfl, Nat.le_of_ble_eq_true rfl⟩ ⟨show cells + 0 + 0 ≤ 600000 by omega, show slots + 0 + 0 ≤ 7302250 by omega⟩ hl.1 (Nat.le_of_ble_eq_true rfl) d_law_232 rfl (fun r2 w2 H2 locs2 hp2 hB2 => ?_)
    obtain ⟨q2, rfl⟩ := hp2
    have heq := q1.trans q2.symm
    have hLI := hI
    refine wf_ceq (tgt := 1009) hx hb d_law_235 (by decide) rfl rfl (fun _ => ?_) (fun hne => absurd (congrArg Int32.toInt heq) hne)
    refine W.widen (k := cells + 1) (n := slots + 3) (by omega) (by omega) ?_
    exact K _ _ _ _ _ _ _ _ _ _ _ _ hLI hB2
set_option maxHeartbeats 4000000 in
set_option maxRecDepth 100000 in
theorem lw_c4 {l : Launch} {p : Program} {e : Env} {s : State} {m : MethodId} {below : List Frame} {meth : Method} {c : Code} {D : va_G} {t : Nat → ClassId} {nm : String} {ret0 : Option FieldType} {b L : Nat} {xs : Nat → Int32} {Q : State → Prop} {w : wf_W} {H : Heap} {locs : List Loc} {ls : Array Slot} {cells slots i : Nat} {C pa sa : Nat → Nat} {mo : Nat} {A : Nat → Nat} {k mn cz tz ca : Nat} {cl tl Sz En Nx : Nat → Nat} (X : Cx p s m meth c R_Law nm code 4 ret0 D t) (hX : va_X b L xs s s.heap) (hbl : b < s.heap.size) (hB : wf_B D wcl (fun q : Nat => s.heap.size ≤ q) s.heap w H locs) (hI : LI t w C pa sa mo A k mn cz tz ca cl tl Sz En Nx) (hl : lv_has ls 4 [(0, .ref b), (1, .ref (C 0)), (2, .ref mo), (3, .int (nI i))]) (hi : i + 3 < L) (hL : L ≤ 2049) (hcc : cells + 1 ≤ 600000 ∧ slots + 3 ≤ 7302250) (K : ∀ (w' : wf_W) (H' : Heap) (locs' : List Loc) (mn' cz' tz' ca' : Nat) (cl' tl' Sz' En' Nx' : Nat → Nat), LI t w' C pa sa mo A k mn' cz' tz' ca' cl' tl' Sz' En' Nx' → wf_B D wcl (fun q : Nat => s.heap.size ≤ q) s.heap w' H' locs' → W p l e room_1 s m #[Value.ref b] below meth c H' locs' (cells + 1) (slots + 3) Q (F0 m 1009 ls [])) : W p l e room_1 s m #[Value.ref b] below meth c H locs cells slots Q (F0 m 240 ls []) := by
  have hx := X.1
  have hb := X.2.1
  have hbA : ¬ (fun q : Nat => s.heap.size ≤ q) b := Nat.not_le.mpr hbl
  obtain ⟨i1, i2, i3, i4, i5, i6, i7, i8, i9, i10⟩ := id hI
  have hmn := i5.1
  by_cases hv : (0 ≤ (xs (i + 1)).toInt ∧ (xs (i + 1)).toInt ≤ 3) ∧ (0 ≤ (xs (i + 2)).toInt ∧ (xs (i + 2)).toInt < mn) ∧ (0 ≤ (xs (i + 3)).toInt ∧ (xs (i + 3)).toInt < mn)
  · have e1 : xs (i + 1) = nI ((xs (i + 1)).toInt.toNat) := nat_of (hv.1.1)
    have e2 : xs (i + 2) = nI ((xs (i + 2)).toInt.toNat) := nat_of (hv.2.1.1)
    have e3 : xs (i + 3) = nI ((xs (i + 3)).toInt.toNat) := nat_of (hv.2.2.1)
    refine lv_aload_n hx hb d_law_240 rfl (lv_at hl 1 rfl) ?_
    refine lv_aload_n hx hb d_law_241 rfl (lv_at hl 0 rfl) ?_
    refine lv_iload_n hx hb d_law_242 rfl (lv_at hl 3 rfl) ?_
    refine lv_iconst (v := nI 1) hx hb d_law_243 (by decide) ?_
    refine wf_iadd (x := i) (y := 1) hx hb d_law_244 ?_
    refine lw_ld hx hb hX hbl hB hbA (n := i + 1) (by omega) hL d_law_245 ?_
    refine wf_ti (y := nI ((xs (i + 1)).toInt.toNat)) e1 ?_
    refine lv_aload_n hx hb d_law_246 rfl (lv_at hl 0 rfl) ?_
    refine lv_iload_n hx hb d_law_247 rfl (lv_at hl 3 rfl) ?_
    refine lv_iconst (v := nI 2) hx hb d_law_248 (by decide) ?_
    refine wf_iadd (x := i) (y := 2) hx hb d_law_249 ?_
    refine lw_ld hx hb hX hbl hB hbA (n := i + 2) (by omega) hL d_law_250 ?_
    refine wf_ti (y := nI ((xs (i + 2)).toInt.toNat)) e2 ?_
    refine lv_aload_n hx hb d_law_251 rfl (lv_at hl 0 rfl) ?_
    refine lv_iload_n hx hb d_law_252 rfl (lv_at hl 3 rfl) ?_
    refine lv_iconst (v := nI 3) hx hb d_law_253 (by decide) ?_
    refine wf_iadd (x := i) (y := 3) hx hb d_law_254 ?_
    refine lw_ld hx hb hX hbl hB hbA (n := i + 3) (by omega) hL d_law_255 ?_
    refine wf_ti (y := nI ((xs (i + 3)).toInt.toNat)) e3 ?_
    refine callVi (As := [.int (nI ((xs (i + 1)).toInt.toNat)), .int (nI ((xs (i + 2)).toInt.toNat)), .int (nI ((xs (i + 3)).toInt.toNat))]) (rest := []) X hB (fun _ h => h) (k_pair (l := l) (D := D) (sz := H.size)  i1 i4 i5 i6 i7 i8 i9 (by omega) (by omega) (by omega)) k_546 k_547 k_548 k_64 k_549 i9.1 cl_TM rfl hd_TM_pair ⟨Nat.le_of_ble_eq_true rfl, Nat.le_of_ble_eq_true rfl⟩ ⟨show cells + 1 ≤ 600000 by omega, show slots + 3 ≤ 7302250 by omega⟩ hl.1 (Nat.le_of_ble_eq_true rfl) d_law_256 rfl (fun r1 w1 H1 locs1 hp1 hB1 => ?_)
    obtain ⟨mn1, Sz1, En1, Nx1, ca1, o1, hC1, hf1⟩ := hp1
    have hR1 := RSt_C i3 hf1 i10
    obtain ⟨pz9, wy9, fi9, se9, ho9, lx9, ly9, ts9, tS9, cs9, av9, lz9, hz19, nl9, nh9, ce9, qd9, gmo⟩ := hR1.1
    refine lv_aload_n hx hb d_law_259 rfl (lv_at hl 2 rfl) ?_
    refine lv_aload_n hx hb d_law_260 rfl (lv_at hl 0 rfl) ?_
    refine lv_iload_n hx hb d_law_261 rfl (lv_at hl 3 rfl) ?_
    refine lv_iconst (v := nI 1) hx hb d_law_262 (by decide) ?_
    refine wf_iadd (x := i) (y := 1) hx hb d_law_263 ?_
    refine lw_ld hx hb hX hbl hB1 hbA (n := i + 1) (by omega) hL d_law_264 ?_
    refine wf_ti (y := nI ((xs (i + 1)).toInt.toNat)) e1 ?_
    refine lv_aload_n hx hb d_law_265 rfl (lv_at hl 0 rfl) ?_
    refine lv_iload_n hx hb d_law_266 rfl (lv_at hl 3 rfl) ?_
    refine lv_iconst (v := nI 2) hx hb d_law_267 (by decide) ?_
    refine wf_iadd (x := i) (y := 2) hx hb d_law_268 ?_
    refine lw_ld hx hb hX hbl hB1 hbA (n := i + 2) (by omega) hL d_law_269 ?_
    refine wf_ti (y := nI ((xs (i + 2)).toInt.toNat)) e2 ?_
    refine lv_aload_n hx hb d_law_270 rfl (lv_at hl 0 rfl) ?_
    refine lv_iload_n hx hb d_law_271 rfl (lv_at hl 3 rfl) ?_
    refine lv_iconst (v := nI 3) hx hb d_law_272 (by decide) ?_
    refine wf_iadd (x := i) (y := 3) hx hb d_law_273 ?_
    refine lw_ld hx hb hX hbl hB1 hbA (n := i + 3) (by omega) hL d_law_274 ?_
    refine wf_ti (y := nI ((xs (i + 3)).toInt.toNat)) e3 ?_
    refine callVi (As := [.int (nI ((xs (i + 1)).toInt.toNat)), .int (nI ((xs (i + 2)).toInt.toNat)), .int (nI ((xs (i + 3)).toInt.toNat))]) (rest := [.int r1]) X hB1 (fun _ h => h) (r_pair (l := l) (D := D) (sz := H1.size)  i2 i4 i5 i6 i7 i8 hR1 (by omega) (by omega) (by omega)) k_1119 k_1120 k_1121 k_75 k_1122 gmo cl_Ref rfl hd_Ref_pair ⟨Nat.le_of_ble_eq_true rfl, Nat.le_of_ble_eq_true rfl⟩ ⟨show cells + 1 + 0 ≤ 600000 by omega, show slots + 3 + 0 ≤ 7302250 by omega⟩ hl.1 (Nat.le_of_ble_eq_true rfl) d_law_275 rfl (fun r2 w2 H2 locs2 hp2 hB2 => ?_)
    obtain ⟨mn2, Sz2, En2, Nx2, ca2, o2, hR2, hf2⟩ := hp2
    have hdet := det_X i4 i5 o1 o2
    have heq := hdet.1
    have hLI := LI_mk hI hC1 hf2 hR2 hdet
    refine wf_ceq (tgt := 1009) hx hb d_law_278 (by decide) rfl rfl (fun _ => ?_) (fun hne => absurd (congrArg Int32.toInt heq) hne)
    refine W.widen (k := cells + 1) (n := slots + 3) (by omega) (by omega) ?_
    exact K _ _ _ _ _ _ _ _ _ _ _ _ hLI hB2
  · refine lv_aload_n hx hb d_law_240 rfl (lv_at hl 1 rfl) ?_
    refine lv_aload_n hx hb d_law_241 rfl (lv_at hl 0 rfl) ?_
    refine lv_iload_n hx hb d_law_242 rfl (lv_at hl 3 rfl) ?_
    refine lv_iconst (v := nI 1) hx hb d_law_243 (by decide) ?_
    refine wf_iadd (x := i) (y := 1) hx hb d_law_244 ?_
    refine lw_ld hx hb hX hbl hB hbA (n := i + 1) (by omega) hL d_law_245 ?_
    refine lv_aload_n hx hb d_law_246 rfl (lv_at hl 0 rfl) ?_
    refine lv_iload_n hx hb d_law_247 rfl (lv_at hl 3 rfl) ?_
    refine lv_iconst (v := nI 2) hx hb d_law_248 (by decide) ?_
    refine wf_iadd (x := i) (y := 2) hx hb d_law_249 ?_
    refine lw_ld hx hb hX hbl hB hbA (n := i + 2) (by omega) hL d_law_250 ?_
    refine lv_aload_n hx hb d_law_251 rfl (lv_at hl 0 rfl) ?_
    refine lv_iload_n hx hb d_law_252 rfl (lv_at hl 3 rfl) ?_
    refine lv_iconst (v := nI 3) hx hb d_law_253 (by decide) ?_
    refine wf_iadd (x := i) (y := 3) hx hb d_law_254 ?_
    refine lw_ld hx hb hX hbl hB hbA (n := i + 3) (by omega) hL d_law_255 ?_
    refine callVi (As := [.int (xs (i + 1)), .int (xs (i + 2)), .int (xs (i + 3))]) (rest := []) X hB (fun _ h => h) (k_pairb (l := l) (D := D) (sz := H.size)  i1 i4 i5 i6 i7 i8 i9 hv) k_546 k_547 k_548 k_64 k_549 i9.1 cl_TM rfl hd_TM_pair ⟨Nat.le_of_ble_eq_true rfl, Nat.le_of_ble_eq_true rfl⟩ ⟨show cells + 0 ≤ 600000 by omega, show slots + 0 ≤ 7302250 by omega⟩ hl.1 (Nat.le_of_ble_eq_true rfl) d_law_256 rfl (fun r1 w1 H1 locs1 hp1 hB1 => ?_)
    obtain ⟨q1, rfl⟩ := hp1
    have hR1 := i10
    obtain ⟨pz9, wy9, fi9, se9, ho9, lx9, ly9, ts9, tS9, cs9, av9, lz9, hz19, nl9, nh9, ce9, qd9, gmo⟩ := hR1.1
    refine lv_aload_n hx hb d_law_259 rfl (lv_at hl 2 rfl) ?_
    refine lv_aload_n hx hb d_law_260 rfl (lv_at hl 0 rfl) ?_
    refine lv_iload_n hx hb d_law_261 rfl (lv_at hl 3 rfl) ?_
    refine lv_iconst (v := nI 1) hx hb d_law_262 (by decide) ?_
    refine wf_iadd (x := i) (y := 1) hx hb d_law_263 ?_
    refine lw_ld hx hb hX hbl hB1 hbA (n := i + 1) (by omega) hL d_law_264 ?_
    refine lv_aload_n hx hb d_law_265 rfl (lv_at hl 0 rfl) ?_
    refine lv_iload_n hx hb d_law_266 rfl (lv_at hl 3 rfl) ?_
    refine lv_iconst (v := nI 2) hx hb d_law_267 (by decide) ?_
    refine wf_iadd (x := i) (y := 2) hx hb d_law_268 ?_
    refine lw_ld hx hb hX hbl hB1 hbA (n := i + 2) (by omega) hL d_law_269 ?_
    refine lv_aload_n hx hb d_law_270 rfl (lv_at hl 0 rfl) ?_
    refine lv_iload_n hx hb d_law_271 rfl (lv_at hl 3 rfl) ?_
    refine lv_iconst (v := nI 3) hx hb d_law_272 (by decide) ?_
    refine wf_iadd (x := i) (y := 3) hx hb d_law_273 ?_
    refine lw_ld hx hb hX hbl hB1 hbA (n := i + 3) (by omega) hL d_law_274 ?_
    refine callVi (As := [.int (xs (i + 1)), .int (xs (i + 2)), .int (xs (i + 3))]) (rest := [.int r1]) X hB1 (fun _ h => h) (r_pairb (l := l) (D := D) (sz := H1.size)  i2 i4 i5 i6 i7 i8 hR1 hv) k_1119 k_1120 k_1121 k_75 k_1122 gmo cl_Ref rfl hd_Ref_pair ⟨Nat.le_of_ble_eq_true rfl, Nat.le_of_ble_eq_true rfl⟩ ⟨show cells + 0 + 0 ≤ 600000 by omega, show slots + 0 + 0 ≤ 7302250 by omega⟩ hl.1 (Nat.le_of_ble_eq_true rfl) d_law_275 rfl (fun r2 w2 H2 locs2 hp2 hB2 => ?_)
    obtain ⟨q2, rfl⟩ := hp2
    have heq := q1.trans q2.symm
    have hLI := hI
    refine wf_ceq (tgt := 1009) hx hb d_law_278 (by decide) rfl rfl (fun _ => ?_) (fun hne => absurd (congrArg Int32.toInt heq) hne)
    refine W.widen (k := cells + 1) (n := slots + 3) (by omega) (by omega) ?_
    exact K _ _ _ _ _ _ _ _ _ _ _ _ hLI hB2
set_option maxHeartbeats 4000000 in
set_option maxRecDepth 100000 in
theorem lw_c5 {l : Launch} {p : Program} {e : Env} {s : State} {m : MethodId} {below : List Frame} {meth : Method} {c : Code} {D : va_G} {t : Nat → ClassId} {nm : String} {ret0 : Option FieldType} {b L : Nat} {xs : Nat → Int32} {Q : State → Prop} {w : wf_W} {H : Heap} {locs : List Loc} {ls : Array Slot} {cells slots i : Nat} {C pa sa : Nat → Nat} {mo : Nat} {A : Nat → Nat} {k mn cz tz ca : Nat} {cl tl Sz En Nx : Nat → Nat} (X : Cx p s m meth c R_Law nm code 4 ret0 D t) (hX : va_X b L xs s s.heap) (hbl : b < s.heap.size) (hB : wf_B D wcl (fun q : Nat => s.heap.size ≤ q) s.heap w H locs) (hI : LI t w C pa sa mo A k mn cz tz ca cl tl Sz En Nx) (hl : lv_has ls 4 [(0, .ref b), (1, .ref (C 0)), (2, .ref mo), (3, .int (nI i))]) (hi : i + 3 < L) (hL : L ≤ 2049) (hcc : cells + 1 ≤ 600000 ∧ slots + 3 ≤ 7302250) (K : ∀ (w' : wf_W) (H' : Heap) (locs' : List Loc) (mn' cz' tz' ca' : Nat) (cl' tl' Sz' En' Nx' : Nat → Nat), LI t w' C pa sa mo A k mn' cz' tz' ca' cl' tl' Sz' En' Nx' → wf_B D wcl (fun q : Nat => s.heap.size ≤ q) s.heap w' H' locs' → W p l e room_1 s m #[Value.ref b] below meth c H' locs' (cells + 1) (slots + 3) Q (F0 m 1009 ls [])) : W p l e room_1 s m #[Value.ref b] below meth c H locs cells slots Q (F0 m 283 ls []) := by
  have hx := X.1
  have hb := X.2.1
  have hbA : ¬ (fun q : Nat => s.heap.size ≤ q) b := Nat.not_le.mpr hbl
  obtain ⟨i1, i2, i3, i4, i5, i6, i7, i8, i9, i10⟩ := id hI
  have hmn := i5.1
  by_cases hv : (0 ≤ (xs (i + 1)).toInt ∧ (xs (i + 1)).toInt < mn)
  · by_cases h60 : mn = 60
    · have e1 : xs (i + 1) = nI ((xs (i + 1)).toInt.toNat) := nat_of (hv.1)
      refine lv_aload_n hx hb d_law_283 rfl (lv_at hl 1 rfl) ?_
      refine lv_aload_n hx hb d_law_284 rfl (lv_at hl 0 rfl) ?_
      refine lv_iload_n hx hb d_law_285 rfl (lv_at hl 3 rfl) ?_
      refine lv_iconst (v := nI 1) hx hb d_law_286 (by decide) ?_
      refine wf_iadd (x := i) (y := 1) hx hb d_law_287 ?_
      refine lw_ld hx hb hX hbl hB hbA (n := i + 1) (by omega) hL d_law_288 ?_
      refine wf_ti (y := nI ((xs (i + 1)).toInt.toNat)) e1 ?_
      refine callVi (As := [.int (nI ((xs (i + 1)).toInt.toNat))]) (rest := []) X hB (fun _ h => h) (k_notF (l := l) (D := D) (sz := H.size)  i1 i4 i5 i6 i7 i8 i9 (by omega) h60) k_578 k_579 k_580 k_64 k_581 i9.1 cl_TM rfl hd_TM_not ⟨Nat.le_of_ble_eq_true rfl, Nat.le_of_ble_eq_true rfl⟩ ⟨show cells + 0 ≤ 600000 by omega, show slots + 0 ≤ 7302250 by omega⟩ hl.1 (Nat.le_of_ble_eq_true rfl) d_law_289 rfl (fun r1 w1 H1 locs1 hp1 hB1 => ?_)
      obtain ⟨mn1, Sz1, En1, Nx1, ca1, o1, hC1, hf1⟩ := hp1
      have hR1 := RSt_C i3 hf1 i10
      obtain ⟨pz9, wy9, fi9, se9, ho9, lx9, ly9, ts9, tS9, cs9, av9, lz9, hz19, nl9, nh9, ce9, qd9, gmo⟩ := hR1.1
      refine lv_aload_n hx hb d_law_292 rfl (lv_at hl 2 rfl) ?_
      refine lv_aload_n hx hb d_law_293 rfl (lv_at hl 0 rfl) ?_
      refine lv_iload_n hx hb d_law_294 rfl (lv_at hl 3 rfl) ?_
      refine lv_iconst (v := nI 1) hx hb d_law_295 (by decide) ?_
      refine wf_iadd (x := i) (y := 1) hx hb d_law_296 ?_
      refine lw_ld hx hb hX hbl hB1 hbA (n := i + 1) (by omega) hL d_law_297 ?_
      refine wf_ti (y := nI ((xs (i + 1)).toInt.toNat)) e1 ?_
      refine callVi (As := [.int (nI ((xs (i + 1)).toInt.toNat))]) (rest := [.int r1]) X hB1 (fun _ h => h) (r_not (l := l) (D := D) (sz := H1.size)  i2 i4 i5 i6 i7 i8 hR1 (by omega)) k_1074 k_1075 k_1076 k_75 k_1077 gmo cl_Ref rfl hd_Ref_not ⟨Nat.le_of_ble_eq_true rfl, Nat.le_of_ble_eq_true rfl⟩ ⟨show cells + 0 + 0 ≤ 600000 by omega, show slots + 0 + 0 ≤ 7302250 by omega⟩ hl.1 (Nat.le_of_ble_eq_true rfl) d_law_298 rfl (fun r2 w2 H2 locs2 hp2 hB2 => ?_)
      obtain ⟨mn2, Sz2, En2, Nx2, ca2, o2, hR2, hf2⟩ := hp2
      have hdet := det_K i4 i5 o1 o2
      have heq := hdet.1
      have hLI := LI_mk hI hC1 hf2 hR2 hdet
      refine wf_ceq (tgt := 1009) hx hb d_law_301 (by decide) rfl rfl (fun _ => ?_) (fun hne => absurd (congrArg Int32.toInt heq) hne)
      refine W.widen (k := cells + 1) (n := slots + 3) (by omega) (by omega) ?_
      exact K _ _ _ _ _ _ _ _ _ _ _ _ hLI hB2
    · have e1 : xs (i + 1) = nI ((xs (i + 1)).toInt.toNat) := nat_of (hv.1)
      refine lv_aload_n hx hb d_law_283 rfl (lv_at hl 1 rfl) ?_
      refine lv_aload_n hx hb d_law_284 rfl (lv_at hl 0 rfl) ?_
      refine lv_iload_n hx hb d_law_285 rfl (lv_at hl 3 rfl) ?_
      refine lv_iconst (v := nI 1) hx hb d_law_286 (by decide) ?_
      refine wf_iadd (x := i) (y := 1) hx hb d_law_287 ?_
      refine lw_ld hx hb hX hbl hB hbA (n := i + 1) (by omega) hL d_law_288 ?_
      refine wf_ti (y := nI ((xs (i + 1)).toInt.toNat)) e1 ?_
      refine callVi (As := [.int (nI ((xs (i + 1)).toInt.toNat))]) (rest := []) X hB (fun _ h => h) (k_not (l := l) (D := D) (sz := H.size)  i1 i4 i5 i6 i7 i8 i9 (by omega) h60) k_578 k_579 k_580 k_64 k_581 i9.1 cl_TM rfl hd_TM_not ⟨Nat.le_of_ble_eq_true rfl, Nat.le_of_ble_eq_true rfl⟩ ⟨show cells + 0 ≤ 600000 by omega, show slots + 0 ≤ 7302250 by omega⟩ hl.1 (Nat.le_of_ble_eq_true rfl) d_law_289 rfl (fun r1 w1 H1 locs1 hp1 hB1 => ?_)
      obtain ⟨mn1, Sz1, En1, Nx1, ca1, o1, hC1, hf1⟩ := hp1
      have hR1 := RSt_C i3 hf1 i10
      obtain ⟨pz9, wy9, fi9, se9, ho9, lx9, ly9, ts9, tS9, cs9, av9, lz9, hz19, nl9, nh9, ce9, qd9, gmo⟩ := hR1.1
      refine lv_aload_n hx hb d_law_292 rfl (lv_at hl 2 rfl) ?_
      refine lv_aload_n hx hb d_law_293 rfl (lv_at hl 0 rfl) ?_
      refine lv_iload_n hx hb d_law_294 rfl (lv_at hl 3 rfl) ?_
      refine lv_iconst (v := nI 1) hx hb d_law_295 (by decide) ?_
      refine wf_iadd (x := i) (y := 1) hx hb d_law_296 ?_
      refine lw_ld hx hb hX hbl hB1 hbA (n := i + 1) (by omega) hL d_law_297 ?_
      refine wf_ti (y := nI ((xs (i + 1)).toInt.toNat)) e1 ?_
      refine callVi (As := [.int (nI ((xs (i + 1)).toInt.toNat))]) (rest := [.int r1]) X hB1 (fun _ h => h) (r_not (l := l) (D := D) (sz := H1.size)  i2 i4 i5 i6 i7 i8 hR1 (by omega)) k_1074 k_1075 k_1076 k_75 k_1077 gmo cl_Ref rfl hd_Ref_not ⟨Nat.le_of_ble_eq_true rfl, Nat.le_of_ble_eq_true rfl⟩ ⟨show cells + 0 + 0 ≤ 600000 by omega, show slots + 0 + 0 ≤ 7302250 by omega⟩ hl.1 (Nat.le_of_ble_eq_true rfl) d_law_298 rfl (fun r2 w2 H2 locs2 hp2 hB2 => ?_)
      obtain ⟨mn2, Sz2, En2, Nx2, ca2, o2, hR2, hf2⟩ := hp2
      have hdet := det_K i4 i5 o1 o2
      have heq := hdet.1
      have hLI := LI_mk hI hC1 hf2 hR2 hdet
      refine wf_ceq (tgt := 1009) hx hb d_law_301 (by decide) rfl rfl (fun _ => ?_) (fun hne => absurd (congrArg Int32.toInt heq) hne)
      refine W.widen (k := cells + 1) (n := slots + 3) (by omega) (by omega) ?_
      exact K _ _ _ _ _ _ _ _ _ _ _ _ hLI hB2
  · refine lv_aload_n hx hb d_law_283 rfl (lv_at hl 1 rfl) ?_
    refine lv_aload_n hx hb d_law_284 rfl (lv_at hl 0 rfl) ?_
    refine lv_iload_n hx hb d_law_285 rfl (lv_at hl 3 rfl) ?_
    refine lv_iconst (v := nI 1) hx hb d_law_286 (by decide) ?_
    refine wf_iadd (x := i) (y := 1) hx hb d_law_287 ?_
    refine lw_ld hx hb hX hbl hB hbA (n := i + 1) (by omega) hL d_law_288 ?_
    refine callVi (As := [.int (xs (i + 1))]) (rest := []) X hB (fun _ h => h) (k_notb (l := l) (D := D) (sz := H.size)  i1 i4 i5 i6 i7 i8 i9 hv) k_578 k_579 k_580 k_64 k_581 i9.1 cl_TM rfl hd_TM_not ⟨Nat.le_of_ble_eq_true rfl, Nat.le_of_ble_eq_true rfl⟩ ⟨show cells + 0 ≤ 600000 by omega, show slots + 0 ≤ 7302250 by omega⟩ hl.1 (Nat.le_of_ble_eq_true rfl) d_law_289 rfl (fun r1 w1 H1 locs1 hp1 hB1 => ?_)
    obtain ⟨q1, rfl⟩ := hp1
    have hR1 := i10
    obtain ⟨pz9, wy9, fi9, se9, ho9, lx9, ly9, ts9, tS9, cs9, av9, lz9, hz19, nl9, nh9, ce9, qd9, gmo⟩ := hR1.1
    refine lv_aload_n hx hb d_law_292 rfl (lv_at hl 2 rfl) ?_
    refine lv_aload_n hx hb d_law_293 rfl (lv_at hl 0 rfl) ?_
    refine lv_iload_n hx hb d_law_294 rfl (lv_at hl 3 rfl) ?_
    refine lv_iconst (v := nI 1) hx hb d_law_295 (by decide) ?_
    refine wf_iadd (x := i) (y := 1) hx hb d_law_296 ?_
    refine lw_ld hx hb hX hbl hB1 hbA (n := i + 1) (by omega) hL d_law_297 ?_
    refine callVi (As := [.int (xs (i + 1))]) (rest := [.int r1]) X hB1 (fun _ h => h) (r_notb (l := l) (D := D) (sz := H1.size)  i2 i4 i5 i6 i7 i8 hR1 hv) k_1074 k_1075 k_1076 k_75 k_1077 gmo cl_Ref rfl hd_Ref_not ⟨Nat.le_of_ble_eq_true rfl, Nat.le_of_ble_eq_true rfl⟩ ⟨show cells + 0 + 0 ≤ 600000 by omega, show slots + 0 + 0 ≤ 7302250 by omega⟩ hl.1 (Nat.le_of_ble_eq_true rfl) d_law_298 rfl (fun r2 w2 H2 locs2 hp2 hB2 => ?_)
    obtain ⟨q2, rfl⟩ := hp2
    have heq := q1.trans q2.symm
    have hLI := hI
    refine wf_ceq (tgt := 1009) hx hb d_law_301 (by decide) rfl rfl (fun _ => ?_) (fun hne => absurd (congrArg Int32.toInt heq) hne)
    refine W.widen (k := cells + 1) (n := slots + 3) (by omega) (by omega) ?_
    exact K _ _ _ _ _ _ _ _ _ _ _ _ hLI hB2
set_option maxHeartbeats 4000000 in
set_option maxRecDepth 100000 in
theorem lw_c6 {l : Launch} {p : Program} {e : Env} {s : State} {m : MethodId} {below : List Frame} {meth : Method} {c : Code} {D : va_G} {t : Nat → ClassId} {nm : String} {ret0 : Option FieldType} {b L : Nat} {xs : Nat → Int32} {Q : State → Prop} {w : wf_W} {H : Heap} {locs : List Loc} {ls : Array Slot} {cells slots i : Nat} {C pa sa : Nat → Nat} {mo : Nat} {A : Nat → Nat} {k mn cz tz ca : Nat} {cl tl Sz En Nx : Nat → Nat} (X : Cx p s m meth c R_Law nm code 4 ret0 D t) (hX : va_X b L xs s s.heap) (hbl : b < s.heap.size) (hB : wf_B D wcl (fun q : Nat => s.heap.size ≤ q) s.heap w H locs) (hI : LI t w C pa sa mo A k mn cz tz ca cl tl Sz En Nx) (hl : lv_has ls 4 [(0, .ref b), (1, .ref (C 0)), (2, .ref mo), (3, .int (nI i))]) (hi : i + 3 < L) (hL : L ≤ 2049) (hcc : cells + 1 ≤ 600000 ∧ slots + 3 ≤ 7302250) (K : ∀ (w' : wf_W) (H' : Heap) (locs' : List Loc) (mn' cz' tz' ca' : Nat) (cl' tl' Sz' En' Nx' : Nat → Nat), LI t w' C pa sa mo A k mn' cz' tz' ca' cl' tl' Sz' En' Nx' → wf_B D wcl (fun q : Nat => s.heap.size ≤ q) s.heap w' H' locs' → W p l e room_1 s m #[Value.ref b] below meth c H' locs' (cells + 1) (slots + 3) Q (F0 m 1009 ls [])) : W p l e room_1 s m #[Value.ref b] below meth c H locs cells slots Q (F0 m 306 ls []) := by
  have hx := X.1
  have hb := X.2.1
  have hbA : ¬ (fun q : Nat => s.heap.size ≤ q) b := Nat.not_le.mpr hbl
  obtain ⟨i1, i2, i3, i4, i5, i6, i7, i8, i9, i10⟩ := id hI
  have hmn := i5.1
  by_cases hv : (0 ≤ (xs (i + 1)).toInt ∧ (xs (i + 1)).toInt < mn) ∧ (0 ≤ (xs (i + 2)).toInt ∧ (xs (i + 2)).toInt < mn)
  · have e1 : xs (i + 1) = nI ((xs (i + 1)).toInt.toNat) := nat_of (hv.1.1)
    have e2 : xs (i + 2) = nI ((xs (i + 2)).toInt.toNat) := nat_of (hv.2.1)
    refine lv_aload_n hx hb d_law_306 rfl (lv_at hl 1 rfl) ?_
    refine lv_aload_n hx hb d_law_307 rfl (lv_at hl 0 rfl) ?_
    refine lv_iload_n hx hb d_law_308 rfl (lv_at hl 3 rfl) ?_
    refine lv_iconst (v := nI 1) hx hb d_law_309 (by decide) ?_
    refine wf_iadd (x := i) (y := 1) hx hb d_law_310 ?_
    refine lw_ld hx hb hX hbl hB hbA (n := i + 1) (by omega) hL d_law_311 ?_
    refine wf_ti (y := nI ((xs (i + 1)).toInt.toNat)) e1 ?_
    refine lv_aload_n hx hb d_law_312 rfl (lv_at hl 0 rfl) ?_
    refine lv_iload_n hx hb d_law_313 rfl (lv_at hl 3 rfl) ?_
    refine lv_iconst (v := nI 2) hx hb d_law_314 (by decide) ?_
    refine wf_iadd (x := i) (y := 2) hx hb d_law_315 ?_
    refine lw_ld hx hb hX hbl hB hbA (n := i + 2) (by omega) hL d_law_316 ?_
    refine wf_ti (y := nI ((xs (i + 2)).toInt.toNat)) e2 ?_
    refine callVi (As := [.int (nI ((xs (i + 1)).toInt.toNat)), .int (nI ((xs (i + 2)).toInt.toNat))]) (rest := []) X hB (fun _ h => h) (k_join (l := l) (D := D) (sz := H.size)  i1 i4 i5 i6 i7 i8 i9 (by omega) (by omega)) k_583 k_584 k_585 k_64 k_586 i9.1 cl_TM rfl hd_TM_join ⟨Nat.le_of_ble_eq_true rfl, Nat.le_of_ble_eq_true rfl⟩ ⟨show cells + 1 ≤ 600000 by omega, show slots + 2 ≤ 7302250 by omega⟩ hl.1 (Nat.le_of_ble_eq_true rfl) d_law_317 rfl (fun r1 w1 H1 locs1 hp1 hB1 => ?_)
    obtain ⟨mn1, Sz1, En1, Nx1, ca1, o1, hC1, hf1⟩ := hp1
    have hR1 := RSt_C i3 hf1 i10
    obtain ⟨pz9, wy9, fi9, se9, ho9, lx9, ly9, ts9, tS9, cs9, av9, lz9, hz19, nl9, nh9, ce9, qd9, gmo⟩ := hR1.1
    refine lv_aload_n hx hb d_law_320 rfl (lv_at hl 2 rfl) ?_
    refine lv_aload_n hx hb d_law_321 rfl (lv_at hl 0 rfl) ?_
    refine lv_iload_n hx hb d_law_322 rfl (lv_at hl 3 rfl) ?_
    refine lv_iconst (v := nI 1) hx hb d_law_323 (by decide) ?_
    refine wf_iadd (x := i) (y := 1) hx hb d_law_324 ?_
    refine lw_ld hx hb hX hbl hB1 hbA (n := i + 1) (by omega) hL d_law_325 ?_
    refine wf_ti (y := nI ((xs (i + 1)).toInt.toNat)) e1 ?_
    refine lv_aload_n hx hb d_law_326 rfl (lv_at hl 0 rfl) ?_
    refine lv_iload_n hx hb d_law_327 rfl (lv_at hl 3 rfl) ?_
    refine lv_iconst (v := nI 2) hx hb d_law_328 (by decide) ?_
    refine wf_iadd (x := i) (y := 2) hx hb d_law_329 ?_
    refine lw_ld hx hb hX hbl hB1 hbA (n := i + 2) (by omega) hL d_law_330 ?_
    refine wf_ti (y := nI ((xs (i + 2)).toInt.toNat)) e2 ?_
    refine callVi (As := [.int (nI ((xs (i + 1)).toInt.toNat)), .int (nI ((xs (i + 2)).toInt.toNat))]) (rest := [.int r1]) X hB1 (fun _ h => h) (r_join (l := l) (D := D) (sz := H1.size)  i2 i4 i5 i6 i7 i8 hR1 (by omega) (by omega)) k_1156 k_1157 k_1158 k_75 k_1159 gmo cl_Ref rfl hd_Ref_join ⟨Nat.le_of_ble_eq_true rfl, Nat.le_of_ble_eq_true rfl⟩ ⟨show cells + 1 + 0 ≤ 600000 by omega, show slots + 2 + 0 ≤ 7302250 by omega⟩ hl.1 (Nat.le_of_ble_eq_true rfl) d_law_331 rfl (fun r2 w2 H2 locs2 hp2 hB2 => ?_)
    obtain ⟨mn2, Sz2, En2, Nx2, ca2, o2, hR2, hf2⟩ := hp2
    have hdet := det_X i4 i5 o1 o2
    have heq := hdet.1
    have hLI := LI_mk hI hC1 hf2 hR2 hdet
    refine wf_ceq (tgt := 1009) hx hb d_law_334 (by decide) rfl rfl (fun _ => ?_) (fun hne => absurd (congrArg Int32.toInt heq) hne)
    refine W.widen (k := cells + 1) (n := slots + 3) (by omega) (by omega) ?_
    exact K _ _ _ _ _ _ _ _ _ _ _ _ hLI hB2
  · refine lv_aload_n hx hb d_law_306 rfl (lv_at hl 1 rfl) ?_
    refine lv_aload_n hx hb d_law_307 rfl (lv_at hl 0 rfl) ?_
    refine lv_iload_n hx hb d_law_308 rfl (lv_at hl 3 rfl) ?_
    refine lv_iconst (v := nI 1) hx hb d_law_309 (by decide) ?_
    refine wf_iadd (x := i) (y := 1) hx hb d_law_310 ?_
    refine lw_ld hx hb hX hbl hB hbA (n := i + 1) (by omega) hL d_law_311 ?_
    refine lv_aload_n hx hb d_law_312 rfl (lv_at hl 0 rfl) ?_
    refine lv_iload_n hx hb d_law_313 rfl (lv_at hl 3 rfl) ?_
    refine lv_iconst (v := nI 2) hx hb d_law_314 (by decide) ?_
    refine wf_iadd (x := i) (y := 2) hx hb d_law_315 ?_
    refine lw_ld hx hb hX hbl hB hbA (n := i + 2) (by omega) hL d_law_316 ?_
    refine callVi (As := [.int (xs (i + 1)), .int (xs (i + 2))]) (rest := []) X hB (fun _ h => h) (k_joinb (l := l) (D := D) (sz := H.size)  i1 i4 i5 i6 i7 i8 i9 hv) k_583 k_584 k_585 k_64 k_586 i9.1 cl_TM rfl hd_TM_join ⟨Nat.le_of_ble_eq_true rfl, Nat.le_of_ble_eq_true rfl⟩ ⟨show cells + 0 ≤ 600000 by omega, show slots + 0 ≤ 7302250 by omega⟩ hl.1 (Nat.le_of_ble_eq_true rfl) d_law_317 rfl (fun r1 w1 H1 locs1 hp1 hB1 => ?_)
    obtain ⟨q1, rfl⟩ := hp1
    have hR1 := i10
    obtain ⟨pz9, wy9, fi9, se9, ho9, lx9, ly9, ts9, tS9, cs9, av9, lz9, hz19, nl9, nh9, ce9, qd9, gmo⟩ := hR1.1
    refine lv_aload_n hx hb d_law_320 rfl (lv_at hl 2 rfl) ?_
    refine lv_aload_n hx hb d_law_321 rfl (lv_at hl 0 rfl) ?_
    refine lv_iload_n hx hb d_law_322 rfl (lv_at hl 3 rfl) ?_
    refine lv_iconst (v := nI 1) hx hb d_law_323 (by decide) ?_
    refine wf_iadd (x := i) (y := 1) hx hb d_law_324 ?_
    refine lw_ld hx hb hX hbl hB1 hbA (n := i + 1) (by omega) hL d_law_325 ?_
    refine lv_aload_n hx hb d_law_326 rfl (lv_at hl 0 rfl) ?_
    refine lv_iload_n hx hb d_law_327 rfl (lv_at hl 3 rfl) ?_
    refine lv_iconst (v := nI 2) hx hb d_law_328 (by decide) ?_
    refine wf_iadd (x := i) (y := 2) hx hb d_law_329 ?_
    refine lw_ld hx hb hX hbl hB1 hbA (n := i + 2) (by omega) hL d_law_330 ?_
    refine callVi (As := [.int (xs (i + 1)), .int (xs (i + 2))]) (rest := [.int r1]) X hB1 (fun _ h => h) (r_joinb (l := l) (D := D) (sz := H1.size)  i2 i4 i5 i6 i7 i8 hR1 hv) k_1156 k_1157 k_1158 k_75 k_1159 gmo cl_Ref rfl hd_Ref_join ⟨Nat.le_of_ble_eq_true rfl, Nat.le_of_ble_eq_true rfl⟩ ⟨show cells + 0 + 0 ≤ 600000 by omega, show slots + 0 + 0 ≤ 7302250 by omega⟩ hl.1 (Nat.le_of_ble_eq_true rfl) d_law_331 rfl (fun r2 w2 H2 locs2 hp2 hB2 => ?_)
    obtain ⟨q2, rfl⟩ := hp2
    have heq := q1.trans q2.symm
    have hLI := hI
    refine wf_ceq (tgt := 1009) hx hb d_law_334 (by decide) rfl rfl (fun _ => ?_) (fun hne => absurd (congrArg Int32.toInt heq) hne)
    refine W.widen (k := cells + 1) (n := slots + 3) (by omega) (by omega) ?_
    exact K _ _ _ _ _ _ _ _ _ _ _ _ hLI hB2
set_option maxHeartbeats 4000000 in
set_option maxRecDepth 100000 in
theorem lw_c7 {l : Launch} {p : Program} {e : Env} {s : State} {m : MethodId} {below : List Frame} {meth : Method} {c : Code} {D : va_G} {t : Nat → ClassId} {nm : String} {ret0 : Option FieldType} {b L : Nat} {xs : Nat → Int32} {Q : State → Prop} {w : wf_W} {H : Heap} {locs : List Loc} {ls : Array Slot} {cells slots i : Nat} {C pa sa : Nat → Nat} {mo : Nat} {A : Nat → Nat} {k mn cz tz ca : Nat} {cl tl Sz En Nx : Nat → Nat} (X : Cx p s m meth c R_Law nm code 4 ret0 D t) (hX : va_X b L xs s s.heap) (hbl : b < s.heap.size) (hB : wf_B D wcl (fun q : Nat => s.heap.size ≤ q) s.heap w H locs) (hI : LI t w C pa sa mo A k mn cz tz ca cl tl Sz En Nx) (hl : lv_has ls 4 [(0, .ref b), (1, .ref (C 0)), (2, .ref mo), (3, .int (nI i))]) (hi : i + 3 < L) (hL : L ≤ 2049) (hcc : cells + 1 ≤ 600000 ∧ slots + 3 ≤ 7302250) (K : ∀ (w' : wf_W) (H' : Heap) (locs' : List Loc) (mn' cz' tz' ca' : Nat) (cl' tl' Sz' En' Nx' : Nat → Nat), LI t w' C pa sa mo A k mn' cz' tz' ca' cl' tl' Sz' En' Nx' → wf_B D wcl (fun q : Nat => s.heap.size ≤ q) s.heap w' H' locs' → W p l e room_1 s m #[Value.ref b] below meth c H' locs' (cells + 1) (slots + 3) Q (F0 m 1009 ls [])) : W p l e room_1 s m #[Value.ref b] below meth c H locs cells slots Q (F0 m 339 ls []) := by
  have hx := X.1
  have hb := X.2.1
  have hbA : ¬ (fun q : Nat => s.heap.size ≤ q) b := Nat.not_le.mpr hbl
  obtain ⟨i1, i2, i3, i4, i5, i6, i7, i8, i9, i10⟩ := id hI
  have hmn := i5.1
  by_cases hv : (0 ≤ (xs (i + 1)).toInt ∧ (xs (i + 1)).toInt < mn)
  · have e1 : xs (i + 1) = nI ((xs (i + 1)).toInt.toNat) := nat_of (hv.1)
    refine lv_aload_n hx hb d_law_339 rfl (lv_at hl 1 rfl) ?_
    refine lv_aload_n hx hb d_law_340 rfl (lv_at hl 0 rfl) ?_
    refine lv_iload_n hx hb d_law_341 rfl (lv_at hl 3 rfl) ?_
    refine lv_iconst (v := nI 1) hx hb d_law_342 (by decide) ?_
    refine wf_iadd (x := i) (y := 1) hx hb d_law_343 ?_
    refine lw_ld hx hb hX hbl hB hbA (n := i + 1) (by omega) hL d_law_344 ?_
    refine wf_ti (y := nI ((xs (i + 1)).toInt.toNat)) e1 ?_
    refine callVi (As := [.int (nI ((xs (i + 1)).toInt.toNat))]) (rest := []) X hB (fun _ h => h) (k_many (l := l) (D := D) (sz := H.size)  i1 i4 i5 i6 i7 i8 i9 (by omega)) k_599 k_600 k_601 k_64 k_602 i9.1 cl_TM rfl hd_TM_many ⟨Nat.le_of_ble_eq_true rfl, Nat.le_of_ble_eq_true rfl⟩ ⟨show cells + 0 ≤ 600000 by omega, show slots + 0 ≤ 7302250 by omega⟩ hl.1 (Nat.le_of_ble_eq_true rfl) d_law_345 rfl (fun r1 w1 H1 locs1 hp1 hB1 => ?_)
    obtain ⟨mn1, Sz1, En1, Nx1, ca1, o1, hC1, hf1⟩ := hp1
    have hR1 := RSt_C i3 hf1 i10
    obtain ⟨pz9, wy9, fi9, se9, ho9, lx9, ly9, ts9, tS9, cs9, av9, lz9, hz19, nl9, nh9, ce9, qd9, gmo⟩ := hR1.1
    refine lv_aload_n hx hb d_law_348 rfl (lv_at hl 2 rfl) ?_
    refine lv_aload_n hx hb d_law_349 rfl (lv_at hl 0 rfl) ?_
    refine lv_iload_n hx hb d_law_350 rfl (lv_at hl 3 rfl) ?_
    refine lv_iconst (v := nI 1) hx hb d_law_351 (by decide) ?_
    refine wf_iadd (x := i) (y := 1) hx hb d_law_352 ?_
    refine lw_ld hx hb hX hbl hB1 hbA (n := i + 1) (by omega) hL d_law_353 ?_
    refine wf_ti (y := nI ((xs (i + 1)).toInt.toNat)) e1 ?_
    refine callVi (As := [.int (nI ((xs (i + 1)).toInt.toNat))]) (rest := [.int r1]) X hB1 (fun _ h => h) (r_many (l := l) (D := D) (sz := H1.size)  i2 i4 i5 i6 i7 i8 hR1 (by omega)) k_1160 k_1161 k_1162 k_75 k_1163 gmo cl_Ref rfl hd_Ref_many ⟨Nat.le_of_ble_eq_true rfl, Nat.le_of_ble_eq_true rfl⟩ ⟨show cells + 0 + 0 ≤ 600000 by omega, show slots + 0 + 0 ≤ 7302250 by omega⟩ hl.1 (Nat.le_of_ble_eq_true rfl) d_law_354 rfl (fun r2 w2 H2 locs2 hp2 hB2 => ?_)
    obtain ⟨mn2, Sz2, En2, Nx2, ca2, o2, hR2, hf2⟩ := hp2
    have hdet := det_X i4 i5 o1 o2
    have heq := hdet.1
    have hLI := LI_mk hI hC1 hf2 hR2 hdet
    refine wf_ceq (tgt := 1009) hx hb d_law_357 (by decide) rfl rfl (fun _ => ?_) (fun hne => absurd (congrArg Int32.toInt heq) hne)
    refine W.widen (k := cells + 1) (n := slots + 3) (by omega) (by omega) ?_
    exact K _ _ _ _ _ _ _ _ _ _ _ _ hLI hB2
  · refine lv_aload_n hx hb d_law_339 rfl (lv_at hl 1 rfl) ?_
    refine lv_aload_n hx hb d_law_340 rfl (lv_at hl 0 rfl) ?_
    refine lv_iload_n hx hb d_law_341 rfl (lv_at hl 3 rfl) ?_
    refine lv_iconst (v := nI 1) hx hb d_law_342 (by decide) ?_
    refine wf_iadd (x := i) (y := 1) hx hb d_law_343 ?_
    refine lw_ld hx hb hX hbl hB hbA (n := i + 1) (by omega) hL d_law_344 ?_
    refine callVi (As := [.int (xs (i + 1))]) (rest := []) X hB (fun _ h => h) (k_manyb (l := l) (D := D) (sz := H.size)  i1 i4 i5 i6 i7 i8 i9 hv) k_599 k_600 k_601 k_64 k_602 i9.1 cl_TM rfl hd_TM_many ⟨Nat.le_of_ble_eq_true rfl, Nat.le_of_ble_eq_true rfl⟩ ⟨show cells + 0 ≤ 600000 by omega, show slots + 0 ≤ 7302250 by omega⟩ hl.1 (Nat.le_of_ble_eq_true rfl) d_law_345 rfl (fun r1 w1 H1 locs1 hp1 hB1 => ?_)
    obtain ⟨q1, rfl⟩ := hp1
    have hR1 := i10
    obtain ⟨pz9, wy9, fi9, se9, ho9, lx9, ly9, ts9, tS9, cs9, av9, lz9, hz19, nl9, nh9, ce9, qd9, gmo⟩ := hR1.1
    refine lv_aload_n hx hb d_law_348 rfl (lv_at hl 2 rfl) ?_
    refine lv_aload_n hx hb d_law_349 rfl (lv_at hl 0 rfl) ?_
    refine lv_iload_n hx hb d_law_350 rfl (lv_at hl 3 rfl) ?_
    refine lv_iconst (v := nI 1) hx hb d_law_351 (by decide) ?_
    refine wf_iadd (x := i) (y := 1) hx hb d_law_352 ?_
    refine lw_ld hx hb hX hbl hB1 hbA (n := i + 1) (by omega) hL d_law_353 ?_
    refine callVi (As := [.int (xs (i + 1))]) (rest := [.int r1]) X hB1 (fun _ h => h) (r_manyb (l := l) (D := D) (sz := H1.size)  i2 i4 i5 i6 i7 i8 hR1 hv) k_1160 k_1161 k_1162 k_75 k_1163 gmo cl_Ref rfl hd_Ref_many ⟨Nat.le_of_ble_eq_true rfl, Nat.le_of_ble_eq_true rfl⟩ ⟨show cells + 0 + 0 ≤ 600000 by omega, show slots + 0 + 0 ≤ 7302250 by omega⟩ hl.1 (Nat.le_of_ble_eq_true rfl) d_law_354 rfl (fun r2 w2 H2 locs2 hp2 hB2 => ?_)
    obtain ⟨q2, rfl⟩ := hp2
    have heq := q1.trans q2.symm
    have hLI := hI
    refine wf_ceq (tgt := 1009) hx hb d_law_357 (by decide) rfl rfl (fun _ => ?_) (fun hne => absurd (congrArg Int32.toInt heq) hne)
    refine W.widen (k := cells + 1) (n := slots + 3) (by omega) (by omega) ?_
    exact K _ _ _ _ _ _ _ _ _ _ _ _ hLI hB2
set_option maxHeartbeats 4000000 in
set_option maxRecDepth 100000 in
theorem lw_c8 {l : Launch} {p : Program} {e : Env} {s : State} {m : MethodId} {below : List Frame} {meth : Method} {c : Code} {D : va_G} {t : Nat → ClassId} {nm : String} {ret0 : Option FieldType} {b L : Nat} {xs : Nat → Int32} {Q : State → Prop} {w : wf_W} {H : Heap} {locs : List Loc} {ls : Array Slot} {cells slots i : Nat} {C pa sa : Nat → Nat} {mo : Nat} {A : Nat → Nat} {k mn cz tz ca : Nat} {cl tl Sz En Nx : Nat → Nat} (X : Cx p s m meth c R_Law nm code 4 ret0 D t) (hX : va_X b L xs s s.heap) (hbl : b < s.heap.size) (hB : wf_B D wcl (fun q : Nat => s.heap.size ≤ q) s.heap w H locs) (hI : LI t w C pa sa mo A k mn cz tz ca cl tl Sz En Nx) (hl : lv_has ls 4 [(0, .ref b), (1, .ref (C 0)), (2, .ref mo), (3, .int (nI i))]) (hi : i + 3 < L) (hL : L ≤ 2049) (hcc : cells + 1 ≤ 600000 ∧ slots + 3 ≤ 7302250) (K : ∀ (w' : wf_W) (H' : Heap) (locs' : List Loc) (mn' cz' tz' ca' : Nat) (cl' tl' Sz' En' Nx' : Nat → Nat), LI t w' C pa sa mo A k mn' cz' tz' ca' cl' tl' Sz' En' Nx' → wf_B D wcl (fun q : Nat => s.heap.size ≤ q) s.heap w' H' locs' → W p l e room_1 s m #[Value.ref b] below meth c H' locs' (cells + 1) (slots + 3) Q (F0 m 1009 ls [])) : W p l e room_1 s m #[Value.ref b] below meth c H locs cells slots Q (F0 m 362 ls []) := by
  have hx := X.1
  have hb := X.2.1
  have hbA : ¬ (fun q : Nat => s.heap.size ≤ q) b := Nat.not_le.mpr hbl
  obtain ⟨i1, i2, i3, i4, i5, i6, i7, i8, i9, i10⟩ := id hI
  have hmn := i5.1
  by_cases hv : (0 ≤ (xs (i + 1)).toInt ∧ (xs (i + 1)).toInt < mn)
  · have e1 : xs (i + 1) = nI ((xs (i + 1)).toInt.toNat) := nat_of (hv.1)
    refine lv_aload_n hx hb d_law_362 rfl (lv_at hl 1 rfl) ?_
    refine lv_aload_n hx hb d_law_363 rfl (lv_at hl 0 rfl) ?_
    refine lv_iload_n hx hb d_law_364 rfl (lv_at hl 3 rfl) ?_
    refine lv_iconst (v := nI 1) hx hb d_law_365 (by decide) ?_
    refine wf_iadd (x := i) (y := 1) hx hb d_law_366 ?_
    refine lw_ld hx hb hX hbl hB hbA (n := i + 1) (by omega) hL d_law_367 ?_
    refine wf_ti (y := nI ((xs (i + 1)).toInt.toNat)) e1 ?_
    refine callVi (As := [.int (nI ((xs (i + 1)).toInt.toNat))]) (rest := []) X hB (fun _ h => h) (k_turn (l := l) (D := D) (sz := H.size)  i1 i4 i5 i6 i7 i8 i9 (by omega)) k_626 k_627 k_628 k_64 k_629 i9.1 cl_TM rfl hd_TM_turn ⟨Nat.le_of_ble_eq_true rfl, Nat.le_of_ble_eq_true rfl⟩ ⟨show cells + 0 ≤ 600000 by omega, show slots + 0 ≤ 7302250 by omega⟩ hl.1 (Nat.le_of_ble_eq_true rfl) d_law_368 rfl (fun r1 w1 H1 locs1 hp1 hB1 => ?_)
    obtain ⟨mn1, Sz1, En1, Nx1, ca1, o1, hC1, hf1⟩ := hp1
    have hR1 := RSt_C i3 hf1 i10
    obtain ⟨pz9, wy9, fi9, se9, ho9, lx9, ly9, ts9, tS9, cs9, av9, lz9, hz19, nl9, nh9, ce9, qd9, gmo⟩ := hR1.1
    refine lv_aload_n hx hb d_law_371 rfl (lv_at hl 2 rfl) ?_
    refine lv_aload_n hx hb d_law_372 rfl (lv_at hl 0 rfl) ?_
    refine lv_iload_n hx hb d_law_373 rfl (lv_at hl 3 rfl) ?_
    refine lv_iconst (v := nI 1) hx hb d_law_374 (by decide) ?_
    refine wf_iadd (x := i) (y := 1) hx hb d_law_375 ?_
    refine lw_ld hx hb hX hbl hB1 hbA (n := i + 1) (by omega) hL d_law_376 ?_
    refine wf_ti (y := nI ((xs (i + 1)).toInt.toNat)) e1 ?_
    refine callVi (As := [.int (nI ((xs (i + 1)).toInt.toNat))]) (rest := [.int r1]) X hB1 (fun _ h => h) (r_turn (l := l) (D := D) (sz := H1.size)  i2 i4 i5 i6 i7 i8 hR1 (by omega)) k_1164 k_1165 k_1166 k_75 k_1167 gmo cl_Ref rfl hd_Ref_turn ⟨Nat.le_of_ble_eq_true rfl, Nat.le_of_ble_eq_true rfl⟩ ⟨show cells + 0 + 0 ≤ 600000 by omega, show slots + 0 + 0 ≤ 7302250 by omega⟩ hl.1 (Nat.le_of_ble_eq_true rfl) d_law_377 rfl (fun r2 w2 H2 locs2 hp2 hB2 => ?_)
    obtain ⟨mn2, Sz2, En2, Nx2, ca2, o2, hR2, hf2⟩ := hp2
    have hdet := det_X i4 i5 o1 o2
    have heq := hdet.1
    have hLI := LI_mk hI hC1 hf2 hR2 hdet
    refine wf_ceq (tgt := 1009) hx hb d_law_380 (by decide) rfl rfl (fun _ => ?_) (fun hne => absurd (congrArg Int32.toInt heq) hne)
    refine W.widen (k := cells + 1) (n := slots + 3) (by omega) (by omega) ?_
    exact K _ _ _ _ _ _ _ _ _ _ _ _ hLI hB2
  · refine lv_aload_n hx hb d_law_362 rfl (lv_at hl 1 rfl) ?_
    refine lv_aload_n hx hb d_law_363 rfl (lv_at hl 0 rfl) ?_
    refine lv_iload_n hx hb d_law_364 rfl (lv_at hl 3 rfl) ?_
    refine lv_iconst (v := nI 1) hx hb d_law_365 (by decide) ?_
    refine wf_iadd (x := i) (y := 1) hx hb d_law_366 ?_
    refine lw_ld hx hb hX hbl hB hbA (n := i + 1) (by omega) hL d_law_367 ?_
    refine callVi (As := [.int (xs (i + 1))]) (rest := []) X hB (fun _ h => h) (k_turnb (l := l) (D := D) (sz := H.size)  i1 i4 i5 i6 i7 i8 i9 hv) k_626 k_627 k_628 k_64 k_629 i9.1 cl_TM rfl hd_TM_turn ⟨Nat.le_of_ble_eq_true rfl, Nat.le_of_ble_eq_true rfl⟩ ⟨show cells + 0 ≤ 600000 by omega, show slots + 0 ≤ 7302250 by omega⟩ hl.1 (Nat.le_of_ble_eq_true rfl) d_law_368 rfl (fun r1 w1 H1 locs1 hp1 hB1 => ?_)
    obtain ⟨q1, rfl⟩ := hp1
    have hR1 := i10
    obtain ⟨pz9, wy9, fi9, se9, ho9, lx9, ly9, ts9, tS9, cs9, av9, lz9, hz19, nl9, nh9, ce9, qd9, gmo⟩ := hR1.1
    refine lv_aload_n hx hb d_law_371 rfl (lv_at hl 2 rfl) ?_
    refine lv_aload_n hx hb d_law_372 rfl (lv_at hl 0 rfl) ?_
    refine lv_iload_n hx hb d_law_373 rfl (lv_at hl 3 rfl) ?_
    refine lv_iconst (v := nI 1) hx hb d_law_374 (by decide) ?_
    refine wf_iadd (x := i) (y := 1) hx hb d_law_375 ?_
    refine lw_ld hx hb hX hbl hB1 hbA (n := i + 1) (by omega) hL d_law_376 ?_
    refine callVi (As := [.int (xs (i + 1))]) (rest := [.int r1]) X hB1 (fun _ h => h) (r_turnb (l := l) (D := D) (sz := H1.size)  i2 i4 i5 i6 i7 i8 hR1 hv) k_1164 k_1165 k_1166 k_75 k_1167 gmo cl_Ref rfl hd_Ref_turn ⟨Nat.le_of_ble_eq_true rfl, Nat.le_of_ble_eq_true rfl⟩ ⟨show cells + 0 + 0 ≤ 600000 by omega, show slots + 0 + 0 ≤ 7302250 by omega⟩ hl.1 (Nat.le_of_ble_eq_true rfl) d_law_377 rfl (fun r2 w2 H2 locs2 hp2 hB2 => ?_)
    obtain ⟨q2, rfl⟩ := hp2
    have heq := q1.trans q2.symm
    have hLI := hI
    refine wf_ceq (tgt := 1009) hx hb d_law_380 (by decide) rfl rfl (fun _ => ?_) (fun hne => absurd (congrArg Int32.toInt heq) hne)
    refine W.widen (k := cells + 1) (n := slots + 3) (by omega) (by omega) ?_
    exact K _ _ _ _ _ _ _ _ _ _ _ _ hLI hB2
set_option maxHeartbeats 4000000 in
set_option maxRecDepth 100000 in
theorem lw_c9 {l : Launch} {p : Program} {e : Env} {s : State} {m : MethodId} {below : List Frame} {meth : Method} {c : Code} {D : va_G} {t : Nat → ClassId} {nm : String} {ret0 : Option FieldType} {b L : Nat} {xs : Nat → Int32} {Q : State → Prop} {w : wf_W} {H : Heap} {locs : List Loc} {ls : Array Slot} {cells slots i : Nat} {C pa sa : Nat → Nat} {mo : Nat} {A : Nat → Nat} {k mn cz tz ca : Nat} {cl tl Sz En Nx : Nat → Nat} (X : Cx p s m meth c R_Law nm code 4 ret0 D t) (hX : va_X b L xs s s.heap) (hbl : b < s.heap.size) (hB : wf_B D wcl (fun q : Nat => s.heap.size ≤ q) s.heap w H locs) (hI : LI t w C pa sa mo A k mn cz tz ca cl tl Sz En Nx) (hl : lv_has ls 4 [(0, .ref b), (1, .ref (C 0)), (2, .ref mo), (3, .int (nI i))]) (hi : i + 3 < L) (hL : L ≤ 2049) (hcc : cells + 1 ≤ 600000 ∧ slots + 3 ≤ 7302250) (K : ∀ (w' : wf_W) (H' : Heap) (locs' : List Loc) (mn' cz' tz' ca' : Nat) (cl' tl' Sz' En' Nx' : Nat → Nat), LI t w' C pa sa mo A k mn' cz' tz' ca' cl' tl' Sz' En' Nx' → wf_B D wcl (fun q : Nat => s.heap.size ≤ q) s.heap w' H' locs' → W p l e room_1 s m #[Value.ref b] below meth c H' locs' (cells + 1) (slots + 3) Q (F0 m 1009 ls [])) : W p l e room_1 s m #[Value.ref b] below meth c H locs cells slots Q (F0 m 385 ls []) := by
  have hx := X.1
  have hb := X.2.1
  have hbA : ¬ (fun q : Nat => s.heap.size ≤ q) b := Nat.not_le.mpr hbl
  obtain ⟨i1, i2, i3, i4, i5, i6, i7, i8, i9, i10⟩ := id hI
  have hmn := i5.1
  by_cases hv : (0 ≤ (xs (i + 1)).toInt ∧ (xs (i + 1)).toInt < mn) ∧ (0 ≤ (xs (i + 2)).toInt ∧ (xs (i + 2)).toInt < k) ∧ (0 ≤ (xs (i + 3)).toInt ∧ (xs (i + 3)).toInt < k)
  · have e1 : xs (i + 1) = nI ((xs (i + 1)).toInt.toNat) := nat_of (hv.1.1)
    have e2 : xs (i + 2) = nI ((xs (i + 2)).toInt.toNat) := nat_of (hv.2.1.1)
    have e3 : xs (i + 3) = nI ((xs (i + 3)).toInt.toNat) := nat_of (hv.2.2.1)
    refine lv_aload_n hx hb d_law_385 rfl (lv_at hl 1 rfl) ?_
    refine lv_aload_n hx hb d_law_386 rfl (lv_at hl 0 rfl) ?_
    refine lv_iload_n hx hb d_law_387 rfl (lv_at hl 3 rfl) ?_
    refine lv_iconst (v := nI 1) hx hb d_law_388 (by decide) ?_
    refine wf_iadd (x := i) (y := 1) hx hb d_law_389 ?_
    refine lw_ld hx hb hX hbl hB hbA (n := i + 1) (by omega) hL d_law_390 ?_
    refine wf_ti (y := nI ((xs (i + 1)).toInt.toNat)) e1 ?_
    refine lv_aload_n hx hb d_law_391 rfl (lv_at hl 0 rfl) ?_
    refine lv_iload_n hx hb d_law_392 rfl (lv_at hl 3 rfl) ?_
    refine lv_iconst (v := nI 2) hx hb d_law_393 (by decide) ?_
    refine wf_iadd (x := i) (y := 2) hx hb d_law_394 ?_
    refine lw_ld hx hb hX hbl hB hbA (n := i + 2) (by omega) hL d_law_395 ?_
    refine wf_ti (y := nI ((xs (i + 2)).toInt.toNat)) e2 ?_
    refine lv_aload_n hx hb d_law_396 rfl (lv_at hl 0 rfl) ?_
    refine lv_iload_n hx hb d_law_397 rfl (lv_at hl 3 rfl) ?_
    refine lv_iconst (v := nI 3) hx hb d_law_398 (by decide) ?_
    refine wf_iadd (x := i) (y := 3) hx hb d_law_399 ?_
    refine lw_ld hx hb hX hbl hB hbA (n := i + 3) (by omega) hL d_law_400 ?_
    refine wf_ti (y := nI ((xs (i + 3)).toInt.toNat)) e3 ?_
    refine callVi (As := [.int (nI ((xs (i + 1)).toInt.toNat)), .int (nI ((xs (i + 2)).toInt.toNat)), .int (nI ((xs (i + 3)).toInt.toNat))]) (rest := []) X hB (fun _ h => h) (k_become (l := l) (D := D) (sz := H.size)  i1 i4 i5 i6 i7 i8 i9 (by omega) (by omega) (by omega)) k_634 k_635 k_636 k_64 k_637 i9.1 cl_TM rfl hd_TM_become ⟨Nat.le_of_ble_eq_true rfl, Nat.le_of_ble_eq_true rfl⟩ ⟨show cells + 0 ≤ 600000 by omega, show slots + 0 ≤ 7302250 by omega⟩ hl.1 (Nat.le_of_ble_eq_true rfl) d_law_401 rfl (fun r1 w1 H1 locs1 hp1 hB1 => ?_)
    obtain ⟨mn1, Sz1, En1, Nx1, ca1, o1, hC1, hf1⟩ := hp1
    have hR1 := RSt_C i3 hf1 i10
    obtain ⟨pz9, wy9, fi9, se9, ho9, lx9, ly9, ts9, tS9, cs9, av9, lz9, hz19, nl9, nh9, ce9, qd9, gmo⟩ := hR1.1
    refine lv_aload_n hx hb d_law_404 rfl (lv_at hl 2 rfl) ?_
    refine lv_aload_n hx hb d_law_405 rfl (lv_at hl 0 rfl) ?_
    refine lv_iload_n hx hb d_law_406 rfl (lv_at hl 3 rfl) ?_
    refine lv_iconst (v := nI 1) hx hb d_law_407 (by decide) ?_
    refine wf_iadd (x := i) (y := 1) hx hb d_law_408 ?_
    refine lw_ld hx hb hX hbl hB1 hbA (n := i + 1) (by omega) hL d_law_409 ?_
    refine wf_ti (y := nI ((xs (i + 1)).toInt.toNat)) e1 ?_
    refine lv_aload_n hx hb d_law_410 rfl (lv_at hl 0 rfl) ?_
    refine lv_iload_n hx hb d_law_411 rfl (lv_at hl 3 rfl) ?_
    refine lv_iconst (v := nI 2) hx hb d_law_412 (by decide) ?_
    refine wf_iadd (x := i) (y := 2) hx hb d_law_413 ?_
    refine lw_ld hx hb hX hbl hB1 hbA (n := i + 2) (by omega) hL d_law_414 ?_
    refine wf_ti (y := nI ((xs (i + 2)).toInt.toNat)) e2 ?_
    refine lv_aload_n hx hb d_law_415 rfl (lv_at hl 0 rfl) ?_
    refine lv_iload_n hx hb d_law_416 rfl (lv_at hl 3 rfl) ?_
    refine lv_iconst (v := nI 3) hx hb d_law_417 (by decide) ?_
    refine wf_iadd (x := i) (y := 3) hx hb d_law_418 ?_
    refine lw_ld hx hb hX hbl hB1 hbA (n := i + 3) (by omega) hL d_law_419 ?_
    refine wf_ti (y := nI ((xs (i + 3)).toInt.toNat)) e3 ?_
    refine callVi (As := [.int (nI ((xs (i + 1)).toInt.toNat)), .int (nI ((xs (i + 2)).toInt.toNat)), .int (nI ((xs (i + 3)).toInt.toNat))]) (rest := [.int r1]) X hB1 (fun _ h => h) (r_become (l := l) (D := D) (sz := H1.size)  i2 i4 i5 i6 i7 i8 hR1 (by omega) (by omega) (by omega)) k_1168 k_1169 k_1170 k_75 k_1171 gmo cl_Ref rfl hd_Ref_become ⟨Nat.le_of_ble_eq_true rfl, Nat.le_of_ble_eq_true rfl⟩ ⟨show cells + 0 + 0 ≤ 600000 by omega, show slots + 0 + 0 ≤ 7302250 by omega⟩ hl.1 (Nat.le_of_ble_eq_true rfl) d_law_420 rfl (fun r2 w2 H2 locs2 hp2 hB2 => ?_)
    obtain ⟨mn2, Sz2, En2, Nx2, ca2, o2, hR2, hf2⟩ := hp2
    have hdet := det_X i4 i5 o1 o2
    have heq := hdet.1
    have hLI := LI_mk hI hC1 hf2 hR2 hdet
    refine wf_ceq (tgt := 1009) hx hb d_law_423 (by decide) rfl rfl (fun _ => ?_) (fun hne => absurd (congrArg Int32.toInt heq) hne)
    refine W.widen (k := cells + 1) (n := slots + 3) (by omega) (by omega) ?_
    exact K _ _ _ _ _ _ _ _ _ _ _ _ hLI hB2
  · refine lv_aload_n hx hb d_law_385 rfl (lv_at hl 1 rfl) ?_
    refine lv_aload_n hx hb d_law_386 rfl (lv_at hl 0 rfl) ?_
    refine lv_iload_n hx hb d_law_387 rfl (lv_at hl 3 rfl) ?_
    refine lv_iconst (v := nI 1) hx hb d_law_388 (by decide) ?_
    refine wf_iadd (x := i) (y := 1) hx hb d_law_389 ?_
    refine lw_ld hx hb hX hbl hB hbA (n := i + 1) (by omega) hL d_law_390 ?_
    refine lv_aload_n hx hb d_law_391 rfl (lv_at hl 0 rfl) ?_
    refine lv_iload_n hx hb d_law_392 rfl (lv_at hl 3 rfl) ?_
    refine lv_iconst (v := nI 2) hx hb d_law_393 (by decide) ?_
    refine wf_iadd (x := i) (y := 2) hx hb d_law_394 ?_
    refine lw_ld hx hb hX hbl hB hbA (n := i + 2) (by omega) hL d_law_395 ?_
    refine lv_aload_n hx hb d_law_396 rfl (lv_at hl 0 rfl) ?_
    refine lv_iload_n hx hb d_law_397 rfl (lv_at hl 3 rfl) ?_
    refine lv_iconst (v := nI 3) hx hb d_law_398 (by decide) ?_
    refine wf_iadd (x := i) (y := 3) hx hb d_law_399 ?_
    refine lw_ld hx hb hX hbl hB hbA (n := i + 3) (by omega) hL d_law_400 ?_
    refine callVi (As := [.int (xs (i + 1)), .int (xs (i + 2)), .int (xs (i + 3))]) (rest := []) X hB (fun _ h => h) (k_becomeb (l := l) (D := D) (sz := H.size)  i1 i4 i5 i6 i7 i8 i9 hv) k_634 k_635 k_636 k_64 k_637 i9.1 cl_TM rfl hd_TM_become ⟨Nat.le_of_ble_eq_true rfl, Nat.le_of_ble_eq_true rfl⟩ ⟨show cells + 0 ≤ 600000 by omega, show slots + 0 ≤ 7302250 by omega⟩ hl.1 (Nat.le_of_ble_eq_true rfl) d_law_401 rfl (fun r1 w1 H1 locs1 hp1 hB1 => ?_)
    obtain ⟨q1, rfl⟩ := hp1
    have hR1 := i10
    obtain ⟨pz9, wy9, fi9, se9, ho9, lx9, ly9, ts9, tS9, cs9, av9, lz9, hz19, nl9, nh9, ce9, qd9, gmo⟩ := hR1.1
    refine lv_aload_n hx hb d_law_404 rfl (lv_at hl 2 rfl) ?_
    refine lv_aload_n hx hb d_law_405 rfl (lv_at hl 0 rfl) ?_
    refine lv_iload_n hx hb d_law_406 rfl (lv_at hl 3 rfl) ?_
    refine lv_iconst (v := nI 1) hx hb d_law_407 (by decide) ?_
    refine wf_iadd (x := i) (y := 1) hx hb d_law_408 ?_
    refine lw_ld hx hb hX hbl hB1 hbA (n := i + 1) (by omega) hL d_law_409 ?_
    refine lv_aload_n hx hb d_law_410 rfl (lv_at hl 0 rfl) ?_
    refine lv_iload_n hx hb d_law_411 rfl (lv_at hl 3 rfl) ?_
    refine lv_iconst (v := nI 2) hx hb d_law_412 (by decide) ?_
    refine wf_iadd (x := i) (y := 2) hx hb d_law_413 ?_
    refine lw_ld hx hb hX hbl hB1 hbA (n := i + 2) (by omega) hL d_law_414 ?_
    refine lv_aload_n hx hb d_law_415 rfl (lv_at hl 0 rfl) ?_
    refine lv_iload_n hx hb d_law_416 rfl (lv_at hl 3 rfl) ?_
    refine lv_iconst (v := nI 3) hx hb d_law_417 (by decide) ?_
    refine wf_iadd (x := i) (y := 3) hx hb d_law_418 ?_
    refine lw_ld hx hb hX hbl hB1 hbA (n := i + 3) (by omega) hL d_law_419 ?_
    refine callVi (As := [.int (xs (i + 1)), .int (xs (i + 2)), .int (xs (i + 3))]) (rest := [.int r1]) X hB1 (fun _ h => h) (r_becomeb (l := l) (D := D) (sz := H1.size)  i2 i4 i5 i6 i7 i8 hR1 hv) k_1168 k_1169 k_1170 k_75 k_1171 gmo cl_Ref rfl hd_Ref_become ⟨Nat.le_of_ble_eq_true rfl, Nat.le_of_ble_eq_true rfl⟩ ⟨show cells + 0 + 0 ≤ 600000 by omega, show slots + 0 + 0 ≤ 7302250 by omega⟩ hl.1 (Nat.le_of_ble_eq_true rfl) d_law_420 rfl (fun r2 w2 H2 locs2 hp2 hB2 => ?_)
    obtain ⟨q2, rfl⟩ := hp2
    have heq := q1.trans q2.symm
    have hLI := hI
    refine wf_ceq (tgt := 1009) hx hb d_law_423 (by decide) rfl rfl (fun _ => ?_) (fun hne => absurd (congrArg Int32.toInt heq) hne)
    refine W.widen (k := cells + 1) (n := slots + 3) (by omega) (by omega) ?_
    exact K _ _ _ _ _ _ _ _ _ _ _ _ hLI hB2
set_option maxHeartbeats 4000000 in
set_option maxRecDepth 100000 in
theorem lw_c10 {l : Launch} {p : Program} {e : Env} {s : State} {m : MethodId} {below : List Frame} {meth : Method} {c : Code} {D : va_G} {t : Nat → ClassId} {nm : String} {ret0 : Option FieldType} {b L : Nat} {xs : Nat → Int32} {Q : State → Prop} {w : wf_W} {H : Heap} {locs : List Loc} {ls : Array Slot} {cells slots i : Nat} {C pa sa : Nat → Nat} {mo : Nat} {A : Nat → Nat} {k mn cz tz ca : Nat} {cl tl Sz En Nx : Nat → Nat} (X : Cx p s m meth c R_Law nm code 4 ret0 D t) (hX : va_X b L xs s s.heap) (hbl : b < s.heap.size) (hB : wf_B D wcl (fun q : Nat => s.heap.size ≤ q) s.heap w H locs) (hI : LI t w C pa sa mo A k mn cz tz ca cl tl Sz En Nx) (hl : lv_has ls 4 [(0, .ref b), (1, .ref (C 0)), (2, .ref mo), (3, .int (nI i))]) (hi : i + 3 < L) (hL : L ≤ 2049) (hcc : cells + 1 ≤ 600000 ∧ slots + 3 ≤ 7302250) (K : ∀ (w' : wf_W) (H' : Heap) (locs' : List Loc) (mn' cz' tz' ca' : Nat) (cl' tl' Sz' En' Nx' : Nat → Nat), LI t w' C pa sa mo A k mn' cz' tz' ca' cl' tl' Sz' En' Nx' → wf_B D wcl (fun q : Nat => s.heap.size ≤ q) s.heap w' H' locs' → W p l e room_1 s m #[Value.ref b] below meth c H' locs' (cells + 1) (slots + 3) Q (F0 m 1009 ls [])) : W p l e room_1 s m #[Value.ref b] below meth c H locs cells slots Q (F0 m 428 ls []) := by
  have hx := X.1
  have hb := X.2.1
  have hbA : ¬ (fun q : Nat => s.heap.size ≤ q) b := Nat.not_le.mpr hbl
  obtain ⟨i1, i2, i3, i4, i5, i6, i7, i8, i9, i10⟩ := id hI
  have hmn := i5.1
  by_cases hv : (0 ≤ (xs (i + 1)).toInt ∧ (xs (i + 1)).toInt < mn) ∧ (0 ≤ (xs (i + 2)).toInt ∧ (xs (i + 2)).toInt < k)
  · have e1 : xs (i + 1) = nI ((xs (i + 1)).toInt.toNat) := nat_of (hv.1.1)
    have e2 : xs (i + 2) = nI ((xs (i + 2)).toInt.toNat) := nat_of (hv.2.1)
    refine lv_aload_n hx hb d_law_428 rfl (lv_at hl 1 rfl) ?_
    refine lv_aload_n hx hb d_law_429 rfl (lv_at hl 0 rfl) ?_
    refine lv_iload_n hx hb d_law_430 rfl (lv_at hl 3 rfl) ?_
    refine lv_iconst (v := nI 1) hx hb d_law_431 (by decide) ?_
    refine wf_iadd (x := i) (y := 1) hx hb d_law_432 ?_
    refine lw_ld hx hb hX hbl hB hbA (n := i + 1) (by omega) hL d_law_433 ?_
    refine wf_ti (y := nI ((xs (i + 1)).toInt.toNat)) e1 ?_
    refine lv_aload_n hx hb d_law_434 rfl (lv_at hl 0 rfl) ?_
    refine lv_iload_n hx hb d_law_435 rfl (lv_at hl 3 rfl) ?_
    refine lv_iconst (v := nI 2) hx hb d_law_436 (by decide) ?_
    refine wf_iadd (x := i) (y := 2) hx hb d_law_437 ?_
    refine lw_ld hx hb hX hbl hB hbA (n := i + 2) (by omega) hL d_law_438 ?_
    refine wf_ti (y := nI ((xs (i + 2)).toInt.toNat)) e2 ?_
    refine callVi (As := [.int (nI ((xs (i + 1)).toInt.toNat)), .int (nI ((xs (i + 2)).toInt.toNat))]) (rest := []) X hB (fun _ h => h) (k_drop (l := l) (D := D) (sz := H.size)  i1 i4 i5 i6 i7 i8 i9 (by omega) (by omega)) k_646 k_647 k_648 k_64 k_649 i9.1 cl_TM rfl hd_TM_drop ⟨Nat.le_of_ble_eq_true rfl, Nat.le_of_ble_eq_true rfl⟩ ⟨show cells + 0 ≤ 600000 by omega, show slots + 0 ≤ 7302250 by omega⟩ hl.1 (Nat.le_of_ble_eq_true rfl) d_law_439 rfl (fun r1 w1 H1 locs1 hp1 hB1 => ?_)
    obtain ⟨mn1, Sz1, En1, Nx1, ca1, o1, hC1, hf1⟩ := hp1
    have hR1 := RSt_C i3 hf1 i10
    obtain ⟨pz9, wy9, fi9, se9, ho9, lx9, ly9, ts9, tS9, cs9, av9, lz9, hz19, nl9, nh9, ce9, qd9, gmo⟩ := hR1.1
    refine lv_aload_n hx hb d_law_442 rfl (lv_at hl 2 rfl) ?_
    refine lv_aload_n hx hb d_law_443 rfl (lv_at hl 0 rfl) ?_
    refine lv_iload_n hx hb d_law_444 rfl (lv_at hl 3 rfl) ?_
    refine lv_iconst (v := nI 1) hx hb d_law_445 (by decide) ?_
    refine wf_iadd (x := i) (y := 1) hx hb d_law_446 ?_
    refine lw_ld hx hb hX hbl hB1 hbA (n := i + 1) (by omega) hL d_law_447 ?_
    refine wf_ti (y := nI ((xs (i + 1)).toInt.toNat)) e1 ?_
    refine lv_aload_n hx hb d_law_448 rfl (lv_at hl 0 rfl) ?_
    refine lv_iload_n hx hb d_law_449 rfl (lv_at hl 3 rfl) ?_
    refine lv_iconst (v := nI 2) hx hb d_law_450 (by decide) ?_
    refine wf_iadd (x := i) (y := 2) hx hb d_law_451 ?_
    refine lw_ld hx hb hX hbl hB1 hbA (n := i + 2) (by omega) hL d_law_452 ?_
    refine wf_ti (y := nI ((xs (i + 2)).toInt.toNat)) e2 ?_
    refine callVi (As := [.int (nI ((xs (i + 1)).toInt.toNat)), .int (nI ((xs (i + 2)).toInt.toNat))]) (rest := [.int r1]) X hB1 (fun _ h => h) (r_drop (l := l) (D := D) (sz := H1.size)  i2 i4 i5 i6 i7 i8 hR1 (by omega) (by omega)) k_1172 k_1173 k_1174 k_75 k_1175 gmo cl_Ref rfl hd_Ref_drop ⟨Nat.le_of_ble_eq_true rfl, Nat.le_of_ble_eq_true rfl⟩ ⟨show cells + 0 + 0 ≤ 600000 by omega, show slots + 0 + 0 ≤ 7302250 by omega⟩ hl.1 (Nat.le_of_ble_eq_true rfl) d_law_453 rfl (fun r2 w2 H2 locs2 hp2 hB2 => ?_)
    obtain ⟨mn2, Sz2, En2, Nx2, ca2, o2, hR2, hf2⟩ := hp2
    have hdet := det_X i4 i5 o1 o2
    have heq := hdet.1
    have hLI := LI_mk hI hC1 hf2 hR2 hdet
    refine wf_ceq (tgt := 1009) hx hb d_law_456 (by decide) rfl rfl (fun _ => ?_) (fun hne => absurd (congrArg Int32.toInt heq) hne)
    refine W.widen (k := cells + 1) (n := slots + 3) (by omega) (by omega) ?_
    exact K _ _ _ _ _ _ _ _ _ _ _ _ hLI hB2
  · refine lv_aload_n hx hb d_law_428 rfl (lv_at hl 1 rfl) ?_
    refine lv_aload_n hx hb d_law_429 rfl (lv_at hl 0 rfl) ?_
    refine lv_iload_n hx hb d_law_430 rfl (lv_at hl 3 rfl) ?_
    refine lv_iconst (v := nI 1) hx hb d_law_431 (by decide) ?_
    refine wf_iadd (x := i) (y := 1) hx hb d_law_432 ?_
    refine lw_ld hx hb hX hbl hB hbA (n := i + 1) (by omega) hL d_law_433 ?_
    refine lv_aload_n hx hb d_law_434 rfl (lv_at hl 0 rfl) ?_
    refine lv_iload_n hx hb d_law_435 rfl (lv_at hl 3 rfl) ?_
    refine lv_iconst (v := nI 2) hx hb d_law_436 (by decide) ?_
    refine wf_iadd (x := i) (y := 2) hx hb d_law_437 ?_
    refine lw_ld hx hb hX hbl hB hbA (n := i + 2) (by omega) hL d_law_438 ?_
    refine callVi (As := [.int (xs (i + 1)), .int (xs (i + 2))]) (rest := []) X hB (fun _ h => h) (k_dropb (l := l) (D := D) (sz := H.size)  i1 i4 i5 i6 i7 i8 i9 hv) k_646 k_647 k_648 k_64 k_649 i9.1 cl_TM rfl hd_TM_drop ⟨Nat.le_of_ble_eq_true rfl, Nat.le_of_ble_eq_true rfl⟩ ⟨show cells + 0 ≤ 600000 by omega, show slots + 0 ≤ 7302250 by omega⟩ hl.1 (Nat.le_of_ble_eq_true rfl) d_law_439 rfl (fun r1 w1 H1 locs1 hp1 hB1 => ?_)
    obtain ⟨q1, rfl⟩ := hp1
    have hR1 := i10
    obtain ⟨pz9, wy9, fi9, se9, ho9, lx9, ly9, ts9, tS9, cs9, av9, lz9, hz19, nl9, nh9, ce9, qd9, gmo⟩ := hR1.1
    refine lv_aload_n hx hb d_law_442 rfl (lv_at hl 2 rfl) ?_
    refine lv_aload_n hx hb d_law_443 rfl (lv_at hl 0 rfl) ?_
    refine lv_iload_n hx hb d_law_444 rfl (lv_at hl 3 rfl) ?_
    refine lv_iconst (v := nI 1) hx hb d_law_445 (by decide) ?_
    refine wf_iadd (x := i) (y := 1) hx hb d_law_446 ?_
    refine lw_ld hx hb hX hbl hB1 hbA (n := i + 1) (by omega) hL d_law_447 ?_
    refine lv_aload_n hx hb d_law_448 rfl (lv_at hl 0 rfl) ?_
    refine lv_iload_n hx hb d_law_449 rfl (lv_at hl 3 rfl) ?_
    refine lv_iconst (v := nI 2) hx hb d_law_450 (by decide) ?_
    refine wf_iadd (x := i) (y := 2) hx hb d_law_451 ?_
    refine lw_ld hx hb hX hbl hB1 hbA (n := i + 2) (by omega) hL d_law_452 ?_
    refine callVi (As := [.int (xs (i + 1)), .int (xs (i + 2))]) (rest := [.int r1]) X hB1 (fun _ h => h) (r_dropb (l := l) (D := D) (sz := H1.size)  i2 i4 i5 i6 i7 i8 hR1 hv) k_1172 k_1173 k_1174 k_75 k_1175 gmo cl_Ref rfl hd_Ref_drop ⟨Nat.le_of_ble_eq_true rfl, Nat.le_of_ble_eq_true rfl⟩ ⟨show cells + 0 + 0 ≤ 600000 by omega, show slots + 0 + 0 ≤ 7302250 by omega⟩ hl.1 (Nat.le_of_ble_eq_true rfl) d_law_453 rfl (fun r2 w2 H2 locs2 hp2 hB2 => ?_)
    obtain ⟨q2, rfl⟩ := hp2
    have heq := q1.trans q2.symm
    have hLI := hI
    refine wf_ceq (tgt := 1009) hx hb d_law_456 (by decide) rfl rfl (fun _ => ?_) (fun hne => absurd (congrArg Int32.toInt heq) hne)
    refine W.widen (k := cells + 1) (n := slots + 3) (by omega) (by omega) ?_
    exact K _ _ _ _ _ _ _ _ _ _ _ _ hLI hB2
set_option maxHeartbeats 4000000 in
set_option maxRecDepth 100000 in
theorem lw_c11 {l : Launch} {p : Program} {e : Env} {s : State} {m : MethodId} {below : List Frame} {meth : Method} {c : Code} {D : va_G} {t : Nat → ClassId} {nm : String} {ret0 : Option FieldType} {b L : Nat} {xs : Nat → Int32} {Q : State → Prop} {w : wf_W} {H : Heap} {locs : List Loc} {ls : Array Slot} {cells slots i : Nat} {C pa sa : Nat → Nat} {mo : Nat} {A : Nat → Nat} {k mn cz tz ca : Nat} {cl tl Sz En Nx : Nat → Nat} (X : Cx p s m meth c R_Law nm code 4 ret0 D t) (hX : va_X b L xs s s.heap) (hbl : b < s.heap.size) (hB : wf_B D wcl (fun q : Nat => s.heap.size ≤ q) s.heap w H locs) (hI : LI t w C pa sa mo A k mn cz tz ca cl tl Sz En Nx) (hl : lv_has ls 4 [(0, .ref b), (1, .ref (C 0)), (2, .ref mo), (3, .int (nI i))]) (hi : i + 3 < L) (hL : L ≤ 2049) (hcc : cells + 1 ≤ 600000 ∧ slots + 3 ≤ 7302250) (K : ∀ (w' : wf_W) (H' : Heap) (locs' : List Loc) (mn' cz' tz' ca' : Nat) (cl' tl' Sz' En' Nx' : Nat → Nat), LI t w' C pa sa mo A k mn' cz' tz' ca' cl' tl' Sz' En' Nx' → wf_B D wcl (fun q : Nat => s.heap.size ≤ q) s.heap w' H' locs' → W p l e room_1 s m #[Value.ref b] below meth c H' locs' (cells + 1) (slots + 3) Q (F0 m 1009 ls [])) : W p l e room_1 s m #[Value.ref b] below meth c H locs cells slots Q (F0 m 461 ls []) := by
  have hx := X.1
  have hb := X.2.1
  have hbA : ¬ (fun q : Nat => s.heap.size ≤ q) b := Nat.not_le.mpr hbl
  obtain ⟨i1, i2, i3, i4, i5, i6, i7, i8, i9, i10⟩ := id hI
  have hmn := i5.1
  by_cases hv : (0 ≤ (xs (i + 1)).toInt ∧ (xs (i + 1)).toInt < mn) ∧ (0 ≤ (xs (i + 2)).toInt ∧ (xs (i + 2)).toInt ≤ 100)
  · have e1 : xs (i + 1) = nI ((xs (i + 1)).toInt.toNat) := nat_of (hv.1.1)
    have e2 : xs (i + 2) = nI ((xs (i + 2)).toInt.toNat) := nat_of (hv.2.1)
    refine lv_aload_n hx hb d_law_461 rfl (lv_at hl 1 rfl) ?_
    refine lv_aload_n hx hb d_law_462 rfl (lv_at hl 0 rfl) ?_
    refine lv_iload_n hx hb d_law_463 rfl (lv_at hl 3 rfl) ?_
    refine lv_iconst (v := nI 1) hx hb d_law_464 (by decide) ?_
    refine wf_iadd (x := i) (y := 1) hx hb d_law_465 ?_
    refine lw_ld hx hb hX hbl hB hbA (n := i + 1) (by omega) hL d_law_466 ?_
    refine wf_ti (y := nI ((xs (i + 1)).toInt.toNat)) e1 ?_
    refine lv_aload_n hx hb d_law_467 rfl (lv_at hl 0 rfl) ?_
    refine lv_iload_n hx hb d_law_468 rfl (lv_at hl 3 rfl) ?_
    refine lv_iconst (v := nI 2) hx hb d_law_469 (by decide) ?_
    refine wf_iadd (x := i) (y := 2) hx hb d_law_470 ?_
    refine lw_ld hx hb hX hbl hB hbA (n := i + 2) (by omega) hL d_law_471 ?_
    refine wf_ti (y := nI ((xs (i + 2)).toInt.toNat)) e2 ?_
    refine callVi (As := [.int (nI ((xs (i + 1)).toInt.toNat)), .int (nI ((xs (i + 2)).toInt.toNat))]) (rest := []) X hB (fun _ h => h) (k_cut (l := l) (D := D) (sz := H.size)  i1 i4 i5 i6 i7 i8 i9 (by omega) (by omega)) k_657 k_658 k_659 k_64 k_660 i9.1 cl_TM rfl hd_TM_cut ⟨Nat.le_of_ble_eq_true rfl, Nat.le_of_ble_eq_true rfl⟩ ⟨show cells + 0 ≤ 600000 by omega, show slots + 0 ≤ 7302250 by omega⟩ hl.1 (Nat.le_of_ble_eq_true rfl) d_law_472 rfl (fun r1 w1 H1 locs1 hp1 hB1 => ?_)
    obtain ⟨mn1, Sz1, En1, Nx1, ca1, o1, hC1, hf1⟩ := hp1
    have hR1 := RSt_C i3 hf1 i10
    obtain ⟨pz9, wy9, fi9, se9, ho9, lx9, ly9, ts9, tS9, cs9, av9, lz9, hz19, nl9, nh9, ce9, qd9, gmo⟩ := hR1.1
    refine lv_aload_n hx hb d_law_475 rfl (lv_at hl 2 rfl) ?_
    refine lv_aload_n hx hb d_law_476 rfl (lv_at hl 0 rfl) ?_
    refine lv_iload_n hx hb d_law_477 rfl (lv_at hl 3 rfl) ?_
    refine lv_iconst (v := nI 1) hx hb d_law_478 (by decide) ?_
    refine wf_iadd (x := i) (y := 1) hx hb d_law_479 ?_
    refine lw_ld hx hb hX hbl hB1 hbA (n := i + 1) (by omega) hL d_law_480 ?_
    refine wf_ti (y := nI ((xs (i + 1)).toInt.toNat)) e1 ?_
    refine lv_aload_n hx hb d_law_481 rfl (lv_at hl 0 rfl) ?_
    refine lv_iload_n hx hb d_law_482 rfl (lv_at hl 3 rfl) ?_
    refine lv_iconst (v := nI 2) hx hb d_law_483 (by decide) ?_
    refine wf_iadd (x := i) (y := 2) hx hb d_law_484 ?_
    refine lw_ld hx hb hX hbl hB1 hbA (n := i + 2) (by omega) hL d_law_485 ?_
    refine wf_ti (y := nI ((xs (i + 2)).toInt.toNat)) e2 ?_
    refine callVi (As := [.int (nI ((xs (i + 1)).toInt.toNat)), .int (nI ((xs (i + 2)).toInt.toNat))]) (rest := [.int r1]) X hB1 (fun _ h => h) (r_cut (l := l) (D := D) (sz := H1.size)  i2 i4 i5 i6 i7 i8 hR1 (by omega) (by omega)) k_1176 k_1177 k_1178 k_75 k_1179 gmo cl_Ref rfl hd_Ref_cut ⟨Nat.le_of_ble_eq_true rfl, Nat.le_of_ble_eq_true rfl⟩ ⟨show cells + 0 + 0 ≤ 600000 by omega, show slots + 0 + 0 ≤ 7302250 by omega⟩ hl.1 (Nat.le_of_ble_eq_true rfl) d_law_486 rfl (fun r2 w2 H2 locs2 hp2 hB2 => ?_)
    obtain ⟨mn2, Sz2, En2, Nx2, ca2, o2, hR2, hf2⟩ := hp2
    have hdet := det_X i4 i5 o1 o2
    have heq := hdet.1
    have hLI := LI_mk hI hC1 hf2 hR2 hdet
    refine wf_ceq (tgt := 1009) hx hb d_law_489 (by decide) rfl rfl (fun _ => ?_) (fun hne => absurd (congrArg Int32.toInt heq) hne)
    refine W.widen (k := cells + 1) (n := slots + 3) (by omega) (by omega) ?_
    exact K _ _ _ _ _ _ _ _ _ _ _ _ hLI hB2
  · refine lv_aload_n hx hb d_law_461 rfl (lv_at hl 1 rfl) ?_
    refine lv_aload_n hx hb d_law_462 rfl (lv_at hl 0 rfl) ?_
    refine lv_iload_n hx hb d_law_463 rfl (lv_at hl 3 rfl) ?_
    refine lv_iconst (v := nI 1) hx hb d_law_464 (by decide) ?_
    refine wf_iadd (x := i) (y := 1) hx hb d_law_465 ?_
    refine lw_ld hx hb hX hbl hB hbA (n := i + 1) (by omega) hL d_law_466 ?_
    refine lv_aload_n hx hb d_law_467 rfl (lv_at hl 0 rfl) ?_
    refine lv_iload_n hx hb d_law_468 rfl (lv_at hl 3 rfl) ?_
    refine lv_iconst (v := nI 2) hx hb d_law_469 (by decide) ?_
    refine wf_iadd (x := i) (y := 2) hx hb d_law_470 ?_
    refine lw_ld hx hb hX hbl hB hbA (n := i + 2) (by omega) hL d_law_471 ?_
    refine callVi (As := [.int (xs (i + 1)), .int (xs (i + 2))]) (rest := []) X hB (fun _ h => h) (k_cutb (l := l) (D := D) (sz := H.size)  i1 i4 i5 i6 i7 i8 i9 hv) k_657 k_658 k_659 k_64 k_660 i9.1 cl_TM rfl hd_TM_cut ⟨Nat.le_of_ble_eq_true rfl, Nat.le_of_ble_eq_true rfl⟩ ⟨show cells + 0 ≤ 600000 by omega, show slots + 0 ≤ 7302250 by omega⟩ hl.1 (Nat.le_of_ble_eq_true rfl) d_law_472 rfl (fun r1 w1 H1 locs1 hp1 hB1 => ?_)
    obtain ⟨q1, rfl⟩ := hp1
    have hR1 := i10
    obtain ⟨pz9, wy9, fi9, se9, ho9, lx9, ly9, ts9, tS9, cs9, av9, lz9, hz19, nl9, nh9, ce9, qd9, gmo⟩ := hR1.1
    refine lv_aload_n hx hb d_law_475 rfl (lv_at hl 2 rfl) ?_
    refine lv_aload_n hx hb d_law_476 rfl (lv_at hl 0 rfl) ?_
    refine lv_iload_n hx hb d_law_477 rfl (lv_at hl 3 rfl) ?_
    refine lv_iconst (v := nI 1) hx hb d_law_478 (by decide) ?_
    refine wf_iadd (x := i) (y := 1) hx hb d_law_479 ?_
    refine lw_ld hx hb hX hbl hB1 hbA (n := i + 1) (by omega) hL d_law_480 ?_
    refine lv_aload_n hx hb d_law_481 rfl (lv_at hl 0 rfl) ?_
    refine lv_iload_n hx hb d_law_482 rfl (lv_at hl 3 rfl) ?_
    refine lv_iconst (v := nI 2) hx hb d_law_483 (by decide) ?_
    refine wf_iadd (x := i) (y := 2) hx hb d_law_484 ?_
    refine lw_ld hx hb hX hbl hB1 hbA (n := i + 2) (by omega) hL d_law_485 ?_
    refine callVi (As := [.int (xs (i + 1)), .int (xs (i + 2))]) (rest := [.int r1]) X hB1 (fun _ h => h) (r_cutb (l := l) (D := D) (sz := H1.size)  i2 i4 i5 i6 i7 i8 hR1 hv) k_1176 k_1177 k_1178 k_75 k_1179 gmo cl_Ref rfl hd_Ref_cut ⟨Nat.le_of_ble_eq_true rfl, Nat.le_of_ble_eq_true rfl⟩ ⟨show cells + 0 + 0 ≤ 600000 by omega, show slots + 0 + 0 ≤ 7302250 by omega⟩ hl.1 (Nat.le_of_ble_eq_true rfl) d_law_486 rfl (fun r2 w2 H2 locs2 hp2 hB2 => ?_)
    obtain ⟨q2, rfl⟩ := hp2
    have heq := q1.trans q2.symm
    have hLI := hI
    refine wf_ceq (tgt := 1009) hx hb d_law_489 (by decide) rfl rfl (fun _ => ?_) (fun hne => absurd (congrArg Int32.toInt heq) hne)
    refine W.widen (k := cells + 1) (n := slots + 3) (by omega) (by omega) ?_
    exact K _ _ _ _ _ _ _ _ _ _ _ _ hLI hB2
set_option maxHeartbeats 4000000 in
set_option maxRecDepth 100000 in
theorem lw_c12 {l : Launch} {p : Program} {e : Env} {s : State} {m : MethodId} {below : List Frame} {meth : Method} {c : Code} {D : va_G} {t : Nat → ClassId} {nm : String} {ret0 : Option FieldType} {b L : Nat} {xs : Nat → Int32} {Q : State → Prop} {w : wf_W} {H : Heap} {locs : List Loc} {ls : Array Slot} {cells slots i : Nat} {C pa sa : Nat → Nat} {mo : Nat} {A : Nat → Nat} {k mn cz tz ca : Nat} {cl tl Sz En Nx : Nat → Nat} (X : Cx p s m meth c R_Law nm code 4 ret0 D t) (hX : va_X b L xs s s.heap) (hbl : b < s.heap.size) (hB : wf_B D wcl (fun q : Nat => s.heap.size ≤ q) s.heap w H locs) (hI : LI t w C pa sa mo A k mn cz tz ca cl tl Sz En Nx) (hl : lv_has ls 4 [(0, .ref b), (1, .ref (C 0)), (2, .ref mo), (3, .int (nI i))]) (hi : i + 3 < L) (hL : L ≤ 2049) (hcc : cells + 1 ≤ 600000 ∧ slots + 3 ≤ 7302250) (K : ∀ (w' : wf_W) (H' : Heap) (locs' : List Loc) (mn' cz' tz' ca' : Nat) (cl' tl' Sz' En' Nx' : Nat → Nat), LI t w' C pa sa mo A k mn' cz' tz' ca' cl' tl' Sz' En' Nx' → wf_B D wcl (fun q : Nat => s.heap.size ≤ q) s.heap w' H' locs' → W p l e room_1 s m #[Value.ref b] below meth c H' locs' (cells + 1) (slots + 3) Q (F0 m 1009 ls [])) : W p l e room_1 s m #[Value.ref b] below meth c H locs cells slots Q (F0 m 494 ls []) := by
  have hx := X.1
  have hb := X.2.1
  have hbA : ¬ (fun q : Nat => s.heap.size ≤ q) b := Nat.not_le.mpr hbl
  obtain ⟨i1, i2, i3, i4, i5, i6, i7, i8, i9, i10⟩ := id hI
  have hmn := i5.1
  by_cases hv : (0 ≤ (xs (i + 1)).toInt ∧ (xs (i + 1)).toInt < mn) ∧ (0 ≤ (xs (i + 2)).toInt ∧ (xs (i + 2)).toInt ≤ 100)
  · have e1 : xs (i + 1) = nI ((xs (i + 1)).toInt.toNat) := nat_of (hv.1.1)
    have e2 : xs (i + 2) = nI ((xs (i + 2)).toInt.toNat) := nat_of (hv.2.1)
    refine lv_aload_n hx hb d_law_494 rfl (lv_at hl 1 rfl) ?_
    refine lv_aload_n hx hb d_law_495 rfl (lv_at hl 0 rfl) ?_
    refine lv_iload_n hx hb d_law_496 rfl (lv_at hl 3 rfl) ?_
    refine lv_iconst (v := nI 1) hx hb d_law_497 (by decide) ?_
    refine wf_iadd (x := i) (y := 1) hx hb d_law_498 ?_
    refine lw_ld hx hb hX hbl hB hbA (n := i + 1) (by omega) hL d_law_499 ?_
    refine wf_ti (y := nI ((xs (i + 1)).toInt.toNat)) e1 ?_
    refine lv_aload_n hx hb d_law_500 rfl (lv_at hl 0 rfl) ?_
    refine lv_iload_n hx hb d_law_501 rfl (lv_at hl 3 rfl) ?_
    refine lv_iconst (v := nI 2) hx hb d_law_502 (by decide) ?_
    refine wf_iadd (x := i) (y := 2) hx hb d_law_503 ?_
    refine lw_ld hx hb hX hbl hB hbA (n := i + 2) (by omega) hL d_law_504 ?_
    refine wf_ti (y := nI ((xs (i + 2)).toInt.toNat)) e2 ?_
    refine callVi (As := [.int (nI ((xs (i + 1)).toInt.toNat)), .int (nI ((xs (i + 2)).toInt.toNat))]) (rest := []) X hB (fun _ h => h) (k_trim (l := l) (D := D) (sz := H.size)  i1 i4 i5 i6 i7 i8 i9 (by omega) (by omega)) k_674 k_675 k_676 k_64 k_677 i9.1 cl_TM rfl hd_TM_trim ⟨Nat.le_of_ble_eq_true rfl, Nat.le_of_ble_eq_true rfl⟩ ⟨show cells + 0 ≤ 600000 by omega, show slots + 0 ≤ 7302250 by omega⟩ hl.1 (Nat.le_of_ble_eq_true rfl) d_law_505 rfl (fun r1 w1 H1 locs1 hp1 hB1 => ?_)
    obtain ⟨mn1, Sz1, En1, Nx1, ca1, o1, hC1, hf1⟩ := hp1
    have hR1 := RSt_C i3 hf1 i10
    obtain ⟨pz9, wy9, fi9, se9, ho9, lx9, ly9, ts9, tS9, cs9, av9, lz9, hz19, nl9, nh9, ce9, qd9, gmo⟩ := hR1.1
    refine lv_aload_n hx hb d_law_508 rfl (lv_at hl 2 rfl) ?_
    refine lv_aload_n hx hb d_law_509 rfl (lv_at hl 0 rfl) ?_
    refine lv_iload_n hx hb d_law_510 rfl (lv_at hl 3 rfl) ?_
    refine lv_iconst (v := nI 1) hx hb d_law_511 (by decide) ?_
    refine wf_iadd (x := i) (y := 1) hx hb d_law_512 ?_
    refine lw_ld hx hb hX hbl hB1 hbA (n := i + 1) (by omega) hL d_law_513 ?_
    refine wf_ti (y := nI ((xs (i + 1)).toInt.toNat)) e1 ?_
    refine lv_aload_n hx hb d_law_514 rfl (lv_at hl 0 rfl) ?_
    refine lv_iload_n hx hb d_law_515 rfl (lv_at hl 3 rfl) ?_
    refine lv_iconst (v := nI 2) hx hb d_law_516 (by decide) ?_
    refine wf_iadd (x := i) (y := 2) hx hb d_law_517 ?_
    refine lw_ld hx hb hX hbl hB1 hbA (n := i + 2) (by omega) hL d_law_518 ?_
    refine wf_ti (y := nI ((xs (i + 2)).toInt.toNat)) e2 ?_
    refine callVi (As := [.int (nI ((xs (i + 1)).toInt.toNat)), .int (nI ((xs (i + 2)).toInt.toNat))]) (rest := [.int r1]) X hB1 (fun _ h => h) (r_trim (l := l) (D := D) (sz := H1.size)  i2 i4 i5 i6 i7 i8 hR1 (by omega) (by omega)) k_1087 k_1088 k_1089 k_75 k_1090 gmo cl_Ref rfl hd_Ref_trim ⟨Nat.le_of_ble_eq_true rfl, Nat.le_of_ble_eq_true rfl⟩ ⟨show cells + 0 + 0 ≤ 600000 by omega, show slots + 0 + 0 ≤ 7302250 by omega⟩ hl.1 (Nat.le_of_ble_eq_true rfl) d_law_519 rfl (fun r2 w2 H2 locs2 hp2 hB2 => ?_)
    obtain ⟨mn2, Sz2, En2, Nx2, ca2, o2, hR2, hf2⟩ := hp2
    have hdet := det_K i4 i5 o1 o2
    have heq := hdet.1
    have hLI := LI_mk hI hC1 hf2 hR2 hdet
    refine wf_ceq (tgt := 1009) hx hb d_law_522 (by decide) rfl rfl (fun _ => ?_) (fun hne => absurd (congrArg Int32.toInt heq) hne)
    refine W.widen (k := cells + 1) (n := slots + 3) (by omega) (by omega) ?_
    exact K _ _ _ _ _ _ _ _ _ _ _ _ hLI hB2
  · refine lv_aload_n hx hb d_law_494 rfl (lv_at hl 1 rfl) ?_
    refine lv_aload_n hx hb d_law_495 rfl (lv_at hl 0 rfl) ?_
    refine lv_iload_n hx hb d_law_496 rfl (lv_at hl 3 rfl) ?_
    refine lv_iconst (v := nI 1) hx hb d_law_497 (by decide) ?_
    refine wf_iadd (x := i) (y := 1) hx hb d_law_498 ?_
    refine lw_ld hx hb hX hbl hB hbA (n := i + 1) (by omega) hL d_law_499 ?_
    refine lv_aload_n hx hb d_law_500 rfl (lv_at hl 0 rfl) ?_
    refine lv_iload_n hx hb d_law_501 rfl (lv_at hl 3 rfl) ?_
    refine lv_iconst (v := nI 2) hx hb d_law_502 (by decide) ?_
    refine wf_iadd (x := i) (y := 2) hx hb d_law_503 ?_
    refine lw_ld hx hb hX hbl hB hbA (n := i + 2) (by omega) hL d_law_504 ?_
    refine callVi (As := [.int (xs (i + 1)), .int (xs (i + 2))]) (rest := []) X hB (fun _ h => h) (k_trimb (l := l) (D := D) (sz := H.size)  i1 i4 i5 i6 i7 i8 i9 hv) k_674 k_675 k_676 k_64 k_677 i9.1 cl_TM rfl hd_TM_trim ⟨Nat.le_of_ble_eq_true rfl, Nat.le_of_ble_eq_true rfl⟩ ⟨show cells + 0 ≤ 600000 by omega, show slots + 0 ≤ 7302250 by omega⟩ hl.1 (Nat.le_of_ble_eq_true rfl) d_law_505 rfl (fun r1 w1 H1 locs1 hp1 hB1 => ?_)
    obtain ⟨q1, rfl⟩ := hp1
    have hR1 := i10
    obtain ⟨pz9, wy9, fi9, se9, ho9, lx9, ly9, ts9, tS9, cs9, av9, lz9, hz19, nl9, nh9, ce9, qd9, gmo⟩ := hR1.1
    refine lv_aload_n hx hb d_law_508 rfl (lv_at hl 2 rfl) ?_
    refine lv_aload_n hx hb d_law_509 rfl (lv_at hl 0 rfl) ?_
    refine lv_iload_n hx hb d_law_510 rfl (lv_at hl 3 rfl) ?_
    refine lv_iconst (v := nI 1) hx hb d_law_511 (by decide) ?_
    refine wf_iadd (x := i) (y := 1) hx hb d_law_512 ?_
    refine lw_ld hx hb hX hbl hB1 hbA (n := i + 1) (by omega) hL d_law_513 ?_
    refine lv_aload_n hx hb d_law_514 rfl (lv_at hl 0 rfl) ?_
    refine lv_iload_n hx hb d_law_515 rfl (lv_at hl 3 rfl) ?_
    refine lv_iconst (v := nI 2) hx hb d_law_516 (by decide) ?_
    refine wf_iadd (x := i) (y := 2) hx hb d_law_517 ?_
    refine lw_ld hx hb hX hbl hB1 hbA (n := i + 2) (by omega) hL d_law_518 ?_
    refine callVi (As := [.int (xs (i + 1)), .int (xs (i + 2))]) (rest := [.int r1]) X hB1 (fun _ h => h) (r_trimb (l := l) (D := D) (sz := H1.size)  i2 i4 i5 i6 i7 i8 hR1 hv) k_1087 k_1088 k_1089 k_75 k_1090 gmo cl_Ref rfl hd_Ref_trim ⟨Nat.le_of_ble_eq_true rfl, Nat.le_of_ble_eq_true rfl⟩ ⟨show cells + 0 + 0 ≤ 600000 by omega, show slots + 0 + 0 ≤ 7302250 by omega⟩ hl.1 (Nat.le_of_ble_eq_true rfl) d_law_519 rfl (fun r2 w2 H2 locs2 hp2 hB2 => ?_)
    obtain ⟨q2, rfl⟩ := hp2
    have heq := q1.trans q2.symm
    have hLI := hI
    refine wf_ceq (tgt := 1009) hx hb d_law_522 (by decide) rfl rfl (fun _ => ?_) (fun hne => absurd (congrArg Int32.toInt heq) hne)
    refine W.widen (k := cells + 1) (n := slots + 3) (by omega) (by omega) ?_
    exact K _ _ _ _ _ _ _ _ _ _ _ _ hLI hB2
set_option maxHeartbeats 4000000 in
set_option maxRecDepth 100000 in
theorem lw_c13 {l : Launch} {p : Program} {e : Env} {s : State} {m : MethodId} {below : List Frame} {meth : Method} {c : Code} {D : va_G} {t : Nat → ClassId} {nm : String} {ret0 : Option FieldType} {b L : Nat} {xs : Nat → Int32} {Q : State → Prop} {w : wf_W} {H : Heap} {locs : List Loc} {ls : Array Slot} {cells slots i : Nat} {C pa sa : Nat → Nat} {mo : Nat} {A : Nat → Nat} {k mn cz tz ca : Nat} {cl tl Sz En Nx : Nat → Nat} (X : Cx p s m meth c R_Law nm code 4 ret0 D t) (hX : va_X b L xs s s.heap) (hbl : b < s.heap.size) (hB : wf_B D wcl (fun q : Nat => s.heap.size ≤ q) s.heap w H locs) (hI : LI t w C pa sa mo A k mn cz tz ca cl tl Sz En Nx) (hl : lv_has ls 4 [(0, .ref b), (1, .ref (C 0)), (2, .ref mo), (3, .int (nI i))]) (hi : i + 3 < L) (hL : L ≤ 2049) (hcc : cells + 1 ≤ 600000 ∧ slots + 3 ≤ 7302250) (K : ∀ (w' : wf_W) (H' : Heap) (locs' : List Loc) (mn' cz' tz' ca' : Nat) (cl' tl' Sz' En' Nx' : Nat → Nat), LI t w' C pa sa mo A k mn' cz' tz' ca' cl' tl' Sz' En' Nx' → wf_B D wcl (fun q : Nat => s.heap.size ≤ q) s.heap w' H' locs' → W p l e room_1 s m #[Value.ref b] below meth c H' locs' (cells + 1) (slots + 3) Q (F0 m 1009 ls [])) : W p l e room_1 s m #[Value.ref b] below meth c H locs cells slots Q (F0 m 527 ls []) := by
  have hx := X.1
  have hb := X.2.1
  have hbA : ¬ (fun q : Nat => s.heap.size ≤ q) b := Nat.not_le.mpr hbl
  obtain ⟨i1, i2, i3, i4, i5, i6, i7, i8, i9, i10⟩ := id hI
  have hmn := i5.1
  by_cases hv : (0 ≤ (xs (i + 1)).toInt ∧ (xs (i + 1)).toInt < mn) ∧ (0 ≤ (xs (i + 2)).toInt ∧ (xs (i + 2)).toInt ≤ 2)
  · rcases (show (xs (i + 2)).toInt = 0 ∨ (xs (i + 2)).toInt = 1 ∨ (xs (i + 2)).toInt = 2 by omega) with hs | hs | hs
    · have e1 : xs (i + 1) = nI ((xs (i + 1)).toInt.toNat) := nat_of (hv.1.1)
      have e2 : xs (i + 2) = nI 0 := (nat_of hv.2.1).trans (congrArg nI (by omega))
      refine lv_aload_n hx hb d_law_527 rfl (lv_at hl 1 rfl) ?_
      refine lv_aload_n hx hb d_law_528 rfl (lv_at hl 0 rfl) ?_
      refine lv_iload_n hx hb d_law_529 rfl (lv_at hl 3 rfl) ?_
      refine lv_iconst (v := nI 1) hx hb d_law_530 (by decide) ?_
      refine wf_iadd (x := i) (y := 1) hx hb d_law_531 ?_
      refine lw_ld hx hb hX hbl hB hbA (n := i + 1) (by omega) hL d_law_532 ?_
      refine wf_ti (y := nI ((xs (i + 1)).toInt.toNat)) e1 ?_
      refine lv_aload_n hx hb d_law_533 rfl (lv_at hl 0 rfl) ?_
      refine lv_iload_n hx hb d_law_534 rfl (lv_at hl 3 rfl) ?_
      refine lv_iconst (v := nI 2) hx hb d_law_535 (by decide) ?_
      refine wf_iadd (x := i) (y := 2) hx hb d_law_536 ?_
      refine lw_ld hx hb hX hbl hB hbA (n := i + 2) (by omega) hL d_law_537 ?_
      refine wf_ti (y := nI 0) e2 ?_
      refine callVi (As := [.int (nI ((xs (i + 1)).toInt.toNat)), .int (nI 0)]) (rest := []) X hB (fun _ h => h) (k_part0 (l := l) (D := D) (sz := H.size)  i1 i4 i5 i6 i7 i8 i9 (by omega)) k_696 k_697 k_698 k_64 k_699 i9.1 cl_TM rfl hd_TM_part ⟨Nat.le_of_ble_eq_true rfl, Nat.le_of_ble_eq_true rfl⟩ ⟨show cells + 0 ≤ 600000 by omega, show slots + 0 ≤ 7302250 by omega⟩ hl.1 (Nat.le_of_ble_eq_true rfl) d_law_538 rfl (fun r1 w1 H1 locs1 hp1 hB1 => ?_)
      obtain ⟨mn1, Sz1, En1, Nx1, ca1, o1, hC1, hf1⟩ := hp1
      have hR1 := RSt_C i3 hf1 i10
      obtain ⟨pz9, wy9, fi9, se9, ho9, lx9, ly9, ts9, tS9, cs9, av9, lz9, hz19, nl9, nh9, ce9, qd9, gmo⟩ := hR1.1
      refine lv_aload_n hx hb d_law_541 rfl (lv_at hl 2 rfl) ?_
      refine lv_aload_n hx hb d_law_542 rfl (lv_at hl 0 rfl) ?_
      refine lv_iload_n hx hb d_law_543 rfl (lv_at hl 3 rfl) ?_
      refine lv_iconst (v := nI 1) hx hb d_law_544 (by decide) ?_
      refine wf_iadd (x := i) (y := 1) hx hb d_law_545 ?_
      refine lw_ld hx hb hX hbl hB1 hbA (n := i + 1) (by omega) hL d_law_546 ?_
      refine wf_ti (y := nI ((xs (i + 1)).toInt.toNat)) e1 ?_
      refine lv_aload_n hx hb d_law_547 rfl (lv_at hl 0 rfl) ?_
      refine lv_iload_n hx hb d_law_548 rfl (lv_at hl 3 rfl) ?_
      refine lv_iconst (v := nI 2) hx hb d_law_549 (by decide) ?_
      refine wf_iadd (x := i) (y := 2) hx hb d_law_550 ?_
      refine lw_ld hx hb hX hbl hB1 hbA (n := i + 2) (by omega) hL d_law_551 ?_
      refine wf_ti (y := nI 0) e2 ?_
      refine callVi (As := [.int (nI ((xs (i + 1)).toInt.toNat)), .int (nI 0)]) (rest := [.int r1]) X hB1 (fun _ h => h) (r_part0 (l := l) (D := D) (sz := H1.size)  i2 i4 i5 i6 i7 i8 hR1 (by omega)) k_1180 k_1181 k_1182 k_75 k_1183 gmo cl_Ref rfl hd_Ref_part ⟨Nat.le_of_ble_eq_true rfl, Nat.le_of_ble_eq_true rfl⟩ ⟨show cells + 0 + 0 ≤ 600000 by omega, show slots + 0 + 0 ≤ 7302250 by omega⟩ hl.1 (Nat.le_of_ble_eq_true rfl) d_law_552 rfl (fun r2 w2 H2 locs2 hp2 hB2 => ?_)
      obtain ⟨mn2, Sz2, En2, Nx2, ca2, o2, hR2, hf2⟩ := hp2
      have hdet := det_K i4 i5 o1 o2
      have heq := hdet.1
      have hLI := LI_mk hI hC1 hf2 hR2 hdet
      refine wf_ceq (tgt := 1009) hx hb d_law_555 (by decide) rfl rfl (fun _ => ?_) (fun hne => absurd (congrArg Int32.toInt heq) hne)
      refine W.widen (k := cells + 1) (n := slots + 3) (by omega) (by omega) ?_
      exact K _ _ _ _ _ _ _ _ _ _ _ _ hLI hB2
    · have e1 : xs (i + 1) = nI ((xs (i + 1)).toInt.toNat) := nat_of (hv.1.1)
      have e2 : xs (i + 2) = nI 1 := (nat_of hv.2.1).trans (congrArg nI (by omega))
      refine lv_aload_n hx hb d_law_527 rfl (lv_at hl 1 rfl) ?_
      refine lv_aload_n hx hb d_law_528 rfl (lv_at hl 0 rfl) ?_
      refine lv_iload_n hx hb d_law_529 rfl (lv_at hl 3 rfl) ?_
      refine lv_iconst (v := nI 1) hx hb d_law_530 (by decide) ?_
      refine wf_iadd (x := i) (y := 1) hx hb d_law_531 ?_
      refine lw_ld hx hb hX hbl hB hbA (n := i + 1) (by omega) hL d_law_532 ?_
      refine wf_ti (y := nI ((xs (i + 1)).toInt.toNat)) e1 ?_
      refine lv_aload_n hx hb d_law_533 rfl (lv_at hl 0 rfl) ?_
      refine lv_iload_n hx hb d_law_534 rfl (lv_at hl 3 rfl) ?_
      refine lv_iconst (v := nI 2) hx hb d_law_535 (by decide) ?_
      refine wf_iadd (x := i) (y := 2) hx hb d_law_536 ?_
      refine lw_ld hx hb hX hbl hB hbA (n := i + 2) (by omega) hL d_law_537 ?_
      refine wf_ti (y := nI 1) e2 ?_
      refine callVi (As := [.int (nI ((xs (i + 1)).toInt.toNat)), .int (nI 1)]) (rest := []) X hB (fun _ h => h) (k_part1 (l := l) (D := D) (sz := H.size)  i1 i4 i5 i6 i7 i8 i9 (by omega)) k_696 k_697 k_698 k_64 k_699 i9.1 cl_TM rfl hd_TM_part ⟨Nat.le_of_ble_eq_true rfl, Nat.le_of_ble_eq_true rfl⟩ ⟨show cells + 0 ≤ 600000 by omega, show slots + 0 ≤ 7302250 by omega⟩ hl.1 (Nat.le_of_ble_eq_true rfl) d_law_538 rfl (fun r1 w1 H1 locs1 hp1 hB1 => ?_)
      obtain ⟨mn1, Sz1, En1, Nx1, ca1, o1, hC1, hf1⟩ := hp1
      have hR1 := RSt_C i3 hf1 i10
      obtain ⟨pz9, wy9, fi9, se9, ho9, lx9, ly9, ts9, tS9, cs9, av9, lz9, hz19, nl9, nh9, ce9, qd9, gmo⟩ := hR1.1
      refine lv_aload_n hx hb d_law_541 rfl (lv_at hl 2 rfl) ?_
      refine lv_aload_n hx hb d_law_542 rfl (lv_at hl 0 rfl) ?_
      refine lv_iload_n hx hb d_law_543 rfl (lv_at hl 3 rfl) ?_
      refine lv_iconst (v := nI 1) hx hb d_law_544 (by decide) ?_
      refine wf_iadd (x := i) (y := 1) hx hb d_law_545 ?_
      refine lw_ld hx hb hX hbl hB1 hbA (n := i + 1) (by omega) hL d_law_546 ?_
      refine wf_ti (y := nI ((xs (i + 1)).toInt.toNat)) e1 ?_
      refine lv_aload_n hx hb d_law_547 rfl (lv_at hl 0 rfl) ?_
      refine lv_iload_n hx hb d_law_548 rfl (lv_at hl 3 rfl) ?_
      refine lv_iconst (v := nI 2) hx hb d_law_549 (by decide) ?_
      refine wf_iadd (x := i) (y := 2) hx hb d_law_550 ?_
      refine lw_ld hx hb hX hbl hB1 hbA (n := i + 2) (by omega) hL d_law_551 ?_
      refine wf_ti (y := nI 1) e2 ?_
      refine callVi (As := [.int (nI ((xs (i + 1)).toInt.toNat)), .int (nI 1)]) (rest := [.int r1]) X hB1 (fun _ h => h) (r_part1 (l := l) (D := D) (sz := H1.size)  i2 i4 i5 i6 i7 i8 hR1 (by omega)) k_1180 k_1181 k_1182 k_75 k_1183 gmo cl_Ref rfl hd_Ref_part ⟨Nat.le_of_ble_eq_true rfl, Nat.le_of_ble_eq_true rfl⟩ ⟨show cells + 0 + 0 ≤ 600000 by omega, show slots + 0 + 0 ≤ 7302250 by omega⟩ hl.1 (Nat.le_of_ble_eq_true rfl) d_law_552 rfl (fun r2 w2 H2 locs2 hp2 hB2 => ?_)
      obtain ⟨mn2, Sz2, En2, Nx2, ca2, o2, hR2, hf2⟩ := hp2
      have hdet := det_X i4 i5 o1 o2
      have heq := hdet.1
      have hLI := LI_mk hI hC1 hf2 hR2 hdet
      refine wf_ceq (tgt := 1009) hx hb d_law_555 (by decide) rfl rfl (fun _ => ?_) (fun hne => absurd (congrArg Int32.toInt heq) hne)
      refine W.widen (k := cells + 1) (n := slots + 3) (by omega) (by omega) ?_
      exact K _ _ _ _ _ _ _ _ _ _ _ _ hLI hB2
    · have e1 : xs (i + 1) = nI ((xs (i + 1)).toInt.toNat) := nat_of (hv.1.1)
      have e2 : xs (i + 2) = nI 2 := (nat_of hv.2.1).trans (congrArg nI (by omega))
      refine lv_aload_n hx hb d_law_527 rfl (lv_at hl 1 rfl) ?_
      refine lv_aload_n hx hb d_law_528 rfl (lv_at hl 0 rfl) ?_
      refine lv_iload_n hx hb d_law_529 rfl (lv_at hl 3 rfl) ?_
      refine lv_iconst (v := nI 1) hx hb d_law_530 (by decide) ?_
      refine wf_iadd (x := i) (y := 1) hx hb d_law_531 ?_
      refine lw_ld hx hb hX hbl hB hbA (n := i + 1) (by omega) hL d_law_532 ?_
      refine wf_ti (y := nI ((xs (i + 1)).toInt.toNat)) e1 ?_
      refine lv_aload_n hx hb d_law_533 rfl (lv_at hl 0 rfl) ?_
      refine lv_iload_n hx hb d_law_534 rfl (lv_at hl 3 rfl) ?_
      refine lv_iconst (v := nI 2) hx hb d_law_535 (by decide) ?_
      refine wf_iadd (x := i) (y := 2) hx hb d_law_536 ?_
      refine lw_ld hx hb hX hbl hB hbA (n := i + 2) (by omega) hL d_law_537 ?_
      refine wf_ti (y := nI 2) e2 ?_
      refine callVi (As := [.int (nI ((xs (i + 1)).toInt.toNat)), .int (nI 2)]) (rest := []) X hB (fun _ h => h) (k_part2 (l := l) (D := D) (sz := H.size)  i1 i4 i5 i6 i7 i8 i9 (by omega)) k_696 k_697 k_698 k_64 k_699 i9.1 cl_TM rfl hd_TM_part ⟨Nat.le_of_ble_eq_true rfl, Nat.le_of_ble_eq_true rfl⟩ ⟨show cells + 0 ≤ 600000 by omega, show slots + 0 ≤ 7302250 by omega⟩ hl.1 (Nat.le_of_ble_eq_true rfl) d_law_538 rfl (fun r1 w1 H1 locs1 hp1 hB1 => ?_)
      obtain ⟨mn1, Sz1, En1, Nx1, ca1, o1, hC1, hf1⟩ := hp1
      have hR1 := RSt_C i3 hf1 i10
      obtain ⟨pz9, wy9, fi9, se9, ho9, lx9, ly9, ts9, tS9, cs9, av9, lz9, hz19, nl9, nh9, ce9, qd9, gmo⟩ := hR1.1
      refine lv_aload_n hx hb d_law_541 rfl (lv_at hl 2 rfl) ?_
      refine lv_aload_n hx hb d_law_542 rfl (lv_at hl 0 rfl) ?_
      refine lv_iload_n hx hb d_law_543 rfl (lv_at hl 3 rfl) ?_
      refine lv_iconst (v := nI 1) hx hb d_law_544 (by decide) ?_
      refine wf_iadd (x := i) (y := 1) hx hb d_law_545 ?_
      refine lw_ld hx hb hX hbl hB1 hbA (n := i + 1) (by omega) hL d_law_546 ?_
      refine wf_ti (y := nI ((xs (i + 1)).toInt.toNat)) e1 ?_
      refine lv_aload_n hx hb d_law_547 rfl (lv_at hl 0 rfl) ?_
      refine lv_iload_n hx hb d_law_548 rfl (lv_at hl 3 rfl) ?_
      refine lv_iconst (v := nI 2) hx hb d_law_549 (by decide) ?_
      refine wf_iadd (x := i) (y := 2) hx hb d_law_550 ?_
      refine lw_ld hx hb hX hbl hB1 hbA (n := i + 2) (by omega) hL d_law_551 ?_
      refine wf_ti (y := nI 2) e2 ?_
      refine callVi (As := [.int (nI ((xs (i + 1)).toInt.toNat)), .int (nI 2)]) (rest := [.int r1]) X hB1 (fun _ h => h) (r_part2 (l := l) (D := D) (sz := H1.size)  i2 i4 i5 i6 i7 i8 hR1 (by omega)) k_1180 k_1181 k_1182 k_75 k_1183 gmo cl_Ref rfl hd_Ref_part ⟨Nat.le_of_ble_eq_true rfl, Nat.le_of_ble_eq_true rfl⟩ ⟨show cells + 0 + 0 ≤ 600000 by omega, show slots + 0 + 0 ≤ 7302250 by omega⟩ hl.1 (Nat.le_of_ble_eq_true rfl) d_law_552 rfl (fun r2 w2 H2 locs2 hp2 hB2 => ?_)
      obtain ⟨mn2, Sz2, En2, Nx2, ca2, o2, hR2, hf2⟩ := hp2
      have hdet := det_X i4 i5 o1 o2
      have heq := hdet.1
      have hLI := LI_mk hI hC1 hf2 hR2 hdet
      refine wf_ceq (tgt := 1009) hx hb d_law_555 (by decide) rfl rfl (fun _ => ?_) (fun hne => absurd (congrArg Int32.toInt heq) hne)
      refine W.widen (k := cells + 1) (n := slots + 3) (by omega) (by omega) ?_
      exact K _ _ _ _ _ _ _ _ _ _ _ _ hLI hB2
  · refine lv_aload_n hx hb d_law_527 rfl (lv_at hl 1 rfl) ?_
    refine lv_aload_n hx hb d_law_528 rfl (lv_at hl 0 rfl) ?_
    refine lv_iload_n hx hb d_law_529 rfl (lv_at hl 3 rfl) ?_
    refine lv_iconst (v := nI 1) hx hb d_law_530 (by decide) ?_
    refine wf_iadd (x := i) (y := 1) hx hb d_law_531 ?_
    refine lw_ld hx hb hX hbl hB hbA (n := i + 1) (by omega) hL d_law_532 ?_
    refine lv_aload_n hx hb d_law_533 rfl (lv_at hl 0 rfl) ?_
    refine lv_iload_n hx hb d_law_534 rfl (lv_at hl 3 rfl) ?_
    refine lv_iconst (v := nI 2) hx hb d_law_535 (by decide) ?_
    refine wf_iadd (x := i) (y := 2) hx hb d_law_536 ?_
    refine lw_ld hx hb hX hbl hB hbA (n := i + 2) (by omega) hL d_law_537 ?_
    refine callVi (As := [.int (xs (i + 1)), .int (xs (i + 2))]) (rest := []) X hB (fun _ h => h) (k_partb (l := l) (D := D) (sz := H.size)  i1 i4 i5 i6 i7 i8 i9 hv) k_696 k_697 k_698 k_64 k_699 i9.1 cl_TM rfl hd_TM_part ⟨Nat.le_of_ble_eq_true rfl, Nat.le_of_ble_eq_true rfl⟩ ⟨show cells + 0 ≤ 600000 by omega, show slots + 0 ≤ 7302250 by omega⟩ hl.1 (Nat.le_of_ble_eq_true rfl) d_law_538 rfl (fun r1 w1 H1 locs1 hp1 hB1 => ?_)
    obtain ⟨q1, rfl⟩ := hp1
    have hR1 := i10
    obtain ⟨pz9, wy9, fi9, se9, ho9, lx9, ly9, ts9, tS9, cs9, av9, lz9, hz19, nl9, nh9, ce9, qd9, gmo⟩ := hR1.1
    refine lv_aload_n hx hb d_law_541 rfl (lv_at hl 2 rfl) ?_
    refine lv_aload_n hx hb d_law_542 rfl (lv_at hl 0 rfl) ?_
    refine lv_iload_n hx hb d_law_543 rfl (lv_at hl 3 rfl) ?_
    refine lv_iconst (v := nI 1) hx hb d_law_544 (by decide) ?_
    refine wf_iadd (x := i) (y := 1) hx hb d_law_545 ?_
    refine lw_ld hx hb hX hbl hB1 hbA (n := i + 1) (by omega) hL d_law_546 ?_
    refine lv_aload_n hx hb d_law_547 rfl (lv_at hl 0 rfl) ?_
    refine lv_iload_n hx hb d_law_548 rfl (lv_at hl 3 rfl) ?_
    refine lv_iconst (v := nI 2) hx hb d_law_549 (by decide) ?_
    refine wf_iadd (x := i) (y := 2) hx hb d_law_550 ?_
    refine lw_ld hx hb hX hbl hB1 hbA (n := i + 2) (by omega) hL d_law_551 ?_
    refine callVi (As := [.int (xs (i + 1)), .int (xs (i + 2))]) (rest := [.int r1]) X hB1 (fun _ h => h) (r_partb (l := l) (D := D) (sz := H1.size)  i2 i4 i5 i6 i7 i8 hR1 hv) k_1180 k_1181 k_1182 k_75 k_1183 gmo cl_Ref rfl hd_Ref_part ⟨Nat.le_of_ble_eq_true rfl, Nat.le_of_ble_eq_true rfl⟩ ⟨show cells + 0 + 0 ≤ 600000 by omega, show slots + 0 + 0 ≤ 7302250 by omega⟩ hl.1 (Nat.le_of_ble_eq_true rfl) d_law_552 rfl (fun r2 w2 H2 locs2 hp2 hB2 => ?_)
    obtain ⟨q2, rfl⟩ := hp2
    have heq := q1.trans q2.symm
    have hLI := hI
    refine wf_ceq (tgt := 1009) hx hb d_law_555 (by decide) rfl rfl (fun _ => ?_) (fun hne => absurd (congrArg Int32.toInt heq) hne)
    refine W.widen (k := cells + 1) (n := slots + 3) (by omega) (by omega) ?_
    exact K _ _ _ _ _ _ _ _ _ _ _ _ hLI hB2
set_option maxHeartbeats 4000000 in
set_option maxRecDepth 100000 in
theorem lw_c14 {l : Launch} {p : Program} {e : Env} {s : State} {m : MethodId} {below : List Frame} {meth : Method} {c : Code} {D : va_G} {t : Nat → ClassId} {nm : String} {ret0 : Option FieldType} {b L : Nat} {xs : Nat → Int32} {Q : State → Prop} {w : wf_W} {H : Heap} {locs : List Loc} {ls : Array Slot} {cells slots i : Nat} {C pa sa : Nat → Nat} {mo : Nat} {A : Nat → Nat} {k mn cz tz ca : Nat} {cl tl Sz En Nx : Nat → Nat} (X : Cx p s m meth c R_Law nm code 4 ret0 D t) (hX : va_X b L xs s s.heap) (hbl : b < s.heap.size) (hB : wf_B D wcl (fun q : Nat => s.heap.size ≤ q) s.heap w H locs) (hI : LI t w C pa sa mo A k mn cz tz ca cl tl Sz En Nx) (hl : lv_has ls 4 [(0, .ref b), (1, .ref (C 0)), (2, .ref mo), (3, .int (nI i))]) (hi : i + 3 < L) (hL : L ≤ 2049) (hcc : cells + 1 ≤ 600000 ∧ slots + 3 ≤ 7302250) (K : ∀ (w' : wf_W) (H' : Heap) (locs' : List Loc) (mn' cz' tz' ca' : Nat) (cl' tl' Sz' En' Nx' : Nat → Nat), LI t w' C pa sa mo A k mn' cz' tz' ca' cl' tl' Sz' En' Nx' → wf_B D wcl (fun q : Nat => s.heap.size ≤ q) s.heap w' H' locs' → W p l e room_1 s m #[Value.ref b] below meth c H' locs' (cells + 1) (slots + 3) Q (F0 m 1009 ls [])) : W p l e room_1 s m #[Value.ref b] below meth c H locs cells slots Q (F0 m 560 ls []) := by
  have hx := X.1
  have hb := X.2.1
  have hbA : ¬ (fun q : Nat => s.heap.size ≤ q) b := Nat.not_le.mpr hbl
  obtain ⟨i1, i2, i3, i4, i5, i6, i7, i8, i9, i10⟩ := id hI
  have hmn := i5.1
  by_cases hv : (0 ≤ (xs (i + 1)).toInt ∧ (xs (i + 1)).toInt < mn) ∧ (0 ≤ (xs (i + 2)).toInt ∧ (xs (i + 2)).toInt ≤ 40)
  · have e1 : xs (i + 1) = nI ((xs (i + 1)).toInt.toNat) := nat_of (hv.1.1)
    have e2 : xs (i + 2) = nI ((xs (i + 2)).toInt.toNat) := nat_of (hv.2.1)
    refine lv_aload_n hx hb d_law_560 rfl (lv_at hl 1 rfl) ?_
    refine lv_aload_n hx hb d_law_561 rfl (lv_at hl 0 rfl) ?_
    refine lv_iload_n hx hb d_law_562 rfl (lv_at hl 3 rfl) ?_
    refine lv_iconst (v := nI 1) hx hb d_law_563 (by decide) ?_
    refine wf_iadd (x := i) (y := 1) hx hb d_law_564 ?_
    refine lw_ld hx hb hX hbl hB hbA (n := i + 1) (by omega) hL d_law_565 ?_
    refine wf_ti (y := nI ((xs (i + 1)).toInt.toNat)) e1 ?_
    refine lv_aload_n hx hb d_law_566 rfl (lv_at hl 0 rfl) ?_
    refine lv_iload_n hx hb d_law_567 rfl (lv_at hl 3 rfl) ?_
    refine lv_iconst (v := nI 2) hx hb d_law_568 (by decide) ?_
    refine wf_iadd (x := i) (y := 2) hx hb d_law_569 ?_
    refine lw_ld hx hb hX hbl hB hbA (n := i + 2) (by omega) hL d_law_570 ?_
    refine wf_ti (y := nI ((xs (i + 2)).toInt.toNat)) e2 ?_
    refine callVi (As := [.int (nI ((xs (i + 1)).toInt.toNat)), .int (nI ((xs (i + 2)).toInt.toNat))]) (rest := []) X hB (fun _ h => h) (k_widen (l := l) (D := D) (sz := H.size)  i1 i4 i5 i6 i7 i8 i9 (by omega) (by omega)) k_709 k_710 k_711 k_64 k_712 i9.1 cl_TM rfl hd_TM_widen ⟨Nat.le_of_ble_eq_true rfl, Nat.le_of_ble_eq_true rfl⟩ ⟨show cells + 0 ≤ 600000 by omega, show slots + 0 ≤ 7302250 by omega⟩ hl.1 (Nat.le_of_ble_eq_true rfl) d_law_571 rfl (fun r1 w1 H1 locs1 hp1 hB1 => ?_)
    obtain ⟨mn1, Sz1, En1, Nx1, ca1, o1, hC1, hf1⟩ := hp1
    have hR1 := RSt_C i3 hf1 i10
    obtain ⟨pz9, wy9, fi9, se9, ho9, lx9, ly9, ts9, tS9, cs9, av9, lz9, hz19, nl9, nh9, ce9, qd9, gmo⟩ := hR1.1
    refine lv_aload_n hx hb d_law_574 rfl (lv_at hl 2 rfl) ?_
    refine lv_aload_n hx hb d_law_575 rfl (lv_at hl 0 rfl) ?_
    refine lv_iload_n hx hb d_law_576 rfl (lv_at hl 3 rfl) ?_
    refine lv_iconst (v := nI 1) hx hb d_law_577 (by decide) ?_
    refine wf_iadd (x := i) (y := 1) hx hb d_law_578 ?_
    refine lw_ld hx hb hX hbl hB1 hbA (n := i + 1) (by omega) hL d_law_579 ?_
    refine wf_ti (y := nI ((xs (i + 1)).toInt.toNat)) e1 ?_
    refine lv_aload_n hx hb d_law_580 rfl (lv_at hl 0 rfl) ?_
    refine lv_iload_n hx hb d_law_581 rfl (lv_at hl 3 rfl) ?_
    refine lv_iconst (v := nI 2) hx hb d_law_582 (by decide) ?_
    refine wf_iadd (x := i) (y := 2) hx hb d_law_583 ?_
    refine lw_ld hx hb hX hbl hB1 hbA (n := i + 2) (by omega) hL d_law_584 ?_
    refine wf_ti (y := nI ((xs (i + 2)).toInt.toNat)) e2 ?_
    refine callVi (As := [.int (nI ((xs (i + 1)).toInt.toNat)), .int (nI ((xs (i + 2)).toInt.toNat))]) (rest := [.int r1]) X hB1 (fun _ h => h) (r_widen (l := l) (D := D) (sz := H1.size)  i2 i4 i5 i6 i7 i8 hR1 (by omega) (by omega)) k_1188 k_1189 k_1190 k_75 k_1191 gmo cl_Ref rfl hd_Ref_widen ⟨Nat.le_of_ble_eq_true rfl, Nat.le_of_ble_eq_true rfl⟩ ⟨show cells + 0 + 0 ≤ 600000 by omega, show slots + 0 + 0 ≤ 7302250 by omega⟩ hl.1 (Nat.le_of_ble_eq_true rfl) d_law_585 rfl (fun r2 w2 H2 locs2 hp2 hB2 => ?_)
    obtain ⟨mn2, Sz2, En2, Nx2, ca2, o2, hR2, hf2⟩ := hp2
    have hdet := det_X i4 i5 o1 o2
    have heq := hdet.1
    have hLI := LI_mk hI hC1 hf2 hR2 hdet
    refine wf_ceq (tgt := 1009) hx hb d_law_588 (by decide) rfl rfl (fun _ => ?_) (fun hne => absurd (congrArg Int32.toInt heq) hne)
    refine W.widen (k := cells + 1) (n := slots + 3) (by omega) (by omega) ?_
    exact K _ _ _ _ _ _ _ _ _ _ _ _ hLI hB2
  · refine lv_aload_n hx hb d_law_560 rfl (lv_at hl 1 rfl) ?_
    refine lv_aload_n hx hb d_law_561 rfl (lv_at hl 0 rfl) ?_
    refine lv_iload_n hx hb d_law_562 rfl (lv_at hl 3 rfl) ?_
    refine lv_iconst (v := nI 1) hx hb d_law_563 (by decide) ?_
    refine wf_iadd (x := i) (y := 1) hx hb d_law_564 ?_
    refine lw_ld hx hb hX hbl hB hbA (n := i + 1) (by omega) hL d_law_565 ?_
    refine lv_aload_n hx hb d_law_566 rfl (lv_at hl 0 rfl) ?_
    refine lv_iload_n hx hb d_law_567 rfl (lv_at hl 3 rfl) ?_
    refine lv_iconst (v := nI 2) hx hb d_law_568 (by decide) ?_
    refine wf_iadd (x := i) (y := 2) hx hb d_law_569 ?_
    refine lw_ld hx hb hX hbl hB hbA (n := i + 2) (by omega) hL d_law_570 ?_
    refine callVi (As := [.int (xs (i + 1)), .int (xs (i + 2))]) (rest := []) X hB (fun _ h => h) (k_widenb (l := l) (D := D) (sz := H.size)  i1 i4 i5 i6 i7 i8 i9 hv) k_709 k_710 k_711 k_64 k_712 i9.1 cl_TM rfl hd_TM_widen ⟨Nat.le_of_ble_eq_true rfl, Nat.le_of_ble_eq_true rfl⟩ ⟨show cells + 0 ≤ 600000 by omega, show slots + 0 ≤ 7302250 by omega⟩ hl.1 (Nat.le_of_ble_eq_true rfl) d_law_571 rfl (fun r1 w1 H1 locs1 hp1 hB1 => ?_)
    obtain ⟨q1, rfl⟩ := hp1
    have hR1 := i10
    obtain ⟨pz9, wy9, fi9, se9, ho9, lx9, ly9, ts9, tS9, cs9, av9, lz9, hz19, nl9, nh9, ce9, qd9, gmo⟩ := hR1.1
    refine lv_aload_n hx hb d_law_574 rfl (lv_at hl 2 rfl) ?_
    refine lv_aload_n hx hb d_law_575 rfl (lv_at hl 0 rfl) ?_
    refine lv_iload_n hx hb d_law_576 rfl (lv_at hl 3 rfl) ?_
    refine lv_iconst (v := nI 1) hx hb d_law_577 (by decide) ?_
    refine wf_iadd (x := i) (y := 1) hx hb d_law_578 ?_
    refine lw_ld hx hb hX hbl hB1 hbA (n := i + 1) (by omega) hL d_law_579 ?_
    refine lv_aload_n hx hb d_law_580 rfl (lv_at hl 0 rfl) ?_
    refine lv_iload_n hx hb d_law_581 rfl (lv_at hl 3 rfl) ?_
    refine lv_iconst (v := nI 2) hx hb d_law_582 (by decide) ?_
    refine wf_iadd (x := i) (y := 2) hx hb d_law_583 ?_
    refine lw_ld hx hb hX hbl hB1 hbA (n := i + 2) (by omega) hL d_law_584 ?_
    refine callVi (As := [.int (xs (i + 1)), .int (xs (i + 2))]) (rest := [.int r1]) X hB1 (fun _ h => h) (r_widenb (l := l) (D := D) (sz := H1.size)  i2 i4 i5 i6 i7 i8 hR1 hv) k_1188 k_1189 k_1190 k_75 k_1191 gmo cl_Ref rfl hd_Ref_widen ⟨Nat.le_of_ble_eq_true rfl, Nat.le_of_ble_eq_true rfl⟩ ⟨show cells + 0 + 0 ≤ 600000 by omega, show slots + 0 + 0 ≤ 7302250 by omega⟩ hl.1 (Nat.le_of_ble_eq_true rfl) d_law_585 rfl (fun r2 w2 H2 locs2 hp2 hB2 => ?_)
    obtain ⟨q2, rfl⟩ := hp2
    have heq := q1.trans q2.symm
    have hLI := hI
    refine wf_ceq (tgt := 1009) hx hb d_law_588 (by decide) rfl rfl (fun _ => ?_) (fun hne => absurd (congrArg Int32.toInt heq) hne)
    refine W.widen (k := cells + 1) (n := slots + 3) (by omega) (by omega) ?_
    exact K _ _ _ _ _ _ _ _ _ _ _ _ hLI hB2
set_option maxHeartbeats 4000000 in
set_option maxRecDepth 100000 in
theorem lw_c15 {l : Launch} {p : Program} {e : Env} {s : State} {m : MethodId} {below : List Frame} {meth : Method} {c : Code} {D : va_G} {t : Nat → ClassId} {nm : String} {ret0 : Option FieldType} {b L : Nat} {xs : Nat → Int32} {Q : State → Prop} {w : wf_W} {H : Heap} {locs : List Loc} {ls : Array Slot} {cells slots i : Nat} {C pa sa : Nat → Nat} {mo : Nat} {A : Nat → Nat} {k mn cz tz ca : Nat} {cl tl Sz En Nx : Nat → Nat} (X : Cx p s m meth c R_Law nm code 4 ret0 D t) (hX : va_X b L xs s s.heap) (hbl : b < s.heap.size) (hB : wf_B D wcl (fun q : Nat => s.heap.size ≤ q) s.heap w H locs) (hI : LI t w C pa sa mo A k mn cz tz ca cl tl Sz En Nx) (hl : lv_has ls 4 [(0, .ref b), (1, .ref (C 0)), (2, .ref mo), (3, .int (nI i))]) (hi : i + 3 < L) (hL : L ≤ 2049) (hcc : cells + 1 ≤ 600000 ∧ slots + 3 ≤ 7302250) (K : ∀ (w' : wf_W) (H' : Heap) (locs' : List Loc) (mn' cz' tz' ca' : Nat) (cl' tl' Sz' En' Nx' : Nat → Nat), LI t w' C pa sa mo A k mn' cz' tz' ca' cl' tl' Sz' En' Nx' → wf_B D wcl (fun q : Nat => s.heap.size ≤ q) s.heap w' H' locs' → W p l e room_1 s m #[Value.ref b] below meth c H' locs' (cells + 1) (slots + 3) Q (F0 m 1009 ls [])) : W p l e room_1 s m #[Value.ref b] below meth c H locs cells slots Q (F0 m 593 ls []) := by
  have hx := X.1
  have hb := X.2.1
  have hbA : ¬ (fun q : Nat => s.heap.size ≤ q) b := Nat.not_le.mpr hbl
  obtain ⟨i1, i2, i3, i4, i5, i6, i7, i8, i9, i10⟩ := id hI
  have hmn := i5.1
  by_cases hyes : (xs (i + 3)).toInt = 0
  · by_cases hv : (0 ≤ (xs (i + 1)).toInt ∧ (xs (i + 1)).toInt ≤ 3) ∧ (0 ≤ (xs (i + 2)).toInt ∧ (xs (i + 2)).toInt < mn)
    · have e1 : xs (i + 1) = nI ((xs (i + 1)).toInt.toNat) := nat_of (hv.1.1)
      have e2 : xs (i + 2) = nI ((xs (i + 2)).toInt.toNat) := nat_of (hv.2.1)
      refine lv_aload_n hx hb d_law_593 rfl (lv_at hl 1 rfl) ?_
      refine lv_aload_n hx hb d_law_594 rfl (lv_at hl 0 rfl) ?_
      refine lv_iload_n hx hb d_law_595 rfl (lv_at hl 3 rfl) ?_
      refine lv_iconst (v := nI 1) hx hb d_law_596 (by decide) ?_
      refine wf_iadd (x := i) (y := 1) hx hb d_law_597 ?_
      refine lw_ld hx hb hX hbl hB hbA (n := i + 1) (by omega) hL d_law_598 ?_
      refine wf_ti (y := nI ((xs (i + 1)).toInt.toNat)) e1 ?_
      refine lv_aload_n hx hb d_law_599 rfl (lv_at hl 0 rfl) ?_
      refine lv_iload_n hx hb d_law_600 rfl (lv_at hl 3 rfl) ?_
      refine lv_iconst (v := nI 2) hx hb d_law_601 (by decide) ?_
      refine wf_iadd (x := i) (y := 2) hx hb d_law_602 ?_
      refine lw_ld hx hb hX hbl hB hbA (n := i + 2) (by omega) hL d_law_603 ?_
      refine wf_ti (y := nI ((xs (i + 2)).toInt.toNat)) e2 ?_
      refine lv_aload_n hx hb d_law_604 rfl (lv_at hl 0 rfl) ?_
      refine lv_iload_n hx hb d_law_605 rfl (lv_at hl 3 rfl) ?_
      refine lv_iconst (v := nI 3) hx hb d_law_606 (by decide) ?_
      refine wf_iadd (x := i) (y := 3) hx hb d_law_607 ?_
      refine lw_ld hx hb hX hbl hB hbA (n := i + 3) (by omega) hL d_law_608 ?_
      refine wf_zeq (tgt := 616) hx hb d_law_609 (by decide) rfl (fun _ => ?_) (fun c9 => absurd hyes c9)
      refine lv_iconst (v := nI 0) hx hb d_law_616 (by decide) ?_
      refine wf_ti (y := bI false) rfl ?_
      refine callVi (As := [.int (nI ((xs (i + 1)).toInt.toNat)), .int (nI ((xs (i + 2)).toInt.toNat)), .int (bI false)]) (rest := []) X hB (fun _ h => h) (k_whenn (l := l) (D := D) (sz := H.size)  i1 i4 i5 i6 i7 i8 i9 (by omega) (by omega)) k_728 k_729 k_730 k_64 k_731 i9.1 cl_TM rfl hd_TM_when ⟨Nat.le_of_ble_eq_true rfl, Nat.le_of_ble_eq_true rfl⟩ ⟨show cells + 1 ≤ 600000 by omega, show slots + 3 ≤ 7302250 by omega⟩ hl.1 (Nat.le_of_ble_eq_true rfl) d_law_617 rfl (fun r1 w1 H1 locs1 hp1 hB1 => ?_)
      obtain ⟨mn1, Sz1, En1, Nx1, ca1, o1, hC1, hf1⟩ := hp1
      have hR1 := RSt_C i3 hf1 i10
      obtain ⟨pz9, wy9, fi9, se9, ho9, lx9, ly9, ts9, tS9, cs9, av9, lz9, hz19, nl9, nh9, ce9, qd9, gmo⟩ := hR1.1
      refine lv_aload_n hx hb d_law_620 rfl (lv_at hl 2 rfl) ?_
      refine lv_aload_n hx hb d_law_621 rfl (lv_at hl 0 rfl) ?_
      refine lv_iload_n hx hb d_law_622 rfl (lv_at hl 3 rfl) ?_
      refine lv_iconst (v := nI 1) hx hb d_law_623 (by decide) ?_
      refine wf_iadd (x := i) (y := 1) hx hb d_law_624 ?_
      refine lw_ld hx hb hX hbl hB1 hbA (n := i + 1) (by omega) hL d_law_625 ?_
      refine wf_ti (y := nI ((xs (i + 1)).toInt.toNat)) e1 ?_
      refine lv_aload_n hx hb d_law_626 rfl (lv_at hl 0 rfl) ?_
      refine lv_iload_n hx hb d_law_627 rfl (lv_at hl 3 rfl) ?_
      refine lv_iconst (v := nI 2) hx hb d_law_628 (by decide) ?_
      refine wf_iadd (x := i) (y := 2) hx hb d_law_629 ?_
      refine lw_ld hx hb hX hbl hB1 hbA (n := i + 2) (by omega) hL d_law_630 ?_
      refine wf_ti (y := nI ((xs (i + 2)).toInt.toNat)) e2 ?_
      refine lv_aload_n hx hb d_law_631 rfl (lv_at hl 0 rfl) ?_
      refine lv_iload_n hx hb d_law_632 rfl (lv_at hl 3 rfl) ?_
      refine lv_iconst (v := nI 3) hx hb d_law_633 (by decide) ?_
      refine wf_iadd (x := i) (y := 3) hx hb d_law_634 ?_
      refine lw_ld hx hb hX hbl hB1 hbA (n := i + 3) (by omega) hL d_law_635 ?_
      refine wf_zeq (tgt := 643) hx hb d_law_636 (by decide) rfl (fun _ => ?_) (fun c9 => absurd hyes c9)
      refine lv_iconst (v := nI 0) hx hb d_law_643 (by decide) ?_
      refine wf_ti (y := bI false) rfl ?_
      refine callVi (As := [.int (nI ((xs (i + 1)).toInt.toNat)), .int (nI ((xs (i + 2)).toInt.toNat)), .int (bI false)]) (rest := [.int r1]) X hB1 (fun _ h => h) (r_whenn (l := l) (D := D) (sz := H1.size)  i2 i4 i5 i6 i7 i8 hR1 (by omega) (by omega)) k_1201 k_1202 k_1203 k_75 k_1204 gmo cl_Ref rfl hd_Ref_when ⟨Nat.le_of_ble_eq_true rfl, Nat.le_of_ble_eq_true rfl⟩ ⟨show cells + 1 + 0 ≤ 600000 by omega, show slots + 3 + 0 ≤ 7302250 by omega⟩ hl.1 (Nat.le_of_ble_eq_true rfl) d_law_644 rfl (fun r2 w2 H2 locs2 hp2 hB2 => ?_)
      obtain ⟨mn2, Sz2, En2, Nx2, ca2, o2, hR2, hf2⟩ := hp2
      have hdet := det_W i4 i5 o1 o2
      have heq := hdet.1
      have hLI := LI_mk hI hC1 hf2 hR2 hdet
      refine wf_ceq (tgt := 1009) hx hb d_law_647 (by decide) rfl rfl (fun _ => ?_) (fun hne => absurd (congrArg Int32.toInt heq) hne)
      refine W.widen (k := cells + 1) (n := slots + 3) (by omega) (by omega) ?_
      exact K _ _ _ _ _ _ _ _ _ _ _ _ hLI hB2
    · refine lv_aload_n hx hb d_law_593 rfl (lv_at hl 1 rfl) ?_
      refine lv_aload_n hx hb d_law_594 rfl (lv_at hl 0 rfl) ?_
      refine lv_iload_n hx hb d_law_595 rfl (lv_at hl 3 rfl) ?_
      refine lv_iconst (v := nI 1) hx hb d_law_596 (by decide) ?_
      refine wf_iadd (x := i) (y := 1) hx hb d_law_597 ?_
      refine lw_ld hx hb hX hbl hB hbA (n := i + 1) (by omega) hL d_law_598 ?_
      refine lv_aload_n hx hb d_law_599 rfl (lv_at hl 0 rfl) ?_
      refine lv_iload_n hx hb d_law_600 rfl (lv_at hl 3 rfl) ?_
      refine lv_iconst (v := nI 2) hx hb d_law_601 (by decide) ?_
      refine wf_iadd (x := i) (y := 2) hx hb d_law_602 ?_
      refine lw_ld hx hb hX hbl hB hbA (n := i + 2) (by omega) hL d_law_603 ?_
      refine lv_aload_n hx hb d_law_604 rfl (lv_at hl 0 rfl) ?_
      refine lv_iload_n hx hb d_law_605 rfl (lv_at hl 3 rfl) ?_
      refine lv_iconst (v := nI 3) hx hb d_law_606 (by decide) ?_
      refine wf_iadd (x := i) (y := 3) hx hb d_law_607 ?_
      refine lw_ld hx hb hX hbl hB hbA (n := i + 3) (by omega) hL d_law_608 ?_
      refine wf_zeq (tgt := 616) hx hb d_law_609 (by decide) rfl (fun _ => ?_) (fun c9 => absurd hyes c9)
      refine lv_iconst (v := nI 0) hx hb d_law_616 (by decide) ?_
      refine wf_ti (y := bI false) rfl ?_
      refine callVi (As := [.int (xs (i + 1)), .int (xs (i + 2)), .int (bI false)]) (rest := []) X hB (fun _ h => h) (k_whenb (l := l) (D := D) (sz := H.size) (yy := false) i1 i4 i5 i6 i7 i8 i9 hv) k_728 k_729 k_730 k_64 k_731 i9.1 cl_TM rfl hd_TM_when ⟨Nat.le_of_ble_eq_true rfl, Nat.le_of_ble_eq_true rfl⟩ ⟨show cells + 0 ≤ 600000 by omega, show slots + 0 ≤ 7302250 by omega⟩ hl.1 (Nat.le_of_ble_eq_true rfl) d_law_617 rfl (fun r1 w1 H1 locs1 hp1 hB1 => ?_)
      obtain ⟨q1, rfl⟩ := hp1
      have hR1 := i10
      obtain ⟨pz9, wy9, fi9, se9, ho9, lx9, ly9, ts9, tS9, cs9, av9, lz9, hz19, nl9, nh9, ce9, qd9, gmo⟩ := hR1.1
      refine lv_aload_n hx hb d_law_620 rfl (lv_at hl 2 rfl) ?_
      refine lv_aload_n hx hb d_law_621 rfl (lv_at hl 0 rfl) ?_
      refine lv_iload_n hx hb d_law_622 rfl (lv_at hl 3 rfl) ?_
      refine lv_iconst (v := nI 1) hx hb d_law_623 (by decide) ?_
      refine wf_iadd (x := i) (y := 1) hx hb d_law_624 ?_
      refine lw_ld hx hb hX hbl hB1 hbA (n := i + 1) (by omega) hL d_law_625 ?_
      refine lv_aload_n hx hb d_law_626 rfl (lv_at hl 0 rfl) ?_
      refine lv_iload_n hx hb d_law_627 rfl (lv_at hl 3 rfl) ?_
      refine lv_iconst (v := nI 2) hx hb d_law_628 (by decide) ?_
      refine wf_iadd (x := i) (y := 2) hx hb d_law_629 ?_
      refine lw_ld hx hb hX hbl hB1 hbA (n := i + 2) (by omega) hL d_law_630 ?_
      refine lv_aload_n hx hb d_law_631 rfl (lv_at hl 0 rfl) ?_
      refine lv_iload_n hx hb d_law_632 rfl (lv_at hl 3 rfl) ?_
      refine lv_iconst (v := nI 3) hx hb d_law_633 (by decide) ?_
      refine wf_iadd (x := i) (y := 3) hx hb d_law_634 ?_
      refine lw_ld hx hb hX hbl hB1 hbA (n := i + 3) (by omega) hL d_law_635 ?_
      refine wf_zeq (tgt := 643) hx hb d_law_636 (by decide) rfl (fun _ => ?_) (fun c9 => absurd hyes c9)
      refine lv_iconst (v := nI 0) hx hb d_law_643 (by decide) ?_
      refine wf_ti (y := bI false) rfl ?_
      refine callVi (As := [.int (xs (i + 1)), .int (xs (i + 2)), .int (bI false)]) (rest := [.int r1]) X hB1 (fun _ h => h) (r_whenb (l := l) (D := D) (sz := H1.size) (yy := false) i2 i4 i5 i6 i7 i8 hR1 hv) k_1201 k_1202 k_1203 k_75 k_1204 gmo cl_Ref rfl hd_Ref_when ⟨Nat.le_of_ble_eq_true rfl, Nat.le_of_ble_eq_true rfl⟩ ⟨show cells + 0 + 0 ≤ 600000 by omega, show slots + 0 + 0 ≤ 7302250 by omega⟩ hl.1 (Nat.le_of_ble_eq_true rfl) d_law_644 rfl (fun r2 w2 H2 locs2 hp2 hB2 => ?_)
      obtain ⟨q2, rfl⟩ := hp2
      have heq := q1.trans q2.symm
      have hLI := hI
      refine wf_ceq (tgt := 1009) hx hb d_law_647 (by decide) rfl rfl (fun _ => ?_) (fun hne => absurd (congrArg Int32.toInt heq) hne)
      refine W.widen (k := cells + 1) (n := slots + 3) (by omega) (by omega) ?_
      exact K _ _ _ _ _ _ _ _ _ _ _ _ hLI hB2
  · by_cases hv : (0 ≤ (xs (i + 1)).toInt ∧ (xs (i + 1)).toInt ≤ 3) ∧ (0 ≤ (xs (i + 2)).toInt ∧ (xs (i + 2)).toInt < mn)
    · have e1 : xs (i + 1) = nI ((xs (i + 1)).toInt.toNat) := nat_of (hv.1.1)
      have e2 : xs (i + 2) = nI ((xs (i + 2)).toInt.toNat) := nat_of (hv.2.1)
      refine lv_aload_n hx hb d_law_593 rfl (lv_at hl 1 rfl) ?_
      refine lv_aload_n hx hb d_law_594 rfl (lv_at hl 0 rfl) ?_
      refine lv_iload_n hx hb d_law_595 rfl (lv_at hl 3 rfl) ?_
      refine lv_iconst (v := nI 1) hx hb d_law_596 (by decide) ?_
      refine wf_iadd (x := i) (y := 1) hx hb d_law_597 ?_
      refine lw_ld hx hb hX hbl hB hbA (n := i + 1) (by omega) hL d_law_598 ?_
      refine wf_ti (y := nI ((xs (i + 1)).toInt.toNat)) e1 ?_
      refine lv_aload_n hx hb d_law_599 rfl (lv_at hl 0 rfl) ?_
      refine lv_iload_n hx hb d_law_600 rfl (lv_at hl 3 rfl) ?_
      refine lv_iconst (v := nI 2) hx hb d_law_601 (by decide) ?_
      refine wf_iadd (x := i) (y := 2) hx hb d_law_602 ?_
      refine lw_ld hx hb hX hbl hB hbA (n := i + 2) (by omega) hL d_law_603 ?_
      refine wf_ti (y := nI ((xs (i + 2)).toInt.toNat)) e2 ?_
      refine lv_aload_n hx hb d_law_604 rfl (lv_at hl 0 rfl) ?_
      refine lv_iload_n hx hb d_law_605 rfl (lv_at hl 3 rfl) ?_
      refine lv_iconst (v := nI 3) hx hb d_law_606 (by decide) ?_
      refine wf_iadd (x := i) (y := 3) hx hb d_law_607 ?_
      refine lw_ld hx hb hX hbl hB hbA (n := i + 3) (by omega) hL d_law_608 ?_
      refine wf_zeq (tgt := 616) hx hb d_law_609 (by decide) rfl (fun c9 => absurd c9 hyes) (fun _ => ?_)
      refine lv_iconst (v := nI 1) hx hb d_law_612 (by decide) ?_
      refine wf_ti (y := bI true) rfl ?_
      refine lv_goto (tgt := 617) hx hb d_law_613 (by decide) ?_
      refine callVi (As := [.int (nI ((xs (i + 1)).toInt.toNat)), .int (nI ((xs (i + 2)).toInt.toNat)), .int (bI true)]) (rest := []) X hB (fun _ h => h) (k_wheny (l := l) (D := D) (sz := H.size)  i1 i4 i5 i6 i7 i8 i9 (by omega) (by omega)) k_728 k_729 k_730 k_64 k_731 i9.1 cl_TM rfl hd_TM_when ⟨Nat.le_of_ble_eq_true rfl, Nat.le_of_ble_eq_true rfl⟩ ⟨show cells + 1 ≤ 600000 by omega, show slots + 3 ≤ 7302250 by omega⟩ hl.1 (Nat.le_of_ble_eq_true rfl) d_law_617 rfl (fun r1 w1 H1 locs1 hp1 hB1 => ?_)
      obtain ⟨mn1, Sz1, En1, Nx1, ca1, o1, hC1, hf1⟩ := hp1
      have hR1 := RSt_C i3 hf1 i10
      obtain ⟨pz9, wy9, fi9, se9, ho9, lx9, ly9, ts9, tS9, cs9, av9, lz9, hz19, nl9, nh9, ce9, qd9, gmo⟩ := hR1.1
      refine lv_aload_n hx hb d_law_620 rfl (lv_at hl 2 rfl) ?_
      refine lv_aload_n hx hb d_law_621 rfl (lv_at hl 0 rfl) ?_
      refine lv_iload_n hx hb d_law_622 rfl (lv_at hl 3 rfl) ?_
      refine lv_iconst (v := nI 1) hx hb d_law_623 (by decide) ?_
      refine wf_iadd (x := i) (y := 1) hx hb d_law_624 ?_
      refine lw_ld hx hb hX hbl hB1 hbA (n := i + 1) (by omega) hL d_law_625 ?_
      refine wf_ti (y := nI ((xs (i + 1)).toInt.toNat)) e1 ?_
      refine lv_aload_n hx hb d_law_626 rfl (lv_at hl 0 rfl) ?_
      refine lv_iload_n hx hb d_law_627 rfl (lv_at hl 3 rfl) ?_
      refine lv_iconst (v := nI 2) hx hb d_law_628 (by decide) ?_
      refine wf_iadd (x := i) (y := 2) hx hb d_law_629 ?_
      refine lw_ld hx hb hX hbl hB1 hbA (n := i + 2) (by omega) hL d_law_630 ?_
      refine wf_ti (y := nI ((xs (i + 2)).toInt.toNat)) e2 ?_
      refine lv_aload_n hx hb d_law_631 rfl (lv_at hl 0 rfl) ?_
      refine lv_iload_n hx hb d_law_632 rfl (lv_at hl 3 rfl) ?_
      refine lv_iconst (v := nI 3) hx hb d_law_633 (by decide) ?_
      refine wf_iadd (x := i) (y := 3) hx hb d_law_634 ?_
      refine lw_ld hx hb hX hbl hB1 hbA (n := i + 3) (by omega) hL d_law_635 ?_
      refine wf_zeq (tgt := 643) hx hb d_law_636 (by decide) rfl (fun c9 => absurd c9 hyes) (fun _ => ?_)
      refine lv_iconst (v := nI 1) hx hb d_law_639 (by decide) ?_
      refine wf_ti (y := bI true) rfl ?_
      refine lv_goto (tgt := 644) hx hb d_law_640 (by decide) ?_
      refine callVi (As := [.int (nI ((xs (i + 1)).toInt.toNat)), .int (nI ((xs (i + 2)).toInt.toNat)), .int (bI true)]) (rest := [.int r1]) X hB1 (fun _ h => h) (r_wheny (l := l) (D := D) (sz := H1.size)  i2 i4 i5 i6 i7 i8 hR1 (by omega) (by omega)) k_1201 k_1202 k_1203 k_75 k_1204 gmo cl_Ref rfl hd_Ref_when ⟨Nat.le_of_ble_eq_true rfl, Nat.le_of_ble_eq_true rfl⟩ ⟨show cells + 1 + 0 ≤ 600000 by omega, show slots + 3 + 0 ≤ 7302250 by omega⟩ hl.1 (Nat.le_of_ble_eq_true rfl) d_law_644 rfl (fun r2 w2 H2 locs2 hp2 hB2 => ?_)
      obtain ⟨mn2, Sz2, En2, Nx2, ca2, o2, hR2, hf2⟩ := hp2
      have hdet := det_W i4 i5 o1 o2
      have heq := hdet.1
      have hLI := LI_mk hI hC1 hf2 hR2 hdet
      refine wf_ceq (tgt := 1009) hx hb d_law_647 (by decide) rfl rfl (fun _ => ?_) (fun hne => absurd (congrArg Int32.toInt heq) hne)
      refine W.widen (k := cells + 1) (n := slots + 3) (by omega) (by omega) ?_
      exact K _ _ _ _ _ _ _ _ _ _ _ _ hLI hB2
    · refine lv_aload_n hx hb d_law_593 rfl (lv_at hl 1 rfl) ?_
      refine lv_aload_n hx hb d_law_594 rfl (lv_at hl 0 rfl) ?_
      refine lv_iload_n hx hb d_law_595 rfl (lv_at hl 3 rfl) ?_
      refine lv_iconst (v := nI 1) hx hb d_law_596 (by decide) ?_
      refine wf_iadd (x := i) (y := 1) hx hb d_law_597 ?_
      refine lw_ld hx hb hX hbl hB hbA (n := i + 1) (by omega) hL d_law_598 ?_
      refine lv_aload_n hx hb d_law_599 rfl (lv_at hl 0 rfl) ?_
      refine lv_iload_n hx hb d_law_600 rfl (lv_at hl 3 rfl) ?_
      refine lv_iconst (v := nI 2) hx hb d_law_601 (by decide) ?_
      refine wf_iadd (x := i) (y := 2) hx hb d_law_602 ?_
      refine lw_ld hx hb hX hbl hB hbA (n := i + 2) (by omega) hL d_law_603 ?_
      refine lv_aload_n hx hb d_law_604 rfl (lv_at hl 0 rfl) ?_
      refine lv_iload_n hx hb d_law_605 rfl (lv_at hl 3 rfl) ?_
      refine lv_iconst (v := nI 3) hx hb d_law_606 (by decide) ?_
      refine wf_iadd (x := i) (y := 3) hx hb d_law_607 ?_
      refine lw_ld hx hb hX hbl hB hbA (n := i + 3) (by omega) hL d_law_608 ?_
      refine wf_zeq (tgt := 616) hx hb d_law_609 (by decide) rfl (fun c9 => absurd c9 hyes) (fun _ => ?_)
      refine lv_iconst (v := nI 1) hx hb d_law_612 (by decide) ?_
      refine wf_ti (y := bI true) rfl ?_
      refine lv_goto (tgt := 617) hx hb d_law_613 (by decide) ?_
      refine callVi (As := [.int (xs (i + 1)), .int (xs (i + 2)), .int (bI true)]) (rest := []) X hB (fun _ h => h) (k_whenb (l := l) (D := D) (sz := H.size) (yy := true) i1 i4 i5 i6 i7 i8 i9 hv) k_728 k_729 k_730 k_64 k_731 i9.1 cl_TM rfl hd_TM_when ⟨Nat.le_of_ble_eq_true rfl, Nat.le_of_ble_eq_true rfl⟩ ⟨show cells + 0 ≤ 600000 by omega, show slots + 0 ≤ 7302250 by omega⟩ hl.1 (Nat.le_of_ble_eq_true rfl) d_law_617 rfl (fun r1 w1 H1 locs1 hp1 hB1 => ?_)
      obtain ⟨q1, rfl⟩ := hp1
      have hR1 := i10
      obtain ⟨pz9, wy9, fi9, se9, ho9, lx9, ly9, ts9, tS9, cs9, av9, lz9, hz19, nl9, nh9, ce9, qd9, gmo⟩ := hR1.1
      refine lv_aload_n hx hb d_law_620 rfl (lv_at hl 2 rfl) ?_
      refine lv_aload_n hx hb d_law_621 rfl (lv_at hl 0 rfl) ?_
      refine lv_iload_n hx hb d_law_622 rfl (lv_at hl 3 rfl) ?_
      refine lv_iconst (v := nI 1) hx hb d_law_623 (by decide) ?_
      refine wf_iadd (x := i) (y := 1) hx hb d_law_624 ?_
      refine lw_ld hx hb hX hbl hB1 hbA (n := i + 1) (by omega) hL d_law_625 ?_
      refine lv_aload_n hx hb d_law_626 rfl (lv_at hl 0 rfl) ?_
      refine lv_iload_n hx hb d_law_627 rfl (lv_at hl 3 rfl) ?_
      refine lv_iconst (v := nI 2) hx hb d_law_628 (by decide) ?_
      refine wf_iadd (x := i) (y := 2) hx hb d_law_629 ?_
      refine lw_ld hx hb hX hbl hB1 hbA (n := i + 2) (by omega) hL d_law_630 ?_
      refine lv_aload_n hx hb d_law_631 rfl (lv_at hl 0 rfl) ?_
      refine lv_iload_n hx hb d_law_632 rfl (lv_at hl 3 rfl) ?_
      refine lv_iconst (v := nI 3) hx hb d_law_633 (by decide) ?_
      refine wf_iadd (x := i) (y := 3) hx hb d_law_634 ?_
      refine lw_ld hx hb hX hbl hB1 hbA (n := i + 3) (by omega) hL d_law_635 ?_
      refine wf_zeq (tgt := 643) hx hb d_law_636 (by decide) rfl (fun c9 => absurd c9 hyes) (fun _ => ?_)
      refine lv_iconst (v := nI 1) hx hb d_law_639 (by decide) ?_
      refine wf_ti (y := bI true) rfl ?_
      refine lv_goto (tgt := 644) hx hb d_law_640 (by decide) ?_
      refine callVi (As := [.int (xs (i + 1)), .int (xs (i + 2)), .int (bI true)]) (rest := [.int r1]) X hB1 (fun _ h => h) (r_whenb (l := l) (D := D) (sz := H1.size) (yy := true) i2 i4 i5 i6 i7 i8 hR1 hv) k_1201 k_1202 k_1203 k_75 k_1204 gmo cl_Ref rfl hd_Ref_when ⟨Nat.le_of_ble_eq_true rfl, Nat.le_of_ble_eq_true rfl⟩ ⟨show cells + 0 + 0 ≤ 600000 by omega, show slots + 0 + 0 ≤ 7302250 by omega⟩ hl.1 (Nat.le_of_ble_eq_true rfl) d_law_644 rfl (fun r2 w2 H2 locs2 hp2 hB2 => ?_)
      obtain ⟨q2, rfl⟩ := hp2
      have heq := q1.trans q2.symm
      have hLI := hI
      refine wf_ceq (tgt := 1009) hx hb d_law_647 (by decide) rfl rfl (fun _ => ?_) (fun hne => absurd (congrArg Int32.toInt heq) hne)
      refine W.widen (k := cells + 1) (n := slots + 3) (by omega) (by omega) ?_
      exact K _ _ _ _ _ _ _ _ _ _ _ _ hLI hB2
set_option maxHeartbeats 4000000 in
set_option maxRecDepth 100000 in
theorem lw_c16 {l : Launch} {p : Program} {e : Env} {s : State} {m : MethodId} {below : List Frame} {meth : Method} {c : Code} {D : va_G} {t : Nat → ClassId} {nm : String} {ret0 : Option FieldType} {b L : Nat} {xs : Nat → Int32} {Q : State → Prop} {w : wf_W} {H : Heap} {locs : List Loc} {ls : Array Slot} {cells slots i : Nat} {C pa sa : Nat → Nat} {mo : Nat} {A : Nat → Nat} {k mn cz tz ca : Nat} {cl tl Sz En Nx : Nat → Nat} (X : Cx p s m meth c R_Law nm code 4 ret0 D t) (hX : va_X b L xs s s.heap) (hbl : b < s.heap.size) (hB : wf_B D wcl (fun q : Nat => s.heap.size ≤ q) s.heap w H locs) (hI : LI t w C pa sa mo A k mn cz tz ca cl tl Sz En Nx) (hl : lv_has ls 4 [(0, .ref b), (1, .ref (C 0)), (2, .ref mo), (3, .int (nI i))]) (hi : i + 3 < L) (hL : L ≤ 2049) (hcc : cells + 1 ≤ 600000 ∧ slots + 3 ≤ 7302250) (K : ∀ (w' : wf_W) (H' : Heap) (locs' : List Loc) (mn' cz' tz' ca' : Nat) (cl' tl' Sz' En' Nx' : Nat → Nat), LI t w' C pa sa mo A k mn' cz' tz' ca' cl' tl' Sz' En' Nx' → wf_B D wcl (fun q : Nat => s.heap.size ≤ q) s.heap w' H' locs' → W p l e room_1 s m #[Value.ref b] below meth c H' locs' (cells + 1) (slots + 3) Q (F0 m 1009 ls [])) : W p l e room_1 s m #[Value.ref b] below meth c H locs cells slots Q (F0 m 652 ls []) := by
  have hx := X.1
  have hb := X.2.1
  have hbA : ¬ (fun q : Nat => s.heap.size ≤ q) b := Nat.not_le.mpr hbl
  obtain ⟨i1, i2, i3, i4, i5, i6, i7, i8, i9, i10⟩ := id hI
  have hmn := i5.1
  by_cases hv : 0 ≤ (xs (i + 1)).toInt ∧ (xs (i + 1)).toInt ≤ (xs (i + 2)).toInt ∧ (xs (i + 2)).toInt ≤ 1000000000
  · have e1 : xs (i + 1) = nI ((xs (i + 1)).toInt.toNat) := nat_of (hv.1)
    have e2 : xs (i + 2) = nI ((xs (i + 2)).toInt.toNat) := nat_of (by omega)
    refine lv_aload_n hx hb d_law_652 rfl (lv_at hl 1 rfl) ?_
    refine lv_aload_n hx hb d_law_653 rfl (lv_at hl 0 rfl) ?_
    refine lv_iload_n hx hb d_law_654 rfl (lv_at hl 3 rfl) ?_
    refine lv_iconst (v := nI 1) hx hb d_law_655 (by decide) ?_
    refine wf_iadd (x := i) (y := 1) hx hb d_law_656 ?_
    refine lw_ld hx hb hX hbl hB hbA (n := i + 1) (by omega) hL d_law_657 ?_
    refine wf_ti (y := nI ((xs (i + 1)).toInt.toNat)) e1 ?_
    refine lv_aload_n hx hb d_law_658 rfl (lv_at hl 0 rfl) ?_
    refine lv_iload_n hx hb d_law_659 rfl (lv_at hl 3 rfl) ?_
    refine lv_iconst (v := nI 2) hx hb d_law_660 (by decide) ?_
    refine wf_iadd (x := i) (y := 2) hx hb d_law_661 ?_
    refine lw_ld hx hb hX hbl hB hbA (n := i + 2) (by omega) hL d_law_662 ?_
    refine wf_ti (y := nI ((xs (i + 2)).toInt.toNat)) e2 ?_
    refine callVi (As := [.int (nI ((xs (i + 1)).toInt.toNat)), .int (nI ((xs (i + 2)).toInt.toNat))]) (rest := []) X hB (fun _ h => h) (k_numerals (l := l) (D := D) (sz := H.size)  i1 i4 i5 i6 i7 i8 i9 (by omega) (by omega)) k_732 k_733 k_734 k_64 k_735 i9.1 cl_TM rfl hd_TM_numerals ⟨Nat.le_of_ble_eq_true rfl, Nat.le_of_ble_eq_true rfl⟩ ⟨show cells + 0 ≤ 600000 by omega, show slots + 0 ≤ 7302250 by omega⟩ hl.1 (Nat.le_of_ble_eq_true rfl) d_law_663 rfl (fun r1 w1 H1 locs1 hp1 hB1 => ?_)
    obtain ⟨mn1, Sz1, En1, Nx1, ca1, o1, hC1, hf1⟩ := hp1
    have hR1 := RSt_C i3 hf1 i10
    obtain ⟨pz9, wy9, fi9, se9, ho9, lx9, ly9, ts9, tS9, cs9, av9, lz9, hz19, nl9, nh9, ce9, qd9, gmo⟩ := hR1.1
    refine lv_aload_n hx hb d_law_666 rfl (lv_at hl 2 rfl) ?_
    refine lv_aload_n hx hb d_law_667 rfl (lv_at hl 0 rfl) ?_
    refine lv_iload_n hx hb d_law_668 rfl (lv_at hl 3 rfl) ?_
    refine lv_iconst (v := nI 1) hx hb d_law_669 (by decide) ?_
    refine wf_iadd (x := i) (y := 1) hx hb d_law_670 ?_
    refine lw_ld hx hb hX hbl hB1 hbA (n := i + 1) (by omega) hL d_law_671 ?_
    refine wf_ti (y := nI ((xs (i + 1)).toInt.toNat)) e1 ?_
    refine lv_aload_n hx hb d_law_672 rfl (lv_at hl 0 rfl) ?_
    refine lv_iload_n hx hb d_law_673 rfl (lv_at hl 3 rfl) ?_
    refine lv_iconst (v := nI 2) hx hb d_law_674 (by decide) ?_
    refine wf_iadd (x := i) (y := 2) hx hb d_law_675 ?_
    refine lw_ld hx hb hX hbl hB1 hbA (n := i + 2) (by omega) hL d_law_676 ?_
    refine wf_ti (y := nI ((xs (i + 2)).toInt.toNat)) e2 ?_
    refine callVi (As := [.int (nI ((xs (i + 1)).toInt.toNat)), .int (nI ((xs (i + 2)).toInt.toNat))]) (rest := [.int r1]) X hB1 (fun _ h => h) (r_numerals (l := l) (D := D) (sz := H1.size)  i2 i4 i5 i6 i7 i8 hR1 (by omega) (by omega)) k_1096 k_1097 k_1098 k_75 k_1099 gmo cl_Ref rfl hd_Ref_numerals ⟨Nat.le_of_ble_eq_true rfl, Nat.le_of_ble_eq_true rfl⟩ ⟨show cells + 0 + 0 ≤ 600000 by omega, show slots + 0 + 0 ≤ 7302250 by omega⟩ hl.1 (Nat.le_of_ble_eq_true rfl) d_law_677 rfl (fun r2 w2 H2 locs2 hp2 hB2 => ?_)
    obtain ⟨mn2, Sz2, En2, Nx2, ca2, o2, hR2, hf2⟩ := hp2
    have hdet := det_N i4 i5 o1 o2
    have heq := hdet.1
    have hLI := LI_mk hI hC1 hf2 hR2 hdet
    refine wf_ceq (tgt := 1009) hx hb d_law_680 (by decide) rfl rfl (fun _ => ?_) (fun hne => absurd (congrArg Int32.toInt heq) hne)
    refine W.widen (k := cells + 1) (n := slots + 3) (by omega) (by omega) ?_
    exact K _ _ _ _ _ _ _ _ _ _ _ _ hLI hB2
  · refine lv_aload_n hx hb d_law_652 rfl (lv_at hl 1 rfl) ?_
    refine lv_aload_n hx hb d_law_653 rfl (lv_at hl 0 rfl) ?_
    refine lv_iload_n hx hb d_law_654 rfl (lv_at hl 3 rfl) ?_
    refine lv_iconst (v := nI 1) hx hb d_law_655 (by decide) ?_
    refine wf_iadd (x := i) (y := 1) hx hb d_law_656 ?_
    refine lw_ld hx hb hX hbl hB hbA (n := i + 1) (by omega) hL d_law_657 ?_
    refine lv_aload_n hx hb d_law_658 rfl (lv_at hl 0 rfl) ?_
    refine lv_iload_n hx hb d_law_659 rfl (lv_at hl 3 rfl) ?_
    refine lv_iconst (v := nI 2) hx hb d_law_660 (by decide) ?_
    refine wf_iadd (x := i) (y := 2) hx hb d_law_661 ?_
    refine lw_ld hx hb hX hbl hB hbA (n := i + 2) (by omega) hL d_law_662 ?_
    refine callVi (As := [.int (xs (i + 1)), .int (xs (i + 2))]) (rest := []) X hB (fun _ h => h) (k_numeralsb (l := l) (D := D) (sz := H.size)  i1 i4 i5 i6 i7 i8 i9 hv) k_732 k_733 k_734 k_64 k_735 i9.1 cl_TM rfl hd_TM_numerals ⟨Nat.le_of_ble_eq_true rfl, Nat.le_of_ble_eq_true rfl⟩ ⟨show cells + 0 ≤ 600000 by omega, show slots + 0 ≤ 7302250 by omega⟩ hl.1 (Nat.le_of_ble_eq_true rfl) d_law_663 rfl (fun r1 w1 H1 locs1 hp1 hB1 => ?_)
    obtain ⟨q1, rfl⟩ := hp1
    have hR1 := i10
    obtain ⟨pz9, wy9, fi9, se9, ho9, lx9, ly9, ts9, tS9, cs9, av9, lz9, hz19, nl9, nh9, ce9, qd9, gmo⟩ := hR1.1
    refine lv_aload_n hx hb d_law_666 rfl (lv_at hl 2 rfl) ?_
    refine lv_aload_n hx hb d_law_667 rfl (lv_at hl 0 rfl) ?_
    refine lv_iload_n hx hb d_law_668 rfl (lv_at hl 3 rfl) ?_
    refine lv_iconst (v := nI 1) hx hb d_law_669 (by decide) ?_
    refine wf_iadd (x := i) (y := 1) hx hb d_law_670 ?_
    refine lw_ld hx hb hX hbl hB1 hbA (n := i + 1) (by omega) hL d_law_671 ?_
    refine lv_aload_n hx hb d_law_672 rfl (lv_at hl 0 rfl) ?_
    refine lv_iload_n hx hb d_law_673 rfl (lv_at hl 3 rfl) ?_
    refine lv_iconst (v := nI 2) hx hb d_law_674 (by decide) ?_
    refine wf_iadd (x := i) (y := 2) hx hb d_law_675 ?_
    refine lw_ld hx hb hX hbl hB1 hbA (n := i + 2) (by omega) hL d_law_676 ?_
    refine callVi (As := [.int (xs (i + 1)), .int (xs (i + 2))]) (rest := [.int r1]) X hB1 (fun _ h => h) (r_numeralsb (l := l) (D := D) (sz := H1.size)  i2 i4 i5 i6 i7 i8 hR1 hv) k_1096 k_1097 k_1098 k_75 k_1099 gmo cl_Ref rfl hd_Ref_numerals ⟨Nat.le_of_ble_eq_true rfl, Nat.le_of_ble_eq_true rfl⟩ ⟨show cells + 0 + 0 ≤ 600000 by omega, show slots + 0 + 0 ≤ 7302250 by omega⟩ hl.1 (Nat.le_of_ble_eq_true rfl) d_law_677 rfl (fun r2 w2 H2 locs2 hp2 hB2 => ?_)
    obtain ⟨q2, rfl⟩ := hp2
    have heq := q1.trans q2.symm
    have hLI := hI
    refine wf_ceq (tgt := 1009) hx hb d_law_680 (by decide) rfl rfl (fun _ => ?_) (fun hne => absurd (congrArg Int32.toInt heq) hne)
    refine W.widen (k := cells + 1) (n := slots + 3) (by omega) (by omega) ?_
    exact K _ _ _ _ _ _ _ _ _ _ _ _ hLI hB2
set_option maxHeartbeats 4000000 in
set_option maxRecDepth 100000 in
theorem lw_c17 {l : Launch} {p : Program} {e : Env} {s : State} {m : MethodId} {below : List Frame} {meth : Method} {c : Code} {D : va_G} {t : Nat → ClassId} {nm : String} {ret0 : Option FieldType} {b L : Nat} {xs : Nat → Int32} {Q : State → Prop} {w : wf_W} {H : Heap} {locs : List Loc} {ls : Array Slot} {cells slots i : Nat} {C pa sa : Nat → Nat} {mo : Nat} {A : Nat → Nat} {k mn cz tz ca : Nat} {cl tl Sz En Nx : Nat → Nat} (X : Cx p s m meth c R_Law nm code 4 ret0 D t) (hX : va_X b L xs s s.heap) (hbl : b < s.heap.size) (hB : wf_B D wcl (fun q : Nat => s.heap.size ≤ q) s.heap w H locs) (hI : LI t w C pa sa mo A k mn cz tz ca cl tl Sz En Nx) (hl : lv_has ls 4 [(0, .ref b), (1, .ref (C 0)), (2, .ref mo), (3, .int (nI i))]) (hi : i + 3 < L) (hL : L ≤ 2049) (hcc : cells + 1 ≤ 600000 ∧ slots + 3 ≤ 7302250) (K : ∀ (w' : wf_W) (H' : Heap) (locs' : List Loc) (mn' cz' tz' ca' : Nat) (cl' tl' Sz' En' Nx' : Nat → Nat), LI t w' C pa sa mo A k mn' cz' tz' ca' cl' tl' Sz' En' Nx' → wf_B D wcl (fun q : Nat => s.heap.size ≤ q) s.heap w' H' locs' → W p l e room_1 s m #[Value.ref b] below meth c H' locs' (cells + 1) (slots + 3) Q (F0 m 1009 ls [])) : W p l e room_1 s m #[Value.ref b] below meth c H locs cells slots Q (F0 m 685 ls []) := by
  have hx := X.1
  have hb := X.2.1
  have hbA : ¬ (fun q : Nat => s.heap.size ≤ q) b := Nat.not_le.mpr hbl
  obtain ⟨i1, i2, i3, i4, i5, i6, i7, i8, i9, i10⟩ := id hI
  have hmn := i5.1
  by_cases hv : (0 ≤ (xs (i + 1)).toInt ∧ (xs (i + 1)).toInt < mn)
  · have e1 : xs (i + 1) = nI ((xs (i + 1)).toInt.toNat) := nat_of (hv.1)
    refine lv_aload_n hx hb d_law_685 rfl (lv_at hl 1 rfl) ?_
    refine lv_aload_n hx hb d_law_686 rfl (lv_at hl 0 rfl) ?_
    refine lv_iload_n hx hb d_law_687 rfl (lv_at hl 3 rfl) ?_
    refine lv_iconst (v := nI 1) hx hb d_law_688 (by decide) ?_
    refine wf_iadd (x := i) (y := 1) hx hb d_law_689 ?_
    refine lw_ld hx hb hX hbl hB hbA (n := i + 1) (by omega) hL d_law_690 ?_
    refine wf_ti (y := nI ((xs (i + 1)).toInt.toNat)) e1 ?_
    refine callVi (As := [.int (nI ((xs (i + 1)).toInt.toNat))]) (rest := []) X hB (fun _ h => h) (k_states (l := l) (D := D) (sz := H.size)  i1 i4 i5 i6 i7 i8 i9 (by omega)) k_751 k_752 k_753 k_64 k_754 i9.1 cl_TM rfl hd_TM_states ⟨Nat.le_of_ble_eq_true rfl, Nat.le_of_ble_eq_true rfl⟩ ⟨show cells + 0 ≤ 600000 by omega, show slots + 0 ≤ 7302250 by omega⟩ hl.1 (Nat.le_of_ble_eq_true rfl) d_law_691 rfl (fun r1 w1 H1 locs1 hp1 hB1 => ?_)
    obtain ⟨q1, rfl⟩ := hp1
    have hR1 := i10
    obtain ⟨pz9, wy9, fi9, se9, ho9, lx9, ly9, ts9, tS9, cs9, av9, lz9, hz19, nl9, nh9, ce9, qd9, gmo⟩ := hR1.1
    refine lv_aload_n hx hb d_law_694 rfl (lv_at hl 2 rfl) ?_
    refine lv_aload_n hx hb d_law_695 rfl (lv_at hl 0 rfl) ?_
    refine lv_iload_n hx hb d_law_696 rfl (lv_at hl 3 rfl) ?_
    refine lv_iconst (v := nI 1) hx hb d_law_697 (by decide) ?_
    refine wf_iadd (x := i) (y := 1) hx hb d_law_698 ?_
    refine lw_ld hx hb hX hbl hB1 hbA (n := i + 1) (by omega) hL d_law_699 ?_
    refine wf_ti (y := nI ((xs (i + 1)).toInt.toNat)) e1 ?_
    refine callVi (As := [.int (nI ((xs (i + 1)).toInt.toNat))]) (rest := [.int r1]) X hB1 (fun _ h => h) (r_states (l := l) (D := D) (sz := H1.size)  i2 i4 i5 i6 i7 i8 hR1 (by omega)) k_1213 k_1214 k_1215 k_75 k_1216 gmo cl_Ref rfl hd_Ref_states ⟨Nat.le_of_ble_eq_true rfl, Nat.le_of_ble_eq_true rfl⟩ ⟨show cells + 0 + 0 ≤ 600000 by omega, show slots + 0 + 0 ≤ 7302250 by omega⟩ hl.1 (Nat.le_of_ble_eq_true rfl) d_law_700 rfl (fun r2 w2 H2 locs2 hp2 hB2 => ?_)
    obtain ⟨q2, rfl⟩ := hp2
    have heq := q1.trans q2.symm
    have hLI := hI
    refine wf_ceq (tgt := 1009) hx hb d_law_703 (by decide) rfl rfl (fun _ => ?_) (fun hne => absurd (congrArg Int32.toInt heq) hne)
    refine W.widen (k := cells + 1) (n := slots + 3) (by omega) (by omega) ?_
    exact K _ _ _ _ _ _ _ _ _ _ _ _ hLI hB2
  · refine lv_aload_n hx hb d_law_685 rfl (lv_at hl 1 rfl) ?_
    refine lv_aload_n hx hb d_law_686 rfl (lv_at hl 0 rfl) ?_
    refine lv_iload_n hx hb d_law_687 rfl (lv_at hl 3 rfl) ?_
    refine lv_iconst (v := nI 1) hx hb d_law_688 (by decide) ?_
    refine wf_iadd (x := i) (y := 1) hx hb d_law_689 ?_
    refine lw_ld hx hb hX hbl hB hbA (n := i + 1) (by omega) hL d_law_690 ?_
    refine callVi (As := [.int (xs (i + 1))]) (rest := []) X hB (fun _ h => h) (k_statesb (l := l) (D := D) (sz := H.size)  i1 i4 i5 i6 i7 i8 i9 hv) k_751 k_752 k_753 k_64 k_754 i9.1 cl_TM rfl hd_TM_states ⟨Nat.le_of_ble_eq_true rfl, Nat.le_of_ble_eq_true rfl⟩ ⟨show cells + 0 ≤ 600000 by omega, show slots + 0 ≤ 7302250 by omega⟩ hl.1 (Nat.le_of_ble_eq_true rfl) d_law_691 rfl (fun r1 w1 H1 locs1 hp1 hB1 => ?_)
    obtain ⟨q1, rfl⟩ := hp1
    have hR1 := i10
    obtain ⟨pz9, wy9, fi9, se9, ho9, lx9, ly9, ts9, tS9, cs9, av9, lz9, hz19, nl9, nh9, ce9, qd9, gmo⟩ := hR1.1
    refine lv_aload_n hx hb d_law_694 rfl (lv_at hl 2 rfl) ?_
    refine lv_aload_n hx hb d_law_695 rfl (lv_at hl 0 rfl) ?_
    refine lv_iload_n hx hb d_law_696 rfl (lv_at hl 3 rfl) ?_
    refine lv_iconst (v := nI 1) hx hb d_law_697 (by decide) ?_
    refine wf_iadd (x := i) (y := 1) hx hb d_law_698 ?_
    refine lw_ld hx hb hX hbl hB1 hbA (n := i + 1) (by omega) hL d_law_699 ?_
    refine callVi (As := [.int (xs (i + 1))]) (rest := [.int r1]) X hB1 (fun _ h => h) (r_statesb (l := l) (D := D) (sz := H1.size)  i2 i4 i5 i6 i7 i8 hR1 hv) k_1213 k_1214 k_1215 k_75 k_1216 gmo cl_Ref rfl hd_Ref_states ⟨Nat.le_of_ble_eq_true rfl, Nat.le_of_ble_eq_true rfl⟩ ⟨show cells + 0 + 0 ≤ 600000 by omega, show slots + 0 + 0 ≤ 7302250 by omega⟩ hl.1 (Nat.le_of_ble_eq_true rfl) d_law_700 rfl (fun r2 w2 H2 locs2 hp2 hB2 => ?_)
    obtain ⟨q2, rfl⟩ := hp2
    have heq := q1.trans q2.symm
    have hLI := hI
    refine wf_ceq (tgt := 1009) hx hb d_law_703 (by decide) rfl rfl (fun _ => ?_) (fun hne => absurd (congrArg Int32.toInt heq) hne)
    refine W.widen (k := cells + 1) (n := slots + 3) (by omega) (by omega) ?_
    exact K _ _ _ _ _ _ _ _ _ _ _ _ hLI hB2
set_option maxHeartbeats 4000000 in
set_option maxRecDepth 100000 in
theorem lw_c18 {l : Launch} {p : Program} {e : Env} {s : State} {m : MethodId} {below : List Frame} {meth : Method} {c : Code} {D : va_G} {t : Nat → ClassId} {nm : String} {ret0 : Option FieldType} {b L : Nat} {xs : Nat → Int32} {Q : State → Prop} {w : wf_W} {H : Heap} {locs : List Loc} {ls : Array Slot} {cells slots i : Nat} {C pa sa : Nat → Nat} {mo : Nat} {A : Nat → Nat} {k mn cz tz ca : Nat} {cl tl Sz En Nx : Nat → Nat} (X : Cx p s m meth c R_Law nm code 4 ret0 D t) (hX : va_X b L xs s s.heap) (hbl : b < s.heap.size) (hB : wf_B D wcl (fun q : Nat => s.heap.size ≤ q) s.heap w H locs) (hI : LI t w C pa sa mo A k mn cz tz ca cl tl Sz En Nx) (hl : lv_has ls 4 [(0, .ref b), (1, .ref (C 0)), (2, .ref mo), (3, .int (nI i))]) (hi : i + 3 < L) (hL : L ≤ 2049) (hcc : cells + 1 ≤ 600000 ∧ slots + 3 ≤ 7302250) (K : ∀ (w' : wf_W) (H' : Heap) (locs' : List Loc) (mn' cz' tz' ca' : Nat) (cl' tl' Sz' En' Nx' : Nat → Nat), LI t w' C pa sa mo A k mn' cz' tz' ca' cl' tl' Sz' En' Nx' → wf_B D wcl (fun q : Nat => s.heap.size ≤ q) s.heap w' H' locs' → W p l e room_1 s m #[Value.ref b] below meth c H' locs' (cells + 1) (slots + 3) Q (F0 m 1009 ls [])) : W p l e room_1 s m #[Value.ref b] below meth c H locs cells slots Q (F0 m 708 ls []) := by
  have hx := X.1
  have hb := X.2.1
  have hbA : ¬ (fun q : Nat => s.heap.size ≤ q) b := Nat.not_le.mpr hbl
  obtain ⟨i1, i2, i3, i4, i5, i6, i7, i8, i9, i10⟩ := id hI
  have hmn := i5.1
  by_cases hv : (0 ≤ (xs (i + 1)).toInt ∧ (xs (i + 1)).toInt < mn)
  · by_cases hw : (0 ≤ (xs (i + 2)).toInt ∧ (xs (i + 2)).toInt < Sz ((xs (i + 1)).toInt.toNat)) ∧ (0 ≤ (xs (i + 3)).toInt ∧ (xs (i + 3)).toInt < k)
    · have e1 : xs (i + 1) = nI ((xs (i + 1)).toInt.toNat) := nat_of (hv.1)
      have e2 : xs (i + 2) = nI ((xs (i + 2)).toInt.toNat) := nat_of (hw.1.1)
      have e3 : xs (i + 3) = nI ((xs (i + 3)).toInt.toNat) := nat_of (hw.2.1)
      refine lv_aload_n hx hb d_law_708 rfl (lv_at hl 1 rfl) ?_
      refine lv_aload_n hx hb d_law_709 rfl (lv_at hl 0 rfl) ?_
      refine lv_iload_n hx hb d_law_710 rfl (lv_at hl 3 rfl) ?_
      refine lv_iconst (v := nI 1) hx hb d_law_711 (by decide) ?_
      refine wf_iadd (x := i) (y := 1) hx hb d_law_712 ?_
      refine lw_ld hx hb hX hbl hB hbA (n := i + 1) (by omega) hL d_law_713 ?_
      refine wf_ti (y := nI ((xs (i + 1)).toInt.toNat)) e1 ?_
      refine lv_aload_n hx hb d_law_714 rfl (lv_at hl 0 rfl) ?_
      refine lv_iload_n hx hb d_law_715 rfl (lv_at hl 3 rfl) ?_
      refine lv_iconst (v := nI 2) hx hb d_law_716 (by decide) ?_
      refine wf_iadd (x := i) (y := 2) hx hb d_law_717 ?_
      refine lw_ld hx hb hX hbl hB hbA (n := i + 2) (by omega) hL d_law_718 ?_
      refine wf_ti (y := nI ((xs (i + 2)).toInt.toNat)) e2 ?_
      refine lv_aload_n hx hb d_law_719 rfl (lv_at hl 0 rfl) ?_
      refine lv_iload_n hx hb d_law_720 rfl (lv_at hl 3 rfl) ?_
      refine lv_iconst (v := nI 3) hx hb d_law_721 (by decide) ?_
      refine wf_iadd (x := i) (y := 3) hx hb d_law_722 ?_
      refine lw_ld hx hb hX hbl hB hbA (n := i + 3) (by omega) hL d_law_723 ?_
      refine wf_ti (y := nI ((xs (i + 3)).toInt.toNat)) e3 ?_
      refine callVi (As := [.int (nI ((xs (i + 1)).toInt.toNat)), .int (nI ((xs (i + 2)).toInt.toNat)), .int (nI ((xs (i + 3)).toInt.toNat))]) (rest := []) X hB (fun _ h => h) (k_next (l := l) (D := D) (sz := H.size)  i1 i4 i5 i6 i7 i8 i9 (by omega) (by omega) (by omega)) k_755 k_756 k_757 k_64 k_758 i9.1 cl_TM rfl hd_TM_next ⟨Nat.le_of_ble_eq_true rfl, Nat.le_of_ble_eq_true rfl⟩ ⟨show cells + 0 ≤ 600000 by omega, show slots + 0 ≤ 7302250 by omega⟩ hl.1 (Nat.le_of_ble_eq_true rfl) d_law_724 rfl (fun r1 w1 H1 locs1 hp1 hB1 => ?_)
      obtain ⟨q1, rfl⟩ := hp1
      have hR1 := i10
      obtain ⟨pz9, wy9, fi9, se9, ho9, lx9, ly9, ts9, tS9, cs9, av9, lz9, hz19, nl9, nh9, ce9, qd9, gmo⟩ := hR1.1
      refine lv_aload_n hx hb d_law_727 rfl (lv_at hl 2 rfl) ?_
      refine lv_aload_n hx hb d_law_728 rfl (lv_at hl 0 rfl) ?_
      refine lv_iload_n hx hb d_law_729 rfl (lv_at hl 3 rfl) ?_
      refine lv_iconst (v := nI 1) hx hb d_law_730 (by decide) ?_
      refine wf_iadd (x := i) (y := 1) hx hb d_law_731 ?_
      refine lw_ld hx hb hX hbl hB1 hbA (n := i + 1) (by omega) hL d_law_732 ?_
      refine wf_ti (y := nI ((xs (i + 1)).toInt.toNat)) e1 ?_
      refine lv_aload_n hx hb d_law_733 rfl (lv_at hl 0 rfl) ?_
      refine lv_iload_n hx hb d_law_734 rfl (lv_at hl 3 rfl) ?_
      refine lv_iconst (v := nI 2) hx hb d_law_735 (by decide) ?_
      refine wf_iadd (x := i) (y := 2) hx hb d_law_736 ?_
      refine lw_ld hx hb hX hbl hB1 hbA (n := i + 2) (by omega) hL d_law_737 ?_
      refine wf_ti (y := nI ((xs (i + 2)).toInt.toNat)) e2 ?_
      refine lv_aload_n hx hb d_law_738 rfl (lv_at hl 0 rfl) ?_
      refine lv_iload_n hx hb d_law_739 rfl (lv_at hl 3 rfl) ?_
      refine lv_iconst (v := nI 3) hx hb d_law_740 (by decide) ?_
      refine wf_iadd (x := i) (y := 3) hx hb d_law_741 ?_
      refine lw_ld hx hb hX hbl hB1 hbA (n := i + 3) (by omega) hL d_law_742 ?_
      refine wf_ti (y := nI ((xs (i + 3)).toInt.toNat)) e3 ?_
      refine callVi (As := [.int (nI ((xs (i + 1)).toInt.toNat)), .int (nI ((xs (i + 2)).toInt.toNat)), .int (nI ((xs (i + 3)).toInt.toNat))]) (rest := [.int r1]) X hB1 (fun _ h => h) (r_next (l := l) (D := D) (sz := H1.size)  i2 i4 i5 i6 i7 i8 hR1 (by omega) (by omega) (by omega)) k_1217 k_1218 k_1219 k_75 k_1220 gmo cl_Ref rfl hd_Ref_next ⟨Nat.le_of_ble_eq_true rfl, Nat.le_of_ble_eq_true rfl⟩ ⟨show cells + 0 + 0 ≤ 600000 by omega, show slots + 0 + 0 ≤ 7302250 by omega⟩ hl.1 (Nat.le_of_ble_eq_true rfl) d_law_743 rfl (fun r2 w2 H2 locs2 hp2 hB2 => ?_)
      obtain ⟨q2, rfl⟩ := hp2
      have heq := q1.trans q2.symm
      have hLI := hI
      refine wf_ceq (tgt := 1009) hx hb d_law_746 (by decide) rfl rfl (fun _ => ?_) (fun hne => absurd (congrArg Int32.toInt heq) hne)
      refine W.widen (k := cells + 1) (n := slots + 3) (by omega) (by omega) ?_
      exact K _ _ _ _ _ _ _ _ _ _ _ _ hLI hB2
    · have e1 : xs (i + 1) = nI ((xs (i + 1)).toInt.toNat) := nat_of (hv.1)
      refine lv_aload_n hx hb d_law_708 rfl (lv_at hl 1 rfl) ?_
      refine lv_aload_n hx hb d_law_709 rfl (lv_at hl 0 rfl) ?_
      refine lv_iload_n hx hb d_law_710 rfl (lv_at hl 3 rfl) ?_
      refine lv_iconst (v := nI 1) hx hb d_law_711 (by decide) ?_
      refine wf_iadd (x := i) (y := 1) hx hb d_law_712 ?_
      refine lw_ld hx hb hX hbl hB hbA (n := i + 1) (by omega) hL d_law_713 ?_
      refine wf_ti (y := nI ((xs (i + 1)).toInt.toNat)) e1 ?_
      refine lv_aload_n hx hb d_law_714 rfl (lv_at hl 0 rfl) ?_
      refine lv_iload_n hx hb d_law_715 rfl (lv_at hl 3 rfl) ?_
      refine lv_iconst (v := nI 2) hx hb d_law_716 (by decide) ?_
      refine wf_iadd (x := i) (y := 2) hx hb d_law_717 ?_
      refine lw_ld hx hb hX hbl hB hbA (n := i + 2) (by omega) hL d_law_718 ?_
      refine lv_aload_n hx hb d_law_719 rfl (lv_at hl 0 rfl) ?_
      refine lv_iload_n hx hb d_law_720 rfl (lv_at hl 3 rfl) ?_
      refine lv_iconst (v := nI 3) hx hb d_law_721 (by decide) ?_
      refine wf_iadd (x := i) (y := 3) hx hb d_law_722 ?_
      refine lw_ld hx hb hX hbl hB hbA (n := i + 3) (by omega) hL d_law_723 ?_
      refine callVi (As := [.int (nI ((xs (i + 1)).toInt.toNat)), .int (xs (i + 2)), .int (xs (i + 3))]) (rest := []) X hB (fun _ h => h) (k_nextb (l := l) (D := D) (sz := H.size)  i1 i4 i5 i6 i7 i8 i9 (by omega) hw) k_755 k_756 k_757 k_64 k_758 i9.1 cl_TM rfl hd_TM_next ⟨Nat.le_of_ble_eq_true rfl, Nat.le_of_ble_eq_true rfl⟩ ⟨show cells + 0 ≤ 600000 by omega, show slots + 0 ≤ 7302250 by omega⟩ hl.1 (Nat.le_of_ble_eq_true rfl) d_law_724 rfl (fun r1 w1 H1 locs1 hp1 hB1 => ?_)
      obtain ⟨q1, rfl⟩ := hp1
      have hR1 := i10
      obtain ⟨pz9, wy9, fi9, se9, ho9, lx9, ly9, ts9, tS9, cs9, av9, lz9, hz19, nl9, nh9, ce9, qd9, gmo⟩ := hR1.1
      refine lv_aload_n hx hb d_law_727 rfl (lv_at hl 2 rfl) ?_
      refine lv_aload_n hx hb d_law_728 rfl (lv_at hl 0 rfl) ?_
      refine lv_iload_n hx hb d_law_729 rfl (lv_at hl 3 rfl) ?_
      refine lv_iconst (v := nI 1) hx hb d_law_730 (by decide) ?_
      refine wf_iadd (x := i) (y := 1) hx hb d_law_731 ?_
      refine lw_ld hx hb hX hbl hB1 hbA (n := i + 1) (by omega) hL d_law_732 ?_
      refine wf_ti (y := nI ((xs (i + 1)).toInt.toNat)) e1 ?_
      refine lv_aload_n hx hb d_law_733 rfl (lv_at hl 0 rfl) ?_
      refine lv_iload_n hx hb d_law_734 rfl (lv_at hl 3 rfl) ?_
      refine lv_iconst (v := nI 2) hx hb d_law_735 (by decide) ?_
      refine wf_iadd (x := i) (y := 2) hx hb d_law_736 ?_
      refine lw_ld hx hb hX hbl hB1 hbA (n := i + 2) (by omega) hL d_law_737 ?_
      refine lv_aload_n hx hb d_law_738 rfl (lv_at hl 0 rfl) ?_
      refine lv_iload_n hx hb d_law_739 rfl (lv_at hl 3 rfl) ?_
      refine lv_iconst (v := nI 3) hx hb d_law_740 (by decide) ?_
      refine wf_iadd (x := i) (y := 3) hx hb d_law_741 ?_
      refine lw_ld hx hb hX hbl hB1 hbA (n := i + 3) (by omega) hL d_law_742 ?_
      refine callVi (As := [.int (nI ((xs (i + 1)).toInt.toNat)), .int (xs (i + 2)), .int (xs (i + 3))]) (rest := [.int r1]) X hB1 (fun _ h => h) (r_nextb (l := l) (D := D) (sz := H1.size)  i2 i4 i5 i6 i7 i8 hR1 (by omega) hw) k_1217 k_1218 k_1219 k_75 k_1220 gmo cl_Ref rfl hd_Ref_next ⟨Nat.le_of_ble_eq_true rfl, Nat.le_of_ble_eq_true rfl⟩ ⟨show cells + 0 + 0 ≤ 600000 by omega, show slots + 0 + 0 ≤ 7302250 by omega⟩ hl.1 (Nat.le_of_ble_eq_true rfl) d_law_743 rfl (fun r2 w2 H2 locs2 hp2 hB2 => ?_)
      obtain ⟨q2, rfl⟩ := hp2
      have heq := q1.trans q2.symm
      have hLI := hI
      refine wf_ceq (tgt := 1009) hx hb d_law_746 (by decide) rfl rfl (fun _ => ?_) (fun hne => absurd (congrArg Int32.toInt heq) hne)
      refine W.widen (k := cells + 1) (n := slots + 3) (by omega) (by omega) ?_
      exact K _ _ _ _ _ _ _ _ _ _ _ _ hLI hB2
  · refine lv_aload_n hx hb d_law_708 rfl (lv_at hl 1 rfl) ?_
    refine lv_aload_n hx hb d_law_709 rfl (lv_at hl 0 rfl) ?_
    refine lv_iload_n hx hb d_law_710 rfl (lv_at hl 3 rfl) ?_
    refine lv_iconst (v := nI 1) hx hb d_law_711 (by decide) ?_
    refine wf_iadd (x := i) (y := 1) hx hb d_law_712 ?_
    refine lw_ld hx hb hX hbl hB hbA (n := i + 1) (by omega) hL d_law_713 ?_
    refine lv_aload_n hx hb d_law_714 rfl (lv_at hl 0 rfl) ?_
    refine lv_iload_n hx hb d_law_715 rfl (lv_at hl 3 rfl) ?_
    refine lv_iconst (v := nI 2) hx hb d_law_716 (by decide) ?_
    refine wf_iadd (x := i) (y := 2) hx hb d_law_717 ?_
    refine lw_ld hx hb hX hbl hB hbA (n := i + 2) (by omega) hL d_law_718 ?_
    refine lv_aload_n hx hb d_law_719 rfl (lv_at hl 0 rfl) ?_
    refine lv_iload_n hx hb d_law_720 rfl (lv_at hl 3 rfl) ?_
    refine lv_iconst (v := nI 3) hx hb d_law_721 (by decide) ?_
    refine wf_iadd (x := i) (y := 3) hx hb d_law_722 ?_
    refine lw_ld hx hb hX hbl hB hbA (n := i + 3) (by omega) hL d_law_723 ?_
    refine callVi (As := [.int (xs (i + 1)), .int (xs (i + 2)), .int (xs (i + 3))]) (rest := []) X hB (fun _ h => h) (k_nextn (l := l) (D := D) (sz := H.size)  i1 i4 i5 i6 i7 i8 i9 hv) k_755 k_756 k_757 k_64 k_758 i9.1 cl_TM rfl hd_TM_next ⟨Nat.le_of_ble_eq_true rfl, Nat.le_of_ble_eq_true rfl⟩ ⟨show cells + 0 ≤ 600000 by omega, show slots + 0 ≤ 7302250 by omega⟩ hl.1 (Nat.le_of_ble_eq_true rfl) d_law_724 rfl (fun r1 w1 H1 locs1 hp1 hB1 => ?_)
    obtain ⟨q1, rfl⟩ := hp1
    have hR1 := i10
    obtain ⟨pz9, wy9, fi9, se9, ho9, lx9, ly9, ts9, tS9, cs9, av9, lz9, hz19, nl9, nh9, ce9, qd9, gmo⟩ := hR1.1
    refine lv_aload_n hx hb d_law_727 rfl (lv_at hl 2 rfl) ?_
    refine lv_aload_n hx hb d_law_728 rfl (lv_at hl 0 rfl) ?_
    refine lv_iload_n hx hb d_law_729 rfl (lv_at hl 3 rfl) ?_
    refine lv_iconst (v := nI 1) hx hb d_law_730 (by decide) ?_
    refine wf_iadd (x := i) (y := 1) hx hb d_law_731 ?_
    refine lw_ld hx hb hX hbl hB1 hbA (n := i + 1) (by omega) hL d_law_732 ?_
    refine lv_aload_n hx hb d_law_733 rfl (lv_at hl 0 rfl) ?_
    refine lv_iload_n hx hb d_law_734 rfl (lv_at hl 3 rfl) ?_
    refine lv_iconst (v := nI 2) hx hb d_law_735 (by decide) ?_
    refine wf_iadd (x := i) (y := 2) hx hb d_law_736 ?_
    refine lw_ld hx hb hX hbl hB1 hbA (n := i + 2) (by omega) hL d_law_737 ?_
    refine lv_aload_n hx hb d_law_738 rfl (lv_at hl 0 rfl) ?_
    refine lv_iload_n hx hb d_law_739 rfl (lv_at hl 3 rfl) ?_
    refine lv_iconst (v := nI 3) hx hb d_law_740 (by decide) ?_
    refine wf_iadd (x := i) (y := 3) hx hb d_law_741 ?_
    refine lw_ld hx hb hX hbl hB1 hbA (n := i + 3) (by omega) hL d_law_742 ?_
    refine callVi (As := [.int (xs (i + 1)), .int (xs (i + 2)), .int (xs (i + 3))]) (rest := [.int r1]) X hB1 (fun _ h => h) (r_nextn (l := l) (D := D) (sz := H1.size)  i2 i4 i5 i6 i7 i8 hR1 hv) k_1217 k_1218 k_1219 k_75 k_1220 gmo cl_Ref rfl hd_Ref_next ⟨Nat.le_of_ble_eq_true rfl, Nat.le_of_ble_eq_true rfl⟩ ⟨show cells + 0 + 0 ≤ 600000 by omega, show slots + 0 + 0 ≤ 7302250 by omega⟩ hl.1 (Nat.le_of_ble_eq_true rfl) d_law_743 rfl (fun r2 w2 H2 locs2 hp2 hB2 => ?_)
    obtain ⟨q2, rfl⟩ := hp2
    have heq := q1.trans q2.symm
    have hLI := hI
    refine wf_ceq (tgt := 1009) hx hb d_law_746 (by decide) rfl rfl (fun _ => ?_) (fun hne => absurd (congrArg Int32.toInt heq) hne)
    refine W.widen (k := cells + 1) (n := slots + 3) (by omega) (by omega) ?_
    exact K _ _ _ _ _ _ _ _ _ _ _ _ hLI hB2
set_option maxHeartbeats 4000000 in
set_option maxRecDepth 100000 in
theorem lw_c19 {l : Launch} {p : Program} {e : Env} {s : State} {m : MethodId} {below : List Frame} {meth : Method} {c : Code} {D : va_G} {t : Nat → ClassId} {nm : String} {ret0 : Option FieldType} {b L : Nat} {xs : Nat → Int32} {Q : State → Prop} {w : wf_W} {H : Heap} {locs : List Loc} {ls : Array Slot} {cells slots i : Nat} {C pa sa : Nat → Nat} {mo : Nat} {A : Nat → Nat} {k mn cz tz ca : Nat} {cl tl Sz En Nx : Nat → Nat} (X : Cx p s m meth c R_Law nm code 4 ret0 D t) (hX : va_X b L xs s s.heap) (hbl : b < s.heap.size) (hB : wf_B D wcl (fun q : Nat => s.heap.size ≤ q) s.heap w H locs) (hI : LI t w C pa sa mo A k mn cz tz ca cl tl Sz En Nx) (hl : lv_has ls 4 [(0, .ref b), (1, .ref (C 0)), (2, .ref mo), (3, .int (nI i))]) (hi : i + 3 < L) (hL : L ≤ 2049) (hcc : cells + 1 ≤ 600000 ∧ slots + 3 ≤ 7302250) (K : ∀ (w' : wf_W) (H' : Heap) (locs' : List Loc) (mn' cz' tz' ca' : Nat) (cl' tl' Sz' En' Nx' : Nat → Nat), LI t w' C pa sa mo A k mn' cz' tz' ca' cl' tl' Sz' En' Nx' → wf_B D wcl (fun q : Nat => s.heap.size ≤ q) s.heap w' H' locs' → W p l e room_1 s m #[Value.ref b] below meth c H' locs' (cells + 1) (slots + 3) Q (F0 m 1009 ls [])) : W p l e room_1 s m #[Value.ref b] below meth c H locs cells slots Q (F0 m 751 ls []) := by
  have hx := X.1
  have hb := X.2.1
  have hbA : ¬ (fun q : Nat => s.heap.size ≤ q) b := Nat.not_le.mpr hbl
  obtain ⟨i1, i2, i3, i4, i5, i6, i7, i8, i9, i10⟩ := id hI
  have hmn := i5.1
  by_cases hv : (0 ≤ (xs (i + 1)).toInt ∧ (xs (i + 1)).toInt < mn)
  · by_cases hw : 0 ≤ (xs (i + 2)).toInt ∧ (xs (i + 2)).toInt < Sz ((xs (i + 1)).toInt.toNat)
    · have e1 : xs (i + 1) = nI ((xs (i + 1)).toInt.toNat) := nat_of (hv.1)
      have e2 : xs (i + 2) = nI ((xs (i + 2)).toInt.toNat) := nat_of (hw.1)
      refine lv_aload_n hx hb d_law_751 rfl (lv_at hl 1 rfl) ?_
      refine lv_aload_n hx hb d_law_752 rfl (lv_at hl 0 rfl) ?_
      refine lv_iload_n hx hb d_law_753 rfl (lv_at hl 3 rfl) ?_
      refine lv_iconst (v := nI 1) hx hb d_law_754 (by decide) ?_
      refine wf_iadd (x := i) (y := 1) hx hb d_law_755 ?_
      refine lw_ld hx hb hX hbl hB hbA (n := i + 1) (by omega) hL d_law_756 ?_
      refine wf_ti (y := nI ((xs (i + 1)).toInt.toNat)) e1 ?_
      refine lv_aload_n hx hb d_law_757 rfl (lv_at hl 0 rfl) ?_
      refine lv_iload_n hx hb d_law_758 rfl (lv_at hl 3 rfl) ?_
      refine lv_iconst (v := nI 2) hx hb d_law_759 (by decide) ?_
      refine wf_iadd (x := i) (y := 2) hx hb d_law_760 ?_
      refine lw_ld hx hb hX hbl hB hbA (n := i + 2) (by omega) hL d_law_761 ?_
      refine wf_ti (y := nI ((xs (i + 2)).toInt.toNat)) e2 ?_
      refine callVi (As := [.int (nI ((xs (i + 1)).toInt.toNat)), .int (nI ((xs (i + 2)).toInt.toNat))]) (rest := []) X hB (fun _ h => h) (k_end (l := l) (D := D) (sz := H.size)  i1 i4 i5 i6 i7 i8 i9 (by omega) (by omega)) k_764 k_765 k_766 k_64 k_767 i9.1 cl_TM rfl hd_TM_end ⟨Nat.le_of_ble_eq_true rfl, Nat.le_of_ble_eq_true rfl⟩ ⟨show cells + 0 ≤ 600000 by omega, show slots + 0 ≤ 7302250 by omega⟩ hl.1 (Nat.le_of_ble_eq_true rfl) d_law_762 rfl (fun r1 w1 H1 locs1 hp1 hB1 => ?_)
      obtain ⟨q1, rfl⟩ := hp1
      have hR1 := i10
      obtain ⟨pz9, wy9, fi9, se9, ho9, lx9, ly9, ts9, tS9, cs9, av9, lz9, hz19, nl9, nh9, ce9, qd9, gmo⟩ := hR1.1
      refine lv_aload_n hx hb d_law_765 rfl (lv_at hl 2 rfl) ?_
      refine lv_aload_n hx hb d_law_766 rfl (lv_at hl 0 rfl) ?_
      refine lv_iload_n hx hb d_law_767 rfl (lv_at hl 3 rfl) ?_
      refine lv_iconst (v := nI 1) hx hb d_law_768 (by decide) ?_
      refine wf_iadd (x := i) (y := 1) hx hb d_law_769 ?_
      refine lw_ld hx hb hX hbl hB1 hbA (n := i + 1) (by omega) hL d_law_770 ?_
      refine wf_ti (y := nI ((xs (i + 1)).toInt.toNat)) e1 ?_
      refine lv_aload_n hx hb d_law_771 rfl (lv_at hl 0 rfl) ?_
      refine lv_iload_n hx hb d_law_772 rfl (lv_at hl 3 rfl) ?_
      refine lv_iconst (v := nI 2) hx hb d_law_773 (by decide) ?_
      refine wf_iadd (x := i) (y := 2) hx hb d_law_774 ?_
      refine lw_ld hx hb hX hbl hB1 hbA (n := i + 2) (by omega) hL d_law_775 ?_
      refine wf_ti (y := nI ((xs (i + 2)).toInt.toNat)) e2 ?_
      refine callVi (As := [.int (nI ((xs (i + 1)).toInt.toNat)), .int (nI ((xs (i + 2)).toInt.toNat))]) (rest := [.int r1]) X hB1 (fun _ h => h) (r_end (l := l) (D := D) (sz := H1.size)  i2 i4 i5 i6 i7 i8 hR1 (by omega) (by omega)) k_1221 k_1222 k_1223 k_75 k_1224 gmo cl_Ref rfl hd_Ref_end ⟨Nat.le_of_ble_eq_true rfl, Nat.le_of_ble_eq_true rfl⟩ ⟨show cells + 0 + 0 ≤ 600000 by omega, show slots + 0 + 0 ≤ 7302250 by omega⟩ hl.1 (Nat.le_of_ble_eq_true rfl) d_law_776 rfl (fun r2 w2 H2 locs2 hp2 hB2 => ?_)
      obtain ⟨q2, rfl⟩ := hp2
      have heq := q1.trans q2.symm
      have hLI := hI
      refine wf_ceq (tgt := 1009) hx hb d_law_779 (by decide) rfl rfl (fun _ => ?_) (fun hne => absurd (congrArg Int32.toInt heq) hne)
      refine W.widen (k := cells + 1) (n := slots + 3) (by omega) (by omega) ?_
      exact K _ _ _ _ _ _ _ _ _ _ _ _ hLI hB2
    · have e1 : xs (i + 1) = nI ((xs (i + 1)).toInt.toNat) := nat_of (hv.1)
      refine lv_aload_n hx hb d_law_751 rfl (lv_at hl 1 rfl) ?_
      refine lv_aload_n hx hb d_law_752 rfl (lv_at hl 0 rfl) ?_
      refine lv_iload_n hx hb d_law_753 rfl (lv_at hl 3 rfl) ?_
      refine lv_iconst (v := nI 1) hx hb d_law_754 (by decide) ?_
      refine wf_iadd (x := i) (y := 1) hx hb d_law_755 ?_
      refine lw_ld hx hb hX hbl hB hbA (n := i + 1) (by omega) hL d_law_756 ?_
      refine wf_ti (y := nI ((xs (i + 1)).toInt.toNat)) e1 ?_
      refine lv_aload_n hx hb d_law_757 rfl (lv_at hl 0 rfl) ?_
      refine lv_iload_n hx hb d_law_758 rfl (lv_at hl 3 rfl) ?_
      refine lv_iconst (v := nI 2) hx hb d_law_759 (by decide) ?_
      refine wf_iadd (x := i) (y := 2) hx hb d_law_760 ?_
      refine lw_ld hx hb hX hbl hB hbA (n := i + 2) (by omega) hL d_law_761 ?_
      refine callVi (As := [.int (nI ((xs (i + 1)).toInt.toNat)), .int (xs (i + 2))]) (rest := []) X hB (fun _ h => h) (k_endb (l := l) (D := D) (sz := H.size)  i1 i4 i5 i6 i7 i8 i9 (by omega) hw) k_764 k_765 k_766 k_64 k_767 i9.1 cl_TM rfl hd_TM_end ⟨Nat.le_of_ble_eq_true rfl, Nat.le_of_ble_eq_true rfl⟩ ⟨show cells + 0 ≤ 600000 by omega, show slots + 0 ≤ 7302250 by omega⟩ hl.1 (Nat.le_of_ble_eq_true rfl) d_law_762 rfl (fun r1 w1 H1 locs1 hp1 hB1 => ?_)
      obtain ⟨q1, rfl⟩ := hp1
      have hR1 := i10
      obtain ⟨pz9, wy9, fi9, se9, ho9, lx9, ly9, ts9, tS9, cs9, av9, lz9, hz19, nl9, nh9, ce9, qd9, gmo⟩ := hR1.1
      refine lv_aload_n hx hb d_law_765 rfl (lv_at hl 2 rfl) ?_
      refine lv_aload_n hx hb d_law_766 rfl (lv_at hl 0 rfl) ?_
      refine lv_iload_n hx hb d_law_767 rfl (lv_at hl 3 rfl) ?_
      refine lv_iconst (v := nI 1) hx hb d_law_768 (by decide) ?_
      refine wf_iadd (x := i) (y := 1) hx hb d_law_769 ?_
      refine lw_ld hx hb hX hbl hB1 hbA (n := i + 1) (by omega) hL d_law_770 ?_
      refine wf_ti (y := nI ((xs (i + 1)).toInt.toNat)) e1 ?_
      refine lv_aload_n hx hb d_law_771 rfl (lv_at hl 0 rfl) ?_
      refine lv_iload_n hx hb d_law_772 rfl (lv_at hl 3 rfl) ?_
      refine lv_iconst (v := nI 2) hx hb d_law_773 (by decide) ?_
      refine wf_iadd (x := i) (y := 2) hx hb d_law_774 ?_
      refine lw_ld hx hb hX hbl hB1 hbA (n := i + 2) (by omega) hL d_law_775 ?_
      refine callVi (As := [.int (nI ((xs (i + 1)).toInt.toNat)), .int (xs (i + 2))]) (rest := [.int r1]) X hB1 (fun _ h => h) (r_endb (l := l) (D := D) (sz := H1.size)  i2 i4 i5 i6 i7 i8 hR1 (by omega) hw) k_1221 k_1222 k_1223 k_75 k_1224 gmo cl_Ref rfl hd_Ref_end ⟨Nat.le_of_ble_eq_true rfl, Nat.le_of_ble_eq_true rfl⟩ ⟨show cells + 0 + 0 ≤ 600000 by omega, show slots + 0 + 0 ≤ 7302250 by omega⟩ hl.1 (Nat.le_of_ble_eq_true rfl) d_law_776 rfl (fun r2 w2 H2 locs2 hp2 hB2 => ?_)
      obtain ⟨q2, rfl⟩ := hp2
      have heq := q1.trans q2.symm
      have hLI := hI
      refine wf_ceq (tgt := 1009) hx hb d_law_779 (by decide) rfl rfl (fun _ => ?_) (fun hne => absurd (congrArg Int32.toInt heq) hne)
      refine W.widen (k := cells + 1) (n := slots + 3) (by omega) (by omega) ?_
      exact K _ _ _ _ _ _ _ _ _ _ _ _ hLI hB2
  · refine lv_aload_n hx hb d_law_751 rfl (lv_at hl 1 rfl) ?_
    refine lv_aload_n hx hb d_law_752 rfl (lv_at hl 0 rfl) ?_
    refine lv_iload_n hx hb d_law_753 rfl (lv_at hl 3 rfl) ?_
    refine lv_iconst (v := nI 1) hx hb d_law_754 (by decide) ?_
    refine wf_iadd (x := i) (y := 1) hx hb d_law_755 ?_
    refine lw_ld hx hb hX hbl hB hbA (n := i + 1) (by omega) hL d_law_756 ?_
    refine lv_aload_n hx hb d_law_757 rfl (lv_at hl 0 rfl) ?_
    refine lv_iload_n hx hb d_law_758 rfl (lv_at hl 3 rfl) ?_
    refine lv_iconst (v := nI 2) hx hb d_law_759 (by decide) ?_
    refine wf_iadd (x := i) (y := 2) hx hb d_law_760 ?_
    refine lw_ld hx hb hX hbl hB hbA (n := i + 2) (by omega) hL d_law_761 ?_
    refine callVi (As := [.int (xs (i + 1)), .int (xs (i + 2))]) (rest := []) X hB (fun _ h => h) (k_endn (l := l) (D := D) (sz := H.size)  i1 i4 i5 i6 i7 i8 i9 hv) k_764 k_765 k_766 k_64 k_767 i9.1 cl_TM rfl hd_TM_end ⟨Nat.le_of_ble_eq_true rfl, Nat.le_of_ble_eq_true rfl⟩ ⟨show cells + 0 ≤ 600000 by omega, show slots + 0 ≤ 7302250 by omega⟩ hl.1 (Nat.le_of_ble_eq_true rfl) d_law_762 rfl (fun r1 w1 H1 locs1 hp1 hB1 => ?_)
    obtain ⟨q1, rfl⟩ := hp1
    have hR1 := i10
    obtain ⟨pz9, wy9, fi9, se9, ho9, lx9, ly9, ts9, tS9, cs9, av9, lz9, hz19, nl9, nh9, ce9, qd9, gmo⟩ := hR1.1
    refine lv_aload_n hx hb d_law_765 rfl (lv_at hl 2 rfl) ?_
    refine lv_aload_n hx hb d_law_766 rfl (lv_at hl 0 rfl) ?_
    refine lv_iload_n hx hb d_law_767 rfl (lv_at hl 3 rfl) ?_
    refine lv_iconst (v := nI 1) hx hb d_law_768 (by decide) ?_
    refine wf_iadd (x := i) (y := 1) hx hb d_law_769 ?_
    refine lw_ld hx hb hX hbl hB1 hbA (n := i + 1) (by omega) hL d_law_770 ?_
    refine lv_aload_n hx hb d_law_771 rfl (lv_at hl 0 rfl) ?_
    refine lv_iload_n hx hb d_law_772 rfl (lv_at hl 3 rfl) ?_
    refine lv_iconst (v := nI 2) hx hb d_law_773 (by decide) ?_
    refine wf_iadd (x := i) (y := 2) hx hb d_law_774 ?_
    refine lw_ld hx hb hX hbl hB1 hbA (n := i + 2) (by omega) hL d_law_775 ?_
    refine callVi (As := [.int (xs (i + 1)), .int (xs (i + 2))]) (rest := [.int r1]) X hB1 (fun _ h => h) (r_endn (l := l) (D := D) (sz := H1.size)  i2 i4 i5 i6 i7 i8 hR1 hv) k_1221 k_1222 k_1223 k_75 k_1224 gmo cl_Ref rfl hd_Ref_end ⟨Nat.le_of_ble_eq_true rfl, Nat.le_of_ble_eq_true rfl⟩ ⟨show cells + 0 + 0 ≤ 600000 by omega, show slots + 0 + 0 ≤ 7302250 by omega⟩ hl.1 (Nat.le_of_ble_eq_true rfl) d_law_776 rfl (fun r2 w2 H2 locs2 hp2 hB2 => ?_)
    obtain ⟨q2, rfl⟩ := hp2
    have heq := q1.trans q2.symm
    have hLI := hI
    refine wf_ceq (tgt := 1009) hx hb d_law_779 (by decide) rfl rfl (fun _ => ?_) (fun hne => absurd (congrArg Int32.toInt heq) hne)
    refine W.widen (k := cells + 1) (n := slots + 3) (by omega) (by omega) ?_
    exact K _ _ _ _ _ _ _ _ _ _ _ _ hLI hB2
set_option maxHeartbeats 4000000 in
set_option maxRecDepth 100000 in
theorem lw_c20 {l : Launch} {p : Program} {e : Env} {s : State} {m : MethodId} {below : List Frame} {meth : Method} {c : Code} {D : va_G} {t : Nat → ClassId} {nm : String} {ret0 : Option FieldType} {b L : Nat} {xs : Nat → Int32} {Q : State → Prop} {w : wf_W} {H : Heap} {locs : List Loc} {ls : Array Slot} {cells slots i : Nat} {C pa sa : Nat → Nat} {mo : Nat} {A : Nat → Nat} {k mn cz tz ca : Nat} {cl tl Sz En Nx : Nat → Nat} (X : Cx p s m meth c R_Law nm code 4 ret0 D t) (hX : va_X b L xs s s.heap) (hbl : b < s.heap.size) (hB : wf_B D wcl (fun q : Nat => s.heap.size ≤ q) s.heap w H locs) (hI : LI t w C pa sa mo A k mn cz tz ca cl tl Sz En Nx) (hl : lv_has ls 4 [(0, .ref b), (1, .ref (C 0)), (2, .ref mo), (3, .int (nI i))]) (hi : i + 3 < L) (hL : L ≤ 2049) (hcc : cells + 1 ≤ 600000 ∧ slots + 3 ≤ 7302250) (K : ∀ (w' : wf_W) (H' : Heap) (locs' : List Loc) (mn' cz' tz' ca' : Nat) (cl' tl' Sz' En' Nx' : Nat → Nat), LI t w' C pa sa mo A k mn' cz' tz' ca' cl' tl' Sz' En' Nx' → wf_B D wcl (fun q : Nat => s.heap.size ≤ q) s.heap w' H' locs' → W p l e room_1 s m #[Value.ref b] below meth c H' locs' (cells + 1) (slots + 3) Q (F0 m 1009 ls [])) : W p l e room_1 s m #[Value.ref b] below meth c H locs cells slots Q (F0 m 784 ls []) := by
  have hx := X.1
  have hb := X.2.1
  have hbA : ¬ (fun q : Nat => s.heap.size ≤ q) b := Nat.not_le.mpr hbl
  obtain ⟨i1, i2, i3, i4, i5, i6, i7, i8, i9, i10⟩ := id hI
  have hmn := i5.1
  by_cases hv : (0 ≤ (xs (i + 1)).toInt ∧ (xs (i + 1)).toInt < mn)
  · have e1 : xs (i + 1) = nI ((xs (i + 1)).toInt.toNat) := nat_of (hv.1)
    refine lv_aload_n hx hb d_law_784 rfl (lv_at hl 1 rfl) ?_
    refine lv_aload_n hx hb d_law_785 rfl (lv_at hl 0 rfl) ?_
    refine lv_iload_n hx hb d_law_786 rfl (lv_at hl 3 rfl) ?_
    refine lv_iconst (v := nI 1) hx hb d_law_787 (by decide) ?_
    refine wf_iadd (x := i) (y := 1) hx hb d_law_788 ?_
    refine lw_ld hx hb hX hbl hB hbA (n := i + 1) (by omega) hL d_law_789 ?_
    refine wf_ti (y := nI ((xs (i + 1)).toInt.toNat)) e1 ?_
    refine callVi (As := [.int (nI ((xs (i + 1)).toInt.toNat))]) (rest := []) X hB (fun _ h => h) (k_has (l := l) (D := D) (sz := H.size)  i1 i4 i5 i6 i7 i8 i9 (by omega)) k_769 k_770 k_771 k_64 k_772 i9.1 cl_TM rfl hd_TM_has ⟨Nat.le_of_ble_eq_true rfl, Nat.le_of_ble_eq_true rfl⟩ ⟨show cells + 0 ≤ 600000 by omega, show slots + 0 ≤ 7302250 by omega⟩ hl.1 (Nat.le_of_ble_eq_true rfl) d_law_790 rfl (fun r1 w1 H1 locs1 hp1 hB1 => ?_)
    obtain ⟨q1, rfl⟩ := hp1
    have hR1 := i10
    obtain ⟨pz9, wy9, fi9, se9, ho9, lx9, ly9, ts9, tS9, cs9, av9, lz9, hz19, nl9, nh9, ce9, qd9, gmo⟩ := hR1.1
    refine lv_aload_n hx hb d_law_793 rfl (lv_at hl 2 rfl) ?_
    refine lv_aload_n hx hb d_law_794 rfl (lv_at hl 0 rfl) ?_
    refine lv_iload_n hx hb d_law_795 rfl (lv_at hl 3 rfl) ?_
    refine lv_iconst (v := nI 1) hx hb d_law_796 (by decide) ?_
    refine wf_iadd (x := i) (y := 1) hx hb d_law_797 ?_
    refine lw_ld hx hb hX hbl hB1 hbA (n := i + 1) (by omega) hL d_law_798 ?_
    refine wf_ti (y := nI ((xs (i + 1)).toInt.toNat)) e1 ?_
    refine callVi (As := [.int (nI ((xs (i + 1)).toInt.toNat))]) (rest := [.int r1]) X hB1 (fun _ h => h) (r_has (l := l) (D := D) (sz := H1.size)  i2 i4 i5 i6 i7 i8 hR1 (by omega)) k_1225 k_1226 k_1227 k_75 k_1228 gmo cl_Ref rfl hd_Ref_has ⟨Nat.le_of_ble_eq_true rfl, Nat.le_of_ble_eq_true rfl⟩ ⟨show cells + 0 + 0 ≤ 600000 by omega, show slots + 0 + 0 ≤ 7302250 by omega⟩ hl.1 (Nat.le_of_ble_eq_true rfl) d_law_799 rfl (fun r2 w2 H2 locs2 hp2 hB2 => ?_)
    obtain ⟨q2, rfl⟩ := hp2
    have heq := q1.trans q2.symm
    have hLI := hI
    refine wf_ceq (tgt := 1009) hx hb d_law_802 (by decide) rfl rfl (fun _ => ?_) (fun hne => absurd (congrArg Int32.toInt heq) hne)
    refine W.widen (k := cells + 1) (n := slots + 3) (by omega) (by omega) ?_
    exact K _ _ _ _ _ _ _ _ _ _ _ _ hLI hB2
  · refine lv_aload_n hx hb d_law_784 rfl (lv_at hl 1 rfl) ?_
    refine lv_aload_n hx hb d_law_785 rfl (lv_at hl 0 rfl) ?_
    refine lv_iload_n hx hb d_law_786 rfl (lv_at hl 3 rfl) ?_
    refine lv_iconst (v := nI 1) hx hb d_law_787 (by decide) ?_
    refine wf_iadd (x := i) (y := 1) hx hb d_law_788 ?_
    refine lw_ld hx hb hX hbl hB hbA (n := i + 1) (by omega) hL d_law_789 ?_
    refine callVi (As := [.int (xs (i + 1))]) (rest := []) X hB (fun _ h => h) (k_hasb (l := l) (D := D) (sz := H.size)  i1 i4 i5 i6 i7 i8 i9 hv) k_769 k_770 k_771 k_64 k_772 i9.1 cl_TM rfl hd_TM_has ⟨Nat.le_of_ble_eq_true rfl, Nat.le_of_ble_eq_true rfl⟩ ⟨show cells + 0 ≤ 600000 by omega, show slots + 0 ≤ 7302250 by omega⟩ hl.1 (Nat.le_of_ble_eq_true rfl) d_law_790 rfl (fun r1 w1 H1 locs1 hp1 hB1 => ?_)
    obtain ⟨q1, rfl⟩ := hp1
    have hR1 := i10
    obtain ⟨pz9, wy9, fi9, se9, ho9, lx9, ly9, ts9, tS9, cs9, av9, lz9, hz19, nl9, nh9, ce9, qd9, gmo⟩ := hR1.1
    refine lv_aload_n hx hb d_law_793 rfl (lv_at hl 2 rfl) ?_
    refine lv_aload_n hx hb d_law_794 rfl (lv_at hl 0 rfl) ?_
    refine lv_iload_n hx hb d_law_795 rfl (lv_at hl 3 rfl) ?_
    refine lv_iconst (v := nI 1) hx hb d_law_796 (by decide) ?_
    refine wf_iadd (x := i) (y := 1) hx hb d_law_797 ?_
    refine lw_ld hx hb hX hbl hB1 hbA (n := i + 1) (by omega) hL d_law_798 ?_
    refine callVi (As := [.int (xs (i + 1))]) (rest := [.int r1]) X hB1 (fun _ h => h) (r_hasb (l := l) (D := D) (sz := H1.size)  i2 i4 i5 i6 i7 i8 hR1 hv) k_1225 k_1226 k_1227 k_75 k_1228 gmo cl_Ref rfl hd_Ref_has ⟨Nat.le_of_ble_eq_true rfl, Nat.le_of_ble_eq_true rfl⟩ ⟨show cells + 0 + 0 ≤ 600000 by omega, show slots + 0 + 0 ≤ 7302250 by omega⟩ hl.1 (Nat.le_of_ble_eq_true rfl) d_law_799 rfl (fun r2 w2 H2 locs2 hp2 hB2 => ?_)
    obtain ⟨q2, rfl⟩ := hp2
    have heq := q1.trans q2.symm
    have hLI := hI
    refine wf_ceq (tgt := 1009) hx hb d_law_802 (by decide) rfl rfl (fun _ => ?_) (fun hne => absurd (congrArg Int32.toInt heq) hne)
    refine W.widen (k := cells + 1) (n := slots + 3) (by omega) (by omega) ?_
    exact K _ _ _ _ _ _ _ _ _ _ _ _ hLI hB2
set_option maxHeartbeats 4000000 in
set_option maxRecDepth 100000 in
theorem lw_c21 {l : Launch} {p : Program} {e : Env} {s : State} {m : MethodId} {below : List Frame} {meth : Method} {c : Code} {D : va_G} {t : Nat → ClassId} {nm : String} {ret0 : Option FieldType} {b L : Nat} {xs : Nat → Int32} {Q : State → Prop} {w : wf_W} {H : Heap} {locs : List Loc} {ls : Array Slot} {cells slots i : Nat} {C pa sa : Nat → Nat} {mo : Nat} {A : Nat → Nat} {k mn cz tz ca : Nat} {cl tl Sz En Nx : Nat → Nat} (X : Cx p s m meth c R_Law nm code 4 ret0 D t) (hX : va_X b L xs s s.heap) (hbl : b < s.heap.size) (hB : wf_B D wcl (fun q : Nat => s.heap.size ≤ q) s.heap w H locs) (hI : LI t w C pa sa mo A k mn cz tz ca cl tl Sz En Nx) (hl : lv_has ls 4 [(0, .ref b), (1, .ref (C 0)), (2, .ref mo), (3, .int (nI i))]) (hi : i + 3 < L) (hL : L ≤ 2049) (hcc : cells + 1 ≤ 600000 ∧ slots + 3 ≤ 7302250) (K : ∀ (w' : wf_W) (H' : Heap) (locs' : List Loc) (mn' cz' tz' ca' : Nat) (cl' tl' Sz' En' Nx' : Nat → Nat), LI t w' C pa sa mo A k mn' cz' tz' ca' cl' tl' Sz' En' Nx' → wf_B D wcl (fun q : Nat => s.heap.size ≤ q) s.heap w' H' locs' → W p l e room_1 s m #[Value.ref b] below meth c H' locs' (cells + 1) (slots + 3) Q (F0 m 1009 ls [])) : W p l e room_1 s m #[Value.ref b] below meth c H locs cells slots Q (F0 m 807 ls []) := by
  have hx := X.1
  have hb := X.2.1
  have hbA : ¬ (fun q : Nat => s.heap.size ≤ q) b := Nat.not_le.mpr hbl
  obtain ⟨i1, i2, i3, i4, i5, i6, i7, i8, i9, i10⟩ := id hI
  have hmn := i5.1
  by_cases hv : (0 ≤ (xs (i + 1)).toInt ∧ (xs (i + 1)).toInt < mn) ∧ (0 ≤ (xs (i + 2)).toInt ∧ (xs (i + 2)).toInt < mn)
  · have e1 : xs (i + 1) = nI ((xs (i + 1)).toInt.toNat) := nat_of (hv.1.1)
    have e2 : xs (i + 2) = nI ((xs (i + 2)).toInt.toNat) := nat_of (hv.2.1)
    refine lv_aload_n hx hb d_law_807 rfl (lv_at hl 1 rfl) ?_
    refine lv_aload_n hx hb d_law_808 rfl (lv_at hl 0 rfl) ?_
    refine lv_iload_n hx hb d_law_809 rfl (lv_at hl 3 rfl) ?_
    refine lv_iconst (v := nI 1) hx hb d_law_810 (by decide) ?_
    refine wf_iadd (x := i) (y := 1) hx hb d_law_811 ?_
    refine lw_ld hx hb hX hbl hB hbA (n := i + 1) (by omega) hL d_law_812 ?_
    refine wf_ti (y := nI ((xs (i + 1)).toInt.toNat)) e1 ?_
    refine lv_aload_n hx hb d_law_813 rfl (lv_at hl 0 rfl) ?_
    refine lv_iload_n hx hb d_law_814 rfl (lv_at hl 3 rfl) ?_
    refine lv_iconst (v := nI 2) hx hb d_law_815 (by decide) ?_
    refine wf_iadd (x := i) (y := 2) hx hb d_law_816 ?_
    refine lw_ld hx hb hX hbl hB hbA (n := i + 2) (by omega) hL d_law_817 ?_
    refine wf_ti (y := nI ((xs (i + 2)).toInt.toNat)) e2 ?_
    refine callVi (As := [.int (nI ((xs (i + 1)).toInt.toNat)), .int (nI ((xs (i + 2)).toInt.toNat))]) (rest := []) X hB (fun _ h => h) (k_within (l := l) (D := D) (sz := H.size)  i1 i4 i5 i6 i7 i8 i9 (by omega) (by omega)) k_778 k_779 k_780 k_64 k_781 i9.1 cl_TM rfl hd_TM_within ⟨Nat.le_of_ble_eq_true rfl, Nat.le_of_ble_eq_true rfl⟩ ⟨show cells + 0 ≤ 600000 by omega, show slots + 0 ≤ 7302250 by omega⟩ hl.1 (Nat.le_of_ble_eq_true rfl) d_law_818 rfl (fun r1 w1 H1 locs1 hp1 hB1 => ?_)
    obtain ⟨q1, hC1, hf1⟩ := hp1
    have hR1 := RSt_C i3 hf1 i10
    obtain ⟨pz9, wy9, fi9, se9, ho9, lx9, ly9, ts9, tS9, cs9, av9, lz9, hz19, nl9, nh9, ce9, qd9, gmo⟩ := hR1.1
    refine lv_aload_n hx hb d_law_821 rfl (lv_at hl 2 rfl) ?_
    refine lv_aload_n hx hb d_law_822 rfl (lv_at hl 0 rfl) ?_
    refine lv_iload_n hx hb d_law_823 rfl (lv_at hl 3 rfl) ?_
    refine lv_iconst (v := nI 1) hx hb d_law_824 (by decide) ?_
    refine wf_iadd (x := i) (y := 1) hx hb d_law_825 ?_
    refine lw_ld hx hb hX hbl hB1 hbA (n := i + 1) (by omega) hL d_law_826 ?_
    refine wf_ti (y := nI ((xs (i + 1)).toInt.toNat)) e1 ?_
    refine lv_aload_n hx hb d_law_827 rfl (lv_at hl 0 rfl) ?_
    refine lv_iload_n hx hb d_law_828 rfl (lv_at hl 3 rfl) ?_
    refine lv_iconst (v := nI 2) hx hb d_law_829 (by decide) ?_
    refine wf_iadd (x := i) (y := 2) hx hb d_law_830 ?_
    refine lw_ld hx hb hX hbl hB1 hbA (n := i + 2) (by omega) hL d_law_831 ?_
    refine wf_ti (y := nI ((xs (i + 2)).toInt.toNat)) e2 ?_
    refine callVi (As := [.int (nI ((xs (i + 1)).toInt.toNat)), .int (nI ((xs (i + 2)).toInt.toNat))]) (rest := [.int r1]) X hB1 (fun _ h => h) (r_within (l := l) (D := D) (sz := H1.size)  i2 i4 i5 i6 i7 i8 hR1 (by omega) (by omega)) k_1229 k_1230 k_1231 k_75 k_1232 gmo cl_Ref rfl hd_Ref_within ⟨Nat.le_of_ble_eq_true rfl, Nat.le_of_ble_eq_true rfl⟩ ⟨show cells + 0 + 0 ≤ 600000 by omega, show slots + 0 + 0 ≤ 7302250 by omega⟩ hl.1 (Nat.le_of_ble_eq_true rfl) d_law_832 rfl (fun r2 w2 H2 locs2 hp2 hB2 => ?_)
    obtain ⟨q2, hR2, hf2⟩ := hp2
    have heq := opWi_det (by omega) q1 q2
    have hLI := LI_tl hI hC1 hf2 hR2 rfl (fun _ _ => rfl) i7
    refine wf_ceq (tgt := 1009) hx hb d_law_835 (by decide) rfl rfl (fun _ => ?_) (fun hne => absurd (congrArg Int32.toInt heq) hne)
    refine W.widen (k := cells + 1) (n := slots + 3) (by omega) (by omega) ?_
    exact K _ _ _ _ _ _ _ _ _ _ _ _ hLI hB2
  · refine lv_aload_n hx hb d_law_807 rfl (lv_at hl 1 rfl) ?_
    refine lv_aload_n hx hb d_law_808 rfl (lv_at hl 0 rfl) ?_
    refine lv_iload_n hx hb d_law_809 rfl (lv_at hl 3 rfl) ?_
    refine lv_iconst (v := nI 1) hx hb d_law_810 (by decide) ?_
    refine wf_iadd (x := i) (y := 1) hx hb d_law_811 ?_
    refine lw_ld hx hb hX hbl hB hbA (n := i + 1) (by omega) hL d_law_812 ?_
    refine lv_aload_n hx hb d_law_813 rfl (lv_at hl 0 rfl) ?_
    refine lv_iload_n hx hb d_law_814 rfl (lv_at hl 3 rfl) ?_
    refine lv_iconst (v := nI 2) hx hb d_law_815 (by decide) ?_
    refine wf_iadd (x := i) (y := 2) hx hb d_law_816 ?_
    refine lw_ld hx hb hX hbl hB hbA (n := i + 2) (by omega) hL d_law_817 ?_
    refine callVi (As := [.int (xs (i + 1)), .int (xs (i + 2))]) (rest := []) X hB (fun _ h => h) (k_withinb (l := l) (D := D) (sz := H.size)  i1 i4 i5 i6 i7 i8 i9 hv) k_778 k_779 k_780 k_64 k_781 i9.1 cl_TM rfl hd_TM_within ⟨Nat.le_of_ble_eq_true rfl, Nat.le_of_ble_eq_true rfl⟩ ⟨show cells + 0 ≤ 600000 by omega, show slots + 0 ≤ 7302250 by omega⟩ hl.1 (Nat.le_of_ble_eq_true rfl) d_law_818 rfl (fun r1 w1 H1 locs1 hp1 hB1 => ?_)
    obtain ⟨q1, rfl⟩ := hp1
    have hR1 := i10
    obtain ⟨pz9, wy9, fi9, se9, ho9, lx9, ly9, ts9, tS9, cs9, av9, lz9, hz19, nl9, nh9, ce9, qd9, gmo⟩ := hR1.1
    refine lv_aload_n hx hb d_law_821 rfl (lv_at hl 2 rfl) ?_
    refine lv_aload_n hx hb d_law_822 rfl (lv_at hl 0 rfl) ?_
    refine lv_iload_n hx hb d_law_823 rfl (lv_at hl 3 rfl) ?_
    refine lv_iconst (v := nI 1) hx hb d_law_824 (by decide) ?_
    refine wf_iadd (x := i) (y := 1) hx hb d_law_825 ?_
    refine lw_ld hx hb hX hbl hB1 hbA (n := i + 1) (by omega) hL d_law_826 ?_
    refine lv_aload_n hx hb d_law_827 rfl (lv_at hl 0 rfl) ?_
    refine lv_iload_n hx hb d_law_828 rfl (lv_at hl 3 rfl) ?_
    refine lv_iconst (v := nI 2) hx hb d_law_829 (by decide) ?_
    refine wf_iadd (x := i) (y := 2) hx hb d_law_830 ?_
    refine lw_ld hx hb hX hbl hB1 hbA (n := i + 2) (by omega) hL d_law_831 ?_
    refine callVi (As := [.int (xs (i + 1)), .int (xs (i + 2))]) (rest := [.int r1]) X hB1 (fun _ h => h) (r_withinb (l := l) (D := D) (sz := H1.size)  i2 i4 i5 i6 i7 i8 hR1 hv) k_1229 k_1230 k_1231 k_75 k_1232 gmo cl_Ref rfl hd_Ref_within ⟨Nat.le_of_ble_eq_true rfl, Nat.le_of_ble_eq_true rfl⟩ ⟨show cells + 0 + 0 ≤ 600000 by omega, show slots + 0 + 0 ≤ 7302250 by omega⟩ hl.1 (Nat.le_of_ble_eq_true rfl) d_law_832 rfl (fun r2 w2 H2 locs2 hp2 hB2 => ?_)
    obtain ⟨q2, rfl⟩ := hp2
    have heq := q1.trans q2.symm
    have hLI := hI
    refine wf_ceq (tgt := 1009) hx hb d_law_835 (by decide) rfl rfl (fun _ => ?_) (fun hne => absurd (congrArg Int32.toInt heq) hne)
    refine W.widen (k := cells + 1) (n := slots + 3) (by omega) (by omega) ?_
    exact K _ _ _ _ _ _ _ _ _ _ _ _ hLI hB2
set_option maxHeartbeats 4000000 in
set_option maxRecDepth 100000 in
theorem lw_c22 {l : Launch} {p : Program} {e : Env} {s : State} {m : MethodId} {below : List Frame} {meth : Method} {c : Code} {D : va_G} {t : Nat → ClassId} {nm : String} {ret0 : Option FieldType} {b L : Nat} {xs : Nat → Int32} {Q : State → Prop} {w : wf_W} {H : Heap} {locs : List Loc} {ls : Array Slot} {cells slots i : Nat} {C pa sa : Nat → Nat} {mo : Nat} {A : Nat → Nat} {k mn cz tz ca : Nat} {cl tl Sz En Nx : Nat → Nat} (X : Cx p s m meth c R_Law nm code 4 ret0 D t) (hX : va_X b L xs s s.heap) (hbl : b < s.heap.size) (hB : wf_B D wcl (fun q : Nat => s.heap.size ≤ q) s.heap w H locs) (hI : LI t w C pa sa mo A k mn cz tz ca cl tl Sz En Nx) (hl : lv_has ls 4 [(0, .ref b), (1, .ref (C 0)), (2, .ref mo), (3, .int (nI i))]) (hi : i + 3 < L) (hL : L ≤ 2049) (hcc : cells + 1 ≤ 600000 ∧ slots + 3 ≤ 7302250) (K : ∀ (w' : wf_W) (H' : Heap) (locs' : List Loc) (mn' cz' tz' ca' : Nat) (cl' tl' Sz' En' Nx' : Nat → Nat), LI t w' C pa sa mo A k mn' cz' tz' ca' cl' tl' Sz' En' Nx' → wf_B D wcl (fun q : Nat => s.heap.size ≤ q) s.heap w' H' locs' → W p l e room_1 s m #[Value.ref b] below meth c H' locs' (cells + 1) (slots + 3) Q (F0 m 1009 ls [])) : W p l e room_1 s m #[Value.ref b] below meth c H locs cells slots Q (F0 m 840 ls []) := by
  have hx := X.1
  have hb := X.2.1
  have hbA : ¬ (fun q : Nat => s.heap.size ≤ q) b := Nat.not_le.mpr hbl
  obtain ⟨i1, i2, i3, i4, i5, i6, i7, i8, i9, i10⟩ := id hI
  have hmn := i5.1
  by_cases hv : (0 ≤ (xs (i + 1)).toInt ∧ (xs (i + 1)).toInt < mn) ∧ (0 ≤ (xs (i + 2)).toInt ∧ (xs (i + 2)).toInt < mn)
  · have e1 : xs (i + 1) = nI ((xs (i + 1)).toInt.toNat) := nat_of (hv.1.1)
    have e2 : xs (i + 2) = nI ((xs (i + 2)).toInt.toNat) := nat_of (hv.2.1)
    refine lv_aload_n hx hb d_law_840 rfl (lv_at hl 1 rfl) ?_
    refine lv_aload_n hx hb d_law_841 rfl (lv_at hl 0 rfl) ?_
    refine lv_iload_n hx hb d_law_842 rfl (lv_at hl 3 rfl) ?_
    refine lv_iconst (v := nI 1) hx hb d_law_843 (by decide) ?_
    refine wf_iadd (x := i) (y := 1) hx hb d_law_844 ?_
    refine lw_ld hx hb hX hbl hB hbA (n := i + 1) (by omega) hL d_law_845 ?_
    refine wf_ti (y := nI ((xs (i + 1)).toInt.toNat)) e1 ?_
    refine lv_aload_n hx hb d_law_846 rfl (lv_at hl 0 rfl) ?_
    refine lv_iload_n hx hb d_law_847 rfl (lv_at hl 3 rfl) ?_
    refine lv_iconst (v := nI 2) hx hb d_law_848 (by decide) ?_
    refine wf_iadd (x := i) (y := 2) hx hb d_law_849 ?_
    refine lw_ld hx hb hX hbl hB hbA (n := i + 2) (by omega) hL d_law_850 ?_
    refine wf_ti (y := nI ((xs (i + 2)).toInt.toNat)) e2 ?_
    refine callVi (As := [.int (nI ((xs (i + 1)).toInt.toNat)), .int (nI ((xs (i + 2)).toInt.toNat))]) (rest := []) X hB (fun _ h => h) (k_differ (l := l) (D := D) (sz := H.size)  i1 i4 i5 i6 i7 i8 i9 (by omega) (by omega)) k_793 k_794 k_795 k_64 k_796 i9.1 cl_TM rfl hd_TM_differ ⟨Nat.le_of_ble_eq_true rfl, Nat.le_of_ble_eq_true rfl⟩ ⟨show cells + 0 ≤ 600000 by omega, show slots + 0 ≤ 7302250 by omega⟩ hl.1 (Nat.le_of_ble_eq_true rfl) d_law_851 rfl (fun r1 w1 H1 locs1 hp1 hB1 => ?_)
    obtain ⟨tz1, tl1, o1, hC1, hf1⟩ := hp1
    have hR1 := RSt_C i3 hf1 i10
    obtain ⟨pz9, wy9, fi9, se9, ho9, lx9, ly9, ts9, tS9, cs9, av9, lz9, hz19, nl9, nh9, ce9, qd9, gmo⟩ := hR1.1
    refine lv_aload_n hx hb d_law_854 rfl (lv_at hl 2 rfl) ?_
    refine lv_aload_n hx hb d_law_855 rfl (lv_at hl 0 rfl) ?_
    refine lv_iload_n hx hb d_law_856 rfl (lv_at hl 3 rfl) ?_
    refine lv_iconst (v := nI 1) hx hb d_law_857 (by decide) ?_
    refine wf_iadd (x := i) (y := 1) hx hb d_law_858 ?_
    refine lw_ld hx hb hX hbl hB1 hbA (n := i + 1) (by omega) hL d_law_859 ?_
    refine wf_ti (y := nI ((xs (i + 1)).toInt.toNat)) e1 ?_
    refine lv_aload_n hx hb d_law_860 rfl (lv_at hl 0 rfl) ?_
    refine lv_iload_n hx hb d_law_861 rfl (lv_at hl 3 rfl) ?_
    refine lv_iconst (v := nI 2) hx hb d_law_862 (by decide) ?_
    refine wf_iadd (x := i) (y := 2) hx hb d_law_863 ?_
    refine lw_ld hx hb hX hbl hB1 hbA (n := i + 2) (by omega) hL d_law_864 ?_
    refine wf_ti (y := nI ((xs (i + 2)).toInt.toNat)) e2 ?_
    refine callVi (As := [.int (nI ((xs (i + 1)).toInt.toNat)), .int (nI ((xs (i + 2)).toInt.toNat))]) (rest := [.int r1]) X hB1 (fun _ h => h) (r_differ (l := l) (D := D) (sz := H1.size)  i2 i4 i5 i6 i7 i8 hR1 (by omega) (by omega)) k_1237 k_1238 k_1239 k_75 k_1240 gmo cl_Ref rfl hd_Ref_differ ⟨Nat.le_of_ble_eq_true rfl, Nat.le_of_ble_eq_true rfl⟩ ⟨show cells + 0 + 0 ≤ 600000 by omega, show slots + 0 + 0 ≤ 7302250 by omega⟩ hl.1 (Nat.le_of_ble_eq_true rfl) d_law_865 rfl (fun r2 w2 H2 locs2 hp2 hB2 => ?_)
    obtain ⟨tz2, tl2, o2, hR2, hf2⟩ := hp2
    have hdet := opDi_det (by omega) o1 o2
    have heq := hdet.1
    have hLI := LI_tl hI hC1 hf2 hR2 hdet.2.1 hdet.2.2 (opDi_le i7 o2)
    refine wf_ceq (tgt := 1009) hx hb d_law_868 (by decide) rfl rfl (fun _ => ?_) (fun hne => absurd (congrArg Int32.toInt heq) hne)
    refine W.widen (k := cells + 1) (n := slots + 3) (by omega) (by omega) ?_
    exact K _ _ _ _ _ _ _ _ _ _ _ _ hLI hB2
  · refine lv_aload_n hx hb d_law_840 rfl (lv_at hl 1 rfl) ?_
    refine lv_aload_n hx hb d_law_841 rfl (lv_at hl 0 rfl) ?_
    refine lv_iload_n hx hb d_law_842 rfl (lv_at hl 3 rfl) ?_
    refine lv_iconst (v := nI 1) hx hb d_law_843 (by decide) ?_
    refine wf_iadd (x := i) (y := 1) hx hb d_law_844 ?_
    refine lw_ld hx hb hX hbl hB hbA (n := i + 1) (by omega) hL d_law_845 ?_
    refine lv_aload_n hx hb d_law_846 rfl (lv_at hl 0 rfl) ?_
    refine lv_iload_n hx hb d_law_847 rfl (lv_at hl 3 rfl) ?_
    refine lv_iconst (v := nI 2) hx hb d_law_848 (by decide) ?_
    refine wf_iadd (x := i) (y := 2) hx hb d_law_849 ?_
    refine lw_ld hx hb hX hbl hB hbA (n := i + 2) (by omega) hL d_law_850 ?_
    refine callVi (As := [.int (xs (i + 1)), .int (xs (i + 2))]) (rest := []) X hB (fun _ h => h) (k_differb (l := l) (D := D) (sz := H.size)  i1 i4 i5 i6 i7 i8 i9 hv) k_793 k_794 k_795 k_64 k_796 i9.1 cl_TM rfl hd_TM_differ ⟨Nat.le_of_ble_eq_true rfl, Nat.le_of_ble_eq_true rfl⟩ ⟨show cells + 0 ≤ 600000 by omega, show slots + 0 ≤ 7302250 by omega⟩ hl.1 (Nat.le_of_ble_eq_true rfl) d_law_851 rfl (fun r1 w1 H1 locs1 hp1 hB1 => ?_)
    obtain ⟨q1, rfl⟩ := hp1
    have hR1 := i10
    obtain ⟨pz9, wy9, fi9, se9, ho9, lx9, ly9, ts9, tS9, cs9, av9, lz9, hz19, nl9, nh9, ce9, qd9, gmo⟩ := hR1.1
    refine lv_aload_n hx hb d_law_854 rfl (lv_at hl 2 rfl) ?_
    refine lv_aload_n hx hb d_law_855 rfl (lv_at hl 0 rfl) ?_
    refine lv_iload_n hx hb d_law_856 rfl (lv_at hl 3 rfl) ?_
    refine lv_iconst (v := nI 1) hx hb d_law_857 (by decide) ?_
    refine wf_iadd (x := i) (y := 1) hx hb d_law_858 ?_
    refine lw_ld hx hb hX hbl hB1 hbA (n := i + 1) (by omega) hL d_law_859 ?_
    refine lv_aload_n hx hb d_law_860 rfl (lv_at hl 0 rfl) ?_
    refine lv_iload_n hx hb d_law_861 rfl (lv_at hl 3 rfl) ?_
    refine lv_iconst (v := nI 2) hx hb d_law_862 (by decide) ?_
    refine wf_iadd (x := i) (y := 2) hx hb d_law_863 ?_
    refine lw_ld hx hb hX hbl hB1 hbA (n := i + 2) (by omega) hL d_law_864 ?_
    refine callVi (As := [.int (xs (i + 1)), .int (xs (i + 2))]) (rest := [.int r1]) X hB1 (fun _ h => h) (r_differb (l := l) (D := D) (sz := H1.size)  i2 i4 i5 i6 i7 i8 hR1 hv) k_1237 k_1238 k_1239 k_75 k_1240 gmo cl_Ref rfl hd_Ref_differ ⟨Nat.le_of_ble_eq_true rfl, Nat.le_of_ble_eq_true rfl⟩ ⟨show cells + 0 + 0 ≤ 600000 by omega, show slots + 0 + 0 ≤ 7302250 by omega⟩ hl.1 (Nat.le_of_ble_eq_true rfl) d_law_865 rfl (fun r2 w2 H2 locs2 hp2 hB2 => ?_)
    obtain ⟨q2, rfl⟩ := hp2
    have heq := q1.trans q2.symm
    have hLI := hI
    refine wf_ceq (tgt := 1009) hx hb d_law_868 (by decide) rfl rfl (fun _ => ?_) (fun hne => absurd (congrArg Int32.toInt heq) hne)
    refine W.widen (k := cells + 1) (n := slots + 3) (by omega) (by omega) ?_
    exact K _ _ _ _ _ _ _ _ _ _ _ _ hLI hB2
set_option maxHeartbeats 4000000 in
set_option maxRecDepth 100000 in
theorem lw_c23 {l : Launch} {p : Program} {e : Env} {s : State} {m : MethodId} {below : List Frame} {meth : Method} {c : Code} {D : va_G} {t : Nat → ClassId} {nm : String} {ret0 : Option FieldType} {b L : Nat} {xs : Nat → Int32} {Q : State → Prop} {w : wf_W} {H : Heap} {locs : List Loc} {ls : Array Slot} {cells slots i : Nat} {C pa sa : Nat → Nat} {mo : Nat} {A : Nat → Nat} {k mn cz tz ca : Nat} {cl tl Sz En Nx : Nat → Nat} (X : Cx p s m meth c R_Law nm code 4 ret0 D t) (hX : va_X b L xs s s.heap) (hbl : b < s.heap.size) (hB : wf_B D wcl (fun q : Nat => s.heap.size ≤ q) s.heap w H locs) (hI : LI t w C pa sa mo A k mn cz tz ca cl tl Sz En Nx) (hl : lv_has ls 4 [(0, .ref b), (1, .ref (C 0)), (2, .ref mo), (3, .int (nI i))]) (hi : i + 3 < L) (hL : L ≤ 2049) (hcc : cells + 1 ≤ 600000 ∧ slots + 3 ≤ 7302250) (K : ∀ (w' : wf_W) (H' : Heap) (locs' : List Loc) (mn' cz' tz' ca' : Nat) (cl' tl' Sz' En' Nx' : Nat → Nat), LI t w' C pa sa mo A k mn' cz' tz' ca' cl' tl' Sz' En' Nx' → wf_B D wcl (fun q : Nat => s.heap.size ≤ q) s.heap w' H' locs' → W p l e room_1 s m #[Value.ref b] below meth c H' locs' (cells + 1) (slots + 3) Q (F0 m 1009 ls [])) : W p l e room_1 s m #[Value.ref b] below meth c H locs cells slots Q (F0 m 873 ls []) := by
  have hx := X.1
  have hb := X.2.1
  have hbA : ¬ (fun q : Nat => s.heap.size ≤ q) b := Nat.not_le.mpr hbl
  obtain ⟨i1, i2, i3, i4, i5, i6, i7, i8, i9, i10⟩ := id hI
  have hmn := i5.1
  by_cases hv : (0 ≤ (xs (i + 1)).toInt ∧ (xs (i + 1)).toInt < mn) ∧ (0 ≤ (xs (i + 2)).toInt ∧ (xs (i + 2)).toInt ≤ 100)
  · have e1 : xs (i + 1) = nI ((xs (i + 1)).toInt.toNat) := nat_of (hv.1.1)
    have e2 : xs (i + 2) = nI ((xs (i + 2)).toInt.toNat) := nat_of (hv.2.1)
    refine lv_aload_n hx hb d_law_873 rfl (lv_at hl 1 rfl) ?_
    refine lv_aload_n hx hb d_law_874 rfl (lv_at hl 0 rfl) ?_
    refine lv_iload_n hx hb d_law_875 rfl (lv_at hl 3 rfl) ?_
    refine lv_iconst (v := nI 1) hx hb d_law_876 (by decide) ?_
    refine wf_iadd (x := i) (y := 1) hx hb d_law_877 ?_
    refine lw_ld hx hb hX hbl hB hbA (n := i + 1) (by omega) hL d_law_878 ?_
    refine wf_ti (y := nI ((xs (i + 1)).toInt.toNat)) e1 ?_
    refine lv_aload_n hx hb d_law_879 rfl (lv_at hl 0 rfl) ?_
    refine lv_iload_n hx hb d_law_880 rfl (lv_at hl 3 rfl) ?_
    refine lv_iconst (v := nI 2) hx hb d_law_881 (by decide) ?_
    refine wf_iadd (x := i) (y := 2) hx hb d_law_882 ?_
    refine lw_ld hx hb hX hbl hB hbA (n := i + 2) (by omega) hL d_law_883 ?_
    refine wf_ti (y := nI ((xs (i + 2)).toInt.toNat)) e2 ?_
    refine callVl (As := [.int (nI ((xs (i + 1)).toInt.toNat)), .int (nI ((xs (i + 2)).toInt.toNat))]) (rest := []) X hB (fun _ h => h) (k_count (l := l) (D := D) (sz := H.size)  i1 i4 i5 i6 i7 i8 i9 (by omega) (by omega)) k_804 k_805 k_806 k_64 k_807 i9.1 cl_TM rfl hd_TM_count ⟨Nat.le_of_ble_eq_true rfl, Nat.le_of_ble_eq_true rfl⟩ ⟨show cells + 0 ≤ 600000 by omega, show slots + 0 ≤ 7302250 by omega⟩ hl.1 (Nat.le_of_ble_eq_true rfl) d_law_884 rfl (fun r1 w1 H1 locs1 hp1 hB1 => ?_)
    obtain ⟨q1, hC1, hf1⟩ := hp1
    have hR1 := RSt_C i3 hf1 i10
    obtain ⟨pz9, wy9, fi9, se9, ho9, lx9, ly9, ts9, tS9, cs9, av9, lz9, hz19, nl9, nh9, ce9, qd9, gmo⟩ := hR1.1
    refine lv_aload_n hx hb d_law_887 rfl (lv_at hl 2 rfl) ?_
    refine lv_aload_n hx hb d_law_888 rfl (lv_at hl 0 rfl) ?_
    refine lv_iload_n hx hb d_law_889 rfl (lv_at hl 3 rfl) ?_
    refine lv_iconst (v := nI 1) hx hb d_law_890 (by decide) ?_
    refine wf_iadd (x := i) (y := 1) hx hb d_law_891 ?_
    refine lw_ld hx hb hX hbl hB1 hbA (n := i + 1) (by omega) hL d_law_892 ?_
    refine wf_ti (y := nI ((xs (i + 1)).toInt.toNat)) e1 ?_
    refine lv_aload_n hx hb d_law_893 rfl (lv_at hl 0 rfl) ?_
    refine lv_iload_n hx hb d_law_894 rfl (lv_at hl 3 rfl) ?_
    refine lv_iconst (v := nI 2) hx hb d_law_895 (by decide) ?_
    refine wf_iadd (x := i) (y := 2) hx hb d_law_896 ?_
    refine lw_ld hx hb hX hbl hB1 hbA (n := i + 2) (by omega) hL d_law_897 ?_
    refine wf_ti (y := nI ((xs (i + 2)).toInt.toNat)) e2 ?_
    refine callVl (As := [.int (nI ((xs (i + 1)).toInt.toNat)), .int (nI ((xs (i + 2)).toInt.toNat))]) (rest := [.long r1]) X hB1 (fun _ h => h) (r_count (l := l) (D := D) (sz := H1.size)  i2 i4 i5 i6 i7 i8 hR1 (by omega) (by omega)) k_1241 k_1242 k_1243 k_75 k_1244 gmo cl_Ref rfl hd_Ref_count ⟨Nat.le_of_ble_eq_true rfl, Nat.le_of_ble_eq_true rfl⟩ ⟨show cells + 0 + 0 ≤ 600000 by omega, show slots + 0 + 0 ≤ 7302250 by omega⟩ hl.1 (Nat.le_of_ble_eq_true rfl) d_law_898 rfl (fun r2 w2 H2 locs2 hp2 hB2 => ?_)
    obtain ⟨q2, hR2, hf2⟩ := hp2
    have heq := q1.trans q2.symm
    have hLI := LI_tl hI hC1 hf2 hR2 rfl (fun _ _ => rfl) i7
    refine W.lcmp hx hb d_law_901 ?_
    refine wf_leq (tgt := 1009) hx hb d_law_902 (by decide) rfl rfl (fun _ => ?_) (fun hne => absurd (congrArg Int64.toInt heq) hne)
    refine W.widen (k := cells + 1) (n := slots + 3) (by omega) (by omega) ?_
    exact K _ _ _ _ _ _ _ _ _ _ _ _ hLI hB2
  · refine lv_aload_n hx hb d_law_873 rfl (lv_at hl 1 rfl) ?_
    refine lv_aload_n hx hb d_law_874 rfl (lv_at hl 0 rfl) ?_
    refine lv_iload_n hx hb d_law_875 rfl (lv_at hl 3 rfl) ?_
    refine lv_iconst (v := nI 1) hx hb d_law_876 (by decide) ?_
    refine wf_iadd (x := i) (y := 1) hx hb d_law_877 ?_
    refine lw_ld hx hb hX hbl hB hbA (n := i + 1) (by omega) hL d_law_878 ?_
    refine lv_aload_n hx hb d_law_879 rfl (lv_at hl 0 rfl) ?_
    refine lv_iload_n hx hb d_law_880 rfl (lv_at hl 3 rfl) ?_
    refine lv_iconst (v := nI 2) hx hb d_law_881 (by decide) ?_
    refine wf_iadd (x := i) (y := 2) hx hb d_law_882 ?_
    refine lw_ld hx hb hX hbl hB hbA (n := i + 2) (by omega) hL d_law_883 ?_
    refine callVl (As := [.int (xs (i + 1)), .int (xs (i + 2))]) (rest := []) X hB (fun _ h => h) (k_countb (l := l) (D := D) (sz := H.size)  i1 i4 i5 i6 i7 i8 i9 hv) k_804 k_805 k_806 k_64 k_807 i9.1 cl_TM rfl hd_TM_count ⟨Nat.le_of_ble_eq_true rfl, Nat.le_of_ble_eq_true rfl⟩ ⟨show cells + 0 ≤ 600000 by omega, show slots + 0 ≤ 7302250 by omega⟩ hl.1 (Nat.le_of_ble_eq_true rfl) d_law_884 rfl (fun r1 w1 H1 locs1 hp1 hB1 => ?_)
    obtain ⟨q1, rfl⟩ := hp1
    have hR1 := i10
    obtain ⟨pz9, wy9, fi9, se9, ho9, lx9, ly9, ts9, tS9, cs9, av9, lz9, hz19, nl9, nh9, ce9, qd9, gmo⟩ := hR1.1
    refine lv_aload_n hx hb d_law_887 rfl (lv_at hl 2 rfl) ?_
    refine lv_aload_n hx hb d_law_888 rfl (lv_at hl 0 rfl) ?_
    refine lv_iload_n hx hb d_law_889 rfl (lv_at hl 3 rfl) ?_
    refine lv_iconst (v := nI 1) hx hb d_law_890 (by decide) ?_
    refine wf_iadd (x := i) (y := 1) hx hb d_law_891 ?_
    refine lw_ld hx hb hX hbl hB1 hbA (n := i + 1) (by omega) hL d_law_892 ?_
    refine lv_aload_n hx hb d_law_893 rfl (lv_at hl 0 rfl) ?_
    refine lv_iload_n hx hb d_law_894 rfl (lv_at hl 3 rfl) ?_
    refine lv_iconst (v := nI 2) hx hb d_law_895 (by decide) ?_
    refine wf_iadd (x := i) (y := 2) hx hb d_law_896 ?_
    refine lw_ld hx hb hX hbl hB1 hbA (n := i + 2) (by omega) hL d_law_897 ?_
    refine callVl (As := [.int (xs (i + 1)), .int (xs (i + 2))]) (rest := [.long r1]) X hB1 (fun _ h => h) (r_countb (l := l) (D := D) (sz := H1.size)  i2 i4 i5 i6 i7 i8 hR1 hv) k_1241 k_1242 k_1243 k_75 k_1244 gmo cl_Ref rfl hd_Ref_count ⟨Nat.le_of_ble_eq_true rfl, Nat.le_of_ble_eq_true rfl⟩ ⟨show cells + 0 + 0 ≤ 600000 by omega, show slots + 0 + 0 ≤ 7302250 by omega⟩ hl.1 (Nat.le_of_ble_eq_true rfl) d_law_898 rfl (fun r2 w2 H2 locs2 hp2 hB2 => ?_)
    obtain ⟨q2, rfl⟩ := hp2
    have heq := q1.trans q2.symm
    have hLI := hI
    refine W.lcmp hx hb d_law_901 ?_
    refine wf_leq (tgt := 1009) hx hb d_law_902 (by decide) rfl rfl (fun _ => ?_) (fun hne => absurd (congrArg Int64.toInt heq) hne)
    refine W.widen (k := cells + 1) (n := slots + 3) (by omega) (by omega) ?_
    exact K _ _ _ _ _ _ _ _ _ _ _ _ hLI hB2
set_option maxHeartbeats 4000000 in
set_option maxRecDepth 100000 in
theorem lw_c24 {l : Launch} {p : Program} {e : Env} {s : State} {m : MethodId} {below : List Frame} {meth : Method} {c : Code} {D : va_G} {t : Nat → ClassId} {nm : String} {ret0 : Option FieldType} {b L : Nat} {xs : Nat → Int32} {Q : State → Prop} {w : wf_W} {H : Heap} {locs : List Loc} {ls : Array Slot} {cells slots i : Nat} {C pa sa : Nat → Nat} {mo : Nat} {A : Nat → Nat} {k mn cz tz ca : Nat} {cl tl Sz En Nx : Nat → Nat} (X : Cx p s m meth c R_Law nm code 4 ret0 D t) (hX : va_X b L xs s s.heap) (hbl : b < s.heap.size) (hB : wf_B D wcl (fun q : Nat => s.heap.size ≤ q) s.heap w H locs) (hI : LI t w C pa sa mo A k mn cz tz ca cl tl Sz En Nx) (hl : lv_has ls 4 [(0, .ref b), (1, .ref (C 0)), (2, .ref mo), (3, .int (nI i))]) (hi : i + 3 < L) (hL : L ≤ 2049) (hcc : cells + 1 ≤ 600000 ∧ slots + 3 ≤ 7302250) (K : ∀ (w' : wf_W) (H' : Heap) (locs' : List Loc) (mn' cz' tz' ca' : Nat) (cl' tl' Sz' En' Nx' : Nat → Nat), LI t w' C pa sa mo A k mn' cz' tz' ca' cl' tl' Sz' En' Nx' → wf_B D wcl (fun q : Nat => s.heap.size ≤ q) s.heap w' H' locs' → W p l e room_1 s m #[Value.ref b] below meth c H' locs' (cells + 1) (slots + 3) Q (F0 m 1009 ls [])) : W p l e room_1 s m #[Value.ref b] below meth c H locs cells slots Q (F0 m 907 ls []) := by
  have hx := X.1
  have hb := X.2.1
  have hbA : ¬ (fun q : Nat => s.heap.size ≤ q) b := Nat.not_le.mpr hbl
  obtain ⟨i1, i2, i3, i4, i5, i6, i7, i8, i9, i10⟩ := id hI
  have hmn := i5.1
  by_cases hv : (0 ≤ (xs (i + 1)).toInt ∧ (xs (i + 1)).toInt < mn) ∧ 0 ≤ (xs (i + 2)).toInt
  · have e1 : xs (i + 1) = nI ((xs (i + 1)).toInt.toNat) := nat_of (hv.1.1)
    have e2 : xs (i + 2) = nI ((xs (i + 2)).toInt.toNat) := nat_of (hv.2)
    refine lv_aload_n hx hb d_law_907 rfl (lv_at hl 1 rfl) ?_
    refine lv_aload_n hx hb d_law_908 rfl (lv_at hl 0 rfl) ?_
    refine lv_iload_n hx hb d_law_909 rfl (lv_at hl 3 rfl) ?_
    refine lv_iconst (v := nI 1) hx hb d_law_910 (by decide) ?_
    refine wf_iadd (x := i) (y := 1) hx hb d_law_911 ?_
    refine lw_ld hx hb hX hbl hB hbA (n := i + 1) (by omega) hL d_law_912 ?_
    refine wf_ti (y := nI ((xs (i + 1)).toInt.toNat)) e1 ?_
    refine lv_aload_n hx hb d_law_913 rfl (lv_at hl 0 rfl) ?_
    refine lv_iload_n hx hb d_law_914 rfl (lv_at hl 3 rfl) ?_
    refine lv_iconst (v := nI 2) hx hb d_law_915 (by decide) ?_
    refine wf_iadd (x := i) (y := 2) hx hb d_law_916 ?_
    refine lw_ld hx hb hX hbl hB hbA (n := i + 2) (by omega) hL d_law_917 ?_
    refine wf_ti (y := nI ((xs (i + 2)).toInt.toNat)) e2 ?_
    refine callVi (As := [.int (nI ((xs (i + 1)).toInt.toNat)), .int (nI ((xs (i + 2)).toInt.toNat))]) (rest := []) X hB (fun _ h => h) (k_pick (l := l) (D := D) (sz := H.size)  i1 i4 i5 i6 i7 i8 i9 (by omega) (by have := Int32.toInt_lt (xs (i + 2)); omega)) k_834 k_835 k_836 k_64 k_837 i9.1 cl_TM rfl hd_TM_pick ⟨Nat.le_of_ble_eq_true rfl, Nat.le_of_ble_eq_true rfl⟩ ⟨show cells + 0 ≤ 600000 by omega, show slots + 0 ≤ 7302250 by omega⟩ hl.1 (Nat.le_of_ble_eq_true rfl) d_law_918 rfl (fun r1 w1 H1 locs1 hp1 hB1 => ?_)
    obtain ⟨tz1, tl1, o1, hC1, hf1⟩ := hp1
    have hR1 := RSt_C i3 hf1 i10
    obtain ⟨pz9, wy9, fi9, se9, ho9, lx9, ly9, ts9, tS9, cs9, av9, lz9, hz19, nl9, nh9, ce9, qd9, gmo⟩ := hR1.1
    refine lv_aload_n hx hb d_law_921 rfl (lv_at hl 2 rfl) ?_
    refine lv_aload_n hx hb d_law_922 rfl (lv_at hl 0 rfl) ?_
    refine lv_iload_n hx hb d_law_923 rfl (lv_at hl 3 rfl) ?_
    refine lv_iconst (v := nI 1) hx hb d_law_924 (by decide) ?_
    refine wf_iadd (x := i) (y := 1) hx hb d_law_925 ?_
    refine lw_ld hx hb hX hbl hB1 hbA (n := i + 1) (by omega) hL d_law_926 ?_
    refine wf_ti (y := nI ((xs (i + 1)).toInt.toNat)) e1 ?_
    refine lv_aload_n hx hb d_law_927 rfl (lv_at hl 0 rfl) ?_
    refine lv_iload_n hx hb d_law_928 rfl (lv_at hl 3 rfl) ?_
    refine lv_iconst (v := nI 2) hx hb d_law_929 (by decide) ?_
    refine wf_iadd (x := i) (y := 2) hx hb d_law_930 ?_
    refine lw_ld hx hb hX hbl hB1 hbA (n := i + 2) (by omega) hL d_law_931 ?_
    refine wf_ti (y := nI ((xs (i + 2)).toInt.toNat)) e2 ?_
    refine callVi (As := [.int (nI ((xs (i + 1)).toInt.toNat)), .int (nI ((xs (i + 2)).toInt.toNat))]) (rest := [.int r1]) X hB1 (fun _ h => h) (r_pick (l := l) (D := D) (sz := H1.size)  i2 i4 i5 i6 i7 i8 hR1 (by omega) (by have := Int32.toInt_lt (xs (i + 2)); omega)) k_1251 k_1252 k_1253 k_75 k_1254 gmo cl_Ref rfl hd_Ref_pick ⟨Nat.le_of_ble_eq_true rfl, Nat.le_of_ble_eq_true rfl⟩ ⟨show cells + 0 + 0 ≤ 600000 by omega, show slots + 0 + 0 ≤ 7302250 by omega⟩ hl.1 (Nat.le_of_ble_eq_true rfl) d_law_932 rfl (fun r2 w2 H2 locs2 hp2 hB2 => ?_)
    obtain ⟨tz2, tl2, o2, hR2, hf2⟩ := hp2
    have hdet := opPi_det o1 o2
    have heq := hdet.1
    have hLI := LI_tl hI hC1 hf2 hR2 hdet.2.1 hdet.2.2 (opPi_le i7 o2)
    refine wf_ceq (tgt := 1009) hx hb d_law_935 (by decide) rfl rfl (fun _ => ?_) (fun hne => absurd (congrArg Int32.toInt heq) hne)
    refine W.widen (k := cells + 1) (n := slots + 3) (by omega) (by omega) ?_
    exact K _ _ _ _ _ _ _ _ _ _ _ _ hLI hB2
  · refine lv_aload_n hx hb d_law_907 rfl (lv_at hl 1 rfl) ?_
    refine lv_aload_n hx hb d_law_908 rfl (lv_at hl 0 rfl) ?_
    refine lv_iload_n hx hb d_law_909 rfl (lv_at hl 3 rfl) ?_
    refine lv_iconst (v := nI 1) hx hb d_law_910 (by decide) ?_
    refine wf_iadd (x := i) (y := 1) hx hb d_law_911 ?_
    refine lw_ld hx hb hX hbl hB hbA (n := i + 1) (by omega) hL d_law_912 ?_
    refine lv_aload_n hx hb d_law_913 rfl (lv_at hl 0 rfl) ?_
    refine lv_iload_n hx hb d_law_914 rfl (lv_at hl 3 rfl) ?_
    refine lv_iconst (v := nI 2) hx hb d_law_915 (by decide) ?_
    refine wf_iadd (x := i) (y := 2) hx hb d_law_916 ?_
    refine lw_ld hx hb hX hbl hB hbA (n := i + 2) (by omega) hL d_law_917 ?_
    refine callVi (As := [.int (xs (i + 1)), .int (xs (i + 2))]) (rest := []) X hB (fun _ h => h) (k_pickb (l := l) (D := D) (sz := H.size)  i1 i4 i5 i6 i7 i8 i9 hv) k_834 k_835 k_836 k_64 k_837 i9.1 cl_TM rfl hd_TM_pick ⟨Nat.le_of_ble_eq_true rfl, Nat.le_of_ble_eq_true rfl⟩ ⟨show cells + 0 ≤ 600000 by omega, show slots + 0 ≤ 7302250 by omega⟩ hl.1 (Nat.le_of_ble_eq_true rfl) d_law_918 rfl (fun r1 w1 H1 locs1 hp1 hB1 => ?_)
    obtain ⟨q1, rfl⟩ := hp1
    have hR1 := i10
    obtain ⟨pz9, wy9, fi9, se9, ho9, lx9, ly9, ts9, tS9, cs9, av9, lz9, hz19, nl9, nh9, ce9, qd9, gmo⟩ := hR1.1
    refine lv_aload_n hx hb d_law_921 rfl (lv_at hl 2 rfl) ?_
    refine lv_aload_n hx hb d_law_922 rfl (lv_at hl 0 rfl) ?_
    refine lv_iload_n hx hb d_law_923 rfl (lv_at hl 3 rfl) ?_
    refine lv_iconst (v := nI 1) hx hb d_law_924 (by decide) ?_
    refine wf_iadd (x := i) (y := 1) hx hb d_law_925 ?_
    refine lw_ld hx hb hX hbl hB1 hbA (n := i + 1) (by omega) hL d_law_926 ?_
    refine lv_aload_n hx hb d_law_927 rfl (lv_at hl 0 rfl) ?_
    refine lv_iload_n hx hb d_law_928 rfl (lv_at hl 3 rfl) ?_
    refine lv_iconst (v := nI 2) hx hb d_law_929 (by decide) ?_
    refine wf_iadd (x := i) (y := 2) hx hb d_law_930 ?_
    refine lw_ld hx hb hX hbl hB1 hbA (n := i + 2) (by omega) hL d_law_931 ?_
    refine callVi (As := [.int (xs (i + 1)), .int (xs (i + 2))]) (rest := [.int r1]) X hB1 (fun _ h => h) (r_pickb (l := l) (D := D) (sz := H1.size)  i2 i4 i5 i6 i7 i8 hR1 hv) k_1251 k_1252 k_1253 k_75 k_1254 gmo cl_Ref rfl hd_Ref_pick ⟨Nat.le_of_ble_eq_true rfl, Nat.le_of_ble_eq_true rfl⟩ ⟨show cells + 0 + 0 ≤ 600000 by omega, show slots + 0 + 0 ≤ 7302250 by omega⟩ hl.1 (Nat.le_of_ble_eq_true rfl) d_law_932 rfl (fun r2 w2 H2 locs2 hp2 hB2 => ?_)
    obtain ⟨q2, rfl⟩ := hp2
    have heq := q1.trans q2.symm
    have hLI := hI
    refine wf_ceq (tgt := 1009) hx hb d_law_935 (by decide) rfl rfl (fun _ => ?_) (fun hne => absurd (congrArg Int32.toInt heq) hne)
    refine W.widen (k := cells + 1) (n := slots + 3) (by omega) (by omega) ?_
    exact K _ _ _ _ _ _ _ _ _ _ _ _ hLI hB2
set_option maxHeartbeats 4000000 in
set_option maxRecDepth 100000 in
theorem lw_c25 {l : Launch} {p : Program} {e : Env} {s : State} {m : MethodId} {below : List Frame} {meth : Method} {c : Code} {D : va_G} {t : Nat → ClassId} {nm : String} {ret0 : Option FieldType} {b L : Nat} {xs : Nat → Int32} {Q : State → Prop} {w : wf_W} {H : Heap} {locs : List Loc} {ls : Array Slot} {cells slots i : Nat} {C pa sa : Nat → Nat} {mo : Nat} {A : Nat → Nat} {k mn cz tz ca : Nat} {cl tl Sz En Nx : Nat → Nat} (X : Cx p s m meth c R_Law nm code 4 ret0 D t) (hX : va_X b L xs s s.heap) (hbl : b < s.heap.size) (hB : wf_B D wcl (fun q : Nat => s.heap.size ≤ q) s.heap w H locs) (hI : LI t w C pa sa mo A k mn cz tz ca cl tl Sz En Nx) (hl : lv_has ls 4 [(0, .ref b), (1, .ref (C 0)), (2, .ref mo), (3, .int (nI i))]) (hi : i + 3 < L) (hL : L ≤ 2049) (hcc : cells + 1 ≤ 600000 ∧ slots + 3 ≤ 7302250) (K : ∀ (w' : wf_W) (H' : Heap) (locs' : List Loc) (mn' cz' tz' ca' : Nat) (cl' tl' Sz' En' Nx' : Nat → Nat), LI t w' C pa sa mo A k mn' cz' tz' ca' cl' tl' Sz' En' Nx' → wf_B D wcl (fun q : Nat => s.heap.size ≤ q) s.heap w' H' locs' → W p l e room_1 s m #[Value.ref b] below meth c H' locs' (cells + 1) (slots + 3) Q (F0 m 1009 ls [])) : W p l e room_1 s m #[Value.ref b] below meth c H locs cells slots Q (F0 m 940 ls []) := by
  have hx := X.1
  have hb := X.2.1
  have hbA : ¬ (fun q : Nat => s.heap.size ≤ q) b := Nat.not_le.mpr hbl
  obtain ⟨i1, i2, i3, i4, i5, i6, i7, i8, i9, i10⟩ := id hI
  have hmn := i5.1
  by_cases hv : (0 ≤ (xs (i + 1)).toInt ∧ (xs (i + 1)).toInt < tz)
  · have e1 : xs (i + 1) = nI ((xs (i + 1)).toInt.toNat) := nat_of (hv.1)
    refine lv_aload_n hx hb d_law_940 rfl (lv_at hl 1 rfl) ?_
    refine lv_aload_n hx hb d_law_941 rfl (lv_at hl 0 rfl) ?_
    refine lv_iload_n hx hb d_law_942 rfl (lv_at hl 3 rfl) ?_
    refine lv_iconst (v := nI 1) hx hb d_law_943 (by decide) ?_
    refine wf_iadd (x := i) (y := 1) hx hb d_law_944 ?_
    refine lw_ld hx hb hX hbl hB hbA (n := i + 1) (by omega) hL d_law_945 ?_
    refine wf_ti (y := nI ((xs (i + 1)).toInt.toNat)) e1 ?_
    refine callVi (As := [.int (nI ((xs (i + 1)).toInt.toNat))]) (rest := []) X hB (fun _ h => h) (k_told (l := l) (D := D) (sz := H.size) (q := nI ((xs (i + 1)).toInt.toNat)) i1 i4 i5 i6 i7 i8 i9 ) k_848 k_849 k_850 k_64 k_851 i9.1 cl_TM rfl hd_TM_told ⟨Nat.le_of_ble_eq_true rfl, Nat.le_of_ble_eq_true rfl⟩ ⟨show cells + 0 ≤ 600000 by omega, show slots + 0 ≤ 7302250 by omega⟩ hl.1 (Nat.le_of_ble_eq_true rfl) d_law_946 rfl (fun r1 w1 H1 locs1 hp1 hB1 => ?_)
    obtain ⟨q1, rfl⟩ := hp1
    have hR1 := i10
    obtain ⟨pz9, wy9, fi9, se9, ho9, lx9, ly9, ts9, tS9, cs9, av9, lz9, hz19, nl9, nh9, ce9, qd9, gmo⟩ := hR1.1
    refine lv_aload_n hx hb d_law_949 rfl (lv_at hl 2 rfl) ?_
    refine lv_aload_n hx hb d_law_950 rfl (lv_at hl 0 rfl) ?_
    refine lv_iload_n hx hb d_law_951 rfl (lv_at hl 3 rfl) ?_
    refine lv_iconst (v := nI 1) hx hb d_law_952 (by decide) ?_
    refine wf_iadd (x := i) (y := 1) hx hb d_law_953 ?_
    refine lw_ld hx hb hX hbl hB1 hbA (n := i + 1) (by omega) hL d_law_954 ?_
    refine wf_ti (y := nI ((xs (i + 1)).toInt.toNat)) e1 ?_
    refine callVi (As := [.int (nI ((xs (i + 1)).toInt.toNat))]) (rest := [.int r1]) X hB1 (fun _ h => h) (r_toldy (l := l) (D := D) (sz := H1.size)  i2 i4 i5 i6 i7 i8 hR1 (by omega)) k_1255 k_1256 k_1257 k_75 k_1258 gmo cl_Ref rfl hd_Ref_told ⟨Nat.le_of_ble_eq_true rfl, Nat.le_of_ble_eq_true rfl⟩ ⟨show cells + 0 + 0 ≤ 600000 by omega, show slots + 0 + 0 ≤ 7302250 by omega⟩ hl.1 (Nat.le_of_ble_eq_true rfl) d_law_955 rfl (fun r2 w2 H2 locs2 hp2 hB2 => ?_)
    obtain ⟨q2, rfl⟩ := hp2
    have heq : r1 = r2 := (by rw [q1, q2, ← e1, if_pos hv])
    have hLI := hI
    refine wf_ceq (tgt := 1009) hx hb d_law_958 (by decide) rfl rfl (fun _ => ?_) (fun hne => absurd (congrArg Int32.toInt heq) hne)
    refine W.widen (k := cells + 1) (n := slots + 3) (by omega) (by omega) ?_
    exact K _ _ _ _ _ _ _ _ _ _ _ _ hLI hB2
  · refine lv_aload_n hx hb d_law_940 rfl (lv_at hl 1 rfl) ?_
    refine lv_aload_n hx hb d_law_941 rfl (lv_at hl 0 rfl) ?_
    refine lv_iload_n hx hb d_law_942 rfl (lv_at hl 3 rfl) ?_
    refine lv_iconst (v := nI 1) hx hb d_law_943 (by decide) ?_
    refine wf_iadd (x := i) (y := 1) hx hb d_law_944 ?_
    refine lw_ld hx hb hX hbl hB hbA (n := i + 1) (by omega) hL d_law_945 ?_
    refine callVi (As := [.int (xs (i + 1))]) (rest := []) X hB (fun _ h => h) (k_told (l := l) (D := D) (sz := H.size)  i1 i4 i5 i6 i7 i8 i9 ) k_848 k_849 k_850 k_64 k_851 i9.1 cl_TM rfl hd_TM_told ⟨Nat.le_of_ble_eq_true rfl, Nat.le_of_ble_eq_true rfl⟩ ⟨show cells + 0 ≤ 600000 by omega, show slots + 0 ≤ 7302250 by omega⟩ hl.1 (Nat.le_of_ble_eq_true rfl) d_law_946 rfl (fun r1 w1 H1 locs1 hp1 hB1 => ?_)
    obtain ⟨q1, rfl⟩ := hp1
    have hR1 := i10
    obtain ⟨pz9, wy9, fi9, se9, ho9, lx9, ly9, ts9, tS9, cs9, av9, lz9, hz19, nl9, nh9, ce9, qd9, gmo⟩ := hR1.1
    refine lv_aload_n hx hb d_law_949 rfl (lv_at hl 2 rfl) ?_
    refine lv_aload_n hx hb d_law_950 rfl (lv_at hl 0 rfl) ?_
    refine lv_iload_n hx hb d_law_951 rfl (lv_at hl 3 rfl) ?_
    refine lv_iconst (v := nI 1) hx hb d_law_952 (by decide) ?_
    refine wf_iadd (x := i) (y := 1) hx hb d_law_953 ?_
    refine lw_ld hx hb hX hbl hB1 hbA (n := i + 1) (by omega) hL d_law_954 ?_
    refine callVi (As := [.int (xs (i + 1))]) (rest := [.int r1]) X hB1 (fun _ h => h) (r_toldb (l := l) (D := D) (sz := H1.size)  i2 i4 i5 i6 i7 i8 hR1 hv) k_1255 k_1256 k_1257 k_75 k_1258 gmo cl_Ref rfl hd_Ref_told ⟨Nat.le_of_ble_eq_true rfl, Nat.le_of_ble_eq_true rfl⟩ ⟨show cells + 0 + 0 ≤ 600000 by omega, show slots + 0 + 0 ≤ 7302250 by omega⟩ hl.1 (Nat.le_of_ble_eq_true rfl) d_law_955 rfl (fun r2 w2 H2 locs2 hp2 hB2 => ?_)
    obtain ⟨q2, rfl⟩ := hp2
    have heq : r1 = r2 := (by rw [q1, q2, if_neg hv])
    have hLI := hI
    refine wf_ceq (tgt := 1009) hx hb d_law_958 (by decide) rfl rfl (fun _ => ?_) (fun hne => absurd (congrArg Int32.toInt heq) hne)
    refine W.widen (k := cells + 1) (n := slots + 3) (by omega) (by omega) ?_
    exact K _ _ _ _ _ _ _ _ _ _ _ _ hLI hB2
set_option maxHeartbeats 4000000 in
set_option maxRecDepth 100000 in
theorem lw_c26 {l : Launch} {p : Program} {e : Env} {s : State} {m : MethodId} {below : List Frame} {meth : Method} {c : Code} {D : va_G} {t : Nat → ClassId} {nm : String} {ret0 : Option FieldType} {b L : Nat} {xs : Nat → Int32} {Q : State → Prop} {w : wf_W} {H : Heap} {locs : List Loc} {ls : Array Slot} {cells slots i : Nat} {C pa sa : Nat → Nat} {mo : Nat} {A : Nat → Nat} {k mn cz tz ca : Nat} {cl tl Sz En Nx : Nat → Nat} (X : Cx p s m meth c R_Law nm code 4 ret0 D t) (hX : va_X b L xs s s.heap) (hbl : b < s.heap.size) (hB : wf_B D wcl (fun q : Nat => s.heap.size ≤ q) s.heap w H locs) (hI : LI t w C pa sa mo A k mn cz tz ca cl tl Sz En Nx) (hl : lv_has ls 4 [(0, .ref b), (1, .ref (C 0)), (2, .ref mo), (3, .int (nI i))]) (hi : i + 3 < L) (hL : L ≤ 2049) (hcc : cells + 1 ≤ 600000 ∧ slots + 3 ≤ 7302250) (K : ∀ (w' : wf_W) (H' : Heap) (locs' : List Loc) (mn' cz' tz' ca' : Nat) (cl' tl' Sz' En' Nx' : Nat → Nat), LI t w' C pa sa mo A k mn' cz' tz' ca' cl' tl' Sz' En' Nx' → wf_B D wcl (fun q : Nat => s.heap.size ≤ q) s.heap w' H' locs' → W p l e room_1 s m #[Value.ref b] below meth c H' locs' (cells + 1) (slots + 3) Q (F0 m 1009 ls [])) : W p l e room_1 s m #[Value.ref b] below meth c H locs cells slots Q (F0 m 963 ls []) := by
  have hx := X.1
  have hb := X.2.1
  have hbA : ¬ (fun q : Nat => s.heap.size ≤ q) b := Nat.not_le.mpr hbl
  obtain ⟨i1, i2, i3, i4, i5, i6, i7, i8, i9, i10⟩ := id hI
  have hmn := i5.1
  by_cases hv : (0 ≤ (xs (i + 1)).toInt ∧ (xs (i + 1)).toInt < mn)
  · have e1 : xs (i + 1) = nI ((xs (i + 1)).toInt.toNat) := nat_of (hv.1)
    refine lv_aload_n hx hb d_law_963 rfl (lv_at hl 1 rfl) ?_
    refine lv_aload_n hx hb d_law_964 rfl (lv_at hl 0 rfl) ?_
    refine lv_iload_n hx hb d_law_965 rfl (lv_at hl 3 rfl) ?_
    refine lv_iconst (v := nI 1) hx hb d_law_966 (by decide) ?_
    refine wf_iadd (x := i) (y := 1) hx hb d_law_967 ?_
    refine lw_ld hx hb hX hbl hB hbA (n := i + 1) (by omega) hL d_law_968 ?_
    refine wf_ti (y := nI ((xs (i + 1)).toInt.toNat)) e1 ?_
    refine callVi (As := [.int (nI ((xs (i + 1)).toInt.toNat))]) (rest := []) X hB (fun _ h => h) (k_longest (l := l) (D := D) (sz := H.size)  i1 i4 i5 i6 i7 i8 i9 (by omega)) k_853 k_854 k_855 k_64 k_856 i9.1 cl_TM rfl hd_TM_longest ⟨Nat.le_of_ble_eq_true rfl, Nat.le_of_ble_eq_true rfl⟩ ⟨show cells + 0 ≤ 600000 by omega, show slots + 0 ≤ 7302250 by omega⟩ hl.1 (Nat.le_of_ble_eq_true rfl) d_law_969 rfl (fun r1 w1 H1 locs1 hp1 hB1 => ?_)
    obtain ⟨q1, rfl⟩ := hp1
    have hR1 := i10
    obtain ⟨pz9, wy9, fi9, se9, ho9, lx9, ly9, ts9, tS9, cs9, av9, lz9, hz19, nl9, nh9, ce9, qd9, gmo⟩ := hR1.1
    refine lv_aload_n hx hb d_law_972 rfl (lv_at hl 2 rfl) ?_
    refine lv_aload_n hx hb d_law_973 rfl (lv_at hl 0 rfl) ?_
    refine lv_iload_n hx hb d_law_974 rfl (lv_at hl 3 rfl) ?_
    refine lv_iconst (v := nI 1) hx hb d_law_975 (by decide) ?_
    refine wf_iadd (x := i) (y := 1) hx hb d_law_976 ?_
    refine lw_ld hx hb hX hbl hB1 hbA (n := i + 1) (by omega) hL d_law_977 ?_
    refine wf_ti (y := nI ((xs (i + 1)).toInt.toNat)) e1 ?_
    refine callVi (As := [.int (nI ((xs (i + 1)).toInt.toNat))]) (rest := [.int r1]) X hB1 (fun _ h => h) (r_longest (l := l) (D := D) (sz := H1.size)  i2 i4 i5 i6 i7 i8 hR1 (by omega)) k_1259 k_1260 k_1261 k_75 k_1262 gmo cl_Ref rfl hd_Ref_longest ⟨Nat.le_of_ble_eq_true rfl, Nat.le_of_ble_eq_true rfl⟩ ⟨show cells + 0 + 0 ≤ 600000 by omega, show slots + 0 + 0 ≤ 7302250 by omega⟩ hl.1 (Nat.le_of_ble_eq_true rfl) d_law_978 rfl (fun r2 w2 H2 locs2 hp2 hB2 => ?_)
    obtain ⟨q2, rfl⟩ := hp2
    have heq := q1.trans q2.symm
    have hLI := hI
    refine wf_ceq (tgt := 1009) hx hb d_law_981 (by decide) rfl rfl (fun _ => ?_) (fun hne => absurd (congrArg Int32.toInt heq) hne)
    refine W.widen (k := cells + 1) (n := slots + 3) (by omega) (by omega) ?_
    exact K _ _ _ _ _ _ _ _ _ _ _ _ hLI hB2
  · refine lv_aload_n hx hb d_law_963 rfl (lv_at hl 1 rfl) ?_
    refine lv_aload_n hx hb d_law_964 rfl (lv_at hl 0 rfl) ?_
    refine lv_iload_n hx hb d_law_965 rfl (lv_at hl 3 rfl) ?_
    refine lv_iconst (v := nI 1) hx hb d_law_966 (by decide) ?_
    refine wf_iadd (x := i) (y := 1) hx hb d_law_967 ?_
    refine lw_ld hx hb hX hbl hB hbA (n := i + 1) (by omega) hL d_law_968 ?_
    refine callVi (As := [.int (xs (i + 1))]) (rest := []) X hB (fun _ h => h) (k_longestb (l := l) (D := D) (sz := H.size)  i1 i4 i5 i6 i7 i8 i9 hv) k_853 k_854 k_855 k_64 k_856 i9.1 cl_TM rfl hd_TM_longest ⟨Nat.le_of_ble_eq_true rfl, Nat.le_of_ble_eq_true rfl⟩ ⟨show cells + 0 ≤ 600000 by omega, show slots + 0 ≤ 7302250 by omega⟩ hl.1 (Nat.le_of_ble_eq_true rfl) d_law_969 rfl (fun r1 w1 H1 locs1 hp1 hB1 => ?_)
    obtain ⟨q1, rfl⟩ := hp1
    have hR1 := i10
    obtain ⟨pz9, wy9, fi9, se9, ho9, lx9, ly9, ts9, tS9, cs9, av9, lz9, hz19, nl9, nh9, ce9, qd9, gmo⟩ := hR1.1
    refine lv_aload_n hx hb d_law_972 rfl (lv_at hl 2 rfl) ?_
    refine lv_aload_n hx hb d_law_973 rfl (lv_at hl 0 rfl) ?_
    refine lv_iload_n hx hb d_law_974 rfl (lv_at hl 3 rfl) ?_
    refine lv_iconst (v := nI 1) hx hb d_law_975 (by decide) ?_
    refine wf_iadd (x := i) (y := 1) hx hb d_law_976 ?_
    refine lw_ld hx hb hX hbl hB1 hbA (n := i + 1) (by omega) hL d_law_977 ?_
    refine callVi (As := [.int (xs (i + 1))]) (rest := [.int r1]) X hB1 (fun _ h => h) (r_longestb (l := l) (D := D) (sz := H1.size)  i2 i4 i5 i6 i7 i8 hR1 hv) k_1259 k_1260 k_1261 k_75 k_1262 gmo cl_Ref rfl hd_Ref_longest ⟨Nat.le_of_ble_eq_true rfl, Nat.le_of_ble_eq_true rfl⟩ ⟨show cells + 0 + 0 ≤ 600000 by omega, show slots + 0 + 0 ≤ 7302250 by omega⟩ hl.1 (Nat.le_of_ble_eq_true rfl) d_law_978 rfl (fun r2 w2 H2 locs2 hp2 hB2 => ?_)
    obtain ⟨q2, rfl⟩ := hp2
    have heq := q1.trans q2.symm
    have hLI := hI
    refine wf_ceq (tgt := 1009) hx hb d_law_981 (by decide) rfl rfl (fun _ => ?_) (fun hne => absurd (congrArg Int32.toInt heq) hne)
    refine W.widen (k := cells + 1) (n := slots + 3) (by omega) (by omega) ?_
    exact K _ _ _ _ _ _ _ _ _ _ _ _ hLI hB2
set_option maxHeartbeats 4000000 in
set_option maxRecDepth 100000 in
theorem lw_c27 {l : Launch} {p : Program} {e : Env} {s : State} {m : MethodId} {below : List Frame} {meth : Method} {c : Code} {D : va_G} {t : Nat → ClassId} {nm : String} {ret0 : Option FieldType} {b L : Nat} {xs : Nat → Int32} {Q : State → Prop} {w : wf_W} {H : Heap} {locs : List Loc} {ls : Array Slot} {cells slots i : Nat} {C pa sa : Nat → Nat} {mo : Nat} {A : Nat → Nat} {k mn cz tz ca : Nat} {cl tl Sz En Nx : Nat → Nat} (X : Cx p s m meth c R_Law nm code 4 ret0 D t) (hX : va_X b L xs s s.heap) (hbl : b < s.heap.size) (hB : wf_B D wcl (fun q : Nat => s.heap.size ≤ q) s.heap w H locs) (hI : LI t w C pa sa mo A k mn cz tz ca cl tl Sz En Nx) (hl : lv_has ls 4 [(0, .ref b), (1, .ref (C 0)), (2, .ref mo), (3, .int (nI i))]) (hi : i + 3 < L) (hL : L ≤ 2049) (hcc : cells + 1 ≤ 600000 ∧ slots + 3 ≤ 7302250) (K : ∀ (w' : wf_W) (H' : Heap) (locs' : List Loc) (mn' cz' tz' ca' : Nat) (cl' tl' Sz' En' Nx' : Nat → Nat), LI t w' C pa sa mo A k mn' cz' tz' ca' cl' tl' Sz' En' Nx' → wf_B D wcl (fun q : Nat => s.heap.size ≤ q) s.heap w' H' locs' → W p l e room_1 s m #[Value.ref b] below meth c H' locs' (cells + 1) (slots + 3) Q (F0 m 1009 ls [])) : W p l e room_1 s m #[Value.ref b] below meth c H locs cells slots Q (F0 m 986 ls []) := by
  have hx := X.1
  have hb := X.2.1
  have hbA : ¬ (fun q : Nat => s.heap.size ≤ q) b := Nat.not_le.mpr hbl
  obtain ⟨i1, i2, i3, i4, i5, i6, i7, i8, i9, i10⟩ := id hI
  have hmn := i5.1
  refine lv_aload_n hx hb d_law_986 rfl (lv_at hl 1 rfl) ?_
  refine lv_aload_n hx hb d_law_987 rfl (lv_at hl 0 rfl) ?_
  refine lv_iload_n hx hb d_law_988 rfl (lv_at hl 3 rfl) ?_
  refine lv_iconst (v := nI 1) hx hb d_law_989 (by decide) ?_
  refine wf_iadd (x := i) (y := 1) hx hb d_law_990 ?_
  refine lw_ld hx hb hX hbl hB hbA (n := i + 1) (by omega) hL d_law_991 ?_
  refine callVi (As := [.int (xs (i + 1))]) (rest := []) X hB (fun _ h => h) (k_of (l := l) (D := D) (sz := H.size)  i1 i4 i5 i6 i7 i8 i9 ) k_861 k_862 k_863 k_64 k_864 i9.1 cl_TM rfl hd_TM_of ⟨Nat.le_of_ble_eq_true rfl, Nat.le_of_ble_eq_true rfl⟩ ⟨show cells + 0 ≤ 600000 by omega, show slots + 0 ≤ 7302250 by omega⟩ hl.1 (Nat.le_of_ble_eq_true rfl) d_law_992 rfl (fun r1 w1 H1 locs1 hp1 hB1 => ?_)
  obtain ⟨q1, rfl⟩ := hp1
  have hR1 := i10
  obtain ⟨pz9, wy9, fi9, se9, ho9, lx9, ly9, ts9, tS9, cs9, av9, lz9, hz19, nl9, nh9, ce9, qd9, gmo⟩ := hR1.1
  refine lv_aload_n hx hb d_law_995 rfl (lv_at hl 2 rfl) ?_
  refine lv_aload_n hx hb d_law_996 rfl (lv_at hl 0 rfl) ?_
  refine lv_iload_n hx hb d_law_997 rfl (lv_at hl 3 rfl) ?_
  refine lv_iconst (v := nI 1) hx hb d_law_998 (by decide) ?_
  refine wf_iadd (x := i) (y := 1) hx hb d_law_999 ?_
  refine lw_ld hx hb hX hbl hB1 hbA (n := i + 1) (by omega) hL d_law_1000 ?_
  refine callVi (As := [.int (xs (i + 1))]) (rest := [.int r1]) X hB1 (fun _ h => h) (r_of (l := l) (D := D) (sz := H1.size)  i2 i4 i5 i6 i7 i8 hR1 ) k_1263 k_1264 k_1265 k_75 k_1266 gmo cl_Ref rfl hd_Ref_of ⟨Nat.le_of_ble_eq_true rfl, Nat.le_of_ble_eq_true rfl⟩ ⟨show cells + 0 + 0 ≤ 600000 by omega, show slots + 0 + 0 ≤ 7302250 by omega⟩ hl.1 (Nat.le_of_ble_eq_true rfl) d_law_1001 rfl (fun r2 w2 H2 locs2 hp2 hB2 => ?_)
  obtain ⟨q2, rfl⟩ := hp2
  have heq := q1.trans q2.symm
  have hLI := hI
  refine wf_ceq (tgt := 1009) hx hb d_law_1004 (by decide) rfl rfl (fun _ => ?_) (fun hne => absurd (congrArg Int32.toInt heq) hne)
  refine W.widen (k := cells + 1) (n := slots + 3) (by omega) (by omega) ?_
  exact K _ _ _ _ _ _ _ _ _ _ _ _ hLI hB2
