theorem lik_s {k n i : Nat} {d : Nat → Nat → Nat} {Z : Nat → Bool} {LO LT : Nat → Nat} (hd : ∀ u a, u < n → a < k → d u a < n) (hcl : ∀ u v, u < n → v < n → (LO u = LO v ↔ eqv k d Z i u v)) (hth : ∀ u, u < n → LT u ≤ u ∧ smL LO d k u (LT u) ∧ ∀ q, q < LT u → ¬ smL LO d k u q) :
    ∀ u v, u < n → v < n → (LT u = LT v ↔ eqv k d Z (i + 1) u v) := by
  have key : ∀ u v, u < n → v < n → (smL LO d k u v ↔ eqv k d Z (i + 1) u v) := fun u v hu hv => eqv_mark hd hcl hu hv
  intro u v hu hv
  obtain ⟨a1, a2, a3⟩ := hth u hu
  obtain ⟨b1, b2, b3⟩ := hth v hv
  have a2 := (key u _ hu (by omega)).mp a2
  have b2 := (key v _ hv (by omega)).mp b2
  constructor
  · intro e
    rw [← e] at b2
    exact eqv_tr a2 (eqv_sy b2)
  · intro e
    rcases Nat.lt_trichotomy (LT u) (LT v) with h | h | h
    · exact absurd ((key v _ hv (by omega)).mpr (eqv_tr (eqv_sy e) a2)) (b3 _ h)
    · exact h
    · exact absurd ((key u _ hu (by omega)).mpr (eqv_tr e b2)) (a3 _ h)
set_option maxHeartbeats 4000000 in
set_option maxRecDepth 100000 in
theorem c_Ref_findLike_L101 {l : Launch} {D : va_G} {t : Nat → ClassId} {w : wf_W} {mo az an ae ac ato aps apt al aip alo alt aic arw aco act asp anu aor ann ald ahd acn ais aq acf acb aw k mn cz tz ca pz wy fi se ho lx ly ts tS cs av lz hz1 nl nh ce qd : Nat} {Sz Nx En LO LT : Nat → Nat} {d : Nat} {r2 : Nat} {LT5 : Nat → Nat} {p : Program} {e : Env} {s : State} {m : MethodId} {below : List Frame} {meth : Method} {c : Code} {Q : State → Prop} (X : Cx p s m meth c R_Ref "findLike" b_Ref_findLike 5 none D t) (hN : nd [mo, az, an, ae, alo, alt]) (hMo : w mo = some (rfO k mn az an ae ac cz ato tz ca aps apt al aip pz wy fi se ho lx ly ts tS alo alt aic arw aco act asp cs anu aor ann av ald ahd lz hz1 nl nh acn ce ais aq acf acb qd aw)) (h_az : w az = some (.inl (t 0, 60, .inl (iA Sz)))) (h_an : w an = some (.inl (t 0, 9600, .inl (iA Nx)))) (h_ae : w ae = some (.inl (t 1, 60, .inr (.inl (lA En))))) (h_alo : w alo = some (.inl (t 0, 40, .inl (iA LO)))) (h_alt : w alt = some (.inl (t 0, 40, .inl (iA LT)))) (hm : rOK k (Sz fi) (En fi) (nxt Nx fi)) (hf6 : fi < 60) (hd : d ≤ 40)
    (K_132 : ∀ (i5 : Nat) (LO5 : Nat → Nat), (i5 ≤ Sz fi) → (∀ u, u < i5 → LO5 u = LT5 u) → (i5 = Sz fi) → ∀ (H : Heap) (locs : List Loc) (ls : Array Slot), lv_has ls 5 [(0, .ref mo), (1, .int (nI d)), (2, .int (nI r2)), (3, .int (nI i5))] → wf_B D wcl (wf_A w s.heap.size) s.heap (wf_l w [(mo, rfO k mn az an ae ac cz ato tz ca aps apt al aip pz wy fi se ho lx ly ts tS alo alt aic arw aco act asp cs anu aor ann av ald ahd lz hz1 nl nh acn ce ais aq acf acb qd aw), (az, .inl (t 0, 60, .inl (iA Sz))), (an, .inl (t 0, 9600, .inl (iA Nx))), (ae, .inl (t 1, 60, .inr (.inl (lA En)))), (alo, .inl (t 0, 40, .inl (iA LO5))), (alt, .inl (t 0, 40, .inl (iA LT5)))]) H locs → W p l e (rmk 2 47 0 0) s m [.ref mo, .int (nI d)].toArray below meth c H locs 0 0 Q (F0 m 132 ls [])) :
    ∀ (fu : Nat) (i5 : Nat) (LO5 : Nat → Nat), (i5 ≤ Sz fi) → (∀ u, u < i5 → LO5 u = LT5 u) → Sz fi - i5 < fu → ∀ (H : Heap) (locs : List Loc) (ls : Array Slot), lv_has ls 5 [(0, .ref mo), (1, .int (nI d)), (2, .int (nI r2)), (3, .int (nI i5))] → wf_B D wcl (wf_A w s.heap.size) s.heap (wf_l w [(mo, rfO k mn az an ae ac cz ato tz ca aps apt al aip pz wy fi se ho lx ly ts tS alo alt aic arw aco act asp cs anu aor ann av ald ahd lz hz1 nl nh acn ce ais aq acf acb qd aw), (az, .inl (t 0, 60, .inl (iA Sz))), (an, .inl (t 0, 9600, .inl (iA Nx))), (ae, .inl (t 1, 60, .inr (.inl (lA En)))), (alo, .inl (t 0, 40, .inl (iA LO5))), (alt, .inl (t 0, 40, .inl (iA LT5)))]) H locs → W p l e (rmk 2 47 0 0) s m [.ref mo, .int (nI d)].toArray below meth c H locs 0 0 Q (F0 m 101 ls []) := by
  have hx := X.1
  have hb := X.2.1
  intro fu
  induction fu with
  | zero => intro i5 LO5 hi5 hg5 hfu; exact absurd hfu (Nat.not_lt_zero _)
  | succ fu ih =>
    intro i5 LO5 hi5 hg5 hfu H locs ls hl hB
    have hM := rOK_m hm
    have hk := hm.1
    have hn := hm.2.1
    have hn0 := hm.2.2.1
    have hE := hm.E40
    refine lv_iload_n hx hb d_Ref_findLike_101 rfl (lv_at hl 3 rfl) ?_
    refine lv_aload_n hx hb d_Ref_findLike_102 rfl (lv_at hl 0 rfl) ?_
    refine rgetL X hB hN 0 i_Ref rfl cl_Ref 2 (by decide) k_876 rfl rfl d_Ref_findLike_103 ?_
    refine lv_aload_n hx hb d_Ref_findLike_106 rfl (lv_at hl 0 rfl) ?_
    refine rgetL X hB hN 0 i_Ref rfl cl_Ref 16 (by decide) k_890 rfl rfl d_Ref_findLike_107 ?_
    refine rialdL X hB hN 1 rfl (i := fi) (by omega) (by decide) d_Ref_findLike_110 ?_
    refine wf_ti (y := nI (Sz fi)) rfl ?_
    refine wf_cge (tgt := 132) hx hb d_Ref_findLike_111 (by decide) (nI_toInt (by omega)) (nI_toInt (by omega)) (fun c_111 => ?_) (fun c_111 => ?_)
    · exact K_132 i5 LO5 hi5 hg5 (by omega) H locs ls (lv_sub hl [0, 1, 2, 3] rfl) hB
    · refine lv_aload_n hx hb d_Ref_findLike_114 rfl (lv_at hl 0 rfl) ?_
      refine rgetL X hB hN 0 i_Ref rfl cl_Ref 23 (by decide) k_897 rfl rfl d_Ref_findLike_115 ?_
      refine lv_iload_n hx hb d_Ref_findLike_118 rfl (lv_at hl 3 rfl) ?_
      refine lv_aload_n hx hb d_Ref_findLike_119 rfl (lv_at hl 0 rfl) ?_
      refine rgetL X hB hN 0 i_Ref rfl cl_Ref 24 (by decide) k_898 rfl rfl d_Ref_findLike_120 ?_
      refine lv_iload_n hx hb d_Ref_findLike_123 rfl (lv_at hl 3 rfl) ?_
      refine rialdL X hB hN 5 rfl (i := i5) (by omega) (by decide) d_Ref_findLike_124 ?_
      refine wf_ti (y := nI (LT5 i5)) rfl ?_
      refine riastA X hB hN 4 (wl' := [(mo, rfO k mn az an ae ac cz ato tz ca aps apt al aip pz wy fi se ho lx ly ts tS alo alt aic arw aco act asp cs anu aor ann av ald ahd lz hz1 nl nh acn ce ais aq acf acb qd aw), (az, .inl (t 0, 60, .inl (iA Sz))), (an, .inl (t 0, 9600, .inl (iA Nx))), (ae, .inl (t 1, 60, .inr (.inl (lA En)))), (alo, .inl (t 0, 40, .inl (iA (nu LO5 i5 (LT5 i5))))), (alt, .inl (t 0, 40, .inl (iA LT5)))]) rfl (i := i5) (by omega) (by decide) d_Ref_findLike_125 rfl (fun H locs hB => ?_)
      refine lv_iinc (v := nI (i5 + 1)) (lv' := [(3, .int (nI (i5 + 1))), (0, .ref mo), (1, .int (nI d)), (2, .int (nI r2))]) hx hb d_Ref_findLike_126 hl (k := 3) rfl (show nI i5 + nI 1 = nI (i5 + 1) from nI_add _ _) (by decide) rfl (fun ls hl => ?_)
      refine lv_goto (tgt := 101) hx hb d_Ref_findLike_129 (by decide) ?_
      exact ih (i5 + 1) (nu LO5 i5 (LT5 i5)) (by omega) (by intro u hu; by_cases e9 : u = i5; (rw [e9, nu_s]); rw [nu_n e9]; exact hg5 u (by omega)) (by omega) H locs ls (lv_sub hl [1, 2, 3, 0] rfl) hB
set_option maxHeartbeats 4000000 in
set_option maxRecDepth 100000 in
theorem c_Ref_findLike_L69 {l : Launch} {D : va_G} {t : Nat → ClassId} {w : wf_W} {mo az an ae ac ato aps apt al aip alo alt aic arw aco act asp anu aor ann ald ahd acn ais aq acf acb aw k mn cz tz ca pz wy fi se ho lx ly ts tS cs av lz hz1 nl nh ce qd : Nat} {Sz Nx En LO LT : Nat → Nat} {d : Nat} {r2 i3 : Nat} {LO2 LT3 : Nat → Nat} {p : Program} {e : Env} {s : State} {m : MethodId} {below : List Frame} {meth : Method} {c : Code} {Q : State → Prop} (X : Cx p s m meth c R_Ref "findLike" b_Ref_findLike 5 none D t) (hN : nd [mo, az, an, ae, alo, alt]) (hMo : w mo = some (rfO k mn az an ae ac cz ato tz ca aps apt al aip pz wy fi se ho lx ly ts tS alo alt aic arw aco act asp cs anu aor ann av ald ahd lz hz1 nl nh acn ce ais aq acf acb qd aw)) (h_az : w az = some (.inl (t 0, 60, .inl (iA Sz)))) (h_an : w an = some (.inl (t 0, 9600, .inl (iA Nx)))) (h_ae : w ae = some (.inl (t 1, 60, .inr (.inl (lA En))))) (h_alo : w alo = some (.inl (t 0, 40, .inl (iA LO)))) (h_alt : w alt = some (.inl (t 0, 40, .inl (iA LT)))) (hm : rOK k (Sz fi) (En fi) (nxt Nx fi)) (hf6 : fi < 60) (hd : d ≤ 40) (hlo2 : ∀ u, u < Sz fi → LO2 u < 64) (hi3 : i3 < Sz fi)
    (K_85 : ∀ (q4 : Nat), (q4 ≤ i3) → (∀ q, q < q4 → ¬ smL LO2 (nxt Nx fi) k i3 q) → (smL LO2 (nxt Nx fi) k i3 q4) → ∀ (H : Heap) (locs : List Loc) (ls : Array Slot), lv_has ls 5 [(0, .ref mo), (1, .int (nI d)), (2, .int (nI r2)), (3, .int (nI i3)), (4, .int (nI q4))] → wf_B D wcl (wf_A w s.heap.size) s.heap (wf_l w [(mo, rfO k mn az an ae ac cz ato tz ca aps apt al aip pz wy fi se ho lx ly ts tS alo alt aic arw aco act asp cs anu aor ann av ald ahd lz hz1 nl nh acn ce ais aq acf acb qd aw), (az, .inl (t 0, 60, .inl (iA Sz))), (an, .inl (t 0, 9600, .inl (iA Nx))), (ae, .inl (t 1, 60, .inr (.inl (lA En)))), (alo, .inl (t 0, 40, .inl (iA LO2))), (alt, .inl (t 0, 40, .inl (iA LT3)))]) H locs → W p l e (rmk 2 47 0 0) s m [.ref mo, .int (nI d)].toArray below meth c H locs 0 0 Q (F0 m 85 ls [])) :
    ∀ (fu : Nat) (q4 : Nat), (q4 ≤ i3) → (∀ q, q < q4 → ¬ smL LO2 (nxt Nx fi) k i3 q) → i3 - q4 < fu → ∀ (H : Heap) (locs : List Loc) (ls : Array Slot), lv_has ls 5 [(0, .ref mo), (1, .int (nI d)), (2, .int (nI r2)), (3, .int (nI i3)), (4, .int (nI q4))] → wf_B D wcl (wf_A w s.heap.size) s.heap (wf_l w [(mo, rfO k mn az an ae ac cz ato tz ca aps apt al aip pz wy fi se ho lx ly ts tS alo alt aic arw aco act asp cs anu aor ann av ald ahd lz hz1 nl nh acn ce ais aq acf acb qd aw), (az, .inl (t 0, 60, .inl (iA Sz))), (an, .inl (t 0, 9600, .inl (iA Nx))), (ae, .inl (t 1, 60, .inr (.inl (lA En)))), (alo, .inl (t 0, 40, .inl (iA LO2))), (alt, .inl (t 0, 40, .inl (iA LT3)))]) H locs → W p l e (rmk 2 47 0 0) s m [.ref mo, .int (nI d)].toArray below meth c H locs 0 0 Q (F0 m 69 ls []) := by
  have hx := X.1
  have hb := X.2.1
  intro fu
  induction fu with
  | zero => intro q4 hq4 hn4 hfu; exact absurd hfu (Nat.not_lt_zero _)
  | succ fu ih =>
    intro q4 hq4 hn4 hfu H locs ls hl hB
    have hM := rOK_m hm
    have hk := hm.1
    have hn := hm.2.1
    have hn0 := hm.2.2.1
    have hE := hm.E40
    refine lv_aload_n hx hb d_Ref_findLike_69 rfl (lv_at hl 0 rfl) ?_
    refine lv_iload_n hx hb d_Ref_findLike_70 rfl (lv_at hl 3 rfl) ?_
    refine lv_iload hx hb d_Ref_findLike_71 (lv_at hl 4 rfl) ?_
    refine callVi (As := [.int (nI i3), .int (nI q4)]) (rest := []) X hB wf_hA (c_Ref_isSameLike (l := l) (D := D) (t := t) (w := (wf_l w [(mo, rfO k mn az an ae ac cz ato tz ca aps apt al aip pz wy fi se ho lx ly ts tS alo alt aic arw aco act asp cs anu aor ann av ald ahd lz hz1 nl nh acn ce ais aq acf acb qd aw), (az, .inl (t 0, 60, .inl (iA Sz))), (an, .inl (t 0, 9600, .inl (iA Nx))), (ae, .inl (t 1, 60, .inr (.inl (lA En)))), (alo, .inl (t 0, 40, .inl (iA LO2))), (alt, .inl (t 0, 40, .inl (iA LT3)))])) (sz := H.size) (mo := mo) (az := az) (an := an) (ae := ae) (ac := ac) (ato := ato) (aps := aps) (apt := apt) (al := al) (aip := aip) (alo := alo) (alt := alt) (aic := aic) (arw := arw) (aco := aco) (act := act) (asp := asp) (anu := anu) (aor := aor) (ann := ann) (ald := ald) (ahd := ahd) (acn := acn) (ais := ais) (aq := aq) (acf := acf) (acb := acb) (aw := aw) (k := k) (mn := mn) (cz := cz) (tz := tz) (ca := ca) (pz := pz) (wy := wy) (fi := fi) (se := se) (ho := ho) (lx := lx) (ly := ly) (ts := ts) (tS := tS) (cs := cs) (av := av) (lz := lz) (hz1 := hz1) (nl := nl) (nh := nh) (ce := ce) (qd := qd) (Sz := Sz) (Nx := Nx) (En := En) (LO := LO2) (u := i3) (v := q4) (wf_lg (w := w) (l := [(mo, rfO k mn az an ae ac cz ato tz ca aps apt al aip pz wy fi se ho lx ly ts tS alo alt aic arw aco act asp cs anu aor ann av ald ahd lz hz1 nl nh acn ce ais aq acf acb qd aw), (az, .inl (t 0, 60, .inl (iA Sz))), (an, .inl (t 0, 9600, .inl (iA Nx))), (ae, .inl (t 1, 60, .inr (.inl (lA En)))), (alo, .inl (t 0, 40, .inl (iA LO2))), (alt, .inl (t 0, 40, .inl (iA LT3)))]) hN 0 rfl) (wf_lg (w := w) (l := [(mo, rfO k mn az an ae ac cz ato tz ca aps apt al aip pz wy fi se ho lx ly ts tS alo alt aic arw aco act asp cs anu aor ann av ald ahd lz hz1 nl nh acn ce ais aq acf acb qd aw), (az, .inl (t 0, 60, .inl (iA Sz))), (an, .inl (t 0, 9600, .inl (iA Nx))), (ae, .inl (t 1, 60, .inr (.inl (lA En)))), (alo, .inl (t 0, 40, .inl (iA LO2))), (alt, .inl (t 0, 40, .inl (iA LT3)))]) hN 2 rfl) (wf_lg (w := w) (l := [(mo, rfO k mn az an ae ac cz ato tz ca aps apt al aip pz wy fi se ho lx ly ts tS alo alt aic arw aco act asp cs anu aor ann av ald ahd lz hz1 nl nh acn ce ais aq acf acb qd aw), (az, .inl (t 0, 60, .inl (iA Sz))), (an, .inl (t 0, 9600, .inl (iA Nx))), (ae, .inl (t 1, 60, .inr (.inl (lA En)))), (alo, .inl (t 0, 40, .inl (iA LO2))), (alt, .inl (t 0, 40, .inl (iA LT3)))]) hN 4 rfl) (by exact hm) (by exact hf6) (by exact hi3) (by omega) (by intro u9 h9; have := hlo2 u9 h9; omega)) k_1197 k_1199 k_58 k_75 k_1200 (wf_lg (w := w) (l := [(mo, rfO k mn az an ae ac cz ato tz ca aps apt al aip pz wy fi se ho lx ly ts tS alo alt aic arw aco act asp cs anu aor ann av ald ahd lz hz1 nl nh acn ce ais aq acf acb qd aw), (az, .inl (t 0, 60, .inl (iA Sz))), (an, .inl (t 0, 9600, .inl (iA Nx))), (ae, .inl (t 1, 60, .inr (.inl (lA En)))), (alo, .inl (t 0, 40, .inl (iA LO2))), (alt, .inl (t 0, 40, .inl (iA LT3)))]) hN 0 rfl) cl_Ref rfl hd_Ref_isSameLike ⟨Nat.le_of_ble_eq_true rfl, Nat.le_of_ble_eq_true rfl⟩ ⟨Nat.le_of_ble_eq_true rfl, Nat.le_of_ble_eq_true rfl⟩ hl.1 (Nat.le_of_ble_eq_true rfl) d_Ref_findLike_73 rfl (fun r_73 w1 H locs hp hB => ?_)
    rcases hp with ⟨hy_73, rfl, hw_73⟩ | ⟨hy_73, rfl, hw_73⟩
    · have hB : wf_B D wcl (wf_A w s.heap.size) s.heap (wf_l w [(mo, rfO k mn az an ae ac cz ato tz ca aps apt al aip pz wy fi se ho lx ly ts tS alo alt aic arw aco act asp cs anu aor ann av ald ahd lz hz1 nl nh acn ce ais aq acf acb qd aw), (az, .inl (t 0, 60, .inl (iA Sz))), (an, .inl (t 0, 9600, .inl (iA Nx))), (ae, .inl (t 1, 60, .inr (.inl (lA En)))), (alo, .inl (t 0, 40, .inl (iA LO2))), (alt, .inl (t 0, 40, .inl (iA LT3)))]) H locs := wf_Bto hw_73 hB
      refine wf_bne (tgt := 85) hx hb d_Ref_findLike_76 (by decide) (fun _ => ?_) (fun c9 => absurd c9 (by decide))
      exact K_85 q4 hq4 hn4 (by exact hy_73) H locs ls (lv_sub hl [0, 1, 2, 3, 4] rfl) hB
    · have hB : wf_B D wcl (wf_A w s.heap.size) s.heap (wf_l w [(mo, rfO k mn az an ae ac cz ato tz ca aps apt al aip pz wy fi se ho lx ly ts tS alo alt aic arw aco act asp cs anu aor ann av ald ahd lz hz1 nl nh acn ce ais aq acf acb qd aw), (az, .inl (t 0, 60, .inl (iA Sz))), (an, .inl (t 0, 9600, .inl (iA Nx))), (ae, .inl (t 1, 60, .inr (.inl (lA En)))), (alo, .inl (t 0, 40, .inl (iA LO2))), (alt, .inl (t 0, 40, .inl (iA LT3)))]) H locs := wf_Bto hw_73 hB
      refine wf_bne (tgt := 85) hx hb d_Ref_findLike_76 (by decide) (fun c9 => absurd c9 (by decide)) (fun _ => ?_)
      refine lv_iinc (v := nI (q4 + 1)) (lv' := [(4, .int (nI (q4 + 1))), (0, .ref mo), (1, .int (nI d)), (2, .int (nI r2)), (3, .int (nI i3))]) hx hb d_Ref_findLike_79 hl (k := 4) rfl (show nI q4 + nI 1 = nI (q4 + 1) from nI_add _ _) (by decide) rfl (fun ls hl => ?_)
      refine lv_goto (tgt := 69) hx hb d_Ref_findLike_82 (by decide) ?_
      exact ih (q4 + 1) (by have : q4 ≠ i3 := (fun e9 => hy_73 (by rw [e9]; exact ⟨rfl, fun b hb => rfl⟩)); omega) (by intro q hq; by_cases e9 : q = q4; (rw [e9]; exact hy_73); exact hn4 q (by omega)) (by have : q4 ≠ i3 := (fun e9 => hy_73 (by rw [e9]; exact ⟨rfl, fun b hb => rfl⟩)); omega) H locs ls (lv_sub hl [1, 2, 3, 4, 0] rfl) hB
set_option maxHeartbeats 4000000 in
set_option maxRecDepth 100000 in
theorem c_Ref_findLike_L53 {l : Launch} {D : va_G} {t : Nat → ClassId} {w : wf_W} {mo az an ae ac ato aps apt al aip alo alt aic arw aco act asp anu aor ann ald ahd acn ais aq acf acb aw k mn cz tz ca pz wy fi se ho lx ly ts tS cs av lz hz1 nl nh ce qd : Nat} {Sz Nx En LO LT : Nat → Nat} {d : Nat} {r2 : Nat} {LO2 : Nat → Nat} {p : Program} {e : Env} {s : State} {m : MethodId} {below : List Frame} {meth : Method} {c : Code} {Q : State → Prop} (X : Cx p s m meth c R_Ref "findLike" b_Ref_findLike 5 none D t) (hN : nd [mo, az, an, ae, alo, alt]) (hMo : w mo = some (rfO k mn az an ae ac cz ato tz ca aps apt al aip pz wy fi se ho lx ly ts tS alo alt aic arw aco act asp cs anu aor ann av ald ahd lz hz1 nl nh acn ce ais aq acf acb qd aw)) (h_az : w az = some (.inl (t 0, 60, .inl (iA Sz)))) (h_an : w an = some (.inl (t 0, 9600, .inl (iA Nx)))) (h_ae : w ae = some (.inl (t 1, 60, .inr (.inl (lA En))))) (h_alo : w alo = some (.inl (t 0, 40, .inl (iA LO)))) (h_alt : w alt = some (.inl (t 0, 40, .inl (iA LT)))) (hm : rOK k (Sz fi) (En fi) (nxt Nx fi)) (hf6 : fi < 60) (hd : d ≤ 40) (hlo2 : ∀ u, u < Sz fi → LO2 u < 64)
    (K_99 : ∀ (i3 : Nat) (LT3 : Nat → Nat), (i3 ≤ Sz fi) → (∀ u, u < i3 → LT3 u ≤ u ∧ smL LO2 (nxt Nx fi) k u (LT3 u) ∧ ∀ q, q < LT3 u → ¬ smL LO2 (nxt Nx fi) k u q) → (i3 = Sz fi) → ∀ (H : Heap) (locs : List Loc) (ls : Array Slot), lv_has ls 5 [(0, .ref mo), (1, .int (nI d)), (2, .int (nI r2)), (3, .int (nI i3))] → wf_B D wcl (wf_A w s.heap.size) s.heap (wf_l w [(mo, rfO k mn az an ae ac cz ato tz ca aps apt al aip pz wy fi se ho lx ly ts tS alo alt aic arw aco act asp cs anu aor ann av ald ahd lz hz1 nl nh acn ce ais aq acf acb qd aw), (az, .inl (t 0, 60, .inl (iA Sz))), (an, .inl (t 0, 9600, .inl (iA Nx))), (ae, .inl (t 1, 60, .inr (.inl (lA En)))), (alo, .inl (t 0, 40, .inl (iA LO2))), (alt, .inl (t 0, 40, .inl (iA LT3)))]) H locs → W p l e (rmk 2 47 0 0) s m [.ref mo, .int (nI d)].toArray below meth c H locs 0 0 Q (F0 m 99 ls [])) :
    ∀ (fu : Nat) (i3 : Nat) (LT3 : Nat → Nat), (i3 ≤ Sz fi) → (∀ u, u < i3 → LT3 u ≤ u ∧ smL LO2 (nxt Nx fi) k u (LT3 u) ∧ ∀ q, q < LT3 u → ¬ smL LO2 (nxt Nx fi) k u q) → Sz fi - i3 < fu → ∀ (H : Heap) (locs : List Loc) (ls : Array Slot), lv_has ls 5 [(0, .ref mo), (1, .int (nI d)), (2, .int (nI r2)), (3, .int (nI i3))] → wf_B D wcl (wf_A w s.heap.size) s.heap (wf_l w [(mo, rfO k mn az an ae ac cz ato tz ca aps apt al aip pz wy fi se ho lx ly ts tS alo alt aic arw aco act asp cs anu aor ann av ald ahd lz hz1 nl nh acn ce ais aq acf acb qd aw), (az, .inl (t 0, 60, .inl (iA Sz))), (an, .inl (t 0, 9600, .inl (iA Nx))), (ae, .inl (t 1, 60, .inr (.inl (lA En)))), (alo, .inl (t 0, 40, .inl (iA LO2))), (alt, .inl (t 0, 40, .inl (iA LT3)))]) H locs → W p l e (rmk 2 47 0 0) s m [.ref mo, .int (nI d)].toArray below meth c H locs 0 0 Q (F0 m 53 ls []) := by
  have hx := X.1
  have hb := X.2.1
  intro fu
  induction fu with
  | zero => intro i3 LT3 hi3 hth3 hfu; exact absurd hfu (Nat.not_lt_zero _)
  | succ fu ih =>
    intro i3 LT3 hi3 hth3 hfu H locs ls hl hB
    have hM := rOK_m hm
    have hk := hm.1
    have hn := hm.2.1
    have hn0 := hm.2.2.1
    have hE := hm.E40
    refine lv_iload_n hx hb d_Ref_findLike_53 rfl (lv_at hl 3 rfl) ?_
    refine lv_aload_n hx hb d_Ref_findLike_54 rfl (lv_at hl 0 rfl) ?_
    refine rgetL X hB hN 0 i_Ref rfl cl_Ref 2 (by decide) k_876 rfl rfl d_Ref_findLike_55 ?_
    refine lv_aload_n hx hb d_Ref_findLike_58 rfl (lv_at hl 0 rfl) ?_
    refine rgetL X hB hN 0 i_Ref rfl cl_Ref 16 (by decide) k_890 rfl rfl d_Ref_findLike_59 ?_
    refine rialdL X hB hN 1 rfl (i := fi) (by omega) (by decide) d_Ref_findLike_62 ?_
    refine wf_ti (y := nI (Sz fi)) rfl ?_
    refine wf_cge (tgt := 99) hx hb d_Ref_findLike_63 (by decide) (nI_toInt (by omega)) (nI_toInt (by omega)) (fun c_63 => ?_) (fun c_63 => ?_)
    · exact K_99 i3 LT3 hi3 hth3 (by omega) H locs ls (lv_sub hl [0, 1, 2, 3] rfl) hB
    · have hi3 : i3 < Sz fi := by omega
      refine lv_iconst (v := nI 0) hx hb d_Ref_findLike_66 (by decide) ?_
      refine lv_istore (lv' := [(4, .int (nI 0)), (0, .ref mo), (1, .int (nI d)), (2, .int (nI r2)), (3, .int (nI i3))]) hx hb d_Ref_findLike_67 hl (by decide) rfl (fun ls hl => ?_)
      refine c_Ref_findLike_L69 (l := l) X hN hMo h_az h_an h_ae h_alo h_alt hm hf6 hd hlo2 hi3 (fun q4 hq4 hn4 he H locs ls hl hB => ?_) (i3 - 0 + 1) 0 (by omega) (by intro q hq; omega) (by omega) H locs ls (lv_sub hl [1, 2, 3, 4, 0] rfl) hB
      refine lv_aload_n hx hb d_Ref_findLike_85 rfl (lv_at hl 0 rfl) ?_
      refine rgetL X hB hN 0 i_Ref rfl cl_Ref 24 (by decide) k_898 rfl rfl d_Ref_findLike_86 ?_
      refine lv_iload_n hx hb d_Ref_findLike_89 rfl (lv_at hl 3 rfl) ?_
      refine lv_iload hx hb d_Ref_findLike_90 (lv_at hl 4 rfl) ?_
      refine riastA X hB hN 5 (wl' := [(mo, rfO k mn az an ae ac cz ato tz ca aps apt al aip pz wy fi se ho lx ly ts tS alo alt aic arw aco act asp cs anu aor ann av ald ahd lz hz1 nl nh acn ce ais aq acf acb qd aw), (az, .inl (t 0, 60, .inl (iA Sz))), (an, .inl (t 0, 9600, .inl (iA Nx))), (ae, .inl (t 1, 60, .inr (.inl (lA En)))), (alo, .inl (t 0, 40, .inl (iA LO2))), (alt, .inl (t 0, 40, .inl (iA (nu LT3 i3 q4))))]) rfl (i := i3) (by omega) (by decide) d_Ref_findLike_92 rfl (fun H locs hB => ?_)
      refine lv_iinc (v := nI (i3 + 1)) (lv' := [(3, .int (nI (i3 + 1))), (0, .ref mo), (1, .int (nI d)), (2, .int (nI r2)), (4, .int (nI q4))]) hx hb d_Ref_findLike_93 hl (k := 3) rfl (show nI i3 + nI 1 = nI (i3 + 1) from nI_add _ _) (by decide) rfl (fun ls hl => ?_)
      refine lv_goto (tgt := 53) hx hb d_Ref_findLike_96 (by decide) ?_
      exact ih (i3 + 1) (nu LT3 i3 q4) (by omega) (by intro u hu; by_cases e9 : u = i3; (rw [e9, nu_s]; exact ⟨hq4, he, hn4⟩); rw [nu_n e9]; exact hth3 u (by omega)) (by omega) H locs ls (lv_sub hl [1, 2, 3, 0] rfl) hB
set_option maxHeartbeats 4000000 in
set_option maxRecDepth 100000 in
theorem c_Ref_findLike_L46 {l : Launch} {D : va_G} {t : Nat → ClassId} {w : wf_W} {mo az an ae ac ato aps apt al aip alo alt aic arw aco act asp anu aor ann ald ahd acn ais aq acf acb aw k mn cz tz ca pz wy fi se ho lx ly ts tS cs av lz hz1 nl nh ce qd : Nat} {Sz Nx En LO LT : Nat → Nat} {d : Nat}  {p : Program} {e : Env} {s : State} {m : MethodId} {below : List Frame} {meth : Method} {c : Code} {Q : State → Prop} (X : Cx p s m meth c R_Ref "findLike" b_Ref_findLike 5 none D t) (hN : nd [mo, az, an, ae, alo, alt]) (hMo : w mo = some (rfO k mn az an ae ac cz ato tz ca aps apt al aip pz wy fi se ho lx ly ts tS alo alt aic arw aco act asp cs anu aor ann av ald ahd lz hz1 nl nh acn ce ais aq acf acb qd aw)) (h_az : w az = some (.inl (t 0, 60, .inl (iA Sz)))) (h_an : w an = some (.inl (t 0, 9600, .inl (iA Nx)))) (h_ae : w ae = some (.inl (t 1, 60, .inr (.inl (lA En))))) (h_alo : w alo = some (.inl (t 0, 40, .inl (iA LO)))) (h_alt : w alt = some (.inl (t 0, 40, .inl (iA LT)))) (hm : rOK k (Sz fi) (En fi) (nxt Nx fi)) (hf6 : fi < 60) (hd : d ≤ 40)
    (K_138 : ∀ (r2 : Nat) (LO2 : Nat → Nat) (LT2 : Nat → Nat), (r2 ≤ d) → (∀ u v, u < Sz fi → v < Sz fi → (LO2 u = LO2 v ↔ eqv k (nxt Nx fi) (fun z9 => Nat.testBit (En fi) z9) r2 u v)) → (∀ u, u < Sz fi → LO2 u < 64) → (r2 = d) → ∀ (H : Heap) (locs : List Loc) (ls : Array Slot), lv_has ls 5 [(0, .ref mo), (1, .int (nI d)), (2, .int (nI r2))] → wf_B D wcl (wf_A w s.heap.size) s.heap (wf_l w [(mo, rfO k mn az an ae ac cz ato tz ca aps apt al aip pz wy fi se ho lx ly ts tS alo alt aic arw aco act asp cs anu aor ann av ald ahd lz hz1 nl nh acn ce ais aq acf acb qd aw), (az, .inl (t 0, 60, .inl (iA Sz))), (an, .inl (t 0, 9600, .inl (iA Nx))), (ae, .inl (t 1, 60, .inr (.inl (lA En)))), (alo, .inl (t 0, 40, .inl (iA LO2))), (alt, .inl (t 0, 40, .inl (iA LT2)))]) H locs → W p l e (rmk 2 47 0 0) s m [.ref mo, .int (nI d)].toArray below meth c H locs 0 0 Q (F0 m 138 ls [])) :
    ∀ (fu : Nat) (r2 : Nat) (LO2 : Nat → Nat) (LT2 : Nat → Nat), (r2 ≤ d) → (∀ u v, u < Sz fi → v < Sz fi → (LO2 u = LO2 v ↔ eqv k (nxt Nx fi) (fun z9 => Nat.testBit (En fi) z9) r2 u v)) → (∀ u, u < Sz fi → LO2 u < 64) → d - r2 < fu → ∀ (H : Heap) (locs : List Loc) (ls : Array Slot), lv_has ls 5 [(0, .ref mo), (1, .int (nI d)), (2, .int (nI r2))] → wf_B D wcl (wf_A w s.heap.size) s.heap (wf_l w [(mo, rfO k mn az an ae ac cz ato tz ca aps apt al aip pz wy fi se ho lx ly ts tS alo alt aic arw aco act asp cs anu aor ann av ald ahd lz hz1 nl nh acn ce ais aq acf acb qd aw), (az, .inl (t 0, 60, .inl (iA Sz))), (an, .inl (t 0, 9600, .inl (iA Nx))), (ae, .inl (t 1, 60, .inr (.inl (lA En)))), (alo, .inl (t 0, 40, .inl (iA LO2))), (alt, .inl (t 0, 40, .inl (iA LT2)))]) H locs → W p l e (rmk 2 47 0 0) s m [.ref mo, .int (nI d)].toArray below meth c H locs 0 0 Q (F0 m 46 ls []) := by
  have hx := X.1
  have hb := X.2.1
  intro fu
  induction fu with
  | zero => intro r2 LO2 LT2 hr2 hcl2 hlo2 hfu; exact absurd hfu (Nat.not_lt_zero _)
  | succ fu ih =>
    intro r2 LO2 LT2 hr2 hcl2 hlo2 hfu H locs ls hl hB
    have hM := rOK_m hm
    have hk := hm.1
    have hn := hm.2.1
    have hn0 := hm.2.2.1
    have hE := hm.E40
    refine lv_iload_n hx hb d_Ref_findLike_46 rfl (lv_at hl 2 rfl) ?_
    refine lv_iload_n hx hb d_Ref_findLike_47 rfl (lv_at hl 1 rfl) ?_
    refine wf_cge (tgt := 138) hx hb d_Ref_findLike_48 (by decide) (nI_toInt (by omega)) (nI_toInt (by omega)) (fun c_48 => ?_) (fun c_48 => ?_)
    · exact K_138 r2 LO2 LT2 hr2 hcl2 hlo2 (by omega) H locs ls (lv_sub hl [0, 1, 2] rfl) hB
    · refine lv_iconst (v := nI 0) hx hb d_Ref_findLike_51 (by decide) ?_
      refine lv_istore_n (lv' := [(3, .int (nI 0)), (0, .ref mo), (1, .int (nI d)), (2, .int (nI r2))]) hx hb d_Ref_findLike_52 rfl hl (by decide) rfl (fun ls hl => ?_)
      refine c_Ref_findLike_L53 (l := l) X hN hMo h_az h_an h_ae h_alo h_alt hm hf6 hd hlo2 (fun i3 LT3 hi3 hth3 he H locs ls hl hB => ?_) (Sz fi - 0 + 1) 0 LT2 (by omega) (by intro u hu; omega) (by omega) H locs ls (lv_sub hl [1, 2, 3, 0] rfl) hB
      refine lv_iconst (v := nI 0) hx hb d_Ref_findLike_99 (by decide) ?_
      refine lv_istore_n (lv' := [(3, .int (nI 0)), (0, .ref mo), (1, .int (nI d)), (2, .int (nI r2))]) hx hb d_Ref_findLike_100 rfl hl (by decide) rfl (fun ls hl => ?_)
      refine c_Ref_findLike_L101 (l := l) X hN hMo h_az h_an h_ae h_alo h_alt hm hf6 hd (fun i5 LO5 hi5 hg5 he5 H locs ls hl hB => ?_) (Sz fi - 0 + 1) 0 LO2 (by omega) (by intro u hu; omega) (by omega) H locs ls (lv_sub hl [1, 2, 3, 0] rfl) hB
      refine lv_iinc (v := nI (r2 + 1)) (lv' := [(2, .int (nI (r2 + 1))), (0, .ref mo), (1, .int (nI d)), (3, .int (nI i5))]) hx hb d_Ref_findLike_132 hl (k := 2) rfl (show nI r2 + nI 1 = nI (r2 + 1) from nI_add _ _) (by decide) rfl (fun ls hl => ?_)
      refine lv_goto (tgt := 46) hx hb d_Ref_findLike_135 (by decide) ?_
      exact ih (r2 + 1) LO5 LT3 (by omega) (by intro u v hu hv; rw [hg5 u (by omega), hg5 v (by omega)]; exact lik_s hm.2.2.2.2 hcl2 (fun u hu => hth3 u (by omega)) u v hu hv) (by intro u hu; rw [hg5 u (by omega)]; have := (hth3 u (by omega)).1; omega) (by omega) H locs ls (lv_sub hl [1, 2, 0] rfl) hB
set_option maxHeartbeats 4000000 in
set_option maxRecDepth 100000 in
theorem c_Ref_findLike_L2 {l : Launch} {D : va_G} {t : Nat → ClassId} {w : wf_W} {mo az an ae ac ato aps apt al aip alo alt aic arw aco act asp anu aor ann ald ahd acn ais aq acf acb aw k mn cz tz ca pz wy fi se ho lx ly ts tS cs av lz hz1 nl nh ce qd : Nat} {Sz Nx En LO LT : Nat → Nat} {d : Nat}  {p : Program} {e : Env} {s : State} {m : MethodId} {below : List Frame} {meth : Method} {c : Code} {Q : State → Prop} (X : Cx p s m meth c R_Ref "findLike" b_Ref_findLike 5 none D t) (hN : nd [mo, az, an, ae, alo, alt]) (hMo : w mo = some (rfO k mn az an ae ac cz ato tz ca aps apt al aip pz wy fi se ho lx ly ts tS alo alt aic arw aco act asp cs anu aor ann av ald ahd lz hz1 nl nh acn ce ais aq acf acb qd aw)) (h_az : w az = some (.inl (t 0, 60, .inl (iA Sz)))) (h_an : w an = some (.inl (t 0, 9600, .inl (iA Nx)))) (h_ae : w ae = some (.inl (t 1, 60, .inr (.inl (lA En))))) (h_alo : w alo = some (.inl (t 0, 40, .inl (iA LO)))) (h_alt : w alt = some (.inl (t 0, 40, .inl (iA LT)))) (hm : rOK k (Sz fi) (En fi) (nxt Nx fi)) (hf6 : fi < 60) (hd : d ≤ 40)
    (K_44 : ∀ (i1 : Nat) (LO1 : Nat → Nat), (i1 ≤ Sz fi) → (∀ u, u < i1 → LO1 u = if Nat.testBit (En fi) u = true then 1 else 0) → (i1 = Sz fi) → ∀ (H : Heap) (locs : List Loc) (ls : Array Slot), lv_has ls 5 [(0, .ref mo), (1, .int (nI d)), (2, .int (nI i1))] → wf_B D wcl (wf_A w s.heap.size) s.heap (wf_l w [(mo, rfO k mn az an ae ac cz ato tz ca aps apt al aip pz wy fi se ho lx ly ts tS alo alt aic arw aco act asp cs anu aor ann av ald ahd lz hz1 nl nh acn ce ais aq acf acb qd aw), (az, .inl (t 0, 60, .inl (iA Sz))), (an, .inl (t 0, 9600, .inl (iA Nx))), (ae, .inl (t 1, 60, .inr (.inl (lA En)))), (alo, .inl (t 0, 40, .inl (iA LO1))), (alt, .inl (t 0, 40, .inl (iA LT)))]) H locs → W p l e (rmk 2 47 0 0) s m [.ref mo, .int (nI d)].toArray below meth c H locs 0 0 Q (F0 m 44 ls [])) :
    ∀ (fu : Nat) (i1 : Nat) (LO1 : Nat → Nat), (i1 ≤ Sz fi) → (∀ u, u < i1 → LO1 u = if Nat.testBit (En fi) u = true then 1 else 0) → Sz fi - i1 < fu → ∀ (H : Heap) (locs : List Loc) (ls : Array Slot), lv_has ls 5 [(0, .ref mo), (1, .int (nI d)), (2, .int (nI i1))] → wf_B D wcl (wf_A w s.heap.size) s.heap (wf_l w [(mo, rfO k mn az an ae ac cz ato tz ca aps apt al aip pz wy fi se ho lx ly ts tS alo alt aic arw aco act asp cs anu aor ann av ald ahd lz hz1 nl nh acn ce ais aq acf acb qd aw), (az, .inl (t 0, 60, .inl (iA Sz))), (an, .inl (t 0, 9600, .inl (iA Nx))), (ae, .inl (t 1, 60, .inr (.inl (lA En)))), (alo, .inl (t 0, 40, .inl (iA LO1))), (alt, .inl (t 0, 40, .inl (iA LT)))]) H locs → W p l e (rmk 2 47 0 0) s m [.ref mo, .int (nI d)].toArray below meth c H locs 0 0 Q (F0 m 2 ls []) := by
  have hx := X.1
  have hb := X.2.1
  intro fu
  induction fu with
  | zero => intro i1 LO1 hi1 hg1 hfu; exact absurd hfu (Nat.not_lt_zero _)
  | succ fu ih =>
    intro i1 LO1 hi1 hg1 hfu H locs ls hl hB
    have hM := rOK_m hm
    have hk := hm.1
    have hn := hm.2.1
    have hn0 := hm.2.2.1
    have hE := hm.E40
    refine lv_iload_n hx hb d_Ref_findLike_2 rfl (lv_at hl 2 rfl) ?_
    refine lv_aload_n hx hb d_Ref_findLike_3 rfl (lv_at hl 0 rfl) ?_
    refine rgetL X hB hN 0 i_Ref rfl cl_Ref 2 (by decide) k_876 rfl rfl d_Ref_findLike_4 ?_
    refine lv_aload_n hx hb d_Ref_findLike_7 rfl (lv_at hl 0 rfl) ?_
    refine rgetL X hB hN 0 i_Ref rfl cl_Ref 16 (by decide) k_890 rfl rfl d_Ref_findLike_8 ?_
    refine rialdL X hB hN 1 rfl (i := fi) (by omega) (by decide) d_Ref_findLike_11 ?_
    refine wf_ti (y := nI (Sz fi)) rfl ?_
    refine wf_cge (tgt := 44) hx hb d_Ref_findLike_12 (by decide) (nI_toInt (by omega)) (nI_toInt (by omega)) (fun c_12 => ?_) (fun c_12 => ?_)
    · exact K_44 i1 LO1 hi1 hg1 (by omega) H locs ls (lv_sub hl [0, 1, 2] rfl) hB
    · refine lv_aload_n hx hb d_Ref_findLike_15 rfl (lv_at hl 0 rfl) ?_
      refine rgetL X hB hN 0 i_Ref rfl cl_Ref 23 (by decide) k_897 rfl rfl d_Ref_findLike_16 ?_
      refine lv_iload_n hx hb d_Ref_findLike_19 rfl (lv_at hl 2 rfl) ?_
      refine lv_aload_n hx hb d_Ref_findLike_20 rfl (lv_at hl 0 rfl) ?_
      refine lv_aload_n hx hb d_Ref_findLike_21 rfl (lv_at hl 0 rfl) ?_
      refine rgetL X hB hN 0 i_Ref rfl cl_Ref 16 (by decide) k_890 rfl rfl d_Ref_findLike_22 ?_
      refine lv_iload_n hx hb d_Ref_findLike_25 rfl (lv_at hl 2 rfl) ?_
      refine callVi (As := [.int (nI fi), .int (nI i1)]) (rest := [.int (nI i1), .ref alo]) X hB wf_hA (c_Ref_isEnd (l := l) (D := D) (t := t) (w := (wf_l w [(mo, rfO k mn az an ae ac cz ato tz ca aps apt al aip pz wy fi se ho lx ly ts tS alo alt aic arw aco act asp cs anu aor ann av ald ahd lz hz1 nl nh acn ce ais aq acf acb qd aw), (az, .inl (t 0, 60, .inl (iA Sz))), (an, .inl (t 0, 9600, .inl (iA Nx))), (ae, .inl (t 1, 60, .inr (.inl (lA En)))), (alo, .inl (t 0, 40, .inl (iA LO1))), (alt, .inl (t 0, 40, .inl (iA LT)))])) (sz := H.size) (mo := mo) (az := az) (an := an) (ae := ae) (ac := ac) (ato := ato) (aps := aps) (apt := apt) (al := al) (aip := aip) (alo := alo) (alt := alt) (aic := aic) (arw := arw) (aco := aco) (act := act) (asp := asp) (anu := anu) (aor := aor) (ann := ann) (ald := ald) (ahd := ahd) (acn := acn) (ais := ais) (aq := aq) (acf := acf) (acb := acb) (aw := aw) (k := k) (mn := mn) (cz := cz) (tz := tz) (ca := ca) (pz := pz) (wy := wy) (fi := fi) (se := se) (ho := ho) (lx := lx) (ly := ly) (ts := ts) (tS := tS) (cs := cs) (av := av) (lz := lz) (hz1 := hz1) (nl := nl) (nh := nh) (ce := ce) (qd := qd) (En := En) (a := fi) (u := i1) (wf_lg (w := w) (l := [(mo, rfO k mn az an ae ac cz ato tz ca aps apt al aip pz wy fi se ho lx ly ts tS alo alt aic arw aco act asp cs anu aor ann av ald ahd lz hz1 nl nh acn ce ais aq acf acb qd aw), (az, .inl (t 0, 60, .inl (iA Sz))), (an, .inl (t 0, 9600, .inl (iA Nx))), (ae, .inl (t 1, 60, .inr (.inl (lA En)))), (alo, .inl (t 0, 40, .inl (iA LO1))), (alt, .inl (t 0, 40, .inl (iA LT)))]) hN 0 rfl) (wf_lg (w := w) (l := [(mo, rfO k mn az an ae ac cz ato tz ca aps apt al aip pz wy fi se ho lx ly ts tS alo alt aic arw aco act asp cs anu aor ann av ald ahd lz hz1 nl nh acn ce ais aq acf acb qd aw), (az, .inl (t 0, 60, .inl (iA Sz))), (an, .inl (t 0, 9600, .inl (iA Nx))), (ae, .inl (t 1, 60, .inr (.inl (lA En)))), (alo, .inl (t 0, 40, .inl (iA LO1))), (alt, .inl (t 0, 40, .inl (iA LT)))]) hN 3 rfl) (by exact hf6) (by omega) (by omega)) k_1136 k_1138 k_51 k_75 k_1139 (wf_lg (w := w) (l := [(mo, rfO k mn az an ae ac cz ato tz ca aps apt al aip pz wy fi se ho lx ly ts tS alo alt aic arw aco act asp cs anu aor ann av ald ahd lz hz1 nl nh acn ce ais aq acf acb qd aw), (az, .inl (t 0, 60, .inl (iA Sz))), (an, .inl (t 0, 9600, .inl (iA Nx))), (ae, .inl (t 1, 60, .inr (.inl (lA En)))), (alo, .inl (t 0, 40, .inl (iA LO1))), (alt, .inl (t 0, 40, .inl (iA LT)))]) hN 0 rfl) cl_Ref rfl hd_Ref_isEnd ⟨Nat.le_of_ble_eq_true rfl, Nat.le_of_ble_eq_true rfl⟩ ⟨Nat.le_of_ble_eq_true rfl, Nat.le_of_ble_eq_true rfl⟩ hl.1 (Nat.le_of_ble_eq_true rfl) d_Ref_findLike_26 rfl (fun r_26 w1 H locs hp hB => ?_)
      obtain ⟨rfl, hw_26⟩ := hp
      have hB : wf_B D wcl (wf_A w s.heap.size) s.heap (wf_l w [(mo, rfO k mn az an ae ac cz ato tz ca aps apt al aip pz wy fi se ho lx ly ts tS alo alt aic arw aco act asp cs anu aor ann av ald ahd lz hz1 nl nh acn ce ais aq acf acb qd aw), (az, .inl (t 0, 60, .inl (iA Sz))), (an, .inl (t 0, 9600, .inl (iA Nx))), (ae, .inl (t 1, 60, .inr (.inl (lA En)))), (alo, .inl (t 0, 40, .inl (iA LO1))), (alt, .inl (t 0, 40, .inl (iA LT)))]) H locs := wf_Bto hw_26 hB
      refine wf_beq (tgt := 36) hx hb d_Ref_findLike_29 (by decide) (fun c_29 => ?_) (fun c_29 => ?_)
      · refine lv_iconst (v := nI 0) hx hb d_Ref_findLike_36 (by decide) ?_
        refine riastA X hB hN 4 (wl' := [(mo, rfO k mn az an ae ac cz ato tz ca aps apt al aip pz wy fi se ho lx ly ts tS alo alt aic arw aco act asp cs anu aor ann av ald ahd lz hz1 nl nh acn ce ais aq acf acb qd aw), (az, .inl (t 0, 60, .inl (iA Sz))), (an, .inl (t 0, 9600, .inl (iA Nx))), (ae, .inl (t 1, 60, .inr (.inl (lA En)))), (alo, .inl (t 0, 40, .inl (iA (nu LO1 i1 0)))), (alt, .inl (t 0, 40, .inl (iA LT)))]) rfl (i := i1) (by omega) (by decide) d_Ref_findLike_37 rfl (fun H locs hB => ?_)
        refine lv_iinc (v := nI (i1 + 1)) (lv' := [(2, .int (nI (i1 + 1))), (0, .ref mo), (1, .int (nI d))]) hx hb d_Ref_findLike_38 hl (k := 2) rfl (show nI i1 + nI 1 = nI (i1 + 1) from nI_add _ _) (by decide) rfl (fun ls hl => ?_)
        refine lv_goto (tgt := 2) hx hb d_Ref_findLike_41 (by decide) ?_
        exact ih (i1 + 1) (nu LO1 i1 0) (by omega) (by intro u hu; by_cases e9 : u = i1; (rw [e9, nu_s, c_29]; rfl); rw [nu_n e9]; exact hg1 u (by omega)) (by omega) H locs ls (lv_sub hl [1, 2, 0] rfl) hB
      · refine lv_iconst (v := nI 1) hx hb d_Ref_findLike_32 (by decide) ?_
        refine lv_goto (tgt := 37) hx hb d_Ref_findLike_33 (by decide) ?_
        refine riastA X hB hN 4 (wl' := [(mo, rfO k mn az an ae ac cz ato tz ca aps apt al aip pz wy fi se ho lx ly ts tS alo alt aic arw aco act asp cs anu aor ann av ald ahd lz hz1 nl nh acn ce ais aq acf acb qd aw), (az, .inl (t 0, 60, .inl (iA Sz))), (an, .inl (t 0, 9600, .inl (iA Nx))), (ae, .inl (t 1, 60, .inr (.inl (lA En)))), (alo, .inl (t 0, 40, .inl (iA (nu LO1 i1 1)))), (alt, .inl (t 0, 40, .inl (iA LT)))]) rfl (i := i1) (by omega) (by decide) d_Ref_findLike_37 rfl (fun H locs hB => ?_)
        refine lv_iinc (v := nI (i1 + 1)) (lv' := [(2, .int (nI (i1 + 1))), (0, .ref mo), (1, .int (nI d))]) hx hb d_Ref_findLike_38 hl (k := 2) rfl (show nI i1 + nI 1 = nI (i1 + 1) from nI_add _ _) (by decide) rfl (fun ls hl => ?_)
        refine lv_goto (tgt := 2) hx hb d_Ref_findLike_41 (by decide) ?_
        exact ih (i1 + 1) (nu LO1 i1 1) (by omega) (by intro u hu; by_cases e9 : u = i1; (rw [e9, nu_s, c_29]; rfl); rw [nu_n e9]; exact hg1 u (by omega)) (by omega) H locs ls (lv_sub hl [1, 2, 0] rfl) hB
set_option maxHeartbeats 4000000 in
set_option maxRecDepth 100000 in
theorem c_Ref_findLike {l : Launch} {D : va_G} {t : Nat → ClassId} {w : wf_W} {sz : Nat} {mo az an ae ac ato aps apt al aip alo alt aic arw aco act asp anu aor ann ald ahd acn ais aq acf acb aw k mn cz tz ca pz wy fi se ho lx ly ts tS cs av lz hz1 nl nh ce qd : Nat} {Sz Nx En LO LT : Nat → Nat} {d : Nat} (hN : nd [mo, az, an, ae, alo, alt]) (hMo : w mo = some (rfO k mn az an ae ac cz ato tz ca aps apt al aip pz wy fi se ho lx ly ts tS alo alt aic arw aco act asp cs anu aor ann av ald ahd lz hz1 nl nh acn ce ais aq acf acb qd aw)) (h_az : w az = some (.inl (t 0, 60, .inl (iA Sz)))) (h_an : w an = some (.inl (t 0, 9600, .inl (iA Nx)))) (h_ae : w ae = some (.inl (t 1, 60, .inr (.inl (lA En))))) (h_alo : w alo = some (.inl (t 0, 40, .inl (iA LO)))) (h_alt : w alt = some (.inl (t 0, 40, .inl (iA LT)))) (hm : rOK k (Sz fi) (En fi) (nxt Nx fi)) (hf6 : fi < 60) (hd : d ≤ 40) : Mv l y_Ref_findLike b_Ref_findLike 5 none 2 47 0 0 D t w sz [.ref mo, .int (nI d)] (fun w' => ∃ LO0 : Nat → Nat, ∃ LT0 : Nat → Nat, (∀ u v, u < Sz fi → v < Sz fi → (LO0 u = LO0 v ↔ eqv k (nxt Nx fi) (fun z9 => Nat.testBit (En fi) z9) d u v)) ∧ (∀ u, u < Sz fi → LO0 u < 64) ∧ w' = wf_l w [(mo, rfO k mn az an ae ac cz ato tz ca aps apt al aip pz wy fi se ho lx ly ts tS alo alt aic arw aco act asp cs anu aor ann av ald ahd lz hz1 nl nh acn ce ais aq acf acb qd aw), (az, .inl (t 0, 60, .inl (iA Sz))), (an, .inl (t 0, 9600, .inl (iA Nx))), (ae, .inl (t 1, 60, .inr (.inl (lA En)))), (alo, .inl (t 0, 40, .inl (iA LO0))), (alt, .inl (t 0, 40, .inl (iA LT0)))]) := by
  refine start_v (by decide) (Nat.le_of_ble_eq_true rfl) ?_
  intro p e s m below meth c ls H locs X hB hl
  have hx := X.1
  have hb := X.2.1
  have hl : lv_has ls 5 [(0, .ref mo), (1, .int (nI d))] := hl
  have hB : wf_B D wcl (wf_A w s.heap.size) s.heap (wf_l w [(mo, rfO k mn az an ae ac cz ato tz ca aps apt al aip pz wy fi se ho lx ly ts tS alo alt aic arw aco act asp cs anu aor ann av ald ahd lz hz1 nl nh acn ce ais aq acf acb qd aw), (az, .inl (t 0, 60, .inl (iA Sz))), (an, .inl (t 0, 9600, .inl (iA Nx))), (ae, .inl (t 1, 60, .inr (.inl (lA En)))), (alo, .inl (t 0, 40, .inl (iA LO))), (alt, .inl (t 0, 40, .inl (iA LT)))]) H locs := wf_Bto (wf_l6 hMo h_az h_an h_ae h_alo h_alt).symm hB
  have hM := rOK_m hm
  have hk := hm.1
  have hn := hm.2.1
  have hn0 := hm.2.2.1
  have hE := hm.E40
  refine lv_iconst (v := nI 0) hx hb d_Ref_findLike_0 (by decide) ?_
  refine lv_istore_n (lv' := [(2, .int (nI 0)), (0, .ref mo), (1, .int (nI d))]) hx hb d_Ref_findLike_1 rfl hl (by decide) rfl (fun ls hl => ?_)
  refine c_Ref_findLike_L2 (l := l) X hN hMo h_az h_an h_ae h_alo h_alt hm hf6 hd (fun i1 LO1 hi1 hg1 he H locs ls hl hB => ?_) (Sz fi - 0 + 1) 0 LO (by omega) (by intro u hu; omega) (by omega) H locs ls (lv_sub hl [1, 2, 0] rfl) hB
  refine lv_iconst (v := nI 0) hx hb d_Ref_findLike_44 (by decide) ?_
  refine lv_istore_n (lv' := [(2, .int (nI 0)), (0, .ref mo), (1, .int (nI d))]) hx hb d_Ref_findLike_45 rfl hl (by decide) rfl (fun ls hl => ?_)
  refine c_Ref_findLike_L46 (l := l) X hN hMo h_az h_an h_ae h_alo h_alt hm hf6 hd (fun r2 LO2 LT2 hr2 hcl2 hlo2 he H locs ls hl hB => ?_) (d - 0 + 1) 0 LO1 LT (by omega) (by intro u v hu hv; rw [eqv_0, hg1 u (by omega), hg1 v (by omega)]; cases Nat.testBit (En fi) u <;> cases Nat.testBit (En fi) v <;> simp) (by intro u hu; rw [hg1 u (by omega)]; split <;> omega) (by omega) H locs ls (lv_sub hl [1, 2, 0] rfl) hB
  refine ret_v X hB d_Ref_findLike_138 ?_
  subst he; exact ⟨LO2, LT2, hcl2, hlo2, rfl⟩
set_option maxHeartbeats 4000000 in
set_option maxRecDepth 100000 in
theorem c_Ref_findAlive_L12 {l : Launch} {D : va_G} {t : Nat → ClassId} {w : wf_W} {mo az an ae ac ato aps apt al aip alo alt aic arw aco act asp anu aor ann ald ahd acn ais aq acf acb aw k mn cz tz ca pz wy fi se ho lx ly ts tS cs av lz hz1 nl nh ce qd : Nat} {Sz Nx En : Nat → Nat} {a : Nat}  {p : Program} {e : Env} {s : State} {m : MethodId} {below : List Frame} {meth : Method} {c : Code} {Q : State → Prop} (X : Cx p s m meth c R_Ref "findAlive" b_Ref_findAlive 3 none D t) (hN : nd [mo, az, an, ae]) (hMo : w mo = some (rfO k mn az an ae ac cz ato tz ca aps apt al aip pz wy fi se ho lx ly ts tS alo alt aic arw aco act asp cs anu aor ann av ald ahd lz hz1 nl nh acn ce ais aq acf acb qd aw)) (h_az : w az = some (.inl (t 0, 60, .inl (iA Sz)))) (h_an : w an = some (.inl (t 0, 9600, .inl (iA Nx)))) (h_ae : w ae = some (.inl (t 1, 60, .inr (.inl (lA En))))) (hm : rOK k (Sz a) (En a) (nxt Nx a)) (ha6 : a < 60)
    (K_42 : ∀ (i : Nat), (i ≤ 40) → (i = 40) → ∀ (H : Heap) (locs : List Loc) (ls : Array Slot), lv_has ls 3 [(0, .ref mo), (1, .int (nI a)), (2, .int (nI i))] → wf_B D wcl (wf_A w s.heap.size) s.heap (wf_l w [(mo, rfO k mn az an ae ac cz ato tz ca aps apt al aip pz wy fi se ho lx ly ts tS alo alt aic arw aco act asp cs anu aor ann (liv k (Sz a) (En a) (nxt Nx a) i) ald ahd lz hz1 nl nh acn ce ais aq acf acb qd aw), (az, .inl (t 0, 60, .inl (iA Sz))), (an, .inl (t 0, 9600, .inl (iA Nx))), (ae, .inl (t 1, 60, .inr (.inl (lA En))))]) H locs → W p l e (rmk 2 50 0 0) s m [.ref mo, .int (nI a)].toArray below meth c H locs 0 0 Q (F0 m 42 ls [])) :
    ∀ (fu : Nat) (i : Nat), (i ≤ 40) → 40 - i < fu → ∀ (H : Heap) (locs : List Loc) (ls : Array Slot), lv_has ls 3 [(0, .ref mo), (1, .int (nI a)), (2, .int (nI i))] → wf_B D wcl (wf_A w s.heap.size) s.heap (wf_l w [(mo, rfO k mn az an ae ac cz ato tz ca aps apt al aip pz wy fi se ho lx ly ts tS alo alt aic arw aco act asp cs anu aor ann (liv k (Sz a) (En a) (nxt Nx a) i) ald ahd lz hz1 nl nh acn ce ais aq acf acb qd aw), (az, .inl (t 0, 60, .inl (iA Sz))), (an, .inl (t 0, 9600, .inl (iA Nx))), (ae, .inl (t 1, 60, .inr (.inl (lA En))))]) H locs → W p l e (rmk 2 50 0 0) s m [.ref mo, .int (nI a)].toArray below meth c H locs 0 0 Q (F0 m 12 ls []) := by
  have hx := X.1
  have hb := X.2.1
  intro fu
  induction fu with
  | zero => intro i hi hfu; exact absurd hfu (Nat.not_lt_zero _)
  | succ fu ih =>
    intro i hi hfu H locs ls hl hB
    have hM := rOK_m hm
    have hk := hm.1
    have hn := hm.2.1
    have hn0 := hm.2.2.1
    have hE := hm.E40
    have hv9 := liv_lt hM i
    refine lv_iload_n hx hb d_Ref_findAlive_12 rfl (lv_at hl 2 rfl) ?_
    refine lv_bipush (v := nI 40) hx hb d_Ref_findAlive_13 (by decide) ?_
    refine wf_cge (tgt := 42) hx hb d_Ref_findAlive_15 (by decide) (nI_toInt (by omega)) (nI_toInt (by omega)) (fun c_15 => ?_) (fun c_15 => ?_)
    · exact K_42 i hi (by omega) H locs ls (lv_sub hl [0, 1, 2] rfl) hB
    · refine lv_aload_n hx hb d_Ref_findAlive_18 rfl (lv_at hl 0 rfl) ?_
      refine lv_dup hx hb d_Ref_findAlive_19 rfl ?_
      refine rgetL X hB hN 0 i_Ref rfl cl_Ref 34 (by decide) k_908 rfl rfl d_Ref_findAlive_20 ?_
      refine lv_aload_n hx hb d_Ref_findAlive_23 rfl (lv_at hl 0 rfl) ?_
      refine lv_iload_n hx hb d_Ref_findAlive_24 rfl (lv_at hl 1 rfl) ?_
      refine lv_aload_n hx hb d_Ref_findAlive_25 rfl (lv_at hl 0 rfl) ?_
      refine rgetL X hB hN 0 i_Ref rfl cl_Ref 34 (by decide) k_908 rfl rfl d_Ref_findAlive_26 ?_
      refine callVl (As := [.int (nI a), .long (lN (liv k (Sz a) (En a) (nxt Nx a) i))]) (rest := [.long (lN (liv k (Sz a) (En a) (nxt Nx a) i)), .ref mo]) X hB wf_hA (c_Ref_ahead (l := l) (D := D) (t := t) (w := (wf_l w [(mo, rfO k mn az an ae ac cz ato tz ca aps apt al aip pz wy fi se ho lx ly ts tS alo alt aic arw aco act asp cs anu aor ann (liv k (Sz a) (En a) (nxt Nx a) i) ald ahd lz hz1 nl nh acn ce ais aq acf acb qd aw), (az, .inl (t 0, 60, .inl (iA Sz))), (an, .inl (t 0, 9600, .inl (iA Nx))), (ae, .inl (t 1, 60, .inr (.inl (lA En))))])) (sz := H.size) (mo := mo) (az := az) (an := an) (ae := ae) (ac := ac) (ato := ato) (aps := aps) (apt := apt) (al := al) (aip := aip) (alo := alo) (alt := alt) (aic := aic) (arw := arw) (aco := aco) (act := act) (asp := asp) (anu := anu) (aor := aor) (ann := ann) (ald := ald) (ahd := ahd) (acn := acn) (ais := ais) (aq := aq) (acf := acf) (acb := acb) (aw := aw) (k := k) (mn := mn) (cz := cz) (tz := tz) (ca := ca) (pz := pz) (wy := wy) (fi := fi) (se := se) (ho := ho) (lx := lx) (ly := ly) (ts := ts) (tS := tS) (cs := cs) (av := liv k (Sz a) (En a) (nxt Nx a) i) (lz := lz) (hz1 := hz1) (nl := nl) (nh := nh) (ce := ce) (qd := qd) (Sz := Sz) (Nx := Nx) (En := En) (a := a) (S := liv k (Sz a) (En a) (nxt Nx a) i) (wf_lg (w := w) (l := [(mo, rfO k mn az an ae ac cz ato tz ca aps apt al aip pz wy fi se ho lx ly ts tS alo alt aic arw aco act asp cs anu aor ann (liv k (Sz a) (En a) (nxt Nx a) i) ald ahd lz hz1 nl nh acn ce ais aq acf acb qd aw), (az, .inl (t 0, 60, .inl (iA Sz))), (an, .inl (t 0, 9600, .inl (iA Nx))), (ae, .inl (t 1, 60, .inr (.inl (lA En))))]) hN 0 rfl) (wf_lg (w := w) (l := [(mo, rfO k mn az an ae ac cz ato tz ca aps apt al aip pz wy fi se ho lx ly ts tS alo alt aic arw aco act asp cs anu aor ann (liv k (Sz a) (En a) (nxt Nx a) i) ald ahd lz hz1 nl nh acn ce ais aq acf acb qd aw), (az, .inl (t 0, 60, .inl (iA Sz))), (an, .inl (t 0, 9600, .inl (iA Nx))), (ae, .inl (t 1, 60, .inr (.inl (lA En))))]) hN 1 rfl) (wf_lg (w := w) (l := [(mo, rfO k mn az an ae ac cz ato tz ca aps apt al aip pz wy fi se ho lx ly ts tS alo alt aic arw aco act asp cs anu aor ann (liv k (Sz a) (En a) (nxt Nx a) i) ald ahd lz hz1 nl nh acn ce ais aq acf acb qd aw), (az, .inl (t 0, 60, .inl (iA Sz))), (an, .inl (t 0, 9600, .inl (iA Nx))), (ae, .inl (t 1, 60, .inr (.inl (lA En))))]) hN 2 rfl) (by exact hm) (by exact ha6) (by omega)) k_1092 k_1094 k_44 k_75 k_1095 (wf_lg (w := w) (l := [(mo, rfO k mn az an ae ac cz ato tz ca aps apt al aip pz wy fi se ho lx ly ts tS alo alt aic arw aco act asp cs anu aor ann (liv k (Sz a) (En a) (nxt Nx a) i) ald ahd lz hz1 nl nh acn ce ais aq acf acb qd aw), (az, .inl (t 0, 60, .inl (iA Sz))), (an, .inl (t 0, 9600, .inl (iA Nx))), (ae, .inl (t 1, 60, .inr (.inl (lA En))))]) hN 0 rfl) cl_Ref rfl hd_Ref_ahead ⟨Nat.le_of_ble_eq_true rfl, Nat.le_of_ble_eq_true rfl⟩ ⟨Nat.le_of_ble_eq_true rfl, Nat.le_of_ble_eq_true rfl⟩ hl.1 (Nat.le_of_ble_eq_true rfl) d_Ref_findAlive_29 rfl (fun r_29 w1 H locs hp hB => ?_)
      obtain ⟨rfl, hw_29⟩ := hp
      have hB : wf_B D wcl (wf_A w s.heap.size) s.heap (wf_l w [(mo, rfO k mn az an ae ac cz ato tz ca aps apt al aip pz wy fi se ho lx ly ts tS alo alt aic arw aco act asp cs anu aor ann (liv k (Sz a) (En a) (nxt Nx a) i) ald ahd lz hz1 nl nh acn ce ais aq acf acb qd aw), (az, .inl (t 0, 60, .inl (iA Sz))), (an, .inl (t 0, 9600, .inl (iA Nx))), (ae, .inl (t 1, 60, .inr (.inl (lA En))))]) H locs := wf_Bto hw_29 hB
      refine lv_lor hx hb d_Ref_findAlive_32 ?_
      refine wf_tl (y := lN ((liv k (Sz a) (En a) (nxt Nx a) i) ||| (bef k (Sz a) (nxt Nx a) (liv k (Sz a) (En a) (nxt Nx a) i) (Sz a)))) (wb_or (by omega) (by have := bef_lt (k := k) (n := Sz a) (st := nxt Nx a) (S := liv k (Sz a) (En a) (nxt Nx a) i) (Sz a) hn; omega)) ?_
      refine wf_tl (y := lN (liv k (Sz a) (En a) (nxt Nx a) (i + 1))) (by rfl) ?_
      refine rput X hB hN 0 (wl' := [(mo, rfO k mn az an ae ac cz ato tz ca aps apt al aip pz wy fi se ho lx ly ts tS alo alt aic arw aco act asp cs anu aor ann (liv k (Sz a) (En a) (nxt Nx a) (i + 1)) ald ahd lz hz1 nl nh acn ce ais aq acf acb qd aw), (az, .inl (t 0, 60, .inl (iA Sz))), (an, .inl (t 0, 9600, .inl (iA Nx))), (ae, .inl (t 1, 60, .inr (.inl (lA En))))]) i_Ref t_Ref_ok n_Ref rfl cl_Ref 34 (by decide) k_908 rfl rfl rfl rfl (Nat.le_of_ble_eq_true rfl) d_Ref_findAlive_33 rfl (fun H locs hB => ?_)
      refine lv_iinc (v := nI (i + 1)) (lv' := [(2, .int (nI (i + 1))), (0, .ref mo), (1, .int (nI a))]) hx hb d_Ref_findAlive_36 hl (k := 2) rfl (show nI i + nI 1 = nI (i + 1) from nI_add _ _) (by decide) rfl (fun ls hl => ?_)
      refine lv_goto (tgt := 12) hx hb d_Ref_findAlive_39 (by decide) ?_
      exact ih (i + 1) (by omega) (by omega) H locs ls (lv_sub hl [1, 2, 0] rfl) hB
set_option maxHeartbeats 4000000 in
set_option maxRecDepth 100000 in
theorem c_Ref_findAlive {l : Launch} {D : va_G} {t : Nat → ClassId} {w : wf_W} {sz : Nat} {mo az an ae ac ato aps apt al aip alo alt aic arw aco act asp anu aor ann ald ahd acn ais aq acf acb aw k mn cz tz ca pz wy fi se ho lx ly ts tS cs av lz hz1 nl nh ce qd : Nat} {Sz Nx En : Nat → Nat} {a : Nat} (hN : nd [mo, az, an, ae]) (hMo : w mo = some (rfO k mn az an ae ac cz ato tz ca aps apt al aip pz wy fi se ho lx ly ts tS alo alt aic arw aco act asp cs anu aor ann av ald ahd lz hz1 nl nh acn ce ais aq acf acb qd aw)) (h_az : w az = some (.inl (t 0, 60, .inl (iA Sz)))) (h_an : w an = some (.inl (t 0, 9600, .inl (iA Nx)))) (h_ae : w ae = some (.inl (t 1, 60, .inr (.inl (lA En))))) (hm : rOK k (Sz a) (En a) (nxt Nx a)) (ha6 : a < 60) : Mv l y_Ref_findAlive b_Ref_findAlive 3 none 2 50 0 0 D t w sz [.ref mo, .int (nI a)] (fun w' => w' = wf_l w [(mo, rfO k mn az an ae ac cz ato tz ca aps apt al aip pz wy fi se ho lx ly ts tS alo alt aic arw aco act asp cs anu aor ann (liv k (Sz a) (En a) (nxt Nx a) 40) ald ahd lz hz1 nl nh acn ce ais aq acf acb qd aw), (az, .inl (t 0, 60, .inl (iA Sz))), (an, .inl (t 0, 9600, .inl (iA Nx))), (ae, .inl (t 1, 60, .inr (.inl (lA En))))]) := by
  refine start_v (by decide) (Nat.le_of_ble_eq_true rfl) ?_
  intro p e s m below meth c ls H locs X hB hl
  have hx := X.1
  have hb := X.2.1
  have hl : lv_has ls 3 [(0, .ref mo), (1, .int (nI a))] := hl
  have hB : wf_B D wcl (wf_A w s.heap.size) s.heap (wf_l w [(mo, rfO k mn az an ae ac cz ato tz ca aps apt al aip pz wy fi se ho lx ly ts tS alo alt aic arw aco act asp cs anu aor ann av ald ahd lz hz1 nl nh acn ce ais aq acf acb qd aw), (az, .inl (t 0, 60, .inl (iA Sz))), (an, .inl (t 0, 9600, .inl (iA Nx))), (ae, .inl (t 1, 60, .inr (.inl (lA En))))]) H locs := wf_Bto (wf_l4 hMo h_az h_an h_ae).symm hB
  have hM := rOK_m hm
  have hk := hm.1
  have hn := hm.2.1
  have hn0 := hm.2.2.1
  have hE := hm.E40
  refine lv_aload_n hx hb d_Ref_findAlive_0 rfl (lv_at hl 0 rfl) ?_
  refine lv_aload_n hx hb d_Ref_findAlive_1 rfl (lv_at hl 0 rfl) ?_
  refine rgetL X hB hN 0 i_Ref rfl cl_Ref 4 (by decide) k_878 rfl rfl d_Ref_findAlive_2 ?_
  refine lv_iload_n hx hb d_Ref_findAlive_5 rfl (lv_at hl 1 rfl) ?_
  refine rlaldL X hB hN 3 rfl (i := a) (by omega) (by decide) d_Ref_findAlive_6 ?_
  refine wf_tl (y := lN (En a)) rfl ?_
  refine rput X hB hN 0 (wl' := [(mo, rfO k mn az an ae ac cz ato tz ca aps apt al aip pz wy fi se ho lx ly ts tS alo alt aic arw aco act asp cs anu aor ann (En a) ald ahd lz hz1 nl nh acn ce ais aq acf acb qd aw), (az, .inl (t 0, 60, .inl (iA Sz))), (an, .inl (t 0, 9600, .inl (iA Nx))), (ae, .inl (t 1, 60, .inr (.inl (lA En))))]) i_Ref t_Ref_ok n_Ref rfl cl_Ref 34 (by decide) k_908 rfl rfl rfl rfl (Nat.le_of_ble_eq_true rfl) d_Ref_findAlive_7 rfl (fun H locs hB => ?_)
  refine lv_iconst (v := nI 0) hx hb d_Ref_findAlive_10 (by decide) ?_
  refine lv_istore_n (lv' := [(2, .int (nI 0)), (0, .ref mo), (1, .int (nI a))]) hx hb d_Ref_findAlive_11 rfl hl (by decide) rfl (fun ls hl => ?_)
  refine c_Ref_findAlive_L12 (l := l) X hN hMo h_az h_an h_ae hm ha6 (fun i hi he H locs ls hl hB => ?_) (40 - 0 + 1) 0 (by omega) (by omega) H locs ls (lv_sub hl [1, 2, 0] rfl) hB
  refine ret_v X hB d_Ref_findAlive_42 ?_
  subst he; exact rfl
set_option maxHeartbeats 4000000 in
set_option maxRecDepth 100000 in
theorem c_Ref_set {l : Launch} {D : va_G} {t : Nat → ClassId} {w : wf_W} {sz : Nat} {mo az an ae ac ato aps apt al aip alo alt aic arw aco act asp anu aor ann ald ahd acn ais aq acf acb aw k mn cz tz ca pz wy fi se ho lx ly ts tS cs av lz hz1 nl nh ce qd : Nat} {w1 a b h1 : Nat} (hN : nd [mo]) (hMo : w mo = some (rfO k mn az an ae ac cz ato tz ca aps apt al aip pz wy fi se ho lx ly ts tS alo alt aic arw aco act asp cs anu aor ann av ald ahd lz hz1 nl nh acn ce ais aq acf acb qd aw)) : Mv l y_Ref_set b_Ref_set 5 none 0 0 0 0 D t w sz [.ref mo, .int (nI w1), .int (nI a), .int (nI b), .int (nI h1)] (fun w' => w' = wf_l w [(mo, rfO k mn az an ae ac cz ato tz ca aps apt al aip pz w1 a b h1 lx ly ts tS alo alt aic arw aco act asp cs anu aor ann av ald ahd lz hz1 nl nh acn ce ais aq acf acb qd aw)]) := by
  refine start_v (by decide) (Nat.le_of_ble_eq_true rfl) ?_
  intro p e s m below meth c ls H locs X hB hl
  have hx := X.1
  have hb := X.2.1
  have hl : lv_has ls 5 [(0, .ref mo), (1, .int (nI w1)), (2, .int (nI a)), (3, .int (nI b)), (4, .int (nI h1))] := hl
  have hB : wf_B D wcl (wf_A w s.heap.size) s.heap (wf_l w [(mo, rfO k mn az an ae ac cz ato tz ca aps apt al aip pz wy fi se ho lx ly ts tS alo alt aic arw aco act asp cs anu aor ann av ald ahd lz hz1 nl nh acn ce ais aq acf acb qd aw)]) H locs := wf_Bto (wf_l1 hMo).symm hB
  refine lv_aload_n hx hb d_Ref_set_0 rfl (lv_at hl 0 rfl) ?_
  refine lv_iload_n hx hb d_Ref_set_1 rfl (lv_at hl 1 rfl) ?_
  refine rput X hB hN 0 (wl' := [(mo, rfO k mn az an ae ac cz ato tz ca aps apt al aip pz w1 fi se ho lx ly ts tS alo alt aic arw aco act asp cs anu aor ann av ald ahd lz hz1 nl nh acn ce ais aq acf acb qd aw)]) i_Ref t_Ref_ok n_Ref rfl cl_Ref 15 (by decide) k_889 rfl rfl rfl rfl (Nat.le_of_ble_eq_true rfl) d_Ref_set_2 rfl (fun H locs hB => ?_)
  refine lv_aload_n hx hb d_Ref_set_5 rfl (lv_at hl 0 rfl) ?_
  refine lv_iload_n hx hb d_Ref_set_6 rfl (lv_at hl 2 rfl) ?_
  refine rput X hB hN 0 (wl' := [(mo, rfO k mn az an ae ac cz ato tz ca aps apt al aip pz w1 a se ho lx ly ts tS alo alt aic arw aco act asp cs anu aor ann av ald ahd lz hz1 nl nh acn ce ais aq acf acb qd aw)]) i_Ref t_Ref_ok n_Ref rfl cl_Ref 16 (by decide) k_890 rfl rfl rfl rfl (Nat.le_of_ble_eq_true rfl) d_Ref_set_7 rfl (fun H locs hB => ?_)
  refine lv_aload_n hx hb d_Ref_set_10 rfl (lv_at hl 0 rfl) ?_
  refine lv_iload_n hx hb d_Ref_set_11 rfl (lv_at hl 3 rfl) ?_
  refine rput X hB hN 0 (wl' := [(mo, rfO k mn az an ae ac cz ato tz ca aps apt al aip pz w1 a b ho lx ly ts tS alo alt aic arw aco act asp cs anu aor ann av ald ahd lz hz1 nl nh acn ce ais aq acf acb qd aw)]) i_Ref t_Ref_ok n_Ref rfl cl_Ref 17 (by decide) k_891 rfl rfl rfl rfl (Nat.le_of_ble_eq_true rfl) d_Ref_set_12 rfl (fun H locs hB => ?_)
  refine lv_aload_n hx hb d_Ref_set_15 rfl (lv_at hl 0 rfl) ?_
  refine lv_iload hx hb d_Ref_set_16 (lv_at hl 4 rfl) ?_
  refine rput X hB hN 0 (wl' := [(mo, rfO k mn az an ae ac cz ato tz ca aps apt al aip pz w1 a b h1 lx ly ts tS alo alt aic arw aco act asp cs anu aor ann av ald ahd lz hz1 nl nh acn ce ais aq acf acb qd aw)]) i_Ref t_Ref_ok n_Ref rfl cl_Ref 18 (by decide) k_892 rfl rfl rfl rfl (Nat.le_of_ble_eq_true rfl) d_Ref_set_18 rfl (fun H locs hB => ?_)
  refine ret_v X hB d_Ref_set_21 ?_
  exact rfl
set_option maxHeartbeats 4000000 in
set_option maxRecDepth 100000 in
theorem c_Ref_leadsAll_L2 {l : Launch} {D : va_G} {t : Nat → ClassId} {w : wf_W} {mo az an ae ac ato aps apt al aip alo alt aic arw aco act asp anu aor ann ald ahd acn ais aq acf acb aw k mn cz tz ca pz wy fi se ho lx ly ts tS cs av lz hz1 nl nh ce qd : Nat} {L : Nat → Nat} {p1 to1 : Nat}  {p : Program} {e : Env} {s : State} {m : MethodId} {below : List Frame} {meth : Method} {c : Code} {Q : State → Prop} (X : Cx p s m meth c R_Ref "leadsAll" b_Ref_leadsAll 4 none D t) (hN : nd [mo, al]) (hMo : w mo = some (rfO k mn az an ae ac cz ato tz ca aps apt al aip pz wy fi se ho lx ly ts tS alo alt aic arw aco act asp cs anu aor ann av ald ahd lz hz1 nl nh acn ce ais aq acf acb qd aw)) (h_al : w al = some (.inl (t 0, 1200, .inl (iA L)))) (hk : k ≤ 4) (hp1 : p1 < 300)
    (K_27 : ∀ (i : Nat) (L1 : Nat → Nat), (i ≤ k) → ((∀ b, b < i → L1 (p1 * 4 + b) = to1) ∧ ∀ j, (∀ b, b < k → j ≠ p1 * 4 + b) → L1 j = L j) → (i = k) → ∀ (H : Heap) (locs : List Loc) (ls : Array Slot), lv_has ls 4 [(0, .ref mo), (1, .int (nI p1)), (2, .int (nI to1)), (3, .int (nI i))] → wf_B D wcl (wf_A w s.heap.size) s.heap (wf_l w [(mo, rfO k mn az an ae ac cz ato tz ca aps apt al aip pz wy fi se ho lx ly ts tS alo alt aic arw aco act asp cs anu aor ann av ald ahd lz hz1 nl nh acn ce ais aq acf acb qd aw), (al, .inl (t 0, 1200, .inl (iA L1)))]) H locs → W p l e (rmk 0 0 0 0) s m [.ref mo, .int (nI p1), .int (nI to1)].toArray below meth c H locs 0 0 Q (F0 m 27 ls [])) :
    ∀ (fu : Nat) (i : Nat) (L1 : Nat → Nat), (i ≤ k) → ((∀ b, b < i → L1 (p1 * 4 + b) = to1) ∧ ∀ j, (∀ b, b < k → j ≠ p1 * 4 + b) → L1 j = L j) → k - i < fu → ∀ (H : Heap) (locs : List Loc) (ls : Array Slot), lv_has ls 4 [(0, .ref mo), (1, .int (nI p1)), (2, .int (nI to1)), (3, .int (nI i))] → wf_B D wcl (wf_A w s.heap.size) s.heap (wf_l w [(mo, rfO k mn az an ae ac cz ato tz ca aps apt al aip pz wy fi se ho lx ly ts tS alo alt aic arw aco act asp cs anu aor ann av ald ahd lz hz1 nl nh acn ce ais aq acf acb qd aw), (al, .inl (t 0, 1200, .inl (iA L1)))]) H locs → W p l e (rmk 0 0 0 0) s m [.ref mo, .int (nI p1), .int (nI to1)].toArray below meth c H locs 0 0 Q (F0 m 2 ls []) := by
  have hx := X.1
  have hb := X.2.1
  intro fu
  induction fu with
  | zero => intro i L1 hi hg hfu; exact absurd hfu (Nat.not_lt_zero _)
  | succ fu ih =>
    intro i L1 hi hg hfu H locs ls hl hB
    refine lv_iload_n hx hb d_Ref_leadsAll_2 rfl (lv_at hl 3 rfl) ?_
    refine lv_aload_n hx hb d_Ref_leadsAll_3 rfl (lv_at hl 0 rfl) ?_
    refine rgetL X hB hN 0 i_Ref rfl cl_Ref 0 (by decide) k_874 rfl rfl d_Ref_leadsAll_4 ?_
    refine wf_cge (tgt := 27) hx hb d_Ref_leadsAll_7 (by decide) (nI_toInt (by omega)) (nI_toInt (by omega)) (fun c_7 => ?_) (fun c_7 => ?_)
    · exact K_27 i L1 hi hg (by omega) H locs ls (lv_sub hl [0, 1, 2, 3] rfl) hB
    · refine lv_aload_n hx hb d_Ref_leadsAll_10 rfl (lv_at hl 0 rfl) ?_
      refine rgetL X hB hN 0 i_Ref rfl cl_Ref 12 (by decide) k_886 rfl rfl d_Ref_leadsAll_11 ?_
      refine lv_iconst (v := nI 4) hx hb d_Ref_leadsAll_14 (by decide) ?_
      refine lv_iload_n hx hb d_Ref_leadsAll_15 rfl (lv_at hl 1 rfl) ?_
      refine wf_imul (x := 4) (y := p1) hx hb d_Ref_leadsAll_16 ?_
      refine lv_iload_n hx hb d_Ref_leadsAll_17 rfl (lv_at hl 3 rfl) ?_
      refine wf_iadd (x := 4 * p1) (y := i) hx hb d_Ref_leadsAll_18 ?_
      refine wf_ti (y := nI (p1 * 4 + i)) (by congr 1; omega) ?_
      refine lv_iload_n hx hb d_Ref_leadsAll_19 rfl (lv_at hl 2 rfl) ?_
      refine riastA X hB hN 1 (wl' := [(mo, rfO k mn az an ae ac cz ato tz ca aps apt al aip pz wy fi se ho lx ly ts tS alo alt aic arw aco act asp cs anu aor ann av ald ahd lz hz1 nl nh acn ce ais aq acf acb qd aw), (al, .inl (t 0, 1200, .inl (iA (nu L1 (p1 * 4 + i) to1))))]) rfl (i := p1 * 4 + i) (by omega) (by decide) d_Ref_leadsAll_20 rfl (fun H locs hB => ?_)
      refine lv_iinc (v := nI (i + 1)) (lv' := [(3, .int (nI (i + 1))), (0, .ref mo), (1, .int (nI p1)), (2, .int (nI to1))]) hx hb d_Ref_leadsAll_21 hl (k := 3) rfl (show nI i + nI 1 = nI (i + 1) from nI_add _ _) (by decide) rfl (fun ls hl => ?_)
      refine lv_goto (tgt := 2) hx hb d_Ref_leadsAll_24 (by decide) ?_
      exact ih (i + 1) (nu L1 (p1 * 4 + i) to1) (by omega) (by refine ⟨fun b hb => ?_, fun j hj => ?_⟩; (by_cases e9 : b = i; (rw [nu_e (by omega)]); rw [nu_n (by omega)]; exact hg.1 b (by omega)); rw [nu_n (hj i (by omega))]; exact hg.2 j hj) (by omega) H locs ls (lv_sub hl [1, 2, 3, 0] rfl) hB
set_option maxHeartbeats 4000000 in
set_option maxRecDepth 100000 in
theorem c_Ref_leadsAll {l : Launch} {D : va_G} {t : Nat → ClassId} {w : wf_W} {sz : Nat} {mo az an ae ac ato aps apt al aip alo alt aic arw aco act asp anu aor ann ald ahd acn ais aq acf acb aw k mn cz tz ca pz wy fi se ho lx ly ts tS cs av lz hz1 nl nh ce qd : Nat} {L : Nat → Nat} {p1 to1 : Nat} (hN : nd [mo, al]) (hMo : w mo = some (rfO k mn az an ae ac cz ato tz ca aps apt al aip pz wy fi se ho lx ly ts tS alo alt aic arw aco act asp cs anu aor ann av ald ahd lz hz1 nl nh acn ce ais aq acf acb qd aw)) (h_al : w al = some (.inl (t 0, 1200, .inl (iA L)))) (hk : k ≤ 4) (hp1 : p1 < 300) : Mv l y_Ref_leadsAll b_Ref_leadsAll 4 none 0 0 0 0 D t w sz [.ref mo, .int (nI p1), .int (nI to1)] (fun w' => ∃ L0 : Nat → Nat, ((∀ b, b < k → L0 (p1 * 4 + b) = to1) ∧ ∀ j, (∀ b, b < k → j ≠ p1 * 4 + b) → L0 j = L j) ∧ w' = wf_l w [(mo, rfO k mn az an ae ac cz ato tz ca aps apt al aip pz wy fi se ho lx ly ts tS alo alt aic arw aco act asp cs anu aor ann av ald ahd lz hz1 nl nh acn ce ais aq acf acb qd aw), (al, .inl (t 0, 1200, .inl (iA L0)))]) := by
  refine start_v (by decide) (Nat.le_of_ble_eq_true rfl) ?_
  intro p e s m below meth c ls H locs X hB hl
  have hx := X.1
  have hb := X.2.1
  have hl : lv_has ls 4 [(0, .ref mo), (1, .int (nI p1)), (2, .int (nI to1))] := hl
  have hB : wf_B D wcl (wf_A w s.heap.size) s.heap (wf_l w [(mo, rfO k mn az an ae ac cz ato tz ca aps apt al aip pz wy fi se ho lx ly ts tS alo alt aic arw aco act asp cs anu aor ann av ald ahd lz hz1 nl nh acn ce ais aq acf acb qd aw), (al, .inl (t 0, 1200, .inl (iA L)))]) H locs := wf_Bto (wf_l2 hMo h_al).symm hB
  refine lv_iconst (v := nI 0) hx hb d_Ref_leadsAll_0 (by decide) ?_
  refine lv_istore_n (lv' := [(3, .int (nI 0)), (0, .ref mo), (1, .int (nI p1)), (2, .int (nI to1))]) hx hb d_Ref_leadsAll_1 rfl hl (by decide) rfl (fun ls hl => ?_)
  refine c_Ref_leadsAll_L2 (l := l) X hN hMo h_al hk hp1 (fun i L1 hi hg he H locs ls hl hB => ?_) (k - 0 + 1) 0 L (by omega) (by exact ⟨fun b hb => by omega, fun j _ => rfl⟩) (by omega) H locs ls (lv_sub hl [1, 2, 3, 0] rfl) hB
  refine ret_v X hB d_Ref_leadsAll_27 ?_
  subst he; exact ⟨L1, hg, rfl⟩
