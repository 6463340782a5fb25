set_option maxHeartbeats 4000000 in
set_option maxRecDepth 100000 in
theorem r_within {l : Launch} {D : va_G} {t : Nat → ClassId} {w : wf_W} {sz : Nat} {mo : Nat} {A : Nat → Nat} {k mn cz tz ca : Nat} {cl tl Sz En Nx : Nat → Nat} {a b1 : Nat} (hRN : nd (RL mo A)) (hk : 2 ≤ k ∧ k ≤ 4) (hmc : mcO k mn Sz En Nx) (hcz : cz ≤ 100) (htz : tz ≤ 100) (hck : ∀ i, i < cz → cl i < k) (hR : RSt t w mo A k mn cz tz ca cl tl Sz En Nx) (ha : a < mn) (hb1 : b1 < mn) : Mi l y_Ref_within b_Ref_within 3 (some .int) 2 51 0 0 D t w sz [.ref mo, .int (nI a), .int (nI b1)] (fun r w' => (opWi k (Sz a) (En a) (nxt Nx a) (Sz b1) (En b1) (nxt Nx b1) r) ∧ RSt t w' mo A k mn cz tz ca cl tl Sz En Nx ∧ frR mo A w w') := by
  obtain ⟨⟨pz, wy, fi, se, ho, lx, ly, ts, tS, cs, av, lz, hz1, nl, nh, ce, qd, g_mo⟩, g0, g1, g2, g3, g4, ⟨PS, g5⟩, ⟨PT, g6⟩, ⟨L, g7⟩, ⟨Z, g8⟩, ⟨LO, g9⟩, ⟨LT, g10⟩, ⟨IC, g11⟩, ⟨RW, g12⟩, ⟨CO, g13⟩, ⟨CT, g14⟩, ⟨SP, g15⟩, ⟨NU, g16⟩, ⟨OR, g17⟩, ⟨NN, g18⟩, ⟨LD, g19⟩, ⟨HD, g20⟩, ⟨CN, g21⟩, ⟨IS, g22⟩, ⟨QU, g23⟩, ⟨CF, g24⟩, ⟨CB, g25⟩, ⟨WY, g26⟩⟩ := hR
  have hmn := hmc.1
  refine Mi_mono (c_Ref_withiny (l := l) (D := D) (t := t) (w := w) (sz := sz) (b2 := b1) (nd_sub hRN [0, 1, 2, 3, 23, 24, 25, 26] rfl (by decide)) g_mo g0 g1 g2 g22 g23 g24 g25 hmc.1 ha hb1 (by omega) (hmc.2 a ha).1 (hmc.2 b1 hb1).1) ?_
  rintro r w' hp
  rcases hp with ⟨z0, QU0, CF0, CB0, IS0, i0, hq0, hz0, hn0, hy0, rfl, rfl⟩ | ⟨z0, QU0, CF0, CB0, IS0, hq0, hz0, hn0, rfl, rfl⟩
  · have hNw : nd (([(mo, rfO k mn (A 0) (A 1) (A 2) (A 3) cz (A 4) tz ca (A 5) (A 6) (A 7) (A 8) pz wy fi se ho lx ly ts tS (A 9) (A 10) (A 11) (A 12) (A 13) (A 14) (A 15) cs (A 16) (A 17) (A 18) av (A 19) (A 20) lz hz1 nl nh (A 21) ce (A 22) (A 23) (A 24) (A 25) z0 (A 26)), ((A 0), .inl (t 0, 60, .inl (iA Sz))), ((A 1), .inl (t 0, 9600, .inl (iA Nx))), ((A 2), .inl (t 1, 60, .inr (.inl (lA En)))), ((A 22), .inl (t 2, 1600, .inl (zA IS0))), ((A 23), .inl (t 0, 1600, .inl (iA QU0))), ((A 24), .inl (t 0, 1600, .inl (iA CF0))), ((A 25), .inl (t 0, 1600, .inl (iA CB0)))] : List (Nat × va_E)).map Prod.fst) := (nd_sub hRN [0, 1, 2, 3, 23, 24, 25, 26] rfl (by decide))
    refine ⟨?_, ?_, ?_⟩
    · exact Or.inl ⟨i0, ⟨by omega, fun j hj => by rw [← rqR_Q hq0 (by omega)]; exact hn0 j hj, by rw [← rqR_Q hq0 (by omega)]; exact hy0⟩, rfl⟩
    · exact ⟨⟨_, _, _, _, _, _, _, _, _, _, _, _, _, _, _, _, _, wf_lg hNw 0 rfl⟩, wf_lg hNw 1 rfl, wf_lg hNw 2 rfl, wf_lg hNw 3 rfl, (wf_lo (nd_out hRN [0, 1, 2, 3, 23, 24, 25, 26] rfl 4 rfl (by decide))).trans g3, (wf_lo (nd_out hRN [0, 1, 2, 3, 23, 24, 25, 26] rfl 5 rfl (by decide))).trans g4, ⟨PS, (wf_lo (nd_out hRN [0, 1, 2, 3, 23, 24, 25, 26] rfl 6 rfl (by decide))).trans g5⟩, ⟨PT, (wf_lo (nd_out hRN [0, 1, 2, 3, 23, 24, 25, 26] rfl 7 rfl (by decide))).trans g6⟩, ⟨L, (wf_lo (nd_out hRN [0, 1, 2, 3, 23, 24, 25, 26] rfl 8 rfl (by decide))).trans g7⟩, ⟨Z, (wf_lo (nd_out hRN [0, 1, 2, 3, 23, 24, 25, 26] rfl 9 rfl (by decide))).trans g8⟩, ⟨LO, (wf_lo (nd_out hRN [0, 1, 2, 3, 23, 24, 25, 26] rfl 10 rfl (by decide))).trans g9⟩, ⟨LT, (wf_lo (nd_out hRN [0, 1, 2, 3, 23, 24, 25, 26] rfl 11 rfl (by decide))).trans g10⟩, ⟨IC, (wf_lo (nd_out hRN [0, 1, 2, 3, 23, 24, 25, 26] rfl 12 rfl (by decide))).trans g11⟩, ⟨RW, (wf_lo (nd_out hRN [0, 1, 2, 3, 23, 24, 25, 26] rfl 13 rfl (by decide))).trans g12⟩, ⟨CO, (wf_lo (nd_out hRN [0, 1, 2, 3, 23, 24, 25, 26] rfl 14 rfl (by decide))).trans g13⟩, ⟨CT, (wf_lo (nd_out hRN [0, 1, 2, 3, 23, 24, 25, 26] rfl 15 rfl (by decide))).trans g14⟩, ⟨SP, (wf_lo (nd_out hRN [0, 1, 2, 3, 23, 24, 25, 26] rfl 16 rfl (by decide))).trans g15⟩, ⟨NU, (wf_lo (nd_out hRN [0, 1, 2, 3, 23, 24, 25, 26] rfl 17 rfl (by decide))).trans g16⟩, ⟨OR, (wf_lo (nd_out hRN [0, 1, 2, 3, 23, 24, 25, 26] rfl 18 rfl (by decide))).trans g17⟩, ⟨NN, (wf_lo (nd_out hRN [0, 1, 2, 3, 23, 24, 25, 26] rfl 19 rfl (by decide))).trans g18⟩, ⟨LD, (wf_lo (nd_out hRN [0, 1, 2, 3, 23, 24, 25, 26] rfl 20 rfl (by decide))).trans g19⟩, ⟨HD, (wf_lo (nd_out hRN [0, 1, 2, 3, 23, 24, 25, 26] rfl 21 rfl (by decide))).trans g20⟩, ⟨CN, (wf_lo (nd_out hRN [0, 1, 2, 3, 23, 24, 25, 26] rfl 22 rfl (by decide))).trans g21⟩, ⟨_, wf_lg hNw 4 rfl⟩, ⟨_, wf_lg hNw 5 rfl⟩, ⟨_, wf_lg hNw 6 rfl⟩, ⟨_, wf_lg hNw 7 rfl⟩, ⟨WY, (wf_lo (nd_out hRN [0, 1, 2, 3, 23, 24, 25, 26] rfl 27 rfl (by decide))).trans g26⟩⟩
    · exact frR_l [0, 1, 2, 3, 23, 24, 25, 26] rfl
  · have hNw : nd (([(mo, rfO k mn (A 0) (A 1) (A 2) (A 3) cz (A 4) tz ca (A 5) (A 6) (A 7) (A 8) pz wy fi se ho lx ly ts tS (A 9) (A 10) (A 11) (A 12) (A 13) (A 14) (A 15) cs (A 16) (A 17) (A 18) av (A 19) (A 20) lz hz1 nl nh (A 21) ce (A 22) (A 23) (A 24) (A 25) z0 (A 26)), ((A 0), .inl (t 0, 60, .inl (iA Sz))), ((A 1), .inl (t 0, 9600, .inl (iA Nx))), ((A 2), .inl (t 1, 60, .inr (.inl (lA En)))), ((A 22), .inl (t 2, 1600, .inl (zA IS0))), ((A 23), .inl (t 0, 1600, .inl (iA QU0))), ((A 24), .inl (t 0, 1600, .inl (iA CF0))), ((A 25), .inl (t 0, 1600, .inl (iA CB0)))] : List (Nat × va_E)).map Prod.fst) := (nd_sub hRN [0, 1, 2, 3, 23, 24, 25, 26] rfl (by decide))
    refine ⟨?_, ?_, ?_⟩
    · exact Or.inr ⟨⟨z0, hz0, fun j hj => by rw [← rqR_Q hq0 (by omega)]; exact hn0 j hj⟩, rfl⟩
    · exact ⟨⟨_, _, _, _, _, _, _, _, _, _, _, _, _, _, _, _, _, wf_lg hNw 0 rfl⟩, wf_lg hNw 1 rfl, wf_lg hNw 2 rfl, wf_lg hNw 3 rfl, (wf_lo (nd_out hRN [0, 1, 2, 3, 23, 24, 25, 26] rfl 4 rfl (by decide))).trans g3, (wf_lo (nd_out hRN [0, 1, 2, 3, 23, 24, 25, 26] rfl 5 rfl (by decide))).trans g4, ⟨PS, (wf_lo (nd_out hRN [0, 1, 2, 3, 23, 24, 25, 26] rfl 6 rfl (by decide))).trans g5⟩, ⟨PT, (wf_lo (nd_out hRN [0, 1, 2, 3, 23, 24, 25, 26] rfl 7 rfl (by decide))).trans g6⟩, ⟨L, (wf_lo (nd_out hRN [0, 1, 2, 3, 23, 24, 25, 26] rfl 8 rfl (by decide))).trans g7⟩, ⟨Z, (wf_lo (nd_out hRN [0, 1, 2, 3, 23, 24, 25, 26] rfl 9 rfl (by decide))).trans g8⟩, ⟨LO, (wf_lo (nd_out hRN [0, 1, 2, 3, 23, 24, 25, 26] rfl 10 rfl (by decide))).trans g9⟩, ⟨LT, (wf_lo (nd_out hRN [0, 1, 2, 3, 23, 24, 25, 26] rfl 11 rfl (by decide))).trans g10⟩, ⟨IC, (wf_lo (nd_out hRN [0, 1, 2, 3, 23, 24, 25, 26] rfl 12 rfl (by decide))).trans g11⟩, ⟨RW, (wf_lo (nd_out hRN [0, 1, 2, 3, 23, 24, 25, 26] rfl 13 rfl (by decide))).trans g12⟩, ⟨CO, (wf_lo (nd_out hRN [0, 1, 2, 3, 23, 24, 25, 26] rfl 14 rfl (by decide))).trans g13⟩, ⟨CT, (wf_lo (nd_out hRN [0, 1, 2, 3, 23, 24, 25, 26] rfl 15 rfl (by decide))).trans g14⟩, ⟨SP, (wf_lo (nd_out hRN [0, 1, 2, 3, 23, 24, 25, 26] rfl 16 rfl (by decide))).trans g15⟩, ⟨NU, (wf_lo (nd_out hRN [0, 1, 2, 3, 23, 24, 25, 26] rfl 17 rfl (by decide))).trans g16⟩, ⟨OR, (wf_lo (nd_out hRN [0, 1, 2, 3, 23, 24, 25, 26] rfl 18 rfl (by decide))).trans g17⟩, ⟨NN, (wf_lo (nd_out hRN [0, 1, 2, 3, 23, 24, 25, 26] rfl 19 rfl (by decide))).trans g18⟩, ⟨LD, (wf_lo (nd_out hRN [0, 1, 2, 3, 23, 24, 25, 26] rfl 20 rfl (by decide))).trans g19⟩, ⟨HD, (wf_lo (nd_out hRN [0, 1, 2, 3, 23, 24, 25, 26] rfl 21 rfl (by decide))).trans g20⟩, ⟨CN, (wf_lo (nd_out hRN [0, 1, 2, 3, 23, 24, 25, 26] rfl 22 rfl (by decide))).trans g21⟩, ⟨_, wf_lg hNw 4 rfl⟩, ⟨_, wf_lg hNw 5 rfl⟩, ⟨_, wf_lg hNw 6 rfl⟩, ⟨_, wf_lg hNw 7 rfl⟩, ⟨WY, (wf_lo (nd_out hRN [0, 1, 2, 3, 23, 24, 25, 26] rfl 27 rfl (by decide))).trans g26⟩⟩
    · exact frR_l [0, 1, 2, 3, 23, 24, 25, 26] rfl
set_option maxHeartbeats 4000000 in
set_option maxRecDepth 100000 in
theorem r_differ {l : Launch} {D : va_G} {t : Nat → ClassId} {w : wf_W} {sz : Nat} {mo : Nat} {A : Nat → Nat} {k mn cz tz ca : Nat} {cl tl Sz En Nx : Nat → Nat} {a b1 : Nat} (hRN : nd (RL mo A)) (hk : 2 ≤ k ∧ k ≤ 4) (hmc : mcO k mn Sz En Nx) (hcz : cz ≤ 100) (htz : tz ≤ 100) (hck : ∀ i, i < cz → cl i < k) (hR : RSt t w mo A k mn cz tz ca cl tl Sz En Nx) (ha : a < mn) (hb1 : b1 < mn) : Mi l y_Ref_differ b_Ref_differ 6 (some .int) 2 51 0 0 D t w sz [.ref mo, .int (nI a), .int (nI b1)] (fun r w' => ∃ (tz' : Nat) (tl' : Nat → Nat), (opDi k (Sz a) (En a) (nxt Nx a) (Sz b1) (En b1) (nxt Nx b1) tz tl r tz' tl') ∧ RSt t w' mo A k mn cz tz' ca cl tl' Sz En Nx ∧ frR mo A w w') := by
  obtain ⟨⟨pz, wy, fi, se, ho, lx, ly, ts, tS, cs, av, lz, hz1, nl, nh, ce, qd, g_mo⟩, g0, g1, g2, g3, g4, ⟨PS, g5⟩, ⟨PT, g6⟩, ⟨L, g7⟩, ⟨Z, g8⟩, ⟨LO, g9⟩, ⟨LT, g10⟩, ⟨IC, g11⟩, ⟨RW, g12⟩, ⟨CO, g13⟩, ⟨CT, g14⟩, ⟨SP, g15⟩, ⟨NU, g16⟩, ⟨OR, g17⟩, ⟨NN, g18⟩, ⟨LD, g19⟩, ⟨HD, g20⟩, ⟨CN, g21⟩, ⟨IS, g22⟩, ⟨QU, g23⟩, ⟨CF, g24⟩, ⟨CB, g25⟩, ⟨WY, g26⟩⟩ := hR
  have hmn := hmc.1
  refine Mi_mono (c_Ref_differy (l := l) (D := D) (t := t) (w := w) (sz := sz) (b2 := b1) (nd_sub hRN [0, 1, 2, 3, 23, 24, 25, 26, 5] rfl (by decide)) g_mo g0 g1 g2 g22 g23 g24 g25 g4 hmc.1 ha hb1 (by omega) (hmc.2 a ha).1 (hmc.2 b1 hb1).1 (dep_ok (by omega) (hmc.2 a ha).1 (hmc.2 b1 hb1).1)) ?_
  rintro r w' hp
  rcases hp with ⟨z0, QU0, CF0, CB0, IS0, i0, d0, tl0, hq0, hz0, hn0, hy0, hd0, htl, rfl, rfl⟩ | ⟨z0, QU0, CF0, CB0, IS0, hq0, hz0, hn0, rfl, rfl⟩
  · have hNw : nd (([(mo, rfO k mn (A 0) (A 1) (A 2) (A 3) cz (A 4) d0 ca (A 5) (A 6) (A 7) (A 8) pz wy fi se ho lx ly ts tS (A 9) (A 10) (A 11) (A 12) (A 13) (A 14) (A 15) cs (A 16) (A 17) (A 18) av (A 19) (A 20) lz hz1 nl nh (A 21) ce (A 22) (A 23) (A 24) (A 25) z0 (A 26)), ((A 0), .inl (t 0, 60, .inl (iA Sz))), ((A 1), .inl (t 0, 9600, .inl (iA Nx))), ((A 2), .inl (t 1, 60, .inr (.inl (lA En)))), ((A 22), .inl (t 2, 1600, .inl (zA IS0))), ((A 23), .inl (t 0, 1600, .inl (iA QU0))), ((A 24), .inl (t 0, 1600, .inl (iA CF0))), ((A 25), .inl (t 0, 1600, .inl (iA CB0))), ((A 4), .inl (t 0, 100, .inl (iA tl0)))] : List (Nat × va_E)).map Prod.fst) := (nd_sub hRN [0, 1, 2, 3, 23, 24, 25, 26, 5] rfl (by decide))
    refine ⟨d0, tl0, ?_, ?_, ?_⟩
    · exact Or.inl ⟨i0, d0, ⟨by omega, fun j hj => by rw [← rqR_Q hq0 (by omega)]; exact hn0 j hj, by rw [← rqR_Q hq0 (by omega)]; exact hy0⟩, ⟨hd0.1, hd0.2.1, hd0.2.2⟩, rfl, rfl, htl⟩
    · exact ⟨⟨_, _, _, _, _, _, _, _, _, _, _, _, _, _, _, _, _, wf_lg hNw 0 rfl⟩, wf_lg hNw 1 rfl, wf_lg hNw 2 rfl, wf_lg hNw 3 rfl, (wf_lo (nd_out hRN [0, 1, 2, 3, 23, 24, 25, 26, 5] rfl 4 rfl (by decide))).trans g3, wf_lg hNw 8 rfl, ⟨PS, (wf_lo (nd_out hRN [0, 1, 2, 3, 23, 24, 25, 26, 5] rfl 6 rfl (by decide))).trans g5⟩, ⟨PT, (wf_lo (nd_out hRN [0, 1, 2, 3, 23, 24, 25, 26, 5] rfl 7 rfl (by decide))).trans g6⟩, ⟨L, (wf_lo (nd_out hRN [0, 1, 2, 3, 23, 24, 25, 26, 5] rfl 8 rfl (by decide))).trans g7⟩, ⟨Z, (wf_lo (nd_out hRN [0, 1, 2, 3, 23, 24, 25, 26, 5] rfl 9 rfl (by decide))).trans g8⟩, ⟨LO, (wf_lo (nd_out hRN [0, 1, 2, 3, 23, 24, 25, 26, 5] rfl 10 rfl (by decide))).trans g9⟩, ⟨LT, (wf_lo (nd_out hRN [0, 1, 2, 3, 23, 24, 25, 26, 5] rfl 11 rfl (by decide))).trans g10⟩, ⟨IC, (wf_lo (nd_out hRN [0, 1, 2, 3, 23, 24, 25, 26, 5] rfl 12 rfl (by decide))).trans g11⟩, ⟨RW, (wf_lo (nd_out hRN [0, 1, 2, 3, 23, 24, 25, 26, 5] rfl 13 rfl (by decide))).trans g12⟩, ⟨CO, (wf_lo (nd_out hRN [0, 1, 2, 3, 23, 24, 25, 26, 5] rfl 14 rfl (by decide))).trans g13⟩, ⟨CT, (wf_lo (nd_out hRN [0, 1, 2, 3, 23, 24, 25, 26, 5] rfl 15 rfl (by decide))).trans g14⟩, ⟨SP, (wf_lo (nd_out hRN [0, 1, 2, 3, 23, 24, 25, 26, 5] rfl 16 rfl (by decide))).trans g15⟩, ⟨NU, (wf_lo (nd_out hRN [0, 1, 2, 3, 23, 24, 25, 26, 5] rfl 17 rfl (by decide))).trans g16⟩, ⟨OR, (wf_lo (nd_out hRN [0, 1, 2, 3, 23, 24, 25, 26, 5] rfl 18 rfl (by decide))).trans g17⟩, ⟨NN, (wf_lo (nd_out hRN [0, 1, 2, 3, 23, 24, 25, 26, 5] rfl 19 rfl (by decide))).trans g18⟩, ⟨LD, (wf_lo (nd_out hRN [0, 1, 2, 3, 23, 24, 25, 26, 5] rfl 20 rfl (by decide))).trans g19⟩, ⟨HD, (wf_lo (nd_out hRN [0, 1, 2, 3, 23, 24, 25, 26, 5] rfl 21 rfl (by decide))).trans g20⟩, ⟨CN, (wf_lo (nd_out hRN [0, 1, 2, 3, 23, 24, 25, 26, 5] rfl 22 rfl (by decide))).trans g21⟩, ⟨_, wf_lg hNw 4 rfl⟩, ⟨_, wf_lg hNw 5 rfl⟩, ⟨_, wf_lg hNw 6 rfl⟩, ⟨_, wf_lg hNw 7 rfl⟩, ⟨WY, (wf_lo (nd_out hRN [0, 1, 2, 3, 23, 24, 25, 26, 5] rfl 27 rfl (by decide))).trans g26⟩⟩
    · exact frR_l [0, 1, 2, 3, 23, 24, 25, 26, 5] rfl
  · have hNw : nd (([(mo, rfO k mn (A 0) (A 1) (A 2) (A 3) cz (A 4) tz ca (A 5) (A 6) (A 7) (A 8) pz wy fi se ho lx ly ts tS (A 9) (A 10) (A 11) (A 12) (A 13) (A 14) (A 15) cs (A 16) (A 17) (A 18) av (A 19) (A 20) lz hz1 nl nh (A 21) ce (A 22) (A 23) (A 24) (A 25) z0 (A 26)), ((A 0), .inl (t 0, 60, .inl (iA Sz))), ((A 1), .inl (t 0, 9600, .inl (iA Nx))), ((A 2), .inl (t 1, 60, .inr (.inl (lA En)))), ((A 22), .inl (t 2, 1600, .inl (zA IS0))), ((A 23), .inl (t 0, 1600, .inl (iA QU0))), ((A 24), .inl (t 0, 1600, .inl (iA CF0))), ((A 25), .inl (t 0, 1600, .inl (iA CB0))), ((A 4), .inl (t 0, 100, .inl (iA tl)))] : List (Nat × va_E)).map Prod.fst) := (nd_sub hRN [0, 1, 2, 3, 23, 24, 25, 26, 5] rfl (by decide))
    refine ⟨tz, tl, ?_, ?_, ?_⟩
    · exact Or.inr ⟨⟨z0, hz0, fun j hj => by rw [← rqR_Q hq0 (by omega)]; exact hn0 j hj⟩, rfl, rfl, rfl⟩
    · exact ⟨⟨_, _, _, _, _, _, _, _, _, _, _, _, _, _, _, _, _, wf_lg hNw 0 rfl⟩, wf_lg hNw 1 rfl, wf_lg hNw 2 rfl, wf_lg hNw 3 rfl, (wf_lo (nd_out hRN [0, 1, 2, 3, 23, 24, 25, 26, 5] rfl 4 rfl (by decide))).trans g3, wf_lg hNw 8 rfl, ⟨PS, (wf_lo (nd_out hRN [0, 1, 2, 3, 23, 24, 25, 26, 5] rfl 6 rfl (by decide))).trans g5⟩, ⟨PT, (wf_lo (nd_out hRN [0, 1, 2, 3, 23, 24, 25, 26, 5] rfl 7 rfl (by decide))).trans g6⟩, ⟨L, (wf_lo (nd_out hRN [0, 1, 2, 3, 23, 24, 25, 26, 5] rfl 8 rfl (by decide))).trans g7⟩, ⟨Z, (wf_lo (nd_out hRN [0, 1, 2, 3, 23, 24, 25, 26, 5] rfl 9 rfl (by decide))).trans g8⟩, ⟨LO, (wf_lo (nd_out hRN [0, 1, 2, 3, 23, 24, 25, 26, 5] rfl 10 rfl (by decide))).trans g9⟩, ⟨LT, (wf_lo (nd_out hRN [0, 1, 2, 3, 23, 24, 25, 26, 5] rfl 11 rfl (by decide))).trans g10⟩, ⟨IC, (wf_lo (nd_out hRN [0, 1, 2, 3, 23, 24, 25, 26, 5] rfl 12 rfl (by decide))).trans g11⟩, ⟨RW, (wf_lo (nd_out hRN [0, 1, 2, 3, 23, 24, 25, 26, 5] rfl 13 rfl (by decide))).trans g12⟩, ⟨CO, (wf_lo (nd_out hRN [0, 1, 2, 3, 23, 24, 25, 26, 5] rfl 14 rfl (by decide))).trans g13⟩, ⟨CT, (wf_lo (nd_out hRN [0, 1, 2, 3, 23, 24, 25, 26, 5] rfl 15 rfl (by decide))).trans g14⟩, ⟨SP, (wf_lo (nd_out hRN [0, 1, 2, 3, 23, 24, 25, 26, 5] rfl 16 rfl (by decide))).trans g15⟩, ⟨NU, (wf_lo (nd_out hRN [0, 1, 2, 3, 23, 24, 25, 26, 5] rfl 17 rfl (by decide))).trans g16⟩, ⟨OR, (wf_lo (nd_out hRN [0, 1, 2, 3, 23, 24, 25, 26, 5] rfl 18 rfl (by decide))).trans g17⟩, ⟨NN, (wf_lo (nd_out hRN [0, 1, 2, 3, 23, 24, 25, 26, 5] rfl 19 rfl (by decide))).trans g18⟩, ⟨LD, (wf_lo (nd_out hRN [0, 1, 2, 3, 23, 24, 25, 26, 5] rfl 20 rfl (by decide))).trans g19⟩, ⟨HD, (wf_lo (nd_out hRN [0, 1, 2, 3, 23, 24, 25, 26, 5] rfl 21 rfl (by decide))).trans g20⟩, ⟨CN, (wf_lo (nd_out hRN [0, 1, 2, 3, 23, 24, 25, 26, 5] rfl 22 rfl (by decide))).trans g21⟩, ⟨_, wf_lg hNw 4 rfl⟩, ⟨_, wf_lg hNw 5 rfl⟩, ⟨_, wf_lg hNw 6 rfl⟩, ⟨_, wf_lg hNw 7 rfl⟩, ⟨WY, (wf_lo (nd_out hRN [0, 1, 2, 3, 23, 24, 25, 26, 5] rfl 27 rfl (by decide))).trans g26⟩⟩
    · exact frR_l [0, 1, 2, 3, 23, 24, 25, 26, 5] rfl
set_option maxHeartbeats 4000000 in
set_option maxRecDepth 100000 in
theorem r_count {l : Launch} {D : va_G} {t : Nat → ClassId} {w : wf_W} {sz : Nat} {mo : Nat} {A : Nat → Nat} {k mn cz tz ca : Nat} {cl tl Sz En Nx : Nat → Nat} {a q1 : Nat} (hRN : nd (RL mo A)) (hk : 2 ≤ k ∧ k ≤ 4) (hmc : mcO k mn Sz En Nx) (hcz : cz ≤ 100) (htz : tz ≤ 100) (hck : ∀ i, i < cz → cl i < k) (hR : RSt t w mo A k mn cz tz ca cl tl Sz En Nx) (ha : a < mn) (hq1 : q1 ≤ 100) : Ml l y_Ref_count b_Ref_count 3 (some .long) 2 50 0 0 D t w sz [.ref mo, .int (nI a), .int (nI q1)] (fun r w' => (r = lN (wyc k (Sz a) (En a) (nxt Nx a) q1 0)) ∧ RSt t w' mo A k mn cz tz ca cl tl Sz En Nx ∧ frR mo A w w') := by
  obtain ⟨⟨pz, wy, fi, se, ho, lx, ly, ts, tS, cs, av, lz, hz1, nl, nh, ce, qd, g_mo⟩, g0, g1, g2, g3, g4, ⟨PS, g5⟩, ⟨PT, g6⟩, ⟨L, g7⟩, ⟨Z, g8⟩, ⟨LO, g9⟩, ⟨LT, g10⟩, ⟨IC, g11⟩, ⟨RW, g12⟩, ⟨CO, g13⟩, ⟨CT, g14⟩, ⟨SP, g15⟩, ⟨NU, g16⟩, ⟨OR, g17⟩, ⟨NN, g18⟩, ⟨LD, g19⟩, ⟨HD, g20⟩, ⟨CN, g21⟩, ⟨IS, g22⟩, ⟨QU, g23⟩, ⟨CF, g24⟩, ⟨CB, g25⟩, ⟨WY, g26⟩⟩ := hR
  have hmn := hmc.1
  refine Ml_mono (c_Ref_county (l := l) (D := D) (t := t) (w := w) (sz := sz) (nd_sub hRN [0, 1, 2, 3, 27] rfl (by decide)) g_mo g0 g1 g2 g26 hmc.1 ha (hmc.2 a ha).1 hq1) ?_
  rintro r w' hp
  obtain ⟨WY0, rfl, rfl⟩ := hp
  have hNw : nd (([(mo, rfO k mn (A 0) (A 1) (A 2) (A 3) cz (A 4) tz ca (A 5) (A 6) (A 7) (A 8) pz wy fi se ho lx ly ts tS (A 9) (A 10) (A 11) (A 12) (A 13) (A 14) (A 15) cs (A 16) (A 17) (A 18) av (A 19) (A 20) lz hz1 nl nh (A 21) ce (A 22) (A 23) (A 24) (A 25) qd (A 26)), ((A 0), .inl (t 0, 60, .inl (iA Sz))), ((A 1), .inl (t 0, 9600, .inl (iA Nx))), ((A 2), .inl (t 1, 60, .inr (.inl (lA En)))), ((A 26), .inl (t 1, 4040, .inr (.inl (lA WY0))))] : List (Nat × va_E)).map Prod.fst) := (nd_sub hRN [0, 1, 2, 3, 27] rfl (by decide))
  refine ⟨?_, ?_, ?_⟩
  · exact rfl
  · exact ⟨⟨_, _, _, _, _, _, _, _, _, _, _, _, _, _, _, _, _, wf_lg hNw 0 rfl⟩, wf_lg hNw 1 rfl, wf_lg hNw 2 rfl, wf_lg hNw 3 rfl, (wf_lo (nd_out hRN [0, 1, 2, 3, 27] rfl 4 rfl (by decide))).trans g3, (wf_lo (nd_out hRN [0, 1, 2, 3, 27] rfl 5 rfl (by decide))).trans g4, ⟨PS, (wf_lo (nd_out hRN [0, 1, 2, 3, 27] rfl 6 rfl (by decide))).trans g5⟩, ⟨PT, (wf_lo (nd_out hRN [0, 1, 2, 3, 27] rfl 7 rfl (by decide))).trans g6⟩, ⟨L, (wf_lo (nd_out hRN [0, 1, 2, 3, 27] rfl 8 rfl (by decide))).trans g7⟩, ⟨Z, (wf_lo (nd_out hRN [0, 1, 2, 3, 27] rfl 9 rfl (by decide))).trans g8⟩, ⟨LO, (wf_lo (nd_out hRN [0, 1, 2, 3, 27] rfl 10 rfl (by decide))).trans g9⟩, ⟨LT, (wf_lo (nd_out hRN [0, 1, 2, 3, 27] rfl 11 rfl (by decide))).trans g10⟩, ⟨IC, (wf_lo (nd_out hRN [0, 1, 2, 3, 27] rfl 12 rfl (by decide))).trans g11⟩, ⟨RW, (wf_lo (nd_out hRN [0, 1, 2, 3, 27] rfl 13 rfl (by decide))).trans g12⟩, ⟨CO, (wf_lo (nd_out hRN [0, 1, 2, 3, 27] rfl 14 rfl (by decide))).trans g13⟩, ⟨CT, (wf_lo (nd_out hRN [0, 1, 2, 3, 27] rfl 15 rfl (by decide))).trans g14⟩, ⟨SP, (wf_lo (nd_out hRN [0, 1, 2, 3, 27] rfl 16 rfl (by decide))).trans g15⟩, ⟨NU, (wf_lo (nd_out hRN [0, 1, 2, 3, 27] rfl 17 rfl (by decide))).trans g16⟩, ⟨OR, (wf_lo (nd_out hRN [0, 1, 2, 3, 27] rfl 18 rfl (by decide))).trans g17⟩, ⟨NN, (wf_lo (nd_out hRN [0, 1, 2, 3, 27] rfl 19 rfl (by decide))).trans g18⟩, ⟨LD, (wf_lo (nd_out hRN [0, 1, 2, 3, 27] rfl 20 rfl (by decide))).trans g19⟩, ⟨HD, (wf_lo (nd_out hRN [0, 1, 2, 3, 27] rfl 21 rfl (by decide))).trans g20⟩, ⟨CN, (wf_lo (nd_out hRN [0, 1, 2, 3, 27] rfl 22 rfl (by decide))).trans g21⟩, ⟨IS, (wf_lo (nd_out hRN [0, 1, 2, 3, 27] rfl 23 rfl (by decide))).trans g22⟩, ⟨QU, (wf_lo (nd_out hRN [0, 1, 2, 3, 27] rfl 24 rfl (by decide))).trans g23⟩, ⟨CF, (wf_lo (nd_out hRN [0, 1, 2, 3, 27] rfl 25 rfl (by decide))).trans g24⟩, ⟨CB, (wf_lo (nd_out hRN [0, 1, 2, 3, 27] rfl 26 rfl (by decide))).trans g25⟩, ⟨_, wf_lg hNw 4 rfl⟩⟩
  · exact frR_l [0, 1, 2, 3, 27] rfl
set_option maxHeartbeats 4000000 in
set_option maxRecDepth 100000 in
theorem r_pick {l : Launch} {D : va_G} {t : Nat → ClassId} {w : wf_W} {sz : Nat} {mo : Nat} {A : Nat → Nat} {k mn cz tz ca : Nat} {cl tl Sz En Nx : Nat → Nat} {a v : Nat} (hRN : nd (RL mo A)) (hk : 2 ≤ k ∧ k ≤ 4) (hmc : mcO k mn Sz En Nx) (hcz : cz ≤ 100) (htz : tz ≤ 100) (hck : ∀ i, i < cz → cl i < k) (hR : RSt t w mo A k mn cz tz ca cl tl Sz En Nx) (ha : a < mn) (hv : v < 2 ^ 31) : Mi l y_Ref_pick b_Ref_pick 9 (some .int) 2 50 0 0 D t w sz [.ref mo, .int (nI a), .int (nI v)] (fun r w' => ∃ (tz' : Nat) (tl' : Nat → Nat), (opPi k (Sz a) (En a) (nxt Nx a) v tz tl r tz' tl') ∧ RSt t w' mo A k mn cz tz' ca cl tl' Sz En Nx ∧ frR mo A w w') := by
  obtain ⟨⟨pz, wy, fi, se, ho, lx, ly, ts, tS, cs, av, lz, hz1, nl, nh, ce, qd, g_mo⟩, g0, g1, g2, g3, g4, ⟨PS, g5⟩, ⟨PT, g6⟩, ⟨L, g7⟩, ⟨Z, g8⟩, ⟨LO, g9⟩, ⟨LT, g10⟩, ⟨IC, g11⟩, ⟨RW, g12⟩, ⟨CO, g13⟩, ⟨CT, g14⟩, ⟨SP, g15⟩, ⟨NU, g16⟩, ⟨OR, g17⟩, ⟨NN, g18⟩, ⟨LD, g19⟩, ⟨HD, g20⟩, ⟨CN, g21⟩, ⟨IS, g22⟩, ⟨QU, g23⟩, ⟨CF, g24⟩, ⟨CB, g25⟩, ⟨WY, g26⟩⟩ := hR
  have hmn := hmc.1
  refine Mi_mono (c_Ref_picky (l := l) (D := D) (t := t) (w := w) (sz := sz) (v1 := v) (nd_sub hRN [0, 1, 2, 3, 27, 5] rfl (by decide)) g_mo g0 g1 g2 g26 g4 hmc.1 ha (hmc.2 a ha).1 (by omega) hv) ?_
  rintro r w' hp
  rcases hp with ⟨WY0, ln, tl0, hln, htl, rfl, rfl⟩ | ⟨WY0, hno, rfl, rfl⟩
  · have hNw : nd (([(mo, rfO k mn (A 0) (A 1) (A 2) (A 3) cz (A 4) ln ca (A 5) (A 6) (A 7) (A 8) pz wy fi se ho lx ly ts tS (A 9) (A 10) (A 11) (A 12) (A 13) (A 14) (A 15) cs (A 16) (A 17) (A 18) av (A 19) (A 20) lz hz1 nl nh (A 21) ce (A 22) (A 23) (A 24) (A 25) qd (A 26)), ((A 0), .inl (t 0, 60, .inl (iA Sz))), ((A 1), .inl (t 0, 9600, .inl (iA Nx))), ((A 2), .inl (t 1, 60, .inr (.inl (lA En)))), ((A 26), .inl (t 1, 4040, .inr (.inl (lA WY0)))), ((A 4), .inl (t 0, 100, .inl (iA tl0)))] : List (Nat × va_E)).map Prod.fst) := (nd_sub hRN [0, 1, 2, 3, 27, 5] rfl (by decide))
    refine ⟨ln, tl0, ?_, ?_, ?_⟩
    · exact Or.inl ⟨ln, hln, rfl, rfl, htl⟩
    · exact ⟨⟨_, _, _, _, _, _, _, _, _, _, _, _, _, _, _, _, _, wf_lg hNw 0 rfl⟩, wf_lg hNw 1 rfl, wf_lg hNw 2 rfl, wf_lg hNw 3 rfl, (wf_lo (nd_out hRN [0, 1, 2, 3, 27, 5] rfl 4 rfl (by decide))).trans g3, wf_lg hNw 5 rfl, ⟨PS, (wf_lo (nd_out hRN [0, 1, 2, 3, 27, 5] rfl 6 rfl (by decide))).trans g5⟩, ⟨PT, (wf_lo (nd_out hRN [0, 1, 2, 3, 27, 5] rfl 7 rfl (by decide))).trans g6⟩, ⟨L, (wf_lo (nd_out hRN [0, 1, 2, 3, 27, 5] rfl 8 rfl (by decide))).trans g7⟩, ⟨Z, (wf_lo (nd_out hRN [0, 1, 2, 3, 27, 5] rfl 9 rfl (by decide))).trans g8⟩, ⟨LO, (wf_lo (nd_out hRN [0, 1, 2, 3, 27, 5] rfl 10 rfl (by decide))).trans g9⟩, ⟨LT, (wf_lo (nd_out hRN [0, 1, 2, 3, 27, 5] rfl 11 rfl (by decide))).trans g10⟩, ⟨IC, (wf_lo (nd_out hRN [0, 1, 2, 3, 27, 5] rfl 12 rfl (by decide))).trans g11⟩, ⟨RW, (wf_lo (nd_out hRN [0, 1, 2, 3, 27, 5] rfl 13 rfl (by decide))).trans g12⟩, ⟨CO, (wf_lo (nd_out hRN [0, 1, 2, 3, 27, 5] rfl 14 rfl (by decide))).trans g13⟩, ⟨CT, (wf_lo (nd_out hRN [0, 1, 2, 3, 27, 5] rfl 15 rfl (by decide))).trans g14⟩, ⟨SP, (wf_lo (nd_out hRN [0, 1, 2, 3, 27, 5] rfl 16 rfl (by decide))).trans g15⟩, ⟨NU, (wf_lo (nd_out hRN [0, 1, 2, 3, 27, 5] rfl 17 rfl (by decide))).trans g16⟩, ⟨OR, (wf_lo (nd_out hRN [0, 1, 2, 3, 27, 5] rfl 18 rfl (by decide))).trans g17⟩, ⟨NN, (wf_lo (nd_out hRN [0, 1, 2, 3, 27, 5] rfl 19 rfl (by decide))).trans g18⟩, ⟨LD, (wf_lo (nd_out hRN [0, 1, 2, 3, 27, 5] rfl 20 rfl (by decide))).trans g19⟩, ⟨HD, (wf_lo (nd_out hRN [0, 1, 2, 3, 27, 5] rfl 21 rfl (by decide))).trans g20⟩, ⟨CN, (wf_lo (nd_out hRN [0, 1, 2, 3, 27, 5] rfl 22 rfl (by decide))).trans g21⟩, ⟨IS, (wf_lo (nd_out hRN [0, 1, 2, 3, 27, 5] rfl 23 rfl (by decide))).trans g22⟩, ⟨QU, (wf_lo (nd_out hRN [0, 1, 2, 3, 27, 5] rfl 24 rfl (by decide))).trans g23⟩, ⟨CF, (wf_lo (nd_out hRN [0, 1, 2, 3, 27, 5] rfl 25 rfl (by decide))).trans g24⟩, ⟨CB, (wf_lo (nd_out hRN [0, 1, 2, 3, 27, 5] rfl 26 rfl (by decide))).trans g25⟩, ⟨_, wf_lg hNw 4 rfl⟩⟩
    · exact frR_l [0, 1, 2, 3, 27, 5] rfl
  · have hNw : nd (([(mo, rfO k mn (A 0) (A 1) (A 2) (A 3) cz (A 4) tz ca (A 5) (A 6) (A 7) (A 8) pz wy fi se ho lx ly ts tS (A 9) (A 10) (A 11) (A 12) (A 13) (A 14) (A 15) cs (A 16) (A 17) (A 18) av (A 19) (A 20) lz hz1 nl nh (A 21) ce (A 22) (A 23) (A 24) (A 25) qd (A 26)), ((A 0), .inl (t 0, 60, .inl (iA Sz))), ((A 1), .inl (t 0, 9600, .inl (iA Nx))), ((A 2), .inl (t 1, 60, .inr (.inl (lA En)))), ((A 26), .inl (t 1, 4040, .inr (.inl (lA WY0)))), ((A 4), .inl (t 0, 100, .inl (iA tl)))] : List (Nat × va_E)).map Prod.fst) := (nd_sub hRN [0, 1, 2, 3, 27, 5] rfl (by decide))
    refine ⟨tz, tl, ?_, ?_, ?_⟩
    · exact Or.inr ⟨hno, rfl, rfl, rfl⟩
    · exact ⟨⟨_, _, _, _, _, _, _, _, _, _, _, _, _, _, _, _, _, wf_lg hNw 0 rfl⟩, wf_lg hNw 1 rfl, wf_lg hNw 2 rfl, wf_lg hNw 3 rfl, (wf_lo (nd_out hRN [0, 1, 2, 3, 27, 5] rfl 4 rfl (by decide))).trans g3, wf_lg hNw 5 rfl, ⟨PS, (wf_lo (nd_out hRN [0, 1, 2, 3, 27, 5] rfl 6 rfl (by decide))).trans g5⟩, ⟨PT, (wf_lo (nd_out hRN [0, 1, 2, 3, 27, 5] rfl 7 rfl (by decide))).trans g6⟩, ⟨L, (wf_lo (nd_out hRN [0, 1, 2, 3, 27, 5] rfl 8 rfl (by decide))).trans g7⟩, ⟨Z, (wf_lo (nd_out hRN [0, 1, 2, 3, 27, 5] rfl 9 rfl (by decide))).trans g8⟩, ⟨LO, (wf_lo (nd_out hRN [0, 1, 2, 3, 27, 5] rfl 10 rfl (by decide))).trans g9⟩, ⟨LT, (wf_lo (nd_out hRN [0, 1, 2, 3, 27, 5] rfl 11 rfl (by decide))).trans g10⟩, ⟨IC, (wf_lo (nd_out hRN [0, 1, 2, 3, 27, 5] rfl 12 rfl (by decide))).trans g11⟩, ⟨RW, (wf_lo (nd_out hRN [0, 1, 2, 3, 27, 5] rfl 13 rfl (by decide))).trans g12⟩, ⟨CO, (wf_lo (nd_out hRN [0, 1, 2, 3, 27, 5] rfl 14 rfl (by decide))).trans g13⟩, ⟨CT, (wf_lo (nd_out hRN [0, 1, 2, 3, 27, 5] rfl 15 rfl (by decide))).trans g14⟩, ⟨SP, (wf_lo (nd_out hRN [0, 1, 2, 3, 27, 5] rfl 16 rfl (by decide))).trans g15⟩, ⟨NU, (wf_lo (nd_out hRN [0, 1, 2, 3, 27, 5] rfl 17 rfl (by decide))).trans g16⟩, ⟨OR, (wf_lo (nd_out hRN [0, 1, 2, 3, 27, 5] rfl 18 rfl (by decide))).trans g17⟩, ⟨NN, (wf_lo (nd_out hRN [0, 1, 2, 3, 27, 5] rfl 19 rfl (by decide))).trans g18⟩, ⟨LD, (wf_lo (nd_out hRN [0, 1, 2, 3, 27, 5] rfl 20 rfl (by decide))).trans g19⟩, ⟨HD, (wf_lo (nd_out hRN [0, 1, 2, 3, 27, 5] rfl 21 rfl (by decide))).trans g20⟩, ⟨CN, (wf_lo (nd_out hRN [0, 1, 2, 3, 27, 5] rfl 22 rfl (by decide))).trans g21⟩, ⟨IS, (wf_lo (nd_out hRN [0, 1, 2, 3, 27, 5] rfl 23 rfl (by decide))).trans g22⟩, ⟨QU, (wf_lo (nd_out hRN [0, 1, 2, 3, 27, 5] rfl 24 rfl (by decide))).trans g23⟩, ⟨CF, (wf_lo (nd_out hRN [0, 1, 2, 3, 27, 5] rfl 25 rfl (by decide))).trans g24⟩, ⟨CB, (wf_lo (nd_out hRN [0, 1, 2, 3, 27, 5] rfl 26 rfl (by decide))).trans g25⟩, ⟨_, wf_lg hNw 4 rfl⟩⟩
    · exact frR_l [0, 1, 2, 3, 27, 5] rfl
set_option maxHeartbeats 4000000 in
set_option maxRecDepth 100000 in
theorem r_clear {l : Launch} {D : va_G} {t : Nat → ClassId} {w : wf_W} {sz : Nat} {mo : Nat} {A : Nat → Nat} {k mn cz tz ca : Nat} {cl tl Sz En Nx : Nat → Nat}  (hRN : nd (RL mo A)) (hk : 2 ≤ k ∧ k ≤ 4) (hmc : mcO k mn Sz En Nx) (hcz : cz ≤ 100) (htz : tz ≤ 100) (hck : ∀ i, i < cz → cl i < k) (hR : RSt t w mo A k mn cz tz ca cl tl Sz En Nx)  : Mi l y_Ref_clear b_Ref_clear 2 (some .int) 0 0 0 0 D t w sz [.ref mo] (fun r w' => (r = nI mn) ∧ RSt t w' mo A k 0 0 0 0 cl tl Sz En Nx ∧ frR mo A w w') := by
  obtain ⟨⟨pz, wy, fi, se, ho, lx, ly, ts, tS, cs, av, lz, hz1, nl, nh, ce, qd, g_mo⟩, g0, g1, g2, g3, g4, ⟨PS, g5⟩, ⟨PT, g6⟩, ⟨L, g7⟩, ⟨Z, g8⟩, ⟨LO, g9⟩, ⟨LT, g10⟩, ⟨IC, g11⟩, ⟨RW, g12⟩, ⟨CO, g13⟩, ⟨CT, g14⟩, ⟨SP, g15⟩, ⟨NU, g16⟩, ⟨OR, g17⟩, ⟨NN, g18⟩, ⟨LD, g19⟩, ⟨HD, g20⟩, ⟨CN, g21⟩, ⟨IS, g22⟩, ⟨QU, g23⟩, ⟨CF, g24⟩, ⟨CB, g25⟩, ⟨WY, g26⟩⟩ := hR
  have hmn := hmc.1
  refine Mi_mono (c_Ref_clear (l := l) (D := D) (t := t) (w := w) (sz := sz) (nd_sub hRN [0] rfl (by decide)) g_mo) ?_
  rintro r w' hp
  obtain ⟨rfl, rfl⟩ := hp
  have hNw : nd (([(mo, rfO k 0 (A 0) (A 1) (A 2) (A 3) 0 (A 4) 0 0 (A 5) (A 6) (A 7) (A 8) pz wy fi se ho lx ly ts tS (A 9) (A 10) (A 11) (A 12) (A 13) (A 14) (A 15) cs (A 16) (A 17) (A 18) av (A 19) (A 20) lz hz1 nl nh (A 21) ce (A 22) (A 23) (A 24) (A 25) qd (A 26))] : List (Nat × va_E)).map Prod.fst) := (nd_sub hRN [0] rfl (by decide))
  refine ⟨?_, ?_, ?_⟩
  · exact rfl
  · exact ⟨⟨_, _, _, _, _, _, _, _, _, _, _, _, _, _, _, _, _, wf_lg hNw 0 rfl⟩, (wf_lo (nd_out hRN [0] rfl 1 rfl (by decide))).trans g0, (wf_lo (nd_out hRN [0] rfl 2 rfl (by decide))).trans g1, (wf_lo (nd_out hRN [0] rfl 3 rfl (by decide))).trans g2, (wf_lo (nd_out hRN [0] rfl 4 rfl (by decide))).trans g3, (wf_lo (nd_out hRN [0] rfl 5 rfl (by decide))).trans g4, ⟨PS, (wf_lo (nd_out hRN [0] rfl 6 rfl (by decide))).trans g5⟩, ⟨PT, (wf_lo (nd_out hRN [0] rfl 7 rfl (by decide))).trans g6⟩, ⟨L, (wf_lo (nd_out hRN [0] rfl 8 rfl (by decide))).trans g7⟩, ⟨Z, (wf_lo (nd_out hRN [0] rfl 9 rfl (by decide))).trans g8⟩, ⟨LO, (wf_lo (nd_out hRN [0] rfl 10 rfl (by decide))).trans g9⟩, ⟨LT, (wf_lo (nd_out hRN [0] rfl 11 rfl (by decide))).trans g10⟩, ⟨IC, (wf_lo (nd_out hRN [0] rfl 12 rfl (by decide))).trans g11⟩, ⟨RW, (wf_lo (nd_out hRN [0] rfl 13 rfl (by decide))).trans g12⟩, ⟨CO, (wf_lo (nd_out hRN [0] rfl 14 rfl (by decide))).trans g13⟩, ⟨CT, (wf_lo (nd_out hRN [0] rfl 15 rfl (by decide))).trans g14⟩, ⟨SP, (wf_lo (nd_out hRN [0] rfl 16 rfl (by decide))).trans g15⟩, ⟨NU, (wf_lo (nd_out hRN [0] rfl 17 rfl (by decide))).trans g16⟩, ⟨OR, (wf_lo (nd_out hRN [0] rfl 18 rfl (by decide))).trans g17⟩, ⟨NN, (wf_lo (nd_out hRN [0] rfl 19 rfl (by decide))).trans g18⟩, ⟨LD, (wf_lo (nd_out hRN [0] rfl 20 rfl (by decide))).trans g19⟩, ⟨HD, (wf_lo (nd_out hRN [0] rfl 21 rfl (by decide))).trans g20⟩, ⟨CN, (wf_lo (nd_out hRN [0] rfl 22 rfl (by decide))).trans g21⟩, ⟨IS, (wf_lo (nd_out hRN [0] rfl 23 rfl (by decide))).trans g22⟩, ⟨QU, (wf_lo (nd_out hRN [0] rfl 24 rfl (by decide))).trans g23⟩, ⟨CF, (wf_lo (nd_out hRN [0] rfl 25 rfl (by decide))).trans g24⟩, ⟨CB, (wf_lo (nd_out hRN [0] rfl 26 rfl (by decide))).trans g25⟩, ⟨WY, (wf_lo (nd_out hRN [0] rfl 27 rfl (by decide))).trans g26⟩⟩
  · exact frR_l [0] rfl
set_option maxHeartbeats 4000000 in
set_option maxRecDepth 100000 in
theorem r_wipe {l : Launch} {D : va_G} {t : Nat → ClassId} {w : wf_W} {sz : Nat} {mo : Nat} {A : Nat → Nat} {k mn cz tz ca : Nat} {cl tl Sz En Nx : Nat → Nat}  (hRN : nd (RL mo A)) (hk : 2 ≤ k ∧ k ≤ 4) (hmc : mcO k mn Sz En Nx) (hcz : cz ≤ 100) (htz : tz ≤ 100) (hck : ∀ i, i < cz → cl i < k) (hR : RSt t w mo A k mn cz tz ca cl tl Sz En Nx)  : Mi l y_Ref_wipe b_Ref_wipe 2 (some .int) 0 0 0 0 D t w sz [.ref mo] (fun r w' => (r = nI cz) ∧ RSt t w' mo A k mn 0 tz ca cl tl Sz En Nx ∧ frR mo A w w') := by
  obtain ⟨⟨pz, wy, fi, se, ho, lx, ly, ts, tS, cs, av, lz, hz1, nl, nh, ce, qd, g_mo⟩, g0, g1, g2, g3, g4, ⟨PS, g5⟩, ⟨PT, g6⟩, ⟨L, g7⟩, ⟨Z, g8⟩, ⟨LO, g9⟩, ⟨LT, g10⟩, ⟨IC, g11⟩, ⟨RW, g12⟩, ⟨CO, g13⟩, ⟨CT, g14⟩, ⟨SP, g15⟩, ⟨NU, g16⟩, ⟨OR, g17⟩, ⟨NN, g18⟩, ⟨LD, g19⟩, ⟨HD, g20⟩, ⟨CN, g21⟩, ⟨IS, g22⟩, ⟨QU, g23⟩, ⟨CF, g24⟩, ⟨CB, g25⟩, ⟨WY, g26⟩⟩ := hR
  have hmn := hmc.1
  refine Mi_mono (c_Ref_wipe (l := l) (D := D) (t := t) (w := w) (sz := sz) (nd_sub hRN [0] rfl (by decide)) g_mo) ?_
  rintro r w' hp
  obtain ⟨rfl, rfl⟩ := hp
  have hNw : nd (([(mo, rfO k mn (A 0) (A 1) (A 2) (A 3) 0 (A 4) tz ca (A 5) (A 6) (A 7) (A 8) pz wy fi se ho lx ly ts tS (A 9) (A 10) (A 11) (A 12) (A 13) (A 14) (A 15) cs (A 16) (A 17) (A 18) av (A 19) (A 20) lz hz1 nl nh (A 21) ce (A 22) (A 23) (A 24) (A 25) qd (A 26))] : List (Nat × va_E)).map Prod.fst) := (nd_sub hRN [0] rfl (by decide))
  refine ⟨?_, ?_, ?_⟩
  · exact rfl
  · exact ⟨⟨_, _, _, _, _, _, _, _, _, _, _, _, _, _, _, _, _, wf_lg hNw 0 rfl⟩, (wf_lo (nd_out hRN [0] rfl 1 rfl (by decide))).trans g0, (wf_lo (nd_out hRN [0] rfl 2 rfl (by decide))).trans g1, (wf_lo (nd_out hRN [0] rfl 3 rfl (by decide))).trans g2, (wf_lo (nd_out hRN [0] rfl 4 rfl (by decide))).trans g3, (wf_lo (nd_out hRN [0] rfl 5 rfl (by decide))).trans g4, ⟨PS, (wf_lo (nd_out hRN [0] rfl 6 rfl (by decide))).trans g5⟩, ⟨PT, (wf_lo (nd_out hRN [0] rfl 7 rfl (by decide))).trans g6⟩, ⟨L, (wf_lo (nd_out hRN [0] rfl 8 rfl (by decide))).trans g7⟩, ⟨Z, (wf_lo (nd_out hRN [0] rfl 9 rfl (by decide))).trans g8⟩, ⟨LO, (wf_lo (nd_out hRN [0] rfl 10 rfl (by decide))).trans g9⟩, ⟨LT, (wf_lo (nd_out hRN [0] rfl 11 rfl (by decide))).trans g10⟩, ⟨IC, (wf_lo (nd_out hRN [0] rfl 12 rfl (by decide))).trans g11⟩, ⟨RW, (wf_lo (nd_out hRN [0] rfl 13 rfl (by decide))).trans g12⟩, ⟨CO, (wf_lo (nd_out hRN [0] rfl 14 rfl (by decide))).trans g13⟩, ⟨CT, (wf_lo (nd_out hRN [0] rfl 15 rfl (by decide))).trans g14⟩, ⟨SP, (wf_lo (nd_out hRN [0] rfl 16 rfl (by decide))).trans g15⟩, ⟨NU, (wf_lo (nd_out hRN [0] rfl 17 rfl (by decide))).trans g16⟩, ⟨OR, (wf_lo (nd_out hRN [0] rfl 18 rfl (by decide))).trans g17⟩, ⟨NN, (wf_lo (nd_out hRN [0] rfl 19 rfl (by decide))).trans g18⟩, ⟨LD, (wf_lo (nd_out hRN [0] rfl 20 rfl (by decide))).trans g19⟩, ⟨HD, (wf_lo (nd_out hRN [0] rfl 21 rfl (by decide))).trans g20⟩, ⟨CN, (wf_lo (nd_out hRN [0] rfl 22 rfl (by decide))).trans g21⟩, ⟨IS, (wf_lo (nd_out hRN [0] rfl 23 rfl (by decide))).trans g22⟩, ⟨QU, (wf_lo (nd_out hRN [0] rfl 24 rfl (by decide))).trans g23⟩, ⟨CF, (wf_lo (nd_out hRN [0] rfl 25 rfl (by decide))).trans g24⟩, ⟨CB, (wf_lo (nd_out hRN [0] rfl 26 rfl (by decide))).trans g25⟩, ⟨WY, (wf_lo (nd_out hRN [0] rfl 27 rfl (by decide))).trans g26⟩⟩
  · exact frR_l [0] rfl
set_option maxHeartbeats 4000000 in
set_option maxRecDepth 100000 in
theorem r_add {l : Launch} {D : va_G} {t : Nat → ClassId} {w : wf_W} {sz : Nat} {mo : Nat} {A : Nat → Nat} {k mn cz tz ca : Nat} {cl tl Sz En Nx : Nat → Nat} {a : Nat} (hRN : nd (RL mo A)) (hk : 2 ≤ k ∧ k ≤ 4) (hmc : mcO k mn Sz En Nx) (hcz : cz ≤ 100) (htz : tz ≤ 100) (hck : ∀ i, i < cz → cl i < k) (hR : RSt t w mo A k mn cz tz ca cl tl Sz En Nx) (ha : a < k) : Mi l y_Ref_add b_Ref_add 2 (some .int) 1 25 0 0 D t w sz [.ref mo, .int (nI a)] (fun r w' => ∃ (cz' : Nat) (cl' : Nat → Nat), ((cz < 100 ∧ r = nI (cz + 1) ∧ cz' = cz + 1 ∧ cl' = nu cl cz a) ∨ (cz = 100 ∧ r = -3 ∧ cz' = cz ∧ cl' = cl)) ∧ RSt t w' mo A k mn cz' tz ca cl' tl Sz En Nx ∧ frR mo A w w') := by
  obtain ⟨⟨pz, wy, fi, se, ho, lx, ly, ts, tS, cs, av, lz, hz1, nl, nh, ce, qd, g_mo⟩, g0, g1, g2, g3, g4, ⟨PS, g5⟩, ⟨PT, g6⟩, ⟨L, g7⟩, ⟨Z, g8⟩, ⟨LO, g9⟩, ⟨LT, g10⟩, ⟨IC, g11⟩, ⟨RW, g12⟩, ⟨CO, g13⟩, ⟨CT, g14⟩, ⟨SP, g15⟩, ⟨NU, g16⟩, ⟨OR, g17⟩, ⟨NN, g18⟩, ⟨LD, g19⟩, ⟨HD, g20⟩, ⟨CN, g21⟩, ⟨IS, g22⟩, ⟨QU, g23⟩, ⟨CF, g24⟩, ⟨CB, g25⟩, ⟨WY, g26⟩⟩ := hR
  have hmn := hmc.1
  refine Mi_mono (c_Ref_addy (l := l) (D := D) (t := t) (w := w) (sz := sz) (nd_sub hRN [0, 4] rfl (by decide)) g_mo g3 (by omega) ha hcz) ?_
  rintro r w' hp
  rcases hp with ⟨hz2, rfl, rfl⟩ | ⟨hz2, rfl, rfl⟩
  · have hNw : nd (([(mo, rfO k mn (A 0) (A 1) (A 2) (A 3) (cz + 1) (A 4) tz ca (A 5) (A 6) (A 7) (A 8) pz wy fi se ho lx ly ts tS (A 9) (A 10) (A 11) (A 12) (A 13) (A 14) (A 15) cs (A 16) (A 17) (A 18) av (A 19) (A 20) lz hz1 nl nh (A 21) ce (A 22) (A 23) (A 24) (A 25) qd (A 26)), ((A 3), .inl (t 0, 100, .inl (iA (nu cl cz a))))] : List (Nat × va_E)).map Prod.fst) := (nd_sub hRN [0, 4] rfl (by decide))
    refine ⟨cz + 1, nu cl cz a, ?_, ?_, ?_⟩
    · exact Or.inl ⟨hz2, rfl, rfl, rfl⟩
    · exact ⟨⟨_, _, _, _, _, _, _, _, _, _, _, _, _, _, _, _, _, wf_lg hNw 0 rfl⟩, (wf_lo (nd_out hRN [0, 4] rfl 1 rfl (by decide))).trans g0, (wf_lo (nd_out hRN [0, 4] rfl 2 rfl (by decide))).trans g1, (wf_lo (nd_out hRN [0, 4] rfl 3 rfl (by decide))).trans g2, wf_lg hNw 1 rfl, (wf_lo (nd_out hRN [0, 4] rfl 5 rfl (by decide))).trans g4, ⟨PS, (wf_lo (nd_out hRN [0, 4] rfl 6 rfl (by decide))).trans g5⟩, ⟨PT, (wf_lo (nd_out hRN [0, 4] rfl 7 rfl (by decide))).trans g6⟩, ⟨L, (wf_lo (nd_out hRN [0, 4] rfl 8 rfl (by decide))).trans g7⟩, ⟨Z, (wf_lo (nd_out hRN [0, 4] rfl 9 rfl (by decide))).trans g8⟩, ⟨LO, (wf_lo (nd_out hRN [0, 4] rfl 10 rfl (by decide))).trans g9⟩, ⟨LT, (wf_lo (nd_out hRN [0, 4] rfl 11 rfl (by decide))).trans g10⟩, ⟨IC, (wf_lo (nd_out hRN [0, 4] rfl 12 rfl (by decide))).trans g11⟩, ⟨RW, (wf_lo (nd_out hRN [0, 4] rfl 13 rfl (by decide))).trans g12⟩, ⟨CO, (wf_lo (nd_out hRN [0, 4] rfl 14 rfl (by decide))).trans g13⟩, ⟨CT, (wf_lo (nd_out hRN [0, 4] rfl 15 rfl (by decide))).trans g14⟩, ⟨SP, (wf_lo (nd_out hRN [0, 4] rfl 16 rfl (by decide))).trans g15⟩, ⟨NU, (wf_lo (nd_out hRN [0, 4] rfl 17 rfl (by decide))).trans g16⟩, ⟨OR, (wf_lo (nd_out hRN [0, 4] rfl 18 rfl (by decide))).trans g17⟩, ⟨NN, (wf_lo (nd_out hRN [0, 4] rfl 19 rfl (by decide))).trans g18⟩, ⟨LD, (wf_lo (nd_out hRN [0, 4] rfl 20 rfl (by decide))).trans g19⟩, ⟨HD, (wf_lo (nd_out hRN [0, 4] rfl 21 rfl (by decide))).trans g20⟩, ⟨CN, (wf_lo (nd_out hRN [0, 4] rfl 22 rfl (by decide))).trans g21⟩, ⟨IS, (wf_lo (nd_out hRN [0, 4] rfl 23 rfl (by decide))).trans g22⟩, ⟨QU, (wf_lo (nd_out hRN [0, 4] rfl 24 rfl (by decide))).trans g23⟩, ⟨CF, (wf_lo (nd_out hRN [0, 4] rfl 25 rfl (by decide))).trans g24⟩, ⟨CB, (wf_lo (nd_out hRN [0, 4] rfl 26 rfl (by decide))).trans g25⟩, ⟨WY, (wf_lo (nd_out hRN [0, 4] rfl 27 rfl (by decide))).trans g26⟩⟩
    · exact frR_l [0, 4] rfl
  · have hNw : nd (([(mo, rfO k mn (A 0) (A 1) (A 2) (A 3) cz (A 4) tz ca (A 5) (A 6) (A 7) (A 8) pz wy fi se ho lx ly ts tS (A 9) (A 10) (A 11) (A 12) (A 13) (A 14) (A 15) cs (A 16) (A 17) (A 18) av (A 19) (A 20) lz hz1 nl nh (A 21) ce (A 22) (A 23) (A 24) (A 25) qd (A 26)), ((A 3), .inl (t 0, 100, .inl (iA cl)))] : List (Nat × va_E)).map Prod.fst) := (nd_sub hRN [0, 4] rfl (by decide))
    refine ⟨cz, cl, ?_, ?_, ?_⟩
    · exact Or.inr ⟨hz2, rfl, rfl, rfl⟩
    · exact ⟨⟨_, _, _, _, _, _, _, _, _, _, _, _, _, _, _, _, _, wf_lg hNw 0 rfl⟩, (wf_lo (nd_out hRN [0, 4] rfl 1 rfl (by decide))).trans g0, (wf_lo (nd_out hRN [0, 4] rfl 2 rfl (by decide))).trans g1, (wf_lo (nd_out hRN [0, 4] rfl 3 rfl (by decide))).trans g2, wf_lg hNw 1 rfl, (wf_lo (nd_out hRN [0, 4] rfl 5 rfl (by decide))).trans g4, ⟨PS, (wf_lo (nd_out hRN [0, 4] rfl 6 rfl (by decide))).trans g5⟩, ⟨PT, (wf_lo (nd_out hRN [0, 4] rfl 7 rfl (by decide))).trans g6⟩, ⟨L, (wf_lo (nd_out hRN [0, 4] rfl 8 rfl (by decide))).trans g7⟩, ⟨Z, (wf_lo (nd_out hRN [0, 4] rfl 9 rfl (by decide))).trans g8⟩, ⟨LO, (wf_lo (nd_out hRN [0, 4] rfl 10 rfl (by decide))).trans g9⟩, ⟨LT, (wf_lo (nd_out hRN [0, 4] rfl 11 rfl (by decide))).trans g10⟩, ⟨IC, (wf_lo (nd_out hRN [0, 4] rfl 12 rfl (by decide))).trans g11⟩, ⟨RW, (wf_lo (nd_out hRN [0, 4] rfl 13 rfl (by decide))).trans g12⟩, ⟨CO, (wf_lo (nd_out hRN [0, 4] rfl 14 rfl (by decide))).trans g13⟩, ⟨CT, (wf_lo (nd_out hRN [0, 4] rfl 15 rfl (by decide))).trans g14⟩, ⟨SP, (wf_lo (nd_out hRN [0, 4] rfl 16 rfl (by decide))).trans g15⟩, ⟨NU, (wf_lo (nd_out hRN [0, 4] rfl 17 rfl (by decide))).trans g16⟩, ⟨OR, (wf_lo (nd_out hRN [0, 4] rfl 18 rfl (by decide))).trans g17⟩, ⟨NN, (wf_lo (nd_out hRN [0, 4] rfl 19 rfl (by decide))).trans g18⟩, ⟨LD, (wf_lo (nd_out hRN [0, 4] rfl 20 rfl (by decide))).trans g19⟩, ⟨HD, (wf_lo (nd_out hRN [0, 4] rfl 21 rfl (by decide))).trans g20⟩, ⟨CN, (wf_lo (nd_out hRN [0, 4] rfl 22 rfl (by decide))).trans g21⟩, ⟨IS, (wf_lo (nd_out hRN [0, 4] rfl 23 rfl (by decide))).trans g22⟩, ⟨QU, (wf_lo (nd_out hRN [0, 4] rfl 24 rfl (by decide))).trans g23⟩, ⟨CF, (wf_lo (nd_out hRN [0, 4] rfl 25 rfl (by decide))).trans g24⟩, ⟨CB, (wf_lo (nd_out hRN [0, 4] rfl 26 rfl (by decide))).trans g25⟩, ⟨WY, (wf_lo (nd_out hRN [0, 4] rfl 27 rfl (by decide))).trans g26⟩⟩
    · exact frR_l [0, 4] rfl
set_option maxHeartbeats 4000000 in
set_option maxRecDepth 100000 in
theorem r_states {l : Launch} {D : va_G} {t : Nat → ClassId} {w : wf_W} {sz : Nat} {mo : Nat} {A : Nat → Nat} {k mn cz tz ca : Nat} {cl tl Sz En Nx : Nat → Nat} {a : Nat} (hRN : nd (RL mo A)) (hk : 2 ≤ k ∧ k ≤ 4) (hmc : mcO k mn Sz En Nx) (hcz : cz ≤ 100) (htz : tz ≤ 100) (hck : ∀ i, i < cz → cl i < k) (hR : RSt t w mo A k mn cz tz ca cl tl Sz En Nx) (ha : a < mn) : Mi l y_Ref_states b_Ref_states 2 (some .int) 2 46 0 0 D t w sz [.ref mo, .int (nI a)] (fun r w' => r = nI (Sz a) ∧ w' = w) := by
  obtain ⟨⟨pz, wy, fi, se, ho, lx, ly, ts, tS, cs, av, lz, hz1, nl, nh, ce, qd, g_mo⟩, g0, g1, g2, g3, g4, ⟨PS, g5⟩, ⟨PT, g6⟩, ⟨L, g7⟩, ⟨Z, g8⟩, ⟨LO, g9⟩, ⟨LT, g10⟩, ⟨IC, g11⟩, ⟨RW, g12⟩, ⟨CO, g13⟩, ⟨CT, g14⟩, ⟨SP, g15⟩, ⟨NU, g16⟩, ⟨OR, g17⟩, ⟨NN, g18⟩, ⟨LD, g19⟩, ⟨HD, g20⟩, ⟨CN, g21⟩, ⟨IS, g22⟩, ⟨QU, g23⟩, ⟨CF, g24⟩, ⟨CB, g25⟩, ⟨WY, g26⟩⟩ := hR
  have hmn := hmc.1
  refine Mi_mono (c_Ref_statesy (l := l) (D := D) (t := t) (w := w) (sz := sz) g_mo g0 hmc.1 ha) ?_
  rintro r w' hp
  obtain ⟨e1, e2⟩ := hp
  exact ⟨e1.trans (rfl), e2⟩
set_option maxHeartbeats 4000000 in
set_option maxRecDepth 100000 in
theorem k_states {l : Launch} {D : va_G} {t : Nat → ClassId} {w : wf_W} {sz : Nat} {C pa sa : Nat → Nat} {k mn cz tz ca : Nat} {cl tl Sz En Nx : Nat → Nat} {a : Nat} (hAD : AD C pa sa) (hk : 2 ≤ k ∧ k ≤ 4) (hmc : mcO k mn Sz En Nx) (hcz : cz ≤ 100) (htz : tz ≤ 100) (hck : ∀ i, i < cz → cl i < k) (hC : CSt t w C pa sa k mn cz tz ca cl tl Sz En Nx) (ha : a < mn) : Mi l y_TM_states b_TM_states 2 (some .int) 2 42 0 0 D t w sz [.ref (C 0), .int (nI a)] (fun r w' => r = nI (Sz a) ∧ w' = w) := by
  obtain ⟨h0, h1, ⟨cof, h2, h2c⟩, h3, ⟨ltf, h4, h4c⟩, ⟨mq, h5, h5c⟩, ⟨z, h6⟩, ⟨F, h7⟩, ⟨L, h8⟩, ⟨Z, h9⟩, ⟨K, h10⟩, ⟨Fi, h11⟩, ⟨Mk, h12⟩, ⟨nM, EM, h13⟩, ⟨fM, h14⟩, ⟨nC, EC, h15⟩, ⟨fC, h16⟩, ⟨b, en, h17⟩, ⟨G, h18⟩, ⟨Cr, h19⟩, ⟨Zc, h20⟩, ⟨op, h21⟩, ⟨zq, h22⟩, ⟨tqf, h23⟩, ⟨fb, h24, h24c⟩, h25, ⟨zl, h26, h26c⟩, ⟨lf, h27⟩, ⟨zh, h28, h28c⟩, ⟨hf, h29⟩, ⟨qz, h30⟩, ⟨Qu, h31⟩, ⟨cf, h32⟩, h33, ⟨Wy, h34⟩, ⟨ff, hpl, hmO⟩, hfree⟩ := hC
  have hmn := hmc.1
  refine Mi_mono (c_TM_statesy (l := l) (D := D) (t := t) (w := w) (sz := sz) (pa := pa) (sa := sa) (nn := Sz) (EE := En) h0 h5 (hpl a ha).1 hmc.1 ha (fun i hi => h5c i (by omega))) ?_
  rintro r w' hp
  obtain ⟨e1, e2⟩ := hp
  exact ⟨e1.trans (rfl), e2⟩
set_option maxHeartbeats 4000000 in
set_option maxRecDepth 100000 in
theorem r_next {l : Launch} {D : va_G} {t : Nat → ClassId} {w : wf_W} {sz : Nat} {mo : Nat} {A : Nat → Nat} {k mn cz tz ca : Nat} {cl tl Sz En Nx : Nat → Nat} {a v b : Nat} (hRN : nd (RL mo A)) (hk : 2 ≤ k ∧ k ≤ 4) (hmc : mcO k mn Sz En Nx) (hcz : cz ≤ 100) (htz : tz ≤ 100) (hck : ∀ i, i < cz → cl i < k) (hR : RSt t w mo A k mn cz tz ca cl tl Sz En Nx) (ha : a < mn) (hv : v < Sz a) (hbk : b < k) : Mi l y_Ref_next b_Ref_next 4 (some .int) 2 46 0 0 D t w sz [.ref mo, .int (nI a), .int (nI v), .int (nI b)] (fun r w' => r = nI (nxt Nx a v b) ∧ w' = w) := by
  obtain ⟨⟨pz, wy, fi, se, ho, lx, ly, ts, tS, cs, av, lz, hz1, nl, nh, ce, qd, g_mo⟩, g0, g1, g2, g3, g4, ⟨PS, g5⟩, ⟨PT, g6⟩, ⟨L, g7⟩, ⟨Z, g8⟩, ⟨LO, g9⟩, ⟨LT, g10⟩, ⟨IC, g11⟩, ⟨RW, g12⟩, ⟨CO, g13⟩, ⟨CT, g14⟩, ⟨SP, g15⟩, ⟨NU, g16⟩, ⟨OR, g17⟩, ⟨NN, g18⟩, ⟨LD, g19⟩, ⟨HD, g20⟩, ⟨CN, g21⟩, ⟨IS, g22⟩, ⟨QU, g23⟩, ⟨CF, g24⟩, ⟨CB, g25⟩, ⟨WY, g26⟩⟩ := hR
  have hmn := hmc.1
  refine Mi_mono (c_Ref_nexty (l := l) (D := D) (t := t) (w := w) (sz := sz) g_mo g0 g1 hmc.1 ha (by omega) ⟨(hmc.2 a ha).1.2.2.1, (hmc.2 a ha).1.2.1⟩ hv hbk) ?_
  rintro r w' hp
  obtain ⟨e1, e2⟩ := hp
  exact ⟨e1.trans (rfl), e2⟩
set_option maxHeartbeats 4000000 in
set_option maxRecDepth 100000 in
theorem k_next {l : Launch} {D : va_G} {t : Nat → ClassId} {w : wf_W} {sz : Nat} {C pa sa : Nat → Nat} {k mn cz tz ca : Nat} {cl tl Sz En Nx : Nat → Nat} {a v b : Nat} (hAD : AD C pa sa) (hk : 2 ≤ k ∧ k ≤ 4) (hmc : mcO k mn Sz En Nx) (hcz : cz ≤ 100) (htz : tz ≤ 100) (hck : ∀ i, i < cz → cl i < k) (hC : CSt t w C pa sa k mn cz tz ca cl tl Sz En Nx) (ha : a < mn) (hv : v < Sz a) (hbk : b < k) : Mi l y_TM_next b_TM_next 4 (some .int) 3 64 0 0 D t w sz [.ref (C 0), .int (nI a), .int (nI v), .int (nI b)] (fun r w' => r = nI (nxt Nx a v b) ∧ w' = w) := by
  obtain ⟨h0, h1, ⟨cof, h2, h2c⟩, h3, ⟨ltf, h4, h4c⟩, ⟨mq, h5, h5c⟩, ⟨z, h6⟩, ⟨F, h7⟩, ⟨L, h8⟩, ⟨Z, h9⟩, ⟨K, h10⟩, ⟨Fi, h11⟩, ⟨Mk, h12⟩, ⟨nM, EM, h13⟩, ⟨fM, h14⟩, ⟨nC, EC, h15⟩, ⟨fC, h16⟩, ⟨b, en, h17⟩, ⟨G, h18⟩, ⟨Cr, h19⟩, ⟨Zc, h20⟩, ⟨op, h21⟩, ⟨zq, h22⟩, ⟨tqf, h23⟩, ⟨fb, h24, h24c⟩, h25, ⟨zl, h26, h26c⟩, ⟨lf, h27⟩, ⟨zh, h28, h28c⟩, ⟨hf, h29⟩, ⟨qz, h30⟩, ⟨Qu, h31⟩, ⟨cf, h32⟩, h33, ⟨Wy, h34⟩, ⟨ff, hpl, hmO⟩, hfree⟩ := hC
  have hmn := hmc.1
  refine Mi_mono (c_TM_nexty (l := l) (D := D) (t := t) (w := w) (sz := sz) (pa := pa) (sa := sa) (nn := Sz) (EE := En) (ff := ff) (stt := nxt Nx) h0 h5 (hpl a ha).1 (hpl a ha).2 hmc.1 ha (fun i hi => h5c i (by omega)) (hmO a ha) hv hbk) ?_
  rintro r w' hp
  obtain ⟨e1, e2⟩ := hp
  exact ⟨e1.trans (by rw [stp_in hv hbk]), e2⟩
set_option maxHeartbeats 4000000 in
set_option maxRecDepth 100000 in
theorem r_end {l : Launch} {D : va_G} {t : Nat → ClassId} {w : wf_W} {sz : Nat} {mo : Nat} {A : Nat → Nat} {k mn cz tz ca : Nat} {cl tl Sz En Nx : Nat → Nat} {a v : Nat} (hRN : nd (RL mo A)) (hk : 2 ≤ k ∧ k ≤ 4) (hmc : mcO k mn Sz En Nx) (hcz : cz ≤ 100) (htz : tz ≤ 100) (hck : ∀ i, i < cz → cl i < k) (hR : RSt t w mo A k mn cz tz ca cl tl Sz En Nx) (ha : a < mn) (hv : v < Sz a) : Mi l y_Ref_end b_Ref_end 3 (some .int) 2 46 0 0 D t w sz [.ref mo, .int (nI a), .int (nI v)] (fun r w' => r = nI (if Nat.testBit (En a) (v) = true then 1 else 0) ∧ w' = w) := by
  obtain ⟨⟨pz, wy, fi, se, ho, lx, ly, ts, tS, cs, av, lz, hz1, nl, nh, ce, qd, g_mo⟩, g0, g1, g2, g3, g4, ⟨PS, g5⟩, ⟨PT, g6⟩, ⟨L, g7⟩, ⟨Z, g8⟩, ⟨LO, g9⟩, ⟨LT, g10⟩, ⟨IC, g11⟩, ⟨RW, g12⟩, ⟨CO, g13⟩, ⟨CT, g14⟩, ⟨SP, g15⟩, ⟨NU, g16⟩, ⟨OR, g17⟩, ⟨NN, g18⟩, ⟨LD, g19⟩, ⟨HD, g20⟩, ⟨CN, g21⟩, ⟨IS, g22⟩, ⟨QU, g23⟩, ⟨CF, g24⟩, ⟨CB, g25⟩, ⟨WY, g26⟩⟩ := hR
  have hmn := hmc.1
  refine Mi_mono (c_Ref_endy (l := l) (D := D) (t := t) (w := w) (sz := sz) g_mo g0 g2 hmc.1 ha ⟨(hmc.2 a ha).1.2.2.1, (hmc.2 a ha).1.2.1⟩ (hmc.2 a ha).1.E40 hv) ?_
  rintro r w' hp
  obtain ⟨e1, e2⟩ := hp
  exact ⟨e1.trans (rfl), e2⟩
set_option maxHeartbeats 4000000 in
set_option maxRecDepth 100000 in
theorem k_end {l : Launch} {D : va_G} {t : Nat → ClassId} {w : wf_W} {sz : Nat} {C pa sa : Nat → Nat} {k mn cz tz ca : Nat} {cl tl Sz En Nx : Nat → Nat} {a v : Nat} (hAD : AD C pa sa) (hk : 2 ≤ k ∧ k ≤ 4) (hmc : mcO k mn Sz En Nx) (hcz : cz ≤ 100) (htz : tz ≤ 100) (hck : ∀ i, i < cz → cl i < k) (hC : CSt t w C pa sa k mn cz tz ca cl tl Sz En Nx) (ha : a < mn) (hv : v < Sz a) : Mi l y_TM_end b_TM_end 3 (some .int) 3 64 0 0 D t w sz [.ref (C 0), .int (nI a), .int (nI v)] (fun r w' => r = nI (if Nat.testBit (En a) (v) = true then 1 else 0) ∧ w' = w) := by
  obtain ⟨h0, h1, ⟨cof, h2, h2c⟩, h3, ⟨ltf, h4, h4c⟩, ⟨mq, h5, h5c⟩, ⟨z, h6⟩, ⟨F, h7⟩, ⟨L, h8⟩, ⟨Z, h9⟩, ⟨K, h10⟩, ⟨Fi, h11⟩, ⟨Mk, h12⟩, ⟨nM, EM, h13⟩, ⟨fM, h14⟩, ⟨nC, EC, h15⟩, ⟨fC, h16⟩, ⟨b, en, h17⟩, ⟨G, h18⟩, ⟨Cr, h19⟩, ⟨Zc, h20⟩, ⟨op, h21⟩, ⟨zq, h22⟩, ⟨tqf, h23⟩, ⟨fb, h24, h24c⟩, h25, ⟨zl, h26, h26c⟩, ⟨lf, h27⟩, ⟨zh, h28, h28c⟩, ⟨hf, h29⟩, ⟨qz, h30⟩, ⟨Qu, h31⟩, ⟨cf, h32⟩, h33, ⟨Wy, h34⟩, ⟨ff, hpl, hmO⟩, hfree⟩ := hC
  have hmn := hmc.1
  refine Mi_mono (c_TM_endy (l := l) (D := D) (t := t) (w := w) (sz := sz) (pa := pa) (sa := sa) (nn := Sz) (EE := En) h0 h5 (hpl a ha).1 hmc.1 ha (fun i hi => h5c i (by omega)) (hmc.2 a ha).1.2.1 (hmc.2 a ha).1.E40 hv) ?_
  rintro r w' hp
  obtain ⟨e1, e2⟩ := hp
  exact ⟨e1.trans (by rw [inE, decide_eq_true hv, Bool.true_and]), e2⟩
set_option maxHeartbeats 4000000 in
set_option maxRecDepth 100000 in
theorem r_has {l : Launch} {D : va_G} {t : Nat → ClassId} {w : wf_W} {sz : Nat} {mo : Nat} {A : Nat → Nat} {k mn cz tz ca : Nat} {cl tl Sz En Nx : Nat → Nat} {a : Nat} (hRN : nd (RL mo A)) (hk : 2 ≤ k ∧ k ≤ 4) (hmc : mcO k mn Sz En Nx) (hcz : cz ≤ 100) (htz : tz ≤ 100) (hck : ∀ i, i < cz → cl i < k) (hR : RSt t w mo A k mn cz tz ca cl tl Sz En Nx) (ha : a < mn) : Mi l y_Ref_has b_Ref_has 4 (some .int) 2 46 0 0 D t w sz [.ref mo, .int (nI a)] (fun r w' => r = nI (if Nat.testBit (En a) (wlk (stp k (Sz a) (nxt Nx a)) cl cz) = true then 1 else 0) ∧ w' = w) := by
  obtain ⟨⟨pz, wy, fi, se, ho, lx, ly, ts, tS, cs, av, lz, hz1, nl, nh, ce, qd, g_mo⟩, g0, g1, g2, g3, g4, ⟨PS, g5⟩, ⟨PT, g6⟩, ⟨L, g7⟩, ⟨Z, g8⟩, ⟨LO, g9⟩, ⟨LT, g10⟩, ⟨IC, g11⟩, ⟨RW, g12⟩, ⟨CO, g13⟩, ⟨CT, g14⟩, ⟨SP, g15⟩, ⟨NU, g16⟩, ⟨OR, g17⟩, ⟨NN, g18⟩, ⟨LD, g19⟩, ⟨HD, g20⟩, ⟨CN, g21⟩, ⟨IS, g22⟩, ⟨QU, g23⟩, ⟨CF, g24⟩, ⟨CB, g25⟩, ⟨WY, g26⟩⟩ := hR
  have hmn := hmc.1
  refine Mi_mono (c_Ref_hasy (l := l) (D := D) (t := t) (w := w) (sz := sz) g_mo g1 g2 g3 hmc.1 ha (hmc.2 a ha).1 hcz hck) ?_
  rintro r w' hp
  obtain ⟨e1, e2⟩ := hp
  exact ⟨e1.trans (rfl), e2⟩
set_option maxHeartbeats 4000000 in
set_option maxRecDepth 100000 in
theorem k_has {l : Launch} {D : va_G} {t : Nat → ClassId} {w : wf_W} {sz : Nat} {C pa sa : Nat → Nat} {k mn cz tz ca : Nat} {cl tl Sz En Nx : Nat → Nat} {a : Nat} (hAD : AD C pa sa) (hk : 2 ≤ k ∧ k ≤ 4) (hmc : mcO k mn Sz En Nx) (hcz : cz ≤ 100) (htz : tz ≤ 100) (hck : ∀ i, i < cz → cl i < k) (hC : CSt t w C pa sa k mn cz tz ca cl tl Sz En Nx) (ha : a < mn) : Mi l y_TM_has b_TM_has 3 (some .int) 3 67 0 0 D t w sz [.ref (C 0), .int (nI a)] (fun r w' => r = nI (if Nat.testBit (En a) (wlk (stp k (Sz a) (nxt Nx a)) cl cz) = true then 1 else 0) ∧ w' = w) := by
  obtain ⟨h0, h1, ⟨cof, h2, h2c⟩, h3, ⟨ltf, h4, h4c⟩, ⟨mq, h5, h5c⟩, ⟨z, h6⟩, ⟨F, h7⟩, ⟨L, h8⟩, ⟨Z, h9⟩, ⟨K, h10⟩, ⟨Fi, h11⟩, ⟨Mk, h12⟩, ⟨nM, EM, h13⟩, ⟨fM, h14⟩, ⟨nC, EC, h15⟩, ⟨fC, h16⟩, ⟨b, en, h17⟩, ⟨G, h18⟩, ⟨Cr, h19⟩, ⟨Zc, h20⟩, ⟨op, h21⟩, ⟨zq, h22⟩, ⟨tqf, h23⟩, ⟨fb, h24, h24c⟩, h25, ⟨zl, h26, h26c⟩, ⟨lf, h27⟩, ⟨zh, h28, h28c⟩, ⟨hf, h29⟩, ⟨qz, h30⟩, ⟨Qu, h31⟩, ⟨cf, h32⟩, h33, ⟨Wy, h34⟩, ⟨ff, hpl, hmO⟩, hfree⟩ := hC
  have hmn := hmc.1
  refine Mi_mono (c_TM_hasy (l := l) (D := D) (t := t) (w := w) (sz := sz) (pa := pa) (sa := sa) (nn := Sz) (EE := En) (ff := ff) (stt := nxt Nx) (cl := cl) h0 h5 h1 h2 (hpl a ha).1 (hpl a ha).2 hmc.1 ha (fun i hi => h5c i (by omega)) (hmO a ha) hcz (fun i hi => ⟨h2c i hi, by have := hck i hi; omega⟩)) ?_
  rintro r w' hp
  obtain ⟨e1, e2⟩ := hp
  exact ⟨e1.trans (by rw [inE, decide_eq_true (wlk_lt (hmO a ha) cl cz), Bool.true_and]), e2⟩
set_option maxHeartbeats 4000000 in
set_option maxRecDepth 100000 in
theorem k_longest {l : Launch} {D : va_G} {t : Nat → ClassId} {w : wf_W} {sz : Nat} {C pa sa : Nat → Nat} {k mn cz tz ca : Nat} {cl tl Sz En Nx : Nat → Nat} {a : Nat} (hAD : AD C pa sa) (hk : 2 ≤ k ∧ k ≤ 4) (hmc : mcO k mn Sz En Nx) (hcz : cz ≤ 100) (htz : tz ≤ 100) (hck : ∀ i, i < cz → cl i < k) (hC : CSt t w C pa sa k mn cz tz ca cl tl Sz En Nx) (ha : a < mn) : Mi l y_TM_longest b_TM_longest 2 (some .int) 5 119 0 0 D t w sz [.ref (C 0), .int (nI a)] (fun r w' => r = (if ((Sz a : Nat) : Int) ≤ (mst k (Sz a) (En a) (nxt Nx a) (2 * Sz a)).toInt then (-5) else mst k (Sz a) (En a) (nxt Nx a) (2 * Sz a)) ∧ w' = w) := by
  obtain ⟨h0, h1, ⟨cof, h2, h2c⟩, h3, ⟨ltf, h4, h4c⟩, ⟨mq, h5, h5c⟩, ⟨z, h6⟩, ⟨F, h7⟩, ⟨L, h8⟩, ⟨Z, h9⟩, ⟨K, h10⟩, ⟨Fi, h11⟩, ⟨Mk, h12⟩, ⟨nM, EM, h13⟩, ⟨fM, h14⟩, ⟨nC, EC, h15⟩, ⟨fC, h16⟩, ⟨b, en, h17⟩, ⟨G, h18⟩, ⟨Cr, h19⟩, ⟨Zc, h20⟩, ⟨op, h21⟩, ⟨zq, h22⟩, ⟨tqf, h23⟩, ⟨fb, h24, h24c⟩, h25, ⟨zl, h26, h26c⟩, ⟨lf, h27⟩, ⟨zh, h28, h28c⟩, ⟨hf, h29⟩, ⟨qz, h30⟩, ⟨Qu, h31⟩, ⟨cf, h32⟩, h33, ⟨Wy, h34⟩, ⟨ff, hpl, hmO⟩, hfree⟩ := hC
  have hmn := hmc.1
  refine Mi_mono (c_TM_longesty (l := l) (D := D) (t := t) (w := w) (sz := sz) (pa := pa) (sa := sa) (nn := Sz) (EE := En) (ff := ff) (stt := nxt Nx) h0 h5 (hpl a ha).1 (hpl a ha).2 hmc.1 ha (fun i hi => h5c i (by omega)) (hmO a ha)) ?_
  rintro r w' hp
  obtain ⟨e1, e2⟩ := hp
  exact ⟨e1.trans (rfl), e2⟩
set_option maxHeartbeats 4000000 in
set_option maxRecDepth 100000 in
theorem r_longest {l : Launch} {D : va_G} {t : Nat → ClassId} {w : wf_W} {sz : Nat} {mo : Nat} {A : Nat → Nat} {k mn cz tz ca : Nat} {cl tl Sz En Nx : Nat → Nat} {a : Nat} (hRN : nd (RL mo A)) (hk : 2 ≤ k ∧ k ≤ 4) (hmc : mcO k mn Sz En Nx) (hcz : cz ≤ 100) (htz : tz ≤ 100) (hck : ∀ i, i < cz → cl i < k) (hR : RSt t w mo A k mn cz tz ca cl tl Sz En Nx) (ha : a < mn) : Mi l y_Ref_longest b_Ref_longest 6 (some .int) 2 50 0 0 D t w sz [.ref mo, .int (nI a)] (fun r w' => r = (if ((Sz a : Nat) : Int) ≤ (mst k (Sz a) (En a) (nxt Nx a) (2 * Sz a)).toInt then (-5) else mst k (Sz a) (En a) (nxt Nx a) (2 * Sz a)) ∧ w' = w) := by
  obtain ⟨⟨pz, wy, fi, se, ho, lx, ly, ts, tS, cs, av, lz, hz1, nl, nh, ce, qd, g_mo⟩, g0, g1, g2, g3, g4, ⟨PS, g5⟩, ⟨PT, g6⟩, ⟨L, g7⟩, ⟨Z, g8⟩, ⟨LO, g9⟩, ⟨LT, g10⟩, ⟨IC, g11⟩, ⟨RW, g12⟩, ⟨CO, g13⟩, ⟨CT, g14⟩, ⟨SP, g15⟩, ⟨NU, g16⟩, ⟨OR, g17⟩, ⟨NN, g18⟩, ⟨LD, g19⟩, ⟨HD, g20⟩, ⟨CN, g21⟩, ⟨IS, g22⟩, ⟨QU, g23⟩, ⟨CF, g24⟩, ⟨CB, g25⟩, ⟨WY, g26⟩⟩ := hR
  have hmn := hmc.1
  refine Mi_mono (c_Ref_longesty (l := l) (D := D) (t := t) (w := w) (sz := sz) g_mo g0 g1 g2 hmc.1 ha (hmc.2 a ha).1) ?_
  rintro r w' hp
  rcases hp with ⟨j0, h0, e1, e2⟩ | ⟨h0, e1, e2⟩ | ⟨j0, h0, e1, e2⟩
  · exact ⟨e1.trans (tie_long1 (hmc.2 a ha).1 h0.1 h0.2.1 h0.2.2).symm, e2⟩
  · exact ⟨e1.trans (tie_long2 (hmc.2 a ha).1 h0).symm, e2⟩
  · exact ⟨e1.trans (tie_long3 (hmc.2 a ha).1 h0.1 h0.2.1 h0.2.2).symm, e2⟩
set_option maxHeartbeats 4000000 in
set_option maxRecDepth 100000 in
theorem r_of {l : Launch} {D : va_G} {t : Nat → ClassId} {w : wf_W} {sz : Nat} {mo : Nat} {A : Nat → Nat} {k mn cz tz ca : Nat} {cl tl Sz En Nx : Nat → Nat} {q : Int32} (hRN : nd (RL mo A)) (hk : 2 ≤ k ∧ k ≤ 4) (hmc : mcO k mn Sz En Nx) (hcz : cz ≤ 100) (htz : tz ≤ 100) (hck : ∀ i, i < cz → cl i < k) (hR : RSt t w mo A k mn cz tz ca cl tl Sz En Nx)  : Mi l y_Ref_of b_Ref_of 2 (some .int) 0 0 0 0 D t w sz [.ref mo, .int q] (fun r w' => r = (if q.toInt = 0 then nI mn else if q.toInt = 1 then nI cz else if q.toInt = 2 then nI ca else if q.toInt = 3 then nI k else (-2)) ∧ w' = w) := by
  obtain ⟨⟨pz, wy, fi, se, ho, lx, ly, ts, tS, cs, av, lz, hz1, nl, nh, ce, qd, g_mo⟩, g0, g1, g2, g3, g4, ⟨PS, g5⟩, ⟨PT, g6⟩, ⟨L, g7⟩, ⟨Z, g8⟩, ⟨LO, g9⟩, ⟨LT, g10⟩, ⟨IC, g11⟩, ⟨RW, g12⟩, ⟨CO, g13⟩, ⟨CT, g14⟩, ⟨SP, g15⟩, ⟨NU, g16⟩, ⟨OR, g17⟩, ⟨NN, g18⟩, ⟨LD, g19⟩, ⟨HD, g20⟩, ⟨CN, g21⟩, ⟨IS, g22⟩, ⟨QU, g23⟩, ⟨CF, g24⟩, ⟨CB, g25⟩, ⟨WY, g26⟩⟩ := hR
  have hmn := hmc.1
  refine Mi_mono (c_Ref_of (l := l) (D := D) (t := t) (w := w) (sz := sz) g_mo) ?_
  rintro r w' hp
  obtain ⟨e1, e2⟩ := hp
  exact ⟨e1.trans (rfl), e2⟩
set_option maxHeartbeats 4000000 in
set_option maxRecDepth 100000 in
theorem k_of {l : Launch} {D : va_G} {t : Nat → ClassId} {w : wf_W} {sz : Nat} {C pa sa : Nat → Nat} {k mn cz tz ca : Nat} {cl tl Sz En Nx : Nat → Nat} {q : Int32} (hAD : AD C pa sa) (hk : 2 ≤ k ∧ k ≤ 4) (hmc : mcO k mn Sz En Nx) (hcz : cz ≤ 100) (htz : tz ≤ 100) (hck : ∀ i, i < cz → cl i < k) (hC : CSt t w C pa sa k mn cz tz ca cl tl Sz En Nx)  : Mi l y_TM_of b_TM_of 2 (some .int) 0 0 0 0 D t w sz [.ref (C 0), .int q] (fun r w' => r = (if q.toInt = 0 then nI mn else if q.toInt = 1 then nI cz else if q.toInt = 2 then nI ca else if q.toInt = 3 then nI k else (-2)) ∧ w' = w) := by
  obtain ⟨h0, h1, ⟨cof, h2, h2c⟩, h3, ⟨ltf, h4, h4c⟩, ⟨mq, h5, h5c⟩, ⟨z, h6⟩, ⟨F, h7⟩, ⟨L, h8⟩, ⟨Z, h9⟩, ⟨K, h10⟩, ⟨Fi, h11⟩, ⟨Mk, h12⟩, ⟨nM, EM, h13⟩, ⟨fM, h14⟩, ⟨nC, EC, h15⟩, ⟨fC, h16⟩, ⟨b, en, h17⟩, ⟨G, h18⟩, ⟨Cr, h19⟩, ⟨Zc, h20⟩, ⟨op, h21⟩, ⟨zq, h22⟩, ⟨tqf, h23⟩, ⟨fb, h24, h24c⟩, h25, ⟨zl, h26, h26c⟩, ⟨lf, h27⟩, ⟨zh, h28, h28c⟩, ⟨hf, h29⟩, ⟨qz, h30⟩, ⟨Qu, h31⟩, ⟨cf, h32⟩, h33, ⟨Wy, h34⟩, ⟨ff, hpl, hmO⟩, hfree⟩ := hC
  have hmn := hmc.1
  refine Mi_mono (c_TM_of (l := l) (D := D) (t := t) (w := w) (sz := sz) h0 h1) ?_
  rintro r w' hp
  obtain ⟨e1, e2⟩ := hp
  exact ⟨e1.trans (rfl), e2⟩
set_option maxHeartbeats 4000000 in
set_option maxRecDepth 100000 in
theorem k_told {l : Launch} {D : va_G} {t : Nat → ClassId} {w : wf_W} {sz : Nat} {C pa sa : Nat → Nat} {k mn cz tz ca : Nat} {cl tl Sz En Nx : Nat → Nat} {q : Int32} (hAD : AD C pa sa) (hk : 2 ≤ k ∧ k ≤ 4) (hmc : mcO k mn Sz En Nx) (hcz : cz ≤ 100) (htz : tz ≤ 100) (hck : ∀ i, i < cz → cl i < k) (hC : CSt t w C pa sa k mn cz tz ca cl tl Sz En Nx)  : Mi l y_TM_told b_TM_told 2 (some .int) 1 21 0 0 D t w sz [.ref (C 0), .int q] (fun r w' => r = (if 0 ≤ q.toInt ∧ q.toInt < tz then nI (tl q.toInt.toNat) else (-1)) ∧ w' = w) := by
  obtain ⟨h0, h1, ⟨cof, h2, h2c⟩, h3, ⟨ltf, h4, h4c⟩, ⟨mq, h5, h5c⟩, ⟨z, h6⟩, ⟨F, h7⟩, ⟨L, h8⟩, ⟨Z, h9⟩, ⟨K, h10⟩, ⟨Fi, h11⟩, ⟨Mk, h12⟩, ⟨nM, EM, h13⟩, ⟨fM, h14⟩, ⟨nC, EC, h15⟩, ⟨fC, h16⟩, ⟨b, en, h17⟩, ⟨G, h18⟩, ⟨Cr, h19⟩, ⟨Zc, h20⟩, ⟨op, h21⟩, ⟨zq, h22⟩, ⟨tqf, h23⟩, ⟨fb, h24, h24c⟩, h25, ⟨zl, h26, h26c⟩, ⟨lf, h27⟩, ⟨zh, h28, h28c⟩, ⟨hf, h29⟩, ⟨qz, h30⟩, ⟨Qu, h31⟩, ⟨cf, h32⟩, h33, ⟨Wy, h34⟩, ⟨ff, hpl, hmO⟩, hfree⟩ := hC
  have hmn := hmc.1
  refine Mi_mono (c_TM_told (l := l) (D := D) (t := t) (w := w) (sz := sz) h0 h3 h4 htz) ?_
  rintro r w' hp
  obtain ⟨e1, e2⟩ := hp
  exact ⟨e1.trans (by by_cases e9 : 0 ≤ q.toInt ∧ q.toInt < tz; (rw [if_pos e9, if_pos e9]; exact h4c _ (by omega)); rw [if_neg e9, if_neg e9]), e2⟩
set_option maxHeartbeats 4000000 in
set_option maxRecDepth 100000 in
theorem r_toldy {l : Launch} {D : va_G} {t : Nat → ClassId} {w : wf_W} {sz : Nat} {mo : Nat} {A : Nat → Nat} {k mn cz tz ca : Nat} {cl tl Sz En Nx : Nat → Nat} {a : Nat} (hRN : nd (RL mo A)) (hk : 2 ≤ k ∧ k ≤ 4) (hmc : mcO k mn Sz En Nx) (hcz : cz ≤ 100) (htz : tz ≤ 100) (hck : ∀ i, i < cz → cl i < k) (hR : RSt t w mo A k mn cz tz ca cl tl Sz En Nx) (hat : a < tz) : Mi l y_Ref_told b_Ref_told 2 (some .int) 1 25 0 0 D t w sz [.ref mo, .int (nI a)] (fun r w' => r = nI (tl a) ∧ w' = w) := by
  obtain ⟨⟨pz, wy, fi, se, ho, lx, ly, ts, tS, cs, av, lz, hz1, nl, nh, ce, qd, g_mo⟩, g0, g1, g2, g3, g4, ⟨PS, g5⟩, ⟨PT, g6⟩, ⟨L, g7⟩, ⟨Z, g8⟩, ⟨LO, g9⟩, ⟨LT, g10⟩, ⟨IC, g11⟩, ⟨RW, g12⟩, ⟨CO, g13⟩, ⟨CT, g14⟩, ⟨SP, g15⟩, ⟨NU, g16⟩, ⟨OR, g17⟩, ⟨NN, g18⟩, ⟨LD, g19⟩, ⟨HD, g20⟩, ⟨CN, g21⟩, ⟨IS, g22⟩, ⟨QU, g23⟩, ⟨CF, g24⟩, ⟨CB, g25⟩, ⟨WY, g26⟩⟩ := hR
  have hmn := hmc.1
  refine Mi_mono (c_Ref_toldy (l := l) (D := D) (t := t) (w := w) (sz := sz) g_mo g4 hat htz) ?_
  rintro r w' hp
  obtain ⟨e1, e2⟩ := hp
  exact ⟨e1.trans (rfl), e2⟩
set_option maxHeartbeats 4000000 in
set_option maxRecDepth 100000 in
theorem r_notb {l : Launch} {D : va_G} {t : Nat → ClassId} {w : wf_W} {sz : Nat} {mo : Nat} {A : Nat → Nat} {k mn cz tz ca : Nat} {cl tl Sz En Nx : Nat → Nat} {q : Int32} (hRN : nd (RL mo A)) (hk : 2 ≤ k ∧ k ≤ 4) (hmc : mcO k mn Sz En Nx) (hcz : cz ≤ 100) (htz : tz ≤ 100) (hck : ∀ i, i < cz → cl i < k) (hR : RSt t w mo A k mn cz tz ca cl tl Sz En Nx) (hbd : ¬ (0 ≤ q.toInt ∧ q.toInt < mn)) : Mi l y_Ref_not b_Ref_not 2 (some .int) 2 46 0 0 D t w sz [.ref mo, .int q] (fun r w' => r = (-2) ∧ w' = w) := by
  obtain ⟨⟨pz, wy, fi, se, ho, lx, ly, ts, tS, cs, av, lz, hz1, nl, nh, ce, qd, g_mo⟩, g0, g1, g2, g3, g4, ⟨PS, g5⟩, ⟨PT, g6⟩, ⟨L, g7⟩, ⟨Z, g8⟩, ⟨LO, g9⟩, ⟨LT, g10⟩, ⟨IC, g11⟩, ⟨RW, g12⟩, ⟨CO, g13⟩, ⟨CT, g14⟩, ⟨SP, g15⟩, ⟨NU, g16⟩, ⟨OR, g17⟩, ⟨NN, g18⟩, ⟨LD, g19⟩, ⟨HD, g20⟩, ⟨CN, g21⟩, ⟨IS, g22⟩, ⟨QU, g23⟩, ⟨CF, g24⟩, ⟨CB, g25⟩, ⟨WY, g26⟩⟩ := hR
  have hmn := hmc.1
  refine Mi_mono (c_Ref_notb (l := l) (D := D) (t := t) (w := w) (sz := sz) g_mo hmc.1 hbd) ?_
  rintro r w' hp
  obtain ⟨e1, e2⟩ := hp
  exact ⟨e1.trans (rfl), e2⟩
set_option maxHeartbeats 4000000 in
set_option maxRecDepth 100000 in
theorem k_notb {l : Launch} {D : va_G} {t : Nat → ClassId} {w : wf_W} {sz : Nat} {C pa sa : Nat → Nat} {k mn cz tz ca : Nat} {cl tl Sz En Nx : Nat → Nat} {q : Int32} (hAD : AD C pa sa) (hk : 2 ≤ k ∧ k ≤ 4) (hmc : mcO k mn Sz En Nx) (hcz : cz ≤ 100) (htz : tz ≤ 100) (hck : ∀ i, i < cz → cl i < k) (hC : CSt t w C pa sa k mn cz tz ca cl tl Sz En Nx) (hbd : ¬ (0 ≤ q.toInt ∧ q.toInt < mn)) : Mi l y_TM_not b_TM_not 2 (some .int) 1 21 0 0 D t w sz [.ref (C 0), .int q] (fun r w' => r = (-2) ∧ w' = w) := by
  obtain ⟨h0, h1, ⟨cof, h2, h2c⟩, h3, ⟨ltf, h4, h4c⟩, ⟨mq, h5, h5c⟩, ⟨z, h6⟩, ⟨F, h7⟩, ⟨L, h8⟩, ⟨Z, h9⟩, ⟨K, h10⟩, ⟨Fi, h11⟩, ⟨Mk, h12⟩, ⟨nM, EM, h13⟩, ⟨fM, h14⟩, ⟨nC, EC, h15⟩, ⟨fC, h16⟩, ⟨b, en, h17⟩, ⟨G, h18⟩, ⟨Cr, h19⟩, ⟨Zc, h20⟩, ⟨op, h21⟩, ⟨zq, h22⟩, ⟨tqf, h23⟩, ⟨fb, h24, h24c⟩, h25, ⟨zl, h26, h26c⟩, ⟨lf, h27⟩, ⟨zh, h28, h28c⟩, ⟨hf, h29⟩, ⟨qz, h30⟩, ⟨Qu, h31⟩, ⟨cf, h32⟩, h33, ⟨Wy, h34⟩, ⟨ff, hpl, hmO⟩, hfree⟩ := hC
  have hmn := hmc.1
  refine Mi_mono (c_TM_notb (l := l) (D := D) (t := t) (w := w) (sz := sz) h0 hmc.1 hbd) ?_
  rintro r w' hp
  obtain ⟨e1, e2⟩ := hp
  exact ⟨e1.trans (rfl), e2⟩
set_option maxHeartbeats 4000000 in
set_option maxRecDepth 100000 in
theorem r_statesb {l : Launch} {D : va_G} {t : Nat → ClassId} {w : wf_W} {sz : Nat} {mo : Nat} {A : Nat → Nat} {k mn cz tz ca : Nat} {cl tl Sz En Nx : Nat → Nat} {q : Int32} (hRN : nd (RL mo A)) (hk : 2 ≤ k ∧ k ≤ 4) (hmc : mcO k mn Sz En Nx) (hcz : cz ≤ 100) (htz : tz ≤ 100) (hck : ∀ i, i < cz → cl i < k) (hR : RSt t w mo A k mn cz tz ca cl tl Sz En Nx) (hbd : ¬ (0 ≤ q.toInt ∧ q.toInt < mn)) : Mi l y_Ref_states b_Ref_states 2 (some .int) 2 46 0 0 D t w sz [.ref mo, .int q] (fun r w' => r = (-2) ∧ w' = w) := by
  obtain ⟨⟨pz, wy, fi, se, ho, lx, ly, ts, tS, cs, av, lz, hz1, nl, nh, ce, qd, g_mo⟩, g0, g1, g2, g3, g4, ⟨PS, g5⟩, ⟨PT, g6⟩, ⟨L, g7⟩, ⟨Z, g8⟩, ⟨LO, g9⟩, ⟨LT, g10⟩, ⟨IC, g11⟩, ⟨RW, g12⟩, ⟨CO, g13⟩, ⟨CT, g14⟩, ⟨SP, g15⟩, ⟨NU, g16⟩, ⟨OR, g17⟩, ⟨NN, g18⟩, ⟨LD, g19⟩, ⟨HD, g20⟩, ⟨CN, g21⟩, ⟨IS, g22⟩, ⟨QU, g23⟩, ⟨CF, g24⟩, ⟨CB, g25⟩, ⟨WY, g26⟩⟩ := hR
  have hmn := hmc.1
  refine Mi_mono (c_Ref_statesb (l := l) (D := D) (t := t) (w := w) (sz := sz) g_mo hmc.1 hbd) ?_
  rintro r w' hp
  obtain ⟨e1, e2⟩ := hp
  exact ⟨e1.trans (rfl), e2⟩
set_option maxHeartbeats 4000000 in
set_option maxRecDepth 100000 in
theorem k_statesb {l : Launch} {D : va_G} {t : Nat → ClassId} {w : wf_W} {sz : Nat} {C pa sa : Nat → Nat} {k mn cz tz ca : Nat} {cl tl Sz En Nx : Nat → Nat} {q : Int32} (hAD : AD C pa sa) (hk : 2 ≤ k ∧ k ≤ 4) (hmc : mcO k mn Sz En Nx) (hcz : cz ≤ 100) (htz : tz ≤ 100) (hck : ∀ i, i < cz → cl i < k) (hC : CSt t w C pa sa k mn cz tz ca cl tl Sz En Nx) (hbd : ¬ (0 ≤ q.toInt ∧ q.toInt < mn)) : Mi l y_TM_states b_TM_states 2 (some .int) 1 21 0 0 D t w sz [.ref (C 0), .int q] (fun r w' => r = (-2) ∧ w' = w) := by
  obtain ⟨h0, h1, ⟨cof, h2, h2c⟩, h3, ⟨ltf, h4, h4c⟩, ⟨mq, h5, h5c⟩, ⟨z, h6⟩, ⟨F, h7⟩, ⟨L, h8⟩, ⟨Z, h9⟩, ⟨K, h10⟩, ⟨Fi, h11⟩, ⟨Mk, h12⟩, ⟨nM, EM, h13⟩, ⟨fM, h14⟩, ⟨nC, EC, h15⟩, ⟨fC, h16⟩, ⟨b, en, h17⟩, ⟨G, h18⟩, ⟨Cr, h19⟩, ⟨Zc, h20⟩, ⟨op, h21⟩, ⟨zq, h22⟩, ⟨tqf, h23⟩, ⟨fb, h24, h24c⟩, h25, ⟨zl, h26, h26c⟩, ⟨lf, h27⟩, ⟨zh, h28, h28c⟩, ⟨hf, h29⟩, ⟨qz, h30⟩, ⟨Qu, h31⟩, ⟨cf, h32⟩, h33, ⟨Wy, h34⟩, ⟨ff, hpl, hmO⟩, hfree⟩ := hC
  have hmn := hmc.1
  refine Mi_mono (c_TM_statesb (l := l) (D := D) (t := t) (w := w) (sz := sz) h0 hmc.1 hbd) ?_
  rintro r w' hp
  obtain ⟨e1, e2⟩ := hp
  exact ⟨e1.trans (rfl), e2⟩
set_option maxHeartbeats 4000000 in
set_option maxRecDepth 100000 in
theorem r_hasb {l : Launch} {D : va_G} {t : Nat → ClassId} {w : wf_W} {sz : Nat} {mo : Nat} {A : Nat → Nat} {k mn cz tz ca : Nat} {cl tl Sz En Nx : Nat → Nat} {q : Int32} (hRN : nd (RL mo A)) (hk : 2 ≤ k ∧ k ≤ 4) (hmc : mcO k mn Sz En Nx) (hcz : cz ≤ 100) (htz : tz ≤ 100) (hck : ∀ i, i < cz → cl i < k) (hR : RSt t w mo A k mn cz tz ca cl tl Sz En Nx) (hbd : ¬ (0 ≤ q.toInt ∧ q.toInt < mn)) : Mi l y_Ref_has b_Ref_has 4 (some .int) 2 46 0 0 D t w sz [.ref mo, .int q] (fun r w' => r = (-2) ∧ w' = w) := by
  obtain ⟨⟨pz, wy, fi, se, ho, lx, ly, ts, tS, cs, av, lz, hz1, nl, nh, ce, qd, g_mo⟩, g0, g1, g2, g3, g4, ⟨PS, g5⟩, ⟨PT, g6⟩, ⟨L, g7⟩, ⟨Z, g8⟩, ⟨LO, g9⟩, ⟨LT, g10⟩, ⟨IC, g11⟩, ⟨RW, g12⟩, ⟨CO, g13⟩, ⟨CT, g14⟩, ⟨SP, g15⟩, ⟨NU, g16⟩, ⟨OR, g17⟩, ⟨NN, g18⟩, ⟨LD, g19⟩, ⟨HD, g20⟩, ⟨CN, g21⟩, ⟨IS, g22⟩, ⟨QU, g23⟩, ⟨CF, g24⟩, ⟨CB, g25⟩, ⟨WY, g26⟩⟩ := hR
  have hmn := hmc.1
  refine Mi_mono (c_Ref_hasb (l := l) (D := D) (t := t) (w := w) (sz := sz) g_mo hmc.1 hbd) ?_
  rintro r w' hp
  obtain ⟨e1, e2⟩ := hp
  exact ⟨e1.trans (rfl), e2⟩
set_option maxHeartbeats 4000000 in
set_option maxRecDepth 100000 in
theorem k_hasb {l : Launch} {D : va_G} {t : Nat → ClassId} {w : wf_W} {sz : Nat} {C pa sa : Nat → Nat} {k mn cz tz ca : Nat} {cl tl Sz En Nx : Nat → Nat} {q : Int32} (hAD : AD C pa sa) (hk : 2 ≤ k ∧ k ≤ 4) (hmc : mcO k mn Sz En Nx) (hcz : cz ≤ 100) (htz : tz ≤ 100) (hck : ∀ i, i < cz → cl i < k) (hC : CSt t w C pa sa k mn cz tz ca cl tl Sz En Nx) (hbd : ¬ (0 ≤ q.toInt ∧ q.toInt < mn)) : Mi l y_TM_has b_TM_has 3 (some .int) 1 21 0 0 D t w sz [.ref (C 0), .int q] (fun r w' => r = (-2) ∧ w' = w) := by
  obtain ⟨h0, h1, ⟨cof, h2, h2c⟩, h3, ⟨ltf, h4, h4c⟩, ⟨mq, h5, h5c⟩, ⟨z, h6⟩, ⟨F, h7⟩, ⟨L, h8⟩, ⟨Z, h9⟩, ⟨K, h10⟩, ⟨Fi, h11⟩, ⟨Mk, h12⟩, ⟨nM, EM, h13⟩, ⟨fM, h14⟩, ⟨nC, EC, h15⟩, ⟨fC, h16⟩, ⟨b, en, h17⟩, ⟨G, h18⟩, ⟨Cr, h19⟩, ⟨Zc, h20⟩, ⟨op, h21⟩, ⟨zq, h22⟩, ⟨tqf, h23⟩, ⟨fb, h24, h24c⟩, h25, ⟨zl, h26, h26c⟩, ⟨lf, h27⟩, ⟨zh, h28, h28c⟩, ⟨hf, h29⟩, ⟨qz, h30⟩, ⟨Qu, h31⟩, ⟨cf, h32⟩, h33, ⟨Wy, h34⟩, ⟨ff, hpl, hmO⟩, hfree⟩ := hC
  have hmn := hmc.1
  refine Mi_mono (c_TM_hasb (l := l) (D := D) (t := t) (w := w) (sz := sz) h0 hmc.1 hbd) ?_
  rintro r w' hp
  obtain ⟨e1, e2⟩ := hp
  exact ⟨e1.trans (rfl), e2⟩
set_option maxHeartbeats 4000000 in
set_option maxRecDepth 100000 in
theorem r_longestb {l : Launch} {D : va_G} {t : Nat → ClassId} {w : wf_W} {sz : Nat} {mo : Nat} {A : Nat → Nat} {k mn cz tz ca : Nat} {cl tl Sz En Nx : Nat → Nat} {q : Int32} (hRN : nd (RL mo A)) (hk : 2 ≤ k ∧ k ≤ 4) (hmc : mcO k mn Sz En Nx) (hcz : cz ≤ 100) (htz : tz ≤ 100) (hck : ∀ i, i < cz → cl i < k) (hR : RSt t w mo A k mn cz tz ca cl tl Sz En Nx) (hbd : ¬ (0 ≤ q.toInt ∧ q.toInt < mn)) : Mi l y_Ref_longest b_Ref_longest 6 (some .int) 2 46 0 0 D t w sz [.ref mo, .int q] (fun r w' => r = (-2) ∧ w' = w) := by
  obtain ⟨⟨pz, wy, fi, se, ho, lx, ly, ts, tS, cs, av, lz, hz1, nl, nh, ce, qd, g_mo⟩, g0, g1, g2, g3, g4, ⟨PS, g5⟩, ⟨PT, g6⟩, ⟨L, g7⟩, ⟨Z, g8⟩, ⟨LO, g9⟩, ⟨LT, g10⟩, ⟨IC, g11⟩, ⟨RW, g12⟩, ⟨CO, g13⟩, ⟨CT, g14⟩, ⟨SP, g15⟩, ⟨NU, g16⟩, ⟨OR, g17⟩, ⟨NN, g18⟩, ⟨LD, g19⟩, ⟨HD, g20⟩, ⟨CN, g21⟩, ⟨IS, g22⟩, ⟨QU, g23⟩, ⟨CF, g24⟩, ⟨CB, g25⟩, ⟨WY, g26⟩⟩ := hR
  have hmn := hmc.1
  refine Mi_mono (c_Ref_longestb (l := l) (D := D) (t := t) (w := w) (sz := sz) g_mo hmc.1 hbd) ?_
  rintro r w' hp
  obtain ⟨e1, e2⟩ := hp
  exact ⟨e1.trans (rfl), e2⟩
set_option maxHeartbeats 4000000 in
set_option maxRecDepth 100000 in
theorem k_longestb {l : Launch} {D : va_G} {t : Nat → ClassId} {w : wf_W} {sz : Nat} {C pa sa : Nat → Nat} {k mn cz tz ca : Nat} {cl tl Sz En Nx : Nat → Nat} {q : Int32} (hAD : AD C pa sa) (hk : 2 ≤ k ∧ k ≤ 4) (hmc : mcO k mn Sz En Nx) (hcz : cz ≤ 100) (htz : tz ≤ 100) (hck : ∀ i, i < cz → cl i < k) (hC : CSt t w C pa sa k mn cz tz ca cl tl Sz En Nx) (hbd : ¬ (0 ≤ q.toInt ∧ q.toInt < mn)) : Mi l y_TM_longest b_TM_longest 2 (some .int) 1 21 0 0 D t w sz [.ref (C 0), .int q] (fun r w' => r = (-2) ∧ w' = w) := by
  obtain ⟨h0, h1, ⟨cof, h2, h2c⟩, h3, ⟨ltf, h4, h4c⟩, ⟨mq, h5, h5c⟩, ⟨z, h6⟩, ⟨F, h7⟩, ⟨L, h8⟩, ⟨Z, h9⟩, ⟨K, h10⟩, ⟨Fi, h11⟩, ⟨Mk, h12⟩, ⟨nM, EM, h13⟩, ⟨fM, h14⟩, ⟨nC, EC, h15⟩, ⟨fC, h16⟩, ⟨b, en, h17⟩, ⟨G, h18⟩, ⟨Cr, h19⟩, ⟨Zc, h20⟩, ⟨op, h21⟩, ⟨zq, h22⟩, ⟨tqf, h23⟩, ⟨fb, h24, h24c⟩, h25, ⟨zl, h26, h26c⟩, ⟨lf, h27⟩, ⟨zh, h28, h28c⟩, ⟨hf, h29⟩, ⟨qz, h30⟩, ⟨Qu, h31⟩, ⟨cf, h32⟩, h33, ⟨Wy, h34⟩, ⟨ff, hpl, hmO⟩, hfree⟩ := hC
  have hmn := hmc.1
  refine Mi_mono (c_TM_longestb (l := l) (D := D) (t := t) (w := w) (sz := sz) h0 hmc.1 hbd) ?_
  rintro r w' hp
  obtain ⟨e1, e2⟩ := hp
  exact ⟨e1.trans (rfl), e2⟩
set_option maxHeartbeats 4000000 in
set_option maxRecDepth 100000 in
theorem r_manyb {l : Launch} {D : va_G} {t : Nat → ClassId} {w : wf_W} {sz : Nat} {mo : Nat} {A : Nat → Nat} {k mn cz tz ca : Nat} {cl tl Sz En Nx : Nat → Nat} {q : Int32} (hRN : nd (RL mo A)) (hk : 2 ≤ k ∧ k ≤ 4) (hmc : mcO k mn Sz En Nx) (hcz : cz ≤ 100) (htz : tz ≤ 100) (hck : ∀ i, i < cz → cl i < k) (hR : RSt t w mo A k mn cz tz ca cl tl Sz En Nx) (hbd : ¬ (0 ≤ q.toInt ∧ q.toInt < mn)) : Mi l y_Ref_many b_Ref_many 2 (some .int) 2 46 0 0 D t w sz [.ref mo, .int q] (fun r w' => r = (-2) ∧ w' = w) := by
  obtain ⟨⟨pz, wy, fi, se, ho, lx, ly, ts, tS, cs, av, lz, hz1, nl, nh, ce, qd, g_mo⟩, g0, g1, g2, g3, g4, ⟨PS, g5⟩, ⟨PT, g6⟩, ⟨L, g7⟩, ⟨Z, g8⟩, ⟨LO, g9⟩, ⟨LT, g10⟩, ⟨IC, g11⟩, ⟨RW, g12⟩, ⟨CO, g13⟩, ⟨CT, g14⟩, ⟨SP, g15⟩, ⟨NU, g16⟩, ⟨OR, g17⟩, ⟨NN, g18⟩, ⟨LD, g19⟩, ⟨HD, g20⟩, ⟨CN, g21⟩, ⟨IS, g22⟩, ⟨QU, g23⟩, ⟨CF, g24⟩, ⟨CB, g25⟩, ⟨WY, g26⟩⟩ := hR
  have hmn := hmc.1
  refine Mi_mono (c_Ref_manyb (l := l) (D := D) (t := t) (w := w) (sz := sz) g_mo hmc.1 hbd) ?_
  rintro r w' hp
  obtain ⟨e1, e2⟩ := hp
  exact ⟨e1.trans (rfl), e2⟩
set_option maxHeartbeats 4000000 in
set_option maxRecDepth 100000 in
theorem k_manyb {l : Launch} {D : va_G} {t : Nat → ClassId} {w : wf_W} {sz : Nat} {C pa sa : Nat → Nat} {k mn cz tz ca : Nat} {cl tl Sz En Nx : Nat → Nat} {q : Int32} (hAD : AD C pa sa) (hk : 2 ≤ k ∧ k ≤ 4) (hmc : mcO k mn Sz En Nx) (hcz : cz ≤ 100) (htz : tz ≤ 100) (hck : ∀ i, i < cz → cl i < k) (hC : CSt t w C pa sa k mn cz tz ca cl tl Sz En Nx) (hbd : ¬ (0 ≤ q.toInt ∧ q.toInt < mn)) : Mi l y_TM_many b_TM_many 2 (some .int) 1 21 0 0 D t w sz [.ref (C 0), .int q] (fun r w' => r = (-2) ∧ w' = w) := by
  obtain ⟨h0, h1, ⟨cof, h2, h2c⟩, h3, ⟨ltf, h4, h4c⟩, ⟨mq, h5, h5c⟩, ⟨z, h6⟩, ⟨F, h7⟩, ⟨L, h8⟩, ⟨Z, h9⟩, ⟨K, h10⟩, ⟨Fi, h11⟩, ⟨Mk, h12⟩, ⟨nM, EM, h13⟩, ⟨fM, h14⟩, ⟨nC, EC, h15⟩, ⟨fC, h16⟩, ⟨b, en, h17⟩, ⟨G, h18⟩, ⟨Cr, h19⟩, ⟨Zc, h20⟩, ⟨op, h21⟩, ⟨zq, h22⟩, ⟨tqf, h23⟩, ⟨fb, h24, h24c⟩, h25, ⟨zl, h26, h26c⟩, ⟨lf, h27⟩, ⟨zh, h28, h28c⟩, ⟨hf, h29⟩, ⟨qz, h30⟩, ⟨Qu, h31⟩, ⟨cf, h32⟩, h33, ⟨Wy, h34⟩, ⟨ff, hpl, hmO⟩, hfree⟩ := hC
  have hmn := hmc.1
  refine Mi_mono (c_TM_manyb (l := l) (D := D) (t := t) (w := w) (sz := sz) h0 hmc.1 hbd) ?_
  rintro r w' hp
  obtain ⟨e1, e2⟩ := hp
  exact ⟨e1.trans (rfl), e2⟩
set_option maxHeartbeats 4000000 in
set_option maxRecDepth 100000 in
theorem r_turnb {l : Launch} {D : va_G} {t : Nat → ClassId} {w : wf_W} {sz : Nat} {mo : Nat} {A : Nat → Nat} {k mn cz tz ca : Nat} {cl tl Sz En Nx : Nat → Nat} {q : Int32} (hRN : nd (RL mo A)) (hk : 2 ≤ k ∧ k ≤ 4) (hmc : mcO k mn Sz En Nx) (hcz : cz ≤ 100) (htz : tz ≤ 100) (hck : ∀ i, i < cz → cl i < k) (hR : RSt t w mo A k mn cz tz ca cl tl Sz En Nx) (hbd : ¬ (0 ≤ q.toInt ∧ q.toInt < mn)) : Mi l y_Ref_turn b_Ref_turn 2 (some .int) 2 46 0 0 D t w sz [.ref mo, .int q] (fun r w' => r = (-2) ∧ w' = w) := by
  obtain ⟨⟨pz, wy, fi, se, ho, lx, ly, ts, tS, cs, av, lz, hz1, nl, nh, ce, qd, g_mo⟩, g0, g1, g2, g3, g4, ⟨PS, g5⟩, ⟨PT, g6⟩, ⟨L, g7⟩, ⟨Z, g8⟩, ⟨LO, g9⟩, ⟨LT, g10⟩, ⟨IC, g11⟩, ⟨RW, g12⟩, ⟨CO, g13⟩, ⟨CT, g14⟩, ⟨SP, g15⟩, ⟨NU, g16⟩, ⟨OR, g17⟩, ⟨NN, g18⟩, ⟨LD, g19⟩, ⟨HD, g20⟩, ⟨CN, g21⟩, ⟨IS, g22⟩, ⟨QU, g23⟩, ⟨CF, g24⟩, ⟨CB, g25⟩, ⟨WY, g26⟩⟩ := hR
  have hmn := hmc.1
  refine Mi_mono (c_Ref_turnb (l := l) (D := D) (t := t) (w := w) (sz := sz) g_mo hmc.1 hbd) ?_
  rintro r w' hp
  obtain ⟨e1, e2⟩ := hp
  exact ⟨e1.trans (rfl), e2⟩
set_option maxHeartbeats 4000000 in
set_option maxRecDepth 100000 in
theorem k_turnb {l : Launch} {D : va_G} {t : Nat → ClassId} {w : wf_W} {sz : Nat} {C pa sa : Nat → Nat} {k mn cz tz ca : Nat} {cl tl Sz En Nx : Nat → Nat} {q : Int32} (hAD : AD C pa sa) (hk : 2 ≤ k ∧ k ≤ 4) (hmc : mcO k mn Sz En Nx) (hcz : cz ≤ 100) (htz : tz ≤ 100) (hck : ∀ i, i < cz → cl i < k) (hC : CSt t w C pa sa k mn cz tz ca cl tl Sz En Nx) (hbd : ¬ (0 ≤ q.toInt ∧ q.toInt < mn)) : Mi l y_TM_turn b_TM_turn 2 (some .int) 1 21 0 0 D t w sz [.ref (C 0), .int q] (fun r w' => r = (-2) ∧ w' = w) := by
  obtain ⟨h0, h1, ⟨cof, h2, h2c⟩, h3, ⟨ltf, h4, h4c⟩, ⟨mq, h5, h5c⟩, ⟨z, h6⟩, ⟨F, h7⟩, ⟨L, h8⟩, ⟨Z, h9⟩, ⟨K, h10⟩, ⟨Fi, h11⟩, ⟨Mk, h12⟩, ⟨nM, EM, h13⟩, ⟨fM, h14⟩, ⟨nC, EC, h15⟩, ⟨fC, h16⟩, ⟨b, en, h17⟩, ⟨G, h18⟩, ⟨Cr, h19⟩, ⟨Zc, h20⟩, ⟨op, h21⟩, ⟨zq, h22⟩, ⟨tqf, h23⟩, ⟨fb, h24, h24c⟩, h25, ⟨zl, h26, h26c⟩, ⟨lf, h27⟩, ⟨zh, h28, h28c⟩, ⟨hf, h29⟩, ⟨qz, h30⟩, ⟨Qu, h31⟩, ⟨cf, h32⟩, h33, ⟨Wy, h34⟩, ⟨ff, hpl, hmO⟩, hfree⟩ := hC
  have hmn := hmc.1
  refine Mi_mono (c_TM_turnb (l := l) (D := D) (t := t) (w := w) (sz := sz) h0 hmc.1 hbd) ?_
  rintro r w' hp
  obtain ⟨e1, e2⟩ := hp
  exact ⟨e1.trans (rfl), e2⟩
set_option maxHeartbeats 4000000 in
set_option maxRecDepth 100000 in
theorem r_joinb {l : Launch} {D : va_G} {t : Nat → ClassId} {w : wf_W} {sz : Nat} {mo : Nat} {A : Nat → Nat} {k mn cz tz ca : Nat} {cl tl Sz En Nx : Nat → Nat} {q q2 : Int32} (hRN : nd (RL mo A)) (hk : 2 ≤ k ∧ k ≤ 4) (hmc : mcO k mn Sz En Nx) (hcz : cz ≤ 100) (htz : tz ≤ 100) (hck : ∀ i, i < cz → cl i < k) (hR : RSt t w mo A k mn cz tz ca cl tl Sz En Nx) (hbd : ¬ ((0 ≤ q.toInt ∧ q.toInt < mn) ∧ (0 ≤ q2.toInt ∧ q2.toInt < mn))) : Mi l y_Ref_join b_Ref_join 3 (some .int) 2 46 0 0 D t w sz [.ref mo, .int q, .int q2] (fun r w' => r = (-2) ∧ w' = w) := by
  obtain ⟨⟨pz, wy, fi, se, ho, lx, ly, ts, tS, cs, av, lz, hz1, nl, nh, ce, qd, g_mo⟩, g0, g1, g2, g3, g4, ⟨PS, g5⟩, ⟨PT, g6⟩, ⟨L, g7⟩, ⟨Z, g8⟩, ⟨LO, g9⟩, ⟨LT, g10⟩, ⟨IC, g11⟩, ⟨RW, g12⟩, ⟨CO, g13⟩, ⟨CT, g14⟩, ⟨SP, g15⟩, ⟨NU, g16⟩, ⟨OR, g17⟩, ⟨NN, g18⟩, ⟨LD, g19⟩, ⟨HD, g20⟩, ⟨CN, g21⟩, ⟨IS, g22⟩, ⟨QU, g23⟩, ⟨CF, g24⟩, ⟨CB, g25⟩, ⟨WY, g26⟩⟩ := hR
  have hmn := hmc.1
  refine Mi_mono (c_Ref_joinb (l := l) (D := D) (t := t) (w := w) (sz := sz) g_mo hmc.1 hbd) ?_
  rintro r w' hp
  obtain ⟨e1, e2⟩ := hp
  exact ⟨e1.trans (rfl), e2⟩
set_option maxHeartbeats 4000000 in
set_option maxRecDepth 100000 in
theorem k_joinb {l : Launch} {D : va_G} {t : Nat → ClassId} {w : wf_W} {sz : Nat} {C pa sa : Nat → Nat} {k mn cz tz ca : Nat} {cl tl Sz En Nx : Nat → Nat} {q q2 : Int32} (hAD : AD C pa sa) (hk : 2 ≤ k ∧ k ≤ 4) (hmc : mcO k mn Sz En Nx) (hcz : cz ≤ 100) (htz : tz ≤ 100) (hck : ∀ i, i < cz → cl i < k) (hC : CSt t w C pa sa k mn cz tz ca cl tl Sz En Nx) (hbd : ¬ ((0 ≤ q.toInt ∧ q.toInt < mn) ∧ (0 ≤ q2.toInt ∧ q2.toInt < mn))) : Mi l y_TM_join b_TM_join 3 (some .int) 1 21 0 0 D t w sz [.ref (C 0), .int q, .int q2] (fun r w' => r = (-2) ∧ w' = w) := by
  obtain ⟨h0, h1, ⟨cof, h2, h2c⟩, h3, ⟨ltf, h4, h4c⟩, ⟨mq, h5, h5c⟩, ⟨z, h6⟩, ⟨F, h7⟩, ⟨L, h8⟩, ⟨Z, h9⟩, ⟨K, h10⟩, ⟨Fi, h11⟩, ⟨Mk, h12⟩, ⟨nM, EM, h13⟩, ⟨fM, h14⟩, ⟨nC, EC, h15⟩, ⟨fC, h16⟩, ⟨b, en, h17⟩, ⟨G, h18⟩, ⟨Cr, h19⟩, ⟨Zc, h20⟩, ⟨op, h21⟩, ⟨zq, h22⟩, ⟨tqf, h23⟩, ⟨fb, h24, h24c⟩, h25, ⟨zl, h26, h26c⟩, ⟨lf, h27⟩, ⟨zh, h28, h28c⟩, ⟨hf, h29⟩, ⟨qz, h30⟩, ⟨Qu, h31⟩, ⟨cf, h32⟩, h33, ⟨Wy, h34⟩, ⟨ff, hpl, hmO⟩, hfree⟩ := hC
  have hmn := hmc.1
  refine Mi_mono (c_TM_joinb (l := l) (D := D) (t := t) (w := w) (sz := sz) h0 hmc.1 hk.2 hbd) ?_
  rintro r w' hp
  obtain ⟨e1, e2⟩ := hp
  exact ⟨e1.trans (rfl), e2⟩
set_option maxHeartbeats 4000000 in
set_option maxRecDepth 100000 in
theorem r_withinb {l : Launch} {D : va_G} {t : Nat → ClassId} {w : wf_W} {sz : Nat} {mo : Nat} {A : Nat → Nat} {k mn cz tz ca : Nat} {cl tl Sz En Nx : Nat → Nat} {q q2 : Int32} (hRN : nd (RL mo A)) (hk : 2 ≤ k ∧ k ≤ 4) (hmc : mcO k mn Sz En Nx) (hcz : cz ≤ 100) (htz : tz ≤ 100) (hck : ∀ i, i < cz → cl i < k) (hR : RSt t w mo A k mn cz tz ca cl tl Sz En Nx) (hbd : ¬ ((0 ≤ q.toInt ∧ q.toInt < mn) ∧ (0 ≤ q2.toInt ∧ q2.toInt < mn))) : Mi l y_Ref_within b_Ref_within 3 (some .int) 2 46 0 0 D t w sz [.ref mo, .int q, .int q2] (fun r w' => r = (-2) ∧ w' = w) := by
  obtain ⟨⟨pz, wy, fi, se, ho, lx, ly, ts, tS, cs, av, lz, hz1, nl, nh, ce, qd, g_mo⟩, g0, g1, g2, g3, g4, ⟨PS, g5⟩, ⟨PT, g6⟩, ⟨L, g7⟩, ⟨Z, g8⟩, ⟨LO, g9⟩, ⟨LT, g10⟩, ⟨IC, g11⟩, ⟨RW, g12⟩, ⟨CO, g13⟩, ⟨CT, g14⟩, ⟨SP, g15⟩, ⟨NU, g16⟩, ⟨OR, g17⟩, ⟨NN, g18⟩, ⟨LD, g19⟩, ⟨HD, g20⟩, ⟨CN, g21⟩, ⟨IS, g22⟩, ⟨QU, g23⟩, ⟨CF, g24⟩, ⟨CB, g25⟩, ⟨WY, g26⟩⟩ := hR
  have hmn := hmc.1
  refine Mi_mono (c_Ref_withinb (l := l) (D := D) (t := t) (w := w) (sz := sz) g_mo hmc.1 hbd) ?_
  rintro r w' hp
  obtain ⟨e1, e2⟩ := hp
  exact ⟨e1.trans (rfl), e2⟩
set_option maxHeartbeats 4000000 in
set_option maxRecDepth 100000 in
theorem k_withinb {l : Launch} {D : va_G} {t : Nat → ClassId} {w : wf_W} {sz : Nat} {C pa sa : Nat → Nat} {k mn cz tz ca : Nat} {cl tl Sz En Nx : Nat → Nat} {q q2 : Int32} (hAD : AD C pa sa) (hk : 2 ≤ k ∧ k ≤ 4) (hmc : mcO k mn Sz En Nx) (hcz : cz ≤ 100) (htz : tz ≤ 100) (hck : ∀ i, i < cz → cl i < k) (hC : CSt t w C pa sa k mn cz tz ca cl tl Sz En Nx) (hbd : ¬ ((0 ≤ q.toInt ∧ q.toInt < mn) ∧ (0 ≤ q2.toInt ∧ q2.toInt < mn))) : Mi l y_TM_within b_TM_within 3 (some .int) 1 21 0 0 D t w sz [.ref (C 0), .int q, .int q2] (fun r w' => r = (-2) ∧ w' = w) := by
  obtain ⟨h0, h1, ⟨cof, h2, h2c⟩, h3, ⟨ltf, h4, h4c⟩, ⟨mq, h5, h5c⟩, ⟨z, h6⟩, ⟨F, h7⟩, ⟨L, h8⟩, ⟨Z, h9⟩, ⟨K, h10⟩, ⟨Fi, h11⟩, ⟨Mk, h12⟩, ⟨nM, EM, h13⟩, ⟨fM, h14⟩, ⟨nC, EC, h15⟩, ⟨fC, h16⟩, ⟨b, en, h17⟩, ⟨G, h18⟩, ⟨Cr, h19⟩, ⟨Zc, h20⟩, ⟨op, h21⟩, ⟨zq, h22⟩, ⟨tqf, h23⟩, ⟨fb, h24, h24c⟩, h25, ⟨zl, h26, h26c⟩, ⟨lf, h27⟩, ⟨zh, h28, h28c⟩, ⟨hf, h29⟩, ⟨qz, h30⟩, ⟨Qu, h31⟩, ⟨cf, h32⟩, h33, ⟨Wy, h34⟩, ⟨ff, hpl, hmO⟩, hfree⟩ := hC
  have hmn := hmc.1
  refine Mi_mono (c_TM_withinb (l := l) (D := D) (t := t) (w := w) (sz := sz) h0 hmc.1 hk.2 hbd) ?_
  rintro r w' hp
  obtain ⟨e1, e2⟩ := hp
  exact ⟨e1.trans (rfl), e2⟩
set_option maxHeartbeats 4000000 in
set_option maxRecDepth 100000 in
theorem r_differb {l : Launch} {D : va_G} {t : Nat → ClassId} {w : wf_W} {sz : Nat} {mo : Nat} {A : Nat → Nat} {k mn cz tz ca : Nat} {cl tl Sz En Nx : Nat → Nat} {q q2 : Int32} (hRN : nd (RL mo A)) (hk : 2 ≤ k ∧ k ≤ 4) (hmc : mcO k mn Sz En Nx) (hcz : cz ≤ 100) (htz : tz ≤ 100) (hck : ∀ i, i < cz → cl i < k) (hR : RSt t w mo A k mn cz tz ca cl tl Sz En Nx) (hbd : ¬ ((0 ≤ q.toInt ∧ q.toInt < mn) ∧ (0 ≤ q2.toInt ∧ q2.toInt < mn))) : Mi l y_Ref_differ b_Ref_differ 6 (some .int) 2 46 0 0 D t w sz [.ref mo, .int q, .int q2] (fun r w' => r = (-2) ∧ w' = w) := by
  obtain ⟨⟨pz, wy, fi, se, ho, lx, ly, ts, tS, cs, av, lz, hz1, nl, nh, ce, qd, g_mo⟩, g0, g1, g2, g3, g4, ⟨PS, g5⟩, ⟨PT, g6⟩, ⟨L, g7⟩, ⟨Z, g8⟩, ⟨LO, g9⟩, ⟨LT, g10⟩, ⟨IC, g11⟩, ⟨RW, g12⟩, ⟨CO, g13⟩, ⟨CT, g14⟩, ⟨SP, g15⟩, ⟨NU, g16⟩, ⟨OR, g17⟩, ⟨NN, g18⟩, ⟨LD, g19⟩, ⟨HD, g20⟩, ⟨CN, g21⟩, ⟨IS, g22⟩, ⟨QU, g23⟩, ⟨CF, g24⟩, ⟨CB, g25⟩, ⟨WY, g26⟩⟩ := hR
  have hmn := hmc.1
  refine Mi_mono (c_Ref_differb (l := l) (D := D) (t := t) (w := w) (sz := sz) g_mo hmc.1 hbd) ?_
  rintro r w' hp
  obtain ⟨e1, e2⟩ := hp
  exact ⟨e1.trans (rfl), e2⟩
set_option maxHeartbeats 4000000 in
set_option maxRecDepth 100000 in
theorem k_differb {l : Launch} {D : va_G} {t : Nat → ClassId} {w : wf_W} {sz : Nat} {C pa sa : Nat → Nat} {k mn cz tz ca : Nat} {cl tl Sz En Nx : Nat → Nat} {q q2 : Int32} (hAD : AD C pa sa) (hk : 2 ≤ k ∧ k ≤ 4) (hmc : mcO k mn Sz En Nx) (hcz : cz ≤ 100) (htz : tz ≤ 100) (hck : ∀ i, i < cz → cl i < k) (hC : CSt t w C pa sa k mn cz tz ca cl tl Sz En Nx) (hbd : ¬ ((0 ≤ q.toInt ∧ q.toInt < mn) ∧ (0 ≤ q2.toInt ∧ q2.toInt < mn))) : Mi l y_TM_differ b_TM_differ 4 (some .int) 1 21 0 0 D t w sz [.ref (C 0), .int q, .int q2] (fun r w' => r = (-2) ∧ w' = w) := by
  obtain ⟨h0, h1, ⟨cof, h2, h2c⟩, h3, ⟨ltf, h4, h4c⟩, ⟨mq, h5, h5c⟩, ⟨z, h6⟩, ⟨F, h7⟩, ⟨L, h8⟩, ⟨Z, h9⟩, ⟨K, h10⟩, ⟨Fi, h11⟩, ⟨Mk, h12⟩, ⟨nM, EM, h13⟩, ⟨fM, h14⟩, ⟨nC, EC, h15⟩, ⟨fC, h16⟩, ⟨b, en, h17⟩, ⟨G, h18⟩, ⟨Cr, h19⟩, ⟨Zc, h20⟩, ⟨op, h21⟩, ⟨zq, h22⟩, ⟨tqf, h23⟩, ⟨fb, h24, h24c⟩, h25, ⟨zl, h26, h26c⟩, ⟨lf, h27⟩, ⟨zh, h28, h28c⟩, ⟨hf, h29⟩, ⟨qz, h30⟩, ⟨Qu, h31⟩, ⟨cf, h32⟩, h33, ⟨Wy, h34⟩, ⟨ff, hpl, hmO⟩, hfree⟩ := hC
  have hmn := hmc.1
  refine Mi_mono (c_TM_differb (l := l) (D := D) (t := t) (w := w) (sz := sz) h0 hmc.1 hk.2 hbd) ?_
  rintro r w' hp
  obtain ⟨e1, e2⟩ := hp
  exact ⟨e1.trans (rfl), e2⟩
set_option maxHeartbeats 4000000 in
set_option maxRecDepth 100000 in
theorem r_trimb {l : Launch} {D : va_G} {t : Nat → ClassId} {w : wf_W} {sz : Nat} {mo : Nat} {A : Nat → Nat} {k mn cz tz ca : Nat} {cl tl Sz En Nx : Nat → Nat} {q q2 : Int32} (hRN : nd (RL mo A)) (hk : 2 ≤ k ∧ k ≤ 4) (hmc : mcO k mn Sz En Nx) (hcz : cz ≤ 100) (htz : tz ≤ 100) (hck : ∀ i, i < cz → cl i < k) (hR : RSt t w mo A k mn cz tz ca cl tl Sz En Nx) (hbd : ¬ ((0 ≤ q.toInt ∧ q.toInt < mn) ∧ (0 ≤ q2.toInt ∧ q2.toInt ≤ 100))) : Mi l y_Ref_trim b_Ref_trim 6 (some .int) 2 46 0 0 D t w sz [.ref mo, .int q, .int q2] (fun r w' => r = (-2) ∧ w' = w) := by
  obtain ⟨⟨pz, wy, fi, se, ho, lx, ly, ts, tS, cs, av, lz, hz1, nl, nh, ce, qd, g_mo⟩, g0, g1, g2, g3, g4, ⟨PS, g5⟩, ⟨PT, g6⟩, ⟨L, g7⟩, ⟨Z, g8⟩, ⟨LO, g9⟩, ⟨LT, g10⟩, ⟨IC, g11⟩, ⟨RW, g12⟩, ⟨CO, g13⟩, ⟨CT, g14⟩, ⟨SP, g15⟩, ⟨NU, g16⟩, ⟨OR, g17⟩, ⟨NN, g18⟩, ⟨LD, g19⟩, ⟨HD, g20⟩, ⟨CN, g21⟩, ⟨IS, g22⟩, ⟨QU, g23⟩, ⟨CF, g24⟩, ⟨CB, g25⟩, ⟨WY, g26⟩⟩ := hR
  have hmn := hmc.1
  refine Mi_mono (c_Ref_trimb (l := l) (D := D) (t := t) (w := w) (sz := sz) g_mo hmc.1 hbd) ?_
  rintro r w' hp
  obtain ⟨e1, e2⟩ := hp
  exact ⟨e1.trans (rfl), e2⟩
set_option maxHeartbeats 4000000 in
set_option maxRecDepth 100000 in
theorem k_trimb {l : Launch} {D : va_G} {t : Nat → ClassId} {w : wf_W} {sz : Nat} {C pa sa : Nat → Nat} {k mn cz tz ca : Nat} {cl tl Sz En Nx : Nat → Nat} {q q2 : Int32} (hAD : AD C pa sa) (hk : 2 ≤ k ∧ k ≤ 4) (hmc : mcO k mn Sz En Nx) (hcz : cz ≤ 100) (htz : tz ≤ 100) (hck : ∀ i, i < cz → cl i < k) (hC : CSt t w C pa sa k mn cz tz ca cl tl Sz En Nx) (hbd : ¬ ((0 ≤ q.toInt ∧ q.toInt < mn) ∧ (0 ≤ q2.toInt ∧ q2.toInt ≤ 100))) : Mi l y_TM_trim b_TM_trim 4 (some .int) 1 21 0 0 D t w sz [.ref (C 0), .int q, .int q2] (fun r w' => r = (-2) ∧ w' = w) := by
  obtain ⟨h0, h1, ⟨cof, h2, h2c⟩, h3, ⟨ltf, h4, h4c⟩, ⟨mq, h5, h5c⟩, ⟨z, h6⟩, ⟨F, h7⟩, ⟨L, h8⟩, ⟨Z, h9⟩, ⟨K, h10⟩, ⟨Fi, h11⟩, ⟨Mk, h12⟩, ⟨nM, EM, h13⟩, ⟨fM, h14⟩, ⟨nC, EC, h15⟩, ⟨fC, h16⟩, ⟨b, en, h17⟩, ⟨G, h18⟩, ⟨Cr, h19⟩, ⟨Zc, h20⟩, ⟨op, h21⟩, ⟨zq, h22⟩, ⟨tqf, h23⟩, ⟨fb, h24, h24c⟩, h25, ⟨zl, h26, h26c⟩, ⟨lf, h27⟩, ⟨zh, h28, h28c⟩, ⟨hf, h29⟩, ⟨qz, h30⟩, ⟨Qu, h31⟩, ⟨cf, h32⟩, h33, ⟨Wy, h34⟩, ⟨ff, hpl, hmO⟩, hfree⟩ := hC
  have hmn := hmc.1
  refine Mi_mono (c_TM_trimb (l := l) (D := D) (t := t) (w := w) (sz := sz) h0 hmc.1 hbd) ?_
  rintro r w' hp
  obtain ⟨e1, e2⟩ := hp
  exact ⟨e1.trans (rfl), e2⟩
set_option maxHeartbeats 4000000 in
set_option maxRecDepth 100000 in
theorem r_cutb {l : Launch} {D : va_G} {t : Nat → ClassId} {w : wf_W} {sz : Nat} {mo : Nat} {A : Nat → Nat} {k mn cz tz ca : Nat} {cl tl Sz En Nx : Nat → Nat} {q q2 : Int32} (hRN : nd (RL mo A)) (hk : 2 ≤ k ∧ k ≤ 4) (hmc : mcO k mn Sz En Nx) (hcz : cz ≤ 100) (htz : tz ≤ 100) (hck : ∀ i, i < cz → cl i < k) (hR : RSt t w mo A k mn cz tz ca cl tl Sz En Nx) (hbd : ¬ ((0 ≤ q.toInt ∧ q.toInt < mn) ∧ (0 ≤ q2.toInt ∧ q2.toInt ≤ 100))) : Mi l y_Ref_cut b_Ref_cut 9 (some .int) 2 46 0 0 D t w sz [.ref mo, .int q, .int q2] (fun r w' => r = (-2) ∧ w' = w) := by
  obtain ⟨⟨pz, wy, fi, se, ho, lx, ly, ts, tS, cs, av, lz, hz1, nl, nh, ce, qd, g_mo⟩, g0, g1, g2, g3, g4, ⟨PS, g5⟩, ⟨PT, g6⟩, ⟨L, g7⟩, ⟨Z, g8⟩, ⟨LO, g9⟩, ⟨LT, g10⟩, ⟨IC, g11⟩, ⟨RW, g12⟩, ⟨CO, g13⟩, ⟨CT, g14⟩, ⟨SP, g15⟩, ⟨NU, g16⟩, ⟨OR, g17⟩, ⟨NN, g18⟩, ⟨LD, g19⟩, ⟨HD, g20⟩, ⟨CN, g21⟩, ⟨IS, g22⟩, ⟨QU, g23⟩, ⟨CF, g24⟩, ⟨CB, g25⟩, ⟨WY, g26⟩⟩ := hR
  have hmn := hmc.1
  refine Mi_mono (c_Ref_cutb (l := l) (D := D) (t := t) (w := w) (sz := sz) g_mo hmc.1 hbd) ?_
  rintro r w' hp
  obtain ⟨e1, e2⟩ := hp
  exact ⟨e1.trans (rfl), e2⟩
set_option maxHeartbeats 4000000 in
set_option maxRecDepth 100000 in
theorem k_cutb {l : Launch} {D : va_G} {t : Nat → ClassId} {w : wf_W} {sz : Nat} {C pa sa : Nat → Nat} {k mn cz tz ca : Nat} {cl tl Sz En Nx : Nat → Nat} {q q2 : Int32} (hAD : AD C pa sa) (hk : 2 ≤ k ∧ k ≤ 4) (hmc : mcO k mn Sz En Nx) (hcz : cz ≤ 100) (htz : tz ≤ 100) (hck : ∀ i, i < cz → cl i < k) (hC : CSt t w C pa sa k mn cz tz ca cl tl Sz En Nx) (hbd : ¬ ((0 ≤ q.toInt ∧ q.toInt < mn) ∧ (0 ≤ q2.toInt ∧ q2.toInt ≤ 100))) : Mi l y_TM_cut b_TM_cut 4 (some .int) 1 21 0 0 D t w sz [.ref (C 0), .int q, .int q2] (fun r w' => r = (-2) ∧ w' = w) := by
  obtain ⟨h0, h1, ⟨cof, h2, h2c⟩, h3, ⟨ltf, h4, h4c⟩, ⟨mq, h5, h5c⟩, ⟨z, h6⟩, ⟨F, h7⟩, ⟨L, h8⟩, ⟨Z, h9⟩, ⟨K, h10⟩, ⟨Fi, h11⟩, ⟨Mk, h12⟩, ⟨nM, EM, h13⟩, ⟨fM, h14⟩, ⟨nC, EC, h15⟩, ⟨fC, h16⟩, ⟨b, en, h17⟩, ⟨G, h18⟩, ⟨Cr, h19⟩, ⟨Zc, h20⟩, ⟨op, h21⟩, ⟨zq, h22⟩, ⟨tqf, h23⟩, ⟨fb, h24, h24c⟩, h25, ⟨zl, h26, h26c⟩, ⟨lf, h27⟩, ⟨zh, h28, h28c⟩, ⟨hf, h29⟩, ⟨qz, h30⟩, ⟨Qu, h31⟩, ⟨cf, h32⟩, h33, ⟨Wy, h34⟩, ⟨ff, hpl, hmO⟩, hfree⟩ := hC
  have hmn := hmc.1
  refine Mi_mono (c_TM_cutb (l := l) (D := D) (t := t) (w := w) (sz := sz) h0 hmc.1 hbd) ?_
  rintro r w' hp
  obtain ⟨e1, e2⟩ := hp
  exact ⟨e1.trans (rfl), e2⟩
set_option maxHeartbeats 4000000 in
set_option maxRecDepth 100000 in
theorem r_partb {l : Launch} {D : va_G} {t : Nat → ClassId} {w : wf_W} {sz : Nat} {mo : Nat} {A : Nat → Nat} {k mn cz tz ca : Nat} {cl tl Sz En Nx : Nat → Nat} {q q2 : Int32} (hRN : nd (RL mo A)) (hk : 2 ≤ k ∧ k ≤ 4) (hmc : mcO k mn Sz En Nx) (hcz : cz ≤ 100) (htz : tz ≤ 100) (hck : ∀ i, i < cz → cl i < k) (hR : RSt t w mo A k mn cz tz ca cl tl Sz En Nx) (hbd : ¬ ((0 ≤ q.toInt ∧ q.toInt < mn) ∧ (0 ≤ q2.toInt ∧ q2.toInt ≤ 2))) : Mi l y_Ref_part b_Ref_part 3 (some .int) 2 46 0 0 D t w sz [.ref mo, .int q, .int q2] (fun r w' => r = (-2) ∧ w' = w) := by
  obtain ⟨⟨pz, wy, fi, se, ho, lx, ly, ts, tS, cs, av, lz, hz1, nl, nh, ce, qd, g_mo⟩, g0, g1, g2, g3, g4, ⟨PS, g5⟩, ⟨PT, g6⟩, ⟨L, g7⟩, ⟨Z, g8⟩, ⟨LO, g9⟩, ⟨LT, g10⟩, ⟨IC, g11⟩, ⟨RW, g12⟩, ⟨CO, g13⟩, ⟨CT, g14⟩, ⟨SP, g15⟩, ⟨NU, g16⟩, ⟨OR, g17⟩, ⟨NN, g18⟩, ⟨LD, g19⟩, ⟨HD, g20⟩, ⟨CN, g21⟩, ⟨IS, g22⟩, ⟨QU, g23⟩, ⟨CF, g24⟩, ⟨CB, g25⟩, ⟨WY, g26⟩⟩ := hR
  have hmn := hmc.1
  refine Mi_mono (c_Ref_partb (l := l) (D := D) (t := t) (w := w) (sz := sz) g_mo hmc.1 hbd) ?_
  rintro r w' hp
  obtain ⟨e1, e2⟩ := hp
  exact ⟨e1.trans (rfl), e2⟩
set_option maxHeartbeats 4000000 in
set_option maxRecDepth 100000 in
theorem k_partb {l : Launch} {D : va_G} {t : Nat → ClassId} {w : wf_W} {sz : Nat} {C pa sa : Nat → Nat} {k mn cz tz ca : Nat} {cl tl Sz En Nx : Nat → Nat} {q q2 : Int32} (hAD : AD C pa sa) (hk : 2 ≤ k ∧ k ≤ 4) (hmc : mcO k mn Sz En Nx) (hcz : cz ≤ 100) (htz : tz ≤ 100) (hck : ∀ i, i < cz → cl i < k) (hC : CSt t w C pa sa k mn cz tz ca cl tl Sz En Nx) (hbd : ¬ ((0 ≤ q.toInt ∧ q.toInt < mn) ∧ (0 ≤ q2.toInt ∧ q2.toInt ≤ 2))) : Mi l y_TM_part b_TM_part 4 (some .int) 1 21 0 0 D t w sz [.ref (C 0), .int q, .int q2] (fun r w' => r = (-2) ∧ w' = w) := by
  obtain ⟨h0, h1, ⟨cof, h2, h2c⟩, h3, ⟨ltf, h4, h4c⟩, ⟨mq, h5, h5c⟩, ⟨z, h6⟩, ⟨F, h7⟩, ⟨L, h8⟩, ⟨Z, h9⟩, ⟨K, h10⟩, ⟨Fi, h11⟩, ⟨Mk, h12⟩, ⟨nM, EM, h13⟩, ⟨fM, h14⟩, ⟨nC, EC, h15⟩, ⟨fC, h16⟩, ⟨b, en, h17⟩, ⟨G, h18⟩, ⟨Cr, h19⟩, ⟨Zc, h20⟩, ⟨op, h21⟩, ⟨zq, h22⟩, ⟨tqf, h23⟩, ⟨fb, h24, h24c⟩, h25, ⟨zl, h26, h26c⟩, ⟨lf, h27⟩, ⟨zh, h28, h28c⟩, ⟨hf, h29⟩, ⟨qz, h30⟩, ⟨Qu, h31⟩, ⟨cf, h32⟩, h33, ⟨Wy, h34⟩, ⟨ff, hpl, hmO⟩, hfree⟩ := hC
  have hmn := hmc.1
  refine Mi_mono (c_TM_partb (l := l) (D := D) (t := t) (w := w) (sz := sz) h0 hmc.1 hbd) ?_
  rintro r w' hp
  obtain ⟨e1, e2⟩ := hp
  exact ⟨e1.trans (rfl), e2⟩
set_option maxHeartbeats 4000000 in
set_option maxRecDepth 100000 in
theorem r_widenb {l : Launch} {D : va_G} {t : Nat → ClassId} {w : wf_W} {sz : Nat} {mo : Nat} {A : Nat → Nat} {k mn cz tz ca : Nat} {cl tl Sz En Nx : Nat → Nat} {q q2 : Int32} (hRN : nd (RL mo A)) (hk : 2 ≤ k ∧ k ≤ 4) (hmc : mcO k mn Sz En Nx) (hcz : cz ≤ 100) (htz : tz ≤ 100) (hck : ∀ i, i < cz → cl i < k) (hR : RSt t w mo A k mn cz tz ca cl tl Sz En Nx) (hbd : ¬ ((0 ≤ q.toInt ∧ q.toInt < mn) ∧ (0 ≤ q2.toInt ∧ q2.toInt ≤ 40))) : Mi l y_Ref_widen b_Ref_widen 3 (some .int) 2 46 0 0 D t w sz [.ref mo, .int q, .int q2] (fun r w' => r = (-2) ∧ w' = w) := by
  obtain ⟨⟨pz, wy, fi, se, ho, lx, ly, ts, tS, cs, av, lz, hz1, nl, nh, ce, qd, g_mo⟩, g0, g1, g2, g3, g4, ⟨PS, g5⟩, ⟨PT, g6⟩, ⟨L, g7⟩, ⟨Z, g8⟩, ⟨LO, g9⟩, ⟨LT, g10⟩, ⟨IC, g11⟩, ⟨RW, g12⟩, ⟨CO, g13⟩, ⟨CT, g14⟩, ⟨SP, g15⟩, ⟨NU, g16⟩, ⟨OR, g17⟩, ⟨NN, g18⟩, ⟨LD, g19⟩, ⟨HD, g20⟩, ⟨CN, g21⟩, ⟨IS, g22⟩, ⟨QU, g23⟩, ⟨CF, g24⟩, ⟨CB, g25⟩, ⟨WY, g26⟩⟩ := hR
  have hmn := hmc.1
  refine Mi_mono (c_Ref_widenb (l := l) (D := D) (t := t) (w := w) (sz := sz) g_mo hmc.1 hbd) ?_
  rintro r w' hp
  obtain ⟨e1, e2⟩ := hp
  exact ⟨e1.trans (rfl), e2⟩
set_option maxHeartbeats 4000000 in
set_option maxRecDepth 100000 in
theorem k_widenb {l : Launch} {D : va_G} {t : Nat → ClassId} {w : wf_W} {sz : Nat} {C pa sa : Nat → Nat} {k mn cz tz ca : Nat} {cl tl Sz En Nx : Nat → Nat} {q q2 : Int32} (hAD : AD C pa sa) (hk : 2 ≤ k ∧ k ≤ 4) (hmc : mcO k mn Sz En Nx) (hcz : cz ≤ 100) (htz : tz ≤ 100) (hck : ∀ i, i < cz → cl i < k) (hC : CSt t w C pa sa k mn cz tz ca cl tl Sz En Nx) (hbd : ¬ ((0 ≤ q.toInt ∧ q.toInt < mn) ∧ (0 ≤ q2.toInt ∧ q2.toInt ≤ 40))) : Mi l y_TM_widen b_TM_widen 3 (some .int) 1 21 0 0 D t w sz [.ref (C 0), .int q, .int q2] (fun r w' => r = (-2) ∧ w' = w) := by
  obtain ⟨h0, h1, ⟨cof, h2, h2c⟩, h3, ⟨ltf, h4, h4c⟩, ⟨mq, h5, h5c⟩, ⟨z, h6⟩, ⟨F, h7⟩, ⟨L, h8⟩, ⟨Z, h9⟩, ⟨K, h10⟩, ⟨Fi, h11⟩, ⟨Mk, h12⟩, ⟨nM, EM, h13⟩, ⟨fM, h14⟩, ⟨nC, EC, h15⟩, ⟨fC, h16⟩, ⟨b, en, h17⟩, ⟨G, h18⟩, ⟨Cr, h19⟩, ⟨Zc, h20⟩, ⟨op, h21⟩, ⟨zq, h22⟩, ⟨tqf, h23⟩, ⟨fb, h24, h24c⟩, h25, ⟨zl, h26, h26c⟩, ⟨lf, h27⟩, ⟨zh, h28, h28c⟩, ⟨hf, h29⟩, ⟨qz, h30⟩, ⟨Qu, h31⟩, ⟨cf, h32⟩, h33, ⟨Wy, h34⟩, ⟨ff, hpl, hmO⟩, hfree⟩ := hC
  have hmn := hmc.1
  refine Mi_mono (c_TM_widenb (l := l) (D := D) (t := t) (w := w) (sz := sz) h0 hmc.1 hbd) ?_
  rintro r w' hp
  obtain ⟨e1, e2⟩ := hp
  exact ⟨e1.trans (rfl), e2⟩
set_option maxHeartbeats 4000000 in
set_option maxRecDepth 100000 in
theorem r_countb {l : Launch} {D : va_G} {t : Nat → ClassId} {w : wf_W} {sz : Nat} {mo : Nat} {A : Nat → Nat} {k mn cz tz ca : Nat} {cl tl Sz En Nx : Nat → Nat} {q q2 : Int32} (hRN : nd (RL mo A)) (hk : 2 ≤ k ∧ k ≤ 4) (hmc : mcO k mn Sz En Nx) (hcz : cz ≤ 100) (htz : tz ≤ 100) (hck : ∀ i, i < cz → cl i < k) (hR : RSt t w mo A k mn cz tz ca cl tl Sz En Nx) (hbd : ¬ ((0 ≤ q.toInt ∧ q.toInt < mn) ∧ (0 ≤ q2.toInt ∧ q2.toInt ≤ 100))) : Ml l y_Ref_count b_Ref_count 3 (some .long) 2 46 0 0 D t w sz [.ref mo, .int q, .int q2] (fun r w' => r = (-2) ∧ w' = w) := by
  obtain ⟨⟨pz, wy, fi, se, ho, lx, ly, ts, tS, cs, av, lz, hz1, nl, nh, ce, qd, g_mo⟩, g0, g1, g2, g3, g4, ⟨PS, g5⟩, ⟨PT, g6⟩, ⟨L, g7⟩, ⟨Z, g8⟩, ⟨LO, g9⟩, ⟨LT, g10⟩, ⟨IC, g11⟩, ⟨RW, g12⟩, ⟨CO, g13⟩, ⟨CT, g14⟩, ⟨SP, g15⟩, ⟨NU, g16⟩, ⟨OR, g17⟩, ⟨NN, g18⟩, ⟨LD, g19⟩, ⟨HD, g20⟩, ⟨CN, g21⟩, ⟨IS, g22⟩, ⟨QU, g23⟩, ⟨CF, g24⟩, ⟨CB, g25⟩, ⟨WY, g26⟩⟩ := hR
  have hmn := hmc.1
  refine Ml_mono (c_Ref_countb (l := l) (D := D) (t := t) (w := w) (sz := sz) g_mo hmc.1 hbd) ?_
  rintro r w' hp
  obtain ⟨e1, e2⟩ := hp
  exact ⟨e1.trans (rfl), e2⟩
set_option maxHeartbeats 4000000 in
set_option maxRecDepth 100000 in
theorem k_countb {l : Launch} {D : va_G} {t : Nat → ClassId} {w : wf_W} {sz : Nat} {C pa sa : Nat → Nat} {k mn cz tz ca : Nat} {cl tl Sz En Nx : Nat → Nat} {q q2 : Int32} (hAD : AD C pa sa) (hk : 2 ≤ k ∧ k ≤ 4) (hmc : mcO k mn Sz En Nx) (hcz : cz ≤ 100) (htz : tz ≤ 100) (hck : ∀ i, i < cz → cl i < k) (hC : CSt t w C pa sa k mn cz tz ca cl tl Sz En Nx) (hbd : ¬ ((0 ≤ q.toInt ∧ q.toInt < mn) ∧ (0 ≤ q2.toInt ∧ q2.toInt ≤ 100))) : Ml l y_TM_count b_TM_count 3 (some .long) 1 21 0 0 D t w sz [.ref (C 0), .int q, .int q2] (fun r w' => r = (-2) ∧ w' = w) := by
  obtain ⟨h0, h1, ⟨cof, h2, h2c⟩, h3, ⟨ltf, h4, h4c⟩, ⟨mq, h5, h5c⟩, ⟨z, h6⟩, ⟨F, h7⟩, ⟨L, h8⟩, ⟨Z, h9⟩, ⟨K, h10⟩, ⟨Fi, h11⟩, ⟨Mk, h12⟩, ⟨nM, EM, h13⟩, ⟨fM, h14⟩, ⟨nC, EC, h15⟩, ⟨fC, h16⟩, ⟨b, en, h17⟩, ⟨G, h18⟩, ⟨Cr, h19⟩, ⟨Zc, h20⟩, ⟨op, h21⟩, ⟨zq, h22⟩, ⟨tqf, h23⟩, ⟨fb, h24, h24c⟩, h25, ⟨zl, h26, h26c⟩, ⟨lf, h27⟩, ⟨zh, h28, h28c⟩, ⟨hf, h29⟩, ⟨qz, h30⟩, ⟨Qu, h31⟩, ⟨cf, h32⟩, h33, ⟨Wy, h34⟩, ⟨ff, hpl, hmO⟩, hfree⟩ := hC
  have hmn := hmc.1
  refine Ml_mono (c_TM_countb (l := l) (D := D) (t := t) (w := w) (sz := sz) h0 hmc.1 hbd) ?_
  rintro r w' hp
  obtain ⟨e1, e2⟩ := hp
  exact ⟨e1.trans (rfl), e2⟩
set_option maxHeartbeats 4000000 in
set_option maxRecDepth 100000 in
theorem r_pickb {l : Launch} {D : va_G} {t : Nat → ClassId} {w : wf_W} {sz : Nat} {mo : Nat} {A : Nat → Nat} {k mn cz tz ca : Nat} {cl tl Sz En Nx : Nat → Nat} {q q2 : Int32} (hRN : nd (RL mo A)) (hk : 2 ≤ k ∧ k ≤ 4) (hmc : mcO k mn Sz En Nx) (hcz : cz ≤ 100) (htz : tz ≤ 100) (hck : ∀ i, i < cz → cl i < k) (hR : RSt t w mo A k mn cz tz ca cl tl Sz En Nx) (hbd : ¬ ((0 ≤ q.toInt ∧ q.toInt < mn) ∧ 0 ≤ q2.toInt)) : Mi l y_Ref_pick b_Ref_pick 9 (some .int) 2 46 0 0 D t w sz [.ref mo, .int q, .int q2] (fun r w' => r = (-2) ∧ w' = w) := by
  obtain ⟨⟨pz, wy, fi, se, ho, lx, ly, ts, tS, cs, av, lz, hz1, nl, nh, ce, qd, g_mo⟩, g0, g1, g2, g3, g4, ⟨PS, g5⟩, ⟨PT, g6⟩, ⟨L, g7⟩, ⟨Z, g8⟩, ⟨LO, g9⟩, ⟨LT, g10⟩, ⟨IC, g11⟩, ⟨RW, g12⟩, ⟨CO, g13⟩, ⟨CT, g14⟩, ⟨SP, g15⟩, ⟨NU, g16⟩, ⟨OR, g17⟩, ⟨NN, g18⟩, ⟨LD, g19⟩, ⟨HD, g20⟩, ⟨CN, g21⟩, ⟨IS, g22⟩, ⟨QU, g23⟩, ⟨CF, g24⟩, ⟨CB, g25⟩, ⟨WY, g26⟩⟩ := hR
  have hmn := hmc.1
  refine Mi_mono (c_Ref_pickb (l := l) (D := D) (t := t) (w := w) (sz := sz) g_mo hmc.1 hbd) ?_
  rintro r w' hp
  obtain ⟨e1, e2⟩ := hp
  exact ⟨e1.trans (rfl), e2⟩
set_option maxHeartbeats 4000000 in
set_option maxRecDepth 100000 in
theorem k_pickb {l : Launch} {D : va_G} {t : Nat → ClassId} {w : wf_W} {sz : Nat} {C pa sa : Nat → Nat} {k mn cz tz ca : Nat} {cl tl Sz En Nx : Nat → Nat} {q q2 : Int32} (hAD : AD C pa sa) (hk : 2 ≤ k ∧ k ≤ 4) (hmc : mcO k mn Sz En Nx) (hcz : cz ≤ 100) (htz : tz ≤ 100) (hck : ∀ i, i < cz → cl i < k) (hC : CSt t w C pa sa k mn cz tz ca cl tl Sz En Nx) (hbd : ¬ ((0 ≤ q.toInt ∧ q.toInt < mn) ∧ 0 ≤ q2.toInt)) : Mi l y_TM_pick b_TM_pick 3 (some .int) 1 21 0 0 D t w sz [.ref (C 0), .int q, .int q2] (fun r w' => r = (-2) ∧ w' = w) := by
  obtain ⟨h0, h1, ⟨cof, h2, h2c⟩, h3, ⟨ltf, h4, h4c⟩, ⟨mq, h5, h5c⟩, ⟨z, h6⟩, ⟨F, h7⟩, ⟨L, h8⟩, ⟨Z, h9⟩, ⟨K, h10⟩, ⟨Fi, h11⟩, ⟨Mk, h12⟩, ⟨nM, EM, h13⟩, ⟨fM, h14⟩, ⟨nC, EC, h15⟩, ⟨fC, h16⟩, ⟨b, en, h17⟩, ⟨G, h18⟩, ⟨Cr, h19⟩, ⟨Zc, h20⟩, ⟨op, h21⟩, ⟨zq, h22⟩, ⟨tqf, h23⟩, ⟨fb, h24, h24c⟩, h25, ⟨zl, h26, h26c⟩, ⟨lf, h27⟩, ⟨zh, h28, h28c⟩, ⟨hf, h29⟩, ⟨qz, h30⟩, ⟨Qu, h31⟩, ⟨cf, h32⟩, h33, ⟨Wy, h34⟩, ⟨ff, hpl, hmO⟩, hfree⟩ := hC
  have hmn := hmc.1
  refine Mi_mono (c_TM_pickb (l := l) (D := D) (t := t) (w := w) (sz := sz) h0 hmc.1 hbd) ?_
  rintro r w' hp
  obtain ⟨e1, e2⟩ := hp
  exact ⟨e1.trans (rfl), e2⟩
set_option maxHeartbeats 4000000 in
set_option maxRecDepth 100000 in
theorem r_dropb {l : Launch} {D : va_G} {t : Nat → ClassId} {w : wf_W} {sz : Nat} {mo : Nat} {A : Nat → Nat} {k mn cz tz ca : Nat} {cl tl Sz En Nx : Nat → Nat} {q q2 : Int32} (hRN : nd (RL mo A)) (hk : 2 ≤ k ∧ k ≤ 4) (hmc : mcO k mn Sz En Nx) (hcz : cz ≤ 100) (htz : tz ≤ 100) (hck : ∀ i, i < cz → cl i < k) (hR : RSt t w mo A k mn cz tz ca cl tl Sz En Nx) (hbd : ¬ ((0 ≤ q.toInt ∧ q.toInt < mn) ∧ (0 ≤ q2.toInt ∧ q2.toInt < k))) : Mi l y_Ref_drop b_Ref_drop 3 (some .int) 2 46 0 0 D t w sz [.ref mo, .int q, .int q2] (fun r w' => r = (-2) ∧ w' = w) := by
  obtain ⟨⟨pz, wy, fi, se, ho, lx, ly, ts, tS, cs, av, lz, hz1, nl, nh, ce, qd, g_mo⟩, g0, g1, g2, g3, g4, ⟨PS, g5⟩, ⟨PT, g6⟩, ⟨L, g7⟩, ⟨Z, g8⟩, ⟨LO, g9⟩, ⟨LT, g10⟩, ⟨IC, g11⟩, ⟨RW, g12⟩, ⟨CO, g13⟩, ⟨CT, g14⟩, ⟨SP, g15⟩, ⟨NU, g16⟩, ⟨OR, g17⟩, ⟨NN, g18⟩, ⟨LD, g19⟩, ⟨HD, g20⟩, ⟨CN, g21⟩, ⟨IS, g22⟩, ⟨QU, g23⟩, ⟨CF, g24⟩, ⟨CB, g25⟩, ⟨WY, g26⟩⟩ := hR
  have hmn := hmc.1
  refine Mi_mono (c_Ref_dropb (l := l) (D := D) (t := t) (w := w) (sz := sz) g_mo hmc.1 (by omega) hbd) ?_
  rintro r w' hp
  obtain ⟨e1, e2⟩ := hp
  exact ⟨e1.trans (rfl), e2⟩
set_option maxHeartbeats 4000000 in
set_option maxRecDepth 100000 in
theorem k_dropb {l : Launch} {D : va_G} {t : Nat → ClassId} {w : wf_W} {sz : Nat} {C pa sa : Nat → Nat} {k mn cz tz ca : Nat} {cl tl Sz En Nx : Nat → Nat} {q q2 : Int32} (hAD : AD C pa sa) (hk : 2 ≤ k ∧ k ≤ 4) (hmc : mcO k mn Sz En Nx) (hcz : cz ≤ 100) (htz : tz ≤ 100) (hck : ∀ i, i < cz → cl i < k) (hC : CSt t w C pa sa k mn cz tz ca cl tl Sz En Nx) (hbd : ¬ ((0 ≤ q.toInt ∧ q.toInt < mn) ∧ (0 ≤ q2.toInt ∧ q2.toInt < k))) : Mi l y_TM_drop b_TM_drop 3 (some .int) 1 21 0 0 D t w sz [.ref (C 0), .int q, .int q2] (fun r w' => r = (-2) ∧ w' = w) := by
  obtain ⟨h0, h1, ⟨cof, h2, h2c⟩, h3, ⟨ltf, h4, h4c⟩, ⟨mq, h5, h5c⟩, ⟨z, h6⟩, ⟨F, h7⟩, ⟨L, h8⟩, ⟨Z, h9⟩, ⟨K, h10⟩, ⟨Fi, h11⟩, ⟨Mk, h12⟩, ⟨nM, EM, h13⟩, ⟨fM, h14⟩, ⟨nC, EC, h15⟩, ⟨fC, h16⟩, ⟨b, en, h17⟩, ⟨G, h18⟩, ⟨Cr, h19⟩, ⟨Zc, h20⟩, ⟨op, h21⟩, ⟨zq, h22⟩, ⟨tqf, h23⟩, ⟨fb, h24, h24c⟩, h25, ⟨zl, h26, h26c⟩, ⟨lf, h27⟩, ⟨zh, h28, h28c⟩, ⟨hf, h29⟩, ⟨qz, h30⟩, ⟨Qu, h31⟩, ⟨cf, h32⟩, h33, ⟨Wy, h34⟩, ⟨ff, hpl, hmO⟩, hfree⟩ := hC
  have hmn := hmc.1
  refine Mi_mono (c_TM_dropb (l := l) (D := D) (t := t) (w := w) (sz := sz) h0 hmc.1 hk.2 hbd) ?_
  rintro r w' hp
  obtain ⟨e1, e2⟩ := hp
  exact ⟨e1.trans (rfl), e2⟩
set_option maxHeartbeats 4000000 in
set_option maxRecDepth 100000 in
theorem r_becomeb {l : Launch} {D : va_G} {t : Nat → ClassId} {w : wf_W} {sz : Nat} {mo : Nat} {A : Nat → Nat} {k mn cz tz ca : Nat} {cl tl Sz En Nx : Nat → Nat} {q q2 q3 : Int32} (hRN : nd (RL mo A)) (hk : 2 ≤ k ∧ k ≤ 4) (hmc : mcO k mn Sz En Nx) (hcz : cz ≤ 100) (htz : tz ≤ 100) (hck : ∀ i, i < cz → cl i < k) (hR : RSt t w mo A k mn cz tz ca cl tl Sz En Nx) (hbd : ¬ ((0 ≤ q.toInt ∧ q.toInt < mn) ∧ (0 ≤ q2.toInt ∧ q2.toInt < k) ∧ (0 ≤ q3.toInt ∧ q3.toInt < k))) : Mi l y_Ref_become b_Ref_become 4 (some .int) 2 46 0 0 D t w sz [.ref mo, .int q, .int q2, .int q3] (fun r w' => r = (-2) ∧ w' = w) := by
  obtain ⟨⟨pz, wy, fi, se, ho, lx, ly, ts, tS, cs, av, lz, hz1, nl, nh, ce, qd, g_mo⟩, g0, g1, g2, g3, g4, ⟨PS, g5⟩, ⟨PT, g6⟩, ⟨L, g7⟩, ⟨Z, g8⟩, ⟨LO, g9⟩, ⟨LT, g10⟩, ⟨IC, g11⟩, ⟨RW, g12⟩, ⟨CO, g13⟩, ⟨CT, g14⟩, ⟨SP, g15⟩, ⟨NU, g16⟩, ⟨OR, g17⟩, ⟨NN, g18⟩, ⟨LD, g19⟩, ⟨HD, g20⟩, ⟨CN, g21⟩, ⟨IS, g22⟩, ⟨QU, g23⟩, ⟨CF, g24⟩, ⟨CB, g25⟩, ⟨WY, g26⟩⟩ := hR
  have hmn := hmc.1
  refine Mi_mono (c_Ref_becomeb (l := l) (D := D) (t := t) (w := w) (sz := sz) g_mo hmc.1 (by omega) hbd) ?_
  rintro r w' hp
  obtain ⟨e1, e2⟩ := hp
  exact ⟨e1.trans (rfl), e2⟩
set_option maxHeartbeats 4000000 in
set_option maxRecDepth 100000 in
theorem k_becomeb {l : Launch} {D : va_G} {t : Nat → ClassId} {w : wf_W} {sz : Nat} {C pa sa : Nat → Nat} {k mn cz tz ca : Nat} {cl tl Sz En Nx : Nat → Nat} {q q2 q3 : Int32} (hAD : AD C pa sa) (hk : 2 ≤ k ∧ k ≤ 4) (hmc : mcO k mn Sz En Nx) (hcz : cz ≤ 100) (htz : tz ≤ 100) (hck : ∀ i, i < cz → cl i < k) (hC : CSt t w C pa sa k mn cz tz ca cl tl Sz En Nx) (hbd : ¬ ((0 ≤ q.toInt ∧ q.toInt < mn) ∧ (0 ≤ q2.toInt ∧ q2.toInt < k) ∧ (0 ≤ q3.toInt ∧ q3.toInt < k))) : Mi l y_TM_become b_TM_become 4 (some .int) 1 21 0 0 D t w sz [.ref (C 0), .int q, .int q2, .int q3] (fun r w' => r = (-2) ∧ w' = w) := by
  obtain ⟨h0, h1, ⟨cof, h2, h2c⟩, h3, ⟨ltf, h4, h4c⟩, ⟨mq, h5, h5c⟩, ⟨z, h6⟩, ⟨F, h7⟩, ⟨L, h8⟩, ⟨Z, h9⟩, ⟨K, h10⟩, ⟨Fi, h11⟩, ⟨Mk, h12⟩, ⟨nM, EM, h13⟩, ⟨fM, h14⟩, ⟨nC, EC, h15⟩, ⟨fC, h16⟩, ⟨b, en, h17⟩, ⟨G, h18⟩, ⟨Cr, h19⟩, ⟨Zc, h20⟩, ⟨op, h21⟩, ⟨zq, h22⟩, ⟨tqf, h23⟩, ⟨fb, h24, h24c⟩, h25, ⟨zl, h26, h26c⟩, ⟨lf, h27⟩, ⟨zh, h28, h28c⟩, ⟨hf, h29⟩, ⟨qz, h30⟩, ⟨Qu, h31⟩, ⟨cf, h32⟩, h33, ⟨Wy, h34⟩, ⟨ff, hpl, hmO⟩, hfree⟩ := hC
  have hmn := hmc.1
  refine Mi_mono (c_TM_becomeb (l := l) (D := D) (t := t) (w := w) (sz := sz) h0 hmc.1 hk.2 hbd) ?_
  rintro r w' hp
  obtain ⟨e1, e2⟩ := hp
  exact ⟨e1.trans (rfl), e2⟩
set_option maxHeartbeats 4000000 in
set_option maxRecDepth 100000 in
theorem r_pairb {l : Launch} {D : va_G} {t : Nat → ClassId} {w : wf_W} {sz : Nat} {mo : Nat} {A : Nat → Nat} {k mn cz tz ca : Nat} {cl tl Sz En Nx : Nat → Nat} {q q2 q3 : Int32} (hRN : nd (RL mo A)) (hk : 2 ≤ k ∧ k ≤ 4) (hmc : mcO k mn Sz En Nx) (hcz : cz ≤ 100) (htz : tz ≤ 100) (hck : ∀ i, i < cz → cl i < k) (hR : RSt t w mo A k mn cz tz ca cl tl Sz En Nx) (hbd : ¬ ((0 ≤ q.toInt ∧ q.toInt ≤ 3) ∧ (0 ≤ q2.toInt ∧ q2.toInt < mn) ∧ (0 ≤ q3.toInt ∧ q3.toInt < mn))) : Mi l y_Ref_pair b_Ref_pair 4 (some .int) 2 46 0 0 D t w sz [.ref mo, .int q, .int q2, .int q3] (fun r w' => r = (-2) ∧ w' = w) := by
  obtain ⟨⟨pz, wy, fi, se, ho, lx, ly, ts, tS, cs, av, lz, hz1, nl, nh, ce, qd, g_mo⟩, g0, g1, g2, g3, g4, ⟨PS, g5⟩, ⟨PT, g6⟩, ⟨L, g7⟩, ⟨Z, g8⟩, ⟨LO, g9⟩, ⟨LT, g10⟩, ⟨IC, g11⟩, ⟨RW, g12⟩, ⟨CO, g13⟩, ⟨CT, g14⟩, ⟨SP, g15⟩, ⟨NU, g16⟩, ⟨OR, g17⟩, ⟨NN, g18⟩, ⟨LD, g19⟩, ⟨HD, g20⟩, ⟨CN, g21⟩, ⟨IS, g22⟩, ⟨QU, g23⟩, ⟨CF, g24⟩, ⟨CB, g25⟩, ⟨WY, g26⟩⟩ := hR
  have hmn := hmc.1
  refine Mi_mono (c_Ref_pairb (l := l) (D := D) (t := t) (w := w) (sz := sz) g_mo hmc.1 hbd) ?_
  rintro r w' hp
  obtain ⟨e1, e2⟩ := hp
  exact ⟨e1.trans (rfl), e2⟩
set_option maxHeartbeats 4000000 in
set_option maxRecDepth 100000 in
theorem k_pairb {l : Launch} {D : va_G} {t : Nat → ClassId} {w : wf_W} {sz : Nat} {C pa sa : Nat → Nat} {k mn cz tz ca : Nat} {cl tl Sz En Nx : Nat → Nat} {q q2 q3 : Int32} (hAD : AD C pa sa) (hk : 2 ≤ k ∧ k ≤ 4) (hmc : mcO k mn Sz En Nx) (hcz : cz ≤ 100) (htz : tz ≤ 100) (hck : ∀ i, i < cz → cl i < k) (hC : CSt t w C pa sa k mn cz tz ca cl tl Sz En Nx) (hbd : ¬ ((0 ≤ q.toInt ∧ q.toInt ≤ 3) ∧ (0 ≤ q2.toInt ∧ q2.toInt < mn) ∧ (0 ≤ q3.toInt ∧ q3.toInt < mn))) : Mi l y_TM_pair b_TM_pair 4 (some .int) 1 21 0 0 D t w sz [.ref (C 0), .int q, .int q2, .int q3] (fun r w' => r = (-2) ∧ w' = w) := by
  obtain ⟨h0, h1, ⟨cof, h2, h2c⟩, h3, ⟨ltf, h4, h4c⟩, ⟨mq, h5, h5c⟩, ⟨z, h6⟩, ⟨F, h7⟩, ⟨L, h8⟩, ⟨Z, h9⟩, ⟨K, h10⟩, ⟨Fi, h11⟩, ⟨Mk, h12⟩, ⟨nM, EM, h13⟩, ⟨fM, h14⟩, ⟨nC, EC, h15⟩, ⟨fC, h16⟩, ⟨b, en, h17⟩, ⟨G, h18⟩, ⟨Cr, h19⟩, ⟨Zc, h20⟩, ⟨op, h21⟩, ⟨zq, h22⟩, ⟨tqf, h23⟩, ⟨fb, h24, h24c⟩, h25, ⟨zl, h26, h26c⟩, ⟨lf, h27⟩, ⟨zh, h28, h28c⟩, ⟨hf, h29⟩, ⟨qz, h30⟩, ⟨Qu, h31⟩, ⟨cf, h32⟩, h33, ⟨Wy, h34⟩, ⟨ff, hpl, hmO⟩, hfree⟩ := hC
  have hmn := hmc.1
  refine Mi_mono (c_TM_pairb (l := l) (D := D) (t := t) (w := w) (sz := sz) h0 hmc.1 hbd) ?_
  rintro r w' hp
  obtain ⟨e1, e2⟩ := hp
  exact ⟨e1.trans (rfl), e2⟩
set_option maxHeartbeats 4000000 in
set_option maxRecDepth 100000 in
theorem r_whenb {l : Launch} {D : va_G} {t : Nat → ClassId} {w : wf_W} {sz : Nat} {mo : Nat} {A : Nat → Nat} {k mn cz tz ca : Nat} {cl tl Sz En Nx : Nat → Nat} {q q2 : Int32} {yy : Bool} (hRN : nd (RL mo A)) (hk : 2 ≤ k ∧ k ≤ 4) (hmc : mcO k mn Sz En Nx) (hcz : cz ≤ 100) (htz : tz ≤ 100) (hck : ∀ i, i < cz → cl i < k) (hR : RSt t w mo A k mn cz tz ca cl tl Sz En Nx) (hbd : ¬ ((0 ≤ q.toInt ∧ q.toInt ≤ 3) ∧ (0 ≤ q2.toInt ∧ q2.toInt < mn))) : Mi l y_Ref_when b_Ref_when 4 (some .int) 2 46 0 0 D t w sz [.ref mo, .int q, .int q2, .int (bI yy)] (fun r w' => r = (-2) ∧ w' = w) := by
  obtain ⟨⟨pz, wy, fi, se, ho, lx, ly, ts, tS, cs, av, lz, hz1, nl, nh, ce, qd, g_mo⟩, g0, g1, g2, g3, g4, ⟨PS, g5⟩, ⟨PT, g6⟩, ⟨L, g7⟩, ⟨Z, g8⟩, ⟨LO, g9⟩, ⟨LT, g10⟩, ⟨IC, g11⟩, ⟨RW, g12⟩, ⟨CO, g13⟩, ⟨CT, g14⟩, ⟨SP, g15⟩, ⟨NU, g16⟩, ⟨OR, g17⟩, ⟨NN, g18⟩, ⟨LD, g19⟩, ⟨HD, g20⟩, ⟨CN, g21⟩, ⟨IS, g22⟩, ⟨QU, g23⟩, ⟨CF, g24⟩, ⟨CB, g25⟩, ⟨WY, g26⟩⟩ := hR
  have hmn := hmc.1
  refine Mi_mono (c_Ref_whenb (l := l) (D := D) (t := t) (w := w) (sz := sz) g_mo hmc.1 hbd) ?_
  rintro r w' hp
  obtain ⟨e1, e2⟩ := hp
  exact ⟨e1.trans (rfl), e2⟩
set_option maxHeartbeats 4000000 in
set_option maxRecDepth 100000 in
theorem k_whenb {l : Launch} {D : va_G} {t : Nat → ClassId} {w : wf_W} {sz : Nat} {C pa sa : Nat → Nat} {k mn cz tz ca : Nat} {cl tl Sz En Nx : Nat → Nat} {q q2 : Int32} {yy : Bool} (hAD : AD C pa sa) (hk : 2 ≤ k ∧ k ≤ 4) (hmc : mcO k mn Sz En Nx) (hcz : cz ≤ 100) (htz : tz ≤ 100) (hck : ∀ i, i < cz → cl i < k) (hC : CSt t w C pa sa k mn cz tz ca cl tl Sz En Nx) (hbd : ¬ ((0 ≤ q.toInt ∧ q.toInt ≤ 3) ∧ (0 ≤ q2.toInt ∧ q2.toInt < mn))) : Mi l y_TM_when b_TM_when 4 (some .int) 1 21 0 0 D t w sz [.ref (C 0), .int q, .int q2, .int (bI yy)] (fun r w' => r = (-2) ∧ w' = w) := by
  obtain ⟨h0, h1, ⟨cof, h2, h2c⟩, h3, ⟨ltf, h4, h4c⟩, ⟨mq, h5, h5c⟩, ⟨z, h6⟩, ⟨F, h7⟩, ⟨L, h8⟩, ⟨Z, h9⟩, ⟨K, h10⟩, ⟨Fi, h11⟩, ⟨Mk, h12⟩, ⟨nM, EM, h13⟩, ⟨fM, h14⟩, ⟨nC, EC, h15⟩, ⟨fC, h16⟩, ⟨b, en, h17⟩, ⟨G, h18⟩, ⟨Cr, h19⟩, ⟨Zc, h20⟩, ⟨op, h21⟩, ⟨zq, h22⟩, ⟨tqf, h23⟩, ⟨fb, h24, h24c⟩, h25, ⟨zl, h26, h26c⟩, ⟨lf, h27⟩, ⟨zh, h28, h28c⟩, ⟨hf, h29⟩, ⟨qz, h30⟩, ⟨Qu, h31⟩, ⟨cf, h32⟩, h33, ⟨Wy, h34⟩, ⟨ff, hpl, hmO⟩, hfree⟩ := hC
  have hmn := hmc.1
  refine Mi_mono (c_TM_whenb (l := l) (D := D) (t := t) (w := w) (sz := sz) h0 hmc.1 hbd) ?_
  rintro r w' hp
  obtain ⟨e1, e2⟩ := hp
  exact ⟨e1.trans (rfl), e2⟩
set_option maxHeartbeats 4000000 in
set_option maxRecDepth 100000 in
theorem r_makeb {l : Launch} {D : va_G} {t : Nat → ClassId} {w : wf_W} {sz : Nat} {mo : Nat} {A : Nat → Nat} {k mn cz tz ca : Nat} {cl tl Sz En Nx : Nat → Nat} {q : Int32} (hRN : nd (RL mo A)) (hk : 2 ≤ k ∧ k ≤ 4) (hmc : mcO k mn Sz En Nx) (hcz : cz ≤ 100) (htz : tz ≤ 100) (hck : ∀ i, i < cz → cl i < k) (hR : RSt t w mo A k mn cz tz ca cl tl Sz En Nx) (hbd : ¬ (0 ≤ q.toInt ∧ q.toInt ≤ 2)) : Mi l y_Ref_make b_Ref_make 4 (some .int) 1 25 0 0 D t w sz [.ref mo, .int q] (fun r w' => r = (-2) ∧ w' = w) := by
  obtain ⟨⟨pz, wy, fi, se, ho, lx, ly, ts, tS, cs, av, lz, hz1, nl, nh, ce, qd, g_mo⟩, g0, g1, g2, g3, g4, ⟨PS, g5⟩, ⟨PT, g6⟩, ⟨L, g7⟩, ⟨Z, g8⟩, ⟨LO, g9⟩, ⟨LT, g10⟩, ⟨IC, g11⟩, ⟨RW, g12⟩, ⟨CO, g13⟩, ⟨CT, g14⟩, ⟨SP, g15⟩, ⟨NU, g16⟩, ⟨OR, g17⟩, ⟨NN, g18⟩, ⟨LD, g19⟩, ⟨HD, g20⟩, ⟨CN, g21⟩, ⟨IS, g22⟩, ⟨QU, g23⟩, ⟨CF, g24⟩, ⟨CB, g25⟩, ⟨WY, g26⟩⟩ := hR
  have hmn := hmc.1
  refine Mi_mono (c_Ref_makeb (l := l) (D := D) (t := t) (w := w) (sz := sz) g_mo hbd) ?_
  rintro r w' hp
  obtain ⟨e1, e2⟩ := hp
  exact ⟨e1.trans (rfl), e2⟩
set_option maxHeartbeats 4000000 in
set_option maxRecDepth 100000 in
theorem k_makeb {l : Launch} {D : va_G} {t : Nat → ClassId} {w : wf_W} {sz : Nat} {C pa sa : Nat → Nat} {k mn cz tz ca : Nat} {cl tl Sz En Nx : Nat → Nat} {q : Int32} (hAD : AD C pa sa) (hk : 2 ≤ k ∧ k ≤ 4) (hmc : mcO k mn Sz En Nx) (hcz : cz ≤ 100) (htz : tz ≤ 100) (hck : ∀ i, i < cz → cl i < k) (hC : CSt t w C pa sa k mn cz tz ca cl tl Sz En Nx) (hbd : ¬ (0 ≤ q.toInt ∧ q.toInt ≤ 2)) : Mi l y_TM_make b_TM_make 2 (some .int) 0 0 0 0 D t w sz [.ref (C 0), .int q] (fun r w' => r = (-2) ∧ w' = w) := by
  obtain ⟨h0, h1, ⟨cof, h2, h2c⟩, h3, ⟨ltf, h4, h4c⟩, ⟨mq, h5, h5c⟩, ⟨z, h6⟩, ⟨F, h7⟩, ⟨L, h8⟩, ⟨Z, h9⟩, ⟨K, h10⟩, ⟨Fi, h11⟩, ⟨Mk, h12⟩, ⟨nM, EM, h13⟩, ⟨fM, h14⟩, ⟨nC, EC, h15⟩, ⟨fC, h16⟩, ⟨b, en, h17⟩, ⟨G, h18⟩, ⟨Cr, h19⟩, ⟨Zc, h20⟩, ⟨op, h21⟩, ⟨zq, h22⟩, ⟨tqf, h23⟩, ⟨fb, h24, h24c⟩, h25, ⟨zl, h26, h26c⟩, ⟨lf, h27⟩, ⟨zh, h28, h28c⟩, ⟨hf, h29⟩, ⟨qz, h30⟩, ⟨Qu, h31⟩, ⟨cf, h32⟩, h33, ⟨Wy, h34⟩, ⟨ff, hpl, hmO⟩, hfree⟩ := hC
  have hmn := hmc.1
  refine Mi_mono (c_TM_makeb (l := l) (D := D) (t := t) (w := w) (sz := sz) h0 hbd) ?_
  rintro r w' hp
  obtain ⟨e1, e2⟩ := hp
  exact ⟨e1.trans (rfl), e2⟩
set_option maxHeartbeats 4000000 in
set_option maxRecDepth 100000 in
theorem r_numeralsb {l : Launch} {D : va_G} {t : Nat → ClassId} {w : wf_W} {sz : Nat} {mo : Nat} {A : Nat → Nat} {k mn cz tz ca : Nat} {cl tl Sz En Nx : Nat → Nat} {q q2 : Int32} (hRN : nd (RL mo A)) (hk : 2 ≤ k ∧ k ≤ 4) (hmc : mcO k mn Sz En Nx) (hcz : cz ≤ 100) (htz : tz ≤ 100) (hck : ∀ i, i < cz → cl i < k) (hR : RSt t w mo A k mn cz tz ca cl tl Sz En Nx) (hbd : ¬ (0 ≤ q.toInt ∧ q.toInt ≤ q2.toInt ∧ q2.toInt ≤ 1000000000)) : Mi l y_Ref_numerals b_Ref_numerals 5 (some .int) 0 0 0 0 D t w sz [.ref mo, .int q, .int q2] (fun r w' => r = (-2) ∧ w' = w) := by
  obtain ⟨⟨pz, wy, fi, se, ho, lx, ly, ts, tS, cs, av, lz, hz1, nl, nh, ce, qd, g_mo⟩, g0, g1, g2, g3, g4, ⟨PS, g5⟩, ⟨PT, g6⟩, ⟨L, g7⟩, ⟨Z, g8⟩, ⟨LO, g9⟩, ⟨LT, g10⟩, ⟨IC, g11⟩, ⟨RW, g12⟩, ⟨CO, g13⟩, ⟨CT, g14⟩, ⟨SP, g15⟩, ⟨NU, g16⟩, ⟨OR, g17⟩, ⟨NN, g18⟩, ⟨LD, g19⟩, ⟨HD, g20⟩, ⟨CN, g21⟩, ⟨IS, g22⟩, ⟨QU, g23⟩, ⟨CF, g24⟩, ⟨CB, g25⟩, ⟨WY, g26⟩⟩ := hR
  have hmn := hmc.1
  refine Mi_mono (c_Ref_numeralsb (l := l) (D := D) (t := t) (w := w) (sz := sz) g_mo (by omega)) ?_
  rintro r w' hp
  obtain ⟨e1, e2⟩ := hp
  exact ⟨e1.trans (rfl), e2⟩
set_option maxHeartbeats 4000000 in
set_option maxRecDepth 100000 in
theorem k_numeralsb {l : Launch} {D : va_G} {t : Nat → ClassId} {w : wf_W} {sz : Nat} {C pa sa : Nat → Nat} {k mn cz tz ca : Nat} {cl tl Sz En Nx : Nat → Nat} {q q2 : Int32} (hAD : AD C pa sa) (hk : 2 ≤ k ∧ k ≤ 4) (hmc : mcO k mn Sz En Nx) (hcz : cz ≤ 100) (htz : tz ≤ 100) (hck : ∀ i, i < cz → cl i < k) (hC : CSt t w C pa sa k mn cz tz ca cl tl Sz En Nx) (hbd : ¬ (0 ≤ q.toInt ∧ q.toInt ≤ q2.toInt ∧ q2.toInt ≤ 1000000000)) : Mi l y_TM_numerals b_TM_numerals 3 (some .int) 0 0 0 0 D t w sz [.ref (C 0), .int q, .int q2] (fun r w' => r = (-2) ∧ w' = w) := by
  obtain ⟨h0, h1, ⟨cof, h2, h2c⟩, h3, ⟨ltf, h4, h4c⟩, ⟨mq, h5, h5c⟩, ⟨z, h6⟩, ⟨F, h7⟩, ⟨L, h8⟩, ⟨Z, h9⟩, ⟨K, h10⟩, ⟨Fi, h11⟩, ⟨Mk, h12⟩, ⟨nM, EM, h13⟩, ⟨fM, h14⟩, ⟨nC, EC, h15⟩, ⟨fC, h16⟩, ⟨b, en, h17⟩, ⟨G, h18⟩, ⟨Cr, h19⟩, ⟨Zc, h20⟩, ⟨op, h21⟩, ⟨zq, h22⟩, ⟨tqf, h23⟩, ⟨fb, h24, h24c⟩, h25, ⟨zl, h26, h26c⟩, ⟨lf, h27⟩, ⟨zh, h28, h28c⟩, ⟨hf, h29⟩, ⟨qz, h30⟩, ⟨Qu, h31⟩, ⟨cf, h32⟩, h33, ⟨Wy, h34⟩, ⟨ff, hpl, hmO⟩, hfree⟩ := hC
  have hmn := hmc.1
  refine Mi_mono (c_TM_numeralsb (l := l) (D := D) (t := t) (w := w) (sz := sz) h0 (by omega)) ?_
  rintro r w' hp
  obtain ⟨e1, e2⟩ := hp
  exact ⟨e1.trans (rfl), e2⟩
set_option maxHeartbeats 4000000 in
set_option maxRecDepth 100000 in
theorem r_addb {l : Launch} {D : va_G} {t : Nat → ClassId} {w : wf_W} {sz : Nat} {mo : Nat} {A : Nat → Nat} {k mn cz tz ca : Nat} {cl tl Sz En Nx : Nat → Nat} {q : Int32} (hRN : nd (RL mo A)) (hk : 2 ≤ k ∧ k ≤ 4) (hmc : mcO k mn Sz En Nx) (hcz : cz ≤ 100) (htz : tz ≤ 100) (hck : ∀ i, i < cz → cl i < k) (hR : RSt t w mo A k mn cz tz ca cl tl Sz En Nx) (hbd : ¬ (0 ≤ q.toInt ∧ q.toInt < k)) : Mi l y_Ref_add b_Ref_add 2 (some .int) 1 25 0 0 D t w sz [.ref mo, .int q] (fun r w' => r = (-2) ∧ w' = w) := by
  obtain ⟨⟨pz, wy, fi, se, ho, lx, ly, ts, tS, cs, av, lz, hz1, nl, nh, ce, qd, g_mo⟩, g0, g1, g2, g3, g4, ⟨PS, g5⟩, ⟨PT, g6⟩, ⟨L, g7⟩, ⟨Z, g8⟩, ⟨LO, g9⟩, ⟨LT, g10⟩, ⟨IC, g11⟩, ⟨RW, g12⟩, ⟨CO, g13⟩, ⟨CT, g14⟩, ⟨SP, g15⟩, ⟨NU, g16⟩, ⟨OR, g17⟩, ⟨NN, g18⟩, ⟨LD, g19⟩, ⟨HD, g20⟩, ⟨CN, g21⟩, ⟨IS, g22⟩, ⟨QU, g23⟩, ⟨CF, g24⟩, ⟨CB, g25⟩, ⟨WY, g26⟩⟩ := hR
  have hmn := hmc.1
  refine Mi_mono (c_Ref_addb (l := l) (D := D) (t := t) (w := w) (sz := sz) g_mo (by omega) hbd) ?_
  rintro r w' hp
  obtain ⟨e1, e2⟩ := hp
  exact ⟨e1.trans (rfl), e2⟩
set_option maxHeartbeats 4000000 in
set_option maxRecDepth 100000 in
theorem k_addb {l : Launch} {D : va_G} {t : Nat → ClassId} {w : wf_W} {sz : Nat} {C pa sa : Nat → Nat} {k mn cz tz ca : Nat} {cl tl Sz En Nx : Nat → Nat} {q : Int32} (hAD : AD C pa sa) (hk : 2 ≤ k ∧ k ≤ 4) (hmc : mcO k mn Sz En Nx) (hcz : cz ≤ 100) (htz : tz ≤ 100) (hck : ∀ i, i < cz → cl i < k) (hC : CSt t w C pa sa k mn cz tz ca cl tl Sz En Nx) (hbd : ¬ (0 ≤ q.toInt ∧ q.toInt < k)) : Mi l y_TM_add b_TM_add 2 (some .int) 1 21 0 0 D t w sz [.ref (C 0), .int q] (fun r w' => r = (-2) ∧ w' = w) := by
  obtain ⟨h0, h1, ⟨cof, h2, h2c⟩, h3, ⟨ltf, h4, h4c⟩, ⟨mq, h5, h5c⟩, ⟨z, h6⟩, ⟨F, h7⟩, ⟨L, h8⟩, ⟨Z, h9⟩, ⟨K, h10⟩, ⟨Fi, h11⟩, ⟨Mk, h12⟩, ⟨nM, EM, h13⟩, ⟨fM, h14⟩, ⟨nC, EC, h15⟩, ⟨fC, h16⟩, ⟨b, en, h17⟩, ⟨G, h18⟩, ⟨Cr, h19⟩, ⟨Zc, h20⟩, ⟨op, h21⟩, ⟨zq, h22⟩, ⟨tqf, h23⟩, ⟨fb, h24, h24c⟩, h25, ⟨zl, h26, h26c⟩, ⟨lf, h27⟩, ⟨zh, h28, h28c⟩, ⟨hf, h29⟩, ⟨qz, h30⟩, ⟨Qu, h31⟩, ⟨cf, h32⟩, h33, ⟨Wy, h34⟩, ⟨ff, hpl, hmO⟩, hfree⟩ := hC
  have hmn := hmc.1
  refine Mi_mono (c_TM_addb (l := l) (D := D) (t := t) (w := w) (sz := sz) h0 hk.2 hbd) ?_
  rintro r w' hp
  obtain ⟨e1, e2⟩ := hp
  exact ⟨e1.trans (rfl), e2⟩
set_option maxHeartbeats 4000000 in
set_option maxRecDepth 100000 in
theorem r_nextn {l : Launch} {D : va_G} {t : Nat → ClassId} {w : wf_W} {sz : Nat} {mo : Nat} {A : Nat → Nat} {k mn cz tz ca : Nat} {cl tl Sz En Nx : Nat → Nat} {q q2 q3 : Int32} (hRN : nd (RL mo A)) (hk : 2 ≤ k ∧ k ≤ 4) (hmc : mcO k mn Sz En Nx) (hcz : cz ≤ 100) (htz : tz ≤ 100) (hck : ∀ i, i < cz → cl i < k) (hR : RSt t w mo A k mn cz tz ca cl tl Sz En Nx) (hbd : ¬ (0 ≤ q.toInt ∧ q.toInt < mn)) : Mi l y_Ref_next b_Ref_next 4 (some .int) 2 46 0 0 D t w sz [.ref mo, .int q, .int q2, .int q3] (fun r w' => r = (-2) ∧ w' = w) := by
  obtain ⟨⟨pz, wy, fi, se, ho, lx, ly, ts, tS, cs, av, lz, hz1, nl, nh, ce, qd, g_mo⟩, g0, g1, g2, g3, g4, ⟨PS, g5⟩, ⟨PT, g6⟩, ⟨L, g7⟩, ⟨Z, g8⟩, ⟨LO, g9⟩, ⟨LT, g10⟩, ⟨IC, g11⟩, ⟨RW, g12⟩, ⟨CO, g13⟩, ⟨CT, g14⟩, ⟨SP, g15⟩, ⟨NU, g16⟩, ⟨OR, g17⟩, ⟨NN, g18⟩, ⟨LD, g19⟩, ⟨HD, g20⟩, ⟨CN, g21⟩, ⟨IS, g22⟩, ⟨QU, g23⟩, ⟨CF, g24⟩, ⟨CB, g25⟩, ⟨WY, g26⟩⟩ := hR
  have hmn := hmc.1
  refine Mi_mono (c_Ref_nextn (l := l) (D := D) (t := t) (w := w) (sz := sz) g_mo hmc.1 hbd) ?_
  rintro r w' hp
  obtain ⟨e1, e2⟩ := hp
  exact ⟨e1.trans (rfl), e2⟩
set_option maxHeartbeats 4000000 in
set_option maxRecDepth 100000 in
theorem k_nextn {l : Launch} {D : va_G} {t : Nat → ClassId} {w : wf_W} {sz : Nat} {C pa sa : Nat → Nat} {k mn cz tz ca : Nat} {cl tl Sz En Nx : Nat → Nat} {q q2 q3 : Int32} (hAD : AD C pa sa) (hk : 2 ≤ k ∧ k ≤ 4) (hmc : mcO k mn Sz En Nx) (hcz : cz ≤ 100) (htz : tz ≤ 100) (hck : ∀ i, i < cz → cl i < k) (hC : CSt t w C pa sa k mn cz tz ca cl tl Sz En Nx) (hbd : ¬ (0 ≤ q.toInt ∧ q.toInt < mn)) : Mi l y_TM_next b_TM_next 4 (some .int) 2 43 0 0 D t w sz [.ref (C 0), .int q, .int q2, .int q3] (fun r w' => r = (-2) ∧ w' = w) := by
  obtain ⟨h0, h1, ⟨cof, h2, h2c⟩, h3, ⟨ltf, h4, h4c⟩, ⟨mq, h5, h5c⟩, ⟨z, h6⟩, ⟨F, h7⟩, ⟨L, h8⟩, ⟨Z, h9⟩, ⟨K, h10⟩, ⟨Fi, h11⟩, ⟨Mk, h12⟩, ⟨nM, EM, h13⟩, ⟨fM, h14⟩, ⟨nC, EC, h15⟩, ⟨fC, h16⟩, ⟨b, en, h17⟩, ⟨G, h18⟩, ⟨Cr, h19⟩, ⟨Zc, h20⟩, ⟨op, h21⟩, ⟨zq, h22⟩, ⟨tqf, h23⟩, ⟨fb, h24, h24c⟩, h25, ⟨zl, h26, h26c⟩, ⟨lf, h27⟩, ⟨zh, h28, h28c⟩, ⟨hf, h29⟩, ⟨qz, h30⟩, ⟨Qu, h31⟩, ⟨cf, h32⟩, h33, ⟨Wy, h34⟩, ⟨ff, hpl, hmO⟩, hfree⟩ := hC
  have hmn := hmc.1
  refine Mi_mono (c_TM_nextn (l := l) (D := D) (t := t) (w := w) (sz := sz) h0 hmc.1 hbd) ?_
  rintro r w' hp
  obtain ⟨e1, e2⟩ := hp
  exact ⟨e1.trans (rfl), e2⟩
set_option maxHeartbeats 4000000 in
set_option maxRecDepth 100000 in
theorem r_endn {l : Launch} {D : va_G} {t : Nat → ClassId} {w : wf_W} {sz : Nat} {mo : Nat} {A : Nat → Nat} {k mn cz tz ca : Nat} {cl tl Sz En Nx : Nat → Nat} {q q2 : Int32} (hRN : nd (RL mo A)) (hk : 2 ≤ k ∧ k ≤ 4) (hmc : mcO k mn Sz En Nx) (hcz : cz ≤ 100) (htz : tz ≤ 100) (hck : ∀ i, i < cz → cl i < k) (hR : RSt t w mo A k mn cz tz ca cl tl Sz En Nx) (hbd : ¬ (0 ≤ q.toInt ∧ q.toInt < mn)) : Mi l y_Ref_end b_Ref_end 3 (some .int) 2 46 0 0 D t w sz [.ref mo, .int q, .int q2] (fun r w' => r = (-2) ∧ w' = w) := by
  obtain ⟨⟨pz, wy, fi, se, ho, lx, ly, ts, tS, cs, av, lz, hz1, nl, nh, ce, qd, g_mo⟩, g0, g1, g2, g3, g4, ⟨PS, g5⟩, ⟨PT, g6⟩, ⟨L, g7⟩, ⟨Z, g8⟩, ⟨LO, g9⟩, ⟨LT, g10⟩, ⟨IC, g11⟩, ⟨RW, g12⟩, ⟨CO, g13⟩, ⟨CT, g14⟩, ⟨SP, g15⟩, ⟨NU, g16⟩, ⟨OR, g17⟩, ⟨NN, g18⟩, ⟨LD, g19⟩, ⟨HD, g20⟩, ⟨CN, g21⟩, ⟨IS, g22⟩, ⟨QU, g23⟩, ⟨CF, g24⟩, ⟨CB, g25⟩, ⟨WY, g26⟩⟩ := hR
  have hmn := hmc.1
  refine Mi_mono (c_Ref_endn (l := l) (D := D) (t := t) (w := w) (sz := sz) g_mo hmc.1 hbd) ?_
  rintro r w' hp
  obtain ⟨e1, e2⟩ := hp
  exact ⟨e1.trans (rfl), e2⟩
set_option maxHeartbeats 4000000 in
set_option maxRecDepth 100000 in
theorem k_endn {l : Launch} {D : va_G} {t : Nat → ClassId} {w : wf_W} {sz : Nat} {C pa sa : Nat → Nat} {k mn cz tz ca : Nat} {cl tl Sz En Nx : Nat → Nat} {q q2 : Int32} (hAD : AD C pa sa) (hk : 2 ≤ k ∧ k ≤ 4) (hmc : mcO k mn Sz En Nx) (hcz : cz ≤ 100) (htz : tz ≤ 100) (hck : ∀ i, i < cz → cl i < k) (hC : CSt t w C pa sa k mn cz tz ca cl tl Sz En Nx) (hbd : ¬ (0 ≤ q.toInt ∧ q.toInt < mn)) : Mi l y_TM_end b_TM_end 3 (some .int) 2 43 0 0 D t w sz [.ref (C 0), .int q, .int q2] (fun r w' => r = (-2) ∧ w' = w) := by
  obtain ⟨h0, h1, ⟨cof, h2, h2c⟩, h3, ⟨ltf, h4, h4c⟩, ⟨mq, h5, h5c⟩, ⟨z, h6⟩, ⟨F, h7⟩, ⟨L, h8⟩, ⟨Z, h9⟩, ⟨K, h10⟩, ⟨Fi, h11⟩, ⟨Mk, h12⟩, ⟨nM, EM, h13⟩, ⟨fM, h14⟩, ⟨nC, EC, h15⟩, ⟨fC, h16⟩, ⟨b, en, h17⟩, ⟨G, h18⟩, ⟨Cr, h19⟩, ⟨Zc, h20⟩, ⟨op, h21⟩, ⟨zq, h22⟩, ⟨tqf, h23⟩, ⟨fb, h24, h24c⟩, h25, ⟨zl, h26, h26c⟩, ⟨lf, h27⟩, ⟨zh, h28, h28c⟩, ⟨hf, h29⟩, ⟨qz, h30⟩, ⟨Qu, h31⟩, ⟨cf, h32⟩, h33, ⟨Wy, h34⟩, ⟨ff, hpl, hmO⟩, hfree⟩ := hC
  have hmn := hmc.1
  refine Mi_mono (c_TM_endn (l := l) (D := D) (t := t) (w := w) (sz := sz) h0 hmc.1 hbd) ?_
  rintro r w' hp
  obtain ⟨e1, e2⟩ := hp
  exact ⟨e1.trans (rfl), e2⟩
set_option maxHeartbeats 4000000 in
set_option maxRecDepth 100000 in
theorem r_nextb {l : Launch} {D : va_G} {t : Nat → ClassId} {w : wf_W} {sz : Nat} {mo : Nat} {A : Nat → Nat} {k mn cz tz ca : Nat} {cl tl Sz En Nx : Nat → Nat} {a : Nat} {q2 q3 : Int32} (hRN : nd (RL mo A)) (hk : 2 ≤ k ∧ k ≤ 4) (hmc : mcO k mn Sz En Nx) (hcz : cz ≤ 100) (htz : tz ≤ 100) (hck : ∀ i, i < cz → cl i < k) (hR : RSt t w mo A k mn cz tz ca cl tl Sz En Nx) (ha : a < mn) (hbd : ¬ ((0 ≤ q2.toInt ∧ q2.toInt < Sz a) ∧ (0 ≤ q3.toInt ∧ q3.toInt < k))) : Mi l y_Ref_next b_Ref_next 4 (some .int) 2 46 0 0 D t w sz [.ref mo, .int (nI a), .int q2, .int q3] (fun r w' => r = (-2) ∧ w' = w) := by
  obtain ⟨⟨pz, wy, fi, se, ho, lx, ly, ts, tS, cs, av, lz, hz1, nl, nh, ce, qd, g_mo⟩, g0, g1, g2, g3, g4, ⟨PS, g5⟩, ⟨PT, g6⟩, ⟨L, g7⟩, ⟨Z, g8⟩, ⟨LO, g9⟩, ⟨LT, g10⟩, ⟨IC, g11⟩, ⟨RW, g12⟩, ⟨CO, g13⟩, ⟨CT, g14⟩, ⟨SP, g15⟩, ⟨NU, g16⟩, ⟨OR, g17⟩, ⟨NN, g18⟩, ⟨LD, g19⟩, ⟨HD, g20⟩, ⟨CN, g21⟩, ⟨IS, g22⟩, ⟨QU, g23⟩, ⟨CF, g24⟩, ⟨CB, g25⟩, ⟨WY, g26⟩⟩ := hR
  have hmn := hmc.1
  refine Mi_mono (c_Ref_nextb (l := l) (D := D) (t := t) (w := w) (sz := sz) g_mo g0 hmc.1 ha (by omega) ⟨(hmc.2 a ha).1.2.2.1, (hmc.2 a ha).1.2.1⟩ hbd) ?_
  rintro r w' hp
  obtain ⟨e1, e2⟩ := hp
  exact ⟨e1.trans (rfl), e2⟩
set_option maxHeartbeats 4000000 in
set_option maxRecDepth 100000 in
theorem r_endb {l : Launch} {D : va_G} {t : Nat → ClassId} {w : wf_W} {sz : Nat} {mo : Nat} {A : Nat → Nat} {k mn cz tz ca : Nat} {cl tl Sz En Nx : Nat → Nat} {a : Nat} {q2 : Int32} (hRN : nd (RL mo A)) (hk : 2 ≤ k ∧ k ≤ 4) (hmc : mcO k mn Sz En Nx) (hcz : cz ≤ 100) (htz : tz ≤ 100) (hck : ∀ i, i < cz → cl i < k) (hR : RSt t w mo A k mn cz tz ca cl tl Sz En Nx) (ha : a < mn) (hbd : ¬ (0 ≤ q2.toInt ∧ q2.toInt < Sz a)) : Mi l y_Ref_end b_Ref_end 3 (some .int) 2 46 0 0 D t w sz [.ref mo, .int (nI a), .int q2] (fun r w' => r = (-2) ∧ w' = w) := by
  obtain ⟨⟨pz, wy, fi, se, ho, lx, ly, ts, tS, cs, av, lz, hz1, nl, nh, ce, qd, g_mo⟩, g0, g1, g2, g3, g4, ⟨PS, g5⟩, ⟨PT, g6⟩, ⟨L, g7⟩, ⟨Z, g8⟩, ⟨LO, g9⟩, ⟨LT, g10⟩, ⟨IC, g11⟩, ⟨RW, g12⟩, ⟨CO, g13⟩, ⟨CT, g14⟩, ⟨SP, g15⟩, ⟨NU, g16⟩, ⟨OR, g17⟩, ⟨NN, g18⟩, ⟨LD, g19⟩, ⟨HD, g20⟩, ⟨CN, g21⟩, ⟨IS, g22⟩, ⟨QU, g23⟩, ⟨CF, g24⟩, ⟨CB, g25⟩, ⟨WY, g26⟩⟩ := hR
  have hmn := hmc.1
  refine Mi_mono (c_Ref_endb (l := l) (D := D) (t := t) (w := w) (sz := sz) g_mo g0 hmc.1 ha ⟨(hmc.2 a ha).1.2.2.1, (hmc.2 a ha).1.2.1⟩ hbd) ?_
  rintro r w' hp
  obtain ⟨e1, e2⟩ := hp
  exact ⟨e1.trans (rfl), e2⟩
set_option maxHeartbeats 4000000 in
set_option maxRecDepth 100000 in
theorem k_nextb {l : Launch} {D : va_G} {t : Nat → ClassId} {w : wf_W} {sz : Nat} {C pa sa : Nat → Nat} {k mn cz tz ca : Nat} {cl tl Sz En Nx : Nat → Nat} {a : Nat} {q2 q3 : Int32} (hAD : AD C pa sa) (hk : 2 ≤ k ∧ k ≤ 4) (hmc : mcO k mn Sz En Nx) (hcz : cz ≤ 100) (htz : tz ≤ 100) (hck : ∀ i, i < cz → cl i < k) (hC : CSt t w C pa sa k mn cz tz ca cl tl Sz En Nx) (ha : a < mn) (hbd : ¬ ((0 ≤ q2.toInt ∧ q2.toInt < Sz a) ∧ (0 ≤ q3.toInt ∧ q3.toInt < k))) : Mi l y_TM_next b_TM_next 4 (some .int) 3 64 0 0 D t w sz [.ref (C 0), .int (nI a), .int q2, .int q3] (fun r w' => r = (-2) ∧ w' = w) := by
  obtain ⟨h0, h1, ⟨cof, h2, h2c⟩, h3, ⟨ltf, h4, h4c⟩, ⟨mq, h5, h5c⟩, ⟨z, h6⟩, ⟨F, h7⟩, ⟨L, h8⟩, ⟨Z, h9⟩, ⟨K, h10⟩, ⟨Fi, h11⟩, ⟨Mk, h12⟩, ⟨nM, EM, h13⟩, ⟨fM, h14⟩, ⟨nC, EC, h15⟩, ⟨fC, h16⟩, ⟨b, en, h17⟩, ⟨G, h18⟩, ⟨Cr, h19⟩, ⟨Zc, h20⟩, ⟨op, h21⟩, ⟨zq, h22⟩, ⟨tqf, h23⟩, ⟨fb, h24, h24c⟩, h25, ⟨zl, h26, h26c⟩, ⟨lf, h27⟩, ⟨zh, h28, h28c⟩, ⟨hf, h29⟩, ⟨qz, h30⟩, ⟨Qu, h31⟩, ⟨cf, h32⟩, h33, ⟨Wy, h34⟩, ⟨ff, hpl, hmO⟩, hfree⟩ := hC
  have hmn := hmc.1
  refine Mi_mono (c_TM_nextb (l := l) (D := D) (t := t) (w := w) (sz := sz) (pa := pa) (sa := sa) (nn := Sz) (EE := En) h0 h5 (hpl a ha).1 hmc.1 ha (fun i hi => h5c i (by omega)) hk.2 (hmc.2 a ha).1.2.1 hbd) ?_
  rintro r w' hp
  obtain ⟨e1, e2⟩ := hp
  exact ⟨e1.trans (rfl), e2⟩
set_option maxHeartbeats 4000000 in
set_option maxRecDepth 100000 in
theorem k_endb {l : Launch} {D : va_G} {t : Nat → ClassId} {w : wf_W} {sz : Nat} {C pa sa : Nat → Nat} {k mn cz tz ca : Nat} {cl tl Sz En Nx : Nat → Nat} {a : Nat} {q2 : Int32} (hAD : AD C pa sa) (hk : 2 ≤ k ∧ k ≤ 4) (hmc : mcO k mn Sz En Nx) (hcz : cz ≤ 100) (htz : tz ≤ 100) (hck : ∀ i, i < cz → cl i < k) (hC : CSt t w C pa sa k mn cz tz ca cl tl Sz En Nx) (ha : a < mn) (hbd : ¬ (0 ≤ q2.toInt ∧ q2.toInt < Sz a)) : Mi l y_TM_end b_TM_end 3 (some .int) 3 64 0 0 D t w sz [.ref (C 0), .int (nI a), .int q2] (fun r w' => r = (-2) ∧ w' = w) := by
  obtain ⟨h0, h1, ⟨cof, h2, h2c⟩, h3, ⟨ltf, h4, h4c⟩, ⟨mq, h5, h5c⟩, ⟨z, h6⟩, ⟨F, h7⟩, ⟨L, h8⟩, ⟨Z, h9⟩, ⟨K, h10⟩, ⟨Fi, h11⟩, ⟨Mk, h12⟩, ⟨nM, EM, h13⟩, ⟨fM, h14⟩, ⟨nC, EC, h15⟩, ⟨fC, h16⟩, ⟨b, en, h17⟩, ⟨G, h18⟩, ⟨Cr, h19⟩, ⟨Zc, h20⟩, ⟨op, h21⟩, ⟨zq, h22⟩, ⟨tqf, h23⟩, ⟨fb, h24, h24c⟩, h25, ⟨zl, h26, h26c⟩, ⟨lf, h27⟩, ⟨zh, h28, h28c⟩, ⟨hf, h29⟩, ⟨qz, h30⟩, ⟨Qu, h31⟩, ⟨cf, h32⟩, h33, ⟨Wy, h34⟩, ⟨ff, hpl, hmO⟩, hfree⟩ := hC
  have hmn := hmc.1
  refine Mi_mono (c_TM_endb (l := l) (D := D) (t := t) (w := w) (sz := sz) (pa := pa) (sa := sa) (nn := Sz) (EE := En) h0 h5 (hpl a ha).1 hmc.1 ha (fun i hi => h5c i (by omega)) (hmc.2 a ha).1.2.1 hbd) ?_
  rintro r w' hp
  obtain ⟨e1, e2⟩ := hp
  exact ⟨e1.trans (rfl), e2⟩
set_option maxHeartbeats 4000000 in
set_option maxRecDepth 100000 in
theorem r_toldb {l : Launch} {D : va_G} {t : Nat → ClassId} {w : wf_W} {sz : Nat} {mo : Nat} {A : Nat → Nat} {k mn cz tz ca : Nat} {cl tl Sz En Nx : Nat → Nat} {q : Int32} (hRN : nd (RL mo A)) (hk : 2 ≤ k ∧ k ≤ 4) (hmc : mcO k mn Sz En Nx) (hcz : cz ≤ 100) (htz : tz ≤ 100) (hck : ∀ i, i < cz → cl i < k) (hR : RSt t w mo A k mn cz tz ca cl tl Sz En Nx) (hbd : ¬ (0 ≤ q.toInt ∧ q.toInt < tz)) : Mi l y_Ref_told b_Ref_told 2 (some .int) 1 25 0 0 D t w sz [.ref mo, .int q] (fun r w' => r = (-1) ∧ w' = w) := by
  obtain ⟨⟨pz, wy, fi, se, ho, lx, ly, ts, tS, cs, av, lz, hz1, nl, nh, ce, qd, g_mo⟩, g0, g1, g2, g3, g4, ⟨PS, g5⟩, ⟨PT, g6⟩, ⟨L, g7⟩, ⟨Z, g8⟩, ⟨LO, g9⟩, ⟨LT, g10⟩, ⟨IC, g11⟩, ⟨RW, g12⟩, ⟨CO, g13⟩, ⟨CT, g14⟩, ⟨SP, g15⟩, ⟨NU, g16⟩, ⟨OR, g17⟩, ⟨NN, g18⟩, ⟨LD, g19⟩, ⟨HD, g20⟩, ⟨CN, g21⟩, ⟨IS, g22⟩, ⟨QU, g23⟩, ⟨CF, g24⟩, ⟨CB, g25⟩, ⟨WY, g26⟩⟩ := hR
  have hmn := hmc.1
  refine Mi_mono (c_Ref_toldb (l := l) (D := D) (t := t) (w := w) (sz := sz) g_mo htz hbd) ?_
  rintro r w' hp
  obtain ⟨e1, e2⟩ := hp
  exact ⟨e1.trans (rfl), e2⟩
