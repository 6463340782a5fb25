def R_law : String := "TextMachinesLaw"
def lw_P (b : Addr) (xs : List Int32) (args : Array Value) (s : State) : Prop := args = #[.ref b] ∧ s.IntsAt b xs ∧ xs.length ≤ 2049 ∧ (Jvm.Cond.and given_1 narrow_1).before args s = true
def lw_Q (_ : Array Value) (s : State) (o : Outcome) (t : State) : Prop := o = .returned (some (.int 1)) ∧ Framed s o t [] 600000 7302250
def lw_Z (below : List Frame) (a : Array Value) (s : State) : State → Prop := fun t => ∃ o, t.status = .running ∧ Ended t below o ∧ lw_Q a s o t
/-- the law's own end, with 1 on the stack, nothing written that was there before, its room as the claim has it -/
theorem lw_ret {p : Program} {l : Launch} {e : Env} {s : State} {m : MethodId} {below : List Frame} {meth : Method} {c : Code} {b : Nat} (hx : p.tables.exec = Jvm.exec) (hb : c.code = code) (hr : meth.sig.returnType = ret) (hlocks : meth.locks = false) {pc : Nat} {H : Heap} {ls : Array Slot} (hdg : decode code pc = .ok (.ireturn, 1)) : W p l e room_1 s m #[Value.ref b] below meth c H [] 600000 7302250 (lw_Z below #[Value.ref b] s) (F0 m pc ls [.int 1]) := by
  intro T hT X
  obtain ⟨fs, hret, hrun, hended, hW, hframe⟩ := X.leave (v := some (.int 1)) (hlocks := hlocks) (fun h => by rw [hr] at h; cases h)
  have hmeth' : T.vm.method? m = some meth := X.method'
  refine ⟨T.setFrames fs, ?_, .returned (some (.int 1)), hrun, hended, rfl, ⟨_, rfl⟩, hW, hframe⟩
  jvm_step X.here [X.here.top, hx, hb, hdg, hmeth', hr, ret, narrow_b1]
  (try refine ⟨rfl, ?_⟩); (try refine ⟨rfl, ?_⟩)
  first | (intro acts; rw [hret _ acts rfl rfl rfl]) | rw [hret _ _ rfl rfl rfl]
  exact Steps.refl _
/-- what holds at the law's entry: the machine, the code, the tables' words (any of lw_tbl by 'hts w (by decide +kernel)'), the script of L ints xs at the cell b, what the Statement gives of the start (any of its parts by flat_of_before) -/
def lw_At (p : Program) (s : State) (m : MethodId) (meth : Method) (c : Code) (b L : Nat) (xs : Nat → Int32) : Prop :=
  p.tables.exec = Jvm.exec ∧ c.code = code ∧ meth.sig.returnType = ret ∧ c.maxLocals = 4 ∧ s.vm.findClass R_law = some m.cls ∧ (∀ w ∈ lw_tbl, w.before #[Value.ref b] s = true) ∧ va_X b L xs s s.heap ∧ b < s.heap.size ∧ meth.locks = false ∧ (Jvm.Cond.and given_1 narrow_1).before #[Value.ref b] s = true
set_option maxHeartbeats 4000000 in
set_option maxRecDepth 100000 in
theorem lw_sw {l : Launch} {p : Program} {e : Env} {s : State} {m : MethodId} {below : List Frame} {meth : Method} {c : Code} {D : va_G} {t : Nat → ClassId} {nm : String} {ret0 : Option FieldType} {b L : Nat} {xs : Nat → Int32} {Q : State → Prop} {w : wf_W} {H : Heap} {locs : List Loc} {ls : Array Slot} {cells slots i : Nat} {C pa sa : Nat → Nat} {mo : Nat} {A : Nat → Nat} {k mn cz tz ca : Nat} {cl tl Sz En Nx : Nat → Nat} (X : Cx p s m meth c R_Law nm code 4 ret0 D t) (hX : va_X b L xs s s.heap) (hbl : b < s.heap.size) (hB : wf_B D wcl (fun q : Nat => s.heap.size ≤ q) s.heap w H locs) (hI : LI t w C pa sa mo A k mn cz tz ca cl tl Sz En Nx) (hl : lv_has ls 4 [(0, .ref b), (1, .ref (C 0)), (2, .ref mo), (3, .int (nI i))]) (hi : i + 3 < L) (hL : L ≤ 2049) (hcc : cells + 1 ≤ 600000 ∧ slots + 3 ≤ 7302250) (K : ∀ (w' : wf_W) (H' : Heap) (locs' : List Loc) (mn' cz' tz' ca' : Nat) (cl' tl' Sz' En' Nx' : Nat → Nat), LI t w' C pa sa mo A k mn' cz' tz' ca' cl' tl' Sz' En' Nx' → wf_B D wcl (fun q : Nat => s.heap.size ≤ q) s.heap w' H' locs' → W p l e room_1 s m #[Value.ref b] below meth c H' locs' (cells + 1) (slots + 3) Q (F0 m 1009 ls [])) {y : Int32} : W p l e room_1 s m #[Value.ref b] below meth c H locs cells slots Q (F0 m 42 ls [.int y]) := by
  have hx := X.1
  have hb := X.2.1
  by_cases hr : y.toInt < 0 ∨ 27 < y.toInt
  · refine lv_tableOut (tgt := 1009) hx hb d_law_42 hr (by decide) ?_
    refine W.widen (k := cells + 1) (n := slots + 3) (by omega) (by omega) ?_
    exact K _ _ _ _ _ _ _ _ _ _ _ _ hI hB
  · have h1 : ¬ y.toInt < 0 := fun h => hr (Or.inl h)
    have h2 : ¬ 27 < y.toInt := fun h => hr (Or.inr h)
    obtain ⟨n, hn⟩ : ∃ n : Nat, y.toInt = (n : Int) := ⟨y.toInt.toNat, by omega⟩
    have hn27 : n < 28 := by omega
    match n, hn, hn27 with
    | 0, hn, _ => exact lv_tableIn (off := 126) (tgt := 168) hx hb d_law_42 h1 h2 (by rw [hn]; rfl) (by decide) (lw_c0 X hX hbl hB hI hl hi hL hcc K)
    | 1, hn, _ => exact lv_tableIn (off := 139) (tgt := 181) hx hb d_law_42 h1 h2 (by rw [hn]; rfl) (by decide) (lw_c1 X hX hbl hB hI hl hi hL hcc K)
    | 2, hn, _ => exact lv_tableIn (off := 162) (tgt := 204) hx hb d_law_42 h1 h2 (by rw [hn]; rfl) (by decide) (lw_c2 X hX hbl hB hI hl hi hL hcc K)
    | 3, hn, _ => exact lv_tableIn (off := 175) (tgt := 217) hx hb d_law_42 h1 h2 (by rw [hn]; rfl) (by decide) (lw_c3 X hX hbl hB hI hl hi hL hcc K)
    | 4, hn, _ => exact lv_tableIn (off := 198) (tgt := 240) hx hb d_law_42 h1 h2 (by rw [hn]; rfl) (by decide) (lw_c4 X hX hbl hB hI hl hi hL hcc K)
    | 5, hn, _ => exact lv_tableIn (off := 241) (tgt := 283) hx hb d_law_42 h1 h2 (by rw [hn]; rfl) (by decide) (lw_c5 X hX hbl hB hI hl hi hL hcc K)
    | 6, hn, _ => exact lv_tableIn (off := 264) (tgt := 306) hx hb d_law_42 h1 h2 (by rw [hn]; rfl) (by decide) (lw_c6 X hX hbl hB hI hl hi hL hcc K)
    | 7, hn, _ => exact lv_tableIn (off := 297) (tgt := 339) hx hb d_law_42 h1 h2 (by rw [hn]; rfl) (by decide) (lw_c7 X hX hbl hB hI hl hi hL hcc K)
    | 8, hn, _ => exact lv_tableIn (off := 320) (tgt := 362) hx hb d_law_42 h1 h2 (by rw [hn]; rfl) (by decide) (lw_c8 X hX hbl hB hI hl hi hL hcc K)
    | 9, hn, _ => exact lv_tableIn (off := 343) (tgt := 385) hx hb d_law_42 h1 h2 (by rw [hn]; rfl) (by decide) (lw_c9 X hX hbl hB hI hl hi hL hcc K)
    | 10, hn, _ => exact lv_tableIn (off := 386) (tgt := 428) hx hb d_law_42 h1 h2 (by rw [hn]; rfl) (by decide) (lw_c10 X hX hbl hB hI hl hi hL hcc K)
    | 11, hn, _ => exact lv_tableIn (off := 419) (tgt := 461) hx hb d_law_42 h1 h2 (by rw [hn]; rfl) (by decide) (lw_c11 X hX hbl hB hI hl hi hL hcc K)
    | 12, hn, _ => exact lv_tableIn (off := 452) (tgt := 494) hx hb d_law_42 h1 h2 (by rw [hn]; rfl) (by decide) (lw_c12 X hX hbl hB hI hl hi hL hcc K)
    | 13, hn, _ => exact lv_tableIn (off := 485) (tgt := 527) hx hb d_law_42 h1 h2 (by rw [hn]; rfl) (by decide) (lw_c13 X hX hbl hB hI hl hi hL hcc K)
    | 14, hn, _ => exact lv_tableIn (off := 518) (tgt := 560) hx hb d_law_42 h1 h2 (by rw [hn]; rfl) (by decide) (lw_c14 X hX hbl hB hI hl hi hL hcc K)
    | 15, hn, _ => exact lv_tableIn (off := 551) (tgt := 593) hx hb d_law_42 h1 h2 (by rw [hn]; rfl) (by decide) (lw_c15 X hX hbl hB hI hl hi hL hcc K)
    | 16, hn, _ => exact lv_tableIn (off := 610) (tgt := 652) hx hb d_law_42 h1 h2 (by rw [hn]; rfl) (by decide) (lw_c16 X hX hbl hB hI hl hi hL hcc K)
    | 17, hn, _ => exact lv_tableIn (off := 643) (tgt := 685) hx hb d_law_42 h1 h2 (by rw [hn]; rfl) (by decide) (lw_c17 X hX hbl hB hI hl hi hL hcc K)
    | 18, hn, _ => exact lv_tableIn (off := 666) (tgt := 708) hx hb d_law_42 h1 h2 (by rw [hn]; rfl) (by decide) (lw_c18 X hX hbl hB hI hl hi hL hcc K)
    | 19, hn, _ => exact lv_tableIn (off := 709) (tgt := 751) hx hb d_law_42 h1 h2 (by rw [hn]; rfl) (by decide) (lw_c19 X hX hbl hB hI hl hi hL hcc K)
    | 20, hn, _ => exact lv_tableIn (off := 742) (tgt := 784) hx hb d_law_42 h1 h2 (by rw [hn]; rfl) (by decide) (lw_c20 X hX hbl hB hI hl hi hL hcc K)
    | 21, hn, _ => exact lv_tableIn (off := 765) (tgt := 807) hx hb d_law_42 h1 h2 (by rw [hn]; rfl) (by decide) (lw_c21 X hX hbl hB hI hl hi hL hcc K)
    | 22, hn, _ => exact lv_tableIn (off := 798) (tgt := 840) hx hb d_law_42 h1 h2 (by rw [hn]; rfl) (by decide) (lw_c22 X hX hbl hB hI hl hi hL hcc K)
    | 23, hn, _ => exact lv_tableIn (off := 831) (tgt := 873) hx hb d_law_42 h1 h2 (by rw [hn]; rfl) (by decide) (lw_c23 X hX hbl hB hI hl hi hL hcc K)
    | 24, hn, _ => exact lv_tableIn (off := 865) (tgt := 907) hx hb d_law_42 h1 h2 (by rw [hn]; rfl) (by decide) (lw_c24 X hX hbl hB hI hl hi hL hcc K)
    | 25, hn, _ => exact lv_tableIn (off := 898) (tgt := 940) hx hb d_law_42 h1 h2 (by rw [hn]; rfl) (by decide) (lw_c25 X hX hbl hB hI hl hi hL hcc K)
    | 26, hn, _ => exact lv_tableIn (off := 921) (tgt := 963) hx hb d_law_42 h1 h2 (by rw [hn]; rfl) (by decide) (lw_c26 X hX hbl hB hI hl hi hL hcc K)
    | 27, hn, _ => exact lv_tableIn (off := 944) (tgt := 986) hx hb d_law_42 h1 h2 (by rw [hn]; rfl) (by decide) (lw_c27 X hX hbl hB hI hl hi hL hcc K)
    | n + 28, _, h => exact absurd h (by omega)
set_option maxHeartbeats 4000000 in
set_option maxRecDepth 100000 in
theorem lw_loop {l : Launch} {p : Program} {e : Env} {s : State} {m : MethodId} {below : List Frame} {meth : Method} {c : Code} {D : va_G} {t : Nat → ClassId} {nm : String} {ret0 : Option FieldType} {b L : Nat} {xs : Nat → Int32} {C pa sa : Nat → Nat} {mo : Nat} {A : Nat → Nat} {k : Nat} (X : Cx p s m meth c R_Law nm code 4 ret0 D t) (hrt : meth.sig.returnType = ret) (hlk : meth.locks = false) (hX : va_X b L xs s s.heap) (hbl : b < s.heap.size) (hL : L ≤ 2049) :
    ∀ (fu i : Nat) (w : wf_W) (H : Heap) (locs : List Loc) (ls : Array Slot) (cells slots mn cz tz ca : Nat) (cl tl Sz En Nx : Nat → Nat), L < fu + i → i ≤ 2053 → cells + (3000 - i) ≤ 600000 → slots + 3 * (3000 - i) ≤ 7302250 → wf_B D wcl (fun q : Nat => s.heap.size ≤ q) s.heap w H locs → LI t w C pa sa mo A k mn cz tz ca cl tl Sz En Nx → lv_has ls 4 [(0, .ref b), (1, .ref (C 0)), (2, .ref mo), (3, .int (nI i))] → W p l e room_1 s m #[Value.ref b] below meth c H locs cells slots (lw_Z below #[Value.ref b] s) (F0 m 28 ls []) := by
  have hx := X.1
  have hb := X.2.1
  have hbA : ¬ (fun q : Nat => s.heap.size ≤ q) b := Nat.not_le.mpr hbl
  intro fu
  induction fu with
  | zero =>
    intro i w H locs ls cells slots mn cz tz ca cl tl Sz En Nx hf hi hc1 hc2 hB hI hl
    refine lv_iload_n hx hb d_law_28 rfl (lv_at hl 3 rfl) ?_
    refine lv_aload_n hx hb d_law_29 rfl (lv_at hl 0 rfl) ?_
    refine va_slen hx hb hX hbl hbA hB.2.2 d_law_30 ?_
    refine lv_iconst (v := nI 4) hx hb d_law_31 (by decide) ?_
    refine lv_isub (x := nI L) (y := nI 4) hx hb d_law_32 ?_
    refine wf_cgt (X := (i : Int)) (Y := (L : Int) - 4) (tgt := 1015) hx hb d_law_33 (by decide) (nI_toInt (by omega)) (pk_sub_toInt (by omega) (by omega)) (fun _ => ?_) (fun h => absurd h (by omega))
    refine lv_iconst (v := 1) hx hb d_law_1015 (by decide) ?_
    refine va_forget hB.2.2.2.2 ?_
    refine W.widen (k := 600000) (n := 7302250) (by omega) (by omega) ?_
    exact lw_ret hx hb hrt hlk d_law_1016
  | succ fu ih =>
    intro i w H locs ls cells slots mn cz tz ca cl tl Sz En Nx hf hi hc1 hc2 hB hI hl
    refine lv_iload_n hx hb d_law_28 rfl (lv_at hl 3 rfl) ?_
    refine lv_aload_n hx hb d_law_29 rfl (lv_at hl 0 rfl) ?_
    refine va_slen hx hb hX hbl hbA hB.2.2 d_law_30 ?_
    refine lv_iconst (v := nI 4) hx hb d_law_31 (by decide) ?_
    refine lv_isub (x := nI L) (y := nI 4) hx hb d_law_32 ?_
    refine wf_cgt (X := (i : Int)) (Y := (L : Int) - 4) (tgt := 1015) hx hb d_law_33 (by decide) (nI_toInt (by omega)) (pk_sub_toInt (by omega) (by omega)) (fun _ => ?_) (fun h => ?_)
    · refine lv_iconst (v := 1) hx hb d_law_1015 (by decide) ?_
      refine va_forget hB.2.2.2.2 ?_
      refine W.widen (k := 600000) (n := 7302250) (by omega) (by omega) ?_
      exact lw_ret hx hb hrt hlk d_law_1016
    · refine lv_aload_n hx hb d_law_36 rfl (lv_at hl 0 rfl) ?_
      refine lv_iload_n hx hb d_law_37 rfl (lv_at hl 3 rfl) ?_
      refine lw_ld hx hb hX hbl hB hbA (n := i) (by omega) hL d_law_38 ?_
      refine lv_bipush (v := nI 31) hx hb d_law_39 (by decide) ?_
      refine lv_iand hx hb d_law_41 ?_
      refine lw_sw X hX hbl hB hI hl (by omega) hL ⟨by omega, by omega⟩ (fun w2 H2 locs2 mn2 cz2 tz2 ca2 cl2 tl2 Sz2 En2 Nx2 hI2 hB2 => ?_)
      refine lv_iinc (v := nI (i + 4)) (lv' := [(3, .int (nI (i + 4))), (0, .ref b), (1, .ref (C 0)), (2, .ref mo)]) hx hb d_law_1009 hl (k := 3) rfl (show nI i + nI 4 = nI (i + 4) from nI_add _ _) (by decide) rfl (fun ls2 hl2 => ?_)
      refine lv_goto (tgt := 28) hx hb d_law_1012 (by decide) ?_
      exact ih (i + 4) w2 H2 locs2 ls2 (cells + 1) (slots + 3) mn2 cz2 tz2 ca2 cl2 tl2 Sz2 En2 Nx2 (by omega) (by omega) (by omega) (by omega) hB2 hI2 (lv_sub hl2 [1, 2, 3, 0] rfl)
