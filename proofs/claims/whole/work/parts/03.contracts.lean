/-! CONTRACTS over function worlds -/
/-- a word that GoodIn doesn't take, and that stays true while the machine links -/
def wf_nok : Cond → Bool
  | .fieldLinkNest .. => true
  | .methodLinkNest .. => true
  | .declares .. => true
  | .castable .. => true
  | .arrayOver (.object _) => true
  | _ => false
theorem wf_nok_warm {x : Cond} (h : wf_nok x = true) {s U : State} (hW : s.WarmedH U.vm) (hx : va_Nw x s) : va_Nw x U := by
  match x, h with
  | .fieldLinkNest .., _ => exact va_Nw.warmF hW hx
  | .methodLinkNest .., _ => exact va_Nw.warmM hW hx
  | .declares .., _ => exact va_Nw.warmD hW hx
  | .castable .., _ => exact va_Nw.warmC hW hx
  | .arrayOver (.object C), _ => exact va_AO.moved (C := C) hW.alike hx
theorem wf_nok_any {x : Cond} (h : wf_nok x = true) {A B : Array Value} {U : State} (hx : x.before A U = true) : x.before B U = true := by
  match x, h with
  | .fieldLinkNest .., _ => exact va_any rfl hx
  | .methodLinkNest .., _ => exact va_any rfl hx
  | .declares .., _ => exact va_any rfl hx
  | .castable .., _ => exact va_any rfl hx
  | .arrayOver (.object C), _ => exact hx
/-- the words of the tables that stay true while the machine links -/
def wokay (x : Cond) : Bool := goodWord x || wf_nok x
def TW : List Cond := lw_tbl.filter wokay
theorem twm (i : Nat) {x : Cond} (h : lw_tbl[i]? = some x) (hg : wokay x = true) : x ∈ TW := List.mem_filter.mpr ⟨List.mem_of_getElem? h, hg⟩
/-- what the tables say in every state of a run -/
def wf_E (D : va_G) (cl : List vw_C) (tys : List (ClassId × FieldType)) (U : State) : Prop := va_K D cl tys U ∧ ∀ x ∈ TW, ∀ A : Array Value, x.before A U = true
theorem wf_word_warm {x : Cond} (hx : wokay x = true) {s U : State} (hW : s.WarmedH U.vm) (h : ∀ A : Array Value, x.before A s = true) (A : Array Value) : x.before A U = true := by
  rcases Bool.or_eq_true_iff.mp hx with g | g
  · exact word_at hW (good_of_word g) (h #[])
  · exact wf_nok_any g (wf_nok_warm g hW (h #[]))
theorem wf_E.warm {D : va_G} {cl : List vw_C} {tys : List (ClassId × FieldType)} {s U : State} (h : wf_E D cl tys s) (hW : s.WarmedH U.vm) : wf_E D cl tys U := ⟨va_K.moved hW.alike h.1, fun x hx => wf_word_warm (List.mem_filter.mp hx).2 hW (h.2 x hx)⟩
theorem wf_E.same {D : va_G} {cl : List vw_C} {tys : List (ClassId × FieldType)} {s U : State} (h : wf_E D cl tys s) (hv : s.vm = U.vm) : wf_E D cl tys U := h.warm (by rw [← hv]; exact State.WarmedH.refl s)
theorem wf_good1 {y : MethodName} {b : ByteArray} {n : Nat} {r : Option FieldType} (h : Cond.code y b n r ∈ TW) : GoodIn TW [Cond.code y b n r] := fun x hx => by
  rw [List.mem_singleton.mp hx]
  exact ⟨h, Or.inl rfl⟩
theorem wf_goodV {own C : String} {idx n : Nat} {y : MethodName} {b : ByteArray} {r : Option FieldType} (h1 : Cond.methodLink own idx y ∈ TW) (h2 : Cond.instanceMethod y ∈ TW) (h3 : Cond.selects C y y ∈ TW) (h4 : Cond.initialized C ∈ TW) (h : Cond.code y b n r ∈ TW) : GoodIn TW (wsV own idx C y [Cond.code y b n r]) := by
  intro x hx
  simp only [wsV, List.mem_append, List.mem_cons, List.not_mem_nil, or_false] at hx
  rcases hx with (rfl | rfl | rfl | rfl) | rfl
  · exact ⟨h1, Or.inl rfl⟩
  · exact ⟨h2, Or.inl rfl⟩
  · exact ⟨h3, Or.inl rfl⟩
  · exact ⟨h4, Or.inl rfl⟩
  · exact ⟨h, Or.inl rfl⟩
theorem wf_goodS {own : String} {idx n : Nat} {y : MethodName} {b : ByteArray} {r : Option FieldType} (h1 : Cond.methodLink own idx y ∈ TW) (h2 : Cond.static y ∈ TW) (h4 : Cond.initialized own ∈ TW) (h : Cond.code y b n r ∈ TW) : GoodIn TW (wsS own idx y [Cond.code y b n r]) := by
  intro x hx
  simp only [wsS, List.mem_append, List.mem_cons, List.not_mem_nil, or_false] at hx
  rcases hx with (rfl | rfl | rfl) | rfl
  · exact ⟨h1, Or.inl rfl⟩
  · exact ⟨h2, Or.inl rfl⟩
  · exact ⟨h4, Or.inl rfl⟩
  · exact ⟨h, Or.inl rfl⟩
theorem wf_goodU {own C owner : String} {idx n : Nat} {x y : MethodName} {b : ByteArray} {r : Option FieldType} (h1 : Cond.methodLink own idx x ∈ TW) (h2 : Cond.sameMethod x.cls owner x.name x.desc ∈ TW) (h3 : Cond.selects C x y ∈ TW) (h4 : Cond.instanceMethod y ∈ TW) (h5 : Cond.initialized y.cls ∈ TW) (h : Cond.code y b n r ∈ TW) : GoodIn TW (va_wsU own idx C owner x y [Cond.code y b n r]) := by
  intro z hx
  simp only [va_wsU, List.mem_append, List.mem_cons, List.not_mem_nil, or_false] at hx
  rcases hx with (rfl | rfl | rfl | rfl | rfl) | rfl
  · exact ⟨h1, Or.inl rfl⟩
  · exact ⟨h2, Or.inl rfl⟩
  · exact ⟨h3, Or.inl rfl⟩
  · exact ⟨h4, Or.inl rfl⟩
  · exact ⟨h5, Or.inl rfl⟩
  · exact ⟨h, Or.inl rfl⟩
def wf_Pre (D : va_G) (cl : List vw_C) (tys : List (ClassId × FieldType)) (w : wf_W) (sz : Nat) (av : List Value) : Array Value → State → Prop := va_Pc av (fun U => U.heap.size = sz ∧ wf_P D cl w U.heap ∧ wf_E D cl tys U)
def wf_Pst (D : va_G) (cl : List vw_C) (w : wf_W) (sz : Nat) (w' : wf_W) (t : State) : Prop := wf_P D cl w' t.heap ∧ ∀ (a : Nat) (e : va_E), w' a = some e → wf_A w sz a
/-- a method that answers an int (or a boolean), a long, nothing, a reference -/
def wf_Qi (D : va_G) (cl : List vw_C) (w : wf_W) (post : Int32 → wf_W → Prop) (sz : Nat) : Array Value → State → Outcome → State → Prop := va_Qi post (wf_Pst D cl w sz) (wf_A w sz)
def wf_Ql (D : va_G) (cl : List vw_C) (w : wf_W) (post : Int64 → wf_W → Prop) (sz : Nat) : Array Value → State → Outcome → State → Prop := va_Ql post (wf_Pst D cl w sz) (wf_A w sz)
def wf_Qv (D : va_G) (cl : List vw_C) (w : wf_W) (post : wf_W → Prop) (sz : Nat) : Array Value → State → Outcome → State → Prop := va_Qv post (wf_Pst D cl w sz) (wf_A w sz)
def wf_Qr (D : va_G) (cl : List vw_C) (w : wf_W) (post : Nat → wf_W → Prop) (sz : Nat) : Array Value → State → Outcome → State → Prop := va_Qr (fun u : Nat × wf_W => post u.1 u.2) (fun u a t => a = u.1 ∧ wf_Pst D cl w sz u.2 t) (wf_A w sz)
theorem wf_blind {D : va_G} {cl : List vw_C} {tys : List (ClassId × FieldType)} {w : wf_W} {sz : Nat} {av : List Value} : FrameBlind (wf_Pre D cl tys w sz av) := fun a U g mk q => ⟨q.1, q.2.1, q.2.2.1, wf_E.same (s := U) (U := U.calling g mk a) q.2.2.2 rfl⟩
/-- what holds in a method's body, from its entry to its end -/
def wf_Cx (p : Program) (s : State) (m : MethodId) (args : Array Value) (meth : Method) (c : Code) (y : MethodName) (cc : ByteArray) (maxL : Nat) (ret : Option FieldType) (ws : List Cond) : Prop :=
  p.tables.exec = Jvm.exec ∧ c.code = cc ∧ meth.sig.returnType = ret ∧ c.maxLocals = maxL ∧ (∀ x ∈ ws, x.before args s = true) ∧ s.vm.findClass y.cls = some m.cls ∧ meth.locks = false ∧ meth.name = y.name
theorem wf_enter {l : Launch} {y : MethodName} {ws ws' : List Cond} {rm : Room} {D : va_G} {cl : List vw_C} {tys : List (ClassId × FieldType)} {w : wf_W} {sz : Nat} {av : List Value} {Qc : Nat → Array Value → State → Outcome → State → Prop} {mc ms : Nat} {cc : ByteArray} {maxL : Nat} {ret : Option FieldType}
    (hy : plainName y.cls = true) (hw : ws = Cond.code y cc maxL ret :: ws') (hn : (lg_sl av).length ≤ maxL)
    (body : ∀ (p : Program) (e : Env) (s : State) (m : MethodId) (below : List Frame) (meth : Method) (c : Code) (ls : Array Slot), wf_Cx p s m av.toArray meth c y cc maxL ret ws → wf_E D cl tys s → wf_B D cl (wf_A w s.heap.size) s.heap w s.heap [] → lv_has ls maxL (lv_args 0 av) →
      W p l e rm s m av.toArray below meth c s.heap [] 0 0 (MQ below (Qc s.heap.size) av.toArray s mc ms (wf_A w s.heap.size)) (F0 m 0 ls [])) :
    Met l y ws rm (wf_Pre D cl tys w sz av) (Qc sz) mc ms (wf_A w sz) := by
  refine Met.ofW (cc := cc) (maxL := maxL) (ret := ret) hy hw ?_
  intro p e s m args below meth c s₁ B hml hv
  obtain ⟨rfl, hsz, hP, hE⟩ := hv
  subst hsz
  have hl := lv_entry av (n := maxL) hn
  rw [lg_entry_eq]
  generalize (lg_sl av ++ List.replicate (maxL - (lg_sl av).length) Slot.unset).toArray = ls at hl ⊢
  exact body p e s m below meth c ls ⟨B.exec, B.bytes, B.returns, hml, atoms_spec (ws := ws) B.pre, findClass_of_methodNamed B.named, B.notSynchronized, (name_of_methodNamed B.named B.method).1⟩ hE ⟨hP, fun a e h => Or.inl ⟨e, h⟩, va_S.rf⟩ hl
theorem wf_hA {w : wf_W} {H0 : Heap} : ∀ q : Nat, H0.size ≤ q → wf_A w H0.size q := fun _ h => Or.inr h
section WC
variable {p : Program} {l : Launch} {e : Env} {R : Room} {s : State} {m : MethodId} {args : Array Value} {below : List Frame} {meth : Method} {c : Code} {H : Heap} {locs : List Loc} {cells slots : Nat} {Q : State → Prop}
variable {cc : ByteArray} {pc : Nat} {ls : Array Slot} {rest st0 : List Value} {D : va_G} {cl : List vw_C} {A : Nat → Prop} {tys : List (ClassId × FieldType)} {w w0 : wf_W} {H0 : Heap} {mc ms : Nat} {av : Array Value}
theorem wf_preS {As : List Value} (hE : wf_E D cl tys s) (hB : wf_B D cl A H0 w H locs) : PreS s H (wf_Pre D cl tys w H.size As) As := ⟨wf_blind, fun U hU hW => ⟨rfl, by rw [hU], by rw [hU]; exact hB.1, hE.warm hW⟩⟩
theorem wf_preV {As : List Value} {C : String} {b ci : Nat} {q : vw_C} {fs : List Value} (hE : wf_E D cl tys s) (hB : wf_B D cl A H0 w H locs) (hw : w b = some (.inr (ci, fs))) (hc : cl[ci]? = some q) (hq : q.1 = C) : PreV s H C b (wf_Pre D cl tys w H.size (.ref b :: As)) As := by
  obtain ⟨k, hk⟩ := wf_pos hB.1 hw
  subst hq
  exact ⟨wf_blind, va_recv hE.1 (wf_toP hB.1) hc hk, fun U hU hW => ⟨rfl, by rw [hU], by rw [hU]; exact hB.1, hE.warm hW⟩⟩
theorem wf_cA (hB : wf_B D cl A H0 w H locs) (hA : ∀ q, H0.size ≤ q → A q) : ∀ q, wf_A w H.size q → A q := fun q h => by
  rcases h with ⟨x, h⟩ | h
  · exact hB.2.1 q x h
  · exact hA q (Nat.le_trans hB.2.2.1 h)
theorem wf_calli {post : Int32 → wf_W → Prop} (hr : va_Run p l e R s m args below meth c H locs cells slots mc ms (F0 m pc ls st0) rest (wf_Qi D cl w post H.size av) (wf_A w H.size)) (hB : wf_B D cl A H0 w H locs) (hA : ∀ q, H0.size ≤ q → A q)
    (kk : ∀ (r : Int32) (w : wf_W) (H : Heap) (locs : List Loc), post r w → wf_B D cl A H0 w H locs → W p l e R s m args below meth c H locs (cells + mc) (slots + ms) Q (F0 m (pc + 3) ls (.int r :: rest))) : W p l e R s m args below meth c H locs cells slots Q (F0 m pc ls st0) :=
  va_calli hr hB.2.2 (fun q _ h => wf_cA hB hA q h) (wf_cA hB hA) (fun r u t H1 locs1 ht hvm hw hb hz hk hS => kk r u H1 locs1 hw ⟨by rw [← ht]; exact hb.1, fun a x h => wf_cA hB hA a (hb.2 a x h), hS⟩)
theorem wf_calll {post : Int64 → wf_W → Prop} (hr : va_Run p l e R s m args below meth c H locs cells slots mc ms (F0 m pc ls st0) rest (wf_Ql D cl w post H.size av) (wf_A w H.size)) (hB : wf_B D cl A H0 w H locs) (hA : ∀ q, H0.size ≤ q → A q)
    (kk : ∀ (r : Int64) (w : wf_W) (H : Heap) (locs : List Loc), post r w → wf_B D cl A H0 w H locs → W p l e R s m args below meth c H locs (cells + mc) (slots + ms) Q (F0 m (pc + 3) ls (.long r :: rest))) : W p l e R s m args below meth c H locs cells slots Q (F0 m pc ls st0) :=
  va_calll hr hB.2.2 (fun q _ h => wf_cA hB hA q h) (wf_cA hB hA) (fun r u t H1 locs1 ht hvm hw hb hz hk hS => kk r u H1 locs1 hw ⟨by rw [← ht]; exact hb.1, fun a x h => wf_cA hB hA a (hb.2 a x h), hS⟩)
theorem wf_callv {post : wf_W → Prop} (hr : va_Run p l e R s m args below meth c H locs cells slots mc ms (F0 m pc ls st0) rest (wf_Qv D cl w post H.size av) (wf_A w H.size)) (hB : wf_B D cl A H0 w H locs) (hA : ∀ q, H0.size ≤ q → A q)
    (kk : ∀ (w : wf_W) (H : Heap) (locs : List Loc), post w → wf_B D cl A H0 w H locs → W p l e R s m args below meth c H locs (cells + mc) (slots + ms) Q (F0 m (pc + 3) ls rest)) : W p l e R s m args below meth c H locs cells slots Q (F0 m pc ls st0) :=
  va_callv hr hB.2.2 (fun q _ h => wf_cA hB hA q h) (wf_cA hB hA) (fun u t H1 locs1 ht hvm hw hb hz hk hS => kk u H1 locs1 hw ⟨by rw [← ht]; exact hb.1, fun a x h => wf_cA hB hA a (hb.2 a x h), hS⟩)
theorem wf_callr {post : Nat → wf_W → Prop} (hr : va_Run p l e R s m args below meth c H locs cells slots mc ms (F0 m pc ls st0) rest (wf_Qr D cl w post H.size av) (wf_A w H.size)) (hB : wf_B D cl A H0 w H locs) (hA : ∀ q, H0.size ≤ q → A q)
    (kk : ∀ (q : Nat) (w : wf_W) (H : Heap) (locs : List Loc), post q w → wf_B D cl A H0 w H locs → W p l e R s m args below meth c H locs (cells + mc) (slots + ms) Q (F0 m (pc + 3) ls (.ref q :: rest))) : W p l e R s m args below meth c H locs cells slots Q (F0 m pc ls st0) :=
  va_callr hr hB.2.2 (fun q _ h => wf_cA hB hA q h) (wf_cA hB hA) (fun u a t H1 locs1 ht hvm hw hb hz hk hS => by
    obtain ⟨q, w'⟩ := u
    obtain ⟨hq, hb⟩ := hb
    subst hq
    exact kk _ w' H1 locs1 hw ⟨by rw [← ht]; exact hb.1, fun a x h => wf_cA hB hA a (hb.2 a x h), hS⟩)
theorem wf_iret {post : Int32 → wf_W → Prop} {v : Int32} (hexec : p.tables.exec = Jvm.exec) (hb : c.code = cc) (hr : meth.sig.returnType = some .int) (hlocks : meth.locks = false) (hB : wf_B D cl (wf_A w0 s.heap.size) s.heap w H locs) (hdg : decode cc pc = .ok (.ireturn, 1)) (hp : post v w) :
    W p l e R s m args below meth c H locs cells slots (MQ below (wf_Qi D cl w0 post s.heap.size) args s cells slots (wf_A w0 s.heap.size)) (F0 m pc ls [.int v]) :=
  W.iret hexec hb hr (fun t ht hW => ⟨⟨v, w, rfl, hp, by rw [ht]; exact hB.1, hB.2.1⟩, hB.2.2.F ht⟩) hB.2.2.2.2 hdg hlocks
theorem wf_zret {post : Int32 → wf_W → Prop} {v : Int32} {ty : FieldType} (hexec : p.tables.exec = Jvm.exec) (hb : c.code = cc) (hr : meth.sig.returnType = some ty) (hlocks : meth.locks = false) (hn : narrow ty (.int v) = .int v) (hB : wf_B D cl (wf_A w0 s.heap.size) s.heap w H locs) (hdg : decode cc pc = .ok (.ireturn, 1)) (hp : post v w) :
    W p l e R s m args below meth c H locs cells slots (MQ below (wf_Qi D cl w0 post s.heap.size) args s cells slots (wf_A w0 s.heap.size)) (F0 m pc ls [.int v]) :=
  W.zret hexec hb hr hn (fun t ht hW => ⟨⟨v, w, rfl, hp, by rw [ht]; exact hB.1, hB.2.1⟩, hB.2.2.F ht⟩) hB.2.2.2.2 hdg hlocks
theorem wf_lret {post : Int64 → wf_W → Prop} {v : Int64} (hexec : p.tables.exec = Jvm.exec) (hb : c.code = cc) (hr : meth.sig.returnType = some .long) (hlocks : meth.locks = false) (hB : wf_B D cl (wf_A w0 s.heap.size) s.heap w H locs) (hdg : decode cc pc = .ok (.lreturn, 1)) (hp : post v w) :
    W p l e R s m args below meth c H locs cells slots (MQ below (wf_Ql D cl w0 post s.heap.size) args s cells slots (wf_A w0 s.heap.size)) (F0 m pc ls [.long v]) :=
  W.lret hexec hb hr (fun t ht hW => ⟨⟨v, w, rfl, hp, by rw [ht]; exact hB.1, hB.2.1⟩, hB.2.2.F ht⟩) hB.2.2.2.2 hdg hlocks
theorem wf_vret {post : wf_W → Prop} (hexec : p.tables.exec = Jvm.exec) (hb : c.code = cc) (hr : meth.sig.returnType = none) (hlocks : meth.locks = false) (hB : wf_B D cl (wf_A w0 s.heap.size) s.heap w H locs) (hdg : decode cc pc = .ok (.return_, 1)) (hp : post w) :
    W p l e R s m args below meth c H locs cells slots (MQ below (wf_Qv D cl w0 post s.heap.size) args s cells slots (wf_A w0 s.heap.size)) (F0 m pc ls []) :=
  W.vret hexec hb hr (fun t ht hW => ⟨⟨w, rfl, hp, by rw [ht]; exact hB.1, hB.2.1⟩, hB.2.2.F ht⟩) hB.2.2.2.2 hdg hlocks
theorem wf_aret {post : Nat → wf_W → Prop} {q : Nat} {rt : FieldType} (hexec : p.tables.exec = Jvm.exec) (hb : c.code = cc) (hr : meth.sig.returnType = some rt) (hrt : (∃ n, rt = .object n) ∨ ∃ t, rt = .array t) (hlocks : meth.locks = false) (hB : wf_B D cl (wf_A w0 s.heap.size) s.heap w H locs) (hdg : decode cc pc = .ok (.areturn, 1)) (hp : post q w) :
    W p l e R s m args below meth c H locs cells slots (MQ below (wf_Qr D cl w0 post s.heap.size) args s cells slots (wf_A w0 s.heap.size)) (F0 m pc ls [.ref q]) :=
  W.aret hexec hb hr hrt (Or.inr ⟨q, rfl⟩) (fun t ht hW => ⟨⟨(q, w), q, rfl, hp, rfl, by rw [ht]; exact hB.1, hB.2.1⟩, hB.2.2.F ht⟩) hB.2.2.2.2 hdg hlocks
end WC
/-! ROWS OF NUMBERS -/
def bI (b : Bool) : Int32 := if b then 1 else 0
section WN
variable {p : Program} {l : Launch} {e : Env} {R : Room} {s : State} {m : MethodId} {args : Array Value} {below : List Frame} {meth : Method} {c : Code} {H : Heap} {locs : List Loc} {cells slots : Nat} {Q : State → Prop}
variable {cc : ByteArray} {pc : Nat} {ls : Array Slot} {rest : List Value}
theorem wf_ti {x y : Int32} (h : x = y) (k : W p l e R s m args below meth c H locs cells slots Q (F0 m pc ls (.int y :: rest))) : W p l e R s m args below meth c H locs cells slots Q (F0 m pc ls (.int x :: rest)) := by
  subst h
  exact k
theorem wf_tl {x y : Int64} (h : x = y) (k : W p l e R s m args below meth c H locs cells slots Q (F0 m pc ls (.long y :: rest))) : W p l e R s m args below meth c H locs cells slots Q (F0 m pc ls (.long x :: rest)) := by
  subst h
  exact k
theorem wf_iadd (hexec : p.tables.exec = Jvm.exec) (hb : c.code = cc) {x y : Nat} (hdg : decode cc pc = .ok (.iadd, 1)) (k : W p l e R s m args below meth c H locs cells slots Q (F0 m (pc + 1) ls (.int (nI (x + y)) :: rest))) : W p l e R s m args below meth c H locs cells slots Q (F0 m pc ls (.int (nI y) :: .int (nI x) :: rest)) :=
  lv_iadd hexec hb hdg (by rw [nI_add]; exact k)
theorem wf_isub (hexec : p.tables.exec = Jvm.exec) (hb : c.code = cc) {x y : Nat} (hdg : decode cc pc = .ok (.isub, 1)) (h : y ≤ x) (k : W p l e R s m args below meth c H locs cells slots Q (F0 m (pc + 1) ls (.int (nI (x - y)) :: rest))) : W p l e R s m args below meth c H locs cells slots Q (F0 m pc ls (.int (nI y) :: .int (nI x) :: rest)) :=
  lv_isub hexec hb hdg (by rw [pk_sub h]; exact k)
theorem wf_imul (hexec : p.tables.exec = Jvm.exec) (hb : c.code = cc) {x y : Nat} (hdg : decode cc pc = .ok (.imul, 1)) (k : W p l e R s m args below meth c H locs cells slots Q (F0 m (pc + 1) ls (.int (nI (x * y)) :: rest))) : W p l e R s m args below meth c H locs cells slots Q (F0 m pc ls (.int (nI y) :: .int (nI x) :: rest)) :=
  lv_imul hexec hb hdg (by rw [pk_mul]; exact k)
theorem wf_ladd (hexec : p.tables.exec = Jvm.exec) (hb : c.code = cc) {x y : Nat} (hdg : decode cc pc = .ok (.ladd, 1)) (k : W p l e R s m args below meth c H locs cells slots Q (F0 m (pc + 1) ls (.long (lN (x + y)) :: rest))) : W p l e R s m args below meth c H locs cells slots Q (F0 m pc ls (.long (lN y) :: .long (lN x) :: rest)) :=
  lv_ladd hexec hb hdg (by rw [lN_add]; exact k)
theorem wf_lsub (hexec : p.tables.exec = Jvm.exec) (hb : c.code = cc) {x y : Nat} (hdg : decode cc pc = .ok (.lsub, 1)) (h : y ≤ x) (k : W p l e R s m args below meth c H locs cells slots Q (F0 m (pc + 1) ls (.long (lN (x - y)) :: rest))) : W p l e R s m args below meth c H locs cells slots Q (F0 m pc ls (.long (lN y) :: .long (lN x) :: rest)) :=
  lv_lsub hexec hb hdg (by rw [lN_sub h]; exact k)
theorem wf_lmul (hexec : p.tables.exec = Jvm.exec) (hb : c.code = cc) {x y : Nat} (hdg : decode cc pc = .ok (.lmul, 1)) (k : W p l e R s m args below meth c H locs cells slots Q (F0 m (pc + 1) ls (.long (lN (x * y)) :: rest))) : W p l e R s m args below meth c H locs cells slots Q (F0 m pc ls (.long (lN y) :: .long (lN x) :: rest)) :=
  lv_lmul hexec hb hdg (by rw [lN_mul]; exact k)
theorem wf_idiv (hexec : p.tables.exec = Jvm.exec) (hb : c.code = cc) {x y : Nat} (hdg : decode cc pc = .ok (.idiv, 1)) (h0 : 0 < y) (hx : x < 2 ^ 31) (hy : y < 2 ^ 31) (k : W p l e R s m args below meth c H locs cells slots Q (F0 m (pc + 1) ls (.int (nI (x / y)) :: rest))) : W p l e R s m args below meth c H locs cells slots Q (F0 m pc ls (.int (nI y) :: .int (nI x) :: rest)) :=
  lv_idiv hexec hb hdg (nI_ne0 h0 hy) (by rw [pk_div hx h0 hy]; exact k)
theorem wf_irem (hexec : p.tables.exec = Jvm.exec) (hb : c.code = cc) {x y : Nat} (hdg : decode cc pc = .ok (.irem, 1)) (h0 : 0 < y) (hx : x < 2 ^ 31) (hy : y < 2 ^ 31) (k : W p l e R s m args below meth c H locs cells slots Q (F0 m (pc + 1) ls (.int (nI (x % y)) :: rest))) : W p l e R s m args below meth c H locs cells slots Q (F0 m pc ls (.int (nI y) :: .int (nI x) :: rest)) :=
  lv_irem hexec hb hdg (nI_ne0 h0 hy) (by rw [pk_rem hx h0 hy]; exact k)
theorem wf_ceq (hexec : p.tables.exec = Jvm.exec) (hb : c.code = cc) {x y : Int32} {X Y : Int} {off : Int} {tgt : Nat} (hdg : decode cc pc = .ok (.if_icmp .eq off, 3)) (ht : (pc : Int) + off = (tgt : Int)) (hX : x.toInt = X) (hY : y.toInt = Y) (kt : X = Y → W p l e R s m args below meth c H locs cells slots Q (F0 m tgt ls rest)) (kf : X ≠ Y → W p l e R s m args below meth c H locs cells slots Q (F0 m (pc + 3) ls rest)) : W p l e R s m args below meth c H locs cells slots Q (F0 m pc ls (.int y :: .int x :: rest)) := by
  subst hX hY
  exact lv_icmp_eq hexec hb hdg ht (fun h => kt (by simpa [Int32.lt_iff_toInt_lt, Int32.le_iff_toInt_le, ← Int32.toInt_inj] using h)) (fun h => kf (by simpa [Int32.lt_iff_toInt_lt, Int32.le_iff_toInt_le, ← Int32.toInt_inj] using h))
theorem wf_zeq (hexec : p.tables.exec = Jvm.exec) (hb : c.code = cc) {x : Int32} {X : Int} {off : Int} {tgt : Nat} (hdg : decode cc pc = .ok (.ifCond .eq off, 3)) (ht : (pc : Int) + off = (tgt : Int)) (hX : x.toInt = X) (kt : X = 0 → W p l e R s m args below meth c H locs cells slots Q (F0 m tgt ls rest)) (kf : X ≠ 0 → W p l e R s m args below meth c H locs cells slots Q (F0 m (pc + 3) ls rest)) : W p l e R s m args below meth c H locs cells slots Q (F0 m pc ls (.int x :: rest)) := by
  subst hX
  exact lv_if_eq hexec hb hdg ht (fun h => kt (by simpa [Int32.lt_iff_toInt_lt, Int32.le_iff_toInt_le, ← Int32.toInt_inj] using h)) (fun h => kf (by simpa [Int32.lt_iff_toInt_lt, Int32.le_iff_toInt_le, ← Int32.toInt_inj] using h))
theorem wf_leq (hexec : p.tables.exec = Jvm.exec) (hb : c.code = cc) {x y : Int64} {X Y : Int} {off : Int} {tgt : Nat} (hdg : decode cc pc = .ok (.ifCond .eq off, 3)) (ht : (pc : Int) + off = (tgt : Int)) (hX : x.toInt = X) (hY : y.toInt = Y) (kt : X = Y → W p l e R s m args below meth c H locs cells slots Q (F0 m tgt ls rest)) (kf : X ≠ Y → W p l e R s m args below meth c H locs cells slots Q (F0 m (pc + 3) ls rest)) : W p l e R s m args below meth c H locs cells slots Q (F0 m pc ls (.int (lg_cmp x y) :: rest)) := by
  subst hX hY
  have e1 := lg_cmp_eq x y
  exact lv_if_eq hexec hb hdg ht (fun h => kt (by simpa [e1, Int64.lt_iff_toInt_lt, Int64.le_iff_toInt_le, ← Int64.toInt_inj] using h)) (fun h => kf (by simpa [e1, Int64.lt_iff_toInt_lt, Int64.le_iff_toInt_le, ← Int64.toInt_inj] using h))
theorem wf_cne (hexec : p.tables.exec = Jvm.exec) (hb : c.code = cc) {x y : Int32} {X Y : Int} {off : Int} {tgt : Nat} (hdg : decode cc pc = .ok (.if_icmp .ne off, 3)) (ht : (pc : Int) + off = (tgt : Int)) (hX : x.toInt = X) (hY : y.toInt = Y) (kt : X ≠ Y → W p l e R s m args below meth c H locs cells slots Q (F0 m tgt ls rest)) (kf : X = Y → W p l e R s m args below meth c H locs cells slots Q (F0 m (pc + 3) ls rest)) : W p l e R s m args below meth c H locs cells slots Q (F0 m pc ls (.int y :: .int x :: rest)) := by
  subst hX hY
  exact lv_icmp_ne hexec hb hdg ht (fun h => kt (by simpa [Int32.lt_iff_toInt_lt, Int32.le_iff_toInt_le, ← Int32.toInt_inj] using h)) (fun h => kf (by simpa [Int32.lt_iff_toInt_lt, Int32.le_iff_toInt_le, ← Int32.toInt_inj] using h))
theorem wf_zne (hexec : p.tables.exec = Jvm.exec) (hb : c.code = cc) {x : Int32} {X : Int} {off : Int} {tgt : Nat} (hdg : decode cc pc = .ok (.ifCond .ne off, 3)) (ht : (pc : Int) + off = (tgt : Int)) (hX : x.toInt = X) (kt : X ≠ 0 → W p l e R s m args below meth c H locs cells slots Q (F0 m tgt ls rest)) (kf : X = 0 → W p l e R s m args below meth c H locs cells slots Q (F0 m (pc + 3) ls rest)) : W p l e R s m args below meth c H locs cells slots Q (F0 m pc ls (.int x :: rest)) := by
  subst hX
  exact lv_if_ne hexec hb hdg ht (fun h => kt (by simpa [Int32.lt_iff_toInt_lt, Int32.le_iff_toInt_le, ← Int32.toInt_inj] using h)) (fun h => kf (by simpa [Int32.lt_iff_toInt_lt, Int32.le_iff_toInt_le, ← Int32.toInt_inj] using h))
theorem wf_lne (hexec : p.tables.exec = Jvm.exec) (hb : c.code = cc) {x y : Int64} {X Y : Int} {off : Int} {tgt : Nat} (hdg : decode cc pc = .ok (.ifCond .ne off, 3)) (ht : (pc : Int) + off = (tgt : Int)) (hX : x.toInt = X) (hY : y.toInt = Y) (kt : X ≠ Y → W p l e R s m args below meth c H locs cells slots Q (F0 m tgt ls rest)) (kf : X = Y → W p l e R s m args below meth c H locs cells slots Q (F0 m (pc + 3) ls rest)) : W p l e R s m args below meth c H locs cells slots Q (F0 m pc ls (.int (lg_cmp x y) :: rest)) := by
  subst hX hY
  have e1 := lg_cmp_eq x y
  exact lv_if_ne hexec hb hdg ht (fun h => kt (by simpa [e1, Int64.lt_iff_toInt_lt, Int64.le_iff_toInt_le, ← Int64.toInt_inj] using h)) (fun h => kf (by simpa [e1, Int64.lt_iff_toInt_lt, Int64.le_iff_toInt_le, ← Int64.toInt_inj] using h))
theorem wf_clt (hexec : p.tables.exec = Jvm.exec) (hb : c.code = cc) {x y : Int32} {X Y : Int} {off : Int} {tgt : Nat} (hdg : decode cc pc = .ok (.if_icmp .lt off, 3)) (ht : (pc : Int) + off = (tgt : Int)) (hX : x.toInt = X) (hY : y.toInt = Y) (kt : X < Y → W p l e R s m args below meth c H locs cells slots Q (F0 m tgt ls rest)) (kf : Y ≤ X → W p l e R s m args below meth c H locs cells slots Q (F0 m (pc + 3) ls rest)) : W p l e R s m args below meth c H locs cells slots Q (F0 m pc ls (.int y :: .int x :: rest)) := by
  subst hX hY
  exact lv_icmp_lt hexec hb hdg ht (fun h => kt (by simpa [Int32.lt_iff_toInt_lt, Int32.le_iff_toInt_le, ← Int32.toInt_inj] using h)) (fun h => kf (by simpa [Int32.lt_iff_toInt_lt, Int32.le_iff_toInt_le, ← Int32.toInt_inj] using h))
theorem wf_zlt (hexec : p.tables.exec = Jvm.exec) (hb : c.code = cc) {x : Int32} {X : Int} {off : Int} {tgt : Nat} (hdg : decode cc pc = .ok (.ifCond .lt off, 3)) (ht : (pc : Int) + off = (tgt : Int)) (hX : x.toInt = X) (kt : X < 0 → W p l e R s m args below meth c H locs cells slots Q (F0 m tgt ls rest)) (kf : 0 ≤ X → W p l e R s m args below meth c H locs cells slots Q (F0 m (pc + 3) ls rest)) : W p l e R s m args below meth c H locs cells slots Q (F0 m pc ls (.int x :: rest)) := by
  subst hX
  exact lv_if_lt hexec hb hdg ht (fun h => kt (by simpa [Int32.lt_iff_toInt_lt, Int32.le_iff_toInt_le, ← Int32.toInt_inj] using h)) (fun h => kf (by simpa [Int32.lt_iff_toInt_lt, Int32.le_iff_toInt_le, ← Int32.toInt_inj] using h))
theorem wf_llt (hexec : p.tables.exec = Jvm.exec) (hb : c.code = cc) {x y : Int64} {X Y : Int} {off : Int} {tgt : Nat} (hdg : decode cc pc = .ok (.ifCond .lt off, 3)) (ht : (pc : Int) + off = (tgt : Int)) (hX : x.toInt = X) (hY : y.toInt = Y) (kt : X < Y → W p l e R s m args below meth c H locs cells slots Q (F0 m tgt ls rest)) (kf : Y ≤ X → W p l e R s m args below meth c H locs cells slots Q (F0 m (pc + 3) ls rest)) : W p l e R s m args below meth c H locs cells slots Q (F0 m pc ls (.int (lg_cmp x y) :: rest)) := by
  subst hX hY
  have e1 := lg_cmp_lt x y
  exact lv_if_lt hexec hb hdg ht (fun h => kt (by simpa [e1, Int64.lt_iff_toInt_lt, Int64.le_iff_toInt_le, ← Int64.toInt_inj] using h)) (fun h => kf (by simpa [e1, Int64.lt_iff_toInt_lt, Int64.le_iff_toInt_le, ← Int64.toInt_inj] using h))
theorem wf_cge (hexec : p.tables.exec = Jvm.exec) (hb : c.code = cc) {x y : Int32} {X Y : Int} {off : Int} {tgt : Nat} (hdg : decode cc pc = .ok (.if_icmp .ge off, 3)) (ht : (pc : Int) + off = (tgt : Int)) (hX : x.toInt = X) (hY : y.toInt = Y) (kt : Y ≤ X → W p l e R s m args below meth c H locs cells slots Q (F0 m tgt ls rest)) (kf : X < Y → W p l e R s m args below meth c H locs cells slots Q (F0 m (pc + 3) ls rest)) : W p l e R s m args below meth c H locs cells slots Q (F0 m pc ls (.int y :: .int x :: rest)) := by
  subst hX hY
  exact lv_icmp_ge hexec hb hdg ht (fun h => kt (by simpa [Int32.lt_iff_toInt_lt, Int32.le_iff_toInt_le, ← Int32.toInt_inj] using h)) (fun h => kf (by simpa [Int32.lt_iff_toInt_lt, Int32.le_iff_toInt_le, ← Int32.toInt_inj] using h))
theorem wf_zge (hexec : p.tables.exec = Jvm.exec) (hb : c.code = cc) {x : Int32} {X : Int} {off : Int} {tgt : Nat} (hdg : decode cc pc = .ok (.ifCond .ge off, 3)) (ht : (pc : Int) + off = (tgt : Int)) (hX : x.toInt = X) (kt : 0 ≤ X → W p l e R s m args below meth c H locs cells slots Q (F0 m tgt ls rest)) (kf : X < 0 → W p l e R s m args below meth c H locs cells slots Q (F0 m (pc + 3) ls rest)) : W p l e R s m args below meth c H locs cells slots Q (F0 m pc ls (.int x :: rest)) := by
  subst hX
  exact lv_if_ge hexec hb hdg ht (fun h => kt (by simpa [Int32.lt_iff_toInt_lt, Int32.le_iff_toInt_le, ← Int32.toInt_inj] using h)) (fun h => kf (by simpa [Int32.lt_iff_toInt_lt, Int32.le_iff_toInt_le, ← Int32.toInt_inj] using h))
theorem wf_lge (hexec : p.tables.exec = Jvm.exec) (hb : c.code = cc) {x y : Int64} {X Y : Int} {off : Int} {tgt : Nat} (hdg : decode cc pc = .ok (.ifCond .ge off, 3)) (ht : (pc : Int) + off = (tgt : Int)) (hX : x.toInt = X) (hY : y.toInt = Y) (kt : Y ≤ X → W p l e R s m args below meth c H locs cells slots Q (F0 m tgt ls rest)) (kf : X < Y → W p l e R s m args below meth c H locs cells slots Q (F0 m (pc + 3) ls rest)) : W p l e R s m args below meth c H locs cells slots Q (F0 m pc ls (.int (lg_cmp x y) :: rest)) := by
  subst hX hY
  have e1 := lg_cmp_ge x y
  exact lv_if_ge hexec hb hdg ht (fun h => kt (by simpa [e1, Int64.lt_iff_toInt_lt, Int64.le_iff_toInt_le, ← Int64.toInt_inj] using h)) (fun h => kf (by simpa [e1, Int64.lt_iff_toInt_lt, Int64.le_iff_toInt_le, ← Int64.toInt_inj] using h))
theorem wf_cgt (hexec : p.tables.exec = Jvm.exec) (hb : c.code = cc) {x y : Int32} {X Y : Int} {off : Int} {tgt : Nat} (hdg : decode cc pc = .ok (.if_icmp .gt off, 3)) (ht : (pc : Int) + off = (tgt : Int)) (hX : x.toInt = X) (hY : y.toInt = Y) (kt : Y < X → W p l e R s m args below meth c H locs cells slots Q (F0 m tgt ls rest)) (kf : X ≤ Y → W p l e R s m args below meth c H locs cells slots Q (F0 m (pc + 3) ls rest)) : W p l e R s m args below meth c H locs cells slots Q (F0 m pc ls (.int y :: .int x :: rest)) := by
  subst hX hY
  exact lv_icmp_gt hexec hb hdg ht (fun h => kt (by simpa [Int32.lt_iff_toInt_lt, Int32.le_iff_toInt_le, ← Int32.toInt_inj] using h)) (fun h => kf (by simpa [Int32.lt_iff_toInt_lt, Int32.le_iff_toInt_le, ← Int32.toInt_inj] using h))
theorem wf_zgt (hexec : p.tables.exec = Jvm.exec) (hb : c.code = cc) {x : Int32} {X : Int} {off : Int} {tgt : Nat} (hdg : decode cc pc = .ok (.ifCond .gt off, 3)) (ht : (pc : Int) + off = (tgt : Int)) (hX : x.toInt = X) (kt : 0 < X → W p l e R s m args below meth c H locs cells slots Q (F0 m tgt ls rest)) (kf : X ≤ 0 → W p l e R s m args below meth c H locs cells slots Q (F0 m (pc + 3) ls rest)) : W p l e R s m args below meth c H locs cells slots Q (F0 m pc ls (.int x :: rest)) := by
  subst hX
  exact lv_if_gt hexec hb hdg ht (fun h => kt (by simpa [Int32.lt_iff_toInt_lt, Int32.le_iff_toInt_le, ← Int32.toInt_inj] using h)) (fun h => kf (by simpa [Int32.lt_iff_toInt_lt, Int32.le_iff_toInt_le, ← Int32.toInt_inj] using h))
theorem wf_lgt (hexec : p.tables.exec = Jvm.exec) (hb : c.code = cc) {x y : Int64} {X Y : Int} {off : Int} {tgt : Nat} (hdg : decode cc pc = .ok (.ifCond .gt off, 3)) (ht : (pc : Int) + off = (tgt : Int)) (hX : x.toInt = X) (hY : y.toInt = Y) (kt : Y < X → W p l e R s m args below meth c H locs cells slots Q (F0 m tgt ls rest)) (kf : X ≤ Y → W p l e R s m args below meth c H locs cells slots Q (F0 m (pc + 3) ls rest)) : W p l e R s m args below meth c H locs cells slots Q (F0 m pc ls (.int (lg_cmp x y) :: rest)) := by
  subst hX hY
  have e1 := lg_cmp_gt x y
  exact lv_if_gt hexec hb hdg ht (fun h => kt (by simpa [e1, Int64.lt_iff_toInt_lt, Int64.le_iff_toInt_le, ← Int64.toInt_inj] using h)) (fun h => kf (by simpa [e1, Int64.lt_iff_toInt_lt, Int64.le_iff_toInt_le, ← Int64.toInt_inj] using h))
theorem wf_cle (hexec : p.tables.exec = Jvm.exec) (hb : c.code = cc) {x y : Int32} {X Y : Int} {off : Int} {tgt : Nat} (hdg : decode cc pc = .ok (.if_icmp .le off, 3)) (ht : (pc : Int) + off = (tgt : Int)) (hX : x.toInt = X) (hY : y.toInt = Y) (kt : X ≤ Y → W p l e R s m args below meth c H locs cells slots Q (F0 m tgt ls rest)) (kf : Y < X → W p l e R s m args below meth c H locs cells slots Q (F0 m (pc + 3) ls rest)) : W p l e R s m args below meth c H locs cells slots Q (F0 m pc ls (.int y :: .int x :: rest)) := by
  subst hX hY
  exact lv_icmp_le hexec hb hdg ht (fun h => kt (by simpa [Int32.lt_iff_toInt_lt, Int32.le_iff_toInt_le, ← Int32.toInt_inj] using h)) (fun h => kf (by simpa [Int32.lt_iff_toInt_lt, Int32.le_iff_toInt_le, ← Int32.toInt_inj] using h))
theorem wf_zle (hexec : p.tables.exec = Jvm.exec) (hb : c.code = cc) {x : Int32} {X : Int} {off : Int} {tgt : Nat} (hdg : decode cc pc = .ok (.ifCond .le off, 3)) (ht : (pc : Int) + off = (tgt : Int)) (hX : x.toInt = X) (kt : X ≤ 0 → W p l e R s m args below meth c H locs cells slots Q (F0 m tgt ls rest)) (kf : 0 < X → W p l e R s m args below meth c H locs cells slots Q (F0 m (pc + 3) ls rest)) : W p l e R s m args below meth c H locs cells slots Q (F0 m pc ls (.int x :: rest)) := by
  subst hX
  exact lv_if_le hexec hb hdg ht (fun h => kt (by simpa [Int32.lt_iff_toInt_lt, Int32.le_iff_toInt_le, ← Int32.toInt_inj] using h)) (fun h => kf (by simpa [Int32.lt_iff_toInt_lt, Int32.le_iff_toInt_le, ← Int32.toInt_inj] using h))
theorem wf_lle (hexec : p.tables.exec = Jvm.exec) (hb : c.code = cc) {x y : Int64} {X Y : Int} {off : Int} {tgt : Nat} (hdg : decode cc pc = .ok (.ifCond .le off, 3)) (ht : (pc : Int) + off = (tgt : Int)) (hX : x.toInt = X) (hY : y.toInt = Y) (kt : X ≤ Y → W p l e R s m args below meth c H locs cells slots Q (F0 m tgt ls rest)) (kf : Y < X → W p l e R s m args below meth c H locs cells slots Q (F0 m (pc + 3) ls rest)) : W p l e R s m args below meth c H locs cells slots Q (F0 m pc ls (.int (lg_cmp x y) :: rest)) := by
  subst hX hY
  have e1 := lg_cmp_le x y
  exact lv_if_le hexec hb hdg ht (fun h => kt (by simpa [e1, Int64.lt_iff_toInt_lt, Int64.le_iff_toInt_le, ← Int64.toInt_inj] using h)) (fun h => kf (by simpa [e1, Int64.lt_iff_toInt_lt, Int64.le_iff_toInt_le, ← Int64.toInt_inj] using h))
theorem wf_beq (hexec : p.tables.exec = Jvm.exec) (hb : c.code = cc) {b : Bool} {off : Int} {tgt : Nat} (hdg : decode cc pc = .ok (.ifCond .eq off, 3)) (ht : (pc : Int) + off = (tgt : Int)) (kt : b = false → W p l e R s m args below meth c H locs cells slots Q (F0 m tgt ls rest)) (kf : b = true → W p l e R s m args below meth c H locs cells slots Q (F0 m (pc + 3) ls rest)) : W p l e R s m args below meth c H locs cells slots Q (F0 m pc ls (.int (bI b) :: rest)) := by
  cases b with
  | true => exact lv_if_eq hexec hb hdg ht (fun h => absurd h (by decide)) (fun _ => kf rfl)
  | false => exact lv_if_eq hexec hb hdg ht (fun _ => kt rfl) (fun h => absurd (show bI false = 0 from rfl) h)
theorem wf_bne (hexec : p.tables.exec = Jvm.exec) (hb : c.code = cc) {b : Bool} {off : Int} {tgt : Nat} (hdg : decode cc pc = .ok (.ifCond .ne off, 3)) (ht : (pc : Int) + off = (tgt : Int)) (kt : b = true → W p l e R s m args below meth c H locs cells slots Q (F0 m tgt ls rest)) (kf : b = false → W p l e R s m args below meth c H locs cells slots Q (F0 m (pc + 3) ls rest)) : W p l e R s m args below meth c H locs cells slots Q (F0 m pc ls (.int (bI b) :: rest)) := by
  cases b with
  | true => exact lv_if_ne hexec hb hdg ht (fun _ => kt rfl) (fun h => absurd h (by decide))
  | false => exact lv_if_ne hexec hb hdg ht (fun h => absurd (show bI false = 0 from rfl) h) (fun _ => kf rfl)
end WN
theorem bI_narrow (b : Bool) : narrow .boolean (.int (bI b)) = .int (bI b) := by cases b <;> rfl
theorem bI_fits (b : Bool) : fits .boolean (.int (bI b)) = true := by cases b <;> rfl
theorem bI_nar (b : Bool) : vp_nar .boolean (bI b) = bI b := by cases b <;> rfl
theorem bI_t : (nI 1 : Int32) = bI true := rfl
theorem bI_f : (nI 0 : Int32) = bI false := rfl
theorem bI_inj {a b : Bool} (h : bI a = bI b) : a = b := by
  revert h
  cases a <;> cases b <;> decide
