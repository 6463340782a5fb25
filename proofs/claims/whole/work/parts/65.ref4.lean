/-! WHERE PLACES LEAD; ROWS THAT ARE COME TO; KINDS -/
def dL (L : Nat → Nat) (p a : Nat) : Nat := L (p * 4 + a)
def lng (L : Nat → Nat) (Z : Nat → Bool) (u : List Nat) : Bool := Z (dr (dL L) 0 u)
/-- 41 beginnings that are told apart -/
def tooL (k : Nat) (g : List Nat → Bool) : Prop := ∃ U : Nat → List Nat, (∀ i, i < 41 → tx k (U i)) ∧ ∀ i j, i < 41 → j < 41 → (∀ v, tx k v → g (U i ++ v) = g (U j ++ v)) → i = j
def rwO (k pz : Nat) (L RW : Nat → Nat) (n : Nat) : Prop := 0 < n ∧ RW 0 = 0 ∧ (∀ i, i < n → RW i < pz) ∧ (∀ i j, i < n → j < n → RW i = RW j → i = j) ∧ (∀ i b, i < n → b < k → ∃ j, j < n ∧ RW j = dL L (RW i) b) ∧ ∀ i, i < n → ∃ u, tx k u ∧ dr (dL L) 0 u = RW i
def cmI (k pz : Nat) (L RW : Nat → Nat) (IC : Nat → Bool) (n q b : Nat) : Prop := 0 < n ∧ RW 0 = 0 ∧ (∀ i, i < n → RW i < pz) ∧ (∀ i j, i < n → j < n → RW i = RW j → i = j) ∧ (∀ i a, a < k → lx i a q b → ∃ j, j < n ∧ RW j = dL L (RW i) a) ∧ (∀ i, i < n → ∃ u, tx k u ∧ dr (dL L) 0 u = RW i) ∧ ∀ x, x < pz → (IC x = true ↔ ∃ i, i < n ∧ RW i = x)
theorem cmI_0 {k pz : Nat} {L RW : Nat → Nat} {IC : Nat → Bool} (hz : 0 < pz) (h0 : RW 0 = 0) (hI : ∀ x, x < pz → IC x = decide (x = 0)) : cmI k pz L RW IC 1 0 0 := by
  refine ⟨by omega, h0, fun i hi => by rw [show i = 0 by omega, h0]; exact hz, fun i j _ _ _ => by omega, fun i a _ hl => ?_, fun i hi => ⟨[], tx_nil, by rw [show i = 0 by omega, h0]; rfl⟩, fun x hx => ?_⟩
  · rcases hl with e | ⟨_, e⟩ <;> omega
  · rw [hI x hx, decide_eq_true_eq]
    constructor
    · intro e; exact ⟨0, by omega, by rw [h0, e]⟩
    · rintro ⟨i, hi, e⟩; rw [show i = 0 by omega, h0] at e; exact e.symm
theorem lx_s {q b p a : Nat} (h : lx q b p (a + 1)) : lx q b p a ∨ (q = p ∧ b = a) := by
  rcases h with e | ⟨e, e'⟩
  · exact Or.inl (Or.inl e)
  · by_cases e2 : b = a
    · exact Or.inr ⟨e, e2⟩
    · exact Or.inl (Or.inr ⟨e, by omega⟩)
theorem cmI_old {k pz : Nat} {L RW : Nat → Nat} {IC : Nat → Bool} {n q b : Nat} (h : cmI k pz L RW IC n q b) (hz : dL L (RW q) b < pz) (hI : IC (dL L (RW q) b) = true) : cmI k pz L RW IC n q (b + 1) := by
  obtain ⟨h1, h2, h3, h4, h5, h6, h7⟩ := h
  refine ⟨h1, h2, h3, h4, fun i a ha hl => ?_, h6, h7⟩
  rcases lx_s hl with e | ⟨e, e'⟩
  · exact h5 i a ha e
  · subst e; subst e'
    exact (h7 _ hz).mp hI
theorem cmI_new {k pz : Nat} {L RW : Nat → Nat} {IC : Nat → Bool} {n q b : Nat} (h : cmI k pz L RW IC n q b) (hq : q < n) (hb : b < k) (hz : dL L (RW q) b < pz) (hI : ¬ IC (dL L (RW q) b) = true) : cmI k pz L (nu RW n (dL L (RW q) b)) (nu IC (dL L (RW q) b) true) (n + 1) q (b + 1) := by
  obtain ⟨h1, h2, h3, h4, h5, h6, h7⟩ := h
  have ho : ∀ i, i < n → nu RW n (dL L (RW q) b) i = RW i := fun i hi => nu_n (by omega)
  have hno : ∀ i, i < n → RW i ≠ dL L (RW q) b := fun i hi e => hI ((h7 _ hz).mpr ⟨i, hi, e⟩)
  refine ⟨by omega, by rw [ho 0 h1]; exact h2, fun i hi => ?_, fun i j hi hj e => ?_, fun i a ha hl => ?_, fun i hi => ?_, fun x hx => ?_⟩
  · by_cases e : i = n
    · rw [nu_e e]; exact hz
    · rw [ho i (by omega)]; exact h3 i (by omega)
  · by_cases a1 : i = n
    · by_cases a2 : j = n
      · omega
      · rw [nu_e a1, ho j (by omega)] at e; exact absurd e.symm (hno j (by omega))
    · by_cases a2 : j = n
      · rw [ho i (by omega), nu_e a2] at e; exact absurd e (hno i (by omega))
      · rw [ho i (by omega), ho j (by omega)] at e; exact h4 i j (by omega) (by omega) e
  · have hiq : i ≤ q := by rcases hl with e | ⟨e, _⟩ <;> omega
    rw [ho i (by omega)]
    rcases lx_s hl with e | ⟨e, e'⟩
    · obtain ⟨j, hj, ej⟩ := h5 i a ha e
      exact ⟨j, by omega, by rw [ho j hj]; exact ej⟩
    · subst e; subst e'
      exact ⟨n, by omega, nu_s⟩
  · by_cases e : i = n
    · rw [nu_e e]
      obtain ⟨u, hu, e2⟩ := h6 q hq
      exact ⟨u ++ [b], tx_app.mpr ⟨hu, tx_one hb⟩, by rw [dr_app, e2]; rfl⟩
    · rw [ho i (by omega)]; exact h6 i (by omega)
  · by_cases e : x = dL L (RW q) b
    · rw [nu_e e]
      exact ⟨fun _ => ⟨n, by omega, by rw [nu_s, e]⟩, fun _ => rfl⟩
    · rw [nu_n e, h7 x hx]
      constructor
      · rintro ⟨i, hi, ei⟩; exact ⟨i, by omega, by rw [ho i hi]; exact ei⟩
      · rintro ⟨i, hi, ei⟩
        by_cases e9 : i = n
        · rw [nu_e e9] at ei; exact absurd ei.symm e
        · exact ⟨i, by omega, by rw [ho i (by omega)] at ei; exact ei⟩
theorem cmI_next {k pz : Nat} {L RW : Nat → Nat} {IC : Nat → Bool} {n q b : Nat} (h : cmI k pz L RW IC n q b) (hb : b = k) : cmI k pz L RW IC n (q + 1) 0 := by
  obtain ⟨h1, h2, h3, h4, h5, h6, h7⟩ := h
  refine ⟨h1, h2, h3, h4, fun i a ha hl => h5 i a ha ?_, h6, h7⟩
  rcases hl with e | ⟨_, e⟩
  · by_cases e2 : i = q
    · exact Or.inr ⟨e2, by omega⟩
    · exact Or.inl (by omega)
  · omega
theorem cmI_le {k pz : Nat} {L RW : Nat → Nat} {IC : Nat → Bool} {n q b : Nat} (h : cmI k pz L RW IC n q b) : n ≤ pz := php_le h.2.2.1 h.2.2.2.1
theorem cmI_lt {k pz : Nat} {L RW : Nat → Nat} {IC : Nat → Bool} {n q b : Nat} (h : cmI k pz L RW IC n q b) (hq : q < n) (hb : b < k) (hz : dL L (RW q) b < pz) (hI : ¬ IC (dL L (RW q) b) = true) : n < pz := by
  have := cmI_le (cmI_new h hq hb hz hI)
  omega
theorem cmI_end {k pz : Nat} {L RW : Nat → Nat} {IC : Nat → Bool} {n : Nat} (h : cmI k pz L RW IC n n 0) : rwO k pz L RW n := ⟨h.1, h.2.1, h.2.2.1, h.2.2.2.1, fun i b hi hb => h.2.2.2.2.1 i b hb (Or.inl hi), h.2.2.2.2.2.1⟩
theorem row_mark {k pz n i : Nat} {L RW CO : Nat → Nat} {Z : Nat → Bool} (hR : rwO k pz L RW n) (hK : ∀ x y, x < n → y < n → (CO (RW x) = CO (RW y) ↔ eqv k (dL L) Z i (RW x) (RW y))) {x y : Nat} (hx : x < n) (hy : y < n) : smL CO (dL L) k (RW x) (RW y) ↔ eqv k (dL L) Z (i + 1) (RW x) (RW y) := by
  have cl : ∀ a, a < k → (CO (dL L (RW x) a) = CO (dL L (RW y) a) ↔ eqv k (dL L) Z i (dL L (RW x) a) (dL L (RW y) a)) := by
    intro a ha
    obtain ⟨j, hj, ej⟩ := hR.2.2.2.2.1 x a hx ha
    obtain ⟨j', hj', ej'⟩ := hR.2.2.2.2.1 y a hy ha
    rw [← ej, ← ej']
    exact hK j j' hj hj'
  constructor
  · rintro ⟨h1, h2⟩
    exact eqv_s.mpr ⟨(hK x y hx hy).mp h1 [] tx_nil (Nat.zero_le _), fun a ha => (cl a ha).mp (h2 a ha)⟩
  · intro h
    exact ⟨(hK x y hx hy).mpr (eqv_le (by omega) h), fun a ha => (cl a ha).mpr ((eqv_s.mp h).2 a ha)⟩
/-- the kinds so far -/
def ptI (k : Nat) (L RW : Nat → Nat) (Z : Nat → Bool) (r m cs : Nat) (CT SP : Nat → Nat) : Prop := cs ≤ 40 ∧ (∀ i, i < m → CT (RW i) < cs) ∧ (∀ c, c < cs → ∃ i, i < m ∧ SP c = RW i ∧ CT (RW i) = c) ∧ ∀ i j, i < m → j < m → (CT (RW i) = CT (RW j) ↔ eqv k (dL L) Z r (RW i) (RW j))
theorem ptI_step {k pz n r m cs c : Nat} {L RW CO CT SP : Nat → Nat} {Z : Nat → Bool} (hR : rwO k pz L RW n) (hK : ∀ x y, x < n → y < n → (CO (RW x) = CO (RW y) ↔ eqv k (dL L) Z r (RW x) (RW y))) (hm : m < n) (h : ptI k L RW Z (r + 1) m cs CT SP) (hc : c < cs) (hs : smL CO (dL L) k (RW m) (SP c)) : ptI k L RW Z (r + 1) (m + 1) cs (nu CT (RW m) c) SP := by
  obtain ⟨h1, h2, h3, h4⟩ := h
  have inj := hR.2.2.2.1
  have ho : ∀ i, i < m → nu CT (RW m) c (RW i) = CT (RW i) := fun i hi => nu_n (fun e => by have := inj i m (by omega) hm e; omega)
  obtain ⟨x, hx, e1, e2⟩ := h3 c hc
  rw [e1] at hs
  have hs := (row_mark hR hK hm (show x < n by omega)).mp hs
  have key : ∀ j, j < m → (c = CT (RW j) ↔ eqv k (dL L) Z (r + 1) (RW m) (RW j)) := by
    intro j hj
    rw [← e2, h4 x j hx hj]
    exact ⟨fun e => eqv_tr hs e, fun e => eqv_tr (eqv_sy hs) e⟩
  refine ⟨h1, fun i hi => ?_, fun d hd => ?_, fun i j hi hj => ?_⟩
  · by_cases e : i = m
    · rw [e, nu_s]; exact hc
    · rw [ho i (by omega)]; exact h2 i (by omega)
  · obtain ⟨i, hi, g1, g2⟩ := h3 d hd
    exact ⟨i, by omega, g1, by rw [ho i hi]; exact g2⟩
  · by_cases a1 : i = m
    · by_cases a2 : j = m
      · rw [a1, a2]; exact ⟨fun _ _ _ _ => rfl, fun _ => rfl⟩
      · rw [a1, nu_s, ho j (by omega)]; exact key j (by omega)
    · by_cases a2 : j = m
      · rw [a2, nu_s, ho i (by omega)]
        have := key i (by omega)
        exact ⟨fun e => eqv_sy (this.mp e.symm), fun e => (this.mpr (eqv_sy e)).symm⟩
      · rw [ho i (by omega), ho j (by omega)]; exact h4 i j (by omega) (by omega)
theorem ptI_no {k pz n r m cs : Nat} {L RW CO CT SP : Nat → Nat} {Z : Nat → Bool} (hR : rwO k pz L RW n) (hK : ∀ x y, x < n → y < n → (CO (RW x) = CO (RW y) ↔ eqv k (dL L) Z r (RW x) (RW y))) (hm : m < n) (h : ptI k L RW Z (r + 1) m cs CT SP) (hno : ∀ c, c < cs → ¬ smL CO (dL L) k (RW m) (SP c)) : ∀ j, j < m → ¬ eqv k (dL L) Z (r + 1) (RW m) (RW j) := by
  obtain ⟨h1, h2, h3, h4⟩ := h
  intro j hj e
  obtain ⟨x, hx, e1, e2⟩ := h3 _ (h2 j hj)
  refine hno _ (h2 j hj) ?_
  rw [e1]
  exact (row_mark hR hK hm (show x < n by omega)).mpr (eqv_tr e ((h4 j x hj hx).mp e2.symm))
theorem ptI_new {k pz n r m cs : Nat} {L RW CO CT SP : Nat → Nat} {Z : Nat → Bool} (hR : rwO k pz L RW n) (hK : ∀ x y, x < n → y < n → (CO (RW x) = CO (RW y) ↔ eqv k (dL L) Z r (RW x) (RW y))) (hm : m < n) (h : ptI k L RW Z (r + 1) m cs CT SP) (hc : cs < 40) (hno : ∀ c, c < cs → ¬ smL CO (dL L) k (RW m) (SP c)) : ptI k L RW Z (r + 1) (m + 1) (cs + 1) (nu CT (RW m) cs) (nu SP cs (RW m)) := by
  have hn := ptI_no hR hK hm h hno
  obtain ⟨h1, h2, h3, h4⟩ := h
  have inj := hR.2.2.2.1
  have ho : ∀ i, i < m → nu CT (RW m) cs (RW i) = CT (RW i) := fun i hi => nu_n (fun e => by have := inj i m (by omega) hm e; omega)
  refine ⟨by omega, fun i hi => ?_, fun d hd => ?_, fun i j hi hj => ?_⟩
  · by_cases e : i = m
    · rw [e, nu_s]; omega
    · rw [ho i (by omega)]; have := h2 i (by omega); omega
  · by_cases e : d = cs
    · exact ⟨m, by omega, nu_e e, by rw [nu_s, e]⟩
    · obtain ⟨i, hi, g1, g2⟩ := h3 d (by omega)
      exact ⟨i, by omega, by rw [nu_n e]; exact g1, by rw [ho i hi]; exact g2⟩
  · by_cases a1 : i = m
    · by_cases a2 : j = m
      · rw [a1, a2]; exact ⟨fun _ _ _ _ => rfl, fun _ => rfl⟩
      · rw [a1, nu_s, ho j (by omega)]
        have := h2 j (by omega)
        exact ⟨fun e => by omega, fun e => absurd e (hn j (by omega))⟩
    · by_cases a2 : j = m
      · rw [a2, nu_s, ho i (by omega)]
        have := h2 i (by omega)
        exact ⟨fun e => by omega, fun e => absurd (eqv_sy e) (hn i (by omega))⟩
      · rw [ho i (by omega), ho j (by omega)]; exact h4 i j (by omega) (by omega)
theorem ptI_too {k pz n r m : Nat} {L RW CO CT SP : Nat → Nat} {Z : Nat → Bool} (hR : rwO k pz L RW n) (hK : ∀ x y, x < n → y < n → (CO (RW x) = CO (RW y) ↔ eqv k (dL L) Z r (RW x) (RW y))) (hm : m < n) (h : ptI k L RW Z (r + 1) m 40 CT SP) (hno : ∀ c, c < 40 → ¬ smL CO (dL L) k (RW m) (SP c)) : tooL k (lng L Z) := by
  have hn := ptI_no hR hK hm h hno
  obtain ⟨h1, h2, h3, h4⟩ := h
  have hch : ∀ c, ∃ i, c < 41 → i < m + 1 ∧ (c < 40 → i < m ∧ CT (RW i) = c) ∧ (c = 40 → i = m) := by
    intro c
    by_cases h9 : c < 40
    · obtain ⟨i, hi, _, e⟩ := h3 c h9
      exact ⟨i, fun _ => ⟨by omega, fun _ => ⟨hi, e⟩, fun e9 => by omega⟩⟩
    · exact ⟨m, fun _ => ⟨by omega, fun e9 => by omega, fun _ => rfl⟩⟩
  obtain ⟨I, hI⟩ := Classical.axiomOfChoice hch
  have hch2 : ∀ c, ∃ u, c < 41 → tx k u ∧ dr (dL L) 0 u = RW (I c) := by
    intro c
    by_cases h9 : c < 41
    · obtain ⟨u, hu, e⟩ := hR.2.2.2.2.2 (I c) (by have := (hI c h9).1; omega)
      exact ⟨u, fun _ => ⟨hu, e⟩⟩
    · exact ⟨[], fun e => absurd e h9⟩
  obtain ⟨U, hU⟩ := Classical.axiomOfChoice hch2
  refine ⟨U, fun i hi => (hU i hi).1, fun i j hi hj e => ?_⟩
  have eq : eqv k (dL L) Z (r + 1) (RW (I i)) (RW (I j)) := by
    intro v hv _
    have := e v hv
    rw [lng, lng, dr_app, dr_app, (hU i hi).2, (hU j hj).2] at this
    exact this
  obtain ⟨a1, a2, a3⟩ := hI i hi
  obtain ⟨b1, b2, b3⟩ := hI j hj
  by_cases c1 : i < 40
  · by_cases c2 : j < 40
    · have := (h4 _ _ (a2 c1).1 (b2 c2).1).mpr eq
      rw [(a2 c1).2, (b2 c2).2] at this
      exact this
    · rw [b3 (by omega)] at eq
      exact absurd (eqv_sy eq) (hn _ (a2 c1).1)
  · by_cases c2 : j < 40
    · rw [a3 (by omega)] at eq
      exact absurd eq (hn _ (b2 c2).1)
    · omega
/-- the state of the rounds -/
def prI (k : Nat) (L RW : Nat → Nat) (Z : Nat → Bool) (n r cs bf : Nat) (CO SP : Nat → Nat) : Prop := (∀ x y, x < n → y < n → (CO (RW x) = CO (RW y) ↔ eqv k (dL L) Z r (RW x) (RW y))) ∧ (∀ i, i < n → CO (RW i) < 64) ∧ ((r = 0 ∧ cs = 1 ∧ bf = 0) ∨ (0 < r ∧ ptI k L RW Z r n cs CO SP ∧ bf ≤ cs ∧ (cs = bf → ∀ x y, x < n → y < n → (eqv k (dL L) Z r (RW x) (RW y) ↔ nrd k (dL L) Z (RW x) (RW y)))))
theorem prI_le {k n r cs bf : Nat} {L RW CO SP : Nat → Nat} {Z : Nat → Bool} (h : prI k L RW Z n r cs bf CO SP) : bf ≤ cs ∧ cs ≤ 40 := by
  rcases h.2.2 with ⟨_, h1, h2⟩ | ⟨_, h1, h2, _⟩
  · omega
  · exact ⟨h2, h1.1⟩
theorem ptI_ge {k pz n r cs : Nat} {L RW CT SP : Nat → Nat} {Z : Nat → Bool} (hR : rwO k pz L RW n) (h : ptI k L RW Z r n cs CT SP) : 0 < cs := by
  have := h.2.1 0 hR.1
  omega
theorem prI_next {k pz n r cs bf cs' : Nat} {L RW CO SP CT SP' CO' : Nat → Nat} {Z : Nat → Bool} (hR : rwO k pz L RW n) (h : prI k L RW Z n r cs bf CO SP) (h' : ptI k L RW Z (r + 1) n cs' CT SP') (hc : ∀ i, i < n → CO' (RW i) = CT (RW i)) : prI k L RW Z n (r + 1) cs' cs CO' SP' := by
  obtain ⟨g1, g2, g3, g4⟩ := h'
  have hI : ptI k L RW Z (r + 1) n cs' CO' SP' := ⟨g1, fun i hi => by rw [hc i hi]; exact g2 i hi, fun c hc9 => by obtain ⟨i, hi, e1, e2⟩ := g3 c hc9; exact ⟨i, hi, e1, by rw [hc i hi]; exact e2⟩, fun i j hi hj => by rw [hc i hi, hc j hj]; exact g4 i j hi hj⟩
  refine ⟨hI.2.2.2, fun i hi => by have := hI.2.1 i hi; omega, Or.inr ⟨by omega, hI, ?_, ?_⟩⟩
  · rcases h.2.2 with ⟨_, h1, _⟩ | ⟨_, h1, _, _⟩
    · have := ptI_ge hR hI; omega
    · have hch : ∀ c, ∃ i, c < cs → i < n ∧ CO (RW i) = c := by
        intro c
        by_cases h9 : c < cs
        · obtain ⟨i, hi, _, e⟩ := h1.2.2.1 c h9
          exact ⟨i, fun _ => ⟨hi, e⟩⟩
        · exact ⟨0, fun e => absurd e h9⟩
      obtain ⟨I, hI9⟩ := Classical.axiomOfChoice hch
      refine php_le (f := fun c => CO' (RW (I c))) (fun c h9 => hI.2.1 _ (hI9 c h9).1) (fun c d h9 h8 e => ?_)
      have e2 := (hI.2.2.2 _ _ (hI9 c h9).1 (hI9 d h8).1).mp e
      have e3 := (h.1 _ _ (hI9 c h9).1 (hI9 d h8).1).mpr (eqv_le (by omega) e2)
      rw [(hI9 c h9).2, (hI9 d h8).2] at e3
      exact e3
  · intro ecs
    -- rows as places of their own
    have hch : ∀ z, ∃ j, z / 4 < n → z % 4 < k → j < n ∧ RW j = dL L (RW (z / 4)) (z % 4) := by
      intro z
      by_cases h9 : z / 4 < n
      · by_cases h8 : z % 4 < k
        · obtain ⟨j, hj, e⟩ := hR.2.2.2.2.1 _ _ h9 h8
          exact ⟨j, fun _ _ => ⟨hj, e⟩⟩
        · exact ⟨0, fun _ e => absurd e h8⟩
      · exact ⟨0, fun e => absurd e h9⟩
    have stab : ∀ x y, x < n → y < n → eqv k (dL L) Z r (RW x) (RW y) → eqv k (dL L) Z (r + 1) (RW x) (RW y) := by
      rcases h.2.2 with ⟨_, h1, _⟩ | ⟨_, h1, _, _⟩
      · intro x y hx hy _
        have a1 := hI.2.1 x hx
        have a2 := hI.2.1 y hy
        exact (hI.2.2.2 x y hx hy).mp (by omega)
      · -- kinds of r and of r + 1 are as many
        intro x y hx hy e
        refine Classical.byContradiction fun hn => ?_
        have hpq : CO (RW x) = CO (RW y) := (h.1 x y hx hy).mpr e
        have hne : CO' (RW x) ≠ CO' (RW y) := fun e9 => hn ((hI.2.2.2 x y hx hy).mp e9)
        have fin : ∀ a b, a < n → b < n → CO' (RW a) = CO' (RW b) → CO (RW a) = CO (RW b) := fun a b ha hb e9 => (h.1 a b ha hb).mpr (eqv_le (by omega) ((hI.2.2.2 a b ha hb).mp e9))
        have hch : ∀ c, ∃ i, c < cs → i < n ∧ CO (RW i) = c ∧ (c = CO (RW x) → i = x) := by
          intro c
          by_cases h9 : c < cs
          · by_cases h8 : c = CO (RW x)
            · exact ⟨x, fun _ => ⟨hx, h8.symm, fun _ => rfl⟩⟩
            · obtain ⟨i, hi, _, e9⟩ := h1.2.2.1 c h9
              exact ⟨i, fun _ => ⟨hi, e9, fun e7 => absurd e7 h8⟩⟩
          · exact ⟨0, fun e9 => absurd e9 h9⟩
        obtain ⟨I, hr⟩ := Classical.axiomOfChoice hch
        refine php_inj (c := cs) (f := fun c => if c < cs then CO' (RW (I c)) else CO' (RW y)) ?_ ?_
        · intro c hc9
          rw [← ecs]
          split
          · rename_i h9; exact hI.2.1 _ (hr c (by omega)).1
          · exact hI.2.1 y hy
        · intro c d hc9 hd9 e9
          have key : ∀ a, a < cs → CO' (RW (I a)) ≠ CO' (RW y) := by
            intro a ha e7
            have e8 := fin _ _ (hr a ha).1 hy e7
            rw [(hr a ha).2.1] at e8
            have e6 := (hr a ha).2.2 (by rw [e8, hpq])
            rw [e6] at e7
            exact hne e7
          by_cases a1 : c < cs
          · rw [if_pos a1] at e9
            by_cases a2 : d < cs
            · rw [if_pos a2] at e9
              have e8 := fin _ _ (hr c a1).1 (hr d a2).1 e9
              rw [(hr c a1).2.1, (hr d a2).2.1] at e8
              exact e8
            · rw [if_neg a2] at e9; exact absurd e9 (key c a1)
          · rw [if_neg a1] at e9
            by_cases a2 : d < cs
            · rw [if_pos a2] at e9; exact absurd e9.symm (key d a2)
            · omega
    have all : ∀ (j x y : Nat), x < n → y < n → eqv k (dL L) Z r (RW x) (RW y) → eqv k (dL L) Z (r + j) (RW x) (RW y) := by
      intro j
      induction j with
      | zero => intro x y _ _ e; exact e
      | succ j ih =>
        intro x y hx hy e
        have e2 := eqv_s.mp (stab x y hx hy e)
        refine eqv_s.mpr ⟨e2.1, fun a ha => ?_⟩
        obtain ⟨i1, hi1, f1⟩ := hR.2.2.2.2.1 x a hx ha
        obtain ⟨i2, hi2, f2⟩ := hR.2.2.2.2.1 y a hy ha
        have := e2.2 a ha
        rw [← f1, ← f2] at this ⊢
        exact ih i1 i2 hi1 hi2 this
    intro x y hx hy
    exact ⟨fun e u hu => all u.length x y hx hy (eqv_le (by omega) e) u hu (by omega), fun e u hu _ => e u hu⟩
/-- kinds by all texts -/
def ptO (k : Nat) (L RW : Nat → Nat) (Z : Nat → Bool) (n cs : Nat) (CO SP : Nat → Nat) : Prop := 0 < cs ∧ cs ≤ 40 ∧ (∀ i, i < n → CO (RW i) < cs) ∧ (∀ c, c < cs → ∃ i, i < n ∧ SP c = RW i ∧ CO (RW i) = c) ∧ ∀ i j, i < n → j < n → (CO (RW i) = CO (RW j) ↔ nrd k (dL L) Z (RW i) (RW j))
theorem prI_end {k pz n r cs : Nat} {L RW CO SP : Nat → Nat} {Z : Nat → Bool} (hR : rwO k pz L RW n) (h : prI k L RW Z n r cs cs CO SP) : ptO k L RW Z n cs CO SP := by
  rcases h.2.2 with ⟨_, h1, h2⟩ | ⟨_, h1, _, h3⟩
  · omega
  · exact ⟨ptI_ge hR h1, h1.1, h1.2.1, h1.2.2.1, fun i j hi hj => (h1.2.2.2 i j hi hj).trans (h3 rfl i j hi hj)⟩
set_option maxHeartbeats 4000000 in
set_option maxRecDepth 100000 in
theorem c_Ref_isSameClass_L24 {l : Launch} {D : va_G} {t : Nat → ClassId} {w : wf_W} {mo az an ae ac ato aps apt al aip alo alt aic arw aco act asp anu aor ann ald ahd acn ais aq acf acb aw k mn cz tz ca pz wy fi se ho lx ly ts tS cs av lz hz1 nl nh ce qd : Nat} {L CO : Nat → Nat} {p1 q1 : Nat}  {p : Program} {e : Env} {s : State} {m : MethodId} {below : List Frame} {meth : Method} {c : Code} {Q : State → Prop} (X : Cx p s m meth c R_Ref "isSameClass" b_Ref_isSameClass 5 (some .boolean) D t) (hMo : w mo = some (rfO k mn az an ae ac cz ato tz ca aps apt al aip pz wy fi se ho lx ly ts tS alo alt aic arw aco act asp cs anu aor ann av ald ahd lz hz1 nl nh acn ce ais aq acf acb qd aw)) (h_al : w al = some (.inl (t 0, 1200, .inl (iA L)))) (h_aco : w aco = some (.inl (t 0, 300, .inl (iA CO)))) (hk : k ≤ 4) (hp1 : p1 < 300) (hq1 : q1 < 300) (hCp : CO p1 < 64) (hCq : CO q1 < 64) (hCs : ∀ b, b < k → dL L p1 b < 300 ∧ dL L q1 b < 300 ∧ CO (dL L p1 b) < 64 ∧ CO (dL L q1 b) < 64)
    (K_84 : ∀ (j : Nat) (bb : Bool), (j ≤ k) → (bb = true ↔ (CO p1 = CO q1 ∧ ∀ b, b < j → CO (dL L p1 b) = CO (dL L q1 b))) → (bb = true ↔ smL CO (dL L) k p1 q1) → ∀ (H : Heap) (locs : List Loc) (ls : Array Slot), lv_has ls 5 [(0, .ref mo), (1, .int (nI p1)), (2, .int (nI q1)), (3, .int (bI bb)), (4, .int (nI j))] → wf_B D wcl (wf_A w s.heap.size) s.heap w H locs → W p l e (rmk 0 0 0 0) s m [.ref mo, .int (nI p1), .int (nI q1)].toArray below meth c H locs 0 0 Q (F0 m 84 ls [])) :
    ∀ (fu : Nat) (j : Nat) (bb : Bool), (j ≤ k) → (bb = true ↔ (CO p1 = CO q1 ∧ ∀ b, b < j → CO (dL L p1 b) = CO (dL L q1 b))) → k - j < fu → ∀ (H : Heap) (locs : List Loc) (ls : Array Slot), lv_has ls 5 [(0, .ref mo), (1, .int (nI p1)), (2, .int (nI q1)), (3, .int (bI bb)), (4, .int (nI j))] → wf_B D wcl (wf_A w s.heap.size) s.heap w H locs → W p l e (rmk 0 0 0 0) s m [.ref mo, .int (nI p1), .int (nI q1)].toArray below meth c H locs 0 0 Q (F0 m 24 ls []) := by
  have hx := X.1
  have hb := X.2.1
  intro fu
  induction fu with
  | zero => intro j bb hj hbb hfu; exact absurd hfu (Nat.not_lt_zero _)
  | succ fu ih =>
    intro j bb hj hbb hfu H locs ls hl hB
    have hs1 := fun q9 => hCs j q9
    refine lv_iload hx hb d_Ref_isSameClass_24 (lv_at hl 4 rfl) ?_
    refine lv_aload_n hx hb d_Ref_isSameClass_26 rfl (lv_at hl 0 rfl) ?_
    refine rget X hB  i_Ref hMo cl_Ref 0 (by decide) k_874 rfl rfl d_Ref_isSameClass_27 ?_
    refine wf_cge (tgt := 84) hx hb d_Ref_isSameClass_30 (by decide) (nI_toInt (by omega)) (nI_toInt (by omega)) (fun c_30 => ?_) (fun c_30 => ?_)
    · exact K_84 j bb hj hbb (by first | (have e9 : j = k := (by omega); rw [hbb, e9]; exact Iff.rfl) | (rw [c_34]; constructor; (intro q9; cases q9); intro q9; rw [hbb.mpr ⟨q9.1, fun b hb => q9.2 b (by omega)⟩] at c_34; cases c_34)) H locs ls (lv_sub hl [0, 1, 2, 3, 4] rfl) hB
    · refine lv_iload_n hx hb d_Ref_isSameClass_33 rfl (lv_at hl 3 rfl) ?_
      refine wf_beq (tgt := 84) hx hb d_Ref_isSameClass_34 (by decide) (fun c_34 => ?_) (fun c_34 => ?_)
      · exact K_84 j bb hj hbb (by first | (have e9 : j = k := (by omega); rw [hbb, e9]; exact Iff.rfl) | (rw [c_34]; constructor; (intro q9; cases q9); intro q9; rw [hbb.mpr ⟨q9.1, fun b hb => q9.2 b (by omega)⟩] at c_34; cases c_34)) H locs ls (lv_sub hl [0, 1, 2, 3, 4] rfl) hB
      · refine lv_aload_n hx hb d_Ref_isSameClass_37 rfl (lv_at hl 0 rfl) ?_
        refine rget X hB  i_Ref hMo cl_Ref 27 (by decide) k_901 rfl rfl d_Ref_isSameClass_38 ?_
        refine lv_aload_n hx hb d_Ref_isSameClass_41 rfl (lv_at hl 0 rfl) ?_
        refine rget X hB  i_Ref hMo cl_Ref 12 (by decide) k_886 rfl rfl d_Ref_isSameClass_42 ?_
        refine lv_iconst (v := nI 4) hx hb d_Ref_isSameClass_45 (by decide) ?_
        refine lv_iload_n hx hb d_Ref_isSameClass_46 rfl (lv_at hl 1 rfl) ?_
        refine wf_imul (x := 4) (y := p1) hx hb d_Ref_isSameClass_47 ?_
        refine lv_iload hx hb d_Ref_isSameClass_48 (lv_at hl 4 rfl) ?_
        refine wf_iadd (x := 4 * p1) (y := j) hx hb d_Ref_isSameClass_50 ?_
        refine wf_ti (y := nI (p1 * 4 + j)) (by congr 1; omega) ?_
        refine riald X hB  h_al (i := p1 * 4 + j) (by omega) (by decide) d_Ref_isSameClass_51 ?_
        refine wf_ti (y := nI (L (p1 * 4 + j))) rfl ?_
        refine wf_ti (y := nI (dL L p1 j)) (by rfl) ?_
        refine riald X hB  h_aco (i := dL L p1 j) (by exact (hs1 (by omega)).1) (by decide) d_Ref_isSameClass_52 ?_
        refine wf_ti (y := nI (CO (dL L p1 j))) rfl ?_
        refine lv_aload_n hx hb d_Ref_isSameClass_53 rfl (lv_at hl 0 rfl) ?_
        refine rget X hB  i_Ref hMo cl_Ref 27 (by decide) k_901 rfl rfl d_Ref_isSameClass_54 ?_
        refine lv_aload_n hx hb d_Ref_isSameClass_57 rfl (lv_at hl 0 rfl) ?_
        refine rget X hB  i_Ref hMo cl_Ref 12 (by decide) k_886 rfl rfl d_Ref_isSameClass_58 ?_
        refine lv_iconst (v := nI 4) hx hb d_Ref_isSameClass_61 (by decide) ?_
        refine lv_iload_n hx hb d_Ref_isSameClass_62 rfl (lv_at hl 2 rfl) ?_
        refine wf_imul (x := 4) (y := q1) hx hb d_Ref_isSameClass_63 ?_
        refine lv_iload hx hb d_Ref_isSameClass_64 (lv_at hl 4 rfl) ?_
        refine wf_iadd (x := 4 * q1) (y := j) hx hb d_Ref_isSameClass_66 ?_
        refine wf_ti (y := nI (q1 * 4 + j)) (by congr 1; omega) ?_
        refine riald X hB  h_al (i := q1 * 4 + j) (by omega) (by decide) d_Ref_isSameClass_67 ?_
        refine wf_ti (y := nI (L (q1 * 4 + j))) rfl ?_
        refine wf_ti (y := nI (dL L q1 j)) (by rfl) ?_
        refine riald X hB  h_aco (i := dL L q1 j) (by exact (hs1 (by omega)).2.1) (by decide) d_Ref_isSameClass_68 ?_
        refine wf_ti (y := nI (CO (dL L q1 j))) rfl ?_
        refine wf_cne (tgt := 76) hx hb d_Ref_isSameClass_69 (by decide) (nI_toInt (by have := (hs1 (by omega)).2.2.1; omega)) (nI_toInt (by have := (hs1 (by omega)).2.2.2; omega)) (fun c_69 => ?_) (fun c_69 => ?_)
        · refine lv_iconst (v := nI 0) hx hb d_Ref_isSameClass_76 (by decide) ?_
          refine lv_istore_n (lv' := [(3, .int (nI 0)), (0, .ref mo), (1, .int (nI p1)), (2, .int (nI q1)), (4, .int (nI j))]) hx hb d_Ref_isSameClass_77 rfl hl (by decide) rfl (fun ls hl => ?_)
          refine lv_iinc (v := nI (j + 1)) (lv' := [(4, .int (nI (j + 1))), (3, .int (nI 0)), (0, .ref mo), (1, .int (nI p1)), (2, .int (nI q1))]) hx hb d_Ref_isSameClass_78 hl (k := 4) rfl (show nI j + nI 1 = nI (j + 1) from nI_add _ _) (by decide) rfl (fun ls hl => ?_)
          refine lv_goto (tgt := 24) hx hb d_Ref_isSameClass_81 (by decide) ?_
          exact ih (j + 1) false (by omega) (by first | (constructor; (intro _; refine ⟨(hbb.mp c_34).1, fun b hb => ?_⟩; by_cases e9 : b = j; (rw [e9]; omega); exact (hbb.mp c_34).2 b (by omega)); intro _; rfl) | (constructor; (intro q9; cases q9); intro q9; exact absurd (q9.2 j (by omega)) (by omega))) (by omega) H locs ls (lv_sub hl [2, 3, 4, 1, 0] rfl) hB
        · refine lv_iconst (v := nI 1) hx hb d_Ref_isSameClass_72 (by decide) ?_
          refine lv_goto (tgt := 77) hx hb d_Ref_isSameClass_73 (by decide) ?_
          refine lv_istore_n (lv' := [(3, .int (nI 1)), (0, .ref mo), (1, .int (nI p1)), (2, .int (nI q1)), (4, .int (nI j))]) hx hb d_Ref_isSameClass_77 rfl hl (by decide) rfl (fun ls hl => ?_)
          refine lv_iinc (v := nI (j + 1)) (lv' := [(4, .int (nI (j + 1))), (3, .int (nI 1)), (0, .ref mo), (1, .int (nI p1)), (2, .int (nI q1))]) hx hb d_Ref_isSameClass_78 hl (k := 4) rfl (show nI j + nI 1 = nI (j + 1) from nI_add _ _) (by decide) rfl (fun ls hl => ?_)
          refine lv_goto (tgt := 24) hx hb d_Ref_isSameClass_81 (by decide) ?_
          exact ih (j + 1) true (by omega) (by first | (constructor; (intro _; refine ⟨(hbb.mp c_34).1, fun b hb => ?_⟩; by_cases e9 : b = j; (rw [e9]; omega); exact (hbb.mp c_34).2 b (by omega)); intro _; rfl) | (constructor; (intro q9; cases q9); intro q9; exact absurd (q9.2 j (by omega)) (by omega))) (by omega) H locs ls (lv_sub hl [2, 3, 4, 1, 0] rfl) hB
set_option maxHeartbeats 4000000 in
set_option maxRecDepth 100000 in
theorem c_Ref_isSameClass {l : Launch} {D : va_G} {t : Nat → ClassId} {w : wf_W} {sz : Nat} {mo az an ae ac ato aps apt al aip alo alt aic arw aco act asp anu aor ann ald ahd acn ais aq acf acb aw k mn cz tz ca pz wy fi se ho lx ly ts tS cs av lz hz1 nl nh ce qd : Nat} {L CO : Nat → Nat} {p1 q1 : Nat} (hMo : w mo = some (rfO k mn az an ae ac cz ato tz ca aps apt al aip pz wy fi se ho lx ly ts tS alo alt aic arw aco act asp cs anu aor ann av ald ahd lz hz1 nl nh acn ce ais aq acf acb qd aw)) (h_al : w al = some (.inl (t 0, 1200, .inl (iA L)))) (h_aco : w aco = some (.inl (t 0, 300, .inl (iA CO)))) (hk : k ≤ 4) (hp1 : p1 < 300) (hq1 : q1 < 300) (hCp : CO p1 < 64) (hCq : CO q1 < 64) (hCs : ∀ b, b < k → dL L p1 b < 300 ∧ dL L q1 b < 300 ∧ CO (dL L p1 b) < 64 ∧ CO (dL L q1 b) < 64) : Mi l y_Ref_isSameClass b_Ref_isSameClass 5 (some .boolean) 0 0 0 0 D t w sz [.ref mo, .int (nI p1), .int (nI q1)] (fun r w' => ((smL CO (dL L) k p1 q1) ∧ r = (bI true) ∧ w' = w) ∨ ((¬ smL CO (dL L) k p1 q1) ∧ r = (bI false) ∧ w' = w)) := by
  refine start_i (by decide) (Nat.le_of_ble_eq_true rfl) ?_
  intro p e s m below meth c ls H locs X hB hl
  have hx := X.1
  have hb := X.2.1
  have hl : lv_has ls 5 [(0, .ref mo), (1, .int (nI p1)), (2, .int (nI q1))] := hl
  refine lv_aload_n hx hb d_Ref_isSameClass_0 rfl (lv_at hl 0 rfl) ?_
  refine rget X hB  i_Ref hMo cl_Ref 27 (by decide) k_901 rfl rfl d_Ref_isSameClass_1 ?_
  refine lv_iload_n hx hb d_Ref_isSameClass_4 rfl (lv_at hl 1 rfl) ?_
  refine riald X hB  h_aco (i := p1) (by omega) (by decide) d_Ref_isSameClass_5 ?_
  refine wf_ti (y := nI (CO p1)) rfl ?_
  refine lv_aload_n hx hb d_Ref_isSameClass_6 rfl (lv_at hl 0 rfl) ?_
  refine rget X hB  i_Ref hMo cl_Ref 27 (by decide) k_901 rfl rfl d_Ref_isSameClass_7 ?_
  refine lv_iload_n hx hb d_Ref_isSameClass_10 rfl (lv_at hl 2 rfl) ?_
  refine riald X hB  h_aco (i := q1) (by omega) (by decide) d_Ref_isSameClass_11 ?_
  refine wf_ti (y := nI (CO q1)) rfl ?_
  refine wf_cne (tgt := 19) hx hb d_Ref_isSameClass_12 (by decide) (nI_toInt (by omega)) (nI_toInt (by omega)) (fun c_12 => ?_) (fun c_12 => ?_)
  · refine lv_iconst (v := nI 0) hx hb d_Ref_isSameClass_19 (by decide) ?_
    refine lv_istore_n (lv' := [(3, .int (nI 0)), (0, .ref mo), (1, .int (nI p1)), (2, .int (nI q1))]) hx hb d_Ref_isSameClass_20 rfl hl (by decide) rfl (fun ls hl => ?_)
    refine lv_iconst (v := nI 0) hx hb d_Ref_isSameClass_21 (by decide) ?_
    refine lv_istore (lv' := [(4, .int (nI 0)), (3, .int (nI 0)), (0, .ref mo), (1, .int (nI p1)), (2, .int (nI q1))]) hx hb d_Ref_isSameClass_22 hl (by decide) rfl (fun ls hl => ?_)
    refine c_Ref_isSameClass_L24 (l := l) X hMo h_al h_aco hk hp1 hq1 hCp hCq hCs (fun j bb hj hbb he H locs ls hl hB => ?_) (k - 0 + 1) 0 false (by omega) (by first | (constructor; (intro _; exact ⟨by omega, fun b hb => by omega⟩); intro _; rfl) | (constructor; (intro q9; cases q9); intro q9; exact absurd q9.1 (by omega))) (by omega) H locs ls (lv_sub hl [2, 3, 4, 1, 0] rfl) hB
    refine lv_iload_n hx hb d_Ref_isSameClass_84 rfl (lv_at hl 3 rfl) ?_
    refine ret_z X hB d_Ref_isSameClass_85 ?_
    cases bb
    · exact Or.inr ⟨fun q9 => (by have := he.mpr q9; cases this), rfl, rfl⟩
    · exact Or.inl ⟨he.mp rfl, rfl, rfl⟩
  · refine lv_iconst (v := nI 1) hx hb d_Ref_isSameClass_15 (by decide) ?_
    refine lv_goto (tgt := 20) hx hb d_Ref_isSameClass_16 (by decide) ?_
    refine lv_istore_n (lv' := [(3, .int (nI 1)), (0, .ref mo), (1, .int (nI p1)), (2, .int (nI q1))]) hx hb d_Ref_isSameClass_20 rfl hl (by decide) rfl (fun ls hl => ?_)
    refine lv_iconst (v := nI 0) hx hb d_Ref_isSameClass_21 (by decide) ?_
    refine lv_istore (lv' := [(4, .int (nI 0)), (3, .int (nI 1)), (0, .ref mo), (1, .int (nI p1)), (2, .int (nI q1))]) hx hb d_Ref_isSameClass_22 hl (by decide) rfl (fun ls hl => ?_)
    refine c_Ref_isSameClass_L24 (l := l) X hMo h_al h_aco hk hp1 hq1 hCp hCq hCs (fun j bb hj hbb he H locs ls hl hB => ?_) (k - 0 + 1) 0 true (by omega) (by first | (constructor; (intro _; exact ⟨by omega, fun b hb => by omega⟩); intro _; rfl) | (constructor; (intro q9; cases q9); intro q9; exact absurd q9.1 (by omega))) (by omega) H locs ls (lv_sub hl [2, 3, 4, 1, 0] rfl) hB
    refine lv_iload_n hx hb d_Ref_isSameClass_84 rfl (lv_at hl 3 rfl) ?_
    refine ret_z X hB d_Ref_isSameClass_85 ?_
    cases bb
    · exact Or.inr ⟨fun q9 => (by have := he.mpr q9; cases this), rfl, rfl⟩
    · exact Or.inl ⟨he.mp rfl, rfl, rfl⟩
set_option maxHeartbeats 4000000 in
set_option maxRecDepth 100000 in
theorem c_Ref_comeTo_L49 {l : Launch} {D : va_G} {t : Nat → ClassId} {w : wf_W} {mo az an ae ac ato aps apt al aip alo alt aic arw aco act asp anu aor ann ald ahd acn ais aq acf acb aw k mn cz tz ca pz wy fi se ho lx ly ts tS cs av lz hz1 nl nh ce qd : Nat} {L RW : Nat → Nat} {IC : Nat → Bool} {q2 : Nat} {p : Program} {e : Env} {s : State} {m : MethodId} {below : List Frame} {meth : Method} {c : Code} {Q : State → Prop} (X : Cx p s m meth c R_Ref "comeTo" b_Ref_comeTo 5 (some .int) D t) (hN : nd [mo, al, aic, arw]) (hMo : w mo = some (rfO k mn az an ae ac cz ato tz ca aps apt al aip pz wy fi se ho lx ly ts tS alo alt aic arw aco act asp cs anu aor ann av ald ahd lz hz1 nl nh acn ce ais aq acf acb qd aw)) (h_al : w al = some (.inl (t 0, 1200, .inl (iA L)))) (h_aic : w aic = some (.inl (t 2, 300, .inl (zA IC)))) (h_arw : w arw = some (.inl (t 0, 300, .inl (iA RW)))) (hk : k ≤ 4) (hz : pz ≤ 300) (hz0 : 0 < pz) (hLz : ∀ p a, p < pz → a < k → dL L p a < pz)
    (K_109 : ∀ (j3 : Nat) (n3 : Nat) (RW3 : Nat → Nat) (IC3 : Nat → Bool), (j3 ≤ k) → (q2 < n3) → (cmI k pz L RW3 IC3 n3 q2 j3) → (j3 = k) → ∀ (H : Heap) (locs : List Loc) (ls : Array Slot), lv_has ls 5 [(0, .ref mo), (1, .int (nI n3)), (2, .int (nI q2)), (3, .int (nI j3))] → wf_B D wcl (wf_A w s.heap.size) s.heap (wf_l w [(mo, rfO k mn az an ae ac cz ato tz ca aps apt al aip pz wy fi se ho lx ly ts tS alo alt aic arw aco act asp cs anu aor ann av ald ahd lz hz1 nl nh acn ce ais aq acf acb qd aw), (al, .inl (t 0, 1200, .inl (iA L))), (aic, .inl (t 2, 300, .inl (zA IC3))), (arw, .inl (t 0, 300, .inl (iA RW3)))]) H locs → W p l e (rmk 0 0 0 0) s m [.ref mo].toArray below meth c H locs 0 0 Q (F0 m 109 ls [])) :
    ∀ (fu : Nat) (j3 : Nat) (n3 : Nat) (RW3 : Nat → Nat) (IC3 : Nat → Bool), (j3 ≤ k) → (q2 < n3) → (cmI k pz L RW3 IC3 n3 q2 j3) → k - j3 < fu → ∀ (H : Heap) (locs : List Loc) (ls : Array Slot), lv_has ls 5 [(0, .ref mo), (1, .int (nI n3)), (2, .int (nI q2)), (3, .int (nI j3))] → wf_B D wcl (wf_A w s.heap.size) s.heap (wf_l w [(mo, rfO k mn az an ae ac cz ato tz ca aps apt al aip pz wy fi se ho lx ly ts tS alo alt aic arw aco act asp cs anu aor ann av ald ahd lz hz1 nl nh acn ce ais aq acf acb qd aw), (al, .inl (t 0, 1200, .inl (iA L))), (aic, .inl (t 2, 300, .inl (zA IC3))), (arw, .inl (t 0, 300, .inl (iA RW3)))]) H locs → W p l e (rmk 0 0 0 0) s m [.ref mo].toArray below meth c H locs 0 0 Q (F0 m 49 ls []) := by
  have hx := X.1
  have hb := X.2.1
  intro fu
  induction fu with
  | zero => intro j3 n3 RW3 IC3 hj3 hqn hc3 hfu; exact absurd hfu (Nat.not_lt_zero _)
  | succ fu ih =>
    intro j3 n3 RW3 IC3 hj3 hqn hc3 hfu H locs ls hl hB
    have hle := cmI_le hc3
    have hrq := hc3.2.2.1 q2 hqn
    have hdz : j3 < k → dL L (RW3 q2) j3 < pz := fun q9 => hLz _ _ hrq q9
    refine lv_iload_n hx hb d_Ref_comeTo_49 rfl (lv_at hl 3 rfl) ?_
    refine lv_aload_n hx hb d_Ref_comeTo_50 rfl (lv_at hl 0 rfl) ?_
    refine rgetL X hB hN 0 i_Ref rfl cl_Ref 0 (by decide) k_874 rfl rfl d_Ref_comeTo_51 ?_
    refine wf_cge (tgt := 109) hx hb d_Ref_comeTo_54 (by decide) (nI_toInt (by omega)) (nI_toInt (by omega)) (fun c_54 => ?_) (fun c_54 => ?_)
    · exact K_109 j3 n3 RW3 IC3 hj3 hqn hc3 (by omega) H locs ls (lv_sub hl [0, 1, 2, 3] rfl) hB
    · refine lv_aload_n hx hb d_Ref_comeTo_57 rfl (lv_at hl 0 rfl) ?_
      refine rgetL X hB hN 0 i_Ref rfl cl_Ref 12 (by decide) k_886 rfl rfl d_Ref_comeTo_58 ?_
      refine lv_iconst (v := nI 4) hx hb d_Ref_comeTo_61 (by decide) ?_
      refine lv_aload_n hx hb d_Ref_comeTo_62 rfl (lv_at hl 0 rfl) ?_
      refine rgetL X hB hN 0 i_Ref rfl cl_Ref 26 (by decide) k_900 rfl rfl d_Ref_comeTo_63 ?_
      refine lv_iload_n hx hb d_Ref_comeTo_66 rfl (lv_at hl 2 rfl) ?_
      refine rialdL X hB hN 3 rfl (i := q2) (by omega) (by decide) d_Ref_comeTo_67 ?_
      refine wf_ti (y := nI (RW3 q2)) rfl ?_
      refine wf_imul (x := 4) (y := RW3 q2) hx hb d_Ref_comeTo_68 ?_
      refine lv_iload_n hx hb d_Ref_comeTo_69 rfl (lv_at hl 3 rfl) ?_
      refine wf_iadd (x := 4 * (RW3 q2)) (y := j3) hx hb d_Ref_comeTo_70 ?_
      refine wf_ti (y := nI (RW3 q2 * 4 + j3)) (by congr 1; omega) ?_
      refine rialdL X hB hN 1 rfl (i := RW3 q2 * 4 + j3) (by omega) (by decide) d_Ref_comeTo_71 ?_
      refine wf_ti (y := nI (L (RW3 q2 * 4 + j3))) rfl ?_
      refine wf_ti (y := nI (dL L (RW3 q2) j3)) (by rfl) ?_
      refine lv_istore (lv' := [(4, .int (nI (dL L (RW3 q2) j3))), (0, .ref mo), (1, .int (nI n3)), (2, .int (nI q2)), (3, .int (nI j3))]) hx hb d_Ref_comeTo_72 hl (by decide) rfl (fun ls hl => ?_)
      refine lv_aload_n hx hb d_Ref_comeTo_74 rfl (lv_at hl 1 rfl) ?_
      refine rgetL X hB hN 0 i_Ref rfl cl_Ref 25 (by decide) k_899 rfl rfl d_Ref_comeTo_75 ?_
      refine lv_iload hx hb d_Ref_comeTo_78 (lv_at hl 0 rfl) ?_
      refine rzaldL X hB hN 2 rfl (i := dL L (RW3 q2) j3) (by have := hdz (by omega); omega) (by decide) d_Ref_comeTo_80 ?_
      refine wf_ti (y := bI (IC3 (dL L (RW3 q2) j3))) rfl ?_
      refine wf_bne (tgt := 103) hx hb d_Ref_comeTo_81 (by decide) (fun c_81 => ?_) (fun c_81 => ?_)
      · refine lv_iinc (v := nI (j3 + 1)) (lv' := [(3, .int (nI (j3 + 1))), (4, .int (nI (dL L (RW3 q2) j3))), (0, .ref mo), (1, .int (nI n3)), (2, .int (nI q2))]) hx hb d_Ref_comeTo_103 hl (k := 4) rfl (show nI j3 + nI 1 = nI (j3 + 1) from nI_add _ _) (by decide) rfl (fun ls hl => ?_)
        refine lv_goto (tgt := 49) hx hb d_Ref_comeTo_106 (by decide) ?_
        exact ih (j3 + 1) n3 RW3 IC3 (by omega) (by omega) (by first | exact cmI_old hc3 (hdz (by omega)) c_81 | exact cmI_new hc3 hqn (by omega) (hdz (by omega)) (by rw [c_81]; decide)) (by omega) H locs ls (lv_sub hl [2, 3, 4, 0] rfl) hB
      · refine lv_aload_n hx hb d_Ref_comeTo_84 rfl (lv_at hl 1 rfl) ?_
        refine rgetL X hB hN 0 i_Ref rfl cl_Ref 25 (by decide) k_899 rfl rfl d_Ref_comeTo_85 ?_
        refine lv_iload hx hb d_Ref_comeTo_88 (lv_at hl 0 rfl) ?_
        refine lv_iconst (v := nI 1) hx hb d_Ref_comeTo_90 (by decide) ?_
        refine wf_ti (y := bI true) rfl ?_
        refine rzastA X hB hN 2 (wl' := [(mo, rfO k mn az an ae ac cz ato tz ca aps apt al aip pz wy fi se ho lx ly ts tS alo alt aic arw aco act asp cs anu aor ann av ald ahd lz hz1 nl nh acn ce ais aq acf acb qd aw), (al, .inl (t 0, 1200, .inl (iA L))), (aic, .inl (t 2, 300, .inl (zA (nu IC3 (dL L (RW3 q2) j3) true)))), (arw, .inl (t 0, 300, .inl (iA RW3)))]) rfl (i := dL L (RW3 q2) j3) (by have := hdz (by omega); omega) (by decide) d_Ref_comeTo_91 rfl (fun H locs hB => ?_)
        refine lv_aload_n hx hb d_Ref_comeTo_92 rfl (lv_at hl 1 rfl) ?_
        refine rgetL X hB hN 0 i_Ref rfl cl_Ref 26 (by decide) k_900 rfl rfl d_Ref_comeTo_93 ?_
        refine lv_iload_n hx hb d_Ref_comeTo_96 rfl (lv_at hl 2 rfl) ?_
        refine lv_iload hx hb d_Ref_comeTo_97 (lv_at hl 0 rfl) ?_
        refine riastA X hB hN 3 (wl' := [(mo, rfO k mn az an ae ac cz ato tz ca aps apt al aip pz wy fi se ho lx ly ts tS alo alt aic arw aco act asp cs anu aor ann av ald ahd lz hz1 nl nh acn ce ais aq acf acb qd aw), (al, .inl (t 0, 1200, .inl (iA L))), (aic, .inl (t 2, 300, .inl (zA (nu IC3 (dL L (RW3 q2) j3) true)))), (arw, .inl (t 0, 300, .inl (iA (nu RW3 n3 (dL L (RW3 q2) j3)))))]) rfl (i := n3) (by have := cmI_lt hc3 hqn (by omega) (hdz (by omega)) (by rw [c_81]; decide); omega) (by decide) d_Ref_comeTo_99 rfl (fun H locs hB => ?_)
        refine lv_iinc (v := nI (n3 + 1)) (lv' := [(1, .int (nI (n3 + 1))), (4, .int (nI (dL L (RW3 q2) j3))), (0, .ref mo), (2, .int (nI q2)), (3, .int (nI j3))]) hx hb d_Ref_comeTo_100 hl (k := 2) rfl (show nI n3 + nI 1 = nI (n3 + 1) from nI_add _ _) (by decide) rfl (fun ls hl => ?_)
        refine lv_iinc (v := nI (j3 + 1)) (lv' := [(3, .int (nI (j3 + 1))), (1, .int (nI (n3 + 1))), (4, .int (nI (dL L (RW3 q2) j3))), (0, .ref mo), (2, .int (nI q2))]) hx hb d_Ref_comeTo_103 hl (k := 4) rfl (show nI j3 + nI 1 = nI (j3 + 1) from nI_add _ _) (by decide) rfl (fun ls hl => ?_)
        refine lv_goto (tgt := 49) hx hb d_Ref_comeTo_106 (by decide) ?_
        exact ih (j3 + 1) (n3 + 1) (nu RW3 n3 (dL L (RW3 q2) j3)) (nu IC3 (dL L (RW3 q2) j3) true) (by omega) (by omega) (by first | exact cmI_old hc3 (hdz (by omega)) c_81 | exact cmI_new hc3 hqn (by omega) (hdz (by omega)) (by rw [c_81]; decide)) (by omega) H locs ls (lv_sub hl [3, 1, 4, 0] rfl) hB
set_option maxHeartbeats 4000000 in
set_option maxRecDepth 100000 in
theorem c_Ref_comeTo_L42 {l : Launch} {D : va_G} {t : Nat → ClassId} {w : wf_W} {mo az an ae ac ato aps apt al aip alo alt aic arw aco act asp anu aor ann ald ahd acn ais aq acf acb aw k mn cz tz ca pz wy fi se ho lx ly ts tS cs av lz hz1 nl nh ce qd : Nat} {L RW : Nat → Nat} {IC : Nat → Bool}  {p : Program} {e : Env} {s : State} {m : MethodId} {below : List Frame} {meth : Method} {c : Code} {Q : State → Prop} (X : Cx p s m meth c R_Ref "comeTo" b_Ref_comeTo 5 (some .int) D t) (hN : nd [mo, al, aic, arw]) (hMo : w mo = some (rfO k mn az an ae ac cz ato tz ca aps apt al aip pz wy fi se ho lx ly ts tS alo alt aic arw aco act asp cs anu aor ann av ald ahd lz hz1 nl nh acn ce ais aq acf acb qd aw)) (h_al : w al = some (.inl (t 0, 1200, .inl (iA L)))) (h_aic : w aic = some (.inl (t 2, 300, .inl (zA IC)))) (h_arw : w arw = some (.inl (t 0, 300, .inl (iA RW)))) (hk : k ≤ 4) (hz : pz ≤ 300) (hz0 : 0 < pz) (hLz : ∀ p a, p < pz → a < k → dL L p a < pz)
    (K_115 : ∀ (q2 : Nat) (n2 : Nat) (RW2 : Nat → Nat) (IC2 : Nat → Bool), (q2 ≤ n2) → (cmI k pz L RW2 IC2 n2 q2 0) → (q2 = n2) → ∀ (H : Heap) (locs : List Loc) (ls : Array Slot), lv_has ls 5 [(0, .ref mo), (1, .int (nI n2)), (2, .int (nI q2))] → wf_B D wcl (wf_A w s.heap.size) s.heap (wf_l w [(mo, rfO k mn az an ae ac cz ato tz ca aps apt al aip pz wy fi se ho lx ly ts tS alo alt aic arw aco act asp cs anu aor ann av ald ahd lz hz1 nl nh acn ce ais aq acf acb qd aw), (al, .inl (t 0, 1200, .inl (iA L))), (aic, .inl (t 2, 300, .inl (zA IC2))), (arw, .inl (t 0, 300, .inl (iA RW2)))]) H locs → W p l e (rmk 0 0 0 0) s m [.ref mo].toArray below meth c H locs 0 0 Q (F0 m 115 ls [])) :
    ∀ (fu : Nat) (q2 : Nat) (n2 : Nat) (RW2 : Nat → Nat) (IC2 : Nat → Bool), (q2 ≤ n2) → (cmI k pz L RW2 IC2 n2 q2 0) → 301 - q2 < fu → ∀ (H : Heap) (locs : List Loc) (ls : Array Slot), lv_has ls 5 [(0, .ref mo), (1, .int (nI n2)), (2, .int (nI q2))] → wf_B D wcl (wf_A w s.heap.size) s.heap (wf_l w [(mo, rfO k mn az an ae ac cz ato tz ca aps apt al aip pz wy fi se ho lx ly ts tS alo alt aic arw aco act asp cs anu aor ann av ald ahd lz hz1 nl nh acn ce ais aq acf acb qd aw), (al, .inl (t 0, 1200, .inl (iA L))), (aic, .inl (t 2, 300, .inl (zA IC2))), (arw, .inl (t 0, 300, .inl (iA RW2)))]) H locs → W p l e (rmk 0 0 0 0) s m [.ref mo].toArray below meth c H locs 0 0 Q (F0 m 42 ls []) := by
  have hx := X.1
  have hb := X.2.1
  intro fu
  induction fu with
  | zero => intro q2 n2 RW2 IC2 hq2 hc2 hfu; exact absurd hfu (Nat.not_lt_zero _)
  | succ fu ih =>
    intro q2 n2 RW2 IC2 hq2 hc2 hfu H locs ls hl hB
    have hle := cmI_le hc2
    refine lv_iload_n hx hb d_Ref_comeTo_42 rfl (lv_at hl 2 rfl) ?_
    refine lv_iload_n hx hb d_Ref_comeTo_43 rfl (lv_at hl 1 rfl) ?_
    refine wf_cge (tgt := 115) hx hb d_Ref_comeTo_44 (by decide) (nI_toInt (by omega)) (nI_toInt (by omega)) (fun c_44 => ?_) (fun c_44 => ?_)
    · exact K_115 q2 n2 RW2 IC2 hq2 hc2 (by omega) H locs ls (lv_sub hl [0, 1, 2] rfl) hB
    · refine lv_iconst (v := nI 0) hx hb d_Ref_comeTo_47 (by decide) ?_
      refine lv_istore_n (lv' := [(3, .int (nI 0)), (0, .ref mo), (1, .int (nI n2)), (2, .int (nI q2))]) hx hb d_Ref_comeTo_48 rfl hl (by decide) rfl (fun ls hl => ?_)
      refine c_Ref_comeTo_L49 (l := l) X hN hMo h_al h_aic h_arw hk hz hz0 hLz (fun j3 n3 RW3 IC3 hj3 hqn hc3 he H locs ls hl hB => ?_) (k - 0 + 1) 0 n2 RW2 IC2 (by omega) (by omega) (by omega) (by omega) H locs ls (lv_sub hl [1, 2, 3, 0] rfl) hB
      refine lv_iinc (v := nI (q2 + 1)) (lv' := [(2, .int (nI (q2 + 1))), (0, .ref mo), (1, .int (nI n3)), (3, .int (nI j3))]) hx hb d_Ref_comeTo_109 hl (k := 2) rfl (show nI q2 + nI 1 = nI (q2 + 1) from nI_add _ _) (by decide) rfl (fun ls hl => ?_)
      refine lv_goto (tgt := 42) hx hb d_Ref_comeTo_112 (by decide) ?_
      exact ih (q2 + 1) n3 RW3 IC3 (by omega) (by exact cmI_next hc3 he) (by omega) H locs ls (lv_sub hl [1, 2, 0] rfl) hB
set_option maxHeartbeats 4000000 in
set_option maxRecDepth 100000 in
theorem c_Ref_comeTo_L2 {l : Launch} {D : va_G} {t : Nat → ClassId} {w : wf_W} {mo az an ae ac ato aps apt al aip alo alt aic arw aco act asp anu aor ann ald ahd acn ais aq acf acb aw k mn cz tz ca pz wy fi se ho lx ly ts tS cs av lz hz1 nl nh ce qd : Nat} {L RW : Nat → Nat} {IC : Nat → Bool}  {p : Program} {e : Env} {s : State} {m : MethodId} {below : List Frame} {meth : Method} {c : Code} {Q : State → Prop} (X : Cx p s m meth c R_Ref "comeTo" b_Ref_comeTo 5 (some .int) D t) (hN : nd [mo, al, aic, arw]) (hMo : w mo = some (rfO k mn az an ae ac cz ato tz ca aps apt al aip pz wy fi se ho lx ly ts tS alo alt aic arw aco act asp cs anu aor ann av ald ahd lz hz1 nl nh acn ce ais aq acf acb qd aw)) (h_al : w al = some (.inl (t 0, 1200, .inl (iA L)))) (h_aic : w aic = some (.inl (t 2, 300, .inl (zA IC)))) (h_arw : w arw = some (.inl (t 0, 300, .inl (iA RW)))) (hk : k ≤ 4) (hz : pz ≤ 300) (hz0 : 0 < pz) (hLz : ∀ p a, p < pz → a < k → dL L p a < pz)
    (K_31 : ∀ (i1 : Nat) (IC1 : Nat → Bool), (i1 ≤ pz) → (∀ x, x < i1 → IC1 x = decide (x = 0)) → (i1 = pz) → ∀ (H : Heap) (locs : List Loc) (ls : Array Slot), lv_has ls 5 [(0, .ref mo), (1, .int (nI i1))] → wf_B D wcl (wf_A w s.heap.size) s.heap (wf_l w [(mo, rfO k mn az an ae ac cz ato tz ca aps apt al aip pz wy fi se ho lx ly ts tS alo alt aic arw aco act asp cs anu aor ann av ald ahd lz hz1 nl nh acn ce ais aq acf acb qd aw), (al, .inl (t 0, 1200, .inl (iA L))), (aic, .inl (t 2, 300, .inl (zA IC1))), (arw, .inl (t 0, 300, .inl (iA RW)))]) H locs → W p l e (rmk 0 0 0 0) s m [.ref mo].toArray below meth c H locs 0 0 Q (F0 m 31 ls [])) :
    ∀ (fu : Nat) (i1 : Nat) (IC1 : Nat → Bool), (i1 ≤ pz) → (∀ x, x < i1 → IC1 x = decide (x = 0)) → pz - i1 < fu → ∀ (H : Heap) (locs : List Loc) (ls : Array Slot), lv_has ls 5 [(0, .ref mo), (1, .int (nI i1))] → wf_B D wcl (wf_A w s.heap.size) s.heap (wf_l w [(mo, rfO k mn az an ae ac cz ato tz ca aps apt al aip pz wy fi se ho lx ly ts tS alo alt aic arw aco act asp cs anu aor ann av ald ahd lz hz1 nl nh acn ce ais aq acf acb qd aw), (al, .inl (t 0, 1200, .inl (iA L))), (aic, .inl (t 2, 300, .inl (zA IC1))), (arw, .inl (t 0, 300, .inl (iA RW)))]) H locs → W p l e (rmk 0 0 0 0) s m [.ref mo].toArray below meth c H locs 0 0 Q (F0 m 2 ls []) := by
  have hx := X.1
  have hb := X.2.1
  intro fu
  induction fu with
  | zero => intro i1 IC1 hi1 hg1 hfu; exact absurd hfu (Nat.not_lt_zero _)
  | succ fu ih =>
    intro i1 IC1 hi1 hg1 hfu H locs ls hl hB
    refine lv_iload_n hx hb d_Ref_comeTo_2 rfl (lv_at hl 1 rfl) ?_
    refine lv_aload_n hx hb d_Ref_comeTo_3 rfl (lv_at hl 0 rfl) ?_
    refine rgetL X hB hN 0 i_Ref rfl cl_Ref 14 (by decide) k_888 rfl rfl d_Ref_comeTo_4 ?_
    refine wf_cge (tgt := 31) hx hb d_Ref_comeTo_7 (by decide) (nI_toInt (by omega)) (nI_toInt (by omega)) (fun c_7 => ?_) (fun c_7 => ?_)
    · exact K_31 i1 IC1 hi1 hg1 (by omega) H locs ls (lv_sub hl [0, 1] rfl) hB
    · refine lv_aload_n hx hb d_Ref_comeTo_10 rfl (lv_at hl 0 rfl) ?_
      refine rgetL X hB hN 0 i_Ref rfl cl_Ref 25 (by decide) k_899 rfl rfl d_Ref_comeTo_11 ?_
      refine lv_iload_n hx hb d_Ref_comeTo_14 rfl (lv_at hl 1 rfl) ?_
      refine lv_iload_n hx hb d_Ref_comeTo_15 rfl (lv_at hl 1 rfl) ?_
      refine wf_zne (tgt := 23) hx hb d_Ref_comeTo_16 (by decide) (nI_toInt (by omega)) (fun c_16 => ?_) (fun c_16 => ?_)
      · refine lv_iconst (v := nI 0) hx hb d_Ref_comeTo_23 (by decide) ?_
        refine wf_ti (y := bI false) rfl ?_
        refine rzastA X hB hN 2 (wl' := [(mo, rfO k mn az an ae ac cz ato tz ca aps apt al aip pz wy fi se ho lx ly ts tS alo alt aic arw aco act asp cs anu aor ann av ald ahd lz hz1 nl nh acn ce ais aq acf acb qd aw), (al, .inl (t 0, 1200, .inl (iA L))), (aic, .inl (t 2, 300, .inl (zA (nu IC1 i1 false)))), (arw, .inl (t 0, 300, .inl (iA RW)))]) rfl (i := i1) (by omega) (by decide) d_Ref_comeTo_24 rfl (fun H locs hB => ?_)
        refine lv_iinc (v := nI (i1 + 1)) (lv' := [(1, .int (nI (i1 + 1))), (0, .ref mo)]) hx hb d_Ref_comeTo_25 hl (k := 1) rfl (show nI i1 + nI 1 = nI (i1 + 1) from nI_add _ _) (by decide) rfl (fun ls hl => ?_)
        refine lv_goto (tgt := 2) hx hb d_Ref_comeTo_28 (by decide) ?_
        exact ih (i1 + 1) (nu IC1 i1 false) (by omega) (by intro x hx9; by_cases e9 : x = i1; (rw [e9, nu_s]; first | exact (decide_eq_true (by omega)).symm | exact (decide_eq_false (by omega)).symm); rw [nu_n e9]; exact hg1 x (by omega)) (by omega) H locs ls (lv_sub hl [1, 0] rfl) hB
      · refine lv_iconst (v := nI 1) hx hb d_Ref_comeTo_19 (by decide) ?_
        refine lv_goto (tgt := 24) hx hb d_Ref_comeTo_20 (by decide) ?_
        refine wf_ti (y := bI true) rfl ?_
        refine rzastA X hB hN 2 (wl' := [(mo, rfO k mn az an ae ac cz ato tz ca aps apt al aip pz wy fi se ho lx ly ts tS alo alt aic arw aco act asp cs anu aor ann av ald ahd lz hz1 nl nh acn ce ais aq acf acb qd aw), (al, .inl (t 0, 1200, .inl (iA L))), (aic, .inl (t 2, 300, .inl (zA (nu IC1 i1 true)))), (arw, .inl (t 0, 300, .inl (iA RW)))]) rfl (i := i1) (by omega) (by decide) d_Ref_comeTo_24 rfl (fun H locs hB => ?_)
        refine lv_iinc (v := nI (i1 + 1)) (lv' := [(1, .int (nI (i1 + 1))), (0, .ref mo)]) hx hb d_Ref_comeTo_25 hl (k := 1) rfl (show nI i1 + nI 1 = nI (i1 + 1) from nI_add _ _) (by decide) rfl (fun ls hl => ?_)
        refine lv_goto (tgt := 2) hx hb d_Ref_comeTo_28 (by decide) ?_
        exact ih (i1 + 1) (nu IC1 i1 true) (by omega) (by intro x hx9; by_cases e9 : x = i1; (rw [e9, nu_s]; first | exact (decide_eq_true (by omega)).symm | exact (decide_eq_false (by omega)).symm); rw [nu_n e9]; exact hg1 x (by omega)) (by omega) H locs ls (lv_sub hl [1, 0] rfl) hB
set_option maxHeartbeats 4000000 in
set_option maxRecDepth 100000 in
theorem c_Ref_comeTo {l : Launch} {D : va_G} {t : Nat → ClassId} {w : wf_W} {sz : Nat} {mo az an ae ac ato aps apt al aip alo alt aic arw aco act asp anu aor ann ald ahd acn ais aq acf acb aw k mn cz tz ca pz wy fi se ho lx ly ts tS cs av lz hz1 nl nh ce qd : Nat} {L RW : Nat → Nat} {IC : Nat → Bool} (hN : nd [mo, al, aic, arw]) (hMo : w mo = some (rfO k mn az an ae ac cz ato tz ca aps apt al aip pz wy fi se ho lx ly ts tS alo alt aic arw aco act asp cs anu aor ann av ald ahd lz hz1 nl nh acn ce ais aq acf acb qd aw)) (h_al : w al = some (.inl (t 0, 1200, .inl (iA L)))) (h_aic : w aic = some (.inl (t 2, 300, .inl (zA IC)))) (h_arw : w arw = some (.inl (t 0, 300, .inl (iA RW)))) (hk : k ≤ 4) (hz : pz ≤ 300) (hz0 : 0 < pz) (hLz : ∀ p a, p < pz → a < k → dL L p a < pz) : Mi l y_Ref_comeTo b_Ref_comeTo 5 (some .int) 0 0 0 0 D t w sz [.ref mo] (fun r w' => ∃ n0 : Nat, ∃ IC0 : Nat → Bool, ∃ RW0 : Nat → Nat, (rwO k pz L RW0 n0) ∧ r = (nI n0) ∧ w' = wf_l w [(mo, rfO k mn az an ae ac cz ato tz ca aps apt al aip pz wy fi se ho lx ly ts tS alo alt aic arw aco act asp cs anu aor ann av ald ahd lz hz1 nl nh acn ce ais aq acf acb qd aw), (al, .inl (t 0, 1200, .inl (iA L))), (aic, .inl (t 2, 300, .inl (zA IC0))), (arw, .inl (t 0, 300, .inl (iA RW0)))]) := by
  refine start_i (by decide) (Nat.le_of_ble_eq_true rfl) ?_
  intro p e s m below meth c ls H locs X hB hl
  have hx := X.1
  have hb := X.2.1
  have hl : lv_has ls 5 [(0, .ref mo)] := hl
  have hB : wf_B D wcl (wf_A w s.heap.size) s.heap (wf_l w [(mo, rfO k mn az an ae ac cz ato tz ca aps apt al aip pz wy fi se ho lx ly ts tS alo alt aic arw aco act asp cs anu aor ann av ald ahd lz hz1 nl nh acn ce ais aq acf acb qd aw), (al, .inl (t 0, 1200, .inl (iA L))), (aic, .inl (t 2, 300, .inl (zA IC))), (arw, .inl (t 0, 300, .inl (iA RW)))]) H locs := wf_Bto (wf_l4 hMo h_al h_aic h_arw).symm hB
  refine lv_iconst (v := nI 0) hx hb d_Ref_comeTo_0 (by decide) ?_
  refine lv_istore_n (lv' := [(1, .int (nI 0)), (0, .ref mo)]) hx hb d_Ref_comeTo_1 rfl hl (by decide) rfl (fun ls hl => ?_)
  refine c_Ref_comeTo_L2 (l := l) X hN hMo h_al h_aic h_arw hk hz hz0 hLz (fun i1 IC1 hi1 hg1 he H locs ls hl hB => ?_) (pz - 0 + 1) 0 IC (by omega) (by intro x hx9; omega) (by omega) H locs ls (lv_sub hl [1, 0] rfl) hB
  refine lv_iconst (v := nI 1) hx hb d_Ref_comeTo_31 (by decide) ?_
  refine lv_istore_n (lv' := [(1, .int (nI 1)), (0, .ref mo)]) hx hb d_Ref_comeTo_32 rfl hl (by decide) rfl (fun ls hl => ?_)
  refine lv_aload_n hx hb d_Ref_comeTo_33 rfl (lv_at hl 1 rfl) ?_
  refine rgetL X hB hN 0 i_Ref rfl cl_Ref 26 (by decide) k_900 rfl rfl d_Ref_comeTo_34 ?_
  refine lv_iconst (v := nI 0) hx hb d_Ref_comeTo_37 (by decide) ?_
  refine lv_iconst (v := nI 0) hx hb d_Ref_comeTo_38 (by decide) ?_
  refine riastA X hB hN 3 (wl' := [(mo, rfO k mn az an ae ac cz ato tz ca aps apt al aip pz wy fi se ho lx ly ts tS alo alt aic arw aco act asp cs anu aor ann av ald ahd lz hz1 nl nh acn ce ais aq acf acb qd aw), (al, .inl (t 0, 1200, .inl (iA L))), (aic, .inl (t 2, 300, .inl (zA IC1))), (arw, .inl (t 0, 300, .inl (iA (nu RW 0 0))))]) rfl (i := 0) (by omega) (by decide) d_Ref_comeTo_39 rfl (fun H locs hB => ?_)
  refine lv_iconst (v := nI 0) hx hb d_Ref_comeTo_40 (by decide) ?_
  refine lv_istore_n (lv' := [(2, .int (nI 0)), (1, .int (nI 1)), (0, .ref mo)]) hx hb d_Ref_comeTo_41 rfl hl (by decide) rfl (fun ls hl => ?_)
  refine c_Ref_comeTo_L42 (l := l) X hN hMo h_al h_aic h_arw hk hz hz0 hLz (fun q2 n2 RW2 IC2 hq2 hc2 he H locs ls hl hB => ?_) (301 - 0 + 1) 0 1 (nu RW 0 0) IC1 (by omega) (by exact cmI_0 hz0 nu_s (fun x h9 => hg1 x (by omega))) (by omega) H locs ls (lv_sub hl [2, 1, 0] rfl) hB
  refine lv_iload_n hx hb d_Ref_comeTo_115 rfl (lv_at hl 1 rfl) ?_
  refine ret_i X hB d_Ref_comeTo_116 ?_
  subst he; exact ⟨q2, IC2, RW2, cmI_end hc2, rfl, rfl⟩
set_option maxHeartbeats 4000000 in
set_option maxRecDepth 100000 in
theorem c_Ref_parts_L175 {l : Launch} {D : va_G} {t : Nat → ClassId} {w : wf_W} {mo az an ae ac ato aps apt al aip alo alt aic arw aco act asp anu aor ann ald ahd acn ais aq acf acb aw k mn cz tz ca pz wy fi se ho lx ly ts tS cs av lz hz1 nl nh ce qd : Nat} {L RW CO CT SP : Nat → Nat} {Z : Nat → Bool} {n1 : Nat} {b3 cs5 : Nat} {CT5 SP5 : Nat → Nat} {p : Program} {e : Env} {s : State} {m : MethodId} {below : List Frame} {meth : Method} {c : Code} {Q : State → Prop} (X : Cx p s m meth c R_Ref "parts" b_Ref_parts 5 (some .boolean) D t) (hN : nd [mo, al, aip, arw, aco, act, asp]) (hMo : w mo = some (rfO k mn az an ae ac cz ato tz ca aps apt al aip pz wy fi se ho lx ly ts tS alo alt aic arw aco act asp cs anu aor ann av ald ahd lz hz1 nl nh acn ce ais aq acf acb qd aw)) (h_al : w al = some (.inl (t 0, 1200, .inl (iA L)))) (h_aip : w aip = some (.inl (t 2, 300, .inl (zA Z)))) (h_arw : w arw = some (.inl (t 0, 300, .inl (iA RW)))) (h_aco : w aco = some (.inl (t 0, 300, .inl (iA CO)))) (h_act : w act = some (.inl (t 0, 300, .inl (iA CT)))) (h_asp : w asp = some (.inl (t 0, 41, .inl (iA SP)))) (hk : k ≤ 4) (hz : pz ≤ 300) (hz0 : 0 < pz) (hLz : ∀ p a, p < pz → a < k → dL L p a < pz) (hrw : rwO k pz L RW n1)
    (K_208 : ∀ (i5 : Nat) (CO5 : Nat → Nat), (i5 ≤ n1) → (∀ x, x < i5 → CO5 (RW x) = CT5 (RW x)) → (i5 = n1) → ∀ (H : Heap) (locs : List Loc) (ls : Array Slot), lv_has ls 5 [(0, .ref mo), (1, .int (nI n1)), (2, .int (nI b3)), (3, .int (nI i5))] → wf_B D wcl (wf_A w s.heap.size) s.heap (wf_l w [(mo, rfO k mn az an ae ac cz ato tz ca aps apt al aip pz wy fi se ho lx ly ts tS alo alt aic arw aco act asp cs5 anu aor ann av ald ahd lz hz1 nl nh acn ce ais aq acf acb qd aw), (al, .inl (t 0, 1200, .inl (iA L))), (aip, .inl (t 2, 300, .inl (zA Z))), (arw, .inl (t 0, 300, .inl (iA RW))), (aco, .inl (t 0, 300, .inl (iA CO5))), (act, .inl (t 0, 300, .inl (iA CT5))), (asp, .inl (t 0, 41, .inl (iA SP5)))]) H locs → W p l e (rmk 1 24 0 0) s m [.ref mo, .int (nI n1)].toArray below meth c H locs 0 0 Q (F0 m 208 ls [])) :
    ∀ (fu : Nat) (i5 : Nat) (CO5 : Nat → Nat), (i5 ≤ n1) → (∀ x, x < i5 → CO5 (RW x) = CT5 (RW x)) → n1 - i5 < fu → ∀ (H : Heap) (locs : List Loc) (ls : Array Slot), lv_has ls 5 [(0, .ref mo), (1, .int (nI n1)), (2, .int (nI b3)), (3, .int (nI i5))] → wf_B D wcl (wf_A w s.heap.size) s.heap (wf_l w [(mo, rfO k mn az an ae ac cz ato tz ca aps apt al aip pz wy fi se ho lx ly ts tS alo alt aic arw aco act asp cs5 anu aor ann av ald ahd lz hz1 nl nh acn ce ais aq acf acb qd aw), (al, .inl (t 0, 1200, .inl (iA L))), (aip, .inl (t 2, 300, .inl (zA Z))), (arw, .inl (t 0, 300, .inl (iA RW))), (aco, .inl (t 0, 300, .inl (iA CO5))), (act, .inl (t 0, 300, .inl (iA CT5))), (asp, .inl (t 0, 41, .inl (iA SP5)))]) H locs → W p l e (rmk 1 24 0 0) s m [.ref mo, .int (nI n1)].toArray below meth c H locs 0 0 Q (F0 m 175 ls []) := by
  have hx := X.1
  have hb := X.2.1
  intro fu
  induction fu with
  | zero => intro i5 CO5 hi5 hg5 hfu; exact absurd hfu (Nat.not_lt_zero _)
  | succ fu ih =>
    intro i5 CO5 hi5 hg5 hfu H locs ls hl hB
    have hn3 := php_le hrw.2.2.1 hrw.2.2.2.1
    have hrl := hrw.2.2.1
    refine lv_iload_n hx hb d_Ref_parts_175 rfl (lv_at hl 3 rfl) ?_
    refine lv_iload_n hx hb d_Ref_parts_176 rfl (lv_at hl 1 rfl) ?_
    refine wf_cge (tgt := 208) hx hb d_Ref_parts_177 (by decide) (nI_toInt (by omega)) (nI_toInt (by omega)) (fun c_177 => ?_) (fun c_177 => ?_)
    · exact K_208 i5 CO5 hi5 hg5 (by omega) H locs ls (lv_sub hl [0, 1, 2, 3] rfl) hB
    · refine lv_aload_n hx hb d_Ref_parts_180 rfl (lv_at hl 0 rfl) ?_
      refine rgetL X hB hN 0 i_Ref rfl cl_Ref 27 (by decide) k_901 rfl rfl d_Ref_parts_181 ?_
      refine lv_aload_n hx hb d_Ref_parts_184 rfl (lv_at hl 0 rfl) ?_
      refine rgetL X hB hN 0 i_Ref rfl cl_Ref 26 (by decide) k_900 rfl rfl d_Ref_parts_185 ?_
      refine lv_iload_n hx hb d_Ref_parts_188 rfl (lv_at hl 3 rfl) ?_
      refine rialdL X hB hN 3 rfl (i := i5) (by omega) (by decide) d_Ref_parts_189 ?_
      refine wf_ti (y := nI (RW i5)) rfl ?_
      refine lv_aload_n hx hb d_Ref_parts_190 rfl (lv_at hl 0 rfl) ?_
      refine rgetL X hB hN 0 i_Ref rfl cl_Ref 28 (by decide) k_902 rfl rfl d_Ref_parts_191 ?_
      refine lv_aload_n hx hb d_Ref_parts_194 rfl (lv_at hl 0 rfl) ?_
      refine rgetL X hB hN 0 i_Ref rfl cl_Ref 26 (by decide) k_900 rfl rfl d_Ref_parts_195 ?_
      refine lv_iload_n hx hb d_Ref_parts_198 rfl (lv_at hl 3 rfl) ?_
      refine rialdL X hB hN 3 rfl (i := i5) (by omega) (by decide) d_Ref_parts_199 ?_
      refine wf_ti (y := nI (RW i5)) rfl ?_
      refine rialdL X hB hN 5 rfl (i := RW i5) (by have := hrl i5 (by omega); omega) (by decide) d_Ref_parts_200 ?_
      refine wf_ti (y := nI (CT5 (RW i5))) rfl ?_
      refine riastA X hB hN 4 (wl' := [(mo, rfO k mn az an ae ac cz ato tz ca aps apt al aip pz wy fi se ho lx ly ts tS alo alt aic arw aco act asp cs5 anu aor ann av ald ahd lz hz1 nl nh acn ce ais aq acf acb qd aw), (al, .inl (t 0, 1200, .inl (iA L))), (aip, .inl (t 2, 300, .inl (zA Z))), (arw, .inl (t 0, 300, .inl (iA RW))), (aco, .inl (t 0, 300, .inl (iA (nu CO5 (RW i5) (CT5 (RW i5)))))), (act, .inl (t 0, 300, .inl (iA CT5))), (asp, .inl (t 0, 41, .inl (iA SP5)))]) rfl (i := RW i5) (by have := hrl i5 (by omega); omega) (by decide) d_Ref_parts_201 rfl (fun H locs hB => ?_)
      refine lv_iinc (v := nI (i5 + 1)) (lv' := [(3, .int (nI (i5 + 1))), (0, .ref mo), (1, .int (nI n1)), (2, .int (nI b3))]) hx hb d_Ref_parts_202 hl (k := 3) rfl (show nI i5 + nI 1 = nI (i5 + 1) from nI_add _ _) (by decide) rfl (fun ls hl => ?_)
      refine lv_goto (tgt := 175) hx hb d_Ref_parts_205 (by decide) ?_
      exact ih (i5 + 1) (nu CO5 (RW i5) (CT5 (RW i5))) (by omega) (by intro x h9; by_cases e9 : x = i5; (rw [e9, nu_s]); rw [nu_n (fun q9 => e9 (hrw.2.2.2.1 x i5 (by omega) (by omega) q9))]; exact hg5 x (by omega)) (by omega) H locs ls (lv_sub hl [1, 2, 3, 0] rfl) hB
set_option maxHeartbeats 4000000 in
set_option maxRecDepth 100000 in
theorem c_Ref_parts_L78 {l : Launch} {D : va_G} {t : Nat → ClassId} {w : wf_W} {mo az an ae ac ato aps apt al aip alo alt aic arw aco act asp anu aor ann ald ahd acn ais aq acf acb aw k mn cz tz ca pz wy fi se ho lx ly ts tS cs av lz hz1 nl nh ce qd : Nat} {L RW CO CT SP : Nat → Nat} {Z : Nat → Bool} {n1 : Nat} {r2 b3 i3 cs3 : Nat} {CO2 CT3 SP3 : Nat → Nat} {p : Program} {e : Env} {s : State} {m : MethodId} {below : List Frame} {meth : Method} {c : Code} {Q : State → Prop} (X : Cx p s m meth c R_Ref "parts" b_Ref_parts 5 (some .boolean) D t) (hN : nd [mo, al, aip, arw, aco, act, asp]) (hMo : w mo = some (rfO k mn az an ae ac cz ato tz ca aps apt al aip pz wy fi se ho lx ly ts tS alo alt aic arw aco act asp cs anu aor ann av ald ahd lz hz1 nl nh acn ce ais aq acf acb qd aw)) (h_al : w al = some (.inl (t 0, 1200, .inl (iA L)))) (h_aip : w aip = some (.inl (t 2, 300, .inl (zA Z)))) (h_arw : w arw = some (.inl (t 0, 300, .inl (iA RW)))) (h_aco : w aco = some (.inl (t 0, 300, .inl (iA CO)))) (h_act : w act = some (.inl (t 0, 300, .inl (iA CT)))) (h_asp : w asp = some (.inl (t 0, 41, .inl (iA SP)))) (hk : k ≤ 4) (hz : pz ≤ 300) (hz0 : 0 < pz) (hLz : ∀ p a, p < pz → a < k → dL L p a < pz) (hrw : rwO k pz L RW n1) (hC2 : ∀ i, i < n1 → CO2 (RW i) < 64) (hi3 : i3 < n1) (hp3 : ptI k L RW Z (r2 + 1) i3 cs3 CT3 SP3)
    (K_113 : ∀ (c4 : Nat), (c4 ≤ cs3) → (∀ c, c < c4 → ¬ smL CO2 (dL L) k (RW i3) (SP3 c)) → (c4 = cs3 ∨ (c4 < cs3 ∧ smL CO2 (dL L) k (RW i3) (SP3 c4))) → ∀ (H : Heap) (locs : List Loc) (ls : Array Slot), lv_has ls 5 [(0, .ref mo), (1, .int (nI n1)), (2, .int (nI b3)), (3, .int (nI i3)), (4, .int (nI c4))] → wf_B D wcl (wf_A w s.heap.size) s.heap (wf_l w [(mo, rfO k mn az an ae ac cz ato tz ca aps apt al aip pz wy fi se ho lx ly ts tS alo alt aic arw aco act asp cs3 anu aor ann av ald ahd lz hz1 nl nh acn ce ais aq acf acb qd aw), (al, .inl (t 0, 1200, .inl (iA L))), (aip, .inl (t 2, 300, .inl (zA Z))), (arw, .inl (t 0, 300, .inl (iA RW))), (aco, .inl (t 0, 300, .inl (iA CO2))), (act, .inl (t 0, 300, .inl (iA CT3))), (asp, .inl (t 0, 41, .inl (iA SP3)))]) H locs → W p l e (rmk 1 24 0 0) s m [.ref mo, .int (nI n1)].toArray below meth c H locs 0 0 Q (F0 m 113 ls [])) :
    ∀ (fu : Nat) (c4 : Nat), (c4 ≤ cs3) → (∀ c, c < c4 → ¬ smL CO2 (dL L) k (RW i3) (SP3 c)) → cs3 - c4 < fu → ∀ (H : Heap) (locs : List Loc) (ls : Array Slot), lv_has ls 5 [(0, .ref mo), (1, .int (nI n1)), (2, .int (nI b3)), (3, .int (nI i3)), (4, .int (nI c4))] → wf_B D wcl (wf_A w s.heap.size) s.heap (wf_l w [(mo, rfO k mn az an ae ac cz ato tz ca aps apt al aip pz wy fi se ho lx ly ts tS alo alt aic arw aco act asp cs3 anu aor ann av ald ahd lz hz1 nl nh acn ce ais aq acf acb qd aw), (al, .inl (t 0, 1200, .inl (iA L))), (aip, .inl (t 2, 300, .inl (zA Z))), (arw, .inl (t 0, 300, .inl (iA RW))), (aco, .inl (t 0, 300, .inl (iA CO2))), (act, .inl (t 0, 300, .inl (iA CT3))), (asp, .inl (t 0, 41, .inl (iA SP3)))]) H locs → W p l e (rmk 1 24 0 0) s m [.ref mo, .int (nI n1)].toArray below meth c H locs 0 0 Q (F0 m 78 ls []) := by
  have hx := X.1
  have hb := X.2.1
  intro fu
  induction fu with
  | zero => intro c4 hc4 hn4 hfu; exact absurd hfu (Nat.not_lt_zero _)
  | succ fu ih =>
    intro c4 hc4 hn4 hfu H locs ls hl hB
    have hn3 := php_le hrw.2.2.1 hrw.2.2.2.1
    have hrl := hrw.2.2.1
    have hcs3 := hp3.1
    have hsp : ∀ c, c < cs3 → ∃ i, i < n1 ∧ SP3 c = RW i := fun c h9 => by obtain ⟨i, h1, h2, _⟩ := hp3.2.2.1 c h9; exact ⟨i, by omega, h2⟩
    have hcl : ∀ i b, i < n1 → b < k → dL L (RW i) b < 300 ∧ CO2 (dL L (RW i) b) < 64 := fun i b h1 h2 => by obtain ⟨j, h3, h4⟩ := hrw.2.2.2.2.1 i b h1 h2; rw [← h4]; exact ⟨by have := hrl j h3; omega, hC2 j h3⟩
    refine lv_iload hx hb d_Ref_parts_78 (lv_at hl 4 rfl) ?_
    refine lv_aload_n hx hb d_Ref_parts_80 rfl (lv_at hl 0 rfl) ?_
    refine rgetL X hB hN 0 i_Ref rfl cl_Ref 30 (by decide) k_904 rfl rfl d_Ref_parts_81 ?_
    refine wf_cge (tgt := 113) hx hb d_Ref_parts_84 (by decide) (nI_toInt (by omega)) (nI_toInt (by omega)) (fun c_84 => ?_) (fun c_84 => ?_)
    · exact K_113 c4 hc4 hn4 (by first | exact Or.inr ⟨by omega, hy_101⟩ | exact Or.inl (by omega)) H locs ls (lv_sub hl [0, 1, 2, 3, 4] rfl) hB
    · refine lv_aload_n hx hb d_Ref_parts_87 rfl (lv_at hl 0 rfl) ?_
      refine lv_aload_n hx hb d_Ref_parts_88 rfl (lv_at hl 0 rfl) ?_
      refine rgetL X hB hN 0 i_Ref rfl cl_Ref 26 (by decide) k_900 rfl rfl d_Ref_parts_89 ?_
      refine lv_iload_n hx hb d_Ref_parts_92 rfl (lv_at hl 3 rfl) ?_
      refine rialdL X hB hN 3 rfl (i := i3) (by omega) (by decide) d_Ref_parts_93 ?_
      refine wf_ti (y := nI (RW i3)) rfl ?_
      refine lv_aload_n hx hb d_Ref_parts_94 rfl (lv_at hl 0 rfl) ?_
      refine rgetL X hB hN 0 i_Ref rfl cl_Ref 29 (by decide) k_903 rfl rfl d_Ref_parts_95 ?_
      refine lv_iload hx hb d_Ref_parts_98 (lv_at hl 4 rfl) ?_
      refine rialdL X hB hN 6 rfl (i := c4) (by omega) (by decide) d_Ref_parts_100 ?_
      refine wf_ti (y := nI (SP3 c4)) rfl ?_
      refine callVi (As := [.int (nI (RW i3)), .int (nI (SP3 c4))]) (rest := []) X hB wf_hA (c_Ref_isSameClass (l := l) (D := D) (t := t) (w := (wf_l w [(mo, rfO k mn az an ae ac cz ato tz ca aps apt al aip pz wy fi se ho lx ly ts tS alo alt aic arw aco act asp cs3 anu aor ann av ald ahd lz hz1 nl nh acn ce ais aq acf acb qd aw), (al, .inl (t 0, 1200, .inl (iA L))), (aip, .inl (t 2, 300, .inl (zA Z))), (arw, .inl (t 0, 300, .inl (iA RW))), (aco, .inl (t 0, 300, .inl (iA CO2))), (act, .inl (t 0, 300, .inl (iA CT3))), (asp, .inl (t 0, 41, .inl (iA SP3)))])) (sz := H.size) (mo := mo) (az := az) (an := an) (ae := ae) (ac := ac) (ato := ato) (aps := aps) (apt := apt) (al := al) (aip := aip) (alo := alo) (alt := alt) (aic := aic) (arw := arw) (aco := aco) (act := act) (asp := asp) (anu := anu) (aor := aor) (ann := ann) (ald := ald) (ahd := ahd) (acn := acn) (ais := ais) (aq := aq) (acf := acf) (acb := acb) (aw := aw) (k := k) (mn := mn) (cz := cz) (tz := tz) (ca := ca) (pz := pz) (wy := wy) (fi := fi) (se := se) (ho := ho) (lx := lx) (ly := ly) (ts := ts) (tS := tS) (cs := cs3) (av := av) (lz := lz) (hz1 := hz1) (nl := nl) (nh := nh) (ce := ce) (qd := qd) (L := L) (CO := CO2) (p1 := RW i3) (q1 := SP3 c4) (wf_lg (w := w) (l := [(mo, rfO k mn az an ae ac cz ato tz ca aps apt al aip pz wy fi se ho lx ly ts tS alo alt aic arw aco act asp cs3 anu aor ann av ald ahd lz hz1 nl nh acn ce ais aq acf acb qd aw), (al, .inl (t 0, 1200, .inl (iA L))), (aip, .inl (t 2, 300, .inl (zA Z))), (arw, .inl (t 0, 300, .inl (iA RW))), (aco, .inl (t 0, 300, .inl (iA CO2))), (act, .inl (t 0, 300, .inl (iA CT3))), (asp, .inl (t 0, 41, .inl (iA SP3)))]) hN 0 rfl) (wf_lg (w := w) (l := [(mo, rfO k mn az an ae ac cz ato tz ca aps apt al aip pz wy fi se ho lx ly ts tS alo alt aic arw aco act asp cs3 anu aor ann av ald ahd lz hz1 nl nh acn ce ais aq acf acb qd aw), (al, .inl (t 0, 1200, .inl (iA L))), (aip, .inl (t 2, 300, .inl (zA Z))), (arw, .inl (t 0, 300, .inl (iA RW))), (aco, .inl (t 0, 300, .inl (iA CO2))), (act, .inl (t 0, 300, .inl (iA CT3))), (asp, .inl (t 0, 41, .inl (iA SP3)))]) hN 1 rfl) (wf_lg (w := w) (l := [(mo, rfO k mn az an ae ac cz ato tz ca aps apt al aip pz wy fi se ho lx ly ts tS alo alt aic arw aco act asp cs3 anu aor ann av ald ahd lz hz1 nl nh acn ce ais aq acf acb qd aw), (al, .inl (t 0, 1200, .inl (iA L))), (aip, .inl (t 2, 300, .inl (zA Z))), (arw, .inl (t 0, 300, .inl (iA RW))), (aco, .inl (t 0, 300, .inl (iA CO2))), (act, .inl (t 0, 300, .inl (iA CT3))), (asp, .inl (t 0, 41, .inl (iA SP3)))]) hN 4 rfl) (by exact hk) (by have := hrl i3 hi3; omega) (by obtain ⟨i9, h1, h2⟩ := hsp c4 (by omega); rw [h2]; have := hrl i9 h1; omega) (by exact hC2 i3 hi3) (by obtain ⟨i9, h1, h2⟩ := hsp c4 (by omega); rw [h2]; exact hC2 i9 h1) (by obtain ⟨i9, h1, h2⟩ := hsp c4 (by omega); rw [h2]; exact fun b h9 => ⟨(hcl i3 b hi3 h9).1, (hcl i9 b h1 h9).1, (hcl i3 b hi3 h9).2, (hcl i9 b h1 h9).2⟩)) k_1058 k_1060 k_38 k_75 k_1061 (wf_lg (w := w) (l := [(mo, rfO k mn az an ae ac cz ato tz ca aps apt al aip pz wy fi se ho lx ly ts tS alo alt aic arw aco act asp cs3 anu aor ann av ald ahd lz hz1 nl nh acn ce ais aq acf acb qd aw), (al, .inl (t 0, 1200, .inl (iA L))), (aip, .inl (t 2, 300, .inl (zA Z))), (arw, .inl (t 0, 300, .inl (iA RW))), (aco, .inl (t 0, 300, .inl (iA CO2))), (act, .inl (t 0, 300, .inl (iA CT3))), (asp, .inl (t 0, 41, .inl (iA SP3)))]) hN 0 rfl) cl_Ref rfl hd_Ref_isSameClass ⟨Nat.le_of_ble_eq_true rfl, Nat.le_of_ble_eq_true rfl⟩ ⟨Nat.le_of_ble_eq_true rfl, Nat.le_of_ble_eq_true rfl⟩ hl.1 (Nat.le_of_ble_eq_true rfl) d_Ref_parts_101 rfl (fun r_101 w1 H locs hp hB => ?_)
      rcases hp with ⟨hy_101, rfl, hw_101⟩ | ⟨hy_101, rfl, hw_101⟩
      · have hB : wf_B D wcl (wf_A w s.heap.size) s.heap (wf_l w [(mo, rfO k mn az an ae ac cz ato tz ca aps apt al aip pz wy fi se ho lx ly ts tS alo alt aic arw aco act asp cs3 anu aor ann av ald ahd lz hz1 nl nh acn ce ais aq acf acb qd aw), (al, .inl (t 0, 1200, .inl (iA L))), (aip, .inl (t 2, 300, .inl (zA Z))), (arw, .inl (t 0, 300, .inl (iA RW))), (aco, .inl (t 0, 300, .inl (iA CO2))), (act, .inl (t 0, 300, .inl (iA CT3))), (asp, .inl (t 0, 41, .inl (iA SP3)))]) H locs := wf_Bto hw_101 hB
        refine wf_bne (tgt := 113) hx hb d_Ref_parts_104 (by decide) (fun _ => ?_) (fun c9 => absurd c9 (by decide))
        exact K_113 c4 hc4 hn4 (by first | exact Or.inr ⟨by omega, hy_101⟩ | exact Or.inl (by omega)) H locs ls (lv_sub hl [0, 1, 2, 3, 4] rfl) hB
      · have hB : wf_B D wcl (wf_A w s.heap.size) s.heap (wf_l w [(mo, rfO k mn az an ae ac cz ato tz ca aps apt al aip pz wy fi se ho lx ly ts tS alo alt aic arw aco act asp cs3 anu aor ann av ald ahd lz hz1 nl nh acn ce ais aq acf acb qd aw), (al, .inl (t 0, 1200, .inl (iA L))), (aip, .inl (t 2, 300, .inl (zA Z))), (arw, .inl (t 0, 300, .inl (iA RW))), (aco, .inl (t 0, 300, .inl (iA CO2))), (act, .inl (t 0, 300, .inl (iA CT3))), (asp, .inl (t 0, 41, .inl (iA SP3)))]) H locs := wf_Bto hw_101 hB
        refine wf_bne (tgt := 113) hx hb d_Ref_parts_104 (by decide) (fun c9 => absurd c9 (by decide)) (fun _ => ?_)
        refine lv_iinc (v := nI (c4 + 1)) (lv' := [(4, .int (nI (c4 + 1))), (0, .ref mo), (1, .int (nI n1)), (2, .int (nI b3)), (3, .int (nI i3))]) hx hb d_Ref_parts_107 hl (k := 4) rfl (show nI c4 + nI 1 = nI (c4 + 1) from nI_add _ _) (by decide) rfl (fun ls hl => ?_)
        refine lv_goto (tgt := 78) hx hb d_Ref_parts_110 (by decide) ?_
        exact ih (c4 + 1) (by omega) (by intro c h9; by_cases e9 : c = c4; (rw [e9]; exact hy_101); exact hn4 c (by omega)) (by omega) H locs ls (lv_sub hl [1, 2, 3, 4, 0] rfl) hB
set_option maxHeartbeats 4000000 in
set_option maxRecDepth 100000 in
theorem c_Ref_parts_L70 {l : Launch} {D : va_G} {t : Nat → ClassId} {w : wf_W} {mo az an ae ac ato aps apt al aip alo alt aic arw aco act asp anu aor ann ald ahd acn ais aq acf acb aw k mn cz tz ca pz wy fi se ho lx ly ts tS cs av lz hz1 nl nh ce qd : Nat} {L RW CO CT SP : Nat → Nat} {Z : Nat → Bool} {n1 : Nat} {r2 b3 : Nat} {CO2 : Nat → Nat} {p : Program} {e : Env} {s : State} {m : MethodId} {below : List Frame} {meth : Method} {c : Code} (X : Cx p s m meth c R_Ref "parts" b_Ref_parts 5 (some .boolean) D t) (hN : nd [mo, al, aip, arw, aco, act, asp]) (hMo : w mo = some (rfO k mn az an ae ac cz ato tz ca aps apt al aip pz wy fi se ho lx ly ts tS alo alt aic arw aco act asp cs anu aor ann av ald ahd lz hz1 nl nh acn ce ais aq acf acb qd aw)) (h_al : w al = some (.inl (t 0, 1200, .inl (iA L)))) (h_aip : w aip = some (.inl (t 2, 300, .inl (zA Z)))) (h_arw : w arw = some (.inl (t 0, 300, .inl (iA RW)))) (h_aco : w aco = some (.inl (t 0, 300, .inl (iA CO)))) (h_act : w act = some (.inl (t 0, 300, .inl (iA CT)))) (h_asp : w asp = some (.inl (t 0, 41, .inl (iA SP)))) (hk : k ≤ 4) (hz : pz ≤ 300) (hz0 : 0 < pz) (hLz : ∀ p a, p < pz → a < k → dL L p a < pz) (hrw : rwO k pz L RW n1) (hK2 : ∀ x y, x < n1 → y < n1 → (CO2 (RW x) = CO2 (RW y) ↔ eqv k (dL L) Z r2 (RW x) (RW y))) (hC2 : ∀ i, i < n1 → CO2 (RW i) < 64)
    (K_173 : ∀ (i3 : Nat) (cs3 : Nat) (CT3 : Nat → Nat) (SP3 : Nat → Nat), (i3 ≤ n1) → (ptI k L RW Z (r2 + 1) i3 cs3 CT3 SP3) → (i3 = n1) → ∀ (H : Heap) (locs : List Loc) (ls : Array Slot), lv_has ls 5 [(0, .ref mo), (1, .int (nI n1)), (2, .int (nI b3)), (3, .int (nI i3))] → wf_B D wcl (wf_A w s.heap.size) s.heap (wf_l w [(mo, rfO k mn az an ae ac cz ato tz ca aps apt al aip pz wy fi se ho lx ly ts tS alo alt aic arw aco act asp cs3 anu aor ann av ald ahd lz hz1 nl nh acn ce ais aq acf acb qd aw), (al, .inl (t 0, 1200, .inl (iA L))), (aip, .inl (t 2, 300, .inl (zA Z))), (arw, .inl (t 0, 300, .inl (iA RW))), (aco, .inl (t 0, 300, .inl (iA CO2))), (act, .inl (t 0, 300, .inl (iA CT3))), (asp, .inl (t 0, 41, .inl (iA SP3)))]) H locs → W p l e (rmk 1 24 0 0) s m [.ref mo, .int (nI n1)].toArray below meth c H locs 0 0 (MQ below (wf_Qi D wcl w (fun r w' => (∃ cs0 : Nat, ∃ CO0 : Nat → Nat, ∃ CT0 : Nat → Nat, ∃ SP0 : Nat → Nat, (ptO k L RW Z n1 cs0 CO0 SP0) ∧ r = (bI true) ∧ w' = wf_l w [(mo, rfO k mn az an ae ac cz ato tz ca aps apt al aip pz wy fi se ho lx ly ts tS alo alt aic arw aco act asp cs0 anu aor ann av ald ahd lz hz1 nl nh acn ce ais aq acf acb qd aw), (al, .inl (t 0, 1200, .inl (iA L))), (aip, .inl (t 2, 300, .inl (zA Z))), (arw, .inl (t 0, 300, .inl (iA RW))), (aco, .inl (t 0, 300, .inl (iA CO0))), (act, .inl (t 0, 300, .inl (iA CT0))), (asp, .inl (t 0, 41, .inl (iA SP0)))]) ∨ (∃ cs0 : Nat, ∃ CO0 : Nat → Nat, ∃ CT0 : Nat → Nat, ∃ SP0 : Nat → Nat, (tooL k (lng L Z)) ∧ r = (bI false) ∧ w' = wf_l w [(mo, rfO k mn az an ae ac cz ato tz ca aps apt al aip pz wy fi se ho lx ly ts tS alo alt aic arw aco act asp cs0 anu aor ann av ald ahd lz hz1 nl nh acn ce ais aq acf acb qd aw), (al, .inl (t 0, 1200, .inl (iA L))), (aip, .inl (t 2, 300, .inl (zA Z))), (arw, .inl (t 0, 300, .inl (iA RW))), (aco, .inl (t 0, 300, .inl (iA CO0))), (act, .inl (t 0, 300, .inl (iA CT0))), (asp, .inl (t 0, 41, .inl (iA SP0)))])) s.heap.size) [.ref mo, .int (nI n1)].toArray s 0 0 (wf_A w s.heap.size)) (F0 m 173 ls [])) :
    ∀ (fu : Nat) (i3 : Nat) (cs3 : Nat) (CT3 : Nat → Nat) (SP3 : Nat → Nat), (i3 ≤ n1) → (ptI k L RW Z (r2 + 1) i3 cs3 CT3 SP3) → n1 - i3 < fu → ∀ (H : Heap) (locs : List Loc) (ls : Array Slot), lv_has ls 5 [(0, .ref mo), (1, .int (nI n1)), (2, .int (nI b3)), (3, .int (nI i3))] → wf_B D wcl (wf_A w s.heap.size) s.heap (wf_l w [(mo, rfO k mn az an ae ac cz ato tz ca aps apt al aip pz wy fi se ho lx ly ts tS alo alt aic arw aco act asp cs3 anu aor ann av ald ahd lz hz1 nl nh acn ce ais aq acf acb qd aw), (al, .inl (t 0, 1200, .inl (iA L))), (aip, .inl (t 2, 300, .inl (zA Z))), (arw, .inl (t 0, 300, .inl (iA RW))), (aco, .inl (t 0, 300, .inl (iA CO2))), (act, .inl (t 0, 300, .inl (iA CT3))), (asp, .inl (t 0, 41, .inl (iA SP3)))]) H locs → W p l e (rmk 1 24 0 0) s m [.ref mo, .int (nI n1)].toArray below meth c H locs 0 0 (MQ below (wf_Qi D wcl w (fun r w' => (∃ cs0 : Nat, ∃ CO0 : Nat → Nat, ∃ CT0 : Nat → Nat, ∃ SP0 : Nat → Nat, (ptO k L RW Z n1 cs0 CO0 SP0) ∧ r = (bI true) ∧ w' = wf_l w [(mo, rfO k mn az an ae ac cz ato tz ca aps apt al aip pz wy fi se ho lx ly ts tS alo alt aic arw aco act asp cs0 anu aor ann av ald ahd lz hz1 nl nh acn ce ais aq acf acb qd aw), (al, .inl (t 0, 1200, .inl (iA L))), (aip, .inl (t 2, 300, .inl (zA Z))), (arw, .inl (t 0, 300, .inl (iA RW))), (aco, .inl (t 0, 300, .inl (iA CO0))), (act, .inl (t 0, 300, .inl (iA CT0))), (asp, .inl (t 0, 41, .inl (iA SP0)))]) ∨ (∃ cs0 : Nat, ∃ CO0 : Nat → Nat, ∃ CT0 : Nat → Nat, ∃ SP0 : Nat → Nat, (tooL k (lng L Z)) ∧ r = (bI false) ∧ w' = wf_l w [(mo, rfO k mn az an ae ac cz ato tz ca aps apt al aip pz wy fi se ho lx ly ts tS alo alt aic arw aco act asp cs0 anu aor ann av ald ahd lz hz1 nl nh acn ce ais aq acf acb qd aw), (al, .inl (t 0, 1200, .inl (iA L))), (aip, .inl (t 2, 300, .inl (zA Z))), (arw, .inl (t 0, 300, .inl (iA RW))), (aco, .inl (t 0, 300, .inl (iA CO0))), (act, .inl (t 0, 300, .inl (iA CT0))), (asp, .inl (t 0, 41, .inl (iA SP0)))])) s.heap.size) [.ref mo, .int (nI n1)].toArray s 0 0 (wf_A w s.heap.size)) (F0 m 70 ls []) := by
  have hx := X.1
  have hb := X.2.1
  intro fu
  induction fu with
  | zero => intro i3 cs3 CT3 SP3 hi3 hp3 hfu; exact absurd hfu (Nat.not_lt_zero _)
  | succ fu ih =>
    intro i3 cs3 CT3 SP3 hi3 hp3 hfu H locs ls hl hB
    have hn3 := php_le hrw.2.2.1 hrw.2.2.2.1
    have hrl := hrw.2.2.1
    refine lv_iload_n hx hb d_Ref_parts_70 rfl (lv_at hl 3 rfl) ?_
    refine lv_iload_n hx hb d_Ref_parts_71 rfl (lv_at hl 1 rfl) ?_
    refine wf_cge (tgt := 173) hx hb d_Ref_parts_72 (by decide) (nI_toInt (by omega)) (nI_toInt (by omega)) (fun c_72 => ?_) (fun c_72 => ?_)
    · exact K_173 i3 cs3 CT3 SP3 hi3 hp3 (by omega) H locs ls (lv_sub hl [0, 1, 2, 3] rfl) hB
    · have hi3 : i3 < n1 := by omega
      refine lv_iconst (v := nI 0) hx hb d_Ref_parts_75 (by decide) ?_
      refine lv_istore (lv' := [(4, .int (nI 0)), (0, .ref mo), (1, .int (nI n1)), (2, .int (nI b3)), (3, .int (nI i3))]) hx hb d_Ref_parts_76 hl (by decide) rfl (fun ls hl => ?_)
      refine c_Ref_parts_L78 (l := l) X hN hMo h_al h_aip h_arw h_aco h_act h_asp hk hz hz0 hLz hrw hC2 hi3 hp3 (fun c4 hc4 hn4 hx4 H locs ls hl hB => ?_) (cs3 - 0 + 1) 0 (by omega) (by intro c h9; omega) (by omega) H locs ls (lv_sub hl [1, 2, 3, 4, 0] rfl) hB
      have hcs3 := hp3.1
      refine lv_iload hx hb d_Ref_parts_113 (lv_at hl 4 rfl) ?_
      refine lv_bipush (v := nI 40) hx hb d_Ref_parts_115 (by decide) ?_
      refine wf_cne (tgt := 122) hx hb d_Ref_parts_117 (by decide) (nI_toInt (by omega)) (nI_toInt (by omega)) (fun c_117 => ?_) (fun c_117 => ?_)
      · refine lv_iload hx hb d_Ref_parts_122 (lv_at hl 4 rfl) ?_
        refine lv_aload_n hx hb d_Ref_parts_124 rfl (lv_at hl 0 rfl) ?_
        refine rgetL X hB hN 0 i_Ref rfl cl_Ref 30 (by decide) k_904 rfl rfl d_Ref_parts_125 ?_
        refine wf_cne (tgt := 154) hx hb d_Ref_parts_128 (by decide) (nI_toInt (by omega)) (nI_toInt (by omega)) (fun c_128 => ?_) (fun c_128 => ?_)
        · refine lv_aload_n hx hb d_Ref_parts_154 rfl (lv_at hl 0 rfl) ?_
          refine rgetL X hB hN 0 i_Ref rfl cl_Ref 28 (by decide) k_902 rfl rfl d_Ref_parts_155 ?_
          refine lv_aload_n hx hb d_Ref_parts_158 rfl (lv_at hl 0 rfl) ?_
          refine rgetL X hB hN 0 i_Ref rfl cl_Ref 26 (by decide) k_900 rfl rfl d_Ref_parts_159 ?_
          refine lv_iload_n hx hb d_Ref_parts_162 rfl (lv_at hl 3 rfl) ?_
          refine rialdL X hB hN 3 rfl (i := i3) (by omega) (by decide) d_Ref_parts_163 ?_
          refine wf_ti (y := nI (RW i3)) rfl ?_
          refine lv_iload hx hb d_Ref_parts_164 (lv_at hl 4 rfl) ?_
          refine riastA X hB hN 5 (wl' := [(mo, rfO k mn az an ae ac cz ato tz ca aps apt al aip pz wy fi se ho lx ly ts tS alo alt aic arw aco act asp cs3 anu aor ann av ald ahd lz hz1 nl nh acn ce ais aq acf acb qd aw), (al, .inl (t 0, 1200, .inl (iA L))), (aip, .inl (t 2, 300, .inl (zA Z))), (arw, .inl (t 0, 300, .inl (iA RW))), (aco, .inl (t 0, 300, .inl (iA CO2))), (act, .inl (t 0, 300, .inl (iA (nu CT3 (RW i3) c4)))), (asp, .inl (t 0, 41, .inl (iA SP3)))]) rfl (i := RW i3) (by have := hrl i3 hi3; omega) (by decide) d_Ref_parts_166 rfl (fun H locs hB => ?_)
          refine lv_iinc (v := nI (i3 + 1)) (lv' := [(3, .int (nI (i3 + 1))), (0, .ref mo), (1, .int (nI n1)), (2, .int (nI b3)), (4, .int (nI c4))]) hx hb d_Ref_parts_167 hl (k := 3) rfl (show nI i3 + nI 1 = nI (i3 + 1) from nI_add _ _) (by decide) rfl (fun ls hl => ?_)
          refine lv_goto (tgt := 70) hx hb d_Ref_parts_170 (by decide) ?_
          exact ih (i3 + 1) cs3 (nu CT3 (RW i3) c4) SP3 (by omega) (by first | (have e9 : c4 = cs3 := (by omega); subst e9; exact ptI_new hrw hK2 hi3 hp3 (by omega) hn4) | (have h9 : c4 < cs3 ∧ smL CO2 (dL L) k (RW i3) (SP3 c4) := (by rcases hx4 with q9 | q9; (exact absurd q9 (by omega)); exact q9); exact ptI_step hrw hK2 hi3 hp3 h9.1 h9.2)) (by omega) H locs ls (lv_sub hl [1, 2, 3, 0] rfl) hB
        · refine lv_aload_n hx hb d_Ref_parts_131 rfl (lv_at hl 0 rfl) ?_
          refine rgetL X hB hN 0 i_Ref rfl cl_Ref 29 (by decide) k_903 rfl rfl d_Ref_parts_132 ?_
          refine lv_iload hx hb d_Ref_parts_135 (lv_at hl 4 rfl) ?_
          refine lv_aload_n hx hb d_Ref_parts_137 rfl (lv_at hl 0 rfl) ?_
          refine rgetL X hB hN 0 i_Ref rfl cl_Ref 26 (by decide) k_900 rfl rfl d_Ref_parts_138 ?_
          refine lv_iload_n hx hb d_Ref_parts_141 rfl (lv_at hl 3 rfl) ?_
          refine rialdL X hB hN 3 rfl (i := i3) (by omega) (by decide) d_Ref_parts_142 ?_
          refine wf_ti (y := nI (RW i3)) rfl ?_
          refine riastA X hB hN 6 (wl' := [(mo, rfO k mn az an ae ac cz ato tz ca aps apt al aip pz wy fi se ho lx ly ts tS alo alt aic arw aco act asp cs3 anu aor ann av ald ahd lz hz1 nl nh acn ce ais aq acf acb qd aw), (al, .inl (t 0, 1200, .inl (iA L))), (aip, .inl (t 2, 300, .inl (zA Z))), (arw, .inl (t 0, 300, .inl (iA RW))), (aco, .inl (t 0, 300, .inl (iA CO2))), (act, .inl (t 0, 300, .inl (iA CT3))), (asp, .inl (t 0, 41, .inl (iA (nu SP3 c4 (RW i3)))))]) rfl (i := c4) (by omega) (by decide) d_Ref_parts_143 rfl (fun H locs hB => ?_)
          refine lv_aload_n hx hb d_Ref_parts_144 rfl (lv_at hl 0 rfl) ?_
          refine lv_dup hx hb d_Ref_parts_145 rfl ?_
          refine rgetL X hB hN 0 i_Ref rfl cl_Ref 30 (by decide) k_904 rfl rfl d_Ref_parts_146 ?_
          refine lv_iconst (v := nI 1) hx hb d_Ref_parts_149 (by decide) ?_
          refine wf_iadd (x := cs3) (y := 1) hx hb d_Ref_parts_150 ?_
          refine rput X hB hN 0 (wl' := [(mo, rfO k mn az an ae ac cz ato tz ca aps apt al aip pz wy fi se ho lx ly ts tS alo alt aic arw aco act asp (cs3 + 1) anu aor ann av ald ahd lz hz1 nl nh acn ce ais aq acf acb qd aw), (al, .inl (t 0, 1200, .inl (iA L))), (aip, .inl (t 2, 300, .inl (zA Z))), (arw, .inl (t 0, 300, .inl (iA RW))), (aco, .inl (t 0, 300, .inl (iA CO2))), (act, .inl (t 0, 300, .inl (iA CT3))), (asp, .inl (t 0, 41, .inl (iA (nu SP3 c4 (RW i3)))))]) i_Ref t_Ref_ok n_Ref rfl cl_Ref 30 (by decide) k_904 rfl rfl rfl rfl (Nat.le_of_ble_eq_true rfl) d_Ref_parts_151 rfl (fun H locs hB => ?_)
          refine lv_aload_n hx hb d_Ref_parts_154 rfl (lv_at hl 0 rfl) ?_
          refine rgetL X hB hN 0 i_Ref rfl cl_Ref 28 (by decide) k_902 rfl rfl d_Ref_parts_155 ?_
          refine lv_aload_n hx hb d_Ref_parts_158 rfl (lv_at hl 0 rfl) ?_
          refine rgetL X hB hN 0 i_Ref rfl cl_Ref 26 (by decide) k_900 rfl rfl d_Ref_parts_159 ?_
          refine lv_iload_n hx hb d_Ref_parts_162 rfl (lv_at hl 3 rfl) ?_
          refine rialdL X hB hN 3 rfl (i := i3) (by omega) (by decide) d_Ref_parts_163 ?_
          refine wf_ti (y := nI (RW i3)) rfl ?_
          refine lv_iload hx hb d_Ref_parts_164 (lv_at hl 4 rfl) ?_
          refine riastA X hB hN 5 (wl' := [(mo, rfO k mn az an ae ac cz ato tz ca aps apt al aip pz wy fi se ho lx ly ts tS alo alt aic arw aco act asp (cs3 + 1) anu aor ann av ald ahd lz hz1 nl nh acn ce ais aq acf acb qd aw), (al, .inl (t 0, 1200, .inl (iA L))), (aip, .inl (t 2, 300, .inl (zA Z))), (arw, .inl (t 0, 300, .inl (iA RW))), (aco, .inl (t 0, 300, .inl (iA CO2))), (act, .inl (t 0, 300, .inl (iA (nu CT3 (RW i3) c4)))), (asp, .inl (t 0, 41, .inl (iA (nu SP3 c4 (RW i3)))))]) rfl (i := RW i3) (by have := hrl i3 hi3; omega) (by decide) d_Ref_parts_166 rfl (fun H locs hB => ?_)
          refine lv_iinc (v := nI (i3 + 1)) (lv' := [(3, .int (nI (i3 + 1))), (0, .ref mo), (1, .int (nI n1)), (2, .int (nI b3)), (4, .int (nI c4))]) hx hb d_Ref_parts_167 hl (k := 3) rfl (show nI i3 + nI 1 = nI (i3 + 1) from nI_add _ _) (by decide) rfl (fun ls hl => ?_)
          refine lv_goto (tgt := 70) hx hb d_Ref_parts_170 (by decide) ?_
          exact ih (i3 + 1) (cs3 + 1) (nu CT3 (RW i3) c4) (nu SP3 c4 (RW i3)) (by omega) (by first | (have e9 : c4 = cs3 := (by omega); subst e9; exact ptI_new hrw hK2 hi3 hp3 (by omega) hn4) | (have h9 : c4 < cs3 ∧ smL CO2 (dL L) k (RW i3) (SP3 c4) := (by rcases hx4 with q9 | q9; (exact absurd q9 (by omega)); exact q9); exact ptI_step hrw hK2 hi3 hp3 h9.1 h9.2)) (by omega) H locs ls (lv_sub hl [1, 2, 3, 0] rfl) hB
      · refine lv_iconst (v := nI 0) hx hb d_Ref_parts_120 (by decide) ?_
        refine wf_ti (y := bI false) rfl ?_
        refine ret_z X hB d_Ref_parts_121 ?_
        have e9 : cs3 = 40 := (by rcases hx4 with h9 | h9 <;> omega)
        subst e9
        exact Or.inr ⟨_, _, _, _, ptI_too hrw hK2 hi3 hp3 (fun c h9 => hn4 c (by omega)), rfl, rfl⟩
set_option maxHeartbeats 4000000 in
set_option maxRecDepth 100000 in
theorem c_Ref_parts_L50 {l : Launch} {D : va_G} {t : Nat → ClassId} {w : wf_W} {mo az an ae ac ato aps apt al aip alo alt aic arw aco act asp anu aor ann ald ahd acn ais aq acf acb aw k mn cz tz ca pz wy fi se ho lx ly ts tS cs av lz hz1 nl nh ce qd : Nat} {L RW CO CT SP : Nat → Nat} {Z : Nat → Bool} {n1 : Nat}  {p : Program} {e : Env} {s : State} {m : MethodId} {below : List Frame} {meth : Method} {c : Code} (X : Cx p s m meth c R_Ref "parts" b_Ref_parts 5 (some .boolean) D t) (hN : nd [mo, al, aip, arw, aco, act, asp]) (hMo : w mo = some (rfO k mn az an ae ac cz ato tz ca aps apt al aip pz wy fi se ho lx ly ts tS alo alt aic arw aco act asp cs anu aor ann av ald ahd lz hz1 nl nh acn ce ais aq acf acb qd aw)) (h_al : w al = some (.inl (t 0, 1200, .inl (iA L)))) (h_aip : w aip = some (.inl (t 2, 300, .inl (zA Z)))) (h_arw : w arw = some (.inl (t 0, 300, .inl (iA RW)))) (h_aco : w aco = some (.inl (t 0, 300, .inl (iA CO)))) (h_act : w act = some (.inl (t 0, 300, .inl (iA CT)))) (h_asp : w asp = some (.inl (t 0, 41, .inl (iA SP)))) (hk : k ≤ 4) (hz : pz ≤ 300) (hz0 : 0 < pz) (hLz : ∀ p a, p < pz → a < k → dL L p a < pz) (hrw : rwO k pz L RW n1)
    (K_211 : ∀ (r2 : Nat) (bf : Nat) (cs2 : Nat) (CO2 : Nat → Nat) (CT2 : Nat → Nat) (SP2 : Nat → Nat), (prI k L RW Z n1 r2 cs2 bf CO2 SP2) → (cs2 = bf) → ∀ (H : Heap) (locs : List Loc) (ls : Array Slot), lv_has ls 5 [(0, .ref mo), (1, .int (nI n1)), (2, .int (nI bf))] → wf_B D wcl (wf_A w s.heap.size) s.heap (wf_l w [(mo, rfO k mn az an ae ac cz ato tz ca aps apt al aip pz wy fi se ho lx ly ts tS alo alt aic arw aco act asp cs2 anu aor ann av ald ahd lz hz1 nl nh acn ce ais aq acf acb qd aw), (al, .inl (t 0, 1200, .inl (iA L))), (aip, .inl (t 2, 300, .inl (zA Z))), (arw, .inl (t 0, 300, .inl (iA RW))), (aco, .inl (t 0, 300, .inl (iA CO2))), (act, .inl (t 0, 300, .inl (iA CT2))), (asp, .inl (t 0, 41, .inl (iA SP2)))]) H locs → W p l e (rmk 1 24 0 0) s m [.ref mo, .int (nI n1)].toArray below meth c H locs 0 0 (MQ below (wf_Qi D wcl w (fun r w' => (∃ cs0 : Nat, ∃ CO0 : Nat → Nat, ∃ CT0 : Nat → Nat, ∃ SP0 : Nat → Nat, (ptO k L RW Z n1 cs0 CO0 SP0) ∧ r = (bI true) ∧ w' = wf_l w [(mo, rfO k mn az an ae ac cz ato tz ca aps apt al aip pz wy fi se ho lx ly ts tS alo alt aic arw aco act asp cs0 anu aor ann av ald ahd lz hz1 nl nh acn ce ais aq acf acb qd aw), (al, .inl (t 0, 1200, .inl (iA L))), (aip, .inl (t 2, 300, .inl (zA Z))), (arw, .inl (t 0, 300, .inl (iA RW))), (aco, .inl (t 0, 300, .inl (iA CO0))), (act, .inl (t 0, 300, .inl (iA CT0))), (asp, .inl (t 0, 41, .inl (iA SP0)))]) ∨ (∃ cs0 : Nat, ∃ CO0 : Nat → Nat, ∃ CT0 : Nat → Nat, ∃ SP0 : Nat → Nat, (tooL k (lng L Z)) ∧ r = (bI false) ∧ w' = wf_l w [(mo, rfO k mn az an ae ac cz ato tz ca aps apt al aip pz wy fi se ho lx ly ts tS alo alt aic arw aco act asp cs0 anu aor ann av ald ahd lz hz1 nl nh acn ce ais aq acf acb qd aw), (al, .inl (t 0, 1200, .inl (iA L))), (aip, .inl (t 2, 300, .inl (zA Z))), (arw, .inl (t 0, 300, .inl (iA RW))), (aco, .inl (t 0, 300, .inl (iA CO0))), (act, .inl (t 0, 300, .inl (iA CT0))), (asp, .inl (t 0, 41, .inl (iA SP0)))])) s.heap.size) [.ref mo, .int (nI n1)].toArray s 0 0 (wf_A w s.heap.size)) (F0 m 211 ls [])) :
    ∀ (fu : Nat) (r2 : Nat) (bf : Nat) (cs2 : Nat) (CO2 : Nat → Nat) (CT2 : Nat → Nat) (SP2 : Nat → Nat), (prI k L RW Z n1 r2 cs2 bf CO2 SP2) → 100 - bf < fu → ∀ (H : Heap) (locs : List Loc) (ls : Array Slot), lv_has ls 5 [(0, .ref mo), (1, .int (nI n1)), (2, .int (nI bf))] → wf_B D wcl (wf_A w s.heap.size) s.heap (wf_l w [(mo, rfO k mn az an ae ac cz ato tz ca aps apt al aip pz wy fi se ho lx ly ts tS alo alt aic arw aco act asp cs2 anu aor ann av ald ahd lz hz1 nl nh acn ce ais aq acf acb qd aw), (al, .inl (t 0, 1200, .inl (iA L))), (aip, .inl (t 2, 300, .inl (zA Z))), (arw, .inl (t 0, 300, .inl (iA RW))), (aco, .inl (t 0, 300, .inl (iA CO2))), (act, .inl (t 0, 300, .inl (iA CT2))), (asp, .inl (t 0, 41, .inl (iA SP2)))]) H locs → W p l e (rmk 1 24 0 0) s m [.ref mo, .int (nI n1)].toArray below meth c H locs 0 0 (MQ below (wf_Qi D wcl w (fun r w' => (∃ cs0 : Nat, ∃ CO0 : Nat → Nat, ∃ CT0 : Nat → Nat, ∃ SP0 : Nat → Nat, (ptO k L RW Z n1 cs0 CO0 SP0) ∧ r = (bI true) ∧ w' = wf_l w [(mo, rfO k mn az an ae ac cz ato tz ca aps apt al aip pz wy fi se ho lx ly ts tS alo alt aic arw aco act asp cs0 anu aor ann av ald ahd lz hz1 nl nh acn ce ais aq acf acb qd aw), (al, .inl (t 0, 1200, .inl (iA L))), (aip, .inl (t 2, 300, .inl (zA Z))), (arw, .inl (t 0, 300, .inl (iA RW))), (aco, .inl (t 0, 300, .inl (iA CO0))), (act, .inl (t 0, 300, .inl (iA CT0))), (asp, .inl (t 0, 41, .inl (iA SP0)))]) ∨ (∃ cs0 : Nat, ∃ CO0 : Nat → Nat, ∃ CT0 : Nat → Nat, ∃ SP0 : Nat → Nat, (tooL k (lng L Z)) ∧ r = (bI false) ∧ w' = wf_l w [(mo, rfO k mn az an ae ac cz ato tz ca aps apt al aip pz wy fi se ho lx ly ts tS alo alt aic arw aco act asp cs0 anu aor ann av ald ahd lz hz1 nl nh acn ce ais aq acf acb qd aw), (al, .inl (t 0, 1200, .inl (iA L))), (aip, .inl (t 2, 300, .inl (zA Z))), (arw, .inl (t 0, 300, .inl (iA RW))), (aco, .inl (t 0, 300, .inl (iA CO0))), (act, .inl (t 0, 300, .inl (iA CT0))), (asp, .inl (t 0, 41, .inl (iA SP0)))])) s.heap.size) [.ref mo, .int (nI n1)].toArray s 0 0 (wf_A w s.heap.size)) (F0 m 50 ls []) := by
  have hx := X.1
  have hb := X.2.1
  intro fu
  induction fu with
  | zero => intro r2 bf cs2 CO2 CT2 SP2 hp2 hfu; exact absurd hfu (Nat.not_lt_zero _)
  | succ fu ih =>
    intro r2 bf cs2 CO2 CT2 SP2 hp2 hfu H locs ls hl hB
    have hn3 := php_le hrw.2.2.1 hrw.2.2.2.1
    have hrl := hrw.2.2.1
    refine lv_aload_n hx hb d_Ref_parts_50 rfl (lv_at hl 0 rfl) ?_
    refine rgetL X hB hN 0 i_Ref rfl cl_Ref 30 (by decide) k_904 rfl rfl d_Ref_parts_51 ?_
    refine lv_iload_n hx hb d_Ref_parts_54 rfl (lv_at hl 2 rfl) ?_
    refine wf_ceq (tgt := 211) hx hb d_Ref_parts_55 (by decide) (nI_toInt (by have := prI_le hp2; omega)) (nI_toInt (by have := prI_le hp2; omega)) (fun c_55 => ?_) (fun c_55 => ?_)
    · exact K_211 r2 bf cs2 CO2 CT2 SP2 hp2 (by omega) H locs ls (lv_sub hl [0, 1, 2] rfl) hB
    · refine lv_aload_n hx hb d_Ref_parts_58 rfl (lv_at hl 0 rfl) ?_
      refine rgetL X hB hN 0 i_Ref rfl cl_Ref 30 (by decide) k_904 rfl rfl d_Ref_parts_59 ?_
      refine lv_istore_n (lv' := [(2, .int (nI cs2)), (0, .ref mo), (1, .int (nI n1))]) hx hb d_Ref_parts_62 rfl hl (by decide) rfl (fun ls hl => ?_)
      refine lv_aload_n hx hb d_Ref_parts_63 rfl (lv_at hl 1 rfl) ?_
      refine lv_iconst (v := nI 0) hx hb d_Ref_parts_64 (by decide) ?_
      refine rput X hB hN 0 (wl' := [(mo, rfO k mn az an ae ac cz ato tz ca aps apt al aip pz wy fi se ho lx ly ts tS alo alt aic arw aco act asp 0 anu aor ann av ald ahd lz hz1 nl nh acn ce ais aq acf acb qd aw), (al, .inl (t 0, 1200, .inl (iA L))), (aip, .inl (t 2, 300, .inl (zA Z))), (arw, .inl (t 0, 300, .inl (iA RW))), (aco, .inl (t 0, 300, .inl (iA CO2))), (act, .inl (t 0, 300, .inl (iA CT2))), (asp, .inl (t 0, 41, .inl (iA SP2)))]) i_Ref t_Ref_ok n_Ref rfl cl_Ref 30 (by decide) k_904 rfl rfl rfl rfl (Nat.le_of_ble_eq_true rfl) d_Ref_parts_65 rfl (fun H locs hB => ?_)
      have hK2 := hp2.1
      have hC2 := hp2.2.1
      refine lv_iconst (v := nI 0) hx hb d_Ref_parts_68 (by decide) ?_
      refine lv_istore_n (lv' := [(3, .int (nI 0)), (2, .int (nI cs2)), (0, .ref mo), (1, .int (nI n1))]) hx hb d_Ref_parts_69 rfl hl (by decide) rfl (fun ls hl => ?_)
      refine c_Ref_parts_L70 (l := l) X hN hMo h_al h_aip h_arw h_aco h_act h_asp hk hz hz0 hLz hrw hK2 hC2 (fun i3 cs3 CT3 SP3 hi3 hp3 he3 H locs ls hl hB => ?_) (n1 - 0 + 1) 0 0 CT2 SP2 (by omega) (by exact ⟨by omega, fun i h9 => by omega, fun c h9 => by omega, fun i j h9 => by omega⟩) (by omega) H locs ls (lv_sub hl [2, 3, 1, 0] rfl) hB
      refine lv_iconst (v := nI 0) hx hb d_Ref_parts_173 (by decide) ?_
      refine lv_istore_n (lv' := [(3, .int (nI 0)), (0, .ref mo), (1, .int (nI n1)), (2, .int (nI cs2))]) hx hb d_Ref_parts_174 rfl hl (by decide) rfl (fun ls hl => ?_)
      refine c_Ref_parts_L175 (l := l) X hN hMo h_al h_aip h_arw h_aco h_act h_asp hk hz hz0 hLz hrw (fun i5 CO5 hi5 hg5 he5 H locs ls hl hB => ?_) (n1 - 0 + 1) 0 CO2 (by omega) (by intro x h9; omega) (by omega) H locs ls (lv_sub hl [1, 2, 3, 0] rfl) hB
      refine lv_goto (tgt := 50) hx hb d_Ref_parts_208 (by decide) ?_
      exact ih (r2 + 1) cs2 cs3 CO5 CT3 SP3 (by exact prI_next hrw hp2 (he3 ▸ hp3) (fun i h9 => hg5 i (by omega))) (by have := prI_le hp2; omega) H locs ls (lv_sub hl [0, 1, 2] rfl) hB
set_option maxHeartbeats 4000000 in
set_option maxRecDepth 100000 in
theorem c_Ref_parts_L2 {l : Launch} {D : va_G} {t : Nat → ClassId} {w : wf_W} {mo az an ae ac ato aps apt al aip alo alt aic arw aco act asp anu aor ann ald ahd acn ais aq acf acb aw k mn cz tz ca pz wy fi se ho lx ly ts tS cs av lz hz1 nl nh ce qd : Nat} {L RW CO CT SP : Nat → Nat} {Z : Nat → Bool} {n1 : Nat}  {p : Program} {e : Env} {s : State} {m : MethodId} {below : List Frame} {meth : Method} {c : Code} {Q : State → Prop} (X : Cx p s m meth c R_Ref "parts" b_Ref_parts 5 (some .boolean) D t) (hN : nd [mo, al, aip, arw, aco, act, asp]) (hMo : w mo = some (rfO k mn az an ae ac cz ato tz ca aps apt al aip pz wy fi se ho lx ly ts tS alo alt aic arw aco act asp cs anu aor ann av ald ahd lz hz1 nl nh acn ce ais aq acf acb qd aw)) (h_al : w al = some (.inl (t 0, 1200, .inl (iA L)))) (h_aip : w aip = some (.inl (t 2, 300, .inl (zA Z)))) (h_arw : w arw = some (.inl (t 0, 300, .inl (iA RW)))) (h_aco : w aco = some (.inl (t 0, 300, .inl (iA CO)))) (h_act : w act = some (.inl (t 0, 300, .inl (iA CT)))) (h_asp : w asp = some (.inl (t 0, 41, .inl (iA SP)))) (hk : k ≤ 4) (hz : pz ≤ 300) (hz0 : 0 < pz) (hLz : ∀ p a, p < pz → a < k → dL L p a < pz) (hrw : rwO k pz L RW n1)
    (K_43 : ∀ (i1 : Nat) (CO1 : Nat → Nat), (i1 ≤ n1) → (∀ x, x < i1 → CO1 (RW x) = if Z (RW x) = true then 1 else 0) → (i1 = n1) → ∀ (H : Heap) (locs : List Loc) (ls : Array Slot), lv_has ls 5 [(0, .ref mo), (1, .int (nI n1)), (2, .int (nI i1))] → wf_B D wcl (wf_A w s.heap.size) s.heap (wf_l w [(mo, rfO k mn az an ae ac cz ato tz ca aps apt al aip pz wy fi se ho lx ly ts tS alo alt aic arw aco act asp cs anu aor ann av ald ahd lz hz1 nl nh acn ce ais aq acf acb qd aw), (al, .inl (t 0, 1200, .inl (iA L))), (aip, .inl (t 2, 300, .inl (zA Z))), (arw, .inl (t 0, 300, .inl (iA RW))), (aco, .inl (t 0, 300, .inl (iA CO1))), (act, .inl (t 0, 300, .inl (iA CT))), (asp, .inl (t 0, 41, .inl (iA SP)))]) H locs → W p l e (rmk 1 24 0 0) s m [.ref mo, .int (nI n1)].toArray below meth c H locs 0 0 Q (F0 m 43 ls [])) :
    ∀ (fu : Nat) (i1 : Nat) (CO1 : Nat → Nat), (i1 ≤ n1) → (∀ x, x < i1 → CO1 (RW x) = if Z (RW x) = true then 1 else 0) → n1 - i1 < fu → ∀ (H : Heap) (locs : List Loc) (ls : Array Slot), lv_has ls 5 [(0, .ref mo), (1, .int (nI n1)), (2, .int (nI i1))] → wf_B D wcl (wf_A w s.heap.size) s.heap (wf_l w [(mo, rfO k mn az an ae ac cz ato tz ca aps apt al aip pz wy fi se ho lx ly ts tS alo alt aic arw aco act asp cs anu aor ann av ald ahd lz hz1 nl nh acn ce ais aq acf acb qd aw), (al, .inl (t 0, 1200, .inl (iA L))), (aip, .inl (t 2, 300, .inl (zA Z))), (arw, .inl (t 0, 300, .inl (iA RW))), (aco, .inl (t 0, 300, .inl (iA CO1))), (act, .inl (t 0, 300, .inl (iA CT))), (asp, .inl (t 0, 41, .inl (iA SP)))]) H locs → W p l e (rmk 1 24 0 0) s m [.ref mo, .int (nI n1)].toArray below meth c H locs 0 0 Q (F0 m 2 ls []) := by
  have hx := X.1
  have hb := X.2.1
  intro fu
  induction fu with
  | zero => intro i1 CO1 hi1 hg1 hfu; exact absurd hfu (Nat.not_lt_zero _)
  | succ fu ih =>
    intro i1 CO1 hi1 hg1 hfu H locs ls hl hB
    have hn3 := php_le hrw.2.2.1 hrw.2.2.2.1
    have hrl := hrw.2.2.1
    refine lv_iload_n hx hb d_Ref_parts_2 rfl (lv_at hl 2 rfl) ?_
    refine lv_iload_n hx hb d_Ref_parts_3 rfl (lv_at hl 1 rfl) ?_
    refine wf_cge (tgt := 43) hx hb d_Ref_parts_4 (by decide) (nI_toInt (by omega)) (nI_toInt (by omega)) (fun c_4 => ?_) (fun c_4 => ?_)
    · exact K_43 i1 CO1 hi1 hg1 (by omega) H locs ls (lv_sub hl [0, 1, 2] rfl) hB
    · refine lv_aload_n hx hb d_Ref_parts_7 rfl (lv_at hl 0 rfl) ?_
      refine rgetL X hB hN 0 i_Ref rfl cl_Ref 27 (by decide) k_901 rfl rfl d_Ref_parts_8 ?_
      refine lv_aload_n hx hb d_Ref_parts_11 rfl (lv_at hl 0 rfl) ?_
      refine rgetL X hB hN 0 i_Ref rfl cl_Ref 26 (by decide) k_900 rfl rfl d_Ref_parts_12 ?_
      refine lv_iload_n hx hb d_Ref_parts_15 rfl (lv_at hl 2 rfl) ?_
      refine rialdL X hB hN 3 rfl (i := i1) (by omega) (by decide) d_Ref_parts_16 ?_
      refine wf_ti (y := nI (RW i1)) rfl ?_
      refine lv_aload_n hx hb d_Ref_parts_17 rfl (lv_at hl 0 rfl) ?_
      refine rgetL X hB hN 0 i_Ref rfl cl_Ref 13 (by decide) k_887 rfl rfl d_Ref_parts_18 ?_
      refine lv_aload_n hx hb d_Ref_parts_21 rfl (lv_at hl 0 rfl) ?_
      refine rgetL X hB hN 0 i_Ref rfl cl_Ref 26 (by decide) k_900 rfl rfl d_Ref_parts_22 ?_
      refine lv_iload_n hx hb d_Ref_parts_25 rfl (lv_at hl 2 rfl) ?_
      refine rialdL X hB hN 3 rfl (i := i1) (by omega) (by decide) d_Ref_parts_26 ?_
      refine wf_ti (y := nI (RW i1)) rfl ?_
      refine rzaldL X hB hN 2 rfl (i := RW i1) (by have := hrl i1 (by omega); omega) (by decide) d_Ref_parts_27 ?_
      refine wf_ti (y := bI (Z (RW i1))) rfl ?_
      refine wf_beq (tgt := 35) hx hb d_Ref_parts_28 (by decide) (fun c_28 => ?_) (fun c_28 => ?_)
      · refine lv_iconst (v := nI 0) hx hb d_Ref_parts_35 (by decide) ?_
        refine riastA X hB hN 4 (wl' := [(mo, rfO k mn az an ae ac cz ato tz ca aps apt al aip pz wy fi se ho lx ly ts tS alo alt aic arw aco act asp cs anu aor ann av ald ahd lz hz1 nl nh acn ce ais aq acf acb qd aw), (al, .inl (t 0, 1200, .inl (iA L))), (aip, .inl (t 2, 300, .inl (zA Z))), (arw, .inl (t 0, 300, .inl (iA RW))), (aco, .inl (t 0, 300, .inl (iA (nu CO1 (RW i1) 0)))), (act, .inl (t 0, 300, .inl (iA CT))), (asp, .inl (t 0, 41, .inl (iA SP)))]) rfl (i := RW i1) (by have := hrl i1 (by omega); omega) (by decide) d_Ref_parts_36 rfl (fun H locs hB => ?_)
        refine lv_iinc (v := nI (i1 + 1)) (lv' := [(2, .int (nI (i1 + 1))), (0, .ref mo), (1, .int (nI n1))]) hx hb d_Ref_parts_37 hl (k := 2) rfl (show nI i1 + nI 1 = nI (i1 + 1) from nI_add _ _) (by decide) rfl (fun ls hl => ?_)
        refine lv_goto (tgt := 2) hx hb d_Ref_parts_40 (by decide) ?_
        exact ih (i1 + 1) (nu CO1 (RW i1) 0) (by omega) (by intro x h9; by_cases e9 : x = i1; (rw [e9, nu_s, c_28]; rfl); rw [nu_n (fun q9 => e9 (hrw.2.2.2.1 x i1 (by omega) (by omega) q9))]; exact hg1 x (by omega)) (by omega) H locs ls (lv_sub hl [1, 2, 0] rfl) hB
      · refine lv_iconst (v := nI 1) hx hb d_Ref_parts_31 (by decide) ?_
        refine lv_goto (tgt := 36) hx hb d_Ref_parts_32 (by decide) ?_
        refine riastA X hB hN 4 (wl' := [(mo, rfO k mn az an ae ac cz ato tz ca aps apt al aip pz wy fi se ho lx ly ts tS alo alt aic arw aco act asp cs anu aor ann av ald ahd lz hz1 nl nh acn ce ais aq acf acb qd aw), (al, .inl (t 0, 1200, .inl (iA L))), (aip, .inl (t 2, 300, .inl (zA Z))), (arw, .inl (t 0, 300, .inl (iA RW))), (aco, .inl (t 0, 300, .inl (iA (nu CO1 (RW i1) 1)))), (act, .inl (t 0, 300, .inl (iA CT))), (asp, .inl (t 0, 41, .inl (iA SP)))]) rfl (i := RW i1) (by have := hrl i1 (by omega); omega) (by decide) d_Ref_parts_36 rfl (fun H locs hB => ?_)
        refine lv_iinc (v := nI (i1 + 1)) (lv' := [(2, .int (nI (i1 + 1))), (0, .ref mo), (1, .int (nI n1))]) hx hb d_Ref_parts_37 hl (k := 2) rfl (show nI i1 + nI 1 = nI (i1 + 1) from nI_add _ _) (by decide) rfl (fun ls hl => ?_)
        refine lv_goto (tgt := 2) hx hb d_Ref_parts_40 (by decide) ?_
        exact ih (i1 + 1) (nu CO1 (RW i1) 1) (by omega) (by intro x h9; by_cases e9 : x = i1; (rw [e9, nu_s, c_28]; rfl); rw [nu_n (fun q9 => e9 (hrw.2.2.2.1 x i1 (by omega) (by omega) q9))]; exact hg1 x (by omega)) (by omega) H locs ls (lv_sub hl [1, 2, 0] rfl) hB
set_option maxHeartbeats 4000000 in
set_option maxRecDepth 100000 in
theorem c_Ref_parts {l : Launch} {D : va_G} {t : Nat → ClassId} {w : wf_W} {sz : Nat} {mo az an ae ac ato aps apt al aip alo alt aic arw aco act asp anu aor ann ald ahd acn ais aq acf acb aw k mn cz tz ca pz wy fi se ho lx ly ts tS cs av lz hz1 nl nh ce qd : Nat} {L RW CO CT SP : Nat → Nat} {Z : Nat → Bool} {n1 : Nat} (hN : nd [mo, al, aip, arw, aco, act, asp]) (hMo : w mo = some (rfO k mn az an ae ac cz ato tz ca aps apt al aip pz wy fi se ho lx ly ts tS alo alt aic arw aco act asp cs anu aor ann av ald ahd lz hz1 nl nh acn ce ais aq acf acb qd aw)) (h_al : w al = some (.inl (t 0, 1200, .inl (iA L)))) (h_aip : w aip = some (.inl (t 2, 300, .inl (zA Z)))) (h_arw : w arw = some (.inl (t 0, 300, .inl (iA RW)))) (h_aco : w aco = some (.inl (t 0, 300, .inl (iA CO)))) (h_act : w act = some (.inl (t 0, 300, .inl (iA CT)))) (h_asp : w asp = some (.inl (t 0, 41, .inl (iA SP)))) (hk : k ≤ 4) (hz : pz ≤ 300) (hz0 : 0 < pz) (hLz : ∀ p a, p < pz → a < k → dL L p a < pz) (hrw : rwO k pz L RW n1) : Mi l y_Ref_parts b_Ref_parts 5 (some .boolean) 1 24 0 0 D t w sz [.ref mo, .int (nI n1)] (fun r w' => (∃ cs0 : Nat, ∃ CO0 : Nat → Nat, ∃ CT0 : Nat → Nat, ∃ SP0 : Nat → Nat, (ptO k L RW Z n1 cs0 CO0 SP0) ∧ r = (bI true) ∧ w' = wf_l w [(mo, rfO k mn az an ae ac cz ato tz ca aps apt al aip pz wy fi se ho lx ly ts tS alo alt aic arw aco act asp cs0 anu aor ann av ald ahd lz hz1 nl nh acn ce ais aq acf acb qd aw), (al, .inl (t 0, 1200, .inl (iA L))), (aip, .inl (t 2, 300, .inl (zA Z))), (arw, .inl (t 0, 300, .inl (iA RW))), (aco, .inl (t 0, 300, .inl (iA CO0))), (act, .inl (t 0, 300, .inl (iA CT0))), (asp, .inl (t 0, 41, .inl (iA SP0)))]) ∨ (∃ cs0 : Nat, ∃ CO0 : Nat → Nat, ∃ CT0 : Nat → Nat, ∃ SP0 : Nat → Nat, (tooL k (lng L Z)) ∧ r = (bI false) ∧ w' = wf_l w [(mo, rfO k mn az an ae ac cz ato tz ca aps apt al aip pz wy fi se ho lx ly ts tS alo alt aic arw aco act asp cs0 anu aor ann av ald ahd lz hz1 nl nh acn ce ais aq acf acb qd aw), (al, .inl (t 0, 1200, .inl (iA L))), (aip, .inl (t 2, 300, .inl (zA Z))), (arw, .inl (t 0, 300, .inl (iA RW))), (aco, .inl (t 0, 300, .inl (iA CO0))), (act, .inl (t 0, 300, .inl (iA CT0))), (asp, .inl (t 0, 41, .inl (iA SP0)))])) := by
  refine start_i (by decide) (Nat.le_of_ble_eq_true rfl) ?_
  intro p e s m below meth c ls H locs X hB hl
  have hx := X.1
  have hb := X.2.1
  have hl : lv_has ls 5 [(0, .ref mo), (1, .int (nI n1))] := hl
  have hB : wf_B D wcl (wf_A w s.heap.size) s.heap (wf_l w [(mo, rfO k mn az an ae ac cz ato tz ca aps apt al aip pz wy fi se ho lx ly ts tS alo alt aic arw aco act asp cs anu aor ann av ald ahd lz hz1 nl nh acn ce ais aq acf acb qd aw), (al, .inl (t 0, 1200, .inl (iA L))), (aip, .inl (t 2, 300, .inl (zA Z))), (arw, .inl (t 0, 300, .inl (iA RW))), (aco, .inl (t 0, 300, .inl (iA CO))), (act, .inl (t 0, 300, .inl (iA CT))), (asp, .inl (t 0, 41, .inl (iA SP)))]) H locs := wf_Bto (wf_l7 hMo h_al h_aip h_arw h_aco h_act h_asp).symm hB
  have hn3 := php_le hrw.2.2.1 hrw.2.2.2.1
  have hrl := hrw.2.2.1
  refine lv_iconst (v := nI 0) hx hb d_Ref_parts_0 (by decide) ?_
  refine lv_istore_n (lv' := [(2, .int (nI 0)), (0, .ref mo), (1, .int (nI n1))]) hx hb d_Ref_parts_1 rfl hl (by decide) rfl (fun ls hl => ?_)
  refine c_Ref_parts_L2 (l := l) X hN hMo h_al h_aip h_arw h_aco h_act h_asp hk hz hz0 hLz hrw (fun i1 CO1 hi1 hg1 he H locs ls hl hB => ?_) (n1 - 0 + 1) 0 CO (by omega) (by intro x h9; omega) (by omega) H locs ls (lv_sub hl [1, 2, 0] rfl) hB
  refine lv_iconst (v := nI 0) hx hb d_Ref_parts_43 (by decide) ?_
  refine lv_istore_n (lv' := [(2, .int (nI 0)), (0, .ref mo), (1, .int (nI n1))]) hx hb d_Ref_parts_44 rfl hl (by decide) rfl (fun ls hl => ?_)
  refine lv_aload_n hx hb d_Ref_parts_45 rfl (lv_at hl 1 rfl) ?_
  refine lv_iconst (v := nI 1) hx hb d_Ref_parts_46 (by decide) ?_
  refine rput X hB hN 0 (wl' := [(mo, rfO k mn az an ae ac cz ato tz ca aps apt al aip pz wy fi se ho lx ly ts tS alo alt aic arw aco act asp 1 anu aor ann av ald ahd lz hz1 nl nh acn ce ais aq acf acb qd aw), (al, .inl (t 0, 1200, .inl (iA L))), (aip, .inl (t 2, 300, .inl (zA Z))), (arw, .inl (t 0, 300, .inl (iA RW))), (aco, .inl (t 0, 300, .inl (iA CO1))), (act, .inl (t 0, 300, .inl (iA CT))), (asp, .inl (t 0, 41, .inl (iA SP)))]) i_Ref t_Ref_ok n_Ref rfl cl_Ref 30 (by decide) k_904 rfl rfl rfl rfl (Nat.le_of_ble_eq_true rfl) d_Ref_parts_47 rfl (fun H locs hB => ?_)
  refine c_Ref_parts_L50 (l := l) X hN hMo h_al h_aip h_arw h_aco h_act h_asp hk hz hz0 hLz hrw (fun r2 bf cs2 CO2 CT2 SP2 hp2 he H locs ls hl hB => ?_) (100 - 0 + 1) 0 0 1 CO1 CT SP (by refine ⟨fun x y h9 h8 => ?_, fun i h9 => ?_, Or.inl ⟨rfl, rfl, rfl⟩⟩; (rw [eqv_0, hg1 x (by omega), hg1 y (by omega)]; cases Z (RW x) <;> cases Z (RW y) <;> simp); (rw [hg1 i (by omega)]; split <;> omega)) (by omega) H locs ls (lv_sub hl [1, 2, 0] rfl) hB
  refine lv_iconst (v := nI 1) hx hb d_Ref_parts_211 (by decide) ?_
  refine wf_ti (y := bI true) rfl ?_
  refine ret_z X hB d_Ref_parts_212 ?_
  subst he; exact Or.inl ⟨cs2, CO2, CT2, SP2, prI_end hrw hp2, rfl, rfl⟩
