/-! The law: parse. -/
def erX (x : LXX) (w : Int32) : LXX := (0, lqT x, w, lqP x, lqN x, lqS x, lqA x, lqB x, lqD x)
def okX (x : LXX) (i b : Nat) (q : PS) : LXX := (0, lqT x, nI 0, fun j => if j = i then some (b, q, []) else lqP x j, lqN x, lqS x, lqA x, lqB x, lqD x)
theorem okX_i {x : LXX} {i b : Nat} {q : PS} : lqP (okX x i b q) i = some (b, q, []) := if_pos rfl
theorem okX_j {x : LXX} {i j b : Nat} {q : PS} (h : j ≠ i) : lqP (okX x i b q) j = lqP x j := if_neg h
theorem LMM.bp {σ τ : HS} {x : LXX} {b : Nat} (hb14 : b = 14 ∨ 99 ≤ b) (f : BFp b σ τ) (k : LMM σ x) : LMM τ x := k.cf fun a j h1 h2 => f.2.2.2.2 a j (by omega) (by omega) (by omega) (by omega)
theorem bas_ne {b b' : Nat} (hb : b = 14 ∨ ∃ j, b = 99 + 32 * j) (hb' : b' = 14 ∨ ∃ j, b' = 99 + 32 * j) (h : b' ≠ b) {a : Nat} (h1 : b' ≤ a) (h2 : a < b' + 32) : ¬ (b ≤ a ∧ a < b + 32) := by
  rcases hb with hb | ⟨m, hb⟩ <;> rcases hb' with hb' | ⟨m', hb'⟩ <;> omega
theorem LCC.er {σ τ : HS} {x : LXX} {b : Nat} {w : Int32} (k : LCC σ x) (hs : sR σ 5 5 = b) (f : BFp b σ τ) (h5 : sI τ 1 5 = w) : LCC τ (erX x w) := by
  obtain ⟨k1, k2, k3, k4, ⟨c, c1, c2, c3⟩, k6, k7, k8, ⟨x1, x2, x3, x4, x5, x6, x7, x8⟩, k10, k11, k12⟩ := k
  have ec : c = b := c1.symm.trans hs
  subst ec
  obtain ⟨f1, f2, f3, f4, f5⟩ := f
  have hb := c2.1
  have hb14 : c = 14 ∨ 99 ≤ c := by rcases hb with h | ⟨j, h⟩ <;> omega
  have hl : ∀ a j, 46 ≤ a → a ≤ 98 → sI τ a j = sI σ a j := fun a j z1 z2 => f5 a j (by omega) (by omega) (by omega) (by omega)
  refine ⟨⟨by rw [f3]; exact k1.1, fun a b r z => by rw [f2]; exact k1.2 a b r z⟩, by rw [f3]; exact k2, ⟨f4, by show 0 ≤ 3000; omega, fun j hj => absurd hj (Nat.not_lt_zero j)⟩, h5, ⟨c, by rw [f2]; exact c1, c2.mf f2 f3, c3⟩, fun j hj => ⟨fun z => by rw [f2]; exact (k6 j hj).1 z, fun b q ws z => ?_⟩, k7, fun j hj => (hl _ _ (by omega) (by omega)).trans (k8 j hj), ⟨fun i hi => (hl _ _ (by omega) (by omega)).trans (x1 i hi), fun i hi => (hl _ _ (by omega) (by omega)).trans (x2 i hi), fun i hi => (hl _ _ (by omega) (by omega)).trans (x3 i hi), fun i hi => (hl _ _ (by omega) (by omega)).trans (x4 i hi), fun i hi => (hl _ _ (by omega) (by omega)).trans (x5 i hi), fun i hi => (hl _ _ (by omega) (by omega)).trans (x6 i hi), (hl _ _ (by omega) (by omega)).trans x7, (hl _ _ (by omega) (by omega)).trans x8⟩, (hl _ _ (by omega) (by omega)).trans k10, (hl _ _ (by omega) (by omega)).trans k11, (hl _ _ (by omega) (by omega)).trans k12⟩
  obtain ⟨a1, a2, ⟨w1, w2, w3⟩⟩ := (k6 j hj).2 b q ws z
  have hb' := a2.1.1
  have hne : b ≠ c := c3 j hj _ z
  have hh : ∀ a j, b ≤ a → a < b + 32 → sI τ a j = sI σ a j := fun a j y1 y2 => f5 a j (by rcases hb' with h | ⟨m, h⟩ <;> omega) (by rcases hb' with h | ⟨m, h⟩ <;> omega) (by rcases hb' with h | ⟨m, h⟩ <;> omega) (bas_ne hb hb' hne y1 y2)
  exact ⟨by rw [f2]; exact a1, a2.of (a2.1.mf f2 f3) fun a j y1 y2 _ _ => hh a j y1 y2, (hh _ _ (by omega) (by omega)).trans w1, w2, fun j hj => ⟨(hh _ _ (by omega) (by omega)).trans (w3 j hj).1, (w3 j hj).2⟩⟩
theorem LCC.ok {σ τ1 τ : HS} {x : LXX} {i b c : Nat} {q : PS} (hi : i < 4) (k : LCC σ x) (hs : sR σ 5 5 = b) (hc4 : sR σ 4 i = c) (f : BFp b σ τ1) (h5 : sI τ1 1 5 = nI 0) (hr : RTN τ1 b q) (hw : sI τ1 b 15 = nI 0) (p4 : PR4 τ1 τ i b (if c = 0 then sN σ + 1 else c) (if c = 0 then sN σ + 32 else sN σ)) : LCC τ (okX x i b q) := by
  have k' := k.er (w := nI 0) hs f h5
  obtain ⟨k1, ⟨m, k2⟩, k3, k4, ⟨c', c1, c2, c3⟩, k6, k7, k8, ⟨x1, x2, x3, x4, x5, x6, x7, x8⟩, k10, k11, k12⟩ := k'
  obtain ⟨f1, f2, f3, f4, f5⟩ := id f
  obtain ⟨p1, p2, p3, p5, p6, p7, p8⟩ := p4
  have ec : c' = b := c1.symm.trans (by rw [f2]; exact hs)
  subst ec
  have hN : sN τ1 ≤ sN τ := by rw [p1, f3]; split <;> omega
  have h98 := k1.1
  have hl : ∀ a j, a ≤ 98 → sI τ a j = sI τ1 a j := fun a j z => p7 a j (by omega)
  have hb := c2.1
  have hbN := c2.2.1
  have rb : ∀ b', RB τ1 b' → RB τ b' := fun b' h => ⟨h.1, Nat.le_trans h.2.1 hN, fun o y r z => by
    have h1 := h.1
    have h2 := h.2.1
    have ho : o < 32 := by
      refine Classical.byContradiction fun y2 => ?_
      have : skr o y = none := by unfold skr; split <;> first | rfl | omega
      rw [this] at z; cases z
    rw [p5 (b' + o) y (by rcases h1 with h1 | ⟨m', h1⟩ <;> omega) (by rcases h1 with h1 | ⟨m', h1⟩ <;> omega) (by omega)]
    exact h.2.2 o y r z⟩
  -- the old place
  have oc : c = 0 ∨ (∃ ws' q', lqP x i = some (c, q', ws')) := by
    cases hx : lqP x i with
    | none => exact Or.inl (hc4.symm.trans (by rw [← f2]; exact (k6 i hi).1 hx))
    | some y =>
      obtain ⟨y1, y2, y3⟩ := y
      obtain ⟨a1, -⟩ := (k6 i hi).2 y1 y2 y3 hx
      rw [f2, hc4] at a1
      subst a1
      exact Or.inr ⟨y3, y2, rfl⟩
  have pj : ∀ j y, lqP (okX x i c' q) j = some y → (j = i ∧ y = (c', q, [])) ∨ (j ≠ i ∧ lqP x j = some y) := fun j y z => by
    by_cases e : j = i
    · rw [e, okX_i] at z; exact Or.inl ⟨e, (Option.some.inj z).symm⟩
    · rw [okX_j e] at z; exact Or.inr ⟨e, z⟩
  have rt : ∀ b' q', RTN τ1 b' q' → RTN τ b' q' := fun b' q' h => h.of (rb b' h.1) fun a j y1 y2 _ _ => p7 a j (by have := h.1.2.1; omega)
  refine ⟨⟨by omega, fun a b r z => ?_⟩, ?_, ⟨(hl _ _ (by omega)).trans k3.1, by show 0 ≤ 3000; omega, fun j hj => absurd hj (Nat.not_lt_zero j)⟩, (hl _ _ (by omega)).trans k4, ⟨_, p3, p6, fun j hj y z => ?_⟩, fun j hj => ⟨fun z => ?_, fun b' q' ws1 z => ?_⟩, fun j1 j2 g1 g2 g3 y z e1 e2 => ?_, fun j hj => (hl _ _ (by omega)).trans (k8 j hj), ⟨fun i hi => (hl _ _ (by omega)).trans (x1 i hi), fun i hi => (hl _ _ (by omega)).trans (x2 i hi), fun i hi => (hl _ _ (by omega)).trans (x3 i hi), fun i hi => (hl _ _ (by omega)).trans (x4 i hi), fun i hi => (hl _ _ (by omega)).trans (x5 i hi), fun i hi => (hl _ _ (by omega)).trans (x6 i hi), (hl _ _ (by omega)).trans x7, (hl _ _ (by omega)).trans x8⟩, (hl _ _ (by omega)).trans k10, (hl _ _ (by omega)).trans k11, (hl _ _ (by omega)).trans k12⟩
  · have ha : a ≤ 58 := by
      refine Classical.byContradiction fun y => ?_
      have : skt a b = none := by unfold skt; split <;> first | rfl | omega
      rw [this] at z; cases z
    rw [p5 a b (fun y => by rw [y.1] at z; cases z) (fun y => by rw [y.1, y.2] at z; cases z) (by omega)]
    exact k1.2 a b r z
  · rw [p1, ← f3, k2]
    split
    · exact ⟨m + 1, by omega⟩
    · exact ⟨m, rfl⟩
  · rcases pj j y z with ⟨_, rfl⟩ | ⟨ej, z⟩
    · show c' ≠ _
      split
      · rw [← f3]; omega
      · rename_i hcz
        obtain ⟨w', q', h⟩ := oc.resolve_left hcz
        exact fun y => c3 i hi _ h y.symm
    · split
      · obtain ⟨y1, y2, y3⟩ := y
        have := ((k6 j hj).2 y1 y2 y3 z).2.1.1.2.1
        show y1 ≠ _
        rw [← f3]; omega
      · rename_i hcz
        obtain ⟨w', q', h⟩ := oc.resolve_left hcz
        exact k7 j i hj hi ej _ _ z h
  · by_cases e : j = i
    · rw [e, okX_i] at z; cases z
    · rw [okX_j e] at z
      rw [p5 4 j (by omega) (by omega) (by omega)]
      exact (k6 j hj).1 z
  · rcases pj j _ z with ⟨rfl, e⟩ | ⟨e, z⟩
    · cases e
      refine ⟨p2, rt _ _ hr, ?_, by simp, fun j hj => absurd hj (by simp)⟩
      rw [p7 c' 15 (by omega)]; exact hw
    · obtain ⟨a1, a2, ⟨w1, w2, w3⟩⟩ := (k6 j hj).2 b' q' ws1 z
      have hbb := a2.1.2.1
      exact ⟨by rw [p5 4 j (by omega) (by omega) (by omega)]; exact a1, rt _ _ a2, (p7 _ _ (by omega)).trans w1, w2, fun j hj => ⟨(p7 _ _ (by omega)).trans (w3 j hj).1, (w3 j hj).2⟩⟩
  · rcases pj j1 y e1 with ⟨a, rfl⟩ | ⟨a, e1⟩
    · rcases pj j2 z e2 with ⟨a2, rfl⟩ | ⟨a2, e2⟩
      · omega
      · exact fun y => c3 j2 g2 _ e2 y.symm
    · rcases pj j2 z e2 with ⟨a2, rfl⟩ | ⟨a2, e2⟩
      · exact c3 j1 g1 _ e1
      · exact k7 j1 j2 g1 g2 g3 _ _ e1 e2
theorem mpl_keep {Q : Nat → Nat → Prop} {σ υ : HS} {j : Nat} {q : PS} {ws : List Nat} (hk : MOK q) (f : FR9 Q σ υ) (hQ : ∀ a m, Q a m → ¬ cpq j a m ∧ ¬ (a = 96 ∧ 60 * j ≤ m ∧ m < 60 * j + 60)) (h : sI σ 60 j = nI 1 ∧ MR σ j q ∧ MW σ j q ws) : sI υ 60 j = nI 1 ∧ MR υ j q ∧ MW υ j q ws := by
  have e : ∀ a m, cpq j a m ∨ (a = 96 ∧ 60 * j ≤ m ∧ m < 60 * j + 60) → sI υ a m = sI σ a m := fun a m z => f.2.2.2 a m fun y => by have := hQ a m y; exact z.elim this.1 this.2
  obtain ⟨h1, h2, h3, h4, h5⟩ := h
  refine ⟨(e _ _ (Or.inl (by unfold cpq; omega))).trans h1, h2.fq hk.1 hk.2.1 f (fun a m z => Or.inl (hQ a m z).1), (e _ _ (Or.inl (by unfold cpq; omega))).trans h3, h4, fun m hm => ⟨(e _ _ (Or.inr ⟨rfl, by omega, by omega⟩)).trans (h5 m hm).1, (h5 m hm).2⟩⟩
theorem LMM.pa {Q : Nat → Nat → Prop} {σ υ : HS} {x : LXX} {w : Int32} {P' : Nat → Option PLC} (k : LMM σ x) (f : FR9 Q σ υ) (hQ : ∀ a m, Q a m → ¬ (89 ≤ a ∧ a ≤ 94) ∧ ¬ (a = 58 ∧ 51 ≤ m ∧ m ≤ 55)) (h1 : sI υ 58 1 = nI 0) (h34 : sI υ 58 34 = w) (hP : ∀ i, i < 4 → (P' i = none → sI υ 60 i = nI 0) ∧ ∀ b q ws, P' i = some (b, q, ws) → sI υ 60 i = nI 1 ∧ MR υ i q ∧ MW υ i q ws) : LMM υ (0, lqT x, w, P', lqN x, lqS x, lqA x, lqB x, lqD x) := by
  have e : ∀ a j, ((89 ≤ a ∧ a ≤ 94) ∨ (a = 58 ∧ 51 ≤ j ∧ j ≤ 55)) → sI υ a j = sI σ a j := fun a j z => f.2.2.2 a j fun y => by have := hQ a j y; omega
  obtain ⟨-, -, -, k4, ⟨x1, x2, x3, x4, x5, x6⟩, k6, k7, k8⟩ := k
  exact ⟨⟨h1, by show 0 ≤ 3000; omega, fun j hj => absurd hj (Nat.not_lt_zero j)⟩, h34, hP, fun j hj => (e _ _ (by omega)).trans (k4 j hj), ⟨fun i hi => (e _ _ (by omega)).trans (x1 i hi), fun a ha i hi => (e _ _ (by omega)).trans (x2 a ha i hi), fun i hi => (e _ _ (by omega)).trans (x3 i hi), fun i a b => (e _ _ (by omega)).trans (x4 i a b), (e _ _ (by omega)).trans x5, (e _ _ (by omega)).trans x6⟩, (e _ _ (by omega)).trans k6, (e _ _ (by omega)).trans k7, (e _ _ (by omega)).trans k8⟩
theorem LMM.pe {σ υ : HS} {x : LXX} {w : Int32} (hp : LPP x) (k : LMM σ x) (f : FR9 pwr σ υ) (h1 : sI υ 58 1 = nI 0) (h34 : sI υ 58 34 = w) : LMM υ (erX x w) := by
  refine k.pa f (fun a m z => by unfold pwr nwr at z; omega) h1 h34 fun i hi => ⟨fun z => ?_, fun b q ws z => ?_⟩
  · exact (f.2.2.2 60 i (by unfold pwr nwr; omega)).trans ((k.2.2.1 i hi).1 z)
  · exact mpl_keep (hp.2 i hi b q ws z).1 f (fun a m y => by unfold pwr nwr at y; unfold cpq; omega) ((k.2.2.1 i hi).2 b q ws z)
theorem LMM.po {σ υ : HS} {x : LXX} {i b : Nat} {q : PS} (hi : i < 4) (hp : LPP x) (k : LMM σ x) (f : FR9 (fun a m => pwr a m ∨ cpq i a m) σ υ) (h1 : sI υ 58 1 = nI 0) (h34 : sI υ 58 34 = nI 0) (hr : MR υ i q) (h60 : sI υ 60 i = nI 1) (h95 : sI υ 95 i = nI 0) : LMM υ (okX x i b q) := by
  refine k.pa f (fun a m z => by unfold pwr nwr cpq at z; omega) h1 h34 fun j hj => ?_
  by_cases e : j = i
  · subst e
    refine ⟨fun z => (by rw [if_pos rfl] at z; cases z), fun b' q' ws z => ?_⟩
    rw [if_pos rfl] at z
    cases z
    exact ⟨h60, hr, h95, by simp, fun m hm => absurd hm (by simp)⟩
  · simp only [if_neg e]
    refine ⟨fun z => ?_, fun b' q' ws z => ?_⟩
    · exact (f.2.2.2 60 j (by unfold pwr nwr cpq; omega)).trans ((k.2.2.1 j hj).1 z)
    · exact mpl_keep (hp.2 j hj b' q' ws z).1 f (fun a m y => by unfold pwr nwr cpq at y; unfold cpq; omega) ((k.2.2.1 j hj).2 b' q' ws z)
