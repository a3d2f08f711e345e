/-! The law: methods that write. -/
theorem LCC.upd {S : List Nat} {σ σ' : HS} {x x' : LXX} (f : Fr S σ σ') (hS : ∀ a, a ∈ S → a = 2 ∨ a = 3 ∨ (46 ≤ a ∧ a ≤ 57)) (k : LCC σ x) (hP : lqP x' = lqP x) (ht : CTX σ' (lqL x') (lqT x')) (hw : lqW x' = lqW x) (hn : ∀ k, k < 48 → sI σ' 47 k = lqN x' k) (hx : XR σ' (lqS x')) (h7 : sI σ' 46 7 = nI (lqA x')) (h8 : sI σ' 46 8 = nI (lqB x')) (h10 : sI σ' 46 10 = lqD x') : LCC σ' x' := by
  obtain ⟨k1, k2, k3, k4, ⟨c, c1, c2, c3⟩, k6, k7, -⟩ := k
  obtain ⟨f1, f2, f3, f4⟩ := id f
  have e : ∀ a, ¬ (a = 2 ∨ a = 3 ∨ (46 ≤ a ∧ a ≤ 57)) → sI σ' a = sI σ a := fun a z => f4 a fun y => z (hS a y)
  refine ⟨SK.fr f k1, by rw [f3]; exact k2, ht, by rw [e 1 (by omega), hw]; exact k4, ⟨c, by rw [f2]; exact c1, RB.fr f c2, by rw [hP]; exact c3⟩, fun i hi => ⟨fun z => by rw [f2]; exact (k6 i hi).1 (by rw [← hP]; exact z), fun b q ws z => ?_⟩, by rw [hP]; exact k7, hn, hx, h7, h8, h10⟩
  obtain ⟨a1, a2, ⟨w1, w2, w3⟩⟩ := (k6 i hi).2 b q ws (by rw [← hP]; exact z)
  have hb := a2.1.1
  have hh : ∀ a, b ≤ a → a < b + 32 → sI σ' a = sI σ a := fun a y1 y2 => e a (by rcases hb with hb | ⟨m, hb⟩ <;> omega)
  exact ⟨by rw [f2]; exact a1, a2.of (RB.fr f a2.1) fun a j y1 y2 _ _ => by rw [hh a y1 y2], by rw [hh b (by omega) (by omega)]; exact w1, w2, fun j hj => by rw [hh (b + 16) (by omega) (by omega)]; exact w3 j hj⟩
theorem LMM.upd {P : Nat → Nat → Prop} {σ σ' : HS} {x x' : LXX} (f : FR9 P σ σ') (hP : ∀ a i, P a i → (a < 60 ∧ ¬ (a = 58 ∧ i = 34)) ∨ (84 ≤ a ∧ a ≤ 94) ∨ 97 ≤ a) (k : LMM σ x) (hPx : lqP x' = lqP x) (ht : MTX σ' (lqL x') (lqT x')) (hw : lqW x' = lqW x) (hn : ∀ k, k < 48 → sI σ' 89 k = lqN x' k) (hx : XM σ' (lqS x')) (h51 : sI σ' 58 51 = nI (lqA x')) (h52 : sI σ' 58 52 = nI (lqB x')) (h54 : sI σ' 58 54 = lqD x') : LMM σ' x' := by
  obtain ⟨k1, k2, k3, -⟩ := k
  have e : ∀ a j, ((60 ≤ a ∧ a ≤ 83) ∨ a = 95 ∨ a = 96 ∨ (a = 58 ∧ j = 34)) → sI σ' a j = sI σ a j := fun a j z => f.2.2.2 a j fun y => by have := hP a j y; omega
  refine ⟨ht, by rw [e 58 34 (by omega), hw]; exact k2, fun i hi => ⟨fun z => (e _ _ (by omega)).trans ((k3 i hi).1 (by rw [← hPx]; exact z)), fun b q ws z => ?_⟩, hn, hx, h51, h52, h54⟩
  obtain ⟨a1, a2, a3⟩ := (k3 i hi).2 b q ws (by rw [← hPx]; exact z)
  exact ⟨(e _ _ (by omega)).trans a1, a2.cf fun a j h1 h2 => e a j (by omega), a3.cf fun a j h1 h2 => e a j (by omega)⟩
theorem pair_x {g : GG} {A B : MI} {mc ms : Nat} {as : List Value} {σ : HS} {d8 d9 : Nat} {v : Int32} {x x' : LXX} (h8 : d8 ≤ 10) (h9 : d9 ≤ 10) (c : CT g A d8 mc ms (.ref 1 :: as) σ (fun r τ => r = some (.int v) ∧ LCC τ x' ∧ LMM τ x)) (m : ∀ τ, LCC τ x' → LMM τ x → CT g B d9 0 0 (.ref 58 :: as) τ (fun r υ => r = some (.int v) ∧ LAW υ)) : PAIR g A B mc ms as σ := by
  refine ⟨d8, d9, fun w τ => w = v ∧ LCC τ x' ∧ LMM τ x, h8, h9, CT.mono ?_ c, ?_⟩
  · rintro r σ' ⟨h1, h2⟩
    exact ⟨v, h1, rfl, h2⟩
  · rintro w τ ⟨rfl, h1, h2⟩
    exact ⟨h1.1, m τ h1 h2⟩
/-- way changes -/
def wyX (x : LXX) (i : Nat) (y : PLC) : LXX := (lqL x, lqT x, lqW x, fun j => if j = i then some y else lqP x j, lqN x, lqS x, lqA x, lqB x, lqD x)
theorem wyX_i {x : LXX} {i : Nat} {y : PLC} : lqP (wyX x i y) i = some y := if_pos rfl
theorem wyX_j {x : LXX} {i j : Nat} {y : PLC} (h : j ≠ i) : lqP (wyX x i y) j = lqP x j := if_neg h
theorem LCC.way {σ τ : HS} {x : LXX} {i b : Nat} {q : PS} {ws ws' : List Nat} (hi : i < 4) (k : LCC σ x) (hx : lqP x i = some (b, q, ws)) (h1 : sR τ = sR σ) (h2 : sN τ = sN σ) (h : ∀ a j, ¬ (a = b ∧ j = 15) → a ≠ b + 16 → sI τ a j = sI σ a j) (hw : WY τ b q ws') : LCC τ (wyX x i (b, q, ws')) := by
  obtain ⟨k1, k2, k3, k4, ⟨c, c1, c2, c3⟩, k6, k7, k8, k9, k10, k11, k12⟩ := k
  have hb := ((k6 i hi).2 b q ws hx).2.1.1.1
  have hl : ∀ a j, (a < 14 ∨ (46 ≤ a ∧ a ≤ 98)) → sI τ a j = sI σ a j := fun a j z => h a j (by rcases hb with hb | ⟨m, hb⟩ <;> omega) (by rcases hb with hb | ⟨m, hb⟩ <;> omega)
  have pj : ∀ j y, lqP (wyX x i (b, q, ws')) j = some y → (j = i ∧ y = (b, q, ws')) ∨ (j ≠ i ∧ lqP x j = some y) := fun j y z => by
    by_cases e : j = i
    · rw [e, wyX_i] at z; exact Or.inl ⟨e, (Option.some.inj z).symm⟩
    · rw [wyX_j e] at z; exact Or.inr ⟨e, z⟩
  refine ⟨⟨by rw [h2]; exact k1.1, fun a b r z => by rw [h1]; exact k1.2 a b r z⟩, by rw [h2]; exact k2, ⟨(hl _ _ (by omega)).trans k3.1, k3.2.1, fun j hj => ⟨by rw [hl _ _ (by omega)]; exact (k3.2.2 j hj).1, (k3.2.2 j hj).2⟩⟩, (hl _ _ (by omega)).trans k4, ⟨c, by rw [h1]; exact c1, c2.mf h1 h2, fun j hj y z => ?_⟩, fun j hj => ⟨fun z => ?_, fun b' q' ws1 z => ?_⟩, fun j1 j2 g1 g2 g3 y z e1 e2 => ?_, fun j hj => (hl _ _ (by omega)).trans (k8 j hj), ?_, (hl _ _ (by omega)).trans k10, (hl _ _ (by omega)).trans k11, (hl _ _ (by omega)).trans k12⟩
  · rcases pj j y z with ⟨_, rfl⟩ | ⟨_, z⟩
    · exact c3 i hi (b, q, ws) hx
    · exact c3 j hj y z
  · by_cases e : j = i
    · rw [e, wyX_i] at z; cases z
    · rw [wyX_j e] at z
      rw [h1]; exact (k6 j hj).1 z
  · rcases pj j _ z with ⟨rfl, e⟩ | ⟨e, z⟩
    · cases e
      obtain ⟨a1, a2, a3⟩ := (k6 j hi).2 b q ws hx
      exact ⟨by rw [h1]; exact a1, a2.of (a2.1.mf h1 h2) fun a j y1 y2 y3 y4 => h a j y4 y3, hw⟩
    · obtain ⟨a1, a2, ⟨w1, w2, w3⟩⟩ := (k6 j hj).2 b' q' ws1 z
      have hne := k7 j i hj hi e _ _ z hx
      have hb' := a2.1.1
      have hh : ∀ a j, b' ≤ a → a < b' + 32 → sI τ a j = sI σ a j := fun a j y1 y2 => h a j (by rcases hb with hb | ⟨m, hb⟩ <;> rcases hb' with hb' | ⟨m', hb'⟩ <;> simp only at hne <;> omega) (by rcases hb with hb | ⟨m, hb⟩ <;> rcases hb' with hb' | ⟨m', hb'⟩ <;> simp only at hne <;> omega)
      exact ⟨by rw [h1]; exact a1, a2.of (a2.1.mf h1 h2) fun a j y1 y2 _ _ => hh a j y1 y2, (hh _ _ (by omega) (by omega)).trans w1, w2, fun j hj => ⟨(hh _ _ (by omega) (by omega)).trans (w3 j hj).1, (w3 j hj).2⟩⟩
  · rcases pj j1 y e1 with ⟨a, rfl⟩ | ⟨a, e1⟩
    · rcases pj j2 z e2 with ⟨a2, rfl⟩ | ⟨a2, e2⟩
      · omega
      · exact k7 i j2 hi g2 (by omega) (b, q, ws) _ hx e2
    · rcases pj j2 z e2 with ⟨a2, rfl⟩ | ⟨a2, e2⟩
      · exact k7 j1 i g1 hi (by omega) _ (b, q, ws) e1 hx
      · exact k7 j1 j2 g1 g2 g3 _ _ e1 e2
  · obtain ⟨x1, x2, x3, x4, x5, x6, x7, x8⟩ := k9
    exact ⟨fun i hi => (hl _ _ (by omega)).trans (x1 i hi), fun i hi => (hl _ _ (by omega)).trans (x2 i hi), fun i hi => (hl _ _ (by omega)).trans (x3 i hi), fun i hi => (hl _ _ (by omega)).trans (x4 i hi), fun i hi => (hl _ _ (by omega)).trans (x5 i hi), fun i hi => (hl _ _ (by omega)).trans (x6 i hi), (hl _ _ (by omega)).trans x7, (hl _ _ (by omega)).trans x8⟩
theorem LMM.way {σ τ : HS} {x : LXX} {i b : Nat} {q : PS} {ws ws' : List Nat} (hi : i < 4) (k : LMM σ x) (hx : lqP x i = some (b, q, ws)) (f : FR9 (fun a j => (a = 95 ∧ j = i) ∨ (a = 96 ∧ 60 * i ≤ j ∧ j < 60 * i + 60)) σ τ) (hw : MW τ i q ws') : LMM τ (wyX x i (b, q, ws')) := by
  obtain ⟨k1, k2, k3, k4, k5, k6, k7, k8⟩ := k
  have e : ∀ a j, a ≠ 95 → a ≠ 96 → sI τ a j = sI σ a j := fun a j z1 z2 => f.2.2.2 a j fun y => by omega
  refine ⟨⟨(e _ _ (by omega) (by omega)).trans k1.1, k1.2.1, fun j hj => ⟨(e _ _ (by omega) (by omega)).trans (k1.2.2 j hj).1, (k1.2.2 j hj).2⟩⟩, (e _ _ (by omega) (by omega)).trans k2, fun j hj => ⟨fun z => ?_, fun b' q' ws1 z => ?_⟩, fun j hj => (e _ _ (by omega) (by omega)).trans (k4 j hj), ?_, (e _ _ (by omega) (by omega)).trans k6, (e _ _ (by omega) (by omega)).trans k7, (e _ _ (by omega) (by omega)).trans k8⟩
  · by_cases ej : j = i
    · rw [ej, wyX_i] at z; cases z
    · rw [wyX_j ej] at z
      exact (e _ _ (by omega) (by omega)).trans ((k3 j hj).1 z)
  · by_cases ej : j = i
    · rw [ej, wyX_i] at z
      cases z
      subst ej
      obtain ⟨a1, a2, a3⟩ := (k3 j hi).2 b q ws hx
      exact ⟨(e _ _ (by omega) (by omega)).trans a1, a2.cf fun a j h1 h2 => e a j (by omega) (by omega), hw⟩
    · rw [wyX_j ej] at z
      obtain ⟨a1, a2, a3, a4, a5⟩ := (k3 j hj).2 b' q' ws1 z
      refine ⟨(e _ _ (by omega) (by omega)).trans a1, a2.cf fun a j h1 h2 => e a j (by omega) (by omega), (f.2.2.2 _ _ (by omega)).trans a3, a4, fun m hm => ⟨(f.2.2.2 _ _ (by omega)).trans (a5 m hm).1, (a5 m hm).2⟩⟩
  · obtain ⟨x1, x2, x3, x4, x5, x6⟩ := k5
    exact ⟨fun i hi => (e _ _ (by omega) (by omega)).trans (x1 i hi), fun a ha i hi => (e _ _ (by omega) (by omega)).trans (x2 a ha i hi), fun i hi => (e _ _ (by omega) (by omega)).trans (x3 i hi), fun i a b => (e _ _ (by omega) (by omega)).trans (x4 i a b), (e _ _ (by omega) (by omega)).trans x5, (e _ _ (by omega) (by omega)).trans x6⟩
theorem LPP.way {x : LXX} {i b : Nat} {q : PS} {ws ws' : List Nat} (hi : i < 4) (k : LPP x) (hx : lqP x i = some (b, q, ws)) (hw : WC q ws') : LPP (wyX x i (b, q, ws')) := by
  refine ⟨k.1, fun j hj b' q' ws1 z => ?_⟩
  by_cases ej : j = i
  · rw [ej, wyX_i] at z
    cases z
    obtain ⟨a1, a2, a3⟩ := k.2 i hi b q ws hx
    exact ⟨a1, hw, a3⟩
  · rw [wyX_j ej] at z
    exact k.2 j hj b' q' ws1 z
section PRW
variable {g : GG} {σ : HS} {p w n e l k t : Int32}
theorem pr_name (hL : LAW σ) : PAIR g mX8_name mX9_name 0 0 [.int k, .int w] σ := by
  obtain ⟨x, hc, hm, hp⟩ := id hL
  by_cases h : ¬ k < 0 ∧ k < nI 48
  · obtain ⟨v, v1, rfl⟩ := n_exl (by omega) h.1 h.2
    let x' : LXX := (lqL x, lqT x, lqW x, lqP x, fun i => if i = v then w else lqN x i, lqS x, lqA x, lqB x, lqD x)
    have f : Fr [47] σ (uI σ 47 v w) := Fr.rf.uI (by decide)
    have f47 : ∀ a, a ≠ 47 → sI (uI σ 47 v w) a = sI σ a := fun a ha => f.2.2.2 a (by simp only [List.mem_cons, List.not_mem_nil, or_false]; exact ha)
    have hc' : LCC (uI σ 47 v w) x' := by
      obtain ⟨-, -, k3, -, -, -, -, k8, k9, k10, k11, k12⟩ := id hc
      refine hc.upd f (fun a ha => by simp only [List.mem_cons, List.not_mem_nil, or_false] at ha; omega) rfl ⟨by rw [f47 2 (by omega)]; exact k3.1, k3.2.1, fun i hi => by rw [f47 3 (by omega)]; exact k3.2.2 i hi⟩ rfl (fun j hj => ?_) ?_ (by rw [f47 46 (by omega)]; exact k10) (by rw [f47 46 (by omega)]; exact k11) (by rw [f47 46 (by omega)]; exact k12)
      · show _ = if j = v then w else lqN x j
        by_cases ej : j = v
        · rw [if_pos ej, ej]; exact uI_self
        · rw [if_neg ej, rd_ne ej]; exact k8 j hj
      · obtain ⟨x1, x2, x3, x4, x5, x6, x7, x8⟩ := k9
        exact ⟨by rw [f47 48 (by omega)]; exact x1, by rw [f47 50 (by omega)]; exact x2, by rw [f47 51 (by omega)]; exact x3, by rw [f47 53 (by omega)]; exact x4, by rw [f47 54 (by omega)]; exact x5, by rw [f47 52 (by omega)]; exact x6, by rw [f47 46 (by omega)]; exact x7, by rw [f47 46 (by omega)]; exact x8⟩
    have hm' : LMM (uI σ 47 v w) x := hm.cf fun a j h1 h2 => rd_off (by omega)
    have f2 : FR9 (fun a _ => a = 89) (uI σ 47 v w) (uI (uI σ 47 v w) 89 v w) := FR9.rf.uI rfl
    have e2 : ∀ a j, a ≠ 89 → sI (uI (uI σ 47 v w) 89 v w) a j = sI (uI σ 47 v w) a j := fun a j ha => f2.2.2.2 a j ha
    have hm2 : LMM (uI (uI σ 47 v w) 89 v w) x' := by
      obtain ⟨k1, k2, k3, k4, ⟨x1, x2, x3, x4, x5, x6⟩, k6, k7, k8⟩ := id hm'
      refine hm'.upd f2 (fun a i ha => by omega) rfl ⟨(e2 _ _ (by omega)).trans k1.1, k1.2.1, fun i hi => ⟨(e2 _ _ (by omega)).trans (k1.2.2 i hi).1, (k1.2.2 i hi).2⟩⟩ rfl (fun j hj => ?_) ⟨fun i hi => (e2 _ _ (by omega)).trans (x1 i hi), fun a ha i hi => (e2 _ _ (by omega)).trans (x2 a ha i hi), fun i hi => (e2 _ _ (by omega)).trans (x3 i hi), fun i a b => (e2 _ _ (by omega)).trans (x4 i a b), (e2 _ _ (by omega)).trans x5, (e2 _ _ (by omega)).trans x6⟩ ((e2 _ _ (by omega)).trans k6) ((e2 _ _ (by omega)).trans k7) ((e2 _ _ (by omega)).trans k8)
      show _ = if j = v then w else lqN x j
      by_cases ej : j = v
      · rw [if_pos ej, ej]; exact uI_self
      · rw [if_neg ej, rd_ne ej]; exact k4 j hj
    have ev : sI (uI σ 47 v w) 89 v = sI σ 47 v := by
      rw [rd_off (by omega), hm.2.2.2.1 v v1]; exact (hc.2.2.2.2.2.2.2.1 v v1).symm
    have h9 := z9_name1 (g := g) (σ := uI σ 47 v w) hc'.1 v1 (x := w)
    rw [ev] at h9
    exact pair_u (by omega) (by omega) (z8_name1 hc.1 v1) hc'.1 h9 ⟨x', LCC.mf (σ := uI σ 47 v w) rfl rfl (fun a j z => e2 a j (by omega)) hc', hm2, hp⟩
  · exact pair_0 (by omega) (by omega) hL (z8_name0 hc.1 h) (z9_name0 hc.1 h)
theorem pr_home (hL : LAW σ) : PAIR g mX8_home mX9_home 0 0 [.int p] σ := by
  obtain ⟨x, hc, hm, hp⟩ := id hL
  rcases law_pl hc hm hp p with ⟨a, m⟩ | ⟨i, b, q, ws, hi, rfl, hx, a, m, h60, hr, hk, hy, hw, hwc, -⟩
  · exact pair_0 (by omega) (by omega) hL (z8_home0 hc.1 a) (z9_home0 hc.1 m)
  · have hb := ((hc.2.2.2.2.2.1 i hi).2 b q ws hx).2.1.1.1
    have hb14 : b = 14 ∨ 99 ≤ b := by rcases hb with h | ⟨j, h⟩ <;> omega
    have hc' : LCC (uI σ b 15 (nI 0)) (wyX x i (b, q, [])) := hc.way hi hx rfl rfl (fun a j z1 z2 => sI_ne z1) ⟨uI_self, by simp, fun j hj => absurd hj (by simp)⟩
    have hm' : LMM (uI σ b 15 (nI 0)) x := hm.cf fun a j h1 h2 => sI_ne (by omega)
    have hm2 : LMM (uI (uI σ b 15 (nI 0)) 95 i (nI 0)) (wyX x i (b, q, [])) := hm'.way hi hx (FR9.rf.uI (Or.inl ⟨rfl, rfl⟩)) ⟨uI_self, by simp, fun j hj => absurd hj (by simp)⟩
    have ev : sI (uI σ b 15 (nI 0)) 95 i = sI σ b 15 := by
      rw [sI_ne (by omega), hw.1, hy.1]
    have h60' : sI (uI σ b 15 (nI 0)) 60 i = nI 1 := (sI_ne (by omega)).trans h60
    have h9 := z9_home1 (g := g) (σ := uI σ b 15 (nI 0)) hc'.1 hi h60'
    rw [ev] at h9
    exact pair_u (by omega) (by omega) (z8_home1 hc.1 a) hc'.1 h9 ⟨_, LCC.mf (σ := uI σ b 15 (nI 0)) rfl rfl (fun a j z => sI_ne (by omega)) hc', hm2, hp.way hi hx (fun j hj => absurd hj (by simp))⟩
theorem WC_snoc {q : PS} {ws : List Nat} {t : Nat} (h : WC q ws) (hg : cnG q ws t = true) : WC q (ws ++ [t]) := fun j hj => by
  rw [List.length_append, List.length_singleton] at hj
  have g1 : (ws ++ [t]).getD j 0 = ws.getD j 0 := by rw [gd_snoc, if_neg (by omega)]
  rw [g1]
  by_cases ej : j + 1 = ws.length
  · have g2 : (ws ++ [t]).getD (j + 1) 0 = t := by rw [gd_snoc, if_pos ej]
    rw [g2]
    unfold cnG at hg
    rw [if_neg (by omega), show ws.length - 1 = j by omega, Bool.or_eq_true] at hg
    exact hg.imp of_decide_eq_true of_decide_eq_true
  · have g2 : (ws ++ [t]).getD (j + 1) 0 = ws.getD (j + 1) 0 := by rw [gd_snoc, if_neg ej]
    rw [g2]; exact h j (by omega)
theorem pr_step (hL : LAW σ) : PAIR g mX8_step mX9_step_ 0 0 [.int p, .int t] σ := by
  obtain ⟨x, hc, hm, hp⟩ := id hL
  rcases law_pl hc hm hp p with ⟨a, m⟩ | ⟨i, b, q, ws, hi, rfl, hx, a, m, h60, hr, hk, hy, hw, hwc, -⟩
  · exact pair_0 (by omega) (by omega) hL (z8_step0 hc.1 a) (z9_step0 hc.1 m)
  · by_cases h : ¬ t < 0 ∧ t < nI (psF q).length
    · have h40 := hk.1.2.1
      obtain ⟨v, v1, rfl⟩ := n_exl (by omega) h.1 h.2
      have h8 := z8_step1 (g := g) hc.1 a hy v1
      have h9 := fun τ (s : SK τ) (y1 : sI τ 60 i = nI 1) (y2 : MR τ i q) (y3 : MW τ i q ws) => z9_step1 (g := g) s hi y1 y2 hk y3 v1
      by_cases hg : cnG q ws v = true
      · rw [if_pos hg] at h8
        simp only [if_pos hg] at h9
        by_cases hl : ws.length < 60
        · rw [if_pos hl] at h8
          simp only [if_pos hl] at h9
          have hb := ((hc.2.2.2.2.2.1 i hi).2 b q ws hx).2.1.1.1
          have hb14 : b = 14 ∨ 99 ≤ b := by rcases hb with h | ⟨j, h⟩ <;> omega
          have e1 : ∀ a j, ¬ (a = b ∧ j = 15) → a ≠ b + 16 → sI (uI (uI σ b 15 (nI (ws.length + 1))) (b + 16) ws.length (nI v)) a j = sI σ a j := fun a j z1 z2 => (sI_ne (by omega)).trans (sI_ne z1)
          have gd : ∀ j, j < (ws ++ [v]).length → (j < ws.length ∧ (ws ++ [v]).getD j 0 = ws.getD j 0) ∨ (j = ws.length ∧ (ws ++ [v]).getD j 0 = v) := fun j hj => by
            rw [List.length_append, List.length_singleton] at hj
            by_cases ej : j = ws.length
            · exact Or.inr ⟨ej, by rw [gd_snoc, if_pos ej]⟩
            · exact Or.inl ⟨by omega, by rw [gd_snoc, if_neg ej]⟩
          have hc' : LCC (uI (uI σ b 15 (nI (ws.length + 1))) (b + 16) ws.length (nI v)) (wyX x i (b, q, ws ++ [v])) := by
            refine hc.way hi hx rfl rfl e1 ⟨?_, by rw [List.length_append, List.length_singleton]; omega, fun j hj => ?_⟩
            · rw [rd_off (by omega), uI_self, List.length_append]; rfl
            · rcases gd j hj with ⟨g1, g2⟩ | ⟨g1, g2⟩
              · rw [g2, rd_ne (by omega), rd_off (by omega)]; exact hy.2.2 j g1
              · rw [g2, g1]; exact ⟨uI_self, v1⟩
          have hm' : LMM (uI (uI σ b 15 (nI (ws.length + 1))) (b + 16) ws.length (nI v)) x := hm.cf fun a j h1 h2 => e1 a j (by omega) (by omega)
          obtain ⟨y1, y2, y3⟩ := (hm'.2.2.1 i hi).2 b q ws hx
          have h9' := h9 _ hc'.1 y1 y2 y3
          generalize uI (uI σ b 15 (nI (ws.length + 1))) (b + 16) ws.length (nI v) = τ at h8 hc' hm' h9' y3
          have hm2 : LMM (uI (uI τ 96 (60 * i + ws.length) (nI v)) 95 i (nI (ws.length + 1))) (wyX x i (b, q, ws ++ [v])) := by
            refine hm'.way hi hx ((FR9.rf.uI (Or.inr ⟨rfl, by omega, by omega⟩)).uI (Or.inl ⟨rfl, rfl⟩)) ⟨?_, by rw [List.length_append, List.length_singleton]; omega, fun j hj => ?_⟩
            · rw [uI_self, List.length_append]; rfl
            · rw [rd_off (by omega)]
              rcases gd j hj with ⟨g1, g2⟩ | ⟨g1, g2⟩
              · rw [g2, rd_ne (by omega)]; exact y3.2.2 j g1
              · rw [g2, g1]; exact ⟨uI_self, v1⟩
          exact pair_u (by omega) (by omega) h8 hc'.1 h9' ⟨_, LCC.mf (σ := τ) rfl rfl (fun a j z => (sI_ne (by omega)).trans (sI_ne (by omega))) hc', hm2, hp.way hi hx (WC_snoc hwc hg)⟩
        · rw [if_neg hl] at h8
          simp only [if_neg hl] at h9
          exact pair_0 (by omega) (by omega) hL h8 (h9 σ hc.1 h60 hr hw)
      · rw [if_neg hg] at h8
        simp only [if_neg hg] at h9
        exact pair_0 (by omega) (by omega) hL h8 (h9 σ hc.1 h60 hr hw)
    · exact pair_0 (by omega) (by omega) hL (z8_step2 hc.1 a h) (z9_step2 hc.1 hi h60 hr h)
end PRW
