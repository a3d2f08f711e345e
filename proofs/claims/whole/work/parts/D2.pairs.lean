/-! The law: what both answer, method by method. -/
def PAIR (g : GG) (A B : MI) (mc ms : Nat) (as : List Value) (σ : HS) : Prop := ∃ (d8 d9 : Nat) (E : Int32 → HS → Prop), d8 ≤ 10 ∧ d9 ≤ 10 ∧ CT g A d8 mc ms (.ref 1 :: as) σ (fun r σ' => ∃ v, r = some (.int v) ∧ E v σ') ∧ ∀ v σ', E v σ' → SK σ' ∧ CT g B d9 0 0 (.ref 58 :: as) σ' (fun r σ'' => r = some (.int v) ∧ LAW σ'')
theorem pair_m {g : GG} {A B : MI} {as : List Value} {σ : HS} {d8 d9 : Nat} {v : Int32} (h8 : d8 ≤ 10) (h9 : d9 ≤ 10) (hS : SK σ) (c : CT g A d8 0 0 (.ref 1 :: as) σ (PQ σ (.int v))) (m : CT g B d9 0 0 (.ref 58 :: as) σ (fun r σ'' => r = some (.int v) ∧ LAW σ'')) : PAIR g A B 0 0 as σ := by
  refine ⟨d8, d9, fun w τ => w = v ∧ τ = σ, h8, h9, CT.mono ?_ c, ?_⟩
  · rintro r σ' ⟨h1, h2⟩
    exact ⟨v, h2, rfl, h1⟩
  · rintro w τ ⟨rfl, rfl⟩
    exact ⟨hS, m⟩
theorem pair_0 {g : GG} {A B : MI} {as : List Value} {σ : HS} {d8 d9 : Nat} {v : Int32} (h8 : d8 ≤ 10) (h9 : d9 ≤ 10) (hL : LAW σ) (c : CT g A d8 0 0 (.ref 1 :: as) σ (PQ σ (.int v))) (m : CT g B d9 0 0 (.ref 58 :: as) σ (PQ σ (.int v))) : PAIR g A B 0 0 as σ := by
  obtain ⟨x, hc, -⟩ := id hL
  refine pair_m h8 h9 hc.1 c (CT.mono ?_ m)
  rintro r σ' ⟨h1, h2⟩
  rw [h1]; exact ⟨h2, hL⟩
/-- both write: the class τ, the model υ -/
theorem pair_u {g : GG} {A B : MI} {as : List Value} {σ τ υ : HS} {d8 d9 : Nat} {v : Int32} (h8 : d8 ≤ 10) (h9 : d9 ≤ 10) (c : CT g A d8 0 0 (.ref 1 :: as) σ (PQ τ (.int v))) (hS : SK τ) (m : CT g B d9 0 0 (.ref 58 :: as) τ (PQ υ (.int v))) (hL : LAW υ) : PAIR g A B 0 0 as σ := by
  refine ⟨d8, d9, fun w τ' => w = v ∧ τ' = τ, h8, h9, CT.mono ?_ c, ?_⟩
  · rintro r σ' ⟨h1, h2⟩
    exact ⟨v, h2, rfl, h1⟩
  · rintro w τ' ⟨rfl, rfl⟩
    refine ⟨hS, CT.mono ?_ m⟩
    rintro r σ' ⟨h1, h2⟩
    rw [h1]; exact ⟨h2, hL⟩
/-- places of the model that the law doesn't speak of -/
def offq (h i : Nat) : Prop := h = 88 ∨ h = 97 ∨ h = 98 ∨ (h = 58 ∧ i = 60)
theorem LMM.off {σ σ' : HS} {x : LXX} (hp : LPP x) (f : FR9 offq σ σ') (k : LMM σ x) : LMM σ' x := by
  have e : ∀ a j, a ≠ 88 → a ≠ 97 → a ≠ 98 → ¬ (a = 58 ∧ j = 60) → sI σ' a j = sI σ a j := fun a j h1 h2 h3 h4 => f.2.2.2 a j fun z => by unfold offq at z; omega
  obtain ⟨k1, k2, k3, k4, ⟨x1, x2, x3, x4, x5, x6⟩, k6, k7, k8⟩ := k
  refine ⟨⟨(e _ _ (by omega) (by omega) (by omega) (by omega)).trans k1.1, k1.2.1, fun i hi => ⟨(e _ _ (by omega) (by omega) (by omega) (by omega)).trans (k1.2.2 i hi).1, (k1.2.2 i hi).2⟩⟩, (e _ _ (by omega) (by omega) (by omega) (by omega)).trans k2, fun i hi => ⟨fun z => (e _ _ (by omega) (by omega) (by omega) (by omega)).trans ((k3 i hi).1 z), fun b q ws z => ?_⟩, fun j hj => (e _ _ (by omega) (by omega) (by omega) (by omega)).trans (k4 j hj), ⟨fun i hi => (e _ _ (by omega) (by omega) (by omega) (by omega)).trans (x1 i hi), fun a ha i hi => (e _ _ (by omega) (by omega) (by omega) (by omega)).trans (x2 a ha i hi), fun i hi => (e _ _ (by omega) (by omega) (by omega) (by omega)).trans (x3 i hi), fun i a b => (e _ _ (by omega) (by omega) (by omega) (by omega)).trans (x4 i a b), (e _ _ (by omega) (by omega) (by omega) (by omega)).trans x5, (e _ _ (by omega) (by omega) (by omega) (by omega)).trans x6⟩, (e _ _ (by omega) (by omega) (by omega) (by omega)).trans k6, (e _ _ (by omega) (by omega) (by omega) (by omega)).trans k7, (e _ _ (by omega) (by omega) (by omega) (by omega)).trans k8⟩
  obtain ⟨a1, a2, a3⟩ := (k3 i hi).2 b q ws z
  exact ⟨(e _ _ (by omega) (by omega) (by omega) (by omega)).trans a1, a2.cf fun a j h1 h2 => e a j (by omega) (by omega) (by omega) (by omega), a3.cf fun a j h1 h2 => e a j (by omega) (by omega) (by omega) (by omega)⟩
theorem LAW.off {σ σ' : HS} (f : FR9 offq σ σ') (h : LAW σ) : LAW σ' := by
  obtain ⟨x, hc, hm, hp⟩ := h
  exact ⟨x, hc.fq f fun a i z => by unfold offq at z; omega, hm.off hp f, hp⟩
theorem LAW.l88 {σ σ' : HS} (f : FR9 l88 σ σ') (h : LAW σ) : LAW σ' := h.off (f.mono fun a i z => Or.inl z)
section PRS
variable {g : GG} {σ : HS} {p w n e l k : Int32}
theorem pr_about (hL : LAW σ) : PAIR g mX8_about mX9_about 0 0 [.int p, .int w] σ := by
  obtain ⟨x, hc, hm, hp⟩ := id hL
  rcases law_pl hc hm hp p with ⟨a, m⟩ | ⟨i, b, q, ws, hi, rfl, hx, a, m, -⟩
  · exact pair_0 (by omega) (by omega) hL (z8_about0 hc.1 a) (z9_about0 hc.1 m)
  · exact pair_0 (by omega) (by omega) hL (z8_about1 hc.1 a) (z9_about1 hc.1 m)
theorem pr_node (hL : LAW σ) : PAIR g mX8_node mX9_node 0 0 [.int p, .int n, .int w] σ := by
  obtain ⟨x, hc, hm, hp⟩ := id hL
  rcases law_pl hc hm hp p with ⟨a, m⟩ | ⟨i, b, q, ws, hi, rfl, hx, a, m, -⟩
  · exact pair_0 (by omega) (by omega) hL (z8_node0 hc.1 a) (z9_node0 hc.1 m)
  · exact pair_0 (by omega) (by omega) hL (z8_node1 hc.1 a) (z9_node1 hc.1 m)
theorem pr_sum (hL : LAW σ) : PAIR g mX8_sum mX9_sum 0 0 [.int p, .int e, .int w] σ := by
  obtain ⟨x, hc, hm, hp⟩ := id hL
  rcases law_pl hc hm hp p with ⟨a, m⟩ | ⟨i, b, q, ws, hi, rfl, hx, a, m, -⟩
  · exact pair_0 (by omega) (by omega) hL (z8_sum0 hc.1 a) (z9_sum0 hc.1 m)
  · exact pair_0 (by omega) (by omega) hL (z8_sum1 hc.1 a) (z9_sum1 hc.1 m)
theorem pr_at (hL : LAW σ) : PAIR g mX8_at mX9_at_ 0 0 [.int p, .int e, .int n, .int w] σ := by
  obtain ⟨x, hc, hm, hp⟩ := id hL
  rcases law_pl hc hm hp p with ⟨a, m⟩ | ⟨i, b, q, ws, hi, rfl, hx, a, m, -⟩
  · exact pair_0 (by omega) (by omega) hL (z8_at0 hc.1 a) (z9_at0 hc.1 m)
  · exact pair_0 (by omega) (by omega) hL (z8_at1 hc.1 a) (z9_at1 hc.1 m)
theorem pr_placed (hL : LAW σ) : PAIR g mX8_placed mX9_placed 0 0 [.int p, .int l, .int e, .int n, .int w] σ := by
  obtain ⟨x, hc, hm, hp⟩ := id hL
  rcases law_pl hc hm hp p with ⟨a, m⟩ | ⟨i, b, q, ws, hi, rfl, hx, a, m, -⟩
  · exact pair_0 (by omega) (by omega) hL (z8_placed0 hc.1 a) (z9_placed0 hc.1 m)
  · exact pair_m (by omega) (by omega) hc.1 (z8_placed1 hc.1 a) (CT.mono (fun r σ' h => ⟨h.1, hL.l88 h.2⟩) (z9_placed1 hc.1 m))
theorem pr_life (hL : LAW σ) : PAIR g mX8_life mX9_life 0 0 [.int p, .int l, .int e] σ := by
  obtain ⟨x, hc, hm, hp⟩ := id hL
  rcases law_pl hc hm hp p with ⟨a, m⟩ | ⟨i, b, q, ws, hi, rfl, hx, a, m, -⟩
  · exact pair_0 (by omega) (by omega) hL (z8_life0 hc.1 a) (z9_life0 hc.1 m)
  · exact pair_m (by omega) (by omega) hc.1 (z8_life1 hc.1 a) (CT.mono (fun r σ' h => ⟨h.1, hL.l88 h.2⟩) (z9_life1 hc.1 m))
theorem pr_places (hL : LAW σ) : PAIR g mX8_places mX9_places 0 0 [.int p, .int l, .int e, .int w] σ := by
  obtain ⟨x, hc, hm, hp⟩ := id hL
  rcases law_pl hc hm hp p with ⟨a, m⟩ | ⟨i, b, q, ws, hi, rfl, hx, a, m, -⟩
  · exact pair_0 (by omega) (by omega) hL (z8_places0 hc.1 a) (z9_places0 hc.1 m)
  · exact pair_m (by omega) (by omega) hc.1 (z8_places1 hc.1 a) (CT.mono (fun r σ' h => ⟨h.1, hL.l88 h.2⟩) (z9_places1 hc.1 m))
theorem pr_works (hL : LAW σ) : PAIR g mX8_works mX9_works 0 0 [.int p, .int l, .int e] σ := by
  obtain ⟨x, hc, hm, hp⟩ := id hL
  rcases law_pl hc hm hp p with ⟨a, m⟩ | ⟨i, b, q, ws, hi, rfl, hx, a, m, -, -, -, hy, hw, hwc, -⟩
  · exact pair_0 (by omega) (by omega) hL (z8_works0 hc.1 a) (z9_works0 hc.1 m)
  · refine pair_0 (by omega) (by omega) hL (z8_works1 hc.1 a hy) (z9_works1 hc.1 m (fun j hj e => ?_) hwc)
    have := nI_inj (by omega) (by omega) e
    rw [← this]; exact hw
theorem pr_wrong (hL : LAW σ) : PAIR g mX8_wrong mX9_wrong 0 0 [] σ := by
  obtain ⟨x, hc, hm, hp⟩ := id hL
  have e : sI σ 1 5 = sI σ 58 34 := hc.2.2.2.1.trans hm.2.1.symm
  have h := z8_wrong (g := g) hc.1
  rw [e] at h
  exact pair_0 (by omega) (by omega) hL h (z9_wrong hc.1)
theorem pr_tape (hL : LAW σ) : PAIR g mX8_tape mX9_tape 0 0 [.int k] σ := by
  obtain ⟨x, hc, hm, hp⟩ := id hL
  have hT := hc.2.2.1
  have hL3 := hT.2.1
  by_cases h : ¬ k < 0 ∧ k < nI (lqL x)
  · obtain ⟨v, v1, rfl⟩ := n_exl (by omega) h.1 h.2
    exact pair_0 (by omega) (by omega) hL (z8_tape1 hc.1 hT v1) (z9_tape1 hc.1 hm.1 v1)
  · exact pair_0 (by omega) (by omega) hL (z8_tape0 hc.1 hT h) (z9_tape0 hc.1 hm.1 h)
theorem pr_ran (hL : LAW σ) : PAIR g mX8_ran mX9_ran 0 0 [.int w] σ := by
  obtain ⟨x, hc, hm, hp⟩ := id hL
  obtain ⟨-, -, -, -, -, -, -, -, ⟨-, -, -, -, -, -, c9, c11⟩, c7, c8, c10⟩ := id hc
  obtain ⟨-, -, -, -, ⟨-, -, -, -, m53, m55⟩, m51, m52, m54⟩ := id hm
  have e : raN σ w = raM σ w := by
    unfold raN raM
    rw [c7, c8, c9, c10, c11, m51, m52, m53, m54, m55]
  have h := z8_ran (g := g) hc.1 (w := w)
  rw [e] at h
  exact pair_0 (by omega) (by omega) hL h (z9_ran hc.1)
theorem pr_told (hL : LAW σ) : PAIR g mX8_told mX9_told 0 0 [.int k] σ := by
  obtain ⟨x, hc, hm, hp⟩ := id hL
  obtain ⟨-, -, -, -, -, -, -, -, ⟨-, -, -, -, -, ct, c9, -⟩, -⟩ := id hc
  obtain ⟨-, -, -, -, ⟨-, -, -, mt, m53, -⟩, -⟩ := id hm
  by_cases h : ¬ k < 0 ∧ k < nI 100 ∧ k < nI (xC (lqS x))
  · obtain ⟨v, v1, rfl⟩ := n_exl (by omega) h.1 h.2.1
    have v2 : v < xC (lqS x) := (nI_ltI (by omega) (by have := hp.1; omega)).mp h.2.2
    have e : sI σ 52 v = sI σ 94 v := (ct v v1).trans (mt v v2 v1).symm
    have h8 := z8_told1 (g := g) hc.1 c9 hp.1 v1 v2
    rw [e] at h8
    exact pair_0 (by omega) (by omega) hL h8 (z9_told1 hc.1 m53 hp.1 v1 v2)
  · exact pair_0 (by omega) (by omega) hL (z8_told0 hc.1 c9 hp.1 h) (z9_told0 hc.1 m53 hp.1 h)
theorem pr_value (hL : LAW σ) : PAIR g mX8_value mX9_value 0 0 [.int k] σ := by
  obtain ⟨x, hc, hm, hp⟩ := id hL
  by_cases h : ¬ k < 0 ∧ k < nI 48
  · obtain ⟨v, v1, rfl⟩ := n_exl (by omega) h.1 h.2
    have e : sI σ 48 v = sI σ 90 v := (hc.2.2.2.2.2.2.2.2.1.1 v v1).trans (hm.2.2.2.2.1.1 v v1).symm
    have h8 := z8_value1 (g := g) hc.1 v1
    rw [e] at h8
    exact pair_0 (by omega) (by omega) hL h8 (z9_value1 hc.1 v1)
  · exact pair_0 (by omega) (by omega) hL (z8_value0 hc.1 h) (z9_value0 hc.1 h)
theorem pr_row (hL : LAW σ) : PAIR g mX8_row mX9_row 0 0 [.int w, .int k] σ := by
  obtain ⟨x, hc, hm, hp⟩ := id hL
  by_cases h : (¬ w < 0 ∧ w < nI 2) ∧ ¬ k < 0 ∧ k < nI 8
  · obtain ⟨u, u1, rfl⟩ := n_exl (by omega) h.1.1 h.1.2
    obtain ⟨v, v1, rfl⟩ := n_exl (by omega) h.2.1 h.2.2
    obtain ⟨-, x0, x1, -⟩ := hc.2.2.2.2.2.2.2.2.1
    have m1 := hm.2.2.2.2.1.2.1 u u1 v v1
    have e : sI σ (50 + u) v = sI σ 91 (8 * u + v) := by
      rw [m1]
      rcases (show u = 0 ∨ u = 1 by omega) with rfl | rfl
      · exact x0 v v1
      · exact x1 v v1
    have h8 := z8_row1 (g := g) hc.1 u1 v1
    rw [e] at h8
    exact pair_0 (by omega) (by omega) hL h8 (z9_row1 hc.1 u1 v1)
  · exact pair_0 (by omega) (by omega) hL (z8_row0 hc.1 h) (z9_row0 hc.1 h)
theorem pr_worked (hL : LAW σ) : PAIR g mX8_worked mX9_worked 0 0 [.int k] σ := by
  obtain ⟨x, hc, hm, hp⟩ := id hL
  by_cases h : ¬ k < 0 ∧ k < nI 32
  · obtain ⟨v, v1, rfl⟩ := n_exl (by omega) h.1 h.2
    have e : sI σ 53 v = sI σ 93 v := (hc.2.2.2.2.2.2.2.2.1.2.2.2.1 v v1).trans (hm.2.2.2.2.1.2.2.1 v v1).symm
    have h8 := z8_worked1 (g := g) hc.1 v1
    rw [e] at h8
    exact pair_0 (by omega) (by omega) hL h8 (z9_worked1 hc.1 v1)
  · exact pair_0 (by omega) (by omega) hL (z8_worked0 hc.1 h) (z9_worked0 hc.1 h)
end PRS
