/-! The law: parse on both sides. -/
def PRE (x : LXX) (i b : Nat) (v : Int32) (τ : HS) : Prop := LMM τ x ∧ ((∃ e, PAll (lqT x) (lqL x) (.inl e) ∧ v = (-10) - nI e.2 ∧ LCC τ (erX x (nI e.1))) ∨
  ∃ q, PAll (lqT x) (lqL x) (.inr q) ∧ ((psX q = true ∧ v = -3 ∧ LCC τ (erX x (nI 0))) ∨ (psX q = false ∧ v = nI (NN q) ∧ MOK q ∧ LCC τ (okX x i b q))))
theorem LPP.ok {x : LXX} {i b : Nat} {q : PS} (hi : i < 4) (hp : LPP x) (hk : MOK q) (ha : PAll (lqT x) (lqL x) (.inr q)) : LPP (okX x i b q) := by
  refine ⟨hp.1, fun j hj b' q' ws z => ?_⟩
  by_cases e : j = i
  · rw [e, okX_i] at z
    cases z
    exact ⟨hk, fun m hm => absurd hm (by simp), pAll_qt ha.1, ha.2.2.1⟩
  · rw [okX_j e] at z
    exact hp.2 j hj b' q' ws z
section PRP
variable {g : GG} {σ : HS} {p : Int32}
theorem pr_parse (hL : LAW σ) : PAIR g mX8_parse mX9_parse 32 5276 [.int p] σ := by
  obtain ⟨x, hc, hm, hp⟩ := id hL
  by_cases h : ¬ p < 0 ∧ p < nI 4
  · obtain ⟨i, hi, rfl⟩ := n_exl (by omega) h.1 h.2
    obtain ⟨b, b1, b2, b3⟩ := hc.2.2.2.2.1
    obtain ⟨k1, k2⟩ := hc.2.2.2.2.2.1 i hi
    have hb14 : b = 14 ∨ 99 ≤ b := by rcases b2.1 with h | ⟨j, h⟩ <;> omega
    have h8 := z8_parse1 (g := g) hc.1 b2 b1 hc.2.2.1 hi rfl (fun _ => hc.2.1) (fun hz => by
      cases hx : lqP x i with
      | none => exact absurd (k1 hx) hz
      | some y =>
        obtain ⟨y1, y2, y3⟩ := y
        obtain ⟨a1, a2, -⟩ := k2 y1 y2 y3 hx
        rw [a1]; exact a2.1)
    refine ⟨10, 8, PRE x i b, by omega, by omega, CT.mono ?_ h8, fun v τ hE => ?_⟩
    · rintro r τ (⟨e, e1, e2, e3, e4⟩ | ⟨q, q1, q2, q3, q4, ⟨q5, q6, q7, q8⟩ | ⟨q5, q6, τ1, q7, q8, q9, q10, q11⟩⟩)
      · exact ⟨_, e2, hm.bp hb14 e3, Or.inl ⟨e, e1, rfl, hc.er b1 e3 e4⟩⟩
      · exact ⟨_, q6, hm.bp hb14 q7, Or.inr ⟨q, q1, Or.inl ⟨q5, rfl, hc.er b1 q7 q8⟩⟩⟩
      · refine ⟨_, q6, ?_, Or.inr ⟨q, q1, Or.inr ⟨q5, rfl, ⟨q2, q3, q1.2.1, q5, q4⟩, hc.ok hi b1 rfl q7 q8 q9 q10 q11⟩⟩⟩
        refine (hm.bp hb14 q7).cf fun a j z1 z2 => ?_
        obtain ⟨-, -, -, -, -, p7, -⟩ := q11
        exact p7 a j (by have := hc.1.1; rw [q7.2.2.1]; omega)
    · obtain ⟨hm', hE⟩ := hE
      have hS : SK τ := by
        rcases hE with ⟨e, -, -, z⟩ | ⟨q, -, ⟨-, -, z⟩ | ⟨-, -, -, z⟩⟩
        · exact z.1
        · exact z.1
        · exact z.1
      refine ⟨hS, CT.mono ?_ (z9_parse1 hS hm'.1 hi)⟩
      rintro r υ ⟨u1, ⟨e, e1, e2, e3, e4⟩ | ⟨q, q1, q3, ⟨q5, q6, q7⟩ | ⟨q5, q6, q7, q8, q9, q10⟩⟩⟩
      · rcases hE with ⟨e', y1, y2, y3⟩ | ⟨q', y1, -⟩
        · cases PAll_u e1 y1
          exact ⟨by rw [e2, y2], _, y3.fq e4 (fun a m z => by unfold pwr nwr at z; omega), hm'.pe hp e4 u1 e3, hp⟩
        · cases PAll_u e1 y1
      · rcases hE with ⟨e', y1, -⟩ | ⟨q', y1, ⟨y2, y3, y4⟩ | ⟨y2, -⟩⟩
        · cases PAll_u q1 y1
        · exact ⟨by rw [q6, y3], _, y4.fq q7 (fun a m z => by unfold pwr nwr at z; omega), hm'.pe hp q7 u1 q3, hp⟩
        · cases PAll_u q1 y1
          rw [q5] at y2; cases y2
      · rcases hE with ⟨e', y1, -⟩ | ⟨q', y1, ⟨y2, -⟩ | ⟨y2, y3, y4, y5⟩⟩
        · cases PAll_u q1 y1
        · cases PAll_u q1 y1
          rw [q5] at y2; cases y2
        · cases PAll_u q1 y1
          exact ⟨by rw [q6, y3], _, y5.fq q7 (fun a m z => by unfold pwr nwr cpq at z; omega), hm'.po hi hp q7 u1 q3 q8 q9 q10, hp.ok hi y4 q1⟩
  · refine ⟨10, 8, fun w τ => w = -1 ∧ τ = σ, by omega, by omega, CT.mono ?_ (z8_parse0 hc.1 h), ?_⟩
    · rintro r σ' ⟨h1, h2⟩
      exact ⟨-1, h2, rfl, h1⟩
    · rintro w τ ⟨rfl, rfl⟩
      refine ⟨hc.1, CT.mono ?_ (z9_parse0 hc.1 h)⟩
      rintro r σ' ⟨h1, h2⟩
      rw [h1]; exact ⟨h2, hL⟩
end PRP
