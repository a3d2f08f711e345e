/-! The class: a ROUTINE is finished. -/
theorem PSR_LK {σ : HS} {b : Nat} {q : PS} (h : PSR σ b q) (h0 : 0 < (psF q).length) : LKg σ b q 0 (XL q 0).length (-1) (-1) := by
  obtain ⟨p1, p2, p3, p4, p5, p6, p7, p8, p9, p10⟩ := h
  have er : ∀ i, i < (psS q).length → rg q i = (psS q).getD i r0 := fun i hi => if_pos hi
  refine ⟨p1, p2, p3, p4, p5, p6, fun j hj => ?_, fun i hi => ?_, fun i hi => ?_, fun i g1 g2 => ?_, fun g => ?_⟩
  · by_cases e : j < (psF q).length
    · rw [nf_lt e]; exact p8 j e
    · rw [nf_ge (by omega), show j = (psF q).length by omega]; exact p9 h0
  · have hi' : i < (psS q).length := hi
    obtain ⟨c1, c2, c3, c4, c5, c6, c7, c8, c9, c10, c11, c12⟩ := p7 i hi'
    rw [er i hi']
    exact ⟨c1, c2, c3, c4, c5, c6, c7, c8⟩
  · have : i < (psS q).length + 0 := by rcases hi with hi | hi; · omega
                                        · exact hi.2
    omega
  · obtain ⟨c1, c2, c3, c4, c5, c6, c7, c8, c9, c10, c11, c12⟩ := p7 i g2
    exact ⟨c9, c10⟩
  · obtain ⟨c1, c2, c3, c4, c5, c6, c7, c8, c9, c10, c11, c12⟩ := p7 0 g
    exact ⟨c9, c10⟩
