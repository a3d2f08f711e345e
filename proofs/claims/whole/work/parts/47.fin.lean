/-! The class: a ROUTINE is finished. -/
theorem PSR_LK {σ : HS} {b : Nat} {q : PS} (h : PSR σ b q) (h0 : 0 < (psF q).length) : LKg σ b q 0 (XL q 0).length (-1) (-1) := by
  obtain ⟨p1, p2, p3, p4, p5, p6, p7, p8, p9, p10⟩ := h
  have er : ∀ i, i < (psS q).length → rg q i = (psS q).getD i r0 := fun i hi => if_pos hi
  refine ⟨p1, p2, p3, p4, p5, p6, fun j hj => ?_, fun i hi => ?_, fun i hi => ?_, fun i g1 g2 => ?_, fun g => ?_⟩
  · by_cases e : j < (psF q).length
    · rw [nf_lt e]; exact p8 j e
    · rw [nf_ge (by omega), show j = (psF q).length by omega]; exact p9 h0
  · have hi' : i < (psS q).length := hi
    obtain ⟨c1, c2, c3, c4, c5, c6, c7, c8, c9, c10, c11, c12⟩ := p7 i hi'
    rw [er i hi']
    exact ⟨c1, c2, c3, c4, c5, c6, c7, c8⟩
  · have : i < (psS q).length + 0 := by rcases hi with hi | hi; · omega
                                        · exact hi.2
    omega
  · obtain ⟨c1, c2, c3, c4, c5, c6, c7, c8, c9, c10, c11, c12⟩ := p7 i g2
    exact ⟨c9, c10⟩
  · obtain ⟨c1, c2, c3, c4, c5, c6, c7, c8, c9, c10, c11, c12⟩ := p7 0 g
    exact ⟨c9, c10⟩
theorem PSR_12 {σ : HS} {b : Nat} {q : PS} {n m : Nat} (h : LKg σ b q n m (-1) (-1)) : sI σ b 13 = nI (psS q).length := h.2.1
/-- the linking loop of finish; K: what comes behind it -/
theorem y2_link {g : GG} {σ0 : HS} {b : Nat} (hb0 : RB σ0 b) {q : PS} (hc : BC q) (hw : WFs q) (hnb : NB q) {Z : List Frame → Array Value → State → State → Prop} {d : Nat} (hd : 4 ≤ d) (K : ∀ σ, LF b σ0 σ → LKg σ b q (psS q).length (XL q (psS q).length).length (-1) (-1) → WA g mX2_finish d 0 0 Z 0 0 21 [(0, .ref b)] [] σ) : ∀ (k n : Nat) (σ : HS), n + k = (psS q).length → LF b σ0 σ → LKg σ b q n (XL q n).length (-1) (-1) → WA g mX2_finish d 0 0 Z 0 0 2 [(0, .ref b), (1, .int (nI n))] [] σ := by
  have hb14 : b = 14 ∨ 99 ≤ b := by rcases hb0.1 with h | ⟨j, h⟩ <;> omega
  have h160 := hc.2.2.1
  intro k
  induction k with
  | zero =>
    intro n σ hn h0 h
    have hb := RB.lf h0 hb0
    have h13 := PSR_12 h
    refine q_iload_n dX2_finish_2 rfl rfl ?_
    refine q_aload_n dX2_finish_3 rfl rfl rfl ?_
    refine q_geti (x := nI ((psS q).length)) dX2_finish_4 fX2_65 rfl (ty_r hb 0 rfl) h13 ?_
    refine q_icmp_geN (tgt := 21) dX2_finish_7 (by decide) (by omega) (by omega) (fun c7 => ?_) (fun c7 => ?_)
    · skip
      refine q_pk [0] (ls' := [(0, .ref b)]) rfl ?_
      exact K σ h0 (by rw [← hn]; exact h)
    · exact absurd c7 (by omega)
  | succ k ih =>
    intro n σ hn h0 h
    have hb := RB.lf h0 hb0
    have h13 := PSR_12 h
    refine q_iload_n dX2_finish_2 rfl rfl ?_
    refine q_aload_n dX2_finish_3 rfl rfl rfl ?_
    refine q_geti (x := nI ((psS q).length)) dX2_finish_4 fX2_65 rfl (ty_r hb 0 rfl) h13 ?_
    refine q_icmp_geN (tgt := 21) dX2_finish_7 (by decide) (by omega) (by omega) (fun c7 => ?_) (fun c7 => ?_)
    · exact absurd c7 (by omega)
    · skip
      refine q_aload_n dX2_finish_10 rfl rfl rfl ?_
      refine q_iload_n dX2_finish_11 rfl rfl ?_
      refine q_callV (As := [.int (nI n)]) (rest := []) dX2_finish_12 vX2_91 (ty_r hb 0 rfl) ⟨by decide, rfl⟩ (z2_linkNode hb hc hw hnb (by omega) h) rfl rfl (Nat.le_of_ble_eq_true rfl) (by omega) (by omega) (by omega) (k_v (fun s12 q12 => ?_))
      refine q_iincN (c := 1) dX2_finish_15 rfl (by decide) rfl (ls' := [(1, .int (nI (n + 1))), (0, .ref b)]) rfl ?_
      refine q_goto (tgt := 2) dX2_finish_18 (by decide) ?_
      refine q_pk [1, 0] (ls' := [(0, .ref b), (1, .int (nI (n + 1)))]) rfl ?_
      exact ih (n + 1) s12 (by omega) (h0.tr q12.1) q12.2
