/-! The class's own methods: what is asked of a ROUTINE. -/
/-- what stands in place p: nothing, or the ROUTINE q at b -/
def RA (σ : HS) (p : Int32) : Option (Nat × PS) → Prop
  | none => p < 0 ∨ nI 4 ≤ p ∨ ∃ i, i < 4 ∧ p = nI i ∧ sR σ 4 i = 0
  | some x => ∃ i, i < 4 ∧ p = nI i ∧ sR σ 4 i = x.1 ∧ RTN σ x.1 x.2
section QUER
variable {g : GG} {σ : HS} {b : Nat} {q : PS} {p : Int32}
theorem z8_routineAt0 (hS : SK σ) (h : RA σ p none) : CT g mX8_routineAt 0 0 0 [.ref 1, .int p] σ (PQ σ (.ref 0)) := by
  rcases h with h | h | ⟨i, hi, rfl, h0⟩
  · skip
    refine CT.of (by decide) (Nat.le_of_ble_eq_true rfl) ?_
    refine q_iload_n dX8_routineAt_0 rfl rfl ?_
    refine q_if_lt (tgt := 18) dX8_routineAt_1 (by decide) (fun c1 => ?_) (fun c1 => ?_)
    · skip
      refine q_null dX8_routineAt_18 ?_
      refine q_areturn dX8_routineAt_19 rfl rfl rfl (by omega) (by omega) ?_
      exact ⟨rfl, rfl⟩
    · exact absurd h c1
  · skip
    refine CT.of (by decide) (Nat.le_of_ble_eq_true rfl) ?_
    refine q_iload_n dX8_routineAt_0 rfl rfl ?_
    refine q_if_lt (tgt := 18) dX8_routineAt_1 (by decide) (fun c1 => ?_) (fun c1 => ?_)
    · skip
      refine q_null dX8_routineAt_18 ?_
      refine q_areturn dX8_routineAt_19 rfl rfl rfl (by omega) (by omega) ?_
      exact ⟨rfl, rfl⟩
    · skip
      refine q_iload_n dX8_routineAt_4 rfl rfl ?_
      refine q_iconst (v := nI 4) dX8_routineAt_5 rfl ?_
      refine q_icmp_ge (tgt := 18) dX8_routineAt_6 (by decide) (fun c6 => ?_) (fun c6 => ?_)
      · skip
        refine q_null dX8_routineAt_18 ?_
        refine q_areturn dX8_routineAt_19 rfl rfl rfl (by omega) (by omega) ?_
        exact ⟨rfl, rfl⟩
      · exact absurd h c6
  · skip
    refine CT.of (by decide) (Nat.le_of_ble_eq_true rfl) ?_
    refine q_iload_n dX8_routineAt_0 rfl rfl ?_
    refine q_if_ltN (tgt := 18) dX8_routineAt_1 (by decide) (by omega) ?_
    refine q_iload_n dX8_routineAt_4 rfl rfl ?_
    refine q_iconst (v := nI 4) dX8_routineAt_5 rfl ?_
    refine q_icmp_geN (tgt := 18) dX8_routineAt_6 (by decide) (by omega) (by omega) (fun c6 => ?_) (fun c6 => ?_)
    · exact absurd c6 (by omega)
    · skip
      refine q_aload_n dX8_routineAt_9 rfl rfl rfl ?_
      refine q_getr (r := 4) dX8_routineAt_10 fX8_18 rfl (ty_c hS (by decide) rfl) (hS.2 1 1 4 rfl) ?_
      refine q_iload_n dX8_routineAt_13 rfl rfl ?_
      refine q_aald (r := 0) (j := i) dX8_routineAt_14 (ty_c hS (by decide) rfl) (Or.inr rfl) (ix_n (by omega) (by omega)) h0 ?_
      refine q_goto (tgt := 19) dX8_routineAt_15 (by decide) ?_
      refine q_areturn dX8_routineAt_19 rfl rfl rfl (by omega) (by omega) ?_
      exact ⟨rfl, rfl⟩
theorem z8_routineAt1 (hS : SK σ) {i : Nat} (hi : i < 4) (hb : RB σ b) (h0 : sR σ 4 i = b) : CT g mX8_routineAt 0 0 0 [.ref 1, .int (nI i)] σ (PQ σ (.ref b)) := by
  have hb14 : b = 14 ∨ 99 ≤ b := by rcases hb.1 with h | ⟨j, h⟩ <;> omega
  refine CT.of (by decide) (Nat.le_of_ble_eq_true rfl) ?_
  refine q_iload_n dX8_routineAt_0 rfl rfl ?_
  refine q_if_ltN (tgt := 18) dX8_routineAt_1 (by decide) (by omega) ?_
  refine q_iload_n dX8_routineAt_4 rfl rfl ?_
  refine q_iconst (v := nI 4) dX8_routineAt_5 rfl ?_
  refine q_icmp_geN (tgt := 18) dX8_routineAt_6 (by decide) (by omega) (by omega) (fun c6 => ?_) (fun c6 => ?_)
  · exact absurd c6 (by omega)
  · skip
    refine q_aload_n dX8_routineAt_9 rfl rfl rfl ?_
    refine q_getr (r := 4) dX8_routineAt_10 fX8_18 rfl (ty_c hS (by decide) rfl) (hS.2 1 1 4 rfl) ?_
    refine q_iload_n dX8_routineAt_13 rfl rfl ?_
    refine q_aald (r := b) (j := i) dX8_routineAt_14 (ty_c hS (by decide) rfl) (Or.inr rfl) (ix_n (by omega) (by omega)) h0 ?_
    refine q_goto (tgt := 19) dX8_routineAt_15 (by decide) ?_
    refine q_areturn dX8_routineAt_19 rfl rfl rfl (by omega) (by omega) ?_
    exact ⟨rfl, rfl⟩
theorem z8_isPlacing : CT g mX8_isPlacing 0 0 0 [.int p] σ (PQ σ (.int (bi (decide (¬ p < 0 ∧ p < nI 3))))) := by
  refine CT.of (by decide) (Nat.le_of_ble_eq_true rfl) ?_
  refine q_iload_n dX8_isPlacing_0 rfl rfl ?_
  refine q_if_lt (tgt := 13) dX8_isPlacing_1 (by decide) (fun c1 => ?_) (fun c1 => ?_)
  · skip
    refine q_iconst (v := nI 0) dX8_isPlacing_13 rfl ?_
    refine q_ireturn dX8_isPlacing_14 rfl rfl (by omega) (by omega) ?_
    first | exact fin_t (decide_eq_true ⟨c1, Int32.not_le.mp c6⟩) | exact fin_f (decide_eq_false fun z => z.1 c1) | exact fin_f (decide_eq_false fun z => (Int32.not_lt.mpr c6) z.2)
  · skip
    refine q_iload_n dX8_isPlacing_4 rfl rfl ?_
    refine q_iconst (v := nI 3) dX8_isPlacing_5 rfl ?_
    refine q_icmp_ge (tgt := 13) dX8_isPlacing_6 (by decide) (fun c6 => ?_) (fun c6 => ?_)
    · skip
      refine q_iconst (v := nI 0) dX8_isPlacing_13 rfl ?_
      refine q_ireturn dX8_isPlacing_14 rfl rfl (by omega) (by omega) ?_
      first | exact fin_t (decide_eq_true ⟨c1, Int32.not_le.mp c6⟩) | exact fin_f (decide_eq_false fun z => z.1 c1) | exact fin_f (decide_eq_false fun z => (Int32.not_lt.mpr c6) z.2)
    · skip
      refine q_iconst (v := nI 1) dX8_isPlacing_9 rfl ?_
      refine q_goto (tgt := 14) dX8_isPlacing_10 (by decide) ?_
      refine q_ireturn dX8_isPlacing_14 rfl rfl (by omega) (by omega) ?_
      first | exact fin_t (decide_eq_true ⟨c1, Int32.not_le.mp c6⟩) | exact fin_f (decide_eq_false fun z => z.1 c1) | exact fin_f (decide_eq_false fun z => (Int32.not_lt.mpr c6) z.2)
/-- about -/
def abF (q : PS) (w : Int32) : Int32 := if w = nI 0 then nI (psF q).length else if w = nI 1 then nI (NN q) else if w = nI 2 then nI (psM q).length else if w = nI 3 then nI (NN q - (psS q).length) else if w = nI 4 then nI (psS q).length else -1
theorem z8_about0 (hS : SK σ) (h : RA σ p none) {w : Int32} : CT g mX8_about 1 0 0 [.ref 1, .int p, .int w] σ (PQ σ (.int (-1))) := by
  refine CT.of (by decide) (Nat.le_of_ble_eq_true rfl) ?_
  refine q_aload_n dX8_about_0 rfl rfl rfl ?_
  refine q_iload_n dX8_about_1 rfl rfl ?_
  refine q_callV (As := [.int p]) (rest := []) dX8_about_2 vX8_89 (ty_c hS (by decide) rfl) ⟨by decide, rfl⟩ (z8_routineAt0 hS h) rfl rfl (Nat.le_of_ble_eq_true rfl) (by omega) (by omega) (by omega) (k_p ?_)
  refine q_astore_n dX8_about_5 rfl rfl (by decide) (ls' := [(3, .ref 0), (0, .ref 1), (1, .int p), (2, .int w)]) rfl ?_
  refine q_aload_n dX8_about_6 rfl rfl rfl ?_
  refine q_ifnonnull (tgt := 12) dX8_about_7 (by decide) (fun c7 => ?_) (fun c7 => ?_)
  · exact absurd c7 (by omega)
  · skip
    refine q_iconst (v := (-1 : Int32)) dX8_about_10 rfl ?_
    refine q_ireturn dX8_about_11 rfl rfl (by omega) (by omega) ?_
    exact ⟨rfl, rfl⟩
theorem z8_about1 (hS : SK σ) (h : RA σ p (some (b, q))) {w : Int32} : CT g mX8_about 1 0 0 [.ref 1, .int p, .int w] σ (PQ σ (.int (abF q w))) := by
  obtain ⟨i, hi, rfl, h0, hr⟩ := h
  simp only at h0 hr
  have hb := hr.1
  have hb14 : b = 14 ∨ 99 ≤ b := by rcases hb.1 with h | ⟨j, h⟩ <;> omega
  obtain ⟨-, hbc, hw, hnb, hxx, hF, g12, g13, g14, g16, hsr, g15, hrow, hfx⟩ := id hr
  have hNN := NN_le hbc
  have hNS : (psS q).length ≤ NN q := by unfold NN; omega
  refine CT.of (by decide) (Nat.le_of_ble_eq_true rfl) ?_
  refine q_aload_n dX8_about_0 rfl rfl rfl ?_
  refine q_iload_n dX8_about_1 rfl rfl ?_
  refine q_callV (As := [.int (nI i)]) (rest := []) dX8_about_2 vX8_89 (ty_c hS (by decide) rfl) ⟨by decide, rfl⟩ (z8_routineAt1 hS hi hb h0) rfl rfl (Nat.le_of_ble_eq_true rfl) (by omega) (by omega) (by omega) (k_p ?_)
  refine q_astore_n dX8_about_5 rfl rfl (by decide) (ls' := [(3, .ref b), (0, .ref 1), (1, .int (nI i)), (2, .int w)]) rfl ?_
  refine q_aload_n dX8_about_6 rfl rfl rfl ?_
  refine q_ifnonnull (tgt := 12) dX8_about_7 (by decide) (fun c7 => ?_) (fun c7 => ?_)
  · skip
    refine q_iload_n dX8_about_12 rfl rfl ?_
    by_cases w13_0 : w = nI 0
    · refine q_tableEq 0 (tgt := 48) (off := 35) dX8_about_13 w13_0 (by decide) rfl (by decide) ?_
      refine q_aload_n dX8_about_48 rfl rfl rfl ?_
      refine q_geti (x := nI ((psF q).length)) dX8_about_49 fX8_93 rfl (ty_r hb 0 rfl) g12 ?_
      refine q_ireturn dX8_about_52 rfl rfl (by omega) (by omega) ?_
      unfold abF
      first | (rw [if_pos w13_0]; exact ⟨rfl, rfl⟩) | (rw [if_neg w13_0, if_pos w13_1]; exact ⟨rfl, rfl⟩) | (rw [if_neg w13_0, if_neg w13_1, if_pos w13_2]; exact ⟨rfl, rfl⟩) | (rw [if_neg w13_0, if_neg w13_1, if_neg w13_2, if_pos w13_3]; exact ⟨rfl, rfl⟩) | (rw [if_neg w13_0, if_neg w13_1, if_neg w13_2, if_neg w13_3, if_pos w13_4]; exact ⟨rfl, rfl⟩) | (rw [if_neg w13_0, if_neg w13_1, if_neg w13_2, if_neg w13_3, if_neg w13_4]; exact ⟨rfl, rfl⟩)
    by_cases w13_1 : w = nI 1
    · refine q_tableEq 1 (tgt := 53) (off := 40) dX8_about_13 w13_1 (by decide) rfl (by decide) ?_
      refine q_aload_n dX8_about_53 rfl rfl rfl ?_
      refine q_geti (x := nI (NN q)) dX8_about_54 fX8_86 rfl (ty_r hb 0 rfl) g14 ?_
      refine q_ireturn dX8_about_57 rfl rfl (by omega) (by omega) ?_
      unfold abF
      first | (rw [if_pos w13_0]; exact ⟨rfl, rfl⟩) | (rw [if_neg w13_0, if_pos w13_1]; exact ⟨rfl, rfl⟩) | (rw [if_neg w13_0, if_neg w13_1, if_pos w13_2]; exact ⟨rfl, rfl⟩) | (rw [if_neg w13_0, if_neg w13_1, if_neg w13_2, if_pos w13_3]; exact ⟨rfl, rfl⟩) | (rw [if_neg w13_0, if_neg w13_1, if_neg w13_2, if_neg w13_3, if_pos w13_4]; exact ⟨rfl, rfl⟩) | (rw [if_neg w13_0, if_neg w13_1, if_neg w13_2, if_neg w13_3, if_neg w13_4]; exact ⟨rfl, rfl⟩)
    by_cases w13_2 : w = nI 2
    · refine q_tableEq 2 (tgt := 58) (off := 45) dX8_about_13 w13_2 (by decide) rfl (by decide) ?_
      refine q_aload_n dX8_about_58 rfl rfl rfl ?_
      refine q_getr (r := b + 17) dX8_about_59 fX8_72 rfl (ty_r hb 0 rfl) (hb.2.2 0 10 17 rfl) ?_
      refine q_geti (x := nI ((psM q).length)) dX8_about_62 fX8_96 rfl (ty_r hb 17 rfl) hsr.1 ?_
      refine q_ireturn dX8_about_65 rfl rfl (by omega) (by omega) ?_
      unfold abF
      first | (rw [if_pos w13_0]; exact ⟨rfl, rfl⟩) | (rw [if_neg w13_0, if_pos w13_1]; exact ⟨rfl, rfl⟩) | (rw [if_neg w13_0, if_neg w13_1, if_pos w13_2]; exact ⟨rfl, rfl⟩) | (rw [if_neg w13_0, if_neg w13_1, if_neg w13_2, if_pos w13_3]; exact ⟨rfl, rfl⟩) | (rw [if_neg w13_0, if_neg w13_1, if_neg w13_2, if_neg w13_3, if_pos w13_4]; exact ⟨rfl, rfl⟩) | (rw [if_neg w13_0, if_neg w13_1, if_neg w13_2, if_neg w13_3, if_neg w13_4]; exact ⟨rfl, rfl⟩)
    by_cases w13_3 : w = nI 3
    · refine q_tableEq 3 (tgt := 66) (off := 53) dX8_about_13 w13_3 (by decide) rfl (by decide) ?_
      refine q_aload_n dX8_about_66 rfl rfl rfl ?_
      refine q_geti (x := nI (NN q)) dX8_about_67 fX8_86 rfl (ty_r hb 0 rfl) g14 ?_
      refine q_aload_n dX8_about_70 rfl rfl rfl ?_
      refine q_geti (x := nI ((psS q).length)) dX8_about_71 fX8_99 rfl (ty_r hb 0 rfl) g13 ?_
      refine q_isubN dX8_about_74 (by omega) ?_
      refine q_ireturn dX8_about_75 rfl rfl (by omega) (by omega) ?_
      unfold abF
      first | (rw [if_pos w13_0]; exact ⟨rfl, rfl⟩) | (rw [if_neg w13_0, if_pos w13_1]; exact ⟨rfl, rfl⟩) | (rw [if_neg w13_0, if_neg w13_1, if_pos w13_2]; exact ⟨rfl, rfl⟩) | (rw [if_neg w13_0, if_neg w13_1, if_neg w13_2, if_pos w13_3]; exact ⟨rfl, rfl⟩) | (rw [if_neg w13_0, if_neg w13_1, if_neg w13_2, if_neg w13_3, if_pos w13_4]; exact ⟨rfl, rfl⟩) | (rw [if_neg w13_0, if_neg w13_1, if_neg w13_2, if_neg w13_3, if_neg w13_4]; exact ⟨rfl, rfl⟩)
    by_cases w13_4 : w = nI 4
    · refine q_tableEq 4 (tgt := 76) (off := 63) dX8_about_13 w13_4 (by decide) rfl (by decide) ?_
      refine q_aload_n dX8_about_76 rfl rfl rfl ?_
      refine q_geti (x := nI ((psS q).length)) dX8_about_77 fX8_99 rfl (ty_r hb 0 rfl) g13 ?_
      refine q_ireturn dX8_about_80 rfl rfl (by omega) (by omega) ?_
      unfold abF
      first | (rw [if_pos w13_0]; exact ⟨rfl, rfl⟩) | (rw [if_neg w13_0, if_pos w13_1]; exact ⟨rfl, rfl⟩) | (rw [if_neg w13_0, if_neg w13_1, if_pos w13_2]; exact ⟨rfl, rfl⟩) | (rw [if_neg w13_0, if_neg w13_1, if_neg w13_2, if_pos w13_3]; exact ⟨rfl, rfl⟩) | (rw [if_neg w13_0, if_neg w13_1, if_neg w13_2, if_neg w13_3, if_pos w13_4]; exact ⟨rfl, rfl⟩) | (rw [if_neg w13_0, if_neg w13_1, if_neg w13_2, if_neg w13_3, if_neg w13_4]; exact ⟨rfl, rfl⟩)
    refine q_tableNe 0 4 (tgt := 81) dX8_about_13 (by decide) (fun v h1 h2 => by rcases (show v = 0 ∨ v = 1 ∨ v = 2 ∨ v = 3 ∨ v = 4 by omega) with rfl | rfl | rfl | rfl | rfl <;> assumption) (by decide) ?_
    refine q_iconst (v := (-1 : Int32)) dX8_about_81 rfl ?_
    refine q_ireturn dX8_about_82 rfl rfl (by omega) (by omega) ?_
    unfold abF
    first | (rw [if_pos w13_0]; exact ⟨rfl, rfl⟩) | (rw [if_neg w13_0, if_pos w13_1]; exact ⟨rfl, rfl⟩) | (rw [if_neg w13_0, if_neg w13_1, if_pos w13_2]; exact ⟨rfl, rfl⟩) | (rw [if_neg w13_0, if_neg w13_1, if_neg w13_2, if_pos w13_3]; exact ⟨rfl, rfl⟩) | (rw [if_neg w13_0, if_neg w13_1, if_neg w13_2, if_neg w13_3, if_pos w13_4]; exact ⟨rfl, rfl⟩) | (rw [if_neg w13_0, if_neg w13_1, if_neg w13_2, if_neg w13_3, if_neg w13_4]; exact ⟨rfl, rfl⟩)
  · exact absurd c7 (by omega)
theorem z2_hasNode1 {i : Nat} (hb : RB σ b) (h14 : sI σ b 14 = nI i) {n : Nat} (hn : n < i) (hi : i ≤ 240) : CT g mX2_hasNode 0 0 0 [.ref b, .int (nI n)] σ (PQ σ (.int (bi true))) := by
  have hb14 : b = 14 ∨ 99 ≤ b := by rcases hb.1 with h | ⟨j, h⟩ <;> omega
  refine CT.of (by decide) (Nat.le_of_ble_eq_true rfl) ?_
  refine q_iload_n dX2_hasNode_0 rfl rfl ?_
  refine q_if_ltN (tgt := 16) dX2_hasNode_1 (by decide) (by omega) ?_
  refine q_iload_n dX2_hasNode_4 rfl rfl ?_
  refine q_aload_n dX2_hasNode_5 rfl rfl rfl ?_
  refine q_geti (x := nI i) dX2_hasNode_6 fX2_68 rfl (ty_r hb 0 rfl) h14 ?_
  refine q_icmp_geN (tgt := 16) dX2_hasNode_9 (by decide) (by omega) (by omega) (fun c9 => ?_) (fun c9 => ?_)
  · skip
    refine q_iconst (v := nI 0) dX2_hasNode_16 rfl ?_
    refine q_ireturn dX2_hasNode_17 rfl rfl (by omega) (by omega) ?_
    first | exact ⟨rfl, rfl⟩ | (exfalso; omega)
  · skip
    refine q_iconst (v := nI 1) dX2_hasNode_12 rfl ?_
    refine q_goto (tgt := 17) dX2_hasNode_13 (by decide) ?_
    refine q_ireturn dX2_hasNode_17 rfl rfl (by omega) (by omega) ?_
    first | exact ⟨rfl, rfl⟩ | (exfalso; omega)
theorem z2_hasNode0 {i : Nat} (hb : RB σ b) (h14 : sI σ b 14 = nI i) {n : Int32} (hn : ¬ (¬ n < 0 ∧ n < nI i)) : CT g mX2_hasNode 0 0 0 [.ref b, .int n] σ (PQ σ (.int (bi false))) := by
  have hb14 : b = 14 ∨ 99 ≤ b := by rcases hb.1 with h | ⟨j, h⟩ <;> omega
  refine CT.of (by decide) (Nat.le_of_ble_eq_true rfl) ?_
  refine q_iload_n dX2_hasNode_0 rfl rfl ?_
  refine q_if_lt (tgt := 16) dX2_hasNode_1 (by decide) (fun c1 => ?_) (fun c1 => ?_)
  · skip
    refine q_iconst (v := nI 0) dX2_hasNode_16 rfl ?_
    refine q_ireturn dX2_hasNode_17 rfl rfl (by omega) (by omega) ?_
    first | exact ⟨rfl, rfl⟩ | exact absurd ⟨c1, Int32.not_le.mp c9⟩ hn
  · skip
    refine q_iload_n dX2_hasNode_4 rfl rfl ?_
    refine q_aload_n dX2_hasNode_5 rfl rfl rfl ?_
    refine q_geti (x := nI i) dX2_hasNode_6 fX2_68 rfl (ty_r hb 0 rfl) h14 ?_
    refine q_icmp_ge (tgt := 16) dX2_hasNode_9 (by decide) (fun c9 => ?_) (fun c9 => ?_)
    · skip
      refine q_iconst (v := nI 0) dX2_hasNode_16 rfl ?_
      refine q_ireturn dX2_hasNode_17 rfl rfl (by omega) (by omega) ?_
      first | exact ⟨rfl, rfl⟩ | exact absurd ⟨c1, Int32.not_le.mp c9⟩ hn
    · skip
      refine q_iconst (v := nI 1) dX2_hasNode_12 rfl ?_
      refine q_goto (tgt := 17) dX2_hasNode_13 (by decide) ?_
      refine q_ireturn dX2_hasNode_17 rfl rfl (by omega) (by omega) ?_
      first | exact ⟨rfl, rfl⟩ | exact absurd ⟨c1, Int32.not_le.mp c9⟩ hn
theorem n_in {n : Int32} {i : Nat} (hi : i ≤ 100000) (h : ¬ n < 0 ∧ n < nI i) : ∃ m, m < i ∧ n = nI m := by
  obtain ⟨m, hm, rfl⟩ := nI_of h.1
  exact ⟨m, (nI_ltI (by omega) (by omega)).mp h.2, rfl⟩
theorem n_is {m i : Nat} (hi : i ≤ 100000) (h : m < i) : ¬ nI m < 0 ∧ nI m < nI i := ⟨nI_pos (by omega), nI_lt h (by omega)⟩
def ndF (q : PS) (n : Nat) (w : Int32) : Int32 := if w = nI 0 then nI (rK (rg q n)) else if w = nI 1 then nI (rB (rg q n)) else if w = nI 2 then rS (rg q n) else if w = nI 3 then oW (ld q 0 n) else if w = nI 4 then oW (ld q 1 n) else if w = nI 5 then nI (cntL q n (NN q)) else -1
theorem z8_node0 (hS : SK σ) (h : RA σ p none) {n w : Int32} : CT g mX8_node 1 0 0 [.ref 1, .int p, .int n, .int w] σ (PQ σ (.int (-1))) := by
  refine CT.of (by decide) (Nat.le_of_ble_eq_true rfl) ?_
  refine q_aload_n dX8_node_0 rfl rfl rfl ?_
  refine q_iload_n dX8_node_1 rfl rfl ?_
  refine q_callV (As := [.int p]) (rest := []) dX8_node_2 vX8_89 (ty_c hS (by decide) rfl) ⟨by decide, rfl⟩ (z8_routineAt0 hS h) rfl rfl (Nat.le_of_ble_eq_true rfl) (by omega) (by omega) (by omega) (k_p ?_)
  refine q_astore dX8_node_5 rfl (by decide) (ls' := [(4, .ref 0), (0, .ref 1), (1, .int p), (2, .int n), (3, .int w)]) rfl ?_
  refine q_aload dX8_node_7 rfl rfl ?_
  refine q_ifnull (tgt := 21) dX8_node_9 (by decide) (fun c9 => ?_) (fun c9 => ?_)
  · skip
    refine q_iconst (v := (-1 : Int32)) dX8_node_21 rfl ?_
    refine q_ireturn dX8_node_22 rfl rfl (by omega) (by omega) ?_
    exact ⟨rfl, rfl⟩
  · exact absurd c9 (by omega)
theorem z8_node1 (hS : SK σ) (h : RA σ p (some (b, q))) {n w : Int32} : CT g mX8_node 1 0 0 [.ref 1, .int p, .int n, .int w] σ (PQ σ (.int (if ¬ n < 0 ∧ n < nI (NN q) then ndF q n.toNatClampNeg w else -1))) := by
  obtain ⟨i, hi, rfl, h0, hr⟩ := h
  simp only at h0 hr
  have hb := hr.1
  have hb14 : b = 14 ∨ 99 ≤ b := by rcases hb.1 with h | ⟨j, h⟩ <;> omega
  obtain ⟨-, hbc, hw, hnb, hxx, hF, g12, g13, g14, g16, hsr, g15, hrow, hfx⟩ := id hr
  have hNN := NN_le hbc
  have hNS : (psS q).length ≤ NN q := by unfold NN; omega
  by_cases hn : ¬ n < 0 ∧ n < nI (NN q)
  · rw [if_pos hn]
    obtain ⟨m, hm, rfl⟩ := n_in (by omega) hn
    obtain ⟨⟨r1, r2, r3, r4, r5, r6, -⟩, l0, l1, l2⟩ := hrow m hm
    rw [nI_clamp (by omega)]
    refine CT.of (by decide) (Nat.le_of_ble_eq_true rfl) ?_
    refine q_aload_n dX8_node_0 rfl rfl rfl ?_
    refine q_iload_n dX8_node_1 rfl rfl ?_
    refine q_callV (As := [.int (nI i)]) (rest := []) dX8_node_2 vX8_89 (ty_c hS (by decide) rfl) ⟨by decide, rfl⟩ (z8_routineAt1 hS hi hb h0) rfl rfl (Nat.le_of_ble_eq_true rfl) (by omega) (by omega) (by omega) (k_p ?_)
    refine q_astore dX8_node_5 rfl (by decide) (ls' := [(4, .ref b), (0, .ref 1), (1, .int (nI i)), (2, .int (nI m)), (3, .int w)]) rfl ?_
    refine q_aload dX8_node_7 rfl rfl ?_
    refine q_ifnull (tgt := 21) dX8_node_9 (by decide) (fun c9 => ?_) (fun c9 => ?_)
    · exact absurd c9 (by omega)
    · skip
      refine q_aload dX8_node_12 rfl rfl ?_
      refine q_iload_n dX8_node_14 rfl rfl ?_
      refine q_callV (As := [.int (nI m)]) (rest := []) dX8_node_15 vX8_102 (ty_r hb 0 rfl) ⟨by decide, rfl⟩ (z2_hasNode1 hb g14 hm hNN) rfl rfl (Nat.le_of_ble_eq_true rfl) (by omega) (by omega) (by omega) (k_p ?_)
      refine q_if_neB (tgt := 23) dX8_node_18 (by decide) (fun _ => ?_) (fun h => absurd h (by decide))
      refine q_iload_n dX8_node_23 rfl rfl ?_
      by_cases w24_0 : w = nI 0
      · refine q_tableEq 0 (tgt := 64) (off := 40) dX8_node_24 w24_0 (by decide) rfl (by decide) ?_
        refine q_aload dX8_node_64 rfl rfl ?_
        refine q_getr (r := b + 1) dX8_node_66 fX8_106 rfl (ty_r hb 0 rfl) (hb.2.2 0 0 1 rfl) ?_
        refine q_iload_n dX8_node_69 rfl rfl ?_
        refine q_iald (x := nI (rK (rg q m))) (j := m) dX8_node_70 (ty_r hb 1 rfl) (ix_n (by omega) (by omega)) r1 ?_
        refine q_ireturn dX8_node_71 rfl rfl (by omega) (by omega) ?_
        unfold ndF
        first | (rw [if_pos w24_0]; exact ⟨rfl, rfl⟩) | (rw [if_neg w24_0, if_pos w24_1]; exact ⟨rfl, rfl⟩) | (rw [if_neg w24_0, if_neg w24_1, if_pos w24_2]; exact ⟨rfl, rfl⟩) | (rw [if_neg w24_0, if_neg w24_1, if_neg w24_2, if_pos w24_3]; exact ⟨rfl, rfl⟩) | (rw [if_neg w24_0, if_neg w24_1, if_neg w24_2, if_neg w24_3, if_pos w24_4]; exact ⟨rfl, rfl⟩) | (rw [if_neg w24_0, if_neg w24_1, if_neg w24_2, if_neg w24_3, if_neg w24_4, if_pos w24_5]; exact ⟨rfl, rfl⟩) | (rw [if_neg w24_0, if_neg w24_1, if_neg w24_2, if_neg w24_3, if_neg w24_4, if_neg w24_5]; exact ⟨rfl, rfl⟩)
      by_cases w24_1 : w = nI 1
      · refine q_tableEq 1 (tgt := 72) (off := 48) dX8_node_24 w24_1 (by decide) rfl (by decide) ?_
        refine q_aload dX8_node_72 rfl rfl ?_
        refine q_getr (r := b + 2) dX8_node_74 fX8_110 rfl (ty_r hb 0 rfl) (hb.2.2 0 1 2 rfl) ?_
        refine q_iload_n dX8_node_77 rfl rfl ?_
        refine q_iald (x := nI (rB (rg q m))) (j := m) dX8_node_78 (ty_r hb 2 rfl) (ix_n (by omega) (by omega)) r2 ?_
        refine q_ireturn dX8_node_79 rfl rfl (by omega) (by omega) ?_
        unfold ndF
        first | (rw [if_pos w24_0]; exact ⟨rfl, rfl⟩) | (rw [if_neg w24_0, if_pos w24_1]; exact ⟨rfl, rfl⟩) | (rw [if_neg w24_0, if_neg w24_1, if_pos w24_2]; exact ⟨rfl, rfl⟩) | (rw [if_neg w24_0, if_neg w24_1, if_neg w24_2, if_pos w24_3]; exact ⟨rfl, rfl⟩) | (rw [if_neg w24_0, if_neg w24_1, if_neg w24_2, if_neg w24_3, if_pos w24_4]; exact ⟨rfl, rfl⟩) | (rw [if_neg w24_0, if_neg w24_1, if_neg w24_2, if_neg w24_3, if_neg w24_4, if_pos w24_5]; exact ⟨rfl, rfl⟩) | (rw [if_neg w24_0, if_neg w24_1, if_neg w24_2, if_neg w24_3, if_neg w24_4, if_neg w24_5]; exact ⟨rfl, rfl⟩)
      by_cases w24_2 : w = nI 2
      · refine q_tableEq 2 (tgt := 80) (off := 56) dX8_node_24 w24_2 (by decide) rfl (by decide) ?_
        refine q_aload dX8_node_80 rfl rfl ?_
        refine q_getr (r := b + 7) dX8_node_82 fX8_113 rfl (ty_r hb 0 rfl) (hb.2.2 0 4 7 rfl) ?_
        refine q_iload_n dX8_node_85 rfl rfl ?_
        refine q_iald (x := rS (rg q m)) (j := m) dX8_node_86 (ty_r hb 7 rfl) (ix_n (by omega) (by omega)) r6 ?_
        refine q_ireturn dX8_node_87 rfl rfl (by omega) (by omega) ?_
        unfold ndF
        first | (rw [if_pos w24_0]; exact ⟨rfl, rfl⟩) | (rw [if_neg w24_0, if_pos w24_1]; exact ⟨rfl, rfl⟩) | (rw [if_neg w24_0, if_neg w24_1, if_pos w24_2]; exact ⟨rfl, rfl⟩) | (rw [if_neg w24_0, if_neg w24_1, if_neg w24_2, if_pos w24_3]; exact ⟨rfl, rfl⟩) | (rw [if_neg w24_0, if_neg w24_1, if_neg w24_2, if_neg w24_3, if_pos w24_4]; exact ⟨rfl, rfl⟩) | (rw [if_neg w24_0, if_neg w24_1, if_neg w24_2, if_neg w24_3, if_neg w24_4, if_pos w24_5]; exact ⟨rfl, rfl⟩) | (rw [if_neg w24_0, if_neg w24_1, if_neg w24_2, if_neg w24_3, if_neg w24_4, if_neg w24_5]; exact ⟨rfl, rfl⟩)
      by_cases w24_3 : w = nI 3
      · refine q_tableEq 3 (tgt := 88) (off := 64) dX8_node_24 w24_3 (by decide) rfl (by decide) ?_
        refine q_aload dX8_node_88 rfl rfl ?_
        refine q_getr (r := b + 11) dX8_node_90 fX8_116 rfl (ty_r hb 0 rfl) (hb.2.2 0 6 11 rfl) ?_
        refine q_iconst (v := nI 0) dX8_node_93 rfl ?_
        refine q_aald (r := b + 12) (j := 0) dX8_node_94 (ty_r hb 11 rfl) (Or.inl rfl) (ix_n (by omega) (by omega)) (hb.2.2 11 0 12 rfl) ?_
        refine q_iload_n dX8_node_95 rfl rfl ?_
        refine q_iald (x := oW (ld q 0 m)) (j := m) dX8_node_96 (ty_r hb 12 rfl) (ix_n (by omega) (by omega)) l0 ?_
        refine q_ireturn dX8_node_97 rfl rfl (by omega) (by omega) ?_
        unfold ndF
        first | (rw [if_pos w24_0]; exact ⟨rfl, rfl⟩) | (rw [if_neg w24_0, if_pos w24_1]; exact ⟨rfl, rfl⟩) | (rw [if_neg w24_0, if_neg w24_1, if_pos w24_2]; exact ⟨rfl, rfl⟩) | (rw [if_neg w24_0, if_neg w24_1, if_neg w24_2, if_pos w24_3]; exact ⟨rfl, rfl⟩) | (rw [if_neg w24_0, if_neg w24_1, if_neg w24_2, if_neg w24_3, if_pos w24_4]; exact ⟨rfl, rfl⟩) | (rw [if_neg w24_0, if_neg w24_1, if_neg w24_2, if_neg w24_3, if_neg w24_4, if_pos w24_5]; exact ⟨rfl, rfl⟩) | (rw [if_neg w24_0, if_neg w24_1, if_neg w24_2, if_neg w24_3, if_neg w24_4, if_neg w24_5]; exact ⟨rfl, rfl⟩)
      by_cases w24_4 : w = nI 4
      · refine q_tableEq 4 (tgt := 98) (off := 74) dX8_node_24 w24_4 (by decide) rfl (by decide) ?_
        refine q_aload dX8_node_98 rfl rfl ?_
        refine q_getr (r := b + 11) dX8_node_100 fX8_116 rfl (ty_r hb 0 rfl) (hb.2.2 0 6 11 rfl) ?_
        refine q_iconst (v := nI 1) dX8_node_103 rfl ?_
        refine q_aald (r := b + 13) (j := 1) dX8_node_104 (ty_r hb 11 rfl) (Or.inl rfl) (ix_n (by omega) (by omega)) (hb.2.2 11 1 13 rfl) ?_
        refine q_iload_n dX8_node_105 rfl rfl ?_
        refine q_iald (x := oW (ld q 1 m)) (j := m) dX8_node_106 (ty_r hb 13 rfl) (ix_n (by omega) (by omega)) l1 ?_
        refine q_ireturn dX8_node_107 rfl rfl (by omega) (by omega) ?_
        unfold ndF
        first | (rw [if_pos w24_0]; exact ⟨rfl, rfl⟩) | (rw [if_neg w24_0, if_pos w24_1]; exact ⟨rfl, rfl⟩) | (rw [if_neg w24_0, if_neg w24_1, if_pos w24_2]; exact ⟨rfl, rfl⟩) | (rw [if_neg w24_0, if_neg w24_1, if_neg w24_2, if_pos w24_3]; exact ⟨rfl, rfl⟩) | (rw [if_neg w24_0, if_neg w24_1, if_neg w24_2, if_neg w24_3, if_pos w24_4]; exact ⟨rfl, rfl⟩) | (rw [if_neg w24_0, if_neg w24_1, if_neg w24_2, if_neg w24_3, if_neg w24_4, if_pos w24_5]; exact ⟨rfl, rfl⟩) | (rw [if_neg w24_0, if_neg w24_1, if_neg w24_2, if_neg w24_3, if_neg w24_4, if_neg w24_5]; exact ⟨rfl, rfl⟩)
      by_cases w24_5 : w = nI 5
      · refine q_tableEq 5 (tgt := 108) (off := 84) dX8_node_24 w24_5 (by decide) rfl (by decide) ?_
        refine q_aload dX8_node_108 rfl rfl ?_
        refine q_getr (r := b + 14) dX8_node_110 fX8_120 rfl (ty_r hb 0 rfl) (hb.2.2 0 7 14 rfl) ?_
        refine q_iload_n dX8_node_113 rfl rfl ?_
        refine q_iald (x := nI (cntL q m (NN q))) (j := m) dX8_node_114 (ty_r hb 14 rfl) (ix_n (by omega) (by omega)) l2 ?_
        refine q_ireturn dX8_node_115 rfl rfl (by omega) (by omega) ?_
        unfold ndF
        first | (rw [if_pos w24_0]; exact ⟨rfl, rfl⟩) | (rw [if_neg w24_0, if_pos w24_1]; exact ⟨rfl, rfl⟩) | (rw [if_neg w24_0, if_neg w24_1, if_pos w24_2]; exact ⟨rfl, rfl⟩) | (rw [if_neg w24_0, if_neg w24_1, if_neg w24_2, if_pos w24_3]; exact ⟨rfl, rfl⟩) | (rw [if_neg w24_0, if_neg w24_1, if_neg w24_2, if_neg w24_3, if_pos w24_4]; exact ⟨rfl, rfl⟩) | (rw [if_neg w24_0, if_neg w24_1, if_neg w24_2, if_neg w24_3, if_neg w24_4, if_pos w24_5]; exact ⟨rfl, rfl⟩) | (rw [if_neg w24_0, if_neg w24_1, if_neg w24_2, if_neg w24_3, if_neg w24_4, if_neg w24_5]; exact ⟨rfl, rfl⟩)
      refine q_tableNe 0 5 (tgt := 116) dX8_node_24 (by decide) (fun v h1 h2 => by rcases (show v = 0 ∨ v = 1 ∨ v = 2 ∨ v = 3 ∨ v = 4 ∨ v = 5 by omega) with rfl | rfl | rfl | rfl | rfl | rfl <;> assumption) (by decide) ?_
      refine q_iconst (v := (-1 : Int32)) dX8_node_116 rfl ?_
      refine q_ireturn dX8_node_117 rfl rfl (by omega) (by omega) ?_
      unfold ndF
      first | (rw [if_pos w24_0]; exact ⟨rfl, rfl⟩) | (rw [if_neg w24_0, if_pos w24_1]; exact ⟨rfl, rfl⟩) | (rw [if_neg w24_0, if_neg w24_1, if_pos w24_2]; exact ⟨rfl, rfl⟩) | (rw [if_neg w24_0, if_neg w24_1, if_neg w24_2, if_pos w24_3]; exact ⟨rfl, rfl⟩) | (rw [if_neg w24_0, if_neg w24_1, if_neg w24_2, if_neg w24_3, if_pos w24_4]; exact ⟨rfl, rfl⟩) | (rw [if_neg w24_0, if_neg w24_1, if_neg w24_2, if_neg w24_3, if_neg w24_4, if_pos w24_5]; exact ⟨rfl, rfl⟩) | (rw [if_neg w24_0, if_neg w24_1, if_neg w24_2, if_neg w24_3, if_neg w24_4, if_neg w24_5]; exact ⟨rfl, rfl⟩)
  · rw [if_neg hn]
    refine CT.of (by decide) (Nat.le_of_ble_eq_true rfl) ?_
    refine q_aload_n dX8_node_0 rfl rfl rfl ?_
    refine q_iload_n dX8_node_1 rfl rfl ?_
    refine q_callV (As := [.int (nI i)]) (rest := []) dX8_node_2 vX8_89 (ty_c hS (by decide) rfl) ⟨by decide, rfl⟩ (z8_routineAt1 hS hi hb h0) rfl rfl (Nat.le_of_ble_eq_true rfl) (by omega) (by omega) (by omega) (k_p ?_)
    refine q_astore dX8_node_5 rfl (by decide) (ls' := [(4, .ref b), (0, .ref 1), (1, .int (nI i)), (2, .int n), (3, .int w)]) rfl ?_
    refine q_aload dX8_node_7 rfl rfl ?_
    refine q_ifnull (tgt := 21) dX8_node_9 (by decide) (fun c9 => ?_) (fun c9 => ?_)
    · exact absurd c9 (by omega)
    · skip
      refine q_aload dX8_node_12 rfl rfl ?_
      refine q_iload_n dX8_node_14 rfl rfl ?_
      refine q_callV (As := [.int n]) (rest := []) dX8_node_15 vX8_102 (ty_r hb 0 rfl) ⟨by decide, rfl⟩ (z2_hasNode0 hb g14 hn) rfl rfl (Nat.le_of_ble_eq_true rfl) (by omega) (by omega) (by omega) (k_p ?_)
      refine q_if_neB (tgt := 23) dX8_node_18 (by decide) (fun h => absurd h (by decide)) (fun _ => ?_)
      refine q_iconst (v := (-1 : Int32)) dX8_node_21 rfl ?_
      refine q_ireturn dX8_node_22 rfl rfl (by omega) (by omega) ?_
      exact ⟨rfl, rfl⟩

end QUER
