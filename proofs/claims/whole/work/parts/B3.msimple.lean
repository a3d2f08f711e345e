/-! The model: NAMES, the latest RUN, the tape. -/
def raM (σ : HS) (w : Int32) : Int32 := if w = nI 0 then sI σ 58 51 else if w = nI 1 then sI σ 58 52 else if w = nI 2 then sI σ 58 53 else if w = nI 3 then sI σ 58 54 else if w = nI 4 then sI σ 58 55 else -1
theorem fe_sh {w : Int64} {i : Nat} (hi : i < 8) : ((w >>> ((nI (8 * i)).toInt64 &&& 63)) &&& (255 : Int64)).toInt32 = nI (byF w i) := by
  have e1 : (((nI (8 * i)).toInt64 &&& 63).toBitVec.smod 64).toNat = 8 * i := by
    have : ∀ k : Fin 8, (((nI (8 * k.val)).toInt64 &&& 63).toBitVec.smod 64).toNat = 8 * k.val := by decide +kernel
    exact this ⟨i, hi⟩
  have e2 : (lN (byF w i)).toBitVec.toNat = byF w i := by
    have : ∀ c : Fin 256, (lN c.val).toBitVec.toNat = c.val := by decide +kernel
    exact this ⟨_, byF_lt⟩
  have e : (w >>> ((nI (8 * i)).toInt64 &&& 63)) &&& (255 : Int64) = lN (byF w i) := by
    apply Int64.toBitVec_inj.mp
    apply BitVec.eq_of_toNat_eq
    rw [e2, Int64.toBitVec_and, Int64.toBitVec_shiftRight, BitVec.sshiftRight_eq', e1]
    have e3 : w.toBitVec.sshiftRight (8 * i) &&& (255 : Int64).toBitVec = (w.toBitVec >>> (8 * i)) &&& 255#64 := by
      apply BitVec.eq_of_getLsbD_eq
      intro j hj
      show (w.toBitVec.sshiftRight (8 * i) &&& 255#64).getLsbD j = _
      rw [BitVec.getLsbD_and, BitVec.getLsbD_and, BitVec.getLsbD_sshiftRight, BitVec.getLsbD_ushiftRight]
      by_cases h8 : j < 8
      · rw [if_pos (by omega), decide_eq_false (by omega : ¬ 64 ≤ j)]; simp
      · have : ∀ k : Fin 64, 8 ≤ k.val → (255#64).getLsbD k.val = false := by decide +kernel
        rw [this ⟨j, hj⟩ (by show 8 ≤ j; omega), Bool.and_false, Bool.and_false]
    rw [e3, BitVec.toNat_and, BitVec.toNat_ushiftRight, Nat.shiftRight_eq_div_pow]
    have e4 : (255#64).toNat = 2 ^ 8 - 1 := by decide
    rw [e4, Nat.and_two_pow_sub_one_eq_mod]; rfl
  rw [e]; exact lN_i _
section MSI
variable {g : GG} {σ : HS} {q : PS} {p : Int32}
theorem z9_name1 (hS : SK σ) {k : Nat} (hk : k < 48) {x : Int32} : CT g mX9_name 0 0 0 [.ref 58, .int (nI k), .int x] σ (PQ (uI σ 89 k x) (.int (sI σ 89 k))) := by
  refine CT.of (by decide) (Nat.le_of_ble_eq_true rfl) ?_
  refine q_iload_n dX9_name_0 rfl rfl ?_
  refine q_if_ltN (tgt := 10) dX9_name_1 (by decide) (by omega) ?_
  refine q_iload_n dX9_name_4 rfl rfl ?_
  refine q_bipush (v := nI 47) dX9_name_5 rfl ?_
  refine q_icmp_leN (tgt := 12) dX9_name_7 (by decide) (by omega) (by omega) (fun c7 => ?_) (fun c7 => ?_)
  · skip
    refine q_aload_n dX9_name_12 rfl rfl rfl ?_
    refine q_getr (r := 89) dX9_name_13 fX9_150 rfl (ty_c hS (by decide) rfl) (hS.2 58 45 89 rfl) ?_
    refine q_iload_n dX9_name_16 rfl rfl ?_
    refine q_iald (x := sI σ 89 k) (j := k) dX9_name_17 (ty_c hS (by decide) rfl) (ix_n (by omega) (by omega)) rfl ?_
    refine q_istore_n dX9_name_18 rfl (by decide) (ls' := [(3, .int (sI σ 89 k)), (0, .ref 58), (1, .int (nI k)), (2, .int x)]) rfl ?_
    refine q_aload_n dX9_name_19 rfl rfl rfl ?_
    refine q_getr (r := 89) dX9_name_20 fX9_150 rfl (ty_c hS (by decide) rfl) (hS.2 58 45 89 rfl) ?_
    refine q_iload_n dX9_name_23 rfl rfl ?_
    refine q_iload_n dX9_name_24 rfl rfl ?_
    refine q_iast (j := k) dX9_name_25 (ty_c hS (by decide) rfl) (ix_n (by omega) (by omega)) ?_
    refine q_iload_n dX9_name_26 rfl rfl ?_
    refine q_ireturn dX9_name_27 rfl rfl (by omega) (by omega) ?_
    exact ⟨rfl, rfl⟩
  · exact absurd c7 (by omega)
theorem z9_name0 (hS : SK σ) {k : Int32} (hk : ¬ (¬ k < 0 ∧ k < nI 48)) {x : Int32} : CT g mX9_name 0 0 0 [.ref 58, .int k, .int x] σ (PQ σ (.int 0)) := by
  refine CT.of (by decide) (Nat.le_of_ble_eq_true rfl) ?_
  refine q_iload_n dX9_name_0 rfl rfl ?_
  refine q_if_lt (tgt := 10) dX9_name_1 (by decide) (fun c1 => ?_) (fun c1 => ?_)
  · skip
    refine q_iconst (v := nI 0) dX9_name_10 rfl ?_
    refine q_ireturn dX9_name_11 rfl rfl (by omega) (by omega) ?_
    exact ⟨rfl, rfl⟩
  · skip
    refine q_iload_n dX9_name_4 rfl rfl ?_
    refine q_bipush (v := nI 47) dX9_name_5 rfl ?_
    refine q_icmp_le (tgt := 12) dX9_name_7 (by decide) (fun c7 => ?_) (fun c7 => ?_)
    · exact absurd ⟨c1, (le_lt (by omega)).mp c7⟩ hk
    · skip
      refine q_iconst (v := nI 0) dX9_name_10 rfl ?_
      refine q_ireturn dX9_name_11 rfl rfl (by omega) (by omega) ?_
      exact ⟨rfl, rfl⟩
theorem z9_ran (hS : SK σ) {w : Int32} : CT g mX9_ran 0 0 0 [.ref 58, .int w] σ (PQ σ (.int (raM σ w))) := by
  refine CT.of (by decide) (Nat.le_of_ble_eq_true rfl) ?_
  refine q_iload_n dX9_ran_0 rfl rfl ?_
  by_cases w1_0 : w = nI 0
  · refine q_tableEq 0 (tgt := 36) (off := 35) dX9_ran_1 w1_0 (by decide) rfl (by decide) ?_
    refine q_aload_n dX9_ran_36 rfl rfl rfl ?_
    refine q_geti (x := sI σ 58 51) dX9_ran_37 fX9_168 rfl (ty_c hS (by decide) rfl) rfl ?_
    refine q_ireturn dX9_ran_40 rfl rfl (by omega) (by omega) ?_
    unfold raM
    first | (rw [if_pos w1_0]; exact ⟨rfl, rfl⟩) | (rw [if_neg w1_0, if_pos w1_1]; exact ⟨rfl, rfl⟩) | (rw [if_neg w1_0, if_neg w1_1, if_pos w1_2]; exact ⟨rfl, rfl⟩) | (rw [if_neg w1_0, if_neg w1_1, if_neg w1_2, if_pos w1_3]; exact ⟨rfl, rfl⟩) | (rw [if_neg w1_0, if_neg w1_1, if_neg w1_2, if_neg w1_3, if_pos w1_4]; exact ⟨rfl, rfl⟩) | (rw [if_neg w1_0, if_neg w1_1, if_neg w1_2, if_neg w1_3, if_neg w1_4]; exact ⟨rfl, rfl⟩)
  by_cases w1_1 : w = nI 1
  · refine q_tableEq 1 (tgt := 41) (off := 40) dX9_ran_1 w1_1 (by decide) rfl (by decide) ?_
    refine q_aload_n dX9_ran_41 rfl rfl rfl ?_
    refine q_geti (x := sI σ 58 52) dX9_ran_42 fX9_171 rfl (ty_c hS (by decide) rfl) rfl ?_
    refine q_ireturn dX9_ran_45 rfl rfl (by omega) (by omega) ?_
    unfold raM
    first | (rw [if_pos w1_0]; exact ⟨rfl, rfl⟩) | (rw [if_neg w1_0, if_pos w1_1]; exact ⟨rfl, rfl⟩) | (rw [if_neg w1_0, if_neg w1_1, if_pos w1_2]; exact ⟨rfl, rfl⟩) | (rw [if_neg w1_0, if_neg w1_1, if_neg w1_2, if_pos w1_3]; exact ⟨rfl, rfl⟩) | (rw [if_neg w1_0, if_neg w1_1, if_neg w1_2, if_neg w1_3, if_pos w1_4]; exact ⟨rfl, rfl⟩) | (rw [if_neg w1_0, if_neg w1_1, if_neg w1_2, if_neg w1_3, if_neg w1_4]; exact ⟨rfl, rfl⟩)
  by_cases w1_2 : w = nI 2
  · refine q_tableEq 2 (tgt := 46) (off := 45) dX9_ran_1 w1_2 (by decide) rfl (by decide) ?_
    refine q_aload_n dX9_ran_46 rfl rfl rfl ?_
    refine q_geti (x := sI σ 58 53) dX9_ran_47 fX9_174 rfl (ty_c hS (by decide) rfl) rfl ?_
    refine q_ireturn dX9_ran_50 rfl rfl (by omega) (by omega) ?_
    unfold raM
    first | (rw [if_pos w1_0]; exact ⟨rfl, rfl⟩) | (rw [if_neg w1_0, if_pos w1_1]; exact ⟨rfl, rfl⟩) | (rw [if_neg w1_0, if_neg w1_1, if_pos w1_2]; exact ⟨rfl, rfl⟩) | (rw [if_neg w1_0, if_neg w1_1, if_neg w1_2, if_pos w1_3]; exact ⟨rfl, rfl⟩) | (rw [if_neg w1_0, if_neg w1_1, if_neg w1_2, if_neg w1_3, if_pos w1_4]; exact ⟨rfl, rfl⟩) | (rw [if_neg w1_0, if_neg w1_1, if_neg w1_2, if_neg w1_3, if_neg w1_4]; exact ⟨rfl, rfl⟩)
  by_cases w1_3 : w = nI 3
  · refine q_tableEq 3 (tgt := 51) (off := 50) dX9_ran_1 w1_3 (by decide) rfl (by decide) ?_
    refine q_aload_n dX9_ran_51 rfl rfl rfl ?_
    refine q_geti (x := sI σ 58 54) dX9_ran_52 fX9_177 rfl (ty_c hS (by decide) rfl) rfl ?_
    refine q_ireturn dX9_ran_55 rfl rfl (by omega) (by omega) ?_
    unfold raM
    first | (rw [if_pos w1_0]; exact ⟨rfl, rfl⟩) | (rw [if_neg w1_0, if_pos w1_1]; exact ⟨rfl, rfl⟩) | (rw [if_neg w1_0, if_neg w1_1, if_pos w1_2]; exact ⟨rfl, rfl⟩) | (rw [if_neg w1_0, if_neg w1_1, if_neg w1_2, if_pos w1_3]; exact ⟨rfl, rfl⟩) | (rw [if_neg w1_0, if_neg w1_1, if_neg w1_2, if_neg w1_3, if_pos w1_4]; exact ⟨rfl, rfl⟩) | (rw [if_neg w1_0, if_neg w1_1, if_neg w1_2, if_neg w1_3, if_neg w1_4]; exact ⟨rfl, rfl⟩)
  by_cases w1_4 : w = nI 4
  · refine q_tableEq 4 (tgt := 56) (off := 55) dX9_ran_1 w1_4 (by decide) rfl (by decide) ?_
    refine q_aload_n dX9_ran_56 rfl rfl rfl ?_
    refine q_geti (x := sI σ 58 55) dX9_ran_57 fX9_180 rfl (ty_c hS (by decide) rfl) rfl ?_
    refine q_ireturn dX9_ran_60 rfl rfl (by omega) (by omega) ?_
    unfold raM
    first | (rw [if_pos w1_0]; exact ⟨rfl, rfl⟩) | (rw [if_neg w1_0, if_pos w1_1]; exact ⟨rfl, rfl⟩) | (rw [if_neg w1_0, if_neg w1_1, if_pos w1_2]; exact ⟨rfl, rfl⟩) | (rw [if_neg w1_0, if_neg w1_1, if_neg w1_2, if_pos w1_3]; exact ⟨rfl, rfl⟩) | (rw [if_neg w1_0, if_neg w1_1, if_neg w1_2, if_neg w1_3, if_pos w1_4]; exact ⟨rfl, rfl⟩) | (rw [if_neg w1_0, if_neg w1_1, if_neg w1_2, if_neg w1_3, if_neg w1_4]; exact ⟨rfl, rfl⟩)
  refine q_tableNe 0 4 (tgt := 61) dX9_ran_1 (by decide) (fun v h1 h2 => by rcases (show v = 0 ∨ v = 1 ∨ v = 2 ∨ v = 3 ∨ v = 4 by omega) with rfl | rfl | rfl | rfl | rfl <;> assumption) (by decide) ?_
  refine q_iconst (v := (-1 : Int32)) dX9_ran_61 rfl ?_
  refine q_ireturn dX9_ran_62 rfl rfl (by omega) (by omega) ?_
  unfold raM
  first | (rw [if_pos w1_0]; exact ⟨rfl, rfl⟩) | (rw [if_neg w1_0, if_pos w1_1]; exact ⟨rfl, rfl⟩) | (rw [if_neg w1_0, if_neg w1_1, if_pos w1_2]; exact ⟨rfl, rfl⟩) | (rw [if_neg w1_0, if_neg w1_1, if_neg w1_2, if_pos w1_3]; exact ⟨rfl, rfl⟩) | (rw [if_neg w1_0, if_neg w1_1, if_neg w1_2, if_neg w1_3, if_pos w1_4]; exact ⟨rfl, rfl⟩) | (rw [if_neg w1_0, if_neg w1_1, if_neg w1_2, if_neg w1_3, if_neg w1_4]; exact ⟨rfl, rfl⟩)

theorem z9_told1 (hS : SK σ) {c : Nat} (hc : sI σ 58 53 = nI c) (hc2 : c < 100000) {k : Nat} (hk : k < 100) (hk2 : k < c) : CT g mX9_told 0 0 0 [.ref 58, .int (nI k)] σ (PQ σ (.int (sI σ 94 k))) := by
  refine CT.of (by decide) (Nat.le_of_ble_eq_true rfl) ?_
  refine q_iload_n dX9_told_0 rfl rfl ?_
  refine q_if_ltN (tgt := 18) dX9_told_1 (by decide) (by omega) ?_
  refine q_iload_n dX9_told_4 rfl rfl ?_
  refine q_aload_n dX9_told_5 rfl rfl rfl ?_
  refine q_geti (x := nI c) dX9_told_6 fX9_174 rfl (ty_c hS (by decide) rfl) hc ?_
  refine q_icmp_geN (tgt := 18) dX9_told_9 (by decide) (by omega) (by omega) (fun c9 => ?_) (fun c9 => ?_)
  · exact absurd c9 (by omega)
  · skip
    refine q_iload_n dX9_told_12 rfl rfl ?_
    refine q_bipush (v := nI 100) dX9_told_13 rfl ?_
    refine q_icmp_ltN (tgt := 22) dX9_told_15 (by decide) (by omega) (by omega) (fun c15 => ?_) (fun c15 => ?_)
    · skip
      refine q_aload_n dX9_told_22 rfl rfl rfl ?_
      refine q_getr (r := 94) dX9_told_23 fX9_165 rfl (ty_c hS (by decide) rfl) (hS.2 58 50 94 rfl) ?_
      refine q_iload_n dX9_told_26 rfl rfl ?_
      refine q_iald (x := sI σ 94 k) (j := k) dX9_told_27 (ty_c hS (by decide) rfl) (ix_n (by omega) (by omega)) rfl ?_
      refine q_ireturn dX9_told_28 rfl rfl (by omega) (by omega) ?_
      exact ⟨rfl, rfl⟩
    · exact absurd c15 (by omega)
theorem z9_told0 (hS : SK σ) {c : Nat} (hc : sI σ 58 53 = nI c) (hc2 : c < 100000) {k : Int32} (hk : ¬ (¬ k < 0 ∧ k < nI 100 ∧ k < nI c)) : CT g mX9_told 0 0 0 [.ref 58, .int k] σ (PQ σ (.int 0)) := by
  refine CT.of (by decide) (Nat.le_of_ble_eq_true rfl) ?_
  refine q_iload_n dX9_told_0 rfl rfl ?_
  refine q_if_lt (tgt := 18) dX9_told_1 (by decide) (fun c1 => ?_) (fun c1 => ?_)
  · skip
    refine q_iconst (v := nI 0) dX9_told_18 rfl ?_
    refine q_goto (tgt := 28) dX9_told_19 (by decide) ?_
    refine q_ireturn dX9_told_28 rfl rfl (by omega) (by omega) ?_
    exact ⟨rfl, rfl⟩
  · skip
    refine q_iload_n dX9_told_4 rfl rfl ?_
    refine q_aload_n dX9_told_5 rfl rfl rfl ?_
    refine q_geti (x := nI c) dX9_told_6 fX9_174 rfl (ty_c hS (by decide) rfl) hc ?_
    refine q_icmp_ge (tgt := 18) dX9_told_9 (by decide) (fun c9 => ?_) (fun c9 => ?_)
    · skip
      refine q_iconst (v := nI 0) dX9_told_18 rfl ?_
      refine q_goto (tgt := 28) dX9_told_19 (by decide) ?_
      refine q_ireturn dX9_told_28 rfl rfl (by omega) (by omega) ?_
      exact ⟨rfl, rfl⟩
    · skip
      refine q_iload_n dX9_told_12 rfl rfl ?_
      refine q_bipush (v := nI 100) dX9_told_13 rfl ?_
      refine q_icmp_lt (tgt := 22) dX9_told_15 (by decide) (fun c15 => ?_) (fun c15 => ?_)
      · exact absurd ⟨c1, c15, Int32.not_le.mp c9⟩ hk
      · skip
        refine q_iconst (v := nI 0) dX9_told_18 rfl ?_
        refine q_goto (tgt := 28) dX9_told_19 (by decide) ?_
        refine q_ireturn dX9_told_28 rfl rfl (by omega) (by omega) ?_
        exact ⟨rfl, rfl⟩
theorem z9_value1 (hS : SK σ) {k : Nat} (hk : k < 48) : CT g mX9_value 0 0 0 [.ref 58, .int (nI k)] σ (PQ σ (.int (sI σ 90 k))) := by
  refine CT.of (by decide) (Nat.le_of_ble_eq_true rfl) ?_
  refine q_iload_n dX9_value_0 rfl rfl ?_
  refine q_if_ltN (tgt := 10) dX9_value_1 (by decide) (by omega) ?_
  refine q_iload_n dX9_value_4 rfl rfl ?_
  refine q_bipush (v := nI 47) dX9_value_5 rfl ?_
  refine q_icmp_leN (tgt := 14) dX9_value_7 (by decide) (by omega) (by omega) (fun c7 => ?_) (fun c7 => ?_)
  · skip
    refine q_aload_n dX9_value_14 rfl rfl rfl ?_
    refine q_getr (r := 90) dX9_value_15 fX9_153 rfl (ty_c hS (by decide) rfl) (hS.2 58 46 90 rfl) ?_
    refine q_iload_n dX9_value_18 rfl rfl ?_
    refine q_iald (x := sI σ 90 k) (j := k) dX9_value_19 (ty_c hS (by decide) rfl) (ix_n (by omega) (by omega)) rfl ?_
    refine q_ireturn dX9_value_20 rfl rfl (by omega) (by omega) ?_
    exact ⟨rfl, rfl⟩
  · exact absurd c7 (by omega)
theorem z9_value0 (hS : SK σ) {k : Int32} (hk : ¬ (¬ k < 0 ∧ k < nI 48)) : CT g mX9_value 0 0 0 [.ref 58, .int k] σ (PQ σ (.int 0)) := by
  refine CT.of (by decide) (Nat.le_of_ble_eq_true rfl) ?_
  refine q_iload_n dX9_value_0 rfl rfl ?_
  refine q_if_lt (tgt := 10) dX9_value_1 (by decide) (fun c1 => ?_) (fun c1 => ?_)
  · skip
    refine q_iconst (v := nI 0) dX9_value_10 rfl ?_
    refine q_goto (tgt := 20) dX9_value_11 (by decide) ?_
    refine q_ireturn dX9_value_20 rfl rfl (by omega) (by omega) ?_
    exact ⟨rfl, rfl⟩
  · skip
    refine q_iload_n dX9_value_4 rfl rfl ?_
    refine q_bipush (v := nI 47) dX9_value_5 rfl ?_
    refine q_icmp_le (tgt := 14) dX9_value_7 (by decide) (fun c7 => ?_) (fun c7 => ?_)
    · exact absurd ⟨c1, (le_lt (by omega)).mp c7⟩ hk
    · skip
      refine q_iconst (v := nI 0) dX9_value_10 rfl ?_
      refine q_goto (tgt := 20) dX9_value_11 (by decide) ?_
      refine q_ireturn dX9_value_20 rfl rfl (by omega) (by omega) ?_
      exact ⟨rfl, rfl⟩
theorem z9_row1 (hS : SK σ) {r k : Nat} (hr : r < 2) (hk : k < 8) : CT g mX9_row 0 0 0 [.ref 58, .int (nI r), .int (nI k)] σ (PQ σ (.int (sI σ 91 (8 * r + k)))) := by
  refine CT.of (by decide) (Nat.le_of_ble_eq_true rfl) ?_
  refine q_iload_n dX9_row_0 rfl rfl ?_
  refine q_if_ltN (tgt := 19) dX9_row_1 (by decide) (by omega) ?_
  refine q_iload_n dX9_row_4 rfl rfl ?_
  refine q_iconst (v := nI 1) dX9_row_5 rfl ?_
  refine q_icmp_gtN (tgt := 19) dX9_row_6 (by decide) (by omega) (by omega) (fun c6 => ?_) (fun c6 => ?_)
  · exact absurd c6 (by omega)
  · skip
    refine q_iload_n dX9_row_9 rfl rfl ?_
    refine q_if_ltN (tgt := 19) dX9_row_10 (by decide) (by omega) ?_
    refine q_iload_n dX9_row_13 rfl rfl ?_
    refine q_bipush (v := nI 7) dX9_row_14 rfl ?_
    refine q_icmp_leN (tgt := 23) dX9_row_16 (by decide) (by omega) (by omega) (fun c16 => ?_) (fun c16 => ?_)
    · skip
      refine q_aload_n dX9_row_23 rfl rfl rfl ?_
      refine q_getr (r := 91) dX9_row_24 fX9_156 rfl (ty_c hS (by decide) rfl) (hS.2 58 47 91 rfl) ?_
      refine q_bipush (v := nI 8) dX9_row_27 rfl ?_
      refine q_iload_n dX9_row_29 rfl rfl ?_
      refine q_imulN dX9_row_30 ?_
      refine q_iload_n dX9_row_31 rfl rfl ?_
      refine q_iaddN dX9_row_32 ?_
      refine q_iald (x := sI σ 91 ((8 * r) + k)) (j := ((8 * r) + k)) dX9_row_33 (ty_c hS (by decide) rfl) (ix_n (by omega) (by omega)) rfl ?_
      refine q_ireturn dX9_row_34 rfl rfl (by omega) (by omega) ?_
      exact ⟨rfl, rfl⟩
    · exact absurd c16 (by omega)
theorem z9_row0 (hS : SK σ) {r k : Int32} (hk : ¬ ((¬ r < 0 ∧ r < nI 2) ∧ ¬ k < 0 ∧ k < nI 8)) : CT g mX9_row 0 0 0 [.ref 58, .int r, .int k] σ (PQ σ (.int 0)) := by
  refine CT.of (by decide) (Nat.le_of_ble_eq_true rfl) ?_
  refine q_iload_n dX9_row_0 rfl rfl ?_
  refine q_if_lt (tgt := 19) dX9_row_1 (by decide) (fun c1 => ?_) (fun c1 => ?_)
  · skip
    refine q_iconst (v := nI 0) dX9_row_19 rfl ?_
    refine q_goto (tgt := 34) dX9_row_20 (by decide) ?_
    refine q_ireturn dX9_row_34 rfl rfl (by omega) (by omega) ?_
    exact ⟨rfl, rfl⟩
  · skip
    refine q_iload_n dX9_row_4 rfl rfl ?_
    refine q_iconst (v := nI 1) dX9_row_5 rfl ?_
    refine q_icmp_gt (tgt := 19) dX9_row_6 (by decide) (fun c6 => ?_) (fun c6 => ?_)
    · skip
      refine q_iconst (v := nI 0) dX9_row_19 rfl ?_
      refine q_goto (tgt := 34) dX9_row_20 (by decide) ?_
      refine q_ireturn dX9_row_34 rfl rfl (by omega) (by omega) ?_
      exact ⟨rfl, rfl⟩
    · skip
      refine q_iload_n dX9_row_9 rfl rfl ?_
      refine q_if_lt (tgt := 19) dX9_row_10 (by decide) (fun c10 => ?_) (fun c10 => ?_)
      · skip
        refine q_iconst (v := nI 0) dX9_row_19 rfl ?_
        refine q_goto (tgt := 34) dX9_row_20 (by decide) ?_
        refine q_ireturn dX9_row_34 rfl rfl (by omega) (by omega) ?_
        exact ⟨rfl, rfl⟩
      · skip
        refine q_iload_n dX9_row_13 rfl rfl ?_
        refine q_bipush (v := nI 7) dX9_row_14 rfl ?_
        refine q_icmp_le (tgt := 23) dX9_row_16 (by decide) (fun c16 => ?_) (fun c16 => ?_)
        · exact absurd ⟨⟨c1, (le_lt (by omega)).mp (Int32.not_lt.mp c6)⟩, c10, (le_lt (by omega)).mp c16⟩ hk
        · skip
          refine q_iconst (v := nI 0) dX9_row_19 rfl ?_
          refine q_goto (tgt := 34) dX9_row_20 (by decide) ?_
          refine q_ireturn dX9_row_34 rfl rfl (by omega) (by omega) ?_
          exact ⟨rfl, rfl⟩
theorem z9_worked1 (hS : SK σ) {k : Nat} (hk : k < 32) : CT g mX9_worked 0 0 0 [.ref 58, .int (nI k)] σ (PQ σ (.int (sI σ 93 k))) := by
  refine CT.of (by decide) (Nat.le_of_ble_eq_true rfl) ?_
  refine q_iload_n dX9_worked_0 rfl rfl ?_
  refine q_if_ltN (tgt := 10) dX9_worked_1 (by decide) (by omega) ?_
  refine q_iload_n dX9_worked_4 rfl rfl ?_
  refine q_bipush (v := nI 31) dX9_worked_5 rfl ?_
  refine q_icmp_leN (tgt := 14) dX9_worked_7 (by decide) (by omega) (by omega) (fun c7 => ?_) (fun c7 => ?_)
  · skip
    refine q_aload_n dX9_worked_14 rfl rfl rfl ?_
    refine q_getr (r := 93) dX9_worked_15 fX9_162 rfl (ty_c hS (by decide) rfl) (hS.2 58 49 93 rfl) ?_
    refine q_iload_n dX9_worked_18 rfl rfl ?_
    refine q_iald (x := sI σ 93 k) (j := k) dX9_worked_19 (ty_c hS (by decide) rfl) (ix_n (by omega) (by omega)) rfl ?_
    refine q_ireturn dX9_worked_20 rfl rfl (by omega) (by omega) ?_
    exact ⟨rfl, rfl⟩
  · exact absurd c7 (by omega)
theorem z9_worked0 (hS : SK σ) {k : Int32} (hk : ¬ (¬ k < 0 ∧ k < nI 32)) : CT g mX9_worked 0 0 0 [.ref 58, .int k] σ (PQ σ (.int (-1))) := by
  refine CT.of (by decide) (Nat.le_of_ble_eq_true rfl) ?_
  refine q_iload_n dX9_worked_0 rfl rfl ?_
  refine q_if_lt (tgt := 10) dX9_worked_1 (by decide) (fun c1 => ?_) (fun c1 => ?_)
  · skip
    refine q_iconst (v := (-1 : Int32)) dX9_worked_10 rfl ?_
    refine q_goto (tgt := 20) dX9_worked_11 (by decide) ?_
    refine q_ireturn dX9_worked_20 rfl rfl (by omega) (by omega) ?_
    exact ⟨rfl, rfl⟩
  · skip
    refine q_iload_n dX9_worked_4 rfl rfl ?_
    refine q_bipush (v := nI 31) dX9_worked_5 rfl ?_
    refine q_icmp_le (tgt := 14) dX9_worked_7 (by decide) (fun c7 => ?_) (fun c7 => ?_)
    · exact absurd ⟨c1, (le_lt (by omega)).mp c7⟩ hk
    · skip
      refine q_iconst (v := (-1 : Int32)) dX9_worked_10 rfl ?_
      refine q_goto (tgt := 20) dX9_worked_11 (by decide) ?_
      refine q_ireturn dX9_worked_20 rfl rfl (by omega) (by omega) ?_
      exact ⟨rfl, rfl⟩
theorem z9_wrong (hS : SK σ) : CT g mX9_wrong 0 0 0 [.ref 58] σ (PQ σ (.int (sI σ 58 34))) := by
  refine CT.of (by decide) (Nat.le_of_ble_eq_true rfl) ?_
  refine q_aload_n dX9_wrong_0 rfl rfl rfl ?_
  refine q_geti (x := sI σ 58 34) dX9_wrong_1 fX9_116 rfl (ty_c hS (by decide) rfl) rfl ?_
  refine q_ireturn dX9_wrong_4 rfl rfl (by omega) (by omega) ?_
  exact ⟨rfl, rfl⟩
theorem z9_cut1 (hS : SK σ) {L k : Nat} (hL : sI σ 58 1 = nI L) (hL2 : L ≤ 3000) (hk : k ≤ L) : CT g mX9_cut 0 0 0 [.ref 58, .int (nI k)] σ (PQ (uI σ 58 1 (nI k)) (.int (nI k))) := by
  refine CT.of (by decide) (Nat.le_of_ble_eq_true rfl) ?_
  refine q_iload_n dX9_cut_0 rfl rfl ?_
  refine q_if_ltN (tgt := 12) dX9_cut_1 (by decide) (by omega) ?_
  refine q_iload_n dX9_cut_4 rfl rfl ?_
  refine q_aload_n dX9_cut_5 rfl rfl rfl ?_
  refine q_geti (x := nI L) dX9_cut_6 fX9_13 rfl (ty_c hS (by decide) rfl) hL ?_
  refine q_icmp_leN (tgt := 15) dX9_cut_9 (by decide) (by omega) (by omega) (fun c9 => ?_) (fun c9 => ?_)
  · skip
    refine q_aload_n dX9_cut_15 rfl rfl rfl ?_
    refine q_iload_n dX9_cut_16 rfl rfl ?_
    refine q_puti dX9_cut_17 fX9_13 rfl (Or.inl rfl) (ty_c hS (by decide) rfl) ?_
    refine q_iload_n dX9_cut_20 rfl rfl ?_
    refine q_ireturn dX9_cut_21 rfl rfl (by omega) (by omega) ?_
    exact ⟨rfl, rfl⟩
  · exact absurd c9 (by omega)
theorem z9_cut0 (hS : SK σ) {L : Nat} (hL : sI σ 58 1 = nI L) (hL2 : L ≤ 3000) {k : Int32} (hk : ¬ (¬ k < 0 ∧ k < nI (L + 1))) : CT g mX9_cut 0 0 0 [.ref 58, .int k] σ (PQ σ (.int (-2))) := by
  refine CT.of (by decide) (Nat.le_of_ble_eq_true rfl) ?_
  refine q_iload_n dX9_cut_0 rfl rfl ?_
  refine q_if_lt (tgt := 12) dX9_cut_1 (by decide) (fun c1 => ?_) (fun c1 => ?_)
  · skip
    refine q_bipush (v := (-2 : Int32)) dX9_cut_12 rfl ?_
    refine q_ireturn dX9_cut_14 rfl rfl (by omega) (by omega) ?_
    exact ⟨rfl, rfl⟩
  · skip
    refine q_iload_n dX9_cut_4 rfl rfl ?_
    refine q_aload_n dX9_cut_5 rfl rfl rfl ?_
    refine q_geti (x := nI L) dX9_cut_6 fX9_13 rfl (ty_c hS (by decide) rfl) hL ?_
    refine q_icmp_le (tgt := 15) dX9_cut_9 (by decide) (fun c9 => ?_) (fun c9 => ?_)
    · exact absurd ⟨c1, (le_lt (by omega)).mp c9⟩ hk
    · skip
      refine q_bipush (v := (-2 : Int32)) dX9_cut_12 rfl ?_
      refine q_ireturn dX9_cut_14 rfl rfl (by omega) (by omega) ?_
      exact ⟨rfl, rfl⟩
theorem z9_tape1 (hS : SK σ) {L : Nat} {T : Nat → Nat} (h : MTX σ L T) {k : Nat} (hk : k < L) : CT g mX9_tape 0 0 0 [.ref 58, .int (nI k)] σ (PQ σ (.int (nI (T k)))) := by
  obtain ⟨t1, t2, t3⟩ := h
  have h2 := (t3 k hk).1
  refine CT.of (by decide) (Nat.le_of_ble_eq_true rfl) ?_
  refine q_iload_n dX9_tape_0 rfl rfl ?_
  refine q_if_ltN (tgt := 12) dX9_tape_1 (by decide) (by omega) ?_
  refine q_iload_n dX9_tape_4 rfl rfl ?_
  refine q_aload_n dX9_tape_5 rfl rfl rfl ?_
  refine q_geti (x := nI L) dX9_tape_6 fX9_13 rfl (ty_c hS (by decide) rfl) t1 ?_
  refine q_icmp_ltN (tgt := 16) dX9_tape_9 (by decide) (by omega) (by omega) (fun c9 => ?_) (fun c9 => ?_)
  · skip
    refine q_aload_n dX9_tape_16 rfl rfl rfl ?_
    refine q_getr (r := 59) dX9_tape_17 fX9_7 rfl (ty_c hS (by decide) rfl) (hS.2 58 0 59 rfl) ?_
    refine q_iload_n dX9_tape_20 rfl rfl ?_
    refine q_iald (x := nI (T k)) (j := k) dX9_tape_21 (ty_c hS (by decide) rfl) (ix_n (by omega) (by omega)) h2 ?_
    refine q_ireturn dX9_tape_22 rfl rfl (by omega) (by omega) ?_
    exact ⟨rfl, rfl⟩
  · exact absurd c9 (by omega)
theorem z9_tape0 (hS : SK σ) {L : Nat} {T : Nat → Nat} (h : MTX σ L T) {k : Int32} (hk : ¬ (¬ k < 0 ∧ k < nI L)) : CT g mX9_tape 0 0 0 [.ref 58, .int k] σ (PQ σ (.int (-1))) := by
  obtain ⟨t1, t2, t3⟩ := h
  refine CT.of (by decide) (Nat.le_of_ble_eq_true rfl) ?_
  refine q_iload_n dX9_tape_0 rfl rfl ?_
  refine q_if_lt (tgt := 12) dX9_tape_1 (by decide) (fun c1 => ?_) (fun c1 => ?_)
  · skip
    refine q_iconst (v := (-1 : Int32)) dX9_tape_12 rfl ?_
    refine q_goto (tgt := 22) dX9_tape_13 (by decide) ?_
    refine q_ireturn dX9_tape_22 rfl rfl (by omega) (by omega) ?_
    exact ⟨rfl, rfl⟩
  · skip
    refine q_iload_n dX9_tape_4 rfl rfl ?_
    refine q_aload_n dX9_tape_5 rfl rfl rfl ?_
    refine q_geti (x := nI L) dX9_tape_6 fX9_13 rfl (ty_c hS (by decide) rfl) t1 ?_
    refine q_icmp_lt (tgt := 16) dX9_tape_9 (by decide) (fun c9 => ?_) (fun c9 => ?_)
    · exact absurd ⟨c1, c9⟩ hk
    · skip
      refine q_iconst (v := (-1 : Int32)) dX9_tape_12 rfl ?_
      refine q_goto (tgt := 22) dX9_tape_13 (by decide) ?_
      refine q_ireturn dX9_tape_22 rfl rfl (by omega) (by omega) ?_
      exact ⟨rfl, rfl⟩
/-- the tape is changed -/
def tpq (h i : Nat) : Prop := (h = 58 ∧ i = 1) ∨ h = 59
theorem y9_feed {σ0 : HS} (hS0 : SK σ0) {w : Int64} {L m : Nat} {T : Nat → Nat} (hm : m ≤ 8) (hL : L + m ≤ 3000) {n0 : Int32} : ∀ (k : Nat) (σ : HS), k ≤ m → FR9 tpq σ0 σ → MTX σ (L + (m - k)) (feT T L w m) → WA g mX9_feed 0 0 0 (ZM g (fun r σ' => r = some (.int (nI (L + m))) ∧ FR9 tpq σ0 σ' ∧ MTX σ' (L + m) (feT T L w m)) 0 0) 0 0 34 [(0, .ref 58), (1, .long w), (3, .int n0), (4, .int (dn k))] [] σ := by
  intro k
  induction k with
  | zero =>
    intro σ hk h1 h2
    have hS := SK.fq h1 hS0
    have t1 := h2.1
    rw [Nat.sub_zero] at t1 h2
    refine q_iload dX9_feed_34 rfl ?_
    refine q_if_lt1 (tgt := 76) dX9_feed_36 (by decide) (by decide) ?_
    refine q_aload_n dX9_feed_76 rfl rfl rfl ?_
    refine q_geti (x := nI (L + m)) dX9_feed_77 fX9_13 rfl (ty_c hS (by decide) rfl) t1 ?_
    refine q_ireturn dX9_feed_80 rfl rfl (by omega) (by omega) ?_
    exact ⟨rfl, h1, h2⟩
  | succ k ih =>
    intro σ hk h1 h2
    have hS := SK.fq h1 hS0
    obtain ⟨t1, t2, t3⟩ := h2
    have nx : WA g mX9_feed 0 0 0 (ZM g (fun r σ' => r = some (.int (nI (L + m))) ∧ FR9 tpq σ0 σ' ∧ MTX σ' (L + m) (feT T L w m)) 0 0) 0 0 34 [(0, .ref 58), (1, .long w), (3, .int n0), (4, .int (dn k))] [] (uI (uI σ 59 (L + (m - (k + 1))) (nI (byF w k))) 58 1 (nI (L + (m - (k + 1)) + 1))) := by
      refine ih _ (by omega) ((h1.uI (Or.inr rfl)).uI (Or.inl ⟨rfl, rfl⟩)) ⟨by rw [uI_self]; exact congrArg nI (by omega), by omega, fun i hi => ?_⟩
      rw [rd_off (by omega)]
      by_cases e : i = L + (m - (k + 1))
      · rw [e, uI_self]
        have : feT T L w m (L + (m - (k + 1))) = byF w k := by
          unfold feT
          rw [if_neg (by omega)]
          congr 1; omega
        rw [this]
        exact ⟨rfl, byF_lt⟩
      · rw [rd_ne e]
        exact t3 i (by omega)
    refine q_iload dX9_feed_34 rfl ?_
    refine q_if_ltN (tgt := 76) dX9_feed_36 (by decide) (by omega) ?_
    refine q_aload_n dX9_feed_39 rfl rfl rfl ?_
    refine q_getr (r := 59) dX9_feed_40 fX9_7 rfl (ty_c hS (by decide) rfl) (hS.2 58 0 59 rfl) ?_
    refine q_aload_n dX9_feed_43 rfl rfl rfl ?_
    refine q_geti (x := nI (L + (m - (k + 1)))) dX9_feed_44 fX9_13 rfl (ty_c hS (by decide) rfl) t1 ?_
    refine q_lload_n dX9_feed_47 rfl rfl ?_
    refine q_bipush (v := nI 8) dX9_feed_48 rfl ?_
    refine q_iload dX9_feed_50 rfl ?_
    refine q_imulN dX9_feed_52 ?_
    refine q_lshr (v := w >>> ((nI (8 * k)).toInt64 &&& 63)) dX9_feed_53 rfl ?_
    refine q_ldc2 (v := (255 : Int64)) dX9_feed_54 kX9_202 ?_
    refine q_land dX9_feed_57 ?_
    refine q_l2i (v := ((w >>> ((nI (8 * k)).toInt64 &&& 63)) &&& (255 : Int64)).toInt32) dX9_feed_58 rfl ?_
    refine q_top (y := nI (byF w k)) (fe_sh (by omega)) ?_
    refine q_iast (j := (L + (m - (k + 1)))) dX9_feed_59 (ty_c hS (by decide) rfl) (ix_n (by omega) (by omega)) ?_
    refine q_aload_n dX9_feed_60 rfl rfl rfl ?_
    refine q_dup dX9_feed_61 rfl ?_
    refine q_geti (x := nI (L + (m - (k + 1)))) dX9_feed_62 fX9_13 rfl (ty_c hS (by decide) rfl) (Eq.trans (rd_off (by decide)) t1) ?_
    refine q_iconst (v := nI 1) dX9_feed_65 rfl ?_
    refine q_iaddN dX9_feed_66 ?_
    refine q_puti dX9_feed_67 fX9_13 rfl (Or.inl rfl) (ty_c hS (by decide) rfl) ?_
    refine q_iinc (v := dn k) dX9_feed_70 rfl (dn_inc k) (by decide) (ls' := [(4, .int (dn k)), (0, .ref 58), (1, .long w), (3, .int n0)]) rfl ?_
    refine q_goto (tgt := 34) dX9_feed_73 (by decide) ?_
    refine q_pk [1, 2, 3, 0] (ls' := [(0, .ref 58), (1, .long w), (3, .int n0), (4, .int (dn k))]) rfl ?_
    exact nx
theorem z9_feed1 (hS : SK σ) {w : Int64} {L m : Nat} {T : Nat → Nat} (hT : MTX σ L T) (h1 : 1 ≤ m) (hm : m ≤ 8) (hL : L + m ≤ 3000) : CT g mX9_feed 0 0 0 [.ref 58, .long w, .int (nI m)] σ (fun r σ' => r = some (.int (nI (L + m))) ∧ FR9 tpq σ σ' ∧ MTX σ' (L + m) (feT T L w m)) := by
  have t1 := hT.1
  refine CT.of (by decide) (Nat.le_of_ble_eq_true rfl) ?_
  refine q_iload_n dX9_feed_0 rfl rfl ?_
  refine q_iconst (v := nI 1) dX9_feed_1 rfl ?_
  refine q_icmp_ltN (tgt := 11) dX9_feed_2 (by decide) (by omega) (by omega) (fun c2 => ?_) (fun c2 => ?_)
  · exact absurd c2 (by omega)
  · skip
    refine q_iload_n dX9_feed_5 rfl rfl ?_
    refine q_bipush (v := nI 8) dX9_feed_6 rfl ?_
    refine q_icmp_leN (tgt := 14) dX9_feed_8 (by decide) (by omega) (by omega) (fun c8 => ?_) (fun c8 => ?_)
    · skip
      refine q_aload_n dX9_feed_14 rfl rfl rfl ?_
      refine q_geti (x := nI L) dX9_feed_15 fX9_13 rfl (ty_c hS (by decide) rfl) t1 ?_
      refine q_iload_n dX9_feed_18 rfl rfl ?_
      refine q_iaddN dX9_feed_19 ?_
      refine q_sipush (v := nI 3000) dX9_feed_20 rfl ?_
      refine q_icmp_leN (tgt := 29) dX9_feed_23 (by decide) (by omega) (by omega) (fun c23 => ?_) (fun c23 => ?_)
      · skip
        refine q_iload_n dX9_feed_29 rfl rfl ?_
        refine q_iconst (v := nI 1) dX9_feed_30 rfl ?_
        refine q_isubN dX9_feed_31 (by omega) ?_
        refine q_top (y := dn m) ((dn_pos h1).symm) ?_
        refine q_istore dX9_feed_32 (by decide) (ls' := [(4, .int (dn m)), (0, .ref 58), (1, .long w), (3, .int (nI m))]) rfl ?_
        refine q_pk [1, 2, 3, 0] (ls' := [(0, .ref 58), (1, .long w), (3, .int (nI m)), (4, .int (dn m))]) rfl ?_
        refine y9_feed hS hm hL m σ (Nat.le_refl _) FR9.rf ?_
        rw [Nat.sub_self]
        exact ⟨hT.1, hT.2.1, fun i hi => by unfold feT; rw [if_pos (by omega)]; exact hT.2.2 i hi⟩
      · exact absurd c23 (by omega)
    · exact absurd c8 (by omega)
theorem z9_feed2 (hS : SK σ) {w : Int64} {L m : Nat} (h2 : sI σ 58 1 = nI L) (hL3 : L ≤ 3000) (h1 : 1 ≤ m) (hm : m ≤ 8) (hL : 3000 < L + m) : CT g mX9_feed 0 0 0 [.ref 58, .long w, .int (nI m)] σ (PQ σ (.int (-3))) := by
  refine CT.of (by decide) (Nat.le_of_ble_eq_true rfl) ?_
  refine q_iload_n dX9_feed_0 rfl rfl ?_
  refine q_iconst (v := nI 1) dX9_feed_1 rfl ?_
  refine q_icmp_ltN (tgt := 11) dX9_feed_2 (by decide) (by omega) (by omega) (fun c2 => ?_) (fun c2 => ?_)
  · exact absurd c2 (by omega)
  · skip
    refine q_iload_n dX9_feed_5 rfl rfl ?_
    refine q_bipush (v := nI 8) dX9_feed_6 rfl ?_
    refine q_icmp_leN (tgt := 14) dX9_feed_8 (by decide) (by omega) (by omega) (fun c8 => ?_) (fun c8 => ?_)
    · skip
      refine q_aload_n dX9_feed_14 rfl rfl rfl ?_
      refine q_geti (x := nI L) dX9_feed_15 fX9_13 rfl (ty_c hS (by decide) rfl) h2 ?_
      refine q_iload_n dX9_feed_18 rfl rfl ?_
      refine q_iaddN dX9_feed_19 ?_
      refine q_sipush (v := nI 3000) dX9_feed_20 rfl ?_
      refine q_icmp_leN (tgt := 29) dX9_feed_23 (by decide) (by omega) (by omega) (fun c23 => ?_) (fun c23 => ?_)
      · exact absurd c23 (by omega)
      · skip
        refine q_bipush (v := (-3 : Int32)) dX9_feed_26 rfl ?_
        refine q_ireturn dX9_feed_28 rfl rfl (by omega) (by omega) ?_
        exact ⟨rfl, rfl⟩
    · exact absurd c8 (by omega)
theorem z9_feed0 (hS : SK σ) {w : Int64} {n : Int32} (hn : ¬ (nI 1 ≤ n ∧ n ≤ nI 8)) : CT g mX9_feed 0 0 0 [.ref 58, .long w, .int n] σ (PQ σ (.int (-2))) := by
  refine CT.of (by decide) (Nat.le_of_ble_eq_true rfl) ?_
  refine q_iload_n dX9_feed_0 rfl rfl ?_
  refine q_iconst (v := nI 1) dX9_feed_1 rfl ?_
  refine q_icmp_lt (tgt := 11) dX9_feed_2 (by decide) (fun c2 => ?_) (fun c2 => ?_)
  · skip
    refine q_bipush (v := (-2 : Int32)) dX9_feed_11 rfl ?_
    refine q_ireturn dX9_feed_13 rfl rfl (by omega) (by omega) ?_
    exact ⟨rfl, rfl⟩
  · skip
    refine q_iload_n dX9_feed_5 rfl rfl ?_
    refine q_bipush (v := nI 8) dX9_feed_6 rfl ?_
    refine q_icmp_le (tgt := 14) dX9_feed_8 (by decide) (fun c8 => ?_) (fun c8 => ?_)
    · exact absurd ⟨Int32.not_lt.mp c2, c8⟩ hn
    · skip
      refine q_bipush (v := (-2 : Int32)) dX9_feed_11 rfl ?_
      refine q_ireturn dX9_feed_13 rfl rfl (by omega) (by omega) ?_
      exact ⟨rfl, rfl⟩
end MSI
