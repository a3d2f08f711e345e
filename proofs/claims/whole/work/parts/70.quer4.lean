/-! The class's own methods: what is asked of the latest RUN; NAMES; a RUN; a WAY's end. -/
def raN (σ : HS) (w : Int32) : Int32 := if w = nI 0 then sI σ 46 7 else if w = nI 1 then sI σ 46 8 else if w = nI 2 then sI σ 46 9 else if w = nI 3 then sI σ 46 10 else if w = nI 4 then sI σ 46 11 else -1
section QUE4
variable {g : GG} {σ : HS} {b : Nat} {q : PS} {p : Int32}
theorem z8_name1 (hS : SK σ) {k : Nat} (hk : k < 48) {x : Int32} : CT g mX8_name 0 0 0 [.ref 1, .int (nI k), .int x] σ (PQ (uI σ 47 k x) (.int (sI σ 47 k))) := by
  refine CT.of (by decide) (Nat.le_of_ble_eq_true rfl) ?_
  refine q_iload_n dX8_name_0 rfl rfl ?_
  refine q_if_ltN (tgt := 10) dX8_name_1 (by decide) (by omega) ?_
  refine q_iload_n dX8_name_4 rfl rfl ?_
  refine q_bipush (v := nI 48) dX8_name_5 rfl ?_
  refine q_icmp_ltN (tgt := 12) dX8_name_7 (by decide) (by omega) (by omega) (fun c7 => ?_) (fun c7 => ?_)
  · skip
    refine q_aload_n dX8_name_12 rfl rfl rfl ?_
    refine q_getr (r := 46) dX8_name_13 fX8_32 rfl (ty_c hS (by decide) rfl) (hS.2 1 3 46 rfl) ?_
    refine q_getr (r := 47) dX8_name_16 fX8_166 rfl (ty_c hS (by decide) rfl) (hS.2 46 0 47 rfl) ?_
    refine q_iload_n dX8_name_19 rfl rfl ?_
    refine q_iald (x := sI σ 47 k) (j := k) dX8_name_20 (ty_c hS (by decide) rfl) (ix_n (by omega) (by omega)) rfl ?_
    refine q_istore_n dX8_name_21 rfl (by decide) (ls' := [(3, .int (sI σ 47 k)), (0, .ref 1), (1, .int (nI k)), (2, .int x)]) rfl ?_
    refine q_aload_n dX8_name_22 rfl rfl rfl ?_
    refine q_getr (r := 46) dX8_name_23 fX8_32 rfl (ty_c hS (by decide) rfl) (hS.2 1 3 46 rfl) ?_
    refine q_getr (r := 47) dX8_name_26 fX8_166 rfl (ty_c hS (by decide) rfl) (hS.2 46 0 47 rfl) ?_
    refine q_iload_n dX8_name_29 rfl rfl ?_
    refine q_iload_n dX8_name_30 rfl rfl ?_
    refine q_iast (j := k) dX8_name_31 (ty_c hS (by decide) rfl) (ix_n (by omega) (by omega)) ?_
    refine q_iload_n dX8_name_32 rfl rfl ?_
    refine q_ireturn dX8_name_33 rfl rfl (by omega) (by omega) ?_
    exact ⟨rfl, rfl⟩
  · exact absurd c7 (by omega)
theorem z8_name0 (hS : SK σ) {k : Int32} (hk : ¬ (¬ k < 0 ∧ k < nI 48)) {x : Int32} : CT g mX8_name 0 0 0 [.ref 1, .int k, .int x] σ (PQ σ (.int 0)) := by
  refine CT.of (by decide) (Nat.le_of_ble_eq_true rfl) ?_
  refine q_iload_n dX8_name_0 rfl rfl ?_
  refine q_if_lt (tgt := 10) dX8_name_1 (by decide) (fun c1 => ?_) (fun c1 => ?_)
  · skip
    refine q_iconst (v := nI 0) dX8_name_10 rfl ?_
    refine q_ireturn dX8_name_11 rfl rfl (by omega) (by omega) ?_
    exact ⟨rfl, rfl⟩
  · skip
    refine q_iload_n dX8_name_4 rfl rfl ?_
    refine q_bipush (v := nI 48) dX8_name_5 rfl ?_
    refine q_icmp_lt (tgt := 12) dX8_name_7 (by decide) (fun c7 => ?_) (fun c7 => ?_)
    · exact absurd ⟨c1, c7⟩ hk
    · skip
      refine q_iconst (v := nI 0) dX8_name_10 rfl ?_
      refine q_ireturn dX8_name_11 rfl rfl (by omega) (by omega) ?_
      exact ⟨rfl, rfl⟩
theorem z8_ran (hS : SK σ) {w : Int32} : CT g mX8_ran 0 0 0 [.ref 1, .int w] σ (PQ σ (.int (raN σ w))) := by
  refine CT.of (by decide) (Nat.le_of_ble_eq_true rfl) ?_
  refine q_iload_n dX8_ran_0 rfl rfl ?_
  by_cases w1_0 : w = nI 0
  · refine q_tableEq 0 (tgt := 36) (off := 35) dX8_ran_1 w1_0 (by decide) rfl (by decide) ?_
    refine q_aload_n dX8_ran_36 rfl rfl rfl ?_
    refine q_getr (r := 46) dX8_ran_37 fX8_32 rfl (ty_c hS (by decide) rfl) (hS.2 1 3 46 rfl) ?_
    refine q_geti (x := sI σ 46 7) dX8_ran_40 fX8_173 rfl (ty_c hS (by decide) rfl) rfl ?_
    refine q_ireturn dX8_ran_43 rfl rfl (by omega) (by omega) ?_
    unfold raN
    first | (rw [if_pos w1_0]; exact ⟨rfl, rfl⟩) | (rw [if_neg w1_0, if_pos w1_1]; exact ⟨rfl, rfl⟩) | (rw [if_neg w1_0, if_neg w1_1, if_pos w1_2]; exact ⟨rfl, rfl⟩) | (rw [if_neg w1_0, if_neg w1_1, if_neg w1_2, if_pos w1_3]; exact ⟨rfl, rfl⟩) | (rw [if_neg w1_0, if_neg w1_1, if_neg w1_2, if_neg w1_3, if_pos w1_4]; exact ⟨rfl, rfl⟩) | (rw [if_neg w1_0, if_neg w1_1, if_neg w1_2, if_neg w1_3, if_neg w1_4]; exact ⟨rfl, rfl⟩)
  by_cases w1_1 : w = nI 1
  · refine q_tableEq 1 (tgt := 44) (off := 43) dX8_ran_1 w1_1 (by decide) rfl (by decide) ?_
    refine q_aload_n dX8_ran_44 rfl rfl rfl ?_
    refine q_getr (r := 46) dX8_ran_45 fX8_32 rfl (ty_c hS (by decide) rfl) (hS.2 1 3 46 rfl) ?_
    refine q_geti (x := sI σ 46 8) dX8_ran_48 fX8_176 rfl (ty_c hS (by decide) rfl) rfl ?_
    refine q_ireturn dX8_ran_51 rfl rfl (by omega) (by omega) ?_
    unfold raN
    first | (rw [if_pos w1_0]; exact ⟨rfl, rfl⟩) | (rw [if_neg w1_0, if_pos w1_1]; exact ⟨rfl, rfl⟩) | (rw [if_neg w1_0, if_neg w1_1, if_pos w1_2]; exact ⟨rfl, rfl⟩) | (rw [if_neg w1_0, if_neg w1_1, if_neg w1_2, if_pos w1_3]; exact ⟨rfl, rfl⟩) | (rw [if_neg w1_0, if_neg w1_1, if_neg w1_2, if_neg w1_3, if_pos w1_4]; exact ⟨rfl, rfl⟩) | (rw [if_neg w1_0, if_neg w1_1, if_neg w1_2, if_neg w1_3, if_neg w1_4]; exact ⟨rfl, rfl⟩)
  by_cases w1_2 : w = nI 2
  · refine q_tableEq 2 (tgt := 52) (off := 51) dX8_ran_1 w1_2 (by decide) rfl (by decide) ?_
    refine q_aload_n dX8_ran_52 rfl rfl rfl ?_
    refine q_getr (r := 46) dX8_ran_53 fX8_32 rfl (ty_c hS (by decide) rfl) (hS.2 1 3 46 rfl) ?_
    refine q_geti (x := sI σ 46 9) dX8_ran_56 fX8_179 rfl (ty_c hS (by decide) rfl) rfl ?_
    refine q_ireturn dX8_ran_59 rfl rfl (by omega) (by omega) ?_
    unfold raN
    first | (rw [if_pos w1_0]; exact ⟨rfl, rfl⟩) | (rw [if_neg w1_0, if_pos w1_1]; exact ⟨rfl, rfl⟩) | (rw [if_neg w1_0, if_neg w1_1, if_pos w1_2]; exact ⟨rfl, rfl⟩) | (rw [if_neg w1_0, if_neg w1_1, if_neg w1_2, if_pos w1_3]; exact ⟨rfl, rfl⟩) | (rw [if_neg w1_0, if_neg w1_1, if_neg w1_2, if_neg w1_3, if_pos w1_4]; exact ⟨rfl, rfl⟩) | (rw [if_neg w1_0, if_neg w1_1, if_neg w1_2, if_neg w1_3, if_neg w1_4]; exact ⟨rfl, rfl⟩)
  by_cases w1_3 : w = nI 3
  · refine q_tableEq 3 (tgt := 60) (off := 59) dX8_ran_1 w1_3 (by decide) rfl (by decide) ?_
    refine q_aload_n dX8_ran_60 rfl rfl rfl ?_
    refine q_getr (r := 46) dX8_ran_61 fX8_32 rfl (ty_c hS (by decide) rfl) (hS.2 1 3 46 rfl) ?_
    refine q_geti (x := sI σ 46 10) dX8_ran_64 fX8_182 rfl (ty_c hS (by decide) rfl) rfl ?_
    refine q_ireturn dX8_ran_67 rfl rfl (by omega) (by omega) ?_
    unfold raN
    first | (rw [if_pos w1_0]; exact ⟨rfl, rfl⟩) | (rw [if_neg w1_0, if_pos w1_1]; exact ⟨rfl, rfl⟩) | (rw [if_neg w1_0, if_neg w1_1, if_pos w1_2]; exact ⟨rfl, rfl⟩) | (rw [if_neg w1_0, if_neg w1_1, if_neg w1_2, if_pos w1_3]; exact ⟨rfl, rfl⟩) | (rw [if_neg w1_0, if_neg w1_1, if_neg w1_2, if_neg w1_3, if_pos w1_4]; exact ⟨rfl, rfl⟩) | (rw [if_neg w1_0, if_neg w1_1, if_neg w1_2, if_neg w1_3, if_neg w1_4]; exact ⟨rfl, rfl⟩)
  by_cases w1_4 : w = nI 4
  · refine q_tableEq 4 (tgt := 68) (off := 67) dX8_ran_1 w1_4 (by decide) rfl (by decide) ?_
    refine q_aload_n dX8_ran_68 rfl rfl rfl ?_
    refine q_getr (r := 46) dX8_ran_69 fX8_32 rfl (ty_c hS (by decide) rfl) (hS.2 1 3 46 rfl) ?_
    refine q_geti (x := sI σ 46 11) dX8_ran_72 fX8_185 rfl (ty_c hS (by decide) rfl) rfl ?_
    refine q_ireturn dX8_ran_75 rfl rfl (by omega) (by omega) ?_
    unfold raN
    first | (rw [if_pos w1_0]; exact ⟨rfl, rfl⟩) | (rw [if_neg w1_0, if_pos w1_1]; exact ⟨rfl, rfl⟩) | (rw [if_neg w1_0, if_neg w1_1, if_pos w1_2]; exact ⟨rfl, rfl⟩) | (rw [if_neg w1_0, if_neg w1_1, if_neg w1_2, if_pos w1_3]; exact ⟨rfl, rfl⟩) | (rw [if_neg w1_0, if_neg w1_1, if_neg w1_2, if_neg w1_3, if_pos w1_4]; exact ⟨rfl, rfl⟩) | (rw [if_neg w1_0, if_neg w1_1, if_neg w1_2, if_neg w1_3, if_neg w1_4]; exact ⟨rfl, rfl⟩)
  refine q_tableNe 0 4 (tgt := 76) dX8_ran_1 (by decide) (fun v h1 h2 => by rcases (show v = 0 ∨ v = 1 ∨ v = 2 ∨ v = 3 ∨ v = 4 by omega) with rfl | rfl | rfl | rfl | rfl <;> assumption) (by decide) ?_
  refine q_iconst (v := (-1 : Int32)) dX8_ran_76 rfl ?_
  refine q_ireturn dX8_ran_77 rfl rfl (by omega) (by omega) ?_
  unfold raN
  first | (rw [if_pos w1_0]; exact ⟨rfl, rfl⟩) | (rw [if_neg w1_0, if_pos w1_1]; exact ⟨rfl, rfl⟩) | (rw [if_neg w1_0, if_neg w1_1, if_pos w1_2]; exact ⟨rfl, rfl⟩) | (rw [if_neg w1_0, if_neg w1_1, if_neg w1_2, if_pos w1_3]; exact ⟨rfl, rfl⟩) | (rw [if_neg w1_0, if_neg w1_1, if_neg w1_2, if_neg w1_3, if_pos w1_4]; exact ⟨rfl, rfl⟩) | (rw [if_neg w1_0, if_neg w1_1, if_neg w1_2, if_neg w1_3, if_neg w1_4]; exact ⟨rfl, rfl⟩)

theorem z8_told1 (hS : SK σ) {c : Nat} (hc : sI σ 46 9 = nI c) (hc2 : c < 100000) {k : Nat} (hk : k < 100) (hk2 : k < c) : CT g mX8_told 0 0 0 [.ref 1, .int (nI k)] σ (PQ σ (.int (sI σ 52 k))) := by
  refine CT.of (by decide) (Nat.le_of_ble_eq_true rfl) ?_
  refine q_iload_n dX8_told_0 rfl rfl ?_
  refine q_if_ltN (tgt := 33) dX8_told_1 (by decide) (by omega) ?_
  refine q_iload_n dX8_told_4 rfl rfl ?_
  refine q_bipush (v := nI 100) dX8_told_5 rfl ?_
  refine q_icmp_geN (tgt := 33) dX8_told_7 (by decide) (by omega) (by omega) (fun c7 => ?_) (fun c7 => ?_)
  · exact absurd c7 (by omega)
  · skip
    refine q_iload_n dX8_told_10 rfl rfl ?_
    refine q_aload_n dX8_told_11 rfl rfl rfl ?_
    refine q_getr (r := 46) dX8_told_12 fX8_32 rfl (ty_c hS (by decide) rfl) (hS.2 1 3 46 rfl) ?_
    refine q_geti (x := nI c) dX8_told_15 fX8_179 rfl (ty_c hS (by decide) rfl) hc ?_
    refine q_icmp_geN (tgt := 33) dX8_told_18 (by decide) (by omega) (by omega) (fun c18 => ?_) (fun c18 => ?_)
    · exact absurd c18 (by omega)
    · skip
      refine q_aload_n dX8_told_21 rfl rfl rfl ?_
      refine q_getr (r := 46) dX8_told_22 fX8_32 rfl (ty_c hS (by decide) rfl) (hS.2 1 3 46 rfl) ?_
      refine q_getr (r := 52) dX8_told_25 fX8_188 rfl (ty_c hS (by decide) rfl) (hS.2 46 3 52 rfl) ?_
      refine q_iload_n dX8_told_28 rfl rfl ?_
      refine q_iald (x := sI σ 52 k) (j := k) dX8_told_29 (ty_c hS (by decide) rfl) (ix_n (by omega) (by omega)) rfl ?_
      refine q_goto (tgt := 34) dX8_told_30 (by decide) ?_
      refine q_ireturn dX8_told_34 rfl rfl (by omega) (by omega) ?_
      exact ⟨rfl, rfl⟩
theorem z8_told0 (hS : SK σ) {c : Nat} (hc : sI σ 46 9 = nI c) (hc2 : c < 100000) {k : Int32} (hk : ¬ (¬ k < 0 ∧ k < nI 100 ∧ k < nI c)) : CT g mX8_told 0 0 0 [.ref 1, .int k] σ (PQ σ (.int 0)) := by
  refine CT.of (by decide) (Nat.le_of_ble_eq_true rfl) ?_
  refine q_iload_n dX8_told_0 rfl rfl ?_
  refine q_if_lt (tgt := 33) dX8_told_1 (by decide) (fun c1 => ?_) (fun c1 => ?_)
  · skip
    refine q_iconst (v := nI 0) dX8_told_33 rfl ?_
    refine q_ireturn dX8_told_34 rfl rfl (by omega) (by omega) ?_
    exact ⟨rfl, rfl⟩
  · skip
    refine q_iload_n dX8_told_4 rfl rfl ?_
    refine q_bipush (v := nI 100) dX8_told_5 rfl ?_
    refine q_icmp_ge (tgt := 33) dX8_told_7 (by decide) (fun c7 => ?_) (fun c7 => ?_)
    · skip
      refine q_iconst (v := nI 0) dX8_told_33 rfl ?_
      refine q_ireturn dX8_told_34 rfl rfl (by omega) (by omega) ?_
      exact ⟨rfl, rfl⟩
    · skip
      refine q_iload_n dX8_told_10 rfl rfl ?_
      refine q_aload_n dX8_told_11 rfl rfl rfl ?_
      refine q_getr (r := 46) dX8_told_12 fX8_32 rfl (ty_c hS (by decide) rfl) (hS.2 1 3 46 rfl) ?_
      refine q_geti (x := nI c) dX8_told_15 fX8_179 rfl (ty_c hS (by decide) rfl) hc ?_
      refine q_icmp_ge (tgt := 33) dX8_told_18 (by decide) (fun c18 => ?_) (fun c18 => ?_)
      · skip
        refine q_iconst (v := nI 0) dX8_told_33 rfl ?_
        refine q_ireturn dX8_told_34 rfl rfl (by omega) (by omega) ?_
        exact ⟨rfl, rfl⟩
      · exact absurd ⟨c1, Int32.not_le.mp c7, Int32.not_le.mp c18⟩ hk
theorem z8_value1 (hS : SK σ) {k : Nat} (hk : k < 48) : CT g mX8_value 0 0 0 [.ref 1, .int (nI k)] σ (PQ σ (.int (sI σ 48 k))) := by
  refine CT.of (by decide) (Nat.le_of_ble_eq_true rfl) ?_
  refine q_iload_n dX8_value_0 rfl rfl ?_
  refine q_if_ltN (tgt := 22) dX8_value_1 (by decide) (by omega) ?_
  refine q_iload_n dX8_value_4 rfl rfl ?_
  refine q_bipush (v := nI 48) dX8_value_5 rfl ?_
  refine q_icmp_geN (tgt := 22) dX8_value_7 (by decide) (by omega) (by omega) (fun c7 => ?_) (fun c7 => ?_)
  · exact absurd c7 (by omega)
  · skip
    refine q_aload_n dX8_value_10 rfl rfl rfl ?_
    refine q_getr (r := 46) dX8_value_11 fX8_32 rfl (ty_c hS (by decide) rfl) (hS.2 1 3 46 rfl) ?_
    refine q_getr (r := 48) dX8_value_14 fX8_191 rfl (ty_c hS (by decide) rfl) (hS.2 46 1 48 rfl) ?_
    refine q_iload_n dX8_value_17 rfl rfl ?_
    refine q_iald (x := sI σ 48 k) (j := k) dX8_value_18 (ty_c hS (by decide) rfl) (ix_n (by omega) (by omega)) rfl ?_
    refine q_goto (tgt := 23) dX8_value_19 (by decide) ?_
    refine q_ireturn dX8_value_23 rfl rfl (by omega) (by omega) ?_
    exact ⟨rfl, rfl⟩
theorem z8_value0 (hS : SK σ) {k : Int32} (hk : ¬ (¬ k < 0 ∧ k < nI 48)) : CT g mX8_value 0 0 0 [.ref 1, .int k] σ (PQ σ (.int 0)) := by
  refine CT.of (by decide) (Nat.le_of_ble_eq_true rfl) ?_
  refine q_iload_n dX8_value_0 rfl rfl ?_
  refine q_if_lt (tgt := 22) dX8_value_1 (by decide) (fun c1 => ?_) (fun c1 => ?_)
  · skip
    refine q_iconst (v := nI 0) dX8_value_22 rfl ?_
    refine q_ireturn dX8_value_23 rfl rfl (by omega) (by omega) ?_
    exact ⟨rfl, rfl⟩
  · skip
    refine q_iload_n dX8_value_4 rfl rfl ?_
    refine q_bipush (v := nI 48) dX8_value_5 rfl ?_
    refine q_icmp_ge (tgt := 22) dX8_value_7 (by decide) (fun c7 => ?_) (fun c7 => ?_)
    · skip
      refine q_iconst (v := nI 0) dX8_value_22 rfl ?_
      refine q_ireturn dX8_value_23 rfl rfl (by omega) (by omega) ?_
      exact ⟨rfl, rfl⟩
    · exact absurd ⟨c1, Int32.not_le.mp c7⟩ hk
theorem z8_row1 (hS : SK σ) {r k : Nat} (hr : r < 2) (hk : k < 8) : CT g mX8_row 0 0 0 [.ref 1, .int (nI r), .int (nI k)] σ (PQ σ (.int (sI σ (50 + r) k))) := by
  rcases (show r = 0 ∨ r = 1 by omega) with rfl | rfl
  · skip
    refine CT.of (by decide) (Nat.le_of_ble_eq_true rfl) ?_
    refine q_iload_n dX8_row_0 rfl rfl ?_
    refine q_if_ltN (tgt := 19) dX8_row_1 (by decide) (by omega) ?_
    refine q_iload_n dX8_row_4 rfl rfl ?_
    refine q_iconst (v := nI 2) dX8_row_5 rfl ?_
    refine q_icmp_geN (tgt := 19) dX8_row_6 (by decide) (by omega) (by omega) (fun h => absurd h (by decide)) (fun _ => ?_)
    refine q_iload_n dX8_row_9 rfl rfl ?_
    refine q_if_ltN (tgt := 19) dX8_row_10 (by decide) (by omega) ?_
    refine q_iload_n dX8_row_13 rfl rfl ?_
    refine q_bipush (v := nI 8) dX8_row_14 rfl ?_
    refine q_icmp_ltN (tgt := 21) dX8_row_16 (by decide) (by omega) (by omega) (fun c16 => ?_) (fun c16 => ?_)
    · skip
      refine q_aload_n dX8_row_21 rfl rfl rfl ?_
      refine q_getr (r := 46) dX8_row_22 fX8_32 rfl (ty_c hS (by decide) rfl) (hS.2 1 3 46 rfl) ?_
      refine q_getr (r := 49) dX8_row_25 fX8_194 rfl (ty_c hS (by decide) rfl) (hS.2 46 2 49 rfl) ?_
      refine q_iload_n dX8_row_28 rfl rfl ?_
      refine q_aald (r := 50) (j := 0) dX8_row_29 (ty_c hS (by decide) rfl) (Or.inl rfl) (ix_n (by omega) (by omega)) (hS.2 49 0 50 rfl) ?_
      refine q_iload_n dX8_row_30 rfl rfl ?_
      refine q_iald (x := sI σ 50 k) (j := k) dX8_row_31 (ty_c hS (by decide) rfl) (ix_n (by omega) (by omega)) rfl ?_
      refine q_ireturn dX8_row_32 rfl rfl (by omega) (by omega) ?_
      exact ⟨rfl, rfl⟩
    · exact absurd c16 (by omega)
  · skip
    refine CT.of (by decide) (Nat.le_of_ble_eq_true rfl) ?_
    refine q_iload_n dX8_row_0 rfl rfl ?_
    refine q_if_ltN (tgt := 19) dX8_row_1 (by decide) (by omega) ?_
    refine q_iload_n dX8_row_4 rfl rfl ?_
    refine q_iconst (v := nI 2) dX8_row_5 rfl ?_
    refine q_icmp_geN (tgt := 19) dX8_row_6 (by decide) (by omega) (by omega) (fun h => absurd h (by decide)) (fun _ => ?_)
    refine q_iload_n dX8_row_9 rfl rfl ?_
    refine q_if_ltN (tgt := 19) dX8_row_10 (by decide) (by omega) ?_
    refine q_iload_n dX8_row_13 rfl rfl ?_
    refine q_bipush (v := nI 8) dX8_row_14 rfl ?_
    refine q_icmp_ltN (tgt := 21) dX8_row_16 (by decide) (by omega) (by omega) (fun c16 => ?_) (fun c16 => ?_)
    · skip
      refine q_aload_n dX8_row_21 rfl rfl rfl ?_
      refine q_getr (r := 46) dX8_row_22 fX8_32 rfl (ty_c hS (by decide) rfl) (hS.2 1 3 46 rfl) ?_
      refine q_getr (r := 49) dX8_row_25 fX8_194 rfl (ty_c hS (by decide) rfl) (hS.2 46 2 49 rfl) ?_
      refine q_iload_n dX8_row_28 rfl rfl ?_
      refine q_aald (r := 51) (j := 1) dX8_row_29 (ty_c hS (by decide) rfl) (Or.inl rfl) (ix_n (by omega) (by omega)) (hS.2 49 1 51 rfl) ?_
      refine q_iload_n dX8_row_30 rfl rfl ?_
      refine q_iald (x := sI σ 51 k) (j := k) dX8_row_31 (ty_c hS (by decide) rfl) (ix_n (by omega) (by omega)) rfl ?_
      refine q_ireturn dX8_row_32 rfl rfl (by omega) (by omega) ?_
      exact ⟨rfl, rfl⟩
    · exact absurd c16 (by omega)
theorem z8_row0 (hS : SK σ) {r k : Int32} (hk : ¬ ((¬ r < 0 ∧ r < nI 2) ∧ ¬ k < 0 ∧ k < nI 8)) : CT g mX8_row 0 0 0 [.ref 1, .int r, .int k] σ (PQ σ (.int 0)) := by
  refine CT.of (by decide) (Nat.le_of_ble_eq_true rfl) ?_
  refine q_iload_n dX8_row_0 rfl rfl ?_
  refine q_if_lt (tgt := 19) dX8_row_1 (by decide) (fun c1 => ?_) (fun c1 => ?_)
  · skip
    refine q_iconst (v := nI 0) dX8_row_19 rfl ?_
    refine q_ireturn dX8_row_20 rfl rfl (by omega) (by omega) ?_
    exact ⟨rfl, rfl⟩
  · skip
    refine q_iload_n dX8_row_4 rfl rfl ?_
    refine q_iconst (v := nI 2) dX8_row_5 rfl ?_
    refine q_icmp_ge (tgt := 19) dX8_row_6 (by decide) (fun c6 => ?_) (fun c6 => ?_)
    · skip
      refine q_iconst (v := nI 0) dX8_row_19 rfl ?_
      refine q_ireturn dX8_row_20 rfl rfl (by omega) (by omega) ?_
      exact ⟨rfl, rfl⟩
    · skip
      refine q_iload_n dX8_row_9 rfl rfl ?_
      refine q_if_lt (tgt := 19) dX8_row_10 (by decide) (fun c10 => ?_) (fun c10 => ?_)
      · skip
        refine q_iconst (v := nI 0) dX8_row_19 rfl ?_
        refine q_ireturn dX8_row_20 rfl rfl (by omega) (by omega) ?_
        exact ⟨rfl, rfl⟩
      · skip
        refine q_iload_n dX8_row_13 rfl rfl ?_
        refine q_bipush (v := nI 8) dX8_row_14 rfl ?_
        refine q_icmp_lt (tgt := 21) dX8_row_16 (by decide) (fun c16 => ?_) (fun c16 => ?_)
        · exact absurd ⟨⟨c1, Int32.not_le.mp c6⟩, c10, c16⟩ hk
        · skip
          refine q_iconst (v := nI 0) dX8_row_19 rfl ?_
          refine q_ireturn dX8_row_20 rfl rfl (by omega) (by omega) ?_
          exact ⟨rfl, rfl⟩
theorem z8_worked1 (hS : SK σ) {k : Nat} (hk : k < 32) : CT g mX8_worked 0 0 0 [.ref 1, .int (nI k)] σ (PQ σ (.int (sI σ 53 k))) := by
  refine CT.of (by decide) (Nat.le_of_ble_eq_true rfl) ?_
  refine q_iload_n dX8_worked_0 rfl rfl ?_
  refine q_if_ltN (tgt := 22) dX8_worked_1 (by decide) (by omega) ?_
  refine q_iload_n dX8_worked_4 rfl rfl ?_
  refine q_bipush (v := nI 32) dX8_worked_5 rfl ?_
  refine q_icmp_geN (tgt := 22) dX8_worked_7 (by decide) (by omega) (by omega) (fun c7 => ?_) (fun c7 => ?_)
  · exact absurd c7 (by omega)
  · skip
    refine q_aload_n dX8_worked_10 rfl rfl rfl ?_
    refine q_getr (r := 46) dX8_worked_11 fX8_32 rfl (ty_c hS (by decide) rfl) (hS.2 1 3 46 rfl) ?_
    refine q_getr (r := 53) dX8_worked_14 fX8_197 rfl (ty_c hS (by decide) rfl) (hS.2 46 4 53 rfl) ?_
    refine q_iload_n dX8_worked_17 rfl rfl ?_
    refine q_iald (x := sI σ 53 k) (j := k) dX8_worked_18 (ty_c hS (by decide) rfl) (ix_n (by omega) (by omega)) rfl ?_
    refine q_goto (tgt := 23) dX8_worked_19 (by decide) ?_
    refine q_ireturn dX8_worked_23 rfl rfl (by omega) (by omega) ?_
    exact ⟨rfl, rfl⟩
theorem z8_worked0 (hS : SK σ) {k : Int32} (hk : ¬ (¬ k < 0 ∧ k < nI 32)) : CT g mX8_worked 0 0 0 [.ref 1, .int k] σ (PQ σ (.int (-1))) := by
  refine CT.of (by decide) (Nat.le_of_ble_eq_true rfl) ?_
  refine q_iload_n dX8_worked_0 rfl rfl ?_
  refine q_if_lt (tgt := 22) dX8_worked_1 (by decide) (fun c1 => ?_) (fun c1 => ?_)
  · skip
    refine q_iconst (v := (-1 : Int32)) dX8_worked_22 rfl ?_
    refine q_ireturn dX8_worked_23 rfl rfl (by omega) (by omega) ?_
    exact ⟨rfl, rfl⟩
  · skip
    refine q_iload_n dX8_worked_4 rfl rfl ?_
    refine q_bipush (v := nI 32) dX8_worked_5 rfl ?_
    refine q_icmp_ge (tgt := 22) dX8_worked_7 (by decide) (fun c7 => ?_) (fun c7 => ?_)
    · skip
      refine q_iconst (v := (-1 : Int32)) dX8_worked_22 rfl ?_
      refine q_ireturn dX8_worked_23 rfl rfl (by omega) (by omega) ?_
      exact ⟨rfl, rfl⟩
    · exact absurd ⟨c1, Int32.not_le.mp c7⟩ hk
theorem z8_wrong (hS : SK σ) : CT g mX8_wrong 0 0 0 [.ref 1] σ (PQ σ (.int (sI σ 1 5))) := by
  refine CT.of (by decide) (Nat.le_of_ble_eq_true rfl) ?_
  refine q_aload_n dX8_wrong_0 rfl rfl rfl ?_
  refine q_geti (x := sI σ 1 5) dX8_wrong_1 fX8_62 rfl (ty_c hS (by decide) rfl) rfl ?_
  refine q_ireturn dX8_wrong_4 rfl rfl (by omega) (by omega) ?_
  exact ⟨rfl, rfl⟩
theorem z8_cut1 (hS : SK σ) {L k : Nat} (hL : sI σ 2 1 = nI L) (hL2 : L ≤ 3000) (hk : k ≤ L) : CT g mX8_cut 0 0 0 [.ref 1, .int (nI k)] σ (PQ (uI σ 2 1 (nI k)) (.int (nI k))) := by
  refine CT.of (by decide) (Nat.le_of_ble_eq_true rfl) ?_
  refine q_iload_n dX8_cut_0 rfl rfl ?_
  refine q_if_ltN (tgt := 15) dX8_cut_1 (by decide) (by omega) ?_
  refine q_iload_n dX8_cut_4 rfl rfl ?_
  refine q_aload_n dX8_cut_5 rfl rfl rfl ?_
  refine q_getr (r := 2) dX8_cut_6 fX8_12 rfl (ty_c hS (by decide) rfl) (hS.2 1 0 2 rfl) ?_
  refine q_geti (x := nI L) dX8_cut_9 fX8_43 rfl (ty_c hS (by decide) rfl) hL ?_
  refine q_icmp_leN (tgt := 18) dX8_cut_12 (by decide) (by omega) (by omega) (fun c12 => ?_) (fun c12 => ?_)
  · skip
    refine q_aload_n dX8_cut_18 rfl rfl rfl ?_
    refine q_getr (r := 2) dX8_cut_19 fX8_12 rfl (ty_c hS (by decide) rfl) (hS.2 1 0 2 rfl) ?_
    refine q_iload_n dX8_cut_22 rfl rfl ?_
    refine q_puti dX8_cut_23 fX8_43 rfl (Or.inl rfl) (ty_c hS (by decide) rfl) ?_
    refine q_iload_n dX8_cut_26 rfl rfl ?_
    refine q_ireturn dX8_cut_27 rfl rfl (by omega) (by omega) ?_
    exact ⟨rfl, rfl⟩
  · exact absurd c12 (by omega)
theorem z8_cut0 (hS : SK σ) {L : Nat} (hL : sI σ 2 1 = nI L) (hL2 : L ≤ 3000) {k : Int32} (hk : ¬ (¬ k < 0 ∧ k < nI (L + 1))) : CT g mX8_cut 0 0 0 [.ref 1, .int k] σ (PQ σ (.int (-2))) := by
  have h1 : ¬ k < 0 → ¬ k ≤ nI L := fun h2 h3 => hk ⟨h2, Int32.lt_iff_toInt_lt.mpr (by have := Int32.le_iff_toInt_le.mp h3; rw [nI_toInt (by omega)] at this ⊢; omega)⟩
  refine CT.of (by decide) (Nat.le_of_ble_eq_true rfl) ?_
  refine q_iload_n dX8_cut_0 rfl rfl ?_
  refine q_if_lt (tgt := 15) dX8_cut_1 (by decide) (fun c1 => ?_) (fun c1 => ?_)
  · skip
    refine q_bipush (v := (-2 : Int32)) dX8_cut_15 rfl ?_
    refine q_ireturn dX8_cut_17 rfl rfl (by omega) (by omega) ?_
    exact ⟨rfl, rfl⟩
  · skip
    refine q_iload_n dX8_cut_4 rfl rfl ?_
    refine q_aload_n dX8_cut_5 rfl rfl rfl ?_
    refine q_getr (r := 2) dX8_cut_6 fX8_12 rfl (ty_c hS (by decide) rfl) (hS.2 1 0 2 rfl) ?_
    refine q_geti (x := nI L) dX8_cut_9 fX8_43 rfl (ty_c hS (by decide) rfl) hL ?_
    refine q_icmp_le (tgt := 18) dX8_cut_12 (by decide) (fun c12 => ?_) (fun c12 => ?_)
    · exact absurd c12 (h1 c1)
    · skip
      refine q_bipush (v := (-2 : Int32)) dX8_cut_15 rfl ?_
      refine q_ireturn dX8_cut_17 rfl rfl (by omega) (by omega) ?_
      exact ⟨rfl, rfl⟩
theorem z8_tape1 (hS : SK σ) {L : Nat} {T : Nat → Nat} (h : CTX σ L T) {k : Nat} (hk : k < L) : CT g mX8_tape 1 0 0 [.ref 1, .int (nI k)] σ (PQ σ (.int (nI (T k)))) := by
  have h2 := (h.2.2 k hk).2
  have h3 := h.2.1
  refine CT.of (by decide) (Nat.le_of_ble_eq_true rfl) ?_
  refine q_aload_n dX8_tape_0 rfl rfl rfl ?_
  refine q_getr (r := 2) dX8_tape_1 fX8_12 rfl (ty_c hS (by decide) rfl) (hS.2 1 0 2 rfl) ?_
  refine q_iload_n dX8_tape_4 rfl rfl ?_
  refine q_callV (As := [.int (nI k)]) (rest := []) dX8_tape_5 vX8_51 (ty_c hS (by decide) rfl) ⟨by decide, rfl⟩ (z5_byteAt hS h hk) rfl rfl (Nat.le_of_ble_eq_true rfl) (by omega) (by omega) (by omega) (k_p ?_)
  refine q_istore_n dX8_tape_8 rfl (by decide) (ls' := [(2, .int (nI (T k))), (0, .ref 1), (1, .int (nI k))]) rfl ?_
  refine q_iload_n dX8_tape_9 rfl rfl ?_
  refine q_if_geN (tgt := 17) dX8_tape_10 (by decide) (by omega) ?_
  refine q_iload_n dX8_tape_17 rfl rfl ?_
  refine q_ireturn dX8_tape_18 rfl rfl (by omega) (by omega) ?_
  exact ⟨rfl, rfl⟩
theorem z8_tape0 (hS : SK σ) {L : Nat} {T : Nat → Nat} (h : CTX σ L T) {k : Int32} (hk : ¬ (¬ k < 0 ∧ k < nI L)) : CT g mX8_tape 1 0 0 [.ref 1, .int k] σ (PQ σ (.int (-1))) := by
  have h3 := h.2.1
  by_cases h4 : k < 0
  · skip
    refine CT.of (by decide) (Nat.le_of_ble_eq_true rfl) ?_
    refine q_aload_n dX8_tape_0 rfl rfl rfl ?_
    refine q_getr (r := 2) dX8_tape_1 fX8_12 rfl (ty_c hS (by decide) rfl) (hS.2 1 0 2 rfl) ?_
    refine q_iload_n dX8_tape_4 rfl rfl ?_
    refine q_callV (As := [.int k]) (rest := []) dX8_tape_5 vX8_51 (ty_c hS (by decide) rfl) ⟨by decide, rfl⟩ (z5_byteAt_neg hS h4) rfl rfl (Nat.le_of_ble_eq_true rfl) (by omega) (by omega) (by omega) (k_p ?_)
    refine q_istore_n dX8_tape_8 rfl (by decide) (ls' := [(2, .int (-1)), (0, .ref 1), (1, .int k)]) rfl ?_
    refine q_iload_n dX8_tape_9 rfl rfl ?_
    refine q_if_ge1 (tgt := 17) dX8_tape_10 (by decide) (by decide) ?_
    refine q_iconst (v := (-1 : Int32)) dX8_tape_13 rfl ?_
    refine q_goto (tgt := 18) dX8_tape_14 (by decide) ?_
    refine q_ireturn dX8_tape_18 rfl rfl (by omega) (by omega) ?_
    exact ⟨rfl, rfl⟩
  · obtain ⟨j, hj, rfl⟩ := nI_of h4
    have hj2 : L ≤ j := Nat.not_lt.mp fun z => hk ⟨h4, nI_lt z (by omega)⟩
    refine CT.of (by decide) (Nat.le_of_ble_eq_true rfl) ?_
    refine q_aload_n dX8_tape_0 rfl rfl rfl ?_
    refine q_getr (r := 2) dX8_tape_1 fX8_12 rfl (ty_c hS (by decide) rfl) (hS.2 1 0 2 rfl) ?_
    refine q_iload_n dX8_tape_4 rfl rfl ?_
    refine q_callV (As := [.int (nI j)]) (rest := []) dX8_tape_5 vX8_51 (ty_c hS (by decide) rfl) ⟨by decide, rfl⟩ (z5_byteAt_out hS h.1 h3 hj2 hj) rfl rfl (Nat.le_of_ble_eq_true rfl) (by omega) (by omega) (by omega) (k_p ?_)
    refine q_istore_n dX8_tape_8 rfl (by decide) (ls' := [(2, .int (-1)), (0, .ref 1), (1, .int (nI j))]) rfl ?_
    refine q_iload_n dX8_tape_9 rfl rfl ?_
    refine q_if_ge1 (tgt := 17) dX8_tape_10 (by decide) (by decide) ?_
    refine q_iconst (v := (-1 : Int32)) dX8_tape_13 rfl ?_
    refine q_goto (tgt := 18) dX8_tape_14 (by decide) ?_
    refine q_ireturn dX8_tape_18 rfl rfl (by omega) (by omega) ?_
    exact ⟨rfl, rfl⟩
theorem z8_run0 (hS : SK σ) (h : RA σ p none) {l : Int32} : CT g mX8_run 1 0 0 [.ref 1, .int p, .int l] σ (PQ σ (.int (-1))) := by
  refine CT.of (by decide) (Nat.le_of_ble_eq_true rfl) ?_
  refine q_aload_n dX8_run_0 rfl rfl rfl ?_
  refine q_iload_n dX8_run_1 rfl rfl ?_
  refine q_callV (As := [.int p]) (rest := []) dX8_run_2 vX8_89 (ty_c hS (by decide) rfl) ⟨by decide, rfl⟩ (z8_routineAt0 hS h) rfl rfl (Nat.le_of_ble_eq_true rfl) (by omega) (by omega) (by omega) (k_p ?_)
  refine q_astore_n dX8_run_5 rfl rfl (by decide) (ls' := [(3, .ref 0), (0, .ref 1), (1, .int p), (2, .int l)]) rfl ?_
  refine q_aload_n dX8_run_6 rfl rfl rfl ?_
  refine q_ifnull (tgt := 17) dX8_run_7 (by decide) (fun c7 => ?_) (fun c7 => ?_)
  · skip
    refine q_iconst (v := (-1 : Int32)) dX8_run_17 rfl ?_
    refine q_ireturn dX8_run_18 rfl rfl (by omega) (by omega) ?_
    exact ⟨rfl, rfl⟩
  · exact absurd c7 (by omega)
theorem z8_run2 (hS : SK σ) (h : RA σ p (some (b, q))) {l : Int32} (hl : ¬ (¬ l < 0 ∧ l < nI 3)) : CT g mX8_run 1 0 0 [.ref 1, .int p, .int l] σ (PQ σ (.int (-1))) := by
  obtain ⟨i, hi, rfl, h0, hr⟩ := h
  simp only at h0 hr
  have hb := hr.1
  have hb14 : b = 14 ∨ 99 ≤ b := by rcases hb.1 with h | ⟨j, h⟩ <;> omega
  refine CT.of (by decide) (Nat.le_of_ble_eq_true rfl) ?_
  refine q_aload_n dX8_run_0 rfl rfl rfl ?_
  refine q_iload_n dX8_run_1 rfl rfl ?_
  refine q_callV (As := [.int (nI i)]) (rest := []) dX8_run_2 vX8_89 (ty_c hS (by decide) rfl) ⟨by decide, rfl⟩ (z8_routineAt1 hS hi hb h0) rfl rfl (Nat.le_of_ble_eq_true rfl) (by omega) (by omega) (by omega) (k_p ?_)
  refine q_astore_n dX8_run_5 rfl rfl (by decide) (ls' := [(3, .ref b), (0, .ref 1), (1, .int (nI i)), (2, .int l)]) rfl ?_
  refine q_aload_n dX8_run_6 rfl rfl rfl ?_
  refine q_ifnull (tgt := 17) dX8_run_7 (by decide) (fun c7 => ?_) (fun c7 => ?_)
  · exact absurd c7 (by omega)
  · skip
    refine q_iload_n dX8_run_10 rfl rfl ?_
    refine q_callS (As := [.int l]) (rest := []) dX8_run_11 vX8_154 (z8_isPlacing) rfl rfl (Nat.le_of_ble_eq_true rfl) (by omega) (by omega) (by omega) (k_p ?_)
    refine q_if_neB (tgt := 19) dX8_run_14 (by decide) (fun c14 => ?_) (fun c14 => ?_)
    · exact absurd (of_decide_eq_true c14) hl
    · skip
      refine q_iconst (v := (-1 : Int32)) dX8_run_17 rfl ?_
      refine q_ireturn dX8_run_18 rfl rfl (by omega) (by omega) ?_
      exact ⟨rfl, rfl⟩
theorem z8_run1 (hS : SK σ) (h : RA σ p (some (b, q))) {v : Nat} (hv : v < 3) : CT g mX8_run 6 0 0 [.ref 1, .int p, .int (nI v)] σ (fun r σ' => r = some (.int (nI (ruF q v 2001 0 (xs0 σ) 0).2.2.1)) ∧ GQ σ (ruF q v 2001 0 (xs0 σ) 0) none σ') := by
  obtain ⟨i, hi, rfl, h0, hr⟩ := h
  simp only at h0 hr
  have hb := hr.1
  have hb14 : b = 14 ∨ 99 ≤ b := by rcases hb.1 with h | ⟨j, h⟩ <;> omega
  have hl : ¬ nI v < 0 ∧ nI v < nI 3 := n_is (by omega) hv
  refine CT.of (by decide) (Nat.le_of_ble_eq_true rfl) ?_
  refine q_aload_n dX8_run_0 rfl rfl rfl ?_
  refine q_iload_n dX8_run_1 rfl rfl ?_
  refine q_callV (As := [.int (nI i)]) (rest := []) dX8_run_2 vX8_89 (ty_c hS (by decide) rfl) ⟨by decide, rfl⟩ (z8_routineAt1 hS hi hb h0) rfl rfl (Nat.le_of_ble_eq_true rfl) (by omega) (by omega) (by omega) (k_p ?_)
  refine q_astore_n dX8_run_5 rfl rfl (by decide) (ls' := [(3, .ref b), (0, .ref 1), (1, .int (nI i)), (2, .int (nI v))]) rfl ?_
  refine q_aload_n dX8_run_6 rfl rfl rfl ?_
  refine q_ifnull (tgt := 17) dX8_run_7 (by decide) (fun c7 => ?_) (fun c7 => ?_)
  · exact absurd c7 (by omega)
  · skip
    refine q_iload_n dX8_run_10 rfl rfl ?_
    refine q_callS (As := [.int (nI v)]) (rest := []) dX8_run_11 vX8_154 (z8_isPlacing) rfl rfl (Nat.le_of_ble_eq_true rfl) (by omega) (by omega) (by omega) (k_p ?_)
    refine q_if_neB (tgt := 19) dX8_run_14 (by decide) (fun c14 => ?_) (fun c14 => ?_)
    · skip
      refine q_aload_n dX8_run_19 rfl rfl rfl ?_
      refine q_getr (r := 46) dX8_run_20 fX8_32 rfl (ty_c hS (by decide) rfl) (hS.2 1 3 46 rfl) ?_
      refine q_aload_n dX8_run_23 rfl rfl rfl ?_
      refine q_iload_n dX8_run_24 rfl rfl ?_
      refine q_callV (As := [.ref b, .int (nI v)]) (rest := []) dX8_run_25 vX8_169 (ty_c hS (by decide) rfl) ⟨by decide, rfl⟩ (z3_go hS hr hv) rfl rfl (Nat.le_of_ble_eq_true rfl) (by omega) (by omega) (by omega) (k_v (fun s25 q25 => ?_))
      have hS2 := SK.fr q25.1 hS
      refine q_aload_n dX8_run_28 rfl rfl rfl ?_
      refine q_getr (r := 46) dX8_run_29 fX8_32 rfl (ty_c hS2 (by decide) rfl) (hS2.2 1 3 46 rfl) ?_
      refine q_geti (x := nI (ruF q v 2001 0 (xs0 σ) 0).2.2.1) dX8_run_32 fX8_173 rfl (ty_c hS2 (by decide) rfl) q25.2.2.2.1 ?_
      refine q_ireturn dX8_run_35 rfl rfl (by omega) (by omega) ?_
      exact ⟨rfl, rfl, q25⟩
    · exact absurd hl (of_decide_eq_false c14)
theorem z8_home0 (hS : SK σ) (h : RA σ p none) : CT g mX8_home 1 0 0 [.ref 1, .int p] σ (PQ σ (.int (-1))) := by
  refine CT.of (by decide) (Nat.le_of_ble_eq_true rfl) ?_
  refine q_aload_n dX8_home_0 rfl rfl rfl ?_
  refine q_iload_n dX8_home_1 rfl rfl ?_
  refine q_callV (As := [.int p]) (rest := []) dX8_home_2 vX8_89 (ty_c hS (by decide) rfl) ⟨by decide, rfl⟩ (z8_routineAt0 hS h) rfl rfl (Nat.le_of_ble_eq_true rfl) (by omega) (by omega) (by omega) (k_p ?_)
  refine q_astore_n dX8_home_5 rfl rfl (by decide) (ls' := [(2, .ref 0), (0, .ref 1), (1, .int p)]) rfl ?_
  refine q_aload_n dX8_home_6 rfl rfl rfl ?_
  refine q_ifnonnull (tgt := 12) dX8_home_7 (by decide) (fun c7 => ?_) (fun c7 => ?_)
  · exact absurd c7 (by omega)
  · skip
    refine q_iconst (v := (-1 : Int32)) dX8_home_10 rfl ?_
    refine q_ireturn dX8_home_11 rfl rfl (by omega) (by omega) ?_
    exact ⟨rfl, rfl⟩
theorem z8_home1 (hS : SK σ) (h : RA σ p (some (b, q))) : CT g mX8_home 1 0 0 [.ref 1, .int p] σ (PQ (uI σ b 15 (nI 0)) (.int (sI σ b 15))) := by
  obtain ⟨i, hi, rfl, h0, hr⟩ := h
  simp only at h0 hr
  have hb := hr.1
  have hb14 : b = 14 ∨ 99 ≤ b := by rcases hb.1 with h | ⟨j, h⟩ <;> omega
  refine CT.of (by decide) (Nat.le_of_ble_eq_true rfl) ?_
  refine q_aload_n dX8_home_0 rfl rfl rfl ?_
  refine q_iload_n dX8_home_1 rfl rfl ?_
  refine q_callV (As := [.int (nI i)]) (rest := []) dX8_home_2 vX8_89 (ty_c hS (by decide) rfl) ⟨by decide, rfl⟩ (z8_routineAt1 hS hi hb h0) rfl rfl (Nat.le_of_ble_eq_true rfl) (by omega) (by omega) (by omega) (k_p ?_)
  refine q_astore_n dX8_home_5 rfl rfl (by decide) (ls' := [(2, .ref b), (0, .ref 1), (1, .int (nI i))]) rfl ?_
  refine q_aload_n dX8_home_6 rfl rfl rfl ?_
  refine q_ifnonnull (tgt := 12) dX8_home_7 (by decide) (fun c7 => ?_) (fun c7 => ?_)
  · skip
    refine q_aload_n dX8_home_12 rfl rfl rfl ?_
    refine q_geti (x := sI σ b 15) dX8_home_13 fX8_203 rfl (ty_r hb 0 rfl) rfl ?_
    refine q_istore_n dX8_home_16 rfl (by decide) (ls' := [(3, .int (sI σ b 15)), (2, .ref b), (0, .ref 1), (1, .int (nI i))]) rfl ?_
    refine q_aload_n dX8_home_17 rfl rfl rfl ?_
    refine q_iconst (v := nI 0) dX8_home_18 rfl ?_
    refine q_puti dX8_home_19 fX8_203 rfl (Or.inl rfl) (ty_r hb 0 rfl) ?_
    refine q_iload_n dX8_home_22 rfl rfl ?_
    refine q_ireturn dX8_home_23 rfl rfl (by omega) (by omega) ?_
    exact ⟨rfl, rfl⟩
  · exact absurd c7 (by omega)

end QUE4
