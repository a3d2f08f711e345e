/-! The class's own methods: what is asked of a SUM. -/
/-- an operand as it is told -/
def coF (o : Int32) : Int32 := if nI 1000000016 ≤ o then nI 2000 + o - nI 1000000000 - nI 16 else if nI 1000000000 ≤ o then nI 1000 + o - nI 1000000000 else if (-999 : Int32) < (if o < nI 999 then o else nI 999) then (if o < nI 999 then o else nI 999) else (-999 : Int32)
def smF (q : PS) (e : Nat) (w : Int32) : Int32 := if w = nI 0 then (sm q e).1 else if w = nI 1 then coF (sm q e).2.1 else if w = nI 2 then coF (sm q e).2.2 else if w = nI 3 then bi (bo q e) else if w = nI 4 then nI (cnt (wk q e) (psS q).length) else -1
theorem lt_8 {w : Int32} (h : w ≤ nI 7) : w < nI 8 := Int32.lt_iff_toInt_lt.mpr (by have := Int32.le_iff_toInt_le.mp h; rw [nI_toInt (by omega)] at this ⊢; omega)
section QUE2
variable {g : GG} {σ : HS} {b : Nat} {q : PS} {p : Int32}
theorem z8_told {o : Int32} : CT g mX8_toldOperand 1 0 0 [.int o] σ (PQ σ (.int (coF o))) := by
  refine CT.of (by decide) (Nat.le_of_ble_eq_true rfl) ?_
  refine q_iload_n dX8_toldOperand_0 rfl rfl ?_
  refine q_ldc (v := nI 1000000016) dX8_toldOperand_1 kX8_231 ?_
  refine q_icmp_lt (tgt := 18) dX8_toldOperand_3 (by decide) (fun c3 => ?_) (fun c3 => ?_)
  · skip
    refine q_iload_n dX8_toldOperand_18 rfl rfl ?_
    refine q_callS (As := [.int o]) (rest := []) dX8_toldOperand_19 vX8_232 (z8_isName) rfl rfl (Nat.le_of_ble_eq_true rfl) (by omega) (by omega) (by omega) (k_p ?_)
    refine q_if_eqB (tgt := 34) dX8_toldOperand_22 (by decide) (fun c22 => ?_) (fun c22 => ?_)
    · skip
      refine q_sipush (v := (-999 : Int32)) dX8_toldOperand_34 rfl ?_
      refine q_sipush (v := nI 999) dX8_toldOperand_37 rfl ?_
      refine q_iload_n dX8_toldOperand_40 rfl rfl ?_
      refine q_mmin (z := if o < nI 999 then o else nI 999) dX8_toldOperand_41 vX8_235 (by omega) (by omega) (by omega) (Nat.le_of_ble_eq_true rfl) rfl ?_
      refine q_mmax (z := if (-999 : Int32) < if o < nI 999 then o else nI 999 then if o < nI 999 then o else nI 999 else (-999 : Int32)) dX8_toldOperand_44 vX8_240 (by omega) (by omega) (by omega) (Nat.le_of_ble_eq_true rfl) rfl ?_
      refine q_ireturn dX8_toldOperand_47 rfl rfl (by omega) (by omega) ?_
      unfold coF
      first | (rw [if_pos (Int32.not_lt.mp c3)]; exact ⟨rfl, rfl⟩) | (rw [if_neg (Int32.not_le.mpr c3), if_neg (of_decide_eq_false c22)]; exact ⟨rfl, rfl⟩) | (rw [if_neg (Int32.not_le.mpr c3), if_pos (of_decide_eq_true c22)]; exact ⟨rfl, rfl⟩)
    · skip
      refine q_sipush (v := nI 1000) dX8_toldOperand_25 rfl ?_
      refine q_iload_n dX8_toldOperand_28 rfl rfl ?_
      refine q_iadd dX8_toldOperand_29 ?_
      refine q_ldc (v := nI 1000000000) dX8_toldOperand_30 kX8_230 ?_
      refine q_isub dX8_toldOperand_32 ?_
      refine q_ireturn dX8_toldOperand_33 rfl rfl (by omega) (by omega) ?_
      unfold coF
      first | (rw [if_pos (Int32.not_lt.mp c3)]; exact ⟨rfl, rfl⟩) | (rw [if_neg (Int32.not_le.mpr c3), if_neg (of_decide_eq_false c22)]; exact ⟨rfl, rfl⟩) | (rw [if_neg (Int32.not_le.mpr c3), if_pos (of_decide_eq_true c22)]; exact ⟨rfl, rfl⟩)
  · skip
    refine q_sipush (v := nI 2000) dX8_toldOperand_6 rfl ?_
    refine q_iload_n dX8_toldOperand_9 rfl rfl ?_
    refine q_iadd dX8_toldOperand_10 ?_
    refine q_ldc (v := nI 1000000000) dX8_toldOperand_11 kX8_230 ?_
    refine q_isub dX8_toldOperand_13 ?_
    refine q_bipush (v := nI 16) dX8_toldOperand_14 rfl ?_
    refine q_isub dX8_toldOperand_16 ?_
    refine q_ireturn dX8_toldOperand_17 rfl rfl (by omega) (by omega) ?_
    unfold coF
    first | (rw [if_pos (Int32.not_lt.mp c3)]; exact ⟨rfl, rfl⟩) | (rw [if_neg (Int32.not_le.mpr c3), if_neg (of_decide_eq_false c22)]; exact ⟨rfl, rfl⟩) | (rw [if_neg (Int32.not_le.mpr c3), if_pos (of_decide_eq_true c22)]; exact ⟨rfl, rfl⟩)
theorem y2_nodes (hb : RB σ b) (h13 : sI σ b 13 = nI (psS q).length) (hc : BC q) (hrow : ∀ i, i < NN q → sI σ (b + 7) i = rS (rg q i)) {e : Nat} (he : e < 32) : ∀ (k n : Nat), n + k = (psS q).length → WA g mX2_countNodesThatWork 0 0 0 (ZM g (PQ σ (.int (nI (cnt (wk q e) (psS q).length)))) 0 0) 0 0 4 [(0, .ref b), (1, .int (nI e)), (2, .int (nI (cnt (wk q e) n))), (3, .int (nI n))] [] σ := by
  have hb14 : b = 14 ∨ 99 ≤ b := by rcases hb.1 with h | ⟨j, h⟩ <;> omega
  have h160 := hc.2.2.1
  intro k
  induction k with
  | zero =>
    intro n hn
    refine q_iload_n dX2_countNodesThatWork_4 rfl rfl ?_
    refine q_aload_n dX2_countNodesThatWork_5 rfl rfl rfl ?_
    refine q_geti (x := nI ((psS q).length)) dX2_countNodesThatWork_6 fX2_65 rfl (ty_r hb 0 rfl) h13 ?_
    refine q_icmp_geN (tgt := 36) dX2_countNodesThatWork_9 (by decide) (by omega) (by omega) (fun c9 => ?_) (fun c9 => ?_)
    · skip
      refine q_iload_n dX2_countNodesThatWork_36 rfl rfl ?_
      refine q_ireturn dX2_countNodesThatWork_37 rfl rfl (by omega) (by omega) ?_
      rw [← hn]
      exact ⟨rfl, rfl⟩
    · exact absurd c9 (by omega)
  | succ k ih =>
    intro n hn
    have hr := hrow n (by unfold NN; omega)
    have hc2 := cnt_le (wk q e) n
    have ew : cnt (wk q e) (n + 1) = cnt (wk q e) n + (if wk q e n = true then 1 else 0) := rfl
    by_cases hw : rS (rg q n) = nI e
    · have h1 : cnt (wk q e) (n + 1) = cnt (wk q e) n + 1 := by rw [ew, if_pos (show wk q e n = true from decide_eq_true hw)]
      refine q_iload_n dX2_countNodesThatWork_4 rfl rfl ?_
      refine q_aload_n dX2_countNodesThatWork_5 rfl rfl rfl ?_
      refine q_geti (x := nI ((psS q).length)) dX2_countNodesThatWork_6 fX2_65 rfl (ty_r hb 0 rfl) h13 ?_
      refine q_icmp_geN (tgt := 36) dX2_countNodesThatWork_9 (by decide) (by omega) (by omega) (fun c9 => ?_) (fun c9 => ?_)
      · exact absurd c9 (by omega)
      · skip
        refine q_iload_n dX2_countNodesThatWork_12 rfl rfl ?_
        refine q_aload_n dX2_countNodesThatWork_13 rfl rfl rfl ?_
        refine q_getr (r := b + 7) dX2_countNodesThatWork_14 fX2_26 rfl (ty_r hb 0 rfl) (hb.2.2 0 4 7 rfl) ?_
        refine q_iload_n dX2_countNodesThatWork_17 rfl rfl ?_
        refine q_iald (x := rS (rg q n)) (j := n) dX2_countNodesThatWork_18 (ty_r hb 7 rfl) (ix_n (by omega) (by omega)) hr ?_
        refine q_iload_n dX2_countNodesThatWork_19 rfl rfl ?_
        refine q_icmp_ne (tgt := 27) dX2_countNodesThatWork_20 (by decide) (fun c20 => ?_) (fun c20 => ?_)
        · exact absurd hw c20
        · skip
          refine q_iconst (v := nI 1) dX2_countNodesThatWork_23 rfl ?_
          refine q_goto (tgt := 28) dX2_countNodesThatWork_24 (by decide) ?_
          refine q_iaddN dX2_countNodesThatWork_28 ?_
          refine q_istore_n dX2_countNodesThatWork_29 rfl (by decide) (ls' := [(2, .int (nI ((cnt (wk q e) n) + 1))), (0, .ref b), (1, .int (nI e)), (3, .int (nI n))]) rfl ?_
          refine q_iincN (c := 1) dX2_countNodesThatWork_30 rfl (by decide) rfl (ls' := [(3, .int (nI (n + 1))), (2, .int (nI ((cnt (wk q e) n) + 1))), (0, .ref b), (1, .int (nI e))]) rfl ?_
          refine q_goto (tgt := 4) dX2_countNodesThatWork_33 (by decide) ?_
          refine q_pk [2, 3, 1, 0] (ls' := [(0, .ref b), (1, .int (nI e)), (2, .int (nI ((cnt (wk q e) n) + 1))), (3, .int (nI (n + 1)))]) rfl ?_
          have := ih (n + 1) (by omega)
          rw [h1] at this
          exact this
    · have h1 : cnt (wk q e) (n + 1) = cnt (wk q e) n := by rw [ew, if_neg (show ¬ wk q e n = true from fun z => hw (of_decide_eq_true z))]; rfl
      refine q_iload_n dX2_countNodesThatWork_4 rfl rfl ?_
      refine q_aload_n dX2_countNodesThatWork_5 rfl rfl rfl ?_
      refine q_geti (x := nI ((psS q).length)) dX2_countNodesThatWork_6 fX2_65 rfl (ty_r hb 0 rfl) h13 ?_
      refine q_icmp_geN (tgt := 36) dX2_countNodesThatWork_9 (by decide) (by omega) (by omega) (fun c9 => ?_) (fun c9 => ?_)
      · exact absurd c9 (by omega)
      · skip
        refine q_iload_n dX2_countNodesThatWork_12 rfl rfl ?_
        refine q_aload_n dX2_countNodesThatWork_13 rfl rfl rfl ?_
        refine q_getr (r := b + 7) dX2_countNodesThatWork_14 fX2_26 rfl (ty_r hb 0 rfl) (hb.2.2 0 4 7 rfl) ?_
        refine q_iload_n dX2_countNodesThatWork_17 rfl rfl ?_
        refine q_iald (x := rS (rg q n)) (j := n) dX2_countNodesThatWork_18 (ty_r hb 7 rfl) (ix_n (by omega) (by omega)) hr ?_
        refine q_iload_n dX2_countNodesThatWork_19 rfl rfl ?_
        refine q_icmp_ne (tgt := 27) dX2_countNodesThatWork_20 (by decide) (fun c20 => ?_) (fun c20 => ?_)
        · skip
          refine q_iconst (v := nI 0) dX2_countNodesThatWork_27 rfl ?_
          refine q_iaddN dX2_countNodesThatWork_28 ?_
          refine q_istore_n dX2_countNodesThatWork_29 rfl (by decide) (ls' := [(2, .int (nI ((cnt (wk q e) n) + 0))), (0, .ref b), (1, .int (nI e)), (3, .int (nI n))]) rfl ?_
          refine q_iincN (c := 1) dX2_countNodesThatWork_30 rfl (by decide) rfl (ls' := [(3, .int (nI (n + 1))), (2, .int (nI ((cnt (wk q e) n) + 0))), (0, .ref b), (1, .int (nI e))]) rfl ?_
          refine q_goto (tgt := 4) dX2_countNodesThatWork_33 (by decide) ?_
          refine q_pk [2, 3, 1, 0] (ls' := [(0, .ref b), (1, .int (nI e)), (2, .int (nI ((cnt (wk q e) n) + 0))), (3, .int (nI (n + 1)))]) rfl ?_
          have := ih (n + 1) (by omega)
          rw [h1] at this
          exact this
        · exact absurd c20 hw
theorem z2_nodes (hb : RB σ b) (h13 : sI σ b 13 = nI (psS q).length) (hc : BC q) (hrow : ∀ i, i < NN q → sI σ (b + 7) i = rS (rg q i)) {e : Nat} (he : e < 32) : CT g mX2_countNodesThatWork 0 0 0 [.ref b, .int (nI e)] σ (PQ σ (.int (nI (cnt (wk q e) (psS q).length)))) := by
  refine CT.of (by decide) (Nat.le_of_ble_eq_true rfl) ?_
  refine q_iconst (v := nI 0) dX2_countNodesThatWork_0 rfl ?_
  refine q_istore_n dX2_countNodesThatWork_1 rfl (by decide) (ls' := [(2, .int (nI 0)), (0, .ref b), (1, .int (nI e))]) rfl ?_
  refine q_iconst (v := nI 0) dX2_countNodesThatWork_2 rfl ?_
  refine q_istore_n dX2_countNodesThatWork_3 rfl (by decide) (ls' := [(3, .int (nI 0)), (2, .int (nI 0)), (0, .ref b), (1, .int (nI e))]) rfl ?_
  refine q_pk [2, 3, 1, 0] (ls' := [(0, .ref b), (1, .int (nI e)), (2, .int (nI 0)), (3, .int (nI 0))]) rfl ?_
  exact y2_nodes hb h13 hc hrow he (psS q).length 0 (by omega)
theorem z4_has0 {ss : List SUM} {m : Bool} (hb : RB σ b) (hs : SR σ b ss m) {e : Int32} (he : ¬ (¬ e < 0 ∧ e < nI ss.length)) : CT g mX4_has 0 0 0 [.ref (b + 17), .int e] σ (PQ σ (.int (bi false))) := by
  have hb14 : b = 14 ∨ 99 ≤ b := by rcases hb.1 with h | ⟨j, h⟩ <;> omega
  obtain ⟨s1, s2, s3, s4⟩ := hs
  refine CT.of (by decide) (Nat.le_of_ble_eq_true rfl) ?_
  refine q_iload_n dX4_has_0 rfl rfl ?_
  refine q_if_lt (tgt := 16) dX4_has_1 (by decide) (fun c1 => ?_) (fun c1 => ?_)
  · skip
    refine q_iconst (v := nI 0) dX4_has_16 rfl ?_
    refine q_ireturn dX4_has_17 rfl rfl (by omega) (by omega) ?_
    first | exact ⟨rfl, rfl⟩ | exact absurd ⟨c1, Int32.not_le.mp c9⟩ he
  · skip
    refine q_iload_n dX4_has_4 rfl rfl ?_
    refine q_aload_n dX4_has_5 rfl rfl rfl ?_
    refine q_geti (x := nI ss.length) dX4_has_6 fX4_21 rfl (ty_r hb 17 rfl) s1 ?_
    refine q_icmp_ge (tgt := 16) dX4_has_9 (by decide) (fun c9 => ?_) (fun c9 => ?_)
    · skip
      refine q_iconst (v := nI 0) dX4_has_16 rfl ?_
      refine q_ireturn dX4_has_17 rfl rfl (by omega) (by omega) ?_
      first | exact ⟨rfl, rfl⟩ | exact absurd ⟨c1, Int32.not_le.mp c9⟩ he
    · skip
      refine q_iconst (v := nI 1) dX4_has_12 rfl ?_
      refine q_goto (tgt := 17) dX4_has_13 (by decide) ?_
      refine q_ireturn dX4_has_17 rfl rfl (by omega) (by omega) ?_
      first | exact ⟨rfl, rfl⟩ | exact absurd ⟨c1, Int32.not_le.mp c9⟩ he
/-- the set of what a SUM has at a NODE -/
noncomputable def atB (q : PS) (w e n : Nat) : Bool := match w with
  | 0 => wk q e n
  | 1 => kl q e n
  | 2 => wtd q e n
  | 3 => the q e n
  | 4 => ear q e n
  | 5 => dly q e n
  | 6 => lst q e n
  | _ => alo q e n
theorem z0_setAt (hb : RB σ b) (hN : NN q ≤ 240) (hx : FX σ b q) {w : Nat} (hw : w < 8) {n : Nat} (hn : n < NN q) : CT g mX0_setAt 0 0 0 [.ref (b + 21), .int (nI w), .int (nI n)] σ (PQ σ (.int (mkN (fun e => atB q w e n) (psM q).length))) := by
  have hb14 : b = 14 ∨ 99 ≤ b := by rcases hb.1 with h | ⟨j, h⟩ <;> omega
  obtain ⟨f1, f2, f3, f4, f5, f6, f7, f8, f9, f10⟩ := hx
  have g1 := f1 n hn
  have g2 := f2 n hn
  have g3 := f3 n hn
  have g4 := f4 n hn
  have g5 := f5 n hn
  have g6 := f6 n hn
  have g7 := f7 n hn
  have g8 := f8 n hn
  rcases (show w = 0 ∨ w = 1 ∨ w = 2 ∨ w = 3 ∨ w = 4 ∨ w = 5 ∨ w = 6 ∨ w = 7 by omega) with rfl | rfl | rfl | rfl | rfl | rfl | rfl | rfl
  · skip
    refine CT.of (by decide) (Nat.le_of_ble_eq_true rfl) ?_
    refine q_iload_n dX0_setAt_0 rfl rfl ?_
    by_cases w1_0 : 0 = 0
    · refine q_tableEq 0 (tgt := 44) (off := 43) dX0_setAt_1 (by rw [w1_0]) (by decide) rfl (by decide) ?_
      refine q_aload_n dX0_setAt_44 rfl rfl rfl ?_
      refine q_getr (r := b + 22) dX0_setAt_45 fX0_9 rfl (ty_r hb 21 rfl) (hb.2.2 21 0 22 rfl) ?_
      refine q_iload_n dX0_setAt_48 rfl rfl ?_
      refine q_iald (x := mkN (fun e => wk q e n) (psM q).length) (j := n) dX0_setAt_49 (ty_r hb 22 rfl) (ix_n (by omega) (by omega)) g1 ?_
      refine q_ireturn dX0_setAt_50 rfl rfl (by omega) (by omega) ?_
      exact ⟨rfl, rfl⟩
    omega
  · skip
    refine CT.of (by decide) (Nat.le_of_ble_eq_true rfl) ?_
    refine q_iload_n dX0_setAt_0 rfl rfl ?_
    by_cases w1_1 : 1 = 1
    · refine q_tableEq 1 (tgt := 51) (off := 50) dX0_setAt_1 (by rw [w1_1]) (by decide) rfl (by decide) ?_
      refine q_aload_n dX0_setAt_51 rfl rfl rfl ?_
      refine q_getr (r := b + 23) dX0_setAt_52 fX0_15 rfl (ty_r hb 21 rfl) (hb.2.2 21 1 23 rfl) ?_
      refine q_iload_n dX0_setAt_55 rfl rfl ?_
      refine q_iald (x := mkN (fun e => kl q e n) (psM q).length) (j := n) dX0_setAt_56 (ty_r hb 23 rfl) (ix_n (by omega) (by omega)) g2 ?_
      refine q_ireturn dX0_setAt_57 rfl rfl (by omega) (by omega) ?_
      exact ⟨rfl, rfl⟩
    omega
  · skip
    refine CT.of (by decide) (Nat.le_of_ble_eq_true rfl) ?_
    refine q_iload_n dX0_setAt_0 rfl rfl ?_
    by_cases w1_2 : 2 = 2
    · refine q_tableEq 2 (tgt := 58) (off := 57) dX0_setAt_1 (by rw [w1_2]) (by decide) rfl (by decide) ?_
      refine q_aload_n dX0_setAt_58 rfl rfl rfl ?_
      refine q_getr (r := b + 24) dX0_setAt_59 fX0_18 rfl (ty_r hb 21 rfl) (hb.2.2 21 2 24 rfl) ?_
      refine q_iload_n dX0_setAt_62 rfl rfl ?_
      refine q_iald (x := mkN (fun e => wtd q e n) (psM q).length) (j := n) dX0_setAt_63 (ty_r hb 24 rfl) (ix_n (by omega) (by omega)) g3 ?_
      refine q_ireturn dX0_setAt_64 rfl rfl (by omega) (by omega) ?_
      exact ⟨rfl, rfl⟩
    omega
  · skip
    refine CT.of (by decide) (Nat.le_of_ble_eq_true rfl) ?_
    refine q_iload_n dX0_setAt_0 rfl rfl ?_
    by_cases w1_3 : 3 = 3
    · refine q_tableEq 3 (tgt := 65) (off := 64) dX0_setAt_1 (by rw [w1_3]) (by decide) rfl (by decide) ?_
      refine q_aload_n dX0_setAt_65 rfl rfl rfl ?_
      refine q_getr (r := b + 25) dX0_setAt_66 fX0_21 rfl (ty_r hb 21 rfl) (hb.2.2 21 3 25 rfl) ?_
      refine q_iload_n dX0_setAt_69 rfl rfl ?_
      refine q_iald (x := mkN (fun e => the q e n) (psM q).length) (j := n) dX0_setAt_70 (ty_r hb 25 rfl) (ix_n (by omega) (by omega)) g4 ?_
      refine q_ireturn dX0_setAt_71 rfl rfl (by omega) (by omega) ?_
      exact ⟨rfl, rfl⟩
    omega
  · skip
    refine CT.of (by decide) (Nat.le_of_ble_eq_true rfl) ?_
    refine q_iload_n dX0_setAt_0 rfl rfl ?_
    by_cases w1_4 : 4 = 4
    · refine q_tableEq 4 (tgt := 72) (off := 71) dX0_setAt_1 (by rw [w1_4]) (by decide) rfl (by decide) ?_
      refine q_aload_n dX0_setAt_72 rfl rfl rfl ?_
      refine q_getr (r := b + 26) dX0_setAt_73 fX0_24 rfl (ty_r hb 21 rfl) (hb.2.2 21 4 26 rfl) ?_
      refine q_iload_n dX0_setAt_76 rfl rfl ?_
      refine q_iald (x := mkN (fun e => ear q e n) (psM q).length) (j := n) dX0_setAt_77 (ty_r hb 26 rfl) (ix_n (by omega) (by omega)) g5 ?_
      refine q_ireturn dX0_setAt_78 rfl rfl (by omega) (by omega) ?_
      exact ⟨rfl, rfl⟩
    omega
  · skip
    refine CT.of (by decide) (Nat.le_of_ble_eq_true rfl) ?_
    refine q_iload_n dX0_setAt_0 rfl rfl ?_
    by_cases w1_5 : 5 = 5
    · refine q_tableEq 5 (tgt := 79) (off := 78) dX0_setAt_1 (by rw [w1_5]) (by decide) rfl (by decide) ?_
      refine q_aload_n dX0_setAt_79 rfl rfl rfl ?_
      refine q_getr (r := b + 27) dX0_setAt_80 fX0_27 rfl (ty_r hb 21 rfl) (hb.2.2 21 5 27 rfl) ?_
      refine q_iload_n dX0_setAt_83 rfl rfl ?_
      refine q_iald (x := mkN (fun e => dly q e n) (psM q).length) (j := n) dX0_setAt_84 (ty_r hb 27 rfl) (ix_n (by omega) (by omega)) g6 ?_
      refine q_ireturn dX0_setAt_85 rfl rfl (by omega) (by omega) ?_
      exact ⟨rfl, rfl⟩
    omega
  · skip
    refine CT.of (by decide) (Nat.le_of_ble_eq_true rfl) ?_
    refine q_iload_n dX0_setAt_0 rfl rfl ?_
    by_cases w1_6 : 6 = 6
    · refine q_tableEq 6 (tgt := 86) (off := 85) dX0_setAt_1 (by rw [w1_6]) (by decide) rfl (by decide) ?_
      refine q_aload_n dX0_setAt_86 rfl rfl rfl ?_
      refine q_getr (r := b + 28) dX0_setAt_87 fX0_30 rfl (ty_r hb 21 rfl) (hb.2.2 21 6 28 rfl) ?_
      refine q_iload_n dX0_setAt_90 rfl rfl ?_
      refine q_iald (x := mkN (fun e => lst q e n) (psM q).length) (j := n) dX0_setAt_91 (ty_r hb 28 rfl) (ix_n (by omega) (by omega)) g7 ?_
      refine q_ireturn dX0_setAt_92 rfl rfl (by omega) (by omega) ?_
      exact ⟨rfl, rfl⟩
    omega
  · skip
    refine CT.of (by decide) (Nat.le_of_ble_eq_true rfl) ?_
    refine q_iload_n dX0_setAt_0 rfl rfl ?_
    refine q_tableNe 0 6 (tgt := 93) dX0_setAt_1 (by decide) (fun v h1 h2 e => by have e2 := nI_inj (by omega) (by omega) e; omega) (by decide) ?_
    refine q_aload_n dX0_setAt_93 rfl rfl rfl ?_
    refine q_getr (r := b + 29) dX0_setAt_94 fX0_33 rfl (ty_r hb 21 rfl) (hb.2.2 21 7 29 rfl) ?_
    refine q_iload_n dX0_setAt_97 rfl rfl ?_
    refine q_iald (x := mkN (fun e => alo q e n) (psM q).length) (j := n) dX0_setAt_98 (ty_r hb 29 rfl) (ix_n (by omega) (by omega)) g8 ?_
    refine q_ireturn dX0_setAt_99 rfl rfl (by omega) (by omega) ?_
    exact ⟨rfl, rfl⟩
theorem z8_sum0 (hS : SK σ) (h : RA σ p none) {e w : Int32} : CT g mX8_sum 1 0 0 [.ref 1, .int p, .int e, .int w] σ (PQ σ (.int (-1))) := by
  refine CT.of (by decide) (Nat.le_of_ble_eq_true rfl) ?_
  refine q_aload_n dX8_sum_0 rfl rfl rfl ?_
  refine q_iload_n dX8_sum_1 rfl rfl ?_
  refine q_callV (As := [.int p]) (rest := []) dX8_sum_2 vX8_89 (ty_c hS (by decide) rfl) ⟨by decide, rfl⟩ (z8_routineAt0 hS h) rfl rfl (Nat.le_of_ble_eq_true rfl) (by omega) (by omega) (by omega) (k_p ?_)
  refine q_astore dX8_sum_5 rfl (by decide) (ls' := [(4, .ref 0), (0, .ref 1), (1, .int p), (2, .int e), (3, .int w)]) rfl ?_
  refine q_aload dX8_sum_7 rfl rfl ?_
  refine q_ifnull (tgt := 24) dX8_sum_9 (by decide) (fun c9 => ?_) (fun c9 => ?_)
  · skip
    refine q_iconst (v := (-1 : Int32)) dX8_sum_24 rfl ?_
    refine q_ireturn dX8_sum_25 rfl rfl (by omega) (by omega) ?_
    exact ⟨rfl, rfl⟩
  · exact absurd c9 (by omega)
theorem z8_sum1 (hS : SK σ) (h : RA σ p (some (b, q))) {e w : Int32} : CT g mX8_sum 2 0 0 [.ref 1, .int p, .int e, .int w] σ (PQ σ (.int (if ¬ e < 0 ∧ e < nI (psM q).length then smF q e.toNatClampNeg w else -1))) := by
  obtain ⟨i, hi, rfl, h0, hr⟩ := h
  simp only at h0 hr
  have hb := hr.1
  have hb14 : b = 14 ∨ 99 ≤ b := by rcases hb.1 with h | ⟨j, h⟩ <;> omega
  obtain ⟨-, hbc, hw, hnb, hxx, hF, g12, g13, g14, g16, hsr, g15, hrow, hfx⟩ := id hr
  have hNN := NN_le hbc
  have hNS : (psS q).length ≤ NN q := by unfold NN; omega
  have hk := hsr.2.1
  by_cases hn : ¬ e < 0 ∧ e < nI (psM q).length
  · rw [if_pos hn]
    obtain ⟨m, hm, rfl⟩ := n_in (by omega) hn
    obtain ⟨s1, s2, s3⟩ := hsr.2.2.2 m hm
    rw [nI_clamp (by omega)]
    refine CT.of (by decide) (Nat.le_of_ble_eq_true rfl) ?_
    refine q_aload_n dX8_sum_0 rfl rfl rfl ?_
    refine q_iload_n dX8_sum_1 rfl rfl ?_
    refine q_callV (As := [.int (nI i)]) (rest := []) dX8_sum_2 vX8_89 (ty_c hS (by decide) rfl) ⟨by decide, rfl⟩ (z8_routineAt1 hS hi hb h0) rfl rfl (Nat.le_of_ble_eq_true rfl) (by omega) (by omega) (by omega) (k_p ?_)
    refine q_astore dX8_sum_5 rfl (by decide) (ls' := [(4, .ref b), (0, .ref 1), (1, .int (nI i)), (2, .int (nI m)), (3, .int w)]) rfl ?_
    refine q_aload dX8_sum_7 rfl rfl ?_
    refine q_ifnull (tgt := 24) dX8_sum_9 (by decide) (fun c9 => ?_) (fun c9 => ?_)
    · exact absurd c9 (by omega)
    · skip
      refine q_aload dX8_sum_12 rfl rfl ?_
      refine q_getr (r := b + 17) dX8_sum_14 fX8_72 rfl (ty_r hb 0 rfl) (hb.2.2 0 10 17 rfl) ?_
      refine q_iload_n dX8_sum_17 rfl rfl ?_
      refine q_callV (As := [.int (nI m)]) (rest := []) dX8_sum_18 vX8_123 (ty_r hb 17 rfl) ⟨by decide, rfl⟩ (z4_has hb hsr hm) rfl rfl (Nat.le_of_ble_eq_true rfl) (by omega) (by omega) (by omega) (k_p ?_)
      refine q_if_neB (tgt := 26) dX8_sum_21 (by decide) (fun _ => ?_) (fun h => absurd h (by decide))
      refine q_iload_n dX8_sum_26 rfl rfl ?_
      by_cases w27_0 : w = nI 0
      · refine q_tableEq 0 (tgt := 60) (off := 33) dX8_sum_27 w27_0 (by decide) rfl (by decide) ?_
        refine q_aload dX8_sum_60 rfl rfl ?_
        refine q_getr (r := b + 17) dX8_sum_62 fX8_72 rfl (ty_r hb 0 rfl) (hb.2.2 0 10 17 rfl) ?_
        refine q_getr (r := b + 18) dX8_sum_65 fX8_126 rfl (ty_r hb 17 rfl) (hb.2.2 17 0 18 rfl) ?_
        refine q_iload_n dX8_sum_68 rfl rfl ?_
        refine q_iald (x := (sm q m).1) (j := m) dX8_sum_69 (ty_r hb 18 rfl) (ix_n (by omega) (by omega)) s1 ?_
        refine q_ireturn dX8_sum_70 rfl rfl (by omega) (by omega) ?_
        unfold smF
        first | (rw [if_pos w27_0]; first | exact ⟨rfl, rfl⟩ | exact fin_f c108 | exact fin_t c108) | (rw [if_neg w27_0, if_pos w27_1]; first | exact ⟨rfl, rfl⟩ | exact fin_f c108 | exact fin_t c108) | (rw [if_neg w27_0, if_neg w27_1, if_pos w27_2]; first | exact ⟨rfl, rfl⟩ | exact fin_f c108 | exact fin_t c108) | (rw [if_neg w27_0, if_neg w27_1, if_neg w27_2, if_pos w27_3]; first | exact ⟨rfl, rfl⟩ | exact fin_f c108 | exact fin_t c108) | (rw [if_neg w27_0, if_neg w27_1, if_neg w27_2, if_neg w27_3, if_pos w27_4]; first | exact ⟨rfl, rfl⟩ | exact fin_f c108 | exact fin_t c108) | (rw [if_neg w27_0, if_neg w27_1, if_neg w27_2, if_neg w27_3, if_neg w27_4]; first | exact ⟨rfl, rfl⟩ | exact fin_f c108 | exact fin_t c108)
      by_cases w27_1 : w = nI 1
      · refine q_tableEq 1 (tgt := 71) (off := 44) dX8_sum_27 w27_1 (by decide) rfl (by decide) ?_
        refine q_aload dX8_sum_71 rfl rfl ?_
        refine q_getr (r := b + 17) dX8_sum_73 fX8_72 rfl (ty_r hb 0 rfl) (hb.2.2 0 10 17 rfl) ?_
        refine q_getr (r := b + 19) dX8_sum_76 fX8_129 rfl (ty_r hb 17 rfl) (hb.2.2 17 1 19 rfl) ?_
        refine q_iload_n dX8_sum_79 rfl rfl ?_
        refine q_iald (x := (sm q m).2.1) (j := m) dX8_sum_80 (ty_r hb 19 rfl) (ix_n (by omega) (by omega)) s2 ?_
        refine q_callS (As := [.int ((sm q m).2.1)]) (rest := []) dX8_sum_81 vX8_132 (z8_told) rfl rfl (Nat.le_of_ble_eq_true rfl) (by omega) (by omega) (by omega) (k_p ?_)
        refine q_ireturn dX8_sum_84 rfl rfl (by omega) (by omega) ?_
        unfold smF
        first | (rw [if_pos w27_0]; first | exact ⟨rfl, rfl⟩ | exact fin_f c108 | exact fin_t c108) | (rw [if_neg w27_0, if_pos w27_1]; first | exact ⟨rfl, rfl⟩ | exact fin_f c108 | exact fin_t c108) | (rw [if_neg w27_0, if_neg w27_1, if_pos w27_2]; first | exact ⟨rfl, rfl⟩ | exact fin_f c108 | exact fin_t c108) | (rw [if_neg w27_0, if_neg w27_1, if_neg w27_2, if_pos w27_3]; first | exact ⟨rfl, rfl⟩ | exact fin_f c108 | exact fin_t c108) | (rw [if_neg w27_0, if_neg w27_1, if_neg w27_2, if_neg w27_3, if_pos w27_4]; first | exact ⟨rfl, rfl⟩ | exact fin_f c108 | exact fin_t c108) | (rw [if_neg w27_0, if_neg w27_1, if_neg w27_2, if_neg w27_3, if_neg w27_4]; first | exact ⟨rfl, rfl⟩ | exact fin_f c108 | exact fin_t c108)
      by_cases w27_2 : w = nI 2
      · refine q_tableEq 2 (tgt := 85) (off := 58) dX8_sum_27 w27_2 (by decide) rfl (by decide) ?_
        refine q_aload dX8_sum_85 rfl rfl ?_
        refine q_getr (r := b + 17) dX8_sum_87 fX8_72 rfl (ty_r hb 0 rfl) (hb.2.2 0 10 17 rfl) ?_
        refine q_getr (r := b + 20) dX8_sum_90 fX8_135 rfl (ty_r hb 17 rfl) (hb.2.2 17 2 20 rfl) ?_
        refine q_iload_n dX8_sum_93 rfl rfl ?_
        refine q_iald (x := (sm q m).2.2) (j := m) dX8_sum_94 (ty_r hb 20 rfl) (ix_n (by omega) (by omega)) s3 ?_
        refine q_callS (As := [.int ((sm q m).2.2)]) (rest := []) dX8_sum_95 vX8_132 (z8_told) rfl rfl (Nat.le_of_ble_eq_true rfl) (by omega) (by omega) (by omega) (k_p ?_)
        refine q_ireturn dX8_sum_98 rfl rfl (by omega) (by omega) ?_
        unfold smF
        first | (rw [if_pos w27_0]; first | exact ⟨rfl, rfl⟩ | exact fin_f c108 | exact fin_t c108) | (rw [if_neg w27_0, if_pos w27_1]; first | exact ⟨rfl, rfl⟩ | exact fin_f c108 | exact fin_t c108) | (rw [if_neg w27_0, if_neg w27_1, if_pos w27_2]; first | exact ⟨rfl, rfl⟩ | exact fin_f c108 | exact fin_t c108) | (rw [if_neg w27_0, if_neg w27_1, if_neg w27_2, if_pos w27_3]; first | exact ⟨rfl, rfl⟩ | exact fin_f c108 | exact fin_t c108) | (rw [if_neg w27_0, if_neg w27_1, if_neg w27_2, if_neg w27_3, if_pos w27_4]; first | exact ⟨rfl, rfl⟩ | exact fin_f c108 | exact fin_t c108) | (rw [if_neg w27_0, if_neg w27_1, if_neg w27_2, if_neg w27_3, if_neg w27_4]; first | exact ⟨rfl, rfl⟩ | exact fin_f c108 | exact fin_t c108)
      by_cases w27_3 : w = nI 3
      · refine q_tableEq 3 (tgt := 99) (off := 72) dX8_sum_27 w27_3 (by decide) rfl (by decide) ?_
        refine q_aload dX8_sum_99 rfl rfl ?_
        refine q_getr (r := b + 17) dX8_sum_101 fX8_72 rfl (ty_r hb 0 rfl) (hb.2.2 0 10 17 rfl) ?_
        refine q_iload_n dX8_sum_104 rfl rfl ?_
        refine q_callV (As := [.int (nI m)]) (rest := []) dX8_sum_105 vX8_138 (ty_r hb 17 rfl) ⟨by decide, rfl⟩ (z4_isBold hb hsr hm) rfl rfl (Nat.le_of_ble_eq_true rfl) (by omega) (by omega) (by omega) (k_p ?_)
        refine q_if_eqB (tgt := 115) dX8_sum_108 (by decide) (fun c108 => ?_) (fun c108 => ?_)
        · skip
          refine q_iconst (v := nI 0) dX8_sum_115 rfl ?_
          refine q_ireturn dX8_sum_116 rfl rfl (by omega) (by omega) ?_
          unfold smF
          first | (rw [if_pos w27_0]; first | exact ⟨rfl, rfl⟩ | exact fin_f c108 | exact fin_t c108) | (rw [if_neg w27_0, if_pos w27_1]; first | exact ⟨rfl, rfl⟩ | exact fin_f c108 | exact fin_t c108) | (rw [if_neg w27_0, if_neg w27_1, if_pos w27_2]; first | exact ⟨rfl, rfl⟩ | exact fin_f c108 | exact fin_t c108) | (rw [if_neg w27_0, if_neg w27_1, if_neg w27_2, if_pos w27_3]; first | exact ⟨rfl, rfl⟩ | exact fin_f c108 | exact fin_t c108) | (rw [if_neg w27_0, if_neg w27_1, if_neg w27_2, if_neg w27_3, if_pos w27_4]; first | exact ⟨rfl, rfl⟩ | exact fin_f c108 | exact fin_t c108) | (rw [if_neg w27_0, if_neg w27_1, if_neg w27_2, if_neg w27_3, if_neg w27_4]; first | exact ⟨rfl, rfl⟩ | exact fin_f c108 | exact fin_t c108)
        · skip
          refine q_iconst (v := nI 1) dX8_sum_111 rfl ?_
          refine q_goto (tgt := 116) dX8_sum_112 (by decide) ?_
          refine q_ireturn dX8_sum_116 rfl rfl (by omega) (by omega) ?_
          unfold smF
          first | (rw [if_pos w27_0]; first | exact ⟨rfl, rfl⟩ | exact fin_f c108 | exact fin_t c108) | (rw [if_neg w27_0, if_pos w27_1]; first | exact ⟨rfl, rfl⟩ | exact fin_f c108 | exact fin_t c108) | (rw [if_neg w27_0, if_neg w27_1, if_pos w27_2]; first | exact ⟨rfl, rfl⟩ | exact fin_f c108 | exact fin_t c108) | (rw [if_neg w27_0, if_neg w27_1, if_neg w27_2, if_pos w27_3]; first | exact ⟨rfl, rfl⟩ | exact fin_f c108 | exact fin_t c108) | (rw [if_neg w27_0, if_neg w27_1, if_neg w27_2, if_neg w27_3, if_pos w27_4]; first | exact ⟨rfl, rfl⟩ | exact fin_f c108 | exact fin_t c108) | (rw [if_neg w27_0, if_neg w27_1, if_neg w27_2, if_neg w27_3, if_neg w27_4]; first | exact ⟨rfl, rfl⟩ | exact fin_f c108 | exact fin_t c108)
      by_cases w27_4 : w = nI 4
      · refine q_tableEq 4 (tgt := 117) (off := 90) dX8_sum_27 w27_4 (by decide) rfl (by decide) ?_
        refine q_aload dX8_sum_117 rfl rfl ?_
        refine q_iload_n dX8_sum_119 rfl rfl ?_
        refine q_callV (As := [.int (nI m)]) (rest := []) dX8_sum_120 vX8_141 (ty_r hb 0 rfl) ⟨by decide, rfl⟩ (z2_nodes hb g13 hbc (fun i hi => (hrow i hi).1.2.2.2.2.2.1) (by omega)) rfl rfl (Nat.le_of_ble_eq_true rfl) (by omega) (by omega) (by omega) (k_p ?_)
        refine q_ireturn dX8_sum_123 rfl rfl (by omega) (by omega) ?_
        unfold smF
        first | (rw [if_pos w27_0]; first | exact ⟨rfl, rfl⟩ | exact fin_f c108 | exact fin_t c108) | (rw [if_neg w27_0, if_pos w27_1]; first | exact ⟨rfl, rfl⟩ | exact fin_f c108 | exact fin_t c108) | (rw [if_neg w27_0, if_neg w27_1, if_pos w27_2]; first | exact ⟨rfl, rfl⟩ | exact fin_f c108 | exact fin_t c108) | (rw [if_neg w27_0, if_neg w27_1, if_neg w27_2, if_pos w27_3]; first | exact ⟨rfl, rfl⟩ | exact fin_f c108 | exact fin_t c108) | (rw [if_neg w27_0, if_neg w27_1, if_neg w27_2, if_neg w27_3, if_pos w27_4]; first | exact ⟨rfl, rfl⟩ | exact fin_f c108 | exact fin_t c108) | (rw [if_neg w27_0, if_neg w27_1, if_neg w27_2, if_neg w27_3, if_neg w27_4]; first | exact ⟨rfl, rfl⟩ | exact fin_f c108 | exact fin_t c108)
      refine q_tableNe 0 4 (tgt := 124) dX8_sum_27 (by decide) (fun v h1 h2 => by rcases (show v = 0 ∨ v = 1 ∨ v = 2 ∨ v = 3 ∨ v = 4 by omega) with rfl | rfl | rfl | rfl | rfl <;> assumption) (by decide) ?_
      refine q_iconst (v := (-1 : Int32)) dX8_sum_124 rfl ?_
      refine q_ireturn dX8_sum_125 rfl rfl (by omega) (by omega) ?_
      unfold smF
      first | (rw [if_pos w27_0]; first | exact ⟨rfl, rfl⟩ | exact fin_f c108 | exact fin_t c108) | (rw [if_neg w27_0, if_pos w27_1]; first | exact ⟨rfl, rfl⟩ | exact fin_f c108 | exact fin_t c108) | (rw [if_neg w27_0, if_neg w27_1, if_pos w27_2]; first | exact ⟨rfl, rfl⟩ | exact fin_f c108 | exact fin_t c108) | (rw [if_neg w27_0, if_neg w27_1, if_neg w27_2, if_pos w27_3]; first | exact ⟨rfl, rfl⟩ | exact fin_f c108 | exact fin_t c108) | (rw [if_neg w27_0, if_neg w27_1, if_neg w27_2, if_neg w27_3, if_pos w27_4]; first | exact ⟨rfl, rfl⟩ | exact fin_f c108 | exact fin_t c108) | (rw [if_neg w27_0, if_neg w27_1, if_neg w27_2, if_neg w27_3, if_neg w27_4]; first | exact ⟨rfl, rfl⟩ | exact fin_f c108 | exact fin_t c108)
  · rw [if_neg hn]
    refine CT.of (by decide) (Nat.le_of_ble_eq_true rfl) ?_
    refine q_aload_n dX8_sum_0 rfl rfl rfl ?_
    refine q_iload_n dX8_sum_1 rfl rfl ?_
    refine q_callV (As := [.int (nI i)]) (rest := []) dX8_sum_2 vX8_89 (ty_c hS (by decide) rfl) ⟨by decide, rfl⟩ (z8_routineAt1 hS hi hb h0) rfl rfl (Nat.le_of_ble_eq_true rfl) (by omega) (by omega) (by omega) (k_p ?_)
    refine q_astore dX8_sum_5 rfl (by decide) (ls' := [(4, .ref b), (0, .ref 1), (1, .int (nI i)), (2, .int e), (3, .int w)]) rfl ?_
    refine q_aload dX8_sum_7 rfl rfl ?_
    refine q_ifnull (tgt := 24) dX8_sum_9 (by decide) (fun c9 => ?_) (fun c9 => ?_)
    · exact absurd c9 (by omega)
    · skip
      refine q_aload dX8_sum_12 rfl rfl ?_
      refine q_getr (r := b + 17) dX8_sum_14 fX8_72 rfl (ty_r hb 0 rfl) (hb.2.2 0 10 17 rfl) ?_
      refine q_iload_n dX8_sum_17 rfl rfl ?_
      refine q_callV (As := [.int e]) (rest := []) dX8_sum_18 vX8_123 (ty_r hb 17 rfl) ⟨by decide, rfl⟩ (z4_has0 hb hsr hn) rfl rfl (Nat.le_of_ble_eq_true rfl) (by omega) (by omega) (by omega) (k_p ?_)
      refine q_if_neB (tgt := 26) dX8_sum_21 (by decide) (fun h => absurd h (by decide)) (fun _ => ?_)
      refine q_iconst (v := (-1 : Int32)) dX8_sum_24 rfl ?_
      refine q_ireturn dX8_sum_25 rfl rfl (by omega) (by omega) ?_
      exact ⟨rfl, rfl⟩
theorem z8_at0 (hS : SK σ) (h : RA σ p none) {e n w : Int32} : CT g mX8_at 1 0 0 [.ref 1, .int p, .int e, .int n, .int w] σ (PQ σ (.int (-1))) := by
  refine CT.of (by decide) (Nat.le_of_ble_eq_true rfl) ?_
  refine q_aload_n dX8_at_0 rfl rfl rfl ?_
  refine q_iload_n dX8_at_1 rfl rfl ?_
  refine q_callV (As := [.int p]) (rest := []) dX8_at_2 vX8_89 (ty_c hS (by decide) rfl) ⟨by decide, rfl⟩ (z8_routineAt0 hS h) rfl rfl (Nat.le_of_ble_eq_true rfl) (by omega) (by omega) (by omega) (k_p ?_)
  refine q_astore dX8_at_5 rfl (by decide) (ls' := [(5, .ref 0), (0, .ref 1), (1, .int p), (2, .int e), (3, .int n), (4, .int w)]) rfl ?_
  refine q_aload dX8_at_7 rfl rfl ?_
  refine q_ifnull (tgt := 45) dX8_at_9 (by decide) (fun c9 => ?_) (fun c9 => ?_)
  · skip
    refine q_iconst (v := (-1 : Int32)) dX8_at_45 rfl ?_
    refine q_ireturn dX8_at_46 rfl rfl (by omega) (by omega) ?_
    exact ⟨rfl, rfl⟩
  · exact absurd c9 (by omega)
theorem z8_at1 (hS : SK σ) (h : RA σ p (some (b, q))) {e n w : Int32} : CT g mX8_at 1 0 0 [.ref 1, .int p, .int e, .int n, .int w] σ (PQ σ (.int (if (¬ e < 0 ∧ e < nI (psM q).length) ∧ (¬ n < 0 ∧ n < nI (NN q)) ∧ ¬ w < 0 ∧ w < nI 8 then bi (atB q w.toNatClampNeg e.toNatClampNeg n.toNatClampNeg) else -1))) := by
  obtain ⟨i, hi, rfl, h0, hr⟩ := h
  simp only at h0 hr
  have hb := hr.1
  have hb14 : b = 14 ∨ 99 ≤ b := by rcases hb.1 with h | ⟨j, h⟩ <;> omega
  obtain ⟨-, hbc, hw, hnb, hxx, hF, g12, g13, g14, g16, hsr, g15, hrow, hfx⟩ := id hr
  have hNN := NN_le hbc
  have hNS : (psS q).length ≤ NN q := by unfold NN; omega
  have hk := hsr.2.1
  by_cases he : ¬ e < 0 ∧ e < nI (psM q).length
  · by_cases hn : ¬ n < 0 ∧ n < nI (NN q)
    · obtain ⟨m, hm, rfl⟩ := n_in (by omega) he
      obtain ⟨k, hk2, rfl⟩ := n_in (by omega) hn
      by_cases hw2 : ¬ w < 0 ∧ w < nI 8
      · rw [if_pos ⟨he, hn, hw2⟩]
        obtain ⟨v, hv, rfl⟩ := n_in (by omega) hw2
        rw [nI_clamp (by omega), nI_clamp (by omega), nI_clamp (by omega)]
        refine CT.of (by decide) (Nat.le_of_ble_eq_true rfl) ?_
        refine q_aload_n dX8_at_0 rfl rfl rfl ?_
        refine q_iload_n dX8_at_1 rfl rfl ?_
        refine q_callV (As := [.int (nI i)]) (rest := []) dX8_at_2 vX8_89 (ty_c hS (by decide) rfl) ⟨by decide, rfl⟩ (z8_routineAt1 hS hi hb h0) rfl rfl (Nat.le_of_ble_eq_true rfl) (by omega) (by omega) (by omega) (k_p ?_)
        refine q_astore dX8_at_5 rfl (by decide) (ls' := [(5, .ref b), (0, .ref 1), (1, .int (nI i)), (2, .int (nI m)), (3, .int (nI k)), (4, .int (nI v))]) rfl ?_
        refine q_aload dX8_at_7 rfl rfl ?_
        refine q_ifnull (tgt := 45) dX8_at_9 (by decide) (fun c9 => ?_) (fun c9 => ?_)
        · exact absurd c9 (by omega)
        · skip
          refine q_aload dX8_at_12 rfl rfl ?_
          refine q_getr (r := b + 17) dX8_at_14 fX8_72 rfl (ty_r hb 0 rfl) (hb.2.2 0 10 17 rfl) ?_
          refine q_iload_n dX8_at_17 rfl rfl ?_
          refine q_callV (As := [.int (nI m)]) (rest := []) dX8_at_18 vX8_123 (ty_r hb 17 rfl) ⟨by decide, rfl⟩ (z4_has hb hsr hm) rfl rfl (Nat.le_of_ble_eq_true rfl) (by omega) (by omega) (by omega) (k_p ?_)
          refine q_if_eqB (tgt := 45) dX8_at_21 (by decide) (fun h => absurd h (by decide)) (fun _ => ?_)
          refine q_aload dX8_at_24 rfl rfl ?_
          refine q_iload_n dX8_at_26 rfl rfl ?_
          refine q_callV (As := [.int (nI k)]) (rest := []) dX8_at_27 vX8_102 (ty_r hb 0 rfl) ⟨by decide, rfl⟩ (z2_hasNode1 hb g14 hk2 hNN) rfl rfl (Nat.le_of_ble_eq_true rfl) (by omega) (by omega) (by omega) (k_p ?_)
          refine q_if_eqB (tgt := 45) dX8_at_30 (by decide) (fun h => absurd h (by decide)) (fun _ => ?_)
          refine q_iload dX8_at_33 rfl ?_
          refine q_if_ltN (tgt := 45) dX8_at_35 (by decide) (by omega) ?_
          refine q_iload dX8_at_38 rfl ?_
          refine q_bipush (v := nI 7) dX8_at_40 rfl ?_
          refine q_icmp_leN (tgt := 47) dX8_at_42 (by decide) (by omega) (by omega) (fun c42 => ?_) (fun c42 => ?_)
          · skip
            refine q_aload dX8_at_47 rfl rfl ?_
            refine q_getr (r := b + 21) dX8_at_49 fX8_144 rfl (ty_r hb 0 rfl) (hb.2.2 0 11 21 rfl) ?_
            refine q_iload dX8_at_52 rfl ?_
            refine q_iload_n dX8_at_54 rfl rfl ?_
            refine q_callV (As := [.int (nI v), .int (nI k)]) (rest := []) dX8_at_55 vX8_148 (ty_r hb 21 rfl) ⟨by decide, rfl⟩ (z0_setAt hb hNN hfx hv hk2) rfl rfl (Nat.le_of_ble_eq_true rfl) (by omega) (by omega) (by omega) (k_p ?_)
            refine q_iload_n dX8_at_58 rfl rfl ?_
            refine q_iushr (v := ((mkN (fun e => atB q v e k) (psM q).length).toUInt32 >>> ((nI m).toUInt32 &&& Int32.toUInt32 31)).toInt32) dX8_at_59 rfl ?_
            refine q_iconst (v := nI 1) dX8_at_60 rfl ?_
            refine q_iand dX8_at_61 ?_
            refine q_top (y := bi (atB q v m k)) (mk_bit hk hm) ?_
            refine q_ireturn dX8_at_62 rfl rfl (by omega) (by omega) ?_
            exact ⟨rfl, rfl⟩
          · exact absurd c42 (by omega)
      · rw [if_neg fun z => hw2 z.2.2]
        refine CT.of (by decide) (Nat.le_of_ble_eq_true rfl) ?_
        refine q_aload_n dX8_at_0 rfl rfl rfl ?_
        refine q_iload_n dX8_at_1 rfl rfl ?_
        refine q_callV (As := [.int (nI i)]) (rest := []) dX8_at_2 vX8_89 (ty_c hS (by decide) rfl) ⟨by decide, rfl⟩ (z8_routineAt1 hS hi hb h0) rfl rfl (Nat.le_of_ble_eq_true rfl) (by omega) (by omega) (by omega) (k_p ?_)
        refine q_astore dX8_at_5 rfl (by decide) (ls' := [(5, .ref b), (0, .ref 1), (1, .int (nI i)), (2, .int (nI m)), (3, .int (nI k)), (4, .int w)]) rfl ?_
        refine q_aload dX8_at_7 rfl rfl ?_
        refine q_ifnull (tgt := 45) dX8_at_9 (by decide) (fun c9 => ?_) (fun c9 => ?_)
        · exact absurd c9 (by omega)
        · skip
          refine q_aload dX8_at_12 rfl rfl ?_
          refine q_getr (r := b + 17) dX8_at_14 fX8_72 rfl (ty_r hb 0 rfl) (hb.2.2 0 10 17 rfl) ?_
          refine q_iload_n dX8_at_17 rfl rfl ?_
          refine q_callV (As := [.int (nI m)]) (rest := []) dX8_at_18 vX8_123 (ty_r hb 17 rfl) ⟨by decide, rfl⟩ (z4_has hb hsr hm) rfl rfl (Nat.le_of_ble_eq_true rfl) (by omega) (by omega) (by omega) (k_p ?_)
          refine q_if_eqB (tgt := 45) dX8_at_21 (by decide) (fun h => absurd h (by decide)) (fun _ => ?_)
          refine q_aload dX8_at_24 rfl rfl ?_
          refine q_iload_n dX8_at_26 rfl rfl ?_
          refine q_callV (As := [.int (nI k)]) (rest := []) dX8_at_27 vX8_102 (ty_r hb 0 rfl) ⟨by decide, rfl⟩ (z2_hasNode1 hb g14 hk2 hNN) rfl rfl (Nat.le_of_ble_eq_true rfl) (by omega) (by omega) (by omega) (k_p ?_)
          refine q_if_eqB (tgt := 45) dX8_at_30 (by decide) (fun h => absurd h (by decide)) (fun _ => ?_)
          refine q_iload dX8_at_33 rfl ?_
          refine q_if_lt (tgt := 45) dX8_at_35 (by decide) (fun c35 => ?_) (fun c35 => ?_)
          · skip
            refine q_iconst (v := (-1 : Int32)) dX8_at_45 rfl ?_
            refine q_ireturn dX8_at_46 rfl rfl (by omega) (by omega) ?_
            exact ⟨rfl, rfl⟩
          · skip
            refine q_iload dX8_at_38 rfl ?_
            refine q_bipush (v := nI 7) dX8_at_40 rfl ?_
            refine q_icmp_le (tgt := 47) dX8_at_42 (by decide) (fun c42 => ?_) (fun c42 => ?_)
            · exact absurd ⟨c35, lt_8 c42⟩ hw2
            · skip
              refine q_iconst (v := (-1 : Int32)) dX8_at_45 rfl ?_
              refine q_ireturn dX8_at_46 rfl rfl (by omega) (by omega) ?_
              exact ⟨rfl, rfl⟩
    · rw [if_neg fun z => hn z.2.1]
      obtain ⟨m, hm, rfl⟩ := n_in (by omega) he
      refine CT.of (by decide) (Nat.le_of_ble_eq_true rfl) ?_
      refine q_aload_n dX8_at_0 rfl rfl rfl ?_
      refine q_iload_n dX8_at_1 rfl rfl ?_
      refine q_callV (As := [.int (nI i)]) (rest := []) dX8_at_2 vX8_89 (ty_c hS (by decide) rfl) ⟨by decide, rfl⟩ (z8_routineAt1 hS hi hb h0) rfl rfl (Nat.le_of_ble_eq_true rfl) (by omega) (by omega) (by omega) (k_p ?_)
      refine q_astore dX8_at_5 rfl (by decide) (ls' := [(5, .ref b), (0, .ref 1), (1, .int (nI i)), (2, .int (nI m)), (3, .int n), (4, .int w)]) rfl ?_
      refine q_aload dX8_at_7 rfl rfl ?_
      refine q_ifnull (tgt := 45) dX8_at_9 (by decide) (fun c9 => ?_) (fun c9 => ?_)
      · exact absurd c9 (by omega)
      · skip
        refine q_aload dX8_at_12 rfl rfl ?_
        refine q_getr (r := b + 17) dX8_at_14 fX8_72 rfl (ty_r hb 0 rfl) (hb.2.2 0 10 17 rfl) ?_
        refine q_iload_n dX8_at_17 rfl rfl ?_
        refine q_callV (As := [.int (nI m)]) (rest := []) dX8_at_18 vX8_123 (ty_r hb 17 rfl) ⟨by decide, rfl⟩ (z4_has hb hsr hm) rfl rfl (Nat.le_of_ble_eq_true rfl) (by omega) (by omega) (by omega) (k_p ?_)
        refine q_if_eqB (tgt := 45) dX8_at_21 (by decide) (fun h => absurd h (by decide)) (fun _ => ?_)
        refine q_aload dX8_at_24 rfl rfl ?_
        refine q_iload_n dX8_at_26 rfl rfl ?_
        refine q_callV (As := [.int n]) (rest := []) dX8_at_27 vX8_102 (ty_r hb 0 rfl) ⟨by decide, rfl⟩ (z2_hasNode0 hb g14 hn) rfl rfl (Nat.le_of_ble_eq_true rfl) (by omega) (by omega) (by omega) (k_p ?_)
        refine q_if_eqB (tgt := 45) dX8_at_30 (by decide) (fun _ => ?_) (fun h => absurd h (by decide))
        refine q_iconst (v := (-1 : Int32)) dX8_at_45 rfl ?_
        refine q_ireturn dX8_at_46 rfl rfl (by omega) (by omega) ?_
        exact ⟨rfl, rfl⟩
  · rw [if_neg fun z => he z.1]
    refine CT.of (by decide) (Nat.le_of_ble_eq_true rfl) ?_
    refine q_aload_n dX8_at_0 rfl rfl rfl ?_
    refine q_iload_n dX8_at_1 rfl rfl ?_
    refine q_callV (As := [.int (nI i)]) (rest := []) dX8_at_2 vX8_89 (ty_c hS (by decide) rfl) ⟨by decide, rfl⟩ (z8_routineAt1 hS hi hb h0) rfl rfl (Nat.le_of_ble_eq_true rfl) (by omega) (by omega) (by omega) (k_p ?_)
    refine q_astore dX8_at_5 rfl (by decide) (ls' := [(5, .ref b), (0, .ref 1), (1, .int (nI i)), (2, .int e), (3, .int n), (4, .int w)]) rfl ?_
    refine q_aload dX8_at_7 rfl rfl ?_
    refine q_ifnull (tgt := 45) dX8_at_9 (by decide) (fun c9 => ?_) (fun c9 => ?_)
    · exact absurd c9 (by omega)
    · skip
      refine q_aload dX8_at_12 rfl rfl ?_
      refine q_getr (r := b + 17) dX8_at_14 fX8_72 rfl (ty_r hb 0 rfl) (hb.2.2 0 10 17 rfl) ?_
      refine q_iload_n dX8_at_17 rfl rfl ?_
      refine q_callV (As := [.int e]) (rest := []) dX8_at_18 vX8_123 (ty_r hb 17 rfl) ⟨by decide, rfl⟩ (z4_has0 hb hsr he) rfl rfl (Nat.le_of_ble_eq_true rfl) (by omega) (by omega) (by omega) (k_p ?_)
      refine q_if_eqB (tgt := 45) dX8_at_21 (by decide) (fun _ => ?_) (fun h => absurd h (by decide))
      refine q_iconst (v := (-1 : Int32)) dX8_at_45 rfl ?_
      refine q_ireturn dX8_at_46 rfl rfl (by omega) (by omega) ?_
      exact ⟨rfl, rfl⟩

end QUE2
