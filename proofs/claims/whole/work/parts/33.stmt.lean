/-! The class's parser: NODES, values. -/
theorem z2_newNode {g : GG} {σ : HS} {b : Nat} (hb : RB σ b) {n k bl : Nat} (hn : n < 240) (hN : sI σ b 14 = nI n) : CT g mX2_newNode 1 0 0 [.ref b, .int (nI k), .int (nI bl)] σ (PQ (uI (uI (uI (uI (uI (uI (uI (uI (uI (uI (uI σ b 14 (nI (n + 1))) (b + 1) n (nI k)) (b + 2) n (nI bl)) (b + 3) n (-1)) (b + 7) n (-1)) (b + 5) n (nI 0)) (b + 9) n (-1)) (b + 12) n (-1)) (b + 6) n (nI 0)) (b + 10) n (-1)) (b + 13) n (-1)) (.int (nI n))) := by
  have hb14 : b = 14 ∨ 99 ≤ b := by rcases hb.1 with h | ⟨j, h⟩ <;> omega
  refine CT.of (by decide) (Nat.le_of_ble_eq_true rfl) ?_
  refine q_aload_n dX2_newNode_0 rfl rfl rfl ?_
  refine q_geti (x := nI n) dX2_newNode_1 fX2_68 rfl (ty_r hb 0 rfl) hN ?_
  refine q_sipush (v := nI 239) dX2_newNode_4 rfl ?_
  refine q_mmin (z := nI n) dX2_newNode_7 vX2_82 (by omega) (by omega) (by omega) (Nat.le_of_ble_eq_true rfl) ((min_N (by omega) (by omega)).trans (by rw [Nat.min_eq_left (by omega)])) ?_
  refine q_istore_n dX2_newNode_10 rfl (by decide) (ls' := [(3, .int (nI n)), (0, .ref b), (1, .int (nI k)), (2, .int (nI bl))]) rfl ?_
  refine q_aload_n dX2_newNode_11 rfl rfl rfl ?_
  refine q_iload_n dX2_newNode_12 rfl rfl ?_
  refine q_iconst (v := nI 1) dX2_newNode_13 rfl ?_
  refine q_iaddN dX2_newNode_14 ?_
  refine q_puti dX2_newNode_15 fX2_68 rfl (Or.inl rfl) (ty_r hb 0 rfl) ?_
  refine q_aload_n dX2_newNode_18 rfl rfl rfl ?_
  refine q_getr (r := b + 1) dX2_newNode_19 fX2_9 rfl (ty_r hb 0 rfl) (hb.2.2 0 0 1 rfl) ?_
  refine q_iload_n dX2_newNode_22 rfl rfl ?_
  refine q_iload_n dX2_newNode_23 rfl rfl ?_
  refine q_iast (j := n) dX2_newNode_24 (ty_r hb 1 rfl) (ix_n (by omega) (by omega)) ?_
  refine q_aload_n dX2_newNode_25 rfl rfl rfl ?_
  refine q_getr (r := b + 2) dX2_newNode_26 fX2_15 rfl (ty_r hb 0 rfl) (hb.2.2 0 1 2 rfl) ?_
  refine q_iload_n dX2_newNode_29 rfl rfl ?_
  refine q_iload_n dX2_newNode_30 rfl rfl ?_
  refine q_iast (j := n) dX2_newNode_31 (ty_r hb 2 rfl) (ix_n (by omega) (by omega)) ?_
  refine q_aload_n dX2_newNode_32 rfl rfl rfl ?_
  refine q_getr (r := b + 3) dX2_newNode_33 fX2_18 rfl (ty_r hb 0 rfl) (hb.2.2 0 2 3 rfl) ?_
  refine q_iload_n dX2_newNode_36 rfl rfl ?_
  refine q_iconst (v := (-1 : Int32)) dX2_newNode_37 rfl ?_
  refine q_iast (j := n) dX2_newNode_38 (ty_r hb 3 rfl) (ix_n (by omega) (by omega)) ?_
  refine q_aload_n dX2_newNode_39 rfl rfl rfl ?_
  refine q_getr (r := b + 7) dX2_newNode_40 fX2_26 rfl (ty_r hb 0 rfl) (hb.2.2 0 4 7 rfl) ?_
  refine q_iload_n dX2_newNode_43 rfl rfl ?_
  refine q_iconst (v := (-1 : Int32)) dX2_newNode_44 rfl ?_
  refine q_iast (j := n) dX2_newNode_45 (ty_r hb 7 rfl) (ix_n (by omega) (by omega)) ?_
  refine q_iconst (v := nI 0) dX2_newNode_46 rfl ?_
  refine q_istore dX2_newNode_47 (by decide) (ls' := [(4, .int (nI 0)), (3, .int (nI n)), (0, .ref b), (1, .int (nI k)), (2, .int (nI bl))]) rfl ?_
  refine q_iload dX2_newNode_49 rfl ?_
  refine q_iconst (v := nI 2) dX2_newNode_51 rfl ?_
  refine q_icmp_geN (tgt := 91) dX2_newNode_52 (by decide) (by omega) (by omega) (fun h => absurd h (by decide)) (fun _ => ?_)
  refine q_aload_n dX2_newNode_55 rfl rfl rfl ?_
  refine q_getr (r := b + 4) dX2_newNode_56 fX2_23 rfl (ty_r hb 0 rfl) (hb.2.2 0 3 4 rfl) ?_
  refine q_iload dX2_newNode_59 rfl ?_
  refine q_aald (r := b + 5) (j := 0) dX2_newNode_61 (ty_r hb 4 rfl) (Or.inl rfl) (ix_n (by omega) (by omega)) (hb.2.2 4 0 5 rfl) ?_
  refine q_iload_n dX2_newNode_62 rfl rfl ?_
  refine q_iconst (v := nI 0) dX2_newNode_63 rfl ?_
  refine q_iast (j := n) dX2_newNode_64 (ty_r hb 5 rfl) (ix_n (by omega) (by omega)) ?_
  refine q_aload_n dX2_newNode_65 rfl rfl rfl ?_
  refine q_getr (r := b + 8) dX2_newNode_66 fX2_29 rfl (ty_r hb 0 rfl) (hb.2.2 0 5 8 rfl) ?_
  refine q_iload dX2_newNode_69 rfl ?_
  refine q_aald (r := b + 9) (j := 0) dX2_newNode_71 (ty_r hb 8 rfl) (Or.inl rfl) (ix_n (by omega) (by omega)) (hb.2.2 8 0 9 rfl) ?_
  refine q_iload_n dX2_newNode_72 rfl rfl ?_
  refine q_iconst (v := (-1 : Int32)) dX2_newNode_73 rfl ?_
  refine q_iast (j := n) dX2_newNode_74 (ty_r hb 9 rfl) (ix_n (by omega) (by omega)) ?_
  refine q_aload_n dX2_newNode_75 rfl rfl rfl ?_
  refine q_getr (r := b + 11) dX2_newNode_76 fX2_32 rfl (ty_r hb 0 rfl) (hb.2.2 0 6 11 rfl) ?_
  refine q_iload dX2_newNode_79 rfl ?_
  refine q_aald (r := b + 12) (j := 0) dX2_newNode_81 (ty_r hb 11 rfl) (Or.inl rfl) (ix_n (by omega) (by omega)) (hb.2.2 11 0 12 rfl) ?_
  refine q_iload_n dX2_newNode_82 rfl rfl ?_
  refine q_iconst (v := (-1 : Int32)) dX2_newNode_83 rfl ?_
  refine q_iast (j := n) dX2_newNode_84 (ty_r hb 12 rfl) (ix_n (by omega) (by omega)) ?_
  refine q_iincN (c := 1) dX2_newNode_85 rfl (by decide) rfl (ls' := [(4, .int (nI 1)), (3, .int (nI n)), (0, .ref b), (1, .int (nI k)), (2, .int (nI bl))]) rfl ?_
  refine q_goto (tgt := 49) dX2_newNode_88 (by decide) ?_
  refine q_iload dX2_newNode_49 rfl ?_
  refine q_iconst (v := nI 2) dX2_newNode_51 rfl ?_
  refine q_icmp_geN (tgt := 91) dX2_newNode_52 (by decide) (by omega) (by omega) (fun h => absurd h (by decide)) (fun _ => ?_)
  refine q_aload_n dX2_newNode_55 rfl rfl rfl ?_
  refine q_getr (r := b + 4) dX2_newNode_56 fX2_23 rfl (ty_r hb 0 rfl) (hb.2.2 0 3 4 rfl) ?_
  refine q_iload dX2_newNode_59 rfl ?_
  refine q_aald (r := b + 6) (j := 1) dX2_newNode_61 (ty_r hb 4 rfl) (Or.inl rfl) (ix_n (by omega) (by omega)) (hb.2.2 4 1 6 rfl) ?_
  refine q_iload_n dX2_newNode_62 rfl rfl ?_
  refine q_iconst (v := nI 0) dX2_newNode_63 rfl ?_
  refine q_iast (j := n) dX2_newNode_64 (ty_r hb 6 rfl) (ix_n (by omega) (by omega)) ?_
  refine q_aload_n dX2_newNode_65 rfl rfl rfl ?_
  refine q_getr (r := b + 8) dX2_newNode_66 fX2_29 rfl (ty_r hb 0 rfl) (hb.2.2 0 5 8 rfl) ?_
  refine q_iload dX2_newNode_69 rfl ?_
  refine q_aald (r := b + 10) (j := 1) dX2_newNode_71 (ty_r hb 8 rfl) (Or.inl rfl) (ix_n (by omega) (by omega)) (hb.2.2 8 1 10 rfl) ?_
  refine q_iload_n dX2_newNode_72 rfl rfl ?_
  refine q_iconst (v := (-1 : Int32)) dX2_newNode_73 rfl ?_
  refine q_iast (j := n) dX2_newNode_74 (ty_r hb 10 rfl) (ix_n (by omega) (by omega)) ?_
  refine q_aload_n dX2_newNode_75 rfl rfl rfl ?_
  refine q_getr (r := b + 11) dX2_newNode_76 fX2_32 rfl (ty_r hb 0 rfl) (hb.2.2 0 6 11 rfl) ?_
  refine q_iload dX2_newNode_79 rfl ?_
  refine q_aald (r := b + 13) (j := 1) dX2_newNode_81 (ty_r hb 11 rfl) (Or.inl rfl) (ix_n (by omega) (by omega)) (hb.2.2 11 1 13 rfl) ?_
  refine q_iload_n dX2_newNode_82 rfl rfl ?_
  refine q_iconst (v := (-1 : Int32)) dX2_newNode_83 rfl ?_
  refine q_iast (j := n) dX2_newNode_84 (ty_r hb 13 rfl) (ix_n (by omega) (by omega)) ?_
  refine q_iincN (c := 1) dX2_newNode_85 rfl (by decide) rfl (ls' := [(4, .int (nI 2)), (3, .int (nI n)), (0, .ref b), (1, .int (nI k)), (2, .int (nI bl))]) rfl ?_
  refine q_goto (tgt := 49) dX2_newNode_88 (by decide) ?_
  refine q_iload dX2_newNode_49 rfl ?_
  refine q_iconst (v := nI 2) dX2_newNode_51 rfl ?_
  refine q_icmp_geN (tgt := 91) dX2_newNode_52 (by decide) (by omega) (by omega) (fun _ => ?_) (fun h => absurd h (by decide))
  refine q_iload_n dX2_newNode_91 rfl rfl ?_
  refine q_ireturn dX2_newNode_92 rfl rfl (by omega) (by omega) ?_
  exact ⟨rfl, rfl⟩
theorem z2_addNode {g : GG} {σ : HS} {b : Nat} (hb : RB σ b) {n k bl nb : Nat} (hn : n < 240) (hN : sI σ b 14 = nI n) (hB : sI σ b 12 = nI nb) (h40 : nb ≤ 40) : CT g mX2_addNode 2 0 0 [.ref b, .int (nI k), .int (nI bl)] σ (PQ (uI (uI (uI (uI (uI (uI (uI (uI (uI (uI (uI (uI (uI σ b 14 (nI (n + 1))) (b + 1) n (nI k)) (b + 2) n (nI bl)) (b + 3) n (-1)) (b + 7) n (-1)) (b + 5) n (nI 0)) (b + 9) n (-1)) (b + 12) n (-1)) (b + 6) n (nI 0)) (b + 10) n (-1)) (b + 13) n (-1)) b 13 (nI (n + 1))) (b + 15) nb (nI (n + 1))) (.int (nI n))) := by
  have hb14 : b = 14 ∨ 99 ≤ b := by rcases hb.1 with h | ⟨j, h⟩ <;> omega
  refine CT.of (by decide) (Nat.le_of_ble_eq_true rfl) ?_
  refine q_aload_n dX2_addNode_0 rfl rfl rfl ?_
  refine q_iload_n dX2_addNode_1 rfl rfl ?_
  refine q_iload_n dX2_addNode_2 rfl rfl ?_
  refine q_callV (As := [.int (nI k), .int (nI bl)]) (rest := []) dX2_addNode_3 vX2_78 (ty_r hb 0 rfl) ⟨by decide, rfl⟩ (z2_newNode hb hn hN) rfl rfl (Nat.le_of_ble_eq_true rfl) (by omega) (by omega) (by omega) (k_p ?_)
  refine q_istore_n dX2_addNode_6 rfl (by decide) (ls' := [(3, .int (nI n)), (0, .ref b), (1, .int (nI k)), (2, .int (nI bl))]) rfl ?_
  refine q_aload_n dX2_addNode_7 rfl rfl rfl ?_
  refine q_aload_n dX2_addNode_8 rfl rfl rfl ?_
  refine q_geti (x := nI (n + 1)) dX2_addNode_9 fX2_68 rfl (ty_r hb 0 rfl) (Eq.trans (rd_off (by omega)) (Eq.trans (rd_off (by omega)) (Eq.trans (rd_off (by omega)) (Eq.trans (rd_off (by omega)) (Eq.trans (rd_off (by omega)) (Eq.trans (rd_off (by omega)) (Eq.trans (rd_off (by omega)) (Eq.trans (rd_off (by omega)) (Eq.trans (rd_off (by omega)) (Eq.trans (rd_off (by omega)) uI_self)))))))))) ?_
  refine q_puti dX2_addNode_12 fX2_65 rfl (Or.inl rfl) (ty_r hb 0 rfl) ?_
  refine q_aload_n dX2_addNode_15 rfl rfl rfl ?_
  refine q_getr (r := b + 15) dX2_addNode_16 fX2_38 rfl (ty_r hb 0 rfl) (hb.2.2 0 8 15 rfl) ?_
  refine q_aload_n dX2_addNode_19 rfl rfl rfl ?_
  refine q_geti (x := nI nb) dX2_addNode_20 fX2_61 rfl (ty_r hb 0 rfl) (Eq.trans (rd_ne (by decide)) (Eq.trans (rd_off (by omega)) (Eq.trans (rd_off (by omega)) (Eq.trans (rd_off (by omega)) (Eq.trans (rd_off (by omega)) (Eq.trans (rd_off (by omega)) (Eq.trans (rd_off (by omega)) (Eq.trans (rd_off (by omega)) (Eq.trans (rd_off (by omega)) (Eq.trans (rd_off (by omega)) (Eq.trans (rd_off (by omega)) (Eq.trans (rd_ne (by decide)) hB)))))))))))) ?_
  refine q_aload_n dX2_addNode_23 rfl rfl rfl ?_
  refine q_geti (x := nI (n + 1)) dX2_addNode_24 fX2_65 rfl (ty_r hb 0 rfl) uI_self ?_
  refine q_iast (j := nb) dX2_addNode_27 (ty_r hb 15 rfl) (ix_n (by omega) (by omega)) ?_
  refine q_iload_n dX2_addNode_28 rfl rfl ?_
  refine q_ireturn dX2_addNode_29 rfl rfl (by omega) (by omega) ?_
  exact ⟨rfl, rfl⟩
theorem z2_addBlock {g : GG} {σ : HS} {b : Nat} (hb : RB σ b) {nb n : Nat} (hB : sI σ b 12 = nI nb) (hn : sI σ b 13 = nI n) (h40 : nb < 40) : CT g mX2_addBlock 0 0 0 [.ref b] σ (VQ (uI (uI (uI σ b 12 (nI (nb + 1))) (b + 15) nb (nI n)) (b + 15) (nb + 1) (nI n))) := by
  have hb14 : b = 14 ∨ 99 ≤ b := by rcases hb.1 with h | ⟨j, h⟩ <;> omega
  refine CT.of (by decide) (Nat.le_of_ble_eq_true rfl) ?_
  refine q_aload_n dX2_addBlock_0 rfl rfl rfl ?_
  refine q_getr (r := b + 15) dX2_addBlock_1 fX2_38 rfl (ty_r hb 0 rfl) (hb.2.2 0 8 15 rfl) ?_
  refine q_aload_n dX2_addBlock_4 rfl rfl rfl ?_
  refine q_dup dX2_addBlock_5 rfl ?_
  refine q_geti (x := nI nb) dX2_addBlock_6 fX2_61 rfl (ty_r hb 0 rfl) hB ?_
  refine q_dup_x1 dX2_addBlock_9 rfl rfl ?_
  refine q_iconst (v := nI 1) dX2_addBlock_10 rfl ?_
  refine q_iaddN dX2_addBlock_11 ?_
  refine q_puti dX2_addBlock_12 fX2_61 rfl (Or.inl rfl) (ty_r hb 0 rfl) ?_
  refine q_aload_n dX2_addBlock_15 rfl rfl rfl ?_
  refine q_geti (x := nI n) dX2_addBlock_16 fX2_65 rfl (ty_r hb 0 rfl) (Eq.trans (rd_ne (by decide)) hn) ?_
  refine q_iast (j := nb) dX2_addBlock_19 (ty_r hb 15 rfl) (ix_n (by omega) (by omega)) ?_
  refine q_aload_n dX2_addBlock_20 rfl rfl rfl ?_
  refine q_getr (r := b + 15) dX2_addBlock_21 fX2_38 rfl (ty_r hb 0 rfl) (hb.2.2 0 8 15 rfl) ?_
  refine q_aload_n dX2_addBlock_24 rfl rfl rfl ?_
  refine q_geti (x := nI (nb + 1)) dX2_addBlock_25 fX2_61 rfl (ty_r hb 0 rfl) (Eq.trans (rd_off (by omega)) uI_self) ?_
  refine q_aload_n dX2_addBlock_28 rfl rfl rfl ?_
  refine q_geti (x := nI n) dX2_addBlock_29 fX2_65 rfl (ty_r hb 0 rfl) (Eq.trans (rd_off (by omega)) (Eq.trans (rd_ne (by decide)) hn)) ?_
  refine q_iast (j := (nb + 1)) dX2_addBlock_32 (ty_r hb 15 rfl) (ix_n (by omega) (by omega)) ?_
  refine q_return dX2_addBlock_33 rfl (by omega) (by omega) ?_
  exact ⟨rfl, rfl⟩
theorem z4_clear {g : GG} {σ : HS} {b : Nat} (hb : RB σ b) : CT g mX4_clear 0 0 0 [.ref (b + 17)] σ (VQ (uI (uI σ (b + 17) 3 (nI 0)) (b + 17) 4 (nI 0))) := by
  refine CT.of (by decide) (Nat.le_of_ble_eq_true rfl) ?_
  refine q_aload_n dX4_clear_0 rfl rfl rfl ?_
  refine q_iconst (v := nI 0) dX4_clear_1 rfl ?_
  refine q_puti dX4_clear_2 fX4_21 rfl (Or.inl rfl) (ty_r hb 17 rfl) ?_
  refine q_aload_n dX4_clear_5 rfl rfl rfl ?_
  refine q_iconst (v := nI 0) dX4_clear_6 rfl ?_
  refine q_putz dX4_clear_7 fX4_25 rfl (Or.inl rfl) (ty_r hb 17 rfl) (Or.inl rfl) ?_
  refine q_return dX4_clear_10 rfl (by omega) (by omega) ?_
  exact ⟨rfl, rfl⟩
theorem z2_clear {g : GG} {σ : HS} {b : Nat} (hb : RB σ b) : CT g mX2_clear 1 0 0 [.ref b] σ (VQ (uI (uI (uI (uI (uI (uI (uI σ (b + 17) 3 (nI 0)) (b + 17) 4 (nI 0)) b 12 (nI 0)) b 13 (nI 0)) b 14 (nI 0)) b 15 (nI 0)) b 16 (nI 0))) := by
  refine CT.of (by decide) (Nat.le_of_ble_eq_true rfl) ?_
  refine q_aload_n dX2_clear_0 rfl rfl rfl ?_
  refine q_getr (r := b + 17) dX2_clear_1 fX2_47 rfl (ty_r hb 0 rfl) (hb.2.2 0 10 17 rfl) ?_
  refine q_callV (As := []) (rest := []) dX2_clear_4 vX2_58 (ty_r hb 17 rfl) ⟨by decide, rfl⟩ (z4_clear hb) rfl rfl (Nat.le_of_ble_eq_true rfl) (by omega) (by omega) (by omega) (k_s ?_)
  refine q_aload_n dX2_clear_7 rfl rfl rfl ?_
  refine q_iconst (v := nI 0) dX2_clear_8 rfl ?_
  refine q_puti dX2_clear_9 fX2_61 rfl (Or.inl rfl) (ty_r hb 0 rfl) ?_
  refine q_aload_n dX2_clear_12 rfl rfl rfl ?_
  refine q_iconst (v := nI 0) dX2_clear_13 rfl ?_
  refine q_puti dX2_clear_14 fX2_65 rfl (Or.inl rfl) (ty_r hb 0 rfl) ?_
  refine q_aload_n dX2_clear_17 rfl rfl rfl ?_
  refine q_iconst (v := nI 0) dX2_clear_18 rfl ?_
  refine q_puti dX2_clear_19 fX2_68 rfl (Or.inl rfl) (ty_r hb 0 rfl) ?_
  refine q_aload_n dX2_clear_22 rfl rfl rfl ?_
  refine q_iconst (v := nI 0) dX2_clear_23 rfl ?_
  refine q_puti dX2_clear_24 fX2_71 rfl (Or.inl rfl) (ty_r hb 0 rfl) ?_
  refine q_aload_n dX2_clear_27 rfl rfl rfl ?_
  refine q_iconst (v := nI 0) dX2_clear_28 rfl ?_
  refine q_putz dX2_clear_29 fX2_74 rfl (Or.inl rfl) (ty_r hb 0 rfl) (Or.inl rfl) ?_
  refine q_return dX2_clear_32 rfl (by omega) (by omega) ?_
  exact ⟨rfl, rfl⟩
def mkS (σ : HS) (b n : Nat) (ss : List SUM) (x : SUM) : HS := uI (nSumS (uI σ (b + 1) n (nI 0)) b ss x) (b + 7) n (nSum ss x).1
theorem nSumS_R {σ : HS} {b : Nat} {ss : List SUM} {x : SUM} : sR (nSumS σ b ss x) = sR σ ∧ sN (nSumS σ b ss x) = sN σ ∧ sL (nSumS σ b ss x) = sL σ := by
  unfold nSumS
  split
  · exact ⟨rfl, rfl, rfl⟩
  · split <;> exact ⟨rfl, rfl, rfl⟩
theorem RB.ns {σ : HS} {b c : Nat} {ss : List SUM} {x : SUM} (h : RB σ c) : RB (nSumS σ b ss x) c := ⟨h.1, by rw [nSumS_R.2.1]; exact h.2.1, fun o k r q => by rw [nSumS_R.1]; exact h.2.2 o k r q⟩
theorem z2_makeSum {g : GG} {σ : HS} {b : Nat} (hb : RB σ b) {n : Nat} (hn : n < 240) {ss : List SUM} {m : Bool} (hs : SR σ b ss m) (x : SUM) : CT g mX2_makeSum 1 0 0 [.ref b, .int (nI n), .int x.1, .int x.2.1, .int x.2.2] σ (VQ (mkS σ b n ss x)) := by
  have hb14 : b = 14 ∨ 99 ≤ b := by rcases hb.1 with h | ⟨j, h⟩ <;> omega
  refine CT.of (by decide) (Nat.le_of_ble_eq_true rfl) ?_
  refine q_aload_n dX2_makeSum_0 rfl rfl rfl ?_
  refine q_getr (r := b + 1) dX2_makeSum_1 fX2_9 rfl (ty_r hb 0 rfl) (hb.2.2 0 0 1 rfl) ?_
  refine q_iload_n dX2_makeSum_4 rfl rfl ?_
  refine q_iconst (v := nI 0) dX2_makeSum_5 rfl ?_
  refine q_iast (j := n) dX2_makeSum_6 (ty_r hb 1 rfl) (ix_n (by omega) (by omega)) ?_
  refine q_aload_n dX2_makeSum_7 rfl rfl rfl ?_
  refine q_getr (r := b + 7) dX2_makeSum_8 fX2_26 rfl (ty_r hb 0 rfl) (hb.2.2 0 4 7 rfl) ?_
  refine q_iload_n dX2_makeSum_11 rfl rfl ?_
  refine q_aload_n dX2_makeSum_12 rfl rfl rfl ?_
  refine q_getr (r := b + 17) dX2_makeSum_13 fX2_47 rfl (ty_r hb 0 rfl) (hb.2.2 0 10 17 rfl) ?_
  refine q_iload_n dX2_makeSum_16 rfl rfl ?_
  refine q_iload_n dX2_makeSum_17 rfl rfl ?_
  refine q_iload dX2_makeSum_18 rfl ?_
  refine q_callV (As := [.int x.1, .int x.2.1, .int x.2.2]) (rest := [.int (nI n), .ref (b + 7)]) dX2_makeSum_20 vX2_87 (ty_r hb 17 rfl) ⟨by decide, rfl⟩ (z4_numberFor (σ := (uI σ (b + 1) n (nI 0))) hb (hs.u (by omega)) x) rfl rfl (Nat.le_of_ble_eq_true rfl) (by omega) (by omega) (by omega) (k_p ?_)
  have hb := RB.ns (b := b) (ss := ss) (x := x) (RB.uI (h := b + 1) (i := n) (v := nI 0) hb)
  refine q_iast (j := n) dX2_makeSum_23 (ty_r hb 7 rfl) (ix_n (by omega) (by omega)) ?_
  refine q_return dX2_makeSum_24 rfl (by omega) (by omega) ?_
  exact ⟨rfl, rfl⟩
/-- what a value may change: words' place, a t, NODE n's kind, operands and SUM, the SUMS -/
def SV1 (b n : Nat) (σ σ' : HS) : Prop := sL σ' = sL σ ∧ sR σ' = sR σ ∧ sN σ' = sN σ ∧ ∀ h i, ¬ ((h = 5 ∧ i ≤ 4) ∨ (h = b ∧ i = 16) ∨ ((h = b + 1 ∨ h = b + 5 ∨ h = b + 6 ∨ h = b + 7) ∧ i = n) ∨ (b + 17 ≤ h ∧ h ≤ b + 20)) → sI σ' h i = sI σ h i
theorem SV1.rf {b n : Nat} {σ : HS} : SV1 b n σ σ := ⟨rfl, rfl, rfl, fun _ _ _ => rfl⟩
theorem SV1.uI {b n : Nat} {σ σ' : HS} {h i : Nat} {v : Int32} (k : SV1 b n σ σ') (hh : (h = 5 ∧ i ≤ 4) ∨ (h = b ∧ i = 16) ∨ ((h = b + 1 ∨ h = b + 5 ∨ h = b + 6 ∨ h = b + 7) ∧ i = n) ∨ (b + 17 ≤ h ∧ h ≤ b + 20)) : SV1 b n σ (uI σ' h i v) := by
  refine ⟨k.1, k.2.1, k.2.2.1, fun a c q => ?_⟩
  rw [sI_uI, if_neg (by rintro ⟨rfl, rfl⟩; exact q hh)]
  exact k.2.2.2 a c q
theorem SV1.tr {b n : Nat} {σ σ' σ'' : HS} (k : SV1 b n σ σ') (k2 : SV1 b n σ' σ'') : SV1 b n σ σ'' := ⟨k2.1.trans k.1, k2.2.1.trans k.2.1, k2.2.2.1.trans k.2.2.1, fun a c q => (k2.2.2.2 a c q).trans (k.2.2.2 a c q)⟩
theorem SV1.bf {b n : Nat} {σ σ' : HS} (k : SV1 b n σ σ') : BFr b σ σ' := ⟨k.1, k.2.1, k.2.2.1, fun h hh => funext fun i => k.2.2.2 h i (by omega)⟩
theorem nSumS_E {σ : HS} {b n : Nat} {ss : List SUM} {m : Bool} {x : SUM} (hs : SR σ b ss m) : SV1 b n σ (nSumS σ b ss x) ∧ SR (nSumS σ b ss x) b (nSum ss x).2.1 (m || (nSum ss x).2.2) ∧ ∀ h i, h < b + 17 → sI (nSumS σ b ss x) h i = sI σ h i := by
  unfold nSumS nSum
  cases hf : ss.findIdx? (fun y => y == x) with
  | some e =>
    dsimp only
    rw [Bool.or_false]
    exact ⟨SV1.rf, hs, fun _ _ _ => rfl⟩
  | none =>
    dsimp only
    by_cases hl : ss.length < 32
    · rw [if_pos hl, if_pos hl, Bool.or_false]
      obtain ⟨h1, h2, h3, h4⟩ := hs
      refine ⟨(((SV1.rf.uI (by omega)).uI (by omega)).uI (by omega)).uI (by omega), ⟨?_, ?_, ?_, fun e he => ?_⟩, fun h i hh => ?_⟩
      · rw [uI_self]; simp
      · simp; omega
      · rw [rd_ne (by decide), rd_off (by omega), rd_off (by omega), rd_off (by omega)]; exact h3
      · simp only [List.length_append, List.length_cons, List.length_nil] at he
        by_cases e0 : e = ss.length
        · subst e0
          have g0 : (ss ++ [x]).getD ss.length (0, 0, 0) = x := by simp [List.getD_eq_getElem?_getD]
          rw [g0]
          refine ⟨?_, ?_, ?_⟩
          · rw [rd_off (by omega), rd_off (by omega), rd_off (by omega), uI_self]
          · rw [rd_off (by omega), rd_off (by omega), uI_self]
          · rw [rd_off (by omega), uI_self]
        · have g0 : (ss ++ [x]).getD e (0, 0, 0) = ss.getD e (0, 0, 0) := by
            rw [List.getD_eq_getElem?_getD, List.getD_eq_getElem?_getD, List.getElem?_append_left (by omega)]
          rw [g0]
          obtain ⟨q1, q2, q3⟩ := h4 e (by omega)
          refine ⟨?_, ?_, ?_⟩
          · rw [rd_off (by omega), rd_off (by omega), rd_off (by omega), rd_ne e0]; exact q1
          · rw [rd_off (by omega), rd_off (by omega), rd_ne e0, rd_off (by omega)]; exact q2
          · rw [rd_off (by omega), rd_ne e0, rd_off (by omega), rd_off (by omega)]; exact q3
      · rw [rd_off (by omega), rd_off (by omega), rd_off (by omega), rd_off (by omega)]
    · rw [if_neg hl, if_neg hl, Bool.or_true]
      obtain ⟨h1, h2, h3, h4⟩ := hs
      refine ⟨SV1.rf.uI (by omega), ⟨?_, h2, uI_self, fun e he => ?_⟩, fun h i hh => ?_⟩
      · rw [rd_ne (by decide)]; exact h1
      · rw [rd_off (by omega), rd_off (by omega), rd_off (by omega)]; exact h4 e he
      · rw [rd_off (by omega)]
theorem mkS_E {σ : HS} {b n : Nat} {ss : List SUM} {m : Bool} {x : SUM} (hs : SR σ b ss m) : SV1 b n σ (mkS σ b n ss x) ∧ SR (mkS σ b n ss x) b (nSum ss x).2.1 (m || (nSum ss x).2.2) ∧ sI (mkS σ b n ss x) (b + 1) n = nI 0 ∧ sI (mkS σ b n ss x) (b + 7) n = (nSum ss x).1 ∧ ∀ h i, h < b + 17 → h ≠ b + 1 → h ≠ b + 7 → sI (mkS σ b n ss x) h i = sI σ h i := by
  have hs' : SR (uI σ (b + 1) n (nI 0)) b ss m := hs.u (by omega)
  obtain ⟨h1, h2, h3⟩ := nSumS_E (n := n) (x := x) hs'
  unfold mkS
  refine ⟨((SV1.rf.uI (by omega)).tr h1).uI (by omega), h2.u (by omega), ?_, uI_self, fun h i g1 g2 g3 => ?_⟩
  · rw [rd_off (by omega), h3 _ _ (by omega), uI_self]
  · rw [rd_off g3, h3 _ _ g1, rd_off g2]
theorem bd_ok {α β : Type} {x : PR α} {f : α → PR β} {y : β} : x.bind f = .ok y ↔ ∃ a, x = .ok a ∧ f a = .ok y := by
  cases x with
  | error e => simp [Except.bind]
  | ok a => simp [Except.bind]
theorem bd_er {α β : Type} {x : PR α} {f : α → PR β} {e : Nat × Nat} : x.bind f = .error e ↔ x = .error e ∨ ∃ a, x = .ok a ∧ f a = .error e := by
  cases x with
  | error e => simp [Except.bind]
  | ok a => simp [Except.bind]
