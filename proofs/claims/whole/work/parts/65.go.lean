/-! Class Runner: a RUN. -/
theorem SK.fil {σ : HS} {h n : Nat} {v : Int32} (k : SK σ) : SK (filS σ h v n) := ⟨by rw [(filS_R n).2.1]; exact k.1, fun a c r q => by rw [(filS_R n).1]; exact k.2 a c r q⟩
section GO
variable {g : GG} {b : Nat} {q : PS}
theorem z3_doNode {σ : HS} (hS : SK σ) (hr : RTN σ b q) {p : Nat} (hp : p < 3) {n : Nat} (hn : n < NN q) {s : XS} (hx : XR σ s) (hC : xC s < 1000000) : CT g mX3_doNode 4 0 0 [.ref 46, .ref b, .int (nI p), .int (nI n)] σ (WkQ σ (dnF q p n s).1 (dnF q p n s).2 (fun _ => True)) := by
  have hb := hr.1
  have hb14 : b = 14 ∨ 99 ≤ b := by rcases hb.1 with h | ⟨j, h⟩ <;> omega
  obtain ⟨-, hc, hw, hnb, hxx, h0, -, -, -, -, hsr, -, hrow, -⟩ := id hr
  have hk := hsr.2.1
  have hNN := NN_le hc
  obtain ⟨⟨r1, r2, r3, r4, r5, r6, -⟩, -⟩ := hrow n hn
  obtain ⟨o1, o2⟩ := rg_opd hw (n := n)
  rcases rg_cases hw hxx hn with ⟨k0, -⟩ | ⟨k0, ⟨t, t1, t2⟩, -⟩ | ⟨k0, ⟨t, t1, t2⟩, -⟩ | ⟨k0, k7, -⟩
  · skip
    refine CT.of (by decide) (Nat.le_of_ble_eq_true rfl) ?_
    refine q_aload_n dX3_doNode_0 rfl rfl rfl ?_
    refine q_aload_n dX3_doNode_1 rfl rfl rfl ?_
    refine q_getr (r := b + 4) dX3_doNode_2 fX3_107 rfl (ty_r hb 0 rfl) (hb.2.2 0 3 4 rfl) ?_
    refine q_iconst (v := nI 0) dX3_doNode_5 rfl ?_
    refine q_aald (r := b + 5) (j := 0) dX3_doNode_6 (ty_r hb 4 rfl) (Or.inl rfl) (ix_n (by omega) (by omega)) (hb.2.2 4 0 5 rfl) ?_
    refine q_iload_n dX3_doNode_7 rfl rfl ?_
    refine q_iald (x := rO0 (rg q n)) (j := n) dX3_doNode_8 (ty_r hb 5 rfl) (ix_n (by omega) (by omega)) r4 ?_
    refine q_callV (As := [.int (rO0 (rg q n))]) (rest := []) dX3_doNode_9 vX3_110 (ty_c hS (by decide) rfl) ⟨by decide, rfl⟩ (z3_valueOf hS hx o1) rfl rfl (Nat.le_of_ble_eq_true rfl) (by omega) (by omega) (by omega) (k_p ?_)
    refine q_istore dX3_doNode_12 (by decide) (ls' := [(4, .int (opV (xN s) (rO0 (rg q n)))), (0, .ref 46), (1, .ref b), (2, .int (nI p)), (3, .int (nI n))]) rfl ?_
    refine q_aload_n dX3_doNode_14 rfl rfl rfl ?_
    refine q_aload_n dX3_doNode_15 rfl rfl rfl ?_
    refine q_getr (r := b + 4) dX3_doNode_16 fX3_107 rfl (ty_r hb 0 rfl) (hb.2.2 0 3 4 rfl) ?_
    refine q_iconst (v := nI 1) dX3_doNode_19 rfl ?_
    refine q_aald (r := b + 6) (j := 1) dX3_doNode_20 (ty_r hb 4 rfl) (Or.inl rfl) (ix_n (by omega) (by omega)) (hb.2.2 4 1 6 rfl) ?_
    refine q_iload_n dX3_doNode_21 rfl rfl ?_
    refine q_iald (x := rO1 (rg q n)) (j := n) dX3_doNode_22 (ty_r hb 6 rfl) (ix_n (by omega) (by omega)) r5 ?_
    refine q_callV (As := [.int (rO1 (rg q n))]) (rest := []) dX3_doNode_23 vX3_110 (ty_c hS (by decide) rfl) ⟨by decide, rfl⟩ (z3_valueOf hS hx o2) rfl rfl (Nat.le_of_ble_eq_true rfl) (by omega) (by omega) (by omega) (k_p ?_)
    refine q_istore dX3_doNode_26 (by decide) (ls' := [(5, .int (opV (xN s) (rO1 (rg q n)))), (4, .int (opV (xN s) (rO0 (rg q n)))), (0, .ref 46), (1, .ref b), (2, .int (nI p)), (3, .int (nI n))]) rfl ?_
    refine q_aload_n dX3_doNode_28 rfl rfl rfl ?_
    refine q_getr (r := b + 1) dX3_doNode_29 fX3_35 rfl (ty_r hb 0 rfl) (hb.2.2 0 0 1 rfl) ?_
    refine q_iload_n dX3_doNode_32 rfl rfl ?_
    refine q_iald (x := nI 0) (j := n) dX3_doNode_33 (ty_r hb 1 rfl) (ix_n (by omega) (by omega)) (r1.trans (by rw [k0])) ?_
    by_cases w34_0 : 0 = 0
    · refine q_tableEq 0 (tgt := 64) (off := 30) dX3_doNode_34 (by rw [w34_0]) (by decide) rfl (by decide) ?_
      refine q_aload_n dX3_doNode_64 rfl rfl rfl ?_
      refine q_aload_n dX3_doNode_65 rfl rfl rfl ?_
      refine q_iload_n dX3_doNode_66 rfl rfl ?_
      refine q_iload_n dX3_doNode_67 rfl rfl ?_
      refine q_callV (As := [.ref b, .int (nI p), .int (nI n)]) (rest := []) dX3_doNode_68 vX3_114 (ty_c hS (by decide) rfl) ⟨by decide, rfl⟩ (z3_giveSum hS hr hp hn hx k0) rfl rfl (Nat.le_of_ble_eq_true rfl) (by omega) (by omega) (by omega) (k_w (fun s68 q68 => ?_))
      refine q_ireturn dX3_doNode_71 rfl (bi_nar _) (by omega) (by omega) ?_
      exact ⟨rfl, q68⟩
    omega
  · have et : tgt q n = t := by unfold tgt; rw [t2]; exact nI_clamp (by omega)
    have hE : dnF q p n s = (gvS s t (opV (xN s) (rO0 (rg q n))), true) := by unfold dnF; rw [if_neg (by omega), if_pos k0, et]
    rw [hE]
    refine CT.of (by decide) (Nat.le_of_ble_eq_true rfl) ?_
    refine q_aload_n dX3_doNode_0 rfl rfl rfl ?_
    refine q_aload_n dX3_doNode_1 rfl rfl rfl ?_
    refine q_getr (r := b + 4) dX3_doNode_2 fX3_107 rfl (ty_r hb 0 rfl) (hb.2.2 0 3 4 rfl) ?_
    refine q_iconst (v := nI 0) dX3_doNode_5 rfl ?_
    refine q_aald (r := b + 5) (j := 0) dX3_doNode_6 (ty_r hb 4 rfl) (Or.inl rfl) (ix_n (by omega) (by omega)) (hb.2.2 4 0 5 rfl) ?_
    refine q_iload_n dX3_doNode_7 rfl rfl ?_
    refine q_iald (x := rO0 (rg q n)) (j := n) dX3_doNode_8 (ty_r hb 5 rfl) (ix_n (by omega) (by omega)) r4 ?_
    refine q_callV (As := [.int (rO0 (rg q n))]) (rest := []) dX3_doNode_9 vX3_110 (ty_c hS (by decide) rfl) ⟨by decide, rfl⟩ (z3_valueOf hS hx o1) rfl rfl (Nat.le_of_ble_eq_true rfl) (by omega) (by omega) (by omega) (k_p ?_)
    refine q_istore dX3_doNode_12 (by decide) (ls' := [(4, .int (opV (xN s) (rO0 (rg q n)))), (0, .ref 46), (1, .ref b), (2, .int (nI p)), (3, .int (nI n))]) rfl ?_
    refine q_aload_n dX3_doNode_14 rfl rfl rfl ?_
    refine q_aload_n dX3_doNode_15 rfl rfl rfl ?_
    refine q_getr (r := b + 4) dX3_doNode_16 fX3_107 rfl (ty_r hb 0 rfl) (hb.2.2 0 3 4 rfl) ?_
    refine q_iconst (v := nI 1) dX3_doNode_19 rfl ?_
    refine q_aald (r := b + 6) (j := 1) dX3_doNode_20 (ty_r hb 4 rfl) (Or.inl rfl) (ix_n (by omega) (by omega)) (hb.2.2 4 1 6 rfl) ?_
    refine q_iload_n dX3_doNode_21 rfl rfl ?_
    refine q_iald (x := rO1 (rg q n)) (j := n) dX3_doNode_22 (ty_r hb 6 rfl) (ix_n (by omega) (by omega)) r5 ?_
    refine q_callV (As := [.int (rO1 (rg q n))]) (rest := []) dX3_doNode_23 vX3_110 (ty_c hS (by decide) rfl) ⟨by decide, rfl⟩ (z3_valueOf hS hx o2) rfl rfl (Nat.le_of_ble_eq_true rfl) (by omega) (by omega) (by omega) (k_p ?_)
    refine q_istore dX3_doNode_26 (by decide) (ls' := [(5, .int (opV (xN s) (rO1 (rg q n)))), (4, .int (opV (xN s) (rO0 (rg q n)))), (0, .ref 46), (1, .ref b), (2, .int (nI p)), (3, .int (nI n))]) rfl ?_
    refine q_aload_n dX3_doNode_28 rfl rfl rfl ?_
    refine q_getr (r := b + 1) dX3_doNode_29 fX3_35 rfl (ty_r hb 0 rfl) (hb.2.2 0 0 1 rfl) ?_
    refine q_iload_n dX3_doNode_32 rfl rfl ?_
    refine q_iald (x := nI 1) (j := n) dX3_doNode_33 (ty_r hb 1 rfl) (ix_n (by omega) (by omega)) (r1.trans (by rw [k0])) ?_
    by_cases w34_1 : 1 = 1
    · refine q_tableEq 1 (tgt := 72) (off := 38) dX3_doNode_34 (by rw [w34_1]) (by decide) rfl (by decide) ?_
      refine q_aload_n dX3_doNode_72 rfl rfl rfl ?_
      refine q_aload_n dX3_doNode_73 rfl rfl rfl ?_
      refine q_getr (r := b + 3) dX3_doNode_74 fX3_117 rfl (ty_r hb 0 rfl) (hb.2.2 0 2 3 rfl) ?_
      refine q_iload_n dX3_doNode_77 rfl rfl ?_
      refine q_iald (x := nI t) (j := n) dX3_doNode_78 (ty_r hb 3 rfl) (ix_n (by omega) (by omega)) (r3.trans t2) ?_
      refine q_iload dX3_doNode_79 rfl ?_
      refine q_callV (As := [.int (nI t), .int (opV (xN s) (rO0 (rg q n)))]) (rest := []) dX3_doNode_81 vX3_120 (ty_c hS (by decide) rfl) ⟨by decide, rfl⟩ (z3_giveName hS t1) rfl rfl (Nat.le_of_ble_eq_true rfl) (by omega) (by omega) (by omega) (k_s ?_)
      refine q_iconst (v := nI 1) dX3_doNode_84 rfl ?_
      refine q_ireturn dX3_doNode_85 rfl rfl (by omega) (by omega) ?_
      exact ⟨rfl, RFr.rf.uI (by decide) (by omega), hx.gv, trivial⟩
    omega
  · have et : tgt q n = t := by unfold tgt; rw [t2]; exact nI_clamp (by omega)
    by_cases hy : ¬ opV (xN s) (rO0 (rg q n)) < 0 ∧ opV (xN s) (rO0 (rg q n)) < nI 8
    · obtain ⟨i, hiB, hi⟩ := nI_of hy.1
      have hi8 : i < 8 := by
        have := hy.2
        rw [hi] at this
        exact (nI_ltI (by omega) (by omega)).mp this
      have hE : dnF q p n s = (grS s t i (opV (xN s) (rO1 (rg q n))), true) := by unfold dnF; rw [if_neg (by omega), if_neg (by omega), if_pos k0, if_pos hy, et, hi, nI_clamp (by omega)]
      rw [hE]
      refine CT.of (by decide) (Nat.le_of_ble_eq_true rfl) ?_
      refine q_aload_n dX3_doNode_0 rfl rfl rfl ?_
      refine q_aload_n dX3_doNode_1 rfl rfl rfl ?_
      refine q_getr (r := b + 4) dX3_doNode_2 fX3_107 rfl (ty_r hb 0 rfl) (hb.2.2 0 3 4 rfl) ?_
      refine q_iconst (v := nI 0) dX3_doNode_5 rfl ?_
      refine q_aald (r := b + 5) (j := 0) dX3_doNode_6 (ty_r hb 4 rfl) (Or.inl rfl) (ix_n (by omega) (by omega)) (hb.2.2 4 0 5 rfl) ?_
      refine q_iload_n dX3_doNode_7 rfl rfl ?_
      refine q_iald (x := rO0 (rg q n)) (j := n) dX3_doNode_8 (ty_r hb 5 rfl) (ix_n (by omega) (by omega)) r4 ?_
      refine q_callV (As := [.int (rO0 (rg q n))]) (rest := []) dX3_doNode_9 vX3_110 (ty_c hS (by decide) rfl) ⟨by decide, rfl⟩ (z3_valueOf hS hx o1) rfl rfl (Nat.le_of_ble_eq_true rfl) (by omega) (by omega) (by omega) (k_p ?_)
      refine q_istore dX3_doNode_12 (by decide) (ls' := [(4, .int (opV (xN s) (rO0 (rg q n)))), (0, .ref 46), (1, .ref b), (2, .int (nI p)), (3, .int (nI n))]) rfl ?_
      refine q_aload_n dX3_doNode_14 rfl rfl rfl ?_
      refine q_aload_n dX3_doNode_15 rfl rfl rfl ?_
      refine q_getr (r := b + 4) dX3_doNode_16 fX3_107 rfl (ty_r hb 0 rfl) (hb.2.2 0 3 4 rfl) ?_
      refine q_iconst (v := nI 1) dX3_doNode_19 rfl ?_
      refine q_aald (r := b + 6) (j := 1) dX3_doNode_20 (ty_r hb 4 rfl) (Or.inl rfl) (ix_n (by omega) (by omega)) (hb.2.2 4 1 6 rfl) ?_
      refine q_iload_n dX3_doNode_21 rfl rfl ?_
      refine q_iald (x := rO1 (rg q n)) (j := n) dX3_doNode_22 (ty_r hb 6 rfl) (ix_n (by omega) (by omega)) r5 ?_
      refine q_callV (As := [.int (rO1 (rg q n))]) (rest := []) dX3_doNode_23 vX3_110 (ty_c hS (by decide) rfl) ⟨by decide, rfl⟩ (z3_valueOf hS hx o2) rfl rfl (Nat.le_of_ble_eq_true rfl) (by omega) (by omega) (by omega) (k_p ?_)
      refine q_istore dX3_doNode_26 (by decide) (ls' := [(5, .int (opV (xN s) (rO1 (rg q n)))), (4, .int (opV (xN s) (rO0 (rg q n)))), (0, .ref 46), (1, .ref b), (2, .int (nI p)), (3, .int (nI n))]) rfl ?_
      refine q_aload_n dX3_doNode_28 rfl rfl rfl ?_
      refine q_getr (r := b + 1) dX3_doNode_29 fX3_35 rfl (ty_r hb 0 rfl) (hb.2.2 0 0 1 rfl) ?_
      refine q_iload_n dX3_doNode_32 rfl rfl ?_
      refine q_iald (x := nI 2) (j := n) dX3_doNode_33 (ty_r hb 1 rfl) (ix_n (by omega) (by omega)) (r1.trans (by rw [k0])) ?_
      by_cases w34_2 : 2 = 2
      · refine q_tableEq 2 (tgt := 86) (off := 52) dX3_doNode_34 (by rw [w34_2]) (by decide) rfl (by decide) ?_
        refine q_aload_n dX3_doNode_86 rfl rfl rfl ?_
        refine q_aload_n dX3_doNode_87 rfl rfl rfl ?_
        refine q_getr (r := b + 3) dX3_doNode_88 fX3_117 rfl (ty_r hb 0 rfl) (hb.2.2 0 2 3 rfl) ?_
        refine q_iload_n dX3_doNode_91 rfl rfl ?_
        refine q_iald (x := nI t) (j := n) dX3_doNode_92 (ty_r hb 3 rfl) (ix_n (by omega) (by omega)) (r3.trans t2) ?_
        refine q_iload dX3_doNode_93 rfl ?_
        refine q_iload dX3_doNode_95 rfl ?_
        refine q_callV (As := [.int (nI t), .int (opV (xN s) (rO0 (rg q n))), .int (opV (xN s) (rO1 (rg q n)))]) (rest := []) dX3_doNode_97 vX3_124 (ty_c hS (by decide) rfl) ⟨by decide, rfl⟩ (z3_giveRow_okE hS hx t1 hi8 hi) rfl rfl (Nat.le_of_ble_eq_true rfl) (by omega) (by omega) (by omega) (k_w (fun s97 q97 => ?_))
        refine q_ireturn dX3_doNode_100 rfl (bi_nar _) (by omega) (by omega) ?_
        exact ⟨rfl, q97.1, q97.2, trivial⟩
      omega
    · have hE : dnF q p n s = (s, false) := by unfold dnF; rw [if_neg (by omega), if_neg (by omega), if_pos k0, if_neg hy]
      rw [hE]
      refine CT.of (by decide) (Nat.le_of_ble_eq_true rfl) ?_
      refine q_aload_n dX3_doNode_0 rfl rfl rfl ?_
      refine q_aload_n dX3_doNode_1 rfl rfl rfl ?_
      refine q_getr (r := b + 4) dX3_doNode_2 fX3_107 rfl (ty_r hb 0 rfl) (hb.2.2 0 3 4 rfl) ?_
      refine q_iconst (v := nI 0) dX3_doNode_5 rfl ?_
      refine q_aald (r := b + 5) (j := 0) dX3_doNode_6 (ty_r hb 4 rfl) (Or.inl rfl) (ix_n (by omega) (by omega)) (hb.2.2 4 0 5 rfl) ?_
      refine q_iload_n dX3_doNode_7 rfl rfl ?_
      refine q_iald (x := rO0 (rg q n)) (j := n) dX3_doNode_8 (ty_r hb 5 rfl) (ix_n (by omega) (by omega)) r4 ?_
      refine q_callV (As := [.int (rO0 (rg q n))]) (rest := []) dX3_doNode_9 vX3_110 (ty_c hS (by decide) rfl) ⟨by decide, rfl⟩ (z3_valueOf hS hx o1) rfl rfl (Nat.le_of_ble_eq_true rfl) (by omega) (by omega) (by omega) (k_p ?_)
      refine q_istore dX3_doNode_12 (by decide) (ls' := [(4, .int (opV (xN s) (rO0 (rg q n)))), (0, .ref 46), (1, .ref b), (2, .int (nI p)), (3, .int (nI n))]) rfl ?_
      refine q_aload_n dX3_doNode_14 rfl rfl rfl ?_
      refine q_aload_n dX3_doNode_15 rfl rfl rfl ?_
      refine q_getr (r := b + 4) dX3_doNode_16 fX3_107 rfl (ty_r hb 0 rfl) (hb.2.2 0 3 4 rfl) ?_
      refine q_iconst (v := nI 1) dX3_doNode_19 rfl ?_
      refine q_aald (r := b + 6) (j := 1) dX3_doNode_20 (ty_r hb 4 rfl) (Or.inl rfl) (ix_n (by omega) (by omega)) (hb.2.2 4 1 6 rfl) ?_
      refine q_iload_n dX3_doNode_21 rfl rfl ?_
      refine q_iald (x := rO1 (rg q n)) (j := n) dX3_doNode_22 (ty_r hb 6 rfl) (ix_n (by omega) (by omega)) r5 ?_
      refine q_callV (As := [.int (rO1 (rg q n))]) (rest := []) dX3_doNode_23 vX3_110 (ty_c hS (by decide) rfl) ⟨by decide, rfl⟩ (z3_valueOf hS hx o2) rfl rfl (Nat.le_of_ble_eq_true rfl) (by omega) (by omega) (by omega) (k_p ?_)
      refine q_istore dX3_doNode_26 (by decide) (ls' := [(5, .int (opV (xN s) (rO1 (rg q n)))), (4, .int (opV (xN s) (rO0 (rg q n)))), (0, .ref 46), (1, .ref b), (2, .int (nI p)), (3, .int (nI n))]) rfl ?_
      refine q_aload_n dX3_doNode_28 rfl rfl rfl ?_
      refine q_getr (r := b + 1) dX3_doNode_29 fX3_35 rfl (ty_r hb 0 rfl) (hb.2.2 0 0 1 rfl) ?_
      refine q_iload_n dX3_doNode_32 rfl rfl ?_
      refine q_iald (x := nI 2) (j := n) dX3_doNode_33 (ty_r hb 1 rfl) (ix_n (by omega) (by omega)) (r1.trans (by rw [k0])) ?_
      by_cases w34_2 : 2 = 2
      · refine q_tableEq 2 (tgt := 86) (off := 52) dX3_doNode_34 (by rw [w34_2]) (by decide) rfl (by decide) ?_
        refine q_aload_n dX3_doNode_86 rfl rfl rfl ?_
        refine q_aload_n dX3_doNode_87 rfl rfl rfl ?_
        refine q_getr (r := b + 3) dX3_doNode_88 fX3_117 rfl (ty_r hb 0 rfl) (hb.2.2 0 2 3 rfl) ?_
        refine q_iload_n dX3_doNode_91 rfl rfl ?_
        refine q_iald (x := nI t) (j := n) dX3_doNode_92 (ty_r hb 3 rfl) (ix_n (by omega) (by omega)) (r3.trans t2) ?_
        refine q_iload dX3_doNode_93 rfl ?_
        refine q_iload dX3_doNode_95 rfl ?_
        refine q_callV (As := [.int (nI t), .int (opV (xN s) (rO0 (rg q n))), .int (opV (xN s) (rO1 (rg q n)))]) (rest := []) dX3_doNode_97 vX3_124 (ty_c hS (by decide) rfl) ⟨by decide, rfl⟩ (z3_giveRow_er hS (fun z => hy z.2)) rfl rfl (Nat.le_of_ble_eq_true rfl) (by omega) (by omega) (by omega) (k_p ?_)
        refine q_ireturn dX3_doNode_100 rfl (bi_nar _) (by omega) (by omega) ?_
        exact ⟨rfl, RFr.rf, hx, trivial⟩
      omega
  · by_cases k3 : rK (rg q n) = 3
    · have hE : dnF q p n s = (tlS s (opV (xN s) (rO0 (rg q n))), true) := by unfold dnF; rw [if_neg (by omega), if_neg (by omega), if_neg (by omega), if_pos k3]
      rw [hE]
      refine CT.of (by decide) (Nat.le_of_ble_eq_true rfl) ?_
      refine q_aload_n dX3_doNode_0 rfl rfl rfl ?_
      refine q_aload_n dX3_doNode_1 rfl rfl rfl ?_
      refine q_getr (r := b + 4) dX3_doNode_2 fX3_107 rfl (ty_r hb 0 rfl) (hb.2.2 0 3 4 rfl) ?_
      refine q_iconst (v := nI 0) dX3_doNode_5 rfl ?_
      refine q_aald (r := b + 5) (j := 0) dX3_doNode_6 (ty_r hb 4 rfl) (Or.inl rfl) (ix_n (by omega) (by omega)) (hb.2.2 4 0 5 rfl) ?_
      refine q_iload_n dX3_doNode_7 rfl rfl ?_
      refine q_iald (x := rO0 (rg q n)) (j := n) dX3_doNode_8 (ty_r hb 5 rfl) (ix_n (by omega) (by omega)) r4 ?_
      refine q_callV (As := [.int (rO0 (rg q n))]) (rest := []) dX3_doNode_9 vX3_110 (ty_c hS (by decide) rfl) ⟨by decide, rfl⟩ (z3_valueOf hS hx o1) rfl rfl (Nat.le_of_ble_eq_true rfl) (by omega) (by omega) (by omega) (k_p ?_)
      refine q_istore dX3_doNode_12 (by decide) (ls' := [(4, .int (opV (xN s) (rO0 (rg q n)))), (0, .ref 46), (1, .ref b), (2, .int (nI p)), (3, .int (nI n))]) rfl ?_
      refine q_aload_n dX3_doNode_14 rfl rfl rfl ?_
      refine q_aload_n dX3_doNode_15 rfl rfl rfl ?_
      refine q_getr (r := b + 4) dX3_doNode_16 fX3_107 rfl (ty_r hb 0 rfl) (hb.2.2 0 3 4 rfl) ?_
      refine q_iconst (v := nI 1) dX3_doNode_19 rfl ?_
      refine q_aald (r := b + 6) (j := 1) dX3_doNode_20 (ty_r hb 4 rfl) (Or.inl rfl) (ix_n (by omega) (by omega)) (hb.2.2 4 1 6 rfl) ?_
      refine q_iload_n dX3_doNode_21 rfl rfl ?_
      refine q_iald (x := rO1 (rg q n)) (j := n) dX3_doNode_22 (ty_r hb 6 rfl) (ix_n (by omega) (by omega)) r5 ?_
      refine q_callV (As := [.int (rO1 (rg q n))]) (rest := []) dX3_doNode_23 vX3_110 (ty_c hS (by decide) rfl) ⟨by decide, rfl⟩ (z3_valueOf hS hx o2) rfl rfl (Nat.le_of_ble_eq_true rfl) (by omega) (by omega) (by omega) (k_p ?_)
      refine q_istore dX3_doNode_26 (by decide) (ls' := [(5, .int (opV (xN s) (rO1 (rg q n)))), (4, .int (opV (xN s) (rO0 (rg q n)))), (0, .ref 46), (1, .ref b), (2, .int (nI p)), (3, .int (nI n))]) rfl ?_
      refine q_aload_n dX3_doNode_28 rfl rfl rfl ?_
      refine q_getr (r := b + 1) dX3_doNode_29 fX3_35 rfl (ty_r hb 0 rfl) (hb.2.2 0 0 1 rfl) ?_
      refine q_iload_n dX3_doNode_32 rfl rfl ?_
      refine q_iald (x := nI 3) (j := n) dX3_doNode_33 (ty_r hb 1 rfl) (ix_n (by omega) (by omega)) (r1.trans (by rw [k3])) ?_
      by_cases w34_3 : 3 = 3
      · refine q_tableEq 3 (tgt := 101) (off := 67) dX3_doNode_34 (by rw [w34_3]) (by decide) rfl (by decide) ?_
        refine q_aload_n dX3_doNode_101 rfl rfl rfl ?_
        refine q_iload dX3_doNode_102 rfl ?_
        refine q_callV (As := [.int (opV (xN s) (rO0 (rg q n)))]) (rest := []) dX3_doNode_104 vX3_128 (ty_c hS (by decide) rfl) ⟨by decide, rfl⟩ (z3_tellValue hS hx hC) rfl rfl (Nat.le_of_ble_eq_true rfl) (by omega) (by omega) (by omega) (k_v (fun s104 q104 => ?_))
        refine q_iconst (v := nI 1) dX3_doNode_107 rfl ?_
        refine q_ireturn dX3_doNode_108 rfl rfl (by omega) (by omega) ?_
        exact ⟨rfl, q104.1, q104.2, trivial⟩
      omega
    · have hE : dnF q p n s = (s, true) := by unfold dnF; rw [if_neg (by omega), if_neg (by omega), if_neg (by omega), if_neg k3]
      rw [hE]
      refine CT.of (by decide) (Nat.le_of_ble_eq_true rfl) ?_
      refine q_aload_n dX3_doNode_0 rfl rfl rfl ?_
      refine q_aload_n dX3_doNode_1 rfl rfl rfl ?_
      refine q_getr (r := b + 4) dX3_doNode_2 fX3_107 rfl (ty_r hb 0 rfl) (hb.2.2 0 3 4 rfl) ?_
      refine q_iconst (v := nI 0) dX3_doNode_5 rfl ?_
      refine q_aald (r := b + 5) (j := 0) dX3_doNode_6 (ty_r hb 4 rfl) (Or.inl rfl) (ix_n (by omega) (by omega)) (hb.2.2 4 0 5 rfl) ?_
      refine q_iload_n dX3_doNode_7 rfl rfl ?_
      refine q_iald (x := rO0 (rg q n)) (j := n) dX3_doNode_8 (ty_r hb 5 rfl) (ix_n (by omega) (by omega)) r4 ?_
      refine q_callV (As := [.int (rO0 (rg q n))]) (rest := []) dX3_doNode_9 vX3_110 (ty_c hS (by decide) rfl) ⟨by decide, rfl⟩ (z3_valueOf hS hx o1) rfl rfl (Nat.le_of_ble_eq_true rfl) (by omega) (by omega) (by omega) (k_p ?_)
      refine q_istore dX3_doNode_12 (by decide) (ls' := [(4, .int (opV (xN s) (rO0 (rg q n)))), (0, .ref 46), (1, .ref b), (2, .int (nI p)), (3, .int (nI n))]) rfl ?_
      refine q_aload_n dX3_doNode_14 rfl rfl rfl ?_
      refine q_aload_n dX3_doNode_15 rfl rfl rfl ?_
      refine q_getr (r := b + 4) dX3_doNode_16 fX3_107 rfl (ty_r hb 0 rfl) (hb.2.2 0 3 4 rfl) ?_
      refine q_iconst (v := nI 1) dX3_doNode_19 rfl ?_
      refine q_aald (r := b + 6) (j := 1) dX3_doNode_20 (ty_r hb 4 rfl) (Or.inl rfl) (ix_n (by omega) (by omega)) (hb.2.2 4 1 6 rfl) ?_
      refine q_iload_n dX3_doNode_21 rfl rfl ?_
      refine q_iald (x := rO1 (rg q n)) (j := n) dX3_doNode_22 (ty_r hb 6 rfl) (ix_n (by omega) (by omega)) r5 ?_
      refine q_callV (As := [.int (rO1 (rg q n))]) (rest := []) dX3_doNode_23 vX3_110 (ty_c hS (by decide) rfl) ⟨by decide, rfl⟩ (z3_valueOf hS hx o2) rfl rfl (Nat.le_of_ble_eq_true rfl) (by omega) (by omega) (by omega) (k_p ?_)
      refine q_istore dX3_doNode_26 (by decide) (ls' := [(5, .int (opV (xN s) (rO1 (rg q n)))), (4, .int (opV (xN s) (rO0 (rg q n)))), (0, .ref 46), (1, .ref b), (2, .int (nI p)), (3, .int (nI n))]) rfl ?_
      refine q_aload_n dX3_doNode_28 rfl rfl rfl ?_
      refine q_getr (r := b + 1) dX3_doNode_29 fX3_35 rfl (ty_r hb 0 rfl) (hb.2.2 0 0 1 rfl) ?_
      refine q_iload_n dX3_doNode_32 rfl rfl ?_
      refine q_iald (x := nI (rK (rg q n))) (j := n) dX3_doNode_33 (ty_r hb 1 rfl) (ix_n (by omega) (by omega)) r1 ?_
      refine q_tableNe 0 3 (tgt := 109) dX3_doNode_34 (by decide) (fun v h1 h2 e => by have e2 := nI_inj (by omega) (by omega) e; omega) (by decide) ?_
      refine q_iconst (v := nI 1) dX3_doNode_109 rfl ?_
      refine q_ireturn dX3_doNode_110 rfl rfl (by omega) (by omega) ?_
      exact ⟨rfl, RFr.rf, hx, trivial⟩

theorem z3_nextOf {σ : HS} (hS : SK σ) (hr : RTN σ b q) {n : Nat} (hn : n < NN q) {s : XS} (hx : XR σ s) : CT g mX3_nextOf 4 0 0 [.ref 46, .ref b, .int (nI n)] σ (PQ σ (.int (oW (nxF q n s)))) := by
  have hb := hr.1
  have hb14 : b = 14 ∨ 99 ≤ b := by rcases hb.1 with h | ⟨j, h⟩ <;> omega
  obtain ⟨-, hc, hw, hnb, hxx, h0, -, -, -, -, hsr, -, hrow, -⟩ := id hr
  have hNN := NN_le hc
  obtain ⟨⟨r1, r2, r3, r4, r5, r6, -⟩, l0, l1, -⟩ := hrow n hn
  obtain ⟨o1, o2⟩ := rg_opd hw (n := n)
  have h7 : rK (rg q n) < 100 := by rcases rg_cases hw hxx hn with ⟨k0, -⟩ | ⟨k0, -⟩ | ⟨k0, -⟩ | ⟨k0, k7, -⟩ <;> omega
  refine CT.of (by decide) (Nat.le_of_ble_eq_true rfl) ?_
  refine q_aload_n dX3_nextOf_0 rfl rfl rfl ?_
  refine q_getr (r := b + 1) dX3_nextOf_1 fX3_35 rfl (ty_r hb 0 rfl) (hb.2.2 0 0 1 rfl) ?_
  refine q_iload_n dX3_nextOf_4 rfl rfl ?_
  refine q_iald (x := nI (rK (rg q n))) (j := n) dX3_nextOf_5 (ty_r hb 1 rfl) (ix_n (by omega) (by omega)) r1 ?_
  refine q_iconst (v := nI 5) dX3_nextOf_6 rfl ?_
  refine q_icmp_neN (tgt := 41) dX3_nextOf_7 (by decide) (by omega) (by omega) (fun c7 => ?_) (fun c7 => ?_)
  · skip
    refine q_iconst (v := nI 0) dX3_nextOf_41 rfl ?_
    refine q_istore_n dX3_nextOf_42 rfl (by decide) (ls' := [(3, .int (nI 0)), (0, .ref 46), (1, .ref b), (2, .int (nI n))]) rfl ?_
    refine q_aload_n dX3_nextOf_43 rfl rfl rfl ?_
    refine q_getr (r := b + 11) dX3_nextOf_44 fX3_165 rfl (ty_r hb 0 rfl) (hb.2.2 0 6 11 rfl) ?_
    refine q_iload_n dX3_nextOf_47 rfl rfl ?_
    refine q_if_eqN (tgt := 55) dX3_nextOf_48 (by decide) (by omega) (fun _ => ?_) (fun h => absurd h (by decide))
    refine q_iconst (v := nI 0) dX3_nextOf_55 rfl ?_
    refine q_aald (r := b + 12) (j := 0) dX3_nextOf_56 (ty_r hb 11 rfl) (Or.inl rfl) (ix_n (by omega) (by omega)) (hb.2.2 11 0 12 rfl) ?_
    refine q_iload_n dX3_nextOf_57 rfl rfl ?_
    refine q_iald (x := oW (ld q 0 n)) (j := n) dX3_nextOf_58 (ty_r hb 12 rfl) (ix_n (by omega) (by omega)) l0 ?_
    refine q_ireturn dX3_nextOf_59 rfl rfl (by omega) (by omega) ?_
    unfold nxF
    first | (rw [if_pos ⟨c7, c34⟩]; exact ⟨rfl, rfl⟩) | (rw [if_neg fun z => c7 z.1]; exact ⟨rfl, rfl⟩) | (rw [if_neg fun z => z.2 c34]; exact ⟨rfl, rfl⟩)
  · skip
    refine q_aload_n dX3_nextOf_10 rfl rfl rfl ?_
    refine q_aload_n dX3_nextOf_11 rfl rfl rfl ?_
    refine q_getr (r := b + 4) dX3_nextOf_12 fX3_107 rfl (ty_r hb 0 rfl) (hb.2.2 0 3 4 rfl) ?_
    refine q_iconst (v := nI 0) dX3_nextOf_15 rfl ?_
    refine q_aald (r := b + 5) (j := 0) dX3_nextOf_16 (ty_r hb 4 rfl) (Or.inl rfl) (ix_n (by omega) (by omega)) (hb.2.2 4 0 5 rfl) ?_
    refine q_iload_n dX3_nextOf_17 rfl rfl ?_
    refine q_iald (x := rO0 (rg q n)) (j := n) dX3_nextOf_18 (ty_r hb 5 rfl) (ix_n (by omega) (by omega)) r4 ?_
    refine q_callV (As := [.int (rO0 (rg q n))]) (rest := []) dX3_nextOf_19 vX3_110 (ty_c hS (by decide) rfl) ⟨by decide, rfl⟩ (z3_valueOf hS hx o1) rfl rfl (Nat.le_of_ble_eq_true rfl) (by omega) (by omega) (by omega) (k_p ?_)
    refine q_aload_n dX3_nextOf_22 rfl rfl rfl ?_
    refine q_aload_n dX3_nextOf_23 rfl rfl rfl ?_
    refine q_getr (r := b + 4) dX3_nextOf_24 fX3_107 rfl (ty_r hb 0 rfl) (hb.2.2 0 3 4 rfl) ?_
    refine q_iconst (v := nI 1) dX3_nextOf_27 rfl ?_
    refine q_aald (r := b + 6) (j := 1) dX3_nextOf_28 (ty_r hb 4 rfl) (Or.inl rfl) (ix_n (by omega) (by omega)) (hb.2.2 4 1 6 rfl) ?_
    refine q_iload_n dX3_nextOf_29 rfl rfl ?_
    refine q_iald (x := rO1 (rg q n)) (j := n) dX3_nextOf_30 (ty_r hb 6 rfl) (ix_n (by omega) (by omega)) r5 ?_
    refine q_callV (As := [.int (rO1 (rg q n))]) (rest := [.int (opV (xN s) (rO0 (rg q n)))]) dX3_nextOf_31 vX3_110 (ty_c hS (by decide) rfl) ⟨by decide, rfl⟩ (z3_valueOf hS hx o2) rfl rfl (Nat.le_of_ble_eq_true rfl) (by omega) (by omega) (by omega) (k_p ?_)
    refine q_icmp_lt (tgt := 41) dX3_nextOf_34 (by decide) (fun c34 => ?_) (fun c34 => ?_)
    · skip
      refine q_iconst (v := nI 0) dX3_nextOf_41 rfl ?_
      refine q_istore_n dX3_nextOf_42 rfl (by decide) (ls' := [(3, .int (nI 0)), (0, .ref 46), (1, .ref b), (2, .int (nI n))]) rfl ?_
      refine q_aload_n dX3_nextOf_43 rfl rfl rfl ?_
      refine q_getr (r := b + 11) dX3_nextOf_44 fX3_165 rfl (ty_r hb 0 rfl) (hb.2.2 0 6 11 rfl) ?_
      refine q_iload_n dX3_nextOf_47 rfl rfl ?_
      refine q_if_eqN (tgt := 55) dX3_nextOf_48 (by decide) (by omega) (fun _ => ?_) (fun h => absurd h (by decide))
      refine q_iconst (v := nI 0) dX3_nextOf_55 rfl ?_
      refine q_aald (r := b + 12) (j := 0) dX3_nextOf_56 (ty_r hb 11 rfl) (Or.inl rfl) (ix_n (by omega) (by omega)) (hb.2.2 11 0 12 rfl) ?_
      refine q_iload_n dX3_nextOf_57 rfl rfl ?_
      refine q_iald (x := oW (ld q 0 n)) (j := n) dX3_nextOf_58 (ty_r hb 12 rfl) (ix_n (by omega) (by omega)) l0 ?_
      refine q_ireturn dX3_nextOf_59 rfl rfl (by omega) (by omega) ?_
      unfold nxF
      first | (rw [if_pos ⟨c7, c34⟩]; exact ⟨rfl, rfl⟩) | (rw [if_neg fun z => c7 z.1]; exact ⟨rfl, rfl⟩) | (rw [if_neg fun z => z.2 c34]; exact ⟨rfl, rfl⟩)
    · skip
      refine q_iconst (v := nI 1) dX3_nextOf_37 rfl ?_
      refine q_goto (tgt := 42) dX3_nextOf_38 (by decide) ?_
      refine q_istore_n dX3_nextOf_42 rfl (by decide) (ls' := [(3, .int (nI 1)), (0, .ref 46), (1, .ref b), (2, .int (nI n))]) rfl ?_
      refine q_aload_n dX3_nextOf_43 rfl rfl rfl ?_
      refine q_getr (r := b + 11) dX3_nextOf_44 fX3_165 rfl (ty_r hb 0 rfl) (hb.2.2 0 6 11 rfl) ?_
      refine q_iload_n dX3_nextOf_47 rfl rfl ?_
      refine q_if_eqN (tgt := 55) dX3_nextOf_48 (by decide) (by omega) (fun h => absurd h (by decide)) (fun _ => ?_)
      refine q_iconst (v := nI 1) dX3_nextOf_51 rfl ?_
      refine q_goto (tgt := 56) dX3_nextOf_52 (by decide) ?_
      refine q_aald (r := b + 13) (j := 1) dX3_nextOf_56 (ty_r hb 11 rfl) (Or.inl rfl) (ix_n (by omega) (by omega)) (hb.2.2 11 1 13 rfl) ?_
      refine q_iload_n dX3_nextOf_57 rfl rfl ?_
      refine q_iald (x := oW (ld q 1 n)) (j := n) dX3_nextOf_58 (ty_r hb 13 rfl) (ix_n (by omega) (by omega)) l1 ?_
      refine q_ireturn dX3_nextOf_59 rfl rfl (by omega) (by omega) ?_
      unfold nxF
      first | (rw [if_pos ⟨c7, c34⟩]; exact ⟨rfl, rfl⟩) | (rw [if_neg fun z => c7 z.1]; exact ⟨rfl, rfl⟩) | (rw [if_neg fun z => z.2 c34]; exact ⟨rfl, rfl⟩)
theorem fil_0 {σ : HS} {h n i : Nat} (hi : i < n) : sI (filS σ h (nI 0) n) h i = 0 := by rw [filS_I, if_pos ⟨rfl, hi⟩]; rfl
/-- what a RUN begins with -/
def xs0 (σ : HS) : XS := (sI σ 47, fun _ _ => 0, fun _ => 0, fun _ => 0, sI σ 52, 0, 0)
def RsQ (σ : HS) : Option Value → HS → Prop := fun r σ' => r = none ∧ Fr [46, 48, 50, 51, 52, 53, 54] σ σ' ∧ XR σ' (xs0 σ) ∧ sI σ' 46 7 = nI 0 ∧ sI σ' 46 8 = nI 0 ∧ sI σ' 46 10 = -1
def rsS (σ : HS) : HS := uI (uI (uI (uI (uI (filS (filS (filS (filS (cpS σ 47 48 0 0 48) 50 (nI 0) 8) 51 (nI 0) 8) 53 (nI 0) 32) 54 (nI 0) 32) 46 7 (nI 0)) 46 8 (nI 0)) 46 9 (nI 0)) 46 10 (-1)) 46 11 (nI 0)
theorem rsS_I {σ : HS} {a i : Nat} : sI (rsS σ) a i = if a = 46 ∧ i = 11 then nI 0 else if a = 46 ∧ i = 10 then -1 else if a = 46 ∧ i = 9 then nI 0 else if a = 46 ∧ i = 8 then nI 0 else if a = 46 ∧ i = 7 then nI 0 else if a = 54 ∧ i < 32 then nI 0 else if a = 53 ∧ i < 32 then nI 0 else if a = 51 ∧ i < 8 then nI 0 else if a = 50 ∧ i < 8 then nI 0 else if a = 48 ∧ 0 ≤ i ∧ i < 0 + 48 then sI σ 47 (0 + (i - 0)) else sI σ a i := by
  unfold rsS
  rw [sI_uI, sI_uI, sI_uI, sI_uI, sI_uI, filS_I, filS_I, filS_I, filS_I, cpS_I]
theorem Fr.fil {S : List Nat} {σ σ' : HS} {h n : Nat} {v : Int32} (k : Fr S σ σ') (hh : h ∈ S) : Fr S σ (filS σ' h v n) := ⟨(filS_R n).2.2.trans k.1, (filS_R n).1.trans k.2.1, (filS_R n).2.1.trans k.2.2.1, fun a ha => funext fun i => by rw [filS_I, if_neg fun z => ha (by rw [z.1]; exact hh), k.2.2.2 a ha]⟩
theorem Fr.cp {S : List Nat} {σ σ' : HS} {h0 h1 sp dp n : Nat} (k : Fr S σ σ') (hh : h1 ∈ S) : Fr S σ (cpS σ' h0 h1 sp dp n) := ⟨k.1, k.2.1, k.2.2.1, fun a ha => funext fun i => by rw [cpS_I, if_neg fun z => ha (by rw [z.1]; exact hh), k.2.2.2 a ha]⟩
theorem rs_fr {σ : HS} : Fr [46, 48, 50, 51, 52, 53, 54] σ (rsS σ) := by
  unfold rsS
  refine Fr.uI (Fr.uI (Fr.uI (Fr.uI (Fr.uI ?_ (by decide)) (by decide)) (by decide)) (by decide)) (by decide)
  refine Fr.fil (Fr.fil (Fr.fil (Fr.fil ?_ (by decide)) (by decide)) (by decide)) (by decide)
  exact Fr.cp Fr.rf (by decide)
theorem rs_x {σ : HS} : XR (rsS σ) (xs0 σ) ∧ sI (rsS σ) 46 7 = nI 0 ∧ sI (rsS σ) 46 8 = nI 0 ∧ sI (rsS σ) 46 10 = -1 := by
  refine ⟨⟨fun i hi => ?_, fun i hi => ?_, fun i hi => ?_, fun i hi => ?_, fun i hi => ?_, fun i hi => ?_, ?_, ?_⟩, ?_, ?_, ?_⟩
  · rw [rsS_I, if_neg (by omega), if_neg (by omega), if_neg (by omega), if_neg (by omega), if_neg (by omega), if_neg (by omega), if_neg (by omega), if_neg (by omega), if_neg (by omega), if_pos (by omega)]
    show sI σ 47 (0 + (i - 0)) = sI σ 47 i
    rw [Nat.sub_zero, Nat.zero_add]
  · rw [rsS_I, if_neg (by omega), if_neg (by omega), if_neg (by omega), if_neg (by omega), if_neg (by omega), if_neg (by omega), if_neg (by omega), if_neg (by omega), if_pos (by omega)]; rfl
  · rw [rsS_I, if_neg (by omega), if_neg (by omega), if_neg (by omega), if_neg (by omega), if_neg (by omega), if_neg (by omega), if_neg (by omega), if_pos (by omega)]; rfl
  · rw [rsS_I, if_neg (by omega), if_neg (by omega), if_neg (by omega), if_neg (by omega), if_neg (by omega), if_neg (by omega), if_pos (by omega)]; rfl
  · rw [rsS_I, if_neg (by omega), if_neg (by omega), if_neg (by omega), if_neg (by omega), if_neg (by omega), if_pos (by omega)]; rfl
  · rw [rsS_I, if_neg (by omega), if_neg (by omega), if_neg (by omega), if_neg (by omega), if_neg (by omega), if_neg (by omega), if_neg (by omega), if_neg (by omega), if_neg (by omega), if_neg (by omega)]; rfl
  · rw [rsS_I, if_neg (by omega), if_neg (by omega), if_pos (by omega)]; rfl
  · rw [rsS_I, if_pos (by omega)]; rfl
  · rw [rsS_I, if_neg (by omega), if_neg (by omega), if_neg (by omega), if_neg (by omega), if_pos (by omega)]
  · rw [rsS_I, if_neg (by omega), if_neg (by omega), if_neg (by omega), if_pos (by omega)]
  · rw [rsS_I, if_neg (by omega), if_pos (by omega)]
theorem rs_eq {σ τ : HS} (h : τ = filS (filS (filS (filS (cpS σ 47 48 0 0 48) 50 (nI 0) 8) 51 (nI 0) 8) 53 (nI 0) 32) 54 (nI 0) 32) : RsQ σ none (uI (uI (uI (uI (uI τ 46 7 (nI 0)) 46 8 (nI 0)) 46 9 (nI 0)) 46 10 (-1)) 46 11 (nI 0)) := by
  have e : uI (uI (uI (uI (uI τ 46 7 (nI 0)) 46 8 (nI 0)) 46 9 (nI 0)) 46 10 (-1)) 46 11 (nI 0) = rsS σ := by rw [h, rsS]
  rw [e]
  exact ⟨rfl, rs_fr, rs_x⟩
theorem z3_reset {σ : HS} (hS : SK σ) : CT g mX3_reset 1 0 0 [.ref 46] σ (RsQ σ) := by
  refine CT.of (by decide) (Nat.le_of_ble_eq_true rfl) ?_
  refine q_aload_n dX3_reset_0 rfl rfl rfl ?_
  refine q_getr (r := 47) dX3_reset_1 fX3_9 rfl (ty_c hS (by decide) rfl) (hS.2 46 0 47 rfl) ?_
  refine q_iconst (v := nI 0) dX3_reset_4 rfl ?_
  refine q_aload_n dX3_reset_5 rfl rfl rfl ?_
  refine q_getr (r := 48) dX3_reset_6 fX3_15 rfl (ty_c hS (by decide) rfl) (hS.2 46 1 48 rfl) ?_
  refine q_iconst (v := nI 0) dX3_reset_9 rfl ?_
  refine q_bipush (v := nI 48) dX3_reset_10 rfl ?_
  refine q_copy (n := 48) (dp := 0) (sp := 0) dX3_reset_12 cy_3 cy_n cy_s cy_i (Or.inl ⟨rfl, rfl⟩) (ty_c hS (by decide) rfl) (ty_c hS (by decide) rfl) (by omega) (by omega) (by omega) (fun _ _ => rfl) (by omega) ?_
  have hS1 : SK (cpS σ 47 48 0 0 48) := hS
  have hE : cpS σ 47 48 0 0 48 = cpS σ 47 48 0 0 48 := rfl
  refine q_iconst (v := nI 0) dX3_reset_15 rfl ?_
  refine q_istore_n dX3_reset_16 rfl (by decide) (ls' := [(1, .int (nI 0)), (0, .ref 46)]) rfl ?_
  refine q_iload_n dX3_reset_17 rfl rfl ?_
  refine q_iconst (v := nI 2) dX3_reset_18 rfl ?_
  refine q_icmp_geN (tgt := 38) dX3_reset_19 (by decide) (by omega) (by omega) (fun h => absurd h (by decide)) (fun _ => ?_)
  refine q_aload_n dX3_reset_22 rfl rfl rfl ?_
  refine q_getr (r := 49) dX3_reset_23 fX3_20 rfl (ty_c hS1 (by decide) rfl) (hS1.2 46 2 49 rfl) ?_
  refine q_iload_n dX3_reset_26 rfl rfl ?_
  refine q_aald (r := 50) (j := 0) dX3_reset_27 (ty_c hS1 (by decide) rfl) (Or.inl rfl) (ix_n (by omega) (by omega)) (hS1.2 49 0 50 rfl) ?_
  refine q_iconst (v := nI 0) dX3_reset_28 rfl ?_
  refine q_callS (As := [.ref 50, .int (nI 0)]) (rest := []) dX3_reset_29 vX3_70 (zJ7_fill (len := 8) (ty_c hS1 (by decide) rfl) (by decide)) rfl rfl (Nat.le_of_ble_eq_true rfl) (by omega) (by omega) (by omega) (k_v (fun s29 q29 => ?_))
  have hS1 : SK s29 := by rw [q29]; exact SK.fil hS1
  replace hE := q29.trans (congrArg (fun z => filS z 50 (nI 0) 8) hE)
  refine q_iincN (c := 1) dX3_reset_32 rfl (by decide) rfl (ls' := [(1, .int (nI 1)), (0, .ref 46)]) rfl ?_
  refine q_goto (tgt := 17) dX3_reset_35 (by decide) ?_
  refine q_iload_n dX3_reset_17 rfl rfl ?_
  refine q_iconst (v := nI 2) dX3_reset_18 rfl ?_
  refine q_icmp_geN (tgt := 38) dX3_reset_19 (by decide) (by omega) (by omega) (fun h => absurd h (by decide)) (fun _ => ?_)
  refine q_aload_n dX3_reset_22 rfl rfl rfl ?_
  refine q_getr (r := 49) dX3_reset_23 fX3_20 rfl (ty_c hS1 (by decide) rfl) (hS1.2 46 2 49 rfl) ?_
  refine q_iload_n dX3_reset_26 rfl rfl ?_
  refine q_aald (r := 51) (j := 1) dX3_reset_27 (ty_c hS1 (by decide) rfl) (Or.inl rfl) (ix_n (by omega) (by omega)) (hS1.2 49 1 51 rfl) ?_
  refine q_iconst (v := nI 0) dX3_reset_28 rfl ?_
  refine q_callS (As := [.ref 51, .int (nI 0)]) (rest := []) dX3_reset_29 vX3_70 (zJ7_fill (len := 8) (ty_c hS1 (by decide) rfl) (by decide)) rfl rfl (Nat.le_of_ble_eq_true rfl) (by omega) (by omega) (by omega) (k_v (fun s29 q29 => ?_))
  have hS1 : SK s29 := by rw [q29]; exact SK.fil hS1
  replace hE := q29.trans (congrArg (fun z => filS z 51 (nI 0) 8) hE)
  refine q_iincN (c := 1) dX3_reset_32 rfl (by decide) rfl (ls' := [(1, .int (nI 2)), (0, .ref 46)]) rfl ?_
  refine q_goto (tgt := 17) dX3_reset_35 (by decide) ?_
  refine q_iload_n dX3_reset_17 rfl rfl ?_
  refine q_iconst (v := nI 2) dX3_reset_18 rfl ?_
  refine q_icmp_geN (tgt := 38) dX3_reset_19 (by decide) (by omega) (by omega) (fun _ => ?_) (fun h => absurd h (by decide))
  refine q_aload_n dX3_reset_38 rfl rfl rfl ?_
  refine q_getr (r := 53) dX3_reset_39 fX3_26 rfl (ty_c hS1 (by decide) rfl) (hS1.2 46 4 53 rfl) ?_
  refine q_iconst (v := nI 0) dX3_reset_42 rfl ?_
  refine q_callS (As := [.ref 53, .int (nI 0)]) (rest := []) dX3_reset_43 vX3_70 (zJ7_fill (len := 32) (ty_c hS1 (by decide) rfl) (by decide)) rfl rfl (Nat.le_of_ble_eq_true rfl) (by omega) (by omega) (by omega) (k_v (fun s43 q43 => ?_))
  have hS1 : SK s43 := by rw [q43]; exact SK.fil hS1
  replace hE := q43.trans (congrArg (fun z => filS z 53 (nI 0) 32) hE)
  refine q_aload_n dX3_reset_46 rfl rfl rfl ?_
  refine q_getr (r := 54) dX3_reset_47 fX3_29 rfl (ty_c hS1 (by decide) rfl) (hS1.2 46 5 54 rfl) ?_
  refine q_iconst (v := nI 0) dX3_reset_50 rfl ?_
  refine q_callS (As := [.ref 54, .int (nI 0)]) (rest := []) dX3_reset_51 vX3_70 (zJ7_fill (len := 32) (ty_c hS1 (by decide) rfl) (by decide)) rfl rfl (Nat.le_of_ble_eq_true rfl) (by omega) (by omega) (by omega) (k_v (fun s51 q51 => ?_))
  have hS1 : SK s51 := by rw [q51]; exact SK.fil hS1
  replace hE := q51.trans (congrArg (fun z => filS z 54 (nI 0) 32) hE)
  refine q_aload_n dX3_reset_54 rfl rfl rfl ?_
  refine q_iconst (v := nI 0) dX3_reset_55 rfl ?_
  refine q_puti dX3_reset_56 fX3_44 rfl (Or.inl rfl) (ty_c hS1 (by decide) rfl) ?_
  refine q_aload_n dX3_reset_59 rfl rfl rfl ?_
  refine q_iconst (v := nI 0) dX3_reset_60 rfl ?_
  refine q_puti dX3_reset_61 fX3_40 rfl (Or.inl rfl) (ty_c hS1 (by decide) rfl) ?_
  refine q_aload_n dX3_reset_64 rfl rfl rfl ?_
  refine q_iconst (v := nI 0) dX3_reset_65 rfl ?_
  refine q_puti dX3_reset_66 fX3_76 rfl (Or.inl rfl) (ty_c hS1 (by decide) rfl) ?_
  refine q_aload_n dX3_reset_69 rfl rfl rfl ?_
  refine q_iconst (v := (-1 : Int32)) dX3_reset_70 rfl ?_
  refine q_puti dX3_reset_71 fX3_57 rfl (Or.inl rfl) (ty_c hS1 (by decide) rfl) ?_
  refine q_aload_n dX3_reset_74 rfl rfl rfl ?_
  refine q_iconst (v := nI 0) dX3_reset_75 rfl ?_
  refine q_puti dX3_reset_76 fX3_79 rfl (Or.inl rfl) (ty_c hS1 (by decide) rfl) ?_
  refine q_return dX3_reset_79 rfl (by omega) (by omega) ?_
  exact rs_eq hE
end GO
