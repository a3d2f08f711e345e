/-! Class Facts: WORKS, KILLS, EARLY. -/
theorem rg_cases {q : PS} (hw : WFs q) (hx : psX q = false) {n : Nat} (hn : n < NN q) : (rK (rg q n) = 0 ∧ (∃ nm, nm < 48 ∧ rT (rg q n) = nI nm) ∧ ∃ e, e < (psM q).length ∧ rS (rg q n) = nI e) ∨ (rK (rg q n) = 1 ∧ (∃ nm, nm < 48 ∧ rT (rg q n) = nI nm) ∧ rS (rg q n) = -1) ∨ (rK (rg q n) = 2 ∧ (∃ w, w < 2 ∧ rT (rg q n) = nI w) ∧ rS (rg q n) = -1) ∨ (3 ≤ rK (rg q n) ∧ rK (rg q n) ≤ 7 ∧ rT (rg q n) = -1 ∧ rS (rg q n) = -1) := by
  by_cases e : n < (psS q).length
  · have e1 : rg q n = rr q n := if_pos e
    rw [e1]
    have hm : rr q n ∈ psS q := gd_mem e
    obtain ⟨⟨h1, h2, -⟩, h3, h4⟩ := hw.1 _ hm
    rcases h2 with ⟨a, b⟩ | ⟨a, b⟩ | ⟨a, b⟩
    · by_cases k : rK (rr q n) = 0
      · rcases h4 k with h5 | ⟨e, h5, h6, -⟩
        · rw [hx] at h5; cases h5
        · exact Or.inl ⟨k, b, e, h5, h6⟩
      · exact Or.inr (Or.inl ⟨by omega, b, h3 k⟩)
    · exact Or.inr (Or.inr (Or.inl ⟨a, b, h3 (by omega)⟩))
    · exact Or.inr (Or.inr (Or.inr ⟨a, by omega, b, h3 (by omega)⟩))
  · have e1 : rg q n = _ := if_neg e
    rw [e1]
    exact Or.inr (Or.inr (Or.inr ⟨by show 3 ≤ 7; omega, Nat.le_refl 7, rfl, rfl⟩))
theorem wk_at {q : PS} {n e : Nat} (hk : (psM q).length ≤ 32) (he : e < (psM q).length) (h : rS (rg q n) = nI e) : nI 1 <<< (nI e &&& 31) = mkN (fun e => wk q e n) (psM q).length := by
  rw [mk_bS hk he]
  exact mk_ext fun i hi => by
    unfold wk
    rw [h]
    by_cases z : i = e
    · subst z; simp
    · rw [decide_eq_false z, decide_eq_false fun z2 => z (nI_inj (by omega) (by omega) z2).symm]
theorem wk_no {q : PS} {n : Nat} (hk : (psM q).length ≤ 32) (h : rS (rg q n) = -1) : nI 0 = mkN (fun e => wk q e n) (psM q).length := by
  rw [mk_0 (psM q).length]
  exact mk_ext fun i hi => by
    unfold wk
    rw [h, decide_eq_false fun z => ?_]
    have h1 : ¬ (nI i < 0) := nI_pos (by omega)
    rw [← z] at h1
    exact h1 (by decide)
section WKS
variable {g : GG} {σ : HS} {b : Nat} {q : PS}
theorem z0_worksKills (hq : FE σ b q) {n : Nat} (hn : n < NN q) : CT g mX0_findWorksAndKills 1 0 0 [.ref (b + 21), .ref b, .int (nI n)] σ (VQ (uI (uI σ (b + 22) n (mkN (fun e => wk q e n) (psM q).length)) (b + 23) n (mkN (fun e => kl q e n) (psM q).length))) := by
  obtain ⟨hb, hc, hw, hnb, hx, h14, hs, hall, hr⟩ := id hq
  have hb14 : b = 14 ∨ 99 ≤ b := by rcases hb.1 with h | ⟨j, h⟩ <;> omega
  have hNN := NN_le hc
  obtain ⟨r1, r3, r7, r12, r13⟩ := hr n hn
  have hk := hq.k
  rcases rg_cases hw hx hn with ⟨k0, ⟨nm, a1, a2⟩, e, e1, e2⟩ | ⟨k0, ⟨nm, a1, a2⟩, e2⟩ | ⟨k0, ⟨nm, a1, a2⟩, e2⟩ | ⟨k0, k7, a2, e2⟩
  · skip
    refine CT.of (by decide) (Nat.le_of_ble_eq_true rfl) ?_
    refine q_aload_n dX0_findWorksAndKills_0 rfl rfl rfl ?_
    refine q_getr (r := b + 22) dX0_findWorksAndKills_1 fX0_9 rfl (ty_r hb 21 rfl) (hb.2.2 21 0 22 rfl) ?_
    refine q_iload_n dX0_findWorksAndKills_4 rfl rfl ?_
    refine q_aload_n dX0_findWorksAndKills_5 rfl rfl rfl ?_
    refine q_getr (r := b + 7) dX0_findWorksAndKills_6 fX0_96 rfl (ty_r hb 0 rfl) (hb.2.2 0 4 7 rfl) ?_
    refine q_iload_n dX0_findWorksAndKills_9 rfl rfl ?_
    refine q_iald (x := nI e) (j := n) dX0_findWorksAndKills_10 (ty_r hb 7 rfl) (ix_n (by omega) (by omega)) (r7.trans e2) ?_
    refine q_if_geN (tgt := 18) dX0_findWorksAndKills_11 (by decide) (by omega) ?_
    refine q_iconst (v := nI 1) dX0_findWorksAndKills_18 rfl ?_
    refine q_aload_n dX0_findWorksAndKills_19 rfl rfl rfl ?_
    refine q_getr (r := b + 7) dX0_findWorksAndKills_20 fX0_96 rfl (ty_r hb 0 rfl) (hb.2.2 0 4 7 rfl) ?_
    refine q_iload_n dX0_findWorksAndKills_23 rfl rfl ?_
    refine q_iald (x := nI e) (j := n) dX0_findWorksAndKills_24 (ty_r hb 7 rfl) (ix_n (by omega) (by omega)) (r7.trans e2) ?_
    refine q_ishl dX0_findWorksAndKills_25 ?_
    refine q_top (y := mkN (fun e => wk q e n) (psM q).length) (wk_at hk e1 e2) ?_
    refine q_iast (j := n) dX0_findWorksAndKills_26 (ty_r hb 22 rfl) (ix_n (by omega) (by omega)) ?_
    refine q_aload_n dX0_findWorksAndKills_27 rfl rfl rfl ?_
    refine q_getr (r := b + 1) dX0_findWorksAndKills_28 fX0_99 rfl (ty_r hb 0 rfl) (hb.2.2 0 0 1 rfl) ?_
    refine q_iload_n dX0_findWorksAndKills_31 rfl rfl ?_
    refine q_iald (x := nI 0) (j := n) dX0_findWorksAndKills_32 (ty_r hb 1 rfl) (ix_n (by omega) (by omega)) (Eq.trans (rd_off (by omega)) (r1.trans (by rw [k0]))) ?_
    by_cases w33_0 : 0 = 0
    · refine q_tableEq 0 (tgt := 60) (off := 27) dX0_findWorksAndKills_33 (by rw [w33_0]) (by decide) rfl (by decide) ?_
      refine q_aload_n dX0_findWorksAndKills_60 rfl rfl rfl ?_
      refine q_getr (r := b + 23) dX0_findWorksAndKills_61 fX0_15 rfl (ty_r hb 21 rfl) (hb.2.2 21 1 23 rfl) ?_
      refine q_iload_n dX0_findWorksAndKills_64 rfl rfl ?_
      refine q_aload_n dX0_findWorksAndKills_65 rfl rfl rfl ?_
      refine q_getr (r := b + 17) dX0_findWorksAndKills_66 fX0_42 rfl (ty_r hb 0 rfl) (hb.2.2 0 10 17 rfl) ?_
      refine q_aload_n dX0_findWorksAndKills_69 rfl rfl rfl ?_
      refine q_getr (r := b + 3) dX0_findWorksAndKills_70 fX0_102 rfl (ty_r hb 0 rfl) (hb.2.2 0 2 3 rfl) ?_
      refine q_iload_n dX0_findWorksAndKills_73 rfl rfl ?_
      refine q_iald (x := nI nm) (j := n) dX0_findWorksAndKills_74 (ty_r hb 3 rfl) (ix_n (by omega) (by omega)) (Eq.trans (rd_off (by omega)) (r3.trans a2)) ?_
      refine q_callV (As := [.int (nI nm)]) (rest := [.int (nI n), .ref (b + 23)]) dX0_findWorksAndKills_75 vX0_105 (ty_r hb 17 rfl) ⟨by decide, rfl⟩ (z4_withName (σ := (uI σ (b + 22) n (mkN (fun e => wk q e n) (psM q).length))) (RB.uI hb) (SR.u hs (by omega)) a1) rfl rfl (Nat.le_of_ble_eq_true rfl) (by omega) (by omega) (by omega) (k_p ?_)
      refine q_top (y := mkN (fun e => kl q e n) (psM q).length) (mk_ext fun e _ => by unfold kl klT sm; rw [k0, a2, nI_clamp (by omega)]; rfl) ?_
      refine q_iast (j := n) dX0_findWorksAndKills_78 (ty_r hb 23 rfl) (ix_n (by omega) (by omega)) ?_
      refine q_goto (tgt := 111) dX0_findWorksAndKills_79 (by decide) ?_
      refine q_return dX0_findWorksAndKills_111 rfl (by omega) (by omega) ?_
      exact ⟨rfl, rfl⟩
    omega
  · skip
    refine CT.of (by decide) (Nat.le_of_ble_eq_true rfl) ?_
    refine q_aload_n dX0_findWorksAndKills_0 rfl rfl rfl ?_
    refine q_getr (r := b + 22) dX0_findWorksAndKills_1 fX0_9 rfl (ty_r hb 21 rfl) (hb.2.2 21 0 22 rfl) ?_
    refine q_iload_n dX0_findWorksAndKills_4 rfl rfl ?_
    refine q_aload_n dX0_findWorksAndKills_5 rfl rfl rfl ?_
    refine q_getr (r := b + 7) dX0_findWorksAndKills_6 fX0_96 rfl (ty_r hb 0 rfl) (hb.2.2 0 4 7 rfl) ?_
    refine q_iload_n dX0_findWorksAndKills_9 rfl rfl ?_
    refine q_iald (x := (-1)) (j := n) dX0_findWorksAndKills_10 (ty_r hb 7 rfl) (ix_n (by omega) (by omega)) (r7.trans e2) ?_
    refine q_if_ge1 (tgt := 18) dX0_findWorksAndKills_11 (by decide) (by decide) ?_
    refine q_iconst (v := nI 0) dX0_findWorksAndKills_14 rfl ?_
    refine q_goto (tgt := 26) dX0_findWorksAndKills_15 (by decide) ?_
    refine q_top (y := mkN (fun e => wk q e n) (psM q).length) (wk_no hk e2) ?_
    refine q_iast (j := n) dX0_findWorksAndKills_26 (ty_r hb 22 rfl) (ix_n (by omega) (by omega)) ?_
    refine q_aload_n dX0_findWorksAndKills_27 rfl rfl rfl ?_
    refine q_getr (r := b + 1) dX0_findWorksAndKills_28 fX0_99 rfl (ty_r hb 0 rfl) (hb.2.2 0 0 1 rfl) ?_
    refine q_iload_n dX0_findWorksAndKills_31 rfl rfl ?_
    refine q_iald (x := nI 1) (j := n) dX0_findWorksAndKills_32 (ty_r hb 1 rfl) (ix_n (by omega) (by omega)) (Eq.trans (rd_off (by omega)) (r1.trans (by rw [k0]))) ?_
    by_cases w33_1 : 1 = 1
    · refine q_tableEq 1 (tgt := 60) (off := 27) dX0_findWorksAndKills_33 (by rw [w33_1]) (by decide) rfl (by decide) ?_
      refine q_aload_n dX0_findWorksAndKills_60 rfl rfl rfl ?_
      refine q_getr (r := b + 23) dX0_findWorksAndKills_61 fX0_15 rfl (ty_r hb 21 rfl) (hb.2.2 21 1 23 rfl) ?_
      refine q_iload_n dX0_findWorksAndKills_64 rfl rfl ?_
      refine q_aload_n dX0_findWorksAndKills_65 rfl rfl rfl ?_
      refine q_getr (r := b + 17) dX0_findWorksAndKills_66 fX0_42 rfl (ty_r hb 0 rfl) (hb.2.2 0 10 17 rfl) ?_
      refine q_aload_n dX0_findWorksAndKills_69 rfl rfl rfl ?_
      refine q_getr (r := b + 3) dX0_findWorksAndKills_70 fX0_102 rfl (ty_r hb 0 rfl) (hb.2.2 0 2 3 rfl) ?_
      refine q_iload_n dX0_findWorksAndKills_73 rfl rfl ?_
      refine q_iald (x := nI nm) (j := n) dX0_findWorksAndKills_74 (ty_r hb 3 rfl) (ix_n (by omega) (by omega)) (Eq.trans (rd_off (by omega)) (r3.trans a2)) ?_
      refine q_callV (As := [.int (nI nm)]) (rest := [.int (nI n), .ref (b + 23)]) dX0_findWorksAndKills_75 vX0_105 (ty_r hb 17 rfl) ⟨by decide, rfl⟩ (z4_withName (σ := (uI σ (b + 22) n (mkN (fun e => wk q e n) (psM q).length))) (RB.uI hb) (SR.u hs (by omega)) a1) rfl rfl (Nat.le_of_ble_eq_true rfl) (by omega) (by omega) (by omega) (k_p ?_)
      refine q_top (y := mkN (fun e => kl q e n) (psM q).length) (mk_ext fun e _ => by unfold kl klT sm; rw [k0, a2, nI_clamp (by omega)]; rfl) ?_
      refine q_iast (j := n) dX0_findWorksAndKills_78 (ty_r hb 23 rfl) (ix_n (by omega) (by omega)) ?_
      refine q_goto (tgt := 111) dX0_findWorksAndKills_79 (by decide) ?_
      refine q_return dX0_findWorksAndKills_111 rfl (by omega) (by omega) ?_
      exact ⟨rfl, rfl⟩
    omega
  · skip
    refine CT.of (by decide) (Nat.le_of_ble_eq_true rfl) ?_
    refine q_aload_n dX0_findWorksAndKills_0 rfl rfl rfl ?_
    refine q_getr (r := b + 22) dX0_findWorksAndKills_1 fX0_9 rfl (ty_r hb 21 rfl) (hb.2.2 21 0 22 rfl) ?_
    refine q_iload_n dX0_findWorksAndKills_4 rfl rfl ?_
    refine q_aload_n dX0_findWorksAndKills_5 rfl rfl rfl ?_
    refine q_getr (r := b + 7) dX0_findWorksAndKills_6 fX0_96 rfl (ty_r hb 0 rfl) (hb.2.2 0 4 7 rfl) ?_
    refine q_iload_n dX0_findWorksAndKills_9 rfl rfl ?_
    refine q_iald (x := (-1)) (j := n) dX0_findWorksAndKills_10 (ty_r hb 7 rfl) (ix_n (by omega) (by omega)) (r7.trans e2) ?_
    refine q_if_ge1 (tgt := 18) dX0_findWorksAndKills_11 (by decide) (by decide) ?_
    refine q_iconst (v := nI 0) dX0_findWorksAndKills_14 rfl ?_
    refine q_goto (tgt := 26) dX0_findWorksAndKills_15 (by decide) ?_
    refine q_top (y := mkN (fun e => wk q e n) (psM q).length) (wk_no hk e2) ?_
    refine q_iast (j := n) dX0_findWorksAndKills_26 (ty_r hb 22 rfl) (ix_n (by omega) (by omega)) ?_
    refine q_aload_n dX0_findWorksAndKills_27 rfl rfl rfl ?_
    refine q_getr (r := b + 1) dX0_findWorksAndKills_28 fX0_99 rfl (ty_r hb 0 rfl) (hb.2.2 0 0 1 rfl) ?_
    refine q_iload_n dX0_findWorksAndKills_31 rfl rfl ?_
    refine q_iald (x := nI 2) (j := n) dX0_findWorksAndKills_32 (ty_r hb 1 rfl) (ix_n (by omega) (by omega)) (Eq.trans (rd_off (by omega)) (r1.trans (by rw [k0]))) ?_
    by_cases w33_2 : 2 = 2
    · refine q_tableEq 2 (tgt := 82) (off := 49) dX0_findWorksAndKills_33 (by rw [w33_2]) (by decide) rfl (by decide) ?_
      refine q_aload_n dX0_findWorksAndKills_82 rfl rfl rfl ?_
      refine q_getr (r := b + 23) dX0_findWorksAndKills_83 fX0_15 rfl (ty_r hb 21 rfl) (hb.2.2 21 1 23 rfl) ?_
      refine q_iload_n dX0_findWorksAndKills_86 rfl rfl ?_
      refine q_aload_n dX0_findWorksAndKills_87 rfl rfl rfl ?_
      refine q_getr (r := b + 17) dX0_findWorksAndKills_88 fX0_42 rfl (ty_r hb 0 rfl) (hb.2.2 0 10 17 rfl) ?_
      refine q_aload_n dX0_findWorksAndKills_91 rfl rfl rfl ?_
      refine q_getr (r := b + 3) dX0_findWorksAndKills_92 fX0_102 rfl (ty_r hb 0 rfl) (hb.2.2 0 2 3 rfl) ?_
      refine q_iload_n dX0_findWorksAndKills_95 rfl rfl ?_
      refine q_iald (x := nI nm) (j := n) dX0_findWorksAndKills_96 (ty_r hb 3 rfl) (ix_n (by omega) (by omega)) (Eq.trans (rd_off (by omega)) (r3.trans a2)) ?_
      refine q_callV (As := [.int (nI nm)]) (rest := [.int (nI n), .ref (b + 23)]) dX0_findWorksAndKills_97 vX0_109 (ty_r hb 17 rfl) ⟨by decide, rfl⟩ (z4_ofRow (σ := (uI σ (b + 22) n (mkN (fun e => wk q e n) (psM q).length))) (RB.uI hb) (SR.u hs (by omega)) a1) rfl rfl (Nat.le_of_ble_eq_true rfl) (by omega) (by omega) (by omega) (k_p ?_)
      refine q_top (y := mkN (fun e => kl q e n) (psM q).length) (mk_ext fun e _ => by unfold kl klT sm; rw [k0, a2, nI_clamp (by omega)]; rfl) ?_
      refine q_iast (j := n) dX0_findWorksAndKills_100 (ty_r hb 23 rfl) (ix_n (by omega) (by omega)) ?_
      refine q_goto (tgt := 111) dX0_findWorksAndKills_101 (by decide) ?_
      refine q_return dX0_findWorksAndKills_111 rfl (by omega) (by omega) ?_
      exact ⟨rfl, rfl⟩
    omega
  · skip
    refine CT.of (by decide) (Nat.le_of_ble_eq_true rfl) ?_
    refine q_aload_n dX0_findWorksAndKills_0 rfl rfl rfl ?_
    refine q_getr (r := b + 22) dX0_findWorksAndKills_1 fX0_9 rfl (ty_r hb 21 rfl) (hb.2.2 21 0 22 rfl) ?_
    refine q_iload_n dX0_findWorksAndKills_4 rfl rfl ?_
    refine q_aload_n dX0_findWorksAndKills_5 rfl rfl rfl ?_
    refine q_getr (r := b + 7) dX0_findWorksAndKills_6 fX0_96 rfl (ty_r hb 0 rfl) (hb.2.2 0 4 7 rfl) ?_
    refine q_iload_n dX0_findWorksAndKills_9 rfl rfl ?_
    refine q_iald (x := (-1)) (j := n) dX0_findWorksAndKills_10 (ty_r hb 7 rfl) (ix_n (by omega) (by omega)) (r7.trans e2) ?_
    refine q_if_ge1 (tgt := 18) dX0_findWorksAndKills_11 (by decide) (by decide) ?_
    refine q_iconst (v := nI 0) dX0_findWorksAndKills_14 rfl ?_
    refine q_goto (tgt := 26) dX0_findWorksAndKills_15 (by decide) ?_
    refine q_top (y := mkN (fun e => wk q e n) (psM q).length) (wk_no hk e2) ?_
    refine q_iast (j := n) dX0_findWorksAndKills_26 (ty_r hb 22 rfl) (ix_n (by omega) (by omega)) ?_
    refine q_aload_n dX0_findWorksAndKills_27 rfl rfl rfl ?_
    refine q_getr (r := b + 1) dX0_findWorksAndKills_28 fX0_99 rfl (ty_r hb 0 rfl) (hb.2.2 0 0 1 rfl) ?_
    refine q_iload_n dX0_findWorksAndKills_31 rfl rfl ?_
    refine q_iald (x := nI (rK (rg q n))) (j := n) dX0_findWorksAndKills_32 (ty_r hb 1 rfl) (ix_n (by omega) (by omega)) (Eq.trans (rd_off (by omega)) r1) ?_
    refine q_tableNe 0 2 (tgt := 104) dX0_findWorksAndKills_33 (by decide) (fun v h1 h2 e => by have e2 := nI_inj (by omega) (by omega) e; omega) (by decide) ?_
    refine q_aload_n dX0_findWorksAndKills_104 rfl rfl rfl ?_
    refine q_getr (r := b + 23) dX0_findWorksAndKills_105 fX0_15 rfl (ty_r hb 21 rfl) (hb.2.2 21 1 23 rfl) ?_
    refine q_iload_n dX0_findWorksAndKills_108 rfl rfl ?_
    refine q_iconst (v := nI 0) dX0_findWorksAndKills_109 rfl ?_
    refine q_top (y := mkN (fun e => kl q e n) (psM q).length) ((mk_0 _).trans (mk_ext fun e _ => by unfold kl klT; rw [if_neg (by omega), if_neg (by omega)])) ?_
    refine q_iast (j := n) dX0_findWorksAndKills_110 (ty_r hb 23 rfl) (ix_n (by omega) (by omega)) ?_
    refine q_return dX0_findWorksAndKills_111 rfl (by omega) (by omega) ?_
    exact ⟨rfl, rfl⟩

/-- EARLY by what leads from the first n NODES -/
noncomputable def eN (q : PS) (n e i : Nat) : Bool := wtd q e i && @decide (i = 0 ∨ ∃ a, a < n ∧ lto q a i ∧ (kl q e a || !(the q e a || wtd q e a)) = true) (Classical.propDecidable _)
theorem eN_end (q : PS) (e i : Nat) : eN q (NN q) e i = ear q e i := rfl
theorem eN_0 (q : PS) (e i : Nat) : eN q 0 e i = (wtd q e i && decide (i = 0)) := by
  unfold eN
  by_cases z : i = 0
  · rw [decide_eq_true z, @decide_eq_true _ (Classical.propDecidable _) (Or.inl z)]
  · rw [decide_eq_false z, @decide_eq_false _ (Classical.propDecidable _)]
    rintro (h | ⟨a, h, -⟩)
    · exact z h
    · omega
theorem eN_f {n e i : Nat} (h : ¬ lto q n i) : eN q (n + 1) e i = eN q n e i := by
  unfold eN
  congr 1
  have : (i = 0 ∨ ∃ a, a < n + 1 ∧ lto q a i ∧ (kl q e a || !(the q e a || wtd q e a)) = true) = (i = 0 ∨ ∃ a, a < n ∧ lto q a i ∧ (kl q e a || !(the q e a || wtd q e a)) = true) := by
    apply propext
    constructor
    · rintro (h1 | ⟨a, h1, h2, h3⟩)
      · exact Or.inl h1
      · by_cases z : a = n
        · rw [z] at h2; exact absurd h2 h
        · exact Or.inr ⟨a, by omega, h2, h3⟩
    · rintro (h1 | ⟨a, h1, h2, h3⟩)
      · exact Or.inl h1
      · exact Or.inr ⟨a, by omega, h2, h3⟩
  rw [this]
theorem eN_t {n e i : Nat} (h : lto q n i) : eN q (n + 1) e i = (eN q n e i || ((kl q e n || !(the q e n || wtd q e n)) && wtd q e i)) := by
  unfold eN
  cases hw : wtd q e i
  · simp
  · rw [Bool.true_and, Bool.true_and, Bool.and_true]
    by_cases hc : (kl q e n || !(the q e n || wtd q e n)) = true
    · rw [hc, Bool.or_true, @decide_eq_true_iff _ (Classical.propDecidable _)]
      exact Or.inr ⟨n, by omega, h, hc⟩
    · rw [Bool.not_eq_true] at hc
      rw [hc, Bool.or_false]
      have : (i = 0 ∨ ∃ a, a < n + 1 ∧ lto q a i ∧ (kl q e a || !(the q e a || wtd q e a)) = true) = (i = 0 ∨ ∃ a, a < n ∧ lto q a i ∧ (kl q e a || !(the q e a || wtd q e a)) = true) := by
        apply propext
        constructor
        · rintro (h1 | ⟨a, h1, h2, h3⟩)
          · exact Or.inl h1
          · by_cases z : a = n
            · rw [z, hc] at h3; cases h3
            · exact Or.inr ⟨a, by omega, h2, h3⟩
        · rintro (h1 | ⟨a, h1, h2, h3⟩)
          · exact Or.inl h1
          · exact Or.inr ⟨a, by omega, h2, h3⟩
      rw [this]
theorem eN_s {n i : Nat} (hk : (psM q).length ≤ 32) (h : lto q n i) : mkN (fun e => eN q n e i) (psM q).length ||| ((mkN (fun e => kl q e n) (psM q).length ||| ((mkN (fun e => the q e n) (psM q).length ||| mkN (fun e => wtd q e n) (psM q).length) ^^^ (-1))) &&& mkN (fun e => wtd q e i) (psM q).length) = mkN (fun e => eN q (n + 1) e i) (psM q).length := by
  rw [mk_or (f := fun e => the q e n) hk, mk_lost hk, mk_or hk]
  exact mk_ext fun e _ => (eN_t h).symm
noncomputable def eS (q : PS) (h n : Nat) (σ : HS) : Option Nat → HS
  | none => σ
  | some i => uI σ h i (mkN (fun e => eN q (n + 1) e i) (psM q).length)
theorem eS_lx {h n : Nat} {σ τ : HS} (k : LX h σ τ) : ∀ o, LX h σ (eS q h n τ o)
  | none => k
  | some _ => k.uI
theorem eS_I {h n m : Nat} {τ : HS} : ∀ o, sI (eS q h n τ o) h m = if o = some m then mkN (fun e => eN q (n + 1) e m) (psM q).length else sI τ h m
  | none => by rw [if_neg (by simp)]; rfl
  | some i => by
    show sI (uI _ _ _ _) _ _ = _
    rw [sI_uI]
    by_cases e : m = i
    · rw [if_pos ⟨rfl, e⟩, if_pos (by rw [e]), e]
    · rw [if_neg fun z => e z.2, if_neg fun z => e (Option.some.inj z).symm]
theorem eS_FA {h n : Nat} {τ : HS} {o0 o1 : Option Nat} (l0 : ld q 0 n = o0) (l1 : ld q 1 n = o1) (hv : FA τ h q (eN q n)) : FA (eS q h n (eS q h n τ o0) o1) h q (eN q (n + 1)) := fun m hm => by
  rw [eS_I, eS_I, hv m hm]
  by_cases e1 : o1 = some m
  · rw [if_pos e1]
  · rw [if_neg e1]
    by_cases e0 : o0 = some m
    · rw [if_pos e0]
    · rw [if_neg e0]
      exact mk_ext fun e _ => (eN_f (by rintro (z | z); exact e0 (l0.symm.trans z); exact e1 (l1.symm.trans z))).symm
theorem y0_early {σ0 : HS} (hq0 : FE σ0 b q) (hkl0 : FA σ0 (b + 23) q (kl q)) (hwt0 : FA σ0 (b + 24) q (wtd q)) (hth0 : FA σ0 (b + 25) q (the q)) : ∀ (k n : Nat) (σ : HS), n + k = NN q → LX (b + 26) σ0 σ → FA σ (b + 26) q (eN q n) → WA g mX0_findEarly 1 0 0 (ZM g (FQ σ0 (b + 26) q (ear q)) 0 0) 0 0 22 [(0, .ref (b + 21)), (1, .ref b), (2, .int (nI n))] [] σ := by
  obtain ⟨hb0, hc, hw, hnb, hx, -⟩ := id hq0
  have hb14 : b = 14 ∨ 99 ≤ b := by rcases hb0.1 with h | ⟨j, h⟩ <;> omega
  have hNN := NN_le hc
  have hk := hq0.k
  intro k
  induction k with
  | zero =>
    intro n σ hm h1 h2
    have hq := hq0.lx (by omega) h1
    obtain ⟨hb, -, -, -, -, h14, -⟩ := id hq
    refine q_iload_n dX0_findEarly_22 rfl rfl ?_
    refine q_aload_n dX0_findEarly_23 rfl rfl rfl ?_
    refine q_geti (x := nI (NN q)) dX0_findEarly_24 fX0_58 rfl (ty_r hb 0 rfl) h14 ?_
    refine q_icmp_geN (tgt := 109) dX0_findEarly_27 (by decide) (by omega) (by omega) (fun c27 => ?_) (fun c27 => ?_)
    · skip
      refine q_return dX0_findEarly_109 rfl (by omega) (by omega) ?_
      exact ⟨rfl, h1, h2.eq fun e _ i _ => by rw [show n = NN q by omega]; rfl⟩
    · exact absurd c27 (by omega)
  | succ k ih =>
    intro n σ hm h1 h2
    have hq := hq0.lx (by omega) h1
    obtain ⟨hb, -, -, -, -, h14, hs, hall, hr⟩ := id hq
    have hkl := hkl0.lx h1 (by omega)
    have hwt := hwt0.lx h1 (by omega)
    have hth := hth0.lx h1 (by omega)
    have g1 := hkl n (by omega)
    have g2 := hwt n (by omega)
    have g3 := hth n (by omega)
    obtain ⟨r1, r3, r7, r12, r13⟩ := hr n (by omega)
    have hl := K_l0 hq (n := n) (by omega)
    cases l0 : ld q 0 n with
    | none =>
      rw [l0] at r12
      cases l1 : ld q 1 n with
      | none =>
        rw [l1] at r13
        refine q_iload_n dX0_findEarly_22 rfl rfl ?_
        refine q_aload_n dX0_findEarly_23 rfl rfl rfl ?_
        refine q_geti (x := nI (NN q)) dX0_findEarly_24 fX0_58 rfl (ty_r hb 0 rfl) h14 ?_
        refine q_icmp_geN (tgt := 109) dX0_findEarly_27 (by decide) (by omega) (by omega) (fun c27 => ?_) (fun c27 => ?_)
        · exact absurd c27 (by omega)
        · skip
          refine q_aload_n dX0_findEarly_30 rfl rfl rfl ?_
          refine q_getr (r := b + 23) dX0_findEarly_31 fX0_15 rfl (ty_r hb 21 rfl) (hb.2.2 21 1 23 rfl) ?_
          refine q_iload_n dX0_findEarly_34 rfl rfl ?_
          refine q_iald (x := mkN (fun e => kl q e n) (psM q).length) (j := n) dX0_findEarly_35 (ty_r hb 23 rfl) (ix_n (by omega) (by omega)) g1 ?_
          refine q_aload_n dX0_findEarly_36 rfl rfl rfl ?_
          refine q_getr (r := b + 25) dX0_findEarly_37 fX0_21 rfl (ty_r hb 21 rfl) (hb.2.2 21 3 25 rfl) ?_
          refine q_iload_n dX0_findEarly_40 rfl rfl ?_
          refine q_iald (x := mkN (fun e => the q e n) (psM q).length) (j := n) dX0_findEarly_41 (ty_r hb 25 rfl) (ix_n (by omega) (by omega)) g3 ?_
          refine q_aload_n dX0_findEarly_42 rfl rfl rfl ?_
          refine q_getr (r := b + 24) dX0_findEarly_43 fX0_18 rfl (ty_r hb 21 rfl) (hb.2.2 21 2 24 rfl) ?_
          refine q_iload_n dX0_findEarly_46 rfl rfl ?_
          refine q_iald (x := mkN (fun e => wtd q e n) (psM q).length) (j := n) dX0_findEarly_47 (ty_r hb 24 rfl) (ix_n (by omega) (by omega)) g2 ?_
          refine q_ior dX0_findEarly_48 ?_
          refine q_iconst (v := (-1 : Int32)) dX0_findEarly_49 rfl ?_
          refine q_ixor dX0_findEarly_50 ?_
          refine q_ior dX0_findEarly_51 ?_
          refine q_istore_n dX0_findEarly_52 rfl (by decide) (ls' := [(3, .int ((mkN (fun e => kl q e n) (psM q).length) ||| (((mkN (fun e => the q e n) (psM q).length) ||| (mkN (fun e => wtd q e n) (psM q).length)) ^^^ (-1 : Int32)))), (0, .ref (b + 21)), (1, .ref b), (2, .int (nI n))]) rfl ?_
          refine q_iconst (v := nI 0) dX0_findEarly_53 rfl ?_
          refine q_istore dX0_findEarly_54 (by decide) (ls' := [(4, .int (nI 0)), (3, .int ((mkN (fun e => kl q e n) (psM q).length) ||| (((mkN (fun e => the q e n) (psM q).length) ||| (mkN (fun e => wtd q e n) (psM q).length)) ^^^ (-1 : Int32)))), (0, .ref (b + 21)), (1, .ref b), (2, .int (nI n))]) rfl ?_
          refine q_iload dX0_findEarly_56 rfl ?_
          refine q_iconst (v := nI 2) dX0_findEarly_58 rfl ?_
          refine q_icmp_geN (tgt := 103) dX0_findEarly_59 (by decide) (by omega) (by omega) (fun h => absurd h (by decide)) (fun _ => ?_)
          refine q_aload_n dX0_findEarly_62 rfl rfl rfl ?_
          refine q_getr (r := b + 11) dX0_findEarly_63 fX0_129 rfl (ty_r hb 0 rfl) (hb.2.2 0 6 11 rfl) ?_
          refine q_iload dX0_findEarly_66 rfl ?_
          refine q_aald (r := b + 12) (j := 0) dX0_findEarly_68 (ty_r hb 11 rfl) (Or.inl rfl) (ix_n (by omega) (by omega)) (hb.2.2 11 0 12 rfl) ?_
          refine q_iload_n dX0_findEarly_69 rfl rfl ?_
          refine q_iald (x := (-1)) (j := n) dX0_findEarly_70 (ty_r hb 12 rfl) (ix_n (by omega) (by omega)) r12 ?_
          refine q_istore dX0_findEarly_71 (by decide) (ls' := [(5, .int (-1)), (4, .int (nI 0)), (3, .int ((mkN (fun e => kl q e n) (psM q).length) ||| (((mkN (fun e => the q e n) (psM q).length) ||| (mkN (fun e => wtd q e n) (psM q).length)) ^^^ (-1 : Int32)))), (0, .ref (b + 21)), (1, .ref b), (2, .int (nI n))]) rfl ?_
          refine q_iload dX0_findEarly_73 rfl ?_
          refine q_if_lt1 (tgt := 97) dX0_findEarly_75 (by decide) (by decide) ?_
          refine q_iincN (c := 1) dX0_findEarly_97 rfl (by decide) rfl (ls' := [(4, .int (nI 1)), (5, .int (-1)), (3, .int ((mkN (fun e => kl q e n) (psM q).length) ||| (((mkN (fun e => the q e n) (psM q).length) ||| (mkN (fun e => wtd q e n) (psM q).length)) ^^^ (-1 : Int32)))), (0, .ref (b + 21)), (1, .ref b), (2, .int (nI n))]) rfl ?_
          refine q_goto (tgt := 56) dX0_findEarly_100 (by decide) ?_
          refine q_iload dX0_findEarly_56 rfl ?_
          refine q_iconst (v := nI 2) dX0_findEarly_58 rfl ?_
          refine q_icmp_geN (tgt := 103) dX0_findEarly_59 (by decide) (by omega) (by omega) (fun h => absurd h (by decide)) (fun _ => ?_)
          refine q_aload_n dX0_findEarly_62 rfl rfl rfl ?_
          refine q_getr (r := b + 11) dX0_findEarly_63 fX0_129 rfl (ty_r hb 0 rfl) (hb.2.2 0 6 11 rfl) ?_
          refine q_iload dX0_findEarly_66 rfl ?_
          refine q_aald (r := b + 13) (j := 1) dX0_findEarly_68 (ty_r hb 11 rfl) (Or.inl rfl) (ix_n (by omega) (by omega)) (hb.2.2 11 1 13 rfl) ?_
          refine q_iload_n dX0_findEarly_69 rfl rfl ?_
          refine q_iald (x := (-1)) (j := n) dX0_findEarly_70 (ty_r hb 13 rfl) (ix_n (by omega) (by omega)) r13 ?_
          refine q_istore dX0_findEarly_71 (by decide) (ls' := [(5, .int (-1)), (4, .int (nI 1)), (3, .int ((mkN (fun e => kl q e n) (psM q).length) ||| (((mkN (fun e => the q e n) (psM q).length) ||| (mkN (fun e => wtd q e n) (psM q).length)) ^^^ (-1 : Int32)))), (0, .ref (b + 21)), (1, .ref b), (2, .int (nI n))]) rfl ?_
          refine q_iload dX0_findEarly_73 rfl ?_
          refine q_if_lt1 (tgt := 97) dX0_findEarly_75 (by decide) (by decide) ?_
          refine q_iincN (c := 1) dX0_findEarly_97 rfl (by decide) rfl (ls' := [(4, .int (nI 2)), (5, .int (-1)), (3, .int ((mkN (fun e => kl q e n) (psM q).length) ||| (((mkN (fun e => the q e n) (psM q).length) ||| (mkN (fun e => wtd q e n) (psM q).length)) ^^^ (-1 : Int32)))), (0, .ref (b + 21)), (1, .ref b), (2, .int (nI n))]) rfl ?_
          refine q_goto (tgt := 56) dX0_findEarly_100 (by decide) ?_
          refine q_iload dX0_findEarly_56 rfl ?_
          refine q_iconst (v := nI 2) dX0_findEarly_58 rfl ?_
          refine q_icmp_geN (tgt := 103) dX0_findEarly_59 (by decide) (by omega) (by omega) (fun _ => ?_) (fun h => absurd h (by decide))
          refine q_iincN (c := 1) dX0_findEarly_103 rfl (by decide) rfl (ls' := [(2, .int (nI (n + 1))), (4, .int (nI 2)), (5, .int (-1)), (3, .int ((mkN (fun e => kl q e n) (psM q).length) ||| (((mkN (fun e => the q e n) (psM q).length) ||| (mkN (fun e => wtd q e n) (psM q).length)) ^^^ (-1 : Int32)))), (0, .ref (b + 21)), (1, .ref b)]) rfl ?_
          refine q_goto (tgt := 22) dX0_findEarly_106 (by decide) ?_
          refine q_pk [4, 5, 0] (ls' := [(0, .ref (b + 21)), (1, .ref b), (2, .int (nI (n + 1)))]) rfl ?_
          exact ih (n + 1) _ (by omega) (eS_lx (q := q) (n := n) (eS_lx (q := q) (n := n) h1 none) none) (eS_FA l0 l1 h2)
      | some v1 =>
        rw [l1] at r13
        have b1 := hl.2 v1 l1
        refine q_iload_n dX0_findEarly_22 rfl rfl ?_
        refine q_aload_n dX0_findEarly_23 rfl rfl rfl ?_
        refine q_geti (x := nI (NN q)) dX0_findEarly_24 fX0_58 rfl (ty_r hb 0 rfl) h14 ?_
        refine q_icmp_geN (tgt := 109) dX0_findEarly_27 (by decide) (by omega) (by omega) (fun c27 => ?_) (fun c27 => ?_)
        · exact absurd c27 (by omega)
        · skip
          refine q_aload_n dX0_findEarly_30 rfl rfl rfl ?_
          refine q_getr (r := b + 23) dX0_findEarly_31 fX0_15 rfl (ty_r hb 21 rfl) (hb.2.2 21 1 23 rfl) ?_
          refine q_iload_n dX0_findEarly_34 rfl rfl ?_
          refine q_iald (x := mkN (fun e => kl q e n) (psM q).length) (j := n) dX0_findEarly_35 (ty_r hb 23 rfl) (ix_n (by omega) (by omega)) g1 ?_
          refine q_aload_n dX0_findEarly_36 rfl rfl rfl ?_
          refine q_getr (r := b + 25) dX0_findEarly_37 fX0_21 rfl (ty_r hb 21 rfl) (hb.2.2 21 3 25 rfl) ?_
          refine q_iload_n dX0_findEarly_40 rfl rfl ?_
          refine q_iald (x := mkN (fun e => the q e n) (psM q).length) (j := n) dX0_findEarly_41 (ty_r hb 25 rfl) (ix_n (by omega) (by omega)) g3 ?_
          refine q_aload_n dX0_findEarly_42 rfl rfl rfl ?_
          refine q_getr (r := b + 24) dX0_findEarly_43 fX0_18 rfl (ty_r hb 21 rfl) (hb.2.2 21 2 24 rfl) ?_
          refine q_iload_n dX0_findEarly_46 rfl rfl ?_
          refine q_iald (x := mkN (fun e => wtd q e n) (psM q).length) (j := n) dX0_findEarly_47 (ty_r hb 24 rfl) (ix_n (by omega) (by omega)) g2 ?_
          refine q_ior dX0_findEarly_48 ?_
          refine q_iconst (v := (-1 : Int32)) dX0_findEarly_49 rfl ?_
          refine q_ixor dX0_findEarly_50 ?_
          refine q_ior dX0_findEarly_51 ?_
          refine q_istore_n dX0_findEarly_52 rfl (by decide) (ls' := [(3, .int ((mkN (fun e => kl q e n) (psM q).length) ||| (((mkN (fun e => the q e n) (psM q).length) ||| (mkN (fun e => wtd q e n) (psM q).length)) ^^^ (-1 : Int32)))), (0, .ref (b + 21)), (1, .ref b), (2, .int (nI n))]) rfl ?_
          refine q_iconst (v := nI 0) dX0_findEarly_53 rfl ?_
          refine q_istore dX0_findEarly_54 (by decide) (ls' := [(4, .int (nI 0)), (3, .int ((mkN (fun e => kl q e n) (psM q).length) ||| (((mkN (fun e => the q e n) (psM q).length) ||| (mkN (fun e => wtd q e n) (psM q).length)) ^^^ (-1 : Int32)))), (0, .ref (b + 21)), (1, .ref b), (2, .int (nI n))]) rfl ?_
          refine q_iload dX0_findEarly_56 rfl ?_
          refine q_iconst (v := nI 2) dX0_findEarly_58 rfl ?_
          refine q_icmp_geN (tgt := 103) dX0_findEarly_59 (by decide) (by omega) (by omega) (fun h => absurd h (by decide)) (fun _ => ?_)
          refine q_aload_n dX0_findEarly_62 rfl rfl rfl ?_
          refine q_getr (r := b + 11) dX0_findEarly_63 fX0_129 rfl (ty_r hb 0 rfl) (hb.2.2 0 6 11 rfl) ?_
          refine q_iload dX0_findEarly_66 rfl ?_
          refine q_aald (r := b + 12) (j := 0) dX0_findEarly_68 (ty_r hb 11 rfl) (Or.inl rfl) (ix_n (by omega) (by omega)) (hb.2.2 11 0 12 rfl) ?_
          refine q_iload_n dX0_findEarly_69 rfl rfl ?_
          refine q_iald (x := (-1)) (j := n) dX0_findEarly_70 (ty_r hb 12 rfl) (ix_n (by omega) (by omega)) r12 ?_
          refine q_istore dX0_findEarly_71 (by decide) (ls' := [(5, .int (-1)), (4, .int (nI 0)), (3, .int ((mkN (fun e => kl q e n) (psM q).length) ||| (((mkN (fun e => the q e n) (psM q).length) ||| (mkN (fun e => wtd q e n) (psM q).length)) ^^^ (-1 : Int32)))), (0, .ref (b + 21)), (1, .ref b), (2, .int (nI n))]) rfl ?_
          refine q_iload dX0_findEarly_73 rfl ?_
          refine q_if_lt1 (tgt := 97) dX0_findEarly_75 (by decide) (by decide) ?_
          refine q_iincN (c := 1) dX0_findEarly_97 rfl (by decide) rfl (ls' := [(4, .int (nI 1)), (5, .int (-1)), (3, .int ((mkN (fun e => kl q e n) (psM q).length) ||| (((mkN (fun e => the q e n) (psM q).length) ||| (mkN (fun e => wtd q e n) (psM q).length)) ^^^ (-1 : Int32)))), (0, .ref (b + 21)), (1, .ref b), (2, .int (nI n))]) rfl ?_
          refine q_goto (tgt := 56) dX0_findEarly_100 (by decide) ?_
          refine q_iload dX0_findEarly_56 rfl ?_
          refine q_iconst (v := nI 2) dX0_findEarly_58 rfl ?_
          refine q_icmp_geN (tgt := 103) dX0_findEarly_59 (by decide) (by omega) (by omega) (fun h => absurd h (by decide)) (fun _ => ?_)
          refine q_aload_n dX0_findEarly_62 rfl rfl rfl ?_
          refine q_getr (r := b + 11) dX0_findEarly_63 fX0_129 rfl (ty_r hb 0 rfl) (hb.2.2 0 6 11 rfl) ?_
          refine q_iload dX0_findEarly_66 rfl ?_
          refine q_aald (r := b + 13) (j := 1) dX0_findEarly_68 (ty_r hb 11 rfl) (Or.inl rfl) (ix_n (by omega) (by omega)) (hb.2.2 11 1 13 rfl) ?_
          refine q_iload_n dX0_findEarly_69 rfl rfl ?_
          refine q_iald (x := nI v1) (j := n) dX0_findEarly_70 (ty_r hb 13 rfl) (ix_n (by omega) (by omega)) r13 ?_
          refine q_istore dX0_findEarly_71 (by decide) (ls' := [(5, .int (nI v1)), (4, .int (nI 1)), (3, .int ((mkN (fun e => kl q e n) (psM q).length) ||| (((mkN (fun e => the q e n) (psM q).length) ||| (mkN (fun e => wtd q e n) (psM q).length)) ^^^ (-1 : Int32)))), (0, .ref (b + 21)), (1, .ref b), (2, .int (nI n))]) rfl ?_
          refine q_iload dX0_findEarly_73 rfl ?_
          refine q_if_ltN (tgt := 97) dX0_findEarly_75 (by decide) (by omega) ?_
          refine q_aload_n dX0_findEarly_78 rfl rfl rfl ?_
          refine q_getr (r := b + 26) dX0_findEarly_79 fX0_24 rfl (ty_r hb 21 rfl) (hb.2.2 21 4 26 rfl) ?_
          refine q_iload dX0_findEarly_82 rfl ?_
          refine q_dup2 dX0_findEarly_84 rfl rfl ?_
          refine q_iald (x := mkN (fun e => eN q n e v1) (psM q).length) (j := v1) dX0_findEarly_85 (ty_r hb 26 rfl) (ix_n (by omega) (by omega)) (h2 v1 b1.1) ?_
          refine q_iload_n dX0_findEarly_86 rfl rfl ?_
          refine q_aload_n dX0_findEarly_87 rfl rfl rfl ?_
          refine q_getr (r := b + 24) dX0_findEarly_88 fX0_18 rfl (ty_r hb 21 rfl) (hb.2.2 21 2 24 rfl) ?_
          refine q_iload dX0_findEarly_91 rfl ?_
          refine q_iald (x := mkN (fun e => wtd q e v1) (psM q).length) (j := v1) dX0_findEarly_93 (ty_r hb 24 rfl) (ix_n (by omega) (by omega)) (hwt v1 b1.1) ?_
          refine q_iand dX0_findEarly_94 ?_
          refine q_ior dX0_findEarly_95 ?_
          refine q_top (y := mkN (fun e => eN q (n + 1) e v1) (psM q).length) (eN_s hk (Or.inr l1)) ?_
          refine q_iast (j := v1) dX0_findEarly_96 (ty_r hb 26 rfl) (ix_n (by omega) (by omega)) ?_
          refine q_iincN (c := 1) dX0_findEarly_97 rfl (by decide) rfl (ls' := [(4, .int (nI 2)), (5, .int (nI v1)), (3, .int ((mkN (fun e => kl q e n) (psM q).length) ||| (((mkN (fun e => the q e n) (psM q).length) ||| (mkN (fun e => wtd q e n) (psM q).length)) ^^^ (-1 : Int32)))), (0, .ref (b + 21)), (1, .ref b), (2, .int (nI n))]) rfl ?_
          refine q_goto (tgt := 56) dX0_findEarly_100 (by decide) ?_
          refine q_iload dX0_findEarly_56 rfl ?_
          refine q_iconst (v := nI 2) dX0_findEarly_58 rfl ?_
          refine q_icmp_geN (tgt := 103) dX0_findEarly_59 (by decide) (by omega) (by omega) (fun _ => ?_) (fun h => absurd h (by decide))
          refine q_iincN (c := 1) dX0_findEarly_103 rfl (by decide) rfl (ls' := [(2, .int (nI (n + 1))), (4, .int (nI 2)), (5, .int (nI v1)), (3, .int ((mkN (fun e => kl q e n) (psM q).length) ||| (((mkN (fun e => the q e n) (psM q).length) ||| (mkN (fun e => wtd q e n) (psM q).length)) ^^^ (-1 : Int32)))), (0, .ref (b + 21)), (1, .ref b)]) rfl ?_
          refine q_goto (tgt := 22) dX0_findEarly_106 (by decide) ?_
          refine q_pk [4, 5, 0] (ls' := [(0, .ref (b + 21)), (1, .ref b), (2, .int (nI (n + 1)))]) rfl ?_
          exact ih (n + 1) _ (by omega) (eS_lx (q := q) (n := n) (eS_lx (q := q) (n := n) h1 none) (some v1)) (eS_FA l0 l1 h2)
    | some v0 =>
      rw [l0] at r12
      have b0 := hl.1 v0 l0
      cases l1 : ld q 1 n with
      | none =>
        rw [l1] at r13
        refine q_iload_n dX0_findEarly_22 rfl rfl ?_
        refine q_aload_n dX0_findEarly_23 rfl rfl rfl ?_
        refine q_geti (x := nI (NN q)) dX0_findEarly_24 fX0_58 rfl (ty_r hb 0 rfl) h14 ?_
        refine q_icmp_geN (tgt := 109) dX0_findEarly_27 (by decide) (by omega) (by omega) (fun c27 => ?_) (fun c27 => ?_)
        · exact absurd c27 (by omega)
        · skip
          refine q_aload_n dX0_findEarly_30 rfl rfl rfl ?_
          refine q_getr (r := b + 23) dX0_findEarly_31 fX0_15 rfl (ty_r hb 21 rfl) (hb.2.2 21 1 23 rfl) ?_
          refine q_iload_n dX0_findEarly_34 rfl rfl ?_
          refine q_iald (x := mkN (fun e => kl q e n) (psM q).length) (j := n) dX0_findEarly_35 (ty_r hb 23 rfl) (ix_n (by omega) (by omega)) g1 ?_
          refine q_aload_n dX0_findEarly_36 rfl rfl rfl ?_
          refine q_getr (r := b + 25) dX0_findEarly_37 fX0_21 rfl (ty_r hb 21 rfl) (hb.2.2 21 3 25 rfl) ?_
          refine q_iload_n dX0_findEarly_40 rfl rfl ?_
          refine q_iald (x := mkN (fun e => the q e n) (psM q).length) (j := n) dX0_findEarly_41 (ty_r hb 25 rfl) (ix_n (by omega) (by omega)) g3 ?_
          refine q_aload_n dX0_findEarly_42 rfl rfl rfl ?_
          refine q_getr (r := b + 24) dX0_findEarly_43 fX0_18 rfl (ty_r hb 21 rfl) (hb.2.2 21 2 24 rfl) ?_
          refine q_iload_n dX0_findEarly_46 rfl rfl ?_
          refine q_iald (x := mkN (fun e => wtd q e n) (psM q).length) (j := n) dX0_findEarly_47 (ty_r hb 24 rfl) (ix_n (by omega) (by omega)) g2 ?_
          refine q_ior dX0_findEarly_48 ?_
          refine q_iconst (v := (-1 : Int32)) dX0_findEarly_49 rfl ?_
          refine q_ixor dX0_findEarly_50 ?_
          refine q_ior dX0_findEarly_51 ?_
          refine q_istore_n dX0_findEarly_52 rfl (by decide) (ls' := [(3, .int ((mkN (fun e => kl q e n) (psM q).length) ||| (((mkN (fun e => the q e n) (psM q).length) ||| (mkN (fun e => wtd q e n) (psM q).length)) ^^^ (-1 : Int32)))), (0, .ref (b + 21)), (1, .ref b), (2, .int (nI n))]) rfl ?_
          refine q_iconst (v := nI 0) dX0_findEarly_53 rfl ?_
          refine q_istore dX0_findEarly_54 (by decide) (ls' := [(4, .int (nI 0)), (3, .int ((mkN (fun e => kl q e n) (psM q).length) ||| (((mkN (fun e => the q e n) (psM q).length) ||| (mkN (fun e => wtd q e n) (psM q).length)) ^^^ (-1 : Int32)))), (0, .ref (b + 21)), (1, .ref b), (2, .int (nI n))]) rfl ?_
          refine q_iload dX0_findEarly_56 rfl ?_
          refine q_iconst (v := nI 2) dX0_findEarly_58 rfl ?_
          refine q_icmp_geN (tgt := 103) dX0_findEarly_59 (by decide) (by omega) (by omega) (fun h => absurd h (by decide)) (fun _ => ?_)
          refine q_aload_n dX0_findEarly_62 rfl rfl rfl ?_
          refine q_getr (r := b + 11) dX0_findEarly_63 fX0_129 rfl (ty_r hb 0 rfl) (hb.2.2 0 6 11 rfl) ?_
          refine q_iload dX0_findEarly_66 rfl ?_
          refine q_aald (r := b + 12) (j := 0) dX0_findEarly_68 (ty_r hb 11 rfl) (Or.inl rfl) (ix_n (by omega) (by omega)) (hb.2.2 11 0 12 rfl) ?_
          refine q_iload_n dX0_findEarly_69 rfl rfl ?_
          refine q_iald (x := nI v0) (j := n) dX0_findEarly_70 (ty_r hb 12 rfl) (ix_n (by omega) (by omega)) r12 ?_
          refine q_istore dX0_findEarly_71 (by decide) (ls' := [(5, .int (nI v0)), (4, .int (nI 0)), (3, .int ((mkN (fun e => kl q e n) (psM q).length) ||| (((mkN (fun e => the q e n) (psM q).length) ||| (mkN (fun e => wtd q e n) (psM q).length)) ^^^ (-1 : Int32)))), (0, .ref (b + 21)), (1, .ref b), (2, .int (nI n))]) rfl ?_
          refine q_iload dX0_findEarly_73 rfl ?_
          refine q_if_ltN (tgt := 97) dX0_findEarly_75 (by decide) (by omega) ?_
          refine q_aload_n dX0_findEarly_78 rfl rfl rfl ?_
          refine q_getr (r := b + 26) dX0_findEarly_79 fX0_24 rfl (ty_r hb 21 rfl) (hb.2.2 21 4 26 rfl) ?_
          refine q_iload dX0_findEarly_82 rfl ?_
          refine q_dup2 dX0_findEarly_84 rfl rfl ?_
          refine q_iald (x := mkN (fun e => eN q n e v0) (psM q).length) (j := v0) dX0_findEarly_85 (ty_r hb 26 rfl) (ix_n (by omega) (by omega)) (h2 v0 b0.1) ?_
          refine q_iload_n dX0_findEarly_86 rfl rfl ?_
          refine q_aload_n dX0_findEarly_87 rfl rfl rfl ?_
          refine q_getr (r := b + 24) dX0_findEarly_88 fX0_18 rfl (ty_r hb 21 rfl) (hb.2.2 21 2 24 rfl) ?_
          refine q_iload dX0_findEarly_91 rfl ?_
          refine q_iald (x := mkN (fun e => wtd q e v0) (psM q).length) (j := v0) dX0_findEarly_93 (ty_r hb 24 rfl) (ix_n (by omega) (by omega)) (hwt v0 b0.1) ?_
          refine q_iand dX0_findEarly_94 ?_
          refine q_ior dX0_findEarly_95 ?_
          refine q_top (y := mkN (fun e => eN q (n + 1) e v0) (psM q).length) (eN_s hk (Or.inl l0)) ?_
          refine q_iast (j := v0) dX0_findEarly_96 (ty_r hb 26 rfl) (ix_n (by omega) (by omega)) ?_
          refine q_iincN (c := 1) dX0_findEarly_97 rfl (by decide) rfl (ls' := [(4, .int (nI 1)), (5, .int (nI v0)), (3, .int ((mkN (fun e => kl q e n) (psM q).length) ||| (((mkN (fun e => the q e n) (psM q).length) ||| (mkN (fun e => wtd q e n) (psM q).length)) ^^^ (-1 : Int32)))), (0, .ref (b + 21)), (1, .ref b), (2, .int (nI n))]) rfl ?_
          refine q_goto (tgt := 56) dX0_findEarly_100 (by decide) ?_
          refine q_iload dX0_findEarly_56 rfl ?_
          refine q_iconst (v := nI 2) dX0_findEarly_58 rfl ?_
          refine q_icmp_geN (tgt := 103) dX0_findEarly_59 (by decide) (by omega) (by omega) (fun h => absurd h (by decide)) (fun _ => ?_)
          refine q_aload_n dX0_findEarly_62 rfl rfl rfl ?_
          refine q_getr (r := b + 11) dX0_findEarly_63 fX0_129 rfl (ty_r hb 0 rfl) (hb.2.2 0 6 11 rfl) ?_
          refine q_iload dX0_findEarly_66 rfl ?_
          refine q_aald (r := b + 13) (j := 1) dX0_findEarly_68 (ty_r hb 11 rfl) (Or.inl rfl) (ix_n (by omega) (by omega)) (hb.2.2 11 1 13 rfl) ?_
          refine q_iload_n dX0_findEarly_69 rfl rfl ?_
          refine q_iald (x := (-1)) (j := n) dX0_findEarly_70 (ty_r hb 13 rfl) (ix_n (by omega) (by omega)) (Eq.trans (rd_off (by omega)) r13) ?_
          refine q_istore dX0_findEarly_71 (by decide) (ls' := [(5, .int (-1)), (4, .int (nI 1)), (3, .int ((mkN (fun e => kl q e n) (psM q).length) ||| (((mkN (fun e => the q e n) (psM q).length) ||| (mkN (fun e => wtd q e n) (psM q).length)) ^^^ (-1 : Int32)))), (0, .ref (b + 21)), (1, .ref b), (2, .int (nI n))]) rfl ?_
          refine q_iload dX0_findEarly_73 rfl ?_
          refine q_if_lt1 (tgt := 97) dX0_findEarly_75 (by decide) (by decide) ?_
          refine q_iincN (c := 1) dX0_findEarly_97 rfl (by decide) rfl (ls' := [(4, .int (nI 2)), (5, .int (-1)), (3, .int ((mkN (fun e => kl q e n) (psM q).length) ||| (((mkN (fun e => the q e n) (psM q).length) ||| (mkN (fun e => wtd q e n) (psM q).length)) ^^^ (-1 : Int32)))), (0, .ref (b + 21)), (1, .ref b), (2, .int (nI n))]) rfl ?_
          refine q_goto (tgt := 56) dX0_findEarly_100 (by decide) ?_
          refine q_iload dX0_findEarly_56 rfl ?_
          refine q_iconst (v := nI 2) dX0_findEarly_58 rfl ?_
          refine q_icmp_geN (tgt := 103) dX0_findEarly_59 (by decide) (by omega) (by omega) (fun _ => ?_) (fun h => absurd h (by decide))
          refine q_iincN (c := 1) dX0_findEarly_103 rfl (by decide) rfl (ls' := [(2, .int (nI (n + 1))), (4, .int (nI 2)), (5, .int (-1)), (3, .int ((mkN (fun e => kl q e n) (psM q).length) ||| (((mkN (fun e => the q e n) (psM q).length) ||| (mkN (fun e => wtd q e n) (psM q).length)) ^^^ (-1 : Int32)))), (0, .ref (b + 21)), (1, .ref b)]) rfl ?_
          refine q_goto (tgt := 22) dX0_findEarly_106 (by decide) ?_
          refine q_pk [4, 5, 0] (ls' := [(0, .ref (b + 21)), (1, .ref b), (2, .int (nI (n + 1)))]) rfl ?_
          exact ih (n + 1) _ (by omega) (eS_lx (q := q) (n := n) (eS_lx (q := q) (n := n) h1 (some v0)) none) (eS_FA l0 l1 h2)
      | some v1 =>
        rw [l1] at r13
        have b1 := hl.2 v1 l1
        have hne : v1 ≠ v0 := fun z => ld_ne hc hw hnb l0 l1 z.symm
        refine q_iload_n dX0_findEarly_22 rfl rfl ?_
        refine q_aload_n dX0_findEarly_23 rfl rfl rfl ?_
        refine q_geti (x := nI (NN q)) dX0_findEarly_24 fX0_58 rfl (ty_r hb 0 rfl) h14 ?_
        refine q_icmp_geN (tgt := 109) dX0_findEarly_27 (by decide) (by omega) (by omega) (fun c27 => ?_) (fun c27 => ?_)
        · exact absurd c27 (by omega)
        · skip
          refine q_aload_n dX0_findEarly_30 rfl rfl rfl ?_
          refine q_getr (r := b + 23) dX0_findEarly_31 fX0_15 rfl (ty_r hb 21 rfl) (hb.2.2 21 1 23 rfl) ?_
          refine q_iload_n dX0_findEarly_34 rfl rfl ?_
          refine q_iald (x := mkN (fun e => kl q e n) (psM q).length) (j := n) dX0_findEarly_35 (ty_r hb 23 rfl) (ix_n (by omega) (by omega)) g1 ?_
          refine q_aload_n dX0_findEarly_36 rfl rfl rfl ?_
          refine q_getr (r := b + 25) dX0_findEarly_37 fX0_21 rfl (ty_r hb 21 rfl) (hb.2.2 21 3 25 rfl) ?_
          refine q_iload_n dX0_findEarly_40 rfl rfl ?_
          refine q_iald (x := mkN (fun e => the q e n) (psM q).length) (j := n) dX0_findEarly_41 (ty_r hb 25 rfl) (ix_n (by omega) (by omega)) g3 ?_
          refine q_aload_n dX0_findEarly_42 rfl rfl rfl ?_
          refine q_getr (r := b + 24) dX0_findEarly_43 fX0_18 rfl (ty_r hb 21 rfl) (hb.2.2 21 2 24 rfl) ?_
          refine q_iload_n dX0_findEarly_46 rfl rfl ?_
          refine q_iald (x := mkN (fun e => wtd q e n) (psM q).length) (j := n) dX0_findEarly_47 (ty_r hb 24 rfl) (ix_n (by omega) (by omega)) g2 ?_
          refine q_ior dX0_findEarly_48 ?_
          refine q_iconst (v := (-1 : Int32)) dX0_findEarly_49 rfl ?_
          refine q_ixor dX0_findEarly_50 ?_
          refine q_ior dX0_findEarly_51 ?_
          refine q_istore_n dX0_findEarly_52 rfl (by decide) (ls' := [(3, .int ((mkN (fun e => kl q e n) (psM q).length) ||| (((mkN (fun e => the q e n) (psM q).length) ||| (mkN (fun e => wtd q e n) (psM q).length)) ^^^ (-1 : Int32)))), (0, .ref (b + 21)), (1, .ref b), (2, .int (nI n))]) rfl ?_
          refine q_iconst (v := nI 0) dX0_findEarly_53 rfl ?_
          refine q_istore dX0_findEarly_54 (by decide) (ls' := [(4, .int (nI 0)), (3, .int ((mkN (fun e => kl q e n) (psM q).length) ||| (((mkN (fun e => the q e n) (psM q).length) ||| (mkN (fun e => wtd q e n) (psM q).length)) ^^^ (-1 : Int32)))), (0, .ref (b + 21)), (1, .ref b), (2, .int (nI n))]) rfl ?_
          refine q_iload dX0_findEarly_56 rfl ?_
          refine q_iconst (v := nI 2) dX0_findEarly_58 rfl ?_
          refine q_icmp_geN (tgt := 103) dX0_findEarly_59 (by decide) (by omega) (by omega) (fun h => absurd h (by decide)) (fun _ => ?_)
          refine q_aload_n dX0_findEarly_62 rfl rfl rfl ?_
          refine q_getr (r := b + 11) dX0_findEarly_63 fX0_129 rfl (ty_r hb 0 rfl) (hb.2.2 0 6 11 rfl) ?_
          refine q_iload dX0_findEarly_66 rfl ?_
          refine q_aald (r := b + 12) (j := 0) dX0_findEarly_68 (ty_r hb 11 rfl) (Or.inl rfl) (ix_n (by omega) (by omega)) (hb.2.2 11 0 12 rfl) ?_
          refine q_iload_n dX0_findEarly_69 rfl rfl ?_
          refine q_iald (x := nI v0) (j := n) dX0_findEarly_70 (ty_r hb 12 rfl) (ix_n (by omega) (by omega)) r12 ?_
          refine q_istore dX0_findEarly_71 (by decide) (ls' := [(5, .int (nI v0)), (4, .int (nI 0)), (3, .int ((mkN (fun e => kl q e n) (psM q).length) ||| (((mkN (fun e => the q e n) (psM q).length) ||| (mkN (fun e => wtd q e n) (psM q).length)) ^^^ (-1 : Int32)))), (0, .ref (b + 21)), (1, .ref b), (2, .int (nI n))]) rfl ?_
          refine q_iload dX0_findEarly_73 rfl ?_
          refine q_if_ltN (tgt := 97) dX0_findEarly_75 (by decide) (by omega) ?_
          refine q_aload_n dX0_findEarly_78 rfl rfl rfl ?_
          refine q_getr (r := b + 26) dX0_findEarly_79 fX0_24 rfl (ty_r hb 21 rfl) (hb.2.2 21 4 26 rfl) ?_
          refine q_iload dX0_findEarly_82 rfl ?_
          refine q_dup2 dX0_findEarly_84 rfl rfl ?_
          refine q_iald (x := mkN (fun e => eN q n e v0) (psM q).length) (j := v0) dX0_findEarly_85 (ty_r hb 26 rfl) (ix_n (by omega) (by omega)) (h2 v0 b0.1) ?_
          refine q_iload_n dX0_findEarly_86 rfl rfl ?_
          refine q_aload_n dX0_findEarly_87 rfl rfl rfl ?_
          refine q_getr (r := b + 24) dX0_findEarly_88 fX0_18 rfl (ty_r hb 21 rfl) (hb.2.2 21 2 24 rfl) ?_
          refine q_iload dX0_findEarly_91 rfl ?_
          refine q_iald (x := mkN (fun e => wtd q e v0) (psM q).length) (j := v0) dX0_findEarly_93 (ty_r hb 24 rfl) (ix_n (by omega) (by omega)) (hwt v0 b0.1) ?_
          refine q_iand dX0_findEarly_94 ?_
          refine q_ior dX0_findEarly_95 ?_
          refine q_top (y := mkN (fun e => eN q (n + 1) e v0) (psM q).length) (eN_s hk (Or.inl l0)) ?_
          refine q_iast (j := v0) dX0_findEarly_96 (ty_r hb 26 rfl) (ix_n (by omega) (by omega)) ?_
          refine q_iincN (c := 1) dX0_findEarly_97 rfl (by decide) rfl (ls' := [(4, .int (nI 1)), (5, .int (nI v0)), (3, .int ((mkN (fun e => kl q e n) (psM q).length) ||| (((mkN (fun e => the q e n) (psM q).length) ||| (mkN (fun e => wtd q e n) (psM q).length)) ^^^ (-1 : Int32)))), (0, .ref (b + 21)), (1, .ref b), (2, .int (nI n))]) rfl ?_
          refine q_goto (tgt := 56) dX0_findEarly_100 (by decide) ?_
          refine q_iload dX0_findEarly_56 rfl ?_
          refine q_iconst (v := nI 2) dX0_findEarly_58 rfl ?_
          refine q_icmp_geN (tgt := 103) dX0_findEarly_59 (by decide) (by omega) (by omega) (fun h => absurd h (by decide)) (fun _ => ?_)
          refine q_aload_n dX0_findEarly_62 rfl rfl rfl ?_
          refine q_getr (r := b + 11) dX0_findEarly_63 fX0_129 rfl (ty_r hb 0 rfl) (hb.2.2 0 6 11 rfl) ?_
          refine q_iload dX0_findEarly_66 rfl ?_
          refine q_aald (r := b + 13) (j := 1) dX0_findEarly_68 (ty_r hb 11 rfl) (Or.inl rfl) (ix_n (by omega) (by omega)) (hb.2.2 11 1 13 rfl) ?_
          refine q_iload_n dX0_findEarly_69 rfl rfl ?_
          refine q_iald (x := nI v1) (j := n) dX0_findEarly_70 (ty_r hb 13 rfl) (ix_n (by omega) (by omega)) (Eq.trans (rd_off (by omega)) r13) ?_
          refine q_istore dX0_findEarly_71 (by decide) (ls' := [(5, .int (nI v1)), (4, .int (nI 1)), (3, .int ((mkN (fun e => kl q e n) (psM q).length) ||| (((mkN (fun e => the q e n) (psM q).length) ||| (mkN (fun e => wtd q e n) (psM q).length)) ^^^ (-1 : Int32)))), (0, .ref (b + 21)), (1, .ref b), (2, .int (nI n))]) rfl ?_
          refine q_iload dX0_findEarly_73 rfl ?_
          refine q_if_ltN (tgt := 97) dX0_findEarly_75 (by decide) (by omega) ?_
          refine q_aload_n dX0_findEarly_78 rfl rfl rfl ?_
          refine q_getr (r := b + 26) dX0_findEarly_79 fX0_24 rfl (ty_r hb 21 rfl) (hb.2.2 21 4 26 rfl) ?_
          refine q_iload dX0_findEarly_82 rfl ?_
          refine q_dup2 dX0_findEarly_84 rfl rfl ?_
          refine q_iald (x := mkN (fun e => eN q n e v1) (psM q).length) (j := v1) dX0_findEarly_85 (ty_r hb 26 rfl) (ix_n (by omega) (by omega)) (Eq.trans (rd_ne hne) (h2 v1 b1.1)) ?_
          refine q_iload_n dX0_findEarly_86 rfl rfl ?_
          refine q_aload_n dX0_findEarly_87 rfl rfl rfl ?_
          refine q_getr (r := b + 24) dX0_findEarly_88 fX0_18 rfl (ty_r hb 21 rfl) (hb.2.2 21 2 24 rfl) ?_
          refine q_iload dX0_findEarly_91 rfl ?_
          refine q_iald (x := mkN (fun e => wtd q e v1) (psM q).length) (j := v1) dX0_findEarly_93 (ty_r hb 24 rfl) (ix_n (by omega) (by omega)) (Eq.trans (rd_off (by omega)) (hwt v1 b1.1)) ?_
          refine q_iand dX0_findEarly_94 ?_
          refine q_ior dX0_findEarly_95 ?_
          refine q_top (y := mkN (fun e => eN q (n + 1) e v1) (psM q).length) (eN_s hk (Or.inr l1)) ?_
          refine q_iast (j := v1) dX0_findEarly_96 (ty_r hb 26 rfl) (ix_n (by omega) (by omega)) ?_
          refine q_iincN (c := 1) dX0_findEarly_97 rfl (by decide) rfl (ls' := [(4, .int (nI 2)), (5, .int (nI v1)), (3, .int ((mkN (fun e => kl q e n) (psM q).length) ||| (((mkN (fun e => the q e n) (psM q).length) ||| (mkN (fun e => wtd q e n) (psM q).length)) ^^^ (-1 : Int32)))), (0, .ref (b + 21)), (1, .ref b), (2, .int (nI n))]) rfl ?_
          refine q_goto (tgt := 56) dX0_findEarly_100 (by decide) ?_
          refine q_iload dX0_findEarly_56 rfl ?_
          refine q_iconst (v := nI 2) dX0_findEarly_58 rfl ?_
          refine q_icmp_geN (tgt := 103) dX0_findEarly_59 (by decide) (by omega) (by omega) (fun _ => ?_) (fun h => absurd h (by decide))
          refine q_iincN (c := 1) dX0_findEarly_103 rfl (by decide) rfl (ls' := [(2, .int (nI (n + 1))), (4, .int (nI 2)), (5, .int (nI v1)), (3, .int ((mkN (fun e => kl q e n) (psM q).length) ||| (((mkN (fun e => the q e n) (psM q).length) ||| (mkN (fun e => wtd q e n) (psM q).length)) ^^^ (-1 : Int32)))), (0, .ref (b + 21)), (1, .ref b)]) rfl ?_
          refine q_goto (tgt := 22) dX0_findEarly_106 (by decide) ?_
          refine q_pk [4, 5, 0] (ls' := [(0, .ref (b + 21)), (1, .ref b), (2, .int (nI (n + 1)))]) rfl ?_
          exact ih (n + 1) _ (by omega) (eS_lx (q := q) (n := n) (eS_lx (q := q) (n := n) h1 (some v0)) (some v1)) (eS_FA l0 l1 h2)

theorem eN_up {e i : Nat} : up1 (fun _ _ => false) 0 (fun e => wtd q e 0) e i = eN q 0 e i := by
  rw [eN_0]
  unfold up1
  by_cases z : i = 0
  · rw [if_pos z, z]; simp
  · rw [if_neg z]; simp [z]
theorem z0_early (hq : FE σ b q) (hkl : FA σ (b + 23) q (kl q)) (hwt : FA σ (b + 24) q (wtd q)) (hth : FA σ (b + 25) q (the q)) (hN : 0 < NN q) : CT g mX0_findEarly 1 0 0 [.ref (b + 21), .ref b] σ (FQ σ (b + 26) q (ear q)) := by
  obtain ⟨hb, hc, hw, hnb, hx, -⟩ := id hq
  have hb14 : b = 14 ∨ 99 ≤ b := by rcases hb.1 with h | ⟨j, h⟩ <;> omega
  have hNN := NN_le hc
  have hk := hq.k
  have g2 := hwt 0 hN
  refine CT.of (by decide) (Nat.le_of_ble_eq_true rfl) ?_
  refine q_aload_n dX0_findEarly_0 rfl rfl rfl ?_
  refine q_getr (r := b + 26) dX0_findEarly_1 fX0_24 rfl (ty_r hb 21 rfl) (hb.2.2 21 4 26 rfl) ?_
  refine q_iconst (v := nI 0) dX0_findEarly_4 rfl ?_
  refine q_callS (As := [.ref (b + 26), .int (nI 0)]) (rest := []) dX0_findEarly_5 vX0_115 (zJ7_fill (len := 240) (ty_r hb 26 rfl) (by decide)) rfl rfl (Nat.le_of_ble_eq_true rfl) (by omega) (by omega) (by omega) (k_s ?_)
  have hb9 : RB (filS σ (b + 26) (nI 0) 240) b := RB.lf (LX.fil.lf (b := b) (by omega)) hb
  refine q_aload_n dX0_findEarly_8 rfl rfl rfl ?_
  refine q_getr (r := b + 26) dX0_findEarly_9 fX0_24 rfl (ty_r hb9 21 rfl) (hb9.2.2 21 4 26 rfl) ?_
  refine q_iconst (v := nI 0) dX0_findEarly_12 rfl ?_
  refine q_aload_n dX0_findEarly_13 rfl rfl rfl ?_
  refine q_getr (r := b + 24) dX0_findEarly_14 fX0_18 rfl (ty_r hb9 21 rfl) (hb9.2.2 21 2 24 rfl) ?_
  refine q_iconst (v := nI 0) dX0_findEarly_17 rfl ?_
  refine q_iald (x := mkN (fun e => wtd q e 0) (psM q).length) (j := 0) dX0_findEarly_18 (ty_r hb9 24 rfl) (ix_n (by omega) (by omega)) (by rw [filS_I, if_neg (by omega)]; exact g2) ?_
  refine q_iast (j := 0) dX0_findEarly_19 (ty_r hb9 26 rfl) (ix_n (by omega) (by omega)) ?_
  refine q_iconst (v := nI 0) dX0_findEarly_20 rfl ?_
  refine q_istore_n dX0_findEarly_21 rfl (by decide) (ls' := [(2, .int (nI 0)), (0, .ref (b + 21)), (1, .ref b)]) rfl ?_
  refine q_pk [1, 2, 0] (ls' := [(0, .ref (b + 21)), (1, .ref b), (2, .int (nI 0))]) rfl ?_
  exact y0_early hq hkl hwt hth (NN q) 0 _ (by omega) LX.fil.uI (FA.eq (FA.up (f := fun _ _ => false) (x := fun e => wtd q e 0) (FA.fil hc rfl fun i _ => mk_0 _)) fun e _ i _ => eN_up)
end WKS
