/-! Class Writer: what is set ahead of a NODE; the NODE. -/
theorem seT_no {q : PS} {p n : Nat} : ∀ {f e : Nat}, (∀ i, e ≤ i → i < e + f → ¬ stA q p i n = true) → seT q p n f e = []
  | 0, _, _ => rfl
  | f + 1, e, h => by
    unfold seT
    rw [if_neg (h e (Nat.le_refl _) (by omega)), seT_no fun i h1 h2 => h i (by omega) (by omega)]; rfl
section WR3
variable {g : GG} {b : Nat} {q : PS}
theorem y7_sets {σ0 : HS} (hS0 : SK σ0) (hr0 : RTN σ0 b q) {p : Nat} (hp : p < 3) {n : Nat} (hn : n < NN q) : ∀ (f e : Nat) (W : List Nat) (σ : HS), e + f = (psM q).length → Fr [55, 56] σ0 σ → BFx σ W → WA g mX7_putSetAhead 8 0 0 (ZM g (WXQ σ0 (W ++ seT q p n f e)) 0 0) 0 0 14 [(0, .ref 55), (1, .ref b), (2, .int (nI p)), (3, .int (nI n)), (4, .int (mkN (fun e => stA q p e n) (psM q).length)), (5, .int (nI e))] [] σ := by
  have hk := hr0.fp.2.1
  have hw := hr0.2.2.1
  intro f
  induction f with
  | zero =>
    intro e W σ he h1 hW
    have hS := SK.fr h1 hS0
    have hr := hr0.f55 h1
    have hb := hr.1
    have hb14 : b = 14 ∨ 99 ≤ b := by rcases hb.1 with h | ⟨j, h⟩ <;> omega
    have s1 := hr.2.2.2.2.2.2.2.2.2.2.1.1
    have eT : W ++ seT q p n 0 e = W := List.append_nil W
    rw [eT]
    refine q_iload dX7_putSetAhead_14 rfl ?_
    refine q_if_eq (tgt := 91) dX7_putSetAhead_16 (by decide) (fun c16 => ?_) (fun c16 => ?_)
    · skip
      refine q_return dX7_putSetAhead_91 rfl (by omega) (by omega) ?_
      exact ⟨rfl, h1, hW⟩
    · skip
      refine q_iload dX7_putSetAhead_19 rfl ?_
      refine q_aload_n dX7_putSetAhead_21 rfl rfl rfl ?_
      refine q_getr (r := b + 17) dX7_putSetAhead_22 fX7_76 rfl (ty_r hb 0 rfl) (hb.2.2 0 10 17 rfl) ?_
      refine q_geti (x := nI ((psM q).length)) dX7_putSetAhead_25 fX7_80 rfl (ty_r hb 17 rfl) s1 ?_
      refine q_icmp_geN (tgt := 91) dX7_putSetAhead_28 (by decide) (by omega) (by omega) (fun c28 => ?_) (fun c28 => ?_)
      · skip
        refine q_return dX7_putSetAhead_91 rfl (by omega) (by omega) ?_
        exact ⟨rfl, h1, hW⟩
      · exact absurd c28 (by omega)
  | succ f ih =>
    intro e W σ he h1 hW
    have hS := SK.fr h1 hS0
    have hr := hr0.f55 h1
    have hb := hr.1
    have hb14 : b = 14 ∨ 99 ≤ b := by rcases hb.1 with h | ⟨j, h⟩ <;> omega
    have hsr := hr.2.2.2.2.2.2.2.2.2.2.1
    have s1 := hsr.1
    have hm := sm_w hw (e := e) (by omega)
    obtain ⟨x, x1, x2, x3⟩ := hW.bool
    by_cases hst : stA q p e n = true
    · have hne : ¬ mkN (fun e => stA q p e n) (psM q).length = 0 := fun z => st_0 hk z e (by omega) hst
      have eT : seT q p n (f + 1) e = slT q e ++ seT q p n f (e + 1) := by
        conv => lhs; unfold seT
        rw [if_pos hst]
      rw [eT]
      refine q_iload dX7_putSetAhead_14 rfl ?_
      refine q_if_eq (tgt := 91) dX7_putSetAhead_16 (by decide) (fun c16 => ?_) (fun c16 => ?_)
      · exact absurd c16 hne
      · skip
        refine q_iload dX7_putSetAhead_19 rfl ?_
        refine q_aload_n dX7_putSetAhead_21 rfl rfl rfl ?_
        refine q_getr (r := b + 17) dX7_putSetAhead_22 fX7_76 rfl (ty_r hb 0 rfl) (hb.2.2 0 10 17 rfl) ?_
        refine q_geti (x := nI ((psM q).length)) dX7_putSetAhead_25 fX7_80 rfl (ty_r hb 17 rfl) s1 ?_
        refine q_icmp_geN (tgt := 91) dX7_putSetAhead_28 (by decide) (by omega) (by omega) (fun c28 => ?_) (fun c28 => ?_)
        · exact absurd c28 (by omega)
        · skip
          refine q_aload_n dX7_putSetAhead_31 rfl rfl rfl ?_
          refine q_geti (x := bi x) dX7_putSetAhead_32 fX7_23 rfl (ty_c hS (by decide) rfl) x1 ?_
          refine q_if_neB (tgt := 91) dX7_putSetAhead_35 (by decide) (fun c35 => ?_) (fun c35 => ?_)
          · skip
            refine q_return dX7_putSetAhead_91 rfl (by omega) (by omega) ?_
            exact ⟨rfl, h1, hW.stop (by rw [x1, c35]; rfl)⟩
          · skip
            refine q_iload dX7_putSetAhead_38 rfl ?_
            refine q_iload dX7_putSetAhead_40 rfl ?_
            refine q_iushr (v := ((mkN (fun e => stA q p e n) (psM q).length).toUInt32 >>> ((nI e).toUInt32 &&& Int32.toUInt32 31)).toInt32) dX7_putSetAhead_42 rfl ?_
            refine q_iconst (v := nI 1) dX7_putSetAhead_43 rfl ?_
            refine q_iand dX7_putSetAhead_44 ?_
            refine q_top (y := bi (stA q p e n)) (mk_bit hk (by omega)) ?_
            refine q_iconst (v := nI 1) dX7_putSetAhead_45 rfl ?_
            refine q_icmp_ne (tgt := 85) dX7_putSetAhead_46 (by decide) (fun c46 => ?_) (fun c46 => ?_)
            · exact absurd (bi_1.mpr hst) c46
            · skip
              refine q_aload_n dX7_putSetAhead_49 rfl rfl rfl ?_
              refine q_ldcS (j := 7) (b := 7) dX7_putSetAhead_50 rfl rfl rfl rfl ?_
              refine q_callV (As := [.double 7]) (rest := []) dX7_putSetAhead_52 vX7_72 (ty_c hS (by decide) rfl) ⟨by decide, rfl⟩ (x7_text hS hW (j := 7) (c := 7) (c2 := 107) rfl (by decide) rfl) rfl rfl (Nat.le_of_ble_eq_true rfl) (by omega) (by omega) (by omega) (k_v (fun s52 q52 => ?_))
              have k9 := h1.tr q52.1 (fun _ h => h)
              have hS9 := SK.fr k9 hS0
              have hb9 := RB.fr k9 hr0.1
              refine q_aload_n dX7_putSetAhead_55 rfl rfl rfl ?_
              refine q_bipush (v := nI 116) dX7_putSetAhead_56 rfl ?_
              refine q_iload dX7_putSetAhead_58 rfl ?_
              refine q_callV (As := [.int (nI 116), .int (nI e)]) (rest := []) dX7_putSetAhead_60 vX7_66 (ty_c hS9 (by decide) rfl) ⟨by decide, rfl⟩ (x7_numbered hS9 q52.2 (by omega) (by omega)) rfl rfl (Nat.le_of_ble_eq_true rfl) (by omega) (by omega) (by omega) (k_v (fun s60 q60 => ?_))
              replace k9 := k9.tr q60.1 (fun _ h => h)
              have hS9 := SK.fr k9 hS0
              have hb9 := RB.fr k9 hr0.1
              refine q_aload_n dX7_putSetAhead_63 rfl rfl rfl ?_
              refine q_ldcS (j := 8) (b := 8) dX7_putSetAhead_64 rfl rfl rfl rfl ?_
              refine q_callV (As := [.double 8]) (rest := []) dX7_putSetAhead_66 vX7_72 (ty_c hS9 (by decide) rfl) ⟨by decide, rfl⟩ (x7_text hS9 q60.2 (j := 8) (c := 8) (c2 := 108) rfl (by decide) rfl) rfl rfl (Nat.le_of_ble_eq_true rfl) (by omega) (by omega) (by omega) (k_v (fun s66 q66 => ?_))
              replace k9 := k9.tr q66.1 (fun _ h => h)
              have hS9 := SK.fr k9 hS0
              have hb9 := RB.fr k9 hr0.1
              have hsr9 := (hr0.f55 k9).2.2.2.2.2.2.2.2.2.2.1
              refine q_aload_n dX7_putSetAhead_69 rfl rfl rfl ?_
              refine q_aload_n dX7_putSetAhead_70 rfl rfl rfl ?_
              refine q_getr (r := b + 17) dX7_putSetAhead_71 fX7_76 rfl (ty_r hb9 0 rfl) (hb9.2.2 0 10 17 rfl) ?_
              refine q_iload dX7_putSetAhead_74 rfl ?_
              refine q_callV (As := [.ref (b + 17), .int (nI e)]) (rest := []) dX7_putSetAhead_76 vX7_89 (ty_c hS9 (by decide) rfl) ⟨by decide, rfl⟩ (x7_sum hS9 q66.2 hb9 hsr9 (by omega) hm) rfl rfl (Nat.le_of_ble_eq_true rfl) (by omega) (by omega) (by omega) (k_v (fun s76 q76 => ?_))
              replace k9 := k9.tr q76.1 (fun _ h => h)
              have hS9 := SK.fr k9 hS0
              have hb9 := RB.fr k9 hr0.1
              refine q_aload_n dX7_putSetAhead_79 rfl rfl rfl ?_
              refine q_ldcS (j := 11) (b := 11) dX7_putSetAhead_80 rfl rfl rfl rfl ?_
              refine q_callV (As := [.double 11]) (rest := []) dX7_putSetAhead_82 vX7_72 (ty_c hS9 (by decide) rfl) ⟨by decide, rfl⟩ (x7_text hS9 q76.2 (j := 11) (c := 11) (c2 := 111) rfl (by decide) rfl) rfl rfl (Nat.le_of_ble_eq_true rfl) (by omega) (by omega) (by omega) (k_v (fun s82 q82 => ?_))
              replace k9 := k9.tr q82.1 (fun _ h => h)
              have hS9 := SK.fr k9 hS0
              have hb9 := RB.fr k9 hr0.1
              refine q_iincN (c := 1) dX7_putSetAhead_85 rfl (by decide) rfl (ls' := [(5, .int (nI (e + 1))), (0, .ref 55), (1, .ref b), (2, .int (nI p)), (3, .int (nI n)), (4, .int (mkN (fun e => stA q p e n) (psM q).length))]) rfl ?_
              refine q_goto (tgt := 14) dX7_putSetAhead_88 (by decide) ?_
              refine q_pk [1, 2, 3, 4, 5, 0] (ls' := [(0, .ref 55), (1, .ref b), (2, .int (nI p)), (3, .int (nI n)), (4, .int (mkN (fun e => stA q p e n) (psM q).length)), (5, .int (nI (e + 1)))]) rfl ?_
              have hI := ih (e + 1) _ s82 (by omega) k9 q82.2
              have eA : W ++ (slT q e ++ seT q p n f (e + 1)) = (((((W ++ stX 7) ++ 116 :: numT e) ++ stX 8) ++ smT ((psM q).getD e (0, 0, 0))) ++ stX 11) ++ seT q p n f (e + 1) := by unfold slT sm; simp only [List.append_assoc, List.cons_append]
              rw [eA]
              exact hI
    · have eT : seT q p n (f + 1) e = seT q p n f (e + 1) := by
        conv => lhs; unfold seT
        rw [if_neg hst]; rfl
      rw [eT]
      refine q_iload dX7_putSetAhead_14 rfl ?_
      refine q_if_eq (tgt := 91) dX7_putSetAhead_16 (by decide) (fun c16 => ?_) (fun c16 => ?_)
      · skip
        refine q_return dX7_putSetAhead_91 rfl (by omega) (by omega) ?_
        first | exact ⟨rfl, h1, hW.stop (by rw [x1, c35]; rfl)⟩ | (rw [seT_no fun i a1 a2 => st_0 hk c16 i (by omega), List.append_nil]; exact ⟨rfl, h1, hW⟩)
      · skip
        refine q_iload dX7_putSetAhead_19 rfl ?_
        refine q_aload_n dX7_putSetAhead_21 rfl rfl rfl ?_
        refine q_getr (r := b + 17) dX7_putSetAhead_22 fX7_76 rfl (ty_r hb 0 rfl) (hb.2.2 0 10 17 rfl) ?_
        refine q_geti (x := nI ((psM q).length)) dX7_putSetAhead_25 fX7_80 rfl (ty_r hb 17 rfl) s1 ?_
        refine q_icmp_geN (tgt := 91) dX7_putSetAhead_28 (by decide) (by omega) (by omega) (fun c28 => ?_) (fun c28 => ?_)
        · exact absurd c28 (by omega)
        · skip
          refine q_aload_n dX7_putSetAhead_31 rfl rfl rfl ?_
          refine q_geti (x := bi x) dX7_putSetAhead_32 fX7_23 rfl (ty_c hS (by decide) rfl) x1 ?_
          refine q_if_neB (tgt := 91) dX7_putSetAhead_35 (by decide) (fun c35 => ?_) (fun c35 => ?_)
          · skip
            refine q_return dX7_putSetAhead_91 rfl (by omega) (by omega) ?_
            first | exact ⟨rfl, h1, hW.stop (by rw [x1, c35]; rfl)⟩ | (rw [seT_no fun i a1 a2 => st_0 hk c16 i (by omega), List.append_nil]; exact ⟨rfl, h1, hW⟩)
          · skip
            refine q_iload dX7_putSetAhead_38 rfl ?_
            refine q_iload dX7_putSetAhead_40 rfl ?_
            refine q_iushr (v := ((mkN (fun e => stA q p e n) (psM q).length).toUInt32 >>> ((nI e).toUInt32 &&& Int32.toUInt32 31)).toInt32) dX7_putSetAhead_42 rfl ?_
            refine q_iconst (v := nI 1) dX7_putSetAhead_43 rfl ?_
            refine q_iand dX7_putSetAhead_44 ?_
            refine q_top (y := bi (stA q p e n)) (mk_bit hk (by omega)) ?_
            refine q_iconst (v := nI 1) dX7_putSetAhead_45 rfl ?_
            refine q_icmp_ne (tgt := 85) dX7_putSetAhead_46 (by decide) (fun c46 => ?_) (fun c46 => ?_)
            · skip
              refine q_iincN (c := 1) dX7_putSetAhead_85 rfl (by decide) rfl (ls' := [(5, .int (nI (e + 1))), (0, .ref 55), (1, .ref b), (2, .int (nI p)), (3, .int (nI n)), (4, .int (mkN (fun e => stA q p e n) (psM q).length))]) rfl ?_
              refine q_goto (tgt := 14) dX7_putSetAhead_88 (by decide) ?_
              refine q_pk [1, 2, 3, 4, 5, 0] (ls' := [(0, .ref 55), (1, .ref b), (2, .int (nI p)), (3, .int (nI n)), (4, .int (mkN (fun e => stA q p e n) (psM q).length)), (5, .int (nI (e + 1)))]) rfl ?_
              exact ih (e + 1) W _ (by omega) h1 hW
            · exact absurd (bi_1.mp c46) hst
theorem x7_sets {σ : HS} (hS : SK σ) (hr : RTN σ b q) {p : Nat} (hp : p < 3) {n : Nat} (hn : n < NN q) {W : List Nat} (hW : BFx σ W) : CT g mX7_putSetAhead 8 0 0 [.ref 55, .ref b, .int (nI p), .int (nI n)] σ (WXQ σ (W ++ seT q p n (psM q).length 0)) := by
  have hb := hr.1
  have hb14 : b = 14 ∨ 99 ≤ b := by rcases hb.1 with h | ⟨j, h⟩ <;> omega
  refine CT.of (by decide) (Nat.le_of_ble_eq_true rfl) ?_
  refine q_aload_n dX7_putSetAhead_0 rfl rfl rfl ?_
  refine q_getr (r := b + 21) dX7_putSetAhead_1 fX7_56 rfl (ty_r hb 0 rfl) (hb.2.2 0 11 21 rfl) ?_
  refine q_iload_n dX7_putSetAhead_4 rfl rfl ?_
  refine q_iload_n dX7_putSetAhead_5 rfl rfl ?_
  refine q_callV (As := [.int (nI p), .int (nI n)]) (rest := []) dX7_putSetAhead_6 vX7_60 (ty_r hb 21 rfl) ⟨by decide, rfl⟩ (z0_setAheadA hr.fp hp hn) rfl rfl (Nat.le_of_ble_eq_true rfl) (by omega) (by omega) (by omega) (k_p ?_)
  refine q_istore dX7_putSetAhead_9 (by decide) (ls' := [(4, .int (mkN (fun e => stA q p e n) (psM q).length)), (0, .ref 55), (1, .ref b), (2, .int (nI p)), (3, .int (nI n))]) rfl ?_
  refine q_iconst (v := nI 0) dX7_putSetAhead_11 rfl ?_
  refine q_istore dX7_putSetAhead_12 (by decide) (ls' := [(5, .int (nI 0)), (4, .int (mkN (fun e => stA q p e n) (psM q).length)), (0, .ref 55), (1, .ref b), (2, .int (nI p)), (3, .int (nI n))]) rfl ?_
  refine q_pk [2, 3, 4, 5, 1, 0] (ls' := [(0, .ref 55), (1, .ref b), (2, .int (nI p)), (3, .int (nI n)), (4, .int (mkN (fun e => stA q p e n) (psM q).length)), (5, .int (nI 0))]) rfl ?_
  exact y7_sets hS hr hp hn (psM q).length 0 W σ (by omega) Fr.rf hW
theorem x7_node {σ : HS} (hS : SK σ) (hr : RTN σ b q) {p : Nat} (hp : p < 3) (ho : OBs σ q p) {n : Nat} (hn : n < NN q) {W : List Nat} (hW : BFx σ W) : CT g mX7_putNode 8 0 0 [.ref 55, .ref b, .int (nI p), .int (nI n)] σ (WXQ σ (W ++ ndT q p n)) := by
  have hb := hr.1
  have hb14 : b = 14 ∨ 99 ≤ b := by rcases hb.1 with h | ⟨j, h⟩ <;> omega
  obtain ⟨-, hc, hw, hnb, hxx, h0, -, -, -, -, hsr, -, hrow, -⟩ := id hr
  have hk := hsr.2.1
  have hNN := NN_le hc
  obtain ⟨o1, o2⟩ := rg_opd hw (n := n)
  obtain ⟨w0, w1⟩ := rg_w hc hw hnb hn
  have hcase := rg_cases hw hxx hn
  rcases hcase with ⟨k0, ⟨t, t1, t2⟩, e, e1, e2⟩ | ⟨k0, ⟨t, t1, t2⟩, -⟩ | ⟨k0, ⟨t, t1, t2⟩, -⟩ | ⟨k0, k7, -⟩
  · have es : smN q n = e := by unfold smN; rw [e2]; exact nI_clamp (by omega)
    have et : tgt q n = t := by unfold tgt; rw [t2]; exact nI_clamp (by omega)
    have hm := sm_w hw e1
    by_cases htk : tkn q p e n = true
    · skip
      refine CT.of (by decide) (Nat.le_of_ble_eq_true rfl) ?_
      refine q_aload_n dX7_putNode_0 rfl rfl rfl ?_
      refine q_ldcS (j := 7) (b := 7) dX7_putNode_1 rfl rfl rfl rfl ?_
      refine q_callV (As := [.double 7]) (rest := []) dX7_putNode_3 vX7_72 (ty_c hS (by decide) rfl) ⟨by decide, rfl⟩ (x7_text hS hW (j := 7) (c := 7) (c2 := 107) rfl (by decide) rfl) rfl rfl (Nat.le_of_ble_eq_true rfl) (by omega) (by omega) (by omega) (k_v (fun s3 q3 => ?_))
      have k9 := q3.1
      have hS9 := SK.fr k9 hS
      have hb9 := RB.fr k9 hb
      have hr9 := hr.f55 k9
      obtain ⟨⟨g1, g2, g3, g4, g5, g6, -⟩, -⟩ := hr9.2.2.2.2.2.2.2.2.2.2.2.2.1 n hn
      have G3 := g1
      have H3 := g3
      have I3 := g4
      have J3 := g5
      have K3 := g6
      refine q_aload_n dX7_putNode_6 rfl rfl rfl ?_
      refine q_getr (r := b + 1) dX7_putNode_7 fX7_95 rfl (ty_r hb9 0 rfl) (hb9.2.2 0 0 1 rfl) ?_
      refine q_iload_n dX7_putNode_10 rfl rfl ?_
      refine q_iald (x := nI 0) (j := n) dX7_putNode_11 (ty_r hb9 1 rfl) (ix_n (by omega) (by omega)) (G3.trans (by rw [k0])) ?_
      by_cases w12_0 : 0 = 0
      · refine q_tableEq 0 (tgt := 56) (off := 44) dX7_putNode_12 (by rw [w12_0]) (by decide) rfl (by decide) ?_
        refine q_aload_n dX7_putNode_56 rfl rfl rfl ?_
        refine q_aload_n dX7_putNode_57 rfl rfl rfl ?_
        refine q_iload_n dX7_putNode_58 rfl rfl ?_
        refine q_callV (As := [.ref b, .int (nI n)]) (rest := []) dX7_putNode_59 vX7_98 (ty_c hS9 (by decide) rfl) ⟨by decide, rfl⟩ (x7_give hS9 q3.2 hb9 (by omega) t1 (g3.trans t2)) rfl rfl (Nat.le_of_ble_eq_true rfl) (by omega) (by omega) (by omega) (k_v (fun s59 q59 => ?_))
        replace k9 := k9.tr q59.1 (fun _ h => h)
        have hS9 := SK.fr k9 hS
        have hb9 := RB.fr k9 hb
        have hr9 := hr.f55 k9
        obtain ⟨⟨g1, g2, g3, g4, g5, g6, -⟩, -⟩ := hr9.2.2.2.2.2.2.2.2.2.2.2.2.1 n hn
        have G59 := g1
        have H59 := g3
        have I59 := g4
        have J59 := g5
        have K59 := g6
        refine q_aload_n dX7_putNode_62 rfl rfl rfl ?_
        refine q_getr (r := b + 21) dX7_putNode_63 fX7_56 rfl (ty_r hb9 0 rfl) (hb9.2.2 0 11 21 rfl) ?_
        refine q_iload_n dX7_putNode_66 rfl rfl ?_
        refine q_iload_n dX7_putNode_67 rfl rfl ?_
        refine q_callV (As := [.int (nI p), .int (nI n)]) (rest := []) dX7_putNode_68 vX7_101 (ty_r hb9 21 rfl) ⟨by decide, rfl⟩ (z0_takenA hr9.fp hp hn) rfl rfl (Nat.le_of_ble_eq_true rfl) (by omega) (by omega) (by omega) (k_p ?_)
        refine q_aload_n dX7_putNode_71 rfl rfl rfl ?_
        refine q_getr (r := b + 7) dX7_putNode_72 fX7_104 rfl (ty_r hb9 0 rfl) (hb9.2.2 0 4 7 rfl) ?_
        refine q_iload_n dX7_putNode_75 rfl rfl ?_
        refine q_iald (x := nI e) (j := n) dX7_putNode_76 (ty_r hb9 7 rfl) (ix_n (by omega) (by omega)) (K59.trans e2) ?_
        refine q_iushr (v := ((mkN (fun e => tkn q p e n) (psM q).length).toUInt32 >>> ((nI e).toUInt32 &&& Int32.toUInt32 31)).toInt32) dX7_putNode_77 rfl ?_
        refine q_iconst (v := nI 1) dX7_putNode_78 rfl ?_
        refine q_iand dX7_putNode_79 ?_
        refine q_top (y := bi (tkn q p e n)) (mk_bit hk e1) ?_
        refine q_iconst (v := nI 1) dX7_putNode_80 rfl ?_
        refine q_icmp_ne (tgt := 99) dX7_putNode_81 (by decide) (fun c81 => ?_) (fun c81 => ?_)
        · exact absurd (bi_1.mpr htk) c81
        · skip
          refine q_aload_n dX7_putNode_84 rfl rfl rfl ?_
          refine q_bipush (v := nI 116) dX7_putNode_85 rfl ?_
          refine q_aload_n dX7_putNode_87 rfl rfl rfl ?_
          refine q_getr (r := b + 7) dX7_putNode_88 fX7_104 rfl (ty_r hb9 0 rfl) (hb9.2.2 0 4 7 rfl) ?_
          refine q_iload_n dX7_putNode_91 rfl rfl ?_
          refine q_iald (x := nI e) (j := n) dX7_putNode_92 (ty_r hb9 7 rfl) (ix_n (by omega) (by omega)) (K59.trans e2) ?_
          refine q_callV (As := [.int (nI 116), .int (nI e)]) (rest := []) dX7_putNode_93 vX7_66 (ty_c hS9 (by decide) rfl) ⟨by decide, rfl⟩ (x7_numbered hS9 q59.2 (by omega) (by omega)) rfl rfl (Nat.le_of_ble_eq_true rfl) (by omega) (by omega) (by omega) (k_v (fun s93 q93 => ?_))
          replace k9 := k9.tr q93.1 (fun _ h => h)
          have hS9 := SK.fr k9 hS
          have hb9 := RB.fr k9 hb
          have hr9 := hr.f55 k9
          obtain ⟨⟨g1, g2, g3, g4, g5, g6, -⟩, -⟩ := hr9.2.2.2.2.2.2.2.2.2.2.2.2.1 n hn
          have G93 := g1
          have H93 := g3
          have I93 := g4
          have J93 := g5
          have K93 := g6
          refine q_goto (tgt := 234) dX7_putNode_96 (by decide) ?_
          refine q_aload_n dX7_putNode_234 rfl rfl rfl ?_
          refine q_ldcS (j := 11) (b := 11) dX7_putNode_235 rfl rfl rfl rfl ?_
          refine q_callV (As := [.double 11]) (rest := []) dX7_putNode_237 vX7_72 (ty_c hS9 (by decide) rfl) ⟨by decide, rfl⟩ (x7_text hS9 q93.2 (j := 11) (c := 11) (c2 := 111) rfl (by decide) rfl) rfl rfl (Nat.le_of_ble_eq_true rfl) (by omega) (by omega) (by omega) (k_v (fun s237 q237 => ?_))
          replace k9 := k9.tr q237.1 (fun _ h => h)
          have hS9 := SK.fr k9 hS
          have hb9 := RB.fr k9 hb
          have hr9 := hr.f55 k9
          obtain ⟨⟨g1, g2, g3, g4, g5, g6, -⟩, -⟩ := hr9.2.2.2.2.2.2.2.2.2.2.2.2.1 n hn
          have G237 := g1
          have H237 := g3
          have I237 := g4
          have J237 := g5
          have K237 := g6
          refine q_return dX7_putNode_240 rfl (by omega) (by omega) ?_
          have eA := (show ndB q p n = (opT (nI (1000000000 + t)) ++ stX 8) ++ (116 :: numT e) from by unfold ndB gvT; rw [if_pos k0, es, et, if_pos htk])
          exact ⟨rfl, k9, by unfold ndT; rw [eA]; simpa only [List.append_assoc, List.cons_append, List.nil_append, List.singleton_append] using q237.2⟩
      omega
    · skip
      refine CT.of (by decide) (Nat.le_of_ble_eq_true rfl) ?_
      refine q_aload_n dX7_putNode_0 rfl rfl rfl ?_
      refine q_ldcS (j := 7) (b := 7) dX7_putNode_1 rfl rfl rfl rfl ?_
      refine q_callV (As := [.double 7]) (rest := []) dX7_putNode_3 vX7_72 (ty_c hS (by decide) rfl) ⟨by decide, rfl⟩ (x7_text hS hW (j := 7) (c := 7) (c2 := 107) rfl (by decide) rfl) rfl rfl (Nat.le_of_ble_eq_true rfl) (by omega) (by omega) (by omega) (k_v (fun s3 q3 => ?_))
      have k9 := q3.1
      have hS9 := SK.fr k9 hS
      have hb9 := RB.fr k9 hb
      have hr9 := hr.f55 k9
      obtain ⟨⟨g1, g2, g3, g4, g5, g6, -⟩, -⟩ := hr9.2.2.2.2.2.2.2.2.2.2.2.2.1 n hn
      have G3 := g1
      have H3 := g3
      have I3 := g4
      have J3 := g5
      have K3 := g6
      refine q_aload_n dX7_putNode_6 rfl rfl rfl ?_
      refine q_getr (r := b + 1) dX7_putNode_7 fX7_95 rfl (ty_r hb9 0 rfl) (hb9.2.2 0 0 1 rfl) ?_
      refine q_iload_n dX7_putNode_10 rfl rfl ?_
      refine q_iald (x := nI 0) (j := n) dX7_putNode_11 (ty_r hb9 1 rfl) (ix_n (by omega) (by omega)) (G3.trans (by rw [k0])) ?_
      by_cases w12_0 : 0 = 0
      · refine q_tableEq 0 (tgt := 56) (off := 44) dX7_putNode_12 (by rw [w12_0]) (by decide) rfl (by decide) ?_
        refine q_aload_n dX7_putNode_56 rfl rfl rfl ?_
        refine q_aload_n dX7_putNode_57 rfl rfl rfl ?_
        refine q_iload_n dX7_putNode_58 rfl rfl ?_
        refine q_callV (As := [.ref b, .int (nI n)]) (rest := []) dX7_putNode_59 vX7_98 (ty_c hS9 (by decide) rfl) ⟨by decide, rfl⟩ (x7_give hS9 q3.2 hb9 (by omega) t1 (g3.trans t2)) rfl rfl (Nat.le_of_ble_eq_true rfl) (by omega) (by omega) (by omega) (k_v (fun s59 q59 => ?_))
        replace k9 := k9.tr q59.1 (fun _ h => h)
        have hS9 := SK.fr k9 hS
        have hb9 := RB.fr k9 hb
        have hr9 := hr.f55 k9
        obtain ⟨⟨g1, g2, g3, g4, g5, g6, -⟩, -⟩ := hr9.2.2.2.2.2.2.2.2.2.2.2.2.1 n hn
        have G59 := g1
        have H59 := g3
        have I59 := g4
        have J59 := g5
        have K59 := g6
        refine q_aload_n dX7_putNode_62 rfl rfl rfl ?_
        refine q_getr (r := b + 21) dX7_putNode_63 fX7_56 rfl (ty_r hb9 0 rfl) (hb9.2.2 0 11 21 rfl) ?_
        refine q_iload_n dX7_putNode_66 rfl rfl ?_
        refine q_iload_n dX7_putNode_67 rfl rfl ?_
        refine q_callV (As := [.int (nI p), .int (nI n)]) (rest := []) dX7_putNode_68 vX7_101 (ty_r hb9 21 rfl) ⟨by decide, rfl⟩ (z0_takenA hr9.fp hp hn) rfl rfl (Nat.le_of_ble_eq_true rfl) (by omega) (by omega) (by omega) (k_p ?_)
        refine q_aload_n dX7_putNode_71 rfl rfl rfl ?_
        refine q_getr (r := b + 7) dX7_putNode_72 fX7_104 rfl (ty_r hb9 0 rfl) (hb9.2.2 0 4 7 rfl) ?_
        refine q_iload_n dX7_putNode_75 rfl rfl ?_
        refine q_iald (x := nI e) (j := n) dX7_putNode_76 (ty_r hb9 7 rfl) (ix_n (by omega) (by omega)) (K59.trans e2) ?_
        refine q_iushr (v := ((mkN (fun e => tkn q p e n) (psM q).length).toUInt32 >>> ((nI e).toUInt32 &&& Int32.toUInt32 31)).toInt32) dX7_putNode_77 rfl ?_
        refine q_iconst (v := nI 1) dX7_putNode_78 rfl ?_
        refine q_iand dX7_putNode_79 ?_
        refine q_top (y := bi (tkn q p e n)) (mk_bit hk e1) ?_
        refine q_iconst (v := nI 1) dX7_putNode_80 rfl ?_
        refine q_icmp_ne (tgt := 99) dX7_putNode_81 (by decide) (fun c81 => ?_) (fun c81 => ?_)
        · skip
          refine q_aload_n dX7_putNode_99 rfl rfl rfl ?_
          refine q_aload_n dX7_putNode_100 rfl rfl rfl ?_
          refine q_getr (r := b + 17) dX7_putNode_101 fX7_76 rfl (ty_r hb9 0 rfl) (hb9.2.2 0 10 17 rfl) ?_
          refine q_aload_n dX7_putNode_104 rfl rfl rfl ?_
          refine q_getr (r := b + 7) dX7_putNode_105 fX7_104 rfl (ty_r hb9 0 rfl) (hb9.2.2 0 4 7 rfl) ?_
          refine q_iload_n dX7_putNode_108 rfl rfl ?_
          refine q_iald (x := nI e) (j := n) dX7_putNode_109 (ty_r hb9 7 rfl) (ix_n (by omega) (by omega)) (K59.trans e2) ?_
          refine q_callV (As := [.ref (b + 17), .int (nI e)]) (rest := []) dX7_putNode_110 vX7_89 (ty_c hS9 (by decide) rfl) ⟨by decide, rfl⟩ (x7_sum hS9 q59.2 hb9 hr9.2.2.2.2.2.2.2.2.2.2.1 e1 hm) rfl rfl (Nat.le_of_ble_eq_true rfl) (by omega) (by omega) (by omega) (k_v (fun s110 q110 => ?_))
          replace k9 := k9.tr q110.1 (fun _ h => h)
          have hS9 := SK.fr k9 hS
          have hb9 := RB.fr k9 hb
          have hr9 := hr.f55 k9
          obtain ⟨⟨g1, g2, g3, g4, g5, g6, -⟩, -⟩ := hr9.2.2.2.2.2.2.2.2.2.2.2.2.1 n hn
          have G110 := g1
          have H110 := g3
          have I110 := g4
          have J110 := g5
          have K110 := g6
          refine q_goto (tgt := 234) dX7_putNode_113 (by decide) ?_
          refine q_aload_n dX7_putNode_234 rfl rfl rfl ?_
          refine q_ldcS (j := 11) (b := 11) dX7_putNode_235 rfl rfl rfl rfl ?_
          refine q_callV (As := [.double 11]) (rest := []) dX7_putNode_237 vX7_72 (ty_c hS9 (by decide) rfl) ⟨by decide, rfl⟩ (x7_text hS9 q110.2 (j := 11) (c := 11) (c2 := 111) rfl (by decide) rfl) rfl rfl (Nat.le_of_ble_eq_true rfl) (by omega) (by omega) (by omega) (k_v (fun s237 q237 => ?_))
          replace k9 := k9.tr q237.1 (fun _ h => h)
          have hS9 := SK.fr k9 hS
          have hb9 := RB.fr k9 hb
          have hr9 := hr.f55 k9
          obtain ⟨⟨g1, g2, g3, g4, g5, g6, -⟩, -⟩ := hr9.2.2.2.2.2.2.2.2.2.2.2.2.1 n hn
          have G237 := g1
          have H237 := g3
          have I237 := g4
          have J237 := g5
          have K237 := g6
          refine q_return dX7_putNode_240 rfl (by omega) (by omega) ?_
          have eA := (show ndB q p n = (opT (nI (1000000000 + t)) ++ stX 8) ++ smT ((psM q).getD e (0, 0, 0)) from by unfold ndB gvT; rw [if_pos k0, es, et, if_neg htk]; rfl)
          exact ⟨rfl, k9, by unfold ndT; rw [eA]; simpa only [List.append_assoc, List.cons_append, List.nil_append, List.singleton_append] using q237.2⟩
        · exact absurd (bi_1.mp c81) htk
      omega
  · have et : tgt q n = t := by unfold tgt; rw [t2]; exact nI_clamp (by omega)
    refine CT.of (by decide) (Nat.le_of_ble_eq_true rfl) ?_
    refine q_aload_n dX7_putNode_0 rfl rfl rfl ?_
    refine q_ldcS (j := 7) (b := 7) dX7_putNode_1 rfl rfl rfl rfl ?_
    refine q_callV (As := [.double 7]) (rest := []) dX7_putNode_3 vX7_72 (ty_c hS (by decide) rfl) ⟨by decide, rfl⟩ (x7_text hS hW (j := 7) (c := 7) (c2 := 107) rfl (by decide) rfl) rfl rfl (Nat.le_of_ble_eq_true rfl) (by omega) (by omega) (by omega) (k_v (fun s3 q3 => ?_))
    have k9 := q3.1
    have hS9 := SK.fr k9 hS
    have hb9 := RB.fr k9 hb
    have hr9 := hr.f55 k9
    obtain ⟨⟨g1, g2, g3, g4, g5, g6, -⟩, -⟩ := hr9.2.2.2.2.2.2.2.2.2.2.2.2.1 n hn
    have G3 := g1
    have H3 := g3
    have I3 := g4
    have J3 := g5
    have K3 := g6
    refine q_aload_n dX7_putNode_6 rfl rfl rfl ?_
    refine q_getr (r := b + 1) dX7_putNode_7 fX7_95 rfl (ty_r hb9 0 rfl) (hb9.2.2 0 0 1 rfl) ?_
    refine q_iload_n dX7_putNode_10 rfl rfl ?_
    refine q_iald (x := nI 1) (j := n) dX7_putNode_11 (ty_r hb9 1 rfl) (ix_n (by omega) (by omega)) (G3.trans (by rw [k0])) ?_
    by_cases w12_1 : 1 = 1
    · refine q_tableEq 1 (tgt := 116) (off := 104) dX7_putNode_12 (by rw [w12_1]) (by decide) rfl (by decide) ?_
      refine q_aload_n dX7_putNode_116 rfl rfl rfl ?_
      refine q_aload_n dX7_putNode_117 rfl rfl rfl ?_
      refine q_iload_n dX7_putNode_118 rfl rfl ?_
      refine q_callV (As := [.ref b, .int (nI n)]) (rest := []) dX7_putNode_119 vX7_98 (ty_c hS9 (by decide) rfl) ⟨by decide, rfl⟩ (x7_give hS9 q3.2 hb9 (by omega) t1 (g3.trans t2)) rfl rfl (Nat.le_of_ble_eq_true rfl) (by omega) (by omega) (by omega) (k_v (fun s119 q119 => ?_))
      replace k9 := k9.tr q119.1 (fun _ h => h)
      have hS9 := SK.fr k9 hS
      have hb9 := RB.fr k9 hb
      have hr9 := hr.f55 k9
      obtain ⟨⟨g1, g2, g3, g4, g5, g6, -⟩, -⟩ := hr9.2.2.2.2.2.2.2.2.2.2.2.2.1 n hn
      have G119 := g1
      have H119 := g3
      have I119 := g4
      have J119 := g5
      have K119 := g6
      refine q_aload_n dX7_putNode_122 rfl rfl rfl ?_
      refine q_aload_n dX7_putNode_123 rfl rfl rfl ?_
      refine q_getr (r := b + 4) dX7_putNode_124 fX7_107 rfl (ty_r hb9 0 rfl) (hb9.2.2 0 3 4 rfl) ?_
      refine q_iconst (v := nI 0) dX7_putNode_127 rfl ?_
      refine q_aald (r := b + 5) (j := 0) dX7_putNode_128 (ty_r hb9 4 rfl) (Or.inl rfl) (ix_n (by omega) (by omega)) (hb9.2.2 4 0 5 rfl) ?_
      refine q_iload_n dX7_putNode_129 rfl rfl ?_
      refine q_iald (x := rO0 (rg q n)) (j := n) dX7_putNode_130 (ty_r hb9 5 rfl) (ix_n (by omega) (by omega)) I119 ?_
      refine q_callV (As := [.int (rO0 (rg q n))]) (rest := []) dX7_putNode_131 vX7_111 (ty_c hS9 (by decide) rfl) ⟨by decide, rfl⟩ (x7_operand hS9 q119.2 o1) rfl rfl (Nat.le_of_ble_eq_true rfl) (by omega) (by omega) (by omega) (k_v (fun s131 q131 => ?_))
      replace k9 := k9.tr q131.1 (fun _ h => h)
      have hS9 := SK.fr k9 hS
      have hb9 := RB.fr k9 hb
      have hr9 := hr.f55 k9
      obtain ⟨⟨g1, g2, g3, g4, g5, g6, -⟩, -⟩ := hr9.2.2.2.2.2.2.2.2.2.2.2.2.1 n hn
      have G131 := g1
      have H131 := g3
      have I131 := g4
      have J131 := g5
      have K131 := g6
      refine q_goto (tgt := 234) dX7_putNode_134 (by decide) ?_
      refine q_aload_n dX7_putNode_234 rfl rfl rfl ?_
      refine q_ldcS (j := 11) (b := 11) dX7_putNode_235 rfl rfl rfl rfl ?_
      refine q_callV (As := [.double 11]) (rest := []) dX7_putNode_237 vX7_72 (ty_c hS9 (by decide) rfl) ⟨by decide, rfl⟩ (x7_text hS9 q131.2 (j := 11) (c := 11) (c2 := 111) rfl (by decide) rfl) rfl rfl (Nat.le_of_ble_eq_true rfl) (by omega) (by omega) (by omega) (k_v (fun s237 q237 => ?_))
      replace k9 := k9.tr q237.1 (fun _ h => h)
      have hS9 := SK.fr k9 hS
      have hb9 := RB.fr k9 hb
      have hr9 := hr.f55 k9
      obtain ⟨⟨g1, g2, g3, g4, g5, g6, -⟩, -⟩ := hr9.2.2.2.2.2.2.2.2.2.2.2.2.1 n hn
      have G237 := g1
      have H237 := g3
      have I237 := g4
      have J237 := g5
      have K237 := g6
      refine q_return dX7_putNode_240 rfl (by omega) (by omega) ?_
      have eA := (show ndB q p n = (opT (nI (1000000000 + t)) ++ stX 8) ++ opT (rO0 (rg q n)) from by unfold ndB gvT; rw [if_neg (by omega), if_pos k0, et])
      exact ⟨rfl, k9, by unfold ndT; rw [eA]; simpa only [List.append_assoc, List.cons_append, List.nil_append, List.singleton_append] using q237.2⟩
    omega
  · have et : tgt q n = t := by unfold tgt; rw [t2]; exact nI_clamp (by omega)
    refine CT.of (by decide) (Nat.le_of_ble_eq_true rfl) ?_
    refine q_aload_n dX7_putNode_0 rfl rfl rfl ?_
    refine q_ldcS (j := 7) (b := 7) dX7_putNode_1 rfl rfl rfl rfl ?_
    refine q_callV (As := [.double 7]) (rest := []) dX7_putNode_3 vX7_72 (ty_c hS (by decide) rfl) ⟨by decide, rfl⟩ (x7_text hS hW (j := 7) (c := 7) (c2 := 107) rfl (by decide) rfl) rfl rfl (Nat.le_of_ble_eq_true rfl) (by omega) (by omega) (by omega) (k_v (fun s3 q3 => ?_))
    have k9 := q3.1
    have hS9 := SK.fr k9 hS
    have hb9 := RB.fr k9 hb
    have hr9 := hr.f55 k9
    obtain ⟨⟨g1, g2, g3, g4, g5, g6, -⟩, -⟩ := hr9.2.2.2.2.2.2.2.2.2.2.2.2.1 n hn
    have G3 := g1
    have H3 := g3
    have I3 := g4
    have J3 := g5
    have K3 := g6
    refine q_aload_n dX7_putNode_6 rfl rfl rfl ?_
    refine q_getr (r := b + 1) dX7_putNode_7 fX7_95 rfl (ty_r hb9 0 rfl) (hb9.2.2 0 0 1 rfl) ?_
    refine q_iload_n dX7_putNode_10 rfl rfl ?_
    refine q_iald (x := nI 2) (j := n) dX7_putNode_11 (ty_r hb9 1 rfl) (ix_n (by omega) (by omega)) (G3.trans (by rw [k0])) ?_
    by_cases w12_2 : 2 = 2
    · refine q_tableEq 2 (tgt := 137) (off := 125) dX7_putNode_12 (by rw [w12_2]) (by decide) rfl (by decide) ?_
      refine q_aload_n dX7_putNode_137 rfl rfl rfl ?_
      refine q_aload_n dX7_putNode_138 rfl rfl rfl ?_
      refine q_getr (r := b + 3) dX7_putNode_139 fX7_114 rfl (ty_r hb9 0 rfl) (hb9.2.2 0 2 3 rfl) ?_
      refine q_iload_n dX7_putNode_142 rfl rfl ?_
      refine q_iald (x := nI t) (j := n) dX7_putNode_143 (ty_r hb9 3 rfl) (ix_n (by omega) (by omega)) (H3.trans t2) ?_
      refine q_aload_n dX7_putNode_144 rfl rfl rfl ?_
      refine q_getr (r := b + 4) dX7_putNode_145 fX7_107 rfl (ty_r hb9 0 rfl) (hb9.2.2 0 3 4 rfl) ?_
      refine q_iconst (v := nI 0) dX7_putNode_148 rfl ?_
      refine q_aald (r := b + 5) (j := 0) dX7_putNode_149 (ty_r hb9 4 rfl) (Or.inl rfl) (ix_n (by omega) (by omega)) (hb9.2.2 4 0 5 rfl) ?_
      refine q_iload_n dX7_putNode_150 rfl rfl ?_
      refine q_iald (x := rO0 (rg q n)) (j := n) dX7_putNode_151 (ty_r hb9 5 rfl) (ix_n (by omega) (by omega)) I3 ?_
      refine q_callV (As := [.int (nI t), .int (rO0 (rg q n))]) (rest := []) dX7_putNode_152 vX7_117 (ty_c hS9 (by decide) rfl) ⟨by decide, rfl⟩ (x7_place hS9 q3.2 (by omega) o1) rfl rfl (Nat.le_of_ble_eq_true rfl) (by omega) (by omega) (by omega) (k_v (fun s152 q152 => ?_))
      replace k9 := k9.tr q152.1 (fun _ h => h)
      have hS9 := SK.fr k9 hS
      have hb9 := RB.fr k9 hb
      have hr9 := hr.f55 k9
      obtain ⟨⟨g1, g2, g3, g4, g5, g6, -⟩, -⟩ := hr9.2.2.2.2.2.2.2.2.2.2.2.2.1 n hn
      have G152 := g1
      have H152 := g3
      have I152 := g4
      have J152 := g5
      have K152 := g6
      refine q_aload_n dX7_putNode_155 rfl rfl rfl ?_
      refine q_ldcS (j := 8) (b := 8) dX7_putNode_156 rfl rfl rfl rfl ?_
      refine q_callV (As := [.double 8]) (rest := []) dX7_putNode_158 vX7_72 (ty_c hS9 (by decide) rfl) ⟨by decide, rfl⟩ (x7_text hS9 q152.2 (j := 8) (c := 8) (c2 := 108) rfl (by decide) rfl) rfl rfl (Nat.le_of_ble_eq_true rfl) (by omega) (by omega) (by omega) (k_v (fun s158 q158 => ?_))
      replace k9 := k9.tr q158.1 (fun _ h => h)
      have hS9 := SK.fr k9 hS
      have hb9 := RB.fr k9 hb
      have hr9 := hr.f55 k9
      obtain ⟨⟨g1, g2, g3, g4, g5, g6, -⟩, -⟩ := hr9.2.2.2.2.2.2.2.2.2.2.2.2.1 n hn
      have G158 := g1
      have H158 := g3
      have I158 := g4
      have J158 := g5
      have K158 := g6
      refine q_aload_n dX7_putNode_161 rfl rfl rfl ?_
      refine q_aload_n dX7_putNode_162 rfl rfl rfl ?_
      refine q_getr (r := b + 4) dX7_putNode_163 fX7_107 rfl (ty_r hb9 0 rfl) (hb9.2.2 0 3 4 rfl) ?_
      refine q_iconst (v := nI 1) dX7_putNode_166 rfl ?_
      refine q_aald (r := b + 6) (j := 1) dX7_putNode_167 (ty_r hb9 4 rfl) (Or.inl rfl) (ix_n (by omega) (by omega)) (hb9.2.2 4 1 6 rfl) ?_
      refine q_iload_n dX7_putNode_168 rfl rfl ?_
      refine q_iald (x := rO1 (rg q n)) (j := n) dX7_putNode_169 (ty_r hb9 6 rfl) (ix_n (by omega) (by omega)) J158 ?_
      refine q_callV (As := [.int (rO1 (rg q n))]) (rest := []) dX7_putNode_170 vX7_111 (ty_c hS9 (by decide) rfl) ⟨by decide, rfl⟩ (x7_operand hS9 q158.2 o2) rfl rfl (Nat.le_of_ble_eq_true rfl) (by omega) (by omega) (by omega) (k_v (fun s170 q170 => ?_))
      replace k9 := k9.tr q170.1 (fun _ h => h)
      have hS9 := SK.fr k9 hS
      have hb9 := RB.fr k9 hb
      have hr9 := hr.f55 k9
      obtain ⟨⟨g1, g2, g3, g4, g5, g6, -⟩, -⟩ := hr9.2.2.2.2.2.2.2.2.2.2.2.2.1 n hn
      have G170 := g1
      have H170 := g3
      have I170 := g4
      have J170 := g5
      have K170 := g6
      refine q_goto (tgt := 234) dX7_putNode_173 (by decide) ?_
      refine q_aload_n dX7_putNode_234 rfl rfl rfl ?_
      refine q_ldcS (j := 11) (b := 11) dX7_putNode_235 rfl rfl rfl rfl ?_
      refine q_callV (As := [.double 11]) (rest := []) dX7_putNode_237 vX7_72 (ty_c hS9 (by decide) rfl) ⟨by decide, rfl⟩ (x7_text hS9 q170.2 (j := 11) (c := 11) (c2 := 111) rfl (by decide) rfl) rfl rfl (Nat.le_of_ble_eq_true rfl) (by omega) (by omega) (by omega) (k_v (fun s237 q237 => ?_))
      replace k9 := k9.tr q237.1 (fun _ h => h)
      have hS9 := SK.fr k9 hS
      have hb9 := RB.fr k9 hb
      have hr9 := hr.f55 k9
      obtain ⟨⟨g1, g2, g3, g4, g5, g6, -⟩, -⟩ := hr9.2.2.2.2.2.2.2.2.2.2.2.2.1 n hn
      have G237 := g1
      have H237 := g3
      have I237 := g4
      have J237 := g5
      have K237 := g6
      refine q_return dX7_putNode_240 rfl (by omega) (by omega) ?_
      have eA := (show ndB q p n = plT t (rO0 (rg q n)) ++ stX 8 ++ opT (rO1 (rg q n)) from by unfold ndB gvT; rw [if_neg (by omega), if_neg (by omega), if_pos k0, et])
      exact ⟨rfl, k9, by unfold ndT; rw [eA]; simpa only [List.append_assoc, List.cons_append, List.nil_append, List.singleton_append] using q237.2⟩
    omega
  · rcases (show rK (rg q n) = 3 ∨ rK (rg q n) = 4 ∨ rK (rg q n) = 5 ∨ rK (rg q n) = 6 ∨ rK (rg q n) = 7 by omega) with kk | kk | kk | kk | kk
    · skip
      refine CT.of (by decide) (Nat.le_of_ble_eq_true rfl) ?_
      refine q_aload_n dX7_putNode_0 rfl rfl rfl ?_
      refine q_ldcS (j := 7) (b := 7) dX7_putNode_1 rfl rfl rfl rfl ?_
      refine q_callV (As := [.double 7]) (rest := []) dX7_putNode_3 vX7_72 (ty_c hS (by decide) rfl) ⟨by decide, rfl⟩ (x7_text hS hW (j := 7) (c := 7) (c2 := 107) rfl (by decide) rfl) rfl rfl (Nat.le_of_ble_eq_true rfl) (by omega) (by omega) (by omega) (k_v (fun s3 q3 => ?_))
      have k9 := q3.1
      have hS9 := SK.fr k9 hS
      have hb9 := RB.fr k9 hb
      have hr9 := hr.f55 k9
      obtain ⟨⟨g1, g2, g3, g4, g5, g6, -⟩, -⟩ := hr9.2.2.2.2.2.2.2.2.2.2.2.2.1 n hn
      have G3 := g1
      have H3 := g3
      have I3 := g4
      have J3 := g5
      have K3 := g6
      refine q_aload_n dX7_putNode_6 rfl rfl rfl ?_
      refine q_getr (r := b + 1) dX7_putNode_7 fX7_95 rfl (ty_r hb9 0 rfl) (hb9.2.2 0 0 1 rfl) ?_
      refine q_iload_n dX7_putNode_10 rfl rfl ?_
      refine q_iald (x := nI 3) (j := n) dX7_putNode_11 (ty_r hb9 1 rfl) (ix_n (by omega) (by omega)) (G3.trans (by rw [kk])) ?_
      by_cases w12_3 : 3 = 3
      · refine q_tableEq 3 (tgt := 176) (off := 164) dX7_putNode_12 (by rw [w12_3]) (by decide) rfl (by decide) ?_
        refine q_aload_n dX7_putNode_176 rfl rfl rfl ?_
        refine q_ldcS (j := 12) (b := 12) dX7_putNode_177 rfl rfl rfl rfl ?_
        refine q_callV (As := [.double 12]) (rest := []) dX7_putNode_179 vX7_72 (ty_c hS9 (by decide) rfl) ⟨by decide, rfl⟩ (x7_text hS9 q3.2 (j := 12) (c := 12) (c2 := 112) rfl (by decide) rfl) rfl rfl (Nat.le_of_ble_eq_true rfl) (by omega) (by omega) (by omega) (k_v (fun s179 q179 => ?_))
        replace k9 := k9.tr q179.1 (fun _ h => h)
        have hS9 := SK.fr k9 hS
        have hb9 := RB.fr k9 hb
        have hr9 := hr.f55 k9
        obtain ⟨⟨g1, g2, g3, g4, g5, g6, -⟩, -⟩ := hr9.2.2.2.2.2.2.2.2.2.2.2.2.1 n hn
        have G179 := g1
        have H179 := g3
        have I179 := g4
        have J179 := g5
        have K179 := g6
        refine q_aload_n dX7_putNode_182 rfl rfl rfl ?_
        refine q_aload_n dX7_putNode_183 rfl rfl rfl ?_
        refine q_getr (r := b + 4) dX7_putNode_184 fX7_107 rfl (ty_r hb9 0 rfl) (hb9.2.2 0 3 4 rfl) ?_
        refine q_iconst (v := nI 0) dX7_putNode_187 rfl ?_
        refine q_aald (r := b + 5) (j := 0) dX7_putNode_188 (ty_r hb9 4 rfl) (Or.inl rfl) (ix_n (by omega) (by omega)) (hb9.2.2 4 0 5 rfl) ?_
        refine q_iload_n dX7_putNode_189 rfl rfl ?_
        refine q_iald (x := rO0 (rg q n)) (j := n) dX7_putNode_190 (ty_r hb9 5 rfl) (ix_n (by omega) (by omega)) I179 ?_
        refine q_callV (As := [.int (rO0 (rg q n))]) (rest := []) dX7_putNode_191 vX7_111 (ty_c hS9 (by decide) rfl) ⟨by decide, rfl⟩ (x7_operand hS9 q179.2 o1) rfl rfl (Nat.le_of_ble_eq_true rfl) (by omega) (by omega) (by omega) (k_v (fun s191 q191 => ?_))
        replace k9 := k9.tr q191.1 (fun _ h => h)
        have hS9 := SK.fr k9 hS
        have hb9 := RB.fr k9 hb
        have hr9 := hr.f55 k9
        obtain ⟨⟨g1, g2, g3, g4, g5, g6, -⟩, -⟩ := hr9.2.2.2.2.2.2.2.2.2.2.2.2.1 n hn
        have G191 := g1
        have H191 := g3
        have I191 := g4
        have J191 := g5
        have K191 := g6
        refine q_goto (tgt := 234) dX7_putNode_194 (by decide) ?_
        refine q_aload_n dX7_putNode_234 rfl rfl rfl ?_
        refine q_ldcS (j := 11) (b := 11) dX7_putNode_235 rfl rfl rfl rfl ?_
        refine q_callV (As := [.double 11]) (rest := []) dX7_putNode_237 vX7_72 (ty_c hS9 (by decide) rfl) ⟨by decide, rfl⟩ (x7_text hS9 q191.2 (j := 11) (c := 11) (c2 := 111) rfl (by decide) rfl) rfl rfl (Nat.le_of_ble_eq_true rfl) (by omega) (by omega) (by omega) (k_v (fun s237 q237 => ?_))
        replace k9 := k9.tr q237.1 (fun _ h => h)
        have hS9 := SK.fr k9 hS
        have hb9 := RB.fr k9 hb
        have hr9 := hr.f55 k9
        obtain ⟨⟨g1, g2, g3, g4, g5, g6, -⟩, -⟩ := hr9.2.2.2.2.2.2.2.2.2.2.2.2.1 n hn
        have G237 := g1
        have H237 := g3
        have I237 := g4
        have J237 := g5
        have K237 := g6
        refine q_return dX7_putNode_240 rfl (by omega) (by omega) ?_
        have eA := (show ndB q p n = stX 12 ++ opT (rO0 (rg q n)) from by unfold ndB gvT; rw [if_neg (by omega), if_neg (by omega), if_neg (by omega), if_pos kk])
        exact ⟨rfl, k9, by unfold ndT; rw [eA]; simpa only [List.append_assoc, List.cons_append, List.nil_append, List.singleton_append] using q237.2⟩
      omega
    · obtain ⟨t, ht0, ht⟩ := w0 (by omega)
      have haB := aB_lt (p := p) hc hw hnb hn ht0 ht
      refine CT.of (by decide) (Nat.le_of_ble_eq_true rfl) ?_
      refine q_aload_n dX7_putNode_0 rfl rfl rfl ?_
      refine q_ldcS (j := 7) (b := 7) dX7_putNode_1 rfl rfl rfl rfl ?_
      refine q_callV (As := [.double 7]) (rest := []) dX7_putNode_3 vX7_72 (ty_c hS (by decide) rfl) ⟨by decide, rfl⟩ (x7_text hS hW (j := 7) (c := 7) (c2 := 107) rfl (by decide) rfl) rfl rfl (Nat.le_of_ble_eq_true rfl) (by omega) (by omega) (by omega) (k_v (fun s3 q3 => ?_))
      have k9 := q3.1
      have hS9 := SK.fr k9 hS
      have hb9 := RB.fr k9 hb
      have hr9 := hr.f55 k9
      obtain ⟨⟨g1, g2, g3, g4, g5, g6, -⟩, -⟩ := hr9.2.2.2.2.2.2.2.2.2.2.2.2.1 n hn
      have G3 := g1
      have H3 := g3
      have I3 := g4
      have J3 := g5
      have K3 := g6
      refine q_aload_n dX7_putNode_6 rfl rfl rfl ?_
      refine q_getr (r := b + 1) dX7_putNode_7 fX7_95 rfl (ty_r hb9 0 rfl) (hb9.2.2 0 0 1 rfl) ?_
      refine q_iload_n dX7_putNode_10 rfl rfl ?_
      refine q_iald (x := nI 4) (j := n) dX7_putNode_11 (ty_r hb9 1 rfl) (ix_n (by omega) (by omega)) (G3.trans (by rw [kk])) ?_
      by_cases w12_4 : 4 = 4
      · refine q_tableEq 4 (tgt := 215) (off := 203) dX7_putNode_12 (by rw [w12_4]) (by decide) rfl (by decide) ?_
        refine q_aload_n dX7_putNode_215 rfl rfl rfl ?_
        refine q_ldcS (j := 16) (b := 16) dX7_putNode_216 rfl rfl rfl rfl ?_
        refine q_callV (As := [.double 16]) (rest := []) dX7_putNode_218 vX7_72 (ty_c hS9 (by decide) rfl) ⟨by decide, rfl⟩ (x7_text hS9 q3.2 (j := 16) (c := 16) (c2 := 116) rfl (by decide) rfl) rfl rfl (Nat.le_of_ble_eq_true rfl) (by omega) (by omega) (by omega) (k_v (fun s218 q218 => ?_))
        replace k9 := k9.tr q218.1 (fun _ h => h)
        have hS9 := SK.fr k9 hS
        have hb9 := RB.fr k9 hb
        have hr9 := hr.f55 k9
        obtain ⟨⟨g1, g2, g3, g4, g5, g6, -⟩, -⟩ := hr9.2.2.2.2.2.2.2.2.2.2.2.2.1 n hn
        have G218 := g1
        have H218 := g3
        have I218 := g4
        have J218 := g5
        have K218 := g6
        refine q_aload_n dX7_putNode_221 rfl rfl rfl ?_
        refine q_bipush (v := nI 98) dX7_putNode_222 rfl ?_
        refine q_aload_n dX7_putNode_224 rfl rfl rfl ?_
        refine q_aload_n dX7_putNode_225 rfl rfl rfl ?_
        refine q_iload_n dX7_putNode_226 rfl rfl ?_
        refine q_iconst (v := nI 0) dX7_putNode_227 rfl ?_
        refine q_callV (As := [.ref b, .int (nI n), .int (nI 0)]) (rest := [.int (nI 98), .ref 55]) dX7_putNode_228 vX7_129 (ty_c hS9 (by decide) rfl) ⟨by decide, rfl⟩ (z7_wayOf hS9 hr9 (ho.f55 k9) (by omega) hn (by omega) ht) rfl rfl (Nat.le_of_ble_eq_true rfl) (by omega) (by omega) (by omega) (k_p ?_)
        refine q_callV (As := [.int (nI 98), .int (nI (aBn q p n 0))]) (rest := []) dX7_putNode_231 vX7_66 (ty_c hS9 (by decide) rfl) ⟨by decide, rfl⟩ (x7_numbered hS9 q218.2 (by omega) (by omega)) rfl rfl (Nat.le_of_ble_eq_true rfl) (by omega) (by omega) (by omega) (k_v (fun s231 q231 => ?_))
        replace k9 := k9.tr q231.1 (fun _ h => h)
        have hS9 := SK.fr k9 hS
        have hb9 := RB.fr k9 hb
        have hr9 := hr.f55 k9
        obtain ⟨⟨g1, g2, g3, g4, g5, g6, -⟩, -⟩ := hr9.2.2.2.2.2.2.2.2.2.2.2.2.1 n hn
        have G231 := g1
        have H231 := g3
        have I231 := g4
        have J231 := g5
        have K231 := g6
        refine q_aload_n dX7_putNode_234 rfl rfl rfl ?_
        refine q_ldcS (j := 11) (b := 11) dX7_putNode_235 rfl rfl rfl rfl ?_
        refine q_callV (As := [.double 11]) (rest := []) dX7_putNode_237 vX7_72 (ty_c hS9 (by decide) rfl) ⟨by decide, rfl⟩ (x7_text hS9 q231.2 (j := 11) (c := 11) (c2 := 111) rfl (by decide) rfl) rfl rfl (Nat.le_of_ble_eq_true rfl) (by omega) (by omega) (by omega) (k_v (fun s237 q237 => ?_))
        replace k9 := k9.tr q237.1 (fun _ h => h)
        have hS9 := SK.fr k9 hS
        have hb9 := RB.fr k9 hb
        have hr9 := hr.f55 k9
        obtain ⟨⟨g1, g2, g3, g4, g5, g6, -⟩, -⟩ := hr9.2.2.2.2.2.2.2.2.2.2.2.2.1 n hn
        have G237 := g1
        have H237 := g3
        have I237 := g4
        have J237 := g5
        have K237 := g6
        refine q_return dX7_putNode_240 rfl (by omega) (by omega) ?_
        have eA := (show ndB q p n = stX 16 ++ (98 :: numT (aBn q p n 0)) from by unfold ndB gvT; rw [if_neg (by omega), if_neg (by omega), if_neg (by omega), if_neg (by omega), if_neg (by omega), if_neg (by omega)])
        exact ⟨rfl, k9, by unfold ndT; rw [eA]; simpa only [List.append_assoc, List.cons_append, List.nil_append, List.singleton_append] using q237.2⟩
      omega
    · obtain ⟨t, ht0, ht⟩ := w0 (by omega)
      obtain ⟨u, hu0, hu⟩ := w1 kk
      refine CT.of (by decide) (Nat.le_of_ble_eq_true rfl) ?_
      refine q_aload_n dX7_putNode_0 rfl rfl rfl ?_
      refine q_ldcS (j := 7) (b := 7) dX7_putNode_1 rfl rfl rfl rfl ?_
      refine q_callV (As := [.double 7]) (rest := []) dX7_putNode_3 vX7_72 (ty_c hS (by decide) rfl) ⟨by decide, rfl⟩ (x7_text hS hW (j := 7) (c := 7) (c2 := 107) rfl (by decide) rfl) rfl rfl (Nat.le_of_ble_eq_true rfl) (by omega) (by omega) (by omega) (k_v (fun s3 q3 => ?_))
      have k9 := q3.1
      have hS9 := SK.fr k9 hS
      have hb9 := RB.fr k9 hb
      have hr9 := hr.f55 k9
      obtain ⟨⟨g1, g2, g3, g4, g5, g6, -⟩, -⟩ := hr9.2.2.2.2.2.2.2.2.2.2.2.2.1 n hn
      have G3 := g1
      have H3 := g3
      have I3 := g4
      have J3 := g5
      have K3 := g6
      refine q_aload_n dX7_putNode_6 rfl rfl rfl ?_
      refine q_getr (r := b + 1) dX7_putNode_7 fX7_95 rfl (ty_r hb9 0 rfl) (hb9.2.2 0 0 1 rfl) ?_
      refine q_iload_n dX7_putNode_10 rfl rfl ?_
      refine q_iald (x := nI 5) (j := n) dX7_putNode_11 (ty_r hb9 1 rfl) (ix_n (by omega) (by omega)) (G3.trans (by rw [kk])) ?_
      by_cases w12_5 : 5 = 5
      · refine q_tableEq 5 (tgt := 197) (off := 185) dX7_putNode_12 (by rw [w12_5]) (by decide) rfl (by decide) ?_
        refine q_aload_n dX7_putNode_197 rfl rfl rfl ?_
        refine q_aload_n dX7_putNode_198 rfl rfl rfl ?_
        refine q_iload_n dX7_putNode_199 rfl rfl ?_
        refine q_callV (As := [.ref b, .int (nI n)]) (rest := []) dX7_putNode_200 vX7_122 (ty_c hS9 (by decide) rfl) ⟨by decide, rfl⟩ (x7_if hS9 q3.2 hr9 (ho.f55 k9) hn ht0 hu0 ht hu) rfl rfl (Nat.le_of_ble_eq_true rfl) (by omega) (by omega) (by omega) (k_v (fun s200 q200 => ?_))
        replace k9 := k9.tr q200.1 (fun _ h => h)
        have hS9 := SK.fr k9 hS
        have hb9 := RB.fr k9 hb
        have hr9 := hr.f55 k9
        obtain ⟨⟨g1, g2, g3, g4, g5, g6, -⟩, -⟩ := hr9.2.2.2.2.2.2.2.2.2.2.2.2.1 n hn
        have G200 := g1
        have H200 := g3
        have I200 := g4
        have J200 := g5
        have K200 := g6
        refine q_goto (tgt := 234) dX7_putNode_203 (by decide) ?_
        refine q_aload_n dX7_putNode_234 rfl rfl rfl ?_
        refine q_ldcS (j := 11) (b := 11) dX7_putNode_235 rfl rfl rfl rfl ?_
        refine q_callV (As := [.double 11]) (rest := []) dX7_putNode_237 vX7_72 (ty_c hS9 (by decide) rfl) ⟨by decide, rfl⟩ (x7_text hS9 q200.2 (j := 11) (c := 11) (c2 := 111) rfl (by decide) rfl) rfl rfl (Nat.le_of_ble_eq_true rfl) (by omega) (by omega) (by omega) (k_v (fun s237 q237 => ?_))
        replace k9 := k9.tr q237.1 (fun _ h => h)
        have hS9 := SK.fr k9 hS
        have hb9 := RB.fr k9 hb
        have hr9 := hr.f55 k9
        obtain ⟨⟨g1, g2, g3, g4, g5, g6, -⟩, -⟩ := hr9.2.2.2.2.2.2.2.2.2.2.2.2.1 n hn
        have G237 := g1
        have H237 := g3
        have I237 := g4
        have J237 := g5
        have K237 := g6
        refine q_return dX7_putNode_240 rfl (by omega) (by omega) ?_
        have eA := (show ndB q p n = stX 13 ++ opT (rO0 (rg q n)) ++ stX 14 ++ opT (rO1 (rg q n)) ++ (32 :: 98 :: numT (aBn q p n 0)) ++ (32 :: 98 :: numT (aBn q p n 1)) from by unfold ndB gvT; rw [if_neg (by omega), if_neg (by omega), if_neg (by omega), if_neg (by omega), if_pos kk])
        exact ⟨rfl, k9, by unfold ndT; rw [eA]; simpa only [List.append_assoc, List.cons_append, List.nil_append, List.singleton_append] using q237.2⟩
      omega
    · skip
      refine CT.of (by decide) (Nat.le_of_ble_eq_true rfl) ?_
      refine q_aload_n dX7_putNode_0 rfl rfl rfl ?_
      refine q_ldcS (j := 7) (b := 7) dX7_putNode_1 rfl rfl rfl rfl ?_
      refine q_callV (As := [.double 7]) (rest := []) dX7_putNode_3 vX7_72 (ty_c hS (by decide) rfl) ⟨by decide, rfl⟩ (x7_text hS hW (j := 7) (c := 7) (c2 := 107) rfl (by decide) rfl) rfl rfl (Nat.le_of_ble_eq_true rfl) (by omega) (by omega) (by omega) (k_v (fun s3 q3 => ?_))
      have k9 := q3.1
      have hS9 := SK.fr k9 hS
      have hb9 := RB.fr k9 hb
      have hr9 := hr.f55 k9
      obtain ⟨⟨g1, g2, g3, g4, g5, g6, -⟩, -⟩ := hr9.2.2.2.2.2.2.2.2.2.2.2.2.1 n hn
      have G3 := g1
      have H3 := g3
      have I3 := g4
      have J3 := g5
      have K3 := g6
      refine q_aload_n dX7_putNode_6 rfl rfl rfl ?_
      refine q_getr (r := b + 1) dX7_putNode_7 fX7_95 rfl (ty_r hb9 0 rfl) (hb9.2.2 0 0 1 rfl) ?_
      refine q_iload_n dX7_putNode_10 rfl rfl ?_
      refine q_iald (x := nI 6) (j := n) dX7_putNode_11 (ty_r hb9 1 rfl) (ix_n (by omega) (by omega)) (G3.trans (by rw [kk])) ?_
      by_cases w12_6 : 6 = 6
      · refine q_tableEq 6 (tgt := 206) (off := 194) dX7_putNode_12 (by rw [w12_6]) (by decide) rfl (by decide) ?_
        refine q_aload_n dX7_putNode_206 rfl rfl rfl ?_
        refine q_ldcS (j := 15) (b := 15) dX7_putNode_207 rfl rfl rfl rfl ?_
        refine q_callV (As := [.double 15]) (rest := []) dX7_putNode_209 vX7_72 (ty_c hS9 (by decide) rfl) ⟨by decide, rfl⟩ (x7_text hS9 q3.2 (j := 15) (c := 15) (c2 := 115) rfl (by decide) rfl) rfl rfl (Nat.le_of_ble_eq_true rfl) (by omega) (by omega) (by omega) (k_v (fun s209 q209 => ?_))
        replace k9 := k9.tr q209.1 (fun _ h => h)
        have hS9 := SK.fr k9 hS
        have hb9 := RB.fr k9 hb
        have hr9 := hr.f55 k9
        obtain ⟨⟨g1, g2, g3, g4, g5, g6, -⟩, -⟩ := hr9.2.2.2.2.2.2.2.2.2.2.2.2.1 n hn
        have G209 := g1
        have H209 := g3
        have I209 := g4
        have J209 := g5
        have K209 := g6
        refine q_goto (tgt := 234) dX7_putNode_212 (by decide) ?_
        refine q_aload_n dX7_putNode_234 rfl rfl rfl ?_
        refine q_ldcS (j := 11) (b := 11) dX7_putNode_235 rfl rfl rfl rfl ?_
        refine q_callV (As := [.double 11]) (rest := []) dX7_putNode_237 vX7_72 (ty_c hS9 (by decide) rfl) ⟨by decide, rfl⟩ (x7_text hS9 q209.2 (j := 11) (c := 11) (c2 := 111) rfl (by decide) rfl) rfl rfl (Nat.le_of_ble_eq_true rfl) (by omega) (by omega) (by omega) (k_v (fun s237 q237 => ?_))
        replace k9 := k9.tr q237.1 (fun _ h => h)
        have hS9 := SK.fr k9 hS
        have hb9 := RB.fr k9 hb
        have hr9 := hr.f55 k9
        obtain ⟨⟨g1, g2, g3, g4, g5, g6, -⟩, -⟩ := hr9.2.2.2.2.2.2.2.2.2.2.2.2.1 n hn
        have G237 := g1
        have H237 := g3
        have I237 := g4
        have J237 := g5
        have K237 := g6
        refine q_return dX7_putNode_240 rfl (by omega) (by omega) ?_
        have eA := (show ndB q p n = stX 15 from by unfold ndB gvT; rw [if_neg (by omega), if_neg (by omega), if_neg (by omega), if_neg (by omega), if_neg (by omega), if_pos kk])
        exact ⟨rfl, k9, by unfold ndT; rw [eA]; simpa only [List.append_assoc, List.cons_append, List.nil_append, List.singleton_append] using q237.2⟩
      omega
    · obtain ⟨t, ht0, ht⟩ := w0 (by omega)
      have haB := aB_lt (p := p) hc hw hnb hn ht0 ht
      refine CT.of (by decide) (Nat.le_of_ble_eq_true rfl) ?_
      refine q_aload_n dX7_putNode_0 rfl rfl rfl ?_
      refine q_ldcS (j := 7) (b := 7) dX7_putNode_1 rfl rfl rfl rfl ?_
      refine q_callV (As := [.double 7]) (rest := []) dX7_putNode_3 vX7_72 (ty_c hS (by decide) rfl) ⟨by decide, rfl⟩ (x7_text hS hW (j := 7) (c := 7) (c2 := 107) rfl (by decide) rfl) rfl rfl (Nat.le_of_ble_eq_true rfl) (by omega) (by omega) (by omega) (k_v (fun s3 q3 => ?_))
      have k9 := q3.1
      have hS9 := SK.fr k9 hS
      have hb9 := RB.fr k9 hb
      have hr9 := hr.f55 k9
      obtain ⟨⟨g1, g2, g3, g4, g5, g6, -⟩, -⟩ := hr9.2.2.2.2.2.2.2.2.2.2.2.2.1 n hn
      have G3 := g1
      have H3 := g3
      have I3 := g4
      have J3 := g5
      have K3 := g6
      refine q_aload_n dX7_putNode_6 rfl rfl rfl ?_
      refine q_getr (r := b + 1) dX7_putNode_7 fX7_95 rfl (ty_r hb9 0 rfl) (hb9.2.2 0 0 1 rfl) ?_
      refine q_iload_n dX7_putNode_10 rfl rfl ?_
      refine q_iald (x := nI 7) (j := n) dX7_putNode_11 (ty_r hb9 1 rfl) (ix_n (by omega) (by omega)) (G3.trans (by rw [kk])) ?_
      refine q_tableNe 0 6 (tgt := 215) dX7_putNode_12 (by decide) (fun v h1 h2 e => by have e2 := nI_inj (by omega) (by omega) e; omega) (by decide) ?_
      refine q_aload_n dX7_putNode_215 rfl rfl rfl ?_
      refine q_ldcS (j := 16) (b := 16) dX7_putNode_216 rfl rfl rfl rfl ?_
      refine q_callV (As := [.double 16]) (rest := []) dX7_putNode_218 vX7_72 (ty_c hS9 (by decide) rfl) ⟨by decide, rfl⟩ (x7_text hS9 q3.2 (j := 16) (c := 16) (c2 := 116) rfl (by decide) rfl) rfl rfl (Nat.le_of_ble_eq_true rfl) (by omega) (by omega) (by omega) (k_v (fun s218 q218 => ?_))
      replace k9 := k9.tr q218.1 (fun _ h => h)
      have hS9 := SK.fr k9 hS
      have hb9 := RB.fr k9 hb
      have hr9 := hr.f55 k9
      obtain ⟨⟨g1, g2, g3, g4, g5, g6, -⟩, -⟩ := hr9.2.2.2.2.2.2.2.2.2.2.2.2.1 n hn
      have G218 := g1
      have H218 := g3
      have I218 := g4
      have J218 := g5
      have K218 := g6
      refine q_aload_n dX7_putNode_221 rfl rfl rfl ?_
      refine q_bipush (v := nI 98) dX7_putNode_222 rfl ?_
      refine q_aload_n dX7_putNode_224 rfl rfl rfl ?_
      refine q_aload_n dX7_putNode_225 rfl rfl rfl ?_
      refine q_iload_n dX7_putNode_226 rfl rfl ?_
      refine q_iconst (v := nI 0) dX7_putNode_227 rfl ?_
      refine q_callV (As := [.ref b, .int (nI n), .int (nI 0)]) (rest := [.int (nI 98), .ref 55]) dX7_putNode_228 vX7_129 (ty_c hS9 (by decide) rfl) ⟨by decide, rfl⟩ (z7_wayOf hS9 hr9 (ho.f55 k9) (by omega) hn (by omega) ht) rfl rfl (Nat.le_of_ble_eq_true rfl) (by omega) (by omega) (by omega) (k_p ?_)
      refine q_callV (As := [.int (nI 98), .int (nI (aBn q p n 0))]) (rest := []) dX7_putNode_231 vX7_66 (ty_c hS9 (by decide) rfl) ⟨by decide, rfl⟩ (x7_numbered hS9 q218.2 (by omega) (by omega)) rfl rfl (Nat.le_of_ble_eq_true rfl) (by omega) (by omega) (by omega) (k_v (fun s231 q231 => ?_))
      replace k9 := k9.tr q231.1 (fun _ h => h)
      have hS9 := SK.fr k9 hS
      have hb9 := RB.fr k9 hb
      have hr9 := hr.f55 k9
      obtain ⟨⟨g1, g2, g3, g4, g5, g6, -⟩, -⟩ := hr9.2.2.2.2.2.2.2.2.2.2.2.2.1 n hn
      have G231 := g1
      have H231 := g3
      have I231 := g4
      have J231 := g5
      have K231 := g6
      refine q_aload_n dX7_putNode_234 rfl rfl rfl ?_
      refine q_ldcS (j := 11) (b := 11) dX7_putNode_235 rfl rfl rfl rfl ?_
      refine q_callV (As := [.double 11]) (rest := []) dX7_putNode_237 vX7_72 (ty_c hS9 (by decide) rfl) ⟨by decide, rfl⟩ (x7_text hS9 q231.2 (j := 11) (c := 11) (c2 := 111) rfl (by decide) rfl) rfl rfl (Nat.le_of_ble_eq_true rfl) (by omega) (by omega) (by omega) (k_v (fun s237 q237 => ?_))
      replace k9 := k9.tr q237.1 (fun _ h => h)
      have hS9 := SK.fr k9 hS
      have hb9 := RB.fr k9 hb
      have hr9 := hr.f55 k9
      obtain ⟨⟨g1, g2, g3, g4, g5, g6, -⟩, -⟩ := hr9.2.2.2.2.2.2.2.2.2.2.2.2.1 n hn
      have G237 := g1
      have H237 := g3
      have I237 := g4
      have J237 := g5
      have K237 := g6
      refine q_return dX7_putNode_240 rfl (by omega) (by omega) ?_
      have eA := (show ndB q p n = stX 16 ++ (98 :: numT (aBn q p n 0)) from by unfold ndB gvT; rw [if_neg (by omega), if_neg (by omega), if_neg (by omega), if_neg (by omega), if_neg (by omega), if_neg (by omega)])
      exact ⟨rfl, k9, by unfold ndT; rw [eA]; simpa only [List.append_assoc, List.cons_append, List.nil_append, List.singleton_append] using q237.2⟩

end WR3
