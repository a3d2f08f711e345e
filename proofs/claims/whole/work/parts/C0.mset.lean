/-! The model: what is set ahead, own blocks. -/
/-- the first NODE of a block stands in it -/
theorem nf_rB {q : PS} (hc : BC q) {t : Nat} (ht : t < (psF q).length) : rB (rg q (nf q t)) = t := by
  have h1 := hc.2.2.2.2.1 t ht
  rw [show rg q (nf q t) = rr q (nf q t) from if_pos (nf_0 hc ht)]
  exact (hc.2.2.2.2.2 t ht (nf q t) (Nat.le_refl _) h1).1
theorem XL_at {q : PS} (hc : BC q) (hw : WFs q) (hnb : NB q) {n : Nat} (hs : (psS q).length ≤ n) (hn : n < NN q) : (XL q (psS q).length).getD (n - (psS q).length) 0 < (psF q).length := XL_lt hc hw hnb _ (Nat.le_refl _) _ (gd_mem (by unfold NN at hn; omega))
/-- a way leads to a NODE of the block that it names -/
theorem way_rB {q : PS} (hc : BC q) (hw : WFs q) (hnb : NB q) {n w x : Nat} (hn : n < NN q) (hw2 : w < 2) (h4 : 4 ≤ rK (rg q n)) (h : ld q w n = some x) : rWw (rg q n) w = nI (rB (rg q x)) := by
  by_cases e : n < (psS q).length
  · have er : rg q n = rr q n := if_pos e
    rw [er] at h4 ⊢
    obtain ⟨j, j1, j2, j3⟩ := st_end hc hw hnb e h4
    have en : n = eNd q j := j2
    obtain ⟨g1, g2, g3, -⟩ := st_w hw e
    have ew : rWw (rr q n) w = oW (wr q w n) := by
      rcases (show w = 0 ∨ w = 1 by omega) with rfl | rfl
      · exact g2
      · exact g3
    rw [ew]
    cases ht : wr q w n with
    | none =>
      have : ld q w n = none := by rw [en]; exact ld_wy0 hc hw j1 hw2 (by rw [en] at ht; exact ht)
      rw [this] at h; cases h
    | some t =>
      have hy : wy q w j = some t := by rw [en] at ht; exact ht
      obtain ⟨t1, y, y1, y2, y3⟩ := hop hc hw hnb j1 hw2 hy
      rw [← en] at y1
      cases (y1.symm.trans h)
      rcases y3 with ⟨y3, y4⟩ | ⟨y3, y4⟩
      · rw [y3, nf_rB hc t1]; rfl
      · have hx := XL_at hc hw hnb y3 y2
        have e1 : rg q x = _ := if_neg (by omega)
        have e2 : ld q 0 x = some (nf q ((XL q (psS q).length).getD (x - (psS q).length) 0)) := by unfold ld; rw [if_neg (by omega), if_pos rfl]
        have e3 := nf_ij hc hx t1 (Option.some.inj (e2.symm.trans y4))
        rw [e1]
        show nI t = nI ((XL q (psS q).length).getD (x - (psS q).length) 0)
        rw [e3]
  · have hx := XL_at hc hw hnb (by omega) hn
    have e1 : rg q n = _ := if_neg e
    unfold ld at h
    rw [if_neg e] at h
    rcases (show w = 0 ∨ w = 1 by omega) with rfl | rfl
    · rw [if_pos rfl] at h
      cases h
      rw [nf_rB hc hx, e1]; rfl
    · rw [if_neg (by omega)] at h; cases h
theorem rB_lt {q : PS} (hc : BC q) (hw : WFs q) (hnb : NB q) {n : Nat} (hn : n < NN q) : rB (rg q n) < 40 := by
  by_cases e : n < (psS q).length
  · have er : rg q n = rr q n := if_pos e
    rw [er]
    exact Nat.lt_of_lt_of_le (BC_rB hc (gd_mem e)) hc.2.1
  · have hx := XL_at hc hw hnb (by omega) hn
    have e1 : rg q n = _ := if_neg e
    rw [e1]
    have := hc.2.1
    exact Nat.lt_of_lt_of_le hx this
/-- the block that a NODE is named by -/
noncomputable def asB (q : PS) (p x : Nat) : Nat := if (psS q).length ≤ x then (match own q p x with | some y => y | none => rB (rg q x)) else rB (rg q x)
theorem asB_a {q : PS} (hc : BC q) (hw : WFs q) (hnb : NB q) {p n w x : Nat} (hn : n < NN q) (hw2 : w < 2) (h4 : 4 ≤ rK (rg q n)) (h : ld q w n = some x) : aBn q p n w = asB q p x := by
  have hb := rB_lt hc hw hnb (ld_lt hc hw hnb hn h)
  unfold aBn asB
  rw [h, way_rB hc hw hnb hn hw2 h4 h, nI_clamp (by omega)]
  rfl
/-- the own blocks stand -/
def OBm (σ : HS) (q : PS) (p : Nat) : Prop := ∀ n, (psS q).length ≤ n → n < NN q → sI σ 98 n = oW (own q p n)
theorem OBm.tx {σ σ' : HS} {q : PS} {p : Nat} (f : FR9 txq σ σ') (h : OBm σ q p) : OBm σ' q p := fun n h1 h2 => (f.2.2.2 98 n fun z => by unfold txq at z; omega).trans (h n h1 h2)
noncomputable def anU (q : PS) (l n e : Nat) : Bool := (List.range e).any (fun x => stA q l x n)
theorem anU_s {q : PS} {l n e : Nat} : anU q l n (e + 1) = (anU q l n e || stA q l e n) := by
  unfold anU
  rw [List.range_succ, List.any_append]
  simp
section MST
variable {g : GG} {σ σ0 : HS} {q : PS} {i : Nat} {W : List Nat}
theorem z9_asBlock (hS : SK σ) (hi : i < 4) (hr : MR σ i q) (hk : MOK q) {l x : Nat} (ho : OBm σ q l) (hx : x < NN q) : CT g mX9_asBlock 0 0 0 [.ref 58, .int (nI i), .int (nI x)] σ (PQ σ (.int (nI (asB q l x)))) := by
  have hN := NN_le hk.1
  obtain ⟨⟨n1, n2, -⟩, -⟩ := hr.1.2.2.2.2.2.1 x hx
  have hb := rB_lt hk.1 hk.2.1 hk.2.2.1 hx
  have h7 := rg_7 hk.2.1 hx
  have h8 : rK (rg q x) < 2147483648 := by rcases rg_cases hk.2.1 hk.2.2.2.1 hx with ⟨h, -⟩ | ⟨h, -⟩ | ⟨h, -⟩ | ⟨-, h, -⟩ <;> omega
  by_cases hs : (psS q).length ≤ x
  · have k7 := h7.mpr hs
    have o1 := ho x hs hx
    cases hy : own q l x with
    | none =>
      rw [hy] at o1
      have ea : asB q l x = rB (rg q x) := by unfold asB; rw [if_pos hs, hy]
      rw [ea]
      refine CT.of (by decide) (Nat.le_of_ble_eq_true rfl) ?_
      refine q_aload_n dX9_asBlock_0 rfl rfl rfl ?_
      refine q_getr (r := 67) dX9_asBlock_1 fX9_58 rfl (ty_c hS (by decide) rfl) (hS.2 58 15 67 rfl) ?_
      refine q_sipush (v := nI 240) dX9_asBlock_4 rfl ?_
      refine q_iload_n dX9_asBlock_7 rfl rfl ?_
      refine q_imulN dX9_asBlock_8 ?_
      refine q_iload_n dX9_asBlock_9 rfl rfl ?_
      refine q_iaddN dX9_asBlock_10 ?_
      refine q_iald (x := nI 7) (j := ((240 * i) + x)) dX9_asBlock_11 (ty_c hS (by decide) rfl) (ix_n (by omega) (by omega)) (n1.trans (by rw [k7])) ?_
      refine q_bipush (v := nI 7) dX9_asBlock_12 rfl ?_
      refine q_icmp_eqN (tgt := 32) dX9_asBlock_14 (by decide) (by omega) (by omega) (fun _ => ?_) (fun h => absurd h (by decide))
      refine q_aload_n dX9_asBlock_32 rfl rfl rfl ?_
      refine q_getr (r := 98) dX9_asBlock_33 fX9_199 rfl (ty_c hS (by decide) rfl) (hS.2 58 61 98 rfl) ?_
      refine q_iload_n dX9_asBlock_36 rfl rfl ?_
      refine q_iald (x := (-1)) (j := x) dX9_asBlock_37 (ty_c hS (by decide) rfl) (ix_n (by omega) (by omega)) o1 ?_
      refine q_if_lt1 (tgt := 50) dX9_asBlock_38 (by decide) (by decide) ?_
      refine q_aload_n dX9_asBlock_50 rfl rfl rfl ?_
      refine q_getr (r := 68) dX9_asBlock_51 fX9_61 rfl (ty_c hS (by decide) rfl) (hS.2 58 16 68 rfl) ?_
      refine q_sipush (v := nI 240) dX9_asBlock_54 rfl ?_
      refine q_iload_n dX9_asBlock_57 rfl rfl ?_
      refine q_imulN dX9_asBlock_58 ?_
      refine q_iload_n dX9_asBlock_59 rfl rfl ?_
      refine q_iaddN dX9_asBlock_60 ?_
      refine q_iald (x := nI (rB (rg q x))) (j := ((240 * i) + x)) dX9_asBlock_61 (ty_c hS (by decide) rfl) (ix_n (by omega) (by omega)) n2 ?_
      refine q_ireturn dX9_asBlock_62 rfl rfl (by omega) (by omega) ?_
      exact ⟨rfl, rfl⟩
    | some y =>
      rw [hy] at o1
      have hyl := own_lt hk.1 hy hs hx
      have ea : asB q l x = y := by unfold asB; rw [if_pos hs, hy]
      rw [ea]
      refine CT.of (by decide) (Nat.le_of_ble_eq_true rfl) ?_
      refine q_aload_n dX9_asBlock_0 rfl rfl rfl ?_
      refine q_getr (r := 67) dX9_asBlock_1 fX9_58 rfl (ty_c hS (by decide) rfl) (hS.2 58 15 67 rfl) ?_
      refine q_sipush (v := nI 240) dX9_asBlock_4 rfl ?_
      refine q_iload_n dX9_asBlock_7 rfl rfl ?_
      refine q_imulN dX9_asBlock_8 ?_
      refine q_iload_n dX9_asBlock_9 rfl rfl ?_
      refine q_iaddN dX9_asBlock_10 ?_
      refine q_iald (x := nI 7) (j := ((240 * i) + x)) dX9_asBlock_11 (ty_c hS (by decide) rfl) (ix_n (by omega) (by omega)) (n1.trans (by rw [k7])) ?_
      refine q_bipush (v := nI 7) dX9_asBlock_12 rfl ?_
      refine q_icmp_eqN (tgt := 32) dX9_asBlock_14 (by decide) (by omega) (by omega) (fun _ => ?_) (fun h => absurd h (by decide))
      refine q_aload_n dX9_asBlock_32 rfl rfl rfl ?_
      refine q_getr (r := 98) dX9_asBlock_33 fX9_199 rfl (ty_c hS (by decide) rfl) (hS.2 58 61 98 rfl) ?_
      refine q_iload_n dX9_asBlock_36 rfl rfl ?_
      refine q_iald (x := nI y) (j := x) dX9_asBlock_37 (ty_c hS (by decide) rfl) (ix_n (by omega) (by omega)) o1 ?_
      refine q_if_ltN (tgt := 50) dX9_asBlock_38 (by decide) (by omega) ?_
      refine q_aload_n dX9_asBlock_41 rfl rfl rfl ?_
      refine q_getr (r := 98) dX9_asBlock_42 fX9_199 rfl (ty_c hS (by decide) rfl) (hS.2 58 61 98 rfl) ?_
      refine q_iload_n dX9_asBlock_45 rfl rfl ?_
      refine q_iald (x := nI y) (j := x) dX9_asBlock_46 (ty_c hS (by decide) rfl) (ix_n (by omega) (by omega)) o1 ?_
      refine q_goto (tgt := 62) dX9_asBlock_47 (by decide) ?_
      refine q_ireturn dX9_asBlock_62 rfl rfl (by omega) (by omega) ?_
      exact ⟨rfl, rfl⟩
  · have k7 : rK (rg q x) ≠ 7 := fun z => hs (h7.mp z)
    have ea : asB q l x = rB (rg q x) := by unfold asB; rw [if_neg hs]
    rw [ea]
    refine CT.of (by decide) (Nat.le_of_ble_eq_true rfl) ?_
    refine q_aload_n dX9_asBlock_0 rfl rfl rfl ?_
    refine q_getr (r := 67) dX9_asBlock_1 fX9_58 rfl (ty_c hS (by decide) rfl) (hS.2 58 15 67 rfl) ?_
    refine q_sipush (v := nI 240) dX9_asBlock_4 rfl ?_
    refine q_iload_n dX9_asBlock_7 rfl rfl ?_
    refine q_imulN dX9_asBlock_8 ?_
    refine q_iload_n dX9_asBlock_9 rfl rfl ?_
    refine q_iaddN dX9_asBlock_10 ?_
    refine q_iald (x := nI (rK (rg q x))) (j := ((240 * i) + x)) dX9_asBlock_11 (ty_c hS (by decide) rfl) (ix_n (by omega) (by omega)) n1 ?_
    refine q_bipush (v := nI 7) dX9_asBlock_12 rfl ?_
    refine q_icmp_eqN (tgt := 32) dX9_asBlock_14 (by decide) (by omega) (by omega) (fun c14 => ?_) (fun c14 => ?_)
    · exact absurd c14 k7
    · skip
      refine q_aload_n dX9_asBlock_17 rfl rfl rfl ?_
      refine q_getr (r := 68) dX9_asBlock_18 fX9_61 rfl (ty_c hS (by decide) rfl) (hS.2 58 16 68 rfl) ?_
      refine q_sipush (v := nI 240) dX9_asBlock_21 rfl ?_
      refine q_iload_n dX9_asBlock_24 rfl rfl ?_
      refine q_imulN dX9_asBlock_25 ?_
      refine q_iload_n dX9_asBlock_26 rfl rfl ?_
      refine q_iaddN dX9_asBlock_27 ?_
      refine q_iald (x := nI (rB (rg q x))) (j := ((240 * i) + x)) dX9_asBlock_28 (ty_c hS (by decide) rfl) (ix_n (by omega) (by omega)) n2 ?_
      refine q_goto (tgt := 62) dX9_asBlock_29 (by decide) ?_
      refine q_ireturn dX9_asBlock_62 rfl rfl (by omega) (by omega) ?_
      exact ⟨rfl, rfl⟩
theorem y9_st6 (hS : SK σ) (hi : i < 4) (hr : MR σ i q) (hk : MOK q) {l n : Nat} (hl : l < 3) (hn : n < NN q) : ∀ (f e : Nat), e + f = (psM q).length → WA g mX9_sets 2 0 0 (ZM g (PQ σ (.int (bi (anS q l n)))) 0 0) 0 0 6 [(0, .ref 58), (1, .int (nI i)), (2, .int (nI l)), (3, .int (nI n)), (4, .int (bi (anU q l n e))), (5, .int (nI e))] [] σ := by
  have hN := NN_le hk.1
  have h32 := hk.2.1.2.2.2.1
  have r64 := hr.1.2.2.2.1
  intro f
  induction f with
  | zero =>
    intro e he
    have ee : e = (psM q).length := by omega
    have ea : anU q l n e = anS q l n := by rw [ee]; rfl
    rw [ea]
    refine q_iload dX9_sets_6 rfl ?_
    refine q_aload_n dX9_sets_8 rfl rfl rfl ?_
    refine q_getr (r := 64) dX9_sets_9 fX9_49 rfl (ty_c hS (by decide) rfl) (hS.2 58 12 64 rfl) ?_
    refine q_iload_n dX9_sets_12 rfl rfl ?_
    refine q_iald (x := nI ((psM q).length)) (j := i) dX9_sets_13 (ty_c hS (by decide) rfl) (ix_n (by omega) (by omega)) r64 ?_
    refine q_icmp_geN (tgt := 47) dX9_sets_14 (by decide) (by omega) (by omega) (fun c14 => ?_) (fun c14 => ?_)
    · skip
      refine q_iload dX9_sets_47 rfl ?_
      refine q_ireturn dX9_sets_49 rfl (bi_nar _) (by omega) (by omega) ?_
      exact ⟨rfl, rfl⟩
    · exact absurd c14 (by omega)
  | succ f ih =>
    intro e he
    have hI := ih (e + 1) (by omega)
    rw [anU_s] at hI
    refine q_iload dX9_sets_6 rfl ?_
    refine q_aload_n dX9_sets_8 rfl rfl rfl ?_
    refine q_getr (r := 64) dX9_sets_9 fX9_49 rfl (ty_c hS (by decide) rfl) (hS.2 58 12 64 rfl) ?_
    refine q_iload_n dX9_sets_12 rfl rfl ?_
    refine q_iald (x := nI ((psM q).length)) (j := i) dX9_sets_13 (ty_c hS (by decide) rfl) (ix_n (by omega) (by omega)) r64 ?_
    refine q_icmp_geN (tgt := 47) dX9_sets_14 (by decide) (by omega) (by omega) (fun c14 => ?_) (fun c14 => ?_)
    · exact absurd c14 (by omega)
    · skip
      refine q_iload dX9_sets_17 rfl ?_
      refine q_if_neB (tgt := 34) dX9_sets_19 (by decide) (fun c19 => ?_) (fun c19 => ?_)
      · skip
        refine q_iconst (v := nI 1) dX9_sets_34 rfl ?_
        refine q_goto (tgt := 39) dX9_sets_35 (by decide) ?_
        refine q_top (y := bi (anU q l n e || stA q l e n)) (by first | (rw [c19]; rfl) | (rw [c19, c31]; rfl)) ?_
        refine q_istore dX9_sets_39 (by decide) (ls' := [(4, .int (bi (anU q l n e || stA q l e n))), (0, .ref 58), (1, .int (nI i)), (2, .int (nI l)), (3, .int (nI n)), (5, .int (nI e))]) rfl ?_
        refine q_iincN (c := 1) dX9_sets_41 rfl (by decide) rfl (ls' := [(5, .int (nI (e + 1))), (4, .int (bi (anU q l n e || stA q l e n))), (0, .ref 58), (1, .int (nI i)), (2, .int (nI l)), (3, .int (nI n))]) rfl ?_
        refine q_goto (tgt := 6) dX9_sets_44 (by decide) ?_
        refine q_pk [2, 3, 4, 5, 1, 0] (ls' := [(0, .ref 58), (1, .int (nI i)), (2, .int (nI l)), (3, .int (nI n)), (4, .int (bi (anU q l n e || stA q l e n))), (5, .int (nI (e + 1)))]) rfl ?_
        exact hI
      · skip
        refine q_aload_n dX9_sets_22 rfl rfl rfl ?_
        refine q_iload_n dX9_sets_23 rfl rfl ?_
        refine q_iload_n dX9_sets_24 rfl rfl ?_
        refine q_iload dX9_sets_25 rfl ?_
        refine q_iload_n dX9_sets_27 rfl rfl ?_
        refine q_callV (As := [.int (nI i), .int (nI l), .int (nI e), .int (nI n)]) (rest := []) dX9_sets_28 vX9_382 (ty_c hS (by decide) rfl) ⟨by decide, rfl⟩ (z9_isSet hS hi hr hk hl (by omega) hn) rfl rfl (Nat.le_of_ble_eq_true rfl) (by omega) (by omega) (by omega) (k_p ?_)
        refine q_if_eqB (tgt := 38) dX9_sets_31 (by decide) (fun c31 => ?_) (fun c31 => ?_)
        · skip
          refine q_iconst (v := nI 0) dX9_sets_38 rfl ?_
          refine q_top (y := bi (anU q l n e || stA q l e n)) (by first | (rw [c19]; rfl) | (rw [c19, c31]; rfl)) ?_
          refine q_istore dX9_sets_39 (by decide) (ls' := [(4, .int (bi (anU q l n e || stA q l e n))), (0, .ref 58), (1, .int (nI i)), (2, .int (nI l)), (3, .int (nI n)), (5, .int (nI e))]) rfl ?_
          refine q_iincN (c := 1) dX9_sets_41 rfl (by decide) rfl (ls' := [(5, .int (nI (e + 1))), (4, .int (bi (anU q l n e || stA q l e n))), (0, .ref 58), (1, .int (nI i)), (2, .int (nI l)), (3, .int (nI n))]) rfl ?_
          refine q_goto (tgt := 6) dX9_sets_44 (by decide) ?_
          refine q_pk [2, 3, 4, 5, 1, 0] (ls' := [(0, .ref 58), (1, .int (nI i)), (2, .int (nI l)), (3, .int (nI n)), (4, .int (bi (anU q l n e || stA q l e n))), (5, .int (nI (e + 1)))]) rfl ?_
          exact hI
        · skip
          refine q_iconst (v := nI 1) dX9_sets_34 rfl ?_
          refine q_goto (tgt := 39) dX9_sets_35 (by decide) ?_
          refine q_top (y := bi (anU q l n e || stA q l e n)) (by first | (rw [c19]; rfl) | (rw [c19, c31]; rfl)) ?_
          refine q_istore dX9_sets_39 (by decide) (ls' := [(4, .int (bi (anU q l n e || stA q l e n))), (0, .ref 58), (1, .int (nI i)), (2, .int (nI l)), (3, .int (nI n)), (5, .int (nI e))]) rfl ?_
          refine q_iincN (c := 1) dX9_sets_41 rfl (by decide) rfl (ls' := [(5, .int (nI (e + 1))), (4, .int (bi (anU q l n e || stA q l e n))), (0, .ref 58), (1, .int (nI i)), (2, .int (nI l)), (3, .int (nI n))]) rfl ?_
          refine q_goto (tgt := 6) dX9_sets_44 (by decide) ?_
          refine q_pk [2, 3, 4, 5, 1, 0] (ls' := [(0, .ref 58), (1, .int (nI i)), (2, .int (nI l)), (3, .int (nI n)), (4, .int (bi (anU q l n e || stA q l e n))), (5, .int (nI (e + 1)))]) rfl ?_
          exact hI
theorem z9_sets (hS : SK σ) (hi : i < 4) (hr : MR σ i q) (hk : MOK q) {l n : Nat} (hl : l < 3) (hn : n < NN q) : CT g mX9_sets 2 0 0 [.ref 58, .int (nI i), .int (nI l), .int (nI n)] σ (PQ σ (.int (bi (anS q l n)))) := by
  refine CT.of (by decide) (Nat.le_of_ble_eq_true rfl) ?_
  refine q_iconst (v := nI 0) dX9_sets_0 rfl ?_
  refine q_istore dX9_sets_1 (by decide) (ls' := [(4, .int (nI 0)), (0, .ref 58), (1, .int (nI i)), (2, .int (nI l)), (3, .int (nI n))]) rfl ?_
  refine q_iconst (v := nI 0) dX9_sets_3 rfl ?_
  refine q_top (y := bi (anU q l n 0)) rfl ?_
  refine q_istore dX9_sets_4 (by decide) (ls' := [(5, .int (bi (anU q l n 0))), (4, .int (nI 0)), (0, .ref 58), (1, .int (nI i)), (2, .int (nI l)), (3, .int (nI n))]) rfl ?_
  refine q_pk [2, 3, 4, 5, 1, 0] (ls' := [(0, .ref 58), (1, .int (nI i)), (2, .int (nI l)), (3, .int (nI n)), (4, .int (nI 0)), (5, .int (bi (anU q l n 0)))]) rfl ?_
  exact y9_st6 hS hi hr hk hl hn (psM q).length 0 (by omega)
theorem y9_ss3 (hS0 : SK σ0) (hi : i < 4) (hr0 : MR σ0 i q) (hk : MOK q) {l n : Nat} (hl : l < 3) (hn : n < NN q) : ∀ (f e : Nat) (W : List Nat) (σ : HS), e + f = (psM q).length → FR9 txq σ0 σ → TXm σ W → W.length + (seT q l n f e).length + 11 ≤ 60000 → WA g mX9_saySets 5 0 0 (ZM g (TwQ σ0 (W ++ seT q l n f e)) 0 0) 0 0 3 [(0, .ref 58), (1, .int (nI i)), (2, .int (nI l)), (3, .int (nI n)), (4, .int (nI e))] [] σ := by
  have hN := NN_le hk.1
  have h32 := hk.2.1.2.2.2.1
  intro f
  induction f with
  | zero =>
    intro e W σ he h1 hW hl9
    have hS := SK.fq h1 hS0
    have r64 := (hr0.tx hk h1).1.2.2.2.1
    have eT : W ++ seT q l n 0 e = W := List.append_nil W
    rw [eT]
    refine q_iload dX9_saySets_3 rfl ?_
    refine q_aload_n dX9_saySets_5 rfl rfl rfl ?_
    refine q_getr (r := 64) dX9_saySets_6 fX9_49 rfl (ty_c hS (by decide) rfl) (hS.2 58 12 64 rfl) ?_
    refine q_iload_n dX9_saySets_9 rfl rfl ?_
    refine q_iald (x := nI ((psM q).length)) (j := i) dX9_saySets_10 (ty_c hS (by decide) rfl) (ix_n (by omega) (by omega)) r64 ?_
    refine q_icmp_geN (tgt := 60) dX9_saySets_11 (by decide) (by omega) (by omega) (fun c11 => ?_) (fun c11 => ?_)
    · skip
      refine q_return dX9_saySets_60 rfl (by omega) (by omega) ?_
      exact ⟨rfl, h1, hW⟩
    · exact absurd c11 (by omega)
  | succ f ih =>
    intro e W σ he h1 hW hl9
    have hS := SK.fq h1 hS0
    have hr := hr0.tx hk h1
    have r64 := hr.1.2.2.2.1
    have hx := sm_w hk.2.1 (e := e) (by omega)
    by_cases hst : stA q l e n = true
    · have eT : seT q l n (f + 1) e = slT q e ++ seT q l n f (e + 1) := by
        conv => lhs; unfold seT
        rw [if_pos hst]
      rw [eT] at hl9 ⊢
      unfold slT at hl9 ⊢
      have hL := hl9
      simp only [sx6, sx7, sx8, sx9, sx10, sx11, sx12, sx13, sx14, sx15, sx16, List.length_append, List.length_cons, List.length_nil] at hL
      refine q_iload dX9_saySets_3 rfl ?_
      refine q_aload_n dX9_saySets_5 rfl rfl rfl ?_
      refine q_getr (r := 64) dX9_saySets_6 fX9_49 rfl (ty_c hS (by decide) rfl) (hS.2 58 12 64 rfl) ?_
      refine q_iload_n dX9_saySets_9 rfl rfl ?_
      refine q_iald (x := nI ((psM q).length)) (j := i) dX9_saySets_10 (ty_c hS (by decide) rfl) (ix_n (by omega) (by omega)) r64 ?_
      refine q_icmp_geN (tgt := 60) dX9_saySets_11 (by decide) (by omega) (by omega) (fun c11 => ?_) (fun c11 => ?_)
      · exact absurd c11 (by omega)
      · skip
        refine q_aload_n dX9_saySets_14 rfl rfl rfl ?_
        refine q_iload_n dX9_saySets_15 rfl rfl ?_
        refine q_iload_n dX9_saySets_16 rfl rfl ?_
        refine q_iload dX9_saySets_17 rfl ?_
        refine q_iload_n dX9_saySets_19 rfl rfl ?_
        refine q_callV (As := [.int (nI i), .int (nI l), .int (nI e), .int (nI n)]) (rest := []) dX9_saySets_20 vX9_382 (ty_c hS (by decide) rfl) ⟨by decide, rfl⟩ (z9_isSet hS hi hr hk hl (by omega) hn) rfl rfl (Nat.le_of_ble_eq_true rfl) (by omega) (by omega) (by omega) (k_p ?_)
        refine q_if_neB (tgt := 29) dX9_saySets_23 (by decide) (fun c23 => ?_) (fun c23 => ?_)
        · skip
          refine q_aload_n dX9_saySets_29 rfl rfl rfl ?_
          refine q_callV (As := []) (rest := []) dX9_saySets_30 vX9_432 (ty_c hS (by decide) rfl) ⟨by decide, rfl⟩ (z9_begin hS hW (by first | omega | (simp only [sx6, sx7, sx8, sx9, sx10, sx11, sx12, sx13, sx14, sx15, sx16, List.length_append, List.length_cons, List.length_nil]; omega))) rfl rfl (Nat.le_of_ble_eq_true rfl) (by omega) (by omega) (by omega) (k_v (fun s30 q30 => ?_))
          have f30 := (h1).tr q30.1
          have zS30 : SK s30 := (SK.fq f30 hS0)
          refine q_aload_n dX9_saySets_33 rfl rfl rfl ?_
          refine q_iload dX9_saySets_34 rfl ?_
          refine q_callV (As := [.int (nI e)]) (rest := []) dX9_saySets_36 vX9_435 (ty_c zS30 (by decide) rfl) ⟨by decide, rfl⟩ (z9_sayT zS30 q30.2 (b := e) (by omega) (by first | omega | (simp only [sx6, sx7, sx8, sx9, sx10, sx11, sx12, sx13, sx14, sx15, sx16, List.length_append, List.length_cons, List.length_nil]; omega))) rfl rfl (Nat.le_of_ble_eq_true rfl) (by omega) (by omega) (by omega) (k_v (fun s36 q36 => ?_))
          have f36 := (f30).tr q36.1
          have zS36 : SK s36 := (SK.fq f36 hS0)
          refine q_aload_n dX9_saySets_39 rfl rfl rfl ?_
          refine q_callV (As := []) (rest := []) dX9_saySets_40 vX9_438 (ty_c zS36 (by decide) rfl) ⟨by decide, rfl⟩ (z9_isT zS36 q36.2 (by first | omega | (simp only [sx6, sx7, sx8, sx9, sx10, sx11, sx12, sx13, sx14, sx15, sx16, List.length_append, List.length_cons, List.length_nil]; omega))) rfl rfl (Nat.le_of_ble_eq_true rfl) (by omega) (by omega) (by omega) (k_v (fun s40 q40 => ?_))
          have f40 := (f36).tr q40.1
          have zS40 : SK s40 := (SK.fq f40 hS0)
          refine q_aload_n dX9_saySets_43 rfl rfl rfl ?_
          refine q_iload_n dX9_saySets_44 rfl rfl ?_
          refine q_iload dX9_saySets_45 rfl ?_
          refine q_callV (As := [.int (nI i), .int (nI e)]) (rest := []) dX9_saySets_47 vX9_440 (ty_c zS40 (by decide) rfl) ⟨by decide, rfl⟩ (z9_saySum zS40 q40.2 hi (by omega) (SMm.tx f40 (hr0.1.2.2.2.2.2.2 e (by omega))) hx (by first | omega | (simp only [sx6, sx7, sx8, sx9, sx10, sx11, sx12, sx13, sx14, sx15, sx16, List.length_append, List.length_cons, List.length_nil]; omega))) rfl rfl (Nat.le_of_ble_eq_true rfl) (by omega) (by omega) (by omega) (k_v (fun s47 q47 => ?_))
          have f47 := (f40).tr q47.1
          have zS47 : SK s47 := (SK.fq f47 hS0)
          refine q_aload_n dX9_saySets_50 rfl rfl rfl ?_
          refine q_callV (As := []) (rest := []) dX9_saySets_51 vX9_443 (ty_c zS47 (by decide) rfl) ⟨by decide, rfl⟩ (z9_close zS47 q47.2 (by first | omega | (simp only [sx6, sx7, sx8, sx9, sx10, sx11, sx12, sx13, sx14, sx15, sx16, List.length_append, List.length_cons, List.length_nil]; omega))) rfl rfl (Nat.le_of_ble_eq_true rfl) (by omega) (by omega) (by omega) (k_v (fun s51 q51 => ?_))
          have f51 := (f47).tr q51.1
          have zS51 : SK s51 := (SK.fq f51 hS0)
          refine q_iincN (c := 1) dX9_saySets_54 rfl (by decide) rfl (ls' := [(4, .int (nI (e + 1))), (0, .ref 58), (1, .int (nI i)), (2, .int (nI l)), (3, .int (nI n))]) rfl ?_
          refine q_goto (tgt := 3) dX9_saySets_57 (by decide) ?_
          refine q_pk [1, 2, 3, 4, 0] (ls' := [(0, .ref 58), (1, .int (nI i)), (2, .int (nI l)), (3, .int (nI n)), (4, .int (nI (e + 1)))]) rfl ?_
          have hI := ih (e + 1) _ s51 (by omega) f51 q51.2 (by simp only [sx6, sx7, sx8, sx9, sx10, sx11, sx12, sx13, sx14, sx15, sx16, List.length_append, List.length_cons, List.length_nil]; omega)
          have eA : W ++ ((stX 7 ++ 116 :: numT e ++ stX 8 ++ smT (sm q e) ++ stX 11) ++ seT q l n f (e + 1)) = (((((W ++ stX 7) ++ 116 :: numT e) ++ stX 8) ++ smT (sm q e)) ++ stX 11) ++ seT q l n f (e + 1) := by simp only [List.append_assoc, List.cons_append]
          rw [eA]
          exact hI
        · exact absurd hst (by rw [c23]; decide)

    · have eT : seT q l n (f + 1) e = seT q l n f (e + 1) := by
        conv => lhs; unfold seT
        rw [if_neg hst]; rfl
      rw [eT] at hl9 ⊢
      refine q_iload dX9_saySets_3 rfl ?_
      refine q_aload_n dX9_saySets_5 rfl rfl rfl ?_
      refine q_getr (r := 64) dX9_saySets_6 fX9_49 rfl (ty_c hS (by decide) rfl) (hS.2 58 12 64 rfl) ?_
      refine q_iload_n dX9_saySets_9 rfl rfl ?_
      refine q_iald (x := nI ((psM q).length)) (j := i) dX9_saySets_10 (ty_c hS (by decide) rfl) (ix_n (by omega) (by omega)) r64 ?_
      refine q_icmp_geN (tgt := 60) dX9_saySets_11 (by decide) (by omega) (by omega) (fun c11 => ?_) (fun c11 => ?_)
      · exact absurd c11 (by omega)
      · skip
        refine q_aload_n dX9_saySets_14 rfl rfl rfl ?_
        refine q_iload_n dX9_saySets_15 rfl rfl ?_
        refine q_iload_n dX9_saySets_16 rfl rfl ?_
        refine q_iload dX9_saySets_17 rfl ?_
        refine q_iload_n dX9_saySets_19 rfl rfl ?_
        refine q_callV (As := [.int (nI i), .int (nI l), .int (nI e), .int (nI n)]) (rest := []) dX9_saySets_20 vX9_382 (ty_c hS (by decide) rfl) ⟨by decide, rfl⟩ (z9_isSet hS hi hr hk hl (by omega) hn) rfl rfl (Nat.le_of_ble_eq_true rfl) (by omega) (by omega) (by omega) (k_p ?_)
        refine q_if_neB (tgt := 29) dX9_saySets_23 (by decide) (fun c23 => ?_) (fun c23 => ?_)
        · exact absurd c23 hst
        · skip
          refine q_goto (tgt := 54) dX9_saySets_26 (by decide) ?_
          refine q_iincN (c := 1) dX9_saySets_54 rfl (by decide) rfl (ls' := [(4, .int (nI (e + 1))), (0, .ref 58), (1, .int (nI i)), (2, .int (nI l)), (3, .int (nI n))]) rfl ?_
          refine q_goto (tgt := 3) dX9_saySets_57 (by decide) ?_
          refine q_pk [1, 2, 3, 4, 0] (ls' := [(0, .ref 58), (1, .int (nI i)), (2, .int (nI l)), (3, .int (nI n)), (4, .int (nI (e + 1)))]) rfl ?_
          exact ih (e + 1) W _ (by omega) h1 hW hl9
theorem z9_saySets (hS : SK σ) (hi : i < 4) (hr : MR σ i q) (hk : MOK q) {l n : Nat} (hl : l < 3) (hn : n < NN q) (hW : TXm σ W) (hl9 : W.length + (seT q l n (psM q).length 0).length + 11 ≤ 60000) : CT g mX9_saySets 5 0 0 [.ref 58, .int (nI i), .int (nI l), .int (nI n)] σ (TwQ σ (W ++ seT q l n (psM q).length 0)) := by
  refine CT.of (by decide) (Nat.le_of_ble_eq_true rfl) ?_
  refine q_iconst (v := nI 0) dX9_saySets_0 rfl ?_
  refine q_istore dX9_saySets_1 (by decide) (ls' := [(4, .int (nI 0)), (0, .ref 58), (1, .int (nI i)), (2, .int (nI l)), (3, .int (nI n))]) rfl ?_
  refine q_pk [1, 2, 3, 4, 0] (ls' := [(0, .ref 58), (1, .int (nI i)), (2, .int (nI l)), (3, .int (nI n)), (4, .int (nI 0))]) rfl ?_
  exact y9_ss3 hS hi hr hk hl hn (psM q).length 0 W σ (by omega) FR9.rf hW hl9
end MST
