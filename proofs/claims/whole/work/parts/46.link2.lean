/-! The class: NODES are linked (2). -/
theorem y2_link116 {g : GG} {σ σ0 : HS} {b : Nat} (hb : RB σ b) {q : PS} (hc : BC q) (hw : WFs q) (hnb : NB q) {n t0 t1 : Nat} (hn : n < (psS q).length) (h5 : rK (rr q n) = 5) (hw0 : wr q 0 n = some t0) (hw1 : wr q 1 n = some t1) (h : LKg σ b q n ((XL q n).length + nW q n (some t0)) (oW (ld q 0 n)) (-1)) (hf : LF b σ0 σ) : WA g mX2_linkNode 3 0 0 (ZM g (fun r σ' => r = none ∧ LF b σ0 σ' ∧ LKg σ' b q (n + 1) (XL q (n + 1)).length (-1) (-1)) 0 0) 0 0 116 [(0, .ref b), (1, .int (nI n)), (2, .int (nI 0))] [] σ := by
  refine q_iincN (c := 1) dX2_linkNode_116 rfl (by decide) rfl (ls' := [(2, .int (nI 1)), (0, .ref b), (1, .int (nI n))]) rfl ?_
  refine q_goto (tgt := 45) dX2_linkNode_119 (by decide) ?_
  refine q_pk [1, 2, 0] (ls' := [(0, .ref b), (1, .int (nI n)), (2, .int (nI 1))]) rfl ?_
  exact y2_link1 hb hc hw hnb hn h5 hw0 hw1 h hf
theorem z2_linkNode {g : GG} {σ : HS} {b : Nat} (hb : RB σ b) {q : PS} (hc : BC q) (hw : WFs q) (hnb : NB q) {n : Nat} (hn : n < (psS q).length) (h : LKg σ b q n (XL q n).length (-1) (-1)) : CT g mX2_linkNode 3 0 0 [.ref b, .int (nI n)] σ (fun r σ' => r = none ∧ LF b σ σ' ∧ LKg σ' b q (n + 1) (XL q (n + 1)).length (-1) (-1)) := by
  have hb14 : b = 14 ∨ 99 ≤ b := by rcases hb.1 with h | ⟨j, h⟩ <;> omega
  have hS160 := hc.2.2.1
  have h40 := hc.2.1
  have hL := LKg_E hc hw h
  obtain ⟨h1, h2, h3, h4, h5', h6, h7, h8, h9, h10, h11⟩ := id h
  obtain ⟨r1, r2, r3, r4, r5, r6, r7, r8⟩ := h8 n (by omega)
  have eg : rg q n = rr q n := if_pos hn
  rw [eg] at r1 r7 r8
  obtain ⟨s1, s2, s3, s4, s5, s6, s7⟩ := st_w hw hn
  rw [s2] at r7
  rw [s3] at r8
  have hX := XL_le hc (n := n) (by omega)
  have ex : ∀ {k}, xs q n = [] → k = (XL q n).length → k = (XL q (n + 1)).length := fun e e2 => by
    rw [e2]; show _ = (XL q n ++ xs q n).length; rw [e, List.append_nil]
  by_cases k4 : rK (rr q n) < 4
  · have e0 : ld q 0 n = some (n + 1) := by unfold ld; rw [if_pos hn, if_pos k4, if_pos rfl]
    have e1 : ld q 1 n = none := by unfold ld; rw [if_pos hn, if_pos k4, if_neg (by decide)]
    refine CT.of (by decide) (Nat.le_of_ble_eq_true rfl) ?_
    refine q_aload_n dX2_linkNode_0 rfl rfl rfl ?_
    refine q_getr (r := b + 1) dX2_linkNode_1 fX2_9 rfl (ty_r hb 0 rfl) (hb.2.2 0 0 1 rfl) ?_
    refine q_iload_n dX2_linkNode_4 rfl rfl ?_
    refine q_iald (x := nI (rK (rr q n))) (j := n) dX2_linkNode_5 (ty_r hb 1 rfl) (ix_n (by omega) (by omega)) r1 ?_
    refine q_iconst (v := nI 4) dX2_linkNode_6 rfl ?_
    refine q_icmp_eqN (tgt := 43) dX2_linkNode_7 (by decide) (by omega) (by omega) (fun c7 => ?_) (fun c7 => ?_)
    · exact absurd c7 (by omega)
    · skip
      refine q_aload_n dX2_linkNode_10 rfl rfl rfl ?_
      refine q_getr (r := b + 1) dX2_linkNode_11 fX2_9 rfl (ty_r hb 0 rfl) (hb.2.2 0 0 1 rfl) ?_
      refine q_iload_n dX2_linkNode_14 rfl rfl ?_
      refine q_iald (x := nI (rK (rr q n))) (j := n) dX2_linkNode_15 (ty_r hb 1 rfl) (ix_n (by omega) (by omega)) r1 ?_
      refine q_iconst (v := nI 5) dX2_linkNode_16 rfl ?_
      refine q_icmp_eqN (tgt := 43) dX2_linkNode_17 (by decide) (by omega) (by omega) (fun c17 => ?_) (fun c17 => ?_)
      · exact absurd c17 (by omega)
      · skip
        refine q_aload_n dX2_linkNode_20 rfl rfl rfl ?_
        refine q_getr (r := b + 1) dX2_linkNode_21 fX2_9 rfl (ty_r hb 0 rfl) (hb.2.2 0 0 1 rfl) ?_
        refine q_iload_n dX2_linkNode_24 rfl rfl ?_
        refine q_iald (x := nI (rK (rr q n))) (j := n) dX2_linkNode_25 (ty_r hb 1 rfl) (ix_n (by omega) (by omega)) r1 ?_
        refine q_bipush (v := nI 6) dX2_linkNode_26 rfl ?_
        refine q_icmp_eqN (tgt := 43) dX2_linkNode_28 (by decide) (by omega) (by omega) (fun c28 => ?_) (fun c28 => ?_)
        · exact absurd c28 (by omega)
        · skip
          refine q_aload_n dX2_linkNode_31 rfl rfl rfl ?_
          refine q_getr (r := b + 11) dX2_linkNode_32 fX2_32 rfl (ty_r hb 0 rfl) (hb.2.2 0 6 11 rfl) ?_
          refine q_iconst (v := nI 0) dX2_linkNode_35 rfl ?_
          refine q_aald (r := b + 12) (j := 0) dX2_linkNode_36 (ty_r hb 11 rfl) (Or.inl rfl) (ix_n (by omega) (by omega)) (hb.2.2 11 0 12 rfl) ?_
          refine q_iload_n dX2_linkNode_37 rfl rfl ?_
          refine q_iload_n dX2_linkNode_38 rfl rfl ?_
          refine q_iconst (v := nI 1) dX2_linkNode_39 rfl ?_
          refine q_iaddN dX2_linkNode_40 ?_
          refine q_iast (j := n) dX2_linkNode_41 (ty_r hb 12 rfl) (ix_n (by omega) (by omega)) ?_
          refine q_return dX2_linkNode_42 rfl (by omega) (by omega) ?_
          refine ⟨rfl, LF.rf.uI (by omega), ?_⟩
          rw [← ex (xs_0 k4) rfl]
          refine LKg_end ?_ hn
          have hk := LKg_w0 (v := nI (n + 1)) h hn
          rw [e0, e1]
          exact hk
  · by_cases k6 : rK (rr q n) = 6
    · have x0 : xs q n = [] := by unfold xs; rw [if_neg (by omega)]
      rw [(s7 k6).1] at r7
      rw [(s7 k6).2] at r8
      have e0 : ld q 0 n = none := by unfold ld; rw [if_pos hn, if_neg k4, if_pos rfl, (s7 k6).1]; rfl
      have e1 : ld q 1 n = none := by unfold ld; rw [if_pos hn, if_neg k4, if_neg (by decide), (s7 k6).2]; rfl
      rw [k6] at r1
      refine CT.of (by decide) (Nat.le_of_ble_eq_true rfl) ?_
      refine q_aload_n dX2_linkNode_0 rfl rfl rfl ?_
      refine q_getr (r := b + 1) dX2_linkNode_1 fX2_9 rfl (ty_r hb 0 rfl) (hb.2.2 0 0 1 rfl) ?_
      refine q_iload_n dX2_linkNode_4 rfl rfl ?_
      refine q_iald (x := nI 6) (j := n) dX2_linkNode_5 (ty_r hb 1 rfl) (ix_n (by omega) (by omega)) r1 ?_
      refine q_iconst (v := nI 4) dX2_linkNode_6 rfl ?_
      refine q_icmp_eqN (tgt := 43) dX2_linkNode_7 (by decide) (by omega) (by omega) (fun h => absurd h (by decide)) (fun _ => ?_)
      refine q_aload_n dX2_linkNode_10 rfl rfl rfl ?_
      refine q_getr (r := b + 1) dX2_linkNode_11 fX2_9 rfl (ty_r hb 0 rfl) (hb.2.2 0 0 1 rfl) ?_
      refine q_iload_n dX2_linkNode_14 rfl rfl ?_
      refine q_iald (x := nI 6) (j := n) dX2_linkNode_15 (ty_r hb 1 rfl) (ix_n (by omega) (by omega)) r1 ?_
      refine q_iconst (v := nI 5) dX2_linkNode_16 rfl ?_
      refine q_icmp_eqN (tgt := 43) dX2_linkNode_17 (by decide) (by omega) (by omega) (fun h => absurd h (by decide)) (fun _ => ?_)
      refine q_aload_n dX2_linkNode_20 rfl rfl rfl ?_
      refine q_getr (r := b + 1) dX2_linkNode_21 fX2_9 rfl (ty_r hb 0 rfl) (hb.2.2 0 0 1 rfl) ?_
      refine q_iload_n dX2_linkNode_24 rfl rfl ?_
      refine q_iald (x := nI 6) (j := n) dX2_linkNode_25 (ty_r hb 1 rfl) (ix_n (by omega) (by omega)) r1 ?_
      refine q_bipush (v := nI 6) dX2_linkNode_26 rfl ?_
      refine q_icmp_eqN (tgt := 43) dX2_linkNode_28 (by decide) (by omega) (by omega) (fun _ => ?_) (fun h => absurd h (by decide))
      refine q_iconst (v := nI 0) dX2_linkNode_43 rfl ?_
      refine q_istore_n dX2_linkNode_44 rfl (by decide) (ls' := [(2, .int (nI 0)), (0, .ref b), (1, .int (nI n))]) rfl ?_
      refine q_iload_n dX2_linkNode_45 rfl rfl ?_
      refine q_iconst (v := nI 2) dX2_linkNode_46 rfl ?_
      refine q_icmp_geN (tgt := 122) dX2_linkNode_47 (by decide) (by omega) (by omega) (fun h => absurd h (by decide)) (fun _ => ?_)
      refine q_aload_n dX2_linkNode_50 rfl rfl rfl ?_
      refine q_getr (r := b + 8) dX2_linkNode_51 fX2_29 rfl (ty_r hb 0 rfl) (hb.2.2 0 5 8 rfl) ?_
      refine q_iload_n dX2_linkNode_54 rfl rfl ?_
      refine q_aald (r := b + 9) (j := 0) dX2_linkNode_55 (ty_r hb 8 rfl) (Or.inl rfl) (ix_n (by omega) (by omega)) (hb.2.2 8 0 9 rfl) ?_
      refine q_iload_n dX2_linkNode_56 rfl rfl ?_
      refine q_iald (x := (-1)) (j := n) dX2_linkNode_57 (ty_r hb 9 rfl) (ix_n (by omega) (by omega)) r7 ?_
      refine q_istore_n dX2_linkNode_58 rfl (by decide) (ls' := [(3, .int (-1)), (2, .int (nI 0)), (0, .ref b), (1, .int (nI n))]) rfl ?_
      refine q_iload_n dX2_linkNode_59 rfl rfl ?_
      refine q_if_lt1 (tgt := 98) dX2_linkNode_60 (by decide) (by decide) ?_
      refine q_iload_n dX2_linkNode_98 rfl rfl ?_
      refine q_if_lt1 (tgt := 116) dX2_linkNode_99 (by decide) (by decide) ?_
      refine q_iincN (c := 1) dX2_linkNode_116 rfl (by decide) rfl (ls' := [(2, .int (nI 1)), (3, .int (-1)), (0, .ref b), (1, .int (nI n))]) rfl ?_
      refine q_goto (tgt := 45) dX2_linkNode_119 (by decide) ?_
      refine q_iload_n dX2_linkNode_45 rfl rfl ?_
      refine q_iconst (v := nI 2) dX2_linkNode_46 rfl ?_
      refine q_icmp_geN (tgt := 122) dX2_linkNode_47 (by decide) (by omega) (by omega) (fun h => absurd h (by decide)) (fun _ => ?_)
      refine q_aload_n dX2_linkNode_50 rfl rfl rfl ?_
      refine q_getr (r := b + 8) dX2_linkNode_51 fX2_29 rfl (ty_r hb 0 rfl) (hb.2.2 0 5 8 rfl) ?_
      refine q_iload_n dX2_linkNode_54 rfl rfl ?_
      refine q_aald (r := b + 10) (j := 1) dX2_linkNode_55 (ty_r hb 8 rfl) (Or.inl rfl) (ix_n (by omega) (by omega)) (hb.2.2 8 1 10 rfl) ?_
      refine q_iload_n dX2_linkNode_56 rfl rfl ?_
      refine q_iald (x := (-1)) (j := n) dX2_linkNode_57 (ty_r hb 10 rfl) (ix_n (by omega) (by omega)) r8 ?_
      refine q_istore_n dX2_linkNode_58 rfl (by decide) (ls' := [(3, .int (-1)), (2, .int (nI 1)), (0, .ref b), (1, .int (nI n))]) rfl ?_
      refine q_iload_n dX2_linkNode_59 rfl rfl ?_
      refine q_if_lt1 (tgt := 98) dX2_linkNode_60 (by decide) (by decide) ?_
      refine q_iload_n dX2_linkNode_98 rfl rfl ?_
      refine q_if_lt1 (tgt := 116) dX2_linkNode_99 (by decide) (by decide) ?_
      refine q_iincN (c := 1) dX2_linkNode_116 rfl (by decide) rfl (ls' := [(2, .int (nI 2)), (3, .int (-1)), (0, .ref b), (1, .int (nI n))]) rfl ?_
      refine q_goto (tgt := 45) dX2_linkNode_119 (by decide) ?_
      refine q_iload_n dX2_linkNode_45 rfl rfl ?_
      refine q_iconst (v := nI 2) dX2_linkNode_46 rfl ?_
      refine q_icmp_geN (tgt := 122) dX2_linkNode_47 (by decide) (by omega) (by omega) (fun _ => ?_) (fun h => absurd h (by decide))
      refine q_return dX2_linkNode_122 rfl (by omega) (by omega) ?_
      refine ⟨rfl, LF.rf, ?_⟩
      rw [← ex x0 rfl]
      refine LKg_end ?_ hn
      rw [e0, e1]
      exact h
    · obtain ⟨j, j1, j2, j3⟩ := st_end hc hw hnb hn (by omega)
      by_cases k5 : rK (rr q n) = 5
      · obtain ⟨t0, w0⟩ := Option.isSome_iff_exists.mp (s6 k5).1
        obtain ⟨t1, w1⟩ := Option.isSome_iff_exists.mp (s6 k5).2
        have ht := j3 0 t0 w0
        rw [w0] at r7
        rw [k5] at r1
        have hf1 := h7 t0 (by omega)
        have el : ld q 0 n = ldW q n 0 (some t0) := by unfold ld; rw [if_pos hn, if_neg k4, if_pos rfl, w0]
        have hcw := cntW_le q t0 (psF q).length
        have hX1 := XL_le hc (n := n + 1) (by omega)
        by_cases hm : 1 < cntW q t0 (psF q).length
        · have hmt : many q t0 = true := decide_eq_true hm
          have e1 : nW q n (some t0) = 1 := if_pos hmt
          have hX2 : (XL q n).length + 1 ≤ 80 := by
            have : (XL q n ++ xs q n).length ≤ 80 := hX1
            rw [List.length_append, xs_5 k5 w0 w1, if_pos hmt, List.length_append] at this
            simp at this; omega
          have hg : (XL q (psS q).length).getD (XL q n).length 0 = t0 := by
            have := XL_get (q := q) (n := n) (i := 0) hn (by rw [xs_5 k5 w0 w1, if_pos hmt]; simp)
            rw [Nat.add_zero, xs_5 k5 w0 w1, if_pos hmt] at this
            exact this
          refine CT.of (by decide) (Nat.le_of_ble_eq_true rfl) ?_
          refine q_aload_n dX2_linkNode_0 rfl rfl rfl ?_
          refine q_getr (r := b + 1) dX2_linkNode_1 fX2_9 rfl (ty_r hb 0 rfl) (hb.2.2 0 0 1 rfl) ?_
          refine q_iload_n dX2_linkNode_4 rfl rfl ?_
          refine q_iald (x := nI 5) (j := n) dX2_linkNode_5 (ty_r hb 1 rfl) (ix_n (by omega) (by omega)) r1 ?_
          refine q_iconst (v := nI 4) dX2_linkNode_6 rfl ?_
          refine q_icmp_eqN (tgt := 43) dX2_linkNode_7 (by decide) (by omega) (by omega) (fun h => absurd h (by decide)) (fun _ => ?_)
          refine q_aload_n dX2_linkNode_10 rfl rfl rfl ?_
          refine q_getr (r := b + 1) dX2_linkNode_11 fX2_9 rfl (ty_r hb 0 rfl) (hb.2.2 0 0 1 rfl) ?_
          refine q_iload_n dX2_linkNode_14 rfl rfl ?_
          refine q_iald (x := nI 5) (j := n) dX2_linkNode_15 (ty_r hb 1 rfl) (ix_n (by omega) (by omega)) r1 ?_
          refine q_iconst (v := nI 5) dX2_linkNode_16 rfl ?_
          refine q_icmp_eqN (tgt := 43) dX2_linkNode_17 (by decide) (by omega) (by omega) (fun _ => ?_) (fun h => absurd h (by decide))
          refine q_iconst (v := nI 0) dX2_linkNode_43 rfl ?_
          refine q_istore_n dX2_linkNode_44 rfl (by decide) (ls' := [(2, .int (nI 0)), (0, .ref b), (1, .int (nI n))]) rfl ?_
          refine q_iload_n dX2_linkNode_45 rfl rfl ?_
          refine q_iconst (v := nI 2) dX2_linkNode_46 rfl ?_
          refine q_icmp_geN (tgt := 122) dX2_linkNode_47 (by decide) (by omega) (by omega) (fun h => absurd h (by decide)) (fun _ => ?_)
          refine q_aload_n dX2_linkNode_50 rfl rfl rfl ?_
          refine q_getr (r := b + 8) dX2_linkNode_51 fX2_29 rfl (ty_r hb 0 rfl) (hb.2.2 0 5 8 rfl) ?_
          refine q_iload_n dX2_linkNode_54 rfl rfl ?_
          refine q_aald (r := b + 9) (j := 0) dX2_linkNode_55 (ty_r hb 8 rfl) (Or.inl rfl) (ix_n (by omega) (by omega)) (hb.2.2 8 0 9 rfl) ?_
          refine q_iload_n dX2_linkNode_56 rfl rfl ?_
          refine q_iald (x := nI t0) (j := n) dX2_linkNode_57 (ty_r hb 9 rfl) (ix_n (by omega) (by omega)) r7 ?_
          refine q_istore_n dX2_linkNode_58 rfl (by decide) (ls' := [(3, .int (nI t0)), (2, .int (nI 0)), (0, .ref b), (1, .int (nI n))]) rfl ?_
          refine q_iload_n dX2_linkNode_59 rfl rfl ?_
          refine q_if_ltN (tgt := 98) dX2_linkNode_60 (by decide) (by omega) ?_
          refine q_aload_n dX2_linkNode_63 rfl rfl rfl ?_
          refine q_getr (r := b + 1) dX2_linkNode_64 fX2_9 rfl (ty_r hb 0 rfl) (hb.2.2 0 0 1 rfl) ?_
          refine q_iload_n dX2_linkNode_67 rfl rfl ?_
          refine q_iald (x := nI 5) (j := n) dX2_linkNode_68 (ty_r hb 1 rfl) (ix_n (by omega) (by omega)) r1 ?_
          refine q_iconst (v := nI 5) dX2_linkNode_69 rfl ?_
          refine q_icmp_neN (tgt := 98) dX2_linkNode_70 (by decide) (by omega) (by omega) (fun h => absurd h (by decide)) (fun _ => ?_)
          refine q_aload_n dX2_linkNode_73 rfl rfl rfl ?_
          refine q_iload_n dX2_linkNode_74 rfl rfl ?_
          refine q_callV (As := [.int (nI t0)]) (rest := []) dX2_linkNode_75 vX2_102 (ty_r hb 0 rfl) ⟨by decide, rfl⟩ (z2_ways hb h1 hL hc hw (by omega)) rfl rfl (Nat.le_of_ble_eq_true rfl) (by omega) (by omega) (by omega) (k_p ?_)
          refine q_iconst (v := nI 1) dX2_linkNode_78 rfl ?_
          refine q_icmp_leN (tgt := 98) dX2_linkNode_79 (by decide) (by omega) (by omega) (fun c79 => ?_) (fun c79 => ?_)
          · exact absurd c79 (by omega)
          · skip
            refine q_aload_n dX2_linkNode_82 rfl rfl rfl ?_
            refine q_getr (r := b + 11) dX2_linkNode_83 fX2_32 rfl (ty_r hb 0 rfl) (hb.2.2 0 6 11 rfl) ?_
            refine q_iload_n dX2_linkNode_86 rfl rfl ?_
            refine q_aald (r := b + 12) (j := 0) dX2_linkNode_87 (ty_r hb 11 rfl) (Or.inl rfl) (ix_n (by omega) (by omega)) (hb.2.2 11 0 12 rfl) ?_
            refine q_iload_n dX2_linkNode_88 rfl rfl ?_
            refine q_aload_n dX2_linkNode_89 rfl rfl rfl ?_
            refine q_iload_n dX2_linkNode_90 rfl rfl ?_
            refine q_callV (As := [.int (nI t0)]) (rest := [.int (nI n), .ref (b + 12)]) dX2_linkNode_91 vX2_106 (ty_r hb 0 rfl) ⟨by decide, rfl⟩ (z2_onWayV hb (by omega) h3 (by omega) hf1) rfl rfl (Nat.le_of_ble_eq_true rfl) (by omega) (by omega) (by omega) (k_w (fun s91 q91 => ?_))
            have hg2 := LKg_ow h hn hg q91
            have hb2 := RB.lf q91.1.lf hb
            refine q_iast (j := n) dX2_linkNode_94 (ty_r hb2 12 rfl) (ix_n (by omega) (by omega)) ?_
            refine q_goto (tgt := 116) dX2_linkNode_95 (by decide) ?_
            refine q_pk [2, 3, 1] (ls' := [(0, .ref b), (1, .int (nI n)), (2, .int (nI 0))]) rfl ?_
            have hk := LKg_w0 (v := nI ((psS q).length + (XL q n).length)) hg2 hn
            refine y2_link116 (RB.uI hb2) hc hw hnb hn k5 w0 w1 ?_ (q91.1.lf.uI (by omega))
            rw [e1, el, ldW_m k5 hmt]
            exact hk
        · have hmt : ¬ many q t0 = true := fun e => hm (of_decide_eq_true e)
          have e1 : nW q n (some t0) = 0 := if_neg hmt
          refine CT.of (by decide) (Nat.le_of_ble_eq_true rfl) ?_
          refine q_aload_n dX2_linkNode_0 rfl rfl rfl ?_
          refine q_getr (r := b + 1) dX2_linkNode_1 fX2_9 rfl (ty_r hb 0 rfl) (hb.2.2 0 0 1 rfl) ?_
          refine q_iload_n dX2_linkNode_4 rfl rfl ?_
          refine q_iald (x := nI 5) (j := n) dX2_linkNode_5 (ty_r hb 1 rfl) (ix_n (by omega) (by omega)) r1 ?_
          refine q_iconst (v := nI 4) dX2_linkNode_6 rfl ?_
          refine q_icmp_eqN (tgt := 43) dX2_linkNode_7 (by decide) (by omega) (by omega) (fun h => absurd h (by decide)) (fun _ => ?_)
          refine q_aload_n dX2_linkNode_10 rfl rfl rfl ?_
          refine q_getr (r := b + 1) dX2_linkNode_11 fX2_9 rfl (ty_r hb 0 rfl) (hb.2.2 0 0 1 rfl) ?_
          refine q_iload_n dX2_linkNode_14 rfl rfl ?_
          refine q_iald (x := nI 5) (j := n) dX2_linkNode_15 (ty_r hb 1 rfl) (ix_n (by omega) (by omega)) r1 ?_
          refine q_iconst (v := nI 5) dX2_linkNode_16 rfl ?_
          refine q_icmp_eqN (tgt := 43) dX2_linkNode_17 (by decide) (by omega) (by omega) (fun _ => ?_) (fun h => absurd h (by decide))
          refine q_iconst (v := nI 0) dX2_linkNode_43 rfl ?_
          refine q_istore_n dX2_linkNode_44 rfl (by decide) (ls' := [(2, .int (nI 0)), (0, .ref b), (1, .int (nI n))]) rfl ?_
          refine q_iload_n dX2_linkNode_45 rfl rfl ?_
          refine q_iconst (v := nI 2) dX2_linkNode_46 rfl ?_
          refine q_icmp_geN (tgt := 122) dX2_linkNode_47 (by decide) (by omega) (by omega) (fun h => absurd h (by decide)) (fun _ => ?_)
          refine q_aload_n dX2_linkNode_50 rfl rfl rfl ?_
          refine q_getr (r := b + 8) dX2_linkNode_51 fX2_29 rfl (ty_r hb 0 rfl) (hb.2.2 0 5 8 rfl) ?_
          refine q_iload_n dX2_linkNode_54 rfl rfl ?_
          refine q_aald (r := b + 9) (j := 0) dX2_linkNode_55 (ty_r hb 8 rfl) (Or.inl rfl) (ix_n (by omega) (by omega)) (hb.2.2 8 0 9 rfl) ?_
          refine q_iload_n dX2_linkNode_56 rfl rfl ?_
          refine q_iald (x := nI t0) (j := n) dX2_linkNode_57 (ty_r hb 9 rfl) (ix_n (by omega) (by omega)) r7 ?_
          refine q_istore_n dX2_linkNode_58 rfl (by decide) (ls' := [(3, .int (nI t0)), (2, .int (nI 0)), (0, .ref b), (1, .int (nI n))]) rfl ?_
          refine q_iload_n dX2_linkNode_59 rfl rfl ?_
          refine q_if_ltN (tgt := 98) dX2_linkNode_60 (by decide) (by omega) ?_
          refine q_aload_n dX2_linkNode_63 rfl rfl rfl ?_
          refine q_getr (r := b + 1) dX2_linkNode_64 fX2_9 rfl (ty_r hb 0 rfl) (hb.2.2 0 0 1 rfl) ?_
          refine q_iload_n dX2_linkNode_67 rfl rfl ?_
          refine q_iald (x := nI 5) (j := n) dX2_linkNode_68 (ty_r hb 1 rfl) (ix_n (by omega) (by omega)) r1 ?_
          refine q_iconst (v := nI 5) dX2_linkNode_69 rfl ?_
          refine q_icmp_neN (tgt := 98) dX2_linkNode_70 (by decide) (by omega) (by omega) (fun h => absurd h (by decide)) (fun _ => ?_)
          refine q_aload_n dX2_linkNode_73 rfl rfl rfl ?_
          refine q_iload_n dX2_linkNode_74 rfl rfl ?_
          refine q_callV (As := [.int (nI t0)]) (rest := []) dX2_linkNode_75 vX2_102 (ty_r hb 0 rfl) ⟨by decide, rfl⟩ (z2_ways hb h1 hL hc hw (by omega)) rfl rfl (Nat.le_of_ble_eq_true rfl) (by omega) (by omega) (by omega) (k_p ?_)
          refine q_iconst (v := nI 1) dX2_linkNode_78 rfl ?_
          refine q_icmp_leN (tgt := 98) dX2_linkNode_79 (by decide) (by omega) (by omega) (fun c79 => ?_) (fun c79 => ?_)
          · skip
            refine q_iload_n dX2_linkNode_98 rfl rfl ?_
            refine q_if_ltN (tgt := 116) dX2_linkNode_99 (by decide) (by omega) ?_
            refine q_aload_n dX2_linkNode_102 rfl rfl rfl ?_
            refine q_getr (r := b + 11) dX2_linkNode_103 fX2_32 rfl (ty_r hb 0 rfl) (hb.2.2 0 6 11 rfl) ?_
            refine q_iload_n dX2_linkNode_106 rfl rfl ?_
            refine q_aald (r := b + 12) (j := 0) dX2_linkNode_107 (ty_r hb 11 rfl) (Or.inl rfl) (ix_n (by omega) (by omega)) (hb.2.2 11 0 12 rfl) ?_
            refine q_iload_n dX2_linkNode_108 rfl rfl ?_
            refine q_aload_n dX2_linkNode_109 rfl rfl rfl ?_
            refine q_getr (r := b + 15) dX2_linkNode_110 fX2_38 rfl (ty_r hb 0 rfl) (hb.2.2 0 8 15 rfl) ?_
            refine q_iload_n dX2_linkNode_113 rfl rfl ?_
            refine q_iald (x := nI (nf q t0)) (j := t0) dX2_linkNode_114 (ty_r hb 15 rfl) (ix_n (by omega) (by omega)) hf1 ?_
            refine q_iast (j := n) dX2_linkNode_115 (ty_r hb 12 rfl) (ix_n (by omega) (by omega)) ?_
            refine q_pk [2, 3, 1] (ls' := [(0, .ref b), (1, .int (nI n)), (2, .int (nI 0))]) rfl ?_
            have hk := LKg_w0 (v := nI (nf q t0)) h hn
            refine y2_link116 (RB.uI hb) hc hw hnb hn k5 w0 w1 ?_ (LF.rf.uI (by omega))
            rw [e1, el, ldW_n hmt]
            exact hk
          · exact absurd c79 (by omega)
      · have k44 : rK (rr q n) = 4 := by omega
        obtain ⟨t0, w0⟩ := Option.isSome_iff_exists.mp (s5 k44).1
        have ht := j3 0 t0 w0
        rw [w0] at r7
        rw [(s5 k44).2] at r8
        have hf1 := h7 t0 (by omega)
        have x0 : xs q n = [] := by unfold xs; rw [if_neg (by omega)]
        have e0 : ld q 0 n = some (nf q t0) := by
          unfold ld; rw [if_pos hn, if_neg k4, if_pos rfl, w0]; exact if_neg fun z => k5 z.1
        have e1 : ld q 1 n = none := by unfold ld; rw [if_pos hn, if_neg k4, if_neg (by decide), (s5 k44).2]; rfl
        rw [k44] at r1
        refine CT.of (by decide) (Nat.le_of_ble_eq_true rfl) ?_
        refine q_aload_n dX2_linkNode_0 rfl rfl rfl ?_
        refine q_getr (r := b + 1) dX2_linkNode_1 fX2_9 rfl (ty_r hb 0 rfl) (hb.2.2 0 0 1 rfl) ?_
        refine q_iload_n dX2_linkNode_4 rfl rfl ?_
        refine q_iald (x := nI 4) (j := n) dX2_linkNode_5 (ty_r hb 1 rfl) (ix_n (by omega) (by omega)) r1 ?_
        refine q_iconst (v := nI 4) dX2_linkNode_6 rfl ?_
        refine q_icmp_eqN (tgt := 43) dX2_linkNode_7 (by decide) (by omega) (by omega) (fun _ => ?_) (fun h => absurd h (by decide))
        refine q_iconst (v := nI 0) dX2_linkNode_43 rfl ?_
        refine q_istore_n dX2_linkNode_44 rfl (by decide) (ls' := [(2, .int (nI 0)), (0, .ref b), (1, .int (nI n))]) rfl ?_
        refine q_iload_n dX2_linkNode_45 rfl rfl ?_
        refine q_iconst (v := nI 2) dX2_linkNode_46 rfl ?_
        refine q_icmp_geN (tgt := 122) dX2_linkNode_47 (by decide) (by omega) (by omega) (fun h => absurd h (by decide)) (fun _ => ?_)
        refine q_aload_n dX2_linkNode_50 rfl rfl rfl ?_
        refine q_getr (r := b + 8) dX2_linkNode_51 fX2_29 rfl (ty_r hb 0 rfl) (hb.2.2 0 5 8 rfl) ?_
        refine q_iload_n dX2_linkNode_54 rfl rfl ?_
        refine q_aald (r := b + 9) (j := 0) dX2_linkNode_55 (ty_r hb 8 rfl) (Or.inl rfl) (ix_n (by omega) (by omega)) (hb.2.2 8 0 9 rfl) ?_
        refine q_iload_n dX2_linkNode_56 rfl rfl ?_
        refine q_iald (x := nI t0) (j := n) dX2_linkNode_57 (ty_r hb 9 rfl) (ix_n (by omega) (by omega)) r7 ?_
        refine q_istore_n dX2_linkNode_58 rfl (by decide) (ls' := [(3, .int (nI t0)), (2, .int (nI 0)), (0, .ref b), (1, .int (nI n))]) rfl ?_
        refine q_iload_n dX2_linkNode_59 rfl rfl ?_
        refine q_if_ltN (tgt := 98) dX2_linkNode_60 (by decide) (by omega) ?_
        refine q_aload_n dX2_linkNode_63 rfl rfl rfl ?_
        refine q_getr (r := b + 1) dX2_linkNode_64 fX2_9 rfl (ty_r hb 0 rfl) (hb.2.2 0 0 1 rfl) ?_
        refine q_iload_n dX2_linkNode_67 rfl rfl ?_
        refine q_iald (x := nI 4) (j := n) dX2_linkNode_68 (ty_r hb 1 rfl) (ix_n (by omega) (by omega)) r1 ?_
        refine q_iconst (v := nI 5) dX2_linkNode_69 rfl ?_
        refine q_icmp_neN (tgt := 98) dX2_linkNode_70 (by decide) (by omega) (by omega) (fun _ => ?_) (fun h => absurd h (by decide))
        refine q_iload_n dX2_linkNode_98 rfl rfl ?_
        refine q_if_ltN (tgt := 116) dX2_linkNode_99 (by decide) (by omega) ?_
        refine q_aload_n dX2_linkNode_102 rfl rfl rfl ?_
        refine q_getr (r := b + 11) dX2_linkNode_103 fX2_32 rfl (ty_r hb 0 rfl) (hb.2.2 0 6 11 rfl) ?_
        refine q_iload_n dX2_linkNode_106 rfl rfl ?_
        refine q_aald (r := b + 12) (j := 0) dX2_linkNode_107 (ty_r hb 11 rfl) (Or.inl rfl) (ix_n (by omega) (by omega)) (hb.2.2 11 0 12 rfl) ?_
        refine q_iload_n dX2_linkNode_108 rfl rfl ?_
        refine q_aload_n dX2_linkNode_109 rfl rfl rfl ?_
        refine q_getr (r := b + 15) dX2_linkNode_110 fX2_38 rfl (ty_r hb 0 rfl) (hb.2.2 0 8 15 rfl) ?_
        refine q_iload_n dX2_linkNode_113 rfl rfl ?_
        refine q_iald (x := nI (nf q t0)) (j := t0) dX2_linkNode_114 (ty_r hb 15 rfl) (ix_n (by omega) (by omega)) hf1 ?_
        refine q_iast (j := n) dX2_linkNode_115 (ty_r hb 12 rfl) (ix_n (by omega) (by omega)) ?_
        refine q_iincN (c := 1) dX2_linkNode_116 rfl (by decide) rfl (ls' := [(2, .int (nI 1)), (3, .int (nI t0)), (0, .ref b), (1, .int (nI n))]) rfl ?_
        refine q_goto (tgt := 45) dX2_linkNode_119 (by decide) ?_
        refine q_iload_n dX2_linkNode_45 rfl rfl ?_
        refine q_iconst (v := nI 2) dX2_linkNode_46 rfl ?_
        refine q_icmp_geN (tgt := 122) dX2_linkNode_47 (by decide) (by omega) (by omega) (fun h => absurd h (by decide)) (fun _ => ?_)
        refine q_aload_n dX2_linkNode_50 rfl rfl rfl ?_
        refine q_getr (r := b + 8) dX2_linkNode_51 fX2_29 rfl (ty_r hb 0 rfl) (hb.2.2 0 5 8 rfl) ?_
        refine q_iload_n dX2_linkNode_54 rfl rfl ?_
        refine q_aald (r := b + 10) (j := 1) dX2_linkNode_55 (ty_r hb 8 rfl) (Or.inl rfl) (ix_n (by omega) (by omega)) (hb.2.2 8 1 10 rfl) ?_
        refine q_iload_n dX2_linkNode_56 rfl rfl ?_
        refine q_iald (x := (-1)) (j := n) dX2_linkNode_57 (ty_r hb 10 rfl) (ix_n (by omega) (by omega)) (Eq.trans (rd_off (by omega)) r8) ?_
        refine q_istore_n dX2_linkNode_58 rfl (by decide) (ls' := [(3, .int (-1)), (2, .int (nI 1)), (0, .ref b), (1, .int (nI n))]) rfl ?_
        refine q_iload_n dX2_linkNode_59 rfl rfl ?_
        refine q_if_lt1 (tgt := 98) dX2_linkNode_60 (by decide) (by decide) ?_
        refine q_iload_n dX2_linkNode_98 rfl rfl ?_
        refine q_if_lt1 (tgt := 116) dX2_linkNode_99 (by decide) (by decide) ?_
        refine q_iincN (c := 1) dX2_linkNode_116 rfl (by decide) rfl (ls' := [(2, .int (nI 2)), (3, .int (-1)), (0, .ref b), (1, .int (nI n))]) rfl ?_
        refine q_goto (tgt := 45) dX2_linkNode_119 (by decide) ?_
        refine q_iload_n dX2_linkNode_45 rfl rfl ?_
        refine q_iconst (v := nI 2) dX2_linkNode_46 rfl ?_
        refine q_icmp_geN (tgt := 122) dX2_linkNode_47 (by decide) (by omega) (by omega) (fun _ => ?_) (fun h => absurd h (by decide))
        refine q_return dX2_linkNode_122 rfl (by omega) (by omega) ?_
        refine ⟨rfl, LF.rf.uI (by omega), ?_⟩
        rw [← ex x0 rfl]
        refine LKg_end ?_ hn
        have hk := LKg_w0 (v := nI (nf q t0)) h hn
        rw [e0, e1]
        exact hk
