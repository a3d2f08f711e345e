/-! Class Facts: what it asks of a NODE. -/
section NEXT
variable {g : GG} {σ : HS} {b : Nat} {q : PS}
theorem any_r {k : Nat} {f f2 : Nat → Bool} (hk : k ≤ 32) : ¬ (mkN f k &&& mkN f2 k = nI 0) ↔ (List.range k).any (fun e => f e && f2 e) = true := by
  rw [mk_and hk, mk_0 k, mk_ne hk]
  constructor
  · intro h
    obtain ⟨e, he⟩ := Classical.not_forall.mp h
    obtain ⟨h1, h2⟩ := Classical.not_imp.mp he
    exact List.any_eq_true.mpr ⟨e, List.mem_range.mpr h1, by cases h3 : (f e && f2 e); exact absurd h3 h2; rfl⟩
  · intro h h2
    obtain ⟨e, h3, h4⟩ := List.any_eq_true.mp h
    rw [h2 e (List.mem_range.mp h3)] at h4
    cases h4
theorem z0_isSeen (hq : FE σ b q) (hwk : FA σ (b + 22) q (wk q)) {n : Nat} (hn : n < NN q) : CT g mX0_isSeen 0 0 0 [.ref (b + 21), .ref b, .int (nI n), .int (mkN (bo q) (psM q).length)] σ (PQ σ (.int (bi (sn q n)))) := by
  obtain ⟨hb, hc, hw, hnb, hx, h14, hs, hall, hr⟩ := id hq
  have hb14 : b = 14 ∨ 99 ≤ b := by rcases hb.1 with h | ⟨j, h⟩ <;> omega
  have hNN := NN_le hc
  obtain ⟨r1, r3, r7, r12, r13⟩ := hr n hn
  have w := hwk n hn
  have hk := hq.k
  have hk7 : rK (rg q n) ≤ 7 := by
    by_cases e : n < (psS q).length
    · rw [show rg q n = rr q n from if_pos e]; have := (st_w hw e).1; omega
    · rw [show rg q n = _ from if_neg e]; exact Nat.le_refl _
  refine CT.of (by decide) (Nat.le_of_ble_eq_true rfl) ?_
  refine q_aload_n dX0_isSeen_0 rfl rfl rfl ?_
  refine q_getr (r := b + 1) dX0_isSeen_1 fX0_99 rfl (ty_r hb 0 rfl) (hb.2.2 0 0 1 rfl) ?_
  refine q_iload_n dX0_isSeen_4 rfl rfl ?_
  refine q_iald (x := nI (rK (rg q n))) (j := n) dX0_isSeen_5 (ty_r hb 1 rfl) (ix_n (by omega) (by omega)) r1 ?_
  refine q_iconst (v := nI 3) dX0_isSeen_6 rfl ?_
  refine q_icmp_eqN (tgt := 31) dX0_isSeen_7 (by decide) (by omega) (by omega) (fun c7 => ?_) (fun c7 => ?_)
  · skip
    refine q_iconst (v := nI 1) dX0_isSeen_31 rfl ?_
    refine q_goto (tgt := 36) dX0_isSeen_32 (by decide) ?_
    refine q_ireturn dX0_isSeen_36 rfl rfl (by omega) (by omega) ?_
    unfold sn
    first | exact fin_t (by rw [decide_eq_true c7]; rfl) | exact fin_t (by rw [decide_eq_true c17, Bool.or_true]; rfl) | exact fin_t (by rw [(any_r hk).mp c28, Bool.or_true]) | exact fin_f (by rw [decide_eq_false c7, decide_eq_false c17]; cases hz : (List.range (psM q).length).any (fun e => wk q e n && bo q e); rfl; exact absurd c28 ((any_r hk).mpr hz))
  · skip
    refine q_aload_n dX0_isSeen_10 rfl rfl rfl ?_
    refine q_getr (r := b + 1) dX0_isSeen_11 fX0_99 rfl (ty_r hb 0 rfl) (hb.2.2 0 0 1 rfl) ?_
    refine q_iload_n dX0_isSeen_14 rfl rfl ?_
    refine q_iald (x := nI (rK (rg q n))) (j := n) dX0_isSeen_15 (ty_r hb 1 rfl) (ix_n (by omega) (by omega)) r1 ?_
    refine q_iconst (v := nI 2) dX0_isSeen_16 rfl ?_
    refine q_icmp_eqN (tgt := 31) dX0_isSeen_17 (by decide) (by omega) (by omega) (fun c17 => ?_) (fun c17 => ?_)
    · skip
      refine q_iconst (v := nI 1) dX0_isSeen_31 rfl ?_
      refine q_goto (tgt := 36) dX0_isSeen_32 (by decide) ?_
      refine q_ireturn dX0_isSeen_36 rfl rfl (by omega) (by omega) ?_
      unfold sn
      first | exact fin_t (by rw [decide_eq_true c7]; rfl) | exact fin_t (by rw [decide_eq_true c17, Bool.or_true]; rfl) | exact fin_t (by rw [(any_r hk).mp c28, Bool.or_true]) | exact fin_f (by rw [decide_eq_false c7, decide_eq_false c17]; cases hz : (List.range (psM q).length).any (fun e => wk q e n && bo q e); rfl; exact absurd c28 ((any_r hk).mpr hz))
    · skip
      refine q_aload_n dX0_isSeen_20 rfl rfl rfl ?_
      refine q_getr (r := b + 22) dX0_isSeen_21 fX0_9 rfl (ty_r hb 21 rfl) (hb.2.2 21 0 22 rfl) ?_
      refine q_iload_n dX0_isSeen_24 rfl rfl ?_
      refine q_iald (x := mkN (fun e => wk q e n) (psM q).length) (j := n) dX0_isSeen_25 (ty_r hb 22 rfl) (ix_n (by omega) (by omega)) w ?_
      refine q_iload_n dX0_isSeen_26 rfl rfl ?_
      refine q_iand dX0_isSeen_27 ?_
      refine q_if_eq (tgt := 35) dX0_isSeen_28 (by decide) (fun c28 => ?_) (fun c28 => ?_)
      · skip
        refine q_iconst (v := nI 0) dX0_isSeen_35 rfl ?_
        refine q_ireturn dX0_isSeen_36 rfl rfl (by omega) (by omega) ?_
        unfold sn
        first | exact fin_t (by rw [decide_eq_true c7]; rfl) | exact fin_t (by rw [decide_eq_true c17, Bool.or_true]; rfl) | exact fin_t (by rw [(any_r hk).mp c28, Bool.or_true]) | exact fin_f (by rw [decide_eq_false c7, decide_eq_false c17]; cases hz : (List.range (psM q).length).any (fun e => wk q e n && bo q e); rfl; exact absurd c28 ((any_r hk).mpr hz))
      · skip
        refine q_iconst (v := nI 1) dX0_isSeen_31 rfl ?_
        refine q_goto (tgt := 36) dX0_isSeen_32 (by decide) ?_
        refine q_ireturn dX0_isSeen_36 rfl rfl (by omega) (by omega) ?_
        unfold sn
        first | exact fin_t (by rw [decide_eq_true c7]; rfl) | exact fin_t (by rw [decide_eq_true c17, Bool.or_true]; rfl) | exact fin_t (by rw [(any_r hk).mp c28, Bool.or_true]) | exact fin_f (by rw [decide_eq_false c7, decide_eq_false c17]; cases hz : (List.range (psM q).length).any (fun e => wk q e n && bo q e); rfl; exact absurd c28 ((any_r hk).mpr hz))
theorem K_l0 (hq : FE σ b q) {n : Nat} (hn : n < NN q) : (∀ i, ld q 0 n = some i → i < NN q ∧ i < 240) ∧ (∀ i, ld q 1 n = some i → i < NN q ∧ i < 240) := by
  have hNN := NN_le hq.2.1
  exact ⟨fun i h => by have := ld_lt hq.2.1 hq.2.2.1 hq.2.2.2.1 hn h; omega, fun i h => by have := ld_lt hq.2.1 hq.2.2.1 hq.2.2.2.1 hn h; omega⟩
theorem z0_allNext_24 (hq : FE σ b q) {v : Nat → Nat → Bool} (hv : FA σ (b + 24) q v) {n : Nat} (hn : n < NN q) : CT g mX0_allNext 0 0 0 [.ref (b + 21), .ref b, .ref (b + 24), .int (nI n)] σ (PQ σ (.int (mkN (fun e => alN q (v e) n) (psM q).length))) := by
  obtain ⟨hb, hc, hw, hnb, hx, h14, hs, hall, hr⟩ := id hq
  have hb14 : b = 14 ∨ 99 ≤ b := by rcases hb.1 with h | ⟨j, h⟩ <;> omega
  have hNN := NN_le hc
  obtain ⟨r1, r3, r7, r12, r13⟩ := hr n hn
  have hl := K_l0 hq hn
  have hk := hq.k
  cases l0 : ld q 0 n with
  | none =>
    rw [l0] at r12
    cases l1 : ld q 1 n with
    | none =>
      rw [l1] at r13
      refine CT.of (by decide) (Nat.le_of_ble_eq_true rfl) ?_
      refine q_aload_n dX0_allNext_0 rfl rfl rfl ?_
      refine q_getr (r := b + 11) dX0_allNext_1 fX0_129 rfl (ty_r hb 0 rfl) (hb.2.2 0 6 11 rfl) ?_
      refine q_iconst (v := nI 0) dX0_allNext_4 rfl ?_
      refine q_aald (r := b + 12) (j := 0) dX0_allNext_5 (ty_r hb 11 rfl) (Or.inl rfl) (ix_n (by omega) (by omega)) (hb.2.2 11 0 12 rfl) ?_
      refine q_iload_n dX0_allNext_6 rfl rfl ?_
      refine q_iald (x := (-1)) (j := n) dX0_allNext_7 (ty_r hb 12 rfl) (ix_n (by omega) (by omega)) r12 ?_
      refine q_if_ge1 (tgt := 15) dX0_allNext_8 (by decide) (by decide) ?_
      refine q_iconst (v := nI 0) dX0_allNext_11 rfl ?_
      refine q_goto (tgt := 19) dX0_allNext_12 (by decide) ?_
      refine q_istore dX0_allNext_19 (by decide) (ls' := [(4, .int (nI 0)), (0, .ref (b + 21)), (1, .ref b), (2, .ref (b + 24)), (3, .int (nI n))]) rfl ?_
      refine q_iconst (v := nI 0) dX0_allNext_21 rfl ?_
      refine q_istore dX0_allNext_22 (by decide) (ls' := [(5, .int (nI 0)), (4, .int (nI 0)), (0, .ref (b + 21)), (1, .ref b), (2, .ref (b + 24)), (3, .int (nI n))]) rfl ?_
      refine q_iload dX0_allNext_24 rfl ?_
      refine q_iconst (v := nI 2) dX0_allNext_26 rfl ?_
      refine q_icmp_geN (tgt := 64) dX0_allNext_27 (by decide) (by omega) (by omega) (fun h => absurd h (by decide)) (fun _ => ?_)
      refine q_aload_n dX0_allNext_30 rfl rfl rfl ?_
      refine q_getr (r := b + 11) dX0_allNext_31 fX0_129 rfl (ty_r hb 0 rfl) (hb.2.2 0 6 11 rfl) ?_
      refine q_iload dX0_allNext_34 rfl ?_
      refine q_aald (r := b + 12) (j := 0) dX0_allNext_36 (ty_r hb 11 rfl) (Or.inl rfl) (ix_n (by omega) (by omega)) (hb.2.2 11 0 12 rfl) ?_
      refine q_iload_n dX0_allNext_37 rfl rfl ?_
      refine q_iald (x := (-1)) (j := n) dX0_allNext_38 (ty_r hb 12 rfl) (ix_n (by omega) (by omega)) r12 ?_
      refine q_if_lt1 (tgt := 58) dX0_allNext_39 (by decide) (by decide) ?_
      refine q_iincN (c := 1) dX0_allNext_58 rfl (by decide) rfl (ls' := [(5, .int (nI 1)), (4, .int (nI 0)), (0, .ref (b + 21)), (1, .ref b), (2, .ref (b + 24)), (3, .int (nI n))]) rfl ?_
      refine q_goto (tgt := 24) dX0_allNext_61 (by decide) ?_
      refine q_iload dX0_allNext_24 rfl ?_
      refine q_iconst (v := nI 2) dX0_allNext_26 rfl ?_
      refine q_icmp_geN (tgt := 64) dX0_allNext_27 (by decide) (by omega) (by omega) (fun h => absurd h (by decide)) (fun _ => ?_)
      refine q_aload_n dX0_allNext_30 rfl rfl rfl ?_
      refine q_getr (r := b + 11) dX0_allNext_31 fX0_129 rfl (ty_r hb 0 rfl) (hb.2.2 0 6 11 rfl) ?_
      refine q_iload dX0_allNext_34 rfl ?_
      refine q_aald (r := b + 13) (j := 1) dX0_allNext_36 (ty_r hb 11 rfl) (Or.inl rfl) (ix_n (by omega) (by omega)) (hb.2.2 11 1 13 rfl) ?_
      refine q_iload_n dX0_allNext_37 rfl rfl ?_
      refine q_iald (x := (-1)) (j := n) dX0_allNext_38 (ty_r hb 13 rfl) (ix_n (by omega) (by omega)) r13 ?_
      refine q_if_lt1 (tgt := 58) dX0_allNext_39 (by decide) (by decide) ?_
      refine q_iincN (c := 1) dX0_allNext_58 rfl (by decide) rfl (ls' := [(5, .int (nI 2)), (4, .int (nI 0)), (0, .ref (b + 21)), (1, .ref b), (2, .ref (b + 24)), (3, .int (nI n))]) rfl ?_
      refine q_goto (tgt := 24) dX0_allNext_61 (by decide) ?_
      refine q_iload dX0_allNext_24 rfl ?_
      refine q_iconst (v := nI 2) dX0_allNext_26 rfl ?_
      refine q_icmp_geN (tgt := 64) dX0_allNext_27 (by decide) (by omega) (by omega) (fun _ => ?_) (fun h => absurd h (by decide))
      refine q_iload dX0_allNext_64 rfl ?_
      refine q_ireturn dX0_allNext_66 rfl rfl (by omega) (by omega) ?_
      exact ⟨rfl, congrArg (fun z => some (Value.int z)) (by rw [mk_0 (psM q).length]; exact mk_ext fun e _ => by simp [alN, l0, l1])⟩
    | some v1 =>
      rw [l1] at r13
      have b1 := hl.2 v1 l1
      refine CT.of (by decide) (Nat.le_of_ble_eq_true rfl) ?_
      refine q_aload_n dX0_allNext_0 rfl rfl rfl ?_
      refine q_getr (r := b + 11) dX0_allNext_1 fX0_129 rfl (ty_r hb 0 rfl) (hb.2.2 0 6 11 rfl) ?_
      refine q_iconst (v := nI 0) dX0_allNext_4 rfl ?_
      refine q_aald (r := b + 12) (j := 0) dX0_allNext_5 (ty_r hb 11 rfl) (Or.inl rfl) (ix_n (by omega) (by omega)) (hb.2.2 11 0 12 rfl) ?_
      refine q_iload_n dX0_allNext_6 rfl rfl ?_
      refine q_iald (x := (-1)) (j := n) dX0_allNext_7 (ty_r hb 12 rfl) (ix_n (by omega) (by omega)) r12 ?_
      refine q_if_ge1 (tgt := 15) dX0_allNext_8 (by decide) (by decide) ?_
      refine q_iconst (v := nI 0) dX0_allNext_11 rfl ?_
      refine q_goto (tgt := 19) dX0_allNext_12 (by decide) ?_
      refine q_istore dX0_allNext_19 (by decide) (ls' := [(4, .int (nI 0)), (0, .ref (b + 21)), (1, .ref b), (2, .ref (b + 24)), (3, .int (nI n))]) rfl ?_
      refine q_iconst (v := nI 0) dX0_allNext_21 rfl ?_
      refine q_istore dX0_allNext_22 (by decide) (ls' := [(5, .int (nI 0)), (4, .int (nI 0)), (0, .ref (b + 21)), (1, .ref b), (2, .ref (b + 24)), (3, .int (nI n))]) rfl ?_
      refine q_iload dX0_allNext_24 rfl ?_
      refine q_iconst (v := nI 2) dX0_allNext_26 rfl ?_
      refine q_icmp_geN (tgt := 64) dX0_allNext_27 (by decide) (by omega) (by omega) (fun h => absurd h (by decide)) (fun _ => ?_)
      refine q_aload_n dX0_allNext_30 rfl rfl rfl ?_
      refine q_getr (r := b + 11) dX0_allNext_31 fX0_129 rfl (ty_r hb 0 rfl) (hb.2.2 0 6 11 rfl) ?_
      refine q_iload dX0_allNext_34 rfl ?_
      refine q_aald (r := b + 12) (j := 0) dX0_allNext_36 (ty_r hb 11 rfl) (Or.inl rfl) (ix_n (by omega) (by omega)) (hb.2.2 11 0 12 rfl) ?_
      refine q_iload_n dX0_allNext_37 rfl rfl ?_
      refine q_iald (x := (-1)) (j := n) dX0_allNext_38 (ty_r hb 12 rfl) (ix_n (by omega) (by omega)) r12 ?_
      refine q_if_lt1 (tgt := 58) dX0_allNext_39 (by decide) (by decide) ?_
      refine q_iincN (c := 1) dX0_allNext_58 rfl (by decide) rfl (ls' := [(5, .int (nI 1)), (4, .int (nI 0)), (0, .ref (b + 21)), (1, .ref b), (2, .ref (b + 24)), (3, .int (nI n))]) rfl ?_
      refine q_goto (tgt := 24) dX0_allNext_61 (by decide) ?_
      refine q_iload dX0_allNext_24 rfl ?_
      refine q_iconst (v := nI 2) dX0_allNext_26 rfl ?_
      refine q_icmp_geN (tgt := 64) dX0_allNext_27 (by decide) (by omega) (by omega) (fun h => absurd h (by decide)) (fun _ => ?_)
      refine q_aload_n dX0_allNext_30 rfl rfl rfl ?_
      refine q_getr (r := b + 11) dX0_allNext_31 fX0_129 rfl (ty_r hb 0 rfl) (hb.2.2 0 6 11 rfl) ?_
      refine q_iload dX0_allNext_34 rfl ?_
      refine q_aald (r := b + 13) (j := 1) dX0_allNext_36 (ty_r hb 11 rfl) (Or.inl rfl) (ix_n (by omega) (by omega)) (hb.2.2 11 1 13 rfl) ?_
      refine q_iload_n dX0_allNext_37 rfl rfl ?_
      refine q_iald (x := nI v1) (j := n) dX0_allNext_38 (ty_r hb 13 rfl) (ix_n (by omega) (by omega)) r13 ?_
      refine q_if_ltN (tgt := 58) dX0_allNext_39 (by decide) (by omega) ?_
      refine q_iload dX0_allNext_42 rfl ?_
      refine q_aload_n dX0_allNext_44 rfl rfl rfl ?_
      refine q_aload_n dX0_allNext_45 rfl rfl rfl ?_
      refine q_getr (r := b + 11) dX0_allNext_46 fX0_129 rfl (ty_r hb 0 rfl) (hb.2.2 0 6 11 rfl) ?_
      refine q_iload dX0_allNext_49 rfl ?_
      refine q_aald (r := b + 13) (j := 1) dX0_allNext_51 (ty_r hb 11 rfl) (Or.inl rfl) (ix_n (by omega) (by omega)) (hb.2.2 11 1 13 rfl) ?_
      refine q_iload_n dX0_allNext_52 rfl rfl ?_
      refine q_iald (x := nI v1) (j := n) dX0_allNext_53 (ty_r hb 13 rfl) (ix_n (by omega) (by omega)) r13 ?_
      refine q_iald (x := mkN (fun e => v e v1) (psM q).length) (j := v1) dX0_allNext_54 (ty_r hb 24 rfl) (ix_n (by omega) (by omega)) (hv v1 b1.1) ?_
      refine q_iand dX0_allNext_55 ?_
      refine q_istore dX0_allNext_56 (by decide) (ls' := [(4, .int ((nI 0) &&& (mkN (fun e => v e v1) (psM q).length))), (5, .int (nI 1)), (0, .ref (b + 21)), (1, .ref b), (2, .ref (b + 24)), (3, .int (nI n))]) rfl ?_
      refine q_iincN (c := 1) dX0_allNext_58 rfl (by decide) rfl (ls' := [(5, .int (nI 2)), (4, .int ((nI 0) &&& (mkN (fun e => v e v1) (psM q).length))), (0, .ref (b + 21)), (1, .ref b), (2, .ref (b + 24)), (3, .int (nI n))]) rfl ?_
      refine q_goto (tgt := 24) dX0_allNext_61 (by decide) ?_
      refine q_iload dX0_allNext_24 rfl ?_
      refine q_iconst (v := nI 2) dX0_allNext_26 rfl ?_
      refine q_icmp_geN (tgt := 64) dX0_allNext_27 (by decide) (by omega) (by omega) (fun _ => ?_) (fun h => absurd h (by decide))
      refine q_iload dX0_allNext_64 rfl ?_
      refine q_ireturn dX0_allNext_66 rfl rfl (by omega) (by omega) ?_
      exact ⟨rfl, congrArg (fun z => some (Value.int z)) (by rw [mk_0 (psM q).length, mk_and hk]; exact mk_ext fun e _ => by simp [alN, l0, l1])⟩
  | some v0 =>
    rw [l0] at r12
    have b0 := hl.1 v0 l0
    cases l1 : ld q 1 n with
    | none =>
      rw [l1] at r13
      refine CT.of (by decide) (Nat.le_of_ble_eq_true rfl) ?_
      refine q_aload_n dX0_allNext_0 rfl rfl rfl ?_
      refine q_getr (r := b + 11) dX0_allNext_1 fX0_129 rfl (ty_r hb 0 rfl) (hb.2.2 0 6 11 rfl) ?_
      refine q_iconst (v := nI 0) dX0_allNext_4 rfl ?_
      refine q_aald (r := b + 12) (j := 0) dX0_allNext_5 (ty_r hb 11 rfl) (Or.inl rfl) (ix_n (by omega) (by omega)) (hb.2.2 11 0 12 rfl) ?_
      refine q_iload_n dX0_allNext_6 rfl rfl ?_
      refine q_iald (x := nI v0) (j := n) dX0_allNext_7 (ty_r hb 12 rfl) (ix_n (by omega) (by omega)) r12 ?_
      refine q_if_geN (tgt := 15) dX0_allNext_8 (by decide) (by omega) ?_
      refine q_aload_n dX0_allNext_15 rfl rfl rfl ?_
      refine q_geti (x := mkN (fun _ => true) (psM q).length) dX0_allNext_16 fX0_54 rfl (ty_r hb 21 rfl) hall ?_
      refine q_istore dX0_allNext_19 (by decide) (ls' := [(4, .int (mkN (fun _ => true) (psM q).length)), (0, .ref (b + 21)), (1, .ref b), (2, .ref (b + 24)), (3, .int (nI n))]) rfl ?_
      refine q_iconst (v := nI 0) dX0_allNext_21 rfl ?_
      refine q_istore dX0_allNext_22 (by decide) (ls' := [(5, .int (nI 0)), (4, .int (mkN (fun _ => true) (psM q).length)), (0, .ref (b + 21)), (1, .ref b), (2, .ref (b + 24)), (3, .int (nI n))]) rfl ?_
      refine q_iload dX0_allNext_24 rfl ?_
      refine q_iconst (v := nI 2) dX0_allNext_26 rfl ?_
      refine q_icmp_geN (tgt := 64) dX0_allNext_27 (by decide) (by omega) (by omega) (fun h => absurd h (by decide)) (fun _ => ?_)
      refine q_aload_n dX0_allNext_30 rfl rfl rfl ?_
      refine q_getr (r := b + 11) dX0_allNext_31 fX0_129 rfl (ty_r hb 0 rfl) (hb.2.2 0 6 11 rfl) ?_
      refine q_iload dX0_allNext_34 rfl ?_
      refine q_aald (r := b + 12) (j := 0) dX0_allNext_36 (ty_r hb 11 rfl) (Or.inl rfl) (ix_n (by omega) (by omega)) (hb.2.2 11 0 12 rfl) ?_
      refine q_iload_n dX0_allNext_37 rfl rfl ?_
      refine q_iald (x := nI v0) (j := n) dX0_allNext_38 (ty_r hb 12 rfl) (ix_n (by omega) (by omega)) r12 ?_
      refine q_if_ltN (tgt := 58) dX0_allNext_39 (by decide) (by omega) ?_
      refine q_iload dX0_allNext_42 rfl ?_
      refine q_aload_n dX0_allNext_44 rfl rfl rfl ?_
      refine q_aload_n dX0_allNext_45 rfl rfl rfl ?_
      refine q_getr (r := b + 11) dX0_allNext_46 fX0_129 rfl (ty_r hb 0 rfl) (hb.2.2 0 6 11 rfl) ?_
      refine q_iload dX0_allNext_49 rfl ?_
      refine q_aald (r := b + 12) (j := 0) dX0_allNext_51 (ty_r hb 11 rfl) (Or.inl rfl) (ix_n (by omega) (by omega)) (hb.2.2 11 0 12 rfl) ?_
      refine q_iload_n dX0_allNext_52 rfl rfl ?_
      refine q_iald (x := nI v0) (j := n) dX0_allNext_53 (ty_r hb 12 rfl) (ix_n (by omega) (by omega)) r12 ?_
      refine q_iald (x := mkN (fun e => v e v0) (psM q).length) (j := v0) dX0_allNext_54 (ty_r hb 24 rfl) (ix_n (by omega) (by omega)) (hv v0 b0.1) ?_
      refine q_iand dX0_allNext_55 ?_
      refine q_istore dX0_allNext_56 (by decide) (ls' := [(4, .int ((mkN (fun _ => true) (psM q).length) &&& (mkN (fun e => v e v0) (psM q).length))), (5, .int (nI 0)), (0, .ref (b + 21)), (1, .ref b), (2, .ref (b + 24)), (3, .int (nI n))]) rfl ?_
      refine q_iincN (c := 1) dX0_allNext_58 rfl (by decide) rfl (ls' := [(5, .int (nI 1)), (4, .int ((mkN (fun _ => true) (psM q).length) &&& (mkN (fun e => v e v0) (psM q).length))), (0, .ref (b + 21)), (1, .ref b), (2, .ref (b + 24)), (3, .int (nI n))]) rfl ?_
      refine q_goto (tgt := 24) dX0_allNext_61 (by decide) ?_
      refine q_iload dX0_allNext_24 rfl ?_
      refine q_iconst (v := nI 2) dX0_allNext_26 rfl ?_
      refine q_icmp_geN (tgt := 64) dX0_allNext_27 (by decide) (by omega) (by omega) (fun h => absurd h (by decide)) (fun _ => ?_)
      refine q_aload_n dX0_allNext_30 rfl rfl rfl ?_
      refine q_getr (r := b + 11) dX0_allNext_31 fX0_129 rfl (ty_r hb 0 rfl) (hb.2.2 0 6 11 rfl) ?_
      refine q_iload dX0_allNext_34 rfl ?_
      refine q_aald (r := b + 13) (j := 1) dX0_allNext_36 (ty_r hb 11 rfl) (Or.inl rfl) (ix_n (by omega) (by omega)) (hb.2.2 11 1 13 rfl) ?_
      refine q_iload_n dX0_allNext_37 rfl rfl ?_
      refine q_iald (x := (-1)) (j := n) dX0_allNext_38 (ty_r hb 13 rfl) (ix_n (by omega) (by omega)) r13 ?_
      refine q_if_lt1 (tgt := 58) dX0_allNext_39 (by decide) (by decide) ?_
      refine q_iincN (c := 1) dX0_allNext_58 rfl (by decide) rfl (ls' := [(5, .int (nI 2)), (4, .int ((mkN (fun _ => true) (psM q).length) &&& (mkN (fun e => v e v0) (psM q).length))), (0, .ref (b + 21)), (1, .ref b), (2, .ref (b + 24)), (3, .int (nI n))]) rfl ?_
      refine q_goto (tgt := 24) dX0_allNext_61 (by decide) ?_
      refine q_iload dX0_allNext_24 rfl ?_
      refine q_iconst (v := nI 2) dX0_allNext_26 rfl ?_
      refine q_icmp_geN (tgt := 64) dX0_allNext_27 (by decide) (by omega) (by omega) (fun _ => ?_) (fun h => absurd h (by decide))
      refine q_iload dX0_allNext_64 rfl ?_
      refine q_ireturn dX0_allNext_66 rfl rfl (by omega) (by omega) ?_
      exact ⟨rfl, congrArg (fun z => some (Value.int z)) (by rw [mk_and hk]; exact mk_ext fun e _ => by simp [alN, l0, l1])⟩
    | some v1 =>
      rw [l1] at r13
      have b1 := hl.2 v1 l1
      refine CT.of (by decide) (Nat.le_of_ble_eq_true rfl) ?_
      refine q_aload_n dX0_allNext_0 rfl rfl rfl ?_
      refine q_getr (r := b + 11) dX0_allNext_1 fX0_129 rfl (ty_r hb 0 rfl) (hb.2.2 0 6 11 rfl) ?_
      refine q_iconst (v := nI 0) dX0_allNext_4 rfl ?_
      refine q_aald (r := b + 12) (j := 0) dX0_allNext_5 (ty_r hb 11 rfl) (Or.inl rfl) (ix_n (by omega) (by omega)) (hb.2.2 11 0 12 rfl) ?_
      refine q_iload_n dX0_allNext_6 rfl rfl ?_
      refine q_iald (x := nI v0) (j := n) dX0_allNext_7 (ty_r hb 12 rfl) (ix_n (by omega) (by omega)) r12 ?_
      refine q_if_geN (tgt := 15) dX0_allNext_8 (by decide) (by omega) ?_
      refine q_aload_n dX0_allNext_15 rfl rfl rfl ?_
      refine q_geti (x := mkN (fun _ => true) (psM q).length) dX0_allNext_16 fX0_54 rfl (ty_r hb 21 rfl) hall ?_
      refine q_istore dX0_allNext_19 (by decide) (ls' := [(4, .int (mkN (fun _ => true) (psM q).length)), (0, .ref (b + 21)), (1, .ref b), (2, .ref (b + 24)), (3, .int (nI n))]) rfl ?_
      refine q_iconst (v := nI 0) dX0_allNext_21 rfl ?_
      refine q_istore dX0_allNext_22 (by decide) (ls' := [(5, .int (nI 0)), (4, .int (mkN (fun _ => true) (psM q).length)), (0, .ref (b + 21)), (1, .ref b), (2, .ref (b + 24)), (3, .int (nI n))]) rfl ?_
      refine q_iload dX0_allNext_24 rfl ?_
      refine q_iconst (v := nI 2) dX0_allNext_26 rfl ?_
      refine q_icmp_geN (tgt := 64) dX0_allNext_27 (by decide) (by omega) (by omega) (fun h => absurd h (by decide)) (fun _ => ?_)
      refine q_aload_n dX0_allNext_30 rfl rfl rfl ?_
      refine q_getr (r := b + 11) dX0_allNext_31 fX0_129 rfl (ty_r hb 0 rfl) (hb.2.2 0 6 11 rfl) ?_
      refine q_iload dX0_allNext_34 rfl ?_
      refine q_aald (r := b + 12) (j := 0) dX0_allNext_36 (ty_r hb 11 rfl) (Or.inl rfl) (ix_n (by omega) (by omega)) (hb.2.2 11 0 12 rfl) ?_
      refine q_iload_n dX0_allNext_37 rfl rfl ?_
      refine q_iald (x := nI v0) (j := n) dX0_allNext_38 (ty_r hb 12 rfl) (ix_n (by omega) (by omega)) r12 ?_
      refine q_if_ltN (tgt := 58) dX0_allNext_39 (by decide) (by omega) ?_
      refine q_iload dX0_allNext_42 rfl ?_
      refine q_aload_n dX0_allNext_44 rfl rfl rfl ?_
      refine q_aload_n dX0_allNext_45 rfl rfl rfl ?_
      refine q_getr (r := b + 11) dX0_allNext_46 fX0_129 rfl (ty_r hb 0 rfl) (hb.2.2 0 6 11 rfl) ?_
      refine q_iload dX0_allNext_49 rfl ?_
      refine q_aald (r := b + 12) (j := 0) dX0_allNext_51 (ty_r hb 11 rfl) (Or.inl rfl) (ix_n (by omega) (by omega)) (hb.2.2 11 0 12 rfl) ?_
      refine q_iload_n dX0_allNext_52 rfl rfl ?_
      refine q_iald (x := nI v0) (j := n) dX0_allNext_53 (ty_r hb 12 rfl) (ix_n (by omega) (by omega)) r12 ?_
      refine q_iald (x := mkN (fun e => v e v0) (psM q).length) (j := v0) dX0_allNext_54 (ty_r hb 24 rfl) (ix_n (by omega) (by omega)) (hv v0 b0.1) ?_
      refine q_iand dX0_allNext_55 ?_
      refine q_istore dX0_allNext_56 (by decide) (ls' := [(4, .int ((mkN (fun _ => true) (psM q).length) &&& (mkN (fun e => v e v0) (psM q).length))), (5, .int (nI 0)), (0, .ref (b + 21)), (1, .ref b), (2, .ref (b + 24)), (3, .int (nI n))]) rfl ?_
      refine q_iincN (c := 1) dX0_allNext_58 rfl (by decide) rfl (ls' := [(5, .int (nI 1)), (4, .int ((mkN (fun _ => true) (psM q).length) &&& (mkN (fun e => v e v0) (psM q).length))), (0, .ref (b + 21)), (1, .ref b), (2, .ref (b + 24)), (3, .int (nI n))]) rfl ?_
      refine q_goto (tgt := 24) dX0_allNext_61 (by decide) ?_
      refine q_iload dX0_allNext_24 rfl ?_
      refine q_iconst (v := nI 2) dX0_allNext_26 rfl ?_
      refine q_icmp_geN (tgt := 64) dX0_allNext_27 (by decide) (by omega) (by omega) (fun h => absurd h (by decide)) (fun _ => ?_)
      refine q_aload_n dX0_allNext_30 rfl rfl rfl ?_
      refine q_getr (r := b + 11) dX0_allNext_31 fX0_129 rfl (ty_r hb 0 rfl) (hb.2.2 0 6 11 rfl) ?_
      refine q_iload dX0_allNext_34 rfl ?_
      refine q_aald (r := b + 13) (j := 1) dX0_allNext_36 (ty_r hb 11 rfl) (Or.inl rfl) (ix_n (by omega) (by omega)) (hb.2.2 11 1 13 rfl) ?_
      refine q_iload_n dX0_allNext_37 rfl rfl ?_
      refine q_iald (x := nI v1) (j := n) dX0_allNext_38 (ty_r hb 13 rfl) (ix_n (by omega) (by omega)) r13 ?_
      refine q_if_ltN (tgt := 58) dX0_allNext_39 (by decide) (by omega) ?_
      refine q_iload dX0_allNext_42 rfl ?_
      refine q_aload_n dX0_allNext_44 rfl rfl rfl ?_
      refine q_aload_n dX0_allNext_45 rfl rfl rfl ?_
      refine q_getr (r := b + 11) dX0_allNext_46 fX0_129 rfl (ty_r hb 0 rfl) (hb.2.2 0 6 11 rfl) ?_
      refine q_iload dX0_allNext_49 rfl ?_
      refine q_aald (r := b + 13) (j := 1) dX0_allNext_51 (ty_r hb 11 rfl) (Or.inl rfl) (ix_n (by omega) (by omega)) (hb.2.2 11 1 13 rfl) ?_
      refine q_iload_n dX0_allNext_52 rfl rfl ?_
      refine q_iald (x := nI v1) (j := n) dX0_allNext_53 (ty_r hb 13 rfl) (ix_n (by omega) (by omega)) r13 ?_
      refine q_iald (x := mkN (fun e => v e v1) (psM q).length) (j := v1) dX0_allNext_54 (ty_r hb 24 rfl) (ix_n (by omega) (by omega)) (hv v1 b1.1) ?_
      refine q_iand dX0_allNext_55 ?_
      refine q_istore dX0_allNext_56 (by decide) (ls' := [(4, .int (((mkN (fun _ => true) (psM q).length) &&& (mkN (fun e => v e v0) (psM q).length)) &&& (mkN (fun e => v e v1) (psM q).length))), (5, .int (nI 1)), (0, .ref (b + 21)), (1, .ref b), (2, .ref (b + 24)), (3, .int (nI n))]) rfl ?_
      refine q_iincN (c := 1) dX0_allNext_58 rfl (by decide) rfl (ls' := [(5, .int (nI 2)), (4, .int (((mkN (fun _ => true) (psM q).length) &&& (mkN (fun e => v e v0) (psM q).length)) &&& (mkN (fun e => v e v1) (psM q).length))), (0, .ref (b + 21)), (1, .ref b), (2, .ref (b + 24)), (3, .int (nI n))]) rfl ?_
      refine q_goto (tgt := 24) dX0_allNext_61 (by decide) ?_
      refine q_iload dX0_allNext_24 rfl ?_
      refine q_iconst (v := nI 2) dX0_allNext_26 rfl ?_
      refine q_icmp_geN (tgt := 64) dX0_allNext_27 (by decide) (by omega) (by omega) (fun _ => ?_) (fun h => absurd h (by decide))
      refine q_iload dX0_allNext_64 rfl ?_
      refine q_ireturn dX0_allNext_66 rfl rfl (by omega) (by omega) ?_
      exact ⟨rfl, congrArg (fun z => some (Value.int z)) (by rw [mk_and hk, mk_and hk]; exact mk_ext fun e _ => by simp [alN, l0, l1])⟩
theorem z0_allNext_27 (hq : FE σ b q) {v : Nat → Nat → Bool} (hv : FA σ (b + 27) q v) {n : Nat} (hn : n < NN q) : CT g mX0_allNext 0 0 0 [.ref (b + 21), .ref b, .ref (b + 27), .int (nI n)] σ (PQ σ (.int (mkN (fun e => alN q (v e) n) (psM q).length))) := by
  obtain ⟨hb, hc, hw, hnb, hx, h14, hs, hall, hr⟩ := id hq
  have hb14 : b = 14 ∨ 99 ≤ b := by rcases hb.1 with h | ⟨j, h⟩ <;> omega
  have hNN := NN_le hc
  obtain ⟨r1, r3, r7, r12, r13⟩ := hr n hn
  have hl := K_l0 hq hn
  have hk := hq.k
  cases l0 : ld q 0 n with
  | none =>
    rw [l0] at r12
    cases l1 : ld q 1 n with
    | none =>
      rw [l1] at r13
      refine CT.of (by decide) (Nat.le_of_ble_eq_true rfl) ?_
      refine q_aload_n dX0_allNext_0 rfl rfl rfl ?_
      refine q_getr (r := b + 11) dX0_allNext_1 fX0_129 rfl (ty_r hb 0 rfl) (hb.2.2 0 6 11 rfl) ?_
      refine q_iconst (v := nI 0) dX0_allNext_4 rfl ?_
      refine q_aald (r := b + 12) (j := 0) dX0_allNext_5 (ty_r hb 11 rfl) (Or.inl rfl) (ix_n (by omega) (by omega)) (hb.2.2 11 0 12 rfl) ?_
      refine q_iload_n dX0_allNext_6 rfl rfl ?_
      refine q_iald (x := (-1)) (j := n) dX0_allNext_7 (ty_r hb 12 rfl) (ix_n (by omega) (by omega)) r12 ?_
      refine q_if_ge1 (tgt := 15) dX0_allNext_8 (by decide) (by decide) ?_
      refine q_iconst (v := nI 0) dX0_allNext_11 rfl ?_
      refine q_goto (tgt := 19) dX0_allNext_12 (by decide) ?_
      refine q_istore dX0_allNext_19 (by decide) (ls' := [(4, .int (nI 0)), (0, .ref (b + 21)), (1, .ref b), (2, .ref (b + 27)), (3, .int (nI n))]) rfl ?_
      refine q_iconst (v := nI 0) dX0_allNext_21 rfl ?_
      refine q_istore dX0_allNext_22 (by decide) (ls' := [(5, .int (nI 0)), (4, .int (nI 0)), (0, .ref (b + 21)), (1, .ref b), (2, .ref (b + 27)), (3, .int (nI n))]) rfl ?_
      refine q_iload dX0_allNext_24 rfl ?_
      refine q_iconst (v := nI 2) dX0_allNext_26 rfl ?_
      refine q_icmp_geN (tgt := 64) dX0_allNext_27 (by decide) (by omega) (by omega) (fun h => absurd h (by decide)) (fun _ => ?_)
      refine q_aload_n dX0_allNext_30 rfl rfl rfl ?_
      refine q_getr (r := b + 11) dX0_allNext_31 fX0_129 rfl (ty_r hb 0 rfl) (hb.2.2 0 6 11 rfl) ?_
      refine q_iload dX0_allNext_34 rfl ?_
      refine q_aald (r := b + 12) (j := 0) dX0_allNext_36 (ty_r hb 11 rfl) (Or.inl rfl) (ix_n (by omega) (by omega)) (hb.2.2 11 0 12 rfl) ?_
      refine q_iload_n dX0_allNext_37 rfl rfl ?_
      refine q_iald (x := (-1)) (j := n) dX0_allNext_38 (ty_r hb 12 rfl) (ix_n (by omega) (by omega)) r12 ?_
      refine q_if_lt1 (tgt := 58) dX0_allNext_39 (by decide) (by decide) ?_
      refine q_iincN (c := 1) dX0_allNext_58 rfl (by decide) rfl (ls' := [(5, .int (nI 1)), (4, .int (nI 0)), (0, .ref (b + 21)), (1, .ref b), (2, .ref (b + 27)), (3, .int (nI n))]) rfl ?_
      refine q_goto (tgt := 24) dX0_allNext_61 (by decide) ?_
      refine q_iload dX0_allNext_24 rfl ?_
      refine q_iconst (v := nI 2) dX0_allNext_26 rfl ?_
      refine q_icmp_geN (tgt := 64) dX0_allNext_27 (by decide) (by omega) (by omega) (fun h => absurd h (by decide)) (fun _ => ?_)
      refine q_aload_n dX0_allNext_30 rfl rfl rfl ?_
      refine q_getr (r := b + 11) dX0_allNext_31 fX0_129 rfl (ty_r hb 0 rfl) (hb.2.2 0 6 11 rfl) ?_
      refine q_iload dX0_allNext_34 rfl ?_
      refine q_aald (r := b + 13) (j := 1) dX0_allNext_36 (ty_r hb 11 rfl) (Or.inl rfl) (ix_n (by omega) (by omega)) (hb.2.2 11 1 13 rfl) ?_
      refine q_iload_n dX0_allNext_37 rfl rfl ?_
      refine q_iald (x := (-1)) (j := n) dX0_allNext_38 (ty_r hb 13 rfl) (ix_n (by omega) (by omega)) r13 ?_
      refine q_if_lt1 (tgt := 58) dX0_allNext_39 (by decide) (by decide) ?_
      refine q_iincN (c := 1) dX0_allNext_58 rfl (by decide) rfl (ls' := [(5, .int (nI 2)), (4, .int (nI 0)), (0, .ref (b + 21)), (1, .ref b), (2, .ref (b + 27)), (3, .int (nI n))]) rfl ?_
      refine q_goto (tgt := 24) dX0_allNext_61 (by decide) ?_
      refine q_iload dX0_allNext_24 rfl ?_
      refine q_iconst (v := nI 2) dX0_allNext_26 rfl ?_
      refine q_icmp_geN (tgt := 64) dX0_allNext_27 (by decide) (by omega) (by omega) (fun _ => ?_) (fun h => absurd h (by decide))
      refine q_iload dX0_allNext_64 rfl ?_
      refine q_ireturn dX0_allNext_66 rfl rfl (by omega) (by omega) ?_
      exact ⟨rfl, congrArg (fun z => some (Value.int z)) (by rw [mk_0 (psM q).length]; exact mk_ext fun e _ => by simp [alN, l0, l1])⟩
    | some v1 =>
      rw [l1] at r13
      have b1 := hl.2 v1 l1
      refine CT.of (by decide) (Nat.le_of_ble_eq_true rfl) ?_
      refine q_aload_n dX0_allNext_0 rfl rfl rfl ?_
      refine q_getr (r := b + 11) dX0_allNext_1 fX0_129 rfl (ty_r hb 0 rfl) (hb.2.2 0 6 11 rfl) ?_
      refine q_iconst (v := nI 0) dX0_allNext_4 rfl ?_
      refine q_aald (r := b + 12) (j := 0) dX0_allNext_5 (ty_r hb 11 rfl) (Or.inl rfl) (ix_n (by omega) (by omega)) (hb.2.2 11 0 12 rfl) ?_
      refine q_iload_n dX0_allNext_6 rfl rfl ?_
      refine q_iald (x := (-1)) (j := n) dX0_allNext_7 (ty_r hb 12 rfl) (ix_n (by omega) (by omega)) r12 ?_
      refine q_if_ge1 (tgt := 15) dX0_allNext_8 (by decide) (by decide) ?_
      refine q_iconst (v := nI 0) dX0_allNext_11 rfl ?_
      refine q_goto (tgt := 19) dX0_allNext_12 (by decide) ?_
      refine q_istore dX0_allNext_19 (by decide) (ls' := [(4, .int (nI 0)), (0, .ref (b + 21)), (1, .ref b), (2, .ref (b + 27)), (3, .int (nI n))]) rfl ?_
      refine q_iconst (v := nI 0) dX0_allNext_21 rfl ?_
      refine q_istore dX0_allNext_22 (by decide) (ls' := [(5, .int (nI 0)), (4, .int (nI 0)), (0, .ref (b + 21)), (1, .ref b), (2, .ref (b + 27)), (3, .int (nI n))]) rfl ?_
      refine q_iload dX0_allNext_24 rfl ?_
      refine q_iconst (v := nI 2) dX0_allNext_26 rfl ?_
      refine q_icmp_geN (tgt := 64) dX0_allNext_27 (by decide) (by omega) (by omega) (fun h => absurd h (by decide)) (fun _ => ?_)
      refine q_aload_n dX0_allNext_30 rfl rfl rfl ?_
      refine q_getr (r := b + 11) dX0_allNext_31 fX0_129 rfl (ty_r hb 0 rfl) (hb.2.2 0 6 11 rfl) ?_
      refine q_iload dX0_allNext_34 rfl ?_
      refine q_aald (r := b + 12) (j := 0) dX0_allNext_36 (ty_r hb 11 rfl) (Or.inl rfl) (ix_n (by omega) (by omega)) (hb.2.2 11 0 12 rfl) ?_
      refine q_iload_n dX0_allNext_37 rfl rfl ?_
      refine q_iald (x := (-1)) (j := n) dX0_allNext_38 (ty_r hb 12 rfl) (ix_n (by omega) (by omega)) r12 ?_
      refine q_if_lt1 (tgt := 58) dX0_allNext_39 (by decide) (by decide) ?_
      refine q_iincN (c := 1) dX0_allNext_58 rfl (by decide) rfl (ls' := [(5, .int (nI 1)), (4, .int (nI 0)), (0, .ref (b + 21)), (1, .ref b), (2, .ref (b + 27)), (3, .int (nI n))]) rfl ?_
      refine q_goto (tgt := 24) dX0_allNext_61 (by decide) ?_
      refine q_iload dX0_allNext_24 rfl ?_
      refine q_iconst (v := nI 2) dX0_allNext_26 rfl ?_
      refine q_icmp_geN (tgt := 64) dX0_allNext_27 (by decide) (by omega) (by omega) (fun h => absurd h (by decide)) (fun _ => ?_)
      refine q_aload_n dX0_allNext_30 rfl rfl rfl ?_
      refine q_getr (r := b + 11) dX0_allNext_31 fX0_129 rfl (ty_r hb 0 rfl) (hb.2.2 0 6 11 rfl) ?_
      refine q_iload dX0_allNext_34 rfl ?_
      refine q_aald (r := b + 13) (j := 1) dX0_allNext_36 (ty_r hb 11 rfl) (Or.inl rfl) (ix_n (by omega) (by omega)) (hb.2.2 11 1 13 rfl) ?_
      refine q_iload_n dX0_allNext_37 rfl rfl ?_
      refine q_iald (x := nI v1) (j := n) dX0_allNext_38 (ty_r hb 13 rfl) (ix_n (by omega) (by omega)) r13 ?_
      refine q_if_ltN (tgt := 58) dX0_allNext_39 (by decide) (by omega) ?_
      refine q_iload dX0_allNext_42 rfl ?_
      refine q_aload_n dX0_allNext_44 rfl rfl rfl ?_
      refine q_aload_n dX0_allNext_45 rfl rfl rfl ?_
      refine q_getr (r := b + 11) dX0_allNext_46 fX0_129 rfl (ty_r hb 0 rfl) (hb.2.2 0 6 11 rfl) ?_
      refine q_iload dX0_allNext_49 rfl ?_
      refine q_aald (r := b + 13) (j := 1) dX0_allNext_51 (ty_r hb 11 rfl) (Or.inl rfl) (ix_n (by omega) (by omega)) (hb.2.2 11 1 13 rfl) ?_
      refine q_iload_n dX0_allNext_52 rfl rfl ?_
      refine q_iald (x := nI v1) (j := n) dX0_allNext_53 (ty_r hb 13 rfl) (ix_n (by omega) (by omega)) r13 ?_
      refine q_iald (x := mkN (fun e => v e v1) (psM q).length) (j := v1) dX0_allNext_54 (ty_r hb 27 rfl) (ix_n (by omega) (by omega)) (hv v1 b1.1) ?_
      refine q_iand dX0_allNext_55 ?_
      refine q_istore dX0_allNext_56 (by decide) (ls' := [(4, .int ((nI 0) &&& (mkN (fun e => v e v1) (psM q).length))), (5, .int (nI 1)), (0, .ref (b + 21)), (1, .ref b), (2, .ref (b + 27)), (3, .int (nI n))]) rfl ?_
      refine q_iincN (c := 1) dX0_allNext_58 rfl (by decide) rfl (ls' := [(5, .int (nI 2)), (4, .int ((nI 0) &&& (mkN (fun e => v e v1) (psM q).length))), (0, .ref (b + 21)), (1, .ref b), (2, .ref (b + 27)), (3, .int (nI n))]) rfl ?_
      refine q_goto (tgt := 24) dX0_allNext_61 (by decide) ?_
      refine q_iload dX0_allNext_24 rfl ?_
      refine q_iconst (v := nI 2) dX0_allNext_26 rfl ?_
      refine q_icmp_geN (tgt := 64) dX0_allNext_27 (by decide) (by omega) (by omega) (fun _ => ?_) (fun h => absurd h (by decide))
      refine q_iload dX0_allNext_64 rfl ?_
      refine q_ireturn dX0_allNext_66 rfl rfl (by omega) (by omega) ?_
      exact ⟨rfl, congrArg (fun z => some (Value.int z)) (by rw [mk_0 (psM q).length, mk_and hk]; exact mk_ext fun e _ => by simp [alN, l0, l1])⟩
  | some v0 =>
    rw [l0] at r12
    have b0 := hl.1 v0 l0
    cases l1 : ld q 1 n with
    | none =>
      rw [l1] at r13
      refine CT.of (by decide) (Nat.le_of_ble_eq_true rfl) ?_
      refine q_aload_n dX0_allNext_0 rfl rfl rfl ?_
      refine q_getr (r := b + 11) dX0_allNext_1 fX0_129 rfl (ty_r hb 0 rfl) (hb.2.2 0 6 11 rfl) ?_
      refine q_iconst (v := nI 0) dX0_allNext_4 rfl ?_
      refine q_aald (r := b + 12) (j := 0) dX0_allNext_5 (ty_r hb 11 rfl) (Or.inl rfl) (ix_n (by omega) (by omega)) (hb.2.2 11 0 12 rfl) ?_
      refine q_iload_n dX0_allNext_6 rfl rfl ?_
      refine q_iald (x := nI v0) (j := n) dX0_allNext_7 (ty_r hb 12 rfl) (ix_n (by omega) (by omega)) r12 ?_
      refine q_if_geN (tgt := 15) dX0_allNext_8 (by decide) (by omega) ?_
      refine q_aload_n dX0_allNext_15 rfl rfl rfl ?_
      refine q_geti (x := mkN (fun _ => true) (psM q).length) dX0_allNext_16 fX0_54 rfl (ty_r hb 21 rfl) hall ?_
      refine q_istore dX0_allNext_19 (by decide) (ls' := [(4, .int (mkN (fun _ => true) (psM q).length)), (0, .ref (b + 21)), (1, .ref b), (2, .ref (b + 27)), (3, .int (nI n))]) rfl ?_
      refine q_iconst (v := nI 0) dX0_allNext_21 rfl ?_
      refine q_istore dX0_allNext_22 (by decide) (ls' := [(5, .int (nI 0)), (4, .int (mkN (fun _ => true) (psM q).length)), (0, .ref (b + 21)), (1, .ref b), (2, .ref (b + 27)), (3, .int (nI n))]) rfl ?_
      refine q_iload dX0_allNext_24 rfl ?_
      refine q_iconst (v := nI 2) dX0_allNext_26 rfl ?_
      refine q_icmp_geN (tgt := 64) dX0_allNext_27 (by decide) (by omega) (by omega) (fun h => absurd h (by decide)) (fun _ => ?_)
      refine q_aload_n dX0_allNext_30 rfl rfl rfl ?_
      refine q_getr (r := b + 11) dX0_allNext_31 fX0_129 rfl (ty_r hb 0 rfl) (hb.2.2 0 6 11 rfl) ?_
      refine q_iload dX0_allNext_34 rfl ?_
      refine q_aald (r := b + 12) (j := 0) dX0_allNext_36 (ty_r hb 11 rfl) (Or.inl rfl) (ix_n (by omega) (by omega)) (hb.2.2 11 0 12 rfl) ?_
      refine q_iload_n dX0_allNext_37 rfl rfl ?_
      refine q_iald (x := nI v0) (j := n) dX0_allNext_38 (ty_r hb 12 rfl) (ix_n (by omega) (by omega)) r12 ?_
      refine q_if_ltN (tgt := 58) dX0_allNext_39 (by decide) (by omega) ?_
      refine q_iload dX0_allNext_42 rfl ?_
      refine q_aload_n dX0_allNext_44 rfl rfl rfl ?_
      refine q_aload_n dX0_allNext_45 rfl rfl rfl ?_
      refine q_getr (r := b + 11) dX0_allNext_46 fX0_129 rfl (ty_r hb 0 rfl) (hb.2.2 0 6 11 rfl) ?_
      refine q_iload dX0_allNext_49 rfl ?_
      refine q_aald (r := b + 12) (j := 0) dX0_allNext_51 (ty_r hb 11 rfl) (Or.inl rfl) (ix_n (by omega) (by omega)) (hb.2.2 11 0 12 rfl) ?_
      refine q_iload_n dX0_allNext_52 rfl rfl ?_
      refine q_iald (x := nI v0) (j := n) dX0_allNext_53 (ty_r hb 12 rfl) (ix_n (by omega) (by omega)) r12 ?_
      refine q_iald (x := mkN (fun e => v e v0) (psM q).length) (j := v0) dX0_allNext_54 (ty_r hb 27 rfl) (ix_n (by omega) (by omega)) (hv v0 b0.1) ?_
      refine q_iand dX0_allNext_55 ?_
      refine q_istore dX0_allNext_56 (by decide) (ls' := [(4, .int ((mkN (fun _ => true) (psM q).length) &&& (mkN (fun e => v e v0) (psM q).length))), (5, .int (nI 0)), (0, .ref (b + 21)), (1, .ref b), (2, .ref (b + 27)), (3, .int (nI n))]) rfl ?_
      refine q_iincN (c := 1) dX0_allNext_58 rfl (by decide) rfl (ls' := [(5, .int (nI 1)), (4, .int ((mkN (fun _ => true) (psM q).length) &&& (mkN (fun e => v e v0) (psM q).length))), (0, .ref (b + 21)), (1, .ref b), (2, .ref (b + 27)), (3, .int (nI n))]) rfl ?_
      refine q_goto (tgt := 24) dX0_allNext_61 (by decide) ?_
      refine q_iload dX0_allNext_24 rfl ?_
      refine q_iconst (v := nI 2) dX0_allNext_26 rfl ?_
      refine q_icmp_geN (tgt := 64) dX0_allNext_27 (by decide) (by omega) (by omega) (fun h => absurd h (by decide)) (fun _ => ?_)
      refine q_aload_n dX0_allNext_30 rfl rfl rfl ?_
      refine q_getr (r := b + 11) dX0_allNext_31 fX0_129 rfl (ty_r hb 0 rfl) (hb.2.2 0 6 11 rfl) ?_
      refine q_iload dX0_allNext_34 rfl ?_
      refine q_aald (r := b + 13) (j := 1) dX0_allNext_36 (ty_r hb 11 rfl) (Or.inl rfl) (ix_n (by omega) (by omega)) (hb.2.2 11 1 13 rfl) ?_
      refine q_iload_n dX0_allNext_37 rfl rfl ?_
      refine q_iald (x := (-1)) (j := n) dX0_allNext_38 (ty_r hb 13 rfl) (ix_n (by omega) (by omega)) r13 ?_
      refine q_if_lt1 (tgt := 58) dX0_allNext_39 (by decide) (by decide) ?_
      refine q_iincN (c := 1) dX0_allNext_58 rfl (by decide) rfl (ls' := [(5, .int (nI 2)), (4, .int ((mkN (fun _ => true) (psM q).length) &&& (mkN (fun e => v e v0) (psM q).length))), (0, .ref (b + 21)), (1, .ref b), (2, .ref (b + 27)), (3, .int (nI n))]) rfl ?_
      refine q_goto (tgt := 24) dX0_allNext_61 (by decide) ?_
      refine q_iload dX0_allNext_24 rfl ?_
      refine q_iconst (v := nI 2) dX0_allNext_26 rfl ?_
      refine q_icmp_geN (tgt := 64) dX0_allNext_27 (by decide) (by omega) (by omega) (fun _ => ?_) (fun h => absurd h (by decide))
      refine q_iload dX0_allNext_64 rfl ?_
      refine q_ireturn dX0_allNext_66 rfl rfl (by omega) (by omega) ?_
      exact ⟨rfl, congrArg (fun z => some (Value.int z)) (by rw [mk_and hk]; exact mk_ext fun e _ => by simp [alN, l0, l1])⟩
    | some v1 =>
      rw [l1] at r13
      have b1 := hl.2 v1 l1
      refine CT.of (by decide) (Nat.le_of_ble_eq_true rfl) ?_
      refine q_aload_n dX0_allNext_0 rfl rfl rfl ?_
      refine q_getr (r := b + 11) dX0_allNext_1 fX0_129 rfl (ty_r hb 0 rfl) (hb.2.2 0 6 11 rfl) ?_
      refine q_iconst (v := nI 0) dX0_allNext_4 rfl ?_
      refine q_aald (r := b + 12) (j := 0) dX0_allNext_5 (ty_r hb 11 rfl) (Or.inl rfl) (ix_n (by omega) (by omega)) (hb.2.2 11 0 12 rfl) ?_
      refine q_iload_n dX0_allNext_6 rfl rfl ?_
      refine q_iald (x := nI v0) (j := n) dX0_allNext_7 (ty_r hb 12 rfl) (ix_n (by omega) (by omega)) r12 ?_
      refine q_if_geN (tgt := 15) dX0_allNext_8 (by decide) (by omega) ?_
      refine q_aload_n dX0_allNext_15 rfl rfl rfl ?_
      refine q_geti (x := mkN (fun _ => true) (psM q).length) dX0_allNext_16 fX0_54 rfl (ty_r hb 21 rfl) hall ?_
      refine q_istore dX0_allNext_19 (by decide) (ls' := [(4, .int (mkN (fun _ => true) (psM q).length)), (0, .ref (b + 21)), (1, .ref b), (2, .ref (b + 27)), (3, .int (nI n))]) rfl ?_
      refine q_iconst (v := nI 0) dX0_allNext_21 rfl ?_
      refine q_istore dX0_allNext_22 (by decide) (ls' := [(5, .int (nI 0)), (4, .int (mkN (fun _ => true) (psM q).length)), (0, .ref (b + 21)), (1, .ref b), (2, .ref (b + 27)), (3, .int (nI n))]) rfl ?_
      refine q_iload dX0_allNext_24 rfl ?_
      refine q_iconst (v := nI 2) dX0_allNext_26 rfl ?_
      refine q_icmp_geN (tgt := 64) dX0_allNext_27 (by decide) (by omega) (by omega) (fun h => absurd h (by decide)) (fun _ => ?_)
      refine q_aload_n dX0_allNext_30 rfl rfl rfl ?_
      refine q_getr (r := b + 11) dX0_allNext_31 fX0_129 rfl (ty_r hb 0 rfl) (hb.2.2 0 6 11 rfl) ?_
      refine q_iload dX0_allNext_34 rfl ?_
      refine q_aald (r := b + 12) (j := 0) dX0_allNext_36 (ty_r hb 11 rfl) (Or.inl rfl) (ix_n (by omega) (by omega)) (hb.2.2 11 0 12 rfl) ?_
      refine q_iload_n dX0_allNext_37 rfl rfl ?_
      refine q_iald (x := nI v0) (j := n) dX0_allNext_38 (ty_r hb 12 rfl) (ix_n (by omega) (by omega)) r12 ?_
      refine q_if_ltN (tgt := 58) dX0_allNext_39 (by decide) (by omega) ?_
      refine q_iload dX0_allNext_42 rfl ?_
      refine q_aload_n dX0_allNext_44 rfl rfl rfl ?_
      refine q_aload_n dX0_allNext_45 rfl rfl rfl ?_
      refine q_getr (r := b + 11) dX0_allNext_46 fX0_129 rfl (ty_r hb 0 rfl) (hb.2.2 0 6 11 rfl) ?_
      refine q_iload dX0_allNext_49 rfl ?_
      refine q_aald (r := b + 12) (j := 0) dX0_allNext_51 (ty_r hb 11 rfl) (Or.inl rfl) (ix_n (by omega) (by omega)) (hb.2.2 11 0 12 rfl) ?_
      refine q_iload_n dX0_allNext_52 rfl rfl ?_
      refine q_iald (x := nI v0) (j := n) dX0_allNext_53 (ty_r hb 12 rfl) (ix_n (by omega) (by omega)) r12 ?_
      refine q_iald (x := mkN (fun e => v e v0) (psM q).length) (j := v0) dX0_allNext_54 (ty_r hb 27 rfl) (ix_n (by omega) (by omega)) (hv v0 b0.1) ?_
      refine q_iand dX0_allNext_55 ?_
      refine q_istore dX0_allNext_56 (by decide) (ls' := [(4, .int ((mkN (fun _ => true) (psM q).length) &&& (mkN (fun e => v e v0) (psM q).length))), (5, .int (nI 0)), (0, .ref (b + 21)), (1, .ref b), (2, .ref (b + 27)), (3, .int (nI n))]) rfl ?_
      refine q_iincN (c := 1) dX0_allNext_58 rfl (by decide) rfl (ls' := [(5, .int (nI 1)), (4, .int ((mkN (fun _ => true) (psM q).length) &&& (mkN (fun e => v e v0) (psM q).length))), (0, .ref (b + 21)), (1, .ref b), (2, .ref (b + 27)), (3, .int (nI n))]) rfl ?_
      refine q_goto (tgt := 24) dX0_allNext_61 (by decide) ?_
      refine q_iload dX0_allNext_24 rfl ?_
      refine q_iconst (v := nI 2) dX0_allNext_26 rfl ?_
      refine q_icmp_geN (tgt := 64) dX0_allNext_27 (by decide) (by omega) (by omega) (fun h => absurd h (by decide)) (fun _ => ?_)
      refine q_aload_n dX0_allNext_30 rfl rfl rfl ?_
      refine q_getr (r := b + 11) dX0_allNext_31 fX0_129 rfl (ty_r hb 0 rfl) (hb.2.2 0 6 11 rfl) ?_
      refine q_iload dX0_allNext_34 rfl ?_
      refine q_aald (r := b + 13) (j := 1) dX0_allNext_36 (ty_r hb 11 rfl) (Or.inl rfl) (ix_n (by omega) (by omega)) (hb.2.2 11 1 13 rfl) ?_
      refine q_iload_n dX0_allNext_37 rfl rfl ?_
      refine q_iald (x := nI v1) (j := n) dX0_allNext_38 (ty_r hb 13 rfl) (ix_n (by omega) (by omega)) r13 ?_
      refine q_if_ltN (tgt := 58) dX0_allNext_39 (by decide) (by omega) ?_
      refine q_iload dX0_allNext_42 rfl ?_
      refine q_aload_n dX0_allNext_44 rfl rfl rfl ?_
      refine q_aload_n dX0_allNext_45 rfl rfl rfl ?_
      refine q_getr (r := b + 11) dX0_allNext_46 fX0_129 rfl (ty_r hb 0 rfl) (hb.2.2 0 6 11 rfl) ?_
      refine q_iload dX0_allNext_49 rfl ?_
      refine q_aald (r := b + 13) (j := 1) dX0_allNext_51 (ty_r hb 11 rfl) (Or.inl rfl) (ix_n (by omega) (by omega)) (hb.2.2 11 1 13 rfl) ?_
      refine q_iload_n dX0_allNext_52 rfl rfl ?_
      refine q_iald (x := nI v1) (j := n) dX0_allNext_53 (ty_r hb 13 rfl) (ix_n (by omega) (by omega)) r13 ?_
      refine q_iald (x := mkN (fun e => v e v1) (psM q).length) (j := v1) dX0_allNext_54 (ty_r hb 27 rfl) (ix_n (by omega) (by omega)) (hv v1 b1.1) ?_
      refine q_iand dX0_allNext_55 ?_
      refine q_istore dX0_allNext_56 (by decide) (ls' := [(4, .int (((mkN (fun _ => true) (psM q).length) &&& (mkN (fun e => v e v0) (psM q).length)) &&& (mkN (fun e => v e v1) (psM q).length))), (5, .int (nI 1)), (0, .ref (b + 21)), (1, .ref b), (2, .ref (b + 27)), (3, .int (nI n))]) rfl ?_
      refine q_iincN (c := 1) dX0_allNext_58 rfl (by decide) rfl (ls' := [(5, .int (nI 2)), (4, .int (((mkN (fun _ => true) (psM q).length) &&& (mkN (fun e => v e v0) (psM q).length)) &&& (mkN (fun e => v e v1) (psM q).length))), (0, .ref (b + 21)), (1, .ref b), (2, .ref (b + 27)), (3, .int (nI n))]) rfl ?_
      refine q_goto (tgt := 24) dX0_allNext_61 (by decide) ?_
      refine q_iload dX0_allNext_24 rfl ?_
      refine q_iconst (v := nI 2) dX0_allNext_26 rfl ?_
      refine q_icmp_geN (tgt := 64) dX0_allNext_27 (by decide) (by omega) (by omega) (fun _ => ?_) (fun h => absurd h (by decide))
      refine q_iload dX0_allNext_64 rfl ?_
      refine q_ireturn dX0_allNext_66 rfl rfl (by omega) (by omega) ?_
      exact ⟨rfl, congrArg (fun z => some (Value.int z)) (by rw [mk_and hk, mk_and hk]; exact mk_ext fun e _ => by simp [alN, l0, l1])⟩
theorem z0_anyNext_30 (hq : FE σ b q) {v : Nat → Nat → Bool} (hv : FA σ (b + 30) q (fun e n => !v e n)) {n : Nat} (hn : n < NN q) : CT g mX0_anyNext 0 0 0 [.ref (b + 21), .ref b, .ref (b + 30), .int (nI n)] σ (PQ σ (.int (mkN (fun e => !alQ q (v e) n) (psM q).length))) := by
  obtain ⟨hb, hc, hw, hnb, hx, h14, hs, hall, hr⟩ := id hq
  have hb14 : b = 14 ∨ 99 ≤ b := by rcases hb.1 with h | ⟨j, h⟩ <;> omega
  have hNN := NN_le hc
  obtain ⟨r1, r3, r7, r12, r13⟩ := hr n hn
  have hl := K_l0 hq hn
  have hk := hq.k
  cases l0 : ld q 0 n with
  | none =>
    rw [l0] at r12
    cases l1 : ld q 1 n with
    | none =>
      rw [l1] at r13
      refine CT.of (by decide) (Nat.le_of_ble_eq_true rfl) ?_
      refine q_iconst (v := nI 0) dX0_anyNext_0 rfl ?_
      refine q_istore dX0_anyNext_1 (by decide) (ls' := [(4, .int (nI 0)), (0, .ref (b + 21)), (1, .ref b), (2, .ref (b + 30)), (3, .int (nI n))]) rfl ?_
      refine q_iconst (v := nI 0) dX0_anyNext_3 rfl ?_
      refine q_istore dX0_anyNext_4 (by decide) (ls' := [(5, .int (nI 0)), (4, .int (nI 0)), (0, .ref (b + 21)), (1, .ref b), (2, .ref (b + 30)), (3, .int (nI n))]) rfl ?_
      refine q_iload dX0_anyNext_6 rfl ?_
      refine q_iconst (v := nI 2) dX0_anyNext_8 rfl ?_
      refine q_icmp_geN (tgt := 46) dX0_anyNext_9 (by decide) (by omega) (by omega) (fun h => absurd h (by decide)) (fun _ => ?_)
      refine q_aload_n dX0_anyNext_12 rfl rfl rfl ?_
      refine q_getr (r := b + 11) dX0_anyNext_13 fX0_129 rfl (ty_r hb 0 rfl) (hb.2.2 0 6 11 rfl) ?_
      refine q_iload dX0_anyNext_16 rfl ?_
      refine q_aald (r := b + 12) (j := 0) dX0_anyNext_18 (ty_r hb 11 rfl) (Or.inl rfl) (ix_n (by omega) (by omega)) (hb.2.2 11 0 12 rfl) ?_
      refine q_iload_n dX0_anyNext_19 rfl rfl ?_
      refine q_iald (x := (-1)) (j := n) dX0_anyNext_20 (ty_r hb 12 rfl) (ix_n (by omega) (by omega)) r12 ?_
      refine q_if_lt1 (tgt := 40) dX0_anyNext_21 (by decide) (by decide) ?_
      refine q_iincN (c := 1) dX0_anyNext_40 rfl (by decide) rfl (ls' := [(5, .int (nI 1)), (4, .int (nI 0)), (0, .ref (b + 21)), (1, .ref b), (2, .ref (b + 30)), (3, .int (nI n))]) rfl ?_
      refine q_goto (tgt := 6) dX0_anyNext_43 (by decide) ?_
      refine q_iload dX0_anyNext_6 rfl ?_
      refine q_iconst (v := nI 2) dX0_anyNext_8 rfl ?_
      refine q_icmp_geN (tgt := 46) dX0_anyNext_9 (by decide) (by omega) (by omega) (fun h => absurd h (by decide)) (fun _ => ?_)
      refine q_aload_n dX0_anyNext_12 rfl rfl rfl ?_
      refine q_getr (r := b + 11) dX0_anyNext_13 fX0_129 rfl (ty_r hb 0 rfl) (hb.2.2 0 6 11 rfl) ?_
      refine q_iload dX0_anyNext_16 rfl ?_
      refine q_aald (r := b + 13) (j := 1) dX0_anyNext_18 (ty_r hb 11 rfl) (Or.inl rfl) (ix_n (by omega) (by omega)) (hb.2.2 11 1 13 rfl) ?_
      refine q_iload_n dX0_anyNext_19 rfl rfl ?_
      refine q_iald (x := (-1)) (j := n) dX0_anyNext_20 (ty_r hb 13 rfl) (ix_n (by omega) (by omega)) r13 ?_
      refine q_if_lt1 (tgt := 40) dX0_anyNext_21 (by decide) (by decide) ?_
      refine q_iincN (c := 1) dX0_anyNext_40 rfl (by decide) rfl (ls' := [(5, .int (nI 2)), (4, .int (nI 0)), (0, .ref (b + 21)), (1, .ref b), (2, .ref (b + 30)), (3, .int (nI n))]) rfl ?_
      refine q_goto (tgt := 6) dX0_anyNext_43 (by decide) ?_
      refine q_iload dX0_anyNext_6 rfl ?_
      refine q_iconst (v := nI 2) dX0_anyNext_8 rfl ?_
      refine q_icmp_geN (tgt := 46) dX0_anyNext_9 (by decide) (by omega) (by omega) (fun _ => ?_) (fun h => absurd h (by decide))
      refine q_iload dX0_anyNext_46 rfl ?_
      refine q_ireturn dX0_anyNext_48 rfl rfl (by omega) (by omega) ?_
      exact ⟨rfl, congrArg (fun z => some (Value.int z)) (by rw [mk_0 (psM q).length]; exact mk_ext fun e _ => by simp [alQ, l0, l1])⟩
    | some v1 =>
      rw [l1] at r13
      have b1 := hl.2 v1 l1
      refine CT.of (by decide) (Nat.le_of_ble_eq_true rfl) ?_
      refine q_iconst (v := nI 0) dX0_anyNext_0 rfl ?_
      refine q_istore dX0_anyNext_1 (by decide) (ls' := [(4, .int (nI 0)), (0, .ref (b + 21)), (1, .ref b), (2, .ref (b + 30)), (3, .int (nI n))]) rfl ?_
      refine q_iconst (v := nI 0) dX0_anyNext_3 rfl ?_
      refine q_istore dX0_anyNext_4 (by decide) (ls' := [(5, .int (nI 0)), (4, .int (nI 0)), (0, .ref (b + 21)), (1, .ref b), (2, .ref (b + 30)), (3, .int (nI n))]) rfl ?_
      refine q_iload dX0_anyNext_6 rfl ?_
      refine q_iconst (v := nI 2) dX0_anyNext_8 rfl ?_
      refine q_icmp_geN (tgt := 46) dX0_anyNext_9 (by decide) (by omega) (by omega) (fun h => absurd h (by decide)) (fun _ => ?_)
      refine q_aload_n dX0_anyNext_12 rfl rfl rfl ?_
      refine q_getr (r := b + 11) dX0_anyNext_13 fX0_129 rfl (ty_r hb 0 rfl) (hb.2.2 0 6 11 rfl) ?_
      refine q_iload dX0_anyNext_16 rfl ?_
      refine q_aald (r := b + 12) (j := 0) dX0_anyNext_18 (ty_r hb 11 rfl) (Or.inl rfl) (ix_n (by omega) (by omega)) (hb.2.2 11 0 12 rfl) ?_
      refine q_iload_n dX0_anyNext_19 rfl rfl ?_
      refine q_iald (x := (-1)) (j := n) dX0_anyNext_20 (ty_r hb 12 rfl) (ix_n (by omega) (by omega)) r12 ?_
      refine q_if_lt1 (tgt := 40) dX0_anyNext_21 (by decide) (by decide) ?_
      refine q_iincN (c := 1) dX0_anyNext_40 rfl (by decide) rfl (ls' := [(5, .int (nI 1)), (4, .int (nI 0)), (0, .ref (b + 21)), (1, .ref b), (2, .ref (b + 30)), (3, .int (nI n))]) rfl ?_
      refine q_goto (tgt := 6) dX0_anyNext_43 (by decide) ?_
      refine q_iload dX0_anyNext_6 rfl ?_
      refine q_iconst (v := nI 2) dX0_anyNext_8 rfl ?_
      refine q_icmp_geN (tgt := 46) dX0_anyNext_9 (by decide) (by omega) (by omega) (fun h => absurd h (by decide)) (fun _ => ?_)
      refine q_aload_n dX0_anyNext_12 rfl rfl rfl ?_
      refine q_getr (r := b + 11) dX0_anyNext_13 fX0_129 rfl (ty_r hb 0 rfl) (hb.2.2 0 6 11 rfl) ?_
      refine q_iload dX0_anyNext_16 rfl ?_
      refine q_aald (r := b + 13) (j := 1) dX0_anyNext_18 (ty_r hb 11 rfl) (Or.inl rfl) (ix_n (by omega) (by omega)) (hb.2.2 11 1 13 rfl) ?_
      refine q_iload_n dX0_anyNext_19 rfl rfl ?_
      refine q_iald (x := nI v1) (j := n) dX0_anyNext_20 (ty_r hb 13 rfl) (ix_n (by omega) (by omega)) r13 ?_
      refine q_if_ltN (tgt := 40) dX0_anyNext_21 (by decide) (by omega) ?_
      refine q_iload dX0_anyNext_24 rfl ?_
      refine q_aload_n dX0_anyNext_26 rfl rfl rfl ?_
      refine q_aload_n dX0_anyNext_27 rfl rfl rfl ?_
      refine q_getr (r := b + 11) dX0_anyNext_28 fX0_129 rfl (ty_r hb 0 rfl) (hb.2.2 0 6 11 rfl) ?_
      refine q_iload dX0_anyNext_31 rfl ?_
      refine q_aald (r := b + 13) (j := 1) dX0_anyNext_33 (ty_r hb 11 rfl) (Or.inl rfl) (ix_n (by omega) (by omega)) (hb.2.2 11 1 13 rfl) ?_
      refine q_iload_n dX0_anyNext_34 rfl rfl ?_
      refine q_iald (x := nI v1) (j := n) dX0_anyNext_35 (ty_r hb 13 rfl) (ix_n (by omega) (by omega)) r13 ?_
      refine q_iald (x := mkN (fun e => !v e v1) (psM q).length) (j := v1) dX0_anyNext_36 (ty_r hb 30 rfl) (ix_n (by omega) (by omega)) (hv v1 b1.1) ?_
      refine q_ior dX0_anyNext_37 ?_
      refine q_istore dX0_anyNext_38 (by decide) (ls' := [(4, .int ((nI 0) ||| (mkN (fun e => !v e v1) (psM q).length))), (5, .int (nI 1)), (0, .ref (b + 21)), (1, .ref b), (2, .ref (b + 30)), (3, .int (nI n))]) rfl ?_
      refine q_iincN (c := 1) dX0_anyNext_40 rfl (by decide) rfl (ls' := [(5, .int (nI 2)), (4, .int ((nI 0) ||| (mkN (fun e => !v e v1) (psM q).length))), (0, .ref (b + 21)), (1, .ref b), (2, .ref (b + 30)), (3, .int (nI n))]) rfl ?_
      refine q_goto (tgt := 6) dX0_anyNext_43 (by decide) ?_
      refine q_iload dX0_anyNext_6 rfl ?_
      refine q_iconst (v := nI 2) dX0_anyNext_8 rfl ?_
      refine q_icmp_geN (tgt := 46) dX0_anyNext_9 (by decide) (by omega) (by omega) (fun _ => ?_) (fun h => absurd h (by decide))
      refine q_iload dX0_anyNext_46 rfl ?_
      refine q_ireturn dX0_anyNext_48 rfl rfl (by omega) (by omega) ?_
      exact ⟨rfl, congrArg (fun z => some (Value.int z)) (by rw [mk_0 (psM q).length, mk_or hk]; exact mk_ext fun e _ => by simp [alQ, l0, l1])⟩
  | some v0 =>
    rw [l0] at r12
    have b0 := hl.1 v0 l0
    cases l1 : ld q 1 n with
    | none =>
      rw [l1] at r13
      refine CT.of (by decide) (Nat.le_of_ble_eq_true rfl) ?_
      refine q_iconst (v := nI 0) dX0_anyNext_0 rfl ?_
      refine q_istore dX0_anyNext_1 (by decide) (ls' := [(4, .int (nI 0)), (0, .ref (b + 21)), (1, .ref b), (2, .ref (b + 30)), (3, .int (nI n))]) rfl ?_
      refine q_iconst (v := nI 0) dX0_anyNext_3 rfl ?_
      refine q_istore dX0_anyNext_4 (by decide) (ls' := [(5, .int (nI 0)), (4, .int (nI 0)), (0, .ref (b + 21)), (1, .ref b), (2, .ref (b + 30)), (3, .int (nI n))]) rfl ?_
      refine q_iload dX0_anyNext_6 rfl ?_
      refine q_iconst (v := nI 2) dX0_anyNext_8 rfl ?_
      refine q_icmp_geN (tgt := 46) dX0_anyNext_9 (by decide) (by omega) (by omega) (fun h => absurd h (by decide)) (fun _ => ?_)
      refine q_aload_n dX0_anyNext_12 rfl rfl rfl ?_
      refine q_getr (r := b + 11) dX0_anyNext_13 fX0_129 rfl (ty_r hb 0 rfl) (hb.2.2 0 6 11 rfl) ?_
      refine q_iload dX0_anyNext_16 rfl ?_
      refine q_aald (r := b + 12) (j := 0) dX0_anyNext_18 (ty_r hb 11 rfl) (Or.inl rfl) (ix_n (by omega) (by omega)) (hb.2.2 11 0 12 rfl) ?_
      refine q_iload_n dX0_anyNext_19 rfl rfl ?_
      refine q_iald (x := nI v0) (j := n) dX0_anyNext_20 (ty_r hb 12 rfl) (ix_n (by omega) (by omega)) r12 ?_
      refine q_if_ltN (tgt := 40) dX0_anyNext_21 (by decide) (by omega) ?_
      refine q_iload dX0_anyNext_24 rfl ?_
      refine q_aload_n dX0_anyNext_26 rfl rfl rfl ?_
      refine q_aload_n dX0_anyNext_27 rfl rfl rfl ?_
      refine q_getr (r := b + 11) dX0_anyNext_28 fX0_129 rfl (ty_r hb 0 rfl) (hb.2.2 0 6 11 rfl) ?_
      refine q_iload dX0_anyNext_31 rfl ?_
      refine q_aald (r := b + 12) (j := 0) dX0_anyNext_33 (ty_r hb 11 rfl) (Or.inl rfl) (ix_n (by omega) (by omega)) (hb.2.2 11 0 12 rfl) ?_
      refine q_iload_n dX0_anyNext_34 rfl rfl ?_
      refine q_iald (x := nI v0) (j := n) dX0_anyNext_35 (ty_r hb 12 rfl) (ix_n (by omega) (by omega)) r12 ?_
      refine q_iald (x := mkN (fun e => !v e v0) (psM q).length) (j := v0) dX0_anyNext_36 (ty_r hb 30 rfl) (ix_n (by omega) (by omega)) (hv v0 b0.1) ?_
      refine q_ior dX0_anyNext_37 ?_
      refine q_istore dX0_anyNext_38 (by decide) (ls' := [(4, .int ((nI 0) ||| (mkN (fun e => !v e v0) (psM q).length))), (5, .int (nI 0)), (0, .ref (b + 21)), (1, .ref b), (2, .ref (b + 30)), (3, .int (nI n))]) rfl ?_
      refine q_iincN (c := 1) dX0_anyNext_40 rfl (by decide) rfl (ls' := [(5, .int (nI 1)), (4, .int ((nI 0) ||| (mkN (fun e => !v e v0) (psM q).length))), (0, .ref (b + 21)), (1, .ref b), (2, .ref (b + 30)), (3, .int (nI n))]) rfl ?_
      refine q_goto (tgt := 6) dX0_anyNext_43 (by decide) ?_
      refine q_iload dX0_anyNext_6 rfl ?_
      refine q_iconst (v := nI 2) dX0_anyNext_8 rfl ?_
      refine q_icmp_geN (tgt := 46) dX0_anyNext_9 (by decide) (by omega) (by omega) (fun h => absurd h (by decide)) (fun _ => ?_)
      refine q_aload_n dX0_anyNext_12 rfl rfl rfl ?_
      refine q_getr (r := b + 11) dX0_anyNext_13 fX0_129 rfl (ty_r hb 0 rfl) (hb.2.2 0 6 11 rfl) ?_
      refine q_iload dX0_anyNext_16 rfl ?_
      refine q_aald (r := b + 13) (j := 1) dX0_anyNext_18 (ty_r hb 11 rfl) (Or.inl rfl) (ix_n (by omega) (by omega)) (hb.2.2 11 1 13 rfl) ?_
      refine q_iload_n dX0_anyNext_19 rfl rfl ?_
      refine q_iald (x := (-1)) (j := n) dX0_anyNext_20 (ty_r hb 13 rfl) (ix_n (by omega) (by omega)) r13 ?_
      refine q_if_lt1 (tgt := 40) dX0_anyNext_21 (by decide) (by decide) ?_
      refine q_iincN (c := 1) dX0_anyNext_40 rfl (by decide) rfl (ls' := [(5, .int (nI 2)), (4, .int ((nI 0) ||| (mkN (fun e => !v e v0) (psM q).length))), (0, .ref (b + 21)), (1, .ref b), (2, .ref (b + 30)), (3, .int (nI n))]) rfl ?_
      refine q_goto (tgt := 6) dX0_anyNext_43 (by decide) ?_
      refine q_iload dX0_anyNext_6 rfl ?_
      refine q_iconst (v := nI 2) dX0_anyNext_8 rfl ?_
      refine q_icmp_geN (tgt := 46) dX0_anyNext_9 (by decide) (by omega) (by omega) (fun _ => ?_) (fun h => absurd h (by decide))
      refine q_iload dX0_anyNext_46 rfl ?_
      refine q_ireturn dX0_anyNext_48 rfl rfl (by omega) (by omega) ?_
      exact ⟨rfl, congrArg (fun z => some (Value.int z)) (by rw [mk_0 (psM q).length, mk_or hk]; exact mk_ext fun e _ => by simp [alQ, l0, l1])⟩
    | some v1 =>
      rw [l1] at r13
      have b1 := hl.2 v1 l1
      refine CT.of (by decide) (Nat.le_of_ble_eq_true rfl) ?_
      refine q_iconst (v := nI 0) dX0_anyNext_0 rfl ?_
      refine q_istore dX0_anyNext_1 (by decide) (ls' := [(4, .int (nI 0)), (0, .ref (b + 21)), (1, .ref b), (2, .ref (b + 30)), (3, .int (nI n))]) rfl ?_
      refine q_iconst (v := nI 0) dX0_anyNext_3 rfl ?_
      refine q_istore dX0_anyNext_4 (by decide) (ls' := [(5, .int (nI 0)), (4, .int (nI 0)), (0, .ref (b + 21)), (1, .ref b), (2, .ref (b + 30)), (3, .int (nI n))]) rfl ?_
      refine q_iload dX0_anyNext_6 rfl ?_
      refine q_iconst (v := nI 2) dX0_anyNext_8 rfl ?_
      refine q_icmp_geN (tgt := 46) dX0_anyNext_9 (by decide) (by omega) (by omega) (fun h => absurd h (by decide)) (fun _ => ?_)
      refine q_aload_n dX0_anyNext_12 rfl rfl rfl ?_
      refine q_getr (r := b + 11) dX0_anyNext_13 fX0_129 rfl (ty_r hb 0 rfl) (hb.2.2 0 6 11 rfl) ?_
      refine q_iload dX0_anyNext_16 rfl ?_
      refine q_aald (r := b + 12) (j := 0) dX0_anyNext_18 (ty_r hb 11 rfl) (Or.inl rfl) (ix_n (by omega) (by omega)) (hb.2.2 11 0 12 rfl) ?_
      refine q_iload_n dX0_anyNext_19 rfl rfl ?_
      refine q_iald (x := nI v0) (j := n) dX0_anyNext_20 (ty_r hb 12 rfl) (ix_n (by omega) (by omega)) r12 ?_
      refine q_if_ltN (tgt := 40) dX0_anyNext_21 (by decide) (by omega) ?_
      refine q_iload dX0_anyNext_24 rfl ?_
      refine q_aload_n dX0_anyNext_26 rfl rfl rfl ?_
      refine q_aload_n dX0_anyNext_27 rfl rfl rfl ?_
      refine q_getr (r := b + 11) dX0_anyNext_28 fX0_129 rfl (ty_r hb 0 rfl) (hb.2.2 0 6 11 rfl) ?_
      refine q_iload dX0_anyNext_31 rfl ?_
      refine q_aald (r := b + 12) (j := 0) dX0_anyNext_33 (ty_r hb 11 rfl) (Or.inl rfl) (ix_n (by omega) (by omega)) (hb.2.2 11 0 12 rfl) ?_
      refine q_iload_n dX0_anyNext_34 rfl rfl ?_
      refine q_iald (x := nI v0) (j := n) dX0_anyNext_35 (ty_r hb 12 rfl) (ix_n (by omega) (by omega)) r12 ?_
      refine q_iald (x := mkN (fun e => !v e v0) (psM q).length) (j := v0) dX0_anyNext_36 (ty_r hb 30 rfl) (ix_n (by omega) (by omega)) (hv v0 b0.1) ?_
      refine q_ior dX0_anyNext_37 ?_
      refine q_istore dX0_anyNext_38 (by decide) (ls' := [(4, .int ((nI 0) ||| (mkN (fun e => !v e v0) (psM q).length))), (5, .int (nI 0)), (0, .ref (b + 21)), (1, .ref b), (2, .ref (b + 30)), (3, .int (nI n))]) rfl ?_
      refine q_iincN (c := 1) dX0_anyNext_40 rfl (by decide) rfl (ls' := [(5, .int (nI 1)), (4, .int ((nI 0) ||| (mkN (fun e => !v e v0) (psM q).length))), (0, .ref (b + 21)), (1, .ref b), (2, .ref (b + 30)), (3, .int (nI n))]) rfl ?_
      refine q_goto (tgt := 6) dX0_anyNext_43 (by decide) ?_
      refine q_iload dX0_anyNext_6 rfl ?_
      refine q_iconst (v := nI 2) dX0_anyNext_8 rfl ?_
      refine q_icmp_geN (tgt := 46) dX0_anyNext_9 (by decide) (by omega) (by omega) (fun h => absurd h (by decide)) (fun _ => ?_)
      refine q_aload_n dX0_anyNext_12 rfl rfl rfl ?_
      refine q_getr (r := b + 11) dX0_anyNext_13 fX0_129 rfl (ty_r hb 0 rfl) (hb.2.2 0 6 11 rfl) ?_
      refine q_iload dX0_anyNext_16 rfl ?_
      refine q_aald (r := b + 13) (j := 1) dX0_anyNext_18 (ty_r hb 11 rfl) (Or.inl rfl) (ix_n (by omega) (by omega)) (hb.2.2 11 1 13 rfl) ?_
      refine q_iload_n dX0_anyNext_19 rfl rfl ?_
      refine q_iald (x := nI v1) (j := n) dX0_anyNext_20 (ty_r hb 13 rfl) (ix_n (by omega) (by omega)) r13 ?_
      refine q_if_ltN (tgt := 40) dX0_anyNext_21 (by decide) (by omega) ?_
      refine q_iload dX0_anyNext_24 rfl ?_
      refine q_aload_n dX0_anyNext_26 rfl rfl rfl ?_
      refine q_aload_n dX0_anyNext_27 rfl rfl rfl ?_
      refine q_getr (r := b + 11) dX0_anyNext_28 fX0_129 rfl (ty_r hb 0 rfl) (hb.2.2 0 6 11 rfl) ?_
      refine q_iload dX0_anyNext_31 rfl ?_
      refine q_aald (r := b + 13) (j := 1) dX0_anyNext_33 (ty_r hb 11 rfl) (Or.inl rfl) (ix_n (by omega) (by omega)) (hb.2.2 11 1 13 rfl) ?_
      refine q_iload_n dX0_anyNext_34 rfl rfl ?_
      refine q_iald (x := nI v1) (j := n) dX0_anyNext_35 (ty_r hb 13 rfl) (ix_n (by omega) (by omega)) r13 ?_
      refine q_iald (x := mkN (fun e => !v e v1) (psM q).length) (j := v1) dX0_anyNext_36 (ty_r hb 30 rfl) (ix_n (by omega) (by omega)) (hv v1 b1.1) ?_
      refine q_ior dX0_anyNext_37 ?_
      refine q_istore dX0_anyNext_38 (by decide) (ls' := [(4, .int (((nI 0) ||| (mkN (fun e => !v e v0) (psM q).length)) ||| (mkN (fun e => !v e v1) (psM q).length))), (5, .int (nI 1)), (0, .ref (b + 21)), (1, .ref b), (2, .ref (b + 30)), (3, .int (nI n))]) rfl ?_
      refine q_iincN (c := 1) dX0_anyNext_40 rfl (by decide) rfl (ls' := [(5, .int (nI 2)), (4, .int (((nI 0) ||| (mkN (fun e => !v e v0) (psM q).length)) ||| (mkN (fun e => !v e v1) (psM q).length))), (0, .ref (b + 21)), (1, .ref b), (2, .ref (b + 30)), (3, .int (nI n))]) rfl ?_
      refine q_goto (tgt := 6) dX0_anyNext_43 (by decide) ?_
      refine q_iload dX0_anyNext_6 rfl ?_
      refine q_iconst (v := nI 2) dX0_anyNext_8 rfl ?_
      refine q_icmp_geN (tgt := 46) dX0_anyNext_9 (by decide) (by omega) (by omega) (fun _ => ?_) (fun h => absurd h (by decide))
      refine q_iload dX0_anyNext_46 rfl ?_
      refine q_ireturn dX0_anyNext_48 rfl rfl (by omega) (by omega) ?_
      exact ⟨rfl, congrArg (fun z => some (Value.int z)) (by rw [mk_0 (psM q).length, mk_or hk, mk_or hk]; exact mk_ext fun e _ => by simp [alQ, l0, l1])⟩
theorem z0_anyNext_31 (hq : FE σ b q) {v : Nat → Nat → Bool} (hv : FA σ (b + 31) q (fun e n => !v e n)) {n : Nat} (hn : n < NN q) : CT g mX0_anyNext 0 0 0 [.ref (b + 21), .ref b, .ref (b + 31), .int (nI n)] σ (PQ σ (.int (mkN (fun e => !alQ q (v e) n) (psM q).length))) := by
  obtain ⟨hb, hc, hw, hnb, hx, h14, hs, hall, hr⟩ := id hq
  have hb14 : b = 14 ∨ 99 ≤ b := by rcases hb.1 with h | ⟨j, h⟩ <;> omega
  have hNN := NN_le hc
  obtain ⟨r1, r3, r7, r12, r13⟩ := hr n hn
  have hl := K_l0 hq hn
  have hk := hq.k
  cases l0 : ld q 0 n with
  | none =>
    rw [l0] at r12
    cases l1 : ld q 1 n with
    | none =>
      rw [l1] at r13
      refine CT.of (by decide) (Nat.le_of_ble_eq_true rfl) ?_
      refine q_iconst (v := nI 0) dX0_anyNext_0 rfl ?_
      refine q_istore dX0_anyNext_1 (by decide) (ls' := [(4, .int (nI 0)), (0, .ref (b + 21)), (1, .ref b), (2, .ref (b + 31)), (3, .int (nI n))]) rfl ?_
      refine q_iconst (v := nI 0) dX0_anyNext_3 rfl ?_
      refine q_istore dX0_anyNext_4 (by decide) (ls' := [(5, .int (nI 0)), (4, .int (nI 0)), (0, .ref (b + 21)), (1, .ref b), (2, .ref (b + 31)), (3, .int (nI n))]) rfl ?_
      refine q_iload dX0_anyNext_6 rfl ?_
      refine q_iconst (v := nI 2) dX0_anyNext_8 rfl ?_
      refine q_icmp_geN (tgt := 46) dX0_anyNext_9 (by decide) (by omega) (by omega) (fun h => absurd h (by decide)) (fun _ => ?_)
      refine q_aload_n dX0_anyNext_12 rfl rfl rfl ?_
      refine q_getr (r := b + 11) dX0_anyNext_13 fX0_129 rfl (ty_r hb 0 rfl) (hb.2.2 0 6 11 rfl) ?_
      refine q_iload dX0_anyNext_16 rfl ?_
      refine q_aald (r := b + 12) (j := 0) dX0_anyNext_18 (ty_r hb 11 rfl) (Or.inl rfl) (ix_n (by omega) (by omega)) (hb.2.2 11 0 12 rfl) ?_
      refine q_iload_n dX0_anyNext_19 rfl rfl ?_
      refine q_iald (x := (-1)) (j := n) dX0_anyNext_20 (ty_r hb 12 rfl) (ix_n (by omega) (by omega)) r12 ?_
      refine q_if_lt1 (tgt := 40) dX0_anyNext_21 (by decide) (by decide) ?_
      refine q_iincN (c := 1) dX0_anyNext_40 rfl (by decide) rfl (ls' := [(5, .int (nI 1)), (4, .int (nI 0)), (0, .ref (b + 21)), (1, .ref b), (2, .ref (b + 31)), (3, .int (nI n))]) rfl ?_
      refine q_goto (tgt := 6) dX0_anyNext_43 (by decide) ?_
      refine q_iload dX0_anyNext_6 rfl ?_
      refine q_iconst (v := nI 2) dX0_anyNext_8 rfl ?_
      refine q_icmp_geN (tgt := 46) dX0_anyNext_9 (by decide) (by omega) (by omega) (fun h => absurd h (by decide)) (fun _ => ?_)
      refine q_aload_n dX0_anyNext_12 rfl rfl rfl ?_
      refine q_getr (r := b + 11) dX0_anyNext_13 fX0_129 rfl (ty_r hb 0 rfl) (hb.2.2 0 6 11 rfl) ?_
      refine q_iload dX0_anyNext_16 rfl ?_
      refine q_aald (r := b + 13) (j := 1) dX0_anyNext_18 (ty_r hb 11 rfl) (Or.inl rfl) (ix_n (by omega) (by omega)) (hb.2.2 11 1 13 rfl) ?_
      refine q_iload_n dX0_anyNext_19 rfl rfl ?_
      refine q_iald (x := (-1)) (j := n) dX0_anyNext_20 (ty_r hb 13 rfl) (ix_n (by omega) (by omega)) r13 ?_
      refine q_if_lt1 (tgt := 40) dX0_anyNext_21 (by decide) (by decide) ?_
      refine q_iincN (c := 1) dX0_anyNext_40 rfl (by decide) rfl (ls' := [(5, .int (nI 2)), (4, .int (nI 0)), (0, .ref (b + 21)), (1, .ref b), (2, .ref (b + 31)), (3, .int (nI n))]) rfl ?_
      refine q_goto (tgt := 6) dX0_anyNext_43 (by decide) ?_
      refine q_iload dX0_anyNext_6 rfl ?_
      refine q_iconst (v := nI 2) dX0_anyNext_8 rfl ?_
      refine q_icmp_geN (tgt := 46) dX0_anyNext_9 (by decide) (by omega) (by omega) (fun _ => ?_) (fun h => absurd h (by decide))
      refine q_iload dX0_anyNext_46 rfl ?_
      refine q_ireturn dX0_anyNext_48 rfl rfl (by omega) (by omega) ?_
      exact ⟨rfl, congrArg (fun z => some (Value.int z)) (by rw [mk_0 (psM q).length]; exact mk_ext fun e _ => by simp [alQ, l0, l1])⟩
    | some v1 =>
      rw [l1] at r13
      have b1 := hl.2 v1 l1
      refine CT.of (by decide) (Nat.le_of_ble_eq_true rfl) ?_
      refine q_iconst (v := nI 0) dX0_anyNext_0 rfl ?_
      refine q_istore dX0_anyNext_1 (by decide) (ls' := [(4, .int (nI 0)), (0, .ref (b + 21)), (1, .ref b), (2, .ref (b + 31)), (3, .int (nI n))]) rfl ?_
      refine q_iconst (v := nI 0) dX0_anyNext_3 rfl ?_
      refine q_istore dX0_anyNext_4 (by decide) (ls' := [(5, .int (nI 0)), (4, .int (nI 0)), (0, .ref (b + 21)), (1, .ref b), (2, .ref (b + 31)), (3, .int (nI n))]) rfl ?_
      refine q_iload dX0_anyNext_6 rfl ?_
      refine q_iconst (v := nI 2) dX0_anyNext_8 rfl ?_
      refine q_icmp_geN (tgt := 46) dX0_anyNext_9 (by decide) (by omega) (by omega) (fun h => absurd h (by decide)) (fun _ => ?_)
      refine q_aload_n dX0_anyNext_12 rfl rfl rfl ?_
      refine q_getr (r := b + 11) dX0_anyNext_13 fX0_129 rfl (ty_r hb 0 rfl) (hb.2.2 0 6 11 rfl) ?_
      refine q_iload dX0_anyNext_16 rfl ?_
      refine q_aald (r := b + 12) (j := 0) dX0_anyNext_18 (ty_r hb 11 rfl) (Or.inl rfl) (ix_n (by omega) (by omega)) (hb.2.2 11 0 12 rfl) ?_
      refine q_iload_n dX0_anyNext_19 rfl rfl ?_
      refine q_iald (x := (-1)) (j := n) dX0_anyNext_20 (ty_r hb 12 rfl) (ix_n (by omega) (by omega)) r12 ?_
      refine q_if_lt1 (tgt := 40) dX0_anyNext_21 (by decide) (by decide) ?_
      refine q_iincN (c := 1) dX0_anyNext_40 rfl (by decide) rfl (ls' := [(5, .int (nI 1)), (4, .int (nI 0)), (0, .ref (b + 21)), (1, .ref b), (2, .ref (b + 31)), (3, .int (nI n))]) rfl ?_
      refine q_goto (tgt := 6) dX0_anyNext_43 (by decide) ?_
      refine q_iload dX0_anyNext_6 rfl ?_
      refine q_iconst (v := nI 2) dX0_anyNext_8 rfl ?_
      refine q_icmp_geN (tgt := 46) dX0_anyNext_9 (by decide) (by omega) (by omega) (fun h => absurd h (by decide)) (fun _ => ?_)
      refine q_aload_n dX0_anyNext_12 rfl rfl rfl ?_
      refine q_getr (r := b + 11) dX0_anyNext_13 fX0_129 rfl (ty_r hb 0 rfl) (hb.2.2 0 6 11 rfl) ?_
      refine q_iload dX0_anyNext_16 rfl ?_
      refine q_aald (r := b + 13) (j := 1) dX0_anyNext_18 (ty_r hb 11 rfl) (Or.inl rfl) (ix_n (by omega) (by omega)) (hb.2.2 11 1 13 rfl) ?_
      refine q_iload_n dX0_anyNext_19 rfl rfl ?_
      refine q_iald (x := nI v1) (j := n) dX0_anyNext_20 (ty_r hb 13 rfl) (ix_n (by omega) (by omega)) r13 ?_
      refine q_if_ltN (tgt := 40) dX0_anyNext_21 (by decide) (by omega) ?_
      refine q_iload dX0_anyNext_24 rfl ?_
      refine q_aload_n dX0_anyNext_26 rfl rfl rfl ?_
      refine q_aload_n dX0_anyNext_27 rfl rfl rfl ?_
      refine q_getr (r := b + 11) dX0_anyNext_28 fX0_129 rfl (ty_r hb 0 rfl) (hb.2.2 0 6 11 rfl) ?_
      refine q_iload dX0_anyNext_31 rfl ?_
      refine q_aald (r := b + 13) (j := 1) dX0_anyNext_33 (ty_r hb 11 rfl) (Or.inl rfl) (ix_n (by omega) (by omega)) (hb.2.2 11 1 13 rfl) ?_
      refine q_iload_n dX0_anyNext_34 rfl rfl ?_
      refine q_iald (x := nI v1) (j := n) dX0_anyNext_35 (ty_r hb 13 rfl) (ix_n (by omega) (by omega)) r13 ?_
      refine q_iald (x := mkN (fun e => !v e v1) (psM q).length) (j := v1) dX0_anyNext_36 (ty_r hb 31 rfl) (ix_n (by omega) (by omega)) (hv v1 b1.1) ?_
      refine q_ior dX0_anyNext_37 ?_
      refine q_istore dX0_anyNext_38 (by decide) (ls' := [(4, .int ((nI 0) ||| (mkN (fun e => !v e v1) (psM q).length))), (5, .int (nI 1)), (0, .ref (b + 21)), (1, .ref b), (2, .ref (b + 31)), (3, .int (nI n))]) rfl ?_
      refine q_iincN (c := 1) dX0_anyNext_40 rfl (by decide) rfl (ls' := [(5, .int (nI 2)), (4, .int ((nI 0) ||| (mkN (fun e => !v e v1) (psM q).length))), (0, .ref (b + 21)), (1, .ref b), (2, .ref (b + 31)), (3, .int (nI n))]) rfl ?_
      refine q_goto (tgt := 6) dX0_anyNext_43 (by decide) ?_
      refine q_iload dX0_anyNext_6 rfl ?_
      refine q_iconst (v := nI 2) dX0_anyNext_8 rfl ?_
      refine q_icmp_geN (tgt := 46) dX0_anyNext_9 (by decide) (by omega) (by omega) (fun _ => ?_) (fun h => absurd h (by decide))
      refine q_iload dX0_anyNext_46 rfl ?_
      refine q_ireturn dX0_anyNext_48 rfl rfl (by omega) (by omega) ?_
      exact ⟨rfl, congrArg (fun z => some (Value.int z)) (by rw [mk_0 (psM q).length, mk_or hk]; exact mk_ext fun e _ => by simp [alQ, l0, l1])⟩
  | some v0 =>
    rw [l0] at r12
    have b0 := hl.1 v0 l0
    cases l1 : ld q 1 n with
    | none =>
      rw [l1] at r13
      refine CT.of (by decide) (Nat.le_of_ble_eq_true rfl) ?_
      refine q_iconst (v := nI 0) dX0_anyNext_0 rfl ?_
      refine q_istore dX0_anyNext_1 (by decide) (ls' := [(4, .int (nI 0)), (0, .ref (b + 21)), (1, .ref b), (2, .ref (b + 31)), (3, .int (nI n))]) rfl ?_
      refine q_iconst (v := nI 0) dX0_anyNext_3 rfl ?_
      refine q_istore dX0_anyNext_4 (by decide) (ls' := [(5, .int (nI 0)), (4, .int (nI 0)), (0, .ref (b + 21)), (1, .ref b), (2, .ref (b + 31)), (3, .int (nI n))]) rfl ?_
      refine q_iload dX0_anyNext_6 rfl ?_
      refine q_iconst (v := nI 2) dX0_anyNext_8 rfl ?_
      refine q_icmp_geN (tgt := 46) dX0_anyNext_9 (by decide) (by omega) (by omega) (fun h => absurd h (by decide)) (fun _ => ?_)
      refine q_aload_n dX0_anyNext_12 rfl rfl rfl ?_
      refine q_getr (r := b + 11) dX0_anyNext_13 fX0_129 rfl (ty_r hb 0 rfl) (hb.2.2 0 6 11 rfl) ?_
      refine q_iload dX0_anyNext_16 rfl ?_
      refine q_aald (r := b + 12) (j := 0) dX0_anyNext_18 (ty_r hb 11 rfl) (Or.inl rfl) (ix_n (by omega) (by omega)) (hb.2.2 11 0 12 rfl) ?_
      refine q_iload_n dX0_anyNext_19 rfl rfl ?_
      refine q_iald (x := nI v0) (j := n) dX0_anyNext_20 (ty_r hb 12 rfl) (ix_n (by omega) (by omega)) r12 ?_
      refine q_if_ltN (tgt := 40) dX0_anyNext_21 (by decide) (by omega) ?_
      refine q_iload dX0_anyNext_24 rfl ?_
      refine q_aload_n dX0_anyNext_26 rfl rfl rfl ?_
      refine q_aload_n dX0_anyNext_27 rfl rfl rfl ?_
      refine q_getr (r := b + 11) dX0_anyNext_28 fX0_129 rfl (ty_r hb 0 rfl) (hb.2.2 0 6 11 rfl) ?_
      refine q_iload dX0_anyNext_31 rfl ?_
      refine q_aald (r := b + 12) (j := 0) dX0_anyNext_33 (ty_r hb 11 rfl) (Or.inl rfl) (ix_n (by omega) (by omega)) (hb.2.2 11 0 12 rfl) ?_
      refine q_iload_n dX0_anyNext_34 rfl rfl ?_
      refine q_iald (x := nI v0) (j := n) dX0_anyNext_35 (ty_r hb 12 rfl) (ix_n (by omega) (by omega)) r12 ?_
      refine q_iald (x := mkN (fun e => !v e v0) (psM q).length) (j := v0) dX0_anyNext_36 (ty_r hb 31 rfl) (ix_n (by omega) (by omega)) (hv v0 b0.1) ?_
      refine q_ior dX0_anyNext_37 ?_
      refine q_istore dX0_anyNext_38 (by decide) (ls' := [(4, .int ((nI 0) ||| (mkN (fun e => !v e v0) (psM q).length))), (5, .int (nI 0)), (0, .ref (b + 21)), (1, .ref b), (2, .ref (b + 31)), (3, .int (nI n))]) rfl ?_
      refine q_iincN (c := 1) dX0_anyNext_40 rfl (by decide) rfl (ls' := [(5, .int (nI 1)), (4, .int ((nI 0) ||| (mkN (fun e => !v e v0) (psM q).length))), (0, .ref (b + 21)), (1, .ref b), (2, .ref (b + 31)), (3, .int (nI n))]) rfl ?_
      refine q_goto (tgt := 6) dX0_anyNext_43 (by decide) ?_
      refine q_iload dX0_anyNext_6 rfl ?_
      refine q_iconst (v := nI 2) dX0_anyNext_8 rfl ?_
      refine q_icmp_geN (tgt := 46) dX0_anyNext_9 (by decide) (by omega) (by omega) (fun h => absurd h (by decide)) (fun _ => ?_)
      refine q_aload_n dX0_anyNext_12 rfl rfl rfl ?_
      refine q_getr (r := b + 11) dX0_anyNext_13 fX0_129 rfl (ty_r hb 0 rfl) (hb.2.2 0 6 11 rfl) ?_
      refine q_iload dX0_anyNext_16 rfl ?_
      refine q_aald (r := b + 13) (j := 1) dX0_anyNext_18 (ty_r hb 11 rfl) (Or.inl rfl) (ix_n (by omega) (by omega)) (hb.2.2 11 1 13 rfl) ?_
      refine q_iload_n dX0_anyNext_19 rfl rfl ?_
      refine q_iald (x := (-1)) (j := n) dX0_anyNext_20 (ty_r hb 13 rfl) (ix_n (by omega) (by omega)) r13 ?_
      refine q_if_lt1 (tgt := 40) dX0_anyNext_21 (by decide) (by decide) ?_
      refine q_iincN (c := 1) dX0_anyNext_40 rfl (by decide) rfl (ls' := [(5, .int (nI 2)), (4, .int ((nI 0) ||| (mkN (fun e => !v e v0) (psM q).length))), (0, .ref (b + 21)), (1, .ref b), (2, .ref (b + 31)), (3, .int (nI n))]) rfl ?_
      refine q_goto (tgt := 6) dX0_anyNext_43 (by decide) ?_
      refine q_iload dX0_anyNext_6 rfl ?_
      refine q_iconst (v := nI 2) dX0_anyNext_8 rfl ?_
      refine q_icmp_geN (tgt := 46) dX0_anyNext_9 (by decide) (by omega) (by omega) (fun _ => ?_) (fun h => absurd h (by decide))
      refine q_iload dX0_anyNext_46 rfl ?_
      refine q_ireturn dX0_anyNext_48 rfl rfl (by omega) (by omega) ?_
      exact ⟨rfl, congrArg (fun z => some (Value.int z)) (by rw [mk_0 (psM q).length, mk_or hk]; exact mk_ext fun e _ => by simp [alQ, l0, l1])⟩
    | some v1 =>
      rw [l1] at r13
      have b1 := hl.2 v1 l1
      refine CT.of (by decide) (Nat.le_of_ble_eq_true rfl) ?_
      refine q_iconst (v := nI 0) dX0_anyNext_0 rfl ?_
      refine q_istore dX0_anyNext_1 (by decide) (ls' := [(4, .int (nI 0)), (0, .ref (b + 21)), (1, .ref b), (2, .ref (b + 31)), (3, .int (nI n))]) rfl ?_
      refine q_iconst (v := nI 0) dX0_anyNext_3 rfl ?_
      refine q_istore dX0_anyNext_4 (by decide) (ls' := [(5, .int (nI 0)), (4, .int (nI 0)), (0, .ref (b + 21)), (1, .ref b), (2, .ref (b + 31)), (3, .int (nI n))]) rfl ?_
      refine q_iload dX0_anyNext_6 rfl ?_
      refine q_iconst (v := nI 2) dX0_anyNext_8 rfl ?_
      refine q_icmp_geN (tgt := 46) dX0_anyNext_9 (by decide) (by omega) (by omega) (fun h => absurd h (by decide)) (fun _ => ?_)
      refine q_aload_n dX0_anyNext_12 rfl rfl rfl ?_
      refine q_getr (r := b + 11) dX0_anyNext_13 fX0_129 rfl (ty_r hb 0 rfl) (hb.2.2 0 6 11 rfl) ?_
      refine q_iload dX0_anyNext_16 rfl ?_
      refine q_aald (r := b + 12) (j := 0) dX0_anyNext_18 (ty_r hb 11 rfl) (Or.inl rfl) (ix_n (by omega) (by omega)) (hb.2.2 11 0 12 rfl) ?_
      refine q_iload_n dX0_anyNext_19 rfl rfl ?_
      refine q_iald (x := nI v0) (j := n) dX0_anyNext_20 (ty_r hb 12 rfl) (ix_n (by omega) (by omega)) r12 ?_
      refine q_if_ltN (tgt := 40) dX0_anyNext_21 (by decide) (by omega) ?_
      refine q_iload dX0_anyNext_24 rfl ?_
      refine q_aload_n dX0_anyNext_26 rfl rfl rfl ?_
      refine q_aload_n dX0_anyNext_27 rfl rfl rfl ?_
      refine q_getr (r := b + 11) dX0_anyNext_28 fX0_129 rfl (ty_r hb 0 rfl) (hb.2.2 0 6 11 rfl) ?_
      refine q_iload dX0_anyNext_31 rfl ?_
      refine q_aald (r := b + 12) (j := 0) dX0_anyNext_33 (ty_r hb 11 rfl) (Or.inl rfl) (ix_n (by omega) (by omega)) (hb.2.2 11 0 12 rfl) ?_
      refine q_iload_n dX0_anyNext_34 rfl rfl ?_
      refine q_iald (x := nI v0) (j := n) dX0_anyNext_35 (ty_r hb 12 rfl) (ix_n (by omega) (by omega)) r12 ?_
      refine q_iald (x := mkN (fun e => !v e v0) (psM q).length) (j := v0) dX0_anyNext_36 (ty_r hb 31 rfl) (ix_n (by omega) (by omega)) (hv v0 b0.1) ?_
      refine q_ior dX0_anyNext_37 ?_
      refine q_istore dX0_anyNext_38 (by decide) (ls' := [(4, .int ((nI 0) ||| (mkN (fun e => !v e v0) (psM q).length))), (5, .int (nI 0)), (0, .ref (b + 21)), (1, .ref b), (2, .ref (b + 31)), (3, .int (nI n))]) rfl ?_
      refine q_iincN (c := 1) dX0_anyNext_40 rfl (by decide) rfl (ls' := [(5, .int (nI 1)), (4, .int ((nI 0) ||| (mkN (fun e => !v e v0) (psM q).length))), (0, .ref (b + 21)), (1, .ref b), (2, .ref (b + 31)), (3, .int (nI n))]) rfl ?_
      refine q_goto (tgt := 6) dX0_anyNext_43 (by decide) ?_
      refine q_iload dX0_anyNext_6 rfl ?_
      refine q_iconst (v := nI 2) dX0_anyNext_8 rfl ?_
      refine q_icmp_geN (tgt := 46) dX0_anyNext_9 (by decide) (by omega) (by omega) (fun h => absurd h (by decide)) (fun _ => ?_)
      refine q_aload_n dX0_anyNext_12 rfl rfl rfl ?_
      refine q_getr (r := b + 11) dX0_anyNext_13 fX0_129 rfl (ty_r hb 0 rfl) (hb.2.2 0 6 11 rfl) ?_
      refine q_iload dX0_anyNext_16 rfl ?_
      refine q_aald (r := b + 13) (j := 1) dX0_anyNext_18 (ty_r hb 11 rfl) (Or.inl rfl) (ix_n (by omega) (by omega)) (hb.2.2 11 1 13 rfl) ?_
      refine q_iload_n dX0_anyNext_19 rfl rfl ?_
      refine q_iald (x := nI v1) (j := n) dX0_anyNext_20 (ty_r hb 13 rfl) (ix_n (by omega) (by omega)) r13 ?_
      refine q_if_ltN (tgt := 40) dX0_anyNext_21 (by decide) (by omega) ?_
      refine q_iload dX0_anyNext_24 rfl ?_
      refine q_aload_n dX0_anyNext_26 rfl rfl rfl ?_
      refine q_aload_n dX0_anyNext_27 rfl rfl rfl ?_
      refine q_getr (r := b + 11) dX0_anyNext_28 fX0_129 rfl (ty_r hb 0 rfl) (hb.2.2 0 6 11 rfl) ?_
      refine q_iload dX0_anyNext_31 rfl ?_
      refine q_aald (r := b + 13) (j := 1) dX0_anyNext_33 (ty_r hb 11 rfl) (Or.inl rfl) (ix_n (by omega) (by omega)) (hb.2.2 11 1 13 rfl) ?_
      refine q_iload_n dX0_anyNext_34 rfl rfl ?_
      refine q_iald (x := nI v1) (j := n) dX0_anyNext_35 (ty_r hb 13 rfl) (ix_n (by omega) (by omega)) r13 ?_
      refine q_iald (x := mkN (fun e => !v e v1) (psM q).length) (j := v1) dX0_anyNext_36 (ty_r hb 31 rfl) (ix_n (by omega) (by omega)) (hv v1 b1.1) ?_
      refine q_ior dX0_anyNext_37 ?_
      refine q_istore dX0_anyNext_38 (by decide) (ls' := [(4, .int (((nI 0) ||| (mkN (fun e => !v e v0) (psM q).length)) ||| (mkN (fun e => !v e v1) (psM q).length))), (5, .int (nI 1)), (0, .ref (b + 21)), (1, .ref b), (2, .ref (b + 31)), (3, .int (nI n))]) rfl ?_
      refine q_iincN (c := 1) dX0_anyNext_40 rfl (by decide) rfl (ls' := [(5, .int (nI 2)), (4, .int (((nI 0) ||| (mkN (fun e => !v e v0) (psM q).length)) ||| (mkN (fun e => !v e v1) (psM q).length))), (0, .ref (b + 21)), (1, .ref b), (2, .ref (b + 31)), (3, .int (nI n))]) rfl ?_
      refine q_goto (tgt := 6) dX0_anyNext_43 (by decide) ?_
      refine q_iload dX0_anyNext_6 rfl ?_
      refine q_iconst (v := nI 2) dX0_anyNext_8 rfl ?_
      refine q_icmp_geN (tgt := 46) dX0_anyNext_9 (by decide) (by omega) (by omega) (fun _ => ?_) (fun h => absurd h (by decide))
      refine q_iload dX0_anyNext_46 rfl ?_
      refine q_ireturn dX0_anyNext_48 rfl rfl (by omega) (by omega) ?_
      exact ⟨rfl, congrArg (fun z => some (Value.int z)) (by rw [mk_0 (psM q).length, mk_or hk, mk_or hk]; exact mk_ext fun e _ => by simp [alQ, l0, l1])⟩

/-- what is left at NODE i behind NODE n -/
def pu (q : PS) (D v : Nat → Nat → Bool) (n : Nat) (e i : Nat) : Bool := if lto q n i then v e i && D e i else v e i
def uS (q : PS) (h : Nat) (D v : Nat → Nat → Bool) (σ : HS) : Option Nat → HS
  | none => σ
  | some i => uI σ h i (mkN (fun e => v e i && D e i) (psM q).length)
def KQ (σ : HS) (h : Nat) (q : PS) (D v : Nat → Nat → Bool) (n : Nat) : Option Value → HS → Prop := fun r σ' => ∃ c, r = some (.int (bi c)) ∧ LX h σ σ' ∧ FA σ' h q (pu q D v n) ∧ (c = false → ∀ e, e < (psM q).length → ∀ i, i < NN q → pu q D v n e i = v e i)
theorem KQ_end {h : Nat} {D v : Nat → Nat → Bool} {n : Nat} {o0 o1 : Option Nat} (hk : (psM q).length ≤ 32) (l0 : ld q 0 n = o0) (l1 : ld q 1 n = o1) (hv : FA σ h q v) {c : Bool} (h0 : c = false → ∀ i, o0 = some i → mkN (fun e => v e i && D e i) (psM q).length = mkN (fun e => v e i) (psM q).length) (h1 : c = false → ∀ i, o1 = some i → mkN (fun e => v e i && D e i) (psM q).length = mkN (fun e => v e i) (psM q).length) : KQ σ h q D v n (some (.int (bi c))) (uS q h D v (uS q h D v σ o0) o1) := by
  have g1 : ∀ (τ : HS) (o : Option Nat), LX h σ τ → LX h σ (uS q h D v τ o) := fun τ o k => by cases o with | none => exact k | some i => exact k.uI
  have g2 : ∀ (τ : HS) (o : Option Nat) (m : Nat), sI (uS q h D v τ o) h m = if o = some m then mkN (fun e => v e m && D e m) (psM q).length else sI τ h m := fun τ o m => by
    cases o with
    | none => rw [if_neg (by simp)]; rfl
    | some i =>
      show sI (uI _ _ _ _) _ _ = _
      rw [sI_uI]
      by_cases e : m = i
      · rw [if_pos ⟨rfl, e⟩, if_pos (by rw [e]), e]
      · rw [if_neg fun z => e z.2, if_neg fun z => e (Option.some.inj z).symm]
  refine ⟨c, rfl, g1 _ _ (g1 _ _ LX.rf), fun m hm => ?_, fun hc e he i hi => ?_⟩
  · rw [g2, g2, hv m hm]
    unfold pu
    by_cases e1 : o1 = some m
    · rw [if_pos e1]; exact mk_ext fun e _ => by rw [if_pos (Or.inr (l1.trans e1))]
    · rw [if_neg e1]
      by_cases e0 : o0 = some m
      · rw [if_pos e0]; exact mk_ext fun e _ => by rw [if_pos (Or.inl (l0.trans e0))]
      · rw [if_neg e0]; exact mk_ext fun e _ => by rw [if_neg]; rintro (z | z); exact e0 (l0.symm.trans z); exact e1 (l1.symm.trans z)
  · unfold pu
    by_cases z : lto q n i
    · rw [if_pos z]
      rcases z with z | z
      · exact mk_inj hk (h0 hc i (l0.symm.trans z)) e he
      · exact mk_inj hk (h1 hc i (l1.symm.trans z)) e he
    · rw [if_neg z]
theorem kp_0 {f f2 : Nat → Bool} {k : Nat} {x : Int32} (hk : k ≤ 32) : mkN f k &&& (mkN f2 k ||| nI 0 &&& x) = mkN (fun e => f e && f2 e) k := by
  have h1 : nI 0 &&& x = nI 0 := ib_ext fun i _ => by rw [ib_and, ib_0, Bool.false_and]
  have h2 : mkN f2 k ||| nI 0 = mkN f2 k := ib_ext fun i _ => by rw [ib_or, ib_0, Bool.or_false]
  rw [h1, h2, mk_and hk]
theorem kp_1 {f f2 f3 : Nat → Bool} {k : Nat} (hk : k ≤ 32) : mkN f k &&& (mkN f2 k ||| mkN (fun _ => true) k &&& mkN f3 k) = mkN (fun e => f e && (f2 e || f3 e)) k := by
  rw [mk_and hk, mk_or hk, mk_and hk]
  exact mk_ext fun e _ => by simp
theorem z0_keep_25 (hq : FE σ b q) {v : Nat → Nat → Bool} {P : Nat → Bool} (hv : FA σ (b + 25) q v) {n : Nat} (hn : n < NN q) : CT g mX0_keepInNext 0 0 0 [.ref (b + 21), .ref b, .int (nI n), .ref (b + 25), .int (nI 0), .int (mkN P (psM q).length)] σ (KQ σ (b + 25) q (fun e _ => P e) v n) := by
  obtain ⟨hb, hc, hw, hnb, hx, h14, hs, hall, hr⟩ := id hq
  have hb14 : b = 14 ∨ 99 ≤ b := by rcases hb.1 with h | ⟨j, h⟩ <;> omega
  have hNN := NN_le hc
  obtain ⟨r1, r3, r7, r12, r13⟩ := hr n hn
  have hl := K_l0 hq hn
  have hk := hq.k
  cases l0 : ld q 0 n with
  | none =>
    rw [l0] at r12
    cases l1 : ld q 1 n with
    | none =>
      rw [l1] at r13
      refine CT.of (by decide) (Nat.le_of_ble_eq_true rfl) ?_
      refine q_iconst (v := nI 0) dX0_keepInNext_0 rfl ?_
      refine q_istore dX0_keepInNext_1 (by decide) (ls' := [(6, .int (nI 0)), (0, .ref (b + 21)), (1, .ref b), (2, .int (nI n)), (3, .ref (b + 25)), (4, .int (nI 0)), (5, .int (mkN P (psM q).length))]) rfl ?_
      refine q_iconst (v := nI 0) dX0_keepInNext_3 rfl ?_
      refine q_istore dX0_keepInNext_4 (by decide) (ls' := [(7, .int (nI 0)), (6, .int (nI 0)), (0, .ref (b + 21)), (1, .ref b), (2, .int (nI n)), (3, .ref (b + 25)), (4, .int (nI 0)), (5, .int (mkN P (psM q).length))]) rfl ?_
      refine q_iload dX0_keepInNext_6 rfl ?_
      refine q_iconst (v := nI 2) dX0_keepInNext_8 rfl ?_
      refine q_icmp_geN (tgt := 79) dX0_keepInNext_9 (by decide) (by omega) (by omega) (fun h => absurd h (by decide)) (fun _ => ?_)
      refine q_aload_n dX0_keepInNext_12 rfl rfl rfl ?_
      refine q_getr (r := b + 11) dX0_keepInNext_13 fX0_129 rfl (ty_r hb 0 rfl) (hb.2.2 0 6 11 rfl) ?_
      refine q_iload dX0_keepInNext_16 rfl ?_
      refine q_aald (r := b + 12) (j := 0) dX0_keepInNext_18 (ty_r hb 11 rfl) (Or.inl rfl) (ix_n (by omega) (by omega)) (hb.2.2 11 0 12 rfl) ?_
      refine q_iload_n dX0_keepInNext_19 rfl rfl ?_
      refine q_iald (x := (-1)) (j := n) dX0_keepInNext_20 (ty_r hb 12 rfl) (ix_n (by omega) (by omega)) r12 ?_
      refine q_istore dX0_keepInNext_21 (by decide) (ls' := [(8, .int (-1)), (7, .int (nI 0)), (6, .int (nI 0)), (0, .ref (b + 21)), (1, .ref b), (2, .int (nI n)), (3, .ref (b + 25)), (4, .int (nI 0)), (5, .int (mkN P (psM q).length))]) rfl ?_
      refine q_iload dX0_keepInNext_23 rfl ?_
      refine q_if_lt1 (tgt := 73) dX0_keepInNext_25 (by decide) (by decide) ?_
      refine q_iincN (c := 1) dX0_keepInNext_73 rfl (by decide) rfl (ls' := [(7, .int (nI 1)), (8, .int (-1)), (6, .int (nI 0)), (0, .ref (b + 21)), (1, .ref b), (2, .int (nI n)), (3, .ref (b + 25)), (4, .int (nI 0)), (5, .int (mkN P (psM q).length))]) rfl ?_
      refine q_goto (tgt := 6) dX0_keepInNext_76 (by decide) ?_
      refine q_iload dX0_keepInNext_6 rfl ?_
      refine q_iconst (v := nI 2) dX0_keepInNext_8 rfl ?_
      refine q_icmp_geN (tgt := 79) dX0_keepInNext_9 (by decide) (by omega) (by omega) (fun h => absurd h (by decide)) (fun _ => ?_)
      refine q_aload_n dX0_keepInNext_12 rfl rfl rfl ?_
      refine q_getr (r := b + 11) dX0_keepInNext_13 fX0_129 rfl (ty_r hb 0 rfl) (hb.2.2 0 6 11 rfl) ?_
      refine q_iload dX0_keepInNext_16 rfl ?_
      refine q_aald (r := b + 13) (j := 1) dX0_keepInNext_18 (ty_r hb 11 rfl) (Or.inl rfl) (ix_n (by omega) (by omega)) (hb.2.2 11 1 13 rfl) ?_
      refine q_iload_n dX0_keepInNext_19 rfl rfl ?_
      refine q_iald (x := (-1)) (j := n) dX0_keepInNext_20 (ty_r hb 13 rfl) (ix_n (by omega) (by omega)) r13 ?_
      refine q_istore dX0_keepInNext_21 (by decide) (ls' := [(8, .int (-1)), (7, .int (nI 1)), (6, .int (nI 0)), (0, .ref (b + 21)), (1, .ref b), (2, .int (nI n)), (3, .ref (b + 25)), (4, .int (nI 0)), (5, .int (mkN P (psM q).length))]) rfl ?_
      refine q_iload dX0_keepInNext_23 rfl ?_
      refine q_if_lt1 (tgt := 73) dX0_keepInNext_25 (by decide) (by decide) ?_
      refine q_iincN (c := 1) dX0_keepInNext_73 rfl (by decide) rfl (ls' := [(7, .int (nI 2)), (8, .int (-1)), (6, .int (nI 0)), (0, .ref (b + 21)), (1, .ref b), (2, .int (nI n)), (3, .ref (b + 25)), (4, .int (nI 0)), (5, .int (mkN P (psM q).length))]) rfl ?_
      refine q_goto (tgt := 6) dX0_keepInNext_76 (by decide) ?_
      refine q_iload dX0_keepInNext_6 rfl ?_
      refine q_iconst (v := nI 2) dX0_keepInNext_8 rfl ?_
      refine q_icmp_geN (tgt := 79) dX0_keepInNext_9 (by decide) (by omega) (by omega) (fun _ => ?_) (fun h => absurd h (by decide))
      refine q_iload dX0_keepInNext_79 rfl ?_
      refine q_ireturn dX0_keepInNext_81 rfl rfl (by omega) (by omega) ?_
      exact KQ_end (c := false) (o0 := none) (o1 := none) (D := (fun e _ => P e)) hk l0 l1 hv (fun _ i hi => by cases hi) (fun _ i hi => by cases hi)
    | some v1 =>
      rw [l1] at r13
      have b1 := hl.2 v1 l1
      refine CT.of (by decide) (Nat.le_of_ble_eq_true rfl) ?_
      refine q_iconst (v := nI 0) dX0_keepInNext_0 rfl ?_
      refine q_istore dX0_keepInNext_1 (by decide) (ls' := [(6, .int (nI 0)), (0, .ref (b + 21)), (1, .ref b), (2, .int (nI n)), (3, .ref (b + 25)), (4, .int (nI 0)), (5, .int (mkN P (psM q).length))]) rfl ?_
      refine q_iconst (v := nI 0) dX0_keepInNext_3 rfl ?_
      refine q_istore dX0_keepInNext_4 (by decide) (ls' := [(7, .int (nI 0)), (6, .int (nI 0)), (0, .ref (b + 21)), (1, .ref b), (2, .int (nI n)), (3, .ref (b + 25)), (4, .int (nI 0)), (5, .int (mkN P (psM q).length))]) rfl ?_
      refine q_iload dX0_keepInNext_6 rfl ?_
      refine q_iconst (v := nI 2) dX0_keepInNext_8 rfl ?_
      refine q_icmp_geN (tgt := 79) dX0_keepInNext_9 (by decide) (by omega) (by omega) (fun h => absurd h (by decide)) (fun _ => ?_)
      refine q_aload_n dX0_keepInNext_12 rfl rfl rfl ?_
      refine q_getr (r := b + 11) dX0_keepInNext_13 fX0_129 rfl (ty_r hb 0 rfl) (hb.2.2 0 6 11 rfl) ?_
      refine q_iload dX0_keepInNext_16 rfl ?_
      refine q_aald (r := b + 12) (j := 0) dX0_keepInNext_18 (ty_r hb 11 rfl) (Or.inl rfl) (ix_n (by omega) (by omega)) (hb.2.2 11 0 12 rfl) ?_
      refine q_iload_n dX0_keepInNext_19 rfl rfl ?_
      refine q_iald (x := (-1)) (j := n) dX0_keepInNext_20 (ty_r hb 12 rfl) (ix_n (by omega) (by omega)) r12 ?_
      refine q_istore dX0_keepInNext_21 (by decide) (ls' := [(8, .int (-1)), (7, .int (nI 0)), (6, .int (nI 0)), (0, .ref (b + 21)), (1, .ref b), (2, .int (nI n)), (3, .ref (b + 25)), (4, .int (nI 0)), (5, .int (mkN P (psM q).length))]) rfl ?_
      refine q_iload dX0_keepInNext_23 rfl ?_
      refine q_if_lt1 (tgt := 73) dX0_keepInNext_25 (by decide) (by decide) ?_
      refine q_iincN (c := 1) dX0_keepInNext_73 rfl (by decide) rfl (ls' := [(7, .int (nI 1)), (8, .int (-1)), (6, .int (nI 0)), (0, .ref (b + 21)), (1, .ref b), (2, .int (nI n)), (3, .ref (b + 25)), (4, .int (nI 0)), (5, .int (mkN P (psM q).length))]) rfl ?_
      refine q_goto (tgt := 6) dX0_keepInNext_76 (by decide) ?_
      refine q_iload dX0_keepInNext_6 rfl ?_
      refine q_iconst (v := nI 2) dX0_keepInNext_8 rfl ?_
      refine q_icmp_geN (tgt := 79) dX0_keepInNext_9 (by decide) (by omega) (by omega) (fun h => absurd h (by decide)) (fun _ => ?_)
      refine q_aload_n dX0_keepInNext_12 rfl rfl rfl ?_
      refine q_getr (r := b + 11) dX0_keepInNext_13 fX0_129 rfl (ty_r hb 0 rfl) (hb.2.2 0 6 11 rfl) ?_
      refine q_iload dX0_keepInNext_16 rfl ?_
      refine q_aald (r := b + 13) (j := 1) dX0_keepInNext_18 (ty_r hb 11 rfl) (Or.inl rfl) (ix_n (by omega) (by omega)) (hb.2.2 11 1 13 rfl) ?_
      refine q_iload_n dX0_keepInNext_19 rfl rfl ?_
      refine q_iald (x := nI v1) (j := n) dX0_keepInNext_20 (ty_r hb 13 rfl) (ix_n (by omega) (by omega)) r13 ?_
      refine q_istore dX0_keepInNext_21 (by decide) (ls' := [(8, .int (nI v1)), (7, .int (nI 1)), (6, .int (nI 0)), (0, .ref (b + 21)), (1, .ref b), (2, .int (nI n)), (3, .ref (b + 25)), (4, .int (nI 0)), (5, .int (mkN P (psM q).length))]) rfl ?_
      refine q_iload dX0_keepInNext_23 rfl ?_
      refine q_if_ltN (tgt := 73) dX0_keepInNext_25 (by decide) (by omega) ?_
      refine q_aload_n dX0_keepInNext_28 rfl rfl rfl ?_
      refine q_iload dX0_keepInNext_29 rfl ?_
      refine q_iald (x := mkN (fun e => v e v1) (psM q).length) (j := v1) dX0_keepInNext_31 (ty_r hb 25 rfl) (ix_n (by omega) (by omega)) (hv v1 b1.1) ?_
      refine q_iload dX0_keepInNext_32 rfl ?_
      refine q_iload dX0_keepInNext_34 rfl ?_
      refine q_aload_n dX0_keepInNext_36 rfl rfl rfl ?_
      refine q_getr (r := b + 26) dX0_keepInNext_37 fX0_24 rfl (ty_r hb 21 rfl) (hb.2.2 21 4 26 rfl) ?_
      refine q_iload dX0_keepInNext_40 rfl ?_
      refine q_iald (x := sI σ (b + 26) v1) (j := v1) dX0_keepInNext_42 (ty_r hb 26 rfl) (ix_n (by omega) (by omega)) rfl ?_
      refine q_iand dX0_keepInNext_43 ?_
      refine q_ior dX0_keepInNext_44 ?_
      refine q_iand dX0_keepInNext_45 ?_
      refine q_top (y := mkN (fun e => v e v1 && (fun e _ => P e) e v1) (psM q).length) (kp_0 hk) ?_
      refine q_istore dX0_keepInNext_46 (by decide) (ls' := [(9, .int (mkN (fun e => v e v1 && (fun e _ => P e) e v1) (psM q).length)), (8, .int (nI v1)), (7, .int (nI 1)), (6, .int (nI 0)), (0, .ref (b + 21)), (1, .ref b), (2, .int (nI n)), (3, .ref (b + 25)), (4, .int (nI 0)), (5, .int (mkN P (psM q).length))]) rfl ?_
      refine q_iload dX0_keepInNext_48 rfl ?_
      refine q_iload dX0_keepInNext_50 rfl ?_
      refine q_aload_n dX0_keepInNext_52 rfl rfl rfl ?_
      refine q_iload dX0_keepInNext_53 rfl ?_
      refine q_iald (x := mkN (fun e => v e v1) (psM q).length) (j := v1) dX0_keepInNext_55 (ty_r hb 25 rfl) (ix_n (by omega) (by omega)) (hv v1 b1.1) ?_
      refine q_icmp_eq (tgt := 63) dX0_keepInNext_56 (by decide) (fun c56 => ?_) (fun c56 => ?_)
      · have cc1 := c56
        refine q_iconst (v := nI 0) dX0_keepInNext_63 rfl ?_
        refine q_ior dX0_keepInNext_64 ?_
        refine q_top (y := bi false) (by decide) ?_
        refine q_istore dX0_keepInNext_65 (by decide) (ls' := [(6, .int (bi false)), (9, .int (mkN (fun e => v e v1 && (fun e _ => P e) e v1) (psM q).length)), (8, .int (nI v1)), (7, .int (nI 1)), (0, .ref (b + 21)), (1, .ref b), (2, .int (nI n)), (3, .ref (b + 25)), (4, .int (nI 0)), (5, .int (mkN P (psM q).length))]) rfl ?_
        refine q_aload_n dX0_keepInNext_67 rfl rfl rfl ?_
        refine q_iload dX0_keepInNext_68 rfl ?_
        refine q_iload dX0_keepInNext_70 rfl ?_
        refine q_iast (j := v1) dX0_keepInNext_72 (ty_r hb 25 rfl) (ix_n (by omega) (by omega)) ?_
        refine q_iincN (c := 1) dX0_keepInNext_73 rfl (by decide) rfl (ls' := [(7, .int (nI 2)), (6, .int (bi false)), (9, .int (mkN (fun e => v e v1 && (fun e _ => P e) e v1) (psM q).length)), (8, .int (nI v1)), (0, .ref (b + 21)), (1, .ref b), (2, .int (nI n)), (3, .ref (b + 25)), (4, .int (nI 0)), (5, .int (mkN P (psM q).length))]) rfl ?_
        refine q_goto (tgt := 6) dX0_keepInNext_76 (by decide) ?_
        refine q_iload dX0_keepInNext_6 rfl ?_
        refine q_iconst (v := nI 2) dX0_keepInNext_8 rfl ?_
        refine q_icmp_geN (tgt := 79) dX0_keepInNext_9 (by decide) (by omega) (by omega) (fun _ => ?_) (fun h => absurd h (by decide))
        refine q_iload dX0_keepInNext_79 rfl ?_
        refine q_ireturn dX0_keepInNext_81 rfl (bi_nar _) (by omega) (by omega) ?_
        exact KQ_end (o0 := none) (o1 := some v1) (D := (fun e _ => P e)) hk l0 l1 hv (fun _ i hi => by cases hi) (fun hz i hi => by cases hi; first | exact cc1 | cases hz)
      · have cc1 := c56
        refine q_iconst (v := nI 1) dX0_keepInNext_59 rfl ?_
        refine q_goto (tgt := 64) dX0_keepInNext_60 (by decide) ?_
        refine q_ior dX0_keepInNext_64 ?_
        refine q_top (y := bi true) (by decide) ?_
        refine q_istore dX0_keepInNext_65 (by decide) (ls' := [(6, .int (bi true)), (9, .int (mkN (fun e => v e v1 && (fun e _ => P e) e v1) (psM q).length)), (8, .int (nI v1)), (7, .int (nI 1)), (0, .ref (b + 21)), (1, .ref b), (2, .int (nI n)), (3, .ref (b + 25)), (4, .int (nI 0)), (5, .int (mkN P (psM q).length))]) rfl ?_
        refine q_aload_n dX0_keepInNext_67 rfl rfl rfl ?_
        refine q_iload dX0_keepInNext_68 rfl ?_
        refine q_iload dX0_keepInNext_70 rfl ?_
        refine q_iast (j := v1) dX0_keepInNext_72 (ty_r hb 25 rfl) (ix_n (by omega) (by omega)) ?_
        refine q_iincN (c := 1) dX0_keepInNext_73 rfl (by decide) rfl (ls' := [(7, .int (nI 2)), (6, .int (bi true)), (9, .int (mkN (fun e => v e v1 && (fun e _ => P e) e v1) (psM q).length)), (8, .int (nI v1)), (0, .ref (b + 21)), (1, .ref b), (2, .int (nI n)), (3, .ref (b + 25)), (4, .int (nI 0)), (5, .int (mkN P (psM q).length))]) rfl ?_
        refine q_goto (tgt := 6) dX0_keepInNext_76 (by decide) ?_
        refine q_iload dX0_keepInNext_6 rfl ?_
        refine q_iconst (v := nI 2) dX0_keepInNext_8 rfl ?_
        refine q_icmp_geN (tgt := 79) dX0_keepInNext_9 (by decide) (by omega) (by omega) (fun _ => ?_) (fun h => absurd h (by decide))
        refine q_iload dX0_keepInNext_79 rfl ?_
        refine q_ireturn dX0_keepInNext_81 rfl (bi_nar _) (by omega) (by omega) ?_
        exact KQ_end (o0 := none) (o1 := some v1) (D := (fun e _ => P e)) hk l0 l1 hv (fun _ i hi => by cases hi) (fun hz i hi => by cases hi; first | exact cc1 | cases hz)
  | some v0 =>
    rw [l0] at r12
    have b0 := hl.1 v0 l0
    cases l1 : ld q 1 n with
    | none =>
      rw [l1] at r13
      refine CT.of (by decide) (Nat.le_of_ble_eq_true rfl) ?_
      refine q_iconst (v := nI 0) dX0_keepInNext_0 rfl ?_
      refine q_istore dX0_keepInNext_1 (by decide) (ls' := [(6, .int (nI 0)), (0, .ref (b + 21)), (1, .ref b), (2, .int (nI n)), (3, .ref (b + 25)), (4, .int (nI 0)), (5, .int (mkN P (psM q).length))]) rfl ?_
      refine q_iconst (v := nI 0) dX0_keepInNext_3 rfl ?_
      refine q_istore dX0_keepInNext_4 (by decide) (ls' := [(7, .int (nI 0)), (6, .int (nI 0)), (0, .ref (b + 21)), (1, .ref b), (2, .int (nI n)), (3, .ref (b + 25)), (4, .int (nI 0)), (5, .int (mkN P (psM q).length))]) rfl ?_
      refine q_iload dX0_keepInNext_6 rfl ?_
      refine q_iconst (v := nI 2) dX0_keepInNext_8 rfl ?_
      refine q_icmp_geN (tgt := 79) dX0_keepInNext_9 (by decide) (by omega) (by omega) (fun h => absurd h (by decide)) (fun _ => ?_)
      refine q_aload_n dX0_keepInNext_12 rfl rfl rfl ?_
      refine q_getr (r := b + 11) dX0_keepInNext_13 fX0_129 rfl (ty_r hb 0 rfl) (hb.2.2 0 6 11 rfl) ?_
      refine q_iload dX0_keepInNext_16 rfl ?_
      refine q_aald (r := b + 12) (j := 0) dX0_keepInNext_18 (ty_r hb 11 rfl) (Or.inl rfl) (ix_n (by omega) (by omega)) (hb.2.2 11 0 12 rfl) ?_
      refine q_iload_n dX0_keepInNext_19 rfl rfl ?_
      refine q_iald (x := nI v0) (j := n) dX0_keepInNext_20 (ty_r hb 12 rfl) (ix_n (by omega) (by omega)) r12 ?_
      refine q_istore dX0_keepInNext_21 (by decide) (ls' := [(8, .int (nI v0)), (7, .int (nI 0)), (6, .int (nI 0)), (0, .ref (b + 21)), (1, .ref b), (2, .int (nI n)), (3, .ref (b + 25)), (4, .int (nI 0)), (5, .int (mkN P (psM q).length))]) rfl ?_
      refine q_iload dX0_keepInNext_23 rfl ?_
      refine q_if_ltN (tgt := 73) dX0_keepInNext_25 (by decide) (by omega) ?_
      refine q_aload_n dX0_keepInNext_28 rfl rfl rfl ?_
      refine q_iload dX0_keepInNext_29 rfl ?_
      refine q_iald (x := mkN (fun e => v e v0) (psM q).length) (j := v0) dX0_keepInNext_31 (ty_r hb 25 rfl) (ix_n (by omega) (by omega)) (hv v0 b0.1) ?_
      refine q_iload dX0_keepInNext_32 rfl ?_
      refine q_iload dX0_keepInNext_34 rfl ?_
      refine q_aload_n dX0_keepInNext_36 rfl rfl rfl ?_
      refine q_getr (r := b + 26) dX0_keepInNext_37 fX0_24 rfl (ty_r hb 21 rfl) (hb.2.2 21 4 26 rfl) ?_
      refine q_iload dX0_keepInNext_40 rfl ?_
      refine q_iald (x := sI σ (b + 26) v0) (j := v0) dX0_keepInNext_42 (ty_r hb 26 rfl) (ix_n (by omega) (by omega)) rfl ?_
      refine q_iand dX0_keepInNext_43 ?_
      refine q_ior dX0_keepInNext_44 ?_
      refine q_iand dX0_keepInNext_45 ?_
      refine q_top (y := mkN (fun e => v e v0 && (fun e _ => P e) e v0) (psM q).length) (kp_0 hk) ?_
      refine q_istore dX0_keepInNext_46 (by decide) (ls' := [(9, .int (mkN (fun e => v e v0 && (fun e _ => P e) e v0) (psM q).length)), (8, .int (nI v0)), (7, .int (nI 0)), (6, .int (nI 0)), (0, .ref (b + 21)), (1, .ref b), (2, .int (nI n)), (3, .ref (b + 25)), (4, .int (nI 0)), (5, .int (mkN P (psM q).length))]) rfl ?_
      refine q_iload dX0_keepInNext_48 rfl ?_
      refine q_iload dX0_keepInNext_50 rfl ?_
      refine q_aload_n dX0_keepInNext_52 rfl rfl rfl ?_
      refine q_iload dX0_keepInNext_53 rfl ?_
      refine q_iald (x := mkN (fun e => v e v0) (psM q).length) (j := v0) dX0_keepInNext_55 (ty_r hb 25 rfl) (ix_n (by omega) (by omega)) (hv v0 b0.1) ?_
      refine q_icmp_eq (tgt := 63) dX0_keepInNext_56 (by decide) (fun c56 => ?_) (fun c56 => ?_)
      · have cc0 := c56
        refine q_iconst (v := nI 0) dX0_keepInNext_63 rfl ?_
        refine q_ior dX0_keepInNext_64 ?_
        refine q_top (y := bi false) (by decide) ?_
        refine q_istore dX0_keepInNext_65 (by decide) (ls' := [(6, .int (bi false)), (9, .int (mkN (fun e => v e v0 && (fun e _ => P e) e v0) (psM q).length)), (8, .int (nI v0)), (7, .int (nI 0)), (0, .ref (b + 21)), (1, .ref b), (2, .int (nI n)), (3, .ref (b + 25)), (4, .int (nI 0)), (5, .int (mkN P (psM q).length))]) rfl ?_
        refine q_aload_n dX0_keepInNext_67 rfl rfl rfl ?_
        refine q_iload dX0_keepInNext_68 rfl ?_
        refine q_iload dX0_keepInNext_70 rfl ?_
        refine q_iast (j := v0) dX0_keepInNext_72 (ty_r hb 25 rfl) (ix_n (by omega) (by omega)) ?_
        refine q_iincN (c := 1) dX0_keepInNext_73 rfl (by decide) rfl (ls' := [(7, .int (nI 1)), (6, .int (bi false)), (9, .int (mkN (fun e => v e v0 && (fun e _ => P e) e v0) (psM q).length)), (8, .int (nI v0)), (0, .ref (b + 21)), (1, .ref b), (2, .int (nI n)), (3, .ref (b + 25)), (4, .int (nI 0)), (5, .int (mkN P (psM q).length))]) rfl ?_
        refine q_goto (tgt := 6) dX0_keepInNext_76 (by decide) ?_
        refine q_iload dX0_keepInNext_6 rfl ?_
        refine q_iconst (v := nI 2) dX0_keepInNext_8 rfl ?_
        refine q_icmp_geN (tgt := 79) dX0_keepInNext_9 (by decide) (by omega) (by omega) (fun h => absurd h (by decide)) (fun _ => ?_)
        refine q_aload_n dX0_keepInNext_12 rfl rfl rfl ?_
        refine q_getr (r := b + 11) dX0_keepInNext_13 fX0_129 rfl (ty_r hb 0 rfl) (hb.2.2 0 6 11 rfl) ?_
        refine q_iload dX0_keepInNext_16 rfl ?_
        refine q_aald (r := b + 13) (j := 1) dX0_keepInNext_18 (ty_r hb 11 rfl) (Or.inl rfl) (ix_n (by omega) (by omega)) (hb.2.2 11 1 13 rfl) ?_
        refine q_iload_n dX0_keepInNext_19 rfl rfl ?_
        refine q_iald (x := (-1)) (j := n) dX0_keepInNext_20 (ty_r hb 13 rfl) (ix_n (by omega) (by omega)) (Eq.trans (rd_off (by omega)) r13) ?_
        refine q_istore dX0_keepInNext_21 (by decide) (ls' := [(8, .int (-1)), (7, .int (nI 1)), (6, .int (bi false)), (9, .int (mkN (fun e => v e v0 && (fun e _ => P e) e v0) (psM q).length)), (0, .ref (b + 21)), (1, .ref b), (2, .int (nI n)), (3, .ref (b + 25)), (4, .int (nI 0)), (5, .int (mkN P (psM q).length))]) rfl ?_
        refine q_iload dX0_keepInNext_23 rfl ?_
        refine q_if_lt1 (tgt := 73) dX0_keepInNext_25 (by decide) (by decide) ?_
        refine q_iincN (c := 1) dX0_keepInNext_73 rfl (by decide) rfl (ls' := [(7, .int (nI 2)), (8, .int (-1)), (6, .int (bi false)), (9, .int (mkN (fun e => v e v0 && (fun e _ => P e) e v0) (psM q).length)), (0, .ref (b + 21)), (1, .ref b), (2, .int (nI n)), (3, .ref (b + 25)), (4, .int (nI 0)), (5, .int (mkN P (psM q).length))]) rfl ?_
        refine q_goto (tgt := 6) dX0_keepInNext_76 (by decide) ?_
        refine q_iload dX0_keepInNext_6 rfl ?_
        refine q_iconst (v := nI 2) dX0_keepInNext_8 rfl ?_
        refine q_icmp_geN (tgt := 79) dX0_keepInNext_9 (by decide) (by omega) (by omega) (fun _ => ?_) (fun h => absurd h (by decide))
        refine q_iload dX0_keepInNext_79 rfl ?_
        refine q_ireturn dX0_keepInNext_81 rfl (bi_nar _) (by omega) (by omega) ?_
        exact KQ_end (o0 := some v0) (o1 := none) (D := (fun e _ => P e)) hk l0 l1 hv (fun hz i hi => by cases hi; first | exact cc0 | cases hz) (fun _ i hi => by cases hi)
      · have cc0 := c56
        refine q_iconst (v := nI 1) dX0_keepInNext_59 rfl ?_
        refine q_goto (tgt := 64) dX0_keepInNext_60 (by decide) ?_
        refine q_ior dX0_keepInNext_64 ?_
        refine q_top (y := bi true) (by decide) ?_
        refine q_istore dX0_keepInNext_65 (by decide) (ls' := [(6, .int (bi true)), (9, .int (mkN (fun e => v e v0 && (fun e _ => P e) e v0) (psM q).length)), (8, .int (nI v0)), (7, .int (nI 0)), (0, .ref (b + 21)), (1, .ref b), (2, .int (nI n)), (3, .ref (b + 25)), (4, .int (nI 0)), (5, .int (mkN P (psM q).length))]) rfl ?_
        refine q_aload_n dX0_keepInNext_67 rfl rfl rfl ?_
        refine q_iload dX0_keepInNext_68 rfl ?_
        refine q_iload dX0_keepInNext_70 rfl ?_
        refine q_iast (j := v0) dX0_keepInNext_72 (ty_r hb 25 rfl) (ix_n (by omega) (by omega)) ?_
        refine q_iincN (c := 1) dX0_keepInNext_73 rfl (by decide) rfl (ls' := [(7, .int (nI 1)), (6, .int (bi true)), (9, .int (mkN (fun e => v e v0 && (fun e _ => P e) e v0) (psM q).length)), (8, .int (nI v0)), (0, .ref (b + 21)), (1, .ref b), (2, .int (nI n)), (3, .ref (b + 25)), (4, .int (nI 0)), (5, .int (mkN P (psM q).length))]) rfl ?_
        refine q_goto (tgt := 6) dX0_keepInNext_76 (by decide) ?_
        refine q_iload dX0_keepInNext_6 rfl ?_
        refine q_iconst (v := nI 2) dX0_keepInNext_8 rfl ?_
        refine q_icmp_geN (tgt := 79) dX0_keepInNext_9 (by decide) (by omega) (by omega) (fun h => absurd h (by decide)) (fun _ => ?_)
        refine q_aload_n dX0_keepInNext_12 rfl rfl rfl ?_
        refine q_getr (r := b + 11) dX0_keepInNext_13 fX0_129 rfl (ty_r hb 0 rfl) (hb.2.2 0 6 11 rfl) ?_
        refine q_iload dX0_keepInNext_16 rfl ?_
        refine q_aald (r := b + 13) (j := 1) dX0_keepInNext_18 (ty_r hb 11 rfl) (Or.inl rfl) (ix_n (by omega) (by omega)) (hb.2.2 11 1 13 rfl) ?_
        refine q_iload_n dX0_keepInNext_19 rfl rfl ?_
        refine q_iald (x := (-1)) (j := n) dX0_keepInNext_20 (ty_r hb 13 rfl) (ix_n (by omega) (by omega)) (Eq.trans (rd_off (by omega)) r13) ?_
        refine q_istore dX0_keepInNext_21 (by decide) (ls' := [(8, .int (-1)), (7, .int (nI 1)), (6, .int (bi true)), (9, .int (mkN (fun e => v e v0 && (fun e _ => P e) e v0) (psM q).length)), (0, .ref (b + 21)), (1, .ref b), (2, .int (nI n)), (3, .ref (b + 25)), (4, .int (nI 0)), (5, .int (mkN P (psM q).length))]) rfl ?_
        refine q_iload dX0_keepInNext_23 rfl ?_
        refine q_if_lt1 (tgt := 73) dX0_keepInNext_25 (by decide) (by decide) ?_
        refine q_iincN (c := 1) dX0_keepInNext_73 rfl (by decide) rfl (ls' := [(7, .int (nI 2)), (8, .int (-1)), (6, .int (bi true)), (9, .int (mkN (fun e => v e v0 && (fun e _ => P e) e v0) (psM q).length)), (0, .ref (b + 21)), (1, .ref b), (2, .int (nI n)), (3, .ref (b + 25)), (4, .int (nI 0)), (5, .int (mkN P (psM q).length))]) rfl ?_
        refine q_goto (tgt := 6) dX0_keepInNext_76 (by decide) ?_
        refine q_iload dX0_keepInNext_6 rfl ?_
        refine q_iconst (v := nI 2) dX0_keepInNext_8 rfl ?_
        refine q_icmp_geN (tgt := 79) dX0_keepInNext_9 (by decide) (by omega) (by omega) (fun _ => ?_) (fun h => absurd h (by decide))
        refine q_iload dX0_keepInNext_79 rfl ?_
        refine q_ireturn dX0_keepInNext_81 rfl (bi_nar _) (by omega) (by omega) ?_
        exact KQ_end (o0 := some v0) (o1 := none) (D := (fun e _ => P e)) hk l0 l1 hv (fun hz i hi => by cases hi; first | exact cc0 | cases hz) (fun _ i hi => by cases hi)
    | some v1 =>
      rw [l1] at r13
      have b1 := hl.2 v1 l1
      have hne : v1 ≠ v0 := fun z => ld_ne hc hw hnb l0 l1 z.symm
      refine CT.of (by decide) (Nat.le_of_ble_eq_true rfl) ?_
      refine q_iconst (v := nI 0) dX0_keepInNext_0 rfl ?_
      refine q_istore dX0_keepInNext_1 (by decide) (ls' := [(6, .int (nI 0)), (0, .ref (b + 21)), (1, .ref b), (2, .int (nI n)), (3, .ref (b + 25)), (4, .int (nI 0)), (5, .int (mkN P (psM q).length))]) rfl ?_
      refine q_iconst (v := nI 0) dX0_keepInNext_3 rfl ?_
      refine q_istore dX0_keepInNext_4 (by decide) (ls' := [(7, .int (nI 0)), (6, .int (nI 0)), (0, .ref (b + 21)), (1, .ref b), (2, .int (nI n)), (3, .ref (b + 25)), (4, .int (nI 0)), (5, .int (mkN P (psM q).length))]) rfl ?_
      refine q_iload dX0_keepInNext_6 rfl ?_
      refine q_iconst (v := nI 2) dX0_keepInNext_8 rfl ?_
      refine q_icmp_geN (tgt := 79) dX0_keepInNext_9 (by decide) (by omega) (by omega) (fun h => absurd h (by decide)) (fun _ => ?_)
      refine q_aload_n dX0_keepInNext_12 rfl rfl rfl ?_
      refine q_getr (r := b + 11) dX0_keepInNext_13 fX0_129 rfl (ty_r hb 0 rfl) (hb.2.2 0 6 11 rfl) ?_
      refine q_iload dX0_keepInNext_16 rfl ?_
      refine q_aald (r := b + 12) (j := 0) dX0_keepInNext_18 (ty_r hb 11 rfl) (Or.inl rfl) (ix_n (by omega) (by omega)) (hb.2.2 11 0 12 rfl) ?_
      refine q_iload_n dX0_keepInNext_19 rfl rfl ?_
      refine q_iald (x := nI v0) (j := n) dX0_keepInNext_20 (ty_r hb 12 rfl) (ix_n (by omega) (by omega)) r12 ?_
      refine q_istore dX0_keepInNext_21 (by decide) (ls' := [(8, .int (nI v0)), (7, .int (nI 0)), (6, .int (nI 0)), (0, .ref (b + 21)), (1, .ref b), (2, .int (nI n)), (3, .ref (b + 25)), (4, .int (nI 0)), (5, .int (mkN P (psM q).length))]) rfl ?_
      refine q_iload dX0_keepInNext_23 rfl ?_
      refine q_if_ltN (tgt := 73) dX0_keepInNext_25 (by decide) (by omega) ?_
      refine q_aload_n dX0_keepInNext_28 rfl rfl rfl ?_
      refine q_iload dX0_keepInNext_29 rfl ?_
      refine q_iald (x := mkN (fun e => v e v0) (psM q).length) (j := v0) dX0_keepInNext_31 (ty_r hb 25 rfl) (ix_n (by omega) (by omega)) (hv v0 b0.1) ?_
      refine q_iload dX0_keepInNext_32 rfl ?_
      refine q_iload dX0_keepInNext_34 rfl ?_
      refine q_aload_n dX0_keepInNext_36 rfl rfl rfl ?_
      refine q_getr (r := b + 26) dX0_keepInNext_37 fX0_24 rfl (ty_r hb 21 rfl) (hb.2.2 21 4 26 rfl) ?_
      refine q_iload dX0_keepInNext_40 rfl ?_
      refine q_iald (x := sI σ (b + 26) v0) (j := v0) dX0_keepInNext_42 (ty_r hb 26 rfl) (ix_n (by omega) (by omega)) rfl ?_
      refine q_iand dX0_keepInNext_43 ?_
      refine q_ior dX0_keepInNext_44 ?_
      refine q_iand dX0_keepInNext_45 ?_
      refine q_top (y := mkN (fun e => v e v0 && (fun e _ => P e) e v0) (psM q).length) (kp_0 hk) ?_
      refine q_istore dX0_keepInNext_46 (by decide) (ls' := [(9, .int (mkN (fun e => v e v0 && (fun e _ => P e) e v0) (psM q).length)), (8, .int (nI v0)), (7, .int (nI 0)), (6, .int (nI 0)), (0, .ref (b + 21)), (1, .ref b), (2, .int (nI n)), (3, .ref (b + 25)), (4, .int (nI 0)), (5, .int (mkN P (psM q).length))]) rfl ?_
      refine q_iload dX0_keepInNext_48 rfl ?_
      refine q_iload dX0_keepInNext_50 rfl ?_
      refine q_aload_n dX0_keepInNext_52 rfl rfl rfl ?_
      refine q_iload dX0_keepInNext_53 rfl ?_
      refine q_iald (x := mkN (fun e => v e v0) (psM q).length) (j := v0) dX0_keepInNext_55 (ty_r hb 25 rfl) (ix_n (by omega) (by omega)) (hv v0 b0.1) ?_
      refine q_icmp_eq (tgt := 63) dX0_keepInNext_56 (by decide) (fun c56 => ?_) (fun c56 => ?_)
      · have cc0 := c56
        refine q_iconst (v := nI 0) dX0_keepInNext_63 rfl ?_
        refine q_ior dX0_keepInNext_64 ?_
        refine q_top (y := bi false) (by decide) ?_
        refine q_istore dX0_keepInNext_65 (by decide) (ls' := [(6, .int (bi false)), (9, .int (mkN (fun e => v e v0 && (fun e _ => P e) e v0) (psM q).length)), (8, .int (nI v0)), (7, .int (nI 0)), (0, .ref (b + 21)), (1, .ref b), (2, .int (nI n)), (3, .ref (b + 25)), (4, .int (nI 0)), (5, .int (mkN P (psM q).length))]) rfl ?_
        refine q_aload_n dX0_keepInNext_67 rfl rfl rfl ?_
        refine q_iload dX0_keepInNext_68 rfl ?_
        refine q_iload dX0_keepInNext_70 rfl ?_
        refine q_iast (j := v0) dX0_keepInNext_72 (ty_r hb 25 rfl) (ix_n (by omega) (by omega)) ?_
        refine q_iincN (c := 1) dX0_keepInNext_73 rfl (by decide) rfl (ls' := [(7, .int (nI 1)), (6, .int (bi false)), (9, .int (mkN (fun e => v e v0 && (fun e _ => P e) e v0) (psM q).length)), (8, .int (nI v0)), (0, .ref (b + 21)), (1, .ref b), (2, .int (nI n)), (3, .ref (b + 25)), (4, .int (nI 0)), (5, .int (mkN P (psM q).length))]) rfl ?_
        refine q_goto (tgt := 6) dX0_keepInNext_76 (by decide) ?_
        refine q_iload dX0_keepInNext_6 rfl ?_
        refine q_iconst (v := nI 2) dX0_keepInNext_8 rfl ?_
        refine q_icmp_geN (tgt := 79) dX0_keepInNext_9 (by decide) (by omega) (by omega) (fun h => absurd h (by decide)) (fun _ => ?_)
        refine q_aload_n dX0_keepInNext_12 rfl rfl rfl ?_
        refine q_getr (r := b + 11) dX0_keepInNext_13 fX0_129 rfl (ty_r hb 0 rfl) (hb.2.2 0 6 11 rfl) ?_
        refine q_iload dX0_keepInNext_16 rfl ?_
        refine q_aald (r := b + 13) (j := 1) dX0_keepInNext_18 (ty_r hb 11 rfl) (Or.inl rfl) (ix_n (by omega) (by omega)) (hb.2.2 11 1 13 rfl) ?_
        refine q_iload_n dX0_keepInNext_19 rfl rfl ?_
        refine q_iald (x := nI v1) (j := n) dX0_keepInNext_20 (ty_r hb 13 rfl) (ix_n (by omega) (by omega)) (Eq.trans (rd_off (by omega)) r13) ?_
        refine q_istore dX0_keepInNext_21 (by decide) (ls' := [(8, .int (nI v1)), (7, .int (nI 1)), (6, .int (bi false)), (9, .int (mkN (fun e => v e v0 && (fun e _ => P e) e v0) (psM q).length)), (0, .ref (b + 21)), (1, .ref b), (2, .int (nI n)), (3, .ref (b + 25)), (4, .int (nI 0)), (5, .int (mkN P (psM q).length))]) rfl ?_
        refine q_iload dX0_keepInNext_23 rfl ?_
        refine q_if_ltN (tgt := 73) dX0_keepInNext_25 (by decide) (by omega) ?_
        refine q_aload_n dX0_keepInNext_28 rfl rfl rfl ?_
        refine q_iload dX0_keepInNext_29 rfl ?_
        refine q_iald (x := mkN (fun e => v e v1) (psM q).length) (j := v1) dX0_keepInNext_31 (ty_r hb 25 rfl) (ix_n (by omega) (by omega)) (Eq.trans (rd_ne hne) (hv v1 b1.1)) ?_
        refine q_iload dX0_keepInNext_32 rfl ?_
        refine q_iload dX0_keepInNext_34 rfl ?_
        refine q_aload_n dX0_keepInNext_36 rfl rfl rfl ?_
        refine q_getr (r := b + 26) dX0_keepInNext_37 fX0_24 rfl (ty_r hb 21 rfl) (hb.2.2 21 4 26 rfl) ?_
        refine q_iload dX0_keepInNext_40 rfl ?_
        refine q_iald (x := sI σ (b + 26) v1) (j := v1) dX0_keepInNext_42 (ty_r hb 26 rfl) (ix_n (by omega) (by omega)) (rd_off (by omega)) ?_
        refine q_iand dX0_keepInNext_43 ?_
        refine q_ior dX0_keepInNext_44 ?_
        refine q_iand dX0_keepInNext_45 ?_
        refine q_top (y := mkN (fun e => v e v1 && (fun e _ => P e) e v1) (psM q).length) (kp_0 hk) ?_
        refine q_istore dX0_keepInNext_46 (by decide) (ls' := [(9, .int (mkN (fun e => v e v1 && (fun e _ => P e) e v1) (psM q).length)), (8, .int (nI v1)), (7, .int (nI 1)), (6, .int (bi false)), (0, .ref (b + 21)), (1, .ref b), (2, .int (nI n)), (3, .ref (b + 25)), (4, .int (nI 0)), (5, .int (mkN P (psM q).length))]) rfl ?_
        refine q_iload dX0_keepInNext_48 rfl ?_
        refine q_iload dX0_keepInNext_50 rfl ?_
        refine q_aload_n dX0_keepInNext_52 rfl rfl rfl ?_
        refine q_iload dX0_keepInNext_53 rfl ?_
        refine q_iald (x := mkN (fun e => v e v1) (psM q).length) (j := v1) dX0_keepInNext_55 (ty_r hb 25 rfl) (ix_n (by omega) (by omega)) (Eq.trans (rd_ne hne) (hv v1 b1.1)) ?_
        refine q_icmp_eq (tgt := 63) dX0_keepInNext_56 (by decide) (fun c56 => ?_) (fun c56 => ?_)
        · have cc1 := c56
          refine q_iconst (v := nI 0) dX0_keepInNext_63 rfl ?_
          refine q_ior dX0_keepInNext_64 ?_
          refine q_top (y := bi false) (by decide) ?_
          refine q_istore dX0_keepInNext_65 (by decide) (ls' := [(6, .int (bi false)), (9, .int (mkN (fun e => v e v1 && (fun e _ => P e) e v1) (psM q).length)), (8, .int (nI v1)), (7, .int (nI 1)), (0, .ref (b + 21)), (1, .ref b), (2, .int (nI n)), (3, .ref (b + 25)), (4, .int (nI 0)), (5, .int (mkN P (psM q).length))]) rfl ?_
          refine q_aload_n dX0_keepInNext_67 rfl rfl rfl ?_
          refine q_iload dX0_keepInNext_68 rfl ?_
          refine q_iload dX0_keepInNext_70 rfl ?_
          refine q_iast (j := v1) dX0_keepInNext_72 (ty_r hb 25 rfl) (ix_n (by omega) (by omega)) ?_
          refine q_iincN (c := 1) dX0_keepInNext_73 rfl (by decide) rfl (ls' := [(7, .int (nI 2)), (6, .int (bi false)), (9, .int (mkN (fun e => v e v1 && (fun e _ => P e) e v1) (psM q).length)), (8, .int (nI v1)), (0, .ref (b + 21)), (1, .ref b), (2, .int (nI n)), (3, .ref (b + 25)), (4, .int (nI 0)), (5, .int (mkN P (psM q).length))]) rfl ?_
          refine q_goto (tgt := 6) dX0_keepInNext_76 (by decide) ?_
          refine q_iload dX0_keepInNext_6 rfl ?_
          refine q_iconst (v := nI 2) dX0_keepInNext_8 rfl ?_
          refine q_icmp_geN (tgt := 79) dX0_keepInNext_9 (by decide) (by omega) (by omega) (fun _ => ?_) (fun h => absurd h (by decide))
          refine q_iload dX0_keepInNext_79 rfl ?_
          refine q_ireturn dX0_keepInNext_81 rfl (bi_nar _) (by omega) (by omega) ?_
          exact KQ_end (o0 := some v0) (o1 := some v1) (D := (fun e _ => P e)) hk l0 l1 hv (fun hz i hi => by cases hi; first | exact cc0 | cases hz) (fun hz i hi => by cases hi; first | exact cc1 | cases hz)
        · have cc1 := c56
          refine q_iconst (v := nI 1) dX0_keepInNext_59 rfl ?_
          refine q_goto (tgt := 64) dX0_keepInNext_60 (by decide) ?_
          refine q_ior dX0_keepInNext_64 ?_
          refine q_top (y := bi true) (by decide) ?_
          refine q_istore dX0_keepInNext_65 (by decide) (ls' := [(6, .int (bi true)), (9, .int (mkN (fun e => v e v1 && (fun e _ => P e) e v1) (psM q).length)), (8, .int (nI v1)), (7, .int (nI 1)), (0, .ref (b + 21)), (1, .ref b), (2, .int (nI n)), (3, .ref (b + 25)), (4, .int (nI 0)), (5, .int (mkN P (psM q).length))]) rfl ?_
          refine q_aload_n dX0_keepInNext_67 rfl rfl rfl ?_
          refine q_iload dX0_keepInNext_68 rfl ?_
          refine q_iload dX0_keepInNext_70 rfl ?_
          refine q_iast (j := v1) dX0_keepInNext_72 (ty_r hb 25 rfl) (ix_n (by omega) (by omega)) ?_
          refine q_iincN (c := 1) dX0_keepInNext_73 rfl (by decide) rfl (ls' := [(7, .int (nI 2)), (6, .int (bi true)), (9, .int (mkN (fun e => v e v1 && (fun e _ => P e) e v1) (psM q).length)), (8, .int (nI v1)), (0, .ref (b + 21)), (1, .ref b), (2, .int (nI n)), (3, .ref (b + 25)), (4, .int (nI 0)), (5, .int (mkN P (psM q).length))]) rfl ?_
          refine q_goto (tgt := 6) dX0_keepInNext_76 (by decide) ?_
          refine q_iload dX0_keepInNext_6 rfl ?_
          refine q_iconst (v := nI 2) dX0_keepInNext_8 rfl ?_
          refine q_icmp_geN (tgt := 79) dX0_keepInNext_9 (by decide) (by omega) (by omega) (fun _ => ?_) (fun h => absurd h (by decide))
          refine q_iload dX0_keepInNext_79 rfl ?_
          refine q_ireturn dX0_keepInNext_81 rfl (bi_nar _) (by omega) (by omega) ?_
          exact KQ_end (o0 := some v0) (o1 := some v1) (D := (fun e _ => P e)) hk l0 l1 hv (fun hz i hi => by cases hi; first | exact cc0 | cases hz) (fun hz i hi => by cases hi; first | exact cc1 | cases hz)
      · have cc0 := c56
        refine q_iconst (v := nI 1) dX0_keepInNext_59 rfl ?_
        refine q_goto (tgt := 64) dX0_keepInNext_60 (by decide) ?_
        refine q_ior dX0_keepInNext_64 ?_
        refine q_top (y := bi true) (by decide) ?_
        refine q_istore dX0_keepInNext_65 (by decide) (ls' := [(6, .int (bi true)), (9, .int (mkN (fun e => v e v0 && (fun e _ => P e) e v0) (psM q).length)), (8, .int (nI v0)), (7, .int (nI 0)), (0, .ref (b + 21)), (1, .ref b), (2, .int (nI n)), (3, .ref (b + 25)), (4, .int (nI 0)), (5, .int (mkN P (psM q).length))]) rfl ?_
        refine q_aload_n dX0_keepInNext_67 rfl rfl rfl ?_
        refine q_iload dX0_keepInNext_68 rfl ?_
        refine q_iload dX0_keepInNext_70 rfl ?_
        refine q_iast (j := v0) dX0_keepInNext_72 (ty_r hb 25 rfl) (ix_n (by omega) (by omega)) ?_
        refine q_iincN (c := 1) dX0_keepInNext_73 rfl (by decide) rfl (ls' := [(7, .int (nI 1)), (6, .int (bi true)), (9, .int (mkN (fun e => v e v0 && (fun e _ => P e) e v0) (psM q).length)), (8, .int (nI v0)), (0, .ref (b + 21)), (1, .ref b), (2, .int (nI n)), (3, .ref (b + 25)), (4, .int (nI 0)), (5, .int (mkN P (psM q).length))]) rfl ?_
        refine q_goto (tgt := 6) dX0_keepInNext_76 (by decide) ?_
        refine q_iload dX0_keepInNext_6 rfl ?_
        refine q_iconst (v := nI 2) dX0_keepInNext_8 rfl ?_
        refine q_icmp_geN (tgt := 79) dX0_keepInNext_9 (by decide) (by omega) (by omega) (fun h => absurd h (by decide)) (fun _ => ?_)
        refine q_aload_n dX0_keepInNext_12 rfl rfl rfl ?_
        refine q_getr (r := b + 11) dX0_keepInNext_13 fX0_129 rfl (ty_r hb 0 rfl) (hb.2.2 0 6 11 rfl) ?_
        refine q_iload dX0_keepInNext_16 rfl ?_
        refine q_aald (r := b + 13) (j := 1) dX0_keepInNext_18 (ty_r hb 11 rfl) (Or.inl rfl) (ix_n (by omega) (by omega)) (hb.2.2 11 1 13 rfl) ?_
        refine q_iload_n dX0_keepInNext_19 rfl rfl ?_
        refine q_iald (x := nI v1) (j := n) dX0_keepInNext_20 (ty_r hb 13 rfl) (ix_n (by omega) (by omega)) (Eq.trans (rd_off (by omega)) r13) ?_
        refine q_istore dX0_keepInNext_21 (by decide) (ls' := [(8, .int (nI v1)), (7, .int (nI 1)), (6, .int (bi true)), (9, .int (mkN (fun e => v e v0 && (fun e _ => P e) e v0) (psM q).length)), (0, .ref (b + 21)), (1, .ref b), (2, .int (nI n)), (3, .ref (b + 25)), (4, .int (nI 0)), (5, .int (mkN P (psM q).length))]) rfl ?_
        refine q_iload dX0_keepInNext_23 rfl ?_
        refine q_if_ltN (tgt := 73) dX0_keepInNext_25 (by decide) (by omega) ?_
        refine q_aload_n dX0_keepInNext_28 rfl rfl rfl ?_
        refine q_iload dX0_keepInNext_29 rfl ?_
        refine q_iald (x := mkN (fun e => v e v1) (psM q).length) (j := v1) dX0_keepInNext_31 (ty_r hb 25 rfl) (ix_n (by omega) (by omega)) (Eq.trans (rd_ne hne) (hv v1 b1.1)) ?_
        refine q_iload dX0_keepInNext_32 rfl ?_
        refine q_iload dX0_keepInNext_34 rfl ?_
        refine q_aload_n dX0_keepInNext_36 rfl rfl rfl ?_
        refine q_getr (r := b + 26) dX0_keepInNext_37 fX0_24 rfl (ty_r hb 21 rfl) (hb.2.2 21 4 26 rfl) ?_
        refine q_iload dX0_keepInNext_40 rfl ?_
        refine q_iald (x := sI σ (b + 26) v1) (j := v1) dX0_keepInNext_42 (ty_r hb 26 rfl) (ix_n (by omega) (by omega)) (rd_off (by omega)) ?_
        refine q_iand dX0_keepInNext_43 ?_
        refine q_ior dX0_keepInNext_44 ?_
        refine q_iand dX0_keepInNext_45 ?_
        refine q_top (y := mkN (fun e => v e v1 && (fun e _ => P e) e v1) (psM q).length) (kp_0 hk) ?_
        refine q_istore dX0_keepInNext_46 (by decide) (ls' := [(9, .int (mkN (fun e => v e v1 && (fun e _ => P e) e v1) (psM q).length)), (8, .int (nI v1)), (7, .int (nI 1)), (6, .int (bi true)), (0, .ref (b + 21)), (1, .ref b), (2, .int (nI n)), (3, .ref (b + 25)), (4, .int (nI 0)), (5, .int (mkN P (psM q).length))]) rfl ?_
        refine q_iload dX0_keepInNext_48 rfl ?_
        refine q_iload dX0_keepInNext_50 rfl ?_
        refine q_aload_n dX0_keepInNext_52 rfl rfl rfl ?_
        refine q_iload dX0_keepInNext_53 rfl ?_
        refine q_iald (x := mkN (fun e => v e v1) (psM q).length) (j := v1) dX0_keepInNext_55 (ty_r hb 25 rfl) (ix_n (by omega) (by omega)) (Eq.trans (rd_ne hne) (hv v1 b1.1)) ?_
        refine q_icmp_eq (tgt := 63) dX0_keepInNext_56 (by decide) (fun c56 => ?_) (fun c56 => ?_)
        · have cc1 := c56
          refine q_iconst (v := nI 0) dX0_keepInNext_63 rfl ?_
          refine q_ior dX0_keepInNext_64 ?_
          refine q_top (y := bi true) (by decide) ?_
          refine q_istore dX0_keepInNext_65 (by decide) (ls' := [(6, .int (bi true)), (9, .int (mkN (fun e => v e v1 && (fun e _ => P e) e v1) (psM q).length)), (8, .int (nI v1)), (7, .int (nI 1)), (0, .ref (b + 21)), (1, .ref b), (2, .int (nI n)), (3, .ref (b + 25)), (4, .int (nI 0)), (5, .int (mkN P (psM q).length))]) rfl ?_
          refine q_aload_n dX0_keepInNext_67 rfl rfl rfl ?_
          refine q_iload dX0_keepInNext_68 rfl ?_
          refine q_iload dX0_keepInNext_70 rfl ?_
          refine q_iast (j := v1) dX0_keepInNext_72 (ty_r hb 25 rfl) (ix_n (by omega) (by omega)) ?_
          refine q_iincN (c := 1) dX0_keepInNext_73 rfl (by decide) rfl (ls' := [(7, .int (nI 2)), (6, .int (bi true)), (9, .int (mkN (fun e => v e v1 && (fun e _ => P e) e v1) (psM q).length)), (8, .int (nI v1)), (0, .ref (b + 21)), (1, .ref b), (2, .int (nI n)), (3, .ref (b + 25)), (4, .int (nI 0)), (5, .int (mkN P (psM q).length))]) rfl ?_
          refine q_goto (tgt := 6) dX0_keepInNext_76 (by decide) ?_
          refine q_iload dX0_keepInNext_6 rfl ?_
          refine q_iconst (v := nI 2) dX0_keepInNext_8 rfl ?_
          refine q_icmp_geN (tgt := 79) dX0_keepInNext_9 (by decide) (by omega) (by omega) (fun _ => ?_) (fun h => absurd h (by decide))
          refine q_iload dX0_keepInNext_79 rfl ?_
          refine q_ireturn dX0_keepInNext_81 rfl (bi_nar _) (by omega) (by omega) ?_
          exact KQ_end (o0 := some v0) (o1 := some v1) (D := (fun e _ => P e)) hk l0 l1 hv (fun hz i hi => by cases hi; first | exact cc0 | cases hz) (fun hz i hi => by cases hi; first | exact cc1 | cases hz)
        · have cc1 := c56
          refine q_iconst (v := nI 1) dX0_keepInNext_59 rfl ?_
          refine q_goto (tgt := 64) dX0_keepInNext_60 (by decide) ?_
          refine q_ior dX0_keepInNext_64 ?_
          refine q_top (y := bi true) (by decide) ?_
          refine q_istore dX0_keepInNext_65 (by decide) (ls' := [(6, .int (bi true)), (9, .int (mkN (fun e => v e v1 && (fun e _ => P e) e v1) (psM q).length)), (8, .int (nI v1)), (7, .int (nI 1)), (0, .ref (b + 21)), (1, .ref b), (2, .int (nI n)), (3, .ref (b + 25)), (4, .int (nI 0)), (5, .int (mkN P (psM q).length))]) rfl ?_
          refine q_aload_n dX0_keepInNext_67 rfl rfl rfl ?_
          refine q_iload dX0_keepInNext_68 rfl ?_
          refine q_iload dX0_keepInNext_70 rfl ?_
          refine q_iast (j := v1) dX0_keepInNext_72 (ty_r hb 25 rfl) (ix_n (by omega) (by omega)) ?_
          refine q_iincN (c := 1) dX0_keepInNext_73 rfl (by decide) rfl (ls' := [(7, .int (nI 2)), (6, .int (bi true)), (9, .int (mkN (fun e => v e v1 && (fun e _ => P e) e v1) (psM q).length)), (8, .int (nI v1)), (0, .ref (b + 21)), (1, .ref b), (2, .int (nI n)), (3, .ref (b + 25)), (4, .int (nI 0)), (5, .int (mkN P (psM q).length))]) rfl ?_
          refine q_goto (tgt := 6) dX0_keepInNext_76 (by decide) ?_
          refine q_iload dX0_keepInNext_6 rfl ?_
          refine q_iconst (v := nI 2) dX0_keepInNext_8 rfl ?_
          refine q_icmp_geN (tgt := 79) dX0_keepInNext_9 (by decide) (by omega) (by omega) (fun _ => ?_) (fun h => absurd h (by decide))
          refine q_iload dX0_keepInNext_79 rfl ?_
          refine q_ireturn dX0_keepInNext_81 rfl (bi_nar _) (by omega) (by omega) ?_
          exact KQ_end (o0 := some v0) (o1 := some v1) (D := (fun e _ => P e)) hk l0 l1 hv (fun hz i hi => by cases hi; first | exact cc0 | cases hz) (fun hz i hi => by cases hi; first | exact cc1 | cases hz)
theorem z0_keep_27 (hq : FE σ b q) {v : Nat → Nat → Bool} {P : Nat → Bool} (hv : FA σ (b + 27) q v) (he : FA σ (b + 26) q (ear q)) {n : Nat} (hn : n < NN q) : CT g mX0_keepInNext 0 0 0 [.ref (b + 21), .ref b, .int (nI n), .ref (b + 27), .int (mkN (fun _ => true) (psM q).length), .int (mkN P (psM q).length)] σ (KQ σ (b + 27) q (fun e i => P e || ear q e i) v n) := by
  obtain ⟨hb, hc, hw, hnb, hx, h14, hs, hall, hr⟩ := id hq
  have hb14 : b = 14 ∨ 99 ≤ b := by rcases hb.1 with h | ⟨j, h⟩ <;> omega
  have hNN := NN_le hc
  obtain ⟨r1, r3, r7, r12, r13⟩ := hr n hn
  have hl := K_l0 hq hn
  have hk := hq.k
  cases l0 : ld q 0 n with
  | none =>
    rw [l0] at r12
    cases l1 : ld q 1 n with
    | none =>
      rw [l1] at r13
      refine CT.of (by decide) (Nat.le_of_ble_eq_true rfl) ?_
      refine q_iconst (v := nI 0) dX0_keepInNext_0 rfl ?_
      refine q_istore dX0_keepInNext_1 (by decide) (ls' := [(6, .int (nI 0)), (0, .ref (b + 21)), (1, .ref b), (2, .int (nI n)), (3, .ref (b + 27)), (4, .int (mkN (fun _ => true) (psM q).length)), (5, .int (mkN P (psM q).length))]) rfl ?_
      refine q_iconst (v := nI 0) dX0_keepInNext_3 rfl ?_
      refine q_istore dX0_keepInNext_4 (by decide) (ls' := [(7, .int (nI 0)), (6, .int (nI 0)), (0, .ref (b + 21)), (1, .ref b), (2, .int (nI n)), (3, .ref (b + 27)), (4, .int (mkN (fun _ => true) (psM q).length)), (5, .int (mkN P (psM q).length))]) rfl ?_
      refine q_iload dX0_keepInNext_6 rfl ?_
      refine q_iconst (v := nI 2) dX0_keepInNext_8 rfl ?_
      refine q_icmp_geN (tgt := 79) dX0_keepInNext_9 (by decide) (by omega) (by omega) (fun h => absurd h (by decide)) (fun _ => ?_)
      refine q_aload_n dX0_keepInNext_12 rfl rfl rfl ?_
      refine q_getr (r := b + 11) dX0_keepInNext_13 fX0_129 rfl (ty_r hb 0 rfl) (hb.2.2 0 6 11 rfl) ?_
      refine q_iload dX0_keepInNext_16 rfl ?_
      refine q_aald (r := b + 12) (j := 0) dX0_keepInNext_18 (ty_r hb 11 rfl) (Or.inl rfl) (ix_n (by omega) (by omega)) (hb.2.2 11 0 12 rfl) ?_
      refine q_iload_n dX0_keepInNext_19 rfl rfl ?_
      refine q_iald (x := (-1)) (j := n) dX0_keepInNext_20 (ty_r hb 12 rfl) (ix_n (by omega) (by omega)) r12 ?_
      refine q_istore dX0_keepInNext_21 (by decide) (ls' := [(8, .int (-1)), (7, .int (nI 0)), (6, .int (nI 0)), (0, .ref (b + 21)), (1, .ref b), (2, .int (nI n)), (3, .ref (b + 27)), (4, .int (mkN (fun _ => true) (psM q).length)), (5, .int (mkN P (psM q).length))]) rfl ?_
      refine q_iload dX0_keepInNext_23 rfl ?_
      refine q_if_lt1 (tgt := 73) dX0_keepInNext_25 (by decide) (by decide) ?_
      refine q_iincN (c := 1) dX0_keepInNext_73 rfl (by decide) rfl (ls' := [(7, .int (nI 1)), (8, .int (-1)), (6, .int (nI 0)), (0, .ref (b + 21)), (1, .ref b), (2, .int (nI n)), (3, .ref (b + 27)), (4, .int (mkN (fun _ => true) (psM q).length)), (5, .int (mkN P (psM q).length))]) rfl ?_
      refine q_goto (tgt := 6) dX0_keepInNext_76 (by decide) ?_
      refine q_iload dX0_keepInNext_6 rfl ?_
      refine q_iconst (v := nI 2) dX0_keepInNext_8 rfl ?_
      refine q_icmp_geN (tgt := 79) dX0_keepInNext_9 (by decide) (by omega) (by omega) (fun h => absurd h (by decide)) (fun _ => ?_)
      refine q_aload_n dX0_keepInNext_12 rfl rfl rfl ?_
      refine q_getr (r := b + 11) dX0_keepInNext_13 fX0_129 rfl (ty_r hb 0 rfl) (hb.2.2 0 6 11 rfl) ?_
      refine q_iload dX0_keepInNext_16 rfl ?_
      refine q_aald (r := b + 13) (j := 1) dX0_keepInNext_18 (ty_r hb 11 rfl) (Or.inl rfl) (ix_n (by omega) (by omega)) (hb.2.2 11 1 13 rfl) ?_
      refine q_iload_n dX0_keepInNext_19 rfl rfl ?_
      refine q_iald (x := (-1)) (j := n) dX0_keepInNext_20 (ty_r hb 13 rfl) (ix_n (by omega) (by omega)) r13 ?_
      refine q_istore dX0_keepInNext_21 (by decide) (ls' := [(8, .int (-1)), (7, .int (nI 1)), (6, .int (nI 0)), (0, .ref (b + 21)), (1, .ref b), (2, .int (nI n)), (3, .ref (b + 27)), (4, .int (mkN (fun _ => true) (psM q).length)), (5, .int (mkN P (psM q).length))]) rfl ?_
      refine q_iload dX0_keepInNext_23 rfl ?_
      refine q_if_lt1 (tgt := 73) dX0_keepInNext_25 (by decide) (by decide) ?_
      refine q_iincN (c := 1) dX0_keepInNext_73 rfl (by decide) rfl (ls' := [(7, .int (nI 2)), (8, .int (-1)), (6, .int (nI 0)), (0, .ref (b + 21)), (1, .ref b), (2, .int (nI n)), (3, .ref (b + 27)), (4, .int (mkN (fun _ => true) (psM q).length)), (5, .int (mkN P (psM q).length))]) rfl ?_
      refine q_goto (tgt := 6) dX0_keepInNext_76 (by decide) ?_
      refine q_iload dX0_keepInNext_6 rfl ?_
      refine q_iconst (v := nI 2) dX0_keepInNext_8 rfl ?_
      refine q_icmp_geN (tgt := 79) dX0_keepInNext_9 (by decide) (by omega) (by omega) (fun _ => ?_) (fun h => absurd h (by decide))
      refine q_iload dX0_keepInNext_79 rfl ?_
      refine q_ireturn dX0_keepInNext_81 rfl rfl (by omega) (by omega) ?_
      exact KQ_end (c := false) (o0 := none) (o1 := none) (D := (fun e i => P e || ear q e i)) hk l0 l1 hv (fun _ i hi => by cases hi) (fun _ i hi => by cases hi)
    | some v1 =>
      rw [l1] at r13
      have b1 := hl.2 v1 l1
      refine CT.of (by decide) (Nat.le_of_ble_eq_true rfl) ?_
      refine q_iconst (v := nI 0) dX0_keepInNext_0 rfl ?_
      refine q_istore dX0_keepInNext_1 (by decide) (ls' := [(6, .int (nI 0)), (0, .ref (b + 21)), (1, .ref b), (2, .int (nI n)), (3, .ref (b + 27)), (4, .int (mkN (fun _ => true) (psM q).length)), (5, .int (mkN P (psM q).length))]) rfl ?_
      refine q_iconst (v := nI 0) dX0_keepInNext_3 rfl ?_
      refine q_istore dX0_keepInNext_4 (by decide) (ls' := [(7, .int (nI 0)), (6, .int (nI 0)), (0, .ref (b + 21)), (1, .ref b), (2, .int (nI n)), (3, .ref (b + 27)), (4, .int (mkN (fun _ => true) (psM q).length)), (5, .int (mkN P (psM q).length))]) rfl ?_
      refine q_iload dX0_keepInNext_6 rfl ?_
      refine q_iconst (v := nI 2) dX0_keepInNext_8 rfl ?_
      refine q_icmp_geN (tgt := 79) dX0_keepInNext_9 (by decide) (by omega) (by omega) (fun h => absurd h (by decide)) (fun _ => ?_)
      refine q_aload_n dX0_keepInNext_12 rfl rfl rfl ?_
      refine q_getr (r := b + 11) dX0_keepInNext_13 fX0_129 rfl (ty_r hb 0 rfl) (hb.2.2 0 6 11 rfl) ?_
      refine q_iload dX0_keepInNext_16 rfl ?_
      refine q_aald (r := b + 12) (j := 0) dX0_keepInNext_18 (ty_r hb 11 rfl) (Or.inl rfl) (ix_n (by omega) (by omega)) (hb.2.2 11 0 12 rfl) ?_
      refine q_iload_n dX0_keepInNext_19 rfl rfl ?_
      refine q_iald (x := (-1)) (j := n) dX0_keepInNext_20 (ty_r hb 12 rfl) (ix_n (by omega) (by omega)) r12 ?_
      refine q_istore dX0_keepInNext_21 (by decide) (ls' := [(8, .int (-1)), (7, .int (nI 0)), (6, .int (nI 0)), (0, .ref (b + 21)), (1, .ref b), (2, .int (nI n)), (3, .ref (b + 27)), (4, .int (mkN (fun _ => true) (psM q).length)), (5, .int (mkN P (psM q).length))]) rfl ?_
      refine q_iload dX0_keepInNext_23 rfl ?_
      refine q_if_lt1 (tgt := 73) dX0_keepInNext_25 (by decide) (by decide) ?_
      refine q_iincN (c := 1) dX0_keepInNext_73 rfl (by decide) rfl (ls' := [(7, .int (nI 1)), (8, .int (-1)), (6, .int (nI 0)), (0, .ref (b + 21)), (1, .ref b), (2, .int (nI n)), (3, .ref (b + 27)), (4, .int (mkN (fun _ => true) (psM q).length)), (5, .int (mkN P (psM q).length))]) rfl ?_
      refine q_goto (tgt := 6) dX0_keepInNext_76 (by decide) ?_
      refine q_iload dX0_keepInNext_6 rfl ?_
      refine q_iconst (v := nI 2) dX0_keepInNext_8 rfl ?_
      refine q_icmp_geN (tgt := 79) dX0_keepInNext_9 (by decide) (by omega) (by omega) (fun h => absurd h (by decide)) (fun _ => ?_)
      refine q_aload_n dX0_keepInNext_12 rfl rfl rfl ?_
      refine q_getr (r := b + 11) dX0_keepInNext_13 fX0_129 rfl (ty_r hb 0 rfl) (hb.2.2 0 6 11 rfl) ?_
      refine q_iload dX0_keepInNext_16 rfl ?_
      refine q_aald (r := b + 13) (j := 1) dX0_keepInNext_18 (ty_r hb 11 rfl) (Or.inl rfl) (ix_n (by omega) (by omega)) (hb.2.2 11 1 13 rfl) ?_
      refine q_iload_n dX0_keepInNext_19 rfl rfl ?_
      refine q_iald (x := nI v1) (j := n) dX0_keepInNext_20 (ty_r hb 13 rfl) (ix_n (by omega) (by omega)) r13 ?_
      refine q_istore dX0_keepInNext_21 (by decide) (ls' := [(8, .int (nI v1)), (7, .int (nI 1)), (6, .int (nI 0)), (0, .ref (b + 21)), (1, .ref b), (2, .int (nI n)), (3, .ref (b + 27)), (4, .int (mkN (fun _ => true) (psM q).length)), (5, .int (mkN P (psM q).length))]) rfl ?_
      refine q_iload dX0_keepInNext_23 rfl ?_
      refine q_if_ltN (tgt := 73) dX0_keepInNext_25 (by decide) (by omega) ?_
      refine q_aload_n dX0_keepInNext_28 rfl rfl rfl ?_
      refine q_iload dX0_keepInNext_29 rfl ?_
      refine q_iald (x := mkN (fun e => v e v1) (psM q).length) (j := v1) dX0_keepInNext_31 (ty_r hb 27 rfl) (ix_n (by omega) (by omega)) (hv v1 b1.1) ?_
      refine q_iload dX0_keepInNext_32 rfl ?_
      refine q_iload dX0_keepInNext_34 rfl ?_
      refine q_aload_n dX0_keepInNext_36 rfl rfl rfl ?_
      refine q_getr (r := b + 26) dX0_keepInNext_37 fX0_24 rfl (ty_r hb 21 rfl) (hb.2.2 21 4 26 rfl) ?_
      refine q_iload dX0_keepInNext_40 rfl ?_
      refine q_iald (x := mkN (fun e => ear q e v1) (psM q).length) (j := v1) dX0_keepInNext_42 (ty_r hb 26 rfl) (ix_n (by omega) (by omega)) (he v1 b1.1) ?_
      refine q_iand dX0_keepInNext_43 ?_
      refine q_ior dX0_keepInNext_44 ?_
      refine q_iand dX0_keepInNext_45 ?_
      refine q_top (y := mkN (fun e => v e v1 && (fun e i => P e || ear q e i) e v1) (psM q).length) (kp_1 hk) ?_
      refine q_istore dX0_keepInNext_46 (by decide) (ls' := [(9, .int (mkN (fun e => v e v1 && (fun e i => P e || ear q e i) e v1) (psM q).length)), (8, .int (nI v1)), (7, .int (nI 1)), (6, .int (nI 0)), (0, .ref (b + 21)), (1, .ref b), (2, .int (nI n)), (3, .ref (b + 27)), (4, .int (mkN (fun _ => true) (psM q).length)), (5, .int (mkN P (psM q).length))]) rfl ?_
      refine q_iload dX0_keepInNext_48 rfl ?_
      refine q_iload dX0_keepInNext_50 rfl ?_
      refine q_aload_n dX0_keepInNext_52 rfl rfl rfl ?_
      refine q_iload dX0_keepInNext_53 rfl ?_
      refine q_iald (x := mkN (fun e => v e v1) (psM q).length) (j := v1) dX0_keepInNext_55 (ty_r hb 27 rfl) (ix_n (by omega) (by omega)) (hv v1 b1.1) ?_
      refine q_icmp_eq (tgt := 63) dX0_keepInNext_56 (by decide) (fun c56 => ?_) (fun c56 => ?_)
      · have cc1 := c56
        refine q_iconst (v := nI 0) dX0_keepInNext_63 rfl ?_
        refine q_ior dX0_keepInNext_64 ?_
        refine q_top (y := bi false) (by decide) ?_
        refine q_istore dX0_keepInNext_65 (by decide) (ls' := [(6, .int (bi false)), (9, .int (mkN (fun e => v e v1 && (fun e i => P e || ear q e i) e v1) (psM q).length)), (8, .int (nI v1)), (7, .int (nI 1)), (0, .ref (b + 21)), (1, .ref b), (2, .int (nI n)), (3, .ref (b + 27)), (4, .int (mkN (fun _ => true) (psM q).length)), (5, .int (mkN P (psM q).length))]) rfl ?_
        refine q_aload_n dX0_keepInNext_67 rfl rfl rfl ?_
        refine q_iload dX0_keepInNext_68 rfl ?_
        refine q_iload dX0_keepInNext_70 rfl ?_
        refine q_iast (j := v1) dX0_keepInNext_72 (ty_r hb 27 rfl) (ix_n (by omega) (by omega)) ?_
        refine q_iincN (c := 1) dX0_keepInNext_73 rfl (by decide) rfl (ls' := [(7, .int (nI 2)), (6, .int (bi false)), (9, .int (mkN (fun e => v e v1 && (fun e i => P e || ear q e i) e v1) (psM q).length)), (8, .int (nI v1)), (0, .ref (b + 21)), (1, .ref b), (2, .int (nI n)), (3, .ref (b + 27)), (4, .int (mkN (fun _ => true) (psM q).length)), (5, .int (mkN P (psM q).length))]) rfl ?_
        refine q_goto (tgt := 6) dX0_keepInNext_76 (by decide) ?_
        refine q_iload dX0_keepInNext_6 rfl ?_
        refine q_iconst (v := nI 2) dX0_keepInNext_8 rfl ?_
        refine q_icmp_geN (tgt := 79) dX0_keepInNext_9 (by decide) (by omega) (by omega) (fun _ => ?_) (fun h => absurd h (by decide))
        refine q_iload dX0_keepInNext_79 rfl ?_
        refine q_ireturn dX0_keepInNext_81 rfl (bi_nar _) (by omega) (by omega) ?_
        exact KQ_end (o0 := none) (o1 := some v1) (D := (fun e i => P e || ear q e i)) hk l0 l1 hv (fun _ i hi => by cases hi) (fun hz i hi => by cases hi; first | exact cc1 | cases hz)
      · have cc1 := c56
        refine q_iconst (v := nI 1) dX0_keepInNext_59 rfl ?_
        refine q_goto (tgt := 64) dX0_keepInNext_60 (by decide) ?_
        refine q_ior dX0_keepInNext_64 ?_
        refine q_top (y := bi true) (by decide) ?_
        refine q_istore dX0_keepInNext_65 (by decide) (ls' := [(6, .int (bi true)), (9, .int (mkN (fun e => v e v1 && (fun e i => P e || ear q e i) e v1) (psM q).length)), (8, .int (nI v1)), (7, .int (nI 1)), (0, .ref (b + 21)), (1, .ref b), (2, .int (nI n)), (3, .ref (b + 27)), (4, .int (mkN (fun _ => true) (psM q).length)), (5, .int (mkN P (psM q).length))]) rfl ?_
        refine q_aload_n dX0_keepInNext_67 rfl rfl rfl ?_
        refine q_iload dX0_keepInNext_68 rfl ?_
        refine q_iload dX0_keepInNext_70 rfl ?_
        refine q_iast (j := v1) dX0_keepInNext_72 (ty_r hb 27 rfl) (ix_n (by omega) (by omega)) ?_
        refine q_iincN (c := 1) dX0_keepInNext_73 rfl (by decide) rfl (ls' := [(7, .int (nI 2)), (6, .int (bi true)), (9, .int (mkN (fun e => v e v1 && (fun e i => P e || ear q e i) e v1) (psM q).length)), (8, .int (nI v1)), (0, .ref (b + 21)), (1, .ref b), (2, .int (nI n)), (3, .ref (b + 27)), (4, .int (mkN (fun _ => true) (psM q).length)), (5, .int (mkN P (psM q).length))]) rfl ?_
        refine q_goto (tgt := 6) dX0_keepInNext_76 (by decide) ?_
        refine q_iload dX0_keepInNext_6 rfl ?_
        refine q_iconst (v := nI 2) dX0_keepInNext_8 rfl ?_
        refine q_icmp_geN (tgt := 79) dX0_keepInNext_9 (by decide) (by omega) (by omega) (fun _ => ?_) (fun h => absurd h (by decide))
        refine q_iload dX0_keepInNext_79 rfl ?_
        refine q_ireturn dX0_keepInNext_81 rfl (bi_nar _) (by omega) (by omega) ?_
        exact KQ_end (o0 := none) (o1 := some v1) (D := (fun e i => P e || ear q e i)) hk l0 l1 hv (fun _ i hi => by cases hi) (fun hz i hi => by cases hi; first | exact cc1 | cases hz)
  | some v0 =>
    rw [l0] at r12
    have b0 := hl.1 v0 l0
    cases l1 : ld q 1 n with
    | none =>
      rw [l1] at r13
      refine CT.of (by decide) (Nat.le_of_ble_eq_true rfl) ?_
      refine q_iconst (v := nI 0) dX0_keepInNext_0 rfl ?_
      refine q_istore dX0_keepInNext_1 (by decide) (ls' := [(6, .int (nI 0)), (0, .ref (b + 21)), (1, .ref b), (2, .int (nI n)), (3, .ref (b + 27)), (4, .int (mkN (fun _ => true) (psM q).length)), (5, .int (mkN P (psM q).length))]) rfl ?_
      refine q_iconst (v := nI 0) dX0_keepInNext_3 rfl ?_
      refine q_istore dX0_keepInNext_4 (by decide) (ls' := [(7, .int (nI 0)), (6, .int (nI 0)), (0, .ref (b + 21)), (1, .ref b), (2, .int (nI n)), (3, .ref (b + 27)), (4, .int (mkN (fun _ => true) (psM q).length)), (5, .int (mkN P (psM q).length))]) rfl ?_
      refine q_iload dX0_keepInNext_6 rfl ?_
      refine q_iconst (v := nI 2) dX0_keepInNext_8 rfl ?_
      refine q_icmp_geN (tgt := 79) dX0_keepInNext_9 (by decide) (by omega) (by omega) (fun h => absurd h (by decide)) (fun _ => ?_)
      refine q_aload_n dX0_keepInNext_12 rfl rfl rfl ?_
      refine q_getr (r := b + 11) dX0_keepInNext_13 fX0_129 rfl (ty_r hb 0 rfl) (hb.2.2 0 6 11 rfl) ?_
      refine q_iload dX0_keepInNext_16 rfl ?_
      refine q_aald (r := b + 12) (j := 0) dX0_keepInNext_18 (ty_r hb 11 rfl) (Or.inl rfl) (ix_n (by omega) (by omega)) (hb.2.2 11 0 12 rfl) ?_
      refine q_iload_n dX0_keepInNext_19 rfl rfl ?_
      refine q_iald (x := nI v0) (j := n) dX0_keepInNext_20 (ty_r hb 12 rfl) (ix_n (by omega) (by omega)) r12 ?_
      refine q_istore dX0_keepInNext_21 (by decide) (ls' := [(8, .int (nI v0)), (7, .int (nI 0)), (6, .int (nI 0)), (0, .ref (b + 21)), (1, .ref b), (2, .int (nI n)), (3, .ref (b + 27)), (4, .int (mkN (fun _ => true) (psM q).length)), (5, .int (mkN P (psM q).length))]) rfl ?_
      refine q_iload dX0_keepInNext_23 rfl ?_
      refine q_if_ltN (tgt := 73) dX0_keepInNext_25 (by decide) (by omega) ?_
      refine q_aload_n dX0_keepInNext_28 rfl rfl rfl ?_
      refine q_iload dX0_keepInNext_29 rfl ?_
      refine q_iald (x := mkN (fun e => v e v0) (psM q).length) (j := v0) dX0_keepInNext_31 (ty_r hb 27 rfl) (ix_n (by omega) (by omega)) (hv v0 b0.1) ?_
      refine q_iload dX0_keepInNext_32 rfl ?_
      refine q_iload dX0_keepInNext_34 rfl ?_
      refine q_aload_n dX0_keepInNext_36 rfl rfl rfl ?_
      refine q_getr (r := b + 26) dX0_keepInNext_37 fX0_24 rfl (ty_r hb 21 rfl) (hb.2.2 21 4 26 rfl) ?_
      refine q_iload dX0_keepInNext_40 rfl ?_
      refine q_iald (x := mkN (fun e => ear q e v0) (psM q).length) (j := v0) dX0_keepInNext_42 (ty_r hb 26 rfl) (ix_n (by omega) (by omega)) (he v0 b0.1) ?_
      refine q_iand dX0_keepInNext_43 ?_
      refine q_ior dX0_keepInNext_44 ?_
      refine q_iand dX0_keepInNext_45 ?_
      refine q_top (y := mkN (fun e => v e v0 && (fun e i => P e || ear q e i) e v0) (psM q).length) (kp_1 hk) ?_
      refine q_istore dX0_keepInNext_46 (by decide) (ls' := [(9, .int (mkN (fun e => v e v0 && (fun e i => P e || ear q e i) e v0) (psM q).length)), (8, .int (nI v0)), (7, .int (nI 0)), (6, .int (nI 0)), (0, .ref (b + 21)), (1, .ref b), (2, .int (nI n)), (3, .ref (b + 27)), (4, .int (mkN (fun _ => true) (psM q).length)), (5, .int (mkN P (psM q).length))]) rfl ?_
      refine q_iload dX0_keepInNext_48 rfl ?_
      refine q_iload dX0_keepInNext_50 rfl ?_
      refine q_aload_n dX0_keepInNext_52 rfl rfl rfl ?_
      refine q_iload dX0_keepInNext_53 rfl ?_
      refine q_iald (x := mkN (fun e => v e v0) (psM q).length) (j := v0) dX0_keepInNext_55 (ty_r hb 27 rfl) (ix_n (by omega) (by omega)) (hv v0 b0.1) ?_
      refine q_icmp_eq (tgt := 63) dX0_keepInNext_56 (by decide) (fun c56 => ?_) (fun c56 => ?_)
      · have cc0 := c56
        refine q_iconst (v := nI 0) dX0_keepInNext_63 rfl ?_
        refine q_ior dX0_keepInNext_64 ?_
        refine q_top (y := bi false) (by decide) ?_
        refine q_istore dX0_keepInNext_65 (by decide) (ls' := [(6, .int (bi false)), (9, .int (mkN (fun e => v e v0 && (fun e i => P e || ear q e i) e v0) (psM q).length)), (8, .int (nI v0)), (7, .int (nI 0)), (0, .ref (b + 21)), (1, .ref b), (2, .int (nI n)), (3, .ref (b + 27)), (4, .int (mkN (fun _ => true) (psM q).length)), (5, .int (mkN P (psM q).length))]) rfl ?_
        refine q_aload_n dX0_keepInNext_67 rfl rfl rfl ?_
        refine q_iload dX0_keepInNext_68 rfl ?_
        refine q_iload dX0_keepInNext_70 rfl ?_
        refine q_iast (j := v0) dX0_keepInNext_72 (ty_r hb 27 rfl) (ix_n (by omega) (by omega)) ?_
        refine q_iincN (c := 1) dX0_keepInNext_73 rfl (by decide) rfl (ls' := [(7, .int (nI 1)), (6, .int (bi false)), (9, .int (mkN (fun e => v e v0 && (fun e i => P e || ear q e i) e v0) (psM q).length)), (8, .int (nI v0)), (0, .ref (b + 21)), (1, .ref b), (2, .int (nI n)), (3, .ref (b + 27)), (4, .int (mkN (fun _ => true) (psM q).length)), (5, .int (mkN P (psM q).length))]) rfl ?_
        refine q_goto (tgt := 6) dX0_keepInNext_76 (by decide) ?_
        refine q_iload dX0_keepInNext_6 rfl ?_
        refine q_iconst (v := nI 2) dX0_keepInNext_8 rfl ?_
        refine q_icmp_geN (tgt := 79) dX0_keepInNext_9 (by decide) (by omega) (by omega) (fun h => absurd h (by decide)) (fun _ => ?_)
        refine q_aload_n dX0_keepInNext_12 rfl rfl rfl ?_
        refine q_getr (r := b + 11) dX0_keepInNext_13 fX0_129 rfl (ty_r hb 0 rfl) (hb.2.2 0 6 11 rfl) ?_
        refine q_iload dX0_keepInNext_16 rfl ?_
        refine q_aald (r := b + 13) (j := 1) dX0_keepInNext_18 (ty_r hb 11 rfl) (Or.inl rfl) (ix_n (by omega) (by omega)) (hb.2.2 11 1 13 rfl) ?_
        refine q_iload_n dX0_keepInNext_19 rfl rfl ?_
        refine q_iald (x := (-1)) (j := n) dX0_keepInNext_20 (ty_r hb 13 rfl) (ix_n (by omega) (by omega)) (Eq.trans (rd_off (by omega)) r13) ?_
        refine q_istore dX0_keepInNext_21 (by decide) (ls' := [(8, .int (-1)), (7, .int (nI 1)), (6, .int (bi false)), (9, .int (mkN (fun e => v e v0 && (fun e i => P e || ear q e i) e v0) (psM q).length)), (0, .ref (b + 21)), (1, .ref b), (2, .int (nI n)), (3, .ref (b + 27)), (4, .int (mkN (fun _ => true) (psM q).length)), (5, .int (mkN P (psM q).length))]) rfl ?_
        refine q_iload dX0_keepInNext_23 rfl ?_
        refine q_if_lt1 (tgt := 73) dX0_keepInNext_25 (by decide) (by decide) ?_
        refine q_iincN (c := 1) dX0_keepInNext_73 rfl (by decide) rfl (ls' := [(7, .int (nI 2)), (8, .int (-1)), (6, .int (bi false)), (9, .int (mkN (fun e => v e v0 && (fun e i => P e || ear q e i) e v0) (psM q).length)), (0, .ref (b + 21)), (1, .ref b), (2, .int (nI n)), (3, .ref (b + 27)), (4, .int (mkN (fun _ => true) (psM q).length)), (5, .int (mkN P (psM q).length))]) rfl ?_
        refine q_goto (tgt := 6) dX0_keepInNext_76 (by decide) ?_
        refine q_iload dX0_keepInNext_6 rfl ?_
        refine q_iconst (v := nI 2) dX0_keepInNext_8 rfl ?_
        refine q_icmp_geN (tgt := 79) dX0_keepInNext_9 (by decide) (by omega) (by omega) (fun _ => ?_) (fun h => absurd h (by decide))
        refine q_iload dX0_keepInNext_79 rfl ?_
        refine q_ireturn dX0_keepInNext_81 rfl (bi_nar _) (by omega) (by omega) ?_
        exact KQ_end (o0 := some v0) (o1 := none) (D := (fun e i => P e || ear q e i)) hk l0 l1 hv (fun hz i hi => by cases hi; first | exact cc0 | cases hz) (fun _ i hi => by cases hi)
      · have cc0 := c56
        refine q_iconst (v := nI 1) dX0_keepInNext_59 rfl ?_
        refine q_goto (tgt := 64) dX0_keepInNext_60 (by decide) ?_
        refine q_ior dX0_keepInNext_64 ?_
        refine q_top (y := bi true) (by decide) ?_
        refine q_istore dX0_keepInNext_65 (by decide) (ls' := [(6, .int (bi true)), (9, .int (mkN (fun e => v e v0 && (fun e i => P e || ear q e i) e v0) (psM q).length)), (8, .int (nI v0)), (7, .int (nI 0)), (0, .ref (b + 21)), (1, .ref b), (2, .int (nI n)), (3, .ref (b + 27)), (4, .int (mkN (fun _ => true) (psM q).length)), (5, .int (mkN P (psM q).length))]) rfl ?_
        refine q_aload_n dX0_keepInNext_67 rfl rfl rfl ?_
        refine q_iload dX0_keepInNext_68 rfl ?_
        refine q_iload dX0_keepInNext_70 rfl ?_
        refine q_iast (j := v0) dX0_keepInNext_72 (ty_r hb 27 rfl) (ix_n (by omega) (by omega)) ?_
        refine q_iincN (c := 1) dX0_keepInNext_73 rfl (by decide) rfl (ls' := [(7, .int (nI 1)), (6, .int (bi true)), (9, .int (mkN (fun e => v e v0 && (fun e i => P e || ear q e i) e v0) (psM q).length)), (8, .int (nI v0)), (0, .ref (b + 21)), (1, .ref b), (2, .int (nI n)), (3, .ref (b + 27)), (4, .int (mkN (fun _ => true) (psM q).length)), (5, .int (mkN P (psM q).length))]) rfl ?_
        refine q_goto (tgt := 6) dX0_keepInNext_76 (by decide) ?_
        refine q_iload dX0_keepInNext_6 rfl ?_
        refine q_iconst (v := nI 2) dX0_keepInNext_8 rfl ?_
        refine q_icmp_geN (tgt := 79) dX0_keepInNext_9 (by decide) (by omega) (by omega) (fun h => absurd h (by decide)) (fun _ => ?_)
        refine q_aload_n dX0_keepInNext_12 rfl rfl rfl ?_
        refine q_getr (r := b + 11) dX0_keepInNext_13 fX0_129 rfl (ty_r hb 0 rfl) (hb.2.2 0 6 11 rfl) ?_
        refine q_iload dX0_keepInNext_16 rfl ?_
        refine q_aald (r := b + 13) (j := 1) dX0_keepInNext_18 (ty_r hb 11 rfl) (Or.inl rfl) (ix_n (by omega) (by omega)) (hb.2.2 11 1 13 rfl) ?_
        refine q_iload_n dX0_keepInNext_19 rfl rfl ?_
        refine q_iald (x := (-1)) (j := n) dX0_keepInNext_20 (ty_r hb 13 rfl) (ix_n (by omega) (by omega)) (Eq.trans (rd_off (by omega)) r13) ?_
        refine q_istore dX0_keepInNext_21 (by decide) (ls' := [(8, .int (-1)), (7, .int (nI 1)), (6, .int (bi true)), (9, .int (mkN (fun e => v e v0 && (fun e i => P e || ear q e i) e v0) (psM q).length)), (0, .ref (b + 21)), (1, .ref b), (2, .int (nI n)), (3, .ref (b + 27)), (4, .int (mkN (fun _ => true) (psM q).length)), (5, .int (mkN P (psM q).length))]) rfl ?_
        refine q_iload dX0_keepInNext_23 rfl ?_
        refine q_if_lt1 (tgt := 73) dX0_keepInNext_25 (by decide) (by decide) ?_
        refine q_iincN (c := 1) dX0_keepInNext_73 rfl (by decide) rfl (ls' := [(7, .int (nI 2)), (8, .int (-1)), (6, .int (bi true)), (9, .int (mkN (fun e => v e v0 && (fun e i => P e || ear q e i) e v0) (psM q).length)), (0, .ref (b + 21)), (1, .ref b), (2, .int (nI n)), (3, .ref (b + 27)), (4, .int (mkN (fun _ => true) (psM q).length)), (5, .int (mkN P (psM q).length))]) rfl ?_
        refine q_goto (tgt := 6) dX0_keepInNext_76 (by decide) ?_
        refine q_iload dX0_keepInNext_6 rfl ?_
        refine q_iconst (v := nI 2) dX0_keepInNext_8 rfl ?_
        refine q_icmp_geN (tgt := 79) dX0_keepInNext_9 (by decide) (by omega) (by omega) (fun _ => ?_) (fun h => absurd h (by decide))
        refine q_iload dX0_keepInNext_79 rfl ?_
        refine q_ireturn dX0_keepInNext_81 rfl (bi_nar _) (by omega) (by omega) ?_
        exact KQ_end (o0 := some v0) (o1 := none) (D := (fun e i => P e || ear q e i)) hk l0 l1 hv (fun hz i hi => by cases hi; first | exact cc0 | cases hz) (fun _ i hi => by cases hi)
    | some v1 =>
      rw [l1] at r13
      have b1 := hl.2 v1 l1
      have hne : v1 ≠ v0 := fun z => ld_ne hc hw hnb l0 l1 z.symm
      refine CT.of (by decide) (Nat.le_of_ble_eq_true rfl) ?_
      refine q_iconst (v := nI 0) dX0_keepInNext_0 rfl ?_
      refine q_istore dX0_keepInNext_1 (by decide) (ls' := [(6, .int (nI 0)), (0, .ref (b + 21)), (1, .ref b), (2, .int (nI n)), (3, .ref (b + 27)), (4, .int (mkN (fun _ => true) (psM q).length)), (5, .int (mkN P (psM q).length))]) rfl ?_
      refine q_iconst (v := nI 0) dX0_keepInNext_3 rfl ?_
      refine q_istore dX0_keepInNext_4 (by decide) (ls' := [(7, .int (nI 0)), (6, .int (nI 0)), (0, .ref (b + 21)), (1, .ref b), (2, .int (nI n)), (3, .ref (b + 27)), (4, .int (mkN (fun _ => true) (psM q).length)), (5, .int (mkN P (psM q).length))]) rfl ?_
      refine q_iload dX0_keepInNext_6 rfl ?_
      refine q_iconst (v := nI 2) dX0_keepInNext_8 rfl ?_
      refine q_icmp_geN (tgt := 79) dX0_keepInNext_9 (by decide) (by omega) (by omega) (fun h => absurd h (by decide)) (fun _ => ?_)
      refine q_aload_n dX0_keepInNext_12 rfl rfl rfl ?_
      refine q_getr (r := b + 11) dX0_keepInNext_13 fX0_129 rfl (ty_r hb 0 rfl) (hb.2.2 0 6 11 rfl) ?_
      refine q_iload dX0_keepInNext_16 rfl ?_
      refine q_aald (r := b + 12) (j := 0) dX0_keepInNext_18 (ty_r hb 11 rfl) (Or.inl rfl) (ix_n (by omega) (by omega)) (hb.2.2 11 0 12 rfl) ?_
      refine q_iload_n dX0_keepInNext_19 rfl rfl ?_
      refine q_iald (x := nI v0) (j := n) dX0_keepInNext_20 (ty_r hb 12 rfl) (ix_n (by omega) (by omega)) r12 ?_
      refine q_istore dX0_keepInNext_21 (by decide) (ls' := [(8, .int (nI v0)), (7, .int (nI 0)), (6, .int (nI 0)), (0, .ref (b + 21)), (1, .ref b), (2, .int (nI n)), (3, .ref (b + 27)), (4, .int (mkN (fun _ => true) (psM q).length)), (5, .int (mkN P (psM q).length))]) rfl ?_
      refine q_iload dX0_keepInNext_23 rfl ?_
      refine q_if_ltN (tgt := 73) dX0_keepInNext_25 (by decide) (by omega) ?_
      refine q_aload_n dX0_keepInNext_28 rfl rfl rfl ?_
      refine q_iload dX0_keepInNext_29 rfl ?_
      refine q_iald (x := mkN (fun e => v e v0) (psM q).length) (j := v0) dX0_keepInNext_31 (ty_r hb 27 rfl) (ix_n (by omega) (by omega)) (hv v0 b0.1) ?_
      refine q_iload dX0_keepInNext_32 rfl ?_
      refine q_iload dX0_keepInNext_34 rfl ?_
      refine q_aload_n dX0_keepInNext_36 rfl rfl rfl ?_
      refine q_getr (r := b + 26) dX0_keepInNext_37 fX0_24 rfl (ty_r hb 21 rfl) (hb.2.2 21 4 26 rfl) ?_
      refine q_iload dX0_keepInNext_40 rfl ?_
      refine q_iald (x := mkN (fun e => ear q e v0) (psM q).length) (j := v0) dX0_keepInNext_42 (ty_r hb 26 rfl) (ix_n (by omega) (by omega)) (he v0 b0.1) ?_
      refine q_iand dX0_keepInNext_43 ?_
      refine q_ior dX0_keepInNext_44 ?_
      refine q_iand dX0_keepInNext_45 ?_
      refine q_top (y := mkN (fun e => v e v0 && (fun e i => P e || ear q e i) e v0) (psM q).length) (kp_1 hk) ?_
      refine q_istore dX0_keepInNext_46 (by decide) (ls' := [(9, .int (mkN (fun e => v e v0 && (fun e i => P e || ear q e i) e v0) (psM q).length)), (8, .int (nI v0)), (7, .int (nI 0)), (6, .int (nI 0)), (0, .ref (b + 21)), (1, .ref b), (2, .int (nI n)), (3, .ref (b + 27)), (4, .int (mkN (fun _ => true) (psM q).length)), (5, .int (mkN P (psM q).length))]) rfl ?_
      refine q_iload dX0_keepInNext_48 rfl ?_
      refine q_iload dX0_keepInNext_50 rfl ?_
      refine q_aload_n dX0_keepInNext_52 rfl rfl rfl ?_
      refine q_iload dX0_keepInNext_53 rfl ?_
      refine q_iald (x := mkN (fun e => v e v0) (psM q).length) (j := v0) dX0_keepInNext_55 (ty_r hb 27 rfl) (ix_n (by omega) (by omega)) (hv v0 b0.1) ?_
      refine q_icmp_eq (tgt := 63) dX0_keepInNext_56 (by decide) (fun c56 => ?_) (fun c56 => ?_)
      · have cc0 := c56
        refine q_iconst (v := nI 0) dX0_keepInNext_63 rfl ?_
        refine q_ior dX0_keepInNext_64 ?_
        refine q_top (y := bi false) (by decide) ?_
        refine q_istore dX0_keepInNext_65 (by decide) (ls' := [(6, .int (bi false)), (9, .int (mkN (fun e => v e v0 && (fun e i => P e || ear q e i) e v0) (psM q).length)), (8, .int (nI v0)), (7, .int (nI 0)), (0, .ref (b + 21)), (1, .ref b), (2, .int (nI n)), (3, .ref (b + 27)), (4, .int (mkN (fun _ => true) (psM q).length)), (5, .int (mkN P (psM q).length))]) rfl ?_
        refine q_aload_n dX0_keepInNext_67 rfl rfl rfl ?_
        refine q_iload dX0_keepInNext_68 rfl ?_
        refine q_iload dX0_keepInNext_70 rfl ?_
        refine q_iast (j := v0) dX0_keepInNext_72 (ty_r hb 27 rfl) (ix_n (by omega) (by omega)) ?_
        refine q_iincN (c := 1) dX0_keepInNext_73 rfl (by decide) rfl (ls' := [(7, .int (nI 1)), (6, .int (bi false)), (9, .int (mkN (fun e => v e v0 && (fun e i => P e || ear q e i) e v0) (psM q).length)), (8, .int (nI v0)), (0, .ref (b + 21)), (1, .ref b), (2, .int (nI n)), (3, .ref (b + 27)), (4, .int (mkN (fun _ => true) (psM q).length)), (5, .int (mkN P (psM q).length))]) rfl ?_
        refine q_goto (tgt := 6) dX0_keepInNext_76 (by decide) ?_
        refine q_iload dX0_keepInNext_6 rfl ?_
        refine q_iconst (v := nI 2) dX0_keepInNext_8 rfl ?_
        refine q_icmp_geN (tgt := 79) dX0_keepInNext_9 (by decide) (by omega) (by omega) (fun h => absurd h (by decide)) (fun _ => ?_)
        refine q_aload_n dX0_keepInNext_12 rfl rfl rfl ?_
        refine q_getr (r := b + 11) dX0_keepInNext_13 fX0_129 rfl (ty_r hb 0 rfl) (hb.2.2 0 6 11 rfl) ?_
        refine q_iload dX0_keepInNext_16 rfl ?_
        refine q_aald (r := b + 13) (j := 1) dX0_keepInNext_18 (ty_r hb 11 rfl) (Or.inl rfl) (ix_n (by omega) (by omega)) (hb.2.2 11 1 13 rfl) ?_
        refine q_iload_n dX0_keepInNext_19 rfl rfl ?_
        refine q_iald (x := nI v1) (j := n) dX0_keepInNext_20 (ty_r hb 13 rfl) (ix_n (by omega) (by omega)) (Eq.trans (rd_off (by omega)) r13) ?_
        refine q_istore dX0_keepInNext_21 (by decide) (ls' := [(8, .int (nI v1)), (7, .int (nI 1)), (6, .int (bi false)), (9, .int (mkN (fun e => v e v0 && (fun e i => P e || ear q e i) e v0) (psM q).length)), (0, .ref (b + 21)), (1, .ref b), (2, .int (nI n)), (3, .ref (b + 27)), (4, .int (mkN (fun _ => true) (psM q).length)), (5, .int (mkN P (psM q).length))]) rfl ?_
        refine q_iload dX0_keepInNext_23 rfl ?_
        refine q_if_ltN (tgt := 73) dX0_keepInNext_25 (by decide) (by omega) ?_
        refine q_aload_n dX0_keepInNext_28 rfl rfl rfl ?_
        refine q_iload dX0_keepInNext_29 rfl ?_
        refine q_iald (x := mkN (fun e => v e v1) (psM q).length) (j := v1) dX0_keepInNext_31 (ty_r hb 27 rfl) (ix_n (by omega) (by omega)) (Eq.trans (rd_ne hne) (hv v1 b1.1)) ?_
        refine q_iload dX0_keepInNext_32 rfl ?_
        refine q_iload dX0_keepInNext_34 rfl ?_
        refine q_aload_n dX0_keepInNext_36 rfl rfl rfl ?_
        refine q_getr (r := b + 26) dX0_keepInNext_37 fX0_24 rfl (ty_r hb 21 rfl) (hb.2.2 21 4 26 rfl) ?_
        refine q_iload dX0_keepInNext_40 rfl ?_
        refine q_iald (x := mkN (fun e => ear q e v1) (psM q).length) (j := v1) dX0_keepInNext_42 (ty_r hb 26 rfl) (ix_n (by omega) (by omega)) (Eq.trans (rd_off (by omega)) (he v1 b1.1)) ?_
        refine q_iand dX0_keepInNext_43 ?_
        refine q_ior dX0_keepInNext_44 ?_
        refine q_iand dX0_keepInNext_45 ?_
        refine q_top (y := mkN (fun e => v e v1 && (fun e i => P e || ear q e i) e v1) (psM q).length) (kp_1 hk) ?_
        refine q_istore dX0_keepInNext_46 (by decide) (ls' := [(9, .int (mkN (fun e => v e v1 && (fun e i => P e || ear q e i) e v1) (psM q).length)), (8, .int (nI v1)), (7, .int (nI 1)), (6, .int (bi false)), (0, .ref (b + 21)), (1, .ref b), (2, .int (nI n)), (3, .ref (b + 27)), (4, .int (mkN (fun _ => true) (psM q).length)), (5, .int (mkN P (psM q).length))]) rfl ?_
        refine q_iload dX0_keepInNext_48 rfl ?_
        refine q_iload dX0_keepInNext_50 rfl ?_
        refine q_aload_n dX0_keepInNext_52 rfl rfl rfl ?_
        refine q_iload dX0_keepInNext_53 rfl ?_
        refine q_iald (x := mkN (fun e => v e v1) (psM q).length) (j := v1) dX0_keepInNext_55 (ty_r hb 27 rfl) (ix_n (by omega) (by omega)) (Eq.trans (rd_ne hne) (hv v1 b1.1)) ?_
        refine q_icmp_eq (tgt := 63) dX0_keepInNext_56 (by decide) (fun c56 => ?_) (fun c56 => ?_)
        · have cc1 := c56
          refine q_iconst (v := nI 0) dX0_keepInNext_63 rfl ?_
          refine q_ior dX0_keepInNext_64 ?_
          refine q_top (y := bi false) (by decide) ?_
          refine q_istore dX0_keepInNext_65 (by decide) (ls' := [(6, .int (bi false)), (9, .int (mkN (fun e => v e v1 && (fun e i => P e || ear q e i) e v1) (psM q).length)), (8, .int (nI v1)), (7, .int (nI 1)), (0, .ref (b + 21)), (1, .ref b), (2, .int (nI n)), (3, .ref (b + 27)), (4, .int (mkN (fun _ => true) (psM q).length)), (5, .int (mkN P (psM q).length))]) rfl ?_
          refine q_aload_n dX0_keepInNext_67 rfl rfl rfl ?_
          refine q_iload dX0_keepInNext_68 rfl ?_
          refine q_iload dX0_keepInNext_70 rfl ?_
          refine q_iast (j := v1) dX0_keepInNext_72 (ty_r hb 27 rfl) (ix_n (by omega) (by omega)) ?_
          refine q_iincN (c := 1) dX0_keepInNext_73 rfl (by decide) rfl (ls' := [(7, .int (nI 2)), (6, .int (bi false)), (9, .int (mkN (fun e => v e v1 && (fun e i => P e || ear q e i) e v1) (psM q).length)), (8, .int (nI v1)), (0, .ref (b + 21)), (1, .ref b), (2, .int (nI n)), (3, .ref (b + 27)), (4, .int (mkN (fun _ => true) (psM q).length)), (5, .int (mkN P (psM q).length))]) rfl ?_
          refine q_goto (tgt := 6) dX0_keepInNext_76 (by decide) ?_
          refine q_iload dX0_keepInNext_6 rfl ?_
          refine q_iconst (v := nI 2) dX0_keepInNext_8 rfl ?_
          refine q_icmp_geN (tgt := 79) dX0_keepInNext_9 (by decide) (by omega) (by omega) (fun _ => ?_) (fun h => absurd h (by decide))
          refine q_iload dX0_keepInNext_79 rfl ?_
          refine q_ireturn dX0_keepInNext_81 rfl (bi_nar _) (by omega) (by omega) ?_
          exact KQ_end (o0 := some v0) (o1 := some v1) (D := (fun e i => P e || ear q e i)) hk l0 l1 hv (fun hz i hi => by cases hi; first | exact cc0 | cases hz) (fun hz i hi => by cases hi; first | exact cc1 | cases hz)
        · have cc1 := c56
          refine q_iconst (v := nI 1) dX0_keepInNext_59 rfl ?_
          refine q_goto (tgt := 64) dX0_keepInNext_60 (by decide) ?_
          refine q_ior dX0_keepInNext_64 ?_
          refine q_top (y := bi true) (by decide) ?_
          refine q_istore dX0_keepInNext_65 (by decide) (ls' := [(6, .int (bi true)), (9, .int (mkN (fun e => v e v1 && (fun e i => P e || ear q e i) e v1) (psM q).length)), (8, .int (nI v1)), (7, .int (nI 1)), (0, .ref (b + 21)), (1, .ref b), (2, .int (nI n)), (3, .ref (b + 27)), (4, .int (mkN (fun _ => true) (psM q).length)), (5, .int (mkN P (psM q).length))]) rfl ?_
          refine q_aload_n dX0_keepInNext_67 rfl rfl rfl ?_
          refine q_iload dX0_keepInNext_68 rfl ?_
          refine q_iload dX0_keepInNext_70 rfl ?_
          refine q_iast (j := v1) dX0_keepInNext_72 (ty_r hb 27 rfl) (ix_n (by omega) (by omega)) ?_
          refine q_iincN (c := 1) dX0_keepInNext_73 rfl (by decide) rfl (ls' := [(7, .int (nI 2)), (6, .int (bi true)), (9, .int (mkN (fun e => v e v1 && (fun e i => P e || ear q e i) e v1) (psM q).length)), (8, .int (nI v1)), (0, .ref (b + 21)), (1, .ref b), (2, .int (nI n)), (3, .ref (b + 27)), (4, .int (mkN (fun _ => true) (psM q).length)), (5, .int (mkN P (psM q).length))]) rfl ?_
          refine q_goto (tgt := 6) dX0_keepInNext_76 (by decide) ?_
          refine q_iload dX0_keepInNext_6 rfl ?_
          refine q_iconst (v := nI 2) dX0_keepInNext_8 rfl ?_
          refine q_icmp_geN (tgt := 79) dX0_keepInNext_9 (by decide) (by omega) (by omega) (fun _ => ?_) (fun h => absurd h (by decide))
          refine q_iload dX0_keepInNext_79 rfl ?_
          refine q_ireturn dX0_keepInNext_81 rfl (bi_nar _) (by omega) (by omega) ?_
          exact KQ_end (o0 := some v0) (o1 := some v1) (D := (fun e i => P e || ear q e i)) hk l0 l1 hv (fun hz i hi => by cases hi; first | exact cc0 | cases hz) (fun hz i hi => by cases hi; first | exact cc1 | cases hz)
      · have cc0 := c56
        refine q_iconst (v := nI 1) dX0_keepInNext_59 rfl ?_
        refine q_goto (tgt := 64) dX0_keepInNext_60 (by decide) ?_
        refine q_ior dX0_keepInNext_64 ?_
        refine q_top (y := bi true) (by decide) ?_
        refine q_istore dX0_keepInNext_65 (by decide) (ls' := [(6, .int (bi true)), (9, .int (mkN (fun e => v e v0 && (fun e i => P e || ear q e i) e v0) (psM q).length)), (8, .int (nI v0)), (7, .int (nI 0)), (0, .ref (b + 21)), (1, .ref b), (2, .int (nI n)), (3, .ref (b + 27)), (4, .int (mkN (fun _ => true) (psM q).length)), (5, .int (mkN P (psM q).length))]) rfl ?_
        refine q_aload_n dX0_keepInNext_67 rfl rfl rfl ?_
        refine q_iload dX0_keepInNext_68 rfl ?_
        refine q_iload dX0_keepInNext_70 rfl ?_
        refine q_iast (j := v0) dX0_keepInNext_72 (ty_r hb 27 rfl) (ix_n (by omega) (by omega)) ?_
        refine q_iincN (c := 1) dX0_keepInNext_73 rfl (by decide) rfl (ls' := [(7, .int (nI 1)), (6, .int (bi true)), (9, .int (mkN (fun e => v e v0 && (fun e i => P e || ear q e i) e v0) (psM q).length)), (8, .int (nI v0)), (0, .ref (b + 21)), (1, .ref b), (2, .int (nI n)), (3, .ref (b + 27)), (4, .int (mkN (fun _ => true) (psM q).length)), (5, .int (mkN P (psM q).length))]) rfl ?_
        refine q_goto (tgt := 6) dX0_keepInNext_76 (by decide) ?_
        refine q_iload dX0_keepInNext_6 rfl ?_
        refine q_iconst (v := nI 2) dX0_keepInNext_8 rfl ?_
        refine q_icmp_geN (tgt := 79) dX0_keepInNext_9 (by decide) (by omega) (by omega) (fun h => absurd h (by decide)) (fun _ => ?_)
        refine q_aload_n dX0_keepInNext_12 rfl rfl rfl ?_
        refine q_getr (r := b + 11) dX0_keepInNext_13 fX0_129 rfl (ty_r hb 0 rfl) (hb.2.2 0 6 11 rfl) ?_
        refine q_iload dX0_keepInNext_16 rfl ?_
        refine q_aald (r := b + 13) (j := 1) dX0_keepInNext_18 (ty_r hb 11 rfl) (Or.inl rfl) (ix_n (by omega) (by omega)) (hb.2.2 11 1 13 rfl) ?_
        refine q_iload_n dX0_keepInNext_19 rfl rfl ?_
        refine q_iald (x := nI v1) (j := n) dX0_keepInNext_20 (ty_r hb 13 rfl) (ix_n (by omega) (by omega)) (Eq.trans (rd_off (by omega)) r13) ?_
        refine q_istore dX0_keepInNext_21 (by decide) (ls' := [(8, .int (nI v1)), (7, .int (nI 1)), (6, .int (bi true)), (9, .int (mkN (fun e => v e v0 && (fun e i => P e || ear q e i) e v0) (psM q).length)), (0, .ref (b + 21)), (1, .ref b), (2, .int (nI n)), (3, .ref (b + 27)), (4, .int (mkN (fun _ => true) (psM q).length)), (5, .int (mkN P (psM q).length))]) rfl ?_
        refine q_iload dX0_keepInNext_23 rfl ?_
        refine q_if_ltN (tgt := 73) dX0_keepInNext_25 (by decide) (by omega) ?_
        refine q_aload_n dX0_keepInNext_28 rfl rfl rfl ?_
        refine q_iload dX0_keepInNext_29 rfl ?_
        refine q_iald (x := mkN (fun e => v e v1) (psM q).length) (j := v1) dX0_keepInNext_31 (ty_r hb 27 rfl) (ix_n (by omega) (by omega)) (Eq.trans (rd_ne hne) (hv v1 b1.1)) ?_
        refine q_iload dX0_keepInNext_32 rfl ?_
        refine q_iload dX0_keepInNext_34 rfl ?_
        refine q_aload_n dX0_keepInNext_36 rfl rfl rfl ?_
        refine q_getr (r := b + 26) dX0_keepInNext_37 fX0_24 rfl (ty_r hb 21 rfl) (hb.2.2 21 4 26 rfl) ?_
        refine q_iload dX0_keepInNext_40 rfl ?_
        refine q_iald (x := mkN (fun e => ear q e v1) (psM q).length) (j := v1) dX0_keepInNext_42 (ty_r hb 26 rfl) (ix_n (by omega) (by omega)) (Eq.trans (rd_off (by omega)) (he v1 b1.1)) ?_
        refine q_iand dX0_keepInNext_43 ?_
        refine q_ior dX0_keepInNext_44 ?_
        refine q_iand dX0_keepInNext_45 ?_
        refine q_top (y := mkN (fun e => v e v1 && (fun e i => P e || ear q e i) e v1) (psM q).length) (kp_1 hk) ?_
        refine q_istore dX0_keepInNext_46 (by decide) (ls' := [(9, .int (mkN (fun e => v e v1 && (fun e i => P e || ear q e i) e v1) (psM q).length)), (8, .int (nI v1)), (7, .int (nI 1)), (6, .int (bi true)), (0, .ref (b + 21)), (1, .ref b), (2, .int (nI n)), (3, .ref (b + 27)), (4, .int (mkN (fun _ => true) (psM q).length)), (5, .int (mkN P (psM q).length))]) rfl ?_
        refine q_iload dX0_keepInNext_48 rfl ?_
        refine q_iload dX0_keepInNext_50 rfl ?_
        refine q_aload_n dX0_keepInNext_52 rfl rfl rfl ?_
        refine q_iload dX0_keepInNext_53 rfl ?_
        refine q_iald (x := mkN (fun e => v e v1) (psM q).length) (j := v1) dX0_keepInNext_55 (ty_r hb 27 rfl) (ix_n (by omega) (by omega)) (Eq.trans (rd_ne hne) (hv v1 b1.1)) ?_
        refine q_icmp_eq (tgt := 63) dX0_keepInNext_56 (by decide) (fun c56 => ?_) (fun c56 => ?_)
        · have cc1 := c56
          refine q_iconst (v := nI 0) dX0_keepInNext_63 rfl ?_
          refine q_ior dX0_keepInNext_64 ?_
          refine q_top (y := bi true) (by decide) ?_
          refine q_istore dX0_keepInNext_65 (by decide) (ls' := [(6, .int (bi true)), (9, .int (mkN (fun e => v e v1 && (fun e i => P e || ear q e i) e v1) (psM q).length)), (8, .int (nI v1)), (7, .int (nI 1)), (0, .ref (b + 21)), (1, .ref b), (2, .int (nI n)), (3, .ref (b + 27)), (4, .int (mkN (fun _ => true) (psM q).length)), (5, .int (mkN P (psM q).length))]) rfl ?_
          refine q_aload_n dX0_keepInNext_67 rfl rfl rfl ?_
          refine q_iload dX0_keepInNext_68 rfl ?_
          refine q_iload dX0_keepInNext_70 rfl ?_
          refine q_iast (j := v1) dX0_keepInNext_72 (ty_r hb 27 rfl) (ix_n (by omega) (by omega)) ?_
          refine q_iincN (c := 1) dX0_keepInNext_73 rfl (by decide) rfl (ls' := [(7, .int (nI 2)), (6, .int (bi true)), (9, .int (mkN (fun e => v e v1 && (fun e i => P e || ear q e i) e v1) (psM q).length)), (8, .int (nI v1)), (0, .ref (b + 21)), (1, .ref b), (2, .int (nI n)), (3, .ref (b + 27)), (4, .int (mkN (fun _ => true) (psM q).length)), (5, .int (mkN P (psM q).length))]) rfl ?_
          refine q_goto (tgt := 6) dX0_keepInNext_76 (by decide) ?_
          refine q_iload dX0_keepInNext_6 rfl ?_
          refine q_iconst (v := nI 2) dX0_keepInNext_8 rfl ?_
          refine q_icmp_geN (tgt := 79) dX0_keepInNext_9 (by decide) (by omega) (by omega) (fun _ => ?_) (fun h => absurd h (by decide))
          refine q_iload dX0_keepInNext_79 rfl ?_
          refine q_ireturn dX0_keepInNext_81 rfl (bi_nar _) (by omega) (by omega) ?_
          exact KQ_end (o0 := some v0) (o1 := some v1) (D := (fun e i => P e || ear q e i)) hk l0 l1 hv (fun hz i hi => by cases hi; first | exact cc0 | cases hz) (fun hz i hi => by cases hi; first | exact cc1 | cases hz)
        · have cc1 := c56
          refine q_iconst (v := nI 1) dX0_keepInNext_59 rfl ?_
          refine q_goto (tgt := 64) dX0_keepInNext_60 (by decide) ?_
          refine q_ior dX0_keepInNext_64 ?_
          refine q_top (y := bi true) (by decide) ?_
          refine q_istore dX0_keepInNext_65 (by decide) (ls' := [(6, .int (bi true)), (9, .int (mkN (fun e => v e v1 && (fun e i => P e || ear q e i) e v1) (psM q).length)), (8, .int (nI v1)), (7, .int (nI 1)), (0, .ref (b + 21)), (1, .ref b), (2, .int (nI n)), (3, .ref (b + 27)), (4, .int (mkN (fun _ => true) (psM q).length)), (5, .int (mkN P (psM q).length))]) rfl ?_
          refine q_aload_n dX0_keepInNext_67 rfl rfl rfl ?_
          refine q_iload dX0_keepInNext_68 rfl ?_
          refine q_iload dX0_keepInNext_70 rfl ?_
          refine q_iast (j := v1) dX0_keepInNext_72 (ty_r hb 27 rfl) (ix_n (by omega) (by omega)) ?_
          refine q_iincN (c := 1) dX0_keepInNext_73 rfl (by decide) rfl (ls' := [(7, .int (nI 2)), (6, .int (bi true)), (9, .int (mkN (fun e => v e v1 && (fun e i => P e || ear q e i) e v1) (psM q).length)), (8, .int (nI v1)), (0, .ref (b + 21)), (1, .ref b), (2, .int (nI n)), (3, .ref (b + 27)), (4, .int (mkN (fun _ => true) (psM q).length)), (5, .int (mkN P (psM q).length))]) rfl ?_
          refine q_goto (tgt := 6) dX0_keepInNext_76 (by decide) ?_
          refine q_iload dX0_keepInNext_6 rfl ?_
          refine q_iconst (v := nI 2) dX0_keepInNext_8 rfl ?_
          refine q_icmp_geN (tgt := 79) dX0_keepInNext_9 (by decide) (by omega) (by omega) (fun _ => ?_) (fun h => absurd h (by decide))
          refine q_iload dX0_keepInNext_79 rfl ?_
          refine q_ireturn dX0_keepInNext_81 rfl (bi_nar _) (by omega) (by omega) ?_
          exact KQ_end (o0 := some v0) (o1 := some v1) (D := (fun e i => P e || ear q e i)) hk l0 l1 hv (fun hz i hi => by cases hi; first | exact cc0 | cases hz) (fun hz i hi => by cases hi; first | exact cc1 | cases hz)

end NEXT
