/-! Small methods of the class: the tape. -/
/-- the class's tape holds the text T of L bytes -/
def CTX (σ : HS) (L : Nat) (T : Nat → Nat) : Prop := sI σ 2 1 = nI L ∧ L ≤ 3000 ∧ ∀ i, i < L → sI σ 3 i &&& nI 255 = nI (T i) ∧ T i < 256
theorem z5_byteAt {g : GG} {σ : HS} (hS : SK σ) {L : Nat} {T : Nat → Nat} (h : CTX σ L T) {j : Nat} (hj : j < L) : CT g mX5_byteAt 0 0 0 [.ref 2, .int (nI j)] σ (PQ σ (.int (nI (T j)))) := by
  obtain ⟨hL, h3, hT⟩ := h
  refine CT.of (by decide) (Nat.le_of_ble_eq_true rfl) ?_
  refine q_iload_n dX5_byteAt_0 rfl rfl ?_
  refine q_if_ltN (tgt := 34) dX5_byteAt_1 (by decide) (by omega) ?_
  refine q_iload_n dX5_byteAt_4 rfl rfl ?_
  refine q_aload_n dX5_byteAt_5 rfl rfl rfl ?_
  refine q_geti (x := nI L) dX5_byteAt_6 fX5_15 rfl (ty_c hS (by decide) rfl) hL ?_
  refine q_icmp_geN (tgt := 34) dX5_byteAt_9 (by decide) (by omega) (by omega) (fun c9 => ?_) (fun c9 => ?_)
  · exact absurd c9 (by omega)
  · skip
    refine q_iload_n dX5_byteAt_12 rfl rfl ?_
    refine q_aload_n dX5_byteAt_13 rfl rfl rfl ?_
    refine q_getr (r := 3) dX5_byteAt_14 fX5_9 rfl (ty_c hS (by decide) rfl) (hS.2 2 0 3 rfl) ?_
    refine q_alen (x := nI 3000) dX5_byteAt_17 (ty_c hS (by decide) rfl) (by decide) rfl ?_
    refine q_icmp_geN (tgt := 34) dX5_byteAt_18 (by decide) (by omega) (by omega) (fun c18 => ?_) (fun c18 => ?_)
    · exact absurd c18 (by omega)
    · skip
      refine q_aload_n dX5_byteAt_21 rfl rfl rfl ?_
      refine q_getr (r := 3) dX5_byteAt_22 fX5_9 rfl (ty_c hS (by decide) rfl) (hS.2 2 0 3 rfl) ?_
      refine q_iload_n dX5_byteAt_25 rfl rfl ?_
      refine q_bald (x := sI σ 3 j) (j := j) dX5_byteAt_26 (ty_c hS (by decide) rfl) (ix_n (by omega) (by omega)) rfl ?_
      refine q_sipush (v := nI 255) dX5_byteAt_27 rfl ?_
      refine q_iand dX5_byteAt_30 ?_
      refine q_top (y := nI (T j)) ((hT j hj).1) ?_
      refine q_goto (tgt := 35) dX5_byteAt_31 (by decide) ?_
      refine q_ireturn dX5_byteAt_35 rfl rfl (by omega) (by omega) ?_
      exact ⟨rfl, rfl⟩
theorem z5_byteAt_out {g : GG} {σ : HS} (hS : SK σ) {L : Nat} (hL : sI σ 2 1 = nI L) (h3 : L ≤ 3000) {j : Nat} (hj : L ≤ j) (hj2 : j < 2147483648) : CT g mX5_byteAt 0 0 0 [.ref 2, .int (nI j)] σ (PQ σ (.int (-1))) := by
  refine CT.of (by decide) (Nat.le_of_ble_eq_true rfl) ?_
  refine q_iload_n dX5_byteAt_0 rfl rfl ?_
  refine q_if_ltN (tgt := 34) dX5_byteAt_1 (by decide) (by omega) ?_
  refine q_iload_n dX5_byteAt_4 rfl rfl ?_
  refine q_aload_n dX5_byteAt_5 rfl rfl rfl ?_
  refine q_geti (x := nI L) dX5_byteAt_6 fX5_15 rfl (ty_c hS (by decide) rfl) hL ?_
  refine q_icmp_geN (tgt := 34) dX5_byteAt_9 (by decide) (by omega) (by omega) (fun c9 => ?_) (fun c9 => ?_)
  · skip
    refine q_iconst (v := (-1 : Int32)) dX5_byteAt_34 rfl ?_
    refine q_ireturn dX5_byteAt_35 rfl rfl (by omega) (by omega) ?_
    exact ⟨rfl, rfl⟩
  · exact absurd c9 (by omega)
theorem z5_byteAt_neg {g : GG} {σ : HS} (hS : SK σ) {i : Int32} (hi : i < 0) : CT g mX5_byteAt 0 0 0 [.ref 2, .int i] σ (PQ σ (.int (-1))) := by
  refine CT.of (by decide) (Nat.le_of_ble_eq_true rfl) ?_
  refine q_iload_n dX5_byteAt_0 rfl rfl ?_
  refine q_if_lt1 (tgt := 34) dX5_byteAt_1 (by decide) hi ?_
  refine q_iconst (v := (-1 : Int32)) dX5_byteAt_34 rfl ?_
  refine q_ireturn dX5_byteAt_35 rfl rfl (by omega) (by omega) ?_
  exact ⟨rfl, rfl⟩
