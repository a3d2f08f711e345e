/-! Sets as bits; the class's parser: ends. -/
def lb (x : Int64) (i : Nat) : Bool := x.toBitVec.getLsbD i
theorem lb_or (x y : Int64) (i : Nat) : lb (x ||| y) i = (lb x i || lb y i) := by
  unfold lb; rw [Int64.toBitVec_or, BitVec.getLsbD_or]
theorem lb_and (x y : Int64) (i : Nat) : lb (x &&& y) i = (lb x i && lb y i) := by
  unfold lb; rw [Int64.toBitVec_and, BitVec.getLsbD_and]
theorem lb_0 (i : Nat) : lb 0 i = false := by unfold lb; simp
theorem lb_1 (i : Nat) : lb 1 i = decide (i = 0) := by
  unfold lb
  have : (1 : Int64).toBitVec = 1#64 := rfl
  rw [this, BitVec.getLsbD_one]
  simp
theorem lb_ext {x y : Int64} (h : ∀ i, i < 64 → lb x i = lb y i) : x = y := by
  apply Int64.toBitVec_inj.mp
  apply BitVec.eq_of_getLsbD_eq
  intro i hi
  exact h i hi
def sh1 (k : Nat) : Int64 := (1 : Int64) <<< ((nI k).toInt64 &&& 63)
theorem sh_all : ∀ k : Fin 64, ((1 : Int64) <<< ((nI k.val).toInt64 &&& 63)).toBitVec = BitVec.twoPow 64 k.val := by decide +kernel
theorem lb_sh {k : Nat} (hk : k < 64) (i : Nat) : lb (sh1 k) i = decide (i = k) := by
  unfold lb sh1
  rw [sh_all ⟨k, hk⟩, BitVec.getLsbD_twoPow]
  by_cases e : i = k
  · subst e; simp [hk]
  · simp [e]; omega
def tst (x : Int64) (k : Nat) : Int64 := (x.toUInt64 >>> ((nI k).toInt64.toUInt64 &&& Int64.toUInt64 63)).toInt64 &&& 1
theorem sr_all : ∀ k : Fin 64, ((nI k.val).toInt64.toUInt64 &&& Int64.toUInt64 63).toNat = k.val := by decide +kernel
theorem tst_eq {x : Int64} {k : Nat} (hk : k < 64) : tst x k = if lb x k then 1 else 0 := by
  apply lb_ext
  intro i hi
  unfold tst
  rw [lb_and, lb_1]
  by_cases e : i = 0
  · subst e
    have h1 : lb (x.toUInt64 >>> ((nI k).toInt64.toUInt64 &&& Int64.toUInt64 63)).toInt64 0 = lb x k := by
      unfold lb
      show (x.toUInt64 >>> ((nI k).toInt64.toUInt64 &&& Int64.toUInt64 63)).toBitVec.getLsbD 0 = _
      rw [UInt64.toBitVec_shiftRight]
      have h2 : (((nI k).toInt64.toUInt64 &&& Int64.toUInt64 63)).toBitVec = BitVec.ofNat 64 k := by
        apply BitVec.eq_of_toNat_eq
        have h3 := sr_all ⟨k, hk⟩
        rw [BitVec.toNat_ofNat, Nat.mod_eq_of_lt (by omega)]
        exact h3
      rw [h2]
      have h4 : (BitVec.ofNat 64 k % 64).toNat = k := by
        rw [BitVec.toNat_umod, BitVec.toNat_ofNat, Nat.mod_eq_of_lt (a := k) (by omega)]
        exact Nat.mod_eq_of_lt hk
      show (x.toUInt64.toBitVec >>> (BitVec.ofNat 64 k % 64)).getLsbD 0 = _
      rw [BitVec.ushiftRight_eq', h4, BitVec.getLsbD_ushiftRight, Nat.add_zero]
      rfl
    rw [h1]
    cases lb x k
    · rw [if_neg (by decide), lb_0]; rfl
    · simp [lb_1]
  · rw [decide_eq_false e, Bool.and_false]
    split
    · rw [lb_1, decide_eq_false e]
    · rw [lb_0]
def oW : Option Nat → Int32
  | none => -1
  | some v => nI v
def oB : Option Nat → Int64
  | none => 0
  | some v => sh1 v
theorem lb_oB {o : Option Nat} (h : ∀ v, o = some v → v < 64) (i : Nat) : lb (oB o) i = decide (o = some i) := by
  cases o with
  | none => show lb 0 i = _; rw [lb_0]; simp
  | some v =>
    show lb (sh1 v) i = _
    rw [lb_sh (h v rfl)]
    simp [eq_comm]
theorem z2_endOf {g : GG} {σ : HS} {b : Nat} (hb : RB σ b) {j v : Nat} (hj : j < 40) (hv : sI σ (b + 15) (j + 1) = nI v) (h1 : 1 ≤ v) (h2 : v ≤ 240) : CT g mX2_endOf 1 0 0 [.ref b, .int (nI j)] σ (PQ σ (.int (nI (v - 1)))) := by
  have hb14 : b = 14 ∨ 99 ≤ b := by rcases hb.1 with h | ⟨j, h⟩ <;> omega
  refine CT.of (by decide) (Nat.le_of_ble_eq_true rfl) ?_
  refine q_iconst (v := nI 0) dX2_endOf_0 rfl ?_
  refine q_aload_n dX2_endOf_1 rfl rfl rfl ?_
  refine q_getr (r := b + 15) dX2_endOf_2 fX2_38 rfl (ty_r hb 0 rfl) (hb.2.2 0 8 15 rfl) ?_
  refine q_iload_n dX2_endOf_5 rfl rfl ?_
  refine q_iconst (v := nI 1) dX2_endOf_6 rfl ?_
  refine q_iaddN dX2_endOf_7 ?_
  refine q_iald (x := nI v) (j := (j + 1)) dX2_endOf_8 (ty_r hb 15 rfl) (ix_n (by omega) (by omega)) hv ?_
  refine q_iconst (v := nI 1) dX2_endOf_9 rfl ?_
  refine q_isubN dX2_endOf_10 (by omega) ?_
  refine q_mmax (z := nI (v - 1)) dX2_endOf_11 vX2_118 (by omega) (by omega) (by omega) (Nat.le_of_ble_eq_true rfl) ((max_N (by omega) (by omega)).trans (by rw [Nat.max_eq_right (by omega)])) ?_
  refine q_ireturn dX2_endOf_14 rfl rfl (by omega) (by omega) ?_
  exact ⟨rfl, rfl⟩
theorem z1_refuseAt {g : GG} {σ : HS} (hS : SK σ) {w p : Int32} : CT g mX1_refuseAt 0 0 0 [.ref 5, .int w, .int p] σ (PQ (uI (uI σ 5 6 w) 5 7 p) (.int (bi false))) := by
  refine CT.of (by decide) (Nat.le_of_ble_eq_true rfl) ?_
  refine q_aload_n dX1_refuseAt_0 rfl rfl rfl ?_
  refine q_iload_n dX1_refuseAt_1 rfl rfl ?_
  refine q_puti dX1_refuseAt_2 fX1_42 rfl (Or.inl rfl) (ty_c hS (by decide) rfl) ?_
  refine q_aload_n dX1_refuseAt_5 rfl rfl rfl ?_
  refine q_iload_n dX1_refuseAt_6 rfl rfl ?_
  refine q_puti dX1_refuseAt_7 fX1_142 rfl (Or.inl rfl) (ty_c hS (by decide) rfl) ?_
  refine q_iconst (v := nI 0) dX1_refuseAt_10 rfl ?_
  refine q_ireturn dX1_refuseAt_11 rfl rfl (by omega) (by omega) ?_
  exact ⟨rfl, rfl⟩
theorem oW_neg {o : Option Nat} (h : o = none) : oW o < 0 := by subst h; decide
theorem z2_blocksNamedBy {g : GG} {σ : HS} {b : Nat} (hb : RB σ b) {j v : Nat} (hj : j < 40) (hv : sI σ (b + 15) (j + 1) = nI v) (h1 : 1 ≤ v) (h2 : v ≤ 240) {w0 w1 : Option Nat} (e0 : sI σ (b + 9) (v - 1) = oW w0) (e1 : sI σ (b + 10) (v - 1) = oW w1) (l0 : ∀ t, w0 = some t → t < 64) (l1 : ∀ t, w1 = some t → t < 64) : CT g mX2_blocksNamedBy 2 0 0 [.ref b, .int (nI j)] σ (PQ σ (.long (oB w0 ||| oB w1))) := by
  have hb14 : b = 14 ∨ 99 ≤ b := by rcases hb.1 with h | ⟨j, h⟩ <;> omega
  cases w0 with
  | none =>
    cases w1 with
    | none =>
      refine CT.of (by decide) (Nat.le_of_ble_eq_true rfl) ?_
      refine q_aload_n dX2_blocksNamedBy_0 rfl rfl rfl ?_
      refine q_iload_n dX2_blocksNamedBy_1 rfl rfl ?_
      refine q_callV (As := [.int (nI j)]) (rest := []) dX2_blocksNamedBy_2 vX2_115 (ty_r hb 0 rfl) ⟨by decide, rfl⟩ (z2_endOf hb hj hv h1 h2) rfl rfl (Nat.le_of_ble_eq_true rfl) (by omega) (by omega) (by omega) (k_p ?_)
      refine q_istore_n dX2_blocksNamedBy_5 rfl (by decide) (ls' := [(2, .int (nI (v - 1))), (0, .ref b), (1, .int (nI j))]) rfl ?_
      refine q_aload_n dX2_blocksNamedBy_6 rfl rfl rfl ?_
      refine q_getr (r := b + 8) dX2_blocksNamedBy_7 fX2_29 rfl (ty_r hb 0 rfl) (hb.2.2 0 5 8 rfl) ?_
      refine q_iconst (v := nI 0) dX2_blocksNamedBy_10 rfl ?_
      refine q_aald (r := b + 9) (j := 0) dX2_blocksNamedBy_11 (ty_r hb 8 rfl) (Or.inl rfl) (ix_n (by omega) (by omega)) (hb.2.2 8 0 9 rfl) ?_
      refine q_iload_n dX2_blocksNamedBy_12 rfl rfl ?_
      refine q_iald (x := (-1)) (j := (v - 1)) dX2_blocksNamedBy_13 (ty_r hb 9 rfl) (ix_n (by omega) (by omega)) e0 ?_
      refine q_if_ge1 (tgt := 21) dX2_blocksNamedBy_14 (by decide) (by decide) ?_
      refine q_lconst (v := (0 : Int64)) dX2_blocksNamedBy_17 rfl ?_
      refine q_goto (tgt := 31) dX2_blocksNamedBy_18 (by decide) ?_
      refine q_lstore_n dX2_blocksNamedBy_31 rfl (by decide) (ls' := [(3, .long (0 : Int64)), (2, .int (nI (v - 1))), (0, .ref b), (1, .int (nI j))]) rfl ?_
      refine q_lload_n dX2_blocksNamedBy_32 rfl rfl ?_
      refine q_aload_n dX2_blocksNamedBy_33 rfl rfl rfl ?_
      refine q_getr (r := b + 8) dX2_blocksNamedBy_34 fX2_29 rfl (ty_r hb 0 rfl) (hb.2.2 0 5 8 rfl) ?_
      refine q_iconst (v := nI 1) dX2_blocksNamedBy_37 rfl ?_
      refine q_aald (r := b + 10) (j := 1) dX2_blocksNamedBy_38 (ty_r hb 8 rfl) (Or.inl rfl) (ix_n (by omega) (by omega)) (hb.2.2 8 1 10 rfl) ?_
      refine q_iload_n dX2_blocksNamedBy_39 rfl rfl ?_
      refine q_iald (x := (-1)) (j := (v - 1)) dX2_blocksNamedBy_40 (ty_r hb 10 rfl) (ix_n (by omega) (by omega)) e1 ?_
      refine q_if_ge1 (tgt := 48) dX2_blocksNamedBy_41 (by decide) (by decide) ?_
      refine q_lconst (v := (0 : Int64)) dX2_blocksNamedBy_44 rfl ?_
      refine q_goto (tgt := 58) dX2_blocksNamedBy_45 (by decide) ?_
      refine q_lor dX2_blocksNamedBy_58 ?_
      refine q_lreturn dX2_blocksNamedBy_59 rfl (by omega) (by omega) ?_
      exact ⟨rfl, rfl⟩
    | some t1 =>
      have := l1 _ rfl
      refine CT.of (by decide) (Nat.le_of_ble_eq_true rfl) ?_
      refine q_aload_n dX2_blocksNamedBy_0 rfl rfl rfl ?_
      refine q_iload_n dX2_blocksNamedBy_1 rfl rfl ?_
      refine q_callV (As := [.int (nI j)]) (rest := []) dX2_blocksNamedBy_2 vX2_115 (ty_r hb 0 rfl) ⟨by decide, rfl⟩ (z2_endOf hb hj hv h1 h2) rfl rfl (Nat.le_of_ble_eq_true rfl) (by omega) (by omega) (by omega) (k_p ?_)
      refine q_istore_n dX2_blocksNamedBy_5 rfl (by decide) (ls' := [(2, .int (nI (v - 1))), (0, .ref b), (1, .int (nI j))]) rfl ?_
      refine q_aload_n dX2_blocksNamedBy_6 rfl rfl rfl ?_
      refine q_getr (r := b + 8) dX2_blocksNamedBy_7 fX2_29 rfl (ty_r hb 0 rfl) (hb.2.2 0 5 8 rfl) ?_
      refine q_iconst (v := nI 0) dX2_blocksNamedBy_10 rfl ?_
      refine q_aald (r := b + 9) (j := 0) dX2_blocksNamedBy_11 (ty_r hb 8 rfl) (Or.inl rfl) (ix_n (by omega) (by omega)) (hb.2.2 8 0 9 rfl) ?_
      refine q_iload_n dX2_blocksNamedBy_12 rfl rfl ?_
      refine q_iald (x := (-1)) (j := (v - 1)) dX2_blocksNamedBy_13 (ty_r hb 9 rfl) (ix_n (by omega) (by omega)) e0 ?_
      refine q_if_ge1 (tgt := 21) dX2_blocksNamedBy_14 (by decide) (by decide) ?_
      refine q_lconst (v := (0 : Int64)) dX2_blocksNamedBy_17 rfl ?_
      refine q_goto (tgt := 31) dX2_blocksNamedBy_18 (by decide) ?_
      refine q_lstore_n dX2_blocksNamedBy_31 rfl (by decide) (ls' := [(3, .long (0 : Int64)), (2, .int (nI (v - 1))), (0, .ref b), (1, .int (nI j))]) rfl ?_
      refine q_lload_n dX2_blocksNamedBy_32 rfl rfl ?_
      refine q_aload_n dX2_blocksNamedBy_33 rfl rfl rfl ?_
      refine q_getr (r := b + 8) dX2_blocksNamedBy_34 fX2_29 rfl (ty_r hb 0 rfl) (hb.2.2 0 5 8 rfl) ?_
      refine q_iconst (v := nI 1) dX2_blocksNamedBy_37 rfl ?_
      refine q_aald (r := b + 10) (j := 1) dX2_blocksNamedBy_38 (ty_r hb 8 rfl) (Or.inl rfl) (ix_n (by omega) (by omega)) (hb.2.2 8 1 10 rfl) ?_
      refine q_iload_n dX2_blocksNamedBy_39 rfl rfl ?_
      refine q_iald (x := nI t1) (j := (v - 1)) dX2_blocksNamedBy_40 (ty_r hb 10 rfl) (ix_n (by omega) (by omega)) e1 ?_
      refine q_if_geN (tgt := 48) dX2_blocksNamedBy_41 (by decide) (by omega) ?_
      refine q_lconst (v := (1 : Int64)) dX2_blocksNamedBy_48 rfl ?_
      refine q_aload_n dX2_blocksNamedBy_49 rfl rfl rfl ?_
      refine q_getr (r := b + 8) dX2_blocksNamedBy_50 fX2_29 rfl (ty_r hb 0 rfl) (hb.2.2 0 5 8 rfl) ?_
      refine q_iconst (v := nI 1) dX2_blocksNamedBy_53 rfl ?_
      refine q_aald (r := b + 10) (j := 1) dX2_blocksNamedBy_54 (ty_r hb 8 rfl) (Or.inl rfl) (ix_n (by omega) (by omega)) (hb.2.2 8 1 10 rfl) ?_
      refine q_iload_n dX2_blocksNamedBy_55 rfl rfl ?_
      refine q_iald (x := nI t1) (j := (v - 1)) dX2_blocksNamedBy_56 (ty_r hb 10 rfl) (ix_n (by omega) (by omega)) e1 ?_
      refine q_lshl (v := (1 : Int64) <<< ((nI t1).toInt64 &&& 63)) dX2_blocksNamedBy_57 rfl ?_
      refine q_lor dX2_blocksNamedBy_58 ?_
      refine q_lreturn dX2_blocksNamedBy_59 rfl (by omega) (by omega) ?_
      exact ⟨rfl, rfl⟩
  | some t0 =>
    have := l0 _ rfl
    cases w1 with
    | none =>
      refine CT.of (by decide) (Nat.le_of_ble_eq_true rfl) ?_
      refine q_aload_n dX2_blocksNamedBy_0 rfl rfl rfl ?_
      refine q_iload_n dX2_blocksNamedBy_1 rfl rfl ?_
      refine q_callV (As := [.int (nI j)]) (rest := []) dX2_blocksNamedBy_2 vX2_115 (ty_r hb 0 rfl) ⟨by decide, rfl⟩ (z2_endOf hb hj hv h1 h2) rfl rfl (Nat.le_of_ble_eq_true rfl) (by omega) (by omega) (by omega) (k_p ?_)
      refine q_istore_n dX2_blocksNamedBy_5 rfl (by decide) (ls' := [(2, .int (nI (v - 1))), (0, .ref b), (1, .int (nI j))]) rfl ?_
      refine q_aload_n dX2_blocksNamedBy_6 rfl rfl rfl ?_
      refine q_getr (r := b + 8) dX2_blocksNamedBy_7 fX2_29 rfl (ty_r hb 0 rfl) (hb.2.2 0 5 8 rfl) ?_
      refine q_iconst (v := nI 0) dX2_blocksNamedBy_10 rfl ?_
      refine q_aald (r := b + 9) (j := 0) dX2_blocksNamedBy_11 (ty_r hb 8 rfl) (Or.inl rfl) (ix_n (by omega) (by omega)) (hb.2.2 8 0 9 rfl) ?_
      refine q_iload_n dX2_blocksNamedBy_12 rfl rfl ?_
      refine q_iald (x := nI t0) (j := (v - 1)) dX2_blocksNamedBy_13 (ty_r hb 9 rfl) (ix_n (by omega) (by omega)) e0 ?_
      refine q_if_geN (tgt := 21) dX2_blocksNamedBy_14 (by decide) (by omega) ?_
      refine q_lconst (v := (1 : Int64)) dX2_blocksNamedBy_21 rfl ?_
      refine q_aload_n dX2_blocksNamedBy_22 rfl rfl rfl ?_
      refine q_getr (r := b + 8) dX2_blocksNamedBy_23 fX2_29 rfl (ty_r hb 0 rfl) (hb.2.2 0 5 8 rfl) ?_
      refine q_iconst (v := nI 0) dX2_blocksNamedBy_26 rfl ?_
      refine q_aald (r := b + 9) (j := 0) dX2_blocksNamedBy_27 (ty_r hb 8 rfl) (Or.inl rfl) (ix_n (by omega) (by omega)) (hb.2.2 8 0 9 rfl) ?_
      refine q_iload_n dX2_blocksNamedBy_28 rfl rfl ?_
      refine q_iald (x := nI t0) (j := (v - 1)) dX2_blocksNamedBy_29 (ty_r hb 9 rfl) (ix_n (by omega) (by omega)) e0 ?_
      refine q_lshl (v := (1 : Int64) <<< ((nI t0).toInt64 &&& 63)) dX2_blocksNamedBy_30 rfl ?_
      refine q_lstore_n dX2_blocksNamedBy_31 rfl (by decide) (ls' := [(3, .long ((1 : Int64) <<< ((nI t0).toInt64 &&& 63))), (2, .int (nI (v - 1))), (0, .ref b), (1, .int (nI j))]) rfl ?_
      refine q_lload_n dX2_blocksNamedBy_32 rfl rfl ?_
      refine q_aload_n dX2_blocksNamedBy_33 rfl rfl rfl ?_
      refine q_getr (r := b + 8) dX2_blocksNamedBy_34 fX2_29 rfl (ty_r hb 0 rfl) (hb.2.2 0 5 8 rfl) ?_
      refine q_iconst (v := nI 1) dX2_blocksNamedBy_37 rfl ?_
      refine q_aald (r := b + 10) (j := 1) dX2_blocksNamedBy_38 (ty_r hb 8 rfl) (Or.inl rfl) (ix_n (by omega) (by omega)) (hb.2.2 8 1 10 rfl) ?_
      refine q_iload_n dX2_blocksNamedBy_39 rfl rfl ?_
      refine q_iald (x := (-1)) (j := (v - 1)) dX2_blocksNamedBy_40 (ty_r hb 10 rfl) (ix_n (by omega) (by omega)) e1 ?_
      refine q_if_ge1 (tgt := 48) dX2_blocksNamedBy_41 (by decide) (by decide) ?_
      refine q_lconst (v := (0 : Int64)) dX2_blocksNamedBy_44 rfl ?_
      refine q_goto (tgt := 58) dX2_blocksNamedBy_45 (by decide) ?_
      refine q_lor dX2_blocksNamedBy_58 ?_
      refine q_lreturn dX2_blocksNamedBy_59 rfl (by omega) (by omega) ?_
      exact ⟨rfl, rfl⟩
    | some t1 =>
      have := l1 _ rfl
      refine CT.of (by decide) (Nat.le_of_ble_eq_true rfl) ?_
      refine q_aload_n dX2_blocksNamedBy_0 rfl rfl rfl ?_
      refine q_iload_n dX2_blocksNamedBy_1 rfl rfl ?_
      refine q_callV (As := [.int (nI j)]) (rest := []) dX2_blocksNamedBy_2 vX2_115 (ty_r hb 0 rfl) ⟨by decide, rfl⟩ (z2_endOf hb hj hv h1 h2) rfl rfl (Nat.le_of_ble_eq_true rfl) (by omega) (by omega) (by omega) (k_p ?_)
      refine q_istore_n dX2_blocksNamedBy_5 rfl (by decide) (ls' := [(2, .int (nI (v - 1))), (0, .ref b), (1, .int (nI j))]) rfl ?_
      refine q_aload_n dX2_blocksNamedBy_6 rfl rfl rfl ?_
      refine q_getr (r := b + 8) dX2_blocksNamedBy_7 fX2_29 rfl (ty_r hb 0 rfl) (hb.2.2 0 5 8 rfl) ?_
      refine q_iconst (v := nI 0) dX2_blocksNamedBy_10 rfl ?_
      refine q_aald (r := b + 9) (j := 0) dX2_blocksNamedBy_11 (ty_r hb 8 rfl) (Or.inl rfl) (ix_n (by omega) (by omega)) (hb.2.2 8 0 9 rfl) ?_
      refine q_iload_n dX2_blocksNamedBy_12 rfl rfl ?_
      refine q_iald (x := nI t0) (j := (v - 1)) dX2_blocksNamedBy_13 (ty_r hb 9 rfl) (ix_n (by omega) (by omega)) e0 ?_
      refine q_if_geN (tgt := 21) dX2_blocksNamedBy_14 (by decide) (by omega) ?_
      refine q_lconst (v := (1 : Int64)) dX2_blocksNamedBy_21 rfl ?_
      refine q_aload_n dX2_blocksNamedBy_22 rfl rfl rfl ?_
      refine q_getr (r := b + 8) dX2_blocksNamedBy_23 fX2_29 rfl (ty_r hb 0 rfl) (hb.2.2 0 5 8 rfl) ?_
      refine q_iconst (v := nI 0) dX2_blocksNamedBy_26 rfl ?_
      refine q_aald (r := b + 9) (j := 0) dX2_blocksNamedBy_27 (ty_r hb 8 rfl) (Or.inl rfl) (ix_n (by omega) (by omega)) (hb.2.2 8 0 9 rfl) ?_
      refine q_iload_n dX2_blocksNamedBy_28 rfl rfl ?_
      refine q_iald (x := nI t0) (j := (v - 1)) dX2_blocksNamedBy_29 (ty_r hb 9 rfl) (ix_n (by omega) (by omega)) e0 ?_
      refine q_lshl (v := (1 : Int64) <<< ((nI t0).toInt64 &&& 63)) dX2_blocksNamedBy_30 rfl ?_
      refine q_lstore_n dX2_blocksNamedBy_31 rfl (by decide) (ls' := [(3, .long ((1 : Int64) <<< ((nI t0).toInt64 &&& 63))), (2, .int (nI (v - 1))), (0, .ref b), (1, .int (nI j))]) rfl ?_
      refine q_lload_n dX2_blocksNamedBy_32 rfl rfl ?_
      refine q_aload_n dX2_blocksNamedBy_33 rfl rfl rfl ?_
      refine q_getr (r := b + 8) dX2_blocksNamedBy_34 fX2_29 rfl (ty_r hb 0 rfl) (hb.2.2 0 5 8 rfl) ?_
      refine q_iconst (v := nI 1) dX2_blocksNamedBy_37 rfl ?_
      refine q_aald (r := b + 10) (j := 1) dX2_blocksNamedBy_38 (ty_r hb 8 rfl) (Or.inl rfl) (ix_n (by omega) (by omega)) (hb.2.2 8 1 10 rfl) ?_
      refine q_iload_n dX2_blocksNamedBy_39 rfl rfl ?_
      refine q_iald (x := nI t1) (j := (v - 1)) dX2_blocksNamedBy_40 (ty_r hb 10 rfl) (ix_n (by omega) (by omega)) e1 ?_
      refine q_if_geN (tgt := 48) dX2_blocksNamedBy_41 (by decide) (by omega) ?_
      refine q_lconst (v := (1 : Int64)) dX2_blocksNamedBy_48 rfl ?_
      refine q_aload_n dX2_blocksNamedBy_49 rfl rfl rfl ?_
      refine q_getr (r := b + 8) dX2_blocksNamedBy_50 fX2_29 rfl (ty_r hb 0 rfl) (hb.2.2 0 5 8 rfl) ?_
      refine q_iconst (v := nI 1) dX2_blocksNamedBy_53 rfl ?_
      refine q_aald (r := b + 10) (j := 1) dX2_blocksNamedBy_54 (ty_r hb 8 rfl) (Or.inl rfl) (ix_n (by omega) (by omega)) (hb.2.2 8 1 10 rfl) ?_
      refine q_iload_n dX2_blocksNamedBy_55 rfl rfl ?_
      refine q_iald (x := nI t1) (j := (v - 1)) dX2_blocksNamedBy_56 (ty_r hb 10 rfl) (ix_n (by omega) (by omega)) e1 ?_
      refine q_lshl (v := (1 : Int64) <<< ((nI t1).toInt64 &&& 63)) dX2_blocksNamedBy_57 rfl ?_
      refine q_lor dX2_blocksNamedBy_58 ?_
      refine q_lreturn dX2_blocksNamedBy_59 rfl (by omega) (by omega) ?_
      exact ⟨rfl, rfl⟩
