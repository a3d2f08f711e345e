/-! Tokens: ends of runs, numbers, texts. -/
theorem y6_endOfDigits {g : GG} {σ : HS} (hS : SK σ) {L : Nat} {T : Nat → Nat} (hT : CTX σ L T) {p : Nat} (i : Nat) (hi : i ≤ L) {Q : Option Value → HS → Prop} (hQ : Q (some (.int (nI (run isDig T L i)))) σ) : WA g mX6_endOfDigits 1 0 0 (ZM g Q 0 0) 0 0 2 [(0, .ref 2), (1, .int (nI p)), (2, .int (nI i))] [] σ := by
  have hL := hT.1
  have h3 := hT.2.1
  induction hn : L - i using Nat.strongRecOn generalizing i with
  | ind n ih =>
    refine q_iload_n dX6_endOfDigits_2 rfl rfl ?_
    refine q_aload_n dX6_endOfDigits_3 rfl rfl rfl ?_
    refine q_geti (x := nI L) dX6_endOfDigits_4 fX6_25 rfl (ty_c hS (by decide) rfl) hL ?_
    refine q_icmp_geN (tgt := 27) dX6_endOfDigits_7 (by decide) (by omega) (by omega) (fun c7 => ?_) (fun c7 => ?_)
    · skip
      refine q_iload_n dX6_endOfDigits_27 rfl rfl ?_
      refine q_ireturn dX6_endOfDigits_28 rfl rfl (by omega) (by omega) ?_
      first | (rw [run_end (by omega)] at hQ; exact hQ) | (rw [run_stop (by omega) c18] at hQ; exact hQ)
    · skip
      have hb := (hT.2.2 i (by omega)).2
      refine q_aload_n dX6_endOfDigits_10 rfl rfl rfl ?_
      refine q_iload_n dX6_endOfDigits_11 rfl rfl ?_
      refine q_callV (As := [.int (nI i)]) (rest := []) dX6_endOfDigits_12 vX6_30 (ty_c hS (by decide) rfl) ⟨by decide, rfl⟩ (z5_byteAt hS hT (by omega)) rfl rfl (Nat.le_of_ble_eq_true rfl) (by omega) (by omega) (by omega) (k_p ?_)
      refine q_callS (As := [.int (nI (T i))]) (rest := []) dX6_endOfDigits_15 vX6_49 (z6_isDigit (by omega)) rfl rfl (Nat.le_of_ble_eq_true rfl) (by omega) (by omega) (by omega) (k_p ?_)
      refine q_if_eqB (tgt := 27) dX6_endOfDigits_18 (by decide) (fun c18 => ?_) (fun c18 => ?_)
      · skip
        refine q_iload_n dX6_endOfDigits_27 rfl rfl ?_
        refine q_ireturn dX6_endOfDigits_28 rfl rfl (by omega) (by omega) ?_
        first | (rw [run_end (by omega)] at hQ; exact hQ) | (rw [run_stop (by omega) c18] at hQ; exact hQ)
      · skip
        refine q_iincN (c := 1) dX6_endOfDigits_21 rfl (by decide) rfl (ls' := [(2, .int (nI (i + 1))), (0, .ref 2), (1, .int (nI p))]) rfl ?_
        refine q_goto (tgt := 2) dX6_endOfDigits_24 (by decide) ?_
        refine q_pk [1, 2, 0] (ls' := [(0, .ref 2), (1, .int (nI p)), (2, .int (nI (i + 1)))]) rfl ?_
        exact ih (L - (i + 1)) (by omega) (i + 1) (by omega) (by rw [← run_step (by omega) c18]; exact hQ) rfl
theorem z6_endOfDigits {g : GG} {σ : HS} (hS : SK σ) {L : Nat} {T : Nat → Nat} (hT : CTX σ L T) {p : Nat} (hp : p ≤ L) : CT g mX6_endOfDigits 1 0 0 [.ref 2, .int (nI p)] σ (PQ σ (.int (nI (run isDig T L p)))) := by
  refine CT.of (by decide) (Nat.le_of_ble_eq_true rfl) ?_
  refine q_iload_n dX6_endOfDigits_0 rfl rfl ?_
  refine q_istore_n dX6_endOfDigits_1 rfl (by decide) (ls' := [(2, .int (nI p)), (0, .ref 2), (1, .int (nI p))]) rfl ?_
  refine q_pk [1, 2, 0] (ls' := [(0, .ref 2), (1, .int (nI p)), (2, .int (nI p))]) rfl ?_
  exact y6_endOfDigits hS hT p hp ⟨rfl, rfl⟩
theorem isLD_1 {c : Nat} (h : isLet c = true) : isLD c = true := by unfold isLD; rw [h]; rfl
theorem isLD_2 {c : Nat} (h : isDig c = true) : isLD c = true := by unfold isLD; rw [h, Bool.or_true]
theorem isLD_0 {c : Nat} (h : isLet c = false) (h2 : isDig c = false) : isLD c = false := by unfold isLD; rw [h, h2]; rfl
theorem y6_endOfBoth {g : GG} {σ : HS} (hS : SK σ) {L : Nat} {T : Nat → Nat} (hT : CTX σ L T) {p : Nat} (i : Nat) (hi : i ≤ L) {Q : Option Value → HS → Prop} (hQ : Q (some (.int (nI (run isLD T L i)))) σ) : WA g mX6_endOfBoth 1 0 0 (ZM g Q 0 0) 0 0 2 [(0, .ref 2), (1, .int (nI p)), (2, .int (nI i))] [] σ := by
  have hL := hT.1
  have h3 := hT.2.1
  induction hn : L - i using Nat.strongRecOn generalizing i with
  | ind n ih =>
    refine q_iload_n dX6_endOfBoth_2 rfl rfl ?_
    refine q_aload_n dX6_endOfBoth_3 rfl rfl rfl ?_
    refine q_geti (x := nI L) dX6_endOfBoth_4 fX6_25 rfl (ty_c hS (by decide) rfl) hL ?_
    refine q_icmp_geN (tgt := 38) dX6_endOfBoth_7 (by decide) (by omega) (by omega) (fun c7 => ?_) (fun c7 => ?_)
    · skip
      refine q_iload_n dX6_endOfBoth_38 rfl rfl ?_
      refine q_ireturn dX6_endOfBoth_39 rfl rfl (by omega) (by omega) ?_
      first | (rw [run_end (by omega)] at hQ; exact hQ) | (rw [run_stop (by omega) (isLD_0 c18 c29)] at hQ; exact hQ)
    · skip
      have hb := (hT.2.2 i (by omega)).2
      refine q_aload_n dX6_endOfBoth_10 rfl rfl rfl ?_
      refine q_iload_n dX6_endOfBoth_11 rfl rfl ?_
      refine q_callV (As := [.int (nI i)]) (rest := []) dX6_endOfBoth_12 vX6_30 (ty_c hS (by decide) rfl) ⟨by decide, rfl⟩ (z5_byteAt hS hT (by omega)) rfl rfl (Nat.le_of_ble_eq_true rfl) (by omega) (by omega) (by omega) (k_p ?_)
      refine q_callS (As := [.int (nI (T i))]) (rest := []) dX6_endOfBoth_15 vX6_46 (z6_isLetter (by omega)) rfl rfl (Nat.le_of_ble_eq_true rfl) (by omega) (by omega) (by omega) (k_p ?_)
      refine q_if_neB (tgt := 32) dX6_endOfBoth_18 (by decide) (fun c18 => ?_) (fun c18 => ?_)
      · skip
        refine q_iincN (c := 1) dX6_endOfBoth_32 rfl (by decide) rfl (ls' := [(2, .int (nI (i + 1))), (0, .ref 2), (1, .int (nI p))]) rfl ?_
        refine q_goto (tgt := 2) dX6_endOfBoth_35 (by decide) ?_
        refine q_pk [1, 2, 0] (ls' := [(0, .ref 2), (1, .int (nI p)), (2, .int (nI (i + 1)))]) rfl ?_
        exact ih (L - (i + 1)) (by omega) (i + 1) (by omega) (by rw [← run_step (by omega) (by first | exact isLD_1 c18 | exact isLD_2 c29)]; exact hQ) rfl
      · skip
        refine q_aload_n dX6_endOfBoth_21 rfl rfl rfl ?_
        refine q_iload_n dX6_endOfBoth_22 rfl rfl ?_
        refine q_callV (As := [.int (nI i)]) (rest := []) dX6_endOfBoth_23 vX6_30 (ty_c hS (by decide) rfl) ⟨by decide, rfl⟩ (z5_byteAt hS hT (by omega)) rfl rfl (Nat.le_of_ble_eq_true rfl) (by omega) (by omega) (by omega) (k_p ?_)
        refine q_callS (As := [.int (nI (T i))]) (rest := []) dX6_endOfBoth_26 vX6_49 (z6_isDigit (by omega)) rfl rfl (Nat.le_of_ble_eq_true rfl) (by omega) (by omega) (by omega) (k_p ?_)
        refine q_if_eqB (tgt := 38) dX6_endOfBoth_29 (by decide) (fun c29 => ?_) (fun c29 => ?_)
        · skip
          refine q_iload_n dX6_endOfBoth_38 rfl rfl ?_
          refine q_ireturn dX6_endOfBoth_39 rfl rfl (by omega) (by omega) ?_
          first | (rw [run_end (by omega)] at hQ; exact hQ) | (rw [run_stop (by omega) (isLD_0 c18 c29)] at hQ; exact hQ)
        · skip
          refine q_iincN (c := 1) dX6_endOfBoth_32 rfl (by decide) rfl (ls' := [(2, .int (nI (i + 1))), (0, .ref 2), (1, .int (nI p))]) rfl ?_
          refine q_goto (tgt := 2) dX6_endOfBoth_35 (by decide) ?_
          refine q_pk [1, 2, 0] (ls' := [(0, .ref 2), (1, .int (nI p)), (2, .int (nI (i + 1)))]) rfl ?_
          exact ih (L - (i + 1)) (by omega) (i + 1) (by omega) (by rw [← run_step (by omega) (by first | exact isLD_1 c18 | exact isLD_2 c29)]; exact hQ) rfl
theorem z6_endOfBoth {g : GG} {σ : HS} (hS : SK σ) {L : Nat} {T : Nat → Nat} (hT : CTX σ L T) {p : Nat} (hp : p ≤ L) : CT g mX6_endOfBoth 1 0 0 [.ref 2, .int (nI p)] σ (PQ σ (.int (nI (run isLD T L p)))) := by
  refine CT.of (by decide) (Nat.le_of_ble_eq_true rfl) ?_
  refine q_iload_n dX6_endOfBoth_0 rfl rfl ?_
  refine q_istore_n dX6_endOfBoth_1 rfl (by decide) (ls' := [(2, .int (nI p)), (0, .ref 2), (1, .int (nI p))]) rfl ?_
  refine q_pk [1, 2, 0] (ls' := [(0, .ref 2), (1, .int (nI p)), (2, .int (nI p))]) rfl ?_
  exact y6_endOfBoth hS hT p hp ⟨rfl, rfl⟩
theorem dig_48 {c : Nat} (h : isDig c = true) : 48 ≤ c ∧ c ≤ 57 := by
  unfold isDig at h
  simpa using h
/-- at most nine digits: no wrap -/
theorem y6_numberOf {g : GG} {σ : HS} (hS : SK σ) {L : Nat} {T : Nat → Nat} (hT : CTX σ L T) {p e : Nat} (he : e ≤ L) (hd : ∀ j, p ≤ j → j < e → isDig (T j) = true) {Q : Option Value → HS → Prop} : ∀ (k i n : Nat), i + k = e → p ≤ i → n * 10 ^ k + 10 ^ k ≤ 1000000000 → Q (some (.int (nI (numF T i k n)))) σ → WA g mX6_numberOf 1 0 0 (ZM g Q 0 0) 0 0 5 [(0, .ref 2), (1, .int (nI p)), (2, .int (nI e)), (3, .int (nI n)), (4, .int (nI i))] [] σ := by
  have h3 := hT.2.1
  intro k
  induction k with
  | zero =>
    intro i n hi hp hn hQ
    simp only [Nat.pow_zero] at hn
    refine q_iload dX6_numberOf_5 rfl ?_
    refine q_iload_n dX6_numberOf_7 rfl rfl ?_
    refine q_icmp_geN (tgt := 32) dX6_numberOf_8 (by decide) (by omega) (by omega) (fun c8 => ?_) (fun c8 => ?_)
    · skip
      refine q_iload_n dX6_numberOf_32 rfl rfl ?_
      refine q_ireturn dX6_numberOf_33 rfl rfl (by omega) (by omega) ?_
      exact hQ
    · exact absurd c8 (by omega)
  | succ k ih =>
    intro i n hi hp hn hQ
    have h10 : 1 ≤ 10 ^ k := Nat.one_le_pow _ _ (by decide)
    rw [Nat.pow_succ] at hn
    have hdig := dig_48 (hd i hp (by omega))
    have hmul : (10 * n + (T i - 48)) * 10 ^ k + 10 ^ k ≤ 1000000000 := by
      have e1 : (10 * n + (T i - 48)) * 10 ^ k + 10 ^ k = n * (10 ^ k * 10) + (T i - 48 + 1) * 10 ^ k := by
        rw [Nat.add_mul, Nat.add_mul, Nat.one_mul, Nat.mul_comm 10 n, Nat.mul_assoc, Nat.mul_comm 10 (10 ^ k), Nat.add_assoc]
      have e2 : (T i - 48 + 1) * 10 ^ k ≤ 10 * 10 ^ k := Nat.mul_le_mul_right _ (by omega)
      rw [e1]
      omega
    have hbig : 10 * n + (T i - 48) < 1000000000 := by
      have : (10 * n + (T i - 48)) * 1 ≤ (10 * n + (T i - 48)) * 10 ^ k := Nat.mul_le_mul_left _ h10
      omega
    refine q_iload dX6_numberOf_5 rfl ?_
    refine q_iload_n dX6_numberOf_7 rfl rfl ?_
    refine q_icmp_geN (tgt := 32) dX6_numberOf_8 (by decide) (by omega) (by omega) (fun c8 => ?_) (fun c8 => ?_)
    · exact absurd c8 (by omega)
    · skip
      refine q_bipush (v := nI 10) dX6_numberOf_11 rfl ?_
      refine q_iload_n dX6_numberOf_13 rfl rfl ?_
      refine q_imulN dX6_numberOf_14 ?_
      refine q_aload_n dX6_numberOf_15 rfl rfl rfl ?_
      refine q_iload dX6_numberOf_16 rfl ?_
      refine q_callV (As := [.int (nI i)]) (rest := [.int (nI (10 * n))]) dX6_numberOf_18 vX6_30 (ty_c hS (by decide) rfl) ⟨by decide, rfl⟩ (z5_byteAt hS hT (by omega)) rfl rfl (Nat.le_of_ble_eq_true rfl) (by omega) (by omega) (by omega) (k_p ?_)
      refine q_iaddN dX6_numberOf_21 ?_
      refine q_bipush (v := nI 48) dX6_numberOf_22 rfl ?_
      refine q_isubN dX6_numberOf_24 (by omega) ?_
      refine q_istore_n dX6_numberOf_25 rfl (by decide) (ls' := [(3, .int (nI (((10 * n) + (T i)) - 48))), (0, .ref 2), (1, .int (nI p)), (2, .int (nI e)), (4, .int (nI i))]) rfl ?_
      refine q_iincN (c := 1) dX6_numberOf_26 rfl (by decide) rfl (ls' := [(4, .int (nI (i + 1))), (3, .int (nI (((10 * n) + (T i)) - 48))), (0, .ref 2), (1, .int (nI p)), (2, .int (nI e))]) rfl ?_
      refine q_goto (tgt := 5) dX6_numberOf_29 (by decide) ?_
      refine q_pk [2, 3, 4, 1, 0] (ls' := [(0, .ref 2), (1, .int (nI p)), (2, .int (nI e)), (3, .int (nI (((10 * n) + (T i)) - 48))), (4, .int (nI (i + 1)))]) rfl ?_
      rw [show 10 * n + T i - 48 = 10 * n + (T i - 48) by omega]; exact ih (i + 1) (10 * n + (T i - 48)) (by omega) (by omega) hmul hQ
theorem z6_numberOf {g : GG} {σ : HS} (hS : SK σ) {L : Nat} {T : Nat → Nat} (hT : CTX σ L T) {p e : Nat} (hp : p ≤ e) (he : e ≤ L) (hd : ∀ j, p ≤ j → j < e → isDig (T j) = true) (h9 : e - p ≤ 9) : CT g mX6_numberOf 1 0 0 [.ref 2, .int (nI p), .int (nI e)] σ (PQ σ (.int (nI (num T p e)))) := by
  have h3 := hT.2.1
  have h10 : 10 ^ (e - p) ≤ 10 ^ 9 := Nat.pow_le_pow_right (by decide) h9
  refine CT.of (by decide) (Nat.le_of_ble_eq_true rfl) ?_
  refine q_iconst (v := nI 0) dX6_numberOf_0 rfl ?_
  refine q_istore_n dX6_numberOf_1 rfl (by decide) (ls' := [(3, .int (nI 0)), (0, .ref 2), (1, .int (nI p)), (2, .int (nI e))]) rfl ?_
  refine q_iload_n dX6_numberOf_2 rfl rfl ?_
  refine q_istore dX6_numberOf_3 (by decide) (ls' := [(4, .int (nI p)), (3, .int (nI 0)), (0, .ref 2), (1, .int (nI p)), (2, .int (nI e))]) rfl ?_
  refine q_pk [2, 3, 4, 1, 0] (ls' := [(0, .ref 2), (1, .int (nI p)), (2, .int (nI e)), (3, .int (nI 0)), (4, .int (nI p))]) rfl ?_
  exact y6_numberOf hS hT he hd (e - p) p 0 (by omega) (Nat.le_refl _) (by omega) ⟨rfl, rfl⟩
theorem op_ix : ∀ c, c < 256 → decide (0 ≤ ixF 5 c (stLen.getD 5 0) 0) = isOpB c := by decide +kernel
theorem sg_ix : ∀ c, c < 256 → (decide (0 ≤ ixF 4 c (stLen.getD 4 0) 0) || isOpB c) = isSgB c := by decide +kernel
theorem c_chr {c : Nat} (hc : c < 256) : ((nI c).toUInt32 % 65536).toInt32 = nI c := by rw [pk_char, pk_tn (by omega), Nat.mod_eq_of_lt (by omega)]
theorem z6_isSumSign {g : GG} {σ : HS} {c : Nat} (hc : c < 256) : CT g mX6_isSumSign 4 0 0 [.int (nI c)] σ (PQ σ (.int (bi (isOpB c)))) := by
  have h := op_ix c hc
  refine CT.of (by decide) (Nat.le_of_ble_eq_true rfl) ?_
  refine q_ldcS (j := 5) (b := 5) dX6_isSumSign_0 rfl rfl rfl rfl ?_
  refine q_iload_n dX6_isSumSign_2 rfl rfl ?_
  refine q_i2c (v := nI c) dX6_isSumSign_3 (c_chr hc) ?_
  refine q_callVT (As := [.int (nI c)]) (rest := []) dX6_isSumSign_4 vX6_102 rfl rfl (by decide) (zJ_ix1 (j := 5) (b := 5) rfl (by decide) (b2 := 105) rfl (by omega) (by decide)) rfl rfl (Nat.le_of_ble_eq_true rfl) (by omega) (by omega) (by omega) (k_p ?_)
  refine q_if_lt (tgt := 14) dX6_isSumSign_7 (by decide) (fun c7 => ?_) (fun c7 => ?_)
  · skip
    refine q_iconst (v := nI 0) dX6_isSumSign_14 rfl ?_
    refine q_ireturn dX6_isSumSign_15 rfl rfl (by omega) (by omega) ?_
    exact fin_f (by rw [← h]; exact decide_eq_false (Int32.not_le.mpr c7))
  · skip
    refine q_iconst (v := nI 1) dX6_isSumSign_10 rfl ?_
    refine q_goto (tgt := 15) dX6_isSumSign_11 (by decide) ?_
    refine q_ireturn dX6_isSumSign_15 rfl rfl (by omega) (by omega) ?_
    exact fin_t (by rw [← h]; exact decide_eq_true (Int32.not_lt.mp c7))
theorem z6_isSign {g : GG} {σ : HS} {c : Nat} (hc : c < 256) : CT g mX6_isSign 5 0 0 [.int (nI c)] σ (PQ σ (.int (bi (isSgB c)))) := by
  have h := sg_ix c hc
  refine CT.of (by decide) (Nat.le_of_ble_eq_true rfl) ?_
  refine q_ldcS (j := 4) (b := 4) dX6_isSign_0 rfl rfl rfl rfl ?_
  refine q_iload_n dX6_isSign_2 rfl rfl ?_
  refine q_i2c (v := nI c) dX6_isSign_3 (c_chr hc) ?_
  refine q_callVT (As := [.int (nI c)]) (rest := []) dX6_isSign_4 vX6_102 rfl rfl (by decide) (zJ_ix1 (j := 4) (b := 4) rfl (by decide) (b2 := 104) rfl (by omega) (by decide)) rfl rfl (Nat.le_of_ble_eq_true rfl) (by omega) (by omega) (by omega) (k_p ?_)
  refine q_if_ge (tgt := 17) dX6_isSign_7 (by decide) (fun c7 => ?_) (fun c7 => ?_)
  · skip
    refine q_iconst (v := nI 1) dX6_isSign_17 rfl ?_
    refine q_goto (tgt := 22) dX6_isSign_18 (by decide) ?_
    refine q_ireturn dX6_isSign_22 rfl rfl (by omega) (by omega) ?_
    first | exact fin_t (by rw [← h, decide_eq_true c7]; rfl) | exact fin_t (by rw [← h, c14, Bool.or_true])
  · skip
    refine q_iload_n dX6_isSign_10 rfl rfl ?_
    refine q_callS (As := [.int (nI c)]) (rest := []) dX6_isSign_11 vX6_105 (z6_isSumSign (by omega)) rfl rfl (Nat.le_of_ble_eq_true rfl) (by omega) (by omega) (by omega) (k_p ?_)
    refine q_if_eqB (tgt := 21) dX6_isSign_14 (by decide) (fun c14 => ?_) (fun c14 => ?_)
    · skip
      refine q_iconst (v := nI 0) dX6_isSign_21 rfl ?_
      refine q_ireturn dX6_isSign_22 rfl rfl (by omega) (by omega) ?_
      exact fin_f (by rw [← h, c14, decide_eq_false c7]; rfl)
    · skip
      refine q_iconst (v := nI 1) dX6_isSign_17 rfl ?_
      refine q_goto (tgt := 22) dX6_isSign_18 (by decide) ?_
      refine q_ireturn dX6_isSign_22 rfl rfl (by omega) (by omega) ?_
      first | exact fin_t (by rw [← h, decide_eq_true c7]; rfl) | exact fin_t (by rw [← h, c14, Bool.or_true])
/-- the signs at p .. e-1 are text j -/
def isT (T : Nat → Nat) (p e j : Nat) : Bool := (e - p == stLen.getD j 0) && (List.range (stLen.getD j 0)).all (fun i => T (p + i) == stC j i)
theorem isT_f {T : Nat → Nat} {p e j q : Nat} (h : q < stLen.getD j 0) (h2 : T (p + q) ≠ stC j q) : isT T p e j = false := by
  unfold isT
  rw [Bool.and_eq_false_iff]
  right
  rw [List.all_eq_false]
  exact ⟨q, List.mem_range.mpr h, by simpa using h2⟩
theorem isT_t {T : Nat → Nat} {p e j : Nat} (h1 : e - p = stLen.getD j 0) (h : ∀ q, q < stLen.getD j 0 → T (p + q) = stC j q) : isT T p e j = true := by
  unfold isT
  rw [h1]
  simp only [BEq.rfl, Bool.true_and, List.all_eq_true, List.mem_range, beq_iff_eq]
  exact h
theorem y6_isText {g : GG} {σ : HS} (hS : SK σ) {L : Nat} {T : Nat → Nat} (hT : CTX σ L T) {p e : Nat} (hpe : p ≤ e) (he : e ≤ L) {b b2 : UInt64} {j : Nat} (hb : b.toNat = j) (hj : j < 17) (hb2 : b2.toNat = 100 + j) {Q : Option Value → HS → Prop} (hQ : Q (some (.int (bi (isT T p e j)))) σ) : ∀ (k i s : Nat), i + k = stLen.getD j 0 → ((s = 1 ∧ e - p = stLen.getD j 0 ∧ ∀ q, q < i → T (p + q) = stC j q) ∨ (s = 0 ∧ isT T p e j = false)) → WA g mX6_isText 4 0 0 (ZM g Q 0 0) 0 0 20 [(0, .ref 2), (1, .int (nI p)), (2, .int (nI e)), (3, .double b), (4, .int (nI s)), (5, .int (nI i))] [] σ := by
  have h3 := hT.2.1
  have hl := (st_all j hj).2.1
  intro k
  induction k with
  | zero =>
    intro i s hi hs
    rcases hs with ⟨rfl, h1, h2⟩ | ⟨rfl, h1⟩
    · rw [isT_t h1 (fun q hq => h2 q (by omega))] at hQ
      refine q_iload dX6_isText_20 rfl ?_
      refine q_if_eqN (tgt := 64) dX6_isText_22 (by decide) (by omega) (fun h => absurd h (by decide)) (fun _ => ?_)
      refine q_iload dX6_isText_25 rfl ?_
      refine q_aload_n dX6_isText_27 rfl rfl rfl ?_
      refine q_callVT (As := []) (rest := [.int (nI i)]) dX6_isText_28 vX6_91 rfl hb hj (zJ_length (j := j) hb hj hb2) rfl rfl (Nat.le_of_ble_eq_true rfl) (by omega) (by omega) (by omega) (k_p ?_)
      refine q_icmp_geN (tgt := 64) dX6_isText_31 (by decide) (by omega) (by omega) (fun c31 => ?_) (fun c31 => ?_)
      · skip
        refine q_iload dX6_isText_64 rfl ?_
        refine q_ireturn dX6_isText_66 rfl rfl (by omega) (by omega) ?_
        exact hQ
      · exact absurd c31 (by omega)
    · rw [h1] at hQ
      refine q_iload dX6_isText_20 rfl ?_
      refine q_if_eqN (tgt := 64) dX6_isText_22 (by decide) (by omega) (fun _ => ?_) (fun h => absurd h (by decide))
      refine q_iload dX6_isText_64 rfl ?_
      refine q_ireturn dX6_isText_66 rfl rfl (by omega) (by omega) ?_
      exact hQ
  | succ k ih =>
    intro i s hi hs
    rcases hs with ⟨rfl, h1, h2⟩ | ⟨rfl, h1⟩
    · have hb3 := (hT.2.2 (p + i) (by omega)).2
      have hc3 := (stC_is (q := i) hj (by omega)).2
      refine q_iload dX6_isText_20 rfl ?_
      refine q_if_eqN (tgt := 64) dX6_isText_22 (by decide) (by omega) (fun h => absurd h (by decide)) (fun _ => ?_)
      refine q_iload dX6_isText_25 rfl ?_
      refine q_aload_n dX6_isText_27 rfl rfl rfl ?_
      refine q_callVT (As := []) (rest := [.int (nI i)]) dX6_isText_28 vX6_91 rfl hb hj (zJ_length (j := j) hb hj hb2) rfl rfl (Nat.le_of_ble_eq_true rfl) (by omega) (by omega) (by omega) (k_p ?_)
      refine q_icmp_geN (tgt := 64) dX6_isText_31 (by decide) (by omega) (by omega) (fun c31 => ?_) (fun c31 => ?_)
      · exact absurd c31 (by omega)
      · skip
        refine q_aload_n dX6_isText_34 rfl rfl rfl ?_
        refine q_iload_n dX6_isText_35 rfl rfl ?_
        refine q_iload dX6_isText_36 rfl ?_
        refine q_iaddN dX6_isText_38 ?_
        refine q_callV (As := [.int (nI (p + i))]) (rest := []) dX6_isText_39 vX6_30 (ty_c hS (by decide) rfl) ⟨by decide, rfl⟩ (z5_byteAt hS hT (by omega)) rfl rfl (Nat.le_of_ble_eq_true rfl) (by omega) (by omega) (by omega) (k_p ?_)
        refine q_aload_n dX6_isText_42 rfl rfl rfl ?_
        refine q_iload dX6_isText_43 rfl ?_
        refine q_callVT (As := [.int (nI i)]) (rest := [.int (nI (T (p + i)))]) dX6_isText_45 vX6_96 rfl hb hj (zJ_charAt (j := j) hb hj hb2 (by omega)) rfl rfl (Nat.le_of_ble_eq_true rfl) (by omega) (by omega) (by omega) (k_p ?_)
        refine q_icmp_neN (tgt := 55) dX6_isText_48 (by decide) (by omega) (by omega) (fun c48 => ?_) (fun c48 => ?_)
        · skip
          refine q_iconst (v := nI 0) dX6_isText_55 rfl ?_
          refine q_istore dX6_isText_56 (by decide) (ls' := [(4, .int (nI 0)), (0, .ref 2), (1, .int (nI p)), (2, .int (nI e)), (3, .double b), (5, .int (nI i))]) rfl ?_
          refine q_iincN (c := 1) dX6_isText_58 rfl (by decide) rfl (ls' := [(5, .int (nI (i + 1))), (4, .int (nI 0)), (0, .ref 2), (1, .int (nI p)), (2, .int (nI e)), (3, .double b)]) rfl ?_
          refine q_goto (tgt := 20) dX6_isText_61 (by decide) ?_
          refine q_pk [2, 3, 4, 5, 1, 0] (ls' := [(0, .ref 2), (1, .int (nI p)), (2, .int (nI e)), (3, .double b), (4, .int (nI 0)), (5, .int (nI (i + 1)))]) rfl ?_
          refine ih (i + 1) _ (by omega) ?_
          first | exact Or.inr ⟨rfl, isT_f (by omega) c48⟩ | (refine Or.inl ⟨rfl, h1, fun q hq => ?_⟩; by_cases e0 : q = i; (rw [e0]; exact c48); exact h2 q (by omega))
        · skip
          refine q_iconst (v := nI 1) dX6_isText_51 rfl ?_
          refine q_goto (tgt := 56) dX6_isText_52 (by decide) ?_
          refine q_istore dX6_isText_56 (by decide) (ls' := [(4, .int (nI 1)), (0, .ref 2), (1, .int (nI p)), (2, .int (nI e)), (3, .double b), (5, .int (nI i))]) rfl ?_
          refine q_iincN (c := 1) dX6_isText_58 rfl (by decide) rfl (ls' := [(5, .int (nI (i + 1))), (4, .int (nI 1)), (0, .ref 2), (1, .int (nI p)), (2, .int (nI e)), (3, .double b)]) rfl ?_
          refine q_goto (tgt := 20) dX6_isText_61 (by decide) ?_
          refine q_pk [2, 3, 4, 5, 1, 0] (ls' := [(0, .ref 2), (1, .int (nI p)), (2, .int (nI e)), (3, .double b), (4, .int (nI 1)), (5, .int (nI (i + 1)))]) rfl ?_
          refine ih (i + 1) _ (by omega) ?_
          first | exact Or.inr ⟨rfl, isT_f (by omega) c48⟩ | (refine Or.inl ⟨rfl, h1, fun q hq => ?_⟩; by_cases e0 : q = i; (rw [e0]; exact c48); exact h2 q (by omega))
    · rw [h1] at hQ
      refine q_iload dX6_isText_20 rfl ?_
      refine q_if_eqN (tgt := 64) dX6_isText_22 (by decide) (by omega) (fun _ => ?_) (fun h => absurd h (by decide))
      refine q_iload dX6_isText_64 rfl ?_
      refine q_ireturn dX6_isText_66 rfl rfl (by omega) (by omega) ?_
      exact hQ
theorem z6_isText {g : GG} {σ : HS} (hS : SK σ) {L : Nat} {T : Nat → Nat} (hT : CTX σ L T) {p e : Nat} (hpe : p ≤ e) (he : e ≤ L) {b b2 : UInt64} {j : Nat} (hb : b.toNat = j) (hj : j < 17) (hb2 : b2.toNat = 100 + j) : CT g mX6_isText 4 0 0 [.ref 2, .int (nI p), .int (nI e), .double b] σ (PQ σ (.int (bi (isT T p e j)))) := by
  have h3 := hT.2.1
  have hl := (st_all j hj).2.1
  refine CT.of (by decide) (Nat.le_of_ble_eq_true rfl) ?_
  refine q_iload_n dX6_isText_0 rfl rfl ?_
  refine q_iload_n dX6_isText_1 rfl rfl ?_
  refine q_isubN dX6_isText_2 (by omega) ?_
  refine q_aload_n dX6_isText_3 rfl rfl rfl ?_
  refine q_callVT (As := []) (rest := [.int (nI (e - p))]) dX6_isText_4 vX6_91 rfl hb hj (zJ_length (j := j) hb hj hb2) rfl rfl (Nat.le_of_ble_eq_true rfl) (by omega) (by omega) (by omega) (k_p ?_)
  refine q_icmp_neN (tgt := 14) dX6_isText_7 (by decide) (by omega) (by omega) (fun c7 => ?_) (fun c7 => ?_)
  · skip
    refine q_iconst (v := nI 0) dX6_isText_14 rfl ?_
    refine q_istore dX6_isText_15 (by decide) (ls' := [(4, .int (nI 0)), (0, .ref 2), (1, .int (nI p)), (2, .int (nI e)), (3, .double b)]) rfl ?_
    refine q_iconst (v := nI 0) dX6_isText_17 rfl ?_
    refine q_istore dX6_isText_18 (by decide) (ls' := [(5, .int (nI 0)), (4, .int (nI 0)), (0, .ref 2), (1, .int (nI p)), (2, .int (nI e)), (3, .double b)]) rfl ?_
    refine q_pk [2, 3, 4, 5, 1, 0] (ls' := [(0, .ref 2), (1, .int (nI p)), (2, .int (nI e)), (3, .double b), (4, .int (nI 0)), (5, .int (nI 0))]) rfl ?_
    refine y6_isText hS hT hpe he hb hj hb2 ⟨rfl, rfl⟩ _ 0 _ (Nat.zero_add _) ?_
    first | exact Or.inl ⟨rfl, c7, fun q hq => absurd hq (by omega)⟩ | exact Or.inr ⟨rfl, by unfold isT; rw [Bool.and_eq_false_iff]; left; simpa using c7⟩
  · skip
    refine q_iconst (v := nI 1) dX6_isText_10 rfl ?_
    refine q_goto (tgt := 15) dX6_isText_11 (by decide) ?_
    refine q_istore dX6_isText_15 (by decide) (ls' := [(4, .int (nI 1)), (0, .ref 2), (1, .int (nI p)), (2, .int (nI e)), (3, .double b)]) rfl ?_
    refine q_iconst (v := nI 0) dX6_isText_17 rfl ?_
    refine q_istore dX6_isText_18 (by decide) (ls' := [(5, .int (nI 0)), (4, .int (nI 1)), (0, .ref 2), (1, .int (nI p)), (2, .int (nI e)), (3, .double b)]) rfl ?_
    refine q_pk [2, 3, 4, 5, 1, 0] (ls' := [(0, .ref 2), (1, .int (nI p)), (2, .int (nI e)), (3, .double b), (4, .int (nI 1)), (5, .int (nI 0))]) rfl ?_
    refine y6_isText hS hT hpe he hb hj hb2 ⟨rfl, rfl⟩ _ 0 _ (Nat.zero_add _) ?_
    first | exact Or.inl ⟨rfl, c7, fun q hq => absurd hq (by omega)⟩ | exact Or.inr ⟨rfl, by unfold isT; rw [Bool.and_eq_false_iff]; left; simpa using c7⟩
