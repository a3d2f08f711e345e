/-! Signs and letters. -/
theorem z6_isBlank {g : GG} {σ : HS} {c : Nat} (hc : c < 256) : CT g mX6_isBlank 0 0 0 [.int (nI c)] σ (PQ σ (.int (bi (isBl c)))) := by
  refine CT.of (by decide) (Nat.le_of_ble_eq_true rfl) ?_
  refine q_iload_n dX6_isBlank_0 rfl rfl ?_
  refine q_bipush (v := nI 32) dX6_isBlank_1 rfl ?_
  refine q_icmp_eqN (tgt := 12) dX6_isBlank_3 (by decide) (by omega) (by omega) (fun c3 => ?_) (fun c3 => ?_)
  · skip
    refine q_iconst (v := nI 1) dX6_isBlank_12 rfl ?_
    refine q_goto (tgt := 17) dX6_isBlank_13 (by decide) ?_
    refine q_ireturn dX6_isBlank_17 rfl rfl (by omega) (by omega) ?_
    exact fin_t (by simp [isBl] <;> omega)
  · skip
    refine q_iload_n dX6_isBlank_6 rfl rfl ?_
    refine q_bipush (v := nI 10) dX6_isBlank_7 rfl ?_
    refine q_icmp_neN (tgt := 16) dX6_isBlank_9 (by decide) (by omega) (by omega) (fun c9 => ?_) (fun c9 => ?_)
    · skip
      refine q_iconst (v := nI 0) dX6_isBlank_16 rfl ?_
      refine q_ireturn dX6_isBlank_17 rfl rfl (by omega) (by omega) ?_
      exact fin_f (by simp [isBl] <;> omega)
    · skip
      refine q_iconst (v := nI 1) dX6_isBlank_12 rfl ?_
      refine q_goto (tgt := 17) dX6_isBlank_13 (by decide) ?_
      refine q_ireturn dX6_isBlank_17 rfl rfl (by omega) (by omega) ?_
      exact fin_t (by simp [isBl] <;> omega)
theorem z6_isLetter {g : GG} {σ : HS} {c : Nat} (hc : c < 256) : CT g mX6_isLetter 0 0 0 [.int (nI c)] σ (PQ σ (.int (bi (isLet c)))) := by
  refine CT.of (by decide) (Nat.le_of_ble_eq_true rfl) ?_
  refine q_iload_n dX6_isLetter_0 rfl rfl ?_
  refine q_bipush (v := nI 97) dX6_isLetter_1 rfl ?_
  refine q_icmp_ltN (tgt := 16) dX6_isLetter_3 (by decide) (by omega) (by omega) (fun c3 => ?_) (fun c3 => ?_)
  · skip
    refine q_iconst (v := nI 0) dX6_isLetter_16 rfl ?_
    refine q_ireturn dX6_isLetter_17 rfl rfl (by omega) (by omega) ?_
    exact fin_f (by simp [isLet] <;> omega)
  · skip
    refine q_iload_n dX6_isLetter_6 rfl rfl ?_
    refine q_bipush (v := nI 122) dX6_isLetter_7 rfl ?_
    refine q_icmp_gtN (tgt := 16) dX6_isLetter_9 (by decide) (by omega) (by omega) (fun c9 => ?_) (fun c9 => ?_)
    · skip
      refine q_iconst (v := nI 0) dX6_isLetter_16 rfl ?_
      refine q_ireturn dX6_isLetter_17 rfl rfl (by omega) (by omega) ?_
      exact fin_f (by simp [isLet] <;> omega)
    · skip
      refine q_iconst (v := nI 1) dX6_isLetter_12 rfl ?_
      refine q_goto (tgt := 17) dX6_isLetter_13 (by decide) ?_
      refine q_ireturn dX6_isLetter_17 rfl rfl (by omega) (by omega) ?_
      exact fin_t (by simp [isLet] <;> omega)
theorem z6_isDigit {g : GG} {σ : HS} {c : Nat} (hc : c < 256) : CT g mX6_isDigit 0 0 0 [.int (nI c)] σ (PQ σ (.int (bi (isDig c)))) := by
  refine CT.of (by decide) (Nat.le_of_ble_eq_true rfl) ?_
  refine q_iload_n dX6_isDigit_0 rfl rfl ?_
  refine q_bipush (v := nI 48) dX6_isDigit_1 rfl ?_
  refine q_icmp_ltN (tgt := 16) dX6_isDigit_3 (by decide) (by omega) (by omega) (fun c3 => ?_) (fun c3 => ?_)
  · skip
    refine q_iconst (v := nI 0) dX6_isDigit_16 rfl ?_
    refine q_ireturn dX6_isDigit_17 rfl rfl (by omega) (by omega) ?_
    exact fin_f (by simp [isDig] <;> omega)
  · skip
    refine q_iload_n dX6_isDigit_6 rfl rfl ?_
    refine q_bipush (v := nI 57) dX6_isDigit_7 rfl ?_
    refine q_icmp_gtN (tgt := 16) dX6_isDigit_9 (by decide) (by omega) (by omega) (fun c9 => ?_) (fun c9 => ?_)
    · skip
      refine q_iconst (v := nI 0) dX6_isDigit_16 rfl ?_
      refine q_ireturn dX6_isDigit_17 rfl rfl (by omega) (by omega) ?_
      exact fin_f (by simp [isDig] <;> omega)
    · skip
      refine q_iconst (v := nI 1) dX6_isDigit_12 rfl ?_
      refine q_goto (tgt := 17) dX6_isDigit_13 (by decide) ?_
      refine q_ireturn dX6_isDigit_17 rfl rfl (by omega) (by omega) ?_
      exact fin_t (by simp [isDig] <;> omega)
theorem z9_isLetter {g : GG} {σ : HS} {c : Nat} (hc : c < 256) : CT g mX9_isLetter 0 0 0 [.ref 58, .int (nI c)] σ (PQ σ (.int (bi (isLet c)))) := by
  refine CT.of (by decide) (Nat.le_of_ble_eq_true rfl) ?_
  refine q_iload_n dX9_isLetter_0 rfl rfl ?_
  refine q_bipush (v := nI 97) dX9_isLetter_1 rfl ?_
  refine q_icmp_ltN (tgt := 16) dX9_isLetter_3 (by decide) (by omega) (by omega) (fun c3 => ?_) (fun c3 => ?_)
  · skip
    refine q_iconst (v := nI 0) dX9_isLetter_16 rfl ?_
    refine q_ireturn dX9_isLetter_17 rfl rfl (by omega) (by omega) ?_
    exact fin_f (by simp [isLet] <;> omega)
  · skip
    refine q_iload_n dX9_isLetter_6 rfl rfl ?_
    refine q_bipush (v := nI 122) dX9_isLetter_7 rfl ?_
    refine q_icmp_gtN (tgt := 16) dX9_isLetter_9 (by decide) (by omega) (by omega) (fun c9 => ?_) (fun c9 => ?_)
    · skip
      refine q_iconst (v := nI 0) dX9_isLetter_16 rfl ?_
      refine q_ireturn dX9_isLetter_17 rfl rfl (by omega) (by omega) ?_
      exact fin_f (by simp [isLet] <;> omega)
    · skip
      refine q_iconst (v := nI 1) dX9_isLetter_12 rfl ?_
      refine q_goto (tgt := 17) dX9_isLetter_13 (by decide) ?_
      refine q_ireturn dX9_isLetter_17 rfl rfl (by omega) (by omega) ?_
      exact fin_t (by simp [isLet] <;> omega)
theorem z9_isDigit {g : GG} {σ : HS} {c : Nat} (hc : c < 256) : CT g mX9_isDigit 0 0 0 [.ref 58, .int (nI c)] σ (PQ σ (.int (bi (isDig c)))) := by
  refine CT.of (by decide) (Nat.le_of_ble_eq_true rfl) ?_
  refine q_iload_n dX9_isDigit_0 rfl rfl ?_
  refine q_bipush (v := nI 48) dX9_isDigit_1 rfl ?_
  refine q_icmp_ltN (tgt := 16) dX9_isDigit_3 (by decide) (by omega) (by omega) (fun c3 => ?_) (fun c3 => ?_)
  · skip
    refine q_iconst (v := nI 0) dX9_isDigit_16 rfl ?_
    refine q_ireturn dX9_isDigit_17 rfl rfl (by omega) (by omega) ?_
    exact fin_f (by simp [isDig] <;> omega)
  · skip
    refine q_iload_n dX9_isDigit_6 rfl rfl ?_
    refine q_bipush (v := nI 57) dX9_isDigit_7 rfl ?_
    refine q_icmp_gtN (tgt := 16) dX9_isDigit_9 (by decide) (by omega) (by omega) (fun c9 => ?_) (fun c9 => ?_)
    · skip
      refine q_iconst (v := nI 0) dX9_isDigit_16 rfl ?_
      refine q_ireturn dX9_isDigit_17 rfl rfl (by omega) (by omega) ?_
      exact fin_f (by simp [isDig] <;> omega)
    · skip
      refine q_iconst (v := nI 1) dX9_isDigit_12 rfl ?_
      refine q_goto (tgt := 17) dX9_isDigit_13 (by decide) ?_
      refine q_ireturn dX9_isDigit_17 rfl rfl (by omega) (by omega) ?_
      exact fin_t (by simp [isDig] <;> omega)
/-- static: from i to the letters' end -/
theorem y6_endOfLetters {g : GG} {σ : HS} (hS : SK σ) {L : Nat} {T : Nat → Nat} (hT : CTX σ L T) {p : Nat} (i : Nat) (hi : i ≤ L) {Q : Option Value → HS → Prop} (hQ : Q (some (.int (nI (run isLet T L i)))) σ) : WA g mX6_endOfLetters 1 0 0 (ZM g Q 0 0) 0 0 2 [(0, .ref 2), (1, .int (nI p)), (2, .int (nI i))] [] σ := by
  have hL := hT.1
  have h3 := hT.2.1
  induction hn : L - i using Nat.strongRecOn generalizing i with
  | ind n ih =>
    refine q_iload_n dX6_endOfLetters_2 rfl rfl ?_
    refine q_aload_n dX6_endOfLetters_3 rfl rfl rfl ?_
    refine q_geti (x := nI L) dX6_endOfLetters_4 fX6_25 rfl (ty_c hS (by decide) rfl) hL ?_
    refine q_icmp_geN (tgt := 27) dX6_endOfLetters_7 (by decide) (by omega) (by omega) (fun c7 => ?_) (fun c7 => ?_)
    · skip
      refine q_iload_n dX6_endOfLetters_27 rfl rfl ?_
      refine q_ireturn dX6_endOfLetters_28 rfl rfl (by omega) (by omega) ?_
      first | (rw [run_end (by omega)] at hQ; exact hQ) | (rw [run_stop (by omega) c18] at hQ; exact hQ)
    · skip
      have hb := (hT.2.2 i (by omega)).2
      refine q_aload_n dX6_endOfLetters_10 rfl rfl rfl ?_
      refine q_iload_n dX6_endOfLetters_11 rfl rfl ?_
      refine q_callV (As := [.int (nI i)]) (rest := []) dX6_endOfLetters_12 vX6_30 (ty_c hS (by decide) rfl) ⟨by decide, rfl⟩ (z5_byteAt hS hT (by omega)) rfl rfl (Nat.le_of_ble_eq_true rfl) (by omega) (by omega) (by omega) (k_p ?_)
      refine q_callS (As := [.int (nI (T i))]) (rest := []) dX6_endOfLetters_15 vX6_46 (z6_isLetter (by omega)) rfl rfl (Nat.le_of_ble_eq_true rfl) (by omega) (by omega) (by omega) (k_p ?_)
      refine q_if_eqB (tgt := 27) dX6_endOfLetters_18 (by decide) (fun c18 => ?_) (fun c18 => ?_)
      · skip
        refine q_iload_n dX6_endOfLetters_27 rfl rfl ?_
        refine q_ireturn dX6_endOfLetters_28 rfl rfl (by omega) (by omega) ?_
        first | (rw [run_end (by omega)] at hQ; exact hQ) | (rw [run_stop (by omega) c18] at hQ; exact hQ)
      · skip
        refine q_iincN (c := 1) dX6_endOfLetters_21 rfl (by decide) rfl (ls' := [(2, .int (nI (i + 1))), (0, .ref 2), (1, .int (nI p))]) rfl ?_
        refine q_goto (tgt := 2) dX6_endOfLetters_24 (by decide) ?_
        refine q_pk [1, 2, 0] (ls' := [(0, .ref 2), (1, .int (nI p)), (2, .int (nI (i + 1)))]) rfl ?_
        exact ih (L - (i + 1)) (by omega) (i + 1) (by omega) (by rw [← run_step (by omega) c18]; exact hQ) rfl
theorem z6_endOfLetters {g : GG} {σ : HS} (hS : SK σ) {L : Nat} {T : Nat → Nat} (hT : CTX σ L T) {p : Nat} (hp : p ≤ L) : CT g mX6_endOfLetters 1 0 0 [.ref 2, .int (nI p)] σ (PQ σ (.int (nI (run isLet T L p)))) := by
  refine CT.of (by decide) (Nat.le_of_ble_eq_true rfl) ?_
  refine q_iload_n dX6_endOfLetters_0 rfl rfl ?_
  refine q_istore_n dX6_endOfLetters_1 rfl (by decide) (ls' := [(2, .int (nI p)), (0, .ref 2), (1, .int (nI p))]) rfl ?_
  refine q_pk [1, 2, 0] (ls' := [(0, .ref 2), (1, .int (nI p)), (2, .int (nI p))]) rfl ?_
  exact y6_endOfLetters hS hT p hp ⟨rfl, rfl⟩
