/-! Class Writer: digits, operands, SUMS. -/
/-- an operand as a text -/
def opT (o : Int32) : List Nat := if nI 1000000016 ≤ o then 116 :: numT (o - nI 1000000000 - nI 16).toNatClampNeg else if nI 1000000000 ≤ o then 118 :: numT (o - nI 1000000000).toNatClampNeg else if o < 0 then 45 :: numT (-o).toNatClampNeg else numT o.toNatClampNeg
def plT (w : Nat) (o : Int32) : List Nat := (114 :: numT w) ++ stX 9 ++ opT o ++ stX 10
def smT (x : SUM) : List Nat := if x.1 = nI 114 then plT x.2.1.toNatClampNeg x.2.2 else opT x.2.1 ++ [32] ++ [x.1.toNatClampNeg] ++ [32] ++ opT x.2.2
def hdT (b : Nat) : List Nat := (98 :: numT b) ++ stX 6
theorem dk_1 (n : Nat) : dk n 0 = [48 + n / 10 ^ 0 % 10] := rfl
theorem dk_s (n k : Nat) : dk n (k + 1) = (48 + n / 10 ^ (k + 1) % 10) :: dk n k := rfl
section DIG
variable {g : GG} {σ : HS}
theorem y7_digE {σ0 σ : HS} {n i : Nat} {W : List Nat} (hi : i < 100) (h1 : Fr [55, 56] σ0 σ) (h2 : BFw σ W) : WA g mX7_putDigits 1 0 0 (ZM g (WPQ σ0 W) 0 0) 0 0 31 [(0, .ref 55), (1, .int (nI n)), (2, .int (nI 0)), (3, .int (nI i))] [] σ := by
  refine q_iload_n dX7_putDigits_31 rfl rfl ?_
  refine q_bipush (v := nI 10) dX7_putDigits_32 rfl ?_
  refine q_icmp_geN (tgt := 65) dX7_putDigits_34 (by decide) (by omega) (by omega) (fun c34 => ?_) (fun c34 => ?_)
  · skip
    refine q_return dX7_putDigits_65 rfl (by omega) (by omega) ?_
    exact ⟨rfl, h1, h2⟩
  · skip
    refine q_iload_n dX7_putDigits_37 rfl rfl ?_
    refine q_if_leN (tgt := 65) dX7_putDigits_38 (by decide) (by omega) (fun _ => ?_) (fun h => absurd h (by decide))
    refine q_return dX7_putDigits_65 rfl (by omega) (by omega) ?_
    exact ⟨rfl, h1, h2⟩
theorem y7_dig2 {σ0 : HS} (hS0 : SK σ0) {n m0 : Nat} (hn : n < 2147483648) (hm0 : m0 ≤ 9) : ∀ (m i : Nat) (W : List Nat) (σ : HS), i + m = m0 → Fr [55, 56] σ0 σ → BFw σ W → WA g mX7_putDigits 1 0 0 (ZM g (WPQ σ0 (W ++ dk n m)) 0 0) 0 0 31 [(0, .ref 55), (1, .int (nI n)), (2, .int (nI (10 ^ m))), (3, .int (nI i))] [] σ := by
  intro m
  induction m with
  | zero =>
    intro i W σ hi h1 h2
    have hS := SK.fr h1 hS0
    have hc : 48 + n / 1 % 10 < 128 := by omega
    refine q_iload_n dX7_putDigits_31 rfl rfl ?_
    refine q_bipush (v := nI 10) dX7_putDigits_32 rfl ?_
    refine q_icmp_geN (tgt := 65) dX7_putDigits_34 (by decide) (by omega) (by omega) (fun c34 => ?_) (fun c34 => ?_)
    · exact absurd c34 (by omega)
    · skip
      refine q_iload_n dX7_putDigits_37 rfl rfl ?_
      refine q_if_leN (tgt := 65) dX7_putDigits_38 (by decide) (by omega) (fun h => absurd h (by decide)) (fun _ => ?_)
      refine q_aload_n dX7_putDigits_41 rfl rfl rfl ?_
      refine q_bipush (v := nI 48) dX7_putDigits_42 rfl ?_
      refine q_iload_n dX7_putDigits_44 rfl rfl ?_
      refine q_iload_n dX7_putDigits_45 rfl rfl ?_
      refine q_idiv dX7_putDigits_46 (by decide) ?_
      refine q_top (y := nI (n / 1)) (nI_divN (by omega) (by omega)) ?_
      refine q_bipush (v := nI 10) dX7_putDigits_47 rfl ?_
      refine q_irem dX7_putDigits_49 (by decide) ?_
      refine q_top (y := nI (n / 1 % 10)) (nI_remN (by omega) (by omega)) ?_
      refine q_iaddN dX7_putDigits_50 ?_
      refine q_callV (As := [.int (nI (48 + (n / 1 % 10)))]) (rest := []) dX7_putDigits_51 vX7_138 (ty_c hS (by decide) rfl) ⟨by decide, rfl⟩ (z7_put hS h2 hc) rfl rfl (Nat.le_of_ble_eq_true rfl) (by omega) (by omega) (by omega) (k_v (fun s51 q51 => ?_))
      have h3 := h1.tr q51.1 (fun _ h => h)
      have hS2 := SK.fr h3 hS0
      refine q_iload_n dX7_putDigits_54 rfl rfl ?_
      refine q_bipush (v := nI 10) dX7_putDigits_55 rfl ?_
      refine q_idiv dX7_putDigits_57 (by decide) ?_
      refine q_top (y := nI 0) rfl ?_
      refine q_istore_n dX7_putDigits_58 rfl (by decide) (ls' := [(2, .int (nI 0)), (0, .ref 55), (1, .int (nI n)), (3, .int (nI i))]) rfl ?_
      refine q_iincN (c := 1) dX7_putDigits_59 rfl (by decide) rfl (ls' := [(3, .int (nI (i + 1))), (2, .int (nI 0)), (0, .ref 55), (1, .int (nI n))]) rfl ?_
      refine q_goto (tgt := 31) dX7_putDigits_62 (by decide) ?_
      refine q_pk [2, 3, 1, 0] (ls' := [(0, .ref 55), (1, .int (nI n)), (2, .int (nI 0)), (3, .int (nI (i + 1)))]) rfl ?_
      exact y7_digE (by omega) h3 q51.2
  | succ m ih =>
    intro i W σ hi h1 h2
    have hS := SK.fr h1 hS0
    have hp : 10 ^ (m + 1) ≤ 1000000000 := by
      have := Nat.pow_le_pow_right (n := 10) (by omega) (show m + 1 ≤ 9 by omega)
      exact this
    have hp1 : 10 ^ (m + 1) = 10 ^ m * 10 := Nat.pow_succ 10 m
    have hp0 : 1 ≤ 10 ^ m := Nat.pos_of_ne_zero (fun h => by simp at h)
    have hd : n / 10 ^ (m + 1) < 2147483648 := Nat.lt_of_le_of_lt (Nat.div_le_self _ _) hn
    have hc : 48 + n / 10 ^ (m + 1) % 10 < 128 := by omega
    rw [dk_s]
    have e2 : 10 ^ (m + 1) / 10 = 10 ^ m := by rw [hp1]; exact Nat.mul_div_cancel _ (by omega)
    rw [show W ++ (48 + n / 10 ^ (m + 1) % 10) :: dk n m = (W ++ [48 + n / 10 ^ (m + 1) % 10]) ++ dk n m by rw [List.append_assoc]; rfl]
    generalize 10 ^ (m + 1) = P at *
    refine q_iload_n dX7_putDigits_31 rfl rfl ?_
    refine q_bipush (v := nI 10) dX7_putDigits_32 rfl ?_
    refine q_icmp_geN (tgt := 65) dX7_putDigits_34 (by decide) (by omega) (by omega) (fun c34 => ?_) (fun c34 => ?_)
    · exact absurd c34 (by omega)
    · skip
      refine q_iload_n dX7_putDigits_37 rfl rfl ?_
      refine q_if_leN (tgt := 65) dX7_putDigits_38 (by decide) (by omega) (fun c38 => ?_) (fun c38 => ?_)
      · exact absurd c38 (by omega)
      · skip
        refine q_aload_n dX7_putDigits_41 rfl rfl rfl ?_
        refine q_bipush (v := nI 48) dX7_putDigits_42 rfl ?_
        refine q_iload_n dX7_putDigits_44 rfl rfl ?_
        refine q_iload_n dX7_putDigits_45 rfl rfl ?_
        refine q_idiv dX7_putDigits_46 (nI_ne0 (by omega) (by omega)) ?_
        refine q_top (y := nI (n / P)) (nI_divN (by omega) (by omega)) ?_
        refine q_bipush (v := nI 10) dX7_putDigits_47 rfl ?_
        refine q_irem dX7_putDigits_49 (by decide) ?_
        refine q_top (y := nI (n / P % 10)) (nI_remN (by omega) (by omega)) ?_
        refine q_iaddN dX7_putDigits_50 ?_
        refine q_callV (As := [.int (nI (48 + (n / P % 10)))]) (rest := []) dX7_putDigits_51 vX7_138 (ty_c hS (by decide) rfl) ⟨by decide, rfl⟩ (z7_put hS h2 hc) rfl rfl (Nat.le_of_ble_eq_true rfl) (by omega) (by omega) (by omega) (k_v (fun s51 q51 => ?_))
        have h3 := h1.tr q51.1 (fun _ h => h)
        have hS2 := SK.fr h3 hS0
        refine q_iload_n dX7_putDigits_54 rfl rfl ?_
        refine q_bipush (v := nI 10) dX7_putDigits_55 rfl ?_
        refine q_idiv dX7_putDigits_57 (by decide) ?_
        refine q_top (y := nI (10 ^ m)) ((nI_divN (by omega) (by omega)).trans (by rw [e2])) ?_
        refine q_istore_n dX7_putDigits_58 rfl (by decide) (ls' := [(2, .int (nI (10 ^ m))), (0, .ref 55), (1, .int (nI n)), (3, .int (nI i))]) rfl ?_
        refine q_iincN (c := 1) dX7_putDigits_59 rfl (by decide) rfl (ls' := [(3, .int (nI (i + 1))), (2, .int (nI (10 ^ m))), (0, .ref 55), (1, .int (nI n))]) rfl ?_
        refine q_goto (tgt := 31) dX7_putDigits_62 (by decide) ?_
        refine q_pk [2, 3, 1, 0] (ls' := [(0, .ref 55), (1, .int (nI n)), (2, .int (nI (10 ^ m))), (3, .int (nI (i + 1)))]) rfl ?_
        exact ih (i + 1) _ _ (by omega) h3 q51.2
theorem y7_dig1 (hS : SK σ) {W : List Nat} (hW : BFw σ W) {n : Nat} (hn : n < 2147483648) : ∀ (k i : Nat), i + k = lg n → WA g mX7_putDigits 1 0 0 (ZM g (WPQ σ (W ++ numT n)) 0 0) 0 0 4 [(0, .ref 55), (1, .int (nI n)), (2, .int (nI (10 ^ i))), (3, .int (nI i))] [] σ := by
  obtain ⟨l1, l2, l3⟩ := lg_ok hn
  have hp : ∀ i, i ≤ 9 → 10 ^ i ≤ 1000000000 := fun i hi => Nat.pow_le_pow_right (n := 10) (by omega) hi
  have hp0 : ∀ i, 1 ≤ 10 ^ i := fun i => Nat.pos_of_ne_zero (fun h => by simp at h)
  intro k
  induction k with
  | zero =>
    intro i hi
    have hpi := hp i (by omega)
    have hpj := hp0 i
    have hd : n / 10 ^ i < 2147483648 := Nat.lt_of_le_of_lt (Nat.div_le_self _ _) hn
    have h9 : n / 10 ^ i ≤ 9 := by rw [show i = lg n by omega]; exact l2
    have fin := y7_dig2 (g := g) hS hn l1 (lg n) 0 W σ (by omega) Fr.rf hW
    have hii : i = lg n := by omega
    rw [← hii] at fin
    have fin2 : WA g mX7_putDigits 1 0 0 (ZM g (WPQ σ (W ++ numT n)) 0 0) 0 0 31 [(0, .ref 55), (1, .int (nI n)), (2, .int (nI (10 ^ i))), (3, .int (nI 0))] [] σ := by
      unfold numT; rw [← hii]; exact fin
    clear fin hii
    generalize 10 ^ i = P at *
    refine q_iload_n dX7_putDigits_4 rfl rfl ?_
    refine q_bipush (v := nI 9) dX7_putDigits_5 rfl ?_
    refine q_icmp_geN (tgt := 29) dX7_putDigits_7 (by decide) (by omega) (by omega) (fun c7 => ?_) (fun c7 => ?_)
    · skip
      refine q_iconst (v := nI 0) dX7_putDigits_29 rfl ?_
      refine q_istore_n dX7_putDigits_30 rfl (by decide) (ls' := [(3, .int (nI 0)), (0, .ref 55), (1, .int (nI n)), (2, .int (nI P))]) rfl ?_
      refine q_pk [1, 2, 3, 0] (ls' := [(0, .ref 55), (1, .int (nI n)), (2, .int (nI P)), (3, .int (nI 0))]) rfl ?_
      exact fin2
    · skip
      refine q_iload_n dX7_putDigits_10 rfl rfl ?_
      refine q_iload_n dX7_putDigits_11 rfl rfl ?_
      refine q_idiv dX7_putDigits_12 (nI_ne0 (by omega) (by omega)) ?_
      refine q_top (y := nI (n / P)) (nI_divN (by omega) (by omega)) ?_
      refine q_bipush (v := nI 9) dX7_putDigits_13 rfl ?_
      refine q_icmp_leN (tgt := 29) dX7_putDigits_15 (by decide) (by omega) (by omega) (fun c15 => ?_) (fun c15 => ?_)
      · skip
        refine q_iconst (v := nI 0) dX7_putDigits_29 rfl ?_
        refine q_istore_n dX7_putDigits_30 rfl (by decide) (ls' := [(3, .int (nI 0)), (0, .ref 55), (1, .int (nI n)), (2, .int (nI P))]) rfl ?_
        refine q_pk [1, 2, 3, 0] (ls' := [(0, .ref 55), (1, .int (nI n)), (2, .int (nI P)), (3, .int (nI 0))]) rfl ?_
        exact fin2
      · exact absurd c15 (by omega)
  | succ k ih =>
    intro i hi
    have hpi := hp i (by omega)
    have hpj := hp0 i
    have hd : n / 10 ^ i < 2147483648 := Nat.lt_of_le_of_lt (Nat.div_le_self _ _) hn
    have h9 := l3 i (by omega)
    have hI := ih (i + 1) (by omega)
    rw [Nat.pow_succ] at hI
    generalize 10 ^ i = P at *
    refine q_iload_n dX7_putDigits_4 rfl rfl ?_
    refine q_bipush (v := nI 9) dX7_putDigits_5 rfl ?_
    refine q_icmp_geN (tgt := 29) dX7_putDigits_7 (by decide) (by omega) (by omega) (fun c7 => ?_) (fun c7 => ?_)
    · exact absurd c7 (by omega)
    · skip
      refine q_iload_n dX7_putDigits_10 rfl rfl ?_
      refine q_iload_n dX7_putDigits_11 rfl rfl ?_
      refine q_idiv dX7_putDigits_12 (nI_ne0 (by omega) (by omega)) ?_
      refine q_top (y := nI (n / P)) (nI_divN (by omega) (by omega)) ?_
      refine q_bipush (v := nI 9) dX7_putDigits_13 rfl ?_
      refine q_icmp_leN (tgt := 29) dX7_putDigits_15 (by decide) (by omega) (by omega) (fun c15 => ?_) (fun c15 => ?_)
      · exact absurd c15 (by omega)
      · skip
        refine q_iload_n dX7_putDigits_18 rfl rfl ?_
        refine q_bipush (v := nI 10) dX7_putDigits_19 rfl ?_
        refine q_imulN dX7_putDigits_21 ?_
        refine q_istore_n dX7_putDigits_22 rfl (by decide) (ls' := [(2, .int (nI (P * 10))), (0, .ref 55), (1, .int (nI n)), (3, .int (nI i))]) rfl ?_
        refine q_iincN (c := 1) dX7_putDigits_23 rfl (by decide) rfl (ls' := [(3, .int (nI (i + 1))), (2, .int (nI (P * 10))), (0, .ref 55), (1, .int (nI n))]) rfl ?_
        refine q_goto (tgt := 4) dX7_putDigits_26 (by decide) ?_
        refine q_pk [2, 3, 1, 0] (ls' := [(0, .ref 55), (1, .int (nI n)), (2, .int (nI (P * 10))), (3, .int (nI (i + 1)))]) rfl ?_
        exact hI
theorem z7_digits (hS : SK σ) {W : List Nat} (hW : BFw σ W) {n : Nat} (hn : n < 2147483648) : CT g mX7_putDigits 1 0 0 [.ref 55, .int (nI n)] σ (WPQ σ (W ++ numT n)) := by
  refine CT.of (by decide) (Nat.le_of_ble_eq_true rfl) ?_
  refine q_iconst (v := nI 1) dX7_putDigits_0 rfl ?_
  refine q_istore_n dX7_putDigits_1 rfl (by decide) (ls' := [(2, .int (nI 1)), (0, .ref 55), (1, .int (nI n))]) rfl ?_
  refine q_iconst (v := nI 0) dX7_putDigits_2 rfl ?_
  refine q_istore_n dX7_putDigits_3 rfl (by decide) (ls' := [(3, .int (nI 0)), (2, .int (nI 1)), (0, .ref 55), (1, .int (nI n))]) rfl ?_
  refine q_pk [2, 3, 1, 0] (ls' := [(0, .ref 55), (1, .int (nI n)), (2, .int (nI 1)), (3, .int (nI 0))]) rfl ?_
  exact y7_dig1 hS hW hn (lg n) 0 (by omega)
theorem z7_numbered (hS : SK σ) {W : List Nat} (hW : BFw σ W) {c n : Nat} (hc : c < 128) (hn : n < 2147483648) : CT g mX7_putNumbered 2 0 0 [.ref 55, .int (nI c), .int (nI n)] σ (WPQ σ (W ++ (c :: numT n))) := by
  refine CT.of (by decide) (Nat.le_of_ble_eq_true rfl) ?_
  refine q_aload_n dX7_putNumbered_0 rfl rfl rfl ?_
  refine q_iload_n dX7_putNumbered_1 rfl rfl ?_
  refine q_callV (As := [.int (nI c)]) (rest := []) dX7_putNumbered_2 vX7_138 (ty_c hS (by decide) rfl) ⟨by decide, rfl⟩ (z7_put hS hW hc) rfl rfl (Nat.le_of_ble_eq_true rfl) (by omega) (by omega) (by omega) (k_v (fun s2 q2 => ?_))
  have k2 := q2.1
  have hS2 := SK.fr k2 hS
  refine q_aload_n dX7_putNumbered_5 rfl rfl rfl ?_
  refine q_iload_n dX7_putNumbered_6 rfl rfl ?_
  refine q_callV (As := [.int (nI n)]) (rest := []) dX7_putNumbered_7 vX7_168 (ty_c hS2 (by decide) rfl) ⟨by decide, rfl⟩ (z7_digits hS2 q2.2 hn) rfl rfl (Nat.le_of_ble_eq_true rfl) (by omega) (by omega) (by omega) (k_v (fun s7 q7 => ?_))
  have k7 := k2.tr q7.1 (fun _ h => h)
  have hS7 := SK.fr k7 hS
  refine q_return dX7_putNumbered_10 rfl (by omega) (by omega) ?_
  exact ⟨rfl, k7, by simpa only [List.append_assoc, List.cons_append, List.nil_append, List.singleton_append] using q7.2⟩
theorem z7_operand (hS : SK σ) {W : List Nat} (hW : BFw σ W) {o : Int32} (ho : OPD o) : CT g mX7_putOperand 2 0 0 [.ref 55, .int o] σ (WPQ σ (W ++ opT o)) := by
  rcases ho with ⟨v, h1, rfl⟩ | ⟨v, h1, rfl⟩ | ⟨v, h1, rfl⟩
  · have e1 : ¬ nI 1000000016 ≤ nI v := by rw [nI_leI (by omega) (by omega)]; omega
    have e2 := (opV_n (nm := fun _ => 0) h1).1
    have e3 : ¬ nI v < 0 := nI_pos (by omega)
    have eT : opT (nI v) = numT v := by unfold opT; rw [if_neg e1, if_neg e2, if_neg e3, nI_clamp (by omega)]
    rw [eT]
    refine CT.of (by decide) (Nat.le_of_ble_eq_true rfl) ?_
    refine q_iload_n dX7_putOperand_0 rfl rfl ?_
    refine q_istore_n dX7_putOperand_1 rfl (by decide) (ls' := [(2, .int (nI v)), (0, .ref 55), (1, .int (nI v))]) rfl ?_
    refine q_iload_n dX7_putOperand_2 rfl rfl ?_
    refine q_ldc (v := nI 1000000016) dX7_putOperand_3 kX7_164 ?_
    refine q_icmp_ltN (tgt := 25) dX7_putOperand_5 (by decide) (by omega) (by omega) (fun c5 => ?_) (fun c5 => ?_)
    · skip
      refine q_iload_n dX7_putOperand_25 rfl rfl ?_
      refine q_callSN (As := [.int (nI v)]) (rest := []) dX7_putOperand_26 vX7_165 (z8_isName) rfl rfl (Nat.le_of_ble_eq_true rfl) (by omega) (by omega) (by omega) (k_p ?_)
      refine q_if_eqB (tgt := 46) dX7_putOperand_29 (by decide) (fun c29 => ?_) (fun c29 => ?_)
      · skip
        refine q_iload_n dX7_putOperand_46 rfl rfl ?_
        refine q_if_geN (tgt := 59) dX7_putOperand_47 (by decide) (by omega) ?_
        refine q_aload_n dX7_putOperand_59 rfl rfl rfl ?_
        refine q_iload_n dX7_putOperand_60 rfl rfl ?_
        refine q_callV (As := [.int (nI v)]) (rest := []) dX7_putOperand_61 vX7_168 (ty_c hS (by decide) rfl) ⟨by decide, rfl⟩ (z7_digits hS hW (by omega)) rfl rfl (Nat.le_of_ble_eq_true rfl) (by omega) (by omega) (by omega) (k_v (fun s61 q61 => ?_))
        refine q_return dX7_putOperand_64 rfl (by omega) (by omega) ?_
        exact ⟨rfl, q61⟩
      · exact absurd (of_decide_eq_true c29) e2
    · exact absurd c5 (by omega)
  · have e2 := (opV_m (nm := fun _ => 0) h1).1
    by_cases hz : v = 0
    · subst hz
      have eT : opT (-(nI 0)) = numT 0 := by decide +kernel
      rw [eT]
      refine CT.of (by decide) (Nat.le_of_ble_eq_true rfl) ?_
      refine q_iload_n dX7_putOperand_0 rfl rfl ?_
      refine q_istore_n dX7_putOperand_1 rfl (by decide) (ls' := [(2, .int (nI 0)), (0, .ref 55), (1, .int (nI 0))]) rfl ?_
      refine q_iload_n dX7_putOperand_2 rfl rfl ?_
      refine q_ldc (v := nI 1000000016) dX7_putOperand_3 kX7_164 ?_
      refine q_icmp_ltN (tgt := 25) dX7_putOperand_5 (by decide) (by omega) (by omega) (fun _ => ?_) (fun h => absurd h (by decide))
      refine q_iload_n dX7_putOperand_25 rfl rfl ?_
      refine q_callSN (As := [.int (nI 0)]) (rest := []) dX7_putOperand_26 vX7_165 (z8_isName) rfl rfl (Nat.le_of_ble_eq_true rfl) (by omega) (by omega) (by omega) (k_p ?_)
      refine q_if_eqB (tgt := 46) dX7_putOperand_29 (by decide) (fun c29 => ?_) (fun c29 => ?_)
      · skip
        refine q_iload_n dX7_putOperand_46 rfl rfl ?_
        refine q_if_geN (tgt := 59) dX7_putOperand_47 (by decide) (by omega) ?_
        refine q_aload_n dX7_putOperand_59 rfl rfl rfl ?_
        refine q_iload_n dX7_putOperand_60 rfl rfl ?_
        refine q_callV (As := [.int (nI 0)]) (rest := []) dX7_putOperand_61 vX7_168 (ty_c hS (by decide) rfl) ⟨by decide, rfl⟩ (z7_digits hS hW (by omega)) rfl rfl (Nat.le_of_ble_eq_true rfl) (by omega) (by omega) (by omega) (k_v (fun s61 q61 => ?_))
        refine q_return dX7_putOperand_64 rfl (by omega) (by omega) ?_
        exact ⟨rfl, q61⟩
      · exact absurd (of_decide_eq_true c29) e2
    · have e1 : ¬ nI 1000000016 ≤ -(nI v) := fun z => e2 (Int32.le_trans (by decide) z)
      have e3 : -(nI v) < 0 := by
        rw [Int32.lt_iff_toInt_lt, Int32.toInt_neg, nI_toInt (by omega)]
        have : (-(v : Int)).bmod 4294967296 = -(v : Int) := by rw [Int.bmod_def]; split <;> omega
        rw [show (2 : Nat) ^ 32 = 4294967296 by decide, this, Int32.toInt_zero]
        omega
      have eT : opT (-(nI v)) = 45 :: numT v := by unfold opT; rw [if_neg e1, if_neg e2, if_pos e3, Int32.neg_neg, nI_clamp (by omega)]
      rw [eT]
      refine CT.of (by decide) (Nat.le_of_ble_eq_true rfl) ?_
      refine q_iload_n dX7_putOperand_0 rfl rfl ?_
      refine q_istore_n dX7_putOperand_1 rfl (by decide) (ls' := [(2, .int (-(nI v))), (0, .ref 55), (1, .int (-(nI v)))]) rfl ?_
      refine q_iload_n dX7_putOperand_2 rfl rfl ?_
      refine q_ldc (v := nI 1000000016) dX7_putOperand_3 kX7_164 ?_
      refine q_icmp_lt (tgt := 25) dX7_putOperand_5 (by decide) (fun c5 => ?_) (fun c5 => ?_)
      · skip
        refine q_iload_n dX7_putOperand_25 rfl rfl ?_
        refine q_callSN (As := [.int (-(nI v))]) (rest := []) dX7_putOperand_26 vX7_165 (z8_isName) rfl rfl (Nat.le_of_ble_eq_true rfl) (by omega) (by omega) (by omega) (k_p ?_)
        refine q_if_eqB (tgt := 46) dX7_putOperand_29 (by decide) (fun c29 => ?_) (fun c29 => ?_)
        · skip
          refine q_iload_n dX7_putOperand_46 rfl rfl ?_
          refine q_if_ge (tgt := 59) dX7_putOperand_47 (by decide) (fun c47 => ?_) (fun c47 => ?_)
          · exact absurd e3 (Int32.not_lt.mpr c47)
          · skip
            refine q_aload_n dX7_putOperand_50 rfl rfl rfl ?_
            refine q_bipush (v := nI 45) dX7_putOperand_51 rfl ?_
            refine q_callV (As := [.int (nI 45)]) (rest := []) dX7_putOperand_53 vX7_138 (ty_c hS (by decide) rfl) ⟨by decide, rfl⟩ (z7_put hS hW (by omega)) rfl rfl (Nat.le_of_ble_eq_true rfl) (by omega) (by omega) (by omega) (k_v (fun s53 q53 => ?_))
            have hS2 := SK.fr q53.1 hS
            refine q_iload_n dX7_putOperand_56 rfl rfl ?_
            refine q_ineg dX7_putOperand_57 ?_
            refine q_top (y := nI v) Int32.neg_neg ?_
            refine q_istore_n dX7_putOperand_58 rfl (by decide) (ls' := [(2, .int (nI v)), (0, .ref 55), (1, .int (-(nI v)))]) rfl ?_
            refine q_aload_n dX7_putOperand_59 rfl rfl rfl ?_
            refine q_iload_n dX7_putOperand_60 rfl rfl ?_
            refine q_callV (As := [.int (nI v)]) (rest := []) dX7_putOperand_61 vX7_168 (ty_c hS2 (by decide) rfl) ⟨by decide, rfl⟩ (z7_digits hS2 q53.2 (n := v) (by omega)) rfl rfl (Nat.le_of_ble_eq_true rfl) (by omega) (by omega) (by omega) (k_v (fun s61 q61 => ?_))
            refine q_return dX7_putOperand_64 rfl (by omega) (by omega) ?_
            exact ⟨rfl, q53.1.tr q61.1 (fun _ h => h), by simpa only [List.append_assoc, List.singleton_append] using q61.2⟩
        · exact absurd (of_decide_eq_true c29) e2
      · exact absurd (Int32.not_lt.mp c5) e1
  · have e2 := (opV_nm (nm := fun _ => 0) h1).1
    by_cases h16 : 16 ≤ v
    · have e1 : nI 1000000016 ≤ nI (1000000000 + v) := nI_le (by omega) (by omega)
      have es : nI (1000000000 + v) - nI 1000000000 - nI 16 = nI (v - 16) := by rw [nI_subN (by omega), nI_subN (by omega)]; exact congrArg nI (by omega)
      have eT : opT (nI (1000000000 + v)) = 116 :: numT (v - 16) := by unfold opT; rw [if_pos e1, es, nI_clamp (by omega)]
      rw [eT]
      refine CT.of (by decide) (Nat.le_of_ble_eq_true rfl) ?_
      refine q_iload_n dX7_putOperand_0 rfl rfl ?_
      refine q_istore_n dX7_putOperand_1 rfl (by decide) (ls' := [(2, .int (nI (1000000000 + v))), (0, .ref 55), (1, .int (nI (1000000000 + v)))]) rfl ?_
      refine q_iload_n dX7_putOperand_2 rfl rfl ?_
      refine q_ldc (v := nI 1000000016) dX7_putOperand_3 kX7_164 ?_
      refine q_icmp_ltN (tgt := 25) dX7_putOperand_5 (by decide) (by omega) (by omega) (fun c5 => ?_) (fun c5 => ?_)
      · exact absurd c5 (by omega)
      · skip
        refine q_aload_n dX7_putOperand_8 rfl rfl rfl ?_
        refine q_bipush (v := nI 116) dX7_putOperand_9 rfl ?_
        refine q_callV (As := [.int (nI 116)]) (rest := []) dX7_putOperand_11 vX7_138 (ty_c hS (by decide) rfl) ⟨by decide, rfl⟩ (z7_put hS hW (by omega)) rfl rfl (Nat.le_of_ble_eq_true rfl) (by omega) (by omega) (by omega) (k_v (fun s11 q11 => ?_))
        have hS2 := SK.fr q11.1 hS
        refine q_iload_n dX7_putOperand_14 rfl rfl ?_
        refine q_ldc (v := nI 1000000000) dX7_putOperand_15 kX7_133 ?_
        refine q_isubN dX7_putOperand_17 (by omega) ?_
        refine q_bipush (v := nI 16) dX7_putOperand_18 rfl ?_
        refine q_isubN dX7_putOperand_20 (by omega) ?_
        refine q_top (y := nI (v - 16)) (congrArg nI (by omega)) ?_
        refine q_istore_n dX7_putOperand_21 rfl (by decide) (ls' := [(2, .int (nI (v - 16))), (0, .ref 55), (1, .int (nI (1000000000 + v)))]) rfl ?_
        refine q_goto (tgt := 59) dX7_putOperand_22 (by decide) ?_
        refine q_aload_n dX7_putOperand_59 rfl rfl rfl ?_
        refine q_iload_n dX7_putOperand_60 rfl rfl ?_
        refine q_callV (As := [.int (nI (v - 16))]) (rest := []) dX7_putOperand_61 vX7_168 (ty_c hS2 (by decide) rfl) ⟨by decide, rfl⟩ (z7_digits hS2 q11.2 (n := v - 16) (by omega)) rfl rfl (Nat.le_of_ble_eq_true rfl) (by omega) (by omega) (by omega) (k_v (fun s61 q61 => ?_))
        refine q_return dX7_putOperand_64 rfl (by omega) (by omega) ?_
        exact ⟨rfl, q11.1.tr q61.1 (fun _ h => h), by simpa only [List.append_assoc, List.singleton_append] using q61.2⟩
    · have e1 : ¬ nI 1000000016 ≤ nI (1000000000 + v) := by rw [nI_leI (by omega) (by omega)]; omega
      have eT : opT (nI (1000000000 + v)) = 118 :: numT v := by unfold opT; rw [if_neg e1, if_pos e2, nI_subN (by omega), nI_clamp (by omega)]; exact congrArg (fun z => 118 :: numT z) (by omega)
      rw [eT]
      refine CT.of (by decide) (Nat.le_of_ble_eq_true rfl) ?_
      refine q_iload_n dX7_putOperand_0 rfl rfl ?_
      refine q_istore_n dX7_putOperand_1 rfl (by decide) (ls' := [(2, .int (nI (1000000000 + v))), (0, .ref 55), (1, .int (nI (1000000000 + v)))]) rfl ?_
      refine q_iload_n dX7_putOperand_2 rfl rfl ?_
      refine q_ldc (v := nI 1000000016) dX7_putOperand_3 kX7_164 ?_
      refine q_icmp_ltN (tgt := 25) dX7_putOperand_5 (by decide) (by omega) (by omega) (fun c5 => ?_) (fun c5 => ?_)
      · skip
        refine q_iload_n dX7_putOperand_25 rfl rfl ?_
        refine q_callSN (As := [.int (nI (1000000000 + v))]) (rest := []) dX7_putOperand_26 vX7_165 (z8_isName) rfl rfl (Nat.le_of_ble_eq_true rfl) (by omega) (by omega) (by omega) (k_p ?_)
        refine q_if_eqB (tgt := 46) dX7_putOperand_29 (by decide) (fun c29 => ?_) (fun c29 => ?_)
        · exact absurd e2 (of_decide_eq_false c29)
        · skip
          refine q_aload_n dX7_putOperand_32 rfl rfl rfl ?_
          refine q_bipush (v := nI 118) dX7_putOperand_33 rfl ?_
          refine q_callV (As := [.int (nI 118)]) (rest := []) dX7_putOperand_35 vX7_138 (ty_c hS (by decide) rfl) ⟨by decide, rfl⟩ (z7_put hS hW (by omega)) rfl rfl (Nat.le_of_ble_eq_true rfl) (by omega) (by omega) (by omega) (k_v (fun s35 q35 => ?_))
          have hS2 := SK.fr q35.1 hS
          refine q_iload_n dX7_putOperand_38 rfl rfl ?_
          refine q_ldc (v := nI 1000000000) dX7_putOperand_39 kX7_133 ?_
          refine q_isubN dX7_putOperand_41 (by omega) ?_
          refine q_top (y := nI v) (congrArg nI (by omega)) ?_
          refine q_istore_n dX7_putOperand_42 rfl (by decide) (ls' := [(2, .int (nI v)), (0, .ref 55), (1, .int (nI (1000000000 + v)))]) rfl ?_
          refine q_goto (tgt := 59) dX7_putOperand_43 (by decide) ?_
          refine q_aload_n dX7_putOperand_59 rfl rfl rfl ?_
          refine q_iload_n dX7_putOperand_60 rfl rfl ?_
          refine q_callV (As := [.int (nI v)]) (rest := []) dX7_putOperand_61 vX7_168 (ty_c hS2 (by decide) rfl) ⟨by decide, rfl⟩ (z7_digits hS2 q35.2 (n := v) (by omega)) rfl rfl (Nat.le_of_ble_eq_true rfl) (by omega) (by omega) (by omega) (k_v (fun s61 q61 => ?_))
          refine q_return dX7_putOperand_64 rfl (by omega) (by omega) ?_
          exact ⟨rfl, q35.1.tr q61.1 (fun _ h => h), by simpa only [List.append_assoc, List.singleton_append] using q61.2⟩
      · exact absurd c5 (by omega)
theorem z7_place (hS : SK σ) {W : List Nat} (hW : BFw σ W) {n : Nat} (hn : n < 2147483648) {o : Int32} (ho : OPD o) : CT g mX7_putPlace 6 0 0 [.ref 55, .int (nI n), .int o] σ (WPQ σ (W ++ plT n o)) := by
  refine CT.of (by decide) (Nat.le_of_ble_eq_true rfl) ?_
  refine q_aload_n dX7_putPlace_0 rfl rfl rfl ?_
  refine q_bipush (v := nI 114) dX7_putPlace_1 rfl ?_
  refine q_iload_n dX7_putPlace_3 rfl rfl ?_
  refine q_callV (As := [.int (nI 114), .int (nI n)]) (rest := []) dX7_putPlace_4 vX7_66 (ty_c hS (by decide) rfl) ⟨by decide, rfl⟩ (z7_numbered hS hW (by omega) hn) rfl rfl (Nat.le_of_ble_eq_true rfl) (by omega) (by omega) (by omega) (k_v (fun s4 q4 => ?_))
  have k4 := q4.1
  have hS4 := SK.fr k4 hS
  refine q_aload_n dX7_putPlace_7 rfl rfl rfl ?_
  refine q_ldcS (j := 9) (b := 9) dX7_putPlace_8 rfl rfl rfl rfl ?_
  refine q_callV (As := [.double 9]) (rest := []) dX7_putPlace_10 vX7_72 (ty_c hS4 (by decide) rfl) ⟨by decide, rfl⟩ (z7_text hS4 q4.2 (j := 9) (b := 9) (b2 := 109) rfl (by decide) rfl) rfl rfl (Nat.le_of_ble_eq_true rfl) (by omega) (by omega) (by omega) (k_v (fun s10 q10 => ?_))
  have k10 := k4.tr q10.1 (fun _ h => h)
  have hS10 := SK.fr k10 hS
  refine q_aload_n dX7_putPlace_13 rfl rfl rfl ?_
  refine q_iload_n dX7_putPlace_14 rfl rfl ?_
  refine q_callV (As := [.int o]) (rest := []) dX7_putPlace_15 vX7_111 (ty_c hS10 (by decide) rfl) ⟨by decide, rfl⟩ (z7_operand hS10 q10.2 ho) rfl rfl (Nat.le_of_ble_eq_true rfl) (by omega) (by omega) (by omega) (k_v (fun s15 q15 => ?_))
  have k15 := k10.tr q15.1 (fun _ h => h)
  have hS15 := SK.fr k15 hS
  refine q_aload_n dX7_putPlace_18 rfl rfl rfl ?_
  refine q_ldcS (j := 10) (b := 10) dX7_putPlace_19 rfl rfl rfl rfl ?_
  refine q_callV (As := [.double 10]) (rest := []) dX7_putPlace_21 vX7_72 (ty_c hS15 (by decide) rfl) ⟨by decide, rfl⟩ (z7_text hS15 q15.2 (j := 10) (b := 10) (b2 := 110) rfl (by decide) rfl) rfl rfl (Nat.le_of_ble_eq_true rfl) (by omega) (by omega) (by omega) (k_v (fun s21 q21 => ?_))
  have k21 := k15.tr q21.1 (fun _ h => h)
  have hS21 := SK.fr k21 hS
  refine q_return dX7_putPlace_24 rfl (by omega) (by omega) ?_
  exact ⟨rfl, k21, by unfold plT; simpa only [List.append_assoc, List.cons_append, List.nil_append, List.singleton_append] using q21.2⟩
theorem z7_head (hS : SK σ) {W : List Nat} (hW : BFw σ W) {n : Nat} (hn : n < 2147483648) : CT g mX7_putHead 6 0 0 [.ref 55, .int (nI n)] σ (WPQ σ (W ++ hdT n)) := by
  refine CT.of (by decide) (Nat.le_of_ble_eq_true rfl) ?_
  refine q_aload_n dX7_putHead_0 rfl rfl rfl ?_
  refine q_bipush (v := nI 98) dX7_putHead_1 rfl ?_
  refine q_iload_n dX7_putHead_3 rfl rfl ?_
  refine q_callV (As := [.int (nI 98), .int (nI n)]) (rest := []) dX7_putHead_4 vX7_66 (ty_c hS (by decide) rfl) ⟨by decide, rfl⟩ (z7_numbered hS hW (by omega) hn) rfl rfl (Nat.le_of_ble_eq_true rfl) (by omega) (by omega) (by omega) (k_v (fun s4 q4 => ?_))
  have k4 := q4.1
  have hS4 := SK.fr k4 hS
  refine q_aload_n dX7_putHead_7 rfl rfl rfl ?_
  refine q_ldcS (j := 6) (b := 6) dX7_putHead_8 rfl rfl rfl rfl ?_
  refine q_callV (As := [.double 6]) (rest := []) dX7_putHead_10 vX7_72 (ty_c hS4 (by decide) rfl) ⟨by decide, rfl⟩ (z7_text hS4 q4.2 (j := 6) (b := 6) (b2 := 106) rfl (by decide) rfl) rfl rfl (Nat.le_of_ble_eq_true rfl) (by omega) (by omega) (by omega) (k_v (fun s10 q10 => ?_))
  have k10 := k4.tr q10.1 (fun _ h => h)
  have hS10 := SK.fr k10 hS
  refine q_return dX7_putHead_13 rfl (by omega) (by omega) ?_
  exact ⟨rfl, k10, by unfold hdT; simpa only [List.append_assoc, List.cons_append, List.nil_append, List.singleton_append] using q10.2⟩

end DIG
