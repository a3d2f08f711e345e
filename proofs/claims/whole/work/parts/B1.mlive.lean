/-! The model: SET, TAKEN, LIFE. -/
theorem nb_t {b : Bool} (h : (!b) = false) : b = true := by cases b <;> simp_all
theorem nb_f {b : Bool} (h : (!b) = true) : b = false := by cases b <;> simp_all
theorem dz_s {s t a : Bool} (hs : s = true) : (s || (!t && a)) = true := by rw [hs]; rfl
theorem dz_a {s t a : Bool} (ht : t = false) (ha : a = true) : (s || (!t && a)) = true := by rw [ht, ha]; cases s <;> rfl
theorem dz_n1 {s t a : Bool} (hs : s = false) (ht : t = true) : ¬ (s || (!t && a)) = true := by rw [hs, ht]; simp
theorem dz_n2 {s t a : Bool} (hs : s = false) (ha : a = false) : ¬ (s || (!t && a)) = true := by rw [hs, ha]; simp
def l88 (h _i : Nat) : Prop := h = 88
section MLI
variable {g : GG} {σ σ0 : HS} {q : PS} {i : Nat}
theorem z9_isF (hS : SK σ) (hi : i < 4) (hr : MR σ i q) (hk : MOK q) {m k j : Nat} (hm : m < (psM q).length) (hkN : k < NN q) (hj : j < 8) {x : Bool} (hx : atB q j m k = x) : CT g mX9_is 0 0 0 [.ref 58, .int (nI ((32 * i + m) * 240)), .int (nI k), .int (nI (2 ^ j))] σ (PQ σ (.int (bi x))) := by
  subst hx
  have hN := NN_le hk.1
  have h32 := hk.2.1.2.2.2.1
  exact z9_is (v := fun b n => atB q b m n) hS (hr.2 m hm) (by omega) hkN hj
theorem z9_isSet (hS : SK σ) (hi : i < 4) (hr : MR σ i q) (hk : MOK q) {l m k : Nat} (hl : l < 3) (hm : m < (psM q).length) (hkN : k < NN q) : CT g mX9_isSet 1 0 0 [.ref 58, .int (nI i), .int (nI l), .int (nI m), .int (nI k)] σ (PQ σ (.int (bi (stA q l m k)))) := by
  have hN := NN_le hk.1
  have h32 := hk.2.1.2.2.2.1
  rcases (show l = 0 ∨ l = 1 ∨ l = 2 by omega) with rfl | rfl | rfl
  · skip
    refine CT.of (by decide) (Nat.le_of_ble_eq_true rfl) ?_
    refine q_aload_n dX9_isSet_0 rfl rfl rfl ?_
    refine q_iload_n dX9_isSet_1 rfl rfl ?_
    refine q_iload_n dX9_isSet_2 rfl rfl ?_
    refine q_callV (As := [.int (nI i), .int (nI m)]) (rest := []) dX9_isSet_3 vX9_338 (ty_c hS (by decide) rfl) ⟨by decide, rfl⟩ (z9_base hS (p := i) (e := m) (by omega) (by omega)) rfl rfl (Nat.le_of_ble_eq_true rfl) (by omega) (by omega) (by omega) (k_p ?_)
    refine q_istore dX9_isSet_6 (by decide) (ls' := [(5, .int (nI ((32 * i + m) * 240))), (0, .ref 58), (1, .int (nI i)), (2, .int (nI 0)), (3, .int (nI m)), (4, .int (nI k))]) rfl ?_
    refine q_iload_n dX9_isSet_8 rfl rfl ?_
    refine q_iconst (v := nI 1) dX9_isSet_9 rfl ?_
    refine q_icmp_neN (tgt := 26) dX9_isSet_10 (by decide) (by omega) (by omega) (fun _ => ?_) (fun h => absurd h (by decide))
    refine q_iload_n dX9_isSet_26 rfl rfl ?_
    refine q_iconst (v := nI 2) dX9_isSet_27 rfl ?_
    refine q_icmp_neN (tgt := 62) dX9_isSet_28 (by decide) (by omega) (by omega) (fun _ => ?_) (fun h => absurd h (by decide))
    refine q_iconst (v := nI 0) dX9_isSet_62 rfl ?_
    refine q_ireturn dX9_isSet_63 rfl rfl (by omega) (by omega) ?_
    exact ⟨rfl, rfl⟩
  · skip
    refine CT.of (by decide) (Nat.le_of_ble_eq_true rfl) ?_
    refine q_aload_n dX9_isSet_0 rfl rfl rfl ?_
    refine q_iload_n dX9_isSet_1 rfl rfl ?_
    refine q_iload_n dX9_isSet_2 rfl rfl ?_
    refine q_callV (As := [.int (nI i), .int (nI m)]) (rest := []) dX9_isSet_3 vX9_338 (ty_c hS (by decide) rfl) ⟨by decide, rfl⟩ (z9_base hS (p := i) (e := m) (by omega) (by omega)) rfl rfl (Nat.le_of_ble_eq_true rfl) (by omega) (by omega) (by omega) (k_p ?_)
    refine q_istore dX9_isSet_6 (by decide) (ls' := [(5, .int (nI ((32 * i + m) * 240))), (0, .ref 58), (1, .int (nI i)), (2, .int (nI 1)), (3, .int (nI m)), (4, .int (nI k))]) rfl ?_
    refine q_iload_n dX9_isSet_8 rfl rfl ?_
    refine q_iconst (v := nI 1) dX9_isSet_9 rfl ?_
    refine q_icmp_neN (tgt := 26) dX9_isSet_10 (by decide) (by omega) (by omega) (fun h => absurd h (by decide)) (fun _ => ?_)
    refine q_aload_n dX9_isSet_13 rfl rfl rfl ?_
    refine q_iload dX9_isSet_14 rfl ?_
    refine q_iload dX9_isSet_16 rfl ?_
    refine q_bipush (v := nI 16) dX9_isSet_18 rfl ?_
    refine q_callV (As := [.int (nI ((32 * i + m) * 240)), .int (nI k), .int (nI 16)]) (rest := []) dX9_isSet_20 vX9_347 (ty_c hS (by decide) rfl) ⟨by decide, rfl⟩ (z9_isF (j := 4) (x := ear q m k) hS hi hr hk hm hkN (by omega) rfl) rfl rfl (Nat.le_of_ble_eq_true rfl) (by omega) (by omega) (by omega) (k_p ?_)
    refine q_goto (tgt := 63) dX9_isSet_23 (by decide) ?_
    refine q_ireturn dX9_isSet_63 rfl (bi_nar _) (by omega) (by omega) ?_
    exact ⟨rfl, rfl⟩
  · skip
    refine CT.of (by decide) (Nat.le_of_ble_eq_true rfl) ?_
    refine q_aload_n dX9_isSet_0 rfl rfl rfl ?_
    refine q_iload_n dX9_isSet_1 rfl rfl ?_
    refine q_iload_n dX9_isSet_2 rfl rfl ?_
    refine q_callV (As := [.int (nI i), .int (nI m)]) (rest := []) dX9_isSet_3 vX9_338 (ty_c hS (by decide) rfl) ⟨by decide, rfl⟩ (z9_base hS (p := i) (e := m) (by omega) (by omega)) rfl rfl (Nat.le_of_ble_eq_true rfl) (by omega) (by omega) (by omega) (k_p ?_)
    refine q_istore dX9_isSet_6 (by decide) (ls' := [(5, .int (nI ((32 * i + m) * 240))), (0, .ref 58), (1, .int (nI i)), (2, .int (nI 2)), (3, .int (nI m)), (4, .int (nI k))]) rfl ?_
    refine q_iload_n dX9_isSet_8 rfl rfl ?_
    refine q_iconst (v := nI 1) dX9_isSet_9 rfl ?_
    refine q_icmp_neN (tgt := 26) dX9_isSet_10 (by decide) (by omega) (by omega) (fun _ => ?_) (fun h => absurd h (by decide))
    refine q_iload_n dX9_isSet_26 rfl rfl ?_
    refine q_iconst (v := nI 2) dX9_isSet_27 rfl ?_
    refine q_icmp_neN (tgt := 62) dX9_isSet_28 (by decide) (by omega) (by omega) (fun h => absurd h (by decide)) (fun _ => ?_)
    refine q_aload_n dX9_isSet_31 rfl rfl rfl ?_
    refine q_iload dX9_isSet_32 rfl ?_
    refine q_iload dX9_isSet_34 rfl ?_
    refine q_bipush (v := nI 64) dX9_isSet_36 rfl ?_
    refine q_callV (As := [.int (nI ((32 * i + m) * 240)), .int (nI k), .int (nI 64)]) (rest := []) dX9_isSet_38 vX9_347 (ty_c hS (by decide) rfl) ⟨by decide, rfl⟩ (z9_isF (j := 6) (x := lst q m k) hS hi hr hk hm hkN (by omega) rfl) rfl rfl (Nat.le_of_ble_eq_true rfl) (by omega) (by omega) (by omega) (k_p ?_)
    refine q_if_eqB (tgt := 62) dX9_isSet_41 (by decide) (fun c41 => ?_) (fun c41 => ?_)
    · skip
      refine q_iconst (v := nI 0) dX9_isSet_62 rfl ?_
      refine q_ireturn dX9_isSet_63 rfl rfl (by omega) (by omega) ?_
      first | exact fin_f (by show (lst q m k && !alo q m k) = false; rw [c41, c55]; rfl) | exact fin_f (by show (lst q m k && !alo q m k) = false; rw [c41]; rfl)
    · skip
      refine q_aload_n dX9_isSet_44 rfl rfl rfl ?_
      refine q_iload dX9_isSet_45 rfl ?_
      refine q_iload dX9_isSet_47 rfl ?_
      refine q_sipush (v := nI 128) dX9_isSet_49 rfl ?_
      refine q_callV (As := [.int (nI ((32 * i + m) * 240)), .int (nI k), .int (nI 128)]) (rest := []) dX9_isSet_52 vX9_347 (ty_c hS (by decide) rfl) ⟨by decide, rfl⟩ (z9_isF (j := 7) (x := alo q m k) hS hi hr hk hm hkN (by omega) rfl) rfl rfl (Nat.le_of_ble_eq_true rfl) (by omega) (by omega) (by omega) (k_p ?_)
      refine q_if_neB (tgt := 62) dX9_isSet_55 (by decide) (fun c55 => ?_) (fun c55 => ?_)
      · skip
        refine q_iconst (v := nI 0) dX9_isSet_62 rfl ?_
        refine q_ireturn dX9_isSet_63 rfl rfl (by omega) (by omega) ?_
        first | exact fin_f (by show (lst q m k && !alo q m k) = false; rw [c41, c55]; rfl) | exact fin_f (by show (lst q m k && !alo q m k) = false; rw [c41]; rfl)
      · skip
        refine q_iconst (v := nI 1) dX9_isSet_58 rfl ?_
        refine q_goto (tgt := 63) dX9_isSet_59 (by decide) ?_
        refine q_ireturn dX9_isSet_63 rfl rfl (by omega) (by omega) ?_
        exact fin_t (by show (lst q m k && !alo q m k) = true; rw [c41, c55]; rfl)
theorem z9_isTaken (hS : SK σ) (hi : i < 4) (hr : MR σ i q) (hk : MOK q) {l m k : Nat} (hl : l < 3) (hm : m < (psM q).length) (hkN : k < NN q) : CT g mX9_isTaken 1 0 0 [.ref 58, .int (nI i), .int (nI l), .int (nI m), .int (nI k)] σ (PQ σ (.int (bi (tkn q l m k)))) := by
  have hN := NN_le hk.1
  have h32 := hk.2.1.2.2.2.1
  rcases (show l = 0 ∨ l = 1 ∨ l = 2 by omega) with rfl | rfl | rfl
  · skip
    refine CT.of (by decide) (Nat.le_of_ble_eq_true rfl) ?_
    refine q_aload_n dX9_isTaken_0 rfl rfl rfl ?_
    refine q_iload_n dX9_isTaken_1 rfl rfl ?_
    refine q_iload_n dX9_isTaken_2 rfl rfl ?_
    refine q_callV (As := [.int (nI i), .int (nI m)]) (rest := []) dX9_isTaken_3 vX9_338 (ty_c hS (by decide) rfl) ⟨by decide, rfl⟩ (z9_base hS (p := i) (e := m) (by omega) (by omega)) rfl rfl (Nat.le_of_ble_eq_true rfl) (by omega) (by omega) (by omega) (k_p ?_)
    refine q_istore dX9_isTaken_6 (by decide) (ls' := [(5, .int (nI ((32 * i + m) * 240))), (0, .ref 58), (1, .int (nI i)), (2, .int (nI 0)), (3, .int (nI m)), (4, .int (nI k))]) rfl ?_
    refine q_aload_n dX9_isTaken_8 rfl rfl rfl ?_
    refine q_iload dX9_isTaken_9 rfl ?_
    refine q_iload dX9_isTaken_11 rfl ?_
    refine q_iconst (v := nI 1) dX9_isTaken_13 rfl ?_
    refine q_callV (As := [.int (nI ((32 * i + m) * 240)), .int (nI k), .int (nI 1)]) (rest := []) dX9_isTaken_14 vX9_347 (ty_c hS (by decide) rfl) ⟨by decide, rfl⟩ (z9_isF (j := 0) (x := wk q m k) hS hi hr hk hm hkN (by omega) rfl) rfl rfl (Nat.le_of_ble_eq_true rfl) (by omega) (by omega) (by omega) (k_p ?_)
    refine q_if_eqB (tgt := 61) dX9_isTaken_17 (by decide) (fun c17 => ?_) (fun c17 => ?_)
    · skip
      refine q_iconst (v := nI 0) dX9_isTaken_61 rfl ?_
      refine q_ireturn dX9_isTaken_62 rfl rfl (by omega) (by omega) ?_
      exact ⟨rfl, rfl⟩
    · skip
      refine q_iload_n dX9_isTaken_20 rfl rfl ?_
      refine q_iconst (v := nI 1) dX9_isTaken_21 rfl ?_
      refine q_icmp_eqN (tgt := 57) dX9_isTaken_22 (by decide) (by omega) (by omega) (fun h => absurd h (by decide)) (fun _ => ?_)
      refine q_iload_n dX9_isTaken_25 rfl rfl ?_
      refine q_iconst (v := nI 2) dX9_isTaken_26 rfl ?_
      refine q_icmp_neN (tgt := 61) dX9_isTaken_27 (by decide) (by omega) (by omega) (fun _ => ?_) (fun h => absurd h (by decide))
      refine q_iconst (v := nI 0) dX9_isTaken_61 rfl ?_
      refine q_ireturn dX9_isTaken_62 rfl rfl (by omega) (by omega) ?_
      exact ⟨rfl, rfl⟩
  · skip
    refine CT.of (by decide) (Nat.le_of_ble_eq_true rfl) ?_
    refine q_aload_n dX9_isTaken_0 rfl rfl rfl ?_
    refine q_iload_n dX9_isTaken_1 rfl rfl ?_
    refine q_iload_n dX9_isTaken_2 rfl rfl ?_
    refine q_callV (As := [.int (nI i), .int (nI m)]) (rest := []) dX9_isTaken_3 vX9_338 (ty_c hS (by decide) rfl) ⟨by decide, rfl⟩ (z9_base hS (p := i) (e := m) (by omega) (by omega)) rfl rfl (Nat.le_of_ble_eq_true rfl) (by omega) (by omega) (by omega) (k_p ?_)
    refine q_istore dX9_isTaken_6 (by decide) (ls' := [(5, .int (nI ((32 * i + m) * 240))), (0, .ref 58), (1, .int (nI i)), (2, .int (nI 1)), (3, .int (nI m)), (4, .int (nI k))]) rfl ?_
    refine q_aload_n dX9_isTaken_8 rfl rfl rfl ?_
    refine q_iload dX9_isTaken_9 rfl ?_
    refine q_iload dX9_isTaken_11 rfl ?_
    refine q_iconst (v := nI 1) dX9_isTaken_13 rfl ?_
    refine q_callV (As := [.int (nI ((32 * i + m) * 240)), .int (nI k), .int (nI 1)]) (rest := []) dX9_isTaken_14 vX9_347 (ty_c hS (by decide) rfl) ⟨by decide, rfl⟩ (z9_isF (j := 0) (x := wk q m k) hS hi hr hk hm hkN (by omega) rfl) rfl rfl (Nat.le_of_ble_eq_true rfl) (by omega) (by omega) (by omega) (k_p ?_)
    refine q_if_eqB (tgt := 61) dX9_isTaken_17 (by decide) (fun c17 => ?_) (fun c17 => ?_)
    · skip
      refine q_iconst (v := nI 0) dX9_isTaken_61 rfl ?_
      refine q_ireturn dX9_isTaken_62 rfl rfl (by omega) (by omega) ?_
      exact fin_f (by show wk q m k = false; exact c17)
    · skip
      refine q_iload_n dX9_isTaken_20 rfl rfl ?_
      refine q_iconst (v := nI 1) dX9_isTaken_21 rfl ?_
      refine q_icmp_eqN (tgt := 57) dX9_isTaken_22 (by decide) (by omega) (by omega) (fun _ => ?_) (fun h => absurd h (by decide))
      refine q_iconst (v := nI 1) dX9_isTaken_57 rfl ?_
      refine q_goto (tgt := 62) dX9_isTaken_58 (by decide) ?_
      refine q_ireturn dX9_isTaken_62 rfl rfl (by omega) (by omega) ?_
      exact fin_t (by show wk q m k = true; exact c17)
  · skip
    refine CT.of (by decide) (Nat.le_of_ble_eq_true rfl) ?_
    refine q_aload_n dX9_isTaken_0 rfl rfl rfl ?_
    refine q_iload_n dX9_isTaken_1 rfl rfl ?_
    refine q_iload_n dX9_isTaken_2 rfl rfl ?_
    refine q_callV (As := [.int (nI i), .int (nI m)]) (rest := []) dX9_isTaken_3 vX9_338 (ty_c hS (by decide) rfl) ⟨by decide, rfl⟩ (z9_base hS (p := i) (e := m) (by omega) (by omega)) rfl rfl (Nat.le_of_ble_eq_true rfl) (by omega) (by omega) (by omega) (k_p ?_)
    refine q_istore dX9_isTaken_6 (by decide) (ls' := [(5, .int (nI ((32 * i + m) * 240))), (0, .ref 58), (1, .int (nI i)), (2, .int (nI 2)), (3, .int (nI m)), (4, .int (nI k))]) rfl ?_
    refine q_aload_n dX9_isTaken_8 rfl rfl rfl ?_
    refine q_iload dX9_isTaken_9 rfl ?_
    refine q_iload dX9_isTaken_11 rfl ?_
    refine q_iconst (v := nI 1) dX9_isTaken_13 rfl ?_
    refine q_callV (As := [.int (nI ((32 * i + m) * 240)), .int (nI k), .int (nI 1)]) (rest := []) dX9_isTaken_14 vX9_347 (ty_c hS (by decide) rfl) ⟨by decide, rfl⟩ (z9_isF (j := 0) (x := wk q m k) hS hi hr hk hm hkN (by omega) rfl) rfl rfl (Nat.le_of_ble_eq_true rfl) (by omega) (by omega) (by omega) (k_p ?_)
    refine q_if_eqB (tgt := 61) dX9_isTaken_17 (by decide) (fun c17 => ?_) (fun c17 => ?_)
    · skip
      refine q_iconst (v := nI 0) dX9_isTaken_61 rfl ?_
      refine q_ireturn dX9_isTaken_62 rfl rfl (by omega) (by omega) ?_
      first | exact fin_f (by show (wk q m k && !(lst q m k && alo q m k)) = false; rw [c17, c40, c54]; rfl) | exact fin_f (by show (wk q m k && !(lst q m k && alo q m k)) = false; rw [c17]; rfl)
    · skip
      refine q_iload_n dX9_isTaken_20 rfl rfl ?_
      refine q_iconst (v := nI 1) dX9_isTaken_21 rfl ?_
      refine q_icmp_eqN (tgt := 57) dX9_isTaken_22 (by decide) (by omega) (by omega) (fun h => absurd h (by decide)) (fun _ => ?_)
      refine q_iload_n dX9_isTaken_25 rfl rfl ?_
      refine q_iconst (v := nI 2) dX9_isTaken_26 rfl ?_
      refine q_icmp_neN (tgt := 61) dX9_isTaken_27 (by decide) (by omega) (by omega) (fun h => absurd h (by decide)) (fun _ => ?_)
      refine q_aload_n dX9_isTaken_30 rfl rfl rfl ?_
      refine q_iload dX9_isTaken_31 rfl ?_
      refine q_iload dX9_isTaken_33 rfl ?_
      refine q_bipush (v := nI 64) dX9_isTaken_35 rfl ?_
      refine q_callV (As := [.int (nI ((32 * i + m) * 240)), .int (nI k), .int (nI 64)]) (rest := []) dX9_isTaken_37 vX9_347 (ty_c hS (by decide) rfl) ⟨by decide, rfl⟩ (z9_isF (j := 6) (x := lst q m k) hS hi hr hk hm hkN (by omega) rfl) rfl rfl (Nat.le_of_ble_eq_true rfl) (by omega) (by omega) (by omega) (k_p ?_)
      refine q_if_eqB (tgt := 57) dX9_isTaken_40 (by decide) (fun c40 => ?_) (fun c40 => ?_)
      · skip
        refine q_iconst (v := nI 1) dX9_isTaken_57 rfl ?_
        refine q_goto (tgt := 62) dX9_isTaken_58 (by decide) ?_
        refine q_ireturn dX9_isTaken_62 rfl rfl (by omega) (by omega) ?_
        first | exact fin_t (by show (wk q m k && !(lst q m k && alo q m k)) = true; rw [c17, c40, c54]; rfl) | exact fin_t (by show (wk q m k && !(lst q m k && alo q m k)) = true; rw [c17, c40]; rfl)
      · skip
        refine q_aload_n dX9_isTaken_43 rfl rfl rfl ?_
        refine q_iload dX9_isTaken_44 rfl ?_
        refine q_iload dX9_isTaken_46 rfl ?_
        refine q_sipush (v := nI 128) dX9_isTaken_48 rfl ?_
        refine q_callV (As := [.int (nI ((32 * i + m) * 240)), .int (nI k), .int (nI 128)]) (rest := []) dX9_isTaken_51 vX9_347 (ty_c hS (by decide) rfl) ⟨by decide, rfl⟩ (z9_isF (j := 7) (x := alo q m k) hS hi hr hk hm hkN (by omega) rfl) rfl rfl (Nat.le_of_ble_eq_true rfl) (by omega) (by omega) (by omega) (k_p ?_)
        refine q_if_neB (tgt := 61) dX9_isTaken_54 (by decide) (fun c54 => ?_) (fun c54 => ?_)
        · skip
          refine q_iconst (v := nI 0) dX9_isTaken_61 rfl ?_
          refine q_ireturn dX9_isTaken_62 rfl rfl (by omega) (by omega) ?_
          first | exact fin_f (by show (wk q m k && !(lst q m k && alo q m k)) = false; rw [c17, c40, c54]; rfl) | exact fin_f (by show (wk q m k && !(lst q m k && alo q m k)) = false; rw [c17]; rfl)
        · skip
          refine q_iconst (v := nI 1) dX9_isTaken_57 rfl ?_
          refine q_goto (tgt := 62) dX9_isTaken_58 (by decide) ?_
          refine q_ireturn dX9_isTaken_62 rfl rfl (by omega) (by omega) ?_
          first | exact fin_t (by show (wk q m k && !(lst q m k && alo q m k)) = true; rw [c17, c40, c54]; rfl) | exact fin_t (by show (wk q m k && !(lst q m k && alo q m k)) = true; rw [c17, c40]; rfl)
/-- what live holds: v what is dead -/
def LI (σ0 : HS) (q : PS) (l m : Nat) (σ : HS) (v : Nat → Bool) : Prop := FR9 l88 σ0 σ ∧ (∀ n, n < NN q → sI σ 88 n = bi (!v n)) ∧ Up (NN q) (fun v n => ddB q l m v n = true) v
theorem MR.li88 {σ' : HS} (hk : MOK q) (f : FR9 l88 σ σ') (h : MR σ i q) : MR σ' i q := h.fq hk.1 hk.2.1 f fun a j z => by unfold l88 at z; unfold cpq; omega
theorem y9_li42 (hS : SK σ0) (hi : i < 4) (hr0 : MR σ0 i q) (hk : MOK q) {l m : Nat} (hl : l < 3) (hm : m < (psM q).length) {Z : List Frame → Array Value → State → State → Prop} {c : Nat} (K : ∀ (v : Nat → Bool) (σ : HS) (more : Bool), LI σ0 q l m σ v → (more = false → Cl (NN q) (fun v n => ddB q l m v n = true) v) → (more = true → cnt v (NN q) < c) → WA g mX9_live 2 0 0 Z 0 0 31 [(0, .ref 58), (1, .int (nI i)), (2, .int (nI l)), (3, .int (nI m)), (4, .int (bi more))] [] σ) : ∀ (r k : Nat) (v : Nat → Bool) (σ : HS) (more : Bool), k + r = NN q → LI σ0 q l m σ v → (more = false → cnt v (NN q) ≤ c ∧ ∀ n, n < k → v n = true → ddB q l m v n = true) → (more = true → cnt v (NN q) < c) → WA g mX9_live 2 0 0 Z 0 0 42 [(0, .ref 58), (1, .int (nI i)), (2, .int (nI l)), (3, .int (nI m)), (4, .int (bi more)), (5, .int (nI k))] [] σ := by
  have hN := NN_le hk.1
  have hc := hk.1
  have hw := hk.2.1
  have hB := hk.2.2.1
  intro r
  induction r with
  | zero =>
    intro k v σ more hkr hI hf ht
    have r62 : sI σ 62 i = nI (NN q) := (hr0.li88 hk hI.1).1.2.1
    have hS1 := SK.fq hI.1 hS
    refine q_iload dX9_live_42 rfl ?_
    refine q_aload_n dX9_live_44 rfl rfl rfl ?_
    refine q_getr (r := 62) dX9_live_45 fX9_43 rfl (ty_c hS1 (by decide) rfl) (hS1.2 58 10 62 rfl) ?_
    refine q_iload_n dX9_live_48 rfl rfl ?_
    refine q_iald (x := nI (NN q)) (j := i) dX9_live_49 (ty_c hS1 (by decide) rfl) (ix_n (by omega) (by omega)) r62 ?_
    refine q_icmp_geN (tgt := 179) dX9_live_50 (by decide) (by omega) (by omega) (fun c50 => ?_) (fun c50 => ?_)
    · skip
      refine q_goto (tgt := 31) dX9_live_179 (by decide) ?_
      refine q_pk [0, 1, 2, 3, 4] (ls' := [(0, .ref 58), (1, .int (nI i)), (2, .int (nI l)), (3, .int (nI m)), (4, .int (bi more))]) rfl ?_
      exact K v σ more hI (fun z n hn hv => (hf z).2 n (by omega) hv) ht
    · exact absurd c50 (by omega)
  | succ r ih =>
    intro k v σ more hkr hI hf ht
    have hkN : k < NN q := by omega
    have hr := hr0.li88 hk hI.1
    have r62 := hr.1.2.1
    have hS1 := SK.fq hI.1 hS
    obtain ⟨-, r1, r2⟩ := hr.1.2.2.2.2.2.1 k hkN
    have k0 := fun j => ld_lt hc hw hB (w := 0) (n := k) (i := j) hkN
    have k1 := fun j => ld_lt hc hw hB (w := 1) (n := k) (i := j) hkN
    have a0 := hI.2.1 k hkN
    have keep : (v k = true → ddB q l m v k = true) → WA g mX9_live 2 0 0 Z 0 0 42 [(0, .ref 58), (1, .int (nI i)), (2, .int (nI l)), (3, .int (nI m)), (4, .int (bi more)), (5, .int (nI (k + 1)))] [] σ := fun z => ih (k + 1) v σ more (by omega) hI (fun y => ⟨(hf y).1, fun n hn hv => by
      by_cases en : n = k
      · rw [en] at hv ⊢; exact z hv
      · exact (hf y).2 n (by omega) hv⟩) ht
    have gone : v k = true → ¬ ddB q l m v k = true → WA g mX9_live 2 0 0 Z 0 0 42 [(0, .ref 58), (1, .int (nI i)), (2, .int (nI l)), (3, .int (nI m)), (4, .int (bi true)), (5, .int (nI (k + 1)))] [] (uI σ 88 k (nI 1)) := fun z1 z2 => by
      have hlt : cnt (fun n => if n = k then false else v n) (NN q) < cnt v (NN q) := cnt_lt (fun j _ hj => by
        by_cases e : j = k
        · rw [if_pos e] at hj; cases hj
        · rw [if_neg e] at hj; exact hj) ⟨k, hkN, z1, by rw [if_pos rfl]; decide⟩
      refine ih (k + 1) (fun n => if n = k then false else v n) _ true (by omega) ⟨hI.1.uI rfl, fun n hn => ?_, ?_⟩ (fun y => by cases y) (fun _ => ?_)
      · by_cases e : n = k
        · rw [e, uI_self]
          show nI 1 = bi (!(if k = k then false else v k))
          rw [if_pos rfl]; rfl
        · rw [rd_ne e]
          show sI σ 88 n = bi (!(if n = k then false else v n))
          rw [if_neg e]; exact hI.2.1 n hn
      · exact hI.2.2.upd (dd_m hc hw hB l m) hkN (fun n hn => if_neg hn) (fun y => absurd y z2)
      · cases more with
        | false => have := (hf rfl).1; omega
        | true => have := ht rfl; omega
    cases l0 : ld q 0 k with
    | none =>
      rw [l0] at r1
      cases l1 : ld q 1 k with
      | none =>
        rw [l1] at r2
        have ea : alQ q v k = true := by unfold alQ; rw [l0, l1]; rfl
        refine q_iload dX9_live_42 rfl ?_
        refine q_aload_n dX9_live_44 rfl rfl rfl ?_
        refine q_getr (r := 62) dX9_live_45 fX9_43 rfl (ty_c hS1 (by decide) rfl) (hS1.2 58 10 62 rfl) ?_
        refine q_iload_n dX9_live_48 rfl rfl ?_
        refine q_iald (x := nI (NN q)) (j := i) dX9_live_49 (ty_c hS1 (by decide) rfl) (ix_n (by omega) (by omega)) r62 ?_
        refine q_icmp_geN (tgt := 179) dX9_live_50 (by decide) (by omega) (by omega) (fun c50 => ?_) (fun c50 => ?_)
        · exact absurd c50 (by omega)
        · skip
          refine q_sipush (v := nI 240) dX9_live_53 rfl ?_
          refine q_iload_n dX9_live_56 rfl rfl ?_
          refine q_imulN dX9_live_57 ?_
          refine q_iload dX9_live_58 rfl ?_
          refine q_iaddN dX9_live_60 ?_
          refine q_istore dX9_live_61 (by decide) (ls' := [(6, .int (nI ((240 * i) + k))), (0, .ref 58), (1, .int (nI i)), (2, .int (nI l)), (3, .int (nI m)), (4, .int (bi more)), (5, .int (nI k))]) rfl ?_
          refine q_aload_n dX9_live_63 rfl rfl rfl ?_
          refine q_getr (r := 71) dX9_live_64 fX9_70 rfl (ty_c hS1 (by decide) rfl) (hS1.2 58 19 71 rfl) ?_
          refine q_iload dX9_live_67 rfl ?_
          refine q_iald (x := (-1)) (j := ((240 * i) + k)) dX9_live_69 (ty_c hS1 (by decide) rfl) (ix_n (by omega) (by omega)) r1 ?_
          refine q_if_lt1 (tgt := 88) dX9_live_70 (by decide) (by decide) ?_
          refine q_aload_n dX9_live_88 rfl rfl rfl ?_
          refine q_getr (r := 72) dX9_live_89 fX9_73 rfl (ty_c hS1 (by decide) rfl) (hS1.2 58 20 72 rfl) ?_
          refine q_iload dX9_live_92 rfl ?_
          refine q_iald (x := (-1)) (j := ((240 * i) + k)) dX9_live_94 (ty_c hS1 (by decide) rfl) (ix_n (by omega) (by omega)) r2 ?_
          refine q_if_lt1 (tgt := 117) dX9_live_95 (by decide) (by decide) ?_
          refine q_iconst (v := nI 0) dX9_live_117 rfl ?_
          refine q_istore dX9_live_118 (by decide) (ls' := [(7, .int (nI 0)), (6, .int (nI ((240 * i) + k))), (0, .ref 58), (1, .int (nI i)), (2, .int (nI l)), (3, .int (nI m)), (4, .int (bi more)), (5, .int (nI k))]) rfl ?_
          refine q_aload_n dX9_live_120 rfl rfl rfl ?_
          refine q_getr (r := 88) dX9_live_121 fX9_147 rfl (ty_c hS1 (by decide) rfl) (hS1.2 58 44 88 rfl) ?_
          refine q_iload dX9_live_124 rfl ?_
          refine q_zald (x := bi (!v k)) (j := k) dX9_live_126 (ty_c hS1 (by decide) rfl) (ix_n (by omega) (by omega)) a0 ?_
          refine q_if_neB (tgt := 173) dX9_live_127 (by decide) (fun c127 => ?_) (fun c127 => ?_)
          · skip
            refine q_iincN (c := 1) dX9_live_173 rfl (by decide) rfl (ls' := [(5, .int (nI (k + 1))), (7, .int (nI 0)), (6, .int (nI ((240 * i) + k))), (0, .ref 58), (1, .int (nI i)), (2, .int (nI l)), (3, .int (nI m)), (4, .int (bi more))]) rfl ?_
            refine q_goto (tgt := 42) dX9_live_176 (by decide) ?_
            refine q_pk [3, 4, 5, 6, 7, 0] (ls' := [(0, .ref 58), (1, .int (nI i)), (2, .int (nI l)), (3, .int (nI m)), (4, .int (bi more)), (5, .int (nI (k + 1)))]) rfl ?_
            first | exact keep (fun z => absurd z (by rw [nb_f c127]; decide)) | exact keep (fun _ => dz_s c139) | exact gone (nb_t c127) (dz_n1 c139 c151) | exact gone (nb_t c127) (dz_n2 c139 (by rw [ea, nb_f c85]; rfl)) | exact gone (nb_t c127) (dz_n2 c139 (by rw [ea, nb_f c110]; simp)) | exact keep (fun _ => dz_a c151 ea) | exact keep (fun _ => dz_a c151 (by rw [ea, nb_t c85]; rfl)) | exact keep (fun _ => dz_a c151 (by rw [ea, nb_t c85, nb_t c110]; rfl)) | exact keep (fun _ => dz_a c151 (by rw [ea, nb_t c110]; rfl))
          · skip
            refine q_aload_n dX9_live_130 rfl rfl rfl ?_
            refine q_iload_n dX9_live_131 rfl rfl ?_
            refine q_iload_n dX9_live_132 rfl rfl ?_
            refine q_iload_n dX9_live_133 rfl rfl ?_
            refine q_iload dX9_live_134 rfl ?_
            refine q_callV (As := [.int (nI i), .int (nI l), .int (nI m), .int (nI k)]) (rest := []) dX9_live_136 vX9_382 (ty_c hS1 (by decide) rfl) ⟨by decide, rfl⟩ (z9_isSet hS1 hi hr hk hl hm hkN) rfl rfl (Nat.le_of_ble_eq_true rfl) (by omega) (by omega) (by omega) (k_p ?_)
            refine q_if_neB (tgt := 173) dX9_live_139 (by decide) (fun c139 => ?_) (fun c139 => ?_)
            · skip
              refine q_iincN (c := 1) dX9_live_173 rfl (by decide) rfl (ls' := [(5, .int (nI (k + 1))), (7, .int (nI 0)), (6, .int (nI ((240 * i) + k))), (0, .ref 58), (1, .int (nI i)), (2, .int (nI l)), (3, .int (nI m)), (4, .int (bi more))]) rfl ?_
              refine q_goto (tgt := 42) dX9_live_176 (by decide) ?_
              refine q_pk [3, 4, 5, 6, 7, 0] (ls' := [(0, .ref 58), (1, .int (nI i)), (2, .int (nI l)), (3, .int (nI m)), (4, .int (bi more)), (5, .int (nI (k + 1)))]) rfl ?_
              first | exact keep (fun z => absurd z (by rw [nb_f c127]; decide)) | exact keep (fun _ => dz_s c139) | exact gone (nb_t c127) (dz_n1 c139 c151) | exact gone (nb_t c127) (dz_n2 c139 (by rw [ea, nb_f c85]; rfl)) | exact gone (nb_t c127) (dz_n2 c139 (by rw [ea, nb_f c110]; simp)) | exact keep (fun _ => dz_a c151 ea) | exact keep (fun _ => dz_a c151 (by rw [ea, nb_t c85]; rfl)) | exact keep (fun _ => dz_a c151 (by rw [ea, nb_t c85, nb_t c110]; rfl)) | exact keep (fun _ => dz_a c151 (by rw [ea, nb_t c110]; rfl))
            · skip
              refine q_aload_n dX9_live_142 rfl rfl rfl ?_
              refine q_iload_n dX9_live_143 rfl rfl ?_
              refine q_iload_n dX9_live_144 rfl rfl ?_
              refine q_iload_n dX9_live_145 rfl rfl ?_
              refine q_iload dX9_live_146 rfl ?_
              refine q_callV (As := [.int (nI i), .int (nI l), .int (nI m), .int (nI k)]) (rest := []) dX9_live_148 vX9_385 (ty_c hS1 (by decide) rfl) ⟨by decide, rfl⟩ (z9_isTaken hS1 hi hr hk hl hm hkN) rfl rfl (Nat.le_of_ble_eq_true rfl) (by omega) (by omega) (by omega) (k_p ?_)
              refine q_if_neB (tgt := 162) dX9_live_151 (by decide) (fun c151 => ?_) (fun c151 => ?_)
              · skip
                refine q_aload_n dX9_live_162 rfl rfl rfl ?_
                refine q_getr (r := 88) dX9_live_163 fX9_147 rfl (ty_c hS1 (by decide) rfl) (hS1.2 58 44 88 rfl) ?_
                refine q_iload dX9_live_166 rfl ?_
                refine q_iconst (v := nI 1) dX9_live_168 rfl ?_
                refine q_zast (j := k) dX9_live_169 (ty_c hS1 (by decide) rfl) (ix_n (by omega) (by omega)) (Or.inr rfl) ?_
                refine q_iconst (v := nI 1) dX9_live_170 rfl ?_
                refine q_top (y := bi true) rfl ?_
                refine q_istore dX9_live_171 (by decide) (ls' := [(4, .int (bi true)), (7, .int (nI 0)), (6, .int (nI ((240 * i) + k))), (0, .ref 58), (1, .int (nI i)), (2, .int (nI l)), (3, .int (nI m)), (5, .int (nI k))]) rfl ?_
                refine q_iincN (c := 1) dX9_live_173 rfl (by decide) rfl (ls' := [(5, .int (nI (k + 1))), (4, .int (bi true)), (7, .int (nI 0)), (6, .int (nI ((240 * i) + k))), (0, .ref 58), (1, .int (nI i)), (2, .int (nI l)), (3, .int (nI m))]) rfl ?_
                refine q_goto (tgt := 42) dX9_live_176 (by decide) ?_
                refine q_pk [4, 5, 6, 7, 1, 0] (ls' := [(0, .ref 58), (1, .int (nI i)), (2, .int (nI l)), (3, .int (nI m)), (4, .int (bi true)), (5, .int (nI (k + 1)))]) rfl ?_
                first | exact keep (fun z => absurd z (by rw [nb_f c127]; decide)) | exact keep (fun _ => dz_s c139) | exact gone (nb_t c127) (dz_n1 c139 c151) | exact gone (nb_t c127) (dz_n2 c139 (by rw [ea, nb_f c85]; rfl)) | exact gone (nb_t c127) (dz_n2 c139 (by rw [ea, nb_f c110]; simp)) | exact keep (fun _ => dz_a c151 ea) | exact keep (fun _ => dz_a c151 (by rw [ea, nb_t c85]; rfl)) | exact keep (fun _ => dz_a c151 (by rw [ea, nb_t c85, nb_t c110]; rfl)) | exact keep (fun _ => dz_a c151 (by rw [ea, nb_t c110]; rfl))
              · skip
                refine q_iload dX9_live_154 rfl ?_
                refine q_if_neN (tgt := 162) dX9_live_156 (by decide) (by omega) (fun h => absurd h (by decide)) (fun _ => ?_)
                refine q_goto (tgt := 173) dX9_live_159 (by decide) ?_
                refine q_iincN (c := 1) dX9_live_173 rfl (by decide) rfl (ls' := [(5, .int (nI (k + 1))), (7, .int (nI 0)), (6, .int (nI ((240 * i) + k))), (0, .ref 58), (1, .int (nI i)), (2, .int (nI l)), (3, .int (nI m)), (4, .int (bi more))]) rfl ?_
                refine q_goto (tgt := 42) dX9_live_176 (by decide) ?_
                refine q_pk [3, 4, 5, 6, 7, 0] (ls' := [(0, .ref 58), (1, .int (nI i)), (2, .int (nI l)), (3, .int (nI m)), (4, .int (bi more)), (5, .int (nI (k + 1)))]) rfl ?_
                first | exact keep (fun z => absurd z (by rw [nb_f c127]; decide)) | exact keep (fun _ => dz_s c139) | exact gone (nb_t c127) (dz_n1 c139 c151) | exact gone (nb_t c127) (dz_n2 c139 (by rw [ea, nb_f c85]; rfl)) | exact gone (nb_t c127) (dz_n2 c139 (by rw [ea, nb_f c110]; simp)) | exact keep (fun _ => dz_a c151 ea) | exact keep (fun _ => dz_a c151 (by rw [ea, nb_t c85]; rfl)) | exact keep (fun _ => dz_a c151 (by rw [ea, nb_t c85, nb_t c110]; rfl)) | exact keep (fun _ => dz_a c151 (by rw [ea, nb_t c110]; rfl))
      | some v1 =>
        rw [l1] at r2
        have b1 := k1 v1 l1
        have ea : alQ q v k = (true && v v1) := by unfold alQ; rw [l0, l1]
        refine q_iload dX9_live_42 rfl ?_
        refine q_aload_n dX9_live_44 rfl rfl rfl ?_
        refine q_getr (r := 62) dX9_live_45 fX9_43 rfl (ty_c hS1 (by decide) rfl) (hS1.2 58 10 62 rfl) ?_
        refine q_iload_n dX9_live_48 rfl rfl ?_
        refine q_iald (x := nI (NN q)) (j := i) dX9_live_49 (ty_c hS1 (by decide) rfl) (ix_n (by omega) (by omega)) r62 ?_
        refine q_icmp_geN (tgt := 179) dX9_live_50 (by decide) (by omega) (by omega) (fun c50 => ?_) (fun c50 => ?_)
        · exact absurd c50 (by omega)
        · skip
          refine q_sipush (v := nI 240) dX9_live_53 rfl ?_
          refine q_iload_n dX9_live_56 rfl rfl ?_
          refine q_imulN dX9_live_57 ?_
          refine q_iload dX9_live_58 rfl ?_
          refine q_iaddN dX9_live_60 ?_
          refine q_istore dX9_live_61 (by decide) (ls' := [(6, .int (nI ((240 * i) + k))), (0, .ref 58), (1, .int (nI i)), (2, .int (nI l)), (3, .int (nI m)), (4, .int (bi more)), (5, .int (nI k))]) rfl ?_
          refine q_aload_n dX9_live_63 rfl rfl rfl ?_
          refine q_getr (r := 71) dX9_live_64 fX9_70 rfl (ty_c hS1 (by decide) rfl) (hS1.2 58 19 71 rfl) ?_
          refine q_iload dX9_live_67 rfl ?_
          refine q_iald (x := (-1)) (j := ((240 * i) + k)) dX9_live_69 (ty_c hS1 (by decide) rfl) (ix_n (by omega) (by omega)) r1 ?_
          refine q_if_lt1 (tgt := 88) dX9_live_70 (by decide) (by decide) ?_
          refine q_aload_n dX9_live_88 rfl rfl rfl ?_
          refine q_getr (r := 72) dX9_live_89 fX9_73 rfl (ty_c hS1 (by decide) rfl) (hS1.2 58 20 72 rfl) ?_
          refine q_iload dX9_live_92 rfl ?_
          refine q_iald (x := nI v1) (j := ((240 * i) + k)) dX9_live_94 (ty_c hS1 (by decide) rfl) (ix_n (by omega) (by omega)) r2 ?_
          refine q_if_ltN (tgt := 117) dX9_live_95 (by decide) (by omega) ?_
          refine q_aload_n dX9_live_98 rfl rfl rfl ?_
          refine q_getr (r := 88) dX9_live_99 fX9_147 rfl (ty_c hS1 (by decide) rfl) (hS1.2 58 44 88 rfl) ?_
          refine q_aload_n dX9_live_102 rfl rfl rfl ?_
          refine q_getr (r := 72) dX9_live_103 fX9_73 rfl (ty_c hS1 (by decide) rfl) (hS1.2 58 20 72 rfl) ?_
          refine q_iload dX9_live_106 rfl ?_
          refine q_iald (x := nI v1) (j := ((240 * i) + k)) dX9_live_108 (ty_c hS1 (by decide) rfl) (ix_n (by omega) (by omega)) r2 ?_
          refine q_zald (x := bi (!v v1)) (j := v1) dX9_live_109 (ty_c hS1 (by decide) rfl) (ix_n (by omega) (by omega)) (hI.2.1 v1 b1) ?_
          refine q_if_eqB (tgt := 117) dX9_live_110 (by decide) (fun c110 => ?_) (fun c110 => ?_)
          · skip
            refine q_iconst (v := nI 0) dX9_live_117 rfl ?_
            refine q_istore dX9_live_118 (by decide) (ls' := [(7, .int (nI 0)), (6, .int (nI ((240 * i) + k))), (0, .ref 58), (1, .int (nI i)), (2, .int (nI l)), (3, .int (nI m)), (4, .int (bi more)), (5, .int (nI k))]) rfl ?_
            refine q_aload_n dX9_live_120 rfl rfl rfl ?_
            refine q_getr (r := 88) dX9_live_121 fX9_147 rfl (ty_c hS1 (by decide) rfl) (hS1.2 58 44 88 rfl) ?_
            refine q_iload dX9_live_124 rfl ?_
            refine q_zald (x := bi (!v k)) (j := k) dX9_live_126 (ty_c hS1 (by decide) rfl) (ix_n (by omega) (by omega)) a0 ?_
            refine q_if_neB (tgt := 173) dX9_live_127 (by decide) (fun c127 => ?_) (fun c127 => ?_)
            · skip
              refine q_iincN (c := 1) dX9_live_173 rfl (by decide) rfl (ls' := [(5, .int (nI (k + 1))), (7, .int (nI 0)), (6, .int (nI ((240 * i) + k))), (0, .ref 58), (1, .int (nI i)), (2, .int (nI l)), (3, .int (nI m)), (4, .int (bi more))]) rfl ?_
              refine q_goto (tgt := 42) dX9_live_176 (by decide) ?_
              refine q_pk [3, 4, 5, 6, 7, 0] (ls' := [(0, .ref 58), (1, .int (nI i)), (2, .int (nI l)), (3, .int (nI m)), (4, .int (bi more)), (5, .int (nI (k + 1)))]) rfl ?_
              first | exact keep (fun z => absurd z (by rw [nb_f c127]; decide)) | exact keep (fun _ => dz_s c139) | exact gone (nb_t c127) (dz_n1 c139 c151) | exact gone (nb_t c127) (dz_n2 c139 (by rw [ea, nb_f c85]; rfl)) | exact gone (nb_t c127) (dz_n2 c139 (by rw [ea, nb_f c110]; simp)) | exact keep (fun _ => dz_a c151 ea) | exact keep (fun _ => dz_a c151 (by rw [ea, nb_t c85]; rfl)) | exact keep (fun _ => dz_a c151 (by rw [ea, nb_t c85, nb_t c110]; rfl)) | exact keep (fun _ => dz_a c151 (by rw [ea, nb_t c110]; rfl))
            · skip
              refine q_aload_n dX9_live_130 rfl rfl rfl ?_
              refine q_iload_n dX9_live_131 rfl rfl ?_
              refine q_iload_n dX9_live_132 rfl rfl ?_
              refine q_iload_n dX9_live_133 rfl rfl ?_
              refine q_iload dX9_live_134 rfl ?_
              refine q_callV (As := [.int (nI i), .int (nI l), .int (nI m), .int (nI k)]) (rest := []) dX9_live_136 vX9_382 (ty_c hS1 (by decide) rfl) ⟨by decide, rfl⟩ (z9_isSet hS1 hi hr hk hl hm hkN) rfl rfl (Nat.le_of_ble_eq_true rfl) (by omega) (by omega) (by omega) (k_p ?_)
              refine q_if_neB (tgt := 173) dX9_live_139 (by decide) (fun c139 => ?_) (fun c139 => ?_)
              · skip
                refine q_iincN (c := 1) dX9_live_173 rfl (by decide) rfl (ls' := [(5, .int (nI (k + 1))), (7, .int (nI 0)), (6, .int (nI ((240 * i) + k))), (0, .ref 58), (1, .int (nI i)), (2, .int (nI l)), (3, .int (nI m)), (4, .int (bi more))]) rfl ?_
                refine q_goto (tgt := 42) dX9_live_176 (by decide) ?_
                refine q_pk [3, 4, 5, 6, 7, 0] (ls' := [(0, .ref 58), (1, .int (nI i)), (2, .int (nI l)), (3, .int (nI m)), (4, .int (bi more)), (5, .int (nI (k + 1)))]) rfl ?_
                first | exact keep (fun z => absurd z (by rw [nb_f c127]; decide)) | exact keep (fun _ => dz_s c139) | exact gone (nb_t c127) (dz_n1 c139 c151) | exact gone (nb_t c127) (dz_n2 c139 (by rw [ea, nb_f c85]; rfl)) | exact gone (nb_t c127) (dz_n2 c139 (by rw [ea, nb_f c110]; simp)) | exact keep (fun _ => dz_a c151 ea) | exact keep (fun _ => dz_a c151 (by rw [ea, nb_t c85]; rfl)) | exact keep (fun _ => dz_a c151 (by rw [ea, nb_t c85, nb_t c110]; rfl)) | exact keep (fun _ => dz_a c151 (by rw [ea, nb_t c110]; rfl))
              · skip
                refine q_aload_n dX9_live_142 rfl rfl rfl ?_
                refine q_iload_n dX9_live_143 rfl rfl ?_
                refine q_iload_n dX9_live_144 rfl rfl ?_
                refine q_iload_n dX9_live_145 rfl rfl ?_
                refine q_iload dX9_live_146 rfl ?_
                refine q_callV (As := [.int (nI i), .int (nI l), .int (nI m), .int (nI k)]) (rest := []) dX9_live_148 vX9_385 (ty_c hS1 (by decide) rfl) ⟨by decide, rfl⟩ (z9_isTaken hS1 hi hr hk hl hm hkN) rfl rfl (Nat.le_of_ble_eq_true rfl) (by omega) (by omega) (by omega) (k_p ?_)
                refine q_if_neB (tgt := 162) dX9_live_151 (by decide) (fun c151 => ?_) (fun c151 => ?_)
                · skip
                  refine q_aload_n dX9_live_162 rfl rfl rfl ?_
                  refine q_getr (r := 88) dX9_live_163 fX9_147 rfl (ty_c hS1 (by decide) rfl) (hS1.2 58 44 88 rfl) ?_
                  refine q_iload dX9_live_166 rfl ?_
                  refine q_iconst (v := nI 1) dX9_live_168 rfl ?_
                  refine q_zast (j := k) dX9_live_169 (ty_c hS1 (by decide) rfl) (ix_n (by omega) (by omega)) (Or.inr rfl) ?_
                  refine q_iconst (v := nI 1) dX9_live_170 rfl ?_
                  refine q_top (y := bi true) rfl ?_
                  refine q_istore dX9_live_171 (by decide) (ls' := [(4, .int (bi true)), (7, .int (nI 0)), (6, .int (nI ((240 * i) + k))), (0, .ref 58), (1, .int (nI i)), (2, .int (nI l)), (3, .int (nI m)), (5, .int (nI k))]) rfl ?_
                  refine q_iincN (c := 1) dX9_live_173 rfl (by decide) rfl (ls' := [(5, .int (nI (k + 1))), (4, .int (bi true)), (7, .int (nI 0)), (6, .int (nI ((240 * i) + k))), (0, .ref 58), (1, .int (nI i)), (2, .int (nI l)), (3, .int (nI m))]) rfl ?_
                  refine q_goto (tgt := 42) dX9_live_176 (by decide) ?_
                  refine q_pk [4, 5, 6, 7, 1, 0] (ls' := [(0, .ref 58), (1, .int (nI i)), (2, .int (nI l)), (3, .int (nI m)), (4, .int (bi true)), (5, .int (nI (k + 1)))]) rfl ?_
                  first | exact keep (fun z => absurd z (by rw [nb_f c127]; decide)) | exact keep (fun _ => dz_s c139) | exact gone (nb_t c127) (dz_n1 c139 c151) | exact gone (nb_t c127) (dz_n2 c139 (by rw [ea, nb_f c85]; rfl)) | exact gone (nb_t c127) (dz_n2 c139 (by rw [ea, nb_f c110]; simp)) | exact keep (fun _ => dz_a c151 ea) | exact keep (fun _ => dz_a c151 (by rw [ea, nb_t c85]; rfl)) | exact keep (fun _ => dz_a c151 (by rw [ea, nb_t c85, nb_t c110]; rfl)) | exact keep (fun _ => dz_a c151 (by rw [ea, nb_t c110]; rfl))
                · skip
                  refine q_iload dX9_live_154 rfl ?_
                  refine q_if_neN (tgt := 162) dX9_live_156 (by decide) (by omega) (fun h => absurd h (by decide)) (fun _ => ?_)
                  refine q_goto (tgt := 173) dX9_live_159 (by decide) ?_
                  refine q_iincN (c := 1) dX9_live_173 rfl (by decide) rfl (ls' := [(5, .int (nI (k + 1))), (7, .int (nI 0)), (6, .int (nI ((240 * i) + k))), (0, .ref 58), (1, .int (nI i)), (2, .int (nI l)), (3, .int (nI m)), (4, .int (bi more))]) rfl ?_
                  refine q_goto (tgt := 42) dX9_live_176 (by decide) ?_
                  refine q_pk [3, 4, 5, 6, 7, 0] (ls' := [(0, .ref 58), (1, .int (nI i)), (2, .int (nI l)), (3, .int (nI m)), (4, .int (bi more)), (5, .int (nI (k + 1)))]) rfl ?_
                  first | exact keep (fun z => absurd z (by rw [nb_f c127]; decide)) | exact keep (fun _ => dz_s c139) | exact gone (nb_t c127) (dz_n1 c139 c151) | exact gone (nb_t c127) (dz_n2 c139 (by rw [ea, nb_f c85]; rfl)) | exact gone (nb_t c127) (dz_n2 c139 (by rw [ea, nb_f c110]; simp)) | exact keep (fun _ => dz_a c151 ea) | exact keep (fun _ => dz_a c151 (by rw [ea, nb_t c85]; rfl)) | exact keep (fun _ => dz_a c151 (by rw [ea, nb_t c85, nb_t c110]; rfl)) | exact keep (fun _ => dz_a c151 (by rw [ea, nb_t c110]; rfl))
          · skip
            refine q_iconst (v := nI 1) dX9_live_113 rfl ?_
            refine q_goto (tgt := 118) dX9_live_114 (by decide) ?_
            refine q_istore dX9_live_118 (by decide) (ls' := [(7, .int (nI 1)), (6, .int (nI ((240 * i) + k))), (0, .ref 58), (1, .int (nI i)), (2, .int (nI l)), (3, .int (nI m)), (4, .int (bi more)), (5, .int (nI k))]) rfl ?_
            refine q_aload_n dX9_live_120 rfl rfl rfl ?_
            refine q_getr (r := 88) dX9_live_121 fX9_147 rfl (ty_c hS1 (by decide) rfl) (hS1.2 58 44 88 rfl) ?_
            refine q_iload dX9_live_124 rfl ?_
            refine q_zald (x := bi (!v k)) (j := k) dX9_live_126 (ty_c hS1 (by decide) rfl) (ix_n (by omega) (by omega)) a0 ?_
            refine q_if_neB (tgt := 173) dX9_live_127 (by decide) (fun c127 => ?_) (fun c127 => ?_)
            · skip
              refine q_iincN (c := 1) dX9_live_173 rfl (by decide) rfl (ls' := [(5, .int (nI (k + 1))), (7, .int (nI 1)), (6, .int (nI ((240 * i) + k))), (0, .ref 58), (1, .int (nI i)), (2, .int (nI l)), (3, .int (nI m)), (4, .int (bi more))]) rfl ?_
              refine q_goto (tgt := 42) dX9_live_176 (by decide) ?_
              refine q_pk [3, 4, 5, 6, 7, 0] (ls' := [(0, .ref 58), (1, .int (nI i)), (2, .int (nI l)), (3, .int (nI m)), (4, .int (bi more)), (5, .int (nI (k + 1)))]) rfl ?_
              first | exact keep (fun z => absurd z (by rw [nb_f c127]; decide)) | exact keep (fun _ => dz_s c139) | exact gone (nb_t c127) (dz_n1 c139 c151) | exact gone (nb_t c127) (dz_n2 c139 (by rw [ea, nb_f c85]; rfl)) | exact gone (nb_t c127) (dz_n2 c139 (by rw [ea, nb_f c110]; simp)) | exact keep (fun _ => dz_a c151 ea) | exact keep (fun _ => dz_a c151 (by rw [ea, nb_t c85]; rfl)) | exact keep (fun _ => dz_a c151 (by rw [ea, nb_t c85, nb_t c110]; rfl)) | exact keep (fun _ => dz_a c151 (by rw [ea, nb_t c110]; rfl))
            · skip
              refine q_aload_n dX9_live_130 rfl rfl rfl ?_
              refine q_iload_n dX9_live_131 rfl rfl ?_
              refine q_iload_n dX9_live_132 rfl rfl ?_
              refine q_iload_n dX9_live_133 rfl rfl ?_
              refine q_iload dX9_live_134 rfl ?_
              refine q_callV (As := [.int (nI i), .int (nI l), .int (nI m), .int (nI k)]) (rest := []) dX9_live_136 vX9_382 (ty_c hS1 (by decide) rfl) ⟨by decide, rfl⟩ (z9_isSet hS1 hi hr hk hl hm hkN) rfl rfl (Nat.le_of_ble_eq_true rfl) (by omega) (by omega) (by omega) (k_p ?_)
              refine q_if_neB (tgt := 173) dX9_live_139 (by decide) (fun c139 => ?_) (fun c139 => ?_)
              · skip
                refine q_iincN (c := 1) dX9_live_173 rfl (by decide) rfl (ls' := [(5, .int (nI (k + 1))), (7, .int (nI 1)), (6, .int (nI ((240 * i) + k))), (0, .ref 58), (1, .int (nI i)), (2, .int (nI l)), (3, .int (nI m)), (4, .int (bi more))]) rfl ?_
                refine q_goto (tgt := 42) dX9_live_176 (by decide) ?_
                refine q_pk [3, 4, 5, 6, 7, 0] (ls' := [(0, .ref 58), (1, .int (nI i)), (2, .int (nI l)), (3, .int (nI m)), (4, .int (bi more)), (5, .int (nI (k + 1)))]) rfl ?_
                first | exact keep (fun z => absurd z (by rw [nb_f c127]; decide)) | exact keep (fun _ => dz_s c139) | exact gone (nb_t c127) (dz_n1 c139 c151) | exact gone (nb_t c127) (dz_n2 c139 (by rw [ea, nb_f c85]; rfl)) | exact gone (nb_t c127) (dz_n2 c139 (by rw [ea, nb_f c110]; simp)) | exact keep (fun _ => dz_a c151 ea) | exact keep (fun _ => dz_a c151 (by rw [ea, nb_t c85]; rfl)) | exact keep (fun _ => dz_a c151 (by rw [ea, nb_t c85, nb_t c110]; rfl)) | exact keep (fun _ => dz_a c151 (by rw [ea, nb_t c110]; rfl))
              · skip
                refine q_aload_n dX9_live_142 rfl rfl rfl ?_
                refine q_iload_n dX9_live_143 rfl rfl ?_
                refine q_iload_n dX9_live_144 rfl rfl ?_
                refine q_iload_n dX9_live_145 rfl rfl ?_
                refine q_iload dX9_live_146 rfl ?_
                refine q_callV (As := [.int (nI i), .int (nI l), .int (nI m), .int (nI k)]) (rest := []) dX9_live_148 vX9_385 (ty_c hS1 (by decide) rfl) ⟨by decide, rfl⟩ (z9_isTaken hS1 hi hr hk hl hm hkN) rfl rfl (Nat.le_of_ble_eq_true rfl) (by omega) (by omega) (by omega) (k_p ?_)
                refine q_if_neB (tgt := 162) dX9_live_151 (by decide) (fun c151 => ?_) (fun c151 => ?_)
                · skip
                  refine q_aload_n dX9_live_162 rfl rfl rfl ?_
                  refine q_getr (r := 88) dX9_live_163 fX9_147 rfl (ty_c hS1 (by decide) rfl) (hS1.2 58 44 88 rfl) ?_
                  refine q_iload dX9_live_166 rfl ?_
                  refine q_iconst (v := nI 1) dX9_live_168 rfl ?_
                  refine q_zast (j := k) dX9_live_169 (ty_c hS1 (by decide) rfl) (ix_n (by omega) (by omega)) (Or.inr rfl) ?_
                  refine q_iconst (v := nI 1) dX9_live_170 rfl ?_
                  refine q_top (y := bi true) rfl ?_
                  refine q_istore dX9_live_171 (by decide) (ls' := [(4, .int (bi true)), (7, .int (nI 1)), (6, .int (nI ((240 * i) + k))), (0, .ref 58), (1, .int (nI i)), (2, .int (nI l)), (3, .int (nI m)), (5, .int (nI k))]) rfl ?_
                  refine q_iincN (c := 1) dX9_live_173 rfl (by decide) rfl (ls' := [(5, .int (nI (k + 1))), (4, .int (bi true)), (7, .int (nI 1)), (6, .int (nI ((240 * i) + k))), (0, .ref 58), (1, .int (nI i)), (2, .int (nI l)), (3, .int (nI m))]) rfl ?_
                  refine q_goto (tgt := 42) dX9_live_176 (by decide) ?_
                  refine q_pk [4, 5, 6, 7, 1, 0] (ls' := [(0, .ref 58), (1, .int (nI i)), (2, .int (nI l)), (3, .int (nI m)), (4, .int (bi true)), (5, .int (nI (k + 1)))]) rfl ?_
                  first | exact keep (fun z => absurd z (by rw [nb_f c127]; decide)) | exact keep (fun _ => dz_s c139) | exact gone (nb_t c127) (dz_n1 c139 c151) | exact gone (nb_t c127) (dz_n2 c139 (by rw [ea, nb_f c85]; rfl)) | exact gone (nb_t c127) (dz_n2 c139 (by rw [ea, nb_f c110]; simp)) | exact keep (fun _ => dz_a c151 ea) | exact keep (fun _ => dz_a c151 (by rw [ea, nb_t c85]; rfl)) | exact keep (fun _ => dz_a c151 (by rw [ea, nb_t c85, nb_t c110]; rfl)) | exact keep (fun _ => dz_a c151 (by rw [ea, nb_t c110]; rfl))
                · skip
                  refine q_iload dX9_live_154 rfl ?_
                  refine q_if_neN (tgt := 162) dX9_live_156 (by decide) (by omega) (fun _ => ?_) (fun h => absurd h (by decide))
                  refine q_aload_n dX9_live_162 rfl rfl rfl ?_
                  refine q_getr (r := 88) dX9_live_163 fX9_147 rfl (ty_c hS1 (by decide) rfl) (hS1.2 58 44 88 rfl) ?_
                  refine q_iload dX9_live_166 rfl ?_
                  refine q_iconst (v := nI 1) dX9_live_168 rfl ?_
                  refine q_zast (j := k) dX9_live_169 (ty_c hS1 (by decide) rfl) (ix_n (by omega) (by omega)) (Or.inr rfl) ?_
                  refine q_iconst (v := nI 1) dX9_live_170 rfl ?_
                  refine q_top (y := bi true) rfl ?_
                  refine q_istore dX9_live_171 (by decide) (ls' := [(4, .int (bi true)), (7, .int (nI 1)), (6, .int (nI ((240 * i) + k))), (0, .ref 58), (1, .int (nI i)), (2, .int (nI l)), (3, .int (nI m)), (5, .int (nI k))]) rfl ?_
                  refine q_iincN (c := 1) dX9_live_173 rfl (by decide) rfl (ls' := [(5, .int (nI (k + 1))), (4, .int (bi true)), (7, .int (nI 1)), (6, .int (nI ((240 * i) + k))), (0, .ref 58), (1, .int (nI i)), (2, .int (nI l)), (3, .int (nI m))]) rfl ?_
                  refine q_goto (tgt := 42) dX9_live_176 (by decide) ?_
                  refine q_pk [4, 5, 6, 7, 1, 0] (ls' := [(0, .ref 58), (1, .int (nI i)), (2, .int (nI l)), (3, .int (nI m)), (4, .int (bi true)), (5, .int (nI (k + 1)))]) rfl ?_
                  first | exact keep (fun z => absurd z (by rw [nb_f c127]; decide)) | exact keep (fun _ => dz_s c139) | exact gone (nb_t c127) (dz_n1 c139 c151) | exact gone (nb_t c127) (dz_n2 c139 (by rw [ea, nb_f c85]; rfl)) | exact gone (nb_t c127) (dz_n2 c139 (by rw [ea, nb_f c110]; simp)) | exact keep (fun _ => dz_a c151 ea) | exact keep (fun _ => dz_a c151 (by rw [ea, nb_t c85]; rfl)) | exact keep (fun _ => dz_a c151 (by rw [ea, nb_t c85, nb_t c110]; rfl)) | exact keep (fun _ => dz_a c151 (by rw [ea, nb_t c110]; rfl))
    | some v0 =>
      rw [l0] at r1
      have b0 := k0 v0 l0
      cases l1 : ld q 1 k with
      | none =>
        rw [l1] at r2
        have ea : alQ q v k = (v v0 && true) := by unfold alQ; rw [l0, l1]
        refine q_iload dX9_live_42 rfl ?_
        refine q_aload_n dX9_live_44 rfl rfl rfl ?_
        refine q_getr (r := 62) dX9_live_45 fX9_43 rfl (ty_c hS1 (by decide) rfl) (hS1.2 58 10 62 rfl) ?_
        refine q_iload_n dX9_live_48 rfl rfl ?_
        refine q_iald (x := nI (NN q)) (j := i) dX9_live_49 (ty_c hS1 (by decide) rfl) (ix_n (by omega) (by omega)) r62 ?_
        refine q_icmp_geN (tgt := 179) dX9_live_50 (by decide) (by omega) (by omega) (fun c50 => ?_) (fun c50 => ?_)
        · exact absurd c50 (by omega)
        · skip
          refine q_sipush (v := nI 240) dX9_live_53 rfl ?_
          refine q_iload_n dX9_live_56 rfl rfl ?_
          refine q_imulN dX9_live_57 ?_
          refine q_iload dX9_live_58 rfl ?_
          refine q_iaddN dX9_live_60 ?_
          refine q_istore dX9_live_61 (by decide) (ls' := [(6, .int (nI ((240 * i) + k))), (0, .ref 58), (1, .int (nI i)), (2, .int (nI l)), (3, .int (nI m)), (4, .int (bi more)), (5, .int (nI k))]) rfl ?_
          refine q_aload_n dX9_live_63 rfl rfl rfl ?_
          refine q_getr (r := 71) dX9_live_64 fX9_70 rfl (ty_c hS1 (by decide) rfl) (hS1.2 58 19 71 rfl) ?_
          refine q_iload dX9_live_67 rfl ?_
          refine q_iald (x := nI v0) (j := ((240 * i) + k)) dX9_live_69 (ty_c hS1 (by decide) rfl) (ix_n (by omega) (by omega)) r1 ?_
          refine q_if_ltN (tgt := 88) dX9_live_70 (by decide) (by omega) ?_
          refine q_aload_n dX9_live_73 rfl rfl rfl ?_
          refine q_getr (r := 88) dX9_live_74 fX9_147 rfl (ty_c hS1 (by decide) rfl) (hS1.2 58 44 88 rfl) ?_
          refine q_aload_n dX9_live_77 rfl rfl rfl ?_
          refine q_getr (r := 71) dX9_live_78 fX9_70 rfl (ty_c hS1 (by decide) rfl) (hS1.2 58 19 71 rfl) ?_
          refine q_iload dX9_live_81 rfl ?_
          refine q_iald (x := nI v0) (j := ((240 * i) + k)) dX9_live_83 (ty_c hS1 (by decide) rfl) (ix_n (by omega) (by omega)) r1 ?_
          refine q_zald (x := bi (!v v0)) (j := v0) dX9_live_84 (ty_c hS1 (by decide) rfl) (ix_n (by omega) (by omega)) (hI.2.1 v0 b0) ?_
          refine q_if_neB (tgt := 113) dX9_live_85 (by decide) (fun c85 => ?_) (fun c85 => ?_)
          · skip
            refine q_iconst (v := nI 1) dX9_live_113 rfl ?_
            refine q_goto (tgt := 118) dX9_live_114 (by decide) ?_
            refine q_istore dX9_live_118 (by decide) (ls' := [(7, .int (nI 1)), (6, .int (nI ((240 * i) + k))), (0, .ref 58), (1, .int (nI i)), (2, .int (nI l)), (3, .int (nI m)), (4, .int (bi more)), (5, .int (nI k))]) rfl ?_
            refine q_aload_n dX9_live_120 rfl rfl rfl ?_
            refine q_getr (r := 88) dX9_live_121 fX9_147 rfl (ty_c hS1 (by decide) rfl) (hS1.2 58 44 88 rfl) ?_
            refine q_iload dX9_live_124 rfl ?_
            refine q_zald (x := bi (!v k)) (j := k) dX9_live_126 (ty_c hS1 (by decide) rfl) (ix_n (by omega) (by omega)) a0 ?_
            refine q_if_neB (tgt := 173) dX9_live_127 (by decide) (fun c127 => ?_) (fun c127 => ?_)
            · skip
              refine q_iincN (c := 1) dX9_live_173 rfl (by decide) rfl (ls' := [(5, .int (nI (k + 1))), (7, .int (nI 1)), (6, .int (nI ((240 * i) + k))), (0, .ref 58), (1, .int (nI i)), (2, .int (nI l)), (3, .int (nI m)), (4, .int (bi more))]) rfl ?_
              refine q_goto (tgt := 42) dX9_live_176 (by decide) ?_
              refine q_pk [3, 4, 5, 6, 7, 0] (ls' := [(0, .ref 58), (1, .int (nI i)), (2, .int (nI l)), (3, .int (nI m)), (4, .int (bi more)), (5, .int (nI (k + 1)))]) rfl ?_
              first | exact keep (fun z => absurd z (by rw [nb_f c127]; decide)) | exact keep (fun _ => dz_s c139) | exact gone (nb_t c127) (dz_n1 c139 c151) | exact gone (nb_t c127) (dz_n2 c139 (by rw [ea, nb_f c85]; rfl)) | exact gone (nb_t c127) (dz_n2 c139 (by rw [ea, nb_f c110]; simp)) | exact keep (fun _ => dz_a c151 ea) | exact keep (fun _ => dz_a c151 (by rw [ea, nb_t c85]; rfl)) | exact keep (fun _ => dz_a c151 (by rw [ea, nb_t c85, nb_t c110]; rfl)) | exact keep (fun _ => dz_a c151 (by rw [ea, nb_t c110]; rfl))
            · skip
              refine q_aload_n dX9_live_130 rfl rfl rfl ?_
              refine q_iload_n dX9_live_131 rfl rfl ?_
              refine q_iload_n dX9_live_132 rfl rfl ?_
              refine q_iload_n dX9_live_133 rfl rfl ?_
              refine q_iload dX9_live_134 rfl ?_
              refine q_callV (As := [.int (nI i), .int (nI l), .int (nI m), .int (nI k)]) (rest := []) dX9_live_136 vX9_382 (ty_c hS1 (by decide) rfl) ⟨by decide, rfl⟩ (z9_isSet hS1 hi hr hk hl hm hkN) rfl rfl (Nat.le_of_ble_eq_true rfl) (by omega) (by omega) (by omega) (k_p ?_)
              refine q_if_neB (tgt := 173) dX9_live_139 (by decide) (fun c139 => ?_) (fun c139 => ?_)
              · skip
                refine q_iincN (c := 1) dX9_live_173 rfl (by decide) rfl (ls' := [(5, .int (nI (k + 1))), (7, .int (nI 1)), (6, .int (nI ((240 * i) + k))), (0, .ref 58), (1, .int (nI i)), (2, .int (nI l)), (3, .int (nI m)), (4, .int (bi more))]) rfl ?_
                refine q_goto (tgt := 42) dX9_live_176 (by decide) ?_
                refine q_pk [3, 4, 5, 6, 7, 0] (ls' := [(0, .ref 58), (1, .int (nI i)), (2, .int (nI l)), (3, .int (nI m)), (4, .int (bi more)), (5, .int (nI (k + 1)))]) rfl ?_
                first | exact keep (fun z => absurd z (by rw [nb_f c127]; decide)) | exact keep (fun _ => dz_s c139) | exact gone (nb_t c127) (dz_n1 c139 c151) | exact gone (nb_t c127) (dz_n2 c139 (by rw [ea, nb_f c85]; rfl)) | exact gone (nb_t c127) (dz_n2 c139 (by rw [ea, nb_f c110]; simp)) | exact keep (fun _ => dz_a c151 ea) | exact keep (fun _ => dz_a c151 (by rw [ea, nb_t c85]; rfl)) | exact keep (fun _ => dz_a c151 (by rw [ea, nb_t c85, nb_t c110]; rfl)) | exact keep (fun _ => dz_a c151 (by rw [ea, nb_t c110]; rfl))
              · skip
                refine q_aload_n dX9_live_142 rfl rfl rfl ?_
                refine q_iload_n dX9_live_143 rfl rfl ?_
                refine q_iload_n dX9_live_144 rfl rfl ?_
                refine q_iload_n dX9_live_145 rfl rfl ?_
                refine q_iload dX9_live_146 rfl ?_
                refine q_callV (As := [.int (nI i), .int (nI l), .int (nI m), .int (nI k)]) (rest := []) dX9_live_148 vX9_385 (ty_c hS1 (by decide) rfl) ⟨by decide, rfl⟩ (z9_isTaken hS1 hi hr hk hl hm hkN) rfl rfl (Nat.le_of_ble_eq_true rfl) (by omega) (by omega) (by omega) (k_p ?_)
                refine q_if_neB (tgt := 162) dX9_live_151 (by decide) (fun c151 => ?_) (fun c151 => ?_)
                · skip
                  refine q_aload_n dX9_live_162 rfl rfl rfl ?_
                  refine q_getr (r := 88) dX9_live_163 fX9_147 rfl (ty_c hS1 (by decide) rfl) (hS1.2 58 44 88 rfl) ?_
                  refine q_iload dX9_live_166 rfl ?_
                  refine q_iconst (v := nI 1) dX9_live_168 rfl ?_
                  refine q_zast (j := k) dX9_live_169 (ty_c hS1 (by decide) rfl) (ix_n (by omega) (by omega)) (Or.inr rfl) ?_
                  refine q_iconst (v := nI 1) dX9_live_170 rfl ?_
                  refine q_top (y := bi true) rfl ?_
                  refine q_istore dX9_live_171 (by decide) (ls' := [(4, .int (bi true)), (7, .int (nI 1)), (6, .int (nI ((240 * i) + k))), (0, .ref 58), (1, .int (nI i)), (2, .int (nI l)), (3, .int (nI m)), (5, .int (nI k))]) rfl ?_
                  refine q_iincN (c := 1) dX9_live_173 rfl (by decide) rfl (ls' := [(5, .int (nI (k + 1))), (4, .int (bi true)), (7, .int (nI 1)), (6, .int (nI ((240 * i) + k))), (0, .ref 58), (1, .int (nI i)), (2, .int (nI l)), (3, .int (nI m))]) rfl ?_
                  refine q_goto (tgt := 42) dX9_live_176 (by decide) ?_
                  refine q_pk [4, 5, 6, 7, 1, 0] (ls' := [(0, .ref 58), (1, .int (nI i)), (2, .int (nI l)), (3, .int (nI m)), (4, .int (bi true)), (5, .int (nI (k + 1)))]) rfl ?_
                  first | exact keep (fun z => absurd z (by rw [nb_f c127]; decide)) | exact keep (fun _ => dz_s c139) | exact gone (nb_t c127) (dz_n1 c139 c151) | exact gone (nb_t c127) (dz_n2 c139 (by rw [ea, nb_f c85]; rfl)) | exact gone (nb_t c127) (dz_n2 c139 (by rw [ea, nb_f c110]; simp)) | exact keep (fun _ => dz_a c151 ea) | exact keep (fun _ => dz_a c151 (by rw [ea, nb_t c85]; rfl)) | exact keep (fun _ => dz_a c151 (by rw [ea, nb_t c85, nb_t c110]; rfl)) | exact keep (fun _ => dz_a c151 (by rw [ea, nb_t c110]; rfl))
                · skip
                  refine q_iload dX9_live_154 rfl ?_
                  refine q_if_neN (tgt := 162) dX9_live_156 (by decide) (by omega) (fun _ => ?_) (fun h => absurd h (by decide))
                  refine q_aload_n dX9_live_162 rfl rfl rfl ?_
                  refine q_getr (r := 88) dX9_live_163 fX9_147 rfl (ty_c hS1 (by decide) rfl) (hS1.2 58 44 88 rfl) ?_
                  refine q_iload dX9_live_166 rfl ?_
                  refine q_iconst (v := nI 1) dX9_live_168 rfl ?_
                  refine q_zast (j := k) dX9_live_169 (ty_c hS1 (by decide) rfl) (ix_n (by omega) (by omega)) (Or.inr rfl) ?_
                  refine q_iconst (v := nI 1) dX9_live_170 rfl ?_
                  refine q_top (y := bi true) rfl ?_
                  refine q_istore dX9_live_171 (by decide) (ls' := [(4, .int (bi true)), (7, .int (nI 1)), (6, .int (nI ((240 * i) + k))), (0, .ref 58), (1, .int (nI i)), (2, .int (nI l)), (3, .int (nI m)), (5, .int (nI k))]) rfl ?_
                  refine q_iincN (c := 1) dX9_live_173 rfl (by decide) rfl (ls' := [(5, .int (nI (k + 1))), (4, .int (bi true)), (7, .int (nI 1)), (6, .int (nI ((240 * i) + k))), (0, .ref 58), (1, .int (nI i)), (2, .int (nI l)), (3, .int (nI m))]) rfl ?_
                  refine q_goto (tgt := 42) dX9_live_176 (by decide) ?_
                  refine q_pk [4, 5, 6, 7, 1, 0] (ls' := [(0, .ref 58), (1, .int (nI i)), (2, .int (nI l)), (3, .int (nI m)), (4, .int (bi true)), (5, .int (nI (k + 1)))]) rfl ?_
                  first | exact keep (fun z => absurd z (by rw [nb_f c127]; decide)) | exact keep (fun _ => dz_s c139) | exact gone (nb_t c127) (dz_n1 c139 c151) | exact gone (nb_t c127) (dz_n2 c139 (by rw [ea, nb_f c85]; rfl)) | exact gone (nb_t c127) (dz_n2 c139 (by rw [ea, nb_f c110]; simp)) | exact keep (fun _ => dz_a c151 ea) | exact keep (fun _ => dz_a c151 (by rw [ea, nb_t c85]; rfl)) | exact keep (fun _ => dz_a c151 (by rw [ea, nb_t c85, nb_t c110]; rfl)) | exact keep (fun _ => dz_a c151 (by rw [ea, nb_t c110]; rfl))
          · skip
            refine q_aload_n dX9_live_88 rfl rfl rfl ?_
            refine q_getr (r := 72) dX9_live_89 fX9_73 rfl (ty_c hS1 (by decide) rfl) (hS1.2 58 20 72 rfl) ?_
            refine q_iload dX9_live_92 rfl ?_
            refine q_iald (x := (-1)) (j := ((240 * i) + k)) dX9_live_94 (ty_c hS1 (by decide) rfl) (ix_n (by omega) (by omega)) r2 ?_
            refine q_if_lt1 (tgt := 117) dX9_live_95 (by decide) (by decide) ?_
            refine q_iconst (v := nI 0) dX9_live_117 rfl ?_
            refine q_istore dX9_live_118 (by decide) (ls' := [(7, .int (nI 0)), (6, .int (nI ((240 * i) + k))), (0, .ref 58), (1, .int (nI i)), (2, .int (nI l)), (3, .int (nI m)), (4, .int (bi more)), (5, .int (nI k))]) rfl ?_
            refine q_aload_n dX9_live_120 rfl rfl rfl ?_
            refine q_getr (r := 88) dX9_live_121 fX9_147 rfl (ty_c hS1 (by decide) rfl) (hS1.2 58 44 88 rfl) ?_
            refine q_iload dX9_live_124 rfl ?_
            refine q_zald (x := bi (!v k)) (j := k) dX9_live_126 (ty_c hS1 (by decide) rfl) (ix_n (by omega) (by omega)) a0 ?_
            refine q_if_neB (tgt := 173) dX9_live_127 (by decide) (fun c127 => ?_) (fun c127 => ?_)
            · skip
              refine q_iincN (c := 1) dX9_live_173 rfl (by decide) rfl (ls' := [(5, .int (nI (k + 1))), (7, .int (nI 0)), (6, .int (nI ((240 * i) + k))), (0, .ref 58), (1, .int (nI i)), (2, .int (nI l)), (3, .int (nI m)), (4, .int (bi more))]) rfl ?_
              refine q_goto (tgt := 42) dX9_live_176 (by decide) ?_
              refine q_pk [3, 4, 5, 6, 7, 0] (ls' := [(0, .ref 58), (1, .int (nI i)), (2, .int (nI l)), (3, .int (nI m)), (4, .int (bi more)), (5, .int (nI (k + 1)))]) rfl ?_
              first | exact keep (fun z => absurd z (by rw [nb_f c127]; decide)) | exact keep (fun _ => dz_s c139) | exact gone (nb_t c127) (dz_n1 c139 c151) | exact gone (nb_t c127) (dz_n2 c139 (by rw [ea, nb_f c85]; rfl)) | exact gone (nb_t c127) (dz_n2 c139 (by rw [ea, nb_f c110]; simp)) | exact keep (fun _ => dz_a c151 ea) | exact keep (fun _ => dz_a c151 (by rw [ea, nb_t c85]; rfl)) | exact keep (fun _ => dz_a c151 (by rw [ea, nb_t c85, nb_t c110]; rfl)) | exact keep (fun _ => dz_a c151 (by rw [ea, nb_t c110]; rfl))
            · skip
              refine q_aload_n dX9_live_130 rfl rfl rfl ?_
              refine q_iload_n dX9_live_131 rfl rfl ?_
              refine q_iload_n dX9_live_132 rfl rfl ?_
              refine q_iload_n dX9_live_133 rfl rfl ?_
              refine q_iload dX9_live_134 rfl ?_
              refine q_callV (As := [.int (nI i), .int (nI l), .int (nI m), .int (nI k)]) (rest := []) dX9_live_136 vX9_382 (ty_c hS1 (by decide) rfl) ⟨by decide, rfl⟩ (z9_isSet hS1 hi hr hk hl hm hkN) rfl rfl (Nat.le_of_ble_eq_true rfl) (by omega) (by omega) (by omega) (k_p ?_)
              refine q_if_neB (tgt := 173) dX9_live_139 (by decide) (fun c139 => ?_) (fun c139 => ?_)
              · skip
                refine q_iincN (c := 1) dX9_live_173 rfl (by decide) rfl (ls' := [(5, .int (nI (k + 1))), (7, .int (nI 0)), (6, .int (nI ((240 * i) + k))), (0, .ref 58), (1, .int (nI i)), (2, .int (nI l)), (3, .int (nI m)), (4, .int (bi more))]) rfl ?_
                refine q_goto (tgt := 42) dX9_live_176 (by decide) ?_
                refine q_pk [3, 4, 5, 6, 7, 0] (ls' := [(0, .ref 58), (1, .int (nI i)), (2, .int (nI l)), (3, .int (nI m)), (4, .int (bi more)), (5, .int (nI (k + 1)))]) rfl ?_
                first | exact keep (fun z => absurd z (by rw [nb_f c127]; decide)) | exact keep (fun _ => dz_s c139) | exact gone (nb_t c127) (dz_n1 c139 c151) | exact gone (nb_t c127) (dz_n2 c139 (by rw [ea, nb_f c85]; rfl)) | exact gone (nb_t c127) (dz_n2 c139 (by rw [ea, nb_f c110]; simp)) | exact keep (fun _ => dz_a c151 ea) | exact keep (fun _ => dz_a c151 (by rw [ea, nb_t c85]; rfl)) | exact keep (fun _ => dz_a c151 (by rw [ea, nb_t c85, nb_t c110]; rfl)) | exact keep (fun _ => dz_a c151 (by rw [ea, nb_t c110]; rfl))
              · skip
                refine q_aload_n dX9_live_142 rfl rfl rfl ?_
                refine q_iload_n dX9_live_143 rfl rfl ?_
                refine q_iload_n dX9_live_144 rfl rfl ?_
                refine q_iload_n dX9_live_145 rfl rfl ?_
                refine q_iload dX9_live_146 rfl ?_
                refine q_callV (As := [.int (nI i), .int (nI l), .int (nI m), .int (nI k)]) (rest := []) dX9_live_148 vX9_385 (ty_c hS1 (by decide) rfl) ⟨by decide, rfl⟩ (z9_isTaken hS1 hi hr hk hl hm hkN) rfl rfl (Nat.le_of_ble_eq_true rfl) (by omega) (by omega) (by omega) (k_p ?_)
                refine q_if_neB (tgt := 162) dX9_live_151 (by decide) (fun c151 => ?_) (fun c151 => ?_)
                · skip
                  refine q_aload_n dX9_live_162 rfl rfl rfl ?_
                  refine q_getr (r := 88) dX9_live_163 fX9_147 rfl (ty_c hS1 (by decide) rfl) (hS1.2 58 44 88 rfl) ?_
                  refine q_iload dX9_live_166 rfl ?_
                  refine q_iconst (v := nI 1) dX9_live_168 rfl ?_
                  refine q_zast (j := k) dX9_live_169 (ty_c hS1 (by decide) rfl) (ix_n (by omega) (by omega)) (Or.inr rfl) ?_
                  refine q_iconst (v := nI 1) dX9_live_170 rfl ?_
                  refine q_top (y := bi true) rfl ?_
                  refine q_istore dX9_live_171 (by decide) (ls' := [(4, .int (bi true)), (7, .int (nI 0)), (6, .int (nI ((240 * i) + k))), (0, .ref 58), (1, .int (nI i)), (2, .int (nI l)), (3, .int (nI m)), (5, .int (nI k))]) rfl ?_
                  refine q_iincN (c := 1) dX9_live_173 rfl (by decide) rfl (ls' := [(5, .int (nI (k + 1))), (4, .int (bi true)), (7, .int (nI 0)), (6, .int (nI ((240 * i) + k))), (0, .ref 58), (1, .int (nI i)), (2, .int (nI l)), (3, .int (nI m))]) rfl ?_
                  refine q_goto (tgt := 42) dX9_live_176 (by decide) ?_
                  refine q_pk [4, 5, 6, 7, 1, 0] (ls' := [(0, .ref 58), (1, .int (nI i)), (2, .int (nI l)), (3, .int (nI m)), (4, .int (bi true)), (5, .int (nI (k + 1)))]) rfl ?_
                  first | exact keep (fun z => absurd z (by rw [nb_f c127]; decide)) | exact keep (fun _ => dz_s c139) | exact gone (nb_t c127) (dz_n1 c139 c151) | exact gone (nb_t c127) (dz_n2 c139 (by rw [ea, nb_f c85]; rfl)) | exact gone (nb_t c127) (dz_n2 c139 (by rw [ea, nb_f c110]; simp)) | exact keep (fun _ => dz_a c151 ea) | exact keep (fun _ => dz_a c151 (by rw [ea, nb_t c85]; rfl)) | exact keep (fun _ => dz_a c151 (by rw [ea, nb_t c85, nb_t c110]; rfl)) | exact keep (fun _ => dz_a c151 (by rw [ea, nb_t c110]; rfl))
                · skip
                  refine q_iload dX9_live_154 rfl ?_
                  refine q_if_neN (tgt := 162) dX9_live_156 (by decide) (by omega) (fun h => absurd h (by decide)) (fun _ => ?_)
                  refine q_goto (tgt := 173) dX9_live_159 (by decide) ?_
                  refine q_iincN (c := 1) dX9_live_173 rfl (by decide) rfl (ls' := [(5, .int (nI (k + 1))), (7, .int (nI 0)), (6, .int (nI ((240 * i) + k))), (0, .ref 58), (1, .int (nI i)), (2, .int (nI l)), (3, .int (nI m)), (4, .int (bi more))]) rfl ?_
                  refine q_goto (tgt := 42) dX9_live_176 (by decide) ?_
                  refine q_pk [3, 4, 5, 6, 7, 0] (ls' := [(0, .ref 58), (1, .int (nI i)), (2, .int (nI l)), (3, .int (nI m)), (4, .int (bi more)), (5, .int (nI (k + 1)))]) rfl ?_
                  first | exact keep (fun z => absurd z (by rw [nb_f c127]; decide)) | exact keep (fun _ => dz_s c139) | exact gone (nb_t c127) (dz_n1 c139 c151) | exact gone (nb_t c127) (dz_n2 c139 (by rw [ea, nb_f c85]; rfl)) | exact gone (nb_t c127) (dz_n2 c139 (by rw [ea, nb_f c110]; simp)) | exact keep (fun _ => dz_a c151 ea) | exact keep (fun _ => dz_a c151 (by rw [ea, nb_t c85]; rfl)) | exact keep (fun _ => dz_a c151 (by rw [ea, nb_t c85, nb_t c110]; rfl)) | exact keep (fun _ => dz_a c151 (by rw [ea, nb_t c110]; rfl))
      | some v1 =>
        rw [l1] at r2
        have b1 := k1 v1 l1
        have ea : alQ q v k = (v v0 && v v1) := by unfold alQ; rw [l0, l1]
        refine q_iload dX9_live_42 rfl ?_
        refine q_aload_n dX9_live_44 rfl rfl rfl ?_
        refine q_getr (r := 62) dX9_live_45 fX9_43 rfl (ty_c hS1 (by decide) rfl) (hS1.2 58 10 62 rfl) ?_
        refine q_iload_n dX9_live_48 rfl rfl ?_
        refine q_iald (x := nI (NN q)) (j := i) dX9_live_49 (ty_c hS1 (by decide) rfl) (ix_n (by omega) (by omega)) r62 ?_
        refine q_icmp_geN (tgt := 179) dX9_live_50 (by decide) (by omega) (by omega) (fun c50 => ?_) (fun c50 => ?_)
        · exact absurd c50 (by omega)
        · skip
          refine q_sipush (v := nI 240) dX9_live_53 rfl ?_
          refine q_iload_n dX9_live_56 rfl rfl ?_
          refine q_imulN dX9_live_57 ?_
          refine q_iload dX9_live_58 rfl ?_
          refine q_iaddN dX9_live_60 ?_
          refine q_istore dX9_live_61 (by decide) (ls' := [(6, .int (nI ((240 * i) + k))), (0, .ref 58), (1, .int (nI i)), (2, .int (nI l)), (3, .int (nI m)), (4, .int (bi more)), (5, .int (nI k))]) rfl ?_
          refine q_aload_n dX9_live_63 rfl rfl rfl ?_
          refine q_getr (r := 71) dX9_live_64 fX9_70 rfl (ty_c hS1 (by decide) rfl) (hS1.2 58 19 71 rfl) ?_
          refine q_iload dX9_live_67 rfl ?_
          refine q_iald (x := nI v0) (j := ((240 * i) + k)) dX9_live_69 (ty_c hS1 (by decide) rfl) (ix_n (by omega) (by omega)) r1 ?_
          refine q_if_ltN (tgt := 88) dX9_live_70 (by decide) (by omega) ?_
          refine q_aload_n dX9_live_73 rfl rfl rfl ?_
          refine q_getr (r := 88) dX9_live_74 fX9_147 rfl (ty_c hS1 (by decide) rfl) (hS1.2 58 44 88 rfl) ?_
          refine q_aload_n dX9_live_77 rfl rfl rfl ?_
          refine q_getr (r := 71) dX9_live_78 fX9_70 rfl (ty_c hS1 (by decide) rfl) (hS1.2 58 19 71 rfl) ?_
          refine q_iload dX9_live_81 rfl ?_
          refine q_iald (x := nI v0) (j := ((240 * i) + k)) dX9_live_83 (ty_c hS1 (by decide) rfl) (ix_n (by omega) (by omega)) r1 ?_
          refine q_zald (x := bi (!v v0)) (j := v0) dX9_live_84 (ty_c hS1 (by decide) rfl) (ix_n (by omega) (by omega)) (hI.2.1 v0 b0) ?_
          refine q_if_neB (tgt := 113) dX9_live_85 (by decide) (fun c85 => ?_) (fun c85 => ?_)
          · skip
            refine q_iconst (v := nI 1) dX9_live_113 rfl ?_
            refine q_goto (tgt := 118) dX9_live_114 (by decide) ?_
            refine q_istore dX9_live_118 (by decide) (ls' := [(7, .int (nI 1)), (6, .int (nI ((240 * i) + k))), (0, .ref 58), (1, .int (nI i)), (2, .int (nI l)), (3, .int (nI m)), (4, .int (bi more)), (5, .int (nI k))]) rfl ?_
            refine q_aload_n dX9_live_120 rfl rfl rfl ?_
            refine q_getr (r := 88) dX9_live_121 fX9_147 rfl (ty_c hS1 (by decide) rfl) (hS1.2 58 44 88 rfl) ?_
            refine q_iload dX9_live_124 rfl ?_
            refine q_zald (x := bi (!v k)) (j := k) dX9_live_126 (ty_c hS1 (by decide) rfl) (ix_n (by omega) (by omega)) a0 ?_
            refine q_if_neB (tgt := 173) dX9_live_127 (by decide) (fun c127 => ?_) (fun c127 => ?_)
            · skip
              refine q_iincN (c := 1) dX9_live_173 rfl (by decide) rfl (ls' := [(5, .int (nI (k + 1))), (7, .int (nI 1)), (6, .int (nI ((240 * i) + k))), (0, .ref 58), (1, .int (nI i)), (2, .int (nI l)), (3, .int (nI m)), (4, .int (bi more))]) rfl ?_
              refine q_goto (tgt := 42) dX9_live_176 (by decide) ?_
              refine q_pk [3, 4, 5, 6, 7, 0] (ls' := [(0, .ref 58), (1, .int (nI i)), (2, .int (nI l)), (3, .int (nI m)), (4, .int (bi more)), (5, .int (nI (k + 1)))]) rfl ?_
              first | exact keep (fun z => absurd z (by rw [nb_f c127]; decide)) | exact keep (fun _ => dz_s c139) | exact gone (nb_t c127) (dz_n1 c139 c151) | exact gone (nb_t c127) (dz_n2 c139 (by rw [ea, nb_f c85]; rfl)) | exact gone (nb_t c127) (dz_n2 c139 (by rw [ea, nb_f c110]; simp)) | exact keep (fun _ => dz_a c151 ea) | exact keep (fun _ => dz_a c151 (by rw [ea, nb_t c85]; rfl)) | exact keep (fun _ => dz_a c151 (by rw [ea, nb_t c85, nb_t c110]; rfl)) | exact keep (fun _ => dz_a c151 (by rw [ea, nb_t c110]; rfl))
            · skip
              refine q_aload_n dX9_live_130 rfl rfl rfl ?_
              refine q_iload_n dX9_live_131 rfl rfl ?_
              refine q_iload_n dX9_live_132 rfl rfl ?_
              refine q_iload_n dX9_live_133 rfl rfl ?_
              refine q_iload dX9_live_134 rfl ?_
              refine q_callV (As := [.int (nI i), .int (nI l), .int (nI m), .int (nI k)]) (rest := []) dX9_live_136 vX9_382 (ty_c hS1 (by decide) rfl) ⟨by decide, rfl⟩ (z9_isSet hS1 hi hr hk hl hm hkN) rfl rfl (Nat.le_of_ble_eq_true rfl) (by omega) (by omega) (by omega) (k_p ?_)
              refine q_if_neB (tgt := 173) dX9_live_139 (by decide) (fun c139 => ?_) (fun c139 => ?_)
              · skip
                refine q_iincN (c := 1) dX9_live_173 rfl (by decide) rfl (ls' := [(5, .int (nI (k + 1))), (7, .int (nI 1)), (6, .int (nI ((240 * i) + k))), (0, .ref 58), (1, .int (nI i)), (2, .int (nI l)), (3, .int (nI m)), (4, .int (bi more))]) rfl ?_
                refine q_goto (tgt := 42) dX9_live_176 (by decide) ?_
                refine q_pk [3, 4, 5, 6, 7, 0] (ls' := [(0, .ref 58), (1, .int (nI i)), (2, .int (nI l)), (3, .int (nI m)), (4, .int (bi more)), (5, .int (nI (k + 1)))]) rfl ?_
                first | exact keep (fun z => absurd z (by rw [nb_f c127]; decide)) | exact keep (fun _ => dz_s c139) | exact gone (nb_t c127) (dz_n1 c139 c151) | exact gone (nb_t c127) (dz_n2 c139 (by rw [ea, nb_f c85]; rfl)) | exact gone (nb_t c127) (dz_n2 c139 (by rw [ea, nb_f c110]; simp)) | exact keep (fun _ => dz_a c151 ea) | exact keep (fun _ => dz_a c151 (by rw [ea, nb_t c85]; rfl)) | exact keep (fun _ => dz_a c151 (by rw [ea, nb_t c85, nb_t c110]; rfl)) | exact keep (fun _ => dz_a c151 (by rw [ea, nb_t c110]; rfl))
              · skip
                refine q_aload_n dX9_live_142 rfl rfl rfl ?_
                refine q_iload_n dX9_live_143 rfl rfl ?_
                refine q_iload_n dX9_live_144 rfl rfl ?_
                refine q_iload_n dX9_live_145 rfl rfl ?_
                refine q_iload dX9_live_146 rfl ?_
                refine q_callV (As := [.int (nI i), .int (nI l), .int (nI m), .int (nI k)]) (rest := []) dX9_live_148 vX9_385 (ty_c hS1 (by decide) rfl) ⟨by decide, rfl⟩ (z9_isTaken hS1 hi hr hk hl hm hkN) rfl rfl (Nat.le_of_ble_eq_true rfl) (by omega) (by omega) (by omega) (k_p ?_)
                refine q_if_neB (tgt := 162) dX9_live_151 (by decide) (fun c151 => ?_) (fun c151 => ?_)
                · skip
                  refine q_aload_n dX9_live_162 rfl rfl rfl ?_
                  refine q_getr (r := 88) dX9_live_163 fX9_147 rfl (ty_c hS1 (by decide) rfl) (hS1.2 58 44 88 rfl) ?_
                  refine q_iload dX9_live_166 rfl ?_
                  refine q_iconst (v := nI 1) dX9_live_168 rfl ?_
                  refine q_zast (j := k) dX9_live_169 (ty_c hS1 (by decide) rfl) (ix_n (by omega) (by omega)) (Or.inr rfl) ?_
                  refine q_iconst (v := nI 1) dX9_live_170 rfl ?_
                  refine q_top (y := bi true) rfl ?_
                  refine q_istore dX9_live_171 (by decide) (ls' := [(4, .int (bi true)), (7, .int (nI 1)), (6, .int (nI ((240 * i) + k))), (0, .ref 58), (1, .int (nI i)), (2, .int (nI l)), (3, .int (nI m)), (5, .int (nI k))]) rfl ?_
                  refine q_iincN (c := 1) dX9_live_173 rfl (by decide) rfl (ls' := [(5, .int (nI (k + 1))), (4, .int (bi true)), (7, .int (nI 1)), (6, .int (nI ((240 * i) + k))), (0, .ref 58), (1, .int (nI i)), (2, .int (nI l)), (3, .int (nI m))]) rfl ?_
                  refine q_goto (tgt := 42) dX9_live_176 (by decide) ?_
                  refine q_pk [4, 5, 6, 7, 1, 0] (ls' := [(0, .ref 58), (1, .int (nI i)), (2, .int (nI l)), (3, .int (nI m)), (4, .int (bi true)), (5, .int (nI (k + 1)))]) rfl ?_
                  first | exact keep (fun z => absurd z (by rw [nb_f c127]; decide)) | exact keep (fun _ => dz_s c139) | exact gone (nb_t c127) (dz_n1 c139 c151) | exact gone (nb_t c127) (dz_n2 c139 (by rw [ea, nb_f c85]; rfl)) | exact gone (nb_t c127) (dz_n2 c139 (by rw [ea, nb_f c110]; simp)) | exact keep (fun _ => dz_a c151 ea) | exact keep (fun _ => dz_a c151 (by rw [ea, nb_t c85]; rfl)) | exact keep (fun _ => dz_a c151 (by rw [ea, nb_t c85, nb_t c110]; rfl)) | exact keep (fun _ => dz_a c151 (by rw [ea, nb_t c110]; rfl))
                · skip
                  refine q_iload dX9_live_154 rfl ?_
                  refine q_if_neN (tgt := 162) dX9_live_156 (by decide) (by omega) (fun _ => ?_) (fun h => absurd h (by decide))
                  refine q_aload_n dX9_live_162 rfl rfl rfl ?_
                  refine q_getr (r := 88) dX9_live_163 fX9_147 rfl (ty_c hS1 (by decide) rfl) (hS1.2 58 44 88 rfl) ?_
                  refine q_iload dX9_live_166 rfl ?_
                  refine q_iconst (v := nI 1) dX9_live_168 rfl ?_
                  refine q_zast (j := k) dX9_live_169 (ty_c hS1 (by decide) rfl) (ix_n (by omega) (by omega)) (Or.inr rfl) ?_
                  refine q_iconst (v := nI 1) dX9_live_170 rfl ?_
                  refine q_top (y := bi true) rfl ?_
                  refine q_istore dX9_live_171 (by decide) (ls' := [(4, .int (bi true)), (7, .int (nI 1)), (6, .int (nI ((240 * i) + k))), (0, .ref 58), (1, .int (nI i)), (2, .int (nI l)), (3, .int (nI m)), (5, .int (nI k))]) rfl ?_
                  refine q_iincN (c := 1) dX9_live_173 rfl (by decide) rfl (ls' := [(5, .int (nI (k + 1))), (4, .int (bi true)), (7, .int (nI 1)), (6, .int (nI ((240 * i) + k))), (0, .ref 58), (1, .int (nI i)), (2, .int (nI l)), (3, .int (nI m))]) rfl ?_
                  refine q_goto (tgt := 42) dX9_live_176 (by decide) ?_
                  refine q_pk [4, 5, 6, 7, 1, 0] (ls' := [(0, .ref 58), (1, .int (nI i)), (2, .int (nI l)), (3, .int (nI m)), (4, .int (bi true)), (5, .int (nI (k + 1)))]) rfl ?_
                  first | exact keep (fun z => absurd z (by rw [nb_f c127]; decide)) | exact keep (fun _ => dz_s c139) | exact gone (nb_t c127) (dz_n1 c139 c151) | exact gone (nb_t c127) (dz_n2 c139 (by rw [ea, nb_f c85]; rfl)) | exact gone (nb_t c127) (dz_n2 c139 (by rw [ea, nb_f c110]; simp)) | exact keep (fun _ => dz_a c151 ea) | exact keep (fun _ => dz_a c151 (by rw [ea, nb_t c85]; rfl)) | exact keep (fun _ => dz_a c151 (by rw [ea, nb_t c85, nb_t c110]; rfl)) | exact keep (fun _ => dz_a c151 (by rw [ea, nb_t c110]; rfl))
          · skip
            refine q_aload_n dX9_live_88 rfl rfl rfl ?_
            refine q_getr (r := 72) dX9_live_89 fX9_73 rfl (ty_c hS1 (by decide) rfl) (hS1.2 58 20 72 rfl) ?_
            refine q_iload dX9_live_92 rfl ?_
            refine q_iald (x := nI v1) (j := ((240 * i) + k)) dX9_live_94 (ty_c hS1 (by decide) rfl) (ix_n (by omega) (by omega)) r2 ?_
            refine q_if_ltN (tgt := 117) dX9_live_95 (by decide) (by omega) ?_
            refine q_aload_n dX9_live_98 rfl rfl rfl ?_
            refine q_getr (r := 88) dX9_live_99 fX9_147 rfl (ty_c hS1 (by decide) rfl) (hS1.2 58 44 88 rfl) ?_
            refine q_aload_n dX9_live_102 rfl rfl rfl ?_
            refine q_getr (r := 72) dX9_live_103 fX9_73 rfl (ty_c hS1 (by decide) rfl) (hS1.2 58 20 72 rfl) ?_
            refine q_iload dX9_live_106 rfl ?_
            refine q_iald (x := nI v1) (j := ((240 * i) + k)) dX9_live_108 (ty_c hS1 (by decide) rfl) (ix_n (by omega) (by omega)) r2 ?_
            refine q_zald (x := bi (!v v1)) (j := v1) dX9_live_109 (ty_c hS1 (by decide) rfl) (ix_n (by omega) (by omega)) (hI.2.1 v1 b1) ?_
            refine q_if_eqB (tgt := 117) dX9_live_110 (by decide) (fun c110 => ?_) (fun c110 => ?_)
            · skip
              refine q_iconst (v := nI 0) dX9_live_117 rfl ?_
              refine q_istore dX9_live_118 (by decide) (ls' := [(7, .int (nI 0)), (6, .int (nI ((240 * i) + k))), (0, .ref 58), (1, .int (nI i)), (2, .int (nI l)), (3, .int (nI m)), (4, .int (bi more)), (5, .int (nI k))]) rfl ?_
              refine q_aload_n dX9_live_120 rfl rfl rfl ?_
              refine q_getr (r := 88) dX9_live_121 fX9_147 rfl (ty_c hS1 (by decide) rfl) (hS1.2 58 44 88 rfl) ?_
              refine q_iload dX9_live_124 rfl ?_
              refine q_zald (x := bi (!v k)) (j := k) dX9_live_126 (ty_c hS1 (by decide) rfl) (ix_n (by omega) (by omega)) a0 ?_
              refine q_if_neB (tgt := 173) dX9_live_127 (by decide) (fun c127 => ?_) (fun c127 => ?_)
              · skip
                refine q_iincN (c := 1) dX9_live_173 rfl (by decide) rfl (ls' := [(5, .int (nI (k + 1))), (7, .int (nI 0)), (6, .int (nI ((240 * i) + k))), (0, .ref 58), (1, .int (nI i)), (2, .int (nI l)), (3, .int (nI m)), (4, .int (bi more))]) rfl ?_
                refine q_goto (tgt := 42) dX9_live_176 (by decide) ?_
                refine q_pk [3, 4, 5, 6, 7, 0] (ls' := [(0, .ref 58), (1, .int (nI i)), (2, .int (nI l)), (3, .int (nI m)), (4, .int (bi more)), (5, .int (nI (k + 1)))]) rfl ?_
                first | exact keep (fun z => absurd z (by rw [nb_f c127]; decide)) | exact keep (fun _ => dz_s c139) | exact gone (nb_t c127) (dz_n1 c139 c151) | exact gone (nb_t c127) (dz_n2 c139 (by rw [ea, nb_f c85]; rfl)) | exact gone (nb_t c127) (dz_n2 c139 (by rw [ea, nb_f c110]; simp)) | exact keep (fun _ => dz_a c151 ea) | exact keep (fun _ => dz_a c151 (by rw [ea, nb_t c85]; rfl)) | exact keep (fun _ => dz_a c151 (by rw [ea, nb_t c85, nb_t c110]; rfl)) | exact keep (fun _ => dz_a c151 (by rw [ea, nb_t c110]; rfl))
              · skip
                refine q_aload_n dX9_live_130 rfl rfl rfl ?_
                refine q_iload_n dX9_live_131 rfl rfl ?_
                refine q_iload_n dX9_live_132 rfl rfl ?_
                refine q_iload_n dX9_live_133 rfl rfl ?_
                refine q_iload dX9_live_134 rfl ?_
                refine q_callV (As := [.int (nI i), .int (nI l), .int (nI m), .int (nI k)]) (rest := []) dX9_live_136 vX9_382 (ty_c hS1 (by decide) rfl) ⟨by decide, rfl⟩ (z9_isSet hS1 hi hr hk hl hm hkN) rfl rfl (Nat.le_of_ble_eq_true rfl) (by omega) (by omega) (by omega) (k_p ?_)
                refine q_if_neB (tgt := 173) dX9_live_139 (by decide) (fun c139 => ?_) (fun c139 => ?_)
                · skip
                  refine q_iincN (c := 1) dX9_live_173 rfl (by decide) rfl (ls' := [(5, .int (nI (k + 1))), (7, .int (nI 0)), (6, .int (nI ((240 * i) + k))), (0, .ref 58), (1, .int (nI i)), (2, .int (nI l)), (3, .int (nI m)), (4, .int (bi more))]) rfl ?_
                  refine q_goto (tgt := 42) dX9_live_176 (by decide) ?_
                  refine q_pk [3, 4, 5, 6, 7, 0] (ls' := [(0, .ref 58), (1, .int (nI i)), (2, .int (nI l)), (3, .int (nI m)), (4, .int (bi more)), (5, .int (nI (k + 1)))]) rfl ?_
                  first | exact keep (fun z => absurd z (by rw [nb_f c127]; decide)) | exact keep (fun _ => dz_s c139) | exact gone (nb_t c127) (dz_n1 c139 c151) | exact gone (nb_t c127) (dz_n2 c139 (by rw [ea, nb_f c85]; rfl)) | exact gone (nb_t c127) (dz_n2 c139 (by rw [ea, nb_f c110]; simp)) | exact keep (fun _ => dz_a c151 ea) | exact keep (fun _ => dz_a c151 (by rw [ea, nb_t c85]; rfl)) | exact keep (fun _ => dz_a c151 (by rw [ea, nb_t c85, nb_t c110]; rfl)) | exact keep (fun _ => dz_a c151 (by rw [ea, nb_t c110]; rfl))
                · skip
                  refine q_aload_n dX9_live_142 rfl rfl rfl ?_
                  refine q_iload_n dX9_live_143 rfl rfl ?_
                  refine q_iload_n dX9_live_144 rfl rfl ?_
                  refine q_iload_n dX9_live_145 rfl rfl ?_
                  refine q_iload dX9_live_146 rfl ?_
                  refine q_callV (As := [.int (nI i), .int (nI l), .int (nI m), .int (nI k)]) (rest := []) dX9_live_148 vX9_385 (ty_c hS1 (by decide) rfl) ⟨by decide, rfl⟩ (z9_isTaken hS1 hi hr hk hl hm hkN) rfl rfl (Nat.le_of_ble_eq_true rfl) (by omega) (by omega) (by omega) (k_p ?_)
                  refine q_if_neB (tgt := 162) dX9_live_151 (by decide) (fun c151 => ?_) (fun c151 => ?_)
                  · skip
                    refine q_aload_n dX9_live_162 rfl rfl rfl ?_
                    refine q_getr (r := 88) dX9_live_163 fX9_147 rfl (ty_c hS1 (by decide) rfl) (hS1.2 58 44 88 rfl) ?_
                    refine q_iload dX9_live_166 rfl ?_
                    refine q_iconst (v := nI 1) dX9_live_168 rfl ?_
                    refine q_zast (j := k) dX9_live_169 (ty_c hS1 (by decide) rfl) (ix_n (by omega) (by omega)) (Or.inr rfl) ?_
                    refine q_iconst (v := nI 1) dX9_live_170 rfl ?_
                    refine q_top (y := bi true) rfl ?_
                    refine q_istore dX9_live_171 (by decide) (ls' := [(4, .int (bi true)), (7, .int (nI 0)), (6, .int (nI ((240 * i) + k))), (0, .ref 58), (1, .int (nI i)), (2, .int (nI l)), (3, .int (nI m)), (5, .int (nI k))]) rfl ?_
                    refine q_iincN (c := 1) dX9_live_173 rfl (by decide) rfl (ls' := [(5, .int (nI (k + 1))), (4, .int (bi true)), (7, .int (nI 0)), (6, .int (nI ((240 * i) + k))), (0, .ref 58), (1, .int (nI i)), (2, .int (nI l)), (3, .int (nI m))]) rfl ?_
                    refine q_goto (tgt := 42) dX9_live_176 (by decide) ?_
                    refine q_pk [4, 5, 6, 7, 1, 0] (ls' := [(0, .ref 58), (1, .int (nI i)), (2, .int (nI l)), (3, .int (nI m)), (4, .int (bi true)), (5, .int (nI (k + 1)))]) rfl ?_
                    first | exact keep (fun z => absurd z (by rw [nb_f c127]; decide)) | exact keep (fun _ => dz_s c139) | exact gone (nb_t c127) (dz_n1 c139 c151) | exact gone (nb_t c127) (dz_n2 c139 (by rw [ea, nb_f c85]; rfl)) | exact gone (nb_t c127) (dz_n2 c139 (by rw [ea, nb_f c110]; simp)) | exact keep (fun _ => dz_a c151 ea) | exact keep (fun _ => dz_a c151 (by rw [ea, nb_t c85]; rfl)) | exact keep (fun _ => dz_a c151 (by rw [ea, nb_t c85, nb_t c110]; rfl)) | exact keep (fun _ => dz_a c151 (by rw [ea, nb_t c110]; rfl))
                  · skip
                    refine q_iload dX9_live_154 rfl ?_
                    refine q_if_neN (tgt := 162) dX9_live_156 (by decide) (by omega) (fun h => absurd h (by decide)) (fun _ => ?_)
                    refine q_goto (tgt := 173) dX9_live_159 (by decide) ?_
                    refine q_iincN (c := 1) dX9_live_173 rfl (by decide) rfl (ls' := [(5, .int (nI (k + 1))), (7, .int (nI 0)), (6, .int (nI ((240 * i) + k))), (0, .ref 58), (1, .int (nI i)), (2, .int (nI l)), (3, .int (nI m)), (4, .int (bi more))]) rfl ?_
                    refine q_goto (tgt := 42) dX9_live_176 (by decide) ?_
                    refine q_pk [3, 4, 5, 6, 7, 0] (ls' := [(0, .ref 58), (1, .int (nI i)), (2, .int (nI l)), (3, .int (nI m)), (4, .int (bi more)), (5, .int (nI (k + 1)))]) rfl ?_
                    first | exact keep (fun z => absurd z (by rw [nb_f c127]; decide)) | exact keep (fun _ => dz_s c139) | exact gone (nb_t c127) (dz_n1 c139 c151) | exact gone (nb_t c127) (dz_n2 c139 (by rw [ea, nb_f c85]; rfl)) | exact gone (nb_t c127) (dz_n2 c139 (by rw [ea, nb_f c110]; simp)) | exact keep (fun _ => dz_a c151 ea) | exact keep (fun _ => dz_a c151 (by rw [ea, nb_t c85]; rfl)) | exact keep (fun _ => dz_a c151 (by rw [ea, nb_t c85, nb_t c110]; rfl)) | exact keep (fun _ => dz_a c151 (by rw [ea, nb_t c110]; rfl))
            · skip
              refine q_iconst (v := nI 1) dX9_live_113 rfl ?_
              refine q_goto (tgt := 118) dX9_live_114 (by decide) ?_
              refine q_istore dX9_live_118 (by decide) (ls' := [(7, .int (nI 1)), (6, .int (nI ((240 * i) + k))), (0, .ref 58), (1, .int (nI i)), (2, .int (nI l)), (3, .int (nI m)), (4, .int (bi more)), (5, .int (nI k))]) rfl ?_
              refine q_aload_n dX9_live_120 rfl rfl rfl ?_
              refine q_getr (r := 88) dX9_live_121 fX9_147 rfl (ty_c hS1 (by decide) rfl) (hS1.2 58 44 88 rfl) ?_
              refine q_iload dX9_live_124 rfl ?_
              refine q_zald (x := bi (!v k)) (j := k) dX9_live_126 (ty_c hS1 (by decide) rfl) (ix_n (by omega) (by omega)) a0 ?_
              refine q_if_neB (tgt := 173) dX9_live_127 (by decide) (fun c127 => ?_) (fun c127 => ?_)
              · skip
                refine q_iincN (c := 1) dX9_live_173 rfl (by decide) rfl (ls' := [(5, .int (nI (k + 1))), (7, .int (nI 1)), (6, .int (nI ((240 * i) + k))), (0, .ref 58), (1, .int (nI i)), (2, .int (nI l)), (3, .int (nI m)), (4, .int (bi more))]) rfl ?_
                refine q_goto (tgt := 42) dX9_live_176 (by decide) ?_
                refine q_pk [3, 4, 5, 6, 7, 0] (ls' := [(0, .ref 58), (1, .int (nI i)), (2, .int (nI l)), (3, .int (nI m)), (4, .int (bi more)), (5, .int (nI (k + 1)))]) rfl ?_
                first | exact keep (fun z => absurd z (by rw [nb_f c127]; decide)) | exact keep (fun _ => dz_s c139) | exact gone (nb_t c127) (dz_n1 c139 c151) | exact gone (nb_t c127) (dz_n2 c139 (by rw [ea, nb_f c85]; rfl)) | exact gone (nb_t c127) (dz_n2 c139 (by rw [ea, nb_f c110]; simp)) | exact keep (fun _ => dz_a c151 ea) | exact keep (fun _ => dz_a c151 (by rw [ea, nb_t c85]; rfl)) | exact keep (fun _ => dz_a c151 (by rw [ea, nb_t c85, nb_t c110]; rfl)) | exact keep (fun _ => dz_a c151 (by rw [ea, nb_t c110]; rfl))
              · skip
                refine q_aload_n dX9_live_130 rfl rfl rfl ?_
                refine q_iload_n dX9_live_131 rfl rfl ?_
                refine q_iload_n dX9_live_132 rfl rfl ?_
                refine q_iload_n dX9_live_133 rfl rfl ?_
                refine q_iload dX9_live_134 rfl ?_
                refine q_callV (As := [.int (nI i), .int (nI l), .int (nI m), .int (nI k)]) (rest := []) dX9_live_136 vX9_382 (ty_c hS1 (by decide) rfl) ⟨by decide, rfl⟩ (z9_isSet hS1 hi hr hk hl hm hkN) rfl rfl (Nat.le_of_ble_eq_true rfl) (by omega) (by omega) (by omega) (k_p ?_)
                refine q_if_neB (tgt := 173) dX9_live_139 (by decide) (fun c139 => ?_) (fun c139 => ?_)
                · skip
                  refine q_iincN (c := 1) dX9_live_173 rfl (by decide) rfl (ls' := [(5, .int (nI (k + 1))), (7, .int (nI 1)), (6, .int (nI ((240 * i) + k))), (0, .ref 58), (1, .int (nI i)), (2, .int (nI l)), (3, .int (nI m)), (4, .int (bi more))]) rfl ?_
                  refine q_goto (tgt := 42) dX9_live_176 (by decide) ?_
                  refine q_pk [3, 4, 5, 6, 7, 0] (ls' := [(0, .ref 58), (1, .int (nI i)), (2, .int (nI l)), (3, .int (nI m)), (4, .int (bi more)), (5, .int (nI (k + 1)))]) rfl ?_
                  first | exact keep (fun z => absurd z (by rw [nb_f c127]; decide)) | exact keep (fun _ => dz_s c139) | exact gone (nb_t c127) (dz_n1 c139 c151) | exact gone (nb_t c127) (dz_n2 c139 (by rw [ea, nb_f c85]; rfl)) | exact gone (nb_t c127) (dz_n2 c139 (by rw [ea, nb_f c110]; simp)) | exact keep (fun _ => dz_a c151 ea) | exact keep (fun _ => dz_a c151 (by rw [ea, nb_t c85]; rfl)) | exact keep (fun _ => dz_a c151 (by rw [ea, nb_t c85, nb_t c110]; rfl)) | exact keep (fun _ => dz_a c151 (by rw [ea, nb_t c110]; rfl))
                · skip
                  refine q_aload_n dX9_live_142 rfl rfl rfl ?_
                  refine q_iload_n dX9_live_143 rfl rfl ?_
                  refine q_iload_n dX9_live_144 rfl rfl ?_
                  refine q_iload_n dX9_live_145 rfl rfl ?_
                  refine q_iload dX9_live_146 rfl ?_
                  refine q_callV (As := [.int (nI i), .int (nI l), .int (nI m), .int (nI k)]) (rest := []) dX9_live_148 vX9_385 (ty_c hS1 (by decide) rfl) ⟨by decide, rfl⟩ (z9_isTaken hS1 hi hr hk hl hm hkN) rfl rfl (Nat.le_of_ble_eq_true rfl) (by omega) (by omega) (by omega) (k_p ?_)
                  refine q_if_neB (tgt := 162) dX9_live_151 (by decide) (fun c151 => ?_) (fun c151 => ?_)
                  · skip
                    refine q_aload_n dX9_live_162 rfl rfl rfl ?_
                    refine q_getr (r := 88) dX9_live_163 fX9_147 rfl (ty_c hS1 (by decide) rfl) (hS1.2 58 44 88 rfl) ?_
                    refine q_iload dX9_live_166 rfl ?_
                    refine q_iconst (v := nI 1) dX9_live_168 rfl ?_
                    refine q_zast (j := k) dX9_live_169 (ty_c hS1 (by decide) rfl) (ix_n (by omega) (by omega)) (Or.inr rfl) ?_
                    refine q_iconst (v := nI 1) dX9_live_170 rfl ?_
                    refine q_top (y := bi true) rfl ?_
                    refine q_istore dX9_live_171 (by decide) (ls' := [(4, .int (bi true)), (7, .int (nI 1)), (6, .int (nI ((240 * i) + k))), (0, .ref 58), (1, .int (nI i)), (2, .int (nI l)), (3, .int (nI m)), (5, .int (nI k))]) rfl ?_
                    refine q_iincN (c := 1) dX9_live_173 rfl (by decide) rfl (ls' := [(5, .int (nI (k + 1))), (4, .int (bi true)), (7, .int (nI 1)), (6, .int (nI ((240 * i) + k))), (0, .ref 58), (1, .int (nI i)), (2, .int (nI l)), (3, .int (nI m))]) rfl ?_
                    refine q_goto (tgt := 42) dX9_live_176 (by decide) ?_
                    refine q_pk [4, 5, 6, 7, 1, 0] (ls' := [(0, .ref 58), (1, .int (nI i)), (2, .int (nI l)), (3, .int (nI m)), (4, .int (bi true)), (5, .int (nI (k + 1)))]) rfl ?_
                    first | exact keep (fun z => absurd z (by rw [nb_f c127]; decide)) | exact keep (fun _ => dz_s c139) | exact gone (nb_t c127) (dz_n1 c139 c151) | exact gone (nb_t c127) (dz_n2 c139 (by rw [ea, nb_f c85]; rfl)) | exact gone (nb_t c127) (dz_n2 c139 (by rw [ea, nb_f c110]; simp)) | exact keep (fun _ => dz_a c151 ea) | exact keep (fun _ => dz_a c151 (by rw [ea, nb_t c85]; rfl)) | exact keep (fun _ => dz_a c151 (by rw [ea, nb_t c85, nb_t c110]; rfl)) | exact keep (fun _ => dz_a c151 (by rw [ea, nb_t c110]; rfl))
                  · skip
                    refine q_iload dX9_live_154 rfl ?_
                    refine q_if_neN (tgt := 162) dX9_live_156 (by decide) (by omega) (fun _ => ?_) (fun h => absurd h (by decide))
                    refine q_aload_n dX9_live_162 rfl rfl rfl ?_
                    refine q_getr (r := 88) dX9_live_163 fX9_147 rfl (ty_c hS1 (by decide) rfl) (hS1.2 58 44 88 rfl) ?_
                    refine q_iload dX9_live_166 rfl ?_
                    refine q_iconst (v := nI 1) dX9_live_168 rfl ?_
                    refine q_zast (j := k) dX9_live_169 (ty_c hS1 (by decide) rfl) (ix_n (by omega) (by omega)) (Or.inr rfl) ?_
                    refine q_iconst (v := nI 1) dX9_live_170 rfl ?_
                    refine q_top (y := bi true) rfl ?_
                    refine q_istore dX9_live_171 (by decide) (ls' := [(4, .int (bi true)), (7, .int (nI 1)), (6, .int (nI ((240 * i) + k))), (0, .ref 58), (1, .int (nI i)), (2, .int (nI l)), (3, .int (nI m)), (5, .int (nI k))]) rfl ?_
                    refine q_iincN (c := 1) dX9_live_173 rfl (by decide) rfl (ls' := [(5, .int (nI (k + 1))), (4, .int (bi true)), (7, .int (nI 1)), (6, .int (nI ((240 * i) + k))), (0, .ref 58), (1, .int (nI i)), (2, .int (nI l)), (3, .int (nI m))]) rfl ?_
                    refine q_goto (tgt := 42) dX9_live_176 (by decide) ?_
                    refine q_pk [4, 5, 6, 7, 1, 0] (ls' := [(0, .ref 58), (1, .int (nI i)), (2, .int (nI l)), (3, .int (nI m)), (4, .int (bi true)), (5, .int (nI (k + 1)))]) rfl ?_
                    first | exact keep (fun z => absurd z (by rw [nb_f c127]; decide)) | exact keep (fun _ => dz_s c139) | exact gone (nb_t c127) (dz_n1 c139 c151) | exact gone (nb_t c127) (dz_n2 c139 (by rw [ea, nb_f c85]; rfl)) | exact gone (nb_t c127) (dz_n2 c139 (by rw [ea, nb_f c110]; simp)) | exact keep (fun _ => dz_a c151 ea) | exact keep (fun _ => dz_a c151 (by rw [ea, nb_t c85]; rfl)) | exact keep (fun _ => dz_a c151 (by rw [ea, nb_t c85, nb_t c110]; rfl)) | exact keep (fun _ => dz_a c151 (by rw [ea, nb_t c110]; rfl))

def LvQ (σ : HS) (q : PS) (l m : Nat) : HS → Prop := fun σ' => FR9 l88 σ σ' ∧ ∀ n, n < NN q → sI σ' 88 n = bi (alv q l m n)
theorem y9_li31 (hS : SK σ0) (hi : i < 4) (hr0 : MR σ0 i q) (hk : MOK q) {l m : Nat} (hl : l < 3) (hm : m < (psM q).length) : ∀ (c : Nat) (v : Nat → Bool) (σ : HS) (more : Bool), LI σ0 q l m σ v → (more = false → Cl (NN q) (fun v n => ddB q l m v n = true) v) → (more = true → cnt v (NN q) < c) → WA g mX9_live 2 0 0 (ZM g (fun r σ' => r = none ∧ LvQ σ0 q l m σ') 0 0) 0 0 31 [(0, .ref 58), (1, .int (nI i)), (2, .int (nI l)), (3, .int (nI m)), (4, .int (bi more))] [] σ := by
  have hN := NN_le hk.1
  have stop : ∀ (v : Nat → Bool) (σ : HS), LI σ0 q l m σ v → Cl (NN q) (fun v n => ddB q l m v n = true) v → (none : Option Value) = none ∧ LvQ σ0 q l m σ := fun v σ hI hC => ⟨rfl, hI.1, fun n hn => by
    rw [hI.2.1 n hn, gf_end hC hI.2.2 hn]; rfl⟩
  intro c
  induction c with
  | zero =>
    intro v σ more hI hf ht
    have hS1 := SK.fq hI.1 hS
    have hmo : more = false := by
      cases more with
      | false => rfl
      | true => exact absurd (ht rfl) (by omega)
    subst hmo
    have st := stop v σ hI (hf rfl)
    refine q_iload dX9_live_31 rfl ?_
    refine q_if_eqB (tgt := 182) dX9_live_33 (by decide) (fun _ => ?_) (fun h => absurd h (by decide))
    refine q_return dX9_live_182 rfl (by omega) (by omega) ?_
    exact st
  | succ c ih =>
    intro v σ more hI hf ht
    have hS1 := SK.fq hI.1 hS
    cases more with
    | false =>
      have st := stop v σ hI (hf rfl)
      refine q_iload dX9_live_31 rfl ?_
      refine q_if_eqB (tgt := 182) dX9_live_33 (by decide) (fun _ => ?_) (fun h => absurd h (by decide))
      refine q_return dX9_live_182 rfl (by omega) (by omega) ?_
      exact st
    | true =>
      have hle : cnt v (NN q) ≤ c := by have := ht rfl; omega
      have go := y9_li42 (g := g) hS hi hr0 hk hl hm (c := c) (fun v σ more a1 a2 a3 => ih v σ more a1 a2 a3) (NN q) 0 v σ false (by omega) hI (fun _ => ⟨hle, fun n hn => absurd hn (by omega)⟩) (fun z => by cases z)
      refine q_iload dX9_live_31 rfl ?_
      refine q_if_eqB (tgt := 182) dX9_live_33 (by decide) (fun h => absurd h (by decide)) (fun _ => ?_)
      refine q_iconst (v := nI 0) dX9_live_36 rfl ?_
      refine q_top (y := bi false) rfl ?_
      refine q_istore dX9_live_37 (by decide) (ls' := [(4, .int (bi false)), (0, .ref 58), (1, .int (nI i)), (2, .int (nI l)), (3, .int (nI m))]) rfl ?_
      refine q_iconst (v := nI 0) dX9_live_39 rfl ?_
      refine q_istore dX9_live_40 (by decide) (ls' := [(5, .int (nI 0)), (4, .int (bi false)), (0, .ref 58), (1, .int (nI i)), (2, .int (nI l)), (3, .int (nI m))]) rfl ?_
      refine q_pk [2, 3, 4, 5, 1, 0] (ls' := [(0, .ref 58), (1, .int (nI i)), (2, .int (nI l)), (3, .int (nI m)), (4, .int (bi false)), (5, .int (nI 0))]) rfl ?_
      exact go
theorem y9_li3 (hS : SK σ0) (hi : i < 4) (hr0 : MR σ0 i q) (hk : MOK q) {l m : Nat} (hl : l < 3) (hm : m < (psM q).length) : ∀ (r k : Nat) (σ : HS), k + r = NN q → FR9 l88 σ0 σ → (∀ n, n < k → sI σ 88 n = nI 0) → WA g mX9_live 2 0 0 (ZM g (fun r σ' => r = none ∧ LvQ σ0 q l m σ') 0 0) 0 0 3 [(0, .ref 58), (1, .int (nI i)), (2, .int (nI l)), (3, .int (nI m)), (4, .int (nI k))] [] σ := by
  have hN := NN_le hk.1
  intro r
  induction r with
  | zero =>
    intro k σ hkr h1 h2
    have ek : k = NN q := by omega
    have r62 : sI σ 62 i = nI (NN q) := (hr0.li88 hk h1).1.2.1
    have hS1 := SK.fq h1 hS
    have hc0 : cnt (fun _ => true) (NN q) < NN q + 1 := by have := cnt_le (fun _ => true) (NN q); omega
    have go := y9_li31 (g := g) hS hi hr0 hk hl hm (NN q + 1) (fun _ => true) σ true ⟨h1, fun n hn => h2 n (by omega), fun _ _ _ => rfl⟩ (fun z => by cases z) (fun _ => hc0)
    refine q_iload dX9_live_3 rfl ?_
    refine q_aload_n dX9_live_5 rfl rfl rfl ?_
    refine q_getr (r := 62) dX9_live_6 fX9_43 rfl (ty_c hS1 (by decide) rfl) (hS1.2 58 10 62 rfl) ?_
    refine q_iload_n dX9_live_9 rfl rfl ?_
    refine q_iald (x := nI (NN q)) (j := i) dX9_live_10 (ty_c hS1 (by decide) rfl) (ix_n (by omega) (by omega)) r62 ?_
    refine q_icmp_geN (tgt := 28) dX9_live_11 (by decide) (by omega) (by omega) (fun c11 => ?_) (fun c11 => ?_)
    · skip
      refine q_iconst (v := nI 1) dX9_live_28 rfl ?_
      refine q_top (y := bi true) rfl ?_
      refine q_istore dX9_live_29 (by decide) (ls' := [(4, .int (bi true)), (0, .ref 58), (1, .int (nI i)), (2, .int (nI l)), (3, .int (nI m))]) rfl ?_
      refine q_pk [1, 2, 3, 4, 0] (ls' := [(0, .ref 58), (1, .int (nI i)), (2, .int (nI l)), (3, .int (nI m)), (4, .int (bi true))]) rfl ?_
      exact go
    · exact absurd c11 (by omega)
  | succ r ih =>
    intro k σ hkr h1 h2
    have r62 : sI σ 62 i = nI (NN q) := (hr0.li88 hk h1).1.2.1
    have hS1 := SK.fq h1 hS
    refine q_iload dX9_live_3 rfl ?_
    refine q_aload_n dX9_live_5 rfl rfl rfl ?_
    refine q_getr (r := 62) dX9_live_6 fX9_43 rfl (ty_c hS1 (by decide) rfl) (hS1.2 58 10 62 rfl) ?_
    refine q_iload_n dX9_live_9 rfl rfl ?_
    refine q_iald (x := nI (NN q)) (j := i) dX9_live_10 (ty_c hS1 (by decide) rfl) (ix_n (by omega) (by omega)) r62 ?_
    refine q_icmp_geN (tgt := 28) dX9_live_11 (by decide) (by omega) (by omega) (fun c11 => ?_) (fun c11 => ?_)
    · exact absurd c11 (by omega)
    · skip
      refine q_aload_n dX9_live_14 rfl rfl rfl ?_
      refine q_getr (r := 88) dX9_live_15 fX9_147 rfl (ty_c hS1 (by decide) rfl) (hS1.2 58 44 88 rfl) ?_
      refine q_iload dX9_live_18 rfl ?_
      refine q_iconst (v := nI 0) dX9_live_20 rfl ?_
      refine q_zast (j := k) dX9_live_21 (ty_c hS1 (by decide) rfl) (ix_n (by omega) (by omega)) (Or.inl rfl) ?_
      refine q_iincN (c := 1) dX9_live_22 rfl (by decide) rfl (ls' := [(4, .int (nI (k + 1))), (0, .ref 58), (1, .int (nI i)), (2, .int (nI l)), (3, .int (nI m))]) rfl ?_
      refine q_goto (tgt := 3) dX9_live_25 (by decide) ?_
      refine q_pk [1, 2, 3, 4, 0] (ls' := [(0, .ref 58), (1, .int (nI i)), (2, .int (nI l)), (3, .int (nI m)), (4, .int (nI (k + 1)))]) rfl ?_
      refine ih (k + 1) _ (by omega) (h1.uI rfl) fun n hn => ?_
      by_cases e : n = k
      · rw [e]; exact uI_self
      · exact (rd_ne e).trans (h2 n (by omega))
theorem z9_live (hS : SK σ) (hi : i < 4) (hr : MR σ i q) (hk : MOK q) {l m : Nat} (hl : l < 3) (hm : m < (psM q).length) : CT g mX9_live 2 0 0 [.ref 58, .int (nI i), .int (nI l), .int (nI m)] σ (fun r σ' => r = none ∧ LvQ σ q l m σ') := by
  have go := y9_li3 (g := g) hS hi hr hk hl hm (NN q) 0 σ (by omega) FR9.rf (fun n hn => absurd hn (by omega))
  refine CT.of (by decide) (Nat.le_of_ble_eq_true rfl) ?_
  refine q_iconst (v := nI 0) dX9_live_0 rfl ?_
  refine q_istore dX9_live_1 (by decide) (ls' := [(4, .int (nI 0)), (0, .ref 58), (1, .int (nI i)), (2, .int (nI l)), (3, .int (nI m))]) rfl ?_
  refine q_pk [1, 2, 3, 4, 0] (ls' := [(0, .ref 58), (1, .int (nI i)), (2, .int (nI l)), (3, .int (nI m)), (4, .int (nI 0))]) rfl ?_
  exact go
end MLI
