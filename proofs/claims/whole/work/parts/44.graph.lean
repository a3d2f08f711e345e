/-! The NODES of a ROUTINE and where they lead. -/
def cw (q : PS) (t j : Nat) : Nat := (if wy q 0 j = some t then 1 else 0) + (if wy q 1 j = some t then 1 else 0)
/-- how many ways of the first n blocks name block t -/
def cntW (q : PS) (t : Nat) : Nat → Nat
  | 0 => 0
  | n + 1 => cntW q t n + cw q t n
theorem cntW_le (q : PS) (t : Nat) : ∀ n, cntW q t n ≤ 2 * n
  | 0 => Nat.le_refl _
  | n + 1 => by
    have h1 := cntW_le q t n
    unfold cntW cw
    split <;> split <;> omega
theorem y2_ways {g : GG} {σ : HS} {b : Nat} (hb : RB σ b) {q : PS} (hB : sI σ b 12 = nI (psF q).length) (hE : ∀ j, j < (psF q).length → sI σ (b + 15) (j + 1) = nI (nf q (j + 1)) ∧ sI σ (b + 9) (nf q (j + 1) - 1) = oW (wy q 0 j) ∧ sI σ (b + 10) (nf q (j + 1) - 1) = oW (wy q 1 j)) (hc : BC q) (hw : WFs q) {t : Nat} (ht : t < 40) : ∀ (n j : Nat), j + n = (psF q).length → WA g mX2_countWaysTo 2 0 0 (ZM g (PQ σ (.int (nI (cntW q t (psF q).length)))) 0 0) 0 0 4 [(0, .ref b), (1, .int (nI t)), (2, .int (nI (cntW q t j))), (3, .int (nI j))] [] σ := by
  have hb14 : b = 14 ∨ 99 ≤ b := by rcases hb.1 with h | ⟨j, h⟩ <;> omega
  have h40 := hc.2.1
  intro n
  induction n with
  | zero =>
    intro j hj
    refine q_iload_n dX2_countWaysTo_4 rfl rfl ?_
    refine q_aload_n dX2_countWaysTo_5 rfl rfl rfl ?_
    refine q_geti (x := nI ((psF q).length)) dX2_countWaysTo_6 fX2_61 rfl (ty_r hb 0 rfl) hB ?_
    refine q_icmp_geN (tgt := 66) dX2_countWaysTo_9 (by decide) (by omega) (by omega) (fun c9 => ?_) (fun c9 => ?_)
    · skip
      refine q_iload_n dX2_countWaysTo_66 rfl rfl ?_
      refine q_ireturn dX2_countWaysTo_67 rfl rfl (by omega) (by omega) ?_
      rw [← hj]
      exact ⟨rfl, rfl⟩
    · exact absurd c9 (by omega)
  | succ n ih =>
    intro j hj
    obtain ⟨e1, e2, e3, e4, e5, e6, e7, e8, e9, -⟩ := end_w hc hw (j := j) (by omega)
    obtain ⟨g1, g3, g4⟩ := hE j (by omega)
    have hI := ih (j + 1) (by omega)
    have hlt := cntW_le q t j
    cases hw0 : wy q 0 j with
    | none =>
      rw [hw0] at g3
      cases hw1 : wy q 1 j with
      | none =>
        rw [hw1] at g4
        refine q_iload_n dX2_countWaysTo_4 rfl rfl ?_
        refine q_aload_n dX2_countWaysTo_5 rfl rfl rfl ?_
        refine q_geti (x := nI ((psF q).length)) dX2_countWaysTo_6 fX2_61 rfl (ty_r hb 0 rfl) hB ?_
        refine q_icmp_geN (tgt := 66) dX2_countWaysTo_9 (by decide) (by omega) (by omega) (fun c9 => ?_) (fun c9 => ?_)
        · exact absurd c9 (by omega)
        · skip
          refine q_iload_n dX2_countWaysTo_12 rfl rfl ?_
          refine q_aload_n dX2_countWaysTo_13 rfl rfl rfl ?_
          refine q_getr (r := b + 8) dX2_countWaysTo_14 fX2_29 rfl (ty_r hb 0 rfl) (hb.2.2 0 5 8 rfl) ?_
          refine q_iconst (v := nI 0) dX2_countWaysTo_17 rfl ?_
          refine q_aald (r := b + 9) (j := 0) dX2_countWaysTo_18 (ty_r hb 8 rfl) (Or.inl rfl) (ix_n (by omega) (by omega)) (hb.2.2 8 0 9 rfl) ?_
          refine q_aload_n dX2_countWaysTo_19 rfl rfl rfl ?_
          refine q_iload_n dX2_countWaysTo_20 rfl rfl ?_
          refine q_callV (As := [.int (nI j)]) (rest := [.ref (b + 9), .int (nI (cntW q t j))]) dX2_countWaysTo_21 vX2_115 (ty_r hb 0 rfl) ⟨by decide, rfl⟩ (z2_endOf hb (by omega) g1 e1 (by omega)) rfl rfl (Nat.le_of_ble_eq_true rfl) (by omega) (by omega) (by omega) (k_p ?_)
          refine q_iald (x := (-1)) (j := (nf q (j + 1) - 1)) dX2_countWaysTo_24 (ty_r hb 9 rfl) (ix_n (by omega) (by omega)) g3 ?_
          refine q_iload_n dX2_countWaysTo_25 rfl rfl ?_
          refine q_icmp_ne1 (tgt := 33) dX2_countWaysTo_26 (by decide) (by omega) (by decide) ?_
          refine q_iconst (v := nI 0) dX2_countWaysTo_33 rfl ?_
          refine q_iaddN dX2_countWaysTo_34 ?_
          refine q_istore_n dX2_countWaysTo_35 rfl (by decide) (ls' := [(2, .int (nI ((cntW q t j) + 0))), (0, .ref b), (1, .int (nI t)), (3, .int (nI j))]) rfl ?_
          refine q_iload_n dX2_countWaysTo_36 rfl rfl ?_
          refine q_aload_n dX2_countWaysTo_37 rfl rfl rfl ?_
          refine q_getr (r := b + 8) dX2_countWaysTo_38 fX2_29 rfl (ty_r hb 0 rfl) (hb.2.2 0 5 8 rfl) ?_
          refine q_iconst (v := nI 1) dX2_countWaysTo_41 rfl ?_
          refine q_aald (r := b + 10) (j := 1) dX2_countWaysTo_42 (ty_r hb 8 rfl) (Or.inl rfl) (ix_n (by omega) (by omega)) (hb.2.2 8 1 10 rfl) ?_
          refine q_aload_n dX2_countWaysTo_43 rfl rfl rfl ?_
          refine q_iload_n dX2_countWaysTo_44 rfl rfl ?_
          refine q_callV (As := [.int (nI j)]) (rest := [.ref (b + 10), .int (nI ((cntW q t j) + 0))]) dX2_countWaysTo_45 vX2_115 (ty_r hb 0 rfl) ⟨by decide, rfl⟩ (z2_endOf hb (by omega) g1 e1 (by omega)) rfl rfl (Nat.le_of_ble_eq_true rfl) (by omega) (by omega) (by omega) (k_p ?_)
          refine q_iald (x := (-1)) (j := (nf q (j + 1) - 1)) dX2_countWaysTo_48 (ty_r hb 10 rfl) (ix_n (by omega) (by omega)) g4 ?_
          refine q_iload_n dX2_countWaysTo_49 rfl rfl ?_
          refine q_icmp_ne1 (tgt := 57) dX2_countWaysTo_50 (by decide) (by omega) (by decide) ?_
          refine q_iconst (v := nI 0) dX2_countWaysTo_57 rfl ?_
          refine q_iaddN dX2_countWaysTo_58 ?_
          refine q_istore_n dX2_countWaysTo_59 rfl (by decide) (ls' := [(2, .int (nI (((cntW q t j) + 0) + 0))), (0, .ref b), (1, .int (nI t)), (3, .int (nI j))]) rfl ?_
          refine q_iincN (c := 1) dX2_countWaysTo_60 rfl (by decide) rfl (ls' := [(3, .int (nI (j + 1))), (2, .int (nI (((cntW q t j) + 0) + 0))), (0, .ref b), (1, .int (nI t))]) rfl ?_
          refine q_goto (tgt := 4) dX2_countWaysTo_63 (by decide) ?_
          refine q_pk [2, 3, 1, 0] (ls' := [(0, .ref b), (1, .int (nI t)), (2, .int (nI (((cntW q t j) + 0) + 0))), (3, .int (nI (j + 1)))]) rfl ?_
          have e : (((cntW q t j) + 0) + 0) = cntW q t (j + 1) := by
            show _ = cntW q t j + cw q t j
            unfold cw
            rw [hw0, hw1]
            simp_all
          rw [e]
          exact hI
      | some v1 =>
        rw [hw1] at g4
        have b1 := e9 1 v1 hw1
        refine q_iload_n dX2_countWaysTo_4 rfl rfl ?_
        refine q_aload_n dX2_countWaysTo_5 rfl rfl rfl ?_
        refine q_geti (x := nI ((psF q).length)) dX2_countWaysTo_6 fX2_61 rfl (ty_r hb 0 rfl) hB ?_
        refine q_icmp_geN (tgt := 66) dX2_countWaysTo_9 (by decide) (by omega) (by omega) (fun c9 => ?_) (fun c9 => ?_)
        · exact absurd c9 (by omega)
        · skip
          refine q_iload_n dX2_countWaysTo_12 rfl rfl ?_
          refine q_aload_n dX2_countWaysTo_13 rfl rfl rfl ?_
          refine q_getr (r := b + 8) dX2_countWaysTo_14 fX2_29 rfl (ty_r hb 0 rfl) (hb.2.2 0 5 8 rfl) ?_
          refine q_iconst (v := nI 0) dX2_countWaysTo_17 rfl ?_
          refine q_aald (r := b + 9) (j := 0) dX2_countWaysTo_18 (ty_r hb 8 rfl) (Or.inl rfl) (ix_n (by omega) (by omega)) (hb.2.2 8 0 9 rfl) ?_
          refine q_aload_n dX2_countWaysTo_19 rfl rfl rfl ?_
          refine q_iload_n dX2_countWaysTo_20 rfl rfl ?_
          refine q_callV (As := [.int (nI j)]) (rest := [.ref (b + 9), .int (nI (cntW q t j))]) dX2_countWaysTo_21 vX2_115 (ty_r hb 0 rfl) ⟨by decide, rfl⟩ (z2_endOf hb (by omega) g1 e1 (by omega)) rfl rfl (Nat.le_of_ble_eq_true rfl) (by omega) (by omega) (by omega) (k_p ?_)
          refine q_iald (x := (-1)) (j := (nf q (j + 1) - 1)) dX2_countWaysTo_24 (ty_r hb 9 rfl) (ix_n (by omega) (by omega)) g3 ?_
          refine q_iload_n dX2_countWaysTo_25 rfl rfl ?_
          refine q_icmp_ne1 (tgt := 33) dX2_countWaysTo_26 (by decide) (by omega) (by decide) ?_
          refine q_iconst (v := nI 0) dX2_countWaysTo_33 rfl ?_
          refine q_iaddN dX2_countWaysTo_34 ?_
          refine q_istore_n dX2_countWaysTo_35 rfl (by decide) (ls' := [(2, .int (nI ((cntW q t j) + 0))), (0, .ref b), (1, .int (nI t)), (3, .int (nI j))]) rfl ?_
          refine q_iload_n dX2_countWaysTo_36 rfl rfl ?_
          refine q_aload_n dX2_countWaysTo_37 rfl rfl rfl ?_
          refine q_getr (r := b + 8) dX2_countWaysTo_38 fX2_29 rfl (ty_r hb 0 rfl) (hb.2.2 0 5 8 rfl) ?_
          refine q_iconst (v := nI 1) dX2_countWaysTo_41 rfl ?_
          refine q_aald (r := b + 10) (j := 1) dX2_countWaysTo_42 (ty_r hb 8 rfl) (Or.inl rfl) (ix_n (by omega) (by omega)) (hb.2.2 8 1 10 rfl) ?_
          refine q_aload_n dX2_countWaysTo_43 rfl rfl rfl ?_
          refine q_iload_n dX2_countWaysTo_44 rfl rfl ?_
          refine q_callV (As := [.int (nI j)]) (rest := [.ref (b + 10), .int (nI ((cntW q t j) + 0))]) dX2_countWaysTo_45 vX2_115 (ty_r hb 0 rfl) ⟨by decide, rfl⟩ (z2_endOf hb (by omega) g1 e1 (by omega)) rfl rfl (Nat.le_of_ble_eq_true rfl) (by omega) (by omega) (by omega) (k_p ?_)
          refine q_iald (x := nI v1) (j := (nf q (j + 1) - 1)) dX2_countWaysTo_48 (ty_r hb 10 rfl) (ix_n (by omega) (by omega)) g4 ?_
          refine q_iload_n dX2_countWaysTo_49 rfl rfl ?_
          refine q_icmp_neN (tgt := 57) dX2_countWaysTo_50 (by decide) (by omega) (by omega) (fun c50 => ?_) (fun c50 => ?_)
          · skip
            refine q_iconst (v := nI 0) dX2_countWaysTo_57 rfl ?_
            refine q_iaddN dX2_countWaysTo_58 ?_
            refine q_istore_n dX2_countWaysTo_59 rfl (by decide) (ls' := [(2, .int (nI (((cntW q t j) + 0) + 0))), (0, .ref b), (1, .int (nI t)), (3, .int (nI j))]) rfl ?_
            refine q_iincN (c := 1) dX2_countWaysTo_60 rfl (by decide) rfl (ls' := [(3, .int (nI (j + 1))), (2, .int (nI (((cntW q t j) + 0) + 0))), (0, .ref b), (1, .int (nI t))]) rfl ?_
            refine q_goto (tgt := 4) dX2_countWaysTo_63 (by decide) ?_
            refine q_pk [2, 3, 1, 0] (ls' := [(0, .ref b), (1, .int (nI t)), (2, .int (nI (((cntW q t j) + 0) + 0))), (3, .int (nI (j + 1)))]) rfl ?_
            have e : (((cntW q t j) + 0) + 0) = cntW q t (j + 1) := by
              show _ = cntW q t j + cw q t j
              unfold cw
              rw [hw0, hw1]
              simp_all
            rw [e]
            exact hI
          · skip
            refine q_iconst (v := nI 1) dX2_countWaysTo_53 rfl ?_
            refine q_goto (tgt := 58) dX2_countWaysTo_54 (by decide) ?_
            refine q_iaddN dX2_countWaysTo_58 ?_
            refine q_istore_n dX2_countWaysTo_59 rfl (by decide) (ls' := [(2, .int (nI (((cntW q t j) + 0) + 1))), (0, .ref b), (1, .int (nI t)), (3, .int (nI j))]) rfl ?_
            refine q_iincN (c := 1) dX2_countWaysTo_60 rfl (by decide) rfl (ls' := [(3, .int (nI (j + 1))), (2, .int (nI (((cntW q t j) + 0) + 1))), (0, .ref b), (1, .int (nI t))]) rfl ?_
            refine q_goto (tgt := 4) dX2_countWaysTo_63 (by decide) ?_
            refine q_pk [2, 3, 1, 0] (ls' := [(0, .ref b), (1, .int (nI t)), (2, .int (nI (((cntW q t j) + 0) + 1))), (3, .int (nI (j + 1)))]) rfl ?_
            have e : (((cntW q t j) + 0) + 1) = cntW q t (j + 1) := by
              show _ = cntW q t j + cw q t j
              unfold cw
              rw [hw0, hw1]
              simp_all
            rw [e]
            exact hI
    | some v0 =>
      rw [hw0] at g3
      have b0 := e9 0 v0 hw0
      cases hw1 : wy q 1 j with
      | none =>
        rw [hw1] at g4
        refine q_iload_n dX2_countWaysTo_4 rfl rfl ?_
        refine q_aload_n dX2_countWaysTo_5 rfl rfl rfl ?_
        refine q_geti (x := nI ((psF q).length)) dX2_countWaysTo_6 fX2_61 rfl (ty_r hb 0 rfl) hB ?_
        refine q_icmp_geN (tgt := 66) dX2_countWaysTo_9 (by decide) (by omega) (by omega) (fun c9 => ?_) (fun c9 => ?_)
        · exact absurd c9 (by omega)
        · skip
          refine q_iload_n dX2_countWaysTo_12 rfl rfl ?_
          refine q_aload_n dX2_countWaysTo_13 rfl rfl rfl ?_
          refine q_getr (r := b + 8) dX2_countWaysTo_14 fX2_29 rfl (ty_r hb 0 rfl) (hb.2.2 0 5 8 rfl) ?_
          refine q_iconst (v := nI 0) dX2_countWaysTo_17 rfl ?_
          refine q_aald (r := b + 9) (j := 0) dX2_countWaysTo_18 (ty_r hb 8 rfl) (Or.inl rfl) (ix_n (by omega) (by omega)) (hb.2.2 8 0 9 rfl) ?_
          refine q_aload_n dX2_countWaysTo_19 rfl rfl rfl ?_
          refine q_iload_n dX2_countWaysTo_20 rfl rfl ?_
          refine q_callV (As := [.int (nI j)]) (rest := [.ref (b + 9), .int (nI (cntW q t j))]) dX2_countWaysTo_21 vX2_115 (ty_r hb 0 rfl) ⟨by decide, rfl⟩ (z2_endOf hb (by omega) g1 e1 (by omega)) rfl rfl (Nat.le_of_ble_eq_true rfl) (by omega) (by omega) (by omega) (k_p ?_)
          refine q_iald (x := nI v0) (j := (nf q (j + 1) - 1)) dX2_countWaysTo_24 (ty_r hb 9 rfl) (ix_n (by omega) (by omega)) g3 ?_
          refine q_iload_n dX2_countWaysTo_25 rfl rfl ?_
          refine q_icmp_neN (tgt := 33) dX2_countWaysTo_26 (by decide) (by omega) (by omega) (fun c26 => ?_) (fun c26 => ?_)
          · skip
            refine q_iconst (v := nI 0) dX2_countWaysTo_33 rfl ?_
            refine q_iaddN dX2_countWaysTo_34 ?_
            refine q_istore_n dX2_countWaysTo_35 rfl (by decide) (ls' := [(2, .int (nI ((cntW q t j) + 0))), (0, .ref b), (1, .int (nI t)), (3, .int (nI j))]) rfl ?_
            refine q_iload_n dX2_countWaysTo_36 rfl rfl ?_
            refine q_aload_n dX2_countWaysTo_37 rfl rfl rfl ?_
            refine q_getr (r := b + 8) dX2_countWaysTo_38 fX2_29 rfl (ty_r hb 0 rfl) (hb.2.2 0 5 8 rfl) ?_
            refine q_iconst (v := nI 1) dX2_countWaysTo_41 rfl ?_
            refine q_aald (r := b + 10) (j := 1) dX2_countWaysTo_42 (ty_r hb 8 rfl) (Or.inl rfl) (ix_n (by omega) (by omega)) (hb.2.2 8 1 10 rfl) ?_
            refine q_aload_n dX2_countWaysTo_43 rfl rfl rfl ?_
            refine q_iload_n dX2_countWaysTo_44 rfl rfl ?_
            refine q_callV (As := [.int (nI j)]) (rest := [.ref (b + 10), .int (nI ((cntW q t j) + 0))]) dX2_countWaysTo_45 vX2_115 (ty_r hb 0 rfl) ⟨by decide, rfl⟩ (z2_endOf hb (by omega) g1 e1 (by omega)) rfl rfl (Nat.le_of_ble_eq_true rfl) (by omega) (by omega) (by omega) (k_p ?_)
            refine q_iald (x := (-1)) (j := (nf q (j + 1) - 1)) dX2_countWaysTo_48 (ty_r hb 10 rfl) (ix_n (by omega) (by omega)) g4 ?_
            refine q_iload_n dX2_countWaysTo_49 rfl rfl ?_
            refine q_icmp_ne1 (tgt := 57) dX2_countWaysTo_50 (by decide) (by omega) (by decide) ?_
            refine q_iconst (v := nI 0) dX2_countWaysTo_57 rfl ?_
            refine q_iaddN dX2_countWaysTo_58 ?_
            refine q_istore_n dX2_countWaysTo_59 rfl (by decide) (ls' := [(2, .int (nI (((cntW q t j) + 0) + 0))), (0, .ref b), (1, .int (nI t)), (3, .int (nI j))]) rfl ?_
            refine q_iincN (c := 1) dX2_countWaysTo_60 rfl (by decide) rfl (ls' := [(3, .int (nI (j + 1))), (2, .int (nI (((cntW q t j) + 0) + 0))), (0, .ref b), (1, .int (nI t))]) rfl ?_
            refine q_goto (tgt := 4) dX2_countWaysTo_63 (by decide) ?_
            refine q_pk [2, 3, 1, 0] (ls' := [(0, .ref b), (1, .int (nI t)), (2, .int (nI (((cntW q t j) + 0) + 0))), (3, .int (nI (j + 1)))]) rfl ?_
            have e : (((cntW q t j) + 0) + 0) = cntW q t (j + 1) := by
              show _ = cntW q t j + cw q t j
              unfold cw
              rw [hw0, hw1]
              simp_all
            rw [e]
            exact hI
          · skip
            refine q_iconst (v := nI 1) dX2_countWaysTo_29 rfl ?_
            refine q_goto (tgt := 34) dX2_countWaysTo_30 (by decide) ?_
            refine q_iaddN dX2_countWaysTo_34 ?_
            refine q_istore_n dX2_countWaysTo_35 rfl (by decide) (ls' := [(2, .int (nI ((cntW q t j) + 1))), (0, .ref b), (1, .int (nI t)), (3, .int (nI j))]) rfl ?_
            refine q_iload_n dX2_countWaysTo_36 rfl rfl ?_
            refine q_aload_n dX2_countWaysTo_37 rfl rfl rfl ?_
            refine q_getr (r := b + 8) dX2_countWaysTo_38 fX2_29 rfl (ty_r hb 0 rfl) (hb.2.2 0 5 8 rfl) ?_
            refine q_iconst (v := nI 1) dX2_countWaysTo_41 rfl ?_
            refine q_aald (r := b + 10) (j := 1) dX2_countWaysTo_42 (ty_r hb 8 rfl) (Or.inl rfl) (ix_n (by omega) (by omega)) (hb.2.2 8 1 10 rfl) ?_
            refine q_aload_n dX2_countWaysTo_43 rfl rfl rfl ?_
            refine q_iload_n dX2_countWaysTo_44 rfl rfl ?_
            refine q_callV (As := [.int (nI j)]) (rest := [.ref (b + 10), .int (nI ((cntW q t j) + 1))]) dX2_countWaysTo_45 vX2_115 (ty_r hb 0 rfl) ⟨by decide, rfl⟩ (z2_endOf hb (by omega) g1 e1 (by omega)) rfl rfl (Nat.le_of_ble_eq_true rfl) (by omega) (by omega) (by omega) (k_p ?_)
            refine q_iald (x := (-1)) (j := (nf q (j + 1) - 1)) dX2_countWaysTo_48 (ty_r hb 10 rfl) (ix_n (by omega) (by omega)) g4 ?_
            refine q_iload_n dX2_countWaysTo_49 rfl rfl ?_
            refine q_icmp_ne1 (tgt := 57) dX2_countWaysTo_50 (by decide) (by omega) (by decide) ?_
            refine q_iconst (v := nI 0) dX2_countWaysTo_57 rfl ?_
            refine q_iaddN dX2_countWaysTo_58 ?_
            refine q_istore_n dX2_countWaysTo_59 rfl (by decide) (ls' := [(2, .int (nI (((cntW q t j) + 1) + 0))), (0, .ref b), (1, .int (nI t)), (3, .int (nI j))]) rfl ?_
            refine q_iincN (c := 1) dX2_countWaysTo_60 rfl (by decide) rfl (ls' := [(3, .int (nI (j + 1))), (2, .int (nI (((cntW q t j) + 1) + 0))), (0, .ref b), (1, .int (nI t))]) rfl ?_
            refine q_goto (tgt := 4) dX2_countWaysTo_63 (by decide) ?_
            refine q_pk [2, 3, 1, 0] (ls' := [(0, .ref b), (1, .int (nI t)), (2, .int (nI (((cntW q t j) + 1) + 0))), (3, .int (nI (j + 1)))]) rfl ?_
            have e : (((cntW q t j) + 1) + 0) = cntW q t (j + 1) := by
              show _ = cntW q t j + cw q t j
              unfold cw
              rw [hw0, hw1]
              simp_all
            rw [e]
            exact hI
      | some v1 =>
        rw [hw1] at g4
        have b1 := e9 1 v1 hw1
        refine q_iload_n dX2_countWaysTo_4 rfl rfl ?_
        refine q_aload_n dX2_countWaysTo_5 rfl rfl rfl ?_
        refine q_geti (x := nI ((psF q).length)) dX2_countWaysTo_6 fX2_61 rfl (ty_r hb 0 rfl) hB ?_
        refine q_icmp_geN (tgt := 66) dX2_countWaysTo_9 (by decide) (by omega) (by omega) (fun c9 => ?_) (fun c9 => ?_)
        · exact absurd c9 (by omega)
        · skip
          refine q_iload_n dX2_countWaysTo_12 rfl rfl ?_
          refine q_aload_n dX2_countWaysTo_13 rfl rfl rfl ?_
          refine q_getr (r := b + 8) dX2_countWaysTo_14 fX2_29 rfl (ty_r hb 0 rfl) (hb.2.2 0 5 8 rfl) ?_
          refine q_iconst (v := nI 0) dX2_countWaysTo_17 rfl ?_
          refine q_aald (r := b + 9) (j := 0) dX2_countWaysTo_18 (ty_r hb 8 rfl) (Or.inl rfl) (ix_n (by omega) (by omega)) (hb.2.2 8 0 9 rfl) ?_
          refine q_aload_n dX2_countWaysTo_19 rfl rfl rfl ?_
          refine q_iload_n dX2_countWaysTo_20 rfl rfl ?_
          refine q_callV (As := [.int (nI j)]) (rest := [.ref (b + 9), .int (nI (cntW q t j))]) dX2_countWaysTo_21 vX2_115 (ty_r hb 0 rfl) ⟨by decide, rfl⟩ (z2_endOf hb (by omega) g1 e1 (by omega)) rfl rfl (Nat.le_of_ble_eq_true rfl) (by omega) (by omega) (by omega) (k_p ?_)
          refine q_iald (x := nI v0) (j := (nf q (j + 1) - 1)) dX2_countWaysTo_24 (ty_r hb 9 rfl) (ix_n (by omega) (by omega)) g3 ?_
          refine q_iload_n dX2_countWaysTo_25 rfl rfl ?_
          refine q_icmp_neN (tgt := 33) dX2_countWaysTo_26 (by decide) (by omega) (by omega) (fun c26 => ?_) (fun c26 => ?_)
          · skip
            refine q_iconst (v := nI 0) dX2_countWaysTo_33 rfl ?_
            refine q_iaddN dX2_countWaysTo_34 ?_
            refine q_istore_n dX2_countWaysTo_35 rfl (by decide) (ls' := [(2, .int (nI ((cntW q t j) + 0))), (0, .ref b), (1, .int (nI t)), (3, .int (nI j))]) rfl ?_
            refine q_iload_n dX2_countWaysTo_36 rfl rfl ?_
            refine q_aload_n dX2_countWaysTo_37 rfl rfl rfl ?_
            refine q_getr (r := b + 8) dX2_countWaysTo_38 fX2_29 rfl (ty_r hb 0 rfl) (hb.2.2 0 5 8 rfl) ?_
            refine q_iconst (v := nI 1) dX2_countWaysTo_41 rfl ?_
            refine q_aald (r := b + 10) (j := 1) dX2_countWaysTo_42 (ty_r hb 8 rfl) (Or.inl rfl) (ix_n (by omega) (by omega)) (hb.2.2 8 1 10 rfl) ?_
            refine q_aload_n dX2_countWaysTo_43 rfl rfl rfl ?_
            refine q_iload_n dX2_countWaysTo_44 rfl rfl ?_
            refine q_callV (As := [.int (nI j)]) (rest := [.ref (b + 10), .int (nI ((cntW q t j) + 0))]) dX2_countWaysTo_45 vX2_115 (ty_r hb 0 rfl) ⟨by decide, rfl⟩ (z2_endOf hb (by omega) g1 e1 (by omega)) rfl rfl (Nat.le_of_ble_eq_true rfl) (by omega) (by omega) (by omega) (k_p ?_)
            refine q_iald (x := nI v1) (j := (nf q (j + 1) - 1)) dX2_countWaysTo_48 (ty_r hb 10 rfl) (ix_n (by omega) (by omega)) g4 ?_
            refine q_iload_n dX2_countWaysTo_49 rfl rfl ?_
            refine q_icmp_neN (tgt := 57) dX2_countWaysTo_50 (by decide) (by omega) (by omega) (fun c50 => ?_) (fun c50 => ?_)
            · skip
              refine q_iconst (v := nI 0) dX2_countWaysTo_57 rfl ?_
              refine q_iaddN dX2_countWaysTo_58 ?_
              refine q_istore_n dX2_countWaysTo_59 rfl (by decide) (ls' := [(2, .int (nI (((cntW q t j) + 0) + 0))), (0, .ref b), (1, .int (nI t)), (3, .int (nI j))]) rfl ?_
              refine q_iincN (c := 1) dX2_countWaysTo_60 rfl (by decide) rfl (ls' := [(3, .int (nI (j + 1))), (2, .int (nI (((cntW q t j) + 0) + 0))), (0, .ref b), (1, .int (nI t))]) rfl ?_
              refine q_goto (tgt := 4) dX2_countWaysTo_63 (by decide) ?_
              refine q_pk [2, 3, 1, 0] (ls' := [(0, .ref b), (1, .int (nI t)), (2, .int (nI (((cntW q t j) + 0) + 0))), (3, .int (nI (j + 1)))]) rfl ?_
              have e : (((cntW q t j) + 0) + 0) = cntW q t (j + 1) := by
                show _ = cntW q t j + cw q t j
                unfold cw
                rw [hw0, hw1]
                simp_all
              rw [e]
              exact hI
            · skip
              refine q_iconst (v := nI 1) dX2_countWaysTo_53 rfl ?_
              refine q_goto (tgt := 58) dX2_countWaysTo_54 (by decide) ?_
              refine q_iaddN dX2_countWaysTo_58 ?_
              refine q_istore_n dX2_countWaysTo_59 rfl (by decide) (ls' := [(2, .int (nI (((cntW q t j) + 0) + 1))), (0, .ref b), (1, .int (nI t)), (3, .int (nI j))]) rfl ?_
              refine q_iincN (c := 1) dX2_countWaysTo_60 rfl (by decide) rfl (ls' := [(3, .int (nI (j + 1))), (2, .int (nI (((cntW q t j) + 0) + 1))), (0, .ref b), (1, .int (nI t))]) rfl ?_
              refine q_goto (tgt := 4) dX2_countWaysTo_63 (by decide) ?_
              refine q_pk [2, 3, 1, 0] (ls' := [(0, .ref b), (1, .int (nI t)), (2, .int (nI (((cntW q t j) + 0) + 1))), (3, .int (nI (j + 1)))]) rfl ?_
              have e : (((cntW q t j) + 0) + 1) = cntW q t (j + 1) := by
                show _ = cntW q t j + cw q t j
                unfold cw
                rw [hw0, hw1]
                simp_all
              rw [e]
              exact hI
          · skip
            refine q_iconst (v := nI 1) dX2_countWaysTo_29 rfl ?_
            refine q_goto (tgt := 34) dX2_countWaysTo_30 (by decide) ?_
            refine q_iaddN dX2_countWaysTo_34 ?_
            refine q_istore_n dX2_countWaysTo_35 rfl (by decide) (ls' := [(2, .int (nI ((cntW q t j) + 1))), (0, .ref b), (1, .int (nI t)), (3, .int (nI j))]) rfl ?_
            refine q_iload_n dX2_countWaysTo_36 rfl rfl ?_
            refine q_aload_n dX2_countWaysTo_37 rfl rfl rfl ?_
            refine q_getr (r := b + 8) dX2_countWaysTo_38 fX2_29 rfl (ty_r hb 0 rfl) (hb.2.2 0 5 8 rfl) ?_
            refine q_iconst (v := nI 1) dX2_countWaysTo_41 rfl ?_
            refine q_aald (r := b + 10) (j := 1) dX2_countWaysTo_42 (ty_r hb 8 rfl) (Or.inl rfl) (ix_n (by omega) (by omega)) (hb.2.2 8 1 10 rfl) ?_
            refine q_aload_n dX2_countWaysTo_43 rfl rfl rfl ?_
            refine q_iload_n dX2_countWaysTo_44 rfl rfl ?_
            refine q_callV (As := [.int (nI j)]) (rest := [.ref (b + 10), .int (nI ((cntW q t j) + 1))]) dX2_countWaysTo_45 vX2_115 (ty_r hb 0 rfl) ⟨by decide, rfl⟩ (z2_endOf hb (by omega) g1 e1 (by omega)) rfl rfl (Nat.le_of_ble_eq_true rfl) (by omega) (by omega) (by omega) (k_p ?_)
            refine q_iald (x := nI v1) (j := (nf q (j + 1) - 1)) dX2_countWaysTo_48 (ty_r hb 10 rfl) (ix_n (by omega) (by omega)) g4 ?_
            refine q_iload_n dX2_countWaysTo_49 rfl rfl ?_
            refine q_icmp_neN (tgt := 57) dX2_countWaysTo_50 (by decide) (by omega) (by omega) (fun c50 => ?_) (fun c50 => ?_)
            · skip
              refine q_iconst (v := nI 0) dX2_countWaysTo_57 rfl ?_
              refine q_iaddN dX2_countWaysTo_58 ?_
              refine q_istore_n dX2_countWaysTo_59 rfl (by decide) (ls' := [(2, .int (nI (((cntW q t j) + 1) + 0))), (0, .ref b), (1, .int (nI t)), (3, .int (nI j))]) rfl ?_
              refine q_iincN (c := 1) dX2_countWaysTo_60 rfl (by decide) rfl (ls' := [(3, .int (nI (j + 1))), (2, .int (nI (((cntW q t j) + 1) + 0))), (0, .ref b), (1, .int (nI t))]) rfl ?_
              refine q_goto (tgt := 4) dX2_countWaysTo_63 (by decide) ?_
              refine q_pk [2, 3, 1, 0] (ls' := [(0, .ref b), (1, .int (nI t)), (2, .int (nI (((cntW q t j) + 1) + 0))), (3, .int (nI (j + 1)))]) rfl ?_
              have e : (((cntW q t j) + 1) + 0) = cntW q t (j + 1) := by
                show _ = cntW q t j + cw q t j
                unfold cw
                rw [hw0, hw1]
                simp_all
              rw [e]
              exact hI
            · skip
              refine q_iconst (v := nI 1) dX2_countWaysTo_53 rfl ?_
              refine q_goto (tgt := 58) dX2_countWaysTo_54 (by decide) ?_
              refine q_iaddN dX2_countWaysTo_58 ?_
              refine q_istore_n dX2_countWaysTo_59 rfl (by decide) (ls' := [(2, .int (nI (((cntW q t j) + 1) + 1))), (0, .ref b), (1, .int (nI t)), (3, .int (nI j))]) rfl ?_
              refine q_iincN (c := 1) dX2_countWaysTo_60 rfl (by decide) rfl (ls' := [(3, .int (nI (j + 1))), (2, .int (nI (((cntW q t j) + 1) + 1))), (0, .ref b), (1, .int (nI t))]) rfl ?_
              refine q_goto (tgt := 4) dX2_countWaysTo_63 (by decide) ?_
              refine q_pk [2, 3, 1, 0] (ls' := [(0, .ref b), (1, .int (nI t)), (2, .int (nI (((cntW q t j) + 1) + 1))), (3, .int (nI (j + 1)))]) rfl ?_
              have e : (((cntW q t j) + 1) + 1) = cntW q t (j + 1) := by
                show _ = cntW q t j + cw q t j
                unfold cw
                rw [hw0, hw1]
                simp_all
              rw [e]
              exact hI

theorem z2_ways {g : GG} {σ : HS} {b : Nat} (hb : RB σ b) {q : PS} (hB : sI σ b 12 = nI (psF q).length) (hE : ∀ j, j < (psF q).length → sI σ (b + 15) (j + 1) = nI (nf q (j + 1)) ∧ sI σ (b + 9) (nf q (j + 1) - 1) = oW (wy q 0 j) ∧ sI σ (b + 10) (nf q (j + 1) - 1) = oW (wy q 1 j)) (hc : BC q) (hw : WFs q) {t : Nat} (ht : t < 40) : CT g mX2_countWaysTo 2 0 0 [.ref b, .int (nI t)] σ (PQ σ (.int (nI (cntW q t (psF q).length)))) := by
  have hb14 : b = 14 ∨ 99 ≤ b := by rcases hb.1 with h | ⟨j, h⟩ <;> omega
  refine CT.of (by decide) (Nat.le_of_ble_eq_true rfl) ?_
  refine q_iconst (v := nI 0) dX2_countWaysTo_0 rfl ?_
  refine q_istore_n dX2_countWaysTo_1 rfl (by decide) (ls' := [(2, .int (nI 0)), (0, .ref b), (1, .int (nI t))]) rfl ?_
  refine q_iconst (v := nI 0) dX2_countWaysTo_2 rfl ?_
  refine q_istore_n dX2_countWaysTo_3 rfl (by decide) (ls' := [(3, .int (nI 0)), (2, .int (nI 0)), (0, .ref b), (1, .int (nI t))]) rfl ?_
  refine q_pk [2, 3, 1, 0] (ls' := [(0, .ref b), (1, .int (nI t)), (2, .int (nI 0)), (3, .int (nI 0))]) rfl ?_
  exact y2_ways hb hB hE hc hw ht (psF q).length 0 (by omega)
theorem z2_onWay {g : GG} {σ : HS} {b : Nat} (hb : RB σ b) {n t f : Nat} (hn : n < 240) (hN : sI σ b 14 = nI n) (ht : t < 40) (hf : sI σ (b + 15) t = nI f) : CT g mX2_addOnTheWay 2 0 0 [.ref b, .int (nI t)] σ (PQ (uI (uI (uI (uI (uI (uI (uI (uI (uI (uI (uI (uI (uI σ b 14 (nI (n + 1))) (b + 1) n (nI 7)) (b + 2) n (nI t)) (b + 3) n (-1)) (b + 7) n (-1)) (b + 5) n (nI 0)) (b + 9) n (-1)) (b + 12) n (-1)) (b + 6) n (nI 0)) (b + 10) n (-1)) (b + 13) n (-1)) (b + 9) n (nI t)) (b + 12) n (nI f)) (.int (nI n))) := by
  have hb14 : b = 14 ∨ 99 ≤ b := by rcases hb.1 with h | ⟨j, h⟩ <;> omega
  refine CT.of (by decide) (Nat.le_of_ble_eq_true rfl) ?_
  refine q_aload_n dX2_addOnTheWay_0 rfl rfl rfl ?_
  refine q_bipush (v := nI 7) dX2_addOnTheWay_1 rfl ?_
  refine q_iload_n dX2_addOnTheWay_3 rfl rfl ?_
  refine q_callV (As := [.int (nI 7), .int (nI t)]) (rest := []) dX2_addOnTheWay_4 vX2_78 (ty_r hb 0 rfl) ⟨by decide, rfl⟩ (z2_newNode hb hn hN) rfl rfl (Nat.le_of_ble_eq_true rfl) (by omega) (by omega) (by omega) (k_p ?_)
  refine q_istore_n dX2_addOnTheWay_7 rfl (by decide) (ls' := [(2, .int (nI n)), (0, .ref b), (1, .int (nI t))]) rfl ?_
  refine q_aload_n dX2_addOnTheWay_8 rfl rfl rfl ?_
  refine q_getr (r := b + 8) dX2_addOnTheWay_9 fX2_29 rfl (ty_r hb 0 rfl) (hb.2.2 0 5 8 rfl) ?_
  refine q_iconst (v := nI 0) dX2_addOnTheWay_12 rfl ?_
  refine q_aald (r := b + 9) (j := 0) dX2_addOnTheWay_13 (ty_r hb 8 rfl) (Or.inl rfl) (ix_n (by omega) (by omega)) (hb.2.2 8 0 9 rfl) ?_
  refine q_iload_n dX2_addOnTheWay_14 rfl rfl ?_
  refine q_iload_n dX2_addOnTheWay_15 rfl rfl ?_
  refine q_iast (j := n) dX2_addOnTheWay_16 (ty_r hb 9 rfl) (ix_n (by omega) (by omega)) ?_
  refine q_aload_n dX2_addOnTheWay_17 rfl rfl rfl ?_
  refine q_getr (r := b + 11) dX2_addOnTheWay_18 fX2_32 rfl (ty_r hb 0 rfl) (hb.2.2 0 6 11 rfl) ?_
  refine q_iconst (v := nI 0) dX2_addOnTheWay_21 rfl ?_
  refine q_aald (r := b + 12) (j := 0) dX2_addOnTheWay_22 (ty_r hb 11 rfl) (Or.inl rfl) (ix_n (by omega) (by omega)) (hb.2.2 11 0 12 rfl) ?_
  refine q_iload_n dX2_addOnTheWay_23 rfl rfl ?_
  refine q_aload_n dX2_addOnTheWay_24 rfl rfl rfl ?_
  refine q_getr (r := b + 15) dX2_addOnTheWay_25 fX2_38 rfl (ty_r hb 0 rfl) (hb.2.2 0 8 15 rfl) ?_
  refine q_iload_n dX2_addOnTheWay_28 rfl rfl ?_
  refine q_iald (x := nI f) (j := t) dX2_addOnTheWay_29 (ty_r hb 15 rfl) (ix_n (by omega) (by omega)) (Eq.trans (rd_off (by omega)) (Eq.trans (rd_off (by omega)) (Eq.trans (rd_off (by omega)) (Eq.trans (rd_off (by omega)) (Eq.trans (rd_off (by omega)) (Eq.trans (rd_off (by omega)) (Eq.trans (rd_off (by omega)) (Eq.trans (rd_off (by omega)) (Eq.trans (rd_off (by omega)) (Eq.trans (rd_off (by omega)) (Eq.trans (rd_off (by omega)) (Eq.trans (rd_off (by omega)) hf)))))))))))) ?_
  refine q_iast (j := n) dX2_addOnTheWay_30 (ty_r hb 12 rfl) (ix_n (by omega) (by omega)) ?_
  refine q_iload_n dX2_addOnTheWay_31 rfl rfl ?_
  refine q_ireturn dX2_addOnTheWay_32 rfl rfl (by omega) (by omega) ?_
  exact ⟨rfl, rfl⟩
/-- block that statement n names -/
def wr (q : PS) (w n : Nat) : Option Nat := un (if w = 0 then rW0 (rr q n) else rW1 (rr q n))
def many (q : PS) (t : Nat) : Bool := decide (1 < cntW q t (psF q).length)
/-- the NODES ON THE WAY that statement n makes, each as its block -/
def xs (q : PS) (n : Nat) : List Nat := if rK (rr q n) = 5 then ((wr q 0 n).toList ++ (wr q 1 n).toList).filter (many q) else []
def XL (q : PS) : Nat → List Nat
  | 0 => []
  | n + 1 => XL q n ++ xs q n
theorem wr_end {q : PS} {w j : Nat} : wr q w (nf q (j + 1) - 1) = wy q w j := rfl
theorem xs_le (q : PS) (n : Nat) : (xs q n).length ≤ 2 := by
  unfold xs
  split
  · refine Nat.le_trans (List.length_filter_le _ _) ?_
    rw [List.length_append]
    cases wr q 0 n <;> cases wr q 1 n <;> simp
  · simp
theorem xs_0 {q : PS} {n : Nat} (h : rK (rr q n) < 4) : xs q n = [] := by
  unfold xs; rw [if_neg (by omega)]
theorem XL_const {q : PS} {n : Nat} : ∀ k, (∀ i, n ≤ i → i < n + k → rK (rr q i) < 4) → XL q (n + k) = XL q n
  | 0, _ => rfl
  | k + 1, h => by
    show XL q (n + k) ++ xs q (n + k) = _
    rw [xs_0 (h (n + k) (by omega) (by omega)), List.append_nil]
    exact XL_const k fun i h1 h2 => h i h1 (by omega)
theorem XL_blk {q : PS} (hc : BC q) : ∀ j, j ≤ (psF q).length → (XL q (nf q j)).length ≤ 2 * j
  | 0, _ => by rw [hc.2.2.2.1]; exact Nat.le_refl _
  | j + 1, hj => by
    have ih := XL_blk hc j (by omega)
    obtain ⟨b1, b2, b3, b4, b5, b6⟩ := hc
    have h1 := b5 j (by omega)
    have h2 : XL q (nf q j + (nf q (j + 1) - 1 - nf q j)) = XL q (nf q j) := XL_const _ fun i g1 g2 => by
      have := (b6 j (by omega) i g1 (by omega)).2
      have h3 : ¬ 4 ≤ rK (rr q i) := fun h4 => by have := this.mp h4; omega
      omega
    rw [show nf q j + (nf q (j + 1) - 1 - nf q j) = nf q (j + 1) - 1 by omega] at h2
    have h3 : XL q (nf q (j + 1)) = XL q (nf q (j + 1) - 1) ++ xs q (nf q (j + 1) - 1) := by
      conv => lhs; rw [show nf q (j + 1) = nf q (j + 1) - 1 + 1 by omega]
      rfl
    rw [h3, h2, List.length_append]
    have := xs_le q (nf q (j + 1) - 1)
    omega
theorem XL_mono (q : PS) {n : Nat} : ∀ k, (XL q n).length ≤ (XL q (n + k)).length
  | 0 => Nat.le_refl _
  | k + 1 => by
    have := XL_mono q (n := n) k
    show _ ≤ (XL q (n + k) ++ xs q (n + k)).length
    rw [List.length_append]; omega
theorem XL_le {q : PS} (hc : BC q) {n : Nat} (hn : n ≤ (psS q).length) : (XL q n).length ≤ 80 := by
  have h1 := XL_mono q (n := n) ((psS q).length - n)
  rw [show n + ((psS q).length - n) = (psS q).length by omega] at h1
  have h2 := XL_blk hc (psF q).length (Nat.le_refl _)
  rw [nf_ge (Nat.le_refl _)] at h2
  have := hc.2.1
  omega
/-- where NODE n leads: the block's first NODE, or one ON THE WAY -/
def ldW (q : PS) (n i : Nat) : Option Nat → Option Nat
  | none => none
  | some t => if rK (rr q n) = 5 ∧ many q t = true then some ((psS q).length + (XL q n).length + i) else some (nf q t)
def nW (q : PS) (n : Nat) : Option Nat → Nat
  | none => 0
  | some t => if many q t = true then 1 else 0
def ld (q : PS) (w n : Nat) : Option Nat :=
  if n < (psS q).length then
    (if rK (rr q n) < 4 then (if w = 0 then some (n + 1) else none)
     else if w = 0 then ldW q n 0 (wr q 0 n) else ldW q n (nW q n (wr q 0 n)) (wr q 1 n))
  else if w = 0 then some (nf q ((XL q (psS q).length).getD (n - (psS q).length) 0)) else none
/-- all NODES as records -/
def rg (q : PS) (n : Nat) : REC := if n < (psS q).length then rr q n else (7, (XL q (psS q).length).getD (n - (psS q).length) 0, -1, nI 0, nI 0, -1, nI ((XL q (psS q).length).getD (n - (psS q).length) 0), -1, 0, 0)
def NN (q : PS) : Nat := (psS q).length + (XL q (psS q).length).length
theorem NN_le {q : PS} (hc : BC q) : NN q ≤ 240 := by
  have h1 := XL_le hc (Nat.le_refl _)
  have h2 := hc.2.2.1
  unfold NN; omega
