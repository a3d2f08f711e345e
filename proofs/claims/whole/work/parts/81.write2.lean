/-! The class's write and feed. -/
theorem fit_8 {c : Nat} (hc : c < 128) : fits .byte (.int (nI c)) = true := by
  have : ∀ c : Fin 128, fits .byte (.int (nI c.val)) = true := by decide +kernel
  exact this ⟨c, hc⟩
theorem wr_fin {σ τ : HS} {W : List Nat} {P : Prop} (f1 : Fr [55, 56, 57] σ τ) (hW : BFw τ W) (hl : W.length ≤ 3000) : Fr [2, 3, 55, 56, 57] σ (cpS (uI τ 2 1 (nI W.length)) 56 3 0 0 W.length) ∧ ((W.length ≤ 3000 ∧ some (Value.int (nI W.length)) = some (.int (nI W.length)) ∧ CTX (cpS (uI τ 2 1 (nI W.length)) 56 3 0 0 W.length) W.length (fun i => W.getD i 0)) ∨ P) := by
  obtain ⟨w1, w2, w3, w4⟩ := hW
  refine ⟨Fr.cp ((f1.wk (by decide)).uI (by decide)) (by decide), Or.inl ⟨hl, rfl, ?_, hl, fun i hi => ?_⟩⟩
  · rw [cpS_I, if_neg (by omega), uI_self]
  · have hc : W.getD i 0 < 128 := by
      refine w4 _ ?_
      rw [List.getD_eq_getElem?_getD, List.getElem?_eq_getElem hi]
      exact List.getElem_mem hi
    rw [cpS_I, if_pos ⟨rfl, by omega, by omega⟩, Nat.sub_zero, Nat.zero_add, sI_uI, if_neg (by omega), w3 i (by omega), and_255 (by omega)]
    exact ⟨rfl, Nat.lt_trans hc (by omega)⟩
section WT2
variable {g : GG} {σ : HS} {b : Nat} {q : PS} {p : Int32}
theorem z5_hold (hS : SK σ) {W : List Nat} (hW : BFw σ W) (hl : W.length ≤ 3000) : CT g mX5_hold 1 0 0 [.ref 2, .ref 56, .int (nI W.length)] σ (VQ (cpS (uI σ 2 1 (nI W.length)) 56 3 0 0 W.length)) := by
  obtain ⟨w1, w2, w3, w4⟩ := hW
  have h3 : ∀ i, i < W.length → fits .byte (.int (sI (uI σ 2 1 (nI W.length)) 56 (0 + i))) = true := fun i hi => by
    rw [Nat.zero_add, sI_uI, if_neg (by omega), w3 i (by omega)]
    refine fit_8 (w4 _ ?_)
    rw [List.getD_eq_getElem?_getD, List.getElem?_eq_getElem hi]
    exact List.getElem_mem hi
  have hm : min W.length (min 3000 3000) = W.length := by omega
  refine CT.of (by decide) (Nat.le_of_ble_eq_true rfl) ?_
  refine q_aload_n dX5_hold_0 rfl rfl rfl ?_
  refine q_iload_n dX5_hold_1 rfl rfl ?_
  refine q_aload_n dX5_hold_2 rfl rfl rfl ?_
  refine q_alen (x := nI 3000) dX5_hold_3 (ty_c hS (by decide) rfl) (by decide) rfl ?_
  refine q_aload_n dX5_hold_4 rfl rfl rfl ?_
  refine q_getr (r := 3) dX5_hold_5 fX5_9 rfl (ty_c hS (by decide) rfl) (hS.2 2 0 3 rfl) ?_
  refine q_alen (x := nI 3000) dX5_hold_8 (ty_c hS (by decide) rfl) (by decide) rfl ?_
  refine q_mmin (z := nI (min 3000 3000)) dX5_hold_9 vX5_19 (by omega) (by omega) (by omega) (Nat.le_of_ble_eq_true rfl) (min_N (by omega) (by omega)) ?_
  refine q_mmin (z := nI (min W.length (min 3000 3000))) dX5_hold_12 vX5_19 (by omega) (by omega) (by omega) (Nat.le_of_ble_eq_true rfl) (min_N (by omega) (by omega)) ?_
  refine q_top (y := nI W.length) (by rw [hm]) ?_
  refine q_puti dX5_hold_15 fX5_15 rfl (Or.inl rfl) (ty_c hS (by decide) rfl) ?_
  refine q_aload_n dX5_hold_18 rfl rfl rfl ?_
  refine q_iconst (v := nI 0) dX5_hold_19 rfl ?_
  refine q_aload_n dX5_hold_20 rfl rfl rfl ?_
  refine q_getr (r := 3) dX5_hold_21 fX5_9 rfl (ty_c hS (by decide) rfl) (hS.2 2 0 3 rfl) ?_
  refine q_iconst (v := nI 0) dX5_hold_24 rfl ?_
  refine q_aload_n dX5_hold_25 rfl rfl rfl ?_
  refine q_geti (x := nI W.length) dX5_hold_26 fX5_15 rfl (ty_c hS (by decide) rfl) uI_self ?_
  refine q_copy (n := W.length) (dp := 0) (sp := 0) dX5_hold_29 cy_5 cy_n cy_s cy_i (Or.inr ⟨rfl, rfl⟩) (ty_c hS (by decide) rfl) (ty_c hS (by decide) rfl) (by omega) (by omega) (by omega) h3 (by omega) ?_
  refine q_return dX5_hold_32 rfl (by omega) (by omega) ?_
  exact ⟨rfl, rfl⟩
theorem z8_write0 (hS : SK σ) (h : RA σ p none) {l : Int32} : CT g mX8_write 1 0 0 [.ref 1, .int p, .int l] σ (PQ σ (.int (-1))) := by
  refine CT.of (by decide) (Nat.le_of_ble_eq_true rfl) ?_
  refine q_aload_n dX8_write_0 rfl rfl rfl ?_
  refine q_iload_n dX8_write_1 rfl rfl ?_
  refine q_callV (As := [.int p]) (rest := []) dX8_write_2 vX8_89 (ty_c hS (by decide) rfl) ⟨by decide, rfl⟩ (z8_routineAt0 hS h) rfl rfl (Nat.le_of_ble_eq_true rfl) (by omega) (by omega) (by omega) (k_p ?_)
  refine q_astore_n dX8_write_5 rfl rfl (by decide) (ls' := [(3, .ref 0), (0, .ref 1), (1, .int p), (2, .int l)]) rfl ?_
  refine q_aload_n dX8_write_6 rfl rfl rfl ?_
  refine q_ifnull (tgt := 17) dX8_write_7 (by decide) (fun c7 => ?_) (fun c7 => ?_)
  · skip
    refine q_iconst (v := (-1 : Int32)) dX8_write_17 rfl ?_
    refine q_ireturn dX8_write_18 rfl rfl (by omega) (by omega) ?_
    exact ⟨rfl, rfl⟩
  · exact absurd c7 (by omega)
theorem z8_write2 (hS : SK σ) (h : RA σ p (some (b, q))) {l : Int32} (hl : ¬ (¬ l < 0 ∧ l < nI 3)) : CT g mX8_write 1 0 0 [.ref 1, .int p, .int l] σ (PQ σ (.int (-1))) := by
  obtain ⟨i, hi, rfl, h0, hr⟩ := h
  simp only at h0 hr
  have hb := hr.1
  have hb14 : b = 14 ∨ 99 ≤ b := by rcases hb.1 with h | ⟨j, h⟩ <;> omega
  have h16 := hr.2.2.2.2.2.2.2.2.2.1
  refine CT.of (by decide) (Nat.le_of_ble_eq_true rfl) ?_
  refine q_aload_n dX8_write_0 rfl rfl rfl ?_
  refine q_iload_n dX8_write_1 rfl rfl ?_
  refine q_callV (As := [.int (nI i)]) (rest := []) dX8_write_2 vX8_89 (ty_c hS (by decide) rfl) ⟨by decide, rfl⟩ (z8_routineAt1 hS hi hb h0) rfl rfl (Nat.le_of_ble_eq_true rfl) (by omega) (by omega) (by omega) (k_p ?_)
  refine q_astore_n dX8_write_5 rfl rfl (by decide) (ls' := [(3, .ref b), (0, .ref 1), (1, .int (nI i)), (2, .int l)]) rfl ?_
  refine q_aload_n dX8_write_6 rfl rfl rfl ?_
  refine q_ifnull (tgt := 17) dX8_write_7 (by decide) (fun c7 => ?_) (fun c7 => ?_)
  · exact absurd c7 (by omega)
  · skip
    refine q_iload_n dX8_write_10 rfl rfl ?_
    refine q_callS (As := [.int l]) (rest := []) dX8_write_11 vX8_154 (z8_isPlacing) rfl rfl (Nat.le_of_ble_eq_true rfl) (by omega) (by omega) (by omega) (k_p ?_)
    refine q_if_neB (tgt := 19) dX8_write_14 (by decide) (fun c14 => ?_) (fun c14 => ?_)
    · exact absurd (of_decide_eq_true c14) hl
    · skip
      refine q_iconst (v := (-1 : Int32)) dX8_write_17 rfl ?_
      refine q_ireturn dX8_write_18 rfl rfl (by omega) (by omega) ?_
      exact ⟨rfl, rfl⟩
theorem z8_write3 (hS : SK σ) (h : RA σ p (some (b, q))) {v : Nat} (hv : v < 3) (h0v : v ≠ 0) (ht : psT q = true) : CT g mX8_write 1 0 0 [.ref 1, .int p, .int (nI v)] σ (PQ σ (.int (-4))) := by
  obtain ⟨i, hi, rfl, h0, hr⟩ := h
  simp only at h0 hr
  have hb := hr.1
  have hb14 : b = 14 ∨ 99 ≤ b := by rcases hb.1 with h | ⟨j, h⟩ <;> omega
  have h16 := hr.2.2.2.2.2.2.2.2.2.1
  have hl : ¬ nI v < 0 ∧ nI v < nI 3 := n_is (by omega) hv
  refine CT.of (by decide) (Nat.le_of_ble_eq_true rfl) ?_
  refine q_aload_n dX8_write_0 rfl rfl rfl ?_
  refine q_iload_n dX8_write_1 rfl rfl ?_
  refine q_callV (As := [.int (nI i)]) (rest := []) dX8_write_2 vX8_89 (ty_c hS (by decide) rfl) ⟨by decide, rfl⟩ (z8_routineAt1 hS hi hb h0) rfl rfl (Nat.le_of_ble_eq_true rfl) (by omega) (by omega) (by omega) (k_p ?_)
  refine q_astore_n dX8_write_5 rfl rfl (by decide) (ls' := [(3, .ref b), (0, .ref 1), (1, .int (nI i)), (2, .int (nI v))]) rfl ?_
  refine q_aload_n dX8_write_6 rfl rfl rfl ?_
  refine q_ifnull (tgt := 17) dX8_write_7 (by decide) (fun c7 => ?_) (fun c7 => ?_)
  · exact absurd c7 (by omega)
  · skip
    refine q_iload_n dX8_write_10 rfl rfl ?_
    refine q_callS (As := [.int (nI v)]) (rest := []) dX8_write_11 vX8_154 (z8_isPlacing) rfl rfl (Nat.le_of_ble_eq_true rfl) (by omega) (by omega) (by omega) (k_p ?_)
    refine q_if_neB (tgt := 19) dX8_write_14 (by decide) (fun c14 => ?_) (fun c14 => ?_)
    · skip
      refine q_iload_n dX8_write_19 rfl rfl ?_
      refine q_if_eqN (tgt := 33) dX8_write_20 (by decide) (by omega) (fun c20 => ?_) (fun c20 => ?_)
      · exact absurd c20 h0v
      · skip
        refine q_aload_n dX8_write_23 rfl rfl rfl ?_
        refine q_geti (x := bi (psT q)) dX8_write_24 fX8_212 rfl (ty_r hb 0 rfl) h16 ?_
        refine q_if_eqB (tgt := 33) dX8_write_27 (by decide) (fun c27 => ?_) (fun c27 => ?_)
        · exact absurd (ht.symm.trans c27) (by decide)
        · skip
          refine q_bipush (v := (-4 : Int32)) dX8_write_30 rfl ?_
          refine q_ireturn dX8_write_32 rfl rfl (by omega) (by omega) ?_
          exact ⟨rfl, rfl⟩
    · exact absurd hl (of_decide_eq_false c14)
theorem z8_write1 (hS : SK σ) (h : RA σ p (some (b, q))) {v : Nat} (hv : v < 3) (ht : v = 0 ∨ psT q = false) : CT g mX8_write 10 0 0 [.ref 1, .int p, .int (nI v)] σ (fun r σ' => Fr [2, 3, 55, 56, 57] σ σ' ∧ (((fuT q v).length ≤ 3000 ∧ r = some (.int (nI (fuT q v).length)) ∧ CTX σ' (fuT q v).length (fun i => (fuT q v).getD i 0)) ∨ (3000 < (fuT q v).length ∧ r = some (.int (-3)) ∧ sI σ' 2 = sI σ 2 ∧ sI σ' 3 = sI σ 3))) := by
  obtain ⟨i, hi, rfl, h0, hr⟩ := h
  simp only at h0 hr
  have hb := hr.1
  have hb14 : b = 14 ∨ 99 ≤ b := by rcases hb.1 with h | ⟨j, h⟩ <;> omega
  have h16 := hr.2.2.2.2.2.2.2.2.2.1
  have hl : ¬ nI v < 0 ∧ nI v < nI 3 := n_is (by omega) hv
  refine CT.of (by decide) (Nat.le_of_ble_eq_true rfl) ?_
  refine q_aload_n dX8_write_0 rfl rfl rfl ?_
  refine q_iload_n dX8_write_1 rfl rfl ?_
  refine q_callV (As := [.int (nI i)]) (rest := []) dX8_write_2 vX8_89 (ty_c hS (by decide) rfl) ⟨by decide, rfl⟩ (z8_routineAt1 hS hi hb h0) rfl rfl (Nat.le_of_ble_eq_true rfl) (by omega) (by omega) (by omega) (k_p ?_)
  refine q_astore_n dX8_write_5 rfl rfl (by decide) (ls' := [(3, .ref b), (0, .ref 1), (1, .int (nI i)), (2, .int (nI v))]) rfl ?_
  refine q_aload_n dX8_write_6 rfl rfl rfl ?_
  refine q_ifnull (tgt := 17) dX8_write_7 (by decide) (fun c7 => ?_) (fun c7 => ?_)
  · exact absurd c7 (by omega)
  · skip
    refine q_iload_n dX8_write_10 rfl rfl ?_
    refine q_callS (As := [.int (nI v)]) (rest := []) dX8_write_11 vX8_154 (z8_isPlacing) rfl rfl (Nat.le_of_ble_eq_true rfl) (by omega) (by omega) (by omega) (k_p ?_)
    refine q_if_neB (tgt := 19) dX8_write_14 (by decide) (fun c14 => ?_) (fun c14 => ?_)
    · skip
      refine q_iload_n dX8_write_19 rfl rfl ?_
      refine q_if_eqN (tgt := 33) dX8_write_20 (by decide) (by omega) (fun c20 => ?_) (fun c20 => ?_)
      · skip
        refine q_aload_n dX8_write_33 rfl rfl rfl ?_
        refine q_getr (r := 55) dX8_write_34 fX8_39 rfl (ty_c hS (by decide) rfl) (hS.2 1 4 55 rfl) ?_
        refine q_aload_n dX8_write_37 rfl rfl rfl ?_
        refine q_iload_n dX8_write_38 rfl rfl ?_
        refine q_callV (As := [.ref b, .int (nI v)]) (rest := []) dX8_write_39 vX8_215 (ty_c hS (by decide) rfl) ⟨by decide, rfl⟩ (x7_write hS hr hv) rfl rfl (Nat.le_of_ble_eq_true rfl) (by omega) (by omega) (by omega) (k_v (fun s39 q39 => ?_))
        obtain ⟨f1, f2⟩ := q39
        have hS9 := SK.fr f1 hS
        obtain ⟨x, x1, x2, x3⟩ := f2.bool
        refine q_aload_n dX8_write_42 rfl rfl rfl ?_
        refine q_getr (r := 55) dX8_write_43 fX8_39 rfl (ty_c hS9 (by decide) rfl) (hS9.2 1 4 55 rfl) ?_
        refine q_geti (x := bi x) dX8_write_46 fX8_218 rfl (ty_c hS9 (by decide) rfl) x1 ?_
        refine q_if_eqB (tgt := 55) dX8_write_49 (by decide) (fun c49 => ?_) (fun c49 => ?_)
        · obtain ⟨x6, x8⟩ := x2 c49
          have x7 : (fuT q v).length ≤ 3000 := by omega
          have x4 : sI s39 55 2 = nI (fuT q v).length := by rw [x6.1, Nat.min_eq_left x7]
          refine q_aload_n dX8_write_55 rfl rfl rfl ?_
          refine q_getr (r := 2) dX8_write_56 fX8_12 rfl (ty_c hS9 (by decide) rfl) (hS9.2 1 0 2 rfl) ?_
          refine q_aload_n dX8_write_59 rfl rfl rfl ?_
          refine q_getr (r := 55) dX8_write_60 fX8_39 rfl (ty_c hS9 (by decide) rfl) (hS9.2 1 4 55 rfl) ?_
          refine q_getr (r := 56) dX8_write_63 fX8_221 rfl (ty_c hS9 (by decide) rfl) (hS9.2 55 0 56 rfl) ?_
          refine q_aload_n dX8_write_66 rfl rfl rfl ?_
          refine q_getr (r := 55) dX8_write_67 fX8_39 rfl (ty_c hS9 (by decide) rfl) (hS9.2 1 4 55 rfl) ?_
          refine q_geti (x := nI ((fuT q v).length)) dX8_write_70 fX8_225 rfl (ty_c hS9 (by decide) rfl) x4 ?_
          refine q_callV (As := [.ref 56, .int (nI ((fuT q v).length))]) (rest := []) dX8_write_73 vX8_226 (ty_c hS9 (by decide) rfl) ⟨by decide, rfl⟩ (z5_hold hS9 x6 x7) rfl rfl (Nat.le_of_ble_eq_true rfl) (by omega) (by omega) (by omega) (k_s ?_)
          have x5 : sI (cpS (uI s39 2 1 (nI (fuT q v).length)) 56 3 0 0 (fuT q v).length) 2 1 = nI (fuT q v).length := by rw [cpS_I, if_neg (by omega), uI_self]
          refine q_aload_n dX8_write_76 rfl rfl rfl ?_
          refine q_getr (r := 2) dX8_write_77 fX8_12 rfl (ty_c hS9 (by decide) rfl) (hS9.2 1 0 2 rfl) ?_
          refine q_geti (x := nI ((fuT q v).length)) dX8_write_80 fX8_43 rfl (ty_c hS9 (by decide) rfl) x5 ?_
          refine q_ireturn dX8_write_83 rfl rfl (by omega) (by omega) ?_
          first | exact ⟨f1.wk (by decide), Or.inr ⟨x3 c49, rfl, f1.2.2.2 2 (by decide), f1.2.2.2 3 (by decide)⟩⟩ | exact wr_fin f1 x6 x7
        · skip
          refine q_bipush (v := (-3 : Int32)) dX8_write_52 rfl ?_
          refine q_ireturn dX8_write_54 rfl rfl (by omega) (by omega) ?_
          first | exact ⟨f1.wk (by decide), Or.inr ⟨x3 c49, rfl, f1.2.2.2 2 (by decide), f1.2.2.2 3 (by decide)⟩⟩ | exact wr_fin f1 x6 x7
      · skip
        refine q_aload_n dX8_write_23 rfl rfl rfl ?_
        refine q_geti (x := bi (psT q)) dX8_write_24 fX8_212 rfl (ty_r hb 0 rfl) h16 ?_
        refine q_if_eqB (tgt := 33) dX8_write_27 (by decide) (fun c27 => ?_) (fun c27 => ?_)
        · skip
          refine q_aload_n dX8_write_33 rfl rfl rfl ?_
          refine q_getr (r := 55) dX8_write_34 fX8_39 rfl (ty_c hS (by decide) rfl) (hS.2 1 4 55 rfl) ?_
          refine q_aload_n dX8_write_37 rfl rfl rfl ?_
          refine q_iload_n dX8_write_38 rfl rfl ?_
          refine q_callV (As := [.ref b, .int (nI v)]) (rest := []) dX8_write_39 vX8_215 (ty_c hS (by decide) rfl) ⟨by decide, rfl⟩ (x7_write hS hr hv) rfl rfl (Nat.le_of_ble_eq_true rfl) (by omega) (by omega) (by omega) (k_v (fun s39 q39 => ?_))
          obtain ⟨f1, f2⟩ := q39
          have hS9 := SK.fr f1 hS
          obtain ⟨x, x1, x2, x3⟩ := f2.bool
          refine q_aload_n dX8_write_42 rfl rfl rfl ?_
          refine q_getr (r := 55) dX8_write_43 fX8_39 rfl (ty_c hS9 (by decide) rfl) (hS9.2 1 4 55 rfl) ?_
          refine q_geti (x := bi x) dX8_write_46 fX8_218 rfl (ty_c hS9 (by decide) rfl) x1 ?_
          refine q_if_eqB (tgt := 55) dX8_write_49 (by decide) (fun c49 => ?_) (fun c49 => ?_)
          · obtain ⟨x6, x8⟩ := x2 c49
            have x7 : (fuT q v).length ≤ 3000 := by omega
            have x4 : sI s39 55 2 = nI (fuT q v).length := by rw [x6.1, Nat.min_eq_left x7]
            refine q_aload_n dX8_write_55 rfl rfl rfl ?_
            refine q_getr (r := 2) dX8_write_56 fX8_12 rfl (ty_c hS9 (by decide) rfl) (hS9.2 1 0 2 rfl) ?_
            refine q_aload_n dX8_write_59 rfl rfl rfl ?_
            refine q_getr (r := 55) dX8_write_60 fX8_39 rfl (ty_c hS9 (by decide) rfl) (hS9.2 1 4 55 rfl) ?_
            refine q_getr (r := 56) dX8_write_63 fX8_221 rfl (ty_c hS9 (by decide) rfl) (hS9.2 55 0 56 rfl) ?_
            refine q_aload_n dX8_write_66 rfl rfl rfl ?_
            refine q_getr (r := 55) dX8_write_67 fX8_39 rfl (ty_c hS9 (by decide) rfl) (hS9.2 1 4 55 rfl) ?_
            refine q_geti (x := nI ((fuT q v).length)) dX8_write_70 fX8_225 rfl (ty_c hS9 (by decide) rfl) x4 ?_
            refine q_callV (As := [.ref 56, .int (nI ((fuT q v).length))]) (rest := []) dX8_write_73 vX8_226 (ty_c hS9 (by decide) rfl) ⟨by decide, rfl⟩ (z5_hold hS9 x6 x7) rfl rfl (Nat.le_of_ble_eq_true rfl) (by omega) (by omega) (by omega) (k_s ?_)
            have x5 : sI (cpS (uI s39 2 1 (nI (fuT q v).length)) 56 3 0 0 (fuT q v).length) 2 1 = nI (fuT q v).length := by rw [cpS_I, if_neg (by omega), uI_self]
            refine q_aload_n dX8_write_76 rfl rfl rfl ?_
            refine q_getr (r := 2) dX8_write_77 fX8_12 rfl (ty_c hS9 (by decide) rfl) (hS9.2 1 0 2 rfl) ?_
            refine q_geti (x := nI ((fuT q v).length)) dX8_write_80 fX8_43 rfl (ty_c hS9 (by decide) rfl) x5 ?_
            refine q_ireturn dX8_write_83 rfl rfl (by omega) (by omega) ?_
            first | exact ⟨f1.wk (by decide), Or.inr ⟨x3 c49, rfl, f1.2.2.2 2 (by decide), f1.2.2.2 3 (by decide)⟩⟩ | exact wr_fin f1 x6 x7
          · skip
            refine q_bipush (v := (-3 : Int32)) dX8_write_52 rfl ?_
            refine q_ireturn dX8_write_54 rfl rfl (by omega) (by omega) ?_
            first | exact ⟨f1.wk (by decide), Or.inr ⟨x3 c49, rfl, f1.2.2.2 2 (by decide), f1.2.2.2 3 (by decide)⟩⟩ | exact wr_fin f1 x6 x7
        · exact absurd c27 (by rcases ht with ht | ht; exact absurd ht c20; rw [ht]; decide)
    · exact absurd hl (of_decide_eq_false c14)

end WT2
