/-! The class's parser: values. -/
/-- a SUM or none at NODE n -/
def VlE (b n : Nat) (σ σ' : HS) (ss : List SUM) (m t0 : Bool) (v : Int32 × Int32 × Option SUM × Nat × Bool) : Prop :=
  SV1 b n σ σ' ∧ sI σ' 5 3 = nI v.2.2.2.1 ∧ sI σ' b 16 = bi (t0 || v.2.2.2.2) ∧ sI σ' (b + 5) n = v.1 ∧ sI σ' (b + 6) n = v.2.1 ∧ (match v.2.2.1 with
    | none => sI σ' (b + 1) n = sI σ (b + 1) n ∧ sI σ' (b + 7) n = sI σ (b + 7) n ∧ SR σ' b ss m
    | some x => sI σ' (b + 1) n = nI 0 ∧ sI σ' (b + 7) n = (nSum ss x).1 ∧ SR σ' b (nSum ss x).2.1 (m || (nSum ss x).2.2))
theorem pVl_ok {T : Nat → Nat} {L k : Nat} {v : Int32 × Int32 × Option SUM × Nat × Bool} (h : pVl T L k = .ok v) :
    (tk T L k = 4 ∧ ∃ o k2 t, pSg T L 91 (k + 1) = .ok (k + 1 + 1) ∧ pOp T L (k + 1 + 1) = .ok (o, k2, t) ∧ pSg T L 93 k2 = .ok (k2 + 1) ∧ v = (nI 0, o, some (nI 114, nI (tv T L k), o), k2 + 1, t)) ∨
    (tk T L k ≠ 4 ∧ ∃ o k1 t, pOp T L k = .ok (o, k1, t) ∧ ((tk T L k1 = 7 ∧ isOpB (tv T L k1) = true ∧ ∃ o2 k2 t2, pOp T L (k1 + 1) = .ok (o2, k2, t2) ∧ v = (o, o2, some (nI (tv T L k1), o, o2), k2, t || t2)) ∨ (¬ (tk T L k1 = 7 ∧ isOpB (tv T L k1) = true) ∧ v = (o, nI 0, none, k1, t)))) := by
  unfold pVl at h
  by_cases h4 : tk T L k = 4
  · rw [if_pos h4] at h
    simp only [bd_ok] at h
    obtain ⟨k1, a1, ⟨o, k2, t⟩, a2, k3, a3, a4⟩ := h
    have e1 := (pSg_ok a1).2.2
    have e3 := (pSg_ok a3).2.2
    subst e1
    simp only at e3
    subst e3
    cases a4
    exact Or.inl ⟨h4, o, k2, t, a1, a2, a3, rfl⟩
  · rw [if_neg h4] at h
    simp only [bd_ok] at h
    obtain ⟨⟨o, k1, t⟩, a1, a2⟩ := h
    refine Or.inr ⟨h4, o, k1, t, a1, ?_⟩
    by_cases h5 : tk T L k1 = 7 ∧ isOpB (tv T L k1) = true
    · simp only [h5, and_self, if_true, bd_ok] at a2
      obtain ⟨⟨o2, k2, t2⟩, a3, a4⟩ := a2
      cases a4
      exact Or.inl ⟨h5.1, h5.2, o2, k2, t2, a3, rfl⟩
    · simp only [h5, if_false] at a2
      cases a2
      exact Or.inr ⟨h5, rfl⟩
theorem pVl_er {T : Nat → Nat} {L k : Nat} {e : Nat × Nat} (h : pVl T L k = .error e) :
    (tk T L k = 4 ∧ (pSg T L 91 (k + 1) = .error e ∨ (pSg T L 91 (k + 1) = .ok (k + 1 + 1) ∧ (pOp T L (k + 1 + 1) = .error e ∨ ∃ o k2 t, pOp T L (k + 1 + 1) = .ok (o, k2, t) ∧ pSg T L 93 k2 = .error e)))) ∨
    (tk T L k ≠ 4 ∧ (pOp T L k = .error e ∨ ∃ o k1 t, pOp T L k = .ok (o, k1, t) ∧ tk T L k1 = 7 ∧ isOpB (tv T L k1) = true ∧ pOp T L (k1 + 1) = .error e)) := by
  unfold pVl at h
  by_cases h4 : tk T L k = 4
  · rw [if_pos h4] at h
    simp only [bd_er] at h
    refine Or.inl ⟨h4, ?_⟩
    rcases h with h | ⟨k1, a1, h⟩
    · exact Or.inl h
    · have e1 := (pSg_ok a1).2.2
      subst e1
      refine Or.inr ⟨a1, ?_⟩
      rcases h with h | ⟨⟨o, k2, t⟩, a2, h⟩
      · exact Or.inl h
      · refine Or.inr ⟨o, k2, t, a2, ?_⟩
        rcases h with h | ⟨k3, a3, h⟩
        · exact h
        · cases h
  · rw [if_neg h4] at h
    simp only [bd_er] at h
    refine Or.inr ⟨h4, ?_⟩
    rcases h with h | ⟨⟨o, k1, t⟩, a1, h⟩
    · exact Or.inl h
    · refine Or.inr ⟨o, k1, t, a1, ?_⟩
      by_cases h5 : tk T L k1 = 7 ∧ isOpB (tv T L k1) = true
      · simp only [h5, and_self, if_true, bd_er] at h
        rcases h with h | ⟨⟨o2, k2, t2⟩, a2, h⟩
        · exact ⟨h5.1, h5.2, h⟩
        · cases h
      · simp only [h5, if_false] at h
        cases h
theorem pOp_lt {T : Nat → Nat} {L N k k2 : Nat} {o : Int32} {t : Bool} (hN : ts T L N = L) (h : pOp T L k = .ok (o, k2, t)) : k < k2 ∧ k2 ≤ N := by
  rcases pOp_ok h with ⟨x1, x2, x3, -, rfl, -⟩ | ⟨x1, -, rfl, -⟩ | ⟨x1, -, rfl, -⟩
  · have := tk_lt hN (k := k + 1) (by omega); omega
  · have := tk_lt hN (k := k) (by omega); omega
  · have := tk_lt hN (k := k) (by omega); omega
theorem pSg_lt {T : Nat → Nat} {L N c k k2 : Nat} (hN : ts T L N = L) (h : pSg T L c k = .ok k2) : k < k2 ∧ k2 ≤ N := by
  obtain ⟨x1, x2, rfl⟩ := pSg_ok h
  have := tk_lt hN (k := k) (by omega); omega
theorem key_n7 (T : Nat → Nat) (p e : Nat) : (keyV T p e).1 ≠ 7 := by
  unfold keyV
  repeat' split
  all_goals decide
theorem wrd_n7 (T : Nat → Nat) (p m e : Nat) : (wrdV T p m e).1 ≠ 7 := by
  unfold wrdV
  simp only
  repeat' split
  all_goals first | exact (by decide : ¬ (2 : Nat) = 7) | exact (by decide : ¬ (3 : Nat) = 7) | exact (by decide : ¬ (4 : Nat) = 7) | exact (by decide : ¬ (5 : Nat) = 7)
theorem sg_lt {c : Nat} (h : isSgB c = true) : c < 256 := by
  unfold isSgB isOpB at h
  simp at h
  omega
theorem tv_sg {T : Nat → Nat} {L k : Nat} (h : tk T L k = 7) : tv T L k < 256 := by
  unfold tk at h
  unfold tv
  by_cases hl : ts T L k < L
  · rw [if_pos hl] at h ⊢
    revert h
    unfold lxK
    repeat' split
    all_goals intro h
    all_goals first | exact absurd h (by decide : ¬ (1 : Nat) = 7) | exact absurd h (by decide : ¬ (6 : Nat) = 7) | exact absurd h (key_n7 _ _ _) | exact absurd h (wrd_n7 _ _ _ _) | exact sg_lt (by assumption)
  · rw [if_neg hl]; decide
theorem rd_c {σ : HS} {h i a c : Nat} {v w : Int32} (hn : a ≠ h ∨ c ≠ i) (hw : sI σ a c = w) : sI (uI σ h i v) a c = w := by
  rw [sI_uI, if_neg (by omega)]
  exact hw
theorem z1_readValue_ok {g : GG} {σ : HS} (hS : SK σ) {b : Nat} (hb : RB σ b) (hR : sR σ 5 5 = b) {T : Nat → Nat} {L N k n : Nat} (hn : n < 240) (hC : PCt σ T L N) (hT : ∀ i, i < L → T i < 256) (hk : sI σ 5 3 = nI k) (hkN : k ≤ N) {t0 : Bool} (ht : sI σ b 16 = bi t0) {ss : List SUM} {m : Bool} (hs : SR σ b ss m) (z0 : sI σ (b + 5) n = nI 0) (z1 : sI σ (b + 6) n = nI 0) {v : Int32 × Int32 × Option SUM × Nat × Bool} (hx : pVl T L k = .ok v) : CT g mX1_readValue 5 0 0 [.ref 5, .int (nI n)] σ (WQ (.int (bi true)) (fun σ' => VlE b n σ σ' ss m t0 v)) := by
  have hb14 : b = 14 ∨ 99 ≤ b := by rcases hb.1 with h | ⟨j, h⟩ <;> omega
  obtain ⟨h6, h2, h3, h4, h5⟩ := id hC
  rcases pVl_ok hx with ⟨x1, o, k2, t, a1, a2, a3, rfl⟩ | ⟨x1, o, k1, t, a1, h | ⟨x2, rfl⟩⟩
  · have hv := (h5 k (by omega)).2.1
    have l1 := pSg_lt h4 a1
    have l2 := pOp_lt h4 a2
    have l3 := pSg_lt h4 a3
    refine CT.of (by decide) (Nat.le_of_ble_eq_true rfl) ?_
    refine q_aload_n dX1_readValue_0 rfl rfl rfl ?_
    refine q_iconst (v := nI 4) dX1_readValue_1 rfl ?_
    refine q_callV (As := [.int (nI 4)]) (rest := []) dX1_readValue_2 vX1_48 (ty_c hS (by decide) rfl) ⟨by decide, rfl⟩ (z1_isNow_t hS hC hk (by omega) (by decide) x1) rfl rfl (Nat.le_of_ble_eq_true rfl) (by omega) (by omega) (by omega) (k_p ?_)
    refine q_if_eqB (tgt := 77) dX1_readValue_5 (by decide) (fun h => absurd h (by decide)) (fun _ => ?_)
    refine q_aload_n dX1_readValue_8 rfl rfl rfl ?_
    refine q_getr (r := 6) dX1_readValue_9 fX1_12 rfl (ty_c hS (by decide) rfl) (hS.2 5 0 6 rfl) ?_
    refine q_getr (r := 8) dX1_readValue_12 fX1_73 rfl (ty_c hS (by decide) rfl) (hS.2 6 1 8 rfl) ?_
    refine q_aload_n dX1_readValue_15 rfl rfl rfl ?_
    refine q_geti (x := nI k) dX1_readValue_16 fX1_38 rfl (ty_c hS (by decide) rfl) hk ?_
    refine q_iald (x := nI (tv T L k)) (j := k) dX1_readValue_19 (ty_c hS (by decide) rfl) (ix_n (by omega) (by omega)) hv ?_
    refine q_istore_n dX1_readValue_20 rfl (by decide) (ls' := [(2, .int (nI (tv T L k))), (0, .ref 5), (1, .int (nI n))]) rfl ?_
    refine q_aload_n dX1_readValue_21 rfl rfl rfl ?_
    refine q_dup dX1_readValue_22 rfl ?_
    refine q_geti (x := nI k) dX1_readValue_23 fX1_38 rfl (ty_c hS (by decide) rfl) hk ?_
    refine q_iconst (v := nI 1) dX1_readValue_26 rfl ?_
    refine q_iaddN dX1_readValue_27 ?_
    refine q_puti dX1_readValue_28 fX1_38 rfl (Or.inl rfl) (ty_c hS (by decide) rfl) ?_
    refine q_aload_n dX1_readValue_31 rfl rfl rfl ?_
    refine q_bipush (v := nI 91) dX1_readValue_32 rfl ?_
    refine q_callV (As := [.int (nI 91)]) (rest := []) dX1_readValue_34 vX1_82 (ty_c hS (by decide) rfl) ⟨by decide, rfl⟩ (z1_takeSign_ok (σ := (uI σ 5 3 (nI (k + 1)))) hS (PCt.u hC (by omega)) uI_self (by omega) a1 (by decide)) rfl rfl (Nat.le_of_ble_eq_true rfl) (by omega) (by omega) (by omega) (k_p ?_)
    refine q_if_eqB (tgt := 58) dX1_readValue_37 (by decide) (fun h => absurd h (by decide)) (fun _ => ?_)
    refine q_aload_n dX1_readValue_40 rfl rfl rfl ?_
    refine q_iload_n dX1_readValue_41 rfl rfl ?_
    refine q_iconst (v := nI 1) dX1_readValue_42 rfl ?_
    refine q_callV (As := [.int (nI n), .int (nI 1)]) (rest := []) dX1_readValue_43 vX1_112 (ty_c hS (by decide) rfl) ⟨by decide, rfl⟩ (z1_readOperand_ok1 (σ := (uI (uI σ 5 3 (nI (k + 1))) 5 3 (nI (k + 1 + 1)))) hS hb hR hn (PCt.u (PCt.u hC (by omega)) (by omega)) hT uI_self (by omega) (Eq.trans (rd_off (by omega)) (Eq.trans (rd_off (by omega)) ht)) a2) rfl rfl (Nat.le_of_ble_eq_true rfl) (by omega) (by omega) (by omega) (k_p ?_)
    refine q_if_eqB (tgt := 58) dX1_readValue_46 (by decide) (fun h => absurd h (by decide)) (fun _ => ?_)
    refine q_aload_n dX1_readValue_49 rfl rfl rfl ?_
    refine q_bipush (v := nI 93) dX1_readValue_50 rfl ?_
    refine q_callV (As := [.int (nI 93)]) (rest := []) dX1_readValue_52 vX1_82 (ty_c hS (by decide) rfl) ⟨by decide, rfl⟩ (z1_takeSign_ok (σ := (uI (uI (uI (uI (uI (uI σ 5 3 (nI (k + 1))) 5 3 (nI (k + 1 + 1))) 5 4 o) b 16 (bi (t0 || t))) 5 3 (nI k2)) (b + 6) n o)) hS (PCt.u (PCt.u (PCt.u (PCt.u (PCt.u (PCt.u hC (by omega)) (by omega)) (by omega)) (by omega)) (by omega)) (by omega)) (Eq.trans (rd_off (by omega)) uI_self) (by omega) a3 (by decide)) rfl rfl (Nat.le_of_ble_eq_true rfl) (by omega) (by omega) (by omega) (k_p ?_)
    refine q_if_neB (tgt := 60) dX1_readValue_55 (by decide) (fun _ => ?_) (fun h => absurd h (by decide))
    refine q_aload_n dX1_readValue_60 rfl rfl rfl ?_
    refine q_getr (r := b) dX1_readValue_61 fX1_30 rfl (ty_c hS (by decide) rfl) hR ?_
    refine q_iload_n dX1_readValue_64 rfl rfl ?_
    refine q_bipush (v := nI 114) dX1_readValue_65 rfl ?_
    refine q_iload_n dX1_readValue_67 rfl rfl ?_
    refine q_aload_n dX1_readValue_68 rfl rfl rfl ?_
    refine q_geti (x := o) dX1_readValue_69 fX1_119 rfl (ty_c hS (by decide) rfl) (Eq.trans (rd_ne (by decide)) (Eq.trans (rd_off (by omega)) (Eq.trans (rd_ne (by decide)) (Eq.trans (rd_off (by omega)) uI_self)))) ?_
    refine q_callV (As := [.int (nI n), .int (nI 114), .int (nI (tv T L k)), .int o]) (rest := []) dX1_readValue_72 vX1_122 (ty_r hb 0 rfl) ⟨by decide, rfl⟩ (z2_makeSum (σ := (uI (uI (uI (uI (uI (uI (uI σ 5 3 (nI (k + 1))) 5 3 (nI (k + 1 + 1))) 5 4 o) b 16 (bi (t0 || t))) 5 3 (nI k2)) (b + 6) n o) 5 3 (nI (k2 + 1)))) hb hn (SR.u (SR.u (SR.u (SR.u (SR.u (SR.u (SR.u hs (by omega)) (by omega)) (by omega)) (by omega)) (by omega)) (by omega)) (by omega)) (nI 114, nI (tv T L k), o)) rfl rfl (Nat.le_of_ble_eq_true rfl) (by omega) (by omega) (by omega) (k_s ?_)
    have hch : SV1 b n σ (uI (uI (uI (uI (uI (uI (uI σ 5 3 (nI (k + 1))) 5 3 (nI (k + 1 + 1))) 5 4 o) b 16 (bi (t0 || t))) 5 3 (nI k2)) (b + 6) n o) 5 3 (nI (k2 + 1))) := (SV1.uI (SV1.uI (SV1.uI (SV1.uI (SV1.uI (SV1.uI (SV1.uI SV1.rf (by omega)) (by omega)) (by omega)) (by omega)) (by omega)) (by omega)) (by omega))
    have hmk := mkS_E (σ := (uI (uI (uI (uI (uI (uI (uI σ 5 3 (nI (k + 1))) 5 3 (nI (k + 1 + 1))) 5 4 o) b 16 (bi (t0 || t))) 5 3 (nI k2)) (b + 6) n o) 5 3 (nI (k2 + 1)))) (n := n) (x := (nI 114, nI (tv T L k), o)) (SR.u (SR.u (SR.u (SR.u (SR.u (SR.u (SR.u hs (by omega)) (by omega)) (by omega)) (by omega)) (by omega)) (by omega)) (by omega))
    have g3 : sI (uI (uI (uI (uI (uI (uI (uI σ 5 3 (nI (k + 1))) 5 3 (nI (k + 1 + 1))) 5 4 o) b 16 (bi (t0 || t))) 5 3 (nI k2)) (b + 6) n o) 5 3 (nI (k2 + 1))) 5 3 = nI (k2 + 1) := uI_self
    have g16 : sI (uI (uI (uI (uI (uI (uI (uI σ 5 3 (nI (k + 1))) 5 3 (nI (k + 1 + 1))) 5 4 o) b 16 (bi (t0 || t))) 5 3 (nI k2)) (b + 6) n o) 5 3 (nI (k2 + 1))) b 16 = bi (t0 || t) := (Eq.trans (rd_off (by omega)) (Eq.trans (rd_off (by omega)) (Eq.trans (rd_off (by omega)) uI_self)))
    have g5 : sI (uI (uI (uI (uI (uI (uI (uI σ 5 3 (nI (k + 1))) 5 3 (nI (k + 1 + 1))) 5 4 o) b 16 (bi (t0 || t))) 5 3 (nI k2)) (b + 6) n o) 5 3 (nI (k2 + 1))) (b + 5) n = nI 0 := (Eq.trans (rd_off (by omega)) (Eq.trans (rd_off (by omega)) (Eq.trans (rd_off (by omega)) (Eq.trans (rd_off (by omega)) (Eq.trans (rd_off (by omega)) (Eq.trans (rd_off (by omega)) (Eq.trans (rd_off (by omega)) z0)))))))
    have g6 : sI (uI (uI (uI (uI (uI (uI (uI σ 5 3 (nI (k + 1))) 5 3 (nI (k + 1 + 1))) 5 4 o) b 16 (bi (t0 || t))) 5 3 (nI k2)) (b + 6) n o) 5 3 (nI (k2 + 1))) (b + 6) n = o := (Eq.trans (rd_off (by omega)) uI_self)
    refine q_iconst (v := nI 1) dX1_readValue_75 rfl ?_
    refine q_ireturn dX1_readValue_76 rfl rfl (by omega) (by omega) ?_
    refine ⟨rfl, hch.tr hmk.1, (hmk.2.2.2.2 5 3 (by omega) (by omega) (by omega)).trans g3, (hmk.2.2.2.2 b 16 (by omega) (by omega) (by omega)).trans g16, (hmk.2.2.2.2 (b + 5) n (by omega) (by omega) (by omega)).trans g5, (hmk.2.2.2.2 (b + 6) n (by omega) (by omega) (by omega)).trans g6, hmk.2.2.1, hmk.2.2.2.1, hmk.2.1⟩
  · obtain ⟨x2, x3, o2, k2, t2, a2, rfl⟩ := h
    have l1 := pOp_lt h4 a1
    have l2 := pOp_lt h4 a2
    have hv := (h5 k1 (by omega)).2.1
    have hvb := tv_b (k := k1) hT
    have hv2 : tv T L k1 < 256 := by unfold isOpB at x3; simp at x3; omega
    refine CT.of (by decide) (Nat.le_of_ble_eq_true rfl) ?_
    refine q_aload_n dX1_readValue_0 rfl rfl rfl ?_
    refine q_iconst (v := nI 4) dX1_readValue_1 rfl ?_
    refine q_callV (As := [.int (nI 4)]) (rest := []) dX1_readValue_2 vX1_48 (ty_c hS (by decide) rfl) ⟨by decide, rfl⟩ (z1_isNow_f hS hC hk (by omega) (by decide) x1) rfl rfl (Nat.le_of_ble_eq_true rfl) (by omega) (by omega) (by omega) (k_p ?_)
    refine q_if_eqB (tgt := 77) dX1_readValue_5 (by decide) (fun _ => ?_) (fun h => absurd h (by decide))
    refine q_aload_n dX1_readValue_77 rfl rfl rfl ?_
    refine q_iload_n dX1_readValue_78 rfl rfl ?_
    refine q_iconst (v := nI 0) dX1_readValue_79 rfl ?_
    refine q_callV (As := [.int (nI n), .int (nI 0)]) (rest := []) dX1_readValue_80 vX1_112 (ty_c hS (by decide) rfl) ⟨by decide, rfl⟩ (z1_readOperand_ok0 hS hb hR hn hC hT hk (by omega) ht a1) rfl rfl (Nat.le_of_ble_eq_true rfl) (by omega) (by omega) (by omega) (k_p ?_)
    refine q_if_neB (tgt := 88) dX1_readValue_83 (by decide) (fun _ => ?_) (fun h => absurd h (by decide))
    refine q_aload_n dX1_readValue_88 rfl rfl rfl ?_
    refine q_bipush (v := nI 7) dX1_readValue_89 rfl ?_
    refine q_callV (As := [.int (nI 7)]) (rest := []) dX1_readValue_91 vX1_48 (ty_c hS (by decide) rfl) ⟨by decide, rfl⟩ (z1_isNow_t (σ := (uI (uI (uI (uI σ 5 4 o) b 16 (bi (t0 || t))) 5 3 (nI k1)) (b + 5) n o)) hS (PCt.u (PCt.u (PCt.u (PCt.u hC (by omega)) (by omega)) (by omega)) (by omega)) (Eq.trans (rd_off (by omega)) uI_self) (by omega) (by decide) x2) rfl rfl (Nat.le_of_ble_eq_true rfl) (by omega) (by omega) (by omega) (k_p ?_)
    refine q_if_eqB (tgt := 115) dX1_readValue_94 (by decide) (fun h => absurd h (by decide)) (fun _ => ?_)
    refine q_aload_n dX1_readValue_97 rfl rfl rfl ?_
    refine q_getr (r := 6) dX1_readValue_98 fX1_12 rfl (ty_c hS (by decide) rfl) (hS.2 5 0 6 rfl) ?_
    refine q_getr (r := 8) dX1_readValue_101 fX1_73 rfl (ty_c hS (by decide) rfl) (hS.2 6 1 8 rfl) ?_
    refine q_aload_n dX1_readValue_104 rfl rfl rfl ?_
    refine q_geti (x := nI k1) dX1_readValue_105 fX1_38 rfl (ty_c hS (by decide) rfl) (Eq.trans (rd_off (by omega)) uI_self) ?_
    refine q_iald (x := nI (tv T L k1)) (j := k1) dX1_readValue_108 (ty_c hS (by decide) rfl) (ix_n (by omega) (by omega)) (Eq.trans (rd_off (by omega)) (Eq.trans (rd_off (by decide)) (Eq.trans (rd_off (by omega)) (Eq.trans (rd_off (by decide)) hv)))) ?_
    refine q_callS (As := [.int (nI (tv T L k1))]) (rest := []) dX1_readValue_109 vX1_126 (z6_isSumSign (σ := (uI (uI (uI (uI σ 5 4 o) b 16 (bi (t0 || t))) 5 3 (nI k1)) (b + 5) n o)) hv2) rfl rfl (Nat.le_of_ble_eq_true rfl) (by omega) (by omega) (by omega) (k_p ?_)
    refine q_if_neB (tgt := 117) dX1_readValue_112 (by decide) (fun c112 => ?_) (fun c112 => ?_)
    · skip
      refine q_aload_n dX1_readValue_117 rfl rfl rfl ?_
      refine q_getr (r := 6) dX1_readValue_118 fX1_12 rfl (ty_c hS (by decide) rfl) (hS.2 5 0 6 rfl) ?_
      refine q_getr (r := 8) dX1_readValue_121 fX1_73 rfl (ty_c hS (by decide) rfl) (hS.2 6 1 8 rfl) ?_
      refine q_aload_n dX1_readValue_124 rfl rfl rfl ?_
      refine q_geti (x := nI k1) dX1_readValue_125 fX1_38 rfl (ty_c hS (by decide) rfl) (Eq.trans (rd_off (by omega)) uI_self) ?_
      refine q_iald (x := nI (tv T L k1)) (j := k1) dX1_readValue_128 (ty_c hS (by decide) rfl) (ix_n (by omega) (by omega)) (Eq.trans (rd_off (by omega)) (Eq.trans (rd_off (by decide)) (Eq.trans (rd_off (by omega)) (Eq.trans (rd_off (by decide)) hv)))) ?_
      refine q_istore_n dX1_readValue_129 rfl (by decide) (ls' := [(2, .int (nI (tv T L k1))), (0, .ref 5), (1, .int (nI n))]) rfl ?_
      refine q_aload_n dX1_readValue_130 rfl rfl rfl ?_
      refine q_geti (x := o) dX1_readValue_131 fX1_119 rfl (ty_c hS (by decide) rfl) (Eq.trans (rd_off (by omega)) (Eq.trans (rd_ne (by decide)) (Eq.trans (rd_off (by omega)) uI_self))) ?_
      refine q_istore_n dX1_readValue_134 rfl (by decide) (ls' := [(3, .int o), (2, .int (nI (tv T L k1))), (0, .ref 5), (1, .int (nI n))]) rfl ?_
      refine q_aload_n dX1_readValue_135 rfl rfl rfl ?_
      refine q_dup dX1_readValue_136 rfl ?_
      refine q_geti (x := nI k1) dX1_readValue_137 fX1_38 rfl (ty_c hS (by decide) rfl) (Eq.trans (rd_off (by omega)) uI_self) ?_
      refine q_iconst (v := nI 1) dX1_readValue_140 rfl ?_
      refine q_iaddN dX1_readValue_141 ?_
      refine q_puti dX1_readValue_142 fX1_38 rfl (Or.inl rfl) (ty_c hS (by decide) rfl) ?_
      refine q_aload_n dX1_readValue_145 rfl rfl rfl ?_
      refine q_iload_n dX1_readValue_146 rfl rfl ?_
      refine q_iconst (v := nI 1) dX1_readValue_147 rfl ?_
      refine q_callV (As := [.int (nI n), .int (nI 1)]) (rest := []) dX1_readValue_148 vX1_112 (ty_c hS (by decide) rfl) ⟨by decide, rfl⟩ (z1_readOperand_ok1 (σ := (uI (uI (uI (uI (uI σ 5 4 o) b 16 (bi (t0 || t))) 5 3 (nI k1)) (b + 5) n o) 5 3 (nI (k1 + 1)))) hS hb hR hn (PCt.u (PCt.u (PCt.u (PCt.u (PCt.u hC (by omega)) (by omega)) (by omega)) (by omega)) (by omega)) hT uI_self (by omega) (Eq.trans (rd_off (by omega)) (Eq.trans (rd_off (by omega)) (Eq.trans (rd_off (by omega)) uI_self))) a2) rfl rfl (Nat.le_of_ble_eq_true rfl) (by omega) (by omega) (by omega) (k_p ?_)
      refine q_if_neB (tgt := 156) dX1_readValue_151 (by decide) (fun _ => ?_) (fun h => absurd h (by decide))
      refine q_aload_n dX1_readValue_156 rfl rfl rfl ?_
      refine q_getr (r := b) dX1_readValue_157 fX1_30 rfl (ty_c hS (by decide) rfl) hR ?_
      refine q_iload_n dX1_readValue_160 rfl rfl ?_
      refine q_iload_n dX1_readValue_161 rfl rfl ?_
      refine q_iload_n dX1_readValue_162 rfl rfl ?_
      refine q_aload_n dX1_readValue_163 rfl rfl rfl ?_
      refine q_geti (x := o2) dX1_readValue_164 fX1_119 rfl (ty_c hS (by decide) rfl) (Eq.trans (rd_off (by omega)) (Eq.trans (rd_ne (by decide)) (Eq.trans (rd_off (by omega)) uI_self))) ?_
      refine q_callV (As := [.int (nI n), .int (nI (tv T L k1)), .int o, .int o2]) (rest := []) dX1_readValue_167 vX1_122 (ty_r hb 0 rfl) ⟨by decide, rfl⟩ (z2_makeSum (σ := (uI (uI (uI (uI (uI (uI (uI (uI (uI σ 5 4 o) b 16 (bi (t0 || t))) 5 3 (nI k1)) (b + 5) n o) 5 3 (nI (k1 + 1))) 5 4 o2) b 16 (bi (t0 || t || t2))) 5 3 (nI k2)) (b + 6) n o2)) hb hn (SR.u (SR.u (SR.u (SR.u (SR.u (SR.u (SR.u (SR.u (SR.u hs (by omega)) (by omega)) (by omega)) (by omega)) (by omega)) (by omega)) (by omega)) (by omega)) (by omega)) (nI (tv T L k1), o, o2)) rfl rfl (Nat.le_of_ble_eq_true rfl) (by omega) (by omega) (by omega) (k_s ?_)
      have hch : SV1 b n σ (uI (uI (uI (uI (uI (uI (uI (uI (uI σ 5 4 o) b 16 (bi (t0 || t))) 5 3 (nI k1)) (b + 5) n o) 5 3 (nI (k1 + 1))) 5 4 o2) b 16 (bi (t0 || t || t2))) 5 3 (nI k2)) (b + 6) n o2) := (SV1.uI (SV1.uI (SV1.uI (SV1.uI (SV1.uI (SV1.uI (SV1.uI (SV1.uI (SV1.uI SV1.rf (by omega)) (by omega)) (by omega)) (by omega)) (by omega)) (by omega)) (by omega)) (by omega)) (by omega))
      have hmk := mkS_E (σ := (uI (uI (uI (uI (uI (uI (uI (uI (uI σ 5 4 o) b 16 (bi (t0 || t))) 5 3 (nI k1)) (b + 5) n o) 5 3 (nI (k1 + 1))) 5 4 o2) b 16 (bi (t0 || t || t2))) 5 3 (nI k2)) (b + 6) n o2)) (n := n) (x := (nI (tv T L k1), o, o2)) (SR.u (SR.u (SR.u (SR.u (SR.u (SR.u (SR.u (SR.u (SR.u hs (by omega)) (by omega)) (by omega)) (by omega)) (by omega)) (by omega)) (by omega)) (by omega)) (by omega))
      have g3 : sI (uI (uI (uI (uI (uI (uI (uI (uI (uI σ 5 4 o) b 16 (bi (t0 || t))) 5 3 (nI k1)) (b + 5) n o) 5 3 (nI (k1 + 1))) 5 4 o2) b 16 (bi (t0 || t || t2))) 5 3 (nI k2)) (b + 6) n o2) 5 3 = nI k2 := (Eq.trans (rd_off (by omega)) uI_self)
      have g16 : sI (uI (uI (uI (uI (uI (uI (uI (uI (uI σ 5 4 o) b 16 (bi (t0 || t))) 5 3 (nI k1)) (b + 5) n o) 5 3 (nI (k1 + 1))) 5 4 o2) b 16 (bi (t0 || t || t2))) 5 3 (nI k2)) (b + 6) n o2) b 16 = bi (t0 || t || t2) := (Eq.trans (rd_off (by omega)) (Eq.trans (rd_off (by omega)) uI_self))
      have g5 : sI (uI (uI (uI (uI (uI (uI (uI (uI (uI σ 5 4 o) b 16 (bi (t0 || t))) 5 3 (nI k1)) (b + 5) n o) 5 3 (nI (k1 + 1))) 5 4 o2) b 16 (bi (t0 || t || t2))) 5 3 (nI k2)) (b + 6) n o2) (b + 5) n = o := (Eq.trans (rd_off (by omega)) (Eq.trans (rd_off (by omega)) (Eq.trans (rd_off (by omega)) (Eq.trans (rd_off (by omega)) (Eq.trans (rd_off (by omega)) uI_self)))))
      have g6 : sI (uI (uI (uI (uI (uI (uI (uI (uI (uI σ 5 4 o) b 16 (bi (t0 || t))) 5 3 (nI k1)) (b + 5) n o) 5 3 (nI (k1 + 1))) 5 4 o2) b 16 (bi (t0 || t || t2))) 5 3 (nI k2)) (b + 6) n o2) (b + 6) n = o2 := uI_self
      refine q_iconst (v := nI 1) dX1_readValue_170 rfl ?_
      refine q_ireturn dX1_readValue_171 rfl rfl (by omega) (by omega) ?_
      have g17 := g16.trans (congrArg bi (Bool.or_assoc t0 t t2))
      refine ⟨rfl, hch.tr hmk.1, (hmk.2.2.2.2 5 3 (by omega) (by omega) (by omega)).trans g3, (hmk.2.2.2.2 b 16 (by omega) (by omega) (by omega)).trans g17, (hmk.2.2.2.2 (b + 5) n (by omega) (by omega) (by omega)).trans g5, (hmk.2.2.2.2 (b + 6) n (by omega) (by omega) (by omega)).trans g6, hmk.2.2.1, hmk.2.2.2.1, hmk.2.1⟩
    · exact absurd x3 (by rw [c112]; decide)
  · have l1 := pOp_lt h4 a1
    have hv := (h5 k1 (by omega)).2.1
    have hvb := tv_b (k := k1) hT
    by_cases x3 : tk T L k1 = 7
    · by_cases hv2 : tv T L k1 < 256
      · skip
        refine CT.of (by decide) (Nat.le_of_ble_eq_true rfl) ?_
        refine q_aload_n dX1_readValue_0 rfl rfl rfl ?_
        refine q_iconst (v := nI 4) dX1_readValue_1 rfl ?_
        refine q_callV (As := [.int (nI 4)]) (rest := []) dX1_readValue_2 vX1_48 (ty_c hS (by decide) rfl) ⟨by decide, rfl⟩ (z1_isNow_f hS hC hk (by omega) (by decide) x1) rfl rfl (Nat.le_of_ble_eq_true rfl) (by omega) (by omega) (by omega) (k_p ?_)
        refine q_if_eqB (tgt := 77) dX1_readValue_5 (by decide) (fun _ => ?_) (fun h => absurd h (by decide))
        refine q_aload_n dX1_readValue_77 rfl rfl rfl ?_
        refine q_iload_n dX1_readValue_78 rfl rfl ?_
        refine q_iconst (v := nI 0) dX1_readValue_79 rfl ?_
        refine q_callV (As := [.int (nI n), .int (nI 0)]) (rest := []) dX1_readValue_80 vX1_112 (ty_c hS (by decide) rfl) ⟨by decide, rfl⟩ (z1_readOperand_ok0 hS hb hR hn hC hT hk (by omega) ht a1) rfl rfl (Nat.le_of_ble_eq_true rfl) (by omega) (by omega) (by omega) (k_p ?_)
        refine q_if_neB (tgt := 88) dX1_readValue_83 (by decide) (fun _ => ?_) (fun h => absurd h (by decide))
        refine q_aload_n dX1_readValue_88 rfl rfl rfl ?_
        refine q_bipush (v := nI 7) dX1_readValue_89 rfl ?_
        refine q_callV (As := [.int (nI 7)]) (rest := []) dX1_readValue_91 vX1_48 (ty_c hS (by decide) rfl) ⟨by decide, rfl⟩ (z1_isNow_t (σ := (uI (uI (uI (uI σ 5 4 o) b 16 (bi (t0 || t))) 5 3 (nI k1)) (b + 5) n o)) hS (PCt.u (PCt.u (PCt.u (PCt.u hC (by omega)) (by omega)) (by omega)) (by omega)) (Eq.trans (rd_off (by omega)) uI_self) (by omega) (by decide) x3) rfl rfl (Nat.le_of_ble_eq_true rfl) (by omega) (by omega) (by omega) (k_p ?_)
        refine q_if_eqB (tgt := 115) dX1_readValue_94 (by decide) (fun h => absurd h (by decide)) (fun _ => ?_)
        refine q_aload_n dX1_readValue_97 rfl rfl rfl ?_
        refine q_getr (r := 6) dX1_readValue_98 fX1_12 rfl (ty_c hS (by decide) rfl) (hS.2 5 0 6 rfl) ?_
        refine q_getr (r := 8) dX1_readValue_101 fX1_73 rfl (ty_c hS (by decide) rfl) (hS.2 6 1 8 rfl) ?_
        refine q_aload_n dX1_readValue_104 rfl rfl rfl ?_
        refine q_geti (x := nI k1) dX1_readValue_105 fX1_38 rfl (ty_c hS (by decide) rfl) (Eq.trans (rd_off (by omega)) uI_self) ?_
        refine q_iald (x := nI (tv T L k1)) (j := k1) dX1_readValue_108 (ty_c hS (by decide) rfl) (ix_n (by omega) (by omega)) (Eq.trans (rd_off (by omega)) (Eq.trans (rd_off (by decide)) (Eq.trans (rd_off (by omega)) (Eq.trans (rd_off (by decide)) hv)))) ?_
        refine q_callS (As := [.int (nI (tv T L k1))]) (rest := []) dX1_readValue_109 vX1_126 (z6_isSumSign (σ := (uI (uI (uI (uI σ 5 4 o) b 16 (bi (t0 || t))) 5 3 (nI k1)) (b + 5) n o)) hv2) rfl rfl (Nat.le_of_ble_eq_true rfl) (by omega) (by omega) (by omega) (k_p ?_)
        refine q_if_neB (tgt := 117) dX1_readValue_112 (by decide) (fun c112 => ?_) (fun c112 => ?_)
        · exact absurd ⟨x3, c112⟩ x2
        · skip
          refine q_iconst (v := nI 1) dX1_readValue_115 rfl ?_
          refine q_ireturn dX1_readValue_116 rfl rfl (by omega) (by omega) ?_
          refine ⟨rfl, (SV1.uI (SV1.uI (SV1.uI (SV1.uI SV1.rf (by omega)) (by omega)) (by omega)) (by omega)), (Eq.trans (rd_off (by omega)) uI_self), (Eq.trans (rd_off (by omega)) (Eq.trans (rd_off (by omega)) uI_self)), uI_self, (Eq.trans (rd_off (by omega)) (Eq.trans (rd_off (by omega)) (Eq.trans (rd_off (by omega)) (Eq.trans (rd_off (by omega)) z1)))), (Eq.trans (rd_off (by omega)) (Eq.trans (rd_off (by omega)) (Eq.trans (rd_off (by omega)) (rd_off (by omega))))), (Eq.trans (rd_off (by omega)) (Eq.trans (rd_off (by omega)) (Eq.trans (rd_off (by omega)) (rd_off (by omega))))), (SR.u (SR.u (SR.u (SR.u hs (by omega)) (by omega)) (by omega)) (by omega))⟩
      · exact absurd (tv_sg x3) hv2
    · skip
      refine CT.of (by decide) (Nat.le_of_ble_eq_true rfl) ?_
      refine q_aload_n dX1_readValue_0 rfl rfl rfl ?_
      refine q_iconst (v := nI 4) dX1_readValue_1 rfl ?_
      refine q_callV (As := [.int (nI 4)]) (rest := []) dX1_readValue_2 vX1_48 (ty_c hS (by decide) rfl) ⟨by decide, rfl⟩ (z1_isNow_f hS hC hk (by omega) (by decide) x1) rfl rfl (Nat.le_of_ble_eq_true rfl) (by omega) (by omega) (by omega) (k_p ?_)
      refine q_if_eqB (tgt := 77) dX1_readValue_5 (by decide) (fun _ => ?_) (fun h => absurd h (by decide))
      refine q_aload_n dX1_readValue_77 rfl rfl rfl ?_
      refine q_iload_n dX1_readValue_78 rfl rfl ?_
      refine q_iconst (v := nI 0) dX1_readValue_79 rfl ?_
      refine q_callV (As := [.int (nI n), .int (nI 0)]) (rest := []) dX1_readValue_80 vX1_112 (ty_c hS (by decide) rfl) ⟨by decide, rfl⟩ (z1_readOperand_ok0 hS hb hR hn hC hT hk (by omega) ht a1) rfl rfl (Nat.le_of_ble_eq_true rfl) (by omega) (by omega) (by omega) (k_p ?_)
      refine q_if_neB (tgt := 88) dX1_readValue_83 (by decide) (fun _ => ?_) (fun h => absurd h (by decide))
      refine q_aload_n dX1_readValue_88 rfl rfl rfl ?_
      refine q_bipush (v := nI 7) dX1_readValue_89 rfl ?_
      refine q_callV (As := [.int (nI 7)]) (rest := []) dX1_readValue_91 vX1_48 (ty_c hS (by decide) rfl) ⟨by decide, rfl⟩ (z1_isNow_f (σ := (uI (uI (uI (uI σ 5 4 o) b 16 (bi (t0 || t))) 5 3 (nI k1)) (b + 5) n o)) hS (PCt.u (PCt.u (PCt.u (PCt.u hC (by omega)) (by omega)) (by omega)) (by omega)) (Eq.trans (rd_off (by omega)) uI_self) (by omega) (by decide) x3) rfl rfl (Nat.le_of_ble_eq_true rfl) (by omega) (by omega) (by omega) (k_p ?_)
      refine q_if_eqB (tgt := 115) dX1_readValue_94 (by decide) (fun _ => ?_) (fun h => absurd h (by decide))
      refine q_iconst (v := nI 1) dX1_readValue_115 rfl ?_
      refine q_ireturn dX1_readValue_116 rfl rfl (by omega) (by omega) ?_
      refine ⟨rfl, (SV1.uI (SV1.uI (SV1.uI (SV1.uI SV1.rf (by omega)) (by omega)) (by omega)) (by omega)), (Eq.trans (rd_off (by omega)) uI_self), (Eq.trans (rd_off (by omega)) (Eq.trans (rd_off (by omega)) uI_self)), uI_self, (Eq.trans (rd_off (by omega)) (Eq.trans (rd_off (by omega)) (Eq.trans (rd_off (by omega)) (Eq.trans (rd_off (by omega)) z1)))), (Eq.trans (rd_off (by omega)) (Eq.trans (rd_off (by omega)) (Eq.trans (rd_off (by omega)) (rd_off (by omega))))), (Eq.trans (rd_off (by omega)) (Eq.trans (rd_off (by omega)) (Eq.trans (rd_off (by omega)) (rd_off (by omega))))), (SR.u (SR.u (SR.u (SR.u hs (by omega)) (by omega)) (by omega)) (by omega))⟩
theorem z1_readValue_er {g : GG} {σ : HS} (hS : SK σ) {b : Nat} (hb : RB σ b) (hR : sR σ 5 5 = b) {T : Nat → Nat} {L N k n : Nat} (hn : n < 240) (hC : PCt σ T L N) (hT : ∀ i, i < L → T i < 256) (hk : sI σ 5 3 = nI k) (hkN : k ≤ N) {t0 : Bool} (ht : sI σ b 16 = bi t0) {ss : List SUM} {m : Bool} (hs : SR σ b ss m) (z0 : sI σ (b + 5) n = nI 0) (z1 : sI σ (b + 6) n = nI 0) {e : Nat × Nat} (hx : pVl T L k = .error e) : CT g mX1_readValue 5 0 0 [.ref 5, .int (nI n)] σ (WQ (.int (bi false)) (fun σ' => BadS b σ σ' e)) := by
  have hb14 : b = 14 ∨ 99 ≤ b := by rcases hb.1 with h | ⟨j, h⟩ <;> omega
  obtain ⟨h6, h2, h3, h4, h5⟩ := id hC
  rcases pVl_er hx with ⟨x1, a1 | ⟨a1, a2 | ⟨o, k2, t, a2, a3⟩⟩⟩ | ⟨x1, a1 | ⟨o, k1, t, a1, x2, x3, a2⟩⟩
  · have hv := (h5 k (by omega)).2.1
    have l1 := tk_lt h4 (k := k) (by omega)
    refine CT.of (by decide) (Nat.le_of_ble_eq_true rfl) ?_
    refine q_aload_n dX1_readValue_0 rfl rfl rfl ?_
    refine q_iconst (v := nI 4) dX1_readValue_1 rfl ?_
    refine q_callV (As := [.int (nI 4)]) (rest := []) dX1_readValue_2 vX1_48 (ty_c hS (by decide) rfl) ⟨by decide, rfl⟩ (z1_isNow_t hS hC hk (by omega) (by decide) x1) rfl rfl (Nat.le_of_ble_eq_true rfl) (by omega) (by omega) (by omega) (k_p ?_)
    refine q_if_eqB (tgt := 77) dX1_readValue_5 (by decide) (fun h => absurd h (by decide)) (fun _ => ?_)
    refine q_aload_n dX1_readValue_8 rfl rfl rfl ?_
    refine q_getr (r := 6) dX1_readValue_9 fX1_12 rfl (ty_c hS (by decide) rfl) (hS.2 5 0 6 rfl) ?_
    refine q_getr (r := 8) dX1_readValue_12 fX1_73 rfl (ty_c hS (by decide) rfl) (hS.2 6 1 8 rfl) ?_
    refine q_aload_n dX1_readValue_15 rfl rfl rfl ?_
    refine q_geti (x := nI k) dX1_readValue_16 fX1_38 rfl (ty_c hS (by decide) rfl) hk ?_
    refine q_iald (x := nI (tv T L k)) (j := k) dX1_readValue_19 (ty_c hS (by decide) rfl) (ix_n (by omega) (by omega)) hv ?_
    refine q_istore_n dX1_readValue_20 rfl (by decide) (ls' := [(2, .int (nI (tv T L k))), (0, .ref 5), (1, .int (nI n))]) rfl ?_
    refine q_aload_n dX1_readValue_21 rfl rfl rfl ?_
    refine q_dup dX1_readValue_22 rfl ?_
    refine q_geti (x := nI k) dX1_readValue_23 fX1_38 rfl (ty_c hS (by decide) rfl) hk ?_
    refine q_iconst (v := nI 1) dX1_readValue_26 rfl ?_
    refine q_iaddN dX1_readValue_27 ?_
    refine q_puti dX1_readValue_28 fX1_38 rfl (Or.inl rfl) (ty_c hS (by decide) rfl) ?_
    refine q_aload_n dX1_readValue_31 rfl rfl rfl ?_
    refine q_bipush (v := nI 91) dX1_readValue_32 rfl ?_
    refine q_callV (As := [.int (nI 91)]) (rest := []) dX1_readValue_34 vX1_82 (ty_c hS (by decide) rfl) ⟨by decide, rfl⟩ (z1_takeSign_er (σ := (uI σ 5 3 (nI (k + 1)))) hS (PCt.u hC (by omega)) hT uI_self (by omega) a1 (by decide)) rfl rfl (Nat.le_of_ble_eq_true rfl) (by omega) (by omega) (by omega) (k_p ?_)
    have hbad := BadS.er (b := b) (e := e) (σ := σ) (σ' := (uI σ 5 3 (nI (k + 1)))) (BFr.uI BFr.rf (by omega))
    refine q_if_eqB (tgt := 58) dX1_readValue_37 (by decide) (fun _ => ?_) (fun h => absurd h (by decide))
    refine q_iconst (v := nI 0) dX1_readValue_58 rfl ?_
    refine q_ireturn dX1_readValue_59 rfl rfl (by omega) (by omega) ?_
    exact ⟨rfl, hbad⟩
  · have hv := (h5 k (by omega)).2.1
    have l1 := pSg_lt h4 a1
    refine CT.of (by decide) (Nat.le_of_ble_eq_true rfl) ?_
    refine q_aload_n dX1_readValue_0 rfl rfl rfl ?_
    refine q_iconst (v := nI 4) dX1_readValue_1 rfl ?_
    refine q_callV (As := [.int (nI 4)]) (rest := []) dX1_readValue_2 vX1_48 (ty_c hS (by decide) rfl) ⟨by decide, rfl⟩ (z1_isNow_t hS hC hk (by omega) (by decide) x1) rfl rfl (Nat.le_of_ble_eq_true rfl) (by omega) (by omega) (by omega) (k_p ?_)
    refine q_if_eqB (tgt := 77) dX1_readValue_5 (by decide) (fun h => absurd h (by decide)) (fun _ => ?_)
    refine q_aload_n dX1_readValue_8 rfl rfl rfl ?_
    refine q_getr (r := 6) dX1_readValue_9 fX1_12 rfl (ty_c hS (by decide) rfl) (hS.2 5 0 6 rfl) ?_
    refine q_getr (r := 8) dX1_readValue_12 fX1_73 rfl (ty_c hS (by decide) rfl) (hS.2 6 1 8 rfl) ?_
    refine q_aload_n dX1_readValue_15 rfl rfl rfl ?_
    refine q_geti (x := nI k) dX1_readValue_16 fX1_38 rfl (ty_c hS (by decide) rfl) hk ?_
    refine q_iald (x := nI (tv T L k)) (j := k) dX1_readValue_19 (ty_c hS (by decide) rfl) (ix_n (by omega) (by omega)) hv ?_
    refine q_istore_n dX1_readValue_20 rfl (by decide) (ls' := [(2, .int (nI (tv T L k))), (0, .ref 5), (1, .int (nI n))]) rfl ?_
    refine q_aload_n dX1_readValue_21 rfl rfl rfl ?_
    refine q_dup dX1_readValue_22 rfl ?_
    refine q_geti (x := nI k) dX1_readValue_23 fX1_38 rfl (ty_c hS (by decide) rfl) hk ?_
    refine q_iconst (v := nI 1) dX1_readValue_26 rfl ?_
    refine q_iaddN dX1_readValue_27 ?_
    refine q_puti dX1_readValue_28 fX1_38 rfl (Or.inl rfl) (ty_c hS (by decide) rfl) ?_
    refine q_aload_n dX1_readValue_31 rfl rfl rfl ?_
    refine q_bipush (v := nI 91) dX1_readValue_32 rfl ?_
    refine q_callV (As := [.int (nI 91)]) (rest := []) dX1_readValue_34 vX1_82 (ty_c hS (by decide) rfl) ⟨by decide, rfl⟩ (z1_takeSign_ok (σ := (uI σ 5 3 (nI (k + 1)))) hS (PCt.u hC (by omega)) uI_self (by omega) a1 (by decide)) rfl rfl (Nat.le_of_ble_eq_true rfl) (by omega) (by omega) (by omega) (k_p ?_)
    refine q_if_eqB (tgt := 58) dX1_readValue_37 (by decide) (fun h => absurd h (by decide)) (fun _ => ?_)
    refine q_aload_n dX1_readValue_40 rfl rfl rfl ?_
    refine q_iload_n dX1_readValue_41 rfl rfl ?_
    refine q_iconst (v := nI 1) dX1_readValue_42 rfl ?_
    refine q_callV (As := [.int (nI n), .int (nI 1)]) (rest := []) dX1_readValue_43 vX1_112 (ty_c hS (by decide) rfl) ⟨by decide, rfl⟩ (z1_readOperand_er1 (σ := (uI (uI σ 5 3 (nI (k + 1))) 5 3 (nI (k + 1 + 1)))) (b := b) hS hR hn (PCt.u (PCt.u hC (by omega)) (by omega)) hT uI_self (by omega) a2) rfl rfl (Nat.le_of_ble_eq_true rfl) (by omega) (by omega) (by omega) (k_w (fun s43 q43 => ?_))
    have hbad := BadS.tr (b := b) (σ := σ) (σ' := (uI (uI σ 5 3 (nI (k + 1))) 5 3 (nI (k + 1 + 1)))) (BFr.uI (BFr.uI BFr.rf (by omega)) (by omega)) q43
    refine q_if_eqB (tgt := 58) dX1_readValue_46 (by decide) (fun _ => ?_) (fun h => absurd h (by decide))
    refine q_iconst (v := nI 0) dX1_readValue_58 rfl ?_
    refine q_ireturn dX1_readValue_59 rfl rfl (by omega) (by omega) ?_
    exact ⟨rfl, hbad⟩
  · have hv := (h5 k (by omega)).2.1
    have l1 := pSg_lt h4 a1
    have l2 := pOp_lt h4 a2
    refine CT.of (by decide) (Nat.le_of_ble_eq_true rfl) ?_
    refine q_aload_n dX1_readValue_0 rfl rfl rfl ?_
    refine q_iconst (v := nI 4) dX1_readValue_1 rfl ?_
    refine q_callV (As := [.int (nI 4)]) (rest := []) dX1_readValue_2 vX1_48 (ty_c hS (by decide) rfl) ⟨by decide, rfl⟩ (z1_isNow_t hS hC hk (by omega) (by decide) x1) rfl rfl (Nat.le_of_ble_eq_true rfl) (by omega) (by omega) (by omega) (k_p ?_)
    refine q_if_eqB (tgt := 77) dX1_readValue_5 (by decide) (fun h => absurd h (by decide)) (fun _ => ?_)
    refine q_aload_n dX1_readValue_8 rfl rfl rfl ?_
    refine q_getr (r := 6) dX1_readValue_9 fX1_12 rfl (ty_c hS (by decide) rfl) (hS.2 5 0 6 rfl) ?_
    refine q_getr (r := 8) dX1_readValue_12 fX1_73 rfl (ty_c hS (by decide) rfl) (hS.2 6 1 8 rfl) ?_
    refine q_aload_n dX1_readValue_15 rfl rfl rfl ?_
    refine q_geti (x := nI k) dX1_readValue_16 fX1_38 rfl (ty_c hS (by decide) rfl) hk ?_
    refine q_iald (x := nI (tv T L k)) (j := k) dX1_readValue_19 (ty_c hS (by decide) rfl) (ix_n (by omega) (by omega)) hv ?_
    refine q_istore_n dX1_readValue_20 rfl (by decide) (ls' := [(2, .int (nI (tv T L k))), (0, .ref 5), (1, .int (nI n))]) rfl ?_
    refine q_aload_n dX1_readValue_21 rfl rfl rfl ?_
    refine q_dup dX1_readValue_22 rfl ?_
    refine q_geti (x := nI k) dX1_readValue_23 fX1_38 rfl (ty_c hS (by decide) rfl) hk ?_
    refine q_iconst (v := nI 1) dX1_readValue_26 rfl ?_
    refine q_iaddN dX1_readValue_27 ?_
    refine q_puti dX1_readValue_28 fX1_38 rfl (Or.inl rfl) (ty_c hS (by decide) rfl) ?_
    refine q_aload_n dX1_readValue_31 rfl rfl rfl ?_
    refine q_bipush (v := nI 91) dX1_readValue_32 rfl ?_
    refine q_callV (As := [.int (nI 91)]) (rest := []) dX1_readValue_34 vX1_82 (ty_c hS (by decide) rfl) ⟨by decide, rfl⟩ (z1_takeSign_ok (σ := (uI σ 5 3 (nI (k + 1)))) hS (PCt.u hC (by omega)) uI_self (by omega) a1 (by decide)) rfl rfl (Nat.le_of_ble_eq_true rfl) (by omega) (by omega) (by omega) (k_p ?_)
    refine q_if_eqB (tgt := 58) dX1_readValue_37 (by decide) (fun h => absurd h (by decide)) (fun _ => ?_)
    refine q_aload_n dX1_readValue_40 rfl rfl rfl ?_
    refine q_iload_n dX1_readValue_41 rfl rfl ?_
    refine q_iconst (v := nI 1) dX1_readValue_42 rfl ?_
    refine q_callV (As := [.int (nI n), .int (nI 1)]) (rest := []) dX1_readValue_43 vX1_112 (ty_c hS (by decide) rfl) ⟨by decide, rfl⟩ (z1_readOperand_ok1 (σ := (uI (uI σ 5 3 (nI (k + 1))) 5 3 (nI (k + 1 + 1)))) hS hb hR hn (PCt.u (PCt.u hC (by omega)) (by omega)) hT uI_self (by omega) (Eq.trans (rd_off (by omega)) (Eq.trans (rd_off (by omega)) ht)) a2) rfl rfl (Nat.le_of_ble_eq_true rfl) (by omega) (by omega) (by omega) (k_p ?_)
    refine q_if_eqB (tgt := 58) dX1_readValue_46 (by decide) (fun h => absurd h (by decide)) (fun _ => ?_)
    refine q_aload_n dX1_readValue_49 rfl rfl rfl ?_
    refine q_bipush (v := nI 93) dX1_readValue_50 rfl ?_
    refine q_callV (As := [.int (nI 93)]) (rest := []) dX1_readValue_52 vX1_82 (ty_c hS (by decide) rfl) ⟨by decide, rfl⟩ (z1_takeSign_er (σ := (uI (uI (uI (uI (uI (uI σ 5 3 (nI (k + 1))) 5 3 (nI (k + 1 + 1))) 5 4 o) b 16 (bi (t0 || t))) 5 3 (nI k2)) (b + 6) n o)) hS (PCt.u (PCt.u (PCt.u (PCt.u (PCt.u (PCt.u hC (by omega)) (by omega)) (by omega)) (by omega)) (by omega)) (by omega)) hT (Eq.trans (rd_off (by omega)) uI_self) (by omega) a3 (by decide)) rfl rfl (Nat.le_of_ble_eq_true rfl) (by omega) (by omega) (by omega) (k_p ?_)
    have hbad := BadS.er (b := b) (e := e) (σ := σ) (σ' := (uI (uI (uI (uI (uI (uI σ 5 3 (nI (k + 1))) 5 3 (nI (k + 1 + 1))) 5 4 o) b 16 (bi (t0 || t))) 5 3 (nI k2)) (b + 6) n o)) (BFr.uI (BFr.uI (BFr.uI (BFr.uI (BFr.uI (BFr.uI BFr.rf (by omega)) (by omega)) (by omega)) (by omega)) (by omega)) (by omega))
    refine q_if_neB (tgt := 60) dX1_readValue_55 (by decide) (fun h => absurd h (by decide)) (fun _ => ?_)
    refine q_iconst (v := nI 0) dX1_readValue_58 rfl ?_
    refine q_ireturn dX1_readValue_59 rfl rfl (by omega) (by omega) ?_
    exact ⟨rfl, hbad⟩
  · skip
    refine CT.of (by decide) (Nat.le_of_ble_eq_true rfl) ?_
    refine q_aload_n dX1_readValue_0 rfl rfl rfl ?_
    refine q_iconst (v := nI 4) dX1_readValue_1 rfl ?_
    refine q_callV (As := [.int (nI 4)]) (rest := []) dX1_readValue_2 vX1_48 (ty_c hS (by decide) rfl) ⟨by decide, rfl⟩ (z1_isNow_f hS hC hk (by omega) (by decide) x1) rfl rfl (Nat.le_of_ble_eq_true rfl) (by omega) (by omega) (by omega) (k_p ?_)
    refine q_if_eqB (tgt := 77) dX1_readValue_5 (by decide) (fun _ => ?_) (fun h => absurd h (by decide))
    refine q_aload_n dX1_readValue_77 rfl rfl rfl ?_
    refine q_iload_n dX1_readValue_78 rfl rfl ?_
    refine q_iconst (v := nI 0) dX1_readValue_79 rfl ?_
    refine q_callV (As := [.int (nI n), .int (nI 0)]) (rest := []) dX1_readValue_80 vX1_112 (ty_c hS (by decide) rfl) ⟨by decide, rfl⟩ (z1_readOperand_er0 (b := b) hS hR hn hC hT hk (by omega) a1) rfl rfl (Nat.le_of_ble_eq_true rfl) (by omega) (by omega) (by omega) (k_w (fun s80 q80 => ?_))
    have hbad := BadS.tr (b := b) (σ := σ) (σ' := σ) BFr.rf q80
    refine q_if_neB (tgt := 88) dX1_readValue_83 (by decide) (fun h => absurd h (by decide)) (fun _ => ?_)
    refine q_iconst (v := nI 0) dX1_readValue_86 rfl ?_
    refine q_ireturn dX1_readValue_87 rfl rfl (by omega) (by omega) ?_
    exact ⟨rfl, hbad⟩
  · have l1 := pOp_lt h4 a1
    have hv := (h5 k1 (by omega)).2.1
    have l2 := tk_lt h4 (k := k1) (by omega)
    have hv2 : tv T L k1 < 256 := by unfold isOpB at x3; simp at x3; omega
    refine CT.of (by decide) (Nat.le_of_ble_eq_true rfl) ?_
    refine q_aload_n dX1_readValue_0 rfl rfl rfl ?_
    refine q_iconst (v := nI 4) dX1_readValue_1 rfl ?_
    refine q_callV (As := [.int (nI 4)]) (rest := []) dX1_readValue_2 vX1_48 (ty_c hS (by decide) rfl) ⟨by decide, rfl⟩ (z1_isNow_f hS hC hk (by omega) (by decide) x1) rfl rfl (Nat.le_of_ble_eq_true rfl) (by omega) (by omega) (by omega) (k_p ?_)
    refine q_if_eqB (tgt := 77) dX1_readValue_5 (by decide) (fun _ => ?_) (fun h => absurd h (by decide))
    refine q_aload_n dX1_readValue_77 rfl rfl rfl ?_
    refine q_iload_n dX1_readValue_78 rfl rfl ?_
    refine q_iconst (v := nI 0) dX1_readValue_79 rfl ?_
    refine q_callV (As := [.int (nI n), .int (nI 0)]) (rest := []) dX1_readValue_80 vX1_112 (ty_c hS (by decide) rfl) ⟨by decide, rfl⟩ (z1_readOperand_ok0 hS hb hR hn hC hT hk (by omega) ht a1) rfl rfl (Nat.le_of_ble_eq_true rfl) (by omega) (by omega) (by omega) (k_p ?_)
    refine q_if_neB (tgt := 88) dX1_readValue_83 (by decide) (fun _ => ?_) (fun h => absurd h (by decide))
    refine q_aload_n dX1_readValue_88 rfl rfl rfl ?_
    refine q_bipush (v := nI 7) dX1_readValue_89 rfl ?_
    refine q_callV (As := [.int (nI 7)]) (rest := []) dX1_readValue_91 vX1_48 (ty_c hS (by decide) rfl) ⟨by decide, rfl⟩ (z1_isNow_t (σ := (uI (uI (uI (uI σ 5 4 o) b 16 (bi (t0 || t))) 5 3 (nI k1)) (b + 5) n o)) hS (PCt.u (PCt.u (PCt.u (PCt.u hC (by omega)) (by omega)) (by omega)) (by omega)) (Eq.trans (rd_off (by omega)) uI_self) (by omega) (by decide) x2) rfl rfl (Nat.le_of_ble_eq_true rfl) (by omega) (by omega) (by omega) (k_p ?_)
    refine q_if_eqB (tgt := 115) dX1_readValue_94 (by decide) (fun h => absurd h (by decide)) (fun _ => ?_)
    refine q_aload_n dX1_readValue_97 rfl rfl rfl ?_
    refine q_getr (r := 6) dX1_readValue_98 fX1_12 rfl (ty_c hS (by decide) rfl) (hS.2 5 0 6 rfl) ?_
    refine q_getr (r := 8) dX1_readValue_101 fX1_73 rfl (ty_c hS (by decide) rfl) (hS.2 6 1 8 rfl) ?_
    refine q_aload_n dX1_readValue_104 rfl rfl rfl ?_
    refine q_geti (x := nI k1) dX1_readValue_105 fX1_38 rfl (ty_c hS (by decide) rfl) (Eq.trans (rd_off (by omega)) uI_self) ?_
    refine q_iald (x := nI (tv T L k1)) (j := k1) dX1_readValue_108 (ty_c hS (by decide) rfl) (ix_n (by omega) (by omega)) (Eq.trans (rd_off (by omega)) (Eq.trans (rd_off (by decide)) (Eq.trans (rd_off (by omega)) (Eq.trans (rd_off (by decide)) hv)))) ?_
    refine q_callS (As := [.int (nI (tv T L k1))]) (rest := []) dX1_readValue_109 vX1_126 (z6_isSumSign (σ := (uI (uI (uI (uI σ 5 4 o) b 16 (bi (t0 || t))) 5 3 (nI k1)) (b + 5) n o)) hv2) rfl rfl (Nat.le_of_ble_eq_true rfl) (by omega) (by omega) (by omega) (k_p ?_)
    refine q_if_neB (tgt := 117) dX1_readValue_112 (by decide) (fun c112 => ?_) (fun c112 => ?_)
    · skip
      refine q_aload_n dX1_readValue_117 rfl rfl rfl ?_
      refine q_getr (r := 6) dX1_readValue_118 fX1_12 rfl (ty_c hS (by decide) rfl) (hS.2 5 0 6 rfl) ?_
      refine q_getr (r := 8) dX1_readValue_121 fX1_73 rfl (ty_c hS (by decide) rfl) (hS.2 6 1 8 rfl) ?_
      refine q_aload_n dX1_readValue_124 rfl rfl rfl ?_
      refine q_geti (x := nI k1) dX1_readValue_125 fX1_38 rfl (ty_c hS (by decide) rfl) (Eq.trans (rd_off (by omega)) uI_self) ?_
      refine q_iald (x := nI (tv T L k1)) (j := k1) dX1_readValue_128 (ty_c hS (by decide) rfl) (ix_n (by omega) (by omega)) (Eq.trans (rd_off (by omega)) (Eq.trans (rd_off (by decide)) (Eq.trans (rd_off (by omega)) (Eq.trans (rd_off (by decide)) hv)))) ?_
      refine q_istore_n dX1_readValue_129 rfl (by decide) (ls' := [(2, .int (nI (tv T L k1))), (0, .ref 5), (1, .int (nI n))]) rfl ?_
      refine q_aload_n dX1_readValue_130 rfl rfl rfl ?_
      refine q_geti (x := o) dX1_readValue_131 fX1_119 rfl (ty_c hS (by decide) rfl) (Eq.trans (rd_off (by omega)) (Eq.trans (rd_ne (by decide)) (Eq.trans (rd_off (by omega)) uI_self))) ?_
      refine q_istore_n dX1_readValue_134 rfl (by decide) (ls' := [(3, .int o), (2, .int (nI (tv T L k1))), (0, .ref 5), (1, .int (nI n))]) rfl ?_
      refine q_aload_n dX1_readValue_135 rfl rfl rfl ?_
      refine q_dup dX1_readValue_136 rfl ?_
      refine q_geti (x := nI k1) dX1_readValue_137 fX1_38 rfl (ty_c hS (by decide) rfl) (Eq.trans (rd_off (by omega)) uI_self) ?_
      refine q_iconst (v := nI 1) dX1_readValue_140 rfl ?_
      refine q_iaddN dX1_readValue_141 ?_
      refine q_puti dX1_readValue_142 fX1_38 rfl (Or.inl rfl) (ty_c hS (by decide) rfl) ?_
      refine q_aload_n dX1_readValue_145 rfl rfl rfl ?_
      refine q_iload_n dX1_readValue_146 rfl rfl ?_
      refine q_iconst (v := nI 1) dX1_readValue_147 rfl ?_
      refine q_callV (As := [.int (nI n), .int (nI 1)]) (rest := []) dX1_readValue_148 vX1_112 (ty_c hS (by decide) rfl) ⟨by decide, rfl⟩ (z1_readOperand_er1 (σ := (uI (uI (uI (uI (uI σ 5 4 o) b 16 (bi (t0 || t))) 5 3 (nI k1)) (b + 5) n o) 5 3 (nI (k1 + 1)))) (b := b) hS hR hn (PCt.u (PCt.u (PCt.u (PCt.u (PCt.u hC (by omega)) (by omega)) (by omega)) (by omega)) (by omega)) hT uI_self (by omega) a2) rfl rfl (Nat.le_of_ble_eq_true rfl) (by omega) (by omega) (by omega) (k_w (fun s148 q148 => ?_))
      have hbad := BadS.tr (b := b) (σ := σ) (σ' := (uI (uI (uI (uI (uI σ 5 4 o) b 16 (bi (t0 || t))) 5 3 (nI k1)) (b + 5) n o) 5 3 (nI (k1 + 1)))) (BFr.uI (BFr.uI (BFr.uI (BFr.uI (BFr.uI BFr.rf (by omega)) (by omega)) (by omega)) (by omega)) (by omega)) q148
      refine q_if_neB (tgt := 156) dX1_readValue_151 (by decide) (fun h => absurd h (by decide)) (fun _ => ?_)
      refine q_iconst (v := nI 0) dX1_readValue_154 rfl ?_
      refine q_ireturn dX1_readValue_155 rfl rfl (by omega) (by omega) ?_
      exact ⟨rfl, hbad⟩
    · exact absurd x3 (by rw [c112]; decide)

