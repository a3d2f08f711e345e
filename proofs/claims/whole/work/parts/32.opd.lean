/-! The class's parser: operands, blocks' names, kinds; SUMS. -/
/-- only the parser's and the Routine's ints changed -/
def BFr (b : Nat) (σ σ' : HS) : Prop := sL σ' = sL σ ∧ sR σ' = sR σ ∧ sN σ' = sN σ ∧ ∀ h, ¬ (h = 5 ∨ h = 10 ∨ h = 12 ∨ h = 13 ∨ (b ≤ h ∧ h < b + 32)) → sI σ' h = sI σ h
theorem BFr.rf {b : Nat} {σ : HS} : BFr b σ σ := ⟨rfl, rfl, rfl, fun _ _ => rfl⟩
theorem BFr.uI {b : Nat} {σ σ' : HS} {h i : Nat} {v : Int32} (k : BFr b σ σ') (hh : h = 5 ∨ h = 10 ∨ h = 12 ∨ h = 13 ∨ (b ≤ h ∧ h < b + 32)) : BFr b σ (uI σ' h i v) := ⟨k.1, k.2.1, k.2.2.1, fun a ha => (uI_off (fun e => ha (by rw [e]; exact hh))).trans (k.2.2.2 a ha)⟩
theorem BFr.tr {b : Nat} {σ σ' σ'' : HS} (k : BFr b σ σ') (k2 : BFr b σ' σ'') : BFr b σ σ'' := ⟨k2.1.trans k.1, k2.2.1.trans k.2.1, k2.2.2.1.trans k.2.2.1, fun a ha => (k2.2.2.2 a ha).trans (k.2.2.2 a ha)⟩
theorem BFr.erS {b : Nat} {σ σ' : HS} {e : Nat × Nat} (k : BFr b σ σ') : BFr b σ (erS σ' e) := (k.uI (Or.inl rfl)).uI (Or.inl rfl)
theorem SK.bf {b : Nat} {σ σ' : HS} (h : BFr b σ σ') (k : SK σ) : SK σ' := ⟨by rw [h.2.2.1]; exact k.1, fun a c q r => by rw [h.2.1]; exact k.2 a c q r⟩
theorem RB.bf {b c : Nat} {σ σ' : HS} (h : BFr b σ σ') (k : RB σ c) : RB σ' c := ⟨k.1, by rw [h.2.2.1]; exact k.2.1, fun o q r w => by rw [h.2.1]; exact k.2.2 o q r w⟩
/-- a FAULT was told -/
def BadS (b : Nat) (σ σ' : HS) (e : Nat × Nat) : Prop := BFr b σ σ' ∧ sI σ' 5 6 = nI e.1 ∧ sI σ' 5 7 = nI e.2
theorem BadS.er {b : Nat} {σ σ' : HS} {e : Nat × Nat} (k : BFr b σ σ') : BadS b σ (erS σ' e) e := ⟨k.erS, (rd_ne (by decide)).trans uI_self, uI_self⟩
theorem BadS.tr {b : Nat} {σ σ' σ'' : HS} {e : Nat × Nat} (k : BFr b σ σ') (h : BadS b σ' σ'' e) : BadS b σ σ'' e := ⟨k.tr h.1, h.2⟩
def WQ (v : Value) (E : HS → Prop) : Option Value → HS → Prop := fun r σ' => r = some v ∧ E σ'
theorem hs_eq {σ τ : HS} (h : ∀ a c, sI σ a c = sI τ a c) (h2 : sL σ = sL τ) (h3 : sR σ = sR τ) (h4 : sN σ = sN τ) : σ = τ := by
  obtain ⟨a, b, c, d⟩ := σ
  obtain ⟨a', b', c', d'⟩ := τ
  have e1 : a = a' := funext fun x => funext fun y => h x y
  have e2 : b = b' := h2
  have e3 : c = c' := h3
  have e4 : d = d' := h4
  subst e1; subst e2; subst e3; subst e4
  rfl
theorem sI_uI {σ : HS} {h i a c : Nat} {v : Int32} : sI (uI σ h i v) a c = if a = h ∧ c = i then v else sI σ a c := rfl
theorem uI_id {σ : HS} {h i : Nat} {v : Int32} (e : sI σ h i = v) : uI σ h i v = σ := hs_eq (fun a c => by
  rw [sI_uI]
  split
  · next q => rw [q.1, q.2, e]
  · rfl) rfl rfl rfl
theorem uI_uI {σ : HS} {h i : Nat} {v w : Int32} : uI (uI σ h i v) h i w = uI σ h i w := hs_eq (fun a c => by
  rw [sI_uI, sI_uI, sI_uI]
  split <;> rfl) rfl rfl rfl
theorem uI_cm {σ : HS} {h i h2 i2 : Nat} {v w : Int32} (hn : h ≠ h2 ∨ i ≠ i2) : uI (uI σ h i v) h2 i2 w = uI (uI σ h2 i2 w) h i v := hs_eq (fun a c => by
  rw [sI_uI, sI_uI, sI_uI, sI_uI]
  by_cases e1 : a = h ∧ c = i
  · rw [if_pos e1, if_pos e1, if_neg (by omega)]
  · rw [if_neg e1, if_neg e1]) rfl rfl rfl
theorem pOp_ok {T : Nat → Nat} {L k k2 : Nat} {o : Int32} {t : Bool} (h : pOp T L k = .ok (o, k2, t)) : (tk T L k = 7 ∧ tv T L k = 45 ∧ tk T L (k + 1) = 6 ∧ o = -(nI (tv T L (k + 1))) ∧ k2 = k + 2 ∧ t = false) ∨ (tk T L k = 6 ∧ o = nI (tv T L k) ∧ k2 = k + 1 ∧ t = false) ∨ (tk T L k = 3 ∧ o = nI (1000000000 + tv T L k) ∧ k2 = k + 1 ∧ t = decide (16 ≤ tv T L k)) := by
  unfold pOp at h
  by_cases h1 : tk T L k = 7 ∧ tv T L k = 45
  · rw [if_pos h1] at h
    by_cases h2 : tk T L (k + 1) = 6
    · rw [if_pos h2] at h
      cases h
      exact Or.inl ⟨h1.1, h1.2, h2, rfl, rfl, rfl⟩
    · rw [if_neg h2] at h
      cases h
  · rw [if_neg h1] at h
    by_cases h2 : tk T L k = 6
    · rw [if_pos h2] at h
      cases h
      exact Or.inr (Or.inl ⟨h2, rfl, rfl, rfl⟩)
    · rw [if_neg h2] at h
      by_cases h3 : tk T L k = 3
      · rw [if_pos h3] at h
        cases h
        exact Or.inr (Or.inr ⟨h3, rfl, rfl, rfl⟩)
      · rw [if_neg h3] at h
        cases h
theorem pOp_er {T : Nat → Nat} {L k : Nat} {e : Nat × Nat} (h : pOp T L k = .error e) : (tk T L k = 7 ∧ tv T L k = 45 ∧ tk T L (k + 1) ≠ 6 ∧ e = er T L (k + 1) 2) ∨ (¬ (tk T L k = 7 ∧ tv T L k = 45) ∧ tk T L k ≠ 6 ∧ tk T L k ≠ 3 ∧ e = er T L k 2) := by
  unfold pOp at h
  by_cases h1 : tk T L k = 7 ∧ tv T L k = 45
  · rw [if_pos h1] at h
    by_cases h2 : tk T L (k + 1) = 6
    · rw [if_pos h2] at h
      cases h
    · rw [if_neg h2] at h
      cases h
      exact Or.inl ⟨h1.1, h1.2, h2, rfl⟩
  · rw [if_neg h1] at h
    by_cases h2 : tk T L k = 6
    · rw [if_pos h2] at h
      cases h
    · rw [if_neg h2] at h
      by_cases h3 : tk T L k = 3
      · rw [if_pos h3] at h
        cases h
      · rw [if_neg h3] at h
        cases h
        exact Or.inr ⟨h1, h2, h3, rfl⟩
/-- behind an operand: its number, whether a t stands in it, the next word, the NODE's place -/
def opS (σ : HS) (b w n : Nat) (o : Int32) (k2 : Nat) (t : Bool) : HS := uI (uI (uI (uI σ 5 4 o) b 16 (bi t)) 5 3 (nI k2)) (b + (5 + w)) n o
theorem bi_or (a : Bool) (p : Prop) (h : p ∨ ¬ p) (hd : Decidable p) : (bi a ||| (if p then nI 1 else nI 0)) = bi (a || decide p) := by
  by_cases q : p
  · rw [if_pos q, decide_eq_true q]; cases a <;> rfl
  · rw [if_neg q, decide_eq_false q]; cases a <;> rfl
theorem bi_o1 (a : Bool) : (bi a ||| nI 1) = bi (a || true) := by cases a <;> rfl
theorem bi_o0 (a : Bool) : (bi a ||| nI 0) = bi (a || false) := by cases a <;> rfl

theorem z1_readOperand_ok0 {g : GG} {σ : HS} (hS : SK σ) {b : Nat} (hb : RB σ b) (hR : sR σ 5 5 = b) {T : Nat → Nat} {L N k n : Nat} (hn : n < 240) (hC : PCt σ T L N) (hT : ∀ i, i < L → T i < 256) (hk : sI σ 5 3 = nI k) (hkN : k ≤ N) {t0 : Bool} (ht : sI σ b 16 = bi t0) {o : Int32} {k2 : Nat} {t : Bool} (hx : pOp T L k = .ok (o, k2, t)) : CT g mX1_readOperand 2 0 0 [.ref 5, .int (nI n), .int (nI 0)] σ (PQ (opS σ b 0 n o k2 (t0 || t)) (.int (bi true))) := by
  have hb14 : b = 14 ∨ 99 ≤ b := by rcases hb.1 with h | ⟨j, h⟩ <;> omega
  obtain ⟨h6, h2, h3, h4, h5⟩ := id hC
  have hv := (h5 k (by omega)).2.1
  have hvb := tv_b (k := k) hT
  rcases pOp_ok hx with ⟨x1, x2, x3, rfl, rfl, rfl⟩ | ⟨x1, rfl, rfl, rfl⟩ | ⟨x1, rfl, rfl, rfl⟩
  · have hlt := tk_lt h4 (k := k + 1) (by omega)
    have hv1 := (h5 (k + 1) (by omega)).2.1
    rw [x2] at hv
    refine CT.of (by decide) (Nat.le_of_ble_eq_true rfl) ?_
    refine q_aload_n dX1_readOperand_0 rfl rfl rfl ?_
    refine q_bipush (v := nI 7) dX1_readOperand_1 rfl ?_
    refine q_callV (As := [.int (nI 7)]) (rest := []) dX1_readOperand_3 vX1_48 (ty_c hS (by decide) rfl) ⟨by decide, rfl⟩ (z1_isNow_t hS hC hk (by omega) (by decide) x1) rfl rfl (Nat.le_of_ble_eq_true rfl) (by omega) (by omega) (by omega) (k_p ?_)
    refine q_if_eqB (tgt := 30) dX1_readOperand_6 (by decide) (fun h => absurd h (by decide)) (fun _ => ?_)
    refine q_aload_n dX1_readOperand_9 rfl rfl rfl ?_
    refine q_getr (r := 6) dX1_readOperand_10 fX1_12 rfl (ty_c hS (by decide) rfl) (hS.2 5 0 6 rfl) ?_
    refine q_getr (r := 8) dX1_readOperand_13 fX1_73 rfl (ty_c hS (by decide) rfl) (hS.2 6 1 8 rfl) ?_
    refine q_aload_n dX1_readOperand_16 rfl rfl rfl ?_
    refine q_geti (x := nI k) dX1_readOperand_17 fX1_38 rfl (ty_c hS (by decide) rfl) hk ?_
    refine q_iald (x := nI 45) (j := k) dX1_readOperand_20 (ty_c hS (by decide) rfl) (ix_n (by omega) (by omega)) hv ?_
    refine q_bipush (v := nI 45) dX1_readOperand_21 rfl ?_
    refine q_icmp_neN (tgt := 30) dX1_readOperand_23 (by decide) (by omega) (by omega) (fun h => absurd h (by decide)) (fun _ => ?_)
    refine q_iconst (v := nI 1) dX1_readOperand_26 rfl ?_
    refine q_goto (tgt := 31) dX1_readOperand_27 (by decide) ?_
    refine q_istore_n dX1_readOperand_31 rfl (by decide) (ls' := [(3, .int (nI 1)), (0, .ref 5), (1, .int (nI n)), (2, .int (nI 0))]) rfl ?_
    refine q_iload_n dX1_readOperand_32 rfl rfl ?_
    refine q_if_eqN (tgt := 46) dX1_readOperand_33 (by decide) (by omega) (fun h => absurd h (by decide)) (fun _ => ?_)
    refine q_aload_n dX1_readOperand_36 rfl rfl rfl ?_
    refine q_dup dX1_readOperand_37 rfl ?_
    refine q_geti (x := nI k) dX1_readOperand_38 fX1_38 rfl (ty_c hS (by decide) rfl) hk ?_
    refine q_iconst (v := nI 1) dX1_readOperand_41 rfl ?_
    refine q_iaddN dX1_readOperand_42 ?_
    refine q_puti dX1_readOperand_43 fX1_38 rfl (Or.inl rfl) (ty_c hS (by decide) rfl) ?_
    refine q_aload_n dX1_readOperand_46 rfl rfl rfl ?_
    refine q_bipush (v := nI 6) dX1_readOperand_47 rfl ?_
    refine q_callV (As := [.int (nI 6)]) (rest := []) dX1_readOperand_49 vX1_48 (ty_c hS (by decide) rfl) ⟨by decide, rfl⟩ (z1_isNow_t (σ := (uI σ 5 3 (nI (k + 1)))) hS (PCt.u hC (by omega)) uI_self (by omega) (by decide) x3) rfl rfl (Nat.le_of_ble_eq_true rfl) (by omega) (by omega) (by omega) (k_p ?_)
    refine q_if_eqB (tgt := 94) dX1_readOperand_52 (by decide) (fun h => absurd h (by decide)) (fun _ => ?_)
    refine q_aload_n dX1_readOperand_55 rfl rfl rfl ?_
    refine q_iload_n dX1_readOperand_56 rfl rfl ?_
    refine q_if_eqN (tgt := 76) dX1_readOperand_57 (by decide) (by omega) (fun h => absurd h (by decide)) (fun _ => ?_)
    refine q_aload_n dX1_readOperand_60 rfl rfl rfl ?_
    refine q_getr (r := 6) dX1_readOperand_61 fX1_12 rfl (ty_c hS (by decide) rfl) (hS.2 5 0 6 rfl) ?_
    refine q_getr (r := 8) dX1_readOperand_64 fX1_73 rfl (ty_c hS (by decide) rfl) (hS.2 6 1 8 rfl) ?_
    refine q_aload_n dX1_readOperand_67 rfl rfl rfl ?_
    refine q_geti (x := nI (k + 1)) dX1_readOperand_68 fX1_38 rfl (ty_c hS (by decide) rfl) uI_self ?_
    refine q_iald (x := nI (tv T L (k + 1))) (j := (k + 1)) dX1_readOperand_71 (ty_c hS (by decide) rfl) (ix_n (by omega) (by omega)) (Eq.trans (rd_off (by decide)) hv1) ?_
    refine q_ineg dX1_readOperand_72 ?_
    refine q_goto (tgt := 88) dX1_readOperand_73 (by decide) ?_
    refine q_puti dX1_readOperand_88 fX1_119 rfl (Or.inl rfl) (ty_c hS (by decide) rfl) ?_
    refine q_goto (tgt := 168) dX1_readOperand_91 (by decide) ?_
    refine q_aload_n dX1_readOperand_168 rfl rfl rfl ?_
    refine q_dup dX1_readOperand_169 rfl ?_
    refine q_geti (x := nI (k + 1)) dX1_readOperand_170 fX1_38 rfl (ty_c hS (by decide) rfl) (Eq.trans (rd_ne (by decide)) uI_self) ?_
    refine q_iconst (v := nI 1) dX1_readOperand_173 rfl ?_
    refine q_iaddN dX1_readOperand_174 ?_
    refine q_puti dX1_readOperand_175 fX1_38 rfl (Or.inl rfl) (ty_c hS (by decide) rfl) ?_
    refine q_aload_n dX1_readOperand_178 rfl rfl rfl ?_
    refine q_getr (r := b) dX1_readOperand_179 fX1_30 rfl (ty_c hS (by decide) rfl) hR ?_
    refine q_getr (r := b + 4) dX1_readOperand_182 fX1_130 rfl (ty_r hb 0 rfl) (hb.2.2 0 3 4 rfl) ?_
    refine q_iload_n dX1_readOperand_185 rfl rfl ?_
    refine q_aald (r := b + 5) (j := 0) dX1_readOperand_186 (ty_r hb 4 rfl) (Or.inl rfl) (ix_n (by omega) (by omega)) (hb.2.2 4 0 5 rfl) ?_
    refine q_iload_n dX1_readOperand_187 rfl rfl ?_
    refine q_aload_n dX1_readOperand_188 rfl rfl rfl ?_
    refine q_geti (x := -(nI (tv T L (k + 1)))) dX1_readOperand_189 fX1_119 rfl (ty_c hS (by decide) rfl) (Eq.trans (rd_ne (by decide)) uI_self) ?_
    refine q_iast (j := n) dX1_readOperand_192 (ty_r hb 5 rfl) (ix_n (by omega) (by omega)) ?_
    refine q_iconst (v := nI 1) dX1_readOperand_193 rfl ?_
    refine q_ireturn dX1_readOperand_194 rfl rfl (by omega) (by omega) ?_
    refine ⟨?_, rfl⟩
    unfold opS
    have e1 : uI (uI σ 5 4 (-(nI (tv T L (k + 1))))) b 16 (bi t0) = uI σ 5 4 (-(nI (tv T L (k + 1)))) := uI_id (by rw [rd_off (by omega)]; exact ht)
    rw [Bool.or_false, e1, uI_cm (h := 5) (i := 3) (h2 := 5) (i2 := 4) (Or.inr (by decide)), uI_uI]
  · skip
    refine CT.of (by decide) (Nat.le_of_ble_eq_true rfl) ?_
    refine q_aload_n dX1_readOperand_0 rfl rfl rfl ?_
    refine q_bipush (v := nI 7) dX1_readOperand_1 rfl ?_
    refine q_callV (As := [.int (nI 7)]) (rest := []) dX1_readOperand_3 vX1_48 (ty_c hS (by decide) rfl) ⟨by decide, rfl⟩ (z1_isNow_f hS hC hk (by omega) (by decide) (by omega)) rfl rfl (Nat.le_of_ble_eq_true rfl) (by omega) (by omega) (by omega) (k_p ?_)
    refine q_if_eqB (tgt := 30) dX1_readOperand_6 (by decide) (fun _ => ?_) (fun h => absurd h (by decide))
    refine q_iconst (v := nI 0) dX1_readOperand_30 rfl ?_
    refine q_istore_n dX1_readOperand_31 rfl (by decide) (ls' := [(3, .int (nI 0)), (0, .ref 5), (1, .int (nI n)), (2, .int (nI 0))]) rfl ?_
    refine q_iload_n dX1_readOperand_32 rfl rfl ?_
    refine q_if_eqN (tgt := 46) dX1_readOperand_33 (by decide) (by omega) (fun _ => ?_) (fun h => absurd h (by decide))
    refine q_aload_n dX1_readOperand_46 rfl rfl rfl ?_
    refine q_bipush (v := nI 6) dX1_readOperand_47 rfl ?_
    refine q_callV (As := [.int (nI 6)]) (rest := []) dX1_readOperand_49 vX1_48 (ty_c hS (by decide) rfl) ⟨by decide, rfl⟩ (z1_isNow_t hS hC hk (by omega) (by decide) x1) rfl rfl (Nat.le_of_ble_eq_true rfl) (by omega) (by omega) (by omega) (k_p ?_)
    refine q_if_eqB (tgt := 94) dX1_readOperand_52 (by decide) (fun h => absurd h (by decide)) (fun _ => ?_)
    refine q_aload_n dX1_readOperand_55 rfl rfl rfl ?_
    refine q_iload_n dX1_readOperand_56 rfl rfl ?_
    refine q_if_eqN (tgt := 76) dX1_readOperand_57 (by decide) (by omega) (fun _ => ?_) (fun h => absurd h (by decide))
    refine q_aload_n dX1_readOperand_76 rfl rfl rfl ?_
    refine q_getr (r := 6) dX1_readOperand_77 fX1_12 rfl (ty_c hS (by decide) rfl) (hS.2 5 0 6 rfl) ?_
    refine q_getr (r := 8) dX1_readOperand_80 fX1_73 rfl (ty_c hS (by decide) rfl) (hS.2 6 1 8 rfl) ?_
    refine q_aload_n dX1_readOperand_83 rfl rfl rfl ?_
    refine q_geti (x := nI k) dX1_readOperand_84 fX1_38 rfl (ty_c hS (by decide) rfl) hk ?_
    refine q_iald (x := nI (tv T L k)) (j := k) dX1_readOperand_87 (ty_c hS (by decide) rfl) (ix_n (by omega) (by omega)) hv ?_
    refine q_puti dX1_readOperand_88 fX1_119 rfl (Or.inl rfl) (ty_c hS (by decide) rfl) ?_
    refine q_goto (tgt := 168) dX1_readOperand_91 (by decide) ?_
    refine q_aload_n dX1_readOperand_168 rfl rfl rfl ?_
    refine q_dup dX1_readOperand_169 rfl ?_
    refine q_geti (x := nI k) dX1_readOperand_170 fX1_38 rfl (ty_c hS (by decide) rfl) (Eq.trans (rd_ne (by decide)) hk) ?_
    refine q_iconst (v := nI 1) dX1_readOperand_173 rfl ?_
    refine q_iaddN dX1_readOperand_174 ?_
    refine q_puti dX1_readOperand_175 fX1_38 rfl (Or.inl rfl) (ty_c hS (by decide) rfl) ?_
    refine q_aload_n dX1_readOperand_178 rfl rfl rfl ?_
    refine q_getr (r := b) dX1_readOperand_179 fX1_30 rfl (ty_c hS (by decide) rfl) hR ?_
    refine q_getr (r := b + 4) dX1_readOperand_182 fX1_130 rfl (ty_r hb 0 rfl) (hb.2.2 0 3 4 rfl) ?_
    refine q_iload_n dX1_readOperand_185 rfl rfl ?_
    refine q_aald (r := b + 5) (j := 0) dX1_readOperand_186 (ty_r hb 4 rfl) (Or.inl rfl) (ix_n (by omega) (by omega)) (hb.2.2 4 0 5 rfl) ?_
    refine q_iload_n dX1_readOperand_187 rfl rfl ?_
    refine q_aload_n dX1_readOperand_188 rfl rfl rfl ?_
    refine q_geti (x := nI (tv T L k)) dX1_readOperand_189 fX1_119 rfl (ty_c hS (by decide) rfl) (Eq.trans (rd_ne (by decide)) uI_self) ?_
    refine q_iast (j := n) dX1_readOperand_192 (ty_r hb 5 rfl) (ix_n (by omega) (by omega)) ?_
    refine q_iconst (v := nI 1) dX1_readOperand_193 rfl ?_
    refine q_ireturn dX1_readOperand_194 rfl rfl (by omega) (by omega) ?_
    refine ⟨?_, rfl⟩
    unfold opS
    have e1 : uI (uI σ 5 4 (nI (tv T L k))) b 16 (bi t0) = uI σ 5 4 (nI (tv T L k)) := uI_id (by rw [rd_off (by omega)]; exact ht)
    rw [Bool.or_false, e1]
  · skip
    refine CT.of (by decide) (Nat.le_of_ble_eq_true rfl) ?_
    refine q_aload_n dX1_readOperand_0 rfl rfl rfl ?_
    refine q_bipush (v := nI 7) dX1_readOperand_1 rfl ?_
    refine q_callV (As := [.int (nI 7)]) (rest := []) dX1_readOperand_3 vX1_48 (ty_c hS (by decide) rfl) ⟨by decide, rfl⟩ (z1_isNow_f hS hC hk (by omega) (by decide) (by omega)) rfl rfl (Nat.le_of_ble_eq_true rfl) (by omega) (by omega) (by omega) (k_p ?_)
    refine q_if_eqB (tgt := 30) dX1_readOperand_6 (by decide) (fun _ => ?_) (fun h => absurd h (by decide))
    refine q_iconst (v := nI 0) dX1_readOperand_30 rfl ?_
    refine q_istore_n dX1_readOperand_31 rfl (by decide) (ls' := [(3, .int (nI 0)), (0, .ref 5), (1, .int (nI n)), (2, .int (nI 0))]) rfl ?_
    refine q_iload_n dX1_readOperand_32 rfl rfl ?_
    refine q_if_eqN (tgt := 46) dX1_readOperand_33 (by decide) (by omega) (fun _ => ?_) (fun h => absurd h (by decide))
    refine q_aload_n dX1_readOperand_46 rfl rfl rfl ?_
    refine q_bipush (v := nI 6) dX1_readOperand_47 rfl ?_
    refine q_callV (As := [.int (nI 6)]) (rest := []) dX1_readOperand_49 vX1_48 (ty_c hS (by decide) rfl) ⟨by decide, rfl⟩ (z1_isNow_f hS hC hk (by omega) (by decide) (by omega)) rfl rfl (Nat.le_of_ble_eq_true rfl) (by omega) (by omega) (by omega) (k_p ?_)
    refine q_if_eqB (tgt := 94) dX1_readOperand_52 (by decide) (fun _ => ?_) (fun h => absurd h (by decide))
    refine q_aload_n dX1_readOperand_94 rfl rfl rfl ?_
    refine q_iconst (v := nI 3) dX1_readOperand_95 rfl ?_
    refine q_callV (As := [.int (nI 3)]) (rest := []) dX1_readOperand_96 vX1_48 (ty_c hS (by decide) rfl) ⟨by decide, rfl⟩ (z1_isNow_t hS hC hk (by omega) (by decide) x1) rfl rfl (Nat.le_of_ble_eq_true rfl) (by omega) (by omega) (by omega) (k_p ?_)
    refine q_if_eqB (tgt := 162) dX1_readOperand_99 (by decide) (fun h => absurd h (by decide)) (fun _ => ?_)
    refine q_iload_n dX1_readOperand_102 rfl rfl ?_
    refine q_if_neN (tgt := 162) dX1_readOperand_103 (by decide) (by omega) (fun h => absurd h (by decide)) (fun _ => ?_)
    refine q_aload_n dX1_readOperand_106 rfl rfl rfl ?_
    refine q_ldc (v := nI 1000000000) dX1_readOperand_107 kX1_129 ?_
    refine q_aload_n dX1_readOperand_109 rfl rfl rfl ?_
    refine q_getr (r := 6) dX1_readOperand_110 fX1_12 rfl (ty_c hS (by decide) rfl) (hS.2 5 0 6 rfl) ?_
    refine q_getr (r := 8) dX1_readOperand_113 fX1_73 rfl (ty_c hS (by decide) rfl) (hS.2 6 1 8 rfl) ?_
    refine q_aload_n dX1_readOperand_116 rfl rfl rfl ?_
    refine q_geti (x := nI k) dX1_readOperand_117 fX1_38 rfl (ty_c hS (by decide) rfl) hk ?_
    refine q_iald (x := nI (tv T L k)) (j := k) dX1_readOperand_120 (ty_c hS (by decide) rfl) (ix_n (by omega) (by omega)) hv ?_
    refine q_iaddN dX1_readOperand_121 ?_
    refine q_puti dX1_readOperand_122 fX1_119 rfl (Or.inl rfl) (ty_c hS (by decide) rfl) ?_
    refine q_aload_n dX1_readOperand_125 rfl rfl rfl ?_
    refine q_getr (r := b) dX1_readOperand_126 fX1_30 rfl (ty_c hS (by decide) rfl) hR ?_
    refine q_dup dX1_readOperand_129 rfl ?_
    refine q_geti (x := bi t0) dX1_readOperand_130 fX1_105 rfl (ty_r hb 0 rfl) (Eq.trans (rd_off (by omega)) ht) ?_
    refine q_aload_n dX1_readOperand_133 rfl rfl rfl ?_
    refine q_getr (r := 6) dX1_readOperand_134 fX1_12 rfl (ty_c hS (by decide) rfl) (hS.2 5 0 6 rfl) ?_
    refine q_getr (r := 8) dX1_readOperand_137 fX1_73 rfl (ty_c hS (by decide) rfl) (hS.2 6 1 8 rfl) ?_
    refine q_aload_n dX1_readOperand_140 rfl rfl rfl ?_
    refine q_geti (x := nI k) dX1_readOperand_141 fX1_38 rfl (ty_c hS (by decide) rfl) (Eq.trans (rd_ne (by decide)) hk) ?_
    refine q_iald (x := nI (tv T L k)) (j := k) dX1_readOperand_144 (ty_c hS (by decide) rfl) (ix_n (by omega) (by omega)) (Eq.trans (rd_off (by decide)) hv) ?_
    refine q_bipush (v := nI 16) dX1_readOperand_145 rfl ?_
    refine q_icmp_ltN (tgt := 154) dX1_readOperand_147 (by decide) (by omega) (by omega) (fun c147 => ?_) (fun c147 => ?_)
    · skip
      refine q_iconst (v := nI 0) dX1_readOperand_154 rfl ?_
      refine q_ior dX1_readOperand_155 ?_
      refine q_top (y := bi (t0 || false)) (bi_o0 t0) ?_
      refine q_putz dX1_readOperand_156 fX1_105 rfl (Or.inl rfl) (ty_r hb 0 rfl) (bi_01 _) ?_
      refine q_goto (tgt := 168) dX1_readOperand_159 (by decide) ?_
      refine q_aload_n dX1_readOperand_168 rfl rfl rfl ?_
      refine q_dup dX1_readOperand_169 rfl ?_
      refine q_geti (x := nI k) dX1_readOperand_170 fX1_38 rfl (ty_c hS (by decide) rfl) (Eq.trans (rd_off (by omega)) (Eq.trans (rd_ne (by decide)) hk)) ?_
      refine q_iconst (v := nI 1) dX1_readOperand_173 rfl ?_
      refine q_iaddN dX1_readOperand_174 ?_
      refine q_puti dX1_readOperand_175 fX1_38 rfl (Or.inl rfl) (ty_c hS (by decide) rfl) ?_
      refine q_aload_n dX1_readOperand_178 rfl rfl rfl ?_
      refine q_getr (r := b) dX1_readOperand_179 fX1_30 rfl (ty_c hS (by decide) rfl) hR ?_
      refine q_getr (r := b + 4) dX1_readOperand_182 fX1_130 rfl (ty_r hb 0 rfl) (hb.2.2 0 3 4 rfl) ?_
      refine q_iload_n dX1_readOperand_185 rfl rfl ?_
      refine q_aald (r := b + 5) (j := 0) dX1_readOperand_186 (ty_r hb 4 rfl) (Or.inl rfl) (ix_n (by omega) (by omega)) (hb.2.2 4 0 5 rfl) ?_
      refine q_iload_n dX1_readOperand_187 rfl rfl ?_
      refine q_aload_n dX1_readOperand_188 rfl rfl rfl ?_
      refine q_geti (x := nI (1000000000 + (tv T L k))) dX1_readOperand_189 fX1_119 rfl (ty_c hS (by decide) rfl) (Eq.trans (rd_ne (by decide)) (Eq.trans (rd_off (by omega)) uI_self)) ?_
      refine q_iast (j := n) dX1_readOperand_192 (ty_r hb 5 rfl) (ix_n (by omega) (by omega)) ?_
      refine q_iconst (v := nI 1) dX1_readOperand_193 rfl ?_
      refine q_ireturn dX1_readOperand_194 rfl rfl (by omega) (by omega) ?_
      refine ⟨?_, rfl⟩
      unfold opS
      first | rw [decide_eq_true c147] | rw [decide_eq_false (Nat.not_le.mpr c147)]
    · skip
      refine q_iconst (v := nI 1) dX1_readOperand_150 rfl ?_
      refine q_goto (tgt := 155) dX1_readOperand_151 (by decide) ?_
      refine q_ior dX1_readOperand_155 ?_
      refine q_top (y := bi (t0 || true)) (bi_o1 t0) ?_
      refine q_putz dX1_readOperand_156 fX1_105 rfl (Or.inl rfl) (ty_r hb 0 rfl) (bi_01 _) ?_
      refine q_goto (tgt := 168) dX1_readOperand_159 (by decide) ?_
      refine q_aload_n dX1_readOperand_168 rfl rfl rfl ?_
      refine q_dup dX1_readOperand_169 rfl ?_
      refine q_geti (x := nI k) dX1_readOperand_170 fX1_38 rfl (ty_c hS (by decide) rfl) (Eq.trans (rd_off (by omega)) (Eq.trans (rd_ne (by decide)) hk)) ?_
      refine q_iconst (v := nI 1) dX1_readOperand_173 rfl ?_
      refine q_iaddN dX1_readOperand_174 ?_
      refine q_puti dX1_readOperand_175 fX1_38 rfl (Or.inl rfl) (ty_c hS (by decide) rfl) ?_
      refine q_aload_n dX1_readOperand_178 rfl rfl rfl ?_
      refine q_getr (r := b) dX1_readOperand_179 fX1_30 rfl (ty_c hS (by decide) rfl) hR ?_
      refine q_getr (r := b + 4) dX1_readOperand_182 fX1_130 rfl (ty_r hb 0 rfl) (hb.2.2 0 3 4 rfl) ?_
      refine q_iload_n dX1_readOperand_185 rfl rfl ?_
      refine q_aald (r := b + 5) (j := 0) dX1_readOperand_186 (ty_r hb 4 rfl) (Or.inl rfl) (ix_n (by omega) (by omega)) (hb.2.2 4 0 5 rfl) ?_
      refine q_iload_n dX1_readOperand_187 rfl rfl ?_
      refine q_aload_n dX1_readOperand_188 rfl rfl rfl ?_
      refine q_geti (x := nI (1000000000 + (tv T L k))) dX1_readOperand_189 fX1_119 rfl (ty_c hS (by decide) rfl) (Eq.trans (rd_ne (by decide)) (Eq.trans (rd_off (by omega)) uI_self)) ?_
      refine q_iast (j := n) dX1_readOperand_192 (ty_r hb 5 rfl) (ix_n (by omega) (by omega)) ?_
      refine q_iconst (v := nI 1) dX1_readOperand_193 rfl ?_
      refine q_ireturn dX1_readOperand_194 rfl rfl (by omega) (by omega) ?_
      refine ⟨?_, rfl⟩
      unfold opS
      first | rw [decide_eq_true c147] | rw [decide_eq_false (Nat.not_le.mpr c147)]

theorem z1_readOperand_ok1 {g : GG} {σ : HS} (hS : SK σ) {b : Nat} (hb : RB σ b) (hR : sR σ 5 5 = b) {T : Nat → Nat} {L N k n : Nat} (hn : n < 240) (hC : PCt σ T L N) (hT : ∀ i, i < L → T i < 256) (hk : sI σ 5 3 = nI k) (hkN : k ≤ N) {t0 : Bool} (ht : sI σ b 16 = bi t0) {o : Int32} {k2 : Nat} {t : Bool} (hx : pOp T L k = .ok (o, k2, t)) : CT g mX1_readOperand 2 0 0 [.ref 5, .int (nI n), .int (nI 1)] σ (PQ (opS σ b 1 n o k2 (t0 || t)) (.int (bi true))) := by
  have hb14 : b = 14 ∨ 99 ≤ b := by rcases hb.1 with h | ⟨j, h⟩ <;> omega
  obtain ⟨h6, h2, h3, h4, h5⟩ := id hC
  have hv := (h5 k (by omega)).2.1
  have hvb := tv_b (k := k) hT
  rcases pOp_ok hx with ⟨x1, x2, x3, rfl, rfl, rfl⟩ | ⟨x1, rfl, rfl, rfl⟩ | ⟨x1, rfl, rfl, rfl⟩
  · have hlt := tk_lt h4 (k := k + 1) (by omega)
    have hv1 := (h5 (k + 1) (by omega)).2.1
    rw [x2] at hv
    refine CT.of (by decide) (Nat.le_of_ble_eq_true rfl) ?_
    refine q_aload_n dX1_readOperand_0 rfl rfl rfl ?_
    refine q_bipush (v := nI 7) dX1_readOperand_1 rfl ?_
    refine q_callV (As := [.int (nI 7)]) (rest := []) dX1_readOperand_3 vX1_48 (ty_c hS (by decide) rfl) ⟨by decide, rfl⟩ (z1_isNow_t hS hC hk (by omega) (by decide) x1) rfl rfl (Nat.le_of_ble_eq_true rfl) (by omega) (by omega) (by omega) (k_p ?_)
    refine q_if_eqB (tgt := 30) dX1_readOperand_6 (by decide) (fun h => absurd h (by decide)) (fun _ => ?_)
    refine q_aload_n dX1_readOperand_9 rfl rfl rfl ?_
    refine q_getr (r := 6) dX1_readOperand_10 fX1_12 rfl (ty_c hS (by decide) rfl) (hS.2 5 0 6 rfl) ?_
    refine q_getr (r := 8) dX1_readOperand_13 fX1_73 rfl (ty_c hS (by decide) rfl) (hS.2 6 1 8 rfl) ?_
    refine q_aload_n dX1_readOperand_16 rfl rfl rfl ?_
    refine q_geti (x := nI k) dX1_readOperand_17 fX1_38 rfl (ty_c hS (by decide) rfl) hk ?_
    refine q_iald (x := nI 45) (j := k) dX1_readOperand_20 (ty_c hS (by decide) rfl) (ix_n (by omega) (by omega)) hv ?_
    refine q_bipush (v := nI 45) dX1_readOperand_21 rfl ?_
    refine q_icmp_neN (tgt := 30) dX1_readOperand_23 (by decide) (by omega) (by omega) (fun h => absurd h (by decide)) (fun _ => ?_)
    refine q_iconst (v := nI 1) dX1_readOperand_26 rfl ?_
    refine q_goto (tgt := 31) dX1_readOperand_27 (by decide) ?_
    refine q_istore_n dX1_readOperand_31 rfl (by decide) (ls' := [(3, .int (nI 1)), (0, .ref 5), (1, .int (nI n)), (2, .int (nI 1))]) rfl ?_
    refine q_iload_n dX1_readOperand_32 rfl rfl ?_
    refine q_if_eqN (tgt := 46) dX1_readOperand_33 (by decide) (by omega) (fun h => absurd h (by decide)) (fun _ => ?_)
    refine q_aload_n dX1_readOperand_36 rfl rfl rfl ?_
    refine q_dup dX1_readOperand_37 rfl ?_
    refine q_geti (x := nI k) dX1_readOperand_38 fX1_38 rfl (ty_c hS (by decide) rfl) hk ?_
    refine q_iconst (v := nI 1) dX1_readOperand_41 rfl ?_
    refine q_iaddN dX1_readOperand_42 ?_
    refine q_puti dX1_readOperand_43 fX1_38 rfl (Or.inl rfl) (ty_c hS (by decide) rfl) ?_
    refine q_aload_n dX1_readOperand_46 rfl rfl rfl ?_
    refine q_bipush (v := nI 6) dX1_readOperand_47 rfl ?_
    refine q_callV (As := [.int (nI 6)]) (rest := []) dX1_readOperand_49 vX1_48 (ty_c hS (by decide) rfl) ⟨by decide, rfl⟩ (z1_isNow_t (σ := (uI σ 5 3 (nI (k + 1)))) hS (PCt.u hC (by omega)) uI_self (by omega) (by decide) x3) rfl rfl (Nat.le_of_ble_eq_true rfl) (by omega) (by omega) (by omega) (k_p ?_)
    refine q_if_eqB (tgt := 94) dX1_readOperand_52 (by decide) (fun h => absurd h (by decide)) (fun _ => ?_)
    refine q_aload_n dX1_readOperand_55 rfl rfl rfl ?_
    refine q_iload_n dX1_readOperand_56 rfl rfl ?_
    refine q_if_eqN (tgt := 76) dX1_readOperand_57 (by decide) (by omega) (fun h => absurd h (by decide)) (fun _ => ?_)
    refine q_aload_n dX1_readOperand_60 rfl rfl rfl ?_
    refine q_getr (r := 6) dX1_readOperand_61 fX1_12 rfl (ty_c hS (by decide) rfl) (hS.2 5 0 6 rfl) ?_
    refine q_getr (r := 8) dX1_readOperand_64 fX1_73 rfl (ty_c hS (by decide) rfl) (hS.2 6 1 8 rfl) ?_
    refine q_aload_n dX1_readOperand_67 rfl rfl rfl ?_
    refine q_geti (x := nI (k + 1)) dX1_readOperand_68 fX1_38 rfl (ty_c hS (by decide) rfl) uI_self ?_
    refine q_iald (x := nI (tv T L (k + 1))) (j := (k + 1)) dX1_readOperand_71 (ty_c hS (by decide) rfl) (ix_n (by omega) (by omega)) (Eq.trans (rd_off (by decide)) hv1) ?_
    refine q_ineg dX1_readOperand_72 ?_
    refine q_goto (tgt := 88) dX1_readOperand_73 (by decide) ?_
    refine q_puti dX1_readOperand_88 fX1_119 rfl (Or.inl rfl) (ty_c hS (by decide) rfl) ?_
    refine q_goto (tgt := 168) dX1_readOperand_91 (by decide) ?_
    refine q_aload_n dX1_readOperand_168 rfl rfl rfl ?_
    refine q_dup dX1_readOperand_169 rfl ?_
    refine q_geti (x := nI (k + 1)) dX1_readOperand_170 fX1_38 rfl (ty_c hS (by decide) rfl) (Eq.trans (rd_ne (by decide)) uI_self) ?_
    refine q_iconst (v := nI 1) dX1_readOperand_173 rfl ?_
    refine q_iaddN dX1_readOperand_174 ?_
    refine q_puti dX1_readOperand_175 fX1_38 rfl (Or.inl rfl) (ty_c hS (by decide) rfl) ?_
    refine q_aload_n dX1_readOperand_178 rfl rfl rfl ?_
    refine q_getr (r := b) dX1_readOperand_179 fX1_30 rfl (ty_c hS (by decide) rfl) hR ?_
    refine q_getr (r := b + 4) dX1_readOperand_182 fX1_130 rfl (ty_r hb 0 rfl) (hb.2.2 0 3 4 rfl) ?_
    refine q_iload_n dX1_readOperand_185 rfl rfl ?_
    refine q_aald (r := b + 6) (j := 1) dX1_readOperand_186 (ty_r hb 4 rfl) (Or.inl rfl) (ix_n (by omega) (by omega)) (hb.2.2 4 1 6 rfl) ?_
    refine q_iload_n dX1_readOperand_187 rfl rfl ?_
    refine q_aload_n dX1_readOperand_188 rfl rfl rfl ?_
    refine q_geti (x := -(nI (tv T L (k + 1)))) dX1_readOperand_189 fX1_119 rfl (ty_c hS (by decide) rfl) (Eq.trans (rd_ne (by decide)) uI_self) ?_
    refine q_iast (j := n) dX1_readOperand_192 (ty_r hb 6 rfl) (ix_n (by omega) (by omega)) ?_
    refine q_iconst (v := nI 1) dX1_readOperand_193 rfl ?_
    refine q_ireturn dX1_readOperand_194 rfl rfl (by omega) (by omega) ?_
    refine ⟨?_, rfl⟩
    unfold opS
    have e1 : uI (uI σ 5 4 (-(nI (tv T L (k + 1))))) b 16 (bi t0) = uI σ 5 4 (-(nI (tv T L (k + 1)))) := uI_id (by rw [rd_off (by omega)]; exact ht)
    rw [Bool.or_false, e1, uI_cm (h := 5) (i := 3) (h2 := 5) (i2 := 4) (Or.inr (by decide)), uI_uI]
  · skip
    refine CT.of (by decide) (Nat.le_of_ble_eq_true rfl) ?_
    refine q_aload_n dX1_readOperand_0 rfl rfl rfl ?_
    refine q_bipush (v := nI 7) dX1_readOperand_1 rfl ?_
    refine q_callV (As := [.int (nI 7)]) (rest := []) dX1_readOperand_3 vX1_48 (ty_c hS (by decide) rfl) ⟨by decide, rfl⟩ (z1_isNow_f hS hC hk (by omega) (by decide) (by omega)) rfl rfl (Nat.le_of_ble_eq_true rfl) (by omega) (by omega) (by omega) (k_p ?_)
    refine q_if_eqB (tgt := 30) dX1_readOperand_6 (by decide) (fun _ => ?_) (fun h => absurd h (by decide))
    refine q_iconst (v := nI 0) dX1_readOperand_30 rfl ?_
    refine q_istore_n dX1_readOperand_31 rfl (by decide) (ls' := [(3, .int (nI 0)), (0, .ref 5), (1, .int (nI n)), (2, .int (nI 1))]) rfl ?_
    refine q_iload_n dX1_readOperand_32 rfl rfl ?_
    refine q_if_eqN (tgt := 46) dX1_readOperand_33 (by decide) (by omega) (fun _ => ?_) (fun h => absurd h (by decide))
    refine q_aload_n dX1_readOperand_46 rfl rfl rfl ?_
    refine q_bipush (v := nI 6) dX1_readOperand_47 rfl ?_
    refine q_callV (As := [.int (nI 6)]) (rest := []) dX1_readOperand_49 vX1_48 (ty_c hS (by decide) rfl) ⟨by decide, rfl⟩ (z1_isNow_t hS hC hk (by omega) (by decide) x1) rfl rfl (Nat.le_of_ble_eq_true rfl) (by omega) (by omega) (by omega) (k_p ?_)
    refine q_if_eqB (tgt := 94) dX1_readOperand_52 (by decide) (fun h => absurd h (by decide)) (fun _ => ?_)
    refine q_aload_n dX1_readOperand_55 rfl rfl rfl ?_
    refine q_iload_n dX1_readOperand_56 rfl rfl ?_
    refine q_if_eqN (tgt := 76) dX1_readOperand_57 (by decide) (by omega) (fun _ => ?_) (fun h => absurd h (by decide))
    refine q_aload_n dX1_readOperand_76 rfl rfl rfl ?_
    refine q_getr (r := 6) dX1_readOperand_77 fX1_12 rfl (ty_c hS (by decide) rfl) (hS.2 5 0 6 rfl) ?_
    refine q_getr (r := 8) dX1_readOperand_80 fX1_73 rfl (ty_c hS (by decide) rfl) (hS.2 6 1 8 rfl) ?_
    refine q_aload_n dX1_readOperand_83 rfl rfl rfl ?_
    refine q_geti (x := nI k) dX1_readOperand_84 fX1_38 rfl (ty_c hS (by decide) rfl) hk ?_
    refine q_iald (x := nI (tv T L k)) (j := k) dX1_readOperand_87 (ty_c hS (by decide) rfl) (ix_n (by omega) (by omega)) hv ?_
    refine q_puti dX1_readOperand_88 fX1_119 rfl (Or.inl rfl) (ty_c hS (by decide) rfl) ?_
    refine q_goto (tgt := 168) dX1_readOperand_91 (by decide) ?_
    refine q_aload_n dX1_readOperand_168 rfl rfl rfl ?_
    refine q_dup dX1_readOperand_169 rfl ?_
    refine q_geti (x := nI k) dX1_readOperand_170 fX1_38 rfl (ty_c hS (by decide) rfl) (Eq.trans (rd_ne (by decide)) hk) ?_
    refine q_iconst (v := nI 1) dX1_readOperand_173 rfl ?_
    refine q_iaddN dX1_readOperand_174 ?_
    refine q_puti dX1_readOperand_175 fX1_38 rfl (Or.inl rfl) (ty_c hS (by decide) rfl) ?_
    refine q_aload_n dX1_readOperand_178 rfl rfl rfl ?_
    refine q_getr (r := b) dX1_readOperand_179 fX1_30 rfl (ty_c hS (by decide) rfl) hR ?_
    refine q_getr (r := b + 4) dX1_readOperand_182 fX1_130 rfl (ty_r hb 0 rfl) (hb.2.2 0 3 4 rfl) ?_
    refine q_iload_n dX1_readOperand_185 rfl rfl ?_
    refine q_aald (r := b + 6) (j := 1) dX1_readOperand_186 (ty_r hb 4 rfl) (Or.inl rfl) (ix_n (by omega) (by omega)) (hb.2.2 4 1 6 rfl) ?_
    refine q_iload_n dX1_readOperand_187 rfl rfl ?_
    refine q_aload_n dX1_readOperand_188 rfl rfl rfl ?_
    refine q_geti (x := nI (tv T L k)) dX1_readOperand_189 fX1_119 rfl (ty_c hS (by decide) rfl) (Eq.trans (rd_ne (by decide)) uI_self) ?_
    refine q_iast (j := n) dX1_readOperand_192 (ty_r hb 6 rfl) (ix_n (by omega) (by omega)) ?_
    refine q_iconst (v := nI 1) dX1_readOperand_193 rfl ?_
    refine q_ireturn dX1_readOperand_194 rfl rfl (by omega) (by omega) ?_
    refine ⟨?_, rfl⟩
    unfold opS
    have e1 : uI (uI σ 5 4 (nI (tv T L k))) b 16 (bi t0) = uI σ 5 4 (nI (tv T L k)) := uI_id (by rw [rd_off (by omega)]; exact ht)
    rw [Bool.or_false, e1]
  · skip
    refine CT.of (by decide) (Nat.le_of_ble_eq_true rfl) ?_
    refine q_aload_n dX1_readOperand_0 rfl rfl rfl ?_
    refine q_bipush (v := nI 7) dX1_readOperand_1 rfl ?_
    refine q_callV (As := [.int (nI 7)]) (rest := []) dX1_readOperand_3 vX1_48 (ty_c hS (by decide) rfl) ⟨by decide, rfl⟩ (z1_isNow_f hS hC hk (by omega) (by decide) (by omega)) rfl rfl (Nat.le_of_ble_eq_true rfl) (by omega) (by omega) (by omega) (k_p ?_)
    refine q_if_eqB (tgt := 30) dX1_readOperand_6 (by decide) (fun _ => ?_) (fun h => absurd h (by decide))
    refine q_iconst (v := nI 0) dX1_readOperand_30 rfl ?_
    refine q_istore_n dX1_readOperand_31 rfl (by decide) (ls' := [(3, .int (nI 0)), (0, .ref 5), (1, .int (nI n)), (2, .int (nI 1))]) rfl ?_
    refine q_iload_n dX1_readOperand_32 rfl rfl ?_
    refine q_if_eqN (tgt := 46) dX1_readOperand_33 (by decide) (by omega) (fun _ => ?_) (fun h => absurd h (by decide))
    refine q_aload_n dX1_readOperand_46 rfl rfl rfl ?_
    refine q_bipush (v := nI 6) dX1_readOperand_47 rfl ?_
    refine q_callV (As := [.int (nI 6)]) (rest := []) dX1_readOperand_49 vX1_48 (ty_c hS (by decide) rfl) ⟨by decide, rfl⟩ (z1_isNow_f hS hC hk (by omega) (by decide) (by omega)) rfl rfl (Nat.le_of_ble_eq_true rfl) (by omega) (by omega) (by omega) (k_p ?_)
    refine q_if_eqB (tgt := 94) dX1_readOperand_52 (by decide) (fun _ => ?_) (fun h => absurd h (by decide))
    refine q_aload_n dX1_readOperand_94 rfl rfl rfl ?_
    refine q_iconst (v := nI 3) dX1_readOperand_95 rfl ?_
    refine q_callV (As := [.int (nI 3)]) (rest := []) dX1_readOperand_96 vX1_48 (ty_c hS (by decide) rfl) ⟨by decide, rfl⟩ (z1_isNow_t hS hC hk (by omega) (by decide) x1) rfl rfl (Nat.le_of_ble_eq_true rfl) (by omega) (by omega) (by omega) (k_p ?_)
    refine q_if_eqB (tgt := 162) dX1_readOperand_99 (by decide) (fun h => absurd h (by decide)) (fun _ => ?_)
    refine q_iload_n dX1_readOperand_102 rfl rfl ?_
    refine q_if_neN (tgt := 162) dX1_readOperand_103 (by decide) (by omega) (fun h => absurd h (by decide)) (fun _ => ?_)
    refine q_aload_n dX1_readOperand_106 rfl rfl rfl ?_
    refine q_ldc (v := nI 1000000000) dX1_readOperand_107 kX1_129 ?_
    refine q_aload_n dX1_readOperand_109 rfl rfl rfl ?_
    refine q_getr (r := 6) dX1_readOperand_110 fX1_12 rfl (ty_c hS (by decide) rfl) (hS.2 5 0 6 rfl) ?_
    refine q_getr (r := 8) dX1_readOperand_113 fX1_73 rfl (ty_c hS (by decide) rfl) (hS.2 6 1 8 rfl) ?_
    refine q_aload_n dX1_readOperand_116 rfl rfl rfl ?_
    refine q_geti (x := nI k) dX1_readOperand_117 fX1_38 rfl (ty_c hS (by decide) rfl) hk ?_
    refine q_iald (x := nI (tv T L k)) (j := k) dX1_readOperand_120 (ty_c hS (by decide) rfl) (ix_n (by omega) (by omega)) hv ?_
    refine q_iaddN dX1_readOperand_121 ?_
    refine q_puti dX1_readOperand_122 fX1_119 rfl (Or.inl rfl) (ty_c hS (by decide) rfl) ?_
    refine q_aload_n dX1_readOperand_125 rfl rfl rfl ?_
    refine q_getr (r := b) dX1_readOperand_126 fX1_30 rfl (ty_c hS (by decide) rfl) hR ?_
    refine q_dup dX1_readOperand_129 rfl ?_
    refine q_geti (x := bi t0) dX1_readOperand_130 fX1_105 rfl (ty_r hb 0 rfl) (Eq.trans (rd_off (by omega)) ht) ?_
    refine q_aload_n dX1_readOperand_133 rfl rfl rfl ?_
    refine q_getr (r := 6) dX1_readOperand_134 fX1_12 rfl (ty_c hS (by decide) rfl) (hS.2 5 0 6 rfl) ?_
    refine q_getr (r := 8) dX1_readOperand_137 fX1_73 rfl (ty_c hS (by decide) rfl) (hS.2 6 1 8 rfl) ?_
    refine q_aload_n dX1_readOperand_140 rfl rfl rfl ?_
    refine q_geti (x := nI k) dX1_readOperand_141 fX1_38 rfl (ty_c hS (by decide) rfl) (Eq.trans (rd_ne (by decide)) hk) ?_
    refine q_iald (x := nI (tv T L k)) (j := k) dX1_readOperand_144 (ty_c hS (by decide) rfl) (ix_n (by omega) (by omega)) (Eq.trans (rd_off (by decide)) hv) ?_
    refine q_bipush (v := nI 16) dX1_readOperand_145 rfl ?_
    refine q_icmp_ltN (tgt := 154) dX1_readOperand_147 (by decide) (by omega) (by omega) (fun c147 => ?_) (fun c147 => ?_)
    · skip
      refine q_iconst (v := nI 0) dX1_readOperand_154 rfl ?_
      refine q_ior dX1_readOperand_155 ?_
      refine q_top (y := bi (t0 || false)) (bi_o0 t0) ?_
      refine q_putz dX1_readOperand_156 fX1_105 rfl (Or.inl rfl) (ty_r hb 0 rfl) (bi_01 _) ?_
      refine q_goto (tgt := 168) dX1_readOperand_159 (by decide) ?_
      refine q_aload_n dX1_readOperand_168 rfl rfl rfl ?_
      refine q_dup dX1_readOperand_169 rfl ?_
      refine q_geti (x := nI k) dX1_readOperand_170 fX1_38 rfl (ty_c hS (by decide) rfl) (Eq.trans (rd_off (by omega)) (Eq.trans (rd_ne (by decide)) hk)) ?_
      refine q_iconst (v := nI 1) dX1_readOperand_173 rfl ?_
      refine q_iaddN dX1_readOperand_174 ?_
      refine q_puti dX1_readOperand_175 fX1_38 rfl (Or.inl rfl) (ty_c hS (by decide) rfl) ?_
      refine q_aload_n dX1_readOperand_178 rfl rfl rfl ?_
      refine q_getr (r := b) dX1_readOperand_179 fX1_30 rfl (ty_c hS (by decide) rfl) hR ?_
      refine q_getr (r := b + 4) dX1_readOperand_182 fX1_130 rfl (ty_r hb 0 rfl) (hb.2.2 0 3 4 rfl) ?_
      refine q_iload_n dX1_readOperand_185 rfl rfl ?_
      refine q_aald (r := b + 6) (j := 1) dX1_readOperand_186 (ty_r hb 4 rfl) (Or.inl rfl) (ix_n (by omega) (by omega)) (hb.2.2 4 1 6 rfl) ?_
      refine q_iload_n dX1_readOperand_187 rfl rfl ?_
      refine q_aload_n dX1_readOperand_188 rfl rfl rfl ?_
      refine q_geti (x := nI (1000000000 + (tv T L k))) dX1_readOperand_189 fX1_119 rfl (ty_c hS (by decide) rfl) (Eq.trans (rd_ne (by decide)) (Eq.trans (rd_off (by omega)) uI_self)) ?_
      refine q_iast (j := n) dX1_readOperand_192 (ty_r hb 6 rfl) (ix_n (by omega) (by omega)) ?_
      refine q_iconst (v := nI 1) dX1_readOperand_193 rfl ?_
      refine q_ireturn dX1_readOperand_194 rfl rfl (by omega) (by omega) ?_
      refine ⟨?_, rfl⟩
      unfold opS
      first | rw [decide_eq_true c147] | rw [decide_eq_false (Nat.not_le.mpr c147)]
    · skip
      refine q_iconst (v := nI 1) dX1_readOperand_150 rfl ?_
      refine q_goto (tgt := 155) dX1_readOperand_151 (by decide) ?_
      refine q_ior dX1_readOperand_155 ?_
      refine q_top (y := bi (t0 || true)) (bi_o1 t0) ?_
      refine q_putz dX1_readOperand_156 fX1_105 rfl (Or.inl rfl) (ty_r hb 0 rfl) (bi_01 _) ?_
      refine q_goto (tgt := 168) dX1_readOperand_159 (by decide) ?_
      refine q_aload_n dX1_readOperand_168 rfl rfl rfl ?_
      refine q_dup dX1_readOperand_169 rfl ?_
      refine q_geti (x := nI k) dX1_readOperand_170 fX1_38 rfl (ty_c hS (by decide) rfl) (Eq.trans (rd_off (by omega)) (Eq.trans (rd_ne (by decide)) hk)) ?_
      refine q_iconst (v := nI 1) dX1_readOperand_173 rfl ?_
      refine q_iaddN dX1_readOperand_174 ?_
      refine q_puti dX1_readOperand_175 fX1_38 rfl (Or.inl rfl) (ty_c hS (by decide) rfl) ?_
      refine q_aload_n dX1_readOperand_178 rfl rfl rfl ?_
      refine q_getr (r := b) dX1_readOperand_179 fX1_30 rfl (ty_c hS (by decide) rfl) hR ?_
      refine q_getr (r := b + 4) dX1_readOperand_182 fX1_130 rfl (ty_r hb 0 rfl) (hb.2.2 0 3 4 rfl) ?_
      refine q_iload_n dX1_readOperand_185 rfl rfl ?_
      refine q_aald (r := b + 6) (j := 1) dX1_readOperand_186 (ty_r hb 4 rfl) (Or.inl rfl) (ix_n (by omega) (by omega)) (hb.2.2 4 1 6 rfl) ?_
      refine q_iload_n dX1_readOperand_187 rfl rfl ?_
      refine q_aload_n dX1_readOperand_188 rfl rfl rfl ?_
      refine q_geti (x := nI (1000000000 + (tv T L k))) dX1_readOperand_189 fX1_119 rfl (ty_c hS (by decide) rfl) (Eq.trans (rd_ne (by decide)) (Eq.trans (rd_off (by omega)) uI_self)) ?_
      refine q_iast (j := n) dX1_readOperand_192 (ty_r hb 6 rfl) (ix_n (by omega) (by omega)) ?_
      refine q_iconst (v := nI 1) dX1_readOperand_193 rfl ?_
      refine q_ireturn dX1_readOperand_194 rfl rfl (by omega) (by omega) ?_
      refine ⟨?_, rfl⟩
      unfold opS
      first | rw [decide_eq_true c147] | rw [decide_eq_false (Nat.not_le.mpr c147)]


theorem z1_readOperand_er0 {g : GG} {σ : HS} (hS : SK σ) {b : Nat} (hR : sR σ 5 5 = b) {T : Nat → Nat} {L N k n : Nat} (hn : n < 240) (hC : PCt σ T L N) (hT : ∀ i, i < L → T i < 256) (hk : sI σ 5 3 = nI k) (hkN : k ≤ N) {e : Nat × Nat} (hx : pOp T L k = .error e) : CT g mX1_readOperand 2 0 0 [.ref 5, .int (nI n), .int (nI 0)] σ (WQ (.int (bi false)) (fun σ' => BadS b σ σ' e)) := by
  obtain ⟨h6, h2, h3, h4, h5⟩ := id hC
  have hv := (h5 k (by omega)).2.1
  have hvb := tv_b (k := k) hT
  rcases pOp_er hx with ⟨x1, x2, x3, rfl⟩ | ⟨x1, x2, x3, rfl⟩
  · have hlt := tk_lt h4 (k := k) (by omega)
    refine CT.of (by decide) (Nat.le_of_ble_eq_true rfl) ?_
    refine q_aload_n dX1_readOperand_0 rfl rfl rfl ?_
    refine q_bipush (v := nI 7) dX1_readOperand_1 rfl ?_
    refine q_callV (As := [.int (nI 7)]) (rest := []) dX1_readOperand_3 vX1_48 (ty_c hS (by decide) rfl) ⟨by decide, rfl⟩ (z1_isNow_t hS hC hk (by omega) (by decide) x1) rfl rfl (Nat.le_of_ble_eq_true rfl) (by omega) (by omega) (by omega) (k_p ?_)
    refine q_if_eqB (tgt := 30) dX1_readOperand_6 (by decide) (fun h => absurd h (by decide)) (fun _ => ?_)
    refine q_aload_n dX1_readOperand_9 rfl rfl rfl ?_
    refine q_getr (r := 6) dX1_readOperand_10 fX1_12 rfl (ty_c hS (by decide) rfl) (hS.2 5 0 6 rfl) ?_
    refine q_getr (r := 8) dX1_readOperand_13 fX1_73 rfl (ty_c hS (by decide) rfl) (hS.2 6 1 8 rfl) ?_
    refine q_aload_n dX1_readOperand_16 rfl rfl rfl ?_
    refine q_geti (x := nI k) dX1_readOperand_17 fX1_38 rfl (ty_c hS (by decide) rfl) hk ?_
    refine q_iald (x := nI (tv T L k)) (j := k) dX1_readOperand_20 (ty_c hS (by decide) rfl) (ix_n (by omega) (by omega)) hv ?_
    refine q_bipush (v := nI 45) dX1_readOperand_21 rfl ?_
    refine q_icmp_neN (tgt := 30) dX1_readOperand_23 (by decide) (by omega) (by omega) (fun c23 => ?_) (fun c23 => ?_)
    · exact absurd x2 (by omega)
    · skip
      refine q_iconst (v := nI 1) dX1_readOperand_26 rfl ?_
      refine q_goto (tgt := 31) dX1_readOperand_27 (by decide) ?_
      refine q_istore_n dX1_readOperand_31 rfl (by decide) (ls' := [(3, .int (nI 1)), (0, .ref 5), (1, .int (nI n)), (2, .int (nI 0))]) rfl ?_
      refine q_iload_n dX1_readOperand_32 rfl rfl ?_
      refine q_if_eqN (tgt := 46) dX1_readOperand_33 (by decide) (by omega) (fun h => absurd h (by decide)) (fun _ => ?_)
      refine q_aload_n dX1_readOperand_36 rfl rfl rfl ?_
      refine q_dup dX1_readOperand_37 rfl ?_
      refine q_geti (x := nI k) dX1_readOperand_38 fX1_38 rfl (ty_c hS (by decide) rfl) hk ?_
      refine q_iconst (v := nI 1) dX1_readOperand_41 rfl ?_
      refine q_iaddN dX1_readOperand_42 ?_
      refine q_puti dX1_readOperand_43 fX1_38 rfl (Or.inl rfl) (ty_c hS (by decide) rfl) ?_
      refine q_aload_n dX1_readOperand_46 rfl rfl rfl ?_
      refine q_bipush (v := nI 6) dX1_readOperand_47 rfl ?_
      refine q_callV (As := [.int (nI 6)]) (rest := []) dX1_readOperand_49 vX1_48 (ty_c hS (by decide) rfl) ⟨by decide, rfl⟩ (z1_isNow_f (σ := (uI σ 5 3 (nI (k + 1)))) hS (PCt.u hC (by omega)) uI_self (by omega) (by decide) x3) rfl rfl (Nat.le_of_ble_eq_true rfl) (by omega) (by omega) (by omega) (k_p ?_)
      refine q_if_eqB (tgt := 94) dX1_readOperand_52 (by decide) (fun _ => ?_) (fun h => absurd h (by decide))
      refine q_aload_n dX1_readOperand_94 rfl rfl rfl ?_
      refine q_iconst (v := nI 3) dX1_readOperand_95 rfl ?_
      refine q_callV (As := [.int (nI 3)]) (rest := []) dX1_readOperand_96 vX1_48 (ty_c hS (by decide) rfl) ⟨by decide, rfl⟩ (z1_isNow (σ := (uI σ 5 3 (nI (k + 1)))) hS (PCt.u hC (by omega)) uI_self (by omega) (by decide)) rfl rfl (Nat.le_of_ble_eq_true rfl) (by omega) (by omega) (by omega) (k_p ?_)
      refine q_if_eqB (tgt := 162) dX1_readOperand_99 (by decide) (fun c99 => ?_) (fun c99 => ?_)
      · skip
        refine q_aload_n dX1_readOperand_162 rfl rfl rfl ?_
        refine q_iconst (v := nI 2) dX1_readOperand_163 rfl ?_
        refine q_callV (As := [.int (nI 2)]) (rest := []) dX1_readOperand_164 vX1_55 (ty_c hS (by decide) rfl) ⟨by decide, rfl⟩ (z1_refuse (σ := (uI σ 5 3 (nI (k + 1)))) hS (PCt.u hC (by omega)) uI_self (by omega)) rfl rfl (Nat.le_of_ble_eq_true rfl) (by omega) (by omega) (by omega) (k_p ?_)
        have hbad := BadS.er (b := b) (σ := σ) (σ' := (uI σ 5 3 (nI (k + 1)))) (e := er T L (k + 1) 2) (BFr.uI BFr.rf (by omega))
        refine q_ireturn dX1_readOperand_167 rfl (bi_nar _) (by omega) (by omega) ?_
        exact ⟨rfl, hbad⟩
      · skip
        refine q_iload_n dX1_readOperand_102 rfl rfl ?_
        refine q_if_neN (tgt := 162) dX1_readOperand_103 (by decide) (by omega) (fun _ => ?_) (fun h => absurd h (by decide))
        refine q_aload_n dX1_readOperand_162 rfl rfl rfl ?_
        refine q_iconst (v := nI 2) dX1_readOperand_163 rfl ?_
        refine q_callV (As := [.int (nI 2)]) (rest := []) dX1_readOperand_164 vX1_55 (ty_c hS (by decide) rfl) ⟨by decide, rfl⟩ (z1_refuse (σ := (uI σ 5 3 (nI (k + 1)))) hS (PCt.u hC (by omega)) uI_self (by omega)) rfl rfl (Nat.le_of_ble_eq_true rfl) (by omega) (by omega) (by omega) (k_p ?_)
        have hbad := BadS.er (b := b) (σ := σ) (σ' := (uI σ 5 3 (nI (k + 1)))) (e := er T L (k + 1) 2) (BFr.uI BFr.rf (by omega))
        refine q_ireturn dX1_readOperand_167 rfl (bi_nar _) (by omega) (by omega) ?_
        exact ⟨rfl, hbad⟩
  · skip
    refine CT.of (by decide) (Nat.le_of_ble_eq_true rfl) ?_
    refine q_aload_n dX1_readOperand_0 rfl rfl rfl ?_
    refine q_bipush (v := nI 7) dX1_readOperand_1 rfl ?_
    refine q_callV (As := [.int (nI 7)]) (rest := []) dX1_readOperand_3 vX1_48 (ty_c hS (by decide) rfl) ⟨by decide, rfl⟩ (z1_isNow hS hC hk (by omega) (by decide)) rfl rfl (Nat.le_of_ble_eq_true rfl) (by omega) (by omega) (by omega) (k_p ?_)
    refine q_if_eqB (tgt := 30) dX1_readOperand_6 (by decide) (fun c6 => ?_) (fun c6 => ?_)
    · skip
      refine q_iconst (v := nI 0) dX1_readOperand_30 rfl ?_
      refine q_istore_n dX1_readOperand_31 rfl (by decide) (ls' := [(3, .int (nI 0)), (0, .ref 5), (1, .int (nI n)), (2, .int (nI 0))]) rfl ?_
      refine q_iload_n dX1_readOperand_32 rfl rfl ?_
      refine q_if_eqN (tgt := 46) dX1_readOperand_33 (by decide) (by omega) (fun _ => ?_) (fun h => absurd h (by decide))
      refine q_aload_n dX1_readOperand_46 rfl rfl rfl ?_
      refine q_bipush (v := nI 6) dX1_readOperand_47 rfl ?_
      refine q_callV (As := [.int (nI 6)]) (rest := []) dX1_readOperand_49 vX1_48 (ty_c hS (by decide) rfl) ⟨by decide, rfl⟩ (z1_isNow_f hS hC hk (by omega) (by decide) x2) rfl rfl (Nat.le_of_ble_eq_true rfl) (by omega) (by omega) (by omega) (k_p ?_)
      refine q_if_eqB (tgt := 94) dX1_readOperand_52 (by decide) (fun _ => ?_) (fun h => absurd h (by decide))
      refine q_aload_n dX1_readOperand_94 rfl rfl rfl ?_
      refine q_iconst (v := nI 3) dX1_readOperand_95 rfl ?_
      refine q_callV (As := [.int (nI 3)]) (rest := []) dX1_readOperand_96 vX1_48 (ty_c hS (by decide) rfl) ⟨by decide, rfl⟩ (z1_isNow_f hS hC hk (by omega) (by decide) x3) rfl rfl (Nat.le_of_ble_eq_true rfl) (by omega) (by omega) (by omega) (k_p ?_)
      refine q_if_eqB (tgt := 162) dX1_readOperand_99 (by decide) (fun _ => ?_) (fun h => absurd h (by decide))
      refine q_aload_n dX1_readOperand_162 rfl rfl rfl ?_
      refine q_iconst (v := nI 2) dX1_readOperand_163 rfl ?_
      refine q_callV (As := [.int (nI 2)]) (rest := []) dX1_readOperand_164 vX1_55 (ty_c hS (by decide) rfl) ⟨by decide, rfl⟩ (z1_refuse hS hC hk (by omega)) rfl rfl (Nat.le_of_ble_eq_true rfl) (by omega) (by omega) (by omega) (k_p ?_)
      have hbad := BadS.er (b := b) (σ := σ) (σ' := σ) (e := er T L k 2) BFr.rf
      refine q_ireturn dX1_readOperand_167 rfl (bi_nar _) (by omega) (by omega) ?_
      exact ⟨rfl, hbad⟩
    · skip
      refine q_aload_n dX1_readOperand_9 rfl rfl rfl ?_
      refine q_getr (r := 6) dX1_readOperand_10 fX1_12 rfl (ty_c hS (by decide) rfl) (hS.2 5 0 6 rfl) ?_
      refine q_getr (r := 8) dX1_readOperand_13 fX1_73 rfl (ty_c hS (by decide) rfl) (hS.2 6 1 8 rfl) ?_
      refine q_aload_n dX1_readOperand_16 rfl rfl rfl ?_
      refine q_geti (x := nI k) dX1_readOperand_17 fX1_38 rfl (ty_c hS (by decide) rfl) hk ?_
      refine q_iald (x := nI (tv T L k)) (j := k) dX1_readOperand_20 (ty_c hS (by decide) rfl) (ix_n (by omega) (by omega)) hv ?_
      refine q_bipush (v := nI 45) dX1_readOperand_21 rfl ?_
      refine q_icmp_neN (tgt := 30) dX1_readOperand_23 (by decide) (by omega) (by omega) (fun c23 => ?_) (fun c23 => ?_)
      · skip
        refine q_iconst (v := nI 0) dX1_readOperand_30 rfl ?_
        refine q_istore_n dX1_readOperand_31 rfl (by decide) (ls' := [(3, .int (nI 0)), (0, .ref 5), (1, .int (nI n)), (2, .int (nI 0))]) rfl ?_
        refine q_iload_n dX1_readOperand_32 rfl rfl ?_
        refine q_if_eqN (tgt := 46) dX1_readOperand_33 (by decide) (by omega) (fun _ => ?_) (fun h => absurd h (by decide))
        refine q_aload_n dX1_readOperand_46 rfl rfl rfl ?_
        refine q_bipush (v := nI 6) dX1_readOperand_47 rfl ?_
        refine q_callV (As := [.int (nI 6)]) (rest := []) dX1_readOperand_49 vX1_48 (ty_c hS (by decide) rfl) ⟨by decide, rfl⟩ (z1_isNow_f hS hC hk (by omega) (by decide) x2) rfl rfl (Nat.le_of_ble_eq_true rfl) (by omega) (by omega) (by omega) (k_p ?_)
        refine q_if_eqB (tgt := 94) dX1_readOperand_52 (by decide) (fun _ => ?_) (fun h => absurd h (by decide))
        refine q_aload_n dX1_readOperand_94 rfl rfl rfl ?_
        refine q_iconst (v := nI 3) dX1_readOperand_95 rfl ?_
        refine q_callV (As := [.int (nI 3)]) (rest := []) dX1_readOperand_96 vX1_48 (ty_c hS (by decide) rfl) ⟨by decide, rfl⟩ (z1_isNow_f hS hC hk (by omega) (by decide) x3) rfl rfl (Nat.le_of_ble_eq_true rfl) (by omega) (by omega) (by omega) (k_p ?_)
        refine q_if_eqB (tgt := 162) dX1_readOperand_99 (by decide) (fun _ => ?_) (fun h => absurd h (by decide))
        refine q_aload_n dX1_readOperand_162 rfl rfl rfl ?_
        refine q_iconst (v := nI 2) dX1_readOperand_163 rfl ?_
        refine q_callV (As := [.int (nI 2)]) (rest := []) dX1_readOperand_164 vX1_55 (ty_c hS (by decide) rfl) ⟨by decide, rfl⟩ (z1_refuse hS hC hk (by omega)) rfl rfl (Nat.le_of_ble_eq_true rfl) (by omega) (by omega) (by omega) (k_p ?_)
        have hbad := BadS.er (b := b) (σ := σ) (σ' := σ) (e := er T L k 2) BFr.rf
        refine q_ireturn dX1_readOperand_167 rfl (bi_nar _) (by omega) (by omega) ?_
        exact ⟨rfl, hbad⟩
      · exact absurd ⟨of_decide_eq_true c6, c23⟩ x1

theorem z1_readWay_ok0 {g : GG} {σ : HS} (hS : SK σ) {b : Nat} (hb : RB σ b) (hR : sR σ 5 5 = b) {T : Nat → Nat} {L N k n nb : Nat} (hn : n < 240) (hC : PCt σ T L N) (hk : sI σ 5 3 = nI k) (hkN : k ≤ N) (hnb : sI σ b 12 = nI nb) (h1 : 1 ≤ nb) (h40 : nb ≤ 40) (hx : tk T L k = 5) : CT g mX1_readWay 2 0 0 [.ref 5, .int (nI n), .int (nI 0)] σ (PQ (uI (uI (uI σ (b + 9) n (nI (tv T L k))) 12 (nb - 1) (nI (ts T L k))) 5 3 (nI (k + 1))) (.int (bi true))) := by
  have hb14 : b = 14 ∨ 99 ≤ b := by rcases hb.1 with h | ⟨j, h⟩ <;> omega
  obtain ⟨h6, h2, h3, h4, h5⟩ := id hC
  have hv := (h5 k (by omega)).2.1
  have hp := (h5 k (by omega)).2.2
  refine CT.of (by decide) (Nat.le_of_ble_eq_true rfl) ?_
  refine q_aload_n dX1_readWay_0 rfl rfl rfl ?_
  refine q_iconst (v := nI 5) dX1_readWay_1 rfl ?_
  refine q_callV (As := [.int (nI 5)]) (rest := []) dX1_readWay_2 vX1_48 (ty_c hS (by decide) rfl) ⟨by decide, rfl⟩ (z1_isNow_t hS hC hk (by omega) (by decide) hx) rfl rfl (Nat.le_of_ble_eq_true rfl) (by omega) (by omega) (by omega) (k_p ?_)
  refine q_if_neB (tgt := 14) dX1_readWay_5 (by decide) (fun _ => ?_) (fun h => absurd h (by decide))
  refine q_aload_n dX1_readWay_14 rfl rfl rfl ?_
  refine q_getr (r := b) dX1_readWay_15 fX1_30 rfl (ty_c hS (by decide) rfl) hR ?_
  refine q_getr (r := b + 8) dX1_readWay_18 fX1_133 rfl (ty_r hb 0 rfl) (hb.2.2 0 5 8 rfl) ?_
  refine q_iload_n dX1_readWay_21 rfl rfl ?_
  refine q_aald (r := b + 9) (j := 0) dX1_readWay_22 (ty_r hb 8 rfl) (Or.inl rfl) (ix_n (by omega) (by omega)) (hb.2.2 8 0 9 rfl) ?_
  refine q_iload_n dX1_readWay_23 rfl rfl ?_
  refine q_aload_n dX1_readWay_24 rfl rfl rfl ?_
  refine q_getr (r := 6) dX1_readWay_25 fX1_12 rfl (ty_c hS (by decide) rfl) (hS.2 5 0 6 rfl) ?_
  refine q_getr (r := 8) dX1_readWay_28 fX1_73 rfl (ty_c hS (by decide) rfl) (hS.2 6 1 8 rfl) ?_
  refine q_aload_n dX1_readWay_31 rfl rfl rfl ?_
  refine q_geti (x := nI k) dX1_readWay_32 fX1_38 rfl (ty_c hS (by decide) rfl) hk ?_
  refine q_iald (x := nI (tv T L k)) (j := k) dX1_readWay_35 (ty_c hS (by decide) rfl) (ix_n (by omega) (by omega)) hv ?_
  refine q_iast (j := n) dX1_readWay_36 (ty_r hb 9 rfl) (ix_n (by omega) (by omega)) ?_
  refine q_aload_n dX1_readWay_37 rfl rfl rfl ?_
  refine q_getr (r := 11) dX1_readWay_38 fX1_24 rfl (ty_c hS (by decide) rfl) (hS.2 5 2 11 rfl) ?_
  refine q_iload_n dX1_readWay_41 rfl rfl ?_
  refine q_aald (r := 12) (j := 0) dX1_readWay_42 (ty_c hS (by decide) rfl) (Or.inl rfl) (ix_n (by omega) (by omega)) (hS.2 11 0 12 rfl) ?_
  refine q_aload_n dX1_readWay_43 rfl rfl rfl ?_
  refine q_getr (r := b) dX1_readWay_44 fX1_30 rfl (ty_c hS (by decide) rfl) hR ?_
  refine q_geti (x := nI nb) dX1_readWay_47 fX1_95 rfl (ty_r hb 0 rfl) (Eq.trans (rd_off (by omega)) hnb) ?_
  refine q_iconst (v := nI 1) dX1_readWay_50 rfl ?_
  refine q_isubN dX1_readWay_51 (by omega) ?_
  refine q_aload_n dX1_readWay_52 rfl rfl rfl ?_
  refine q_getr (r := 6) dX1_readWay_53 fX1_12 rfl (ty_c hS (by decide) rfl) (hS.2 5 0 6 rfl) ?_
  refine q_getr (r := 9) dX1_readWay_56 fX1_76 rfl (ty_c hS (by decide) rfl) (hS.2 6 2 9 rfl) ?_
  refine q_aload_n dX1_readWay_59 rfl rfl rfl ?_
  refine q_geti (x := nI k) dX1_readWay_60 fX1_38 rfl (ty_c hS (by decide) rfl) (Eq.trans (rd_off (by omega)) hk) ?_
  refine q_iald (x := nI (ts T L k)) (j := k) dX1_readWay_63 (ty_c hS (by decide) rfl) (ix_n (by omega) (by omega)) (Eq.trans (rd_off (by omega)) hp) ?_
  refine q_iast (j := (nb - 1)) dX1_readWay_64 (ty_c hS (by decide) rfl) (ix_n (by omega) (by omega)) ?_
  refine q_aload_n dX1_readWay_65 rfl rfl rfl ?_
  refine q_dup dX1_readWay_66 rfl ?_
  refine q_geti (x := nI k) dX1_readWay_67 fX1_38 rfl (ty_c hS (by decide) rfl) (Eq.trans (rd_off (by decide)) (Eq.trans (rd_off (by omega)) hk)) ?_
  refine q_iconst (v := nI 1) dX1_readWay_70 rfl ?_
  refine q_iaddN dX1_readWay_71 ?_
  refine q_puti dX1_readWay_72 fX1_38 rfl (Or.inl rfl) (ty_c hS (by decide) rfl) ?_
  refine q_iconst (v := nI 1) dX1_readWay_75 rfl ?_
  refine q_ireturn dX1_readWay_76 rfl rfl (by omega) (by omega) ?_
  exact ⟨rfl, rfl⟩
theorem z1_readWay_er0 {g : GG} {σ : HS} (hS : SK σ) {b : Nat} {T : Nat → Nat} {L N k n : Nat} (hn : n < 240) (hC : PCt σ T L N) (hk : sI σ 5 3 = nI k) (hkN : k ≤ N) (hx : tk T L k ≠ 5) : CT g mX1_readWay 2 0 0 [.ref 5, .int (nI n), .int (nI 0)] σ (WQ (.int (bi false)) (fun σ' => BadS b σ σ' (er T L k 2))) := by
  obtain ⟨h6, h2, h3, h4, h5⟩ := id hC
  refine CT.of (by decide) (Nat.le_of_ble_eq_true rfl) ?_
  refine q_aload_n dX1_readWay_0 rfl rfl rfl ?_
  refine q_iconst (v := nI 5) dX1_readWay_1 rfl ?_
  refine q_callV (As := [.int (nI 5)]) (rest := []) dX1_readWay_2 vX1_48 (ty_c hS (by decide) rfl) ⟨by decide, rfl⟩ (z1_isNow_f hS hC hk (by omega) (by decide) hx) rfl rfl (Nat.le_of_ble_eq_true rfl) (by omega) (by omega) (by omega) (k_p ?_)
  refine q_if_neB (tgt := 14) dX1_readWay_5 (by decide) (fun h => absurd h (by decide)) (fun _ => ?_)
  refine q_aload_n dX1_readWay_8 rfl rfl rfl ?_
  refine q_iconst (v := nI 2) dX1_readWay_9 rfl ?_
  refine q_callV (As := [.int (nI 2)]) (rest := []) dX1_readWay_10 vX1_55 (ty_c hS (by decide) rfl) ⟨by decide, rfl⟩ (z1_refuse hS hC hk (by omega)) rfl rfl (Nat.le_of_ble_eq_true rfl) (by omega) (by omega) (by omega) (k_p ?_)
  have hbad := BadS.er (b := b) (σ := σ) (σ' := σ) (e := er T L k 2) BFr.rf
  refine q_ireturn dX1_readWay_13 rfl (bi_nar _) (by omega) (by omega) ?_
  exact ⟨rfl, hbad⟩

theorem z1_readOperand_er1 {g : GG} {σ : HS} (hS : SK σ) {b : Nat} (hR : sR σ 5 5 = b) {T : Nat → Nat} {L N k n : Nat} (hn : n < 240) (hC : PCt σ T L N) (hT : ∀ i, i < L → T i < 256) (hk : sI σ 5 3 = nI k) (hkN : k ≤ N) {e : Nat × Nat} (hx : pOp T L k = .error e) : CT g mX1_readOperand 2 0 0 [.ref 5, .int (nI n), .int (nI 1)] σ (WQ (.int (bi false)) (fun σ' => BadS b σ σ' e)) := by
  obtain ⟨h6, h2, h3, h4, h5⟩ := id hC
  have hv := (h5 k (by omega)).2.1
  have hvb := tv_b (k := k) hT
  rcases pOp_er hx with ⟨x1, x2, x3, rfl⟩ | ⟨x1, x2, x3, rfl⟩
  · have hlt := tk_lt h4 (k := k) (by omega)
    refine CT.of (by decide) (Nat.le_of_ble_eq_true rfl) ?_
    refine q_aload_n dX1_readOperand_0 rfl rfl rfl ?_
    refine q_bipush (v := nI 7) dX1_readOperand_1 rfl ?_
    refine q_callV (As := [.int (nI 7)]) (rest := []) dX1_readOperand_3 vX1_48 (ty_c hS (by decide) rfl) ⟨by decide, rfl⟩ (z1_isNow_t hS hC hk (by omega) (by decide) x1) rfl rfl (Nat.le_of_ble_eq_true rfl) (by omega) (by omega) (by omega) (k_p ?_)
    refine q_if_eqB (tgt := 30) dX1_readOperand_6 (by decide) (fun h => absurd h (by decide)) (fun _ => ?_)
    refine q_aload_n dX1_readOperand_9 rfl rfl rfl ?_
    refine q_getr (r := 6) dX1_readOperand_10 fX1_12 rfl (ty_c hS (by decide) rfl) (hS.2 5 0 6 rfl) ?_
    refine q_getr (r := 8) dX1_readOperand_13 fX1_73 rfl (ty_c hS (by decide) rfl) (hS.2 6 1 8 rfl) ?_
    refine q_aload_n dX1_readOperand_16 rfl rfl rfl ?_
    refine q_geti (x := nI k) dX1_readOperand_17 fX1_38 rfl (ty_c hS (by decide) rfl) hk ?_
    refine q_iald (x := nI (tv T L k)) (j := k) dX1_readOperand_20 (ty_c hS (by decide) rfl) (ix_n (by omega) (by omega)) hv ?_
    refine q_bipush (v := nI 45) dX1_readOperand_21 rfl ?_
    refine q_icmp_neN (tgt := 30) dX1_readOperand_23 (by decide) (by omega) (by omega) (fun c23 => ?_) (fun c23 => ?_)
    · exact absurd x2 (by omega)
    · skip
      refine q_iconst (v := nI 1) dX1_readOperand_26 rfl ?_
      refine q_goto (tgt := 31) dX1_readOperand_27 (by decide) ?_
      refine q_istore_n dX1_readOperand_31 rfl (by decide) (ls' := [(3, .int (nI 1)), (0, .ref 5), (1, .int (nI n)), (2, .int (nI 1))]) rfl ?_
      refine q_iload_n dX1_readOperand_32 rfl rfl ?_
      refine q_if_eqN (tgt := 46) dX1_readOperand_33 (by decide) (by omega) (fun h => absurd h (by decide)) (fun _ => ?_)
      refine q_aload_n dX1_readOperand_36 rfl rfl rfl ?_
      refine q_dup dX1_readOperand_37 rfl ?_
      refine q_geti (x := nI k) dX1_readOperand_38 fX1_38 rfl (ty_c hS (by decide) rfl) hk ?_
      refine q_iconst (v := nI 1) dX1_readOperand_41 rfl ?_
      refine q_iaddN dX1_readOperand_42 ?_
      refine q_puti dX1_readOperand_43 fX1_38 rfl (Or.inl rfl) (ty_c hS (by decide) rfl) ?_
      refine q_aload_n dX1_readOperand_46 rfl rfl rfl ?_
      refine q_bipush (v := nI 6) dX1_readOperand_47 rfl ?_
      refine q_callV (As := [.int (nI 6)]) (rest := []) dX1_readOperand_49 vX1_48 (ty_c hS (by decide) rfl) ⟨by decide, rfl⟩ (z1_isNow_f (σ := (uI σ 5 3 (nI (k + 1)))) hS (PCt.u hC (by omega)) uI_self (by omega) (by decide) x3) rfl rfl (Nat.le_of_ble_eq_true rfl) (by omega) (by omega) (by omega) (k_p ?_)
      refine q_if_eqB (tgt := 94) dX1_readOperand_52 (by decide) (fun _ => ?_) (fun h => absurd h (by decide))
      refine q_aload_n dX1_readOperand_94 rfl rfl rfl ?_
      refine q_iconst (v := nI 3) dX1_readOperand_95 rfl ?_
      refine q_callV (As := [.int (nI 3)]) (rest := []) dX1_readOperand_96 vX1_48 (ty_c hS (by decide) rfl) ⟨by decide, rfl⟩ (z1_isNow (σ := (uI σ 5 3 (nI (k + 1)))) hS (PCt.u hC (by omega)) uI_self (by omega) (by decide)) rfl rfl (Nat.le_of_ble_eq_true rfl) (by omega) (by omega) (by omega) (k_p ?_)
      refine q_if_eqB (tgt := 162) dX1_readOperand_99 (by decide) (fun c99 => ?_) (fun c99 => ?_)
      · skip
        refine q_aload_n dX1_readOperand_162 rfl rfl rfl ?_
        refine q_iconst (v := nI 2) dX1_readOperand_163 rfl ?_
        refine q_callV (As := [.int (nI 2)]) (rest := []) dX1_readOperand_164 vX1_55 (ty_c hS (by decide) rfl) ⟨by decide, rfl⟩ (z1_refuse (σ := (uI σ 5 3 (nI (k + 1)))) hS (PCt.u hC (by omega)) uI_self (by omega)) rfl rfl (Nat.le_of_ble_eq_true rfl) (by omega) (by omega) (by omega) (k_p ?_)
        have hbad := BadS.er (b := b) (σ := σ) (σ' := (uI σ 5 3 (nI (k + 1)))) (e := er T L (k + 1) 2) (BFr.uI BFr.rf (by omega))
        refine q_ireturn dX1_readOperand_167 rfl (bi_nar _) (by omega) (by omega) ?_
        exact ⟨rfl, hbad⟩
      · skip
        refine q_iload_n dX1_readOperand_102 rfl rfl ?_
        refine q_if_neN (tgt := 162) dX1_readOperand_103 (by decide) (by omega) (fun _ => ?_) (fun h => absurd h (by decide))
        refine q_aload_n dX1_readOperand_162 rfl rfl rfl ?_
        refine q_iconst (v := nI 2) dX1_readOperand_163 rfl ?_
        refine q_callV (As := [.int (nI 2)]) (rest := []) dX1_readOperand_164 vX1_55 (ty_c hS (by decide) rfl) ⟨by decide, rfl⟩ (z1_refuse (σ := (uI σ 5 3 (nI (k + 1)))) hS (PCt.u hC (by omega)) uI_self (by omega)) rfl rfl (Nat.le_of_ble_eq_true rfl) (by omega) (by omega) (by omega) (k_p ?_)
        have hbad := BadS.er (b := b) (σ := σ) (σ' := (uI σ 5 3 (nI (k + 1)))) (e := er T L (k + 1) 2) (BFr.uI BFr.rf (by omega))
        refine q_ireturn dX1_readOperand_167 rfl (bi_nar _) (by omega) (by omega) ?_
        exact ⟨rfl, hbad⟩
  · skip
    refine CT.of (by decide) (Nat.le_of_ble_eq_true rfl) ?_
    refine q_aload_n dX1_readOperand_0 rfl rfl rfl ?_
    refine q_bipush (v := nI 7) dX1_readOperand_1 rfl ?_
    refine q_callV (As := [.int (nI 7)]) (rest := []) dX1_readOperand_3 vX1_48 (ty_c hS (by decide) rfl) ⟨by decide, rfl⟩ (z1_isNow hS hC hk (by omega) (by decide)) rfl rfl (Nat.le_of_ble_eq_true rfl) (by omega) (by omega) (by omega) (k_p ?_)
    refine q_if_eqB (tgt := 30) dX1_readOperand_6 (by decide) (fun c6 => ?_) (fun c6 => ?_)
    · skip
      refine q_iconst (v := nI 0) dX1_readOperand_30 rfl ?_
      refine q_istore_n dX1_readOperand_31 rfl (by decide) (ls' := [(3, .int (nI 0)), (0, .ref 5), (1, .int (nI n)), (2, .int (nI 1))]) rfl ?_
      refine q_iload_n dX1_readOperand_32 rfl rfl ?_
      refine q_if_eqN (tgt := 46) dX1_readOperand_33 (by decide) (by omega) (fun _ => ?_) (fun h => absurd h (by decide))
      refine q_aload_n dX1_readOperand_46 rfl rfl rfl ?_
      refine q_bipush (v := nI 6) dX1_readOperand_47 rfl ?_
      refine q_callV (As := [.int (nI 6)]) (rest := []) dX1_readOperand_49 vX1_48 (ty_c hS (by decide) rfl) ⟨by decide, rfl⟩ (z1_isNow_f hS hC hk (by omega) (by decide) x2) rfl rfl (Nat.le_of_ble_eq_true rfl) (by omega) (by omega) (by omega) (k_p ?_)
      refine q_if_eqB (tgt := 94) dX1_readOperand_52 (by decide) (fun _ => ?_) (fun h => absurd h (by decide))
      refine q_aload_n dX1_readOperand_94 rfl rfl rfl ?_
      refine q_iconst (v := nI 3) dX1_readOperand_95 rfl ?_
      refine q_callV (As := [.int (nI 3)]) (rest := []) dX1_readOperand_96 vX1_48 (ty_c hS (by decide) rfl) ⟨by decide, rfl⟩ (z1_isNow_f hS hC hk (by omega) (by decide) x3) rfl rfl (Nat.le_of_ble_eq_true rfl) (by omega) (by omega) (by omega) (k_p ?_)
      refine q_if_eqB (tgt := 162) dX1_readOperand_99 (by decide) (fun _ => ?_) (fun h => absurd h (by decide))
      refine q_aload_n dX1_readOperand_162 rfl rfl rfl ?_
      refine q_iconst (v := nI 2) dX1_readOperand_163 rfl ?_
      refine q_callV (As := [.int (nI 2)]) (rest := []) dX1_readOperand_164 vX1_55 (ty_c hS (by decide) rfl) ⟨by decide, rfl⟩ (z1_refuse hS hC hk (by omega)) rfl rfl (Nat.le_of_ble_eq_true rfl) (by omega) (by omega) (by omega) (k_p ?_)
      have hbad := BadS.er (b := b) (σ := σ) (σ' := σ) (e := er T L k 2) BFr.rf
      refine q_ireturn dX1_readOperand_167 rfl (bi_nar _) (by omega) (by omega) ?_
      exact ⟨rfl, hbad⟩
    · skip
      refine q_aload_n dX1_readOperand_9 rfl rfl rfl ?_
      refine q_getr (r := 6) dX1_readOperand_10 fX1_12 rfl (ty_c hS (by decide) rfl) (hS.2 5 0 6 rfl) ?_
      refine q_getr (r := 8) dX1_readOperand_13 fX1_73 rfl (ty_c hS (by decide) rfl) (hS.2 6 1 8 rfl) ?_
      refine q_aload_n dX1_readOperand_16 rfl rfl rfl ?_
      refine q_geti (x := nI k) dX1_readOperand_17 fX1_38 rfl (ty_c hS (by decide) rfl) hk ?_
      refine q_iald (x := nI (tv T L k)) (j := k) dX1_readOperand_20 (ty_c hS (by decide) rfl) (ix_n (by omega) (by omega)) hv ?_
      refine q_bipush (v := nI 45) dX1_readOperand_21 rfl ?_
      refine q_icmp_neN (tgt := 30) dX1_readOperand_23 (by decide) (by omega) (by omega) (fun c23 => ?_) (fun c23 => ?_)
      · skip
        refine q_iconst (v := nI 0) dX1_readOperand_30 rfl ?_
        refine q_istore_n dX1_readOperand_31 rfl (by decide) (ls' := [(3, .int (nI 0)), (0, .ref 5), (1, .int (nI n)), (2, .int (nI 1))]) rfl ?_
        refine q_iload_n dX1_readOperand_32 rfl rfl ?_
        refine q_if_eqN (tgt := 46) dX1_readOperand_33 (by decide) (by omega) (fun _ => ?_) (fun h => absurd h (by decide))
        refine q_aload_n dX1_readOperand_46 rfl rfl rfl ?_
        refine q_bipush (v := nI 6) dX1_readOperand_47 rfl ?_
        refine q_callV (As := [.int (nI 6)]) (rest := []) dX1_readOperand_49 vX1_48 (ty_c hS (by decide) rfl) ⟨by decide, rfl⟩ (z1_isNow_f hS hC hk (by omega) (by decide) x2) rfl rfl (Nat.le_of_ble_eq_true rfl) (by omega) (by omega) (by omega) (k_p ?_)
        refine q_if_eqB (tgt := 94) dX1_readOperand_52 (by decide) (fun _ => ?_) (fun h => absurd h (by decide))
        refine q_aload_n dX1_readOperand_94 rfl rfl rfl ?_
        refine q_iconst (v := nI 3) dX1_readOperand_95 rfl ?_
        refine q_callV (As := [.int (nI 3)]) (rest := []) dX1_readOperand_96 vX1_48 (ty_c hS (by decide) rfl) ⟨by decide, rfl⟩ (z1_isNow_f hS hC hk (by omega) (by decide) x3) rfl rfl (Nat.le_of_ble_eq_true rfl) (by omega) (by omega) (by omega) (k_p ?_)
        refine q_if_eqB (tgt := 162) dX1_readOperand_99 (by decide) (fun _ => ?_) (fun h => absurd h (by decide))
        refine q_aload_n dX1_readOperand_162 rfl rfl rfl ?_
        refine q_iconst (v := nI 2) dX1_readOperand_163 rfl ?_
        refine q_callV (As := [.int (nI 2)]) (rest := []) dX1_readOperand_164 vX1_55 (ty_c hS (by decide) rfl) ⟨by decide, rfl⟩ (z1_refuse hS hC hk (by omega)) rfl rfl (Nat.le_of_ble_eq_true rfl) (by omega) (by omega) (by omega) (k_p ?_)
        have hbad := BadS.er (b := b) (σ := σ) (σ' := σ) (e := er T L k 2) BFr.rf
        refine q_ireturn dX1_readOperand_167 rfl (bi_nar _) (by omega) (by omega) ?_
        exact ⟨rfl, hbad⟩
      · exact absurd ⟨of_decide_eq_true c6, c23⟩ x1

theorem z1_readWay_ok1 {g : GG} {σ : HS} (hS : SK σ) {b : Nat} (hb : RB σ b) (hR : sR σ 5 5 = b) {T : Nat → Nat} {L N k n nb : Nat} (hn : n < 240) (hC : PCt σ T L N) (hk : sI σ 5 3 = nI k) (hkN : k ≤ N) (hnb : sI σ b 12 = nI nb) (h1 : 1 ≤ nb) (h40 : nb ≤ 40) (hx : tk T L k = 5) : CT g mX1_readWay 2 0 0 [.ref 5, .int (nI n), .int (nI 1)] σ (PQ (uI (uI (uI σ (b + 10) n (nI (tv T L k))) 13 (nb - 1) (nI (ts T L k))) 5 3 (nI (k + 1))) (.int (bi true))) := by
  have hb14 : b = 14 ∨ 99 ≤ b := by rcases hb.1 with h | ⟨j, h⟩ <;> omega
  obtain ⟨h6, h2, h3, h4, h5⟩ := id hC
  have hv := (h5 k (by omega)).2.1
  have hp := (h5 k (by omega)).2.2
  refine CT.of (by decide) (Nat.le_of_ble_eq_true rfl) ?_
  refine q_aload_n dX1_readWay_0 rfl rfl rfl ?_
  refine q_iconst (v := nI 5) dX1_readWay_1 rfl ?_
  refine q_callV (As := [.int (nI 5)]) (rest := []) dX1_readWay_2 vX1_48 (ty_c hS (by decide) rfl) ⟨by decide, rfl⟩ (z1_isNow_t hS hC hk (by omega) (by decide) hx) rfl rfl (Nat.le_of_ble_eq_true rfl) (by omega) (by omega) (by omega) (k_p ?_)
  refine q_if_neB (tgt := 14) dX1_readWay_5 (by decide) (fun _ => ?_) (fun h => absurd h (by decide))
  refine q_aload_n dX1_readWay_14 rfl rfl rfl ?_
  refine q_getr (r := b) dX1_readWay_15 fX1_30 rfl (ty_c hS (by decide) rfl) hR ?_
  refine q_getr (r := b + 8) dX1_readWay_18 fX1_133 rfl (ty_r hb 0 rfl) (hb.2.2 0 5 8 rfl) ?_
  refine q_iload_n dX1_readWay_21 rfl rfl ?_
  refine q_aald (r := b + 10) (j := 1) dX1_readWay_22 (ty_r hb 8 rfl) (Or.inl rfl) (ix_n (by omega) (by omega)) (hb.2.2 8 1 10 rfl) ?_
  refine q_iload_n dX1_readWay_23 rfl rfl ?_
  refine q_aload_n dX1_readWay_24 rfl rfl rfl ?_
  refine q_getr (r := 6) dX1_readWay_25 fX1_12 rfl (ty_c hS (by decide) rfl) (hS.2 5 0 6 rfl) ?_
  refine q_getr (r := 8) dX1_readWay_28 fX1_73 rfl (ty_c hS (by decide) rfl) (hS.2 6 1 8 rfl) ?_
  refine q_aload_n dX1_readWay_31 rfl rfl rfl ?_
  refine q_geti (x := nI k) dX1_readWay_32 fX1_38 rfl (ty_c hS (by decide) rfl) hk ?_
  refine q_iald (x := nI (tv T L k)) (j := k) dX1_readWay_35 (ty_c hS (by decide) rfl) (ix_n (by omega) (by omega)) hv ?_
  refine q_iast (j := n) dX1_readWay_36 (ty_r hb 10 rfl) (ix_n (by omega) (by omega)) ?_
  refine q_aload_n dX1_readWay_37 rfl rfl rfl ?_
  refine q_getr (r := 11) dX1_readWay_38 fX1_24 rfl (ty_c hS (by decide) rfl) (hS.2 5 2 11 rfl) ?_
  refine q_iload_n dX1_readWay_41 rfl rfl ?_
  refine q_aald (r := 13) (j := 1) dX1_readWay_42 (ty_c hS (by decide) rfl) (Or.inl rfl) (ix_n (by omega) (by omega)) (hS.2 11 1 13 rfl) ?_
  refine q_aload_n dX1_readWay_43 rfl rfl rfl ?_
  refine q_getr (r := b) dX1_readWay_44 fX1_30 rfl (ty_c hS (by decide) rfl) hR ?_
  refine q_geti (x := nI nb) dX1_readWay_47 fX1_95 rfl (ty_r hb 0 rfl) (Eq.trans (rd_off (by omega)) hnb) ?_
  refine q_iconst (v := nI 1) dX1_readWay_50 rfl ?_
  refine q_isubN dX1_readWay_51 (by omega) ?_
  refine q_aload_n dX1_readWay_52 rfl rfl rfl ?_
  refine q_getr (r := 6) dX1_readWay_53 fX1_12 rfl (ty_c hS (by decide) rfl) (hS.2 5 0 6 rfl) ?_
  refine q_getr (r := 9) dX1_readWay_56 fX1_76 rfl (ty_c hS (by decide) rfl) (hS.2 6 2 9 rfl) ?_
  refine q_aload_n dX1_readWay_59 rfl rfl rfl ?_
  refine q_geti (x := nI k) dX1_readWay_60 fX1_38 rfl (ty_c hS (by decide) rfl) (Eq.trans (rd_off (by omega)) hk) ?_
  refine q_iald (x := nI (ts T L k)) (j := k) dX1_readWay_63 (ty_c hS (by decide) rfl) (ix_n (by omega) (by omega)) (Eq.trans (rd_off (by omega)) hp) ?_
  refine q_iast (j := (nb - 1)) dX1_readWay_64 (ty_c hS (by decide) rfl) (ix_n (by omega) (by omega)) ?_
  refine q_aload_n dX1_readWay_65 rfl rfl rfl ?_
  refine q_dup dX1_readWay_66 rfl ?_
  refine q_geti (x := nI k) dX1_readWay_67 fX1_38 rfl (ty_c hS (by decide) rfl) (Eq.trans (rd_off (by decide)) (Eq.trans (rd_off (by omega)) hk)) ?_
  refine q_iconst (v := nI 1) dX1_readWay_70 rfl ?_
  refine q_iaddN dX1_readWay_71 ?_
  refine q_puti dX1_readWay_72 fX1_38 rfl (Or.inl rfl) (ty_c hS (by decide) rfl) ?_
  refine q_iconst (v := nI 1) dX1_readWay_75 rfl ?_
  refine q_ireturn dX1_readWay_76 rfl rfl (by omega) (by omega) ?_
  exact ⟨rfl, rfl⟩
theorem z1_readWay_er1 {g : GG} {σ : HS} (hS : SK σ) {b : Nat} {T : Nat → Nat} {L N k n : Nat} (hn : n < 240) (hC : PCt σ T L N) (hk : sI σ 5 3 = nI k) (hkN : k ≤ N) (hx : tk T L k ≠ 5) : CT g mX1_readWay 2 0 0 [.ref 5, .int (nI n), .int (nI 1)] σ (WQ (.int (bi false)) (fun σ' => BadS b σ σ' (er T L k 2))) := by
  obtain ⟨h6, h2, h3, h4, h5⟩ := id hC
  refine CT.of (by decide) (Nat.le_of_ble_eq_true rfl) ?_
  refine q_aload_n dX1_readWay_0 rfl rfl rfl ?_
  refine q_iconst (v := nI 5) dX1_readWay_1 rfl ?_
  refine q_callV (As := [.int (nI 5)]) (rest := []) dX1_readWay_2 vX1_48 (ty_c hS (by decide) rfl) ⟨by decide, rfl⟩ (z1_isNow_f hS hC hk (by omega) (by decide) hx) rfl rfl (Nat.le_of_ble_eq_true rfl) (by omega) (by omega) (by omega) (k_p ?_)
  refine q_if_neB (tgt := 14) dX1_readWay_5 (by decide) (fun h => absurd h (by decide)) (fun _ => ?_)
  refine q_aload_n dX1_readWay_8 rfl rfl rfl ?_
  refine q_iconst (v := nI 2) dX1_readWay_9 rfl ?_
  refine q_callV (As := [.int (nI 2)]) (rest := []) dX1_readWay_10 vX1_55 (ty_c hS (by decide) rfl) ⟨by decide, rfl⟩ (z1_refuse hS hC hk (by omega)) rfl rfl (Nat.le_of_ble_eq_true rfl) (by omega) (by omega) (by omega) (k_p ?_)
  have hbad := BadS.er (b := b) (σ := σ) (σ' := σ) (e := er T L k 2) BFr.rf
  refine q_ireturn dX1_readWay_13 rfl (bi_nar _) (by omega) (by omega) ?_
  exact ⟨rfl, hbad⟩

theorem z1_kind {g : GG} {σ : HS} (hS : SK σ) {T : Nat → Nat} {L N k : Nat} (hC : PCt σ T L N) (hk : sI σ 5 3 = nI k) (hkN : k ≤ N) : CT g mX1_kindThatBegins 1 0 0 [.ref 5] σ (PQ σ (.int (match pKd T L k with | some kd => nI kd | none => -1))) := by
  obtain ⟨h6, h2, h3, h4, h5⟩ := id hC
  have hv := (h5 k (by omega)).2.1
  refine CT.of (by decide) (Nat.le_of_ble_eq_true rfl) ?_
  refine q_aload_n dX1_kindThatBegins_0 rfl rfl rfl ?_
  refine q_iconst (v := nI 3) dX1_kindThatBegins_1 rfl ?_
  refine q_callV (As := [.int (nI 3)]) (rest := []) dX1_kindThatBegins_2 vX1_48 (ty_c hS (by decide) rfl) ⟨by decide, rfl⟩ (z1_isNow hS hC hk hkN (by decide)) rfl rfl (Nat.le_of_ble_eq_true rfl) (by omega) (by omega) (by omega) (k_p ?_)
  refine q_if_eqB (tgt := 10) dX1_kindThatBegins_5 (by decide) (fun c5 => ?_) (fun c5 => ?_)
  · skip
    refine q_aload_n dX1_kindThatBegins_10 rfl rfl rfl ?_
    refine q_iconst (v := nI 4) dX1_kindThatBegins_11 rfl ?_
    refine q_callV (As := [.int (nI 4)]) (rest := []) dX1_kindThatBegins_12 vX1_48 (ty_c hS (by decide) rfl) ⟨by decide, rfl⟩ (z1_isNow hS hC hk hkN (by decide)) rfl rfl (Nat.le_of_ble_eq_true rfl) (by omega) (by omega) (by omega) (k_p ?_)
    refine q_if_eqB (tgt := 20) dX1_kindThatBegins_15 (by decide) (fun c15 => ?_) (fun c15 => ?_)
    · skip
      refine q_aload_n dX1_kindThatBegins_20 rfl rfl rfl ?_
      refine q_bipush (v := nI 8) dX1_kindThatBegins_21 rfl ?_
      refine q_callV (As := [.int (nI 8)]) (rest := []) dX1_kindThatBegins_23 vX1_48 (ty_c hS (by decide) rfl) ⟨by decide, rfl⟩ (z1_isNow hS hC hk hkN (by decide)) rfl rfl (Nat.le_of_ble_eq_true rfl) (by omega) (by omega) (by omega) (k_p ?_)
      refine q_if_eqB (tgt := 44) dX1_kindThatBegins_26 (by decide) (fun c26 => ?_) (fun c26 => ?_)
      · skip
        refine q_iconst (v := (-1 : Int32)) dX1_kindThatBegins_44 rfl ?_
        refine q_ireturn dX1_kindThatBegins_45 rfl rfl (by omega) (by omega) ?_
        refine ⟨rfl, ?_⟩
        unfold pKd
        simp_all
      · skip
        refine q_aload_n dX1_kindThatBegins_29 rfl rfl rfl ?_
        refine q_getr (r := 6) dX1_kindThatBegins_30 fX1_12 rfl (ty_c hS (by decide) rfl) (hS.2 5 0 6 rfl) ?_
        refine q_getr (r := 8) dX1_kindThatBegins_33 fX1_73 rfl (ty_c hS (by decide) rfl) (hS.2 6 1 8 rfl) ?_
        refine q_aload_n dX1_kindThatBegins_36 rfl rfl rfl ?_
        refine q_geti (x := nI k) dX1_kindThatBegins_37 fX1_38 rfl (ty_c hS (by decide) rfl) hk ?_
        refine q_iald (x := nI (tv T L k)) (j := k) dX1_kindThatBegins_40 (ty_c hS (by decide) rfl) (ix_n (by omega) (by omega)) hv ?_
        refine q_goto (tgt := 45) dX1_kindThatBegins_41 (by decide) ?_
        refine q_ireturn dX1_kindThatBegins_45 rfl rfl (by omega) (by omega) ?_
        refine ⟨rfl, ?_⟩
        unfold pKd
        simp_all
    · skip
      refine q_iconst (v := nI 2) dX1_kindThatBegins_18 rfl ?_
      refine q_ireturn dX1_kindThatBegins_19 rfl rfl (by omega) (by omega) ?_
      refine ⟨rfl, ?_⟩
      unfold pKd
      simp_all
  · skip
    refine q_iconst (v := nI 1) dX1_kindThatBegins_8 rfl ?_
    refine q_ireturn dX1_kindThatBegins_9 rfl rfl (by omega) (by omega) ?_
    refine ⟨rfl, ?_⟩
    unfold pKd
    simp_all
/-- SUMS ss stand in the Routine at b, too many: m -/
def SR (σ : HS) (b : Nat) (ss : List SUM) (m : Bool) : Prop := sI σ (b + 17) 3 = nI ss.length ∧ ss.length ≤ 32 ∧ sI σ (b + 17) 4 = bi m ∧ ∀ e, e < ss.length → sI σ (b + 18) e = (ss.getD e (0, 0, 0)).1 ∧ sI σ (b + 19) e = (ss.getD e (0, 0, 0)).2.1 ∧ sI σ (b + 20) e = (ss.getD e (0, 0, 0)).2.2
theorem SR.u {σ : HS} {b h i : Nat} {v : Int32} {ss : List SUM} {m : Bool} (k : SR σ b ss m) (hh : h ≠ b + 17 ∧ h ≠ b + 18 ∧ h ≠ b + 19 ∧ h ≠ b + 20) : SR (uI σ h i v) b ss m := by
  obtain ⟨h1, h2, h3, h4⟩ := k
  refine ⟨by rw [rd_off (Ne.symm hh.1)]; exact h1, h2, by rw [rd_off (Ne.symm hh.1)]; exact h3, fun e he => ?_⟩
  rw [rd_off (Ne.symm hh.2.1), rd_off (Ne.symm hh.2.2.1), rd_off (Ne.symm hh.2.2.2)]
  exact h4 e he
/-- the heap behind numberFor -/
def nSumS (σ : HS) (b : Nat) (ss : List SUM) (x : SUM) : HS := match ss.findIdx? (fun y => y == x) with
  | some _ => σ
  | none => if ss.length < 32 then uI (uI (uI (uI σ (b + 18) ss.length x.1) (b + 19) ss.length x.2.1) (b + 20) ss.length x.2.2) (b + 17) 3 (nI (ss.length + 1)) else uI σ (b + 17) 4 (nI 1)
theorem fi_at {ss : List SUM} {x : SUM} {i : Nat} (hi : i < ss.length) (h : ss.getD i (0, 0, 0) = x) (hb : ∀ q, q < i → ss.getD q (0, 0, 0) ≠ x) : ss.findIdx? (fun y => y == x) = some i := by
  rw [List.findIdx?_eq_some_iff_getElem]
  refine ⟨hi, ?_, fun j hj => ?_⟩
  · rw [List.getD_eq_getElem?_getD, List.getElem?_eq_getElem hi] at h
    simpa using h
  · have := hb j hj
    rw [List.getD_eq_getElem?_getD, List.getElem?_eq_getElem (by omega)] at this
    simpa using this
theorem fi_no {ss : List SUM} {x : SUM} (hb : ∀ q, q < ss.length → ss.getD q (0, 0, 0) ≠ x) : ss.findIdx? (fun y => y == x) = none := by
  rw [List.findIdx?_eq_none_iff]
  intro y hy
  obtain ⟨i, hi, rfl⟩ := List.getElem_of_mem hy
  have := hb i hi
  rw [List.getD_eq_getElem?_getD, List.getElem?_eq_getElem hi] at this
  simpa using this
theorem y4_numberFor {g : GG} {σ : HS} {b : Nat} (hb : RB σ b) {ss : List SUM} {m : Bool} (hs : SR σ b ss m) {x : SUM} : ∀ (k i : Nat), i + k = ss.length → (∀ q, q < i → ss.getD q (0, 0, 0) ≠ x) → WA g mX4_numberFor 0 0 0 (ZM g (PQ (nSumS σ b ss x) (.int (nSum ss x).1)) 0 0) 0 0 3 [(0, .ref (b + 17)), (1, .int x.1), (2, .int x.2.1), (3, .int x.2.2), (4, .int (nI i))] [] σ := by
  have hb14 : b = 14 ∨ 99 ≤ b := by rcases hb.1 with h | ⟨j, h⟩ <;> omega
  obtain ⟨h1, h2, h3, h4⟩ := id hs
  intro k
  induction k with
  | zero =>
    intro i hi hq
    have hno := fi_no (ss := ss) (x := x) (fun q h => hq q (by omega))
    refine q_iload dX4_numberFor_3 rfl ?_
    refine q_aload_n dX4_numberFor_5 rfl rfl rfl ?_
    refine q_geti (x := nI ss.length) dX4_numberFor_6 fX4_21 rfl (ty_r hb 17 rfl) h1 ?_
    refine q_icmp_geN (tgt := 54) dX4_numberFor_9 (by decide) (by omega) (by omega) (fun c9 => ?_) (fun c9 => ?_)
    · skip
      refine q_aload_n dX4_numberFor_54 rfl rfl rfl ?_
      refine q_geti (x := nI ss.length) dX4_numberFor_55 fX4_21 rfl (ty_r hb 17 rfl) h1 ?_
      refine q_bipush (v := nI 32) dX4_numberFor_58 rfl ?_
      refine q_icmp_ltN (tgt := 70) dX4_numberFor_60 (by decide) (by omega) (by omega) (fun c60 => ?_) (fun c60 => ?_)
      · skip
        refine q_aload_n dX4_numberFor_70 rfl rfl rfl ?_
        refine q_getr (r := b + 18) dX4_numberFor_71 fX4_9 rfl (ty_r hb 17 rfl) (hb.2.2 17 0 18 rfl) ?_
        refine q_aload_n dX4_numberFor_74 rfl rfl rfl ?_
        refine q_geti (x := nI ss.length) dX4_numberFor_75 fX4_21 rfl (ty_r hb 17 rfl) h1 ?_
        refine q_iload_n dX4_numberFor_78 rfl rfl ?_
        refine q_iast (j := ss.length) dX4_numberFor_79 (ty_r hb 18 rfl) (ix_n (by omega) (by omega)) ?_
        refine q_aload_n dX4_numberFor_80 rfl rfl rfl ?_
        refine q_getr (r := b + 19) dX4_numberFor_81 fX4_15 rfl (ty_r hb 17 rfl) (hb.2.2 17 1 19 rfl) ?_
        refine q_aload_n dX4_numberFor_84 rfl rfl rfl ?_
        refine q_geti (x := nI ss.length) dX4_numberFor_85 fX4_21 rfl (ty_r hb 17 rfl) (Eq.trans (rd_off (by omega)) h1) ?_
        refine q_iload_n dX4_numberFor_88 rfl rfl ?_
        refine q_iast (j := ss.length) dX4_numberFor_89 (ty_r hb 19 rfl) (ix_n (by omega) (by omega)) ?_
        refine q_aload_n dX4_numberFor_90 rfl rfl rfl ?_
        refine q_getr (r := b + 20) dX4_numberFor_91 fX4_18 rfl (ty_r hb 17 rfl) (hb.2.2 17 2 20 rfl) ?_
        refine q_aload_n dX4_numberFor_94 rfl rfl rfl ?_
        refine q_geti (x := nI ss.length) dX4_numberFor_95 fX4_21 rfl (ty_r hb 17 rfl) (Eq.trans (rd_off (by omega)) (Eq.trans (rd_off (by omega)) h1)) ?_
        refine q_iload_n dX4_numberFor_98 rfl rfl ?_
        refine q_iast (j := ss.length) dX4_numberFor_99 (ty_r hb 20 rfl) (ix_n (by omega) (by omega)) ?_
        refine q_aload_n dX4_numberFor_100 rfl rfl rfl ?_
        refine q_dup dX4_numberFor_101 rfl ?_
        refine q_geti (x := nI ss.length) dX4_numberFor_102 fX4_21 rfl (ty_r hb 17 rfl) (Eq.trans (rd_off (by omega)) (Eq.trans (rd_off (by omega)) (Eq.trans (rd_off (by omega)) h1))) ?_
        refine q_dup_x1 dX4_numberFor_105 rfl rfl ?_
        refine q_iconst (v := nI 1) dX4_numberFor_106 rfl ?_
        refine q_iaddN dX4_numberFor_107 ?_
        refine q_puti dX4_numberFor_108 fX4_21 rfl (Or.inl rfl) (ty_r hb 17 rfl) ?_
        refine q_ireturn dX4_numberFor_111 rfl rfl (by omega) (by omega) ?_
        first | (have e1 : nSumS σ b ss x = uI σ (b + 17) 4 (nI 1) := by (unfold nSumS; rw [hno]; exact if_neg (by omega))); (have e2 : (nSum ss x).1 = -1 := by (unfold nSum; rw [hno]; dsimp only; rw [if_neg (by omega)])); rw [e1, e2]; exact ⟨rfl, rfl⟩ | (have e1 : nSumS σ b ss x = uI (uI (uI (uI σ (b + 18) ss.length x.1) (b + 19) ss.length x.2.1) (b + 20) ss.length x.2.2) (b + 17) 3 (nI (ss.length + 1)) := by (unfold nSumS; rw [hno]; exact if_pos (by omega))); (have e2 : (nSum ss x).1 = nI ss.length := by (unfold nSum; rw [hno]; dsimp only; rw [if_pos (by omega)])); rw [e1, e2]; exact ⟨rfl, rfl⟩
      · skip
        refine q_aload_n dX4_numberFor_63 rfl rfl rfl ?_
        refine q_iconst (v := nI 1) dX4_numberFor_64 rfl ?_
        refine q_putz dX4_numberFor_65 fX4_25 rfl (Or.inl rfl) (ty_r hb 17 rfl) (Or.inr rfl) ?_
        refine q_iconst (v := (-1 : Int32)) dX4_numberFor_68 rfl ?_
        refine q_ireturn dX4_numberFor_69 rfl rfl (by omega) (by omega) ?_
        first | (have e1 : nSumS σ b ss x = uI σ (b + 17) 4 (nI 1) := by (unfold nSumS; rw [hno]; exact if_neg (by omega))); (have e2 : (nSum ss x).1 = -1 := by (unfold nSum; rw [hno]; dsimp only; rw [if_neg (by omega)])); rw [e1, e2]; exact ⟨rfl, rfl⟩ | (have e1 : nSumS σ b ss x = uI (uI (uI (uI σ (b + 18) ss.length x.1) (b + 19) ss.length x.2.1) (b + 20) ss.length x.2.2) (b + 17) 3 (nI (ss.length + 1)) := by (unfold nSumS; rw [hno]; exact if_pos (by omega))); (have e2 : (nSum ss x).1 = nI ss.length := by (unfold nSum; rw [hno]; dsimp only; rw [if_pos (by omega)])); rw [e1, e2]; exact ⟨rfl, rfl⟩
    · exact absurd c9 (by omega)
  | succ k ih =>
    intro i hi hq
    obtain ⟨g1, g2, g3⟩ := h4 i (by omega)
    have next : ss.getD i (0, 0, 0) ≠ x → ∀ q, q < i + 1 → ss.getD q (0, 0, 0) ≠ x := fun h q hq2 => by
      by_cases e : q = i
      · rw [e]; exact h
      · exact hq q (by omega)
    refine q_iload dX4_numberFor_3 rfl ?_
    refine q_aload_n dX4_numberFor_5 rfl rfl rfl ?_
    refine q_geti (x := nI ss.length) dX4_numberFor_6 fX4_21 rfl (ty_r hb 17 rfl) h1 ?_
    refine q_icmp_geN (tgt := 54) dX4_numberFor_9 (by decide) (by omega) (by omega) (fun c9 => ?_) (fun c9 => ?_)
    · exact absurd c9 (by omega)
    · skip
      refine q_aload_n dX4_numberFor_12 rfl rfl rfl ?_
      refine q_getr (r := b + 18) dX4_numberFor_13 fX4_9 rfl (ty_r hb 17 rfl) (hb.2.2 17 0 18 rfl) ?_
      refine q_iload dX4_numberFor_16 rfl ?_
      refine q_iald (x := (ss.getD i (0, 0, 0)).1) (j := i) dX4_numberFor_18 (ty_r hb 18 rfl) (ix_n (by omega) (by omega)) g1 ?_
      refine q_iload_n dX4_numberFor_19 rfl rfl ?_
      refine q_icmp_ne (tgt := 48) dX4_numberFor_20 (by decide) (fun c20 => ?_) (fun c20 => ?_)
      · skip
        refine q_iincN (c := 1) dX4_numberFor_48 rfl (by decide) rfl (ls' := [(4, .int (nI (i + 1))), (0, .ref (b + 17)), (1, .int x.1), (2, .int x.2.1), (3, .int x.2.2)]) rfl ?_
        refine q_goto (tgt := 3) dX4_numberFor_51 (by decide) ?_
        refine q_pk [1, 2, 3, 4, 0] (ls' := [(0, .ref (b + 17)), (1, .int x.1), (2, .int x.2.1), (3, .int x.2.2), (4, .int (nI (i + 1)))]) rfl ?_
        refine ih (i + 1) (by omega) (next fun e => ?_)
        first | exact c20 (by rw [e]) | exact c31 (by rw [e]) | exact c42 (by rw [e])
      · skip
        refine q_aload_n dX4_numberFor_23 rfl rfl rfl ?_
        refine q_getr (r := b + 19) dX4_numberFor_24 fX4_15 rfl (ty_r hb 17 rfl) (hb.2.2 17 1 19 rfl) ?_
        refine q_iload dX4_numberFor_27 rfl ?_
        refine q_iald (x := (ss.getD i (0, 0, 0)).2.1) (j := i) dX4_numberFor_29 (ty_r hb 19 rfl) (ix_n (by omega) (by omega)) g2 ?_
        refine q_iload_n dX4_numberFor_30 rfl rfl ?_
        refine q_icmp_ne (tgt := 48) dX4_numberFor_31 (by decide) (fun c31 => ?_) (fun c31 => ?_)
        · skip
          refine q_iincN (c := 1) dX4_numberFor_48 rfl (by decide) rfl (ls' := [(4, .int (nI (i + 1))), (0, .ref (b + 17)), (1, .int x.1), (2, .int x.2.1), (3, .int x.2.2)]) rfl ?_
          refine q_goto (tgt := 3) dX4_numberFor_51 (by decide) ?_
          refine q_pk [1, 2, 3, 4, 0] (ls' := [(0, .ref (b + 17)), (1, .int x.1), (2, .int x.2.1), (3, .int x.2.2), (4, .int (nI (i + 1)))]) rfl ?_
          refine ih (i + 1) (by omega) (next fun e => ?_)
          first | exact c20 (by rw [e]) | exact c31 (by rw [e]) | exact c42 (by rw [e])
        · skip
          refine q_aload_n dX4_numberFor_34 rfl rfl rfl ?_
          refine q_getr (r := b + 20) dX4_numberFor_35 fX4_18 rfl (ty_r hb 17 rfl) (hb.2.2 17 2 20 rfl) ?_
          refine q_iload dX4_numberFor_38 rfl ?_
          refine q_iald (x := (ss.getD i (0, 0, 0)).2.2) (j := i) dX4_numberFor_40 (ty_r hb 20 rfl) (ix_n (by omega) (by omega)) g3 ?_
          refine q_iload_n dX4_numberFor_41 rfl rfl ?_
          refine q_icmp_ne (tgt := 48) dX4_numberFor_42 (by decide) (fun c42 => ?_) (fun c42 => ?_)
          · skip
            refine q_iincN (c := 1) dX4_numberFor_48 rfl (by decide) rfl (ls' := [(4, .int (nI (i + 1))), (0, .ref (b + 17)), (1, .int x.1), (2, .int x.2.1), (3, .int x.2.2)]) rfl ?_
            refine q_goto (tgt := 3) dX4_numberFor_51 (by decide) ?_
            refine q_pk [1, 2, 3, 4, 0] (ls' := [(0, .ref (b + 17)), (1, .int x.1), (2, .int x.2.1), (3, .int x.2.2), (4, .int (nI (i + 1)))]) rfl ?_
            refine ih (i + 1) (by omega) (next fun e => ?_)
            first | exact c20 (by rw [e]) | exact c31 (by rw [e]) | exact c42 (by rw [e])
          · skip
            refine q_iload dX4_numberFor_45 rfl ?_
            refine q_ireturn dX4_numberFor_47 rfl rfl (by omega) (by omega) ?_
            have e0 : ss.getD i (0, 0, 0) = x := Prod.ext c20 (Prod.ext c31 c42)
            have hyes := fi_at (by omega) e0 hq
            have e1 : nSumS σ b ss x = σ := by (unfold nSumS; rw [hyes])
            have e2 : (nSum ss x).1 = nI i := by (unfold nSum; rw [hyes])
            rw [e1, e2]
            exact ⟨rfl, rfl⟩
theorem z4_numberFor {g : GG} {σ : HS} {b : Nat} (hb : RB σ b) {ss : List SUM} {m : Bool} (hs : SR σ b ss m) (x : SUM) : CT g mX4_numberFor 0 0 0 [.ref (b + 17), .int x.1, .int x.2.1, .int x.2.2] σ (PQ (nSumS σ b ss x) (.int (nSum ss x).1)) := by
  refine CT.of (by decide) (Nat.le_of_ble_eq_true rfl) ?_
  refine q_iconst (v := nI 0) dX4_numberFor_0 rfl ?_
  refine q_istore dX4_numberFor_1 (by decide) (ls' := [(4, .int (nI 0)), (0, .ref (b + 17)), (1, .int x.1), (2, .int x.2.1), (3, .int x.2.2)]) rfl ?_
  refine q_pk [1, 2, 3, 4, 0] (ls' := [(0, .ref (b + 17)), (1, .int x.1), (2, .int x.2.1), (3, .int x.2.2), (4, .int (nI 0))]) rfl ?_
  exact y4_numberFor hb hs _ 0 (Nat.zero_add _) (fun q h => absurd h (by omega))
