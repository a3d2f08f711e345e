/-! The class's parser: operands, blocks' names, kinds; SUMS. -/
/-- only the parser's and the Routine's ints changed -/
def BFr (b : Nat) (σ σ' : HS) : Prop := sL σ' = sL σ ∧ sR σ' = sR σ ∧ sN σ' = sN σ ∧ ∀ h, ¬ (h = 5 ∨ h = 10 ∨ h = 12 ∨ h = 13 ∨ (b ≤ h ∧ h < b + 32)) → sI σ' h = sI σ h
theorem BFr.rf {b : Nat} {σ : HS} : BFr b σ σ := ⟨rfl, rfl, rfl, fun _ _ => rfl⟩
theorem BFr.uI {b : Nat} {σ σ' : HS} {h i : Nat} {v : Int32} (k : BFr b σ σ') (hh : h = 5 ∨ h = 10 ∨ h = 12 ∨ h = 13 ∨ (b ≤ h ∧ h < b + 32)) : BFr b σ (uI σ' h i v) := ⟨k.1, k.2.1, k.2.2.1, fun a ha => (uI_off (fun e => ha (by rw [e]; exact hh))).trans (k.2.2.2 a ha)⟩
theorem BFr.tr {b : Nat} {σ σ' σ'' : HS} (k : BFr b σ σ') (k2 : BFr b σ' σ'') : BFr b σ σ'' := ⟨k2.1.trans k.1, k2.2.1.trans k.2.1, k2.2.2.1.trans k.2.2.1, fun a ha => (k2.2.2.2 a ha).trans (k.2.2.2 a ha)⟩
theorem BFr.erS {b : Nat} {σ σ' : HS} {e : Nat × Nat} (k : BFr b σ σ') : BFr b σ (erS σ' e) := (k.uI (Or.inl rfl)).uI (Or.inl rfl)
theorem SK.bf {b : Nat} {σ σ' : HS} (h : BFr b σ σ') (k : SK σ) : SK σ' := ⟨by rw [h.2.2.1]; exact k.1, fun a c q r => by rw [h.2.1]; exact k.2 a c q r⟩
theorem RB.bf {b c : Nat} {σ σ' : HS} (h : BFr b σ σ') (k : RB σ c) : RB σ' c := ⟨k.1, by rw [h.2.2.1]; exact k.2.1, fun o q r w => by rw [h.2.1]; exact k.2.2 o q r w⟩
/-- a FAULT was told -/
def BadS (b : Nat) (σ σ' : HS) (e : Nat × Nat) : Prop := BFr b σ σ' ∧ sI σ' 5 6 = nI e.1 ∧ sI σ' 5 7 = nI e.2
theorem BadS.er {b : Nat} {σ σ' : HS} {e : Nat × Nat} (k : BFr b σ σ') : BadS b σ (erS σ' e) e := ⟨k.erS, (rd_ne (by decide)).trans uI_self, uI_self⟩
theorem BadS.tr {b : Nat} {σ σ' σ'' : HS} {e : Nat × Nat} (k : BFr b σ σ') (h : BadS b σ' σ'' e) : BadS b σ σ'' e := ⟨k.tr h.1, h.2⟩
def WQ (v : Value) (E : HS → Prop) : Option Value → HS → Prop := fun r σ' => r = some v ∧ E σ'
theorem hs_eq {σ τ : HS} (h : ∀ a c, sI σ a c = sI τ a c) (h2 : sL σ = sL τ) (h3 : sR σ = sR τ) (h4 : sN σ = sN τ) : σ = τ := by
  obtain ⟨a, b, c, d⟩ := σ
  obtain ⟨a', b', c', d'⟩ := τ
  have e1 : a = a' := funext fun x => funext fun y => h x y
  have e2 : b = b' := h2
  have e3 : c = c' := h3
  have e4 : d = d' := h4
  subst e1; subst e2; subst e3; subst e4
  rfl
theorem sI_uI {σ : HS} {h i a c : Nat} {v : Int32} : sI (uI σ h i v) a c = if a = h ∧ c = i then v else sI σ a c := rfl
theorem uI_id {σ : HS} {h i : Nat} {v : Int32} (e : sI σ h i = v) : uI σ h i v = σ := hs_eq (fun a c => by
  rw [sI_uI]
  split
  · next q => rw [q.1, q.2, e]
  · rfl) rfl rfl rfl
theorem uI_uI {σ : HS} {h i : Nat} {v w : Int32} : uI (uI σ h i v) h i w = uI σ h i w := hs_eq (fun a c => by
  rw [sI_uI, sI_uI, sI_uI]
  split <;> rfl) rfl rfl rfl
theorem uI_cm {σ : HS} {h i h2 i2 : Nat} {v w : Int32} (hn : h ≠ h2 ∨ i ≠ i2) : uI (uI σ h i v) h2 i2 w = uI (uI σ h2 i2 w) h i v := hs_eq (fun a c => by
  rw [sI_uI, sI_uI, sI_uI, sI_uI]
  by_cases e1 : a = h ∧ c = i
  · rw [if_pos e1, if_pos e1, if_neg (by omega)]
  · rw [if_neg e1, if_neg e1]) rfl rfl rfl
theorem pOp_ok {T : Nat → Nat} {L k k2 : Nat} {o : Int32} {t : Bool} (h : pOp T L k = .ok (o, k2, t)) : (tk T L k = 7 ∧ tv T L k = 45 ∧ tk T L (k + 1) = 6 ∧ o = -(nI (tv T L (k + 1))) ∧ k2 = k + 2 ∧ t = false) ∨ (tk T L k = 6 ∧ o = nI (tv T L k) ∧ k2 = k + 1 ∧ t = false) ∨ (tk T L k = 3 ∧ o = nI (1000000000 + tv T L k) ∧ k2 = k + 1 ∧ t = decide (16 ≤ tv T L k)) := by
  unfold pOp at h
  by_cases h1 : tk T L k = 7 ∧ tv T L k = 45
  · rw [if_pos h1] at h
    by_cases h2 : tk T L (k + 1) = 6
    · rw [if_pos h2] at h
      cases h
      exact Or.inl ⟨h1.1, h1.2, h2, rfl, rfl, rfl⟩
    · rw [if_neg h2] at h
      cases h
  · rw [if_neg h1] at h
    by_cases h2 : tk T L k = 6
    · rw [if_pos h2] at h
      cases h
      exact Or.inr (Or.inl ⟨h2, rfl, rfl, rfl⟩)
    · rw [if_neg h2] at h
      by_cases h3 : tk T L k = 3
      · rw [if_pos h3] at h
        cases h
        exact Or.inr (Or.inr ⟨h3, rfl, rfl, rfl⟩)
      · rw [if_neg h3] at h
        cases h
theorem pOp_er {T : Nat → Nat} {L k : Nat} {e : Nat × Nat} (h : pOp T L k = .error e) : (tk T L k = 7 ∧ tv T L k = 45 ∧ tk T L (k + 1) ≠ 6 ∧ e = er T L (k + 1) 2) ∨ (¬ (tk T L k = 7 ∧ tv T L k = 45) ∧ tk T L k ≠ 6 ∧ tk T L k ≠ 3 ∧ e = er T L k 2) := by
  unfold pOp at h
  by_cases h1 : tk T L k = 7 ∧ tv T L k = 45
  · rw [if_pos h1] at h
    by_cases h2 : tk T L (k + 1) = 6
    · rw [if_pos h2] at h
      cases h
    · rw [if_neg h2] at h
      cases h
      exact Or.inl ⟨h1.1, h1.2, h2, rfl⟩
  · rw [if_neg h1] at h
    by_cases h2 : tk T L k = 6
    · rw [if_pos h2] at h
      cases h
    · rw [if_neg h2] at h
      by_cases h3 : tk T L k = 3
      · rw [if_pos h3] at h
        cases h
      · rw [if_neg h3] at h
        cases h
        exact Or.inr ⟨h1, h2, h3, rfl⟩
/-- behind an operand: its number, whether a t stands in it, the next word, the NODE's place -/
def opS (σ : HS) (b w n : Nat) (o : Int32) (k2 : Nat) (t : Bool) : HS := uI (uI (uI (uI σ 5 4 o) b 16 (bi t)) 5 3 (nI k2)) (b + (5 + w)) n o
theorem bi_or (a : Bool) (p : Prop) (h : p ∨ ¬ p) (hd : Decidable p) : (bi a ||| (if p then nI 1 else nI 0)) = bi (a || decide p) := by
  by_cases q : p
  · rw [if_pos q, decide_eq_true q]; cases a <;> rfl
  · rw [if_neg q, decide_eq_false q]; cases a <;> rfl
theorem bi_o1 (a : Bool) : (bi a ||| nI 1) = bi (a || true) := by cases a <;> rfl
theorem bi_o0 (a : Bool) : (bi a ||| nI 0) = bi (a || false) := by cases a <;> rfl

theorem z1_readOperand_ok0 {g : GG} {σ : HS} (hS : SK σ) {b : Nat} (hb : RB σ b) (hR : sR σ 5 5 = b) {T : Nat → Nat} {L N k n : Nat} (hn : n < 240) (hC : PCt σ T L N) (hT : ∀ i, i < L → T i < 256) (hk : sI σ 5 3 = nI k) (hkN : k ≤ N) {t0 : Bool} (ht : sI σ b 16 = bi t0) {o : Int32} {k2 : Nat} {t : Bool} (hx : pOp T L k = .ok (o, k2, t)) : CT g mX1_readOperand 2 0 0 [.ref 5, .int (nI n), .int (nI 0)] σ (PQ (opS σ b 0 n o k2 (t0 || t)) (.int (bi true))) := by
  have hb14 : b = 14 ∨ 99 ≤ b := by rcases hb.1 with h | ⟨j, h⟩ <;> omega
  obtain ⟨h6, h2, h3, h4, h5⟩ := id hC
  have hv := (h5 k (by omega)).2.1
  have hvb := tv_b (k := k) hT
  rcases pOp_ok hx with ⟨x1, x2, x3, rfl, rfl, rfl⟩ | ⟨x1, rfl, rfl, rfl⟩ | ⟨x1, rfl, rfl, rfl⟩
  · have hlt := tk_lt h4 (k := k + 1) (by omega)
    have hv1 := (h5 (k + 1) (by omega)).2.1
    rw [x2] at hv
    refine CT.of (by decide) (Nat.le_of_ble_eq_true rfl) ?_
    refine q_aload_n dX1_readOperand_0 rfl rfl rfl ?_
    refine q_bipush (v := nI 7) dX1_readOperand_1 rfl ?_
    refine q_callV (As := [.int (nI 7)]) (rest := []) dX1_readOperand_3 vX1_48 (ty_c hS (by decide) rfl) ⟨by decide, rfl⟩ (z1_isNow_t hS hC hk (by omega) (by decide) x1) rfl rfl (Nat.le_of_ble_eq_true rfl) (by omega) (by omega) (by omega) (k_p ?_)
    refine q_if_eqB (tgt := 30) dX1_readOperand_6 (by decide) (fun h => absurd h (by decide)) (fun _ => ?_)
    refine q_aload_n dX1_readOperand_9 rfl rfl rfl ?_
    refine q_getr (r := 6) dX1_readOperand_10 fX1_12 rfl (ty_c hS (by decide) rfl) (hS.2 5 0 6 rfl) ?_
    refine q_getr (r := 8) dX1_readOperand_13 fX1_73 rfl (ty_c hS (by decide) rfl) (hS.2 6 1 8 rfl) ?_
    refine q_aload_n dX1_readOperand_16 rfl rfl rfl ?_
    refine q_geti (x := nI k) dX1_readOperand_17 fX1_38 rfl (ty_c hS (by decide) rfl) hk ?_
    refine q_iald (x := nI 45) (j := k) dX1_readOperand_20 (ty_c hS (by decide) rfl) (ix_n (by omega) (by omega)) hv ?_
    refine q_bipush (v := nI 45) dX1_readOperand_21 rfl ?_
    refine q_icmp_neN (tgt := 30) dX1_readOperand_23 (by decide) (by omega) (by omega) (fun h => absurd h (by decide)) (fun _ => ?_)
    refine q_iconst (v := nI 1) dX1_readOperand_26 rfl ?_
    refine q_goto (tgt := 31) dX1_readOperand_27 (by decide) ?_
    refine q_istore_n dX1_readOperand_31 rfl (by decide) (ls' := [(3, .int (nI 1)), (0, .ref 5), (1, .int (nI n)), (2, .int (nI 0))]) rfl ?_
    refine q_iload_n dX1_readOperand_32 rfl rfl ?_
    refine q_if_eqN (tgt := 46) dX1_readOperand_33 (by decide) (by omega) (fun h => absurd h (by decide)) (fun _ => ?_)
    refine q_aload_n dX1_readOperand_36 rfl rfl rfl ?_
    refine q_dup dX1_readOperand_37 rfl ?_
    refine q_geti (x := nI k) dX1_readOperand_38 fX1_38 rfl (ty_c hS (by decide) rfl) hk ?_
    refine q_iconst (v := nI 1) dX1_readOperand_41 rfl ?_
    refine q_iaddN dX1_readOperand_42 ?_
    refine q_puti dX1_readOperand_43 fX1_38 rfl (Or.inl rfl) (ty_c hS (by decide) rfl) ?_
    refine q_aload_n dX1_readOperand_46 rfl rfl rfl ?_
    refine q_bipush (v := nI 6) dX1_readOperand_47 rfl ?_
    refine q_callV (As := [.int (nI 6)]) (rest := []) dX1_readOperand_49 vX1_48 (ty_c hS (by decide) rfl) ⟨by decide, rfl⟩ (z1_isNow_t (σ := (uI σ 5 3 (nI (k + 1)))) hS (PCt.u hC (by omega)) uI_self (by omega) (by decide) x3) rfl rfl (Nat.le_of_ble_eq_true rfl) (by omega) (by omega) (by omega) (k_p ?_)
    refine q_if_eqB (tgt := 94) dX1_readOperand_52 (by decide) (fun h => absurd h (by decide)) (fun _ => ?_)
    refine q_aload_n dX1_readOperand_55 rfl rfl rfl ?_
    refine q_iload_n dX1_readOperand_56 rfl rfl ?_
    refine q_if_eqN (tgt := 76) dX1_readOperand_57 (by decide) (by omega) (fun h => absurd h (by decide)) (fun _ => ?_)
    refine q_aload_n dX1_readOperand_60 rfl rfl rfl ?_
    refine q_getr (r := 6) dX1_readOperand_61 fX1_12 rfl (ty_c hS (by decide) rfl) (hS.2 5 0 6 rfl) ?_
    refine q_getr (r := 8) dX1_readOperand_64 fX1_73 rfl (ty_c hS (by decide) rfl) (hS.2 6 1 8 rfl) ?_
    refine q_aload_n dX1_readOperand_67 rfl rfl rfl ?_
    refine q_geti (x := nI (k + 1)) dX1_readOperand_68 fX1_38 rfl (ty_c hS (by decide) rfl) uI_self ?_
    refine q_iald (x := nI (tv T L (k + 1))) (j := (k + 1)) dX1_readOperand_71 (ty_c hS (by decide) rfl) (ix_n (by omega) (by omega)) (Eq.trans (rd_off (by decide)) hv1) ?_
    refine q_ineg dX1_readOperand_72 ?_
    refine q_goto (tgt := 88) dX1_readOperand_73 (by decide) ?_
    refine q_puti dX1_readOperand_88 fX1_119 rfl (Or.inl rfl) (ty_c hS (by decide) rfl) ?_
    refine q_goto (tgt := 168) dX1_readOperand_91 (by decide) ?_
    refine q_aload_n dX1_readOperand_168 rfl rfl rfl ?_
    refine q_dup dX1_readOperand_169 rfl ?_
    refine q_geti (x := nI (k + 1)) dX1_readOperand_170 fX1_38 rfl (ty_c hS (by decide) rfl) (Eq.trans (rd_ne (by decide)) uI_self) ?_
    refine q_iconst (v := nI 1) dX1_readOperand_173 rfl ?_
    refine q_iaddN dX1_readOperand_174 ?_
    refine q_puti dX1_readOperand_175 fX1_38 rfl (Or.inl rfl) (ty_c hS (by decide) rfl) ?_
    refine q_aload_n dX1_readOperand_178 rfl rfl rfl ?_
    refine q_getr (r := b) dX1_readOperand_179 fX1_30 rfl (ty_c hS (by decide) rfl) hR ?_
    refine q_getr (r := b + 4) dX1_readOperand_182 fX1_130 rfl (ty_r hb 0 rfl) (hb.2.2 0 3 4 rfl) ?_
    refine q_iload_n dX1_readOperand_185 rfl rfl ?_
    refine q_aald (r := b + 5) (j := 0) dX1_readOperand_186 (ty_r hb 4 rfl) (Or.inl rfl) (ix_n (by omega) (by omega)) (hb.2.2 4 0 5 rfl) ?_
    refine q_iload_n dX1_readOperand_187 rfl rfl ?_
    refine q_aload_n dX1_readOperand_188 rfl rfl rfl ?_
    refine q_geti (x := -(nI (tv T L (k + 1)))) dX1_readOperand_189 fX1_119 rfl (ty_c hS (by decide) rfl) (Eq.trans (rd_ne (by decide)) uI_self) ?_
    refine q_iast (j := n) dX1_readOperand_192 (ty_r hb 5 rfl) (ix_n (by omega) (by omega)) ?_
    refine q_iconst (v := nI 1) dX1_readOperand_193 rfl ?_
    refine q_ireturn dX1_readOperand_194 rfl rfl (by omega) (by omega) ?_
    refine ⟨?_, rfl⟩
    unfold opS
    have e1 : uI (uI σ 5 4 (-(nI (tv T L (k + 1))))) b 16 (bi t0) = uI σ 5 4 (-(nI (tv T L (k + 1)))) := uI_id (by rw [rd_off (by omega)]; exact ht)
    rw [Bool.or_false, e1, uI_cm (h := 5) (i := 3) (h2 := 5) (i2 := 4) (Or.inr (by decide)), uI_uI]
  · skip
    refine CT.of (by decide) (Nat.le_of_ble_eq_true rfl) ?_
    refine q_aload_n dX1_readOperand_0 rfl rfl rfl ?_
    refine q_bipush (v := nI 7) dX1_readOperand_1 rfl ?_
    refine q_callV (As := [.int (nI 7)]) (rest := []) dX1_readOperand_3 vX1_48 (ty_c hS (by decide) rfl) ⟨by decide, rfl⟩ (z1_isNow_f hS hC hk (by omega) (by decide) (by omega)) rfl rfl (Nat.le_of_ble_eq_true rfl) (by omega) (by omega) (by omega) (k_p ?_)
    refine q_if_eqB (tgt := 30) dX1_readOperand_6 (by decide) (fun _ => ?_) (fun h => absurd h (by decide))
    refine q_iconst (v := nI 0) dX1_readOperand_30 rfl ?_
    refine q_istore_n dX1_readOperand_31 rfl (by decide) (ls' := [(3, .int (nI 0)), (0, .ref 5), (1, .int (nI n)), (2, .int (nI 0))]) rfl ?_
    refine q_iload_n dX1_readOperand_32 rfl rfl ?_
    refine q_if_eqN (tgt := 46) dX1_readOperand_33 (by decide) (by omega) (fun _ => ?_) (fun h => absurd h (by decide))
    refine q_aload_n dX1_readOperand_46 rfl rfl rfl ?_
    refine q_bipush (v := nI 6) dX1_readOperand_47 rfl ?_
    refine q_callV (As := [.int (nI 6)]) (rest := []) dX1_readOperand_49 vX1_48 (ty_c hS (by decide) rfl) ⟨by decide, rfl⟩ (z1_isNow_t hS hC hk (by omega) (by decide) x1) rfl rfl (Nat.le_of_ble_eq_true rfl) (by omega) (by omega) (by omega) (k_p ?_)
    refine q_if_eqB (tgt := 94) dX1_readOperand_52 (by decide) (fun h => absurd h (by decide)) (fun _ => ?_)
    refine q_aload_n dX1_readOperand_55 rfl rfl rfl ?_
    refine q_iload_n dX1_readOperand_56 rfl rfl ?_
    refine q_if_eqN (tgt := 76) dX1_readOperand_57 (by decide) (by omega) (fun _ => ?_) (fun h => absurd h (by decide))
    refine q_aload_n dX1_readOperand_76 rfl rfl rfl ?_
    refine q_getr (r := 6) dX1_readOperand_77 fX1_12 rfl (ty_c hS (by decide) rfl) (hS.2 5 0 6 rfl) ?_
    refine q_getr (r := 8) dX1_readOperand_80 fX1_73 rfl (ty_c hS (by decide) rfl) (hS.2 6 1 8 rfl) ?_
    refine q_aload_n dX1_readOperand_83 rfl rfl rfl ?_
    refine q_geti (x := nI k) dX1_readOperand_84 fX1_38 rfl (ty_c hS (by decide) rfl) hk ?_
    refine q_iald (x := nI (tv T L k)) (j := k) dX1_readOperand_87 (ty_c hS (by decide) rfl) (ix_n (by omega) (by omega)) hv ?_
    refine q_puti dX1_readOperand_88 fX1_119 rfl (Or.inl rfl) (ty_c hS (by decide) rfl) ?_
    refine q_goto (tgt := 168) dX1_readOperand_91 (by decide) ?_
    refine q_aload_n dX1_readOperand_168 rfl rfl rfl ?_
    refine q_dup dX1_readOperand_169 rfl ?_
    refine q_geti (x := nI k) dX1_readOperand_170 fX1_38 rfl (ty_c hS (by decide) rfl) (Eq.trans (rd_ne (by decide)) hk) ?_
    refine q_iconst (v := nI 1) dX1_readOperand_173 rfl ?_
    refine q_iaddN dX1_readOperand_174 ?_
    refine q_puti dX1_readOperand_175 fX1_38 rfl (Or.inl rfl) (ty_c hS (by decide) rfl) ?_
    refine q_aload_n dX1_readOperand_178 rfl rfl rfl ?_
    refine q_getr (r := b) dX1_readOperand_179 fX1_30 rfl (ty_c hS (by decide) rfl) hR ?_
    refine q_getr (r := b + 4) dX1_readOperand_182 fX1_130 rfl (ty_r hb 0 rfl) (hb.2.2 0 3 4 rfl) ?_
    refine q_iload_n dX1_readOperand_185 rfl rfl ?_
    refine q_aald (r := b + 5) (j := 0) dX1_readOperand_186 (ty_r hb 4 rfl) (Or.inl rfl) (ix_n (by omega) (by omega)) (hb.2.2 4 0 5 rfl) ?_
    refine q_iload_n dX1_readOperand_187 rfl rfl ?_
    refine q_aload_n dX1_readOperand_188 rfl rfl rfl ?_
    refine q_geti (x := nI (tv T L k)) dX1_readOperand_189 fX1_119 rfl (ty_c hS (by decide) rfl) (Eq.trans (rd_ne (by decide)) uI_self) ?_
    refine q_iast (j := n) dX1_readOperand_192 (ty_r hb 5 rfl) (ix_n (by omega) (by omega)) ?_
    refine q_iconst (v := nI 1) dX1_readOperand_193 rfl ?_
    refine q_ireturn dX1_readOperand_194 rfl rfl (by omega) (by omega) ?_
    refine ⟨?_, rfl⟩
    unfold opS
    have e1 : uI (uI σ 5 4 (nI (tv T L k))) b 16 (bi t0) = uI σ 5 4 (nI (tv T L k)) := uI_id (by rw [rd_off (by omega)]; exact ht)
    rw [Bool.or_false, e1]
  · skip
    refine CT.of (by decide) (Nat.le_of_ble_eq_true rfl) ?_
    refine q_aload_n dX1_readOperand_0 rfl rfl rfl ?_
    refine q_bipush (v := nI 7) dX1_readOperand_1 rfl ?_
    refine q_callV (As := [.int (nI 7)]) (rest := []) dX1_readOperand_3 vX1_48 (ty_c hS (by decide) rfl) ⟨by decide, rfl⟩ (z1_isNow_f hS hC hk (by omega) (by decide) (by omega)) rfl rfl (Nat.le_of_ble_eq_true rfl) (by omega) (by omega) (by omega) (k_p ?_)
    refine q_if_eqB (tgt := 30) dX1_readOperand_6 (by decide) (fun _ => ?_) (fun h => absurd h (by decide))
    refine q_iconst (v := nI 0) dX1_readOperand_30 rfl ?_
    refine q_istore_n dX1_readOperand_31 rfl (by decide) (ls' := [(3, .int (nI 0)), (0, .ref 5), (1, .int (nI n)), (2, .int (nI 0))]) rfl ?_
    refine q_iload_n dX1_readOperand_32 rfl rfl ?_
    refine q_if_eqN (tgt := 46) dX1_readOperand_33 (by decide) (by omega) (fun _ => ?_) (fun h => absurd h (by decide))
    refine q_aload_n dX1_readOperand_46 rfl rfl rfl ?_
    refine q_bipush (v := nI 6) dX1_readOperand_47 rfl ?_
    refine q_callV (As := [.int (nI 6)]) (rest := []) dX1_readOperand_49 vX1_48 (ty_c hS (by decide) rfl) ⟨by decide, rfl⟩ (z1_isNow_f hS hC hk (by omega) (by decide) (by omega)) rfl rfl (Nat.le_of_ble_eq_true rfl) (by omega) (by omega) (by omega) (k_p ?_)
    refine q_if_eqB (tgt := 94) dX1_readOperand_52 (by decide) (fun _ => ?_) (fun h => absurd h (by decide))
    refine q_aload_n dX1_readOperand_94 rfl rfl rfl ?_
    refine q_iconst (v := nI 3) dX1_readOperand_95 rfl ?_
    refine q_callV (As := [.int (nI 3)]) (rest := []) dX1_readOperand_96 vX1_48 (ty_c hS (by decide) rfl) ⟨by decide, rfl⟩ (z1_isNow_t hS hC hk (by omega) (by decide) x1) rfl rfl (Nat.le_of_ble_eq_true rfl) (by omega) (by omega) (by omega) (k_p ?_)
    refine q_if_eqB (tgt := 162) dX1_readOperand_99 (by decide) (fun h => absurd h (by decide)) (fun _ => ?_)
    refine q_iload_n dX1_readOperand_102 rfl rfl ?_
    refine q_if_neN (tgt := 162) dX1_readOperand_103 (by decide) (by omega) (fun h => absurd h (by decide)) (fun _ => ?_)
    refine q_aload_n dX1_readOperand_106 rfl rfl rfl ?_
    refine q_ldc (v := nI 1000000000) dX1_readOperand_107 kX1_129 ?_
    refine q_aload_n dX1_readOperand_109 rfl rfl rfl ?_
    refine q_getr (r := 6) dX1_readOperand_110 fX1_12 rfl (ty_c hS (by decide) rfl) (hS.2 5 0 6 rfl) ?_
    refine q_getr (r := 8) dX1_readOperand_113 fX1_73 rfl (ty_c hS (by decide) rfl) (hS.2 6 1 8 rfl) ?_
    refine q_aload_n dX1_readOperand_116 rfl rfl rfl ?_
    refine q_geti (x := nI k) dX1_readOperand_117 fX1_38 rfl (ty_c hS (by decide) rfl) hk ?_
    refine q_iald (x := nI (tv T L k)) (j := k) dX1_readOperand_120 (ty_c hS (by decide) rfl) (ix_n (by omega) (by omega)) hv ?_
    refine q_iaddN dX1_readOperand_121 ?_
    refine q_puti dX1_readOperand_122 fX1_119 rfl (Or.inl rfl) (ty_c hS (by decide) rfl) ?_
    refine q_aload_n dX1_readOperand_125 rfl rfl rfl ?_
    refine q_getr (r := b) dX1_readOperand_126 fX1_30 rfl (ty_c hS (by decide) rfl) hR ?_
    refine q_dup dX1_readOperand_129 rfl ?_
    refine q_geti (x := bi t0) dX1_readOperand_130 fX1_105 rfl (ty_r hb 0 rfl) (Eq.trans (rd_off (by omega)) ht) ?_
    refine q_aload_n dX1_readOperand_133 rfl rfl rfl ?_
    refine q_getr (r := 6) dX1_readOperand_134 fX1_12 rfl (ty_c hS (by decide) rfl) (hS.2 5 0 6 rfl) ?_
    refine q_getr (r := 8) dX1_readOperand_137 fX1_73 rfl (ty_c hS (by decide) rfl) (hS.2 6 1 8 rfl) ?_
    refine q_aload_n dX1_readOperand_140 rfl rfl rfl ?_
    refine q_geti (x := nI k) dX1_readOperand_141 fX1_38 rfl (ty_c hS (by decide) rfl) (Eq.trans (rd_ne (by decide)) hk) ?_
    refine q_iald (x := nI (tv T L k)) (j := k) dX1_readOperand_144 (ty_c hS (by decide) rfl) (ix_n (by omega) (by omega)) (Eq.trans (rd_off (by decide)) hv) ?_
    refine q_bipush (v := nI 16) dX1_readOperand_145 rfl ?_
    refine q_icmp_ltN (tgt := 154) dX1_readOperand_147 (by decide) (by omega) (by omega) (fun c147 => ?_) (fun c147 => ?_)
    · skip
      refine q_iconst (v := nI 0) dX1_readOperand_154 rfl ?_
      refine q_ior dX1_readOperand_155 ?_
      refine q_top (y := bi (t0 || false)) (bi_o0 t0) ?_
      refine q_putz dX1_readOperand_156 fX1_105 rfl (Or.inl rfl) (ty_r hb 0 rfl) (bi_01 _) ?_
      refine q_goto (tgt := 168) dX1_readOperand_159 (by decide) ?_
      refine q_aload_n dX1_readOperand_168 rfl rfl rfl ?_
      refine q_dup dX1_readOperand_169 rfl ?_
      refine q_geti (x := nI k) dX1_readOperand_170 fX1_38 rfl (ty_c hS (by decide) rfl) (Eq.trans (rd_off (by omega)) (Eq.trans (rd_ne (by decide)) hk)) ?_
      refine q_iconst (v := nI 1) dX1_readOperand_173 rfl ?_
      refine q_iaddN dX1_readOperand_174 ?_
      refine q_puti dX1_readOperand_175 fX1_38 rfl (Or.inl rfl) (ty_c hS (by decide) rfl) ?_
      refine q_aload_n dX1_readOperand_178 rfl rfl rfl ?_
      refine q_getr (r := b) dX1_readOperand_179 fX1_30 rfl (ty_c hS (by decide) rfl) hR ?_
      refine q_getr (r := b + 4) dX1_readOperand_182 fX1_130 rfl (ty_r hb 0 rfl) (hb.2.2 0 3 4 rfl) ?_
      refine q_iload_n dX1_readOperand_185 rfl rfl ?_
      refine q_aald (r := b + 5) (j := 0) dX1_readOperand_186 (ty_r hb 4 rfl) (Or.inl rfl) (ix_n (by omega) (by omega)) (hb.2.2 4 0 5 rfl) ?_
      refine q_iload_n dX1_readOperand_187 rfl rfl ?_
      refine q_aload_n dX1_readOperand_188 rfl rfl rfl ?_
      refine q_geti (x := nI (1000000000 + (tv T L k))) dX1_readOperand_189 fX1_119 rfl (ty_c hS (by decide) rfl) (Eq.trans (rd_ne (by decide)) (Eq.trans (rd_off (by omega)) uI_self)) ?_
      refine q_iast (j := n) dX1_readOperand_192 (ty_r hb 5 rfl) (ix_n (by omega) (by omega)) ?_
      refine q_iconst (v := nI 1) dX1_readOperand_193 rfl ?_
      refine q_ireturn dX1_readOperand_194 rfl rfl (by omega) (by omega) ?_
      refine ⟨?_, rfl⟩
      unfold opS
      first | rw [decide_eq_true c147] | rw [decide_eq_false (Nat.not_le.mpr c147)]
    · skip
      refine q_iconst (v := nI 1) dX1_readOperand_150 rfl ?_
      refine q_goto (tgt := 155) dX1_readOperand_151 (by decide) ?_
      refine q_ior dX1_readOperand_155 ?_
      refine q_top (y := bi (t0 || true)) (bi_o1 t0) ?_
      refine q_putz dX1_readOperand_156 fX1_105 rfl (Or.inl rfl) (ty_r hb 0 rfl) (bi_01 _) ?_
      refine q_goto (tgt := 168) dX1_readOperand_159 (by decide) ?_
      refine q_aload_n dX1_readOperand_168 rfl rfl rfl ?_
      refine q_dup dX1_readOperand_169 rfl ?_
      refine q_geti (x := nI k) dX1_readOperand_170 fX1_38 rfl (ty_c hS (by decide) rfl) (Eq.trans (rd_off (by omega)) (Eq.trans (rd_ne (by decide)) hk)) ?_
      refine q_iconst (v := nI 1) dX1_readOperand_173 rfl ?_
      refine q_iaddN dX1_readOperand_174 ?_
      refine q_puti dX1_readOperand_175 fX1_38 rfl (Or.inl rfl) (ty_c hS (by decide) rfl) ?_
      refine q_aload_n dX1_readOperand_178 rfl rfl rfl ?_
      refine q_getr (r := b) dX1_readOperand_179 fX1_30 rfl (ty_c hS (by decide) rfl) hR ?_
      refine q_getr (r := b + 4) dX1_readOperand_182 fX1_130 rfl (ty_r hb 0 rfl) (hb.2.2 0 3 4 rfl) ?_
      refine q_iload_n dX1_readOperand_185 rfl rfl ?_
      refine q_aald (r := b + 5) (j := 0) dX1_readOperand_186 (ty_r hb 4 rfl) (Or.inl rfl) (ix_n (by omega) (by omega)) (hb.2.2 4 0 5 rfl) ?_
      refine q_iload_n dX1_readOperand_187 rfl rfl ?_
      refine q_aload_n dX1_readOperand_188 rfl rfl rfl ?_
      refine q_geti (x := nI (1000000000 + (tv T L k))) dX1_readOperand_189 fX1_119 rfl (ty_c hS (by decide) rfl) (Eq.trans (rd_ne (by decide)) (Eq.trans (rd_off (by omega)) uI_self)) ?_
      refine q_iast (j := n) dX1_readOperand_192 (ty_r hb 5 rfl) (ix_n (by omega) (by omega)) ?_
      refine q_iconst (v := nI 1) dX1_readOperand_193 rfl ?_
      refine q_ireturn dX1_readOperand_194 rfl rfl (by omega) (by omega) ?_
      refine ⟨?_, rfl⟩
      unfold opS
      first | rw [decide_eq_true c147] | rw [decide_eq_false (Nat.not_le.mpr c147)]

theorem z1_readOperand_ok1 {g : GG} {σ : HS} (hS : SK σ) {b : Nat} (hb : RB σ b) (hR : sR σ 5 5 = b) {T : Nat → Nat} {L N k n : Nat} (hn : n < 240) (hC : PCt σ T L N) (hT : ∀ i, i < L → T i < 256) (hk : sI σ 5 3 = nI k) (hkN : k ≤ N) {t0 : Bool} (ht : sI σ b 16 = bi t0) {o : Int32} {k2 : Nat} {t : Bool} (hx : pOp T L k = .ok (o, k2, t)) : CT g mX1_readOperand 2 0 0 [.ref 5, .int (nI n), .int (nI 1)] σ (PQ (opS σ b 1 n o k2 (t0 || t)) (.int (bi true))) := by
  have hb14 : b = 14 ∨ 99 ≤ b := by rcases hb.1 with h | ⟨j, h⟩ <;> omega
  obtain ⟨h6, h2, h3, h4, h5⟩ := id hC
  have hv := (h5 k (by omega)).2.1
  have hvb := tv_b (k := k) hT
  rcases pOp_ok hx with ⟨x1, x2, x3, rfl, rfl, rfl⟩ | ⟨x1, rfl, rfl, rfl⟩ | ⟨x1, rfl, rfl, rfl⟩
  · have hlt := tk_lt h4 (k := k + 1) (by omega)
    have hv1 := (h5 (k + 1) (by omega)).2.1
    rw [x2] at hv
    refine CT.of (by decide) (Nat.le_of_ble_eq_true rfl) ?_
    refine q_aload_n dX1_readOperand_0 rfl rfl rfl ?_
    refine q_bipush (v := nI 7) dX1_readOperand_1 rfl ?_
    refine q_callV (As := [.int (nI 7)]) (rest := []) dX1_readOperand_3 vX1_48 (ty_c hS (by decide) rfl) ⟨by decide, rfl⟩ (z1_isNow_t hS hC hk (by omega) (by decide) x1) rfl rfl (Nat.le_of_ble_eq_true rfl) (by omega) (by omega) (by omega) (k_p ?_)
    refine q_if_eqB (tgt := 30) dX1_readOperand_6 (by decide) (fun h => absurd h (by decide)) (fun _ => ?_)
    refine q_aload_n dX1_readOperand_9 rfl rfl rfl ?_
    refine q_getr (r := 6) dX1_readOperand_10 fX1_12 rfl (ty_c hS (by decide) rfl) (hS.2 5 0 6 rfl) ?_
    refine q_getr (r := 8) dX1_readOperand_13 fX1_73 rfl (ty_c hS (by decide) rfl) (hS.2 6 1 8 rfl) ?_
    refine q_aload_n dX1_readOperand_16 rfl rfl rfl ?_
    refine q_geti (x := nI k) dX1_readOperand_17 fX1_38 rfl (ty_c hS (by decide) rfl) hk ?_
    refine q_iald (x := nI 45) (j := k) dX1_readOperand_20 (ty_c hS (by decide) rfl) (ix_n (by omega) (by omega)) hv ?_
    refine q_bipush (v := nI 45) dX1_readOperand_21 rfl ?_
    refine q_icmp_neN (tgt := 30) dX1_readOperand_23 (by decide) (by omega) (by omega) (fun h => absurd h (by decide)) (fun _ => ?_)
    refine q_iconst (v := nI 1) dX1_readOperand_26 rfl ?_
    refine q_goto (tgt := 31) dX1_readOperand_27 (by decide) ?_
    refine q_istore_n dX1_readOperand_31 rfl (by decide) (ls' := [(3, .int (nI 1)), (0, .ref 5), (1, .int (nI n)), (2, .int (nI 1))]) rfl ?_
    refine q_iload_n dX1_readOperand_32 rfl rfl ?_
    refine q_if_eqN (tgt := 46) dX1_readOperand_33 (by decide) (by omega) (fun h => absurd h (by decide)) (fun _ => ?_)
    refine q_aload_n dX1_readOperand_36 rfl rfl rfl ?_
    refine q_dup dX1_readOperand_37 rfl ?_
    refine q_geti (x := nI k) dX1_readOperand_38 fX1_38 rfl (ty_c hS (by decide) rfl) hk ?_
    refine q_iconst (v := nI 1) dX1_readOperand_41 rfl ?_
    refine q_iaddN dX1_readOperand_42 ?_
    refine q_puti dX1_readOperand_43 fX1_38 rfl (Or.inl rfl) (ty_c hS (by decide) rfl) ?_
    refine q_aload_n dX1_readOperand_46 rfl rfl rfl ?_
    refine q_bipush (v := nI 6) dX1_readOperand_47 rfl ?_
    refine q_callV (As := [.int (nI 6)]) (rest := []) dX1_readOperand_49 vX1_48 (ty_c hS (by decide) rfl) ⟨by decide, rfl⟩ (z1_isNow_t (σ := (uI σ 5 3 (nI (k + 1)))) hS (PCt.u hC (by omega)) uI_self (by omega) (by decide) x3) rfl rfl (Nat.le_of_ble_eq_true rfl) (by omega) (by omega) (by omega) (k_p ?_)
    refine q_if_eqB (tgt := 94) dX1_readOperand_52 (by decide) (fun h => absurd h (by decide)) (fun _ => ?_)
    refine q_aload_n dX1_readOperand_55 rfl rfl rfl ?_
    refine q_iload_n dX1_readOperand_56 rfl rfl ?_
    refine q_if_eqN (tgt := 76) dX1_readOperand_57 (by decide) (by omega) (fun h => absurd h (by decide)) (fun _ => ?_)
    refine q_aload_n dX1_readOperand_60 rfl rfl rfl ?_
    refine q_getr (r := 6) dX1_readOperand_61 fX1_12 rfl (ty_c hS (by decide) rfl) (hS.2 5 0 6 rfl) ?_
    refine q_getr (r := 8) dX1_readOperand_64 fX1_73 rfl (ty_c hS (by decide) rfl) (hS.2 6 1 8 rfl) ?_
    refine q_aload_n dX1_readOperand_67 rfl rfl rfl ?_
    refine q_geti (x := nI (k + 1)) dX1_readOperand_68 fX1_38 rfl (ty_c hS (by decide) rfl) uI_self ?_
    refine q_iald (x := nI (tv T L (k + 1))) (j := (k + 1)) dX1_readOperand_71 (ty_c hS (by decide) rfl) (ix_n (by omega) (by omega)) (Eq.trans (rd_off (by decide)) hv1) ?_
    refine q_ineg dX1_readOperand_72 ?_
    refine q_goto (tgt := 88) dX1_readOperand_73 (by decide) ?_
    refine q_puti dX1_readOperand_88 fX1_119 rfl (Or.inl rfl) (ty_c hS (by decide) rfl) ?_
    refine q_goto (tgt := 168) dX1_readOperand_91 (by decide) ?_
    refine q_aload_n dX1_readOperand_168 rfl rfl rfl ?_
    refine q_dup dX1_readOperand_169 rfl ?_
    refine q_geti (x := nI (k + 1)) dX1_readOperand_170 fX1_38 rfl (ty_c hS (by decide) rfl) (Eq.trans (rd_ne (by decide)) uI_self) ?_
    refine q_iconst (v := nI 1) dX1_readOperand_173 rfl ?_
    refine q_iaddN dX1_readOperand_174 ?_
    refine q_puti dX1_readOperand_175 fX1_38 rfl (Or.inl rfl) (ty_c hS (by decide) rfl) ?_
    refine q_aload_n dX1_readOperand_178 rfl rfl rfl ?_
    refine q_getr (r := b) dX1_readOperand_179 fX1_30 rfl (ty_c hS (by decide) rfl) hR ?_
    refine q_getr (r := b + 4) dX1_readOperand_182 fX1_130 rfl (ty_r hb 0 rfl) (hb.2.2 0 3 4 rfl) ?_
    refine q_iload_n dX1_readOperand_185 rfl rfl ?_
    refine q_aald (r := b + 6) (j := 1) dX1_readOperand_186 (ty_r hb 4 rfl) (Or.inl rfl) (ix_n (by omega) (by omega)) (hb.2.2 4 1 6 rfl) ?_
    refine q_iload_n dX1_readOperand_187 rfl rfl ?_
    refine q_aload_n dX1_readOperand_188 rfl rfl rfl ?_
    refine q_geti (x := -(nI (tv T L (k + 1)))) dX1_readOperand_189 fX1_119 rfl (ty_c hS (by decide) rfl) (Eq.trans (rd_ne (by decide)) uI_self) ?_
    refine q_iast (j := n) dX1_readOperand_192 (ty_r hb 6 rfl) (ix_n (by omega) (by omega)) ?_
    refine q_iconst (v := nI 1) dX1_readOperand_193 rfl ?_
    refine q_ireturn dX1_readOperand_194 rfl rfl (by omega) (by omega) ?_
    refine ⟨?_, rfl⟩
    unfold opS
    have e1 : uI (uI σ 5 4 (-(nI (tv T L (k + 1))))) b 16 (bi t0) = uI σ 5 4 (-(nI (tv T L (k + 1)))) := uI_id (by rw [rd_off (by omega)]; exact ht)
    rw [Bool.or_false, e1, uI_cm (h := 5) (i := 3) (h2 := 5) (i2 := 4) (Or.inr (by decide)), uI_uI]
  · skip
    refine CT.of (by decide) (Nat.le_of_ble_eq_true rfl) ?_
    refine q_aload_n dX1_readOperand_0 rfl rfl rfl ?_
    refine q_bipush (v := nI 7) dX1_readOperand_1 rfl ?_
    refine q_callV (As := [.int (nI 7)]) (rest := []) dX1_readOperand_3 vX1_48 (ty_c hS (by decide) rfl) ⟨by decide, rfl⟩ (z1_isNow_f hS hC hk (by omega) (by decide) (by omega)) rfl rfl (Nat.le_of_ble_eq_true rfl) (by omega) (by omega) (by omega) (k_p ?_)
    refine q_if_eqB (tgt := 30) dX1_readOperand_6 (by decide) (fun _ => ?_) (fun h => absurd h (by decide))
    refine q_iconst (v := nI 0) dX1_readOperand_30 rfl ?_
    refine q_istore_n dX1_readOperand_31 rfl (by decide) (ls' := [(3, .int (nI 0)), (0, .ref 5), (1, .int (nI n)), (2, .int (nI 1))]) rfl ?_
    refine q_iload_n dX1_readOperand_32 rfl rfl ?_
    refine q_if_eqN (tgt := 46) dX1_readOperand_33 (by decide) (by omega) (fun _ => ?_) (fun h => absurd h (by decide))
    refine q_aload_n dX1_readOperand_46 rfl rfl rfl ?_
    refine q_bipush (v := nI 6) dX1_readOperand_47 rfl ?_
    refine q_callV (As := [.int (nI 6)]) (rest := []) dX1_readOperand_49 vX1_48 (ty_c hS (by decide) rfl) ⟨by decide, rfl⟩ (z1_isNow_t hS hC hk (by omega) (by decide) x1) rfl rfl (Nat.le_of_ble_eq_true rfl) (by omega) (by omega) (by omega) (k_p ?_)
    refine q_if_eqB (tgt := 94) dX1_readOperand_52 (by decide) (fun h => absurd h (by decide)) (fun _ => ?_)
    refine q_aload_n dX1_readOperand_55 rfl rfl rfl ?_
    refine q_iload_n dX1_readOperand_56 rfl rfl ?_
    refine q_if_eqN (tgt := 76) dX1_readOperand_57 (by decide) (by omega) (fun _ => ?_) (fun h => absurd h (by decide))
    refine q_aload_n dX1_readOperand_76 rfl rfl rfl ?_
    refine q_getr (r := 6) dX1_readOperand_77 fX1_12 rfl (ty_c hS (by decide) rfl) (hS.2 5 0 6 rfl) ?_
    refine q_getr (r := 8) dX1_readOperand_80 fX1_73 rfl (ty_c hS (by decide) rfl) (hS.2 6 1 8 rfl) ?_
    refine q_aload_n dX1_readOperand_83 rfl rfl rfl ?_
    refine q_geti (x := nI k) dX1_readOperand_84 fX1_38 rfl (ty_c hS (by decide) rfl) hk ?_
    refine q_iald (x := nI (tv T L k)) (j := k) dX1_readOperand_87 (ty_c hS (by decide) rfl) (ix_n (by omega) (by omega)) hv ?_
    refine q_puti dX1_readOperand_88 fX1_119 rfl (Or.inl rfl) (ty_c hS (by decide) rfl) ?_
    refine q_goto (tgt := 168) dX1_readOperand_91 (by decide) ?_
    refine q_aload_n dX1_readOperand_168 rfl rfl rfl ?_
    refine q_dup dX1_readOperand_169 rfl ?_
    refine q_geti (x := nI k) dX1_readOperand_170 fX1_38 rfl (ty_c hS (by decide) rfl) (Eq.trans (rd_ne (by decide)) hk) ?_
    refine q_iconst (v := nI 1) dX1_readOperand_173 rfl ?_
    refine q_iaddN dX1_readOperand_174 ?_
    refine q_puti dX1_readOperand_175 fX1_38 rfl (Or.inl rfl) (ty_c hS (by decide) rfl) ?_
    refine q_aload_n dX1_readOperand_178 rfl rfl rfl ?_
    refine q_getr (r := b) dX1_readOperand_179 fX1_30 rfl (ty_c hS (by decide) rfl) hR ?_
    refine q_getr (r := b + 4) dX1_readOperand_182 fX1_130 rfl (ty_r hb 0 rfl) (hb.2.2 0 3 4 rfl) ?_
    refine q_iload_n dX1_readOperand_185 rfl rfl ?_
    refine q_aald (r := b + 6) (j := 1) dX1_readOperand_186 (ty_r hb 4 rfl) (Or.inl rfl) (ix_n (by omega) (by omega)) (hb.2.2 4 1 6 rfl) ?_
    refine q_iload_n dX1_readOperand_187 rfl rfl ?_
    refine q_aload_n dX1_readOperand_188 rfl rfl rfl ?_
    refine q_geti (x := nI (tv T L k)) dX1_readOperand_189 fX1_119 rfl (ty_c hS (by decide) rfl) (Eq.trans (rd_ne (by decide)) uI_self) ?_
    refine q_iast (j := n) dX1_readOperand_192 (ty_r hb 6 rfl) (ix_n (by omega) (by omega)) ?_
    refine q_iconst (v := nI 1) dX1_readOperand_193 rfl ?_
    refine q_ireturn dX1_readOperand_194 rfl rfl (by omega) (by omega) ?_
    refine ⟨?_, rfl⟩
    unfold opS
    have e1 : uI (uI σ 5 4 (nI (tv T L k))) b 16 (bi t0) = uI σ 5 4 (nI (tv T L k)) := uI_id (by rw [rd_off (by omega)]; exact ht)
    rw [Bool.or_false, e1]
  · skip
    refine CT.of (by decide) (Nat.le_of_ble_eq_true rfl) ?_
    refine q_aload_n dX1_readOperand_0 rfl rfl rfl ?_
    refine q_bipush (v := nI 7) dX1_readOperand_1 rfl ?_
    refine q_callV (As := [.int (nI 7)]) (rest := []) dX1_readOperand_3 vX1_48 (ty_c hS (by decide) rfl) ⟨by decide, rfl⟩ (z1_isNow_f hS hC hk (by omega) (by decide) (by omega)) rfl rfl (Nat.le_of_ble_eq_true rfl) (by omega) (by omega) (by omega) (k_p ?_)
    refine q_if_eqB (tgt := 30) dX1_readOperand_6 (by decide) (fun _ => ?_) (fun h => absurd h (by decide))
    refine q_iconst (v := nI 0) dX1_readOperand_30 rfl ?_
    refine q_istore_n dX1_readOperand_31 rfl (by decide) (ls' := [(3, .int (nI 0)), (0, .ref 5), (1, .int (nI n)), (2, .int (nI 1))]) rfl ?_
    refine q_iload_n dX1_readOperand_32 rfl rfl ?_
    refine q_if_eqN (tgt := 46) dX1_readOperand_33 (by decide) (by omega) (fun _ => ?_) (fun h => absurd h (by decide))
    refine q_aload_n dX1_readOperand_46 rfl rfl rfl ?_
    refine q_bipush (v := nI 6) dX1_readOperand_47 rfl ?_
    refine q_callV (As := [.int (nI 6)]) (rest := []) dX1_readOperand_49 vX1_48 (ty_c hS (by decide) rfl) ⟨by decide, rfl⟩ (z1_isNow_f hS hC hk (by omega) (by decide) (by omega)) rfl rfl (Nat.le_of_ble_eq_true rfl) (by omega) (by omega) (by omega) (k_p ?_)
    refine q_if_eqB (tgt := 94) dX1_readOperand_52 (by decide) (fun _ => ?_) (fun h => absurd h (by decide))
    refine q_aload_n dX1_readOperand_94 rfl rfl rfl ?_
    refine q_iconst (v := nI 3) dX1_readOperand_95 rfl ?_
    refine q_callV (As := [.int (nI 3)]) (rest := []) dX1_readOperand_96 vX1_48 (ty_c hS (by decide) rfl) ⟨by decide, rfl⟩ (z1_isNow_t hS hC hk (by omega) (by decide) x1) rfl rfl (Nat.le_of_ble_eq_true rfl) (by omega) (by omega) (by omega) (k_p ?_)
    refine q_if_eqB (tgt := 162) dX1_readOperand_99 (by decide) (fun h => absurd h (by decide)) (fun _ => ?_)
    refine q_iload_n dX1_readOperand_102 rfl rfl ?_
    refine q_if_neN (tgt := 162) dX1_readOperand_103 (by decide) (by omega) (fun h => absurd h (by decide)) (fun _ => ?_)
    refine q_aload_n dX1_readOperand_106 rfl rfl rfl ?_
    refine q_ldc (v := nI 1000000000) dX1_readOperand_107 kX1_129 ?_
    refine q_aload_n dX1_readOperand_109 rfl rfl rfl ?_
    refine q_getr (r := 6) dX1_readOperand_110 fX1_12 rfl (ty_c hS (by decide) rfl) (hS.2 5 0 6 rfl) ?_
    refine q_getr (r := 8) dX1_readOperand_113 fX1_73 rfl (ty_c hS (by decide) rfl) (hS.2 6 1 8 rfl) ?_
    refine q_aload_n dX1_readOperand_116 rfl rfl rfl ?_
    refine q_geti (x := nI k) dX1_readOperand_117 fX1_38 rfl (ty_c hS (by decide) rfl) hk ?_
    refine q_iald (x := nI (tv T L k)) (j := k) dX1_readOperand_120 (ty_c hS (by decide) rfl) (ix_n (by omega) (by omega)) hv ?_
    refine q_iaddN dX1_readOperand_121 ?_
    refine q_puti dX1_readOperand_122 fX1_119 rfl (Or.inl rfl) (ty_c hS (by decide) rfl) ?_
    refine q_aload_n dX1_readOperand_125 rfl rfl rfl ?_
    refine q_getr (r := b) dX1_readOperand_126 fX1_30 rfl (ty_c hS (by decide) rfl) hR ?_
    refine q_dup dX1_readOperand_129 rfl ?_
    refine q_geti (x := bi t0) dX1_readOperand_130 fX1_105 rfl (ty_r hb 0 rfl) (Eq.trans (rd_off (by omega)) ht) ?_
    refine q_aload_n dX1_readOperand_133 rfl rfl rfl ?_
    refine q_getr (r := 6) dX1_readOperand_134 fX1_12 rfl (ty_c hS (by decide) rfl) (hS.2 5 0 6 rfl) ?_
    refine q_getr (r := 8) dX1_readOperand_137 fX1_73 rfl (ty_c hS (by decide) rfl) (hS.2 6 1 8 rfl) ?_
    refine q_aload_n dX1_readOperand_140 rfl rfl rfl ?_
    refine q_geti (x := nI k) dX1_readOperand_141 fX1_38 rfl (ty_c hS (by decide) rfl) (Eq.trans (rd_ne (by decide)) hk) ?_
    refine q_iald (x := nI (tv T L k)) (j := k) dX1_readOperand_144 (ty_c hS (by decide) rfl) (ix_n (by omega) (by omega)) (Eq.trans (rd_off (by decide)) hv) ?_
    refine q_bipush (v := nI 16) dX1_readOperand_145 rfl ?_
    refine q_icmp_ltN (tgt := 154) dX1_readOperand_147 (by decide) (by omega) (by omega) (fun c147 => ?_) (fun c147 => ?_)
    · skip
      refine q_iconst (v := nI 0) dX1_readOperand_154 rfl ?_
      refine q_ior dX1_readOperand_155 ?_
      refine q_top (y := bi (t0 || false)) (bi_o0 t0) ?_
      refine q_putz dX1_readOperand_156 fX1_105 rfl (Or.inl rfl) (ty_r hb 0 rfl) (bi_01 _) ?_
      refine q_goto (tgt := 168) dX1_readOperand_159 (by decide) ?_
      refine q_aload_n dX1_readOperand_168 rfl rfl rfl ?_
      refine q_dup dX1_readOperand_169 rfl ?_
      refine q_geti (x := nI k) dX1_readOperand_170 fX1_38 rfl (ty_c hS (by decide) rfl) (Eq.trans (rd_off (by omega)) (Eq.trans (rd_ne (by decide)) hk)) ?_
      refine q_iconst (v := nI 1) dX1_readOperand_173 rfl ?_
      refine q_iaddN dX1_readOperand_174 ?_
      refine q_puti dX1_readOperand_175 fX1_38 rfl (Or.inl rfl) (ty_c hS (by decide) rfl) ?_
      refine q_aload_n dX1_readOperand_178 rfl rfl rfl ?_
      refine q_getr (r := b) dX1_readOperand_179 fX1_30 rfl (ty_c hS (by decide) rfl) hR ?_
      refine q_getr (r := b + 4) dX1_readOperand_182 fX1_130 rfl (ty_r hb 0 rfl) (hb.2.2 0 3 4 rfl) ?_
      refine q_iload_n dX1_readOperand_185 rfl rfl ?_
      refine q_aald (r := b + 6) (j := 1) dX1_readOperand_186 (ty_r hb 4 rfl) (Or.inl rfl) (ix_n (by omega) (by omega)) (hb.2.2 4 1 6 rfl) ?_
      refine q_iload_n dX1_readOperand_187 rfl rfl ?_
      refine q_aload_n dX1_readOperand_188 rfl rfl rfl ?_
      refine q_geti (x := nI (1000000000 + (tv T L k))) dX1_readOperand_189 fX1_119 rfl (ty_c hS (by decide) rfl) (Eq.trans (rd_ne (by decide)) (Eq.trans (rd_off (by omega)) uI_self)) ?_
      refine q_iast (j := n) dX1_readOperand_192 (ty_r hb 6 rfl) (ix_n (by omega) (by omega)) ?_
      refine q_iconst (v := nI 1) dX1_readOperand_193 rfl ?_
      refine q_ireturn dX1_readOperand_194 rfl rfl (by omega) (by omega) ?_
      refine ⟨?_, rfl⟩
      unfold opS
      first | rw [decide_eq_true c147] | rw [decide_eq_false (Nat.not_le.mpr c147)]
    · skip
      refine q_iconst (v := nI 1) dX1_readOperand_150 rfl ?_
      refine q_goto (tgt := 155) dX1_readOperand_151 (by decide) ?_
      refine q_ior dX1_readOperand_155 ?_
      refine q_top (y := bi (t0 || true)) (bi_o1 t0) ?_
      refine q_putz dX1_readOperand_156 fX1_105 rfl (Or.inl rfl) (ty_r hb 0 rfl) (bi_01 _) ?_
      refine q_goto (tgt := 168) dX1_readOperand_159 (by decide) ?_
      refine q_aload_n dX1_readOperand_168 rfl rfl rfl ?_
      refine q_dup dX1_readOperand_169 rfl ?_
      refine q_geti (x := nI k) dX1_readOperand_170 fX1_38 rfl (ty_c hS (by decide) rfl) (Eq.trans (rd_off (by omega)) (Eq.trans (rd_ne (by decide)) hk)) ?_
      refine q_iconst (v := nI 1) dX1_readOperand_173 rfl ?_
      refine q_iaddN dX1_readOperand_174 ?_
      refine q_puti dX1_readOperand_175 fX1_38 rfl (Or.inl rfl) (ty_c hS (by decide) rfl) ?_
      refine q_aload_n dX1_readOperand_178 rfl rfl rfl ?_
      refine q_getr (r := b) dX1_readOperand_179 fX1_30 rfl (ty_c hS (by decide) rfl) hR ?_
      refine q_getr (r := b + 4) dX1_readOperand_182 fX1_130 rfl (ty_r hb 0 rfl) (hb.2.2 0 3 4 rfl) ?_
      refine q_iload_n dX1_readOperand_185 rfl rfl ?_
      refine q_aald (r := b + 6) (j := 1) dX1_readOperand_186 (ty_r hb 4 rfl) (Or.inl rfl) (ix_n (by omega) (by omega)) (hb.2.2 4 1 6 rfl) ?_
      refine q_iload_n dX1_readOperand_187 rfl rfl ?_
      refine q_aload_n dX1_readOperand_188 rfl rfl rfl ?_
      refine q_geti (x := nI (1000000000 + (tv T L k))) dX1_readOperand_189 fX1_119 rfl (ty_c hS (by decide) rfl) (Eq.trans (rd_ne (by decide)) (Eq.trans (rd_off (by omega)) uI_self)) ?_
      refine q_iast (j := n) dX1_readOperand_192 (ty_r hb 6 rfl) (ix_n (by omega) (by omega)) ?_
      refine q_iconst (v := nI 1) dX1_readOperand_193 rfl ?_
      refine q_ireturn dX1_readOperand_194 rfl rfl (by omega) (by omega) ?_
      refine ⟨?_, rfl⟩
      unfold opS
      first | rw [decide_eq_true c147] | rw [decide_eq_false (Nat.not_le.mpr c147)]

