/-! The model's parser: first, second, a block's name. -/
theorem MTk.off {σ : HS} {T : Nat → Nat} {L k h i : Nat} {v : Int32} (m : MTk σ T L k) (hh : h ≠ 58) : MTk (uI σ h i v) T L k := by
  unfold MTk at m ⊢
  rw [rd_off (fun e => hh e.symm), rd_off (fun e => hh e.symm), rd_off (fun e => hh e.symm), rd_off (fun e => hh e.symm), rd_off (fun e => hh e.symm)]
  exact m
theorem BS.off {σ : HS} {T : Nat → Nat} {L h i : Nat} {v : Int32} {x : PR Nat} (m : BS σ T L x) (hh : h ≠ 58) : BS (uI σ h i v) T L x := by
  cases x with
  | error e => exact ⟨(rd_off (fun e => hh e.symm)).trans m.1, m.2.1, (rd_off (fun e => hh e.symm)).trans m.2.2⟩
  | ok k => exact ⟨(rd_off (fun e => hh e.symm)).trans m.1, m.2.off hh⟩
theorem BS.u {σ : HS} {T : Nat → Nat} {L i : Nat} {v : Int32} {x : PR Nat} (m : BS σ T L x) (hi : i < 2 ∨ (7 ≤ i ∧ i ≠ 32 ∧ i ≠ 33)) : BS (uI σ 58 i v) T L x := by
  cases x with
  | error e => exact ⟨(rd_ne (by omega)).trans m.1, m.2.1, (rd_ne (by omega)).trans m.2.2⟩
  | ok k => exact ⟨(rd_ne (by omega)).trans m.1, m.2.u (by omega)⟩
def fsq (h0 n h i : Nat) : Prop := lxb h i ∨ ((h = h0 ∨ h = h0 + 1) ∧ i = n)
def FsQ (h0 n : Nat) (σ : HS) (T : Nat → Nat) (L : Nat) (x : PR Nat) : HS → Prop := fun σ' => BS σ' T L (x.bind (pO1 T L)) ∧ (∀ k v, x = .ok k → pOp T L k = .ok v → sI σ' h0 n = opn v.1 ∧ sI σ' (h0 + 1) n = opv v.1) ∧ FR9 (fsq h0 n) σ σ'
theorem FsQ.of {h0 n : Nat} {σ τ : HS} {T : Nat → Nat} {L : Nat} {x : PR Nat} (hh : 58 < h0) (h : OpQ σ T L x τ) : FsQ h0 n σ T L x (uI (uI τ h0 n (sI τ 58 35)) (h0 + 1) n (sI τ 58 36)) :=
  ⟨(h.1.off (by omega)).off (by omega), fun k v e1 e2 => ⟨(rd_off (by omega)).trans (uI_self.trans (h.2.1 k v e1 e2).1), uI_self.trans (h.2.1 k v e1 e2).2⟩, ((h.2.2.mono fun a i z => Or.inl z).uI (Or.inr ⟨Or.inl rfl, rfl⟩)).uI (Or.inr ⟨Or.inr rfl, rfl⟩)⟩
/-- the names of blocks that were read, with their places -/
def NL (σ : HS) (l : List (Nat × Nat)) : Prop := sI σ 58 41 = nI l.length ∧ ∀ i, i < l.length → sI σ 84 i = nI (l.getD i (0, 0)).1 ∧ sI σ 85 i = nI (l.getD i (0, 0)).2
theorem NL.fq {P : Nat → Nat → Prop} {σ σ' : HS} {l : List (Nat × Nat)} (h : FR9 P σ σ') (h1 : ¬ P 58 41) (h2 : ∀ i, ¬ P 84 i ∧ ¬ P 85 i) (k : NL σ l) : NL σ' l := ⟨(h.2.2.2 _ _ h1).trans k.1, fun i hi => ⟨(h.2.2.2 _ _ (h2 i).1).trans (k.2 i hi).1, (h.2.2.2 _ _ (h2 i).2).trans (k.2 i hi).2⟩⟩
theorem NL.lb {σ σ' : HS} {l : List (Nat × Nat)} (h : FR9 lxb σ σ') (k : NL σ l) : NL σ' l := k.fq h (by unfold lxb; omega) (fun i => by unfold lxb; omega)
theorem NL.fs {h0 n : Nat} {σ σ' : HS} {l : List (Nat × Nat)} (h : FR9 (fsq h0 n) σ σ') (hh : 59 ≤ h0 ∧ h0 < 83) (k : NL σ l) : NL σ' l := k.fq h (by unfold fsq lxb; omega) (fun i => by unfold fsq lxb; omega)
theorem NL.off {h i : Nat} {v : Int32} {σ : HS} {l : List (Nat × Nat)} (hh : h ≠ 58 ∧ h ≠ 84 ∧ h ≠ 85) (k : NL σ l) : NL (uI σ h i v) l := ⟨(rd_off (by omega)).trans k.1, fun j hj => ⟨(rd_off (by omega)).trans (k.2 j hj).1, (rd_off (by omega)).trans (k.2 j hj).2⟩⟩
theorem gd_snoc {α : Type} {l : List α} {a d : α} {i : Nat} : (l ++ [a]).getD i d = if i = l.length then a else l.getD i d := by
  rw [List.getD_eq_getElem?_getD, List.getD_eq_getElem?_getD]
  by_cases h : i = l.length
  · rw [if_pos h, h, List.getElem?_append_right (Nat.le_refl _)]; simp
  · rw [if_neg h]
    by_cases h2 : i < l.length
    · rw [List.getElem?_append_left h2]
    · rw [List.getElem?_eq_none (by simp; omega), List.getElem?_eq_none (by omega)]
def BkQ (σ : HS) (T : Nat → Nat) (L : Nat) (x : PR Nat) (l : List (Nat × Nat)) : Int32 → HS → Prop := fun b σ' => BS σ' T L (x.bind (pWy T L)) ∧ (∀ k k2, x = .ok k → pWy T L k = .ok k2 → b = nI (tv T L k) ∧ NL σ' (l ++ [(ts T L k, tv T L k)])) ∧ FR9 blq σ σ'
section MFS
variable {g : GG} {σ : HS} {T : Nat → Nat} {L k : Nat}
theorem z9_first (hS : SK σ) (hT : MTX σ L T) {x : PR Nat} (hB : BS σ T L x) {n : Nat} (hn : n < 1200) : CT g mX9_first 4 0 0 [.ref 58, .int (nI n)] σ (fun r σ' => r = none ∧ FsQ 73 n σ T L x σ') := by
  refine CT.of (by decide) (Nat.le_of_ble_eq_true rfl) ?_
  refine q_aload_n dX9_first_0 rfl rfl rfl ?_
  refine q_callV (As := []) (rest := []) dX9_first_1 vX9_291 (ty_c hS (by decide) rfl) ⟨by decide, rfl⟩ (z9_operand hS hT hB) rfl rfl (Nat.le_of_ble_eq_true rfl) (by omega) (by omega) (by omega) (k_v (fun s1 q1 => ?_))
  have zS1 : SK s1 := (SK.fq q1.2.2 hS)
  refine q_aload_n dX9_first_4 rfl rfl rfl ?_
  refine q_getr (r := 73) dX9_first_5 fX9_76 rfl (ty_c zS1 (by decide) rfl) (zS1.2 58 21 73 rfl) ?_
  refine q_iload_n dX9_first_8 rfl rfl ?_
  refine q_aload_n dX9_first_9 rfl rfl rfl ?_
  refine q_geti (x := sI s1 58 35) dX9_first_10 fX9_119 rfl (ty_c zS1 (by decide) rfl) rfl ?_
  refine q_iast (j := n) dX9_first_13 (ty_c zS1 (by decide) rfl) (ix_n (by omega) (by omega)) ?_
  refine q_aload_n dX9_first_14 rfl rfl rfl ?_
  refine q_getr (r := 74) dX9_first_15 fX9_79 rfl (ty_c zS1 (by decide) rfl) (zS1.2 58 22 74 rfl) ?_
  refine q_iload_n dX9_first_18 rfl rfl ?_
  refine q_aload_n dX9_first_19 rfl rfl rfl ?_
  refine q_geti (x := sI s1 58 36) dX9_first_20 fX9_122 rfl (ty_c zS1 (by decide) rfl) (rd_off (by decide)) ?_
  refine q_iast (j := n) dX9_first_23 (ty_c zS1 (by decide) rfl) (ix_n (by omega) (by omega)) ?_
  refine q_return dX9_first_24 rfl (by omega) (by omega) ?_
  exact ⟨rfl, FsQ.of (h0 := 73) (by omega) q1⟩
theorem z9_second (hS : SK σ) (hT : MTX σ L T) {x : PR Nat} (hB : BS σ T L x) {n : Nat} (hn : n < 1200) : CT g mX9_second 4 0 0 [.ref 58, .int (nI n)] σ (fun r σ' => r = none ∧ FsQ 75 n σ T L x σ') := by
  refine CT.of (by decide) (Nat.le_of_ble_eq_true rfl) ?_
  refine q_aload_n dX9_second_0 rfl rfl rfl ?_
  refine q_callV (As := []) (rest := []) dX9_second_1 vX9_291 (ty_c hS (by decide) rfl) ⟨by decide, rfl⟩ (z9_operand hS hT hB) rfl rfl (Nat.le_of_ble_eq_true rfl) (by omega) (by omega) (by omega) (k_v (fun s1 q1 => ?_))
  have zS1 : SK s1 := (SK.fq q1.2.2 hS)
  refine q_aload_n dX9_second_4 rfl rfl rfl ?_
  refine q_getr (r := 75) dX9_second_5 fX9_82 rfl (ty_c zS1 (by decide) rfl) (zS1.2 58 23 75 rfl) ?_
  refine q_iload_n dX9_second_8 rfl rfl ?_
  refine q_aload_n dX9_second_9 rfl rfl rfl ?_
  refine q_geti (x := sI s1 58 35) dX9_second_10 fX9_119 rfl (ty_c zS1 (by decide) rfl) rfl ?_
  refine q_iast (j := n) dX9_second_13 (ty_c zS1 (by decide) rfl) (ix_n (by omega) (by omega)) ?_
  refine q_aload_n dX9_second_14 rfl rfl rfl ?_
  refine q_getr (r := 76) dX9_second_15 fX9_85 rfl (ty_c zS1 (by decide) rfl) (zS1.2 58 24 76 rfl) ?_
  refine q_iload_n dX9_second_18 rfl rfl ?_
  refine q_aload_n dX9_second_19 rfl rfl rfl ?_
  refine q_geti (x := sI s1 58 36) dX9_second_20 fX9_122 rfl (ty_c zS1 (by decide) rfl) (rd_off (by decide)) ?_
  refine q_iast (j := n) dX9_second_23 (ty_c zS1 (by decide) rfl) (ix_n (by omega) (by omega)) ?_
  refine q_return dX9_second_24 rfl (by omega) (by omega) ?_
  exact ⟨rfl, FsQ.of (h0 := 75) (by omega) q1⟩
theorem z9_block (hS : SK σ) (hT : MTX σ L T) {x : PR Nat} (hB : BS σ T L x) {l : List (Nat × Nat)} (hl : l.length < 200) (hN : ∀ k, x = .ok k → NL σ l) : CT g mX9_block 3 0 0 [.ref 58] σ (fun r σ' => ∃ b, r = some (.int b) ∧ BkQ σ T L x l b σ') := by
  cases x with
  | error e =>
    obtain ⟨b1, b2, b3⟩ := hB
    refine CT.of (by decide) (Nat.le_of_ble_eq_true rfl) ?_
    refine q_aload_n dX9_block_0 rfl rfl rfl ?_
    refine q_geti (x := nI e.1) dX9_block_1 fX9_110 rfl (ty_c hS (by decide) rfl) b1 ?_
    refine q_if_leN (tgt := 9) dX9_block_4 (by decide) (by omega) (fun c4 => ?_) (fun c4 => ?_)
    · exact absurd c4 (by omega)
    · skip
      refine q_iconst (v := nI 0) dX9_block_7 rfl ?_
      refine q_ireturn dX9_block_8 rfl rfl (by omega) (by omega) ?_
      exact ⟨_, rfl, ⟨b1, b2, b3⟩, (fun _ _ e1 => by cases e1), FR9.rf⟩
  | ok k =>
    obtain ⟨b1, b2⟩ := hB
    have hb := tkd_b b2.2.2
    have h3 := b2.1
    obtain ⟨n1, n2⟩ := hN k rfl
    by_cases h : tk T L k = 5
    · rw [if_pos h] at hb
      have hv : tv T L k < 40 := tv_345.2.2 h
      have e : (Except.ok k : PR Nat).bind (pWy T L) = .ok (k + 1) := if_pos h
      have fr : FR9 blq σ (uI (uI (uI σ 84 l.length (nI (ts T L k))) 85 l.length (nI (tv T L k))) 58 41 (nI (l.length + 1))) := ((FR9.rf.uI (by unfold blq; omega)).uI (by unfold blq; omega)).uI (by unfold blq; omega)
      have nl : NL (uI (uI (uI σ 84 l.length (nI (ts T L k))) 85 l.length (nI (tv T L k))) 58 41 (nI (l.length + 1))) (l ++ [(ts T L k, tv T L k)]) := by
        refine ⟨uI_self.trans (by rw [List.length_append]; rfl), fun i hi => ?_⟩
        rw [List.length_append, List.length_singleton] at hi
        refine ⟨?_, ?_⟩
        · rw [rd_off (by omega), rd_off (by omega), gd_snoc]
          by_cases ei : i = l.length
          · rw [if_pos ei, ei]; exact uI_self
          · rw [if_neg ei, rd_ne ei]; exact (n2 i (by omega)).1
        · rw [rd_off (by omega), gd_snoc]
          by_cases ei : i = l.length
          · rw [if_pos ei, ei]; exact uI_self
          · rw [if_neg ei, rd_ne ei, rd_off (by omega)]; exact (n2 i (by omega)).2
      have mt : MTk (uI (uI (uI σ 84 l.length (nI (ts T L k))) 85 l.length (nI (tv T L k))) 58 41 (nI (l.length + 1))) T L k := ((b2.off (by omega)).off (by omega)).u (by omega)
      have bd : sI (uI (uI (uI σ 84 l.length (nI (ts T L k))) 85 l.length (nI (tv T L k))) 58 41 (nI (l.length + 1))) 58 32 = nI 0 := (rd_ne (by omega)).trans ((rd_off (by omega)).trans ((rd_off (by omega)).trans b1))
      refine CT.of (by decide) (Nat.le_of_ble_eq_true rfl) ?_
      refine q_aload_n dX9_block_0 rfl rfl rfl ?_
      refine q_geti (x := nI 0) dX9_block_1 fX9_110 rfl (ty_c hS (by decide) rfl) b1 ?_
      refine q_if_leN (tgt := 9) dX9_block_4 (by decide) (by omega) (fun _ => ?_) (fun h => absurd h (by decide))
      refine q_aload_n dX9_block_9 rfl rfl rfl ?_
      refine q_bipush (v := nI 98) dX9_block_10 rfl ?_
      refine q_bipush (v := nI 39) dX9_block_12 rfl ?_
      refine q_callV (As := [.int (nI 98), .int (nI 39)]) (rest := []) dX9_block_14 vX9_225 (ty_c hS (by decide) rfl) ⟨by decide, rfl⟩ (hb ▸ z9_numbered hS) rfl rfl (Nat.le_of_ble_eq_true rfl) (by omega) (by omega) (by omega) (k_p ?_)
      refine q_istore_n dX9_block_17 rfl (by decide) (ls' := [(1, .int (nI (tv T L k))), (0, .ref 58)]) rfl ?_
      refine q_aload_n dX9_block_18 rfl rfl rfl ?_
      refine q_iload_n dX9_block_19 rfl rfl ?_
      refine q_if_ltN (tgt := 27) dX9_block_20 (by decide) (by omega) ?_
      refine q_iconst (v := nI 1) dX9_block_23 rfl ?_
      refine q_goto (tgt := 28) dX9_block_24 (by decide) ?_
      refine q_iconst (v := nI 2) dX9_block_28 rfl ?_
      refine q_callV (As := [.int (nI 1), .int (nI 2)]) (rest := []) dX9_block_29 vX9_232 (ty_c hS (by decide) rfl) ⟨by decide, rfl⟩ (z9_must_y hS b1) rfl rfl (Nat.le_of_ble_eq_true rfl) (by omega) (by omega) (by omega) (k_p ?_)
      refine q_if_neB (tgt := 37) dX9_block_32 (by decide) (fun _ => ?_) (fun h => absurd h (by decide))
      refine q_aload_n dX9_block_37 rfl rfl rfl ?_
      refine q_getr (r := 84) dX9_block_38 fX9_132 rfl (ty_c hS (by decide) rfl) (hS.2 58 39 84 rfl) ?_
      refine q_aload_n dX9_block_41 rfl rfl rfl ?_
      refine q_geti (x := nI l.length) dX9_block_42 fX9_138 rfl (ty_c hS (by decide) rfl) n1 ?_
      refine q_aload_n dX9_block_45 rfl rfl rfl ?_
      refine q_geti (x := nI (ts T L k)) dX9_block_46 fX9_20 rfl (ty_c hS (by decide) rfl) h3 ?_
      refine q_iast (j := l.length) dX9_block_49 (ty_c hS (by decide) rfl) (ix_n (by omega) (by omega)) ?_
      refine q_aload_n dX9_block_50 rfl rfl rfl ?_
      refine q_getr (r := 85) dX9_block_51 fX9_135 rfl (ty_c hS (by decide) rfl) (hS.2 58 40 85 rfl) ?_
      refine q_aload_n dX9_block_54 rfl rfl rfl ?_
      refine q_geti (x := nI l.length) dX9_block_55 fX9_138 rfl (ty_c hS (by decide) rfl) (Eq.trans (rd_off (by decide)) n1) ?_
      refine q_iload_n dX9_block_58 rfl rfl ?_
      refine q_iast (j := l.length) dX9_block_59 (ty_c hS (by decide) rfl) (ix_n (by omega) (by omega)) ?_
      refine q_aload_n dX9_block_60 rfl rfl rfl ?_
      refine q_dup dX9_block_61 rfl ?_
      refine q_geti (x := nI l.length) dX9_block_62 fX9_138 rfl (ty_c hS (by decide) rfl) (Eq.trans (rd_off (by decide)) (Eq.trans (rd_off (by decide)) n1)) ?_
      refine q_iconst (v := nI 1) dX9_block_65 rfl ?_
      refine q_iaddN dX9_block_66 ?_
      refine q_puti dX9_block_67 fX9_138 rfl (Or.inl rfl) (ty_c hS (by decide) rfl) ?_
      refine q_aload_n dX9_block_70 rfl rfl rfl ?_
      refine q_callV (As := []) (rest := []) dX9_block_71 vX9_236 (ty_c hS (by decide) rfl) ⟨by decide, rfl⟩ (z9_nextM (σ := (uI (uI (uI σ 84 l.length (nI (ts T L k))) 85 l.length (nI (tv T L k))) 58 41 (nI (l.length + 1)))) hS (hT.bl fr) mt) rfl rfl (Nat.le_of_ble_eq_true rfl) (by omega) (by omega) (by omega) (k_v (fun s71 q71 => ?_))
      refine q_iload_n dX9_block_74 rfl rfl ?_
      refine q_ireturn dX9_block_75 rfl rfl (by omega) (by omega) ?_
      refine ⟨_, rfl, ?_, fun k' k2 e1 e2 => ?_, fr.tr (q71.1.lb.mono fun _ _ z => Or.inl z)⟩
      · rw [e]; exact ⟨bs_next bd q71.1, q71.2⟩
      · cases e1; exact ⟨rfl, nl.lb q71.1.lb⟩
    · rw [if_neg h] at hb
      have e : (Except.ok k : PR Nat).bind (pWy T L) = .error (er T L k 2) := if_neg h
      have e' : pWy T L k = .error (er T L k 2) := if_neg h
      refine CT.of (by decide) (Nat.le_of_ble_eq_true rfl) ?_
      refine q_aload_n dX9_block_0 rfl rfl rfl ?_
      refine q_geti (x := nI 0) dX9_block_1 fX9_110 rfl (ty_c hS (by decide) rfl) b1 ?_
      refine q_if_leN (tgt := 9) dX9_block_4 (by decide) (by omega) (fun _ => ?_) (fun h => absurd h (by decide))
      refine q_aload_n dX9_block_9 rfl rfl rfl ?_
      refine q_bipush (v := nI 98) dX9_block_10 rfl ?_
      refine q_bipush (v := nI 39) dX9_block_12 rfl ?_
      refine q_callV (As := [.int (nI 98), .int (nI 39)]) (rest := []) dX9_block_14 vX9_225 (ty_c hS (by decide) rfl) ⟨by decide, rfl⟩ (hb ▸ z9_numbered hS) rfl rfl (Nat.le_of_ble_eq_true rfl) (by omega) (by omega) (by omega) (k_p ?_)
      refine q_istore_n dX9_block_17 rfl (by decide) (ls' := [(1, .int (-1)), (0, .ref 58)]) rfl ?_
      refine q_aload_n dX9_block_18 rfl rfl rfl ?_
      refine q_iload_n dX9_block_19 rfl rfl ?_
      refine q_if_lt1 (tgt := 27) dX9_block_20 (by decide) (by decide) ?_
      refine q_iconst (v := nI 0) dX9_block_27 rfl ?_
      refine q_iconst (v := nI 2) dX9_block_28 rfl ?_
      refine q_callV (As := [.int (nI 0), .int (nI 2)]) (rest := []) dX9_block_29 vX9_232 (ty_c hS (by decide) rfl) ⟨by decide, rfl⟩ (z9_must_n hS b1 b2 (by omega)) rfl rfl (Nat.le_of_ble_eq_true rfl) (by omega) (by omega) (by omega) (k_p ?_)
      refine q_if_neB (tgt := 37) dX9_block_32 (by decide) (fun h => absurd h (by decide)) (fun _ => ?_)
      refine q_iconst (v := nI 0) dX9_block_35 rfl ?_
      refine q_ireturn dX9_block_36 rfl rfl (by omega) (by omega) ?_
      refine ⟨_, rfl, ?_, fun k' k2 e1 e2 => ?_, erM_lb.mono fun _ _ z => Or.inl z⟩
      · rw [e]; exact erM_bs (er_b (by omega))
      · cases e1; rw [e'] at e2; cases e2
end MFS
