/-! A ROUTINE that is finished. -/
def RTN (σ : HS) (b : Nat) (q : PS) : Prop := RB σ b ∧ BC q ∧ WFs q ∧ NB q ∧ psX q = false ∧ 0 < (psF q).length ∧ sI σ b 12 = nI (psF q).length ∧ sI σ b 13 = nI (psS q).length ∧ sI σ b 14 = nI (NN q) ∧ sI σ b 16 = bi (psT q) ∧ SR σ b (psM q) false ∧ (∀ j, j ≤ (psF q).length → sI σ (b + 15) j = nI (nf q j)) ∧ (∀ i, i < NN q → RowS σ b i (rg q i) ∧ sI σ (b + 12) i = oW (ld q 0 i) ∧ sI σ (b + 13) i = oW (ld q 1 i) ∧ sI σ (b + 14) i = nI (cntL q i (NN q))) ∧ FX σ b q
theorem RTN.of {σ σ' : HS} {b : Nat} {q : PS} (h : RTN σ b q) (hb : RB σ' b) (e : ∀ a i, b ≤ a → a < b + 32 → a ≠ b + 16 → ¬ (a = b ∧ i = 15) → sI σ' a i = sI σ a i) : RTN σ' b q := by
  obtain ⟨a1, a2, a3, a4, a5, a6, a7, a8, a9, a10, ⟨s1, s2, s3, s4⟩, a12, a13, f1, f2, f3, f4, f5, f6, f7, f8, f9, f10⟩ := h
  have ef : ∀ o f, 22 ≤ o → o < 32 → FA σ (b + o) q f → FA σ' (b + o) q f := fun o f h1 h2 ha n hn => by rw [e _ _ (by omega) (by omega) (by omega) (by omega)]; exact ha n hn
  refine ⟨hb, a2, a3, a4, a5, a6, ?_, ?_, ?_, ?_, ⟨?_, s2, ?_, fun i hi => ?_⟩, fun j hj => ?_, fun i hi => ?_, ef 22 _ (by omega) (by omega) f1, ef 23 _ (by omega) (by omega) f2, ef 24 _ (by omega) (by omega) f3, ef 25 _ (by omega) (by omega) f4, ef 26 _ (by omega) (by omega) f5, ef 27 _ (by omega) (by omega) f6, ef 28 _ (by omega) (by omega) f7, ef 29 _ (by omega) (by omega) f8, ef 30 _ (by omega) (by omega) f9, ef 31 _ (by omega) (by omega) f10⟩
  · rw [e _ _ (by omega) (by omega) (by omega) (by omega)]; exact a7
  · rw [e _ _ (by omega) (by omega) (by omega) (by omega)]; exact a8
  · rw [e _ _ (by omega) (by omega) (by omega) (by omega)]; exact a9
  · rw [e _ _ (by omega) (by omega) (by omega) (by omega)]; exact a10
  · rw [e _ _ (by omega) (by omega) (by omega) (by omega)]; exact s1
  · rw [e _ _ (by omega) (by omega) (by omega) (by omega)]; exact s3
  · rw [e _ _ (by omega) (by omega) (by omega) (by omega), e _ _ (by omega) (by omega) (by omega) (by omega), e _ _ (by omega) (by omega) (by omega) (by omega)]; exact s4 i hi
  · rw [e _ _ (by omega) (by omega) (by omega) (by omega)]; exact a12 j hj
  · obtain ⟨⟨r1, r2, r3, r4, r5, r6, r7, r8⟩, l1, l2, l3⟩ := a13 i hi
    refine ⟨⟨?_, ?_, ?_, ?_, ?_, ?_, ?_, ?_⟩, ?_, ?_, ?_⟩
    all_goals rw [e _ _ (by omega) (by omega) (by omega) (by omega)]
    all_goals assumption
theorem NN_pos {q : PS} (hc : BC q) (h0 : 0 < (psF q).length) : 0 < NN q := by
  have h1 := hc.2.2.2.2.1 0 h0
  have h2 := nf_le hc (j := 0 + 1) (by omega)
  unfold NN; omega
theorem y2_fin3 {σ σ1 σ' : HS} {b : Nat} (hb : RB σ' b) {q : PS} (hc : BC q) (hw : WFs q) (hnb : NB q) (hx : psX q = false) (h0 : 0 < (psF q).length) (h : LKg σ b q (psS q).length (XL q (psS q).length).length (-1) (-1)) (k1 : L14 b σ σ1) (k2 : ∀ i, i < 240 → sI σ1 (b + 14) i = nI (cntL q i (NN q))) (k3 : LA b (uI σ1 (b + 21) 10 (mkN (fun _ => true) (psM q).length)) σ') (k4 : FX σ' b q) : RTN σ' b q ∧ sI σ' b 15 = nI 0 := by
  have hNN := NN_le hc
  obtain ⟨l1, l2, l3, l4, l5, l6, l7, l8, l9, -⟩ := h
  have e1 : ∀ a, b ≤ a → a < b + 14 → sI σ' a = sI σ a := fun a h1 h2 => by rw [k3.2.2.2 a (by omega), uI_off (by omega)]; exact k1.2.2.2 a (by omega)
  have e2 : ∀ a, b + 15 ≤ a → a < b + 21 → sI σ' a = sI σ a := fun a h1 h2 => by rw [k3.2.2.2 a (by omega), uI_off (by omega)]; exact k1.2.2.2 a (by omega)
  have e3 : sI σ' (b + 14) = sI σ1 (b + 14) := by rw [k3.2.2.2 _ (by omega), uI_off (by omega)]
  refine ⟨⟨hb, hc, hw, hnb, hx, h0, ?_, ?_, ?_, ?_, SR.eq (by rw [← hx]; exact l6) (fun a g1 g2 => e2 a (by omega) (by omega)), fun j hj => ?_, fun i hi => ?_, k4⟩, ?_⟩
  · rw [e1 b (by omega) (by omega)]; exact l1
  · rw [e1 b (by omega) (by omega)]; exact l2
  · rw [e1 b (by omega) (by omega)]; exact l3
  · rw [e1 b (by omega) (by omega)]; exact l5
  · rw [e2 (b + 15) (by omega) (by omega)]; exact l7 j hj
  · obtain ⟨r1, r2, r3, r4, r5, r6, r7, r8⟩ := l8 i hi
    obtain ⟨m1, m2⟩ := l9 i (by unfold NN at hi; omega)
    rw [e1 (b + 12) (by omega) (by omega), e1 (b + 13) (by omega) (by omega), e3]
    refine ⟨⟨?_, ?_, ?_, ?_, ?_, ?_, ?_, ?_⟩, m1, m2, k2 i (by omega)⟩
    all_goals rw [e1 _ (by omega) (by omega)]
    all_goals assumption
  · rw [e1 b (by omega) (by omega)]; exact l4
theorem y2_fin2 {g : GG} {σ0 σ : HS} {b : Nat} (hb0 : RB σ0 b) {q : PS} (hc : BC q) (hw : WFs q) (hnb : NB q) (hx : psX q = false) (h0 : 0 < (psF q).length) (h1 : LF b σ0 σ) (h : LKg σ b q (psS q).length (XL q (psS q).length).length (-1) (-1)) : WA g mX2_finish 4 0 0 (ZM g (fun r σ' => r = none ∧ LF b σ0 σ' ∧ RTN σ' b q ∧ sI σ' b 15 = nI 0) 0 0) 0 0 21 [(0, .ref b)] [] σ := by
  have hb14 : b = 14 ∨ 99 ≤ b := by rcases hb0.1 with h | ⟨j, h⟩ <;> omega
  have hN := NN_pos hc h0
  have hb := RB.lf h1 hb0
  obtain ⟨l1, l2, l3, l4, l5, l6, l7, l8, l9, -⟩ := id h
  have hld : ∀ i, i < NN q → sI σ (b + 12) i = oW (ld q 0 i) ∧ sI σ (b + 13) i = oW (ld q 1 i) := fun i hi => l9 i (by unfold NN at hi; omega)
  refine q_aload_n dX2_finish_21 rfl rfl rfl ?_
  refine q_callV (As := []) (rest := []) dX2_finish_22 vX2_95 (ty_r hb 0 rfl) ⟨by decide, rfl⟩ (z2_countLedBy hb hc hw hnb l3 hld) rfl rfl (Nat.le_of_ble_eq_true rfl) (by omega) (by omega) (by omega) (k_v (fun s22 q22 => ?_))
  obtain ⟨k1, k2⟩ := q22
  have h3 := h1.tr k1.lf
  have hb2 := RB.lf h3 hb0
  have e1 : ∀ a, a ≠ b + 14 → sI s22 a = sI σ a := k1.2.2.2
  have hf0 : FE0 s22 b q := ⟨hb2, hc, hw, hnb, hx, by rw [e1 _ (by omega)]; exact l3, SR.eq (by rw [← hx]; exact l6) (fun a _ _ => e1 a (by omega)), fun i hi => by
      obtain ⟨r1, r2, r3, r4, r5, r6, r7, r8⟩ := l8 i hi
      rw [e1 _ (by omega), e1 _ (by omega), e1 _ (by omega), e1 _ (by omega), e1 _ (by omega)]
      exact ⟨r1, r3, r6, hld i hi⟩⟩
  refine q_aload_n dX2_finish_25 rfl rfl rfl ?_
  refine q_getr (r := b + 21) dX2_finish_26 fX2_54 rfl (ty_r hb2 0 rfl) (hb2.2.2 0 11 21 rfl) ?_
  refine q_aload_n dX2_finish_29 rfl rfl rfl ?_
  refine q_callV (As := [.ref b]) (rest := []) dX2_finish_30 vX2_98 (ty_r hb2 21 rfl) ⟨by decide, rfl⟩ (z0_find hf0 hN) rfl rfl (Nat.le_of_ble_eq_true rfl) (by omega) (by omega) (by omega) (k_v (fun s30 q30 => ?_))
  obtain ⟨k3, k4⟩ := q30
  have k5 : LF b s22 (uI s22 (b + 21) 10 (mkN (fun _ => true) (psM q).length)) := LF.rf.uI (by omega)
  have h4 := (h3.tr k5).tr k3.lf
  have hb3 := RB.lf h4 hb0
  refine q_return dX2_finish_33 rfl (by omega) (by omega) ?_
  exact ⟨rfl, h4, y2_fin3 hb3 hc hw hnb hx h0 h k1 k2 k3 k4⟩
theorem z2_finish {g : GG} {σ : HS} {b : Nat} (hb : RB σ b) {q : PS} (hc : BC q) (hw : WFs q) (hnb : NB q) (hx : psX q = false) (h0 : 0 < (psF q).length) (hp : PSR σ b q) : CT g mX2_finish 4 0 0 [.ref b] σ (fun r σ' => r = none ∧ LF b σ σ' ∧ RTN σ' b q ∧ sI σ' b 15 = nI 0) := by
  have hb14 : b = 14 ∨ 99 ≤ b := by rcases hb.1 with h | ⟨j, h⟩ <;> omega
  have hN := NN_pos hc h0
  refine CT.of (by decide) (Nat.le_of_ble_eq_true rfl) ?_
  refine q_iconst (v := nI 0) dX2_finish_0 rfl ?_
  refine q_istore_n dX2_finish_1 rfl (by decide) (ls' := [(1, .int (nI 0)), (0, .ref b)]) rfl ?_
  refine q_pk [1, 0] (ls' := [(0, .ref b), (1, .int (nI 0))]) rfl ?_
  refine y2_link hb hc hw hnb (by omega) (fun σ1 h1 h2 => ?_) (psS q).length 0 _ (by omega) LF.rf (PSR_LK hp h0)
  exact y2_fin2 hb hc hw hnb hx h0 h1 h2
