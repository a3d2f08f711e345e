/-! The class's parser: the whole text. -/
/-- the words of a text and its blocks are looked at -/
def BFt (b : Nat) (σ σ' : HS) : Prop := sL σ' = sL σ ∧ sR σ' = sR σ ∧ sN σ' = sN σ ∧ ∀ h, ¬ ((5 ≤ h ∧ h ≤ 13) ∨ (b ≤ h ∧ h < b + 32)) → sI σ' h = sI σ h
theorem BFt.rf {b : Nat} {σ : HS} : BFt b σ σ := ⟨rfl, rfl, rfl, fun _ _ => rfl⟩
theorem BFt.uI {b : Nat} {σ σ' : HS} {h i : Nat} {v : Int32} (k : BFt b σ σ') (hh : (5 ≤ h ∧ h ≤ 13) ∨ (b ≤ h ∧ h < b + 32)) : BFt b σ (uI σ' h i v) := ⟨k.1, k.2.1, k.2.2.1, fun a ha => (uI_off (fun e => ha (by rw [e]; exact hh))).trans (k.2.2.2 a ha)⟩
theorem BFt.tr {b : Nat} {σ σ' σ'' : HS} (k : BFt b σ σ') (k2 : BFt b σ' σ'') : BFt b σ σ'' := ⟨k2.1.trans k.1, k2.2.1.trans k.2.1, k2.2.2.1.trans k.2.2.1, fun a ha => (k2.2.2.2 a ha).trans (k.2.2.2 a ha)⟩
theorem BFr.t {b : Nat} {σ σ' : HS} (k : BFr b σ σ') : BFt b σ σ' := ⟨k.1, k.2.1, k.2.2.1, fun a ha => k.2.2.2 a (by omega)⟩
theorem SK.bt {b : Nat} {σ σ' : HS} (h : BFt b σ σ') (k : SK σ) : SK σ' := ⟨by rw [h.2.2.1]; exact k.1, fun a c q r => by rw [h.2.1]; exact k.2 a c q r⟩
theorem RB.bt {b c : Nat} {σ σ' : HS} (h : BFt b σ σ') (k : RB σ c) : RB σ' c := ⟨k.1, by rw [h.2.2.1]; exact k.2.1, fun o q r w => by rw [h.2.1]; exact k.2.2 o q r w⟩
/-- what parse comes to: a FAULT or a ROUTINE -/
def PAll (T : Nat → Nat) (L : Nat) : (Nat × Nat) ⊕ PS → Prop
  | .inl e => pAll T L = .error e ∨ ∃ q, pAll T L = .ok q ∧ (PE4 q e ∨ (NB q ∧ (FN q (Rch q) 5 e ∨ ((∀ i, i < (psF q).length → Rch q i) ∧ FN q (Lvs q) 6 e))))
  | .inr q => pAll T L = .ok q ∧ NB q ∧ (∀ i, i < (psF q).length → Rch q i) ∧ ∀ i, i < (psF q).length → Lvs q i
/-- behind readText -/
def TQ (b : Nat) (σ : HS) (T : Nat → Nat) (L : Nat) : Option Value → HS → Prop := fun r σ' => BFt b σ σ' ∧ ((∃ e, r = some (.int (bi false)) ∧ PAll T L (.inl e) ∧ sI σ' 5 6 = nI e.1 ∧ sI σ' 5 7 = nI e.2) ∨ ∃ q, r = some (.int (bi true)) ∧ PAll T L (.inr q) ∧ sI σ' 5 6 = nI 0 ∧ PSR σ' b q ∧ BC q ∧ WFs q ∧ 0 < (psF q).length)
theorem TQ_er {b : Nat} {σ σ' : HS} {T : Nat → Nat} {L : Nat} {e : Nat × Nat} (hf : BFt b σ σ') (h : PAll T L (.inl e)) : TQ b σ T L (some (.int (bi false))) (erS σ' e) := ⟨(hf.uI (Or.inl ⟨by decide, by decide⟩)).uI (Or.inl ⟨by decide, by decide⟩), Or.inl ⟨e, rfl, h, (rd_ne (by decide)).trans uI_self, uI_self⟩⟩
theorem pSts_lt {T : Nat → Nat} {L N : Nat} (hN : ts T L N = L) {r : Nat × PS} : ∀ (f b k : Nat) (q : PS), pSts T L b f k q = .ok r → r.1 ≤ N := by
  intro f
  induction f with
  | zero => intro b k q h; cases h
  | succ f ih =>
    intro b k q h
    obtain ⟨kd, s, k1, t, x1, x2, x3, x4, x5⟩ := pSts_ok h
    rcases x5 with ⟨z1, z2⟩ | ⟨z1, z2⟩
    · rw [z2]; exact (pSg_lt hN x4).2
    · exact ih _ _ _ z2
theorem pBk_lt {T : Nat → Nat} {L N b k : Nat} (hN : ts T L N = L) {q : PS} {r : Nat × PS} (h : pBk T L b k q = .ok r) : r.1 ≤ N := pSts_lt hN _ _ _ _ (pBk_ok h).2.2.2
theorem least {P : Nat → Prop} : ∀ n, (∃ i, i < n ∧ ¬ P i) → ∃ j, j < n ∧ (∀ i, i < j → P i) ∧ ¬ P j
  | 0, ⟨i, h, _⟩ => absurd h (by omega)
  | n + 1, ⟨i, h, h2⟩ => by
    by_cases e : ∃ i, i < n ∧ ¬ P i
    · obtain ⟨j, h3, h4, h5⟩ := least n e
      exact ⟨j, by omega, h4, h5⟩
    · have h6 : ∀ a, a < n → P a := fun a ha => Classical.byContradiction fun h7 => e ⟨a, ha, h7⟩
      by_cases ei : i < n
      · exact absurd (h6 i ei) h2
      · have : i = n := by omega
        subst this
        exact ⟨i, by omega, h6, h2⟩
theorem FN_ex {q : PS} {f : Nat → Prop} {w : Nat} (h : ¬ ∀ i, i < (psF q).length → f i) : ∃ e, FN q f w e := by
  have h2 : ∃ i, i < (psF q).length ∧ ¬ f i := Classical.byContradiction fun h3 => h fun i hi => Classical.byContradiction fun h4 => h3 ⟨i, hi, h4⟩
  obtain ⟨j, h3, h4, h5⟩ := least _ h2
  exact ⟨_, j, h3, h4, h5, rfl⟩
theorem PE4_ex {q : PS} (h : ¬ NB q) : ∃ e, PE4 q e := by
  have h2 : ∃ i, i < (psF q).length ∧ ¬ (¬ nbad q 0 i ∧ ¬ nbad q 1 i) := Classical.byContradiction fun h3 => h fun i hi => Classical.byContradiction fun h4 => h3 ⟨i, hi, h4⟩
  obtain ⟨j, h3, h4, h5⟩ := least (P := fun i => ¬ nbad q 0 i ∧ ¬ nbad q 1 i) _ h2
  by_cases e : nbad q 0 j
  · exact ⟨_, j, h3, h4, Or.inl ⟨e, rfl⟩⟩
  · refine ⟨_, j, h3, h4, Or.inr ⟨e, ?_, rfl⟩⟩
    exact Classical.byContradiction fun h6 => h5 ⟨e, h6⟩
section TXT
variable {g : GG} {σ0 : HS} {b : Nat} {T : Nat → Nat} {L N : Nat}
theorem y1_blocks_ok (hS0 : SK σ0) (hb0 : RB σ0 b) (hR0 : sR σ0 5 5 = b) (hC0 : PCt σ0 T L N) (hT : ∀ i, i < L → T i < 256) {Z : List Frame → Array Value → State → State → Prop} {q' : PS} (K : ∀ σ, BFr b σ0 σ → PSR σ b q' → BC q' → WFs q' → 0 < (psF q').length → sI σ 5 6 = nI 0 → WA g mX1_readText 9 0 0 Z 0 0 75 [(0, .ref 5)] [] σ) : ∀ (f i k : Nat) (q : PS) (σ : HS), i + f = 40 → (psF q).length = i → BFr b σ0 σ → PSR σ b q → BC q → WFs q → sI σ 5 3 = nI k → k ≤ N → sI σ 5 6 = nI 0 → pBks T L f i k q = .ok q' → WA g mX1_readText 9 0 0 Z 0 0 27 [(0, .ref 5), (2, .int (nI i))] [] σ := by
  have hb14 : b = 14 ∨ 99 ≤ b := by rcases hb0.1 with h | ⟨j, h⟩ <;> omega
  intro f
  induction f with
  | zero =>
    intro i k q σ hi hF h0 hP hc hw hk hkN hf hx
    have hS := SK.bf h0 hS0
    have hC := PCt.bf hb14 h0 hC0
    unfold pBks at hx
    by_cases h1 : tk T L k = 0
    · rw [if_pos h1] at hx
      cases hx
      refine q_iload_n dX1_readText_27 rfl rfl ?_
      refine q_bipush (v := nI 40) dX1_readText_28 rfl ?_
      refine q_icmp_geN (tgt := 61) dX1_readText_30 (by decide) (by omega) (by omega) (fun c30 => ?_) (fun c30 => ?_)
      · skip
        refine q_aload_n dX1_readText_61 rfl rfl rfl ?_
        refine q_iconst (v := nI 0) dX1_readText_62 rfl ?_
        refine q_callV (As := [.int (nI 0)]) (rest := []) dX1_readText_63 vX1_48 (ty_c hS (by decide) rfl) ⟨by decide, rfl⟩ (z1_isNow_t hS hC hk hkN (by decide) h1) rfl rfl (Nat.le_of_ble_eq_true rfl) (by omega) (by omega) (by omega) (k_p ?_)
        refine q_if_neB (tgt := 75) dX1_readText_66 (by decide) (fun _ => ?_) (fun h => absurd h (by decide))
        refine q_pk [0] (ls' := [(0, .ref 5)]) rfl ?_
        exact K _ h0 hP hc hw (by omega) hf
      · exact absurd c30 (by omega)
    · rw [if_neg h1] at hx; cases hx
  | succ f ih =>
    intro i k q σ hi hF h0 hP hc hw hk hkN hf hx
    have hS := SK.bf h0 hS0
    have hb := RB.bf h0 hb0
    have hR : sR σ 5 5 = b := by rw [h0.2.1]; exact hR0
    have hC := PCt.bf hb14 h0 hC0
    unfold pBks at hx
    by_cases h1 : i ≠ 0 ∧ tk T L k = 0
    · rw [if_pos h1] at hx
      cases hx
      refine q_iload_n dX1_readText_27 rfl rfl ?_
      refine q_bipush (v := nI 40) dX1_readText_28 rfl ?_
      refine q_icmp_geN (tgt := 61) dX1_readText_30 (by decide) (by omega) (by omega) (fun c30 => ?_) (fun c30 => ?_)
      · exact absurd c30 (by omega)
      · skip
        refine q_iload_n dX1_readText_33 rfl rfl ?_
        refine q_if_eqN (tgt := 45) dX1_readText_34 (by decide) (by omega) (fun c34 => ?_) (fun c34 => ?_)
        · exact absurd c34 h1.1
        · skip
          refine q_aload_n dX1_readText_37 rfl rfl rfl ?_
          refine q_iconst (v := nI 0) dX1_readText_38 rfl ?_
          refine q_callV (As := [.int (nI 0)]) (rest := []) dX1_readText_39 vX1_48 (ty_c hS (by decide) rfl) ⟨by decide, rfl⟩ (z1_isNow_t hS hC hk hkN (by decide) h1.2) rfl rfl (Nat.le_of_ble_eq_true rfl) (by omega) (by omega) (by omega) (k_p ?_)
          refine q_if_neB (tgt := 61) dX1_readText_42 (by decide) (fun _ => ?_) (fun h => absurd h (by decide))
          refine q_aload_n dX1_readText_61 rfl rfl rfl ?_
          refine q_iconst (v := nI 0) dX1_readText_62 rfl ?_
          refine q_callV (As := [.int (nI 0)]) (rest := []) dX1_readText_63 vX1_48 (ty_c hS (by decide) rfl) ⟨by decide, rfl⟩ (z1_isNow_t hS hC hk hkN (by decide) h1.2) rfl rfl (Nat.le_of_ble_eq_true rfl) (by omega) (by omega) (by omega) (k_p ?_)
          refine q_if_neB (tgt := 75) dX1_readText_66 (by decide) (fun _ => ?_) (fun h => absurd h (by decide))
          refine q_pk [0] (ls' := [(0, .ref 5)]) rfl ?_
          exact K _ h0 hP hc hw (by omega) hf
    · rw [if_neg h1] at hx
      simp only [bd_ok] at hx
      obtain ⟨⟨k2, q2⟩, a1, a2⟩ := hx
      subst hF
      obtain ⟨w1, w2, w3⟩ := pBk_w hT hc hw (by omega) a1
      refine q_iload_n dX1_readText_27 rfl rfl ?_
      refine q_bipush (v := nI 40) dX1_readText_28 rfl ?_
      refine q_icmp_geN (tgt := 61) dX1_readText_30 (by decide) (by omega) (by omega) (fun c30 => ?_) (fun c30 => ?_)
      · exact absurd c30 (by omega)
      · skip
        refine q_iload_n dX1_readText_33 rfl rfl ?_
        refine q_if_eqN (tgt := 45) dX1_readText_34 (by decide) (by omega) (fun c34 => ?_) (fun c34 => ?_)
        · skip
          refine q_aload_n dX1_readText_45 rfl rfl rfl ?_
          refine q_iload_n dX1_readText_46 rfl rfl ?_
          refine q_callV (As := [.int (nI ((psF q).length))]) (rest := []) dX1_readText_47 vX1_52 (ty_c hS (by decide) rfl) ⟨by decide, rfl⟩ (z1_readBlock_ok hS hb hR hC hT hk hkN hP (by omega) hc.1 (BC_LB hc) hc.2.2.1 a1) rfl rfl (Nat.le_of_ble_eq_true rfl) (by omega) (by omega) (by omega) (k_w (fun s47 q47 => ?_))
          refine q_if_neB (tgt := 55) dX1_readText_50 (by decide) (fun _ => ?_) (fun h => absurd h (by decide))
          refine q_iincN (c := 1) dX1_readText_55 rfl (by decide) rfl (ls' := [(2, .int (nI ((psF q).length + 1))), (0, .ref 5)]) rfl ?_
          refine q_goto (tgt := 27) dX1_readText_58 (by decide) ?_
          refine q_pk [1, 0] (ls' := [(0, .ref 5), (2, .int (nI ((psF q).length + 1)))]) rfl ?_
          exact ih _ k2 q2 s47 (by omega) w3 (h0.tr q47.1) q47.2.2.2 w1 w2 q47.2.1 (pBk_lt hC.2.2.2.1 a1) (q47.2.2.1.trans hf) a2
        · skip
          refine q_aload_n dX1_readText_37 rfl rfl rfl ?_
          refine q_iconst (v := nI 0) dX1_readText_38 rfl ?_
          refine q_callV (As := [.int (nI 0)]) (rest := []) dX1_readText_39 vX1_48 (ty_c hS (by decide) rfl) ⟨by decide, rfl⟩ (z1_isNow_f hS hC hk hkN (by decide) (fun h => h1 ⟨c34, h⟩)) rfl rfl (Nat.le_of_ble_eq_true rfl) (by omega) (by omega) (by omega) (k_p ?_)
          refine q_if_neB (tgt := 61) dX1_readText_42 (by decide) (fun h => absurd h (by decide)) (fun _ => ?_)
          refine q_aload_n dX1_readText_45 rfl rfl rfl ?_
          refine q_iload_n dX1_readText_46 rfl rfl ?_
          refine q_callV (As := [.int (nI ((psF q).length))]) (rest := []) dX1_readText_47 vX1_52 (ty_c hS (by decide) rfl) ⟨by decide, rfl⟩ (z1_readBlock_ok hS hb hR hC hT hk hkN hP (by omega) hc.1 (BC_LB hc) hc.2.2.1 a1) rfl rfl (Nat.le_of_ble_eq_true rfl) (by omega) (by omega) (by omega) (k_w (fun s47 q47 => ?_))
          refine q_if_neB (tgt := 55) dX1_readText_50 (by decide) (fun _ => ?_) (fun h => absurd h (by decide))
          refine q_iincN (c := 1) dX1_readText_55 rfl (by decide) rfl (ls' := [(2, .int (nI ((psF q).length + 1))), (0, .ref 5)]) rfl ?_
          refine q_goto (tgt := 27) dX1_readText_58 (by decide) ?_
          refine q_pk [1, 0] (ls' := [(0, .ref 5), (2, .int (nI ((psF q).length + 1)))]) rfl ?_
          exact ih _ k2 q2 s47 (by omega) w3 (h0.tr q47.1) q47.2.2.2 w1 w2 q47.2.1 (pBk_lt hC.2.2.2.1 a1) (q47.2.2.1.trans hf) a2
theorem y1_blocks_er (hS0 : SK σ0) (hb0 : RB σ0 b) (hR0 : sR σ0 5 5 = b) (hC0 : PCt σ0 T L N) (hT : ∀ i, i < L → T i < 256) {e : Nat × Nat} {Q : Option Value → HS → Prop} (hQ : ∀ σ', BadS b σ0 σ' e → Q (some (.int (bi false))) σ') : ∀ (f i k : Nat) (q : PS) (σ : HS), i + f = 40 → (psF q).length = i → BFr b σ0 σ → PSR σ b q → BC q → WFs q → sI σ 5 3 = nI k → k ≤ N → pBks T L f i k q = .error e → WA g mX1_readText 9 0 0 (ZM g Q 0 0) 0 0 27 [(0, .ref 5), (2, .int (nI i))] [] σ := by
  have hb14 : b = 14 ∨ 99 ≤ b := by rcases hb0.1 with h | ⟨j, h⟩ <;> omega
  intro f
  induction f with
  | zero =>
    intro i k q σ hi hF h0 hP hc hw hk hkN hx
    have hS := SK.bf h0 hS0
    have hC := PCt.bf hb14 h0 hC0
    unfold pBks at hx
    by_cases h1 : tk T L k = 0
    · rw [if_pos h1] at hx; cases hx
    · rw [if_neg h1] at hx
      cases hx
      refine q_iload_n dX1_readText_27 rfl rfl ?_
      refine q_bipush (v := nI 40) dX1_readText_28 rfl ?_
      refine q_icmp_geN (tgt := 61) dX1_readText_30 (by decide) (by omega) (by omega) (fun c30 => ?_) (fun c30 => ?_)
      · skip
        refine q_aload_n dX1_readText_61 rfl rfl rfl ?_
        refine q_iconst (v := nI 0) dX1_readText_62 rfl ?_
        refine q_callV (As := [.int (nI 0)]) (rest := []) dX1_readText_63 vX1_48 (ty_c hS (by decide) rfl) ⟨by decide, rfl⟩ (z1_isNow_f hS hC hk hkN (by decide) h1) rfl rfl (Nat.le_of_ble_eq_true rfl) (by omega) (by omega) (by omega) (k_p ?_)
        refine q_if_neB (tgt := 75) dX1_readText_66 (by decide) (fun h => absurd h (by decide)) (fun _ => ?_)
        refine q_aload_n dX1_readText_69 rfl rfl rfl ?_
        refine q_iconst (v := nI 3) dX1_readText_70 rfl ?_
        refine q_callV (As := [.int (nI 3)]) (rest := []) dX1_readText_71 vX1_55 (ty_c hS (by decide) rfl) ⟨by decide, rfl⟩ (z1_refuse hS hC hk hkN) rfl rfl (Nat.le_of_ble_eq_true rfl) (by omega) (by omega) (by omega) (k_p ?_)
        refine q_ireturn dX1_readText_74 rfl (bi_nar _) (by omega) (by omega) ?_
        exact hQ _ (BadS.er h0)
      · exact absurd c30 (by omega)
  | succ f ih =>
    intro i k q σ hi hF h0 hP hc hw hk hkN hx
    have hS := SK.bf h0 hS0
    have hb := RB.bf h0 hb0
    have hR : sR σ 5 5 = b := by rw [h0.2.1]; exact hR0
    have hC := PCt.bf hb14 h0 hC0
    unfold pBks at hx
    by_cases h1 : i ≠ 0 ∧ tk T L k = 0
    · rw [if_pos h1] at hx; cases hx
    · rw [if_neg h1] at hx
      simp only [bd_er] at hx
      subst hF
      rcases hx with a1 | ⟨⟨k2, q2⟩, a1, a2⟩
      · skip
        refine q_iload_n dX1_readText_27 rfl rfl ?_
        refine q_bipush (v := nI 40) dX1_readText_28 rfl ?_
        refine q_icmp_geN (tgt := 61) dX1_readText_30 (by decide) (by omega) (by omega) (fun c30 => ?_) (fun c30 => ?_)
        · exact absurd c30 (by omega)
        · skip
          refine q_iload_n dX1_readText_33 rfl rfl ?_
          refine q_if_eqN (tgt := 45) dX1_readText_34 (by decide) (by omega) (fun c34 => ?_) (fun c34 => ?_)
          · skip
            refine q_aload_n dX1_readText_45 rfl rfl rfl ?_
            refine q_iload_n dX1_readText_46 rfl rfl ?_
            refine q_callV (As := [.int (nI ((psF q).length))]) (rest := []) dX1_readText_47 vX1_52 (ty_c hS (by decide) rfl) ⟨by decide, rfl⟩ (z1_readBlock_er hS hb hR hC hT hk hkN hP (by omega) hc.1 (BC_LB hc) hc.2.2.1 a1) rfl rfl (Nat.le_of_ble_eq_true rfl) (by omega) (by omega) (by omega) (k_w (fun s47 q47 => ?_))
            refine q_if_neB (tgt := 55) dX1_readText_50 (by decide) (fun h => absurd h (by decide)) (fun _ => ?_)
            refine q_iconst (v := nI 0) dX1_readText_53 rfl ?_
            refine q_ireturn dX1_readText_54 rfl rfl (by omega) (by omega) ?_
            exact hQ _ (BadS.tr h0 q47)
          · skip
            refine q_aload_n dX1_readText_37 rfl rfl rfl ?_
            refine q_iconst (v := nI 0) dX1_readText_38 rfl ?_
            refine q_callV (As := [.int (nI 0)]) (rest := []) dX1_readText_39 vX1_48 (ty_c hS (by decide) rfl) ⟨by decide, rfl⟩ (z1_isNow_f hS hC hk hkN (by decide) (fun h => h1 ⟨c34, h⟩)) rfl rfl (Nat.le_of_ble_eq_true rfl) (by omega) (by omega) (by omega) (k_p ?_)
            refine q_if_neB (tgt := 61) dX1_readText_42 (by decide) (fun h => absurd h (by decide)) (fun _ => ?_)
            refine q_aload_n dX1_readText_45 rfl rfl rfl ?_
            refine q_iload_n dX1_readText_46 rfl rfl ?_
            refine q_callV (As := [.int (nI ((psF q).length))]) (rest := []) dX1_readText_47 vX1_52 (ty_c hS (by decide) rfl) ⟨by decide, rfl⟩ (z1_readBlock_er hS hb hR hC hT hk hkN hP (by omega) hc.1 (BC_LB hc) hc.2.2.1 a1) rfl rfl (Nat.le_of_ble_eq_true rfl) (by omega) (by omega) (by omega) (k_w (fun s47 q47 => ?_))
            refine q_if_neB (tgt := 55) dX1_readText_50 (by decide) (fun h => absurd h (by decide)) (fun _ => ?_)
            refine q_iconst (v := nI 0) dX1_readText_53 rfl ?_
            refine q_ireturn dX1_readText_54 rfl rfl (by omega) (by omega) ?_
            exact hQ _ (BadS.tr h0 q47)
      · obtain ⟨w1, w2, w3⟩ := pBk_w hT hc hw (by omega) a1
        refine q_iload_n dX1_readText_27 rfl rfl ?_
        refine q_bipush (v := nI 40) dX1_readText_28 rfl ?_
        refine q_icmp_geN (tgt := 61) dX1_readText_30 (by decide) (by omega) (by omega) (fun c30 => ?_) (fun c30 => ?_)
        · exact absurd c30 (by omega)
        · skip
          refine q_iload_n dX1_readText_33 rfl rfl ?_
          refine q_if_eqN (tgt := 45) dX1_readText_34 (by decide) (by omega) (fun c34 => ?_) (fun c34 => ?_)
          · skip
            refine q_aload_n dX1_readText_45 rfl rfl rfl ?_
            refine q_iload_n dX1_readText_46 rfl rfl ?_
            refine q_callV (As := [.int (nI ((psF q).length))]) (rest := []) dX1_readText_47 vX1_52 (ty_c hS (by decide) rfl) ⟨by decide, rfl⟩ (z1_readBlock_ok hS hb hR hC hT hk hkN hP (by omega) hc.1 (BC_LB hc) hc.2.2.1 a1) rfl rfl (Nat.le_of_ble_eq_true rfl) (by omega) (by omega) (by omega) (k_w (fun s47 q47 => ?_))
            refine q_if_neB (tgt := 55) dX1_readText_50 (by decide) (fun _ => ?_) (fun h => absurd h (by decide))
            refine q_iincN (c := 1) dX1_readText_55 rfl (by decide) rfl (ls' := [(2, .int (nI ((psF q).length + 1))), (0, .ref 5)]) rfl ?_
            refine q_goto (tgt := 27) dX1_readText_58 (by decide) ?_
            refine q_pk [1, 0] (ls' := [(0, .ref 5), (2, .int (nI ((psF q).length + 1)))]) rfl ?_
            exact ih _ k2 q2 s47 (by omega) w3 (h0.tr q47.1) q47.2.2.2 w1 w2 q47.2.1 (pBk_lt hC.2.2.2.1 a1) a2
          · skip
            refine q_aload_n dX1_readText_37 rfl rfl rfl ?_
            refine q_iconst (v := nI 0) dX1_readText_38 rfl ?_
            refine q_callV (As := [.int (nI 0)]) (rest := []) dX1_readText_39 vX1_48 (ty_c hS (by decide) rfl) ⟨by decide, rfl⟩ (z1_isNow_f hS hC hk hkN (by decide) (fun h => h1 ⟨c34, h⟩)) rfl rfl (Nat.le_of_ble_eq_true rfl) (by omega) (by omega) (by omega) (k_p ?_)
            refine q_if_neB (tgt := 61) dX1_readText_42 (by decide) (fun h => absurd h (by decide)) (fun _ => ?_)
            refine q_aload_n dX1_readText_45 rfl rfl rfl ?_
            refine q_iload_n dX1_readText_46 rfl rfl ?_
            refine q_callV (As := [.int (nI ((psF q).length))]) (rest := []) dX1_readText_47 vX1_52 (ty_c hS (by decide) rfl) ⟨by decide, rfl⟩ (z1_readBlock_ok hS hb hR hC hT hk hkN hP (by omega) hc.1 (BC_LB hc) hc.2.2.1 a1) rfl rfl (Nat.le_of_ble_eq_true rfl) (by omega) (by omega) (by omega) (k_w (fun s47 q47 => ?_))
            refine q_if_neB (tgt := 55) dX1_readText_50 (by decide) (fun _ => ?_) (fun h => absurd h (by decide))
            refine q_iincN (c := 1) dX1_readText_55 rfl (by decide) rfl (ls' := [(2, .int (nI ((psF q).length + 1))), (0, .ref 5)]) rfl ?_
            refine q_goto (tgt := 27) dX1_readText_58 (by decide) ?_
            refine q_pk [1, 0] (ls' := [(0, .ref 5), (2, .int (nI ((psF q).length + 1)))]) rfl ?_
            exact ih _ k2 q2 s47 (by omega) w3 (h0.tr q47.1) q47.2.2.2 w1 w2 q47.2.1 (pBk_lt hC.2.2.2.1 a1) a2
/-- from the blocks' end on -/
theorem y1_text_end {σ : HS} (hS : SK σ) (hb : RB σ b) (hR : sR σ 5 5 = b) {q : PS} (hx : pAll T L = .ok q) (hP : PSR σ b q) (hc : BC q) (hw : WFs q) (h0 : 0 < (psF q).length) (hf : sI σ 5 6 = nI 0) {σ1 : HS} (h1 : BFt b σ1 σ) : WA g mX1_readText 9 0 0 (ZM g (TQ b σ1 T L) 0 0) 0 0 75 [(0, .ref 5)] [] σ := by
  by_cases hn : NB q
  · by_cases hr : ∀ i, i < (psF q).length → Rch q i
    · by_cases hl : ∀ i, i < (psF q).length → Lvs q i
      · skip
        refine q_aload_n dX1_readText_75 rfl rfl rfl ?_
        refine q_callV (As := []) (rest := []) dX1_readText_76 vX1_58 (ty_c hS (by decide) rfl) ⟨by decide, rfl⟩ (z1_named_ok hS hb hR hP hc hw hn) rfl rfl (Nat.le_of_ble_eq_true rfl) (by omega) (by omega) (by omega) (k_p ?_)
        refine q_if_eqB (tgt := 117) dX1_readText_79 (by decide) (fun h => absurd h (by decide)) (fun _ => ?_)
        refine q_aload_n dX1_readText_82 rfl rfl rfl ?_
        refine q_aload_n dX1_readText_83 rfl rfl rfl ?_
        refine q_getr (r := b) dX1_readText_84 fX1_30 rfl (ty_c hS (by decide) rfl) hR ?_
        refine q_callV (As := []) (rest := [.ref 5]) dX1_readText_87 vX1_62 (ty_r hb 0 rfl) ⟨by decide, rfl⟩ (z2_come hb hP hc hw hn h0) rfl rfl (Nat.le_of_ble_eq_true rfl) (by omega) (by omega) (by omega) (k_lp (fun x87 q87 => ?_))
        refine q_iconst (v := nI 5) dX1_readText_90 rfl ?_
        refine q_callV (As := [.long x87, .int (nI 5)]) (rest := []) dX1_readText_91 vX1_66 (ty_c hS (by decide) rfl) ⟨by decide, rfl⟩ (z1_allIn_ok hS hb hR hP hc (fun i _ => q87 i) hr) rfl rfl (Nat.le_of_ble_eq_true rfl) (by omega) (by omega) (by omega) (k_p ?_)
        refine q_if_eqB (tgt := 117) dX1_readText_94 (by decide) (fun h => absurd h (by decide)) (fun _ => ?_)
        refine q_aload_n dX1_readText_97 rfl rfl rfl ?_
        refine q_aload_n dX1_readText_98 rfl rfl rfl ?_
        refine q_getr (r := b) dX1_readText_99 fX1_30 rfl (ty_c hS (by decide) rfl) hR ?_
        refine q_callV (As := []) (rest := [.ref 5]) dX1_readText_102 vX1_70 (ty_r hb 0 rfl) ⟨by decide, rfl⟩ (z2_leave hb hP hc hw hn h0) rfl rfl (Nat.le_of_ble_eq_true rfl) (by omega) (by omega) (by omega) (k_lp (fun x102 q102 => ?_))
        refine q_bipush (v := nI 6) dX1_readText_105 rfl ?_
        refine q_callV (As := [.long x102, .int (nI 6)]) (rest := []) dX1_readText_107 vX1_66 (ty_c hS (by decide) rfl) ⟨by decide, rfl⟩ (z1_allIn_ok hS hb hR hP hc q102 hl) rfl rfl (Nat.le_of_ble_eq_true rfl) (by omega) (by omega) (by omega) (k_p ?_)
        refine q_if_eqB (tgt := 117) dX1_readText_110 (by decide) (fun h => absurd h (by decide)) (fun _ => ?_)
        refine q_iconst (v := nI 1) dX1_readText_113 rfl ?_
        refine q_goto (tgt := 118) dX1_readText_114 (by decide) ?_
        refine q_ireturn dX1_readText_118 rfl rfl (by omega) (by omega) ?_
        exact ⟨h1, Or.inr ⟨q, rfl, ⟨hx, hn, hr, hl⟩, hf, hP, hc, hw, h0⟩⟩
      · obtain ⟨e, he⟩ : ∃ e, FN q (Lvs q) 6 e := FN_ex hl
        refine q_aload_n dX1_readText_75 rfl rfl rfl ?_
        refine q_callV (As := []) (rest := []) dX1_readText_76 vX1_58 (ty_c hS (by decide) rfl) ⟨by decide, rfl⟩ (z1_named_ok hS hb hR hP hc hw hn) rfl rfl (Nat.le_of_ble_eq_true rfl) (by omega) (by omega) (by omega) (k_p ?_)
        refine q_if_eqB (tgt := 117) dX1_readText_79 (by decide) (fun h => absurd h (by decide)) (fun _ => ?_)
        refine q_aload_n dX1_readText_82 rfl rfl rfl ?_
        refine q_aload_n dX1_readText_83 rfl rfl rfl ?_
        refine q_getr (r := b) dX1_readText_84 fX1_30 rfl (ty_c hS (by decide) rfl) hR ?_
        refine q_callV (As := []) (rest := [.ref 5]) dX1_readText_87 vX1_62 (ty_r hb 0 rfl) ⟨by decide, rfl⟩ (z2_come hb hP hc hw hn h0) rfl rfl (Nat.le_of_ble_eq_true rfl) (by omega) (by omega) (by omega) (k_lp (fun x87 q87 => ?_))
        refine q_iconst (v := nI 5) dX1_readText_90 rfl ?_
        refine q_callV (As := [.long x87, .int (nI 5)]) (rest := []) dX1_readText_91 vX1_66 (ty_c hS (by decide) rfl) ⟨by decide, rfl⟩ (z1_allIn_ok hS hb hR hP hc (fun i _ => q87 i) hr) rfl rfl (Nat.le_of_ble_eq_true rfl) (by omega) (by omega) (by omega) (k_p ?_)
        refine q_if_eqB (tgt := 117) dX1_readText_94 (by decide) (fun h => absurd h (by decide)) (fun _ => ?_)
        refine q_aload_n dX1_readText_97 rfl rfl rfl ?_
        refine q_aload_n dX1_readText_98 rfl rfl rfl ?_
        refine q_getr (r := b) dX1_readText_99 fX1_30 rfl (ty_c hS (by decide) rfl) hR ?_
        refine q_callV (As := []) (rest := [.ref 5]) dX1_readText_102 vX1_70 (ty_r hb 0 rfl) ⟨by decide, rfl⟩ (z2_leave hb hP hc hw hn h0) rfl rfl (Nat.le_of_ble_eq_true rfl) (by omega) (by omega) (by omega) (k_lp (fun x102 q102 => ?_))
        refine q_bipush (v := nI 6) dX1_readText_105 rfl ?_
        refine q_callV (As := [.long x102, .int (nI 6)]) (rest := []) dX1_readText_107 vX1_66 (ty_c hS (by decide) rfl) ⟨by decide, rfl⟩ (z1_allIn_er hS hb hR hP hc q102 he) rfl rfl (Nat.le_of_ble_eq_true rfl) (by omega) (by omega) (by omega) (k_p ?_)
        refine q_if_eqB (tgt := 117) dX1_readText_110 (by decide) (fun _ => ?_) (fun h => absurd h (by decide))
        refine q_iconst (v := nI 0) dX1_readText_117 rfl ?_
        refine q_ireturn dX1_readText_118 rfl rfl (by omega) (by omega) ?_
        exact TQ_er h1 (Or.inr ⟨q, hx, Or.inr ⟨hn, Or.inr ⟨hr, he⟩⟩⟩)
    · obtain ⟨e, he⟩ : ∃ e, FN q (Rch q) 5 e := FN_ex hr
      refine q_aload_n dX1_readText_75 rfl rfl rfl ?_
      refine q_callV (As := []) (rest := []) dX1_readText_76 vX1_58 (ty_c hS (by decide) rfl) ⟨by decide, rfl⟩ (z1_named_ok hS hb hR hP hc hw hn) rfl rfl (Nat.le_of_ble_eq_true rfl) (by omega) (by omega) (by omega) (k_p ?_)
      refine q_if_eqB (tgt := 117) dX1_readText_79 (by decide) (fun h => absurd h (by decide)) (fun _ => ?_)
      refine q_aload_n dX1_readText_82 rfl rfl rfl ?_
      refine q_aload_n dX1_readText_83 rfl rfl rfl ?_
      refine q_getr (r := b) dX1_readText_84 fX1_30 rfl (ty_c hS (by decide) rfl) hR ?_
      refine q_callV (As := []) (rest := [.ref 5]) dX1_readText_87 vX1_62 (ty_r hb 0 rfl) ⟨by decide, rfl⟩ (z2_come hb hP hc hw hn h0) rfl rfl (Nat.le_of_ble_eq_true rfl) (by omega) (by omega) (by omega) (k_lp (fun x87 q87 => ?_))
      refine q_iconst (v := nI 5) dX1_readText_90 rfl ?_
      refine q_callV (As := [.long x87, .int (nI 5)]) (rest := []) dX1_readText_91 vX1_66 (ty_c hS (by decide) rfl) ⟨by decide, rfl⟩ (z1_allIn_er hS hb hR hP hc (fun i _ => q87 i) he) rfl rfl (Nat.le_of_ble_eq_true rfl) (by omega) (by omega) (by omega) (k_p ?_)
      refine q_if_eqB (tgt := 117) dX1_readText_94 (by decide) (fun _ => ?_) (fun h => absurd h (by decide))
      refine q_iconst (v := nI 0) dX1_readText_117 rfl ?_
      refine q_ireturn dX1_readText_118 rfl rfl (by omega) (by omega) ?_
      exact TQ_er h1 (Or.inr ⟨q, hx, Or.inr ⟨hn, Or.inl he⟩⟩)
  · obtain ⟨e, he⟩ := PE4_ex hn
    refine q_aload_n dX1_readText_75 rfl rfl rfl ?_
    refine q_callV (As := []) (rest := []) dX1_readText_76 vX1_58 (ty_c hS (by decide) rfl) ⟨by decide, rfl⟩ (z1_named_er hS hb hR hP hc hw he) rfl rfl (Nat.le_of_ble_eq_true rfl) (by omega) (by omega) (by omega) (k_p ?_)
    refine q_if_eqB (tgt := 117) dX1_readText_79 (by decide) (fun _ => ?_) (fun h => absurd h (by decide))
    refine q_iconst (v := nI 0) dX1_readText_117 rfl ?_
    refine q_ireturn dX1_readText_118 rfl rfl (by omega) (by omega) ?_
    exact TQ_er h1 (Or.inr ⟨q, hx, Or.inl he⟩)
theorem BFt_fr {σ σ' : HS} (h : Fr [6, 7, 8, 9] σ σ') : BFt b σ σ' := ⟨h.1, h.2.1, h.2.2.1, fun a ha => h.2.2.2 a (by simp only [List.mem_cons, List.not_mem_nil, or_false]; omega)⟩
theorem z1_readText {σ : HS} (hS : SK σ) (hb : RB σ b) (hR : sR σ 5 5 = b) (hT : CTX σ L T) : CT g mX1_readText 9 0 0 [.ref 5, .ref 2] σ (TQ b σ T L) := by
  have hb14 : b = 14 ∨ 99 ≤ b := by rcases hb.1 with h | ⟨j, h⟩ <;> omega
  have hT2 : ∀ i, i < L → T i < 256 := fun i hi => (hT.2.2 i hi).2
  refine CT.of (by decide) (Nat.le_of_ble_eq_true rfl) ?_
  refine q_aload_n dX1_readText_0 rfl rfl rfl ?_
  refine q_getr (r := 6) dX1_readText_1 fX1_12 rfl (ty_c hS (by decide) rfl) (hS.2 5 0 6 rfl) ?_
  refine q_aload_n dX1_readText_4 rfl rfl rfl ?_
  refine q_callV (As := [.ref 2]) (rest := []) dX1_readText_5 vX1_34 (ty_c hS (by decide) rfl) ⟨by decide, rfl⟩ (z6_scan hS hT) rfl rfl (Nat.le_of_ble_eq_true rfl) (by omega) (by omega) (by omega) (k_v (fun s5 q5 => ?_))
  obtain ⟨n, n1, n2, n3, n4, n5, n6⟩ := q5
  have hf := BFt_fr (b := b) n4
  have hS2 := SK.bt hf hS
  have hb2 := RB.bt hf hb
  have hR2 : sR s5 5 5 = b := by rw [hf.2.1]; exact hR
  have hC2 : PCt s5 T L n := ⟨n5, (by have := hT.2.1; omega), hT.2.1, n2, n6⟩
  refine q_aload_n dX1_readText_8 rfl rfl rfl ?_
  refine q_iconst (v := nI 0) dX1_readText_9 rfl ?_
  refine q_puti dX1_readText_10 fX1_38 rfl (Or.inl rfl) (ty_c hS2 (by decide) rfl) ?_
  refine q_aload_n dX1_readText_13 rfl rfl rfl ?_
  refine q_iconst (v := nI 0) dX1_readText_14 rfl ?_
  refine q_puti dX1_readText_15 fX1_42 rfl (Or.inl rfl) (ty_c hS2 (by decide) rfl) ?_
  refine q_aload_n dX1_readText_18 rfl rfl rfl ?_
  refine q_getr (r := b) dX1_readText_19 fX1_30 rfl (ty_c hS2 (by decide) rfl) hR2 ?_
  refine q_callV (As := []) (rest := []) dX1_readText_22 vX1_45 (ty_r hb2 0 rfl) ⟨by decide, rfl⟩ (z2_clear (σ := (uI (uI s5 5 3 (nI 0)) 5 6 (nI 0))) hb2) rfl rfl (Nat.le_of_ble_eq_true rfl) (by omega) (by omega) (by omega) (k_s ?_)
  refine q_iconst (v := nI 0) dX1_readText_25 rfl ?_
  refine q_istore_n dX1_readText_26 rfl (by decide) (ls' := [(2, .int (nI 0)), (0, .ref 5), (1, .ref 2)]) rfl ?_
  refine q_pk [1, 0] (ls' := [(0, .ref 5), (2, .int (nI 0))]) rfl ?_
  have hC3 : PCt (uI (uI (uI (uI (uI (uI (uI (uI (uI s5 5 3 (nI 0)) 5 6 (nI 0)) (b + 17) 3 (nI 0)) (b + 17) 4 (nI 0)) b 12 (nI 0)) b 13 (nI 0)) b 14 (nI 0)) b 15 (nI 0)) b 16 (nI 0)) T L n := (PCt.u (PCt.u (PCt.u (PCt.u (PCt.u (PCt.u (PCt.u (PCt.u (PCt.u hC2 (by omega)) (by omega)) (by omega)) (by omega)) (by omega)) (by omega)) (by omega)) (by omega)) (by omega))
  have hP3 : PSR (uI (uI (uI (uI (uI (uI (uI (uI (uI s5 5 3 (nI 0)) 5 6 (nI 0)) (b + 17) 3 (nI 0)) (b + 17) 4 (nI 0)) b 12 (nI 0)) b 13 (nI 0)) b 14 (nI 0)) b 15 (nI 0)) b 16 (nI 0)) b ps0 := ⟨(Eq.trans (rd_ne (by decide)) (Eq.trans (rd_ne (by decide)) (Eq.trans (rd_ne (by decide)) (Eq.trans (rd_ne (by decide)) uI_self)))), (Eq.trans (rd_ne (by decide)) (Eq.trans (rd_ne (by decide)) (Eq.trans (rd_ne (by decide)) uI_self))), (Eq.trans (rd_ne (by decide)) (Eq.trans (rd_ne (by decide)) uI_self)), (Eq.trans (rd_ne (by decide)) uI_self), uI_self, ⟨(Eq.trans (rd_off (by omega)) (Eq.trans (rd_off (by omega)) (Eq.trans (rd_off (by omega)) (Eq.trans (rd_off (by omega)) (Eq.trans (rd_off (by omega)) (Eq.trans (rd_ne (by decide)) uI_self)))))), Nat.zero_le _, (Eq.trans (rd_off (by omega)) (Eq.trans (rd_off (by omega)) (Eq.trans (rd_off (by omega)) (Eq.trans (rd_off (by omega)) (Eq.trans (rd_off (by omega)) uI_self))))), fun e he => absurd he (Nat.not_lt_zero _)⟩, fun i hi => absurd hi (Nat.not_lt_zero _), fun i hi => absurd hi (Nat.not_lt_zero _), fun h => absurd h (by decide), fun i hi => absurd hi (Nat.not_lt_zero _)⟩
  have h53 : sI (uI (uI (uI (uI (uI (uI (uI (uI (uI s5 5 3 (nI 0)) 5 6 (nI 0)) (b + 17) 3 (nI 0)) (b + 17) 4 (nI 0)) b 12 (nI 0)) b 13 (nI 0)) b 14 (nI 0)) b 15 (nI 0)) b 16 (nI 0)) 5 3 = nI 0 := (Eq.trans (rd_off (by omega)) (Eq.trans (rd_off (by omega)) (Eq.trans (rd_off (by omega)) (Eq.trans (rd_off (by omega)) (Eq.trans (rd_off (by omega)) (Eq.trans (rd_off (by omega)) (Eq.trans (rd_off (by omega)) (Eq.trans (rd_ne (by decide)) uI_self))))))))
  have h56 : sI (uI (uI (uI (uI (uI (uI (uI (uI (uI s5 5 3 (nI 0)) 5 6 (nI 0)) (b + 17) 3 (nI 0)) (b + 17) 4 (nI 0)) b 12 (nI 0)) b 13 (nI 0)) b 14 (nI 0)) b 15 (nI 0)) b 16 (nI 0)) 5 6 = nI 0 := (Eq.trans (rd_off (by omega)) (Eq.trans (rd_off (by omega)) (Eq.trans (rd_off (by omega)) (Eq.trans (rd_off (by omega)) (Eq.trans (rd_off (by omega)) (Eq.trans (rd_off (by omega)) (Eq.trans (rd_off (by omega)) uI_self)))))))
  have hfr : BFt b σ (uI (uI (uI (uI (uI (uI (uI (uI (uI s5 5 3 (nI 0)) 5 6 (nI 0)) (b + 17) 3 (nI 0)) (b + 17) 4 (nI 0)) b 12 (nI 0)) b 13 (nI 0)) b 14 (nI 0)) b 15 (nI 0)) b 16 (nI 0)) := hf.tr (BFt.uI (BFt.uI (BFt.uI (BFt.uI (BFt.uI (BFt.uI (BFt.uI (BFt.uI (BFt.uI BFt.rf (by omega)) (by omega)) (by omega)) (by omega)) (by omega)) (by omega)) (by omega)) (by omega)) (by omega))
  have hS3 : SK (uI (uI (uI (uI (uI (uI (uI (uI (uI s5 5 3 (nI 0)) 5 6 (nI 0)) (b + 17) 3 (nI 0)) (b + 17) 4 (nI 0)) b 12 (nI 0)) b 13 (nI 0)) b 14 (nI 0)) b 15 (nI 0)) b 16 (nI 0)) := hS2
  have hb3 : RB (uI (uI (uI (uI (uI (uI (uI (uI (uI s5 5 3 (nI 0)) 5 6 (nI 0)) (b + 17) 3 (nI 0)) (b + 17) 4 (nI 0)) b 12 (nI 0)) b 13 (nI 0)) b 14 (nI 0)) b 15 (nI 0)) b 16 (nI 0)) b := hb2
  have hR3 : sR (uI (uI (uI (uI (uI (uI (uI (uI (uI s5 5 3 (nI 0)) 5 6 (nI 0)) (b + 17) 3 (nI 0)) (b + 17) 4 (nI 0)) b 12 (nI 0)) b 13 (nI 0)) b 14 (nI 0)) b 15 (nI 0)) b 16 (nI 0)) 5 5 = b := hR2
  revert hC3 hP3 h53 h56 hfr hS3 hb3 hR3
  generalize (uI (uI (uI (uI (uI (uI (uI (uI (uI s5 5 3 (nI 0)) 5 6 (nI 0)) (b + 17) 3 (nI 0)) (b + 17) 4 (nI 0)) b 12 (nI 0)) b 13 (nI 0)) b 14 (nI 0)) b 15 (nI 0)) b 16 (nI 0)) = σ2
  intro hC3 hP3 h53 h56 hfr hS3 hb3 hR3
  have hc0 : BC ps0 := ⟨rfl, Nat.zero_le _, Nat.zero_le _, rfl, fun j hj => absurd hj (Nat.not_lt_zero _), fun j hj => absurd hj (Nat.not_lt_zero _)⟩
  have hw0 : WFs ps0 := ⟨fun r hr => (by cases hr), fun r hr => (by cases hr), List.nodup_nil, Nat.zero_le _, rfl⟩
  cases hx : pAll T L with
  | error e =>
    refine y1_blocks_er hS3 hb3 hR3 hC3 hT2 (fun σ4 hbd => ?_) 40 0 0 ps0 σ2 rfl rfl BFr.rf hP3 hc0 hw0 h53 (Nat.zero_le _) hx
    exact ⟨hfr.tr hbd.1.t, Or.inl ⟨e, rfl, Or.inl hx, hbd.2.1, hbd.2.2⟩⟩
  | ok q =>
    refine y1_blocks_ok hS3 hb3 hR3 hC3 hT2 (fun σ3 k1 k2 k3 k4 k5 k6 => ?_) 40 0 0 ps0 σ2 rfl rfl BFr.rf hP3 hc0 hw0 h53 (Nat.zero_le _) h56 hx
    exact y1_text_end (SK.bf k1 hS3) (RB.bf k1 hb3) (by rw [k1.2.1]; exact hR3) hx k2 k3 k4 k5 k6 (hfr.tr k1.t)
end TXT
