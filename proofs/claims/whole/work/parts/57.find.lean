/-! Class Facts: all that it finds; a ROUTINE is finished. -/
/-- only the Facts of the ROUTINE at b are changed -/
def LA (b : Nat) (σ σ' : HS) : Prop := sL σ' = sL σ ∧ sR σ' = sR σ ∧ sN σ' = sN σ ∧ ∀ h, ¬ (b + 22 ≤ h ∧ h < b + 32) → sI σ' h = sI σ h
theorem LA.rf {b : Nat} {σ : HS} : LA b σ σ := ⟨rfl, rfl, rfl, fun _ _ => rfl⟩
theorem LA.uI {b h : Nat} {σ σ' : HS} {i : Nat} {v : Int32} (k : LA b σ σ') (hh : b + 22 ≤ h ∧ h < b + 32) : LA b σ (uI σ' h i v) := ⟨k.1, k.2.1, k.2.2.1, fun a ha => (uI_off fun e => ha (by rw [e]; exact hh)).trans (k.2.2.2 a ha)⟩
theorem LA.lx {b h0 : Nat} {σ σ' σ'' : HS} (k : LA b σ σ') (k2 : LX h0 σ' σ'') (h : b + 22 ≤ h0 ∧ h0 < b + 32) : LA b σ σ'' := ⟨k2.1.trans k.1, k2.2.1.trans k.2.1, k2.2.2.1.trans k.2.2.1, fun a ha => (k2.2.2.2 a fun e => ha (by rw [e]; exact h)).trans (k.2.2.2 a ha)⟩
theorem LA.lf {b : Nat} {σ σ' : HS} (k : LA b σ σ') : LF b σ σ' := ⟨k.1, k.2.1, k.2.2.1, fun a ha => k.2.2.2 a fun e => ha (by omega)⟩
theorem FE.la {σ σ' : HS} {b : Nat} {q : PS} (h : FE σ b q) (k : LA b σ σ') : FE σ' b q := by
  obtain ⟨a1, a2, a3, a4, a5, a6, a7, a8, a9⟩ := h
  have e : ∀ a, a < b + 22 → sI σ' a = sI σ a := fun a ha => k.2.2.2 a (by omega)
  exact ⟨RB.lf k.lf a1, a2, a3, a4, a5, by rw [e _ (by omega)]; exact a6, a7.eq fun a _ _ => e a (by omega), by rw [e _ (by omega)]; exact a8, fun i hi => by
    rw [e (b + 1) (by omega), e (b + 3) (by omega), e (b + 7) (by omega), e (b + 12) (by omega), e (b + 13) (by omega)]; exact a9 i hi⟩
/-- all sets of q stand at b -/
def FX (σ : HS) (b : Nat) (q : PS) : Prop := FA σ (b + 22) q (wk q) ∧ FA σ (b + 23) q (kl q) ∧ FA σ (b + 24) q (wtd q) ∧ FA σ (b + 25) q (the q) ∧ FA σ (b + 26) q (ear q) ∧ FA σ (b + 27) q (dly q) ∧ FA σ (b + 28) q (lst q) ∧ FA σ (b + 29) q (alo q) ∧ FA σ (b + 30) q (alv q 1) ∧ FA σ (b + 31) q (alv q 2)
section FIND
variable {g : GG} {b : Nat} {q : PS}
theorem y0_find1 {σ0 : HS} (hq0 : FE σ0 b q) {Z : List Frame → Array Value → State → State → Prop} (K : ∀ σ, LA b σ0 σ → FA σ (b + 22) q (wk q) → FA σ (b + 23) q (kl q) → WA g mX0_find 3 0 0 Z 0 0 33 [(0, .ref (b + 21)), (1, .ref b)] [] σ) : ∀ (k n : Nat) (σ : HS), n + k = NN q → LA b σ0 σ → (∀ i, i < n → sI σ (b + 22) i = mkN (fun e => wk q e i) (psM q).length ∧ sI σ (b + 23) i = mkN (fun e => kl q e i) (psM q).length) → WA g mX0_find 3 0 0 Z 0 0 13 [(0, .ref (b + 21)), (1, .ref b), (2, .int (nI n))] [] σ := by
  obtain ⟨hb0, hc, hw, hnb, hx, -⟩ := id hq0
  have hb14 : b = 14 ∨ 99 ≤ b := by rcases hb0.1 with h | ⟨j, h⟩ <;> omega
  have hNN := NN_le hc
  intro k
  induction k with
  | zero =>
    intro n σ hm h1 h2
    have hq := hq0.la h1
    obtain ⟨hb, -, -, -, -, h14, -⟩ := id hq
    refine q_iload_n dX0_find_13 rfl rfl ?_
    refine q_aload_n dX0_find_14 rfl rfl rfl ?_
    refine q_geti (x := nI (NN q)) dX0_find_15 fX0_58 rfl (ty_r hb 0 rfl) h14 ?_
    refine q_icmp_geN (tgt := 33) dX0_find_18 (by decide) (by omega) (by omega) (fun c18 => ?_) (fun c18 => ?_)
    · skip
      refine q_pk [0, 1] (ls' := [(0, .ref (b + 21)), (1, .ref b)]) rfl ?_
      exact K σ h1 (fun i hi => (h2 i (by omega)).1) (fun i hi => (h2 i (by omega)).2)
    · exact absurd c18 (by omega)
  | succ k ih =>
    intro n σ hm h1 h2
    have hq := hq0.la h1
    obtain ⟨hb, -, -, -, -, h14, -⟩ := id hq
    refine q_iload_n dX0_find_13 rfl rfl ?_
    refine q_aload_n dX0_find_14 rfl rfl rfl ?_
    refine q_geti (x := nI (NN q)) dX0_find_15 fX0_58 rfl (ty_r hb 0 rfl) h14 ?_
    refine q_icmp_geN (tgt := 33) dX0_find_18 (by decide) (by omega) (by omega) (fun c18 => ?_) (fun c18 => ?_)
    · exact absurd c18 (by omega)
    · skip
      refine q_aload_n dX0_find_21 rfl rfl rfl ?_
      refine q_aload_n dX0_find_22 rfl rfl rfl ?_
      refine q_iload_n dX0_find_23 rfl rfl ?_
      refine q_callV (As := [.ref b, .int (nI n)]) (rest := []) dX0_find_24 vX0_61 (ty_r hb 21 rfl) ⟨by decide, rfl⟩ (z0_worksKills hq (by omega)) rfl rfl (Nat.le_of_ble_eq_true rfl) (by omega) (by omega) (by omega) (k_s ?_)
      refine q_iincN (c := 1) dX0_find_27 rfl (by decide) rfl (ls' := [(2, .int (nI (n + 1))), (0, .ref (b + 21)), (1, .ref b)]) rfl ?_
      refine q_goto (tgt := 13) dX0_find_30 (by decide) ?_
      refine q_pk [1, 2, 0] (ls' := [(0, .ref (b + 21)), (1, .ref b), (2, .int (nI (n + 1)))]) rfl ?_
      refine ih (n + 1) _ (by omega) ((h1.uI (by omega)).uI (by omega)) (fun i hi => ?_)
      by_cases z : i = n
      · subst z
        exact ⟨(rd_off (by omega)).trans uI_self, uI_self⟩
      · rw [sI_uI, if_neg (by omega), sI_uI, if_neg (by omega), sI_uI, if_neg (by omega), sI_uI, if_neg (by omega)]
        exact h2 i (by omega)
theorem y0_find2 {σ0 : HS} (hq0 : FE σ0 b q) (hwk0 : FA σ0 (b + 22) q (wk q)) (hdl0 : FA σ0 (b + 27) q (dly q)) {Z : List Frame → Array Value → State → State → Prop} (K : ∀ σ, LX (b + 28) σ0 σ → FA σ (b + 28) q (lst q) → WA g mX0_find 3 0 0 Z 0 0 101 [(0, .ref (b + 21)), (1, .ref b)] [] σ) : ∀ (k n : Nat) (σ : HS), n + k = NN q → LX (b + 28) σ0 σ → (∀ i, i < n → sI σ (b + 28) i = mkN (fun e => lst q e i) (psM q).length) → WA g mX0_find 3 0 0 Z 0 0 55 [(0, .ref (b + 21)), (1, .ref b), (2, .int (nI n))] [] σ := by
  obtain ⟨hb0, hc, hw, hnb, hx, -⟩ := id hq0
  have hb14 : b = 14 ∨ 99 ≤ b := by rcases hb0.1 with h | ⟨j, h⟩ <;> omega
  have hNN := NN_le hc
  have hk := hq0.k
  intro k
  induction k with
  | zero =>
    intro n σ hm h1 h2
    have hq := hq0.lx (by omega) h1
    obtain ⟨hb, -, -, -, -, h14, -⟩ := id hq
    refine q_iload_n dX0_find_55 rfl rfl ?_
    refine q_aload_n dX0_find_56 rfl rfl rfl ?_
    refine q_geti (x := nI (NN q)) dX0_find_57 fX0_58 rfl (ty_r hb 0 rfl) h14 ?_
    refine q_icmp_geN (tgt := 101) dX0_find_60 (by decide) (by omega) (by omega) (fun c60 => ?_) (fun c60 => ?_)
    · skip
      refine q_pk [0, 1] (ls' := [(0, .ref (b + 21)), (1, .ref b)]) rfl ?_
      exact K σ h1 (fun i hi => h2 i (by omega))
    · exact absurd c60 (by omega)
  | succ k ih =>
    intro n σ hm h1 h2
    have hq := hq0.lx (by omega) h1
    obtain ⟨hb, -, -, -, -, h14, -⟩ := id hq
    have hwk := hwk0.lx h1 (by omega)
    have hdl := hdl0.lx h1 (by omega)
    have g2 := hwk n (by omega)
    have g3 := hdl n (by omega)
    refine q_iload_n dX0_find_55 rfl rfl ?_
    refine q_aload_n dX0_find_56 rfl rfl rfl ?_
    refine q_geti (x := nI (NN q)) dX0_find_57 fX0_58 rfl (ty_r hb 0 rfl) h14 ?_
    refine q_icmp_geN (tgt := 101) dX0_find_60 (by decide) (by omega) (by omega) (fun c60 => ?_) (fun c60 => ?_)
    · exact absurd c60 (by omega)
    · skip
      refine q_aload_n dX0_find_63 rfl rfl rfl ?_
      refine q_getr (r := b + 28) dX0_find_64 fX0_30 rfl (ty_r hb 21 rfl) (hb.2.2 21 6 28 rfl) ?_
      refine q_iload_n dX0_find_67 rfl rfl ?_
      refine q_aload_n dX0_find_68 rfl rfl rfl ?_
      refine q_getr (r := b + 27) dX0_find_69 fX0_27 rfl (ty_r hb 21 rfl) (hb.2.2 21 5 27 rfl) ?_
      refine q_iload_n dX0_find_72 rfl rfl ?_
      refine q_iald (x := mkN (fun e => dly q e n) (psM q).length) (j := n) dX0_find_73 (ty_r hb 27 rfl) (ix_n (by omega) (by omega)) g3 ?_
      refine q_aload_n dX0_find_74 rfl rfl rfl ?_
      refine q_getr (r := b + 22) dX0_find_75 fX0_9 rfl (ty_r hb 21 rfl) (hb.2.2 21 0 22 rfl) ?_
      refine q_iload_n dX0_find_78 rfl rfl ?_
      refine q_iald (x := mkN (fun e => wk q e n) (psM q).length) (j := n) dX0_find_79 (ty_r hb 22 rfl) (ix_n (by omega) (by omega)) g2 ?_
      refine q_aload_n dX0_find_80 rfl rfl rfl ?_
      refine q_aload_n dX0_find_81 rfl rfl rfl ?_
      refine q_aload_n dX0_find_82 rfl rfl rfl ?_
      refine q_getr (r := b + 27) dX0_find_83 fX0_27 rfl (ty_r hb 21 rfl) (hb.2.2 21 5 27 rfl) ?_
      refine q_iload_n dX0_find_86 rfl rfl ?_
      refine q_callV (As := [.ref b, .ref (b + 27), .int (nI n)]) (rest := [.int (mkN (fun e => wk q e n) (psM q).length), .int (mkN (fun e => dly q e n) (psM q).length), .int (nI n), .ref (b + 28)]) dX0_find_87 vX0_78 (ty_r hb 21 rfl) ⟨by decide, rfl⟩ (z0_allNext_27 hq hdl (by omega)) rfl rfl (Nat.le_of_ble_eq_true rfl) (by omega) (by omega) (by omega) (k_p ?_)
      refine q_iconst (v := (-1 : Int32)) dX0_find_90 rfl ?_
      refine q_ixor dX0_find_91 ?_
      refine q_ior dX0_find_92 ?_
      refine q_iand dX0_find_93 ?_
      refine q_top (y := mkN (fun e => lst q e n) (psM q).length) (mk_lat hk) ?_
      refine q_iast (j := n) dX0_find_94 (ty_r hb 28 rfl) (ix_n (by omega) (by omega)) ?_
      refine q_iincN (c := 1) dX0_find_95 rfl (by decide) rfl (ls' := [(2, .int (nI (n + 1))), (0, .ref (b + 21)), (1, .ref b)]) rfl ?_
      refine q_goto (tgt := 55) dX0_find_98 (by decide) ?_
      refine q_pk [1, 2, 0] (ls' := [(0, .ref (b + 21)), (1, .ref b), (2, .int (nI (n + 1)))]) rfl ?_
      refine ih (n + 1) _ (by omega) h1.uI (fun i hi => ?_)
      by_cases z : i = n
      · subst z
        exact uI_self
      · rw [sI_uI, if_neg (by omega)]
        exact h2 i (by omega)
theorem y0_find3 {σ0 σ1 : HS} (hq0 : FE σ0 b q) (hN : 0 < NN q) (h1 : LA b σ0 σ1) (a1 : FA σ1 (b + 22) q (wk q)) (a2 : FA σ1 (b + 23) q (kl q)) (a3 : FA σ1 (b + 24) q (wtd q)) (a4 : FA σ1 (b + 25) q (the q)) (a5 : FA σ1 (b + 26) q (ear q)) (a6 : FA σ1 (b + 27) q (dly q)) (a7 : FA σ1 (b + 28) q (lst q)) : WA g mX0_find 3 0 0 (ZM g (fun r σ' => r = none ∧ LA b σ0 σ' ∧ FX σ' b q) 0 0) 0 0 101 [(0, .ref (b + 21)), (1, .ref b)] [] σ1 := by
  have hb14 : b = 14 ∨ 99 ≤ b := by rcases hq0.1.1 with h | ⟨j, h⟩ <;> omega
  have hq1 := hq0.la h1
  have hb := hq1.1
  refine q_aload_n dX0_find_101 rfl rfl rfl ?_
  refine q_aload_n dX0_find_102 rfl rfl rfl ?_
  refine q_callV (As := [.ref b]) (rest := []) dX0_find_103 vX0_82 (ty_r hb 21 rfl) ⟨by decide, rfl⟩ (z0_alone hq1 a1 a7 hN) rfl rfl (Nat.le_of_ble_eq_true rfl) (by omega) (by omega) (by omega) (k_v (fun s103 q103 => ?_))
  obtain ⟨k1, f1⟩ := q103
  have h2 := h1.lx k1 (by omega)
  have hq2 := hq0.la h2
  have hb2 := hq2.1
  have b1 := a1.lx k1 (by omega)
  have b5 := a5.lx k1 (by omega)
  have b7 := a7.lx k1 (by omega)
  refine q_aload_n dX0_find_106 rfl rfl rfl ?_
  refine q_aload_n dX0_find_107 rfl rfl rfl ?_
  refine q_iconst (v := nI 1) dX0_find_108 rfl ?_
  refine q_aload_n dX0_find_109 rfl rfl rfl ?_
  refine q_getr (r := b + 30) dX0_find_110 fX0_36 rfl (ty_r hb2 21 rfl) (hb2.2.2 21 8 30 rfl) ?_
  refine q_callV (As := [.ref b, .int (nI 1), .ref (b + 30)]) (rest := []) dX0_find_113 vX0_85 (ty_r hb2 21 rfl) ⟨by decide, rfl⟩ (z0_alive1 hq2 b1 b5 hN) rfl rfl (Nat.le_of_ble_eq_true rfl) (by omega) (by omega) (by omega) (k_v (fun s113 q113 => ?_))
  obtain ⟨k2, f2⟩ := q113
  have h3 := h2.lx k2 (by omega)
  have hq3 := hq0.la h3
  have hb3 := hq3.1
  have c1 := b1.lx k2 (by omega)
  have c5 := b5.lx k2 (by omega)
  have c7 := b7.lx k2 (by omega)
  have c8 := f1.lx k2 (by omega)
  refine q_aload_n dX0_find_116 rfl rfl rfl ?_
  refine q_aload_n dX0_find_117 rfl rfl rfl ?_
  refine q_iconst (v := nI 2) dX0_find_118 rfl ?_
  refine q_aload_n dX0_find_119 rfl rfl rfl ?_
  refine q_getr (r := b + 31) dX0_find_120 fX0_39 rfl (ty_r hb3 21 rfl) (hb3.2.2 21 9 31 rfl) ?_
  refine q_callV (As := [.ref b, .int (nI 2), .ref (b + 31)]) (rest := []) dX0_find_123 vX0_85 (ty_r hb3 21 rfl) ⟨by decide, rfl⟩ (z0_alive2 hq3 c1 c5 c7 c8 hN) rfl rfl (Nat.le_of_ble_eq_true rfl) (by omega) (by omega) (by omega) (k_v (fun s123 q123 => ?_))
  obtain ⟨k3, f3⟩ := q123
  have h4 := h3.lx k3 (by omega)
  have hb4 := (hq0.la h4).1
  refine q_return dX0_find_126 rfl (by omega) (by omega) ?_
  exact ⟨rfl, h4, c1.lx k3 (by omega), ((a2.lx k1 (by omega)).lx k2 (by omega)).lx k3 (by omega), ((a3.lx k1 (by omega)).lx k2 (by omega)).lx k3 (by omega), ((a4.lx k1 (by omega)).lx k2 (by omega)).lx k3 (by omega), c5.lx k3 (by omega), ((a6.lx k1 (by omega)).lx k2 (by omega)).lx k3 (by omega), c7.lx k3 (by omega), c8.lx k3 (by omega), f2.lx k3 (by omega), f3⟩
theorem y0_find {σ0 σ1 : HS} (hq0 : FE σ0 b q) (hN : 0 < NN q) (h1 : LA b σ0 σ1) (a1 : FA σ1 (b + 22) q (wk q)) (a2 : FA σ1 (b + 23) q (kl q)) : WA g mX0_find 3 0 0 (ZM g (fun r σ' => r = none ∧ LA b σ0 σ' ∧ FX σ' b q) 0 0) 0 0 33 [(0, .ref (b + 21)), (1, .ref b)] [] σ1 := by
  have hb14 : b = 14 ∨ 99 ≤ b := by rcases hq0.1.1 with h | ⟨j, h⟩ <;> omega
  have hq1 := hq0.la h1
  have hb := hq1.1
  refine q_aload_n dX0_find_33 rfl rfl rfl ?_
  refine q_aload_n dX0_find_34 rfl rfl rfl ?_
  refine q_callV (As := [.ref b]) (rest := []) dX0_find_35 vX0_65 (ty_r hb 21 rfl) ⟨by decide, rfl⟩ (z0_wanted hq1 a1 a2 hN) rfl rfl (Nat.le_of_ble_eq_true rfl) (by omega) (by omega) (by omega) (k_v (fun s35 q35 => ?_))
  obtain ⟨k35, f35⟩ := q35
  have h2 := h1.lx k35 (by omega)
  have hq2 := hq0.la h2
  have hb2 := hq2.1
  have b1 := a1.lx k35 (by omega)
  have b2 := a2.lx k35 (by omega)
  refine q_aload_n dX0_find_38 rfl rfl rfl ?_
  refine q_aload_n dX0_find_39 rfl rfl rfl ?_
  refine q_callV (As := [.ref b]) (rest := []) dX0_find_40 vX0_69 (ty_r hb2 21 rfl) ⟨by decide, rfl⟩ (z0_there hq2 b1 b2 hN) rfl rfl (Nat.le_of_ble_eq_true rfl) (by omega) (by omega) (by omega) (k_v (fun s40 q40 => ?_))
  obtain ⟨k40, f40⟩ := q40
  have h3 := h2.lx k40 (by omega)
  have hq3 := hq0.la h3
  have hb3 := hq3.1
  have c1 := b1.lx k40 (by omega)
  have c2 := b2.lx k40 (by omega)
  have c3 := f35.lx k40 (by omega)
  refine q_aload_n dX0_find_43 rfl rfl rfl ?_
  refine q_aload_n dX0_find_44 rfl rfl rfl ?_
  refine q_callV (As := [.ref b]) (rest := []) dX0_find_45 vX0_72 (ty_r hb3 21 rfl) ⟨by decide, rfl⟩ (z0_early hq3 c2 c3 f40 hN) rfl rfl (Nat.le_of_ble_eq_true rfl) (by omega) (by omega) (by omega) (k_v (fun s45 q45 => ?_))
  obtain ⟨k45, f45⟩ := q45
  have h4 := h3.lx k45 (by omega)
  have hq4 := hq0.la h4
  have hb4 := hq4.1
  have d1 := c1.lx k45 (by omega)
  have d2 := c2.lx k45 (by omega)
  have d3 := c3.lx k45 (by omega)
  have d4 := f40.lx k45 (by omega)
  refine q_aload_n dX0_find_48 rfl rfl rfl ?_
  refine q_aload_n dX0_find_49 rfl rfl rfl ?_
  refine q_callV (As := [.ref b]) (rest := []) dX0_find_50 vX0_75 (ty_r hb4 21 rfl) ⟨by decide, rfl⟩ (z0_delayed hq4 d1 f45 hN) rfl rfl (Nat.le_of_ble_eq_true rfl) (by omega) (by omega) (by omega) (k_v (fun s50 q50 => ?_))
  obtain ⟨k50, f50⟩ := q50
  have h5 := h4.lx k50 (by omega)
  have hq5 := hq0.la h5
  have hb5 := hq5.1
  have e1 := d1.lx k50 (by omega)
  have e2 := d2.lx k50 (by omega)
  have e3 := d3.lx k50 (by omega)
  have e4 := d4.lx k50 (by omega)
  have e5 := f45.lx k50 (by omega)
  refine q_iconst (v := nI 0) dX0_find_53 rfl ?_
  refine q_istore_n dX0_find_54 rfl (by decide) (ls' := [(2, .int (nI 0)), (0, .ref (b + 21)), (1, .ref b)]) rfl ?_
  refine q_pk [1, 2, 0] (ls' := [(0, .ref (b + 21)), (1, .ref b), (2, .int (nI 0))]) rfl ?_
  refine y0_find2 hq5 e1 f50 (fun σ2 k6 f6 => ?_) (NN q) 0 _ (by omega) LX.rf (fun i hi => absurd hi (by omega))
  have h6 := h5.lx k6 (by omega)
  have hq6 := hq0.la h6
  have hb6 := hq6.1
  exact y0_find3 hq0 hN h6 (e1.lx k6 (by omega)) (e2.lx k6 (by omega)) (e3.lx k6 (by omega)) (e4.lx k6 (by omega)) (e5.lx k6 (by omega)) (f50.lx k6 (by omega)) f6
/-- what find needs: the ROUTINE at b is q, linked and faultless -/
def FE0 (σ : HS) (b : Nat) (q : PS) : Prop := RB σ b ∧ BC q ∧ WFs q ∧ NB q ∧ psX q = false ∧ sI σ b 14 = nI (NN q) ∧ SR σ b (psM q) false ∧ ∀ i, i < NN q → sI σ (b + 1) i = nI (rK (rg q i)) ∧ sI σ (b + 3) i = rT (rg q i) ∧ sI σ (b + 7) i = rS (rg q i) ∧ sI σ (b + 12) i = oW (ld q 0 i) ∧ sI σ (b + 13) i = oW (ld q 1 i)
theorem FE0.all {σ : HS} {b : Nat} {q : PS} (h : FE0 σ b q) : FE (uI σ (b + 21) 10 (mkN (fun _ => true) (psM q).length)) b q := by
  obtain ⟨a1, a2, a3, a4, a5, a6, a7, a9⟩ := h
  exact ⟨RB.uI a1, a2, a3, a4, a5, (rd_off (by omega)).trans a6, a7.u (by omega), uI_self, fun i hi => by
    obtain ⟨b1, b2, b3, b4, b5⟩ := a9 i hi
    exact ⟨(rd_off (by omega)).trans b1, (rd_off (by omega)).trans b2, (rd_off (by omega)).trans b3, (rd_off (by omega)).trans b4, (rd_off (by omega)).trans b5⟩⟩
theorem z0_find {σ : HS} (hq : FE0 σ b q) (hN : 0 < NN q) : CT g mX0_find 3 0 0 [.ref (b + 21), .ref b] σ (fun r σ' => r = none ∧ LA b (uI σ (b + 21) 10 (mkN (fun _ => true) (psM q).length)) σ' ∧ FX σ' b q) := by
  have hb := hq.1
  have hs := hq.2.2.2.2.2.2.1
  have hb14 : b = 14 ∨ 99 ≤ b := by rcases hb.1 with h | ⟨j, h⟩ <;> omega
  refine CT.of (by decide) (Nat.le_of_ble_eq_true rfl) ?_
  refine q_aload_n dX0_find_0 rfl rfl rfl ?_
  refine q_aload_n dX0_find_1 rfl rfl rfl ?_
  refine q_getr (r := b + 17) dX0_find_2 fX0_42 rfl (ty_r hb 0 rfl) (hb.2.2 0 10 17 rfl) ?_
  refine q_callV (As := []) (rest := [.ref (b + 21)]) dX0_find_5 vX0_48 (ty_r hb 17 rfl) ⟨by decide, rfl⟩ (z4_everyOne hb hs) rfl rfl (Nat.le_of_ble_eq_true rfl) (by omega) (by omega) (by omega) (k_p ?_)
  refine q_puti dX0_find_8 fX0_54 rfl (Or.inl rfl) (ty_r hb 21 rfl) ?_
  refine q_iconst (v := nI 0) dX0_find_11 rfl ?_
  refine q_istore_n dX0_find_12 rfl (by decide) (ls' := [(2, .int (nI 0)), (0, .ref (b + 21)), (1, .ref b)]) rfl ?_
  refine q_pk [1, 2, 0] (ls' := [(0, .ref (b + 21)), (1, .ref b), (2, .int (nI 0))]) rfl ?_
  exact y0_find1 hq.all (fun σ1 h1 a1 a2 => y0_find hq.all hN h1 a1 a2) (NN q) 0 _ (by omega) LA.rf (fun i hi => absurd hi (by omega))
end FIND
