/-! The class's WAY. -/
theorem oW_eq {o : Option Nat} {t : Nat} (ht : t < 2147483648) (ho : ∀ v, o = some v → v < 2147483648) : oW o = nI t ↔ o = some t := by
  cases o with
  | none => exact ⟨fun h => absurd (show nI t < 0 by rw [← h]; decide) (nI_pos (by omega)), fun h => by cases h⟩
  | some v =>
    have := ho v rfl
    exact ⟨fun h => by rw [nI_inj (a := v) (b := t) (by omega) (by omega) h], fun h => by rw [Option.some.inj h]; rfl⟩
/-- the WAY of the ROUTINE at b is ws -/
def WY (σ : HS) (b : Nat) (q : PS) (ws : List Nat) : Prop := sI σ b 15 = nI ws.length ∧ ws.length ≤ 60 ∧ ∀ i, i < ws.length → sI σ (b + 16) i = nI (ws.getD i 0) ∧ ws.getD i 0 < (psF q).length
def cnG (q : PS) (ws : List Nat) (t : Nat) : Bool := if ws.length = 0 then decide (t = 0) else decide (wy q 0 (ws.getD (ws.length - 1) 0) = some t) || decide (wy q 1 (ws.getD (ws.length - 1) 0) = some t)
def eNd (q : PS) (j : Nat) : Nat := nf q (j + 1) - 1
/-- the NODE to which block j leads by its first way to block t -/
def lTw (q : PS) (j t : Nat) : Option Nat := if wy q 0 j = some t then ld q 0 (eNd q j) else ld q 1 (eNd q j)
noncomputable def cwB (q : PS) (l e n : Nat) : Nat := (if stA q l e n = true then 1 else 0) + (if (wk q e n && !tkn q l e n) = true then 1 else 0)
noncomputable def sgN (q : PS) (l e a : Nat) : Nat → Nat
  | 0 => 0
  | k + 1 => sgN q l e a k + cwB q l e (a + k)
/-- what the i-th block of the WAY adds -/
noncomputable def wkI (q : PS) (l e : Nat) (ws : List Nat) (i : Nat) : Nat := sgN q l e (nf q (ws.getD i 0)) (nf q (ws.getD i 0 + 1) - nf q (ws.getD i 0)) + (if i + 1 < ws.length then (match lTw q (ws.getD i 0) (ws.getD (i + 1) 0) with | none => 0 | some x => if (psS q).length ≤ x then cwB q l e x else 0) else 0)
noncomputable def wkN (q : PS) (l e : Nat) (ws : List Nat) : Nat → Nat
  | 0 => 0
  | i + 1 => wkN q l e ws i + wkI q l e ws i
theorem cw_add {q : PS} {l e n : Nat} : bi (stA q l e n) + bi (wk q e n && !tkn q l e n) = nI (cwB q l e n) := by
  unfold cwB
  rw [← nI_add]
  cases stA q l e n <;> cases (wk q e n && !tkn q l e n) <;> rfl
section WAYS
variable {g : GG} {σ : HS} {b : Nat} {q : PS} {p : Int32}
theorem RTN.end (hr : RTN σ b q) {j : Nat} (hj : j < (psF q).length) : sI σ (b + 15) (j + 1) = nI (nf q (j + 1)) ∧ 1 ≤ nf q (j + 1) ∧ nf q (j + 1) ≤ 240 ∧ eNd q j < NN q ∧ sI σ (b + 9) (eNd q j) = oW (wy q 0 j) ∧ sI σ (b + 10) (eNd q j) = oW (wy q 1 j) ∧ sI σ (b + 12) (eNd q j) = oW (ld q 0 (eNd q j)) ∧ sI σ (b + 13) (eNd q j) = oW (ld q 1 (eNd q j)) ∧ ∀ w t, wy q w j = some t → t < 40 := by
  obtain ⟨-, hbc, hw, hnb, hxx, hF, g12, g13, g14, g16, hsr, g15, hrow, hfx⟩ := hr
  obtain ⟨e1, e2, e3, e4, e5, e6, e7, e8, e9, -⟩ := end_w hbc hw hj
  have hl : eNd q j < NN q := by unfold eNd NN; omega
  obtain ⟨⟨r1, r2, r3, r4, r5, r6, r7, r8⟩, l0, l1, -⟩ := hrow _ hl
  have er : rg q (eNd q j) = eR q j := if_pos e3
  rw [er] at r7 r8
  exact ⟨g15 (j + 1) (by omega), e1, by omega, hl, r7.trans e7, r8.trans e8, l0, l1, e9⟩
theorem z2_canGo (hr : RTN σ b q) {ws : List Nat} (hy : WY σ b q ws) {t : Nat} (ht : t < 40) : CT g mX2_wayCanGoTo 2 0 0 [.ref b, .int (nI t)] σ (PQ σ (.int (bi (cnG q ws t)))) := by
  have hb := hr.1
  have hb14 : b = 14 ∨ 99 ≤ b := by rcases hb.1 with h | ⟨j, h⟩ <;> omega
  obtain ⟨y1, y2, y3⟩ := hy
  have h40 := hr.2.1.2.1
  unfold cnG
  by_cases hz : ws.length = 0
  · rw [if_pos hz]
    refine CT.of (by decide) (Nat.le_of_ble_eq_true rfl) ?_
    refine q_aload_n dX2_wayCanGoTo_0 rfl rfl rfl ?_
    refine q_geti (x := nI 0) dX2_wayCanGoTo_1 fX2_71 rfl (ty_r hb 0 rfl) (y1.trans (by rw [hz])) ?_
    refine q_if_neN (tgt := 17) dX2_wayCanGoTo_4 (by decide) (by omega) (fun h => absurd h (by decide)) (fun _ => ?_)
    refine q_iload_n dX2_wayCanGoTo_7 rfl rfl ?_
    refine q_if_neN (tgt := 15) dX2_wayCanGoTo_8 (by decide) (by omega) (fun c8 => ?_) (fun c8 => ?_)
    · skip
      refine q_iconst (v := nI 0) dX2_wayCanGoTo_15 rfl ?_
      refine q_ireturn dX2_wayCanGoTo_16 rfl rfl (by omega) (by omega) ?_
      first | exact fin_t (decide_eq_true (by omega)) | exact fin_f (decide_eq_false (by omega))
    · skip
      refine q_iconst (v := nI 1) dX2_wayCanGoTo_11 rfl ?_
      refine q_goto (tgt := 16) dX2_wayCanGoTo_12 (by decide) ?_
      refine q_ireturn dX2_wayCanGoTo_16 rfl rfl (by omega) (by omega) ?_
      first | exact fin_t (decide_eq_true (by omega)) | exact fin_f (decide_eq_false (by omega))
  · rw [if_neg hz]
    obtain ⟨v1, v2⟩ := y3 (ws.length - 1) (by omega)
    generalize ws.getD (ws.length - 1) 0 = j at v1 v2
    obtain ⟨g1, e1, e2, hl, k0, k1, -, -, e9⟩ := hr.end v2
    have hNN := NN_le hr.2.1
    have u0 := oW_eq (t := t) (o := wy q 0 j) (by omega) (fun v hv => by have := e9 0 v hv; omega)
    have u1 := oW_eq (t := t) (o := wy q 1 j) (by omega) (fun v hv => by have := e9 1 v hv; omega)
    refine CT.of (by decide) (Nat.le_of_ble_eq_true rfl) ?_
    refine q_aload_n dX2_wayCanGoTo_0 rfl rfl rfl ?_
    refine q_geti (x := nI ws.length) dX2_wayCanGoTo_1 fX2_71 rfl (ty_r hb 0 rfl) y1 ?_
    refine q_if_neN (tgt := 17) dX2_wayCanGoTo_4 (by decide) (by omega) (fun c4 => ?_) (fun c4 => ?_)
    · skip
      refine q_aload_n dX2_wayCanGoTo_17 rfl rfl rfl ?_
      refine q_aload_n dX2_wayCanGoTo_18 rfl rfl rfl ?_
      refine q_getr (r := b + 16) dX2_wayCanGoTo_19 fX2_41 rfl (ty_r hb 0 rfl) (hb.2.2 0 9 16 rfl) ?_
      refine q_aload_n dX2_wayCanGoTo_22 rfl rfl rfl ?_
      refine q_geti (x := nI ws.length) dX2_wayCanGoTo_23 fX2_71 rfl (ty_r hb 0 rfl) y1 ?_
      refine q_iconst (v := nI 1) dX2_wayCanGoTo_26 rfl ?_
      refine q_isubN dX2_wayCanGoTo_27 (by omega) ?_
      refine q_iald (x := nI j) (j := (ws.length - 1)) dX2_wayCanGoTo_28 (ty_r hb 16 rfl) (ix_n (by omega) (by omega)) v1 ?_
      refine q_callV (As := [.int (nI j)]) (rest := []) dX2_wayCanGoTo_29 vX2_115 (ty_r hb 0 rfl) ⟨by decide, rfl⟩ (z2_endOf hb (by omega) g1 e1 e2) rfl rfl (Nat.le_of_ble_eq_true rfl) (by omega) (by omega) (by omega) (k_p ?_)
      refine q_istore_n dX2_wayCanGoTo_32 rfl (by decide) (ls' := [(2, .int (nI (eNd q j))), (0, .ref b), (1, .int (nI t))]) rfl ?_
      refine q_aload_n dX2_wayCanGoTo_33 rfl rfl rfl ?_
      refine q_getr (r := b + 8) dX2_wayCanGoTo_34 fX2_29 rfl (ty_r hb 0 rfl) (hb.2.2 0 5 8 rfl) ?_
      refine q_iconst (v := nI 0) dX2_wayCanGoTo_37 rfl ?_
      refine q_aald (r := b + 9) (j := 0) dX2_wayCanGoTo_38 (ty_r hb 8 rfl) (Or.inl rfl) (ix_n (by omega) (by omega)) (hb.2.2 8 0 9 rfl) ?_
      refine q_iload_n dX2_wayCanGoTo_39 rfl rfl ?_
      refine q_iald (x := oW (wy q 0 j)) (j := (eNd q j)) dX2_wayCanGoTo_40 (ty_r hb 9 rfl) (ix_n (by omega) (by omega)) k0 ?_
      refine q_iload_n dX2_wayCanGoTo_41 rfl rfl ?_
      refine q_icmp_eq (tgt := 57) dX2_wayCanGoTo_42 (by decide) (fun c42 => ?_) (fun c42 => ?_)
      · skip
        refine q_iconst (v := nI 1) dX2_wayCanGoTo_57 rfl ?_
        refine q_goto (tgt := 62) dX2_wayCanGoTo_58 (by decide) ?_
        refine q_ireturn dX2_wayCanGoTo_62 rfl rfl (by omega) (by omega) ?_
        first | exact fin_t (by rw [decide_eq_true (u0.mp c42)]; rfl) | exact fin_t (by rw [decide_eq_true (u1.mp c54), Bool.or_true]) | exact fin_f (by rw [decide_eq_false (fun z => c42 (u0.mpr z)), decide_eq_false (fun z => c54 (u1.mpr z))]; rfl)
      · skip
        refine q_aload_n dX2_wayCanGoTo_45 rfl rfl rfl ?_
        refine q_getr (r := b + 8) dX2_wayCanGoTo_46 fX2_29 rfl (ty_r hb 0 rfl) (hb.2.2 0 5 8 rfl) ?_
        refine q_iconst (v := nI 1) dX2_wayCanGoTo_49 rfl ?_
        refine q_aald (r := b + 10) (j := 1) dX2_wayCanGoTo_50 (ty_r hb 8 rfl) (Or.inl rfl) (ix_n (by omega) (by omega)) (hb.2.2 8 1 10 rfl) ?_
        refine q_iload_n dX2_wayCanGoTo_51 rfl rfl ?_
        refine q_iald (x := oW (wy q 1 j)) (j := (eNd q j)) dX2_wayCanGoTo_52 (ty_r hb 10 rfl) (ix_n (by omega) (by omega)) k1 ?_
        refine q_iload_n dX2_wayCanGoTo_53 rfl rfl ?_
        refine q_icmp_ne (tgt := 61) dX2_wayCanGoTo_54 (by decide) (fun c54 => ?_) (fun c54 => ?_)
        · skip
          refine q_iconst (v := nI 0) dX2_wayCanGoTo_61 rfl ?_
          refine q_ireturn dX2_wayCanGoTo_62 rfl rfl (by omega) (by omega) ?_
          first | exact fin_t (by rw [decide_eq_true (u0.mp c42)]; rfl) | exact fin_t (by rw [decide_eq_true (u1.mp c54), Bool.or_true]) | exact fin_f (by rw [decide_eq_false (fun z => c42 (u0.mpr z)), decide_eq_false (fun z => c54 (u1.mpr z))]; rfl)
        · skip
          refine q_iconst (v := nI 1) dX2_wayCanGoTo_57 rfl ?_
          refine q_goto (tgt := 62) dX2_wayCanGoTo_58 (by decide) ?_
          refine q_ireturn dX2_wayCanGoTo_62 rfl rfl (by omega) (by omega) ?_
          first | exact fin_t (by rw [decide_eq_true (u0.mp c42)]; rfl) | exact fin_t (by rw [decide_eq_true (u1.mp c54), Bool.or_true]) | exact fin_f (by rw [decide_eq_false (fun z => c42 (u0.mpr z)), decide_eq_false (fun z => c54 (u1.mpr z))]; rfl)
    · exact absurd c4 (by omega)
theorem z2_towards (hr : RTN σ b q) {j t : Nat} (hj : j < (psF q).length) (ht : t < 40) : CT g mX2_leadsTowards 2 0 0 [.ref b, .int (nI j), .int (nI t)] σ (PQ σ (.int (oW (lTw q j t)))) := by
  have hb := hr.1
  have hb14 : b = 14 ∨ 99 ≤ b := by rcases hb.1 with h | ⟨j, h⟩ <;> omega
  have h40 := hr.2.1.2.1
  obtain ⟨g1, e1, e2, hl, k0, k1, l0, l1, e9⟩ := hr.end hj
  have hNN := NN_le hr.2.1
  have u0 := oW_eq (t := t) (o := wy q 0 j) (by omega) (fun v hv => by have := e9 0 v hv; omega)
  refine CT.of (by decide) (Nat.le_of_ble_eq_true rfl) ?_
  refine q_aload_n dX2_leadsTowards_0 rfl rfl rfl ?_
  refine q_iload_n dX2_leadsTowards_1 rfl rfl ?_
  refine q_callV (As := [.int (nI j)]) (rest := []) dX2_leadsTowards_2 vX2_115 (ty_r hb 0 rfl) ⟨by decide, rfl⟩ (z2_endOf hb (by omega) g1 e1 e2) rfl rfl (Nat.le_of_ble_eq_true rfl) (by omega) (by omega) (by omega) (k_p ?_)
  refine q_istore_n dX2_leadsTowards_5 rfl (by decide) (ls' := [(3, .int (nI (eNd q j))), (0, .ref b), (1, .int (nI j)), (2, .int (nI t))]) rfl ?_
  refine q_aload_n dX2_leadsTowards_6 rfl rfl rfl ?_
  refine q_getr (r := b + 8) dX2_leadsTowards_7 fX2_29 rfl (ty_r hb 0 rfl) (hb.2.2 0 5 8 rfl) ?_
  refine q_iconst (v := nI 0) dX2_leadsTowards_10 rfl ?_
  refine q_aald (r := b + 9) (j := 0) dX2_leadsTowards_11 (ty_r hb 8 rfl) (Or.inl rfl) (ix_n (by omega) (by omega)) (hb.2.2 8 0 9 rfl) ?_
  refine q_iload_n dX2_leadsTowards_12 rfl rfl ?_
  refine q_iald (x := oW (wy q 0 j)) (j := (eNd q j)) dX2_leadsTowards_13 (ty_r hb 9 rfl) (ix_n (by omega) (by omega)) k0 ?_
  refine q_iload_n dX2_leadsTowards_14 rfl rfl ?_
  refine q_icmp_ne (tgt := 29) dX2_leadsTowards_15 (by decide) (fun c15 => ?_) (fun c15 => ?_)
  · skip
    refine q_aload_n dX2_leadsTowards_29 rfl rfl rfl ?_
    refine q_getr (r := b + 11) dX2_leadsTowards_30 fX2_32 rfl (ty_r hb 0 rfl) (hb.2.2 0 6 11 rfl) ?_
    refine q_iconst (v := nI 1) dX2_leadsTowards_33 rfl ?_
    refine q_aald (r := b + 13) (j := 1) dX2_leadsTowards_34 (ty_r hb 11 rfl) (Or.inl rfl) (ix_n (by omega) (by omega)) (hb.2.2 11 1 13 rfl) ?_
    refine q_iload_n dX2_leadsTowards_35 rfl rfl ?_
    refine q_iald (x := oW (ld q 1 (eNd q j))) (j := (eNd q j)) dX2_leadsTowards_36 (ty_r hb 13 rfl) (ix_n (by omega) (by omega)) l1 ?_
    refine q_ireturn dX2_leadsTowards_37 rfl rfl (by omega) (by omega) ?_
    unfold lTw
    first | (rw [if_pos (u0.mp c15)]; exact ⟨rfl, rfl⟩) | (rw [if_neg (fun z => c15 (u0.mpr z))]; exact ⟨rfl, rfl⟩)
  · skip
    refine q_aload_n dX2_leadsTowards_18 rfl rfl rfl ?_
    refine q_getr (r := b + 11) dX2_leadsTowards_19 fX2_32 rfl (ty_r hb 0 rfl) (hb.2.2 0 6 11 rfl) ?_
    refine q_iconst (v := nI 0) dX2_leadsTowards_22 rfl ?_
    refine q_aald (r := b + 12) (j := 0) dX2_leadsTowards_23 (ty_r hb 11 rfl) (Or.inl rfl) (ix_n (by omega) (by omega)) (hb.2.2 11 0 12 rfl) ?_
    refine q_iload_n dX2_leadsTowards_24 rfl rfl ?_
    refine q_iald (x := oW (ld q 0 (eNd q j))) (j := (eNd q j)) dX2_leadsTowards_25 (ty_r hb 12 rfl) (ix_n (by omega) (by omega)) l0 ?_
    refine q_goto (tgt := 37) dX2_leadsTowards_26 (by decide) ?_
    refine q_ireturn dX2_leadsTowards_37 rfl rfl (by omega) (by omega) ?_
    unfold lTw
    first | (rw [if_pos (u0.mp c15)]; exact ⟨rfl, rfl⟩) | (rw [if_neg (fun z => c15 (u0.mpr z))]; exact ⟨rfl, rfl⟩)
theorem z0_countWorked (hr : RTN σ b q) {l e n : Nat} (hl : l < 3) (he : e < (psM q).length) (hn : n < NN q) : CT g mX0_countWorked 1 0 0 [.ref (b + 21), .int (nI l), .int (nI e), .int (nI n)] σ (PQ σ (.int (nI (cwB q l e n)))) := by
  have hb := hr.1
  have hb14 : b = 14 ∨ 99 ≤ b := by rcases hb.1 with h | ⟨j, h⟩ <;> omega
  have hNN := NN_le hr.2.1
  have hfp := hr.fp
  have hk := hfp.2.1
  have g2 := hfp.2.2.2.1 n hn
  refine CT.of (by decide) (Nat.le_of_ble_eq_true rfl) ?_
  refine q_aload_n dX0_countWorked_0 rfl rfl rfl ?_
  refine q_iload_n dX0_countWorked_1 rfl rfl ?_
  refine q_iload_n dX0_countWorked_2 rfl rfl ?_
  refine q_callV (As := [.int (nI l), .int (nI n)]) (rest := []) dX0_countWorked_3 vX0_89 (ty_r hb 21 rfl) ⟨by decide, rfl⟩ (z0_setAheadA hfp hl hn) rfl rfl (Nat.le_of_ble_eq_true rfl) (by omega) (by omega) (by omega) (k_p ?_)
  refine q_iload_n dX0_countWorked_6 rfl rfl ?_
  refine q_iushr (v := ((mkN (fun e => stA q l e n) (psM q).length).toUInt32 >>> ((nI e).toUInt32 &&& Int32.toUInt32 31)).toInt32) dX0_countWorked_7 rfl ?_
  refine q_iconst (v := nI 1) dX0_countWorked_8 rfl ?_
  refine q_iand dX0_countWorked_9 ?_
  refine q_top (y := bi (stA q l e n)) (mk_bit hk he) ?_
  refine q_istore dX0_countWorked_10 (by decide) (ls' := [(4, .int (bi (stA q l e n))), (0, .ref (b + 21)), (1, .int (nI l)), (2, .int (nI e)), (3, .int (nI n))]) rfl ?_
  refine q_aload_n dX0_countWorked_12 rfl rfl rfl ?_
  refine q_getr (r := b + 22) dX0_countWorked_13 fX0_9 rfl (ty_r hb 21 rfl) (hb.2.2 21 0 22 rfl) ?_
  refine q_iload_n dX0_countWorked_16 rfl rfl ?_
  refine q_iald (x := mkN (fun e => wk q e n) (psM q).length) (j := n) dX0_countWorked_17 (ty_r hb 22 rfl) (ix_n (by omega) (by omega)) g2 ?_
  refine q_aload_n dX0_countWorked_18 rfl rfl rfl ?_
  refine q_iload_n dX0_countWorked_19 rfl rfl ?_
  refine q_iload_n dX0_countWorked_20 rfl rfl ?_
  refine q_callV (As := [.int (nI l), .int (nI n)]) (rest := [.int (mkN (fun e => wk q e n) (psM q).length)]) dX0_countWorked_21 vX0_93 (ty_r hb 21 rfl) ⟨by decide, rfl⟩ (z0_takenA hfp hl hn) rfl rfl (Nat.le_of_ble_eq_true rfl) (by omega) (by omega) (by omega) (k_p ?_)
  refine q_iconst (v := (-1 : Int32)) dX0_countWorked_24 rfl ?_
  refine q_ixor dX0_countWorked_25 ?_
  refine q_iand dX0_countWorked_26 ?_
  refine q_top (y := mkN (fun e => wk q e n && !tkn q l e n) (psM q).length) (mk_andn hk) ?_
  refine q_iload_n dX0_countWorked_27 rfl rfl ?_
  refine q_iushr (v := ((mkN (fun e => wk q e n && !tkn q l e n) (psM q).length).toUInt32 >>> ((nI e).toUInt32 &&& Int32.toUInt32 31)).toInt32) dX0_countWorked_28 rfl ?_
  refine q_iconst (v := nI 1) dX0_countWorked_29 rfl ?_
  refine q_iand dX0_countWorked_30 ?_
  refine q_top (y := bi (wk q e n && !tkn q l e n)) (mk_bit hk he) ?_
  refine q_istore dX0_countWorked_31 (by decide) (ls' := [(5, .int (bi (wk q e n && !tkn q l e n))), (4, .int (bi (stA q l e n))), (0, .ref (b + 21)), (1, .int (nI l)), (2, .int (nI e)), (3, .int (nI n))]) rfl ?_
  refine q_iload dX0_countWorked_33 rfl ?_
  refine q_iload dX0_countWorked_35 rfl ?_
  refine q_iadd dX0_countWorked_37 ?_
  refine q_top (y := nI (cwB q l e n)) cw_add ?_
  refine q_ireturn dX0_countWorked_38 rfl rfl (by omega) (by omega) ?_
  exact ⟨rfl, rfl⟩
theorem y2_onWay1 (hr : RTN σ b q) {l e i j : Nat} (hl : l < 3) (he : e < (psM q).length) (hj : j < (psF q).length) {c : Nat} {Z : List Frame → Array Value → State → State → Prop} (K : WA g mX2_countOnWay 3 0 0 Z 0 0 66 [(0, .ref b), (1, .int (nI l)), (2, .int (nI e)), (3, .int (nI (c + sgN q l e (nf q j) (nf q (j + 1) - nf q j)))), (4, .int (nI i)), (5, .int (nI j))] [] σ) : ∀ (k n : Nat), nf q j + n + k = nf q (j + 1) → WA g mX2_countOnWay 3 0 0 Z 0 0 32 [(0, .ref b), (1, .int (nI l)), (2, .int (nI e)), (3, .int (nI (c + sgN q l e (nf q j) n))), (4, .int (nI i)), (5, .int (nI j)), (6, .int (nI (nf q j + n)))] [] σ := by
  have hb := hr.1
  have hb14 : b = 14 ∨ 99 ≤ b := by rcases hb.1 with h | ⟨j, h⟩ <;> omega
  have hNN := NN_le hr.2.1
  have h40 := hr.2.1.2.1
  obtain ⟨g1, e1, e2, -⟩ := hr.end hj
  have hle : nf q (j + 1) ≤ NN q := by have := nf_le hr.2.1 (j := j + 1) (by omega); unfold NN; omega
  intro k
  induction k with
  | zero =>
    intro n hn
    refine q_iload dX2_countOnWay_32 rfl ?_
    refine q_aload_n dX2_countOnWay_34 rfl rfl rfl ?_
    refine q_getr (r := b + 15) dX2_countOnWay_35 fX2_38 rfl (ty_r hb 0 rfl) (hb.2.2 0 8 15 rfl) ?_
    refine q_iload dX2_countOnWay_38 rfl ?_
    refine q_iconst (v := nI 1) dX2_countOnWay_40 rfl ?_
    refine q_iaddN dX2_countOnWay_41 ?_
    refine q_iald (x := nI (nf q (j + 1))) (j := (j + 1)) dX2_countOnWay_42 (ty_r hb 15 rfl) (ix_n (by omega) (by omega)) g1 ?_
    refine q_icmp_geN (tgt := 66) dX2_countOnWay_43 (by decide) (by omega) (by omega) (fun c43 => ?_) (fun c43 => ?_)
    · skip
      refine q_pk [0, 1, 2, 3, 4, 5] (ls' := [(0, .ref b), (1, .int (nI l)), (2, .int (nI e)), (3, .int (nI (c + sgN q l e (nf q j) n))), (4, .int (nI i)), (5, .int (nI j))]) rfl ?_
      rw [show n = nf q (j + 1) - nf q j by omega]
      exact K
    · exact absurd c43 (by omega)
  | succ k ih =>
    intro n hn
    refine q_iload dX2_countOnWay_32 rfl ?_
    refine q_aload_n dX2_countOnWay_34 rfl rfl rfl ?_
    refine q_getr (r := b + 15) dX2_countOnWay_35 fX2_38 rfl (ty_r hb 0 rfl) (hb.2.2 0 8 15 rfl) ?_
    refine q_iload dX2_countOnWay_38 rfl ?_
    refine q_iconst (v := nI 1) dX2_countOnWay_40 rfl ?_
    refine q_iaddN dX2_countOnWay_41 ?_
    refine q_iald (x := nI (nf q (j + 1))) (j := (j + 1)) dX2_countOnWay_42 (ty_r hb 15 rfl) (ix_n (by omega) (by omega)) g1 ?_
    refine q_icmp_geN (tgt := 66) dX2_countOnWay_43 (by decide) (by omega) (by omega) (fun c43 => ?_) (fun c43 => ?_)
    · exact absurd c43 (by omega)
    · skip
      refine q_iload_n dX2_countOnWay_46 rfl rfl ?_
      refine q_aload_n dX2_countOnWay_47 rfl rfl rfl ?_
      refine q_getr (r := b + 21) dX2_countOnWay_48 fX2_54 rfl (ty_r hb 0 rfl) (hb.2.2 0 11 21 rfl) ?_
      refine q_iload_n dX2_countOnWay_51 rfl rfl ?_
      refine q_iload_n dX2_countOnWay_52 rfl rfl ?_
      refine q_iload dX2_countOnWay_53 rfl ?_
      refine q_callV (As := [.int (nI l), .int (nI e), .int (nI (nf q j + n))]) (rest := [.int (nI (c + sgN q l e (nf q j) n))]) dX2_countOnWay_55 vX2_125 (ty_r hb 21 rfl) ⟨by decide, rfl⟩ (z0_countWorked hr hl he (by omega)) rfl rfl (Nat.le_of_ble_eq_true rfl) (by omega) (by omega) (by omega) (k_p ?_)
      refine q_iadd dX2_countOnWay_58 ?_
      refine q_top (y := nI (c + sgN q l e (nf q j) (n + 1))) ((nI_add _ _).trans (by rw [Nat.add_assoc]; rfl)) ?_
      refine q_istore_n dX2_countOnWay_59 rfl (by decide) (ls' := [(3, .int (nI (c + sgN q l e (nf q j) (n + 1)))), (0, .ref b), (1, .int (nI l)), (2, .int (nI e)), (4, .int (nI i)), (5, .int (nI j)), (6, .int (nI (nf q j + n)))]) rfl ?_
      refine q_iincN (c := 1) dX2_countOnWay_60 rfl (by decide) rfl (ls' := [(6, .int (nI (nf q j + n + 1))), (3, .int (nI (c + sgN q l e (nf q j) (n + 1)))), (0, .ref b), (1, .int (nI l)), (2, .int (nI e)), (4, .int (nI i)), (5, .int (nI j))]) rfl ?_
      refine q_goto (tgt := 32) dX2_countOnWay_63 (by decide) ?_
      refine q_pk [2, 3, 4, 1, 5, 6, 0] (ls' := [(0, .ref b), (1, .int (nI l)), (2, .int (nI e)), (3, .int (nI (c + sgN q l e (nf q j) (n + 1)))), (4, .int (nI i)), (5, .int (nI j)), (6, .int (nI (nf q j + n + 1)))]) rfl ?_
      exact ih (n + 1) (by omega)
theorem y2_onWay2 (hr : RTN σ b q) {ws : List Nat} {l e i j c : Nat} (hl : l < 3) (he : e < (psM q).length) (y1 : sI σ b 15 = nI ws.length) (y2 : ws.length ≤ 60) (y3 : ∀ i, i < ws.length → sI σ (b + 16) i = nI (ws.getD i 0) ∧ ws.getD i 0 < (psF q).length) (hi : i < ws.length) (ej : ws.getD i 0 = j) {c2 : Nat} (key : ∀ x : Nat, x = (if i + 1 < ws.length then (match lTw q (ws.getD i 0) (ws.getD (i + 1) 0) with | none => 0 | some x => if (psS q).length ≤ x then cwB q l e x else 0) else 0) → nI (c + x) = nI c2) {Z : List Frame → Array Value → State → State → Prop} (K : WA g mX2_countOnWay 3 0 0 Z 0 0 5 [(0, .ref b), (1, .int (nI l)), (2, .int (nI e)), (3, .int (nI c2)), (4, .int (nI (i + 1)))] [] σ) : WA g mX2_countOnWay 3 0 0 Z 0 0 66 [(0, .ref b), (1, .int (nI l)), (2, .int (nI e)), (3, .int (nI c)), (4, .int (nI i)), (5, .int (nI j))] [] σ := by
  have hb := hr.1
  have hb14 : b = 14 ∨ 99 ≤ b := by rcases hb.1 with h | ⟨j, h⟩ <;> omega
  have hNN := NN_le hr.2.1
  have h40 := hr.2.1.2.1
  have h13 := hr.2.2.2.2.2.2.2.1
  have h160 := hr.2.1.2.2.1
  have v2 := (y3 i hi).2
  rw [ej] at v2 key
  by_cases hl2 : i + 1 < ws.length
  · obtain ⟨w1, w2⟩ := y3 (i + 1) hl2
    rw [if_pos hl2] at key
    generalize ws.getD (i + 1) 0 = t at w1 w2 key
    obtain ⟨-, -, -, hend, -⟩ := hr.end v2
    have hlt : ∀ x, lTw q j t = some x → x < NN q := fun x hx => by
      unfold lTw at hx
      split at hx
      · exact ld_lt hr.2.1 hr.2.2.1 hr.2.2.2.1 hend hx
      · exact ld_lt hr.2.1 hr.2.2.1 hr.2.2.2.1 hend hx
    cases hx : lTw q j t with
    | none =>
      rw [hx] at key
      have k0 := key 0 rfl
      rw [Nat.add_zero] at k0
      refine q_iload dX2_countOnWay_66 rfl ?_
      refine q_iconst (v := nI 1) dX2_countOnWay_68 rfl ?_
      refine q_iaddN dX2_countOnWay_69 ?_
      refine q_aload_n dX2_countOnWay_70 rfl rfl rfl ?_
      refine q_geti (x := nI ws.length) dX2_countOnWay_71 fX2_71 rfl (ty_r hb 0 rfl) y1 ?_
      refine q_icmp_geN (tgt := 95) dX2_countOnWay_74 (by decide) (by omega) (by omega) (fun c74 => ?_) (fun c74 => ?_)
      · exact absurd c74 (by omega)
      · skip
        refine q_aload_n dX2_countOnWay_77 rfl rfl rfl ?_
        refine q_iload dX2_countOnWay_78 rfl ?_
        refine q_aload_n dX2_countOnWay_80 rfl rfl rfl ?_
        refine q_getr (r := b + 16) dX2_countOnWay_81 fX2_41 rfl (ty_r hb 0 rfl) (hb.2.2 0 9 16 rfl) ?_
        refine q_iload dX2_countOnWay_84 rfl ?_
        refine q_iconst (v := nI 1) dX2_countOnWay_86 rfl ?_
        refine q_iaddN dX2_countOnWay_87 ?_
        refine q_iald (x := nI t) (j := (i + 1)) dX2_countOnWay_88 (ty_r hb 16 rfl) (ix_n (by omega) (by omega)) w1 ?_
        refine q_callV (As := [.int (nI j), .int (nI t)]) (rest := []) dX2_countOnWay_89 vX2_128 (ty_r hb 0 rfl) ⟨by decide, rfl⟩ (z2_towards hr v2 (by omega)) rfl rfl (Nat.le_of_ble_eq_true rfl) (by omega) (by omega) (by omega) (k_p ?_)
        refine q_goto (tgt := 96) dX2_countOnWay_92 (by decide) ?_
        refine q_top (y := (-1)) (by rw [hx]; rfl) ?_
        refine q_istore dX2_countOnWay_96 (by decide) (ls' := [(6, .int (-1)), (0, .ref b), (1, .int (nI l)), (2, .int (nI e)), (3, .int (nI c)), (4, .int (nI i)), (5, .int (nI j))]) rfl ?_
        refine q_iload dX2_countOnWay_98 rfl ?_
        refine q_aload_n dX2_countOnWay_100 rfl rfl rfl ?_
        refine q_geti (x := nI ((psS q).length)) dX2_countOnWay_101 fX2_65 rfl (ty_r hb 0 rfl) h13 ?_
        refine q_icmp_lt1 (tgt := 121) dX2_countOnWay_104 (by decide) (by omega) (by decide) ?_
        refine q_iincN (c := 1) dX2_countOnWay_121 rfl (by decide) rfl (ls' := [(4, .int (nI (i + 1))), (6, .int (-1)), (0, .ref b), (1, .int (nI l)), (2, .int (nI e)), (3, .int (nI c)), (5, .int (nI j))]) rfl ?_
        refine q_goto (tgt := 5) dX2_countOnWay_124 (by decide) ?_
        refine q_pk [2, 3, 4, 5, 0] (ls' := [(0, .ref b), (1, .int (nI l)), (2, .int (nI e)), (3, .int (nI c)), (4, .int (nI (i + 1)))]) rfl ?_
        rw [k0]
        exact K
    | some x =>
      rw [hx] at key
      have hxl := hlt x hx
      by_cases hs : (psS q).length ≤ x
      · have k0 := key (cwB q l e x) (by show _ = if _ then _ else _; rw [if_pos hs])
        refine q_iload dX2_countOnWay_66 rfl ?_
        refine q_iconst (v := nI 1) dX2_countOnWay_68 rfl ?_
        refine q_iaddN dX2_countOnWay_69 ?_
        refine q_aload_n dX2_countOnWay_70 rfl rfl rfl ?_
        refine q_geti (x := nI ws.length) dX2_countOnWay_71 fX2_71 rfl (ty_r hb 0 rfl) y1 ?_
        refine q_icmp_geN (tgt := 95) dX2_countOnWay_74 (by decide) (by omega) (by omega) (fun c74 => ?_) (fun c74 => ?_)
        · exact absurd c74 (by omega)
        · skip
          refine q_aload_n dX2_countOnWay_77 rfl rfl rfl ?_
          refine q_iload dX2_countOnWay_78 rfl ?_
          refine q_aload_n dX2_countOnWay_80 rfl rfl rfl ?_
          refine q_getr (r := b + 16) dX2_countOnWay_81 fX2_41 rfl (ty_r hb 0 rfl) (hb.2.2 0 9 16 rfl) ?_
          refine q_iload dX2_countOnWay_84 rfl ?_
          refine q_iconst (v := nI 1) dX2_countOnWay_86 rfl ?_
          refine q_iaddN dX2_countOnWay_87 ?_
          refine q_iald (x := nI t) (j := (i + 1)) dX2_countOnWay_88 (ty_r hb 16 rfl) (ix_n (by omega) (by omega)) w1 ?_
          refine q_callV (As := [.int (nI j), .int (nI t)]) (rest := []) dX2_countOnWay_89 vX2_128 (ty_r hb 0 rfl) ⟨by decide, rfl⟩ (z2_towards hr v2 (by omega)) rfl rfl (Nat.le_of_ble_eq_true rfl) (by omega) (by omega) (by omega) (k_p ?_)
          refine q_goto (tgt := 96) dX2_countOnWay_92 (by decide) ?_
          refine q_top (y := nI x) (by rw [hx]; rfl) ?_
          refine q_istore dX2_countOnWay_96 (by decide) (ls' := [(6, .int (nI x)), (0, .ref b), (1, .int (nI l)), (2, .int (nI e)), (3, .int (nI c)), (4, .int (nI i)), (5, .int (nI j))]) rfl ?_
          refine q_iload dX2_countOnWay_98 rfl ?_
          refine q_aload_n dX2_countOnWay_100 rfl rfl rfl ?_
          refine q_geti (x := nI ((psS q).length)) dX2_countOnWay_101 fX2_65 rfl (ty_r hb 0 rfl) h13 ?_
          refine q_icmp_ltN (tgt := 121) dX2_countOnWay_104 (by decide) (by omega) (by omega) (fun c104 => ?_) (fun c104 => ?_)
          · exact absurd c104 (by omega)
          · skip
            refine q_iload_n dX2_countOnWay_107 rfl rfl ?_
            refine q_aload_n dX2_countOnWay_108 rfl rfl rfl ?_
            refine q_getr (r := b + 21) dX2_countOnWay_109 fX2_54 rfl (ty_r hb 0 rfl) (hb.2.2 0 11 21 rfl) ?_
            refine q_iload_n dX2_countOnWay_112 rfl rfl ?_
            refine q_iload_n dX2_countOnWay_113 rfl rfl ?_
            refine q_iload dX2_countOnWay_114 rfl ?_
            refine q_callV (As := [.int (nI l), .int (nI e), .int (nI x)]) (rest := [.int (nI c)]) dX2_countOnWay_116 vX2_125 (ty_r hb 21 rfl) ⟨by decide, rfl⟩ (z0_countWorked hr hl he hxl) rfl rfl (Nat.le_of_ble_eq_true rfl) (by omega) (by omega) (by omega) (k_p ?_)
            refine q_iadd dX2_countOnWay_119 ?_
            refine q_top (y := nI c2) ((nI_add _ _).trans k0) ?_
            refine q_istore_n dX2_countOnWay_120 rfl (by decide) (ls' := [(3, .int (nI c2)), (6, .int (nI x)), (0, .ref b), (1, .int (nI l)), (2, .int (nI e)), (4, .int (nI i)), (5, .int (nI j))]) rfl ?_
            refine q_iincN (c := 1) dX2_countOnWay_121 rfl (by decide) rfl (ls' := [(4, .int (nI (i + 1))), (3, .int (nI c2)), (6, .int (nI x)), (0, .ref b), (1, .int (nI l)), (2, .int (nI e)), (5, .int (nI j))]) rfl ?_
            refine q_goto (tgt := 5) dX2_countOnWay_124 (by decide) ?_
            refine q_pk [3, 4, 5, 1, 0] (ls' := [(0, .ref b), (1, .int (nI l)), (2, .int (nI e)), (3, .int (nI c2)), (4, .int (nI (i + 1)))]) rfl ?_
            exact K
      · have k0 := key 0 (by show _ = if _ then _ else _; rw [if_neg hs])
        rw [Nat.add_zero] at k0
        refine q_iload dX2_countOnWay_66 rfl ?_
        refine q_iconst (v := nI 1) dX2_countOnWay_68 rfl ?_
        refine q_iaddN dX2_countOnWay_69 ?_
        refine q_aload_n dX2_countOnWay_70 rfl rfl rfl ?_
        refine q_geti (x := nI ws.length) dX2_countOnWay_71 fX2_71 rfl (ty_r hb 0 rfl) y1 ?_
        refine q_icmp_geN (tgt := 95) dX2_countOnWay_74 (by decide) (by omega) (by omega) (fun c74 => ?_) (fun c74 => ?_)
        · exact absurd c74 (by omega)
        · skip
          refine q_aload_n dX2_countOnWay_77 rfl rfl rfl ?_
          refine q_iload dX2_countOnWay_78 rfl ?_
          refine q_aload_n dX2_countOnWay_80 rfl rfl rfl ?_
          refine q_getr (r := b + 16) dX2_countOnWay_81 fX2_41 rfl (ty_r hb 0 rfl) (hb.2.2 0 9 16 rfl) ?_
          refine q_iload dX2_countOnWay_84 rfl ?_
          refine q_iconst (v := nI 1) dX2_countOnWay_86 rfl ?_
          refine q_iaddN dX2_countOnWay_87 ?_
          refine q_iald (x := nI t) (j := (i + 1)) dX2_countOnWay_88 (ty_r hb 16 rfl) (ix_n (by omega) (by omega)) w1 ?_
          refine q_callV (As := [.int (nI j), .int (nI t)]) (rest := []) dX2_countOnWay_89 vX2_128 (ty_r hb 0 rfl) ⟨by decide, rfl⟩ (z2_towards hr v2 (by omega)) rfl rfl (Nat.le_of_ble_eq_true rfl) (by omega) (by omega) (by omega) (k_p ?_)
          refine q_goto (tgt := 96) dX2_countOnWay_92 (by decide) ?_
          refine q_top (y := nI x) (by rw [hx]; rfl) ?_
          refine q_istore dX2_countOnWay_96 (by decide) (ls' := [(6, .int (nI x)), (0, .ref b), (1, .int (nI l)), (2, .int (nI e)), (3, .int (nI c)), (4, .int (nI i)), (5, .int (nI j))]) rfl ?_
          refine q_iload dX2_countOnWay_98 rfl ?_
          refine q_aload_n dX2_countOnWay_100 rfl rfl rfl ?_
          refine q_geti (x := nI ((psS q).length)) dX2_countOnWay_101 fX2_65 rfl (ty_r hb 0 rfl) h13 ?_
          refine q_icmp_ltN (tgt := 121) dX2_countOnWay_104 (by decide) (by omega) (by omega) (fun c104 => ?_) (fun c104 => ?_)
          · skip
            refine q_iincN (c := 1) dX2_countOnWay_121 rfl (by decide) rfl (ls' := [(4, .int (nI (i + 1))), (6, .int (nI x)), (0, .ref b), (1, .int (nI l)), (2, .int (nI e)), (3, .int (nI c)), (5, .int (nI j))]) rfl ?_
            refine q_goto (tgt := 5) dX2_countOnWay_124 (by decide) ?_
            refine q_pk [2, 3, 4, 5, 0] (ls' := [(0, .ref b), (1, .int (nI l)), (2, .int (nI e)), (3, .int (nI c)), (4, .int (nI (i + 1)))]) rfl ?_
            rw [k0]
            exact K
          · exact absurd c104 (by omega)
  · rw [if_neg hl2] at key
    have k0 := key 0 rfl
    rw [Nat.add_zero] at k0
    refine q_iload dX2_countOnWay_66 rfl ?_
    refine q_iconst (v := nI 1) dX2_countOnWay_68 rfl ?_
    refine q_iaddN dX2_countOnWay_69 ?_
    refine q_aload_n dX2_countOnWay_70 rfl rfl rfl ?_
    refine q_geti (x := nI ws.length) dX2_countOnWay_71 fX2_71 rfl (ty_r hb 0 rfl) y1 ?_
    refine q_icmp_geN (tgt := 95) dX2_countOnWay_74 (by decide) (by omega) (by omega) (fun c74 => ?_) (fun c74 => ?_)
    · skip
      refine q_iconst (v := (-1 : Int32)) dX2_countOnWay_95 rfl ?_
      refine q_top (y := (-1)) rfl ?_
      refine q_istore dX2_countOnWay_96 (by decide) (ls' := [(6, .int (-1)), (0, .ref b), (1, .int (nI l)), (2, .int (nI e)), (3, .int (nI c)), (4, .int (nI i)), (5, .int (nI j))]) rfl ?_
      refine q_iload dX2_countOnWay_98 rfl ?_
      refine q_aload_n dX2_countOnWay_100 rfl rfl rfl ?_
      refine q_geti (x := nI ((psS q).length)) dX2_countOnWay_101 fX2_65 rfl (ty_r hb 0 rfl) h13 ?_
      refine q_icmp_lt1 (tgt := 121) dX2_countOnWay_104 (by decide) (by omega) (by decide) ?_
      refine q_iincN (c := 1) dX2_countOnWay_121 rfl (by decide) rfl (ls' := [(4, .int (nI (i + 1))), (6, .int (-1)), (0, .ref b), (1, .int (nI l)), (2, .int (nI e)), (3, .int (nI c)), (5, .int (nI j))]) rfl ?_
      refine q_goto (tgt := 5) dX2_countOnWay_124 (by decide) ?_
      refine q_pk [2, 3, 4, 5, 0] (ls' := [(0, .ref b), (1, .int (nI l)), (2, .int (nI e)), (3, .int (nI c)), (4, .int (nI (i + 1)))]) rfl ?_
      rw [k0]
      exact K
    · exact absurd c74 (by omega)
theorem y2_onWay (hr : RTN σ b q) {ws : List Nat} (hy : WY σ b q ws) {l e : Nat} (hl : l < 3) (he : e < (psM q).length) : ∀ (k i : Nat), i + k = ws.length → WA g mX2_countOnWay 3 0 0 (ZM g (PQ σ (.int (nI (wkN q l e ws ws.length)))) 0 0) 0 0 5 [(0, .ref b), (1, .int (nI l)), (2, .int (nI e)), (3, .int (nI (wkN q l e ws i))), (4, .int (nI i))] [] σ := by
  have hb := hr.1
  have hb14 : b = 14 ∨ 99 ≤ b := by rcases hb.1 with h | ⟨j, h⟩ <;> omega
  have hNN := NN_le hr.2.1
  have h40 := hr.2.1.2.1
  have h13 := hr.2.2.2.2.2.2.2.1
  have h160 := hr.2.1.2.2.1
  obtain ⟨y1, y2, y3⟩ := hy
  intro k
  induction k with
  | zero =>
    intro i hi
    refine q_iload dX2_countOnWay_5 rfl ?_
    refine q_aload_n dX2_countOnWay_7 rfl rfl rfl ?_
    refine q_geti (x := nI ws.length) dX2_countOnWay_8 fX2_71 rfl (ty_r hb 0 rfl) y1 ?_
    refine q_icmp_geN (tgt := 127) dX2_countOnWay_11 (by decide) (by omega) (by omega) (fun c11 => ?_) (fun c11 => ?_)
    · skip
      refine q_iload_n dX2_countOnWay_127 rfl rfl ?_
      refine q_ireturn dX2_countOnWay_128 rfl rfl (by omega) (by omega) ?_
      rw [← hi]
      exact ⟨rfl, rfl⟩
    · exact absurd c11 (by omega)
  | succ k ih =>
    intro i hi
    obtain ⟨v1, v2⟩ := y3 i (by omega)
    have hI := ih (i + 1) (by omega)
    have eI : wkN q l e ws (i + 1) = wkN q l e ws i + wkI q l e ws i := rfl
    have g0 := hr.2.2.2.2.2.2.2.2.2.2.2.1 (ws.getD i 0) (by omega)
    have hlt := hr.2.1.2.2.2.2.1 (ws.getD i 0) v2
    have hle : nf q (ws.getD i 0 + 1) ≤ 160 := by have := nf_le hr.2.1 (j := ws.getD i 0 + 1) (by omega); omega
    have key : ∀ x : Nat, x = (if i + 1 < ws.length then (match lTw q (ws.getD i 0) (ws.getD (i + 1) 0) with | none => 0 | some x => if (psS q).length ≤ x then cwB q l e x else 0) else 0) → nI (wkN q l e ws i + sgN q l e (nf q (ws.getD i 0)) (nf q (ws.getD i 0 + 1) - nf q (ws.getD i 0)) + x) = nI (wkN q l e ws (i + 1)) := fun x hx => by
      rw [eI, hx, Nat.add_assoc]; rfl
    refine q_iload dX2_countOnWay_5 rfl ?_
    refine q_aload_n dX2_countOnWay_7 rfl rfl rfl ?_
    refine q_geti (x := nI ws.length) dX2_countOnWay_8 fX2_71 rfl (ty_r hb 0 rfl) y1 ?_
    refine q_icmp_geN (tgt := 127) dX2_countOnWay_11 (by decide) (by omega) (by omega) (fun c11 => ?_) (fun c11 => ?_)
    · exact absurd c11 (by omega)
    · skip
      refine q_aload_n dX2_countOnWay_14 rfl rfl rfl ?_
      refine q_getr (r := b + 16) dX2_countOnWay_15 fX2_41 rfl (ty_r hb 0 rfl) (hb.2.2 0 9 16 rfl) ?_
      refine q_iload dX2_countOnWay_18 rfl ?_
      refine q_iald (x := nI (ws.getD i 0)) (j := i) dX2_countOnWay_20 (ty_r hb 16 rfl) (ix_n (by omega) (by omega)) v1 ?_
      refine q_istore dX2_countOnWay_21 (by decide) (ls' := [(5, .int (nI (ws.getD i 0))), (0, .ref b), (1, .int (nI l)), (2, .int (nI e)), (3, .int (nI (wkN q l e ws i))), (4, .int (nI i))]) rfl ?_
      refine q_aload_n dX2_countOnWay_23 rfl rfl rfl ?_
      refine q_getr (r := b + 15) dX2_countOnWay_24 fX2_38 rfl (ty_r hb 0 rfl) (hb.2.2 0 8 15 rfl) ?_
      refine q_iload dX2_countOnWay_27 rfl ?_
      refine q_iald (x := nI (nf q (ws.getD i 0))) (j := (ws.getD i 0)) dX2_countOnWay_29 (ty_r hb 15 rfl) (ix_n (by omega) (by omega)) g0 ?_
      refine q_istore dX2_countOnWay_30 (by decide) (ls' := [(6, .int (nI (nf q (ws.getD i 0)))), (5, .int (nI (ws.getD i 0))), (0, .ref b), (1, .int (nI l)), (2, .int (nI e)), (3, .int (nI (wkN q l e ws i))), (4, .int (nI i))]) rfl ?_
      refine q_pk [2, 3, 4, 5, 6, 1, 0] (ls' := [(0, .ref b), (1, .int (nI l)), (2, .int (nI e)), (3, .int (nI (wkN q l e ws i))), (4, .int (nI i)), (5, .int (nI (ws.getD i 0))), (6, .int (nI (nf q (ws.getD i 0))))]) rfl ?_
      refine y2_onWay1 hr hl he v2 (c := wkN q l e ws i) ?_ (nf q (ws.getD i 0 + 1) - nf q (ws.getD i 0)) 0 (by omega)
      exact y2_onWay2 hr hl he y1 y2 y3 (by omega) rfl key hI
theorem z2_countOnWay (hr : RTN σ b q) {ws : List Nat} (hy : WY σ b q ws) {l e : Nat} (hl : l < 3) (he : e < (psM q).length) : CT g mX2_countOnWay 3 0 0 [.ref b, .int (nI l), .int (nI e)] σ (PQ σ (.int (nI (wkN q l e ws ws.length)))) := by
  have hb := hr.1
  refine CT.of (by decide) (Nat.le_of_ble_eq_true rfl) ?_
  refine q_iconst (v := nI 0) dX2_countOnWay_0 rfl ?_
  refine q_istore_n dX2_countOnWay_1 rfl (by decide) (ls' := [(3, .int (nI 0)), (0, .ref b), (1, .int (nI l)), (2, .int (nI e))]) rfl ?_
  refine q_iconst (v := nI 0) dX2_countOnWay_2 rfl ?_
  refine q_istore dX2_countOnWay_3 (by decide) (ls' := [(4, .int (nI 0)), (3, .int (nI 0)), (0, .ref b), (1, .int (nI l)), (2, .int (nI e))]) rfl ?_
  refine q_pk [2, 3, 4, 1, 0] (ls' := [(0, .ref b), (1, .int (nI l)), (2, .int (nI e)), (3, .int (nI 0)), (4, .int (nI 0))]) rfl ?_
  exact y2_onWay hr hy hl he ws.length 0 (by omega)
theorem z8_works0 (hS : SK σ) (h : RA σ p none) {l e : Int32} : CT g mX8_works 1 0 0 [.ref 1, .int p, .int l, .int e] σ (PQ σ (.int (-1))) := by
  refine CT.of (by decide) (Nat.le_of_ble_eq_true rfl) ?_
  refine q_aload_n dX8_works_0 rfl rfl rfl ?_
  refine q_iload_n dX8_works_1 rfl rfl ?_
  refine q_callV (As := [.int p]) (rest := []) dX8_works_2 vX8_89 (ty_c hS (by decide) rfl) ⟨by decide, rfl⟩ (z8_routineAt0 hS h) rfl rfl (Nat.le_of_ble_eq_true rfl) (by omega) (by omega) (by omega) (k_p ?_)
  refine q_astore dX8_works_5 rfl (by decide) (ls' := [(4, .ref 0), (0, .ref 1), (1, .int p), (2, .int l), (3, .int e)]) rfl ?_
  refine q_aload dX8_works_7 rfl rfl ?_
  refine q_ifnull (tgt := 31) dX8_works_9 (by decide) (fun c9 => ?_) (fun c9 => ?_)
  · skip
    refine q_iconst (v := (-1 : Int32)) dX8_works_31 rfl ?_
    refine q_ireturn dX8_works_32 rfl rfl (by omega) (by omega) ?_
    exact ⟨rfl, rfl⟩
  · exact absurd c9 (by omega)
theorem z8_works1 (hS : SK σ) (h : RA σ p (some (b, q))) {ws : List Nat} (hy : WY σ b q ws) {l e : Int32} : CT g mX8_works 4 0 0 [.ref 1, .int p, .int l, .int e] σ (PQ σ (.int (if (¬ l < 0 ∧ l < nI 3) ∧ ¬ e < 0 ∧ e < nI (psM q).length then nI (wkN q l.toNatClampNeg e.toNatClampNeg ws ws.length) else -1))) := by
  obtain ⟨i, hi, rfl, h0, hr⟩ := h
  simp only at h0 hr
  have hb := hr.1
  have hb14 : b = 14 ∨ 99 ≤ b := by rcases hb.1 with h | ⟨j, h⟩ <;> omega
  obtain ⟨-, hbc, hw, hnb, hxx, hF, g12, g13, g14, g16, hsr, g15, hrow, hfx⟩ := id hr
  have hNN := NN_le hbc
  have hk := hsr.2.1
  have h40 := hbc.2.1
  by_cases hl : ¬ l < 0 ∧ l < nI 3
  · by_cases he : ¬ e < 0 ∧ e < nI (psM q).length
    · obtain ⟨m, hm, rfl⟩ := n_in (by omega) he
      rw [if_pos ⟨hl, he⟩]
      obtain ⟨v, hv, rfl⟩ := n_in (by omega) hl
      rw [nI_clamp (by omega), nI_clamp (by omega)]
      refine CT.of (by decide) (Nat.le_of_ble_eq_true rfl) ?_
      refine q_aload_n dX8_works_0 rfl rfl rfl ?_
      refine q_iload_n dX8_works_1 rfl rfl ?_
      refine q_callV (As := [.int (nI i)]) (rest := []) dX8_works_2 vX8_89 (ty_c hS (by decide) rfl) ⟨by decide, rfl⟩ (z8_routineAt1 hS hi hb h0) rfl rfl (Nat.le_of_ble_eq_true rfl) (by omega) (by omega) (by omega) (k_p ?_)
      refine q_astore dX8_works_5 rfl (by decide) (ls' := [(4, .ref b), (0, .ref 1), (1, .int (nI i)), (2, .int (nI v)), (3, .int (nI m))]) rfl ?_
      refine q_aload dX8_works_7 rfl rfl ?_
      refine q_ifnull (tgt := 31) dX8_works_9 (by decide) (fun c9 => ?_) (fun c9 => ?_)
      · exact absurd c9 (by omega)
      · skip
        refine q_iload_n dX8_works_12 rfl rfl ?_
        refine q_callS (As := [.int (nI v)]) (rest := []) dX8_works_13 vX8_154 (z8_isPlacing) rfl rfl (Nat.le_of_ble_eq_true rfl) (by omega) (by omega) (by omega) (k_p ?_)
        refine q_if_eqB (tgt := 31) dX8_works_16 (by decide) (fun c16 => ?_) (fun c16 => ?_)
        · exact absurd hl (of_decide_eq_false c16)
        · skip
          refine q_aload dX8_works_19 rfl rfl ?_
          refine q_getr (r := b + 17) dX8_works_21 fX8_72 rfl (ty_r hb 0 rfl) (hb.2.2 0 10 17 rfl) ?_
          refine q_iload_n dX8_works_24 rfl rfl ?_
          refine q_callV (As := [.int (nI m)]) (rest := []) dX8_works_25 vX8_123 (ty_r hb 17 rfl) ⟨by decide, rfl⟩ (z4_has hb hsr hm) rfl rfl (Nat.le_of_ble_eq_true rfl) (by omega) (by omega) (by omega) (k_p ?_)
          refine q_if_neB (tgt := 33) dX8_works_28 (by decide) (fun _ => ?_) (fun h => absurd h (by decide))
          refine q_aload dX8_works_33 rfl rfl ?_
          refine q_iload_n dX8_works_35 rfl rfl ?_
          refine q_iload_n dX8_works_36 rfl rfl ?_
          refine q_callV (As := [.int (nI v), .int (nI m)]) (rest := []) dX8_works_37 vX8_209 (ty_r hb 0 rfl) ⟨by decide, rfl⟩ (z2_countOnWay hr hy hv hm) rfl rfl (Nat.le_of_ble_eq_true rfl) (by omega) (by omega) (by omega) (k_p ?_)
          refine q_ireturn dX8_works_40 rfl rfl (by omega) (by omega) ?_
          exact ⟨rfl, rfl⟩
    · rw [if_neg fun z => he z.2]
      refine CT.of (by decide) (Nat.le_of_ble_eq_true rfl) ?_
      refine q_aload_n dX8_works_0 rfl rfl rfl ?_
      refine q_iload_n dX8_works_1 rfl rfl ?_
      refine q_callV (As := [.int (nI i)]) (rest := []) dX8_works_2 vX8_89 (ty_c hS (by decide) rfl) ⟨by decide, rfl⟩ (z8_routineAt1 hS hi hb h0) rfl rfl (Nat.le_of_ble_eq_true rfl) (by omega) (by omega) (by omega) (k_p ?_)
      refine q_astore dX8_works_5 rfl (by decide) (ls' := [(4, .ref b), (0, .ref 1), (1, .int (nI i)), (2, .int l), (3, .int e)]) rfl ?_
      refine q_aload dX8_works_7 rfl rfl ?_
      refine q_ifnull (tgt := 31) dX8_works_9 (by decide) (fun c9 => ?_) (fun c9 => ?_)
      · exact absurd c9 (by omega)
      · skip
        refine q_iload_n dX8_works_12 rfl rfl ?_
        refine q_callS (As := [.int l]) (rest := []) dX8_works_13 vX8_154 (z8_isPlacing) rfl rfl (Nat.le_of_ble_eq_true rfl) (by omega) (by omega) (by omega) (k_p ?_)
        refine q_if_eqB (tgt := 31) dX8_works_16 (by decide) (fun c16 => ?_) (fun c16 => ?_)
        · exact absurd hl (of_decide_eq_false c16)
        · skip
          refine q_aload dX8_works_19 rfl rfl ?_
          refine q_getr (r := b + 17) dX8_works_21 fX8_72 rfl (ty_r hb 0 rfl) (hb.2.2 0 10 17 rfl) ?_
          refine q_iload_n dX8_works_24 rfl rfl ?_
          refine q_callV (As := [.int e]) (rest := []) dX8_works_25 vX8_123 (ty_r hb 17 rfl) ⟨by decide, rfl⟩ (z4_has0 hb hsr he) rfl rfl (Nat.le_of_ble_eq_true rfl) (by omega) (by omega) (by omega) (k_p ?_)
          refine q_if_neB (tgt := 33) dX8_works_28 (by decide) (fun h => absurd h (by decide)) (fun _ => ?_)
          refine q_iconst (v := (-1 : Int32)) dX8_works_31 rfl ?_
          refine q_ireturn dX8_works_32 rfl rfl (by omega) (by omega) ?_
          exact ⟨rfl, rfl⟩
  · rw [if_neg fun z => hl z.1]
    refine CT.of (by decide) (Nat.le_of_ble_eq_true rfl) ?_
    refine q_aload_n dX8_works_0 rfl rfl rfl ?_
    refine q_iload_n dX8_works_1 rfl rfl ?_
    refine q_callV (As := [.int (nI i)]) (rest := []) dX8_works_2 vX8_89 (ty_c hS (by decide) rfl) ⟨by decide, rfl⟩ (z8_routineAt1 hS hi hb h0) rfl rfl (Nat.le_of_ble_eq_true rfl) (by omega) (by omega) (by omega) (k_p ?_)
    refine q_astore dX8_works_5 rfl (by decide) (ls' := [(4, .ref b), (0, .ref 1), (1, .int (nI i)), (2, .int l), (3, .int e)]) rfl ?_
    refine q_aload dX8_works_7 rfl rfl ?_
    refine q_ifnull (tgt := 31) dX8_works_9 (by decide) (fun c9 => ?_) (fun c9 => ?_)
    · exact absurd c9 (by omega)
    · skip
      refine q_iload_n dX8_works_12 rfl rfl ?_
      refine q_callS (As := [.int l]) (rest := []) dX8_works_13 vX8_154 (z8_isPlacing) rfl rfl (Nat.le_of_ble_eq_true rfl) (by omega) (by omega) (by omega) (k_p ?_)
      refine q_if_eqB (tgt := 31) dX8_works_16 (by decide) (fun c16 => ?_) (fun c16 => ?_)
      · skip
        refine q_iconst (v := (-1 : Int32)) dX8_works_31 rfl ?_
        refine q_ireturn dX8_works_32 rfl rfl (by omega) (by omega) ?_
        exact ⟨rfl, rfl⟩
      · exact absurd (of_decide_eq_true c16) hl
theorem z8_step0 (hS : SK σ) (h : RA σ p none) {t : Int32} : CT g mX8_step 1 0 0 [.ref 1, .int p, .int t] σ (PQ σ (.int (-1))) := by
  refine CT.of (by decide) (Nat.le_of_ble_eq_true rfl) ?_
  refine q_aload_n dX8_step_0 rfl rfl rfl ?_
  refine q_iload_n dX8_step_1 rfl rfl ?_
  refine q_callV (As := [.int p]) (rest := []) dX8_step_2 vX8_89 (ty_c hS (by decide) rfl) ⟨by decide, rfl⟩ (z8_routineAt0 hS h) rfl rfl (Nat.le_of_ble_eq_true rfl) (by omega) (by omega) (by omega) (k_p ?_)
  refine q_astore_n dX8_step_5 rfl rfl (by decide) (ls' := [(3, .ref 0), (0, .ref 1), (1, .int p), (2, .int t)]) rfl ?_
  refine q_aload_n dX8_step_6 rfl rfl rfl ?_
  refine q_ifnull (tgt := 22) dX8_step_7 (by decide) (fun c7 => ?_) (fun c7 => ?_)
  · skip
    refine q_iconst (v := (-1 : Int32)) dX8_step_22 rfl ?_
    refine q_ireturn dX8_step_23 rfl rfl (by omega) (by omega) ?_
    exact ⟨rfl, rfl⟩
  · exact absurd c7 (by omega)
theorem z8_step2 (hS : SK σ) (h : RA σ p (some (b, q))) {t : Int32} (ht : ¬ (¬ t < 0 ∧ t < nI (psF q).length)) : CT g mX8_step 1 0 0 [.ref 1, .int p, .int t] σ (PQ σ (.int (-1))) := by
  obtain ⟨i, hi, rfl, h0, hr⟩ := h
  simp only at h0 hr
  have hb := hr.1
  have hb14 : b = 14 ∨ 99 ≤ b := by rcases hb.1 with h | ⟨j, h⟩ <;> omega
  obtain ⟨-, hbc, hw, hnb, hxx, hF, g12, g13, g14, g16, hsr, g15, hrow, hfx⟩ := id hr
  have hNN := NN_le hbc
  have hk := hsr.2.1
  have h40 := hbc.2.1
  refine CT.of (by decide) (Nat.le_of_ble_eq_true rfl) ?_
  refine q_aload_n dX8_step_0 rfl rfl rfl ?_
  refine q_iload_n dX8_step_1 rfl rfl ?_
  refine q_callV (As := [.int (nI i)]) (rest := []) dX8_step_2 vX8_89 (ty_c hS (by decide) rfl) ⟨by decide, rfl⟩ (z8_routineAt1 hS hi hb h0) rfl rfl (Nat.le_of_ble_eq_true rfl) (by omega) (by omega) (by omega) (k_p ?_)
  refine q_astore_n dX8_step_5 rfl rfl (by decide) (ls' := [(3, .ref b), (0, .ref 1), (1, .int (nI i)), (2, .int t)]) rfl ?_
  refine q_aload_n dX8_step_6 rfl rfl rfl ?_
  refine q_ifnull (tgt := 22) dX8_step_7 (by decide) (fun c7 => ?_) (fun c7 => ?_)
  · exact absurd c7 (by omega)
  · skip
    refine q_iload_n dX8_step_10 rfl rfl ?_
    refine q_if_lt (tgt := 22) dX8_step_11 (by decide) (fun c11 => ?_) (fun c11 => ?_)
    · skip
      refine q_iconst (v := (-1 : Int32)) dX8_step_22 rfl ?_
      refine q_ireturn dX8_step_23 rfl rfl (by omega) (by omega) ?_
      exact ⟨rfl, rfl⟩
    · skip
      refine q_iload_n dX8_step_14 rfl rfl ?_
      refine q_aload_n dX8_step_15 rfl rfl rfl ?_
      refine q_geti (x := nI ((psF q).length)) dX8_step_16 fX8_93 rfl (ty_r hb 0 rfl) g12 ?_
      refine q_icmp_lt (tgt := 24) dX8_step_19 (by decide) (fun c19 => ?_) (fun c19 => ?_)
      · exact absurd ⟨c11, c19⟩ ht
      · skip
        refine q_iconst (v := (-1 : Int32)) dX8_step_22 rfl ?_
        refine q_ireturn dX8_step_23 rfl rfl (by omega) (by omega) ?_
        exact ⟨rfl, rfl⟩
theorem z8_step1 (hS : SK σ) (h : RA σ p (some (b, q))) {ws : List Nat} (hy : WY σ b q ws) {t : Nat} (ht : t < (psF q).length) : CT g mX8_step 3 0 0 [.ref 1, .int p, .int (nI t)] σ (if cnG q ws t = true then (if ws.length < 60 then PQ (uI (uI σ b 15 (nI (ws.length + 1))) (b + 16) ws.length (nI t)) (.int (nI (ws.length + 1))) else PQ σ (.int (-3))) else PQ σ (.int (-2))) := by
  obtain ⟨i, hi, rfl, h0, hr⟩ := h
  simp only at h0 hr
  have hb := hr.1
  have hb14 : b = 14 ∨ 99 ≤ b := by rcases hb.1 with h | ⟨j, h⟩ <;> omega
  obtain ⟨-, hbc, hw, hnb, hxx, hF, g12, g13, g14, g16, hsr, g15, hrow, hfx⟩ := id hr
  have hNN := NN_le hbc
  have hk := hsr.2.1
  have h40 := hbc.2.1
  obtain ⟨y1, y2, y3⟩ := id hy
  by_cases hc : cnG q ws t = true
  · rw [if_pos hc]
    by_cases h60 : ws.length < 60
    · rw [if_pos h60]
      refine CT.of (by decide) (Nat.le_of_ble_eq_true rfl) ?_
      refine q_aload_n dX8_step_0 rfl rfl rfl ?_
      refine q_iload_n dX8_step_1 rfl rfl ?_
      refine q_callV (As := [.int (nI i)]) (rest := []) dX8_step_2 vX8_89 (ty_c hS (by decide) rfl) ⟨by decide, rfl⟩ (z8_routineAt1 hS hi hb h0) rfl rfl (Nat.le_of_ble_eq_true rfl) (by omega) (by omega) (by omega) (k_p ?_)
      refine q_astore_n dX8_step_5 rfl rfl (by decide) (ls' := [(3, .ref b), (0, .ref 1), (1, .int (nI i)), (2, .int (nI t))]) rfl ?_
      refine q_aload_n dX8_step_6 rfl rfl rfl ?_
      refine q_ifnull (tgt := 22) dX8_step_7 (by decide) (fun c7 => ?_) (fun c7 => ?_)
      · exact absurd c7 (by omega)
      · skip
        refine q_iload_n dX8_step_10 rfl rfl ?_
        refine q_if_ltN (tgt := 22) dX8_step_11 (by decide) (by omega) ?_
        refine q_iload_n dX8_step_14 rfl rfl ?_
        refine q_aload_n dX8_step_15 rfl rfl rfl ?_
        refine q_geti (x := nI ((psF q).length)) dX8_step_16 fX8_93 rfl (ty_r hb 0 rfl) g12 ?_
        refine q_icmp_ltN (tgt := 24) dX8_step_19 (by decide) (by omega) (by omega) (fun c19 => ?_) (fun c19 => ?_)
        · skip
          refine q_aload_n dX8_step_24 rfl rfl rfl ?_
          refine q_iload_n dX8_step_25 rfl rfl ?_
          refine q_callV (As := [.int (nI t)]) (rest := []) dX8_step_26 vX8_200 (ty_r hb 0 rfl) ⟨by decide, rfl⟩ (z2_canGo hr hy (by omega)) rfl rfl (Nat.le_of_ble_eq_true rfl) (by omega) (by omega) (by omega) (k_p ?_)
          refine q_if_neB (tgt := 35) dX8_step_29 (by decide) (fun c29 => ?_) (fun c29 => ?_)
          · skip
            refine q_aload_n dX8_step_35 rfl rfl rfl ?_
            refine q_geti (x := nI ws.length) dX8_step_36 fX8_203 rfl (ty_r hb 0 rfl) y1 ?_
            refine q_bipush (v := nI 60) dX8_step_39 rfl ?_
            refine q_icmp_ltN (tgt := 47) dX8_step_41 (by decide) (by omega) (by omega) (fun c41 => ?_) (fun c41 => ?_)
            · skip
              refine q_aload_n dX8_step_47 rfl rfl rfl ?_
              refine q_getr (r := b + 16) dX8_step_48 fX8_206 rfl (ty_r hb 0 rfl) (hb.2.2 0 9 16 rfl) ?_
              refine q_aload_n dX8_step_51 rfl rfl rfl ?_
              refine q_dup dX8_step_52 rfl ?_
              refine q_geti (x := nI ws.length) dX8_step_53 fX8_203 rfl (ty_r hb 0 rfl) y1 ?_
              refine q_dup_x1 dX8_step_56 rfl rfl ?_
              refine q_iconst (v := nI 1) dX8_step_57 rfl ?_
              refine q_iaddN dX8_step_58 ?_
              refine q_puti dX8_step_59 fX8_203 rfl (Or.inl rfl) (ty_r hb 0 rfl) ?_
              refine q_iload_n dX8_step_62 rfl rfl ?_
              refine q_iast (j := ws.length) dX8_step_63 (ty_r hb 16 rfl) (ix_n (by omega) (by omega)) ?_
              refine q_aload_n dX8_step_64 rfl rfl rfl ?_
              refine q_geti (x := nI (ws.length + 1)) dX8_step_65 fX8_203 rfl (ty_r hb 0 rfl) (Eq.trans (rd_off (by omega)) uI_self) ?_
              refine q_ireturn dX8_step_68 rfl rfl (by omega) (by omega) ?_
              exact ⟨rfl, rfl⟩
            · exact absurd c41 (by omega)
          · exact absurd (hc.symm.trans c29) (by decide)
        · exact absurd c19 (by omega)
    · rw [if_neg h60]
      refine CT.of (by decide) (Nat.le_of_ble_eq_true rfl) ?_
      refine q_aload_n dX8_step_0 rfl rfl rfl ?_
      refine q_iload_n dX8_step_1 rfl rfl ?_
      refine q_callV (As := [.int (nI i)]) (rest := []) dX8_step_2 vX8_89 (ty_c hS (by decide) rfl) ⟨by decide, rfl⟩ (z8_routineAt1 hS hi hb h0) rfl rfl (Nat.le_of_ble_eq_true rfl) (by omega) (by omega) (by omega) (k_p ?_)
      refine q_astore_n dX8_step_5 rfl rfl (by decide) (ls' := [(3, .ref b), (0, .ref 1), (1, .int (nI i)), (2, .int (nI t))]) rfl ?_
      refine q_aload_n dX8_step_6 rfl rfl rfl ?_
      refine q_ifnull (tgt := 22) dX8_step_7 (by decide) (fun c7 => ?_) (fun c7 => ?_)
      · exact absurd c7 (by omega)
      · skip
        refine q_iload_n dX8_step_10 rfl rfl ?_
        refine q_if_ltN (tgt := 22) dX8_step_11 (by decide) (by omega) ?_
        refine q_iload_n dX8_step_14 rfl rfl ?_
        refine q_aload_n dX8_step_15 rfl rfl rfl ?_
        refine q_geti (x := nI ((psF q).length)) dX8_step_16 fX8_93 rfl (ty_r hb 0 rfl) g12 ?_
        refine q_icmp_ltN (tgt := 24) dX8_step_19 (by decide) (by omega) (by omega) (fun c19 => ?_) (fun c19 => ?_)
        · skip
          refine q_aload_n dX8_step_24 rfl rfl rfl ?_
          refine q_iload_n dX8_step_25 rfl rfl ?_
          refine q_callV (As := [.int (nI t)]) (rest := []) dX8_step_26 vX8_200 (ty_r hb 0 rfl) ⟨by decide, rfl⟩ (z2_canGo hr hy (by omega)) rfl rfl (Nat.le_of_ble_eq_true rfl) (by omega) (by omega) (by omega) (k_p ?_)
          refine q_if_neB (tgt := 35) dX8_step_29 (by decide) (fun c29 => ?_) (fun c29 => ?_)
          · skip
            refine q_aload_n dX8_step_35 rfl rfl rfl ?_
            refine q_geti (x := nI ws.length) dX8_step_36 fX8_203 rfl (ty_r hb 0 rfl) y1 ?_
            refine q_bipush (v := nI 60) dX8_step_39 rfl ?_
            refine q_icmp_ltN (tgt := 47) dX8_step_41 (by decide) (by omega) (by omega) (fun c41 => ?_) (fun c41 => ?_)
            · exact absurd c41 h60
            · skip
              refine q_bipush (v := (-3 : Int32)) dX8_step_44 rfl ?_
              refine q_ireturn dX8_step_46 rfl rfl (by omega) (by omega) ?_
              exact ⟨rfl, rfl⟩
          · exact absurd (hc.symm.trans c29) (by decide)
        · exact absurd c19 (by omega)
  · rw [if_neg hc]
    refine CT.of (by decide) (Nat.le_of_ble_eq_true rfl) ?_
    refine q_aload_n dX8_step_0 rfl rfl rfl ?_
    refine q_iload_n dX8_step_1 rfl rfl ?_
    refine q_callV (As := [.int (nI i)]) (rest := []) dX8_step_2 vX8_89 (ty_c hS (by decide) rfl) ⟨by decide, rfl⟩ (z8_routineAt1 hS hi hb h0) rfl rfl (Nat.le_of_ble_eq_true rfl) (by omega) (by omega) (by omega) (k_p ?_)
    refine q_astore_n dX8_step_5 rfl rfl (by decide) (ls' := [(3, .ref b), (0, .ref 1), (1, .int (nI i)), (2, .int (nI t))]) rfl ?_
    refine q_aload_n dX8_step_6 rfl rfl rfl ?_
    refine q_ifnull (tgt := 22) dX8_step_7 (by decide) (fun c7 => ?_) (fun c7 => ?_)
    · exact absurd c7 (by omega)
    · skip
      refine q_iload_n dX8_step_10 rfl rfl ?_
      refine q_if_ltN (tgt := 22) dX8_step_11 (by decide) (by omega) ?_
      refine q_iload_n dX8_step_14 rfl rfl ?_
      refine q_aload_n dX8_step_15 rfl rfl rfl ?_
      refine q_geti (x := nI ((psF q).length)) dX8_step_16 fX8_93 rfl (ty_r hb 0 rfl) g12 ?_
      refine q_icmp_ltN (tgt := 24) dX8_step_19 (by decide) (by omega) (by omega) (fun c19 => ?_) (fun c19 => ?_)
      · skip
        refine q_aload_n dX8_step_24 rfl rfl rfl ?_
        refine q_iload_n dX8_step_25 rfl rfl ?_
        refine q_callV (As := [.int (nI t)]) (rest := []) dX8_step_26 vX8_200 (ty_r hb 0 rfl) ⟨by decide, rfl⟩ (z2_canGo hr hy (by omega)) rfl rfl (Nat.le_of_ble_eq_true rfl) (by omega) (by omega) (by omega) (k_p ?_)
        refine q_if_neB (tgt := 35) dX8_step_29 (by decide) (fun c29 => ?_) (fun c29 => ?_)
        · exact absurd c29 hc
        · skip
          refine q_bipush (v := (-2 : Int32)) dX8_step_32 rfl ?_
          refine q_ireturn dX8_step_34 rfl rfl (by omega) (by omega) ?_
          exact ⟨rfl, rfl⟩
      · exact absurd c19 (by omega)

end WAYS
