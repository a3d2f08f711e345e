/-! The class's own methods: what is asked of a placed SUM. -/
theorem alv_0 {q : PS} {e n : Nat} : alv q 0 e n = false := by
  unfold alv
  rw [gf_t.mpr ⟨fun _ => true, fun m _ _ => ?_, rfl⟩]; rfl
  show ddB q 0 e _ m = true
  unfold ddB stA tkn alQ
  cases ld q 0 m <;> cases ld q 1 m <;> simp
theorem cnt_1 {f : Nat → Bool} {n : Nat} : nI (cnt f n) + bi (f n) = nI (cnt f (n + 1)) := by
  show _ = nI (cnt f n + (if f n = true then 1 else 0))
  cases f n
  · exact nI_add _ _
  · exact nI_add _ _
theorem lt_2 {w : Int32} (h : w ≤ nI 1) : w < nI 2 := Int32.lt_iff_toInt_lt.mpr (by have := Int32.le_iff_toInt_le.mp h; rw [nI_toInt (by omega)] at this ⊢; omega)
section QUE3
variable {g : GG} {σ : HS} {b : Nat} {q : PS} {p : Int32}
theorem z0_alive (hb : RB σ b) (hk : (psM q).length ≤ 32) (hN : NN q ≤ 240) (f1 : FA σ (b + 30) q (alv q 1)) (f2 : FA σ (b + 31) q (alv q 2)) {l : Nat} (hl : l < 3) {n : Nat} (hn : n < NN q) : CT g mX0_alive 0 0 0 [.ref (b + 21), .int (nI l), .int (nI n)] σ (PQ σ (.int (mkN (fun e => alv q l e n) (psM q).length))) := by
  have hb14 : b = 14 ∨ 99 ≤ b := by rcases hb.1 with h | ⟨j, h⟩ <;> omega
  have g1 := f1 n hn
  have g2 := f2 n hn
  rcases (show l = 0 ∨ l = 1 ∨ l = 2 by omega) with rfl | rfl | rfl
  · skip
    refine CT.of (by decide) (Nat.le_of_ble_eq_true rfl) ?_
    refine q_iload_n dX0_alive_0 rfl rfl ?_
    refine q_lookNe [1, 2] (tgt := 42) dX0_alive_1 (by decide) rfl (by decide) (fun v h1 e => by have e2 := nI_inj (by omega) (by revert v; decide) e; simp at h1; omega) (by decide) ?_
    refine q_iconst (v := nI 0) dX0_alive_42 rfl ?_
    refine q_ireturn dX0_alive_43 rfl rfl (by omega) (by omega) ?_
    exact ⟨rfl, congrArg (fun z => some (Value.int z)) ((mk_0 (psM q).length).trans (mk_ext fun e _ => alv_0.symm))⟩
  · skip
    refine CT.of (by decide) (Nat.le_of_ble_eq_true rfl) ?_
    refine q_iload_n dX0_alive_0 rfl rfl ?_
    by_cases w1_1 : 1 = 1
    · refine q_lookEq 1 (tgt := 28) (off := 27) dX0_alive_1 (by rw [w1_1]) (by decide) (by decide) rfl (by decide) ?_
      refine q_aload_n dX0_alive_28 rfl rfl rfl ?_
      refine q_getr (r := b + 30) dX0_alive_29 fX0_36 rfl (ty_r hb 21 rfl) (hb.2.2 21 8 30 rfl) ?_
      refine q_iload_n dX0_alive_32 rfl rfl ?_
      refine q_iald (x := mkN (fun e => alv q 1 e n) (psM q).length) (j := n) dX0_alive_33 (ty_r hb 30 rfl) (ix_n (by omega) (by omega)) g1 ?_
      refine q_ireturn dX0_alive_34 rfl rfl (by omega) (by omega) ?_
      exact ⟨rfl, rfl⟩
    omega
  · skip
    refine CT.of (by decide) (Nat.le_of_ble_eq_true rfl) ?_
    refine q_iload_n dX0_alive_0 rfl rfl ?_
    by_cases w1_2 : 2 = 2
    · refine q_lookEq 2 (tgt := 35) (off := 34) dX0_alive_1 (by rw [w1_2]) (by decide) (by decide) rfl (by decide) ?_
      refine q_aload_n dX0_alive_35 rfl rfl rfl ?_
      refine q_getr (r := b + 31) dX0_alive_36 fX0_39 rfl (ty_r hb 21 rfl) (hb.2.2 21 9 31 rfl) ?_
      refine q_iload_n dX0_alive_39 rfl rfl ?_
      refine q_iald (x := mkN (fun e => alv q 2 e n) (psM q).length) (j := n) dX0_alive_40 (ty_r hb 31 rfl) (ix_n (by omega) (by omega)) g2 ?_
      refine q_ireturn dX0_alive_41 rfl rfl (by omega) (by omega) ?_
      exact ⟨rfl, rfl⟩
    omega
noncomputable def plF (q : PS) (l e n : Nat) (w : Int32) : Int32 := if w = nI 0 then bi (stA q l e n) else if w = nI 1 then bi (tkn q l e n) else if w = nI 2 then bi (alv q l e n) else -1
theorem z8_placed0 (hS : SK σ) (h : RA σ p none) {l e n w : Int32} : CT g mX8_placed 1 0 0 [.ref 1, .int p, .int l, .int e, .int n, .int w] σ (PQ σ (.int (-1))) := by
  refine CT.of (by decide) (Nat.le_of_ble_eq_true rfl) ?_
  refine q_aload_n dX8_placed_0 rfl rfl rfl ?_
  refine q_iload_n dX8_placed_1 rfl rfl ?_
  refine q_callV (As := [.int p]) (rest := []) dX8_placed_2 vX8_89 (ty_c hS (by decide) rfl) ⟨by decide, rfl⟩ (z8_routineAt0 hS h) rfl rfl (Nat.le_of_ble_eq_true rfl) (by omega) (by omega) (by omega) (k_p ?_)
  refine q_astore dX8_placed_5 rfl (by decide) (ls' := [(6, .ref 0), (0, .ref 1), (1, .int p), (2, .int l), (3, .int e), (4, .int n), (5, .int w)]) rfl ?_
  refine q_aload dX8_placed_7 rfl rfl ?_
  refine q_ifnull (tgt := 41) dX8_placed_9 (by decide) (fun c9 => ?_) (fun c9 => ?_)
  · skip
    refine q_iconst (v := (-1 : Int32)) dX8_placed_41 rfl ?_
    refine q_ireturn dX8_placed_42 rfl rfl (by omega) (by omega) ?_
    exact ⟨rfl, rfl⟩
  · exact absurd c9 (by omega)
theorem z8_life0 (hS : SK σ) (h : RA σ p none) {l e : Int32} : CT g mX8_life 1 0 0 [.ref 1, .int p, .int l, .int e] σ (PQ σ (.int (-1))) := by
  refine CT.of (by decide) (Nat.le_of_ble_eq_true rfl) ?_
  refine q_aload_n dX8_life_0 rfl rfl rfl ?_
  refine q_iload_n dX8_life_1 rfl rfl ?_
  refine q_callV (As := [.int p]) (rest := []) dX8_life_2 vX8_89 (ty_c hS (by decide) rfl) ⟨by decide, rfl⟩ (z8_routineAt0 hS h) rfl rfl (Nat.le_of_ble_eq_true rfl) (by omega) (by omega) (by omega) (k_p ?_)
  refine q_astore dX8_life_5 rfl (by decide) (ls' := [(4, .ref 0), (0, .ref 1), (1, .int p), (2, .int l), (3, .int e)]) rfl ?_
  refine q_aload dX8_life_7 rfl rfl ?_
  refine q_ifnull (tgt := 31) dX8_life_9 (by decide) (fun c9 => ?_) (fun c9 => ?_)
  · skip
    refine q_iconst (v := (-1 : Int32)) dX8_life_31 rfl ?_
    refine q_ireturn dX8_life_32 rfl rfl (by omega) (by omega) ?_
    exact ⟨rfl, rfl⟩
  · exact absurd c9 (by omega)
theorem z8_places0 (hS : SK σ) (h : RA σ p none) {l e w : Int32} : CT g mX8_places 1 0 0 [.ref 1, .int p, .int l, .int e, .int w] σ (PQ σ (.int (-1))) := by
  refine CT.of (by decide) (Nat.le_of_ble_eq_true rfl) ?_
  refine q_aload_n dX8_places_0 rfl rfl rfl ?_
  refine q_iload_n dX8_places_1 rfl rfl ?_
  refine q_callV (As := [.int p]) (rest := []) dX8_places_2 vX8_89 (ty_c hS (by decide) rfl) ⟨by decide, rfl⟩ (z8_routineAt0 hS h) rfl rfl (Nat.le_of_ble_eq_true rfl) (by omega) (by omega) (by omega) (k_p ?_)
  refine q_astore dX8_places_5 rfl (by decide) (ls' := [(5, .ref 0), (0, .ref 1), (1, .int p), (2, .int l), (3, .int e), (4, .int w)]) rfl ?_
  refine q_aload dX8_places_7 rfl rfl ?_
  refine q_ifnull (tgt := 42) dX8_places_9 (by decide) (fun c9 => ?_) (fun c9 => ?_)
  · skip
    refine q_iconst (v := (-1 : Int32)) dX8_places_42 rfl ?_
    refine q_ireturn dX8_places_43 rfl rfl (by omega) (by omega) ?_
    exact ⟨rfl, rfl⟩
  · exact absurd c9 (by omega)
theorem z8_placed1 (hS : SK σ) (h : RA σ p (some (b, q))) {l e n w : Int32} : CT g mX8_placed 1 0 0 [.ref 1, .int p, .int l, .int e, .int n, .int w] σ (PQ σ (.int (if (¬ l < 0 ∧ l < nI 3) ∧ (¬ e < 0 ∧ e < nI (psM q).length) ∧ ¬ n < 0 ∧ n < nI (NN q) then plF q l.toNatClampNeg e.toNatClampNeg n.toNatClampNeg w else -1))) := by
  obtain ⟨i, hi, rfl, h0, hr⟩ := h
  simp only at h0 hr
  have hb := hr.1
  have hb14 : b = 14 ∨ 99 ≤ b := by rcases hb.1 with h | ⟨j, h⟩ <;> omega
  obtain ⟨-, hbc, hw, hnb, hxx, hF, g12, g13, g14, g16, hsr, g15, hrow, hfx⟩ := id hr
  have hNN := NN_le hbc
  have hNS : (psS q).length ≤ NN q := by unfold NN; omega
  have hk := hsr.2.1
  obtain ⟨f1, f2, f3, f4, f5, f6, f7, f8, f9, f10⟩ := id hfx
  by_cases hl : ¬ l < 0 ∧ l < nI 3
  · by_cases he : ¬ e < 0 ∧ e < nI (psM q).length
    · obtain ⟨m, hm, rfl⟩ := n_in (by omega) he
      by_cases hn : ¬ n < 0 ∧ n < nI (NN q)
      · obtain ⟨k, hk2, rfl⟩ := n_in (by omega) hn
        rw [if_pos ⟨hl, he, hn⟩]
        obtain ⟨v, hv, rfl⟩ := n_in (by omega) hl
        rw [nI_clamp (by omega), nI_clamp (by omega), nI_clamp (by omega)]
        refine CT.of (by decide) (Nat.le_of_ble_eq_true rfl) ?_
        refine q_aload_n dX8_placed_0 rfl rfl rfl ?_
        refine q_iload_n dX8_placed_1 rfl rfl ?_
        refine q_callV (As := [.int (nI i)]) (rest := []) dX8_placed_2 vX8_89 (ty_c hS (by decide) rfl) ⟨by decide, rfl⟩ (z8_routineAt1 hS hi hb h0) rfl rfl (Nat.le_of_ble_eq_true rfl) (by omega) (by omega) (by omega) (k_p ?_)
        refine q_astore dX8_placed_5 rfl (by decide) (ls' := [(6, .ref b), (0, .ref 1), (1, .int (nI i)), (2, .int (nI v)), (3, .int (nI m)), (4, .int (nI k)), (5, .int w)]) rfl ?_
        refine q_aload dX8_placed_7 rfl rfl ?_
        refine q_ifnull (tgt := 41) dX8_placed_9 (by decide) (fun c9 => ?_) (fun c9 => ?_)
        · exact absurd c9 (by omega)
        · skip
          refine q_iload_n dX8_placed_12 rfl rfl ?_
          refine q_callS (As := [.int (nI v)]) (rest := []) dX8_placed_13 vX8_154 (z8_isPlacing) rfl rfl (Nat.le_of_ble_eq_true rfl) (by omega) (by omega) (by omega) (k_p ?_)
          refine q_if_eqB (tgt := 41) dX8_placed_16 (by decide) (fun c16 => ?_) (fun c16 => ?_)
          · exact absurd hl (of_decide_eq_false c16)
          · skip
            refine q_aload dX8_placed_19 rfl rfl ?_
            refine q_getr (r := b + 17) dX8_placed_21 fX8_72 rfl (ty_r hb 0 rfl) (hb.2.2 0 10 17 rfl) ?_
            refine q_iload_n dX8_placed_24 rfl rfl ?_
            refine q_callV (As := [.int (nI m)]) (rest := []) dX8_placed_25 vX8_123 (ty_r hb 17 rfl) ⟨by decide, rfl⟩ (z4_has hb hsr hm) rfl rfl (Nat.le_of_ble_eq_true rfl) (by omega) (by omega) (by omega) (k_p ?_)
            refine q_if_eqB (tgt := 41) dX8_placed_28 (by decide) (fun h => absurd h (by decide)) (fun _ => ?_)
            refine q_aload dX8_placed_31 rfl rfl ?_
            refine q_iload dX8_placed_33 rfl ?_
            refine q_callV (As := [.int (nI k)]) (rest := []) dX8_placed_35 vX8_102 (ty_r hb 0 rfl) ⟨by decide, rfl⟩ (z2_hasNode1 hb g14 hk2 hNN) rfl rfl (Nat.le_of_ble_eq_true rfl) (by omega) (by omega) (by omega) (k_p ?_)
            refine q_if_neB (tgt := 43) dX8_placed_38 (by decide) (fun _ => ?_) (fun h => absurd h (by decide))
            refine q_iload dX8_placed_43 rfl ?_
            by_cases w45_0 : w = nI 0
            · refine q_tableEq 0 (tgt := 72) (off := 27) dX8_placed_45 w45_0 (by decide) rfl (by decide) ?_
              refine q_aload dX8_placed_72 rfl rfl ?_
              refine q_getr (r := b + 21) dX8_placed_74 fX8_144 rfl (ty_r hb 0 rfl) (hb.2.2 0 11 21 rfl) ?_
              refine q_iload_n dX8_placed_77 rfl rfl ?_
              refine q_iload dX8_placed_78 rfl ?_
              refine q_callV (As := [.int (nI v), .int (nI k)]) (rest := []) dX8_placed_80 vX8_157 (ty_r hb 21 rfl) ⟨by decide, rfl⟩ (z0_setAheadA hr.fp hv hk2) rfl rfl (Nat.le_of_ble_eq_true rfl) (by omega) (by omega) (by omega) (k_p ?_)
              refine q_iload_n dX8_placed_83 rfl rfl ?_
              refine q_iushr (v := ((mkN (fun e => stA q v e k) (psM q).length).toUInt32 >>> ((nI m).toUInt32 &&& Int32.toUInt32 31)).toInt32) dX8_placed_84 rfl ?_
              refine q_iconst (v := nI 1) dX8_placed_85 rfl ?_
              refine q_iand dX8_placed_86 ?_
              refine q_top (y := bi (stA q v m k)) (mk_bit hk hm) ?_
              refine q_ireturn dX8_placed_87 rfl rfl (by omega) (by omega) ?_
              unfold plF
              first | (rw [if_pos w45_0]; exact ⟨rfl, rfl⟩) | (rw [if_neg w45_0, if_pos w45_1]; exact ⟨rfl, rfl⟩) | (rw [if_neg w45_0, if_neg w45_1, if_pos w45_2]; exact ⟨rfl, rfl⟩) | (rw [if_neg w45_0, if_neg w45_1, if_neg w45_2]; exact ⟨rfl, rfl⟩)
            by_cases w45_1 : w = nI 1
            · refine q_tableEq 1 (tgt := 88) (off := 43) dX8_placed_45 w45_1 (by decide) rfl (by decide) ?_
              refine q_aload dX8_placed_88 rfl rfl ?_
              refine q_getr (r := b + 21) dX8_placed_90 fX8_144 rfl (ty_r hb 0 rfl) (hb.2.2 0 11 21 rfl) ?_
              refine q_iload_n dX8_placed_93 rfl rfl ?_
              refine q_iload dX8_placed_94 rfl ?_
              refine q_callV (As := [.int (nI v), .int (nI k)]) (rest := []) dX8_placed_96 vX8_160 (ty_r hb 21 rfl) ⟨by decide, rfl⟩ (z0_takenA hr.fp hv hk2) rfl rfl (Nat.le_of_ble_eq_true rfl) (by omega) (by omega) (by omega) (k_p ?_)
              refine q_iload_n dX8_placed_99 rfl rfl ?_
              refine q_iushr (v := ((mkN (fun e => tkn q v e k) (psM q).length).toUInt32 >>> ((nI m).toUInt32 &&& Int32.toUInt32 31)).toInt32) dX8_placed_100 rfl ?_
              refine q_iconst (v := nI 1) dX8_placed_101 rfl ?_
              refine q_iand dX8_placed_102 ?_
              refine q_top (y := bi (tkn q v m k)) (mk_bit hk hm) ?_
              refine q_ireturn dX8_placed_103 rfl rfl (by omega) (by omega) ?_
              unfold plF
              first | (rw [if_pos w45_0]; exact ⟨rfl, rfl⟩) | (rw [if_neg w45_0, if_pos w45_1]; exact ⟨rfl, rfl⟩) | (rw [if_neg w45_0, if_neg w45_1, if_pos w45_2]; exact ⟨rfl, rfl⟩) | (rw [if_neg w45_0, if_neg w45_1, if_neg w45_2]; exact ⟨rfl, rfl⟩)
            by_cases w45_2 : w = nI 2
            · refine q_tableEq 2 (tgt := 104) (off := 59) dX8_placed_45 w45_2 (by decide) rfl (by decide) ?_
              refine q_aload dX8_placed_104 rfl rfl ?_
              refine q_getr (r := b + 21) dX8_placed_106 fX8_144 rfl (ty_r hb 0 rfl) (hb.2.2 0 11 21 rfl) ?_
              refine q_iload_n dX8_placed_109 rfl rfl ?_
              refine q_iload dX8_placed_110 rfl ?_
              refine q_callV (As := [.int (nI v), .int (nI k)]) (rest := []) dX8_placed_112 vX8_163 (ty_r hb 21 rfl) ⟨by decide, rfl⟩ (z0_alive hb hk hNN f9 f10 hv hk2) rfl rfl (Nat.le_of_ble_eq_true rfl) (by omega) (by omega) (by omega) (k_p ?_)
              refine q_iload_n dX8_placed_115 rfl rfl ?_
              refine q_iushr (v := ((mkN (fun e => alv q v e k) (psM q).length).toUInt32 >>> ((nI m).toUInt32 &&& Int32.toUInt32 31)).toInt32) dX8_placed_116 rfl ?_
              refine q_iconst (v := nI 1) dX8_placed_117 rfl ?_
              refine q_iand dX8_placed_118 ?_
              refine q_top (y := bi (alv q v m k)) (mk_bit hk hm) ?_
              refine q_ireturn dX8_placed_119 rfl rfl (by omega) (by omega) ?_
              unfold plF
              first | (rw [if_pos w45_0]; exact ⟨rfl, rfl⟩) | (rw [if_neg w45_0, if_pos w45_1]; exact ⟨rfl, rfl⟩) | (rw [if_neg w45_0, if_neg w45_1, if_pos w45_2]; exact ⟨rfl, rfl⟩) | (rw [if_neg w45_0, if_neg w45_1, if_neg w45_2]; exact ⟨rfl, rfl⟩)
            refine q_tableNe 0 2 (tgt := 120) dX8_placed_45 (by decide) (fun v h1 h2 => by rcases (show v = 0 ∨ v = 1 ∨ v = 2 by omega) with rfl | rfl | rfl <;> assumption) (by decide) ?_
            refine q_iconst (v := (-1 : Int32)) dX8_placed_120 rfl ?_
            refine q_ireturn dX8_placed_121 rfl rfl (by omega) (by omega) ?_
            unfold plF
            first | (rw [if_pos w45_0]; exact ⟨rfl, rfl⟩) | (rw [if_neg w45_0, if_pos w45_1]; exact ⟨rfl, rfl⟩) | (rw [if_neg w45_0, if_neg w45_1, if_pos w45_2]; exact ⟨rfl, rfl⟩) | (rw [if_neg w45_0, if_neg w45_1, if_neg w45_2]; exact ⟨rfl, rfl⟩)
      · rw [if_neg fun z => hn z.2.2]
        refine CT.of (by decide) (Nat.le_of_ble_eq_true rfl) ?_
        refine q_aload_n dX8_placed_0 rfl rfl rfl ?_
        refine q_iload_n dX8_placed_1 rfl rfl ?_
        refine q_callV (As := [.int (nI i)]) (rest := []) dX8_placed_2 vX8_89 (ty_c hS (by decide) rfl) ⟨by decide, rfl⟩ (z8_routineAt1 hS hi hb h0) rfl rfl (Nat.le_of_ble_eq_true rfl) (by omega) (by omega) (by omega) (k_p ?_)
        refine q_astore dX8_placed_5 rfl (by decide) (ls' := [(6, .ref b), (0, .ref 1), (1, .int (nI i)), (2, .int l), (3, .int (nI m)), (4, .int n), (5, .int w)]) rfl ?_
        refine q_aload dX8_placed_7 rfl rfl ?_
        refine q_ifnull (tgt := 41) dX8_placed_9 (by decide) (fun c9 => ?_) (fun c9 => ?_)
        · exact absurd c9 (by omega)
        · skip
          refine q_iload_n dX8_placed_12 rfl rfl ?_
          refine q_callS (As := [.int l]) (rest := []) dX8_placed_13 vX8_154 (z8_isPlacing) rfl rfl (Nat.le_of_ble_eq_true rfl) (by omega) (by omega) (by omega) (k_p ?_)
          refine q_if_eqB (tgt := 41) dX8_placed_16 (by decide) (fun c16 => ?_) (fun c16 => ?_)
          · exact absurd hl (of_decide_eq_false c16)
          · skip
            refine q_aload dX8_placed_19 rfl rfl ?_
            refine q_getr (r := b + 17) dX8_placed_21 fX8_72 rfl (ty_r hb 0 rfl) (hb.2.2 0 10 17 rfl) ?_
            refine q_iload_n dX8_placed_24 rfl rfl ?_
            refine q_callV (As := [.int (nI m)]) (rest := []) dX8_placed_25 vX8_123 (ty_r hb 17 rfl) ⟨by decide, rfl⟩ (z4_has hb hsr hm) rfl rfl (Nat.le_of_ble_eq_true rfl) (by omega) (by omega) (by omega) (k_p ?_)
            refine q_if_eqB (tgt := 41) dX8_placed_28 (by decide) (fun h => absurd h (by decide)) (fun _ => ?_)
            refine q_aload dX8_placed_31 rfl rfl ?_
            refine q_iload dX8_placed_33 rfl ?_
            refine q_callV (As := [.int n]) (rest := []) dX8_placed_35 vX8_102 (ty_r hb 0 rfl) ⟨by decide, rfl⟩ (z2_hasNode0 hb g14 hn) rfl rfl (Nat.le_of_ble_eq_true rfl) (by omega) (by omega) (by omega) (k_p ?_)
            refine q_if_neB (tgt := 43) dX8_placed_38 (by decide) (fun h => absurd h (by decide)) (fun _ => ?_)
            refine q_iconst (v := (-1 : Int32)) dX8_placed_41 rfl ?_
            refine q_ireturn dX8_placed_42 rfl rfl (by omega) (by omega) ?_
            exact ⟨rfl, rfl⟩
    · rw [if_neg fun z => he z.2.1]
      refine CT.of (by decide) (Nat.le_of_ble_eq_true rfl) ?_
      refine q_aload_n dX8_placed_0 rfl rfl rfl ?_
      refine q_iload_n dX8_placed_1 rfl rfl ?_
      refine q_callV (As := [.int (nI i)]) (rest := []) dX8_placed_2 vX8_89 (ty_c hS (by decide) rfl) ⟨by decide, rfl⟩ (z8_routineAt1 hS hi hb h0) rfl rfl (Nat.le_of_ble_eq_true rfl) (by omega) (by omega) (by omega) (k_p ?_)
      refine q_astore dX8_placed_5 rfl (by decide) (ls' := [(6, .ref b), (0, .ref 1), (1, .int (nI i)), (2, .int l), (3, .int e), (4, .int n), (5, .int w)]) rfl ?_
      refine q_aload dX8_placed_7 rfl rfl ?_
      refine q_ifnull (tgt := 41) dX8_placed_9 (by decide) (fun c9 => ?_) (fun c9 => ?_)
      · exact absurd c9 (by omega)
      · skip
        refine q_iload_n dX8_placed_12 rfl rfl ?_
        refine q_callS (As := [.int l]) (rest := []) dX8_placed_13 vX8_154 (z8_isPlacing) rfl rfl (Nat.le_of_ble_eq_true rfl) (by omega) (by omega) (by omega) (k_p ?_)
        refine q_if_eqB (tgt := 41) dX8_placed_16 (by decide) (fun c16 => ?_) (fun c16 => ?_)
        · exact absurd hl (of_decide_eq_false c16)
        · skip
          refine q_aload dX8_placed_19 rfl rfl ?_
          refine q_getr (r := b + 17) dX8_placed_21 fX8_72 rfl (ty_r hb 0 rfl) (hb.2.2 0 10 17 rfl) ?_
          refine q_iload_n dX8_placed_24 rfl rfl ?_
          refine q_callV (As := [.int e]) (rest := []) dX8_placed_25 vX8_123 (ty_r hb 17 rfl) ⟨by decide, rfl⟩ (z4_has0 hb hsr he) rfl rfl (Nat.le_of_ble_eq_true rfl) (by omega) (by omega) (by omega) (k_p ?_)
          refine q_if_eqB (tgt := 41) dX8_placed_28 (by decide) (fun _ => ?_) (fun h => absurd h (by decide))
          refine q_iconst (v := (-1 : Int32)) dX8_placed_41 rfl ?_
          refine q_ireturn dX8_placed_42 rfl rfl (by omega) (by omega) ?_
          exact ⟨rfl, rfl⟩
  · rw [if_neg fun z => hl z.1]
    refine CT.of (by decide) (Nat.le_of_ble_eq_true rfl) ?_
    refine q_aload_n dX8_placed_0 rfl rfl rfl ?_
    refine q_iload_n dX8_placed_1 rfl rfl ?_
    refine q_callV (As := [.int (nI i)]) (rest := []) dX8_placed_2 vX8_89 (ty_c hS (by decide) rfl) ⟨by decide, rfl⟩ (z8_routineAt1 hS hi hb h0) rfl rfl (Nat.le_of_ble_eq_true rfl) (by omega) (by omega) (by omega) (k_p ?_)
    refine q_astore dX8_placed_5 rfl (by decide) (ls' := [(6, .ref b), (0, .ref 1), (1, .int (nI i)), (2, .int l), (3, .int e), (4, .int n), (5, .int w)]) rfl ?_
    refine q_aload dX8_placed_7 rfl rfl ?_
    refine q_ifnull (tgt := 41) dX8_placed_9 (by decide) (fun c9 => ?_) (fun c9 => ?_)
    · exact absurd c9 (by omega)
    · skip
      refine q_iload_n dX8_placed_12 rfl rfl ?_
      refine q_callS (As := [.int l]) (rest := []) dX8_placed_13 vX8_154 (z8_isPlacing) rfl rfl (Nat.le_of_ble_eq_true rfl) (by omega) (by omega) (by omega) (k_p ?_)
      refine q_if_eqB (tgt := 41) dX8_placed_16 (by decide) (fun c16 => ?_) (fun c16 => ?_)
      · skip
        refine q_iconst (v := (-1 : Int32)) dX8_placed_41 rfl ?_
        refine q_ireturn dX8_placed_42 rfl rfl (by omega) (by omega) ?_
        exact ⟨rfl, rfl⟩
      · exact absurd (of_decide_eq_true c16) hl
theorem y8_life (hr : RTN σ b q) {v m : Nat} (hv : v < 3) (hm : m < (psM q).length) : ∀ (k n : Nat), n + k = NN q → WA g mX8_life 1 0 0 (ZM g (PQ σ (.int (nI (cnt (alv q v m) (NN q))))) 0 0) 0 0 39 [(2, .int (nI v)), (3, .int (nI m)), (4, .ref b), (5, .int (nI (cnt (alv q v m) n))), (6, .int (nI n))] [] σ := by
  have hb := hr.1
  have hb14 : b = 14 ∨ 99 ≤ b := by rcases hb.1 with h | ⟨j, h⟩ <;> omega
  obtain ⟨-, hbc, hw, hnb, hxx, hF, g12, g13, g14, g16, hsr, g15, hrow, hfx⟩ := id hr
  have hNN := NN_le hbc
  have hk := hsr.2.1
  obtain ⟨f1, f2, f3, f4, f5, f6, f7, f8, f9, f10⟩ := id hfx
  intro k
  induction k with
  | zero =>
    intro n hn
    refine q_iload dX8_life_39 rfl ?_
    refine q_aload dX8_life_41 rfl rfl ?_
    refine q_geti (x := nI (NN q)) dX8_life_43 fX8_86 rfl (ty_r hb 0 rfl) g14 ?_
    refine q_icmp_geN (tgt := 75) dX8_life_46 (by decide) (by omega) (by omega) (fun c46 => ?_) (fun c46 => ?_)
    · skip
      refine q_iload dX8_life_75 rfl ?_
      refine q_ireturn dX8_life_77 rfl rfl (by omega) (by omega) ?_
      rw [← hn]
      exact ⟨rfl, rfl⟩
    · exact absurd c46 (by omega)
  | succ k ih =>
    intro n hn
    have hcn := cnt_le (alv q v m) n
    refine q_iload dX8_life_39 rfl ?_
    refine q_aload dX8_life_41 rfl rfl ?_
    refine q_geti (x := nI (NN q)) dX8_life_43 fX8_86 rfl (ty_r hb 0 rfl) g14 ?_
    refine q_icmp_geN (tgt := 75) dX8_life_46 (by decide) (by omega) (by omega) (fun c46 => ?_) (fun c46 => ?_)
    · exact absurd c46 (by omega)
    · skip
      refine q_iload dX8_life_49 rfl ?_
      refine q_aload dX8_life_51 rfl rfl ?_
      refine q_getr (r := b + 21) dX8_life_53 fX8_144 rfl (ty_r hb 0 rfl) (hb.2.2 0 11 21 rfl) ?_
      refine q_iload_n dX8_life_56 rfl rfl ?_
      refine q_iload dX8_life_57 rfl ?_
      refine q_callV (As := [.int (nI v), .int (nI n)]) (rest := [.int (nI (cnt (alv q v m) n))]) dX8_life_59 vX8_163 (ty_r hb 21 rfl) ⟨by decide, rfl⟩ (z0_alive hb hk hNN f9 f10 hv (by omega)) rfl rfl (Nat.le_of_ble_eq_true rfl) (by omega) (by omega) (by omega) (k_p ?_)
      refine q_iload_n dX8_life_62 rfl rfl ?_
      refine q_iushr (v := ((mkN (fun e => alv q v e n) (psM q).length).toUInt32 >>> ((nI m).toUInt32 &&& Int32.toUInt32 31)).toInt32) dX8_life_63 rfl ?_
      refine q_iconst (v := nI 1) dX8_life_64 rfl ?_
      refine q_iand dX8_life_65 ?_
      refine q_top (y := bi (alv q v m n)) (mk_bit hk hm) ?_
      refine q_iadd dX8_life_66 ?_
      refine q_top (y := nI (cnt (alv q v m) (n + 1))) cnt_1 ?_
      refine q_istore dX8_life_67 (by decide) (ls' := [(5, .int (nI (cnt (alv q v m) (n + 1)))), (2, .int (nI v)), (3, .int (nI m)), (4, .ref b), (6, .int (nI n))]) rfl ?_
      refine q_iincN (c := 1) dX8_life_69 rfl (by decide) rfl (ls' := [(6, .int (nI (n + 1))), (5, .int (nI (cnt (alv q v m) (n + 1)))), (2, .int (nI v)), (3, .int (nI m)), (4, .ref b)]) rfl ?_
      refine q_goto (tgt := 39) dX8_life_72 (by decide) ?_
      refine q_pk [2, 3, 4, 1, 0] (ls' := [(2, .int (nI v)), (3, .int (nI m)), (4, .ref b), (5, .int (nI (cnt (alv q v m) (n + 1)))), (6, .int (nI (n + 1)))]) rfl ?_
      exact ih (n + 1) (by omega)
theorem y8_places0 (hr : RTN σ b q) {v m : Nat} (hv : v < 3) (hm : m < (psM q).length) : ∀ (k n : Nat), n + k = NN q → WA g mX8_places 1 0 0 (ZM g (PQ σ (.int (nI (cnt (stA q v m) (NN q))))) 0 0) 0 0 50 [(2, .int (nI v)), (3, .int (nI m)), (4, .int (nI 0)), (5, .ref b), (6, .int (nI (cnt (stA q v m) n))), (7, .int (nI n))] [] σ := by
  have hb := hr.1
  have hb14 : b = 14 ∨ 99 ≤ b := by rcases hb.1 with h | ⟨j, h⟩ <;> omega
  obtain ⟨-, hbc, hw, hnb, hxx, hF, g12, g13, g14, g16, hsr, g15, hrow, hfx⟩ := id hr
  have hNN := NN_le hbc
  have hk := hsr.2.1
  obtain ⟨f1, f2, f3, f4, f5, f6, f7, f8, f9, f10⟩ := id hfx
  intro k
  induction k with
  | zero =>
    intro n hn
    refine q_iload dX8_places_50 rfl ?_
    refine q_aload dX8_places_52 rfl rfl ?_
    refine q_geti (x := nI (NN q)) dX8_places_54 fX8_86 rfl (ty_r hb 0 rfl) g14 ?_
    refine q_icmp_geN (tgt := 109) dX8_places_57 (by decide) (by omega) (by omega) (fun c57 => ?_) (fun c57 => ?_)
    · skip
      refine q_iload dX8_places_109 rfl ?_
      refine q_ireturn dX8_places_111 rfl rfl (by omega) (by omega) ?_
      rw [← hn]
      exact ⟨rfl, rfl⟩
    · exact absurd c57 (by omega)
  | succ k ih =>
    intro n hn
    have hcn := cnt_le (stA q v m) n
    refine q_iload dX8_places_50 rfl ?_
    refine q_aload dX8_places_52 rfl rfl ?_
    refine q_geti (x := nI (NN q)) dX8_places_54 fX8_86 rfl (ty_r hb 0 rfl) g14 ?_
    refine q_icmp_geN (tgt := 109) dX8_places_57 (by decide) (by omega) (by omega) (fun c57 => ?_) (fun c57 => ?_)
    · exact absurd c57 (by omega)
    · skip
      refine q_iload dX8_places_60 rfl ?_
      refine q_if_neN (tgt := 79) dX8_places_62 (by decide) (by omega) (fun h => absurd h (by decide)) (fun _ => ?_)
      refine q_aload dX8_places_65 rfl rfl ?_
      refine q_getr (r := b + 21) dX8_places_67 fX8_144 rfl (ty_r hb 0 rfl) (hb.2.2 0 11 21 rfl) ?_
      refine q_iload_n dX8_places_70 rfl rfl ?_
      refine q_iload dX8_places_71 rfl ?_
      refine q_callV (As := [.int (nI v), .int (nI n)]) (rest := []) dX8_places_73 vX8_157 (ty_r hb 21 rfl) ⟨by decide, rfl⟩ (z0_setAheadA hr.fp hv (by omega)) rfl rfl (Nat.le_of_ble_eq_true rfl) (by omega) (by omega) (by omega) (k_p ?_)
      refine q_goto (tgt := 90) dX8_places_76 (by decide) ?_
      refine q_istore dX8_places_90 (by decide) (ls' := [(8, .int (mkN (fun e => stA q v e n) (psM q).length)), (2, .int (nI v)), (3, .int (nI m)), (4, .int (nI 0)), (5, .ref b), (6, .int (nI (cnt (stA q v m) n))), (7, .int (nI n))]) rfl ?_
      refine q_iload dX8_places_92 rfl ?_
      refine q_iload dX8_places_94 rfl ?_
      refine q_iload_n dX8_places_96 rfl rfl ?_
      refine q_iushr (v := ((mkN (fun e => stA q v e n) (psM q).length).toUInt32 >>> ((nI m).toUInt32 &&& Int32.toUInt32 31)).toInt32) dX8_places_97 rfl ?_
      refine q_iconst (v := nI 1) dX8_places_98 rfl ?_
      refine q_iand dX8_places_99 ?_
      refine q_top (y := bi (stA q v m n)) (mk_bit hk hm) ?_
      refine q_iadd dX8_places_100 ?_
      refine q_top (y := nI (cnt (stA q v m) (n + 1))) cnt_1 ?_
      refine q_istore dX8_places_101 (by decide) (ls' := [(6, .int (nI (cnt (stA q v m) (n + 1)))), (8, .int (mkN (fun e => stA q v e n) (psM q).length)), (2, .int (nI v)), (3, .int (nI m)), (4, .int (nI 0)), (5, .ref b), (7, .int (nI n))]) rfl ?_
      refine q_iincN (c := 1) dX8_places_103 rfl (by decide) rfl (ls' := [(7, .int (nI (n + 1))), (6, .int (nI (cnt (stA q v m) (n + 1)))), (8, .int (mkN (fun e => stA q v e n) (psM q).length)), (2, .int (nI v)), (3, .int (nI m)), (4, .int (nI 0)), (5, .ref b)]) rfl ?_
      refine q_goto (tgt := 50) dX8_places_106 (by decide) ?_
      refine q_pk [3, 4, 5, 6, 1, 0] (ls' := [(2, .int (nI v)), (3, .int (nI m)), (4, .int (nI 0)), (5, .ref b), (6, .int (nI (cnt (stA q v m) (n + 1)))), (7, .int (nI (n + 1)))]) rfl ?_
      exact ih (n + 1) (by omega)
theorem y8_places1 (hr : RTN σ b q) {v m : Nat} (hv : v < 3) (hm : m < (psM q).length) : ∀ (k n : Nat), n + k = NN q → WA g mX8_places 1 0 0 (ZM g (PQ σ (.int (nI (cnt (tkn q v m) (NN q))))) 0 0) 0 0 50 [(2, .int (nI v)), (3, .int (nI m)), (4, .int (nI 1)), (5, .ref b), (6, .int (nI (cnt (tkn q v m) n))), (7, .int (nI n))] [] σ := by
  have hb := hr.1
  have hb14 : b = 14 ∨ 99 ≤ b := by rcases hb.1 with h | ⟨j, h⟩ <;> omega
  obtain ⟨-, hbc, hw, hnb, hxx, hF, g12, g13, g14, g16, hsr, g15, hrow, hfx⟩ := id hr
  have hNN := NN_le hbc
  have hk := hsr.2.1
  obtain ⟨f1, f2, f3, f4, f5, f6, f7, f8, f9, f10⟩ := id hfx
  intro k
  induction k with
  | zero =>
    intro n hn
    refine q_iload dX8_places_50 rfl ?_
    refine q_aload dX8_places_52 rfl rfl ?_
    refine q_geti (x := nI (NN q)) dX8_places_54 fX8_86 rfl (ty_r hb 0 rfl) g14 ?_
    refine q_icmp_geN (tgt := 109) dX8_places_57 (by decide) (by omega) (by omega) (fun c57 => ?_) (fun c57 => ?_)
    · skip
      refine q_iload dX8_places_109 rfl ?_
      refine q_ireturn dX8_places_111 rfl rfl (by omega) (by omega) ?_
      rw [← hn]
      exact ⟨rfl, rfl⟩
    · exact absurd c57 (by omega)
  | succ k ih =>
    intro n hn
    have hcn := cnt_le (tkn q v m) n
    refine q_iload dX8_places_50 rfl ?_
    refine q_aload dX8_places_52 rfl rfl ?_
    refine q_geti (x := nI (NN q)) dX8_places_54 fX8_86 rfl (ty_r hb 0 rfl) g14 ?_
    refine q_icmp_geN (tgt := 109) dX8_places_57 (by decide) (by omega) (by omega) (fun c57 => ?_) (fun c57 => ?_)
    · exact absurd c57 (by omega)
    · skip
      refine q_iload dX8_places_60 rfl ?_
      refine q_if_neN (tgt := 79) dX8_places_62 (by decide) (by omega) (fun _ => ?_) (fun h => absurd h (by decide))
      refine q_aload dX8_places_79 rfl rfl ?_
      refine q_getr (r := b + 21) dX8_places_81 fX8_144 rfl (ty_r hb 0 rfl) (hb.2.2 0 11 21 rfl) ?_
      refine q_iload_n dX8_places_84 rfl rfl ?_
      refine q_iload dX8_places_85 rfl ?_
      refine q_callV (As := [.int (nI v), .int (nI n)]) (rest := []) dX8_places_87 vX8_160 (ty_r hb 21 rfl) ⟨by decide, rfl⟩ (z0_takenA hr.fp hv (by omega)) rfl rfl (Nat.le_of_ble_eq_true rfl) (by omega) (by omega) (by omega) (k_p ?_)
      refine q_istore dX8_places_90 (by decide) (ls' := [(8, .int (mkN (fun e => tkn q v e n) (psM q).length)), (2, .int (nI v)), (3, .int (nI m)), (4, .int (nI 1)), (5, .ref b), (6, .int (nI (cnt (tkn q v m) n))), (7, .int (nI n))]) rfl ?_
      refine q_iload dX8_places_92 rfl ?_
      refine q_iload dX8_places_94 rfl ?_
      refine q_iload_n dX8_places_96 rfl rfl ?_
      refine q_iushr (v := ((mkN (fun e => tkn q v e n) (psM q).length).toUInt32 >>> ((nI m).toUInt32 &&& Int32.toUInt32 31)).toInt32) dX8_places_97 rfl ?_
      refine q_iconst (v := nI 1) dX8_places_98 rfl ?_
      refine q_iand dX8_places_99 ?_
      refine q_top (y := bi (tkn q v m n)) (mk_bit hk hm) ?_
      refine q_iadd dX8_places_100 ?_
      refine q_top (y := nI (cnt (tkn q v m) (n + 1))) cnt_1 ?_
      refine q_istore dX8_places_101 (by decide) (ls' := [(6, .int (nI (cnt (tkn q v m) (n + 1)))), (8, .int (mkN (fun e => tkn q v e n) (psM q).length)), (2, .int (nI v)), (3, .int (nI m)), (4, .int (nI 1)), (5, .ref b), (7, .int (nI n))]) rfl ?_
      refine q_iincN (c := 1) dX8_places_103 rfl (by decide) rfl (ls' := [(7, .int (nI (n + 1))), (6, .int (nI (cnt (tkn q v m) (n + 1)))), (8, .int (mkN (fun e => tkn q v e n) (psM q).length)), (2, .int (nI v)), (3, .int (nI m)), (4, .int (nI 1)), (5, .ref b)]) rfl ?_
      refine q_goto (tgt := 50) dX8_places_106 (by decide) ?_
      refine q_pk [3, 4, 5, 6, 1, 0] (ls' := [(2, .int (nI v)), (3, .int (nI m)), (4, .int (nI 1)), (5, .ref b), (6, .int (nI (cnt (tkn q v m) (n + 1)))), (7, .int (nI (n + 1)))]) rfl ?_
      exact ih (n + 1) (by omega)
theorem z8_life1 (hS : SK σ) (h : RA σ p (some (b, q))) {l e : Int32} : CT g mX8_life 1 0 0 [.ref 1, .int p, .int l, .int e] σ (PQ σ (.int (if (¬ l < 0 ∧ l < nI 3) ∧ ¬ e < 0 ∧ e < nI (psM q).length then nI (cnt (alv q l.toNatClampNeg e.toNatClampNeg) (NN q)) else -1))) := by
  obtain ⟨i, hi, rfl, h0, hr⟩ := h
  simp only at h0 hr
  have hb := hr.1
  have hb14 : b = 14 ∨ 99 ≤ b := by rcases hb.1 with h | ⟨j, h⟩ <;> omega
  obtain ⟨-, hbc, hw, hnb, hxx, hF, g12, g13, g14, g16, hsr, g15, hrow, hfx⟩ := id hr
  have hNN := NN_le hbc
  have hNS : (psS q).length ≤ NN q := by unfold NN; omega
  have hk := hsr.2.1
  obtain ⟨f1, f2, f3, f4, f5, f6, f7, f8, f9, f10⟩ := id hfx
  by_cases hl : ¬ l < 0 ∧ l < nI 3
  · by_cases he : ¬ e < 0 ∧ e < nI (psM q).length
    · obtain ⟨m, hm, rfl⟩ := n_in (by omega) he
      rw [if_pos ⟨hl, he⟩]
      obtain ⟨v, hv, rfl⟩ := n_in (by omega) hl
      rw [nI_clamp (by omega), nI_clamp (by omega)]
      refine CT.of (by decide) (Nat.le_of_ble_eq_true rfl) ?_
      refine q_aload_n dX8_life_0 rfl rfl rfl ?_
      refine q_iload_n dX8_life_1 rfl rfl ?_
      refine q_callV (As := [.int (nI i)]) (rest := []) dX8_life_2 vX8_89 (ty_c hS (by decide) rfl) ⟨by decide, rfl⟩ (z8_routineAt1 hS hi hb h0) rfl rfl (Nat.le_of_ble_eq_true rfl) (by omega) (by omega) (by omega) (k_p ?_)
      refine q_astore dX8_life_5 rfl (by decide) (ls' := [(4, .ref b), (0, .ref 1), (1, .int (nI i)), (2, .int (nI v)), (3, .int (nI m))]) rfl ?_
      refine q_aload dX8_life_7 rfl rfl ?_
      refine q_ifnull (tgt := 31) dX8_life_9 (by decide) (fun c9 => ?_) (fun c9 => ?_)
      · exact absurd c9 (by omega)
      · skip
        refine q_iload_n dX8_life_12 rfl rfl ?_
        refine q_callS (As := [.int (nI v)]) (rest := []) dX8_life_13 vX8_154 (z8_isPlacing) rfl rfl (Nat.le_of_ble_eq_true rfl) (by omega) (by omega) (by omega) (k_p ?_)
        refine q_if_eqB (tgt := 31) dX8_life_16 (by decide) (fun c16 => ?_) (fun c16 => ?_)
        · exact absurd hl (of_decide_eq_false c16)
        · skip
          refine q_aload dX8_life_19 rfl rfl ?_
          refine q_getr (r := b + 17) dX8_life_21 fX8_72 rfl (ty_r hb 0 rfl) (hb.2.2 0 10 17 rfl) ?_
          refine q_iload_n dX8_life_24 rfl rfl ?_
          refine q_callV (As := [.int (nI m)]) (rest := []) dX8_life_25 vX8_123 (ty_r hb 17 rfl) ⟨by decide, rfl⟩ (z4_has hb hsr hm) rfl rfl (Nat.le_of_ble_eq_true rfl) (by omega) (by omega) (by omega) (k_p ?_)
          refine q_if_neB (tgt := 33) dX8_life_28 (by decide) (fun _ => ?_) (fun h => absurd h (by decide))
          refine q_iconst (v := nI 0) dX8_life_33 rfl ?_
          refine q_istore dX8_life_34 (by decide) (ls' := [(5, .int (nI 0)), (4, .ref b), (0, .ref 1), (1, .int (nI i)), (2, .int (nI v)), (3, .int (nI m))]) rfl ?_
          refine q_iconst (v := nI 0) dX8_life_36 rfl ?_
          refine q_istore dX8_life_37 (by decide) (ls' := [(6, .int (nI 0)), (5, .int (nI 0)), (4, .ref b), (0, .ref 1), (1, .int (nI i)), (2, .int (nI v)), (3, .int (nI m))]) rfl ?_
          refine q_pk [5, 6, 2, 1, 0] (ls' := [(2, .int (nI v)), (3, .int (nI m)), (4, .ref b), (5, .int (nI 0)), (6, .int (nI 0))]) rfl ?_
          exact y8_life hr hv hm (NN q) 0 (by omega)
    · rw [if_neg fun z => he z.2]
      refine CT.of (by decide) (Nat.le_of_ble_eq_true rfl) ?_
      refine q_aload_n dX8_life_0 rfl rfl rfl ?_
      refine q_iload_n dX8_life_1 rfl rfl ?_
      refine q_callV (As := [.int (nI i)]) (rest := []) dX8_life_2 vX8_89 (ty_c hS (by decide) rfl) ⟨by decide, rfl⟩ (z8_routineAt1 hS hi hb h0) rfl rfl (Nat.le_of_ble_eq_true rfl) (by omega) (by omega) (by omega) (k_p ?_)
      refine q_astore dX8_life_5 rfl (by decide) (ls' := [(4, .ref b), (0, .ref 1), (1, .int (nI i)), (2, .int l), (3, .int e)]) rfl ?_
      refine q_aload dX8_life_7 rfl rfl ?_
      refine q_ifnull (tgt := 31) dX8_life_9 (by decide) (fun c9 => ?_) (fun c9 => ?_)
      · exact absurd c9 (by omega)
      · skip
        refine q_iload_n dX8_life_12 rfl rfl ?_
        refine q_callS (As := [.int l]) (rest := []) dX8_life_13 vX8_154 (z8_isPlacing) rfl rfl (Nat.le_of_ble_eq_true rfl) (by omega) (by omega) (by omega) (k_p ?_)
        refine q_if_eqB (tgt := 31) dX8_life_16 (by decide) (fun c16 => ?_) (fun c16 => ?_)
        · exact absurd hl (of_decide_eq_false c16)
        · skip
          refine q_aload dX8_life_19 rfl rfl ?_
          refine q_getr (r := b + 17) dX8_life_21 fX8_72 rfl (ty_r hb 0 rfl) (hb.2.2 0 10 17 rfl) ?_
          refine q_iload_n dX8_life_24 rfl rfl ?_
          refine q_callV (As := [.int e]) (rest := []) dX8_life_25 vX8_123 (ty_r hb 17 rfl) ⟨by decide, rfl⟩ (z4_has0 hb hsr he) rfl rfl (Nat.le_of_ble_eq_true rfl) (by omega) (by omega) (by omega) (k_p ?_)
          refine q_if_neB (tgt := 33) dX8_life_28 (by decide) (fun h => absurd h (by decide)) (fun _ => ?_)
          refine q_iconst (v := (-1 : Int32)) dX8_life_31 rfl ?_
          refine q_ireturn dX8_life_32 rfl rfl (by omega) (by omega) ?_
          exact ⟨rfl, rfl⟩
  · rw [if_neg fun z => hl z.1]
    refine CT.of (by decide) (Nat.le_of_ble_eq_true rfl) ?_
    refine q_aload_n dX8_life_0 rfl rfl rfl ?_
    refine q_iload_n dX8_life_1 rfl rfl ?_
    refine q_callV (As := [.int (nI i)]) (rest := []) dX8_life_2 vX8_89 (ty_c hS (by decide) rfl) ⟨by decide, rfl⟩ (z8_routineAt1 hS hi hb h0) rfl rfl (Nat.le_of_ble_eq_true rfl) (by omega) (by omega) (by omega) (k_p ?_)
    refine q_astore dX8_life_5 rfl (by decide) (ls' := [(4, .ref b), (0, .ref 1), (1, .int (nI i)), (2, .int l), (3, .int e)]) rfl ?_
    refine q_aload dX8_life_7 rfl rfl ?_
    refine q_ifnull (tgt := 31) dX8_life_9 (by decide) (fun c9 => ?_) (fun c9 => ?_)
    · exact absurd c9 (by omega)
    · skip
      refine q_iload_n dX8_life_12 rfl rfl ?_
      refine q_callS (As := [.int l]) (rest := []) dX8_life_13 vX8_154 (z8_isPlacing) rfl rfl (Nat.le_of_ble_eq_true rfl) (by omega) (by omega) (by omega) (k_p ?_)
      refine q_if_eqB (tgt := 31) dX8_life_16 (by decide) (fun c16 => ?_) (fun c16 => ?_)
      · skip
        refine q_iconst (v := (-1 : Int32)) dX8_life_31 rfl ?_
        refine q_ireturn dX8_life_32 rfl rfl (by omega) (by omega) ?_
        exact ⟨rfl, rfl⟩
      · exact absurd (of_decide_eq_true c16) hl
theorem z8_places1 (hS : SK σ) (h : RA σ p (some (b, q))) {l e w : Int32} : CT g mX8_places 1 0 0 [.ref 1, .int p, .int l, .int e, .int w] σ (PQ σ (.int (if (¬ l < 0 ∧ l < nI 3) ∧ (¬ e < 0 ∧ e < nI (psM q).length) ∧ ¬ w < 0 ∧ w < nI 2 then nI (cnt (if w = nI 0 then stA q l.toNatClampNeg e.toNatClampNeg else tkn q l.toNatClampNeg e.toNatClampNeg) (NN q)) else -1))) := by
  obtain ⟨i, hi, rfl, h0, hr⟩ := h
  simp only at h0 hr
  have hb := hr.1
  have hb14 : b = 14 ∨ 99 ≤ b := by rcases hb.1 with h | ⟨j, h⟩ <;> omega
  obtain ⟨-, hbc, hw, hnb, hxx, hF, g12, g13, g14, g16, hsr, g15, hrow, hfx⟩ := id hr
  have hNN := NN_le hbc
  have hNS : (psS q).length ≤ NN q := by unfold NN; omega
  have hk := hsr.2.1
  obtain ⟨f1, f2, f3, f4, f5, f6, f7, f8, f9, f10⟩ := id hfx
  by_cases hl : ¬ l < 0 ∧ l < nI 3
  · by_cases he : ¬ e < 0 ∧ e < nI (psM q).length
    · obtain ⟨m, hm, rfl⟩ := n_in (by omega) he
      by_cases hw2 : ¬ w < 0 ∧ w < nI 2
      · rw [if_pos ⟨hl, he, hw2⟩]
        obtain ⟨v, hv, rfl⟩ := n_in (by omega) hl
        obtain ⟨x, hx, rfl⟩ := n_in (by omega) hw2
        rw [nI_clamp (by omega), nI_clamp (by omega)]
        rcases (show x = 0 ∨ x = 1 by omega) with rfl | rfl
        · rw [if_pos rfl]
          refine CT.of (by decide) (Nat.le_of_ble_eq_true rfl) ?_
          refine q_aload_n dX8_places_0 rfl rfl rfl ?_
          refine q_iload_n dX8_places_1 rfl rfl ?_
          refine q_callV (As := [.int (nI i)]) (rest := []) dX8_places_2 vX8_89 (ty_c hS (by decide) rfl) ⟨by decide, rfl⟩ (z8_routineAt1 hS hi hb h0) rfl rfl (Nat.le_of_ble_eq_true rfl) (by omega) (by omega) (by omega) (k_p ?_)
          refine q_astore dX8_places_5 rfl (by decide) (ls' := [(5, .ref b), (0, .ref 1), (1, .int (nI i)), (2, .int (nI v)), (3, .int (nI m)), (4, .int (nI 0))]) rfl ?_
          refine q_aload dX8_places_7 rfl rfl ?_
          refine q_ifnull (tgt := 42) dX8_places_9 (by decide) (fun c9 => ?_) (fun c9 => ?_)
          · exact absurd c9 (by omega)
          · skip
            refine q_iload_n dX8_places_12 rfl rfl ?_
            refine q_callS (As := [.int (nI v)]) (rest := []) dX8_places_13 vX8_154 (z8_isPlacing) rfl rfl (Nat.le_of_ble_eq_true rfl) (by omega) (by omega) (by omega) (k_p ?_)
            refine q_if_eqB (tgt := 42) dX8_places_16 (by decide) (fun c16 => ?_) (fun c16 => ?_)
            · exact absurd hl (of_decide_eq_false c16)
            · skip
              refine q_aload dX8_places_19 rfl rfl ?_
              refine q_getr (r := b + 17) dX8_places_21 fX8_72 rfl (ty_r hb 0 rfl) (hb.2.2 0 10 17 rfl) ?_
              refine q_iload_n dX8_places_24 rfl rfl ?_
              refine q_callV (As := [.int (nI m)]) (rest := []) dX8_places_25 vX8_123 (ty_r hb 17 rfl) ⟨by decide, rfl⟩ (z4_has hb hsr hm) rfl rfl (Nat.le_of_ble_eq_true rfl) (by omega) (by omega) (by omega) (k_p ?_)
              refine q_if_eqB (tgt := 42) dX8_places_28 (by decide) (fun h => absurd h (by decide)) (fun _ => ?_)
              refine q_iload dX8_places_31 rfl ?_
              refine q_if_ltN (tgt := 42) dX8_places_33 (by decide) (by omega) ?_
              refine q_iload dX8_places_36 rfl ?_
              refine q_iconst (v := nI 1) dX8_places_38 rfl ?_
              refine q_icmp_leN (tgt := 44) dX8_places_39 (by decide) (by omega) (by omega) (fun _ => ?_) (fun h => absurd h (by decide))
              refine q_iconst (v := nI 0) dX8_places_44 rfl ?_
              refine q_istore dX8_places_45 (by decide) (ls' := [(6, .int (nI 0)), (5, .ref b), (0, .ref 1), (1, .int (nI i)), (2, .int (nI v)), (3, .int (nI m)), (4, .int (nI 0))]) rfl ?_
              refine q_iconst (v := nI 0) dX8_places_47 rfl ?_
              refine q_istore dX8_places_48 (by decide) (ls' := [(7, .int (nI 0)), (6, .int (nI 0)), (5, .ref b), (0, .ref 1), (1, .int (nI i)), (2, .int (nI v)), (3, .int (nI m)), (4, .int (nI 0))]) rfl ?_
              refine q_pk [5, 6, 7, 2, 1, 0] (ls' := [(2, .int (nI v)), (3, .int (nI m)), (4, .int (nI 0)), (5, .ref b), (6, .int (nI 0)), (7, .int (nI 0))]) rfl ?_
              exact y8_places0 hr hv hm (NN q) 0 (by omega)
        · rw [if_neg (by decide)]
          refine CT.of (by decide) (Nat.le_of_ble_eq_true rfl) ?_
          refine q_aload_n dX8_places_0 rfl rfl rfl ?_
          refine q_iload_n dX8_places_1 rfl rfl ?_
          refine q_callV (As := [.int (nI i)]) (rest := []) dX8_places_2 vX8_89 (ty_c hS (by decide) rfl) ⟨by decide, rfl⟩ (z8_routineAt1 hS hi hb h0) rfl rfl (Nat.le_of_ble_eq_true rfl) (by omega) (by omega) (by omega) (k_p ?_)
          refine q_astore dX8_places_5 rfl (by decide) (ls' := [(5, .ref b), (0, .ref 1), (1, .int (nI i)), (2, .int (nI v)), (3, .int (nI m)), (4, .int (nI 1))]) rfl ?_
          refine q_aload dX8_places_7 rfl rfl ?_
          refine q_ifnull (tgt := 42) dX8_places_9 (by decide) (fun c9 => ?_) (fun c9 => ?_)
          · exact absurd c9 (by omega)
          · skip
            refine q_iload_n dX8_places_12 rfl rfl ?_
            refine q_callS (As := [.int (nI v)]) (rest := []) dX8_places_13 vX8_154 (z8_isPlacing) rfl rfl (Nat.le_of_ble_eq_true rfl) (by omega) (by omega) (by omega) (k_p ?_)
            refine q_if_eqB (tgt := 42) dX8_places_16 (by decide) (fun c16 => ?_) (fun c16 => ?_)
            · exact absurd hl (of_decide_eq_false c16)
            · skip
              refine q_aload dX8_places_19 rfl rfl ?_
              refine q_getr (r := b + 17) dX8_places_21 fX8_72 rfl (ty_r hb 0 rfl) (hb.2.2 0 10 17 rfl) ?_
              refine q_iload_n dX8_places_24 rfl rfl ?_
              refine q_callV (As := [.int (nI m)]) (rest := []) dX8_places_25 vX8_123 (ty_r hb 17 rfl) ⟨by decide, rfl⟩ (z4_has hb hsr hm) rfl rfl (Nat.le_of_ble_eq_true rfl) (by omega) (by omega) (by omega) (k_p ?_)
              refine q_if_eqB (tgt := 42) dX8_places_28 (by decide) (fun h => absurd h (by decide)) (fun _ => ?_)
              refine q_iload dX8_places_31 rfl ?_
              refine q_if_ltN (tgt := 42) dX8_places_33 (by decide) (by omega) ?_
              refine q_iload dX8_places_36 rfl ?_
              refine q_iconst (v := nI 1) dX8_places_38 rfl ?_
              refine q_icmp_leN (tgt := 44) dX8_places_39 (by decide) (by omega) (by omega) (fun _ => ?_) (fun h => absurd h (by decide))
              refine q_iconst (v := nI 0) dX8_places_44 rfl ?_
              refine q_istore dX8_places_45 (by decide) (ls' := [(6, .int (nI 0)), (5, .ref b), (0, .ref 1), (1, .int (nI i)), (2, .int (nI v)), (3, .int (nI m)), (4, .int (nI 1))]) rfl ?_
              refine q_iconst (v := nI 0) dX8_places_47 rfl ?_
              refine q_istore dX8_places_48 (by decide) (ls' := [(7, .int (nI 0)), (6, .int (nI 0)), (5, .ref b), (0, .ref 1), (1, .int (nI i)), (2, .int (nI v)), (3, .int (nI m)), (4, .int (nI 1))]) rfl ?_
              refine q_pk [5, 6, 7, 2, 1, 0] (ls' := [(2, .int (nI v)), (3, .int (nI m)), (4, .int (nI 1)), (5, .ref b), (6, .int (nI 0)), (7, .int (nI 0))]) rfl ?_
              exact y8_places1 hr hv hm (NN q) 0 (by omega)
      · rw [if_neg fun z => hw2 z.2.2]
        refine CT.of (by decide) (Nat.le_of_ble_eq_true rfl) ?_
        refine q_aload_n dX8_places_0 rfl rfl rfl ?_
        refine q_iload_n dX8_places_1 rfl rfl ?_
        refine q_callV (As := [.int (nI i)]) (rest := []) dX8_places_2 vX8_89 (ty_c hS (by decide) rfl) ⟨by decide, rfl⟩ (z8_routineAt1 hS hi hb h0) rfl rfl (Nat.le_of_ble_eq_true rfl) (by omega) (by omega) (by omega) (k_p ?_)
        refine q_astore dX8_places_5 rfl (by decide) (ls' := [(5, .ref b), (0, .ref 1), (1, .int (nI i)), (2, .int l), (3, .int (nI m)), (4, .int w)]) rfl ?_
        refine q_aload dX8_places_7 rfl rfl ?_
        refine q_ifnull (tgt := 42) dX8_places_9 (by decide) (fun c9 => ?_) (fun c9 => ?_)
        · exact absurd c9 (by omega)
        · skip
          refine q_iload_n dX8_places_12 rfl rfl ?_
          refine q_callS (As := [.int l]) (rest := []) dX8_places_13 vX8_154 (z8_isPlacing) rfl rfl (Nat.le_of_ble_eq_true rfl) (by omega) (by omega) (by omega) (k_p ?_)
          refine q_if_eqB (tgt := 42) dX8_places_16 (by decide) (fun c16 => ?_) (fun c16 => ?_)
          · exact absurd hl (of_decide_eq_false c16)
          · skip
            refine q_aload dX8_places_19 rfl rfl ?_
            refine q_getr (r := b + 17) dX8_places_21 fX8_72 rfl (ty_r hb 0 rfl) (hb.2.2 0 10 17 rfl) ?_
            refine q_iload_n dX8_places_24 rfl rfl ?_
            refine q_callV (As := [.int (nI m)]) (rest := []) dX8_places_25 vX8_123 (ty_r hb 17 rfl) ⟨by decide, rfl⟩ (z4_has hb hsr hm) rfl rfl (Nat.le_of_ble_eq_true rfl) (by omega) (by omega) (by omega) (k_p ?_)
            refine q_if_eqB (tgt := 42) dX8_places_28 (by decide) (fun h => absurd h (by decide)) (fun _ => ?_)
            refine q_iload dX8_places_31 rfl ?_
            refine q_if_lt (tgt := 42) dX8_places_33 (by decide) (fun c33 => ?_) (fun c33 => ?_)
            · skip
              refine q_iconst (v := (-1 : Int32)) dX8_places_42 rfl ?_
              refine q_ireturn dX8_places_43 rfl rfl (by omega) (by omega) ?_
              exact ⟨rfl, rfl⟩
            · skip
              refine q_iload dX8_places_36 rfl ?_
              refine q_iconst (v := nI 1) dX8_places_38 rfl ?_
              refine q_icmp_le (tgt := 44) dX8_places_39 (by decide) (fun c39 => ?_) (fun c39 => ?_)
              · exact absurd ⟨c33, lt_2 c39⟩ hw2
              · skip
                refine q_iconst (v := (-1 : Int32)) dX8_places_42 rfl ?_
                refine q_ireturn dX8_places_43 rfl rfl (by omega) (by omega) ?_
                exact ⟨rfl, rfl⟩
    · rw [if_neg fun z => he z.2.1]
      refine CT.of (by decide) (Nat.le_of_ble_eq_true rfl) ?_
      refine q_aload_n dX8_places_0 rfl rfl rfl ?_
      refine q_iload_n dX8_places_1 rfl rfl ?_
      refine q_callV (As := [.int (nI i)]) (rest := []) dX8_places_2 vX8_89 (ty_c hS (by decide) rfl) ⟨by decide, rfl⟩ (z8_routineAt1 hS hi hb h0) rfl rfl (Nat.le_of_ble_eq_true rfl) (by omega) (by omega) (by omega) (k_p ?_)
      refine q_astore dX8_places_5 rfl (by decide) (ls' := [(5, .ref b), (0, .ref 1), (1, .int (nI i)), (2, .int l), (3, .int e), (4, .int w)]) rfl ?_
      refine q_aload dX8_places_7 rfl rfl ?_
      refine q_ifnull (tgt := 42) dX8_places_9 (by decide) (fun c9 => ?_) (fun c9 => ?_)
      · exact absurd c9 (by omega)
      · skip
        refine q_iload_n dX8_places_12 rfl rfl ?_
        refine q_callS (As := [.int l]) (rest := []) dX8_places_13 vX8_154 (z8_isPlacing) rfl rfl (Nat.le_of_ble_eq_true rfl) (by omega) (by omega) (by omega) (k_p ?_)
        refine q_if_eqB (tgt := 42) dX8_places_16 (by decide) (fun c16 => ?_) (fun c16 => ?_)
        · exact absurd hl (of_decide_eq_false c16)
        · skip
          refine q_aload dX8_places_19 rfl rfl ?_
          refine q_getr (r := b + 17) dX8_places_21 fX8_72 rfl (ty_r hb 0 rfl) (hb.2.2 0 10 17 rfl) ?_
          refine q_iload_n dX8_places_24 rfl rfl ?_
          refine q_callV (As := [.int e]) (rest := []) dX8_places_25 vX8_123 (ty_r hb 17 rfl) ⟨by decide, rfl⟩ (z4_has0 hb hsr he) rfl rfl (Nat.le_of_ble_eq_true rfl) (by omega) (by omega) (by omega) (k_p ?_)
          refine q_if_eqB (tgt := 42) dX8_places_28 (by decide) (fun _ => ?_) (fun h => absurd h (by decide))
          refine q_iconst (v := (-1 : Int32)) dX8_places_42 rfl ?_
          refine q_ireturn dX8_places_43 rfl rfl (by omega) (by omega) ?_
          exact ⟨rfl, rfl⟩
  · rw [if_neg fun z => hl z.1]
    refine CT.of (by decide) (Nat.le_of_ble_eq_true rfl) ?_
    refine q_aload_n dX8_places_0 rfl rfl rfl ?_
    refine q_iload_n dX8_places_1 rfl rfl ?_
    refine q_callV (As := [.int (nI i)]) (rest := []) dX8_places_2 vX8_89 (ty_c hS (by decide) rfl) ⟨by decide, rfl⟩ (z8_routineAt1 hS hi hb h0) rfl rfl (Nat.le_of_ble_eq_true rfl) (by omega) (by omega) (by omega) (k_p ?_)
    refine q_astore dX8_places_5 rfl (by decide) (ls' := [(5, .ref b), (0, .ref 1), (1, .int (nI i)), (2, .int l), (3, .int e), (4, .int w)]) rfl ?_
    refine q_aload dX8_places_7 rfl rfl ?_
    refine q_ifnull (tgt := 42) dX8_places_9 (by decide) (fun c9 => ?_) (fun c9 => ?_)
    · exact absurd c9 (by omega)
    · skip
      refine q_iload_n dX8_places_12 rfl rfl ?_
      refine q_callS (As := [.int l]) (rest := []) dX8_places_13 vX8_154 (z8_isPlacing) rfl rfl (Nat.le_of_ble_eq_true rfl) (by omega) (by omega) (by omega) (k_p ?_)
      refine q_if_eqB (tgt := 42) dX8_places_16 (by decide) (fun c16 => ?_) (fun c16 => ?_)
      · skip
        refine q_iconst (v := (-1 : Int32)) dX8_places_42 rfl ?_
        refine q_ireturn dX8_places_43 rfl rfl (by omega) (by omega) ?_
        exact ⟨rfl, rfl⟩
      · exact absurd (of_decide_eq_true c16) hl

end QUE3
