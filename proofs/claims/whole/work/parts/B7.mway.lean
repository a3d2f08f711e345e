/-! The model: the WAY. -/
/-- each block of the WAY leads to the next one -/
def WC (q : PS) (ws : List Nat) : Prop := ∀ j, j + 1 < ws.length → wy q 0 (ws.getD j 0) = some (ws.getD (j + 1) 0) ∨ wy q 1 (ws.getD j 0) = some (ws.getD (j + 1) 0)
/-- the WAY of place p of the model -/
def MW (σ : HS) (p : Nat) (q : PS) (ws : List Nat) : Prop := sI σ 95 p = nI ws.length ∧ ws.length ≤ 60 ∧ ∀ j, j < ws.length → sI σ 96 (60 * p + j) = nI (ws.getD j 0) ∧ ws.getD j 0 < (psF q).length
def pas (q : PS) (j t : Nat) : Option Nat := if wy q 0 j = some t then ld q 0 (eNd q j) else if wy q 1 j = some t then ld q 1 (eNd q j) else none
theorem nf_0 {q : PS} (hc : BC q) {t : Nat} (ht : t < (psF q).length) : nf q t < (psS q).length := by
  have h1 := hc.2.2.2.2.1 t ht
  have h2 := nf_le hc (j := t + 1) (by omega)
  omega
/-- where a block's end leads: the block's first NODE, or one ON THE WAY to it -/
theorem hop {q : PS} (hc : BC q) (hw : WFs q) (hB : NB q) {j w t : Nat} (hj : j < (psF q).length) (hw2 : w < 2) (h : wy q w j = some t) : t < (psF q).length ∧ ∃ x, ld q w (eNd q j) = some x ∧ x < NN q ∧ ((x = nf q t ∧ x < (psS q).length) ∨ ((psS q).length ≤ x ∧ ld q 0 x = some (nf q t))) := by
  obtain ⟨e1, e2, e3, e4, e5, e6, -⟩ := end_w hc hw hj
  have hn : eNd q j < (psS q).length := e3
  have h4 : 4 ≤ rK (rr q (eNd q j)) := e5
  obtain ⟨j', j1, j2, j3⟩ := st_end hc hw hB hn h4
  obtain ⟨g1, g2, g3, g4, g5, g6, g7⟩ := st_w hw hn
  have hwr : wr q w (eNd q j) = some t := h
  have ht := (j3 w t hwr).1
  refine ⟨ht, ?_⟩
  obtain ⟨l0, l1⟩ := ld_e hn h4
  have hnt := nf_0 hc ht
  have hEN : eNd q j < NN q := by unfold NN; omega
  have way : ∀ i, i < (xs q (eNd q j)).length → (xs q (eNd q j)).getD i 0 = t → ld q w (eNd q j) = some ((psS q).length + (XL q (eNd q j)).length + i) → ∃ x, ld q w (eNd q j) = some x ∧ x < NN q ∧ ((x = nf q t ∧ x < (psS q).length) ∨ ((psS q).length ≤ x ∧ ld q 0 x = some (nf q t))) := fun i hi hg hl => by
    have hx := XL_get (q := q) hn hi
    refine ⟨_, hl, ld_lt hc hw hB hEN hl, Or.inr ⟨by omega, ?_⟩⟩
    unfold ld
    rw [if_neg (by omega), if_pos rfl, show (psS q).length + (XL q (eNd q j)).length + i - (psS q).length = (XL q (eNd q j)).length + i by omega, hx, hg]
  have dir : ld q w (eNd q j) = some (nf q t) → ∃ x, ld q w (eNd q j) = some x ∧ x < NN q ∧ ((x = nf q t ∧ x < (psS q).length) ∨ ((psS q).length ≤ x ∧ ld q 0 x = some (nf q t))) := fun hl => ⟨_, hl, ld_lt hc hw hB hEN hl, Or.inl ⟨rfl, hnt⟩⟩
  rcases (show w = 0 ∨ w = 1 by omega) with rfl | rfl
  · rw [hwr] at l0
    by_cases m : rK (rr q (eNd q j)) = 5 ∧ many q t = true
    · obtain ⟨t1, ht1⟩ := Option.isSome_iff_exists.mp (g6 m.1).2
      have x5 := xs_5 m.1 hwr ht1
      rw [if_pos m.2] at x5
      refine way 0 (by rw [x5]; simp) (by rw [x5]; rfl) ?_
      rw [l0]; exact ldW_m m.1 m.2
    · exact dir (l0.trans (if_neg m))
  · rw [hwr] at l1
    have k5 : rK (rr q (eNd q j)) = 5 := by
      by_cases a4 : rK (rr q (eNd q j)) = 4
      · have := (g5 a4).2; rw [hwr] at this; cases this
      · by_cases a6 : rK (rr q (eNd q j)) = 6
        · have := (g7 a6).2; rw [hwr] at this; cases this
        · omega
    obtain ⟨t0, ht0⟩ := Option.isSome_iff_exists.mp (g6 k5).1
    have x5 := xs_5 k5 ht0 hwr
    by_cases m : many q t = true
    · rw [if_pos m] at x5
      rw [ht0] at l1
      have l1' := l1.trans (ldW_m (i := nW q (eNd q j) (some t0)) k5 m)
      by_cases m0 : many q t0 = true
      · rw [if_pos m0] at x5
        have en : nW q (eNd q j) (some t0) = 1 := if_pos m0
        rw [en] at l1'
        exact way 1 (by rw [x5]; simp) (by rw [x5]; rfl) l1'
      · rw [if_neg m0] at x5
        have en : nW q (eNd q j) (some t0) = 0 := if_neg m0
        rw [en] at l1'
        exact way 0 (by rw [x5]; simp) (by rw [x5]; rfl) l1'
    · exact dir (l1.trans (ldW_n m))
theorem ld_wy0 {q : PS} (hc : BC q) (hw : WFs q) {j w : Nat} (hj : j < (psF q).length) (hw2 : w < 2) (h : wy q w j = none) : ld q w (eNd q j) = none := by
  obtain ⟨e1, e2, e3, e4, e5, e6, -⟩ := end_w hc hw hj
  obtain ⟨l0, l1⟩ := ld_e (q := q) (n := eNd q j) e3 e5
  rcases (show w = 0 ∨ w = 1 by omega) with rfl | rfl
  · rw [l0, show wr q 0 (eNd q j) = none from h]; rfl
  · rw [l1, show wr q 1 (eNd q j) = none from h]; rfl
theorem WC_to {q : PS} {ws : List Nat} (h : WC q ws) {j : Nat} (hj : j + 1 < ws.length) : lTw q (ws.getD j 0) (ws.getD (j + 1) 0) = pas q (ws.getD j 0) (ws.getD (j + 1) 0) := by
  unfold lTw pas
  by_cases h0 : wy q 0 (ws.getD j 0) = some (ws.getD (j + 1) 0)
  · rw [if_pos h0, if_pos h0]
  · rw [if_neg h0, if_neg h0, if_pos ((h j hj).resolve_left h0)]
section MWY
variable {g : GG} {σ : HS} {q : PS} {i : Nat}
theorem mrq (h : MR σ i q) {k : Nat} (hk : k < NN q) : sI σ 67 (240 * i + k) = nI (rK (rg q k)) ∧ sI σ 71 (240 * i + k) = oW (ld q 0 k) ∧ sI σ 72 (240 * i + k) = oW (ld q 1 k) := by
  obtain ⟨⟨n1, -⟩, l0, l1⟩ := h.1.2.2.2.2.2.1 k hk
  exact ⟨n1, l0, l1⟩
theorem z9_end (hS : SK σ) (hi : i < 4) (hr : MR σ i q) (hk : MOK q) {j : Nat} (hj : j < (psF q).length) : CT g mX9_end 0 0 0 [.ref 58, .int (nI i), .int (nI j)] σ (PQ σ (.int (nI (240 * i + eNd q j)))) := by
  obtain ⟨hc, hw, hB, hx, h0⟩ := hk
  obtain ⟨e1, e2, e3, -⟩ := end_w hc hw hj
  have h40 := hc.2.1
  have r61 := hr.1.1
  have r63 := hr.1.2.2.1
  have hb := fun b h => hr.1.2.2.2.2.1 b h
  by_cases h : j + 1 < (psF q).length
  · have r65 := hb (j + 1) h
    refine CT.of (by decide) (Nat.le_of_ble_eq_true rfl) ?_
    refine q_sipush (v := nI 240) dX9_end_0 rfl ?_
    refine q_iload_n dX9_end_3 rfl rfl ?_
    refine q_imulN dX9_end_4 ?_
    refine q_iload_n dX9_end_5 rfl rfl ?_
    refine q_iconst (v := nI 1) dX9_end_6 rfl ?_
    refine q_iaddN dX9_end_7 ?_
    refine q_aload_n dX9_end_8 rfl rfl rfl ?_
    refine q_getr (r := 61) dX9_end_9 fX9_40 rfl (ty_c hS (by decide) rfl) (hS.2 58 9 61 rfl) ?_
    refine q_iload_n dX9_end_12 rfl rfl ?_
    refine q_iald (x := nI ((psF q).length)) (j := i) dX9_end_13 (ty_c hS (by decide) rfl) (ix_n (by omega) (by omega)) r61 ?_
    refine q_icmp_geN (tgt := 33) dX9_end_14 (by decide) (by omega) (by omega) (fun c14 => ?_) (fun c14 => ?_)
    · exact absurd c14 (by omega)
    · skip
      refine q_aload_n dX9_end_17 rfl rfl rfl ?_
      refine q_getr (r := 65) dX9_end_18 fX9_52 rfl (ty_c hS (by decide) rfl) (hS.2 58 13 65 rfl) ?_
      refine q_bipush (v := nI 41) dX9_end_21 rfl ?_
      refine q_iload_n dX9_end_23 rfl rfl ?_
      refine q_imulN dX9_end_24 ?_
      refine q_iload_n dX9_end_25 rfl rfl ?_
      refine q_iaddN dX9_end_26 ?_
      refine q_iconst (v := nI 1) dX9_end_27 rfl ?_
      refine q_iaddN dX9_end_28 ?_
      refine q_iald (x := nI (nf q (j + 1))) (j := (((41 * i) + j) + 1)) dX9_end_29 (ty_c hS (by decide) rfl) (ix_n (by omega) (by omega)) r65 ?_
      refine q_goto (tgt := 39) dX9_end_30 (by decide) ?_
      refine q_iaddN dX9_end_39 ?_
      refine q_iconst (v := nI 1) dX9_end_40 rfl ?_
      refine q_isubN dX9_end_41 (by omega) ?_
      refine q_ireturn dX9_end_42 rfl rfl (by omega) (by omega) ?_
      exact ⟨rfl, congrArg (fun n => some (Value.int (nI n))) (by unfold eNd; omega)⟩
  · have e : (psS q).length = nf q (j + 1) := (nf_ge (by omega)).symm
    rw [e] at r63
    refine CT.of (by decide) (Nat.le_of_ble_eq_true rfl) ?_
    refine q_sipush (v := nI 240) dX9_end_0 rfl ?_
    refine q_iload_n dX9_end_3 rfl rfl ?_
    refine q_imulN dX9_end_4 ?_
    refine q_iload_n dX9_end_5 rfl rfl ?_
    refine q_iconst (v := nI 1) dX9_end_6 rfl ?_
    refine q_iaddN dX9_end_7 ?_
    refine q_aload_n dX9_end_8 rfl rfl rfl ?_
    refine q_getr (r := 61) dX9_end_9 fX9_40 rfl (ty_c hS (by decide) rfl) (hS.2 58 9 61 rfl) ?_
    refine q_iload_n dX9_end_12 rfl rfl ?_
    refine q_iald (x := nI ((psF q).length)) (j := i) dX9_end_13 (ty_c hS (by decide) rfl) (ix_n (by omega) (by omega)) r61 ?_
    refine q_icmp_geN (tgt := 33) dX9_end_14 (by decide) (by omega) (by omega) (fun c14 => ?_) (fun c14 => ?_)
    · skip
      refine q_aload_n dX9_end_33 rfl rfl rfl ?_
      refine q_getr (r := 63) dX9_end_34 fX9_46 rfl (ty_c hS (by decide) rfl) (hS.2 58 11 63 rfl) ?_
      refine q_iload_n dX9_end_37 rfl rfl ?_
      refine q_iald (x := nI (nf q (j + 1))) (j := i) dX9_end_38 (ty_c hS (by decide) rfl) (ix_n (by omega) (by omega)) r63 ?_
      refine q_iaddN dX9_end_39 ?_
      refine q_iconst (v := nI 1) dX9_end_40 rfl ?_
      refine q_isubN dX9_end_41 (by omega) ?_
      refine q_ireturn dX9_end_42 rfl rfl (by omega) (by omega) ?_
      exact ⟨rfl, congrArg (fun n => some (Value.int (nI n))) (by unfold eNd; omega)⟩
    · exact absurd c14 (by omega)
theorem y9_ps72 (hS : SK σ) (hi : i < 4) (hr : MR σ i q) (hk : MOK q) {j t : Nat} (hj : j < (psF q).length) (ht : t < (psF q).length) {x : Int32} {Q : Option Value → HS → Prop} (hQ : Q (some (.int (oW (if wy q 1 j = some t then ld q 1 (eNd q j) else none)))) σ) : WA g mX9_passes 0 0 0 (ZM g Q 0 0) 0 0 72 [(0, .ref 58), (1, .int (nI i)), (2, .int (nI (240 * i + eNd q j))), (3, .int (nI t)), (4, .int (nI (nf q t))), (5, .int x)] [] σ := by
  obtain ⟨hc, hw, hB, hx, h0⟩ := hk
  have hN := NN_le hc
  have h160 := hc.2.2.1
  obtain ⟨e1, e2, e3, -⟩ := end_w hc hw hj
  have hEN : eNd q j < NN q := by unfold NN eNd; omega
  obtain ⟨-, -, l1⟩ := mrq hr hEN
  have hnt := nf_0 hc ht
  cases w1 : wy q 1 j with
  | none =>
    rw [w1, if_neg (by simp)] at hQ
    rw [ld_wy0 hc hw hj (by omega) w1] at l1
    refine q_aload_n dX9_passes_72 rfl rfl rfl ?_
    refine q_getr (r := 72) dX9_passes_73 fX9_73 rfl (ty_c hS (by decide) rfl) (hS.2 58 20 72 rfl) ?_
    refine q_iload_n dX9_passes_76 rfl rfl ?_
    refine q_iald (x := (-1)) (j := (240 * i + eNd q j)) dX9_passes_77 (ty_c hS (by decide) rfl) (ix_n (by omega) (by omega)) l1 ?_
    refine q_istore dX9_passes_78 (by decide) (ls' := [(5, .int (-1)), (0, .ref 58), (1, .int (nI i)), (2, .int (nI (240 * i + eNd q j))), (3, .int (nI t)), (4, .int (nI (nf q t)))]) rfl ?_
    refine q_iload dX9_passes_80 rfl ?_
    refine q_if_lt1 (tgt := 131) dX9_passes_82 (by decide) (by decide) ?_
    refine q_iconst (v := (-1 : Int32)) dX9_passes_131 rfl ?_
    refine q_ireturn dX9_passes_132 rfl rfl (by omega) (by omega) ?_
    exact hQ
  | some t1 =>
    obtain ⟨ht1, y, hy, hyN, hyc⟩ := hop hc hw hB hj (by omega) w1
    rw [hy] at l1
    have hnt1 := nf_0 hc ht1
    have hyq : Q (some (.int (oW (if t1 = t then some y else none)))) σ := by
      rw [w1, hy] at hQ
      by_cases e : t1 = t
      · rw [if_pos (by rw [e])] at hQ; rw [if_pos e]; exact hQ
      · rw [if_neg (fun z => e (Option.some.inj z))] at hQ; rw [if_neg e]; exact hQ
    obtain ⟨n1, m0, -⟩ := mrq hr hyN
    rcases hyc with ⟨y1, y2⟩ | ⟨y1, y2⟩
    · have hk7 : rK (rg q y) ≤ 7 := by
        rw [show rg q y = rr q y from if_pos y2]; have := (st_w hw y2).1; omega
      have h7 : rK (rg q y) ≠ 7 := fun z => by have := (rg_7 hw hyN).mp z; omega
      by_cases e : t1 = t
      · rw [if_pos e] at hyq
        have ey : y = nf q t := by rw [← e]; exact y1
        refine q_aload_n dX9_passes_72 rfl rfl rfl ?_
        refine q_getr (r := 72) dX9_passes_73 fX9_73 rfl (ty_c hS (by decide) rfl) (hS.2 58 20 72 rfl) ?_
        refine q_iload_n dX9_passes_76 rfl rfl ?_
        refine q_iald (x := nI y) (j := (240 * i + eNd q j)) dX9_passes_77 (ty_c hS (by decide) rfl) (ix_n (by omega) (by omega)) l1 ?_
        refine q_istore dX9_passes_78 (by decide) (ls' := [(5, .int (nI y)), (0, .ref 58), (1, .int (nI i)), (2, .int (nI (240 * i + eNd q j))), (3, .int (nI t)), (4, .int (nI (nf q t)))]) rfl ?_
        refine q_iload dX9_passes_80 rfl ?_
        refine q_if_ltN (tgt := 131) dX9_passes_82 (by decide) (by omega) ?_
        refine q_iload dX9_passes_85 rfl ?_
        refine q_iload dX9_passes_87 rfl ?_
        refine q_icmp_eqN (tgt := 128) dX9_passes_89 (by decide) (by omega) (by omega) (fun c89 => ?_) (fun c89 => ?_)
        · skip
          refine q_iload dX9_passes_128 rfl ?_
          refine q_ireturn dX9_passes_130 rfl rfl (by omega) (by omega) ?_
          exact hyq
        · exact absurd ey c89
      · rw [if_neg e] at hyq
        have ey : y ≠ nf q t := fun z => e (nf_ij hc ht1 ht (by omega))
        refine q_aload_n dX9_passes_72 rfl rfl rfl ?_
        refine q_getr (r := 72) dX9_passes_73 fX9_73 rfl (ty_c hS (by decide) rfl) (hS.2 58 20 72 rfl) ?_
        refine q_iload_n dX9_passes_76 rfl rfl ?_
        refine q_iald (x := nI y) (j := (240 * i + eNd q j)) dX9_passes_77 (ty_c hS (by decide) rfl) (ix_n (by omega) (by omega)) l1 ?_
        refine q_istore dX9_passes_78 (by decide) (ls' := [(5, .int (nI y)), (0, .ref 58), (1, .int (nI i)), (2, .int (nI (240 * i + eNd q j))), (3, .int (nI t)), (4, .int (nI (nf q t)))]) rfl ?_
        refine q_iload dX9_passes_80 rfl ?_
        refine q_if_ltN (tgt := 131) dX9_passes_82 (by decide) (by omega) ?_
        refine q_iload dX9_passes_85 rfl ?_
        refine q_iload dX9_passes_87 rfl ?_
        refine q_icmp_eqN (tgt := 128) dX9_passes_89 (by decide) (by omega) (by omega) (fun c89 => ?_) (fun c89 => ?_)
        · exact absurd c89 ey
        · skip
          refine q_aload_n dX9_passes_92 rfl rfl rfl ?_
          refine q_getr (r := 67) dX9_passes_93 fX9_58 rfl (ty_c hS (by decide) rfl) (hS.2 58 15 67 rfl) ?_
          refine q_sipush (v := nI 240) dX9_passes_96 rfl ?_
          refine q_iload_n dX9_passes_99 rfl rfl ?_
          refine q_imulN dX9_passes_100 ?_
          refine q_iload dX9_passes_101 rfl ?_
          refine q_iaddN dX9_passes_103 ?_
          refine q_iald (x := nI (rK (rg q y))) (j := ((240 * i) + y)) dX9_passes_104 (ty_c hS (by decide) rfl) (ix_n (by omega) (by omega)) n1 ?_
          refine q_bipush (v := nI 7) dX9_passes_105 rfl ?_
          refine q_icmp_neN (tgt := 131) dX9_passes_107 (by decide) (by omega) (by omega) (fun c107 => ?_) (fun c107 => ?_)
          · skip
            refine q_iconst (v := (-1 : Int32)) dX9_passes_131 rfl ?_
            refine q_ireturn dX9_passes_132 rfl rfl (by omega) (by omega) ?_
            exact hyq
          · exact absurd c107 h7
    · have h7 : rK (rg q y) = 7 := (rg_7 hw hyN).mpr y1
      rw [h7] at n1
      rw [y2] at m0
      by_cases e : t1 = t
      · rw [if_pos e] at hyq
        have ey : nf q t1 = nf q t := by rw [e]
        refine q_aload_n dX9_passes_72 rfl rfl rfl ?_
        refine q_getr (r := 72) dX9_passes_73 fX9_73 rfl (ty_c hS (by decide) rfl) (hS.2 58 20 72 rfl) ?_
        refine q_iload_n dX9_passes_76 rfl rfl ?_
        refine q_iald (x := nI y) (j := (240 * i + eNd q j)) dX9_passes_77 (ty_c hS (by decide) rfl) (ix_n (by omega) (by omega)) l1 ?_
        refine q_istore dX9_passes_78 (by decide) (ls' := [(5, .int (nI y)), (0, .ref 58), (1, .int (nI i)), (2, .int (nI (240 * i + eNd q j))), (3, .int (nI t)), (4, .int (nI (nf q t)))]) rfl ?_
        refine q_iload dX9_passes_80 rfl ?_
        refine q_if_ltN (tgt := 131) dX9_passes_82 (by decide) (by omega) ?_
        refine q_iload dX9_passes_85 rfl ?_
        refine q_iload dX9_passes_87 rfl ?_
        refine q_icmp_eqN (tgt := 128) dX9_passes_89 (by decide) (by omega) (by omega) (fun c89 => ?_) (fun c89 => ?_)
        · exact absurd c89 (by omega)
        · skip
          refine q_aload_n dX9_passes_92 rfl rfl rfl ?_
          refine q_getr (r := 67) dX9_passes_93 fX9_58 rfl (ty_c hS (by decide) rfl) (hS.2 58 15 67 rfl) ?_
          refine q_sipush (v := nI 240) dX9_passes_96 rfl ?_
          refine q_iload_n dX9_passes_99 rfl rfl ?_
          refine q_imulN dX9_passes_100 ?_
          refine q_iload dX9_passes_101 rfl ?_
          refine q_iaddN dX9_passes_103 ?_
          refine q_iald (x := nI 7) (j := ((240 * i) + y)) dX9_passes_104 (ty_c hS (by decide) rfl) (ix_n (by omega) (by omega)) n1 ?_
          refine q_bipush (v := nI 7) dX9_passes_105 rfl ?_
          refine q_icmp_neN (tgt := 131) dX9_passes_107 (by decide) (by omega) (by omega) (fun h => absurd h (by decide)) (fun _ => ?_)
          refine q_aload_n dX9_passes_110 rfl rfl rfl ?_
          refine q_getr (r := 71) dX9_passes_111 fX9_70 rfl (ty_c hS (by decide) rfl) (hS.2 58 19 71 rfl) ?_
          refine q_sipush (v := nI 240) dX9_passes_114 rfl ?_
          refine q_iload_n dX9_passes_117 rfl rfl ?_
          refine q_imulN dX9_passes_118 ?_
          refine q_iload dX9_passes_119 rfl ?_
          refine q_iaddN dX9_passes_121 ?_
          refine q_iald (x := nI (nf q t1)) (j := ((240 * i) + y)) dX9_passes_122 (ty_c hS (by decide) rfl) (ix_n (by omega) (by omega)) m0 ?_
          refine q_iload dX9_passes_123 rfl ?_
          refine q_icmp_neN (tgt := 131) dX9_passes_125 (by decide) (by omega) (by omega) (fun c125 => ?_) (fun c125 => ?_)
          · exact absurd ey c125
          · skip
            refine q_iload dX9_passes_128 rfl ?_
            refine q_ireturn dX9_passes_130 rfl rfl (by omega) (by omega) ?_
            exact hyq
      · rw [if_neg e] at hyq
        have ey : nf q t1 ≠ nf q t := fun z => e (nf_ij hc ht1 ht z)
        refine q_aload_n dX9_passes_72 rfl rfl rfl ?_
        refine q_getr (r := 72) dX9_passes_73 fX9_73 rfl (ty_c hS (by decide) rfl) (hS.2 58 20 72 rfl) ?_
        refine q_iload_n dX9_passes_76 rfl rfl ?_
        refine q_iald (x := nI y) (j := (240 * i + eNd q j)) dX9_passes_77 (ty_c hS (by decide) rfl) (ix_n (by omega) (by omega)) l1 ?_
        refine q_istore dX9_passes_78 (by decide) (ls' := [(5, .int (nI y)), (0, .ref 58), (1, .int (nI i)), (2, .int (nI (240 * i + eNd q j))), (3, .int (nI t)), (4, .int (nI (nf q t)))]) rfl ?_
        refine q_iload dX9_passes_80 rfl ?_
        refine q_if_ltN (tgt := 131) dX9_passes_82 (by decide) (by omega) ?_
        refine q_iload dX9_passes_85 rfl ?_
        refine q_iload dX9_passes_87 rfl ?_
        refine q_icmp_eqN (tgt := 128) dX9_passes_89 (by decide) (by omega) (by omega) (fun c89 => ?_) (fun c89 => ?_)
        · exact absurd c89 (by omega)
        · skip
          refine q_aload_n dX9_passes_92 rfl rfl rfl ?_
          refine q_getr (r := 67) dX9_passes_93 fX9_58 rfl (ty_c hS (by decide) rfl) (hS.2 58 15 67 rfl) ?_
          refine q_sipush (v := nI 240) dX9_passes_96 rfl ?_
          refine q_iload_n dX9_passes_99 rfl rfl ?_
          refine q_imulN dX9_passes_100 ?_
          refine q_iload dX9_passes_101 rfl ?_
          refine q_iaddN dX9_passes_103 ?_
          refine q_iald (x := nI 7) (j := ((240 * i) + y)) dX9_passes_104 (ty_c hS (by decide) rfl) (ix_n (by omega) (by omega)) n1 ?_
          refine q_bipush (v := nI 7) dX9_passes_105 rfl ?_
          refine q_icmp_neN (tgt := 131) dX9_passes_107 (by decide) (by omega) (by omega) (fun h => absurd h (by decide)) (fun _ => ?_)
          refine q_aload_n dX9_passes_110 rfl rfl rfl ?_
          refine q_getr (r := 71) dX9_passes_111 fX9_70 rfl (ty_c hS (by decide) rfl) (hS.2 58 19 71 rfl) ?_
          refine q_sipush (v := nI 240) dX9_passes_114 rfl ?_
          refine q_iload_n dX9_passes_117 rfl rfl ?_
          refine q_imulN dX9_passes_118 ?_
          refine q_iload dX9_passes_119 rfl ?_
          refine q_iaddN dX9_passes_121 ?_
          refine q_iald (x := nI (nf q t1)) (j := ((240 * i) + y)) dX9_passes_122 (ty_c hS (by decide) rfl) (ix_n (by omega) (by omega)) m0 ?_
          refine q_iload dX9_passes_123 rfl ?_
          refine q_icmp_neN (tgt := 131) dX9_passes_125 (by decide) (by omega) (by omega) (fun c125 => ?_) (fun c125 => ?_)
          · skip
            refine q_iconst (v := (-1 : Int32)) dX9_passes_131 rfl ?_
            refine q_ireturn dX9_passes_132 rfl rfl (by omega) (by omega) ?_
            exact hyq
          · exact absurd c125 ey
theorem z9_passes (hS : SK σ) (hi : i < 4) (hr : MR σ i q) (hk : MOK q) {j t : Nat} (hj : j < (psF q).length) (ht : t < (psF q).length) : CT g mX9_passes 0 0 0 [.ref 58, .int (nI i), .int (nI (240 * i + eNd q j)), .int (nI t)] σ (PQ σ (.int (oW (pas q j t)))) := by
  have hk0 := hk
  obtain ⟨hc, hw, hB, hx, h0⟩ := hk
  have hN := NN_le hc
  have h40 := hc.2.1
  have h160 := hc.2.2.1
  obtain ⟨e1, e2, e3, -⟩ := end_w hc hw hj
  have hEN : eNd q j < NN q := by unfold NN eNd; omega
  obtain ⟨-, l0, -⟩ := mrq hr hEN
  have hnt := nf_0 hc ht
  have r65 := hr.1.2.2.2.2.1 t ht
  have rest : ¬ wy q 0 j = some t → ∀ x, WA g mX9_passes 0 0 0 (ZM g (PQ σ (.int (oW (pas q j t)))) 0 0) 0 0 72 [(0, .ref 58), (1, .int (nI i)), (2, .int (nI (240 * i + eNd q j))), (3, .int (nI t)), (4, .int (nI (nf q t))), (5, .int x)] [] σ := fun z x => y9_ps72 hS hi hr hk0 hj ht (by unfold pas; rw [if_neg z]; exact ⟨rfl, rfl⟩)
  cases w0 : wy q 0 j with
  | none =>
    have rest := rest (by rw [w0]; simp)
    rw [ld_wy0 hc hw hj (by omega) w0] at l0
    refine CT.of (by decide) (Nat.le_of_ble_eq_true rfl) ?_
    refine q_aload_n dX9_passes_0 rfl rfl rfl ?_
    refine q_getr (r := 65) dX9_passes_1 fX9_52 rfl (ty_c hS (by decide) rfl) (hS.2 58 13 65 rfl) ?_
    refine q_bipush (v := nI 41) dX9_passes_4 rfl ?_
    refine q_iload_n dX9_passes_6 rfl rfl ?_
    refine q_imulN dX9_passes_7 ?_
    refine q_iload_n dX9_passes_8 rfl rfl ?_
    refine q_iaddN dX9_passes_9 ?_
    refine q_iald (x := nI (nf q t)) (j := ((41 * i) + t)) dX9_passes_10 (ty_c hS (by decide) rfl) (ix_n (by omega) (by omega)) r65 ?_
    refine q_istore dX9_passes_11 (by decide) (ls' := [(4, .int (nI (nf q t))), (0, .ref 58), (1, .int (nI i)), (2, .int (nI (240 * i + eNd q j))), (3, .int (nI t))]) rfl ?_
    refine q_aload_n dX9_passes_13 rfl rfl rfl ?_
    refine q_getr (r := 71) dX9_passes_14 fX9_70 rfl (ty_c hS (by decide) rfl) (hS.2 58 19 71 rfl) ?_
    refine q_iload_n dX9_passes_17 rfl rfl ?_
    refine q_iald (x := (-1)) (j := (240 * i + eNd q j)) dX9_passes_18 (ty_c hS (by decide) rfl) (ix_n (by omega) (by omega)) l0 ?_
    refine q_istore dX9_passes_19 (by decide) (ls' := [(5, .int (-1)), (4, .int (nI (nf q t))), (0, .ref 58), (1, .int (nI i)), (2, .int (nI (240 * i + eNd q j))), (3, .int (nI t))]) rfl ?_
    refine q_iload dX9_passes_21 rfl ?_
    refine q_if_lt1 (tgt := 72) dX9_passes_23 (by decide) (by decide) ?_
    refine q_pk [2, 3, 4, 5, 1, 0] (ls' := [(0, .ref 58), (1, .int (nI i)), (2, .int (nI (240 * i + eNd q j))), (3, .int (nI t)), (4, .int (nI (nf q t))), (5, .int (-1))]) rfl ?_
    exact rest _
  | some t1 =>
    obtain ⟨ht1, y, hy, hyN, hyc⟩ := hop hc hw hB hj (by omega) w0
    rw [hy] at l0
    have hnt1 := nf_0 hc ht1
    have rest : t1 ≠ t → ∀ x, WA g mX9_passes 0 0 0 (ZM g (PQ σ (.int (oW (pas q j t)))) 0 0) 0 0 72 [(0, .ref 58), (1, .int (nI i)), (2, .int (nI (240 * i + eNd q j))), (3, .int (nI t)), (4, .int (nI (nf q t))), (5, .int x)] [] σ := fun z x => rest (fun y => by rw [w0] at y; exact z (Option.some.inj y)) x
    have hyq : t1 = t → PQ σ (.int (oW (pas q j t))) (some (.int (nI y))) σ := fun z => by
      unfold pas
      rw [w0, if_pos (by rw [z]), hy]; exact ⟨rfl, rfl⟩
    obtain ⟨n1, m0, -⟩ := mrq hr hyN
    rcases hyc with ⟨y1, y2⟩ | ⟨y1, y2⟩
    · have hk7 : rK (rg q y) ≤ 7 := by
        rw [show rg q y = rr q y from if_pos y2]; have := (st_w hw y2).1; omega
      have h7 : rK (rg q y) ≠ 7 := fun z => by have := (rg_7 hw hyN).mp z; omega
      by_cases e : t1 = t
      · have hyq := hyq e
        have ey : y = nf q t := by rw [← e]; exact y1
        refine CT.of (by decide) (Nat.le_of_ble_eq_true rfl) ?_
        refine q_aload_n dX9_passes_0 rfl rfl rfl ?_
        refine q_getr (r := 65) dX9_passes_1 fX9_52 rfl (ty_c hS (by decide) rfl) (hS.2 58 13 65 rfl) ?_
        refine q_bipush (v := nI 41) dX9_passes_4 rfl ?_
        refine q_iload_n dX9_passes_6 rfl rfl ?_
        refine q_imulN dX9_passes_7 ?_
        refine q_iload_n dX9_passes_8 rfl rfl ?_
        refine q_iaddN dX9_passes_9 ?_
        refine q_iald (x := nI (nf q t)) (j := ((41 * i) + t)) dX9_passes_10 (ty_c hS (by decide) rfl) (ix_n (by omega) (by omega)) r65 ?_
        refine q_istore dX9_passes_11 (by decide) (ls' := [(4, .int (nI (nf q t))), (0, .ref 58), (1, .int (nI i)), (2, .int (nI (240 * i + eNd q j))), (3, .int (nI t))]) rfl ?_
        refine q_aload_n dX9_passes_13 rfl rfl rfl ?_
        refine q_getr (r := 71) dX9_passes_14 fX9_70 rfl (ty_c hS (by decide) rfl) (hS.2 58 19 71 rfl) ?_
        refine q_iload_n dX9_passes_17 rfl rfl ?_
        refine q_iald (x := nI y) (j := (240 * i + eNd q j)) dX9_passes_18 (ty_c hS (by decide) rfl) (ix_n (by omega) (by omega)) l0 ?_
        refine q_istore dX9_passes_19 (by decide) (ls' := [(5, .int (nI y)), (4, .int (nI (nf q t))), (0, .ref 58), (1, .int (nI i)), (2, .int (nI (240 * i + eNd q j))), (3, .int (nI t))]) rfl ?_
        refine q_iload dX9_passes_21 rfl ?_
        refine q_if_ltN (tgt := 72) dX9_passes_23 (by decide) (by omega) ?_
        refine q_iload dX9_passes_26 rfl ?_
        refine q_iload dX9_passes_28 rfl ?_
        refine q_icmp_eqN (tgt := 69) dX9_passes_30 (by decide) (by omega) (by omega) (fun c30 => ?_) (fun c30 => ?_)
        · skip
          refine q_iload dX9_passes_69 rfl ?_
          refine q_ireturn dX9_passes_71 rfl rfl (by omega) (by omega) ?_
          exact hyq
        · exact absurd ey c30
      · have ey : y ≠ nf q t := fun z => e (nf_ij hc ht1 ht (by omega))
        refine CT.of (by decide) (Nat.le_of_ble_eq_true rfl) ?_
        refine q_aload_n dX9_passes_0 rfl rfl rfl ?_
        refine q_getr (r := 65) dX9_passes_1 fX9_52 rfl (ty_c hS (by decide) rfl) (hS.2 58 13 65 rfl) ?_
        refine q_bipush (v := nI 41) dX9_passes_4 rfl ?_
        refine q_iload_n dX9_passes_6 rfl rfl ?_
        refine q_imulN dX9_passes_7 ?_
        refine q_iload_n dX9_passes_8 rfl rfl ?_
        refine q_iaddN dX9_passes_9 ?_
        refine q_iald (x := nI (nf q t)) (j := ((41 * i) + t)) dX9_passes_10 (ty_c hS (by decide) rfl) (ix_n (by omega) (by omega)) r65 ?_
        refine q_istore dX9_passes_11 (by decide) (ls' := [(4, .int (nI (nf q t))), (0, .ref 58), (1, .int (nI i)), (2, .int (nI (240 * i + eNd q j))), (3, .int (nI t))]) rfl ?_
        refine q_aload_n dX9_passes_13 rfl rfl rfl ?_
        refine q_getr (r := 71) dX9_passes_14 fX9_70 rfl (ty_c hS (by decide) rfl) (hS.2 58 19 71 rfl) ?_
        refine q_iload_n dX9_passes_17 rfl rfl ?_
        refine q_iald (x := nI y) (j := (240 * i + eNd q j)) dX9_passes_18 (ty_c hS (by decide) rfl) (ix_n (by omega) (by omega)) l0 ?_
        refine q_istore dX9_passes_19 (by decide) (ls' := [(5, .int (nI y)), (4, .int (nI (nf q t))), (0, .ref 58), (1, .int (nI i)), (2, .int (nI (240 * i + eNd q j))), (3, .int (nI t))]) rfl ?_
        refine q_iload dX9_passes_21 rfl ?_
        refine q_if_ltN (tgt := 72) dX9_passes_23 (by decide) (by omega) ?_
        refine q_iload dX9_passes_26 rfl ?_
        refine q_iload dX9_passes_28 rfl ?_
        refine q_icmp_eqN (tgt := 69) dX9_passes_30 (by decide) (by omega) (by omega) (fun c30 => ?_) (fun c30 => ?_)
        · exact absurd c30 ey
        · skip
          refine q_aload_n dX9_passes_33 rfl rfl rfl ?_
          refine q_getr (r := 67) dX9_passes_34 fX9_58 rfl (ty_c hS (by decide) rfl) (hS.2 58 15 67 rfl) ?_
          refine q_sipush (v := nI 240) dX9_passes_37 rfl ?_
          refine q_iload_n dX9_passes_40 rfl rfl ?_
          refine q_imulN dX9_passes_41 ?_
          refine q_iload dX9_passes_42 rfl ?_
          refine q_iaddN dX9_passes_44 ?_
          refine q_iald (x := nI (rK (rg q y))) (j := ((240 * i) + y)) dX9_passes_45 (ty_c hS (by decide) rfl) (ix_n (by omega) (by omega)) n1 ?_
          refine q_bipush (v := nI 7) dX9_passes_46 rfl ?_
          refine q_icmp_neN (tgt := 72) dX9_passes_48 (by decide) (by omega) (by omega) (fun c48 => ?_) (fun c48 => ?_)
          · skip
            refine q_pk [2, 3, 4, 5, 1, 0] (ls' := [(0, .ref 58), (1, .int (nI i)), (2, .int (nI (240 * i + eNd q j))), (3, .int (nI t)), (4, .int (nI (nf q t))), (5, .int (nI y))]) rfl ?_
            exact rest e _
          · exact absurd c48 h7
    · have h7 : rK (rg q y) = 7 := (rg_7 hw hyN).mpr y1
      rw [h7] at n1
      rw [y2] at m0
      by_cases e : t1 = t
      · have hyq := hyq e
        have ey : nf q t1 = nf q t := by rw [e]
        refine CT.of (by decide) (Nat.le_of_ble_eq_true rfl) ?_
        refine q_aload_n dX9_passes_0 rfl rfl rfl ?_
        refine q_getr (r := 65) dX9_passes_1 fX9_52 rfl (ty_c hS (by decide) rfl) (hS.2 58 13 65 rfl) ?_
        refine q_bipush (v := nI 41) dX9_passes_4 rfl ?_
        refine q_iload_n dX9_passes_6 rfl rfl ?_
        refine q_imulN dX9_passes_7 ?_
        refine q_iload_n dX9_passes_8 rfl rfl ?_
        refine q_iaddN dX9_passes_9 ?_
        refine q_iald (x := nI (nf q t)) (j := ((41 * i) + t)) dX9_passes_10 (ty_c hS (by decide) rfl) (ix_n (by omega) (by omega)) r65 ?_
        refine q_istore dX9_passes_11 (by decide) (ls' := [(4, .int (nI (nf q t))), (0, .ref 58), (1, .int (nI i)), (2, .int (nI (240 * i + eNd q j))), (3, .int (nI t))]) rfl ?_
        refine q_aload_n dX9_passes_13 rfl rfl rfl ?_
        refine q_getr (r := 71) dX9_passes_14 fX9_70 rfl (ty_c hS (by decide) rfl) (hS.2 58 19 71 rfl) ?_
        refine q_iload_n dX9_passes_17 rfl rfl ?_
        refine q_iald (x := nI y) (j := (240 * i + eNd q j)) dX9_passes_18 (ty_c hS (by decide) rfl) (ix_n (by omega) (by omega)) l0 ?_
        refine q_istore dX9_passes_19 (by decide) (ls' := [(5, .int (nI y)), (4, .int (nI (nf q t))), (0, .ref 58), (1, .int (nI i)), (2, .int (nI (240 * i + eNd q j))), (3, .int (nI t))]) rfl ?_
        refine q_iload dX9_passes_21 rfl ?_
        refine q_if_ltN (tgt := 72) dX9_passes_23 (by decide) (by omega) ?_
        refine q_iload dX9_passes_26 rfl ?_
        refine q_iload dX9_passes_28 rfl ?_
        refine q_icmp_eqN (tgt := 69) dX9_passes_30 (by decide) (by omega) (by omega) (fun c30 => ?_) (fun c30 => ?_)
        · exact absurd c30 (by omega)
        · skip
          refine q_aload_n dX9_passes_33 rfl rfl rfl ?_
          refine q_getr (r := 67) dX9_passes_34 fX9_58 rfl (ty_c hS (by decide) rfl) (hS.2 58 15 67 rfl) ?_
          refine q_sipush (v := nI 240) dX9_passes_37 rfl ?_
          refine q_iload_n dX9_passes_40 rfl rfl ?_
          refine q_imulN dX9_passes_41 ?_
          refine q_iload dX9_passes_42 rfl ?_
          refine q_iaddN dX9_passes_44 ?_
          refine q_iald (x := nI 7) (j := ((240 * i) + y)) dX9_passes_45 (ty_c hS (by decide) rfl) (ix_n (by omega) (by omega)) n1 ?_
          refine q_bipush (v := nI 7) dX9_passes_46 rfl ?_
          refine q_icmp_neN (tgt := 72) dX9_passes_48 (by decide) (by omega) (by omega) (fun h => absurd h (by decide)) (fun _ => ?_)
          refine q_aload_n dX9_passes_51 rfl rfl rfl ?_
          refine q_getr (r := 71) dX9_passes_52 fX9_70 rfl (ty_c hS (by decide) rfl) (hS.2 58 19 71 rfl) ?_
          refine q_sipush (v := nI 240) dX9_passes_55 rfl ?_
          refine q_iload_n dX9_passes_58 rfl rfl ?_
          refine q_imulN dX9_passes_59 ?_
          refine q_iload dX9_passes_60 rfl ?_
          refine q_iaddN dX9_passes_62 ?_
          refine q_iald (x := nI (nf q t1)) (j := ((240 * i) + y)) dX9_passes_63 (ty_c hS (by decide) rfl) (ix_n (by omega) (by omega)) m0 ?_
          refine q_iload dX9_passes_64 rfl ?_
          refine q_icmp_neN (tgt := 72) dX9_passes_66 (by decide) (by omega) (by omega) (fun c66 => ?_) (fun c66 => ?_)
          · exact absurd ey c66
          · skip
            refine q_iload dX9_passes_69 rfl ?_
            refine q_ireturn dX9_passes_71 rfl rfl (by omega) (by omega) ?_
            exact hyq
      · have ey : nf q t1 ≠ nf q t := fun z => e (nf_ij hc ht1 ht z)
        refine CT.of (by decide) (Nat.le_of_ble_eq_true rfl) ?_
        refine q_aload_n dX9_passes_0 rfl rfl rfl ?_
        refine q_getr (r := 65) dX9_passes_1 fX9_52 rfl (ty_c hS (by decide) rfl) (hS.2 58 13 65 rfl) ?_
        refine q_bipush (v := nI 41) dX9_passes_4 rfl ?_
        refine q_iload_n dX9_passes_6 rfl rfl ?_
        refine q_imulN dX9_passes_7 ?_
        refine q_iload_n dX9_passes_8 rfl rfl ?_
        refine q_iaddN dX9_passes_9 ?_
        refine q_iald (x := nI (nf q t)) (j := ((41 * i) + t)) dX9_passes_10 (ty_c hS (by decide) rfl) (ix_n (by omega) (by omega)) r65 ?_
        refine q_istore dX9_passes_11 (by decide) (ls' := [(4, .int (nI (nf q t))), (0, .ref 58), (1, .int (nI i)), (2, .int (nI (240 * i + eNd q j))), (3, .int (nI t))]) rfl ?_
        refine q_aload_n dX9_passes_13 rfl rfl rfl ?_
        refine q_getr (r := 71) dX9_passes_14 fX9_70 rfl (ty_c hS (by decide) rfl) (hS.2 58 19 71 rfl) ?_
        refine q_iload_n dX9_passes_17 rfl rfl ?_
        refine q_iald (x := nI y) (j := (240 * i + eNd q j)) dX9_passes_18 (ty_c hS (by decide) rfl) (ix_n (by omega) (by omega)) l0 ?_
        refine q_istore dX9_passes_19 (by decide) (ls' := [(5, .int (nI y)), (4, .int (nI (nf q t))), (0, .ref 58), (1, .int (nI i)), (2, .int (nI (240 * i + eNd q j))), (3, .int (nI t))]) rfl ?_
        refine q_iload dX9_passes_21 rfl ?_
        refine q_if_ltN (tgt := 72) dX9_passes_23 (by decide) (by omega) ?_
        refine q_iload dX9_passes_26 rfl ?_
        refine q_iload dX9_passes_28 rfl ?_
        refine q_icmp_eqN (tgt := 69) dX9_passes_30 (by decide) (by omega) (by omega) (fun c30 => ?_) (fun c30 => ?_)
        · exact absurd c30 (by omega)
        · skip
          refine q_aload_n dX9_passes_33 rfl rfl rfl ?_
          refine q_getr (r := 67) dX9_passes_34 fX9_58 rfl (ty_c hS (by decide) rfl) (hS.2 58 15 67 rfl) ?_
          refine q_sipush (v := nI 240) dX9_passes_37 rfl ?_
          refine q_iload_n dX9_passes_40 rfl rfl ?_
          refine q_imulN dX9_passes_41 ?_
          refine q_iload dX9_passes_42 rfl ?_
          refine q_iaddN dX9_passes_44 ?_
          refine q_iald (x := nI 7) (j := ((240 * i) + y)) dX9_passes_45 (ty_c hS (by decide) rfl) (ix_n (by omega) (by omega)) n1 ?_
          refine q_bipush (v := nI 7) dX9_passes_46 rfl ?_
          refine q_icmp_neN (tgt := 72) dX9_passes_48 (by decide) (by omega) (by omega) (fun h => absurd h (by decide)) (fun _ => ?_)
          refine q_aload_n dX9_passes_51 rfl rfl rfl ?_
          refine q_getr (r := 71) dX9_passes_52 fX9_70 rfl (ty_c hS (by decide) rfl) (hS.2 58 19 71 rfl) ?_
          refine q_sipush (v := nI 240) dX9_passes_55 rfl ?_
          refine q_iload_n dX9_passes_58 rfl rfl ?_
          refine q_imulN dX9_passes_59 ?_
          refine q_iload dX9_passes_60 rfl ?_
          refine q_iaddN dX9_passes_62 ?_
          refine q_iald (x := nI (nf q t1)) (j := ((240 * i) + y)) dX9_passes_63 (ty_c hS (by decide) rfl) (ix_n (by omega) (by omega)) m0 ?_
          refine q_iload dX9_passes_64 rfl ?_
          refine q_icmp_neN (tgt := 72) dX9_passes_66 (by decide) (by omega) (by omega) (fun c66 => ?_) (fun c66 => ?_)
          · skip
            refine q_pk [2, 3, 4, 5, 1, 0] (ls' := [(0, .ref 58), (1, .int (nI i)), (2, .int (nI (240 * i + eNd q j))), (3, .int (nI t)), (4, .int (nI (nf q t))), (5, .int (nI y))]) rfl ?_
            exact rest e _
          · exact absurd c66 ey
theorem z9_worksAt (hS : SK σ) (hi : i < 4) (hr : MR σ i q) (hk : MOK q) {l m k : Nat} (hl : l < 3) (hm : m < (psM q).length) (hkN : k < NN q) : CT g mX9_worksAt 2 0 0 [.ref 58, .int (nI i), .int (nI l), .int (nI m), .int (nI k)] σ (PQ σ (.int (nI (cwB q l m k)))) := by
  have hN := NN_le hk.1
  have r70 : sI σ 70 (240 * i + k) = rS (rg q k) := (hr.1.2.2.2.2.2.1 k hkN).1.2.2.2.1
  have key : ∀ a b : Nat, a = (if stA q l m k = true then 1 else 0) → b = (if (wk q m k && !tkn q l m k) = true then 1 else 0) → nI (a + b) = nI (cwB q l m k) := fun a b h1 h2 => by rw [h1, h2]; rfl
  refine CT.of (by decide) (Nat.le_of_ble_eq_true rfl) ?_
  refine q_aload_n dX9_worksAt_0 rfl rfl rfl ?_
  refine q_iload_n dX9_worksAt_1 rfl rfl ?_
  refine q_iload_n dX9_worksAt_2 rfl rfl ?_
  refine q_iload_n dX9_worksAt_3 rfl rfl ?_
  refine q_iload dX9_worksAt_4 rfl ?_
  refine q_callV (As := [.int (nI i), .int (nI l), .int (nI m), .int (nI k)]) (rest := []) dX9_worksAt_6 vX9_382 (ty_c hS (by decide) rfl) ⟨by decide, rfl⟩ (z9_isSet hS hi hr hk hl hm hkN) rfl rfl (Nat.le_of_ble_eq_true rfl) (by omega) (by omega) (by omega) (k_p ?_)
  refine q_if_eqB (tgt := 16) dX9_worksAt_9 (by decide) (fun c9 => ?_) (fun c9 => ?_)
  · have k9 := (if_neg (by rw [c9]; decide) : (if stA q l m k = true then 1 else 0) = 0).symm
    refine q_iconst (v := nI 0) dX9_worksAt_16 rfl ?_
    refine q_aload_n dX9_worksAt_17 rfl rfl rfl ?_
    refine q_getr (r := 70) dX9_worksAt_18 fX9_67 rfl (ty_c hS (by decide) rfl) (hS.2 58 18 70 rfl) ?_
    refine q_sipush (v := nI 240) dX9_worksAt_21 rfl ?_
    refine q_iload_n dX9_worksAt_24 rfl rfl ?_
    refine q_imulN dX9_worksAt_25 ?_
    refine q_iload dX9_worksAt_26 rfl ?_
    refine q_iaddN dX9_worksAt_28 ?_
    refine q_iald (x := rS (rg q k)) (j := ((240 * i) + k)) dX9_worksAt_29 (ty_c hS (by decide) rfl) (ix_n (by omega) (by omega)) r70 ?_
    refine q_iload_n dX9_worksAt_30 rfl rfl ?_
    refine q_icmp_ne (tgt := 50) dX9_worksAt_31 (by decide) (fun c31 => ?_) (fun c31 => ?_)
    · have w31 : wk q m k = false := decide_eq_false c31; have k31 : 0 = (if (wk q m k && !tkn q l m k) = true then 1 else 0) := by rw [w31]; rfl
      refine q_iconst (v := nI 0) dX9_worksAt_50 rfl ?_
      refine q_iaddN dX9_worksAt_51 ?_
      refine q_ireturn dX9_worksAt_52 rfl rfl (by omega) (by omega) ?_
      exact ⟨rfl, congrArg (fun n => some (Value.int n)) (key _ _ k9 k31)⟩
    · have w31 : wk q m k = true := decide_eq_true c31
      refine q_aload_n dX9_worksAt_34 rfl rfl rfl ?_
      refine q_iload_n dX9_worksAt_35 rfl rfl ?_
      refine q_iload_n dX9_worksAt_36 rfl rfl ?_
      refine q_iload_n dX9_worksAt_37 rfl rfl ?_
      refine q_iload dX9_worksAt_38 rfl ?_
      refine q_callV (As := [.int (nI i), .int (nI l), .int (nI m), .int (nI k)]) (rest := [.int (nI 0)]) dX9_worksAt_40 vX9_385 (ty_c hS (by decide) rfl) ⟨by decide, rfl⟩ (z9_isTaken hS hi hr hk hl hm hkN) rfl rfl (Nat.le_of_ble_eq_true rfl) (by omega) (by omega) (by omega) (k_p ?_)
      refine q_if_neB (tgt := 50) dX9_worksAt_43 (by decide) (fun c43 => ?_) (fun c43 => ?_)
      · have k31 : 0 = (if (wk q m k && !tkn q l m k) = true then 1 else 0) := by rw [w31, c43]; rfl
        refine q_iconst (v := nI 0) dX9_worksAt_50 rfl ?_
        refine q_iaddN dX9_worksAt_51 ?_
        refine q_ireturn dX9_worksAt_52 rfl rfl (by omega) (by omega) ?_
        exact ⟨rfl, congrArg (fun n => some (Value.int n)) (key _ _ k9 k31)⟩
      · have k31 : 1 = (if (wk q m k && !tkn q l m k) = true then 1 else 0) := by rw [w31, c43]; rfl
        refine q_iconst (v := nI 1) dX9_worksAt_46 rfl ?_
        refine q_goto (tgt := 51) dX9_worksAt_47 (by decide) ?_
        refine q_iaddN dX9_worksAt_51 ?_
        refine q_ireturn dX9_worksAt_52 rfl rfl (by omega) (by omega) ?_
        exact ⟨rfl, congrArg (fun n => some (Value.int n)) (key _ _ k9 k31)⟩
  · have k9 := (if_pos c9 : (if stA q l m k = true then 1 else 0) = 1).symm
    refine q_iconst (v := nI 1) dX9_worksAt_12 rfl ?_
    refine q_goto (tgt := 17) dX9_worksAt_13 (by decide) ?_
    refine q_aload_n dX9_worksAt_17 rfl rfl rfl ?_
    refine q_getr (r := 70) dX9_worksAt_18 fX9_67 rfl (ty_c hS (by decide) rfl) (hS.2 58 18 70 rfl) ?_
    refine q_sipush (v := nI 240) dX9_worksAt_21 rfl ?_
    refine q_iload_n dX9_worksAt_24 rfl rfl ?_
    refine q_imulN dX9_worksAt_25 ?_
    refine q_iload dX9_worksAt_26 rfl ?_
    refine q_iaddN dX9_worksAt_28 ?_
    refine q_iald (x := rS (rg q k)) (j := ((240 * i) + k)) dX9_worksAt_29 (ty_c hS (by decide) rfl) (ix_n (by omega) (by omega)) r70 ?_
    refine q_iload_n dX9_worksAt_30 rfl rfl ?_
    refine q_icmp_ne (tgt := 50) dX9_worksAt_31 (by decide) (fun c31 => ?_) (fun c31 => ?_)
    · have w31 : wk q m k = false := decide_eq_false c31; have k31 : 0 = (if (wk q m k && !tkn q l m k) = true then 1 else 0) := by rw [w31]; rfl
      refine q_iconst (v := nI 0) dX9_worksAt_50 rfl ?_
      refine q_iaddN dX9_worksAt_51 ?_
      refine q_ireturn dX9_worksAt_52 rfl rfl (by omega) (by omega) ?_
      exact ⟨rfl, congrArg (fun n => some (Value.int n)) (key _ _ k9 k31)⟩
    · have w31 : wk q m k = true := decide_eq_true c31
      refine q_aload_n dX9_worksAt_34 rfl rfl rfl ?_
      refine q_iload_n dX9_worksAt_35 rfl rfl ?_
      refine q_iload_n dX9_worksAt_36 rfl rfl ?_
      refine q_iload_n dX9_worksAt_37 rfl rfl ?_
      refine q_iload dX9_worksAt_38 rfl ?_
      refine q_callV (As := [.int (nI i), .int (nI l), .int (nI m), .int (nI k)]) (rest := [.int (nI 1)]) dX9_worksAt_40 vX9_385 (ty_c hS (by decide) rfl) ⟨by decide, rfl⟩ (z9_isTaken hS hi hr hk hl hm hkN) rfl rfl (Nat.le_of_ble_eq_true rfl) (by omega) (by omega) (by omega) (k_p ?_)
      refine q_if_neB (tgt := 50) dX9_worksAt_43 (by decide) (fun c43 => ?_) (fun c43 => ?_)
      · have k31 : 0 = (if (wk q m k && !tkn q l m k) = true then 1 else 0) := by rw [w31, c43]; rfl
        refine q_iconst (v := nI 0) dX9_worksAt_50 rfl ?_
        refine q_iaddN dX9_worksAt_51 ?_
        refine q_ireturn dX9_worksAt_52 rfl rfl (by omega) (by omega) ?_
        exact ⟨rfl, congrArg (fun n => some (Value.int n)) (key _ _ k9 k31)⟩
      · have k31 : 1 = (if (wk q m k && !tkn q l m k) = true then 1 else 0) := by rw [w31, c43]; rfl
        refine q_iconst (v := nI 1) dX9_worksAt_46 rfl ?_
        refine q_goto (tgt := 51) dX9_worksAt_47 (by decide) ?_
        refine q_iaddN dX9_worksAt_51 ?_
        refine q_ireturn dX9_worksAt_52 rfl rfl (by omega) (by omega) ?_
        exact ⟨rfl, congrArg (fun n => some (Value.int n)) (key _ _ k9 k31)⟩
/-- the blocks of the WAY: NODES of one -/
theorem y9_wk79 (hS : SK σ) (hi : i < 4) (hr : MR σ i q) (hk : MOK q) {l m : Nat} (hl : l < 3) (hm : m < (psM q).length) {c d j : Nat} (hj : j < (psF q).length) {Z : List Frame → Array Value → State → State → Prop} (K : WA g mX9_works 3 0 0 Z 0 0 106 [(0, .ref 58), (1, .int (nI i)), (2, .int (nI l)), (3, .int (nI m)), (4, .int (nI (c + sgN q l m (nf q j) (nf q (j + 1) - nf q j)))), (5, .int (nI d)), (6, .int (nI j)), (7, .int (nI (eNd q j)))] [] σ) : ∀ (r k : Nat), nf q j + k + r = nf q (j + 1) → WA g mX9_works 3 0 0 Z 0 0 79 [(0, .ref 58), (1, .int (nI i)), (2, .int (nI l)), (3, .int (nI m)), (4, .int (nI (c + sgN q l m (nf q j) k))), (5, .int (nI d)), (6, .int (nI j)), (7, .int (nI (eNd q j))), (8, .int (nI (nf q j + k)))] [] σ := by
  have hN := NN_le hk.1
  obtain ⟨e1, e2, e3, -⟩ := end_w hk.1 hk.2.1 hj
  have hen : eNd q j + 1 = nf q (j + 1) := by unfold eNd; omega
  intro r
  induction r with
  | zero =>
    intro k hkr
    have ek : k = nf q (j + 1) - nf q j := by omega
    rw [← ek] at K
    refine q_iload dX9_works_79 rfl ?_
    refine q_iload dX9_works_81 rfl ?_
    refine q_icmp_gtN (tgt := 106) dX9_works_83 (by decide) (by omega) (by omega) (fun c83 => ?_) (fun c83 => ?_)
    · skip
      refine q_pk [0, 1, 2, 3, 4, 5, 6, 7] (ls' := [(0, .ref 58), (1, .int (nI i)), (2, .int (nI l)), (3, .int (nI m)), (4, .int (nI (c + sgN q l m (nf q j) k))), (5, .int (nI d)), (6, .int (nI j)), (7, .int (nI (eNd q j)))]) rfl ?_
      exact K
    · exact absurd c83 (by omega)
  | succ r ih =>
    intro k hkr
    have hkN : nf q j + k < NN q := by unfold NN; omega
    have I := ih (k + 1) (by omega)
    have e : c + sgN q l m (nf q j) (k + 1) = c + sgN q l m (nf q j) k + cwB q l m (nf q j + k) := by show c + (sgN q l m (nf q j) k + cwB q l m (nf q j + k)) = _; omega
    rw [e] at I
    refine q_iload dX9_works_79 rfl ?_
    refine q_iload dX9_works_81 rfl ?_
    refine q_icmp_gtN (tgt := 106) dX9_works_83 (by decide) (by omega) (by omega) (fun c83 => ?_) (fun c83 => ?_)
    · exact absurd c83 (by omega)
    · skip
      refine q_iload dX9_works_86 rfl ?_
      refine q_aload_n dX9_works_88 rfl rfl rfl ?_
      refine q_iload_n dX9_works_89 rfl rfl ?_
      refine q_iload_n dX9_works_90 rfl rfl ?_
      refine q_iload_n dX9_works_91 rfl rfl ?_
      refine q_iload dX9_works_92 rfl ?_
      refine q_callV (As := [.int (nI i), .int (nI l), .int (nI m), .int (nI (nf q j + k))]) (rest := [.int (nI (c + sgN q l m (nf q j) k))]) dX9_works_94 vX9_412 (ty_c hS (by decide) rfl) ⟨by decide, rfl⟩ (z9_worksAt hS hi hr hk hl hm hkN) rfl rfl (Nat.le_of_ble_eq_true rfl) (by omega) (by omega) (by omega) (k_p ?_)
      refine q_iaddN dX9_works_97 ?_
      refine q_istore dX9_works_98 (by decide) (ls' := [(4, .int (nI ((c + sgN q l m (nf q j) k) + (cwB q l m (nf q j + k))))), (0, .ref 58), (1, .int (nI i)), (2, .int (nI l)), (3, .int (nI m)), (5, .int (nI d)), (6, .int (nI j)), (7, .int (nI (eNd q j))), (8, .int (nI (nf q j + k)))]) rfl ?_
      refine q_iincN (c := 1) dX9_works_100 rfl (by decide) rfl (ls' := [(8, .int (nI (nf q j + k + 1))), (4, .int (nI ((c + sgN q l m (nf q j) k) + (cwB q l m (nf q j + k))))), (0, .ref 58), (1, .int (nI i)), (2, .int (nI l)), (3, .int (nI m)), (5, .int (nI d)), (6, .int (nI j)), (7, .int (nI (eNd q j)))]) rfl ?_
      refine q_goto (tgt := 79) dX9_works_103 (by decide) ?_
      refine q_pk [2, 3, 4, 5, 1, 6, 7, 8, 0] (ls' := [(0, .ref 58), (1, .int (nI i)), (2, .int (nI l)), (3, .int (nI m)), (4, .int (nI ((c + sgN q l m (nf q j) k) + (cwB q l m (nf q j + k))))), (5, .int (nI d)), (6, .int (nI j)), (7, .int (nI (eNd q j))), (8, .int (nI (nf q j + k + 1)))]) rfl ?_
      exact I
theorem y9_wk25 (hS : SK σ) (hi : i < 4) (hr : MR σ i q) (hk : MOK q) {ws : List Nat} (hy : MW σ i q ws) (hwc : WC q ws) {l m : Nat} (hl : l < 3) (hm : m < (psM q).length) : ∀ (r d : Nat), d + r = ws.length → WA g mX9_works 3 0 0 (ZM g (PQ σ (.int (nI (wkN q l m ws ws.length)))) 0 0) 0 0 25 [(0, .ref 58), (1, .int (nI i)), (2, .int (nI l)), (3, .int (nI m)), (4, .int (nI (wkN q l m ws d))), (5, .int (nI d))] [] σ := by
  obtain ⟨y1, y2, y3⟩ := id hy
  have hN := NN_le hk.1
  have h40 := hk.1.2.1
  intro r
  induction r with
  | zero =>
    intro d hd
    have ed : d = ws.length := by omega
    rw [ed]
    refine q_iload dX9_works_25 rfl ?_
    refine q_aload_n dX9_works_27 rfl rfl rfl ?_
    refine q_getr (r := 95) dX9_works_28 fX9_186 rfl (ty_c hS (by decide) rfl) (hS.2 58 57 95 rfl) ?_
    refine q_iload_n dX9_works_31 rfl rfl ?_
    refine q_iald (x := nI ws.length) (j := i) dX9_works_32 (ty_c hS (by decide) rfl) (ix_n (by omega) (by omega)) y1 ?_
    refine q_icmp_geN (tgt := 189) dX9_works_33 (by decide) (by omega) (by omega) (fun c33 => ?_) (fun c33 => ?_)
    · skip
      refine q_iload dX9_works_189 rfl ?_
      refine q_ireturn dX9_works_191 rfl rfl (by omega) (by omega) ?_
      exact ⟨rfl, rfl⟩
    · exact absurd c33 (by omega)
  | succ r ih =>
    intro d hd
    obtain ⟨z1, z2⟩ := y3 d (by omega)
    have I := ih (d + 1) (by omega)
    have eI : wkN q l m ws (d + 1) = wkN q l m ws d + wkI q l m ws d := rfl
    unfold wkI at eI
    generalize hjj : ws.getD d 0 = j at z1 z2 eI
    have r65 := hr.1.2.2.2.2.1 j z2
    obtain ⟨e1, e2, e3, -⟩ := end_w hk.1 hk.2.1 z2
    have hEN : eNd q j < NN q := by unfold NN eNd; omega
    have K : WA g mX9_works 3 0 0 (ZM g (PQ σ (.int (nI (wkN q l m ws ws.length)))) 0 0) 0 0 106 [(0, .ref 58), (1, .int (nI i)), (2, .int (nI l)), (3, .int (nI m)), (4, .int (nI (wkN q l m ws d + sgN q l m (nf q j) (nf q (j + 1) - nf q j)))), (5, .int (nI d)), (6, .int (nI j)), (7, .int (nI (eNd q j)))] [] σ := by
      by_cases hlast : d + 1 < ws.length
      · obtain ⟨z3, z4⟩ := y3 (d + 1) hlast
        rw [if_pos hlast, ← hjj, WC_to hwc hlast] at eI
        rw [hjj] at eI
        have hcon := hwc d hlast
        rw [hjj] at hcon
        generalize ht : ws.getD (d + 1) 0 = t at z3 z4 eI hcon
        have hps : ∃ y, pas q j t = some y ∧ y < NN q := by
          unfold pas
          by_cases c0 : wy q 0 j = some t
          · rw [if_pos c0]
            obtain ⟨-, y, hy, hyN, -⟩ := hop hk.1 hk.2.1 hk.2.2.1 z2 (by omega) c0
            exact ⟨y, hy, hyN⟩
          · rw [if_neg c0, if_pos (hcon.resolve_left c0)]
            obtain ⟨-, y, hy, hyN, -⟩ := hop hk.1 hk.2.1 hk.2.2.1 z2 (by omega) (hcon.resolve_left c0)
            exact ⟨y, hy, hyN⟩
        obtain ⟨y, hy, hyN⟩ := hps
        have ps := z9_passes (g := g) hS hi hr hk z2 z4
        rw [hy] at ps
        rw [hy] at eI
        obtain ⟨n1, -, -⟩ := mrq hr hyN
        have hk7 : rK (rg q y) ≤ 7 := by
          by_cases e : y < (psS q).length
          · rw [show rg q y = rr q y from if_pos e]; have := (st_w hk.2.1 e).1; omega
          · rw [show rg q y = _ from if_neg e]; exact Nat.le_refl _
        by_cases h7 : rK (rg q y) = 7
        · have eI2 : wkN q l m ws (d + 1) = wkN q l m ws d + sgN q l m (nf q j) (nf q (j + 1) - nf q j) + cwB q l m y := by
            rw [eI]
            show _ + (_ + if (psS q).length ≤ y then cwB q l m y else 0) = _
            rw [if_pos ((rg_7 hk.2.1 hyN).mp h7)]; omega
          rw [eI2] at I
          rw [h7] at n1
          refine q_iload dX9_works_106 rfl ?_
          refine q_iconst (v := nI 1) dX9_works_108 rfl ?_
          refine q_iaddN dX9_works_109 ?_
          refine q_aload_n dX9_works_110 rfl rfl rfl ?_
          refine q_getr (r := 95) dX9_works_111 fX9_186 rfl (ty_c hS (by decide) rfl) (hS.2 58 57 95 rfl) ?_
          refine q_iload_n dX9_works_114 rfl rfl ?_
          refine q_iald (x := nI ws.length) (j := i) dX9_works_115 (ty_c hS (by decide) rfl) (ix_n (by omega) (by omega)) y1 ?_
          refine q_icmp_neN (tgt := 122) dX9_works_116 (by decide) (by omega) (by omega) (fun c116 => ?_) (fun c116 => ?_)
          · skip
            refine q_aload_n dX9_works_122 rfl rfl rfl ?_
            refine q_iload_n dX9_works_123 rfl rfl ?_
            refine q_sipush (v := nI 240) dX9_works_124 rfl ?_
            refine q_iload_n dX9_works_127 rfl rfl ?_
            refine q_imulN dX9_works_128 ?_
            refine q_iload dX9_works_129 rfl ?_
            refine q_iaddN dX9_works_131 ?_
            refine q_aload_n dX9_works_132 rfl rfl rfl ?_
            refine q_getr (r := 96) dX9_works_133 fX9_189 rfl (ty_c hS (by decide) rfl) (hS.2 58 58 96 rfl) ?_
            refine q_bipush (v := nI 60) dX9_works_136 rfl ?_
            refine q_iload_n dX9_works_138 rfl rfl ?_
            refine q_imulN dX9_works_139 ?_
            refine q_iload dX9_works_140 rfl ?_
            refine q_iaddN dX9_works_142 ?_
            refine q_iconst (v := nI 1) dX9_works_143 rfl ?_
            refine q_iaddN dX9_works_144 ?_
            refine q_iald (x := nI t) (j := (((60 * i) + d) + 1)) dX9_works_145 (ty_c hS (by decide) rfl) (ix_n (by omega) (by omega)) z3 ?_
            refine q_callV (As := [.int (nI i), .int (nI ((240 * i) + (eNd q j))), .int (nI t)]) (rest := []) dX9_works_146 vX9_408 (ty_c hS (by decide) rfl) ⟨by decide, rfl⟩ (ps) rfl rfl (Nat.le_of_ble_eq_true rfl) (by omega) (by omega) (by omega) (k_p ?_)
            refine q_istore dX9_works_149 (by decide) (ls' := [(8, .int (nI y)), (0, .ref 58), (1, .int (nI i)), (2, .int (nI l)), (3, .int (nI m)), (4, .int (nI (wkN q l m ws d + sgN q l m (nf q j) (nf q (j + 1) - nf q j)))), (5, .int (nI d)), (6, .int (nI j)), (7, .int (nI (eNd q j)))]) rfl ?_
            refine q_aload_n dX9_works_151 rfl rfl rfl ?_
            refine q_getr (r := 67) dX9_works_152 fX9_58 rfl (ty_c hS (by decide) rfl) (hS.2 58 15 67 rfl) ?_
            refine q_sipush (v := nI 240) dX9_works_155 rfl ?_
            refine q_iload_n dX9_works_158 rfl rfl ?_
            refine q_imulN dX9_works_159 ?_
            refine q_iload dX9_works_160 rfl ?_
            refine q_iaddN dX9_works_162 ?_
            refine q_iald (x := nI 7) (j := ((240 * i) + y)) dX9_works_163 (ty_c hS (by decide) rfl) (ix_n (by omega) (by omega)) n1 ?_
            refine q_bipush (v := nI 7) dX9_works_164 rfl ?_
            refine q_icmp_neN (tgt := 183) dX9_works_166 (by decide) (by omega) (by omega) (fun h => absurd h (by decide)) (fun _ => ?_)
            refine q_iload dX9_works_169 rfl ?_
            refine q_aload_n dX9_works_171 rfl rfl rfl ?_
            refine q_iload_n dX9_works_172 rfl rfl ?_
            refine q_iload_n dX9_works_173 rfl rfl ?_
            refine q_iload_n dX9_works_174 rfl rfl ?_
            refine q_iload dX9_works_175 rfl ?_
            refine q_callV (As := [.int (nI i), .int (nI l), .int (nI m), .int (nI y)]) (rest := [.int (nI (wkN q l m ws d + sgN q l m (nf q j) (nf q (j + 1) - nf q j)))]) dX9_works_177 vX9_412 (ty_c hS (by decide) rfl) ⟨by decide, rfl⟩ (z9_worksAt hS hi hr hk hl hm hyN) rfl rfl (Nat.le_of_ble_eq_true rfl) (by omega) (by omega) (by omega) (k_p ?_)
            refine q_iaddN dX9_works_180 ?_
            refine q_istore dX9_works_181 (by decide) (ls' := [(4, .int (nI ((wkN q l m ws d + sgN q l m (nf q j) (nf q (j + 1) - nf q j)) + (cwB q l m y)))), (8, .int (nI y)), (0, .ref 58), (1, .int (nI i)), (2, .int (nI l)), (3, .int (nI m)), (5, .int (nI d)), (6, .int (nI j)), (7, .int (nI (eNd q j)))]) rfl ?_
            refine q_iincN (c := 1) dX9_works_183 rfl (by decide) rfl (ls' := [(5, .int (nI (d + 1))), (4, .int (nI ((wkN q l m ws d + sgN q l m (nf q j) (nf q (j + 1) - nf q j)) + (cwB q l m y)))), (8, .int (nI y)), (0, .ref 58), (1, .int (nI i)), (2, .int (nI l)), (3, .int (nI m)), (6, .int (nI j)), (7, .int (nI (eNd q j)))]) rfl ?_
            refine q_goto (tgt := 25) dX9_works_186 (by decide) ?_
            refine q_pk [3, 4, 5, 6, 1, 0] (ls' := [(0, .ref 58), (1, .int (nI i)), (2, .int (nI l)), (3, .int (nI m)), (4, .int (nI ((wkN q l m ws d + sgN q l m (nf q j) (nf q (j + 1) - nf q j)) + (cwB q l m y)))), (5, .int (nI (d + 1)))]) rfl ?_
            exact I
          · exact absurd c116 (by omega)
        · have eI2 : wkN q l m ws (d + 1) = wkN q l m ws d + sgN q l m (nf q j) (nf q (j + 1) - nf q j) := by
            rw [eI]
            show _ + (_ + if (psS q).length ≤ y then cwB q l m y else 0) = _
            rw [if_neg (fun z => h7 ((rg_7 hk.2.1 hyN).mpr z))]; omega
          rw [eI2] at I
          refine q_iload dX9_works_106 rfl ?_
          refine q_iconst (v := nI 1) dX9_works_108 rfl ?_
          refine q_iaddN dX9_works_109 ?_
          refine q_aload_n dX9_works_110 rfl rfl rfl ?_
          refine q_getr (r := 95) dX9_works_111 fX9_186 rfl (ty_c hS (by decide) rfl) (hS.2 58 57 95 rfl) ?_
          refine q_iload_n dX9_works_114 rfl rfl ?_
          refine q_iald (x := nI ws.length) (j := i) dX9_works_115 (ty_c hS (by decide) rfl) (ix_n (by omega) (by omega)) y1 ?_
          refine q_icmp_neN (tgt := 122) dX9_works_116 (by decide) (by omega) (by omega) (fun c116 => ?_) (fun c116 => ?_)
          · skip
            refine q_aload_n dX9_works_122 rfl rfl rfl ?_
            refine q_iload_n dX9_works_123 rfl rfl ?_
            refine q_sipush (v := nI 240) dX9_works_124 rfl ?_
            refine q_iload_n dX9_works_127 rfl rfl ?_
            refine q_imulN dX9_works_128 ?_
            refine q_iload dX9_works_129 rfl ?_
            refine q_iaddN dX9_works_131 ?_
            refine q_aload_n dX9_works_132 rfl rfl rfl ?_
            refine q_getr (r := 96) dX9_works_133 fX9_189 rfl (ty_c hS (by decide) rfl) (hS.2 58 58 96 rfl) ?_
            refine q_bipush (v := nI 60) dX9_works_136 rfl ?_
            refine q_iload_n dX9_works_138 rfl rfl ?_
            refine q_imulN dX9_works_139 ?_
            refine q_iload dX9_works_140 rfl ?_
            refine q_iaddN dX9_works_142 ?_
            refine q_iconst (v := nI 1) dX9_works_143 rfl ?_
            refine q_iaddN dX9_works_144 ?_
            refine q_iald (x := nI t) (j := (((60 * i) + d) + 1)) dX9_works_145 (ty_c hS (by decide) rfl) (ix_n (by omega) (by omega)) z3 ?_
            refine q_callV (As := [.int (nI i), .int (nI ((240 * i) + (eNd q j))), .int (nI t)]) (rest := []) dX9_works_146 vX9_408 (ty_c hS (by decide) rfl) ⟨by decide, rfl⟩ (ps) rfl rfl (Nat.le_of_ble_eq_true rfl) (by omega) (by omega) (by omega) (k_p ?_)
            refine q_istore dX9_works_149 (by decide) (ls' := [(8, .int (nI y)), (0, .ref 58), (1, .int (nI i)), (2, .int (nI l)), (3, .int (nI m)), (4, .int (nI (wkN q l m ws d + sgN q l m (nf q j) (nf q (j + 1) - nf q j)))), (5, .int (nI d)), (6, .int (nI j)), (7, .int (nI (eNd q j)))]) rfl ?_
            refine q_aload_n dX9_works_151 rfl rfl rfl ?_
            refine q_getr (r := 67) dX9_works_152 fX9_58 rfl (ty_c hS (by decide) rfl) (hS.2 58 15 67 rfl) ?_
            refine q_sipush (v := nI 240) dX9_works_155 rfl ?_
            refine q_iload_n dX9_works_158 rfl rfl ?_
            refine q_imulN dX9_works_159 ?_
            refine q_iload dX9_works_160 rfl ?_
            refine q_iaddN dX9_works_162 ?_
            refine q_iald (x := nI (rK (rg q y))) (j := ((240 * i) + y)) dX9_works_163 (ty_c hS (by decide) rfl) (ix_n (by omega) (by omega)) n1 ?_
            refine q_bipush (v := nI 7) dX9_works_164 rfl ?_
            refine q_icmp_neN (tgt := 183) dX9_works_166 (by decide) (by omega) (by omega) (fun c166 => ?_) (fun c166 => ?_)
            · skip
              refine q_iincN (c := 1) dX9_works_183 rfl (by decide) rfl (ls' := [(5, .int (nI (d + 1))), (8, .int (nI y)), (0, .ref 58), (1, .int (nI i)), (2, .int (nI l)), (3, .int (nI m)), (4, .int (nI (wkN q l m ws d + sgN q l m (nf q j) (nf q (j + 1) - nf q j)))), (6, .int (nI j)), (7, .int (nI (eNd q j)))]) rfl ?_
              refine q_goto (tgt := 25) dX9_works_186 (by decide) ?_
              refine q_pk [2, 3, 4, 5, 6, 0] (ls' := [(0, .ref 58), (1, .int (nI i)), (2, .int (nI l)), (3, .int (nI m)), (4, .int (nI (wkN q l m ws d + sgN q l m (nf q j) (nf q (j + 1) - nf q j)))), (5, .int (nI (d + 1)))]) rfl ?_
              exact I
            · exact absurd c166 h7
          · exact absurd c116 (by omega)
      · rw [if_neg hlast, Nat.add_zero] at eI
        rw [eI] at I
        refine q_iload dX9_works_106 rfl ?_
        refine q_iconst (v := nI 1) dX9_works_108 rfl ?_
        refine q_iaddN dX9_works_109 ?_
        refine q_aload_n dX9_works_110 rfl rfl rfl ?_
        refine q_getr (r := 95) dX9_works_111 fX9_186 rfl (ty_c hS (by decide) rfl) (hS.2 58 57 95 rfl) ?_
        refine q_iload_n dX9_works_114 rfl rfl ?_
        refine q_iald (x := nI ws.length) (j := i) dX9_works_115 (ty_c hS (by decide) rfl) (ix_n (by omega) (by omega)) y1 ?_
        refine q_icmp_neN (tgt := 122) dX9_works_116 (by decide) (by omega) (by omega) (fun c116 => ?_) (fun c116 => ?_)
        · exact absurd c116 (by omega)
        · skip
          refine q_goto (tgt := 183) dX9_works_119 (by decide) ?_
          refine q_iincN (c := 1) dX9_works_183 rfl (by decide) rfl (ls' := [(5, .int (nI (d + 1))), (0, .ref 58), (1, .int (nI i)), (2, .int (nI l)), (3, .int (nI m)), (4, .int (nI (wkN q l m ws d + sgN q l m (nf q j) (nf q (j + 1) - nf q j)))), (6, .int (nI j)), (7, .int (nI (eNd q j)))]) rfl ?_
          refine q_goto (tgt := 25) dX9_works_186 (by decide) ?_
          refine q_pk [1, 2, 3, 4, 5, 0] (ls' := [(0, .ref 58), (1, .int (nI i)), (2, .int (nI l)), (3, .int (nI m)), (4, .int (nI (wkN q l m ws d + sgN q l m (nf q j) (nf q (j + 1) - nf q j)))), (5, .int (nI (d + 1)))]) rfl ?_
          exact I
    have go := y9_wk79 (g := g) hS hi hr hk hl hm z2 (c := wkN q l m ws d) (d := d) K (nf q (j + 1) - nf q j) 0 (by have := hk.1.2.2.2.2.1 j z2; omega)
    refine q_iload dX9_works_25 rfl ?_
    refine q_aload_n dX9_works_27 rfl rfl rfl ?_
    refine q_getr (r := 95) dX9_works_28 fX9_186 rfl (ty_c hS (by decide) rfl) (hS.2 58 57 95 rfl) ?_
    refine q_iload_n dX9_works_31 rfl rfl ?_
    refine q_iald (x := nI ws.length) (j := i) dX9_works_32 (ty_c hS (by decide) rfl) (ix_n (by omega) (by omega)) y1 ?_
    refine q_icmp_geN (tgt := 189) dX9_works_33 (by decide) (by omega) (by omega) (fun c33 => ?_) (fun c33 => ?_)
    · exact absurd c33 (by omega)
    · skip
      refine q_aload_n dX9_works_36 rfl rfl rfl ?_
      refine q_getr (r := 96) dX9_works_37 fX9_189 rfl (ty_c hS (by decide) rfl) (hS.2 58 58 96 rfl) ?_
      refine q_bipush (v := nI 60) dX9_works_40 rfl ?_
      refine q_iload_n dX9_works_42 rfl rfl ?_
      refine q_imulN dX9_works_43 ?_
      refine q_iload dX9_works_44 rfl ?_
      refine q_iaddN dX9_works_46 ?_
      refine q_iald (x := nI j) (j := ((60 * i) + d)) dX9_works_47 (ty_c hS (by decide) rfl) (ix_n (by omega) (by omega)) z1 ?_
      refine q_istore dX9_works_48 (by decide) (ls' := [(6, .int (nI j)), (0, .ref 58), (1, .int (nI i)), (2, .int (nI l)), (3, .int (nI m)), (4, .int (nI (wkN q l m ws d))), (5, .int (nI d))]) rfl ?_
      refine q_aload_n dX9_works_50 rfl rfl rfl ?_
      refine q_iload_n dX9_works_51 rfl rfl ?_
      refine q_iload dX9_works_52 rfl ?_
      refine q_callV (As := [.int (nI i), .int (nI j)]) (rest := []) dX9_works_54 vX9_405 (ty_c hS (by decide) rfl) ⟨by decide, rfl⟩ (z9_end hS hi hr hk z2) rfl rfl (Nat.le_of_ble_eq_true rfl) (by omega) (by omega) (by omega) (k_p ?_)
      refine q_sipush (v := nI 240) dX9_works_57 rfl ?_
      refine q_iload_n dX9_works_60 rfl rfl ?_
      refine q_imulN dX9_works_61 ?_
      refine q_isubN dX9_works_62 (by omega) ?_
      refine q_top (y := nI (eNd q j)) (congrArg nI (by omega)) ?_
      refine q_istore dX9_works_63 (by decide) (ls' := [(7, .int (nI (eNd q j))), (6, .int (nI j)), (0, .ref 58), (1, .int (nI i)), (2, .int (nI l)), (3, .int (nI m)), (4, .int (nI (wkN q l m ws d))), (5, .int (nI d))]) rfl ?_
      refine q_aload_n dX9_works_65 rfl rfl rfl ?_
      refine q_getr (r := 65) dX9_works_66 fX9_52 rfl (ty_c hS (by decide) rfl) (hS.2 58 13 65 rfl) ?_
      refine q_bipush (v := nI 41) dX9_works_69 rfl ?_
      refine q_iload_n dX9_works_71 rfl rfl ?_
      refine q_imulN dX9_works_72 ?_
      refine q_iload dX9_works_73 rfl ?_
      refine q_iaddN dX9_works_75 ?_
      refine q_iald (x := nI (nf q j)) (j := ((41 * i) + j)) dX9_works_76 (ty_c hS (by decide) rfl) (ix_n (by omega) (by omega)) r65 ?_
      refine q_istore dX9_works_77 (by decide) (ls' := [(8, .int (nI (nf q j))), (7, .int (nI (eNd q j))), (6, .int (nI j)), (0, .ref 58), (1, .int (nI i)), (2, .int (nI l)), (3, .int (nI m)), (4, .int (nI (wkN q l m ws d))), (5, .int (nI d))]) rfl ?_
      refine q_pk [3, 4, 5, 6, 7, 8, 2, 1, 0] (ls' := [(0, .ref 58), (1, .int (nI i)), (2, .int (nI l)), (3, .int (nI m)), (4, .int (nI (wkN q l m ws d))), (5, .int (nI d)), (6, .int (nI j)), (7, .int (nI (eNd q j))), (8, .int (nI (nf q j)))]) rfl ?_
      exact go
theorem z9_home0 (hS : SK σ) {p : Int32} (h : MA σ p none) : CT g mX9_home 1 0 0 [.ref 58, .int p] σ (PQ σ (.int (-1))) := by
  refine CT.of (by decide) (Nat.le_of_ble_eq_true rfl) ?_
  refine q_aload_n dX9_home_0 rfl rfl rfl ?_
  refine q_iload_n dX9_home_1 rfl rfl ?_
  refine q_callV (As := [.int p]) (rest := []) dX9_home_2 vX9_373 (ty_c hS (by decide) rfl) ⟨by decide, rfl⟩ (z9_isThere0 hS h) rfl rfl (Nat.le_of_ble_eq_true rfl) (by omega) (by omega) (by omega) (k_p ?_)
  refine q_if_neB (tgt := 10) dX9_home_5 (by decide) (fun h => absurd h (by decide)) (fun _ => ?_)
  refine q_iconst (v := (-1 : Int32)) dX9_home_8 rfl ?_
  refine q_ireturn dX9_home_9 rfl rfl (by omega) (by omega) ?_
  exact ⟨rfl, rfl⟩
theorem z9_home1 (hS : SK σ) (hi : i < 4) (h60 : sI σ 60 i = nI 1) : CT g mX9_home 1 0 0 [.ref 58, .int (nI i)] σ (PQ (uI σ 95 i (nI 0)) (.int (sI σ 95 i))) := by
  refine CT.of (by decide) (Nat.le_of_ble_eq_true rfl) ?_
  refine q_aload_n dX9_home_0 rfl rfl rfl ?_
  refine q_iload_n dX9_home_1 rfl rfl ?_
  refine q_callV (As := [.int (nI i)]) (rest := []) dX9_home_2 vX9_373 (ty_c hS (by decide) rfl) ⟨by decide, rfl⟩ (z9_isThere1 hS hi h60) rfl rfl (Nat.le_of_ble_eq_true rfl) (by omega) (by omega) (by omega) (k_p ?_)
  refine q_if_neB (tgt := 10) dX9_home_5 (by decide) (fun _ => ?_) (fun h => absurd h (by decide))
  refine q_aload_n dX9_home_10 rfl rfl rfl ?_
  refine q_getr (r := 95) dX9_home_11 fX9_186 rfl (ty_c hS (by decide) rfl) (hS.2 58 57 95 rfl) ?_
  refine q_iload_n dX9_home_14 rfl rfl ?_
  refine q_iald (x := sI σ 95 i) (j := i) dX9_home_15 (ty_c hS (by decide) rfl) (ix_n (by omega) (by omega)) rfl ?_
  refine q_istore_n dX9_home_16 rfl (by decide) (ls' := [(2, .int (sI σ 95 i)), (0, .ref 58), (1, .int (nI i))]) rfl ?_
  refine q_aload_n dX9_home_17 rfl rfl rfl ?_
  refine q_getr (r := 95) dX9_home_18 fX9_186 rfl (ty_c hS (by decide) rfl) (hS.2 58 57 95 rfl) ?_
  refine q_iload_n dX9_home_21 rfl rfl ?_
  refine q_iconst (v := nI 0) dX9_home_22 rfl ?_
  refine q_iast (j := i) dX9_home_23 (ty_c hS (by decide) rfl) (ix_n (by omega) (by omega)) ?_
  refine q_iload_n dX9_home_24 rfl rfl ?_
  refine q_ireturn dX9_home_25 rfl rfl (by omega) (by omega) ?_
  exact ⟨rfl, rfl⟩
theorem z9_step0 (hS : SK σ) {p t : Int32} (h : MA σ p none) : CT g mX9_step_ 1 0 0 [.ref 58, .int p, .int t] σ (PQ σ (.int (-1))) := by
  refine CT.of (by decide) (Nat.le_of_ble_eq_true rfl) ?_
  refine q_aload_n dX9_step__0 rfl rfl rfl ?_
  refine q_iload_n dX9_step__1 rfl rfl ?_
  refine q_callV (As := [.int p]) (rest := []) dX9_step__2 vX9_373 (ty_c hS (by decide) rfl) ⟨by decide, rfl⟩ (z9_isThere0 hS h) rfl rfl (Nat.le_of_ble_eq_true rfl) (by omega) (by omega) (by omega) (k_p ?_)
  refine q_if_eqB (tgt := 22) dX9_step__5 (by decide) (fun _ => ?_) (fun h => absurd h (by decide))
  refine q_iconst (v := (-1 : Int32)) dX9_step__22 rfl ?_
  refine q_ireturn dX9_step__23 rfl rfl (by omega) (by omega) ?_
  exact ⟨rfl, rfl⟩
theorem z9_step2 (hS : SK σ) (hi : i < 4) (h60 : sI σ 60 i = nI 1) (hr : MR σ i q) {t : Int32} (ht : ¬ (¬ t < 0 ∧ t < nI (psF q).length)) : CT g mX9_step_ 1 0 0 [.ref 58, .int (nI i), .int t] σ (PQ σ (.int (-1))) := by
  have r61 := hr.1.1
  refine CT.of (by decide) (Nat.le_of_ble_eq_true rfl) ?_
  refine q_aload_n dX9_step__0 rfl rfl rfl ?_
  refine q_iload_n dX9_step__1 rfl rfl ?_
  refine q_callV (As := [.int (nI i)]) (rest := []) dX9_step__2 vX9_373 (ty_c hS (by decide) rfl) ⟨by decide, rfl⟩ (z9_isThere1 hS hi h60) rfl rfl (Nat.le_of_ble_eq_true rfl) (by omega) (by omega) (by omega) (k_p ?_)
  refine q_if_eqB (tgt := 22) dX9_step__5 (by decide) (fun h => absurd h (by decide)) (fun _ => ?_)
  refine q_iload_n dX9_step__8 rfl rfl ?_
  refine q_if_lt (tgt := 22) dX9_step__9 (by decide) (fun c9 => ?_) (fun c9 => ?_)
  · skip
    refine q_iconst (v := (-1 : Int32)) dX9_step__22 rfl ?_
    refine q_ireturn dX9_step__23 rfl rfl (by omega) (by omega) ?_
    exact ⟨rfl, rfl⟩
  · skip
    refine q_iload_n dX9_step__12 rfl rfl ?_
    refine q_aload_n dX9_step__13 rfl rfl rfl ?_
    refine q_getr (r := 61) dX9_step__14 fX9_40 rfl (ty_c hS (by decide) rfl) (hS.2 58 9 61 rfl) ?_
    refine q_iload_n dX9_step__17 rfl rfl ?_
    refine q_iald (x := nI ((psF q).length)) (j := i) dX9_step__18 (ty_c hS (by decide) rfl) (ix_n (by omega) (by omega)) r61 ?_
    refine q_icmp_lt (tgt := 24) dX9_step__19 (by decide) (fun c19 => ?_) (fun c19 => ?_)
    · exact absurd ⟨c9, c19⟩ ht
    · skip
      refine q_iconst (v := (-1 : Int32)) dX9_step__22 rfl ?_
      refine q_ireturn dX9_step__23 rfl rfl (by omega) (by omega) ?_
      exact ⟨rfl, rfl⟩
theorem cnG_pas {ws : List Nat} {t : Nat} (hk : MOK q) (h : ws.length ≠ 0) (hl : ws.getD (ws.length - 1) 0 < (psF q).length) : cnG q ws t = (pas q (ws.getD (ws.length - 1) 0) t).isSome := by
  unfold cnG pas
  rw [if_neg h]
  by_cases c0 : wy q 0 (ws.getD (ws.length - 1) 0) = some t
  · obtain ⟨-, y, hy, -⟩ := hop hk.1 hk.2.1 hk.2.2.1 hl (by omega) c0
    rw [if_pos c0, decide_eq_true c0, hy]; rfl
  · rw [if_neg c0, decide_eq_false c0]
    by_cases c1 : wy q 1 (ws.getD (ws.length - 1) 0) = some t
    · obtain ⟨-, y, hy, -⟩ := hop hk.1 hk.2.1 hk.2.2.1 hl (by omega) c1
      rw [if_pos c1, decide_eq_true c1, hy]; rfl
    · rw [if_neg c1, decide_eq_false c1]; rfl
theorem y9_step81 (hS : SK σ) (hi : i < 4) {ws : List Nat} (hy : MW σ i q ws) {t : Nat} (ht : t < (psF q).length) (hk : MOK q) {b : Bool} {n : Nat} (hn : n = ws.length) : WA g mX9_step_ 1 0 0 (ZM g (if b = true then (if ws.length < 60 then PQ (uI (uI σ 96 (60 * i + ws.length) (nI t)) 95 i (nI (ws.length + 1))) (.int (nI (ws.length + 1))) else PQ σ (.int (-3))) else PQ σ (.int (-2))) 0 0) 0 0 79 [(0, .ref 58), (1, .int (nI i)), (2, .int (nI t)), (3, .int (nI n))] [.int (bi b)] σ := by
  subst hn
  obtain ⟨y1, y2, y3⟩ := hy
  have h40 := hk.1.2.1
  cases b with
  | false =>
    rw [if_neg (by decide)]
    refine q_istore dX9_step__79 (by decide) (ls' := [(4, .int (bi false)), (0, .ref 58), (1, .int (nI i)), (2, .int (nI t)), (3, .int (nI ws.length))]) rfl ?_
    refine q_iload dX9_step__81 rfl ?_
    refine q_if_neB (tgt := 89) dX9_step__83 (by decide) (fun h => absurd h (by decide)) (fun _ => ?_)
    refine q_bipush (v := (-2 : Int32)) dX9_step__86 rfl ?_
    refine q_ireturn dX9_step__88 rfl rfl (by omega) (by omega) ?_
    exact ⟨rfl, rfl⟩
  | true =>
    rw [if_pos rfl]
    by_cases h60 : ws.length < 60
    · rw [if_pos h60]
      refine q_istore dX9_step__79 (by decide) (ls' := [(4, .int (bi true)), (0, .ref 58), (1, .int (nI i)), (2, .int (nI t)), (3, .int (nI ws.length))]) rfl ?_
      refine q_iload dX9_step__81 rfl ?_
      refine q_if_neB (tgt := 89) dX9_step__83 (by decide) (fun _ => ?_) (fun h => absurd h (by decide))
      refine q_iload_n dX9_step__89 rfl rfl ?_
      refine q_bipush (v := nI 60) dX9_step__90 rfl ?_
      refine q_icmp_neN (tgt := 98) dX9_step__92 (by decide) (by omega) (by omega) (fun c92 => ?_) (fun c92 => ?_)
      · skip
        refine q_aload_n dX9_step__98 rfl rfl rfl ?_
        refine q_getr (r := 96) dX9_step__99 fX9_189 rfl (ty_c hS (by decide) rfl) (hS.2 58 58 96 rfl) ?_
        refine q_bipush (v := nI 60) dX9_step__102 rfl ?_
        refine q_iload_n dX9_step__104 rfl rfl ?_
        refine q_imulN dX9_step__105 ?_
        refine q_iload_n dX9_step__106 rfl rfl ?_
        refine q_iaddN dX9_step__107 ?_
        refine q_iload_n dX9_step__108 rfl rfl ?_
        refine q_iast (j := ((60 * i) + ws.length)) dX9_step__109 (ty_c hS (by decide) rfl) (ix_n (by omega) (by omega)) ?_
        refine q_aload_n dX9_step__110 rfl rfl rfl ?_
        refine q_getr (r := 95) dX9_step__111 fX9_186 rfl (ty_c hS (by decide) rfl) (hS.2 58 57 95 rfl) ?_
        refine q_iload_n dX9_step__114 rfl rfl ?_
        refine q_dup2 dX9_step__115 rfl rfl ?_
        refine q_iald (x := nI ws.length) (j := i) dX9_step__116 (ty_c hS (by decide) rfl) (ix_n (by omega) (by omega)) (Eq.trans (rd_off (by decide)) y1) ?_
        refine q_iconst (v := nI 1) dX9_step__117 rfl ?_
        refine q_iaddN dX9_step__118 ?_
        refine q_iast (j := i) dX9_step__119 (ty_c hS (by decide) rfl) (ix_n (by omega) (by omega)) ?_
        refine q_aload_n dX9_step__120 rfl rfl rfl ?_
        refine q_getr (r := 95) dX9_step__121 fX9_186 rfl (ty_c hS (by decide) rfl) (hS.2 58 57 95 rfl) ?_
        refine q_iload_n dX9_step__124 rfl rfl ?_
        refine q_iald (x := nI (ws.length + 1)) (j := i) dX9_step__125 (ty_c hS (by decide) rfl) (ix_n (by omega) (by omega)) uI_self ?_
        refine q_ireturn dX9_step__126 rfl rfl (by omega) (by omega) ?_
        exact ⟨rfl, rfl⟩
      · exact absurd c92 (by omega)
    · rw [if_neg h60]
      refine q_istore dX9_step__79 (by decide) (ls' := [(4, .int (bi true)), (0, .ref 58), (1, .int (nI i)), (2, .int (nI t)), (3, .int (nI ws.length))]) rfl ?_
      refine q_iload dX9_step__81 rfl ?_
      refine q_if_neB (tgt := 89) dX9_step__83 (by decide) (fun _ => ?_) (fun h => absurd h (by decide))
      refine q_iload_n dX9_step__89 rfl rfl ?_
      refine q_bipush (v := nI 60) dX9_step__90 rfl ?_
      refine q_icmp_neN (tgt := 98) dX9_step__92 (by decide) (by omega) (by omega) (fun c92 => ?_) (fun c92 => ?_)
      · exact absurd c92 (by omega)
      · skip
        refine q_bipush (v := (-3 : Int32)) dX9_step__95 rfl ?_
        refine q_ireturn dX9_step__97 rfl rfl (by omega) (by omega) ?_
        exact ⟨rfl, rfl⟩
theorem z9_step1 (hS : SK σ) (hi : i < 4) (h60 : sI σ 60 i = nI 1) (hr : MR σ i q) (hk : MOK q) {ws : List Nat} (hy : MW σ i q ws) {t : Nat} (ht : t < (psF q).length) : CT g mX9_step_ 1 0 0 [.ref 58, .int (nI i), .int (nI t)] σ (if cnG q ws t = true then (if ws.length < 60 then PQ (uI (uI σ 96 (60 * i + ws.length) (nI t)) 95 i (nI (ws.length + 1))) (.int (nI (ws.length + 1))) else PQ σ (.int (-3))) else PQ σ (.int (-2))) := by
  obtain ⟨y1, y2, y3⟩ := id hy
  have h40 := hk.1.2.1
  have r61 := hr.1.1
  by_cases h0 : ws.length = 0
  · have ec : cnG q ws t = decide (t = 0) := if_pos h0
    rw [ec]
    have y10 := y1
    rw [h0] at y10
    have gt := y9_step81 (g := g) hS hi hy ht hk (b := true) h0.symm
    have gf := y9_step81 (g := g) hS hi hy ht hk (b := false) h0.symm
    have gg : ∀ b, decide (t = 0) = b → WA g mX9_step_ 1 0 0 (ZM g (if decide (t = 0) = true then (if ws.length < 60 then PQ (uI (uI σ 96 (60 * i + ws.length) (nI t)) 95 i (nI (ws.length + 1))) (.int (nI (ws.length + 1))) else PQ σ (.int (-3))) else PQ σ (.int (-2))) 0 0) 0 0 79 [(0, .ref 58), (1, .int (nI i)), (2, .int (nI t)), (3, .int (nI 0))] [.int (bi b)] σ := fun b hb => by
      rw [hb]
      cases b
      · exact gf
      · exact gt
    refine CT.of (by decide) (Nat.le_of_ble_eq_true rfl) ?_
    refine q_aload_n dX9_step__0 rfl rfl rfl ?_
    refine q_iload_n dX9_step__1 rfl rfl ?_
    refine q_callV (As := [.int (nI i)]) (rest := []) dX9_step__2 vX9_373 (ty_c hS (by decide) rfl) ⟨by decide, rfl⟩ (z9_isThere1 hS hi h60) rfl rfl (Nat.le_of_ble_eq_true rfl) (by omega) (by omega) (by omega) (k_p ?_)
    refine q_if_eqB (tgt := 22) dX9_step__5 (by decide) (fun h => absurd h (by decide)) (fun _ => ?_)
    refine q_iload_n dX9_step__8 rfl rfl ?_
    refine q_if_ltN (tgt := 22) dX9_step__9 (by decide) (by omega) ?_
    refine q_iload_n dX9_step__12 rfl rfl ?_
    refine q_aload_n dX9_step__13 rfl rfl rfl ?_
    refine q_getr (r := 61) dX9_step__14 fX9_40 rfl (ty_c hS (by decide) rfl) (hS.2 58 9 61 rfl) ?_
    refine q_iload_n dX9_step__17 rfl rfl ?_
    refine q_iald (x := nI ((psF q).length)) (j := i) dX9_step__18 (ty_c hS (by decide) rfl) (ix_n (by omega) (by omega)) r61 ?_
    refine q_icmp_ltN (tgt := 24) dX9_step__19 (by decide) (by omega) (by omega) (fun c19 => ?_) (fun c19 => ?_)
    · skip
      refine q_aload_n dX9_step__24 rfl rfl rfl ?_
      refine q_getr (r := 95) dX9_step__25 fX9_186 rfl (ty_c hS (by decide) rfl) (hS.2 58 57 95 rfl) ?_
      refine q_iload_n dX9_step__28 rfl rfl ?_
      refine q_iald (x := nI 0) (j := i) dX9_step__29 (ty_c hS (by decide) rfl) (ix_n (by omega) (by omega)) y10 ?_
      refine q_istore_n dX9_step__30 rfl (by decide) (ls' := [(3, .int (nI 0)), (0, .ref 58), (1, .int (nI i)), (2, .int (nI t))]) rfl ?_
      refine q_iload_n dX9_step__31 rfl rfl ?_
      refine q_if_neN (tgt := 47) dX9_step__32 (by decide) (by omega) (fun h => absurd h (by decide)) (fun _ => ?_)
      refine q_iload_n dX9_step__35 rfl rfl ?_
      refine q_if_neN (tgt := 43) dX9_step__36 (by decide) (by omega) (fun c36 => ?_) (fun c36 => ?_)
      · have gg := gg _ (decide_eq_false c36)
        refine q_iconst (v := nI 0) dX9_step__43 rfl ?_
        refine q_goto (tgt := 79) dX9_step__44 (by decide) ?_
        refine q_pk [1, 2, 3, 0] (ls' := [(0, .ref 58), (1, .int (nI i)), (2, .int (nI t)), (3, .int (nI 0))]) rfl ?_
        exact gg
      · have gg := gg _ (decide_eq_true c36)
        refine q_iconst (v := nI 1) dX9_step__39 rfl ?_
        refine q_goto (tgt := 79) dX9_step__40 (by decide) ?_
        refine q_pk [1, 2, 3, 0] (ls' := [(0, .ref 58), (1, .int (nI i)), (2, .int (nI t)), (3, .int (nI 0))]) rfl ?_
        exact gg
    · exact absurd c19 (by omega)
  · obtain ⟨z1, z2⟩ := y3 (ws.length - 1) (by omega)
    rw [show 60 * i + (ws.length - 1) = 60 * i + ws.length - 1 by omega] at z1
    rw [cnG_pas hk h0 z2]
    generalize ws.getD (ws.length - 1) 0 = j at z1 z2
    have ps := z9_passes (g := g) hS hi hr hk z2 ht
    cases hp : pas q j t with
    | none =>
      rw [hp] at ps
      have gg := y9_step81 (g := g) hS hi hy ht hk (b := false) rfl
      refine CT.of (by decide) (Nat.le_of_ble_eq_true rfl) ?_
      refine q_aload_n dX9_step__0 rfl rfl rfl ?_
      refine q_iload_n dX9_step__1 rfl rfl ?_
      refine q_callV (As := [.int (nI i)]) (rest := []) dX9_step__2 vX9_373 (ty_c hS (by decide) rfl) ⟨by decide, rfl⟩ (z9_isThere1 hS hi h60) rfl rfl (Nat.le_of_ble_eq_true rfl) (by omega) (by omega) (by omega) (k_p ?_)
      refine q_if_eqB (tgt := 22) dX9_step__5 (by decide) (fun h => absurd h (by decide)) (fun _ => ?_)
      refine q_iload_n dX9_step__8 rfl rfl ?_
      refine q_if_ltN (tgt := 22) dX9_step__9 (by decide) (by omega) ?_
      refine q_iload_n dX9_step__12 rfl rfl ?_
      refine q_aload_n dX9_step__13 rfl rfl rfl ?_
      refine q_getr (r := 61) dX9_step__14 fX9_40 rfl (ty_c hS (by decide) rfl) (hS.2 58 9 61 rfl) ?_
      refine q_iload_n dX9_step__17 rfl rfl ?_
      refine q_iald (x := nI ((psF q).length)) (j := i) dX9_step__18 (ty_c hS (by decide) rfl) (ix_n (by omega) (by omega)) r61 ?_
      refine q_icmp_ltN (tgt := 24) dX9_step__19 (by decide) (by omega) (by omega) (fun c19 => ?_) (fun c19 => ?_)
      · skip
        refine q_aload_n dX9_step__24 rfl rfl rfl ?_
        refine q_getr (r := 95) dX9_step__25 fX9_186 rfl (ty_c hS (by decide) rfl) (hS.2 58 57 95 rfl) ?_
        refine q_iload_n dX9_step__28 rfl rfl ?_
        refine q_iald (x := nI ws.length) (j := i) dX9_step__29 (ty_c hS (by decide) rfl) (ix_n (by omega) (by omega)) y1 ?_
        refine q_istore_n dX9_step__30 rfl (by decide) (ls' := [(3, .int (nI ws.length)), (0, .ref 58), (1, .int (nI i)), (2, .int (nI t))]) rfl ?_
        refine q_iload_n dX9_step__31 rfl rfl ?_
        refine q_if_neN (tgt := 47) dX9_step__32 (by decide) (by omega) (fun c32 => ?_) (fun c32 => ?_)
        · skip
          refine q_aload_n dX9_step__47 rfl rfl rfl ?_
          refine q_iload_n dX9_step__48 rfl rfl ?_
          refine q_aload_n dX9_step__49 rfl rfl rfl ?_
          refine q_iload_n dX9_step__50 rfl rfl ?_
          refine q_aload_n dX9_step__51 rfl rfl rfl ?_
          refine q_getr (r := 96) dX9_step__52 fX9_189 rfl (ty_c hS (by decide) rfl) (hS.2 58 58 96 rfl) ?_
          refine q_bipush (v := nI 60) dX9_step__55 rfl ?_
          refine q_iload_n dX9_step__57 rfl rfl ?_
          refine q_imulN dX9_step__58 ?_
          refine q_iload_n dX9_step__59 rfl rfl ?_
          refine q_iaddN dX9_step__60 ?_
          refine q_iconst (v := nI 1) dX9_step__61 rfl ?_
          refine q_isubN dX9_step__62 (by omega) ?_
          refine q_iald (x := nI j) (j := (((60 * i) + ws.length) - 1)) dX9_step__63 (ty_c hS (by decide) rfl) (ix_n (by omega) (by omega)) z1 ?_
          refine q_callV (As := [.int (nI i), .int (nI j)]) (rest := [.int (nI i), .ref 58]) dX9_step__64 vX9_405 (ty_c hS (by decide) rfl) ⟨by decide, rfl⟩ (z9_end hS hi hr hk z2) rfl rfl (Nat.le_of_ble_eq_true rfl) (by omega) (by omega) (by omega) (k_p ?_)
          refine q_iload_n dX9_step__67 rfl rfl ?_
          refine q_callV (As := [.int (nI i), .int (nI (240 * i + eNd q j)), .int (nI t)]) (rest := []) dX9_step__68 vX9_408 (ty_c hS (by decide) rfl) ⟨by decide, rfl⟩ (ps) rfl rfl (Nat.le_of_ble_eq_true rfl) (by omega) (by omega) (by omega) (k_p ?_)
          refine q_if_lt1 (tgt := 78) dX9_step__71 (by decide) (by decide) ?_
          refine q_iconst (v := nI 0) dX9_step__78 rfl ?_
          refine q_pk [1, 2, 3, 0] (ls' := [(0, .ref 58), (1, .int (nI i)), (2, .int (nI t)), (3, .int (nI ws.length))]) rfl ?_
          exact gg
        · exact absurd c32 h0
      · exact absurd c19 (by omega)
    | some y =>
      rw [hp] at ps
      have gg := y9_step81 (g := g) hS hi hy ht hk (b := true) rfl
      have hyN : y < NN q := by
        unfold pas at hp
        have hEN : eNd q j < NN q := by
          obtain ⟨e1, e2, e3, -⟩ := end_w hk.1 hk.2.1 z2
          unfold NN eNd; omega
        by_cases c0 : wy q 0 j = some t
        · rw [if_pos c0] at hp; exact ld_lt hk.1 hk.2.1 hk.2.2.1 hEN hp
        · rw [if_neg c0] at hp
          by_cases c1 : wy q 1 j = some t
          · rw [if_pos c1] at hp; exact ld_lt hk.1 hk.2.1 hk.2.2.1 hEN hp
          · rw [if_neg c1] at hp; cases hp
      have hN := NN_le hk.1
      refine CT.of (by decide) (Nat.le_of_ble_eq_true rfl) ?_
      refine q_aload_n dX9_step__0 rfl rfl rfl ?_
      refine q_iload_n dX9_step__1 rfl rfl ?_
      refine q_callV (As := [.int (nI i)]) (rest := []) dX9_step__2 vX9_373 (ty_c hS (by decide) rfl) ⟨by decide, rfl⟩ (z9_isThere1 hS hi h60) rfl rfl (Nat.le_of_ble_eq_true rfl) (by omega) (by omega) (by omega) (k_p ?_)
      refine q_if_eqB (tgt := 22) dX9_step__5 (by decide) (fun h => absurd h (by decide)) (fun _ => ?_)
      refine q_iload_n dX9_step__8 rfl rfl ?_
      refine q_if_ltN (tgt := 22) dX9_step__9 (by decide) (by omega) ?_
      refine q_iload_n dX9_step__12 rfl rfl ?_
      refine q_aload_n dX9_step__13 rfl rfl rfl ?_
      refine q_getr (r := 61) dX9_step__14 fX9_40 rfl (ty_c hS (by decide) rfl) (hS.2 58 9 61 rfl) ?_
      refine q_iload_n dX9_step__17 rfl rfl ?_
      refine q_iald (x := nI ((psF q).length)) (j := i) dX9_step__18 (ty_c hS (by decide) rfl) (ix_n (by omega) (by omega)) r61 ?_
      refine q_icmp_ltN (tgt := 24) dX9_step__19 (by decide) (by omega) (by omega) (fun c19 => ?_) (fun c19 => ?_)
      · skip
        refine q_aload_n dX9_step__24 rfl rfl rfl ?_
        refine q_getr (r := 95) dX9_step__25 fX9_186 rfl (ty_c hS (by decide) rfl) (hS.2 58 57 95 rfl) ?_
        refine q_iload_n dX9_step__28 rfl rfl ?_
        refine q_iald (x := nI ws.length) (j := i) dX9_step__29 (ty_c hS (by decide) rfl) (ix_n (by omega) (by omega)) y1 ?_
        refine q_istore_n dX9_step__30 rfl (by decide) (ls' := [(3, .int (nI ws.length)), (0, .ref 58), (1, .int (nI i)), (2, .int (nI t))]) rfl ?_
        refine q_iload_n dX9_step__31 rfl rfl ?_
        refine q_if_neN (tgt := 47) dX9_step__32 (by decide) (by omega) (fun c32 => ?_) (fun c32 => ?_)
        · skip
          refine q_aload_n dX9_step__47 rfl rfl rfl ?_
          refine q_iload_n dX9_step__48 rfl rfl ?_
          refine q_aload_n dX9_step__49 rfl rfl rfl ?_
          refine q_iload_n dX9_step__50 rfl rfl ?_
          refine q_aload_n dX9_step__51 rfl rfl rfl ?_
          refine q_getr (r := 96) dX9_step__52 fX9_189 rfl (ty_c hS (by decide) rfl) (hS.2 58 58 96 rfl) ?_
          refine q_bipush (v := nI 60) dX9_step__55 rfl ?_
          refine q_iload_n dX9_step__57 rfl rfl ?_
          refine q_imulN dX9_step__58 ?_
          refine q_iload_n dX9_step__59 rfl rfl ?_
          refine q_iaddN dX9_step__60 ?_
          refine q_iconst (v := nI 1) dX9_step__61 rfl ?_
          refine q_isubN dX9_step__62 (by omega) ?_
          refine q_iald (x := nI j) (j := (((60 * i) + ws.length) - 1)) dX9_step__63 (ty_c hS (by decide) rfl) (ix_n (by omega) (by omega)) z1 ?_
          refine q_callV (As := [.int (nI i), .int (nI j)]) (rest := [.int (nI i), .ref 58]) dX9_step__64 vX9_405 (ty_c hS (by decide) rfl) ⟨by decide, rfl⟩ (z9_end hS hi hr hk z2) rfl rfl (Nat.le_of_ble_eq_true rfl) (by omega) (by omega) (by omega) (k_p ?_)
          refine q_iload_n dX9_step__67 rfl rfl ?_
          refine q_callV (As := [.int (nI i), .int (nI (240 * i + eNd q j)), .int (nI t)]) (rest := []) dX9_step__68 vX9_408 (ty_c hS (by decide) rfl) ⟨by decide, rfl⟩ (ps) rfl rfl (Nat.le_of_ble_eq_true rfl) (by omega) (by omega) (by omega) (k_p ?_)
          refine q_if_ltN (tgt := 78) dX9_step__71 (by decide) (by omega) ?_
          refine q_iconst (v := nI 1) dX9_step__74 rfl ?_
          refine q_goto (tgt := 79) dX9_step__75 (by decide) ?_
          refine q_pk [1, 2, 3, 0] (ls' := [(0, .ref 58), (1, .int (nI i)), (2, .int (nI t)), (3, .int (nI ws.length))]) rfl ?_
          exact gg
        · exact absurd c32 h0
      · exact absurd c19 (by omega)
theorem z9_works0 (hS : SK σ) {p l e : Int32} (h : MA σ p none) : CT g mX9_works 3 0 0 [.ref 58, .int p, .int l, .int e] σ (PQ σ (.int (-1))) := by
  refine CT.of (by decide) (Nat.le_of_ble_eq_true rfl) ?_
  refine q_aload_n dX9_works_0 rfl rfl rfl ?_
  refine q_iload_n dX9_works_1 rfl rfl ?_
  refine q_iload_n dX9_works_2 rfl rfl ?_
  refine q_callV (As := [.int p, .int e]) (rest := []) dX9_works_3 vX9_376 (ty_c hS (by decide) rfl) ⟨by decide, rfl⟩ (z9_isSum0 hS h) rfl rfl (Nat.le_of_ble_eq_true rfl) (by omega) (by omega) (by omega) (k_p ?_)
  refine q_if_eqB (tgt := 17) dX9_works_6 (by decide) (fun _ => ?_) (fun h => absurd h (by decide))
  refine q_iconst (v := (-1 : Int32)) dX9_works_17 rfl ?_
  refine q_ireturn dX9_works_18 rfl rfl (by omega) (by omega) ?_
  exact ⟨rfl, rfl⟩
theorem z9_works1 (hS : SK σ) {p : Int32} (h : MA σ p (some q)) {ws : List Nat} (hy : ∀ i, i < 4 → p = nI i → MW σ i q ws) (hwc : WC q ws) {l e : Int32} : CT g mX9_works 3 0 0 [.ref 58, .int p, .int l, .int e] σ (PQ σ (.int (if (¬ l < 0 ∧ l < nI 3) ∧ ¬ e < 0 ∧ e < nI (psM q).length then nI (wkN q l.toNatClampNeg e.toNatClampNeg ws ws.length) else -1))) := by
  have hAll := h
  obtain ⟨i, hi, rfl, h0, hr, hk⟩ := h
  obtain ⟨hc, hw, hB, hx, hF⟩ := id hk
  have hN := NN_le hc
  have h32 := hw.2.2.2.1
  have hy := hy i hi rfl
  by_cases he : ¬ e < 0 ∧ e < nI (psM q).length
  · obtain ⟨m, hm, rfl⟩ := n_in (by omega) he
    by_cases hl : ¬ l < 0 ∧ l < nI 3
    · rw [if_pos ⟨hl, he⟩]
      obtain ⟨v, hv, rfl⟩ := n_in (by omega) hl
      rw [nI_clamp (by omega), nI_clamp (by omega)]
      refine CT.of (by decide) (Nat.le_of_ble_eq_true rfl) ?_
      refine q_aload_n dX9_works_0 rfl rfl rfl ?_
      refine q_iload_n dX9_works_1 rfl rfl ?_
      refine q_iload_n dX9_works_2 rfl rfl ?_
      refine q_callV (As := [.int (nI i), .int (nI m)]) (rest := []) dX9_works_3 vX9_376 (ty_c hS (by decide) rfl) ⟨by decide, rfl⟩ (z9_isSumY hS hi h0 hr hk hm) rfl rfl (Nat.le_of_ble_eq_true rfl) (by omega) (by omega) (by omega) (k_p ?_)
      refine q_if_eqB (tgt := 17) dX9_works_6 (by decide) (fun h => absurd h (by decide)) (fun _ => ?_)
      refine q_aload_n dX9_works_9 rfl rfl rfl ?_
      refine q_iload_n dX9_works_10 rfl rfl ?_
      refine q_callV (As := [.int (nI v)]) (rest := []) dX9_works_11 vX9_388 (ty_c hS (by decide) rfl) ⟨by decide, rfl⟩ (z9_isPlacing hS) rfl rfl (Nat.le_of_ble_eq_true rfl) (by omega) (by omega) (by omega) (k_p ?_)
      refine q_if_neB (tgt := 19) dX9_works_14 (by decide) (fun c14 => ?_) (fun c14 => ?_)
      · skip
        refine q_iconst (v := nI 0) dX9_works_19 rfl ?_
        refine q_istore dX9_works_20 (by decide) (ls' := [(4, .int (nI 0)), (0, .ref 58), (1, .int (nI i)), (2, .int (nI v)), (3, .int (nI m))]) rfl ?_
        refine q_iconst (v := nI 0) dX9_works_22 rfl ?_
        refine q_istore dX9_works_23 (by decide) (ls' := [(5, .int (nI 0)), (4, .int (nI 0)), (0, .ref 58), (1, .int (nI i)), (2, .int (nI v)), (3, .int (nI m))]) rfl ?_
        refine q_pk [2, 3, 4, 5, 1, 0] (ls' := [(0, .ref 58), (1, .int (nI i)), (2, .int (nI v)), (3, .int (nI m)), (4, .int (nI 0)), (5, .int (nI 0))]) rfl ?_
        exact y9_wk25 hS hi hr hk hy hwc hv hm ws.length 0 (by omega)
      · exact absurd hl (of_decide_eq_false c14)
    · rw [if_neg fun z => hl z.1]
      refine CT.of (by decide) (Nat.le_of_ble_eq_true rfl) ?_
      refine q_aload_n dX9_works_0 rfl rfl rfl ?_
      refine q_iload_n dX9_works_1 rfl rfl ?_
      refine q_iload_n dX9_works_2 rfl rfl ?_
      refine q_callV (As := [.int (nI i), .int (nI m)]) (rest := []) dX9_works_3 vX9_376 (ty_c hS (by decide) rfl) ⟨by decide, rfl⟩ (z9_isSumY hS hi h0 hr hk hm) rfl rfl (Nat.le_of_ble_eq_true rfl) (by omega) (by omega) (by omega) (k_p ?_)
      refine q_if_eqB (tgt := 17) dX9_works_6 (by decide) (fun h => absurd h (by decide)) (fun _ => ?_)
      refine q_aload_n dX9_works_9 rfl rfl rfl ?_
      refine q_iload_n dX9_works_10 rfl rfl ?_
      refine q_callV (As := [.int l]) (rest := []) dX9_works_11 vX9_388 (ty_c hS (by decide) rfl) ⟨by decide, rfl⟩ (z9_isPlacing hS) rfl rfl (Nat.le_of_ble_eq_true rfl) (by omega) (by omega) (by omega) (k_p ?_)
      refine q_if_neB (tgt := 19) dX9_works_14 (by decide) (fun c14 => ?_) (fun c14 => ?_)
      · exact absurd (of_decide_eq_true c14) hl
      · skip
        refine q_iconst (v := (-1 : Int32)) dX9_works_17 rfl ?_
        refine q_ireturn dX9_works_18 rfl rfl (by omega) (by omega) ?_
        exact ⟨rfl, rfl⟩
  · rw [if_neg fun z => he z.2]
    refine CT.of (by decide) (Nat.le_of_ble_eq_true rfl) ?_
    refine q_aload_n dX9_works_0 rfl rfl rfl ?_
    refine q_iload_n dX9_works_1 rfl rfl ?_
    refine q_iload_n dX9_works_2 rfl rfl ?_
    refine q_callV (As := [.int (nI i), .int e]) (rest := []) dX9_works_3 vX9_376 (ty_c hS (by decide) rfl) ⟨by decide, rfl⟩ (z9_isSumN hS hAll he) rfl rfl (Nat.le_of_ble_eq_true rfl) (by omega) (by omega) (by omega) (k_p ?_)
    refine q_if_eqB (tgt := 17) dX9_works_6 (by decide) (fun _ => ?_) (fun h => absurd h (by decide))
    refine q_iconst (v := (-1 : Int32)) dX9_works_17 rfl ?_
    refine q_ireturn dX9_works_18 rfl rfl (by omega) (by omega) ?_
    exact ⟨rfl, rfl⟩

end MWY
