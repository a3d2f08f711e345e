/-! Class Runner: a SUM is worked; a NODE is done. -/
def WkQ (σ : HS) (s : XS) (b : Bool) (P : HS → Prop) : Option Value → HS → Prop := WQ (.int (bi b)) (fun σ' => RFr σ σ' ∧ XR σ' s ∧ P σ')
section RUNW
variable {g : GG} {σ : HS} {s : XS}
theorem hp_yes {x y : Int32} (h : (¬ x < 0 ∧ x < nI 2) ∧ ¬ y < 0 ∧ y < nI 8) : ∃ a c, a < 2 ∧ c < 8 ∧ x = nI a ∧ y = nI c := by
  obtain ⟨⟨h1, h2⟩, h3, h4⟩ := h
  obtain ⟨a, ha, rfl⟩ := nI_of h1
  obtain ⟨c, hc, rfl⟩ := nI_of h3
  exact ⟨a, c, (nI_ltI (by omega) (by omega)).mp h2, (nI_ltI (by omega) (by omega)).mp h4, rfl, rfl⟩
theorem z3_readRow_ok (hS : SK σ) (hx : XR σ s) {a c : Nat} (ha : a < 2) (hc : c < 8) : CT g mX3_readRow 1 0 0 [.ref 46, .int (nI a), .int (nI c)] σ (PQ (uI σ 46 6 (xR s a c)) (.int (bi true))) := by
  have hp : decide ((¬ nI a < 0 ∧ nI a < nI 2) ∧ ¬ nI c < 0 ∧ nI c < nI 8) = true := decide_eq_true ⟨⟨nI_pos (by omega), nI_lt (by omega) (by omega)⟩, nI_pos (by omega), nI_lt (by omega) (by omega)⟩
  have g0 := hx.2.1 c hc
  have g1 := hx.2.2.1 c hc
  rcases (show a = 0 ∨ a = 1 by omega) with rfl | rfl
  · skip
    refine CT.of (by decide) (Nat.le_of_ble_eq_true rfl) ?_
    refine q_iload_n dX3_readRow_0 rfl rfl ?_
    refine q_iload_n dX3_readRow_1 rfl rfl ?_
    refine q_callS (As := [.int (nI 0), .int (nI c)]) (rest := []) dX3_readRow_2 vX3_142 (z3_hasPlace) rfl rfl (Nat.le_of_ble_eq_true rfl) (by omega) (by omega) (by omega) (k_p ?_)
    refine q_if_neB (tgt := 10) dX3_readRow_5 (by decide) (fun c5 => ?_) (fun c5 => ?_)
    · skip
      refine q_aload_n dX3_readRow_10 rfl rfl rfl ?_
      refine q_aload_n dX3_readRow_11 rfl rfl rfl ?_
      refine q_getr (r := 49) dX3_readRow_12 fX3_20 rfl (ty_c hS (by decide) rfl) (hS.2 46 2 49 rfl) ?_
      refine q_iload_n dX3_readRow_15 rfl rfl ?_
      refine q_aald (r := 50) (j := 0) dX3_readRow_16 (ty_c hS (by decide) rfl) (Or.inl rfl) (ix_n (by omega) (by omega)) (hS.2 49 0 50 rfl) ?_
      refine q_iload_n dX3_readRow_17 rfl rfl ?_
      refine q_iald (x := xR s 0 c) (j := c) dX3_readRow_18 (ty_c hS (by decide) rfl) (ix_n (by omega) (by omega)) g0 ?_
      refine q_puti dX3_readRow_19 fX3_104 rfl (Or.inl rfl) (ty_c hS (by decide) rfl) ?_
      refine q_iconst (v := nI 1) dX3_readRow_22 rfl ?_
      refine q_ireturn dX3_readRow_23 rfl rfl (by omega) (by omega) ?_
      exact ⟨rfl, rfl⟩
    · exact absurd (hp.symm.trans c5) (by decide)
  · skip
    refine CT.of (by decide) (Nat.le_of_ble_eq_true rfl) ?_
    refine q_iload_n dX3_readRow_0 rfl rfl ?_
    refine q_iload_n dX3_readRow_1 rfl rfl ?_
    refine q_callS (As := [.int (nI 1), .int (nI c)]) (rest := []) dX3_readRow_2 vX3_142 (z3_hasPlace) rfl rfl (Nat.le_of_ble_eq_true rfl) (by omega) (by omega) (by omega) (k_p ?_)
    refine q_if_neB (tgt := 10) dX3_readRow_5 (by decide) (fun c5 => ?_) (fun c5 => ?_)
    · skip
      refine q_aload_n dX3_readRow_10 rfl rfl rfl ?_
      refine q_aload_n dX3_readRow_11 rfl rfl rfl ?_
      refine q_getr (r := 49) dX3_readRow_12 fX3_20 rfl (ty_c hS (by decide) rfl) (hS.2 46 2 49 rfl) ?_
      refine q_iload_n dX3_readRow_15 rfl rfl ?_
      refine q_aald (r := 51) (j := 1) dX3_readRow_16 (ty_c hS (by decide) rfl) (Or.inl rfl) (ix_n (by omega) (by omega)) (hS.2 49 1 51 rfl) ?_
      refine q_iload_n dX3_readRow_17 rfl rfl ?_
      refine q_iald (x := xR s 1 c) (j := c) dX3_readRow_18 (ty_c hS (by decide) rfl) (ix_n (by omega) (by omega)) g1 ?_
      refine q_puti dX3_readRow_19 fX3_104 rfl (Or.inl rfl) (ty_c hS (by decide) rfl) ?_
      refine q_iconst (v := nI 1) dX3_readRow_22 rfl ?_
      refine q_ireturn dX3_readRow_23 rfl rfl (by omega) (by omega) ?_
      exact ⟨rfl, rfl⟩
    · exact absurd (hp.symm.trans c5) (by decide)
theorem z3_readRow_er (hS : SK σ) {x y : Int32} (hp : ¬ ((¬ x < 0 ∧ x < nI 2) ∧ ¬ y < 0 ∧ y < nI 8)) : CT g mX3_readRow 1 0 0 [.ref 46, .int x, .int y] σ (PQ σ (.int (bi false))) := by
  refine CT.of (by decide) (Nat.le_of_ble_eq_true rfl) ?_
  refine q_iload_n dX3_readRow_0 rfl rfl ?_
  refine q_iload_n dX3_readRow_1 rfl rfl ?_
  refine q_callS (As := [.int x, .int y]) (rest := []) dX3_readRow_2 vX3_142 (z3_hasPlace) rfl rfl (Nat.le_of_ble_eq_true rfl) (by omega) (by omega) (by omega) (k_p ?_)
  refine q_if_neB (tgt := 10) dX3_readRow_5 (by decide) (fun c5 => ?_) (fun c5 => ?_)
  · exact absurd (of_decide_eq_true c5) hp
  · skip
    refine q_iconst (v := nI 0) dX3_readRow_8 rfl ?_
    refine q_ireturn dX3_readRow_9 rfl rfl (by omega) (by omega) ?_
    exact ⟨rfl, rfl⟩
theorem z3_giveRow_ok (hS : SK σ) (hx : XR σ s) {a c : Nat} (ha : a < 2) (hc : c < 8) {v : Int32} : CT g mX3_giveRow 1 0 0 [.ref 46, .int (nI a), .int (nI c), .int v] σ (WQ (.int (bi true)) (fun σ' => RFr σ σ' ∧ XR σ' (grS s a c v))) := by
  have hp : decide ((¬ nI a < 0 ∧ nI a < nI 2) ∧ ¬ nI c < 0 ∧ nI c < nI 8) = true := decide_eq_true ⟨⟨nI_pos (by omega), nI_lt (by omega) (by omega)⟩, nI_pos (by omega), nI_lt (by omega) (by omega)⟩
  rcases (show a = 0 ∨ a = 1 by omega) with rfl | rfl
  · skip
    refine CT.of (by decide) (Nat.le_of_ble_eq_true rfl) ?_
    refine q_iload_n dX3_giveRow_0 rfl rfl ?_
    refine q_iload_n dX3_giveRow_1 rfl rfl ?_
    refine q_callS (As := [.int (nI 0), .int (nI c)]) (rest := []) dX3_giveRow_2 vX3_142 (z3_hasPlace) rfl rfl (Nat.le_of_ble_eq_true rfl) (by omega) (by omega) (by omega) (k_p ?_)
    refine q_if_neB (tgt := 10) dX3_giveRow_5 (by decide) (fun c5 => ?_) (fun c5 => ?_)
    · skip
      refine q_aload_n dX3_giveRow_10 rfl rfl rfl ?_
      refine q_getr (r := 49) dX3_giveRow_11 fX3_20 rfl (ty_c hS (by decide) rfl) (hS.2 46 2 49 rfl) ?_
      refine q_iload_n dX3_giveRow_14 rfl rfl ?_
      refine q_aald (r := 50) (j := 0) dX3_giveRow_15 (ty_c hS (by decide) rfl) (Or.inl rfl) (ix_n (by omega) (by omega)) (hS.2 49 0 50 rfl) ?_
      refine q_iload_n dX3_giveRow_16 rfl rfl ?_
      refine q_iload_n dX3_giveRow_17 rfl rfl ?_
      refine q_iast (j := c) dX3_giveRow_18 (ty_c hS (by decide) rfl) (ix_n (by omega) (by omega)) ?_
      refine q_iconst (v := nI 1) dX3_giveRow_19 rfl ?_
      refine q_ireturn dX3_giveRow_20 rfl rfl (by omega) (by omega) ?_
      exact ⟨rfl, RFr.rf.uI (by decide) (by omega), hx.gr0⟩
    · exact absurd (hp.symm.trans c5) (by decide)
  · skip
    refine CT.of (by decide) (Nat.le_of_ble_eq_true rfl) ?_
    refine q_iload_n dX3_giveRow_0 rfl rfl ?_
    refine q_iload_n dX3_giveRow_1 rfl rfl ?_
    refine q_callS (As := [.int (nI 1), .int (nI c)]) (rest := []) dX3_giveRow_2 vX3_142 (z3_hasPlace) rfl rfl (Nat.le_of_ble_eq_true rfl) (by omega) (by omega) (by omega) (k_p ?_)
    refine q_if_neB (tgt := 10) dX3_giveRow_5 (by decide) (fun c5 => ?_) (fun c5 => ?_)
    · skip
      refine q_aload_n dX3_giveRow_10 rfl rfl rfl ?_
      refine q_getr (r := 49) dX3_giveRow_11 fX3_20 rfl (ty_c hS (by decide) rfl) (hS.2 46 2 49 rfl) ?_
      refine q_iload_n dX3_giveRow_14 rfl rfl ?_
      refine q_aald (r := 51) (j := 1) dX3_giveRow_15 (ty_c hS (by decide) rfl) (Or.inl rfl) (ix_n (by omega) (by omega)) (hS.2 49 1 51 rfl) ?_
      refine q_iload_n dX3_giveRow_16 rfl rfl ?_
      refine q_iload_n dX3_giveRow_17 rfl rfl ?_
      refine q_iast (j := c) dX3_giveRow_18 (ty_c hS (by decide) rfl) (ix_n (by omega) (by omega)) ?_
      refine q_iconst (v := nI 1) dX3_giveRow_19 rfl ?_
      refine q_ireturn dX3_giveRow_20 rfl rfl (by omega) (by omega) ?_
      exact ⟨rfl, RFr.rf.uI (by decide) (by omega), hx.gr1⟩
    · exact absurd (hp.symm.trans c5) (by decide)
theorem z3_giveRow_er (hS : SK σ) {x y v : Int32} (hp : ¬ ((¬ x < 0 ∧ x < nI 2) ∧ ¬ y < 0 ∧ y < nI 8)) : CT g mX3_giveRow 1 0 0 [.ref 46, .int x, .int y, .int v] σ (PQ σ (.int (bi false))) := by
  refine CT.of (by decide) (Nat.le_of_ble_eq_true rfl) ?_
  refine q_iload_n dX3_giveRow_0 rfl rfl ?_
  refine q_iload_n dX3_giveRow_1 rfl rfl ?_
  refine q_callS (As := [.int x, .int y]) (rest := []) dX3_giveRow_2 vX3_142 (z3_hasPlace) rfl rfl (Nat.le_of_ble_eq_true rfl) (by omega) (by omega) (by omega) (k_p ?_)
  refine q_if_neB (tgt := 10) dX3_giveRow_5 (by decide) (fun c5 => ?_) (fun c5 => ?_)
  · exact absurd (of_decide_eq_true c5) hp
  · skip
    refine q_iconst (v := nI 0) dX3_giveRow_8 rfl ?_
    refine q_ireturn dX3_giveRow_9 rfl rfl (by omega) (by omega) ?_
    exact ⟨rfl, rfl⟩
theorem z3_readRow_okE (hS : SK σ) (hx : XR σ s) {x y : Int32} {a c : Nat} (ha : a < 2) (hc : c < 8) (e1 : x = nI a) (e2 : y = nI c) : CT g mX3_readRow 1 0 0 [.ref 46, .int x, .int y] σ (PQ (uI σ 46 6 (xR s a c)) (.int (bi true))) := by
  subst e1 e2; exact z3_readRow_ok hS hx ha hc
theorem z3_giveRow_okE (hS : SK σ) (hx : XR σ s) {x : Int32} {a c : Nat} (ha : a < 2) (hc : c < 8) (e1 : x = nI c) {v : Int32} : CT g mX3_giveRow 1 0 0 [.ref 46, .int (nI a), .int x, .int v] σ (WQ (.int (bi true)) (fun σ' => RFr σ σ' ∧ XR σ' (grS s a c v))) := by
  subst e1; exact z3_giveRow_ok hS hx ha hc
theorem z3_divide_ok (hS : SK σ) {x y : Int32} (hy : ¬ y = 0) : CT g mX3_divide 0 0 0 [.ref 46, .int x, .int y] σ (PQ (uI σ 46 6 (x / y)) (.int (bi true))) := by
  refine CT.of (by decide) (Nat.le_of_ble_eq_true rfl) ?_
  refine q_iload_n dX3_divide_0 rfl rfl ?_
  refine q_if_ne (tgt := 6) dX3_divide_1 (by decide) (fun c1 => ?_) (fun c1 => ?_)
  · skip
    refine q_aload_n dX3_divide_6 rfl rfl rfl ?_
    refine q_iload_n dX3_divide_7 rfl rfl ?_
    refine q_iload_n dX3_divide_8 rfl rfl ?_
    refine q_idiv dX3_divide_9 hy ?_
    refine q_puti dX3_divide_10 fX3_104 rfl (Or.inl rfl) (ty_c hS (by decide) rfl) ?_
    refine q_iconst (v := nI 1) dX3_divide_13 rfl ?_
    refine q_ireturn dX3_divide_14 rfl rfl (by omega) (by omega) ?_
    exact ⟨rfl, rfl⟩
  · exact absurd c1 hy
theorem z3_divide_er (hS : SK σ) {x y : Int32} (hy : y = 0) : CT g mX3_divide 0 0 0 [.ref 46, .int x, .int y] σ (PQ σ (.int (bi false))) := by
  refine CT.of (by decide) (Nat.le_of_ble_eq_true rfl) ?_
  refine q_iload_n dX3_divide_0 rfl rfl ?_
  refine q_if_ne (tgt := 6) dX3_divide_1 (by decide) (fun c1 => ?_) (fun c1 => ?_)
  · exact absurd hy c1
  · skip
    refine q_iconst (v := nI 0) dX3_divide_4 rfl ?_
    refine q_ireturn dX3_divide_5 rfl rfl (by omega) (by omega) ?_
    exact ⟨rfl, rfl⟩
theorem bi_1 {c : Bool} : bi c = nI 1 ↔ c = true := by cases c <;> decide
theorem wkF_c {x y : Int32} {rw : Nat → Nat → Int32} : wkF (nI 43) x y rw = some (x + y) ∧ wkF (nI 45) x y rw = some (x - y) ∧ wkF (nI 42) x y rw = some (x * y) ∧ wkF (nI 38) x y rw = some (x &&& y) ∧ wkF (nI 94) x y rw = some (x ^^^ y) ∧ wkF (nI 47) x y rw = (if y = 0 then none else some (x / y)) ∧ wkF (nI 114) x y rw = (if (¬ x < 0 ∧ x < nI 2) ∧ ¬ y < 0 ∧ y < nI 8 then some (rw x.toNatClampNeg y.toNatClampNeg) else none) := by
  refine ⟨if_pos rfl, ?_, ?_, ?_, ?_, ?_, ?_⟩
  all_goals unfold wkF
  all_goals repeat rw [if_neg (by decide)]
  all_goals repeat rw [if_pos rfl]
theorem opv_d {x : SUM} (h : SMW x) : OPD x.2.1 ∧ OPD x.2.2 := by
  rcases h with ⟨-, a, b⟩ | ⟨-, ⟨w, h1, h2⟩, b⟩
  · exact ⟨a, b⟩
  · exact ⟨Or.inl ⟨w, by omega, h2⟩, b⟩
theorem sm_c {x : SUM} (hm : SMW x) : x.1 = nI 43 ∨ x.1 = nI 45 ∨ x.1 = nI 42 ∨ x.1 = nI 38 ∨ x.1 = nI 94 ∨ x.1 = nI 47 ∨ (x.1 = nI 114 ∧ ∃ w, w < 2 ∧ x.2.1 = nI w) := by
  rcases hm with ⟨h | h | h | h | h | h, -⟩ | ⟨h, h2, -⟩
  · exact Or.inl h
  · exact Or.inr (Or.inl h)
  · exact Or.inr (Or.inr (Or.inl h))
  · exact Or.inr (Or.inr (Or.inr (Or.inr (Or.inr (Or.inl h)))))
  · exact Or.inr (Or.inr (Or.inr (Or.inl h)))
  · exact Or.inr (Or.inr (Or.inr (Or.inr (Or.inl h))))
  · exact Or.inr (Or.inr (Or.inr (Or.inr (Or.inr (Or.inr ⟨h, h2⟩)))))
theorem z3_work_ok {b : Nat} {ss : List SUM} {e : Nat} (hS : SK σ) (hx : XR σ s) (hb : RB σ b) (hs : SR σ b ss false) (he : e < ss.length) (hm : SMW (ss.getD e (0, 0, 0))) {v : Int32} (hv : wkR s (ss.getD e (0, 0, 0)) = some v) : CT g mX3_work 2 0 0 [.ref 46, .ref (b + 17), .int (nI e)] σ (WkQ σ (wkS s e) true (fun σ' => sI σ' 46 6 = v)) := by
  have hb14 : b = 14 ∨ 99 ≤ b := by rcases hb.1 with h | ⟨j, h⟩ <;> omega
  obtain ⟨s1, s2, s3, s4⟩ := hs
  have g1 := hx.2.2.2.1 e (by omega)
  have g2 := hx.2.2.2.2.2.2.2
  obtain ⟨g3, g4, g5⟩ := s4 e he
  have od := opv_d hm
  have W := wkF_c (x := opV (xN s) (ss.getD e (0, 0, 0)).2.1) (y := opV (xN s) (ss.getD e (0, 0, 0)).2.2) (rw := xR s)
  unfold wkR at hv
  rcases sm_c hm with hc | hc | hc | hc | hc | hc | ⟨hc, w, hw, hw2⟩
  · rw [hc, W.1] at hv
    refine CT.of (by decide) (Nat.le_of_ble_eq_true rfl) ?_
    refine q_aload_n dX3_work_0 rfl rfl rfl ?_
    refine q_getr (r := 53) dX3_work_1 fX3_26 rfl (ty_c hS (by decide) rfl) (hS.2 46 4 53 rfl) ?_
    refine q_iload_n dX3_work_4 rfl rfl ?_
    refine q_dup2 dX3_work_5 rfl rfl ?_
    refine q_iald (x := xW s e) (j := e) dX3_work_6 (ty_c hS (by decide) rfl) (ix_n (by omega) (by omega)) g1 ?_
    refine q_iconst (v := nI 1) dX3_work_7 rfl ?_
    refine q_iadd dX3_work_8 ?_
    refine q_iast (j := e) dX3_work_9 (ty_c hS (by decide) rfl) (ix_n (by omega) (by omega)) ?_
    refine q_aload_n dX3_work_10 rfl rfl rfl ?_
    refine q_dup dX3_work_11 rfl ?_
    refine q_geti (x := xA s) dX3_work_12 fX3_79 rfl (ty_c hS (by decide) rfl) (Eq.trans (rd_off (by decide)) g2) ?_
    refine q_iconst (v := nI 1) dX3_work_15 rfl ?_
    refine q_iadd dX3_work_16 ?_
    refine q_puti dX3_work_17 fX3_79 rfl (Or.inl rfl) (ty_c hS (by decide) rfl) ?_
    refine q_aload_n dX3_work_20 rfl rfl rfl ?_
    refine q_aload_n dX3_work_21 rfl rfl rfl ?_
    refine q_getr (r := b + 19) dX3_work_22 fX3_146 rfl (ty_r hb 17 rfl) (hb.2.2 17 1 19 rfl) ?_
    refine q_iload_n dX3_work_25 rfl rfl ?_
    refine q_iald (x := (ss.getD e (0, 0, 0)).2.1) (j := e) dX3_work_26 (ty_r hb 19 rfl) (ix_n (by omega) (by omega)) (Eq.trans (rd_off (by omega)) (Eq.trans (rd_off (by omega)) g4)) ?_
    refine q_callV (As := [.int ((ss.getD e (0, 0, 0)).2.1)]) (rest := []) dX3_work_27 vX3_110 (ty_c hS (by decide) rfl) ⟨by decide, rfl⟩ (z3_valueOf (σ := (uI (uI σ 53 e ((xW s e) + (nI 1))) 46 11 ((xA s) + (nI 1)))) (s := wkS s e) hS hx.wk od.1) rfl rfl (Nat.le_of_ble_eq_true rfl) (by omega) (by omega) (by omega) (k_p ?_)
    refine q_istore_n dX3_work_30 rfl (by decide) (ls' := [(3, .int (opV (xN s) (ss.getD e (0, 0, 0)).2.1)), (0, .ref 46), (1, .ref (b + 17)), (2, .int (nI e))]) rfl ?_
    refine q_aload_n dX3_work_31 rfl rfl rfl ?_
    refine q_aload_n dX3_work_32 rfl rfl rfl ?_
    refine q_getr (r := b + 20) dX3_work_33 fX3_149 rfl (ty_r hb 17 rfl) (hb.2.2 17 2 20 rfl) ?_
    refine q_iload_n dX3_work_36 rfl rfl ?_
    refine q_iald (x := (ss.getD e (0, 0, 0)).2.2) (j := e) dX3_work_37 (ty_r hb 20 rfl) (ix_n (by omega) (by omega)) (Eq.trans (rd_off (by omega)) (Eq.trans (rd_off (by omega)) g5)) ?_
    refine q_callV (As := [.int ((ss.getD e (0, 0, 0)).2.2)]) (rest := []) dX3_work_38 vX3_110 (ty_c hS (by decide) rfl) ⟨by decide, rfl⟩ (z3_valueOf (σ := (uI (uI σ 53 e ((xW s e) + (nI 1))) 46 11 ((xA s) + (nI 1)))) (s := wkS s e) hS hx.wk od.2) rfl rfl (Nat.le_of_ble_eq_true rfl) (by omega) (by omega) (by omega) (k_p ?_)
    refine q_istore dX3_work_41 (by decide) (ls' := [(4, .int (opV (xN s) (ss.getD e (0, 0, 0)).2.2)), (3, .int (opV (xN s) (ss.getD e (0, 0, 0)).2.1)), (0, .ref 46), (1, .ref (b + 17)), (2, .int (nI e))]) rfl ?_
    refine q_aload_n dX3_work_43 rfl rfl rfl ?_
    refine q_getr (r := b + 18) dX3_work_44 fX3_152 rfl (ty_r hb 17 rfl) (hb.2.2 17 0 18 rfl) ?_
    refine q_iload_n dX3_work_47 rfl rfl ?_
    refine q_iald (x := nI 43) (j := e) dX3_work_48 (ty_r hb 18 rfl) (ix_n (by omega) (by omega)) (Eq.trans (rd_off (by omega)) (Eq.trans (rd_off (by omega)) (g3.trans hc))) ?_
    by_cases w49_43 : 43 = 43
    · refine q_lookEq 43 (tgt := 108) (off := 59) dX3_work_49 (by rw [w49_43]) (by decide) (by decide) rfl (by decide) ?_
      refine q_aload_n dX3_work_108 rfl rfl rfl ?_
      refine q_iload_n dX3_work_109 rfl rfl ?_
      refine q_iload dX3_work_110 rfl ?_
      refine q_iadd dX3_work_112 ?_
      refine q_puti dX3_work_113 fX3_104 rfl (Or.inl rfl) (ty_c hS (by decide) rfl) ?_
      refine q_iconst (v := nI 1) dX3_work_116 rfl ?_
      refine q_ireturn dX3_work_117 rfl rfl (by omega) (by omega) ?_
      exact ⟨rfl, ((RFr.rf.uI (by decide) (by omega)).uI (by decide) (by omega)).uI (by decide) (by omega), hx.wk.re (by omega), uI_self.trans (Option.some.inj hv)⟩
    omega
  · rw [hc, W.2.1] at hv
    refine CT.of (by decide) (Nat.le_of_ble_eq_true rfl) ?_
    refine q_aload_n dX3_work_0 rfl rfl rfl ?_
    refine q_getr (r := 53) dX3_work_1 fX3_26 rfl (ty_c hS (by decide) rfl) (hS.2 46 4 53 rfl) ?_
    refine q_iload_n dX3_work_4 rfl rfl ?_
    refine q_dup2 dX3_work_5 rfl rfl ?_
    refine q_iald (x := xW s e) (j := e) dX3_work_6 (ty_c hS (by decide) rfl) (ix_n (by omega) (by omega)) g1 ?_
    refine q_iconst (v := nI 1) dX3_work_7 rfl ?_
    refine q_iadd dX3_work_8 ?_
    refine q_iast (j := e) dX3_work_9 (ty_c hS (by decide) rfl) (ix_n (by omega) (by omega)) ?_
    refine q_aload_n dX3_work_10 rfl rfl rfl ?_
    refine q_dup dX3_work_11 rfl ?_
    refine q_geti (x := xA s) dX3_work_12 fX3_79 rfl (ty_c hS (by decide) rfl) (Eq.trans (rd_off (by decide)) g2) ?_
    refine q_iconst (v := nI 1) dX3_work_15 rfl ?_
    refine q_iadd dX3_work_16 ?_
    refine q_puti dX3_work_17 fX3_79 rfl (Or.inl rfl) (ty_c hS (by decide) rfl) ?_
    refine q_aload_n dX3_work_20 rfl rfl rfl ?_
    refine q_aload_n dX3_work_21 rfl rfl rfl ?_
    refine q_getr (r := b + 19) dX3_work_22 fX3_146 rfl (ty_r hb 17 rfl) (hb.2.2 17 1 19 rfl) ?_
    refine q_iload_n dX3_work_25 rfl rfl ?_
    refine q_iald (x := (ss.getD e (0, 0, 0)).2.1) (j := e) dX3_work_26 (ty_r hb 19 rfl) (ix_n (by omega) (by omega)) (Eq.trans (rd_off (by omega)) (Eq.trans (rd_off (by omega)) g4)) ?_
    refine q_callV (As := [.int ((ss.getD e (0, 0, 0)).2.1)]) (rest := []) dX3_work_27 vX3_110 (ty_c hS (by decide) rfl) ⟨by decide, rfl⟩ (z3_valueOf (σ := (uI (uI σ 53 e ((xW s e) + (nI 1))) 46 11 ((xA s) + (nI 1)))) (s := wkS s e) hS hx.wk od.1) rfl rfl (Nat.le_of_ble_eq_true rfl) (by omega) (by omega) (by omega) (k_p ?_)
    refine q_istore_n dX3_work_30 rfl (by decide) (ls' := [(3, .int (opV (xN s) (ss.getD e (0, 0, 0)).2.1)), (0, .ref 46), (1, .ref (b + 17)), (2, .int (nI e))]) rfl ?_
    refine q_aload_n dX3_work_31 rfl rfl rfl ?_
    refine q_aload_n dX3_work_32 rfl rfl rfl ?_
    refine q_getr (r := b + 20) dX3_work_33 fX3_149 rfl (ty_r hb 17 rfl) (hb.2.2 17 2 20 rfl) ?_
    refine q_iload_n dX3_work_36 rfl rfl ?_
    refine q_iald (x := (ss.getD e (0, 0, 0)).2.2) (j := e) dX3_work_37 (ty_r hb 20 rfl) (ix_n (by omega) (by omega)) (Eq.trans (rd_off (by omega)) (Eq.trans (rd_off (by omega)) g5)) ?_
    refine q_callV (As := [.int ((ss.getD e (0, 0, 0)).2.2)]) (rest := []) dX3_work_38 vX3_110 (ty_c hS (by decide) rfl) ⟨by decide, rfl⟩ (z3_valueOf (σ := (uI (uI σ 53 e ((xW s e) + (nI 1))) 46 11 ((xA s) + (nI 1)))) (s := wkS s e) hS hx.wk od.2) rfl rfl (Nat.le_of_ble_eq_true rfl) (by omega) (by omega) (by omega) (k_p ?_)
    refine q_istore dX3_work_41 (by decide) (ls' := [(4, .int (opV (xN s) (ss.getD e (0, 0, 0)).2.2)), (3, .int (opV (xN s) (ss.getD e (0, 0, 0)).2.1)), (0, .ref 46), (1, .ref (b + 17)), (2, .int (nI e))]) rfl ?_
    refine q_aload_n dX3_work_43 rfl rfl rfl ?_
    refine q_getr (r := b + 18) dX3_work_44 fX3_152 rfl (ty_r hb 17 rfl) (hb.2.2 17 0 18 rfl) ?_
    refine q_iload_n dX3_work_47 rfl rfl ?_
    refine q_iald (x := nI 45) (j := e) dX3_work_48 (ty_r hb 18 rfl) (ix_n (by omega) (by omega)) (Eq.trans (rd_off (by omega)) (Eq.trans (rd_off (by omega)) (g3.trans hc))) ?_
    by_cases w49_45 : 45 = 45
    · refine q_lookEq 45 (tgt := 118) (off := 69) dX3_work_49 (by rw [w49_45]) (by decide) (by decide) rfl (by decide) ?_
      refine q_aload_n dX3_work_118 rfl rfl rfl ?_
      refine q_iload_n dX3_work_119 rfl rfl ?_
      refine q_iload dX3_work_120 rfl ?_
      refine q_isub dX3_work_122 ?_
      refine q_puti dX3_work_123 fX3_104 rfl (Or.inl rfl) (ty_c hS (by decide) rfl) ?_
      refine q_iconst (v := nI 1) dX3_work_126 rfl ?_
      refine q_ireturn dX3_work_127 rfl rfl (by omega) (by omega) ?_
      exact ⟨rfl, ((RFr.rf.uI (by decide) (by omega)).uI (by decide) (by omega)).uI (by decide) (by omega), hx.wk.re (by omega), uI_self.trans (Option.some.inj hv)⟩
    omega
  · rw [hc, W.2.2.1] at hv
    refine CT.of (by decide) (Nat.le_of_ble_eq_true rfl) ?_
    refine q_aload_n dX3_work_0 rfl rfl rfl ?_
    refine q_getr (r := 53) dX3_work_1 fX3_26 rfl (ty_c hS (by decide) rfl) (hS.2 46 4 53 rfl) ?_
    refine q_iload_n dX3_work_4 rfl rfl ?_
    refine q_dup2 dX3_work_5 rfl rfl ?_
    refine q_iald (x := xW s e) (j := e) dX3_work_6 (ty_c hS (by decide) rfl) (ix_n (by omega) (by omega)) g1 ?_
    refine q_iconst (v := nI 1) dX3_work_7 rfl ?_
    refine q_iadd dX3_work_8 ?_
    refine q_iast (j := e) dX3_work_9 (ty_c hS (by decide) rfl) (ix_n (by omega) (by omega)) ?_
    refine q_aload_n dX3_work_10 rfl rfl rfl ?_
    refine q_dup dX3_work_11 rfl ?_
    refine q_geti (x := xA s) dX3_work_12 fX3_79 rfl (ty_c hS (by decide) rfl) (Eq.trans (rd_off (by decide)) g2) ?_
    refine q_iconst (v := nI 1) dX3_work_15 rfl ?_
    refine q_iadd dX3_work_16 ?_
    refine q_puti dX3_work_17 fX3_79 rfl (Or.inl rfl) (ty_c hS (by decide) rfl) ?_
    refine q_aload_n dX3_work_20 rfl rfl rfl ?_
    refine q_aload_n dX3_work_21 rfl rfl rfl ?_
    refine q_getr (r := b + 19) dX3_work_22 fX3_146 rfl (ty_r hb 17 rfl) (hb.2.2 17 1 19 rfl) ?_
    refine q_iload_n dX3_work_25 rfl rfl ?_
    refine q_iald (x := (ss.getD e (0, 0, 0)).2.1) (j := e) dX3_work_26 (ty_r hb 19 rfl) (ix_n (by omega) (by omega)) (Eq.trans (rd_off (by omega)) (Eq.trans (rd_off (by omega)) g4)) ?_
    refine q_callV (As := [.int ((ss.getD e (0, 0, 0)).2.1)]) (rest := []) dX3_work_27 vX3_110 (ty_c hS (by decide) rfl) ⟨by decide, rfl⟩ (z3_valueOf (σ := (uI (uI σ 53 e ((xW s e) + (nI 1))) 46 11 ((xA s) + (nI 1)))) (s := wkS s e) hS hx.wk od.1) rfl rfl (Nat.le_of_ble_eq_true rfl) (by omega) (by omega) (by omega) (k_p ?_)
    refine q_istore_n dX3_work_30 rfl (by decide) (ls' := [(3, .int (opV (xN s) (ss.getD e (0, 0, 0)).2.1)), (0, .ref 46), (1, .ref (b + 17)), (2, .int (nI e))]) rfl ?_
    refine q_aload_n dX3_work_31 rfl rfl rfl ?_
    refine q_aload_n dX3_work_32 rfl rfl rfl ?_
    refine q_getr (r := b + 20) dX3_work_33 fX3_149 rfl (ty_r hb 17 rfl) (hb.2.2 17 2 20 rfl) ?_
    refine q_iload_n dX3_work_36 rfl rfl ?_
    refine q_iald (x := (ss.getD e (0, 0, 0)).2.2) (j := e) dX3_work_37 (ty_r hb 20 rfl) (ix_n (by omega) (by omega)) (Eq.trans (rd_off (by omega)) (Eq.trans (rd_off (by omega)) g5)) ?_
    refine q_callV (As := [.int ((ss.getD e (0, 0, 0)).2.2)]) (rest := []) dX3_work_38 vX3_110 (ty_c hS (by decide) rfl) ⟨by decide, rfl⟩ (z3_valueOf (σ := (uI (uI σ 53 e ((xW s e) + (nI 1))) 46 11 ((xA s) + (nI 1)))) (s := wkS s e) hS hx.wk od.2) rfl rfl (Nat.le_of_ble_eq_true rfl) (by omega) (by omega) (by omega) (k_p ?_)
    refine q_istore dX3_work_41 (by decide) (ls' := [(4, .int (opV (xN s) (ss.getD e (0, 0, 0)).2.2)), (3, .int (opV (xN s) (ss.getD e (0, 0, 0)).2.1)), (0, .ref 46), (1, .ref (b + 17)), (2, .int (nI e))]) rfl ?_
    refine q_aload_n dX3_work_43 rfl rfl rfl ?_
    refine q_getr (r := b + 18) dX3_work_44 fX3_152 rfl (ty_r hb 17 rfl) (hb.2.2 17 0 18 rfl) ?_
    refine q_iload_n dX3_work_47 rfl rfl ?_
    refine q_iald (x := nI 42) (j := e) dX3_work_48 (ty_r hb 18 rfl) (ix_n (by omega) (by omega)) (Eq.trans (rd_off (by omega)) (Eq.trans (rd_off (by omega)) (g3.trans hc))) ?_
    by_cases w49_42 : 42 = 42
    · refine q_lookEq 42 (tgt := 128) (off := 79) dX3_work_49 (by rw [w49_42]) (by decide) (by decide) rfl (by decide) ?_
      refine q_aload_n dX3_work_128 rfl rfl rfl ?_
      refine q_iload_n dX3_work_129 rfl rfl ?_
      refine q_iload dX3_work_130 rfl ?_
      refine q_imul dX3_work_132 ?_
      refine q_puti dX3_work_133 fX3_104 rfl (Or.inl rfl) (ty_c hS (by decide) rfl) ?_
      refine q_iconst (v := nI 1) dX3_work_136 rfl ?_
      refine q_ireturn dX3_work_137 rfl rfl (by omega) (by omega) ?_
      exact ⟨rfl, ((RFr.rf.uI (by decide) (by omega)).uI (by decide) (by omega)).uI (by decide) (by omega), hx.wk.re (by omega), uI_self.trans (Option.some.inj hv)⟩
    omega
  · rw [hc, W.2.2.2.1] at hv
    refine CT.of (by decide) (Nat.le_of_ble_eq_true rfl) ?_
    refine q_aload_n dX3_work_0 rfl rfl rfl ?_
    refine q_getr (r := 53) dX3_work_1 fX3_26 rfl (ty_c hS (by decide) rfl) (hS.2 46 4 53 rfl) ?_
    refine q_iload_n dX3_work_4 rfl rfl ?_
    refine q_dup2 dX3_work_5 rfl rfl ?_
    refine q_iald (x := xW s e) (j := e) dX3_work_6 (ty_c hS (by decide) rfl) (ix_n (by omega) (by omega)) g1 ?_
    refine q_iconst (v := nI 1) dX3_work_7 rfl ?_
    refine q_iadd dX3_work_8 ?_
    refine q_iast (j := e) dX3_work_9 (ty_c hS (by decide) rfl) (ix_n (by omega) (by omega)) ?_
    refine q_aload_n dX3_work_10 rfl rfl rfl ?_
    refine q_dup dX3_work_11 rfl ?_
    refine q_geti (x := xA s) dX3_work_12 fX3_79 rfl (ty_c hS (by decide) rfl) (Eq.trans (rd_off (by decide)) g2) ?_
    refine q_iconst (v := nI 1) dX3_work_15 rfl ?_
    refine q_iadd dX3_work_16 ?_
    refine q_puti dX3_work_17 fX3_79 rfl (Or.inl rfl) (ty_c hS (by decide) rfl) ?_
    refine q_aload_n dX3_work_20 rfl rfl rfl ?_
    refine q_aload_n dX3_work_21 rfl rfl rfl ?_
    refine q_getr (r := b + 19) dX3_work_22 fX3_146 rfl (ty_r hb 17 rfl) (hb.2.2 17 1 19 rfl) ?_
    refine q_iload_n dX3_work_25 rfl rfl ?_
    refine q_iald (x := (ss.getD e (0, 0, 0)).2.1) (j := e) dX3_work_26 (ty_r hb 19 rfl) (ix_n (by omega) (by omega)) (Eq.trans (rd_off (by omega)) (Eq.trans (rd_off (by omega)) g4)) ?_
    refine q_callV (As := [.int ((ss.getD e (0, 0, 0)).2.1)]) (rest := []) dX3_work_27 vX3_110 (ty_c hS (by decide) rfl) ⟨by decide, rfl⟩ (z3_valueOf (σ := (uI (uI σ 53 e ((xW s e) + (nI 1))) 46 11 ((xA s) + (nI 1)))) (s := wkS s e) hS hx.wk od.1) rfl rfl (Nat.le_of_ble_eq_true rfl) (by omega) (by omega) (by omega) (k_p ?_)
    refine q_istore_n dX3_work_30 rfl (by decide) (ls' := [(3, .int (opV (xN s) (ss.getD e (0, 0, 0)).2.1)), (0, .ref 46), (1, .ref (b + 17)), (2, .int (nI e))]) rfl ?_
    refine q_aload_n dX3_work_31 rfl rfl rfl ?_
    refine q_aload_n dX3_work_32 rfl rfl rfl ?_
    refine q_getr (r := b + 20) dX3_work_33 fX3_149 rfl (ty_r hb 17 rfl) (hb.2.2 17 2 20 rfl) ?_
    refine q_iload_n dX3_work_36 rfl rfl ?_
    refine q_iald (x := (ss.getD e (0, 0, 0)).2.2) (j := e) dX3_work_37 (ty_r hb 20 rfl) (ix_n (by omega) (by omega)) (Eq.trans (rd_off (by omega)) (Eq.trans (rd_off (by omega)) g5)) ?_
    refine q_callV (As := [.int ((ss.getD e (0, 0, 0)).2.2)]) (rest := []) dX3_work_38 vX3_110 (ty_c hS (by decide) rfl) ⟨by decide, rfl⟩ (z3_valueOf (σ := (uI (uI σ 53 e ((xW s e) + (nI 1))) 46 11 ((xA s) + (nI 1)))) (s := wkS s e) hS hx.wk od.2) rfl rfl (Nat.le_of_ble_eq_true rfl) (by omega) (by omega) (by omega) (k_p ?_)
    refine q_istore dX3_work_41 (by decide) (ls' := [(4, .int (opV (xN s) (ss.getD e (0, 0, 0)).2.2)), (3, .int (opV (xN s) (ss.getD e (0, 0, 0)).2.1)), (0, .ref 46), (1, .ref (b + 17)), (2, .int (nI e))]) rfl ?_
    refine q_aload_n dX3_work_43 rfl rfl rfl ?_
    refine q_getr (r := b + 18) dX3_work_44 fX3_152 rfl (ty_r hb 17 rfl) (hb.2.2 17 0 18 rfl) ?_
    refine q_iload_n dX3_work_47 rfl rfl ?_
    refine q_iald (x := nI 38) (j := e) dX3_work_48 (ty_r hb 18 rfl) (ix_n (by omega) (by omega)) (Eq.trans (rd_off (by omega)) (Eq.trans (rd_off (by omega)) (g3.trans hc))) ?_
    by_cases w49_38 : 38 = 38
    · refine q_lookEq 38 (tgt := 138) (off := 89) dX3_work_49 (by rw [w49_38]) (by decide) (by decide) rfl (by decide) ?_
      refine q_aload_n dX3_work_138 rfl rfl rfl ?_
      refine q_iload_n dX3_work_139 rfl rfl ?_
      refine q_iload dX3_work_140 rfl ?_
      refine q_iand dX3_work_142 ?_
      refine q_puti dX3_work_143 fX3_104 rfl (Or.inl rfl) (ty_c hS (by decide) rfl) ?_
      refine q_iconst (v := nI 1) dX3_work_146 rfl ?_
      refine q_ireturn dX3_work_147 rfl rfl (by omega) (by omega) ?_
      exact ⟨rfl, ((RFr.rf.uI (by decide) (by omega)).uI (by decide) (by omega)).uI (by decide) (by omega), hx.wk.re (by omega), uI_self.trans (Option.some.inj hv)⟩
    omega
  · rw [hc, W.2.2.2.2.1] at hv
    refine CT.of (by decide) (Nat.le_of_ble_eq_true rfl) ?_
    refine q_aload_n dX3_work_0 rfl rfl rfl ?_
    refine q_getr (r := 53) dX3_work_1 fX3_26 rfl (ty_c hS (by decide) rfl) (hS.2 46 4 53 rfl) ?_
    refine q_iload_n dX3_work_4 rfl rfl ?_
    refine q_dup2 dX3_work_5 rfl rfl ?_
    refine q_iald (x := xW s e) (j := e) dX3_work_6 (ty_c hS (by decide) rfl) (ix_n (by omega) (by omega)) g1 ?_
    refine q_iconst (v := nI 1) dX3_work_7 rfl ?_
    refine q_iadd dX3_work_8 ?_
    refine q_iast (j := e) dX3_work_9 (ty_c hS (by decide) rfl) (ix_n (by omega) (by omega)) ?_
    refine q_aload_n dX3_work_10 rfl rfl rfl ?_
    refine q_dup dX3_work_11 rfl ?_
    refine q_geti (x := xA s) dX3_work_12 fX3_79 rfl (ty_c hS (by decide) rfl) (Eq.trans (rd_off (by decide)) g2) ?_
    refine q_iconst (v := nI 1) dX3_work_15 rfl ?_
    refine q_iadd dX3_work_16 ?_
    refine q_puti dX3_work_17 fX3_79 rfl (Or.inl rfl) (ty_c hS (by decide) rfl) ?_
    refine q_aload_n dX3_work_20 rfl rfl rfl ?_
    refine q_aload_n dX3_work_21 rfl rfl rfl ?_
    refine q_getr (r := b + 19) dX3_work_22 fX3_146 rfl (ty_r hb 17 rfl) (hb.2.2 17 1 19 rfl) ?_
    refine q_iload_n dX3_work_25 rfl rfl ?_
    refine q_iald (x := (ss.getD e (0, 0, 0)).2.1) (j := e) dX3_work_26 (ty_r hb 19 rfl) (ix_n (by omega) (by omega)) (Eq.trans (rd_off (by omega)) (Eq.trans (rd_off (by omega)) g4)) ?_
    refine q_callV (As := [.int ((ss.getD e (0, 0, 0)).2.1)]) (rest := []) dX3_work_27 vX3_110 (ty_c hS (by decide) rfl) ⟨by decide, rfl⟩ (z3_valueOf (σ := (uI (uI σ 53 e ((xW s e) + (nI 1))) 46 11 ((xA s) + (nI 1)))) (s := wkS s e) hS hx.wk od.1) rfl rfl (Nat.le_of_ble_eq_true rfl) (by omega) (by omega) (by omega) (k_p ?_)
    refine q_istore_n dX3_work_30 rfl (by decide) (ls' := [(3, .int (opV (xN s) (ss.getD e (0, 0, 0)).2.1)), (0, .ref 46), (1, .ref (b + 17)), (2, .int (nI e))]) rfl ?_
    refine q_aload_n dX3_work_31 rfl rfl rfl ?_
    refine q_aload_n dX3_work_32 rfl rfl rfl ?_
    refine q_getr (r := b + 20) dX3_work_33 fX3_149 rfl (ty_r hb 17 rfl) (hb.2.2 17 2 20 rfl) ?_
    refine q_iload_n dX3_work_36 rfl rfl ?_
    refine q_iald (x := (ss.getD e (0, 0, 0)).2.2) (j := e) dX3_work_37 (ty_r hb 20 rfl) (ix_n (by omega) (by omega)) (Eq.trans (rd_off (by omega)) (Eq.trans (rd_off (by omega)) g5)) ?_
    refine q_callV (As := [.int ((ss.getD e (0, 0, 0)).2.2)]) (rest := []) dX3_work_38 vX3_110 (ty_c hS (by decide) rfl) ⟨by decide, rfl⟩ (z3_valueOf (σ := (uI (uI σ 53 e ((xW s e) + (nI 1))) 46 11 ((xA s) + (nI 1)))) (s := wkS s e) hS hx.wk od.2) rfl rfl (Nat.le_of_ble_eq_true rfl) (by omega) (by omega) (by omega) (k_p ?_)
    refine q_istore dX3_work_41 (by decide) (ls' := [(4, .int (opV (xN s) (ss.getD e (0, 0, 0)).2.2)), (3, .int (opV (xN s) (ss.getD e (0, 0, 0)).2.1)), (0, .ref 46), (1, .ref (b + 17)), (2, .int (nI e))]) rfl ?_
    refine q_aload_n dX3_work_43 rfl rfl rfl ?_
    refine q_getr (r := b + 18) dX3_work_44 fX3_152 rfl (ty_r hb 17 rfl) (hb.2.2 17 0 18 rfl) ?_
    refine q_iload_n dX3_work_47 rfl rfl ?_
    refine q_iald (x := nI 94) (j := e) dX3_work_48 (ty_r hb 18 rfl) (ix_n (by omega) (by omega)) (Eq.trans (rd_off (by omega)) (Eq.trans (rd_off (by omega)) (g3.trans hc))) ?_
    by_cases w49_94 : 94 = 94
    · refine q_lookEq 94 (tgt := 148) (off := 99) dX3_work_49 (by rw [w49_94]) (by decide) (by decide) rfl (by decide) ?_
      refine q_aload_n dX3_work_148 rfl rfl rfl ?_
      refine q_iload_n dX3_work_149 rfl rfl ?_
      refine q_iload dX3_work_150 rfl ?_
      refine q_ixor dX3_work_152 ?_
      refine q_puti dX3_work_153 fX3_104 rfl (Or.inl rfl) (ty_c hS (by decide) rfl) ?_
      refine q_iconst (v := nI 1) dX3_work_156 rfl ?_
      refine q_ireturn dX3_work_157 rfl rfl (by omega) (by omega) ?_
      exact ⟨rfl, ((RFr.rf.uI (by decide) (by omega)).uI (by decide) (by omega)).uI (by decide) (by omega), hx.wk.re (by omega), uI_self.trans (Option.some.inj hv)⟩
    omega
  · rw [hc, W.2.2.2.2.2.1] at hv
    by_cases hy : opV (xN s) (ss.getD e (0, 0, 0)).2.2 = 0
    · rw [if_pos hy] at hv; cases hv
    · rw [if_neg hy] at hv
      refine CT.of (by decide) (Nat.le_of_ble_eq_true rfl) ?_
      refine q_aload_n dX3_work_0 rfl rfl rfl ?_
      refine q_getr (r := 53) dX3_work_1 fX3_26 rfl (ty_c hS (by decide) rfl) (hS.2 46 4 53 rfl) ?_
      refine q_iload_n dX3_work_4 rfl rfl ?_
      refine q_dup2 dX3_work_5 rfl rfl ?_
      refine q_iald (x := xW s e) (j := e) dX3_work_6 (ty_c hS (by decide) rfl) (ix_n (by omega) (by omega)) g1 ?_
      refine q_iconst (v := nI 1) dX3_work_7 rfl ?_
      refine q_iadd dX3_work_8 ?_
      refine q_iast (j := e) dX3_work_9 (ty_c hS (by decide) rfl) (ix_n (by omega) (by omega)) ?_
      refine q_aload_n dX3_work_10 rfl rfl rfl ?_
      refine q_dup dX3_work_11 rfl ?_
      refine q_geti (x := xA s) dX3_work_12 fX3_79 rfl (ty_c hS (by decide) rfl) (Eq.trans (rd_off (by decide)) g2) ?_
      refine q_iconst (v := nI 1) dX3_work_15 rfl ?_
      refine q_iadd dX3_work_16 ?_
      refine q_puti dX3_work_17 fX3_79 rfl (Or.inl rfl) (ty_c hS (by decide) rfl) ?_
      refine q_aload_n dX3_work_20 rfl rfl rfl ?_
      refine q_aload_n dX3_work_21 rfl rfl rfl ?_
      refine q_getr (r := b + 19) dX3_work_22 fX3_146 rfl (ty_r hb 17 rfl) (hb.2.2 17 1 19 rfl) ?_
      refine q_iload_n dX3_work_25 rfl rfl ?_
      refine q_iald (x := (ss.getD e (0, 0, 0)).2.1) (j := e) dX3_work_26 (ty_r hb 19 rfl) (ix_n (by omega) (by omega)) (Eq.trans (rd_off (by omega)) (Eq.trans (rd_off (by omega)) g4)) ?_
      refine q_callV (As := [.int ((ss.getD e (0, 0, 0)).2.1)]) (rest := []) dX3_work_27 vX3_110 (ty_c hS (by decide) rfl) ⟨by decide, rfl⟩ (z3_valueOf (σ := (uI (uI σ 53 e ((xW s e) + (nI 1))) 46 11 ((xA s) + (nI 1)))) (s := wkS s e) hS hx.wk od.1) rfl rfl (Nat.le_of_ble_eq_true rfl) (by omega) (by omega) (by omega) (k_p ?_)
      refine q_istore_n dX3_work_30 rfl (by decide) (ls' := [(3, .int (opV (xN s) (ss.getD e (0, 0, 0)).2.1)), (0, .ref 46), (1, .ref (b + 17)), (2, .int (nI e))]) rfl ?_
      refine q_aload_n dX3_work_31 rfl rfl rfl ?_
      refine q_aload_n dX3_work_32 rfl rfl rfl ?_
      refine q_getr (r := b + 20) dX3_work_33 fX3_149 rfl (ty_r hb 17 rfl) (hb.2.2 17 2 20 rfl) ?_
      refine q_iload_n dX3_work_36 rfl rfl ?_
      refine q_iald (x := (ss.getD e (0, 0, 0)).2.2) (j := e) dX3_work_37 (ty_r hb 20 rfl) (ix_n (by omega) (by omega)) (Eq.trans (rd_off (by omega)) (Eq.trans (rd_off (by omega)) g5)) ?_
      refine q_callV (As := [.int ((ss.getD e (0, 0, 0)).2.2)]) (rest := []) dX3_work_38 vX3_110 (ty_c hS (by decide) rfl) ⟨by decide, rfl⟩ (z3_valueOf (σ := (uI (uI σ 53 e ((xW s e) + (nI 1))) 46 11 ((xA s) + (nI 1)))) (s := wkS s e) hS hx.wk od.2) rfl rfl (Nat.le_of_ble_eq_true rfl) (by omega) (by omega) (by omega) (k_p ?_)
      refine q_istore dX3_work_41 (by decide) (ls' := [(4, .int (opV (xN s) (ss.getD e (0, 0, 0)).2.2)), (3, .int (opV (xN s) (ss.getD e (0, 0, 0)).2.1)), (0, .ref 46), (1, .ref (b + 17)), (2, .int (nI e))]) rfl ?_
      refine q_aload_n dX3_work_43 rfl rfl rfl ?_
      refine q_getr (r := b + 18) dX3_work_44 fX3_152 rfl (ty_r hb 17 rfl) (hb.2.2 17 0 18 rfl) ?_
      refine q_iload_n dX3_work_47 rfl rfl ?_
      refine q_iald (x := nI 47) (j := e) dX3_work_48 (ty_r hb 18 rfl) (ix_n (by omega) (by omega)) (Eq.trans (rd_off (by omega)) (Eq.trans (rd_off (by omega)) (g3.trans hc))) ?_
      by_cases w49_47 : 47 = 47
      · refine q_lookEq 47 (tgt := 158) (off := 109) dX3_work_49 (by rw [w49_47]) (by decide) (by decide) rfl (by decide) ?_
        refine q_aload_n dX3_work_158 rfl rfl rfl ?_
        refine q_iload_n dX3_work_159 rfl rfl ?_
        refine q_iload dX3_work_160 rfl ?_
        refine q_callV (As := [.int (opV (xN s) (ss.getD e (0, 0, 0)).2.1), .int (opV (xN s) (ss.getD e (0, 0, 0)).2.2)]) (rest := []) dX3_work_162 vX3_155 (ty_c hS (by decide) rfl) ⟨by decide, rfl⟩ (z3_divide_ok (σ := (uI (uI σ 53 e ((xW s e) + (nI 1))) 46 11 ((xA s) + (nI 1)))) hS hy) rfl rfl (Nat.le_of_ble_eq_true rfl) (by omega) (by omega) (by omega) (k_p ?_)
        refine q_ireturn dX3_work_165 rfl (bi_nar _) (by omega) (by omega) ?_
        exact ⟨rfl, ((RFr.rf.uI (by decide) (by omega)).uI (by decide) (by omega)).uI (by decide) (by omega), hx.wk.re (by omega), uI_self.trans (Option.some.inj hv)⟩
      omega
  · rw [hc, W.2.2.2.2.2.2] at hv
    by_cases hy : (¬ opV (xN s) (ss.getD e (0, 0, 0)).2.1 < 0 ∧ opV (xN s) (ss.getD e (0, 0, 0)).2.1 < nI 2) ∧ ¬ opV (xN s) (ss.getD e (0, 0, 0)).2.2 < 0 ∧ opV (xN s) (ss.getD e (0, 0, 0)).2.2 < nI 8
    · rw [if_pos hy] at hv
      obtain ⟨p1, p2, p3, p4, p5, p6⟩ := hp_yes hy
      rw [p5, p6, nI_clamp (by omega), nI_clamp (by omega)] at hv
      refine CT.of (by decide) (Nat.le_of_ble_eq_true rfl) ?_
      refine q_aload_n dX3_work_0 rfl rfl rfl ?_
      refine q_getr (r := 53) dX3_work_1 fX3_26 rfl (ty_c hS (by decide) rfl) (hS.2 46 4 53 rfl) ?_
      refine q_iload_n dX3_work_4 rfl rfl ?_
      refine q_dup2 dX3_work_5 rfl rfl ?_
      refine q_iald (x := xW s e) (j := e) dX3_work_6 (ty_c hS (by decide) rfl) (ix_n (by omega) (by omega)) g1 ?_
      refine q_iconst (v := nI 1) dX3_work_7 rfl ?_
      refine q_iadd dX3_work_8 ?_
      refine q_iast (j := e) dX3_work_9 (ty_c hS (by decide) rfl) (ix_n (by omega) (by omega)) ?_
      refine q_aload_n dX3_work_10 rfl rfl rfl ?_
      refine q_dup dX3_work_11 rfl ?_
      refine q_geti (x := xA s) dX3_work_12 fX3_79 rfl (ty_c hS (by decide) rfl) (Eq.trans (rd_off (by decide)) g2) ?_
      refine q_iconst (v := nI 1) dX3_work_15 rfl ?_
      refine q_iadd dX3_work_16 ?_
      refine q_puti dX3_work_17 fX3_79 rfl (Or.inl rfl) (ty_c hS (by decide) rfl) ?_
      refine q_aload_n dX3_work_20 rfl rfl rfl ?_
      refine q_aload_n dX3_work_21 rfl rfl rfl ?_
      refine q_getr (r := b + 19) dX3_work_22 fX3_146 rfl (ty_r hb 17 rfl) (hb.2.2 17 1 19 rfl) ?_
      refine q_iload_n dX3_work_25 rfl rfl ?_
      refine q_iald (x := (ss.getD e (0, 0, 0)).2.1) (j := e) dX3_work_26 (ty_r hb 19 rfl) (ix_n (by omega) (by omega)) (Eq.trans (rd_off (by omega)) (Eq.trans (rd_off (by omega)) g4)) ?_
      refine q_callV (As := [.int ((ss.getD e (0, 0, 0)).2.1)]) (rest := []) dX3_work_27 vX3_110 (ty_c hS (by decide) rfl) ⟨by decide, rfl⟩ (z3_valueOf (σ := (uI (uI σ 53 e ((xW s e) + (nI 1))) 46 11 ((xA s) + (nI 1)))) (s := wkS s e) hS hx.wk od.1) rfl rfl (Nat.le_of_ble_eq_true rfl) (by omega) (by omega) (by omega) (k_p ?_)
      refine q_istore_n dX3_work_30 rfl (by decide) (ls' := [(3, .int (opV (xN s) (ss.getD e (0, 0, 0)).2.1)), (0, .ref 46), (1, .ref (b + 17)), (2, .int (nI e))]) rfl ?_
      refine q_aload_n dX3_work_31 rfl rfl rfl ?_
      refine q_aload_n dX3_work_32 rfl rfl rfl ?_
      refine q_getr (r := b + 20) dX3_work_33 fX3_149 rfl (ty_r hb 17 rfl) (hb.2.2 17 2 20 rfl) ?_
      refine q_iload_n dX3_work_36 rfl rfl ?_
      refine q_iald (x := (ss.getD e (0, 0, 0)).2.2) (j := e) dX3_work_37 (ty_r hb 20 rfl) (ix_n (by omega) (by omega)) (Eq.trans (rd_off (by omega)) (Eq.trans (rd_off (by omega)) g5)) ?_
      refine q_callV (As := [.int ((ss.getD e (0, 0, 0)).2.2)]) (rest := []) dX3_work_38 vX3_110 (ty_c hS (by decide) rfl) ⟨by decide, rfl⟩ (z3_valueOf (σ := (uI (uI σ 53 e ((xW s e) + (nI 1))) 46 11 ((xA s) + (nI 1)))) (s := wkS s e) hS hx.wk od.2) rfl rfl (Nat.le_of_ble_eq_true rfl) (by omega) (by omega) (by omega) (k_p ?_)
      refine q_istore dX3_work_41 (by decide) (ls' := [(4, .int (opV (xN s) (ss.getD e (0, 0, 0)).2.2)), (3, .int (opV (xN s) (ss.getD e (0, 0, 0)).2.1)), (0, .ref 46), (1, .ref (b + 17)), (2, .int (nI e))]) rfl ?_
      refine q_aload_n dX3_work_43 rfl rfl rfl ?_
      refine q_getr (r := b + 18) dX3_work_44 fX3_152 rfl (ty_r hb 17 rfl) (hb.2.2 17 0 18 rfl) ?_
      refine q_iload_n dX3_work_47 rfl rfl ?_
      refine q_iald (x := nI 114) (j := e) dX3_work_48 (ty_r hb 18 rfl) (ix_n (by omega) (by omega)) (Eq.trans (rd_off (by omega)) (Eq.trans (rd_off (by omega)) (g3.trans hc))) ?_
      refine q_lookNe [38, 42, 43, 45, 47, 94] (tgt := 166) dX3_work_49 (by decide) rfl (by decide) (fun v h1 e => by have e2 := nI_inj (by omega) (by revert v; decide) e; simp at h1; omega) (by decide) ?_
      refine q_aload_n dX3_work_166 rfl rfl rfl ?_
      refine q_iload_n dX3_work_167 rfl rfl ?_
      refine q_iload dX3_work_168 rfl ?_
      refine q_callV (As := [.int (opV (xN s) (ss.getD e (0, 0, 0)).2.1), .int (opV (xN s) (ss.getD e (0, 0, 0)).2.2)]) (rest := []) dX3_work_170 vX3_158 (ty_c hS (by decide) rfl) ⟨by decide, rfl⟩ (z3_readRow_okE (σ := (uI (uI σ 53 e ((xW s e) + (nI 1))) 46 11 ((xA s) + (nI 1)))) (s := wkS s e) hS hx.wk p3 p4 p5 p6) rfl rfl (Nat.le_of_ble_eq_true rfl) (by omega) (by omega) (by omega) (k_p ?_)
      refine q_ireturn dX3_work_173 rfl (bi_nar _) (by omega) (by omega) ?_
      exact ⟨rfl, ((RFr.rf.uI (by decide) (by omega)).uI (by decide) (by omega)).uI (by decide) (by omega), hx.wk.re (by omega), uI_self.trans (Option.some.inj hv)⟩
    · rw [if_neg hy] at hv; cases hv
theorem z3_work_er {b : Nat} {ss : List SUM} {e : Nat} (hS : SK σ) (hx : XR σ s) (hb : RB σ b) (hs : SR σ b ss false) (he : e < ss.length) (hm : SMW (ss.getD e (0, 0, 0))) (hv : wkR s (ss.getD e (0, 0, 0)) = none) : CT g mX3_work 2 0 0 [.ref 46, .ref (b + 17), .int (nI e)] σ (WkQ σ (wkS s e) false (fun _ => True)) := by
  have hb14 : b = 14 ∨ 99 ≤ b := by rcases hb.1 with h | ⟨j, h⟩ <;> omega
  obtain ⟨s1, s2, s3, s4⟩ := hs
  have g1 := hx.2.2.2.1 e (by omega)
  have g2 := hx.2.2.2.2.2.2.2
  obtain ⟨g3, g4, g5⟩ := s4 e he
  have od := opv_d hm
  have W := wkF_c (x := opV (xN s) (ss.getD e (0, 0, 0)).2.1) (y := opV (xN s) (ss.getD e (0, 0, 0)).2.2) (rw := xR s)
  unfold wkR at hv
  rcases sm_c hm with hc | hc | hc | hc | hc | hc | ⟨hc, w, hw, hw2⟩
  · rw [hc, W.1] at hv; cases hv
  · rw [hc, W.2.1] at hv; cases hv
  · rw [hc, W.2.2.1] at hv; cases hv
  · rw [hc, W.2.2.2.1] at hv; cases hv
  · rw [hc, W.2.2.2.2.1] at hv; cases hv
  · rw [hc, W.2.2.2.2.2.1] at hv
    by_cases hy : opV (xN s) (ss.getD e (0, 0, 0)).2.2 = 0
    · skip
      refine CT.of (by decide) (Nat.le_of_ble_eq_true rfl) ?_
      refine q_aload_n dX3_work_0 rfl rfl rfl ?_
      refine q_getr (r := 53) dX3_work_1 fX3_26 rfl (ty_c hS (by decide) rfl) (hS.2 46 4 53 rfl) ?_
      refine q_iload_n dX3_work_4 rfl rfl ?_
      refine q_dup2 dX3_work_5 rfl rfl ?_
      refine q_iald (x := xW s e) (j := e) dX3_work_6 (ty_c hS (by decide) rfl) (ix_n (by omega) (by omega)) g1 ?_
      refine q_iconst (v := nI 1) dX3_work_7 rfl ?_
      refine q_iadd dX3_work_8 ?_
      refine q_iast (j := e) dX3_work_9 (ty_c hS (by decide) rfl) (ix_n (by omega) (by omega)) ?_
      refine q_aload_n dX3_work_10 rfl rfl rfl ?_
      refine q_dup dX3_work_11 rfl ?_
      refine q_geti (x := xA s) dX3_work_12 fX3_79 rfl (ty_c hS (by decide) rfl) (Eq.trans (rd_off (by decide)) g2) ?_
      refine q_iconst (v := nI 1) dX3_work_15 rfl ?_
      refine q_iadd dX3_work_16 ?_
      refine q_puti dX3_work_17 fX3_79 rfl (Or.inl rfl) (ty_c hS (by decide) rfl) ?_
      refine q_aload_n dX3_work_20 rfl rfl rfl ?_
      refine q_aload_n dX3_work_21 rfl rfl rfl ?_
      refine q_getr (r := b + 19) dX3_work_22 fX3_146 rfl (ty_r hb 17 rfl) (hb.2.2 17 1 19 rfl) ?_
      refine q_iload_n dX3_work_25 rfl rfl ?_
      refine q_iald (x := (ss.getD e (0, 0, 0)).2.1) (j := e) dX3_work_26 (ty_r hb 19 rfl) (ix_n (by omega) (by omega)) (Eq.trans (rd_off (by omega)) (Eq.trans (rd_off (by omega)) g4)) ?_
      refine q_callV (As := [.int ((ss.getD e (0, 0, 0)).2.1)]) (rest := []) dX3_work_27 vX3_110 (ty_c hS (by decide) rfl) ⟨by decide, rfl⟩ (z3_valueOf (σ := (uI (uI σ 53 e ((xW s e) + (nI 1))) 46 11 ((xA s) + (nI 1)))) (s := wkS s e) hS hx.wk od.1) rfl rfl (Nat.le_of_ble_eq_true rfl) (by omega) (by omega) (by omega) (k_p ?_)
      refine q_istore_n dX3_work_30 rfl (by decide) (ls' := [(3, .int (opV (xN s) (ss.getD e (0, 0, 0)).2.1)), (0, .ref 46), (1, .ref (b + 17)), (2, .int (nI e))]) rfl ?_
      refine q_aload_n dX3_work_31 rfl rfl rfl ?_
      refine q_aload_n dX3_work_32 rfl rfl rfl ?_
      refine q_getr (r := b + 20) dX3_work_33 fX3_149 rfl (ty_r hb 17 rfl) (hb.2.2 17 2 20 rfl) ?_
      refine q_iload_n dX3_work_36 rfl rfl ?_
      refine q_iald (x := (ss.getD e (0, 0, 0)).2.2) (j := e) dX3_work_37 (ty_r hb 20 rfl) (ix_n (by omega) (by omega)) (Eq.trans (rd_off (by omega)) (Eq.trans (rd_off (by omega)) g5)) ?_
      refine q_callV (As := [.int ((ss.getD e (0, 0, 0)).2.2)]) (rest := []) dX3_work_38 vX3_110 (ty_c hS (by decide) rfl) ⟨by decide, rfl⟩ (z3_valueOf (σ := (uI (uI σ 53 e ((xW s e) + (nI 1))) 46 11 ((xA s) + (nI 1)))) (s := wkS s e) hS hx.wk od.2) rfl rfl (Nat.le_of_ble_eq_true rfl) (by omega) (by omega) (by omega) (k_p ?_)
      refine q_istore dX3_work_41 (by decide) (ls' := [(4, .int (opV (xN s) (ss.getD e (0, 0, 0)).2.2)), (3, .int (opV (xN s) (ss.getD e (0, 0, 0)).2.1)), (0, .ref 46), (1, .ref (b + 17)), (2, .int (nI e))]) rfl ?_
      refine q_aload_n dX3_work_43 rfl rfl rfl ?_
      refine q_getr (r := b + 18) dX3_work_44 fX3_152 rfl (ty_r hb 17 rfl) (hb.2.2 17 0 18 rfl) ?_
      refine q_iload_n dX3_work_47 rfl rfl ?_
      refine q_iald (x := nI 47) (j := e) dX3_work_48 (ty_r hb 18 rfl) (ix_n (by omega) (by omega)) (Eq.trans (rd_off (by omega)) (Eq.trans (rd_off (by omega)) (g3.trans hc))) ?_
      by_cases w49_47 : 47 = 47
      · refine q_lookEq 47 (tgt := 158) (off := 109) dX3_work_49 (by rw [w49_47]) (by decide) (by decide) rfl (by decide) ?_
        refine q_aload_n dX3_work_158 rfl rfl rfl ?_
        refine q_iload_n dX3_work_159 rfl rfl ?_
        refine q_iload dX3_work_160 rfl ?_
        refine q_callV (As := [.int (opV (xN s) (ss.getD e (0, 0, 0)).2.1), .int (opV (xN s) (ss.getD e (0, 0, 0)).2.2)]) (rest := []) dX3_work_162 vX3_155 (ty_c hS (by decide) rfl) ⟨by decide, rfl⟩ (z3_divide_er (σ := (uI (uI σ 53 e ((xW s e) + (nI 1))) 46 11 ((xA s) + (nI 1)))) hS hy) rfl rfl (Nat.le_of_ble_eq_true rfl) (by omega) (by omega) (by omega) (k_p ?_)
        refine q_ireturn dX3_work_165 rfl (bi_nar _) (by omega) (by omega) ?_
        exact ⟨rfl, (RFr.rf.uI (by decide) (by omega)).uI (by decide) (by omega), hx.wk, trivial⟩
      omega
    · rw [if_neg hy] at hv; cases hv
  · rw [hc, W.2.2.2.2.2.2] at hv
    by_cases hy : (¬ opV (xN s) (ss.getD e (0, 0, 0)).2.1 < 0 ∧ opV (xN s) (ss.getD e (0, 0, 0)).2.1 < nI 2) ∧ ¬ opV (xN s) (ss.getD e (0, 0, 0)).2.2 < 0 ∧ opV (xN s) (ss.getD e (0, 0, 0)).2.2 < nI 8
    · rw [if_pos hy] at hv; cases hv
    · skip
      refine CT.of (by decide) (Nat.le_of_ble_eq_true rfl) ?_
      refine q_aload_n dX3_work_0 rfl rfl rfl ?_
      refine q_getr (r := 53) dX3_work_1 fX3_26 rfl (ty_c hS (by decide) rfl) (hS.2 46 4 53 rfl) ?_
      refine q_iload_n dX3_work_4 rfl rfl ?_
      refine q_dup2 dX3_work_5 rfl rfl ?_
      refine q_iald (x := xW s e) (j := e) dX3_work_6 (ty_c hS (by decide) rfl) (ix_n (by omega) (by omega)) g1 ?_
      refine q_iconst (v := nI 1) dX3_work_7 rfl ?_
      refine q_iadd dX3_work_8 ?_
      refine q_iast (j := e) dX3_work_9 (ty_c hS (by decide) rfl) (ix_n (by omega) (by omega)) ?_
      refine q_aload_n dX3_work_10 rfl rfl rfl ?_
      refine q_dup dX3_work_11 rfl ?_
      refine q_geti (x := xA s) dX3_work_12 fX3_79 rfl (ty_c hS (by decide) rfl) (Eq.trans (rd_off (by decide)) g2) ?_
      refine q_iconst (v := nI 1) dX3_work_15 rfl ?_
      refine q_iadd dX3_work_16 ?_
      refine q_puti dX3_work_17 fX3_79 rfl (Or.inl rfl) (ty_c hS (by decide) rfl) ?_
      refine q_aload_n dX3_work_20 rfl rfl rfl ?_
      refine q_aload_n dX3_work_21 rfl rfl rfl ?_
      refine q_getr (r := b + 19) dX3_work_22 fX3_146 rfl (ty_r hb 17 rfl) (hb.2.2 17 1 19 rfl) ?_
      refine q_iload_n dX3_work_25 rfl rfl ?_
      refine q_iald (x := (ss.getD e (0, 0, 0)).2.1) (j := e) dX3_work_26 (ty_r hb 19 rfl) (ix_n (by omega) (by omega)) (Eq.trans (rd_off (by omega)) (Eq.trans (rd_off (by omega)) g4)) ?_
      refine q_callV (As := [.int ((ss.getD e (0, 0, 0)).2.1)]) (rest := []) dX3_work_27 vX3_110 (ty_c hS (by decide) rfl) ⟨by decide, rfl⟩ (z3_valueOf (σ := (uI (uI σ 53 e ((xW s e) + (nI 1))) 46 11 ((xA s) + (nI 1)))) (s := wkS s e) hS hx.wk od.1) rfl rfl (Nat.le_of_ble_eq_true rfl) (by omega) (by omega) (by omega) (k_p ?_)
      refine q_istore_n dX3_work_30 rfl (by decide) (ls' := [(3, .int (opV (xN s) (ss.getD e (0, 0, 0)).2.1)), (0, .ref 46), (1, .ref (b + 17)), (2, .int (nI e))]) rfl ?_
      refine q_aload_n dX3_work_31 rfl rfl rfl ?_
      refine q_aload_n dX3_work_32 rfl rfl rfl ?_
      refine q_getr (r := b + 20) dX3_work_33 fX3_149 rfl (ty_r hb 17 rfl) (hb.2.2 17 2 20 rfl) ?_
      refine q_iload_n dX3_work_36 rfl rfl ?_
      refine q_iald (x := (ss.getD e (0, 0, 0)).2.2) (j := e) dX3_work_37 (ty_r hb 20 rfl) (ix_n (by omega) (by omega)) (Eq.trans (rd_off (by omega)) (Eq.trans (rd_off (by omega)) g5)) ?_
      refine q_callV (As := [.int ((ss.getD e (0, 0, 0)).2.2)]) (rest := []) dX3_work_38 vX3_110 (ty_c hS (by decide) rfl) ⟨by decide, rfl⟩ (z3_valueOf (σ := (uI (uI σ 53 e ((xW s e) + (nI 1))) 46 11 ((xA s) + (nI 1)))) (s := wkS s e) hS hx.wk od.2) rfl rfl (Nat.le_of_ble_eq_true rfl) (by omega) (by omega) (by omega) (k_p ?_)
      refine q_istore dX3_work_41 (by decide) (ls' := [(4, .int (opV (xN s) (ss.getD e (0, 0, 0)).2.2)), (3, .int (opV (xN s) (ss.getD e (0, 0, 0)).2.1)), (0, .ref 46), (1, .ref (b + 17)), (2, .int (nI e))]) rfl ?_
      refine q_aload_n dX3_work_43 rfl rfl rfl ?_
      refine q_getr (r := b + 18) dX3_work_44 fX3_152 rfl (ty_r hb 17 rfl) (hb.2.2 17 0 18 rfl) ?_
      refine q_iload_n dX3_work_47 rfl rfl ?_
      refine q_iald (x := nI 114) (j := e) dX3_work_48 (ty_r hb 18 rfl) (ix_n (by omega) (by omega)) (Eq.trans (rd_off (by omega)) (Eq.trans (rd_off (by omega)) (g3.trans hc))) ?_
      refine q_lookNe [38, 42, 43, 45, 47, 94] (tgt := 166) dX3_work_49 (by decide) rfl (by decide) (fun v h1 e => by have e2 := nI_inj (by omega) (by revert v; decide) e; simp at h1; omega) (by decide) ?_
      refine q_aload_n dX3_work_166 rfl rfl rfl ?_
      refine q_iload_n dX3_work_167 rfl rfl ?_
      refine q_iload dX3_work_168 rfl ?_
      refine q_callV (As := [.int (opV (xN s) (ss.getD e (0, 0, 0)).2.1), .int (opV (xN s) (ss.getD e (0, 0, 0)).2.2)]) (rest := []) dX3_work_170 vX3_158 (ty_c hS (by decide) rfl) ⟨by decide, rfl⟩ (z3_readRow_er (σ := (uI (uI σ 53 e ((xW s e) + (nI 1))) 46 11 ((xA s) + (nI 1)))) hS hy) rfl rfl (Nat.le_of_ble_eq_true rfl) (by omega) (by omega) (by omega) (k_p ?_)
      refine q_ireturn dX3_work_173 rfl (bi_nar _) (by omega) (by omega) ?_
      exact ⟨rfl, (RFr.rf.uI (by decide) (by omega)).uI (by decide) (by omega), hx.wk, trivial⟩

end RUNW
