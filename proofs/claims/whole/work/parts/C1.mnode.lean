/-! The model: a NODE is said. -/
section MNO
variable {g : GG} {σ : HS} {q : PS} {i : Nat} {W : List Nat}
theorem z9_sayName (hS : SK σ) (hW : TXm σ W) {t : Nat} (ht : t < 48) (hl : W.length + 11 ≤ 60000) : CT g mX9_sayOperand 2 0 0 [.ref 58, .int (nI t), .int (nI 0)] σ (TwQ σ (W ++ opT (nI (1000000000 + t)))) := by
  have := z9_sayOp (g := g) hS hW (o := nI (1000000000 + t)) (Or.inr (Or.inr ⟨t, ht, rfl⟩)) hl
  rw [(opn_nm (by omega)).1, (opn_nm (by omega)).2] at this
  exact this
theorem z9_sayNode (hS : SK σ) (hi : i < 4) (hr : MR σ i q) (hk : MOK q) {l n : Nat} (hl : l < 3) (ho : OBm σ q l) (hn0 : n < (psS q).length) (hW : TXm σ W) (hl9 : W.length + (ndT q l n).length + 11 ≤ 60000) : CT g mX9_sayNode 5 0 0 [.ref 58, .int (nI i), .int (nI l), .int (nI n)] σ (TwQ σ (W ++ ndT q l n)) := by
  have hN := NN_le hk.1
  have hn : n < NN q := by unfold NN; omega
  obtain ⟨hc, hw, hnb, hxx, -⟩ := id hk
  have h32 := hw.2.2.2.1
  obtain ⟨o1, o2⟩ := rg_opd hw (n := n)
  obtain ⟨w0, w1⟩ := rg_w hc hw hnb hn
  have k6 : rK (rg q n) ≤ 6 := by rw [show rg q n = rr q n from if_pos hn0]; exact (st_w hw hn0).1
  have hcase := rg_cases hw hxx hn
  rcases hcase with ⟨k0, ⟨t, t1, t2⟩, e, e1, e2⟩ | ⟨k0, ⟨t, t1, t2⟩, -⟩ | ⟨k0, ⟨t, t1, t2⟩, -⟩ | ⟨k0, k7, -⟩
  · have es : smN q n = e := by unfold smN; rw [e2]; exact nI_clamp (by omega)
    have et : tgt q n = t := by unfold tgt; rw [t2]; exact nI_clamp (by omega)
    have hm := sm_w hw e1
    by_cases htk : tkn q l e n = true
    · skip
      have eA : ndT q l n = stX 7 ++ (opT (nI (1000000000 + t)) ++ stX 8 ++ (116 :: numT e)) ++ stX 11 := congrArg (fun z => stX 7 ++ z ++ stX 11) (show ndB q l n = opT (nI (1000000000 + t)) ++ stX 8 ++ (116 :: numT e) from by unfold ndB gvT; rw [if_pos k0, es, et, if_pos htk])
      rw [eA] at hl9 ⊢
      have hL := hl9
      simp only [sx6, sx7, sx8, sx9, sx10, sx11, sx12, sx13, sx14, sx15, sx16, List.length_append, List.length_cons, List.length_nil] at hL
      refine CT.of (by decide) (Nat.le_of_ble_eq_true rfl) ?_
      refine q_sipush (v := nI 240) dX9_sayNode_0 rfl ?_
      refine q_iload_n dX9_sayNode_3 rfl rfl ?_
      refine q_imulN dX9_sayNode_4 ?_
      refine q_iload_n dX9_sayNode_5 rfl rfl ?_
      refine q_iaddN dX9_sayNode_6 ?_
      refine q_istore dX9_sayNode_7 (by decide) (ls' := [(4, .int (nI ((240 * i) + n))), (0, .ref 58), (1, .int (nI i)), (2, .int (nI l)), (3, .int (nI n))]) rfl ?_
      refine q_aload_n dX9_sayNode_9 rfl rfl rfl ?_
      refine q_callV (As := []) (rest := []) dX9_sayNode_10 vX9_432 (ty_c hS (by decide) rfl) ⟨by decide, rfl⟩ (z9_begin hS hW (by first | omega | (simp only [sx6, sx7, sx8, sx9, sx10, sx11, sx12, sx13, sx14, sx15, sx16, List.length_append, List.length_cons, List.length_nil]; omega))) rfl rfl (Nat.le_of_ble_eq_true rfl) (by omega) (by omega) (by omega) (k_v (fun s10 q10 => ?_))
      have f10 := (FR9.rf).tr q10.1
      have N10 := (hr.tx hk f10).1.2.2.2.2.2.1 n hn
      have zS10 : SK s10 := (SK.fq f10 hS)
      refine q_aload_n dX9_sayNode_13 rfl rfl rfl ?_
      refine q_getr (r := 67) dX9_sayNode_14 fX9_58 rfl (ty_c zS10 (by decide) rfl) (zS10.2 58 15 67 rfl) ?_
      refine q_iload dX9_sayNode_17 rfl ?_
      refine q_iald (x := nI 0) (j := ((240 * i) + n)) dX9_sayNode_19 (ty_c zS10 (by decide) rfl) (ix_n (by omega) (by omega)) (N10.1.1.trans (by rw [k0])) ?_
      by_cases w20_0 : 0 = 0
      · refine q_tableEq 0 (tgt := 60) (off := 40) dX9_sayNode_20 (by rw [w20_0]) (by decide) rfl (by decide) ?_
        refine q_aload_n dX9_sayNode_60 rfl rfl rfl ?_
        refine q_aload_n dX9_sayNode_61 rfl rfl rfl ?_
        refine q_getr (r := 69) dX9_sayNode_62 fX9_64 rfl (ty_c zS10 (by decide) rfl) (zS10.2 58 17 69 rfl) ?_
        refine q_iload dX9_sayNode_65 rfl ?_
        refine q_iald (x := nI t) (j := ((240 * i) + n)) dX9_sayNode_67 (ty_c zS10 (by decide) rfl) (ix_n (by omega) (by omega)) (N10.1.2.2.1.trans ((if_pos (by omega)).trans t2)) ?_
        refine q_iconst (v := nI 0) dX9_sayNode_68 rfl ?_
        refine q_callV (As := [.int (nI t), .int (nI 0)]) (rest := []) dX9_sayNode_69 vX9_423 (ty_c zS10 (by decide) rfl) ⟨by decide, rfl⟩ (z9_sayName zS10 q10.2 t1 (by first | omega | (simp only [sx6, sx7, sx8, sx9, sx10, sx11, sx12, sx13, sx14, sx15, sx16, List.length_append, List.length_cons, List.length_nil]; omega))) rfl rfl (Nat.le_of_ble_eq_true rfl) (by omega) (by omega) (by omega) (k_v (fun s69 q69 => ?_))
        have f69 := (f10).tr q69.1
        have N69 := (hr.tx hk f69).1.2.2.2.2.2.1 n hn
        have zS69 : SK s69 := (SK.fq f69 hS)
        refine q_aload_n dX9_sayNode_72 rfl rfl rfl ?_
        refine q_callV (As := []) (rest := []) dX9_sayNode_73 vX9_438 (ty_c zS69 (by decide) rfl) ⟨by decide, rfl⟩ (z9_isT zS69 q69.2 (by first | omega | (simp only [sx6, sx7, sx8, sx9, sx10, sx11, sx12, sx13, sx14, sx15, sx16, List.length_append, List.length_cons, List.length_nil]; omega))) rfl rfl (Nat.le_of_ble_eq_true rfl) (by omega) (by omega) (by omega) (k_v (fun s73 q73 => ?_))
        have f73 := (f69).tr q73.1
        have N73 := (hr.tx hk f73).1.2.2.2.2.2.1 n hn
        have zS73 : SK s73 := (SK.fq f73 hS)
        refine q_aload_n dX9_sayNode_76 rfl rfl rfl ?_
        refine q_iload_n dX9_sayNode_77 rfl rfl ?_
        refine q_iload_n dX9_sayNode_78 rfl rfl ?_
        refine q_aload_n dX9_sayNode_79 rfl rfl rfl ?_
        refine q_getr (r := 70) dX9_sayNode_80 fX9_67 rfl (ty_c zS73 (by decide) rfl) (zS73.2 58 18 70 rfl) ?_
        refine q_iload dX9_sayNode_83 rfl ?_
        refine q_iald (x := nI e) (j := ((240 * i) + n)) dX9_sayNode_85 (ty_c zS73 (by decide) rfl) (ix_n (by omega) (by omega)) (N73.1.2.2.2.1.trans e2) ?_
        refine q_iload_n dX9_sayNode_86 rfl rfl ?_
        refine q_callV (As := [.int (nI i), .int (nI l), .int (nI e), .int (nI n)]) (rest := []) dX9_sayNode_87 vX9_385 (ty_c zS73 (by decide) rfl) ⟨by decide, rfl⟩ (z9_isTaken zS73 hi (hr.tx hk f73) hk hl e1 hn) rfl rfl (Nat.le_of_ble_eq_true rfl) (by omega) (by omega) (by omega) (k_p ?_)
        refine q_if_eqB (tgt := 107) dX9_sayNode_90 (by decide) (fun c90 => ?_) (fun c90 => ?_)
        · exact absurd htk (by rw [c90]; decide)
        · skip
          refine q_aload_n dX9_sayNode_93 rfl rfl rfl ?_
          refine q_aload_n dX9_sayNode_94 rfl rfl rfl ?_
          refine q_getr (r := 70) dX9_sayNode_95 fX9_67 rfl (ty_c zS73 (by decide) rfl) (zS73.2 58 18 70 rfl) ?_
          refine q_iload dX9_sayNode_98 rfl ?_
          refine q_iald (x := nI e) (j := ((240 * i) + n)) dX9_sayNode_100 (ty_c zS73 (by decide) rfl) (ix_n (by omega) (by omega)) (N73.1.2.2.2.1.trans e2) ?_
          refine q_callV (As := [.int (nI e)]) (rest := []) dX9_sayNode_101 vX9_435 (ty_c zS73 (by decide) rfl) ⟨by decide, rfl⟩ (z9_sayT zS73 q73.2 (b := e) (by omega) (by first | omega | (simp only [sx6, sx7, sx8, sx9, sx10, sx11, sx12, sx13, sx14, sx15, sx16, List.length_append, List.length_cons, List.length_nil]; omega))) rfl rfl (Nat.le_of_ble_eq_true rfl) (by omega) (by omega) (by omega) (k_v (fun s101 q101 => ?_))
          have f101 := (f73).tr q101.1
          have N101 := (hr.tx hk f101).1.2.2.2.2.2.1 n hn
          have zS101 : SK s101 := (SK.fq f101 hS)
          refine q_goto (tgt := 428) dX9_sayNode_104 (by decide) ?_
          refine q_aload_n dX9_sayNode_428 rfl rfl rfl ?_
          refine q_callV (As := []) (rest := []) dX9_sayNode_429 vX9_443 (ty_c zS101 (by decide) rfl) ⟨by decide, rfl⟩ (z9_close zS101 q101.2 (by first | omega | (simp only [sx6, sx7, sx8, sx9, sx10, sx11, sx12, sx13, sx14, sx15, sx16, List.length_append, List.length_cons, List.length_nil]; omega))) rfl rfl (Nat.le_of_ble_eq_true rfl) (by omega) (by omega) (by omega) (k_v (fun s429 q429 => ?_))
          have f429 := (f101).tr q429.1
          have N429 := (hr.tx hk f429).1.2.2.2.2.2.1 n hn
          have zS429 : SK s429 := (SK.fq f429 hS)
          refine q_return dX9_sayNode_432 rfl (by omega) (by omega) ?_
          exact ⟨rfl, f429, by simpa only [sx6, sx7, sx8, sx9, sx10, sx11, sx12, sx13, sx14, sx15, sx16, List.append_assoc, List.cons_append, List.nil_append, List.singleton_append] using q429.2⟩
      omega
    · skip
      have eA : ndT q l n = stX 7 ++ (opT (nI (1000000000 + t)) ++ stX 8 ++ smT (sm q e)) ++ stX 11 := congrArg (fun z => stX 7 ++ z ++ stX 11) (show ndB q l n = opT (nI (1000000000 + t)) ++ stX 8 ++ smT (sm q e) from by unfold ndB gvT; rw [if_pos k0, es, et, if_neg htk])
      rw [eA] at hl9 ⊢
      have hL := hl9
      simp only [sx6, sx7, sx8, sx9, sx10, sx11, sx12, sx13, sx14, sx15, sx16, List.length_append, List.length_cons, List.length_nil] at hL
      refine CT.of (by decide) (Nat.le_of_ble_eq_true rfl) ?_
      refine q_sipush (v := nI 240) dX9_sayNode_0 rfl ?_
      refine q_iload_n dX9_sayNode_3 rfl rfl ?_
      refine q_imulN dX9_sayNode_4 ?_
      refine q_iload_n dX9_sayNode_5 rfl rfl ?_
      refine q_iaddN dX9_sayNode_6 ?_
      refine q_istore dX9_sayNode_7 (by decide) (ls' := [(4, .int (nI ((240 * i) + n))), (0, .ref 58), (1, .int (nI i)), (2, .int (nI l)), (3, .int (nI n))]) rfl ?_
      refine q_aload_n dX9_sayNode_9 rfl rfl rfl ?_
      refine q_callV (As := []) (rest := []) dX9_sayNode_10 vX9_432 (ty_c hS (by decide) rfl) ⟨by decide, rfl⟩ (z9_begin hS hW (by first | omega | (simp only [sx6, sx7, sx8, sx9, sx10, sx11, sx12, sx13, sx14, sx15, sx16, List.length_append, List.length_cons, List.length_nil]; omega))) rfl rfl (Nat.le_of_ble_eq_true rfl) (by omega) (by omega) (by omega) (k_v (fun s10 q10 => ?_))
      have f10 := (FR9.rf).tr q10.1
      have N10 := (hr.tx hk f10).1.2.2.2.2.2.1 n hn
      have zS10 : SK s10 := (SK.fq f10 hS)
      refine q_aload_n dX9_sayNode_13 rfl rfl rfl ?_
      refine q_getr (r := 67) dX9_sayNode_14 fX9_58 rfl (ty_c zS10 (by decide) rfl) (zS10.2 58 15 67 rfl) ?_
      refine q_iload dX9_sayNode_17 rfl ?_
      refine q_iald (x := nI 0) (j := ((240 * i) + n)) dX9_sayNode_19 (ty_c zS10 (by decide) rfl) (ix_n (by omega) (by omega)) (N10.1.1.trans (by rw [k0])) ?_
      by_cases w20_0 : 0 = 0
      · refine q_tableEq 0 (tgt := 60) (off := 40) dX9_sayNode_20 (by rw [w20_0]) (by decide) rfl (by decide) ?_
        refine q_aload_n dX9_sayNode_60 rfl rfl rfl ?_
        refine q_aload_n dX9_sayNode_61 rfl rfl rfl ?_
        refine q_getr (r := 69) dX9_sayNode_62 fX9_64 rfl (ty_c zS10 (by decide) rfl) (zS10.2 58 17 69 rfl) ?_
        refine q_iload dX9_sayNode_65 rfl ?_
        refine q_iald (x := nI t) (j := ((240 * i) + n)) dX9_sayNode_67 (ty_c zS10 (by decide) rfl) (ix_n (by omega) (by omega)) (N10.1.2.2.1.trans ((if_pos (by omega)).trans t2)) ?_
        refine q_iconst (v := nI 0) dX9_sayNode_68 rfl ?_
        refine q_callV (As := [.int (nI t), .int (nI 0)]) (rest := []) dX9_sayNode_69 vX9_423 (ty_c zS10 (by decide) rfl) ⟨by decide, rfl⟩ (z9_sayName zS10 q10.2 t1 (by first | omega | (simp only [sx6, sx7, sx8, sx9, sx10, sx11, sx12, sx13, sx14, sx15, sx16, List.length_append, List.length_cons, List.length_nil]; omega))) rfl rfl (Nat.le_of_ble_eq_true rfl) (by omega) (by omega) (by omega) (k_v (fun s69 q69 => ?_))
        have f69 := (f10).tr q69.1
        have N69 := (hr.tx hk f69).1.2.2.2.2.2.1 n hn
        have zS69 : SK s69 := (SK.fq f69 hS)
        refine q_aload_n dX9_sayNode_72 rfl rfl rfl ?_
        refine q_callV (As := []) (rest := []) dX9_sayNode_73 vX9_438 (ty_c zS69 (by decide) rfl) ⟨by decide, rfl⟩ (z9_isT zS69 q69.2 (by first | omega | (simp only [sx6, sx7, sx8, sx9, sx10, sx11, sx12, sx13, sx14, sx15, sx16, List.length_append, List.length_cons, List.length_nil]; omega))) rfl rfl (Nat.le_of_ble_eq_true rfl) (by omega) (by omega) (by omega) (k_v (fun s73 q73 => ?_))
        have f73 := (f69).tr q73.1
        have N73 := (hr.tx hk f73).1.2.2.2.2.2.1 n hn
        have zS73 : SK s73 := (SK.fq f73 hS)
        refine q_aload_n dX9_sayNode_76 rfl rfl rfl ?_
        refine q_iload_n dX9_sayNode_77 rfl rfl ?_
        refine q_iload_n dX9_sayNode_78 rfl rfl ?_
        refine q_aload_n dX9_sayNode_79 rfl rfl rfl ?_
        refine q_getr (r := 70) dX9_sayNode_80 fX9_67 rfl (ty_c zS73 (by decide) rfl) (zS73.2 58 18 70 rfl) ?_
        refine q_iload dX9_sayNode_83 rfl ?_
        refine q_iald (x := nI e) (j := ((240 * i) + n)) dX9_sayNode_85 (ty_c zS73 (by decide) rfl) (ix_n (by omega) (by omega)) (N73.1.2.2.2.1.trans e2) ?_
        refine q_iload_n dX9_sayNode_86 rfl rfl ?_
        refine q_callV (As := [.int (nI i), .int (nI l), .int (nI e), .int (nI n)]) (rest := []) dX9_sayNode_87 vX9_385 (ty_c zS73 (by decide) rfl) ⟨by decide, rfl⟩ (z9_isTaken zS73 hi (hr.tx hk f73) hk hl e1 hn) rfl rfl (Nat.le_of_ble_eq_true rfl) (by omega) (by omega) (by omega) (k_p ?_)
        refine q_if_eqB (tgt := 107) dX9_sayNode_90 (by decide) (fun c90 => ?_) (fun c90 => ?_)
        · skip
          refine q_aload_n dX9_sayNode_107 rfl rfl rfl ?_
          refine q_iload_n dX9_sayNode_108 rfl rfl ?_
          refine q_aload_n dX9_sayNode_109 rfl rfl rfl ?_
          refine q_getr (r := 70) dX9_sayNode_110 fX9_67 rfl (ty_c zS73 (by decide) rfl) (zS73.2 58 18 70 rfl) ?_
          refine q_iload dX9_sayNode_113 rfl ?_
          refine q_iald (x := nI e) (j := ((240 * i) + n)) dX9_sayNode_115 (ty_c zS73 (by decide) rfl) (ix_n (by omega) (by omega)) (N73.1.2.2.2.1.trans e2) ?_
          refine q_callV (As := [.int (nI i), .int (nI e)]) (rest := []) dX9_sayNode_116 vX9_440 (ty_c zS73 (by decide) rfl) ⟨by decide, rfl⟩ (z9_saySum zS73 q73.2 hi (by omega) (SMm.tx f73 (hr.1.2.2.2.2.2.2 e e1)) hm (by first | omega | (simp only [sx6, sx7, sx8, sx9, sx10, sx11, sx12, sx13, sx14, sx15, sx16, List.length_append, List.length_cons, List.length_nil]; omega))) rfl rfl (Nat.le_of_ble_eq_true rfl) (by omega) (by omega) (by omega) (k_v (fun s116 q116 => ?_))
          have f116 := (f73).tr q116.1
          have N116 := (hr.tx hk f116).1.2.2.2.2.2.1 n hn
          have zS116 : SK s116 := (SK.fq f116 hS)
          refine q_goto (tgt := 428) dX9_sayNode_119 (by decide) ?_
          refine q_aload_n dX9_sayNode_428 rfl rfl rfl ?_
          refine q_callV (As := []) (rest := []) dX9_sayNode_429 vX9_443 (ty_c zS116 (by decide) rfl) ⟨by decide, rfl⟩ (z9_close zS116 q116.2 (by first | omega | (simp only [sx6, sx7, sx8, sx9, sx10, sx11, sx12, sx13, sx14, sx15, sx16, List.length_append, List.length_cons, List.length_nil]; omega))) rfl rfl (Nat.le_of_ble_eq_true rfl) (by omega) (by omega) (by omega) (k_v (fun s429 q429 => ?_))
          have f429 := (f116).tr q429.1
          have N429 := (hr.tx hk f429).1.2.2.2.2.2.1 n hn
          have zS429 : SK s429 := (SK.fq f429 hS)
          refine q_return dX9_sayNode_432 rfl (by omega) (by omega) ?_
          exact ⟨rfl, f429, by simpa only [sx6, sx7, sx8, sx9, sx10, sx11, sx12, sx13, sx14, sx15, sx16, List.append_assoc, List.cons_append, List.nil_append, List.singleton_append] using q429.2⟩
        · exact absurd c90 htk
      omega
  · have et : tgt q n = t := by unfold tgt; rw [t2]; exact nI_clamp (by omega)
    have eA : ndT q l n = stX 7 ++ (opT (nI (1000000000 + t)) ++ stX 8 ++ opT (rO0 (rg q n))) ++ stX 11 := congrArg (fun z => stX 7 ++ z ++ stX 11) (show ndB q l n = opT (nI (1000000000 + t)) ++ stX 8 ++ opT (rO0 (rg q n)) from by unfold ndB gvT; rw [if_neg (by omega), if_pos k0, et])
    rw [eA] at hl9 ⊢
    have hL := hl9
    simp only [sx6, sx7, sx8, sx9, sx10, sx11, sx12, sx13, sx14, sx15, sx16, List.length_append, List.length_cons, List.length_nil] at hL
    refine CT.of (by decide) (Nat.le_of_ble_eq_true rfl) ?_
    refine q_sipush (v := nI 240) dX9_sayNode_0 rfl ?_
    refine q_iload_n dX9_sayNode_3 rfl rfl ?_
    refine q_imulN dX9_sayNode_4 ?_
    refine q_iload_n dX9_sayNode_5 rfl rfl ?_
    refine q_iaddN dX9_sayNode_6 ?_
    refine q_istore dX9_sayNode_7 (by decide) (ls' := [(4, .int (nI ((240 * i) + n))), (0, .ref 58), (1, .int (nI i)), (2, .int (nI l)), (3, .int (nI n))]) rfl ?_
    refine q_aload_n dX9_sayNode_9 rfl rfl rfl ?_
    refine q_callV (As := []) (rest := []) dX9_sayNode_10 vX9_432 (ty_c hS (by decide) rfl) ⟨by decide, rfl⟩ (z9_begin hS hW (by first | omega | (simp only [sx6, sx7, sx8, sx9, sx10, sx11, sx12, sx13, sx14, sx15, sx16, List.length_append, List.length_cons, List.length_nil]; omega))) rfl rfl (Nat.le_of_ble_eq_true rfl) (by omega) (by omega) (by omega) (k_v (fun s10 q10 => ?_))
    have f10 := (FR9.rf).tr q10.1
    have N10 := (hr.tx hk f10).1.2.2.2.2.2.1 n hn
    have zS10 : SK s10 := (SK.fq f10 hS)
    refine q_aload_n dX9_sayNode_13 rfl rfl rfl ?_
    refine q_getr (r := 67) dX9_sayNode_14 fX9_58 rfl (ty_c zS10 (by decide) rfl) (zS10.2 58 15 67 rfl) ?_
    refine q_iload dX9_sayNode_17 rfl ?_
    refine q_iald (x := nI 1) (j := ((240 * i) + n)) dX9_sayNode_19 (ty_c zS10 (by decide) rfl) (ix_n (by omega) (by omega)) (N10.1.1.trans (by rw [k0])) ?_
    by_cases w20_1 : 1 = 1
    · refine q_tableEq 1 (tgt := 122) (off := 102) dX9_sayNode_20 (by rw [w20_1]) (by decide) rfl (by decide) ?_
      refine q_aload_n dX9_sayNode_122 rfl rfl rfl ?_
      refine q_aload_n dX9_sayNode_123 rfl rfl rfl ?_
      refine q_getr (r := 69) dX9_sayNode_124 fX9_64 rfl (ty_c zS10 (by decide) rfl) (zS10.2 58 17 69 rfl) ?_
      refine q_iload dX9_sayNode_127 rfl ?_
      refine q_iald (x := nI t) (j := ((240 * i) + n)) dX9_sayNode_129 (ty_c zS10 (by decide) rfl) (ix_n (by omega) (by omega)) (N10.1.2.2.1.trans ((if_pos (by omega)).trans t2)) ?_
      refine q_iconst (v := nI 0) dX9_sayNode_130 rfl ?_
      refine q_callV (As := [.int (nI t), .int (nI 0)]) (rest := []) dX9_sayNode_131 vX9_423 (ty_c zS10 (by decide) rfl) ⟨by decide, rfl⟩ (z9_sayName zS10 q10.2 t1 (by first | omega | (simp only [sx6, sx7, sx8, sx9, sx10, sx11, sx12, sx13, sx14, sx15, sx16, List.length_append, List.length_cons, List.length_nil]; omega))) rfl rfl (Nat.le_of_ble_eq_true rfl) (by omega) (by omega) (by omega) (k_v (fun s131 q131 => ?_))
      have f131 := (f10).tr q131.1
      have N131 := (hr.tx hk f131).1.2.2.2.2.2.1 n hn
      have zS131 : SK s131 := (SK.fq f131 hS)
      refine q_aload_n dX9_sayNode_134 rfl rfl rfl ?_
      refine q_callV (As := []) (rest := []) dX9_sayNode_135 vX9_438 (ty_c zS131 (by decide) rfl) ⟨by decide, rfl⟩ (z9_isT zS131 q131.2 (by first | omega | (simp only [sx6, sx7, sx8, sx9, sx10, sx11, sx12, sx13, sx14, sx15, sx16, List.length_append, List.length_cons, List.length_nil]; omega))) rfl rfl (Nat.le_of_ble_eq_true rfl) (by omega) (by omega) (by omega) (k_v (fun s135 q135 => ?_))
      have f135 := (f131).tr q135.1
      have N135 := (hr.tx hk f135).1.2.2.2.2.2.1 n hn
      have zS135 : SK s135 := (SK.fq f135 hS)
      refine q_aload_n dX9_sayNode_138 rfl rfl rfl ?_
      refine q_aload_n dX9_sayNode_139 rfl rfl rfl ?_
      refine q_getr (r := 73) dX9_sayNode_140 fX9_76 rfl (ty_c zS135 (by decide) rfl) (zS135.2 58 21 73 rfl) ?_
      refine q_iload dX9_sayNode_143 rfl ?_
      refine q_iald (x := opn (rO0 (rg q n))) (j := ((240 * i) + n)) dX9_sayNode_145 (ty_c zS135 (by decide) rfl) (ix_n (by omega) (by omega)) ((N135.1.2.2.2.2.1 (by omega)).1) ?_
      refine q_aload_n dX9_sayNode_146 rfl rfl rfl ?_
      refine q_getr (r := 74) dX9_sayNode_147 fX9_79 rfl (ty_c zS135 (by decide) rfl) (zS135.2 58 22 74 rfl) ?_
      refine q_iload dX9_sayNode_150 rfl ?_
      refine q_iald (x := opv (rO0 (rg q n))) (j := ((240 * i) + n)) dX9_sayNode_152 (ty_c zS135 (by decide) rfl) (ix_n (by omega) (by omega)) ((N135.1.2.2.2.2.1 (by omega)).2) ?_
      refine q_callV (As := [.int (opn (rO0 (rg q n))), .int (opv (rO0 (rg q n)))]) (rest := []) dX9_sayNode_153 vX9_423 (ty_c zS135 (by decide) rfl) ⟨by decide, rfl⟩ (z9_sayOp zS135 q135.2 o1 (by first | omega | (simp only [sx6, sx7, sx8, sx9, sx10, sx11, sx12, sx13, sx14, sx15, sx16, List.length_append, List.length_cons, List.length_nil]; omega))) rfl rfl (Nat.le_of_ble_eq_true rfl) (by omega) (by omega) (by omega) (k_v (fun s153 q153 => ?_))
      have f153 := (f135).tr q153.1
      have N153 := (hr.tx hk f153).1.2.2.2.2.2.1 n hn
      have zS153 : SK s153 := (SK.fq f153 hS)
      refine q_goto (tgt := 428) dX9_sayNode_156 (by decide) ?_
      refine q_aload_n dX9_sayNode_428 rfl rfl rfl ?_
      refine q_callV (As := []) (rest := []) dX9_sayNode_429 vX9_443 (ty_c zS153 (by decide) rfl) ⟨by decide, rfl⟩ (z9_close zS153 q153.2 (by first | omega | (simp only [sx6, sx7, sx8, sx9, sx10, sx11, sx12, sx13, sx14, sx15, sx16, List.length_append, List.length_cons, List.length_nil]; omega))) rfl rfl (Nat.le_of_ble_eq_true rfl) (by omega) (by omega) (by omega) (k_v (fun s429 q429 => ?_))
      have f429 := (f153).tr q429.1
      have N429 := (hr.tx hk f429).1.2.2.2.2.2.1 n hn
      have zS429 : SK s429 := (SK.fq f429 hS)
      refine q_return dX9_sayNode_432 rfl (by omega) (by omega) ?_
      exact ⟨rfl, f429, by simpa only [sx6, sx7, sx8, sx9, sx10, sx11, sx12, sx13, sx14, sx15, sx16, List.append_assoc, List.cons_append, List.nil_append, List.singleton_append] using q429.2⟩
    omega
  · have et : tgt q n = t := by unfold tgt; rw [t2]; exact nI_clamp (by omega)
    have eA : ndT q l n = stX 7 ++ (plT t (rO0 (rg q n)) ++ stX 8 ++ opT (rO1 (rg q n))) ++ stX 11 := congrArg (fun z => stX 7 ++ z ++ stX 11) (show ndB q l n = plT t (rO0 (rg q n)) ++ stX 8 ++ opT (rO1 (rg q n)) from by unfold ndB gvT; rw [if_neg (by omega), if_neg (by omega), if_pos k0, et])
    rw [eA] at hl9 ⊢
    have hL := hl9
    simp only [sx6, sx7, sx8, sx9, sx10, sx11, sx12, sx13, sx14, sx15, sx16, List.length_append, List.length_cons, List.length_nil] at hL
    refine CT.of (by decide) (Nat.le_of_ble_eq_true rfl) ?_
    refine q_sipush (v := nI 240) dX9_sayNode_0 rfl ?_
    refine q_iload_n dX9_sayNode_3 rfl rfl ?_
    refine q_imulN dX9_sayNode_4 ?_
    refine q_iload_n dX9_sayNode_5 rfl rfl ?_
    refine q_iaddN dX9_sayNode_6 ?_
    refine q_istore dX9_sayNode_7 (by decide) (ls' := [(4, .int (nI ((240 * i) + n))), (0, .ref 58), (1, .int (nI i)), (2, .int (nI l)), (3, .int (nI n))]) rfl ?_
    refine q_aload_n dX9_sayNode_9 rfl rfl rfl ?_
    refine q_callV (As := []) (rest := []) dX9_sayNode_10 vX9_432 (ty_c hS (by decide) rfl) ⟨by decide, rfl⟩ (z9_begin hS hW (by first | omega | (simp only [sx6, sx7, sx8, sx9, sx10, sx11, sx12, sx13, sx14, sx15, sx16, List.length_append, List.length_cons, List.length_nil]; omega))) rfl rfl (Nat.le_of_ble_eq_true rfl) (by omega) (by omega) (by omega) (k_v (fun s10 q10 => ?_))
    have f10 := (FR9.rf).tr q10.1
    have N10 := (hr.tx hk f10).1.2.2.2.2.2.1 n hn
    have zS10 : SK s10 := (SK.fq f10 hS)
    refine q_aload_n dX9_sayNode_13 rfl rfl rfl ?_
    refine q_getr (r := 67) dX9_sayNode_14 fX9_58 rfl (ty_c zS10 (by decide) rfl) (zS10.2 58 15 67 rfl) ?_
    refine q_iload dX9_sayNode_17 rfl ?_
    refine q_iald (x := nI 2) (j := ((240 * i) + n)) dX9_sayNode_19 (ty_c zS10 (by decide) rfl) (ix_n (by omega) (by omega)) (N10.1.1.trans (by rw [k0])) ?_
    by_cases w20_2 : 2 = 2
    · refine q_tableEq 2 (tgt := 159) (off := 139) dX9_sayNode_20 (by rw [w20_2]) (by decide) rfl (by decide) ?_
      refine q_aload_n dX9_sayNode_159 rfl rfl rfl ?_
      refine q_aload_n dX9_sayNode_160 rfl rfl rfl ?_
      refine q_getr (r := 77) dX9_sayNode_161 fX9_88 rfl (ty_c zS10 (by decide) rfl) (zS10.2 58 25 77 rfl) ?_
      refine q_iload dX9_sayNode_164 rfl ?_
      refine q_iald (x := nI t) (j := ((240 * i) + n)) dX9_sayNode_166 (ty_c zS10 (by decide) rfl) (ix_n (by omega) (by omega)) ((N10.1.2.2.2.2.2.2 k0).trans t2) ?_
      refine q_aload_n dX9_sayNode_167 rfl rfl rfl ?_
      refine q_getr (r := 73) dX9_sayNode_168 fX9_76 rfl (ty_c zS10 (by decide) rfl) (zS10.2 58 21 73 rfl) ?_
      refine q_iload dX9_sayNode_171 rfl ?_
      refine q_iald (x := opn (rO0 (rg q n))) (j := ((240 * i) + n)) dX9_sayNode_173 (ty_c zS10 (by decide) rfl) (ix_n (by omega) (by omega)) ((N10.1.2.2.2.2.1 (by omega)).1) ?_
      refine q_aload_n dX9_sayNode_174 rfl rfl rfl ?_
      refine q_getr (r := 74) dX9_sayNode_175 fX9_79 rfl (ty_c zS10 (by decide) rfl) (zS10.2 58 22 74 rfl) ?_
      refine q_iload dX9_sayNode_178 rfl ?_
      refine q_iald (x := opv (rO0 (rg q n))) (j := ((240 * i) + n)) dX9_sayNode_180 (ty_c zS10 (by decide) rfl) (ix_n (by omega) (by omega)) ((N10.1.2.2.2.2.1 (by omega)).2) ?_
      refine q_callV (As := [.int (nI t), .int (opn (rO0 (rg q n))), .int (opv (rO0 (rg q n)))]) (rest := []) dX9_sayNode_181 vX9_426 (ty_c zS10 (by decide) rfl) ⟨by decide, rfl⟩ (z9_sayRow zS10 q10.2 (w := t) (by omega) o1 (by first | omega | (simp only [sx6, sx7, sx8, sx9, sx10, sx11, sx12, sx13, sx14, sx15, sx16, List.length_append, List.length_cons, List.length_nil]; omega))) rfl rfl (Nat.le_of_ble_eq_true rfl) (by omega) (by omega) (by omega) (k_v (fun s181 q181 => ?_))
      have f181 := (f10).tr q181.1
      have N181 := (hr.tx hk f181).1.2.2.2.2.2.1 n hn
      have zS181 : SK s181 := (SK.fq f181 hS)
      refine q_aload_n dX9_sayNode_184 rfl rfl rfl ?_
      refine q_callV (As := []) (rest := []) dX9_sayNode_185 vX9_438 (ty_c zS181 (by decide) rfl) ⟨by decide, rfl⟩ (z9_isT zS181 q181.2 (by first | omega | (simp only [sx6, sx7, sx8, sx9, sx10, sx11, sx12, sx13, sx14, sx15, sx16, List.length_append, List.length_cons, List.length_nil]; omega))) rfl rfl (Nat.le_of_ble_eq_true rfl) (by omega) (by omega) (by omega) (k_v (fun s185 q185 => ?_))
      have f185 := (f181).tr q185.1
      have N185 := (hr.tx hk f185).1.2.2.2.2.2.1 n hn
      have zS185 : SK s185 := (SK.fq f185 hS)
      refine q_aload_n dX9_sayNode_188 rfl rfl rfl ?_
      refine q_aload_n dX9_sayNode_189 rfl rfl rfl ?_
      refine q_getr (r := 75) dX9_sayNode_190 fX9_82 rfl (ty_c zS185 (by decide) rfl) (zS185.2 58 23 75 rfl) ?_
      refine q_iload dX9_sayNode_193 rfl ?_
      refine q_iald (x := opn (rO1 (rg q n))) (j := ((240 * i) + n)) dX9_sayNode_195 (ty_c zS185 (by decide) rfl) (ix_n (by omega) (by omega)) ((N185.1.2.2.2.2.2.1 (by omega)).1) ?_
      refine q_aload_n dX9_sayNode_196 rfl rfl rfl ?_
      refine q_getr (r := 76) dX9_sayNode_197 fX9_85 rfl (ty_c zS185 (by decide) rfl) (zS185.2 58 24 76 rfl) ?_
      refine q_iload dX9_sayNode_200 rfl ?_
      refine q_iald (x := opv (rO1 (rg q n))) (j := ((240 * i) + n)) dX9_sayNode_202 (ty_c zS185 (by decide) rfl) (ix_n (by omega) (by omega)) ((N185.1.2.2.2.2.2.1 (by omega)).2) ?_
      refine q_callV (As := [.int (opn (rO1 (rg q n))), .int (opv (rO1 (rg q n)))]) (rest := []) dX9_sayNode_203 vX9_423 (ty_c zS185 (by decide) rfl) ⟨by decide, rfl⟩ (z9_sayOp zS185 q185.2 o2 (by first | omega | (simp only [sx6, sx7, sx8, sx9, sx10, sx11, sx12, sx13, sx14, sx15, sx16, List.length_append, List.length_cons, List.length_nil]; omega))) rfl rfl (Nat.le_of_ble_eq_true rfl) (by omega) (by omega) (by omega) (k_v (fun s203 q203 => ?_))
      have f203 := (f185).tr q203.1
      have N203 := (hr.tx hk f203).1.2.2.2.2.2.1 n hn
      have zS203 : SK s203 := (SK.fq f203 hS)
      refine q_goto (tgt := 428) dX9_sayNode_206 (by decide) ?_
      refine q_aload_n dX9_sayNode_428 rfl rfl rfl ?_
      refine q_callV (As := []) (rest := []) dX9_sayNode_429 vX9_443 (ty_c zS203 (by decide) rfl) ⟨by decide, rfl⟩ (z9_close zS203 q203.2 (by first | omega | (simp only [sx6, sx7, sx8, sx9, sx10, sx11, sx12, sx13, sx14, sx15, sx16, List.length_append, List.length_cons, List.length_nil]; omega))) rfl rfl (Nat.le_of_ble_eq_true rfl) (by omega) (by omega) (by omega) (k_v (fun s429 q429 => ?_))
      have f429 := (f203).tr q429.1
      have N429 := (hr.tx hk f429).1.2.2.2.2.2.1 n hn
      have zS429 : SK s429 := (SK.fq f429 hS)
      refine q_return dX9_sayNode_432 rfl (by omega) (by omega) ?_
      exact ⟨rfl, f429, by simpa only [sx6, sx7, sx8, sx9, sx10, sx11, sx12, sx13, sx14, sx15, sx16, List.append_assoc, List.cons_append, List.nil_append, List.singleton_append] using q429.2⟩
    omega
  · rcases (show rK (rg q n) = 3 ∨ rK (rg q n) = 4 ∨ rK (rg q n) = 5 ∨ rK (rg q n) = 6 by omega) with kk | kk | kk | kk
    · skip
      have eA : ndT q l n = stX 7 ++ (stX 12 ++ opT (rO0 (rg q n))) ++ stX 11 := congrArg (fun z => stX 7 ++ z ++ stX 11) (show ndB q l n = stX 12 ++ opT (rO0 (rg q n)) from by unfold ndB gvT; rw [if_neg (by omega), if_neg (by omega), if_neg (by omega), if_pos kk])
      rw [eA] at hl9 ⊢
      have hL := hl9
      simp only [sx6, sx7, sx8, sx9, sx10, sx11, sx12, sx13, sx14, sx15, sx16, List.length_append, List.length_cons, List.length_nil] at hL
      refine CT.of (by decide) (Nat.le_of_ble_eq_true rfl) ?_
      refine q_sipush (v := nI 240) dX9_sayNode_0 rfl ?_
      refine q_iload_n dX9_sayNode_3 rfl rfl ?_
      refine q_imulN dX9_sayNode_4 ?_
      refine q_iload_n dX9_sayNode_5 rfl rfl ?_
      refine q_iaddN dX9_sayNode_6 ?_
      refine q_istore dX9_sayNode_7 (by decide) (ls' := [(4, .int (nI ((240 * i) + n))), (0, .ref 58), (1, .int (nI i)), (2, .int (nI l)), (3, .int (nI n))]) rfl ?_
      refine q_aload_n dX9_sayNode_9 rfl rfl rfl ?_
      refine q_callV (As := []) (rest := []) dX9_sayNode_10 vX9_432 (ty_c hS (by decide) rfl) ⟨by decide, rfl⟩ (z9_begin hS hW (by first | omega | (simp only [sx6, sx7, sx8, sx9, sx10, sx11, sx12, sx13, sx14, sx15, sx16, List.length_append, List.length_cons, List.length_nil]; omega))) rfl rfl (Nat.le_of_ble_eq_true rfl) (by omega) (by omega) (by omega) (k_v (fun s10 q10 => ?_))
      have f10 := (FR9.rf).tr q10.1
      have N10 := (hr.tx hk f10).1.2.2.2.2.2.1 n hn
      have zS10 : SK s10 := (SK.fq f10 hS)
      refine q_aload_n dX9_sayNode_13 rfl rfl rfl ?_
      refine q_getr (r := 67) dX9_sayNode_14 fX9_58 rfl (ty_c zS10 (by decide) rfl) (zS10.2 58 15 67 rfl) ?_
      refine q_iload dX9_sayNode_17 rfl ?_
      refine q_iald (x := nI 3) (j := ((240 * i) + n)) dX9_sayNode_19 (ty_c zS10 (by decide) rfl) (ix_n (by omega) (by omega)) (N10.1.1.trans (by rw [kk])) ?_
      by_cases w20_3 : 3 = 3
      · refine q_tableEq 3 (tgt := 209) (off := 189) dX9_sayNode_20 (by rw [w20_3]) (by decide) rfl (by decide) ?_
        refine q_aload_n dX9_sayNode_209 rfl rfl rfl ?_
        refine q_bipush (v := nI 116) dX9_sayNode_210 rfl ?_
        refine q_callV (As := [.int (nI 116)]) (rest := []) dX9_sayNode_212 vX9_415 (ty_c zS10 (by decide) rfl) ⟨by decide, rfl⟩ (z9_say zS10 q10.2 (c := 116) (by first | omega | (simp only [sx6, sx7, sx8, sx9, sx10, sx11, sx12, sx13, sx14, sx15, sx16, List.length_append, List.length_cons, List.length_nil]; omega))) rfl rfl (Nat.le_of_ble_eq_true rfl) (by omega) (by omega) (by omega) (k_v (fun s212 q212 => ?_))
        have f212 := (f10).tr q212.1
        have N212 := (hr.tx hk f212).1.2.2.2.2.2.1 n hn
        have zS212 : SK s212 := (SK.fq f212 hS)
        refine q_aload_n dX9_sayNode_215 rfl rfl rfl ?_
        refine q_bipush (v := nI 101) dX9_sayNode_216 rfl ?_
        refine q_callV (As := [.int (nI 101)]) (rest := []) dX9_sayNode_218 vX9_415 (ty_c zS212 (by decide) rfl) ⟨by decide, rfl⟩ (z9_say zS212 q212.2 (c := 101) (by first | omega | (simp only [sx6, sx7, sx8, sx9, sx10, sx11, sx12, sx13, sx14, sx15, sx16, List.length_append, List.length_cons, List.length_nil]; omega))) rfl rfl (Nat.le_of_ble_eq_true rfl) (by omega) (by omega) (by omega) (k_v (fun s218 q218 => ?_))
        have f218 := (f212).tr q218.1
        have N218 := (hr.tx hk f218).1.2.2.2.2.2.1 n hn
        have zS218 : SK s218 := (SK.fq f218 hS)
        refine q_aload_n dX9_sayNode_221 rfl rfl rfl ?_
        refine q_bipush (v := nI 108) dX9_sayNode_222 rfl ?_
        refine q_callV (As := [.int (nI 108)]) (rest := []) dX9_sayNode_224 vX9_415 (ty_c zS218 (by decide) rfl) ⟨by decide, rfl⟩ (z9_say zS218 q218.2 (c := 108) (by first | omega | (simp only [sx6, sx7, sx8, sx9, sx10, sx11, sx12, sx13, sx14, sx15, sx16, List.length_append, List.length_cons, List.length_nil]; omega))) rfl rfl (Nat.le_of_ble_eq_true rfl) (by omega) (by omega) (by omega) (k_v (fun s224 q224 => ?_))
        have f224 := (f218).tr q224.1
        have N224 := (hr.tx hk f224).1.2.2.2.2.2.1 n hn
        have zS224 : SK s224 := (SK.fq f224 hS)
        refine q_aload_n dX9_sayNode_227 rfl rfl rfl ?_
        refine q_bipush (v := nI 108) dX9_sayNode_228 rfl ?_
        refine q_callV (As := [.int (nI 108)]) (rest := []) dX9_sayNode_230 vX9_415 (ty_c zS224 (by decide) rfl) ⟨by decide, rfl⟩ (z9_say zS224 q224.2 (c := 108) (by first | omega | (simp only [sx6, sx7, sx8, sx9, sx10, sx11, sx12, sx13, sx14, sx15, sx16, List.length_append, List.length_cons, List.length_nil]; omega))) rfl rfl (Nat.le_of_ble_eq_true rfl) (by omega) (by omega) (by omega) (k_v (fun s230 q230 => ?_))
        have f230 := (f224).tr q230.1
        have N230 := (hr.tx hk f230).1.2.2.2.2.2.1 n hn
        have zS230 : SK s230 := (SK.fq f230 hS)
        refine q_aload_n dX9_sayNode_233 rfl rfl rfl ?_
        refine q_bipush (v := nI 32) dX9_sayNode_234 rfl ?_
        refine q_callV (As := [.int (nI 32)]) (rest := []) dX9_sayNode_236 vX9_415 (ty_c zS230 (by decide) rfl) ⟨by decide, rfl⟩ (z9_say zS230 q230.2 (c := 32) (by first | omega | (simp only [sx6, sx7, sx8, sx9, sx10, sx11, sx12, sx13, sx14, sx15, sx16, List.length_append, List.length_cons, List.length_nil]; omega))) rfl rfl (Nat.le_of_ble_eq_true rfl) (by omega) (by omega) (by omega) (k_v (fun s236 q236 => ?_))
        have f236 := (f230).tr q236.1
        have N236 := (hr.tx hk f236).1.2.2.2.2.2.1 n hn
        have zS236 : SK s236 := (SK.fq f236 hS)
        refine q_aload_n dX9_sayNode_239 rfl rfl rfl ?_
        refine q_aload_n dX9_sayNode_240 rfl rfl rfl ?_
        refine q_getr (r := 73) dX9_sayNode_241 fX9_76 rfl (ty_c zS236 (by decide) rfl) (zS236.2 58 21 73 rfl) ?_
        refine q_iload dX9_sayNode_244 rfl ?_
        refine q_iald (x := opn (rO0 (rg q n))) (j := ((240 * i) + n)) dX9_sayNode_246 (ty_c zS236 (by decide) rfl) (ix_n (by omega) (by omega)) ((N236.1.2.2.2.2.1 (by omega)).1) ?_
        refine q_aload_n dX9_sayNode_247 rfl rfl rfl ?_
        refine q_getr (r := 74) dX9_sayNode_248 fX9_79 rfl (ty_c zS236 (by decide) rfl) (zS236.2 58 22 74 rfl) ?_
        refine q_iload dX9_sayNode_251 rfl ?_
        refine q_iald (x := opv (rO0 (rg q n))) (j := ((240 * i) + n)) dX9_sayNode_253 (ty_c zS236 (by decide) rfl) (ix_n (by omega) (by omega)) ((N236.1.2.2.2.2.1 (by omega)).2) ?_
        refine q_callV (As := [.int (opn (rO0 (rg q n))), .int (opv (rO0 (rg q n)))]) (rest := []) dX9_sayNode_254 vX9_423 (ty_c zS236 (by decide) rfl) ⟨by decide, rfl⟩ (z9_sayOp zS236 q236.2 o1 (by first | omega | (simp only [sx6, sx7, sx8, sx9, sx10, sx11, sx12, sx13, sx14, sx15, sx16, List.length_append, List.length_cons, List.length_nil]; omega))) rfl rfl (Nat.le_of_ble_eq_true rfl) (by omega) (by omega) (by omega) (k_v (fun s254 q254 => ?_))
        have f254 := (f236).tr q254.1
        have N254 := (hr.tx hk f254).1.2.2.2.2.2.1 n hn
        have zS254 : SK s254 := (SK.fq f254 hS)
        refine q_goto (tgt := 428) dX9_sayNode_257 (by decide) ?_
        refine q_aload_n dX9_sayNode_428 rfl rfl rfl ?_
        refine q_callV (As := []) (rest := []) dX9_sayNode_429 vX9_443 (ty_c zS254 (by decide) rfl) ⟨by decide, rfl⟩ (z9_close zS254 q254.2 (by first | omega | (simp only [sx6, sx7, sx8, sx9, sx10, sx11, sx12, sx13, sx14, sx15, sx16, List.length_append, List.length_cons, List.length_nil]; omega))) rfl rfl (Nat.le_of_ble_eq_true rfl) (by omega) (by omega) (by omega) (k_v (fun s429 q429 => ?_))
        have f429 := (f254).tr q429.1
        have N429 := (hr.tx hk f429).1.2.2.2.2.2.1 n hn
        have zS429 : SK s429 := (SK.fq f429 hS)
        refine q_return dX9_sayNode_432 rfl (by omega) (by omega) ?_
        exact ⟨rfl, f429, by simpa only [sx6, sx7, sx8, sx9, sx10, sx11, sx12, sx13, sx14, sx15, sx16, List.append_assoc, List.cons_append, List.nil_append, List.singleton_append] using q429.2⟩
      omega
    · obtain ⟨t, ht0, ht⟩ := w0 (by omega)
      have haB := aB_lt (p := l) hc hw hnb hn ht0 ht
      obtain ⟨x0, lx0⟩ := ld_s0 hw (n := n) (by omega)
      have y0 := ld_lt hc hw hnb hn lx0
      rw [asB_a (p := l) hc hw hnb hn (by omega) (by omega) lx0] at haB
      have eA : ndT q l n = stX 7 ++ (stX 16 ++ (98 :: numT (asB q l x0))) ++ stX 11 := congrArg (fun z => stX 7 ++ z ++ stX 11) (show ndB q l n = stX 16 ++ (98 :: numT (asB q l x0)) from by unfold ndB gvT; rw [if_neg (by omega), if_neg (by omega), if_neg (by omega), if_neg (by omega), if_neg (by omega), if_neg (by omega), asB_a hc hw hnb hn (by omega) (by omega) lx0])
      rw [eA] at hl9 ⊢
      have hL := hl9
      simp only [sx6, sx7, sx8, sx9, sx10, sx11, sx12, sx13, sx14, sx15, sx16, List.length_append, List.length_cons, List.length_nil] at hL
      refine CT.of (by decide) (Nat.le_of_ble_eq_true rfl) ?_
      refine q_sipush (v := nI 240) dX9_sayNode_0 rfl ?_
      refine q_iload_n dX9_sayNode_3 rfl rfl ?_
      refine q_imulN dX9_sayNode_4 ?_
      refine q_iload_n dX9_sayNode_5 rfl rfl ?_
      refine q_iaddN dX9_sayNode_6 ?_
      refine q_istore dX9_sayNode_7 (by decide) (ls' := [(4, .int (nI ((240 * i) + n))), (0, .ref 58), (1, .int (nI i)), (2, .int (nI l)), (3, .int (nI n))]) rfl ?_
      refine q_aload_n dX9_sayNode_9 rfl rfl rfl ?_
      refine q_callV (As := []) (rest := []) dX9_sayNode_10 vX9_432 (ty_c hS (by decide) rfl) ⟨by decide, rfl⟩ (z9_begin hS hW (by first | omega | (simp only [sx6, sx7, sx8, sx9, sx10, sx11, sx12, sx13, sx14, sx15, sx16, List.length_append, List.length_cons, List.length_nil]; omega))) rfl rfl (Nat.le_of_ble_eq_true rfl) (by omega) (by omega) (by omega) (k_v (fun s10 q10 => ?_))
      have f10 := (FR9.rf).tr q10.1
      have N10 := (hr.tx hk f10).1.2.2.2.2.2.1 n hn
      have zS10 : SK s10 := (SK.fq f10 hS)
      refine q_aload_n dX9_sayNode_13 rfl rfl rfl ?_
      refine q_getr (r := 67) dX9_sayNode_14 fX9_58 rfl (ty_c zS10 (by decide) rfl) (zS10.2 58 15 67 rfl) ?_
      refine q_iload dX9_sayNode_17 rfl ?_
      refine q_iald (x := nI 4) (j := ((240 * i) + n)) dX9_sayNode_19 (ty_c zS10 (by decide) rfl) (ix_n (by omega) (by omega)) (N10.1.1.trans (by rw [kk])) ?_
      by_cases w20_4 : 4 = 4
      · refine q_tableEq 4 (tgt := 260) (off := 240) dX9_sayNode_20 (by rw [w20_4]) (by decide) rfl (by decide) ?_
        refine q_aload_n dX9_sayNode_260 rfl rfl rfl ?_
        refine q_aload_n dX9_sayNode_261 rfl rfl rfl ?_
        refine q_iload_n dX9_sayNode_262 rfl rfl ?_
        refine q_aload_n dX9_sayNode_263 rfl rfl rfl ?_
        refine q_getr (r := 71) dX9_sayNode_264 fX9_70 rfl (ty_c zS10 (by decide) rfl) (zS10.2 58 19 71 rfl) ?_
        refine q_iload dX9_sayNode_267 rfl ?_
        refine q_iald (x := nI x0) (j := ((240 * i) + n)) dX9_sayNode_269 (ty_c zS10 (by decide) rfl) (ix_n (by omega) (by omega)) (N10.2.1.trans (by rw [lx0]; rfl)) ?_
        refine q_callV (As := [.int (nI i), .int (nI x0)]) (rest := [.ref 58]) dX9_sayNode_270 vX9_446 (ty_c zS10 (by decide) rfl) ⟨by decide, rfl⟩ (z9_asBlock zS10 hi (hr.tx hk f10) hk (ho.tx f10) y0) rfl rfl (Nat.le_of_ble_eq_true rfl) (by omega) (by omega) (by omega) (k_p ?_)
        refine q_callV (As := [.int (nI (asB q l x0))]) (rest := []) dX9_sayNode_273 vX9_448 (ty_c zS10 (by decide) rfl) ⟨by decide, rfl⟩ (z9_sayGo zS10 q10.2 (b := asB q l x0) (by omega) (by first | omega | (simp only [sx6, sx7, sx8, sx9, sx10, sx11, sx12, sx13, sx14, sx15, sx16, List.length_append, List.length_cons, List.length_nil]; omega))) rfl rfl (Nat.le_of_ble_eq_true rfl) (by omega) (by omega) (by omega) (k_v (fun s273 q273 => ?_))
        have f273 := (f10).tr q273.1
        have N273 := (hr.tx hk f273).1.2.2.2.2.2.1 n hn
        have zS273 : SK s273 := (SK.fq f273 hS)
        refine q_goto (tgt := 428) dX9_sayNode_276 (by decide) ?_
        refine q_aload_n dX9_sayNode_428 rfl rfl rfl ?_
        refine q_callV (As := []) (rest := []) dX9_sayNode_429 vX9_443 (ty_c zS273 (by decide) rfl) ⟨by decide, rfl⟩ (z9_close zS273 q273.2 (by first | omega | (simp only [sx6, sx7, sx8, sx9, sx10, sx11, sx12, sx13, sx14, sx15, sx16, List.length_append, List.length_cons, List.length_nil]; omega))) rfl rfl (Nat.le_of_ble_eq_true rfl) (by omega) (by omega) (by omega) (k_v (fun s429 q429 => ?_))
        have f429 := (f273).tr q429.1
        have N429 := (hr.tx hk f429).1.2.2.2.2.2.1 n hn
        have zS429 : SK s429 := (SK.fq f429 hS)
        refine q_return dX9_sayNode_432 rfl (by omega) (by omega) ?_
        exact ⟨rfl, f429, by simpa only [sx6, sx7, sx8, sx9, sx10, sx11, sx12, sx13, sx14, sx15, sx16, List.append_assoc, List.cons_append, List.nil_append, List.singleton_append] using q429.2⟩
      omega
    · obtain ⟨t, ht0, ht⟩ := w0 (by omega)
      have haB := aB_lt (p := l) hc hw hnb hn ht0 ht
      obtain ⟨x0, lx0⟩ := ld_s0 hw (n := n) (by omega)
      have y0 := ld_lt hc hw hnb hn lx0
      rw [asB_a (p := l) hc hw hnb hn (by omega) (by omega) lx0] at haB
      obtain ⟨u, hu0, hu⟩ := w1 kk
      have hbB := aB_lt (p := l) hc hw hnb hn hu0 hu
      obtain ⟨x1, lx1⟩ := ld_s1 hw (n := n) kk
      have y1 := ld_lt hc hw hnb hn lx1
      rw [asB_a (p := l) hc hw hnb hn (by omega) (by omega) lx1] at hbB
      have eA : ndT q l n = stX 7 ++ (stX 13 ++ opT (rO0 (rg q n)) ++ stX 14 ++ opT (rO1 (rg q n)) ++ (32 :: 98 :: numT (asB q l x0)) ++ (32 :: 98 :: numT (asB q l x1))) ++ stX 11 := congrArg (fun z => stX 7 ++ z ++ stX 11) (show ndB q l n = stX 13 ++ opT (rO0 (rg q n)) ++ stX 14 ++ opT (rO1 (rg q n)) ++ (32 :: 98 :: numT (asB q l x0)) ++ (32 :: 98 :: numT (asB q l x1)) from by unfold ndB gvT; rw [if_neg (by omega), if_neg (by omega), if_neg (by omega), if_neg (by omega), if_pos kk, asB_a hc hw hnb hn (by omega) (by omega) lx0, asB_a hc hw hnb hn (by omega) (by omega) lx1])
      rw [eA] at hl9 ⊢
      have hL := hl9
      simp only [sx6, sx7, sx8, sx9, sx10, sx11, sx12, sx13, sx14, sx15, sx16, List.length_append, List.length_cons, List.length_nil] at hL
      refine CT.of (by decide) (Nat.le_of_ble_eq_true rfl) ?_
      refine q_sipush (v := nI 240) dX9_sayNode_0 rfl ?_
      refine q_iload_n dX9_sayNode_3 rfl rfl ?_
      refine q_imulN dX9_sayNode_4 ?_
      refine q_iload_n dX9_sayNode_5 rfl rfl ?_
      refine q_iaddN dX9_sayNode_6 ?_
      refine q_istore dX9_sayNode_7 (by decide) (ls' := [(4, .int (nI ((240 * i) + n))), (0, .ref 58), (1, .int (nI i)), (2, .int (nI l)), (3, .int (nI n))]) rfl ?_
      refine q_aload_n dX9_sayNode_9 rfl rfl rfl ?_
      refine q_callV (As := []) (rest := []) dX9_sayNode_10 vX9_432 (ty_c hS (by decide) rfl) ⟨by decide, rfl⟩ (z9_begin hS hW (by first | omega | (simp only [sx6, sx7, sx8, sx9, sx10, sx11, sx12, sx13, sx14, sx15, sx16, List.length_append, List.length_cons, List.length_nil]; omega))) rfl rfl (Nat.le_of_ble_eq_true rfl) (by omega) (by omega) (by omega) (k_v (fun s10 q10 => ?_))
      have f10 := (FR9.rf).tr q10.1
      have N10 := (hr.tx hk f10).1.2.2.2.2.2.1 n hn
      have zS10 : SK s10 := (SK.fq f10 hS)
      refine q_aload_n dX9_sayNode_13 rfl rfl rfl ?_
      refine q_getr (r := 67) dX9_sayNode_14 fX9_58 rfl (ty_c zS10 (by decide) rfl) (zS10.2 58 15 67 rfl) ?_
      refine q_iload dX9_sayNode_17 rfl ?_
      refine q_iald (x := nI 5) (j := ((240 * i) + n)) dX9_sayNode_19 (ty_c zS10 (by decide) rfl) (ix_n (by omega) (by omega)) (N10.1.1.trans (by rw [kk])) ?_
      by_cases w20_5 : 5 = 5
      · refine q_tableEq 5 (tgt := 279) (off := 259) dX9_sayNode_20 (by rw [w20_5]) (by decide) rfl (by decide) ?_
        refine q_aload_n dX9_sayNode_279 rfl rfl rfl ?_
        refine q_bipush (v := nI 105) dX9_sayNode_280 rfl ?_
        refine q_callV (As := [.int (nI 105)]) (rest := []) dX9_sayNode_282 vX9_415 (ty_c zS10 (by decide) rfl) ⟨by decide, rfl⟩ (z9_say zS10 q10.2 (c := 105) (by first | omega | (simp only [sx6, sx7, sx8, sx9, sx10, sx11, sx12, sx13, sx14, sx15, sx16, List.length_append, List.length_cons, List.length_nil]; omega))) rfl rfl (Nat.le_of_ble_eq_true rfl) (by omega) (by omega) (by omega) (k_v (fun s282 q282 => ?_))
        have f282 := (f10).tr q282.1
        have N282 := (hr.tx hk f282).1.2.2.2.2.2.1 n hn
        have zS282 : SK s282 := (SK.fq f282 hS)
        refine q_aload_n dX9_sayNode_285 rfl rfl rfl ?_
        refine q_bipush (v := nI 102) dX9_sayNode_286 rfl ?_
        refine q_callV (As := [.int (nI 102)]) (rest := []) dX9_sayNode_288 vX9_415 (ty_c zS282 (by decide) rfl) ⟨by decide, rfl⟩ (z9_say zS282 q282.2 (c := 102) (by first | omega | (simp only [sx6, sx7, sx8, sx9, sx10, sx11, sx12, sx13, sx14, sx15, sx16, List.length_append, List.length_cons, List.length_nil]; omega))) rfl rfl (Nat.le_of_ble_eq_true rfl) (by omega) (by omega) (by omega) (k_v (fun s288 q288 => ?_))
        have f288 := (f282).tr q288.1
        have N288 := (hr.tx hk f288).1.2.2.2.2.2.1 n hn
        have zS288 : SK s288 := (SK.fq f288 hS)
        refine q_aload_n dX9_sayNode_291 rfl rfl rfl ?_
        refine q_bipush (v := nI 32) dX9_sayNode_292 rfl ?_
        refine q_callV (As := [.int (nI 32)]) (rest := []) dX9_sayNode_294 vX9_415 (ty_c zS288 (by decide) rfl) ⟨by decide, rfl⟩ (z9_say zS288 q288.2 (c := 32) (by first | omega | (simp only [sx6, sx7, sx8, sx9, sx10, sx11, sx12, sx13, sx14, sx15, sx16, List.length_append, List.length_cons, List.length_nil]; omega))) rfl rfl (Nat.le_of_ble_eq_true rfl) (by omega) (by omega) (by omega) (k_v (fun s294 q294 => ?_))
        have f294 := (f288).tr q294.1
        have N294 := (hr.tx hk f294).1.2.2.2.2.2.1 n hn
        have zS294 : SK s294 := (SK.fq f294 hS)
        refine q_aload_n dX9_sayNode_297 rfl rfl rfl ?_
        refine q_aload_n dX9_sayNode_298 rfl rfl rfl ?_
        refine q_getr (r := 73) dX9_sayNode_299 fX9_76 rfl (ty_c zS294 (by decide) rfl) (zS294.2 58 21 73 rfl) ?_
        refine q_iload dX9_sayNode_302 rfl ?_
        refine q_iald (x := opn (rO0 (rg q n))) (j := ((240 * i) + n)) dX9_sayNode_304 (ty_c zS294 (by decide) rfl) (ix_n (by omega) (by omega)) ((N294.1.2.2.2.2.1 (by omega)).1) ?_
        refine q_aload_n dX9_sayNode_305 rfl rfl rfl ?_
        refine q_getr (r := 74) dX9_sayNode_306 fX9_79 rfl (ty_c zS294 (by decide) rfl) (zS294.2 58 22 74 rfl) ?_
        refine q_iload dX9_sayNode_309 rfl ?_
        refine q_iald (x := opv (rO0 (rg q n))) (j := ((240 * i) + n)) dX9_sayNode_311 (ty_c zS294 (by decide) rfl) (ix_n (by omega) (by omega)) ((N294.1.2.2.2.2.1 (by omega)).2) ?_
        refine q_callV (As := [.int (opn (rO0 (rg q n))), .int (opv (rO0 (rg q n)))]) (rest := []) dX9_sayNode_312 vX9_423 (ty_c zS294 (by decide) rfl) ⟨by decide, rfl⟩ (z9_sayOp zS294 q294.2 o1 (by first | omega | (simp only [sx6, sx7, sx8, sx9, sx10, sx11, sx12, sx13, sx14, sx15, sx16, List.length_append, List.length_cons, List.length_nil]; omega))) rfl rfl (Nat.le_of_ble_eq_true rfl) (by omega) (by omega) (by omega) (k_v (fun s312 q312 => ?_))
        have f312 := (f294).tr q312.1
        have N312 := (hr.tx hk f312).1.2.2.2.2.2.1 n hn
        have zS312 : SK s312 := (SK.fq f312 hS)
        refine q_aload_n dX9_sayNode_315 rfl rfl rfl ?_
        refine q_bipush (v := nI 32) dX9_sayNode_316 rfl ?_
        refine q_callV (As := [.int (nI 32)]) (rest := []) dX9_sayNode_318 vX9_415 (ty_c zS312 (by decide) rfl) ⟨by decide, rfl⟩ (z9_say zS312 q312.2 (c := 32) (by first | omega | (simp only [sx6, sx7, sx8, sx9, sx10, sx11, sx12, sx13, sx14, sx15, sx16, List.length_append, List.length_cons, List.length_nil]; omega))) rfl rfl (Nat.le_of_ble_eq_true rfl) (by omega) (by omega) (by omega) (k_v (fun s318 q318 => ?_))
        have f318 := (f312).tr q318.1
        have N318 := (hr.tx hk f318).1.2.2.2.2.2.1 n hn
        have zS318 : SK s318 := (SK.fq f318 hS)
        refine q_aload_n dX9_sayNode_321 rfl rfl rfl ?_
        refine q_bipush (v := nI 60) dX9_sayNode_322 rfl ?_
        refine q_callV (As := [.int (nI 60)]) (rest := []) dX9_sayNode_324 vX9_415 (ty_c zS318 (by decide) rfl) ⟨by decide, rfl⟩ (z9_say zS318 q318.2 (c := 60) (by first | omega | (simp only [sx6, sx7, sx8, sx9, sx10, sx11, sx12, sx13, sx14, sx15, sx16, List.length_append, List.length_cons, List.length_nil]; omega))) rfl rfl (Nat.le_of_ble_eq_true rfl) (by omega) (by omega) (by omega) (k_v (fun s324 q324 => ?_))
        have f324 := (f318).tr q324.1
        have N324 := (hr.tx hk f324).1.2.2.2.2.2.1 n hn
        have zS324 : SK s324 := (SK.fq f324 hS)
        refine q_aload_n dX9_sayNode_327 rfl rfl rfl ?_
        refine q_bipush (v := nI 32) dX9_sayNode_328 rfl ?_
        refine q_callV (As := [.int (nI 32)]) (rest := []) dX9_sayNode_330 vX9_415 (ty_c zS324 (by decide) rfl) ⟨by decide, rfl⟩ (z9_say zS324 q324.2 (c := 32) (by first | omega | (simp only [sx6, sx7, sx8, sx9, sx10, sx11, sx12, sx13, sx14, sx15, sx16, List.length_append, List.length_cons, List.length_nil]; omega))) rfl rfl (Nat.le_of_ble_eq_true rfl) (by omega) (by omega) (by omega) (k_v (fun s330 q330 => ?_))
        have f330 := (f324).tr q330.1
        have N330 := (hr.tx hk f330).1.2.2.2.2.2.1 n hn
        have zS330 : SK s330 := (SK.fq f330 hS)
        refine q_aload_n dX9_sayNode_333 rfl rfl rfl ?_
        refine q_aload_n dX9_sayNode_334 rfl rfl rfl ?_
        refine q_getr (r := 75) dX9_sayNode_335 fX9_82 rfl (ty_c zS330 (by decide) rfl) (zS330.2 58 23 75 rfl) ?_
        refine q_iload dX9_sayNode_338 rfl ?_
        refine q_iald (x := opn (rO1 (rg q n))) (j := ((240 * i) + n)) dX9_sayNode_340 (ty_c zS330 (by decide) rfl) (ix_n (by omega) (by omega)) ((N330.1.2.2.2.2.2.1 (by omega)).1) ?_
        refine q_aload_n dX9_sayNode_341 rfl rfl rfl ?_
        refine q_getr (r := 76) dX9_sayNode_342 fX9_85 rfl (ty_c zS330 (by decide) rfl) (zS330.2 58 24 76 rfl) ?_
        refine q_iload dX9_sayNode_345 rfl ?_
        refine q_iald (x := opv (rO1 (rg q n))) (j := ((240 * i) + n)) dX9_sayNode_347 (ty_c zS330 (by decide) rfl) (ix_n (by omega) (by omega)) ((N330.1.2.2.2.2.2.1 (by omega)).2) ?_
        refine q_callV (As := [.int (opn (rO1 (rg q n))), .int (opv (rO1 (rg q n)))]) (rest := []) dX9_sayNode_348 vX9_423 (ty_c zS330 (by decide) rfl) ⟨by decide, rfl⟩ (z9_sayOp zS330 q330.2 o2 (by first | omega | (simp only [sx6, sx7, sx8, sx9, sx10, sx11, sx12, sx13, sx14, sx15, sx16, List.length_append, List.length_cons, List.length_nil]; omega))) rfl rfl (Nat.le_of_ble_eq_true rfl) (by omega) (by omega) (by omega) (k_v (fun s348 q348 => ?_))
        have f348 := (f330).tr q348.1
        have N348 := (hr.tx hk f348).1.2.2.2.2.2.1 n hn
        have zS348 : SK s348 := (SK.fq f348 hS)
        refine q_aload_n dX9_sayNode_351 rfl rfl rfl ?_
        refine q_bipush (v := nI 32) dX9_sayNode_352 rfl ?_
        refine q_callV (As := [.int (nI 32)]) (rest := []) dX9_sayNode_354 vX9_415 (ty_c zS348 (by decide) rfl) ⟨by decide, rfl⟩ (z9_say zS348 q348.2 (c := 32) (by first | omega | (simp only [sx6, sx7, sx8, sx9, sx10, sx11, sx12, sx13, sx14, sx15, sx16, List.length_append, List.length_cons, List.length_nil]; omega))) rfl rfl (Nat.le_of_ble_eq_true rfl) (by omega) (by omega) (by omega) (k_v (fun s354 q354 => ?_))
        have f354 := (f348).tr q354.1
        have N354 := (hr.tx hk f354).1.2.2.2.2.2.1 n hn
        have zS354 : SK s354 := (SK.fq f354 hS)
        refine q_aload_n dX9_sayNode_357 rfl rfl rfl ?_
        refine q_aload_n dX9_sayNode_358 rfl rfl rfl ?_
        refine q_iload_n dX9_sayNode_359 rfl rfl ?_
        refine q_aload_n dX9_sayNode_360 rfl rfl rfl ?_
        refine q_getr (r := 71) dX9_sayNode_361 fX9_70 rfl (ty_c zS354 (by decide) rfl) (zS354.2 58 19 71 rfl) ?_
        refine q_iload dX9_sayNode_364 rfl ?_
        refine q_iald (x := nI x0) (j := ((240 * i) + n)) dX9_sayNode_366 (ty_c zS354 (by decide) rfl) (ix_n (by omega) (by omega)) (N354.2.1.trans (by rw [lx0]; rfl)) ?_
        refine q_callV (As := [.int (nI i), .int (nI x0)]) (rest := [.ref 58]) dX9_sayNode_367 vX9_446 (ty_c zS354 (by decide) rfl) ⟨by decide, rfl⟩ (z9_asBlock zS354 hi (hr.tx hk f354) hk (ho.tx f354) y0) rfl rfl (Nat.le_of_ble_eq_true rfl) (by omega) (by omega) (by omega) (k_p ?_)
        refine q_callV (As := [.int (nI (asB q l x0))]) (rest := []) dX9_sayNode_370 vX9_429 (ty_c zS354 (by decide) rfl) ⟨by decide, rfl⟩ (z9_sayBlock zS354 q354.2 (b := asB q l x0) (by omega) (by first | omega | (simp only [sx6, sx7, sx8, sx9, sx10, sx11, sx12, sx13, sx14, sx15, sx16, List.length_append, List.length_cons, List.length_nil]; omega))) rfl rfl (Nat.le_of_ble_eq_true rfl) (by omega) (by omega) (by omega) (k_v (fun s370 q370 => ?_))
        have f370 := (f354).tr q370.1
        have N370 := (hr.tx hk f370).1.2.2.2.2.2.1 n hn
        have zS370 : SK s370 := (SK.fq f370 hS)
        refine q_aload_n dX9_sayNode_373 rfl rfl rfl ?_
        refine q_bipush (v := nI 32) dX9_sayNode_374 rfl ?_
        refine q_callV (As := [.int (nI 32)]) (rest := []) dX9_sayNode_376 vX9_415 (ty_c zS370 (by decide) rfl) ⟨by decide, rfl⟩ (z9_say zS370 q370.2 (c := 32) (by first | omega | (simp only [sx6, sx7, sx8, sx9, sx10, sx11, sx12, sx13, sx14, sx15, sx16, List.length_append, List.length_cons, List.length_nil]; omega))) rfl rfl (Nat.le_of_ble_eq_true rfl) (by omega) (by omega) (by omega) (k_v (fun s376 q376 => ?_))
        have f376 := (f370).tr q376.1
        have N376 := (hr.tx hk f376).1.2.2.2.2.2.1 n hn
        have zS376 : SK s376 := (SK.fq f376 hS)
        refine q_aload_n dX9_sayNode_379 rfl rfl rfl ?_
        refine q_aload_n dX9_sayNode_380 rfl rfl rfl ?_
        refine q_iload_n dX9_sayNode_381 rfl rfl ?_
        refine q_aload_n dX9_sayNode_382 rfl rfl rfl ?_
        refine q_getr (r := 72) dX9_sayNode_383 fX9_73 rfl (ty_c zS376 (by decide) rfl) (zS376.2 58 20 72 rfl) ?_
        refine q_iload dX9_sayNode_386 rfl ?_
        refine q_iald (x := nI x1) (j := ((240 * i) + n)) dX9_sayNode_388 (ty_c zS376 (by decide) rfl) (ix_n (by omega) (by omega)) (N376.2.2.trans (by rw [lx1]; rfl)) ?_
        refine q_callV (As := [.int (nI i), .int (nI x1)]) (rest := [.ref 58]) dX9_sayNode_389 vX9_446 (ty_c zS376 (by decide) rfl) ⟨by decide, rfl⟩ (z9_asBlock zS376 hi (hr.tx hk f376) hk (ho.tx f376) y1) rfl rfl (Nat.le_of_ble_eq_true rfl) (by omega) (by omega) (by omega) (k_p ?_)
        refine q_callV (As := [.int (nI (asB q l x1))]) (rest := []) dX9_sayNode_392 vX9_429 (ty_c zS376 (by decide) rfl) ⟨by decide, rfl⟩ (z9_sayBlock zS376 q376.2 (b := asB q l x1) (by omega) (by first | omega | (simp only [sx6, sx7, sx8, sx9, sx10, sx11, sx12, sx13, sx14, sx15, sx16, List.length_append, List.length_cons, List.length_nil]; omega))) rfl rfl (Nat.le_of_ble_eq_true rfl) (by omega) (by omega) (by omega) (k_v (fun s392 q392 => ?_))
        have f392 := (f376).tr q392.1
        have N392 := (hr.tx hk f392).1.2.2.2.2.2.1 n hn
        have zS392 : SK s392 := (SK.fq f392 hS)
        refine q_goto (tgt := 428) dX9_sayNode_395 (by decide) ?_
        refine q_aload_n dX9_sayNode_428 rfl rfl rfl ?_
        refine q_callV (As := []) (rest := []) dX9_sayNode_429 vX9_443 (ty_c zS392 (by decide) rfl) ⟨by decide, rfl⟩ (z9_close zS392 q392.2 (by first | omega | (simp only [sx6, sx7, sx8, sx9, sx10, sx11, sx12, sx13, sx14, sx15, sx16, List.length_append, List.length_cons, List.length_nil]; omega))) rfl rfl (Nat.le_of_ble_eq_true rfl) (by omega) (by omega) (by omega) (k_v (fun s429 q429 => ?_))
        have f429 := (f392).tr q429.1
        have N429 := (hr.tx hk f429).1.2.2.2.2.2.1 n hn
        have zS429 : SK s429 := (SK.fq f429 hS)
        refine q_return dX9_sayNode_432 rfl (by omega) (by omega) ?_
        exact ⟨rfl, f429, by simpa only [sx6, sx7, sx8, sx9, sx10, sx11, sx12, sx13, sx14, sx15, sx16, List.append_assoc, List.cons_append, List.nil_append, List.singleton_append] using q429.2⟩
      omega
    · skip
      have eA : ndT q l n = stX 7 ++ (stX 15) ++ stX 11 := congrArg (fun z => stX 7 ++ z ++ stX 11) (show ndB q l n = stX 15 from by unfold ndB gvT; rw [if_neg (by omega), if_neg (by omega), if_neg (by omega), if_neg (by omega), if_neg (by omega), if_pos kk])
      rw [eA] at hl9 ⊢
      have hL := hl9
      simp only [sx6, sx7, sx8, sx9, sx10, sx11, sx12, sx13, sx14, sx15, sx16, List.length_append, List.length_cons, List.length_nil] at hL
      refine CT.of (by decide) (Nat.le_of_ble_eq_true rfl) ?_
      refine q_sipush (v := nI 240) dX9_sayNode_0 rfl ?_
      refine q_iload_n dX9_sayNode_3 rfl rfl ?_
      refine q_imulN dX9_sayNode_4 ?_
      refine q_iload_n dX9_sayNode_5 rfl rfl ?_
      refine q_iaddN dX9_sayNode_6 ?_
      refine q_istore dX9_sayNode_7 (by decide) (ls' := [(4, .int (nI ((240 * i) + n))), (0, .ref 58), (1, .int (nI i)), (2, .int (nI l)), (3, .int (nI n))]) rfl ?_
      refine q_aload_n dX9_sayNode_9 rfl rfl rfl ?_
      refine q_callV (As := []) (rest := []) dX9_sayNode_10 vX9_432 (ty_c hS (by decide) rfl) ⟨by decide, rfl⟩ (z9_begin hS hW (by first | omega | (simp only [sx6, sx7, sx8, sx9, sx10, sx11, sx12, sx13, sx14, sx15, sx16, List.length_append, List.length_cons, List.length_nil]; omega))) rfl rfl (Nat.le_of_ble_eq_true rfl) (by omega) (by omega) (by omega) (k_v (fun s10 q10 => ?_))
      have f10 := (FR9.rf).tr q10.1
      have N10 := (hr.tx hk f10).1.2.2.2.2.2.1 n hn
      have zS10 : SK s10 := (SK.fq f10 hS)
      refine q_aload_n dX9_sayNode_13 rfl rfl rfl ?_
      refine q_getr (r := 67) dX9_sayNode_14 fX9_58 rfl (ty_c zS10 (by decide) rfl) (zS10.2 58 15 67 rfl) ?_
      refine q_iload dX9_sayNode_17 rfl ?_
      refine q_iald (x := nI 6) (j := ((240 * i) + n)) dX9_sayNode_19 (ty_c zS10 (by decide) rfl) (ix_n (by omega) (by omega)) (N10.1.1.trans (by rw [kk])) ?_
      refine q_tableNe 0 5 (tgt := 398) dX9_sayNode_20 (by decide) (fun v h1 h2 e => by have e2 := nI_inj (by omega) (by omega) e; omega) (by decide) ?_
      refine q_aload_n dX9_sayNode_398 rfl rfl rfl ?_
      refine q_bipush (v := nI 108) dX9_sayNode_399 rfl ?_
      refine q_callV (As := [.int (nI 108)]) (rest := []) dX9_sayNode_401 vX9_415 (ty_c zS10 (by decide) rfl) ⟨by decide, rfl⟩ (z9_say zS10 q10.2 (c := 108) (by first | omega | (simp only [sx6, sx7, sx8, sx9, sx10, sx11, sx12, sx13, sx14, sx15, sx16, List.length_append, List.length_cons, List.length_nil]; omega))) rfl rfl (Nat.le_of_ble_eq_true rfl) (by omega) (by omega) (by omega) (k_v (fun s401 q401 => ?_))
      have f401 := (f10).tr q401.1
      have N401 := (hr.tx hk f401).1.2.2.2.2.2.1 n hn
      have zS401 : SK s401 := (SK.fq f401 hS)
      refine q_aload_n dX9_sayNode_404 rfl rfl rfl ?_
      refine q_bipush (v := nI 101) dX9_sayNode_405 rfl ?_
      refine q_callV (As := [.int (nI 101)]) (rest := []) dX9_sayNode_407 vX9_415 (ty_c zS401 (by decide) rfl) ⟨by decide, rfl⟩ (z9_say zS401 q401.2 (c := 101) (by first | omega | (simp only [sx6, sx7, sx8, sx9, sx10, sx11, sx12, sx13, sx14, sx15, sx16, List.length_append, List.length_cons, List.length_nil]; omega))) rfl rfl (Nat.le_of_ble_eq_true rfl) (by omega) (by omega) (by omega) (k_v (fun s407 q407 => ?_))
      have f407 := (f401).tr q407.1
      have N407 := (hr.tx hk f407).1.2.2.2.2.2.1 n hn
      have zS407 : SK s407 := (SK.fq f407 hS)
      refine q_aload_n dX9_sayNode_410 rfl rfl rfl ?_
      refine q_bipush (v := nI 97) dX9_sayNode_411 rfl ?_
      refine q_callV (As := [.int (nI 97)]) (rest := []) dX9_sayNode_413 vX9_415 (ty_c zS407 (by decide) rfl) ⟨by decide, rfl⟩ (z9_say zS407 q407.2 (c := 97) (by first | omega | (simp only [sx6, sx7, sx8, sx9, sx10, sx11, sx12, sx13, sx14, sx15, sx16, List.length_append, List.length_cons, List.length_nil]; omega))) rfl rfl (Nat.le_of_ble_eq_true rfl) (by omega) (by omega) (by omega) (k_v (fun s413 q413 => ?_))
      have f413 := (f407).tr q413.1
      have N413 := (hr.tx hk f413).1.2.2.2.2.2.1 n hn
      have zS413 : SK s413 := (SK.fq f413 hS)
      refine q_aload_n dX9_sayNode_416 rfl rfl rfl ?_
      refine q_bipush (v := nI 118) dX9_sayNode_417 rfl ?_
      refine q_callV (As := [.int (nI 118)]) (rest := []) dX9_sayNode_419 vX9_415 (ty_c zS413 (by decide) rfl) ⟨by decide, rfl⟩ (z9_say zS413 q413.2 (c := 118) (by first | omega | (simp only [sx6, sx7, sx8, sx9, sx10, sx11, sx12, sx13, sx14, sx15, sx16, List.length_append, List.length_cons, List.length_nil]; omega))) rfl rfl (Nat.le_of_ble_eq_true rfl) (by omega) (by omega) (by omega) (k_v (fun s419 q419 => ?_))
      have f419 := (f413).tr q419.1
      have N419 := (hr.tx hk f419).1.2.2.2.2.2.1 n hn
      have zS419 : SK s419 := (SK.fq f419 hS)
      refine q_aload_n dX9_sayNode_422 rfl rfl rfl ?_
      refine q_bipush (v := nI 101) dX9_sayNode_423 rfl ?_
      refine q_callV (As := [.int (nI 101)]) (rest := []) dX9_sayNode_425 vX9_415 (ty_c zS419 (by decide) rfl) ⟨by decide, rfl⟩ (z9_say zS419 q419.2 (c := 101) (by first | omega | (simp only [sx6, sx7, sx8, sx9, sx10, sx11, sx12, sx13, sx14, sx15, sx16, List.length_append, List.length_cons, List.length_nil]; omega))) rfl rfl (Nat.le_of_ble_eq_true rfl) (by omega) (by omega) (by omega) (k_v (fun s425 q425 => ?_))
      have f425 := (f419).tr q425.1
      have N425 := (hr.tx hk f425).1.2.2.2.2.2.1 n hn
      have zS425 : SK s425 := (SK.fq f425 hS)
      refine q_aload_n dX9_sayNode_428 rfl rfl rfl ?_
      refine q_callV (As := []) (rest := []) dX9_sayNode_429 vX9_443 (ty_c zS425 (by decide) rfl) ⟨by decide, rfl⟩ (z9_close zS425 q425.2 (by first | omega | (simp only [sx6, sx7, sx8, sx9, sx10, sx11, sx12, sx13, sx14, sx15, sx16, List.length_append, List.length_cons, List.length_nil]; omega))) rfl rfl (Nat.le_of_ble_eq_true rfl) (by omega) (by omega) (by omega) (k_v (fun s429 q429 => ?_))
      have f429 := (f425).tr q429.1
      have N429 := (hr.tx hk f429).1.2.2.2.2.2.1 n hn
      have zS429 : SK s429 := (SK.fq f429 hS)
      refine q_return dX9_sayNode_432 rfl (by omega) (by omega) ?_
      exact ⟨rfl, f429, by simpa only [sx6, sx7, sx8, sx9, sx10, sx11, sx12, sx13, sx14, sx15, sx16, List.append_assoc, List.cons_append, List.nil_append, List.singleton_append] using q429.2⟩

end MNO
