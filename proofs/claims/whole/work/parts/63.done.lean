/-! Class Runner: SUMS are set ahead; a NODE is done; where it goes. -/
theorem rg_opd {q : PS} (hw : WFs q) {n : Nat} : OPD (rO0 (rg q n)) ∧ OPD (rO1 (rg q n)) := by
  by_cases e : n < (psS q).length
  · have e1 : rg q n = rr q n := if_pos e
    rw [e1]
    obtain ⟨⟨h1, h2, h3, h4, -⟩, -⟩ := hw.1 _ (show rr q n ∈ psS q from gd_mem e)
    exact ⟨h3, h4⟩
  · have e1 : rg q n = _ := if_neg e
    rw [e1]
    exact ⟨Or.inl ⟨0, by omega, rfl⟩, Or.inl ⟨0, by omega, rfl⟩⟩
theorem sm_w {q : PS} (hw : WFs q) {e : Nat} (he : e < (psM q).length) : SMW ((psM q).getD e (0, 0, 0)) := hw.2.1 _ (gd_mem he)
theorem RTN.fp {σ : HS} {b : Nat} {q : PS} (h : RTN σ b q) : FP σ b q := by
  obtain ⟨a1, a2, a3, a4, a5, a6, a7, a8, a9, a10, a11, a12, a13, f1, f2, f3, f4, f5, f6, f7, f8, f9, f10⟩ := h
  exact ⟨a1, a11.2.1, NN_le a2, f1, f5, f7, f8⟩
theorem RTN.fr {σ σ' : HS} {b : Nat} {q : PS} (h : RTN σ b q) (k : Fr [46, 48, 50, 51, 52, 53, 54] σ σ') : RTN σ' b q := by
  have hb14 : b = 14 ∨ 99 ≤ b := by rcases h.1.1 with h | ⟨j, h⟩ <;> omega
  refine h.of (RB.fr k h.1) fun a i h1 h2 _ _ => ?_
  rw [k.2.2.2 a]
  simp only [List.mem_cons, List.not_mem_nil, or_false]
  omega
section DONE
variable {g : GG} {b : Nat} {q : PS}
theorem z0_setAheadA {σ : HS} (hq : FP σ b q) {p : Nat} (hp : p < 3) {n : Nat} (hn : n < NN q) : CT g mX0_setAhead 0 0 0 [.ref (b + 21), .int (nI p), .int (nI n)] σ (PQ σ (.int (mkN (fun e => stA q p e n) (psM q).length))) := by
  rcases (show p = 0 ∨ p = 1 ∨ p = 2 by omega) with rfl | rfl | rfl
  · exact z0_setAhead_0 hq hn
  · exact z0_setAhead_1 hq.1 hq.2.1 hq.2.2.1 hq.2.2.2.2.1 hn
  · exact z0_setAhead_2 hq hn
theorem z0_takenA {σ : HS} (hq : FP σ b q) {p : Nat} (hp : p < 3) {n : Nat} (hn : n < NN q) : CT g mX0_taken 0 0 0 [.ref (b + 21), .int (nI p), .int (nI n)] σ (PQ σ (.int (mkN (fun e => tkn q p e n) (psM q).length))) := by
  rcases (show p = 0 ∨ p = 1 ∨ p = 2 by omega) with rfl | rfl | rfl
  · exact z0_taken_0 hq hn
  · exact z0_taken_1 hq.1 hq.2.1 hq.2.2.1 hq.2.2.2.1 hn
  · exact z0_taken_2 hq hn
theorem stF_no {p n : Nat} : ∀ {f e : Nat} {s : XS}, (∀ i, e ≤ i → i < e + f → ¬ stA q p i n = true) → stF q p n f e s = (s, true)
  | 0, _, _, _ => rfl
  | f + 1, e, s, h => by
    unfold stF
    rw [if_neg (h e (Nat.le_refl _) (by omega))]
    exact stF_no fun i h1 h2 => h i (by omega) (by omega)
theorem st_0 {p n k : Nat} (hk : k ≤ 32) (h : mkN (fun e => stA q p e n) k = 0) : ∀ i, i < k → ¬ stA q p i n = true := fun i hi h2 => by
  have h3 : mkN (fun e => stA q p e n) k = mkN (fun _ => false) k := h.trans (mk_0 k)
  have := mk_inj hk h3 i hi
  simp only [h2] at this
  cases this
theorem y3_set {σ0 : HS} (hS0 : SK σ0) (h0 : RTN σ0 b q) {p : Nat} (hp : p < 3) {n : Nat} (hn : n < NN q) : ∀ (f e : Nat) (s : XS) (σ : HS), e + f = (psM q).length → RFr σ0 σ → XR σ s → WA g mX3_setAhead 3 0 0 (ZM g (WkQ σ0 (stF q p n f e s).1 (stF q p n f e s).2 (fun _ => True)) 0 0) 0 0 14 [(0, .ref 46), (1, .ref b), (2, .int (nI p)), (3, .int (nI n)), (4, .int (mkN (fun e => stA q p e n) (psM q).length)), (5, .int (nI e))] [] σ := by
  have hk := h0.2.2.2.2.2.2.2.2.2.2.1.2.1
  have hw := h0.2.2.1
  intro f
  induction f with
  | zero =>
    intro e s σ he h1 h2
    have hS := SK.fr h1.1 hS0
    have hr := h0.fr h1.1
    have hb := hr.1
    have hb14 : b = 14 ∨ 99 ≤ b := by rcases hb.1 with h | ⟨j, h⟩ <;> omega
    have s1 := hr.2.2.2.2.2.2.2.2.2.2.1.1
    refine q_iload dX3_setAhead_14 rfl ?_
    refine q_if_eq (tgt := 74) dX3_setAhead_16 (by decide) (fun c16 => ?_) (fun c16 => ?_)
    · skip
      refine q_iconst (v := nI 1) dX3_setAhead_74 rfl ?_
      refine q_ireturn dX3_setAhead_75 rfl rfl (by omega) (by omega) ?_
      exact ⟨rfl, h1, h2, trivial⟩
    · skip
      refine q_iload dX3_setAhead_19 rfl ?_
      refine q_aload_n dX3_setAhead_21 rfl rfl rfl ?_
      refine q_getr (r := b + 17) dX3_setAhead_22 fX3_91 rfl (ty_r hb 0 rfl) (hb.2.2 0 10 17 rfl) ?_
      refine q_geti (x := nI ((psM q).length)) dX3_setAhead_25 fX3_95 rfl (ty_r hb 17 rfl) s1 ?_
      refine q_icmp_geN (tgt := 74) dX3_setAhead_28 (by decide) (by omega) (by omega) (fun c28 => ?_) (fun c28 => ?_)
      · skip
        refine q_iconst (v := nI 1) dX3_setAhead_74 rfl ?_
        refine q_ireturn dX3_setAhead_75 rfl rfl (by omega) (by omega) ?_
        exact ⟨rfl, h1, h2, trivial⟩
      · exact absurd c28 (by omega)
  | succ f ih =>
    intro e s σ he h1 h2
    have hS := SK.fr h1.1 hS0
    have hr := h0.fr h1.1
    have hb := hr.1
    have hb14 : b = 14 ∨ 99 ≤ b := by rcases hb.1 with h | ⟨j, h⟩ <;> omega
    have hsr := hr.2.2.2.2.2.2.2.2.2.2.1
    have s1 := hsr.1
    have hm := sm_w hw (e := e) (by omega)
    have hno : ¬ stA q p e n = true → stF q p n (f + 1) e s = stF q p n f (e + 1) s := fun h => by
      conv => lhs; unfold stF
      rw [if_neg h]
    by_cases hst : stA q p e n = true
    · have hne : ¬ mkN (fun e => stA q p e n) (psM q).length = 0 := fun z => st_0 hk z e (by omega) hst
      cases hv : wkR s (sm q e) with
      | none =>
        have hE : stF q p n (f + 1) e s = (wkS s e, false) := by
          unfold stF
          rw [if_pos hst, hv]
        rw [hE]
        refine q_iload dX3_setAhead_14 rfl ?_
        refine q_if_eq (tgt := 74) dX3_setAhead_16 (by decide) (fun c16 => ?_) (fun c16 => ?_)
        · exact absurd c16 hne
        · skip
          refine q_iload dX3_setAhead_19 rfl ?_
          refine q_aload_n dX3_setAhead_21 rfl rfl rfl ?_
          refine q_getr (r := b + 17) dX3_setAhead_22 fX3_91 rfl (ty_r hb 0 rfl) (hb.2.2 0 10 17 rfl) ?_
          refine q_geti (x := nI ((psM q).length)) dX3_setAhead_25 fX3_95 rfl (ty_r hb 17 rfl) s1 ?_
          refine q_icmp_geN (tgt := 74) dX3_setAhead_28 (by decide) (by omega) (by omega) (fun c28 => ?_) (fun c28 => ?_)
          · exact absurd c28 (by omega)
          · skip
            refine q_iload dX3_setAhead_31 rfl ?_
            refine q_iload dX3_setAhead_33 rfl ?_
            refine q_iushr (v := ((mkN (fun e => stA q p e n) (psM q).length).toUInt32 >>> ((nI e).toUInt32 &&& Int32.toUInt32 31)).toInt32) dX3_setAhead_35 rfl ?_
            refine q_iconst (v := nI 1) dX3_setAhead_36 rfl ?_
            refine q_iand dX3_setAhead_37 ?_
            refine q_top (y := bi (stA q p e n)) (mk_bit hk (by omega)) ?_
            refine q_iconst (v := nI 1) dX3_setAhead_38 rfl ?_
            refine q_icmp_ne (tgt := 68) dX3_setAhead_39 (by decide) (fun c39 => ?_) (fun c39 => ?_)
            · exact absurd (bi_1.mpr hst) c39
            · skip
              refine q_aload_n dX3_setAhead_42 rfl rfl rfl ?_
              refine q_aload_n dX3_setAhead_43 rfl rfl rfl ?_
              refine q_getr (r := b + 17) dX3_setAhead_44 fX3_91 rfl (ty_r hb 0 rfl) (hb.2.2 0 10 17 rfl) ?_
              refine q_iload dX3_setAhead_47 rfl ?_
              refine q_callV (As := [.ref (b + 17), .int (nI e)]) (rest := []) dX3_setAhead_49 vX3_100 (ty_c hS (by decide) rfl) ⟨by decide, rfl⟩ (z3_work_er hS h2 hb hsr (by omega) hm hv) rfl rfl (Nat.le_of_ble_eq_true rfl) (by omega) (by omega) (by omega) (k_w (fun s49 q49 => ?_))
              refine q_if_neB (tgt := 57) dX3_setAhead_52 (by decide) (fun h => absurd h (by decide)) (fun _ => ?_)
              refine q_iconst (v := nI 0) dX3_setAhead_55 rfl ?_
              refine q_ireturn dX3_setAhead_56 rfl rfl (by omega) (by omega) ?_
              exact ⟨rfl, h1.tr q49.1, q49.2.1, trivial⟩
      | some v =>
        have hE : stF q p n (f + 1) e s = stF q p n f (e + 1) (kpS (wkS s e) e v) := by
          conv => lhs; unfold stF
          rw [if_pos hst, hv]
        rw [hE]
        refine q_iload dX3_setAhead_14 rfl ?_
        refine q_if_eq (tgt := 74) dX3_setAhead_16 (by decide) (fun c16 => ?_) (fun c16 => ?_)
        · exact absurd c16 hne
        · skip
          refine q_iload dX3_setAhead_19 rfl ?_
          refine q_aload_n dX3_setAhead_21 rfl rfl rfl ?_
          refine q_getr (r := b + 17) dX3_setAhead_22 fX3_91 rfl (ty_r hb 0 rfl) (hb.2.2 0 10 17 rfl) ?_
          refine q_geti (x := nI ((psM q).length)) dX3_setAhead_25 fX3_95 rfl (ty_r hb 17 rfl) s1 ?_
          refine q_icmp_geN (tgt := 74) dX3_setAhead_28 (by decide) (by omega) (by omega) (fun c28 => ?_) (fun c28 => ?_)
          · exact absurd c28 (by omega)
          · skip
            refine q_iload dX3_setAhead_31 rfl ?_
            refine q_iload dX3_setAhead_33 rfl ?_
            refine q_iushr (v := ((mkN (fun e => stA q p e n) (psM q).length).toUInt32 >>> ((nI e).toUInt32 &&& Int32.toUInt32 31)).toInt32) dX3_setAhead_35 rfl ?_
            refine q_iconst (v := nI 1) dX3_setAhead_36 rfl ?_
            refine q_iand dX3_setAhead_37 ?_
            refine q_top (y := bi (stA q p e n)) (mk_bit hk (by omega)) ?_
            refine q_iconst (v := nI 1) dX3_setAhead_38 rfl ?_
            refine q_icmp_ne (tgt := 68) dX3_setAhead_39 (by decide) (fun c39 => ?_) (fun c39 => ?_)
            · exact absurd (bi_1.mpr hst) c39
            · skip
              refine q_aload_n dX3_setAhead_42 rfl rfl rfl ?_
              refine q_aload_n dX3_setAhead_43 rfl rfl rfl ?_
              refine q_getr (r := b + 17) dX3_setAhead_44 fX3_91 rfl (ty_r hb 0 rfl) (hb.2.2 0 10 17 rfl) ?_
              refine q_iload dX3_setAhead_47 rfl ?_
              refine q_callV (As := [.ref (b + 17), .int (nI e)]) (rest := []) dX3_setAhead_49 vX3_100 (ty_c hS (by decide) rfl) ⟨by decide, rfl⟩ (z3_work_ok hS h2 hb hsr (by omega) hm hv) rfl rfl (Nat.le_of_ble_eq_true rfl) (by omega) (by omega) (by omega) (k_w (fun s49 q49 => ?_))
              have h3 := h1.tr q49.1
              have hS2 := SK.fr h3.1 hS0
              have hb2 := (h0.fr h3.1).1
              refine q_if_neB (tgt := 57) dX3_setAhead_52 (by decide) (fun _ => ?_) (fun h => absurd h (by decide))
              refine q_aload_n dX3_setAhead_57 rfl rfl rfl ?_
              refine q_getr (r := 54) dX3_setAhead_58 fX3_29 rfl (ty_c hS2 (by decide) rfl) (hS2.2 46 5 54 rfl) ?_
              refine q_iload dX3_setAhead_61 rfl ?_
              refine q_aload_n dX3_setAhead_63 rfl rfl rfl ?_
              refine q_geti (x := v) dX3_setAhead_64 fX3_104 rfl (ty_c hS2 (by decide) rfl) q49.2.2 ?_
              refine q_iast (j := e) dX3_setAhead_67 (ty_c hS2 (by decide) rfl) (ix_n (by omega) (by omega)) ?_
              refine q_iincN (c := 1) dX3_setAhead_68 rfl (by decide) rfl (ls' := [(5, .int (nI (e + 1))), (0, .ref 46), (1, .ref b), (2, .int (nI p)), (3, .int (nI n)), (4, .int (mkN (fun e => stA q p e n) (psM q).length))]) rfl ?_
              refine q_goto (tgt := 14) dX3_setAhead_71 (by decide) ?_
              refine q_pk [1, 2, 3, 4, 5, 0] (ls' := [(0, .ref 46), (1, .ref b), (2, .int (nI p)), (3, .int (nI n)), (4, .int (mkN (fun e => stA q p e n) (psM q).length)), (5, .int (nI (e + 1)))]) rfl ?_
              exact ih (e + 1) _ _ (by omega) (h3.uI (by decide) (by omega)) q49.2.1.kp
    · rw [hno hst]
      refine q_iload dX3_setAhead_14 rfl ?_
      refine q_if_eq (tgt := 74) dX3_setAhead_16 (by decide) (fun c16 => ?_) (fun c16 => ?_)
      · skip
        refine q_iconst (v := nI 1) dX3_setAhead_74 rfl ?_
        refine q_ireturn dX3_setAhead_75 rfl rfl (by omega) (by omega) ?_
        rw [stF_no fun i a1 a2 => st_0 hk c16 i (by omega)]
        exact ⟨rfl, h1, h2, trivial⟩
      · skip
        refine q_iload dX3_setAhead_19 rfl ?_
        refine q_aload_n dX3_setAhead_21 rfl rfl rfl ?_
        refine q_getr (r := b + 17) dX3_setAhead_22 fX3_91 rfl (ty_r hb 0 rfl) (hb.2.2 0 10 17 rfl) ?_
        refine q_geti (x := nI ((psM q).length)) dX3_setAhead_25 fX3_95 rfl (ty_r hb 17 rfl) s1 ?_
        refine q_icmp_geN (tgt := 74) dX3_setAhead_28 (by decide) (by omega) (by omega) (fun c28 => ?_) (fun c28 => ?_)
        · exact absurd c28 (by omega)
        · skip
          refine q_iload dX3_setAhead_31 rfl ?_
          refine q_iload dX3_setAhead_33 rfl ?_
          refine q_iushr (v := ((mkN (fun e => stA q p e n) (psM q).length).toUInt32 >>> ((nI e).toUInt32 &&& Int32.toUInt32 31)).toInt32) dX3_setAhead_35 rfl ?_
          refine q_iconst (v := nI 1) dX3_setAhead_36 rfl ?_
          refine q_iand dX3_setAhead_37 ?_
          refine q_top (y := bi (stA q p e n)) (mk_bit hk (by omega)) ?_
          refine q_iconst (v := nI 1) dX3_setAhead_38 rfl ?_
          refine q_icmp_ne (tgt := 68) dX3_setAhead_39 (by decide) (fun c39 => ?_) (fun c39 => ?_)
          · skip
            refine q_iincN (c := 1) dX3_setAhead_68 rfl (by decide) rfl (ls' := [(5, .int (nI (e + 1))), (0, .ref 46), (1, .ref b), (2, .int (nI p)), (3, .int (nI n)), (4, .int (mkN (fun e => stA q p e n) (psM q).length))]) rfl ?_
            refine q_goto (tgt := 14) dX3_setAhead_71 (by decide) ?_
            refine q_pk [1, 2, 3, 4, 5, 0] (ls' := [(0, .ref 46), (1, .ref b), (2, .int (nI p)), (3, .int (nI n)), (4, .int (mkN (fun e => stA q p e n) (psM q).length)), (5, .int (nI (e + 1)))]) rfl ?_
            exact ih (e + 1) s _ (by omega) h1 h2
          · exact absurd (bi_1.mp c39) hst
theorem z3_setAhead {σ : HS} (hS : SK σ) (hr : RTN σ b q) {p : Nat} (hp : p < 3) {n : Nat} (hn : n < NN q) {s : XS} (hx : XR σ s) : CT g mX3_setAhead 3 0 0 [.ref 46, .ref b, .int (nI p), .int (nI n)] σ (WkQ σ (stF q p n (psM q).length 0 s).1 (stF q p n (psM q).length 0 s).2 (fun _ => True)) := by
  have hb := hr.1
  have hb14 : b = 14 ∨ 99 ≤ b := by rcases hb.1 with h | ⟨j, h⟩ <;> omega
  refine CT.of (by decide) (Nat.le_of_ble_eq_true rfl) ?_
  refine q_aload_n dX3_setAhead_0 rfl rfl rfl ?_
  refine q_getr (r := b + 21) dX3_setAhead_1 fX3_82 rfl (ty_r hb 0 rfl) (hb.2.2 0 11 21 rfl) ?_
  refine q_iload_n dX3_setAhead_4 rfl rfl ?_
  refine q_iload_n dX3_setAhead_5 rfl rfl ?_
  refine q_callV (As := [.int (nI p), .int (nI n)]) (rest := []) dX3_setAhead_6 vX3_86 (ty_r hb 21 rfl) ⟨by decide, rfl⟩ (z0_setAheadA hr.fp hp hn) rfl rfl (Nat.le_of_ble_eq_true rfl) (by omega) (by omega) (by omega) (k_p ?_)
  refine q_istore dX3_setAhead_9 (by decide) (ls' := [(4, .int (mkN (fun e => stA q p e n) (psM q).length)), (0, .ref 46), (1, .ref b), (2, .int (nI p)), (3, .int (nI n))]) rfl ?_
  refine q_iconst (v := nI 0) dX3_setAhead_11 rfl ?_
  refine q_istore dX3_setAhead_12 (by decide) (ls' := [(5, .int (nI 0)), (4, .int (mkN (fun e => stA q p e n) (psM q).length)), (0, .ref 46), (1, .ref b), (2, .int (nI p)), (3, .int (nI n))]) rfl ?_
  refine q_pk [2, 3, 4, 5, 1, 0] (ls' := [(0, .ref 46), (1, .ref b), (2, .int (nI p)), (3, .int (nI n)), (4, .int (mkN (fun e => stA q p e n) (psM q).length)), (5, .int (nI 0))]) rfl ?_
  exact y3_set hS hr hp hn (psM q).length 0 s σ (by omega) RFr.rf hx
theorem z4_has {σ : HS} {ss : List SUM} {m : Bool} (hb : RB σ b) (hs : SR σ b ss m) {e : Nat} (he : e < ss.length) : CT g mX4_has 0 0 0 [.ref (b + 17), .int (nI e)] σ (PQ σ (.int (bi true))) := by
  have hb14 : b = 14 ∨ 99 ≤ b := by rcases hb.1 with h | ⟨j, h⟩ <;> omega
  obtain ⟨s1, s2, s3, s4⟩ := hs
  refine CT.of (by decide) (Nat.le_of_ble_eq_true rfl) ?_
  refine q_iload_n dX4_has_0 rfl rfl ?_
  refine q_if_ltN (tgt := 16) dX4_has_1 (by decide) (by omega) ?_
  refine q_iload_n dX4_has_4 rfl rfl ?_
  refine q_aload_n dX4_has_5 rfl rfl rfl ?_
  refine q_geti (x := nI ss.length) dX4_has_6 fX4_21 rfl (ty_r hb 17 rfl) s1 ?_
  refine q_icmp_geN (tgt := 16) dX4_has_9 (by decide) (by omega) (by omega) (fun c9 => ?_) (fun c9 => ?_)
  · skip
    refine q_iconst (v := nI 0) dX4_has_16 rfl ?_
    refine q_ireturn dX4_has_17 rfl rfl (by omega) (by omega) ?_
    first | exact ⟨rfl, rfl⟩ | (exfalso; omega)
  · skip
    refine q_iconst (v := nI 1) dX4_has_12 rfl ?_
    refine q_goto (tgt := 17) dX4_has_13 (by decide) ?_
    refine q_ireturn dX4_has_17 rfl rfl (by omega) (by omega) ?_
    first | exact ⟨rfl, rfl⟩ | (exfalso; omega)
theorem z3_giveSum {σ : HS} (hS : SK σ) (hr : RTN σ b q) {p : Nat} (hp : p < 3) {n : Nat} (hn : n < NN q) {s : XS} (hx : XR σ s) (hk0 : rK (rg q n) = 0) : CT g mX3_giveSum 3 0 0 [.ref 46, .ref b, .int (nI p), .int (nI n)] σ (WkQ σ (dnF q p n s).1 (dnF q p n s).2 (fun _ => True)) := by
  have hb := hr.1
  have hb14 : b = 14 ∨ 99 ≤ b := by rcases hb.1 with h | ⟨j, h⟩ <;> omega
  obtain ⟨-, hc, hw, hnb, hxx, h0, -, -, -, -, hsr, -, hrow, -⟩ := id hr
  have hk := hsr.2.1
  have hNN := NN_le hc
  rcases rg_cases hw hxx hn with ⟨-, ⟨t, t1, t2⟩, e, e1, e2⟩ | ⟨k1, -⟩ | ⟨k1, -⟩ | ⟨k1, -⟩
  rotate_left
  · omega
  · omega
  · omega
  obtain ⟨⟨r1, r2, r3, r4, r5, r6, -⟩, -⟩ := hrow n hn
  have hm := sm_w hw e1
  have es : smN q n = e := by unfold smN; rw [e2]; exact nI_clamp (by omega)
  have et : tgt q n = t := by unfold tgt; rw [t2]; exact nI_clamp (by omega)
  have g1 := hx.2.2.2.2.1 e (by omega)
  unfold dnF
  rw [if_pos hk0, es, et]
  by_cases htk : tkn q p e n = true
  · rw [if_pos htk]
    refine CT.of (by decide) (Nat.le_of_ble_eq_true rfl) ?_
    refine q_aload_n dX3_giveSum_0 rfl rfl rfl ?_
    refine q_getr (r := b + 7) dX3_giveSum_1 fX3_132 rfl (ty_r hb 0 rfl) (hb.2.2 0 4 7 rfl) ?_
    refine q_iload_n dX3_giveSum_4 rfl rfl ?_
    refine q_iald (x := nI e) (j := n) dX3_giveSum_5 (ty_r hb 7 rfl) (ix_n (by omega) (by omega)) (r6.trans e2) ?_
    refine q_istore dX3_giveSum_6 (by decide) (ls' := [(4, .int (nI e)), (0, .ref 46), (1, .ref b), (2, .int (nI p)), (3, .int (nI n))]) rfl ?_
    refine q_aload_n dX3_giveSum_8 rfl rfl rfl ?_
    refine q_getr (r := b + 17) dX3_giveSum_9 fX3_91 rfl (ty_r hb 0 rfl) (hb.2.2 0 10 17 rfl) ?_
    refine q_iload dX3_giveSum_12 rfl ?_
    refine q_callV (As := [.int (nI e)]) (rest := []) dX3_giveSum_14 vX3_135 (ty_r hb 17 rfl) ⟨by decide, rfl⟩ (z4_has hb hsr e1) rfl rfl (Nat.le_of_ble_eq_true rfl) (by omega) (by omega) (by omega) (k_p ?_)
    refine q_if_neB (tgt := 22) dX3_giveSum_17 (by decide) (fun _ => ?_) (fun h => absurd h (by decide))
    refine q_aload_n dX3_giveSum_22 rfl rfl rfl ?_
    refine q_getr (r := b + 21) dX3_giveSum_23 fX3_82 rfl (ty_r hb 0 rfl) (hb.2.2 0 11 21 rfl) ?_
    refine q_iload_n dX3_giveSum_26 rfl rfl ?_
    refine q_iload_n dX3_giveSum_27 rfl rfl ?_
    refine q_callV (As := [.int (nI p), .int (nI n)]) (rest := []) dX3_giveSum_28 vX3_139 (ty_r hb 21 rfl) ⟨by decide, rfl⟩ (z0_takenA hr.fp hp hn) rfl rfl (Nat.le_of_ble_eq_true rfl) (by omega) (by omega) (by omega) (k_p ?_)
    refine q_iload dX3_giveSum_31 rfl ?_
    refine q_iushr (v := ((mkN (fun e => tkn q p e n) (psM q).length).toUInt32 >>> ((nI e).toUInt32 &&& Int32.toUInt32 31)).toInt32) dX3_giveSum_33 rfl ?_
    refine q_iconst (v := nI 1) dX3_giveSum_34 rfl ?_
    refine q_iand dX3_giveSum_35 ?_
    refine q_top (y := bi (tkn q p e n)) (mk_bit hk e1) ?_
    refine q_iconst (v := nI 1) dX3_giveSum_36 rfl ?_
    refine q_icmp_ne (tgt := 59) dX3_giveSum_37 (by decide) (fun c37 => ?_) (fun c37 => ?_)
    · exact absurd (bi_1.mpr htk) c37
    · skip
      refine q_aload_n dX3_giveSum_40 rfl rfl rfl ?_
      refine q_aload_n dX3_giveSum_41 rfl rfl rfl ?_
      refine q_getr (r := b + 3) dX3_giveSum_42 fX3_117 rfl (ty_r hb 0 rfl) (hb.2.2 0 2 3 rfl) ?_
      refine q_iload_n dX3_giveSum_45 rfl rfl ?_
      refine q_iald (x := nI t) (j := n) dX3_giveSum_46 (ty_r hb 3 rfl) (ix_n (by omega) (by omega)) (r3.trans t2) ?_
      refine q_aload_n dX3_giveSum_47 rfl rfl rfl ?_
      refine q_getr (r := 54) dX3_giveSum_48 fX3_29 rfl (ty_c hS (by decide) rfl) (hS.2 46 5 54 rfl) ?_
      refine q_iload dX3_giveSum_51 rfl ?_
      refine q_iald (x := xK s e) (j := e) dX3_giveSum_53 (ty_c hS (by decide) rfl) (ix_n (by omega) (by omega)) g1 ?_
      refine q_callV (As := [.int (nI t), .int (xK s e)]) (rest := []) dX3_giveSum_54 vX3_120 (ty_c hS (by decide) rfl) ⟨by decide, rfl⟩ (z3_giveName hS t1) rfl rfl (Nat.le_of_ble_eq_true rfl) (by omega) (by omega) (by omega) (k_s ?_)
      refine q_iconst (v := nI 1) dX3_giveSum_57 rfl ?_
      refine q_ireturn dX3_giveSum_58 rfl rfl (by omega) (by omega) ?_
      exact ⟨rfl, RFr.rf.uI (by decide) (by omega), hx.gv, trivial⟩
  · rw [if_neg htk]
    cases hv : wkR s (sm q e) with
    | none =>
      refine CT.of (by decide) (Nat.le_of_ble_eq_true rfl) ?_
      refine q_aload_n dX3_giveSum_0 rfl rfl rfl ?_
      refine q_getr (r := b + 7) dX3_giveSum_1 fX3_132 rfl (ty_r hb 0 rfl) (hb.2.2 0 4 7 rfl) ?_
      refine q_iload_n dX3_giveSum_4 rfl rfl ?_
      refine q_iald (x := nI e) (j := n) dX3_giveSum_5 (ty_r hb 7 rfl) (ix_n (by omega) (by omega)) (r6.trans e2) ?_
      refine q_istore dX3_giveSum_6 (by decide) (ls' := [(4, .int (nI e)), (0, .ref 46), (1, .ref b), (2, .int (nI p)), (3, .int (nI n))]) rfl ?_
      refine q_aload_n dX3_giveSum_8 rfl rfl rfl ?_
      refine q_getr (r := b + 17) dX3_giveSum_9 fX3_91 rfl (ty_r hb 0 rfl) (hb.2.2 0 10 17 rfl) ?_
      refine q_iload dX3_giveSum_12 rfl ?_
      refine q_callV (As := [.int (nI e)]) (rest := []) dX3_giveSum_14 vX3_135 (ty_r hb 17 rfl) ⟨by decide, rfl⟩ (z4_has hb hsr e1) rfl rfl (Nat.le_of_ble_eq_true rfl) (by omega) (by omega) (by omega) (k_p ?_)
      refine q_if_neB (tgt := 22) dX3_giveSum_17 (by decide) (fun _ => ?_) (fun h => absurd h (by decide))
      refine q_aload_n dX3_giveSum_22 rfl rfl rfl ?_
      refine q_getr (r := b + 21) dX3_giveSum_23 fX3_82 rfl (ty_r hb 0 rfl) (hb.2.2 0 11 21 rfl) ?_
      refine q_iload_n dX3_giveSum_26 rfl rfl ?_
      refine q_iload_n dX3_giveSum_27 rfl rfl ?_
      refine q_callV (As := [.int (nI p), .int (nI n)]) (rest := []) dX3_giveSum_28 vX3_139 (ty_r hb 21 rfl) ⟨by decide, rfl⟩ (z0_takenA hr.fp hp hn) rfl rfl (Nat.le_of_ble_eq_true rfl) (by omega) (by omega) (by omega) (k_p ?_)
      refine q_iload dX3_giveSum_31 rfl ?_
      refine q_iushr (v := ((mkN (fun e => tkn q p e n) (psM q).length).toUInt32 >>> ((nI e).toUInt32 &&& Int32.toUInt32 31)).toInt32) dX3_giveSum_33 rfl ?_
      refine q_iconst (v := nI 1) dX3_giveSum_34 rfl ?_
      refine q_iand dX3_giveSum_35 ?_
      refine q_top (y := bi (tkn q p e n)) (mk_bit hk e1) ?_
      refine q_iconst (v := nI 1) dX3_giveSum_36 rfl ?_
      refine q_icmp_ne (tgt := 59) dX3_giveSum_37 (by decide) (fun c37 => ?_) (fun c37 => ?_)
      · skip
        refine q_aload_n dX3_giveSum_59 rfl rfl rfl ?_
        refine q_aload_n dX3_giveSum_60 rfl rfl rfl ?_
        refine q_getr (r := b + 17) dX3_giveSum_61 fX3_91 rfl (ty_r hb 0 rfl) (hb.2.2 0 10 17 rfl) ?_
        refine q_iload dX3_giveSum_64 rfl ?_
        refine q_callV (As := [.ref (b + 17), .int (nI e)]) (rest := []) dX3_giveSum_66 vX3_100 (ty_c hS (by decide) rfl) ⟨by decide, rfl⟩ (z3_work_er hS hx hb hsr e1 hm hv) rfl rfl (Nat.le_of_ble_eq_true rfl) (by omega) (by omega) (by omega) (k_w (fun s66 q66 => ?_))
        refine q_if_neB (tgt := 74) dX3_giveSum_69 (by decide) (fun h => absurd h (by decide)) (fun _ => ?_)
        refine q_iconst (v := nI 0) dX3_giveSum_72 rfl ?_
        refine q_ireturn dX3_giveSum_73 rfl rfl (by omega) (by omega) ?_
        exact ⟨rfl, q66.1, q66.2.1, trivial⟩
      · exact absurd (bi_1.mp (by rw [c37])) htk
    | some v =>
      refine CT.of (by decide) (Nat.le_of_ble_eq_true rfl) ?_
      refine q_aload_n dX3_giveSum_0 rfl rfl rfl ?_
      refine q_getr (r := b + 7) dX3_giveSum_1 fX3_132 rfl (ty_r hb 0 rfl) (hb.2.2 0 4 7 rfl) ?_
      refine q_iload_n dX3_giveSum_4 rfl rfl ?_
      refine q_iald (x := nI e) (j := n) dX3_giveSum_5 (ty_r hb 7 rfl) (ix_n (by omega) (by omega)) (r6.trans e2) ?_
      refine q_istore dX3_giveSum_6 (by decide) (ls' := [(4, .int (nI e)), (0, .ref 46), (1, .ref b), (2, .int (nI p)), (3, .int (nI n))]) rfl ?_
      refine q_aload_n dX3_giveSum_8 rfl rfl rfl ?_
      refine q_getr (r := b + 17) dX3_giveSum_9 fX3_91 rfl (ty_r hb 0 rfl) (hb.2.2 0 10 17 rfl) ?_
      refine q_iload dX3_giveSum_12 rfl ?_
      refine q_callV (As := [.int (nI e)]) (rest := []) dX3_giveSum_14 vX3_135 (ty_r hb 17 rfl) ⟨by decide, rfl⟩ (z4_has hb hsr e1) rfl rfl (Nat.le_of_ble_eq_true rfl) (by omega) (by omega) (by omega) (k_p ?_)
      refine q_if_neB (tgt := 22) dX3_giveSum_17 (by decide) (fun _ => ?_) (fun h => absurd h (by decide))
      refine q_aload_n dX3_giveSum_22 rfl rfl rfl ?_
      refine q_getr (r := b + 21) dX3_giveSum_23 fX3_82 rfl (ty_r hb 0 rfl) (hb.2.2 0 11 21 rfl) ?_
      refine q_iload_n dX3_giveSum_26 rfl rfl ?_
      refine q_iload_n dX3_giveSum_27 rfl rfl ?_
      refine q_callV (As := [.int (nI p), .int (nI n)]) (rest := []) dX3_giveSum_28 vX3_139 (ty_r hb 21 rfl) ⟨by decide, rfl⟩ (z0_takenA hr.fp hp hn) rfl rfl (Nat.le_of_ble_eq_true rfl) (by omega) (by omega) (by omega) (k_p ?_)
      refine q_iload dX3_giveSum_31 rfl ?_
      refine q_iushr (v := ((mkN (fun e => tkn q p e n) (psM q).length).toUInt32 >>> ((nI e).toUInt32 &&& Int32.toUInt32 31)).toInt32) dX3_giveSum_33 rfl ?_
      refine q_iconst (v := nI 1) dX3_giveSum_34 rfl ?_
      refine q_iand dX3_giveSum_35 ?_
      refine q_top (y := bi (tkn q p e n)) (mk_bit hk e1) ?_
      refine q_iconst (v := nI 1) dX3_giveSum_36 rfl ?_
      refine q_icmp_ne (tgt := 59) dX3_giveSum_37 (by decide) (fun c37 => ?_) (fun c37 => ?_)
      · skip
        refine q_aload_n dX3_giveSum_59 rfl rfl rfl ?_
        refine q_aload_n dX3_giveSum_60 rfl rfl rfl ?_
        refine q_getr (r := b + 17) dX3_giveSum_61 fX3_91 rfl (ty_r hb 0 rfl) (hb.2.2 0 10 17 rfl) ?_
        refine q_iload dX3_giveSum_64 rfl ?_
        refine q_callV (As := [.ref (b + 17), .int (nI e)]) (rest := []) dX3_giveSum_66 vX3_100 (ty_c hS (by decide) rfl) ⟨by decide, rfl⟩ (z3_work_ok hS hx hb hsr e1 hm hv) rfl rfl (Nat.le_of_ble_eq_true rfl) (by omega) (by omega) (by omega) (k_w (fun s66 q66 => ?_))
        have hS2 := SK.fr q66.1.1 hS
        have hr2 := hr.fr q66.1.1
        have hb2 := hr2.1
        obtain ⟨⟨-, -, r2, -⟩, -⟩ := hr2.2.2.2.2.2.2.2.2.2.2.2.2.1 n hn
        refine q_if_neB (tgt := 74) dX3_giveSum_69 (by decide) (fun _ => ?_) (fun h => absurd h (by decide))
        refine q_aload_n dX3_giveSum_74 rfl rfl rfl ?_
        refine q_aload_n dX3_giveSum_75 rfl rfl rfl ?_
        refine q_getr (r := b + 3) dX3_giveSum_76 fX3_117 rfl (ty_r hb2 0 rfl) (hb2.2.2 0 2 3 rfl) ?_
        refine q_iload_n dX3_giveSum_79 rfl rfl ?_
        refine q_iald (x := nI t) (j := n) dX3_giveSum_80 (ty_r hb2 3 rfl) (ix_n (by omega) (by omega)) (r2.trans t2) ?_
        refine q_aload_n dX3_giveSum_81 rfl rfl rfl ?_
        refine q_geti (x := v) dX3_giveSum_82 fX3_104 rfl (ty_c hS2 (by decide) rfl) q66.2.2 ?_
        refine q_callV (As := [.int (nI t), .int v]) (rest := []) dX3_giveSum_85 vX3_120 (ty_c hS2 (by decide) rfl) ⟨by decide, rfl⟩ (z3_giveName hS2 t1) rfl rfl (Nat.le_of_ble_eq_true rfl) (by omega) (by omega) (by omega) (k_s ?_)
        refine q_iconst (v := nI 1) dX3_giveSum_88 rfl ?_
        refine q_ireturn dX3_giveSum_89 rfl rfl (by omega) (by omega) ?_
        exact ⟨rfl, q66.1.uI (by decide) (by omega), q66.2.1.gv, trivial⟩
      · exact absurd (bi_1.mp c37) htk
end DONE
