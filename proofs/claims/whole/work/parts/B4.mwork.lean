/-! The model: a RUN; a SUM is worked. -/
/-- the model's RUN is s -/
def XM (σ : HS) (s : XS) : Prop := (∀ i, i < 48 → sI σ 90 i = xN s i) ∧ (∀ a, a < 2 → ∀ i, i < 8 → sI σ 91 (8 * a + i) = xR s a i) ∧ (∀ e, e < 32 → sI σ 93 e = xW s e) ∧ (∀ i, i < xC s → i < 100 → sI σ 94 i = xT s i) ∧ sI σ 58 53 = nI (xC s) ∧ sI σ 58 55 = xA s
theorem XM.gv {σ : HS} {s : XS} (h : XM σ s) {t : Nat} {v : Int32} : XM (uI σ 90 t v) (gvS s t v) := by
  obtain ⟨h1, h2, h3, h4, h5, h6⟩ := h
  refine ⟨fun i hi => ?_, fun a ha i hi => (rd_off (by omega)).trans (h2 a ha i hi), fun e he => (rd_off (by omega)).trans (h3 e he), fun i a b => (rd_off (by omega)).trans (h4 i a b), (rd_off (by omega)).trans h5, (rd_off (by omega)).trans h6⟩
  show _ = if i = t then v else xN s i
  by_cases e : i = t
  · rw [e, if_pos rfl]; exact uI_self
  · rw [if_neg e, rd_ne e]; exact h1 i hi
theorem XM.gr {σ : HS} {s : XS} (h : XM σ s) {c t : Nat} (hc : c < 2) (ht : t < 8) {v : Int32} : XM (uI σ 91 (8 * c + t) v) (grS s c t v) := by
  obtain ⟨h1, h2, h3, h4, h5, h6⟩ := h
  refine ⟨fun i hi => (rd_off (by omega)).trans (h1 i hi), fun a ha i hi => ?_, fun e he => (rd_off (by omega)).trans (h3 e he), fun i a b => (rd_off (by omega)).trans (h4 i a b), (rd_off (by omega)).trans h5, (rd_off (by omega)).trans h6⟩
  show _ = if a = c ∧ i = t then v else xR s a i
  by_cases e : a = c ∧ i = t
  · rw [if_pos e, e.1, e.2]; exact uI_self
  · rw [if_neg e, rd_ne (by omega)]; exact h2 a ha i hi
theorem XM.kp {σ : HS} {s : XS} (h : XM σ s) {e t : Nat} {v w : Int32} : XM (uI σ 92 t w) (kpS s e v) := by
  obtain ⟨h1, h2, h3, h4, h5, h6⟩ := h
  exact ⟨fun i hi => (rd_off (by omega)).trans (h1 i hi), fun a ha i hi => (rd_off (by omega)).trans (h2 a ha i hi), fun e he => (rd_off (by omega)).trans (h3 e he), fun i a b => (rd_off (by omega)).trans (h4 i a b), (rd_off (by omega)).trans h5, (rd_off (by omega)).trans h6⟩
theorem XM.kp0 {σ : HS} {s : XS} (h : XM σ s) {t : Nat} {w : Int32} : XM (uI σ 92 t w) s := by
  obtain ⟨h1, h2, h3, h4, h5, h6⟩ := h
  exact ⟨fun i hi => (rd_off (by omega)).trans (h1 i hi), fun a ha i hi => (rd_off (by omega)).trans (h2 a ha i hi), fun e he => (rd_off (by omega)).trans (h3 e he), fun i a b => (rd_off (by omega)).trans (h4 i a b), (rd_off (by omega)).trans h5, (rd_off (by omega)).trans h6⟩
theorem XM.re {σ : HS} {s : XS} (h : XM σ s) {i : Nat} {v : Int32} (hi : i ≠ 53 ∧ i ≠ 55) : XM (uI σ 58 i v) s := by
  obtain ⟨h1, h2, h3, h4, h5, h6⟩ := h
  exact ⟨fun i hi => (rd_off (by omega)).trans (h1 i hi), fun a ha i hi => (rd_off (by omega)).trans (h2 a ha i hi), fun e he => (rd_off (by omega)).trans (h3 e he), fun i a b => (rd_off (by omega)).trans (h4 i a b), (rd_ne (by omega)).trans h5, (rd_ne (by omega)).trans h6⟩
theorem XM.wk {σ : HS} {s : XS} (h : XM σ s) {t : Nat} : XM (uI (uI σ 93 t (xW s t + nI 1)) 58 55 (xA s + nI 1)) (wkS s t) := by
  obtain ⟨h1, h2, h3, h4, h5, h6⟩ := h
  refine ⟨fun i hi => (rd_off (by omega)).trans ((rd_off (by omega)).trans (h1 i hi)), fun a ha i hi => (rd_off (by omega)).trans ((rd_off (by omega)).trans (h2 a ha i hi)), fun e he => ?_, fun i a b => (rd_off (by omega)).trans ((rd_off (by omega)).trans (h4 i a b)), (rd_ne (by omega)).trans ((rd_off (by omega)).trans h5), uI_self⟩
  rw [rd_off (by omega)]
  show _ = if e = t then xW s e + nI 1 else xW s e
  by_cases et : e = t
  · rw [et, if_pos rfl]; exact uI_self
  · rw [if_neg et, rd_ne et]; exact h3 e he
theorem XM.tl1 {σ : HS} {s : XS} (h : XM σ s) (hc : xC s < 100) {v : Int32} : XM (uI (uI σ 94 (xC s) v) 58 53 (nI (xC s + 1))) (tlS s v) := by
  obtain ⟨h1, h2, h3, h4, h5, h6⟩ := h
  refine ⟨fun i hi => (rd_off (by omega)).trans ((rd_off (by omega)).trans (h1 i hi)), fun a ha i hi => (rd_off (by omega)).trans ((rd_off (by omega)).trans (h2 a ha i hi)), fun e he => (rd_off (by omega)).trans ((rd_off (by omega)).trans (h3 e he)), fun i a b => ?_, uI_self, (rd_ne (by omega)).trans ((rd_off (by omega)).trans h6)⟩
  have a : i < xC s + 1 := a
  have e : xT (tlS s v) = (fun i => if i = xC s then v else xT s i) := if_pos hc
  rw [rd_off (by omega), e]
  show _ = if i = xC s then v else xT s i
  by_cases et : i = xC s
  · rw [et, if_pos rfl]; exact uI_self
  · rw [if_neg et, rd_ne et]; exact h4 i (by omega) b
theorem XM.tl2 {σ : HS} {s : XS} (h : XM σ s) (hc : ¬ xC s < 100) {v : Int32} : XM (uI σ 58 53 (nI (xC s + 1))) (tlS s v) := by
  obtain ⟨h1, h2, h3, h4, h5, h6⟩ := h
  refine ⟨fun i hi => (rd_off (by omega)).trans (h1 i hi), fun a ha i hi => (rd_off (by omega)).trans (h2 a ha i hi), fun e he => (rd_off (by omega)).trans (h3 e he), fun i a b => ?_, uI_self, (rd_ne (by omega)).trans h6⟩
  have e : xT (tlS s v) = xT s := if_neg hc
  rw [rd_off (by omega), e]
  exact h4 i (by omega) b
theorem div_m1 (a : Int32) : a / (-1) = -a := by
  apply Int32.toInt_inj.mp
  rw [Int32.toInt_div, show (-1 : Int32).toInt = -1 from by decide, Int.tdiv_neg, Int.tdiv_one, Int32.toInt_neg]
def wkq (e h i : Nat) : Prop := (h = 93 ∧ i = e) ∨ (h = 58 ∧ (i = 55 ∨ i = 56))
/-- behind work: o what it comes to, x the answer -/
def WkM (σ : HS) (s : XS) (e : Nat) (o : Option Int32) (x : Int32) : HS → Prop := fun σ' => FR9 (wkq e) σ σ' ∧ XM σ' (wkS s e) ∧ sI σ' 58 56 = bi o.isNone ∧ ∀ v, o = some v → x = v
theorem wkM1 {σ : HS} {s : XS} {e : Nat} {o : Option Int32} {v : Int32} (hx : XM σ s) (h56 : sI σ 58 56 = nI 0) (ho : o = some v) : WkM σ s e o v (uI (uI σ 93 e (xW s e + nI 1)) 58 55 (xA s + nI 1)) := by
  subst ho
  exact ⟨(FR9.rf.uI (Or.inl ⟨rfl, rfl⟩)).uI (Or.inr ⟨rfl, Or.inl rfl⟩), hx.wk, (rd_ne (by omega)).trans ((rd_off (by omega)).trans h56), fun w hw => Option.some.inj hw⟩
theorem wkM2 {σ : HS} {s : XS} {e : Nat} {o : Option Int32} {v : Int32} (hx : XM σ s) (ho : o = some v) : WkM σ s e o v (uI (uI (uI σ 93 e (xW s e + nI 1)) 58 55 (xA s + nI 1)) 58 56 (nI 0)) := by
  subst ho
  exact ⟨((FR9.rf.uI (Or.inl ⟨rfl, rfl⟩)).uI (Or.inr ⟨rfl, Or.inl rfl⟩)).uI (Or.inr ⟨rfl, Or.inr rfl⟩), hx.wk.re (by omega), uI_self, fun w hw => Option.some.inj hw⟩
theorem wkM3 {σ : HS} {s : XS} {e : Nat} {o : Option Int32} {v : Int32} (hx : XM σ s) (ho : o = none) : WkM σ s e o v (uI (uI (uI σ 93 e (xW s e + nI 1)) 58 55 (xA s + nI 1)) 58 56 (nI 1)) := by
  subst ho
  exact ⟨((FR9.rf.uI (Or.inl ⟨rfl, rfl⟩)).uI (Or.inr ⟨rfl, Or.inl rfl⟩)).uI (Or.inr ⟨rfl, Or.inr rfl⟩), hx.wk.re (by omega), uI_self, fun w hw => by cases hw⟩
theorem opv_nm {nm : Nat → Int32} {v : Nat} (h : v < 48) : opV nm (nI (1000000000 + v)) = nm v := (opV_nm (nm := nm) h).2
section MWK
variable {g : GG} {σ : HS} {q : PS} {i : Nat} {s : XS}
theorem z9_of (hS : SK σ) (hx : XM σ s) {o : Int32} (ho : OPD o) : CT g mX9_of 0 0 0 [.ref 58, .int (opn o), .int (opv o)] σ (PQ σ (.int (opV (xN s) o))) := by
  rcases ho with ⟨v, h1, rfl⟩ | ⟨v, h1, rfl⟩ | ⟨v, h1, rfl⟩
  · rw [(opn_n h1).1, (opn_n h1).2, (opV_n (nm := xN s) h1).2]
    refine CT.of (by decide) (Nat.le_of_ble_eq_true rfl) ?_
    refine q_iload_n dX9_of_0 rfl rfl ?_
    refine q_if_ge1 (tgt := 8) dX9_of_1 (by decide) (by decide) ?_
    refine q_iload_n dX9_of_4 rfl rfl ?_
    refine q_goto (tgt := 14) dX9_of_5 (by decide) ?_
    refine q_ireturn dX9_of_14 rfl rfl (by omega) (by omega) ?_
    exact ⟨rfl, rfl⟩
  · rw [(opn_m h1).1, (opn_m h1).2, (opV_m (nm := xN s) h1).2]
    refine CT.of (by decide) (Nat.le_of_ble_eq_true rfl) ?_
    refine q_iload_n dX9_of_0 rfl rfl ?_
    refine q_if_ge1 (tgt := 8) dX9_of_1 (by decide) (by decide) ?_
    refine q_iload_n dX9_of_4 rfl rfl ?_
    refine q_goto (tgt := 14) dX9_of_5 (by decide) ?_
    refine q_ireturn dX9_of_14 rfl rfl (by omega) (by omega) ?_
    exact ⟨rfl, rfl⟩
  · rw [(opn_nm (by omega)).1, (opn_nm (by omega)).2, opv_nm h1]
    have r := hx.1 v h1
    refine CT.of (by decide) (Nat.le_of_ble_eq_true rfl) ?_
    refine q_iload_n dX9_of_0 rfl rfl ?_
    refine q_if_geN (tgt := 8) dX9_of_1 (by decide) (by omega) ?_
    refine q_aload_n dX9_of_8 rfl rfl rfl ?_
    refine q_getr (r := 90) dX9_of_9 fX9_153 rfl (ty_c hS (by decide) rfl) (hS.2 58 46 90 rfl) ?_
    refine q_iload_n dX9_of_12 rfl rfl ?_
    refine q_iald (x := xN s v) (j := v) dX9_of_13 (ty_c hS (by decide) rfl) (ix_n (by omega) (by omega)) r ?_
    refine q_ireturn dX9_of_14 rfl rfl (by omega) (by omega) ?_
    exact ⟨rfl, rfl⟩
theorem z9_work43 (hS : SK σ) (hi : i < 4) (hr : MR σ i q) (hk : MOK q) {e : Nat} (he : e < (psM q).length) (hx : XM σ s) (h56 : sI σ 58 56 = nI 0) (hcc : (sm q e).1 = nI 43) : CT g mX9_work 1 0 0 [.ref 58, .int (nI i), .int (nI e)] σ (fun r σ' => ∃ x, r = some (.int x) ∧ WkM σ s e (wkR s (sm q e)) x σ') := by
  obtain ⟨hc, hw, hB, hxx, hF⟩ := id hk
  have h32 := hw.2.2.2.1
  obtain ⟨s1, s2, s3, s4, s5⟩ := hr.1.2.2.2.2.2.2 e he
  have hm : SMW (sm q e) := sm_w hw he
  have od := opv_d hm
  have g1 := hx.2.2.1 e (by omega)
  have g2 := hx.2.2.2.2.2
  have n1 : sAn (sm q e) = opn (sm q e).2.1 := if_neg (by rw [hcc]; decide)
  have n2 : sAv (sm q e) = opv (sm q e).2.1 := if_neg (by rw [hcc]; decide)
  rw [n1] at s2
  rw [n2] at s3
  have eW : wkR s (sm q e) = some (opV (xN s) (sm q e).2.1 + opV (xN s) (sm q e).2.2) := by unfold wkR; rw [hcc]; exact wkF_c.1
  refine CT.of (by decide) (Nat.le_of_ble_eq_true rfl) ?_
  refine q_aload_n dX9_work_0 rfl rfl rfl ?_
  refine q_getr (r := 93) dX9_work_1 fX9_162 rfl (ty_c hS (by decide) rfl) (hS.2 58 49 93 rfl) ?_
  refine q_iload_n dX9_work_4 rfl rfl ?_
  refine q_dup2 dX9_work_5 rfl rfl ?_
  refine q_iald (x := xW s e) (j := e) dX9_work_6 (ty_c hS (by decide) rfl) (ix_n (by omega) (by omega)) g1 ?_
  refine q_iconst (v := nI 1) dX9_work_7 rfl ?_
  refine q_iadd dX9_work_8 ?_
  refine q_iast (j := e) dX9_work_9 (ty_c hS (by decide) rfl) (ix_n (by omega) (by omega)) ?_
  refine q_aload_n dX9_work_10 rfl rfl rfl ?_
  refine q_dup dX9_work_11 rfl ?_
  refine q_geti (x := xA s) dX9_work_12 fX9_180 rfl (ty_c hS (by decide) rfl) (Eq.trans (rd_off (by decide)) g2) ?_
  refine q_iconst (v := nI 1) dX9_work_15 rfl ?_
  refine q_iadd dX9_work_16 ?_
  refine q_puti dX9_work_17 fX9_180 rfl (Or.inl rfl) (ty_c hS (by decide) rfl) ?_
  refine q_bipush (v := nI 32) dX9_work_20 rfl ?_
  refine q_iload_n dX9_work_22 rfl rfl ?_
  refine q_imulN dX9_work_23 ?_
  refine q_iload_n dX9_work_24 rfl rfl ?_
  refine q_iaddN dX9_work_25 ?_
  refine q_istore_n dX9_work_26 rfl (by decide) (ls' := [(3, .int (nI ((32 * i) + e))), (0, .ref 58), (1, .int (nI i)), (2, .int (nI e))]) rfl ?_
  refine q_aload_n dX9_work_27 rfl rfl rfl ?_
  refine q_aload_n dX9_work_28 rfl rfl rfl ?_
  refine q_getr (r := 81) dX9_work_29 fX9_100 rfl (ty_c hS (by decide) rfl) (hS.2 58 29 81 rfl) ?_
  refine q_iload_n dX9_work_32 rfl rfl ?_
  refine q_iald (x := opn (sm q e).2.2) (j := ((32 * i) + e)) dX9_work_33 (ty_c hS (by decide) rfl) (ix_n (by omega) (by omega)) (Eq.trans (rd_off (by decide)) (Eq.trans (rd_off (by decide)) s4)) ?_
  refine q_aload_n dX9_work_34 rfl rfl rfl ?_
  refine q_getr (r := 82) dX9_work_35 fX9_103 rfl (ty_c hS (by decide) rfl) (hS.2 58 30 82 rfl) ?_
  refine q_iload_n dX9_work_38 rfl rfl ?_
  refine q_iald (x := opv (sm q e).2.2) (j := ((32 * i) + e)) dX9_work_39 (ty_c hS (by decide) rfl) (ix_n (by omega) (by omega)) (Eq.trans (rd_off (by decide)) (Eq.trans (rd_off (by decide)) s5)) ?_
  refine q_callV (As := [.int (opn (sm q e).2.2), .int (opv (sm q e).2.2)]) (rest := []) dX9_work_40 vX9_395 (ty_c hS (by decide) rfl) ⟨by decide, rfl⟩ (z9_of (σ := (uI (uI σ 93 e ((xW s e) + (nI 1))) 58 55 ((xA s) + (nI 1)))) (s := wkS s e) hS hx.wk od.2) rfl rfl (Nat.le_of_ble_eq_true rfl) (by omega) (by omega) (by omega) (k_p ?_)
  refine q_istore dX9_work_43 (by decide) (ls' := [(4, .int (opV (xN s) (sm q e).2.2)), (3, .int (nI ((32 * i) + e))), (0, .ref 58), (1, .int (nI i)), (2, .int (nI e))]) rfl ?_
  refine q_aload_n dX9_work_45 rfl rfl rfl ?_
  refine q_getr (r := 78) dX9_work_46 fX9_91 rfl (ty_c hS (by decide) rfl) (hS.2 58 26 78 rfl) ?_
  refine q_iload_n dX9_work_49 rfl rfl ?_
  refine q_iald (x := nI 43) (j := ((32 * i) + e)) dX9_work_50 (ty_c hS (by decide) rfl) (ix_n (by omega) (by omega)) (Eq.trans (rd_off (by decide)) (Eq.trans (rd_off (by decide)) (s1.trans hcc))) ?_
  refine q_bipush (v := nI 114) dX9_work_51 rfl ?_
  refine q_icmp_neN (tgt := 106) dX9_work_53 (by decide) (by omega) (by omega) (fun _ => ?_) (fun h => absurd h (by decide))
  refine q_aload_n dX9_work_106 rfl rfl rfl ?_
  refine q_aload_n dX9_work_107 rfl rfl rfl ?_
  refine q_getr (r := 79) dX9_work_108 fX9_94 rfl (ty_c hS (by decide) rfl) (hS.2 58 27 79 rfl) ?_
  refine q_iload_n dX9_work_111 rfl rfl ?_
  refine q_iald (x := opn (sm q e).2.1) (j := ((32 * i) + e)) dX9_work_112 (ty_c hS (by decide) rfl) (ix_n (by omega) (by omega)) (Eq.trans (rd_off (by decide)) (Eq.trans (rd_off (by decide)) s2)) ?_
  refine q_aload_n dX9_work_113 rfl rfl rfl ?_
  refine q_getr (r := 80) dX9_work_114 fX9_97 rfl (ty_c hS (by decide) rfl) (hS.2 58 28 80 rfl) ?_
  refine q_iload_n dX9_work_117 rfl rfl ?_
  refine q_iald (x := opv (sm q e).2.1) (j := ((32 * i) + e)) dX9_work_118 (ty_c hS (by decide) rfl) (ix_n (by omega) (by omega)) (Eq.trans (rd_off (by decide)) (Eq.trans (rd_off (by decide)) s3)) ?_
  refine q_callV (As := [.int (opn (sm q e).2.1), .int (opv (sm q e).2.1)]) (rest := []) dX9_work_119 vX9_395 (ty_c hS (by decide) rfl) ⟨by decide, rfl⟩ (z9_of (σ := (uI (uI σ 93 e ((xW s e) + (nI 1))) 58 55 ((xA s) + (nI 1)))) (s := wkS s e) hS hx.wk od.1) rfl rfl (Nat.le_of_ble_eq_true rfl) (by omega) (by omega) (by omega) (k_p ?_)
  refine q_istore dX9_work_122 (by decide) (ls' := [(5, .int (opV (xN s) (sm q e).2.1)), (4, .int (opV (xN s) (sm q e).2.2)), (3, .int (nI ((32 * i) + e))), (0, .ref 58), (1, .int (nI i)), (2, .int (nI e))]) rfl ?_
  refine q_aload_n dX9_work_124 rfl rfl rfl ?_
  refine q_getr (r := 78) dX9_work_125 fX9_91 rfl (ty_c hS (by decide) rfl) (hS.2 58 26 78 rfl) ?_
  refine q_iload_n dX9_work_128 rfl rfl ?_
  refine q_iald (x := nI 43) (j := ((32 * i) + e)) dX9_work_129 (ty_c hS (by decide) rfl) (ix_n (by omega) (by omega)) (Eq.trans (rd_off (by decide)) (Eq.trans (rd_off (by decide)) (s1.trans hcc))) ?_
  by_cases w130_43 : 43 = 43
  · refine q_lookEq 43 (tgt := 180) (off := 50) dX9_work_130 (by rw [w130_43]) (by decide) (by decide) rfl (by decide) ?_
    refine q_iload dX9_work_180 rfl ?_
    refine q_iload dX9_work_182 rfl ?_
    refine q_iadd dX9_work_184 ?_
    refine q_ireturn dX9_work_185 rfl rfl (by omega) (by omega) ?_
    exact ⟨_, rfl, wkM1 hx h56 eW⟩
  omega
theorem z9_work45 (hS : SK σ) (hi : i < 4) (hr : MR σ i q) (hk : MOK q) {e : Nat} (he : e < (psM q).length) (hx : XM σ s) (h56 : sI σ 58 56 = nI 0) (hcc : (sm q e).1 = nI 45) : CT g mX9_work 1 0 0 [.ref 58, .int (nI i), .int (nI e)] σ (fun r σ' => ∃ x, r = some (.int x) ∧ WkM σ s e (wkR s (sm q e)) x σ') := by
  obtain ⟨hc, hw, hB, hxx, hF⟩ := id hk
  have h32 := hw.2.2.2.1
  obtain ⟨s1, s2, s3, s4, s5⟩ := hr.1.2.2.2.2.2.2 e he
  have hm : SMW (sm q e) := sm_w hw he
  have od := opv_d hm
  have g1 := hx.2.2.1 e (by omega)
  have g2 := hx.2.2.2.2.2
  have n1 : sAn (sm q e) = opn (sm q e).2.1 := if_neg (by rw [hcc]; decide)
  have n2 : sAv (sm q e) = opv (sm q e).2.1 := if_neg (by rw [hcc]; decide)
  rw [n1] at s2
  rw [n2] at s3
  have eW : wkR s (sm q e) = some (opV (xN s) (sm q e).2.1 - opV (xN s) (sm q e).2.2) := by unfold wkR; rw [hcc]; exact wkF_c.2.1
  refine CT.of (by decide) (Nat.le_of_ble_eq_true rfl) ?_
  refine q_aload_n dX9_work_0 rfl rfl rfl ?_
  refine q_getr (r := 93) dX9_work_1 fX9_162 rfl (ty_c hS (by decide) rfl) (hS.2 58 49 93 rfl) ?_
  refine q_iload_n dX9_work_4 rfl rfl ?_
  refine q_dup2 dX9_work_5 rfl rfl ?_
  refine q_iald (x := xW s e) (j := e) dX9_work_6 (ty_c hS (by decide) rfl) (ix_n (by omega) (by omega)) g1 ?_
  refine q_iconst (v := nI 1) dX9_work_7 rfl ?_
  refine q_iadd dX9_work_8 ?_
  refine q_iast (j := e) dX9_work_9 (ty_c hS (by decide) rfl) (ix_n (by omega) (by omega)) ?_
  refine q_aload_n dX9_work_10 rfl rfl rfl ?_
  refine q_dup dX9_work_11 rfl ?_
  refine q_geti (x := xA s) dX9_work_12 fX9_180 rfl (ty_c hS (by decide) rfl) (Eq.trans (rd_off (by decide)) g2) ?_
  refine q_iconst (v := nI 1) dX9_work_15 rfl ?_
  refine q_iadd dX9_work_16 ?_
  refine q_puti dX9_work_17 fX9_180 rfl (Or.inl rfl) (ty_c hS (by decide) rfl) ?_
  refine q_bipush (v := nI 32) dX9_work_20 rfl ?_
  refine q_iload_n dX9_work_22 rfl rfl ?_
  refine q_imulN dX9_work_23 ?_
  refine q_iload_n dX9_work_24 rfl rfl ?_
  refine q_iaddN dX9_work_25 ?_
  refine q_istore_n dX9_work_26 rfl (by decide) (ls' := [(3, .int (nI ((32 * i) + e))), (0, .ref 58), (1, .int (nI i)), (2, .int (nI e))]) rfl ?_
  refine q_aload_n dX9_work_27 rfl rfl rfl ?_
  refine q_aload_n dX9_work_28 rfl rfl rfl ?_
  refine q_getr (r := 81) dX9_work_29 fX9_100 rfl (ty_c hS (by decide) rfl) (hS.2 58 29 81 rfl) ?_
  refine q_iload_n dX9_work_32 rfl rfl ?_
  refine q_iald (x := opn (sm q e).2.2) (j := ((32 * i) + e)) dX9_work_33 (ty_c hS (by decide) rfl) (ix_n (by omega) (by omega)) (Eq.trans (rd_off (by decide)) (Eq.trans (rd_off (by decide)) s4)) ?_
  refine q_aload_n dX9_work_34 rfl rfl rfl ?_
  refine q_getr (r := 82) dX9_work_35 fX9_103 rfl (ty_c hS (by decide) rfl) (hS.2 58 30 82 rfl) ?_
  refine q_iload_n dX9_work_38 rfl rfl ?_
  refine q_iald (x := opv (sm q e).2.2) (j := ((32 * i) + e)) dX9_work_39 (ty_c hS (by decide) rfl) (ix_n (by omega) (by omega)) (Eq.trans (rd_off (by decide)) (Eq.trans (rd_off (by decide)) s5)) ?_
  refine q_callV (As := [.int (opn (sm q e).2.2), .int (opv (sm q e).2.2)]) (rest := []) dX9_work_40 vX9_395 (ty_c hS (by decide) rfl) ⟨by decide, rfl⟩ (z9_of (σ := (uI (uI σ 93 e ((xW s e) + (nI 1))) 58 55 ((xA s) + (nI 1)))) (s := wkS s e) hS hx.wk od.2) rfl rfl (Nat.le_of_ble_eq_true rfl) (by omega) (by omega) (by omega) (k_p ?_)
  refine q_istore dX9_work_43 (by decide) (ls' := [(4, .int (opV (xN s) (sm q e).2.2)), (3, .int (nI ((32 * i) + e))), (0, .ref 58), (1, .int (nI i)), (2, .int (nI e))]) rfl ?_
  refine q_aload_n dX9_work_45 rfl rfl rfl ?_
  refine q_getr (r := 78) dX9_work_46 fX9_91 rfl (ty_c hS (by decide) rfl) (hS.2 58 26 78 rfl) ?_
  refine q_iload_n dX9_work_49 rfl rfl ?_
  refine q_iald (x := nI 45) (j := ((32 * i) + e)) dX9_work_50 (ty_c hS (by decide) rfl) (ix_n (by omega) (by omega)) (Eq.trans (rd_off (by decide)) (Eq.trans (rd_off (by decide)) (s1.trans hcc))) ?_
  refine q_bipush (v := nI 114) dX9_work_51 rfl ?_
  refine q_icmp_neN (tgt := 106) dX9_work_53 (by decide) (by omega) (by omega) (fun _ => ?_) (fun h => absurd h (by decide))
  refine q_aload_n dX9_work_106 rfl rfl rfl ?_
  refine q_aload_n dX9_work_107 rfl rfl rfl ?_
  refine q_getr (r := 79) dX9_work_108 fX9_94 rfl (ty_c hS (by decide) rfl) (hS.2 58 27 79 rfl) ?_
  refine q_iload_n dX9_work_111 rfl rfl ?_
  refine q_iald (x := opn (sm q e).2.1) (j := ((32 * i) + e)) dX9_work_112 (ty_c hS (by decide) rfl) (ix_n (by omega) (by omega)) (Eq.trans (rd_off (by decide)) (Eq.trans (rd_off (by decide)) s2)) ?_
  refine q_aload_n dX9_work_113 rfl rfl rfl ?_
  refine q_getr (r := 80) dX9_work_114 fX9_97 rfl (ty_c hS (by decide) rfl) (hS.2 58 28 80 rfl) ?_
  refine q_iload_n dX9_work_117 rfl rfl ?_
  refine q_iald (x := opv (sm q e).2.1) (j := ((32 * i) + e)) dX9_work_118 (ty_c hS (by decide) rfl) (ix_n (by omega) (by omega)) (Eq.trans (rd_off (by decide)) (Eq.trans (rd_off (by decide)) s3)) ?_
  refine q_callV (As := [.int (opn (sm q e).2.1), .int (opv (sm q e).2.1)]) (rest := []) dX9_work_119 vX9_395 (ty_c hS (by decide) rfl) ⟨by decide, rfl⟩ (z9_of (σ := (uI (uI σ 93 e ((xW s e) + (nI 1))) 58 55 ((xA s) + (nI 1)))) (s := wkS s e) hS hx.wk od.1) rfl rfl (Nat.le_of_ble_eq_true rfl) (by omega) (by omega) (by omega) (k_p ?_)
  refine q_istore dX9_work_122 (by decide) (ls' := [(5, .int (opV (xN s) (sm q e).2.1)), (4, .int (opV (xN s) (sm q e).2.2)), (3, .int (nI ((32 * i) + e))), (0, .ref 58), (1, .int (nI i)), (2, .int (nI e))]) rfl ?_
  refine q_aload_n dX9_work_124 rfl rfl rfl ?_
  refine q_getr (r := 78) dX9_work_125 fX9_91 rfl (ty_c hS (by decide) rfl) (hS.2 58 26 78 rfl) ?_
  refine q_iload_n dX9_work_128 rfl rfl ?_
  refine q_iald (x := nI 45) (j := ((32 * i) + e)) dX9_work_129 (ty_c hS (by decide) rfl) (ix_n (by omega) (by omega)) (Eq.trans (rd_off (by decide)) (Eq.trans (rd_off (by decide)) (s1.trans hcc))) ?_
  by_cases w130_45 : 45 = 45
  · refine q_lookEq 45 (tgt := 186) (off := 56) dX9_work_130 (by rw [w130_45]) (by decide) (by decide) rfl (by decide) ?_
    refine q_iload dX9_work_186 rfl ?_
    refine q_iload dX9_work_188 rfl ?_
    refine q_isub dX9_work_190 ?_
    refine q_ireturn dX9_work_191 rfl rfl (by omega) (by omega) ?_
    exact ⟨_, rfl, wkM1 hx h56 eW⟩
  omega
theorem z9_work42 (hS : SK σ) (hi : i < 4) (hr : MR σ i q) (hk : MOK q) {e : Nat} (he : e < (psM q).length) (hx : XM σ s) (h56 : sI σ 58 56 = nI 0) (hcc : (sm q e).1 = nI 42) : CT g mX9_work 1 0 0 [.ref 58, .int (nI i), .int (nI e)] σ (fun r σ' => ∃ x, r = some (.int x) ∧ WkM σ s e (wkR s (sm q e)) x σ') := by
  obtain ⟨hc, hw, hB, hxx, hF⟩ := id hk
  have h32 := hw.2.2.2.1
  obtain ⟨s1, s2, s3, s4, s5⟩ := hr.1.2.2.2.2.2.2 e he
  have hm : SMW (sm q e) := sm_w hw he
  have od := opv_d hm
  have g1 := hx.2.2.1 e (by omega)
  have g2 := hx.2.2.2.2.2
  have n1 : sAn (sm q e) = opn (sm q e).2.1 := if_neg (by rw [hcc]; decide)
  have n2 : sAv (sm q e) = opv (sm q e).2.1 := if_neg (by rw [hcc]; decide)
  rw [n1] at s2
  rw [n2] at s3
  have eW : wkR s (sm q e) = some (opV (xN s) (sm q e).2.1 * opV (xN s) (sm q e).2.2) := by unfold wkR; rw [hcc]; exact wkF_c.2.2.1
  refine CT.of (by decide) (Nat.le_of_ble_eq_true rfl) ?_
  refine q_aload_n dX9_work_0 rfl rfl rfl ?_
  refine q_getr (r := 93) dX9_work_1 fX9_162 rfl (ty_c hS (by decide) rfl) (hS.2 58 49 93 rfl) ?_
  refine q_iload_n dX9_work_4 rfl rfl ?_
  refine q_dup2 dX9_work_5 rfl rfl ?_
  refine q_iald (x := xW s e) (j := e) dX9_work_6 (ty_c hS (by decide) rfl) (ix_n (by omega) (by omega)) g1 ?_
  refine q_iconst (v := nI 1) dX9_work_7 rfl ?_
  refine q_iadd dX9_work_8 ?_
  refine q_iast (j := e) dX9_work_9 (ty_c hS (by decide) rfl) (ix_n (by omega) (by omega)) ?_
  refine q_aload_n dX9_work_10 rfl rfl rfl ?_
  refine q_dup dX9_work_11 rfl ?_
  refine q_geti (x := xA s) dX9_work_12 fX9_180 rfl (ty_c hS (by decide) rfl) (Eq.trans (rd_off (by decide)) g2) ?_
  refine q_iconst (v := nI 1) dX9_work_15 rfl ?_
  refine q_iadd dX9_work_16 ?_
  refine q_puti dX9_work_17 fX9_180 rfl (Or.inl rfl) (ty_c hS (by decide) rfl) ?_
  refine q_bipush (v := nI 32) dX9_work_20 rfl ?_
  refine q_iload_n dX9_work_22 rfl rfl ?_
  refine q_imulN dX9_work_23 ?_
  refine q_iload_n dX9_work_24 rfl rfl ?_
  refine q_iaddN dX9_work_25 ?_
  refine q_istore_n dX9_work_26 rfl (by decide) (ls' := [(3, .int (nI ((32 * i) + e))), (0, .ref 58), (1, .int (nI i)), (2, .int (nI e))]) rfl ?_
  refine q_aload_n dX9_work_27 rfl rfl rfl ?_
  refine q_aload_n dX9_work_28 rfl rfl rfl ?_
  refine q_getr (r := 81) dX9_work_29 fX9_100 rfl (ty_c hS (by decide) rfl) (hS.2 58 29 81 rfl) ?_
  refine q_iload_n dX9_work_32 rfl rfl ?_
  refine q_iald (x := opn (sm q e).2.2) (j := ((32 * i) + e)) dX9_work_33 (ty_c hS (by decide) rfl) (ix_n (by omega) (by omega)) (Eq.trans (rd_off (by decide)) (Eq.trans (rd_off (by decide)) s4)) ?_
  refine q_aload_n dX9_work_34 rfl rfl rfl ?_
  refine q_getr (r := 82) dX9_work_35 fX9_103 rfl (ty_c hS (by decide) rfl) (hS.2 58 30 82 rfl) ?_
  refine q_iload_n dX9_work_38 rfl rfl ?_
  refine q_iald (x := opv (sm q e).2.2) (j := ((32 * i) + e)) dX9_work_39 (ty_c hS (by decide) rfl) (ix_n (by omega) (by omega)) (Eq.trans (rd_off (by decide)) (Eq.trans (rd_off (by decide)) s5)) ?_
  refine q_callV (As := [.int (opn (sm q e).2.2), .int (opv (sm q e).2.2)]) (rest := []) dX9_work_40 vX9_395 (ty_c hS (by decide) rfl) ⟨by decide, rfl⟩ (z9_of (σ := (uI (uI σ 93 e ((xW s e) + (nI 1))) 58 55 ((xA s) + (nI 1)))) (s := wkS s e) hS hx.wk od.2) rfl rfl (Nat.le_of_ble_eq_true rfl) (by omega) (by omega) (by omega) (k_p ?_)
  refine q_istore dX9_work_43 (by decide) (ls' := [(4, .int (opV (xN s) (sm q e).2.2)), (3, .int (nI ((32 * i) + e))), (0, .ref 58), (1, .int (nI i)), (2, .int (nI e))]) rfl ?_
  refine q_aload_n dX9_work_45 rfl rfl rfl ?_
  refine q_getr (r := 78) dX9_work_46 fX9_91 rfl (ty_c hS (by decide) rfl) (hS.2 58 26 78 rfl) ?_
  refine q_iload_n dX9_work_49 rfl rfl ?_
  refine q_iald (x := nI 42) (j := ((32 * i) + e)) dX9_work_50 (ty_c hS (by decide) rfl) (ix_n (by omega) (by omega)) (Eq.trans (rd_off (by decide)) (Eq.trans (rd_off (by decide)) (s1.trans hcc))) ?_
  refine q_bipush (v := nI 114) dX9_work_51 rfl ?_
  refine q_icmp_neN (tgt := 106) dX9_work_53 (by decide) (by omega) (by omega) (fun _ => ?_) (fun h => absurd h (by decide))
  refine q_aload_n dX9_work_106 rfl rfl rfl ?_
  refine q_aload_n dX9_work_107 rfl rfl rfl ?_
  refine q_getr (r := 79) dX9_work_108 fX9_94 rfl (ty_c hS (by decide) rfl) (hS.2 58 27 79 rfl) ?_
  refine q_iload_n dX9_work_111 rfl rfl ?_
  refine q_iald (x := opn (sm q e).2.1) (j := ((32 * i) + e)) dX9_work_112 (ty_c hS (by decide) rfl) (ix_n (by omega) (by omega)) (Eq.trans (rd_off (by decide)) (Eq.trans (rd_off (by decide)) s2)) ?_
  refine q_aload_n dX9_work_113 rfl rfl rfl ?_
  refine q_getr (r := 80) dX9_work_114 fX9_97 rfl (ty_c hS (by decide) rfl) (hS.2 58 28 80 rfl) ?_
  refine q_iload_n dX9_work_117 rfl rfl ?_
  refine q_iald (x := opv (sm q e).2.1) (j := ((32 * i) + e)) dX9_work_118 (ty_c hS (by decide) rfl) (ix_n (by omega) (by omega)) (Eq.trans (rd_off (by decide)) (Eq.trans (rd_off (by decide)) s3)) ?_
  refine q_callV (As := [.int (opn (sm q e).2.1), .int (opv (sm q e).2.1)]) (rest := []) dX9_work_119 vX9_395 (ty_c hS (by decide) rfl) ⟨by decide, rfl⟩ (z9_of (σ := (uI (uI σ 93 e ((xW s e) + (nI 1))) 58 55 ((xA s) + (nI 1)))) (s := wkS s e) hS hx.wk od.1) rfl rfl (Nat.le_of_ble_eq_true rfl) (by omega) (by omega) (by omega) (k_p ?_)
  refine q_istore dX9_work_122 (by decide) (ls' := [(5, .int (opV (xN s) (sm q e).2.1)), (4, .int (opV (xN s) (sm q e).2.2)), (3, .int (nI ((32 * i) + e))), (0, .ref 58), (1, .int (nI i)), (2, .int (nI e))]) rfl ?_
  refine q_aload_n dX9_work_124 rfl rfl rfl ?_
  refine q_getr (r := 78) dX9_work_125 fX9_91 rfl (ty_c hS (by decide) rfl) (hS.2 58 26 78 rfl) ?_
  refine q_iload_n dX9_work_128 rfl rfl ?_
  refine q_iald (x := nI 42) (j := ((32 * i) + e)) dX9_work_129 (ty_c hS (by decide) rfl) (ix_n (by omega) (by omega)) (Eq.trans (rd_off (by decide)) (Eq.trans (rd_off (by decide)) (s1.trans hcc))) ?_
  by_cases w130_42 : 42 = 42
  · refine q_lookEq 42 (tgt := 192) (off := 62) dX9_work_130 (by rw [w130_42]) (by decide) (by decide) rfl (by decide) ?_
    refine q_iload dX9_work_192 rfl ?_
    refine q_iload dX9_work_194 rfl ?_
    refine q_imul dX9_work_196 ?_
    refine q_ireturn dX9_work_197 rfl rfl (by omega) (by omega) ?_
    exact ⟨_, rfl, wkM1 hx h56 eW⟩
  omega
theorem z9_work38 (hS : SK σ) (hi : i < 4) (hr : MR σ i q) (hk : MOK q) {e : Nat} (he : e < (psM q).length) (hx : XM σ s) (h56 : sI σ 58 56 = nI 0) (hcc : (sm q e).1 = nI 38) : CT g mX9_work 1 0 0 [.ref 58, .int (nI i), .int (nI e)] σ (fun r σ' => ∃ x, r = some (.int x) ∧ WkM σ s e (wkR s (sm q e)) x σ') := by
  obtain ⟨hc, hw, hB, hxx, hF⟩ := id hk
  have h32 := hw.2.2.2.1
  obtain ⟨s1, s2, s3, s4, s5⟩ := hr.1.2.2.2.2.2.2 e he
  have hm : SMW (sm q e) := sm_w hw he
  have od := opv_d hm
  have g1 := hx.2.2.1 e (by omega)
  have g2 := hx.2.2.2.2.2
  have n1 : sAn (sm q e) = opn (sm q e).2.1 := if_neg (by rw [hcc]; decide)
  have n2 : sAv (sm q e) = opv (sm q e).2.1 := if_neg (by rw [hcc]; decide)
  rw [n1] at s2
  rw [n2] at s3
  have eW : wkR s (sm q e) = some (opV (xN s) (sm q e).2.1 &&& opV (xN s) (sm q e).2.2) := by unfold wkR; rw [hcc]; exact wkF_c.2.2.2.1
  refine CT.of (by decide) (Nat.le_of_ble_eq_true rfl) ?_
  refine q_aload_n dX9_work_0 rfl rfl rfl ?_
  refine q_getr (r := 93) dX9_work_1 fX9_162 rfl (ty_c hS (by decide) rfl) (hS.2 58 49 93 rfl) ?_
  refine q_iload_n dX9_work_4 rfl rfl ?_
  refine q_dup2 dX9_work_5 rfl rfl ?_
  refine q_iald (x := xW s e) (j := e) dX9_work_6 (ty_c hS (by decide) rfl) (ix_n (by omega) (by omega)) g1 ?_
  refine q_iconst (v := nI 1) dX9_work_7 rfl ?_
  refine q_iadd dX9_work_8 ?_
  refine q_iast (j := e) dX9_work_9 (ty_c hS (by decide) rfl) (ix_n (by omega) (by omega)) ?_
  refine q_aload_n dX9_work_10 rfl rfl rfl ?_
  refine q_dup dX9_work_11 rfl ?_
  refine q_geti (x := xA s) dX9_work_12 fX9_180 rfl (ty_c hS (by decide) rfl) (Eq.trans (rd_off (by decide)) g2) ?_
  refine q_iconst (v := nI 1) dX9_work_15 rfl ?_
  refine q_iadd dX9_work_16 ?_
  refine q_puti dX9_work_17 fX9_180 rfl (Or.inl rfl) (ty_c hS (by decide) rfl) ?_
  refine q_bipush (v := nI 32) dX9_work_20 rfl ?_
  refine q_iload_n dX9_work_22 rfl rfl ?_
  refine q_imulN dX9_work_23 ?_
  refine q_iload_n dX9_work_24 rfl rfl ?_
  refine q_iaddN dX9_work_25 ?_
  refine q_istore_n dX9_work_26 rfl (by decide) (ls' := [(3, .int (nI ((32 * i) + e))), (0, .ref 58), (1, .int (nI i)), (2, .int (nI e))]) rfl ?_
  refine q_aload_n dX9_work_27 rfl rfl rfl ?_
  refine q_aload_n dX9_work_28 rfl rfl rfl ?_
  refine q_getr (r := 81) dX9_work_29 fX9_100 rfl (ty_c hS (by decide) rfl) (hS.2 58 29 81 rfl) ?_
  refine q_iload_n dX9_work_32 rfl rfl ?_
  refine q_iald (x := opn (sm q e).2.2) (j := ((32 * i) + e)) dX9_work_33 (ty_c hS (by decide) rfl) (ix_n (by omega) (by omega)) (Eq.trans (rd_off (by decide)) (Eq.trans (rd_off (by decide)) s4)) ?_
  refine q_aload_n dX9_work_34 rfl rfl rfl ?_
  refine q_getr (r := 82) dX9_work_35 fX9_103 rfl (ty_c hS (by decide) rfl) (hS.2 58 30 82 rfl) ?_
  refine q_iload_n dX9_work_38 rfl rfl ?_
  refine q_iald (x := opv (sm q e).2.2) (j := ((32 * i) + e)) dX9_work_39 (ty_c hS (by decide) rfl) (ix_n (by omega) (by omega)) (Eq.trans (rd_off (by decide)) (Eq.trans (rd_off (by decide)) s5)) ?_
  refine q_callV (As := [.int (opn (sm q e).2.2), .int (opv (sm q e).2.2)]) (rest := []) dX9_work_40 vX9_395 (ty_c hS (by decide) rfl) ⟨by decide, rfl⟩ (z9_of (σ := (uI (uI σ 93 e ((xW s e) + (nI 1))) 58 55 ((xA s) + (nI 1)))) (s := wkS s e) hS hx.wk od.2) rfl rfl (Nat.le_of_ble_eq_true rfl) (by omega) (by omega) (by omega) (k_p ?_)
  refine q_istore dX9_work_43 (by decide) (ls' := [(4, .int (opV (xN s) (sm q e).2.2)), (3, .int (nI ((32 * i) + e))), (0, .ref 58), (1, .int (nI i)), (2, .int (nI e))]) rfl ?_
  refine q_aload_n dX9_work_45 rfl rfl rfl ?_
  refine q_getr (r := 78) dX9_work_46 fX9_91 rfl (ty_c hS (by decide) rfl) (hS.2 58 26 78 rfl) ?_
  refine q_iload_n dX9_work_49 rfl rfl ?_
  refine q_iald (x := nI 38) (j := ((32 * i) + e)) dX9_work_50 (ty_c hS (by decide) rfl) (ix_n (by omega) (by omega)) (Eq.trans (rd_off (by decide)) (Eq.trans (rd_off (by decide)) (s1.trans hcc))) ?_
  refine q_bipush (v := nI 114) dX9_work_51 rfl ?_
  refine q_icmp_neN (tgt := 106) dX9_work_53 (by decide) (by omega) (by omega) (fun _ => ?_) (fun h => absurd h (by decide))
  refine q_aload_n dX9_work_106 rfl rfl rfl ?_
  refine q_aload_n dX9_work_107 rfl rfl rfl ?_
  refine q_getr (r := 79) dX9_work_108 fX9_94 rfl (ty_c hS (by decide) rfl) (hS.2 58 27 79 rfl) ?_
  refine q_iload_n dX9_work_111 rfl rfl ?_
  refine q_iald (x := opn (sm q e).2.1) (j := ((32 * i) + e)) dX9_work_112 (ty_c hS (by decide) rfl) (ix_n (by omega) (by omega)) (Eq.trans (rd_off (by decide)) (Eq.trans (rd_off (by decide)) s2)) ?_
  refine q_aload_n dX9_work_113 rfl rfl rfl ?_
  refine q_getr (r := 80) dX9_work_114 fX9_97 rfl (ty_c hS (by decide) rfl) (hS.2 58 28 80 rfl) ?_
  refine q_iload_n dX9_work_117 rfl rfl ?_
  refine q_iald (x := opv (sm q e).2.1) (j := ((32 * i) + e)) dX9_work_118 (ty_c hS (by decide) rfl) (ix_n (by omega) (by omega)) (Eq.trans (rd_off (by decide)) (Eq.trans (rd_off (by decide)) s3)) ?_
  refine q_callV (As := [.int (opn (sm q e).2.1), .int (opv (sm q e).2.1)]) (rest := []) dX9_work_119 vX9_395 (ty_c hS (by decide) rfl) ⟨by decide, rfl⟩ (z9_of (σ := (uI (uI σ 93 e ((xW s e) + (nI 1))) 58 55 ((xA s) + (nI 1)))) (s := wkS s e) hS hx.wk od.1) rfl rfl (Nat.le_of_ble_eq_true rfl) (by omega) (by omega) (by omega) (k_p ?_)
  refine q_istore dX9_work_122 (by decide) (ls' := [(5, .int (opV (xN s) (sm q e).2.1)), (4, .int (opV (xN s) (sm q e).2.2)), (3, .int (nI ((32 * i) + e))), (0, .ref 58), (1, .int (nI i)), (2, .int (nI e))]) rfl ?_
  refine q_aload_n dX9_work_124 rfl rfl rfl ?_
  refine q_getr (r := 78) dX9_work_125 fX9_91 rfl (ty_c hS (by decide) rfl) (hS.2 58 26 78 rfl) ?_
  refine q_iload_n dX9_work_128 rfl rfl ?_
  refine q_iald (x := nI 38) (j := ((32 * i) + e)) dX9_work_129 (ty_c hS (by decide) rfl) (ix_n (by omega) (by omega)) (Eq.trans (rd_off (by decide)) (Eq.trans (rd_off (by decide)) (s1.trans hcc))) ?_
  by_cases w130_38 : 38 = 38
  · refine q_lookEq 38 (tgt := 198) (off := 68) dX9_work_130 (by rw [w130_38]) (by decide) (by decide) rfl (by decide) ?_
    refine q_iload dX9_work_198 rfl ?_
    refine q_iload dX9_work_200 rfl ?_
    refine q_iand dX9_work_202 ?_
    refine q_ireturn dX9_work_203 rfl rfl (by omega) (by omega) ?_
    exact ⟨_, rfl, wkM1 hx h56 eW⟩
  omega
theorem z9_work94 (hS : SK σ) (hi : i < 4) (hr : MR σ i q) (hk : MOK q) {e : Nat} (he : e < (psM q).length) (hx : XM σ s) (h56 : sI σ 58 56 = nI 0) (hcc : (sm q e).1 = nI 94) : CT g mX9_work 1 0 0 [.ref 58, .int (nI i), .int (nI e)] σ (fun r σ' => ∃ x, r = some (.int x) ∧ WkM σ s e (wkR s (sm q e)) x σ') := by
  obtain ⟨hc, hw, hB, hxx, hF⟩ := id hk
  have h32 := hw.2.2.2.1
  obtain ⟨s1, s2, s3, s4, s5⟩ := hr.1.2.2.2.2.2.2 e he
  have hm : SMW (sm q e) := sm_w hw he
  have od := opv_d hm
  have g1 := hx.2.2.1 e (by omega)
  have g2 := hx.2.2.2.2.2
  have n1 : sAn (sm q e) = opn (sm q e).2.1 := if_neg (by rw [hcc]; decide)
  have n2 : sAv (sm q e) = opv (sm q e).2.1 := if_neg (by rw [hcc]; decide)
  rw [n1] at s2
  rw [n2] at s3
  have eW : wkR s (sm q e) = some (opV (xN s) (sm q e).2.1 ^^^ opV (xN s) (sm q e).2.2) := by unfold wkR; rw [hcc]; exact wkF_c.2.2.2.2.1
  refine CT.of (by decide) (Nat.le_of_ble_eq_true rfl) ?_
  refine q_aload_n dX9_work_0 rfl rfl rfl ?_
  refine q_getr (r := 93) dX9_work_1 fX9_162 rfl (ty_c hS (by decide) rfl) (hS.2 58 49 93 rfl) ?_
  refine q_iload_n dX9_work_4 rfl rfl ?_
  refine q_dup2 dX9_work_5 rfl rfl ?_
  refine q_iald (x := xW s e) (j := e) dX9_work_6 (ty_c hS (by decide) rfl) (ix_n (by omega) (by omega)) g1 ?_
  refine q_iconst (v := nI 1) dX9_work_7 rfl ?_
  refine q_iadd dX9_work_8 ?_
  refine q_iast (j := e) dX9_work_9 (ty_c hS (by decide) rfl) (ix_n (by omega) (by omega)) ?_
  refine q_aload_n dX9_work_10 rfl rfl rfl ?_
  refine q_dup dX9_work_11 rfl ?_
  refine q_geti (x := xA s) dX9_work_12 fX9_180 rfl (ty_c hS (by decide) rfl) (Eq.trans (rd_off (by decide)) g2) ?_
  refine q_iconst (v := nI 1) dX9_work_15 rfl ?_
  refine q_iadd dX9_work_16 ?_
  refine q_puti dX9_work_17 fX9_180 rfl (Or.inl rfl) (ty_c hS (by decide) rfl) ?_
  refine q_bipush (v := nI 32) dX9_work_20 rfl ?_
  refine q_iload_n dX9_work_22 rfl rfl ?_
  refine q_imulN dX9_work_23 ?_
  refine q_iload_n dX9_work_24 rfl rfl ?_
  refine q_iaddN dX9_work_25 ?_
  refine q_istore_n dX9_work_26 rfl (by decide) (ls' := [(3, .int (nI ((32 * i) + e))), (0, .ref 58), (1, .int (nI i)), (2, .int (nI e))]) rfl ?_
  refine q_aload_n dX9_work_27 rfl rfl rfl ?_
  refine q_aload_n dX9_work_28 rfl rfl rfl ?_
  refine q_getr (r := 81) dX9_work_29 fX9_100 rfl (ty_c hS (by decide) rfl) (hS.2 58 29 81 rfl) ?_
  refine q_iload_n dX9_work_32 rfl rfl ?_
  refine q_iald (x := opn (sm q e).2.2) (j := ((32 * i) + e)) dX9_work_33 (ty_c hS (by decide) rfl) (ix_n (by omega) (by omega)) (Eq.trans (rd_off (by decide)) (Eq.trans (rd_off (by decide)) s4)) ?_
  refine q_aload_n dX9_work_34 rfl rfl rfl ?_
  refine q_getr (r := 82) dX9_work_35 fX9_103 rfl (ty_c hS (by decide) rfl) (hS.2 58 30 82 rfl) ?_
  refine q_iload_n dX9_work_38 rfl rfl ?_
  refine q_iald (x := opv (sm q e).2.2) (j := ((32 * i) + e)) dX9_work_39 (ty_c hS (by decide) rfl) (ix_n (by omega) (by omega)) (Eq.trans (rd_off (by decide)) (Eq.trans (rd_off (by decide)) s5)) ?_
  refine q_callV (As := [.int (opn (sm q e).2.2), .int (opv (sm q e).2.2)]) (rest := []) dX9_work_40 vX9_395 (ty_c hS (by decide) rfl) ⟨by decide, rfl⟩ (z9_of (σ := (uI (uI σ 93 e ((xW s e) + (nI 1))) 58 55 ((xA s) + (nI 1)))) (s := wkS s e) hS hx.wk od.2) rfl rfl (Nat.le_of_ble_eq_true rfl) (by omega) (by omega) (by omega) (k_p ?_)
  refine q_istore dX9_work_43 (by decide) (ls' := [(4, .int (opV (xN s) (sm q e).2.2)), (3, .int (nI ((32 * i) + e))), (0, .ref 58), (1, .int (nI i)), (2, .int (nI e))]) rfl ?_
  refine q_aload_n dX9_work_45 rfl rfl rfl ?_
  refine q_getr (r := 78) dX9_work_46 fX9_91 rfl (ty_c hS (by decide) rfl) (hS.2 58 26 78 rfl) ?_
  refine q_iload_n dX9_work_49 rfl rfl ?_
  refine q_iald (x := nI 94) (j := ((32 * i) + e)) dX9_work_50 (ty_c hS (by decide) rfl) (ix_n (by omega) (by omega)) (Eq.trans (rd_off (by decide)) (Eq.trans (rd_off (by decide)) (s1.trans hcc))) ?_
  refine q_bipush (v := nI 114) dX9_work_51 rfl ?_
  refine q_icmp_neN (tgt := 106) dX9_work_53 (by decide) (by omega) (by omega) (fun _ => ?_) (fun h => absurd h (by decide))
  refine q_aload_n dX9_work_106 rfl rfl rfl ?_
  refine q_aload_n dX9_work_107 rfl rfl rfl ?_
  refine q_getr (r := 79) dX9_work_108 fX9_94 rfl (ty_c hS (by decide) rfl) (hS.2 58 27 79 rfl) ?_
  refine q_iload_n dX9_work_111 rfl rfl ?_
  refine q_iald (x := opn (sm q e).2.1) (j := ((32 * i) + e)) dX9_work_112 (ty_c hS (by decide) rfl) (ix_n (by omega) (by omega)) (Eq.trans (rd_off (by decide)) (Eq.trans (rd_off (by decide)) s2)) ?_
  refine q_aload_n dX9_work_113 rfl rfl rfl ?_
  refine q_getr (r := 80) dX9_work_114 fX9_97 rfl (ty_c hS (by decide) rfl) (hS.2 58 28 80 rfl) ?_
  refine q_iload_n dX9_work_117 rfl rfl ?_
  refine q_iald (x := opv (sm q e).2.1) (j := ((32 * i) + e)) dX9_work_118 (ty_c hS (by decide) rfl) (ix_n (by omega) (by omega)) (Eq.trans (rd_off (by decide)) (Eq.trans (rd_off (by decide)) s3)) ?_
  refine q_callV (As := [.int (opn (sm q e).2.1), .int (opv (sm q e).2.1)]) (rest := []) dX9_work_119 vX9_395 (ty_c hS (by decide) rfl) ⟨by decide, rfl⟩ (z9_of (σ := (uI (uI σ 93 e ((xW s e) + (nI 1))) 58 55 ((xA s) + (nI 1)))) (s := wkS s e) hS hx.wk od.1) rfl rfl (Nat.le_of_ble_eq_true rfl) (by omega) (by omega) (by omega) (k_p ?_)
  refine q_istore dX9_work_122 (by decide) (ls' := [(5, .int (opV (xN s) (sm q e).2.1)), (4, .int (opV (xN s) (sm q e).2.2)), (3, .int (nI ((32 * i) + e))), (0, .ref 58), (1, .int (nI i)), (2, .int (nI e))]) rfl ?_
  refine q_aload_n dX9_work_124 rfl rfl rfl ?_
  refine q_getr (r := 78) dX9_work_125 fX9_91 rfl (ty_c hS (by decide) rfl) (hS.2 58 26 78 rfl) ?_
  refine q_iload_n dX9_work_128 rfl rfl ?_
  refine q_iald (x := nI 94) (j := ((32 * i) + e)) dX9_work_129 (ty_c hS (by decide) rfl) (ix_n (by omega) (by omega)) (Eq.trans (rd_off (by decide)) (Eq.trans (rd_off (by decide)) (s1.trans hcc))) ?_
  by_cases w130_94 : 94 = 94
  · refine q_lookEq 94 (tgt := 204) (off := 74) dX9_work_130 (by rw [w130_94]) (by decide) (by decide) rfl (by decide) ?_
    refine q_iload dX9_work_204 rfl ?_
    refine q_iload dX9_work_206 rfl ?_
    refine q_ixor dX9_work_208 ?_
    refine q_ireturn dX9_work_209 rfl rfl (by omega) (by omega) ?_
    exact ⟨_, rfl, wkM1 hx h56 eW⟩
  omega
theorem z9_work47 (hS : SK σ) (hi : i < 4) (hr : MR σ i q) (hk : MOK q) {e : Nat} (he : e < (psM q).length) (hx : XM σ s) (h56 : sI σ 58 56 = nI 0) (hcc : (sm q e).1 = nI 47) : CT g mX9_work 1 0 0 [.ref 58, .int (nI i), .int (nI e)] σ (fun r σ' => ∃ x, r = some (.int x) ∧ WkM σ s e (wkR s (sm q e)) x σ') := by
  obtain ⟨hc, hw, hB, hxx, hF⟩ := id hk
  have h32 := hw.2.2.2.1
  obtain ⟨s1, s2, s3, s4, s5⟩ := hr.1.2.2.2.2.2.2 e he
  have hm : SMW (sm q e) := sm_w hw he
  have od := opv_d hm
  have g1 := hx.2.2.1 e (by omega)
  have g2 := hx.2.2.2.2.2
  have n1 : sAn (sm q e) = opn (sm q e).2.1 := if_neg (by rw [hcc]; decide)
  have n2 : sAv (sm q e) = opv (sm q e).2.1 := if_neg (by rw [hcc]; decide)
  rw [n1] at s2
  rw [n2] at s3
  have eW : wkR s (sm q e) = if opV (xN s) (sm q e).2.2 = 0 then none else some (opV (xN s) (sm q e).2.1 / opV (xN s) (sm q e).2.2) := by unfold wkR; rw [hcc]; exact wkF_c.2.2.2.2.2.1
  refine CT.of (by decide) (Nat.le_of_ble_eq_true rfl) ?_
  refine q_aload_n dX9_work_0 rfl rfl rfl ?_
  refine q_getr (r := 93) dX9_work_1 fX9_162 rfl (ty_c hS (by decide) rfl) (hS.2 58 49 93 rfl) ?_
  refine q_iload_n dX9_work_4 rfl rfl ?_
  refine q_dup2 dX9_work_5 rfl rfl ?_
  refine q_iald (x := xW s e) (j := e) dX9_work_6 (ty_c hS (by decide) rfl) (ix_n (by omega) (by omega)) g1 ?_
  refine q_iconst (v := nI 1) dX9_work_7 rfl ?_
  refine q_iadd dX9_work_8 ?_
  refine q_iast (j := e) dX9_work_9 (ty_c hS (by decide) rfl) (ix_n (by omega) (by omega)) ?_
  refine q_aload_n dX9_work_10 rfl rfl rfl ?_
  refine q_dup dX9_work_11 rfl ?_
  refine q_geti (x := xA s) dX9_work_12 fX9_180 rfl (ty_c hS (by decide) rfl) (Eq.trans (rd_off (by decide)) g2) ?_
  refine q_iconst (v := nI 1) dX9_work_15 rfl ?_
  refine q_iadd dX9_work_16 ?_
  refine q_puti dX9_work_17 fX9_180 rfl (Or.inl rfl) (ty_c hS (by decide) rfl) ?_
  refine q_bipush (v := nI 32) dX9_work_20 rfl ?_
  refine q_iload_n dX9_work_22 rfl rfl ?_
  refine q_imulN dX9_work_23 ?_
  refine q_iload_n dX9_work_24 rfl rfl ?_
  refine q_iaddN dX9_work_25 ?_
  refine q_istore_n dX9_work_26 rfl (by decide) (ls' := [(3, .int (nI ((32 * i) + e))), (0, .ref 58), (1, .int (nI i)), (2, .int (nI e))]) rfl ?_
  refine q_aload_n dX9_work_27 rfl rfl rfl ?_
  refine q_aload_n dX9_work_28 rfl rfl rfl ?_
  refine q_getr (r := 81) dX9_work_29 fX9_100 rfl (ty_c hS (by decide) rfl) (hS.2 58 29 81 rfl) ?_
  refine q_iload_n dX9_work_32 rfl rfl ?_
  refine q_iald (x := opn (sm q e).2.2) (j := ((32 * i) + e)) dX9_work_33 (ty_c hS (by decide) rfl) (ix_n (by omega) (by omega)) (Eq.trans (rd_off (by decide)) (Eq.trans (rd_off (by decide)) s4)) ?_
  refine q_aload_n dX9_work_34 rfl rfl rfl ?_
  refine q_getr (r := 82) dX9_work_35 fX9_103 rfl (ty_c hS (by decide) rfl) (hS.2 58 30 82 rfl) ?_
  refine q_iload_n dX9_work_38 rfl rfl ?_
  refine q_iald (x := opv (sm q e).2.2) (j := ((32 * i) + e)) dX9_work_39 (ty_c hS (by decide) rfl) (ix_n (by omega) (by omega)) (Eq.trans (rd_off (by decide)) (Eq.trans (rd_off (by decide)) s5)) ?_
  refine q_callV (As := [.int (opn (sm q e).2.2), .int (opv (sm q e).2.2)]) (rest := []) dX9_work_40 vX9_395 (ty_c hS (by decide) rfl) ⟨by decide, rfl⟩ (z9_of (σ := (uI (uI σ 93 e ((xW s e) + (nI 1))) 58 55 ((xA s) + (nI 1)))) (s := wkS s e) hS hx.wk od.2) rfl rfl (Nat.le_of_ble_eq_true rfl) (by omega) (by omega) (by omega) (k_p ?_)
  refine q_istore dX9_work_43 (by decide) (ls' := [(4, .int (opV (xN s) (sm q e).2.2)), (3, .int (nI ((32 * i) + e))), (0, .ref 58), (1, .int (nI i)), (2, .int (nI e))]) rfl ?_
  refine q_aload_n dX9_work_45 rfl rfl rfl ?_
  refine q_getr (r := 78) dX9_work_46 fX9_91 rfl (ty_c hS (by decide) rfl) (hS.2 58 26 78 rfl) ?_
  refine q_iload_n dX9_work_49 rfl rfl ?_
  refine q_iald (x := nI 47) (j := ((32 * i) + e)) dX9_work_50 (ty_c hS (by decide) rfl) (ix_n (by omega) (by omega)) (Eq.trans (rd_off (by decide)) (Eq.trans (rd_off (by decide)) (s1.trans hcc))) ?_
  refine q_bipush (v := nI 114) dX9_work_51 rfl ?_
  refine q_icmp_neN (tgt := 106) dX9_work_53 (by decide) (by omega) (by omega) (fun _ => ?_) (fun h => absurd h (by decide))
  refine q_aload_n dX9_work_106 rfl rfl rfl ?_
  refine q_aload_n dX9_work_107 rfl rfl rfl ?_
  refine q_getr (r := 79) dX9_work_108 fX9_94 rfl (ty_c hS (by decide) rfl) (hS.2 58 27 79 rfl) ?_
  refine q_iload_n dX9_work_111 rfl rfl ?_
  refine q_iald (x := opn (sm q e).2.1) (j := ((32 * i) + e)) dX9_work_112 (ty_c hS (by decide) rfl) (ix_n (by omega) (by omega)) (Eq.trans (rd_off (by decide)) (Eq.trans (rd_off (by decide)) s2)) ?_
  refine q_aload_n dX9_work_113 rfl rfl rfl ?_
  refine q_getr (r := 80) dX9_work_114 fX9_97 rfl (ty_c hS (by decide) rfl) (hS.2 58 28 80 rfl) ?_
  refine q_iload_n dX9_work_117 rfl rfl ?_
  refine q_iald (x := opv (sm q e).2.1) (j := ((32 * i) + e)) dX9_work_118 (ty_c hS (by decide) rfl) (ix_n (by omega) (by omega)) (Eq.trans (rd_off (by decide)) (Eq.trans (rd_off (by decide)) s3)) ?_
  refine q_callV (As := [.int (opn (sm q e).2.1), .int (opv (sm q e).2.1)]) (rest := []) dX9_work_119 vX9_395 (ty_c hS (by decide) rfl) ⟨by decide, rfl⟩ (z9_of (σ := (uI (uI σ 93 e ((xW s e) + (nI 1))) 58 55 ((xA s) + (nI 1)))) (s := wkS s e) hS hx.wk od.1) rfl rfl (Nat.le_of_ble_eq_true rfl) (by omega) (by omega) (by omega) (k_p ?_)
  refine q_istore dX9_work_122 (by decide) (ls' := [(5, .int (opV (xN s) (sm q e).2.1)), (4, .int (opV (xN s) (sm q e).2.2)), (3, .int (nI ((32 * i) + e))), (0, .ref 58), (1, .int (nI i)), (2, .int (nI e))]) rfl ?_
  refine q_aload_n dX9_work_124 rfl rfl rfl ?_
  refine q_getr (r := 78) dX9_work_125 fX9_91 rfl (ty_c hS (by decide) rfl) (hS.2 58 26 78 rfl) ?_
  refine q_iload_n dX9_work_128 rfl rfl ?_
  refine q_iald (x := nI 47) (j := ((32 * i) + e)) dX9_work_129 (ty_c hS (by decide) rfl) (ix_n (by omega) (by omega)) (Eq.trans (rd_off (by decide)) (Eq.trans (rd_off (by decide)) (s1.trans hcc))) ?_
  refine q_lookNe [38, 42, 43, 45, 94] (tgt := 210) dX9_work_130 (by decide) rfl (by decide) (fun v h1 e => by have e2 := nI_inj (by omega) (by revert v; decide) e; simp at h1; omega) (by decide) ?_
  refine q_aload_n dX9_work_210 rfl rfl rfl ?_
  refine q_iload dX9_work_211 rfl ?_
  refine q_if_ne (tgt := 220) dX9_work_213 (by decide) (fun c213 => ?_) (fun c213 => ?_)
  · rw [if_neg c213] at eW
    refine q_iconst (v := nI 0) dX9_work_220 rfl ?_
    refine q_putz dX9_work_221 fX9_183 rfl (Or.inl rfl) (ty_c hS (by decide) rfl) (Or.inl rfl) ?_
    refine q_aload_n dX9_work_224 rfl rfl rfl ?_
    refine q_geti (x := nI 0) dX9_work_225 fX9_183 rfl (ty_c hS (by decide) rfl) uI_self ?_
    refine q_if_eqN (tgt := 235) dX9_work_228 (by decide) (by omega) (fun _ => ?_) (fun h => absurd h (by decide))
    refine q_iload dX9_work_235 rfl ?_
    refine q_iconst (v := (-1 : Int32)) dX9_work_237 rfl ?_
    refine q_icmp_ne (tgt := 247) dX9_work_238 (by decide) (fun c238 => ?_) (fun c238 => ?_)
    · skip
      refine q_iload dX9_work_247 rfl ?_
      refine q_iload dX9_work_249 rfl ?_
      refine q_idiv dX9_work_251 c213 ?_
      refine q_ireturn dX9_work_252 rfl rfl (by omega) (by omega) ?_
      first | exact ⟨_, rfl, wkM2 hx eW⟩ | exact ⟨_, rfl, wkM3 hx eW⟩
    · rw [c238, div_m1] at eW
      refine q_iload dX9_work_241 rfl ?_
      refine q_ineg dX9_work_243 ?_
      refine q_goto (tgt := 252) dX9_work_244 (by decide) ?_
      refine q_ireturn dX9_work_252 rfl rfl (by omega) (by omega) ?_
      first | exact ⟨_, rfl, wkM2 hx eW⟩ | exact ⟨_, rfl, wkM3 hx eW⟩
  · rw [if_pos c213] at eW
    refine q_iconst (v := nI 1) dX9_work_216 rfl ?_
    refine q_goto (tgt := 221) dX9_work_217 (by decide) ?_
    refine q_putz dX9_work_221 fX9_183 rfl (Or.inl rfl) (ty_c hS (by decide) rfl) (Or.inr rfl) ?_
    refine q_aload_n dX9_work_224 rfl rfl rfl ?_
    refine q_geti (x := nI 1) dX9_work_225 fX9_183 rfl (ty_c hS (by decide) rfl) uI_self ?_
    refine q_if_eqN (tgt := 235) dX9_work_228 (by decide) (by omega) (fun h => absurd h (by decide)) (fun _ => ?_)
    refine q_iconst (v := nI 0) dX9_work_231 rfl ?_
    refine q_goto (tgt := 252) dX9_work_232 (by decide) ?_
    refine q_ireturn dX9_work_252 rfl rfl (by omega) (by omega) ?_
    first | exact ⟨_, rfl, wkM2 hx eW⟩ | exact ⟨_, rfl, wkM3 hx eW⟩
theorem z9_work114 (hS : SK σ) (hi : i < 4) (hr : MR σ i q) (hk : MOK q) {e : Nat} (he : e < (psM q).length) (hx : XM σ s) (h56 : sI σ 58 56 = nI 0) (hcc : (sm q e).1 = nI 114) : CT g mX9_work 1 0 0 [.ref 58, .int (nI i), .int (nI e)] σ (fun r σ' => ∃ x, r = some (.int x) ∧ WkM σ s e (wkR s (sm q e)) x σ') := by
  obtain ⟨hc, hw, hB, hxx, hF⟩ := id hk
  have h32 := hw.2.2.2.1
  obtain ⟨s1, s2, s3, s4, s5⟩ := hr.1.2.2.2.2.2.2 e he
  have hm : SMW (sm q e) := sm_w hw he
  have od := opv_d hm
  have g1 := hx.2.2.1 e (by omega)
  have g2 := hx.2.2.2.2.2
  obtain ⟨w, w1, w2⟩ : ∃ w, w < 2 ∧ (sm q e).2.1 = nI w := by
    rcases hm with ⟨h1, _, _⟩ | ⟨_, h2, _⟩
    · exact absurd hcc (isO_r h1)
    · exact h2
  have n2 : sAv (sm q e) = nI w := (sAv_r hcc).trans w2
  rw [n2] at s3
  have ea : opV (xN s) (sm q e).2.1 = nI w := by rw [w2]; exact (opV_n (by omega)).2
  have eW : wkR s (sm q e) = if (¬ nI w < 0 ∧ nI w < nI 2) ∧ ¬ opV (xN s) (sm q e).2.2 < 0 ∧ opV (xN s) (sm q e).2.2 < nI 8 then some (xR s (nI w).toNatClampNeg (opV (xN s) (sm q e).2.2).toNatClampNeg) else none := by unfold wkR; rw [hcc, ea]; exact wkF_c.2.2.2.2.2.2
  by_cases hp : ¬ opV (xN s) (sm q e).2.2 < 0 ∧ opV (xN s) (sm q e).2.2 < nI 8
  · obtain ⟨c, c1, c2⟩ := n_in (by omega) hp
    rw [if_pos ⟨n_is (by omega) w1, hp⟩, c2, nI_clamp (by omega), nI_clamp (by omega)] at eW
    have r91 := hx.2.1 w w1 c c1
    refine CT.of (by decide) (Nat.le_of_ble_eq_true rfl) ?_
    refine q_aload_n dX9_work_0 rfl rfl rfl ?_
    refine q_getr (r := 93) dX9_work_1 fX9_162 rfl (ty_c hS (by decide) rfl) (hS.2 58 49 93 rfl) ?_
    refine q_iload_n dX9_work_4 rfl rfl ?_
    refine q_dup2 dX9_work_5 rfl rfl ?_
    refine q_iald (x := xW s e) (j := e) dX9_work_6 (ty_c hS (by decide) rfl) (ix_n (by omega) (by omega)) g1 ?_
    refine q_iconst (v := nI 1) dX9_work_7 rfl ?_
    refine q_iadd dX9_work_8 ?_
    refine q_iast (j := e) dX9_work_9 (ty_c hS (by decide) rfl) (ix_n (by omega) (by omega)) ?_
    refine q_aload_n dX9_work_10 rfl rfl rfl ?_
    refine q_dup dX9_work_11 rfl ?_
    refine q_geti (x := xA s) dX9_work_12 fX9_180 rfl (ty_c hS (by decide) rfl) (Eq.trans (rd_off (by decide)) g2) ?_
    refine q_iconst (v := nI 1) dX9_work_15 rfl ?_
    refine q_iadd dX9_work_16 ?_
    refine q_puti dX9_work_17 fX9_180 rfl (Or.inl rfl) (ty_c hS (by decide) rfl) ?_
    refine q_bipush (v := nI 32) dX9_work_20 rfl ?_
    refine q_iload_n dX9_work_22 rfl rfl ?_
    refine q_imulN dX9_work_23 ?_
    refine q_iload_n dX9_work_24 rfl rfl ?_
    refine q_iaddN dX9_work_25 ?_
    refine q_istore_n dX9_work_26 rfl (by decide) (ls' := [(3, .int (nI ((32 * i) + e))), (0, .ref 58), (1, .int (nI i)), (2, .int (nI e))]) rfl ?_
    refine q_aload_n dX9_work_27 rfl rfl rfl ?_
    refine q_aload_n dX9_work_28 rfl rfl rfl ?_
    refine q_getr (r := 81) dX9_work_29 fX9_100 rfl (ty_c hS (by decide) rfl) (hS.2 58 29 81 rfl) ?_
    refine q_iload_n dX9_work_32 rfl rfl ?_
    refine q_iald (x := opn (sm q e).2.2) (j := ((32 * i) + e)) dX9_work_33 (ty_c hS (by decide) rfl) (ix_n (by omega) (by omega)) (Eq.trans (rd_off (by decide)) (Eq.trans (rd_off (by decide)) s4)) ?_
    refine q_aload_n dX9_work_34 rfl rfl rfl ?_
    refine q_getr (r := 82) dX9_work_35 fX9_103 rfl (ty_c hS (by decide) rfl) (hS.2 58 30 82 rfl) ?_
    refine q_iload_n dX9_work_38 rfl rfl ?_
    refine q_iald (x := opv (sm q e).2.2) (j := ((32 * i) + e)) dX9_work_39 (ty_c hS (by decide) rfl) (ix_n (by omega) (by omega)) (Eq.trans (rd_off (by decide)) (Eq.trans (rd_off (by decide)) s5)) ?_
    refine q_callV (As := [.int (opn (sm q e).2.2), .int (opv (sm q e).2.2)]) (rest := []) dX9_work_40 vX9_395 (ty_c hS (by decide) rfl) ⟨by decide, rfl⟩ (c2 ▸ z9_of (σ := (uI (uI σ 93 e ((xW s e) + (nI 1))) 58 55 ((xA s) + (nI 1)))) (s := wkS s e) hS hx.wk od.2) rfl rfl (Nat.le_of_ble_eq_true rfl) (by omega) (by omega) (by omega) (k_p ?_)
    refine q_istore dX9_work_43 (by decide) (ls' := [(4, .int (nI c)), (3, .int (nI ((32 * i) + e))), (0, .ref 58), (1, .int (nI i)), (2, .int (nI e))]) rfl ?_
    refine q_aload_n dX9_work_45 rfl rfl rfl ?_
    refine q_getr (r := 78) dX9_work_46 fX9_91 rfl (ty_c hS (by decide) rfl) (hS.2 58 26 78 rfl) ?_
    refine q_iload_n dX9_work_49 rfl rfl ?_
    refine q_iald (x := nI 114) (j := ((32 * i) + e)) dX9_work_50 (ty_c hS (by decide) rfl) (ix_n (by omega) (by omega)) (Eq.trans (rd_off (by decide)) (Eq.trans (rd_off (by decide)) (s1.trans hcc))) ?_
    refine q_bipush (v := nI 114) dX9_work_51 rfl ?_
    refine q_icmp_neN (tgt := 106) dX9_work_53 (by decide) (by omega) (by omega) (fun h => absurd h (by decide)) (fun _ => ?_)
    refine q_aload_n dX9_work_56 rfl rfl rfl ?_
    refine q_iload dX9_work_57 rfl ?_
    refine q_if_ltN (tgt := 69) dX9_work_59 (by decide) (by omega) ?_
    refine q_iload dX9_work_62 rfl ?_
    refine q_bipush (v := nI 7) dX9_work_64 rfl ?_
    refine q_icmp_leN (tgt := 73) dX9_work_66 (by decide) (by omega) (by omega) (fun c66 => ?_) (fun c66 => ?_)
    · skip
      refine q_iconst (v := nI 0) dX9_work_73 rfl ?_
      refine q_putz dX9_work_74 fX9_183 rfl (Or.inl rfl) (ty_c hS (by decide) rfl) (Or.inl rfl) ?_
      refine q_aload_n dX9_work_77 rfl rfl rfl ?_
      refine q_geti (x := nI 0) dX9_work_78 fX9_183 rfl (ty_c hS (by decide) rfl) uI_self ?_
      refine q_if_eqN (tgt := 88) dX9_work_81 (by decide) (by omega) (fun _ => ?_) (fun h => absurd h (by decide))
      refine q_aload_n dX9_work_88 rfl rfl rfl ?_
      refine q_getr (r := 91) dX9_work_89 fX9_156 rfl (ty_c hS (by decide) rfl) (hS.2 58 47 91 rfl) ?_
      refine q_bipush (v := nI 8) dX9_work_92 rfl ?_
      refine q_aload_n dX9_work_94 rfl rfl rfl ?_
      refine q_getr (r := 80) dX9_work_95 fX9_97 rfl (ty_c hS (by decide) rfl) (hS.2 58 28 80 rfl) ?_
      refine q_iload_n dX9_work_98 rfl rfl ?_
      refine q_iald (x := nI w) (j := ((32 * i) + e)) dX9_work_99 (ty_c hS (by decide) rfl) (ix_n (by omega) (by omega)) (Eq.trans (rd_off (by decide)) (Eq.trans (rd_off (by decide)) (Eq.trans (rd_off (by decide)) s3))) ?_
      refine q_imulN dX9_work_100 ?_
      refine q_iload dX9_work_101 rfl ?_
      refine q_iaddN dX9_work_103 ?_
      refine q_iald (x := xR s w c) (j := ((8 * w) + c)) dX9_work_104 (ty_c hS (by decide) rfl) (ix_n (by omega) (by omega)) (Eq.trans (rd_off (by decide)) (Eq.trans (rd_off (by decide)) (Eq.trans (rd_off (by decide)) r91))) ?_
      refine q_ireturn dX9_work_105 rfl rfl (by omega) (by omega) ?_
      exact ⟨_, rfl, wkM2 hx eW⟩
    · exact absurd c66 (by omega)
  · rw [if_neg (fun z => hp z.2)] at eW
    refine CT.of (by decide) (Nat.le_of_ble_eq_true rfl) ?_
    refine q_aload_n dX9_work_0 rfl rfl rfl ?_
    refine q_getr (r := 93) dX9_work_1 fX9_162 rfl (ty_c hS (by decide) rfl) (hS.2 58 49 93 rfl) ?_
    refine q_iload_n dX9_work_4 rfl rfl ?_
    refine q_dup2 dX9_work_5 rfl rfl ?_
    refine q_iald (x := xW s e) (j := e) dX9_work_6 (ty_c hS (by decide) rfl) (ix_n (by omega) (by omega)) g1 ?_
    refine q_iconst (v := nI 1) dX9_work_7 rfl ?_
    refine q_iadd dX9_work_8 ?_
    refine q_iast (j := e) dX9_work_9 (ty_c hS (by decide) rfl) (ix_n (by omega) (by omega)) ?_
    refine q_aload_n dX9_work_10 rfl rfl rfl ?_
    refine q_dup dX9_work_11 rfl ?_
    refine q_geti (x := xA s) dX9_work_12 fX9_180 rfl (ty_c hS (by decide) rfl) (Eq.trans (rd_off (by decide)) g2) ?_
    refine q_iconst (v := nI 1) dX9_work_15 rfl ?_
    refine q_iadd dX9_work_16 ?_
    refine q_puti dX9_work_17 fX9_180 rfl (Or.inl rfl) (ty_c hS (by decide) rfl) ?_
    refine q_bipush (v := nI 32) dX9_work_20 rfl ?_
    refine q_iload_n dX9_work_22 rfl rfl ?_
    refine q_imulN dX9_work_23 ?_
    refine q_iload_n dX9_work_24 rfl rfl ?_
    refine q_iaddN dX9_work_25 ?_
    refine q_istore_n dX9_work_26 rfl (by decide) (ls' := [(3, .int (nI ((32 * i) + e))), (0, .ref 58), (1, .int (nI i)), (2, .int (nI e))]) rfl ?_
    refine q_aload_n dX9_work_27 rfl rfl rfl ?_
    refine q_aload_n dX9_work_28 rfl rfl rfl ?_
    refine q_getr (r := 81) dX9_work_29 fX9_100 rfl (ty_c hS (by decide) rfl) (hS.2 58 29 81 rfl) ?_
    refine q_iload_n dX9_work_32 rfl rfl ?_
    refine q_iald (x := opn (sm q e).2.2) (j := ((32 * i) + e)) dX9_work_33 (ty_c hS (by decide) rfl) (ix_n (by omega) (by omega)) (Eq.trans (rd_off (by decide)) (Eq.trans (rd_off (by decide)) s4)) ?_
    refine q_aload_n dX9_work_34 rfl rfl rfl ?_
    refine q_getr (r := 82) dX9_work_35 fX9_103 rfl (ty_c hS (by decide) rfl) (hS.2 58 30 82 rfl) ?_
    refine q_iload_n dX9_work_38 rfl rfl ?_
    refine q_iald (x := opv (sm q e).2.2) (j := ((32 * i) + e)) dX9_work_39 (ty_c hS (by decide) rfl) (ix_n (by omega) (by omega)) (Eq.trans (rd_off (by decide)) (Eq.trans (rd_off (by decide)) s5)) ?_
    refine q_callV (As := [.int (opn (sm q e).2.2), .int (opv (sm q e).2.2)]) (rest := []) dX9_work_40 vX9_395 (ty_c hS (by decide) rfl) ⟨by decide, rfl⟩ (z9_of (σ := (uI (uI σ 93 e ((xW s e) + (nI 1))) 58 55 ((xA s) + (nI 1)))) (s := wkS s e) hS hx.wk od.2) rfl rfl (Nat.le_of_ble_eq_true rfl) (by omega) (by omega) (by omega) (k_p ?_)
    refine q_istore dX9_work_43 (by decide) (ls' := [(4, .int (opV (xN s) (sm q e).2.2)), (3, .int (nI ((32 * i) + e))), (0, .ref 58), (1, .int (nI i)), (2, .int (nI e))]) rfl ?_
    refine q_aload_n dX9_work_45 rfl rfl rfl ?_
    refine q_getr (r := 78) dX9_work_46 fX9_91 rfl (ty_c hS (by decide) rfl) (hS.2 58 26 78 rfl) ?_
    refine q_iload_n dX9_work_49 rfl rfl ?_
    refine q_iald (x := nI 114) (j := ((32 * i) + e)) dX9_work_50 (ty_c hS (by decide) rfl) (ix_n (by omega) (by omega)) (Eq.trans (rd_off (by decide)) (Eq.trans (rd_off (by decide)) (s1.trans hcc))) ?_
    refine q_bipush (v := nI 114) dX9_work_51 rfl ?_
    refine q_icmp_neN (tgt := 106) dX9_work_53 (by decide) (by omega) (by omega) (fun h => absurd h (by decide)) (fun _ => ?_)
    refine q_aload_n dX9_work_56 rfl rfl rfl ?_
    refine q_iload dX9_work_57 rfl ?_
    refine q_if_lt (tgt := 69) dX9_work_59 (by decide) (fun c59 => ?_) (fun c59 => ?_)
    · skip
      refine q_iconst (v := nI 1) dX9_work_69 rfl ?_
      refine q_goto (tgt := 74) dX9_work_70 (by decide) ?_
      refine q_putz dX9_work_74 fX9_183 rfl (Or.inl rfl) (ty_c hS (by decide) rfl) (Or.inr rfl) ?_
      refine q_aload_n dX9_work_77 rfl rfl rfl ?_
      refine q_geti (x := nI 1) dX9_work_78 fX9_183 rfl (ty_c hS (by decide) rfl) uI_self ?_
      refine q_if_eqN (tgt := 88) dX9_work_81 (by decide) (by omega) (fun h => absurd h (by decide)) (fun _ => ?_)
      refine q_iconst (v := nI 0) dX9_work_84 rfl ?_
      refine q_goto (tgt := 105) dX9_work_85 (by decide) ?_
      refine q_ireturn dX9_work_105 rfl rfl (by omega) (by omega) ?_
      exact ⟨_, rfl, wkM3 hx eW⟩
    · skip
      refine q_iload dX9_work_62 rfl ?_
      refine q_bipush (v := nI 7) dX9_work_64 rfl ?_
      refine q_icmp_le (tgt := 73) dX9_work_66 (by decide) (fun c66 => ?_) (fun c66 => ?_)
      · exact absurd ⟨c59, (le_lt (by omega)).mp c66⟩ hp
      · skip
        refine q_iconst (v := nI 1) dX9_work_69 rfl ?_
        refine q_goto (tgt := 74) dX9_work_70 (by decide) ?_
        refine q_putz dX9_work_74 fX9_183 rfl (Or.inl rfl) (ty_c hS (by decide) rfl) (Or.inr rfl) ?_
        refine q_aload_n dX9_work_77 rfl rfl rfl ?_
        refine q_geti (x := nI 1) dX9_work_78 fX9_183 rfl (ty_c hS (by decide) rfl) uI_self ?_
        refine q_if_eqN (tgt := 88) dX9_work_81 (by decide) (by omega) (fun h => absurd h (by decide)) (fun _ => ?_)
        refine q_iconst (v := nI 0) dX9_work_84 rfl ?_
        refine q_goto (tgt := 105) dX9_work_85 (by decide) ?_
        refine q_ireturn dX9_work_105 rfl rfl (by omega) (by omega) ?_
        exact ⟨_, rfl, wkM3 hx eW⟩

theorem z9_work (hS : SK σ) (hi : i < 4) (hr : MR σ i q) (hk : MOK q) {e : Nat} (he : e < (psM q).length) (hx : XM σ s) (h56 : sI σ 58 56 = nI 0) : CT g mX9_work 1 0 0 [.ref 58, .int (nI i), .int (nI e)] σ (fun r σ' => ∃ x, r = some (.int x) ∧ WkM σ s e (wkR s (sm q e)) x σ') := by
  have hm : SMW (sm q e) := sm_w hk.2.1 he
  rcases hm with ⟨h | h | h | h | h | h, _, _⟩ | ⟨h, _, _⟩
  · exact z9_work43 hS hi hr hk he hx h56 h
  · exact z9_work45 hS hi hr hk he hx h56 h
  · exact z9_work42 hS hi hr hk he hx h56 h
  · exact z9_work47 hS hi hr hk he hx h56 h
  · exact z9_work38 hS hi hr hk he hx h56 h
  · exact z9_work94 hS hi hr hk he hx h56 h
  · exact z9_work114 hS hi hr hk he hx h56 h
end MWK
