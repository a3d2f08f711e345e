/-! The model's parser: a statement. -/
def nmR (r : REC) : List (Nat × Nat) := (match un (rW0 r) with | some t => [(rP0 r, t)] | none => []) ++ (match un (rW1 r) with | some t => [(rP1 r, t)] | none => [])
def nmA (q : PS) : List (Nat × Nat) := (psS q).flatMap nmR
def NDs (σ : HS) (q : PS) : Prop := ∀ i, i < (psS q).length → ND σ (960 + i) (rr q i) ∧ (psX q = false → sI σ 70 (960 + i) = rS (rr q i))
def BKs (σ : HS) (q : PS) : Prop := ∀ j, j < (psF q).length → sI σ 65 (164 + j) = nI ((psF q).getD j 0) ∧ sI σ 66 (164 + j) = nI ((psH q).getD j 0)
/-- what was read, as the model keeps it -/
def MPS (σ : HS) (q : PS) : Prop := sI σ 61 4 = nI (psF q).length ∧ sI σ 62 4 = nI (psS q).length ∧ NDs σ q ∧ BKs σ q ∧ SMs σ (psM q) ∧ sI σ 58 38 = bi (psX q) ∧ NL σ (nmA q)
theorem ND.cp {σ σ' : HS} {n : Nat} {r : REC} (h : ∀ a, 67 ≤ a → a ≤ 77 → sI σ' a n = sI σ a n) (k : ND σ n r) : ND σ' n r := by
  unfold ND at k ⊢
  rw [h 67 (by omega) (by omega), h 68 (by omega) (by omega), h 69 (by omega) (by omega), h 71 (by omega) (by omega), h 72 (by omega) (by omega), h 73 (by omega) (by omega), h 74 (by omega) (by omega), h 75 (by omega) (by omega), h 76 (by omega) (by omega), h 77 (by omega) (by omega)]
  exact k
theorem NDs.fq {P : Nat → Nat → Prop} {σ σ' : HS} {q : PS} (h : FR9 P σ σ') (h1 : ∀ a i, 67 ≤ a → a ≤ 77 → i < 960 + (psS q).length → ¬ P a i) (k : NDs σ q) : NDs σ' q := fun i hi =>
  ⟨(k i hi).1.cp fun a a1 a2 => h.2.2.2 a _ (h1 a _ a1 a2 (by omega)), fun hx => (h.2.2.2 70 _ (h1 70 _ (by omega) (by omega) (by omega))).trans ((k i hi).2 hx)⟩
theorem BKs.fq {P : Nat → Nat → Prop} {σ σ' : HS} {q : PS} (h : FR9 P σ σ') (h1 : ∀ a i, a = 65 ∨ a = 66 → ¬ P a i) (k : BKs σ q) : BKs σ' q := fun j hj =>
  ⟨(h.2.2.2 65 _ (h1 _ _ (by omega))).trans (k j hj).1, (h.2.2.2 66 _ (h1 _ _ (by omega))).trans (k j hj).2⟩
theorem MPS.lb {σ σ' : HS} {q : PS} (f : FR9 lxb σ σ') (k : MPS σ q) : MPS σ' q := by
  obtain ⟨k1, k2, k3, k4, k5, k6, k7⟩ := k
  exact ⟨(lb_k f (by omega)).trans k1, (lb_k f (by omega)).trans k2, k3.fq f (fun a i _ _ _ => by unfold lxb; omega), k4.fq f (fun a i _ => by unfold lxb; omega), k5.lb f, (f.2.2.2 58 38 (by unfold lxb; omega)).trans k6, k7.lb f⟩
/-- behind a statement's words -/
def SgR (σ' : HS) (T : Nat → Nat) (L n b : Nat) (l : List (Nat × Nat)) (ss : List SUM) (m : Bool) (s : ST0) : Prop := ND σ' n (rcN T L b s (-1)) ∧ NL σ' (l ++ nmT9 T L s) ∧ match s.2.2.2.2.1 with
  | none => sI σ' 70 n = -1 ∧ SMs σ' ss ∧ sI σ' 58 38 = bi m
  | some x => ((nSum ss x).2.2 = false → sI σ' 70 n = (nSum ss x).1) ∧ SMs σ' (nSum ss x).2.1 ∧ sI σ' 58 38 = bi (m || (nSum ss x).2.2)
def SgQ (σ : HS) (T : Nat → Nat) (L n b : Nat) (l : List (Nat × Nat)) (ss : List SUM) (m : Bool) (kd k : Nat) : HS → Prop := fun σ' => BS σ' T L ((pSt T L kd k).bind fun s => .ok s.2.1) ∧ (∀ s, pSt T L kd k = .ok s → SgR σ' T L n b l ss m s.1) ∧ FR9 (smq n) σ σ'
theorem SgR.lb {σ σ' : HS} {T : Nat → Nat} {L n b : Nat} {l : List (Nat × Nat)} {ss : List SUM} {m : Bool} {s : ST0} (f : FR9 lxb σ σ') (h : SgR σ T L n b l ss m s) : SgR σ' T L n b l ss m s := by
  obtain ⟨o0, o1, o2, o3, sm, o5, o6⟩ := s
  cases sm with
  | none =>
    obtain ⟨h1, h2, h3, h4, h5⟩ := h
    exact ⟨h1.cp fun a a1 a2 => lb_k f (by omega), h2.lb f, (lb_k f (by omega)).trans h3, h4.lb f, (f.2.2.2 58 38 (by unfold lxb; omega)).trans h5⟩
  | some x =>
    obtain ⟨h1, h2, h3, h4, h5⟩ := h
    exact ⟨h1.cp fun a a1 a2 => lb_k f (by omega), h2.lb f, fun z => (lb_k f (by omega)).trans (h3 z), h4.lb f, (f.2.2.2 58 38 (by unfold lxb; omega)).trans h5⟩
def StY (T : Nat → Nat) (L b k : Nat) (q : PS) : PR (Nat × Nat × PS) := match pKd T L k with
  | none => .error (er T L k 2)
  | some kd => if 160 ≤ (psS q).length then .error (er T L k 3) else (pSt T L kd k).bind fun s => (pSg T L 59 s.2.1).bind fun k2 => .ok (kd, k2, psAdd T L q b s.1 s.2.2)
theorem pSts_st {T : Nat → Nat} {L b f k : Nat} {q : PS} : pSts T L b (f + 1) k q = (StY T L b k q).bind fun r => if 4 ≤ r.1 then .ok (r.2.1, r.2.2) else pSts T L b f r.2.1 r.2.2 := by
  conv => lhs; unfold pSts
  unfold StY
  cases pKd T L k with
  | none => rfl
  | some kd =>
    simp only
    by_cases h : 160 ≤ (psS q).length
    · rw [if_pos h, if_pos h]; rfl
    · rw [if_neg h, if_neg h]
      cases pSt T L kd k with
      | error e => rfl
      | ok s =>
        show ((pSg T L 59 s.2.1).bind _) = (((pSg T L 59 s.2.1).bind _)).bind _
        cases pSg T L 59 s.2.1 <;> rfl
theorem nm_rc {T : Nat → Nat} {L b : Nat} {s : ST0} {sn : Int32} (hT : ∀ i, i < L → T i < 256) : nmR (rcN T L b s sn) = nmT9 T L s := by
  have one : ∀ w, (match un (wyV T L w) with | some t => [(ts T L w, t)] | none => []) = nm1 T L w := fun w => by
    unfold nm1 wyV
    by_cases h : w = 0
    · rw [if_pos h, if_pos h]; rfl
    · rw [if_neg h, if_neg h]
      have e : un (nI (tv T L w)) = some (tv T L w) := un_oW (o := some (tv T L w)) fun v hv => by
        have := tv_b (L := L) (k := w) hT
        cases hv; omega
      rw [e]
  show (match un (wyV T L s.2.2.2.2.2.1) with | some t => [(ts T L s.2.2.2.2.2.1, t)] | none => []) ++ (match un (wyV T L s.2.2.2.2.2.2) with | some t => [(ts T L s.2.2.2.2.2.2, t)] | none => []) = _
  rw [one, one]; rfl
section MST
variable {g : GG} {σ : HS} {T : Nat → Nat} {L k n b kd : Nat} {l : List (Nat × Nat)} {ss : List SUM} {m : Bool} {q : PS}
theorem pKd_c (hk : pKd T L k = some kd) : (kd = 1 ∧ tk T L k = 3) ∨ (kd = 2 ∧ tk T L k = 4) ∨ (3 ≤ kd ∧ kd ≤ 6 ∧ tk T L k = 8 ∧ tv T L k = kd) := by
  unfold pKd at hk
  by_cases h3 : tk T L k = 3
  · rw [if_pos h3] at hk; cases hk; exact Or.inl ⟨rfl, h3⟩
  · rw [if_neg h3] at hk
    by_cases h4 : tk T L k = 4
    · rw [if_pos h4] at hk; cases hk; exact Or.inr (Or.inl ⟨rfl, h4⟩)
    · rw [if_neg h4] at hk
      by_cases h8 : tk T L k = 8
      · rw [if_pos h8] at hk; cases hk
        have := tv_key h8
        exact Or.inr (Or.inr ⟨by omega, by omega, h8, rfl⟩)
      · rw [if_neg h8] at hk; cases hk
theorem pSt_wk (hT : ∀ i, i < L → T i < 256) (hk : pKd T L k = some kd) {s : ST0} {k2 : Nat} {t : Bool} (h : pSt T L kd k = .ok (s, k2, t)) : STW T L kd s t := by
  have hb := pKd_b hk
  have hc := pKd_c hk
  exact pSt_w hT hb.1 hb.2.1 h (fun e => by omega) (fun e => by omega)
theorem k8_no (c1 : decide (tk T L k = 8 ∧ tv T L k = 3) = false) (c2 : decide (tk T L k = 8 ∧ tv T L k = 4) = false) (c3 : decide (tk T L k = 8 ∧ tv T L k = 5) = false) (c4 : decide (tk T L k = 8 ∧ tv T L k = 6) = false) : tk T L k ≠ 8 := fun h8 => by
  have := tv_key h8
  have c1 := of_decide_eq_false c1
  have c2 := of_decide_eq_false c2
  have c3 := of_decide_eq_false c3
  have c4 := of_decide_eq_false c4
  omega
theorem hd_sg {σ' : HS} (hT : ∀ i, i < L → T i < 256) (hk : pKd T L k = some kd) (h2 : 2 ≤ kd) (hs : SMs σ ss) (hm : sI σ 58 38 = bi m) (h : HdQ σ T L n b l kd k σ') : SgQ σ T L n b l ss m kd k σ' := by
  obtain ⟨q1, q2, q3⟩ := h
  refine ⟨q1, fun s hs' => ?_, q3.mono fun _ _ => smq.nd⟩
  obtain ⟨r1, r2, r3⟩ := q2 s hs'
  obtain ⟨s0, k2, t⟩ := s
  have w := pSt_wk hT hk hs'
  obtain ⟨w1, -, -, -, w2, -⟩ := w
  have e : s0.2.2.2.2.1 = none := by
    rcases w2 with ⟨w2, -⟩ | ⟨-, w2⟩
    · exfalso; omega
    · exact w2
  obtain ⟨o0, o1, o2, o3, sm, o5, o6⟩ := s0
  cases (show sm = none from e)
  exact ⟨r1, r3, r2, hs.nd q3, (q3.2.2.2 58 38 (by unfold ndq blq lxb; omega)).trans hm⟩
theorem as_sg {σ' : HS} (h : AsQ σ T L n b l ss m 1 k σ') : SgQ σ T L n b l ss m 1 k σ' := by
  obtain ⟨q1, q2, q3⟩ := h
  refine ⟨q1, fun s hs => ?_, q3⟩
  obtain ⟨r1, r2, r3⟩ := q2 s hs
  have e : nmT9 T L s.1 = [] := by
    have hs : ((pSg T L 61 (k + 1)).bind fun k1 => (pVl T L k1).bind fun v => (.ok (((if v.2.2.1.isSome then 0 else 1), nI (tv T L k), v.1, v.2.1, v.2.2.1, 0, 0), v.2.2.2.1, decide (16 ≤ tv T L k) || v.2.2.2.2) : PR (ST0 × Nat × Bool))) = .ok s := hs
    obtain ⟨k1, _, hs⟩ := exb hs
    obtain ⟨v, _, hs⟩ := exb hs
    cases hs
    rfl
  exact ⟨r1, by rw [e, List.append_nil]; exact r2, r3⟩
theorem z9_mayBegin (hS : SK σ) (hM : MTk σ T L k) : CT g mX9_mayBegin 2 0 0 [.ref 58] σ (PQ σ (.int (bi (pKd T L k).isSome))) := by
  have hr := tkd_r hM.2.2
  unfold pKd
  by_cases h3 : tk T L k = 3
  · rw [if_pos h3]
    have v3 := tv_345.1 h3
    refine CT.of (by decide) (Nat.le_of_ble_eq_true rfl) ?_
    refine q_aload_n dX9_mayBegin_0 rfl rfl rfl ?_
    refine q_callV (As := []) (rest := []) dX9_mayBegin_1 vX9_239 (ty_c hS (by decide) rfl) ⟨by decide, rfl⟩ (z9_named_y hS hM h3) rfl rfl (Nat.le_of_ble_eq_true rfl) (by omega) (by omega) (by omega) (k_p ?_)
    refine q_if_geN (tgt := 57) dX9_mayBegin_4 (by decide) (by omega) ?_
    refine q_iconst (v := nI 1) dX9_mayBegin_57 rfl ?_
    refine q_goto (tgt := 62) dX9_mayBegin_58 (by decide) ?_
    refine q_ireturn dX9_mayBegin_62 rfl rfl (by omega) (by omega) ?_
    exact fin_t rfl
  · rw [if_neg h3]
    by_cases h4 : tk T L k = 4
    · rw [if_pos h4] at hr ⊢
      have v4 := tv_345.2.1 h4
      refine CT.of (by decide) (Nat.le_of_ble_eq_true rfl) ?_
      refine q_aload_n dX9_mayBegin_0 rfl rfl rfl ?_
      refine q_callV (As := []) (rest := []) dX9_mayBegin_1 vX9_239 (ty_c hS (by decide) rfl) ⟨by decide, rfl⟩ (z9_named_n hS hM h3) rfl rfl (Nat.le_of_ble_eq_true rfl) (by omega) (by omega) (by omega) (k_p ?_)
      refine q_if_ge1 (tgt := 57) dX9_mayBegin_4 (by decide) (by decide) ?_
      refine q_aload_n dX9_mayBegin_7 rfl rfl rfl ?_
      refine q_bipush (v := nI 114) dX9_mayBegin_8 rfl ?_
      refine q_iconst (v := nI 1) dX9_mayBegin_10 rfl ?_
      refine q_callV (As := [.int (nI 114), .int (nI 1)]) (rest := []) dX9_mayBegin_11 vX9_225 (ty_c hS (by decide) rfl) ⟨by decide, rfl⟩ (hr ▸ z9_numbered hS) rfl rfl (Nat.le_of_ble_eq_true rfl) (by omega) (by omega) (by omega) (k_p ?_)
      refine q_if_geN (tgt := 57) dX9_mayBegin_14 (by decide) (by omega) ?_
      refine q_iconst (v := nI 1) dX9_mayBegin_57 rfl ?_
      refine q_goto (tgt := 62) dX9_mayBegin_58 (by decide) ?_
      refine q_ireturn dX9_mayBegin_62 rfl rfl (by omega) (by omega) ?_
      exact fin_t rfl
    · rw [if_neg h4] at hr ⊢
      refine CT.of (by decide) (Nat.le_of_ble_eq_true rfl) ?_
      refine q_aload_n dX9_mayBegin_0 rfl rfl rfl ?_
      refine q_callV (As := []) (rest := []) dX9_mayBegin_1 vX9_239 (ty_c hS (by decide) rfl) ⟨by decide, rfl⟩ (z9_named_n hS hM h3) rfl rfl (Nat.le_of_ble_eq_true rfl) (by omega) (by omega) (by omega) (k_p ?_)
      refine q_if_ge1 (tgt := 57) dX9_mayBegin_4 (by decide) (by decide) ?_
      refine q_aload_n dX9_mayBegin_7 rfl rfl rfl ?_
      refine q_bipush (v := nI 114) dX9_mayBegin_8 rfl ?_
      refine q_iconst (v := nI 1) dX9_mayBegin_10 rfl ?_
      refine q_callV (As := [.int (nI 114), .int (nI 1)]) (rest := []) dX9_mayBegin_11 vX9_225 (ty_c hS (by decide) rfl) ⟨by decide, rfl⟩ (hr ▸ z9_numbered hS) rfl rfl (Nat.le_of_ble_eq_true rfl) (by omega) (by omega) (by omega) (k_p ?_)
      refine q_if_ge1 (tgt := 57) dX9_mayBegin_14 (by decide) (by decide) ?_
      refine q_aload_n dX9_mayBegin_17 rfl rfl rfl ?_
      refine q_ldc2 (v := (1952803948 : Int64)) dX9_mayBegin_18 kX9_243 ?_
      refine q_callV (As := [.long (1952803948 : Int64)]) (rest := []) dX9_mayBegin_21 vX9_245 (ty_c hS (by decide) rfl) ⟨by decide, rfl⟩ (z9_isWord (j := 3) hS hM (by omega)) rfl rfl (Nat.le_of_ble_eq_true rfl) (by omega) (by omega) (by omega) (k_p ?_)
      refine q_if_neB (tgt := 57) dX9_mayBegin_24 (by decide) (fun c24 => ?_) (fun c24 => ?_)
      · skip
        refine q_iconst (v := nI 1) dX9_mayBegin_57 rfl ?_
        refine q_goto (tgt := 62) dX9_mayBegin_58 (by decide) ?_
        refine q_ireturn dX9_mayBegin_62 rfl rfl (by omega) (by omega) ?_
        first | exact fin_t (by rw [if_pos (of_decide_eq_true c24).1]; rfl) | exact fin_t (by rw [if_pos (of_decide_eq_true c34).1]; rfl) | exact fin_t (by rw [if_pos (of_decide_eq_true c44).1]; rfl) | exact fin_t (by rw [if_pos (of_decide_eq_true c54).1]; rfl) | exact fin_f (by rw [if_neg (k8_no c24 c34 c44 c54)]; rfl)
      · skip
        refine q_aload_n dX9_mayBegin_27 rfl rfl rfl ?_
        refine q_ldc2 (v := (26479 : Int64)) dX9_mayBegin_28 kX9_249 ?_
        refine q_callV (As := [.long (26479 : Int64)]) (rest := []) dX9_mayBegin_31 vX9_245 (ty_c hS (by decide) rfl) ⟨by decide, rfl⟩ (z9_isWord (j := 4) hS hM (by omega)) rfl rfl (Nat.le_of_ble_eq_true rfl) (by omega) (by omega) (by omega) (k_p ?_)
        refine q_if_neB (tgt := 57) dX9_mayBegin_34 (by decide) (fun c34 => ?_) (fun c34 => ?_)
        · skip
          refine q_iconst (v := nI 1) dX9_mayBegin_57 rfl ?_
          refine q_goto (tgt := 62) dX9_mayBegin_58 (by decide) ?_
          refine q_ireturn dX9_mayBegin_62 rfl rfl (by omega) (by omega) ?_
          first | exact fin_t (by rw [if_pos (of_decide_eq_true c24).1]; rfl) | exact fin_t (by rw [if_pos (of_decide_eq_true c34).1]; rfl) | exact fin_t (by rw [if_pos (of_decide_eq_true c44).1]; rfl) | exact fin_t (by rw [if_pos (of_decide_eq_true c54).1]; rfl) | exact fin_f (by rw [if_neg (k8_no c24 c34 c44 c54)]; rfl)
        · skip
          refine q_aload_n dX9_mayBegin_37 rfl rfl rfl ?_
          refine q_ldc2 (v := (26982 : Int64)) dX9_mayBegin_38 kX9_251 ?_
          refine q_callV (As := [.long (26982 : Int64)]) (rest := []) dX9_mayBegin_41 vX9_245 (ty_c hS (by decide) rfl) ⟨by decide, rfl⟩ (z9_isWord (j := 5) hS hM (by omega)) rfl rfl (Nat.le_of_ble_eq_true rfl) (by omega) (by omega) (by omega) (k_p ?_)
          refine q_if_neB (tgt := 57) dX9_mayBegin_44 (by decide) (fun c44 => ?_) (fun c44 => ?_)
          · skip
            refine q_iconst (v := nI 1) dX9_mayBegin_57 rfl ?_
            refine q_goto (tgt := 62) dX9_mayBegin_58 (by decide) ?_
            refine q_ireturn dX9_mayBegin_62 rfl rfl (by omega) (by omega) ?_
            first | exact fin_t (by rw [if_pos (of_decide_eq_true c24).1]; rfl) | exact fin_t (by rw [if_pos (of_decide_eq_true c34).1]; rfl) | exact fin_t (by rw [if_pos (of_decide_eq_true c44).1]; rfl) | exact fin_t (by rw [if_pos (of_decide_eq_true c54).1]; rfl) | exact fin_f (by rw [if_neg (k8_no c24 c34 c44 c54)]; rfl)
          · skip
            refine q_aload_n dX9_mayBegin_47 rfl rfl rfl ?_
            refine q_ldc2 (v := (465557354085 : Int64)) dX9_mayBegin_48 kX9_253 ?_
            refine q_callV (As := [.long (465557354085 : Int64)]) (rest := []) dX9_mayBegin_51 vX9_245 (ty_c hS (by decide) rfl) ⟨by decide, rfl⟩ (z9_isWord (j := 6) hS hM (by omega)) rfl rfl (Nat.le_of_ble_eq_true rfl) (by omega) (by omega) (by omega) (k_p ?_)
            refine q_if_eqB (tgt := 61) dX9_mayBegin_54 (by decide) (fun c54 => ?_) (fun c54 => ?_)
            · skip
              refine q_iconst (v := nI 0) dX9_mayBegin_61 rfl ?_
              refine q_ireturn dX9_mayBegin_62 rfl rfl (by omega) (by omega) ?_
              first | exact fin_t (by rw [if_pos (of_decide_eq_true c24).1]; rfl) | exact fin_t (by rw [if_pos (of_decide_eq_true c34).1]; rfl) | exact fin_t (by rw [if_pos (of_decide_eq_true c44).1]; rfl) | exact fin_t (by rw [if_pos (of_decide_eq_true c54).1]; rfl) | exact fin_f (by rw [if_neg (k8_no c24 c34 c44 c54)]; rfl)
            · skip
              refine q_iconst (v := nI 1) dX9_mayBegin_57 rfl ?_
              refine q_goto (tgt := 62) dX9_mayBegin_58 (by decide) ?_
              refine q_ireturn dX9_mayBegin_62 rfl rfl (by omega) (by omega) ?_
              first | exact fin_t (by rw [if_pos (of_decide_eq_true c24).1]; rfl) | exact fin_t (by rw [if_pos (of_decide_eq_true c34).1]; rfl) | exact fin_t (by rw [if_pos (of_decide_eq_true c44).1]; rfl) | exact fin_t (by rw [if_pos (of_decide_eq_true c54).1]; rfl) | exact fin_f (by rw [if_neg (k8_no c24 c34 c44 c54)]; rfl)
/-- behind the handler: the ; -/
theorem y9_stm225 (hS : SK σ) (hT : MTX σ L T) {σ0 : HS} {e : Bool} (hQ0 : SgQ σ0 T L n b l ss m kd k σ) {Q : Option Value → HS → Prop} (hQ : ∀ σ', BS σ' T L (((pSt T L kd k).bind fun s => .ok s.2.1).bind (pSg T L 59)) → (∀ s, pSt T L kd k = .ok s → SgR σ' T L n b l ss m s.1) → FR9 (smq n) σ0 σ' → Q (some (.int (bi e))) σ') : WA g mX9_statement 6 0 0 (ZM g Q 0 0) 0 0 225 [(0, .ref 58), (4, .int (bi e))] [] σ := by
  obtain ⟨q1, q2, q3⟩ := hQ0
  refine q_aload_n dX9_statement_225 rfl rfl rfl ?_
  refine q_bipush (v := nI 59) dX9_statement_226 rfl ?_
  refine q_callV (As := [.int (nI 59)]) (rest := []) dX9_statement_228 vX9_279 (ty_c hS (by decide) rfl) ⟨by decide, rfl⟩ (z9_take hS hT q1 (by omega)) rfl rfl (Nat.le_of_ble_eq_true rfl) (by omega) (by omega) (by omega) (k_v (fun s228 q228 => ?_))
  refine q_iload dX9_statement_231 rfl ?_
  refine q_ireturn dX9_statement_233 rfl (bi_nar _) (by omega) (by omega) ?_
  exact hQ _ q228.1 (fun s hs => (q2 s hs).lb q228.2) (q3.tr (q228.2.mono fun _ _ z => smq.nd (ndq.lb z)))
theorem y9_stm102 (hS : SK σ) (hT : MTX σ L T) (b1 : sI σ 58 32 = nI 0) (b2 : MTk σ T L k) (hK : BLK σ n b) (hN : NL σ l) (hs : SMs σ ss) (hm : sI σ 58 38 = bi m) (hl : ss.length ≤ 32) (hw : ∀ y ∈ ss, SMW y) (hn : n < 1200) (hll : l.length < 199) (hk : pKd T L k = some kd) {Q : Option Value → HS → Prop} (hQ : ∀ σ', BS σ' T L (((pSt T L kd k).bind fun s => .ok s.2.1).bind (pSg T L 59)) → (∀ s, pSt T L kd k = .ok s → SgR σ' T L n b l ss m s.1) → FR9 (smq n) σ σ' → Q (some (.int (bi (decide (4 ≤ kd))))) σ') : WA g mX9_statement 6 0 0 (ZM g Q 0 0) 0 0 102 [(0, .ref 58), (1, .int (nI n))] [] σ := by
  have hT' : ∀ i, i < L → T i < 256 := fun i hi => (hT.2.2 i hi).2
  have hr := tkd_r b2.2.2
  rcases pKd_c hk with ⟨rfl, h⟩ | ⟨rfl, h⟩ | ⟨h3, h6, h8, hv⟩
  · rw [if_neg (by omega)] at hr
    have v3 := tv_345.1 h
    refine q_aload_n dX9_statement_102 rfl rfl rfl ?_
    refine q_callV (As := []) (rest := []) dX9_statement_103 vX9_239 (ty_c hS (by decide) rfl) ⟨by decide, rfl⟩ (z9_named_y hS b2 h) rfl rfl (Nat.le_of_ble_eq_true rfl) (by omega) (by omega) (by omega) (k_p ?_)
    refine q_istore_n dX9_statement_106 rfl (by decide) (ls' := [(2, .int (nI (tv T L k))), (0, .ref 58), (1, .int (nI n))]) rfl ?_
    refine q_aload_n dX9_statement_107 rfl rfl rfl ?_
    refine q_bipush (v := nI 114) dX9_statement_108 rfl ?_
    refine q_iconst (v := nI 1) dX9_statement_110 rfl ?_
    refine q_callV (As := [.int (nI 114), .int (nI 1)]) (rest := []) dX9_statement_111 vX9_225 (ty_c hS (by decide) rfl) ⟨by decide, rfl⟩ (hr ▸ z9_numbered hS) rfl rfl (Nat.le_of_ble_eq_true rfl) (by omega) (by omega) (by omega) (k_p ?_)
    refine q_istore_n dX9_statement_114 rfl (by decide) (ls' := [(3, .int (-1)), (2, .int (nI (tv T L k))), (0, .ref 58), (1, .int (nI n))]) rfl ?_
    refine q_iload_n dX9_statement_115 rfl rfl ?_
    refine q_if_geN (tgt := 137) dX9_statement_116 (by decide) (by omega) ?_
    refine q_iconst (v := nI 0) dX9_statement_137 rfl ?_
    refine q_istore dX9_statement_138 (by decide) (ls' := [(4, .int (nI 0)), (3, .int (-1)), (2, .int (nI (tv T L k))), (0, .ref 58), (1, .int (nI n))]) rfl ?_
    refine q_iload_n dX9_statement_140 rfl rfl ?_
    refine q_if_ltN (tgt := 153) dX9_statement_141 (by decide) (by omega) ?_
    refine q_aload_n dX9_statement_144 rfl rfl rfl ?_
    refine q_iload_n dX9_statement_145 rfl rfl ?_
    refine q_iload_n dX9_statement_146 rfl rfl ?_
    refine q_callV (As := [.int (nI n), .int (nI (tv T L k))]) (rest := []) dX9_statement_147 vX9_259 (ty_c hS (by decide) rfl) ⟨by decide, rfl⟩ (z9_assigned hS hT ⟨b1, b2⟩ hK hN hs hm hl hw hn rfl) rfl rfl (Nat.le_of_ble_eq_true rfl) (by omega) (by omega) (by omega) (k_v (fun s147 q147 => ?_))
    have zS147 : SK s147 := (SK.fq q147.2.2 hS)
    refine q_goto (tgt := 225) dX9_statement_150 (by decide) ?_
    refine q_pk [3, 0] (ls' := [(0, .ref 58), (4, .int (nI 0))]) rfl ?_
    exact y9_stm225 (e := false) (SK.fq q147.2.2 hS) (hT.sm q147.2.2) (as_sg q147) hQ
  · rw [if_pos h] at hr
    have v4 := tv_345.2.1 h
    refine q_aload_n dX9_statement_102 rfl rfl rfl ?_
    refine q_callV (As := []) (rest := []) dX9_statement_103 vX9_239 (ty_c hS (by decide) rfl) ⟨by decide, rfl⟩ (z9_named_n hS b2 (by omega)) rfl rfl (Nat.le_of_ble_eq_true rfl) (by omega) (by omega) (by omega) (k_p ?_)
    refine q_istore_n dX9_statement_106 rfl (by decide) (ls' := [(2, .int (-1)), (0, .ref 58), (1, .int (nI n))]) rfl ?_
    refine q_aload_n dX9_statement_107 rfl rfl rfl ?_
    refine q_bipush (v := nI 114) dX9_statement_108 rfl ?_
    refine q_iconst (v := nI 1) dX9_statement_110 rfl ?_
    refine q_callV (As := [.int (nI 114), .int (nI 1)]) (rest := []) dX9_statement_111 vX9_225 (ty_c hS (by decide) rfl) ⟨by decide, rfl⟩ (hr ▸ z9_numbered hS) rfl rfl (Nat.le_of_ble_eq_true rfl) (by omega) (by omega) (by omega) (k_p ?_)
    refine q_istore_n dX9_statement_114 rfl (by decide) (ls' := [(3, .int (nI (tv T L k))), (2, .int (-1)), (0, .ref 58), (1, .int (nI n))]) rfl ?_
    refine q_iload_n dX9_statement_115 rfl rfl ?_
    refine q_if_ge1 (tgt := 137) dX9_statement_116 (by decide) (by decide) ?_
    refine q_iload_n dX9_statement_119 rfl rfl ?_
    refine q_if_geN (tgt := 137) dX9_statement_120 (by decide) (by omega) ?_
    refine q_iconst (v := nI 0) dX9_statement_137 rfl ?_
    refine q_istore dX9_statement_138 (by decide) (ls' := [(4, .int (nI 0)), (3, .int (nI (tv T L k))), (2, .int (-1)), (0, .ref 58), (1, .int (nI n))]) rfl ?_
    refine q_iload_n dX9_statement_140 rfl rfl ?_
    refine q_if_lt1 (tgt := 153) dX9_statement_141 (by decide) (by decide) ?_
    refine q_iload_n dX9_statement_153 rfl rfl ?_
    refine q_if_ltN (tgt := 166) dX9_statement_154 (by decide) (by omega) ?_
    refine q_aload_n dX9_statement_157 rfl rfl rfl ?_
    refine q_iload_n dX9_statement_158 rfl rfl ?_
    refine q_iload_n dX9_statement_159 rfl rfl ?_
    refine q_callV (As := [.int (nI n), .int (nI (tv T L k))]) (rest := []) dX9_statement_160 vX9_263 (ty_c hS (by decide) rfl) ⟨by decide, rfl⟩ (z9_put hS hT ⟨b1, b2⟩ hK hN hn rfl) rfl rfl (Nat.le_of_ble_eq_true rfl) (by omega) (by omega) (by omega) (k_v (fun s160 q160 => ?_))
    have zS160 : SK s160 := (SK.fq q160.2.2 hS)
    refine q_goto (tgt := 225) dX9_statement_163 (by decide) ?_
    refine q_pk [3, 0] (ls' := [(0, .ref 58), (4, .int (nI 0))]) rfl ?_
    exact y9_stm225 (e := false) (SK.fq q160.2.2 hS) (hT.nd q160.2.2) (hd_sg hT' hk (by omega) hs hm q160) hQ
  · rw [if_neg (by omega)] at hr
    have w3 : decide (tk T L k = 8 ∧ tv T L k = 3) = decide (kd = 3) := by rw [hv]; simp [h8]
    have w4 : decide (tk T L k = 8 ∧ tv T L k = 4) = decide (kd = 4) := by rw [hv]; simp [h8]
    have w5 : decide (tk T L k = 8 ∧ tv T L k = 5) = decide (kd = 5) := by rw [hv]; simp [h8]
    rcases (show kd = 3 ∨ kd = 4 ∨ kd = 5 ∨ kd = 6 by omega) with rfl | rfl | rfl | rfl
    · skip
      refine q_aload_n dX9_statement_102 rfl rfl rfl ?_
      refine q_callV (As := []) (rest := []) dX9_statement_103 vX9_239 (ty_c hS (by decide) rfl) ⟨by decide, rfl⟩ (z9_named_n hS b2 (by omega)) rfl rfl (Nat.le_of_ble_eq_true rfl) (by omega) (by omega) (by omega) (k_p ?_)
      refine q_istore_n dX9_statement_106 rfl (by decide) (ls' := [(2, .int (-1)), (0, .ref 58), (1, .int (nI n))]) rfl ?_
      refine q_aload_n dX9_statement_107 rfl rfl rfl ?_
      refine q_bipush (v := nI 114) dX9_statement_108 rfl ?_
      refine q_iconst (v := nI 1) dX9_statement_110 rfl ?_
      refine q_callV (As := [.int (nI 114), .int (nI 1)]) (rest := []) dX9_statement_111 vX9_225 (ty_c hS (by decide) rfl) ⟨by decide, rfl⟩ (hr ▸ z9_numbered hS) rfl rfl (Nat.le_of_ble_eq_true rfl) (by omega) (by omega) (by omega) (k_p ?_)
      refine q_istore_n dX9_statement_114 rfl (by decide) (ls' := [(3, .int (-1)), (2, .int (-1)), (0, .ref 58), (1, .int (nI n))]) rfl ?_
      refine q_iload_n dX9_statement_115 rfl rfl ?_
      refine q_if_ge1 (tgt := 137) dX9_statement_116 (by decide) (by decide) ?_
      refine q_iload_n dX9_statement_119 rfl rfl ?_
      refine q_if_ge1 (tgt := 137) dX9_statement_120 (by decide) (by decide) ?_
      refine q_aload_n dX9_statement_123 rfl rfl rfl ?_
      refine q_ldc2 (v := (1952803948 : Int64)) dX9_statement_124 kX9_243 ?_
      refine q_callV (As := [.long (1952803948 : Int64)]) (rest := []) dX9_statement_127 vX9_245 (ty_c hS (by decide) rfl) ⟨by decide, rfl⟩ (w3 ▸ z9_isWord (j := 3) hS b2 (by omega)) rfl rfl (Nat.le_of_ble_eq_true rfl) (by omega) (by omega) (by omega) (k_p ?_)
      refine q_if_neB (tgt := 137) dX9_statement_130 (by decide) (fun _ => ?_) (fun h => absurd h (by decide))
      refine q_iconst (v := nI 0) dX9_statement_137 rfl ?_
      refine q_istore dX9_statement_138 (by decide) (ls' := [(4, .int (nI 0)), (3, .int (-1)), (2, .int (-1)), (0, .ref 58), (1, .int (nI n))]) rfl ?_
      refine q_iload_n dX9_statement_140 rfl rfl ?_
      refine q_if_lt1 (tgt := 153) dX9_statement_141 (by decide) (by decide) ?_
      refine q_iload_n dX9_statement_153 rfl rfl ?_
      refine q_if_lt1 (tgt := 166) dX9_statement_154 (by decide) (by decide) ?_
      refine q_aload_n dX9_statement_166 rfl rfl rfl ?_
      refine q_ldc2 (v := (1952803948 : Int64)) dX9_statement_167 kX9_243 ?_
      refine q_callV (As := [.long (1952803948 : Int64)]) (rest := []) dX9_statement_170 vX9_245 (ty_c hS (by decide) rfl) ⟨by decide, rfl⟩ (w3 ▸ z9_isWord (j := 3) hS b2 (by omega)) rfl rfl (Nat.le_of_ble_eq_true rfl) (by omega) (by omega) (by omega) (k_p ?_)
      refine q_if_eqB (tgt := 184) dX9_statement_173 (by decide) (fun h => absurd h (by decide)) (fun _ => ?_)
      refine q_aload_n dX9_statement_176 rfl rfl rfl ?_
      refine q_iload_n dX9_statement_177 rfl rfl ?_
      refine q_callV (As := [.int (nI n)]) (rest := []) dX9_statement_178 vX9_266 (ty_c hS (by decide) rfl) ⟨by decide, rfl⟩ (z9_tell hS hT ⟨b1, b2⟩ hK hN hn) rfl rfl (Nat.le_of_ble_eq_true rfl) (by omega) (by omega) (by omega) (k_v (fun s178 q178 => ?_))
      have zS178 : SK s178 := (SK.fq q178.2.2 hS)
      refine q_goto (tgt := 225) dX9_statement_181 (by decide) ?_
      refine q_pk [3, 0] (ls' := [(0, .ref 58), (4, .int (nI 0))]) rfl ?_
      exact y9_stm225 (e := false) (SK.fq q178.2.2 hS) (hT.nd q178.2.2) (hd_sg hT' hk (by omega) hs hm q178) hQ
    · skip
      refine q_aload_n dX9_statement_102 rfl rfl rfl ?_
      refine q_callV (As := []) (rest := []) dX9_statement_103 vX9_239 (ty_c hS (by decide) rfl) ⟨by decide, rfl⟩ (z9_named_n hS b2 (by omega)) rfl rfl (Nat.le_of_ble_eq_true rfl) (by omega) (by omega) (by omega) (k_p ?_)
      refine q_istore_n dX9_statement_106 rfl (by decide) (ls' := [(2, .int (-1)), (0, .ref 58), (1, .int (nI n))]) rfl ?_
      refine q_aload_n dX9_statement_107 rfl rfl rfl ?_
      refine q_bipush (v := nI 114) dX9_statement_108 rfl ?_
      refine q_iconst (v := nI 1) dX9_statement_110 rfl ?_
      refine q_callV (As := [.int (nI 114), .int (nI 1)]) (rest := []) dX9_statement_111 vX9_225 (ty_c hS (by decide) rfl) ⟨by decide, rfl⟩ (hr ▸ z9_numbered hS) rfl rfl (Nat.le_of_ble_eq_true rfl) (by omega) (by omega) (by omega) (k_p ?_)
      refine q_istore_n dX9_statement_114 rfl (by decide) (ls' := [(3, .int (-1)), (2, .int (-1)), (0, .ref 58), (1, .int (nI n))]) rfl ?_
      refine q_iload_n dX9_statement_115 rfl rfl ?_
      refine q_if_ge1 (tgt := 137) dX9_statement_116 (by decide) (by decide) ?_
      refine q_iload_n dX9_statement_119 rfl rfl ?_
      refine q_if_ge1 (tgt := 137) dX9_statement_120 (by decide) (by decide) ?_
      refine q_aload_n dX9_statement_123 rfl rfl rfl ?_
      refine q_ldc2 (v := (1952803948 : Int64)) dX9_statement_124 kX9_243 ?_
      refine q_callV (As := [.long (1952803948 : Int64)]) (rest := []) dX9_statement_127 vX9_245 (ty_c hS (by decide) rfl) ⟨by decide, rfl⟩ (w3 ▸ z9_isWord (j := 3) hS b2 (by omega)) rfl rfl (Nat.le_of_ble_eq_true rfl) (by omega) (by omega) (by omega) (k_p ?_)
      refine q_if_neB (tgt := 137) dX9_statement_130 (by decide) (fun h => absurd h (by decide)) (fun _ => ?_)
      refine q_iconst (v := nI 1) dX9_statement_133 rfl ?_
      refine q_goto (tgt := 138) dX9_statement_134 (by decide) ?_
      refine q_istore dX9_statement_138 (by decide) (ls' := [(4, .int (nI 1)), (3, .int (-1)), (2, .int (-1)), (0, .ref 58), (1, .int (nI n))]) rfl ?_
      refine q_iload_n dX9_statement_140 rfl rfl ?_
      refine q_if_lt1 (tgt := 153) dX9_statement_141 (by decide) (by decide) ?_
      refine q_iload_n dX9_statement_153 rfl rfl ?_
      refine q_if_lt1 (tgt := 166) dX9_statement_154 (by decide) (by decide) ?_
      refine q_aload_n dX9_statement_166 rfl rfl rfl ?_
      refine q_ldc2 (v := (1952803948 : Int64)) dX9_statement_167 kX9_243 ?_
      refine q_callV (As := [.long (1952803948 : Int64)]) (rest := []) dX9_statement_170 vX9_245 (ty_c hS (by decide) rfl) ⟨by decide, rfl⟩ (w3 ▸ z9_isWord (j := 3) hS b2 (by omega)) rfl rfl (Nat.le_of_ble_eq_true rfl) (by omega) (by omega) (by omega) (k_p ?_)
      refine q_if_eqB (tgt := 184) dX9_statement_173 (by decide) (fun _ => ?_) (fun h => absurd h (by decide))
      refine q_aload_n dX9_statement_184 rfl rfl rfl ?_
      refine q_ldc2 (v := (26479 : Int64)) dX9_statement_185 kX9_249 ?_
      refine q_callV (As := [.long (26479 : Int64)]) (rest := []) dX9_statement_188 vX9_245 (ty_c hS (by decide) rfl) ⟨by decide, rfl⟩ (w4 ▸ z9_isWord (j := 4) hS b2 (by omega)) rfl rfl (Nat.le_of_ble_eq_true rfl) (by omega) (by omega) (by omega) (k_p ?_)
      refine q_if_eqB (tgt := 202) dX9_statement_191 (by decide) (fun h => absurd h (by decide)) (fun _ => ?_)
      refine q_aload_n dX9_statement_194 rfl rfl rfl ?_
      refine q_iload_n dX9_statement_195 rfl rfl ?_
      refine q_callV (As := [.int (nI n)]) (rest := []) dX9_statement_196 vX9_270 (ty_c hS (by decide) rfl) ⟨by decide, rfl⟩ (z9_go hS hT ⟨b1, b2⟩ hK hN (by omega) hn) rfl rfl (Nat.le_of_ble_eq_true rfl) (by omega) (by omega) (by omega) (k_v (fun s196 q196 => ?_))
      have zS196 : SK s196 := (SK.fq q196.2.2 hS)
      refine q_goto (tgt := 225) dX9_statement_199 (by decide) ?_
      refine q_pk [3, 0] (ls' := [(0, .ref 58), (4, .int (nI 1))]) rfl ?_
      exact y9_stm225 (e := true) (SK.fq q196.2.2 hS) (hT.nd q196.2.2) (hd_sg hT' hk (by omega) hs hm q196) hQ
    · skip
      refine q_aload_n dX9_statement_102 rfl rfl rfl ?_
      refine q_callV (As := []) (rest := []) dX9_statement_103 vX9_239 (ty_c hS (by decide) rfl) ⟨by decide, rfl⟩ (z9_named_n hS b2 (by omega)) rfl rfl (Nat.le_of_ble_eq_true rfl) (by omega) (by omega) (by omega) (k_p ?_)
      refine q_istore_n dX9_statement_106 rfl (by decide) (ls' := [(2, .int (-1)), (0, .ref 58), (1, .int (nI n))]) rfl ?_
      refine q_aload_n dX9_statement_107 rfl rfl rfl ?_
      refine q_bipush (v := nI 114) dX9_statement_108 rfl ?_
      refine q_iconst (v := nI 1) dX9_statement_110 rfl ?_
      refine q_callV (As := [.int (nI 114), .int (nI 1)]) (rest := []) dX9_statement_111 vX9_225 (ty_c hS (by decide) rfl) ⟨by decide, rfl⟩ (hr ▸ z9_numbered hS) rfl rfl (Nat.le_of_ble_eq_true rfl) (by omega) (by omega) (by omega) (k_p ?_)
      refine q_istore_n dX9_statement_114 rfl (by decide) (ls' := [(3, .int (-1)), (2, .int (-1)), (0, .ref 58), (1, .int (nI n))]) rfl ?_
      refine q_iload_n dX9_statement_115 rfl rfl ?_
      refine q_if_ge1 (tgt := 137) dX9_statement_116 (by decide) (by decide) ?_
      refine q_iload_n dX9_statement_119 rfl rfl ?_
      refine q_if_ge1 (tgt := 137) dX9_statement_120 (by decide) (by decide) ?_
      refine q_aload_n dX9_statement_123 rfl rfl rfl ?_
      refine q_ldc2 (v := (1952803948 : Int64)) dX9_statement_124 kX9_243 ?_
      refine q_callV (As := [.long (1952803948 : Int64)]) (rest := []) dX9_statement_127 vX9_245 (ty_c hS (by decide) rfl) ⟨by decide, rfl⟩ (w3 ▸ z9_isWord (j := 3) hS b2 (by omega)) rfl rfl (Nat.le_of_ble_eq_true rfl) (by omega) (by omega) (by omega) (k_p ?_)
      refine q_if_neB (tgt := 137) dX9_statement_130 (by decide) (fun h => absurd h (by decide)) (fun _ => ?_)
      refine q_iconst (v := nI 1) dX9_statement_133 rfl ?_
      refine q_goto (tgt := 138) dX9_statement_134 (by decide) ?_
      refine q_istore dX9_statement_138 (by decide) (ls' := [(4, .int (nI 1)), (3, .int (-1)), (2, .int (-1)), (0, .ref 58), (1, .int (nI n))]) rfl ?_
      refine q_iload_n dX9_statement_140 rfl rfl ?_
      refine q_if_lt1 (tgt := 153) dX9_statement_141 (by decide) (by decide) ?_
      refine q_iload_n dX9_statement_153 rfl rfl ?_
      refine q_if_lt1 (tgt := 166) dX9_statement_154 (by decide) (by decide) ?_
      refine q_aload_n dX9_statement_166 rfl rfl rfl ?_
      refine q_ldc2 (v := (1952803948 : Int64)) dX9_statement_167 kX9_243 ?_
      refine q_callV (As := [.long (1952803948 : Int64)]) (rest := []) dX9_statement_170 vX9_245 (ty_c hS (by decide) rfl) ⟨by decide, rfl⟩ (w3 ▸ z9_isWord (j := 3) hS b2 (by omega)) rfl rfl (Nat.le_of_ble_eq_true rfl) (by omega) (by omega) (by omega) (k_p ?_)
      refine q_if_eqB (tgt := 184) dX9_statement_173 (by decide) (fun _ => ?_) (fun h => absurd h (by decide))
      refine q_aload_n dX9_statement_184 rfl rfl rfl ?_
      refine q_ldc2 (v := (26479 : Int64)) dX9_statement_185 kX9_249 ?_
      refine q_callV (As := [.long (26479 : Int64)]) (rest := []) dX9_statement_188 vX9_245 (ty_c hS (by decide) rfl) ⟨by decide, rfl⟩ (w4 ▸ z9_isWord (j := 4) hS b2 (by omega)) rfl rfl (Nat.le_of_ble_eq_true rfl) (by omega) (by omega) (by omega) (k_p ?_)
      refine q_if_eqB (tgt := 202) dX9_statement_191 (by decide) (fun _ => ?_) (fun h => absurd h (by decide))
      refine q_aload_n dX9_statement_202 rfl rfl rfl ?_
      refine q_ldc2 (v := (26982 : Int64)) dX9_statement_203 kX9_251 ?_
      refine q_callV (As := [.long (26982 : Int64)]) (rest := []) dX9_statement_206 vX9_245 (ty_c hS (by decide) rfl) ⟨by decide, rfl⟩ (w5 ▸ z9_isWord (j := 5) hS b2 (by omega)) rfl rfl (Nat.le_of_ble_eq_true rfl) (by omega) (by omega) (by omega) (k_p ?_)
      refine q_if_eqB (tgt := 220) dX9_statement_209 (by decide) (fun h => absurd h (by decide)) (fun _ => ?_)
      refine q_aload_n dX9_statement_212 rfl rfl rfl ?_
      refine q_iload_n dX9_statement_213 rfl rfl ?_
      refine q_callV (As := [.int (nI n)]) (rest := []) dX9_statement_214 vX9_273 (ty_c hS (by decide) rfl) ⟨by decide, rfl⟩ (z9_test hS hT ⟨b1, b2⟩ hK hN hll hn) rfl rfl (Nat.le_of_ble_eq_true rfl) (by omega) (by omega) (by omega) (k_v (fun s214 q214 => ?_))
      have zS214 : SK s214 := (SK.fq q214.2.2 hS)
      refine q_goto (tgt := 225) dX9_statement_217 (by decide) ?_
      refine q_pk [3, 0] (ls' := [(0, .ref 58), (4, .int (nI 1))]) rfl ?_
      exact y9_stm225 (e := true) (SK.fq q214.2.2 hS) (hT.nd q214.2.2) (hd_sg hT' hk (by omega) hs hm q214) hQ
    · skip
      refine q_aload_n dX9_statement_102 rfl rfl rfl ?_
      refine q_callV (As := []) (rest := []) dX9_statement_103 vX9_239 (ty_c hS (by decide) rfl) ⟨by decide, rfl⟩ (z9_named_n hS b2 (by omega)) rfl rfl (Nat.le_of_ble_eq_true rfl) (by omega) (by omega) (by omega) (k_p ?_)
      refine q_istore_n dX9_statement_106 rfl (by decide) (ls' := [(2, .int (-1)), (0, .ref 58), (1, .int (nI n))]) rfl ?_
      refine q_aload_n dX9_statement_107 rfl rfl rfl ?_
      refine q_bipush (v := nI 114) dX9_statement_108 rfl ?_
      refine q_iconst (v := nI 1) dX9_statement_110 rfl ?_
      refine q_callV (As := [.int (nI 114), .int (nI 1)]) (rest := []) dX9_statement_111 vX9_225 (ty_c hS (by decide) rfl) ⟨by decide, rfl⟩ (hr ▸ z9_numbered hS) rfl rfl (Nat.le_of_ble_eq_true rfl) (by omega) (by omega) (by omega) (k_p ?_)
      refine q_istore_n dX9_statement_114 rfl (by decide) (ls' := [(3, .int (-1)), (2, .int (-1)), (0, .ref 58), (1, .int (nI n))]) rfl ?_
      refine q_iload_n dX9_statement_115 rfl rfl ?_
      refine q_if_ge1 (tgt := 137) dX9_statement_116 (by decide) (by decide) ?_
      refine q_iload_n dX9_statement_119 rfl rfl ?_
      refine q_if_ge1 (tgt := 137) dX9_statement_120 (by decide) (by decide) ?_
      refine q_aload_n dX9_statement_123 rfl rfl rfl ?_
      refine q_ldc2 (v := (1952803948 : Int64)) dX9_statement_124 kX9_243 ?_
      refine q_callV (As := [.long (1952803948 : Int64)]) (rest := []) dX9_statement_127 vX9_245 (ty_c hS (by decide) rfl) ⟨by decide, rfl⟩ (w3 ▸ z9_isWord (j := 3) hS b2 (by omega)) rfl rfl (Nat.le_of_ble_eq_true rfl) (by omega) (by omega) (by omega) (k_p ?_)
      refine q_if_neB (tgt := 137) dX9_statement_130 (by decide) (fun h => absurd h (by decide)) (fun _ => ?_)
      refine q_iconst (v := nI 1) dX9_statement_133 rfl ?_
      refine q_goto (tgt := 138) dX9_statement_134 (by decide) ?_
      refine q_istore dX9_statement_138 (by decide) (ls' := [(4, .int (nI 1)), (3, .int (-1)), (2, .int (-1)), (0, .ref 58), (1, .int (nI n))]) rfl ?_
      refine q_iload_n dX9_statement_140 rfl rfl ?_
      refine q_if_lt1 (tgt := 153) dX9_statement_141 (by decide) (by decide) ?_
      refine q_iload_n dX9_statement_153 rfl rfl ?_
      refine q_if_lt1 (tgt := 166) dX9_statement_154 (by decide) (by decide) ?_
      refine q_aload_n dX9_statement_166 rfl rfl rfl ?_
      refine q_ldc2 (v := (1952803948 : Int64)) dX9_statement_167 kX9_243 ?_
      refine q_callV (As := [.long (1952803948 : Int64)]) (rest := []) dX9_statement_170 vX9_245 (ty_c hS (by decide) rfl) ⟨by decide, rfl⟩ (w3 ▸ z9_isWord (j := 3) hS b2 (by omega)) rfl rfl (Nat.le_of_ble_eq_true rfl) (by omega) (by omega) (by omega) (k_p ?_)
      refine q_if_eqB (tgt := 184) dX9_statement_173 (by decide) (fun _ => ?_) (fun h => absurd h (by decide))
      refine q_aload_n dX9_statement_184 rfl rfl rfl ?_
      refine q_ldc2 (v := (26479 : Int64)) dX9_statement_185 kX9_249 ?_
      refine q_callV (As := [.long (26479 : Int64)]) (rest := []) dX9_statement_188 vX9_245 (ty_c hS (by decide) rfl) ⟨by decide, rfl⟩ (w4 ▸ z9_isWord (j := 4) hS b2 (by omega)) rfl rfl (Nat.le_of_ble_eq_true rfl) (by omega) (by omega) (by omega) (k_p ?_)
      refine q_if_eqB (tgt := 202) dX9_statement_191 (by decide) (fun _ => ?_) (fun h => absurd h (by decide))
      refine q_aload_n dX9_statement_202 rfl rfl rfl ?_
      refine q_ldc2 (v := (26982 : Int64)) dX9_statement_203 kX9_251 ?_
      refine q_callV (As := [.long (26982 : Int64)]) (rest := []) dX9_statement_206 vX9_245 (ty_c hS (by decide) rfl) ⟨by decide, rfl⟩ (w5 ▸ z9_isWord (j := 5) hS b2 (by omega)) rfl rfl (Nat.le_of_ble_eq_true rfl) (by omega) (by omega) (by omega) (k_p ?_)
      refine q_if_eqB (tgt := 220) dX9_statement_209 (by decide) (fun _ => ?_) (fun h => absurd h (by decide))
      refine q_aload_n dX9_statement_220 rfl rfl rfl ?_
      refine q_iload_n dX9_statement_221 rfl rfl ?_
      refine q_callV (As := [.int (nI n)]) (rest := []) dX9_statement_222 vX9_276 (ty_c hS (by decide) rfl) ⟨by decide, rfl⟩ (z9_leave hS hT ⟨b1, b2⟩ hK hN hn) rfl rfl (Nat.le_of_ble_eq_true rfl) (by omega) (by omega) (by omega) (k_v (fun s222 q222 => ?_))
      have zS222 : SK s222 := (SK.fq q222.2.2 hS)
      refine q_pk [3, 0] (ls' := [(0, .ref 58), (4, .int (nI 1))]) rfl ?_
      exact y9_stm225 (e := true) (SK.fq q222.2.2 hS) (hT.nd q222.2.2) (hd_sg hT' hk (by omega) hs hm q222) hQ
def StQ (σ : HS) (T : Nat → Nat) (L b k : Nat) (q : PS) : Bool → HS → Prop := fun e σ' => FR9 nwr σ σ' ∧ ((∃ z, StY T L b k q = .error z ∧ BS σ' T L (.error z)) ∨ ∃ kd k2 q', StY T L b k q = .ok (kd, k2, q') ∧ e = decide (4 ≤ kd) ∧ BS σ' T L (.ok k2) ∧ MPS σ' q')
def blS (σ : HS) (n b len : Nat) : HS := uI (uI (uI (uI (uI (uI σ 62 4 (nI (len + 1))) 68 n (nI b)) 69 n (-1)) 70 n (-1)) 71 n (-1)) 72 n (-1)
def bsq (n h i : Nat) : Prop := (h = 62 ∧ i = 4) ∨ (68 ≤ h ∧ h ≤ 72 ∧ i = n)
theorem blS_f {len : Nat} : FR9 (bsq n) σ (blS σ n b len) := (((((FR9.rf.uI (by unfold bsq; omega)).uI (by unfold bsq; omega)).uI (by unfold bsq; omega)).uI (by unfold bsq; omega)).uI (by unfold bsq; omega)).uI (by unfold bsq; omega)
theorem blS_k {len : Nat} : BLK (blS σ n b len) n b := by
  unfold blS
  refine ⟨?_, ?_, ?_, ?_, ?_⟩
  · rw [rd_off (by omega), rd_off (by omega), rd_off (by omega), rd_off (by omega)]; exact uI_self
  · rw [rd_off (by omega), rd_off (by omega), rd_off (by omega)]; exact uI_self
  · rw [rd_off (by omega), rd_off (by omega)]; exact uI_self
  · rw [rd_off (by omega)]; exact uI_self
  · exact uI_self
theorem blS_62 {len : Nat} : sI (blS σ n b len) 62 4 = nI (len + 1) := by
  unfold blS
  rw [rd_off (by omega), rd_off (by omega), rd_off (by omega), rd_off (by omega), rd_off (by omega)]; exact uI_self
theorem MTk.bs {σ' : HS} (f : FR9 (bsq n) σ σ') (hL : sL σ' = sL σ) (h : MTk σ T L k) : MTk σ' T L k := by
  have e : ∀ i, sI σ' 58 i = sI σ 58 i := fun i => f.2.2.2 58 i (by unfold bsq; omega)
  unfold MTk at h ⊢
  rw [e, e, e, e, e, hL]; exact h
theorem mpsA {σ' : HS} (hT : ∀ i, i < L → T i < 256) (hM : MPS σ q) {s : ST0} {t : Bool} (f : FR9 (smq (960 + (psS q).length)) (blS σ (960 + (psS q).length) b (psS q).length) σ') (h : SgR σ' T L (960 + (psS q).length) b (nmA q) (psM q) (psX q) s) : MPS σ' (psAdd T L q b s t) := by
  obtain ⟨m1, m2, m3, m4, m5, m6, m7⟩ := hM
  have fb := blS_f (σ := σ) (n := 960 + (psS q).length) (b := b) (len := (psS q).length)
  have old : ∀ a i, (a < 58 ∨ (58 < a ∧ a < 62) ∨ a = 63 ∨ a = 65 ∨ a = 66 ∨ (67 ≤ a ∧ a ≤ 77 ∧ i < 960 + (psS q).length)) → sI σ' a i = sI σ a i := fun a i ha => (f.2.2.2 a i (by unfold smq ndq blq lxb; omega)).trans (fb.2.2.2 a i (by unfold bsq; omega))
  have n62 : sI σ' 62 4 = nI ((psS q).length + 1) := (f.2.2.2 62 4 (by unfold smq ndq blq lxb; omega)).trans blS_62
  have key : ∀ (r : REC) (ss : List SUM) (mm : Bool), ND σ' (960 + (psS q).length) r → (mm = false → psX q = false ∧ sI σ' 70 (960 + (psS q).length) = rS r) → SMs σ' ss → sI σ' 58 38 = bi mm → NL σ' (nmA q ++ nmR r) → MPS σ' (psS q ++ [r], ss, mm, psT q || t, psF q, psH q) := fun r ss mm k1 k2 k3 k4 k5 => by
    refine ⟨(old 61 4 (by omega)).trans m1, n62.trans ?_, fun i hi => ?_, fun j hj => ?_, k3, k4, ?_⟩
    · show _ = nI (psS q ++ [r]).length
      rw [List.length_append]; rfl
    · have hi : i < (psS q ++ [r]).length := hi
      have hi : i < (psS q).length + 1 := by simpa using hi
      show ND σ' (960 + i) ((psS q ++ [r]).getD i r0) ∧ (mm = false → sI σ' 70 (960 + i) = rS ((psS q ++ [r]).getD i r0))
      rw [gd_snoc]
      by_cases e : i = (psS q).length
      · rw [if_pos e, e]; exact ⟨k1, fun z => (k2 z).2⟩
      · rw [if_neg e]
        have := m3 i (by omega)
        exact ⟨this.1.cp fun a a1 a2 => old a _ (by omega), fun z => (old 70 _ (by omega)).trans (this.2 (k2 z).1)⟩
    · have := m4 j hj
      exact ⟨(old 65 _ (by omega)).trans this.1, (old 66 _ (by omega)).trans this.2⟩
    · show NL σ' ((psS q ++ [r]).flatMap nmR)
      rw [List.flatMap_append, List.flatMap_singleton]; exact k5
  obtain ⟨o0, o1, o2, o3, sm, o5, o6⟩ := s
  obtain ⟨h1, h2, h3⟩ := h
  cases sm with
  | none =>
    obtain ⟨h3, h4, h5⟩ := h3
    exact key (rcN T L b (o0, o1, o2, o3, none, o5, o6) (-1)) _ _ h1 (fun z => ⟨z, h3⟩) h4 h5 (by rw [nm_rc hT]; exact h2)
  | some x =>
    obtain ⟨h3, h4, h5⟩ := h3
    exact key (rcN T L b (o0, o1, o2, o3, some x, o5, o6) (nSum (psM q) x).1) _ _ h1 (fun z => by
      rw [Bool.or_eq_false_iff] at z
      exact ⟨z.1, h3 z.2⟩) h4 h5 (by rw [nm_rc hT]; exact h2)
theorem z9_statement (hS : SK σ) (hT : MTX σ L T) (hB : BS σ T L (.ok k)) (hM : MPS σ q) (hw : WFs q) (h160 : (psS q).length ≤ 160) (hF : (psF q).length = b + 1) (hb : b < 40) (hll : (nmA q).length < 199) : CT g mX9_statement 6 0 0 [.ref 58] σ (fun r σ' => ∃ e, r = some (.int (bi e)) ∧ StQ σ T L b k q e σ') := by
  obtain ⟨b1, b2⟩ := hB
  have hT' : ∀ i, i < L → T i < 256 := fun i hi => (hT.2.2 i hi).2
  have m1 := hM.1
  have m2 := hM.2.1
  rw [hF] at m1
  cases hk : pKd T L k with
  | none =>
    have hd : (pKd T L k).isSome = false := by rw [hk]; rfl
    have e : StY T L b k q = .error (er T L k 2) := by unfold StY; rw [hk]
    refine CT.of (by decide) (Nat.le_of_ble_eq_true rfl) ?_
    refine q_aload_n dX9_statement_0 rfl rfl rfl ?_
    refine q_aload_n dX9_statement_1 rfl rfl rfl ?_
    refine q_callV (As := []) (rest := [.ref 58]) dX9_statement_2 vX9_255 (ty_c hS (by decide) rfl) ⟨by decide, rfl⟩ (hd ▸ z9_mayBegin hS b2) rfl rfl (Nat.le_of_ble_eq_true rfl) (by omega) (by omega) (by omega) (k_p ?_)
    refine q_iconst (v := nI 2) dX9_statement_5 rfl ?_
    refine q_callV (As := [.int (bi false), .int (nI 2)]) (rest := []) dX9_statement_6 vX9_232 (ty_c hS (by decide) rfl) ⟨by decide, rfl⟩ (z9_must_n hS b1 b2 (by omega)) rfl rfl (Nat.le_of_ble_eq_true rfl) (by omega) (by omega) (by omega) (k_p ?_)
    refine q_if_eqB (tgt := 37) dX9_statement_9 (by decide) (fun _ => ?_) (fun h => absurd h (by decide))
    refine q_iconst (v := nI 1) dX9_statement_37 rfl ?_
    refine q_ireturn dX9_statement_38 rfl rfl (by omega) (by omega) ?_
    exact ⟨true, rfl, erM_lb.mono (fun h i z => by unfold lxb at z; unfold nwr; omega), Or.inl ⟨_, e, erM_bs (er_b (by omega))⟩⟩
  | some kd =>
    have hd : (pKd T L k).isSome = true := by rw [hk]; rfl
    by_cases hq : 160 ≤ (psS q).length
    · have e : StY T L b k q = .error (er T L k 3) := by unfold StY; rw [hk]; exact if_pos hq
      refine CT.of (by decide) (Nat.le_of_ble_eq_true rfl) ?_
      refine q_aload_n dX9_statement_0 rfl rfl rfl ?_
      refine q_aload_n dX9_statement_1 rfl rfl rfl ?_
      refine q_callV (As := []) (rest := [.ref 58]) dX9_statement_2 vX9_255 (ty_c hS (by decide) rfl) ⟨by decide, rfl⟩ (hd ▸ z9_mayBegin hS b2) rfl rfl (Nat.le_of_ble_eq_true rfl) (by omega) (by omega) (by omega) (k_p ?_)
      refine q_iconst (v := nI 2) dX9_statement_5 rfl ?_
      refine q_callV (As := [.int (bi true), .int (nI 2)]) (rest := []) dX9_statement_6 vX9_232 (ty_c hS (by decide) rfl) ⟨by decide, rfl⟩ (z9_must_y hS b1) rfl rfl (Nat.le_of_ble_eq_true rfl) (by omega) (by omega) (by omega) (k_p ?_)
      refine q_if_eqB (tgt := 37) dX9_statement_9 (by decide) (fun h => absurd h (by decide)) (fun _ => ?_)
      refine q_aload_n dX9_statement_12 rfl rfl rfl ?_
      refine q_aload_n dX9_statement_13 rfl rfl rfl ?_
      refine q_getr (r := 62) dX9_statement_14 fX9_43 rfl (ty_c hS (by decide) rfl) (hS.2 58 10 62 rfl) ?_
      refine q_iconst (v := nI 4) dX9_statement_17 rfl ?_
      refine q_iald (x := nI ((psS q).length)) (j := 4) dX9_statement_18 (ty_c hS (by decide) rfl) (ix_n (by omega) (by omega)) m2 ?_
      refine q_sipush (v := nI 160) dX9_statement_19 rfl ?_
      refine q_icmp_geN (tgt := 29) dX9_statement_22 (by decide) (by omega) (by omega) (fun c22 => ?_) (fun c22 => ?_)
      · skip
        refine q_iconst (v := nI 0) dX9_statement_29 rfl ?_
        refine q_iconst (v := nI 3) dX9_statement_30 rfl ?_
        refine q_callV (As := [.int (nI 0), .int (nI 3)]) (rest := []) dX9_statement_31 vX9_232 (ty_c hS (by decide) rfl) ⟨by decide, rfl⟩ (z9_must_n hS b1 b2 (by omega)) rfl rfl (Nat.le_of_ble_eq_true rfl) (by omega) (by omega) (by omega) (k_p ?_)
        refine q_if_neB (tgt := 39) dX9_statement_34 (by decide) (fun h => absurd h (by decide)) (fun _ => ?_)
        refine q_iconst (v := nI 1) dX9_statement_37 rfl ?_
        refine q_ireturn dX9_statement_38 rfl rfl (by omega) (by omega) ?_
        exact ⟨true, rfl, erM_lb.mono (fun h i z => by unfold lxb at z; unfold nwr; omega), Or.inl ⟨_, e, erM_bs (er_b (by omega))⟩⟩
      · exact absurd c22 (by omega)
    · have e : StY T L b k q = (pSt T L kd k).bind fun s => (pSg T L 59 s.2.1).bind fun k2 => .ok (kd, k2, psAdd T L q b s.1 s.2.2) := by unfold StY; rw [hk]; exact if_neg hq
      have fb := blS_f (σ := σ) (n := 960 + (psS q).length) (b := b) (len := (psS q).length)
      have hc : nI (b + 1 - 1) = nI b := rfl
      have go : WA g mX9_statement 6 0 0 (ZM g (fun r σ' => ∃ e, r = some (.int (bi e)) ∧ StQ σ T L b k q e σ') 0 0) 0 0 102 [(0, .ref 58), (1, .int (nI (960 + (psS q).length)))] [] (blS σ (960 + (psS q).length) b (psS q).length) := by
        refine y9_stm102 (SK.fq fb hS) (hT.fq fb (by unfold bsq; omega) (fun i => by unfold bsq; omega)) ((fb.2.2.2 58 32 (by unfold bsq; omega)).trans b1) (b2.bs fb rfl) blS_k (hM.2.2.2.2.2.2.fq fb (by unfold bsq; omega) (fun i => by unfold bsq; omega)) (hM.2.2.2.2.1.fq fb (by unfold bsq; omega) (fun a i h1 h2 => by unfold bsq; omega)) ((fb.2.2.2 58 38 (by unfold bsq; omega)).trans hM.2.2.2.2.2.1) hw.2.2.2.1 hw.2.1 (by omega) hll hk fun σ' r1 r2 r3 => ⟨_, rfl, ?_, ?_⟩
        · exact (fb.mono fun h i z => by unfold bsq at z; unfold nwr; omega).tr (r3.mono fun _ _ z => nwr.sm (by omega) z)
        · rw [e]
          cases h1 : pSt T L kd k with
          | error z => rw [h1] at r1; exact Or.inl ⟨z, rfl, r1⟩
          | ok s =>
            rw [h1] at r1
            have r1 : BS σ' T L (pSg T L 59 s.2.1) := r1
            show (∃ z, (pSg T L 59 s.2.1).bind _ = _ ∧ _) ∨ ∃ kd' k2 q', (pSg T L 59 s.2.1).bind _ = _ ∧ _
            cases h2 : pSg T L 59 s.2.1 with
            | error z => rw [h2] at r1; exact Or.inl ⟨z, rfl, r1⟩
            | ok k2 => rw [h2] at r1; exact Or.inr ⟨kd, k2, _, rfl, rfl, r1, mpsA hT' hM r3 (r2 s h1)⟩
      refine CT.of (by decide) (Nat.le_of_ble_eq_true rfl) ?_
      refine q_aload_n dX9_statement_0 rfl rfl rfl ?_
      refine q_aload_n dX9_statement_1 rfl rfl rfl ?_
      refine q_callV (As := []) (rest := [.ref 58]) dX9_statement_2 vX9_255 (ty_c hS (by decide) rfl) ⟨by decide, rfl⟩ (hd ▸ z9_mayBegin hS b2) rfl rfl (Nat.le_of_ble_eq_true rfl) (by omega) (by omega) (by omega) (k_p ?_)
      refine q_iconst (v := nI 2) dX9_statement_5 rfl ?_
      refine q_callV (As := [.int (bi true), .int (nI 2)]) (rest := []) dX9_statement_6 vX9_232 (ty_c hS (by decide) rfl) ⟨by decide, rfl⟩ (z9_must_y hS b1) rfl rfl (Nat.le_of_ble_eq_true rfl) (by omega) (by omega) (by omega) (k_p ?_)
      refine q_if_eqB (tgt := 37) dX9_statement_9 (by decide) (fun h => absurd h (by decide)) (fun _ => ?_)
      refine q_aload_n dX9_statement_12 rfl rfl rfl ?_
      refine q_aload_n dX9_statement_13 rfl rfl rfl ?_
      refine q_getr (r := 62) dX9_statement_14 fX9_43 rfl (ty_c hS (by decide) rfl) (hS.2 58 10 62 rfl) ?_
      refine q_iconst (v := nI 4) dX9_statement_17 rfl ?_
      refine q_iald (x := nI ((psS q).length)) (j := 4) dX9_statement_18 (ty_c hS (by decide) rfl) (ix_n (by omega) (by omega)) m2 ?_
      refine q_sipush (v := nI 160) dX9_statement_19 rfl ?_
      refine q_icmp_geN (tgt := 29) dX9_statement_22 (by decide) (by omega) (by omega) (fun c22 => ?_) (fun c22 => ?_)
      · exact absurd c22 (by omega)
      · skip
        refine q_iconst (v := nI 1) dX9_statement_25 rfl ?_
        refine q_goto (tgt := 30) dX9_statement_26 (by decide) ?_
        refine q_iconst (v := nI 3) dX9_statement_30 rfl ?_
        refine q_callV (As := [.int (nI 1), .int (nI 3)]) (rest := []) dX9_statement_31 vX9_232 (ty_c hS (by decide) rfl) ⟨by decide, rfl⟩ (z9_must_y hS b1) rfl rfl (Nat.le_of_ble_eq_true rfl) (by omega) (by omega) (by omega) (k_p ?_)
        refine q_if_neB (tgt := 39) dX9_statement_34 (by decide) (fun _ => ?_) (fun h => absurd h (by decide))
        refine q_sipush (v := nI 960) dX9_statement_39 rfl ?_
        refine q_aload_n dX9_statement_42 rfl rfl rfl ?_
        refine q_getr (r := 62) dX9_statement_43 fX9_43 rfl (ty_c hS (by decide) rfl) (hS.2 58 10 62 rfl) ?_
        refine q_iconst (v := nI 4) dX9_statement_46 rfl ?_
        refine q_iald (x := nI ((psS q).length)) (j := 4) dX9_statement_47 (ty_c hS (by decide) rfl) (ix_n (by omega) (by omega)) m2 ?_
        refine q_iaddN dX9_statement_48 ?_
        refine q_istore_n dX9_statement_49 rfl (by decide) (ls' := [(1, .int (nI (960 + ((psS q).length)))), (0, .ref 58)]) rfl ?_
        refine q_aload_n dX9_statement_50 rfl rfl rfl ?_
        refine q_getr (r := 62) dX9_statement_51 fX9_43 rfl (ty_c hS (by decide) rfl) (hS.2 58 10 62 rfl) ?_
        refine q_iconst (v := nI 4) dX9_statement_54 rfl ?_
        refine q_dup2 dX9_statement_55 rfl rfl ?_
        refine q_iald (x := nI ((psS q).length)) (j := 4) dX9_statement_56 (ty_c hS (by decide) rfl) (ix_n (by omega) (by omega)) m2 ?_
        refine q_iconst (v := nI 1) dX9_statement_57 rfl ?_
        refine q_iaddN dX9_statement_58 ?_
        refine q_iast (j := 4) dX9_statement_59 (ty_c hS (by decide) rfl) (ix_n (by omega) (by omega)) ?_
        refine q_aload_n dX9_statement_60 rfl rfl rfl ?_
        refine q_getr (r := 68) dX9_statement_61 fX9_61 rfl (ty_c hS (by decide) rfl) (hS.2 58 16 68 rfl) ?_
        refine q_iload_n dX9_statement_64 rfl rfl ?_
        refine q_aload_n dX9_statement_65 rfl rfl rfl ?_
        refine q_getr (r := 61) dX9_statement_66 fX9_40 rfl (ty_c hS (by decide) rfl) (hS.2 58 9 61 rfl) ?_
        refine q_iconst (v := nI 4) dX9_statement_69 rfl ?_
        refine q_iald (x := nI (b + 1)) (j := 4) dX9_statement_70 (ty_c hS (by decide) rfl) (ix_n (by omega) (by omega)) (Eq.trans (rd_off (by decide)) m1) ?_
        refine q_iconst (v := nI 1) dX9_statement_71 rfl ?_
        refine q_isubN dX9_statement_72 (by omega) ?_
        refine q_top (y := nI b) hc ?_
        refine q_iast (j := (960 + ((psS q).length))) dX9_statement_73 (ty_c hS (by decide) rfl) (ix_n (by omega) (by omega)) ?_
        refine q_aload_n dX9_statement_74 rfl rfl rfl ?_
        refine q_getr (r := 69) dX9_statement_75 fX9_64 rfl (ty_c hS (by decide) rfl) (hS.2 58 17 69 rfl) ?_
        refine q_iload_n dX9_statement_78 rfl rfl ?_
        refine q_iconst (v := (-1 : Int32)) dX9_statement_79 rfl ?_
        refine q_iast (j := (960 + ((psS q).length))) dX9_statement_80 (ty_c hS (by decide) rfl) (ix_n (by omega) (by omega)) ?_
        refine q_aload_n dX9_statement_81 rfl rfl rfl ?_
        refine q_getr (r := 70) dX9_statement_82 fX9_67 rfl (ty_c hS (by decide) rfl) (hS.2 58 18 70 rfl) ?_
        refine q_iload_n dX9_statement_85 rfl rfl ?_
        refine q_iconst (v := (-1 : Int32)) dX9_statement_86 rfl ?_
        refine q_iast (j := (960 + ((psS q).length))) dX9_statement_87 (ty_c hS (by decide) rfl) (ix_n (by omega) (by omega)) ?_
        refine q_aload_n dX9_statement_88 rfl rfl rfl ?_
        refine q_getr (r := 71) dX9_statement_89 fX9_70 rfl (ty_c hS (by decide) rfl) (hS.2 58 19 71 rfl) ?_
        refine q_iload_n dX9_statement_92 rfl rfl ?_
        refine q_iconst (v := (-1 : Int32)) dX9_statement_93 rfl ?_
        refine q_iast (j := (960 + ((psS q).length))) dX9_statement_94 (ty_c hS (by decide) rfl) (ix_n (by omega) (by omega)) ?_
        refine q_aload_n dX9_statement_95 rfl rfl rfl ?_
        refine q_getr (r := 72) dX9_statement_96 fX9_73 rfl (ty_c hS (by decide) rfl) (hS.2 58 20 72 rfl) ?_
        refine q_iload_n dX9_statement_99 rfl rfl ?_
        refine q_iconst (v := (-1 : Int32)) dX9_statement_100 rfl ?_
        refine q_iast (j := (960 + ((psS q).length))) dX9_statement_101 (ty_c hS (by decide) rfl) (ix_n (by omega) (by omega)) ?_
        refine q_pk [1, 0] (ls' := [(0, .ref 58), (1, .int (nI (960 + ((psS q).length))))]) rfl ?_
        exact go
end MST
