/-! The model's parser: assignments. -/
theorem isop_t {κ v c : Nat} (h : decide (κ = 7 ∧ v = c) = true) (hc : isOpB c = true) : decide (κ = 7 ∧ isOpB v = true) = true := by
  have h := of_decide_eq_true h
  exact decide_eq_true ⟨h.1, by rw [h.2]; exact hc⟩
theorem isop_f {κ v : Nat} (h1 : decide (κ = 7 ∧ v = 43) = false) (h2 : decide (κ = 7 ∧ v = 45) = false) (h3 : decide (κ = 7 ∧ v = 42) = false) (h4 : decide (κ = 7 ∧ v = 38) = false) (h5 : decide (κ = 7 ∧ v = 94) = false) (h6 : decide (κ = 7 ∧ v = 47) = false) : decide (κ = 7 ∧ isOpB v = true) = false := by
  refine decide_eq_false fun z => ?_
  have h1 := of_decide_eq_false h1
  have h2 := of_decide_eq_false h2
  have h3 := of_decide_eq_false h3
  have h4 := of_decide_eq_false h4
  have h5 := of_decide_eq_false h5
  have h6 := of_decide_eq_false h6
  have := z.2
  unfold isOpB at this
  simp only [Bool.or_eq_true, beq_iff_eq] at this
  omega
theorem tk_k {σ σ' : HS} {h i : Nat} (f : FR9 tkq σ σ') (hh : h ≠ 58 ∨ (i < 2 ∨ (7 ≤ i ∧ i ≠ 32 ∧ i ≠ 33))) : sI σ' h i = sI σ h i := f.2.2.2 h i (by unfold tkq; omega)
def vlq (n h i : Nat) : Prop := lxb h i ∨ ((h = 67 ∨ h = 70 ∨ h = 73 ∨ h = 74) ∧ i = n) ∨ (h = 58 ∧ i = 38) ∨ (h = 64 ∧ i = 4) ∨ (78 ≤ h ∧ h ≤ 82 ∧ 128 ≤ i)
def VlR (σ' : HS) (n : Nat) (v : Int32 × Int32 × Option SUM × Nat × Bool) (ss : List SUM) (m : Bool) : Prop := match v.2.2.1 with
  | none => sI σ' 67 n = nI 1 ∧ sI σ' 70 n = -1 ∧ sI σ' 73 n = opn v.1 ∧ sI σ' 74 n = opv v.1 ∧ SMs σ' ss ∧ sI σ' 58 38 = bi m
  | some x => sI σ' 67 n = nI 0 ∧ ((nSum ss x).2.2 = false → sI σ' 70 n = (nSum ss x).1) ∧ SMs σ' (nSum ss x).2.1 ∧ sI σ' 58 38 = bi (m || (nSum ss x).2.2)
def VlQ (σ : HS) (T : Nat → Nat) (L n k : Nat) (ss : List SUM) (m : Bool) : HS → Prop := fun σ' => BS σ' T L ((pVl T L k).bind fun v => .ok v.2.2.2.1) ∧ (∀ v, pVl T L k = .ok v → VlR σ' n v ss m) ∧ FR9 (vlq n) σ σ'
theorem BS.su {σ σ' : HS} {T : Nat → Nat} {L n : Nat} {x : PR Nat} (f : FR9 (suq n) σ σ') (hL : sL σ' 58 7 = sL σ 58 7) (m : BS σ T L x) : BS σ' T L x := by
  have e : ∀ i, i ≠ 38 → sI σ' 58 i = sI σ 58 i := fun i hi => f.2.2.2 58 i (by unfold suq; omega)
  cases x with
  | error z => exact ⟨(e _ (by omega)).trans m.1, m.2.1, (e _ (by omega)).trans m.2.2⟩
  | ok k =>
    refine ⟨(e _ (by omega)).trans m.1, ?_⟩
    have := m.2
    unfold MTk at this ⊢
    rw [e _ (by omega), e _ (by omega), e _ (by omega), e _ (by omega), e _ (by omega), hL]
    exact this
theorem vlE {σ σ' : HS} {T : Nat → Nat} {L n k : Nat} {ss : List SUM} {m : Bool} {e : Nat × Nat} (hp : pVl T L k = .error e) (hB : BS σ' T L (.error e)) (f : FR9 (vlq n) σ σ') : VlQ σ T L n k ss m σ' := by
  refine ⟨?_, fun v hv => ?_, f⟩
  · rw [hp]; exact hB
  · rw [hp] at hv; cases hv
theorem rowE {T : Nat → Nat} {L k : Nat} {e : Nat × Nat} (h : tk T L k = 4) (hx : ((pSg T L 91 (k + 1)).bind (pO1 T L)).bind (pSg T L 93) = .error e) : pVl T L k = .error e := by
  unfold pVl
  rw [if_pos h]
  cases h1 : pSg T L 91 (k + 1) with
  | error z => rw [h1] at hx; cases hx; rfl
  | ok k1 =>
    rw [h1] at hx
    have hx : (pO1 T L k1).bind (pSg T L 93) = .error e := hx
    show (pOp T L k1).bind _ = _
    cases h2 : pOp T L k1 with
    | error z => rw [pO1_er h2] at hx; cases hx; rfl
    | ok v =>
      rw [pO1_ok h2] at hx
      have hx : pSg T L 93 v.2.1 = .error e := hx
      show (pSg T L 93 v.2.1).bind _ = _
      rw [hx]; rfl
theorem rowK {T : Nat → Nat} {L k k2 : Nat} (h : tk T L k = 4) (hx : ((pSg T L 91 (k + 1)).bind (pO1 T L)).bind (pSg T L 93) = .ok k2) : ∃ k1 v, pSg T L 91 (k + 1) = .ok k1 ∧ pOp T L k1 = .ok v ∧ pVl T L k = .ok (nI 0, v.1, some (nI 114, nI (tv T L k), v.1), k2, v.2.2) := by
  obtain ⟨a, h0, h3⟩ := exb hx
  obtain ⟨k1, h1, h2⟩ := exb h0
  cases h4 : pOp T L k1 with
  | error z => rw [pO1_er h4] at h2; cases h2
  | ok v =>
    rw [pO1_ok h4] at h2; cases h2
    refine ⟨k1, v, h1, h4, ?_⟩
    unfold pVl
    rw [if_pos h, h1]
    show (pOp T L k1).bind _ = _
    rw [h4]
    show (pSg T L 93 v.2.1).bind _ = _
    rw [h3]; rfl
section MAS
variable {g : GG} {σ : HS} {T : Nat → Nat} {L k n b : Nat} {l : List (Nat × Nat)} {ss : List SUM} {m : Bool}
theorem z9_isOp (hS : SK σ) (hT : ∀ i, i < L → T i < 256) (hM : MTk σ T L k) : CT g mX9_isOp 1 0 0 [.ref 58] σ (PQ σ (.int (bi (decide (tk T L k = 7 ∧ isOpB (tv T L k) = true))))) := by
  refine CT.of (by decide) (Nat.le_of_ble_eq_true rfl) ?_
  refine q_aload_n dX9_isOp_0 rfl rfl rfl ?_
  refine q_bipush (v := nI 43) dX9_isOp_1 rfl ?_
  refine q_callV (As := [.int (nI 43)]) (rest := []) dX9_isOp_3 vX9_229 (ty_c hS (by decide) rfl) ⟨by decide, rfl⟩ (z9_isSign hS hT hM (by omega)) rfl rfl (Nat.le_of_ble_eq_true rfl) (by omega) (by omega) (by omega) (k_p ?_)
  refine q_if_neB (tgt := 54) dX9_isOp_6 (by decide) (fun c6 => ?_) (fun c6 => ?_)
  · skip
    refine q_iconst (v := nI 1) dX9_isOp_54 rfl ?_
    refine q_goto (tgt := 59) dX9_isOp_55 (by decide) ?_
    refine q_ireturn dX9_isOp_59 rfl rfl (by omega) (by omega) ?_
    first | exact fin_t (isop_t c6 (by decide)) | exact fin_t (isop_t c15 (by decide)) | exact fin_t (isop_t c24 (by decide)) | exact fin_t (isop_t c33 (by decide)) | exact fin_t (isop_t c42 (by decide)) | exact fin_t (isop_t c51 (by decide)) | exact fin_f (isop_f c6 c15 c24 c33 c42 c51)
  · skip
    refine q_aload_n dX9_isOp_9 rfl rfl rfl ?_
    refine q_bipush (v := nI 45) dX9_isOp_10 rfl ?_
    refine q_callV (As := [.int (nI 45)]) (rest := []) dX9_isOp_12 vX9_229 (ty_c hS (by decide) rfl) ⟨by decide, rfl⟩ (z9_isSign hS hT hM (by omega)) rfl rfl (Nat.le_of_ble_eq_true rfl) (by omega) (by omega) (by omega) (k_p ?_)
    refine q_if_neB (tgt := 54) dX9_isOp_15 (by decide) (fun c15 => ?_) (fun c15 => ?_)
    · skip
      refine q_iconst (v := nI 1) dX9_isOp_54 rfl ?_
      refine q_goto (tgt := 59) dX9_isOp_55 (by decide) ?_
      refine q_ireturn dX9_isOp_59 rfl rfl (by omega) (by omega) ?_
      first | exact fin_t (isop_t c6 (by decide)) | exact fin_t (isop_t c15 (by decide)) | exact fin_t (isop_t c24 (by decide)) | exact fin_t (isop_t c33 (by decide)) | exact fin_t (isop_t c42 (by decide)) | exact fin_t (isop_t c51 (by decide)) | exact fin_f (isop_f c6 c15 c24 c33 c42 c51)
    · skip
      refine q_aload_n dX9_isOp_18 rfl rfl rfl ?_
      refine q_bipush (v := nI 42) dX9_isOp_19 rfl ?_
      refine q_callV (As := [.int (nI 42)]) (rest := []) dX9_isOp_21 vX9_229 (ty_c hS (by decide) rfl) ⟨by decide, rfl⟩ (z9_isSign hS hT hM (by omega)) rfl rfl (Nat.le_of_ble_eq_true rfl) (by omega) (by omega) (by omega) (k_p ?_)
      refine q_if_neB (tgt := 54) dX9_isOp_24 (by decide) (fun c24 => ?_) (fun c24 => ?_)
      · skip
        refine q_iconst (v := nI 1) dX9_isOp_54 rfl ?_
        refine q_goto (tgt := 59) dX9_isOp_55 (by decide) ?_
        refine q_ireturn dX9_isOp_59 rfl rfl (by omega) (by omega) ?_
        first | exact fin_t (isop_t c6 (by decide)) | exact fin_t (isop_t c15 (by decide)) | exact fin_t (isop_t c24 (by decide)) | exact fin_t (isop_t c33 (by decide)) | exact fin_t (isop_t c42 (by decide)) | exact fin_t (isop_t c51 (by decide)) | exact fin_f (isop_f c6 c15 c24 c33 c42 c51)
      · skip
        refine q_aload_n dX9_isOp_27 rfl rfl rfl ?_
        refine q_bipush (v := nI 38) dX9_isOp_28 rfl ?_
        refine q_callV (As := [.int (nI 38)]) (rest := []) dX9_isOp_30 vX9_229 (ty_c hS (by decide) rfl) ⟨by decide, rfl⟩ (z9_isSign hS hT hM (by omega)) rfl rfl (Nat.le_of_ble_eq_true rfl) (by omega) (by omega) (by omega) (k_p ?_)
        refine q_if_neB (tgt := 54) dX9_isOp_33 (by decide) (fun c33 => ?_) (fun c33 => ?_)
        · skip
          refine q_iconst (v := nI 1) dX9_isOp_54 rfl ?_
          refine q_goto (tgt := 59) dX9_isOp_55 (by decide) ?_
          refine q_ireturn dX9_isOp_59 rfl rfl (by omega) (by omega) ?_
          first | exact fin_t (isop_t c6 (by decide)) | exact fin_t (isop_t c15 (by decide)) | exact fin_t (isop_t c24 (by decide)) | exact fin_t (isop_t c33 (by decide)) | exact fin_t (isop_t c42 (by decide)) | exact fin_t (isop_t c51 (by decide)) | exact fin_f (isop_f c6 c15 c24 c33 c42 c51)
        · skip
          refine q_aload_n dX9_isOp_36 rfl rfl rfl ?_
          refine q_bipush (v := nI 94) dX9_isOp_37 rfl ?_
          refine q_callV (As := [.int (nI 94)]) (rest := []) dX9_isOp_39 vX9_229 (ty_c hS (by decide) rfl) ⟨by decide, rfl⟩ (z9_isSign hS hT hM (by omega)) rfl rfl (Nat.le_of_ble_eq_true rfl) (by omega) (by omega) (by omega) (k_p ?_)
          refine q_if_neB (tgt := 54) dX9_isOp_42 (by decide) (fun c42 => ?_) (fun c42 => ?_)
          · skip
            refine q_iconst (v := nI 1) dX9_isOp_54 rfl ?_
            refine q_goto (tgt := 59) dX9_isOp_55 (by decide) ?_
            refine q_ireturn dX9_isOp_59 rfl rfl (by omega) (by omega) ?_
            first | exact fin_t (isop_t c6 (by decide)) | exact fin_t (isop_t c15 (by decide)) | exact fin_t (isop_t c24 (by decide)) | exact fin_t (isop_t c33 (by decide)) | exact fin_t (isop_t c42 (by decide)) | exact fin_t (isop_t c51 (by decide)) | exact fin_f (isop_f c6 c15 c24 c33 c42 c51)
          · skip
            refine q_aload_n dX9_isOp_45 rfl rfl rfl ?_
            refine q_bipush (v := nI 47) dX9_isOp_46 rfl ?_
            refine q_callV (As := [.int (nI 47)]) (rest := []) dX9_isOp_48 vX9_229 (ty_c hS (by decide) rfl) ⟨by decide, rfl⟩ (z9_isSign hS hT hM (by omega)) rfl rfl (Nat.le_of_ble_eq_true rfl) (by omega) (by omega) (by omega) (k_p ?_)
            refine q_if_eqB (tgt := 58) dX9_isOp_51 (by decide) (fun c51 => ?_) (fun c51 => ?_)
            · skip
              refine q_iconst (v := nI 0) dX9_isOp_58 rfl ?_
              refine q_ireturn dX9_isOp_59 rfl rfl (by omega) (by omega) ?_
              first | exact fin_t (isop_t c6 (by decide)) | exact fin_t (isop_t c15 (by decide)) | exact fin_t (isop_t c24 (by decide)) | exact fin_t (isop_t c33 (by decide)) | exact fin_t (isop_t c42 (by decide)) | exact fin_t (isop_t c51 (by decide)) | exact fin_f (isop_f c6 c15 c24 c33 c42 c51)
            · skip
              refine q_iconst (v := nI 1) dX9_isOp_54 rfl ?_
              refine q_goto (tgt := 59) dX9_isOp_55 (by decide) ?_
              refine q_ireturn dX9_isOp_59 rfl rfl (by omega) (by omega) ?_
              first | exact fin_t (isop_t c6 (by decide)) | exact fin_t (isop_t c15 (by decide)) | exact fin_t (isop_t c24 (by decide)) | exact fin_t (isop_t c33 (by decide)) | exact fin_t (isop_t c42 (by decide)) | exact fin_t (isop_t c51 (by decide)) | exact fin_f (isop_f c6 c15 c24 c33 c42 c51)
theorem z9_summedR (hS : SK σ) (hs : SMs σ ss) (hm : sI σ 58 38 = bi m) (hl : ss.length ≤ 32) (hw : ∀ y ∈ ss, SMW y) (hn : n < 1200) {w : Nat} (hw2 : w < 2) {o : Int32} (ho : OPD o) : CT g mX9_summed 0 0 0 [.ref 58, .int (nI n), .int (nI 114), .int (-1), .int (nI w), .int (opn o), .int (opv o)] σ (fun r σ' => r = none ∧ SuQ (uI σ 67 n (nI 0)) n (nI 114, nI w, o) ss m σ') := by
  have z := z9_summed (g := g) (x := (nI 114, nI w, o)) hS hs hm hl hw (Or.inr ⟨rfl, ⟨w, hw2, rfl⟩, ho⟩) hn
  have e1 : sAn (nI 114, nI w, o) = -1 := if_pos rfl
  have e2 : sAv (nI 114, nI w, o) = nI w := if_pos rfl
  rw [e1, e2] at z
  exact z
theorem z9_summedO (hS : SK σ) (hs : SMs σ ss) (hm : sI σ 58 38 = bi m) (hl : ss.length ≤ 32) (hw : ∀ y ∈ ss, SMW y) (hn : n < 1200) {c a o : Int32} (hc : isO c) (ha : OPD a) (ho : OPD o) : CT g mX9_summed 0 0 0 [.ref 58, .int (nI n), .int c, .int (opn a), .int (opv a), .int (opn o), .int (opv o)] σ (fun r σ' => r = none ∧ SuQ (uI σ 67 n (nI 0)) n (c, a, o) ss m σ') := by
  have z := z9_summed (g := g) (x := (c, a, o)) hS hs hm hl hw (Or.inl ⟨hc, ha, ho⟩) hn
  have e1 : sAn (c, a, o) = opn a := if_neg (isO_r hc)
  have e2 : sAv (c, a, o) = opv a := if_neg (isO_r hc)
  rw [e1, e2] at z
  exact z
theorem FR9.t2l {σ σ' : HS} (f : FR9 tkq σ σ') : FR9 lxb σ σ' := f.mono fun _ _ => tkq.lb
theorem FR9.vl {σ σ' : HS} (f : FR9 lxb σ σ') : FR9 (vlq n) σ σ' := f.mono fun _ _ => Or.inl
theorem fs_vl {h i : Nat} (k : fsq 73 n h i) : vlq n h i := by
  rcases k with k | ⟨k1, k2⟩
  · exact Or.inl k
  · exact Or.inr (Or.inl ⟨by omega, k2⟩)
theorem su_vl {h i : Nat} (k : suq n h i) : vlq n h i := by unfold suq at k; unfold vlq; omega
theorem vlS {τ σ' : HS} {v : Int32 × Int32 × Option SUM × Nat × Bool} {x : SUM} (hp : pVl T L k = .ok v) (hv : v.2.2.1 = some x) (hb : BS τ T L (.ok v.2.2.2.1)) (f : FR9 (vlq n) σ τ) (q : SuQ (uI τ 67 n (nI 0)) n x ss m σ') : VlQ σ T L n k ss m σ' := by
  obtain ⟨q1, q2, q3, q4, q5⟩ := q
  refine ⟨?_, fun v' hv' => ?_, (f.uI (by unfold vlq; omega)).tr (q4.mono fun _ _ => su_vl)⟩
  · rw [hp]
    exact (hb.off (by omega)).su q4 (congrFun (congrFun q5 58) 7)
  · rw [hp] at hv'; cases hv'
    unfold VlR
    rw [hv]
    exact ⟨(q4.2.2.2 67 n (by unfold suq; omega)).trans uI_self, q1, q2, q3⟩
theorem opE {e : Nat × Nat} (h : tk T L k ≠ 4) (hx : pOp T L k = .error e) : pVl T L k = .error e := by
  unfold pVl; rw [if_neg h, hx]; rfl
theorem opN {v : Int32 × Nat × Bool} (h : tk T L k ≠ 4) (hx : pOp T L k = .ok v) (h2 : ¬ (tk T L v.2.1 = 7 ∧ isOpB (tv T L v.2.1) = true)) : pVl T L k = .ok (v.1, nI 0, none, v.2.1, v.2.2) := by
  unfold pVl; rw [if_neg h, hx]; exact if_neg h2
theorem opE2 {v : Int32 × Nat × Bool} {e : Nat × Nat} (h : tk T L k ≠ 4) (hx : pOp T L k = .ok v) (h2 : tk T L v.2.1 = 7 ∧ isOpB (tv T L v.2.1) = true) (h3 : pOp T L (v.2.1 + 1) = .error e) : pVl T L k = .error e := by
  unfold pVl; rw [if_neg h, hx]
  show (if tk T L v.2.1 = 7 ∧ isOpB (tv T L v.2.1) = true then _ else _) = _
  rw [if_pos h2, h3]; rfl
theorem opK2 {v w : Int32 × Nat × Bool} (h : tk T L k ≠ 4) (hx : pOp T L k = .ok v) (h2 : tk T L v.2.1 = 7 ∧ isOpB (tv T L v.2.1) = true) (h3 : pOp T L (v.2.1 + 1) = .ok w) : pVl T L k = .ok (v.1, w.1, some (nI (tv T L v.2.1), v.1, w.1), w.2.1, v.2.2 || w.2.2) := by
  unfold pVl; rw [if_neg h, hx]
  show (if tk T L v.2.1 = 7 ∧ isOpB (tv T L v.2.1) = true then _ else _) = _
  rw [if_pos h2, h3]; rfl
theorem pOp_o {v : Int32 × Nat × Bool} (hT : ∀ i, i < L → T i < 256) (h : pOp T L k = .ok v) : OPD v.1 := by
  obtain ⟨o, k2, t⟩ := v
  exact (pOp_opd hT h).1
theorem y9_asg32 (hS : SK σ) (hT : MTX σ L T) (b1 : sI σ 58 32 = nI 0) (b2 : MTk σ T L k) (h67 : sI σ 67 n = nI 1) (h70 : sI σ 70 n = -1) (hs : SMs σ ss) (hm : sI σ 58 38 = bi m) (hl : ss.length ≤ 32) (hw : ∀ y ∈ ss, SMW y) (hn : n < 1200) {x2 : Int32} {Q : Option Value → HS → Prop} (hQ : ∀ σ', VlQ σ T L n k ss m σ' → Q none σ') : WA g mX9_assigned 5 0 0 (ZM g Q 0 0) 0 0 32 [(0, .ref 58), (1, .int (nI n)), (2, .int x2)] [] σ := by
  have hT' : ∀ i, i < L → T i < 256 := fun i hi => (hT.2.2 i hi).2
  have hr := tkd_r b2.2.2
  by_cases h4 : tk T L k = 4
  · rw [if_pos h4] at hr
    have hv : tv T L k < 2 := tv_345.2.1 h4
    cases hx : ((pSg T L 91 (k + 1)).bind (pO1 T L)).bind (pSg T L 93) with
    | error e =>
      refine q_aload_n dX9_assigned_32 rfl rfl rfl ?_
      refine q_bipush (v := nI 114) dX9_assigned_33 rfl ?_
      refine q_iconst (v := nI 1) dX9_assigned_35 rfl ?_
      refine q_callV (As := [.int (nI 114), .int (nI 1)]) (rest := []) dX9_assigned_36 vX9_225 (ty_c hS (by decide) rfl) ⟨by decide, rfl⟩ (hr ▸ z9_numbered hS) rfl rfl (Nat.le_of_ble_eq_true rfl) (by omega) (by omega) (by omega) (k_p ?_)
      refine q_istore_n dX9_assigned_39 rfl (by decide) (ls' := [(3, .int (nI (tv T L k))), (0, .ref 58), (1, .int (nI n)), (2, .int x2)]) rfl ?_
      refine q_iload_n dX9_assigned_40 rfl rfl ?_
      refine q_if_ltN (tgt := 89) dX9_assigned_41 (by decide) (by omega) ?_
      refine q_aload_n dX9_assigned_44 rfl rfl rfl ?_
      refine q_callV (As := []) (rest := []) dX9_assigned_45 vX9_236 (ty_c hS (by decide) rfl) ⟨by decide, rfl⟩ (z9_nextM hS hT b2) rfl rfl (Nat.le_of_ble_eq_true rfl) (by omega) (by omega) (by omega) (k_v (fun s45 q45 => ?_))
      have S45 : SK s45 := SK.x9 q45.1 hS
      have t45 := hT.x9 q45.1
      have zS45 : SK s45 := (SK.x9 q45.1 hS)
      refine q_aload_n dX9_assigned_48 rfl rfl rfl ?_
      refine q_bipush (v := nI 91) dX9_assigned_49 rfl ?_
      refine q_callV (As := [.int (nI 91)]) (rest := []) dX9_assigned_51 vX9_279 (ty_c zS45 (by decide) rfl) ⟨by decide, rfl⟩ (z9_takeT (x := .ok (k + 1)) S45 t45 ⟨bs_next b1 q45.1, q45.2⟩ (by omega)) rfl rfl (Nat.le_of_ble_eq_true rfl) (by omega) (by omega) (by omega) (k_v (fun s51 q51 => ?_))
      have S51 : SK s51 := SK.fq q51.2 S45
      have t51 := t45.lb q51.2.t2l
      have zS51 : SK s51 := (SK.fq q51.2 S45)
      refine q_aload_n dX9_assigned_54 rfl rfl rfl ?_
      refine q_callV (As := []) (rest := []) dX9_assigned_55 vX9_291 (ty_c zS51 (by decide) rfl) ⟨by decide, rfl⟩ (z9_operand (x := pSg T L 91 (k + 1)) S51 t51 q51.1) rfl rfl (Nat.le_of_ble_eq_true rfl) (by omega) (by omega) (by omega) (k_v (fun s55 q55 => ?_))
      have S55 : SK s55 := SK.fq q55.2.2 S51
      have t55 := t51.lb q55.2.2
      have zS55 : SK s55 := (SK.fq q55.2.2 S51)
      refine q_aload_n dX9_assigned_58 rfl rfl rfl ?_
      refine q_bipush (v := nI 93) dX9_assigned_59 rfl ?_
      refine q_callV (As := [.int (nI 93)]) (rest := []) dX9_assigned_61 vX9_279 (ty_c zS55 (by decide) rfl) ⟨by decide, rfl⟩ (z9_takeT S55 t55 q55.1 (by omega)) rfl rfl (Nat.le_of_ble_eq_true rfl) (by omega) (by omega) (by omega) (k_v (fun s61 q61 => ?_))
      have u61 : BS s61 T L (.error e) := by
        have z := q61.1
        rw [hx] at z; exact z
      have u61b := u61.2.1
      have zS61 : SK s61 := (SK.fq q61.2 S55)
      refine q_aload_n dX9_assigned_64 rfl rfl rfl ?_
      refine q_geti (x := nI e.1) dX9_assigned_65 fX9_110 rfl (ty_c zS61 (by decide) rfl) u61.1 ?_
      refine q_if_neN (tgt := 88) dX9_assigned_68 (by decide) (by omega) (fun c68 => ?_) (fun c68 => ?_)
      · skip
        refine q_return dX9_assigned_88 rfl (by omega) (by omega) ?_
        exact hQ _ (vlE (rowE h4 hx) u61 (((q45.1.lb.tr q51.2.t2l).tr q55.2.2).tr q61.2.t2l).vl)
      · exact absurd c68 (by omega)
    | ok k2 =>
      obtain ⟨k1, v, e1, e2, e3⟩ := rowK h4 hx
      refine q_aload_n dX9_assigned_32 rfl rfl rfl ?_
      refine q_bipush (v := nI 114) dX9_assigned_33 rfl ?_
      refine q_iconst (v := nI 1) dX9_assigned_35 rfl ?_
      refine q_callV (As := [.int (nI 114), .int (nI 1)]) (rest := []) dX9_assigned_36 vX9_225 (ty_c hS (by decide) rfl) ⟨by decide, rfl⟩ (hr ▸ z9_numbered hS) rfl rfl (Nat.le_of_ble_eq_true rfl) (by omega) (by omega) (by omega) (k_p ?_)
      refine q_istore_n dX9_assigned_39 rfl (by decide) (ls' := [(3, .int (nI (tv T L k))), (0, .ref 58), (1, .int (nI n)), (2, .int x2)]) rfl ?_
      refine q_iload_n dX9_assigned_40 rfl rfl ?_
      refine q_if_ltN (tgt := 89) dX9_assigned_41 (by decide) (by omega) ?_
      refine q_aload_n dX9_assigned_44 rfl rfl rfl ?_
      refine q_callV (As := []) (rest := []) dX9_assigned_45 vX9_236 (ty_c hS (by decide) rfl) ⟨by decide, rfl⟩ (z9_nextM hS hT b2) rfl rfl (Nat.le_of_ble_eq_true rfl) (by omega) (by omega) (by omega) (k_v (fun s45 q45 => ?_))
      have S45 : SK s45 := SK.x9 q45.1 hS
      have t45 := hT.x9 q45.1
      have zS45 : SK s45 := (SK.x9 q45.1 hS)
      refine q_aload_n dX9_assigned_48 rfl rfl rfl ?_
      refine q_bipush (v := nI 91) dX9_assigned_49 rfl ?_
      refine q_callV (As := [.int (nI 91)]) (rest := []) dX9_assigned_51 vX9_279 (ty_c zS45 (by decide) rfl) ⟨by decide, rfl⟩ (z9_takeT (x := .ok (k + 1)) S45 t45 ⟨bs_next b1 q45.1, q45.2⟩ (by omega)) rfl rfl (Nat.le_of_ble_eq_true rfl) (by omega) (by omega) (by omega) (k_v (fun s51 q51 => ?_))
      have S51 : SK s51 := SK.fq q51.2 S45
      have t51 := t45.lb q51.2.t2l
      have zS51 : SK s51 := (SK.fq q51.2 S45)
      refine q_aload_n dX9_assigned_54 rfl rfl rfl ?_
      refine q_callV (As := []) (rest := []) dX9_assigned_55 vX9_291 (ty_c zS51 (by decide) rfl) ⟨by decide, rfl⟩ (z9_operand (x := pSg T L 91 (k + 1)) S51 t51 q51.1) rfl rfl (Nat.le_of_ble_eq_true rfl) (by omega) (by omega) (by omega) (k_v (fun s55 q55 => ?_))
      have S55 : SK s55 := SK.fq q55.2.2 S51
      have t55 := t51.lb q55.2.2
      have zS55 : SK s55 := (SK.fq q55.2.2 S51)
      refine q_aload_n dX9_assigned_58 rfl rfl rfl ?_
      refine q_bipush (v := nI 93) dX9_assigned_59 rfl ?_
      refine q_callV (As := [.int (nI 93)]) (rest := []) dX9_assigned_61 vX9_279 (ty_c zS55 (by decide) rfl) ⟨by decide, rfl⟩ (z9_takeT S55 t55 q55.1 (by omega)) rfl rfl (Nat.le_of_ble_eq_true rfl) (by omega) (by omega) (by omega) (k_v (fun s61 q61 => ?_))
      have u61 : BS s61 T L (.ok k2) := by
        have z := q61.1
        rw [hx] at z; exact z
      have f61 : FR9 lxb σ s61 := ((q45.1.lb.tr q51.2.t2l).tr q55.2.2).tr q61.2.t2l
      have w35 : sI s61 58 35 = opn v.1 := (tk_k q61.2 (by omega)).trans (q55.2.1 k1 v e1 e2).1
      have w36 : sI s61 58 36 = opv v.1 := (tk_k q61.2 (by omega)).trans (q55.2.1 k1 v e1 e2).2
      have zS61 : SK s61 := (SK.fq q61.2 S55)
      refine q_aload_n dX9_assigned_64 rfl rfl rfl ?_
      refine q_geti (x := nI 0) dX9_assigned_65 fX9_110 rfl (ty_c zS61 (by decide) rfl) u61.1 ?_
      refine q_if_neN (tgt := 88) dX9_assigned_68 (by decide) (by omega) (fun h => absurd h (by decide)) (fun _ => ?_)
      refine q_aload_n dX9_assigned_71 rfl rfl rfl ?_
      refine q_iload_n dX9_assigned_72 rfl rfl ?_
      refine q_bipush (v := nI 114) dX9_assigned_73 rfl ?_
      refine q_iconst (v := (-1 : Int32)) dX9_assigned_75 rfl ?_
      refine q_iload_n dX9_assigned_76 rfl rfl ?_
      refine q_aload_n dX9_assigned_77 rfl rfl rfl ?_
      refine q_geti (x := opn v.1) dX9_assigned_78 fX9_119 rfl (ty_c zS61 (by decide) rfl) w35 ?_
      refine q_aload_n dX9_assigned_81 rfl rfl rfl ?_
      refine q_geti (x := opv v.1) dX9_assigned_82 fX9_122 rfl (ty_c zS61 (by decide) rfl) w36 ?_
      refine q_callV (As := [.int (nI n), .int (nI 114), .int (-1 : Int32), .int (nI (tv T L k)), .int (opn v.1), .int (opv v.1)]) (rest := []) dX9_assigned_85 vX9_294 (ty_c zS61 (by decide) rfl) ⟨by decide, rfl⟩ (z9_summedR (σ := s61) (SK.fq f61 hS) (hs.lb f61) ((f61.2.2.2 58 38 (by unfold lxb; omega)).trans hm) hl hw hn hv (pOp_o hT' e2)) rfl rfl (Nat.le_of_ble_eq_true rfl) (by omega) (by omega) (by omega) (k_v (fun s85 q85 => ?_))
      refine q_return dX9_assigned_88 rfl (by omega) (by omega) ?_
      exact hQ _ (vlS e3 rfl u61 f61.vl q85)
  · rw [if_neg h4] at hr
    cases hx : pOp T L k with
    | error e =>
      refine q_aload_n dX9_assigned_32 rfl rfl rfl ?_
      refine q_bipush (v := nI 114) dX9_assigned_33 rfl ?_
      refine q_iconst (v := nI 1) dX9_assigned_35 rfl ?_
      refine q_callV (As := [.int (nI 114), .int (nI 1)]) (rest := []) dX9_assigned_36 vX9_225 (ty_c hS (by decide) rfl) ⟨by decide, rfl⟩ (hr ▸ z9_numbered hS) rfl rfl (Nat.le_of_ble_eq_true rfl) (by omega) (by omega) (by omega) (k_p ?_)
      refine q_istore_n dX9_assigned_39 rfl (by decide) (ls' := [(3, .int (-1)), (0, .ref 58), (1, .int (nI n)), (2, .int x2)]) rfl ?_
      refine q_iload_n dX9_assigned_40 rfl rfl ?_
      refine q_if_lt1 (tgt := 89) dX9_assigned_41 (by decide) (by decide) ?_
      refine q_aload_n dX9_assigned_89 rfl rfl rfl ?_
      refine q_iload_n dX9_assigned_90 rfl rfl ?_
      refine q_callV (As := [.int (nI n)]) (rest := []) dX9_assigned_91 vX9_285 (ty_c hS (by decide) rfl) ⟨by decide, rfl⟩ (z9_first (x := .ok k) hS hT ⟨b1, b2⟩ hn) rfl rfl (Nat.le_of_ble_eq_true rfl) (by omega) (by omega) (by omega) (k_v (fun s91 q91 => ?_))
      have u91 : BS s91 T L (.error e) := by
        have z : BS s91 T L (pO1 T L k) := q91.1
        rw [pO1_er hx] at z; exact z
      have u91b := u91.2.1
      have zS91 : SK s91 := (SK.fq q91.2.2 hS)
      refine q_aload_n dX9_assigned_94 rfl rfl rfl ?_
      refine q_geti (x := nI e.1) dX9_assigned_95 fX9_110 rfl (ty_c zS91 (by decide) rfl) u91.1 ?_
      refine q_if_gtN (tgt := 108) dX9_assigned_98 (by decide) (by omega) (fun c98 => ?_) (fun c98 => ?_)
      · skip
        refine q_return dX9_assigned_108 rfl (by omega) (by omega) ?_
        exact hQ _ (vlE (opE h4 hx) u91 (q91.2.2.mono fun _ _ => fs_vl))
      · exact absurd c98 (by omega)
    | ok v =>
      by_cases h2 : tk T L v.2.1 = 7 ∧ isOpB (tv T L v.2.1) = true
      · have hd : decide (tk T L v.2.1 = 7 ∧ isOpB (tv T L v.2.1) = true) = true := decide_eq_true h2
        cases h3 : pOp T L (v.2.1 + 1) with
        | error e =>
          refine q_aload_n dX9_assigned_32 rfl rfl rfl ?_
          refine q_bipush (v := nI 114) dX9_assigned_33 rfl ?_
          refine q_iconst (v := nI 1) dX9_assigned_35 rfl ?_
          refine q_callV (As := [.int (nI 114), .int (nI 1)]) (rest := []) dX9_assigned_36 vX9_225 (ty_c hS (by decide) rfl) ⟨by decide, rfl⟩ (hr ▸ z9_numbered hS) rfl rfl (Nat.le_of_ble_eq_true rfl) (by omega) (by omega) (by omega) (k_p ?_)
          refine q_istore_n dX9_assigned_39 rfl (by decide) (ls' := [(3, .int (-1)), (0, .ref 58), (1, .int (nI n)), (2, .int x2)]) rfl ?_
          refine q_iload_n dX9_assigned_40 rfl rfl ?_
          refine q_if_lt1 (tgt := 89) dX9_assigned_41 (by decide) (by decide) ?_
          refine q_aload_n dX9_assigned_89 rfl rfl rfl ?_
          refine q_iload_n dX9_assigned_90 rfl rfl ?_
          refine q_callV (As := [.int (nI n)]) (rest := []) dX9_assigned_91 vX9_285 (ty_c hS (by decide) rfl) ⟨by decide, rfl⟩ (z9_first (x := .ok k) hS hT ⟨b1, b2⟩ hn) rfl rfl (Nat.le_of_ble_eq_true rfl) (by omega) (by omega) (by omega) (k_v (fun s91 q91 => ?_))
          have S91 : SK s91 := SK.fq q91.2.2 hS
          have t91 := hT.fs q91.2.2 (by omega)
          have u91 : BS s91 T L (.ok v.2.1) := by
            have z : BS s91 T L (pO1 T L k) := q91.1
            rw [pO1_ok hx] at z; exact z
          have v91 := (tkd_7 u91.2.2.2).2 h2.1
          have zS91 : SK s91 := (SK.fq q91.2.2 hS)
          refine q_aload_n dX9_assigned_94 rfl rfl rfl ?_
          refine q_geti (x := nI 0) dX9_assigned_95 fX9_110 rfl (ty_c zS91 (by decide) rfl) u91.1 ?_
          refine q_if_gtN (tgt := 108) dX9_assigned_98 (by decide) (by omega) (fun h => absurd h (by decide)) (fun _ => ?_)
          refine q_aload_n dX9_assigned_101 rfl rfl rfl ?_
          refine q_callV (As := []) (rest := []) dX9_assigned_102 vX9_298 (ty_c zS91 (by decide) rfl) ⟨by decide, rfl⟩ (hd ▸ z9_isOp S91 hT' u91.2) rfl rfl (Nat.le_of_ble_eq_true rfl) (by omega) (by omega) (by omega) (k_p ?_)
          refine q_if_neB (tgt := 109) dX9_assigned_105 (by decide) (fun _ => ?_) (fun h => absurd h (by decide))
          refine q_aload_n dX9_assigned_109 rfl rfl rfl ?_
          refine q_geti (x := nI (tv T L v.2.1)) dX9_assigned_110 fX9_29 rfl (ty_c zS91 (by decide) rfl) v91 ?_
          refine q_istore dX9_assigned_113 (by decide) (ls' := [(4, .int (nI (tv T L v.2.1))), (3, .int (-1)), (0, .ref 58), (1, .int (nI n)), (2, .int x2)]) rfl ?_
          refine q_aload_n dX9_assigned_115 rfl rfl rfl ?_
          refine q_callV (As := []) (rest := []) dX9_assigned_116 vX9_236 (ty_c zS91 (by decide) rfl) ⟨by decide, rfl⟩ (z9_nextM S91 t91 u91.2) rfl rfl (Nat.le_of_ble_eq_true rfl) (by omega) (by omega) (by omega) (k_v (fun s116 q116 => ?_))
          have S116 : SK s116 := SK.x9 q116.1 S91
          have t116 := t91.x9 q116.1
          have zS116 : SK s116 := (SK.x9 q116.1 S91)
          refine q_aload_n dX9_assigned_119 rfl rfl rfl ?_
          refine q_callV (As := []) (rest := []) dX9_assigned_120 vX9_291 (ty_c zS116 (by decide) rfl) ⟨by decide, rfl⟩ (z9_operand (x := .ok (v.2.1 + 1)) S116 t116 ⟨bs_next u91.1 q116.1, q116.2⟩) rfl rfl (Nat.le_of_ble_eq_true rfl) (by omega) (by omega) (by omega) (k_v (fun s120 q120 => ?_))
          have u120 : BS s120 T L (.error e) := by
            have z : BS s120 T L (pO1 T L (v.2.1 + 1)) := q120.1
            rw [pO1_er h3] at z; exact z
          have u120b := u120.2.1
          have zS120 : SK s120 := (SK.fq q120.2.2 S116)
          refine q_aload_n dX9_assigned_123 rfl rfl rfl ?_
          refine q_geti (x := nI e.1) dX9_assigned_124 fX9_110 rfl (ty_c zS120 (by decide) rfl) u120.1 ?_
          refine q_if_neN (tgt := 157) dX9_assigned_127 (by decide) (by omega) (fun c127 => ?_) (fun c127 => ?_)
          · skip
            refine q_return dX9_assigned_157 rfl (by omega) (by omega) ?_
            exact hQ _ (vlE (opE2 h4 hx h2 h3) u120 (((q91.2.2.mono fun _ _ => fs_vl).tr q116.1.lb.vl).tr q120.2.2.vl))
          · exact absurd c127 (by omega)
        | ok w =>
          refine q_aload_n dX9_assigned_32 rfl rfl rfl ?_
          refine q_bipush (v := nI 114) dX9_assigned_33 rfl ?_
          refine q_iconst (v := nI 1) dX9_assigned_35 rfl ?_
          refine q_callV (As := [.int (nI 114), .int (nI 1)]) (rest := []) dX9_assigned_36 vX9_225 (ty_c hS (by decide) rfl) ⟨by decide, rfl⟩ (hr ▸ z9_numbered hS) rfl rfl (Nat.le_of_ble_eq_true rfl) (by omega) (by omega) (by omega) (k_p ?_)
          refine q_istore_n dX9_assigned_39 rfl (by decide) (ls' := [(3, .int (-1)), (0, .ref 58), (1, .int (nI n)), (2, .int x2)]) rfl ?_
          refine q_iload_n dX9_assigned_40 rfl rfl ?_
          refine q_if_lt1 (tgt := 89) dX9_assigned_41 (by decide) (by decide) ?_
          refine q_aload_n dX9_assigned_89 rfl rfl rfl ?_
          refine q_iload_n dX9_assigned_90 rfl rfl ?_
          refine q_callV (As := [.int (nI n)]) (rest := []) dX9_assigned_91 vX9_285 (ty_c hS (by decide) rfl) ⟨by decide, rfl⟩ (z9_first (x := .ok k) hS hT ⟨b1, b2⟩ hn) rfl rfl (Nat.le_of_ble_eq_true rfl) (by omega) (by omega) (by omega) (k_v (fun s91 q91 => ?_))
          have S91 : SK s91 := SK.fq q91.2.2 hS
          have t91 := hT.fs q91.2.2 (by omega)
          have u91 : BS s91 T L (.ok v.2.1) := by
            have z : BS s91 T L (pO1 T L k) := q91.1
            rw [pO1_ok hx] at z; exact z
          have v91 := (tkd_7 u91.2.2.2).2 h2.1
          have zS91 : SK s91 := (SK.fq q91.2.2 hS)
          refine q_aload_n dX9_assigned_94 rfl rfl rfl ?_
          refine q_geti (x := nI 0) dX9_assigned_95 fX9_110 rfl (ty_c zS91 (by decide) rfl) u91.1 ?_
          refine q_if_gtN (tgt := 108) dX9_assigned_98 (by decide) (by omega) (fun h => absurd h (by decide)) (fun _ => ?_)
          refine q_aload_n dX9_assigned_101 rfl rfl rfl ?_
          refine q_callV (As := []) (rest := []) dX9_assigned_102 vX9_298 (ty_c zS91 (by decide) rfl) ⟨by decide, rfl⟩ (hd ▸ z9_isOp S91 hT' u91.2) rfl rfl (Nat.le_of_ble_eq_true rfl) (by omega) (by omega) (by omega) (k_p ?_)
          refine q_if_neB (tgt := 109) dX9_assigned_105 (by decide) (fun _ => ?_) (fun h => absurd h (by decide))
          refine q_aload_n dX9_assigned_109 rfl rfl rfl ?_
          refine q_geti (x := nI (tv T L v.2.1)) dX9_assigned_110 fX9_29 rfl (ty_c zS91 (by decide) rfl) v91 ?_
          refine q_istore dX9_assigned_113 (by decide) (ls' := [(4, .int (nI (tv T L v.2.1))), (3, .int (-1)), (0, .ref 58), (1, .int (nI n)), (2, .int x2)]) rfl ?_
          refine q_aload_n dX9_assigned_115 rfl rfl rfl ?_
          refine q_callV (As := []) (rest := []) dX9_assigned_116 vX9_236 (ty_c zS91 (by decide) rfl) ⟨by decide, rfl⟩ (z9_nextM S91 t91 u91.2) rfl rfl (Nat.le_of_ble_eq_true rfl) (by omega) (by omega) (by omega) (k_v (fun s116 q116 => ?_))
          have S116 : SK s116 := SK.x9 q116.1 S91
          have t116 := t91.x9 q116.1
          have zS116 : SK s116 := (SK.x9 q116.1 S91)
          refine q_aload_n dX9_assigned_119 rfl rfl rfl ?_
          refine q_callV (As := []) (rest := []) dX9_assigned_120 vX9_291 (ty_c zS116 (by decide) rfl) ⟨by decide, rfl⟩ (z9_operand (x := .ok (v.2.1 + 1)) S116 t116 ⟨bs_next u91.1 q116.1, q116.2⟩) rfl rfl (Nat.le_of_ble_eq_true rfl) (by omega) (by omega) (by omega) (k_v (fun s120 q120 => ?_))
          have u120 : BS s120 T L (.ok w.2.1) := by
            have z : BS s120 T L (pO1 T L (v.2.1 + 1)) := q120.1
            rw [pO1_ok h3] at z; exact z
          have f120 : FR9 lxb s91 s120 := q116.1.lb.tr q120.2.2
          have w73 : sI s120 73 n = opn v.1 := (lb_k f120 (by omega)).trans (q91.2.1 k v rfl hx).1
          have w74 : sI s120 74 n = opv v.1 := (lb_k f120 (by omega)).trans (q91.2.1 k v rfl hx).2
          have g120 : SMs s91 ss := hs.fq q91.2.2 (by unfold fsq lxb; omega) (fun a i z1 z2 => by unfold fsq lxb; omega)
          have m120 : sI s120 58 38 = bi m := (f120.2.2.2 58 38 (by unfold lxb; omega)).trans ((q91.2.2.2.2.2 58 38 (by unfold fsq lxb; omega)).trans hm)
          have zS120 : SK s120 := (SK.fq q120.2.2 S116)
          refine q_aload_n dX9_assigned_123 rfl rfl rfl ?_
          refine q_geti (x := nI 0) dX9_assigned_124 fX9_110 rfl (ty_c zS120 (by decide) rfl) u120.1 ?_
          refine q_if_neN (tgt := 157) dX9_assigned_127 (by decide) (by omega) (fun h => absurd h (by decide)) (fun _ => ?_)
          refine q_aload_n dX9_assigned_130 rfl rfl rfl ?_
          refine q_iload_n dX9_assigned_131 rfl rfl ?_
          refine q_iload dX9_assigned_132 rfl ?_
          refine q_aload_n dX9_assigned_134 rfl rfl rfl ?_
          refine q_getr (r := 73) dX9_assigned_135 fX9_76 rfl (ty_c zS120 (by decide) rfl) (zS120.2 58 21 73 rfl) ?_
          refine q_iload_n dX9_assigned_138 rfl rfl ?_
          refine q_iald (x := opn v.1) (j := n) dX9_assigned_139 (ty_c zS120 (by decide) rfl) (ix_n (by omega) (by omega)) w73 ?_
          refine q_aload_n dX9_assigned_140 rfl rfl rfl ?_
          refine q_getr (r := 74) dX9_assigned_141 fX9_79 rfl (ty_c zS120 (by decide) rfl) (zS120.2 58 22 74 rfl) ?_
          refine q_iload_n dX9_assigned_144 rfl rfl ?_
          refine q_iald (x := opv v.1) (j := n) dX9_assigned_145 (ty_c zS120 (by decide) rfl) (ix_n (by omega) (by omega)) w74 ?_
          refine q_aload_n dX9_assigned_146 rfl rfl rfl ?_
          refine q_geti (x := opn w.1) dX9_assigned_147 fX9_119 rfl (ty_c zS120 (by decide) rfl) ((q120.2.1 _ w rfl h3).1) ?_
          refine q_aload_n dX9_assigned_150 rfl rfl rfl ?_
          refine q_geti (x := opv w.1) dX9_assigned_151 fX9_122 rfl (ty_c zS120 (by decide) rfl) ((q120.2.1 _ w rfl h3).2) ?_
          refine q_callV (As := [.int (nI n), .int (nI (tv T L v.2.1)), .int (opn v.1), .int (opv v.1), .int (opn w.1), .int (opv w.1)]) (rest := []) dX9_assigned_154 vX9_294 (ty_c zS120 (by decide) rfl) ⟨by decide, rfl⟩ (z9_summedO (σ := s120) (SK.fq q120.2.2 S116) (g120.lb f120) m120 hl hw hn (isO_op h2.2) (pOp_o hT' hx) (pOp_o hT' h3)) rfl rfl (Nat.le_of_ble_eq_true rfl) (by omega) (by omega) (by omega) (k_v (fun s154 q154 => ?_))
          refine q_return dX9_assigned_157 rfl (by omega) (by omega) ?_
          exact hQ _ (vlS (opK2 h4 hx h2 h3) rfl u120 ((q91.2.2.mono fun _ _ => fs_vl).tr f120.vl) q154)
      · have hd : decide (tk T L v.2.1 = 7 ∧ isOpB (tv T L v.2.1) = true) = false := decide_eq_false h2
        refine q_aload_n dX9_assigned_32 rfl rfl rfl ?_
        refine q_bipush (v := nI 114) dX9_assigned_33 rfl ?_
        refine q_iconst (v := nI 1) dX9_assigned_35 rfl ?_
        refine q_callV (As := [.int (nI 114), .int (nI 1)]) (rest := []) dX9_assigned_36 vX9_225 (ty_c hS (by decide) rfl) ⟨by decide, rfl⟩ (hr ▸ z9_numbered hS) rfl rfl (Nat.le_of_ble_eq_true rfl) (by omega) (by omega) (by omega) (k_p ?_)
        refine q_istore_n dX9_assigned_39 rfl (by decide) (ls' := [(3, .int (-1)), (0, .ref 58), (1, .int (nI n)), (2, .int x2)]) rfl ?_
        refine q_iload_n dX9_assigned_40 rfl rfl ?_
        refine q_if_lt1 (tgt := 89) dX9_assigned_41 (by decide) (by decide) ?_
        refine q_aload_n dX9_assigned_89 rfl rfl rfl ?_
        refine q_iload_n dX9_assigned_90 rfl rfl ?_
        refine q_callV (As := [.int (nI n)]) (rest := []) dX9_assigned_91 vX9_285 (ty_c hS (by decide) rfl) ⟨by decide, rfl⟩ (z9_first (x := .ok k) hS hT ⟨b1, b2⟩ hn) rfl rfl (Nat.le_of_ble_eq_true rfl) (by omega) (by omega) (by omega) (k_v (fun s91 q91 => ?_))
        have S91 : SK s91 := SK.fq q91.2.2 hS
        have u91 : BS s91 T L (.ok v.2.1) := by
          have z : BS s91 T L (pO1 T L k) := q91.1
          rw [pO1_ok hx] at z; exact z
        have zS91 : SK s91 := (SK.fq q91.2.2 hS)
        refine q_aload_n dX9_assigned_94 rfl rfl rfl ?_
        refine q_geti (x := nI 0) dX9_assigned_95 fX9_110 rfl (ty_c zS91 (by decide) rfl) u91.1 ?_
        refine q_if_gtN (tgt := 108) dX9_assigned_98 (by decide) (by omega) (fun h => absurd h (by decide)) (fun _ => ?_)
        refine q_aload_n dX9_assigned_101 rfl rfl rfl ?_
        refine q_callV (As := []) (rest := []) dX9_assigned_102 vX9_298 (ty_c zS91 (by decide) rfl) ⟨by decide, rfl⟩ (hd ▸ z9_isOp S91 hT' u91.2) rfl rfl (Nat.le_of_ble_eq_true rfl) (by omega) (by omega) (by omega) (k_p ?_)
        refine q_if_neB (tgt := 109) dX9_assigned_105 (by decide) (fun h => absurd h (by decide)) (fun _ => ?_)
        refine q_return dX9_assigned_108 rfl (by omega) (by omega) ?_
        refine hQ _ ⟨?_, fun v' hv' => ?_, q91.2.2.mono fun _ _ => fs_vl⟩
        · rw [opN h4 hx h2]; exact u91
        · rw [opN h4 hx h2] at hv'; cases hv'
          have r := q91.2.1 k v rfl hx
          exact ⟨(fs_k q91.2.2 (by omega)).trans h67, (fs_k q91.2.2 (by omega)).trans h70, r.1, r.2, hs.fq q91.2.2 (by unfold fsq lxb; omega) (fun a i z1 z2 => by unfold fsq lxb; omega), (q91.2.2.2.2.2 58 38 (by unfold fsq lxb; omega)).trans hm⟩
def AsR (σ' : HS) (T : Nat → Nat) (L n b : Nat) (l : List (Nat × Nat)) (ss : List SUM) (m : Bool) (s : ST0) : Prop := ND σ' n (rcN T L b s (-1)) ∧ NL σ' l ∧ match s.2.2.2.2.1 with
  | none => sI σ' 70 n = -1 ∧ SMs σ' ss ∧ sI σ' 58 38 = bi m
  | some x => ((nSum ss x).2.2 = false → sI σ' 70 n = (nSum ss x).1) ∧ SMs σ' (nSum ss x).2.1 ∧ sI σ' 58 38 = bi (m || (nSum ss x).2.2)
def AsQ (σ : HS) (T : Nat → Nat) (L n b : Nat) (l : List (Nat × Nat)) (ss : List SUM) (m : Bool) (kd k : Nat) : HS → Prop := fun σ' => BS σ' T L ((pSt T L kd k).bind fun s => .ok s.2.1) ∧ (∀ s, pSt T L kd k = .ok s → AsR σ' T L n b l ss m s.1) ∧ FR9 (smq n) σ σ'
theorem asF {τ a υ : HS} {nm : Int32} (hnm : nm = nI (tv T L k)) (hK : BLK σ n b) (hN : NL σ l) {k1 : Nat} (h1 : pSg T L 61 (k + 1) = .ok k1) (f : LX9 (uI (uI σ 67 n (nI 1)) 69 n nm) τ) (f1 : FR9 tkq τ a) (q : VlQ a T L n k1 ss m υ) : AsQ σ T L n b l ss m 1 k υ := by
  obtain ⟨k1', k2', k3', k4', k5'⟩ := hK
  obtain ⟨q1, q2, q3⟩ := q
  have fl : FR9 lxb (uI (uI σ 67 n (nI 1)) 69 n nm) a := f.lb.tr f1.t2l
  have e : pSt T L 1 k = (pSg T L 61 (k + 1)).bind fun k1 => (pVl T L k1).bind fun v => .ok (((if v.2.2.1.isSome then 0 else 1), nI (tv T L k), v.1, v.2.1, v.2.2.1, 0, 0), v.2.2.2.1, decide (16 ≤ tv T L k) || v.2.2.2.2) := rfl
  refine ⟨?_, fun s hs => ?_, ?_⟩
  · rw [e, h1]
    show BS υ T L (((pVl T L k1).bind _).bind _)
    cases h2 : pVl T L k1 with
    | error z => rw [h2] at q1; exact q1
    | ok v => rw [h2] at q1; exact q1
  · rw [e, h1] at hs
    obtain ⟨v, h2, hs⟩ := exb (x := pVl T L k1) hs
    cases hs
    have r := q2 v h2
    have v_k : ∀ h i, h ≠ 58 → h ≠ 67 → h ≠ 70 → h ≠ 73 → h ≠ 74 → h < 78 → h ≠ 64 → sI υ h i = sI a h i := fun h i z1 z2 z3 z4 z5 z6 z7 => q3.2.2.2 h i (by unfold vlq lxb; omega)
    have nl : NL υ l := (((hN.off (by omega)).off (by omega)).lb fl).fq q3 (by unfold vlq lxb; omega) (fun i => by unfold vlq lxb; omega)
    have n68 : sI υ 68 n = nI b := by rw [v_k _ _ (by omega) (by omega) (by omega) (by omega) (by omega) (by omega) (by omega), lb_k fl (by omega), rd_off (by omega), rd_off (by omega)]; exact k1'
    have n69 : sI υ 69 n = nI (tv T L k) := by rw [v_k _ _ (by omega) (by omega) (by omega) (by omega) (by omega) (by omega) (by omega), lb_k fl (by omega), uI_self, hnm]
    have n71 : sI υ 71 n = -1 := by rw [v_k _ _ (by omega) (by omega) (by omega) (by omega) (by omega) (by omega) (by omega), lb_k fl (by omega), rd_off (by omega), rd_off (by omega)]; exact k4'
    have n72 : sI υ 72 n = -1 := by rw [v_k _ _ (by omega) (by omega) (by omega) (by omega) (by omega) (by omega) (by omega), lb_k fl (by omega), rd_off (by omega), rd_off (by omega)]; exact k5'
    obtain ⟨o0, o1, sm, k2, t⟩ := v
    cases sm with
    | none =>
      obtain ⟨r1, r2, r3, r4, r5, r6⟩ := r
      exact ⟨⟨r1, n68, n69, n71, n72, fun _ => ⟨r3, r4⟩, fun z => absurd z (by show ¬ (1 = 2 ∨ 1 = 5); omega), fun z => absurd z (by show ¬ (1 = 2); omega)⟩, nl, r2, r5, r6⟩
    | some x =>
      obtain ⟨r1, r2, r3, r4⟩ := r
      exact ⟨⟨r1, n68, n69, n71, n72, fun z => absurd z (by show ¬ (0 = 1 ∨ 0 = 2 ∨ 0 = 3 ∨ 0 = 5); omega), fun z => absurd z (by show ¬ (0 = 2 ∨ 0 = 5); omega), fun z => absurd z (by show ¬ (0 = 2); omega)⟩, nl, r2, r3, r4⟩
  · exact (((FR9.rf.uI (by unfold smq ndq; omega)).uI (by unfold smq ndq; omega)).tr (fl.mono fun _ _ z => smq.nd (ndq.lb z))).tr (q3.mono fun h i z => by
      rcases z with z | z
      · exact smq.nd (ndq.lb z)
      · unfold smq ndq; omega)
theorem asE {τ a : HS} {nm : Int32} {e : Nat × Nat} (h1 : pSg T L 61 (k + 1) = .error e) (f : LX9 (uI (uI σ 67 n (nI 1)) 69 n nm) τ) (f1 : FR9 tkq τ a) (hB : BS a T L (.error e)) : AsQ σ T L n b l ss m 1 k a := by
  have e : pSt T L 1 k = (pSg T L 61 (k + 1)).bind fun k1 => (pVl T L k1).bind fun v => .ok (((if v.2.2.1.isSome then 0 else 1), nI (tv T L k), v.1, v.2.1, v.2.2.1, 0, 0), v.2.2.2.1, decide (16 ≤ tv T L k) || v.2.2.2.2) := rfl
  refine ⟨?_, fun s hs => ?_, ((FR9.rf.uI (by unfold smq ndq; omega)).uI (by unfold smq ndq; omega)).tr ((f.lb.tr f1.t2l).mono fun _ _ z => smq.nd (ndq.lb z))⟩
  · rw [e, h1]; exact hB
  · rw [e, h1] at hs; cases hs
theorem z9_assigned (hS : SK σ) (hT : MTX σ L T) (hB : BS σ T L (.ok k)) (hK : BLK σ n b) (hN : NL σ l) (hs : SMs σ ss) (hm : sI σ 58 38 = bi m) (hl : ss.length ≤ 32) (hw : ∀ y ∈ ss, SMW y) (hn : n < 1200) {nm : Int32} (hnm : nm = nI (tv T L k)) : CT g mX9_assigned 5 0 0 [.ref 58, .int (nI n), .int nm] σ (fun r σ' => r = none ∧ AsQ σ T L n b l ss m 1 k σ') := by
  obtain ⟨b1, b2⟩ := hB
  cases hx : pSg T L 61 (k + 1) with
  | error e =>
    refine CT.of (by decide) (Nat.le_of_ble_eq_true rfl) ?_
    refine q_aload_n dX9_assigned_0 rfl rfl rfl ?_
    refine q_getr (r := 67) dX9_assigned_1 fX9_58 rfl (ty_c hS (by decide) rfl) (hS.2 58 15 67 rfl) ?_
    refine q_iload_n dX9_assigned_4 rfl rfl ?_
    refine q_iconst (v := nI 1) dX9_assigned_5 rfl ?_
    refine q_iast (j := n) dX9_assigned_6 (ty_c hS (by decide) rfl) (ix_n (by omega) (by omega)) ?_
    refine q_aload_n dX9_assigned_7 rfl rfl rfl ?_
    refine q_getr (r := 69) dX9_assigned_8 fX9_64 rfl (ty_c hS (by decide) rfl) (hS.2 58 17 69 rfl) ?_
    refine q_iload_n dX9_assigned_11 rfl rfl ?_
    refine q_iload_n dX9_assigned_12 rfl rfl ?_
    refine q_iast (j := n) dX9_assigned_13 (ty_c hS (by decide) rfl) (ix_n (by omega) (by omega)) ?_
    refine q_aload_n dX9_assigned_14 rfl rfl rfl ?_
    refine q_callV (As := []) (rest := []) dX9_assigned_15 vX9_236 (ty_c hS (by decide) rfl) ⟨by decide, rfl⟩ (z9_nextM (σ := (uI (uI σ 67 n (nI 1)) 69 n nm)) hS ((hT.off (by omega)).off (by omega)) ((b2.off (by omega)).off (by omega))) rfl rfl (Nat.le_of_ble_eq_true rfl) (by omega) (by omega) (by omega) (k_v (fun s15 q15 => ?_))
    have S15 : SK s15 := SK.x9 q15.1 hS
    have t15 := ((hT.off (h := 67) (i := n) (v := nI 1) (by omega)).off (h := 69) (i := n) (v := nm) (by omega)).x9 q15.1
    have zS15 : SK s15 := (SK.x9 q15.1 hS)
    refine q_aload_n dX9_assigned_18 rfl rfl rfl ?_
    refine q_bipush (v := nI 61) dX9_assigned_19 rfl ?_
    refine q_callV (As := [.int (nI 61)]) (rest := []) dX9_assigned_21 vX9_279 (ty_c zS15 (by decide) rfl) ⟨by decide, rfl⟩ (z9_takeT (x := .ok (k + 1)) S15 t15 ⟨bs_next ((rd_off (by omega)).trans ((rd_off (by omega)).trans b1)) q15.1, q15.2⟩ (by omega)) rfl rfl (Nat.le_of_ble_eq_true rfl) (by omega) (by omega) (by omega) (k_v (fun s21 q21 => ?_))
    have u21 : BS s21 T L (.error e) := by
      have z : BS s21 T L (pSg T L 61 (k + 1)) := q21.1
      rw [hx] at z; exact z
    have u21b := u21.2.1
    have zS21 : SK s21 := (SK.fq q21.2 S15)
    refine q_aload_n dX9_assigned_24 rfl rfl rfl ?_
    refine q_geti (x := nI e.1) dX9_assigned_25 fX9_110 rfl (ty_c zS21 (by decide) rfl) u21.1 ?_
    refine q_if_leN (tgt := 32) dX9_assigned_28 (by decide) (by omega) (fun c28 => ?_) (fun c28 => ?_)
    · exact absurd c28 (by omega)
    · skip
      refine q_return dX9_assigned_31 rfl (by omega) (by omega) ?_
      exact ⟨rfl, asE hx q15.1 q21.2 u21⟩
  | ok k1 =>
    refine CT.of (by decide) (Nat.le_of_ble_eq_true rfl) ?_
    refine q_aload_n dX9_assigned_0 rfl rfl rfl ?_
    refine q_getr (r := 67) dX9_assigned_1 fX9_58 rfl (ty_c hS (by decide) rfl) (hS.2 58 15 67 rfl) ?_
    refine q_iload_n dX9_assigned_4 rfl rfl ?_
    refine q_iconst (v := nI 1) dX9_assigned_5 rfl ?_
    refine q_iast (j := n) dX9_assigned_6 (ty_c hS (by decide) rfl) (ix_n (by omega) (by omega)) ?_
    refine q_aload_n dX9_assigned_7 rfl rfl rfl ?_
    refine q_getr (r := 69) dX9_assigned_8 fX9_64 rfl (ty_c hS (by decide) rfl) (hS.2 58 17 69 rfl) ?_
    refine q_iload_n dX9_assigned_11 rfl rfl ?_
    refine q_iload_n dX9_assigned_12 rfl rfl ?_
    refine q_iast (j := n) dX9_assigned_13 (ty_c hS (by decide) rfl) (ix_n (by omega) (by omega)) ?_
    refine q_aload_n dX9_assigned_14 rfl rfl rfl ?_
    refine q_callV (As := []) (rest := []) dX9_assigned_15 vX9_236 (ty_c hS (by decide) rfl) ⟨by decide, rfl⟩ (z9_nextM (σ := (uI (uI σ 67 n (nI 1)) 69 n nm)) hS ((hT.off (by omega)).off (by omega)) ((b2.off (by omega)).off (by omega))) rfl rfl (Nat.le_of_ble_eq_true rfl) (by omega) (by omega) (by omega) (k_v (fun s15 q15 => ?_))
    have S15 : SK s15 := SK.x9 q15.1 hS
    have t15 := ((hT.off (h := 67) (i := n) (v := nI 1) (by omega)).off (h := 69) (i := n) (v := nm) (by omega)).x9 q15.1
    have zS15 : SK s15 := (SK.x9 q15.1 hS)
    refine q_aload_n dX9_assigned_18 rfl rfl rfl ?_
    refine q_bipush (v := nI 61) dX9_assigned_19 rfl ?_
    refine q_callV (As := [.int (nI 61)]) (rest := []) dX9_assigned_21 vX9_279 (ty_c zS15 (by decide) rfl) ⟨by decide, rfl⟩ (z9_takeT (x := .ok (k + 1)) S15 t15 ⟨bs_next ((rd_off (by omega)).trans ((rd_off (by omega)).trans b1)) q15.1, q15.2⟩ (by omega)) rfl rfl (Nat.le_of_ble_eq_true rfl) (by omega) (by omega) (by omega) (k_v (fun s21 q21 => ?_))
    have u21 : BS s21 T L (.ok k1) := by
      have z : BS s21 T L (pSg T L 61 (k + 1)) := q21.1
      rw [hx] at z; exact z
    have fl : FR9 lxb (uI (uI σ 67 n (nI 1)) 69 n nm) s21 := q15.1.lb.tr q21.2.t2l
    have zS21 : SK s21 := (SK.fq q21.2 S15)
    refine q_aload_n dX9_assigned_24 rfl rfl rfl ?_
    refine q_geti (x := nI 0) dX9_assigned_25 fX9_110 rfl (ty_c zS21 (by decide) rfl) u21.1 ?_
    refine q_if_leN (tgt := 32) dX9_assigned_28 (by decide) (by omega) (fun _ => ?_) (fun h => absurd h (by decide))
    exact y9_asg32 (SK.fq q21.2 S15) (t15.lb q21.2.t2l) u21.1 u21.2 ((lb_k fl (by omega)).trans ((rd_off (by omega)).trans uI_self)) ((lb_k fl (by omega)).trans ((rd_off (by omega)).trans ((rd_off (by omega)).trans hK.2.2.1))) (((hs.off (by omega)).off (by omega)).lb fl) ((fl.2.2.2 58 38 (by unfold lxb; omega)).trans ((rd_off (by omega)).trans ((rd_off (by omega)).trans hm))) hl hw hn (fun υ hυ => ⟨rfl, asF hnm hK hN hx q15.1 q21.2 hυ⟩)
end MAS
