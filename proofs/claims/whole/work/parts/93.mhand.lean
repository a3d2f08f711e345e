/-! The model's parser: the statements but the assignments. -/
/-- NODE n of the model holds r (but its SUM) -/
def ND (σ : HS) (n : Nat) (r : REC) : Prop := sI σ 67 n = nI (rK r) ∧ sI σ 68 n = nI (rB r) ∧ sI σ 69 n = (if rK r ≤ 1 then rT r else -1) ∧ sI σ 71 n = rW0 r ∧ sI σ 72 n = rW1 r ∧ ((rK r = 1 ∨ rK r = 2 ∨ rK r = 3 ∨ rK r = 5) → sI σ 73 n = opn (rO0 r) ∧ sI σ 74 n = opv (rO0 r)) ∧ ((rK r = 2 ∨ rK r = 5) → sI σ 75 n = opn (rO1 r) ∧ sI σ 76 n = opv (rO1 r)) ∧ (rK r = 2 → sI σ 77 n = rT r)
def BLK (σ : HS) (n b : Nat) : Prop := sI σ 68 n = nI b ∧ sI σ 69 n = -1 ∧ sI σ 70 n = -1 ∧ sI σ 71 n = -1 ∧ sI σ 72 n = -1
def rcN (T : Nat → Nat) (L b : Nat) (s : ST0) (sn : Int32) : REC := (s.1, b, s.2.1, s.2.2.1, s.2.2.2.1, sn, wyV T L s.2.2.2.2.2.1, wyV T L s.2.2.2.2.2.2, ts T L s.2.2.2.2.2.1, ts T L s.2.2.2.2.2.2)
def nm1 (T : Nat → Nat) (L w : Nat) : List (Nat × Nat) := if w = 0 then [] else [(ts T L w, tv T L w)]
def nmT9 (T : Nat → Nat) (L : Nat) (s : ST0) : List (Nat × Nat) := nm1 T L s.2.2.2.2.2.1 ++ nm1 T L s.2.2.2.2.2.2
def HdQ (σ : HS) (T : Nat → Nat) (L n b : Nat) (l : List (Nat × Nat)) (kd k : Nat) : HS → Prop := fun σ' => BS σ' T L ((pSt T L kd k).bind fun s => .ok s.2.1) ∧ (∀ s, pSt T L kd k = .ok s → ND σ' n (rcN T L b s.1 (-1)) ∧ sI σ' 70 n = -1 ∧ NL σ' (l ++ nmT9 T L s.1)) ∧ FR9 (ndq n) σ σ'
theorem lb_k {σ σ' : HS} {h i : Nat} (f : FR9 lxb σ σ') (hh : h ≠ 58) : sI σ' h i = sI σ h i := f.2.2.2 h i (by unfold lxb; omega)
theorem bl_k {σ σ' : HS} {h i : Nat} (f : FR9 blq σ σ') (hh : h ≠ 58 ∧ h ≠ 84 ∧ h ≠ 85) : sI σ' h i = sI σ h i := f.2.2.2 h i (by unfold blq lxb; omega)
theorem fs_k {σ σ' : HS} {h0 n h i : Nat} (f : FR9 (fsq h0 n) σ σ') (hh : h ≠ 58 ∧ h ≠ h0 ∧ h ≠ h0 + 1) : sI σ' h i = sI σ h i := f.2.2.2 h i (by unfold fsq lxb; omega)
theorem fs_nd {h0 n h i : Nat} (hh : 67 ≤ h0 ∧ h0 ≤ 76) (k : fsq h0 n h i) : ndq n h i := by
  rcases k with k | ⟨k1, k2⟩
  · exact ndq.lb k
  · exact Or.inr ⟨by omega, by omega, k2⟩
theorem MTX.fs {σ σ' : HS} {L h0 n : Nat} {T : Nat → Nat} (h : FR9 (fsq h0 n) σ σ') (hh : 67 ≤ h0) (k : MTX σ L T) : MTX σ' L T := k.fq h (by unfold fsq lxb; omega) (fun i => by unfold fsq lxb; omega)
theorem MTX.off {h i : Nat} {v : Int32} {σ : HS} {L : Nat} {T : Nat → Nat} (hh : h ≠ 58 ∧ h ≠ 59) (k : MTX σ L T) : MTX (uI σ h i v) L T := ⟨(rd_off (by omega)).trans k.1, k.2.1, fun j hj => ⟨(rd_off (by omega)).trans (k.2.2 j hj).1, (k.2.2 j hj).2⟩⟩
theorem exb {α β : Type} {x : PR α} {f : α → PR β} {y : β} (h : x.bind f = .ok y) : ∃ a, x = .ok a ∧ f a = .ok y := by
  cases x with
  | error e => cases h
  | ok a => exact ⟨a, rfl, h⟩
theorem pOp_gt {T : Nat → Nat} {L k : Nat} {v : Int32 × Nat × Bool} (h : pOp T L k = .ok v) : k < v.2.1 := by
  obtain ⟨o, k2, t⟩ := v
  rcases pOp_ok h with h | h | h
  · show k < k2; omega
  · show k < k2; omega
  · show k < k2; omega
theorem pWy_gt {T : Nat → Nat} {L k k2 : Nat} (h : pWy T L k = .ok k2) : k < k2 := by have := (pWy_ok h).2; omega
theorem pO1_ok {T : Nat → Nat} {L k : Nat} {v : Int32 × Nat × Bool} (h : pOp T L k = .ok v) : pO1 T L k = .ok v.2.1 := by unfold pO1; rw [h]; rfl
theorem pO1_er {T : Nat → Nat} {L k : Nat} {e : Nat × Nat} (h : pOp T L k = .error e) : pO1 T L k = .error e := by unfold pO1; rw [h]; rfl
section MHD
variable {g : GG} {σ : HS} {T : Nat → Nat} {L k n b : Nat} {l : List (Nat × Nat)}
theorem leF {τ : HS} (hK : BLK σ n b) (hN : NL σ l) (hb : sI σ 58 32 = nI 0) (f : LX9 (uI σ 67 n (nI 6)) τ) (hm : MTk τ T L (k + 1)) : HdQ σ T L n b l 6 k τ := by
  obtain ⟨k1, k2, k3, k4, k5⟩ := hK
  have e : pSt T L 6 k = .ok ((6, -1, nI 0, nI 0, none, 0, 0), k + 1, false) := rfl
  have fr : FR9 (ndq n) σ τ := (FR9.rf.uI (by unfold ndq; omega)).tr (f.lb.mono fun _ _ z => ndq.lb z)
  refine ⟨?_, fun s hs => ?_, fr⟩
  · rw [e]; exact ⟨bs_next ((rd_off (by omega)).trans hb) f, hm⟩
  · rw [e] at hs; cases hs
    refine ⟨⟨(lb_k f.lb (by omega)).trans uI_self, ?_, ?_, ?_, ?_, fun z => ?_, fun z => ?_, fun z => ?_⟩, ?_, ?_⟩
    · rw [lb_k f.lb (by omega), rd_off (by omega)]; exact k1
    · rw [lb_k f.lb (by omega), rd_off (by omega)]; exact k2
    · rw [lb_k f.lb (by omega), rd_off (by omega)]; exact k4
    · rw [lb_k f.lb (by omega), rd_off (by omega)]; exact k5
    · exact absurd z (by show ¬ (6 = 1 ∨ 6 = 2 ∨ 6 = 3 ∨ 6 = 5); omega)
    · exact absurd z (by show ¬ (6 = 2 ∨ 6 = 5); omega)
    · exact absurd z (by show ¬ (6 = 2); omega)
    · rw [lb_k f.lb (by omega), rd_off (by omega)]; exact k3
    · show NL τ (l ++ [])
      rw [List.append_nil]; exact (hN.off (by omega)).lb f.lb
theorem z9_leave (hS : SK σ) (hT : MTX σ L T) (hB : BS σ T L (.ok k)) (hK : BLK σ n b) (hN : NL σ l) (hn : n < 1200) : CT g mX9_leave 3 0 0 [.ref 58, .int (nI n)] σ (fun r σ' => r = none ∧ HdQ σ T L n b l 6 k σ') := by
  obtain ⟨b1, b2⟩ := hB
  refine CT.of (by decide) (Nat.le_of_ble_eq_true rfl) ?_
  refine q_aload_n dX9_leave_0 rfl rfl rfl ?_
  refine q_getr (r := 67) dX9_leave_1 fX9_58 rfl (ty_c hS (by decide) rfl) (hS.2 58 15 67 rfl) ?_
  refine q_iload_n dX9_leave_4 rfl rfl ?_
  refine q_bipush (v := nI 6) dX9_leave_5 rfl ?_
  refine q_iast (j := n) dX9_leave_7 (ty_c hS (by decide) rfl) (ix_n (by omega) (by omega)) ?_
  refine q_aload_n dX9_leave_8 rfl rfl rfl ?_
  refine q_callV (As := []) (rest := []) dX9_leave_9 vX9_236 (ty_c hS (by decide) rfl) ⟨by decide, rfl⟩ (z9_nextM (σ := (uI σ 67 n (nI 6))) hS (hT.off (by omega)) (b2.off (by omega))) rfl rfl (Nat.le_of_ble_eq_true rfl) (by omega) (by omega) (by omega) (k_v (fun s9 q9 => ?_))
  refine q_return dX9_leave_12 rfl (by omega) (by omega) ?_
  exact ⟨rfl, leF hK hN b1 q9.1 q9.2⟩
theorem goF {τ υ : HS} {x : Int32} (hK : BLK σ n b) (f : LX9 (uI σ 67 n (nI 4)) τ) (q : BkQ τ T L (.ok (k + 1)) l x υ) : HdQ σ T L n b l 4 k (uI υ 71 n x) := by
  obtain ⟨k1, k2, k3, k4, k5⟩ := hK
  obtain ⟨q1, q2, q3⟩ := q
  have fr : FR9 (ndq n) σ (uI υ 71 n x) := (((FR9.rf.uI (by unfold ndq; omega)).tr (f.lb.mono fun _ _ z => ndq.lb z)).tr (q3.mono fun _ _ z => ndq.bl z)).uI (by unfold ndq; omega)
  have e : pSt T L 4 k = (pWy T L (k + 1)).bind fun k1 => .ok ((4, -1, nI 0, nI 0, none, k + 1, 0), k1, false) := rfl
  refine ⟨?_, fun s hs => ?_, fr⟩
  · rw [e]
    have q1 : BS υ T L (pWy T L (k + 1)) := q1
    cases h : pWy T L (k + 1) with
    | error e => rw [h] at q1; exact q1.off (by omega)
    | ok k2 => rw [h] at q1; exact q1.off (by omega)
  · rw [e] at hs
    obtain ⟨k2', h1, h2⟩ := exb hs
    cases h2
    obtain ⟨r1, r2⟩ := q2 _ _ rfl h1
    have w0 : wyV T L (k + 1) = nI (tv T L (k + 1)) := if_neg (by omega)
    refine ⟨⟨?_, ?_, ?_, ?_, ?_, fun z => ?_, fun z => ?_, fun z => ?_⟩, ?_, ?_⟩
    · rw [rd_off (by omega), bl_k q3 (by omega), lb_k f.lb (by omega)]; exact uI_self
    · rw [rd_off (by omega), bl_k q3 (by omega), lb_k f.lb (by omega), rd_off (by omega)]; exact k1
    · rw [rd_off (by omega), bl_k q3 (by omega), lb_k f.lb (by omega), rd_off (by omega)]; exact k2
    · rw [uI_self, r1]; exact w0.symm
    · rw [rd_off (by omega), bl_k q3 (by omega), lb_k f.lb (by omega), rd_off (by omega)]; exact k5
    · exact absurd z (by show ¬ (4 = 1 ∨ 4 = 2 ∨ 4 = 3 ∨ 4 = 5); omega)
    · exact absurd z (by show ¬ (4 = 2 ∨ 4 = 5); omega)
    · exact absurd z (by show ¬ (4 = 2); omega)
    · rw [rd_off (by omega), bl_k q3 (by omega), lb_k f.lb (by omega), rd_off (by omega)]; exact k3
    · exact r2.off (by omega)
theorem z9_go (hS : SK σ) (hT : MTX σ L T) (hB : BS σ T L (.ok k)) (hK : BLK σ n b) (hN : NL σ l) (hl : l.length < 200) (hn : n < 1200) : CT g mX9_go 4 0 0 [.ref 58, .int (nI n)] σ (fun r σ' => r = none ∧ HdQ σ T L n b l 4 k σ') := by
  obtain ⟨b1, b2⟩ := hB
  refine CT.of (by decide) (Nat.le_of_ble_eq_true rfl) ?_
  refine q_aload_n dX9_go_0 rfl rfl rfl ?_
  refine q_getr (r := 67) dX9_go_1 fX9_58 rfl (ty_c hS (by decide) rfl) (hS.2 58 15 67 rfl) ?_
  refine q_iload_n dX9_go_4 rfl rfl ?_
  refine q_iconst (v := nI 4) dX9_go_5 rfl ?_
  refine q_iast (j := n) dX9_go_6 (ty_c hS (by decide) rfl) (ix_n (by omega) (by omega)) ?_
  refine q_aload_n dX9_go_7 rfl rfl rfl ?_
  refine q_callV (As := []) (rest := []) dX9_go_8 vX9_236 (ty_c hS (by decide) rfl) ⟨by decide, rfl⟩ (z9_nextM (σ := (uI σ 67 n (nI 4))) hS (hT.off (by omega)) (b2.off (by omega))) rfl rfl (Nat.le_of_ble_eq_true rfl) (by omega) (by omega) (by omega) (k_v (fun s8 q8 => ?_))
  have zS8 : SK s8 := (SK.x9 q8.1 hS)
  refine q_aload_n dX9_go_11 rfl rfl rfl ?_
  refine q_getr (r := 71) dX9_go_12 fX9_70 rfl (ty_c zS8 (by decide) rfl) (zS8.2 58 19 71 rfl) ?_
  refine q_iload_n dX9_go_15 rfl rfl ?_
  refine q_aload_n dX9_go_16 rfl rfl rfl ?_
  refine q_callV (As := []) (rest := [.int (nI n), .ref 71]) dX9_go_17 vX9_282 (ty_c zS8 (by decide) rfl) ⟨by decide, rfl⟩ (z9_block (x := .ok (k + 1)) zS8 ((hT.off (by omega)).x9 q8.1) ⟨bs_next ((rd_off (by omega)).trans b1) q8.1, q8.2⟩ hl (fun _ _ => (hN.off (by omega)).lb q8.1.lb)) rfl rfl (Nat.le_of_ble_eq_true rfl) (by omega) (by omega) (by omega) (k_i (fun x17 s17 q17 => ?_))
  have zS17 : SK s17 := (SK.fq q17.2.2 (SK.x9 q8.1 hS))
  refine q_iast (j := n) dX9_go_20 (ty_c zS17 (by decide) rfl) (ix_n (by omega) (by omega)) ?_
  refine q_return dX9_go_21 rfl (by omega) (by omega) ?_
  exact ⟨rfl, goF hK q8.1 q17⟩
theorem teF {τ υ : HS} (hK : BLK σ n b) (hN : NL σ l) (f : LX9 (uI σ 67 n (nI 3)) τ) (q : FsQ 73 n τ T L (.ok (k + 1)) υ) : HdQ σ T L n b l 3 k υ := by
  obtain ⟨k1, k2, k3, k4, k5⟩ := hK
  obtain ⟨q1, q2, q3⟩ := q
  have fr : FR9 (ndq n) σ υ := ((FR9.rf.uI (by unfold ndq; omega)).tr (f.lb.mono fun _ _ z => ndq.lb z)).tr (q3.mono fun _ _ z => fs_nd (by omega) z)
  have e : pSt T L 3 k = (pOp T L (k + 1)).bind fun q => .ok ((3, -1, q.1, nI 0, none, 0, 0), q.2.1, q.2.2) := rfl
  refine ⟨?_, fun s hs => ?_, fr⟩
  · rw [e]
    have q1 : BS υ T L (pO1 T L (k + 1)) := q1
    cases h : pOp T L (k + 1) with
    | error e => rw [pO1_er h] at q1; exact q1
    | ok v => rw [pO1_ok h] at q1; exact q1
  · rw [e] at hs
    obtain ⟨v, h1, h2⟩ := exb hs
    cases h2
    obtain ⟨r1, r2⟩ := q2 _ _ rfl h1
    refine ⟨⟨?_, ?_, ?_, ?_, ?_, fun z => ⟨r1, r2⟩, fun z => ?_, fun z => ?_⟩, ?_, ?_⟩
    · rw [fs_k q3 (by omega), lb_k f.lb (by omega)]; exact uI_self
    · rw [fs_k q3 (by omega), lb_k f.lb (by omega), rd_off (by omega)]; exact k1
    · rw [fs_k q3 (by omega), lb_k f.lb (by omega), rd_off (by omega)]; exact k2
    · rw [fs_k q3 (by omega), lb_k f.lb (by omega), rd_off (by omega)]; exact k4
    · rw [fs_k q3 (by omega), lb_k f.lb (by omega), rd_off (by omega)]; exact k5
    · exact absurd z (by show ¬ (3 = 2 ∨ 3 = 5); omega)
    · exact absurd z (by show ¬ (3 = 2); omega)
    · rw [fs_k q3 (by omega), lb_k f.lb (by omega), rd_off (by omega)]; exact k3
    · show NL υ (l ++ [])
      rw [List.append_nil]; exact ((hN.off (by omega)).lb f.lb).fs q3 (by omega)
theorem z9_tell (hS : SK σ) (hT : MTX σ L T) (hB : BS σ T L (.ok k)) (hK : BLK σ n b) (hN : NL σ l) (hn : n < 1200) : CT g mX9_tell 5 0 0 [.ref 58, .int (nI n)] σ (fun r σ' => r = none ∧ HdQ σ T L n b l 3 k σ') := by
  obtain ⟨b1, b2⟩ := hB
  refine CT.of (by decide) (Nat.le_of_ble_eq_true rfl) ?_
  refine q_aload_n dX9_tell_0 rfl rfl rfl ?_
  refine q_getr (r := 67) dX9_tell_1 fX9_58 rfl (ty_c hS (by decide) rfl) (hS.2 58 15 67 rfl) ?_
  refine q_iload_n dX9_tell_4 rfl rfl ?_
  refine q_iconst (v := nI 3) dX9_tell_5 rfl ?_
  refine q_iast (j := n) dX9_tell_6 (ty_c hS (by decide) rfl) (ix_n (by omega) (by omega)) ?_
  refine q_aload_n dX9_tell_7 rfl rfl rfl ?_
  refine q_callV (As := []) (rest := []) dX9_tell_8 vX9_236 (ty_c hS (by decide) rfl) ⟨by decide, rfl⟩ (z9_nextM (σ := (uI σ 67 n (nI 3))) hS (hT.off (by omega)) (b2.off (by omega))) rfl rfl (Nat.le_of_ble_eq_true rfl) (by omega) (by omega) (by omega) (k_v (fun s8 q8 => ?_))
  have zS8 : SK s8 := (SK.x9 q8.1 hS)
  refine q_aload_n dX9_tell_11 rfl rfl rfl ?_
  refine q_iload_n dX9_tell_12 rfl rfl ?_
  refine q_callV (As := [.int (nI n)]) (rest := []) dX9_tell_13 vX9_285 (ty_c zS8 (by decide) rfl) ⟨by decide, rfl⟩ (z9_first (x := .ok (k + 1)) zS8 ((hT.off (by omega)).x9 q8.1) ⟨bs_next ((rd_off (by omega)).trans b1) q8.1, q8.2⟩ hn) rfl rfl (Nat.le_of_ble_eq_true rfl) (by omega) (by omega) (by omega) (k_v (fun s13 q13 => ?_))
  have zS13 : SK s13 := (SK.fq q13.2.2 (SK.x9 q8.1 hS))
  refine q_return dX9_tell_16 rfl (by omega) (by omega) ?_
  exact ⟨rfl, teF hK hN q8.1 q13⟩
theorem puF {τ a1 a2 a3 a4 υ : HS} {row : Int32} (hrow : row = nI (tv T L k)) (hK : BLK σ n b) (hN : NL σ l) (f : LX9 (uI (uI σ 67 n (nI 2)) 77 n row) τ) (f1 : FR9 lxb τ a1) (q2 : FsQ 73 n a1 T L (pSg T L 91 (k + 1)) a2) (f3 : FR9 lxb a2 a3) (f4 : FR9 lxb a3 a4) (q5 : FsQ 75 n a4 T L ((((pSg T L 91 (k + 1)).bind (pO1 T L)).bind (pSg T L 93)).bind (pSg T L 61)) υ) : HdQ σ T L n b l 2 k υ := by
  obtain ⟨k1, k2, k3, k4, k5⟩ := hK
  obtain ⟨q21, q22, q23⟩ := q2
  obtain ⟨q51, q52, q53⟩ := q5
  have fr : FR9 (ndq n) σ υ := ((((((FR9.rf.uI (by unfold ndq; omega)).uI (by unfold ndq; omega)).tr (f.lb.mono fun _ _ z => ndq.lb z)).tr (f1.mono fun _ _ z => ndq.lb z)).tr (q23.mono fun _ _ z => fs_nd (by omega) z)).tr ((f3.tr f4).mono fun _ _ z => ndq.lb z)).tr (q53.mono fun _ _ z => fs_nd (by omega) z)
  have e : pSt T L 2 k = (pSg T L 91 (k + 1)).bind fun k1 => (pOp T L k1).bind fun q => (pSg T L 93 q.2.1).bind fun k2 => (pSg T L 61 k2).bind fun k3 => (pOp T L k3).bind fun q2 => .ok ((2, nI (tv T L k), q.1, q2.1, none, 0, 0), q2.2.1, q.2.2 || q2.2.2) := rfl
  refine ⟨?_, fun s hs => ?_, fr⟩
  · rw [e]
    cases h1 : pSg T L 91 (k + 1) with
    | error e => rw [h1] at q51; exact q51
    | ok k1 =>
      rw [h1] at q51
      have q51 : BS υ T L ((((pO1 T L k1).bind (pSg T L 93)).bind (pSg T L 61)).bind (pO1 T L)) := q51
      show BS υ T L (((pOp T L k1).bind _).bind _)
      cases h2 : pOp T L k1 with
      | error e => rw [pO1_er h2] at q51; exact q51
      | ok v1 =>
        rw [pO1_ok h2] at q51
        have q51 : BS υ T L (((pSg T L 93 v1.2.1).bind (pSg T L 61)).bind (pO1 T L)) := q51
        show BS υ T L (((pSg T L 93 v1.2.1).bind _).bind _)
        cases h3 : pSg T L 93 v1.2.1 with
        | error e => rw [h3] at q51; exact q51
        | ok k2 =>
          rw [h3] at q51
          have q51 : BS υ T L ((pSg T L 61 k2).bind (pO1 T L)) := q51
          show BS υ T L (((pSg T L 61 k2).bind _).bind _)
          cases h4 : pSg T L 61 k2 with
          | error e => rw [h4] at q51; exact q51
          | ok k3 =>
            rw [h4] at q51
            have q51 : BS υ T L (pO1 T L k3) := q51
            show BS υ T L (((pOp T L k3).bind _).bind _)
            cases h5 : pOp T L k3 with
            | error e => rw [pO1_er h5] at q51; exact q51
            | ok v2 => rw [pO1_ok h5] at q51; exact q51
  · rw [e] at hs
    obtain ⟨k1', h1, hs⟩ := exb hs
    obtain ⟨v1, h2, hs⟩ := exb hs
    obtain ⟨k2', h3, hs⟩ := exb hs
    obtain ⟨k3', h4, hs⟩ := exb hs
    obtain ⟨v2, h5, hs⟩ := exb hs
    cases hs
    obtain ⟨r1, r2⟩ := q22 _ _ h1 h2
    have hx : (((pSg T L 91 (k + 1)).bind (pO1 T L)).bind (pSg T L 93)).bind (pSg T L 61) = .ok k3' := by
      rw [h1]
      show ((pO1 T L k1').bind _).bind _ = _
      rw [pO1_ok h2]
      show (pSg T L 93 v1.2.1).bind _ = _
      rw [h3]; exact h4
    obtain ⟨r3, r4⟩ := q52 _ _ hx h5
    refine ⟨⟨?_, ?_, ?_, ?_, ?_, fun z => ⟨?_, ?_⟩, fun z => ⟨r3, r4⟩, fun z => ?_⟩, ?_, ?_⟩
    · rw [fs_k q53 (by omega), lb_k f4 (by omega), lb_k f3 (by omega), fs_k q23 (by omega), lb_k f1 (by omega), lb_k f.lb (by omega), rd_off (by omega)]; exact uI_self
    · rw [fs_k q53 (by omega), lb_k f4 (by omega), lb_k f3 (by omega), fs_k q23 (by omega), lb_k f1 (by omega), lb_k f.lb (by omega), rd_off (by omega), rd_off (by omega)]; exact k1
    · rw [fs_k q53 (by omega), lb_k f4 (by omega), lb_k f3 (by omega), fs_k q23 (by omega), lb_k f1 (by omega), lb_k f.lb (by omega), rd_off (by omega), rd_off (by omega)]; exact k2
    · rw [fs_k q53 (by omega), lb_k f4 (by omega), lb_k f3 (by omega), fs_k q23 (by omega), lb_k f1 (by omega), lb_k f.lb (by omega), rd_off (by omega), rd_off (by omega)]; exact k4
    · rw [fs_k q53 (by omega), lb_k f4 (by omega), lb_k f3 (by omega), fs_k q23 (by omega), lb_k f1 (by omega), lb_k f.lb (by omega), rd_off (by omega), rd_off (by omega)]; exact k5
    · rw [fs_k q53 (by omega), lb_k f4 (by omega), lb_k f3 (by omega)]; exact r1
    · rw [fs_k q53 (by omega), lb_k f4 (by omega), lb_k f3 (by omega)]; exact r2
    · rw [fs_k q53 (by omega), lb_k f4 (by omega), lb_k f3 (by omega), fs_k q23 (by omega), lb_k f1 (by omega), lb_k f.lb (by omega), uI_self]; exact hrow
    · rw [fs_k q53 (by omega), lb_k f4 (by omega), lb_k f3 (by omega), fs_k q23 (by omega), lb_k f1 (by omega), lb_k f.lb (by omega), rd_off (by omega), rd_off (by omega)]; exact k3
    · show NL υ (l ++ [])
      rw [List.append_nil]; exact ((((((hN.off (by omega)).off (by omega)).lb f.lb).lb f1).fs q23 (by omega)).lb (f3.tr f4)).fs q53 (by omega)
theorem z9_put (hS : SK σ) (hT : MTX σ L T) (hB : BS σ T L (.ok k)) (hK : BLK σ n b) (hN : NL σ l) (hn : n < 1200) {row : Int32} (hrow : row = nI (tv T L k)) : CT g mX9_put 5 0 0 [.ref 58, .int (nI n), .int row] σ (fun r σ' => r = none ∧ HdQ σ T L n b l 2 k σ') := by
  obtain ⟨b1, b2⟩ := hB
  refine CT.of (by decide) (Nat.le_of_ble_eq_true rfl) ?_
  refine q_aload_n dX9_put_0 rfl rfl rfl ?_
  refine q_getr (r := 67) dX9_put_1 fX9_58 rfl (ty_c hS (by decide) rfl) (hS.2 58 15 67 rfl) ?_
  refine q_iload_n dX9_put_4 rfl rfl ?_
  refine q_iconst (v := nI 2) dX9_put_5 rfl ?_
  refine q_iast (j := n) dX9_put_6 (ty_c hS (by decide) rfl) (ix_n (by omega) (by omega)) ?_
  refine q_aload_n dX9_put_7 rfl rfl rfl ?_
  refine q_getr (r := 77) dX9_put_8 fX9_88 rfl (ty_c hS (by decide) rfl) (hS.2 58 25 77 rfl) ?_
  refine q_iload_n dX9_put_11 rfl rfl ?_
  refine q_iload_n dX9_put_12 rfl rfl ?_
  refine q_iast (j := n) dX9_put_13 (ty_c hS (by decide) rfl) (ix_n (by omega) (by omega)) ?_
  refine q_aload_n dX9_put_14 rfl rfl rfl ?_
  refine q_callV (As := []) (rest := []) dX9_put_15 vX9_236 (ty_c hS (by decide) rfl) ⟨by decide, rfl⟩ (z9_nextM (σ := (uI (uI σ 67 n (nI 2)) 77 n row)) hS ((hT.off (by omega)).off (by omega)) ((b2.off (by omega)).off (by omega))) rfl rfl (Nat.le_of_ble_eq_true rfl) (by omega) (by omega) (by omega) (k_v (fun s15 q15 => ?_))
  have t15 := ((hT.off (h := 67) (i := n) (v := nI 2) (by omega)).off (h := 77) (i := n) (v := row) (by omega)).x9 q15.1
  have zS15 : SK s15 := (SK.x9 q15.1 hS)
  refine q_aload_n dX9_put_18 rfl rfl rfl ?_
  refine q_bipush (v := nI 91) dX9_put_19 rfl ?_
  refine q_callV (As := [.int (nI 91)]) (rest := []) dX9_put_21 vX9_279 (ty_c zS15 (by decide) rfl) ⟨by decide, rfl⟩ (z9_take (x := .ok (k + 1)) zS15 t15 ⟨bs_next ((rd_off (by omega)).trans ((rd_off (by omega)).trans b1)) q15.1, q15.2⟩ (by omega)) rfl rfl (Nat.le_of_ble_eq_true rfl) (by omega) (by omega) (by omega) (k_v (fun s21 q21 => ?_))
  have t21 := t15.lb q21.2; have S21 : SK s21 := SK.fq q21.2 (SK.x9 q15.1 hS)
  have zS21 : SK s21 := (SK.fq q21.2 (SK.x9 q15.1 hS))
  refine q_aload_n dX9_put_24 rfl rfl rfl ?_
  refine q_iload_n dX9_put_25 rfl rfl ?_
  refine q_callV (As := [.int (nI n)]) (rest := []) dX9_put_26 vX9_285 (ty_c zS21 (by decide) rfl) ⟨by decide, rfl⟩ (z9_first (x := pSg T L 91 (k + 1)) S21 t21 q21.1 hn) rfl rfl (Nat.le_of_ble_eq_true rfl) (by omega) (by omega) (by omega) (k_v (fun s26 q26 => ?_))
  have t26 := t21.fs q26.2.2 (by omega); have S26 : SK s26 := SK.fq q26.2.2 S21
  have zS26 : SK s26 := (SK.fq q26.2.2 S21)
  refine q_aload_n dX9_put_29 rfl rfl rfl ?_
  refine q_bipush (v := nI 93) dX9_put_30 rfl ?_
  refine q_callV (As := [.int (nI 93)]) (rest := []) dX9_put_32 vX9_279 (ty_c zS26 (by decide) rfl) ⟨by decide, rfl⟩ (z9_take S26 t26 q26.1 (by omega)) rfl rfl (Nat.le_of_ble_eq_true rfl) (by omega) (by omega) (by omega) (k_v (fun s32 q32 => ?_))
  have t32 := t26.lb q32.2; have S32 : SK s32 := SK.fq q32.2 S26
  have zS32 : SK s32 := (SK.fq q32.2 S26)
  refine q_aload_n dX9_put_35 rfl rfl rfl ?_
  refine q_bipush (v := nI 61) dX9_put_36 rfl ?_
  refine q_callV (As := [.int (nI 61)]) (rest := []) dX9_put_38 vX9_279 (ty_c zS32 (by decide) rfl) ⟨by decide, rfl⟩ (z9_take S32 t32 q32.1 (by omega)) rfl rfl (Nat.le_of_ble_eq_true rfl) (by omega) (by omega) (by omega) (k_v (fun s38 q38 => ?_))
  have t38 := t32.lb q38.2; have S38 : SK s38 := SK.fq q38.2 S32
  have zS38 : SK s38 := (SK.fq q38.2 S32)
  refine q_aload_n dX9_put_41 rfl rfl rfl ?_
  refine q_iload_n dX9_put_42 rfl rfl ?_
  refine q_callV (As := [.int (nI n)]) (rest := []) dX9_put_43 vX9_288 (ty_c zS38 (by decide) rfl) ⟨by decide, rfl⟩ (z9_second S38 t38 q38.1 hn) rfl rfl (Nat.le_of_ble_eq_true rfl) (by omega) (by omega) (by omega) (k_v (fun s43 q43 => ?_))
  have zS43 : SK s43 := (SK.fq q43.2.2 S38)
  refine q_return dX9_put_46 rfl (by omega) (by omega) ?_
  exact ⟨rfl, puF hrow hK hN q15.1 q21.2 q26 q32.2 q38.2 q43⟩
def exl (T : Nat → Nat) (L : Nat) (x : PR Nat) : List (Nat × Nat) := match x with
  | .ok k => [(ts T L k, tv T L k)]
  | .error _ => []
theorem exl_le {T : Nat → Nat} {L : Nat} {x : PR Nat} : (exl T L x).length ≤ 1 := by cases x <;> simp [exl]
theorem tsF {τ a1 a2 a3 a4 υ : HS} {x y : Int32} (hK : BLK σ n b) (f : LX9 (uI σ 67 n (nI 5)) τ) (q1 : FsQ 73 n τ T L (.ok (k + 1)) a1) (f2 : FR9 lxb a1 a2) (q3 : FsQ 75 n a2 T L ((pO1 T L (k + 1)).bind (pSg T L 60)) a3) (q4 : BkQ a3 T L (((pO1 T L (k + 1)).bind (pSg T L 60)).bind (pO1 T L)) l x a4) (q5 : BkQ (uI a4 71 n x) T L ((((pO1 T L (k + 1)).bind (pSg T L 60)).bind (pO1 T L)).bind (pWy T L)) (l ++ exl T L (((pO1 T L (k + 1)).bind (pSg T L 60)).bind (pO1 T L))) y υ) : HdQ σ T L n b l 5 k (uI υ 72 n y) := by
  obtain ⟨k1, k2, k3, k4, k5⟩ := hK
  obtain ⟨q11, q12, q13⟩ := q1
  obtain ⟨q31, q32, q33⟩ := q3
  obtain ⟨q41, q42, q43⟩ := q4
  obtain ⟨q51, q52, q53⟩ := q5
  have fr : FR9 (ndq n) σ (uI υ 72 n y) := ((((((((FR9.rf.uI (by unfold ndq; omega)).tr (f.lb.mono fun _ _ z => ndq.lb z)).tr (q13.mono fun _ _ z => fs_nd (by omega) z)).tr (f2.mono fun _ _ z => ndq.lb z)).tr (q33.mono fun _ _ z => fs_nd (by omega) z)).tr (q43.mono fun _ _ z => ndq.bl z)).uI (by unfold ndq; omega)).tr (q53.mono fun _ _ z => ndq.bl z)).uI (by unfold ndq; omega)
  have e : pSt T L 5 k = (pOp T L (k + 1)).bind fun q => (pSg T L 60 q.2.1).bind fun k1 => (pOp T L k1).bind fun q2 => (pWy T L q2.2.1).bind fun k2 => (pWy T L k2).bind fun k3 => .ok ((5, -1, q.1, q2.1, none, q2.2.1, k2), k3, q.2.2 || q2.2.2) := rfl
  refine ⟨?_, fun s hs => ?_, fr⟩
  · rw [e]
    refine BS.off ?_ (by omega)
    cases h1 : pOp T L (k + 1) with
    | error e => rw [pO1_er h1] at q51; exact q51
    | ok v1 =>
      rw [pO1_ok h1] at q51
      have q51 : BS υ T L ((((pSg T L 60 v1.2.1).bind (pO1 T L)).bind (pWy T L)).bind (pWy T L)) := q51
      show BS υ T L (((pSg T L 60 v1.2.1).bind _).bind _)
      cases h2 : pSg T L 60 v1.2.1 with
      | error e => rw [h2] at q51; exact q51
      | ok k1 =>
        rw [h2] at q51
        have q51 : BS υ T L (((pO1 T L k1).bind (pWy T L)).bind (pWy T L)) := q51
        show BS υ T L (((pOp T L k1).bind _).bind _)
        cases h3 : pOp T L k1 with
        | error e => rw [pO1_er h3] at q51; exact q51
        | ok v2 =>
          rw [pO1_ok h3] at q51
          have q51 : BS υ T L ((pWy T L v2.2.1).bind (pWy T L)) := q51
          show BS υ T L (((pWy T L v2.2.1).bind _).bind _)
          cases h4 : pWy T L v2.2.1 with
          | error e => rw [h4] at q51; exact q51
          | ok k2 =>
            rw [h4] at q51
            have q51 : BS υ T L (pWy T L k2) := q51
            show BS υ T L (((pWy T L k2).bind _).bind _)
            cases h5 : pWy T L k2 with
            | error e => rw [h5] at q51; exact q51
            | ok k3 => rw [h5] at q51; exact q51
  · rw [e] at hs
    obtain ⟨v1, h1, hs⟩ := exb hs
    obtain ⟨k1', h2, hs⟩ := exb hs
    obtain ⟨v2, h3, hs⟩ := exb hs
    obtain ⟨k2', h4, hs⟩ := exb hs
    obtain ⟨k3', h5, hs⟩ := exb hs
    cases hs
    obtain ⟨r1, r2⟩ := q12 _ _ rfl h1
    have x1 : (pO1 T L (k + 1)).bind (pSg T L 60) = .ok k1' := by
      rw [pO1_ok h1]; exact h2
    have x2 : ((pO1 T L (k + 1)).bind (pSg T L 60)).bind (pO1 T L) = .ok v2.2.1 := by
      rw [x1]; exact pO1_ok h3
    have x3 : (((pO1 T L (k + 1)).bind (pSg T L 60)).bind (pO1 T L)).bind (pWy T L) = .ok k2' := by
      rw [x2]; exact h4
    obtain ⟨r3, r4⟩ := q32 _ _ x1 h3
    obtain ⟨r5, r6⟩ := q42 _ _ x2 h4
    obtain ⟨r7, r8⟩ := q52 _ _ x3 h5
    have hk2 : v2.2.1 ≠ 0 := by have := (pOp_gt h3); omega
    have hk3 : k2' ≠ 0 := by have := pWy_gt h4; omega
    have w0 : wyV T L v2.2.1 = nI (tv T L v2.2.1) := if_neg hk2
    have w1 : wyV T L k2' = nI (tv T L k2') := if_neg hk3
    refine ⟨⟨?_, ?_, ?_, ?_, ?_, fun z => ⟨?_, ?_⟩, fun z => ⟨?_, ?_⟩, fun z => ?_⟩, ?_, ?_⟩
    · rw [rd_off (by omega), bl_k q53 (by omega), rd_off (by omega), bl_k q43 (by omega), fs_k q33 (by omega), lb_k f2 (by omega), fs_k q13 (by omega), lb_k f.lb (by omega)]; exact uI_self
    · rw [rd_off (by omega), bl_k q53 (by omega), rd_off (by omega), bl_k q43 (by omega), fs_k q33 (by omega), lb_k f2 (by omega), fs_k q13 (by omega), lb_k f.lb (by omega), rd_off (by omega)]; exact k1
    · rw [rd_off (by omega), bl_k q53 (by omega), rd_off (by omega), bl_k q43 (by omega), fs_k q33 (by omega), lb_k f2 (by omega), fs_k q13 (by omega), lb_k f.lb (by omega), rd_off (by omega)]; exact k2
    · rw [rd_off (by omega), bl_k q53 (by omega), uI_self, r5]; exact w0.symm
    · rw [uI_self, r7]; exact w1.symm
    · rw [rd_off (by omega), bl_k q53 (by omega), rd_off (by omega), bl_k q43 (by omega), fs_k q33 (by omega), lb_k f2 (by omega)]; exact r1
    · rw [rd_off (by omega), bl_k q53 (by omega), rd_off (by omega), bl_k q43 (by omega), fs_k q33 (by omega), lb_k f2 (by omega)]; exact r2
    · rw [rd_off (by omega), bl_k q53 (by omega), rd_off (by omega), bl_k q43 (by omega)]; exact r3
    · rw [rd_off (by omega), bl_k q53 (by omega), rd_off (by omega), bl_k q43 (by omega)]; exact r4
    · exact absurd z (by show ¬ (5 = 2); omega)
    · rw [rd_off (by omega), bl_k q53 (by omega), rd_off (by omega), bl_k q43 (by omega), fs_k q33 (by omega), lb_k f2 (by omega), fs_k q13 (by omega), lb_k f.lb (by omega), rd_off (by omega)]; exact k3
    · have en : l ++ nmT9 T L (5, -1, v1.1, v2.1, none, v2.2.1, k2') = l ++ exl T L (((pO1 T L (k + 1)).bind (pSg T L 60)).bind (pO1 T L)) ++ [(ts T L k2', tv T L k2')] := by
        rw [x2, List.append_assoc]
        show l ++ (nm1 T L v2.2.1 ++ nm1 T L k2') = _
        unfold nm1
        rw [if_neg hk2, if_neg hk3]; rfl
      rw [en]; exact r8.off (by omega)
theorem z9_test (hS : SK σ) (hT : MTX σ L T) (hB : BS σ T L (.ok k)) (hK : BLK σ n b) (hN : NL σ l) (hl : l.length < 199) (hn : n < 1200) : CT g mX9_test 5 0 0 [.ref 58, .int (nI n)] σ (fun r σ' => r = none ∧ HdQ σ T L n b l 5 k σ') := by
  obtain ⟨b1, b2⟩ := hB
  have hl2 : (l ++ exl T L (((pO1 T L (k + 1)).bind (pSg T L 60)).bind (pO1 T L))).length < 200 := by
    have := exl_le (T := T) (L := L) (x := ((pO1 T L (k + 1)).bind (pSg T L 60)).bind (pO1 T L))
    rw [List.length_append]; omega
  refine CT.of (by decide) (Nat.le_of_ble_eq_true rfl) ?_
  refine q_aload_n dX9_test_0 rfl rfl rfl ?_
  refine q_getr (r := 67) dX9_test_1 fX9_58 rfl (ty_c hS (by decide) rfl) (hS.2 58 15 67 rfl) ?_
  refine q_iload_n dX9_test_4 rfl rfl ?_
  refine q_iconst (v := nI 5) dX9_test_5 rfl ?_
  refine q_iast (j := n) dX9_test_6 (ty_c hS (by decide) rfl) (ix_n (by omega) (by omega)) ?_
  refine q_aload_n dX9_test_7 rfl rfl rfl ?_
  refine q_callV (As := []) (rest := []) dX9_test_8 vX9_236 (ty_c hS (by decide) rfl) ⟨by decide, rfl⟩ (z9_nextM (σ := (uI σ 67 n (nI 5))) hS (hT.off (by omega)) (b2.off (by omega))) rfl rfl (Nat.le_of_ble_eq_true rfl) (by omega) (by omega) (by omega) (k_v (fun s8 q8 => ?_))
  have t8 := (hT.off (h := 67) (i := n) (v := nI 5) (by omega)).x9 q8.1; have n8 := (hN.off (h := 67) (i := n) (v := nI 5) (by omega)).lb q8.1.lb
  have zS8 : SK s8 := (SK.x9 q8.1 hS)
  refine q_aload_n dX9_test_11 rfl rfl rfl ?_
  refine q_iload_n dX9_test_12 rfl rfl ?_
  refine q_callV (As := [.int (nI n)]) (rest := []) dX9_test_13 vX9_285 (ty_c zS8 (by decide) rfl) ⟨by decide, rfl⟩ (z9_first (x := .ok (k + 1)) zS8 t8 ⟨bs_next ((rd_off (by omega)).trans b1) q8.1, q8.2⟩ hn) rfl rfl (Nat.le_of_ble_eq_true rfl) (by omega) (by omega) (by omega) (k_v (fun s13 q13 => ?_))
  have t13 := t8.fs q13.2.2 (by omega); have S13 : SK s13 := SK.fq q13.2.2 (SK.x9 q8.1 hS); have n13 := n8.fs q13.2.2 (by omega)
  have zS13 : SK s13 := (SK.fq q13.2.2 (SK.x9 q8.1 hS))
  refine q_aload_n dX9_test_16 rfl rfl rfl ?_
  refine q_bipush (v := nI 60) dX9_test_17 rfl ?_
  refine q_callV (As := [.int (nI 60)]) (rest := []) dX9_test_19 vX9_279 (ty_c zS13 (by decide) rfl) ⟨by decide, rfl⟩ (z9_take (x := pO1 T L (k + 1)) S13 t13 q13.1 (by omega)) rfl rfl (Nat.le_of_ble_eq_true rfl) (by omega) (by omega) (by omega) (k_v (fun s19 q19 => ?_))
  have t19 := t13.lb q19.2; have S19 : SK s19 := SK.fq q19.2 S13; have n19 := n13.lb q19.2
  have zS19 : SK s19 := (SK.fq q19.2 S13)
  refine q_aload_n dX9_test_22 rfl rfl rfl ?_
  refine q_iload_n dX9_test_23 rfl rfl ?_
  refine q_callV (As := [.int (nI n)]) (rest := []) dX9_test_24 vX9_288 (ty_c zS19 (by decide) rfl) ⟨by decide, rfl⟩ (z9_second S19 t19 q19.1 hn) rfl rfl (Nat.le_of_ble_eq_true rfl) (by omega) (by omega) (by omega) (k_v (fun s24 q24 => ?_))
  have t24 := t19.fs q24.2.2 (by omega); have S24 : SK s24 := SK.fq q24.2.2 S19; have n24 := n19.fs q24.2.2 (by omega)
  have zS24 : SK s24 := (SK.fq q24.2.2 S19)
  refine q_aload_n dX9_test_27 rfl rfl rfl ?_
  refine q_getr (r := 71) dX9_test_28 fX9_70 rfl (ty_c zS24 (by decide) rfl) (zS24.2 58 19 71 rfl) ?_
  refine q_iload_n dX9_test_31 rfl rfl ?_
  refine q_aload_n dX9_test_32 rfl rfl rfl ?_
  refine q_callV (As := []) (rest := [.int (nI n), .ref 71]) dX9_test_33 vX9_282 (ty_c zS24 (by decide) rfl) ⟨by decide, rfl⟩ (z9_block S24 t24 q24.1 (by omega) (fun _ _ => n24)) rfl rfl (Nat.le_of_ble_eq_true rfl) (by omega) (by omega) (by omega) (k_i (fun x33 s33 q33 => ?_))
  have t33 := (t24.bl q33.2.2).off (h := 71) (i := n) (v := x33) (by omega); have S33 : SK (uI s33 71 n x33) := SK.uI (SK.fq q33.2.2 S24)
  have zS33 : SK s33 := (SK.fq q33.2.2 S24)
  refine q_iast (j := n) dX9_test_36 (ty_c zS33 (by decide) rfl) (ix_n (by omega) (by omega)) ?_
  refine q_aload_n dX9_test_37 rfl rfl rfl ?_
  refine q_getr (r := 72) dX9_test_38 fX9_73 rfl (ty_c zS33 (by decide) rfl) (zS33.2 58 20 72 rfl) ?_
  refine q_iload_n dX9_test_41 rfl rfl ?_
  refine q_aload_n dX9_test_42 rfl rfl rfl ?_
  refine q_callV (As := []) (rest := [.int (nI n), .ref 72]) dX9_test_43 vX9_282 (ty_c zS33 (by decide) rfl) ⟨by decide, rfl⟩ (z9_block (σ := (uI s33 71 n x33)) S33 t33 (q33.1.off (by omega)) hl2 (fun k2 e2 => by
    obtain ⟨k1, e3, e4⟩ := exb e2
    have := (q33.2.1 k1 k2 e3 e4).2
    rw [e3]
    exact this.off (by omega))) rfl rfl (Nat.le_of_ble_eq_true rfl) (by omega) (by omega) (by omega) (k_i (fun x43 s43 q43 => ?_))
  have zS43 : SK s43 := (SK.fq q43.2.2 S33)
  refine q_iast (j := n) dX9_test_46 (ty_c zS43 (by decide) rfl) (ix_n (by omega) (by omega)) ?_
  refine q_return dX9_test_47 rfl (by omega) (by omega) ?_
  exact ⟨rfl, tsF hK q8.1 q13 q19.2 q24 q33 q43⟩
end MHD
