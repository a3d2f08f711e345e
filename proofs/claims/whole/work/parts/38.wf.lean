/-! What a text without a FAULT of its words looks like. -/
def nmC : Nat := 1000000000
/-- an operand -/
def OPD (o : Int32) : Prop := (∃ v, v < 1000000000 ∧ o = nI v) ∨ (∃ v, v < 1000000000 ∧ o = -(nI v)) ∨ ∃ nm, nm < 48 ∧ o = nI (1000000000 + nm)
def oT (o : Int32) : Bool := decide (nI 1000000016 ≤ o)
theorem wrd_3 (T : Nat → Nat) (p m e : Nat) : ((wrdV T p m e).1 = 3 → (wrdV T p m e).2 < 48) ∧ ((wrdV T p m e).1 = 4 → (wrdV T p m e).2 < 2) ∧ ((wrdV T p m e).1 = 5 → (wrdV T p m e).2 < 40) := by
  unfold wrdV
  simp only
  generalize num T m e = n
  generalize (if (T m == 48 && decide (1 < e - m)) || !(m - p == 1) then 0 else T p) = c
  repeat' split
  all_goals refine ⟨fun h => ?_, fun h => ?_, fun h => ?_⟩
  all_goals first | exact absurd h (by decide : ¬ (3 : Nat) = 4) | exact absurd h (by decide : ¬ (3 : Nat) = 5) | exact absurd h (by decide : ¬ (4 : Nat) = 3) | exact absurd h (by decide : ¬ (4 : Nat) = 5) | exact absurd h (by decide : ¬ (5 : Nat) = 3) | exact absurd h (by decide : ¬ (5 : Nat) = 4) | exact absurd h (by decide : ¬ (2 : Nat) = 3) | exact absurd h (by decide : ¬ (2 : Nat) = 4) | exact absurd h (by decide : ¬ (2 : Nat) = 5) | (show (_ : Nat) < _; omega)
theorem key_345 (T : Nat → Nat) (p e : Nat) : (keyV T p e).1 = 2 ∨ (keyV T p e).1 = 8 := by
  unfold keyV
  repeat' split
  all_goals first | exact Or.inl rfl | exact Or.inr rfl
theorem tv_345 {T : Nat → Nat} {L k : Nat} : (tk T L k = 3 → tv T L k < 48) ∧ (tk T L k = 4 → tv T L k < 2) ∧ (tk T L k = 5 → tv T L k < 40) := by
  unfold tk tv
  by_cases hl : ts T L k < L
  · rw [if_pos hl, if_pos hl]
    unfold lxK
    have hk := key_345 T (ts T L k) (e3 T L (ts T L k))
    repeat' split
    all_goals first
      | exact wrd_3 _ _ _ _
      | (refine ⟨fun h => ?_, fun h => ?_, fun h => ?_⟩ <;> omega)
      | exact ⟨fun h => absurd h (by decide : ¬ (1 : Nat) = 3), fun h => absurd h (by decide : ¬ (1 : Nat) = 4), fun h => absurd h (by decide : ¬ (1 : Nat) = 5)⟩
      | exact ⟨fun h => absurd h (by decide : ¬ (6 : Nat) = 3), fun h => absurd h (by decide : ¬ (6 : Nat) = 4), fun h => absurd h (by decide : ¬ (6 : Nat) = 5)⟩
      | exact ⟨fun h => absurd h (by decide : ¬ (7 : Nat) = 3), fun h => absurd h (by decide : ¬ (7 : Nat) = 4), fun h => absurd h (by decide : ¬ (7 : Nat) = 5)⟩
  · rw [if_neg hl, if_neg hl]
    exact ⟨fun h => absurd h (by decide : ¬ (0 : Nat) = 3), fun h => absurd h (by decide : ¬ (0 : Nat) = 4), fun h => absurd h (by decide : ¬ (0 : Nat) = 5)⟩
theorem oT_n {v : Nat} (h : v < 1000000000) : oT (nI v) = false := by
  unfold oT
  refine decide_eq_false fun q => ?_
  have := (nI_leI (a := 1000000016) (b := v) (by omega) (by omega)).mp q
  omega
theorem oT_m {v : Nat} (h : v < 1000000000) : oT (-(nI v)) = false := by
  unfold oT
  refine decide_eq_false fun q => ?_
  by_cases e : v = 0
  · subst e; exact absurd q (by decide)
  · have h1 : (nI v).toInt = v := nI_toInt (by omega)
    have h2 := Int32.le_iff_toInt_le.mp q
    have h3 : (nI 1000000016).toInt = 1000000016 := by decide
    have h4 : (-(nI v)).toInt = -(v : Int) := by
      rw [Int32.toInt_neg, h1]
      exact Int.bmod_eq_of_le (by omega) (by omega)
    omega
theorem oT_nm {v : Nat} (h : v < 48) : oT (nI (1000000000 + v)) = decide (16 ≤ v) := by
  unfold oT
  by_cases e : 16 ≤ v
  · rw [decide_eq_true e]
    exact decide_eq_true ((nI_leI (a := 1000000016) (by omega) (by omega)).mpr (by omega))
  · rw [decide_eq_false e]
    refine decide_eq_false fun q => ?_
    have := (nI_leI (a := 1000000016) (by omega) (by omega)).mp q
    omega
theorem pOp_opd {T : Nat → Nat} {L k k2 : Nat} (hT : ∀ i, i < L → T i < 256) {o : Int32} {t : Bool} (h : pOp T L k = .ok (o, k2, t)) : OPD o ∧ t = oT o := by
  rcases pOp_ok h with ⟨-, -, -, rfl, -, rfl⟩ | ⟨-, rfl, -, rfl⟩ | ⟨h3, rfl, -, rfl⟩
  · exact ⟨Or.inr (Or.inl ⟨_, tv_b hT, rfl⟩), (oT_m (tv_b hT)).symm⟩
  · exact ⟨Or.inl ⟨_, tv_b hT, rfl⟩, (oT_n (tv_b hT)).symm⟩
  · exact ⟨Or.inr (Or.inr ⟨_, tv_345.1 h3, rfl⟩), (oT_nm (tv_345.1 h3)).symm⟩
theorem OPD0 : OPD (nI 0) := Or.inl ⟨0, by decide, rfl⟩
theorem oT0 : oT (nI 0) = false := by decide
def isO (c : Int32) : Prop := c = nI 43 ∨ c = nI 45 ∨ c = nI 42 ∨ c = nI 47 ∨ c = nI 38 ∨ c = nI 94
def SMW (x : SUM) : Prop := (isO x.1 ∧ OPD x.2.1 ∧ OPD x.2.2) ∨ (x.1 = nI 114 ∧ (∃ w, w < 2 ∧ x.2.1 = nI w) ∧ OPD x.2.2)
/-- a statement as it can be read -/
def STW (T : Nat → Nat) (L kd : Nat) (s : ST0) (t : Bool) : Prop :=
  (s.1 = kd ∨ (kd = 1 ∧ s.1 = 0)) ∧ ((s.1 ≤ 1 ∧ ∃ nm, nm < 48 ∧ s.2.1 = nI nm ∧ t = (decide (16 ≤ nm) || oT s.2.2.1 || oT s.2.2.2.1)) ∨ (s.1 = 2 ∧ (∃ w, w < 2 ∧ s.2.1 = nI w) ∧ t = (oT s.2.2.1 || oT s.2.2.2.1)) ∨ (3 ≤ s.1 ∧ s.2.1 = -1 ∧ t = (oT s.2.2.1 || oT s.2.2.2.1))) ∧ OPD s.2.2.1 ∧ OPD s.2.2.2.1 ∧
  ((s.1 = 0 ∧ ∃ x, s.2.2.2.2.1 = some x ∧ SMW x ∧ ((isO x.1 ∧ x.2.1 = s.2.2.1 ∧ x.2.2 = s.2.2.2.1) ∨ (x.1 = nI 114 ∧ s.2.2.1 = nI 0 ∧ x.2.2 = s.2.2.2.1))) ∨ (s.1 ≠ 0 ∧ s.2.2.2.2.1 = none)) ∧
  (∃ w0 w1 : Option Nat, wyV T L s.2.2.2.2.2.1 = oW w0 ∧ wyV T L s.2.2.2.2.2.2 = oW w1 ∧ (∀ v, w0 = some v → v < 40) ∧ (∀ v, w1 = some v → v < 40) ∧ (s.1 < 4 → w0 = none ∧ w1 = none) ∧ (s.1 = 4 → w0.isSome ∧ w1 = none) ∧ (s.1 = 5 → w0.isSome ∧ w1.isSome) ∧ (s.1 = 6 → w0 = none ∧ w1 = none)) ∧ s.1 ≤ 6
theorem wy_none {T : Nat → Nat} {L : Nat} : wyV T L 0 = oW none := rfl
theorem isO_op {c : Nat} (h : isOpB c = true) : isO (nI c) := by
  unfold isOpB at h
  simp only [Bool.or_eq_true, beq_iff_eq] at h
  unfold isO
  rcases h with ((((rfl | rfl) | rfl) | rfl) | rfl) | rfl <;> simp
theorem pVl_w {T : Nat → Nat} {L k : Nat} (hT : ∀ i, i < L → T i < 256) {v : Int32 × Int32 × Option SUM × Nat × Bool} (h : pVl T L k = .ok v) : OPD v.1 ∧ OPD v.2.1 ∧ v.2.2.2.2 = (oT v.1 || oT v.2.1) ∧ ((∃ x, v.2.2.1 = some x ∧ SMW x ∧ ((isO x.1 ∧ x.2.1 = v.1 ∧ x.2.2 = v.2.1) ∨ (x.1 = nI 114 ∧ v.1 = nI 0 ∧ x.2.2 = v.2.1))) ∨ v.2.2.1 = none) := by
  rcases pVl_ok h with ⟨x1, o, k2, t, a1, a2, a3, rfl⟩ | ⟨x1, o, k1, t, a1, ⟨x2, x3, o2, k2, t2, a2, rfl⟩ | ⟨x2, rfl⟩⟩
  · obtain ⟨b1, b2⟩ := pOp_opd hT a2
    exact ⟨OPD0, b1, by show t = _; rw [b2, oT0, Bool.false_or], Or.inl ⟨_, rfl, Or.inr ⟨rfl, ⟨_, tv_345.2.1 x1, rfl⟩, b1⟩, Or.inr ⟨rfl, rfl, rfl⟩⟩⟩
  · obtain ⟨b1, b2⟩ := pOp_opd hT a1
    obtain ⟨b3, b4⟩ := pOp_opd hT a2
    exact ⟨b1, b3, by show (t || t2) = _; rw [b2, b4], Or.inl ⟨_, rfl, Or.inl ⟨isO_op x3, b1, b3⟩, Or.inl ⟨isO_op x3, rfl, rfl⟩⟩⟩
  · obtain ⟨b1, b2⟩ := pOp_opd hT a1
    exact ⟨b1, OPD0, by show t = _; rw [b2, oT0, Bool.or_false], Or.inr rfl⟩
theorem pSt_w {T : Nat → Nat} {L kd k k2 : Nat} (hT : ∀ i, i < L → T i < 256) {s : ST0} {t : Bool} (h1 : 1 ≤ kd) (h6 : kd ≤ 6) (h : pSt T L kd k = .ok (s, k2, t)) (h3 : kd = 1 → tk T L k = 3) (h4 : kd = 2 → tk T L k = 4) : STW T L kd s t := by
  have NW : ∃ w0 w1 : Option Nat, wyV T L 0 = oW w0 ∧ wyV T L 0 = oW w1 ∧ (∀ v, w0 = some v → v < 40) ∧ (∀ v, w1 = some v → v < 40) ∧ w0 = none ∧ w1 = none := ⟨none, none, rfl, rfl, fun _ q => (by cases q), fun _ q => (by cases q), rfl, rfl⟩
  obtain ⟨w0, w1, n1, n2, n3, n4, n5, n6⟩ := NW
  rcases (show kd = 1 ∨ kd = 2 ∨ kd = 3 ∨ kd = 4 ∨ kd = 5 ∨ kd = 6 by omega) with rfl | rfl | rfl | rfl | rfl | rfl
  · obtain ⟨v, a1, a2, rfl, rfl, rfl⟩ := pSt_ok1 h
    obtain ⟨b1, b2, b3, b4⟩ := pVl_w hT a2
    have hv := tv_345.1 (h3 rfl)
    rcases b4 with ⟨x, c1, c2, c3⟩ | c1
    · have e : (if v.2.2.1.isSome = true then 0 else 1) = 0 := by rw [c1]; rfl
      rw [e]
      exact ⟨Or.inr ⟨rfl, rfl⟩, Or.inl ⟨by simp, _, hv, rfl, by rw [b3, Bool.or_assoc]⟩, b1, b2, Or.inl ⟨rfl, x, c1, c2, c3⟩, ⟨w0, w1, n1, n2, n3, n4, fun _ => ⟨n5, n6⟩, fun q => (by cases q), fun q => (by cases q), fun q => (by cases q)⟩, by simp⟩
    · have e : (if v.2.2.1.isSome = true then 0 else 1) = 1 := by rw [c1]; rfl
      rw [e]
      exact ⟨Or.inl rfl, Or.inl ⟨by simp, _, hv, rfl, by rw [b3, Bool.or_assoc]⟩, b1, b2, Or.inr ⟨by simp, c1⟩, ⟨w0, w1, n1, n2, n3, n4, fun _ => ⟨n5, n6⟩, fun q => (by cases q), fun q => (by cases q), fun q => (by cases q)⟩, by simp⟩
  · obtain ⟨o, k1, t1, o2, t2, a1, a2, a3, a4, a5, rfl, rfl⟩ := pSt_ok2 h
    obtain ⟨b1, b2⟩ := pOp_opd hT a2
    obtain ⟨b3, b4⟩ := pOp_opd hT a5
    exact ⟨Or.inl rfl, Or.inr (Or.inl ⟨rfl, ⟨_, tv_345.2.1 (h4 rfl), rfl⟩, by rw [b2, b4]⟩), b1, b3, Or.inr ⟨by simp, rfl⟩, ⟨w0, w1, n1, n2, n3, n4, fun _ => ⟨n5, n6⟩, fun q => (by cases q), fun q => (by cases q), fun q => (by cases q)⟩, by simp⟩
  · obtain ⟨o, a1, rfl⟩ := pSt_ok3 h
    obtain ⟨b1, b2⟩ := pOp_opd hT a1
    exact ⟨Or.inl rfl, Or.inr (Or.inr ⟨by simp, rfl, by show t = (oT o || oT (nI 0)); rw [b2, oT0, Bool.or_false]⟩), b1, OPD0, Or.inr ⟨by simp, rfl⟩, ⟨w0, w1, n1, n2, n3, n4, fun _ => ⟨n5, n6⟩, fun q => (by cases q), fun q => (by cases q), fun q => (by cases q)⟩, by simp⟩
  · obtain ⟨a1, rfl, rfl, rfl⟩ := pSt_ok4 h
    exact ⟨Or.inl rfl, Or.inr (Or.inr ⟨by simp, rfl, (by decide : false = (oT (nI 0) || oT (nI 0)))⟩), OPD0, OPD0, Or.inr ⟨by simp, rfl⟩, ⟨some (tv T L (k + 1)), w1, wyV_p (k := k + 1) (by omega), n2, fun v q => (by cases q; exact tv_345.2.2 a1), n4, fun q => absurd q (by decide : ¬ 4 < 4), fun _ => ⟨rfl, n6⟩, fun q => (by cases q), fun q => (by cases q)⟩, by simp⟩
  · obtain ⟨o, k1, t1, o2, k3, t2, a1, a2, a3, a4, a5, rfl, rfl, rfl⟩ := pSt_ok5 h
    obtain ⟨b1, b2⟩ := pOp_opd hT a1
    obtain ⟨b3, b4⟩ := pOp_opd hT a3
    have l0 : 0 < k3 := by rcases pOp_ok a3 with ⟨-, -, -, -, e, -⟩ | ⟨-, -, e, -⟩ | ⟨-, -, e, -⟩ <;> omega
    exact ⟨Or.inl rfl, Or.inr (Or.inr ⟨by simp, rfl, by rw [b2, b4]⟩), b1, b3, Or.inr ⟨by simp, rfl⟩, ⟨some (tv T L k3), some (tv T L (k3 + 1)), wyV_p l0, wyV_p (k := k3 + 1) (by omega), fun v q => (by cases q; exact tv_345.2.2 a4), fun v q => (by cases q; exact tv_345.2.2 a5), fun q => absurd q (by decide : ¬ 5 < 4), fun q => (by cases q), fun _ => ⟨rfl, rfl⟩, fun q => (by cases q)⟩, by simp⟩
  · obtain ⟨rfl, rfl, rfl⟩ := pSt_ok6 h
    exact ⟨Or.inl rfl, Or.inr (Or.inr ⟨by simp, rfl, (by decide : false = (oT (nI 0) || oT (nI 0)))⟩), OPD0, OPD0, Or.inr ⟨by simp, rfl⟩, ⟨w0, w1, n1, n2, n3, n4, fun q => absurd q (by decide), fun q => (by cases q), fun q => (by cases q), fun _ => ⟨n5, n6⟩⟩, by simp⟩
