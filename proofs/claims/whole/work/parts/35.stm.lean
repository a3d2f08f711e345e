/-! The class's parser: statements. -/
/-- NODE i of the Routine at b is r; what it names stands in 12, 13 -/
def RowR (σ : HS) (b i : Nat) (r : REC) : Prop := sI σ (b + 1) i = nI (rK r) ∧ sI σ (b + 2) i = nI (rB r) ∧ sI σ (b + 3) i = rT r ∧ sI σ (b + 5) i = rO0 r ∧ sI σ (b + 6) i = rO1 r ∧ sI σ (b + 7) i = rS r ∧ sI σ (b + 9) i = rW0 r ∧ sI σ (b + 10) i = rW1 r ∧ sI σ (b + 12) i = -1 ∧ sI σ (b + 13) i = -1 ∧ (4 ≤ rK r → rW0 r ≠ -1 → sI σ 12 (rB r) = nI (rP0 r)) ∧ (4 ≤ rK r → rW1 r ≠ -1 → sI σ 13 (rB r) = nI (rP1 r))
def r0 : REC := (0, 0, 0, 0, 0, 0, 0, 0, 0, 0)
/-- what the Routine at b holds of a text read so far -/
def PSR (σ : HS) (b : Nat) (q : PS) : Prop := sI σ b 12 = nI (psF q).length ∧ sI σ b 13 = nI (psS q).length ∧ sI σ b 14 = nI (psS q).length ∧ sI σ b 15 = nI 0 ∧ sI σ b 16 = bi (psT q) ∧ SR σ b (psM q) (psX q) ∧ (∀ i, i < (psS q).length → RowR σ b i ((psS q).getD i r0)) ∧ (∀ j, j < (psF q).length → sI σ (b + 15) j = nI ((psF q).getD j 0)) ∧ (0 < (psF q).length → sI σ (b + 15) (psF q).length = nI (psS q).length) ∧ (∀ j, j < (psH q).length → sI σ 10 j = nI ((psH q).getD j 0))
/-- what a statement may change -/
def AF (b n nb : Nat) (σ σ' : HS) : Prop := sL σ' = sL σ ∧ sR σ' = sR σ ∧ sN σ' = sN σ ∧ ∀ h i, ¬ ((h = 5 ∧ i ≤ 4) ∨ (h = b ∧ (i = 13 ∨ i = 14 ∨ i = 16)) ∨ (b + 1 ≤ h ∧ h ≤ b + 13 ∧ i = n) ∨ (b + 17 ≤ h ∧ h ≤ b + 20) ∨ (h = b + 15 ∧ i = nb) ∨ ((h = 12 ∨ h = 13) ∧ i = nb - 1)) → sI σ' h i = sI σ h i
theorem AF.rf {b n nb : Nat} {σ : HS} : AF b n nb σ σ := ⟨rfl, rfl, rfl, fun _ _ _ => rfl⟩
theorem AF.uI {b n nb : Nat} {σ σ' : HS} {h i : Nat} {v : Int32} (k : AF b n nb σ σ') (hh : (h = 5 ∧ i ≤ 4) ∨ (h = b ∧ (i = 13 ∨ i = 14 ∨ i = 16)) ∨ (b + 1 ≤ h ∧ h ≤ b + 13 ∧ i = n) ∨ (b + 17 ≤ h ∧ h ≤ b + 20) ∨ (h = b + 15 ∧ i = nb) ∨ ((h = 12 ∨ h = 13) ∧ i = nb - 1)) : AF b n nb σ (uI σ' h i v) := by
  refine ⟨k.1, k.2.1, k.2.2.1, fun a c q => ?_⟩
  rw [sI_uI, if_neg (by rintro ⟨rfl, rfl⟩; exact q hh)]
  exact k.2.2.2 a c q
theorem AF.sv {b n nb : Nat} {σ σ' σ'' : HS} (k : AF b n nb σ σ') (k2 : SV1 b n σ' σ'') : AF b n nb σ σ'' := ⟨k2.1.trans k.1, k2.2.1.trans k.2.1, k2.2.2.1.trans k.2.2.1, fun a c q => (k2.2.2.2 a c (by omega)).trans (k.2.2.2 a c q)⟩
theorem AF.bf {b n nb : Nat} {σ σ' : HS} (k : AF b n nb σ σ') : BFr b σ σ' := ⟨k.1, k.2.1, k.2.2.1, fun h hh => funext fun i => k.2.2.2 h i (by omega)⟩
/-- NODE n, r, was added to a Routine with nb blocks -/
def AddS (b n nb : Nat) (σ σ' : HS) (r : REC) (ss : List SUM) (m t : Bool) : Prop := AF b n nb σ σ' ∧ sI σ' b 13 = nI (n + 1) ∧ sI σ' b 14 = nI (n + 1) ∧ sI σ' b 16 = bi t ∧ SR σ' b ss m ∧ sI σ' (b + 15) nb = nI (n + 1) ∧ RowR σ' b n r
def recS (T : Nat → Nat) (L b : Nat) (s : ST0) (sm : Int32) : REC := (s.1, b, s.2.1, s.2.2.1, s.2.2.2.1, sm, wyV T L s.2.2.2.2.2.1, wyV T L s.2.2.2.2.2.2, ts T L s.2.2.2.2.2.1, ts T L s.2.2.2.2.2.2)
def sumS (ss : List SUM) : Option SUM → Int32 × List SUM × Bool
  | none => (-1, ss, false)
  | some x => nSum ss x
theorem psAdd_eq {T : Nat → Nat} {L b : Nat} {q : PS} {s : ST0} {t : Bool} : psAdd T L q b s t = (psS q ++ [recS T L b s (sumS (psM q) s.2.2.2.2.1).1], (sumS (psM q) s.2.2.2.2.1).2.1, psX q || (sumS (psM q) s.2.2.2.2.1).2.2, psT q || t, psF q, psH q) := by
  obtain ⟨a1, a2, a3, a4, a5, a6, a7⟩ := s
  unfold psAdd
  cases a5 with
  | none => simp [recS, sumS]
  | some x => rfl
theorem SR.cg {σ : HS} {b : Nat} {ss : List SUM} {m m' : Bool} (h : SR σ b ss m) (e : m = m') : SR σ b ss m' := by rw [← e]; exact h
theorem wyV_p {T : Nat → Nat} {L k : Nat} (h : 0 < k) : wyV T L k = nI (tv T L k) := if_neg (by omega)
theorem bi_t1 (a : Bool) {v : Nat} (h : 16 ≤ v) : (bi a ||| nI 1) = bi (a || decide (16 ≤ v)) := by rw [decide_eq_true h]; cases a <;> rfl
theorem bi_t0 (a : Bool) {v : Nat} (h : v < 16) : (bi a ||| nI 0) = bi (a || decide (16 ≤ v)) := by rw [decide_eq_false (by omega)]; cases a <;> rfl
theorem pSt_ok1 {T : Nat → Nat} {L k : Nat} {s : ST0} {k2 : Nat} {t : Bool} (h : pSt T L 1 k = .ok (s, k2, t)) : ∃ v, pSg T L 61 (k + 1) = .ok (k + 1 + 1) ∧ pVl T L (k + 1 + 1) = .ok v ∧ s = ((if v.2.2.1.isSome then 0 else 1), nI (tv T L k), v.1, v.2.1, v.2.2.1, 0, 0) ∧ k2 = v.2.2.2.1 ∧ t = (decide (16 ≤ tv T L k) || v.2.2.2.2) := by
  unfold pSt at h
  simp only [if_true, bd_ok] at h
  obtain ⟨k1, a1, v, a2, a3⟩ := h
  have e := (pSg_ok a1).2.2
  subst e
  cases a3
  exact ⟨v, a1, a2, rfl, rfl, rfl⟩
theorem pSt_ok2 {T : Nat → Nat} {L k : Nat} {s : ST0} {k2 : Nat} {t : Bool} (h : pSt T L 2 k = .ok (s, k2, t)) : ∃ o k1 t1 o2 t2, pSg T L 91 (k + 1) = .ok (k + 1 + 1) ∧ pOp T L (k + 1 + 1) = .ok (o, k1, t1) ∧ pSg T L 93 k1 = .ok (k1 + 1) ∧ pSg T L 61 (k1 + 1) = .ok (k1 + 1 + 1) ∧ pOp T L (k1 + 1 + 1) = .ok (o2, k2, t2) ∧ s = (2, nI (tv T L k), o, o2, none, 0, 0) ∧ t = (t1 || t2) := by
  unfold pSt at h
  rw [if_neg (by decide), if_pos rfl] at h
  simp only [bd_ok] at h
  obtain ⟨k1, a1, ⟨o, k3, t1⟩, a2, k4, a3, k5, a4, ⟨o2, k6, t2⟩, a5, a6⟩ := h
  have e := (pSg_ok a1).2.2
  subst e
  have e := (pSg_ok a3).2.2
  subst e
  have e := (pSg_ok a4).2.2
  subst e
  cases a6
  exact ⟨o, k3, t1, o2, t2, a1, a2, a3, a4, a5, rfl, rfl⟩
theorem pSt_ok3 {T : Nat → Nat} {L k : Nat} {s : ST0} {k2 : Nat} {t : Bool} (h : pSt T L 3 k = .ok (s, k2, t)) : ∃ o, pOp T L (k + 1) = .ok (o, k2, t) ∧ s = (3, -1, o, nI 0, none, 0, 0) := by
  unfold pSt at h
  rw [if_neg (by decide), if_neg (by decide), if_pos rfl] at h
  simp only [bd_ok] at h
  obtain ⟨⟨o, k3, t1⟩, a1, a2⟩ := h
  cases a2
  exact ⟨o, a1, rfl⟩
theorem pWy_ok {T : Nat → Nat} {L k k2 : Nat} (h : pWy T L k = .ok k2) : tk T L k = 5 ∧ k2 = k + 1 := by
  unfold pWy at h
  by_cases h1 : tk T L k = 5
  · rw [if_pos h1] at h; cases h; exact ⟨h1, rfl⟩
  · rw [if_neg h1] at h; cases h
theorem pWy_er {T : Nat → Nat} {L k : Nat} {e : Nat × Nat} (h : pWy T L k = .error e) : tk T L k ≠ 5 ∧ e = er T L k 2 := by
  unfold pWy at h
  by_cases h1 : tk T L k = 5
  · rw [if_pos h1] at h; cases h
  · rw [if_neg h1] at h; cases h; exact ⟨h1, rfl⟩
theorem pSt_ok4 {T : Nat → Nat} {L k : Nat} {s : ST0} {k2 : Nat} {t : Bool} (h : pSt T L 4 k = .ok (s, k2, t)) : tk T L (k + 1) = 5 ∧ k2 = k + 1 + 1 ∧ s = (4, -1, nI 0, nI 0, none, k + 1, 0) ∧ t = false := by
  unfold pSt at h
  rw [if_neg (by decide), if_neg (by decide), if_neg (by decide), if_pos rfl] at h
  simp only [bd_ok] at h
  obtain ⟨k1, a1, a2⟩ := h
  obtain ⟨e1, rfl⟩ := pWy_ok a1
  cases a2
  exact ⟨e1, rfl, rfl, rfl⟩
theorem pSt_ok5 {T : Nat → Nat} {L k : Nat} {s : ST0} {k2 : Nat} {t : Bool} (h : pSt T L 5 k = .ok (s, k2, t)) : ∃ o k1 t1 o2 k3 t2, pOp T L (k + 1) = .ok (o, k1, t1) ∧ pSg T L 60 k1 = .ok (k1 + 1) ∧ pOp T L (k1 + 1) = .ok (o2, k3, t2) ∧ tk T L k3 = 5 ∧ tk T L (k3 + 1) = 5 ∧ k2 = k3 + 1 + 1 ∧ s = (5, -1, o, o2, none, k3, k3 + 1) ∧ t = (t1 || t2) := by
  unfold pSt at h
  rw [if_neg (by decide), if_neg (by decide), if_neg (by decide), if_neg (by decide), if_pos rfl] at h
  simp only [bd_ok] at h
  obtain ⟨⟨o, k1, t1⟩, a1, k4, a2, ⟨o2, k3, t2⟩, a3, k5, a4, k6, a5, a6⟩ := h
  have e := (pSg_ok a2).2.2
  subst e
  obtain ⟨e1, rfl⟩ := pWy_ok a4
  obtain ⟨e2, rfl⟩ := pWy_ok a5
  cases a6
  exact ⟨o, k1, t1, o2, k3, t2, a1, a2, a3, e1, e2, rfl, rfl, rfl⟩
theorem pSt_ok6 {T : Nat → Nat} {L k : Nat} {s : ST0} {k2 : Nat} {t : Bool} (h : pSt T L 6 k = .ok (s, k2, t)) : k2 = k + 1 ∧ s = (6, -1, nI 0, nI 0, none, 0, 0) ∧ t = false := by
  unfold pSt at h
  rw [if_neg (by decide), if_neg (by decide), if_neg (by decide), if_neg (by decide), if_neg (by decide)] at h
  cases h
  exact ⟨rfl, rfl, rfl⟩
theorem pSt_er1 {T : Nat → Nat} {L k : Nat} {e : Nat × Nat} (h : pSt T L 1 k = .error e) : pSg T L 61 (k + 1) = .error e ∨ (pSg T L 61 (k + 1) = .ok (k + 1 + 1) ∧ pVl T L (k + 1 + 1) = .error e) := by
  unfold pSt at h
  simp only [if_true, bd_er] at h
  rcases h with h | ⟨k1, a1, h⟩
  · exact Or.inl h
  · have e := (pSg_ok a1).2.2
    subst e
    rcases h with h | ⟨v, a2, h⟩
    · exact Or.inr ⟨a1, h⟩
    · cases h
theorem pSt_er2 {T : Nat → Nat} {L k : Nat} {e : Nat × Nat} (h : pSt T L 2 k = .error e) : pSg T L 91 (k + 1) = .error e ∨ (pSg T L 91 (k + 1) = .ok (k + 1 + 1) ∧ (pOp T L (k + 1 + 1) = .error e ∨ ∃ o k1 t1, pOp T L (k + 1 + 1) = .ok (o, k1, t1) ∧ (pSg T L 93 k1 = .error e ∨ (pSg T L 93 k1 = .ok (k1 + 1) ∧ (pSg T L 61 (k1 + 1) = .error e ∨ (pSg T L 61 (k1 + 1) = .ok (k1 + 1 + 1) ∧ pOp T L (k1 + 1 + 1) = .error e)))))) := by
  unfold pSt at h
  rw [if_neg (by decide), if_pos rfl] at h
  simp only [bd_er] at h
  rcases h with h | ⟨k1, a1, h⟩
  · exact Or.inl h
  · have e := (pSg_ok a1).2.2
    subst e
    refine Or.inr ⟨a1, ?_⟩
    rcases h with h | ⟨⟨o, k3, t1⟩, a2, h⟩
    · exact Or.inl h
    · refine Or.inr ⟨o, k3, t1, a2, ?_⟩
      rcases h with h | ⟨k4, a3, h⟩
      · exact Or.inl h
      · have e := (pSg_ok a3).2.2
        subst e
        refine Or.inr ⟨a3, ?_⟩
        rcases h with h | ⟨k5, a4, h⟩
        · exact Or.inl h
        · have e := (pSg_ok a4).2.2
          subst e
          rcases h with h | ⟨v, a5, h⟩
          · exact Or.inr ⟨a4, h⟩
          · cases h
theorem pSt_er3 {T : Nat → Nat} {L k : Nat} {e : Nat × Nat} (h : pSt T L 3 k = .error e) : pOp T L (k + 1) = .error e := by
  unfold pSt at h
  rw [if_neg (by decide), if_neg (by decide), if_pos rfl] at h
  simp only [bd_er] at h
  rcases h with h | ⟨v, a2, h⟩
  · exact h
  · cases h
theorem pSt_er4 {T : Nat → Nat} {L k : Nat} {e : Nat × Nat} (h : pSt T L 4 k = .error e) : tk T L (k + 1) ≠ 5 ∧ e = er T L (k + 1) 2 := by
  unfold pSt at h
  rw [if_neg (by decide), if_neg (by decide), if_neg (by decide), if_pos rfl] at h
  simp only [bd_er] at h
  rcases h with h | ⟨v, a2, h⟩
  · exact pWy_er h
  · cases h
theorem pSt_er5 {T : Nat → Nat} {L k : Nat} {e : Nat × Nat} (h : pSt T L 5 k = .error e) : pOp T L (k + 1) = .error e ∨ ∃ o k1 t1, pOp T L (k + 1) = .ok (o, k1, t1) ∧ (pSg T L 60 k1 = .error e ∨ (pSg T L 60 k1 = .ok (k1 + 1) ∧ (pOp T L (k1 + 1) = .error e ∨ ∃ o2 k3 t2, pOp T L (k1 + 1) = .ok (o2, k3, t2) ∧ ((tk T L k3 ≠ 5 ∧ e = er T L k3 2) ∨ (tk T L k3 = 5 ∧ tk T L (k3 + 1) ≠ 5 ∧ e = er T L (k3 + 1) 2))))) := by
  unfold pSt at h
  rw [if_neg (by decide), if_neg (by decide), if_neg (by decide), if_neg (by decide), if_pos rfl] at h
  simp only [bd_er] at h
  rcases h with h | ⟨⟨o, k1, t1⟩, a1, h⟩
  · exact Or.inl h
  · refine Or.inr ⟨o, k1, t1, a1, ?_⟩
    rcases h with h | ⟨k4, a2, h⟩
    · exact Or.inl h
    · have e := (pSg_ok a2).2.2
      subst e
      refine Or.inr ⟨a2, ?_⟩
      rcases h with h | ⟨⟨o2, k3, t2⟩, a3, h⟩
      · exact Or.inl h
      · refine Or.inr ⟨o2, k3, t2, a3, ?_⟩
        rcases h with h | ⟨k5, a4, h⟩
        · exact Or.inl (pWy_er h)
        · obtain ⟨e1, rfl⟩ := pWy_ok a4
          rcases h with h | ⟨v, a5, h⟩
          · exact Or.inr ⟨e1, pWy_er h⟩
          · cases h
theorem pSt_er6 {T : Nat → Nat} {L k : Nat} {e : Nat × Nat} (h : pSt T L 6 k = .error e) : False := by
  unfold pSt at h
  rw [if_neg (by decide), if_neg (by decide), if_neg (by decide), if_neg (by decide), if_neg (by decide)] at h
  cases h
theorem pVl_lt {T : Nat → Nat} {L N k : Nat} {v : Int32 × Int32 × Option SUM × Nat × Bool} (hN : ts T L N = L) (h : pVl T L k = .ok v) : k < v.2.2.2.1 ∧ v.2.2.2.1 ≤ N := by
  rcases pVl_ok h with ⟨x1, o, k2, t, a1, a2, a3, rfl⟩ | ⟨x1, o, k1, t, a1, ⟨x2, x3, o2, k2, t2, a2, rfl⟩ | ⟨x2, rfl⟩⟩
  · have l1 := pSg_lt hN a1
    have l2 := pOp_lt hN a2
    have l3 := pSg_lt hN a3
    simp only; omega
  · have l1 := pOp_lt hN a1
    have l2 := pOp_lt hN a2
    simp only; omega
  · have l1 := pOp_lt hN a1
    simp only; omega
theorem pSt_lt {T : Nat → Nat} {L N kd k : Nat} {s : ST0} {k2 : Nat} {t : Bool} (hN : ts T L N = L) (hk : k < N) (h1 : 1 ≤ kd) (h6 : kd ≤ 6) (h : pSt T L kd k = .ok (s, k2, t)) : k < k2 ∧ k2 ≤ N ∧ (s.1 = kd ∨ (kd = 1 ∧ s.1 = 0)) := by
  rcases (show kd = 1 ∨ kd = 2 ∨ kd = 3 ∨ kd = 4 ∨ kd = 5 ∨ kd = 6 by omega) with rfl | rfl | rfl | rfl | rfl | rfl
  · obtain ⟨v, a1, a2, rfl, rfl, rfl⟩ := pSt_ok1 h
    have l1 := pVl_lt hN a2
    refine ⟨by omega, by omega, ?_⟩
    cases v.2.2.1
    · exact Or.inl rfl
    · exact Or.inr ⟨rfl, rfl⟩
  · obtain ⟨o, k1, t1, o2, t2, a1, a2, a3, a4, a5, rfl, rfl⟩ := pSt_ok2 h
    have l1 := pOp_lt hN a2
    have l2 := pOp_lt hN a5
    exact ⟨by omega, by omega, Or.inl rfl⟩
  · obtain ⟨o, a1, rfl⟩ := pSt_ok3 h
    have l1 := pOp_lt hN a1
    exact ⟨by omega, by omega, Or.inl rfl⟩
  · obtain ⟨a1, rfl, rfl, rfl⟩ := pSt_ok4 h
    have l1 := tk_lt hN (k := k + 1) (by omega)
    exact ⟨by omega, by omega, Or.inl rfl⟩
  · obtain ⟨o, k1, t1, o2, k3, t2, a1, a2, a3, a4, a5, rfl, rfl, rfl⟩ := pSt_ok5 h
    have l1 := pOp_lt hN a1
    have l3 := pOp_lt hN a3
    have l2 := tk_lt hN (k := k3 + 1) (by omega)
    exact ⟨by omega, by omega, Or.inl rfl⟩
  · obtain ⟨rfl, rfl, rfl⟩ := pSt_ok6 h
    exact ⟨by omega, by omega, Or.inl rfl⟩
theorem add_val {b n nb k : Nat} {σ s s' : HS} {T : Nat → Nat} {L : Nat} {ss : List SUM} {m t0 : Bool} {v : Int32 × Int32 × Option SUM × Nat × Bool} (hb14 : b = 14 ∨ 99 ≤ b) (hch : AF b n nb σ s) (g13 : sI s b 13 = nI (n + 1)) (g14 : sI s b 14 = nI (n + 1)) (gF : sI s (b + 15) nb = nI (n + 1)) (c1 : sI s (b + 1) n = nI 1) (c2 : sI s (b + 2) n = nI (nb - 1)) (c3 : sI s (b + 3) n = nI (tv T L k)) (c7 : sI s (b + 7) n = -1) (c9 : sI s (b + 9) n = -1) (c10 : sI s (b + 10) n = -1) (c12 : sI s (b + 12) n = -1) (c13 : sI s (b + 13) n = -1) (h : VlE b n s s' ss m (t0 || decide (16 ≤ tv T L k)) v) : sI s' 5 3 = nI v.2.2.2.1 ∧ AddS b n nb σ s' (recS T L (nb - 1) ((if v.2.2.1.isSome then 0 else 1), nI (tv T L k), v.1, v.2.1, v.2.2.1, 0, 0) (sumS ss v.2.2.1).1) (sumS ss v.2.2.1).2.1 (m || (sumS ss v.2.2.1).2.2) (t0 || (decide (16 ≤ tv T L k) || v.2.2.2.2)) := by
  obtain ⟨h1, h2, h3, h4, h5, h6⟩ := h
  have F := h1.2.2.2
  rw [Bool.or_assoc] at h3
  obtain ⟨v1, v2, v3, v4, v5⟩ := v
  refine ⟨h2, hch.sv h1, (F b 13 (by omega)).trans g13, (F b 14 (by omega)).trans g14, h3, ?_, (F (b + 15) nb (by omega)).trans gF, ?_, (F (b + 2) n (by omega)).trans c2, (F (b + 3) n (by omega)).trans c3, h4, h5, ?_, (F (b + 9) n (by omega)).trans c9, (F (b + 10) n (by omega)).trans c10, (F (b + 12) n (by omega)).trans c12, (F (b + 13) n (by omega)).trans c13, fun _ q => absurd rfl q, fun _ q => absurd rfl q⟩
  · cases v3 with
    | none => exact SR.cg h6.2.2 (Bool.or_false m).symm
    | some x => exact h6.2.2
  · cases v3 with
    | none => exact h6.1.trans c1
    | some x => exact h6.1
  · cases v3 with
    | none => exact h6.2.1.trans c7
    | some x => exact h6.2.1
theorem AF.tr {b n nb : Nat} {σ σ' σ'' : HS} (k : AF b n nb σ σ') (k2 : AF b n nb σ' σ'') : AF b n nb σ σ'' := ⟨k2.1.trans k.1, k2.2.1.trans k.2.1, k2.2.2.1.trans k.2.2.1, fun a c q => (k2.2.2.2 a c q).trans (k.2.2.2 a c q)⟩
theorem PCt.fe {σ σ' : HS} {T : Nat → Nat} {L N : Nat} (k : PCt σ T L N) (h : ∀ h, 6 ≤ h → h ≤ 9 → sI σ' h = sI σ h) : PCt σ' T L N := by
  obtain ⟨g1, g2, g3, g4, g5⟩ := k
  refine ⟨by rw [h 6 (by decide) (by decide)]; exact g1, g2, g3, g4, fun q hq => ?_⟩
  rw [h 7 (by decide) (by decide), h 8 (by decide) (by decide), h 9 (by decide) (by decide)]
  exact g5 q hq
theorem PCt.bf {b : Nat} {σ σ' : HS} {T : Nat → Nat} {L N : Nat} (hb14 : b = 14 ∨ 99 ≤ b) (h : BFr b σ σ') (k : PCt σ T L N) : PCt σ' T L N := k.fe fun x h1 h2 => h.2.2.2 x (by omega)
theorem SR.fe {σ σ' : HS} {b : Nat} {ss : List SUM} {m : Bool} (k : SR σ b ss m) (h : ∀ x i, b + 17 ≤ x → x ≤ b + 20 → sI σ' x i = sI σ x i) : SR σ' b ss m := by
  obtain ⟨g1, g2, g3, g4⟩ := k
  refine ⟨(h _ _ (by omega) (by omega)).trans g1, g2, (h _ _ (by omega) (by omega)).trans g3, fun e he => ?_⟩
  rw [h (b + 18) e (by omega) (by omega), h (b + 19) e (by omega) (by omega), h (b + 20) e (by omega) (by omega)]
  exact g4 e he
/-- what addNode may change -/
def AG (b n nb : Nat) (σ σ' : HS) : Prop := sL σ' = sL σ ∧ sR σ' = sR σ ∧ sN σ' = sN σ ∧ ∀ h i, ¬ ((h = b ∧ (i = 13 ∨ i = 14)) ∨ (b + 1 ≤ h ∧ h ≤ b + 13 ∧ i = n) ∨ (h = b + 15 ∧ i = nb)) → sI σ' h i = sI σ h i
theorem AG.rf {b n nb : Nat} {σ : HS} : AG b n nb σ σ := ⟨rfl, rfl, rfl, fun _ _ _ => rfl⟩
theorem AG.uI {b n nb : Nat} {σ σ' : HS} {h i : Nat} {v : Int32} (k : AG b n nb σ σ') (hh : (h = b ∧ (i = 13 ∨ i = 14)) ∨ (b + 1 ≤ h ∧ h ≤ b + 13 ∧ i = n) ∨ (h = b + 15 ∧ i = nb)) : AG b n nb σ (uI σ' h i v) := by
  refine ⟨k.1, k.2.1, k.2.2.1, fun a c q => ?_⟩
  rw [sI_uI, if_neg (by rintro ⟨rfl, rfl⟩; exact q hh)]
  exact k.2.2.2 a c q
theorem AG.af {b n nb : Nat} {σ σ' : HS} (k : AG b n nb σ σ') : AF b n nb σ σ' := ⟨k.1, k.2.1, k.2.2.1, fun h i q => k.2.2.2 h i (by omega)⟩
theorem CT.mono {g : GG} {M : MI} {d mc ms : Nat} {as : List Value} {σ : HS} {Q Q' : Option Value → HS → Prop} (hQ : ∀ r σ', Q r σ' → Q' r σ') (h : CT g M d mc ms as σ Q) : CT g M d mc ms as σ Q' := by
  unfold CT Met at h ⊢
  refine MetFree.mono h (fun _ _ h => h) (fun _ _ _ _ _ h => h) ?_
  rintro a st o t - ⟨⟨r, σ', h1, h2, h3⟩, h4⟩
  exact ⟨⟨r, σ', h1, hQ _ _ h2, h3⟩, h4⟩
/-- behind addNode -/
def ADN (b n nb kd bl : Nat) (σ σ' : HS) : Prop := AG b n nb σ σ' ∧ sI σ' b 13 = nI (n + 1) ∧ sI σ' b 14 = nI (n + 1) ∧ sI σ' (b + 15) nb = nI (n + 1) ∧ sI σ' (b + 1) n = nI kd ∧ sI σ' (b + 2) n = nI bl ∧ sI σ' (b + 3) n = -1 ∧ sI σ' (b + 5) n = nI 0 ∧ sI σ' (b + 6) n = nI 0 ∧ sI σ' (b + 7) n = -1 ∧ sI σ' (b + 9) n = -1 ∧ sI σ' (b + 10) n = -1 ∧ sI σ' (b + 12) n = -1 ∧ sI σ' (b + 13) n = -1
theorem z2_addNodeV {g : GG} {σ : HS} {b : Nat} (hb : RB σ b) {n k bl nb : Nat} (hn : n < 240) (hN : sI σ b 14 = nI n) (hB : sI σ b 12 = nI nb) (h40 : nb ≤ 40) : CT g mX2_addNode 2 0 0 [.ref b, .int (nI k), .int (nI bl)] σ (WQ (.int (nI n)) (fun σ' => ADN b n nb k bl σ σ')) := by
  refine CT.mono ?_ (z2_addNode hb hn hN hB h40)
  rintro r σ' ⟨rfl, rfl⟩
  refine ⟨rfl, ((((((((((((AG.rf.uI (by omega)).uI (by omega)).uI (by omega)).uI (by omega)).uI (by omega)).uI (by omega)).uI (by omega)).uI (by omega)).uI (by omega)).uI (by omega)).uI (by omega)).uI (by omega)).uI (by omega), ?_, ?_, ?_, ?_, ?_, ?_, ?_, ?_, ?_, ?_, ?_, ?_, ?_⟩
  all_goals simp only [sI_uI, Nat.add_right_cancel_iff, Nat.add_left_cancel_iff, and_true, and_self, true_and, if_true, Nat.reduceEqDiff, if_false, false_and, and_false, Nat.add_eq_left, Nat.left_eq_add, Nat.reduceEqDiff]
theorem z1_rs1_ok {g : GG} {σ : HS} (hS : SK σ) {b : Nat} (hb : RB σ b) (hR : sR σ 5 5 = b) {T : Nat → Nat} {L N k n nb : Nat} (hn : n < 160) (h1 : 1 ≤ nb) (h40 : nb ≤ 40) (hC : PCt σ T L N) (hT : ∀ i, i < L → T i < 256) (hk : sI σ 5 3 = nI k) (hkN : k < N) {ss : List SUM} {m t0 : Bool} (hB : sI σ b 12 = nI nb) (hN : sI σ b 14 = nI n) (ht : sI σ b 16 = bi t0) (hs : SR σ b ss m) {s : ST0} {k2 : Nat} {t : Bool} (hx : pSt T L 1 k = .ok (s, k2, t)) : CT g mX1_readStatement 6 0 0 [.ref 5, .int (nI 1)] σ (WQ (.int (bi true)) (fun σ' => sI σ' 5 3 = nI k2 ∧ AddS b n nb σ σ' (recS T L (nb - 1) s (sumS ss s.2.2.2.2.1).1) (sumS ss s.2.2.2.2.1).2.1 (m || (sumS ss s.2.2.2.2.1).2.2) (t0 || t))) := by
  have hb14 : b = 14 ∨ 99 ≤ b := by rcases hb.1 with h | ⟨j, h⟩ <;> omega
  obtain ⟨h6, h2, h3, h4, h5⟩ := id hC
  have hv := (h5 k (by omega)).2.1
  have hvb := tv_b (k := k) hT
  obtain ⟨v, a1, a2, rfl, rfl, rfl⟩ := pSt_ok1 hx
  have l1 := pSg_lt h4 a1
  have l2 := pVl_lt h4 a2
  refine CT.of (by decide) (Nat.le_of_ble_eq_true rfl) ?_
  refine q_aload_n dX1_readStatement_0 rfl rfl rfl ?_
  refine q_getr (r := b) dX1_readStatement_1 fX1_30 rfl (ty_c hS (by decide) rfl) hR ?_
  refine q_iload_n dX1_readStatement_4 rfl rfl ?_
  refine q_aload_n dX1_readStatement_5 rfl rfl rfl ?_
  refine q_getr (r := b) dX1_readStatement_6 fX1_30 rfl (ty_c hS (by decide) rfl) hR ?_
  refine q_geti (x := nI nb) dX1_readStatement_9 fX1_95 rfl (ty_r hb 0 rfl) hB ?_
  refine q_iconst (v := nI 1) dX1_readStatement_12 rfl ?_
  refine q_isubN dX1_readStatement_13 (by omega) ?_
  refine q_callV (As := [.int (nI 1), .int (nI (nb - 1))]) (rest := []) dX1_readStatement_14 vX1_98 (ty_r hb 0 rfl) ⟨by decide, rfl⟩ (z2_addNodeV hb (by omega) hN hB h40) rfl rfl (Nat.le_of_ble_eq_true rfl) (by omega) (by omega) (by omega) (k_w (fun s14 q14 => ?_))
  obtain ⟨qa, d13, d14, dF, d1, d2, d3, d5, d6, d7, d9, d10, d12, d13b⟩ := q14
  have qf := qa.af.bf
  have hSa := SK.bf qf hS
  have hba := RB.bf qf hb
  have hRa : sR s14 5 5 = b := by rw [qf.2.1]; exact hR
  have hCa := PCt.bf hb14 qf hC
  have hsa : SR s14 b ss m := hs.fe fun x i z1 z2 => qa.2.2.2 x i (by omega)
  have hka : sI s14 5 3 = nI k := (qa.2.2.2 5 3 (by omega)).trans hk
  have hBa : sI s14 b 12 = nI nb := (qa.2.2.2 b 12 (by omega)).trans hB
  have hta : sI s14 b 16 = bi t0 := (qa.2.2.2 b 16 (by omega)).trans ht
  have hva : sI s14 8 k = nI (tv T L k) := (qa.2.2.2 8 k (by omega)).trans hv
  refine q_istore_n dX1_readStatement_17 rfl (by decide) (ls' := [(2, .int (nI n)), (0, .ref 5), (1, .int (nI 1))]) rfl ?_
  refine q_aload_n dX1_readStatement_18 rfl rfl rfl ?_
  refine q_getr (r := 6) dX1_readStatement_19 fX1_12 rfl (ty_c hSa (by decide) rfl) (hSa.2 5 0 6 rfl) ?_
  refine q_getr (r := 8) dX1_readStatement_22 fX1_73 rfl (ty_c hSa (by decide) rfl) (hSa.2 6 1 8 rfl) ?_
  refine q_aload_n dX1_readStatement_25 rfl rfl rfl ?_
  refine q_geti (x := nI k) dX1_readStatement_26 fX1_38 rfl (ty_c hSa (by decide) rfl) hka ?_
  refine q_iald (x := nI (tv T L k)) (j := k) dX1_readStatement_29 (ty_c hSa (by decide) rfl) (ix_n (by omega) (by omega)) hva ?_
  refine q_istore_n dX1_readStatement_30 rfl (by decide) (ls' := [(3, .int (nI (tv T L k))), (2, .int (nI n)), (0, .ref 5), (1, .int (nI 1))]) rfl ?_
  refine q_aload_n dX1_readStatement_31 rfl rfl rfl ?_
  refine q_dup dX1_readStatement_32 rfl ?_
  refine q_geti (x := nI k) dX1_readStatement_33 fX1_38 rfl (ty_c hSa (by decide) rfl) hka ?_
  refine q_iconst (v := nI 1) dX1_readStatement_36 rfl ?_
  refine q_iaddN dX1_readStatement_37 ?_
  refine q_puti dX1_readStatement_38 fX1_38 rfl (Or.inl rfl) (ty_c hSa (by decide) rfl) ?_
  refine q_iload_n dX1_readStatement_41 rfl rfl ?_
  by_cases w42_1 : 1 = 1
  · refine q_tableEq 1 (tgt := 76) (off := 34) dX1_readStatement_42 (by rw [w42_1]) (by decide) rfl (by decide) ?_
    refine q_aload_n dX1_readStatement_76 rfl rfl rfl ?_
    refine q_getr (r := b) dX1_readStatement_77 fX1_30 rfl (ty_c hSa (by decide) rfl) hRa ?_
    refine q_getr (r := b + 3) dX1_readStatement_80 fX1_102 rfl (ty_r hba 0 rfl) (hba.2.2 0 2 3 rfl) ?_
    refine q_iload_n dX1_readStatement_83 rfl rfl ?_
    refine q_iload_n dX1_readStatement_84 rfl rfl ?_
    refine q_iast (j := n) dX1_readStatement_85 (ty_r hba 3 rfl) (ix_n (by omega) (by omega)) ?_
    refine q_aload_n dX1_readStatement_86 rfl rfl rfl ?_
    refine q_getr (r := b) dX1_readStatement_87 fX1_30 rfl (ty_c hSa (by decide) rfl) hRa ?_
    refine q_dup dX1_readStatement_90 rfl ?_
    refine q_geti (x := bi t0) dX1_readStatement_91 fX1_105 rfl (ty_r hba 0 rfl) (Eq.trans (rd_off (by omega)) (Eq.trans (rd_off (by omega)) hta)) ?_
    refine q_iload_n dX1_readStatement_94 rfl rfl ?_
    refine q_bipush (v := nI 16) dX1_readStatement_95 rfl ?_
    refine q_icmp_ltN (tgt := 104) dX1_readStatement_97 (by decide) (by omega) (by omega) (fun c97 => ?_) (fun c97 => ?_)
    · skip
      refine q_iconst (v := nI 0) dX1_readStatement_104 rfl ?_
      refine q_ior dX1_readStatement_105 ?_
      refine q_top (y := bi (t0 || decide (16 ≤ tv T L k))) (bi_t0 t0 c97) ?_
      refine q_putz dX1_readStatement_106 fX1_105 rfl (Or.inl rfl) (ty_r hba 0 rfl) (bi_01 _) ?_
      refine q_aload_n dX1_readStatement_109 rfl rfl rfl ?_
      refine q_bipush (v := nI 61) dX1_readStatement_110 rfl ?_
      refine q_callV (As := [.int (nI 61)]) (rest := []) dX1_readStatement_112 vX1_82 (ty_c hSa (by decide) rfl) ⟨by decide, rfl⟩ (z1_takeSign_ok (σ := (uI (uI (uI s14 5 3 (nI (k + 1))) (b + 3) n (nI (tv T L k))) b 16 (bi (t0 || decide (16 ≤ tv T L k))))) hSa (PCt.u (PCt.u (PCt.u hCa (by omega)) (by omega)) (by omega)) (Eq.trans (rd_off (by omega)) (Eq.trans (rd_off (by omega)) uI_self)) (by omega) a1 (by decide)) rfl rfl (Nat.le_of_ble_eq_true rfl) (by omega) (by omega) (by omega) (k_p ?_)
      refine q_if_eqB (tgt := 130) dX1_readStatement_115 (by decide) (fun h => absurd h (by decide)) (fun _ => ?_)
      refine q_aload_n dX1_readStatement_118 rfl rfl rfl ?_
      refine q_iload_n dX1_readStatement_119 rfl rfl ?_
      refine q_callV (As := [.int (nI n)]) (rest := []) dX1_readStatement_120 vX1_109 (ty_c hSa (by decide) rfl) ⟨by decide, rfl⟩ (z1_readValue_ok (σ := (uI (uI (uI (uI s14 5 3 (nI (k + 1))) (b + 3) n (nI (tv T L k))) b 16 (bi (t0 || decide (16 ≤ tv T L k)))) 5 3 (nI (k + 1 + 1)))) (n := n) hSa hba hRa (by omega) (PCt.u (PCt.u (PCt.u (PCt.u hCa (by omega)) (by omega)) (by omega)) (by omega)) hT uI_self (by omega) (Eq.trans (rd_off (by omega)) uI_self) (SR.u (SR.u (SR.u (SR.u hsa (by omega)) (by omega)) (by omega)) (by omega)) (Eq.trans (rd_off (by omega)) (Eq.trans (rd_off (by omega)) (Eq.trans (rd_off (by omega)) (Eq.trans (rd_off (by omega)) d5)))) (Eq.trans (rd_off (by omega)) (Eq.trans (rd_off (by omega)) (Eq.trans (rd_off (by omega)) (Eq.trans (rd_off (by omega)) d6)))) a2) rfl rfl (Nat.le_of_ble_eq_true rfl) (by omega) (by omega) (by omega) (k_w (fun s120 q120 => ?_))
      have hav := add_val (σ := σ) (s := (uI (uI (uI (uI s14 5 3 (nI (k + 1))) (b + 3) n (nI (tv T L k))) b 16 (bi (t0 || decide (16 ≤ tv T L k)))) 5 3 (nI (k + 1 + 1)))) hb14 (qa.af.tr (AF.uI (AF.uI (AF.uI (AF.uI AF.rf (by omega)) (by omega)) (by omega)) (by omega))) (Eq.trans (rd_off (by omega)) (Eq.trans (rd_ne (by decide)) (Eq.trans (rd_off (by omega)) (Eq.trans (rd_off (by omega)) d13)))) (Eq.trans (rd_off (by omega)) (Eq.trans (rd_ne (by decide)) (Eq.trans (rd_off (by omega)) (Eq.trans (rd_off (by omega)) d14)))) (Eq.trans (rd_off (by omega)) (Eq.trans (rd_off (by omega)) (Eq.trans (rd_off (by omega)) (Eq.trans (rd_off (by omega)) dF)))) (Eq.trans (rd_off (by omega)) (Eq.trans (rd_off (by omega)) (Eq.trans (rd_off (by omega)) (Eq.trans (rd_off (by omega)) d1)))) (Eq.trans (rd_off (by omega)) (Eq.trans (rd_off (by omega)) (Eq.trans (rd_off (by omega)) (Eq.trans (rd_off (by omega)) d2)))) (Eq.trans (rd_off (by omega)) (Eq.trans (rd_off (by omega)) uI_self)) (Eq.trans (rd_off (by omega)) (Eq.trans (rd_off (by omega)) (Eq.trans (rd_off (by omega)) (Eq.trans (rd_off (by omega)) d7)))) (Eq.trans (rd_off (by omega)) (Eq.trans (rd_off (by omega)) (Eq.trans (rd_off (by omega)) (Eq.trans (rd_off (by omega)) d9)))) (Eq.trans (rd_off (by omega)) (Eq.trans (rd_off (by omega)) (Eq.trans (rd_off (by omega)) (Eq.trans (rd_off (by omega)) d10)))) (Eq.trans (rd_off (by omega)) (Eq.trans (rd_off (by omega)) (Eq.trans (rd_off (by omega)) (Eq.trans (rd_off (by omega)) d12)))) (Eq.trans (rd_off (by omega)) (Eq.trans (rd_off (by omega)) (Eq.trans (rd_off (by omega)) (Eq.trans (rd_off (by omega)) d13b)))) q120
      refine q_if_eqB (tgt := 130) dX1_readStatement_123 (by decide) (fun h => absurd h (by decide)) (fun _ => ?_)
      refine q_iconst (v := nI 1) dX1_readStatement_126 rfl ?_
      refine q_goto (tgt := 131) dX1_readStatement_127 (by decide) ?_
      refine q_ireturn dX1_readStatement_131 rfl rfl (by omega) (by omega) ?_
      exact ⟨rfl, hav⟩
    · skip
      refine q_iconst (v := nI 1) dX1_readStatement_100 rfl ?_
      refine q_goto (tgt := 105) dX1_readStatement_101 (by decide) ?_
      refine q_ior dX1_readStatement_105 ?_
      refine q_top (y := bi (t0 || decide (16 ≤ tv T L k))) (bi_t1 t0 c97) ?_
      refine q_putz dX1_readStatement_106 fX1_105 rfl (Or.inl rfl) (ty_r hba 0 rfl) (bi_01 _) ?_
      refine q_aload_n dX1_readStatement_109 rfl rfl rfl ?_
      refine q_bipush (v := nI 61) dX1_readStatement_110 rfl ?_
      refine q_callV (As := [.int (nI 61)]) (rest := []) dX1_readStatement_112 vX1_82 (ty_c hSa (by decide) rfl) ⟨by decide, rfl⟩ (z1_takeSign_ok (σ := (uI (uI (uI s14 5 3 (nI (k + 1))) (b + 3) n (nI (tv T L k))) b 16 (bi (t0 || decide (16 ≤ tv T L k))))) hSa (PCt.u (PCt.u (PCt.u hCa (by omega)) (by omega)) (by omega)) (Eq.trans (rd_off (by omega)) (Eq.trans (rd_off (by omega)) uI_self)) (by omega) a1 (by decide)) rfl rfl (Nat.le_of_ble_eq_true rfl) (by omega) (by omega) (by omega) (k_p ?_)
      refine q_if_eqB (tgt := 130) dX1_readStatement_115 (by decide) (fun h => absurd h (by decide)) (fun _ => ?_)
      refine q_aload_n dX1_readStatement_118 rfl rfl rfl ?_
      refine q_iload_n dX1_readStatement_119 rfl rfl ?_
      refine q_callV (As := [.int (nI n)]) (rest := []) dX1_readStatement_120 vX1_109 (ty_c hSa (by decide) rfl) ⟨by decide, rfl⟩ (z1_readValue_ok (σ := (uI (uI (uI (uI s14 5 3 (nI (k + 1))) (b + 3) n (nI (tv T L k))) b 16 (bi (t0 || decide (16 ≤ tv T L k)))) 5 3 (nI (k + 1 + 1)))) (n := n) hSa hba hRa (by omega) (PCt.u (PCt.u (PCt.u (PCt.u hCa (by omega)) (by omega)) (by omega)) (by omega)) hT uI_self (by omega) (Eq.trans (rd_off (by omega)) uI_self) (SR.u (SR.u (SR.u (SR.u hsa (by omega)) (by omega)) (by omega)) (by omega)) (Eq.trans (rd_off (by omega)) (Eq.trans (rd_off (by omega)) (Eq.trans (rd_off (by omega)) (Eq.trans (rd_off (by omega)) d5)))) (Eq.trans (rd_off (by omega)) (Eq.trans (rd_off (by omega)) (Eq.trans (rd_off (by omega)) (Eq.trans (rd_off (by omega)) d6)))) a2) rfl rfl (Nat.le_of_ble_eq_true rfl) (by omega) (by omega) (by omega) (k_w (fun s120 q120 => ?_))
      have hav := add_val (σ := σ) (s := (uI (uI (uI (uI s14 5 3 (nI (k + 1))) (b + 3) n (nI (tv T L k))) b 16 (bi (t0 || decide (16 ≤ tv T L k)))) 5 3 (nI (k + 1 + 1)))) hb14 (qa.af.tr (AF.uI (AF.uI (AF.uI (AF.uI AF.rf (by omega)) (by omega)) (by omega)) (by omega))) (Eq.trans (rd_off (by omega)) (Eq.trans (rd_ne (by decide)) (Eq.trans (rd_off (by omega)) (Eq.trans (rd_off (by omega)) d13)))) (Eq.trans (rd_off (by omega)) (Eq.trans (rd_ne (by decide)) (Eq.trans (rd_off (by omega)) (Eq.trans (rd_off (by omega)) d14)))) (Eq.trans (rd_off (by omega)) (Eq.trans (rd_off (by omega)) (Eq.trans (rd_off (by omega)) (Eq.trans (rd_off (by omega)) dF)))) (Eq.trans (rd_off (by omega)) (Eq.trans (rd_off (by omega)) (Eq.trans (rd_off (by omega)) (Eq.trans (rd_off (by omega)) d1)))) (Eq.trans (rd_off (by omega)) (Eq.trans (rd_off (by omega)) (Eq.trans (rd_off (by omega)) (Eq.trans (rd_off (by omega)) d2)))) (Eq.trans (rd_off (by omega)) (Eq.trans (rd_off (by omega)) uI_self)) (Eq.trans (rd_off (by omega)) (Eq.trans (rd_off (by omega)) (Eq.trans (rd_off (by omega)) (Eq.trans (rd_off (by omega)) d7)))) (Eq.trans (rd_off (by omega)) (Eq.trans (rd_off (by omega)) (Eq.trans (rd_off (by omega)) (Eq.trans (rd_off (by omega)) d9)))) (Eq.trans (rd_off (by omega)) (Eq.trans (rd_off (by omega)) (Eq.trans (rd_off (by omega)) (Eq.trans (rd_off (by omega)) d10)))) (Eq.trans (rd_off (by omega)) (Eq.trans (rd_off (by omega)) (Eq.trans (rd_off (by omega)) (Eq.trans (rd_off (by omega)) d12)))) (Eq.trans (rd_off (by omega)) (Eq.trans (rd_off (by omega)) (Eq.trans (rd_off (by omega)) (Eq.trans (rd_off (by omega)) d13b)))) q120
      refine q_if_eqB (tgt := 130) dX1_readStatement_123 (by decide) (fun h => absurd h (by decide)) (fun _ => ?_)
      refine q_iconst (v := nI 1) dX1_readStatement_126 rfl ?_
      refine q_goto (tgt := 131) dX1_readStatement_127 (by decide) ?_
      refine q_ireturn dX1_readStatement_131 rfl rfl (by omega) (by omega) ?_
      exact ⟨rfl, hav⟩
  exact absurd rfl w42_1
theorem z1_rs1_er {g : GG} {σ : HS} (hS : SK σ) {b : Nat} (hb : RB σ b) (hR : sR σ 5 5 = b) {T : Nat → Nat} {L N k n nb : Nat} (hn : n < 160) (h1 : 1 ≤ nb) (h40 : nb ≤ 40) (hC : PCt σ T L N) (hT : ∀ i, i < L → T i < 256) (hk : sI σ 5 3 = nI k) (hkN : k < N) {ss : List SUM} {m t0 : Bool} (hB : sI σ b 12 = nI nb) (hN : sI σ b 14 = nI n) (ht : sI σ b 16 = bi t0) (hs : SR σ b ss m) {e : Nat × Nat} (hx : pSt T L 1 k = .error e) : CT g mX1_readStatement 6 0 0 [.ref 5, .int (nI 1)] σ (WQ (.int (bi false)) (fun σ' => BadS b σ σ' e)) := by
  have hb14 : b = 14 ∨ 99 ≤ b := by rcases hb.1 with h | ⟨j, h⟩ <;> omega
  obtain ⟨h6, h2, h3, h4, h5⟩ := id hC
  have hv := (h5 k (by omega)).2.1
  have hvb := tv_b (k := k) hT
  rcases pSt_er1 hx with a1 | ⟨a1, a2⟩
  · skip
    refine CT.of (by decide) (Nat.le_of_ble_eq_true rfl) ?_
    refine q_aload_n dX1_readStatement_0 rfl rfl rfl ?_
    refine q_getr (r := b) dX1_readStatement_1 fX1_30 rfl (ty_c hS (by decide) rfl) hR ?_
    refine q_iload_n dX1_readStatement_4 rfl rfl ?_
    refine q_aload_n dX1_readStatement_5 rfl rfl rfl ?_
    refine q_getr (r := b) dX1_readStatement_6 fX1_30 rfl (ty_c hS (by decide) rfl) hR ?_
    refine q_geti (x := nI nb) dX1_readStatement_9 fX1_95 rfl (ty_r hb 0 rfl) hB ?_
    refine q_iconst (v := nI 1) dX1_readStatement_12 rfl ?_
    refine q_isubN dX1_readStatement_13 (by omega) ?_
    refine q_callV (As := [.int (nI 1), .int (nI (nb - 1))]) (rest := []) dX1_readStatement_14 vX1_98 (ty_r hb 0 rfl) ⟨by decide, rfl⟩ (z2_addNodeV hb (by omega) hN hB h40) rfl rfl (Nat.le_of_ble_eq_true rfl) (by omega) (by omega) (by omega) (k_w (fun s14 q14 => ?_))
    obtain ⟨qa, d13, d14, dF, d1, d2, d3, d5, d6, d7, d9, d10, d12, d13b⟩ := q14
    have qf := qa.af.bf
    have hSa := SK.bf qf hS
    have hba := RB.bf qf hb
    have hRa : sR s14 5 5 = b := by rw [qf.2.1]; exact hR
    have hCa := PCt.bf hb14 qf hC
    have hsa : SR s14 b ss m := hs.fe fun x i z1 z2 => qa.2.2.2 x i (by omega)
    have hka : sI s14 5 3 = nI k := (qa.2.2.2 5 3 (by omega)).trans hk
    have hBa : sI s14 b 12 = nI nb := (qa.2.2.2 b 12 (by omega)).trans hB
    have hta : sI s14 b 16 = bi t0 := (qa.2.2.2 b 16 (by omega)).trans ht
    have hva : sI s14 8 k = nI (tv T L k) := (qa.2.2.2 8 k (by omega)).trans hv
    refine q_istore_n dX1_readStatement_17 rfl (by decide) (ls' := [(2, .int (nI n)), (0, .ref 5), (1, .int (nI 1))]) rfl ?_
    refine q_aload_n dX1_readStatement_18 rfl rfl rfl ?_
    refine q_getr (r := 6) dX1_readStatement_19 fX1_12 rfl (ty_c hSa (by decide) rfl) (hSa.2 5 0 6 rfl) ?_
    refine q_getr (r := 8) dX1_readStatement_22 fX1_73 rfl (ty_c hSa (by decide) rfl) (hSa.2 6 1 8 rfl) ?_
    refine q_aload_n dX1_readStatement_25 rfl rfl rfl ?_
    refine q_geti (x := nI k) dX1_readStatement_26 fX1_38 rfl (ty_c hSa (by decide) rfl) hka ?_
    refine q_iald (x := nI (tv T L k)) (j := k) dX1_readStatement_29 (ty_c hSa (by decide) rfl) (ix_n (by omega) (by omega)) hva ?_
    refine q_istore_n dX1_readStatement_30 rfl (by decide) (ls' := [(3, .int (nI (tv T L k))), (2, .int (nI n)), (0, .ref 5), (1, .int (nI 1))]) rfl ?_
    refine q_aload_n dX1_readStatement_31 rfl rfl rfl ?_
    refine q_dup dX1_readStatement_32 rfl ?_
    refine q_geti (x := nI k) dX1_readStatement_33 fX1_38 rfl (ty_c hSa (by decide) rfl) hka ?_
    refine q_iconst (v := nI 1) dX1_readStatement_36 rfl ?_
    refine q_iaddN dX1_readStatement_37 ?_
    refine q_puti dX1_readStatement_38 fX1_38 rfl (Or.inl rfl) (ty_c hSa (by decide) rfl) ?_
    refine q_iload_n dX1_readStatement_41 rfl rfl ?_
    by_cases w42_1 : 1 = 1
    · refine q_tableEq 1 (tgt := 76) (off := 34) dX1_readStatement_42 (by rw [w42_1]) (by decide) rfl (by decide) ?_
      refine q_aload_n dX1_readStatement_76 rfl rfl rfl ?_
      refine q_getr (r := b) dX1_readStatement_77 fX1_30 rfl (ty_c hSa (by decide) rfl) hRa ?_
      refine q_getr (r := b + 3) dX1_readStatement_80 fX1_102 rfl (ty_r hba 0 rfl) (hba.2.2 0 2 3 rfl) ?_
      refine q_iload_n dX1_readStatement_83 rfl rfl ?_
      refine q_iload_n dX1_readStatement_84 rfl rfl ?_
      refine q_iast (j := n) dX1_readStatement_85 (ty_r hba 3 rfl) (ix_n (by omega) (by omega)) ?_
      refine q_aload_n dX1_readStatement_86 rfl rfl rfl ?_
      refine q_getr (r := b) dX1_readStatement_87 fX1_30 rfl (ty_c hSa (by decide) rfl) hRa ?_
      refine q_dup dX1_readStatement_90 rfl ?_
      refine q_geti (x := bi t0) dX1_readStatement_91 fX1_105 rfl (ty_r hba 0 rfl) (Eq.trans (rd_off (by omega)) (Eq.trans (rd_off (by omega)) hta)) ?_
      refine q_iload_n dX1_readStatement_94 rfl rfl ?_
      refine q_bipush (v := nI 16) dX1_readStatement_95 rfl ?_
      refine q_icmp_ltN (tgt := 104) dX1_readStatement_97 (by decide) (by omega) (by omega) (fun c97 => ?_) (fun c97 => ?_)
      · skip
        refine q_iconst (v := nI 0) dX1_readStatement_104 rfl ?_
        refine q_ior dX1_readStatement_105 ?_
        refine q_top (y := bi (t0 || decide (16 ≤ tv T L k))) (bi_t0 t0 c97) ?_
        refine q_putz dX1_readStatement_106 fX1_105 rfl (Or.inl rfl) (ty_r hba 0 rfl) (bi_01 _) ?_
        refine q_aload_n dX1_readStatement_109 rfl rfl rfl ?_
        refine q_bipush (v := nI 61) dX1_readStatement_110 rfl ?_
        refine q_callV (As := [.int (nI 61)]) (rest := []) dX1_readStatement_112 vX1_82 (ty_c hSa (by decide) rfl) ⟨by decide, rfl⟩ (z1_takeSign_er (σ := (uI (uI (uI s14 5 3 (nI (k + 1))) (b + 3) n (nI (tv T L k))) b 16 (bi (t0 || decide (16 ≤ tv T L k))))) hSa (PCt.u (PCt.u (PCt.u hCa (by omega)) (by omega)) (by omega)) hT (Eq.trans (rd_off (by omega)) (Eq.trans (rd_off (by omega)) uI_self)) (by omega) a1 (by decide)) rfl rfl (Nat.le_of_ble_eq_true rfl) (by omega) (by omega) (by omega) (k_p ?_)
        have hbad := BadS.er (b := b) (e := e) (σ := s14) (σ' := (uI (uI (uI s14 5 3 (nI (k + 1))) (b + 3) n (nI (tv T L k))) b 16 (bi (t0 || decide (16 ≤ tv T L k))))) (BFr.uI (BFr.uI (BFr.uI BFr.rf (by omega)) (by omega)) (by omega))
        refine q_if_eqB (tgt := 130) dX1_readStatement_115 (by decide) (fun _ => ?_) (fun h => absurd h (by decide))
        refine q_iconst (v := nI 0) dX1_readStatement_130 rfl ?_
        refine q_ireturn dX1_readStatement_131 rfl rfl (by omega) (by omega) ?_
        exact ⟨rfl, BadS.tr qf hbad⟩
      · skip
        refine q_iconst (v := nI 1) dX1_readStatement_100 rfl ?_
        refine q_goto (tgt := 105) dX1_readStatement_101 (by decide) ?_
        refine q_ior dX1_readStatement_105 ?_
        refine q_top (y := bi (t0 || decide (16 ≤ tv T L k))) (bi_t1 t0 c97) ?_
        refine q_putz dX1_readStatement_106 fX1_105 rfl (Or.inl rfl) (ty_r hba 0 rfl) (bi_01 _) ?_
        refine q_aload_n dX1_readStatement_109 rfl rfl rfl ?_
        refine q_bipush (v := nI 61) dX1_readStatement_110 rfl ?_
        refine q_callV (As := [.int (nI 61)]) (rest := []) dX1_readStatement_112 vX1_82 (ty_c hSa (by decide) rfl) ⟨by decide, rfl⟩ (z1_takeSign_er (σ := (uI (uI (uI s14 5 3 (nI (k + 1))) (b + 3) n (nI (tv T L k))) b 16 (bi (t0 || decide (16 ≤ tv T L k))))) hSa (PCt.u (PCt.u (PCt.u hCa (by omega)) (by omega)) (by omega)) hT (Eq.trans (rd_off (by omega)) (Eq.trans (rd_off (by omega)) uI_self)) (by omega) a1 (by decide)) rfl rfl (Nat.le_of_ble_eq_true rfl) (by omega) (by omega) (by omega) (k_p ?_)
        have hbad := BadS.er (b := b) (e := e) (σ := s14) (σ' := (uI (uI (uI s14 5 3 (nI (k + 1))) (b + 3) n (nI (tv T L k))) b 16 (bi (t0 || decide (16 ≤ tv T L k))))) (BFr.uI (BFr.uI (BFr.uI BFr.rf (by omega)) (by omega)) (by omega))
        refine q_if_eqB (tgt := 130) dX1_readStatement_115 (by decide) (fun _ => ?_) (fun h => absurd h (by decide))
        refine q_iconst (v := nI 0) dX1_readStatement_130 rfl ?_
        refine q_ireturn dX1_readStatement_131 rfl rfl (by omega) (by omega) ?_
        exact ⟨rfl, BadS.tr qf hbad⟩
    exact absurd rfl w42_1
  · have l1 := pSg_lt h4 a1
    refine CT.of (by decide) (Nat.le_of_ble_eq_true rfl) ?_
    refine q_aload_n dX1_readStatement_0 rfl rfl rfl ?_
    refine q_getr (r := b) dX1_readStatement_1 fX1_30 rfl (ty_c hS (by decide) rfl) hR ?_
    refine q_iload_n dX1_readStatement_4 rfl rfl ?_
    refine q_aload_n dX1_readStatement_5 rfl rfl rfl ?_
    refine q_getr (r := b) dX1_readStatement_6 fX1_30 rfl (ty_c hS (by decide) rfl) hR ?_
    refine q_geti (x := nI nb) dX1_readStatement_9 fX1_95 rfl (ty_r hb 0 rfl) hB ?_
    refine q_iconst (v := nI 1) dX1_readStatement_12 rfl ?_
    refine q_isubN dX1_readStatement_13 (by omega) ?_
    refine q_callV (As := [.int (nI 1), .int (nI (nb - 1))]) (rest := []) dX1_readStatement_14 vX1_98 (ty_r hb 0 rfl) ⟨by decide, rfl⟩ (z2_addNodeV hb (by omega) hN hB h40) rfl rfl (Nat.le_of_ble_eq_true rfl) (by omega) (by omega) (by omega) (k_w (fun s14 q14 => ?_))
    obtain ⟨qa, d13, d14, dF, d1, d2, d3, d5, d6, d7, d9, d10, d12, d13b⟩ := q14
    have qf := qa.af.bf
    have hSa := SK.bf qf hS
    have hba := RB.bf qf hb
    have hRa : sR s14 5 5 = b := by rw [qf.2.1]; exact hR
    have hCa := PCt.bf hb14 qf hC
    have hsa : SR s14 b ss m := hs.fe fun x i z1 z2 => qa.2.2.2 x i (by omega)
    have hka : sI s14 5 3 = nI k := (qa.2.2.2 5 3 (by omega)).trans hk
    have hBa : sI s14 b 12 = nI nb := (qa.2.2.2 b 12 (by omega)).trans hB
    have hta : sI s14 b 16 = bi t0 := (qa.2.2.2 b 16 (by omega)).trans ht
    have hva : sI s14 8 k = nI (tv T L k) := (qa.2.2.2 8 k (by omega)).trans hv
    refine q_istore_n dX1_readStatement_17 rfl (by decide) (ls' := [(2, .int (nI n)), (0, .ref 5), (1, .int (nI 1))]) rfl ?_
    refine q_aload_n dX1_readStatement_18 rfl rfl rfl ?_
    refine q_getr (r := 6) dX1_readStatement_19 fX1_12 rfl (ty_c hSa (by decide) rfl) (hSa.2 5 0 6 rfl) ?_
    refine q_getr (r := 8) dX1_readStatement_22 fX1_73 rfl (ty_c hSa (by decide) rfl) (hSa.2 6 1 8 rfl) ?_
    refine q_aload_n dX1_readStatement_25 rfl rfl rfl ?_
    refine q_geti (x := nI k) dX1_readStatement_26 fX1_38 rfl (ty_c hSa (by decide) rfl) hka ?_
    refine q_iald (x := nI (tv T L k)) (j := k) dX1_readStatement_29 (ty_c hSa (by decide) rfl) (ix_n (by omega) (by omega)) hva ?_
    refine q_istore_n dX1_readStatement_30 rfl (by decide) (ls' := [(3, .int (nI (tv T L k))), (2, .int (nI n)), (0, .ref 5), (1, .int (nI 1))]) rfl ?_
    refine q_aload_n dX1_readStatement_31 rfl rfl rfl ?_
    refine q_dup dX1_readStatement_32 rfl ?_
    refine q_geti (x := nI k) dX1_readStatement_33 fX1_38 rfl (ty_c hSa (by decide) rfl) hka ?_
    refine q_iconst (v := nI 1) dX1_readStatement_36 rfl ?_
    refine q_iaddN dX1_readStatement_37 ?_
    refine q_puti dX1_readStatement_38 fX1_38 rfl (Or.inl rfl) (ty_c hSa (by decide) rfl) ?_
    refine q_iload_n dX1_readStatement_41 rfl rfl ?_
    by_cases w42_1 : 1 = 1
    · refine q_tableEq 1 (tgt := 76) (off := 34) dX1_readStatement_42 (by rw [w42_1]) (by decide) rfl (by decide) ?_
      refine q_aload_n dX1_readStatement_76 rfl rfl rfl ?_
      refine q_getr (r := b) dX1_readStatement_77 fX1_30 rfl (ty_c hSa (by decide) rfl) hRa ?_
      refine q_getr (r := b + 3) dX1_readStatement_80 fX1_102 rfl (ty_r hba 0 rfl) (hba.2.2 0 2 3 rfl) ?_
      refine q_iload_n dX1_readStatement_83 rfl rfl ?_
      refine q_iload_n dX1_readStatement_84 rfl rfl ?_
      refine q_iast (j := n) dX1_readStatement_85 (ty_r hba 3 rfl) (ix_n (by omega) (by omega)) ?_
      refine q_aload_n dX1_readStatement_86 rfl rfl rfl ?_
      refine q_getr (r := b) dX1_readStatement_87 fX1_30 rfl (ty_c hSa (by decide) rfl) hRa ?_
      refine q_dup dX1_readStatement_90 rfl ?_
      refine q_geti (x := bi t0) dX1_readStatement_91 fX1_105 rfl (ty_r hba 0 rfl) (Eq.trans (rd_off (by omega)) (Eq.trans (rd_off (by omega)) hta)) ?_
      refine q_iload_n dX1_readStatement_94 rfl rfl ?_
      refine q_bipush (v := nI 16) dX1_readStatement_95 rfl ?_
      refine q_icmp_ltN (tgt := 104) dX1_readStatement_97 (by decide) (by omega) (by omega) (fun c97 => ?_) (fun c97 => ?_)
      · skip
        refine q_iconst (v := nI 0) dX1_readStatement_104 rfl ?_
        refine q_ior dX1_readStatement_105 ?_
        refine q_top (y := bi (t0 || decide (16 ≤ tv T L k))) (bi_t0 t0 c97) ?_
        refine q_putz dX1_readStatement_106 fX1_105 rfl (Or.inl rfl) (ty_r hba 0 rfl) (bi_01 _) ?_
        refine q_aload_n dX1_readStatement_109 rfl rfl rfl ?_
        refine q_bipush (v := nI 61) dX1_readStatement_110 rfl ?_
        refine q_callV (As := [.int (nI 61)]) (rest := []) dX1_readStatement_112 vX1_82 (ty_c hSa (by decide) rfl) ⟨by decide, rfl⟩ (z1_takeSign_ok (σ := (uI (uI (uI s14 5 3 (nI (k + 1))) (b + 3) n (nI (tv T L k))) b 16 (bi (t0 || decide (16 ≤ tv T L k))))) hSa (PCt.u (PCt.u (PCt.u hCa (by omega)) (by omega)) (by omega)) (Eq.trans (rd_off (by omega)) (Eq.trans (rd_off (by omega)) uI_self)) (by omega) a1 (by decide)) rfl rfl (Nat.le_of_ble_eq_true rfl) (by omega) (by omega) (by omega) (k_p ?_)
        refine q_if_eqB (tgt := 130) dX1_readStatement_115 (by decide) (fun h => absurd h (by decide)) (fun _ => ?_)
        refine q_aload_n dX1_readStatement_118 rfl rfl rfl ?_
        refine q_iload_n dX1_readStatement_119 rfl rfl ?_
        refine q_callV (As := [.int (nI n)]) (rest := []) dX1_readStatement_120 vX1_109 (ty_c hSa (by decide) rfl) ⟨by decide, rfl⟩ (z1_readValue_er (σ := (uI (uI (uI (uI s14 5 3 (nI (k + 1))) (b + 3) n (nI (tv T L k))) b 16 (bi (t0 || decide (16 ≤ tv T L k)))) 5 3 (nI (k + 1 + 1)))) (n := n) hSa hba hRa (by omega) (PCt.u (PCt.u (PCt.u (PCt.u hCa (by omega)) (by omega)) (by omega)) (by omega)) hT uI_self (by omega) (Eq.trans (rd_off (by omega)) uI_self) (SR.u (SR.u (SR.u (SR.u hsa (by omega)) (by omega)) (by omega)) (by omega)) (Eq.trans (rd_off (by omega)) (Eq.trans (rd_off (by omega)) (Eq.trans (rd_off (by omega)) (Eq.trans (rd_off (by omega)) d5)))) (Eq.trans (rd_off (by omega)) (Eq.trans (rd_off (by omega)) (Eq.trans (rd_off (by omega)) (Eq.trans (rd_off (by omega)) d6)))) a2) rfl rfl (Nat.le_of_ble_eq_true rfl) (by omega) (by omega) (by omega) (k_w (fun s120 q120 => ?_))
        have hbad := BadS.tr (b := b) (σ := s14) (σ' := (uI (uI (uI (uI s14 5 3 (nI (k + 1))) (b + 3) n (nI (tv T L k))) b 16 (bi (t0 || decide (16 ≤ tv T L k)))) 5 3 (nI (k + 1 + 1)))) (BFr.uI (BFr.uI (BFr.uI (BFr.uI BFr.rf (by omega)) (by omega)) (by omega)) (by omega)) q120
        refine q_if_eqB (tgt := 130) dX1_readStatement_123 (by decide) (fun _ => ?_) (fun h => absurd h (by decide))
        refine q_iconst (v := nI 0) dX1_readStatement_130 rfl ?_
        refine q_ireturn dX1_readStatement_131 rfl rfl (by omega) (by omega) ?_
        exact ⟨rfl, BadS.tr qf hbad⟩
      · skip
        refine q_iconst (v := nI 1) dX1_readStatement_100 rfl ?_
        refine q_goto (tgt := 105) dX1_readStatement_101 (by decide) ?_
        refine q_ior dX1_readStatement_105 ?_
        refine q_top (y := bi (t0 || decide (16 ≤ tv T L k))) (bi_t1 t0 c97) ?_
        refine q_putz dX1_readStatement_106 fX1_105 rfl (Or.inl rfl) (ty_r hba 0 rfl) (bi_01 _) ?_
        refine q_aload_n dX1_readStatement_109 rfl rfl rfl ?_
        refine q_bipush (v := nI 61) dX1_readStatement_110 rfl ?_
        refine q_callV (As := [.int (nI 61)]) (rest := []) dX1_readStatement_112 vX1_82 (ty_c hSa (by decide) rfl) ⟨by decide, rfl⟩ (z1_takeSign_ok (σ := (uI (uI (uI s14 5 3 (nI (k + 1))) (b + 3) n (nI (tv T L k))) b 16 (bi (t0 || decide (16 ≤ tv T L k))))) hSa (PCt.u (PCt.u (PCt.u hCa (by omega)) (by omega)) (by omega)) (Eq.trans (rd_off (by omega)) (Eq.trans (rd_off (by omega)) uI_self)) (by omega) a1 (by decide)) rfl rfl (Nat.le_of_ble_eq_true rfl) (by omega) (by omega) (by omega) (k_p ?_)
        refine q_if_eqB (tgt := 130) dX1_readStatement_115 (by decide) (fun h => absurd h (by decide)) (fun _ => ?_)
        refine q_aload_n dX1_readStatement_118 rfl rfl rfl ?_
        refine q_iload_n dX1_readStatement_119 rfl rfl ?_
        refine q_callV (As := [.int (nI n)]) (rest := []) dX1_readStatement_120 vX1_109 (ty_c hSa (by decide) rfl) ⟨by decide, rfl⟩ (z1_readValue_er (σ := (uI (uI (uI (uI s14 5 3 (nI (k + 1))) (b + 3) n (nI (tv T L k))) b 16 (bi (t0 || decide (16 ≤ tv T L k)))) 5 3 (nI (k + 1 + 1)))) (n := n) hSa hba hRa (by omega) (PCt.u (PCt.u (PCt.u (PCt.u hCa (by omega)) (by omega)) (by omega)) (by omega)) hT uI_self (by omega) (Eq.trans (rd_off (by omega)) uI_self) (SR.u (SR.u (SR.u (SR.u hsa (by omega)) (by omega)) (by omega)) (by omega)) (Eq.trans (rd_off (by omega)) (Eq.trans (rd_off (by omega)) (Eq.trans (rd_off (by omega)) (Eq.trans (rd_off (by omega)) d5)))) (Eq.trans (rd_off (by omega)) (Eq.trans (rd_off (by omega)) (Eq.trans (rd_off (by omega)) (Eq.trans (rd_off (by omega)) d6)))) a2) rfl rfl (Nat.le_of_ble_eq_true rfl) (by omega) (by omega) (by omega) (k_w (fun s120 q120 => ?_))
        have hbad := BadS.tr (b := b) (σ := s14) (σ' := (uI (uI (uI (uI s14 5 3 (nI (k + 1))) (b + 3) n (nI (tv T L k))) b 16 (bi (t0 || decide (16 ≤ tv T L k)))) 5 3 (nI (k + 1 + 1)))) (BFr.uI (BFr.uI (BFr.uI (BFr.uI BFr.rf (by omega)) (by omega)) (by omega)) (by omega)) q120
        refine q_if_eqB (tgt := 130) dX1_readStatement_123 (by decide) (fun _ => ?_) (fun h => absurd h (by decide))
        refine q_iconst (v := nI 0) dX1_readStatement_130 rfl ?_
        refine q_ireturn dX1_readStatement_131 rfl rfl (by omega) (by omega) ?_
        exact ⟨rfl, BadS.tr qf hbad⟩
    exact absurd rfl w42_1
theorem z1_rs2_ok {g : GG} {σ : HS} (hS : SK σ) {b : Nat} (hb : RB σ b) (hR : sR σ 5 5 = b) {T : Nat → Nat} {L N k n nb : Nat} (hn : n < 160) (h1 : 1 ≤ nb) (h40 : nb ≤ 40) (hC : PCt σ T L N) (hT : ∀ i, i < L → T i < 256) (hk : sI σ 5 3 = nI k) (hkN : k < N) {ss : List SUM} {m t0 : Bool} (hB : sI σ b 12 = nI nb) (hN : sI σ b 14 = nI n) (ht : sI σ b 16 = bi t0) (hs : SR σ b ss m) {s : ST0} {k2 : Nat} {t : Bool} (hx : pSt T L 2 k = .ok (s, k2, t)) : CT g mX1_readStatement 6 0 0 [.ref 5, .int (nI 2)] σ (WQ (.int (bi true)) (fun σ' => sI σ' 5 3 = nI k2 ∧ AddS b n nb σ σ' (recS T L (nb - 1) s (sumS ss s.2.2.2.2.1).1) (sumS ss s.2.2.2.2.1).2.1 (m || (sumS ss s.2.2.2.2.1).2.2) (t0 || t))) := by
  have hb14 : b = 14 ∨ 99 ≤ b := by rcases hb.1 with h | ⟨j, h⟩ <;> omega
  obtain ⟨h6, h2, h3, h4, h5⟩ := id hC
  have hv := (h5 k (by omega)).2.1
  have hvb := tv_b (k := k) hT
  obtain ⟨o, k1, t1, o2, t2, a1, a2, a3, a4, a5, rfl, rfl⟩ := pSt_ok2 hx
  have l1 := pSg_lt h4 a1
  have l2 := pOp_lt h4 a2
  have l3 := pSg_lt h4 a3
  have l4 := pSg_lt h4 a4
  have l5 := pOp_lt h4 a5
  refine CT.of (by decide) (Nat.le_of_ble_eq_true rfl) ?_
  refine q_aload_n dX1_readStatement_0 rfl rfl rfl ?_
  refine q_getr (r := b) dX1_readStatement_1 fX1_30 rfl (ty_c hS (by decide) rfl) hR ?_
  refine q_iload_n dX1_readStatement_4 rfl rfl ?_
  refine q_aload_n dX1_readStatement_5 rfl rfl rfl ?_
  refine q_getr (r := b) dX1_readStatement_6 fX1_30 rfl (ty_c hS (by decide) rfl) hR ?_
  refine q_geti (x := nI nb) dX1_readStatement_9 fX1_95 rfl (ty_r hb 0 rfl) hB ?_
  refine q_iconst (v := nI 1) dX1_readStatement_12 rfl ?_
  refine q_isubN dX1_readStatement_13 (by omega) ?_
  refine q_callV (As := [.int (nI 2), .int (nI (nb - 1))]) (rest := []) dX1_readStatement_14 vX1_98 (ty_r hb 0 rfl) ⟨by decide, rfl⟩ (z2_addNodeV hb (by omega) hN hB h40) rfl rfl (Nat.le_of_ble_eq_true rfl) (by omega) (by omega) (by omega) (k_w (fun s14 q14 => ?_))
  obtain ⟨qa, d13, d14, dF, d1, d2, d3, d5, d6, d7, d9, d10, d12, d13b⟩ := q14
  have qf := qa.af.bf
  have hSa := SK.bf qf hS
  have hba := RB.bf qf hb
  have hRa : sR s14 5 5 = b := by rw [qf.2.1]; exact hR
  have hCa := PCt.bf hb14 qf hC
  have hsa : SR s14 b ss m := hs.fe fun x i z1 z2 => qa.2.2.2 x i (by omega)
  have hka : sI s14 5 3 = nI k := (qa.2.2.2 5 3 (by omega)).trans hk
  have hBa : sI s14 b 12 = nI nb := (qa.2.2.2 b 12 (by omega)).trans hB
  have hta : sI s14 b 16 = bi t0 := (qa.2.2.2 b 16 (by omega)).trans ht
  have hva : sI s14 8 k = nI (tv T L k) := (qa.2.2.2 8 k (by omega)).trans hv
  refine q_istore_n dX1_readStatement_17 rfl (by decide) (ls' := [(2, .int (nI n)), (0, .ref 5), (1, .int (nI 2))]) rfl ?_
  refine q_aload_n dX1_readStatement_18 rfl rfl rfl ?_
  refine q_getr (r := 6) dX1_readStatement_19 fX1_12 rfl (ty_c hSa (by decide) rfl) (hSa.2 5 0 6 rfl) ?_
  refine q_getr (r := 8) dX1_readStatement_22 fX1_73 rfl (ty_c hSa (by decide) rfl) (hSa.2 6 1 8 rfl) ?_
  refine q_aload_n dX1_readStatement_25 rfl rfl rfl ?_
  refine q_geti (x := nI k) dX1_readStatement_26 fX1_38 rfl (ty_c hSa (by decide) rfl) hka ?_
  refine q_iald (x := nI (tv T L k)) (j := k) dX1_readStatement_29 (ty_c hSa (by decide) rfl) (ix_n (by omega) (by omega)) hva ?_
  refine q_istore_n dX1_readStatement_30 rfl (by decide) (ls' := [(3, .int (nI (tv T L k))), (2, .int (nI n)), (0, .ref 5), (1, .int (nI 2))]) rfl ?_
  refine q_aload_n dX1_readStatement_31 rfl rfl rfl ?_
  refine q_dup dX1_readStatement_32 rfl ?_
  refine q_geti (x := nI k) dX1_readStatement_33 fX1_38 rfl (ty_c hSa (by decide) rfl) hka ?_
  refine q_iconst (v := nI 1) dX1_readStatement_36 rfl ?_
  refine q_iaddN dX1_readStatement_37 ?_
  refine q_puti dX1_readStatement_38 fX1_38 rfl (Or.inl rfl) (ty_c hSa (by decide) rfl) ?_
  refine q_iload_n dX1_readStatement_41 rfl rfl ?_
  by_cases w42_2 : 2 = 2
  · refine q_tableEq 2 (tgt := 132) (off := 90) dX1_readStatement_42 (by rw [w42_2]) (by decide) rfl (by decide) ?_
    refine q_aload_n dX1_readStatement_132 rfl rfl rfl ?_
    refine q_getr (r := b) dX1_readStatement_133 fX1_30 rfl (ty_c hSa (by decide) rfl) hRa ?_
    refine q_getr (r := b + 3) dX1_readStatement_136 fX1_102 rfl (ty_r hba 0 rfl) (hba.2.2 0 2 3 rfl) ?_
    refine q_iload_n dX1_readStatement_139 rfl rfl ?_
    refine q_iload_n dX1_readStatement_140 rfl rfl ?_
    refine q_iast (j := n) dX1_readStatement_141 (ty_r hba 3 rfl) (ix_n (by omega) (by omega)) ?_
    refine q_aload_n dX1_readStatement_142 rfl rfl rfl ?_
    refine q_bipush (v := nI 91) dX1_readStatement_143 rfl ?_
    refine q_callV (As := [.int (nI 91)]) (rest := []) dX1_readStatement_145 vX1_82 (ty_c hSa (by decide) rfl) ⟨by decide, rfl⟩ (z1_takeSign_ok (σ := (uI (uI s14 5 3 (nI (k + 1))) (b + 3) n (nI (tv T L k)))) hSa (PCt.u (PCt.u hCa (by omega)) (by omega)) (Eq.trans (rd_off (by omega)) uI_self) (by omega) a1 (by decide)) rfl rfl (Nat.le_of_ble_eq_true rfl) (by omega) (by omega) (by omega) (k_p ?_)
    refine q_if_eqB (tgt := 191) dX1_readStatement_148 (by decide) (fun h => absurd h (by decide)) (fun _ => ?_)
    refine q_aload_n dX1_readStatement_151 rfl rfl rfl ?_
    refine q_iload_n dX1_readStatement_152 rfl rfl ?_
    refine q_iconst (v := nI 0) dX1_readStatement_153 rfl ?_
    refine q_callV (As := [.int (nI n), .int (nI 0)]) (rest := []) dX1_readStatement_154 vX1_112 (ty_c hSa (by decide) rfl) ⟨by decide, rfl⟩ (z1_readOperand_ok0 (σ := (uI (uI (uI s14 5 3 (nI (k + 1))) (b + 3) n (nI (tv T L k))) 5 3 (nI (k + 1 + 1)))) hSa hba hRa (by omega) (PCt.u (PCt.u (PCt.u hCa (by omega)) (by omega)) (by omega)) hT uI_self (by omega) (Eq.trans (rd_off (by omega)) (Eq.trans (rd_off (by omega)) (Eq.trans (rd_off (by omega)) hta))) a2) rfl rfl (Nat.le_of_ble_eq_true rfl) (by omega) (by omega) (by omega) (k_p ?_)
    refine q_if_eqB (tgt := 191) dX1_readStatement_157 (by decide) (fun h => absurd h (by decide)) (fun _ => ?_)
    refine q_aload_n dX1_readStatement_160 rfl rfl rfl ?_
    refine q_bipush (v := nI 93) dX1_readStatement_161 rfl ?_
    refine q_callV (As := [.int (nI 93)]) (rest := []) dX1_readStatement_163 vX1_82 (ty_c hSa (by decide) rfl) ⟨by decide, rfl⟩ (z1_takeSign_ok (σ := (uI (uI (uI (uI (uI (uI (uI s14 5 3 (nI (k + 1))) (b + 3) n (nI (tv T L k))) 5 3 (nI (k + 1 + 1))) 5 4 o) b 16 (bi (t0 || t1))) 5 3 (nI k1)) (b + 5) n o)) hSa (PCt.u (PCt.u (PCt.u (PCt.u (PCt.u (PCt.u (PCt.u hCa (by omega)) (by omega)) (by omega)) (by omega)) (by omega)) (by omega)) (by omega)) (Eq.trans (rd_off (by omega)) uI_self) (by omega) a3 (by decide)) rfl rfl (Nat.le_of_ble_eq_true rfl) (by omega) (by omega) (by omega) (k_p ?_)
    refine q_if_eqB (tgt := 191) dX1_readStatement_166 (by decide) (fun h => absurd h (by decide)) (fun _ => ?_)
    refine q_aload_n dX1_readStatement_169 rfl rfl rfl ?_
    refine q_bipush (v := nI 61) dX1_readStatement_170 rfl ?_
    refine q_callV (As := [.int (nI 61)]) (rest := []) dX1_readStatement_172 vX1_82 (ty_c hSa (by decide) rfl) ⟨by decide, rfl⟩ (z1_takeSign_ok (σ := (uI (uI (uI (uI (uI (uI (uI (uI s14 5 3 (nI (k + 1))) (b + 3) n (nI (tv T L k))) 5 3 (nI (k + 1 + 1))) 5 4 o) b 16 (bi (t0 || t1))) 5 3 (nI k1)) (b + 5) n o) 5 3 (nI (k1 + 1)))) hSa (PCt.u (PCt.u (PCt.u (PCt.u (PCt.u (PCt.u (PCt.u (PCt.u hCa (by omega)) (by omega)) (by omega)) (by omega)) (by omega)) (by omega)) (by omega)) (by omega)) uI_self (by omega) a4 (by decide)) rfl rfl (Nat.le_of_ble_eq_true rfl) (by omega) (by omega) (by omega) (k_p ?_)
    refine q_if_eqB (tgt := 191) dX1_readStatement_175 (by decide) (fun h => absurd h (by decide)) (fun _ => ?_)
    refine q_aload_n dX1_readStatement_178 rfl rfl rfl ?_
    refine q_iload_n dX1_readStatement_179 rfl rfl ?_
    refine q_iconst (v := nI 1) dX1_readStatement_180 rfl ?_
    refine q_callV (As := [.int (nI n), .int (nI 1)]) (rest := []) dX1_readStatement_181 vX1_112 (ty_c hSa (by decide) rfl) ⟨by decide, rfl⟩ (z1_readOperand_ok1 (σ := (uI (uI (uI (uI (uI (uI (uI (uI (uI s14 5 3 (nI (k + 1))) (b + 3) n (nI (tv T L k))) 5 3 (nI (k + 1 + 1))) 5 4 o) b 16 (bi (t0 || t1))) 5 3 (nI k1)) (b + 5) n o) 5 3 (nI (k1 + 1))) 5 3 (nI (k1 + 1 + 1)))) hSa hba hRa (by omega) (PCt.u (PCt.u (PCt.u (PCt.u (PCt.u (PCt.u (PCt.u (PCt.u (PCt.u hCa (by omega)) (by omega)) (by omega)) (by omega)) (by omega)) (by omega)) (by omega)) (by omega)) (by omega)) hT uI_self (by omega) (Eq.trans (rd_off (by omega)) (Eq.trans (rd_off (by omega)) (Eq.trans (rd_off (by omega)) (Eq.trans (rd_off (by omega)) uI_self)))) a5) rfl rfl (Nat.le_of_ble_eq_true rfl) (by omega) (by omega) (by omega) (k_p ?_)
    refine q_if_eqB (tgt := 191) dX1_readStatement_184 (by decide) (fun h => absurd h (by decide)) (fun _ => ?_)
    refine q_iconst (v := nI 1) dX1_readStatement_187 rfl ?_
    refine q_goto (tgt := 192) dX1_readStatement_188 (by decide) ?_
    refine q_ireturn dX1_readStatement_192 rfl rfl (by omega) (by omega) ?_
    exact ⟨rfl, (Eq.trans (rd_off (by omega)) uI_self), qa.af.tr (AF.uI (AF.uI (AF.uI (AF.uI (AF.uI (AF.uI (AF.uI (AF.uI (AF.uI (AF.uI (AF.uI (AF.uI (AF.uI AF.rf (by omega)) (by omega)) (by omega)) (by omega)) (by omega)) (by omega)) (by omega)) (by omega)) (by omega)) (by omega)) (by omega)) (by omega)) (by omega)), (Eq.trans (rd_off (by omega)) (Eq.trans (rd_off (by omega)) (Eq.trans (rd_ne (by decide)) (Eq.trans (rd_off (by omega)) (Eq.trans (rd_off (by omega)) (Eq.trans (rd_off (by omega)) (Eq.trans (rd_off (by omega)) (Eq.trans (rd_off (by omega)) (Eq.trans (rd_ne (by decide)) (Eq.trans (rd_off (by omega)) (Eq.trans (rd_off (by omega)) (Eq.trans (rd_off (by omega)) (Eq.trans (rd_off (by omega)) d13))))))))))))), (Eq.trans (rd_off (by omega)) (Eq.trans (rd_off (by omega)) (Eq.trans (rd_ne (by decide)) (Eq.trans (rd_off (by omega)) (Eq.trans (rd_off (by omega)) (Eq.trans (rd_off (by omega)) (Eq.trans (rd_off (by omega)) (Eq.trans (rd_off (by omega)) (Eq.trans (rd_ne (by decide)) (Eq.trans (rd_off (by omega)) (Eq.trans (rd_off (by omega)) (Eq.trans (rd_off (by omega)) (Eq.trans (rd_off (by omega)) d14))))))))))))), ((Eq.trans (rd_off (by omega)) (Eq.trans (rd_off (by omega)) uI_self))).trans (congrArg bi (Bool.or_assoc t0 t1 t2)), SR.cg (SR.u (SR.u (SR.u (SR.u (SR.u (SR.u (SR.u (SR.u (SR.u (SR.u (SR.u (SR.u (SR.u hsa (by omega)) (by omega)) (by omega)) (by omega)) (by omega)) (by omega)) (by omega)) (by omega)) (by omega)) (by omega)) (by omega)) (by omega)) (by omega)) (Bool.or_false m).symm, (Eq.trans (rd_off (by omega)) (Eq.trans (rd_off (by omega)) (Eq.trans (rd_off (by omega)) (Eq.trans (rd_off (by omega)) (Eq.trans (rd_off (by omega)) (Eq.trans (rd_off (by omega)) (Eq.trans (rd_off (by omega)) (Eq.trans (rd_off (by omega)) (Eq.trans (rd_off (by omega)) (Eq.trans (rd_off (by omega)) (Eq.trans (rd_off (by omega)) (Eq.trans (rd_off (by omega)) (Eq.trans (rd_off (by omega)) dF))))))))))))), (Eq.trans (rd_off (by omega)) (Eq.trans (rd_off (by omega)) (Eq.trans (rd_off (by omega)) (Eq.trans (rd_off (by omega)) (Eq.trans (rd_off (by omega)) (Eq.trans (rd_off (by omega)) (Eq.trans (rd_off (by omega)) (Eq.trans (rd_off (by omega)) (Eq.trans (rd_off (by omega)) (Eq.trans (rd_off (by omega)) (Eq.trans (rd_off (by omega)) (Eq.trans (rd_off (by omega)) (Eq.trans (rd_off (by omega)) d1))))))))))))), (Eq.trans (rd_off (by omega)) (Eq.trans (rd_off (by omega)) (Eq.trans (rd_off (by omega)) (Eq.trans (rd_off (by omega)) (Eq.trans (rd_off (by omega)) (Eq.trans (rd_off (by omega)) (Eq.trans (rd_off (by omega)) (Eq.trans (rd_off (by omega)) (Eq.trans (rd_off (by omega)) (Eq.trans (rd_off (by omega)) (Eq.trans (rd_off (by omega)) (Eq.trans (rd_off (by omega)) (Eq.trans (rd_off (by omega)) d2))))))))))))), (Eq.trans (rd_off (by omega)) (Eq.trans (rd_off (by omega)) (Eq.trans (rd_off (by omega)) (Eq.trans (rd_off (by omega)) (Eq.trans (rd_off (by omega)) (Eq.trans (rd_off (by omega)) (Eq.trans (rd_off (by omega)) (Eq.trans (rd_off (by omega)) (Eq.trans (rd_off (by omega)) (Eq.trans (rd_off (by omega)) (Eq.trans (rd_off (by omega)) uI_self))))))))))), (Eq.trans (rd_off (by omega)) (Eq.trans (rd_off (by omega)) (Eq.trans (rd_off (by omega)) (Eq.trans (rd_off (by omega)) (Eq.trans (rd_off (by omega)) (Eq.trans (rd_off (by omega)) uI_self)))))), uI_self, (Eq.trans (rd_off (by omega)) (Eq.trans (rd_off (by omega)) (Eq.trans (rd_off (by omega)) (Eq.trans (rd_off (by omega)) (Eq.trans (rd_off (by omega)) (Eq.trans (rd_off (by omega)) (Eq.trans (rd_off (by omega)) (Eq.trans (rd_off (by omega)) (Eq.trans (rd_off (by omega)) (Eq.trans (rd_off (by omega)) (Eq.trans (rd_off (by omega)) (Eq.trans (rd_off (by omega)) (Eq.trans (rd_off (by omega)) d7))))))))))))), (Eq.trans (rd_off (by omega)) (Eq.trans (rd_off (by omega)) (Eq.trans (rd_off (by omega)) (Eq.trans (rd_off (by omega)) (Eq.trans (rd_off (by omega)) (Eq.trans (rd_off (by omega)) (Eq.trans (rd_off (by omega)) (Eq.trans (rd_off (by omega)) (Eq.trans (rd_off (by omega)) (Eq.trans (rd_off (by omega)) (Eq.trans (rd_off (by omega)) (Eq.trans (rd_off (by omega)) (Eq.trans (rd_off (by omega)) d9))))))))))))), (Eq.trans (rd_off (by omega)) (Eq.trans (rd_off (by omega)) (Eq.trans (rd_off (by omega)) (Eq.trans (rd_off (by omega)) (Eq.trans (rd_off (by omega)) (Eq.trans (rd_off (by omega)) (Eq.trans (rd_off (by omega)) (Eq.trans (rd_off (by omega)) (Eq.trans (rd_off (by omega)) (Eq.trans (rd_off (by omega)) (Eq.trans (rd_off (by omega)) (Eq.trans (rd_off (by omega)) (Eq.trans (rd_off (by omega)) d10))))))))))))), (Eq.trans (rd_off (by omega)) (Eq.trans (rd_off (by omega)) (Eq.trans (rd_off (by omega)) (Eq.trans (rd_off (by omega)) (Eq.trans (rd_off (by omega)) (Eq.trans (rd_off (by omega)) (Eq.trans (rd_off (by omega)) (Eq.trans (rd_off (by omega)) (Eq.trans (rd_off (by omega)) (Eq.trans (rd_off (by omega)) (Eq.trans (rd_off (by omega)) (Eq.trans (rd_off (by omega)) (Eq.trans (rd_off (by omega)) d12))))))))))))), (Eq.trans (rd_off (by omega)) (Eq.trans (rd_off (by omega)) (Eq.trans (rd_off (by omega)) (Eq.trans (rd_off (by omega)) (Eq.trans (rd_off (by omega)) (Eq.trans (rd_off (by omega)) (Eq.trans (rd_off (by omega)) (Eq.trans (rd_off (by omega)) (Eq.trans (rd_off (by omega)) (Eq.trans (rd_off (by omega)) (Eq.trans (rd_off (by omega)) (Eq.trans (rd_off (by omega)) (Eq.trans (rd_off (by omega)) d13b))))))))))))), fun _ q => absurd rfl q, fun _ q => absurd rfl q⟩
  exact absurd rfl w42_2
theorem z1_rs2_er {g : GG} {σ : HS} (hS : SK σ) {b : Nat} (hb : RB σ b) (hR : sR σ 5 5 = b) {T : Nat → Nat} {L N k n nb : Nat} (hn : n < 160) (h1 : 1 ≤ nb) (h40 : nb ≤ 40) (hC : PCt σ T L N) (hT : ∀ i, i < L → T i < 256) (hk : sI σ 5 3 = nI k) (hkN : k < N) {ss : List SUM} {m t0 : Bool} (hB : sI σ b 12 = nI nb) (hN : sI σ b 14 = nI n) (ht : sI σ b 16 = bi t0) (hs : SR σ b ss m) {e : Nat × Nat} (hx : pSt T L 2 k = .error e) : CT g mX1_readStatement 6 0 0 [.ref 5, .int (nI 2)] σ (WQ (.int (bi false)) (fun σ' => BadS b σ σ' e)) := by
  have hb14 : b = 14 ∨ 99 ≤ b := by rcases hb.1 with h | ⟨j, h⟩ <;> omega
  obtain ⟨h6, h2, h3, h4, h5⟩ := id hC
  have hv := (h5 k (by omega)).2.1
  have hvb := tv_b (k := k) hT
  rcases pSt_er2 hx with a1 | ⟨a1, a2 | ⟨o, k1, t1, a2, a3 | ⟨a3, a4 | ⟨a4, a5⟩⟩⟩⟩
  · skip
    refine CT.of (by decide) (Nat.le_of_ble_eq_true rfl) ?_
    refine q_aload_n dX1_readStatement_0 rfl rfl rfl ?_
    refine q_getr (r := b) dX1_readStatement_1 fX1_30 rfl (ty_c hS (by decide) rfl) hR ?_
    refine q_iload_n dX1_readStatement_4 rfl rfl ?_
    refine q_aload_n dX1_readStatement_5 rfl rfl rfl ?_
    refine q_getr (r := b) dX1_readStatement_6 fX1_30 rfl (ty_c hS (by decide) rfl) hR ?_
    refine q_geti (x := nI nb) dX1_readStatement_9 fX1_95 rfl (ty_r hb 0 rfl) hB ?_
    refine q_iconst (v := nI 1) dX1_readStatement_12 rfl ?_
    refine q_isubN dX1_readStatement_13 (by omega) ?_
    refine q_callV (As := [.int (nI 2), .int (nI (nb - 1))]) (rest := []) dX1_readStatement_14 vX1_98 (ty_r hb 0 rfl) ⟨by decide, rfl⟩ (z2_addNodeV hb (by omega) hN hB h40) rfl rfl (Nat.le_of_ble_eq_true rfl) (by omega) (by omega) (by omega) (k_w (fun s14 q14 => ?_))
    obtain ⟨qa, d13, d14, dF, d1, d2, d3, d5, d6, d7, d9, d10, d12, d13b⟩ := q14
    have qf := qa.af.bf
    have hSa := SK.bf qf hS
    have hba := RB.bf qf hb
    have hRa : sR s14 5 5 = b := by rw [qf.2.1]; exact hR
    have hCa := PCt.bf hb14 qf hC
    have hsa : SR s14 b ss m := hs.fe fun x i z1 z2 => qa.2.2.2 x i (by omega)
    have hka : sI s14 5 3 = nI k := (qa.2.2.2 5 3 (by omega)).trans hk
    have hBa : sI s14 b 12 = nI nb := (qa.2.2.2 b 12 (by omega)).trans hB
    have hta : sI s14 b 16 = bi t0 := (qa.2.2.2 b 16 (by omega)).trans ht
    have hva : sI s14 8 k = nI (tv T L k) := (qa.2.2.2 8 k (by omega)).trans hv
    refine q_istore_n dX1_readStatement_17 rfl (by decide) (ls' := [(2, .int (nI n)), (0, .ref 5), (1, .int (nI 2))]) rfl ?_
    refine q_aload_n dX1_readStatement_18 rfl rfl rfl ?_
    refine q_getr (r := 6) dX1_readStatement_19 fX1_12 rfl (ty_c hSa (by decide) rfl) (hSa.2 5 0 6 rfl) ?_
    refine q_getr (r := 8) dX1_readStatement_22 fX1_73 rfl (ty_c hSa (by decide) rfl) (hSa.2 6 1 8 rfl) ?_
    refine q_aload_n dX1_readStatement_25 rfl rfl rfl ?_
    refine q_geti (x := nI k) dX1_readStatement_26 fX1_38 rfl (ty_c hSa (by decide) rfl) hka ?_
    refine q_iald (x := nI (tv T L k)) (j := k) dX1_readStatement_29 (ty_c hSa (by decide) rfl) (ix_n (by omega) (by omega)) hva ?_
    refine q_istore_n dX1_readStatement_30 rfl (by decide) (ls' := [(3, .int (nI (tv T L k))), (2, .int (nI n)), (0, .ref 5), (1, .int (nI 2))]) rfl ?_
    refine q_aload_n dX1_readStatement_31 rfl rfl rfl ?_
    refine q_dup dX1_readStatement_32 rfl ?_
    refine q_geti (x := nI k) dX1_readStatement_33 fX1_38 rfl (ty_c hSa (by decide) rfl) hka ?_
    refine q_iconst (v := nI 1) dX1_readStatement_36 rfl ?_
    refine q_iaddN dX1_readStatement_37 ?_
    refine q_puti dX1_readStatement_38 fX1_38 rfl (Or.inl rfl) (ty_c hSa (by decide) rfl) ?_
    refine q_iload_n dX1_readStatement_41 rfl rfl ?_
    by_cases w42_2 : 2 = 2
    · refine q_tableEq 2 (tgt := 132) (off := 90) dX1_readStatement_42 (by rw [w42_2]) (by decide) rfl (by decide) ?_
      refine q_aload_n dX1_readStatement_132 rfl rfl rfl ?_
      refine q_getr (r := b) dX1_readStatement_133 fX1_30 rfl (ty_c hSa (by decide) rfl) hRa ?_
      refine q_getr (r := b + 3) dX1_readStatement_136 fX1_102 rfl (ty_r hba 0 rfl) (hba.2.2 0 2 3 rfl) ?_
      refine q_iload_n dX1_readStatement_139 rfl rfl ?_
      refine q_iload_n dX1_readStatement_140 rfl rfl ?_
      refine q_iast (j := n) dX1_readStatement_141 (ty_r hba 3 rfl) (ix_n (by omega) (by omega)) ?_
      refine q_aload_n dX1_readStatement_142 rfl rfl rfl ?_
      refine q_bipush (v := nI 91) dX1_readStatement_143 rfl ?_
      refine q_callV (As := [.int (nI 91)]) (rest := []) dX1_readStatement_145 vX1_82 (ty_c hSa (by decide) rfl) ⟨by decide, rfl⟩ (z1_takeSign_er (σ := (uI (uI s14 5 3 (nI (k + 1))) (b + 3) n (nI (tv T L k)))) hSa (PCt.u (PCt.u hCa (by omega)) (by omega)) hT (Eq.trans (rd_off (by omega)) uI_self) (by omega) a1 (by decide)) rfl rfl (Nat.le_of_ble_eq_true rfl) (by omega) (by omega) (by omega) (k_p ?_)
      have hbad := BadS.er (b := b) (e := e) (σ := s14) (σ' := (uI (uI s14 5 3 (nI (k + 1))) (b + 3) n (nI (tv T L k)))) (BFr.uI (BFr.uI BFr.rf (by omega)) (by omega))
      refine q_if_eqB (tgt := 191) dX1_readStatement_148 (by decide) (fun _ => ?_) (fun h => absurd h (by decide))
      refine q_iconst (v := nI 0) dX1_readStatement_191 rfl ?_
      refine q_ireturn dX1_readStatement_192 rfl rfl (by omega) (by omega) ?_
      exact ⟨rfl, BadS.tr qf hbad⟩
    exact absurd rfl w42_2
  · have l1 := pSg_lt h4 a1
    refine CT.of (by decide) (Nat.le_of_ble_eq_true rfl) ?_
    refine q_aload_n dX1_readStatement_0 rfl rfl rfl ?_
    refine q_getr (r := b) dX1_readStatement_1 fX1_30 rfl (ty_c hS (by decide) rfl) hR ?_
    refine q_iload_n dX1_readStatement_4 rfl rfl ?_
    refine q_aload_n dX1_readStatement_5 rfl rfl rfl ?_
    refine q_getr (r := b) dX1_readStatement_6 fX1_30 rfl (ty_c hS (by decide) rfl) hR ?_
    refine q_geti (x := nI nb) dX1_readStatement_9 fX1_95 rfl (ty_r hb 0 rfl) hB ?_
    refine q_iconst (v := nI 1) dX1_readStatement_12 rfl ?_
    refine q_isubN dX1_readStatement_13 (by omega) ?_
    refine q_callV (As := [.int (nI 2), .int (nI (nb - 1))]) (rest := []) dX1_readStatement_14 vX1_98 (ty_r hb 0 rfl) ⟨by decide, rfl⟩ (z2_addNodeV hb (by omega) hN hB h40) rfl rfl (Nat.le_of_ble_eq_true rfl) (by omega) (by omega) (by omega) (k_w (fun s14 q14 => ?_))
    obtain ⟨qa, d13, d14, dF, d1, d2, d3, d5, d6, d7, d9, d10, d12, d13b⟩ := q14
    have qf := qa.af.bf
    have hSa := SK.bf qf hS
    have hba := RB.bf qf hb
    have hRa : sR s14 5 5 = b := by rw [qf.2.1]; exact hR
    have hCa := PCt.bf hb14 qf hC
    have hsa : SR s14 b ss m := hs.fe fun x i z1 z2 => qa.2.2.2 x i (by omega)
    have hka : sI s14 5 3 = nI k := (qa.2.2.2 5 3 (by omega)).trans hk
    have hBa : sI s14 b 12 = nI nb := (qa.2.2.2 b 12 (by omega)).trans hB
    have hta : sI s14 b 16 = bi t0 := (qa.2.2.2 b 16 (by omega)).trans ht
    have hva : sI s14 8 k = nI (tv T L k) := (qa.2.2.2 8 k (by omega)).trans hv
    refine q_istore_n dX1_readStatement_17 rfl (by decide) (ls' := [(2, .int (nI n)), (0, .ref 5), (1, .int (nI 2))]) rfl ?_
    refine q_aload_n dX1_readStatement_18 rfl rfl rfl ?_
    refine q_getr (r := 6) dX1_readStatement_19 fX1_12 rfl (ty_c hSa (by decide) rfl) (hSa.2 5 0 6 rfl) ?_
    refine q_getr (r := 8) dX1_readStatement_22 fX1_73 rfl (ty_c hSa (by decide) rfl) (hSa.2 6 1 8 rfl) ?_
    refine q_aload_n dX1_readStatement_25 rfl rfl rfl ?_
    refine q_geti (x := nI k) dX1_readStatement_26 fX1_38 rfl (ty_c hSa (by decide) rfl) hka ?_
    refine q_iald (x := nI (tv T L k)) (j := k) dX1_readStatement_29 (ty_c hSa (by decide) rfl) (ix_n (by omega) (by omega)) hva ?_
    refine q_istore_n dX1_readStatement_30 rfl (by decide) (ls' := [(3, .int (nI (tv T L k))), (2, .int (nI n)), (0, .ref 5), (1, .int (nI 2))]) rfl ?_
    refine q_aload_n dX1_readStatement_31 rfl rfl rfl ?_
    refine q_dup dX1_readStatement_32 rfl ?_
    refine q_geti (x := nI k) dX1_readStatement_33 fX1_38 rfl (ty_c hSa (by decide) rfl) hka ?_
    refine q_iconst (v := nI 1) dX1_readStatement_36 rfl ?_
    refine q_iaddN dX1_readStatement_37 ?_
    refine q_puti dX1_readStatement_38 fX1_38 rfl (Or.inl rfl) (ty_c hSa (by decide) rfl) ?_
    refine q_iload_n dX1_readStatement_41 rfl rfl ?_
    by_cases w42_2 : 2 = 2
    · refine q_tableEq 2 (tgt := 132) (off := 90) dX1_readStatement_42 (by rw [w42_2]) (by decide) rfl (by decide) ?_
      refine q_aload_n dX1_readStatement_132 rfl rfl rfl ?_
      refine q_getr (r := b) dX1_readStatement_133 fX1_30 rfl (ty_c hSa (by decide) rfl) hRa ?_
      refine q_getr (r := b + 3) dX1_readStatement_136 fX1_102 rfl (ty_r hba 0 rfl) (hba.2.2 0 2 3 rfl) ?_
      refine q_iload_n dX1_readStatement_139 rfl rfl ?_
      refine q_iload_n dX1_readStatement_140 rfl rfl ?_
      refine q_iast (j := n) dX1_readStatement_141 (ty_r hba 3 rfl) (ix_n (by omega) (by omega)) ?_
      refine q_aload_n dX1_readStatement_142 rfl rfl rfl ?_
      refine q_bipush (v := nI 91) dX1_readStatement_143 rfl ?_
      refine q_callV (As := [.int (nI 91)]) (rest := []) dX1_readStatement_145 vX1_82 (ty_c hSa (by decide) rfl) ⟨by decide, rfl⟩ (z1_takeSign_ok (σ := (uI (uI s14 5 3 (nI (k + 1))) (b + 3) n (nI (tv T L k)))) hSa (PCt.u (PCt.u hCa (by omega)) (by omega)) (Eq.trans (rd_off (by omega)) uI_self) (by omega) a1 (by decide)) rfl rfl (Nat.le_of_ble_eq_true rfl) (by omega) (by omega) (by omega) (k_p ?_)
      refine q_if_eqB (tgt := 191) dX1_readStatement_148 (by decide) (fun h => absurd h (by decide)) (fun _ => ?_)
      refine q_aload_n dX1_readStatement_151 rfl rfl rfl ?_
      refine q_iload_n dX1_readStatement_152 rfl rfl ?_
      refine q_iconst (v := nI 0) dX1_readStatement_153 rfl ?_
      refine q_callV (As := [.int (nI n), .int (nI 0)]) (rest := []) dX1_readStatement_154 vX1_112 (ty_c hSa (by decide) rfl) ⟨by decide, rfl⟩ (z1_readOperand_er0 (σ := (uI (uI (uI s14 5 3 (nI (k + 1))) (b + 3) n (nI (tv T L k))) 5 3 (nI (k + 1 + 1)))) (b := b) (n := n) hSa hRa (by omega) (PCt.u (PCt.u (PCt.u hCa (by omega)) (by omega)) (by omega)) hT uI_self (by omega) a2) rfl rfl (Nat.le_of_ble_eq_true rfl) (by omega) (by omega) (by omega) (k_w (fun s154 q154 => ?_))
      have hbad := BadS.tr (b := b) (σ := s14) (σ' := (uI (uI (uI s14 5 3 (nI (k + 1))) (b + 3) n (nI (tv T L k))) 5 3 (nI (k + 1 + 1)))) (BFr.uI (BFr.uI (BFr.uI BFr.rf (by omega)) (by omega)) (by omega)) q154
      refine q_if_eqB (tgt := 191) dX1_readStatement_157 (by decide) (fun _ => ?_) (fun h => absurd h (by decide))
      refine q_iconst (v := nI 0) dX1_readStatement_191 rfl ?_
      refine q_ireturn dX1_readStatement_192 rfl rfl (by omega) (by omega) ?_
      exact ⟨rfl, BadS.tr qf hbad⟩
    exact absurd rfl w42_2
  · have l1 := pSg_lt h4 a1
    have l2 := pOp_lt h4 a2
    refine CT.of (by decide) (Nat.le_of_ble_eq_true rfl) ?_
    refine q_aload_n dX1_readStatement_0 rfl rfl rfl ?_
    refine q_getr (r := b) dX1_readStatement_1 fX1_30 rfl (ty_c hS (by decide) rfl) hR ?_
    refine q_iload_n dX1_readStatement_4 rfl rfl ?_
    refine q_aload_n dX1_readStatement_5 rfl rfl rfl ?_
    refine q_getr (r := b) dX1_readStatement_6 fX1_30 rfl (ty_c hS (by decide) rfl) hR ?_
    refine q_geti (x := nI nb) dX1_readStatement_9 fX1_95 rfl (ty_r hb 0 rfl) hB ?_
    refine q_iconst (v := nI 1) dX1_readStatement_12 rfl ?_
    refine q_isubN dX1_readStatement_13 (by omega) ?_
    refine q_callV (As := [.int (nI 2), .int (nI (nb - 1))]) (rest := []) dX1_readStatement_14 vX1_98 (ty_r hb 0 rfl) ⟨by decide, rfl⟩ (z2_addNodeV hb (by omega) hN hB h40) rfl rfl (Nat.le_of_ble_eq_true rfl) (by omega) (by omega) (by omega) (k_w (fun s14 q14 => ?_))
    obtain ⟨qa, d13, d14, dF, d1, d2, d3, d5, d6, d7, d9, d10, d12, d13b⟩ := q14
    have qf := qa.af.bf
    have hSa := SK.bf qf hS
    have hba := RB.bf qf hb
    have hRa : sR s14 5 5 = b := by rw [qf.2.1]; exact hR
    have hCa := PCt.bf hb14 qf hC
    have hsa : SR s14 b ss m := hs.fe fun x i z1 z2 => qa.2.2.2 x i (by omega)
    have hka : sI s14 5 3 = nI k := (qa.2.2.2 5 3 (by omega)).trans hk
    have hBa : sI s14 b 12 = nI nb := (qa.2.2.2 b 12 (by omega)).trans hB
    have hta : sI s14 b 16 = bi t0 := (qa.2.2.2 b 16 (by omega)).trans ht
    have hva : sI s14 8 k = nI (tv T L k) := (qa.2.2.2 8 k (by omega)).trans hv
    refine q_istore_n dX1_readStatement_17 rfl (by decide) (ls' := [(2, .int (nI n)), (0, .ref 5), (1, .int (nI 2))]) rfl ?_
    refine q_aload_n dX1_readStatement_18 rfl rfl rfl ?_
    refine q_getr (r := 6) dX1_readStatement_19 fX1_12 rfl (ty_c hSa (by decide) rfl) (hSa.2 5 0 6 rfl) ?_
    refine q_getr (r := 8) dX1_readStatement_22 fX1_73 rfl (ty_c hSa (by decide) rfl) (hSa.2 6 1 8 rfl) ?_
    refine q_aload_n dX1_readStatement_25 rfl rfl rfl ?_
    refine q_geti (x := nI k) dX1_readStatement_26 fX1_38 rfl (ty_c hSa (by decide) rfl) hka ?_
    refine q_iald (x := nI (tv T L k)) (j := k) dX1_readStatement_29 (ty_c hSa (by decide) rfl) (ix_n (by omega) (by omega)) hva ?_
    refine q_istore_n dX1_readStatement_30 rfl (by decide) (ls' := [(3, .int (nI (tv T L k))), (2, .int (nI n)), (0, .ref 5), (1, .int (nI 2))]) rfl ?_
    refine q_aload_n dX1_readStatement_31 rfl rfl rfl ?_
    refine q_dup dX1_readStatement_32 rfl ?_
    refine q_geti (x := nI k) dX1_readStatement_33 fX1_38 rfl (ty_c hSa (by decide) rfl) hka ?_
    refine q_iconst (v := nI 1) dX1_readStatement_36 rfl ?_
    refine q_iaddN dX1_readStatement_37 ?_
    refine q_puti dX1_readStatement_38 fX1_38 rfl (Or.inl rfl) (ty_c hSa (by decide) rfl) ?_
    refine q_iload_n dX1_readStatement_41 rfl rfl ?_
    by_cases w42_2 : 2 = 2
    · refine q_tableEq 2 (tgt := 132) (off := 90) dX1_readStatement_42 (by rw [w42_2]) (by decide) rfl (by decide) ?_
      refine q_aload_n dX1_readStatement_132 rfl rfl rfl ?_
      refine q_getr (r := b) dX1_readStatement_133 fX1_30 rfl (ty_c hSa (by decide) rfl) hRa ?_
      refine q_getr (r := b + 3) dX1_readStatement_136 fX1_102 rfl (ty_r hba 0 rfl) (hba.2.2 0 2 3 rfl) ?_
      refine q_iload_n dX1_readStatement_139 rfl rfl ?_
      refine q_iload_n dX1_readStatement_140 rfl rfl ?_
      refine q_iast (j := n) dX1_readStatement_141 (ty_r hba 3 rfl) (ix_n (by omega) (by omega)) ?_
      refine q_aload_n dX1_readStatement_142 rfl rfl rfl ?_
      refine q_bipush (v := nI 91) dX1_readStatement_143 rfl ?_
      refine q_callV (As := [.int (nI 91)]) (rest := []) dX1_readStatement_145 vX1_82 (ty_c hSa (by decide) rfl) ⟨by decide, rfl⟩ (z1_takeSign_ok (σ := (uI (uI s14 5 3 (nI (k + 1))) (b + 3) n (nI (tv T L k)))) hSa (PCt.u (PCt.u hCa (by omega)) (by omega)) (Eq.trans (rd_off (by omega)) uI_self) (by omega) a1 (by decide)) rfl rfl (Nat.le_of_ble_eq_true rfl) (by omega) (by omega) (by omega) (k_p ?_)
      refine q_if_eqB (tgt := 191) dX1_readStatement_148 (by decide) (fun h => absurd h (by decide)) (fun _ => ?_)
      refine q_aload_n dX1_readStatement_151 rfl rfl rfl ?_
      refine q_iload_n dX1_readStatement_152 rfl rfl ?_
      refine q_iconst (v := nI 0) dX1_readStatement_153 rfl ?_
      refine q_callV (As := [.int (nI n), .int (nI 0)]) (rest := []) dX1_readStatement_154 vX1_112 (ty_c hSa (by decide) rfl) ⟨by decide, rfl⟩ (z1_readOperand_ok0 (σ := (uI (uI (uI s14 5 3 (nI (k + 1))) (b + 3) n (nI (tv T L k))) 5 3 (nI (k + 1 + 1)))) hSa hba hRa (by omega) (PCt.u (PCt.u (PCt.u hCa (by omega)) (by omega)) (by omega)) hT uI_self (by omega) (Eq.trans (rd_off (by omega)) (Eq.trans (rd_off (by omega)) (Eq.trans (rd_off (by omega)) hta))) a2) rfl rfl (Nat.le_of_ble_eq_true rfl) (by omega) (by omega) (by omega) (k_p ?_)
      refine q_if_eqB (tgt := 191) dX1_readStatement_157 (by decide) (fun h => absurd h (by decide)) (fun _ => ?_)
      refine q_aload_n dX1_readStatement_160 rfl rfl rfl ?_
      refine q_bipush (v := nI 93) dX1_readStatement_161 rfl ?_
      refine q_callV (As := [.int (nI 93)]) (rest := []) dX1_readStatement_163 vX1_82 (ty_c hSa (by decide) rfl) ⟨by decide, rfl⟩ (z1_takeSign_er (σ := (uI (uI (uI (uI (uI (uI (uI s14 5 3 (nI (k + 1))) (b + 3) n (nI (tv T L k))) 5 3 (nI (k + 1 + 1))) 5 4 o) b 16 (bi (t0 || t1))) 5 3 (nI k1)) (b + 5) n o)) hSa (PCt.u (PCt.u (PCt.u (PCt.u (PCt.u (PCt.u (PCt.u hCa (by omega)) (by omega)) (by omega)) (by omega)) (by omega)) (by omega)) (by omega)) hT (Eq.trans (rd_off (by omega)) uI_self) (by omega) a3 (by decide)) rfl rfl (Nat.le_of_ble_eq_true rfl) (by omega) (by omega) (by omega) (k_p ?_)
      have hbad := BadS.er (b := b) (e := e) (σ := s14) (σ' := (uI (uI (uI (uI (uI (uI (uI s14 5 3 (nI (k + 1))) (b + 3) n (nI (tv T L k))) 5 3 (nI (k + 1 + 1))) 5 4 o) b 16 (bi (t0 || t1))) 5 3 (nI k1)) (b + 5) n o)) (BFr.uI (BFr.uI (BFr.uI (BFr.uI (BFr.uI (BFr.uI (BFr.uI BFr.rf (by omega)) (by omega)) (by omega)) (by omega)) (by omega)) (by omega)) (by omega))
      refine q_if_eqB (tgt := 191) dX1_readStatement_166 (by decide) (fun _ => ?_) (fun h => absurd h (by decide))
      refine q_iconst (v := nI 0) dX1_readStatement_191 rfl ?_
      refine q_ireturn dX1_readStatement_192 rfl rfl (by omega) (by omega) ?_
      exact ⟨rfl, BadS.tr qf hbad⟩
    exact absurd rfl w42_2
  · have l1 := pSg_lt h4 a1
    have l2 := pOp_lt h4 a2
    have l3 := pSg_lt h4 a3
    refine CT.of (by decide) (Nat.le_of_ble_eq_true rfl) ?_
    refine q_aload_n dX1_readStatement_0 rfl rfl rfl ?_
    refine q_getr (r := b) dX1_readStatement_1 fX1_30 rfl (ty_c hS (by decide) rfl) hR ?_
    refine q_iload_n dX1_readStatement_4 rfl rfl ?_
    refine q_aload_n dX1_readStatement_5 rfl rfl rfl ?_
    refine q_getr (r := b) dX1_readStatement_6 fX1_30 rfl (ty_c hS (by decide) rfl) hR ?_
    refine q_geti (x := nI nb) dX1_readStatement_9 fX1_95 rfl (ty_r hb 0 rfl) hB ?_
    refine q_iconst (v := nI 1) dX1_readStatement_12 rfl ?_
    refine q_isubN dX1_readStatement_13 (by omega) ?_
    refine q_callV (As := [.int (nI 2), .int (nI (nb - 1))]) (rest := []) dX1_readStatement_14 vX1_98 (ty_r hb 0 rfl) ⟨by decide, rfl⟩ (z2_addNodeV hb (by omega) hN hB h40) rfl rfl (Nat.le_of_ble_eq_true rfl) (by omega) (by omega) (by omega) (k_w (fun s14 q14 => ?_))
    obtain ⟨qa, d13, d14, dF, d1, d2, d3, d5, d6, d7, d9, d10, d12, d13b⟩ := q14
    have qf := qa.af.bf
    have hSa := SK.bf qf hS
    have hba := RB.bf qf hb
    have hRa : sR s14 5 5 = b := by rw [qf.2.1]; exact hR
    have hCa := PCt.bf hb14 qf hC
    have hsa : SR s14 b ss m := hs.fe fun x i z1 z2 => qa.2.2.2 x i (by omega)
    have hka : sI s14 5 3 = nI k := (qa.2.2.2 5 3 (by omega)).trans hk
    have hBa : sI s14 b 12 = nI nb := (qa.2.2.2 b 12 (by omega)).trans hB
    have hta : sI s14 b 16 = bi t0 := (qa.2.2.2 b 16 (by omega)).trans ht
    have hva : sI s14 8 k = nI (tv T L k) := (qa.2.2.2 8 k (by omega)).trans hv
    refine q_istore_n dX1_readStatement_17 rfl (by decide) (ls' := [(2, .int (nI n)), (0, .ref 5), (1, .int (nI 2))]) rfl ?_
    refine q_aload_n dX1_readStatement_18 rfl rfl rfl ?_
    refine q_getr (r := 6) dX1_readStatement_19 fX1_12 rfl (ty_c hSa (by decide) rfl) (hSa.2 5 0 6 rfl) ?_
    refine q_getr (r := 8) dX1_readStatement_22 fX1_73 rfl (ty_c hSa (by decide) rfl) (hSa.2 6 1 8 rfl) ?_
    refine q_aload_n dX1_readStatement_25 rfl rfl rfl ?_
    refine q_geti (x := nI k) dX1_readStatement_26 fX1_38 rfl (ty_c hSa (by decide) rfl) hka ?_
    refine q_iald (x := nI (tv T L k)) (j := k) dX1_readStatement_29 (ty_c hSa (by decide) rfl) (ix_n (by omega) (by omega)) hva ?_
    refine q_istore_n dX1_readStatement_30 rfl (by decide) (ls' := [(3, .int (nI (tv T L k))), (2, .int (nI n)), (0, .ref 5), (1, .int (nI 2))]) rfl ?_
    refine q_aload_n dX1_readStatement_31 rfl rfl rfl ?_
    refine q_dup dX1_readStatement_32 rfl ?_
    refine q_geti (x := nI k) dX1_readStatement_33 fX1_38 rfl (ty_c hSa (by decide) rfl) hka ?_
    refine q_iconst (v := nI 1) dX1_readStatement_36 rfl ?_
    refine q_iaddN dX1_readStatement_37 ?_
    refine q_puti dX1_readStatement_38 fX1_38 rfl (Or.inl rfl) (ty_c hSa (by decide) rfl) ?_
    refine q_iload_n dX1_readStatement_41 rfl rfl ?_
    by_cases w42_2 : 2 = 2
    · refine q_tableEq 2 (tgt := 132) (off := 90) dX1_readStatement_42 (by rw [w42_2]) (by decide) rfl (by decide) ?_
      refine q_aload_n dX1_readStatement_132 rfl rfl rfl ?_
      refine q_getr (r := b) dX1_readStatement_133 fX1_30 rfl (ty_c hSa (by decide) rfl) hRa ?_
      refine q_getr (r := b + 3) dX1_readStatement_136 fX1_102 rfl (ty_r hba 0 rfl) (hba.2.2 0 2 3 rfl) ?_
      refine q_iload_n dX1_readStatement_139 rfl rfl ?_
      refine q_iload_n dX1_readStatement_140 rfl rfl ?_
      refine q_iast (j := n) dX1_readStatement_141 (ty_r hba 3 rfl) (ix_n (by omega) (by omega)) ?_
      refine q_aload_n dX1_readStatement_142 rfl rfl rfl ?_
      refine q_bipush (v := nI 91) dX1_readStatement_143 rfl ?_
      refine q_callV (As := [.int (nI 91)]) (rest := []) dX1_readStatement_145 vX1_82 (ty_c hSa (by decide) rfl) ⟨by decide, rfl⟩ (z1_takeSign_ok (σ := (uI (uI s14 5 3 (nI (k + 1))) (b + 3) n (nI (tv T L k)))) hSa (PCt.u (PCt.u hCa (by omega)) (by omega)) (Eq.trans (rd_off (by omega)) uI_self) (by omega) a1 (by decide)) rfl rfl (Nat.le_of_ble_eq_true rfl) (by omega) (by omega) (by omega) (k_p ?_)
      refine q_if_eqB (tgt := 191) dX1_readStatement_148 (by decide) (fun h => absurd h (by decide)) (fun _ => ?_)
      refine q_aload_n dX1_readStatement_151 rfl rfl rfl ?_
      refine q_iload_n dX1_readStatement_152 rfl rfl ?_
      refine q_iconst (v := nI 0) dX1_readStatement_153 rfl ?_
      refine q_callV (As := [.int (nI n), .int (nI 0)]) (rest := []) dX1_readStatement_154 vX1_112 (ty_c hSa (by decide) rfl) ⟨by decide, rfl⟩ (z1_readOperand_ok0 (σ := (uI (uI (uI s14 5 3 (nI (k + 1))) (b + 3) n (nI (tv T L k))) 5 3 (nI (k + 1 + 1)))) hSa hba hRa (by omega) (PCt.u (PCt.u (PCt.u hCa (by omega)) (by omega)) (by omega)) hT uI_self (by omega) (Eq.trans (rd_off (by omega)) (Eq.trans (rd_off (by omega)) (Eq.trans (rd_off (by omega)) hta))) a2) rfl rfl (Nat.le_of_ble_eq_true rfl) (by omega) (by omega) (by omega) (k_p ?_)
      refine q_if_eqB (tgt := 191) dX1_readStatement_157 (by decide) (fun h => absurd h (by decide)) (fun _ => ?_)
      refine q_aload_n dX1_readStatement_160 rfl rfl rfl ?_
      refine q_bipush (v := nI 93) dX1_readStatement_161 rfl ?_
      refine q_callV (As := [.int (nI 93)]) (rest := []) dX1_readStatement_163 vX1_82 (ty_c hSa (by decide) rfl) ⟨by decide, rfl⟩ (z1_takeSign_ok (σ := (uI (uI (uI (uI (uI (uI (uI s14 5 3 (nI (k + 1))) (b + 3) n (nI (tv T L k))) 5 3 (nI (k + 1 + 1))) 5 4 o) b 16 (bi (t0 || t1))) 5 3 (nI k1)) (b + 5) n o)) hSa (PCt.u (PCt.u (PCt.u (PCt.u (PCt.u (PCt.u (PCt.u hCa (by omega)) (by omega)) (by omega)) (by omega)) (by omega)) (by omega)) (by omega)) (Eq.trans (rd_off (by omega)) uI_self) (by omega) a3 (by decide)) rfl rfl (Nat.le_of_ble_eq_true rfl) (by omega) (by omega) (by omega) (k_p ?_)
      refine q_if_eqB (tgt := 191) dX1_readStatement_166 (by decide) (fun h => absurd h (by decide)) (fun _ => ?_)
      refine q_aload_n dX1_readStatement_169 rfl rfl rfl ?_
      refine q_bipush (v := nI 61) dX1_readStatement_170 rfl ?_
      refine q_callV (As := [.int (nI 61)]) (rest := []) dX1_readStatement_172 vX1_82 (ty_c hSa (by decide) rfl) ⟨by decide, rfl⟩ (z1_takeSign_er (σ := (uI (uI (uI (uI (uI (uI (uI (uI s14 5 3 (nI (k + 1))) (b + 3) n (nI (tv T L k))) 5 3 (nI (k + 1 + 1))) 5 4 o) b 16 (bi (t0 || t1))) 5 3 (nI k1)) (b + 5) n o) 5 3 (nI (k1 + 1)))) hSa (PCt.u (PCt.u (PCt.u (PCt.u (PCt.u (PCt.u (PCt.u (PCt.u hCa (by omega)) (by omega)) (by omega)) (by omega)) (by omega)) (by omega)) (by omega)) (by omega)) hT uI_self (by omega) a4 (by decide)) rfl rfl (Nat.le_of_ble_eq_true rfl) (by omega) (by omega) (by omega) (k_p ?_)
      have hbad := BadS.er (b := b) (e := e) (σ := s14) (σ' := (uI (uI (uI (uI (uI (uI (uI (uI s14 5 3 (nI (k + 1))) (b + 3) n (nI (tv T L k))) 5 3 (nI (k + 1 + 1))) 5 4 o) b 16 (bi (t0 || t1))) 5 3 (nI k1)) (b + 5) n o) 5 3 (nI (k1 + 1)))) (BFr.uI (BFr.uI (BFr.uI (BFr.uI (BFr.uI (BFr.uI (BFr.uI (BFr.uI BFr.rf (by omega)) (by omega)) (by omega)) (by omega)) (by omega)) (by omega)) (by omega)) (by omega))
      refine q_if_eqB (tgt := 191) dX1_readStatement_175 (by decide) (fun _ => ?_) (fun h => absurd h (by decide))
      refine q_iconst (v := nI 0) dX1_readStatement_191 rfl ?_
      refine q_ireturn dX1_readStatement_192 rfl rfl (by omega) (by omega) ?_
      exact ⟨rfl, BadS.tr qf hbad⟩
    exact absurd rfl w42_2
  · have l1 := pSg_lt h4 a1
    have l2 := pOp_lt h4 a2
    have l3 := pSg_lt h4 a3
    have l4 := pSg_lt h4 a4
    refine CT.of (by decide) (Nat.le_of_ble_eq_true rfl) ?_
    refine q_aload_n dX1_readStatement_0 rfl rfl rfl ?_
    refine q_getr (r := b) dX1_readStatement_1 fX1_30 rfl (ty_c hS (by decide) rfl) hR ?_
    refine q_iload_n dX1_readStatement_4 rfl rfl ?_
    refine q_aload_n dX1_readStatement_5 rfl rfl rfl ?_
    refine q_getr (r := b) dX1_readStatement_6 fX1_30 rfl (ty_c hS (by decide) rfl) hR ?_
    refine q_geti (x := nI nb) dX1_readStatement_9 fX1_95 rfl (ty_r hb 0 rfl) hB ?_
    refine q_iconst (v := nI 1) dX1_readStatement_12 rfl ?_
    refine q_isubN dX1_readStatement_13 (by omega) ?_
    refine q_callV (As := [.int (nI 2), .int (nI (nb - 1))]) (rest := []) dX1_readStatement_14 vX1_98 (ty_r hb 0 rfl) ⟨by decide, rfl⟩ (z2_addNodeV hb (by omega) hN hB h40) rfl rfl (Nat.le_of_ble_eq_true rfl) (by omega) (by omega) (by omega) (k_w (fun s14 q14 => ?_))
    obtain ⟨qa, d13, d14, dF, d1, d2, d3, d5, d6, d7, d9, d10, d12, d13b⟩ := q14
    have qf := qa.af.bf
    have hSa := SK.bf qf hS
    have hba := RB.bf qf hb
    have hRa : sR s14 5 5 = b := by rw [qf.2.1]; exact hR
    have hCa := PCt.bf hb14 qf hC
    have hsa : SR s14 b ss m := hs.fe fun x i z1 z2 => qa.2.2.2 x i (by omega)
    have hka : sI s14 5 3 = nI k := (qa.2.2.2 5 3 (by omega)).trans hk
    have hBa : sI s14 b 12 = nI nb := (qa.2.2.2 b 12 (by omega)).trans hB
    have hta : sI s14 b 16 = bi t0 := (qa.2.2.2 b 16 (by omega)).trans ht
    have hva : sI s14 8 k = nI (tv T L k) := (qa.2.2.2 8 k (by omega)).trans hv
    refine q_istore_n dX1_readStatement_17 rfl (by decide) (ls' := [(2, .int (nI n)), (0, .ref 5), (1, .int (nI 2))]) rfl ?_
    refine q_aload_n dX1_readStatement_18 rfl rfl rfl ?_
    refine q_getr (r := 6) dX1_readStatement_19 fX1_12 rfl (ty_c hSa (by decide) rfl) (hSa.2 5 0 6 rfl) ?_
    refine q_getr (r := 8) dX1_readStatement_22 fX1_73 rfl (ty_c hSa (by decide) rfl) (hSa.2 6 1 8 rfl) ?_
    refine q_aload_n dX1_readStatement_25 rfl rfl rfl ?_
    refine q_geti (x := nI k) dX1_readStatement_26 fX1_38 rfl (ty_c hSa (by decide) rfl) hka ?_
    refine q_iald (x := nI (tv T L k)) (j := k) dX1_readStatement_29 (ty_c hSa (by decide) rfl) (ix_n (by omega) (by omega)) hva ?_
    refine q_istore_n dX1_readStatement_30 rfl (by decide) (ls' := [(3, .int (nI (tv T L k))), (2, .int (nI n)), (0, .ref 5), (1, .int (nI 2))]) rfl ?_
    refine q_aload_n dX1_readStatement_31 rfl rfl rfl ?_
    refine q_dup dX1_readStatement_32 rfl ?_
    refine q_geti (x := nI k) dX1_readStatement_33 fX1_38 rfl (ty_c hSa (by decide) rfl) hka ?_
    refine q_iconst (v := nI 1) dX1_readStatement_36 rfl ?_
    refine q_iaddN dX1_readStatement_37 ?_
    refine q_puti dX1_readStatement_38 fX1_38 rfl (Or.inl rfl) (ty_c hSa (by decide) rfl) ?_
    refine q_iload_n dX1_readStatement_41 rfl rfl ?_
    by_cases w42_2 : 2 = 2
    · refine q_tableEq 2 (tgt := 132) (off := 90) dX1_readStatement_42 (by rw [w42_2]) (by decide) rfl (by decide) ?_
      refine q_aload_n dX1_readStatement_132 rfl rfl rfl ?_
      refine q_getr (r := b) dX1_readStatement_133 fX1_30 rfl (ty_c hSa (by decide) rfl) hRa ?_
      refine q_getr (r := b + 3) dX1_readStatement_136 fX1_102 rfl (ty_r hba 0 rfl) (hba.2.2 0 2 3 rfl) ?_
      refine q_iload_n dX1_readStatement_139 rfl rfl ?_
      refine q_iload_n dX1_readStatement_140 rfl rfl ?_
      refine q_iast (j := n) dX1_readStatement_141 (ty_r hba 3 rfl) (ix_n (by omega) (by omega)) ?_
      refine q_aload_n dX1_readStatement_142 rfl rfl rfl ?_
      refine q_bipush (v := nI 91) dX1_readStatement_143 rfl ?_
      refine q_callV (As := [.int (nI 91)]) (rest := []) dX1_readStatement_145 vX1_82 (ty_c hSa (by decide) rfl) ⟨by decide, rfl⟩ (z1_takeSign_ok (σ := (uI (uI s14 5 3 (nI (k + 1))) (b + 3) n (nI (tv T L k)))) hSa (PCt.u (PCt.u hCa (by omega)) (by omega)) (Eq.trans (rd_off (by omega)) uI_self) (by omega) a1 (by decide)) rfl rfl (Nat.le_of_ble_eq_true rfl) (by omega) (by omega) (by omega) (k_p ?_)
      refine q_if_eqB (tgt := 191) dX1_readStatement_148 (by decide) (fun h => absurd h (by decide)) (fun _ => ?_)
      refine q_aload_n dX1_readStatement_151 rfl rfl rfl ?_
      refine q_iload_n dX1_readStatement_152 rfl rfl ?_
      refine q_iconst (v := nI 0) dX1_readStatement_153 rfl ?_
      refine q_callV (As := [.int (nI n), .int (nI 0)]) (rest := []) dX1_readStatement_154 vX1_112 (ty_c hSa (by decide) rfl) ⟨by decide, rfl⟩ (z1_readOperand_ok0 (σ := (uI (uI (uI s14 5 3 (nI (k + 1))) (b + 3) n (nI (tv T L k))) 5 3 (nI (k + 1 + 1)))) hSa hba hRa (by omega) (PCt.u (PCt.u (PCt.u hCa (by omega)) (by omega)) (by omega)) hT uI_self (by omega) (Eq.trans (rd_off (by omega)) (Eq.trans (rd_off (by omega)) (Eq.trans (rd_off (by omega)) hta))) a2) rfl rfl (Nat.le_of_ble_eq_true rfl) (by omega) (by omega) (by omega) (k_p ?_)
      refine q_if_eqB (tgt := 191) dX1_readStatement_157 (by decide) (fun h => absurd h (by decide)) (fun _ => ?_)
      refine q_aload_n dX1_readStatement_160 rfl rfl rfl ?_
      refine q_bipush (v := nI 93) dX1_readStatement_161 rfl ?_
      refine q_callV (As := [.int (nI 93)]) (rest := []) dX1_readStatement_163 vX1_82 (ty_c hSa (by decide) rfl) ⟨by decide, rfl⟩ (z1_takeSign_ok (σ := (uI (uI (uI (uI (uI (uI (uI s14 5 3 (nI (k + 1))) (b + 3) n (nI (tv T L k))) 5 3 (nI (k + 1 + 1))) 5 4 o) b 16 (bi (t0 || t1))) 5 3 (nI k1)) (b + 5) n o)) hSa (PCt.u (PCt.u (PCt.u (PCt.u (PCt.u (PCt.u (PCt.u hCa (by omega)) (by omega)) (by omega)) (by omega)) (by omega)) (by omega)) (by omega)) (Eq.trans (rd_off (by omega)) uI_self) (by omega) a3 (by decide)) rfl rfl (Nat.le_of_ble_eq_true rfl) (by omega) (by omega) (by omega) (k_p ?_)
      refine q_if_eqB (tgt := 191) dX1_readStatement_166 (by decide) (fun h => absurd h (by decide)) (fun _ => ?_)
      refine q_aload_n dX1_readStatement_169 rfl rfl rfl ?_
      refine q_bipush (v := nI 61) dX1_readStatement_170 rfl ?_
      refine q_callV (As := [.int (nI 61)]) (rest := []) dX1_readStatement_172 vX1_82 (ty_c hSa (by decide) rfl) ⟨by decide, rfl⟩ (z1_takeSign_ok (σ := (uI (uI (uI (uI (uI (uI (uI (uI s14 5 3 (nI (k + 1))) (b + 3) n (nI (tv T L k))) 5 3 (nI (k + 1 + 1))) 5 4 o) b 16 (bi (t0 || t1))) 5 3 (nI k1)) (b + 5) n o) 5 3 (nI (k1 + 1)))) hSa (PCt.u (PCt.u (PCt.u (PCt.u (PCt.u (PCt.u (PCt.u (PCt.u hCa (by omega)) (by omega)) (by omega)) (by omega)) (by omega)) (by omega)) (by omega)) (by omega)) uI_self (by omega) a4 (by decide)) rfl rfl (Nat.le_of_ble_eq_true rfl) (by omega) (by omega) (by omega) (k_p ?_)
      refine q_if_eqB (tgt := 191) dX1_readStatement_175 (by decide) (fun h => absurd h (by decide)) (fun _ => ?_)
      refine q_aload_n dX1_readStatement_178 rfl rfl rfl ?_
      refine q_iload_n dX1_readStatement_179 rfl rfl ?_
      refine q_iconst (v := nI 1) dX1_readStatement_180 rfl ?_
      refine q_callV (As := [.int (nI n), .int (nI 1)]) (rest := []) dX1_readStatement_181 vX1_112 (ty_c hSa (by decide) rfl) ⟨by decide, rfl⟩ (z1_readOperand_er1 (σ := (uI (uI (uI (uI (uI (uI (uI (uI (uI s14 5 3 (nI (k + 1))) (b + 3) n (nI (tv T L k))) 5 3 (nI (k + 1 + 1))) 5 4 o) b 16 (bi (t0 || t1))) 5 3 (nI k1)) (b + 5) n o) 5 3 (nI (k1 + 1))) 5 3 (nI (k1 + 1 + 1)))) (b := b) (n := n) hSa hRa (by omega) (PCt.u (PCt.u (PCt.u (PCt.u (PCt.u (PCt.u (PCt.u (PCt.u (PCt.u hCa (by omega)) (by omega)) (by omega)) (by omega)) (by omega)) (by omega)) (by omega)) (by omega)) (by omega)) hT uI_self (by omega) a5) rfl rfl (Nat.le_of_ble_eq_true rfl) (by omega) (by omega) (by omega) (k_w (fun s181 q181 => ?_))
      have hbad := BadS.tr (b := b) (σ := s14) (σ' := (uI (uI (uI (uI (uI (uI (uI (uI (uI s14 5 3 (nI (k + 1))) (b + 3) n (nI (tv T L k))) 5 3 (nI (k + 1 + 1))) 5 4 o) b 16 (bi (t0 || t1))) 5 3 (nI k1)) (b + 5) n o) 5 3 (nI (k1 + 1))) 5 3 (nI (k1 + 1 + 1)))) (BFr.uI (BFr.uI (BFr.uI (BFr.uI (BFr.uI (BFr.uI (BFr.uI (BFr.uI (BFr.uI BFr.rf (by omega)) (by omega)) (by omega)) (by omega)) (by omega)) (by omega)) (by omega)) (by omega)) (by omega)) q181
      refine q_if_eqB (tgt := 191) dX1_readStatement_184 (by decide) (fun _ => ?_) (fun h => absurd h (by decide))
      refine q_iconst (v := nI 0) dX1_readStatement_191 rfl ?_
      refine q_ireturn dX1_readStatement_192 rfl rfl (by omega) (by omega) ?_
      exact ⟨rfl, BadS.tr qf hbad⟩
    exact absurd rfl w42_2
theorem z1_rs3_ok {g : GG} {σ : HS} (hS : SK σ) {b : Nat} (hb : RB σ b) (hR : sR σ 5 5 = b) {T : Nat → Nat} {L N k n nb : Nat} (hn : n < 160) (h1 : 1 ≤ nb) (h40 : nb ≤ 40) (hC : PCt σ T L N) (hT : ∀ i, i < L → T i < 256) (hk : sI σ 5 3 = nI k) (hkN : k < N) {ss : List SUM} {m t0 : Bool} (hB : sI σ b 12 = nI nb) (hN : sI σ b 14 = nI n) (ht : sI σ b 16 = bi t0) (hs : SR σ b ss m) {s : ST0} {k2 : Nat} {t : Bool} (hx : pSt T L 3 k = .ok (s, k2, t)) : CT g mX1_readStatement 6 0 0 [.ref 5, .int (nI 3)] σ (WQ (.int (bi true)) (fun σ' => sI σ' 5 3 = nI k2 ∧ AddS b n nb σ σ' (recS T L (nb - 1) s (sumS ss s.2.2.2.2.1).1) (sumS ss s.2.2.2.2.1).2.1 (m || (sumS ss s.2.2.2.2.1).2.2) (t0 || t))) := by
  have hb14 : b = 14 ∨ 99 ≤ b := by rcases hb.1 with h | ⟨j, h⟩ <;> omega
  obtain ⟨h6, h2, h3, h4, h5⟩ := id hC
  have hv := (h5 k (by omega)).2.1
  have hvb := tv_b (k := k) hT
  obtain ⟨o, a1, rfl⟩ := pSt_ok3 hx
  have l1 := pOp_lt h4 a1
  refine CT.of (by decide) (Nat.le_of_ble_eq_true rfl) ?_
  refine q_aload_n dX1_readStatement_0 rfl rfl rfl ?_
  refine q_getr (r := b) dX1_readStatement_1 fX1_30 rfl (ty_c hS (by decide) rfl) hR ?_
  refine q_iload_n dX1_readStatement_4 rfl rfl ?_
  refine q_aload_n dX1_readStatement_5 rfl rfl rfl ?_
  refine q_getr (r := b) dX1_readStatement_6 fX1_30 rfl (ty_c hS (by decide) rfl) hR ?_
  refine q_geti (x := nI nb) dX1_readStatement_9 fX1_95 rfl (ty_r hb 0 rfl) hB ?_
  refine q_iconst (v := nI 1) dX1_readStatement_12 rfl ?_
  refine q_isubN dX1_readStatement_13 (by omega) ?_
  refine q_callV (As := [.int (nI 3), .int (nI (nb - 1))]) (rest := []) dX1_readStatement_14 vX1_98 (ty_r hb 0 rfl) ⟨by decide, rfl⟩ (z2_addNodeV hb (by omega) hN hB h40) rfl rfl (Nat.le_of_ble_eq_true rfl) (by omega) (by omega) (by omega) (k_w (fun s14 q14 => ?_))
  obtain ⟨qa, d13, d14, dF, d1, d2, d3, d5, d6, d7, d9, d10, d12, d13b⟩ := q14
  have qf := qa.af.bf
  have hSa := SK.bf qf hS
  have hba := RB.bf qf hb
  have hRa : sR s14 5 5 = b := by rw [qf.2.1]; exact hR
  have hCa := PCt.bf hb14 qf hC
  have hsa : SR s14 b ss m := hs.fe fun x i z1 z2 => qa.2.2.2 x i (by omega)
  have hka : sI s14 5 3 = nI k := (qa.2.2.2 5 3 (by omega)).trans hk
  have hBa : sI s14 b 12 = nI nb := (qa.2.2.2 b 12 (by omega)).trans hB
  have hta : sI s14 b 16 = bi t0 := (qa.2.2.2 b 16 (by omega)).trans ht
  have hva : sI s14 8 k = nI (tv T L k) := (qa.2.2.2 8 k (by omega)).trans hv
  refine q_istore_n dX1_readStatement_17 rfl (by decide) (ls' := [(2, .int (nI n)), (0, .ref 5), (1, .int (nI 3))]) rfl ?_
  refine q_aload_n dX1_readStatement_18 rfl rfl rfl ?_
  refine q_getr (r := 6) dX1_readStatement_19 fX1_12 rfl (ty_c hSa (by decide) rfl) (hSa.2 5 0 6 rfl) ?_
  refine q_getr (r := 8) dX1_readStatement_22 fX1_73 rfl (ty_c hSa (by decide) rfl) (hSa.2 6 1 8 rfl) ?_
  refine q_aload_n dX1_readStatement_25 rfl rfl rfl ?_
  refine q_geti (x := nI k) dX1_readStatement_26 fX1_38 rfl (ty_c hSa (by decide) rfl) hka ?_
  refine q_iald (x := nI (tv T L k)) (j := k) dX1_readStatement_29 (ty_c hSa (by decide) rfl) (ix_n (by omega) (by omega)) hva ?_
  refine q_istore_n dX1_readStatement_30 rfl (by decide) (ls' := [(3, .int (nI (tv T L k))), (2, .int (nI n)), (0, .ref 5), (1, .int (nI 3))]) rfl ?_
  refine q_aload_n dX1_readStatement_31 rfl rfl rfl ?_
  refine q_dup dX1_readStatement_32 rfl ?_
  refine q_geti (x := nI k) dX1_readStatement_33 fX1_38 rfl (ty_c hSa (by decide) rfl) hka ?_
  refine q_iconst (v := nI 1) dX1_readStatement_36 rfl ?_
  refine q_iaddN dX1_readStatement_37 ?_
  refine q_puti dX1_readStatement_38 fX1_38 rfl (Or.inl rfl) (ty_c hSa (by decide) rfl) ?_
  refine q_iload_n dX1_readStatement_41 rfl rfl ?_
  by_cases w42_3 : 3 = 3
  · refine q_tableEq 3 (tgt := 193) (off := 151) dX1_readStatement_42 (by rw [w42_3]) (by decide) rfl (by decide) ?_
    refine q_aload_n dX1_readStatement_193 rfl rfl rfl ?_
    refine q_iload_n dX1_readStatement_194 rfl rfl ?_
    refine q_iconst (v := nI 0) dX1_readStatement_195 rfl ?_
    refine q_callV (As := [.int (nI n), .int (nI 0)]) (rest := []) dX1_readStatement_196 vX1_112 (ty_c hSa (by decide) rfl) ⟨by decide, rfl⟩ (z1_readOperand_ok0 (σ := (uI s14 5 3 (nI (k + 1)))) hSa hba hRa (by omega) (PCt.u hCa (by omega)) hT uI_self (by omega) (Eq.trans (rd_off (by omega)) hta) a1) rfl rfl (Nat.le_of_ble_eq_true rfl) (by omega) (by omega) (by omega) (k_p ?_)
    refine q_ireturn dX1_readStatement_199 rfl (bi_nar _) (by omega) (by omega) ?_
    exact ⟨rfl, (Eq.trans (rd_off (by omega)) uI_self), qa.af.tr (AF.uI (AF.uI (AF.uI (AF.uI (AF.uI AF.rf (by omega)) (by omega)) (by omega)) (by omega)) (by omega)), (Eq.trans (rd_off (by omega)) (Eq.trans (rd_off (by omega)) (Eq.trans (rd_ne (by decide)) (Eq.trans (rd_off (by omega)) (Eq.trans (rd_off (by omega)) d13))))), (Eq.trans (rd_off (by omega)) (Eq.trans (rd_off (by omega)) (Eq.trans (rd_ne (by decide)) (Eq.trans (rd_off (by omega)) (Eq.trans (rd_off (by omega)) d14))))), (Eq.trans (rd_off (by omega)) (Eq.trans (rd_off (by omega)) uI_self)), SR.cg (SR.u (SR.u (SR.u (SR.u (SR.u hsa (by omega)) (by omega)) (by omega)) (by omega)) (by omega)) (Bool.or_false m).symm, (Eq.trans (rd_off (by omega)) (Eq.trans (rd_off (by omega)) (Eq.trans (rd_off (by omega)) (Eq.trans (rd_off (by omega)) (Eq.trans (rd_off (by omega)) dF))))), (Eq.trans (rd_off (by omega)) (Eq.trans (rd_off (by omega)) (Eq.trans (rd_off (by omega)) (Eq.trans (rd_off (by omega)) (Eq.trans (rd_off (by omega)) d1))))), (Eq.trans (rd_off (by omega)) (Eq.trans (rd_off (by omega)) (Eq.trans (rd_off (by omega)) (Eq.trans (rd_off (by omega)) (Eq.trans (rd_off (by omega)) d2))))), (Eq.trans (rd_off (by omega)) (Eq.trans (rd_off (by omega)) (Eq.trans (rd_off (by omega)) (Eq.trans (rd_off (by omega)) (Eq.trans (rd_off (by omega)) d3))))), uI_self, (Eq.trans (rd_off (by omega)) (Eq.trans (rd_off (by omega)) (Eq.trans (rd_off (by omega)) (Eq.trans (rd_off (by omega)) (Eq.trans (rd_off (by omega)) d6))))), (Eq.trans (rd_off (by omega)) (Eq.trans (rd_off (by omega)) (Eq.trans (rd_off (by omega)) (Eq.trans (rd_off (by omega)) (Eq.trans (rd_off (by omega)) d7))))), (Eq.trans (rd_off (by omega)) (Eq.trans (rd_off (by omega)) (Eq.trans (rd_off (by omega)) (Eq.trans (rd_off (by omega)) (Eq.trans (rd_off (by omega)) d9))))), (Eq.trans (rd_off (by omega)) (Eq.trans (rd_off (by omega)) (Eq.trans (rd_off (by omega)) (Eq.trans (rd_off (by omega)) (Eq.trans (rd_off (by omega)) d10))))), (Eq.trans (rd_off (by omega)) (Eq.trans (rd_off (by omega)) (Eq.trans (rd_off (by omega)) (Eq.trans (rd_off (by omega)) (Eq.trans (rd_off (by omega)) d12))))), (Eq.trans (rd_off (by omega)) (Eq.trans (rd_off (by omega)) (Eq.trans (rd_off (by omega)) (Eq.trans (rd_off (by omega)) (Eq.trans (rd_off (by omega)) d13b))))), fun _ q => absurd rfl q, fun _ q => absurd rfl q⟩
  exact absurd rfl w42_3
theorem z1_rs3_er {g : GG} {σ : HS} (hS : SK σ) {b : Nat} (hb : RB σ b) (hR : sR σ 5 5 = b) {T : Nat → Nat} {L N k n nb : Nat} (hn : n < 160) (h1 : 1 ≤ nb) (h40 : nb ≤ 40) (hC : PCt σ T L N) (hT : ∀ i, i < L → T i < 256) (hk : sI σ 5 3 = nI k) (hkN : k < N) {ss : List SUM} {m t0 : Bool} (hB : sI σ b 12 = nI nb) (hN : sI σ b 14 = nI n) (ht : sI σ b 16 = bi t0) (hs : SR σ b ss m) {e : Nat × Nat} (hx : pSt T L 3 k = .error e) : CT g mX1_readStatement 6 0 0 [.ref 5, .int (nI 3)] σ (WQ (.int (bi false)) (fun σ' => BadS b σ σ' e)) := by
  have hb14 : b = 14 ∨ 99 ≤ b := by rcases hb.1 with h | ⟨j, h⟩ <;> omega
  obtain ⟨h6, h2, h3, h4, h5⟩ := id hC
  have hv := (h5 k (by omega)).2.1
  have hvb := tv_b (k := k) hT
  have a1 := pSt_er3 hx
  refine CT.of (by decide) (Nat.le_of_ble_eq_true rfl) ?_
  refine q_aload_n dX1_readStatement_0 rfl rfl rfl ?_
  refine q_getr (r := b) dX1_readStatement_1 fX1_30 rfl (ty_c hS (by decide) rfl) hR ?_
  refine q_iload_n dX1_readStatement_4 rfl rfl ?_
  refine q_aload_n dX1_readStatement_5 rfl rfl rfl ?_
  refine q_getr (r := b) dX1_readStatement_6 fX1_30 rfl (ty_c hS (by decide) rfl) hR ?_
  refine q_geti (x := nI nb) dX1_readStatement_9 fX1_95 rfl (ty_r hb 0 rfl) hB ?_
  refine q_iconst (v := nI 1) dX1_readStatement_12 rfl ?_
  refine q_isubN dX1_readStatement_13 (by omega) ?_
  refine q_callV (As := [.int (nI 3), .int (nI (nb - 1))]) (rest := []) dX1_readStatement_14 vX1_98 (ty_r hb 0 rfl) ⟨by decide, rfl⟩ (z2_addNodeV hb (by omega) hN hB h40) rfl rfl (Nat.le_of_ble_eq_true rfl) (by omega) (by omega) (by omega) (k_w (fun s14 q14 => ?_))
  obtain ⟨qa, d13, d14, dF, d1, d2, d3, d5, d6, d7, d9, d10, d12, d13b⟩ := q14
  have qf := qa.af.bf
  have hSa := SK.bf qf hS
  have hba := RB.bf qf hb
  have hRa : sR s14 5 5 = b := by rw [qf.2.1]; exact hR
  have hCa := PCt.bf hb14 qf hC
  have hsa : SR s14 b ss m := hs.fe fun x i z1 z2 => qa.2.2.2 x i (by omega)
  have hka : sI s14 5 3 = nI k := (qa.2.2.2 5 3 (by omega)).trans hk
  have hBa : sI s14 b 12 = nI nb := (qa.2.2.2 b 12 (by omega)).trans hB
  have hta : sI s14 b 16 = bi t0 := (qa.2.2.2 b 16 (by omega)).trans ht
  have hva : sI s14 8 k = nI (tv T L k) := (qa.2.2.2 8 k (by omega)).trans hv
  refine q_istore_n dX1_readStatement_17 rfl (by decide) (ls' := [(2, .int (nI n)), (0, .ref 5), (1, .int (nI 3))]) rfl ?_
  refine q_aload_n dX1_readStatement_18 rfl rfl rfl ?_
  refine q_getr (r := 6) dX1_readStatement_19 fX1_12 rfl (ty_c hSa (by decide) rfl) (hSa.2 5 0 6 rfl) ?_
  refine q_getr (r := 8) dX1_readStatement_22 fX1_73 rfl (ty_c hSa (by decide) rfl) (hSa.2 6 1 8 rfl) ?_
  refine q_aload_n dX1_readStatement_25 rfl rfl rfl ?_
  refine q_geti (x := nI k) dX1_readStatement_26 fX1_38 rfl (ty_c hSa (by decide) rfl) hka ?_
  refine q_iald (x := nI (tv T L k)) (j := k) dX1_readStatement_29 (ty_c hSa (by decide) rfl) (ix_n (by omega) (by omega)) hva ?_
  refine q_istore_n dX1_readStatement_30 rfl (by decide) (ls' := [(3, .int (nI (tv T L k))), (2, .int (nI n)), (0, .ref 5), (1, .int (nI 3))]) rfl ?_
  refine q_aload_n dX1_readStatement_31 rfl rfl rfl ?_
  refine q_dup dX1_readStatement_32 rfl ?_
  refine q_geti (x := nI k) dX1_readStatement_33 fX1_38 rfl (ty_c hSa (by decide) rfl) hka ?_
  refine q_iconst (v := nI 1) dX1_readStatement_36 rfl ?_
  refine q_iaddN dX1_readStatement_37 ?_
  refine q_puti dX1_readStatement_38 fX1_38 rfl (Or.inl rfl) (ty_c hSa (by decide) rfl) ?_
  refine q_iload_n dX1_readStatement_41 rfl rfl ?_
  by_cases w42_3 : 3 = 3
  · refine q_tableEq 3 (tgt := 193) (off := 151) dX1_readStatement_42 (by rw [w42_3]) (by decide) rfl (by decide) ?_
    refine q_aload_n dX1_readStatement_193 rfl rfl rfl ?_
    refine q_iload_n dX1_readStatement_194 rfl rfl ?_
    refine q_iconst (v := nI 0) dX1_readStatement_195 rfl ?_
    refine q_callV (As := [.int (nI n), .int (nI 0)]) (rest := []) dX1_readStatement_196 vX1_112 (ty_c hSa (by decide) rfl) ⟨by decide, rfl⟩ (z1_readOperand_er0 (σ := (uI s14 5 3 (nI (k + 1)))) (b := b) (n := n) hSa hRa (by omega) (PCt.u hCa (by omega)) hT uI_self (by omega) a1) rfl rfl (Nat.le_of_ble_eq_true rfl) (by omega) (by omega) (by omega) (k_w (fun s196 q196 => ?_))
    have hbad := BadS.tr (b := b) (σ := s14) (σ' := (uI s14 5 3 (nI (k + 1)))) (BFr.uI BFr.rf (by omega)) q196
    refine q_ireturn dX1_readStatement_199 rfl (bi_nar _) (by omega) (by omega) ?_
    exact ⟨rfl, BadS.tr qf hbad⟩
  exact absurd rfl w42_3
theorem z1_rs4_ok {g : GG} {σ : HS} (hS : SK σ) {b : Nat} (hb : RB σ b) (hR : sR σ 5 5 = b) {T : Nat → Nat} {L N k n nb : Nat} (hn : n < 160) (h1 : 1 ≤ nb) (h40 : nb ≤ 40) (hC : PCt σ T L N) (hT : ∀ i, i < L → T i < 256) (hk : sI σ 5 3 = nI k) (hkN : k < N) {ss : List SUM} {m t0 : Bool} (hB : sI σ b 12 = nI nb) (hN : sI σ b 14 = nI n) (ht : sI σ b 16 = bi t0) (hs : SR σ b ss m) {s : ST0} {k2 : Nat} {t : Bool} (hx : pSt T L 4 k = .ok (s, k2, t)) : CT g mX1_readStatement 6 0 0 [.ref 5, .int (nI 4)] σ (WQ (.int (bi true)) (fun σ' => sI σ' 5 3 = nI k2 ∧ AddS b n nb σ σ' (recS T L (nb - 1) s (sumS ss s.2.2.2.2.1).1) (sumS ss s.2.2.2.2.1).2.1 (m || (sumS ss s.2.2.2.2.1).2.2) (t0 || t))) := by
  have hb14 : b = 14 ∨ 99 ≤ b := by rcases hb.1 with h | ⟨j, h⟩ <;> omega
  obtain ⟨h6, h2, h3, h4, h5⟩ := id hC
  have hv := (h5 k (by omega)).2.1
  have hvb := tv_b (k := k) hT
  obtain ⟨a1, rfl, rfl, rfl⟩ := pSt_ok4 hx
  have l1 := tk_lt h4 (k := k + 1) (by omega)
  refine CT.of (by decide) (Nat.le_of_ble_eq_true rfl) ?_
  refine q_aload_n dX1_readStatement_0 rfl rfl rfl ?_
  refine q_getr (r := b) dX1_readStatement_1 fX1_30 rfl (ty_c hS (by decide) rfl) hR ?_
  refine q_iload_n dX1_readStatement_4 rfl rfl ?_
  refine q_aload_n dX1_readStatement_5 rfl rfl rfl ?_
  refine q_getr (r := b) dX1_readStatement_6 fX1_30 rfl (ty_c hS (by decide) rfl) hR ?_
  refine q_geti (x := nI nb) dX1_readStatement_9 fX1_95 rfl (ty_r hb 0 rfl) hB ?_
  refine q_iconst (v := nI 1) dX1_readStatement_12 rfl ?_
  refine q_isubN dX1_readStatement_13 (by omega) ?_
  refine q_callV (As := [.int (nI 4), .int (nI (nb - 1))]) (rest := []) dX1_readStatement_14 vX1_98 (ty_r hb 0 rfl) ⟨by decide, rfl⟩ (z2_addNodeV hb (by omega) hN hB h40) rfl rfl (Nat.le_of_ble_eq_true rfl) (by omega) (by omega) (by omega) (k_w (fun s14 q14 => ?_))
  obtain ⟨qa, d13, d14, dF, d1, d2, d3, d5, d6, d7, d9, d10, d12, d13b⟩ := q14
  have qf := qa.af.bf
  have hSa := SK.bf qf hS
  have hba := RB.bf qf hb
  have hRa : sR s14 5 5 = b := by rw [qf.2.1]; exact hR
  have hCa := PCt.bf hb14 qf hC
  have hsa : SR s14 b ss m := hs.fe fun x i z1 z2 => qa.2.2.2 x i (by omega)
  have hka : sI s14 5 3 = nI k := (qa.2.2.2 5 3 (by omega)).trans hk
  have hBa : sI s14 b 12 = nI nb := (qa.2.2.2 b 12 (by omega)).trans hB
  have hta : sI s14 b 16 = bi t0 := (qa.2.2.2 b 16 (by omega)).trans ht
  have hva : sI s14 8 k = nI (tv T L k) := (qa.2.2.2 8 k (by omega)).trans hv
  refine q_istore_n dX1_readStatement_17 rfl (by decide) (ls' := [(2, .int (nI n)), (0, .ref 5), (1, .int (nI 4))]) rfl ?_
  refine q_aload_n dX1_readStatement_18 rfl rfl rfl ?_
  refine q_getr (r := 6) dX1_readStatement_19 fX1_12 rfl (ty_c hSa (by decide) rfl) (hSa.2 5 0 6 rfl) ?_
  refine q_getr (r := 8) dX1_readStatement_22 fX1_73 rfl (ty_c hSa (by decide) rfl) (hSa.2 6 1 8 rfl) ?_
  refine q_aload_n dX1_readStatement_25 rfl rfl rfl ?_
  refine q_geti (x := nI k) dX1_readStatement_26 fX1_38 rfl (ty_c hSa (by decide) rfl) hka ?_
  refine q_iald (x := nI (tv T L k)) (j := k) dX1_readStatement_29 (ty_c hSa (by decide) rfl) (ix_n (by omega) (by omega)) hva ?_
  refine q_istore_n dX1_readStatement_30 rfl (by decide) (ls' := [(3, .int (nI (tv T L k))), (2, .int (nI n)), (0, .ref 5), (1, .int (nI 4))]) rfl ?_
  refine q_aload_n dX1_readStatement_31 rfl rfl rfl ?_
  refine q_dup dX1_readStatement_32 rfl ?_
  refine q_geti (x := nI k) dX1_readStatement_33 fX1_38 rfl (ty_c hSa (by decide) rfl) hka ?_
  refine q_iconst (v := nI 1) dX1_readStatement_36 rfl ?_
  refine q_iaddN dX1_readStatement_37 ?_
  refine q_puti dX1_readStatement_38 fX1_38 rfl (Or.inl rfl) (ty_c hSa (by decide) rfl) ?_
  refine q_iload_n dX1_readStatement_41 rfl rfl ?_
  by_cases w42_4 : 4 = 4
  · refine q_tableEq 4 (tgt := 200) (off := 158) dX1_readStatement_42 (by rw [w42_4]) (by decide) rfl (by decide) ?_
    refine q_aload_n dX1_readStatement_200 rfl rfl rfl ?_
    refine q_iload_n dX1_readStatement_201 rfl rfl ?_
    refine q_iconst (v := nI 0) dX1_readStatement_202 rfl ?_
    refine q_callV (As := [.int (nI n), .int (nI 0)]) (rest := []) dX1_readStatement_203 vX1_116 (ty_c hSa (by decide) rfl) ⟨by decide, rfl⟩ (z1_readWay_ok0 (σ := (uI s14 5 3 (nI (k + 1)))) (n := n) hSa hba hRa (by omega) (PCt.u hCa (by omega)) uI_self (by omega) (Eq.trans (rd_off (by omega)) hBa) h1 h40 a1) rfl rfl (Nat.le_of_ble_eq_true rfl) (by omega) (by omega) (by omega) (k_p ?_)
    refine q_ireturn dX1_readStatement_206 rfl (bi_nar _) (by omega) (by omega) ?_
    exact ⟨rfl, uI_self, qa.af.tr (AF.uI (AF.uI (AF.uI (AF.uI AF.rf (by omega)) (by omega)) (by omega)) (by omega)), (Eq.trans (rd_off (by omega)) (Eq.trans (rd_off (by omega)) (Eq.trans (rd_off (by omega)) (Eq.trans (rd_off (by omega)) d13)))), (Eq.trans (rd_off (by omega)) (Eq.trans (rd_off (by omega)) (Eq.trans (rd_off (by omega)) (Eq.trans (rd_off (by omega)) d14)))), ((Eq.trans (rd_off (by omega)) (Eq.trans (rd_off (by omega)) (Eq.trans (rd_off (by omega)) (Eq.trans (rd_off (by omega)) hta))))).trans (congrArg bi (Bool.or_false t0).symm), SR.cg (SR.u (SR.u (SR.u (SR.u hsa (by omega)) (by omega)) (by omega)) (by omega)) (Bool.or_false m).symm, (Eq.trans (rd_off (by omega)) (Eq.trans (rd_off (by omega)) (Eq.trans (rd_off (by omega)) (Eq.trans (rd_off (by omega)) dF)))), (Eq.trans (rd_off (by omega)) (Eq.trans (rd_off (by omega)) (Eq.trans (rd_off (by omega)) (Eq.trans (rd_off (by omega)) d1)))), (Eq.trans (rd_off (by omega)) (Eq.trans (rd_off (by omega)) (Eq.trans (rd_off (by omega)) (Eq.trans (rd_off (by omega)) d2)))), (Eq.trans (rd_off (by omega)) (Eq.trans (rd_off (by omega)) (Eq.trans (rd_off (by omega)) (Eq.trans (rd_off (by omega)) d3)))), (Eq.trans (rd_off (by omega)) (Eq.trans (rd_off (by omega)) (Eq.trans (rd_off (by omega)) (Eq.trans (rd_off (by omega)) d5)))), (Eq.trans (rd_off (by omega)) (Eq.trans (rd_off (by omega)) (Eq.trans (rd_off (by omega)) (Eq.trans (rd_off (by omega)) d6)))), (Eq.trans (rd_off (by omega)) (Eq.trans (rd_off (by omega)) (Eq.trans (rd_off (by omega)) (Eq.trans (rd_off (by omega)) d7)))), ((Eq.trans (rd_off (by omega)) (Eq.trans (rd_off (by omega)) uI_self))).trans (wyV_p (T := T) (L := L) (k := k + 1) (by omega)).symm, (Eq.trans (rd_off (by omega)) (Eq.trans (rd_off (by omega)) (Eq.trans (rd_off (by omega)) (Eq.trans (rd_off (by omega)) d10)))), (Eq.trans (rd_off (by omega)) (Eq.trans (rd_off (by omega)) (Eq.trans (rd_off (by omega)) (Eq.trans (rd_off (by omega)) d12)))), (Eq.trans (rd_off (by omega)) (Eq.trans (rd_off (by omega)) (Eq.trans (rd_off (by omega)) (Eq.trans (rd_off (by omega)) d13b)))), fun _ _ => (Eq.trans (rd_off (by decide)) uI_self), fun _ q => absurd rfl q⟩
  exact absurd rfl w42_4
theorem z1_rs4_er {g : GG} {σ : HS} (hS : SK σ) {b : Nat} (hb : RB σ b) (hR : sR σ 5 5 = b) {T : Nat → Nat} {L N k n nb : Nat} (hn : n < 160) (h1 : 1 ≤ nb) (h40 : nb ≤ 40) (hC : PCt σ T L N) (hT : ∀ i, i < L → T i < 256) (hk : sI σ 5 3 = nI k) (hkN : k < N) {ss : List SUM} {m t0 : Bool} (hB : sI σ b 12 = nI nb) (hN : sI σ b 14 = nI n) (ht : sI σ b 16 = bi t0) (hs : SR σ b ss m) {e : Nat × Nat} (hx : pSt T L 4 k = .error e) : CT g mX1_readStatement 6 0 0 [.ref 5, .int (nI 4)] σ (WQ (.int (bi false)) (fun σ' => BadS b σ σ' e)) := by
  have hb14 : b = 14 ∨ 99 ≤ b := by rcases hb.1 with h | ⟨j, h⟩ <;> omega
  obtain ⟨h6, h2, h3, h4, h5⟩ := id hC
  have hv := (h5 k (by omega)).2.1
  have hvb := tv_b (k := k) hT
  obtain ⟨a1, rfl⟩ := pSt_er4 hx
  refine CT.of (by decide) (Nat.le_of_ble_eq_true rfl) ?_
  refine q_aload_n dX1_readStatement_0 rfl rfl rfl ?_
  refine q_getr (r := b) dX1_readStatement_1 fX1_30 rfl (ty_c hS (by decide) rfl) hR ?_
  refine q_iload_n dX1_readStatement_4 rfl rfl ?_
  refine q_aload_n dX1_readStatement_5 rfl rfl rfl ?_
  refine q_getr (r := b) dX1_readStatement_6 fX1_30 rfl (ty_c hS (by decide) rfl) hR ?_
  refine q_geti (x := nI nb) dX1_readStatement_9 fX1_95 rfl (ty_r hb 0 rfl) hB ?_
  refine q_iconst (v := nI 1) dX1_readStatement_12 rfl ?_
  refine q_isubN dX1_readStatement_13 (by omega) ?_
  refine q_callV (As := [.int (nI 4), .int (nI (nb - 1))]) (rest := []) dX1_readStatement_14 vX1_98 (ty_r hb 0 rfl) ⟨by decide, rfl⟩ (z2_addNodeV hb (by omega) hN hB h40) rfl rfl (Nat.le_of_ble_eq_true rfl) (by omega) (by omega) (by omega) (k_w (fun s14 q14 => ?_))
  obtain ⟨qa, d13, d14, dF, d1, d2, d3, d5, d6, d7, d9, d10, d12, d13b⟩ := q14
  have qf := qa.af.bf
  have hSa := SK.bf qf hS
  have hba := RB.bf qf hb
  have hRa : sR s14 5 5 = b := by rw [qf.2.1]; exact hR
  have hCa := PCt.bf hb14 qf hC
  have hsa : SR s14 b ss m := hs.fe fun x i z1 z2 => qa.2.2.2 x i (by omega)
  have hka : sI s14 5 3 = nI k := (qa.2.2.2 5 3 (by omega)).trans hk
  have hBa : sI s14 b 12 = nI nb := (qa.2.2.2 b 12 (by omega)).trans hB
  have hta : sI s14 b 16 = bi t0 := (qa.2.2.2 b 16 (by omega)).trans ht
  have hva : sI s14 8 k = nI (tv T L k) := (qa.2.2.2 8 k (by omega)).trans hv
  refine q_istore_n dX1_readStatement_17 rfl (by decide) (ls' := [(2, .int (nI n)), (0, .ref 5), (1, .int (nI 4))]) rfl ?_
  refine q_aload_n dX1_readStatement_18 rfl rfl rfl ?_
  refine q_getr (r := 6) dX1_readStatement_19 fX1_12 rfl (ty_c hSa (by decide) rfl) (hSa.2 5 0 6 rfl) ?_
  refine q_getr (r := 8) dX1_readStatement_22 fX1_73 rfl (ty_c hSa (by decide) rfl) (hSa.2 6 1 8 rfl) ?_
  refine q_aload_n dX1_readStatement_25 rfl rfl rfl ?_
  refine q_geti (x := nI k) dX1_readStatement_26 fX1_38 rfl (ty_c hSa (by decide) rfl) hka ?_
  refine q_iald (x := nI (tv T L k)) (j := k) dX1_readStatement_29 (ty_c hSa (by decide) rfl) (ix_n (by omega) (by omega)) hva ?_
  refine q_istore_n dX1_readStatement_30 rfl (by decide) (ls' := [(3, .int (nI (tv T L k))), (2, .int (nI n)), (0, .ref 5), (1, .int (nI 4))]) rfl ?_
  refine q_aload_n dX1_readStatement_31 rfl rfl rfl ?_
  refine q_dup dX1_readStatement_32 rfl ?_
  refine q_geti (x := nI k) dX1_readStatement_33 fX1_38 rfl (ty_c hSa (by decide) rfl) hka ?_
  refine q_iconst (v := nI 1) dX1_readStatement_36 rfl ?_
  refine q_iaddN dX1_readStatement_37 ?_
  refine q_puti dX1_readStatement_38 fX1_38 rfl (Or.inl rfl) (ty_c hSa (by decide) rfl) ?_
  refine q_iload_n dX1_readStatement_41 rfl rfl ?_
  by_cases w42_4 : 4 = 4
  · refine q_tableEq 4 (tgt := 200) (off := 158) dX1_readStatement_42 (by rw [w42_4]) (by decide) rfl (by decide) ?_
    refine q_aload_n dX1_readStatement_200 rfl rfl rfl ?_
    refine q_iload_n dX1_readStatement_201 rfl rfl ?_
    refine q_iconst (v := nI 0) dX1_readStatement_202 rfl ?_
    refine q_callV (As := [.int (nI n), .int (nI 0)]) (rest := []) dX1_readStatement_203 vX1_116 (ty_c hSa (by decide) rfl) ⟨by decide, rfl⟩ (z1_readWay_er0 (σ := (uI s14 5 3 (nI (k + 1)))) (b := b) (n := n) hSa (by omega) (PCt.u hCa (by omega)) uI_self (by omega) a1) rfl rfl (Nat.le_of_ble_eq_true rfl) (by omega) (by omega) (by omega) (k_w (fun s203 q203 => ?_))
    have hbad := BadS.tr (b := b) (σ := s14) (σ' := (uI s14 5 3 (nI (k + 1)))) (BFr.uI BFr.rf (by omega)) q203
    refine q_ireturn dX1_readStatement_206 rfl (bi_nar _) (by omega) (by omega) ?_
    exact ⟨rfl, BadS.tr qf hbad⟩
  exact absurd rfl w42_4
theorem z1_rs5_ok {g : GG} {σ : HS} (hS : SK σ) {b : Nat} (hb : RB σ b) (hR : sR σ 5 5 = b) {T : Nat → Nat} {L N k n nb : Nat} (hn : n < 160) (h1 : 1 ≤ nb) (h40 : nb ≤ 40) (hC : PCt σ T L N) (hT : ∀ i, i < L → T i < 256) (hk : sI σ 5 3 = nI k) (hkN : k < N) {ss : List SUM} {m t0 : Bool} (hB : sI σ b 12 = nI nb) (hN : sI σ b 14 = nI n) (ht : sI σ b 16 = bi t0) (hs : SR σ b ss m) {s : ST0} {k2 : Nat} {t : Bool} (hx : pSt T L 5 k = .ok (s, k2, t)) : CT g mX1_readStatement 6 0 0 [.ref 5, .int (nI 5)] σ (WQ (.int (bi true)) (fun σ' => sI σ' 5 3 = nI k2 ∧ AddS b n nb σ σ' (recS T L (nb - 1) s (sumS ss s.2.2.2.2.1).1) (sumS ss s.2.2.2.2.1).2.1 (m || (sumS ss s.2.2.2.2.1).2.2) (t0 || t))) := by
  have hb14 : b = 14 ∨ 99 ≤ b := by rcases hb.1 with h | ⟨j, h⟩ <;> omega
  obtain ⟨h6, h2, h3, h4, h5⟩ := id hC
  have hv := (h5 k (by omega)).2.1
  have hvb := tv_b (k := k) hT
  obtain ⟨o, k1, t1, o2, k3, t2, a1, a2, a3, a4, a5, rfl, rfl, rfl⟩ := pSt_ok5 hx
  have l1 := pOp_lt h4 a1
  have l2 := pSg_lt h4 a2
  have l3 := pOp_lt h4 a3
  have l4 := tk_lt h4 (k := k3) (by omega)
  have l5 := tk_lt h4 (k := k3 + 1) (by omega)
  refine CT.of (by decide) (Nat.le_of_ble_eq_true rfl) ?_
  refine q_aload_n dX1_readStatement_0 rfl rfl rfl ?_
  refine q_getr (r := b) dX1_readStatement_1 fX1_30 rfl (ty_c hS (by decide) rfl) hR ?_
  refine q_iload_n dX1_readStatement_4 rfl rfl ?_
  refine q_aload_n dX1_readStatement_5 rfl rfl rfl ?_
  refine q_getr (r := b) dX1_readStatement_6 fX1_30 rfl (ty_c hS (by decide) rfl) hR ?_
  refine q_geti (x := nI nb) dX1_readStatement_9 fX1_95 rfl (ty_r hb 0 rfl) hB ?_
  refine q_iconst (v := nI 1) dX1_readStatement_12 rfl ?_
  refine q_isubN dX1_readStatement_13 (by omega) ?_
  refine q_callV (As := [.int (nI 5), .int (nI (nb - 1))]) (rest := []) dX1_readStatement_14 vX1_98 (ty_r hb 0 rfl) ⟨by decide, rfl⟩ (z2_addNodeV hb (by omega) hN hB h40) rfl rfl (Nat.le_of_ble_eq_true rfl) (by omega) (by omega) (by omega) (k_w (fun s14 q14 => ?_))
  obtain ⟨qa, d13, d14, dF, d1, d2, d3, d5, d6, d7, d9, d10, d12, d13b⟩ := q14
  have qf := qa.af.bf
  have hSa := SK.bf qf hS
  have hba := RB.bf qf hb
  have hRa : sR s14 5 5 = b := by rw [qf.2.1]; exact hR
  have hCa := PCt.bf hb14 qf hC
  have hsa : SR s14 b ss m := hs.fe fun x i z1 z2 => qa.2.2.2 x i (by omega)
  have hka : sI s14 5 3 = nI k := (qa.2.2.2 5 3 (by omega)).trans hk
  have hBa : sI s14 b 12 = nI nb := (qa.2.2.2 b 12 (by omega)).trans hB
  have hta : sI s14 b 16 = bi t0 := (qa.2.2.2 b 16 (by omega)).trans ht
  have hva : sI s14 8 k = nI (tv T L k) := (qa.2.2.2 8 k (by omega)).trans hv
  refine q_istore_n dX1_readStatement_17 rfl (by decide) (ls' := [(2, .int (nI n)), (0, .ref 5), (1, .int (nI 5))]) rfl ?_
  refine q_aload_n dX1_readStatement_18 rfl rfl rfl ?_
  refine q_getr (r := 6) dX1_readStatement_19 fX1_12 rfl (ty_c hSa (by decide) rfl) (hSa.2 5 0 6 rfl) ?_
  refine q_getr (r := 8) dX1_readStatement_22 fX1_73 rfl (ty_c hSa (by decide) rfl) (hSa.2 6 1 8 rfl) ?_
  refine q_aload_n dX1_readStatement_25 rfl rfl rfl ?_
  refine q_geti (x := nI k) dX1_readStatement_26 fX1_38 rfl (ty_c hSa (by decide) rfl) hka ?_
  refine q_iald (x := nI (tv T L k)) (j := k) dX1_readStatement_29 (ty_c hSa (by decide) rfl) (ix_n (by omega) (by omega)) hva ?_
  refine q_istore_n dX1_readStatement_30 rfl (by decide) (ls' := [(3, .int (nI (tv T L k))), (2, .int (nI n)), (0, .ref 5), (1, .int (nI 5))]) rfl ?_
  refine q_aload_n dX1_readStatement_31 rfl rfl rfl ?_
  refine q_dup dX1_readStatement_32 rfl ?_
  refine q_geti (x := nI k) dX1_readStatement_33 fX1_38 rfl (ty_c hSa (by decide) rfl) hka ?_
  refine q_iconst (v := nI 1) dX1_readStatement_36 rfl ?_
  refine q_iaddN dX1_readStatement_37 ?_
  refine q_puti dX1_readStatement_38 fX1_38 rfl (Or.inl rfl) (ty_c hSa (by decide) rfl) ?_
  refine q_iload_n dX1_readStatement_41 rfl rfl ?_
  by_cases w42_5 : 5 = 5
  · refine q_tableEq 5 (tgt := 207) (off := 165) dX1_readStatement_42 (by rw [w42_5]) (by decide) rfl (by decide) ?_
    refine q_aload_n dX1_readStatement_207 rfl rfl rfl ?_
    refine q_iload_n dX1_readStatement_208 rfl rfl ?_
    refine q_iconst (v := nI 0) dX1_readStatement_209 rfl ?_
    refine q_callV (As := [.int (nI n), .int (nI 0)]) (rest := []) dX1_readStatement_210 vX1_112 (ty_c hSa (by decide) rfl) ⟨by decide, rfl⟩ (z1_readOperand_ok0 (σ := (uI s14 5 3 (nI (k + 1)))) hSa hba hRa (by omega) (PCt.u hCa (by omega)) hT uI_self (by omega) (Eq.trans (rd_off (by omega)) hta) a1) rfl rfl (Nat.le_of_ble_eq_true rfl) (by omega) (by omega) (by omega) (k_p ?_)
    refine q_if_eqB (tgt := 256) dX1_readStatement_213 (by decide) (fun h => absurd h (by decide)) (fun _ => ?_)
    refine q_aload_n dX1_readStatement_216 rfl rfl rfl ?_
    refine q_bipush (v := nI 60) dX1_readStatement_217 rfl ?_
    refine q_callV (As := [.int (nI 60)]) (rest := []) dX1_readStatement_219 vX1_82 (ty_c hSa (by decide) rfl) ⟨by decide, rfl⟩ (z1_takeSign_ok (σ := (uI (uI (uI (uI (uI s14 5 3 (nI (k + 1))) 5 4 o) b 16 (bi (t0 || t1))) 5 3 (nI k1)) (b + 5) n o)) hSa (PCt.u (PCt.u (PCt.u (PCt.u (PCt.u hCa (by omega)) (by omega)) (by omega)) (by omega)) (by omega)) (Eq.trans (rd_off (by omega)) uI_self) (by omega) a2 (by decide)) rfl rfl (Nat.le_of_ble_eq_true rfl) (by omega) (by omega) (by omega) (k_p ?_)
    refine q_if_eqB (tgt := 256) dX1_readStatement_222 (by decide) (fun h => absurd h (by decide)) (fun _ => ?_)
    refine q_aload_n dX1_readStatement_225 rfl rfl rfl ?_
    refine q_iload_n dX1_readStatement_226 rfl rfl ?_
    refine q_iconst (v := nI 1) dX1_readStatement_227 rfl ?_
    refine q_callV (As := [.int (nI n), .int (nI 1)]) (rest := []) dX1_readStatement_228 vX1_112 (ty_c hSa (by decide) rfl) ⟨by decide, rfl⟩ (z1_readOperand_ok1 (σ := (uI (uI (uI (uI (uI (uI s14 5 3 (nI (k + 1))) 5 4 o) b 16 (bi (t0 || t1))) 5 3 (nI k1)) (b + 5) n o) 5 3 (nI (k1 + 1)))) hSa hba hRa (by omega) (PCt.u (PCt.u (PCt.u (PCt.u (PCt.u (PCt.u hCa (by omega)) (by omega)) (by omega)) (by omega)) (by omega)) (by omega)) hT uI_self (by omega) (Eq.trans (rd_off (by omega)) (Eq.trans (rd_off (by omega)) (Eq.trans (rd_off (by omega)) uI_self))) a3) rfl rfl (Nat.le_of_ble_eq_true rfl) (by omega) (by omega) (by omega) (k_p ?_)
    refine q_if_eqB (tgt := 256) dX1_readStatement_231 (by decide) (fun h => absurd h (by decide)) (fun _ => ?_)
    refine q_aload_n dX1_readStatement_234 rfl rfl rfl ?_
    refine q_iload_n dX1_readStatement_235 rfl rfl ?_
    refine q_iconst (v := nI 0) dX1_readStatement_236 rfl ?_
    refine q_callV (As := [.int (nI n), .int (nI 0)]) (rest := []) dX1_readStatement_237 vX1_116 (ty_c hSa (by decide) rfl) ⟨by decide, rfl⟩ (z1_readWay_ok0 (σ := (uI (uI (uI (uI (uI (uI (uI (uI (uI (uI s14 5 3 (nI (k + 1))) 5 4 o) b 16 (bi (t0 || t1))) 5 3 (nI k1)) (b + 5) n o) 5 3 (nI (k1 + 1))) 5 4 o2) b 16 (bi (t0 || t1 || t2))) 5 3 (nI k3)) (b + 6) n o2)) (n := n) hSa hba hRa (by omega) (PCt.u (PCt.u (PCt.u (PCt.u (PCt.u (PCt.u (PCt.u (PCt.u (PCt.u (PCt.u hCa (by omega)) (by omega)) (by omega)) (by omega)) (by omega)) (by omega)) (by omega)) (by omega)) (by omega)) (by omega)) (Eq.trans (rd_off (by omega)) uI_self) (by omega) (Eq.trans (rd_off (by omega)) (Eq.trans (rd_off (by omega)) (Eq.trans (rd_ne (by decide)) (Eq.trans (rd_off (by omega)) (Eq.trans (rd_off (by omega)) (Eq.trans (rd_off (by omega)) (Eq.trans (rd_off (by omega)) (Eq.trans (rd_ne (by decide)) (Eq.trans (rd_off (by omega)) (Eq.trans (rd_off (by omega)) hBa)))))))))) h1 h40 a4) rfl rfl (Nat.le_of_ble_eq_true rfl) (by omega) (by omega) (by omega) (k_p ?_)
    refine q_if_eqB (tgt := 256) dX1_readStatement_240 (by decide) (fun h => absurd h (by decide)) (fun _ => ?_)
    refine q_aload_n dX1_readStatement_243 rfl rfl rfl ?_
    refine q_iload_n dX1_readStatement_244 rfl rfl ?_
    refine q_iconst (v := nI 1) dX1_readStatement_245 rfl ?_
    refine q_callV (As := [.int (nI n), .int (nI 1)]) (rest := []) dX1_readStatement_246 vX1_116 (ty_c hSa (by decide) rfl) ⟨by decide, rfl⟩ (z1_readWay_ok1 (σ := (uI (uI (uI (uI (uI (uI (uI (uI (uI (uI (uI (uI (uI s14 5 3 (nI (k + 1))) 5 4 o) b 16 (bi (t0 || t1))) 5 3 (nI k1)) (b + 5) n o) 5 3 (nI (k1 + 1))) 5 4 o2) b 16 (bi (t0 || t1 || t2))) 5 3 (nI k3)) (b + 6) n o2) (b + 9) n (nI (tv T L (k3)))) 12 (nb - 1) (nI (ts T L (k3)))) 5 3 (nI (k3 + 1)))) (n := n) hSa hba hRa (by omega) (PCt.u (PCt.u (PCt.u (PCt.u (PCt.u (PCt.u (PCt.u (PCt.u (PCt.u (PCt.u (PCt.u (PCt.u (PCt.u hCa (by omega)) (by omega)) (by omega)) (by omega)) (by omega)) (by omega)) (by omega)) (by omega)) (by omega)) (by omega)) (by omega)) (by omega)) (by omega)) uI_self (by omega) (Eq.trans (rd_off (by omega)) (Eq.trans (rd_off (by omega)) (Eq.trans (rd_off (by omega)) (Eq.trans (rd_off (by omega)) (Eq.trans (rd_off (by omega)) (Eq.trans (rd_ne (by decide)) (Eq.trans (rd_off (by omega)) (Eq.trans (rd_off (by omega)) (Eq.trans (rd_off (by omega)) (Eq.trans (rd_off (by omega)) (Eq.trans (rd_ne (by decide)) (Eq.trans (rd_off (by omega)) (Eq.trans (rd_off (by omega)) hBa))))))))))))) h1 h40 a5) rfl rfl (Nat.le_of_ble_eq_true rfl) (by omega) (by omega) (by omega) (k_p ?_)
    refine q_if_eqB (tgt := 256) dX1_readStatement_249 (by decide) (fun h => absurd h (by decide)) (fun _ => ?_)
    refine q_iconst (v := nI 1) dX1_readStatement_252 rfl ?_
    refine q_goto (tgt := 257) dX1_readStatement_253 (by decide) ?_
    refine q_ireturn dX1_readStatement_257 rfl rfl (by omega) (by omega) ?_
    exact ⟨rfl, uI_self, qa.af.tr (AF.uI (AF.uI (AF.uI (AF.uI (AF.uI (AF.uI (AF.uI (AF.uI (AF.uI (AF.uI (AF.uI (AF.uI (AF.uI (AF.uI (AF.uI (AF.uI AF.rf (by omega)) (by omega)) (by omega)) (by omega)) (by omega)) (by omega)) (by omega)) (by omega)) (by omega)) (by omega)) (by omega)) (by omega)) (by omega)) (by omega)) (by omega)) (by omega)), (Eq.trans (rd_off (by omega)) (Eq.trans (rd_off (by omega)) (Eq.trans (rd_off (by omega)) (Eq.trans (rd_off (by omega)) (Eq.trans (rd_off (by omega)) (Eq.trans (rd_off (by omega)) (Eq.trans (rd_off (by omega)) (Eq.trans (rd_off (by omega)) (Eq.trans (rd_ne (by decide)) (Eq.trans (rd_off (by omega)) (Eq.trans (rd_off (by omega)) (Eq.trans (rd_off (by omega)) (Eq.trans (rd_off (by omega)) (Eq.trans (rd_ne (by decide)) (Eq.trans (rd_off (by omega)) (Eq.trans (rd_off (by omega)) d13)))))))))))))))), (Eq.trans (rd_off (by omega)) (Eq.trans (rd_off (by omega)) (Eq.trans (rd_off (by omega)) (Eq.trans (rd_off (by omega)) (Eq.trans (rd_off (by omega)) (Eq.trans (rd_off (by omega)) (Eq.trans (rd_off (by omega)) (Eq.trans (rd_off (by omega)) (Eq.trans (rd_ne (by decide)) (Eq.trans (rd_off (by omega)) (Eq.trans (rd_off (by omega)) (Eq.trans (rd_off (by omega)) (Eq.trans (rd_off (by omega)) (Eq.trans (rd_ne (by decide)) (Eq.trans (rd_off (by omega)) (Eq.trans (rd_off (by omega)) d14)))))))))))))))), ((Eq.trans (rd_off (by omega)) (Eq.trans (rd_off (by omega)) (Eq.trans (rd_off (by omega)) (Eq.trans (rd_off (by omega)) (Eq.trans (rd_off (by omega)) (Eq.trans (rd_off (by omega)) (Eq.trans (rd_off (by omega)) (Eq.trans (rd_off (by omega)) uI_self))))))))).trans (congrArg bi (Bool.or_assoc t0 t1 t2)), SR.cg (SR.u (SR.u (SR.u (SR.u (SR.u (SR.u (SR.u (SR.u (SR.u (SR.u (SR.u (SR.u (SR.u (SR.u (SR.u (SR.u hsa (by omega)) (by omega)) (by omega)) (by omega)) (by omega)) (by omega)) (by omega)) (by omega)) (by omega)) (by omega)) (by omega)) (by omega)) (by omega)) (by omega)) (by omega)) (by omega)) (Bool.or_false m).symm, (Eq.trans (rd_off (by omega)) (Eq.trans (rd_off (by omega)) (Eq.trans (rd_off (by omega)) (Eq.trans (rd_off (by omega)) (Eq.trans (rd_off (by omega)) (Eq.trans (rd_off (by omega)) (Eq.trans (rd_off (by omega)) (Eq.trans (rd_off (by omega)) (Eq.trans (rd_off (by omega)) (Eq.trans (rd_off (by omega)) (Eq.trans (rd_off (by omega)) (Eq.trans (rd_off (by omega)) (Eq.trans (rd_off (by omega)) (Eq.trans (rd_off (by omega)) (Eq.trans (rd_off (by omega)) (Eq.trans (rd_off (by omega)) dF)))))))))))))))), (Eq.trans (rd_off (by omega)) (Eq.trans (rd_off (by omega)) (Eq.trans (rd_off (by omega)) (Eq.trans (rd_off (by omega)) (Eq.trans (rd_off (by omega)) (Eq.trans (rd_off (by omega)) (Eq.trans (rd_off (by omega)) (Eq.trans (rd_off (by omega)) (Eq.trans (rd_off (by omega)) (Eq.trans (rd_off (by omega)) (Eq.trans (rd_off (by omega)) (Eq.trans (rd_off (by omega)) (Eq.trans (rd_off (by omega)) (Eq.trans (rd_off (by omega)) (Eq.trans (rd_off (by omega)) (Eq.trans (rd_off (by omega)) d1)))))))))))))))), (Eq.trans (rd_off (by omega)) (Eq.trans (rd_off (by omega)) (Eq.trans (rd_off (by omega)) (Eq.trans (rd_off (by omega)) (Eq.trans (rd_off (by omega)) (Eq.trans (rd_off (by omega)) (Eq.trans (rd_off (by omega)) (Eq.trans (rd_off (by omega)) (Eq.trans (rd_off (by omega)) (Eq.trans (rd_off (by omega)) (Eq.trans (rd_off (by omega)) (Eq.trans (rd_off (by omega)) (Eq.trans (rd_off (by omega)) (Eq.trans (rd_off (by omega)) (Eq.trans (rd_off (by omega)) (Eq.trans (rd_off (by omega)) d2)))))))))))))))), (Eq.trans (rd_off (by omega)) (Eq.trans (rd_off (by omega)) (Eq.trans (rd_off (by omega)) (Eq.trans (rd_off (by omega)) (Eq.trans (rd_off (by omega)) (Eq.trans (rd_off (by omega)) (Eq.trans (rd_off (by omega)) (Eq.trans (rd_off (by omega)) (Eq.trans (rd_off (by omega)) (Eq.trans (rd_off (by omega)) (Eq.trans (rd_off (by omega)) (Eq.trans (rd_off (by omega)) (Eq.trans (rd_off (by omega)) (Eq.trans (rd_off (by omega)) (Eq.trans (rd_off (by omega)) (Eq.trans (rd_off (by omega)) d3)))))))))))))))), (Eq.trans (rd_off (by omega)) (Eq.trans (rd_off (by omega)) (Eq.trans (rd_off (by omega)) (Eq.trans (rd_off (by omega)) (Eq.trans (rd_off (by omega)) (Eq.trans (rd_off (by omega)) (Eq.trans (rd_off (by omega)) (Eq.trans (rd_off (by omega)) (Eq.trans (rd_off (by omega)) (Eq.trans (rd_off (by omega)) (Eq.trans (rd_off (by omega)) uI_self))))))))))), (Eq.trans (rd_off (by omega)) (Eq.trans (rd_off (by omega)) (Eq.trans (rd_off (by omega)) (Eq.trans (rd_off (by omega)) (Eq.trans (rd_off (by omega)) (Eq.trans (rd_off (by omega)) uI_self)))))), (Eq.trans (rd_off (by omega)) (Eq.trans (rd_off (by omega)) (Eq.trans (rd_off (by omega)) (Eq.trans (rd_off (by omega)) (Eq.trans (rd_off (by omega)) (Eq.trans (rd_off (by omega)) (Eq.trans (rd_off (by omega)) (Eq.trans (rd_off (by omega)) (Eq.trans (rd_off (by omega)) (Eq.trans (rd_off (by omega)) (Eq.trans (rd_off (by omega)) (Eq.trans (rd_off (by omega)) (Eq.trans (rd_off (by omega)) (Eq.trans (rd_off (by omega)) (Eq.trans (rd_off (by omega)) (Eq.trans (rd_off (by omega)) d7)))))))))))))))), ((Eq.trans (rd_off (by omega)) (Eq.trans (rd_off (by omega)) (Eq.trans (rd_off (by omega)) (Eq.trans (rd_off (by omega)) (Eq.trans (rd_off (by omega)) uI_self)))))).trans (wyV_p (T := T) (L := L) (k := k3) (by omega)).symm, ((Eq.trans (rd_off (by omega)) (Eq.trans (rd_off (by omega)) uI_self))).trans (wyV_p (T := T) (L := L) (k := k3 + 1) (by omega)).symm, (Eq.trans (rd_off (by omega)) (Eq.trans (rd_off (by omega)) (Eq.trans (rd_off (by omega)) (Eq.trans (rd_off (by omega)) (Eq.trans (rd_off (by omega)) (Eq.trans (rd_off (by omega)) (Eq.trans (rd_off (by omega)) (Eq.trans (rd_off (by omega)) (Eq.trans (rd_off (by omega)) (Eq.trans (rd_off (by omega)) (Eq.trans (rd_off (by omega)) (Eq.trans (rd_off (by omega)) (Eq.trans (rd_off (by omega)) (Eq.trans (rd_off (by omega)) (Eq.trans (rd_off (by omega)) (Eq.trans (rd_off (by omega)) d12)))))))))))))))), (Eq.trans (rd_off (by omega)) (Eq.trans (rd_off (by omega)) (Eq.trans (rd_off (by omega)) (Eq.trans (rd_off (by omega)) (Eq.trans (rd_off (by omega)) (Eq.trans (rd_off (by omega)) (Eq.trans (rd_off (by omega)) (Eq.trans (rd_off (by omega)) (Eq.trans (rd_off (by omega)) (Eq.trans (rd_off (by omega)) (Eq.trans (rd_off (by omega)) (Eq.trans (rd_off (by omega)) (Eq.trans (rd_off (by omega)) (Eq.trans (rd_off (by omega)) (Eq.trans (rd_off (by omega)) (Eq.trans (rd_off (by omega)) d13b)))))))))))))))), fun _ _ => (Eq.trans (rd_off (by decide)) (Eq.trans (rd_off (by decide)) (Eq.trans (rd_off (by omega)) (Eq.trans (rd_off (by decide)) uI_self)))), fun _ _ => (Eq.trans (rd_off (by decide)) uI_self)⟩
  exact absurd rfl w42_5
theorem z1_rs5_er {g : GG} {σ : HS} (hS : SK σ) {b : Nat} (hb : RB σ b) (hR : sR σ 5 5 = b) {T : Nat → Nat} {L N k n nb : Nat} (hn : n < 160) (h1 : 1 ≤ nb) (h40 : nb ≤ 40) (hC : PCt σ T L N) (hT : ∀ i, i < L → T i < 256) (hk : sI σ 5 3 = nI k) (hkN : k < N) {ss : List SUM} {m t0 : Bool} (hB : sI σ b 12 = nI nb) (hN : sI σ b 14 = nI n) (ht : sI σ b 16 = bi t0) (hs : SR σ b ss m) {e : Nat × Nat} (hx : pSt T L 5 k = .error e) : CT g mX1_readStatement 6 0 0 [.ref 5, .int (nI 5)] σ (WQ (.int (bi false)) (fun σ' => BadS b σ σ' e)) := by
  have hb14 : b = 14 ∨ 99 ≤ b := by rcases hb.1 with h | ⟨j, h⟩ <;> omega
  obtain ⟨h6, h2, h3, h4, h5⟩ := id hC
  have hv := (h5 k (by omega)).2.1
  have hvb := tv_b (k := k) hT
  rcases pSt_er5 hx with a1 | ⟨o, k1, t1, a1, a2 | ⟨a2, a3 | ⟨o2, k3, t2, a3, ⟨a4, rfl⟩ | ⟨a4, a5, rfl⟩⟩⟩⟩
  · skip
    refine CT.of (by decide) (Nat.le_of_ble_eq_true rfl) ?_
    refine q_aload_n dX1_readStatement_0 rfl rfl rfl ?_
    refine q_getr (r := b) dX1_readStatement_1 fX1_30 rfl (ty_c hS (by decide) rfl) hR ?_
    refine q_iload_n dX1_readStatement_4 rfl rfl ?_
    refine q_aload_n dX1_readStatement_5 rfl rfl rfl ?_
    refine q_getr (r := b) dX1_readStatement_6 fX1_30 rfl (ty_c hS (by decide) rfl) hR ?_
    refine q_geti (x := nI nb) dX1_readStatement_9 fX1_95 rfl (ty_r hb 0 rfl) hB ?_
    refine q_iconst (v := nI 1) dX1_readStatement_12 rfl ?_
    refine q_isubN dX1_readStatement_13 (by omega) ?_
    refine q_callV (As := [.int (nI 5), .int (nI (nb - 1))]) (rest := []) dX1_readStatement_14 vX1_98 (ty_r hb 0 rfl) ⟨by decide, rfl⟩ (z2_addNodeV hb (by omega) hN hB h40) rfl rfl (Nat.le_of_ble_eq_true rfl) (by omega) (by omega) (by omega) (k_w (fun s14 q14 => ?_))
    obtain ⟨qa, d13, d14, dF, d1, d2, d3, d5, d6, d7, d9, d10, d12, d13b⟩ := q14
    have qf := qa.af.bf
    have hSa := SK.bf qf hS
    have hba := RB.bf qf hb
    have hRa : sR s14 5 5 = b := by rw [qf.2.1]; exact hR
    have hCa := PCt.bf hb14 qf hC
    have hsa : SR s14 b ss m := hs.fe fun x i z1 z2 => qa.2.2.2 x i (by omega)
    have hka : sI s14 5 3 = nI k := (qa.2.2.2 5 3 (by omega)).trans hk
    have hBa : sI s14 b 12 = nI nb := (qa.2.2.2 b 12 (by omega)).trans hB
    have hta : sI s14 b 16 = bi t0 := (qa.2.2.2 b 16 (by omega)).trans ht
    have hva : sI s14 8 k = nI (tv T L k) := (qa.2.2.2 8 k (by omega)).trans hv
    refine q_istore_n dX1_readStatement_17 rfl (by decide) (ls' := [(2, .int (nI n)), (0, .ref 5), (1, .int (nI 5))]) rfl ?_
    refine q_aload_n dX1_readStatement_18 rfl rfl rfl ?_
    refine q_getr (r := 6) dX1_readStatement_19 fX1_12 rfl (ty_c hSa (by decide) rfl) (hSa.2 5 0 6 rfl) ?_
    refine q_getr (r := 8) dX1_readStatement_22 fX1_73 rfl (ty_c hSa (by decide) rfl) (hSa.2 6 1 8 rfl) ?_
    refine q_aload_n dX1_readStatement_25 rfl rfl rfl ?_
    refine q_geti (x := nI k) dX1_readStatement_26 fX1_38 rfl (ty_c hSa (by decide) rfl) hka ?_
    refine q_iald (x := nI (tv T L k)) (j := k) dX1_readStatement_29 (ty_c hSa (by decide) rfl) (ix_n (by omega) (by omega)) hva ?_
    refine q_istore_n dX1_readStatement_30 rfl (by decide) (ls' := [(3, .int (nI (tv T L k))), (2, .int (nI n)), (0, .ref 5), (1, .int (nI 5))]) rfl ?_
    refine q_aload_n dX1_readStatement_31 rfl rfl rfl ?_
    refine q_dup dX1_readStatement_32 rfl ?_
    refine q_geti (x := nI k) dX1_readStatement_33 fX1_38 rfl (ty_c hSa (by decide) rfl) hka ?_
    refine q_iconst (v := nI 1) dX1_readStatement_36 rfl ?_
    refine q_iaddN dX1_readStatement_37 ?_
    refine q_puti dX1_readStatement_38 fX1_38 rfl (Or.inl rfl) (ty_c hSa (by decide) rfl) ?_
    refine q_iload_n dX1_readStatement_41 rfl rfl ?_
    by_cases w42_5 : 5 = 5
    · refine q_tableEq 5 (tgt := 207) (off := 165) dX1_readStatement_42 (by rw [w42_5]) (by decide) rfl (by decide) ?_
      refine q_aload_n dX1_readStatement_207 rfl rfl rfl ?_
      refine q_iload_n dX1_readStatement_208 rfl rfl ?_
      refine q_iconst (v := nI 0) dX1_readStatement_209 rfl ?_
      refine q_callV (As := [.int (nI n), .int (nI 0)]) (rest := []) dX1_readStatement_210 vX1_112 (ty_c hSa (by decide) rfl) ⟨by decide, rfl⟩ (z1_readOperand_er0 (σ := (uI s14 5 3 (nI (k + 1)))) (b := b) (n := n) hSa hRa (by omega) (PCt.u hCa (by omega)) hT uI_self (by omega) a1) rfl rfl (Nat.le_of_ble_eq_true rfl) (by omega) (by omega) (by omega) (k_w (fun s210 q210 => ?_))
      have hbad := BadS.tr (b := b) (σ := s14) (σ' := (uI s14 5 3 (nI (k + 1)))) (BFr.uI BFr.rf (by omega)) q210
      refine q_if_eqB (tgt := 256) dX1_readStatement_213 (by decide) (fun _ => ?_) (fun h => absurd h (by decide))
      refine q_iconst (v := nI 0) dX1_readStatement_256 rfl ?_
      refine q_ireturn dX1_readStatement_257 rfl rfl (by omega) (by omega) ?_
      exact ⟨rfl, BadS.tr qf hbad⟩
    exact absurd rfl w42_5
  · have l1 := pOp_lt h4 a1
    refine CT.of (by decide) (Nat.le_of_ble_eq_true rfl) ?_
    refine q_aload_n dX1_readStatement_0 rfl rfl rfl ?_
    refine q_getr (r := b) dX1_readStatement_1 fX1_30 rfl (ty_c hS (by decide) rfl) hR ?_
    refine q_iload_n dX1_readStatement_4 rfl rfl ?_
    refine q_aload_n dX1_readStatement_5 rfl rfl rfl ?_
    refine q_getr (r := b) dX1_readStatement_6 fX1_30 rfl (ty_c hS (by decide) rfl) hR ?_
    refine q_geti (x := nI nb) dX1_readStatement_9 fX1_95 rfl (ty_r hb 0 rfl) hB ?_
    refine q_iconst (v := nI 1) dX1_readStatement_12 rfl ?_
    refine q_isubN dX1_readStatement_13 (by omega) ?_
    refine q_callV (As := [.int (nI 5), .int (nI (nb - 1))]) (rest := []) dX1_readStatement_14 vX1_98 (ty_r hb 0 rfl) ⟨by decide, rfl⟩ (z2_addNodeV hb (by omega) hN hB h40) rfl rfl (Nat.le_of_ble_eq_true rfl) (by omega) (by omega) (by omega) (k_w (fun s14 q14 => ?_))
    obtain ⟨qa, d13, d14, dF, d1, d2, d3, d5, d6, d7, d9, d10, d12, d13b⟩ := q14
    have qf := qa.af.bf
    have hSa := SK.bf qf hS
    have hba := RB.bf qf hb
    have hRa : sR s14 5 5 = b := by rw [qf.2.1]; exact hR
    have hCa := PCt.bf hb14 qf hC
    have hsa : SR s14 b ss m := hs.fe fun x i z1 z2 => qa.2.2.2 x i (by omega)
    have hka : sI s14 5 3 = nI k := (qa.2.2.2 5 3 (by omega)).trans hk
    have hBa : sI s14 b 12 = nI nb := (qa.2.2.2 b 12 (by omega)).trans hB
    have hta : sI s14 b 16 = bi t0 := (qa.2.2.2 b 16 (by omega)).trans ht
    have hva : sI s14 8 k = nI (tv T L k) := (qa.2.2.2 8 k (by omega)).trans hv
    refine q_istore_n dX1_readStatement_17 rfl (by decide) (ls' := [(2, .int (nI n)), (0, .ref 5), (1, .int (nI 5))]) rfl ?_
    refine q_aload_n dX1_readStatement_18 rfl rfl rfl ?_
    refine q_getr (r := 6) dX1_readStatement_19 fX1_12 rfl (ty_c hSa (by decide) rfl) (hSa.2 5 0 6 rfl) ?_
    refine q_getr (r := 8) dX1_readStatement_22 fX1_73 rfl (ty_c hSa (by decide) rfl) (hSa.2 6 1 8 rfl) ?_
    refine q_aload_n dX1_readStatement_25 rfl rfl rfl ?_
    refine q_geti (x := nI k) dX1_readStatement_26 fX1_38 rfl (ty_c hSa (by decide) rfl) hka ?_
    refine q_iald (x := nI (tv T L k)) (j := k) dX1_readStatement_29 (ty_c hSa (by decide) rfl) (ix_n (by omega) (by omega)) hva ?_
    refine q_istore_n dX1_readStatement_30 rfl (by decide) (ls' := [(3, .int (nI (tv T L k))), (2, .int (nI n)), (0, .ref 5), (1, .int (nI 5))]) rfl ?_
    refine q_aload_n dX1_readStatement_31 rfl rfl rfl ?_
    refine q_dup dX1_readStatement_32 rfl ?_
    refine q_geti (x := nI k) dX1_readStatement_33 fX1_38 rfl (ty_c hSa (by decide) rfl) hka ?_
    refine q_iconst (v := nI 1) dX1_readStatement_36 rfl ?_
    refine q_iaddN dX1_readStatement_37 ?_
    refine q_puti dX1_readStatement_38 fX1_38 rfl (Or.inl rfl) (ty_c hSa (by decide) rfl) ?_
    refine q_iload_n dX1_readStatement_41 rfl rfl ?_
    by_cases w42_5 : 5 = 5
    · refine q_tableEq 5 (tgt := 207) (off := 165) dX1_readStatement_42 (by rw [w42_5]) (by decide) rfl (by decide) ?_
      refine q_aload_n dX1_readStatement_207 rfl rfl rfl ?_
      refine q_iload_n dX1_readStatement_208 rfl rfl ?_
      refine q_iconst (v := nI 0) dX1_readStatement_209 rfl ?_
      refine q_callV (As := [.int (nI n), .int (nI 0)]) (rest := []) dX1_readStatement_210 vX1_112 (ty_c hSa (by decide) rfl) ⟨by decide, rfl⟩ (z1_readOperand_ok0 (σ := (uI s14 5 3 (nI (k + 1)))) hSa hba hRa (by omega) (PCt.u hCa (by omega)) hT uI_self (by omega) (Eq.trans (rd_off (by omega)) hta) a1) rfl rfl (Nat.le_of_ble_eq_true rfl) (by omega) (by omega) (by omega) (k_p ?_)
      refine q_if_eqB (tgt := 256) dX1_readStatement_213 (by decide) (fun h => absurd h (by decide)) (fun _ => ?_)
      refine q_aload_n dX1_readStatement_216 rfl rfl rfl ?_
      refine q_bipush (v := nI 60) dX1_readStatement_217 rfl ?_
      refine q_callV (As := [.int (nI 60)]) (rest := []) dX1_readStatement_219 vX1_82 (ty_c hSa (by decide) rfl) ⟨by decide, rfl⟩ (z1_takeSign_er (σ := (uI (uI (uI (uI (uI s14 5 3 (nI (k + 1))) 5 4 o) b 16 (bi (t0 || t1))) 5 3 (nI k1)) (b + 5) n o)) hSa (PCt.u (PCt.u (PCt.u (PCt.u (PCt.u hCa (by omega)) (by omega)) (by omega)) (by omega)) (by omega)) hT (Eq.trans (rd_off (by omega)) uI_self) (by omega) a2 (by decide)) rfl rfl (Nat.le_of_ble_eq_true rfl) (by omega) (by omega) (by omega) (k_p ?_)
      have hbad := BadS.er (b := b) (e := e) (σ := s14) (σ' := (uI (uI (uI (uI (uI s14 5 3 (nI (k + 1))) 5 4 o) b 16 (bi (t0 || t1))) 5 3 (nI k1)) (b + 5) n o)) (BFr.uI (BFr.uI (BFr.uI (BFr.uI (BFr.uI BFr.rf (by omega)) (by omega)) (by omega)) (by omega)) (by omega))
      refine q_if_eqB (tgt := 256) dX1_readStatement_222 (by decide) (fun _ => ?_) (fun h => absurd h (by decide))
      refine q_iconst (v := nI 0) dX1_readStatement_256 rfl ?_
      refine q_ireturn dX1_readStatement_257 rfl rfl (by omega) (by omega) ?_
      exact ⟨rfl, BadS.tr qf hbad⟩
    exact absurd rfl w42_5
  · have l1 := pOp_lt h4 a1
    have l2 := pSg_lt h4 a2
    refine CT.of (by decide) (Nat.le_of_ble_eq_true rfl) ?_
    refine q_aload_n dX1_readStatement_0 rfl rfl rfl ?_
    refine q_getr (r := b) dX1_readStatement_1 fX1_30 rfl (ty_c hS (by decide) rfl) hR ?_
    refine q_iload_n dX1_readStatement_4 rfl rfl ?_
    refine q_aload_n dX1_readStatement_5 rfl rfl rfl ?_
    refine q_getr (r := b) dX1_readStatement_6 fX1_30 rfl (ty_c hS (by decide) rfl) hR ?_
    refine q_geti (x := nI nb) dX1_readStatement_9 fX1_95 rfl (ty_r hb 0 rfl) hB ?_
    refine q_iconst (v := nI 1) dX1_readStatement_12 rfl ?_
    refine q_isubN dX1_readStatement_13 (by omega) ?_
    refine q_callV (As := [.int (nI 5), .int (nI (nb - 1))]) (rest := []) dX1_readStatement_14 vX1_98 (ty_r hb 0 rfl) ⟨by decide, rfl⟩ (z2_addNodeV hb (by omega) hN hB h40) rfl rfl (Nat.le_of_ble_eq_true rfl) (by omega) (by omega) (by omega) (k_w (fun s14 q14 => ?_))
    obtain ⟨qa, d13, d14, dF, d1, d2, d3, d5, d6, d7, d9, d10, d12, d13b⟩ := q14
    have qf := qa.af.bf
    have hSa := SK.bf qf hS
    have hba := RB.bf qf hb
    have hRa : sR s14 5 5 = b := by rw [qf.2.1]; exact hR
    have hCa := PCt.bf hb14 qf hC
    have hsa : SR s14 b ss m := hs.fe fun x i z1 z2 => qa.2.2.2 x i (by omega)
    have hka : sI s14 5 3 = nI k := (qa.2.2.2 5 3 (by omega)).trans hk
    have hBa : sI s14 b 12 = nI nb := (qa.2.2.2 b 12 (by omega)).trans hB
    have hta : sI s14 b 16 = bi t0 := (qa.2.2.2 b 16 (by omega)).trans ht
    have hva : sI s14 8 k = nI (tv T L k) := (qa.2.2.2 8 k (by omega)).trans hv
    refine q_istore_n dX1_readStatement_17 rfl (by decide) (ls' := [(2, .int (nI n)), (0, .ref 5), (1, .int (nI 5))]) rfl ?_
    refine q_aload_n dX1_readStatement_18 rfl rfl rfl ?_
    refine q_getr (r := 6) dX1_readStatement_19 fX1_12 rfl (ty_c hSa (by decide) rfl) (hSa.2 5 0 6 rfl) ?_
    refine q_getr (r := 8) dX1_readStatement_22 fX1_73 rfl (ty_c hSa (by decide) rfl) (hSa.2 6 1 8 rfl) ?_
    refine q_aload_n dX1_readStatement_25 rfl rfl rfl ?_
    refine q_geti (x := nI k) dX1_readStatement_26 fX1_38 rfl (ty_c hSa (by decide) rfl) hka ?_
    refine q_iald (x := nI (tv T L k)) (j := k) dX1_readStatement_29 (ty_c hSa (by decide) rfl) (ix_n (by omega) (by omega)) hva ?_
    refine q_istore_n dX1_readStatement_30 rfl (by decide) (ls' := [(3, .int (nI (tv T L k))), (2, .int (nI n)), (0, .ref 5), (1, .int (nI 5))]) rfl ?_
    refine q_aload_n dX1_readStatement_31 rfl rfl rfl ?_
    refine q_dup dX1_readStatement_32 rfl ?_
    refine q_geti (x := nI k) dX1_readStatement_33 fX1_38 rfl (ty_c hSa (by decide) rfl) hka ?_
    refine q_iconst (v := nI 1) dX1_readStatement_36 rfl ?_
    refine q_iaddN dX1_readStatement_37 ?_
    refine q_puti dX1_readStatement_38 fX1_38 rfl (Or.inl rfl) (ty_c hSa (by decide) rfl) ?_
    refine q_iload_n dX1_readStatement_41 rfl rfl ?_
    by_cases w42_5 : 5 = 5
    · refine q_tableEq 5 (tgt := 207) (off := 165) dX1_readStatement_42 (by rw [w42_5]) (by decide) rfl (by decide) ?_
      refine q_aload_n dX1_readStatement_207 rfl rfl rfl ?_
      refine q_iload_n dX1_readStatement_208 rfl rfl ?_
      refine q_iconst (v := nI 0) dX1_readStatement_209 rfl ?_
      refine q_callV (As := [.int (nI n), .int (nI 0)]) (rest := []) dX1_readStatement_210 vX1_112 (ty_c hSa (by decide) rfl) ⟨by decide, rfl⟩ (z1_readOperand_ok0 (σ := (uI s14 5 3 (nI (k + 1)))) hSa hba hRa (by omega) (PCt.u hCa (by omega)) hT uI_self (by omega) (Eq.trans (rd_off (by omega)) hta) a1) rfl rfl (Nat.le_of_ble_eq_true rfl) (by omega) (by omega) (by omega) (k_p ?_)
      refine q_if_eqB (tgt := 256) dX1_readStatement_213 (by decide) (fun h => absurd h (by decide)) (fun _ => ?_)
      refine q_aload_n dX1_readStatement_216 rfl rfl rfl ?_
      refine q_bipush (v := nI 60) dX1_readStatement_217 rfl ?_
      refine q_callV (As := [.int (nI 60)]) (rest := []) dX1_readStatement_219 vX1_82 (ty_c hSa (by decide) rfl) ⟨by decide, rfl⟩ (z1_takeSign_ok (σ := (uI (uI (uI (uI (uI s14 5 3 (nI (k + 1))) 5 4 o) b 16 (bi (t0 || t1))) 5 3 (nI k1)) (b + 5) n o)) hSa (PCt.u (PCt.u (PCt.u (PCt.u (PCt.u hCa (by omega)) (by omega)) (by omega)) (by omega)) (by omega)) (Eq.trans (rd_off (by omega)) uI_self) (by omega) a2 (by decide)) rfl rfl (Nat.le_of_ble_eq_true rfl) (by omega) (by omega) (by omega) (k_p ?_)
      refine q_if_eqB (tgt := 256) dX1_readStatement_222 (by decide) (fun h => absurd h (by decide)) (fun _ => ?_)
      refine q_aload_n dX1_readStatement_225 rfl rfl rfl ?_
      refine q_iload_n dX1_readStatement_226 rfl rfl ?_
      refine q_iconst (v := nI 1) dX1_readStatement_227 rfl ?_
      refine q_callV (As := [.int (nI n), .int (nI 1)]) (rest := []) dX1_readStatement_228 vX1_112 (ty_c hSa (by decide) rfl) ⟨by decide, rfl⟩ (z1_readOperand_er1 (σ := (uI (uI (uI (uI (uI (uI s14 5 3 (nI (k + 1))) 5 4 o) b 16 (bi (t0 || t1))) 5 3 (nI k1)) (b + 5) n o) 5 3 (nI (k1 + 1)))) (b := b) (n := n) hSa hRa (by omega) (PCt.u (PCt.u (PCt.u (PCt.u (PCt.u (PCt.u hCa (by omega)) (by omega)) (by omega)) (by omega)) (by omega)) (by omega)) hT uI_self (by omega) a3) rfl rfl (Nat.le_of_ble_eq_true rfl) (by omega) (by omega) (by omega) (k_w (fun s228 q228 => ?_))
      have hbad := BadS.tr (b := b) (σ := s14) (σ' := (uI (uI (uI (uI (uI (uI s14 5 3 (nI (k + 1))) 5 4 o) b 16 (bi (t0 || t1))) 5 3 (nI k1)) (b + 5) n o) 5 3 (nI (k1 + 1)))) (BFr.uI (BFr.uI (BFr.uI (BFr.uI (BFr.uI (BFr.uI BFr.rf (by omega)) (by omega)) (by omega)) (by omega)) (by omega)) (by omega)) q228
      refine q_if_eqB (tgt := 256) dX1_readStatement_231 (by decide) (fun _ => ?_) (fun h => absurd h (by decide))
      refine q_iconst (v := nI 0) dX1_readStatement_256 rfl ?_
      refine q_ireturn dX1_readStatement_257 rfl rfl (by omega) (by omega) ?_
      exact ⟨rfl, BadS.tr qf hbad⟩
    exact absurd rfl w42_5
  · have l1 := pOp_lt h4 a1
    have l2 := pSg_lt h4 a2
    have l3 := pOp_lt h4 a3
    refine CT.of (by decide) (Nat.le_of_ble_eq_true rfl) ?_
    refine q_aload_n dX1_readStatement_0 rfl rfl rfl ?_
    refine q_getr (r := b) dX1_readStatement_1 fX1_30 rfl (ty_c hS (by decide) rfl) hR ?_
    refine q_iload_n dX1_readStatement_4 rfl rfl ?_
    refine q_aload_n dX1_readStatement_5 rfl rfl rfl ?_
    refine q_getr (r := b) dX1_readStatement_6 fX1_30 rfl (ty_c hS (by decide) rfl) hR ?_
    refine q_geti (x := nI nb) dX1_readStatement_9 fX1_95 rfl (ty_r hb 0 rfl) hB ?_
    refine q_iconst (v := nI 1) dX1_readStatement_12 rfl ?_
    refine q_isubN dX1_readStatement_13 (by omega) ?_
    refine q_callV (As := [.int (nI 5), .int (nI (nb - 1))]) (rest := []) dX1_readStatement_14 vX1_98 (ty_r hb 0 rfl) ⟨by decide, rfl⟩ (z2_addNodeV hb (by omega) hN hB h40) rfl rfl (Nat.le_of_ble_eq_true rfl) (by omega) (by omega) (by omega) (k_w (fun s14 q14 => ?_))
    obtain ⟨qa, d13, d14, dF, d1, d2, d3, d5, d6, d7, d9, d10, d12, d13b⟩ := q14
    have qf := qa.af.bf
    have hSa := SK.bf qf hS
    have hba := RB.bf qf hb
    have hRa : sR s14 5 5 = b := by rw [qf.2.1]; exact hR
    have hCa := PCt.bf hb14 qf hC
    have hsa : SR s14 b ss m := hs.fe fun x i z1 z2 => qa.2.2.2 x i (by omega)
    have hka : sI s14 5 3 = nI k := (qa.2.2.2 5 3 (by omega)).trans hk
    have hBa : sI s14 b 12 = nI nb := (qa.2.2.2 b 12 (by omega)).trans hB
    have hta : sI s14 b 16 = bi t0 := (qa.2.2.2 b 16 (by omega)).trans ht
    have hva : sI s14 8 k = nI (tv T L k) := (qa.2.2.2 8 k (by omega)).trans hv
    refine q_istore_n dX1_readStatement_17 rfl (by decide) (ls' := [(2, .int (nI n)), (0, .ref 5), (1, .int (nI 5))]) rfl ?_
    refine q_aload_n dX1_readStatement_18 rfl rfl rfl ?_
    refine q_getr (r := 6) dX1_readStatement_19 fX1_12 rfl (ty_c hSa (by decide) rfl) (hSa.2 5 0 6 rfl) ?_
    refine q_getr (r := 8) dX1_readStatement_22 fX1_73 rfl (ty_c hSa (by decide) rfl) (hSa.2 6 1 8 rfl) ?_
    refine q_aload_n dX1_readStatement_25 rfl rfl rfl ?_
    refine q_geti (x := nI k) dX1_readStatement_26 fX1_38 rfl (ty_c hSa (by decide) rfl) hka ?_
    refine q_iald (x := nI (tv T L k)) (j := k) dX1_readStatement_29 (ty_c hSa (by decide) rfl) (ix_n (by omega) (by omega)) hva ?_
    refine q_istore_n dX1_readStatement_30 rfl (by decide) (ls' := [(3, .int (nI (tv T L k))), (2, .int (nI n)), (0, .ref 5), (1, .int (nI 5))]) rfl ?_
    refine q_aload_n dX1_readStatement_31 rfl rfl rfl ?_
    refine q_dup dX1_readStatement_32 rfl ?_
    refine q_geti (x := nI k) dX1_readStatement_33 fX1_38 rfl (ty_c hSa (by decide) rfl) hka ?_
    refine q_iconst (v := nI 1) dX1_readStatement_36 rfl ?_
    refine q_iaddN dX1_readStatement_37 ?_
    refine q_puti dX1_readStatement_38 fX1_38 rfl (Or.inl rfl) (ty_c hSa (by decide) rfl) ?_
    refine q_iload_n dX1_readStatement_41 rfl rfl ?_
    by_cases w42_5 : 5 = 5
    · refine q_tableEq 5 (tgt := 207) (off := 165) dX1_readStatement_42 (by rw [w42_5]) (by decide) rfl (by decide) ?_
      refine q_aload_n dX1_readStatement_207 rfl rfl rfl ?_
      refine q_iload_n dX1_readStatement_208 rfl rfl ?_
      refine q_iconst (v := nI 0) dX1_readStatement_209 rfl ?_
      refine q_callV (As := [.int (nI n), .int (nI 0)]) (rest := []) dX1_readStatement_210 vX1_112 (ty_c hSa (by decide) rfl) ⟨by decide, rfl⟩ (z1_readOperand_ok0 (σ := (uI s14 5 3 (nI (k + 1)))) hSa hba hRa (by omega) (PCt.u hCa (by omega)) hT uI_self (by omega) (Eq.trans (rd_off (by omega)) hta) a1) rfl rfl (Nat.le_of_ble_eq_true rfl) (by omega) (by omega) (by omega) (k_p ?_)
      refine q_if_eqB (tgt := 256) dX1_readStatement_213 (by decide) (fun h => absurd h (by decide)) (fun _ => ?_)
      refine q_aload_n dX1_readStatement_216 rfl rfl rfl ?_
      refine q_bipush (v := nI 60) dX1_readStatement_217 rfl ?_
      refine q_callV (As := [.int (nI 60)]) (rest := []) dX1_readStatement_219 vX1_82 (ty_c hSa (by decide) rfl) ⟨by decide, rfl⟩ (z1_takeSign_ok (σ := (uI (uI (uI (uI (uI s14 5 3 (nI (k + 1))) 5 4 o) b 16 (bi (t0 || t1))) 5 3 (nI k1)) (b + 5) n o)) hSa (PCt.u (PCt.u (PCt.u (PCt.u (PCt.u hCa (by omega)) (by omega)) (by omega)) (by omega)) (by omega)) (Eq.trans (rd_off (by omega)) uI_self) (by omega) a2 (by decide)) rfl rfl (Nat.le_of_ble_eq_true rfl) (by omega) (by omega) (by omega) (k_p ?_)
      refine q_if_eqB (tgt := 256) dX1_readStatement_222 (by decide) (fun h => absurd h (by decide)) (fun _ => ?_)
      refine q_aload_n dX1_readStatement_225 rfl rfl rfl ?_
      refine q_iload_n dX1_readStatement_226 rfl rfl ?_
      refine q_iconst (v := nI 1) dX1_readStatement_227 rfl ?_
      refine q_callV (As := [.int (nI n), .int (nI 1)]) (rest := []) dX1_readStatement_228 vX1_112 (ty_c hSa (by decide) rfl) ⟨by decide, rfl⟩ (z1_readOperand_ok1 (σ := (uI (uI (uI (uI (uI (uI s14 5 3 (nI (k + 1))) 5 4 o) b 16 (bi (t0 || t1))) 5 3 (nI k1)) (b + 5) n o) 5 3 (nI (k1 + 1)))) hSa hba hRa (by omega) (PCt.u (PCt.u (PCt.u (PCt.u (PCt.u (PCt.u hCa (by omega)) (by omega)) (by omega)) (by omega)) (by omega)) (by omega)) hT uI_self (by omega) (Eq.trans (rd_off (by omega)) (Eq.trans (rd_off (by omega)) (Eq.trans (rd_off (by omega)) uI_self))) a3) rfl rfl (Nat.le_of_ble_eq_true rfl) (by omega) (by omega) (by omega) (k_p ?_)
      refine q_if_eqB (tgt := 256) dX1_readStatement_231 (by decide) (fun h => absurd h (by decide)) (fun _ => ?_)
      refine q_aload_n dX1_readStatement_234 rfl rfl rfl ?_
      refine q_iload_n dX1_readStatement_235 rfl rfl ?_
      refine q_iconst (v := nI 0) dX1_readStatement_236 rfl ?_
      refine q_callV (As := [.int (nI n), .int (nI 0)]) (rest := []) dX1_readStatement_237 vX1_116 (ty_c hSa (by decide) rfl) ⟨by decide, rfl⟩ (z1_readWay_er0 (σ := (uI (uI (uI (uI (uI (uI (uI (uI (uI (uI s14 5 3 (nI (k + 1))) 5 4 o) b 16 (bi (t0 || t1))) 5 3 (nI k1)) (b + 5) n o) 5 3 (nI (k1 + 1))) 5 4 o2) b 16 (bi (t0 || t1 || t2))) 5 3 (nI k3)) (b + 6) n o2)) (b := b) (n := n) hSa (by omega) (PCt.u (PCt.u (PCt.u (PCt.u (PCt.u (PCt.u (PCt.u (PCt.u (PCt.u (PCt.u hCa (by omega)) (by omega)) (by omega)) (by omega)) (by omega)) (by omega)) (by omega)) (by omega)) (by omega)) (by omega)) (Eq.trans (rd_off (by omega)) uI_self) (by omega) a4) rfl rfl (Nat.le_of_ble_eq_true rfl) (by omega) (by omega) (by omega) (k_w (fun s237 q237 => ?_))
      have hbad := BadS.tr (b := b) (σ := s14) (σ' := (uI (uI (uI (uI (uI (uI (uI (uI (uI (uI s14 5 3 (nI (k + 1))) 5 4 o) b 16 (bi (t0 || t1))) 5 3 (nI k1)) (b + 5) n o) 5 3 (nI (k1 + 1))) 5 4 o2) b 16 (bi (t0 || t1 || t2))) 5 3 (nI k3)) (b + 6) n o2)) (BFr.uI (BFr.uI (BFr.uI (BFr.uI (BFr.uI (BFr.uI (BFr.uI (BFr.uI (BFr.uI (BFr.uI BFr.rf (by omega)) (by omega)) (by omega)) (by omega)) (by omega)) (by omega)) (by omega)) (by omega)) (by omega)) (by omega)) q237
      refine q_if_eqB (tgt := 256) dX1_readStatement_240 (by decide) (fun _ => ?_) (fun h => absurd h (by decide))
      refine q_iconst (v := nI 0) dX1_readStatement_256 rfl ?_
      refine q_ireturn dX1_readStatement_257 rfl rfl (by omega) (by omega) ?_
      exact ⟨rfl, BadS.tr qf hbad⟩
    exact absurd rfl w42_5
  · have l1 := pOp_lt h4 a1
    have l2 := pSg_lt h4 a2
    have l3 := pOp_lt h4 a3
    have l4 := tk_lt h4 (k := k3) (by omega)
    refine CT.of (by decide) (Nat.le_of_ble_eq_true rfl) ?_
    refine q_aload_n dX1_readStatement_0 rfl rfl rfl ?_
    refine q_getr (r := b) dX1_readStatement_1 fX1_30 rfl (ty_c hS (by decide) rfl) hR ?_
    refine q_iload_n dX1_readStatement_4 rfl rfl ?_
    refine q_aload_n dX1_readStatement_5 rfl rfl rfl ?_
    refine q_getr (r := b) dX1_readStatement_6 fX1_30 rfl (ty_c hS (by decide) rfl) hR ?_
    refine q_geti (x := nI nb) dX1_readStatement_9 fX1_95 rfl (ty_r hb 0 rfl) hB ?_
    refine q_iconst (v := nI 1) dX1_readStatement_12 rfl ?_
    refine q_isubN dX1_readStatement_13 (by omega) ?_
    refine q_callV (As := [.int (nI 5), .int (nI (nb - 1))]) (rest := []) dX1_readStatement_14 vX1_98 (ty_r hb 0 rfl) ⟨by decide, rfl⟩ (z2_addNodeV hb (by omega) hN hB h40) rfl rfl (Nat.le_of_ble_eq_true rfl) (by omega) (by omega) (by omega) (k_w (fun s14 q14 => ?_))
    obtain ⟨qa, d13, d14, dF, d1, d2, d3, d5, d6, d7, d9, d10, d12, d13b⟩ := q14
    have qf := qa.af.bf
    have hSa := SK.bf qf hS
    have hba := RB.bf qf hb
    have hRa : sR s14 5 5 = b := by rw [qf.2.1]; exact hR
    have hCa := PCt.bf hb14 qf hC
    have hsa : SR s14 b ss m := hs.fe fun x i z1 z2 => qa.2.2.2 x i (by omega)
    have hka : sI s14 5 3 = nI k := (qa.2.2.2 5 3 (by omega)).trans hk
    have hBa : sI s14 b 12 = nI nb := (qa.2.2.2 b 12 (by omega)).trans hB
    have hta : sI s14 b 16 = bi t0 := (qa.2.2.2 b 16 (by omega)).trans ht
    have hva : sI s14 8 k = nI (tv T L k) := (qa.2.2.2 8 k (by omega)).trans hv
    refine q_istore_n dX1_readStatement_17 rfl (by decide) (ls' := [(2, .int (nI n)), (0, .ref 5), (1, .int (nI 5))]) rfl ?_
    refine q_aload_n dX1_readStatement_18 rfl rfl rfl ?_
    refine q_getr (r := 6) dX1_readStatement_19 fX1_12 rfl (ty_c hSa (by decide) rfl) (hSa.2 5 0 6 rfl) ?_
    refine q_getr (r := 8) dX1_readStatement_22 fX1_73 rfl (ty_c hSa (by decide) rfl) (hSa.2 6 1 8 rfl) ?_
    refine q_aload_n dX1_readStatement_25 rfl rfl rfl ?_
    refine q_geti (x := nI k) dX1_readStatement_26 fX1_38 rfl (ty_c hSa (by decide) rfl) hka ?_
    refine q_iald (x := nI (tv T L k)) (j := k) dX1_readStatement_29 (ty_c hSa (by decide) rfl) (ix_n (by omega) (by omega)) hva ?_
    refine q_istore_n dX1_readStatement_30 rfl (by decide) (ls' := [(3, .int (nI (tv T L k))), (2, .int (nI n)), (0, .ref 5), (1, .int (nI 5))]) rfl ?_
    refine q_aload_n dX1_readStatement_31 rfl rfl rfl ?_
    refine q_dup dX1_readStatement_32 rfl ?_
    refine q_geti (x := nI k) dX1_readStatement_33 fX1_38 rfl (ty_c hSa (by decide) rfl) hka ?_
    refine q_iconst (v := nI 1) dX1_readStatement_36 rfl ?_
    refine q_iaddN dX1_readStatement_37 ?_
    refine q_puti dX1_readStatement_38 fX1_38 rfl (Or.inl rfl) (ty_c hSa (by decide) rfl) ?_
    refine q_iload_n dX1_readStatement_41 rfl rfl ?_
    by_cases w42_5 : 5 = 5
    · refine q_tableEq 5 (tgt := 207) (off := 165) dX1_readStatement_42 (by rw [w42_5]) (by decide) rfl (by decide) ?_
      refine q_aload_n dX1_readStatement_207 rfl rfl rfl ?_
      refine q_iload_n dX1_readStatement_208 rfl rfl ?_
      refine q_iconst (v := nI 0) dX1_readStatement_209 rfl ?_
      refine q_callV (As := [.int (nI n), .int (nI 0)]) (rest := []) dX1_readStatement_210 vX1_112 (ty_c hSa (by decide) rfl) ⟨by decide, rfl⟩ (z1_readOperand_ok0 (σ := (uI s14 5 3 (nI (k + 1)))) hSa hba hRa (by omega) (PCt.u hCa (by omega)) hT uI_self (by omega) (Eq.trans (rd_off (by omega)) hta) a1) rfl rfl (Nat.le_of_ble_eq_true rfl) (by omega) (by omega) (by omega) (k_p ?_)
      refine q_if_eqB (tgt := 256) dX1_readStatement_213 (by decide) (fun h => absurd h (by decide)) (fun _ => ?_)
      refine q_aload_n dX1_readStatement_216 rfl rfl rfl ?_
      refine q_bipush (v := nI 60) dX1_readStatement_217 rfl ?_
      refine q_callV (As := [.int (nI 60)]) (rest := []) dX1_readStatement_219 vX1_82 (ty_c hSa (by decide) rfl) ⟨by decide, rfl⟩ (z1_takeSign_ok (σ := (uI (uI (uI (uI (uI s14 5 3 (nI (k + 1))) 5 4 o) b 16 (bi (t0 || t1))) 5 3 (nI k1)) (b + 5) n o)) hSa (PCt.u (PCt.u (PCt.u (PCt.u (PCt.u hCa (by omega)) (by omega)) (by omega)) (by omega)) (by omega)) (Eq.trans (rd_off (by omega)) uI_self) (by omega) a2 (by decide)) rfl rfl (Nat.le_of_ble_eq_true rfl) (by omega) (by omega) (by omega) (k_p ?_)
      refine q_if_eqB (tgt := 256) dX1_readStatement_222 (by decide) (fun h => absurd h (by decide)) (fun _ => ?_)
      refine q_aload_n dX1_readStatement_225 rfl rfl rfl ?_
      refine q_iload_n dX1_readStatement_226 rfl rfl ?_
      refine q_iconst (v := nI 1) dX1_readStatement_227 rfl ?_
      refine q_callV (As := [.int (nI n), .int (nI 1)]) (rest := []) dX1_readStatement_228 vX1_112 (ty_c hSa (by decide) rfl) ⟨by decide, rfl⟩ (z1_readOperand_ok1 (σ := (uI (uI (uI (uI (uI (uI s14 5 3 (nI (k + 1))) 5 4 o) b 16 (bi (t0 || t1))) 5 3 (nI k1)) (b + 5) n o) 5 3 (nI (k1 + 1)))) hSa hba hRa (by omega) (PCt.u (PCt.u (PCt.u (PCt.u (PCt.u (PCt.u hCa (by omega)) (by omega)) (by omega)) (by omega)) (by omega)) (by omega)) hT uI_self (by omega) (Eq.trans (rd_off (by omega)) (Eq.trans (rd_off (by omega)) (Eq.trans (rd_off (by omega)) uI_self))) a3) rfl rfl (Nat.le_of_ble_eq_true rfl) (by omega) (by omega) (by omega) (k_p ?_)
      refine q_if_eqB (tgt := 256) dX1_readStatement_231 (by decide) (fun h => absurd h (by decide)) (fun _ => ?_)
      refine q_aload_n dX1_readStatement_234 rfl rfl rfl ?_
      refine q_iload_n dX1_readStatement_235 rfl rfl ?_
      refine q_iconst (v := nI 0) dX1_readStatement_236 rfl ?_
      refine q_callV (As := [.int (nI n), .int (nI 0)]) (rest := []) dX1_readStatement_237 vX1_116 (ty_c hSa (by decide) rfl) ⟨by decide, rfl⟩ (z1_readWay_ok0 (σ := (uI (uI (uI (uI (uI (uI (uI (uI (uI (uI s14 5 3 (nI (k + 1))) 5 4 o) b 16 (bi (t0 || t1))) 5 3 (nI k1)) (b + 5) n o) 5 3 (nI (k1 + 1))) 5 4 o2) b 16 (bi (t0 || t1 || t2))) 5 3 (nI k3)) (b + 6) n o2)) (n := n) hSa hba hRa (by omega) (PCt.u (PCt.u (PCt.u (PCt.u (PCt.u (PCt.u (PCt.u (PCt.u (PCt.u (PCt.u hCa (by omega)) (by omega)) (by omega)) (by omega)) (by omega)) (by omega)) (by omega)) (by omega)) (by omega)) (by omega)) (Eq.trans (rd_off (by omega)) uI_self) (by omega) (Eq.trans (rd_off (by omega)) (Eq.trans (rd_off (by omega)) (Eq.trans (rd_ne (by decide)) (Eq.trans (rd_off (by omega)) (Eq.trans (rd_off (by omega)) (Eq.trans (rd_off (by omega)) (Eq.trans (rd_off (by omega)) (Eq.trans (rd_ne (by decide)) (Eq.trans (rd_off (by omega)) (Eq.trans (rd_off (by omega)) hBa)))))))))) h1 h40 a4) rfl rfl (Nat.le_of_ble_eq_true rfl) (by omega) (by omega) (by omega) (k_p ?_)
      refine q_if_eqB (tgt := 256) dX1_readStatement_240 (by decide) (fun h => absurd h (by decide)) (fun _ => ?_)
      refine q_aload_n dX1_readStatement_243 rfl rfl rfl ?_
      refine q_iload_n dX1_readStatement_244 rfl rfl ?_
      refine q_iconst (v := nI 1) dX1_readStatement_245 rfl ?_
      refine q_callV (As := [.int (nI n), .int (nI 1)]) (rest := []) dX1_readStatement_246 vX1_116 (ty_c hSa (by decide) rfl) ⟨by decide, rfl⟩ (z1_readWay_er1 (σ := (uI (uI (uI (uI (uI (uI (uI (uI (uI (uI (uI (uI (uI s14 5 3 (nI (k + 1))) 5 4 o) b 16 (bi (t0 || t1))) 5 3 (nI k1)) (b + 5) n o) 5 3 (nI (k1 + 1))) 5 4 o2) b 16 (bi (t0 || t1 || t2))) 5 3 (nI k3)) (b + 6) n o2) (b + 9) n (nI (tv T L (k3)))) 12 (nb - 1) (nI (ts T L (k3)))) 5 3 (nI (k3 + 1)))) (b := b) (n := n) hSa (by omega) (PCt.u (PCt.u (PCt.u (PCt.u (PCt.u (PCt.u (PCt.u (PCt.u (PCt.u (PCt.u (PCt.u (PCt.u (PCt.u hCa (by omega)) (by omega)) (by omega)) (by omega)) (by omega)) (by omega)) (by omega)) (by omega)) (by omega)) (by omega)) (by omega)) (by omega)) (by omega)) uI_self (by omega) a5) rfl rfl (Nat.le_of_ble_eq_true rfl) (by omega) (by omega) (by omega) (k_w (fun s246 q246 => ?_))
      have hbad := BadS.tr (b := b) (σ := s14) (σ' := (uI (uI (uI (uI (uI (uI (uI (uI (uI (uI (uI (uI (uI s14 5 3 (nI (k + 1))) 5 4 o) b 16 (bi (t0 || t1))) 5 3 (nI k1)) (b + 5) n o) 5 3 (nI (k1 + 1))) 5 4 o2) b 16 (bi (t0 || t1 || t2))) 5 3 (nI k3)) (b + 6) n o2) (b + 9) n (nI (tv T L (k3)))) 12 (nb - 1) (nI (ts T L (k3)))) 5 3 (nI (k3 + 1)))) (BFr.uI (BFr.uI (BFr.uI (BFr.uI (BFr.uI (BFr.uI (BFr.uI (BFr.uI (BFr.uI (BFr.uI (BFr.uI (BFr.uI (BFr.uI BFr.rf (by omega)) (by omega)) (by omega)) (by omega)) (by omega)) (by omega)) (by omega)) (by omega)) (by omega)) (by omega)) (by omega)) (by omega)) (by omega)) q246
      refine q_if_eqB (tgt := 256) dX1_readStatement_249 (by decide) (fun _ => ?_) (fun h => absurd h (by decide))
      refine q_iconst (v := nI 0) dX1_readStatement_256 rfl ?_
      refine q_ireturn dX1_readStatement_257 rfl rfl (by omega) (by omega) ?_
      exact ⟨rfl, BadS.tr qf hbad⟩
    exact absurd rfl w42_5
theorem z1_rs6_ok {g : GG} {σ : HS} (hS : SK σ) {b : Nat} (hb : RB σ b) (hR : sR σ 5 5 = b) {T : Nat → Nat} {L N k n nb : Nat} (hn : n < 160) (h1 : 1 ≤ nb) (h40 : nb ≤ 40) (hC : PCt σ T L N) (hT : ∀ i, i < L → T i < 256) (hk : sI σ 5 3 = nI k) (hkN : k < N) {ss : List SUM} {m t0 : Bool} (hB : sI σ b 12 = nI nb) (hN : sI σ b 14 = nI n) (ht : sI σ b 16 = bi t0) (hs : SR σ b ss m) {s : ST0} {k2 : Nat} {t : Bool} (hx : pSt T L 6 k = .ok (s, k2, t)) : CT g mX1_readStatement 6 0 0 [.ref 5, .int (nI 6)] σ (WQ (.int (bi true)) (fun σ' => sI σ' 5 3 = nI k2 ∧ AddS b n nb σ σ' (recS T L (nb - 1) s (sumS ss s.2.2.2.2.1).1) (sumS ss s.2.2.2.2.1).2.1 (m || (sumS ss s.2.2.2.2.1).2.2) (t0 || t))) := by
  have hb14 : b = 14 ∨ 99 ≤ b := by rcases hb.1 with h | ⟨j, h⟩ <;> omega
  obtain ⟨h6, h2, h3, h4, h5⟩ := id hC
  have hv := (h5 k (by omega)).2.1
  have hvb := tv_b (k := k) hT
  obtain ⟨rfl, rfl, rfl⟩ := pSt_ok6 hx
  refine CT.of (by decide) (Nat.le_of_ble_eq_true rfl) ?_
  refine q_aload_n dX1_readStatement_0 rfl rfl rfl ?_
  refine q_getr (r := b) dX1_readStatement_1 fX1_30 rfl (ty_c hS (by decide) rfl) hR ?_
  refine q_iload_n dX1_readStatement_4 rfl rfl ?_
  refine q_aload_n dX1_readStatement_5 rfl rfl rfl ?_
  refine q_getr (r := b) dX1_readStatement_6 fX1_30 rfl (ty_c hS (by decide) rfl) hR ?_
  refine q_geti (x := nI nb) dX1_readStatement_9 fX1_95 rfl (ty_r hb 0 rfl) hB ?_
  refine q_iconst (v := nI 1) dX1_readStatement_12 rfl ?_
  refine q_isubN dX1_readStatement_13 (by omega) ?_
  refine q_callV (As := [.int (nI 6), .int (nI (nb - 1))]) (rest := []) dX1_readStatement_14 vX1_98 (ty_r hb 0 rfl) ⟨by decide, rfl⟩ (z2_addNodeV hb (by omega) hN hB h40) rfl rfl (Nat.le_of_ble_eq_true rfl) (by omega) (by omega) (by omega) (k_w (fun s14 q14 => ?_))
  obtain ⟨qa, d13, d14, dF, d1, d2, d3, d5, d6, d7, d9, d10, d12, d13b⟩ := q14
  have qf := qa.af.bf
  have hSa := SK.bf qf hS
  have hba := RB.bf qf hb
  have hRa : sR s14 5 5 = b := by rw [qf.2.1]; exact hR
  have hCa := PCt.bf hb14 qf hC
  have hsa : SR s14 b ss m := hs.fe fun x i z1 z2 => qa.2.2.2 x i (by omega)
  have hka : sI s14 5 3 = nI k := (qa.2.2.2 5 3 (by omega)).trans hk
  have hBa : sI s14 b 12 = nI nb := (qa.2.2.2 b 12 (by omega)).trans hB
  have hta : sI s14 b 16 = bi t0 := (qa.2.2.2 b 16 (by omega)).trans ht
  have hva : sI s14 8 k = nI (tv T L k) := (qa.2.2.2 8 k (by omega)).trans hv
  refine q_istore_n dX1_readStatement_17 rfl (by decide) (ls' := [(2, .int (nI n)), (0, .ref 5), (1, .int (nI 6))]) rfl ?_
  refine q_aload_n dX1_readStatement_18 rfl rfl rfl ?_
  refine q_getr (r := 6) dX1_readStatement_19 fX1_12 rfl (ty_c hSa (by decide) rfl) (hSa.2 5 0 6 rfl) ?_
  refine q_getr (r := 8) dX1_readStatement_22 fX1_73 rfl (ty_c hSa (by decide) rfl) (hSa.2 6 1 8 rfl) ?_
  refine q_aload_n dX1_readStatement_25 rfl rfl rfl ?_
  refine q_geti (x := nI k) dX1_readStatement_26 fX1_38 rfl (ty_c hSa (by decide) rfl) hka ?_
  refine q_iald (x := nI (tv T L k)) (j := k) dX1_readStatement_29 (ty_c hSa (by decide) rfl) (ix_n (by omega) (by omega)) hva ?_
  refine q_istore_n dX1_readStatement_30 rfl (by decide) (ls' := [(3, .int (nI (tv T L k))), (2, .int (nI n)), (0, .ref 5), (1, .int (nI 6))]) rfl ?_
  refine q_aload_n dX1_readStatement_31 rfl rfl rfl ?_
  refine q_dup dX1_readStatement_32 rfl ?_
  refine q_geti (x := nI k) dX1_readStatement_33 fX1_38 rfl (ty_c hSa (by decide) rfl) hka ?_
  refine q_iconst (v := nI 1) dX1_readStatement_36 rfl ?_
  refine q_iaddN dX1_readStatement_37 ?_
  refine q_puti dX1_readStatement_38 fX1_38 rfl (Or.inl rfl) (ty_c hSa (by decide) rfl) ?_
  refine q_iload_n dX1_readStatement_41 rfl rfl ?_
  refine q_tableNe 1 4 (tgt := 258) dX1_readStatement_42 (by decide) (fun v h1 h2 e => by have e2 := nI_inj (by omega) (by omega) e; omega) (by decide) ?_
  refine q_iconst (v := nI 1) dX1_readStatement_258 rfl ?_
  refine q_ireturn dX1_readStatement_259 rfl rfl (by omega) (by omega) ?_
  exact ⟨rfl, uI_self, qa.af.tr (AF.uI AF.rf (by omega)), (Eq.trans (rd_off (by omega)) d13), (Eq.trans (rd_off (by omega)) d14), ((Eq.trans (rd_off (by omega)) hta)).trans (congrArg bi (Bool.or_false t0).symm), SR.cg (SR.u hsa (by omega)) (Bool.or_false m).symm, (Eq.trans (rd_off (by omega)) dF), (Eq.trans (rd_off (by omega)) d1), (Eq.trans (rd_off (by omega)) d2), (Eq.trans (rd_off (by omega)) d3), (Eq.trans (rd_off (by omega)) d5), (Eq.trans (rd_off (by omega)) d6), (Eq.trans (rd_off (by omega)) d7), (Eq.trans (rd_off (by omega)) d9), (Eq.trans (rd_off (by omega)) d10), (Eq.trans (rd_off (by omega)) d12), (Eq.trans (rd_off (by omega)) d13b), fun _ q => absurd rfl q, fun _ q => absurd rfl q⟩
theorem z1_rs_ok {g : GG} {σ : HS} (hS : SK σ) {b : Nat} (hb : RB σ b) (hR : sR σ 5 5 = b) {T : Nat → Nat} {L N k n nb : Nat} (hn : n < 160) (h1 : 1 ≤ nb) (h40 : nb ≤ 40) (hC : PCt σ T L N) (hT : ∀ i, i < L → T i < 256) (hk : sI σ 5 3 = nI k) (hkN : k < N) {ss : List SUM} {m t0 : Bool} (hB : sI σ b 12 = nI nb) (hN : sI σ b 14 = nI n) (ht : sI σ b 16 = bi t0) (hs : SR σ b ss m) {kd : Nat} (hk1 : 1 ≤ kd) (hk6 : kd ≤ 6) {s : ST0} {k2 : Nat} {t : Bool} (hx : pSt T L kd k = .ok (s, k2, t)) : CT g mX1_readStatement 6 0 0 [.ref 5, .int (nI kd)] σ (WQ (.int (bi true)) (fun σ' => sI σ' 5 3 = nI k2 ∧ AddS b n nb σ σ' (recS T L (nb - 1) s (sumS ss s.2.2.2.2.1).1) (sumS ss s.2.2.2.2.1).2.1 (m || (sumS ss s.2.2.2.2.1).2.2) (t0 || t))) := by
  rcases (show kd = 1 ∨ kd = 2 ∨ kd = 3 ∨ kd = 4 ∨ kd = 5 ∨ kd = 6 by omega) with rfl | rfl | rfl | rfl | rfl | rfl
  · exact z1_rs1_ok hS hb hR hn h1 h40 hC hT hk hkN hB hN ht hs hx
  · exact z1_rs2_ok hS hb hR hn h1 h40 hC hT hk hkN hB hN ht hs hx
  · exact z1_rs3_ok hS hb hR hn h1 h40 hC hT hk hkN hB hN ht hs hx
  · exact z1_rs4_ok hS hb hR hn h1 h40 hC hT hk hkN hB hN ht hs hx
  · exact z1_rs5_ok hS hb hR hn h1 h40 hC hT hk hkN hB hN ht hs hx
  · exact z1_rs6_ok hS hb hR hn h1 h40 hC hT hk hkN hB hN ht hs hx
theorem z1_rs_er {g : GG} {σ : HS} (hS : SK σ) {b : Nat} (hb : RB σ b) (hR : sR σ 5 5 = b) {T : Nat → Nat} {L N k n nb : Nat} (hn : n < 160) (h1 : 1 ≤ nb) (h40 : nb ≤ 40) (hC : PCt σ T L N) (hT : ∀ i, i < L → T i < 256) (hk : sI σ 5 3 = nI k) (hkN : k < N) {ss : List SUM} {m t0 : Bool} (hB : sI σ b 12 = nI nb) (hN : sI σ b 14 = nI n) (ht : sI σ b 16 = bi t0) (hs : SR σ b ss m) {kd : Nat} (hk1 : 1 ≤ kd) (hk6 : kd ≤ 6) {e : Nat × Nat} (hx : pSt T L kd k = .error e) : CT g mX1_readStatement 6 0 0 [.ref 5, .int (nI kd)] σ (WQ (.int (bi false)) (fun σ' => BadS b σ σ' e)) := by
  rcases (show kd = 1 ∨ kd = 2 ∨ kd = 3 ∨ kd = 4 ∨ kd = 5 ∨ kd = 6 by omega) with rfl | rfl | rfl | rfl | rfl | rfl
  · exact z1_rs1_er hS hb hR hn h1 h40 hC hT hk hkN hB hN ht hs hx
  · exact z1_rs2_er hS hb hR hn h1 h40 hC hT hk hkN hB hN ht hs hx
  · exact z1_rs3_er hS hb hR hn h1 h40 hC hT hk hkN hB hN ht hs hx
  · exact z1_rs4_er hS hb hR hn h1 h40 hC hT hk hkN hB hN ht hs hx
  · exact z1_rs5_er hS hb hR hn h1 h40 hC hT hk hkN hB hN ht hs hx
  · exact (pSt_er6 hx).elim

