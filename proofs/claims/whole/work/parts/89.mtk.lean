/-! The model's word is word k. -/
def te (T : Nat → Nat) (L k : Nat) : Nat := if ts T L k < L then lxE T L (ts T L k) else L
def wTell : Int64 := 1952803948
def wGo : Int64 := 26479
def wIf : Int64 := 26982
def wLeave : Int64 := 465557354085
def WDr (κ v : Nat) (l : Int64) (d : Int32) : Prop :=
  (κ = 3 ∧ v < 16 ∧ l = lN 118 ∧ d = nI v) ∨ (κ = 3 ∧ 16 ≤ v ∧ v < 48 ∧ l = lN 116 ∧ d = nI (v - 16)) ∨ (κ = 4 ∧ v < 2 ∧ l = lN 114 ∧ d = nI v) ∨ (κ = 5 ∧ v < 40 ∧ l = lN 98 ∧ d = nI v) ∨
  (κ = 8 ∧ d = -1 ∧ ((v = 3 ∧ l = wTell) ∨ (v = 4 ∧ l = wGo) ∨ (v = 5 ∧ l = wIf) ∨ (v = 6 ∧ l = wLeave))) ∨
  (κ = 2 ∧ ¬ (l = lN 118 ∧ ¬ d < 0 ∧ d ≤ nI 15) ∧ ¬ (l = lN 116 ∧ ¬ d < 0 ∧ d ≤ nI 31) ∧ ¬ (l = lN 114 ∧ ¬ d < 0 ∧ d ≤ nI 1) ∧ ¬ (l = lN 98 ∧ ¬ d < 0 ∧ d ≤ nI 39) ∧ ¬ (d = -1 ∧ (l = wTell ∨ l = wGo ∨ l = wIf ∨ l = wLeave)))
def TKD (κ v : Nat) (s val : Int32) (l : Int64) (d : Int32) : Prop := (κ = 0 ∧ s = nI 0) ∨ (κ = 1 ∧ s = nI 4) ∨ (κ = 6 ∧ s = nI 2 ∧ val = nI v) ∨ (κ = 7 ∧ s = nI 3 ∧ val = nI v) ∨ (s = nI 1 ∧ WDr κ v l d)
def MTk (σ : HS) (T : Nat → Nat) (L k : Nat) : Prop := sI σ 58 3 = nI (ts T L k) ∧ sI σ 58 4 = nI (te T L k) ∧ TKD (tk T L k) (tv T L k) (sI σ 58 2) (sI σ 58 6) (sL σ 58 7) (sI σ 58 5)
theorem ts_le {T : Nat → Nat} {L : Nat} : ∀ k, ts T L k ≤ L
  | 0 => run_le isBl T (Nat.zero_le L)
  | k + 1 => by
    unfold ts
    by_cases h : ts T L k < L
    · rw [if_pos h]
      refine run_le isBl T ?_
      unfold lxE
      by_cases hl : isLD (T (ts T L k)) = true
      · rw [if_pos hl, e3_run (by omega)]; exact run_le isLD T (by omega)
      · rw [if_neg hl]; omega
    · rw [if_neg h]; exact Nat.le_refl _
theorem te_le {T : Nat → Nat} {L k : Nat} : te T L k ≤ L := by
  have := ts_le (T := T) (L := L) k
  unfold te
  by_cases h : ts T L k < L
  · rw [if_pos h]
    unfold lxE
    by_cases hl : isLD (T (ts T L k)) = true
    · rw [if_pos hl, e3_run (by omega)]; exact run_le isLD T (by omega)
    · rw [if_neg hl]; omega
  · rw [if_neg h]; exact Nat.le_refl _
theorem ts_te {T : Nat → Nat} {L k : Nat} : ts T L (k + 1) = run isBl T L (te T L k) := by
  unfold te
  conv => lhs; unfold ts
  by_cases h : ts T L k < L
  · rw [if_pos h, if_pos h]
  · rw [if_neg h, if_neg h, run_end (Nat.le_refl _)]
/-- digits stand from the letters' end to the word's end, or not -/
theorem wdD_e2 {T : Nat → Nat} {L p : Nat} (hp : p ≤ L) : wdD T (e1 T L p) (run isLD T L p) = true ↔ e3 T L p = e2 T L p := by
  have h1 := run_le isLet T hp
  have h2 := run_le isDig T h1
  have hL := run_le isLD T hp
  rw [e3_run hp]
  constructor
  · intro h
    unfold e2
    refine (run_is ?_ hL (fun j j1 j2 => ?_) (fun j1 => ?_)).symm
    · have := e3_run (T := T) hp
      unfold e3 at this
      rw [← this]
      exact Nat.le_trans (run_ge isDig T L _) (run_ge isLD T L _)
    · have := List.all_eq_true.mp h (j - e1 T L p) (List.mem_range.mpr (by omega))
      rw [show e1 T L p + (j - e1 T L p) = j by omega] at this
      exact this
    · have := run_not j1
      unfold isLD at this
      rw [Bool.or_eq_false_iff] at this
      exact this.2
  · intro h
    refine List.all_eq_true.mpr fun i hi => ?_
    have hi := List.mem_range.mp hi
    rw [h] at hi
    exact run_all (p := isDig) (T := T) (L := L) (i := e1 T L p) (by omega) (by unfold e2 at hi; omega)
