/-! WORDS OF A TEXT: T the bytes, L how many. -/
def isLet (c : Nat) : Bool := decide (97 ≤ c) && decide (c ≤ 122)
def isDig (c : Nat) : Bool := decide (48 ≤ c) && decide (c ≤ 57)
def isLD (c : Nat) : Bool := isLet c || isDig c
def isBl (c : Nat) : Bool := c == 32 || c == 10
def isOpB (c : Nat) : Bool := c == 43 || c == 45 || c == 42 || c == 47 || c == 38 || c == 94
def isSgB (c : Nat) : Bool := c == 58 || c == 59 || c == 61 || c == 60 || c == 91 || c == 93 || isOpB c
/-- the first place from i on that isn't p, or the end -/
def run (p : Nat → Bool) (T : Nat → Nat) (L i : Nat) : Nat := if h : i < L then (if p (T i) = true then run p T L (i + 1) else i) else i
termination_by L - i
theorem run_step {p : Nat → Bool} {T : Nat → Nat} {L i : Nat} (h : i < L) (hp : p (T i) = true) : run p T L i = run p T L (i + 1) := by
  rw [run, dif_pos h, if_pos hp]
theorem run_stop {p : Nat → Bool} {T : Nat → Nat} {L i : Nat} (h : i < L) (hp : p (T i) = false) : run p T L i = i := by
  rw [run, dif_pos h, if_neg (by rw [hp]; decide)]
theorem run_end {p : Nat → Bool} {T : Nat → Nat} {L i : Nat} (h : L ≤ i) : run p T L i = i := by
  rw [run, dif_neg (by omega)]
theorem run_spec (p : Nat → Bool) (T : Nat → Nat) (L : Nat) : ∀ (n i : Nat), L - i = n → i ≤ run p T L i ∧ (i ≤ L → run p T L i ≤ L) ∧ (run p T L i < L → p (T (run p T L i)) = false) ∧ ∀ j, i ≤ j → j < run p T L i → p (T j) = true := by
  intro n
  induction n using Nat.strongRecOn with
  | ind n ih =>
    intro i hn
    by_cases h : i < L
    · cases hp : p (T i) with
      | true =>
        rw [run_step h hp]
        obtain ⟨h1, h2, h3, h4⟩ := ih (L - (i + 1)) (by omega) (i + 1) rfl
        refine ⟨by omega, fun _ => h2 (by omega), h3, fun j hj hj2 => ?_⟩
        by_cases e : j = i
        · rw [e]; exact hp
        · exact h4 j (by omega) hj2
      | false =>
        rw [run_stop h hp]
        exact ⟨Nat.le_refl _, fun h => h, fun _ => hp, fun j h1 h2 => by omega⟩
    · rw [run_end (by omega)]
      exact ⟨Nat.le_refl _, fun h => h, fun h1 => by omega, fun j h1 h2 => by omega⟩
theorem run_ge (p : Nat → Bool) (T : Nat → Nat) (L i : Nat) : i ≤ run p T L i := (run_spec p T L _ i rfl).1
theorem run_le (p : Nat → Bool) (T : Nat → Nat) {L i : Nat} (h : i ≤ L) : run p T L i ≤ L := (run_spec p T L _ i rfl).2.1 h
theorem run_not {p : Nat → Bool} {T : Nat → Nat} {L i : Nat} (h : run p T L i < L) : p (T (run p T L i)) = false := (run_spec p T L _ i rfl).2.2.1 h
theorem run_all {p : Nat → Bool} {T : Nat → Nat} {L i j : Nat} (h : i ≤ j) (h2 : j < run p T L i) : p (T j) = true := (run_spec p T L _ i rfl).2.2.2 j h h2
/-- a place that is all p up to it, and not p there or the end: it is the run's end -/
theorem run_is {p : Nat → Bool} {T : Nat → Nat} {L i e : Nat} (h1 : i ≤ e) (h2 : e ≤ L) (h3 : ∀ j, i ≤ j → j < e → p (T j) = true) (h4 : e < L → p (T e) = false) : run p T L i = e := by
  rcases Nat.lt_trichotomy (run p T L i) e with h | h | h
  · have h5 := h3 _ (run_ge p T L i) h
    have h6 : p (T (run p T L i)) = false := run_not (by omega)
    rw [h6] at h5
    cases h5
  · exact h
  · have h5 := run_le p T (L := L) (i := i) (by omega)
    have h6 := run_all h1 h
    rw [h4 (by omega)] at h6
    cases h6
-- the kinds of words
abbrev K_END : Nat := 0
abbrev K_STR : Nat := 1
abbrev K_OTH : Nat := 2
abbrev K_NAM : Nat := 3
abbrev K_ROW : Nat := 4
abbrev K_BLK : Nat := 5
abbrev K_NUM : Nat := 6
abbrev K_SGN : Nat := 7
abbrev K_KEY : Nat := 8
/-- the number that the digits at p .. e-1 are, behind n -/
def numF (T : Nat → Nat) (p : Nat) : Nat → Nat → Nat
  | 0, n => n
  | k + 1, n => numF T (p + 1) k (10 * n + (T p - 48))
def num (T : Nat → Nat) (p e : Nat) : Nat := numF T p (e - p) 0
/-- the letters at p .. e-1 are w -/
def isW (T : Nat → Nat) (p e : Nat) (w : List Nat) : Bool := (e - p == w.length) && (List.range w.length).all (fun i => T (p + i) == w.getD i 0)
def keyV (T : Nat → Nat) (p e : Nat) : Nat × Nat :=
  if isW T p e [116, 101, 108, 108] then (K_KEY, 3) else if isW T p e [103, 111] then (K_KEY, 4) else if isW T p e [105, 102] then (K_KEY, 5) else if isW T p e [108, 101, 97, 118, 101] then (K_KEY, 6) else (K_OTH, 0)
/-- letters at p .. m-1, digits at m .. e-1 -/
def wrdV (T : Nat → Nat) (p m e : Nat) : Nat × Nat :=
  let k := num T m e
  let c := if (T m == 48 && decide (1 < e - m)) || !(m - p == 1) then 0 else T p
  if c = 118 ∧ k < 16 then (K_NAM, k) else if c = 116 ∧ k < 32 then (K_NAM, 16 + k) else if c = 114 ∧ k < 2 then (K_ROW, k) else if c = 98 ∧ k < 40 then (K_BLK, k) else (K_OTH, 0)
/-- the word at p: where its letters end, where digits behind them end, where both end -/
def e1 (T : Nat → Nat) (L p : Nat) : Nat := run isLet T L p
def e2 (T : Nat → Nat) (L p : Nat) : Nat := run isDig T L (e1 T L p)
def e3 (T : Nat → Nat) (L p : Nat) : Nat := run isLD T L (e2 T L p)
def lxE (T : Nat → Nat) (L p : Nat) : Nat := if isLD (T p) then e3 T L p else p + 1
def lxK (T : Nat → Nat) (L p : Nat) : Nat × Nat :=
  if isLD (T p) then
    (if e3 T L p ≠ e2 T L p ∨ (if e1 T L p = p then 9 else 8) < e3 T L p - p then (K_STR, 0)
     else if e1 T L p = p then (K_NUM, num T p (e3 T L p)) else if e1 T L p = e3 T L p then keyV T p (e3 T L p) else wrdV T p (e1 T L p) (e3 T L p))
  else if isSgB (T p) then (K_SGN, T p) else (K_STR, T p)
/-- where word k begins (the end: L) -/
def ts (T : Nat → Nat) (L : Nat) : Nat → Nat
  | 0 => run isBl T L 0
  | k + 1 => if ts T L k < L then run isBl T L (lxE T L (ts T L k)) else L
def tk (T : Nat → Nat) (L k : Nat) : Nat := if ts T L k < L then (lxK T L (ts T L k)).1 else K_END
def tv (T : Nat → Nat) (L k : Nat) : Nat := if ts T L k < L then (lxK T L (ts T L k)).2 else 0
theorem run_idem {p : Nat → Bool} {T : Nat → Nat} {L i j : Nat} (h1 : i ≤ j) (h2 : j ≤ run p T L i) : run p T L j = run p T L i := by
  by_cases hi : i ≤ L
  · refine run_is h2 (run_le p T hi) (fun q hq hq2 => run_all (by omega) hq2) (fun h => run_not h)
  · have h3 := run_end (p := p) (T := T) (L := L) (i := i) (by omega)
    rw [h3] at h2
    have : j = i := by omega
    rw [this]
theorem lxE_gt {T : Nat → Nat} {L p : Nat} (h : p < L) : p < lxE T L p := by
  unfold lxE
  by_cases hc : isLD (T p) = true
  · rw [if_pos hc]
    unfold e3 e2 e1
    unfold isLD at hc
    rw [Bool.or_eq_true] at hc
    rcases hc with hc | hc
    · have h1 := run_step (p := isLet) h hc
      have h2 := run_ge isLet T L (p + 1)
      have h3 := run_ge isDig T L (run isLet T L p)
      have h4 := run_ge isLD T L (run isDig T L (run isLet T L p))
      omega
    · have h2 := run_ge isLet T L p
      have h3 := run_ge isDig T L (run isLet T L p)
      have h4 := run_ge isLD T L (run isDig T L (run isLet T L p))
      by_cases e : run isLet T L p = p
      · rw [e] at h3 h4 ⊢
        have h5 := run_step (p := isDig) h hc
        have h6 := run_ge isDig T L (p + 1)
        omega
      · omega
  · rw [if_neg hc]; omega
theorem lxE_le {T : Nat → Nat} {L p : Nat} (h : p < L) : lxE T L p ≤ L := by
  unfold lxE
  by_cases hc : isLD (T p) = true
  · rw [if_pos hc]
    exact run_le _ _ (run_le _ _ (run_le _ _ (by omega)))
  · rw [if_neg hc]; omega
theorem ts_le (T : Nat → Nat) (L : Nat) : ∀ k, ts T L k ≤ L
  | 0 => run_le _ _ (Nat.zero_le _)
  | k + 1 => by
    unfold ts
    split
    · next h => exact run_le _ _ (lxE_le h)
    · exact Nat.le_refl _
theorem ts_lt {T : Nat → Nat} {L k : Nat} (h : ts T L k < L) : ts T L k < ts T L (k + 1) := by
  rw [ts, if_pos h]
  exact Nat.lt_of_lt_of_le (lxE_gt h) (run_ge _ _ _ _)
theorem ts_ge (T : Nat → Nat) (L : Nat) : ∀ k, ts T L k < L → k ≤ ts T L k
  | 0, _ => Nat.zero_le _
  | k + 1, h => by
    by_cases hk : ts T L k < L
    · have := ts_ge T L k hk
      have := ts_lt hk
      omega
    · rw [ts, if_neg hk] at h
      omega
/-- once at the end, at the end -/
theorem ts_stay {T : Nat → Nat} {L k : Nat} (h : ts T L k = L) : ∀ j, k ≤ j → ts T L j = L := by
  intro j hj
  induction j with
  | zero => rw [show k = 0 by omega] at h; exact h
  | succ j ih =>
    by_cases e : k = j + 1
    · rw [← e]; exact h
    · rw [ts, if_neg (by rw [ih (by omega)]; omega)]
