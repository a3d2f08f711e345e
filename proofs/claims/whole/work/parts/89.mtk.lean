/-! The model's word is word k. -/
def te (T : Nat → Nat) (L k : Nat) : Nat := if ts T L k < L then lxE T L (ts T L k) else L
def wTell : Int64 := 1952803948
def wGo : Int64 := 26479
def wIf : Int64 := 26982
def wLeave : Int64 := 465557354085
def WDr (κ v : Nat) (l : Int64) (d : Int32) : Prop :=
  (κ = 3 ∧ v < 16 ∧ l = lN 118 ∧ d = nI v) ∨ (κ = 3 ∧ 16 ≤ v ∧ v < 48 ∧ l = lN 116 ∧ d = nI (v - 16)) ∨ (κ = 4 ∧ v < 2 ∧ l = lN 114 ∧ d = nI v) ∨ (κ = 5 ∧ v < 40 ∧ l = lN 98 ∧ d = nI v) ∨
  (κ = 8 ∧ d = -1 ∧ ((v = 3 ∧ l = wTell) ∨ (v = 4 ∧ l = wGo) ∨ (v = 5 ∧ l = wIf) ∨ (v = 6 ∧ l = wLeave))) ∨
  (κ = 2 ∧ ¬ (l = lN 118 ∧ ¬ d < 0 ∧ d ≤ nI 15) ∧ ¬ (l = lN 116 ∧ ¬ d < 0 ∧ d ≤ nI 31) ∧ ¬ (l = lN 114 ∧ ¬ d < 0 ∧ d ≤ nI 1) ∧ ¬ (l = lN 98 ∧ ¬ d < 0 ∧ d ≤ nI 39) ∧ ¬ (d = -1 ∧ (l = wTell ∨ l = wGo ∨ l = wIf ∨ l = wLeave)))
def TKD (κ v : Nat) (s val : Int32) (l : Int64) (d : Int32) : Prop := (κ = 0 ∧ s = nI 0) ∨ (κ = 1 ∧ s = nI 4) ∨ (κ = 6 ∧ s = nI 2 ∧ val = nI v) ∨ (κ = 7 ∧ s = nI 3 ∧ val = nI v) ∨ (s = nI 1 ∧ WDr κ v l d)
def MTk (σ : HS) (T : Nat → Nat) (L k : Nat) : Prop := sI σ 58 3 = nI (ts T L k) ∧ sI σ 58 4 = nI (te T L k) ∧ TKD (tk T L k) (tv T L k) (sI σ 58 2) (sI σ 58 6) (sL σ 58 7) (sI σ 58 5)
theorem te_le {T : Nat → Nat} {L k : Nat} : te T L k ≤ L := by
  have := ts_le T L k
  unfold te
  by_cases h : ts T L k < L
  · rw [if_pos h]
    unfold lxE
    by_cases hl : isLD (T (ts T L k)) = true
    · rw [if_pos hl, e3_run (by omega)]; exact run_le isLD T (by omega)
    · rw [if_neg hl]; omega
  · rw [if_neg h]; exact Nat.le_refl _
theorem ts_te {T : Nat → Nat} {L k : Nat} : ts T L (k + 1) = run isBl T L (te T L k) := by
  unfold te
  conv => lhs; unfold ts
  by_cases h : ts T L k < L
  · rw [if_pos h, if_pos h]
  · rw [if_neg h, if_neg h, run_end (Nat.le_refl _)]
/-- digits stand from the letters' end to the word's end, or not -/
theorem wdD_e2 {T : Nat → Nat} {L p : Nat} (hp : p ≤ L) : wdD T (e1 T L p) (run isLD T L p) = true ↔ e3 T L p = e2 T L p := by
  have h1 := run_le isLet T hp
  have h2 := run_le isDig T h1
  have hL := run_le isLD T hp
  rw [e3_run hp]
  constructor
  · intro h
    unfold e2
    refine (run_is ?_ hL (fun j j1 j2 => ?_) (fun j1 => ?_)).symm
    · have := e3_run (T := T) hp
      unfold e3 at this
      rw [← this]
      exact Nat.le_trans (run_ge isDig T L _) (run_ge isLD T L _)
    · have := List.all_eq_true.mp h (j - e1 T L p) (List.mem_range.mpr (by omega))
      rw [show e1 T L p + (j - e1 T L p) = j by omega] at this
      exact this
    · have := run_not j1
      unfold isLD at this
      rw [Bool.or_eq_false_iff] at this
      exact this.2
  · intro h
    refine List.all_eq_true.mpr fun i hi => ?_
    have hi := List.mem_range.mp hi
    rw [h] at hi
    exact run_all (p := isDig) (T := T) (L := L) (i := e1 T L p) (by omega) (by unfold e2 at hi; omega)
theorem nI_ne_m1 {a : Nat} (ha : a < 2147483648) : ¬ nI a = -1 := fun q => by have := nI_pos (n := a) (by omega); rw [q] at this; exact this (by decide)
theorem isW4 {T : Nat → Nat} {p e a b c d : Nat} : isW T p e [a, b, c, d] = true ↔ (e - p = 4 ∧ T p = a ∧ T (p + 1) = b ∧ T (p + 2) = c ∧ T (p + 3) = d) := by
  simp [isW, List.range, List.range.loop]
theorem isW2 {T : Nat → Nat} {p e a b : Nat} : isW T p e [a, b] = true ↔ (e - p = 2 ∧ T p = a ∧ T (p + 1) = b) := by
  simp [isW, List.range, List.range.loop]
theorem isW5 {T : Nat → Nat} {p e a b c d f : Nat} : isW T p e [a, b, c, d, f] = true ↔ (e - p = 5 ∧ T p = a ∧ T (p + 1) = b ∧ T (p + 2) = c ∧ T (p + 3) = d ∧ T (p + 4) = f) := by
  simp [isW, List.range, List.range.loop]
theorem lN_tn {c : Nat} (h : c < 128) : (lN c).toBitVec.toNat = c := by
  have : ∀ c : Fin 128, (lN c.val).toBitVec.toNat = c.val := by decide +kernel
  exact this ⟨_, h⟩
/-- a word of letters alone -/
theorem wdr_key {T : Nat → Nat} {p e : Nat} (h1 : p < e) (h8 : e - p ≤ 8) (hl : ∀ i, i < e - p → isLet (T (p + i)) = true) : WDr (keyV T p e).1 (keyV T p e).2 (pkL T p (e - p)) (-1) := by
  obtain ⟨a1, a2, a3, a4, a5⟩ := pk_all (T := T) (p := p) (e - p) h8 (by omega) hl
  have b2 := pkL_eq (w := wTell) h8 hl (c := 1952803948) (by decide)
  have b3 := pkL_eq (w := wGo) h8 hl (c := 26479) (by decide)
  have b4 := pkL_eq (w := wIf) h8 hl (c := 26982) (by decide)
  have b5 := pkL_eq (w := wLeave) h8 hl (c := 465557354085) (by decide)
  unfold keyV
  by_cases w1 : isW T p e [116, 101, 108, 108] = true
  · rw [if_pos w1]
    exact Or.inr (Or.inr (Or.inr (Or.inr (Or.inl ⟨rfl, rfl, Or.inl ⟨rfl, b2.mpr (a2.mpr (isW4.mp w1))⟩⟩))))
  · rw [if_neg w1]
    by_cases w2 : isW T p e [103, 111] = true
    · rw [if_pos w2]
      exact Or.inr (Or.inr (Or.inr (Or.inr (Or.inl ⟨rfl, rfl, Or.inr (Or.inl ⟨rfl, b3.mpr (a3.mpr (isW2.mp w2))⟩)⟩))))
    · rw [if_neg w2]
      by_cases w3 : isW T p e [105, 102] = true
      · rw [if_pos w3]
        exact Or.inr (Or.inr (Or.inr (Or.inr (Or.inl ⟨rfl, rfl, Or.inr (Or.inr (Or.inl ⟨rfl, b4.mpr (a4.mpr (isW2.mp w3))⟩))⟩))))
      · rw [if_neg w3]
        by_cases w4 : isW T p e [108, 101, 97, 118, 101] = true
        · rw [if_pos w4]
          exact Or.inr (Or.inr (Or.inr (Or.inr (Or.inl ⟨rfl, rfl, Or.inr (Or.inr (Or.inr ⟨rfl, b5.mpr (a5.mpr (isW5.mp w4))⟩))⟩))))
        · rw [if_neg w4]
          refine Or.inr (Or.inr (Or.inr (Or.inr (Or.inr ⟨rfl, ?_, ?_, ?_, ?_, ?_⟩))))
          · exact fun z => z.2.1 (by decide)
          · exact fun z => z.2.1 (by decide)
          · exact fun z => z.2.1 (by decide)
          · exact fun z => z.2.1 (by decide)
          · rintro ⟨_, z | z | z | z⟩
            · exact w1 (isW4.mpr (a2.mp (b2.mp z)))
            · exact w2 (isW2.mpr (a3.mp (b3.mp z)))
            · exact w3 (isW2.mpr (a4.mp (b4.mp z)))
            · exact w4 (isW5.mpr (a5.mp (b5.mp z)))
theorem dgD_ok {T : Nat → Nat} {m e : Nat} (h1 : m < e) (h8 : e - m ≤ 8) (hd : ∀ i, i < e - m → isDig (T (m + i)) = true) : dgD T m e (nuL T m (e - m)) = (if 1 < e - m ∧ T m = 48 then -2 else nI (num T m e)) ∧ num T m e < 100000000 := by
  have hlt := nmF_lt (e - m) hd
  have hpw : 10 ^ (e - m) ≤ 10 ^ 8 := Nat.pow_le_pow_right (n := 10) (by omega) h8
  have hnum : num T m e < 100000000 := by unfold num; omega
  refine ⟨?_, hnum⟩
  unfold dgD
  rw [if_neg (by omega), nuL_ok (fun _ => Or.inr trivial) _ hd]
  by_cases hz : 1 < e - m ∧ T m = 48
  · rw [if_pos hz, if_pos hz]
  · rw [if_neg hz, if_neg hz]
    show (lN (num T m e)).toInt32 = _
    exact lN_i _
theorem wdr_no {l : Int64} {d : Int32} (h : ∀ c, 97 ≤ c → c ≤ 122 → ¬ l = lN c) (hd : d ≠ -1) : WDr 2 0 l d :=
  Or.inr (Or.inr (Or.inr (Or.inr (Or.inr ⟨rfl, fun z => h 118 (by omega) (by omega) z.1, fun z => h 116 (by omega) (by omega) z.1, fun z => h 114 (by omega) (by omega) z.1, fun z => h 98 (by omega) (by omega) z.1, fun z => hd z.1⟩))))
theorem wdr_c {c n : Nat} {l : Int64} (hn : n < 100000000) (key : ∀ c', 97 ≤ c' → c' ≤ 122 → (l = lN c' ↔ c = c')) : WDr (wrdC c n).1 (wrdC c n).2 l (nI n) := by
  have le : ∀ m, m < 100 → (nI n ≤ nI m ↔ n ≤ m) := fun m hm => nI_leI (by omega) (by omega)
  unfold wrdC
  by_cases w1 : c = 118 ∧ n < 16
  · rw [if_pos w1]
    exact Or.inl ⟨rfl, w1.2, (key 118 (by omega) (by omega)).mpr w1.1, rfl⟩
  · rw [if_neg w1]
    by_cases w2 : c = 116 ∧ n < 32
    · rw [if_pos w2]
      exact Or.inr (Or.inl ⟨rfl, by show 16 ≤ 16 + n; omega, by show 16 + n < 48; omega, (key 116 (by omega) (by omega)).mpr w2.1, congrArg nI (by show n = 16 + n - 16; omega)⟩)
    · rw [if_neg w2]
      by_cases w3 : c = 114 ∧ n < 2
      · rw [if_pos w3]
        exact Or.inr (Or.inr (Or.inl ⟨rfl, w3.2, (key 114 (by omega) (by omega)).mpr w3.1, rfl⟩))
      · rw [if_neg w3]
        by_cases w4 : c = 98 ∧ n < 40
        · rw [if_pos w4]
          exact Or.inr (Or.inr (Or.inr (Or.inl ⟨rfl, w4.2, (key 98 (by omega) (by omega)).mpr w4.1, rfl⟩)))
        · rw [if_neg w4]
          refine Or.inr (Or.inr (Or.inr (Or.inr (Or.inr ⟨rfl, ?_, ?_, ?_, ?_, ?_⟩))))
          · exact fun z => w1 ⟨(key 118 (by omega) (by omega)).mp z.1, by have := (le 15 (by omega)).mp z.2.2; omega⟩
          · exact fun z => w2 ⟨(key 116 (by omega) (by omega)).mp z.1, by have := (le 31 (by omega)).mp z.2.2; omega⟩
          · exact fun z => w3 ⟨(key 114 (by omega) (by omega)).mp z.1, by have := (le 1 (by omega)).mp z.2.2; omega⟩
          · exact fun z => w4 ⟨(key 98 (by omega) (by omega)).mp z.1, by have := (le 39 (by omega)).mp z.2.2; omega⟩
          · exact fun z => nI_ne_m1 (by omega) z.1
theorem wrdC_0 (n : Nat) : wrdC 0 n = (2, 0) := by
  unfold wrdC
  rw [if_neg (by omega), if_neg (by omega), if_neg (by omega), if_neg (by omega)]
theorem wdr_m2 {l : Int64} : WDr 2 0 l (-2) :=
  Or.inr (Or.inr (Or.inr (Or.inr (Or.inr ⟨rfl, fun z => z.2.1 (by decide), fun z => z.2.1 (by decide), fun z => z.2.1 (by decide), fun z => z.2.1 (by decide), fun z => absurd z.1 (by decide)⟩))))
theorem wrdL_z {T : Nat → Nat} {p m e : Nat} (hz : 1 < e - m ∧ T m = 48) : wrdL T p m e = 0 := by
  unfold wrdL; exact if_pos (by simp [hz])
theorem wrdL_p {T : Nat → Nat} {p m e : Nat} (hz : ¬ (1 < e - m ∧ T m = 48)) (h1 : m - p = 1) : wrdL T p m e = T p := by
  unfold wrdL
  refine if_neg fun z => ?_
  rw [Bool.or_eq_true, Bool.and_eq_true, beq_iff_eq, decide_eq_true_eq] at z
  rcases z with z | z
  · exact hz ⟨z.2, z.1⟩
  · rw [h1] at z; exact absurd z (by decide)
theorem wrdL_n {T : Nat → Nat} {p m e : Nat} (h1 : ¬ m - p = 1) : wrdL T p m e = 0 := by
  unfold wrdL; exact if_pos (by simp [h1])
/-- a word with digits behind its letters -/
theorem wdr_dig {T : Nat → Nat} {p m e : Nat} (h1 : p < m) (h2 : m < e) (h8 : e - p ≤ 8) (hl : ∀ i, i < m - p → isLet (T (p + i)) = true) (hd : ∀ i, i < e - m → isDig (T (m + i)) = true) : WDr (wrdV T p m e).1 (wrdV T p m e).2 (pkL T p (m - p)) (dgD T m e (nuL T m (e - m))) := by
  have a1 := (pk_all (T := T) (p := p) (m - p) (by omega) (by omega) hl).1
  have key : ∀ c, 97 ≤ c → c ≤ 122 → (pkL T p (m - p) = lN c ↔ (m - p = 1 ∧ T p = c)) := fun c c1 c2 => (pkL_eq (by omega) hl (lN_tn (by omega))).trans (a1 c c1 c2)
  have hD := (dgD_ok h2 (by omega) hd).1
  have hn := (dgD_ok h2 (by omega) hd).2
  by_cases hz : 1 < e - m ∧ T m = 48
  · have e1 : wrdV T p m e = (2, 0) := by rw [wrdV_C, wrdL_z hz, wrdC_0]
    have e2 : dgD T m e (nuL T m (e - m)) = -2 := by rw [hD, if_pos hz]
    rw [e1, e2]; exact wdr_m2
  · have e2 : dgD T m e (nuL T m (e - m)) = nI (num T m e) := by rw [hD, if_neg hz]
    rw [e2]
    by_cases h1p : m - p = 1
    · have e1 : wrdV T p m e = wrdC (T p) (num T m e) := by rw [wrdV_C, wrdL_p hz h1p]
      rw [e1]
      exact wdr_c hn fun c' c1 c2 => (key c' c1 c2).trans ⟨fun z => z.2, fun z => ⟨h1p, z⟩⟩
    · have e1 : wrdV T p m e = (2, 0) := by rw [wrdV_C, wrdL_n h1p, wrdC_0]
      rw [e1]
      exact wdr_no (fun c c1 c2 z => h1p ((key c c1 c2).mp z).1) (nI_ne_m1 (by omega))
theorem mtk {σ σ' : HS} {T : Nat → Nat} {L k : Nat} (h : NxQ σ T L (ts T L k) σ') : MTk σ' T L k := by
  obtain ⟨hx, h3, hc⟩ := h
  have hp := ts_le T L k
  refine ⟨h3, ?_⟩
  unfold te tk tv
  rcases hc with ⟨c1, c2, c3⟩ | ⟨c1, c2, c3⟩ | ⟨c1, c2, c3, c4⟩ | ⟨c1, c2, c3, c4, c5⟩
  · rw [if_neg (by omega), if_neg (by omega), if_neg (by omega)]
    exact ⟨c2, Or.inl ⟨rfl, c3⟩⟩
  · rw [if_pos c1, if_pos c1, if_pos c1]
    have hLD : isLD (T (ts T L k)) = true := by unfold isLD; rw [c2]; rfl
    have he1 : ts T L k < e1 T L (ts T L k) := by
      unfold e1
      rw [run_step c1 c2]
      exact run_ge isLet T L _
    have hle : e1 T L (ts T L k) ≤ run isLD T L (ts T L k) := by
      rw [← e3_run hp]
      exact Nat.le_trans (run_ge isDig T L _) (run_ge isLD T L _)
    have hlt : ∀ i, i < e1 T L (ts T L k) - ts T L k → isLet (T (ts T L k + i)) = true := fun i hi => run_all (p := isLet) (L := L) (i := ts T L k) (by omega) (by unfold e1 at hi; omega)
    unfold lxE lxK
    rw [if_pos hLD, if_pos hLD, if_neg (by omega : ¬ e1 T L (ts T L k) = ts T L k), if_neg (by omega : ¬ e1 T L (ts T L k) = ts T L k), e3_run hp]
    have hE := wdD_e2 (T := T) hp
    rw [e3_run hp] at hE
    obtain ⟨_, _, d2, d3⟩ := c3
    refine ⟨d2, ?_⟩
    rcases d3 with ⟨d4, d5, d6, d7, d8⟩ | ⟨d4, d5⟩
    · rw [if_neg (by rintro (z | z); exact z (hE.mp d5); omega)]
      refine Or.inr (Or.inr (Or.inr (Or.inr ⟨d6, ?_⟩)))
      rw [d7, d8]
      by_cases he : e1 T L (ts T L k) = run isLD T L (ts T L k)
      · rw [if_pos he]
        have := wdr_key (T := T) (p := ts T L k) (e := run isLD T L (ts T L k)) (by omega) d4 (by rw [← he]; exact hlt)
        rw [show dgD T (e1 T L (ts T L k)) (run isLD T L (ts T L k)) (nuL T (e1 T L (ts T L k)) (run isLD T L (ts T L k) - e1 T L (ts T L k))) = -1 from if_pos he, he]
        exact this
      · rw [if_neg he]
        refine wdr_dig he1 (by omega) d4 hlt fun i hi => ?_
        exact List.all_eq_true.mp d5 i (List.mem_range.mpr hi)
    · rw [if_pos]
      · exact Or.inr (Or.inl ⟨rfl, d5⟩)
      · by_cases z : run isLD T L (ts T L k) - ts T L k ≤ 8
        · exact Or.inl fun y => absurd ((d4 z).symm.trans (hE.mpr y)) (by decide)
        · exact Or.inr (by omega)
  · rw [if_pos c1, if_pos c1, if_pos c1]
    have hLD : isLD (T (ts T L k)) = true := by unfold isLD; rw [c2, c3]; rfl
    have he1 : e1 T L (ts T L k) = ts T L k := by unfold e1; exact run_stop c1 c2
    unfold lxE lxK
    rw [if_pos hLD, if_pos hLD, if_pos he1, if_pos he1, e3_run hp]
    have hE := wdD_e2 (T := T) hp
    rw [e3_run hp, he1] at hE
    obtain ⟨_, _, d2, d3⟩ := c4
    refine ⟨d2, ?_⟩
    rcases d3 with ⟨d4, d5, d6⟩ | ⟨d4, d5⟩
    · unfold nmS at d4
      rw [Bool.and_eq_true, decide_eq_true_eq] at d4
      rw [if_neg (by rintro (z | z); exact z (hE.mp d4.2); omega)]
      exact Or.inr (Or.inr (Or.inl ⟨rfl, d5, d6⟩))
    · unfold nmS at d4
      rw [if_pos]
      · exact Or.inr (Or.inl ⟨rfl, d5⟩)
      · by_cases z : run isLD T L (ts T L k) - ts T L k ≤ 9
        · refine Or.inl fun y => ?_
          rw [decide_eq_true z, Bool.true_and] at d4
          exact absurd (d4.symm.trans (hE.mpr y)) (by decide)
        · exact Or.inr (by omega)
  · rw [if_pos c1, if_pos c1, if_pos c1]
    unfold lxE lxK
    rw [if_neg (by rw [c2]; decide), if_neg (by rw [c2]; decide)]
    refine ⟨c3, ?_⟩
    by_cases hs : isSgB (T (ts T L k)) = true
    · rw [if_pos hs] at c4 ⊢
      exact Or.inr (Or.inr (Or.inr (Or.inl ⟨rfl, c4, c5⟩)))
    · rw [if_neg hs] at c4 ⊢
      exact Or.inr (Or.inl ⟨rfl, c4⟩)
