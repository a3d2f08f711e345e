/-! What a text without a FAULT of its words looks like: blocks, SUMS. -/
def RW (r : REC) : Prop := rK r ≤ 6 ∧ ((rK r ≤ 1 ∧ ∃ nm, nm < 48 ∧ rT r = nI nm) ∨ (rK r = 2 ∧ ∃ w, w < 2 ∧ rT r = nI w) ∨ (3 ≤ rK r ∧ rT r = -1)) ∧ OPD (rO0 r) ∧ OPD (rO1 r) ∧
  (∃ w0 w1 : Option Nat, rW0 r = oW w0 ∧ rW1 r = oW w1 ∧ (∀ v, w0 = some v → v < 40) ∧ (∀ v, w1 = some v → v < 40) ∧ (rK r < 4 → w0 = none ∧ w1 = none) ∧ (rK r = 4 → w0.isSome ∧ w1 = none) ∧ (rK r = 5 → w0.isSome ∧ w1.isSome) ∧ (rK r = 6 → w0 = none ∧ w1 = none))
def sm0 : SUM := (0, 0, 0)
def RS (ss : List SUM) (m : Bool) (r : REC) : Prop := (rK r ≠ 0 → rS r = -1) ∧ (rK r = 0 → m = true ∨ ∃ e, e < ss.length ∧ rS r = nI e ∧ (((isO (ss.getD e sm0).1 ∧ (ss.getD e sm0).2.1 = rO0 r) ∨ ((ss.getD e sm0).1 = nI 114 ∧ rO0 r = nI 0)) ∧ (ss.getD e sm0).2.2 = rO1 r))
def tR (r : REC) : Bool := (decide (rK r ≤ 1) && decide (nI 16 ≤ rT r)) || oT (rO0 r) || oT (rO1 r)
def WFs (q : PS) : Prop := (∀ r ∈ psS q, RW r ∧ RS (psM q) (psX q) r) ∧ (∀ x ∈ psM q, SMW x) ∧ (psM q).Nodup ∧ (psM q).length ≤ 32 ∧ psT q = (psS q).any tR
theorem RS_up {ss ss' : List SUM} {m m' : Bool} {r : REC} (h : RS ss m r) (h1 : ss.length ≤ ss'.length) (h2 : ∀ e, e < ss.length → ss'.getD e sm0 = ss.getD e sm0) (h3 : m = true → m' = true) : RS ss' m' r := by
  refine ⟨h.1, fun k => ?_⟩
  rcases h.2 k with q | ⟨e, q1, q2, q3⟩
  · exact Or.inl (h3 q)
  · exact Or.inr ⟨e, by omega, q2, by rw [h2 e q1]; exact q3⟩
theorem nSum_w {ss : List SUM} {x : SUM} (hn : ss.Nodup) (hl : ss.length ≤ 32) : ss.length ≤ (nSum ss x).2.1.length ∧ (∀ e, e < ss.length → (nSum ss x).2.1.getD e sm0 = ss.getD e sm0) ∧ (nSum ss x).2.1.Nodup ∧ (nSum ss x).2.1.length ≤ 32 ∧ (∀ y ∈ (nSum ss x).2.1, y ∈ ss ∨ y = x) ∧ ((nSum ss x).2.2 = true ∨ ∃ e, e < (nSum ss x).2.1.length ∧ (nSum ss x).1 = nI e ∧ (nSum ss x).2.1.getD e sm0 = x) := by
  unfold nSum
  cases hf : ss.findIdx? (fun y => y == x) with
  | some e =>
    dsimp only
    refine ⟨Nat.le_refl _, fun _ _ => rfl, hn, hl, fun y hy => Or.inl hy, Or.inr ⟨e, ?_, rfl, ?_⟩⟩
    · exact (List.findIdx?_eq_some_iff_getElem.mp hf).1
    · obtain ⟨q1, q2, -⟩ := List.findIdx?_eq_some_iff_getElem.mp hf
      rw [List.getD_eq_getElem?_getD, List.getElem?_eq_getElem q1]
      simpa using q2
  | none =>
    dsimp only
    have hx : x ∉ ss := by
      intro hm
      have := List.findIdx?_eq_none_iff.mp hf x hm
      simp at this
    by_cases h : ss.length < 32
    · rw [if_pos h]
      refine ⟨by simp, fun e he => gd_app he, ?_, by simp; omega, fun y hy => ?_, Or.inr ⟨ss.length, by simp, rfl, gd_last⟩⟩
      · rw [List.nodup_append]
        refine ⟨hn, by simp, fun a ha b hb => ?_⟩
        simp at hb
        rintro rfl
        rw [hb] at ha
        exact hx ha
      · simpa using hy
    · rw [if_neg h]
      exact ⟨Nat.le_refl _, fun _ _ => rfl, hn, hl, fun y hy => Or.inl hy, Or.inl rfl⟩
theorem t16 {nm : Nat} (h : nm < 48) : decide (nI 16 ≤ nI nm) = decide (16 ≤ nm) := by
  by_cases e : 16 ≤ nm
  · rw [decide_eq_true e, decide_eq_true ((nI_leI (by omega) (by omega)).mpr e)]
  · rw [decide_eq_false e, decide_eq_false fun q => e ((nI_leI (by omega) (by omega)).mp q)]
theorem psAdd_wfs {T : Nat → Nat} {L kd b : Nat} {q : PS} {s : ST0} {t : Bool} (h : WFs q) (hs : STW T L kd s t) : WFs (psAdd T L q b s t) := by
  rw [psAdd_eq]
  obtain ⟨h1, h2, h3, h4, h5⟩ := h
  obtain ⟨s1, s2, s3, s4, s5, s6, s7⟩ := hs
  have key : ∀ (a : Int32) (ss' : List SUM) (m' : Bool), (psM q).length ≤ ss'.length → (∀ e, e < (psM q).length → ss'.getD e sm0 = (psM q).getD e sm0) → ss'.Nodup → ss'.length ≤ 32 → (∀ y ∈ ss', SMW y) → RS ss' (psX q || m') (recS T L b s a) → WFs (psS q ++ [recS T L b s a], ss', psX q || m', psT q || t, psF q, psH q) := by
    intro a ss' m' k1 k2 k3 k4 k5 k6
    refine ⟨fun r hr => ?_, k5, k3, k4, ?_⟩
    · rcases List.mem_append.mp hr with hr | hr
      · exact ⟨(h1 r hr).1, RS_up (h1 r hr).2 k1 k2 fun e => by show (psX q || m') = true; rw [e]; rfl⟩
      · rw [List.mem_singleton] at hr
        subst hr
        refine ⟨⟨s7, ?_, s3, s4, s6⟩, k6⟩
        rcases s2 with ⟨q1, nm, q2, q3, -⟩ | ⟨q1, q2, -⟩ | ⟨q1, q2, -⟩
        · exact Or.inl ⟨q1, nm, q2, q3⟩
        · exact Or.inr (Or.inl ⟨q1, q2⟩)
        · exact Or.inr (Or.inr ⟨q1, q2⟩)
    · show (psT q || t) = (psS q ++ [recS T L b s a]).any tR
      rw [List.any_append, ← h5]
      congr 1
      simp only [List.any_cons, List.any_nil, Bool.or_false]
      show t = ((decide (s.1 ≤ 1) && decide (nI 16 ≤ s.2.1)) || oT s.2.2.1 || oT s.2.2.2.1)
      rcases s2 with ⟨q1, nm, q2, q3, q4⟩ | ⟨q1, q2, q4⟩ | ⟨q1, q2, q4⟩
      · rw [q3, t16 q2, q4, decide_eq_true q1, Bool.true_and]
      · rw [q4, decide_eq_false (by omega), Bool.false_and, Bool.false_or]
      · rw [q4, decide_eq_false (by omega), Bool.false_and, Bool.false_or]
  rcases s5 with ⟨c1, x, c2, c3, c4⟩ | ⟨c1, c2⟩
  · obtain ⟨n1, n2, n3, n4, n5, n6⟩ := nSum_w (x := x) h3 h4
    rw [c2]
    refine key _ _ _ n1 n2 n3 n4 (fun y hy => ?_) ⟨fun k => absurd c1 k, fun _ => ?_⟩
    · rcases n5 y hy with e | rfl
      · exact h2 y e
      · exact c3
    · rcases n6 with e | ⟨e, e1, e2, e3⟩
      · exact Or.inl (by show (psX q || (nSum (psM q) x).2.2) = true; rw [e, Bool.or_true])
      · refine Or.inr ⟨e, e1, e2, ?_⟩
        show _ ∧ ((nSum (psM q) x).2.1.getD e sm0).2.2 = s.2.2.2.1
        have e3' : (sumS (psM q) (some x)).2.1.getD e sm0 = x := e3
        rw [e3', e3]
        rcases c4 with ⟨a1, a2, a3⟩ | ⟨a1, a2, a3⟩
        · exact ⟨Or.inl ⟨a1, a2⟩, a3⟩
        · exact ⟨Or.inr ⟨a1, a2⟩, a3⟩
  · rw [c2]
    exact key _ _ _ (Nat.le_refl _) (fun _ _ => rfl) h3 h4 h2 ⟨fun _ => rfl, fun k => absurd k c1⟩
/-- where block j begins; behind the last one the end -/
def nf (q : PS) (j : Nat) : Nat := if j < (psF q).length then (psF q).getD j 0 else (psS q).length
def rr (q : PS) (i : Nat) : REC := (psS q).getD i r0
def BC (q : PS) : Prop := (psH q).length = (psF q).length ∧ (psF q).length ≤ 40 ∧ (psS q).length ≤ 160 ∧ nf q 0 = 0 ∧ (∀ j, j < (psF q).length → nf q j < nf q (j + 1)) ∧ ∀ j, j < (psF q).length → ∀ i, nf q j ≤ i → i < nf q (j + 1) → rB (rr q i) = j ∧ (4 ≤ rK (rr q i) ↔ i + 1 = nf q (j + 1))
def BO (q : PS) : Prop := (psH q).length = (psF q).length ∧ 1 ≤ (psF q).length ∧ (psF q).length ≤ 40 ∧ (psS q).length ≤ 160 ∧ nf q 0 = 0 ∧ (∀ j, j + 1 < (psF q).length → nf q j < nf q (j + 1)) ∧ nf q ((psF q).length - 1) ≤ (psS q).length ∧ (∀ j, j + 1 < (psF q).length → ∀ i, nf q j ≤ i → i < nf q (j + 1) → rB (rr q i) = j ∧ (4 ≤ rK (rr q i) ↔ i + 1 = nf q (j + 1))) ∧ ∀ i, nf q ((psF q).length - 1) ≤ i → i < (psS q).length → rB (rr q i) = (psF q).length - 1 ∧ rK (rr q i) < 4
theorem nf_lt {q : PS} {j : Nat} (h : j < (psF q).length) : nf q j = (psF q).getD j 0 := if_pos h
theorem nf_ge {q : PS} {j : Nat} (h : (psF q).length ≤ j) : nf q j = (psS q).length := if_neg (by omega)
theorem nf_mono {q : PS} (h : ∀ j, j + 1 < (psF q).length → nf q j < nf q (j + 1)) : ∀ n j, j + n < (psF q).length → nf q j ≤ nf q (j + n)
  | 0, _, _ => Nat.le_refl _
  | n + 1, j, hl => by
    have h1 := nf_mono h n j (by omega)
    have h2 := h (j + n) (by omega)
    exact Nat.le_trans h1 (Nat.le_of_lt h2)
section BS
variable {q : PS} {r : REC} {ss : List SUM} {m t : Bool}
/-- one statement more -/
def q1 (q : PS) (r : REC) (ss : List SUM) (m t : Bool) : PS := (psS q ++ [r], ss, m, t, psF q, psH q)
theorem nf_q1 {j : Nat} (h : j < (psF q).length) : nf (q1 q r ss m t) j = nf q j := by
  rw [nf_lt h]; exact nf_lt (q := q1 q r ss m t) h
theorem nf_q1e {j : Nat} (h : (psF q).length ≤ j) : nf (q1 q r ss m t) j = (psS q).length + 1 := by
  rw [nf_ge (q := q1 q r ss m t) h]; show (psS q ++ [r]).length = _; simp
theorem rr_q1 {i : Nat} (h : i < (psS q).length) : rr (q1 q r ss m t) i = rr q i := gd_app h
theorem rr_q1e : rr (q1 q r ss m t) (psS q).length = r := gd_last
theorem BO_nf (h : BO q) {j : Nat} (hj : j < (psF q).length) : nf q j ≤ (psS q).length := by
  obtain ⟨-, -, -, -, -, b6, b7, -⟩ := h
  have := nf_mono b6 ((psF q).length - 1 - j) j (by omega)
  rw [show j + ((psF q).length - 1 - j) = (psF q).length - 1 by omega] at this
  omega
theorem BO_add (h : BO q) (hl : (psS q).length < 160) (hr : rB r = (psF q).length - 1) (h4 : rK r < 4) : BO (q1 q r ss m t) := by
  have hnf := @BO_nf q h
  obtain ⟨b1, b2, b3, b4, b5, b6, b7, b8, b9⟩ := h
  have el : (psS (q1 q r ss m t)).length = (psS q).length + 1 := by show (psS q ++ [r]).length = _; simp
  have eF : (psF (q1 q r ss m t)).length = (psF q).length := rfl
  refine ⟨b1, b2, b3, by omega, by rw [nf_q1 (by omega)]; exact b5, fun j hj => ?_, ?_, fun j hj i g1 g2 => ?_, fun i g1 g2 => ?_⟩
  · rw [eF] at hj
    rw [nf_q1 (by omega), nf_q1 (by omega)]; exact b6 j hj
  · rw [eF, nf_q1 (by omega), el]; omega
  · rw [eF] at hj
    rw [nf_q1 (by omega)] at g1 g2
    have := hnf (j := j + 1) (by omega)
    rw [rr_q1 (by omega), nf_q1 (by omega)]
    exact b8 j hj i g1 g2
  · rw [eF, nf_q1 (by omega)] at g1
    rw [el] at g2
    rw [eF]
    by_cases e : i = (psS q).length
    · subst e; rw [rr_q1e]; exact ⟨hr, h4⟩
    · rw [rr_q1 (by omega)]; exact b9 i g1 (by omega)
theorem BO_end (h : BO q) (hl : (psS q).length < 160) (hr : rB r = (psF q).length - 1) (h4 : 4 ≤ rK r) : BC (q1 q r ss m t) := by
  have hnf := @BO_nf q h
  obtain ⟨b1, b2, b3, b4, b5, b6, b7, b8, b9⟩ := h
  have el : (psS (q1 q r ss m t)).length = (psS q).length + 1 := by show (psS q ++ [r]).length = _; simp
  have eF : (psF (q1 q r ss m t)).length = (psF q).length := rfl
  refine ⟨b1, b3, by omega, by rw [nf_q1 (by omega)]; exact b5, fun j hj => ?_, fun j hj i g1 g2 => ?_⟩
  · rw [eF] at hj
    by_cases e : j + 1 < (psF q).length
    · rw [nf_q1 (by omega), nf_q1 (by omega)]; exact b6 j e
    · rw [nf_q1 (by omega), nf_q1e (by omega)]
      have := hnf hj
      omega
  · rw [eF] at hj
    by_cases e : j + 1 < (psF q).length
    · rw [nf_q1 (by omega)] at g1 g2
      have := hnf e
      rw [rr_q1 (by omega), nf_q1 e]
      exact b8 j e i g1 g2
    · have ej : j = (psF q).length - 1 := by omega
      rw [nf_q1 (by omega)] at g1
      rw [nf_q1e (by omega)] at g2 ⊢
      by_cases e2 : i = (psS q).length
      · subst e2; rw [rr_q1e, ej]; exact ⟨hr, ⟨fun _ => rfl, fun _ => h4⟩⟩
      · rw [rr_q1 (by omega)]
        subst ej
        have := b9 i g1 (by omega)
        exact ⟨this.1, ⟨fun _ => by omega, fun _ => by omega⟩⟩
theorem BC_beg {T : Nat → Nat} {L k : Nat} (h : BC q) (hl : (psF q).length < 40) : BO (psB T L k q) := by
  obtain ⟨b1, b2, b3, b4, b5, b6⟩ := h
  have eF : (psF (psB T L k q)).length = (psF q).length + 1 := by show (psF q ++ [_]).length = _; simp
  have eH : (psH (psB T L k q)).length = (psH q).length + 1 := by show (psH q ++ [_]).length = _; simp
  have eS : psS (psB T L k q) = psS q := rfl
  have en : ∀ j, j ≤ (psF q).length → nf (psB T L k q) j = nf q j := by
    intro j hj
    rw [nf_lt (q := psB T L k q) (by omega)]
    show (psF q ++ [(psS q).length]).getD j 0 = _
    by_cases e : j < (psF q).length
    · rw [gd_app e, nf_lt e]
    · rw [show j = (psF q).length by omega, gd_last, nf_ge (Nat.le_refl _)]
  refine ⟨by omega, by omega, by omega, b3, by rw [en 0 (by omega)]; exact b4, fun j hj => ?_, ?_, fun j hj i g1 g2 => ?_, fun i g1 g2 => ?_⟩
  · rw [en j (by omega), en (j + 1) (by omega)]; exact b5 j (by omega)
  · rw [eF, Nat.add_sub_cancel, en _ (Nat.le_refl _), nf_ge (Nat.le_refl _), eS]; exact Nat.le_refl _
  · rw [en j (by omega)] at g1
    rw [en (j + 1) (by omega)] at g2 ⊢
    exact b6 j (by omega) i g1 g2
  · rw [eF, Nat.add_sub_cancel, en _ (Nat.le_refl _), nf_ge (Nat.le_refl _)] at g1
    rw [eS] at g2
    omega
end BS
theorem pSts_w {T : Nat → Nat} {L : Nat} (hT : ∀ i, i < L → T i < 256) {k2 : Nat} {q' : PS} : ∀ (f b k : Nat) (q : PS), BO q → WFs q → (psF q).length = b + 1 → pSts T L b f k q = .ok (k2, q') → BC q' ∧ WFs q' ∧ psF q' = psF q := by
  intro f
  induction f with
  | zero => intro b k q _ _ _ h; cases h
  | succ f ih =>
    intro b k q h1 h2 h3 h
    obtain ⟨kd, s, k1, t, x1, x2, x3, x4, x5⟩ := pSts_ok h
    obtain ⟨y1, y2, y3⟩ := pKd_b x1
    have hw := pSt_w hT y1 y2 x3 (fun e => by
      subst e
      unfold pKd at x1
      by_cases c3 : tk T L k = 3
      · exact c3
      · rw [if_neg c3] at x1
        by_cases c4 : tk T L k = 4
        · rw [if_pos c4] at x1; cases x1
        · rw [if_neg c4] at x1
          by_cases c8 : tk T L k = 8
          · rw [if_pos c8] at x1
            have := tv_key c8
            simp at x1; omega
          · rw [if_neg c8] at x1; cases x1) (fun e => by
      subst e
      unfold pKd at x1
      by_cases c3 : tk T L k = 3
      · rw [if_pos c3] at x1; cases x1
      · rw [if_neg c3] at x1
        by_cases c4 : tk T L k = 4
        · exact c4
        · rw [if_neg c4] at x1
          by_cases c8 : tk T L k = 8
          · rw [if_pos c8] at x1
            have := tv_key c8
            simp at x1; omega
          · rw [if_neg c8] at x1; cases x1)
    have hwf := psAdd_wfs (b := b) h2 hw
    have hk : s.1 = kd ∨ (kd = 1 ∧ s.1 = 0) := hw.1
    rcases x5 with ⟨z1, z2⟩ | ⟨z1, z2⟩
    · cases z2
      refine ⟨?_, hwf, by rw [psAdd_eq]; rfl⟩
      rw [psAdd_eq]
      exact BO_end h1 x2 (by show b = _; omega) (by show 4 ≤ s.1; omega)
    · obtain ⟨i1, i2, i3⟩ := ih b _ _ (by rw [psAdd_eq]; exact BO_add h1 x2 (by show b = _; omega) (by show s.1 < 4; omega)) hwf (by rw [psAdd_eq]; exact h3) z2
      exact ⟨i1, i2, by rw [i3, psAdd_eq]; rfl⟩
theorem pBk_w {T : Nat → Nat} {L : Nat} (hT : ∀ i, i < L → T i < 256) {k k2 : Nat} {q q' : PS} (h1 : BC q) (h2 : WFs q) (hl : (psF q).length < 40) (h : pBk T L (psF q).length k q = .ok (k2, q')) : BC q' ∧ WFs q' ∧ (psF q').length = (psF q).length + 1 := by
  obtain ⟨x1, x2, x3, x4⟩ := pBk_ok h
  have eF : (psF (psB T L k q)).length = (psF q).length + 1 := by show (psF q ++ [_]).length = _; simp
  obtain ⟨i1, i2, i3⟩ := pSts_w hT 161 _ _ _ (BC_beg h1 hl) h2 eF x4
  exact ⟨i1, i2, by rw [i3, eF]⟩
theorem BC_rB {q : PS} (h : BC q) {r : REC} (hr : r ∈ psS q) : rB r < (psF q).length := by
  obtain ⟨b1, b2, b3, b4, b5, b6⟩ := h
  obtain ⟨i, hi, rfl⟩ := List.mem_iff_getElem.mp hr
  have key : ∀ n, n ≤ (psF q).length → ∀ i, i < nf q n → rB (rr q i) < n := by
    intro n
    induction n with
    | zero => intro _ i hi; rw [b4] at hi; omega
    | succ n ih =>
      intro hn i hi
      by_cases e : i < nf q n
      · have := ih (by omega) i e; omega
      · have := (b6 n (by omega) i (by omega) hi).1; omega
  have := key _ (Nat.le_refl _) i (by rw [nf_ge (Nat.le_refl _)]; exact hi)
  unfold rr at this
  rw [List.getD_eq_getElem?_getD, List.getElem?_eq_getElem hi] at this
  exact this
theorem BC_LB {q : PS} (h : BC q) : LB (psF q).length (psS q) := fun _ hr => BC_rB h hr
