/-! What leads where. -/
theorem gf_fix {N : Nat} {F : (Nat → Bool) → Nat → Prop} (hF : MF N F) {n : Nat} (hn : n < N) : gf N F n = true ↔ F (gf N F) n := by
  refine ⟨gf_F hF n hn, fun h => ?_⟩
  refine gf_max (v := fun m => gf N F m || decide (m = n)) (fun m hm hv => ?_) (by simp)
  refine hF (gf N F) _ (fun i _ hi => by show (gf N F i || decide (i = n)) = true; rw [hi]; rfl) m hm ?_
  rcases (Bool.or_eq_true _ _).mp hv with z | z
  · exact gf_F hF m hm z
  · have z := of_decide_eq_true z
    rw [z]; exact h
theorem blk_ex {q : PS} (hc : BC q) {n : Nat} (hn : n < (psS q).length) : ∃ j, j < (psF q).length ∧ nf q j ≤ n ∧ n < nf q (j + 1) := by
  have key : ∀ k, k ≤ (psF q).length → n < nf q k → ∃ j, j < k ∧ nf q j ≤ n ∧ n < nf q (j + 1) := by
    intro k
    induction k with
    | zero => intro _ h; rw [hc.2.2.2.1] at h; omega
    | succ k ih =>
      intro hk h
      by_cases e : n < nf q k
      · obtain ⟨j, a1, a2⟩ := ih (by omega) e
        exact ⟨j, by omega, a2⟩
      · exact ⟨k, by omega, by omega, h⟩
  exact key _ (Nat.le_refl _) (by rw [nf_ge (Nat.le_refl _)]; exact hn)
theorem mid_k4 {q : PS} (hc : BC q) {j n : Nat} (hj : j < (psF q).length) (h1 : nf q j ≤ n) (h2 : n + 1 < nf q (j + 1)) : rK (rr q n) < 4 := by
  have := (hc.2.2.2.2.2 j hj n h1 (by omega)).2
  by_cases z : 4 ≤ rK (rr q n)
  · have := this.mp z; omega
  · omega
theorem nf_le2 {q : PS} (hc : BC q) {i j : Nat} (hij : i ≤ j) (hj : j ≤ (psF q).length) : nf q i ≤ nf q j := by
  by_cases e : i = j
  · rw [e]; exact Nat.le_refl _
  · by_cases ej : j = (psF q).length
    · rw [ej, nf_ge (Nat.le_refl _)]; exact nf_le hc (by omega)
    · have := nf_up hc (j - i) i (by omega) (by omega)
      rw [show i + (j - i) = j by omega] at this
      omega
/-- the end of a block: where it leads -/
def bet (q : PS) (a w t x : Nat) : Prop := rK (rr q a) = 5 ∧ many q t = true ∧ ∃ r, r < (xs q a).length ∧ x = (psS q).length + (XL q a).length + r ∧ (xs q a).getD r 0 = t
theorem ld_cs {q : PS} (hc : BC q) (hw : WFs q) (hnb : NB q) {a w x : Nat} (hw2 : w < 2) (h : ld q w a = some x) : (a < (psS q).length ∧ rK (rr q a) < 4 ∧ x = a + 1 ∧ w = 0) ∨ (∃ i t, i < (psF q).length ∧ a = eNd q i ∧ wy q w i = some t ∧ t < (psF q).length ∧ t ≠ 0 ∧ ((x = nf q t ∧ ¬ (rK (rr q a) = 5 ∧ many q t = true)) ∨ bet q a w t x)) ∨ ((psS q).length ≤ a ∧ w = 0 ∧ x = nf q ((XL q (psS q).length).getD (a - (psS q).length) 0)) := by
  by_cases e : a < (psS q).length
  · by_cases k4 : rK (rr q a) < 4
    · obtain ⟨l0, l1⟩ := ld_4 e k4
      rcases (show w = 0 ∨ w = 1 by omega) with rfl | rfl
      · rw [l0] at h; cases h; exact Or.inl ⟨e, k4, rfl, rfl⟩
      · rw [l1] at h; cases h
    · obtain ⟨i, i1, i2, i3⟩ := st_end hc hw hnb e (by omega)
      obtain ⟨l0, l1⟩ := ld_e (q := q) e (by omega)
      obtain ⟨g1, g2, g3, g4, g5, g6, g7⟩ := st_w hw e
      have hwr : ∀ w, wy q w i = wr q w a := fun w => by rw [i2]; rfl
      refine Or.inr (Or.inl ⟨i, ?_⟩)
      rcases (show w = 0 ∨ w = 1 by omega) with rfl | rfl
      · cases ht : wr q 0 a with
        | none => rw [l0, ht] at h; cases h
        | some t =>
          obtain ⟨t1, t2⟩ := i3 0 t ht
          refine ⟨t, i1, i2, by rw [hwr, ht], t1, t2, ?_⟩
          rw [l0, ht] at h
          unfold ldW at h
          by_cases m : rK (rr q a) = 5 ∧ many q t = true
          · simp only [if_pos m] at h
            cases h
            obtain ⟨u, hu⟩ := Option.isSome_iff_exists.mp (g6 m.1).2
            have x5 := xs_5 m.1 ht hu
            rw [if_pos m.2] at x5
            exact Or.inr ⟨m.1, m.2, 0, by rw [x5]; simp, rfl, by rw [x5]; rfl⟩
          · simp only [if_neg m] at h
            cases h; exact Or.inl ⟨rfl, m⟩
      · cases ht : wr q 1 a with
        | none => rw [l1, ht] at h; cases h
        | some t =>
          obtain ⟨t1, t2⟩ := i3 1 t ht
          refine ⟨t, i1, i2, by rw [hwr, ht], t1, t2, ?_⟩
          rw [l1, ht] at h
          unfold ldW at h
          by_cases m : rK (rr q a) = 5 ∧ many q t = true
          · simp only [if_pos m] at h
            cases h
            obtain ⟨u, hu⟩ := Option.isSome_iff_exists.mp (g6 m.1).1
            have x5 := xs_5 m.1 hu ht
            rw [if_pos m.2] at x5
            refine Or.inr ⟨m.1, m.2, nW q a (wr q 0 a), ?_, rfl, ?_⟩
            · rw [x5, hu]; unfold nW
              by_cases mu : many q u = true
              · simp [mu]
              · simp [mu]
            · rw [x5, hu]; unfold nW
              by_cases mu : many q u = true
              · simp [mu]
              · simp [mu]
          · simp only [if_neg m] at h
            cases h; exact Or.inl ⟨rfl, m⟩
  · refine Or.inr (Or.inr ⟨by omega, ?_⟩)
    unfold ld at h
    rw [if_neg e] at h
    by_cases ew : w = 0
    · rw [if_pos ew] at h; cases h; exact ⟨ew, rfl⟩
    · rw [if_neg ew] at h; cases h
theorem lto_w {q : PS} {a n : Nat} (h : lto q a n) : ∃ w, w < 2 ∧ ld q w a = some n := by
  rcases h with h | h
  · exact ⟨0, by omega, h⟩
  · exact ⟨1, by omega, h⟩
/-- inside a block only the NODE before leads to a NODE -/
theorem pred_in {q : PS} (hc : BC q) (hw : WFs q) (hnb : NB q) {j n a : Nat} (hj : j < (psF q).length) (h1 : nf q j < n) (h2 : n < nf q (j + 1)) (ha : a < NN q) (h : lto q a n) : a + 1 = n := by
  have h3 := nf_le hc (j := j + 1) (by omega)
  have no : ∀ t, t < (psF q).length → n ≠ nf q t := fun t ht z => by
    by_cases e : t ≤ j
    · have := nf_le2 hc e (by omega); omega
    · have := nf_le2 hc (i := j + 1) (j := t) (by omega) (by omega); omega
  obtain ⟨w, hw2, hl⟩ := lto_w h
  rcases ld_cs hc hw hnb hw2 hl with ⟨_, _, e, _⟩ | ⟨i, t, _, _, _, t1, _, (⟨e, _⟩ | ⟨_, _, r, _, e, _⟩)⟩ | ⟨e1, _, e⟩
  · exact e.symm
  · exact absurd e (no t t1)
  · omega
  · exact absurd e (no _ (XL_at hc hw hnb e1 ha))
theorem XL_s {q : PS} {n k : Nat} (h : n < k) : (XL q n).length + (xs q n).length ≤ (XL q k).length := by
  have := XL_mono q (n := n + 1) (k - (n + 1))
  rw [show n + 1 + (k - (n + 1)) = k by omega] at this
  have e : (XL q (n + 1)).length = (XL q n).length + (xs q n).length := by show (XL q n ++ xs q n).length = _; rw [List.length_append]
  omega
/-- only the end leads to its NODE ON THE WAY -/
theorem pred_bt {q : PS} (hc : BC q) (hw : WFs q) (hnb : NB q) {n r a : Nat} (hr : r < (xs q n).length) (ha : a < NN q) (h : lto q a ((psS q).length + (XL q n).length + r)) : a = n := by
  obtain ⟨w, hw2, hl⟩ := lto_w h
  rcases ld_cs hc hw hnb hw2 hl with ⟨a1, a2, e, _⟩ | ⟨i, t, _, _, _, t1, _, (⟨e, _⟩ | ⟨_, _, s, s1, e, _⟩)⟩ | ⟨e1, _, e⟩
  · obtain ⟨j, j1, j2, j3⟩ := blk_ex hc a1
    have h3 := nf_le hc (j := j + 1) (by omega)
    have := (hc.2.2.2.2.2 j j1 a j2 j3).2
    by_cases z : a + 1 = nf q (j + 1)
    · have := this.mpr z; omega
    · omega
  · have := nf_0 hc t1; omega
  · by_cases h1 : a < n
    · have := XL_s (q := q) h1; omega
    · by_cases h2 : n < a
      · have := XL_s (q := q) h2; omega
      · omega
  · have := nf_0 hc (XL_at hc hw hnb e1 ha); omega
theorem XL_e {q : PS} (hc : BC q) {j : Nat} (hj : j < (psF q).length) : XL q (eNd q j) = XL q (nf q j) ∧ XL q (nf q (j + 1)) = XL q (nf q j) ++ xs q (eNd q j) := by
  have h1 := hc.2.2.2.2.1 j hj
  have ee : eNd q j = nf q (j + 1) - 1 := rfl
  have h2 : XL q (nf q j + (eNd q j - nf q j)) = XL q (nf q j) := XL_const _ fun i g1 g2 => mid_k4 hc hj g1 (by omega)
  rw [show nf q j + (eNd q j - nf q j) = eNd q j by omega] at h2
  refine ⟨h2, ?_⟩
  conv => lhs; rw [show nf q (j + 1) = eNd q j + 1 by omega]
  show XL q (eNd q j) ++ xs q (eNd q j) = _
  rw [h2]
/-- whose a NODE ON THE WAY is -/
theorem bt_of {q : PS} (hc : BC q) (hw : WFs q) (hnb : NB q) {a : Nat} (hs : (psS q).length ≤ a) (ha : a < NN q) : ∃ i w t, i < (psF q).length ∧ w < 2 ∧ wy q w i = some t ∧ ld q w (eNd q i) = some a ∧ (XL q (psS q).length).getD (a - (psS q).length) 0 = t := by
  have key : ∀ k, k ≤ (psF q).length → ∀ m, m < (XL q (nf q k)).length → ∃ j r, j < k ∧ r < (xs q (eNd q j)).length ∧ m = (XL q (eNd q j)).length + r := by
    intro k
    induction k with
    | zero => intro _ m hm; rw [hc.2.2.2.1] at hm; exact absurd hm (Nat.not_lt_zero m)
    | succ k ih =>
      intro hk m hm
      obtain ⟨x1, x2⟩ := XL_e hc (j := k) (by omega)
      rw [x2, List.length_append] at hm
      by_cases e : m < (XL q (nf q k)).length
      · obtain ⟨j, r, a1, a2⟩ := ih (by omega) m e
        exact ⟨j, r, by omega, a2⟩
      · exact ⟨k, m - (XL q (nf q k)).length, by omega, by omega, by rw [x1]; omega⟩
  obtain ⟨j, r, j1, r1, r2⟩ := key _ (Nat.le_refl _) (a - (psS q).length) (by rw [nf_ge (Nat.le_refl _)]; unfold NN at ha; omega)
  obtain ⟨e1, e2, e3, e4, e5, e6, -⟩ := end_w hc hw j1
  have hn : eNd q j < (psS q).length := e3
  have h4 : 4 ≤ rK (rr q (eNd q j)) := e5
  obtain ⟨g1, g2, g3, g4, g5, g6, g7⟩ := st_w hw hn
  have hg := XL_get hn r1
  obtain ⟨l0, l1⟩ := ld_e hn h4
  have k5 : rK (rr q (eNd q j)) = 5 := by
    refine Classical.byContradiction fun z => ?_
    unfold xs at r1
    rw [if_neg z] at r1
    exact absurd r1 (Nat.not_lt_zero r)
  obtain ⟨t0, h0⟩ := Option.isSome_iff_exists.mp (g6 k5).1
  obtain ⟨t1, h1⟩ := Option.isSome_iff_exists.mp (g6 k5).2
  have x5 := xs_5 k5 h0 h1
  have w0 : ∀ t, wr q 0 (eNd q j) = some t → wy q 0 j = some t := fun t z => z
  have w1 : ∀ t, wr q 1 (eNd q j) = some t → wy q 1 j = some t := fun t z => z
  rw [← r2] at hg
  have ea : a = (psS q).length + (XL q (eNd q j)).length + r := by omega
  by_cases m0 : many q t0 = true
  · rw [if_pos m0] at x5
    by_cases er : r = 0
    · refine ⟨j, 0, t0, j1, by omega, w0 t0 h0, ?_, ?_⟩
      · rw [l0, h0, ldW_m k5 m0, ea, er]
      · rw [hg, x5, er]; rfl
    · by_cases m1 : many q t1 = true
      · rw [if_pos m1] at x5
        rw [x5] at r1 hg
        have er1 : r = 1 := by simp at r1; omega
        refine ⟨j, 1, t1, j1, by omega, w1 t1 h1, ?_, ?_⟩
        · rw [l1, h1, ldW_m k5 m1, ea, er1, h0]; unfold nW; simp only [if_pos m0]
        · rw [hg, er1]; rfl
      · rw [if_neg m1] at x5
        rw [x5] at r1
        simp at r1; omega
  · rw [if_neg m0] at x5
    by_cases m1 : many q t1 = true
    · rw [if_pos m1] at x5
      rw [x5] at r1 hg
      have er1 : r = 0 := by simp at r1; omega
      refine ⟨j, 1, t1, j1, by omega, w1 t1 h1, ?_, ?_⟩
      · rw [l1, h1, ldW_m k5 m1, ea, er1, h0]; unfold nW; simp only [if_neg m0]
      · rw [hg, er1]; rfl
    · rw [if_neg m1] at x5
      rw [x5] at r1
      simp at r1
