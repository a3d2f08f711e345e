/-! The class: by how many NODES each is led to. -/
def cl1 (q : PS) (i n : Nat) : Nat := (if ld q 0 n = some i then 1 else 0) + (if ld q 1 n = some i then 1 else 0)
def cntL (q : PS) (i : Nat) : Nat → Nat
  | 0 => 0
  | n + 1 => cntL q i n + cl1 q i n
theorem cntL_le (q : PS) (i : Nat) : ∀ n, cntL q i n ≤ 2 * n
  | 0 => Nat.le_refl _
  | n + 1 => by
    have := cntL_le q i n
    unfold cntL cl1
    split <;> split <;> omega
/-- where NODES lead there are NODES -/
theorem ld_lt {q : PS} (hc : BC q) (hw : WFs q) (hnb : NB q) {w n i : Nat} (hn : n < NN q) (h : ld q w n = some i) : i < NN q := by
  have hF : ∀ t, t < (psF q).length → nf q t < (psS q).length := fun t ht => by
    have h1 := hc.2.2.2.2.1 t ht
    have h2 := nf_le hc (j := t + 1) (by omega)
    omega
  unfold ld at h
  by_cases e : n < (psS q).length
  · rw [if_pos e] at h
    by_cases k4 : rK (rr q n) < 4
    · rw [if_pos k4] at h
      by_cases ew : w = 0
      · rw [if_pos ew] at h
        cases h
        obtain ⟨m, m1, m2, m3⟩ : ∃ j, j < (psF q).length ∧ nf q j ≤ n ∧ n < nf q (j + 1) := by
          have key : ∀ k, k ≤ (psF q).length → n < nf q k → ∃ j, j < k ∧ nf q j ≤ n ∧ n < nf q (j + 1) := by
            intro k
            induction k with
            | zero => intro _ h; rw [hc.2.2.2.1] at h; omega
            | succ k ih =>
              intro hk h
              by_cases e : n < nf q k
              · obtain ⟨j, a1, a2⟩ := ih (by omega) e
                exact ⟨j, by omega, a2⟩
              · exact ⟨k, by omega, by omega, h⟩
          obtain ⟨j, a1, a2⟩ := key _ (Nat.le_refl _) (by rw [nf_ge (Nat.le_refl _)]; exact e)
          exact ⟨j, a1, a2⟩
        have h5 := (hc.2.2.2.2.2 m m1 n m2 m3).2
        have h6 := nf_le hc (j := m + 1) (by omega)
        have : n + 1 ≠ nf q (m + 1) := fun z => by have := h5.mpr z; omega
        unfold NN; omega
      · rw [if_neg ew] at h; cases h
    · rw [if_neg k4] at h
      obtain ⟨j, j1, j2, j3⟩ := st_end hc hw hnb e (by omega)
      have key : ∀ (u : Nat) (o : Option Nat), (∀ t, o = some t → t < (psF q).length) → ldW q n u o = some i → (∀ t, o = some t → rK (rr q n) = 5 → many q t = true → (XL q n).length + u < (XL q (psS q).length).length) → i < NN q := by
        intro u o h1 h2 h3
        cases o with
        | none => cases h2
        | some t =>
          by_cases hm : rK (rr q n) = 5 ∧ many q t = true
          · have h4 := h3 t rfl hm.1 hm.2
            have h5 : ldW q n u (some t) = some ((psS q).length + (XL q n).length + u) := if_pos hm
            rw [h5] at h2; cases h2
            unfold NN; omega
          · have h5 : ldW q n u (some t) = some (nf q t) := if_neg hm
            rw [h5] at h2; cases h2
            have := hF t (h1 t rfl)
            unfold NN; omega
      have hlen : (XL q n).length + (xs q n).length ≤ (XL q (psS q).length).length := by
        have := XL_mono q (n := n + 1) ((psS q).length - (n + 1))
        rw [show n + 1 + ((psS q).length - (n + 1)) = (psS q).length by omega] at this
        have h2 : (XL q (n + 1)).length = (XL q n).length + (xs q n).length := by show (XL q n ++ xs q n).length = _; rw [List.length_append]
        omega
      by_cases ew : w = 0
      · rw [if_pos ew] at h
        refine key 0 _ (fun t ht => (j3 0 t ht).1) h (fun t ht h5 hm => ?_)
        obtain ⟨t1, w1⟩ := Option.isSome_iff_exists.mp ((st_w hw e).2.2.2.2.2.1 h5).2
        rw [xs_5 h5 ht w1, if_pos hm, List.length_append] at hlen
        simp at hlen; omega
      · rw [if_neg ew] at h
        refine key _ _ (fun t ht => (j3 1 t ht).1) h (fun t ht h5 hm => ?_)
        obtain ⟨t0, w0⟩ := Option.isSome_iff_exists.mp ((st_w hw e).2.2.2.2.2.1 h5).1
        rw [xs_5 h5 w0 ht, if_pos hm, List.length_append] at hlen
        rw [w0]
        unfold nW
        by_cases e0 : many q t0 = true
        · simp [e0] at hlen ⊢; omega
        · simp [e0] at hlen ⊢; omega
  · rw [if_neg e] at h
    by_cases ew : w = 0
    · rw [if_pos ew] at h
      cases h
      have hx : ∀ k, k ≤ (psS q).length → ∀ t ∈ XL q k, t < (psF q).length := by
        intro k
        induction k with
        | zero => intro _ t ht; cases ht
        | succ k ih =>
          intro hk t ht
          rcases List.mem_append.mp (show t ∈ XL q k ++ xs q k from ht) with ht | ht
          · exact ih (by omega) t ht
          · unfold xs at ht
            by_cases k5 : rK (rr q k) = 5
            · rw [if_pos k5] at ht
              obtain ⟨j, j1, j2, j3⟩ := st_end hc hw hnb (n := k) (by omega) (by omega)
              have := (List.mem_filter.mp ht).1
              rcases List.mem_append.mp this with h | h
              · exact (j3 0 t (Option.mem_toList.mp h)).1
              · exact (j3 1 t (Option.mem_toList.mp h)).1
            · rw [if_neg k5] at ht; cases ht
      have := hF _ (hx _ (Nat.le_refl _) _ (gd_mem (l := XL q (psS q).length) (i := n - (psS q).length) (d := 0) (by unfold NN at hn; omega)))
      unfold NN; omega
    · rw [if_neg ew] at h; cases h
