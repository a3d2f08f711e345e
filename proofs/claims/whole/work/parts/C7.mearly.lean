/-! How often a SUM is EARLY. -/
theorem b01 {b : Bool} : (if b = true then 1 else 0 : Nat) ≤ 1 := by split <;> omega
section MEA
variable {q : PS} {e : Nat}
theorem end_no (hc : BC q) (hw : WFs q) {j : Nat} (hj : j < (psF q).length) : eNd q j < (psS q).length ∧ rg q (eNd q j) = eR q j ∧ 4 ≤ rK (eR q j) ∧ rK (eR q j) ≤ 6 ∧ (∀ e, e < 32 → wk q e (eNd q j) = false) ∧ (∀ e, kl q e (eNd q j) = false) ∧ sn q (eNd q j) = false := by
  obtain ⟨e1, e2, e3, e4, e5, e6, -⟩ := end_w hc hw hj
  have hn : eNd q j < (psS q).length := e3
  have er : rg q (eNd q j) = eR q j := if_pos hn
  have h32 := hw.2.2.2.1
  have hs : rS (eR q j) = -1 := (hw.1 _ (rr_mem hn)).2.1 (by show rK (eR q j) ≠ 0; omega)
  have k1 : ∀ e, e < 32 → wk q e (eNd q j) = false := fun e he => by
    unfold wk
    rw [er, hs]
    exact decide_eq_false fun z => m1_nI (by omega) z
  refine ⟨hn, er, e5, e6, k1, fun e => ?_, ?_⟩
  · unfold kl klT
    rw [er, if_neg (by omega), if_neg (by omega)]
  · unfold sn
    rw [er, decide_eq_false (by omega), decide_eq_false (by omega)]
    simp only [Bool.false_or]
    refine Bool.eq_false_iff.mpr fun z => ?_
    obtain ⟨x, x1, x2⟩ := List.any_eq_true.mp z
    have hx := List.mem_range.mp x1
    rw [k1 x (by omega)] at x2
    cases x2
theorem wt_is (hc : BC q) (hw : WFs q) (hnb : NB q) {n : Nat} (hn : n < NN q) : wtd q e n = true ↔ wdB q e (wtd q e) n = true := gf_fix (F := fun v n => wdB q e v n = true) (wd_m hc hw hnb e) hn
theorem wt_go (hc : BC q) (hw : WFs q) (hnb : NB q) {n : Nat} (hn : n < NN q) (h : wtd q e n = true) (hk : ¬ wk q e n = true) : kl q e n = false ∧ alN q (wtd q e) n = true := by
  have := (wt_is hc hw hnb hn).mp h
  unfold wdB at this
  rw [Bool.not_eq_true] at hk
  rw [hk] at this
  simp only [Bool.false_or, Bool.and_eq_true, Bool.not_eq_true', Bool.or_eq_false_iff] at this
  exact ⟨this.1.1, this.2⟩
theorem ear_t {n : Nat} : ear q e n = true ↔ wtd q e n = true ∧ (n = 0 ∨ ∃ a, a < NN q ∧ lto q a n ∧ (kl q e a || !(the q e a || wtd q e a)) = true) := by
  unfold ear
  rw [Bool.and_eq_true]
  exact and_congr Iff.rfl (@decide_eq_true_iff _ (Classical.propDecidable _))
noncomputable def pn (q : PS) (e n : Nat) : Bool := wtd q e n && !wk q e n
theorem ear_1 {n : Nat} : (if ear q e n = true then 1 else 0 : Nat) ≤ (if wk q e n = true then 1 else 0) + (if pn q e n = true then 1 else 0) := by
  by_cases h : ear q e n = true
  · have hw := (ear_t.mp h).1
    unfold pn
    rw [hw]
    cases wk q e n <;> simp [h]
  · rw [if_neg h]; omega
theorem ear_2 (hc : BC q) (hw : WFs q) (hnb : NB q) {j n : Nat} (hj : j < (psF q).length) (h1 : nf q j ≤ n) (h2 : n + 1 < nf q (j + 1)) (hp : pn q e n = true) : ear q e (n + 1) = false ∧ wtd q e (n + 1) = true := by
  have h3 := nf_le hc (j := j + 1) (by omega)
  have hn : n < NN q := by unfold NN; omega
  unfold pn at hp
  rw [Bool.and_eq_true] at hp
  obtain ⟨p1, p2⟩ := hp
  obtain ⟨k1, k2⟩ := wt_go hc hw hnb hn p1 (by rw [nb_f p2]; decide)
  obtain ⟨l0, l1⟩ := ld_4 (q := q) (n := n) (by omega) (mid_k4 hc hj h1 h2)
  unfold alN at k2
  rw [l0, l1] at k2
  refine ⟨Bool.eq_false_iff.mpr fun z => ?_, by simpa using k2⟩
  obtain ⟨_, z | ⟨a, a1, a2, a3⟩⟩ := ear_t.mp z
  · omega
  · have := pred_in hc hw hnb hj (by omega) h2 a1 a2
    rw [show a = n by omega, k1, p1] at a3
    simp at a3
theorem ear_blk (hc : BC q) (hw : WFs q) (hnb : NB q) {j : Nat} (hj : j < (psF q).length) : ∀ k, nf q j + k < nf q (j + 1) → cnt (ear q e) (nf q j + k + 1) + cnt (wk q e) (nf q j) ≤ cnt (ear q e) (nf q j) + cnt (wk q e) (nf q j + k + 1) + (if pn q e (nf q j + k) = true then 1 else 0) := by
  intro k
  induction k with
  | zero =>
    intro _
    have := ear_1 (q := q) (e := e) (n := nf q j)
    show cnt (ear q e) (nf q j) + (if ear q e (nf q j) = true then 1 else 0) + _ ≤ _ + (cnt (wk q e) (nf q j) + (if wk q e (nf q j) = true then 1 else 0)) + (if pn q e (nf q j) = true then 1 else 0)
    omega
  | succ k ih =>
    intro hk
    have h1 := ih (by omega)
    have e1 : cnt (ear q e) (nf q j + (k + 1) + 1) = cnt (ear q e) (nf q j + k + 1) + (if ear q e (nf q j + k + 1) = true then 1 else 0) := rfl
    have e2 : cnt (wk q e) (nf q j + (k + 1) + 1) = cnt (wk q e) (nf q j + k + 1) + (if wk q e (nf q j + k + 1) = true then 1 else 0) := rfl
    have e3 : pn q e (nf q j + (k + 1)) = pn q e (nf q j + k + 1) := rfl
    rw [e1, e2, e3]
    by_cases hp : pn q e (nf q j + k) = true
    · obtain ⟨g1, g2⟩ := ear_2 hc hw hnb hj (by omega) (by omega) hp
      rw [if_pos hp] at h1
      rw [g1]
      have : (if wk q e (nf q j + k + 1) = true then 1 else 0 : Nat) + (if pn q e (nf q j + k + 1) = true then 1 else 0) = 1 := by
        unfold pn; rw [g2]
        cases wk q e (nf q j + k + 1) <;> simp
      simp only [Bool.false_eq_true, if_false]
      omega
    · rw [if_neg hp] at h1
      have := ear_1 (q := q) (e := e) (n := nf q j + k + 1)
      omega
theorem ear_bt (hc : BC q) (hw : WFs q) (hnb : NB q) {j r : Nat} (hj : j < (psF q).length) (hr : r < (xs q (eNd q j)).length) (hE : ear q e ((psS q).length + (XL q (eNd q j)).length + r) = true) : wtd q e (eNd q j) = false := by
  obtain ⟨n1, n2, n3, n4, n5, n6, n7⟩ := end_no hc hw hj
  obtain ⟨_, z | ⟨a, a1, a2, a3⟩⟩ := ear_t.mp hE
  · omega
  · have := pred_bt hc hw hnb hr a1 a2
    rw [this, n6] at a3
    cases z : wtd q e (eNd q j)
    · rfl
    · rw [z] at a3; simp at a3
theorem ear_b2 (hc : BC q) (hw : WFs q) (hnb : NB q) (he : e < 32) {j : Nat} (hj : j < (psF q).length) : cnt (ear q e) ((psS q).length + (XL q (nf q (j + 1))).length) + (if wtd q e (eNd q j) = true then 1 else 0) ≤ cnt (ear q e) ((psS q).length + (XL q (nf q j)).length) + 1 := by
  obtain ⟨n1, n2, n3, n4, n5, n6, n7⟩ := end_no hc hw hj
  obtain ⟨x1, x2⟩ := XL_e hc hj
  have hb := fun r => ear_bt (e := e) hc hw hnb (r := r) hj
  have hle := xs_le q (eNd q j)
  have hnN : eNd q j < NN q := by unfold NN; omega
  rw [x2, List.length_append]
  rw [x1] at hb
  generalize hm : (psS q).length + (XL q (nf q j)).length = m0 at hb
  rw [← Nat.add_assoc, hm]
  rcases (show (xs q (eNd q j)).length = 0 ∨ (xs q (eNd q j)).length = 1 ∨ (xs q (eNd q j)).length = 2 by omega) with h | h | h
  · rw [h]
    have := b01 (b := wtd q e (eNd q j))
    show cnt (ear q e) m0 + _ ≤ _
    omega
  · rw [h]
    show cnt (ear q e) m0 + (if ear q e m0 = true then 1 else 0) + _ ≤ _
    by_cases z : ear q e m0 = true
    · rw [if_pos z, hb 0 (by omega) z]; simp
    · rw [if_neg z]
      have := b01 (b := wtd q e (eNd q j))
      omega
  · rw [h]
    show cnt (ear q e) m0 + (if ear q e m0 = true then 1 else 0) + (if ear q e (m0 + 1) = true then 1 else 0) + _ ≤ _
    by_cases z : ear q e m0 = true
    · have f0 := hb 0 (by omega) z
      by_cases z1 : ear q e (m0 + 1) = true
      · exfalso
        have k5 : rK (rr q (eNd q j)) = 5 := by
          refine Classical.byContradiction fun y => ?_
          unfold xs at h
          rw [if_neg y] at h
          simp at h
        obtain ⟨g1, g2, g3, g4, g5, g6, g7⟩ := st_w hw n1
        obtain ⟨t0, h0⟩ := Option.isSome_iff_exists.mp (g6 k5).1
        obtain ⟨t1, h1⟩ := Option.isSome_iff_exists.mp (g6 k5).2
        have x5 := xs_5 k5 h0 h1
        have m0' : many q t0 = true := Classical.byContradiction fun y => by
          rw [x5, if_neg y] at h
          by_cases y1 : many q t1 = true
          · rw [if_pos y1] at h; simp at h
          · rw [if_neg y1] at h; simp at h
        have m1' : many q t1 = true := Classical.byContradiction fun y => by
          rw [x5, if_neg y, if_pos m0'] at h; simp at h
        obtain ⟨l0, l1⟩ := ld_e n1 (by omega : 4 ≤ rK (rr q (eNd q j)))
        rw [h0, ldW_m k5 m0', x1, hm] at l0
        rw [h1, ldW_m k5 m1', x1, hm, h0] at l1
        have en : nW q (eNd q j) (some t0) = 1 := if_pos m0'
        rw [en] at l1
        have w0 := (ear_t.mp z).1
        have w1 := (ear_t.mp z1).1
        have : wtd q e (eNd q j) = true := by
          refine (wt_is hc hw hnb hnN).mpr ?_
          unfold wdB alN
          rw [n5 e he, n6, n7, l0, l1]
          show (false || (!(false || (false && _)) && (wtd q e (m0 + 0) && wtd q e (m0 + 1)))) = true
          rw [show m0 + 0 = m0 from rfl, w0, w1]; rfl
        rw [this] at f0; cases f0
      · rw [if_pos z, if_neg z1, f0]; simp
    · rw [if_neg z]
      by_cases z1 : ear q e (m0 + 1) = true
      · rw [if_pos z1, hb 1 (by omega) z1]; simp
      · rw [if_neg z1]
        have := b01 (b := wtd q e (eNd q j))
        omega
theorem ear_all (hc : BC q) (hw : WFs q) (hnb : NB q) (he : e < 32) : cnt (ear q e) (NN q) ≤ cnt (wk q e) (psS q).length + (psF q).length := by
  have key : ∀ j, j ≤ (psF q).length → cnt (ear q e) (nf q j) + cnt (ear q e) ((psS q).length + (XL q (nf q j)).length) ≤ cnt (wk q e) (nf q j) + j + cnt (ear q e) (psS q).length := by
    intro j
    induction j with
    | zero =>
      intro _
      rw [hc.2.2.2.1]
      show 0 + cnt (ear q e) (psS q).length ≤ 0 + 0 + cnt (ear q e) (psS q).length
      omega
    | succ j ih =>
      intro hj
      have h0 := ih (by omega)
      have hlt := hc.2.2.2.2.1 j (by omega)
      have h1 := ear_blk (e := e) hc hw hnb (j := j) (by omega) (eNd q j - nf q j) (by unfold eNd; omega)
      have ee : nf q j + (eNd q j - nf q j) = eNd q j := by unfold eNd; omega
      have ef : eNd q j + 1 = nf q (j + 1) := by unfold eNd; omega
      rw [ee, ef] at h1
      have h2 := ear_b2 (e := e) hc hw hnb he (j := j) (by omega)
      have h3 : (if pn q e (eNd q j) = true then 1 else 0 : Nat) ≤ (if wtd q e (eNd q j) = true then 1 else 0) := by
        unfold pn
        cases wtd q e (eNd q j)
        · simp
        · simp only [if_true]; exact b01
      omega
  have := key _ (Nat.le_refl _)
  rw [nf_ge (Nat.le_refl _)] at this
  show cnt (ear q e) ((psS q).length + (XL q (psS q).length).length) ≤ _
  omega
end MEA
