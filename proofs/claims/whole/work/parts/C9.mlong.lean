/-! How long a text can be. -/
section MLB
variable {q : PS} {e : Nat}
theorem gl1_1 {w j t : Nat} (h : wy q w j = some t) : (gl1 q e w j).length + (if lst q e (car q w j) = true then 1 else 0) = 1 := by
  unfold gl1; rw [h]
  by_cases z : lst q e (car q w j) = true
  · simp [z]
  · simp [z]
theorem gl1_0 {w j : Nat} (h : wy q w j = none) : (gl1 q e w j).length = 0 := by unfold gl1; rw [h]; rfl
theorem gl1_le {w j : Nat} : (gl1 q e w j).length ≤ 1 := by
  cases h : wy q w j with
  | none => rw [gl1_0 h]; omega
  | some t => have := gl1_1 (e := e) h; omega
theorem lst_b2 (hc : BC q) (hw : WFs q) (hnb : NB q) (he : e < 32) {j : Nat} (hj : j < (psF q).length) : cnt (lst q e) ((psS q).length + (XL q (nf q (j + 1))).length) + (if lst q e (eNd q j) = true then 1 else 0) + ((gl1 q e 0 j).length + (gl1 q e 1 j).length) ≤ cnt (lst q e) ((psS q).length + (XL q (nf q j)).length) + 2 := by
  obtain ⟨e1, e2, e3, e4, e5, e6, e7, e8, e9, e10, e11, e12⟩ := end_w hc hw hj
  obtain ⟨x1, x2⟩ := XL_e hc hj
  have n1 : eNd q j < (psS q).length := e3
  have b0 := b01 (b := lst q e (eNd q j))
  have g0 := gl1_le (q := q) (e := e) (w := 0) (j := j)
  have g1 := gl1_le (q := q) (e := e) (w := 1) (j := j)
  rw [x2, List.length_append]
  have xs0 : rK (rr q (eNd q j)) ≠ 5 → (xs q (eNd q j)).length = 0 := fun h => by unfold xs; rw [if_neg h]; rfl
  rcases (show rK (eR q j) = 4 ∨ rK (eR q j) = 5 ∨ rK (eR q j) = 6 by omega) with k | k | k
  · rw [xs0 (by show rK (eR q j) ≠ 5; omega), Nat.add_zero]
    obtain ⟨t, ht⟩ := Option.isSome_iff_exists.mp (e10 k).1
    rw [gl1_0 (e10 k).2]
    obtain ⟨t1, x, y1, y2, y3⟩ := hop hc hw hnb hj (by omega : 0 < 2) ht
    obtain ⟨l0, -⟩ := ld_e (q := q) n1 (show 4 ≤ rK (eR q j) by omega)
    rw [show wr q 0 (eNd q j) = some t from ht] at l0
    have l2 : ld q 0 (eNd q j) = some (nf q t) := l0.trans (if_neg (fun z => by have : rK (eR q j) = 5 := z.1; omega))
    have hn0 := nf_0 hc t1
    have ec : car q 0 j = eNd q j := by
      unfold car; rw [l2]
      show (if (psS q).length ≤ nf q t then nf q t else eNd q j) = eNd q j
      rw [if_neg (by omega)]
    have := gl1_1 (e := e) ht
    rw [ec] at this
    omega
  · rw [lst_if hc hw hnb he hj k]
    obtain ⟨t0, h0⟩ := Option.isSome_iff_exists.mp (e11 k).1
    obtain ⟨t1, h1⟩ := Option.isSome_iff_exists.mp (e11 k).2
    have k5 : rK (rr q (eNd q j)) = 5 := k
    have r0 : wr q 0 (eNd q j) = some t0 := h0
    have r1 : wr q 1 (eNd q j) = some t1 := h1
    have x5 := xs_5 k5 r0 r1
    obtain ⟨l0, l1⟩ := ld_e (q := q) n1 (by omega : 4 ≤ rK (rr q (eNd q j)))
    rw [r0] at l0
    rw [r1, r0] at l1
    rw [← Nat.add_assoc (psS q).length]
    have cr : ∀ w r, ld q w (eNd q j) = some ((psS q).length + (XL q (eNd q j)).length + r) → car q w j = (psS q).length + (XL q (nf q j)).length + r := fun w r h => by
      unfold car; rw [h, x1]
      show (if (psS q).length ≤ (psS q).length + (XL q (nf q j)).length + r then _ else _) = _
      rw [if_pos (by omega)]
    have G0 := gl1_1 (e := e) h0
    have G1 := gl1_1 (e := e) h1
    simp only [Bool.false_eq_true, if_false]
    generalize hm : (psS q).length + (XL q (nf q j)).length = m0 at cr
    by_cases m0' : many q t0 = true
    · have c0 := cr 0 0 (l0.trans (ldW_m k5 m0'))
      rw [c0] at G0
      replace G0 : (gl1 q e 0 j).length + (if lst q e m0 = true then 1 else 0) = 1 := G0
      by_cases m1' : many q t1 = true
      · have en : nW q (eNd q j) (some t0) = 1 := if_pos m0'
        have c1 := cr 1 1 (by rw [l1, ldW_m k5 m1', en])
        rw [c1] at G1
        have E : cnt (lst q e) (m0 + ([t0] ++ [t1]).length) = cnt (lst q e) m0 + (if lst q e m0 = true then 1 else 0) + (if lst q e (m0 + 1) = true then 1 else 0) := rfl
        rw [x5, if_pos m0', if_pos m1', E]
        omega
      · have E : cnt (lst q e) (m0 + ([t0] ++ []).length) = cnt (lst q e) m0 + (if lst q e m0 = true then 1 else 0) := rfl
        rw [x5, if_pos m0', if_neg m1', E]
        omega
    · by_cases m1' : many q t1 = true
      · have en : nW q (eNd q j) (some t0) = 0 := if_neg m0'
        have c1 := cr 1 0 (by rw [l1, ldW_m k5 m1', en])
        rw [c1] at G1
        replace G1 : (gl1 q e 1 j).length + (if lst q e m0 = true then 1 else 0) = 1 := G1
        have E : cnt (lst q e) (m0 + ([] ++ [t1]).length) = cnt (lst q e) m0 + (if lst q e m0 = true then 1 else 0) := rfl
        rw [x5, if_neg m0', if_pos m1', E]
        omega
      · have E : cnt (lst q e) (m0 + (([] : List Nat) ++ []).length) = cnt (lst q e) m0 := rfl
        rw [x5, if_neg m0', if_neg m1', E]
        omega
  · rw [xs0 (by show rK (eR q j) ≠ 5; omega), Nat.add_zero, gl1_0 (e12 k).1, gl1_0 (e12 k).2]
    omega
theorem lst_all (hc : BC q) (hw : WFs q) (hnb : NB q) (he : e < 32) (hr : ∀ i, i < (psF q).length → Rch q i) : cnt (lst q e) (NN q) ≤ cnt (wk q e) (psS q).length + (psF q).length + 1 := by
  have key : ∀ j, j ≤ (psF q).length → cnt (lst q e) (nf q j) + cnt (lst q e) ((psS q).length + (XL q (nf q j)).length) + (glA q e j).length ≤ cnt (wk q e) (nf q j) + 2 * j + cnt (lst q e) (psS q).length := by
    intro j
    induction j with
    | zero =>
      intro _
      rw [hc.2.2.2.1]
      show 0 + cnt (lst q e) (psS q).length + 0 ≤ 0 + 0 + cnt (lst q e) (psS q).length
      omega
    | succ j ih =>
      intro hj
      have h0 := ih (by omega)
      have hlt := hc.2.2.2.2.1 j (by omega)
      have h1 := lst_blk (e := e) hc hw hnb (j := j) (by omega) (eNd q j - nf q j) (by unfold eNd; omega)
      have ee : nf q j + (eNd q j - nf q j) = eNd q j := by unfold eNd; omega
      have ef : nf q (j + 1) = eNd q j + 1 := by unfold eNd; omega
      rw [ee] at h1
      have h2 := lst_b2 (e := e) hc hw hnb he (j := j) (by omega)
      have c1 : cnt (lst q e) (nf q (j + 1)) = cnt (lst q e) (eNd q j) + (if lst q e (eNd q j) = true then 1 else 0) := by rw [ef]; rfl
      have c2 : cnt (wk q e) (eNd q j) ≤ cnt (wk q e) (nf q (j + 1)) := by
        rw [ef]
        show _ ≤ cnt (wk q e) (eNd q j) + _
        omega
      have c3 : (glA q e (j + 1)).length = (glA q e j).length + ((gl1 q e 0 j).length + (gl1 q e 1 j).length) := by
        show (glA q e j ++ (gl1 q e 0 j ++ gl1 q e 1 j)).length = _
        rw [List.length_append, List.length_append]
      omega
  have h1 := key _ (Nat.le_refl _)
  rw [nf_ge (Nat.le_refl _)] at h1
  have h2 := pigeon (psF q).length (0 :: glA q e (psF q).length) (fun t ht => by
    by_cases z : t = 0
    · rw [z]; exact List.mem_cons_self
    · exact List.mem_cons_of_mem _ (gl_all hc hw hnb he hr ht z))
  rw [List.length_cons] at h2
  show cnt (lst q e) ((psS q).length + (XL q (psS q).length).length) ≤ _
  omega
end MLB
/-- sums over NODES or SUMS -/
def smS (f : Nat → Nat) : Nat → Nat
  | 0 => 0
  | n + 1 => smS f n + f n
theorem smS_add {f g : Nat → Nat} : ∀ n, smS (fun i => f i + g i) n = smS f n + smS g n
  | 0 => rfl
  | n + 1 => by show smS _ n + (f n + g n) = smS f n + f n + (smS g n + g n); rw [smS_add n]; omega
theorem smS_0 : ∀ n, smS (fun _ => 0) n = 0
  | 0 => rfl
  | n + 1 => by show smS _ n + 0 = 0; rw [smS_0 n]
theorem smS_cnt {f : Nat → Bool} : ∀ n, smS (fun i => if f i = true then 1 else 0) n = cnt f n
  | 0 => rfl
  | n + 1 => by show smS _ n + _ = cnt f n + _; rw [smS_cnt n]
theorem smS_le {f g : Nat → Nat} : ∀ n, (∀ i, i < n → f i ≤ g i) → smS f n ≤ smS g n
  | 0, _ => Nat.le_refl _
  | n + 1, h => by
    have h1 := smS_le n fun i hi => h i (by omega)
    have h2 := h n (by omega)
    show smS f n + f n ≤ smS g n + g n
    omega
theorem smS_c {c : Nat} : ∀ n, smS (fun _ => c) n = c * n
  | 0 => rfl
  | n + 1 => by show smS _ n + c = _; rw [smS_c n, Nat.mul_succ]
theorem smS_swap {s : Nat → Nat → Bool} {N : Nat} : ∀ M, smS (fun n => cnt (fun e => s e n) M) N = smS (fun e => cnt (fun n => s e n) N) M
  | 0 => smS_0 N
  | M + 1 => by
    show smS (fun n => cnt (fun e => s e n) M + (if s M n = true then 1 else 0)) N = smS _ M + cnt (fun n => s M n) N
    rw [smS_add, smS_swap M, smS_cnt]
theorem cnt_0 {f : Nat → Bool} : ∀ n, (∀ i, i < n → f i = false) → cnt f n = 0
  | 0, _ => rfl
  | n + 1, h => by show cnt f n + _ = 0; rw [cnt_0 n fun i hi => h i (by omega), h n (by omega)]; rfl
theorem cnt_u {f : Nat → Bool} : ∀ n, (∀ i j, i < n → j < n → f i = true → f j = true → i = j) → cnt f n ≤ 1
  | 0, _ => by show 0 ≤ 1; omega
  | n + 1, h => by
    show cnt f n + (if f n = true then 1 else 0) ≤ 1
    by_cases z : f n = true
    · rw [if_pos z, cnt_0 n fun i hi => Bool.eq_false_iff.mpr fun y => by have := h i n (by omega) (by omega) y z; omega]
      omega
    · rw [if_neg z]; exact cnt_u n fun i j hi hj => h i j (by omega) (by omega)
