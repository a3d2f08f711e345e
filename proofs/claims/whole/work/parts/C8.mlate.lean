/-! How often a SUM is LATEST. -/
theorem cntW_1 {q : PS} {t w j : Nat} (h : wy q w j = some t) (hw2 : w < 2) : ∀ n, j < n → 1 ≤ cntW q t n := by
  intro n
  induction n with
  | zero => intro h; omega
  | succ n ih =>
    intro hj
    show 1 ≤ cntW q t n + ((if wy q 0 n = some t then 1 else 0) + (if wy q 1 n = some t then 1 else 0))
    by_cases e : j = n
    · subst e
      rcases (show w = 0 ∨ w = 1 by omega) with rfl | rfl
      · rw [if_pos h]; omega
      · rw [if_pos h]; omega
    · have := ih (by omega); omega
theorem cntW_2 {q : PS} {t w j w' i : Nat} (h : wy q w j = some t) (hw2 : w < 2) (h' : wy q w' i = some t) (hw2' : w' < 2) (hne : ¬ (j = i ∧ w = w')) : ∀ n, j < n → i < n → 2 ≤ cntW q t n := by
  intro n
  induction n with
  | zero => intro h; omega
  | succ n ih =>
    intro hj hi
    show 2 ≤ cntW q t n + ((if wy q 0 n = some t then 1 else 0) + (if wy q 1 n = some t then 1 else 0))
    by_cases e : j = n
    · by_cases e' : i = n
      · have a0 : wy q 0 n = some t := by
          rcases (show w = 0 ∨ w' = 0 by omega) with z | z
          · rw [z, e] at h; exact h
          · rw [z, e'] at h'; exact h'
        have a1 : wy q 1 n = some t := by
          rcases (show w = 1 ∨ w' = 1 by omega) with z | z
          · rw [z, e] at h; exact h
          · rw [z, e'] at h'; exact h'
        rw [if_pos a0, if_pos a1]; omega
      · have := cntW_1 h' hw2' n (by omega)
        subst e
        rcases (show w = 0 ∨ w = 1 by omega) with rfl | rfl
        · rw [if_pos h]; omega
        · rw [if_pos h]; omega
    · by_cases e' : i = n
      · have := cntW_1 h hw2 n (by omega)
        subst e'
        rcases (show w' = 0 ∨ w' = 1 by omega) with rfl | rfl
        · rw [if_pos h']; omega
        · rw [if_pos h']; omega
      · have := ih (by omega) (by omega); omega
theorem pred_nf {q : PS} (hc : BC q) (hw : WFs q) (hnb : NB q) {t a : Nat} (ht : t < (psF q).length) (ha : a < NN q) (h : lto q a (nf q t)) : ∃ i w, i < (psF q).length ∧ w < 2 ∧ wy q w i = some t ∧ ((a = eNd q i ∧ ld q w (eNd q i) = some (nf q t)) ∨ ((psS q).length ≤ a ∧ ld q w (eNd q i) = some a)) := by
  obtain ⟨w, hw2, hl⟩ := lto_w h
  have hn0 := nf_0 hc ht
  rcases ld_cs hc hw hnb hw2 hl with ⟨a1, a2, e, _⟩ | ⟨i, t', i1, i2, i3, t1, _, (⟨e, _⟩ | ⟨_, _, s, s1, e, _⟩)⟩ | ⟨e1, _, e⟩
  · obtain ⟨j, j1, j2, j3⟩ := blk_ex hc a1
    have := (hc.2.2.2.2.2 j j1 a j2 j3).2
    exfalso
    by_cases z : a + 1 = nf q (j + 1)
    · have := this.mpr z; omega
    · by_cases y : t ≤ j
      · have := nf_le2 hc y (by omega); omega
      · have := nf_le2 hc (i := j + 1) (j := t) (by omega) (by omega); omega
  · have := nf_ij hc ht t1 e
    subst this
    exact ⟨i, w, i1, hw2, i3, Or.inl ⟨i2, by rw [← i2]; exact hl⟩⟩
  · omega
  · have := nf_ij hc ht (XL_at hc hw hnb e1 ha) e
    obtain ⟨i, w', t', i1, i2, i3, i4, i5⟩ := bt_of hc hw hnb e1 ha
    exact ⟨i, w', i1, i2, by rw [i3, ← i5, ← this], Or.inr ⟨e1, i4⟩⟩
theorem pigeon : ∀ (k : Nat) (l : List Nat), (∀ t, t < k → t ∈ l) → k ≤ l.length := by
  intro k
  induction k with
  | zero => intro l _; omega
  | succ k ih =>
    intro l h
    have hk := h k (by omega)
    have := ih (l.erase k) (fun t ht => (List.mem_erase_of_ne (by omega)).mpr (h t (by omega)))
    rw [List.length_erase_of_mem hk] at this
    have := List.length_pos_of_mem hk
    omega
section MLA
variable {q : PS} {e : Nat}
theorem dl_is {n : Nat} (hn : n < NN q) : dly q e n = true ↔ dlF q e (dly q e) n := gf_fix (dl_m e) hn
theorem lst_t {n : Nat} : lst q e n = true ↔ dly q e n = true ∧ (wk q e n = true ∨ ¬ alN q (dly q e) n = true) := by
  unfold lst
  rw [Bool.and_eq_true, Bool.or_eq_true, Bool.not_eq_true', Bool.not_eq_true]
theorem lst_in (hc : BC q) (hw : WFs q) (hnb : NB q) {j n : Nat} (hj : j < (psF q).length) (h1 : nf q j ≤ n) (h2 : n + 1 < nf q (j + 1)) (h : lst q e n = true) : wk q e n = true := by
  refine Classical.byContradiction fun hk => ?_
  obtain ⟨d, z⟩ := lst_t.mp h
  have h3 := nf_le hc (j := j + 1) (by omega)
  have hn : n + 1 < NN q := by unfold NN; omega
  refine (z.resolve_left hk) ?_
  obtain ⟨l0, l1⟩ := ld_4 (q := q) (n := n) (by omega) (mid_k4 hc hj h1 h2)
  unfold alN
  rw [l0, l1]
  have : dly q e (n + 1) = true := (dl_is hn).mpr (Or.inr ⟨by omega, fun a a1 a2 => by
    have := pred_in hc hw hnb hj (by omega) h2 a1 a2
    rw [show a = n by omega, d]
    rw [Bool.not_eq_true] at hk
    rw [hk]; rfl⟩)
  show (dly q e (n + 1) && true) = true
  rw [this]; rfl
theorem lst_blk (hc : BC q) (hw : WFs q) (hnb : NB q) {j : Nat} (hj : j < (psF q).length) : ∀ k, nf q j + k < nf q (j + 1) → cnt (lst q e) (nf q j + k) + cnt (wk q e) (nf q j) ≤ cnt (lst q e) (nf q j) + cnt (wk q e) (nf q j + k) := by
  intro k
  induction k with
  | zero => intro _; show cnt (lst q e) (nf q j) + _ ≤ _ + cnt (wk q e) (nf q j); omega
  | succ k ih =>
    intro hk
    have h1 := ih (by omega)
    show cnt (lst q e) (nf q j + k) + (if lst q e (nf q j + k) = true then 1 else 0) + _ ≤ _ + (cnt (wk q e) (nf q j + k) + (if wk q e (nf q j + k) = true then 1 else 0))
    by_cases z : lst q e (nf q j + k) = true
    · rw [if_pos z, if_pos (lst_in hc hw hnb hj (by omega) (by omega) z)]; omega
    · rw [if_neg z]; omega
/-- an end that tests is never LATEST -/
theorem lst_if (hc : BC q) (hw : WFs q) (hnb : NB q) (he : e < 32) {j : Nat} (hj : j < (psF q).length) (k5 : rK (eR q j) = 5) : lst q e (eNd q j) = false := by
  obtain ⟨n1, n2, n3, n4, n5, n6, n7⟩ := end_no hc hw hj
  refine Bool.eq_false_iff.mpr fun h => ?_
  obtain ⟨d, z⟩ := lst_t.mp h
  have hk := n5 e he
  refine z.elim (fun y => by rw [hk] at y; cases y) fun y => y ?_
  have hnN : eNd q j < NN q := by unfold NN; omega
  have wayD : ∀ w t x, w < 2 → wy q w j = some t → ld q w (eNd q j) = some x → dly q e x = true := fun w t x hw2 ht hx => by
    have hxN := ld_lt hc hw hnb hnN hx
    have dk : (dly q e (eNd q j) && !wk q e (eNd q j)) = true := by rw [d, hk]; rfl
    rcases ld_cs hc hw hnb hw2 hx with ⟨_, a2, _⟩ | ⟨i, t', i1, i2, i3, t1, t2, (⟨e1, e2⟩ | ⟨_, _, s, s1, e1, _⟩)⟩ | ⟨e1, _⟩
    · have : 4 ≤ rK (rr q (eNd q j)) := n3
      omega
    · have nm : ¬ many q t' = true := fun y => e2 ⟨k5, y⟩
      have n0 : nf q t' ≠ 0 := by
        have := nf_up hc t' 0 (by omega) (by omega)
        rw [Nat.zero_add] at this
        omega
      rw [e1]
      refine (dl_is (by rw [← e1]; exact hxN)).mpr (Or.inr ⟨n0, fun a a1 a2 => ?_⟩)
      obtain ⟨i', w', b1, b2, b3, b4⟩ := pred_nf hc hw hnb t1 a1 a2
      have same : i = i' ∧ w = w' := Classical.byContradiction fun y => nm (decide_eq_true (cntW_2 i3 hw2 b3 b2 y _ i1 b1))
      obtain ⟨s1, s2⟩ := same
      subst s1; subst s2
      rcases b4 with ⟨b4, -⟩ | ⟨b4, b5⟩
      · rw [b4, ← i2]; exact dk
      · rw [← i2, hx] at b5
        have := nf_0 hc t1
        have := Option.some.inj b5
        omega
    · refine (dl_is hxN).mpr (Or.inr ⟨by omega, fun a a1 a2 => ?_⟩)
      rw [e1] at a2
      rw [pred_bt hc hw hnb s1 a1 a2]; exact dk
    · omega
  obtain ⟨e1, e2, e3, e4, e5, e6, e7, e8, e9, e10, e11, -⟩ := end_w hc hw hj
  obtain ⟨t0, h0⟩ := Option.isSome_iff_exists.mp (e11 k5).1
  obtain ⟨t1, h1⟩ := Option.isSome_iff_exists.mp (e11 k5).2
  obtain ⟨_, x0, a1, -⟩ := hop hc hw hnb hj (by omega : 0 < 2) h0
  obtain ⟨_, x1, b1, -⟩ := hop hc hw hnb hj (by omega : 1 < 2) h1
  unfold alN
  rw [a1, b1]
  show (dly q e x0 && dly q e x1) = true
  rw [wayD 0 t0 x0 (by omega) h0 a1, wayD 1 t1 x1 (by omega) h1 b1]; rfl
/-- the NODE at whose end a way is -/
def car (q : PS) (w j : Nat) : Nat := match ld q w (eNd q j) with | some x => if (psS q).length ≤ x then x else eNd q j | none => eNd q j
noncomputable def gl1 (q : PS) (e w j : Nat) : List Nat := match wy q w j with | some t => if lst q e (car q w j) = true then [] else [t] | none => []
noncomputable def glA (q : PS) (e : Nat) : Nat → List Nat
  | 0 => []
  | j + 1 => glA q e j ++ (gl1 q e 0 j ++ gl1 q e 1 j)
theorem gl1_in {w j t n : Nat} (hj : j < n) (hw2 : w < 2) (h : t ∈ gl1 q e w j) : t ∈ glA q e n := by
  induction n with
  | zero => omega
  | succ n ih =>
    show t ∈ glA q e n ++ (gl1 q e 0 n ++ gl1 q e 1 n)
    by_cases z : j = n
    · subst z
      rcases (show w = 0 ∨ w = 1 by omega) with rfl | rfl
      · exact List.mem_append.mpr (Or.inr (List.mem_append.mpr (Or.inl h)))
      · exact List.mem_append.mpr (Or.inr (List.mem_append.mpr (Or.inr h)))
    · exact List.mem_append.mpr (Or.inl (ih (by omega)))
theorem gl1_m {w j t : Nat} (h : wy q w j = some t) (hl : lst q e (car q w j) = false) : t ∈ gl1 q e w j := by
  unfold gl1; rw [h]
  simp only [hl]
  simp
theorem gl_all (hc : BC q) (hw : WFs q) (hnb : NB q) (he : e < 32) (hr : ∀ i, i < (psF q).length → Rch q i) {t : Nat} (ht : t < (psF q).length) (h0 : t ≠ 0) : t ∈ glA q e (psF q).length := by
  have hn0 := nf_0 hc ht
  have hnN : nf q t < NN q := by unfold NN; omega
  have n0 : nf q t ≠ 0 := by
    have := nf_up hc t 0 (by omega) (by omega)
    rw [Nat.zero_add] at this
    omega
  have wk0 : ∀ i (_w : Nat) a, i < (psF q).length → (a = eNd q i ∨ (psS q).length ≤ a) → wk q e a = false := fun i _ a hi ha => by
    rcases ha with ha | ha
    · rw [ha]; exact (end_no hc hw hi).2.2.2.2.1 e he
    · exact wk_way he ha
  by_cases hd : dly q e (nf q t) = true
  · have hP := hr t ht (fun j => j < (psF q).length ∧ (j = 0 ∨ ∃ i, i < (psF q).length ∧ wyB q i j)) ⟨by omega, Or.inl rfl⟩ (fun a i ⟨p1, _⟩ p3 => ⟨NB_lt hnb p1 p3, Or.inr ⟨a, p1, p3⟩⟩)
    obtain ⟨-, hP⟩ := hP
    obtain ⟨i, i1, i2⟩ := hP.resolve_left h0
    have : ∃ w, w < 2 ∧ wy q w i = some t := by
      rcases i2 with h | h
      · exact ⟨0, by omega, h⟩
      · exact ⟨1, by omega, h⟩
    obtain ⟨w, w1, w2⟩ := this
    obtain ⟨_, x, x1, x2, x3⟩ := hop hc hw hnb i1 w1 w2
    refine gl1_in i1 w1 (gl1_m w2 ?_)
    unfold car
    rw [x1]
    show lst q e (if (psS q).length ≤ x then x else eNd q i) = false
    rcases x3 with ⟨x3, x4⟩ | ⟨x3, x4⟩
    · rw [if_neg (by omega)]
      by_cases k5 : rK (eR q i) = 5
      · exact lst_if hc hw hnb he i1 k5
      · obtain ⟨e1, e2, e3, e4, e5, e6, e7, e8, e9, e10, e11, e12⟩ := end_w hc hw i1
        have k4 : rK (eR q i) = 4 := by
          by_cases k6 : rK (eR q i) = 6
          · have := e12 k6
            rcases (show w = 0 ∨ w = 1 by omega) with rfl | rfl
            · rw [this.1] at w2; cases w2
            · rw [this.2] at w2; cases w2
          · omega
        have w0 : w = 0 := by
          rcases (show w = 0 ∨ w = 1 by omega) with h | h
          · exact h
          · rw [h, (e10 k4).2] at w2; cases w2
        subst w0
        have l1 := ld_wy0 hc hw i1 (by omega : 1 < 2) (e10 k4).2
        refine Bool.eq_false_iff.mpr fun z => ?_
        obtain ⟨_, z⟩ := lst_t.mp z
        refine z.elim (fun y => by rw [wk0 i 0 _ i1 (Or.inl rfl)] at y; cases y) fun y => y ?_
        unfold alN
        rw [x1, l1]
        show (dly q e x && true) = true
        rw [x3, hd]; rfl
    · rw [if_pos x3]
      refine Bool.eq_false_iff.mpr fun z => ?_
      obtain ⟨_, z⟩ := lst_t.mp z
      refine z.elim (fun y => by rw [wk0 i 0 _ i1 (Or.inr x3)] at y; cases y) fun y => y ?_
      have l1 : ld q 1 x = none := by unfold ld; rw [if_neg (by omega), if_neg (by omega)]
      unfold alN
      rw [x4, l1]
      show (dly q e (nf q t) && true) = true
      rw [hd]; rfl
  · have hno : ¬ dlF q e (dly q e) (nf q t) := fun z => hd ((dl_is hnN).mpr z)
    have : ∃ a, a < NN q ∧ lto q a (nf q t) ∧ ¬ (dly q e a && !wk q e a) = true := Classical.byContradiction fun z => hno (Or.inr ⟨n0, fun a a1 a2 => Classical.byContradiction fun y => z ⟨a, a1, a2, y⟩⟩)
    obtain ⟨a, a1, a2, a3⟩ := this
    obtain ⟨i, w, i1, i2, i3, i4⟩ := pred_nf hc hw hnb ht a1 a2
    have ec : car q w i = a := by
      unfold car
      rcases i4 with ⟨i4, i5⟩ | ⟨i4, i5⟩
      · rw [i5]
        show (if (psS q).length ≤ nf q t then nf q t else eNd q i) = a
        rw [if_neg (by omega)]; exact i4.symm
      · rw [i5]
        show (if (psS q).length ≤ a then a else eNd q i) = a
        rw [if_pos i4]
    refine gl1_in i1 i2 (gl1_m i3 ?_)
    rw [ec]
    have hk := wk0 i w a i1 (i4.imp (fun z => z.1) (fun z => z.1))
    rw [hk] at a3
    refine Bool.eq_false_iff.mpr fun z => a3 ?_
    rw [(lst_t.mp z).1]; rfl
end MLA
