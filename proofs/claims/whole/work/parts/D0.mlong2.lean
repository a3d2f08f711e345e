/-! How long a text can be: its lines. -/
theorem numT_2 {n : Nat} (h : n < 100) : (numT n).length ≤ 2 := by
  obtain ⟨h1, h2, h3⟩ := lg_ok (n := n) (by omega)
  unfold numT; rw [dk_len]
  by_cases z : lg n ≤ 1
  · omega
  · have := h3 1 (by omega)
    omega
theorem numT_3 {n : Nat} (h : n < 1000) : (numT n).length ≤ 3 := by
  obtain ⟨h1, h2, h3⟩ := lg_ok (n := n) (by omega)
  unfold numT; rw [dk_len]
  by_cases z : lg n ≤ 2
  · omega
  · have := h3 2 (by omega)
    omega
theorem smT_le {x : SUM} (hx : SMW x) : (smT x).length ≤ 23 := by
  have od := opv_d hx
  have l1 := opT_len od.2
  unfold smT
  rcases hx with ⟨a, b, -⟩ | ⟨a, ⟨w, w1, w2⟩, -⟩
  · have l0 := opT_len b
    rw [if_neg (isO_r a)]
    simp only [List.length_append, List.length_cons, List.length_nil]
    omega
  · rw [if_pos a, w2, nI_clamp (by omega)]
    have := numT_2 (n := w) (by omega)
    unfold plT
    simp only [sx9, sx10, List.length_append, List.length_cons, List.length_nil]
    omega
theorem slT_le {q : PS} {e : Nat} (hw : WFs q) (he : e < (psM q).length) : (slT q e).length ≤ 33 := by
  have h32 := hw.2.2.2.1
  have h1 := smT_le (x := sm q e) (sm_w hw he)
  have h2 := numT_2 (n := e) (by omega)
  unfold slT
  simp only [sx7, sx8, sx11, List.length_append, List.length_cons, List.length_nil]
  omega
theorem hdT_le {b : Nat} (h : b < 1000) : (hdT b).length ≤ 6 := by
  have := numT_3 h
  unfold hdT
  simp only [sx6, List.length_append, List.length_cons, List.length_nil]
  omega
theorem ndT_le {q : PS} {l n : Nat} (hc : BC q) (hw : WFs q) (hnb : NB q) (hx : psX q = false) (hn : n < NN q) : (ndT q l n).length ≤ 40 := by
  obtain ⟨o1, o2⟩ := rg_opd hw (n := n)
  have l1 := opT_len o1
  have l2 := opT_len o2
  obtain ⟨w0, w1⟩ := rg_w hc hw hnb hn
  have tg : ∀ t, t < 48 → rT (rg q n) = nI t → tgt q n = t := fun t t1 t2 => by unfold tgt; rw [t2]; exact nI_clamp (by omega)
  have ab : ∀ w, (∃ t, t < 40 ∧ rWw (rg q n) w = nI t) → (numT (aBn q l n w)).length ≤ 3 := fun w ⟨t, t1, t2⟩ => numT_3 (by have := aB_lt (p := l) hc hw hnb hn t1 t2; omega)
  unfold ndT ndB
  rcases rg_cases hw hx hn with ⟨k0, ⟨t, t1, t2⟩, e, e1, e2⟩ | ⟨k0, ⟨t, t1, t2⟩, -⟩ | ⟨k0, ⟨t, t1, t2⟩, -⟩ | ⟨k0, k7, -⟩
  · have es : smN q n = e := by unfold smN; rw [e2]; exact nI_clamp (by have := hw.2.2.2.1; omega)
    have h32 := hw.2.2.2.1
    have h1 := smT_le (x := sm q e) (sm_w hw e1)
    have h2 := numT_2 (n := e) (by omega)
    have lt := opT_len (o := nI (1000000000 + t)) (Or.inr (Or.inr ⟨t, t1, rfl⟩))
    rw [if_pos k0, es]
    unfold gvT
    rw [tg t t1 t2]
    split
    · simp only [sx7, sx8, sx11, List.length_append, List.length_cons, List.length_nil]; omega
    · simp only [sx7, sx8, sx11, List.length_append, List.length_cons, List.length_nil]; omega
  · have lt := opT_len (o := nI (1000000000 + t)) (Or.inr (Or.inr ⟨t, t1, rfl⟩))
    rw [if_neg (by omega), if_pos k0]
    unfold gvT
    rw [tg t t1 t2]
    simp only [sx7, sx8, sx11, List.length_append, List.length_cons, List.length_nil]; omega
  · have h2 := numT_2 (n := t) (by omega)
    rw [if_neg (by omega), if_neg (by omega), if_pos k0, tg t (by omega) t2]
    unfold plT
    simp only [sx7, sx8, sx9, sx10, sx11, List.length_append, List.length_cons, List.length_nil]; omega
  · rw [if_neg (by omega), if_neg (by omega), if_neg (by omega)]
    by_cases k3 : rK (rg q n) = 3
    · rw [if_pos k3]
      simp only [sx7, sx12, sx11, List.length_append, List.length_cons, List.length_nil]; omega
    · rw [if_neg k3]
      by_cases k5 : rK (rg q n) = 5
      · have a0 := ab 0 (w0 (by omega))
        have a1 := ab 1 (w1 k5)
        rw [if_pos k5]
        simp only [sx7, sx13, sx14, sx11, List.length_append, List.length_cons, List.length_nil]; omega
      · rw [if_neg k5]
        by_cases k6 : rK (rg q n) = 6
        · rw [if_pos k6]
          simp only [sx7, sx15, sx11, List.length_append, List.length_cons, List.length_nil]; omega
        · have a0 := ab 0 (w0 (by omega))
          rw [if_neg k6]
          simp only [sx7, sx16, sx11, List.length_append, List.length_cons, List.length_nil]; omega
section MLC
variable {q : PS} {l : Nat}
/-- how often something is set ahead of the first n NODES -/
noncomputable def sF (q : PS) (l : Nat) : Nat → Nat := smS (fun n => cnt (fun e => stA q l e n) (psM q).length)
theorem seT_le (hw : WFs q) {n : Nat} : ∀ (f e : Nat), e + f = (psM q).length → (seT q l n f e).length + 33 * cnt (fun e => stA q l e n) e ≤ 33 * cnt (fun e => stA q l e n) (psM q).length := by
  intro f
  induction f with
  | zero => intro e he; rw [show e = (psM q).length by omega]; show 0 + _ ≤ _; omega
  | succ f ih =>
    intro e he
    have h1 := ih (e + 1) (by omega)
    have c : cnt (fun e => stA q l e n) (e + 1) = cnt (fun e => stA q l e n) e + (if stA q l e n = true then 1 else 0) := rfl
    rw [c] at h1
    unfold seT
    rw [List.length_append]
    by_cases z : stA q l e n = true
    · rw [if_pos z] at h1 ⊢
      have := slT_le (e := e) hw (by omega)
      omega
    · rw [if_neg z] at h1 ⊢
      rw [List.length_nil]
      omega
theorem seT_all (hw : WFs q) {n : Nat} : (seT q l n (psM q).length 0).length + 33 * sF q l n ≤ 33 * sF q l (n + 1) := by
  have := seT_le (l := l) hw (n := n) (psM q).length 0 (by omega)
  have c : sF q l (n + 1) = sF q l n + cnt (fun e => stA q l e n) (psM q).length := rfl
  rw [show cnt (fun e => stA q l e n) 0 = 0 from rfl] at this
  omega
theorem nsT_le (hc : BC q) (hw : WFs q) (hnb : NB q) (hx : psX q = false) : ∀ (k a : Nat), a + k ≤ NN q → (nsT q l a k).length + 33 * sF q l a ≤ 33 * sF q l (a + k) + 40 * k := by
  intro k
  induction k with
  | zero => intro a _; show 0 + 33 * sF q l a ≤ 33 * sF q l a + 0; omega
  | succ k ih =>
    intro a ha
    have h1 := ih (a + 1) (by omega)
    have h2 := seT_all (l := l) hw (n := a)
    have h3 := ndT_le (l := l) hc hw hnb hx (n := a) (by omega)
    have e0 : nsT q l a (k + 1) = (seT q l a (psM q).length 0 ++ ndT q l a) ++ nsT q l (a + 1) k := rfl
    rw [e0, List.length_append, List.length_append]
    rw [show a + 1 + k = a + (k + 1) by omega] at h1
    omega
theorem bkT_le (hc : BC q) (hw : WFs q) (hnb : NB q) (hx : psX q = false) : ∀ (f j : Nat), j + f = (psF q).length → (bkT q l f j).length + 33 * sF q l (nf q j) + 40 * nf q j ≤ 33 * sF q l (psS q).length + 40 * (psS q).length + 6 * f := by
  have h40 := hc.2.1
  intro f
  induction f with
  | zero =>
    intro j hj
    rw [nf_ge (by omega)]
    show 0 + 33 * sF q l (psS q).length + _ ≤ _
    omega
  | succ f ih =>
    intro j hj
    have h1 := ih (j + 1) (by omega)
    have hlt := hc.2.2.2.2.1 j (by omega)
    have hle := nf_le hc (j := j + 1) (by omega)
    have h2 := nsT_le (l := l) hc hw hnb hx (nf q (j + 1) - nf q j) (nf q j) (by unfold NN; omega)
    rw [show nf q j + (nf q (j + 1) - nf q j) = nf q (j + 1) by omega] at h2
    have h3 := hdT_le (b := j) (by omega)
    have e0 : bkT q l (f + 1) j = (hdT j ++ nsT q l (nf q j) (nf q (j + 1) - nf q j)) ++ bkT q l f (j + 1) := rfl
    rw [e0, List.length_append, List.length_append]
    omega
theorem owT_le (hc : BC q) (hw : WFs q) (hnb : NB q) (hx : psX q = false) : ∀ (f n : Nat), n + f = NN q → (psS q).length ≤ n → (owT q l f n).length + 33 * sF q l n ≤ 33 * sF q l (NN q) + 46 * f := by
  intro f
  induction f with
  | zero =>
    intro n hn _
    rw [show n = NN q by omega]
    show 0 + 33 * sF q l (NN q) ≤ _
    omega
  | succ f ih =>
    intro n hn hs
    have h1 := ih (n + 1) (by omega) (by omega)
    have h2 := seT_all (l := l) hw (n := n)
    have h3 := ndT_le (l := l) hc hw hnb hx (n := n) (by omega)
    show (owB q l n ++ owT q l f (n + 1)).length + _ ≤ _
    rw [List.length_append]
    unfold owB
    cases hy : own q l n with
    | none =>
      show 0 + _ + _ ≤ _
      omega
    | some y =>
      have hyl := own_lt hc hy hs (by omega)
      have h4 := hdT_le (b := y) (by omega)
      show (hdT y ++ seT q l n (psM q).length 0 ++ ndT q l n).length + _ + _ ≤ _
      rw [List.length_append, List.length_append]
      omega
theorem wk_1 (hw : WFs q) : smS (fun e => cnt (wk q e) (psS q).length) (psM q).length ≤ (psS q).length := by
  have h32 := hw.2.2.2.1
  have h1 := smS_swap (s := fun e n => wk q e n) (N := (psS q).length) (psM q).length
  have h2 := smS_le (f := fun n => cnt (fun e => wk q e n) (psM q).length) (g := fun _ => 1) (psS q).length fun i hi => cnt_u _ fun a b ha hb h1 h2 => by
    have h1 := of_decide_eq_true h1
    have h2 := of_decide_eq_true h2
    exact nI_inj (by omega) (by omega) (h1.symm.trans h2)
  rw [smS_c] at h2
  rw [show smS (fun e => cnt (wk q e) (psS q).length) (psM q).length = smS (fun n => cnt (fun e => wk q e n) (psM q).length) (psS q).length from h1.symm]
  omega
theorem sF_le (hc : BC q) (hw : WFs q) (hnb : NB q) (hr : ∀ i, i < (psF q).length → Rch q i) : sF q l (NN q) ≤ 1472 := by
  have h32 := hw.2.2.2.1
  have h40 := hc.2.1
  have h160 := hc.2.2.1
  have h1 : sF q l (NN q) = smS (fun e => cnt (stA q l e) (NN q)) (psM q).length := smS_swap (s := fun e n => stA q l e n) (N := NN q) (psM q).length
  have one : ∀ e, e < (psM q).length → cnt (stA q l e) (NN q) ≤ cnt (wk q e) (psS q).length + 41 := fun e he => by
    unfold stA
    by_cases z1 : l = 1
    · simp only [if_pos z1]
      have := ear_all (e := e) hc hw hnb (by omega)
      have ee : (fun n => ear q e n) = ear q e := rfl
      rw [ee]; omega
    · simp only [if_neg z1]
      by_cases z2 : l = 2
      · simp only [if_pos z2]
        have h2 := lst_all (e := e) hc hw hnb (by omega) hr
        have h3 := cnt_mono (f := fun n => lst q e n && !alo q e n) (g := lst q e) (n := NN q) fun i _ hi => by
          have hi : (lst q e i && !alo q e i) = true := hi
          rw [Bool.and_eq_true] at hi; exact hi.1
        omega
      · simp only [if_neg z2]
        rw [cnt_0 _ fun i _ => rfl]; omega
  have h2 := smS_le (psM q).length one
  rw [smS_add, smS_c] at h2
  have h3 := wk_1 hw
  rw [h1]
  omega
theorem fuT_le (hc : BC q) (hw : WFs q) (hnb : NB q) (hx : psX q = false) (hr : ∀ i, i < (psF q).length → Rch q i) : (fuT q l).length + 11 ≤ 60000 := by
  have h40 := hc.2.1
  have h160 := hc.2.2.1
  have h80 := XL_le hc (Nat.le_refl (psS q).length)
  have h1 := bkT_le (l := l) hc hw hnb hx (psF q).length 0 (by omega)
  have h2 := owT_le (l := l) hc hw hnb hx (NN q - (psS q).length) (psS q).length (by unfold NN; omega) (Nat.le_refl _)
  have h3 := sF_le (l := l) hc hw hnb hr
  have h4 : NN q - (psS q).length ≤ 80 := by unfold NN; omega
  unfold fuT
  rw [List.length_append]
  omega
end MLC
