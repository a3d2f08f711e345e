/-! The class: NODES are linked. -/
def RowS (σ : HS) (b i : Nat) (r : REC) : Prop := sI σ (b + 1) i = nI (rK r) ∧ sI σ (b + 2) i = nI (rB r) ∧ sI σ (b + 3) i = rT r ∧ sI σ (b + 5) i = rO0 r ∧ sI σ (b + 6) i = rO1 r ∧ sI σ (b + 7) i = rS r ∧ sI σ (b + 9) i = rW0 r ∧ sI σ (b + 10) i = rW1 r
/-- what addOnTheWay may change -/
def OF (b n : Nat) (σ σ' : HS) : Prop := sL σ' = sL σ ∧ sR σ' = sR σ ∧ sN σ' = sN σ ∧ ∀ h i, ¬ ((h = b ∧ i = 14) ∨ (b + 1 ≤ h ∧ h ≤ b + 13 ∧ i = n)) → sI σ' h i = sI σ h i
theorem OF.rf {b n : Nat} {σ : HS} : OF b n σ σ := ⟨rfl, rfl, rfl, fun _ _ _ => rfl⟩
theorem OF.uI {b n : Nat} {σ σ' : HS} {h i : Nat} {v : Int32} (k : OF b n σ σ') (hh : (h = b ∧ i = 14) ∨ (b + 1 ≤ h ∧ h ≤ b + 13 ∧ i = n)) : OF b n σ (uI σ' h i v) := by
  refine ⟨k.1, k.2.1, k.2.2.1, fun a c q => ?_⟩
  rw [sI_uI, if_neg (by rintro ⟨rfl, rfl⟩; exact q hh)]
  exact k.2.2.2 a c q
def OW (b n t f : Nat) (σ σ' : HS) : Prop := OF b n σ σ' ∧ sI σ' b 14 = nI (n + 1) ∧ RowS σ' b n (7, t, -1, nI 0, nI 0, -1, nI t, -1, 0, 0) ∧ sI σ' (b + 12) n = nI f ∧ sI σ' (b + 13) n = -1
theorem z2_onWayV {g : GG} {σ : HS} {b : Nat} (hb : RB σ b) {n t f : Nat} (hn : n < 240) (hN : sI σ b 14 = nI n) (ht : t < 40) (hf : sI σ (b + 15) t = nI f) : CT g mX2_addOnTheWay 2 0 0 [.ref b, .int (nI t)] σ (WQ (.int (nI n)) (fun σ' => OW b n t f σ σ')) := by
  refine CT.mono ?_ (z2_onWay hb hn hN ht hf)
  rintro r σ' ⟨rfl, rfl⟩
  refine ⟨rfl, ((((((((((((OF.rf.uI (by omega)).uI (by omega)).uI (by omega)).uI (by omega)).uI (by omega)).uI (by omega)).uI (by omega)).uI (by omega)).uI (by omega)).uI (by omega)).uI (by omega)).uI (by omega)).uI (by omega), ?_, ⟨?_, ?_, ?_, ?_, ?_, ?_, ?_, ?_⟩, ?_, ?_⟩
  all_goals simp only [sI_uI, Nat.add_right_cancel_iff, Nat.add_left_cancel_iff, and_true, and_self, true_and, if_true, Nat.reduceEqDiff, if_false, false_and, and_false, Nat.add_eq_left, Nat.left_eq_add, Nat.reduceEqDiff]
  all_goals rfl
/-- statements before n are linked, n leads to l0, l1, m NODES ON THE WAY are there -/
def LKg (σ : HS) (b : Nat) (q : PS) (n m : Nat) (l0 l1 : Int32) : Prop :=
  sI σ b 12 = nI (psF q).length ∧ sI σ b 13 = nI (psS q).length ∧ sI σ b 14 = nI ((psS q).length + m) ∧ sI σ b 15 = nI 0 ∧ sI σ b 16 = bi (psT q) ∧ SR σ b (psM q) (psX q) ∧
  (∀ j, j ≤ (psF q).length → sI σ (b + 15) j = nI (nf q j)) ∧
  (∀ i, i < (psS q).length + m → RowS σ b i (rg q i)) ∧
  (∀ i, (i < n ∨ ((psS q).length ≤ i ∧ i < (psS q).length + m)) → sI σ (b + 12) i = oW (ld q 0 i) ∧ sI σ (b + 13) i = oW (ld q 1 i)) ∧
  (∀ i, n < i → i < (psS q).length → sI σ (b + 12) i = -1 ∧ sI σ (b + 13) i = -1) ∧ (n < (psS q).length → sI σ (b + 12) n = l0 ∧ sI σ (b + 13) n = l1)
/-- only the Routine's ints -/
def LF (b : Nat) (σ σ' : HS) : Prop := sL σ' = sL σ ∧ sR σ' = sR σ ∧ sN σ' = sN σ ∧ ∀ h, ¬ (b ≤ h ∧ h < b + 32) → sI σ' h = sI σ h
theorem LF.rf {b : Nat} {σ : HS} : LF b σ σ := ⟨rfl, rfl, rfl, fun _ _ => rfl⟩
theorem LF.tr {b : Nat} {σ σ' σ'' : HS} (k : LF b σ σ') (k2 : LF b σ' σ'') : LF b σ σ'' := ⟨k2.1.trans k.1, k2.2.1.trans k.2.1, k2.2.2.1.trans k.2.2.1, fun a ha => (k2.2.2.2 a ha).trans (k.2.2.2 a ha)⟩
theorem LF.uI {b : Nat} {σ σ' : HS} {h i : Nat} {v : Int32} (k : LF b σ σ') (hh : b ≤ h ∧ h < b + 32) : LF b σ (uI σ' h i v) := ⟨k.1, k.2.1, k.2.2.1, fun a ha => (uI_off (fun e => ha (by rw [e]; exact hh))).trans (k.2.2.2 a ha)⟩
theorem OF.lf {b n : Nat} {σ σ' : HS} (k : OF b n σ σ') : LF b σ σ' := ⟨k.1, k.2.1, k.2.2.1, fun h hh => funext fun i => k.2.2.2 h i (by omega)⟩
theorem LKg_w0 {σ : HS} {b : Nat} {q : PS} {n m : Nat} {l0 l1 v : Int32} (h : LKg σ b q n m l0 l1) (hn : n < (psS q).length) : LKg (uI σ (b + 12) n v) b q n m v l1 := by
  obtain ⟨h1, h2, h3, h4, h5, h6, h7, h8, h9, h10, h11⟩ := h
  have F : ∀ x i, ¬ (x = b + 12 ∧ i = n) → sI (uI σ (b + 12) n v) x i = sI σ x i := fun x i q => by rw [sI_uI, if_neg q]
  refine ⟨(F _ _ (by omega)).trans h1, (F _ _ (by omega)).trans h2, (F _ _ (by omega)).trans h3, (F _ _ (by omega)).trans h4, (F _ _ (by omega)).trans h5, h6.fe fun x i _ _ => F x i (by omega), fun j hj => (F _ _ (by omega)).trans (h7 j hj), fun i hi => ?_, fun i hi => ?_, fun i g1 g2 => ?_, fun _ => ⟨uI_self, (F _ _ (by omega)).trans (h11 hn).2⟩⟩
  · obtain ⟨r1, r2, r3, r4, r5, r6, r7, r8⟩ := h8 i hi
    exact ⟨(F _ _ (by omega)).trans r1, (F _ _ (by omega)).trans r2, (F _ _ (by omega)).trans r3, (F _ _ (by omega)).trans r4, (F _ _ (by omega)).trans r5, (F _ _ (by omega)).trans r6, (F _ _ (by omega)).trans r7, (F _ _ (by omega)).trans r8⟩
  · exact ⟨(F _ _ (by omega)).trans (h9 i hi).1, (F _ _ (by omega)).trans (h9 i hi).2⟩
  · exact ⟨(F _ _ (by omega)).trans (h10 i g1 g2).1, (F _ _ (by omega)).trans (h10 i g1 g2).2⟩
theorem LKg_w1 {σ : HS} {b : Nat} {q : PS} {n m : Nat} {l0 l1 v : Int32} (h : LKg σ b q n m l0 l1) (hn : n < (psS q).length) : LKg (uI σ (b + 13) n v) b q n m l0 v := by
  obtain ⟨h1, h2, h3, h4, h5, h6, h7, h8, h9, h10, h11⟩ := h
  have F : ∀ x i, ¬ (x = b + 13 ∧ i = n) → sI (uI σ (b + 13) n v) x i = sI σ x i := fun x i q => by rw [sI_uI, if_neg q]
  refine ⟨(F _ _ (by omega)).trans h1, (F _ _ (by omega)).trans h2, (F _ _ (by omega)).trans h3, (F _ _ (by omega)).trans h4, (F _ _ (by omega)).trans h5, h6.fe fun x i _ _ => F x i (by omega), fun j hj => (F _ _ (by omega)).trans (h7 j hj), fun i hi => ?_, fun i hi => ?_, fun i g1 g2 => ?_, fun _ => ⟨(F _ _ (by omega)).trans (h11 hn).1, uI_self⟩⟩
  · obtain ⟨r1, r2, r3, r4, r5, r6, r7, r8⟩ := h8 i hi
    exact ⟨(F _ _ (by omega)).trans r1, (F _ _ (by omega)).trans r2, (F _ _ (by omega)).trans r3, (F _ _ (by omega)).trans r4, (F _ _ (by omega)).trans r5, (F _ _ (by omega)).trans r6, (F _ _ (by omega)).trans r7, (F _ _ (by omega)).trans r8⟩
  · exact ⟨(F _ _ (by omega)).trans (h9 i hi).1, (F _ _ (by omega)).trans (h9 i hi).2⟩
  · exact ⟨(F _ _ (by omega)).trans (h10 i g1 g2).1, (F _ _ (by omega)).trans (h10 i g1 g2).2⟩
theorem LKg_ow {σ σ' : HS} {b : Nat} {q : PS} {n m t : Nat} {l0 l1 : Int32} (h : LKg σ b q n m l0 l1) (hn : n < (psS q).length) (ht : (XL q (psS q).length).getD m 0 = t) (ho : OW b ((psS q).length + m) t (nf q t) σ σ') : LKg σ' b q n (m + 1) l0 l1 := by
  obtain ⟨h1, h2, h3, h4, h5, h6, h7, h8, h9, h10, h11⟩ := h
  obtain ⟨⟨-, -, -, F⟩, o1, o2, o3, o4⟩ := ho
  have eg : rg q ((psS q).length + m) = (7, t, -1, nI 0, nI 0, -1, nI t, -1, 0, 0) := by
    unfold rg; rw [if_neg (by omega), Nat.add_sub_cancel_left, ht]
  have e0 : ld q 0 ((psS q).length + m) = some (nf q t) := by
    unfold ld; rw [if_neg (by omega), if_pos rfl, Nat.add_sub_cancel_left, ht]
  have e1 : ld q 1 ((psS q).length + m) = none := by
    unfold ld; rw [if_neg (by omega), if_neg (by decide)]
  refine ⟨(F _ _ (by omega)).trans h1, (F _ _ (by omega)).trans h2, o1, (F _ _ (by omega)).trans h4, (F _ _ (by omega)).trans h5, h6.fe fun x i _ _ => F x i (by omega), fun j hj => (F _ _ (by omega)).trans (h7 j hj), fun i hi => ?_, fun i hi => ?_, fun i g1 g2 => ?_, fun _ => ⟨(F _ _ (by omega)).trans (h11 hn).1, (F _ _ (by omega)).trans (h11 hn).2⟩⟩
  · by_cases e : i = (psS q).length + m
    · subst e; rw [eg]; exact o2
    · obtain ⟨r1, r2, r3, r4, r5, r6, r7, r8⟩ := h8 i (by omega)
      exact ⟨(F _ _ (by omega)).trans r1, (F _ _ (by omega)).trans r2, (F _ _ (by omega)).trans r3, (F _ _ (by omega)).trans r4, (F _ _ (by omega)).trans r5, (F _ _ (by omega)).trans r6, (F _ _ (by omega)).trans r7, (F _ _ (by omega)).trans r8⟩
  · by_cases e : i = (psS q).length + m
    · subst e; rw [e0, e1]; exact ⟨o3, o4⟩
    · have := h9 i (by omega)
      exact ⟨(F _ _ (by omega)).trans this.1, (F _ _ (by omega)).trans this.2⟩
  · exact ⟨(F _ _ (by omega)).trans (h10 i g1 g2).1, (F _ _ (by omega)).trans (h10 i g1 g2).2⟩
theorem LKg_end {σ : HS} {b : Nat} {q : PS} {n m : Nat} (h : LKg σ b q n m (oW (ld q 0 n)) (oW (ld q 1 n))) (hn : n < (psS q).length) : LKg σ b q (n + 1) m (-1) (-1) := by
  obtain ⟨h1, h2, h3, h4, h5, h6, h7, h8, h9, h10, h11⟩ := h
  refine ⟨h1, h2, h3, h4, h5, h6, h7, h8, fun i hi => ?_, fun i g1 g2 => h10 i (by omega) g2, fun g => h10 _ (by omega) g⟩
  by_cases e : i = n
  · subst e; exact h11 hn
  · exact h9 i (by omega)
theorem XL_pre (q : PS) {n : Nat} : ∀ k, ∃ r, XL q (n + k) = XL q n ++ r
  | 0 => ⟨[], by simp⟩
  | k + 1 => by
    obtain ⟨r, hr⟩ := XL_pre q (n := n) k
    exact ⟨r ++ xs q (n + k), by show XL q (n + k) ++ xs q (n + k) = _; rw [hr, List.append_assoc]⟩
theorem XL_get {q : PS} {n i : Nat} (hn : n < (psS q).length) (hi : i < (xs q n).length) : (XL q (psS q).length).getD ((XL q n).length + i) 0 = (xs q n).getD i 0 := by
  obtain ⟨r, hr⟩ := XL_pre q (n := n + 1) ((psS q).length - (n + 1))
  rw [show n + 1 + ((psS q).length - (n + 1)) = (psS q).length by omega] at hr
  have h2 : XL q (n + 1) = XL q n ++ xs q n := rfl
  rw [hr, h2, List.getD_eq_getElem?_getD, List.getD_eq_getElem?_getD, List.append_assoc, List.getElem?_append_right (by omega), Nat.add_sub_cancel_left, List.getElem?_append_left hi]
theorem xs_5 {q : PS} {n t0 t1 : Nat} (h : rK (rr q n) = 5) (h0 : wr q 0 n = some t0) (h1 : wr q 1 n = some t1) : xs q n = (if many q t0 = true then [t0] else []) ++ (if many q t1 = true then [t1] else []) := by
  unfold xs
  rw [if_pos h, h0, h1]
  show List.filter (many q) [t0, t1] = _
  by_cases e0 : many q t0 = true
  · by_cases e1 : many q t1 = true
    · simp [e0, e1]
    · simp [e0, e1]
  · by_cases e1 : many q t1 = true
    · simp [e0, e1]
    · simp [e0, e1]
theorem LKg_E {σ : HS} {b : Nat} {q : PS} {n m : Nat} {l0 l1 : Int32} (hc : BC q) (hw : WFs q) (h : LKg σ b q n m l0 l1) : ∀ j, j < (psF q).length → sI σ (b + 15) (j + 1) = nI (nf q (j + 1)) ∧ sI σ (b + 9) (nf q (j + 1) - 1) = oW (wy q 0 j) ∧ sI σ (b + 10) (nf q (j + 1) - 1) = oW (wy q 1 j) := by
  intro j hj
  obtain ⟨e1, e2, e3, e4, e5, e6, e7, e8, e9, -⟩ := end_w hc hw hj
  obtain ⟨r1, r2, r3, r4, r5, r6, r7, r8⟩ := h.2.2.2.2.2.2.2.1 (nf q (j + 1) - 1) (by omega)
  have eg : rg q (nf q (j + 1) - 1) = eR q j := if_pos e3
  rw [eg] at r7 r8
  exact ⟨h.2.2.2.2.2.2.1 (j + 1) (by omega), r7.trans e7, r8.trans e8⟩
/-- an end: its block, and what it names -/
theorem st_end {q : PS} (hc : BC q) (hw : WFs q) (hn : NB q) {n : Nat} (hl : n < (psS q).length) (h4 : 4 ≤ rK (rr q n)) : ∃ j, j < (psF q).length ∧ n = nf q (j + 1) - 1 ∧ ∀ w t, wr q w n = some t → t < (psF q).length ∧ t ≠ 0 := by
  have hj := BC_rB hc (rr_mem hl)
  have key : ∀ k, k ≤ (psF q).length → n < nf q k → ∃ j, j < k ∧ nf q j ≤ n ∧ n < nf q (j + 1) := by
    intro k
    induction k with
    | zero => intro _ h; rw [hc.2.2.2.1] at h; omega
    | succ k ih =>
      intro hk h
      by_cases e : n < nf q k
      · obtain ⟨j, a1, a2⟩ := ih (by omega) e
        exact ⟨j, by omega, a2⟩
      · exact ⟨k, by omega, by omega, h⟩
  obtain ⟨j, a1, a2, a3⟩ := key _ (Nat.le_refl _) (by rw [nf_ge (Nat.le_refl _)]; exact hl)
  have h5 := ((hc.2.2.2.2.2 j a1 n a2 a3).2).mp h4
  refine ⟨j, a1, by omega, fun w t ht => ?_⟩
  have hw2 : wr q w n = wy q w j := by rw [show n = nf q (j + 1) - 1 by omega]; rfl
  rw [hw2] at ht
  have hb := hn j a1
  by_cases ew : w = 0
  · subst ew
    refine ⟨Classical.byContradiction fun h => hb.1 ⟨t, ht, Or.inr (by omega)⟩, fun h => hb.1 ⟨t, ht, Or.inl h⟩⟩
  · have hw3 : wy q w j = wy q 1 j := by unfold wy; rw [if_neg ew, if_neg (by decide)]
    rw [hw3] at ht
    refine ⟨Classical.byContradiction fun h => hb.2 ⟨t, ht, Or.inr (by omega)⟩, fun h => hb.2 ⟨t, ht, Or.inl h⟩⟩
