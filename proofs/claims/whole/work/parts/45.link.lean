/-! The class: NODES are linked. -/
def RowS (σ : HS) (b i : Nat) (r : REC) : Prop := sI σ (b + 1) i = nI (rK r) ∧ sI σ (b + 2) i = nI (rB r) ∧ sI σ (b + 3) i = rT r ∧ sI σ (b + 5) i = rO0 r ∧ sI σ (b + 6) i = rO1 r ∧ sI σ (b + 7) i = rS r ∧ sI σ (b + 9) i = rW0 r ∧ sI σ (b + 10) i = rW1 r
/-- what addOnTheWay may change -/
def OF (b n : Nat) (σ σ' : HS) : Prop := sL σ' = sL σ ∧ sR σ' = sR σ ∧ sN σ' = sN σ ∧ ∀ h i, ¬ ((h = b ∧ i = 14) ∨ (b + 1 ≤ h ∧ h ≤ b + 13 ∧ i = n)) → sI σ' h i = sI σ h i
theorem OF.rf {b n : Nat} {σ : HS} : OF b n σ σ := ⟨rfl, rfl, rfl, fun _ _ _ => rfl⟩
theorem OF.uI {b n : Nat} {σ σ' : HS} {h i : Nat} {v : Int32} (k : OF b n σ σ') (hh : (h = b ∧ i = 14) ∨ (b + 1 ≤ h ∧ h ≤ b + 13 ∧ i = n)) : OF b n σ (uI σ' h i v) := by
  refine ⟨k.1, k.2.1, k.2.2.1, fun a c q => ?_⟩
  rw [sI_uI, if_neg (by rintro ⟨rfl, rfl⟩; exact q hh)]
  exact k.2.2.2 a c q
def OW (b n t f : Nat) (σ σ' : HS) : Prop := OF b n σ σ' ∧ sI σ' b 14 = nI (n + 1) ∧ RowS σ' b n (7, t, -1, nI 0, nI 0, -1, nI t, -1, 0, 0) ∧ sI σ' (b + 12) n = nI f ∧ sI σ' (b + 13) n = -1
theorem z2_onWayV {g : GG} {σ : HS} {b : Nat} (hb : RB σ b) {n t f : Nat} (hn : n < 240) (hN : sI σ b 14 = nI n) (ht : t < 40) (hf : sI σ (b + 15) t = nI f) : CT g mX2_addOnTheWay 2 0 0 [.ref b, .int (nI t)] σ (WQ (.int (nI n)) (fun σ' => OW b n t f σ σ')) := by
  refine CT.mono ?_ (z2_onWay hb hn hN ht hf)
  rintro r σ' ⟨rfl, rfl⟩
  refine ⟨rfl, ((((((((((((OF.rf.uI (by omega)).uI (by omega)).uI (by omega)).uI (by omega)).uI (by omega)).uI (by omega)).uI (by omega)).uI (by omega)).uI (by omega)).uI (by omega)).uI (by omega)).uI (by omega)).uI (by omega), ?_, ⟨?_, ?_, ?_, ?_, ?_, ?_, ?_, ?_⟩, ?_, ?_⟩
  all_goals simp only [sI_uI, Nat.add_right_cancel_iff, Nat.add_left_cancel_iff, and_true, and_self, true_and, if_true, Nat.reduceEqDiff, if_false, false_and, and_false, Nat.add_eq_left, Nat.left_eq_add, Nat.reduceEqDiff]
  all_goals rfl
/-- statements before n are linked, n leads to l0, l1, m NODES ON THE WAY are there -/
def LKg (σ : HS) (b : Nat) (q : PS) (n m : Nat) (l0 l1 : Int32) : Prop :=
  sI σ b 12 = nI (psF q).length ∧ sI σ b 13 = nI (psS q).length ∧ sI σ b 14 = nI ((psS q).length + m) ∧ sI σ b 15 = nI 0 ∧ sI σ b 16 = bi (psT q) ∧ SR σ b (psM q) (psX q) ∧
  (∀ j, j ≤ (psF q).length → sI σ (b + 15) j = nI (nf q j)) ∧
  (∀ i, i < (psS q).length + m → RowS σ b i (rg q i)) ∧
  (∀ i, (i < n ∨ ((psS q).length ≤ i ∧ i < (psS q).length + m)) → sI σ (b + 12) i = oW (ld q 0 i) ∧ sI σ (b + 13) i = oW (ld q 1 i)) ∧
  (∀ i, n < i → i < (psS q).length → sI σ (b + 12) i = -1 ∧ sI σ (b + 13) i = -1) ∧ (n < (psS q).length → sI σ (b + 12) n = l0 ∧ sI σ (b + 13) n = l1)
/-- only the Routine's ints -/
def LF (b : Nat) (σ σ' : HS) : Prop := sL σ' = sL σ ∧ sR σ' = sR σ ∧ sN σ' = sN σ ∧ ∀ h, ¬ (b ≤ h ∧ h < b + 32) → sI σ' h = sI σ h
theorem LF.rf {b : Nat} {σ : HS} : LF b σ σ := ⟨rfl, rfl, rfl, fun _ _ => rfl⟩
theorem LF.tr {b : Nat} {σ σ' σ'' : HS} (k : LF b σ σ') (k2 : LF b σ' σ'') : LF b σ σ'' := ⟨k2.1.trans k.1, k2.2.1.trans k.2.1, k2.2.2.1.trans k.2.2.1, fun a ha => (k2.2.2.2 a ha).trans (k.2.2.2 a ha)⟩
theorem LF.uI {b : Nat} {σ σ' : HS} {h i : Nat} {v : Int32} (k : LF b σ σ') (hh : b ≤ h ∧ h < b + 32) : LF b σ (uI σ' h i v) := ⟨k.1, k.2.1, k.2.2.1, fun a ha => (uI_off (fun e => ha (by rw [e]; exact hh))).trans (k.2.2.2 a ha)⟩
theorem OF.lf {b n : Nat} {σ σ' : HS} (k : OF b n σ σ') : LF b σ σ' := ⟨k.1, k.2.1, k.2.2.1, fun h hh => funext fun i => k.2.2.2 h i (by omega)⟩
theorem LKg_w0 {σ : HS} {b : Nat} {q : PS} {n m : Nat} {l0 l1 v : Int32} (h : LKg σ b q n m l0 l1) (hn : n < (psS q).length) : LKg (uI σ (b + 12) n v) b q n m v l1 := by
  obtain ⟨h1, h2, h3, h4, h5, h6, h7, h8, h9, h10, h11⟩ := h
  have F : ∀ x i, ¬ (x = b + 12 ∧ i = n) → sI (uI σ (b + 12) n v) x i = sI σ x i := fun x i q => by rw [sI_uI, if_neg q]
  refine ⟨(F _ _ (by omega)).trans h1, (F _ _ (by omega)).trans h2, (F _ _ (by omega)).trans h3, (F _ _ (by omega)).trans h4, (F _ _ (by omega)).trans h5, h6.fe fun x i _ _ => F x i (by omega), fun j hj => (F _ _ (by omega)).trans (h7 j hj), fun i hi => ?_, fun i hi => ?_, fun i g1 g2 => ?_, fun _ => ⟨uI_self, (F _ _ (by omega)).trans (h11 hn).2⟩⟩
  · obtain ⟨r1, r2, r3, r4, r5, r6, r7, r8⟩ := h8 i hi
    exact ⟨(F _ _ (by omega)).trans r1, (F _ _ (by omega)).trans r2, (F _ _ (by omega)).trans r3, (F _ _ (by omega)).trans r4, (F _ _ (by omega)).trans r5, (F _ _ (by omega)).trans r6, (F _ _ (by omega)).trans r7, (F _ _ (by omega)).trans r8⟩
  · exact ⟨(F _ _ (by omega)).trans (h9 i hi).1, (F _ _ (by omega)).trans (h9 i hi).2⟩
  · exact ⟨(F _ _ (by omega)).trans (h10 i g1 g2).1, (F _ _ (by omega)).trans (h10 i g1 g2).2⟩
theorem LKg_w1 {σ : HS} {b : Nat} {q : PS} {n m : Nat} {l0 l1 v : Int32} (h : LKg σ b q n m l0 l1) (hn : n < (psS q).length) : LKg (uI σ (b + 13) n v) b q n m l0 v := by
  obtain ⟨h1, h2, h3, h4, h5, h6, h7, h8, h9, h10, h11⟩ := h
  have F : ∀ x i, ¬ (x = b + 13 ∧ i = n) → sI (uI σ (b + 13) n v) x i = sI σ x i := fun x i q => by rw [sI_uI, if_neg q]
  refine ⟨(F _ _ (by omega)).trans h1, (F _ _ (by omega)).trans h2, (F _ _ (by omega)).trans h3, (F _ _ (by omega)).trans h4, (F _ _ (by omega)).trans h5, h6.fe fun x i _ _ => F x i (by omega), fun j hj => (F _ _ (by omega)).trans (h7 j hj), fun i hi => ?_, fun i hi => ?_, fun i g1 g2 => ?_, fun _ => ⟨(F _ _ (by omega)).trans (h11 hn).1, uI_self⟩⟩
  · obtain ⟨r1, r2, r3, r4, r5, r6, r7, r8⟩ := h8 i hi
    exact ⟨(F _ _ (by omega)).trans r1, (F _ _ (by omega)).trans r2, (F _ _ (by omega)).trans r3, (F _ _ (by omega)).trans r4, (F _ _ (by omega)).trans r5, (F _ _ (by omega)).trans r6, (F _ _ (by omega)).trans r7, (F _ _ (by omega)).trans r8⟩
  · exact ⟨(F _ _ (by omega)).trans (h9 i hi).1, (F _ _ (by omega)).trans (h9 i hi).2⟩
  · exact ⟨(F _ _ (by omega)).trans (h10 i g1 g2).1, (F _ _ (by omega)).trans (h10 i g1 g2).2⟩
theorem LKg_ow {σ σ' : HS} {b : Nat} {q : PS} {n m t : Nat} {l0 l1 : Int32} (h : LKg σ b q n m l0 l1) (hn : n < (psS q).length) (ht : (XL q (psS q).length).getD m 0 = t) (ho : OW b ((psS q).length + m) t (nf q t) σ σ') : LKg σ' b q n (m + 1) l0 l1 := by
  obtain ⟨h1, h2, h3, h4, h5, h6, h7, h8, h9, h10, h11⟩ := h
  obtain ⟨⟨-, -, -, F⟩, o1, o2, o3, o4⟩ := ho
  have eg : rg q ((psS q).length + m) = (7, t, -1, nI 0, nI 0, -1, nI t, -1, 0, 0) := by
    unfold rg; rw [if_neg (by omega), Nat.add_sub_cancel_left, ht]
  have e0 : ld q 0 ((psS q).length + m) = some (nf q t) := by
    unfold ld; rw [if_neg (by omega), if_pos rfl, Nat.add_sub_cancel_left, ht]
  have e1 : ld q 1 ((psS q).length + m) = none := by
    unfold ld; rw [if_neg (by omega), if_neg (by decide)]
  refine ⟨(F _ _ (by omega)).trans h1, (F _ _ (by omega)).trans h2, o1, (F _ _ (by omega)).trans h4, (F _ _ (by omega)).trans h5, h6.fe fun x i _ _ => F x i (by omega), fun j hj => (F _ _ (by omega)).trans (h7 j hj), fun i hi => ?_, fun i hi => ?_, fun i g1 g2 => ?_, fun _ => ⟨(F _ _ (by omega)).trans (h11 hn).1, (F _ _ (by omega)).trans (h11 hn).2⟩⟩
  · by_cases e : i = (psS q).length + m
    · subst e; rw [eg]; exact o2
    · obtain ⟨r1, r2, r3, r4, r5, r6, r7, r8⟩ := h8 i (by omega)
      exact ⟨(F _ _ (by omega)).trans r1, (F _ _ (by omega)).trans r2, (F _ _ (by omega)).trans r3, (F _ _ (by omega)).trans r4, (F _ _ (by omega)).trans r5, (F _ _ (by omega)).trans r6, (F _ _ (by omega)).trans r7, (F _ _ (by omega)).trans r8⟩
  · by_cases e : i = (psS q).length + m
    · subst e; rw [e0, e1]; exact ⟨o3, o4⟩
    · have := h9 i (by omega)
      exact ⟨(F _ _ (by omega)).trans this.1, (F _ _ (by omega)).trans this.2⟩
  · exact ⟨(F _ _ (by omega)).trans (h10 i g1 g2).1, (F _ _ (by omega)).trans (h10 i g1 g2).2⟩
theorem LKg_end {σ : HS} {b : Nat} {q : PS} {n m : Nat} (h : LKg σ b q n m (oW (ld q 0 n)) (oW (ld q 1 n))) (hn : n < (psS q).length) : LKg σ b q (n + 1) m (-1) (-1) := by
  obtain ⟨h1, h2, h3, h4, h5, h6, h7, h8, h9, h10, h11⟩ := h
  refine ⟨h1, h2, h3, h4, h5, h6, h7, h8, fun i hi => ?_, fun i g1 g2 => h10 i (by omega) g2, fun g => h10 _ (by omega) g⟩
  by_cases e : i = n
  · subst e; exact h11 hn
  · exact h9 i (by omega)
theorem XL_pre (q : PS) {n : Nat} : ∀ k, ∃ r, XL q (n + k) = XL q n ++ r
  | 0 => ⟨[], by simp⟩
  | k + 1 => by
    obtain ⟨r, hr⟩ := XL_pre q (n := n) k
    exact ⟨r ++ xs q (n + k), by show XL q (n + k) ++ xs q (n + k) = _; rw [hr, List.append_assoc]⟩
theorem XL_get {q : PS} {n i : Nat} (hn : n < (psS q).length) (hi : i < (xs q n).length) : (XL q (psS q).length).getD ((XL q n).length + i) 0 = (xs q n).getD i 0 := by
  obtain ⟨r, hr⟩ := XL_pre q (n := n + 1) ((psS q).length - (n + 1))
  rw [show n + 1 + ((psS q).length - (n + 1)) = (psS q).length by omega] at hr
  have h2 : XL q (n + 1) = XL q n ++ xs q n := rfl
  rw [hr, h2, List.getD_eq_getElem?_getD, List.getD_eq_getElem?_getD, List.append_assoc, List.getElem?_append_right (by omega), Nat.add_sub_cancel_left, List.getElem?_append_left hi]
theorem xs_5 {q : PS} {n t0 t1 : Nat} (h : rK (rr q n) = 5) (h0 : wr q 0 n = some t0) (h1 : wr q 1 n = some t1) : xs q n = (if many q t0 = true then [t0] else []) ++ (if many q t1 = true then [t1] else []) := by
  unfold xs
  rw [if_pos h, h0, h1]
  show List.filter (many q) [t0, t1] = _
  by_cases e0 : many q t0 = true
  · by_cases e1 : many q t1 = true
    · simp [e0, e1]
    · simp [e0, e1]
  · by_cases e1 : many q t1 = true
    · simp [e0, e1]
    · simp [e0, e1]
theorem LKg_E {σ : HS} {b : Nat} {q : PS} {n m : Nat} {l0 l1 : Int32} (hc : BC q) (hw : WFs q) (h : LKg σ b q n m l0 l1) : ∀ j, j < (psF q).length → sI σ (b + 15) (j + 1) = nI (nf q (j + 1)) ∧ sI σ (b + 9) (nf q (j + 1) - 1) = oW (wy q 0 j) ∧ sI σ (b + 10) (nf q (j + 1) - 1) = oW (wy q 1 j) := by
  intro j hj
  obtain ⟨e1, e2, e3, e4, e5, e6, e7, e8, e9, -⟩ := end_w hc hw hj
  obtain ⟨r1, r2, r3, r4, r5, r6, r7, r8⟩ := h.2.2.2.2.2.2.2.1 (nf q (j + 1) - 1) (by omega)
  have eg : rg q (nf q (j + 1) - 1) = eR q j := if_pos e3
  rw [eg] at r7 r8
  exact ⟨h.2.2.2.2.2.2.1 (j + 1) (by omega), r7.trans e7, r8.trans e8⟩
/-- an end: its block, and what it names -/
theorem st_end {q : PS} (hc : BC q) (hw : WFs q) (hn : NB q) {n : Nat} (hl : n < (psS q).length) (h4 : 4 ≤ rK (rr q n)) : ∃ j, j < (psF q).length ∧ n = nf q (j + 1) - 1 ∧ ∀ w t, wr q w n = some t → t < (psF q).length ∧ t ≠ 0 := by
  have hj := BC_rB hc (rr_mem hl)
  have key : ∀ k, k ≤ (psF q).length → n < nf q k → ∃ j, j < k ∧ nf q j ≤ n ∧ n < nf q (j + 1) := by
    intro k
    induction k with
    | zero => intro _ h; rw [hc.2.2.2.1] at h; omega
    | succ k ih =>
      intro hk h
      by_cases e : n < nf q k
      · obtain ⟨j, a1, a2⟩ := ih (by omega) e
        exact ⟨j, by omega, a2⟩
      · exact ⟨k, by omega, by omega, h⟩
  obtain ⟨j, a1, a2, a3⟩ := key _ (Nat.le_refl _) (by rw [nf_ge (Nat.le_refl _)]; exact hl)
  have h5 := ((hc.2.2.2.2.2 j a1 n a2 a3).2).mp h4
  refine ⟨j, a1, by omega, fun w t ht => ?_⟩
  have hw2 : wr q w n = wy q w j := by rw [show n = nf q (j + 1) - 1 by omega]; rfl
  rw [hw2] at ht
  have hb := hn j a1
  by_cases ew : w = 0
  · subst ew
    refine ⟨Classical.byContradiction fun h => hb.1 ⟨t, ht, Or.inr (by omega)⟩, fun h => hb.1 ⟨t, ht, Or.inl h⟩⟩
  · have hw3 : wy q w j = wy q 1 j := by unfold wy; rw [if_neg ew, if_neg (by decide)]
    rw [hw3] at ht
    refine ⟨Classical.byContradiction fun h => hb.2 ⟨t, ht, Or.inr (by omega)⟩, fun h => hb.2 ⟨t, ht, Or.inl h⟩⟩
theorem st_w {q : PS} (hw : WFs q) {n : Nat} (hl : n < (psS q).length) : rK (rr q n) ≤ 6 ∧ rW0 (rr q n) = oW (wr q 0 n) ∧ rW1 (rr q n) = oW (wr q 1 n) ∧ (∀ w t, wr q w n = some t → t < 40) ∧ (rK (rr q n) = 4 → (wr q 0 n).isSome ∧ wr q 1 n = none) ∧ (rK (rr q n) = 5 → (wr q 0 n).isSome ∧ (wr q 1 n).isSome) ∧ (rK (rr q n) = 6 → wr q 0 n = none ∧ wr q 1 n = none) := by
  obtain ⟨⟨c1, -, -, -, w0, w1, c2, c3, c4, c5, c6, c7, c8, c9⟩, -⟩ := hw.1 _ (rr_mem (q := q) hl)
  have e0 : wr q 0 n = w0 := by
    show un (rW0 (rr q n)) = w0
    rw [c2]; exact un_oW fun v hv => by have := c4 v hv; omega
  have e1 : wr q 1 n = w1 := by
    show un (rW1 (rr q n)) = w1
    rw [c3]; exact un_oW fun v hv => by have := c5 v hv; omega
  refine ⟨c1, by rw [e0]; exact c2, by rw [e1]; exact c3, fun w t ht => ?_, fun k => by rw [e0, e1]; exact c7 k, fun k => by rw [e0, e1]; exact c8 k, fun k => by rw [e0, e1]; exact c9 k⟩
  by_cases ew : w = 0
  · subst ew; rw [e0] at ht; exact c4 t ht
  · have : wr q w n = wr q 1 n := by unfold wr; rw [if_neg ew, if_neg (by decide)]
    rw [this, e1] at ht; exact c5 t ht
theorem SK.lf {b : Nat} {σ σ' : HS} (h : LF b σ σ') (k : SK σ) : SK σ' := ⟨by rw [h.2.2.1]; exact k.1, fun a c q r => by rw [h.2.1]; exact k.2 a c q r⟩
theorem RB.lf {b c : Nat} {σ σ' : HS} (h : LF b σ σ') (k : RB σ c) : RB σ' c := ⟨k.1, by rw [h.2.2.1]; exact k.2.1, fun o q r w => by rw [h.2.1]; exact k.2.2 o q r w⟩
theorem ldW_m {q : PS} {n i t : Nat} (h5 : rK (rr q n) = 5) (hm : many q t = true) : ldW q n i (some t) = some ((psS q).length + (XL q n).length + i) := if_pos ⟨h5, hm⟩
theorem ldW_n {q : PS} {n i t : Nat} (hm : ¬ many q t = true) : ldW q n i (some t) = some (nf q t) := if_neg fun z => hm z.2
/-- the second way of an if -/
theorem y2_link1 {g : GG} {σ σ0 : HS} {b : Nat} (hb : RB σ b) {q : PS} (hc : BC q) (hw : WFs q) (hnb : NB q) {n t0 t1 : Nat} (hn : n < (psS q).length) (h5 : rK (rr q n) = 5) (hw0 : wr q 0 n = some t0) (hw1 : wr q 1 n = some t1) (h : LKg σ b q n ((XL q n).length + nW q n (some t0)) (oW (ld q 0 n)) (-1)) (hf : LF b σ0 σ) : WA g mX2_linkNode 3 0 0 (ZM g (fun r σ' => r = none ∧ LF b σ0 σ' ∧ LKg σ' b q (n + 1) (XL q (n + 1)).length (-1) (-1)) 0 0) 0 0 45 [(0, .ref b), (1, .int (nI n)), (2, .int (nI 1))] [] σ := by
  have hb14 : b = 14 ∨ 99 ≤ b := by rcases hb.1 with h | ⟨j, h⟩ <;> omega
  have hS160 := hc.2.2.1
  obtain ⟨j, j1, j2, j3⟩ := st_end hc hw hnb hn (by omega)
  have ht := j3 1 t1 hw1
  have h40 := hc.2.1
  have hL := LKg_E hc hw h
  obtain ⟨h1, h2, h3, h4, h5', h6, h7, h8, h9, h10, h11⟩ := id h
  obtain ⟨r1, r2, r3, r4, r5, r6, r7, r8⟩ := h8 n (by omega)
  have eg : rg q n = rr q n := if_pos hn
  rw [eg] at r1 r8
  rw [h5] at r1
  rw [(st_w hw hn).2.2.1, hw1] at r8
  have hf1 := h7 t1 (by omega)
  have el : ld q 1 n = ldW q n (nW q n (some t0)) (some t1) := by
    unfold ld; rw [if_pos hn, if_neg (by omega), if_neg (by decide), hw0, hw1]
  have ex : (XL q (n + 1)).length = (XL q n).length + nW q n (some t0) + nW q n (some t1) := by
    show (XL q n ++ xs q n).length = _
    rw [List.length_append, xs_5 h5 hw0 hw1]
    unfold nW
    by_cases e0 : many q t0 = true <;> by_cases e1 : many q t1 = true <;> simp [e0, e1] <;> omega
  have hX := XL_le hc (n := n + 1) (by omega)
  have hcw := cntW_le q t1 (psF q).length
  by_cases hm : 1 < cntW q t1 (psF q).length
  · have hmt : many q t1 = true := decide_eq_true hm
    have e1 : nW q n (some t1) = 1 := if_pos hmt
    have hg : (XL q (psS q).length).getD ((XL q n).length + nW q n (some t0)) 0 = t1 := by
      rw [XL_get hn (by rw [xs_5 h5 hw0 hw1, if_pos hmt]; unfold nW; by_cases e0 : many q t0 = true <;> simp [e0])]
      rw [xs_5 h5 hw0 hw1, if_pos hmt]
      unfold nW
      by_cases e0 : many q t0 = true <;> simp [e0]
    refine q_iload_n dX2_linkNode_45 rfl rfl ?_
    refine q_iconst (v := nI 2) dX2_linkNode_46 rfl ?_
    refine q_icmp_geN (tgt := 122) dX2_linkNode_47 (by decide) (by omega) (by omega) (fun h => absurd h (by decide)) (fun _ => ?_)
    refine q_aload_n dX2_linkNode_50 rfl rfl rfl ?_
    refine q_getr (r := b + 8) dX2_linkNode_51 fX2_29 rfl (ty_r hb 0 rfl) (hb.2.2 0 5 8 rfl) ?_
    refine q_iload_n dX2_linkNode_54 rfl rfl ?_
    refine q_aald (r := b + 10) (j := 1) dX2_linkNode_55 (ty_r hb 8 rfl) (Or.inl rfl) (ix_n (by omega) (by omega)) (hb.2.2 8 1 10 rfl) ?_
    refine q_iload_n dX2_linkNode_56 rfl rfl ?_
    refine q_iald (x := nI t1) (j := n) dX2_linkNode_57 (ty_r hb 10 rfl) (ix_n (by omega) (by omega)) r8 ?_
    refine q_istore_n dX2_linkNode_58 rfl (by decide) (ls' := [(3, .int (nI t1)), (0, .ref b), (1, .int (nI n)), (2, .int (nI 1))]) rfl ?_
    refine q_iload_n dX2_linkNode_59 rfl rfl ?_
    refine q_if_ltN (tgt := 98) dX2_linkNode_60 (by decide) (by omega) ?_
    refine q_aload_n dX2_linkNode_63 rfl rfl rfl ?_
    refine q_getr (r := b + 1) dX2_linkNode_64 fX2_9 rfl (ty_r hb 0 rfl) (hb.2.2 0 0 1 rfl) ?_
    refine q_iload_n dX2_linkNode_67 rfl rfl ?_
    refine q_iald (x := nI 5) (j := n) dX2_linkNode_68 (ty_r hb 1 rfl) (ix_n (by omega) (by omega)) r1 ?_
    refine q_iconst (v := nI 5) dX2_linkNode_69 rfl ?_
    refine q_icmp_neN (tgt := 98) dX2_linkNode_70 (by decide) (by omega) (by omega) (fun h => absurd h (by decide)) (fun _ => ?_)
    refine q_aload_n dX2_linkNode_73 rfl rfl rfl ?_
    refine q_iload_n dX2_linkNode_74 rfl rfl ?_
    refine q_callV (As := [.int (nI t1)]) (rest := []) dX2_linkNode_75 vX2_102 (ty_r hb 0 rfl) ⟨by decide, rfl⟩ (z2_ways hb h1 hL hc hw (by omega)) rfl rfl (Nat.le_of_ble_eq_true rfl) (by omega) (by omega) (by omega) (k_p ?_)
    refine q_iconst (v := nI 1) dX2_linkNode_78 rfl ?_
    refine q_icmp_leN (tgt := 98) dX2_linkNode_79 (by decide) (by omega) (by omega) (fun c79 => ?_) (fun c79 => ?_)
    · exact absurd c79 (by omega)
    · skip
      refine q_aload_n dX2_linkNode_82 rfl rfl rfl ?_
      refine q_getr (r := b + 11) dX2_linkNode_83 fX2_32 rfl (ty_r hb 0 rfl) (hb.2.2 0 6 11 rfl) ?_
      refine q_iload_n dX2_linkNode_86 rfl rfl ?_
      refine q_aald (r := b + 13) (j := 1) dX2_linkNode_87 (ty_r hb 11 rfl) (Or.inl rfl) (ix_n (by omega) (by omega)) (hb.2.2 11 1 13 rfl) ?_
      refine q_iload_n dX2_linkNode_88 rfl rfl ?_
      refine q_aload_n dX2_linkNode_89 rfl rfl rfl ?_
      refine q_iload_n dX2_linkNode_90 rfl rfl ?_
      refine q_callV (As := [.int (nI t1)]) (rest := [.int (nI n), .ref (b + 13)]) dX2_linkNode_91 vX2_106 (ty_r hb 0 rfl) ⟨by decide, rfl⟩ (z2_onWayV hb (by omega) h3 (by omega) hf1) rfl rfl (Nat.le_of_ble_eq_true rfl) (by omega) (by omega) (by omega) (k_w (fun s91 q91 => ?_))
      have hg2 := LKg_ow h hn hg q91
      have hf2 := hf.tr q91.1.lf
      have hb2 := RB.lf q91.1.lf hb
      refine q_iast (j := n) dX2_linkNode_94 (ty_r hb2 13 rfl) (ix_n (by omega) (by omega)) ?_
      refine q_goto (tgt := 116) dX2_linkNode_95 (by decide) ?_
      refine q_iincN (c := 1) dX2_linkNode_116 rfl (by decide) rfl (ls' := [(2, .int (nI 2)), (3, .int (nI t1)), (0, .ref b), (1, .int (nI n))]) rfl ?_
      refine q_goto (tgt := 45) dX2_linkNode_119 (by decide) ?_
      refine q_iload_n dX2_linkNode_45 rfl rfl ?_
      refine q_iconst (v := nI 2) dX2_linkNode_46 rfl ?_
      refine q_icmp_geN (tgt := 122) dX2_linkNode_47 (by decide) (by omega) (by omega) (fun _ => ?_) (fun h => absurd h (by decide))
      refine q_return dX2_linkNode_122 rfl (by omega) (by omega) ?_
      refine ⟨rfl, hf2.uI (by omega), ?_⟩
      rw [ex, e1]
      refine LKg_end ?_ hn
      have hk := LKg_w1 (v := nI ((psS q).length + ((XL q n).length + nW q n (some t0)))) hg2 hn
      rw [el, ldW_m h5 hmt, show (psS q).length + (XL q n).length + nW q n (some t0) = (psS q).length + ((XL q n).length + nW q n (some t0)) from Nat.add_assoc _ _ _]
      exact hk
  · have hmt : ¬ many q t1 = true := fun e => hm (of_decide_eq_true e)
    have e1 : nW q n (some t1) = 0 := if_neg hmt
    refine q_iload_n dX2_linkNode_45 rfl rfl ?_
    refine q_iconst (v := nI 2) dX2_linkNode_46 rfl ?_
    refine q_icmp_geN (tgt := 122) dX2_linkNode_47 (by decide) (by omega) (by omega) (fun h => absurd h (by decide)) (fun _ => ?_)
    refine q_aload_n dX2_linkNode_50 rfl rfl rfl ?_
    refine q_getr (r := b + 8) dX2_linkNode_51 fX2_29 rfl (ty_r hb 0 rfl) (hb.2.2 0 5 8 rfl) ?_
    refine q_iload_n dX2_linkNode_54 rfl rfl ?_
    refine q_aald (r := b + 10) (j := 1) dX2_linkNode_55 (ty_r hb 8 rfl) (Or.inl rfl) (ix_n (by omega) (by omega)) (hb.2.2 8 1 10 rfl) ?_
    refine q_iload_n dX2_linkNode_56 rfl rfl ?_
    refine q_iald (x := nI t1) (j := n) dX2_linkNode_57 (ty_r hb 10 rfl) (ix_n (by omega) (by omega)) r8 ?_
    refine q_istore_n dX2_linkNode_58 rfl (by decide) (ls' := [(3, .int (nI t1)), (0, .ref b), (1, .int (nI n)), (2, .int (nI 1))]) rfl ?_
    refine q_iload_n dX2_linkNode_59 rfl rfl ?_
    refine q_if_ltN (tgt := 98) dX2_linkNode_60 (by decide) (by omega) ?_
    refine q_aload_n dX2_linkNode_63 rfl rfl rfl ?_
    refine q_getr (r := b + 1) dX2_linkNode_64 fX2_9 rfl (ty_r hb 0 rfl) (hb.2.2 0 0 1 rfl) ?_
    refine q_iload_n dX2_linkNode_67 rfl rfl ?_
    refine q_iald (x := nI 5) (j := n) dX2_linkNode_68 (ty_r hb 1 rfl) (ix_n (by omega) (by omega)) r1 ?_
    refine q_iconst (v := nI 5) dX2_linkNode_69 rfl ?_
    refine q_icmp_neN (tgt := 98) dX2_linkNode_70 (by decide) (by omega) (by omega) (fun h => absurd h (by decide)) (fun _ => ?_)
    refine q_aload_n dX2_linkNode_73 rfl rfl rfl ?_
    refine q_iload_n dX2_linkNode_74 rfl rfl ?_
    refine q_callV (As := [.int (nI t1)]) (rest := []) dX2_linkNode_75 vX2_102 (ty_r hb 0 rfl) ⟨by decide, rfl⟩ (z2_ways hb h1 hL hc hw (by omega)) rfl rfl (Nat.le_of_ble_eq_true rfl) (by omega) (by omega) (by omega) (k_p ?_)
    refine q_iconst (v := nI 1) dX2_linkNode_78 rfl ?_
    refine q_icmp_leN (tgt := 98) dX2_linkNode_79 (by decide) (by omega) (by omega) (fun c79 => ?_) (fun c79 => ?_)
    · skip
      refine q_iload_n dX2_linkNode_98 rfl rfl ?_
      refine q_if_ltN (tgt := 116) dX2_linkNode_99 (by decide) (by omega) ?_
      refine q_aload_n dX2_linkNode_102 rfl rfl rfl ?_
      refine q_getr (r := b + 11) dX2_linkNode_103 fX2_32 rfl (ty_r hb 0 rfl) (hb.2.2 0 6 11 rfl) ?_
      refine q_iload_n dX2_linkNode_106 rfl rfl ?_
      refine q_aald (r := b + 13) (j := 1) dX2_linkNode_107 (ty_r hb 11 rfl) (Or.inl rfl) (ix_n (by omega) (by omega)) (hb.2.2 11 1 13 rfl) ?_
      refine q_iload_n dX2_linkNode_108 rfl rfl ?_
      refine q_aload_n dX2_linkNode_109 rfl rfl rfl ?_
      refine q_getr (r := b + 15) dX2_linkNode_110 fX2_38 rfl (ty_r hb 0 rfl) (hb.2.2 0 8 15 rfl) ?_
      refine q_iload_n dX2_linkNode_113 rfl rfl ?_
      refine q_iald (x := nI (nf q t1)) (j := t1) dX2_linkNode_114 (ty_r hb 15 rfl) (ix_n (by omega) (by omega)) hf1 ?_
      refine q_iast (j := n) dX2_linkNode_115 (ty_r hb 13 rfl) (ix_n (by omega) (by omega)) ?_
      refine q_iincN (c := 1) dX2_linkNode_116 rfl (by decide) rfl (ls' := [(2, .int (nI 2)), (3, .int (nI t1)), (0, .ref b), (1, .int (nI n))]) rfl ?_
      refine q_goto (tgt := 45) dX2_linkNode_119 (by decide) ?_
      refine q_iload_n dX2_linkNode_45 rfl rfl ?_
      refine q_iconst (v := nI 2) dX2_linkNode_46 rfl ?_
      refine q_icmp_geN (tgt := 122) dX2_linkNode_47 (by decide) (by omega) (by omega) (fun _ => ?_) (fun h => absurd h (by decide))
      refine q_return dX2_linkNode_122 rfl (by omega) (by omega) ?_
      refine ⟨rfl, hf.uI (by omega), ?_⟩
      rw [ex, e1]
      refine LKg_end ?_ hn
      have hk := LKg_w1 (v := nI (nf q t1)) h hn
      rw [el, ldW_n hmt]
      exact hk
    · exact absurd c79 (by omega)
