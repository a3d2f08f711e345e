/-! The class: by how many NODES each is led to. -/
def cl1 (q : PS) (i n : Nat) : Nat := (if ld q 0 n = some i then 1 else 0) + (if ld q 1 n = some i then 1 else 0)
def cntL (q : PS) (i : Nat) : Nat → Nat
  | 0 => 0
  | n + 1 => cntL q i n + cl1 q i n
theorem cntL_le (q : PS) (i : Nat) : ∀ n, cntL q i n ≤ 2 * n
  | 0 => Nat.le_refl _
  | n + 1 => by
    have := cntL_le q i n
    unfold cntL cl1
    split <;> split <;> omega
/-- where NODES lead there are NODES -/
theorem ld_lt {q : PS} (hc : BC q) (hw : WFs q) (hnb : NB q) {w n i : Nat} (hn : n < NN q) (h : ld q w n = some i) : i < NN q := by
  have hF : ∀ t, t < (psF q).length → nf q t < (psS q).length := fun t ht => by
    have h1 := hc.2.2.2.2.1 t ht
    have h2 := nf_le hc (j := t + 1) (by omega)
    omega
  unfold ld at h
  by_cases e : n < (psS q).length
  · rw [if_pos e] at h
    by_cases k4 : rK (rr q n) < 4
    · rw [if_pos k4] at h
      by_cases ew : w = 0
      · rw [if_pos ew] at h
        cases h
        obtain ⟨m, m1, m2, m3⟩ : ∃ j, j < (psF q).length ∧ nf q j ≤ n ∧ n < nf q (j + 1) := by
          have key : ∀ k, k ≤ (psF q).length → n < nf q k → ∃ j, j < k ∧ nf q j ≤ n ∧ n < nf q (j + 1) := by
            intro k
            induction k with
            | zero => intro _ h; rw [hc.2.2.2.1] at h; omega
            | succ k ih =>
              intro hk h
              by_cases e : n < nf q k
              · obtain ⟨j, a1, a2⟩ := ih (by omega) e
                exact ⟨j, by omega, a2⟩
              · exact ⟨k, by omega, by omega, h⟩
          obtain ⟨j, a1, a2⟩ := key _ (Nat.le_refl _) (by rw [nf_ge (Nat.le_refl _)]; exact e)
          exact ⟨j, a1, a2⟩
        have h5 := (hc.2.2.2.2.2 m m1 n m2 m3).2
        have h6 := nf_le hc (j := m + 1) (by omega)
        have : n + 1 ≠ nf q (m + 1) := fun z => by have := h5.mpr z; omega
        unfold NN; omega
      · rw [if_neg ew] at h; cases h
    · rw [if_neg k4] at h
      obtain ⟨j, j1, j2, j3⟩ := st_end hc hw hnb e (by omega)
      have key : ∀ (u : Nat) (o : Option Nat), (∀ t, o = some t → t < (psF q).length) → ldW q n u o = some i → (∀ t, o = some t → rK (rr q n) = 5 → many q t = true → (XL q n).length + u < (XL q (psS q).length).length) → i < NN q := by
        intro u o h1 h2 h3
        cases o with
        | none => cases h2
        | some t =>
          by_cases hm : rK (rr q n) = 5 ∧ many q t = true
          · have h4 := h3 t rfl hm.1 hm.2
            have h5 : ldW q n u (some t) = some ((psS q).length + (XL q n).length + u) := if_pos hm
            rw [h5] at h2; cases h2
            unfold NN; omega
          · have h5 : ldW q n u (some t) = some (nf q t) := if_neg hm
            rw [h5] at h2; cases h2
            have := hF t (h1 t rfl)
            unfold NN; omega
      have hlen : (XL q n).length + (xs q n).length ≤ (XL q (psS q).length).length := by
        have := XL_mono q (n := n + 1) ((psS q).length - (n + 1))
        rw [show n + 1 + ((psS q).length - (n + 1)) = (psS q).length by omega] at this
        have h2 : (XL q (n + 1)).length = (XL q n).length + (xs q n).length := by show (XL q n ++ xs q n).length = _; rw [List.length_append]
        omega
      by_cases ew : w = 0
      · rw [if_pos ew] at h
        refine key 0 _ (fun t ht => (j3 0 t ht).1) h (fun t ht h5 hm => ?_)
        obtain ⟨t1, w1⟩ := Option.isSome_iff_exists.mp ((st_w hw e).2.2.2.2.2.1 h5).2
        rw [xs_5 h5 ht w1, if_pos hm, List.length_append] at hlen
        simp at hlen; omega
      · rw [if_neg ew] at h
        refine key _ _ (fun t ht => (j3 1 t ht).1) h (fun t ht h5 hm => ?_)
        obtain ⟨t0, w0⟩ := Option.isSome_iff_exists.mp ((st_w hw e).2.2.2.2.2.1 h5).1
        rw [xs_5 h5 w0 ht, if_pos hm, List.length_append] at hlen
        rw [w0]
        unfold nW
        by_cases e0 : many q t0 = true
        · simp [e0] at hlen ⊢; omega
        · simp [e0] at hlen ⊢; omega
  · rw [if_neg e] at h
    by_cases ew : w = 0
    · rw [if_pos ew] at h
      cases h
      have hx : ∀ k, k ≤ (psS q).length → ∀ t ∈ XL q k, t < (psF q).length := by
        intro k
        induction k with
        | zero => intro _ t ht; cases ht
        | succ k ih =>
          intro hk t ht
          rcases List.mem_append.mp (show t ∈ XL q k ++ xs q k from ht) with ht | ht
          · exact ih (by omega) t ht
          · unfold xs at ht
            by_cases k5 : rK (rr q k) = 5
            · rw [if_pos k5] at ht
              obtain ⟨j, j1, j2, j3⟩ := st_end hc hw hnb (n := k) (by omega) (by omega)
              have := (List.mem_filter.mp ht).1
              rcases List.mem_append.mp this with h | h
              · exact (j3 0 t (Option.mem_toList.mp h)).1
              · exact (j3 1 t (Option.mem_toList.mp h)).1
            · rw [if_neg k5] at ht; cases ht
      have := hF _ (hx _ (Nat.le_refl _) _ (gd_mem (l := XL q (psS q).length) (i := n - (psS q).length) (d := 0) (by unfold NN at hn; omega)))
      unfold NN; omega
    · rw [if_neg ew] at h; cases h
def L14 (b : Nat) (σ σ' : HS) : Prop := sL σ' = sL σ ∧ sR σ' = sR σ ∧ sN σ' = sN σ ∧ ∀ h, h ≠ b + 14 → sI σ' h = sI σ h
theorem L14.rf {b : Nat} {σ : HS} : L14 b σ σ := ⟨rfl, rfl, rfl, fun _ _ => rfl⟩
theorem L14.uI {b : Nat} {σ σ' : HS} {i : Nat} {v : Int32} (k : L14 b σ σ') : L14 b σ (uI σ' (b + 14) i v) := ⟨k.1, k.2.1, k.2.2.1, fun a ha => (uI_off ha).trans (k.2.2.2 a ha)⟩
theorem L14.lf {b : Nat} {σ σ' : HS} (k : L14 b σ σ') : LF b σ σ' := ⟨k.1, k.2.1, k.2.2.1, fun h hh => k.2.2.2 h (by omega)⟩
theorem led_s {σ : HS} {b v a c : Nat} {x y : Nat} (h : sI σ (b + 14) a = nI c) (e : x = if a = v then y else c) : sI (uI σ (b + 14) v (nI y)) (b + 14) a = nI x := by
  rw [sI_uI, e]
  by_cases q : a = v
  · rw [if_pos ⟨rfl, q⟩, if_pos q]
  · rw [if_neg fun z => q z.2, if_neg q, h]
theorem y2_led {g : GG} {σ0 : HS} {b : Nat} (hb0 : RB σ0 b) {q : PS} (hc : BC q) (hw : WFs q) (hnb : NB q) (h14 : sI σ0 b 14 = nI (NN q)) (h12 : ∀ i, i < NN q → sI σ0 (b + 12) i = oW (ld q 0 i) ∧ sI σ0 (b + 13) i = oW (ld q 1 i)) : ∀ (k n : Nat) (σ : HS), n + k = NN q → L14 b σ0 σ → (∀ i, i < 240 → sI σ (b + 14) i = nI (cntL q i n)) → WA g mX2_countLedBy 1 0 0 (ZM g (fun r σ' => r = none ∧ L14 b σ0 σ' ∧ ∀ i, i < 240 → sI σ' (b + 14) i = nI (cntL q i (NN q))) 0 0) 0 0 10 [(0, .ref b), (1, .int (nI n))] [] σ := by
  have hb14 : b = 14 ∨ 99 ≤ b := by rcases hb0.1 with h | ⟨j, h⟩ <;> omega
  have hNN := NN_le hc
  intro k
  induction k with
  | zero =>
    intro n σ hn h0 hi
    have hb := RB.lf h0.lf hb0
    have hN : sI σ b 14 = nI (NN q) := by rw [h0.2.2.2 b (by omega)]; exact h14
    refine q_iload_n dX2_countLedBy_10 rfl rfl ?_
    refine q_aload_n dX2_countLedBy_11 rfl rfl rfl ?_
    refine q_geti (x := nI (NN q)) dX2_countLedBy_12 fX2_68 rfl (ty_r hb 0 rfl) hN ?_
    refine q_icmp_geN (tgt := 65) dX2_countLedBy_15 (by decide) (by omega) (by omega) (fun c15 => ?_) (fun c15 => ?_)
    · skip
      refine q_return dX2_countLedBy_65 rfl (by omega) (by omega) ?_
      rw [← hn]
      exact ⟨rfl, h0, hi⟩
    · exact absurd c15 (by omega)
  | succ k ih =>
    intro n σ hn h0 hi
    have hb := RB.lf h0.lf hb0
    have hN : sI σ b 14 = nI (NN q) := by rw [h0.2.2.2 b (by omega)]; exact h14
    have g0 : sI σ (b + 12) n = oW (ld q 0 n) := by rw [h0.2.2.2 (b + 12) (by omega)]; exact (h12 n (by omega)).1
    have g1 : sI σ (b + 13) n = oW (ld q 1 n) := by rw [h0.2.2.2 (b + 13) (by omega)]; exact (h12 n (by omega)).2
    have hlt := fun w i => ld_lt hc hw hnb (w := w) (n := n) (i := i) (by omega)
    cases l0 : ld q 0 n with
    | none =>
      rw [l0] at g0
      cases l1 : ld q 1 n with
      | none =>
        rw [l1] at g1
        refine q_iload_n dX2_countLedBy_10 rfl rfl ?_
        refine q_aload_n dX2_countLedBy_11 rfl rfl rfl ?_
        refine q_geti (x := nI (NN q)) dX2_countLedBy_12 fX2_68 rfl (ty_r hb 0 rfl) hN ?_
        refine q_icmp_geN (tgt := 65) dX2_countLedBy_15 (by decide) (by omega) (by omega) (fun c15 => ?_) (fun c15 => ?_)
        · exact absurd c15 (by omega)
        · skip
          refine q_iconst (v := nI 0) dX2_countLedBy_18 rfl ?_
          refine q_istore_n dX2_countLedBy_19 rfl (by decide) (ls' := [(2, .int (nI 0)), (0, .ref b), (1, .int (nI n))]) rfl ?_
          refine q_iload_n dX2_countLedBy_20 rfl rfl ?_
          refine q_iconst (v := nI 2) dX2_countLedBy_21 rfl ?_
          refine q_icmp_geN (tgt := 59) dX2_countLedBy_22 (by decide) (by omega) (by omega) (fun h => absurd h (by decide)) (fun _ => ?_)
          refine q_aload_n dX2_countLedBy_25 rfl rfl rfl ?_
          refine q_getr (r := b + 11) dX2_countLedBy_26 fX2_32 rfl (ty_r hb 0 rfl) (hb.2.2 0 6 11 rfl) ?_
          refine q_iload_n dX2_countLedBy_29 rfl rfl ?_
          refine q_aald (r := b + 12) (j := 0) dX2_countLedBy_30 (ty_r hb 11 rfl) (Or.inl rfl) (ix_n (by omega) (by omega)) (hb.2.2 11 0 12 rfl) ?_
          refine q_iload_n dX2_countLedBy_31 rfl rfl ?_
          refine q_iald (x := (-1)) (j := n) dX2_countLedBy_32 (ty_r hb 12 rfl) (ix_n (by omega) (by omega)) g0 ?_
          refine q_if_lt1 (tgt := 53) dX2_countLedBy_33 (by decide) (by decide) ?_
          refine q_iincN (c := 1) dX2_countLedBy_53 rfl (by decide) rfl (ls' := [(2, .int (nI 1)), (0, .ref b), (1, .int (nI n))]) rfl ?_
          refine q_goto (tgt := 20) dX2_countLedBy_56 (by decide) ?_
          refine q_iload_n dX2_countLedBy_20 rfl rfl ?_
          refine q_iconst (v := nI 2) dX2_countLedBy_21 rfl ?_
          refine q_icmp_geN (tgt := 59) dX2_countLedBy_22 (by decide) (by omega) (by omega) (fun h => absurd h (by decide)) (fun _ => ?_)
          refine q_aload_n dX2_countLedBy_25 rfl rfl rfl ?_
          refine q_getr (r := b + 11) dX2_countLedBy_26 fX2_32 rfl (ty_r hb 0 rfl) (hb.2.2 0 6 11 rfl) ?_
          refine q_iload_n dX2_countLedBy_29 rfl rfl ?_
          refine q_aald (r := b + 13) (j := 1) dX2_countLedBy_30 (ty_r hb 11 rfl) (Or.inl rfl) (ix_n (by omega) (by omega)) (hb.2.2 11 1 13 rfl) ?_
          refine q_iload_n dX2_countLedBy_31 rfl rfl ?_
          refine q_iald (x := (-1)) (j := n) dX2_countLedBy_32 (ty_r hb 13 rfl) (ix_n (by omega) (by omega)) g1 ?_
          refine q_if_lt1 (tgt := 53) dX2_countLedBy_33 (by decide) (by decide) ?_
          refine q_iincN (c := 1) dX2_countLedBy_53 rfl (by decide) rfl (ls' := [(2, .int (nI 2)), (0, .ref b), (1, .int (nI n))]) rfl ?_
          refine q_goto (tgt := 20) dX2_countLedBy_56 (by decide) ?_
          refine q_iload_n dX2_countLedBy_20 rfl rfl ?_
          refine q_iconst (v := nI 2) dX2_countLedBy_21 rfl ?_
          refine q_icmp_geN (tgt := 59) dX2_countLedBy_22 (by decide) (by omega) (by omega) (fun _ => ?_) (fun h => absurd h (by decide))
          refine q_iincN (c := 1) dX2_countLedBy_59 rfl (by decide) rfl (ls' := [(1, .int (nI (n + 1))), (2, .int (nI 2)), (0, .ref b)]) rfl ?_
          refine q_goto (tgt := 10) dX2_countLedBy_62 (by decide) ?_
          refine q_pk [2, 0] (ls' := [(0, .ref b), (1, .int (nI (n + 1)))]) rfl ?_
          refine ih (n + 1) _ (by omega) h0 (fun i h => ?_)
          show _ = nI (cntL q i n + cl1 q i n)
          unfold cl1
          rw [l0, l1]
          simp only [reduceCtorEq, if_false, Nat.add_zero]
          exact hi i h
      | some v1 =>
        rw [l1] at g1
        have b1 := hlt 1 v1 l1
        have c1 := cntL_le q v1 n
        refine q_iload_n dX2_countLedBy_10 rfl rfl ?_
        refine q_aload_n dX2_countLedBy_11 rfl rfl rfl ?_
        refine q_geti (x := nI (NN q)) dX2_countLedBy_12 fX2_68 rfl (ty_r hb 0 rfl) hN ?_
        refine q_icmp_geN (tgt := 65) dX2_countLedBy_15 (by decide) (by omega) (by omega) (fun c15 => ?_) (fun c15 => ?_)
        · exact absurd c15 (by omega)
        · skip
          refine q_iconst (v := nI 0) dX2_countLedBy_18 rfl ?_
          refine q_istore_n dX2_countLedBy_19 rfl (by decide) (ls' := [(2, .int (nI 0)), (0, .ref b), (1, .int (nI n))]) rfl ?_
          refine q_iload_n dX2_countLedBy_20 rfl rfl ?_
          refine q_iconst (v := nI 2) dX2_countLedBy_21 rfl ?_
          refine q_icmp_geN (tgt := 59) dX2_countLedBy_22 (by decide) (by omega) (by omega) (fun h => absurd h (by decide)) (fun _ => ?_)
          refine q_aload_n dX2_countLedBy_25 rfl rfl rfl ?_
          refine q_getr (r := b + 11) dX2_countLedBy_26 fX2_32 rfl (ty_r hb 0 rfl) (hb.2.2 0 6 11 rfl) ?_
          refine q_iload_n dX2_countLedBy_29 rfl rfl ?_
          refine q_aald (r := b + 12) (j := 0) dX2_countLedBy_30 (ty_r hb 11 rfl) (Or.inl rfl) (ix_n (by omega) (by omega)) (hb.2.2 11 0 12 rfl) ?_
          refine q_iload_n dX2_countLedBy_31 rfl rfl ?_
          refine q_iald (x := (-1)) (j := n) dX2_countLedBy_32 (ty_r hb 12 rfl) (ix_n (by omega) (by omega)) g0 ?_
          refine q_if_lt1 (tgt := 53) dX2_countLedBy_33 (by decide) (by decide) ?_
          refine q_iincN (c := 1) dX2_countLedBy_53 rfl (by decide) rfl (ls' := [(2, .int (nI 1)), (0, .ref b), (1, .int (nI n))]) rfl ?_
          refine q_goto (tgt := 20) dX2_countLedBy_56 (by decide) ?_
          refine q_iload_n dX2_countLedBy_20 rfl rfl ?_
          refine q_iconst (v := nI 2) dX2_countLedBy_21 rfl ?_
          refine q_icmp_geN (tgt := 59) dX2_countLedBy_22 (by decide) (by omega) (by omega) (fun h => absurd h (by decide)) (fun _ => ?_)
          refine q_aload_n dX2_countLedBy_25 rfl rfl rfl ?_
          refine q_getr (r := b + 11) dX2_countLedBy_26 fX2_32 rfl (ty_r hb 0 rfl) (hb.2.2 0 6 11 rfl) ?_
          refine q_iload_n dX2_countLedBy_29 rfl rfl ?_
          refine q_aald (r := b + 13) (j := 1) dX2_countLedBy_30 (ty_r hb 11 rfl) (Or.inl rfl) (ix_n (by omega) (by omega)) (hb.2.2 11 1 13 rfl) ?_
          refine q_iload_n dX2_countLedBy_31 rfl rfl ?_
          refine q_iald (x := nI v1) (j := n) dX2_countLedBy_32 (ty_r hb 13 rfl) (ix_n (by omega) (by omega)) g1 ?_
          refine q_if_ltN (tgt := 53) dX2_countLedBy_33 (by decide) (by omega) ?_
          refine q_aload_n dX2_countLedBy_36 rfl rfl rfl ?_
          refine q_getr (r := b + 14) dX2_countLedBy_37 fX2_35 rfl (ty_r hb 0 rfl) (hb.2.2 0 7 14 rfl) ?_
          refine q_aload_n dX2_countLedBy_40 rfl rfl rfl ?_
          refine q_getr (r := b + 11) dX2_countLedBy_41 fX2_32 rfl (ty_r hb 0 rfl) (hb.2.2 0 6 11 rfl) ?_
          refine q_iload_n dX2_countLedBy_44 rfl rfl ?_
          refine q_aald (r := b + 13) (j := 1) dX2_countLedBy_45 (ty_r hb 11 rfl) (Or.inl rfl) (ix_n (by omega) (by omega)) (hb.2.2 11 1 13 rfl) ?_
          refine q_iload_n dX2_countLedBy_46 rfl rfl ?_
          refine q_iald (x := nI v1) (j := n) dX2_countLedBy_47 (ty_r hb 13 rfl) (ix_n (by omega) (by omega)) g1 ?_
          refine q_dup2 dX2_countLedBy_48 rfl rfl ?_
          refine q_iald (x := nI (cntL q v1 n)) (j := v1) dX2_countLedBy_49 (ty_r hb 14 rfl) (ix_n (by omega) (by omega)) (hi v1 (by omega)) ?_
          refine q_iconst (v := nI 1) dX2_countLedBy_50 rfl ?_
          refine q_iaddN dX2_countLedBy_51 ?_
          refine q_iast (j := v1) dX2_countLedBy_52 (ty_r hb 14 rfl) (ix_n (by omega) (by omega)) ?_
          refine q_iincN (c := 1) dX2_countLedBy_53 rfl (by decide) rfl (ls' := [(2, .int (nI 2)), (0, .ref b), (1, .int (nI n))]) rfl ?_
          refine q_goto (tgt := 20) dX2_countLedBy_56 (by decide) ?_
          refine q_iload_n dX2_countLedBy_20 rfl rfl ?_
          refine q_iconst (v := nI 2) dX2_countLedBy_21 rfl ?_
          refine q_icmp_geN (tgt := 59) dX2_countLedBy_22 (by decide) (by omega) (by omega) (fun _ => ?_) (fun h => absurd h (by decide))
          refine q_iincN (c := 1) dX2_countLedBy_59 rfl (by decide) rfl (ls' := [(1, .int (nI (n + 1))), (2, .int (nI 2)), (0, .ref b)]) rfl ?_
          refine q_goto (tgt := 10) dX2_countLedBy_62 (by decide) ?_
          refine q_pk [2, 0] (ls' := [(0, .ref b), (1, .int (nI (n + 1)))]) rfl ?_
          refine ih (n + 1) _ (by omega) h0.uI (fun i h => ?_)
          show _ = nI (cntL q i n + cl1 q i n)
          unfold cl1
          rw [l0, l1]
          refine led_s (hi i h) ?_
          by_cases e : i = v1
          · subst e; simp
          · rw [if_neg e]; simp [Ne.symm e]
    | some v0 =>
      rw [l0] at g0
      have b0 := hlt 0 v0 l0
      have c0 := cntL_le q v0 n
      cases l1 : ld q 1 n with
      | none =>
        rw [l1] at g1
        refine q_iload_n dX2_countLedBy_10 rfl rfl ?_
        refine q_aload_n dX2_countLedBy_11 rfl rfl rfl ?_
        refine q_geti (x := nI (NN q)) dX2_countLedBy_12 fX2_68 rfl (ty_r hb 0 rfl) hN ?_
        refine q_icmp_geN (tgt := 65) dX2_countLedBy_15 (by decide) (by omega) (by omega) (fun c15 => ?_) (fun c15 => ?_)
        · exact absurd c15 (by omega)
        · skip
          refine q_iconst (v := nI 0) dX2_countLedBy_18 rfl ?_
          refine q_istore_n dX2_countLedBy_19 rfl (by decide) (ls' := [(2, .int (nI 0)), (0, .ref b), (1, .int (nI n))]) rfl ?_
          refine q_iload_n dX2_countLedBy_20 rfl rfl ?_
          refine q_iconst (v := nI 2) dX2_countLedBy_21 rfl ?_
          refine q_icmp_geN (tgt := 59) dX2_countLedBy_22 (by decide) (by omega) (by omega) (fun h => absurd h (by decide)) (fun _ => ?_)
          refine q_aload_n dX2_countLedBy_25 rfl rfl rfl ?_
          refine q_getr (r := b + 11) dX2_countLedBy_26 fX2_32 rfl (ty_r hb 0 rfl) (hb.2.2 0 6 11 rfl) ?_
          refine q_iload_n dX2_countLedBy_29 rfl rfl ?_
          refine q_aald (r := b + 12) (j := 0) dX2_countLedBy_30 (ty_r hb 11 rfl) (Or.inl rfl) (ix_n (by omega) (by omega)) (hb.2.2 11 0 12 rfl) ?_
          refine q_iload_n dX2_countLedBy_31 rfl rfl ?_
          refine q_iald (x := nI v0) (j := n) dX2_countLedBy_32 (ty_r hb 12 rfl) (ix_n (by omega) (by omega)) g0 ?_
          refine q_if_ltN (tgt := 53) dX2_countLedBy_33 (by decide) (by omega) ?_
          refine q_aload_n dX2_countLedBy_36 rfl rfl rfl ?_
          refine q_getr (r := b + 14) dX2_countLedBy_37 fX2_35 rfl (ty_r hb 0 rfl) (hb.2.2 0 7 14 rfl) ?_
          refine q_aload_n dX2_countLedBy_40 rfl rfl rfl ?_
          refine q_getr (r := b + 11) dX2_countLedBy_41 fX2_32 rfl (ty_r hb 0 rfl) (hb.2.2 0 6 11 rfl) ?_
          refine q_iload_n dX2_countLedBy_44 rfl rfl ?_
          refine q_aald (r := b + 12) (j := 0) dX2_countLedBy_45 (ty_r hb 11 rfl) (Or.inl rfl) (ix_n (by omega) (by omega)) (hb.2.2 11 0 12 rfl) ?_
          refine q_iload_n dX2_countLedBy_46 rfl rfl ?_
          refine q_iald (x := nI v0) (j := n) dX2_countLedBy_47 (ty_r hb 12 rfl) (ix_n (by omega) (by omega)) g0 ?_
          refine q_dup2 dX2_countLedBy_48 rfl rfl ?_
          refine q_iald (x := nI (cntL q v0 n)) (j := v0) dX2_countLedBy_49 (ty_r hb 14 rfl) (ix_n (by omega) (by omega)) (hi v0 (by omega)) ?_
          refine q_iconst (v := nI 1) dX2_countLedBy_50 rfl ?_
          refine q_iaddN dX2_countLedBy_51 ?_
          refine q_iast (j := v0) dX2_countLedBy_52 (ty_r hb 14 rfl) (ix_n (by omega) (by omega)) ?_
          refine q_iincN (c := 1) dX2_countLedBy_53 rfl (by decide) rfl (ls' := [(2, .int (nI 1)), (0, .ref b), (1, .int (nI n))]) rfl ?_
          refine q_goto (tgt := 20) dX2_countLedBy_56 (by decide) ?_
          refine q_iload_n dX2_countLedBy_20 rfl rfl ?_
          refine q_iconst (v := nI 2) dX2_countLedBy_21 rfl ?_
          refine q_icmp_geN (tgt := 59) dX2_countLedBy_22 (by decide) (by omega) (by omega) (fun h => absurd h (by decide)) (fun _ => ?_)
          refine q_aload_n dX2_countLedBy_25 rfl rfl rfl ?_
          refine q_getr (r := b + 11) dX2_countLedBy_26 fX2_32 rfl (ty_r hb 0 rfl) (hb.2.2 0 6 11 rfl) ?_
          refine q_iload_n dX2_countLedBy_29 rfl rfl ?_
          refine q_aald (r := b + 13) (j := 1) dX2_countLedBy_30 (ty_r hb 11 rfl) (Or.inl rfl) (ix_n (by omega) (by omega)) (hb.2.2 11 1 13 rfl) ?_
          refine q_iload_n dX2_countLedBy_31 rfl rfl ?_
          refine q_iald (x := (-1)) (j := n) dX2_countLedBy_32 (ty_r hb 13 rfl) (ix_n (by omega) (by omega)) (Eq.trans (rd_off (by omega)) g1) ?_
          refine q_if_lt1 (tgt := 53) dX2_countLedBy_33 (by decide) (by decide) ?_
          refine q_iincN (c := 1) dX2_countLedBy_53 rfl (by decide) rfl (ls' := [(2, .int (nI 2)), (0, .ref b), (1, .int (nI n))]) rfl ?_
          refine q_goto (tgt := 20) dX2_countLedBy_56 (by decide) ?_
          refine q_iload_n dX2_countLedBy_20 rfl rfl ?_
          refine q_iconst (v := nI 2) dX2_countLedBy_21 rfl ?_
          refine q_icmp_geN (tgt := 59) dX2_countLedBy_22 (by decide) (by omega) (by omega) (fun _ => ?_) (fun h => absurd h (by decide))
          refine q_iincN (c := 1) dX2_countLedBy_59 rfl (by decide) rfl (ls' := [(1, .int (nI (n + 1))), (2, .int (nI 2)), (0, .ref b)]) rfl ?_
          refine q_goto (tgt := 10) dX2_countLedBy_62 (by decide) ?_
          refine q_pk [2, 0] (ls' := [(0, .ref b), (1, .int (nI (n + 1)))]) rfl ?_
          refine ih (n + 1) _ (by omega) h0.uI (fun i h => ?_)
          show _ = nI (cntL q i n + cl1 q i n)
          unfold cl1
          rw [l0, l1]
          refine led_s (hi i h) ?_
          by_cases e : i = v0
          · subst e; simp
          · rw [if_neg e]; simp [Ne.symm e]
      | some v1 =>
        rw [l1] at g1
        have b1 := hlt 1 v1 l1
        have c1 := cntL_le q v1 n
        refine q_iload_n dX2_countLedBy_10 rfl rfl ?_
        refine q_aload_n dX2_countLedBy_11 rfl rfl rfl ?_
        refine q_geti (x := nI (NN q)) dX2_countLedBy_12 fX2_68 rfl (ty_r hb 0 rfl) hN ?_
        refine q_icmp_geN (tgt := 65) dX2_countLedBy_15 (by decide) (by omega) (by omega) (fun c15 => ?_) (fun c15 => ?_)
        · exact absurd c15 (by omega)
        · skip
          refine q_iconst (v := nI 0) dX2_countLedBy_18 rfl ?_
          refine q_istore_n dX2_countLedBy_19 rfl (by decide) (ls' := [(2, .int (nI 0)), (0, .ref b), (1, .int (nI n))]) rfl ?_
          refine q_iload_n dX2_countLedBy_20 rfl rfl ?_
          refine q_iconst (v := nI 2) dX2_countLedBy_21 rfl ?_
          refine q_icmp_geN (tgt := 59) dX2_countLedBy_22 (by decide) (by omega) (by omega) (fun h => absurd h (by decide)) (fun _ => ?_)
          refine q_aload_n dX2_countLedBy_25 rfl rfl rfl ?_
          refine q_getr (r := b + 11) dX2_countLedBy_26 fX2_32 rfl (ty_r hb 0 rfl) (hb.2.2 0 6 11 rfl) ?_
          refine q_iload_n dX2_countLedBy_29 rfl rfl ?_
          refine q_aald (r := b + 12) (j := 0) dX2_countLedBy_30 (ty_r hb 11 rfl) (Or.inl rfl) (ix_n (by omega) (by omega)) (hb.2.2 11 0 12 rfl) ?_
          refine q_iload_n dX2_countLedBy_31 rfl rfl ?_
          refine q_iald (x := nI v0) (j := n) dX2_countLedBy_32 (ty_r hb 12 rfl) (ix_n (by omega) (by omega)) g0 ?_
          refine q_if_ltN (tgt := 53) dX2_countLedBy_33 (by decide) (by omega) ?_
          refine q_aload_n dX2_countLedBy_36 rfl rfl rfl ?_
          refine q_getr (r := b + 14) dX2_countLedBy_37 fX2_35 rfl (ty_r hb 0 rfl) (hb.2.2 0 7 14 rfl) ?_
          refine q_aload_n dX2_countLedBy_40 rfl rfl rfl ?_
          refine q_getr (r := b + 11) dX2_countLedBy_41 fX2_32 rfl (ty_r hb 0 rfl) (hb.2.2 0 6 11 rfl) ?_
          refine q_iload_n dX2_countLedBy_44 rfl rfl ?_
          refine q_aald (r := b + 12) (j := 0) dX2_countLedBy_45 (ty_r hb 11 rfl) (Or.inl rfl) (ix_n (by omega) (by omega)) (hb.2.2 11 0 12 rfl) ?_
          refine q_iload_n dX2_countLedBy_46 rfl rfl ?_
          refine q_iald (x := nI v0) (j := n) dX2_countLedBy_47 (ty_r hb 12 rfl) (ix_n (by omega) (by omega)) g0 ?_
          refine q_dup2 dX2_countLedBy_48 rfl rfl ?_
          refine q_iald (x := nI (cntL q v0 n)) (j := v0) dX2_countLedBy_49 (ty_r hb 14 rfl) (ix_n (by omega) (by omega)) (hi v0 (by omega)) ?_
          refine q_iconst (v := nI 1) dX2_countLedBy_50 rfl ?_
          refine q_iaddN dX2_countLedBy_51 ?_
          refine q_iast (j := v0) dX2_countLedBy_52 (ty_r hb 14 rfl) (ix_n (by omega) (by omega)) ?_
          refine q_iincN (c := 1) dX2_countLedBy_53 rfl (by decide) rfl (ls' := [(2, .int (nI 1)), (0, .ref b), (1, .int (nI n))]) rfl ?_
          refine q_goto (tgt := 20) dX2_countLedBy_56 (by decide) ?_
          refine q_iload_n dX2_countLedBy_20 rfl rfl ?_
          refine q_iconst (v := nI 2) dX2_countLedBy_21 rfl ?_
          refine q_icmp_geN (tgt := 59) dX2_countLedBy_22 (by decide) (by omega) (by omega) (fun h => absurd h (by decide)) (fun _ => ?_)
          refine q_aload_n dX2_countLedBy_25 rfl rfl rfl ?_
          refine q_getr (r := b + 11) dX2_countLedBy_26 fX2_32 rfl (ty_r hb 0 rfl) (hb.2.2 0 6 11 rfl) ?_
          refine q_iload_n dX2_countLedBy_29 rfl rfl ?_
          refine q_aald (r := b + 13) (j := 1) dX2_countLedBy_30 (ty_r hb 11 rfl) (Or.inl rfl) (ix_n (by omega) (by omega)) (hb.2.2 11 1 13 rfl) ?_
          refine q_iload_n dX2_countLedBy_31 rfl rfl ?_
          refine q_iald (x := nI v1) (j := n) dX2_countLedBy_32 (ty_r hb 13 rfl) (ix_n (by omega) (by omega)) (Eq.trans (rd_off (by omega)) g1) ?_
          refine q_if_ltN (tgt := 53) dX2_countLedBy_33 (by decide) (by omega) ?_
          refine q_aload_n dX2_countLedBy_36 rfl rfl rfl ?_
          refine q_getr (r := b + 14) dX2_countLedBy_37 fX2_35 rfl (ty_r hb 0 rfl) (hb.2.2 0 7 14 rfl) ?_
          refine q_aload_n dX2_countLedBy_40 rfl rfl rfl ?_
          refine q_getr (r := b + 11) dX2_countLedBy_41 fX2_32 rfl (ty_r hb 0 rfl) (hb.2.2 0 6 11 rfl) ?_
          refine q_iload_n dX2_countLedBy_44 rfl rfl ?_
          refine q_aald (r := b + 13) (j := 1) dX2_countLedBy_45 (ty_r hb 11 rfl) (Or.inl rfl) (ix_n (by omega) (by omega)) (hb.2.2 11 1 13 rfl) ?_
          refine q_iload_n dX2_countLedBy_46 rfl rfl ?_
          refine q_iald (x := nI v1) (j := n) dX2_countLedBy_47 (ty_r hb 13 rfl) (ix_n (by omega) (by omega)) (Eq.trans (rd_off (by omega)) g1) ?_
          refine q_dup2 dX2_countLedBy_48 rfl rfl ?_
          refine q_iald (x := nI (if v1 = v0 then cntL q v0 n + 1 else cntL q v1 n)) (j := v1) dX2_countLedBy_49 (ty_r hb 14 rfl) (ix_n (by omega) (by omega)) (led_s (hi v1 (by omega)) rfl) ?_
          refine q_iconst (v := nI 1) dX2_countLedBy_50 rfl ?_
          refine q_iaddN dX2_countLedBy_51 ?_
          refine q_iast (j := v1) dX2_countLedBy_52 (ty_r hb 14 rfl) (ix_n (by omega) (by omega)) ?_
          refine q_iincN (c := 1) dX2_countLedBy_53 rfl (by decide) rfl (ls' := [(2, .int (nI 2)), (0, .ref b), (1, .int (nI n))]) rfl ?_
          refine q_goto (tgt := 20) dX2_countLedBy_56 (by decide) ?_
          refine q_iload_n dX2_countLedBy_20 rfl rfl ?_
          refine q_iconst (v := nI 2) dX2_countLedBy_21 rfl ?_
          refine q_icmp_geN (tgt := 59) dX2_countLedBy_22 (by decide) (by omega) (by omega) (fun _ => ?_) (fun h => absurd h (by decide))
          refine q_iincN (c := 1) dX2_countLedBy_59 rfl (by decide) rfl (ls' := [(1, .int (nI (n + 1))), (2, .int (nI 2)), (0, .ref b)]) rfl ?_
          refine q_goto (tgt := 10) dX2_countLedBy_62 (by decide) ?_
          refine q_pk [2, 0] (ls' := [(0, .ref b), (1, .int (nI (n + 1)))]) rfl ?_
          refine ih (n + 1) _ (by omega) h0.uI.uI (fun i h => ?_)
          show _ = nI (cntL q i n + cl1 q i n)
          unfold cl1
          rw [l0, l1]
          have hs := led_s (v := v0) (y := cntL q v0 n + 1) (hi i h) rfl
          refine led_s hs ?_
          by_cases e : i = v1
          · subst e
            by_cases e2 : i = v0
            · subst e2; simp
            · simp [e2, Ne.symm e2]
          · by_cases e2 : i = v0
            · subst e2; simp [e, Ne.symm e]
            · simp [e, e2, Ne.symm e, Ne.symm e2]

theorem L14.fil {b n : Nat} {σ : HS} {v : Int32} : L14 b σ (filS σ (b + 14) v n) := ⟨(filS_R n).2.2, (filS_R n).1, (filS_R n).2.1, fun h hh => funext fun i => by rw [filS_I, if_neg (by omega)]⟩
theorem z2_countLedBy {g : GG} {σ : HS} {b : Nat} (hb : RB σ b) {q : PS} (hc : BC q) (hw : WFs q) (hnb : NB q) (h14 : sI σ b 14 = nI (NN q)) (h12 : ∀ i, i < NN q → sI σ (b + 12) i = oW (ld q 0 i) ∧ sI σ (b + 13) i = oW (ld q 1 i)) : CT g mX2_countLedBy 1 0 0 [.ref b] σ (fun r σ' => r = none ∧ L14 b σ σ' ∧ ∀ i, i < 240 → sI σ' (b + 14) i = nI (cntL q i (NN q))) := by
  have hb14 : b = 14 ∨ 99 ≤ b := by rcases hb.1 with h | ⟨j, h⟩ <;> omega
  refine CT.of (by decide) (Nat.le_of_ble_eq_true rfl) ?_
  refine q_aload_n dX2_countLedBy_0 rfl rfl rfl ?_
  refine q_getr (r := b + 14) dX2_countLedBy_1 fX2_35 rfl (ty_r hb 0 rfl) (hb.2.2 0 7 14 rfl) ?_
  refine q_iconst (v := nI 0) dX2_countLedBy_4 rfl ?_
  refine q_callS (As := [.ref (b + 14), .int (nI 0)]) (rest := []) dX2_countLedBy_5 vX2_109 (zJ7_fill (len := 240) (ty_r hb 14 rfl) (by decide)) rfl rfl (Nat.le_of_ble_eq_true rfl) (by omega) (by omega) (by omega) (k_s ?_)
  refine q_iconst (v := nI 0) dX2_countLedBy_8 rfl ?_
  refine q_istore_n dX2_countLedBy_9 rfl (by decide) (ls' := [(1, .int (nI 0)), (0, .ref b)]) rfl ?_
  refine q_pk [1, 0] (ls' := [(0, .ref b), (1, .int (nI 0))]) rfl ?_
  exact y2_led hb hc hw hnb h14 h12 (NN q) 0 _ (by omega) L14.fil (fun i hi => (by rw [filS_I, if_pos ⟨rfl, hi⟩]; rfl))
