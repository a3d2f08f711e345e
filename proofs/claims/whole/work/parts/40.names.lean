/-! The class's parser: the blocks that ends name. -/
def un (x : Int32) : Option Nat := if x < 0 then none else some x.toNatClampNeg
theorem un_oW {o : Option Nat} (h : ∀ v, o = some v → v < 2147483648) : un (oW o) = o := by
  cases o with
  | none => rfl
  | some v =>
    have := h v rfl
    show (if nI v < 0 then none else some (nI v).toNatClampNeg) = some v
    rw [if_neg (nI_pos (by omega)), nI_clamp (by omega)]
/-- the end of block j -/
def eR (q : PS) (j : Nat) : REC := rr q (nf q (j + 1) - 1)
def wy (q : PS) (w j : Nat) : Option Nat := un (if w = 0 then rW0 (eR q j) else rW1 (eR q j))
def pl (q : PS) (w j : Nat) : Nat := if w = 0 then rP0 (eR q j) else rP1 (eR q j)
theorem rr_mem {q : PS} {i : Nat} (h : i < (psS q).length) : rr q i ∈ psS q := gd_mem h
theorem nf_le {q : PS} (h : BC q) {j : Nat} (hj : j ≤ (psF q).length) : nf q j ≤ (psS q).length := by
  obtain ⟨-, -, -, -, b5, -⟩ := h
  by_cases e : j < (psF q).length
  · have h1 := nf_mono (fun i hi => b5 i (by omega)) ((psF q).length - 1 - j) j (by omega)
    have h2 := b5 ((psF q).length - 1) (by omega)
    rw [show (psF q).length - 1 + 1 = (psF q).length by omega, nf_ge (Nat.le_refl _)] at h2
    rw [show j + ((psF q).length - 1 - j) = (psF q).length - 1 by omega] at h1
    omega
  · rw [nf_ge (by omega)]; exact Nat.le_refl _
/-- what is known of the end of block j -/
theorem end_w {q : PS} (hc : BC q) (hw : WFs q) {j : Nat} (hj : j < (psF q).length) : 1 ≤ nf q (j + 1) ∧ nf q (j + 1) ≤ 160 ∧ nf q (j + 1) - 1 < (psS q).length ∧ rB (eR q j) = j ∧ 4 ≤ rK (eR q j) ∧ rK (eR q j) ≤ 6 ∧ rW0 (eR q j) = oW (wy q 0 j) ∧ rW1 (eR q j) = oW (wy q 1 j) ∧ (∀ w t, wy q w j = some t → t < 40) ∧ (rK (eR q j) = 4 → (wy q 0 j).isSome ∧ wy q 1 j = none) ∧ (rK (eR q j) = 5 → (wy q 0 j).isSome ∧ (wy q 1 j).isSome) ∧ (rK (eR q j) = 6 → wy q 0 j = none ∧ wy q 1 j = none) := by
  have h1 := nf_le hc (j := j + 1) (by omega)
  obtain ⟨b1, b2, b3, b4, b5, b6⟩ := hc
  have h2 := b5 j hj
  have h3 := b6 j hj (nf q (j + 1) - 1) (by omega) (by omega)
  obtain ⟨⟨c1, -, -, -, w0, w1, c2, c3, c4, c5, c6, c7, c8, c9⟩, -⟩ := hw.1 _ (rr_mem (q := q) (i := nf q (j + 1) - 1) (by omega))
  have e0 : wy q 0 j = w0 := by
    show un (rW0 (eR q j)) = w0
    unfold eR; rw [c2]; exact un_oW fun v hv => by have := c4 v hv; omega
  have e1 : wy q 1 j = w1 := by
    show un (rW1 (eR q j)) = w1
    unfold eR; rw [c3]; exact un_oW fun v hv => by have := c5 v hv; omega
  refine ⟨by omega, by omega, by omega, h3.1, h3.2.mpr (by omega), c1, by rw [e0]; exact c2, by rw [e1]; exact c3, fun w t ht => ?_, fun k => by rw [e0, e1]; exact c7 k, fun k => by rw [e0, e1]; exact c8 k, fun k => by rw [e0, e1]; exact c9 k⟩
  by_cases ew : w = 0
  · subst ew; rw [e0] at ht; exact c4 t ht
  · have : wy q w j = wy q 1 j := by unfold wy; rw [if_neg ew, if_neg (by decide)]
    rw [this, e1] at ht; exact c5 t ht
theorem end_r {σ : HS} {b : Nat} {q : PS} (hP : PSR σ b q) (hc : BC q) (hw : WFs q) {j : Nat} (hj : j < (psF q).length) : sI σ (b + 15) (j + 1) = nI (nf q (j + 1)) ∧ sI σ (b + 1) (nf q (j + 1) - 1) = nI (rK (eR q j)) ∧ sI σ (b + 9) (nf q (j + 1) - 1) = oW (wy q 0 j) ∧ sI σ (b + 10) (nf q (j + 1) - 1) = oW (wy q 1 j) ∧ (∀ t, wy q 0 j = some t → sI σ 12 j = nI (pl q 0 j)) ∧ (∀ t, wy q 1 j = some t → sI σ 13 j = nI (pl q 1 j)) := by
  obtain ⟨e1, e2, e3, e4, e5, e6, e7, e8, e9, -⟩ := end_w hc hw hj
  obtain ⟨p1, p2, p3, p4, p5, p6, p7, p8, p9, p10⟩ := hP
  obtain ⟨c1, c2, c3, c4, c5, c6, c7, c8, c9, c10, c11, c12⟩ := p7 _ e3
  have g11 : rB (eR q j) = j := e4
  refine ⟨?_, c1, c7.trans e7, c8.trans e8, fun t ht => ?_, fun t ht => ?_⟩
  · by_cases e : j + 1 < (psF q).length
    · rw [nf_lt e]; exact p8 _ e
    · have ej : j + 1 = (psF q).length := by omega
      rw [nf_ge (by omega), ej]; exact p9 (by omega)
  · have h1 : rW0 (eR q j) ≠ -1 := by
      rw [e7, ht]
      have := e9 0 t ht
      show nI t ≠ -1
      intro q; have := nI_pos (n := t) (by omega); rw [q] at this; exact this (by decide)
    have := c11 e5 h1
    rw [← show rB (eR q j) = rB ((psS q).getD (nf q (j + 1) - 1) r0) from rfl, g11] at this
    exact this
  · have h1 : rW1 (eR q j) ≠ -1 := by
      rw [e8, ht]
      have := e9 1 t ht
      show nI t ≠ -1
      intro q; have := nI_pos (n := t) (by omega); rw [q] at this; exact this (by decide)
    have := c12 e5 h1
    rw [← show rB (eR q j) = rB ((psS q).getD (nf q (j + 1) - 1) r0) from rfl, g11] at this
    exact this
/-- a block that isn't there is named -/
def nbad (q : PS) (w j : Nat) : Prop := ∃ v, wy q w j = some v ∧ (v = 0 ∨ (psF q).length ≤ v)
def PE4 (q : PS) (e : Nat × Nat) : Prop := ∃ j, j < (psF q).length ∧ (∀ i, i < j → ¬ nbad q 0 i ∧ ¬ nbad q 1 i) ∧ ((nbad q 0 j ∧ e = (4, pl q 0 j)) ∨ (¬ nbad q 0 j ∧ nbad q 1 j ∧ e = (4, pl q 1 j)))
def NB (q : PS) : Prop := ∀ i, i < (psF q).length → ¬ nbad q 0 i ∧ ¬ nbad q 1 i
theorem PE4_no {q : PS} {e : Nat × Nat} (h : PE4 q e) (h2 : NB q) : False := by
  obtain ⟨j, h3, -, h5⟩ := h
  rcases h5 with ⟨a, -⟩ | ⟨-, a, -⟩
  · exact (h2 j h3).1 a
  · exact (h2 j h3).2 a
theorem PE4_un {q : PS} {e e' : Nat × Nat} (h : PE4 q e) (h' : PE4 q e') : e = e' := by
  obtain ⟨j, h1, h2, h3⟩ := h
  obtain ⟨j', g1, g2, g3⟩ := h'
  have ej : j = j' := by
    rcases Nat.lt_trichotomy j j' with l | l | l
    · have := g2 j l
      rcases h3 with ⟨a, -⟩ | ⟨-, a, -⟩
      · exact absurd a this.1
      · exact absurd a this.2
    · exact l
    · have := h2 j' l
      rcases g3 with ⟨a, -⟩ | ⟨-, a, -⟩
      · exact absurd a this.1
      · exact absurd a this.2
  subst ej
  rcases h3 with ⟨a, b⟩ | ⟨a, b, c⟩
  · rcases g3 with ⟨a', b'⟩ | ⟨a', -, -⟩
    · rw [b, b']
    · exact absurd a a'
  · rcases g3 with ⟨a', b'⟩ | ⟨a', b', c'⟩
    · exact absurd a' a
    · rw [c, c']
def NQ (σ : HS) (q : PS) : Option Value → HS → Prop := fun r σ' => (r = some (.int (bi true)) ∧ σ' = σ ∧ NB q) ∨ ∃ e, r = some (.int (bi false)) ∧ σ' = erS σ e ∧ PE4 q e
theorem nbad_n {q : PS} {w j : Nat} (h : wy q w j = none) : ¬ nbad q w j := fun ⟨_, h1, _⟩ => by rw [h] at h1; cases h1
theorem nbad_s {q : PS} {w j v : Nat} (h : wy q w j = some v) (h1 : v ≠ 0) (h2 : v < (psF q).length) : ¬ nbad q w j := fun ⟨u, h3, h4⟩ => by rw [h] at h3; cases h3; omega
theorem y1_named {g : GG} {σ : HS} (hS : SK σ) {b : Nat} (hb : RB σ b) (hR : sR σ 5 5 = b) {q : PS} (hP : PSR σ b q) (hc : BC q) (hw : WFs q) : ∀ (n j : Nat), j + n = (psF q).length → (∀ i, i < j → ¬ nbad q 0 i ∧ ¬ nbad q 1 i) → WA g mX1_areNamedBlocksThere 2 0 0 (ZM g (NQ σ q) 0 0) 0 0 2 [(0, .ref 5), (1, .int (nI j))] [] σ := by
  have hb14 : b = 14 ∨ 99 ≤ b := by rcases hb.1 with h | ⟨j, h⟩ <;> omega
  have hB : sI σ b 12 = nI (psF q).length := hP.1
  have h40 := hc.2.1
  intro n
  induction n with
  | zero =>
    intro j hj hn
    refine q_iload_n dX1_areNamedBlocksThere_2 rfl rfl ?_
    refine q_aload_n dX1_areNamedBlocksThere_3 rfl rfl rfl ?_
    refine q_getr (r := b) dX1_areNamedBlocksThere_4 fX1_30 rfl (ty_c hS (by decide) rfl) hR ?_
    refine q_geti (x := nI ((psF q).length)) dX1_areNamedBlocksThere_7 fX1_95 rfl (ty_r hb 0 rfl) hB ?_
    refine q_icmp_geN (tgt := 85) dX1_areNamedBlocksThere_10 (by decide) (by omega) (by omega) (fun c10 => ?_) (fun c10 => ?_)
    · skip
      refine q_iconst (v := nI 1) dX1_areNamedBlocksThere_85 rfl ?_
      refine q_ireturn dX1_areNamedBlocksThere_86 rfl rfl (by omega) (by omega) ?_
      exact Or.inl ⟨rfl, rfl, fun i hi => hn i (by omega)⟩
    · exact absurd c10 (by omega)
  | succ n ih =>
    intro j hj hn
    obtain ⟨e1, e2, e3, e4, e5, e6, e7, e8, e9, -⟩ := end_w hc hw (j := j) (by omega)
    obtain ⟨g1, g2, g3, g4, g5, g6⟩ := end_r hP hc hw (j := j) (by omega)
    have hI := ih (j + 1) (by omega)
    cases hw0 : wy q 0 j with
    | none =>
      rw [hw0] at g3
      have n0 := nbad_n hw0
      cases hw1 : wy q 1 j with
      | none =>
        rw [hw1] at g4
        have n1 := nbad_n hw1
        refine q_iload_n dX1_areNamedBlocksThere_2 rfl rfl ?_
        refine q_aload_n dX1_areNamedBlocksThere_3 rfl rfl rfl ?_
        refine q_getr (r := b) dX1_areNamedBlocksThere_4 fX1_30 rfl (ty_c hS (by decide) rfl) hR ?_
        refine q_geti (x := nI ((psF q).length)) dX1_areNamedBlocksThere_7 fX1_95 rfl (ty_r hb 0 rfl) hB ?_
        refine q_icmp_geN (tgt := 85) dX1_areNamedBlocksThere_10 (by decide) (by omega) (by omega) (fun c10 => ?_) (fun c10 => ?_)
        · exact absurd c10 (by omega)
        · skip
          refine q_aload_n dX1_areNamedBlocksThere_13 rfl rfl rfl ?_
          refine q_getr (r := b) dX1_areNamedBlocksThere_14 fX1_30 rfl (ty_c hS (by decide) rfl) hR ?_
          refine q_iload_n dX1_areNamedBlocksThere_17 rfl rfl ?_
          refine q_callV (As := [.int (nI j)]) (rest := []) dX1_areNamedBlocksThere_18 vX1_144 (ty_r hb 0 rfl) ⟨by decide, rfl⟩ (z2_endOf hb (by omega) g1 e1 (by omega)) rfl rfl (Nat.le_of_ble_eq_true rfl) (by omega) (by omega) (by omega) (k_p ?_)
          refine q_istore_n dX1_areNamedBlocksThere_21 rfl (by decide) (ls' := [(2, .int (nI (nf q (j + 1) - 1))), (0, .ref 5), (1, .int (nI j))]) rfl ?_
          refine q_iconst (v := nI 0) dX1_areNamedBlocksThere_22 rfl ?_
          refine q_istore_n dX1_areNamedBlocksThere_23 rfl (by decide) (ls' := [(3, .int (nI 0)), (2, .int (nI (nf q (j + 1) - 1))), (0, .ref 5), (1, .int (nI j))]) rfl ?_
          refine q_iload_n dX1_areNamedBlocksThere_24 rfl rfl ?_
          refine q_iconst (v := nI 2) dX1_areNamedBlocksThere_25 rfl ?_
          refine q_icmp_geN (tgt := 79) dX1_areNamedBlocksThere_26 (by decide) (by omega) (by omega) (fun h => absurd h (by decide)) (fun _ => ?_)
          refine q_aload_n dX1_areNamedBlocksThere_29 rfl rfl rfl ?_
          refine q_getr (r := b) dX1_areNamedBlocksThere_30 fX1_30 rfl (ty_c hS (by decide) rfl) hR ?_
          refine q_getr (r := b + 8) dX1_areNamedBlocksThere_33 fX1_133 rfl (ty_r hb 0 rfl) (hb.2.2 0 5 8 rfl) ?_
          refine q_iload_n dX1_areNamedBlocksThere_36 rfl rfl ?_
          refine q_aald (r := b + 9) (j := 0) dX1_areNamedBlocksThere_37 (ty_r hb 8 rfl) (Or.inl rfl) (ix_n (by omega) (by omega)) (hb.2.2 8 0 9 rfl) ?_
          refine q_iload_n dX1_areNamedBlocksThere_38 rfl rfl ?_
          refine q_iald (x := (-1)) (j := (nf q (j + 1) - 1)) dX1_areNamedBlocksThere_39 (ty_r hb 9 rfl) (ix_n (by omega) (by omega)) g3 ?_
          refine q_istore dX1_areNamedBlocksThere_40 (by decide) (ls' := [(4, .int (-1)), (3, .int (nI 0)), (2, .int (nI (nf q (j + 1) - 1))), (0, .ref 5), (1, .int (nI j))]) rfl ?_
          refine q_iload dX1_areNamedBlocksThere_42 rfl ?_
          refine q_if_eq (tgt := 59) dX1_areNamedBlocksThere_44 (by decide) (fun c44 => ?_) (fun c44 => ?_)
          · skip
            refine q_aload_n dX1_areNamedBlocksThere_59 rfl rfl rfl ?_
            refine q_iconst (v := nI 4) dX1_areNamedBlocksThere_60 rfl ?_
            refine q_aload_n dX1_areNamedBlocksThere_61 rfl rfl rfl ?_
            refine q_getr (r := 11) dX1_areNamedBlocksThere_62 fX1_24 rfl (ty_c hS (by decide) rfl) (hS.2 5 2 11 rfl) ?_
            refine q_iload_n dX1_areNamedBlocksThere_65 rfl rfl ?_
            refine q_aald (r := 12) (j := 0) dX1_areNamedBlocksThere_66 (ty_c hS (by decide) rfl) (Or.inl rfl) (ix_n (by omega) (by omega)) (hS.2 11 0 12 rfl) ?_
            refine q_iload_n dX1_areNamedBlocksThere_67 rfl rfl ?_
            refine q_iald (x := nI (pl q 0 j)) (j := j) dX1_areNamedBlocksThere_68 (ty_c hS (by decide) rfl) (ix_n (by omega) (by omega)) (by first | exact g5 _ hw0 | exact absurd c44 (by decide)) ?_
            refine q_callV (As := [.int (nI 4), .int (nI (pl q 0 j))]) (rest := []) dX1_areNamedBlocksThere_69 vX1_148 (ty_c hS (by decide) rfl) ⟨by decide, rfl⟩ (z1_refuseAt hS (w := nI 4) (p := (nI (pl q 0 j)))) rfl rfl (Nat.le_of_ble_eq_true rfl) (by omega) (by omega) (by omega) (k_p ?_)
            refine q_ireturn dX1_areNamedBlocksThere_72 rfl (bi_nar _) (by omega) (by omega) ?_
            exact absurd c44 (by decide)
          · skip
            refine q_iload dX1_areNamedBlocksThere_47 rfl ?_
            refine q_aload_n dX1_areNamedBlocksThere_49 rfl rfl rfl ?_
            refine q_getr (r := b) dX1_areNamedBlocksThere_50 fX1_30 rfl (ty_c hS (by decide) rfl) hR ?_
            refine q_geti (x := nI ((psF q).length)) dX1_areNamedBlocksThere_53 fX1_95 rfl (ty_r hb 0 rfl) hB ?_
            refine q_icmp_lt1 (tgt := 73) dX1_areNamedBlocksThere_56 (by decide) (by omega) (by decide) ?_
            refine q_iincN (c := 1) dX1_areNamedBlocksThere_73 rfl (by decide) rfl (ls' := [(3, .int (nI 1)), (4, .int (-1)), (2, .int (nI (nf q (j + 1) - 1))), (0, .ref 5), (1, .int (nI j))]) rfl ?_
            refine q_goto (tgt := 24) dX1_areNamedBlocksThere_76 (by decide) ?_
            refine q_iload_n dX1_areNamedBlocksThere_24 rfl rfl ?_
            refine q_iconst (v := nI 2) dX1_areNamedBlocksThere_25 rfl ?_
            refine q_icmp_geN (tgt := 79) dX1_areNamedBlocksThere_26 (by decide) (by omega) (by omega) (fun h => absurd h (by decide)) (fun _ => ?_)
            refine q_aload_n dX1_areNamedBlocksThere_29 rfl rfl rfl ?_
            refine q_getr (r := b) dX1_areNamedBlocksThere_30 fX1_30 rfl (ty_c hS (by decide) rfl) hR ?_
            refine q_getr (r := b + 8) dX1_areNamedBlocksThere_33 fX1_133 rfl (ty_r hb 0 rfl) (hb.2.2 0 5 8 rfl) ?_
            refine q_iload_n dX1_areNamedBlocksThere_36 rfl rfl ?_
            refine q_aald (r := b + 10) (j := 1) dX1_areNamedBlocksThere_37 (ty_r hb 8 rfl) (Or.inl rfl) (ix_n (by omega) (by omega)) (hb.2.2 8 1 10 rfl) ?_
            refine q_iload_n dX1_areNamedBlocksThere_38 rfl rfl ?_
            refine q_iald (x := (-1)) (j := (nf q (j + 1) - 1)) dX1_areNamedBlocksThere_39 (ty_r hb 10 rfl) (ix_n (by omega) (by omega)) g4 ?_
            refine q_istore dX1_areNamedBlocksThere_40 (by decide) (ls' := [(4, .int (-1)), (3, .int (nI 1)), (2, .int (nI (nf q (j + 1) - 1))), (0, .ref 5), (1, .int (nI j))]) rfl ?_
            refine q_iload dX1_areNamedBlocksThere_42 rfl ?_
            refine q_if_eq (tgt := 59) dX1_areNamedBlocksThere_44 (by decide) (fun c44 => ?_) (fun c44 => ?_)
            · skip
              refine q_aload_n dX1_areNamedBlocksThere_59 rfl rfl rfl ?_
              refine q_iconst (v := nI 4) dX1_areNamedBlocksThere_60 rfl ?_
              refine q_aload_n dX1_areNamedBlocksThere_61 rfl rfl rfl ?_
              refine q_getr (r := 11) dX1_areNamedBlocksThere_62 fX1_24 rfl (ty_c hS (by decide) rfl) (hS.2 5 2 11 rfl) ?_
              refine q_iload_n dX1_areNamedBlocksThere_65 rfl rfl ?_
              refine q_aald (r := 13) (j := 1) dX1_areNamedBlocksThere_66 (ty_c hS (by decide) rfl) (Or.inl rfl) (ix_n (by omega) (by omega)) (hS.2 11 1 13 rfl) ?_
              refine q_iload_n dX1_areNamedBlocksThere_67 rfl rfl ?_
              refine q_iald (x := nI (pl q 1 j)) (j := j) dX1_areNamedBlocksThere_68 (ty_c hS (by decide) rfl) (ix_n (by omega) (by omega)) (by first | exact g6 _ hw1 | exact absurd c44 (by decide)) ?_
              refine q_callV (As := [.int (nI 4), .int (nI (pl q 1 j))]) (rest := []) dX1_areNamedBlocksThere_69 vX1_148 (ty_c hS (by decide) rfl) ⟨by decide, rfl⟩ (z1_refuseAt hS (w := nI 4) (p := (nI (pl q 1 j)))) rfl rfl (Nat.le_of_ble_eq_true rfl) (by omega) (by omega) (by omega) (k_p ?_)
              refine q_ireturn dX1_areNamedBlocksThere_72 rfl (bi_nar _) (by omega) (by omega) ?_
              exact absurd c44 (by decide)
            · skip
              refine q_iload dX1_areNamedBlocksThere_47 rfl ?_
              refine q_aload_n dX1_areNamedBlocksThere_49 rfl rfl rfl ?_
              refine q_getr (r := b) dX1_areNamedBlocksThere_50 fX1_30 rfl (ty_c hS (by decide) rfl) hR ?_
              refine q_geti (x := nI ((psF q).length)) dX1_areNamedBlocksThere_53 fX1_95 rfl (ty_r hb 0 rfl) hB ?_
              refine q_icmp_lt1 (tgt := 73) dX1_areNamedBlocksThere_56 (by decide) (by omega) (by decide) ?_
              refine q_iincN (c := 1) dX1_areNamedBlocksThere_73 rfl (by decide) rfl (ls' := [(3, .int (nI 2)), (4, .int (-1)), (2, .int (nI (nf q (j + 1) - 1))), (0, .ref 5), (1, .int (nI j))]) rfl ?_
              refine q_goto (tgt := 24) dX1_areNamedBlocksThere_76 (by decide) ?_
              refine q_iload_n dX1_areNamedBlocksThere_24 rfl rfl ?_
              refine q_iconst (v := nI 2) dX1_areNamedBlocksThere_25 rfl ?_
              refine q_icmp_geN (tgt := 79) dX1_areNamedBlocksThere_26 (by decide) (by omega) (by omega) (fun _ => ?_) (fun h => absurd h (by decide))
              refine q_iincN (c := 1) dX1_areNamedBlocksThere_79 rfl (by decide) rfl (ls' := [(1, .int (nI (j + 1))), (3, .int (nI 2)), (4, .int (-1)), (2, .int (nI (nf q (j + 1) - 1))), (0, .ref 5)]) rfl ?_
              refine q_goto (tgt := 2) dX1_areNamedBlocksThere_82 (by decide) ?_
              refine q_pk [4, 0] (ls' := [(0, .ref 5), (1, .int (nI (j + 1)))]) rfl ?_
              refine hI (fun i hi => ?_)
              by_cases ei : i = j
              · subst ei
                exact ⟨n0, n1⟩
              · exact hn i (by omega)
      | some v1 =>
        rw [hw1] at g4
        have b1 := e9 1 v1 hw1
        refine q_iload_n dX1_areNamedBlocksThere_2 rfl rfl ?_
        refine q_aload_n dX1_areNamedBlocksThere_3 rfl rfl rfl ?_
        refine q_getr (r := b) dX1_areNamedBlocksThere_4 fX1_30 rfl (ty_c hS (by decide) rfl) hR ?_
        refine q_geti (x := nI ((psF q).length)) dX1_areNamedBlocksThere_7 fX1_95 rfl (ty_r hb 0 rfl) hB ?_
        refine q_icmp_geN (tgt := 85) dX1_areNamedBlocksThere_10 (by decide) (by omega) (by omega) (fun c10 => ?_) (fun c10 => ?_)
        · exact absurd c10 (by omega)
        · skip
          refine q_aload_n dX1_areNamedBlocksThere_13 rfl rfl rfl ?_
          refine q_getr (r := b) dX1_areNamedBlocksThere_14 fX1_30 rfl (ty_c hS (by decide) rfl) hR ?_
          refine q_iload_n dX1_areNamedBlocksThere_17 rfl rfl ?_
          refine q_callV (As := [.int (nI j)]) (rest := []) dX1_areNamedBlocksThere_18 vX1_144 (ty_r hb 0 rfl) ⟨by decide, rfl⟩ (z2_endOf hb (by omega) g1 e1 (by omega)) rfl rfl (Nat.le_of_ble_eq_true rfl) (by omega) (by omega) (by omega) (k_p ?_)
          refine q_istore_n dX1_areNamedBlocksThere_21 rfl (by decide) (ls' := [(2, .int (nI (nf q (j + 1) - 1))), (0, .ref 5), (1, .int (nI j))]) rfl ?_
          refine q_iconst (v := nI 0) dX1_areNamedBlocksThere_22 rfl ?_
          refine q_istore_n dX1_areNamedBlocksThere_23 rfl (by decide) (ls' := [(3, .int (nI 0)), (2, .int (nI (nf q (j + 1) - 1))), (0, .ref 5), (1, .int (nI j))]) rfl ?_
          refine q_iload_n dX1_areNamedBlocksThere_24 rfl rfl ?_
          refine q_iconst (v := nI 2) dX1_areNamedBlocksThere_25 rfl ?_
          refine q_icmp_geN (tgt := 79) dX1_areNamedBlocksThere_26 (by decide) (by omega) (by omega) (fun h => absurd h (by decide)) (fun _ => ?_)
          refine q_aload_n dX1_areNamedBlocksThere_29 rfl rfl rfl ?_
          refine q_getr (r := b) dX1_areNamedBlocksThere_30 fX1_30 rfl (ty_c hS (by decide) rfl) hR ?_
          refine q_getr (r := b + 8) dX1_areNamedBlocksThere_33 fX1_133 rfl (ty_r hb 0 rfl) (hb.2.2 0 5 8 rfl) ?_
          refine q_iload_n dX1_areNamedBlocksThere_36 rfl rfl ?_
          refine q_aald (r := b + 9) (j := 0) dX1_areNamedBlocksThere_37 (ty_r hb 8 rfl) (Or.inl rfl) (ix_n (by omega) (by omega)) (hb.2.2 8 0 9 rfl) ?_
          refine q_iload_n dX1_areNamedBlocksThere_38 rfl rfl ?_
          refine q_iald (x := (-1)) (j := (nf q (j + 1) - 1)) dX1_areNamedBlocksThere_39 (ty_r hb 9 rfl) (ix_n (by omega) (by omega)) g3 ?_
          refine q_istore dX1_areNamedBlocksThere_40 (by decide) (ls' := [(4, .int (-1)), (3, .int (nI 0)), (2, .int (nI (nf q (j + 1) - 1))), (0, .ref 5), (1, .int (nI j))]) rfl ?_
          refine q_iload dX1_areNamedBlocksThere_42 rfl ?_
          refine q_if_eq (tgt := 59) dX1_areNamedBlocksThere_44 (by decide) (fun c44 => ?_) (fun c44 => ?_)
          · skip
            refine q_aload_n dX1_areNamedBlocksThere_59 rfl rfl rfl ?_
            refine q_iconst (v := nI 4) dX1_areNamedBlocksThere_60 rfl ?_
            refine q_aload_n dX1_areNamedBlocksThere_61 rfl rfl rfl ?_
            refine q_getr (r := 11) dX1_areNamedBlocksThere_62 fX1_24 rfl (ty_c hS (by decide) rfl) (hS.2 5 2 11 rfl) ?_
            refine q_iload_n dX1_areNamedBlocksThere_65 rfl rfl ?_
            refine q_aald (r := 12) (j := 0) dX1_areNamedBlocksThere_66 (ty_c hS (by decide) rfl) (Or.inl rfl) (ix_n (by omega) (by omega)) (hS.2 11 0 12 rfl) ?_
            refine q_iload_n dX1_areNamedBlocksThere_67 rfl rfl ?_
            refine q_iald (x := nI (pl q 0 j)) (j := j) dX1_areNamedBlocksThere_68 (ty_c hS (by decide) rfl) (ix_n (by omega) (by omega)) (by first | exact g5 _ hw0 | exact absurd c44 (by decide)) ?_
            refine q_callV (As := [.int (nI 4), .int (nI (pl q 0 j))]) (rest := []) dX1_areNamedBlocksThere_69 vX1_148 (ty_c hS (by decide) rfl) ⟨by decide, rfl⟩ (z1_refuseAt hS (w := nI 4) (p := (nI (pl q 0 j)))) rfl rfl (Nat.le_of_ble_eq_true rfl) (by omega) (by omega) (by omega) (k_p ?_)
            refine q_ireturn dX1_areNamedBlocksThere_72 rfl (bi_nar _) (by omega) (by omega) ?_
            first | exact absurd c44 (by decide) | (exact Or.inr ⟨(4, pl q 1 j), rfl, rfl, j, by omega, hn, Or.inr ⟨n0, ⟨v1, hw1, by omega⟩, rfl⟩⟩)
          · skip
            refine q_iload dX1_areNamedBlocksThere_47 rfl ?_
            refine q_aload_n dX1_areNamedBlocksThere_49 rfl rfl rfl ?_
            refine q_getr (r := b) dX1_areNamedBlocksThere_50 fX1_30 rfl (ty_c hS (by decide) rfl) hR ?_
            refine q_geti (x := nI ((psF q).length)) dX1_areNamedBlocksThere_53 fX1_95 rfl (ty_r hb 0 rfl) hB ?_
            refine q_icmp_lt1 (tgt := 73) dX1_areNamedBlocksThere_56 (by decide) (by omega) (by decide) ?_
            refine q_iincN (c := 1) dX1_areNamedBlocksThere_73 rfl (by decide) rfl (ls' := [(3, .int (nI 1)), (4, .int (-1)), (2, .int (nI (nf q (j + 1) - 1))), (0, .ref 5), (1, .int (nI j))]) rfl ?_
            refine q_goto (tgt := 24) dX1_areNamedBlocksThere_76 (by decide) ?_
            refine q_iload_n dX1_areNamedBlocksThere_24 rfl rfl ?_
            refine q_iconst (v := nI 2) dX1_areNamedBlocksThere_25 rfl ?_
            refine q_icmp_geN (tgt := 79) dX1_areNamedBlocksThere_26 (by decide) (by omega) (by omega) (fun h => absurd h (by decide)) (fun _ => ?_)
            refine q_aload_n dX1_areNamedBlocksThere_29 rfl rfl rfl ?_
            refine q_getr (r := b) dX1_areNamedBlocksThere_30 fX1_30 rfl (ty_c hS (by decide) rfl) hR ?_
            refine q_getr (r := b + 8) dX1_areNamedBlocksThere_33 fX1_133 rfl (ty_r hb 0 rfl) (hb.2.2 0 5 8 rfl) ?_
            refine q_iload_n dX1_areNamedBlocksThere_36 rfl rfl ?_
            refine q_aald (r := b + 10) (j := 1) dX1_areNamedBlocksThere_37 (ty_r hb 8 rfl) (Or.inl rfl) (ix_n (by omega) (by omega)) (hb.2.2 8 1 10 rfl) ?_
            refine q_iload_n dX1_areNamedBlocksThere_38 rfl rfl ?_
            refine q_iald (x := nI v1) (j := (nf q (j + 1) - 1)) dX1_areNamedBlocksThere_39 (ty_r hb 10 rfl) (ix_n (by omega) (by omega)) g4 ?_
            refine q_istore dX1_areNamedBlocksThere_40 (by decide) (ls' := [(4, .int (nI v1)), (3, .int (nI 1)), (2, .int (nI (nf q (j + 1) - 1))), (0, .ref 5), (1, .int (nI j))]) rfl ?_
            refine q_iload dX1_areNamedBlocksThere_42 rfl ?_
            refine q_if_eqN (tgt := 59) dX1_areNamedBlocksThere_44 (by decide) (by omega) (fun c44 => ?_) (fun c44 => ?_)
            · skip
              refine q_aload_n dX1_areNamedBlocksThere_59 rfl rfl rfl ?_
              refine q_iconst (v := nI 4) dX1_areNamedBlocksThere_60 rfl ?_
              refine q_aload_n dX1_areNamedBlocksThere_61 rfl rfl rfl ?_
              refine q_getr (r := 11) dX1_areNamedBlocksThere_62 fX1_24 rfl (ty_c hS (by decide) rfl) (hS.2 5 2 11 rfl) ?_
              refine q_iload_n dX1_areNamedBlocksThere_65 rfl rfl ?_
              refine q_aald (r := 13) (j := 1) dX1_areNamedBlocksThere_66 (ty_c hS (by decide) rfl) (Or.inl rfl) (ix_n (by omega) (by omega)) (hS.2 11 1 13 rfl) ?_
              refine q_iload_n dX1_areNamedBlocksThere_67 rfl rfl ?_
              refine q_iald (x := nI (pl q 1 j)) (j := j) dX1_areNamedBlocksThere_68 (ty_c hS (by decide) rfl) (ix_n (by omega) (by omega)) (by first | exact g6 _ hw1 | exact absurd c44 (by decide)) ?_
              refine q_callV (As := [.int (nI 4), .int (nI (pl q 1 j))]) (rest := []) dX1_areNamedBlocksThere_69 vX1_148 (ty_c hS (by decide) rfl) ⟨by decide, rfl⟩ (z1_refuseAt hS (w := nI 4) (p := (nI (pl q 1 j)))) rfl rfl (Nat.le_of_ble_eq_true rfl) (by omega) (by omega) (by omega) (k_p ?_)
              refine q_ireturn dX1_areNamedBlocksThere_72 rfl (bi_nar _) (by omega) (by omega) ?_
              first | exact absurd c44 (by decide) | (exact Or.inr ⟨(4, pl q 1 j), rfl, rfl, j, by omega, hn, Or.inr ⟨n0, ⟨v1, hw1, by omega⟩, rfl⟩⟩)
            · skip
              refine q_iload dX1_areNamedBlocksThere_47 rfl ?_
              refine q_aload_n dX1_areNamedBlocksThere_49 rfl rfl rfl ?_
              refine q_getr (r := b) dX1_areNamedBlocksThere_50 fX1_30 rfl (ty_c hS (by decide) rfl) hR ?_
              refine q_geti (x := nI ((psF q).length)) dX1_areNamedBlocksThere_53 fX1_95 rfl (ty_r hb 0 rfl) hB ?_
              refine q_icmp_ltN (tgt := 73) dX1_areNamedBlocksThere_56 (by decide) (by omega) (by omega) (fun c56 => ?_) (fun c56 => ?_)
              · skip
                refine q_iincN (c := 1) dX1_areNamedBlocksThere_73 rfl (by decide) rfl (ls' := [(3, .int (nI 2)), (4, .int (nI v1)), (2, .int (nI (nf q (j + 1) - 1))), (0, .ref 5), (1, .int (nI j))]) rfl ?_
                refine q_goto (tgt := 24) dX1_areNamedBlocksThere_76 (by decide) ?_
                refine q_iload_n dX1_areNamedBlocksThere_24 rfl rfl ?_
                refine q_iconst (v := nI 2) dX1_areNamedBlocksThere_25 rfl ?_
                refine q_icmp_geN (tgt := 79) dX1_areNamedBlocksThere_26 (by decide) (by omega) (by omega) (fun _ => ?_) (fun h => absurd h (by decide))
                refine q_iincN (c := 1) dX1_areNamedBlocksThere_79 rfl (by decide) rfl (ls' := [(1, .int (nI (j + 1))), (3, .int (nI 2)), (4, .int (nI v1)), (2, .int (nI (nf q (j + 1) - 1))), (0, .ref 5)]) rfl ?_
                refine q_goto (tgt := 2) dX1_areNamedBlocksThere_82 (by decide) ?_
                refine q_pk [4, 0] (ls' := [(0, .ref 5), (1, .int (nI (j + 1)))]) rfl ?_
                refine hI (fun i hi => ?_)
                by_cases ei : i = j
                · subst ei
                  exact ⟨n0, nbad_s hw1 (by omega) (by omega)⟩
                · exact hn i (by omega)
              · skip
                refine q_aload_n dX1_areNamedBlocksThere_59 rfl rfl rfl ?_
                refine q_iconst (v := nI 4) dX1_areNamedBlocksThere_60 rfl ?_
                refine q_aload_n dX1_areNamedBlocksThere_61 rfl rfl rfl ?_
                refine q_getr (r := 11) dX1_areNamedBlocksThere_62 fX1_24 rfl (ty_c hS (by decide) rfl) (hS.2 5 2 11 rfl) ?_
                refine q_iload_n dX1_areNamedBlocksThere_65 rfl rfl ?_
                refine q_aald (r := 13) (j := 1) dX1_areNamedBlocksThere_66 (ty_c hS (by decide) rfl) (Or.inl rfl) (ix_n (by omega) (by omega)) (hS.2 11 1 13 rfl) ?_
                refine q_iload_n dX1_areNamedBlocksThere_67 rfl rfl ?_
                refine q_iald (x := nI (pl q 1 j)) (j := j) dX1_areNamedBlocksThere_68 (ty_c hS (by decide) rfl) (ix_n (by omega) (by omega)) (by first | exact g6 _ hw1 | exact absurd c44 (by decide)) ?_
                refine q_callV (As := [.int (nI 4), .int (nI (pl q 1 j))]) (rest := []) dX1_areNamedBlocksThere_69 vX1_148 (ty_c hS (by decide) rfl) ⟨by decide, rfl⟩ (z1_refuseAt hS (w := nI 4) (p := (nI (pl q 1 j)))) rfl rfl (Nat.le_of_ble_eq_true rfl) (by omega) (by omega) (by omega) (k_p ?_)
                refine q_ireturn dX1_areNamedBlocksThere_72 rfl (bi_nar _) (by omega) (by omega) ?_
                first | exact absurd c44 (by decide) | (exact Or.inr ⟨(4, pl q 1 j), rfl, rfl, j, by omega, hn, Or.inr ⟨n0, ⟨v1, hw1, by omega⟩, rfl⟩⟩)
    | some v0 =>
      rw [hw0] at g3
      have b0 := e9 0 v0 hw0
      by_cases x0 : v0 = 0 ∨ (psF q).length ≤ v0
      · cases hw1 : wy q 1 j with
        | none =>
          rw [hw1] at g4
          refine q_iload_n dX1_areNamedBlocksThere_2 rfl rfl ?_
          refine q_aload_n dX1_areNamedBlocksThere_3 rfl rfl rfl ?_
          refine q_getr (r := b) dX1_areNamedBlocksThere_4 fX1_30 rfl (ty_c hS (by decide) rfl) hR ?_
          refine q_geti (x := nI ((psF q).length)) dX1_areNamedBlocksThere_7 fX1_95 rfl (ty_r hb 0 rfl) hB ?_
          refine q_icmp_geN (tgt := 85) dX1_areNamedBlocksThere_10 (by decide) (by omega) (by omega) (fun c10 => ?_) (fun c10 => ?_)
          · exact absurd c10 (by omega)
          · skip
            refine q_aload_n dX1_areNamedBlocksThere_13 rfl rfl rfl ?_
            refine q_getr (r := b) dX1_areNamedBlocksThere_14 fX1_30 rfl (ty_c hS (by decide) rfl) hR ?_
            refine q_iload_n dX1_areNamedBlocksThere_17 rfl rfl ?_
            refine q_callV (As := [.int (nI j)]) (rest := []) dX1_areNamedBlocksThere_18 vX1_144 (ty_r hb 0 rfl) ⟨by decide, rfl⟩ (z2_endOf hb (by omega) g1 e1 (by omega)) rfl rfl (Nat.le_of_ble_eq_true rfl) (by omega) (by omega) (by omega) (k_p ?_)
            refine q_istore_n dX1_areNamedBlocksThere_21 rfl (by decide) (ls' := [(2, .int (nI (nf q (j + 1) - 1))), (0, .ref 5), (1, .int (nI j))]) rfl ?_
            refine q_iconst (v := nI 0) dX1_areNamedBlocksThere_22 rfl ?_
            refine q_istore_n dX1_areNamedBlocksThere_23 rfl (by decide) (ls' := [(3, .int (nI 0)), (2, .int (nI (nf q (j + 1) - 1))), (0, .ref 5), (1, .int (nI j))]) rfl ?_
            refine q_iload_n dX1_areNamedBlocksThere_24 rfl rfl ?_
            refine q_iconst (v := nI 2) dX1_areNamedBlocksThere_25 rfl ?_
            refine q_icmp_geN (tgt := 79) dX1_areNamedBlocksThere_26 (by decide) (by omega) (by omega) (fun h => absurd h (by decide)) (fun _ => ?_)
            refine q_aload_n dX1_areNamedBlocksThere_29 rfl rfl rfl ?_
            refine q_getr (r := b) dX1_areNamedBlocksThere_30 fX1_30 rfl (ty_c hS (by decide) rfl) hR ?_
            refine q_getr (r := b + 8) dX1_areNamedBlocksThere_33 fX1_133 rfl (ty_r hb 0 rfl) (hb.2.2 0 5 8 rfl) ?_
            refine q_iload_n dX1_areNamedBlocksThere_36 rfl rfl ?_
            refine q_aald (r := b + 9) (j := 0) dX1_areNamedBlocksThere_37 (ty_r hb 8 rfl) (Or.inl rfl) (ix_n (by omega) (by omega)) (hb.2.2 8 0 9 rfl) ?_
            refine q_iload_n dX1_areNamedBlocksThere_38 rfl rfl ?_
            refine q_iald (x := nI v0) (j := (nf q (j + 1) - 1)) dX1_areNamedBlocksThere_39 (ty_r hb 9 rfl) (ix_n (by omega) (by omega)) g3 ?_
            refine q_istore dX1_areNamedBlocksThere_40 (by decide) (ls' := [(4, .int (nI v0)), (3, .int (nI 0)), (2, .int (nI (nf q (j + 1) - 1))), (0, .ref 5), (1, .int (nI j))]) rfl ?_
            refine q_iload dX1_areNamedBlocksThere_42 rfl ?_
            refine q_if_eqN (tgt := 59) dX1_areNamedBlocksThere_44 (by decide) (by omega) (fun c44 => ?_) (fun c44 => ?_)
            · skip
              refine q_aload_n dX1_areNamedBlocksThere_59 rfl rfl rfl ?_
              refine q_iconst (v := nI 4) dX1_areNamedBlocksThere_60 rfl ?_
              refine q_aload_n dX1_areNamedBlocksThere_61 rfl rfl rfl ?_
              refine q_getr (r := 11) dX1_areNamedBlocksThere_62 fX1_24 rfl (ty_c hS (by decide) rfl) (hS.2 5 2 11 rfl) ?_
              refine q_iload_n dX1_areNamedBlocksThere_65 rfl rfl ?_
              refine q_aald (r := 12) (j := 0) dX1_areNamedBlocksThere_66 (ty_c hS (by decide) rfl) (Or.inl rfl) (ix_n (by omega) (by omega)) (hS.2 11 0 12 rfl) ?_
              refine q_iload_n dX1_areNamedBlocksThere_67 rfl rfl ?_
              refine q_iald (x := nI (pl q 0 j)) (j := j) dX1_areNamedBlocksThere_68 (ty_c hS (by decide) rfl) (ix_n (by omega) (by omega)) (by first | exact g5 _ hw0 | exact absurd c44 (by decide)) ?_
              refine q_callV (As := [.int (nI 4), .int (nI (pl q 0 j))]) (rest := []) dX1_areNamedBlocksThere_69 vX1_148 (ty_c hS (by decide) rfl) ⟨by decide, rfl⟩ (z1_refuseAt hS (w := nI 4) (p := (nI (pl q 0 j)))) rfl rfl (Nat.le_of_ble_eq_true rfl) (by omega) (by omega) (by omega) (k_p ?_)
              refine q_ireturn dX1_areNamedBlocksThere_72 rfl (bi_nar _) (by omega) (by omega) ?_
              first | exact absurd c44 (by decide) | (exact Or.inr ⟨(4, pl q 0 j), rfl, rfl, j, by omega, hn, Or.inl ⟨⟨v0, hw0, by omega⟩, rfl⟩⟩)
            · skip
              refine q_iload dX1_areNamedBlocksThere_47 rfl ?_
              refine q_aload_n dX1_areNamedBlocksThere_49 rfl rfl rfl ?_
              refine q_getr (r := b) dX1_areNamedBlocksThere_50 fX1_30 rfl (ty_c hS (by decide) rfl) hR ?_
              refine q_geti (x := nI ((psF q).length)) dX1_areNamedBlocksThere_53 fX1_95 rfl (ty_r hb 0 rfl) hB ?_
              refine q_icmp_ltN (tgt := 73) dX1_areNamedBlocksThere_56 (by decide) (by omega) (by omega) (fun c56 => ?_) (fun c56 => ?_)
              · skip
                refine q_pk [3, 4, 2, 1, 0] (ls' := [(0, .ref 5), (1, .int (nI j)), (2, .int (nI (nf q (j + 1) - 1))), (3, .int (nI 0)), (4, .int (nI v0))]) rfl ?_
                exfalso
                omega
              · skip
                refine q_aload_n dX1_areNamedBlocksThere_59 rfl rfl rfl ?_
                refine q_iconst (v := nI 4) dX1_areNamedBlocksThere_60 rfl ?_
                refine q_aload_n dX1_areNamedBlocksThere_61 rfl rfl rfl ?_
                refine q_getr (r := 11) dX1_areNamedBlocksThere_62 fX1_24 rfl (ty_c hS (by decide) rfl) (hS.2 5 2 11 rfl) ?_
                refine q_iload_n dX1_areNamedBlocksThere_65 rfl rfl ?_
                refine q_aald (r := 12) (j := 0) dX1_areNamedBlocksThere_66 (ty_c hS (by decide) rfl) (Or.inl rfl) (ix_n (by omega) (by omega)) (hS.2 11 0 12 rfl) ?_
                refine q_iload_n dX1_areNamedBlocksThere_67 rfl rfl ?_
                refine q_iald (x := nI (pl q 0 j)) (j := j) dX1_areNamedBlocksThere_68 (ty_c hS (by decide) rfl) (ix_n (by omega) (by omega)) (by first | exact g5 _ hw0 | exact absurd c44 (by decide)) ?_
                refine q_callV (As := [.int (nI 4), .int (nI (pl q 0 j))]) (rest := []) dX1_areNamedBlocksThere_69 vX1_148 (ty_c hS (by decide) rfl) ⟨by decide, rfl⟩ (z1_refuseAt hS (w := nI 4) (p := (nI (pl q 0 j)))) rfl rfl (Nat.le_of_ble_eq_true rfl) (by omega) (by omega) (by omega) (k_p ?_)
                refine q_ireturn dX1_areNamedBlocksThere_72 rfl (bi_nar _) (by omega) (by omega) ?_
                first | exact absurd c44 (by decide) | (exact Or.inr ⟨(4, pl q 0 j), rfl, rfl, j, by omega, hn, Or.inl ⟨⟨v0, hw0, by omega⟩, rfl⟩⟩)
        | some v1 =>
          rw [hw1] at g4
          refine q_iload_n dX1_areNamedBlocksThere_2 rfl rfl ?_
          refine q_aload_n dX1_areNamedBlocksThere_3 rfl rfl rfl ?_
          refine q_getr (r := b) dX1_areNamedBlocksThere_4 fX1_30 rfl (ty_c hS (by decide) rfl) hR ?_
          refine q_geti (x := nI ((psF q).length)) dX1_areNamedBlocksThere_7 fX1_95 rfl (ty_r hb 0 rfl) hB ?_
          refine q_icmp_geN (tgt := 85) dX1_areNamedBlocksThere_10 (by decide) (by omega) (by omega) (fun c10 => ?_) (fun c10 => ?_)
          · exact absurd c10 (by omega)
          · skip
            refine q_aload_n dX1_areNamedBlocksThere_13 rfl rfl rfl ?_
            refine q_getr (r := b) dX1_areNamedBlocksThere_14 fX1_30 rfl (ty_c hS (by decide) rfl) hR ?_
            refine q_iload_n dX1_areNamedBlocksThere_17 rfl rfl ?_
            refine q_callV (As := [.int (nI j)]) (rest := []) dX1_areNamedBlocksThere_18 vX1_144 (ty_r hb 0 rfl) ⟨by decide, rfl⟩ (z2_endOf hb (by omega) g1 e1 (by omega)) rfl rfl (Nat.le_of_ble_eq_true rfl) (by omega) (by omega) (by omega) (k_p ?_)
            refine q_istore_n dX1_areNamedBlocksThere_21 rfl (by decide) (ls' := [(2, .int (nI (nf q (j + 1) - 1))), (0, .ref 5), (1, .int (nI j))]) rfl ?_
            refine q_iconst (v := nI 0) dX1_areNamedBlocksThere_22 rfl ?_
            refine q_istore_n dX1_areNamedBlocksThere_23 rfl (by decide) (ls' := [(3, .int (nI 0)), (2, .int (nI (nf q (j + 1) - 1))), (0, .ref 5), (1, .int (nI j))]) rfl ?_
            refine q_iload_n dX1_areNamedBlocksThere_24 rfl rfl ?_
            refine q_iconst (v := nI 2) dX1_areNamedBlocksThere_25 rfl ?_
            refine q_icmp_geN (tgt := 79) dX1_areNamedBlocksThere_26 (by decide) (by omega) (by omega) (fun h => absurd h (by decide)) (fun _ => ?_)
            refine q_aload_n dX1_areNamedBlocksThere_29 rfl rfl rfl ?_
            refine q_getr (r := b) dX1_areNamedBlocksThere_30 fX1_30 rfl (ty_c hS (by decide) rfl) hR ?_
            refine q_getr (r := b + 8) dX1_areNamedBlocksThere_33 fX1_133 rfl (ty_r hb 0 rfl) (hb.2.2 0 5 8 rfl) ?_
            refine q_iload_n dX1_areNamedBlocksThere_36 rfl rfl ?_
            refine q_aald (r := b + 9) (j := 0) dX1_areNamedBlocksThere_37 (ty_r hb 8 rfl) (Or.inl rfl) (ix_n (by omega) (by omega)) (hb.2.2 8 0 9 rfl) ?_
            refine q_iload_n dX1_areNamedBlocksThere_38 rfl rfl ?_
            refine q_iald (x := nI v0) (j := (nf q (j + 1) - 1)) dX1_areNamedBlocksThere_39 (ty_r hb 9 rfl) (ix_n (by omega) (by omega)) g3 ?_
            refine q_istore dX1_areNamedBlocksThere_40 (by decide) (ls' := [(4, .int (nI v0)), (3, .int (nI 0)), (2, .int (nI (nf q (j + 1) - 1))), (0, .ref 5), (1, .int (nI j))]) rfl ?_
            refine q_iload dX1_areNamedBlocksThere_42 rfl ?_
            refine q_if_eqN (tgt := 59) dX1_areNamedBlocksThere_44 (by decide) (by omega) (fun c44 => ?_) (fun c44 => ?_)
            · skip
              refine q_aload_n dX1_areNamedBlocksThere_59 rfl rfl rfl ?_
              refine q_iconst (v := nI 4) dX1_areNamedBlocksThere_60 rfl ?_
              refine q_aload_n dX1_areNamedBlocksThere_61 rfl rfl rfl ?_
              refine q_getr (r := 11) dX1_areNamedBlocksThere_62 fX1_24 rfl (ty_c hS (by decide) rfl) (hS.2 5 2 11 rfl) ?_
              refine q_iload_n dX1_areNamedBlocksThere_65 rfl rfl ?_
              refine q_aald (r := 12) (j := 0) dX1_areNamedBlocksThere_66 (ty_c hS (by decide) rfl) (Or.inl rfl) (ix_n (by omega) (by omega)) (hS.2 11 0 12 rfl) ?_
              refine q_iload_n dX1_areNamedBlocksThere_67 rfl rfl ?_
              refine q_iald (x := nI (pl q 0 j)) (j := j) dX1_areNamedBlocksThere_68 (ty_c hS (by decide) rfl) (ix_n (by omega) (by omega)) (by first | exact g5 _ hw0 | exact absurd c44 (by decide)) ?_
              refine q_callV (As := [.int (nI 4), .int (nI (pl q 0 j))]) (rest := []) dX1_areNamedBlocksThere_69 vX1_148 (ty_c hS (by decide) rfl) ⟨by decide, rfl⟩ (z1_refuseAt hS (w := nI 4) (p := (nI (pl q 0 j)))) rfl rfl (Nat.le_of_ble_eq_true rfl) (by omega) (by omega) (by omega) (k_p ?_)
              refine q_ireturn dX1_areNamedBlocksThere_72 rfl (bi_nar _) (by omega) (by omega) ?_
              first | exact absurd c44 (by decide) | (exact Or.inr ⟨(4, pl q 0 j), rfl, rfl, j, by omega, hn, Or.inl ⟨⟨v0, hw0, by omega⟩, rfl⟩⟩)
            · skip
              refine q_iload dX1_areNamedBlocksThere_47 rfl ?_
              refine q_aload_n dX1_areNamedBlocksThere_49 rfl rfl rfl ?_
              refine q_getr (r := b) dX1_areNamedBlocksThere_50 fX1_30 rfl (ty_c hS (by decide) rfl) hR ?_
              refine q_geti (x := nI ((psF q).length)) dX1_areNamedBlocksThere_53 fX1_95 rfl (ty_r hb 0 rfl) hB ?_
              refine q_icmp_ltN (tgt := 73) dX1_areNamedBlocksThere_56 (by decide) (by omega) (by omega) (fun c56 => ?_) (fun c56 => ?_)
              · skip
                refine q_pk [3, 4, 2, 1, 0] (ls' := [(0, .ref 5), (1, .int (nI j)), (2, .int (nI (nf q (j + 1) - 1))), (3, .int (nI 0)), (4, .int (nI v0))]) rfl ?_
                exfalso
                omega
              · skip
                refine q_aload_n dX1_areNamedBlocksThere_59 rfl rfl rfl ?_
                refine q_iconst (v := nI 4) dX1_areNamedBlocksThere_60 rfl ?_
                refine q_aload_n dX1_areNamedBlocksThere_61 rfl rfl rfl ?_
                refine q_getr (r := 11) dX1_areNamedBlocksThere_62 fX1_24 rfl (ty_c hS (by decide) rfl) (hS.2 5 2 11 rfl) ?_
                refine q_iload_n dX1_areNamedBlocksThere_65 rfl rfl ?_
                refine q_aald (r := 12) (j := 0) dX1_areNamedBlocksThere_66 (ty_c hS (by decide) rfl) (Or.inl rfl) (ix_n (by omega) (by omega)) (hS.2 11 0 12 rfl) ?_
                refine q_iload_n dX1_areNamedBlocksThere_67 rfl rfl ?_
                refine q_iald (x := nI (pl q 0 j)) (j := j) dX1_areNamedBlocksThere_68 (ty_c hS (by decide) rfl) (ix_n (by omega) (by omega)) (by first | exact g5 _ hw0 | exact absurd c44 (by decide)) ?_
                refine q_callV (As := [.int (nI 4), .int (nI (pl q 0 j))]) (rest := []) dX1_areNamedBlocksThere_69 vX1_148 (ty_c hS (by decide) rfl) ⟨by decide, rfl⟩ (z1_refuseAt hS (w := nI 4) (p := (nI (pl q 0 j)))) rfl rfl (Nat.le_of_ble_eq_true rfl) (by omega) (by omega) (by omega) (k_p ?_)
                refine q_ireturn dX1_areNamedBlocksThere_72 rfl (bi_nar _) (by omega) (by omega) ?_
                first | exact absurd c44 (by decide) | (exact Or.inr ⟨(4, pl q 0 j), rfl, rfl, j, by omega, hn, Or.inl ⟨⟨v0, hw0, by omega⟩, rfl⟩⟩)
      · have n0 := nbad_s hw0 (by omega) (by omega)
        cases hw1 : wy q 1 j with
        | none =>
          rw [hw1] at g4
          have n1 := nbad_n hw1
          refine q_iload_n dX1_areNamedBlocksThere_2 rfl rfl ?_
          refine q_aload_n dX1_areNamedBlocksThere_3 rfl rfl rfl ?_
          refine q_getr (r := b) dX1_areNamedBlocksThere_4 fX1_30 rfl (ty_c hS (by decide) rfl) hR ?_
          refine q_geti (x := nI ((psF q).length)) dX1_areNamedBlocksThere_7 fX1_95 rfl (ty_r hb 0 rfl) hB ?_
          refine q_icmp_geN (tgt := 85) dX1_areNamedBlocksThere_10 (by decide) (by omega) (by omega) (fun c10 => ?_) (fun c10 => ?_)
          · exact absurd c10 (by omega)
          · skip
            refine q_aload_n dX1_areNamedBlocksThere_13 rfl rfl rfl ?_
            refine q_getr (r := b) dX1_areNamedBlocksThere_14 fX1_30 rfl (ty_c hS (by decide) rfl) hR ?_
            refine q_iload_n dX1_areNamedBlocksThere_17 rfl rfl ?_
            refine q_callV (As := [.int (nI j)]) (rest := []) dX1_areNamedBlocksThere_18 vX1_144 (ty_r hb 0 rfl) ⟨by decide, rfl⟩ (z2_endOf hb (by omega) g1 e1 (by omega)) rfl rfl (Nat.le_of_ble_eq_true rfl) (by omega) (by omega) (by omega) (k_p ?_)
            refine q_istore_n dX1_areNamedBlocksThere_21 rfl (by decide) (ls' := [(2, .int (nI (nf q (j + 1) - 1))), (0, .ref 5), (1, .int (nI j))]) rfl ?_
            refine q_iconst (v := nI 0) dX1_areNamedBlocksThere_22 rfl ?_
            refine q_istore_n dX1_areNamedBlocksThere_23 rfl (by decide) (ls' := [(3, .int (nI 0)), (2, .int (nI (nf q (j + 1) - 1))), (0, .ref 5), (1, .int (nI j))]) rfl ?_
            refine q_iload_n dX1_areNamedBlocksThere_24 rfl rfl ?_
            refine q_iconst (v := nI 2) dX1_areNamedBlocksThere_25 rfl ?_
            refine q_icmp_geN (tgt := 79) dX1_areNamedBlocksThere_26 (by decide) (by omega) (by omega) (fun h => absurd h (by decide)) (fun _ => ?_)
            refine q_aload_n dX1_areNamedBlocksThere_29 rfl rfl rfl ?_
            refine q_getr (r := b) dX1_areNamedBlocksThere_30 fX1_30 rfl (ty_c hS (by decide) rfl) hR ?_
            refine q_getr (r := b + 8) dX1_areNamedBlocksThere_33 fX1_133 rfl (ty_r hb 0 rfl) (hb.2.2 0 5 8 rfl) ?_
            refine q_iload_n dX1_areNamedBlocksThere_36 rfl rfl ?_
            refine q_aald (r := b + 9) (j := 0) dX1_areNamedBlocksThere_37 (ty_r hb 8 rfl) (Or.inl rfl) (ix_n (by omega) (by omega)) (hb.2.2 8 0 9 rfl) ?_
            refine q_iload_n dX1_areNamedBlocksThere_38 rfl rfl ?_
            refine q_iald (x := nI v0) (j := (nf q (j + 1) - 1)) dX1_areNamedBlocksThere_39 (ty_r hb 9 rfl) (ix_n (by omega) (by omega)) g3 ?_
            refine q_istore dX1_areNamedBlocksThere_40 (by decide) (ls' := [(4, .int (nI v0)), (3, .int (nI 0)), (2, .int (nI (nf q (j + 1) - 1))), (0, .ref 5), (1, .int (nI j))]) rfl ?_
            refine q_iload dX1_areNamedBlocksThere_42 rfl ?_
            refine q_if_eqN (tgt := 59) dX1_areNamedBlocksThere_44 (by decide) (by omega) (fun c44 => ?_) (fun c44 => ?_)
            · skip
              refine q_aload_n dX1_areNamedBlocksThere_59 rfl rfl rfl ?_
              refine q_iconst (v := nI 4) dX1_areNamedBlocksThere_60 rfl ?_
              refine q_aload_n dX1_areNamedBlocksThere_61 rfl rfl rfl ?_
              refine q_getr (r := 11) dX1_areNamedBlocksThere_62 fX1_24 rfl (ty_c hS (by decide) rfl) (hS.2 5 2 11 rfl) ?_
              refine q_iload_n dX1_areNamedBlocksThere_65 rfl rfl ?_
              refine q_aald (r := 12) (j := 0) dX1_areNamedBlocksThere_66 (ty_c hS (by decide) rfl) (Or.inl rfl) (ix_n (by omega) (by omega)) (hS.2 11 0 12 rfl) ?_
              refine q_iload_n dX1_areNamedBlocksThere_67 rfl rfl ?_
              refine q_iald (x := nI (pl q 0 j)) (j := j) dX1_areNamedBlocksThere_68 (ty_c hS (by decide) rfl) (ix_n (by omega) (by omega)) (by first | exact g5 _ hw0 | exact absurd c44 (by decide)) ?_
              refine q_callV (As := [.int (nI 4), .int (nI (pl q 0 j))]) (rest := []) dX1_areNamedBlocksThere_69 vX1_148 (ty_c hS (by decide) rfl) ⟨by decide, rfl⟩ (z1_refuseAt hS (w := nI 4) (p := (nI (pl q 0 j)))) rfl rfl (Nat.le_of_ble_eq_true rfl) (by omega) (by omega) (by omega) (k_p ?_)
              refine q_ireturn dX1_areNamedBlocksThere_72 rfl (bi_nar _) (by omega) (by omega) ?_
              first | exact absurd c44 (by decide) | (exfalso; omega)
            · skip
              refine q_iload dX1_areNamedBlocksThere_47 rfl ?_
              refine q_aload_n dX1_areNamedBlocksThere_49 rfl rfl rfl ?_
              refine q_getr (r := b) dX1_areNamedBlocksThere_50 fX1_30 rfl (ty_c hS (by decide) rfl) hR ?_
              refine q_geti (x := nI ((psF q).length)) dX1_areNamedBlocksThere_53 fX1_95 rfl (ty_r hb 0 rfl) hB ?_
              refine q_icmp_ltN (tgt := 73) dX1_areNamedBlocksThere_56 (by decide) (by omega) (by omega) (fun c56 => ?_) (fun c56 => ?_)
              · skip
                refine q_iincN (c := 1) dX1_areNamedBlocksThere_73 rfl (by decide) rfl (ls' := [(3, .int (nI 1)), (4, .int (nI v0)), (2, .int (nI (nf q (j + 1) - 1))), (0, .ref 5), (1, .int (nI j))]) rfl ?_
                refine q_goto (tgt := 24) dX1_areNamedBlocksThere_76 (by decide) ?_
                refine q_iload_n dX1_areNamedBlocksThere_24 rfl rfl ?_
                refine q_iconst (v := nI 2) dX1_areNamedBlocksThere_25 rfl ?_
                refine q_icmp_geN (tgt := 79) dX1_areNamedBlocksThere_26 (by decide) (by omega) (by omega) (fun h => absurd h (by decide)) (fun _ => ?_)
                refine q_aload_n dX1_areNamedBlocksThere_29 rfl rfl rfl ?_
                refine q_getr (r := b) dX1_areNamedBlocksThere_30 fX1_30 rfl (ty_c hS (by decide) rfl) hR ?_
                refine q_getr (r := b + 8) dX1_areNamedBlocksThere_33 fX1_133 rfl (ty_r hb 0 rfl) (hb.2.2 0 5 8 rfl) ?_
                refine q_iload_n dX1_areNamedBlocksThere_36 rfl rfl ?_
                refine q_aald (r := b + 10) (j := 1) dX1_areNamedBlocksThere_37 (ty_r hb 8 rfl) (Or.inl rfl) (ix_n (by omega) (by omega)) (hb.2.2 8 1 10 rfl) ?_
                refine q_iload_n dX1_areNamedBlocksThere_38 rfl rfl ?_
                refine q_iald (x := (-1)) (j := (nf q (j + 1) - 1)) dX1_areNamedBlocksThere_39 (ty_r hb 10 rfl) (ix_n (by omega) (by omega)) g4 ?_
                refine q_istore dX1_areNamedBlocksThere_40 (by decide) (ls' := [(4, .int (-1)), (3, .int (nI 1)), (2, .int (nI (nf q (j + 1) - 1))), (0, .ref 5), (1, .int (nI j))]) rfl ?_
                refine q_iload dX1_areNamedBlocksThere_42 rfl ?_
                refine q_if_eq (tgt := 59) dX1_areNamedBlocksThere_44 (by decide) (fun c44 => ?_) (fun c44 => ?_)
                · skip
                  refine q_aload_n dX1_areNamedBlocksThere_59 rfl rfl rfl ?_
                  refine q_iconst (v := nI 4) dX1_areNamedBlocksThere_60 rfl ?_
                  refine q_aload_n dX1_areNamedBlocksThere_61 rfl rfl rfl ?_
                  refine q_getr (r := 11) dX1_areNamedBlocksThere_62 fX1_24 rfl (ty_c hS (by decide) rfl) (hS.2 5 2 11 rfl) ?_
                  refine q_iload_n dX1_areNamedBlocksThere_65 rfl rfl ?_
                  refine q_aald (r := 13) (j := 1) dX1_areNamedBlocksThere_66 (ty_c hS (by decide) rfl) (Or.inl rfl) (ix_n (by omega) (by omega)) (hS.2 11 1 13 rfl) ?_
                  refine q_iload_n dX1_areNamedBlocksThere_67 rfl rfl ?_
                  refine q_iald (x := nI (pl q 1 j)) (j := j) dX1_areNamedBlocksThere_68 (ty_c hS (by decide) rfl) (ix_n (by omega) (by omega)) (by first | exact g6 _ hw1 | exact absurd c44 (by decide)) ?_
                  refine q_callV (As := [.int (nI 4), .int (nI (pl q 1 j))]) (rest := []) dX1_areNamedBlocksThere_69 vX1_148 (ty_c hS (by decide) rfl) ⟨by decide, rfl⟩ (z1_refuseAt hS (w := nI 4) (p := (nI (pl q 1 j)))) rfl rfl (Nat.le_of_ble_eq_true rfl) (by omega) (by omega) (by omega) (k_p ?_)
                  refine q_ireturn dX1_areNamedBlocksThere_72 rfl (bi_nar _) (by omega) (by omega) ?_
                  first | exact absurd c44 (by decide) | (exfalso; omega)
                · skip
                  refine q_iload dX1_areNamedBlocksThere_47 rfl ?_
                  refine q_aload_n dX1_areNamedBlocksThere_49 rfl rfl rfl ?_
                  refine q_getr (r := b) dX1_areNamedBlocksThere_50 fX1_30 rfl (ty_c hS (by decide) rfl) hR ?_
                  refine q_geti (x := nI ((psF q).length)) dX1_areNamedBlocksThere_53 fX1_95 rfl (ty_r hb 0 rfl) hB ?_
                  refine q_icmp_lt1 (tgt := 73) dX1_areNamedBlocksThere_56 (by decide) (by omega) (by decide) ?_
                  refine q_iincN (c := 1) dX1_areNamedBlocksThere_73 rfl (by decide) rfl (ls' := [(3, .int (nI 2)), (4, .int (-1)), (2, .int (nI (nf q (j + 1) - 1))), (0, .ref 5), (1, .int (nI j))]) rfl ?_
                  refine q_goto (tgt := 24) dX1_areNamedBlocksThere_76 (by decide) ?_
                  refine q_iload_n dX1_areNamedBlocksThere_24 rfl rfl ?_
                  refine q_iconst (v := nI 2) dX1_areNamedBlocksThere_25 rfl ?_
                  refine q_icmp_geN (tgt := 79) dX1_areNamedBlocksThere_26 (by decide) (by omega) (by omega) (fun _ => ?_) (fun h => absurd h (by decide))
                  refine q_iincN (c := 1) dX1_areNamedBlocksThere_79 rfl (by decide) rfl (ls' := [(1, .int (nI (j + 1))), (3, .int (nI 2)), (4, .int (-1)), (2, .int (nI (nf q (j + 1) - 1))), (0, .ref 5)]) rfl ?_
                  refine q_goto (tgt := 2) dX1_areNamedBlocksThere_82 (by decide) ?_
                  refine q_pk [4, 0] (ls' := [(0, .ref 5), (1, .int (nI (j + 1)))]) rfl ?_
                  refine hI (fun i hi => ?_)
                  by_cases ei : i = j
                  · subst ei
                    exact ⟨n0, n1⟩
                  · exact hn i (by omega)
              · skip
                refine q_aload_n dX1_areNamedBlocksThere_59 rfl rfl rfl ?_
                refine q_iconst (v := nI 4) dX1_areNamedBlocksThere_60 rfl ?_
                refine q_aload_n dX1_areNamedBlocksThere_61 rfl rfl rfl ?_
                refine q_getr (r := 11) dX1_areNamedBlocksThere_62 fX1_24 rfl (ty_c hS (by decide) rfl) (hS.2 5 2 11 rfl) ?_
                refine q_iload_n dX1_areNamedBlocksThere_65 rfl rfl ?_
                refine q_aald (r := 12) (j := 0) dX1_areNamedBlocksThere_66 (ty_c hS (by decide) rfl) (Or.inl rfl) (ix_n (by omega) (by omega)) (hS.2 11 0 12 rfl) ?_
                refine q_iload_n dX1_areNamedBlocksThere_67 rfl rfl ?_
                refine q_iald (x := nI (pl q 0 j)) (j := j) dX1_areNamedBlocksThere_68 (ty_c hS (by decide) rfl) (ix_n (by omega) (by omega)) (by first | exact g5 _ hw0 | exact absurd c44 (by decide)) ?_
                refine q_callV (As := [.int (nI 4), .int (nI (pl q 0 j))]) (rest := []) dX1_areNamedBlocksThere_69 vX1_148 (ty_c hS (by decide) rfl) ⟨by decide, rfl⟩ (z1_refuseAt hS (w := nI 4) (p := (nI (pl q 0 j)))) rfl rfl (Nat.le_of_ble_eq_true rfl) (by omega) (by omega) (by omega) (k_p ?_)
                refine q_ireturn dX1_areNamedBlocksThere_72 rfl (bi_nar _) (by omega) (by omega) ?_
                first | exact absurd c44 (by decide) | (exfalso; omega)
        | some v1 =>
          rw [hw1] at g4
          have b1 := e9 1 v1 hw1
          refine q_iload_n dX1_areNamedBlocksThere_2 rfl rfl ?_
          refine q_aload_n dX1_areNamedBlocksThere_3 rfl rfl rfl ?_
          refine q_getr (r := b) dX1_areNamedBlocksThere_4 fX1_30 rfl (ty_c hS (by decide) rfl) hR ?_
          refine q_geti (x := nI ((psF q).length)) dX1_areNamedBlocksThere_7 fX1_95 rfl (ty_r hb 0 rfl) hB ?_
          refine q_icmp_geN (tgt := 85) dX1_areNamedBlocksThere_10 (by decide) (by omega) (by omega) (fun c10 => ?_) (fun c10 => ?_)
          · exact absurd c10 (by omega)
          · skip
            refine q_aload_n dX1_areNamedBlocksThere_13 rfl rfl rfl ?_
            refine q_getr (r := b) dX1_areNamedBlocksThere_14 fX1_30 rfl (ty_c hS (by decide) rfl) hR ?_
            refine q_iload_n dX1_areNamedBlocksThere_17 rfl rfl ?_
            refine q_callV (As := [.int (nI j)]) (rest := []) dX1_areNamedBlocksThere_18 vX1_144 (ty_r hb 0 rfl) ⟨by decide, rfl⟩ (z2_endOf hb (by omega) g1 e1 (by omega)) rfl rfl (Nat.le_of_ble_eq_true rfl) (by omega) (by omega) (by omega) (k_p ?_)
            refine q_istore_n dX1_areNamedBlocksThere_21 rfl (by decide) (ls' := [(2, .int (nI (nf q (j + 1) - 1))), (0, .ref 5), (1, .int (nI j))]) rfl ?_
            refine q_iconst (v := nI 0) dX1_areNamedBlocksThere_22 rfl ?_
            refine q_istore_n dX1_areNamedBlocksThere_23 rfl (by decide) (ls' := [(3, .int (nI 0)), (2, .int (nI (nf q (j + 1) - 1))), (0, .ref 5), (1, .int (nI j))]) rfl ?_
            refine q_iload_n dX1_areNamedBlocksThere_24 rfl rfl ?_
            refine q_iconst (v := nI 2) dX1_areNamedBlocksThere_25 rfl ?_
            refine q_icmp_geN (tgt := 79) dX1_areNamedBlocksThere_26 (by decide) (by omega) (by omega) (fun h => absurd h (by decide)) (fun _ => ?_)
            refine q_aload_n dX1_areNamedBlocksThere_29 rfl rfl rfl ?_
            refine q_getr (r := b) dX1_areNamedBlocksThere_30 fX1_30 rfl (ty_c hS (by decide) rfl) hR ?_
            refine q_getr (r := b + 8) dX1_areNamedBlocksThere_33 fX1_133 rfl (ty_r hb 0 rfl) (hb.2.2 0 5 8 rfl) ?_
            refine q_iload_n dX1_areNamedBlocksThere_36 rfl rfl ?_
            refine q_aald (r := b + 9) (j := 0) dX1_areNamedBlocksThere_37 (ty_r hb 8 rfl) (Or.inl rfl) (ix_n (by omega) (by omega)) (hb.2.2 8 0 9 rfl) ?_
            refine q_iload_n dX1_areNamedBlocksThere_38 rfl rfl ?_
            refine q_iald (x := nI v0) (j := (nf q (j + 1) - 1)) dX1_areNamedBlocksThere_39 (ty_r hb 9 rfl) (ix_n (by omega) (by omega)) g3 ?_
            refine q_istore dX1_areNamedBlocksThere_40 (by decide) (ls' := [(4, .int (nI v0)), (3, .int (nI 0)), (2, .int (nI (nf q (j + 1) - 1))), (0, .ref 5), (1, .int (nI j))]) rfl ?_
            refine q_iload dX1_areNamedBlocksThere_42 rfl ?_
            refine q_if_eqN (tgt := 59) dX1_areNamedBlocksThere_44 (by decide) (by omega) (fun c44 => ?_) (fun c44 => ?_)
            · skip
              refine q_aload_n dX1_areNamedBlocksThere_59 rfl rfl rfl ?_
              refine q_iconst (v := nI 4) dX1_areNamedBlocksThere_60 rfl ?_
              refine q_aload_n dX1_areNamedBlocksThere_61 rfl rfl rfl ?_
              refine q_getr (r := 11) dX1_areNamedBlocksThere_62 fX1_24 rfl (ty_c hS (by decide) rfl) (hS.2 5 2 11 rfl) ?_
              refine q_iload_n dX1_areNamedBlocksThere_65 rfl rfl ?_
              refine q_aald (r := 12) (j := 0) dX1_areNamedBlocksThere_66 (ty_c hS (by decide) rfl) (Or.inl rfl) (ix_n (by omega) (by omega)) (hS.2 11 0 12 rfl) ?_
              refine q_iload_n dX1_areNamedBlocksThere_67 rfl rfl ?_
              refine q_iald (x := nI (pl q 0 j)) (j := j) dX1_areNamedBlocksThere_68 (ty_c hS (by decide) rfl) (ix_n (by omega) (by omega)) (by first | exact g5 _ hw0 | exact absurd c44 (by decide)) ?_
              refine q_callV (As := [.int (nI 4), .int (nI (pl q 0 j))]) (rest := []) dX1_areNamedBlocksThere_69 vX1_148 (ty_c hS (by decide) rfl) ⟨by decide, rfl⟩ (z1_refuseAt hS (w := nI 4) (p := (nI (pl q 0 j)))) rfl rfl (Nat.le_of_ble_eq_true rfl) (by omega) (by omega) (by omega) (k_p ?_)
              refine q_ireturn dX1_areNamedBlocksThere_72 rfl (bi_nar _) (by omega) (by omega) ?_
              first | exact absurd c44 (by decide) | (exfalso; omega) | (exact Or.inr ⟨(4, pl q 1 j), rfl, rfl, j, by omega, hn, Or.inr ⟨n0, ⟨v1, hw1, by omega⟩, rfl⟩⟩)
            · skip
              refine q_iload dX1_areNamedBlocksThere_47 rfl ?_
              refine q_aload_n dX1_areNamedBlocksThere_49 rfl rfl rfl ?_
              refine q_getr (r := b) dX1_areNamedBlocksThere_50 fX1_30 rfl (ty_c hS (by decide) rfl) hR ?_
              refine q_geti (x := nI ((psF q).length)) dX1_areNamedBlocksThere_53 fX1_95 rfl (ty_r hb 0 rfl) hB ?_
              refine q_icmp_ltN (tgt := 73) dX1_areNamedBlocksThere_56 (by decide) (by omega) (by omega) (fun c56 => ?_) (fun c56 => ?_)
              · skip
                refine q_iincN (c := 1) dX1_areNamedBlocksThere_73 rfl (by decide) rfl (ls' := [(3, .int (nI 1)), (4, .int (nI v0)), (2, .int (nI (nf q (j + 1) - 1))), (0, .ref 5), (1, .int (nI j))]) rfl ?_
                refine q_goto (tgt := 24) dX1_areNamedBlocksThere_76 (by decide) ?_
                refine q_iload_n dX1_areNamedBlocksThere_24 rfl rfl ?_
                refine q_iconst (v := nI 2) dX1_areNamedBlocksThere_25 rfl ?_
                refine q_icmp_geN (tgt := 79) dX1_areNamedBlocksThere_26 (by decide) (by omega) (by omega) (fun h => absurd h (by decide)) (fun _ => ?_)
                refine q_aload_n dX1_areNamedBlocksThere_29 rfl rfl rfl ?_
                refine q_getr (r := b) dX1_areNamedBlocksThere_30 fX1_30 rfl (ty_c hS (by decide) rfl) hR ?_
                refine q_getr (r := b + 8) dX1_areNamedBlocksThere_33 fX1_133 rfl (ty_r hb 0 rfl) (hb.2.2 0 5 8 rfl) ?_
                refine q_iload_n dX1_areNamedBlocksThere_36 rfl rfl ?_
                refine q_aald (r := b + 10) (j := 1) dX1_areNamedBlocksThere_37 (ty_r hb 8 rfl) (Or.inl rfl) (ix_n (by omega) (by omega)) (hb.2.2 8 1 10 rfl) ?_
                refine q_iload_n dX1_areNamedBlocksThere_38 rfl rfl ?_
                refine q_iald (x := nI v1) (j := (nf q (j + 1) - 1)) dX1_areNamedBlocksThere_39 (ty_r hb 10 rfl) (ix_n (by omega) (by omega)) g4 ?_
                refine q_istore dX1_areNamedBlocksThere_40 (by decide) (ls' := [(4, .int (nI v1)), (3, .int (nI 1)), (2, .int (nI (nf q (j + 1) - 1))), (0, .ref 5), (1, .int (nI j))]) rfl ?_
                refine q_iload dX1_areNamedBlocksThere_42 rfl ?_
                refine q_if_eqN (tgt := 59) dX1_areNamedBlocksThere_44 (by decide) (by omega) (fun c44 => ?_) (fun c44 => ?_)
                · skip
                  refine q_aload_n dX1_areNamedBlocksThere_59 rfl rfl rfl ?_
                  refine q_iconst (v := nI 4) dX1_areNamedBlocksThere_60 rfl ?_
                  refine q_aload_n dX1_areNamedBlocksThere_61 rfl rfl rfl ?_
                  refine q_getr (r := 11) dX1_areNamedBlocksThere_62 fX1_24 rfl (ty_c hS (by decide) rfl) (hS.2 5 2 11 rfl) ?_
                  refine q_iload_n dX1_areNamedBlocksThere_65 rfl rfl ?_
                  refine q_aald (r := 13) (j := 1) dX1_areNamedBlocksThere_66 (ty_c hS (by decide) rfl) (Or.inl rfl) (ix_n (by omega) (by omega)) (hS.2 11 1 13 rfl) ?_
                  refine q_iload_n dX1_areNamedBlocksThere_67 rfl rfl ?_
                  refine q_iald (x := nI (pl q 1 j)) (j := j) dX1_areNamedBlocksThere_68 (ty_c hS (by decide) rfl) (ix_n (by omega) (by omega)) (by first | exact g6 _ hw1 | exact absurd c44 (by decide)) ?_
                  refine q_callV (As := [.int (nI 4), .int (nI (pl q 1 j))]) (rest := []) dX1_areNamedBlocksThere_69 vX1_148 (ty_c hS (by decide) rfl) ⟨by decide, rfl⟩ (z1_refuseAt hS (w := nI 4) (p := (nI (pl q 1 j)))) rfl rfl (Nat.le_of_ble_eq_true rfl) (by omega) (by omega) (by omega) (k_p ?_)
                  refine q_ireturn dX1_areNamedBlocksThere_72 rfl (bi_nar _) (by omega) (by omega) ?_
                  first | exact absurd c44 (by decide) | (exfalso; omega) | (exact Or.inr ⟨(4, pl q 1 j), rfl, rfl, j, by omega, hn, Or.inr ⟨n0, ⟨v1, hw1, by omega⟩, rfl⟩⟩)
                · skip
                  refine q_iload dX1_areNamedBlocksThere_47 rfl ?_
                  refine q_aload_n dX1_areNamedBlocksThere_49 rfl rfl rfl ?_
                  refine q_getr (r := b) dX1_areNamedBlocksThere_50 fX1_30 rfl (ty_c hS (by decide) rfl) hR ?_
                  refine q_geti (x := nI ((psF q).length)) dX1_areNamedBlocksThere_53 fX1_95 rfl (ty_r hb 0 rfl) hB ?_
                  refine q_icmp_ltN (tgt := 73) dX1_areNamedBlocksThere_56 (by decide) (by omega) (by omega) (fun c56 => ?_) (fun c56 => ?_)
                  · skip
                    refine q_iincN (c := 1) dX1_areNamedBlocksThere_73 rfl (by decide) rfl (ls' := [(3, .int (nI 2)), (4, .int (nI v1)), (2, .int (nI (nf q (j + 1) - 1))), (0, .ref 5), (1, .int (nI j))]) rfl ?_
                    refine q_goto (tgt := 24) dX1_areNamedBlocksThere_76 (by decide) ?_
                    refine q_iload_n dX1_areNamedBlocksThere_24 rfl rfl ?_
                    refine q_iconst (v := nI 2) dX1_areNamedBlocksThere_25 rfl ?_
                    refine q_icmp_geN (tgt := 79) dX1_areNamedBlocksThere_26 (by decide) (by omega) (by omega) (fun _ => ?_) (fun h => absurd h (by decide))
                    refine q_iincN (c := 1) dX1_areNamedBlocksThere_79 rfl (by decide) rfl (ls' := [(1, .int (nI (j + 1))), (3, .int (nI 2)), (4, .int (nI v1)), (2, .int (nI (nf q (j + 1) - 1))), (0, .ref 5)]) rfl ?_
                    refine q_goto (tgt := 2) dX1_areNamedBlocksThere_82 (by decide) ?_
                    refine q_pk [4, 0] (ls' := [(0, .ref 5), (1, .int (nI (j + 1)))]) rfl ?_
                    refine hI (fun i hi => ?_)
                    by_cases ei : i = j
                    · subst ei
                      exact ⟨n0, nbad_s hw1 (by omega) (by omega)⟩
                    · exact hn i (by omega)
                  · skip
                    refine q_aload_n dX1_areNamedBlocksThere_59 rfl rfl rfl ?_
                    refine q_iconst (v := nI 4) dX1_areNamedBlocksThere_60 rfl ?_
                    refine q_aload_n dX1_areNamedBlocksThere_61 rfl rfl rfl ?_
                    refine q_getr (r := 11) dX1_areNamedBlocksThere_62 fX1_24 rfl (ty_c hS (by decide) rfl) (hS.2 5 2 11 rfl) ?_
                    refine q_iload_n dX1_areNamedBlocksThere_65 rfl rfl ?_
                    refine q_aald (r := 13) (j := 1) dX1_areNamedBlocksThere_66 (ty_c hS (by decide) rfl) (Or.inl rfl) (ix_n (by omega) (by omega)) (hS.2 11 1 13 rfl) ?_
                    refine q_iload_n dX1_areNamedBlocksThere_67 rfl rfl ?_
                    refine q_iald (x := nI (pl q 1 j)) (j := j) dX1_areNamedBlocksThere_68 (ty_c hS (by decide) rfl) (ix_n (by omega) (by omega)) (by first | exact g6 _ hw1 | exact absurd c44 (by decide)) ?_
                    refine q_callV (As := [.int (nI 4), .int (nI (pl q 1 j))]) (rest := []) dX1_areNamedBlocksThere_69 vX1_148 (ty_c hS (by decide) rfl) ⟨by decide, rfl⟩ (z1_refuseAt hS (w := nI 4) (p := (nI (pl q 1 j)))) rfl rfl (Nat.le_of_ble_eq_true rfl) (by omega) (by omega) (by omega) (k_p ?_)
                    refine q_ireturn dX1_areNamedBlocksThere_72 rfl (bi_nar _) (by omega) (by omega) ?_
                    first | exact absurd c44 (by decide) | (exfalso; omega) | (exact Or.inr ⟨(4, pl q 1 j), rfl, rfl, j, by omega, hn, Or.inr ⟨n0, ⟨v1, hw1, by omega⟩, rfl⟩⟩)
              · skip
                refine q_aload_n dX1_areNamedBlocksThere_59 rfl rfl rfl ?_
                refine q_iconst (v := nI 4) dX1_areNamedBlocksThere_60 rfl ?_
                refine q_aload_n dX1_areNamedBlocksThere_61 rfl rfl rfl ?_
                refine q_getr (r := 11) dX1_areNamedBlocksThere_62 fX1_24 rfl (ty_c hS (by decide) rfl) (hS.2 5 2 11 rfl) ?_
                refine q_iload_n dX1_areNamedBlocksThere_65 rfl rfl ?_
                refine q_aald (r := 12) (j := 0) dX1_areNamedBlocksThere_66 (ty_c hS (by decide) rfl) (Or.inl rfl) (ix_n (by omega) (by omega)) (hS.2 11 0 12 rfl) ?_
                refine q_iload_n dX1_areNamedBlocksThere_67 rfl rfl ?_
                refine q_iald (x := nI (pl q 0 j)) (j := j) dX1_areNamedBlocksThere_68 (ty_c hS (by decide) rfl) (ix_n (by omega) (by omega)) (by first | exact g5 _ hw0 | exact absurd c44 (by decide)) ?_
                refine q_callV (As := [.int (nI 4), .int (nI (pl q 0 j))]) (rest := []) dX1_areNamedBlocksThere_69 vX1_148 (ty_c hS (by decide) rfl) ⟨by decide, rfl⟩ (z1_refuseAt hS (w := nI 4) (p := (nI (pl q 0 j)))) rfl rfl (Nat.le_of_ble_eq_true rfl) (by omega) (by omega) (by omega) (k_p ?_)
                refine q_ireturn dX1_areNamedBlocksThere_72 rfl (bi_nar _) (by omega) (by omega) ?_
                first | exact absurd c44 (by decide) | (exfalso; omega) | (exact Or.inr ⟨(4, pl q 1 j), rfl, rfl, j, by omega, hn, Or.inr ⟨n0, ⟨v1, hw1, by omega⟩, rfl⟩⟩)

theorem z1_named {g : GG} {σ : HS} (hS : SK σ) {b : Nat} (hb : RB σ b) (hR : sR σ 5 5 = b) {q : PS} (hP : PSR σ b q) (hc : BC q) (hw : WFs q) : CT g mX1_areNamedBlocksThere 2 0 0 [.ref 5] σ (NQ σ q) := by
  refine CT.of (by decide) (Nat.le_of_ble_eq_true rfl) ?_
  refine q_iconst (v := nI 0) dX1_areNamedBlocksThere_0 rfl ?_
  refine q_istore_n dX1_areNamedBlocksThere_1 rfl (by decide) (ls' := [(1, .int (nI 0)), (0, .ref 5)]) rfl ?_
  refine q_pk [1, 0] (ls' := [(0, .ref 5), (1, .int (nI 0))]) rfl ?_
  exact y1_named hS hb hR hP hc hw (psF q).length 0 (by omega) (fun i hi => absurd hi (by omega))
theorem z1_named_ok {g : GG} {σ : HS} (hS : SK σ) {b : Nat} (hb : RB σ b) (hR : sR σ 5 5 = b) {q : PS} (hP : PSR σ b q) (hc : BC q) (hw : WFs q) (h : NB q) : CT g mX1_areNamedBlocksThere 2 0 0 [.ref 5] σ (PQ σ (.int (bi true))) := by
  refine CT.mono ?_ (z1_named hS hb hR hP hc hw)
  rintro r σ' (⟨h1, h2, -⟩ | ⟨e, h1, h2, h3⟩)
  · exact ⟨h2, h1⟩
  · exact (PE4_no h3 h).elim
theorem z1_named_er {g : GG} {σ : HS} (hS : SK σ) {b : Nat} (hb : RB σ b) (hR : sR σ 5 5 = b) {q : PS} (hP : PSR σ b q) (hc : BC q) (hw : WFs q) {e : Nat × Nat} (h : PE4 q e) : CT g mX1_areNamedBlocksThere 2 0 0 [.ref 5] σ (PQ (erS σ e) (.int (bi false))) := by
  refine CT.mono ?_ (z1_named hS hb hR hP hc hw)
  rintro r σ' (⟨h1, h2, h3⟩ | ⟨e', h1, h2, h3⟩)
  · exact (PE4_no h h3).elim
  · rw [PE4_un h h3]; exact ⟨h2, h1⟩
