/-! The class's write. -/
noncomputable def nsT (q : PS) (p : Nat) : Nat → Nat → List Nat
  | _, 0 => []
  | a, k + 1 => (seT q p a (psM q).length 0 ++ ndT q p a) ++ nsT q p (a + 1) k
noncomputable def bkT (q : PS) (p : Nat) : Nat → Nat → List Nat
  | 0, _ => []
  | f + 1, j => (hdT j ++ nsT q p (nf q j) (nf q (j + 1) - nf q j)) ++ bkT q p f (j + 1)
noncomputable def owB (q : PS) (p n : Nat) : List Nat := match own q p n with
  | none => []
  | some y => hdT y ++ seT q p n (psM q).length 0 ++ ndT q p n
noncomputable def owT (q : PS) (p : Nat) : Nat → Nat → List Nat
  | 0, _ => []
  | f + 1, n => owB q p n ++ owT q p f (n + 1)
/-- the whole text -/
noncomputable def fuT (q : PS) (p : Nat) : List Nat := bkT q p (psF q).length 0 ++ owT q p (NN q - (psS q).length) (psS q).length
section WRT
variable {g : GG} {b : Nat} {q : PS}
theorem y7_ns {σ0 : HS} (hS0 : SK σ0) (hr0 : RTN σ0 b q) {p : Nat} (hp : p < 3) (ho0 : OBs σ0 q p) {j : Nat} (hj : j < (psF q).length) {Z : List Frame → Array Value → State → State → Prop} : ∀ (k n : Nat) (W : List Nat) (σ : HS), n + k = nf q (j + 1) → Fr [55, 56] σ0 σ → BFx σ W → (∀ τ, Fr [55, 56] σ0 τ → BFx τ (W ++ nsT q p n k) → WA g mX7_writeRoutine 9 0 0 Z 0 0 88 [(0, .ref 55), (1, .ref b), (2, .int (nI p)), (3, .int (nI j))] [] τ) → WA g mX7_writeRoutine 9 0 0 Z 0 0 46 [(0, .ref 55), (1, .ref b), (2, .int (nI p)), (3, .int (nI j)), (4, .int (nI n))] [] σ := by
  have hNN := NN_le hr0.2.1
  have h40 := hr0.2.1.2.1
  have hle : nf q (j + 1) ≤ (psS q).length := nf_le hr0.2.1 (by omega)
  have hNS : (psS q).length ≤ NN q := by unfold NN; omega
  intro k
  induction k with
  | zero =>
    intro n W σ hn h1 hW K
    have hS := SK.fr h1 hS0
    have hr := hr0.f55 h1
    have hb := hr.1
    have hb14 : b = 14 ∨ 99 ≤ b := by rcases hb.1 with h | ⟨j, h⟩ <;> omega
    have g1 := (hr.end hj).1
    refine q_iload dX7_writeRoutine_46 rfl ?_
    refine q_aload_n dX7_writeRoutine_48 rfl rfl rfl ?_
    refine q_getr (r := b + 15) dX7_writeRoutine_49 fX7_40 rfl (ty_r hb 0 rfl) (hb.2.2 0 8 15 rfl) ?_
    refine q_iload_n dX7_writeRoutine_52 rfl rfl ?_
    refine q_iconst (v := nI 1) dX7_writeRoutine_53 rfl ?_
    refine q_iaddN dX7_writeRoutine_54 ?_
    refine q_iald (x := nI (nf q (j + 1))) (j := (j + 1)) dX7_writeRoutine_55 (ty_r hb 15 rfl) (ix_n (by omega) (by omega)) g1 ?_
    refine q_icmp_geN (tgt := 88) dX7_writeRoutine_56 (by decide) (by omega) (by omega) (fun c56 => ?_) (fun c56 => ?_)
    · skip
      refine q_pk [0, 1, 2, 3] (ls' := [(0, .ref 55), (1, .ref b), (2, .int (nI p)), (3, .int (nI j))]) rfl ?_
      exact K _ h1 (by rw [show nsT q p n 0 = [] from rfl, List.append_nil]; exact hW)
    · exact absurd c56 (by omega)
  | succ k ih =>
    intro n W σ hn h1 hW K
    have hS := SK.fr h1 hS0
    have hr := hr0.f55 h1
    have hb := hr.1
    have hb14 : b = 14 ∨ 99 ≤ b := by rcases hb.1 with h | ⟨j, h⟩ <;> omega
    have g1 := (hr.end hj).1
    obtain ⟨x, x1, x2, x3⟩ := hW.bool
    refine q_iload dX7_writeRoutine_46 rfl ?_
    refine q_aload_n dX7_writeRoutine_48 rfl rfl rfl ?_
    refine q_getr (r := b + 15) dX7_writeRoutine_49 fX7_40 rfl (ty_r hb 0 rfl) (hb.2.2 0 8 15 rfl) ?_
    refine q_iload_n dX7_writeRoutine_52 rfl rfl ?_
    refine q_iconst (v := nI 1) dX7_writeRoutine_53 rfl ?_
    refine q_iaddN dX7_writeRoutine_54 ?_
    refine q_iald (x := nI (nf q (j + 1))) (j := (j + 1)) dX7_writeRoutine_55 (ty_r hb 15 rfl) (ix_n (by omega) (by omega)) g1 ?_
    refine q_icmp_geN (tgt := 88) dX7_writeRoutine_56 (by decide) (by omega) (by omega) (fun c56 => ?_) (fun c56 => ?_)
    · exact absurd c56 (by omega)
    · skip
      refine q_aload_n dX7_writeRoutine_59 rfl rfl rfl ?_
      refine q_geti (x := bi x) dX7_writeRoutine_60 fX7_23 rfl (ty_c hS (by decide) rfl) x1 ?_
      refine q_if_neB (tgt := 88) dX7_writeRoutine_63 (by decide) (fun c63 => ?_) (fun c63 => ?_)
      · exact q_pk [0, 1, 2, 3] (ls' := [(0, .ref 55), (1, .ref b), (2, .int (nI p)), (3, .int (nI j))]) rfl (K _ h1 (hW.stop (by rw [x1, c63]; rfl)))
      · skip
        refine q_aload_n dX7_writeRoutine_66 rfl rfl rfl ?_
        refine q_aload_n dX7_writeRoutine_67 rfl rfl rfl ?_
        refine q_iload_n dX7_writeRoutine_68 rfl rfl ?_
        refine q_iload dX7_writeRoutine_69 rfl ?_
        refine q_callV (As := [.ref b, .int (nI p), .int (nI n)]) (rest := []) dX7_writeRoutine_71 vX7_43 (ty_c hS (by decide) rfl) ⟨by decide, rfl⟩ (x7_sets hS hr hp (by omega) hW) rfl rfl (Nat.le_of_ble_eq_true rfl) (by omega) (by omega) (by omega) (k_v (fun s71 q71 => ?_))
        have k9 := h1.tr q71.1 (fun _ h => h)
        have hS9 := SK.fr k9 hS0
        have hr9 := hr0.f55 k9
        have hb9 := hr9.1
        refine q_aload_n dX7_writeRoutine_74 rfl rfl rfl ?_
        refine q_aload_n dX7_writeRoutine_75 rfl rfl rfl ?_
        refine q_iload_n dX7_writeRoutine_76 rfl rfl ?_
        refine q_iload dX7_writeRoutine_77 rfl ?_
        refine q_callV (As := [.ref b, .int (nI p), .int (nI n)]) (rest := []) dX7_writeRoutine_79 vX7_47 (ty_c hS9 (by decide) rfl) ⟨by decide, rfl⟩ (x7_node hS9 hr9 hp (ho0.f55 k9) (by omega) q71.2) rfl rfl (Nat.le_of_ble_eq_true rfl) (by omega) (by omega) (by omega) (k_v (fun s79 q79 => ?_))
        have k8 := k9.tr q79.1 (fun _ h => h)
        have hS8 := SK.fr k8 hS0
        have hb8 := (hr0.f55 k8).1
        refine q_iincN (c := 1) dX7_writeRoutine_82 rfl (by decide) rfl (ls' := [(4, .int (nI (n + 1))), (0, .ref 55), (1, .ref b), (2, .int (nI p)), (3, .int (nI j))]) rfl ?_
        refine q_goto (tgt := 46) dX7_writeRoutine_85 (by decide) ?_
        refine q_pk [1, 2, 3, 4, 0] (ls' := [(0, .ref 55), (1, .ref b), (2, .int (nI p)), (3, .int (nI j)), (4, .int (nI (n + 1)))]) rfl ?_
        refine ih (n + 1) _ s79 (by omega) k8 q79.2 (fun τ t1 t2 => K τ t1 ?_)
        have eA : W ++ nsT q p n (k + 1) = ((W ++ seT q p n (psM q).length 0) ++ ndT q p n) ++ nsT q p (n + 1) k := by show W ++ ((_ ++ _) ++ _) = _; simp only [List.append_assoc]
        rw [eA]
        exact t2
theorem y7_wr88 {σ : HS} {p j : Nat} {Z : List Frame → Array Value → State → State → Prop} (h : WA g mX7_writeRoutine 9 0 0 Z 0 0 18 [(0, .ref 55), (1, .ref b), (2, .int (nI p)), (3, .int (nI (j + 1)))] [] σ) : WA g mX7_writeRoutine 9 0 0 Z 0 0 88 [(0, .ref 55), (1, .ref b), (2, .int (nI p)), (3, .int (nI j))] [] σ := by
  refine q_iincN (c := 1) dX7_writeRoutine_88 rfl (by decide) rfl (ls' := [(3, .int (nI (j + 1))), (0, .ref 55), (1, .ref b), (2, .int (nI p))]) rfl ?_
  refine q_goto (tgt := 18) dX7_writeRoutine_91 (by decide) ?_
  refine q_pk [1, 2, 3, 0] (ls' := [(0, .ref 55), (1, .ref b), (2, .int (nI p)), (3, .int (nI (j + 1)))]) rfl ?_
  exact h
theorem y7_wr94 {σ : HS} {p : Nat} (hr : RTN σ b q) {Z : List Frame → Array Value → State → State → Prop} (h : WA g mX7_writeRoutine 9 0 0 Z 0 0 99 [(0, .ref 55), (1, .ref b), (2, .int (nI p)), (3, .int (nI (psS q).length))] [] σ) : WA g mX7_writeRoutine 9 0 0 Z 0 0 94 [(0, .ref 55), (1, .ref b), (2, .int (nI p))] [] σ := by
  have hb := hr.1
  have hb14 : b = 14 ∨ 99 ≤ b := by rcases hb.1 with h | ⟨j, h⟩ <;> omega
  have h13 := hr.2.2.2.2.2.2.2.1
  refine q_aload_n dX7_writeRoutine_94 rfl rfl rfl ?_
  refine q_geti (x := nI ((psS q).length)) dX7_writeRoutine_95 fX7_50 rfl (ty_r hb 0 rfl) h13 ?_
  refine q_istore_n dX7_writeRoutine_98 rfl (by decide) (ls' := [(3, .int (nI ((psS q).length))), (0, .ref 55), (1, .ref b), (2, .int (nI p))]) rfl ?_
  refine q_pk [1, 2, 3, 0] (ls' := [(0, .ref 55), (1, .ref b), (2, .int (nI p)), (3, .int (nI ((psS q).length)))]) rfl ?_
  exact h
theorem y7_bk {σ0 : HS} (hS0 : SK σ0) (hr0 : RTN σ0 b q) {p : Nat} (hp : p < 3) (ho0 : OBs σ0 q p) {Z : List Frame → Array Value → State → State → Prop} : ∀ (k j : Nat) (W : List Nat) (σ : HS), j + k = (psF q).length → Fr [55, 56] σ0 σ → BFx σ W → (∀ τ, Fr [55, 56] σ0 τ → BFx τ (W ++ bkT q p k j) → WA g mX7_writeRoutine 9 0 0 Z 0 0 94 [(0, .ref 55), (1, .ref b), (2, .int (nI p))] [] τ) → WA g mX7_writeRoutine 9 0 0 Z 0 0 18 [(0, .ref 55), (1, .ref b), (2, .int (nI p)), (3, .int (nI j))] [] σ := by
  have hNN := NN_le hr0.2.1
  have h40 := hr0.2.1.2.1
  have h160 := hr0.2.1.2.2.1
  intro k
  induction k with
  | zero =>
    intro j W σ hj h1 hW K
    have hS := SK.fr h1 hS0
    have hr := hr0.f55 h1
    have hb := hr.1
    have hb14 : b = 14 ∨ 99 ≤ b := by rcases hb.1 with h | ⟨j, h⟩ <;> omega
    have h12 := hr.2.2.2.2.2.2.1
    refine q_iload_n dX7_writeRoutine_18 rfl rfl ?_
    refine q_aload_n dX7_writeRoutine_19 rfl rfl rfl ?_
    refine q_geti (x := nI ((psF q).length)) dX7_writeRoutine_20 fX7_31 rfl (ty_r hb 0 rfl) h12 ?_
    refine q_icmp_geN (tgt := 94) dX7_writeRoutine_23 (by decide) (by omega) (by omega) (fun c23 => ?_) (fun c23 => ?_)
    · skip
      refine q_pk [0, 1, 2] (ls' := [(0, .ref 55), (1, .ref b), (2, .int (nI p))]) rfl ?_
      exact K _ h1 (by rw [show bkT q p 0 j = [] from rfl, List.append_nil]; exact hW)
    · exact absurd c23 (by omega)
  | succ k ih =>
    intro j W σ hj h1 hW K
    have hS := SK.fr h1 hS0
    have hr := hr0.f55 h1
    have hb := hr.1
    have hb14 : b = 14 ∨ 99 ≤ b := by rcases hb.1 with h | ⟨j, h⟩ <;> omega
    have h12 := hr.2.2.2.2.2.2.1
    obtain ⟨x, x1, x2, x3⟩ := hW.bool
    have hlt := hr0.2.1.2.2.2.2.1 j (by omega)
    have hle : nf q (j + 1) ≤ (psS q).length := nf_le hr0.2.1 (by omega)
    refine q_iload_n dX7_writeRoutine_18 rfl rfl ?_
    refine q_aload_n dX7_writeRoutine_19 rfl rfl rfl ?_
    refine q_geti (x := nI ((psF q).length)) dX7_writeRoutine_20 fX7_31 rfl (ty_r hb 0 rfl) h12 ?_
    refine q_icmp_geN (tgt := 94) dX7_writeRoutine_23 (by decide) (by omega) (by omega) (fun c23 => ?_) (fun c23 => ?_)
    · exact absurd c23 (by omega)
    · skip
      refine q_aload_n dX7_writeRoutine_26 rfl rfl rfl ?_
      refine q_geti (x := bi x) dX7_writeRoutine_27 fX7_23 rfl (ty_c hS (by decide) rfl) x1 ?_
      refine q_if_neB (tgt := 94) dX7_writeRoutine_30 (by decide) (fun c30 => ?_) (fun c30 => ?_)
      · skip
        refine q_pk [0, 1, 2] (ls' := [(0, .ref 55), (1, .ref b), (2, .int (nI p))]) rfl ?_
        exact K _ h1 (hW.stop (by rw [x1, c30]; rfl))
      · skip
        refine q_aload_n dX7_writeRoutine_33 rfl rfl rfl ?_
        refine q_iload_n dX7_writeRoutine_34 rfl rfl ?_
        refine q_callV (As := [.int (nI j)]) (rest := []) dX7_writeRoutine_35 vX7_36 (ty_c hS (by decide) rfl) ⟨by decide, rfl⟩ (x7_head hS hW (by omega)) rfl rfl (Nat.le_of_ble_eq_true rfl) (by omega) (by omega) (by omega) (k_v (fun s35 q35 => ?_))
        have k9 := h1.tr q35.1 (fun _ h => h)
        have hS9 := SK.fr k9 hS0
        have hr9 := hr0.f55 k9
        have hb9 := hr9.1
        have g0 := hr9.2.2.2.2.2.2.2.2.2.2.2.1 j (by omega)
        refine q_aload_n dX7_writeRoutine_38 rfl rfl rfl ?_
        refine q_getr (r := b + 15) dX7_writeRoutine_39 fX7_40 rfl (ty_r hb9 0 rfl) (hb9.2.2 0 8 15 rfl) ?_
        refine q_iload_n dX7_writeRoutine_42 rfl rfl ?_
        refine q_iald (x := nI (nf q j)) (j := j) dX7_writeRoutine_43 (ty_r hb9 15 rfl) (ix_n (by omega) (by omega)) g0 ?_
        refine q_istore dX7_writeRoutine_44 (by decide) (ls' := [(4, .int (nI (nf q j))), (0, .ref 55), (1, .ref b), (2, .int (nI p)), (3, .int (nI j))]) rfl ?_
        refine q_pk [1, 2, 3, 4, 0] (ls' := [(0, .ref 55), (1, .ref b), (2, .int (nI p)), (3, .int (nI j)), (4, .int (nI (nf q j)))]) rfl ?_
        refine y7_ns hS0 hr0 hp ho0 (by omega) (nf q (j + 1) - nf q j) (nf q j) _ s35 (by omega) k9 q35.2 (fun τ t1 t2 => ?_)
        refine y7_wr88 (ih (j + 1) _ τ (by omega) t1 t2 (fun υ u1 u2 => K υ u1 ?_))
        have eA : W ++ bkT q p (k + 1) j = ((W ++ hdT j) ++ nsT q p (nf q j) (nf q (j + 1) - nf q j)) ++ bkT q p k (j + 1) := by show W ++ ((_ ++ _) ++ _) = _; simp only [List.append_assoc]
        rw [eA]
        exact u2
theorem y7_ow {σ0 : HS} (hS0 : SK σ0) (hr0 : RTN σ0 b q) {p : Nat} (hp : p < 3) (ho0 : OBs σ0 q p) {Q : Option Value → HS → Prop} : ∀ (k n : Nat) (W : List Nat) (σ : HS), n + k = NN q → (psS q).length ≤ n → Fr [55, 56] σ0 σ → BFx σ W → (∀ τ, Fr [55, 56] σ0 τ → BFx τ (W ++ owT q p k n) → Q none τ) → WA g mX7_writeRoutine 9 0 0 (ZM g Q 0 0) 0 0 99 [(0, .ref 55), (1, .ref b), (2, .int (nI p)), (3, .int (nI n))] [] σ := by
  have hNN := NN_le hr0.2.1
  intro k
  induction k with
  | zero =>
    intro n W σ hn hs h1 hW K
    have hS := SK.fr h1 hS0
    have hr := hr0.f55 h1
    have hb := hr.1
    have hb14 : b = 14 ∨ 99 ≤ b := by rcases hb.1 with h | ⟨j, h⟩ <;> omega
    have h14 := hr.2.2.2.2.2.2.2.2.1
    refine q_iload_n dX7_writeRoutine_99 rfl rfl ?_
    refine q_aload_n dX7_writeRoutine_100 rfl rfl rfl ?_
    refine q_geti (x := nI (NN q)) dX7_writeRoutine_101 fX7_53 rfl (ty_r hb 0 rfl) h14 ?_
    refine q_icmp_geN (tgt := 153) dX7_writeRoutine_104 (by decide) (by omega) (by omega) (fun c104 => ?_) (fun c104 => ?_)
    · skip
      refine q_return dX7_writeRoutine_153 rfl (by omega) (by omega) ?_
      exact K _ h1 (by rw [show owT q p 0 n = [] from rfl, List.append_nil]; exact hW)
    · exact absurd c104 (by omega)
  | succ k ih =>
    intro n W σ hn hs h1 hW K
    have hS := SK.fr h1 hS0
    have hr := hr0.f55 h1
    have hb := hr.1
    have hb14 : b = 14 ∨ 99 ≤ b := by rcases hb.1 with h | ⟨j, h⟩ <;> omega
    have h14 := hr.2.2.2.2.2.2.2.2.1
    obtain ⟨x, x1, x2, x3⟩ := hW.bool
    have hoo := (ho0.f55 h1) n hs (by omega)
    cases hy : own q p n with
    | none =>
      rw [hy] at hoo
      have eT : owT q p (k + 1) n = owT q p k (n + 1) := by show owB q p n ++ _ = _; unfold owB; rw [hy]; rfl
      rw [eT] at K
      refine q_iload_n dX7_writeRoutine_99 rfl rfl ?_
      refine q_aload_n dX7_writeRoutine_100 rfl rfl rfl ?_
      refine q_geti (x := nI (NN q)) dX7_writeRoutine_101 fX7_53 rfl (ty_r hb 0 rfl) h14 ?_
      refine q_icmp_geN (tgt := 153) dX7_writeRoutine_104 (by decide) (by omega) (by omega) (fun c104 => ?_) (fun c104 => ?_)
      · exact absurd c104 (by omega)
      · skip
        refine q_aload_n dX7_writeRoutine_107 rfl rfl rfl ?_
        refine q_geti (x := bi x) dX7_writeRoutine_108 fX7_23 rfl (ty_c hS (by decide) rfl) x1 ?_
        refine q_if_neB (tgt := 153) dX7_writeRoutine_111 (by decide) (fun c111 => ?_) (fun c111 => ?_)
        · skip
          refine q_return dX7_writeRoutine_153 rfl (by omega) (by omega) ?_
          exact K _ h1 (hW.stop (by rw [x1, c111]; rfl))
        · skip
          refine q_aload_n dX7_writeRoutine_114 rfl rfl rfl ?_
          refine q_getr (r := 57) dX7_writeRoutine_115 fX7_15 rfl (ty_c hS (by decide) rfl) (hS.2 55 1 57 rfl) ?_
          refine q_iload_n dX7_writeRoutine_118 rfl rfl ?_
          refine q_iald (x := (-1)) (j := n) dX7_writeRoutine_119 (ty_c hS (by decide) rfl) (ix_n (by omega) (by omega)) hoo ?_
          refine q_if_lt1 (tgt := 147) dX7_writeRoutine_120 (by decide) (by decide) ?_
          refine q_iincN (c := 1) dX7_writeRoutine_147 rfl (by decide) rfl (ls' := [(3, .int (nI (n + 1))), (0, .ref 55), (1, .ref b), (2, .int (nI p))]) rfl ?_
          refine q_goto (tgt := 99) dX7_writeRoutine_150 (by decide) ?_
          refine q_pk [1, 2, 3, 0] (ls' := [(0, .ref 55), (1, .ref b), (2, .int (nI p)), (3, .int (nI (n + 1)))]) rfl ?_
          exact ih (n + 1) W σ (by omega) (by omega) h1 hW K
    | some y =>
      rw [hy] at hoo
      have hyl := own_lt hr0.2.1 hy hs (by omega)
      have eT : owT q p (k + 1) n = (hdT y ++ seT q p n (psM q).length 0 ++ ndT q p n) ++ owT q p k (n + 1) := by show owB q p n ++ _ = _; unfold owB; rw [hy]
      rw [eT] at K
      refine q_iload_n dX7_writeRoutine_99 rfl rfl ?_
      refine q_aload_n dX7_writeRoutine_100 rfl rfl rfl ?_
      refine q_geti (x := nI (NN q)) dX7_writeRoutine_101 fX7_53 rfl (ty_r hb 0 rfl) h14 ?_
      refine q_icmp_geN (tgt := 153) dX7_writeRoutine_104 (by decide) (by omega) (by omega) (fun c104 => ?_) (fun c104 => ?_)
      · exact absurd c104 (by omega)
      · skip
        refine q_aload_n dX7_writeRoutine_107 rfl rfl rfl ?_
        refine q_geti (x := bi x) dX7_writeRoutine_108 fX7_23 rfl (ty_c hS (by decide) rfl) x1 ?_
        refine q_if_neB (tgt := 153) dX7_writeRoutine_111 (by decide) (fun c111 => ?_) (fun c111 => ?_)
        · skip
          refine q_return dX7_writeRoutine_153 rfl (by omega) (by omega) ?_
          exact K _ h1 (hW.stop (by rw [x1, c111]; rfl))
        · skip
          refine q_aload_n dX7_writeRoutine_114 rfl rfl rfl ?_
          refine q_getr (r := 57) dX7_writeRoutine_115 fX7_15 rfl (ty_c hS (by decide) rfl) (hS.2 55 1 57 rfl) ?_
          refine q_iload_n dX7_writeRoutine_118 rfl rfl ?_
          refine q_iald (x := nI y) (j := n) dX7_writeRoutine_119 (ty_c hS (by decide) rfl) (ix_n (by omega) (by omega)) hoo ?_
          refine q_if_ltN (tgt := 147) dX7_writeRoutine_120 (by decide) (by omega) ?_
          refine q_aload_n dX7_writeRoutine_123 rfl rfl rfl ?_
          refine q_aload_n dX7_writeRoutine_124 rfl rfl rfl ?_
          refine q_getr (r := 57) dX7_writeRoutine_125 fX7_15 rfl (ty_c hS (by decide) rfl) (hS.2 55 1 57 rfl) ?_
          refine q_iload_n dX7_writeRoutine_128 rfl rfl ?_
          refine q_iald (x := nI y) (j := n) dX7_writeRoutine_129 (ty_c hS (by decide) rfl) (ix_n (by omega) (by omega)) hoo ?_
          refine q_callV (As := [.int (nI y)]) (rest := []) dX7_writeRoutine_130 vX7_36 (ty_c hS (by decide) rfl) ⟨by decide, rfl⟩ (x7_head hS hW (by omega)) rfl rfl (Nat.le_of_ble_eq_true rfl) (by omega) (by omega) (by omega) (k_v (fun s130 q130 => ?_))
          have k9 := h1.tr q130.1 (fun _ h => h)
          have hS9 := SK.fr k9 hS0
          have hr9 := hr0.f55 k9
          have hb9 := hr9.1
          refine q_aload_n dX7_writeRoutine_133 rfl rfl rfl ?_
          refine q_aload_n dX7_writeRoutine_134 rfl rfl rfl ?_
          refine q_iload_n dX7_writeRoutine_135 rfl rfl ?_
          refine q_iload_n dX7_writeRoutine_136 rfl rfl ?_
          refine q_callV (As := [.ref b, .int (nI p), .int (nI n)]) (rest := []) dX7_writeRoutine_137 vX7_43 (ty_c hS9 (by decide) rfl) ⟨by decide, rfl⟩ (x7_sets hS9 hr9 hp (by omega) q130.2) rfl rfl (Nat.le_of_ble_eq_true rfl) (by omega) (by omega) (by omega) (k_v (fun s137 q137 => ?_))
          replace k9 := k9.tr q137.1 (fun _ h => h)
          have hS9 := SK.fr k9 hS0
          have hr9 := hr0.f55 k9
          have hb9 := hr9.1
          refine q_aload_n dX7_writeRoutine_140 rfl rfl rfl ?_
          refine q_aload_n dX7_writeRoutine_141 rfl rfl rfl ?_
          refine q_iload_n dX7_writeRoutine_142 rfl rfl ?_
          refine q_iload_n dX7_writeRoutine_143 rfl rfl ?_
          refine q_callV (As := [.ref b, .int (nI p), .int (nI n)]) (rest := []) dX7_writeRoutine_144 vX7_47 (ty_c hS9 (by decide) rfl) ⟨by decide, rfl⟩ (x7_node hS9 hr9 hp (ho0.f55 k9) (by omega) q137.2) rfl rfl (Nat.le_of_ble_eq_true rfl) (by omega) (by omega) (by omega) (k_v (fun s144 q144 => ?_))
          replace k9 := k9.tr q144.1 (fun _ h => h)
          have hS9 := SK.fr k9 hS0
          have hb9 := (hr0.f55 k9).1
          refine q_iincN (c := 1) dX7_writeRoutine_147 rfl (by decide) rfl (ls' := [(3, .int (nI (n + 1))), (0, .ref 55), (1, .ref b), (2, .int (nI p))]) rfl ?_
          refine q_goto (tgt := 99) dX7_writeRoutine_150 (by decide) ?_
          refine q_pk [1, 2, 3, 0] (ls' := [(0, .ref 55), (1, .ref b), (2, .int (nI p)), (3, .int (nI (n + 1)))]) rfl ?_
          refine ih (n + 1) _ s144 (by omega) (by omega) k9 q144.2 (fun τ t1 t2 => K τ t1 ?_)
          have eA : W ++ ((hdT y ++ seT q p n (psM q).length 0 ++ ndT q p n) ++ owT q p k (n + 1)) = (((W ++ hdT y) ++ seT q p n (psM q).length 0) ++ ndT q p n) ++ owT q p k (n + 1) := by simp only [List.append_assoc]
          rw [eA]
          exact t2
theorem x7_write {σ : HS} (hS : SK σ) (hr : RTN σ b q) {p : Nat} (hp : p < 3) : CT g mX7_writeRoutine 9 0 0 [.ref 55, .ref b, .int (nI p)] σ (fun r σ' => r = none ∧ Fr [55, 56, 57] σ σ' ∧ BFx σ' (fuT q p)) := by
  have hb := hr.1
  have hb14 : b = 14 ∨ 99 ≤ b := by rcases hb.1 with h | ⟨j, h⟩ <;> omega
  have hNS : (psS q).length ≤ NN q := by unfold NN; omega
  have fr1 : Fr [55, 56] σ (uI (uI σ 55 2 (nI 0)) 55 3 (nI 0)) := (Fr.rf.uI (by decide)).uI (by decide)
  have hr1 := hr.f55 fr1
  have hS1 := SK.fr fr1 hS
  refine CT.of (by decide) (Nat.le_of_ble_eq_true rfl) ?_
  refine q_aload_n dX7_writeRoutine_0 rfl rfl rfl ?_
  refine q_iconst (v := nI 0) dX7_writeRoutine_1 rfl ?_
  refine q_puti dX7_writeRoutine_2 fX7_19 rfl (Or.inl rfl) (ty_c hS (by decide) rfl) ?_
  refine q_aload_n dX7_writeRoutine_5 rfl rfl rfl ?_
  refine q_iconst (v := nI 0) dX7_writeRoutine_6 rfl ?_
  refine q_putz dX7_writeRoutine_7 fX7_23 rfl (Or.inl rfl) (ty_c hS (by decide) rfl) (Or.inl rfl) ?_
  refine q_aload_n dX7_writeRoutine_10 rfl rfl rfl ?_
  refine q_aload_n dX7_writeRoutine_11 rfl rfl rfl ?_
  refine q_iload_n dX7_writeRoutine_12 rfl rfl ?_
  refine q_callV (As := [.ref b, .int (nI p)]) (rest := []) dX7_writeRoutine_13 vX7_27 (ty_c hS (by decide) rfl) ⟨by decide, rfl⟩ (z7_own (σ := (uI (uI σ 55 2 (nI 0)) 55 3 (nI 0))) hS1 hr1 hp) rfl rfl (Nat.le_of_ble_eq_true rfl) (by omega) (by omega) (by omega) (k_v (fun s13 q13 => ?_))
  obtain ⟨f1, f2⟩ := q13
  have hS2 := SK.fr f1 hS1
  have hr2 : RTN s13 b q := hr1.of (RB.fr f1 hr1.1) (fun a i g1 g2 _ _ => by rw [f1.2.2.2 a (by simp only [List.mem_cons, List.not_mem_nil, or_false]; omega)])
  have hb2 := hr2.1
  have hW : BFx s13 [] := BFx.of ⟨by rw [f1.2.2.2 55 (by decide)]; exact (rd_ne (by omega)).trans uI_self, by rw [f1.2.2.2 55 (by decide)]; exact uI_self, fun i hi => absurd hi (by simp), fun c hc => by cases hc⟩
  have h13 := hr2.2.2.2.2.2.2.2.1
  refine q_iconst (v := nI 0) dX7_writeRoutine_16 rfl ?_
  refine q_istore_n dX7_writeRoutine_17 rfl (by decide) (ls' := [(3, .int (nI 0)), (0, .ref 55), (1, .ref b), (2, .int (nI p))]) rfl ?_
  refine q_pk [1, 2, 3, 0] (ls' := [(0, .ref 55), (1, .ref b), (2, .int (nI p)), (3, .int (nI 0))]) rfl ?_
  refine y7_bk hS2 hr2 hp f2 (psF q).length 0 [] s13 (by omega) Fr.rf hW (fun τ t1 t2 => ?_)
  refine y7_wr94 (hr2.f55 t1) (y7_ow hS2 hr2 hp f2 (NN q - (psS q).length) (psS q).length _ τ (by omega) (Nat.le_refl _) t1 t2 (fun υ u1 u2 => ⟨rfl, ?_, u2⟩))
  exact ((fr1.wk (by decide)).tr f1 (by decide)).tr u1 (by decide)
end WRT
