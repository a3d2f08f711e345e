/-! The model's words: numbers. -/
/-- the model's tape -/
def MTX (σ : HS) (L : Nat) (T : Nat → Nat) : Prop := sI σ 58 1 = nI L ∧ L ≤ 3000 ∧ ∀ i, i < L → sI σ 59 i = nI (T i) ∧ T i < 256
def tz (L : Nat) (T : Nat → Nat) (i : Nat) : Nat := if i < L then T i else 0
/-- the words' fields -/
def LX9 (σ σ' : HS) : Prop := sR σ' = sR σ ∧ sN σ' = sN σ ∧ (∀ h, h ≠ 58 → sL σ' h = sL σ h) ∧ (∀ h, h ≠ 58 → sI σ' h = sI σ h) ∧ ∀ i, i = 0 ∨ i = 1 ∨ 7 ≤ i → sI σ' 58 i = sI σ 58 i
theorem LX9.rf {σ : HS} : LX9 σ σ := ⟨rfl, rfl, fun _ _ => rfl, fun _ _ => rfl, fun _ _ => rfl⟩
theorem LX9.tr {σ σ' σ'' : HS} (k : LX9 σ σ') (k2 : LX9 σ' σ'') : LX9 σ σ'' := ⟨k2.1.trans k.1, k2.2.1.trans k.2.1, fun h hh => (k2.2.2.1 h hh).trans (k.2.2.1 h hh), fun h hh => (k2.2.2.2.1 h hh).trans (k.2.2.2.1 h hh), fun i hi => (k2.2.2.2.2 i hi).trans (k.2.2.2.2 i hi)⟩
theorem LX9.uI {σ σ' : HS} {i : Nat} {v : Int32} (k : LX9 σ σ') (hi : 2 ≤ i ∧ i ≤ 6) : LX9 σ (uI σ' 58 i v) := ⟨k.1, k.2.1, k.2.2.1, fun h hh => (uI_off hh).trans (k.2.2.2.1 h hh), fun j hj => by rw [sI_uI, if_neg (by omega)]; exact k.2.2.2.2 j hj⟩
theorem LX9.uL {σ σ' : HS} {i : Nat} {v : Int64} (k : LX9 σ σ') : LX9 σ (uL σ' 58 i v) := ⟨k.1, k.2.1, fun h hh => by
  refine Eq.trans (funext fun j => ?_) (k.2.2.1 h hh)
  show (if h = 58 ∧ j = i then v else sL σ' h j) = _
  rw [if_neg fun z => hh z.1], k.2.2.2.1, k.2.2.2.2⟩
theorem SK.x9 {σ σ' : HS} (h : LX9 σ σ') (k : SK σ) : SK σ' := ⟨by rw [h.2.1]; exact k.1, fun a c r q => by rw [h.1]; exact k.2 a c r q⟩
theorem MTX.x9 {σ σ' : HS} {L : Nat} {T : Nat → Nat} (h : LX9 σ σ') (k : MTX σ L T) : MTX σ' L T := ⟨(h.2.2.2.2 1 (by omega)).trans k.1, k.2.1, fun i hi => by rw [h.2.2.2.1 59 (by omega)]; exact k.2.2 i hi⟩
theorem numF_s (T : Nat → Nat) : ∀ (k p n : Nat), numF T p (k + 1) n = 10 * numF T p k n + (T (p + k) - 48)
  | 0, p, n => rfl
  | k + 1, p, n => by
    show numF T (p + 1) (k + 1) _ = _
    rw [numF_s T k (p + 1)]
    show _ = 10 * numF T (p + 1) k _ + _
    rw [show p + 1 + k = p + (k + 1) by omega]
theorem nmF_lt {T : Nat → Nat} {p : Nat} : ∀ k, (∀ i, i < k → isDig (T (p + i)) = true) → numF T p k 0 < 10 ^ k
  | 0, _ => by show 0 < 1; omega
  | k + 1, h => by
    rw [numF_s, Nat.pow_succ]
    have h1 := nmF_lt k fun i hi => h i (by omega)
    have h2 := h k (by omega)
    unfold isDig at h2
    simp only [Bool.and_eq_true, decide_eq_true_eq] at h2
    omega
theorem e3_run {T : Nat → Nat} {L p : Nat} (hp : p ≤ L) : e3 T L p = run isLD T L p := by
  unfold e3
  have h1 := run_le isLet T hp
  have h2 := run_le isDig T h1
  refine run_idem ?_ ?_
  · exact Nat.le_trans (run_ge isLet T L p) (run_ge isDig T L _)
  · unfold e2 e1
    refine Nat.not_lt.mp fun hlt => ?_
    have h3 := run_not (p := isLD) (T := T) (L := L) (i := p) (by omega)
    have h4 := run_ge isLD T L p
    unfold isLD at h3
    rw [Bool.or_eq_false_iff] at h3
    by_cases hc : run isLD T L p < run isLet T L p
    · have := run_all h4 hc
      unfold isLD at this
      rw [h3.1] at this; cases this
    · have := run_all (show run isLet T L p ≤ run isLD T L p by omega) hlt
      unfold isLD at this
      rw [h3.2] at this; cases this
section MLX
variable {g : GG} {σ : HS} {L : Nat} {T : Nat → Nat}
theorem z9_at (hS : SK σ) (hT : MTX σ L T) {k : Nat} (hk : k < 100000) : CT g mX9_at 0 0 0 [.ref 58, .int (nI k)] σ (PQ σ (.int (nI (tz L T k)))) := by
  obtain ⟨t1, t2, t3⟩ := hT
  unfold tz
  by_cases h : k < L
  · rw [if_pos h]
    have g1 := (t3 k h).1
    have g2 := (t3 k h).2
    refine CT.of (by decide) (Nat.le_of_ble_eq_true rfl) ?_
    refine q_iload_n dX9_at_0 rfl rfl ?_
    refine q_aload_n dX9_at_1 rfl rfl rfl ?_
    refine q_geti (x := nI L) dX9_at_2 fX9_13 rfl (ty_c hS (by decide) rfl) t1 ?_
    refine q_icmp_geN (tgt := 17) dX9_at_5 (by decide) (by omega) (by omega) (fun c5 => ?_) (fun c5 => ?_)
    · exact absurd c5 (by omega)
    · skip
      refine q_aload_n dX9_at_8 rfl rfl rfl ?_
      refine q_getr (r := 59) dX9_at_9 fX9_7 rfl (ty_c hS (by decide) rfl) (hS.2 58 0 59 rfl) ?_
      refine q_iload_n dX9_at_12 rfl rfl ?_
      refine q_iald (x := nI (T k)) (j := k) dX9_at_13 (ty_c hS (by decide) rfl) (ix_n (by omega) (by omega)) g1 ?_
      refine q_goto (tgt := 18) dX9_at_14 (by decide) ?_
      refine q_ireturn dX9_at_18 rfl rfl (by omega) (by omega) ?_
      exact ⟨rfl, rfl⟩
  · rw [if_neg h]
    refine CT.of (by decide) (Nat.le_of_ble_eq_true rfl) ?_
    refine q_iload_n dX9_at_0 rfl rfl ?_
    refine q_aload_n dX9_at_1 rfl rfl rfl ?_
    refine q_geti (x := nI L) dX9_at_2 fX9_13 rfl (ty_c hS (by decide) rfl) t1 ?_
    refine q_icmp_geN (tgt := 17) dX9_at_5 (by decide) (by omega) (by omega) (fun c5 => ?_) (fun c5 => ?_)
    · skip
      refine q_iconst (v := nI 0) dX9_at_17 rfl ?_
      refine q_ireturn dX9_at_18 rfl rfl (by omega) (by omega) ?_
      exact ⟨rfl, rfl⟩
    · exact absurd c5 (by omega)
/-- behind number: the word at p .. e-1 begins with a digit -/
def nmS (T : Nat → Nat) (p e : Nat) : Bool := decide (e - p ≤ 9) && (List.range (e - p)).all (fun i => isDig (T (p + i)))
def NmQ (σ : HS) (T : Nat → Nat) (p e : Nat) : HS → Prop := fun σ' => LX9 σ σ' ∧ sI σ' 58 3 = nI p ∧ sI σ' 58 4 = nI e ∧ ((nmS T p e = true ∧ sI σ' 58 2 = nI 2 ∧ sI σ' 58 6 = nI (num T p e)) ∨ (nmS T p e = false ∧ sI σ' 58 2 = nI 4))
theorem y9_number {σ0 : HS} (hS0 : SK σ0) (hT0 : MTX σ0 L T) {p e : Nat} (he : e ≤ L) (hpe : p ≤ e) : ∀ (k i : Nat) (good : Bool) (σ : HS), p + i + k = e → LX9 σ0 σ → sI σ 58 3 = nI p → sI σ 58 4 = nI e → ((good = true ∧ e - p ≤ 9 ∧ (∀ j, j < i → isDig (T (p + j)) = true) ∧ sI σ 58 6 = nI (numF T p i 0)) ∨ (good = false ∧ nmS T p e = false)) → WA g mX9_number 1 0 0 (ZM g (fun r σ' => r = none ∧ NmQ σ0 T p e σ') 0 0) 0 0 30 [(0, .ref 58), (1, .int (bi good)), (2, .int (nI (p + i)))] [] σ := by
  intro k
  induction k with
  | zero =>
    intro i good σ hi h1 h3 h4 hg
    have hS := SK.x9 h1 hS0
    have hT := hT0.x9 h1
    have hL := hT.2.1
    have fin : NmQ σ0 T p e (uI σ 58 2 (nI (if good = true then 2 else 4))) := by
      refine ⟨h1.uI (by omega), (rd_ne (by omega)).trans h3, (rd_ne (by omega)).trans h4, ?_⟩
      rcases hg with ⟨g1, g2, g3, g4⟩ | ⟨g1, g2⟩
      · refine Or.inl ⟨?_, by rw [uI_self, g1]; rfl, (rd_ne (by omega)).trans ?_⟩
        · unfold nmS
          rw [decide_eq_true g2, Bool.true_and]
          exact List.all_eq_true.mpr fun j hj => g3 j (by have := List.mem_range.mp hj; omega)
        · unfold num; rw [show e - p = i by omega]; exact g4
      · exact Or.inr ⟨g2, by rw [uI_self, g1]; rfl⟩
    refine q_iload_n dX9_number_30 rfl rfl ?_
    refine q_aload_n dX9_number_31 rfl rfl rfl ?_
    refine q_geti (x := nI e) dX9_number_32 fX9_23 rfl (ty_c hS (by decide) rfl) h4 ?_
    refine q_icmp_geN (tgt := 80) dX9_number_35 (by decide) (by omega) (by omega) (fun c35 => ?_) (fun c35 => ?_)
    · skip
      refine q_aload_n dX9_number_80 rfl rfl rfl ?_
      refine q_iload_n dX9_number_81 rfl rfl ?_
      refine q_if_eqB (tgt := 89) dX9_number_82 (by decide) (fun c82 => ?_) (fun c82 => ?_)
      · skip
        refine q_iconst (v := nI 4) dX9_number_89 rfl ?_
        refine q_puti dX9_number_90 fX9_17 rfl (Or.inl rfl) (ty_c hS (by decide) rfl) ?_
        refine q_return dX9_number_93 rfl (by omega) (by omega) ?_
        first | (rw [c82] at fin; exact ⟨rfl, fin⟩) | exact ⟨rfl, fin⟩
      · skip
        refine q_iconst (v := nI 2) dX9_number_85 rfl ?_
        refine q_goto (tgt := 90) dX9_number_86 (by decide) ?_
        refine q_puti dX9_number_90 fX9_17 rfl (Or.inl rfl) (ty_c hS (by decide) rfl) ?_
        refine q_return dX9_number_93 rfl (by omega) (by omega) ?_
        first | (rw [c82] at fin; exact ⟨rfl, fin⟩) | exact ⟨rfl, fin⟩
    · exact absurd c35 (by omega)
  | succ k ih =>
    intro i good σ hi h1 h3 h4 hg
    have hS := SK.x9 h1 hS0
    have hT := hT0.x9 h1
    have hL := hT.2.1
    obtain ⟨t1, t2⟩ := hT.2.2 (p + i) (by omega)
    rcases hg with ⟨g1, g2, g3, g4⟩ | ⟨g1, g2⟩
    · subst g1
      have hlt := nmF_lt i g3
      have hpw : 10 ^ i ≤ 100000000 := Nat.pow_le_pow_right (n := 10) (by omega) (show i ≤ 8 by omega)
      by_cases hd : isDig (T (p + i)) = true
      · have h48 : 48 ≤ T (p + i) := by
          have := hd
          unfold isDig at this
          simp only [Bool.and_eq_true, decide_eq_true_eq] at this
          exact this.1
        have eN : nI 10 * nI (numF T p i 0) + nI (T (p + i)) - nI 48 = nI (numF T p (i + 1) 0) := by
          rw [nI_mul, nI_add, nI_subN (by omega), numF_s]
          exact congrArg nI (by omega)
        refine q_iload_n dX9_number_30 rfl rfl ?_
        refine q_aload_n dX9_number_31 rfl rfl rfl ?_
        refine q_geti (x := nI e) dX9_number_32 fX9_23 rfl (ty_c hS (by decide) rfl) h4 ?_
        refine q_icmp_geN (tgt := 80) dX9_number_35 (by decide) (by omega) (by omega) (fun c35 => ?_) (fun c35 => ?_)
        · exact absurd c35 (by omega)
        · skip
          refine q_iload_n dX9_number_38 rfl rfl ?_
          refine q_if_eqB (tgt := 80) dX9_number_39 (by decide) (fun h => absurd h (by decide)) (fun _ => ?_)
          refine q_aload_n dX9_number_42 rfl rfl rfl ?_
          refine q_aload_n dX9_number_43 rfl rfl rfl ?_
          refine q_getr (r := 59) dX9_number_44 fX9_7 rfl (ty_c hS (by decide) rfl) (hS.2 58 0 59 rfl) ?_
          refine q_iload_n dX9_number_47 rfl rfl ?_
          refine q_iald (x := nI (T (p + i))) (j := (p + i)) dX9_number_48 (ty_c hS (by decide) rfl) (ix_n (by omega) (by omega)) t1 ?_
          refine q_callV (As := [.int (nI (T (p + i)))]) (rest := []) dX9_number_49 vX9_212 (ty_c hS (by decide) rfl) ⟨by decide, rfl⟩ (z9_isDigit t2) rfl rfl (Nat.le_of_ble_eq_true rfl) (by omega) (by omega) (by omega) (k_p ?_)
          refine q_istore_n dX9_number_52 rfl (by decide) (ls' := [(1, .int (bi (isDig (T (p + i))))), (0, .ref 58), (2, .int (nI (p + i)))]) rfl ?_
          refine q_aload_n dX9_number_53 rfl rfl rfl ?_
          refine q_bipush (v := nI 10) dX9_number_54 rfl ?_
          refine q_aload_n dX9_number_56 rfl rfl rfl ?_
          refine q_geti (x := nI (numF T p i 0)) dX9_number_57 fX9_29 rfl (ty_c hS (by decide) rfl) g4 ?_
          refine q_imul dX9_number_60 ?_
          refine q_aload_n dX9_number_61 rfl rfl rfl ?_
          refine q_getr (r := 59) dX9_number_62 fX9_7 rfl (ty_c hS (by decide) rfl) (hS.2 58 0 59 rfl) ?_
          refine q_iload_n dX9_number_65 rfl rfl ?_
          refine q_iald (x := nI (T (p + i))) (j := (p + i)) dX9_number_66 (ty_c hS (by decide) rfl) (ix_n (by omega) (by omega)) t1 ?_
          refine q_iadd dX9_number_67 ?_
          refine q_bipush (v := nI 48) dX9_number_68 rfl ?_
          refine q_isub dX9_number_70 ?_
          refine q_top (y := nI (numF T p (i + 1) 0)) eN ?_
          refine q_puti dX9_number_71 fX9_29 rfl (Or.inl rfl) (ty_c hS (by decide) rfl) ?_
          refine q_iincN (c := 1) dX9_number_74 rfl (by decide) rfl (ls' := [(2, .int (nI (p + i + 1))), (1, .int (bi (isDig (T (p + i))))), (0, .ref 58)]) rfl ?_
          refine q_goto (tgt := 30) dX9_number_77 (by decide) ?_
          refine q_pk [2, 1, 0] (ls' := [(0, .ref 58), (1, .int (bi (isDig (T (p + i))))), (2, .int (nI (p + i + 1)))]) rfl ?_
          refine ih (i + 1) _ _ (by omega) (h1.uI (by omega)) ((rd_ne (by omega)).trans h3) ((rd_ne (by omega)).trans h4) (Or.inl ⟨hd, g2, fun j hj => ?_, uI_self⟩)
          by_cases z : j = i
          · rw [z]; exact hd
          · exact g3 j (by omega)
      · have hf : nmS T p e = false := by
          cases z : nmS T p e
          · rfl
          · unfold nmS at z
            rw [Bool.and_eq_true] at z
            exact absurd (List.all_eq_true.mp z.2 i (List.mem_range.mpr (by omega))) hd
        refine q_iload_n dX9_number_30 rfl rfl ?_
        refine q_aload_n dX9_number_31 rfl rfl rfl ?_
        refine q_geti (x := nI e) dX9_number_32 fX9_23 rfl (ty_c hS (by decide) rfl) h4 ?_
        refine q_icmp_geN (tgt := 80) dX9_number_35 (by decide) (by omega) (by omega) (fun c35 => ?_) (fun c35 => ?_)
        · exact absurd c35 (by omega)
        · skip
          refine q_iload_n dX9_number_38 rfl rfl ?_
          refine q_if_eqB (tgt := 80) dX9_number_39 (by decide) (fun h => absurd h (by decide)) (fun _ => ?_)
          refine q_aload_n dX9_number_42 rfl rfl rfl ?_
          refine q_aload_n dX9_number_43 rfl rfl rfl ?_
          refine q_getr (r := 59) dX9_number_44 fX9_7 rfl (ty_c hS (by decide) rfl) (hS.2 58 0 59 rfl) ?_
          refine q_iload_n dX9_number_47 rfl rfl ?_
          refine q_iald (x := nI (T (p + i))) (j := (p + i)) dX9_number_48 (ty_c hS (by decide) rfl) (ix_n (by omega) (by omega)) t1 ?_
          refine q_callV (As := [.int (nI (T (p + i)))]) (rest := []) dX9_number_49 vX9_212 (ty_c hS (by decide) rfl) ⟨by decide, rfl⟩ (z9_isDigit t2) rfl rfl (Nat.le_of_ble_eq_true rfl) (by omega) (by omega) (by omega) (k_p ?_)
          refine q_istore_n dX9_number_52 rfl (by decide) (ls' := [(1, .int (bi (isDig (T (p + i))))), (0, .ref 58), (2, .int (nI (p + i)))]) rfl ?_
          refine q_aload_n dX9_number_53 rfl rfl rfl ?_
          refine q_bipush (v := nI 10) dX9_number_54 rfl ?_
          refine q_aload_n dX9_number_56 rfl rfl rfl ?_
          refine q_geti (x := nI (numF T p i 0)) dX9_number_57 fX9_29 rfl (ty_c hS (by decide) rfl) g4 ?_
          refine q_imul dX9_number_60 ?_
          refine q_aload_n dX9_number_61 rfl rfl rfl ?_
          refine q_getr (r := 59) dX9_number_62 fX9_7 rfl (ty_c hS (by decide) rfl) (hS.2 58 0 59 rfl) ?_
          refine q_iload_n dX9_number_65 rfl rfl ?_
          refine q_iald (x := nI (T (p + i))) (j := (p + i)) dX9_number_66 (ty_c hS (by decide) rfl) (ix_n (by omega) (by omega)) t1 ?_
          refine q_iadd dX9_number_67 ?_
          refine q_bipush (v := nI 48) dX9_number_68 rfl ?_
          refine q_isub dX9_number_70 ?_
          refine q_puti dX9_number_71 fX9_29 rfl (Or.inl rfl) (ty_c hS (by decide) rfl) ?_
          refine q_iincN (c := 1) dX9_number_74 rfl (by decide) rfl (ls' := [(2, .int (nI (p + i + 1))), (1, .int (bi (isDig (T (p + i))))), (0, .ref 58)]) rfl ?_
          refine q_goto (tgt := 30) dX9_number_77 (by decide) ?_
          refine q_pk [2, 1, 0] (ls' := [(0, .ref 58), (1, .int (bi (isDig (T (p + i))))), (2, .int (nI (p + i + 1)))]) rfl ?_
          exact ih (i + 1) _ _ (by omega) (h1.uI (by omega)) ((rd_ne (by omega)).trans h3) ((rd_ne (by omega)).trans h4) (Or.inr ⟨Bool.eq_false_iff.mpr hd, hf⟩)
    · subst g1
      refine q_iload_n dX9_number_30 rfl rfl ?_
      refine q_aload_n dX9_number_31 rfl rfl rfl ?_
      refine q_geti (x := nI e) dX9_number_32 fX9_23 rfl (ty_c hS (by decide) rfl) h4 ?_
      refine q_icmp_geN (tgt := 80) dX9_number_35 (by decide) (by omega) (by omega) (fun c35 => ?_) (fun c35 => ?_)
      · exact absurd c35 (by omega)
      · skip
        refine q_iload_n dX9_number_38 rfl rfl ?_
        refine q_if_eqB (tgt := 80) dX9_number_39 (by decide) (fun _ => ?_) (fun h => absurd h (by decide))
        refine q_aload_n dX9_number_80 rfl rfl rfl ?_
        refine q_iload_n dX9_number_81 rfl rfl ?_
        refine q_if_eqB (tgt := 89) dX9_number_82 (by decide) (fun _ => ?_) (fun h => absurd h (by decide))
        refine q_iconst (v := nI 4) dX9_number_89 rfl ?_
        refine q_puti dX9_number_90 fX9_17 rfl (Or.inl rfl) (ty_c hS (by decide) rfl) ?_
        refine q_return dX9_number_93 rfl (by omega) (by omega) ?_
        exact ⟨rfl, h1.uI (by omega), (rd_ne (by omega)).trans h3, (rd_ne (by omega)).trans h4, Or.inr ⟨g2, uI_self⟩⟩
theorem z9_number (hS : SK σ) (hT : MTX σ L T) {p e : Nat} (he : e ≤ L) (hpe : p ≤ e) (h3 : sI σ 58 3 = nI p) (h4 : sI σ 58 4 = nI e) : CT g mX9_number 1 0 0 [.ref 58] σ (fun r σ' => r = none ∧ NmQ σ T p e σ') := by
  have hL := hT.2.1
  have h0 : ∀ j, j < 0 → isDig (T (p + j)) = true := fun j hj => absurd hj (by omega)
  refine CT.of (by decide) (Nat.le_of_ble_eq_true rfl) ?_
  refine q_aload_n dX9_number_0 rfl rfl rfl ?_
  refine q_geti (x := nI e) dX9_number_1 fX9_23 rfl (ty_c hS (by decide) rfl) h4 ?_
  refine q_aload_n dX9_number_4 rfl rfl rfl ?_
  refine q_geti (x := nI p) dX9_number_5 fX9_20 rfl (ty_c hS (by decide) rfl) h3 ?_
  refine q_isubN dX9_number_8 (by omega) ?_
  refine q_bipush (v := nI 9) dX9_number_9 rfl ?_
  refine q_icmp_gtN (tgt := 18) dX9_number_11 (by decide) (by omega) (by omega) (fun c11 => ?_) (fun c11 => ?_)
  · skip
    refine q_iconst (v := nI 0) dX9_number_18 rfl ?_
    refine q_top (y := bi false) rfl ?_
    refine q_istore_n dX9_number_19 rfl (by decide) (ls' := [(1, .int (bi false)), (0, .ref 58)]) rfl ?_
    refine q_aload_n dX9_number_20 rfl rfl rfl ?_
    refine q_iconst (v := nI 0) dX9_number_21 rfl ?_
    refine q_puti dX9_number_22 fX9_29 rfl (Or.inl rfl) (ty_c hS (by decide) rfl) ?_
    refine q_aload_n dX9_number_25 rfl rfl rfl ?_
    refine q_geti (x := nI p) dX9_number_26 fX9_20 rfl (ty_c hS (by decide) rfl) (Eq.trans (rd_ne (by decide)) h3) ?_
    refine q_istore_n dX9_number_29 rfl (by decide) (ls' := [(2, .int (nI p)), (1, .int (bi false)), (0, .ref 58)]) rfl ?_
    refine q_pk [2, 1, 0] (ls' := [(0, .ref 58), (1, .int (bi false)), (2, .int (nI p))]) rfl ?_
    first | exact y9_number hS hT he hpe (e - p) 0 true _ (by omega) (LX9.rf.uI (by omega)) ((rd_ne (by omega)).trans h3) ((rd_ne (by omega)).trans h4) (Or.inl ⟨rfl, by omega, h0, uI_self⟩) | exact y9_number hS hT he hpe (e - p) 0 false _ (by omega) (LX9.rf.uI (by omega)) ((rd_ne (by omega)).trans h3) ((rd_ne (by omega)).trans h4) (Or.inr ⟨rfl, by unfold nmS; rw [decide_eq_false (by omega), Bool.false_and]⟩)
  · skip
    refine q_iconst (v := nI 1) dX9_number_14 rfl ?_
    refine q_goto (tgt := 19) dX9_number_15 (by decide) ?_
    refine q_top (y := bi true) rfl ?_
    refine q_istore_n dX9_number_19 rfl (by decide) (ls' := [(1, .int (bi true)), (0, .ref 58)]) rfl ?_
    refine q_aload_n dX9_number_20 rfl rfl rfl ?_
    refine q_iconst (v := nI 0) dX9_number_21 rfl ?_
    refine q_puti dX9_number_22 fX9_29 rfl (Or.inl rfl) (ty_c hS (by decide) rfl) ?_
    refine q_aload_n dX9_number_25 rfl rfl rfl ?_
    refine q_geti (x := nI p) dX9_number_26 fX9_20 rfl (ty_c hS (by decide) rfl) (Eq.trans (rd_ne (by decide)) h3) ?_
    refine q_istore_n dX9_number_29 rfl (by decide) (ls' := [(2, .int (nI p)), (1, .int (bi true)), (0, .ref 58)]) rfl ?_
    refine q_pk [2, 1, 0] (ls' := [(0, .ref 58), (1, .int (bi true)), (2, .int (nI p))]) rfl ?_
    first | exact y9_number hS hT he hpe (e - p) 0 true _ (by omega) (LX9.rf.uI (by omega)) ((rd_ne (by omega)).trans h3) ((rd_ne (by omega)).trans h4) (Or.inl ⟨rfl, by omega, h0, uI_self⟩) | exact y9_number hS hT he hpe (e - p) 0 false _ (by omega) (LX9.rf.uI (by omega)) ((rd_ne (by omega)).trans h3) ((rd_ne (by omega)).trans h4) (Or.inr ⟨rfl, by unfold nmS; rw [decide_eq_false (by omega), Bool.false_and]⟩)
end MLX
