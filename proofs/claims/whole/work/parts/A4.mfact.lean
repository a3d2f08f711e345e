/-! The model: facts, bit by bit. -/
/-- a ROUTINE in place p of the model, but its facts -/
def MR0 (σ : HS) (p : Nat) (q : PS) : Prop := sI σ 61 p = nI (psF q).length ∧ sI σ 62 p = nI (NN q) ∧ sI σ 63 p = nI (psS q).length ∧ sI σ 64 p = nI (psM q).length ∧
  (∀ b, b < (psF q).length → sI σ 65 (41 * p + b) = nI (nf q b)) ∧
  (∀ k, k < NN q → NE σ (240 * p + k) (rg q k) ∧ sI σ 71 (240 * p + k) = oW (ld q 0 k) ∧ sI σ 72 (240 * p + k) = oW (ld q 1 k)) ∧
  (∀ e, e < (psM q).length → SMm σ (32 * p + e) (sm q e))
theorem MR0.cp {σ σ' : HS} {p : Nat} {q : PS} (h : ∀ a i, 61 ≤ a → a ≤ 82 → sI σ' a i = sI σ a i) (k : MR0 σ p q) : MR0 σ' p q := by
  obtain ⟨k1, k2, k3, k4, k5, k6, k7⟩ := k
  refine ⟨(h _ _ (by omega) (by omega)).trans k1, (h _ _ (by omega) (by omega)).trans k2, (h _ _ (by omega) (by omega)).trans k3, (h _ _ (by omega) (by omega)).trans k4, fun b hb => (h _ _ (by omega) (by omega)).trans (k5 b hb), fun i hi => ?_, fun e he => ?_⟩
  · obtain ⟨a1, a2, a3⟩ := k6 i hi
    exact ⟨a1.cp fun a b1 b2 _ _ => h a _ (by omega) (by omega), (h _ _ (by omega) (by omega)).trans a2, (h _ _ (by omega) (by omega)).trans a3⟩
  · obtain ⟨a1, a2, a3, a4, a5⟩ := k7 e he
    exact ⟨(h _ _ (by omega) (by omega)).trans a1, (h _ _ (by omega) (by omega)).trans a2, (h _ _ (by omega) (by omega)).trans a3, (h _ _ (by omega) (by omega)).trans a4, (h _ _ (by omega) (by omega)).trans a5⟩
/-- N facts from F on -/
def fcS (σ : HS) (F N : Nat) (v : Nat → Nat → Bool) : Prop := ∀ k, k < N → sI σ 83 (F + k) = mkN (fun b => v b k) 8
theorem pw_mk {j : Nat} (hj : j < 8) : nI (2 ^ j) = mkN (fun b => decide (b = j)) 8 := by
  have : ∀ j : Fin 8, nI (2 ^ j.val) = mkN (fun b => decide (b = j.val)) 8 := by decide +kernel
  exact this ⟨_, hj⟩
theorem tst_0 {f : Nat → Bool} {j : Nat} (hj : j < 8) : (mkN f 8 &&& nI (2 ^ j)) = 0 ↔ f j = false := by
  rw [pw_mk hj, mk_and (by omega), show (0 : Int32) = mkN (fun _ => false) 8 from mk_0 8, mk_ne (by omega)]
  constructor
  · intro h
    have := h j hj
    simpa using this
  · intro h e he
    by_cases ej : e = j
    · rw [ej, h]; rfl
    · simp [ej]
theorem set_b {f : Nat → Bool} {j : Nat} (hj : j < 8) : (mkN f 8 ||| nI (2 ^ j)) = mkN (fun b => f b || decide (b = j)) 8 := by rw [pw_mk hj, mk_or (by omega)]
theorem clr_b {f : Nat → Bool} {j : Nat} (hj : j < 8) : (mkN f 8 &&& (nI (2 ^ j) ^^^ (-1))) = mkN (fun b => f b && !decide (b = j)) 8 := by rw [pw_mk hj, mk_andn (by omega)]
theorem ne_t {b : Bool} {P : Prop} (t : P ↔ b = false) (h : ¬ P) : b = true := by
  cases b with
  | false => exact absurd (t.mpr rfl) h
  | true => rfl
section MFA
variable {g : GG} {σ : HS} {q : PS} {F N : Nat} {v : Nat → Nat → Bool}
theorem z9_base (hS : SK σ) {p e : Nat} (hp : p < 5) (he : e < 32) : CT g mX9_base 0 0 0 [.ref 58, .int (nI p), .int (nI e)] σ (PQ σ (.int (nI ((32 * p + e) * 240)))) := by
  refine CT.of (by decide) (Nat.le_of_ble_eq_true rfl) ?_
  refine q_bipush (v := nI 32) dX9_base_0 rfl ?_
  refine q_iload_n dX9_base_2 rfl rfl ?_
  refine q_imulN dX9_base_3 ?_
  refine q_iload_n dX9_base_4 rfl rfl ?_
  refine q_iaddN dX9_base_5 ?_
  refine q_sipush (v := nI 240) dX9_base_6 rfl ?_
  refine q_imulN dX9_base_9 ?_
  refine q_ireturn dX9_base_10 rfl rfl (by omega) (by omega) ?_
  exact ⟨rfl, rfl⟩
theorem z9_is (hS : SK σ) (hv : fcS σ F N v) (hF : F + N ≤ 38400) {k j : Nat} (hk : k < N) (hj : j < 8) : CT g mX9_is 0 0 0 [.ref 58, .int (nI F), .int (nI k), .int (nI (2 ^ j))] σ (PQ σ (.int (bi (v j k)))) := by
  have r := hv k hk
  have t := tst_0 (f := fun b => v b k) hj
  refine CT.of (by decide) (Nat.le_of_ble_eq_true rfl) ?_
  refine q_aload_n dX9_is_0 rfl rfl rfl ?_
  refine q_getr (r := 83) dX9_is_1 fX9_107 rfl (ty_c hS (by decide) rfl) (hS.2 58 31 83 rfl) ?_
  refine q_iload_n dX9_is_4 rfl rfl ?_
  refine q_iload_n dX9_is_5 rfl rfl ?_
  refine q_iaddN dX9_is_6 ?_
  refine q_iald (x := mkN (fun b => v b k) 8) (j := (F + k)) dX9_is_7 (ty_c hS (by decide) rfl) (ix_n (by omega) (by omega)) r ?_
  refine q_iload_n dX9_is_8 rfl rfl ?_
  refine q_iand dX9_is_9 ?_
  refine q_if_eq (tgt := 17) dX9_is_10 (by decide) (fun c10 => ?_) (fun c10 => ?_)
  · skip
    refine q_iconst (v := nI 0) dX9_is_17 rfl ?_
    refine q_ireturn dX9_is_18 rfl rfl (by omega) (by omega) ?_
    first | exact fin_f (t.mp c10) | exact fin_t (ne_t t c10)
  · skip
    refine q_iconst (v := nI 1) dX9_is_13 rfl ?_
    refine q_goto (tgt := 18) dX9_is_14 (by decide) ?_
    refine q_ireturn dX9_is_18 rfl rfl (by omega) (by omega) ?_
    first | exact fin_f (t.mp c10) | exact fin_t (ne_t t c10)
theorem z9_isBold (hS : SK σ) {p e : Nat} {x : SUM} (hp : p < 5) (he : e < 32) (hx : SMm σ (32 * p + e) x) : CT g mX9_isBold 0 0 0 [.ref 58, .int (nI p), .int (nI e)] σ (PQ σ (.int (bi (boldB x)))) := by
  have r := hx.1
  refine CT.of (by decide) (Nat.le_of_ble_eq_true rfl) ?_
  refine q_aload_n dX9_isBold_0 rfl rfl rfl ?_
  refine q_getr (r := 78) dX9_isBold_1 fX9_91 rfl (ty_c hS (by decide) rfl) (hS.2 58 26 78 rfl) ?_
  refine q_bipush (v := nI 32) dX9_isBold_4 rfl ?_
  refine q_iload_n dX9_isBold_6 rfl rfl ?_
  refine q_imulN dX9_isBold_7 ?_
  refine q_iload_n dX9_isBold_8 rfl rfl ?_
  refine q_iaddN dX9_isBold_9 ?_
  refine q_iald (x := x.1) (j := ((32 * p) + e)) dX9_isBold_10 (ty_c hS (by decide) rfl) (ix_n (by omega) (by omega)) r ?_
  refine q_bipush (v := nI 47) dX9_isBold_11 rfl ?_
  refine q_icmp_eq (tgt := 32) dX9_isBold_13 (by decide) (fun c13 => ?_) (fun c13 => ?_)
  · skip
    refine q_iconst (v := nI 1) dX9_isBold_32 rfl ?_
    refine q_goto (tgt := 37) dX9_isBold_33 (by decide) ?_
    refine q_ireturn dX9_isBold_37 rfl rfl (by omega) (by omega) ?_
    first | exact fin_t (by unfold boldB; rw [decide_eq_true c13]; rfl) | exact fin_t (by unfold boldB; rw [decide_eq_true c29, Bool.or_true]) | exact fin_f (by unfold boldB; rw [decide_eq_false c13, decide_eq_false c29]; rfl)
  · skip
    refine q_aload_n dX9_isBold_16 rfl rfl rfl ?_
    refine q_getr (r := 78) dX9_isBold_17 fX9_91 rfl (ty_c hS (by decide) rfl) (hS.2 58 26 78 rfl) ?_
    refine q_bipush (v := nI 32) dX9_isBold_20 rfl ?_
    refine q_iload_n dX9_isBold_22 rfl rfl ?_
    refine q_imulN dX9_isBold_23 ?_
    refine q_iload_n dX9_isBold_24 rfl rfl ?_
    refine q_iaddN dX9_isBold_25 ?_
    refine q_iald (x := x.1) (j := ((32 * p) + e)) dX9_isBold_26 (ty_c hS (by decide) rfl) (ix_n (by omega) (by omega)) r ?_
    refine q_bipush (v := nI 114) dX9_isBold_27 rfl ?_
    refine q_icmp_ne (tgt := 36) dX9_isBold_29 (by decide) (fun c29 => ?_) (fun c29 => ?_)
    · skip
      refine q_iconst (v := nI 0) dX9_isBold_36 rfl ?_
      refine q_ireturn dX9_isBold_37 rfl rfl (by omega) (by omega) ?_
      first | exact fin_t (by unfold boldB; rw [decide_eq_true c13]; rfl) | exact fin_t (by unfold boldB; rw [decide_eq_true c29, Bool.or_true]) | exact fin_f (by unfold boldB; rw [decide_eq_false c13, decide_eq_false c29]; rfl)
    · skip
      refine q_iconst (v := nI 1) dX9_isBold_32 rfl ?_
      refine q_goto (tgt := 37) dX9_isBold_33 (by decide) ?_
      refine q_ireturn dX9_isBold_37 rfl rfl (by omega) (by omega) ?_
      first | exact fin_t (by unfold boldB; rw [decide_eq_true c13]; rfl) | exact fin_t (by unfold boldB; rw [decide_eq_true c29, Bool.or_true]) | exact fin_f (by unfold boldB; rw [decide_eq_false c13, decide_eq_false c29]; rfl)
/-- the new ROUTINE's own -/
theorem mrn (h : MR0 σ 4 q) {k : Nat} (hk : k < NN q) : NE σ (960 + k) (rg q k) ∧ sI σ 71 (960 + k) = oW (ld q 0 k) ∧ sI σ 72 (960 + k) = oW (ld q 1 k) := h.2.2.2.2.2.1 k hk
theorem z9_leads (hS : SK σ) (hR : MR0 σ 4 q) (hc : BC q) (hw : WFs q) (hB : NB q) {a k : Nat} (ha : a < NN q) (hk : k < 240) : CT g mX9_leads 0 0 0 [.ref 58, .int (nI a), .int (nI k)] σ (PQ σ (.int (bi (decide (lto q a k))))) := by
  obtain ⟨-, r1, r2⟩ := mrn hR ha
  have hN := NN_le hc
  have k0 := fun i => ld_lt hc hw hB (w := 0) (n := a) (i := i) ha
  have k1 := fun i => ld_lt hc hw hB (w := 1) (n := a) (i := i) ha
  have yes : ∀ o0 o1, ld q 0 a = o0 → ld q 1 a = o1 → (o0 = some k ∨ o1 = some k) → decide (lto q a k) = true := fun o0 o1 e0 e1 z => decide_eq_true (by unfold lto; rw [e0, e1]; exact z)
  have no : ∀ o0 o1, ld q 0 a = o0 → ld q 1 a = o1 → ¬ (o0 = some k ∨ o1 = some k) → decide (lto q a k) = false := fun o0 o1 e0 e1 z => decide_eq_false (by unfold lto; rw [e0, e1]; exact z)
  generalize decide (lto q a k) = D at yes no
  cases l0 : ld q 0 a with
  | none =>
    rw [l0] at r1
    cases l1 : ld q 1 a with
    | none =>
      rw [l1] at r2
      refine CT.of (by decide) (Nat.le_of_ble_eq_true rfl) ?_
      refine q_aload_n dX9_leads_0 rfl rfl rfl ?_
      refine q_getr (r := 71) dX9_leads_1 fX9_70 rfl (ty_c hS (by decide) rfl) (hS.2 58 19 71 rfl) ?_
      refine q_sipush (v := nI 960) dX9_leads_4 rfl ?_
      refine q_iload_n dX9_leads_7 rfl rfl ?_
      refine q_iaddN dX9_leads_8 ?_
      refine q_iald (x := (-1)) (j := (960 + a)) dX9_leads_9 (ty_c hS (by decide) rfl) (ix_n (by omega) (by omega)) r1 ?_
      refine q_iload_n dX9_leads_10 rfl rfl ?_
      refine q_icmp_eq1 (tgt := 28) dX9_leads_11 (by decide) (by omega) (by decide) ?_
      refine q_aload_n dX9_leads_14 rfl rfl rfl ?_
      refine q_getr (r := 72) dX9_leads_15 fX9_73 rfl (ty_c hS (by decide) rfl) (hS.2 58 20 72 rfl) ?_
      refine q_sipush (v := nI 960) dX9_leads_18 rfl ?_
      refine q_iload_n dX9_leads_21 rfl rfl ?_
      refine q_iaddN dX9_leads_22 ?_
      refine q_iald (x := (-1)) (j := (960 + a)) dX9_leads_23 (ty_c hS (by decide) rfl) (ix_n (by omega) (by omega)) r2 ?_
      refine q_iload_n dX9_leads_24 rfl rfl ?_
      refine q_icmp_ne1 (tgt := 32) dX9_leads_25 (by decide) (by omega) (by decide) ?_
      refine q_iconst (v := nI 0) dX9_leads_32 rfl ?_
      refine q_ireturn dX9_leads_33 rfl rfl (by omega) (by omega) ?_
      exact fin_f (no _ _ l0 l1 (by simp))
    | some c =>
      rw [l1] at r2
      have := k1 c l1
      refine CT.of (by decide) (Nat.le_of_ble_eq_true rfl) ?_
      refine q_aload_n dX9_leads_0 rfl rfl rfl ?_
      refine q_getr (r := 71) dX9_leads_1 fX9_70 rfl (ty_c hS (by decide) rfl) (hS.2 58 19 71 rfl) ?_
      refine q_sipush (v := nI 960) dX9_leads_4 rfl ?_
      refine q_iload_n dX9_leads_7 rfl rfl ?_
      refine q_iaddN dX9_leads_8 ?_
      refine q_iald (x := (-1)) (j := (960 + a)) dX9_leads_9 (ty_c hS (by decide) rfl) (ix_n (by omega) (by omega)) r1 ?_
      refine q_iload_n dX9_leads_10 rfl rfl ?_
      refine q_icmp_eq1 (tgt := 28) dX9_leads_11 (by decide) (by omega) (by decide) ?_
      refine q_aload_n dX9_leads_14 rfl rfl rfl ?_
      refine q_getr (r := 72) dX9_leads_15 fX9_73 rfl (ty_c hS (by decide) rfl) (hS.2 58 20 72 rfl) ?_
      refine q_sipush (v := nI 960) dX9_leads_18 rfl ?_
      refine q_iload_n dX9_leads_21 rfl rfl ?_
      refine q_iaddN dX9_leads_22 ?_
      refine q_iald (x := nI c) (j := (960 + a)) dX9_leads_23 (ty_c hS (by decide) rfl) (ix_n (by omega) (by omega)) r2 ?_
      refine q_iload_n dX9_leads_24 rfl rfl ?_
      refine q_icmp_neN (tgt := 32) dX9_leads_25 (by decide) (by omega) (by omega) (fun c25 => ?_) (fun c25 => ?_)
      · skip
        refine q_iconst (v := nI 0) dX9_leads_32 rfl ?_
        refine q_ireturn dX9_leads_33 rfl rfl (by omega) (by omega) ?_
        exact fin_f (no _ _ l0 l1 (fun z => z.elim (fun y => by cases y) (fun y => c25 (Option.some.inj y))))
      · skip
        refine q_iconst (v := nI 1) dX9_leads_28 rfl ?_
        refine q_goto (tgt := 33) dX9_leads_29 (by decide) ?_
        refine q_ireturn dX9_leads_33 rfl rfl (by omega) (by omega) ?_
        exact fin_t (yes _ _ l0 l1 (Or.inr (by rw [c25])))
  | some d =>
    rw [l0] at r1
    have := k0 d l0
    cases l1 : ld q 1 a with
    | none =>
      rw [l1] at r2
      refine CT.of (by decide) (Nat.le_of_ble_eq_true rfl) ?_
      refine q_aload_n dX9_leads_0 rfl rfl rfl ?_
      refine q_getr (r := 71) dX9_leads_1 fX9_70 rfl (ty_c hS (by decide) rfl) (hS.2 58 19 71 rfl) ?_
      refine q_sipush (v := nI 960) dX9_leads_4 rfl ?_
      refine q_iload_n dX9_leads_7 rfl rfl ?_
      refine q_iaddN dX9_leads_8 ?_
      refine q_iald (x := nI d) (j := (960 + a)) dX9_leads_9 (ty_c hS (by decide) rfl) (ix_n (by omega) (by omega)) r1 ?_
      refine q_iload_n dX9_leads_10 rfl rfl ?_
      refine q_icmp_eqN (tgt := 28) dX9_leads_11 (by decide) (by omega) (by omega) (fun c11 => ?_) (fun c11 => ?_)
      · skip
        refine q_iconst (v := nI 1) dX9_leads_28 rfl ?_
        refine q_goto (tgt := 33) dX9_leads_29 (by decide) ?_
        refine q_ireturn dX9_leads_33 rfl rfl (by omega) (by omega) ?_
        exact fin_t (yes _ _ l0 l1 (Or.inl (by rw [c11])))
      · skip
        refine q_aload_n dX9_leads_14 rfl rfl rfl ?_
        refine q_getr (r := 72) dX9_leads_15 fX9_73 rfl (ty_c hS (by decide) rfl) (hS.2 58 20 72 rfl) ?_
        refine q_sipush (v := nI 960) dX9_leads_18 rfl ?_
        refine q_iload_n dX9_leads_21 rfl rfl ?_
        refine q_iaddN dX9_leads_22 ?_
        refine q_iald (x := (-1)) (j := (960 + a)) dX9_leads_23 (ty_c hS (by decide) rfl) (ix_n (by omega) (by omega)) r2 ?_
        refine q_iload_n dX9_leads_24 rfl rfl ?_
        refine q_icmp_ne1 (tgt := 32) dX9_leads_25 (by decide) (by omega) (by decide) ?_
        refine q_iconst (v := nI 0) dX9_leads_32 rfl ?_
        refine q_ireturn dX9_leads_33 rfl rfl (by omega) (by omega) ?_
        exact fin_f (no _ _ l0 l1 (fun z => z.elim (fun y => c11 (Option.some.inj y)) (fun y => by cases y)))
    | some c =>
      rw [l1] at r2
      have := k1 c l1
      refine CT.of (by decide) (Nat.le_of_ble_eq_true rfl) ?_
      refine q_aload_n dX9_leads_0 rfl rfl rfl ?_
      refine q_getr (r := 71) dX9_leads_1 fX9_70 rfl (ty_c hS (by decide) rfl) (hS.2 58 19 71 rfl) ?_
      refine q_sipush (v := nI 960) dX9_leads_4 rfl ?_
      refine q_iload_n dX9_leads_7 rfl rfl ?_
      refine q_iaddN dX9_leads_8 ?_
      refine q_iald (x := nI d) (j := (960 + a)) dX9_leads_9 (ty_c hS (by decide) rfl) (ix_n (by omega) (by omega)) r1 ?_
      refine q_iload_n dX9_leads_10 rfl rfl ?_
      refine q_icmp_eqN (tgt := 28) dX9_leads_11 (by decide) (by omega) (by omega) (fun c11 => ?_) (fun c11 => ?_)
      · skip
        refine q_iconst (v := nI 1) dX9_leads_28 rfl ?_
        refine q_goto (tgt := 33) dX9_leads_29 (by decide) ?_
        refine q_ireturn dX9_leads_33 rfl rfl (by omega) (by omega) ?_
        first | exact fin_t (yes _ _ l0 l1 (Or.inl (by rw [c11]))) | exact fin_t (yes _ _ l0 l1 (Or.inr (by rw [c25])))
      · skip
        refine q_aload_n dX9_leads_14 rfl rfl rfl ?_
        refine q_getr (r := 72) dX9_leads_15 fX9_73 rfl (ty_c hS (by decide) rfl) (hS.2 58 20 72 rfl) ?_
        refine q_sipush (v := nI 960) dX9_leads_18 rfl ?_
        refine q_iload_n dX9_leads_21 rfl rfl ?_
        refine q_iaddN dX9_leads_22 ?_
        refine q_iald (x := nI c) (j := (960 + a)) dX9_leads_23 (ty_c hS (by decide) rfl) (ix_n (by omega) (by omega)) r2 ?_
        refine q_iload_n dX9_leads_24 rfl rfl ?_
        refine q_icmp_neN (tgt := 32) dX9_leads_25 (by decide) (by omega) (by omega) (fun c25 => ?_) (fun c25 => ?_)
        · skip
          refine q_iconst (v := nI 0) dX9_leads_32 rfl ?_
          refine q_ireturn dX9_leads_33 rfl rfl (by omega) (by omega) ?_
          exact fin_f (no _ _ l0 l1 (fun z => z.elim (fun y => c11 (Option.some.inj y)) (fun y => c25 (Option.some.inj y))))
        · skip
          refine q_iconst (v := nI 1) dX9_leads_28 rfl ?_
          refine q_goto (tgt := 33) dX9_leads_29 (by decide) ?_
          refine q_ireturn dX9_leads_33 rfl rfl (by omega) (by omega) ?_
          first | exact fin_t (yes _ _ l0 l1 (Or.inl (by rw [c11]))) | exact fin_t (yes _ _ l0 l1 (Or.inr (by rw [c25])))
theorem z9_allNext (hS : SK σ) (hR : MR0 σ 4 q) (hc : BC q) (hw : WFs q) (hB : NB q) (hv : fcS σ F (NN q) v) (hF : F + NN q ≤ 38400) {k j : Nat} (hk : k < NN q) (hj : j < 8) : CT g mX9_allNext 1 0 0 [.ref 58, .int (nI F), .int (nI k), .int (nI (2 ^ j))] σ (PQ σ (.int (bi (alN q (v j) k)))) := by
  obtain ⟨-, r1, r2⟩ := mrn hR hk
  have hN := NN_le hc
  have k0 := fun i => ld_lt hc hw hB (w := 0) (n := k) (i := i) hk
  have k1 := fun i => ld_lt hc hw hB (w := 1) (n := k) (i := i) hk
  unfold alN
  cases l0 : ld q 0 k with
  | none =>
    rw [l0] at r1
    refine CT.of (by decide) (Nat.le_of_ble_eq_true rfl) ?_
    refine q_sipush (v := nI 960) dX9_allNext_0 rfl ?_
    refine q_iload_n dX9_allNext_3 rfl rfl ?_
    refine q_iaddN dX9_allNext_4 ?_
    refine q_istore dX9_allNext_5 (by decide) (ls' := [(4, .int (nI (960 + k))), (0, .ref 58), (1, .int (nI F)), (2, .int (nI k)), (3, .int (nI (2 ^ j)))]) rfl ?_
    refine q_aload_n dX9_allNext_7 rfl rfl rfl ?_
    refine q_getr (r := 71) dX9_allNext_8 fX9_70 rfl (ty_c hS (by decide) rfl) (hS.2 58 19 71 rfl) ?_
    refine q_iload dX9_allNext_11 rfl ?_
    refine q_iald (x := (-1)) (j := (960 + k)) dX9_allNext_13 (ty_c hS (by decide) rfl) (ix_n (by omega) (by omega)) r1 ?_
    refine q_if_lt1 (tgt := 63) dX9_allNext_14 (by decide) (by decide) ?_
    refine q_iconst (v := nI 0) dX9_allNext_63 rfl ?_
    refine q_ireturn dX9_allNext_64 rfl rfl (by omega) (by omega) ?_
    exact fin_f rfl
  | some d =>
    rw [l0] at r1
    have b0 := k0 d l0
    cases l1 : ld q 1 k with
    | none =>
      rw [l1] at r2
      refine CT.of (by decide) (Nat.le_of_ble_eq_true rfl) ?_
      refine q_sipush (v := nI 960) dX9_allNext_0 rfl ?_
      refine q_iload_n dX9_allNext_3 rfl rfl ?_
      refine q_iaddN dX9_allNext_4 ?_
      refine q_istore dX9_allNext_5 (by decide) (ls' := [(4, .int (nI (960 + k))), (0, .ref 58), (1, .int (nI F)), (2, .int (nI k)), (3, .int (nI (2 ^ j)))]) rfl ?_
      refine q_aload_n dX9_allNext_7 rfl rfl rfl ?_
      refine q_getr (r := 71) dX9_allNext_8 fX9_70 rfl (ty_c hS (by decide) rfl) (hS.2 58 19 71 rfl) ?_
      refine q_iload dX9_allNext_11 rfl ?_
      refine q_iald (x := nI d) (j := (960 + k)) dX9_allNext_13 (ty_c hS (by decide) rfl) (ix_n (by omega) (by omega)) r1 ?_
      refine q_if_ltN (tgt := 63) dX9_allNext_14 (by decide) (by omega) ?_
      refine q_aload_n dX9_allNext_17 rfl rfl rfl ?_
      refine q_iload_n dX9_allNext_18 rfl rfl ?_
      refine q_aload_n dX9_allNext_19 rfl rfl rfl ?_
      refine q_getr (r := 71) dX9_allNext_20 fX9_70 rfl (ty_c hS (by decide) rfl) (hS.2 58 19 71 rfl) ?_
      refine q_iload dX9_allNext_23 rfl ?_
      refine q_iald (x := nI d) (j := (960 + k)) dX9_allNext_25 (ty_c hS (by decide) rfl) (ix_n (by omega) (by omega)) r1 ?_
      refine q_iload_n dX9_allNext_26 rfl rfl ?_
      refine q_callV (As := [.int (nI F), .int (nI d), .int (nI (2 ^ j))]) (rest := []) dX9_allNext_27 vX9_347 (ty_c hS (by decide) rfl) ⟨by decide, rfl⟩ (z9_is hS hv hF b0 hj) rfl rfl (Nat.le_of_ble_eq_true rfl) (by omega) (by omega) (by omega) (k_p ?_)
      refine q_if_eqB (tgt := 63) dX9_allNext_30 (by decide) (fun c30 => ?_) (fun c30 => ?_)
      · skip
        refine q_iconst (v := nI 0) dX9_allNext_63 rfl ?_
        refine q_ireturn dX9_allNext_64 rfl rfl (by omega) (by omega) ?_
        exact fin_f (by show (v j d && true) = false; rw [c30]; rfl)
      · skip
        refine q_aload_n dX9_allNext_33 rfl rfl rfl ?_
        refine q_getr (r := 72) dX9_allNext_34 fX9_73 rfl (ty_c hS (by decide) rfl) (hS.2 58 20 72 rfl) ?_
        refine q_iload dX9_allNext_37 rfl ?_
        refine q_iald (x := (-1)) (j := (960 + k)) dX9_allNext_39 (ty_c hS (by decide) rfl) (ix_n (by omega) (by omega)) r2 ?_
        refine q_if_lt1 (tgt := 59) dX9_allNext_40 (by decide) (by decide) ?_
        refine q_iconst (v := nI 1) dX9_allNext_59 rfl ?_
        refine q_goto (tgt := 64) dX9_allNext_60 (by decide) ?_
        refine q_ireturn dX9_allNext_64 rfl rfl (by omega) (by omega) ?_
        exact fin_t (by show (v j d && true) = true; rw [c30]; rfl)
    | some c =>
      rw [l1] at r2
      have b1 := k1 c l1
      refine CT.of (by decide) (Nat.le_of_ble_eq_true rfl) ?_
      refine q_sipush (v := nI 960) dX9_allNext_0 rfl ?_
      refine q_iload_n dX9_allNext_3 rfl rfl ?_
      refine q_iaddN dX9_allNext_4 ?_
      refine q_istore dX9_allNext_5 (by decide) (ls' := [(4, .int (nI (960 + k))), (0, .ref 58), (1, .int (nI F)), (2, .int (nI k)), (3, .int (nI (2 ^ j)))]) rfl ?_
      refine q_aload_n dX9_allNext_7 rfl rfl rfl ?_
      refine q_getr (r := 71) dX9_allNext_8 fX9_70 rfl (ty_c hS (by decide) rfl) (hS.2 58 19 71 rfl) ?_
      refine q_iload dX9_allNext_11 rfl ?_
      refine q_iald (x := nI d) (j := (960 + k)) dX9_allNext_13 (ty_c hS (by decide) rfl) (ix_n (by omega) (by omega)) r1 ?_
      refine q_if_ltN (tgt := 63) dX9_allNext_14 (by decide) (by omega) ?_
      refine q_aload_n dX9_allNext_17 rfl rfl rfl ?_
      refine q_iload_n dX9_allNext_18 rfl rfl ?_
      refine q_aload_n dX9_allNext_19 rfl rfl rfl ?_
      refine q_getr (r := 71) dX9_allNext_20 fX9_70 rfl (ty_c hS (by decide) rfl) (hS.2 58 19 71 rfl) ?_
      refine q_iload dX9_allNext_23 rfl ?_
      refine q_iald (x := nI d) (j := (960 + k)) dX9_allNext_25 (ty_c hS (by decide) rfl) (ix_n (by omega) (by omega)) r1 ?_
      refine q_iload_n dX9_allNext_26 rfl rfl ?_
      refine q_callV (As := [.int (nI F), .int (nI d), .int (nI (2 ^ j))]) (rest := []) dX9_allNext_27 vX9_347 (ty_c hS (by decide) rfl) ⟨by decide, rfl⟩ (z9_is hS hv hF b0 hj) rfl rfl (Nat.le_of_ble_eq_true rfl) (by omega) (by omega) (by omega) (k_p ?_)
      refine q_if_eqB (tgt := 63) dX9_allNext_30 (by decide) (fun c30 => ?_) (fun c30 => ?_)
      · skip
        refine q_iconst (v := nI 0) dX9_allNext_63 rfl ?_
        refine q_ireturn dX9_allNext_64 rfl rfl (by omega) (by omega) ?_
        first | exact fin_f (by show (v j d && v j c) = false; rw [c30, c56]; rfl) | exact fin_f (by show (v j d && v j c) = false; rw [c30]; rfl)
      · skip
        refine q_aload_n dX9_allNext_33 rfl rfl rfl ?_
        refine q_getr (r := 72) dX9_allNext_34 fX9_73 rfl (ty_c hS (by decide) rfl) (hS.2 58 20 72 rfl) ?_
        refine q_iload dX9_allNext_37 rfl ?_
        refine q_iald (x := nI c) (j := (960 + k)) dX9_allNext_39 (ty_c hS (by decide) rfl) (ix_n (by omega) (by omega)) r2 ?_
        refine q_if_ltN (tgt := 59) dX9_allNext_40 (by decide) (by omega) ?_
        refine q_aload_n dX9_allNext_43 rfl rfl rfl ?_
        refine q_iload_n dX9_allNext_44 rfl rfl ?_
        refine q_aload_n dX9_allNext_45 rfl rfl rfl ?_
        refine q_getr (r := 72) dX9_allNext_46 fX9_73 rfl (ty_c hS (by decide) rfl) (hS.2 58 20 72 rfl) ?_
        refine q_iload dX9_allNext_49 rfl ?_
        refine q_iald (x := nI c) (j := (960 + k)) dX9_allNext_51 (ty_c hS (by decide) rfl) (ix_n (by omega) (by omega)) r2 ?_
        refine q_iload_n dX9_allNext_52 rfl rfl ?_
        refine q_callV (As := [.int (nI F), .int (nI c), .int (nI (2 ^ j))]) (rest := []) dX9_allNext_53 vX9_347 (ty_c hS (by decide) rfl) ⟨by decide, rfl⟩ (z9_is hS hv hF b1 hj) rfl rfl (Nat.le_of_ble_eq_true rfl) (by omega) (by omega) (by omega) (k_p ?_)
        refine q_if_eqB (tgt := 63) dX9_allNext_56 (by decide) (fun c56 => ?_) (fun c56 => ?_)
        · skip
          refine q_iconst (v := nI 0) dX9_allNext_63 rfl ?_
          refine q_ireturn dX9_allNext_64 rfl rfl (by omega) (by omega) ?_
          first | exact fin_f (by show (v j d && v j c) = false; rw [c30, c56]; rfl) | exact fin_f (by show (v j d && v j c) = false; rw [c30]; rfl)
        · skip
          refine q_iconst (v := nI 1) dX9_allNext_59 rfl ?_
          refine q_goto (tgt := 64) dX9_allNext_60 (by decide) ?_
          refine q_ireturn dX9_allNext_64 rfl rfl (by omega) (by omega) ?_
          exact fin_t (by show (v j d && v j c) = true; rw [c30, c56]; rfl)
theorem z9_isAloneNext (hS : SK σ) (hv : fcS σ F N v) (hF : F + N ≤ 38400) {k : Nat} (hk : k < N) : CT g mX9_isAloneNext 1 0 0 [.ref 58, .int (nI F), .int (nI k)] σ (PQ σ (.int (bi (v 6 k || (!v 0 k && v 7 k))))) := by
  refine CT.of (by decide) (Nat.le_of_ble_eq_true rfl) ?_
  refine q_aload_n dX9_isAloneNext_0 rfl rfl rfl ?_
  refine q_iload_n dX9_isAloneNext_1 rfl rfl ?_
  refine q_iload_n dX9_isAloneNext_2 rfl rfl ?_
  refine q_bipush (v := nI 64) dX9_isAloneNext_3 rfl ?_
  refine q_callV (As := [.int (nI F), .int (nI k), .int (nI 64)]) (rest := []) dX9_isAloneNext_5 vX9_347 (ty_c hS (by decide) rfl) ⟨by decide, rfl⟩ (z9_is (j := 6) hS hv hF hk (by omega)) rfl rfl (Nat.le_of_ble_eq_true rfl) (by omega) (by omega) (by omega) (k_p ?_)
  refine q_if_neB (tgt := 33) dX9_isAloneNext_8 (by decide) (fun c8 => ?_) (fun c8 => ?_)
  · skip
    refine q_iconst (v := nI 1) dX9_isAloneNext_33 rfl ?_
    refine q_goto (tgt := 38) dX9_isAloneNext_34 (by decide) ?_
    refine q_ireturn dX9_isAloneNext_38 rfl rfl (by omega) (by omega) ?_
    first | exact fin_t (by rw [c8, c18, c30]; rfl) | exact fin_t (by rw [c8]; rfl)
  · skip
    refine q_aload_n dX9_isAloneNext_11 rfl rfl rfl ?_
    refine q_iload_n dX9_isAloneNext_12 rfl rfl ?_
    refine q_iload_n dX9_isAloneNext_13 rfl rfl ?_
    refine q_iconst (v := nI 1) dX9_isAloneNext_14 rfl ?_
    refine q_callV (As := [.int (nI F), .int (nI k), .int (nI 1)]) (rest := []) dX9_isAloneNext_15 vX9_347 (ty_c hS (by decide) rfl) ⟨by decide, rfl⟩ (z9_is (j := 0) hS hv hF hk (by omega)) rfl rfl (Nat.le_of_ble_eq_true rfl) (by omega) (by omega) (by omega) (k_p ?_)
    refine q_if_neB (tgt := 37) dX9_isAloneNext_18 (by decide) (fun c18 => ?_) (fun c18 => ?_)
    · skip
      refine q_iconst (v := nI 0) dX9_isAloneNext_37 rfl ?_
      refine q_ireturn dX9_isAloneNext_38 rfl rfl (by omega) (by omega) ?_
      first | exact fin_f (by rw [c8, c18, c30]; rfl) | exact fin_f (by rw [c8, c18]; rfl)
    · skip
      refine q_aload_n dX9_isAloneNext_21 rfl rfl rfl ?_
      refine q_iload_n dX9_isAloneNext_22 rfl rfl ?_
      refine q_iload_n dX9_isAloneNext_23 rfl rfl ?_
      refine q_sipush (v := nI 128) dX9_isAloneNext_24 rfl ?_
      refine q_callV (As := [.int (nI F), .int (nI k), .int (nI 128)]) (rest := []) dX9_isAloneNext_27 vX9_347 (ty_c hS (by decide) rfl) ⟨by decide, rfl⟩ (z9_is (j := 7) hS hv hF hk (by omega)) rfl rfl (Nat.le_of_ble_eq_true rfl) (by omega) (by omega) (by omega) (k_p ?_)
      refine q_if_eqB (tgt := 37) dX9_isAloneNext_30 (by decide) (fun c30 => ?_) (fun c30 => ?_)
      · skip
        refine q_iconst (v := nI 0) dX9_isAloneNext_37 rfl ?_
        refine q_ireturn dX9_isAloneNext_38 rfl rfl (by omega) (by omega) ?_
        first | exact fin_f (by rw [c8, c18, c30]; rfl) | exact fin_f (by rw [c8, c18]; rfl)
      · skip
        refine q_iconst (v := nI 1) dX9_isAloneNext_33 rfl ?_
        refine q_goto (tgt := 38) dX9_isAloneNext_34 (by decide) ?_
        refine q_ireturn dX9_isAloneNext_38 rfl rfl (by omega) (by omega) ?_
        first | exact fin_t (by rw [c8, c18, c30]; rfl) | exact fin_t (by rw [c8]; rfl)
/-- all that lead to k: THERE -/
def ahT (q : PS) (v : Nat → Nat → Bool) (k a : Nat) : Prop := lto q a k → (!v 1 a && (v 0 a || v 3 a)) = true
def ahD (q : PS) (v : Nat → Nat → Bool) (k a : Nat) : Prop := lto q a k → (v 5 a && !v 0 a) = true
theorem y9_ahT (hS : SK σ) (hR : MR0 σ 4 q) (hc : BC q) (hw : WFs q) (hB : NB q) (hv : fcS σ F (NN q) v) (hF : F + NN q ≤ 38400) {k : Nat} (hk : k < 240) : ∀ (m a : Nat), a + m = NN q → (∀ i, i < a → ahT q v k i) → WA g mX9_allAhead 1 0 0 (ZM g (fun r σ' => σ' = σ ∧ ∃ b, r = some (.int (bi b)) ∧ (b = true ↔ ∀ i, i < NN q → ahT q v k i)) 0 0) 0 0 3 [(0, .ref 58), (1, .int (nI F)), (2, .int (nI k)), (3, .int (nI 8)), (4, .int (nI a))] [] σ := by
  have hN := NN_le hc
  have h62 := hR.2.1
  intro m
  induction m with
  | zero =>
    intro a ha h
    have ea : a = NN q := by omega
    rw [ea] at h ⊢
    refine q_iload dX9_allAhead_3 rfl ?_
    refine q_aload_n dX9_allAhead_5 rfl rfl rfl ?_
    refine q_getr (r := 62) dX9_allAhead_6 fX9_43 rfl (ty_c hS (by decide) rfl) (hS.2 58 10 62 rfl) ?_
    refine q_iconst (v := nI 4) dX9_allAhead_9 rfl ?_
    refine q_iald (x := nI (NN q)) (j := 4) dX9_allAhead_10 (ty_c hS (by decide) rfl) (ix_n (by omega) (by omega)) h62 ?_
    refine q_icmp_geN (tgt := 118) dX9_allAhead_11 (by decide) (by omega) (by omega) (fun c11 => ?_) (fun c11 => ?_)
    · skip
      refine q_iconst (v := nI 1) dX9_allAhead_118 rfl ?_
      refine q_ireturn dX9_allAhead_119 rfl rfl (by omega) (by omega) ?_
      exact ⟨rfl, true, rfl, fun _ => h, fun _ => rfl⟩
    · exact absurd c11 (by omega)
  | succ m ih =>
    intro a ha h
    have kN : ahT q v k a → WA g mX9_allAhead 1 0 0 (ZM g (fun r σ' => σ' = σ ∧ ∃ b, r = some (.int (bi b)) ∧ (b = true ↔ ∀ i, i < NN q → ahT q v k i)) 0 0) 0 0 3 [(0, .ref 58), (1, .int (nI F)), (2, .int (nI k)), (3, .int (nI 8)), (4, .int (nI (a + 1)))] [] σ := fun z => ih (a + 1) (by omega) fun i hi => by
      by_cases e : i = a
      · rw [e]; exact z
      · exact h i (by omega)
    have no : decide (lto q a k) = true → (!v 1 a && (v 0 a || v 3 a)) = false → ((false : Bool) = true ↔ ∀ i, i < NN q → ahT q v k i) := fun z1 z2 => ⟨fun y => (by cases y), fun y => by
      have := y a (by omega) (of_decide_eq_true z1)
      rw [z2] at this; cases this⟩
    refine q_iload dX9_allAhead_3 rfl ?_
    refine q_aload_n dX9_allAhead_5 rfl rfl rfl ?_
    refine q_getr (r := 62) dX9_allAhead_6 fX9_43 rfl (ty_c hS (by decide) rfl) (hS.2 58 10 62 rfl) ?_
    refine q_iconst (v := nI 4) dX9_allAhead_9 rfl ?_
    refine q_iald (x := nI (NN q)) (j := 4) dX9_allAhead_10 (ty_c hS (by decide) rfl) (ix_n (by omega) (by omega)) h62 ?_
    refine q_icmp_geN (tgt := 118) dX9_allAhead_11 (by decide) (by omega) (by omega) (fun c11 => ?_) (fun c11 => ?_)
    · exact absurd c11 (by omega)
    · skip
      refine q_aload_n dX9_allAhead_14 rfl rfl rfl ?_
      refine q_iload dX9_allAhead_15 rfl ?_
      refine q_iload_n dX9_allAhead_17 rfl rfl ?_
      refine q_callV (As := [.int (nI a), .int (nI k)]) (rest := []) dX9_allAhead_18 vX9_370 (ty_c hS (by decide) rfl) ⟨by decide, rfl⟩ (z9_leads hS hR hc hw hB (by omega) hk) rfl rfl (Nat.le_of_ble_eq_true rfl) (by omega) (by omega) (by omega) (k_p ?_)
      refine q_if_neB (tgt := 27) dX9_allAhead_21 (by decide) (fun c21 => ?_) (fun c21 => ?_)
      · skip
        refine q_iload_n dX9_allAhead_27 rfl rfl ?_
        refine q_bipush (v := nI 8) dX9_allAhead_28 rfl ?_
        refine q_icmp_neN (tgt := 75) dX9_allAhead_30 (by decide) (by omega) (by omega) (fun h => absurd h (by decide)) (fun _ => ?_)
        refine q_aload_n dX9_allAhead_33 rfl rfl rfl ?_
        refine q_iload_n dX9_allAhead_34 rfl rfl ?_
        refine q_iload dX9_allAhead_35 rfl ?_
        refine q_iconst (v := nI 2) dX9_allAhead_37 rfl ?_
        refine q_callV (As := [.int (nI F), .int (nI a), .int (nI 2)]) (rest := []) dX9_allAhead_38 vX9_347 (ty_c hS (by decide) rfl) ⟨by decide, rfl⟩ (z9_is (j := 1) hS hv hF (by omega) (by omega)) rfl rfl (Nat.le_of_ble_eq_true rfl) (by omega) (by omega) (by omega) (k_p ?_)
        refine q_if_neB (tgt := 71) dX9_allAhead_41 (by decide) (fun c41 => ?_) (fun c41 => ?_)
        · skip
          refine q_iconst (v := nI 0) dX9_allAhead_71 rfl ?_
          refine q_goto (tgt := 103) dX9_allAhead_72 (by decide) ?_
          refine q_istore dX9_allAhead_103 (by decide) (ls' := [(5, .int (nI 0)), (0, .ref 58), (1, .int (nI F)), (2, .int (nI k)), (3, .int (nI 8)), (4, .int (nI a))]) rfl ?_
          refine q_iload dX9_allAhead_105 rfl ?_
          refine q_if_neN (tgt := 112) dX9_allAhead_107 (by decide) (by omega) (fun h => absurd h (by decide)) (fun _ => ?_)
          refine q_iconst (v := nI 0) dX9_allAhead_110 rfl ?_
          refine q_ireturn dX9_allAhead_111 rfl rfl (by omega) (by omega) ?_
          first | exact ⟨rfl, false, rfl, no c21 (by rw [c41, c52, c64]; rfl)⟩ | exact ⟨rfl, false, rfl, no c21 (by rw [c41]; rfl)⟩
        · skip
          refine q_aload_n dX9_allAhead_44 rfl rfl rfl ?_
          refine q_iload_n dX9_allAhead_45 rfl rfl ?_
          refine q_iload dX9_allAhead_46 rfl ?_
          refine q_iconst (v := nI 1) dX9_allAhead_48 rfl ?_
          refine q_callV (As := [.int (nI F), .int (nI a), .int (nI 1)]) (rest := []) dX9_allAhead_49 vX9_347 (ty_c hS (by decide) rfl) ⟨by decide, rfl⟩ (z9_is (j := 0) hS hv hF (by omega) (by omega)) rfl rfl (Nat.le_of_ble_eq_true rfl) (by omega) (by omega) (by omega) (k_p ?_)
          refine q_if_neB (tgt := 67) dX9_allAhead_52 (by decide) (fun c52 => ?_) (fun c52 => ?_)
          · skip
            refine q_iconst (v := nI 1) dX9_allAhead_67 rfl ?_
            refine q_goto (tgt := 103) dX9_allAhead_68 (by decide) ?_
            refine q_istore dX9_allAhead_103 (by decide) (ls' := [(5, .int (nI 1)), (0, .ref 58), (1, .int (nI F)), (2, .int (nI k)), (3, .int (nI 8)), (4, .int (nI a))]) rfl ?_
            refine q_iload dX9_allAhead_105 rfl ?_
            refine q_if_neN (tgt := 112) dX9_allAhead_107 (by decide) (by omega) (fun _ => ?_) (fun h => absurd h (by decide))
            refine q_iincN (c := 1) dX9_allAhead_112 rfl (by decide) rfl (ls' := [(4, .int (nI (a + 1))), (5, .int (nI 1)), (0, .ref 58), (1, .int (nI F)), (2, .int (nI k)), (3, .int (nI 8))]) rfl ?_
            refine q_goto (tgt := 3) dX9_allAhead_115 (by decide) ?_
            refine q_pk [2, 3, 4, 5, 0] (ls' := [(0, .ref 58), (1, .int (nI F)), (2, .int (nI k)), (3, .int (nI 8)), (4, .int (nI (a + 1)))]) rfl ?_
            first | exact kN (fun _ => by rw [c41, c52, c64]; rfl) | exact kN (fun _ => by rw [c41, c52]; rfl) | exact kN (fun z => absurd z (of_decide_eq_false c21))
          · skip
            refine q_aload_n dX9_allAhead_55 rfl rfl rfl ?_
            refine q_iload_n dX9_allAhead_56 rfl rfl ?_
            refine q_iload dX9_allAhead_57 rfl ?_
            refine q_bipush (v := nI 8) dX9_allAhead_59 rfl ?_
            refine q_callV (As := [.int (nI F), .int (nI a), .int (nI 8)]) (rest := []) dX9_allAhead_61 vX9_347 (ty_c hS (by decide) rfl) ⟨by decide, rfl⟩ (z9_is (j := 3) hS hv hF (by omega) (by omega)) rfl rfl (Nat.le_of_ble_eq_true rfl) (by omega) (by omega) (by omega) (k_p ?_)
            refine q_if_eqB (tgt := 71) dX9_allAhead_64 (by decide) (fun c64 => ?_) (fun c64 => ?_)
            · skip
              refine q_iconst (v := nI 0) dX9_allAhead_71 rfl ?_
              refine q_goto (tgt := 103) dX9_allAhead_72 (by decide) ?_
              refine q_istore dX9_allAhead_103 (by decide) (ls' := [(5, .int (nI 0)), (0, .ref 58), (1, .int (nI F)), (2, .int (nI k)), (3, .int (nI 8)), (4, .int (nI a))]) rfl ?_
              refine q_iload dX9_allAhead_105 rfl ?_
              refine q_if_neN (tgt := 112) dX9_allAhead_107 (by decide) (by omega) (fun h => absurd h (by decide)) (fun _ => ?_)
              refine q_iconst (v := nI 0) dX9_allAhead_110 rfl ?_
              refine q_ireturn dX9_allAhead_111 rfl rfl (by omega) (by omega) ?_
              first | exact ⟨rfl, false, rfl, no c21 (by rw [c41, c52, c64]; rfl)⟩ | exact ⟨rfl, false, rfl, no c21 (by rw [c41]; rfl)⟩
            · skip
              refine q_iconst (v := nI 1) dX9_allAhead_67 rfl ?_
              refine q_goto (tgt := 103) dX9_allAhead_68 (by decide) ?_
              refine q_istore dX9_allAhead_103 (by decide) (ls' := [(5, .int (nI 1)), (0, .ref 58), (1, .int (nI F)), (2, .int (nI k)), (3, .int (nI 8)), (4, .int (nI a))]) rfl ?_
              refine q_iload dX9_allAhead_105 rfl ?_
              refine q_if_neN (tgt := 112) dX9_allAhead_107 (by decide) (by omega) (fun _ => ?_) (fun h => absurd h (by decide))
              refine q_iincN (c := 1) dX9_allAhead_112 rfl (by decide) rfl (ls' := [(4, .int (nI (a + 1))), (5, .int (nI 1)), (0, .ref 58), (1, .int (nI F)), (2, .int (nI k)), (3, .int (nI 8))]) rfl ?_
              refine q_goto (tgt := 3) dX9_allAhead_115 (by decide) ?_
              refine q_pk [2, 3, 4, 5, 0] (ls' := [(0, .ref 58), (1, .int (nI F)), (2, .int (nI k)), (3, .int (nI 8)), (4, .int (nI (a + 1)))]) rfl ?_
              first | exact kN (fun _ => by rw [c41, c52, c64]; rfl) | exact kN (fun _ => by rw [c41, c52]; rfl) | exact kN (fun z => absurd z (of_decide_eq_false c21))
      · skip
        refine q_goto (tgt := 112) dX9_allAhead_24 (by decide) ?_
        refine q_iincN (c := 1) dX9_allAhead_112 rfl (by decide) rfl (ls' := [(4, .int (nI (a + 1))), (0, .ref 58), (1, .int (nI F)), (2, .int (nI k)), (3, .int (nI 8))]) rfl ?_
        refine q_goto (tgt := 3) dX9_allAhead_115 (by decide) ?_
        refine q_pk [1, 2, 3, 4, 0] (ls' := [(0, .ref 58), (1, .int (nI F)), (2, .int (nI k)), (3, .int (nI 8)), (4, .int (nI (a + 1)))]) rfl ?_
        first | exact kN (fun _ => by rw [c41, c52, c64]; rfl) | exact kN (fun _ => by rw [c41, c52]; rfl) | exact kN (fun z => absurd z (of_decide_eq_false c21))
theorem y9_ahD (hS : SK σ) (hR : MR0 σ 4 q) (hc : BC q) (hw : WFs q) (hB : NB q) (hv : fcS σ F (NN q) v) (hF : F + NN q ≤ 38400) {k : Nat} (hk : k < 240) : ∀ (m a : Nat), a + m = NN q → (∀ i, i < a → ahD q v k i) → WA g mX9_allAhead 1 0 0 (ZM g (fun r σ' => σ' = σ ∧ ∃ b, r = some (.int (bi b)) ∧ (b = true ↔ ∀ i, i < NN q → ahD q v k i)) 0 0) 0 0 3 [(0, .ref 58), (1, .int (nI F)), (2, .int (nI k)), (3, .int (nI 32)), (4, .int (nI a))] [] σ := by
  have hN := NN_le hc
  have h62 := hR.2.1
  intro m
  induction m with
  | zero =>
    intro a ha h
    have ea : a = NN q := by omega
    rw [ea] at h ⊢
    refine q_iload dX9_allAhead_3 rfl ?_
    refine q_aload_n dX9_allAhead_5 rfl rfl rfl ?_
    refine q_getr (r := 62) dX9_allAhead_6 fX9_43 rfl (ty_c hS (by decide) rfl) (hS.2 58 10 62 rfl) ?_
    refine q_iconst (v := nI 4) dX9_allAhead_9 rfl ?_
    refine q_iald (x := nI (NN q)) (j := 4) dX9_allAhead_10 (ty_c hS (by decide) rfl) (ix_n (by omega) (by omega)) h62 ?_
    refine q_icmp_geN (tgt := 118) dX9_allAhead_11 (by decide) (by omega) (by omega) (fun c11 => ?_) (fun c11 => ?_)
    · skip
      refine q_iconst (v := nI 1) dX9_allAhead_118 rfl ?_
      refine q_ireturn dX9_allAhead_119 rfl rfl (by omega) (by omega) ?_
      exact ⟨rfl, true, rfl, fun _ => h, fun _ => rfl⟩
    · exact absurd c11 (by omega)
  | succ m ih =>
    intro a ha h
    have kN : ahD q v k a → WA g mX9_allAhead 1 0 0 (ZM g (fun r σ' => σ' = σ ∧ ∃ b, r = some (.int (bi b)) ∧ (b = true ↔ ∀ i, i < NN q → ahD q v k i)) 0 0) 0 0 3 [(0, .ref 58), (1, .int (nI F)), (2, .int (nI k)), (3, .int (nI 32)), (4, .int (nI (a + 1)))] [] σ := fun z => ih (a + 1) (by omega) fun i hi => by
      by_cases e : i = a
      · rw [e]; exact z
      · exact h i (by omega)
    have no : decide (lto q a k) = true → (v 5 a && !v 0 a) = false → ((false : Bool) = true ↔ ∀ i, i < NN q → ahD q v k i) := fun z1 z2 => ⟨fun y => (by cases y), fun y => by
      have := y a (by omega) (of_decide_eq_true z1)
      rw [z2] at this; cases this⟩
    refine q_iload dX9_allAhead_3 rfl ?_
    refine q_aload_n dX9_allAhead_5 rfl rfl rfl ?_
    refine q_getr (r := 62) dX9_allAhead_6 fX9_43 rfl (ty_c hS (by decide) rfl) (hS.2 58 10 62 rfl) ?_
    refine q_iconst (v := nI 4) dX9_allAhead_9 rfl ?_
    refine q_iald (x := nI (NN q)) (j := 4) dX9_allAhead_10 (ty_c hS (by decide) rfl) (ix_n (by omega) (by omega)) h62 ?_
    refine q_icmp_geN (tgt := 118) dX9_allAhead_11 (by decide) (by omega) (by omega) (fun c11 => ?_) (fun c11 => ?_)
    · exact absurd c11 (by omega)
    · skip
      refine q_aload_n dX9_allAhead_14 rfl rfl rfl ?_
      refine q_iload dX9_allAhead_15 rfl ?_
      refine q_iload_n dX9_allAhead_17 rfl rfl ?_
      refine q_callV (As := [.int (nI a), .int (nI k)]) (rest := []) dX9_allAhead_18 vX9_370 (ty_c hS (by decide) rfl) ⟨by decide, rfl⟩ (z9_leads hS hR hc hw hB (by omega) hk) rfl rfl (Nat.le_of_ble_eq_true rfl) (by omega) (by omega) (by omega) (k_p ?_)
      refine q_if_neB (tgt := 27) dX9_allAhead_21 (by decide) (fun c21 => ?_) (fun c21 => ?_)
      · skip
        refine q_iload_n dX9_allAhead_27 rfl rfl ?_
        refine q_bipush (v := nI 8) dX9_allAhead_28 rfl ?_
        refine q_icmp_neN (tgt := 75) dX9_allAhead_30 (by decide) (by omega) (by omega) (fun _ => ?_) (fun h => absurd h (by decide))
        refine q_aload_n dX9_allAhead_75 rfl rfl rfl ?_
        refine q_iload_n dX9_allAhead_76 rfl rfl ?_
        refine q_iload dX9_allAhead_77 rfl ?_
        refine q_bipush (v := nI 32) dX9_allAhead_79 rfl ?_
        refine q_callV (As := [.int (nI F), .int (nI a), .int (nI 32)]) (rest := []) dX9_allAhead_81 vX9_347 (ty_c hS (by decide) rfl) ⟨by decide, rfl⟩ (z9_is (j := 5) hS hv hF (by omega) (by omega)) rfl rfl (Nat.le_of_ble_eq_true rfl) (by omega) (by omega) (by omega) (k_p ?_)
        refine q_if_eqB (tgt := 102) dX9_allAhead_84 (by decide) (fun c84 => ?_) (fun c84 => ?_)
        · skip
          refine q_iconst (v := nI 0) dX9_allAhead_102 rfl ?_
          refine q_istore dX9_allAhead_103 (by decide) (ls' := [(5, .int (nI 0)), (0, .ref 58), (1, .int (nI F)), (2, .int (nI k)), (3, .int (nI 32)), (4, .int (nI a))]) rfl ?_
          refine q_iload dX9_allAhead_105 rfl ?_
          refine q_if_neN (tgt := 112) dX9_allAhead_107 (by decide) (by omega) (fun h => absurd h (by decide)) (fun _ => ?_)
          refine q_iconst (v := nI 0) dX9_allAhead_110 rfl ?_
          refine q_ireturn dX9_allAhead_111 rfl rfl (by omega) (by omega) ?_
          first | exact ⟨rfl, false, rfl, no c21 (by rw [c84, c95]; rfl)⟩ | exact ⟨rfl, false, rfl, no c21 (by rw [c84]; rfl)⟩
        · skip
          refine q_aload_n dX9_allAhead_87 rfl rfl rfl ?_
          refine q_iload_n dX9_allAhead_88 rfl rfl ?_
          refine q_iload dX9_allAhead_89 rfl ?_
          refine q_iconst (v := nI 1) dX9_allAhead_91 rfl ?_
          refine q_callV (As := [.int (nI F), .int (nI a), .int (nI 1)]) (rest := []) dX9_allAhead_92 vX9_347 (ty_c hS (by decide) rfl) ⟨by decide, rfl⟩ (z9_is (j := 0) hS hv hF (by omega) (by omega)) rfl rfl (Nat.le_of_ble_eq_true rfl) (by omega) (by omega) (by omega) (k_p ?_)
          refine q_if_neB (tgt := 102) dX9_allAhead_95 (by decide) (fun c95 => ?_) (fun c95 => ?_)
          · skip
            refine q_iconst (v := nI 0) dX9_allAhead_102 rfl ?_
            refine q_istore dX9_allAhead_103 (by decide) (ls' := [(5, .int (nI 0)), (0, .ref 58), (1, .int (nI F)), (2, .int (nI k)), (3, .int (nI 32)), (4, .int (nI a))]) rfl ?_
            refine q_iload dX9_allAhead_105 rfl ?_
            refine q_if_neN (tgt := 112) dX9_allAhead_107 (by decide) (by omega) (fun h => absurd h (by decide)) (fun _ => ?_)
            refine q_iconst (v := nI 0) dX9_allAhead_110 rfl ?_
            refine q_ireturn dX9_allAhead_111 rfl rfl (by omega) (by omega) ?_
            first | exact ⟨rfl, false, rfl, no c21 (by rw [c84, c95]; rfl)⟩ | exact ⟨rfl, false, rfl, no c21 (by rw [c84]; rfl)⟩
          · skip
            refine q_iconst (v := nI 1) dX9_allAhead_98 rfl ?_
            refine q_goto (tgt := 103) dX9_allAhead_99 (by decide) ?_
            refine q_istore dX9_allAhead_103 (by decide) (ls' := [(5, .int (nI 1)), (0, .ref 58), (1, .int (nI F)), (2, .int (nI k)), (3, .int (nI 32)), (4, .int (nI a))]) rfl ?_
            refine q_iload dX9_allAhead_105 rfl ?_
            refine q_if_neN (tgt := 112) dX9_allAhead_107 (by decide) (by omega) (fun _ => ?_) (fun h => absurd h (by decide))
            refine q_iincN (c := 1) dX9_allAhead_112 rfl (by decide) rfl (ls' := [(4, .int (nI (a + 1))), (5, .int (nI 1)), (0, .ref 58), (1, .int (nI F)), (2, .int (nI k)), (3, .int (nI 32))]) rfl ?_
            refine q_goto (tgt := 3) dX9_allAhead_115 (by decide) ?_
            refine q_pk [2, 3, 4, 5, 0] (ls' := [(0, .ref 58), (1, .int (nI F)), (2, .int (nI k)), (3, .int (nI 32)), (4, .int (nI (a + 1)))]) rfl ?_
            first | exact kN (fun _ => by rw [c84, c95]; rfl) | exact kN (fun z => absurd z (of_decide_eq_false c21))
      · skip
        refine q_goto (tgt := 112) dX9_allAhead_24 (by decide) ?_
        refine q_iincN (c := 1) dX9_allAhead_112 rfl (by decide) rfl (ls' := [(4, .int (nI (a + 1))), (0, .ref 58), (1, .int (nI F)), (2, .int (nI k)), (3, .int (nI 32))]) rfl ?_
        refine q_goto (tgt := 3) dX9_allAhead_115 (by decide) ?_
        refine q_pk [1, 2, 3, 4, 0] (ls' := [(0, .ref 58), (1, .int (nI F)), (2, .int (nI k)), (3, .int (nI 32)), (4, .int (nI (a + 1)))]) rfl ?_
        first | exact kN (fun _ => by rw [c84, c95]; rfl) | exact kN (fun z => absurd z (of_decide_eq_false c21))
theorem z9_ahT (hS : SK σ) (hR : MR0 σ 4 q) (hc : BC q) (hw : WFs q) (hB : NB q) (hv : fcS σ F (NN q) v) (hF : F + NN q ≤ 38400) {k : Nat} (hk : k < 240) : CT g mX9_allAhead 1 0 0 [.ref 58, .int (nI F), .int (nI k), .int (nI 8)] σ (fun r σ' => ∃ b, r = some (.int (bi b)) ∧ (σ' = σ ∧ (b = true ↔ ∀ i, i < NN q → ahT q v k i))) := by
  refine CT.mono (Q := fun r σ' => σ' = σ ∧ ∃ b, r = some (.int (bi b)) ∧ (b = true ↔ ∀ i, i < NN q → ahT q v k i)) (fun r σ' z => ⟨z.2.choose, z.2.choose_spec.1, z.1, z.2.choose_spec.2⟩) ?_
  refine CT.of (by decide) (Nat.le_of_ble_eq_true rfl) ?_
  refine q_iconst (v := nI 0) dX9_allAhead_0 rfl ?_
  refine q_istore dX9_allAhead_1 (by decide) (ls' := [(4, .int (nI 0)), (0, .ref 58), (1, .int (nI F)), (2, .int (nI k)), (3, .int (nI 8))]) rfl ?_
  refine q_pk [1, 2, 3, 4, 0] (ls' := [(0, .ref 58), (1, .int (nI F)), (2, .int (nI k)), (3, .int (nI 8)), (4, .int (nI 0))]) rfl ?_
  exact y9_ahT hS hR hc hw hB hv hF hk (NN q) 0 (by omega) (fun i hi => absurd hi (by omega))
theorem z9_ahD (hS : SK σ) (hR : MR0 σ 4 q) (hc : BC q) (hw : WFs q) (hB : NB q) (hv : fcS σ F (NN q) v) (hF : F + NN q ≤ 38400) {k : Nat} (hk : k < 240) : CT g mX9_allAhead 1 0 0 [.ref 58, .int (nI F), .int (nI k), .int (nI 32)] σ (fun r σ' => ∃ b, r = some (.int (bi b)) ∧ (σ' = σ ∧ (b = true ↔ ∀ i, i < NN q → ahD q v k i))) := by
  refine CT.mono (Q := fun r σ' => σ' = σ ∧ ∃ b, r = some (.int (bi b)) ∧ (b = true ↔ ∀ i, i < NN q → ahD q v k i)) (fun r σ' z => ⟨z.2.choose, z.2.choose_spec.1, z.1, z.2.choose_spec.2⟩) ?_
  refine CT.of (by decide) (Nat.le_of_ble_eq_true rfl) ?_
  refine q_iconst (v := nI 0) dX9_allAhead_0 rfl ?_
  refine q_istore dX9_allAhead_1 (by decide) (ls' := [(4, .int (nI 0)), (0, .ref 58), (1, .int (nI F)), (2, .int (nI k)), (3, .int (nI 32))]) rfl ?_
  refine q_pk [1, 2, 3, 4, 0] (ls' := [(0, .ref 58), (1, .int (nI F)), (2, .int (nI k)), (3, .int (nI 32)), (4, .int (nI 0))]) rfl ?_
  exact y9_ahD hS hR hc hw hB hv hF hk (NN q) 0 (by omega) (fun i hi => absurd hi (by omega))
/-- some that lead to k lose it -/
def ahA (q : PS) (v : Nat → Nat → Bool) (k a : Nat) : Prop := lto q a k ∧ (v 1 a || !(v 3 a || v 2 a)) = true
theorem y9_anA (hS : SK σ) (hR : MR0 σ 4 q) (hc : BC q) (hw : WFs q) (hB : NB q) (hv : fcS σ F (NN q) v) (hF : F + NN q ≤ 38400) {k : Nat} (hk : k < 240) : ∀ (m a : Nat), a + m = NN q → (∀ i, i < a → ¬ ahA q v k i) → WA g mX9_anyAhead 1 0 0 (ZM g (fun r σ' => σ' = σ ∧ ∃ b, r = some (.int (bi b)) ∧ (b = true ↔ ∃ i, i < NN q ∧ ahA q v k i)) 0 0) 0 0 2 [(0, .ref 58), (1, .int (nI F)), (2, .int (nI k)), (3, .int (nI a))] [] σ := by
  have hN := NN_le hc
  have h62 := hR.2.1
  intro m
  induction m with
  | zero =>
    intro a ha h
    have ea : a = NN q := by omega
    rw [ea] at h ⊢
    refine q_iload_n dX9_anyAhead_2 rfl rfl ?_
    refine q_aload_n dX9_anyAhead_3 rfl rfl rfl ?_
    refine q_getr (r := 62) dX9_anyAhead_4 fX9_43 rfl (ty_c hS (by decide) rfl) (hS.2 58 10 62 rfl) ?_
    refine q_iconst (v := nI 4) dX9_anyAhead_7 rfl ?_
    refine q_iald (x := nI (NN q)) (j := 4) dX9_anyAhead_8 (ty_c hS (by decide) rfl) (ix_n (by omega) (by omega)) h62 ?_
    refine q_icmp_geN (tgt := 60) dX9_anyAhead_9 (by decide) (by omega) (by omega) (fun c9 => ?_) (fun c9 => ?_)
    · skip
      refine q_iconst (v := nI 0) dX9_anyAhead_60 rfl ?_
      refine q_ireturn dX9_anyAhead_61 rfl rfl (by omega) (by omega) ?_
      exact ⟨rfl, false, rfl, fun z => (by cases z), fun ⟨i, i1, i2⟩ => absurd i2 (h i i1)⟩
    · exact absurd c9 (by omega)
  | succ m ih =>
    intro a ha h
    have kN : ¬ ahA q v k a → WA g mX9_anyAhead 1 0 0 (ZM g (fun r σ' => σ' = σ ∧ ∃ b, r = some (.int (bi b)) ∧ (b = true ↔ ∃ i, i < NN q ∧ ahA q v k i)) 0 0) 0 0 2 [(0, .ref 58), (1, .int (nI F)), (2, .int (nI k)), (3, .int (nI (a + 1)))] [] σ := fun z => ih (a + 1) (by omega) fun i hi => by
      by_cases e : i = a
      · rw [e]; exact z
      · exact h i (by omega)
    have yes : decide (lto q a k) = true → (v 1 a || !(v 3 a || v 2 a)) = true → ((true : Bool) = true ↔ ∃ i, i < NN q ∧ ahA q v k i) := fun z1 z2 => ⟨fun _ => ⟨a, by omega, of_decide_eq_true z1, z2⟩, fun _ => rfl⟩
    refine q_iload_n dX9_anyAhead_2 rfl rfl ?_
    refine q_aload_n dX9_anyAhead_3 rfl rfl rfl ?_
    refine q_getr (r := 62) dX9_anyAhead_4 fX9_43 rfl (ty_c hS (by decide) rfl) (hS.2 58 10 62 rfl) ?_
    refine q_iconst (v := nI 4) dX9_anyAhead_7 rfl ?_
    refine q_iald (x := nI (NN q)) (j := 4) dX9_anyAhead_8 (ty_c hS (by decide) rfl) (ix_n (by omega) (by omega)) h62 ?_
    refine q_icmp_geN (tgt := 60) dX9_anyAhead_9 (by decide) (by omega) (by omega) (fun c9 => ?_) (fun c9 => ?_)
    · exact absurd c9 (by omega)
    · skip
      refine q_aload_n dX9_anyAhead_12 rfl rfl rfl ?_
      refine q_iload_n dX9_anyAhead_13 rfl rfl ?_
      refine q_iload_n dX9_anyAhead_14 rfl rfl ?_
      refine q_callV (As := [.int (nI a), .int (nI k)]) (rest := []) dX9_anyAhead_15 vX9_370 (ty_c hS (by decide) rfl) ⟨by decide, rfl⟩ (z9_leads hS hR hc hw hB (by omega) hk) rfl rfl (Nat.le_of_ble_eq_true rfl) (by omega) (by omega) (by omega) (k_p ?_)
      refine q_if_eqB (tgt := 54) dX9_anyAhead_18 (by decide) (fun c18 => ?_) (fun c18 => ?_)
      · skip
        refine q_iincN (c := 1) dX9_anyAhead_54 rfl (by decide) rfl (ls' := [(3, .int (nI (a + 1))), (0, .ref 58), (1, .int (nI F)), (2, .int (nI k))]) rfl ?_
        refine q_goto (tgt := 2) dX9_anyAhead_57 (by decide) ?_
        refine q_pk [1, 2, 3, 0] (ls' := [(0, .ref 58), (1, .int (nI F)), (2, .int (nI k)), (3, .int (nI (a + 1)))]) rfl ?_
        first | exact kN (fun z => absurd z.1 (of_decide_eq_false c18)) | exact kN (fun z => by have z := z.2; rw [c28, c39, c49] at z; exact absurd (show false = true from z) (by decide)) | exact kN (fun z => by have z := z.2; rw [c28, c39] at z; exact absurd (show false = true from z) (by decide))
      · skip
        refine q_aload_n dX9_anyAhead_21 rfl rfl rfl ?_
        refine q_iload_n dX9_anyAhead_22 rfl rfl ?_
        refine q_iload_n dX9_anyAhead_23 rfl rfl ?_
        refine q_iconst (v := nI 2) dX9_anyAhead_24 rfl ?_
        refine q_callV (As := [.int (nI F), .int (nI a), .int (nI 2)]) (rest := []) dX9_anyAhead_25 vX9_347 (ty_c hS (by decide) rfl) ⟨by decide, rfl⟩ (z9_is (j := 1) hS hv hF (by omega) (by omega)) rfl rfl (Nat.le_of_ble_eq_true rfl) (by omega) (by omega) (by omega) (k_p ?_)
        refine q_if_neB (tgt := 52) dX9_anyAhead_28 (by decide) (fun c28 => ?_) (fun c28 => ?_)
        · skip
          refine q_iconst (v := nI 1) dX9_anyAhead_52 rfl ?_
          refine q_ireturn dX9_anyAhead_53 rfl rfl (by omega) (by omega) ?_
          first | exact ⟨rfl, true, rfl, yes c18 (by rw [c28, c39, c49]; rfl)⟩ | exact ⟨rfl, true, rfl, yes c18 (by rw [c28]; rfl)⟩
        · skip
          refine q_aload_n dX9_anyAhead_31 rfl rfl rfl ?_
          refine q_iload_n dX9_anyAhead_32 rfl rfl ?_
          refine q_iload_n dX9_anyAhead_33 rfl rfl ?_
          refine q_bipush (v := nI 8) dX9_anyAhead_34 rfl ?_
          refine q_callV (As := [.int (nI F), .int (nI a), .int (nI 8)]) (rest := []) dX9_anyAhead_36 vX9_347 (ty_c hS (by decide) rfl) ⟨by decide, rfl⟩ (z9_is (j := 3) hS hv hF (by omega) (by omega)) rfl rfl (Nat.le_of_ble_eq_true rfl) (by omega) (by omega) (by omega) (k_p ?_)
          refine q_if_neB (tgt := 54) dX9_anyAhead_39 (by decide) (fun c39 => ?_) (fun c39 => ?_)
          · skip
            refine q_iincN (c := 1) dX9_anyAhead_54 rfl (by decide) rfl (ls' := [(3, .int (nI (a + 1))), (0, .ref 58), (1, .int (nI F)), (2, .int (nI k))]) rfl ?_
            refine q_goto (tgt := 2) dX9_anyAhead_57 (by decide) ?_
            refine q_pk [1, 2, 3, 0] (ls' := [(0, .ref 58), (1, .int (nI F)), (2, .int (nI k)), (3, .int (nI (a + 1)))]) rfl ?_
            first | exact kN (fun z => absurd z.1 (of_decide_eq_false c18)) | exact kN (fun z => by have z := z.2; rw [c28, c39, c49] at z; exact absurd (show false = true from z) (by decide)) | exact kN (fun z => by have z := z.2; rw [c28, c39] at z; exact absurd (show false = true from z) (by decide))
          · skip
            refine q_aload_n dX9_anyAhead_42 rfl rfl rfl ?_
            refine q_iload_n dX9_anyAhead_43 rfl rfl ?_
            refine q_iload_n dX9_anyAhead_44 rfl rfl ?_
            refine q_iconst (v := nI 4) dX9_anyAhead_45 rfl ?_
            refine q_callV (As := [.int (nI F), .int (nI a), .int (nI 4)]) (rest := []) dX9_anyAhead_46 vX9_347 (ty_c hS (by decide) rfl) ⟨by decide, rfl⟩ (z9_is (j := 2) hS hv hF (by omega) (by omega)) rfl rfl (Nat.le_of_ble_eq_true rfl) (by omega) (by omega) (by omega) (k_p ?_)
            refine q_if_neB (tgt := 54) dX9_anyAhead_49 (by decide) (fun c49 => ?_) (fun c49 => ?_)
            · skip
              refine q_iincN (c := 1) dX9_anyAhead_54 rfl (by decide) rfl (ls' := [(3, .int (nI (a + 1))), (0, .ref 58), (1, .int (nI F)), (2, .int (nI k))]) rfl ?_
              refine q_goto (tgt := 2) dX9_anyAhead_57 (by decide) ?_
              refine q_pk [1, 2, 3, 0] (ls' := [(0, .ref 58), (1, .int (nI F)), (2, .int (nI k)), (3, .int (nI (a + 1)))]) rfl ?_
              first | exact kN (fun z => absurd z.1 (of_decide_eq_false c18)) | exact kN (fun z => by have z := z.2; rw [c28, c39, c49] at z; exact absurd (show false = true from z) (by decide)) | exact kN (fun z => by have z := z.2; rw [c28, c39] at z; exact absurd (show false = true from z) (by decide))
            · skip
              refine q_iconst (v := nI 1) dX9_anyAhead_52 rfl ?_
              refine q_ireturn dX9_anyAhead_53 rfl rfl (by omega) (by omega) ?_
              first | exact ⟨rfl, true, rfl, yes c18 (by rw [c28, c39, c49]; rfl)⟩ | exact ⟨rfl, true, rfl, yes c18 (by rw [c28]; rfl)⟩
theorem z9_anA (hS : SK σ) (hR : MR0 σ 4 q) (hc : BC q) (hw : WFs q) (hB : NB q) (hv : fcS σ F (NN q) v) (hF : F + NN q ≤ 38400) {k : Nat} (hk : k < 240) : CT g mX9_anyAhead 1 0 0 [.ref 58, .int (nI F), .int (nI k)] σ (fun r σ' => ∃ b, r = some (.int (bi b)) ∧ (σ' = σ ∧ (b = true ↔ ∃ i, i < NN q ∧ ahA q v k i))) := by
  refine CT.mono (Q := fun r σ' => σ' = σ ∧ ∃ b, r = some (.int (bi b)) ∧ (b = true ↔ ∃ i, i < NN q ∧ ahA q v k i)) (fun r σ' z => ⟨z.2.choose, z.2.choose_spec.1, z.1, z.2.choose_spec.2⟩) ?_
  refine CT.of (by decide) (Nat.le_of_ble_eq_true rfl) ?_
  refine q_iconst (v := nI 0) dX9_anyAhead_0 rfl ?_
  refine q_istore_n dX9_anyAhead_1 rfl (by decide) (ls' := [(3, .int (nI 0)), (0, .ref 58), (1, .int (nI F)), (2, .int (nI k))]) rfl ?_
  refine q_pk [1, 2, 3, 0] (ls' := [(0, .ref 58), (1, .int (nI F)), (2, .int (nI k)), (3, .int (nI 0))]) rfl ?_
  exact y9_anA hS hR hc hw hB hv hF hk (NN q) 0 (by omega) (fun i hi => absurd hi (by omega))
end MFA
