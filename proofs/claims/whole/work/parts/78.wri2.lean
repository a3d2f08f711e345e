/-! Class Writer: NODES, what is set ahead, own blocks. -/
theorem XL_lt {q : PS} (hc : BC q) (hw : WFs q) (hnb : NB q) : ∀ k, k ≤ (psS q).length → ∀ t ∈ XL q k, t < (psF q).length := by
  intro k
  induction k with
  | zero => intro _ t ht; cases ht
  | succ k ih =>
    intro hk t ht
    rcases List.mem_append.mp (show t ∈ XL q k ++ xs q k from ht) with ht | ht
    · exact ih (by omega) t ht
    · unfold xs at ht
      by_cases k5 : rK (rr q k) = 5
      · rw [if_pos k5] at ht
        obtain ⟨j, j1, j2, j3⟩ := st_end hc hw hnb (n := k) (by omega) (by omega)
        have := (List.mem_filter.mp ht).1
        rcases List.mem_append.mp this with h | h
        · exact (j3 0 t (Option.mem_toList.mp h)).1
        · exact (j3 1 t (Option.mem_toList.mp h)).1
      · rw [if_neg k5] at ht; cases ht
theorem rg_w {q : PS} (hc : BC q) (hw : WFs q) (hnb : NB q) {n : Nat} (hn : n < NN q) : ((rK (rg q n) = 4 ∨ rK (rg q n) = 5 ∨ rK (rg q n) = 7) → ∃ t, t < 40 ∧ rWw (rg q n) 0 = nI t) ∧ (rK (rg q n) = 5 → ∃ t, t < 40 ∧ rWw (rg q n) 1 = nI t) := by
  by_cases e : n < (psS q).length
  · have e1 : rg q n = rr q n := if_pos e
    rw [e1]
    obtain ⟨g1, g2, g3, g4, g5, g6, g7⟩ := st_w hw e
    refine ⟨fun h => ?_, fun h => ?_⟩
    · have : (wr q 0 n).isSome := by rcases h with h | h | h; exact (g5 h).1; exact (g6 h).1; omega
      obtain ⟨t, ht⟩ := Option.isSome_iff_exists.mp this
      exact ⟨t, g4 0 t ht, by show rW0 _ = _; rw [g2, ht]; rfl⟩
    · obtain ⟨t, ht⟩ := Option.isSome_iff_exists.mp (g6 h).2
      exact ⟨t, g4 1 t ht, by show rW1 _ = _; rw [g3, ht]; rfl⟩
  · have e1 : rg q n = _ := if_neg e
    rw [e1]
    refine ⟨fun _ => ⟨(XL q (psS q).length).getD (n - (psS q).length) 0, ?_, rfl⟩, fun h => absurd (show (7 : Nat) = 5 from h) (by omega)⟩
    have := XL_lt hc hw hnb _ (Nat.le_refl _) _ (gd_mem (l := XL q (psS q).length) (i := n - (psS q).length) (d := 0) (by unfold NN at hn; omega))
    have := hc.2.1
    omega
theorem aB_lt {q : PS} {p n w t : Nat} (hc : BC q) (hw : WFs q) (hnb : NB q) (hn : n < NN q) (ht : t < 40) (hrw : rWw (rg q n) w = nI t) : aBn q p n w < 300 := by
  unfold aBn
  rw [hrw, nI_clamp (by omega)]
  cases hx : ld q w n with
  | none => show t < 300; omega
  | some x =>
    show (if (psS q).length ≤ x then _ else _) < 300
    by_cases hs : (psS q).length ≤ x
    · rw [if_pos hs]
      cases hy : own q p x with
      | none => show t < 300; omega
      | some y => exact own_lt hc hy hs (ld_lt hc hw hnb hn hx)
    · rw [if_neg hs]; omega
section WR2
variable {g : GG} {σ : HS} {b : Nat} {q : PS} {W : List Nat}
theorem OBs.f55 {σ' : HS} {p : Nat} (h : OBs σ q p) (k : Fr [55, 56] σ σ') : OBs σ' q p := fun n h1 h2 => by rw [k.2.2.2 57 (by decide)]; exact h n h1 h2
theorem x7_if (hS : SK σ) (hW : BFx σ W) (hr : RTN σ b q) {p : Nat} (ho : OBs σ q p) {n t0 t1 : Nat} (hn : n < NN q) (ht0 : t0 < 40) (ht1 : t1 < 40) (hrw0 : rWw (rg q n) 0 = nI t0) (hrw1 : rWw (rg q n) 1 = nI t1) : CT g mX7_putIf 6 0 0 [.ref 55, .ref b, .int (nI n)] σ (WXQ σ (W ++ (stX 13 ++ opT (rO0 (rg q n)) ++ stX 14 ++ opT (rO1 (rg q n)) ++ (32 :: 98 :: numT (aBn q p n 0)) ++ (32 :: 98 :: numT (aBn q p n 1))))) := by
  have hb := hr.1
  have hb14 : b = 14 ∨ 99 ≤ b := by rcases hb.1 with h | ⟨j, h⟩ <;> omega
  have hNN := NN_le hr.2.1
  obtain ⟨o1, o2⟩ := rg_opd hr.2.2.1 (n := n)
  obtain ⟨⟨r1, r2, r3, r4, r5, r6, r7, r8⟩, l0, l1, -⟩ := hr.2.2.2.2.2.2.2.2.2.2.2.2.1 n hn
  have ha0 := aB_lt (p := p) hr.2.1 hr.2.2.1 hr.2.2.2.1 hn ht0 hrw0
  have ha1 := aB_lt (p := p) hr.2.1 hr.2.2.1 hr.2.2.2.1 hn ht1 hrw1
  have rest : ∀ (τ : HS) (i : Nat), Fr [55, 56] σ τ → True := fun _ _ _ => trivial
  refine CT.of (by decide) (Nat.le_of_ble_eq_true rfl) ?_
  refine q_aload_n dX7_putIf_0 rfl rfl rfl ?_
  refine q_ldcS (j := 13) (b := 13) dX7_putIf_1 rfl rfl rfl rfl ?_
  refine q_callV (As := [.double 13]) (rest := []) dX7_putIf_3 vX7_72 (ty_c hS (by decide) rfl) ⟨by decide, rfl⟩ (x7_text hS hW (j := 13) (c := 13) (c2 := 113) rfl (by decide) rfl) rfl rfl (Nat.le_of_ble_eq_true rfl) (by omega) (by omega) (by omega) (k_v (fun s3 q3 => ?_))
  have k9 := q3.1
  have hS9 := SK.fr k9 hS
  have hb9 := RB.fr k9 hb
  obtain ⟨hrow3, -⟩ := (hr.f55 k9).2.2.2.2.2.2.2.2.2.2.2.2.1 n hn
  refine q_aload_n dX7_putIf_6 rfl rfl rfl ?_
  refine q_aload_n dX7_putIf_7 rfl rfl rfl ?_
  refine q_getr (r := b + 4) dX7_putIf_8 fX7_107 rfl (ty_r hb9 0 rfl) (hb9.2.2 0 3 4 rfl) ?_
  refine q_iconst (v := nI 0) dX7_putIf_11 rfl ?_
  refine q_aald (r := b + 5) (j := 0) dX7_putIf_12 (ty_r hb9 4 rfl) (Or.inl rfl) (ix_n (by omega) (by omega)) (hb9.2.2 4 0 5 rfl) ?_
  refine q_iload_n dX7_putIf_13 rfl rfl ?_
  refine q_iald (x := rO0 (rg q n)) (j := n) dX7_putIf_14 (ty_r hb9 5 rfl) (ix_n (by omega) (by omega)) hrow3.2.2.2.1 ?_
  refine q_callV (As := [.int (rO0 (rg q n))]) (rest := []) dX7_putIf_15 vX7_111 (ty_c hS9 (by decide) rfl) ⟨by decide, rfl⟩ (x7_operand hS9 q3.2 o1) rfl rfl (Nat.le_of_ble_eq_true rfl) (by omega) (by omega) (by omega) (k_v (fun s15 q15 => ?_))
  replace k9 := k9.tr q15.1 (fun _ h => h)
  have hS9 := SK.fr k9 hS
  have hb9 := RB.fr k9 hb
  refine q_aload_n dX7_putIf_18 rfl rfl rfl ?_
  refine q_ldcS (j := 14) (b := 14) dX7_putIf_19 rfl rfl rfl rfl ?_
  refine q_callV (As := [.double 14]) (rest := []) dX7_putIf_21 vX7_72 (ty_c hS9 (by decide) rfl) ⟨by decide, rfl⟩ (x7_text hS9 q15.2 (j := 14) (c := 14) (c2 := 114) rfl (by decide) rfl) rfl rfl (Nat.le_of_ble_eq_true rfl) (by omega) (by omega) (by omega) (k_v (fun s21 q21 => ?_))
  replace k9 := k9.tr q21.1 (fun _ h => h)
  have hS9 := SK.fr k9 hS
  have hb9 := RB.fr k9 hb
  obtain ⟨hrow21, -⟩ := (hr.f55 k9).2.2.2.2.2.2.2.2.2.2.2.2.1 n hn
  refine q_aload_n dX7_putIf_24 rfl rfl rfl ?_
  refine q_aload_n dX7_putIf_25 rfl rfl rfl ?_
  refine q_getr (r := b + 4) dX7_putIf_26 fX7_107 rfl (ty_r hb9 0 rfl) (hb9.2.2 0 3 4 rfl) ?_
  refine q_iconst (v := nI 1) dX7_putIf_29 rfl ?_
  refine q_aald (r := b + 6) (j := 1) dX7_putIf_30 (ty_r hb9 4 rfl) (Or.inl rfl) (ix_n (by omega) (by omega)) (hb9.2.2 4 1 6 rfl) ?_
  refine q_iload_n dX7_putIf_31 rfl rfl ?_
  refine q_iald (x := rO1 (rg q n)) (j := n) dX7_putIf_32 (ty_r hb9 6 rfl) (ix_n (by omega) (by omega)) hrow21.2.2.2.2.1 ?_
  refine q_callV (As := [.int (rO1 (rg q n))]) (rest := []) dX7_putIf_33 vX7_111 (ty_c hS9 (by decide) rfl) ⟨by decide, rfl⟩ (x7_operand hS9 q21.2 o2) rfl rfl (Nat.le_of_ble_eq_true rfl) (by omega) (by omega) (by omega) (k_v (fun s33 q33 => ?_))
  replace k9 := k9.tr q33.1 (fun _ h => h)
  have hS9 := SK.fr k9 hS
  have hb9 := RB.fr k9 hb
  have hW9 := q33.2
  refine q_iconst (v := nI 0) dX7_putIf_36 rfl ?_
  refine q_istore_n dX7_putIf_37 rfl (by decide) (ls' := [(3, .int (nI 0)), (0, .ref 55), (1, .ref b), (2, .int (nI n))]) rfl ?_
  refine q_iload_n dX7_putIf_38 rfl rfl ?_
  refine q_iconst (v := nI 2) dX7_putIf_39 rfl ?_
  refine q_icmp_geN (tgt := 68) dX7_putIf_40 (by decide) (by omega) (by omega) (fun h => absurd h (by decide)) (fun _ => ?_)
  refine q_aload_n dX7_putIf_43 rfl rfl rfl ?_
  refine q_bipush (v := nI 32) dX7_putIf_44 rfl ?_
  refine q_callV (As := [.int (nI 32)]) (rest := []) dX7_putIf_46 vX7_138 (ty_c hS9 (by decide) rfl) ⟨by decide, rfl⟩ (x7_put hS9 hW9 (by omega)) rfl rfl (Nat.le_of_ble_eq_true rfl) (by omega) (by omega) (by omega) (k_v (fun s46 q46 => ?_))
  replace k9 := k9.tr q46.1 (fun _ h => h)
  have hS9 := SK.fr k9 hS
  have hb9 := RB.fr k9 hb
  have hW9 := q46.2
  have hr9 := hr.f55 k9
  have ho9 := ho.f55 k9
  refine q_aload_n dX7_putIf_49 rfl rfl rfl ?_
  refine q_bipush (v := nI 98) dX7_putIf_50 rfl ?_
  refine q_aload_n dX7_putIf_52 rfl rfl rfl ?_
  refine q_aload_n dX7_putIf_53 rfl rfl rfl ?_
  refine q_iload_n dX7_putIf_54 rfl rfl ?_
  refine q_iload_n dX7_putIf_55 rfl rfl ?_
  refine q_callV (As := [.ref b, .int (nI n), .int (nI 0)]) (rest := [.int (nI 98), .ref 55]) dX7_putIf_56 vX7_129 (ty_c hS9 (by decide) rfl) ⟨by decide, rfl⟩ (z7_wayOf hS9 hr9 ho9 (by omega) hn (by omega) hrw0) rfl rfl (Nat.le_of_ble_eq_true rfl) (by omega) (by omega) (by omega) (k_p ?_)
  refine q_callV (As := [.int (nI 98), .int (nI (aBn q p n 0))]) (rest := []) dX7_putIf_59 vX7_66 (ty_c hS9 (by decide) rfl) ⟨by decide, rfl⟩ (x7_numbered hS9 hW9 (by omega) (by omega)) rfl rfl (Nat.le_of_ble_eq_true rfl) (by omega) (by omega) (by omega) (k_v (fun s59 q59 => ?_))
  replace k9 := k9.tr q59.1 (fun _ h => h)
  have hS9 := SK.fr k9 hS
  have hb9 := RB.fr k9 hb
  have hW9 := q59.2
  refine q_iincN (c := 1) dX7_putIf_62 rfl (by decide) rfl (ls' := [(3, .int (nI 1)), (0, .ref 55), (1, .ref b), (2, .int (nI n))]) rfl ?_
  refine q_goto (tgt := 38) dX7_putIf_65 (by decide) ?_
  refine q_iload_n dX7_putIf_38 rfl rfl ?_
  refine q_iconst (v := nI 2) dX7_putIf_39 rfl ?_
  refine q_icmp_geN (tgt := 68) dX7_putIf_40 (by decide) (by omega) (by omega) (fun h => absurd h (by decide)) (fun _ => ?_)
  refine q_aload_n dX7_putIf_43 rfl rfl rfl ?_
  refine q_bipush (v := nI 32) dX7_putIf_44 rfl ?_
  refine q_callV (As := [.int (nI 32)]) (rest := []) dX7_putIf_46 vX7_138 (ty_c hS9 (by decide) rfl) ⟨by decide, rfl⟩ (x7_put hS9 hW9 (by omega)) rfl rfl (Nat.le_of_ble_eq_true rfl) (by omega) (by omega) (by omega) (k_v (fun s46 q46 => ?_))
  replace k9 := k9.tr q46.1 (fun _ h => h)
  have hS9 := SK.fr k9 hS
  have hb9 := RB.fr k9 hb
  have hW9 := q46.2
  have hr9 := hr.f55 k9
  have ho9 := ho.f55 k9
  refine q_aload_n dX7_putIf_49 rfl rfl rfl ?_
  refine q_bipush (v := nI 98) dX7_putIf_50 rfl ?_
  refine q_aload_n dX7_putIf_52 rfl rfl rfl ?_
  refine q_aload_n dX7_putIf_53 rfl rfl rfl ?_
  refine q_iload_n dX7_putIf_54 rfl rfl ?_
  refine q_iload_n dX7_putIf_55 rfl rfl ?_
  refine q_callV (As := [.ref b, .int (nI n), .int (nI 1)]) (rest := [.int (nI 98), .ref 55]) dX7_putIf_56 vX7_129 (ty_c hS9 (by decide) rfl) ⟨by decide, rfl⟩ (z7_wayOf hS9 hr9 ho9 (by omega) hn (by omega) hrw1) rfl rfl (Nat.le_of_ble_eq_true rfl) (by omega) (by omega) (by omega) (k_p ?_)
  refine q_callV (As := [.int (nI 98), .int (nI (aBn q p n 1))]) (rest := []) dX7_putIf_59 vX7_66 (ty_c hS9 (by decide) rfl) ⟨by decide, rfl⟩ (x7_numbered hS9 hW9 (by omega) (by omega)) rfl rfl (Nat.le_of_ble_eq_true rfl) (by omega) (by omega) (by omega) (k_v (fun s59 q59 => ?_))
  replace k9 := k9.tr q59.1 (fun _ h => h)
  have hS9 := SK.fr k9 hS
  have hb9 := RB.fr k9 hb
  have hW9 := q59.2
  refine q_iincN (c := 1) dX7_putIf_62 rfl (by decide) rfl (ls' := [(3, .int (nI 2)), (0, .ref 55), (1, .ref b), (2, .int (nI n))]) rfl ?_
  refine q_goto (tgt := 38) dX7_putIf_65 (by decide) ?_
  refine q_iload_n dX7_putIf_38 rfl rfl ?_
  refine q_iconst (v := nI 2) dX7_putIf_39 rfl ?_
  refine q_icmp_geN (tgt := 68) dX7_putIf_40 (by decide) (by omega) (by omega) (fun _ => ?_) (fun h => absurd h (by decide))
  refine q_return dX7_putIf_68 rfl (by omega) (by omega) ?_
  exact ⟨rfl, k9, by simpa only [List.append_assoc, List.cons_append, List.nil_append, List.singleton_append] using hW9⟩
theorem y7_own (hS0 : SK σ) (hr0 : RTN σ b q) {p : Nat} (hp : p < 3) : ∀ (k i : Nat) (τ : HS), (psS q).length + i + k = NN q → Fr [57] σ τ → (∀ n, (psS q).length ≤ n → n < (psS q).length + i → sI τ 57 n = oW (own q p n)) → WA g mX7_numberOwnBlocks 1 0 0 (ZM g (fun r σ' => r = none ∧ Fr [57] σ σ' ∧ OBs σ' q p) 0 0) 0 0 11 [(0, .ref 55), (1, .ref b), (2, .int (nI p)), (3, .int (nI (obN q p i))), (4, .int (nI ((psS q).length + i)))] [] τ := by
  have hb14 : b = 14 ∨ 99 ≤ b := by rcases hr0.1.1 with h | ⟨j, h⟩ <;> omega
  have hNN := NN_le hr0.2.1
  have h40 := hr0.2.1.2.1
  have hk := hr0.fp.2.1
  intro k
  induction k with
  | zero =>
    intro i τ hi h1 h2
    have hS := SK.fr h1 hS0
    have hb := RB.fr h1 hr0.1
    have h14 : sI τ b 14 = nI (NN q) := by rw [h1.2.2.2 b (by simp only [List.mem_cons, List.not_mem_nil, or_false]; omega)]; exact hr0.2.2.2.2.2.2.2.2.1
    refine q_iload dX7_numberOwnBlocks_11 rfl ?_
    refine q_aload_n dX7_numberOwnBlocks_13 rfl rfl rfl ?_
    refine q_geti (x := nI (NN q)) dX7_numberOwnBlocks_14 fX7_53 rfl (ty_r hb 0 rfl) h14 ?_
    refine q_icmp_geN (tgt := 54) dX7_numberOwnBlocks_17 (by decide) (by omega) (by omega) (fun c17 => ?_) (fun c17 => ?_)
    · skip
      refine q_return dX7_numberOwnBlocks_54 rfl (by omega) (by omega) ?_
      exact ⟨rfl, h1, fun n a1 a2 => h2 n a1 (by omega)⟩
    · exact absurd c17 (by omega)
  | succ k ih =>
    intro i τ hi h1 h2
    have hS := SK.fr h1 hS0
    have hn57 : ∀ a, a ≠ 57 → sI τ a = sI σ a := fun a ha => h1.2.2.2 a (by simp only [List.mem_cons, List.not_mem_nil, or_false]; exact ha)
    have hr : RTN τ b q := hr0.of (RB.fr h1 hr0.1) fun a j g1 g2 _ _ => by rw [hn57 a (by omega)]
    have hb := hr.1
    have h14 := hr.2.2.2.2.2.2.2.2.1
    have hol := obN_le (q := q) (p := p) i
    have hin : (psS q).length + i < NN q := by omega
    have e0 : (psS q).length + i - (psS q).length = i := by omega
    have step : ∀ (x : Option Nat), own q p ((psS q).length + i) = x → ∀ n, (psS q).length ≤ n → n < (psS q).length + (i + 1) → sI (uI τ 57 ((psS q).length + i) (oW x)) 57 n = oW (own q p n) := fun x hx n a1 a2 => by
      rw [sI_uI]
      by_cases z : n = (psS q).length + i
      · rw [if_pos ⟨rfl, z⟩, z, hx]
      · rw [if_neg fun y => z y.2]; exact h2 n a1 (by omega)
    by_cases hz : mkN (fun e => stA q p e ((psS q).length + i)) (psM q).length = 0
    · have ha : ¬ anS q p ((psS q).length + i) = true := fun z => by
        obtain ⟨e, a1, a2⟩ := List.any_eq_true.mp z
        exact st_0 hk hz e (List.mem_range.mp a1) a2
      have hw : own q p ((psS q).length + i) = none := if_neg ha
      have ho : obN q p (i + 1) = obN q p i := by show _ + (if _ then _ else _) = _; rw [if_neg ha]; rfl
      have hI := fun τ2 a b => ih (i + 1) τ2 (by omega) a b
      rw [ho] at hI
      refine q_iload dX7_numberOwnBlocks_11 rfl ?_
      refine q_aload_n dX7_numberOwnBlocks_13 rfl rfl rfl ?_
      refine q_geti (x := nI (NN q)) dX7_numberOwnBlocks_14 fX7_53 rfl (ty_r hb 0 rfl) h14 ?_
      refine q_icmp_geN (tgt := 54) dX7_numberOwnBlocks_17 (by decide) (by omega) (by omega) (fun c17 => ?_) (fun c17 => ?_)
      · exact absurd c17 (by omega)
      · skip
        refine q_aload_n dX7_numberOwnBlocks_20 rfl rfl rfl ?_
        refine q_getr (r := 57) dX7_numberOwnBlocks_21 fX7_15 rfl (ty_c hS (by decide) rfl) (hS.2 55 1 57 rfl) ?_
        refine q_iload dX7_numberOwnBlocks_24 rfl ?_
        refine q_aload_n dX7_numberOwnBlocks_26 rfl rfl rfl ?_
        refine q_getr (r := b + 21) dX7_numberOwnBlocks_27 fX7_56 rfl (ty_r hb 0 rfl) (hb.2.2 0 11 21 rfl) ?_
        refine q_iload_n dX7_numberOwnBlocks_30 rfl rfl ?_
        refine q_iload dX7_numberOwnBlocks_31 rfl ?_
        refine q_callV (As := [.int (nI p), .int (nI ((psS q).length + i))]) (rest := [.int (nI ((psS q).length + i)), .ref 57]) dX7_numberOwnBlocks_33 vX7_60 (ty_r hb 21 rfl) ⟨by decide, rfl⟩ (z0_setAheadA hr.fp hp hin) rfl rfl (Nat.le_of_ble_eq_true rfl) (by omega) (by omega) (by omega) (k_p ?_)
        refine q_if_eq (tgt := 46) dX7_numberOwnBlocks_36 (by decide) (fun c36 => ?_) (fun c36 => ?_)
        · skip
          refine q_iconst (v := (-1 : Int32)) dX7_numberOwnBlocks_46 rfl ?_
          refine q_iast (j := ((psS q).length + i)) dX7_numberOwnBlocks_47 (ty_c hS (by decide) rfl) (ix_n (by omega) (by omega)) ?_
          refine q_iincN (c := 1) dX7_numberOwnBlocks_48 rfl (by decide) rfl (ls' := [(4, .int (nI ((psS q).length + i + 1))), (0, .ref 55), (1, .ref b), (2, .int (nI p)), (3, .int (nI (obN q p i)))]) rfl ?_
          refine q_goto (tgt := 11) dX7_numberOwnBlocks_51 (by decide) ?_
          refine q_pk [1, 2, 3, 4, 0] (ls' := [(0, .ref 55), (1, .ref b), (2, .int (nI p)), (3, .int (nI (obN q p i))), (4, .int (nI ((psS q).length + i + 1)))]) rfl ?_
          exact hI _ (h1.uI (by decide)) (step none hw)
        · exact absurd hz c36
    · have ha : anS q p ((psS q).length + i) = true := by
        refine Classical.byContradiction fun z => hz ?_
        refine (mk_ext fun e he => ?_).trans (mk_0 (psM q).length).symm
        cases y : stA q p e ((psS q).length + i)
        · rfl
        · exact absurd (List.any_eq_true.mpr ⟨e, List.mem_range.mpr he, y⟩) z
      have hw : own q p ((psS q).length + i) = some (obN q p i) := by unfold own; rw [if_pos ha, e0]
      have ho : obN q p (i + 1) = obN q p i + 1 := by show _ + (if _ then _ else _) = _; rw [if_pos ha]
      have hI := fun τ2 a b => ih (i + 1) τ2 (by omega) a b
      rw [ho] at hI
      refine q_iload dX7_numberOwnBlocks_11 rfl ?_
      refine q_aload_n dX7_numberOwnBlocks_13 rfl rfl rfl ?_
      refine q_geti (x := nI (NN q)) dX7_numberOwnBlocks_14 fX7_53 rfl (ty_r hb 0 rfl) h14 ?_
      refine q_icmp_geN (tgt := 54) dX7_numberOwnBlocks_17 (by decide) (by omega) (by omega) (fun c17 => ?_) (fun c17 => ?_)
      · exact absurd c17 (by omega)
      · skip
        refine q_aload_n dX7_numberOwnBlocks_20 rfl rfl rfl ?_
        refine q_getr (r := 57) dX7_numberOwnBlocks_21 fX7_15 rfl (ty_c hS (by decide) rfl) (hS.2 55 1 57 rfl) ?_
        refine q_iload dX7_numberOwnBlocks_24 rfl ?_
        refine q_aload_n dX7_numberOwnBlocks_26 rfl rfl rfl ?_
        refine q_getr (r := b + 21) dX7_numberOwnBlocks_27 fX7_56 rfl (ty_r hb 0 rfl) (hb.2.2 0 11 21 rfl) ?_
        refine q_iload_n dX7_numberOwnBlocks_30 rfl rfl ?_
        refine q_iload dX7_numberOwnBlocks_31 rfl ?_
        refine q_callV (As := [.int (nI p), .int (nI ((psS q).length + i))]) (rest := [.int (nI ((psS q).length + i)), .ref 57]) dX7_numberOwnBlocks_33 vX7_60 (ty_r hb 21 rfl) ⟨by decide, rfl⟩ (z0_setAheadA hr.fp hp hin) rfl rfl (Nat.le_of_ble_eq_true rfl) (by omega) (by omega) (by omega) (k_p ?_)
        refine q_if_eq (tgt := 46) dX7_numberOwnBlocks_36 (by decide) (fun c36 => ?_) (fun c36 => ?_)
        · exact absurd c36 hz
        · skip
          refine q_iload_n dX7_numberOwnBlocks_39 rfl rfl ?_
          refine q_iincN (c := 1) dX7_numberOwnBlocks_40 rfl (by decide) rfl (ls' := [(3, .int (nI (obN q p i + 1))), (0, .ref 55), (1, .ref b), (2, .int (nI p)), (4, .int (nI ((psS q).length + i)))]) rfl ?_
          refine q_goto (tgt := 47) dX7_numberOwnBlocks_43 (by decide) ?_
          refine q_iast (j := ((psS q).length + i)) dX7_numberOwnBlocks_47 (ty_c hS (by decide) rfl) (ix_n (by omega) (by omega)) ?_
          refine q_iincN (c := 1) dX7_numberOwnBlocks_48 rfl (by decide) rfl (ls' := [(4, .int (nI ((psS q).length + i + 1))), (3, .int (nI (obN q p i + 1))), (0, .ref 55), (1, .ref b), (2, .int (nI p))]) rfl ?_
          refine q_goto (tgt := 11) dX7_numberOwnBlocks_51 (by decide) ?_
          refine q_pk [2, 3, 4, 1, 0] (ls' := [(0, .ref 55), (1, .ref b), (2, .int (nI p)), (3, .int (nI (obN q p i + 1))), (4, .int (nI ((psS q).length + i + 1)))]) rfl ?_
          exact hI _ (h1.uI (by decide)) (step _ hw)
theorem z7_own (hS : SK σ) (hr : RTN σ b q) {p : Nat} (hp : p < 3) : CT g mX7_numberOwnBlocks 1 0 0 [.ref 55, .ref b, .int (nI p)] σ (fun r σ' => r = none ∧ Fr [57] σ σ' ∧ OBs σ' q p) := by
  have hb := hr.1
  have hb14 : b = 14 ∨ 99 ≤ b := by rcases hb.1 with h | ⟨j, h⟩ <;> omega
  have h13 := hr.2.2.2.2.2.2.2.1
  have h12 := hr.2.2.2.2.2.2.1
  refine CT.of (by decide) (Nat.le_of_ble_eq_true rfl) ?_
  refine q_aload_n dX7_numberOwnBlocks_0 rfl rfl rfl ?_
  refine q_geti (x := nI ((psF q).length)) dX7_numberOwnBlocks_1 fX7_31 rfl (ty_r hb 0 rfl) h12 ?_
  refine q_istore_n dX7_numberOwnBlocks_4 rfl (by decide) (ls' := [(3, .int (nI ((psF q).length))), (0, .ref 55), (1, .ref b), (2, .int (nI p))]) rfl ?_
  refine q_aload_n dX7_numberOwnBlocks_5 rfl rfl rfl ?_
  refine q_geti (x := nI ((psS q).length)) dX7_numberOwnBlocks_6 fX7_50 rfl (ty_r hb 0 rfl) h13 ?_
  refine q_istore dX7_numberOwnBlocks_9 (by decide) (ls' := [(4, .int (nI ((psS q).length))), (3, .int (nI ((psF q).length))), (0, .ref 55), (1, .ref b), (2, .int (nI p))]) rfl ?_
  refine q_pk [2, 3, 4, 1, 0] (ls' := [(0, .ref 55), (1, .ref b), (2, .int (nI p)), (3, .int (nI ((psF q).length))), (4, .int (nI ((psS q).length)))]) rfl ?_
  exact y7_own hS hr hp (NN q - (psS q).length) 0 σ (by unfold NN; omega) Fr.rf (fun n a1 a2 => absurd a2 (by omega))
end WR2
