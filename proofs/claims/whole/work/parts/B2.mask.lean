/-! The model: at, placed, life, places. -/
theorem sr_bit {f : Nat → Bool} {v : Nat} (hv : v < 8) : (mkN f 8 >>> (nI v &&& 31)) &&& nI 1 = bi (f v) := by
  apply ib_ext
  intro i hi
  rw [ib_and, ib_1]
  by_cases e : i = 0
  · subst e
    have h1 : ib (mkN f 8 >>> (nI v &&& 31)) 0 = ib (mkN f 8) v := by
      unfold ib
      rw [Int32.toBitVec_shiftRight]
      have h2 : ((nI v &&& 31).toBitVec.smod 32).toNat = v := by
        have : ∀ k : Fin 8, ((nI k.val &&& 31).toBitVec.smod 32).toNat = k.val := by decide +kernel
        exact this ⟨v, hv⟩
      rw [BitVec.sshiftRight_eq', h2, BitVec.getLsbD_sshiftRight, if_pos (by omega), Nat.add_zero]
      simp
    rw [h1, ib_mk (by omega), decide_eq_true hv, Bool.true_and]
    cases f v
    · show _ = ib (nI 0) 0
      rw [ib_0]; rfl
    · show _ = ib (nI 1) 0
      rw [ib_1]; rfl
  · rw [decide_eq_false e, Bool.and_false]
    cases f v
    · show _ = ib (nI 0) i
      rw [ib_0]
    · show _ = ib (nI 1) i
      rw [ib_1, decide_eq_false e]
theorem WQ.of {σ : HS} {v : Value} {P : HS → Prop} (h : P σ) : ∀ r σ', PQ σ v r σ' → WQ v P r σ' := fun r σ' z => ⟨z.2, by rw [z.1]; exact h⟩
section MAS
variable {g : GG} {σ : HS} {q : PS} {p : Int32}
theorem z9_isPlacing (hS : SK σ) : CT g mX9_isPlacing 0 0 0 [.ref 58, .int p] σ (PQ σ (.int (bi (decide (¬ p < 0 ∧ p < nI 3))))) := by
  refine CT.of (by decide) (Nat.le_of_ble_eq_true rfl) ?_
  refine q_iload_n dX9_isPlacing_0 rfl rfl ?_
  refine q_if_lt (tgt := 13) dX9_isPlacing_1 (by decide) (fun c1 => ?_) (fun c1 => ?_)
  · skip
    refine q_iconst (v := nI 0) dX9_isPlacing_13 rfl ?_
    refine q_ireturn dX9_isPlacing_14 rfl rfl (by omega) (by omega) ?_
    first | exact fin_t (decide_eq_true ⟨c1, (le_lt (by omega)).mp (Int32.not_lt.mp c6)⟩) | exact fin_f (decide_eq_false fun z => z.1 c1) | exact fin_f (decide_eq_false fun z => absurd ((le_lt (n := 2) (by omega)).mpr z.2) (Int32.not_le.mpr c6))
  · skip
    refine q_iload_n dX9_isPlacing_4 rfl rfl ?_
    refine q_iconst (v := nI 2) dX9_isPlacing_5 rfl ?_
    refine q_icmp_gt (tgt := 13) dX9_isPlacing_6 (by decide) (fun c6 => ?_) (fun c6 => ?_)
    · skip
      refine q_iconst (v := nI 0) dX9_isPlacing_13 rfl ?_
      refine q_ireturn dX9_isPlacing_14 rfl rfl (by omega) (by omega) ?_
      first | exact fin_t (decide_eq_true ⟨c1, (le_lt (by omega)).mp (Int32.not_lt.mp c6)⟩) | exact fin_f (decide_eq_false fun z => z.1 c1) | exact fin_f (decide_eq_false fun z => absurd ((le_lt (n := 2) (by omega)).mpr z.2) (Int32.not_le.mpr c6))
    · skip
      refine q_iconst (v := nI 1) dX9_isPlacing_9 rfl ?_
      refine q_goto (tgt := 14) dX9_isPlacing_10 (by decide) ?_
      refine q_ireturn dX9_isPlacing_14 rfl rfl (by omega) (by omega) ?_
      first | exact fin_t (decide_eq_true ⟨c1, (le_lt (by omega)).mp (Int32.not_lt.mp c6)⟩) | exact fin_f (decide_eq_false fun z => z.1 c1) | exact fin_f (decide_eq_false fun z => absurd ((le_lt (n := 2) (by omega)).mpr z.2) (Int32.not_le.mpr c6))
theorem z9_at0 (hS : SK σ) (h : MA σ p none) {e n w : Int32} : CT g mX9_at_ 2 0 0 [.ref 58, .int p, .int e, .int n, .int w] σ (PQ σ (.int (-1))) := by
  refine CT.of (by decide) (Nat.le_of_ble_eq_true rfl) ?_
  refine q_aload_n dX9_at__0 rfl rfl rfl ?_
  refine q_iload_n dX9_at__1 rfl rfl ?_
  refine q_iload_n dX9_at__2 rfl rfl ?_
  refine q_callV (As := [.int p, .int e]) (rest := []) dX9_at__3 vX9_376 (ty_c hS (by decide) rfl) ⟨by decide, rfl⟩ (z9_isSum0 hS h) rfl rfl (Nat.le_of_ble_eq_true rfl) (by omega) (by omega) (by omega) (k_p ?_)
  refine q_if_eqB (tgt := 35) dX9_at__6 (by decide) (fun _ => ?_) (fun h => absurd h (by decide))
  refine q_iconst (v := (-1 : Int32)) dX9_at__35 rfl ?_
  refine q_ireturn dX9_at__36 rfl rfl (by omega) (by omega) ?_
  exact ⟨rfl, rfl⟩
theorem z9_at1 (hS : SK σ) (h : MA σ p (some q)) {e n w : Int32} : CT g mX9_at_ 2 0 0 [.ref 58, .int p, .int e, .int n, .int w] σ (PQ σ (.int (if (¬ e < 0 ∧ e < nI (psM q).length) ∧ (¬ n < 0 ∧ n < nI (NN q)) ∧ ¬ w < 0 ∧ w < nI 8 then bi (atB q w.toNatClampNeg e.toNatClampNeg n.toNatClampNeg) else -1))) := by
  have hAll := h
  obtain ⟨i, hi, rfl, h0, hr, hk⟩ := h
  obtain ⟨hc, hw, hB, hx, hF⟩ := id hk
  have hN := NN_le hc
  have h32 := hw.2.2.2.1
  have r62 := hr.1.2.1
  by_cases he : ¬ e < 0 ∧ e < nI (psM q).length
  · obtain ⟨m, hm, rfl⟩ := n_in (by omega) he
    by_cases hn : ¬ n < 0 ∧ n < nI (NN q)
    · obtain ⟨k, hk2, rfl⟩ := n_in (by omega) hn
      have r83 := hr.2 m hm k hk2
      by_cases hw2 : ¬ w < 0 ∧ w < nI 8
      · rw [if_pos ⟨he, hn, hw2⟩]
        obtain ⟨v, hv, rfl⟩ := n_in (by omega) hw2
        rw [nI_clamp (by omega), nI_clamp (by omega), nI_clamp (by omega)]
        refine CT.of (by decide) (Nat.le_of_ble_eq_true rfl) ?_
        refine q_aload_n dX9_at__0 rfl rfl rfl ?_
        refine q_iload_n dX9_at__1 rfl rfl ?_
        refine q_iload_n dX9_at__2 rfl rfl ?_
        refine q_callV (As := [.int (nI i), .int (nI m)]) (rest := []) dX9_at__3 vX9_376 (ty_c hS (by decide) rfl) ⟨by decide, rfl⟩ (z9_isSumY hS hi h0 hr hk hm) rfl rfl (Nat.le_of_ble_eq_true rfl) (by omega) (by omega) (by omega) (k_p ?_)
        refine q_if_eqB (tgt := 35) dX9_at__6 (by decide) (fun h => absurd h (by decide)) (fun _ => ?_)
        refine q_iload_n dX9_at__9 rfl rfl ?_
        refine q_if_ltN (tgt := 35) dX9_at__10 (by decide) (by omega) ?_
        refine q_iload_n dX9_at__13 rfl rfl ?_
        refine q_aload_n dX9_at__14 rfl rfl rfl ?_
        refine q_getr (r := 62) dX9_at__15 fX9_43 rfl (ty_c hS (by decide) rfl) (hS.2 58 10 62 rfl) ?_
        refine q_iload_n dX9_at__18 rfl rfl ?_
        refine q_iald (x := nI (NN q)) (j := i) dX9_at__19 (ty_c hS (by decide) rfl) (ix_n (by omega) (by omega)) r62 ?_
        refine q_icmp_geN (tgt := 35) dX9_at__20 (by decide) (by omega) (by omega) (fun c20 => ?_) (fun c20 => ?_)
        · exact absurd c20 (by omega)
        · skip
          refine q_iload dX9_at__23 rfl ?_
          refine q_if_ltN (tgt := 35) dX9_at__25 (by decide) (by omega) ?_
          refine q_iload dX9_at__28 rfl ?_
          refine q_bipush (v := nI 7) dX9_at__30 rfl ?_
          refine q_icmp_leN (tgt := 37) dX9_at__32 (by decide) (by omega) (by omega) (fun c32 => ?_) (fun c32 => ?_)
          · skip
            refine q_aload_n dX9_at__37 rfl rfl rfl ?_
            refine q_getr (r := 83) dX9_at__38 fX9_107 rfl (ty_c hS (by decide) rfl) (hS.2 58 31 83 rfl) ?_
            refine q_aload_n dX9_at__41 rfl rfl rfl ?_
            refine q_iload_n dX9_at__42 rfl rfl ?_
            refine q_iload_n dX9_at__43 rfl rfl ?_
            refine q_callV (As := [.int (nI i), .int (nI m)]) (rest := [.ref 83]) dX9_at__44 vX9_338 (ty_c hS (by decide) rfl) ⟨by decide, rfl⟩ (z9_base hS (p := i) (e := m) (by omega) (by omega)) rfl rfl (Nat.le_of_ble_eq_true rfl) (by omega) (by omega) (by omega) (k_p ?_)
            refine q_iload_n dX9_at__47 rfl rfl ?_
            refine q_iaddN dX9_at__48 ?_
            refine q_iald (x := mkN (fun b => atB q b m k) 8) (j := (((32 * i + m) * 240) + k)) dX9_at__49 (ty_c hS (by decide) rfl) (ix_n (by omega) (by omega)) r83 ?_
            refine q_iload dX9_at__50 rfl ?_
            refine q_ishr dX9_at__52 ?_
            refine q_iconst (v := nI 1) dX9_at__53 rfl ?_
            refine q_iand dX9_at__54 ?_
            refine q_top (y := bi (atB q v m k)) (sr_bit (f := fun b => atB q b m k) hv) ?_
            refine q_ireturn dX9_at__55 rfl rfl (by omega) (by omega) ?_
            exact ⟨rfl, rfl⟩
          · exact absurd c32 (by omega)
      · rw [if_neg fun z => hw2 z.2.2]
        refine CT.of (by decide) (Nat.le_of_ble_eq_true rfl) ?_
        refine q_aload_n dX9_at__0 rfl rfl rfl ?_
        refine q_iload_n dX9_at__1 rfl rfl ?_
        refine q_iload_n dX9_at__2 rfl rfl ?_
        refine q_callV (As := [.int (nI i), .int (nI m)]) (rest := []) dX9_at__3 vX9_376 (ty_c hS (by decide) rfl) ⟨by decide, rfl⟩ (z9_isSumY hS hi h0 hr hk hm) rfl rfl (Nat.le_of_ble_eq_true rfl) (by omega) (by omega) (by omega) (k_p ?_)
        refine q_if_eqB (tgt := 35) dX9_at__6 (by decide) (fun h => absurd h (by decide)) (fun _ => ?_)
        refine q_iload_n dX9_at__9 rfl rfl ?_
        refine q_if_ltN (tgt := 35) dX9_at__10 (by decide) (by omega) ?_
        refine q_iload_n dX9_at__13 rfl rfl ?_
        refine q_aload_n dX9_at__14 rfl rfl rfl ?_
        refine q_getr (r := 62) dX9_at__15 fX9_43 rfl (ty_c hS (by decide) rfl) (hS.2 58 10 62 rfl) ?_
        refine q_iload_n dX9_at__18 rfl rfl ?_
        refine q_iald (x := nI (NN q)) (j := i) dX9_at__19 (ty_c hS (by decide) rfl) (ix_n (by omega) (by omega)) r62 ?_
        refine q_icmp_geN (tgt := 35) dX9_at__20 (by decide) (by omega) (by omega) (fun c20 => ?_) (fun c20 => ?_)
        · exact absurd c20 (by omega)
        · skip
          refine q_iload dX9_at__23 rfl ?_
          refine q_if_lt (tgt := 35) dX9_at__25 (by decide) (fun c25 => ?_) (fun c25 => ?_)
          · skip
            refine q_iconst (v := (-1 : Int32)) dX9_at__35 rfl ?_
            refine q_ireturn dX9_at__36 rfl rfl (by omega) (by omega) ?_
            exact ⟨rfl, rfl⟩
          · skip
            refine q_iload dX9_at__28 rfl ?_
            refine q_bipush (v := nI 7) dX9_at__30 rfl ?_
            refine q_icmp_le (tgt := 37) dX9_at__32 (by decide) (fun c32 => ?_) (fun c32 => ?_)
            · exact absurd ⟨c25, (le_lt (by omega)).mp c32⟩ hw2
            · skip
              refine q_iconst (v := (-1 : Int32)) dX9_at__35 rfl ?_
              refine q_ireturn dX9_at__36 rfl rfl (by omega) (by omega) ?_
              exact ⟨rfl, rfl⟩
    · rw [if_neg fun z => hn z.2.1]
      refine CT.of (by decide) (Nat.le_of_ble_eq_true rfl) ?_
      refine q_aload_n dX9_at__0 rfl rfl rfl ?_
      refine q_iload_n dX9_at__1 rfl rfl ?_
      refine q_iload_n dX9_at__2 rfl rfl ?_
      refine q_callV (As := [.int (nI i), .int (nI m)]) (rest := []) dX9_at__3 vX9_376 (ty_c hS (by decide) rfl) ⟨by decide, rfl⟩ (z9_isSumY hS hi h0 hr hk hm) rfl rfl (Nat.le_of_ble_eq_true rfl) (by omega) (by omega) (by omega) (k_p ?_)
      refine q_if_eqB (tgt := 35) dX9_at__6 (by decide) (fun h => absurd h (by decide)) (fun _ => ?_)
      refine q_iload_n dX9_at__9 rfl rfl ?_
      refine q_if_lt (tgt := 35) dX9_at__10 (by decide) (fun c10 => ?_) (fun c10 => ?_)
      · skip
        refine q_iconst (v := (-1 : Int32)) dX9_at__35 rfl ?_
        refine q_ireturn dX9_at__36 rfl rfl (by omega) (by omega) ?_
        exact ⟨rfl, rfl⟩
      · skip
        refine q_iload_n dX9_at__13 rfl rfl ?_
        refine q_aload_n dX9_at__14 rfl rfl rfl ?_
        refine q_getr (r := 62) dX9_at__15 fX9_43 rfl (ty_c hS (by decide) rfl) (hS.2 58 10 62 rfl) ?_
        refine q_iload_n dX9_at__18 rfl rfl ?_
        refine q_iald (x := nI (NN q)) (j := i) dX9_at__19 (ty_c hS (by decide) rfl) (ix_n (by omega) (by omega)) r62 ?_
        refine q_icmp_ge (tgt := 35) dX9_at__20 (by decide) (fun c20 => ?_) (fun c20 => ?_)
        · skip
          refine q_iconst (v := (-1 : Int32)) dX9_at__35 rfl ?_
          refine q_ireturn dX9_at__36 rfl rfl (by omega) (by omega) ?_
          exact ⟨rfl, rfl⟩
        · exact absurd ⟨c10, Int32.not_le.mp c20⟩ hn
  · rw [if_neg fun z => he z.1]
    refine CT.of (by decide) (Nat.le_of_ble_eq_true rfl) ?_
    refine q_aload_n dX9_at__0 rfl rfl rfl ?_
    refine q_iload_n dX9_at__1 rfl rfl ?_
    refine q_iload_n dX9_at__2 rfl rfl ?_
    refine q_callV (As := [.int (nI i), .int e]) (rest := []) dX9_at__3 vX9_376 (ty_c hS (by decide) rfl) ⟨by decide, rfl⟩ (z9_isSumN hS hAll he) rfl rfl (Nat.le_of_ble_eq_true rfl) (by omega) (by omega) (by omega) (k_p ?_)
    refine q_if_eqB (tgt := 35) dX9_at__6 (by decide) (fun _ => ?_) (fun h => absurd h (by decide))
    refine q_iconst (v := (-1 : Int32)) dX9_at__35 rfl ?_
    refine q_ireturn dX9_at__36 rfl rfl (by omega) (by omega) ?_
    exact ⟨rfl, rfl⟩
theorem z9_placed0 (hS : SK σ) (h : MA σ p none) {l e n w : Int32} : CT g mX9_placed 3 0 0 [.ref 58, .int p, .int l, .int e, .int n, .int w] σ (PQ σ (.int (-1))) := by
  refine CT.of (by decide) (Nat.le_of_ble_eq_true rfl) ?_
  refine q_aload_n dX9_placed_0 rfl rfl rfl ?_
  refine q_iload_n dX9_placed_1 rfl rfl ?_
  refine q_iload_n dX9_placed_2 rfl rfl ?_
  refine q_callV (As := [.int p, .int e]) (rest := []) dX9_placed_3 vX9_376 (ty_c hS (by decide) rfl) ⟨by decide, rfl⟩ (z9_isSum0 hS h) rfl rfl (Nat.le_of_ble_eq_true rfl) (by omega) (by omega) (by omega) (k_p ?_)
  refine q_if_eqB (tgt := 44) dX9_placed_6 (by decide) (fun _ => ?_) (fun h => absurd h (by decide))
  refine q_iconst (v := (-1 : Int32)) dX9_placed_44 rfl ?_
  refine q_ireturn dX9_placed_45 rfl rfl (by omega) (by omega) ?_
  exact ⟨rfl, rfl⟩
theorem z9_life0 (hS : SK σ) (h : MA σ p none) {l e : Int32} : CT g mX9_life 3 0 0 [.ref 58, .int p, .int l, .int e] σ (PQ σ (.int (-1))) := by
  refine CT.of (by decide) (Nat.le_of_ble_eq_true rfl) ?_
  refine q_aload_n dX9_life_0 rfl rfl rfl ?_
  refine q_iload_n dX9_life_1 rfl rfl ?_
  refine q_iload_n dX9_life_2 rfl rfl ?_
  refine q_callV (As := [.int p, .int e]) (rest := []) dX9_life_3 vX9_376 (ty_c hS (by decide) rfl) ⟨by decide, rfl⟩ (z9_isSum0 hS h) rfl rfl (Nat.le_of_ble_eq_true rfl) (by omega) (by omega) (by omega) (k_p ?_)
  refine q_if_eqB (tgt := 17) dX9_life_6 (by decide) (fun _ => ?_) (fun h => absurd h (by decide))
  refine q_iconst (v := (-1 : Int32)) dX9_life_17 rfl ?_
  refine q_ireturn dX9_life_18 rfl rfl (by omega) (by omega) ?_
  exact ⟨rfl, rfl⟩
theorem z9_places0 (hS : SK σ) (h : MA σ p none) {l e w : Int32} : CT g mX9_places 3 0 0 [.ref 58, .int p, .int l, .int e, .int w] σ (PQ σ (.int (-1))) := by
  refine CT.of (by decide) (Nat.le_of_ble_eq_true rfl) ?_
  refine q_aload_n dX9_places_0 rfl rfl rfl ?_
  refine q_iload_n dX9_places_1 rfl rfl ?_
  refine q_iload_n dX9_places_2 rfl rfl ?_
  refine q_callV (As := [.int p, .int e]) (rest := []) dX9_places_3 vX9_376 (ty_c hS (by decide) rfl) ⟨by decide, rfl⟩ (z9_isSum0 hS h) rfl rfl (Nat.le_of_ble_eq_true rfl) (by omega) (by omega) (by omega) (k_p ?_)
  refine q_if_eqB (tgt := 28) dX9_places_6 (by decide) (fun _ => ?_) (fun h => absurd h (by decide))
  refine q_iconst (v := (-1 : Int32)) dX9_places_28 rfl ?_
  refine q_ireturn dX9_places_29 rfl rfl (by omega) (by omega) ?_
  exact ⟨rfl, rfl⟩
theorem z9_placed1 (hS : SK σ) (h : MA σ p (some q)) {l e n w : Int32} : CT g mX9_placed 3 0 0 [.ref 58, .int p, .int l, .int e, .int n, .int w] σ (WQ (.int (if (¬ l < 0 ∧ l < nI 3) ∧ (¬ e < 0 ∧ e < nI (psM q).length) ∧ ¬ n < 0 ∧ n < nI (NN q) then plF q l.toNatClampNeg e.toNatClampNeg n.toNatClampNeg w else -1)) (FR9 l88 σ)) := by
  have hAll := h
  obtain ⟨i, hi, rfl, h0, hr, hk⟩ := h
  obtain ⟨hc, hw, hB, hx, hF⟩ := id hk
  have hN := NN_le hc
  have h32 := hw.2.2.2.1
  have r62 := hr.1.2.1
  by_cases he : ¬ e < 0 ∧ e < nI (psM q).length
  · obtain ⟨m, hm, rfl⟩ := n_in (by omega) he
    by_cases hl : ¬ l < 0 ∧ l < nI 3
    · by_cases hn : ¬ n < 0 ∧ n < nI (NN q)
      · obtain ⟨k, hk2, rfl⟩ := n_in (by omega) hn
        rw [if_pos ⟨hl, he, hn⟩]
        obtain ⟨v, hv, rfl⟩ := n_in (by omega) hl
        rw [nI_clamp (by omega), nI_clamp (by omega), nI_clamp (by omega)]
        by_cases hw2 : ¬ w < 0 ∧ w < nI 3
        · obtain ⟨x, hx2, rfl⟩ := n_in (by omega) hw2
          rcases (show x = 0 ∨ x = 1 ∨ x = 2 by omega) with rfl | rfl | rfl
          · skip
            refine CT.of (by decide) (Nat.le_of_ble_eq_true rfl) ?_
            refine q_aload_n dX9_placed_0 rfl rfl rfl ?_
            refine q_iload_n dX9_placed_1 rfl rfl ?_
            refine q_iload_n dX9_placed_2 rfl rfl ?_
            refine q_callV (As := [.int (nI i), .int (nI m)]) (rest := []) dX9_placed_3 vX9_376 (ty_c hS (by decide) rfl) ⟨by decide, rfl⟩ (z9_isSumY hS hi h0 hr hk hm) rfl rfl (Nat.le_of_ble_eq_true rfl) (by omega) (by omega) (by omega) (k_p ?_)
            refine q_if_eqB (tgt := 44) dX9_placed_6 (by decide) (fun h => absurd h (by decide)) (fun _ => ?_)
            refine q_aload_n dX9_placed_9 rfl rfl rfl ?_
            refine q_iload_n dX9_placed_10 rfl rfl ?_
            refine q_callV (As := [.int (nI v)]) (rest := []) dX9_placed_11 vX9_388 (ty_c hS (by decide) rfl) ⟨by decide, rfl⟩ (z9_isPlacing hS) rfl rfl (Nat.le_of_ble_eq_true rfl) (by omega) (by omega) (by omega) (k_p ?_)
            refine q_if_eqB (tgt := 44) dX9_placed_14 (by decide) (fun c14 => ?_) (fun c14 => ?_)
            · exact absurd hl (of_decide_eq_false c14)
            · skip
              refine q_iload dX9_placed_17 rfl ?_
              refine q_if_ltN (tgt := 44) dX9_placed_19 (by decide) (by omega) ?_
              refine q_iload dX9_placed_22 rfl ?_
              refine q_aload_n dX9_placed_24 rfl rfl rfl ?_
              refine q_getr (r := 62) dX9_placed_25 fX9_43 rfl (ty_c hS (by decide) rfl) (hS.2 58 10 62 rfl) ?_
              refine q_iload_n dX9_placed_28 rfl rfl ?_
              refine q_iald (x := nI (NN q)) (j := i) dX9_placed_29 (ty_c hS (by decide) rfl) (ix_n (by omega) (by omega)) r62 ?_
              refine q_icmp_geN (tgt := 44) dX9_placed_30 (by decide) (by omega) (by omega) (fun c30 => ?_) (fun c30 => ?_)
              · exact absurd c30 (by omega)
              · skip
                refine q_iload dX9_placed_33 rfl ?_
                refine q_if_ltN (tgt := 44) dX9_placed_35 (by decide) (by omega) ?_
                refine q_iload dX9_placed_38 rfl ?_
                refine q_iconst (v := nI 2) dX9_placed_40 rfl ?_
                refine q_icmp_leN (tgt := 46) dX9_placed_41 (by decide) (by omega) (by omega) (fun _ => ?_) (fun h => absurd h (by decide))
                refine q_iload dX9_placed_46 rfl ?_
                refine q_iconst (v := nI 2) dX9_placed_48 rfl ?_
                refine q_icmp_geN (tgt := 90) dX9_placed_49 (by decide) (by omega) (by omega) (fun h => absurd h (by decide)) (fun _ => ?_)
                refine q_iload dX9_placed_52 rfl ?_
                refine q_if_neN (tgt := 72) dX9_placed_54 (by decide) (by omega) (fun h => absurd h (by decide)) (fun _ => ?_)
                refine q_aload_n dX9_placed_57 rfl rfl rfl ?_
                refine q_iload_n dX9_placed_58 rfl rfl ?_
                refine q_iload_n dX9_placed_59 rfl rfl ?_
                refine q_iload_n dX9_placed_60 rfl rfl ?_
                refine q_iload dX9_placed_61 rfl ?_
                refine q_callV (As := [.int (nI i), .int (nI v), .int (nI m), .int (nI k)]) (rest := []) dX9_placed_63 vX9_382 (ty_c hS (by decide) rfl) ⟨by decide, rfl⟩ (z9_isSet hS hi hr hk hv hm hk2) rfl rfl (Nat.le_of_ble_eq_true rfl) (by omega) (by omega) (by omega) (k_p ?_)
                refine q_if_eqB (tgt := 88) dX9_placed_66 (by decide) (fun c66 => ?_) (fun c66 => ?_)
                · skip
                  refine q_iconst (v := nI 0) dX9_placed_88 rfl ?_
                  refine q_ireturn dX9_placed_89 rfl rfl (by omega) (by omega) ?_
                  refine WQ.of FR9.rf _ _ (fin_f ?_)
                  exact c66
                · skip
                  refine q_goto (tgt := 84) dX9_placed_69 (by decide) ?_
                  refine q_iconst (v := nI 1) dX9_placed_84 rfl ?_
                  refine q_goto (tgt := 89) dX9_placed_85 (by decide) ?_
                  refine q_ireturn dX9_placed_89 rfl rfl (by omega) (by omega) ?_
                  refine WQ.of FR9.rf _ _ (fin_t ?_)
                  exact c66
          · skip
            refine CT.of (by decide) (Nat.le_of_ble_eq_true rfl) ?_
            refine q_aload_n dX9_placed_0 rfl rfl rfl ?_
            refine q_iload_n dX9_placed_1 rfl rfl ?_
            refine q_iload_n dX9_placed_2 rfl rfl ?_
            refine q_callV (As := [.int (nI i), .int (nI m)]) (rest := []) dX9_placed_3 vX9_376 (ty_c hS (by decide) rfl) ⟨by decide, rfl⟩ (z9_isSumY hS hi h0 hr hk hm) rfl rfl (Nat.le_of_ble_eq_true rfl) (by omega) (by omega) (by omega) (k_p ?_)
            refine q_if_eqB (tgt := 44) dX9_placed_6 (by decide) (fun h => absurd h (by decide)) (fun _ => ?_)
            refine q_aload_n dX9_placed_9 rfl rfl rfl ?_
            refine q_iload_n dX9_placed_10 rfl rfl ?_
            refine q_callV (As := [.int (nI v)]) (rest := []) dX9_placed_11 vX9_388 (ty_c hS (by decide) rfl) ⟨by decide, rfl⟩ (z9_isPlacing hS) rfl rfl (Nat.le_of_ble_eq_true rfl) (by omega) (by omega) (by omega) (k_p ?_)
            refine q_if_eqB (tgt := 44) dX9_placed_14 (by decide) (fun c14 => ?_) (fun c14 => ?_)
            · exact absurd hl (of_decide_eq_false c14)
            · skip
              refine q_iload dX9_placed_17 rfl ?_
              refine q_if_ltN (tgt := 44) dX9_placed_19 (by decide) (by omega) ?_
              refine q_iload dX9_placed_22 rfl ?_
              refine q_aload_n dX9_placed_24 rfl rfl rfl ?_
              refine q_getr (r := 62) dX9_placed_25 fX9_43 rfl (ty_c hS (by decide) rfl) (hS.2 58 10 62 rfl) ?_
              refine q_iload_n dX9_placed_28 rfl rfl ?_
              refine q_iald (x := nI (NN q)) (j := i) dX9_placed_29 (ty_c hS (by decide) rfl) (ix_n (by omega) (by omega)) r62 ?_
              refine q_icmp_geN (tgt := 44) dX9_placed_30 (by decide) (by omega) (by omega) (fun c30 => ?_) (fun c30 => ?_)
              · exact absurd c30 (by omega)
              · skip
                refine q_iload dX9_placed_33 rfl ?_
                refine q_if_ltN (tgt := 44) dX9_placed_35 (by decide) (by omega) ?_
                refine q_iload dX9_placed_38 rfl ?_
                refine q_iconst (v := nI 2) dX9_placed_40 rfl ?_
                refine q_icmp_leN (tgt := 46) dX9_placed_41 (by decide) (by omega) (by omega) (fun _ => ?_) (fun h => absurd h (by decide))
                refine q_iload dX9_placed_46 rfl ?_
                refine q_iconst (v := nI 2) dX9_placed_48 rfl ?_
                refine q_icmp_geN (tgt := 90) dX9_placed_49 (by decide) (by omega) (by omega) (fun h => absurd h (by decide)) (fun _ => ?_)
                refine q_iload dX9_placed_52 rfl ?_
                refine q_if_neN (tgt := 72) dX9_placed_54 (by decide) (by omega) (fun _ => ?_) (fun h => absurd h (by decide))
                refine q_aload_n dX9_placed_72 rfl rfl rfl ?_
                refine q_iload_n dX9_placed_73 rfl rfl ?_
                refine q_iload_n dX9_placed_74 rfl rfl ?_
                refine q_iload_n dX9_placed_75 rfl rfl ?_
                refine q_iload dX9_placed_76 rfl ?_
                refine q_callV (As := [.int (nI i), .int (nI v), .int (nI m), .int (nI k)]) (rest := []) dX9_placed_78 vX9_385 (ty_c hS (by decide) rfl) ⟨by decide, rfl⟩ (z9_isTaken hS hi hr hk hv hm hk2) rfl rfl (Nat.le_of_ble_eq_true rfl) (by omega) (by omega) (by omega) (k_p ?_)
                refine q_if_eqB (tgt := 88) dX9_placed_81 (by decide) (fun c81 => ?_) (fun c81 => ?_)
                · skip
                  refine q_iconst (v := nI 0) dX9_placed_88 rfl ?_
                  refine q_ireturn dX9_placed_89 rfl rfl (by omega) (by omega) ?_
                  refine WQ.of FR9.rf _ _ (fin_f ?_)
                  exact c81
                · skip
                  refine q_iconst (v := nI 1) dX9_placed_84 rfl ?_
                  refine q_goto (tgt := 89) dX9_placed_85 (by decide) ?_
                  refine q_ireturn dX9_placed_89 rfl rfl (by omega) (by omega) ?_
                  refine WQ.of FR9.rf _ _ (fin_t ?_)
                  exact c81
          · skip
            refine CT.of (by decide) (Nat.le_of_ble_eq_true rfl) ?_
            refine q_aload_n dX9_placed_0 rfl rfl rfl ?_
            refine q_iload_n dX9_placed_1 rfl rfl ?_
            refine q_iload_n dX9_placed_2 rfl rfl ?_
            refine q_callV (As := [.int (nI i), .int (nI m)]) (rest := []) dX9_placed_3 vX9_376 (ty_c hS (by decide) rfl) ⟨by decide, rfl⟩ (z9_isSumY hS hi h0 hr hk hm) rfl rfl (Nat.le_of_ble_eq_true rfl) (by omega) (by omega) (by omega) (k_p ?_)
            refine q_if_eqB (tgt := 44) dX9_placed_6 (by decide) (fun h => absurd h (by decide)) (fun _ => ?_)
            refine q_aload_n dX9_placed_9 rfl rfl rfl ?_
            refine q_iload_n dX9_placed_10 rfl rfl ?_
            refine q_callV (As := [.int (nI v)]) (rest := []) dX9_placed_11 vX9_388 (ty_c hS (by decide) rfl) ⟨by decide, rfl⟩ (z9_isPlacing hS) rfl rfl (Nat.le_of_ble_eq_true rfl) (by omega) (by omega) (by omega) (k_p ?_)
            refine q_if_eqB (tgt := 44) dX9_placed_14 (by decide) (fun c14 => ?_) (fun c14 => ?_)
            · exact absurd hl (of_decide_eq_false c14)
            · skip
              refine q_iload dX9_placed_17 rfl ?_
              refine q_if_ltN (tgt := 44) dX9_placed_19 (by decide) (by omega) ?_
              refine q_iload dX9_placed_22 rfl ?_
              refine q_aload_n dX9_placed_24 rfl rfl rfl ?_
              refine q_getr (r := 62) dX9_placed_25 fX9_43 rfl (ty_c hS (by decide) rfl) (hS.2 58 10 62 rfl) ?_
              refine q_iload_n dX9_placed_28 rfl rfl ?_
              refine q_iald (x := nI (NN q)) (j := i) dX9_placed_29 (ty_c hS (by decide) rfl) (ix_n (by omega) (by omega)) r62 ?_
              refine q_icmp_geN (tgt := 44) dX9_placed_30 (by decide) (by omega) (by omega) (fun c30 => ?_) (fun c30 => ?_)
              · exact absurd c30 (by omega)
              · skip
                refine q_iload dX9_placed_33 rfl ?_
                refine q_if_ltN (tgt := 44) dX9_placed_35 (by decide) (by omega) ?_
                refine q_iload dX9_placed_38 rfl ?_
                refine q_iconst (v := nI 2) dX9_placed_40 rfl ?_
                refine q_icmp_leN (tgt := 46) dX9_placed_41 (by decide) (by omega) (by omega) (fun _ => ?_) (fun h => absurd h (by decide))
                refine q_iload dX9_placed_46 rfl ?_
                refine q_iconst (v := nI 2) dX9_placed_48 rfl ?_
                refine q_icmp_geN (tgt := 90) dX9_placed_49 (by decide) (by omega) (by omega) (fun _ => ?_) (fun h => absurd h (by decide))
                refine q_aload_n dX9_placed_90 rfl rfl rfl ?_
                refine q_iload_n dX9_placed_91 rfl rfl ?_
                refine q_iload_n dX9_placed_92 rfl rfl ?_
                refine q_iload_n dX9_placed_93 rfl rfl ?_
                refine q_callV (As := [.int (nI i), .int (nI v), .int (nI m)]) (rest := []) dX9_placed_94 vX9_391 (ty_c hS (by decide) rfl) ⟨by decide, rfl⟩ (z9_live hS hi hr hk hv hm) rfl rfl (Nat.le_of_ble_eq_true rfl) (by omega) (by omega) (by omega) (k_v (fun s94 q94 => ?_))
                have a94 := q94.2 k hk2
                have zS94 : SK s94 := (SK.fq q94.1 hS)
                refine q_aload_n dX9_placed_97 rfl rfl rfl ?_
                refine q_getr (r := 88) dX9_placed_98 fX9_147 rfl (ty_c zS94 (by decide) rfl) (zS94.2 58 44 88 rfl) ?_
                refine q_iload dX9_placed_101 rfl ?_
                refine q_zald (x := bi (alv q v m k)) (j := k) dX9_placed_103 (ty_c zS94 (by decide) rfl) (ix_n (by omega) (by omega)) a94 ?_
                refine q_if_eqB (tgt := 111) dX9_placed_104 (by decide) (fun c104 => ?_) (fun c104 => ?_)
                · skip
                  refine q_iconst (v := nI 0) dX9_placed_111 rfl ?_
                  refine q_ireturn dX9_placed_112 rfl rfl (by omega) (by omega) ?_
                  exact ⟨congrArg (fun z => some (Value.int z)) (show nI 0 = bi (alv q v m k) by rw [c104]; rfl), q94.1⟩
                · skip
                  refine q_iconst (v := nI 1) dX9_placed_107 rfl ?_
                  refine q_goto (tgt := 112) dX9_placed_108 (by decide) ?_
                  refine q_ireturn dX9_placed_112 rfl rfl (by omega) (by omega) ?_
                  exact ⟨congrArg (fun z => some (Value.int z)) (show nI 1 = bi (alv q v m k) by rw [c104]; rfl), q94.1⟩
        · have e1 : plF q v m k w = -1 := by
            unfold plF
            rw [if_neg (fun z => hw2 (by rw [z]; exact n_is (by omega) (by omega))), if_neg (fun z => hw2 (by rw [z]; exact n_is (by omega) (by omega))), if_neg (fun z => hw2 (by rw [z]; exact n_is (by omega) (by omega)))]
          rw [e1]
          refine CT.of (by decide) (Nat.le_of_ble_eq_true rfl) ?_
          refine q_aload_n dX9_placed_0 rfl rfl rfl ?_
          refine q_iload_n dX9_placed_1 rfl rfl ?_
          refine q_iload_n dX9_placed_2 rfl rfl ?_
          refine q_callV (As := [.int (nI i), .int (nI m)]) (rest := []) dX9_placed_3 vX9_376 (ty_c hS (by decide) rfl) ⟨by decide, rfl⟩ (z9_isSumY hS hi h0 hr hk hm) rfl rfl (Nat.le_of_ble_eq_true rfl) (by omega) (by omega) (by omega) (k_p ?_)
          refine q_if_eqB (tgt := 44) dX9_placed_6 (by decide) (fun h => absurd h (by decide)) (fun _ => ?_)
          refine q_aload_n dX9_placed_9 rfl rfl rfl ?_
          refine q_iload_n dX9_placed_10 rfl rfl ?_
          refine q_callV (As := [.int (nI v)]) (rest := []) dX9_placed_11 vX9_388 (ty_c hS (by decide) rfl) ⟨by decide, rfl⟩ (z9_isPlacing hS) rfl rfl (Nat.le_of_ble_eq_true rfl) (by omega) (by omega) (by omega) (k_p ?_)
          refine q_if_eqB (tgt := 44) dX9_placed_14 (by decide) (fun c14 => ?_) (fun c14 => ?_)
          · exact absurd hl (of_decide_eq_false c14)
          · skip
            refine q_iload dX9_placed_17 rfl ?_
            refine q_if_ltN (tgt := 44) dX9_placed_19 (by decide) (by omega) ?_
            refine q_iload dX9_placed_22 rfl ?_
            refine q_aload_n dX9_placed_24 rfl rfl rfl ?_
            refine q_getr (r := 62) dX9_placed_25 fX9_43 rfl (ty_c hS (by decide) rfl) (hS.2 58 10 62 rfl) ?_
            refine q_iload_n dX9_placed_28 rfl rfl ?_
            refine q_iald (x := nI (NN q)) (j := i) dX9_placed_29 (ty_c hS (by decide) rfl) (ix_n (by omega) (by omega)) r62 ?_
            refine q_icmp_geN (tgt := 44) dX9_placed_30 (by decide) (by omega) (by omega) (fun c30 => ?_) (fun c30 => ?_)
            · exact absurd c30 (by omega)
            · skip
              refine q_iload dX9_placed_33 rfl ?_
              refine q_if_lt (tgt := 44) dX9_placed_35 (by decide) (fun c35 => ?_) (fun c35 => ?_)
              · skip
                refine q_iconst (v := (-1 : Int32)) dX9_placed_44 rfl ?_
                refine q_ireturn dX9_placed_45 rfl rfl (by omega) (by omega) ?_
                exact ⟨rfl, FR9.rf⟩
              · skip
                refine q_iload dX9_placed_38 rfl ?_
                refine q_iconst (v := nI 2) dX9_placed_40 rfl ?_
                refine q_icmp_le (tgt := 46) dX9_placed_41 (by decide) (fun c41 => ?_) (fun c41 => ?_)
                · exact absurd ⟨c35, (le_lt (by omega)).mp c41⟩ hw2
                · skip
                  refine q_iconst (v := (-1 : Int32)) dX9_placed_44 rfl ?_
                  refine q_ireturn dX9_placed_45 rfl rfl (by omega) (by omega) ?_
                  exact ⟨rfl, FR9.rf⟩
      · rw [if_neg fun z => hn z.2.2]
        refine CT.of (by decide) (Nat.le_of_ble_eq_true rfl) ?_
        refine q_aload_n dX9_placed_0 rfl rfl rfl ?_
        refine q_iload_n dX9_placed_1 rfl rfl ?_
        refine q_iload_n dX9_placed_2 rfl rfl ?_
        refine q_callV (As := [.int (nI i), .int (nI m)]) (rest := []) dX9_placed_3 vX9_376 (ty_c hS (by decide) rfl) ⟨by decide, rfl⟩ (z9_isSumY hS hi h0 hr hk hm) rfl rfl (Nat.le_of_ble_eq_true rfl) (by omega) (by omega) (by omega) (k_p ?_)
        refine q_if_eqB (tgt := 44) dX9_placed_6 (by decide) (fun h => absurd h (by decide)) (fun _ => ?_)
        refine q_aload_n dX9_placed_9 rfl rfl rfl ?_
        refine q_iload_n dX9_placed_10 rfl rfl ?_
        refine q_callV (As := [.int l]) (rest := []) dX9_placed_11 vX9_388 (ty_c hS (by decide) rfl) ⟨by decide, rfl⟩ (z9_isPlacing hS) rfl rfl (Nat.le_of_ble_eq_true rfl) (by omega) (by omega) (by omega) (k_p ?_)
        refine q_if_eqB (tgt := 44) dX9_placed_14 (by decide) (fun c14 => ?_) (fun c14 => ?_)
        · exact absurd hl (of_decide_eq_false c14)
        · skip
          refine q_iload dX9_placed_17 rfl ?_
          refine q_if_lt (tgt := 44) dX9_placed_19 (by decide) (fun c19 => ?_) (fun c19 => ?_)
          · skip
            refine q_iconst (v := (-1 : Int32)) dX9_placed_44 rfl ?_
            refine q_ireturn dX9_placed_45 rfl rfl (by omega) (by omega) ?_
            exact ⟨rfl, FR9.rf⟩
          · skip
            refine q_iload dX9_placed_22 rfl ?_
            refine q_aload_n dX9_placed_24 rfl rfl rfl ?_
            refine q_getr (r := 62) dX9_placed_25 fX9_43 rfl (ty_c hS (by decide) rfl) (hS.2 58 10 62 rfl) ?_
            refine q_iload_n dX9_placed_28 rfl rfl ?_
            refine q_iald (x := nI (NN q)) (j := i) dX9_placed_29 (ty_c hS (by decide) rfl) (ix_n (by omega) (by omega)) r62 ?_
            refine q_icmp_ge (tgt := 44) dX9_placed_30 (by decide) (fun c30 => ?_) (fun c30 => ?_)
            · skip
              refine q_iconst (v := (-1 : Int32)) dX9_placed_44 rfl ?_
              refine q_ireturn dX9_placed_45 rfl rfl (by omega) (by omega) ?_
              exact ⟨rfl, FR9.rf⟩
            · exact absurd ⟨c19, Int32.not_le.mp c30⟩ hn
    · rw [if_neg fun z => hl z.1]
      refine CT.of (by decide) (Nat.le_of_ble_eq_true rfl) ?_
      refine q_aload_n dX9_placed_0 rfl rfl rfl ?_
      refine q_iload_n dX9_placed_1 rfl rfl ?_
      refine q_iload_n dX9_placed_2 rfl rfl ?_
      refine q_callV (As := [.int (nI i), .int (nI m)]) (rest := []) dX9_placed_3 vX9_376 (ty_c hS (by decide) rfl) ⟨by decide, rfl⟩ (z9_isSumY hS hi h0 hr hk hm) rfl rfl (Nat.le_of_ble_eq_true rfl) (by omega) (by omega) (by omega) (k_p ?_)
      refine q_if_eqB (tgt := 44) dX9_placed_6 (by decide) (fun h => absurd h (by decide)) (fun _ => ?_)
      refine q_aload_n dX9_placed_9 rfl rfl rfl ?_
      refine q_iload_n dX9_placed_10 rfl rfl ?_
      refine q_callV (As := [.int l]) (rest := []) dX9_placed_11 vX9_388 (ty_c hS (by decide) rfl) ⟨by decide, rfl⟩ (z9_isPlacing hS) rfl rfl (Nat.le_of_ble_eq_true rfl) (by omega) (by omega) (by omega) (k_p ?_)
      refine q_if_eqB (tgt := 44) dX9_placed_14 (by decide) (fun c14 => ?_) (fun c14 => ?_)
      · skip
        refine q_iconst (v := (-1 : Int32)) dX9_placed_44 rfl ?_
        refine q_ireturn dX9_placed_45 rfl rfl (by omega) (by omega) ?_
        exact ⟨rfl, FR9.rf⟩
      · exact absurd (of_decide_eq_true c14) hl
  · rw [if_neg fun z => he z.2.1]
    refine CT.of (by decide) (Nat.le_of_ble_eq_true rfl) ?_
    refine q_aload_n dX9_placed_0 rfl rfl rfl ?_
    refine q_iload_n dX9_placed_1 rfl rfl ?_
    refine q_iload_n dX9_placed_2 rfl rfl ?_
    refine q_callV (As := [.int (nI i), .int e]) (rest := []) dX9_placed_3 vX9_376 (ty_c hS (by decide) rfl) ⟨by decide, rfl⟩ (z9_isSumN hS hAll he) rfl rfl (Nat.le_of_ble_eq_true rfl) (by omega) (by omega) (by omega) (k_p ?_)
    refine q_if_eqB (tgt := 44) dX9_placed_6 (by decide) (fun _ => ?_) (fun h => absurd h (by decide))
    refine q_iconst (v := (-1 : Int32)) dX9_placed_44 rfl ?_
    refine q_ireturn dX9_placed_45 rfl rfl (by omega) (by omega) ?_
    exact ⟨rfl, FR9.rf⟩
theorem y9_life32 {σ0 : HS} (hS : SK σ0) {i v m : Nat} (hi : i < 4) (hv : v < 3) (hr0 : MR σ0 i q) (hk : MOK q) (hm : m < (psM q).length) (hf : FR9 l88 σ0 σ) (ha : ∀ n, n < NN q → sI σ 88 n = bi (alv q v m n)) : ∀ (r k : Nat), k + r = NN q → WA g mX9_life 3 0 0 (ZM g (WQ (.int (nI (cnt (alv q v m) (NN q)))) (FR9 l88 σ0)) 0 0) 0 0 32 [(0, .ref 58), (1, .int (nI i)), (2, .int (nI v)), (3, .int (nI m)), (4, .int (nI (cnt (alv q v m) k))), (5, .int (nI k))] [] σ := by
  have hN := NN_le hk.1
  have h32 := hk.2.1.2.2.2.1
  have hS1 := SK.fq hf hS
  have hr := hr0.li88 hk hf
  have r62 := hr.1.2.1
  intro r
  induction r with
  | zero =>
    intro k hkr
    refine q_iload dX9_life_32 rfl ?_
    refine q_aload_n dX9_life_34 rfl rfl rfl ?_
    refine q_getr (r := 62) dX9_life_35 fX9_43 rfl (ty_c hS1 (by decide) rfl) (hS1.2 58 10 62 rfl) ?_
    refine q_iload_n dX9_life_38 rfl rfl ?_
    refine q_iald (x := nI (NN q)) (j := i) dX9_life_39 (ty_c hS1 (by decide) rfl) (ix_n (by omega) (by omega)) r62 ?_
    refine q_icmp_geN (tgt := 69) dX9_life_40 (by decide) (by omega) (by omega) (fun c40 => ?_) (fun c40 => ?_)
    · skip
      refine q_iload dX9_life_69 rfl ?_
      refine q_ireturn dX9_life_71 rfl rfl (by omega) (by omega) ?_
      rw [← show k = NN q by omega]
      exact ⟨rfl, hf⟩
    · exact absurd c40 (by omega)
  | succ r ih =>
    intro k hkr
    have hcn := cnt_le (alv q v m) k
    have I := ih (k + 1) (by omega)
    have e1 : alv q v m k = true → cnt (alv q v m) (k + 1) = cnt (alv q v m) k + 1 := fun z => by show cnt (alv q v m) k + _ = _; rw [z]; rfl
    have e0 : alv q v m k = false → cnt (alv q v m) (k + 1) = cnt (alv q v m) k + 0 := fun z => by show cnt (alv q v m) k + _ = _; rw [z]; rfl
    refine q_iload dX9_life_32 rfl ?_
    refine q_aload_n dX9_life_34 rfl rfl rfl ?_
    refine q_getr (r := 62) dX9_life_35 fX9_43 rfl (ty_c hS1 (by decide) rfl) (hS1.2 58 10 62 rfl) ?_
    refine q_iload_n dX9_life_38 rfl rfl ?_
    refine q_iald (x := nI (NN q)) (j := i) dX9_life_39 (ty_c hS1 (by decide) rfl) (ix_n (by omega) (by omega)) r62 ?_
    refine q_icmp_geN (tgt := 69) dX9_life_40 (by decide) (by omega) (by omega) (fun c40 => ?_) (fun c40 => ?_)
    · exact absurd c40 (by omega)
    · skip
      refine q_iload dX9_life_43 rfl ?_
      refine q_aload_n dX9_life_45 rfl rfl rfl ?_
      refine q_getr (r := 88) dX9_life_46 fX9_147 rfl (ty_c hS1 (by decide) rfl) (hS1.2 58 44 88 rfl) ?_
      refine q_iload dX9_life_49 rfl ?_
      refine q_zald (x := bi (alv q v m k)) (j := k) dX9_life_51 (ty_c hS1 (by decide) rfl) (ix_n (by omega) (by omega)) (ha k (by omega)) ?_
      refine q_if_eqB (tgt := 59) dX9_life_52 (by decide) (fun c52 => ?_) (fun c52 => ?_)
      · rw [e0 c52] at I
        refine q_iconst (v := nI 0) dX9_life_59 rfl ?_
        refine q_iaddN dX9_life_60 ?_
        refine q_istore dX9_life_61 (by decide) (ls' := [(4, .int (nI ((cnt (alv q v m) k) + 0))), (0, .ref 58), (1, .int (nI i)), (2, .int (nI v)), (3, .int (nI m)), (5, .int (nI k))]) rfl ?_
        refine q_iincN (c := 1) dX9_life_63 rfl (by decide) rfl (ls' := [(5, .int (nI (k + 1))), (4, .int (nI ((cnt (alv q v m) k) + 0))), (0, .ref 58), (1, .int (nI i)), (2, .int (nI v)), (3, .int (nI m))]) rfl ?_
        refine q_goto (tgt := 32) dX9_life_66 (by decide) ?_
        refine q_pk [2, 3, 4, 5, 1, 0] (ls' := [(0, .ref 58), (1, .int (nI i)), (2, .int (nI v)), (3, .int (nI m)), (4, .int (nI ((cnt (alv q v m) k) + 0))), (5, .int (nI (k + 1)))]) rfl ?_
        exact I
      · rw [e1 c52] at I
        refine q_iconst (v := nI 1) dX9_life_55 rfl ?_
        refine q_goto (tgt := 60) dX9_life_56 (by decide) ?_
        refine q_iaddN dX9_life_60 ?_
        refine q_istore dX9_life_61 (by decide) (ls' := [(4, .int (nI ((cnt (alv q v m) k) + 1))), (0, .ref 58), (1, .int (nI i)), (2, .int (nI v)), (3, .int (nI m)), (5, .int (nI k))]) rfl ?_
        refine q_iincN (c := 1) dX9_life_63 rfl (by decide) rfl (ls' := [(5, .int (nI (k + 1))), (4, .int (nI ((cnt (alv q v m) k) + 1))), (0, .ref 58), (1, .int (nI i)), (2, .int (nI v)), (3, .int (nI m))]) rfl ?_
        refine q_goto (tgt := 32) dX9_life_66 (by decide) ?_
        refine q_pk [2, 3, 4, 5, 1, 0] (ls' := [(0, .ref 58), (1, .int (nI i)), (2, .int (nI v)), (3, .int (nI m)), (4, .int (nI ((cnt (alv q v m) k) + 1))), (5, .int (nI (k + 1)))]) rfl ?_
        exact I
theorem y9_places0 {σ0 : HS} (hS : SK σ0) {i v m : Nat} (hi : i < 4) (hv : v < 3) (hr0 : MR σ0 i q) (hk : MOK q) (hm : m < (psM q).length) (hf : FR9 l88 σ0 σ) : ∀ (r k : Nat), k + r = NN q → WA g mX9_places 3 0 0 (ZM g (WQ (.int (nI (cnt (stA q v m) (NN q)))) (FR9 l88 σ0)) 0 0) 0 0 36 [(0, .ref 58), (1, .int (nI i)), (2, .int (nI v)), (3, .int (nI m)), (4, .int (nI 0)), (5, .int (nI (cnt (stA q v m) k))), (6, .int (nI k))] [] σ := by
  have hN := NN_le hk.1
  have h32 := hk.2.1.2.2.2.1
  have hS1 := SK.fq hf hS
  have hr := hr0.li88 hk hf
  have r62 := hr.1.2.1
  intro r
  induction r with
  | zero =>
    intro k hkr
    refine q_iload dX9_places_36 rfl ?_
    refine q_aload_n dX9_places_38 rfl rfl rfl ?_
    refine q_getr (r := 62) dX9_places_39 fX9_43 rfl (ty_c hS1 (by decide) rfl) (hS1.2 58 10 62 rfl) ?_
    refine q_iload_n dX9_places_42 rfl rfl ?_
    refine q_iald (x := nI (NN q)) (j := i) dX9_places_43 (ty_c hS1 (by decide) rfl) (ix_n (by omega) (by omega)) r62 ?_
    refine q_icmp_geN (tgt := 95) dX9_places_44 (by decide) (by omega) (by omega) (fun c44 => ?_) (fun c44 => ?_)
    · skip
      refine q_iload dX9_places_95 rfl ?_
      refine q_ireturn dX9_places_97 rfl rfl (by omega) (by omega) ?_
      rw [← show k = NN q by omega]
      exact ⟨rfl, hf⟩
    · exact absurd c44 (by omega)
  | succ r ih =>
    intro k hkr
    have hcn := cnt_le (stA q v m) k
    have I := ih (k + 1) (by omega)
    have e1 : stA q v m k = true → cnt (stA q v m) (k + 1) = cnt (stA q v m) k + 1 := fun z => by show cnt (stA q v m) k + _ = _; rw [z]; rfl
    have e0 : stA q v m k = false → cnt (stA q v m) (k + 1) = cnt (stA q v m) k + 0 := fun z => by show cnt (stA q v m) k + _ = _; rw [z]; rfl
    refine q_iload dX9_places_36 rfl ?_
    refine q_aload_n dX9_places_38 rfl rfl rfl ?_
    refine q_getr (r := 62) dX9_places_39 fX9_43 rfl (ty_c hS1 (by decide) rfl) (hS1.2 58 10 62 rfl) ?_
    refine q_iload_n dX9_places_42 rfl rfl ?_
    refine q_iald (x := nI (NN q)) (j := i) dX9_places_43 (ty_c hS1 (by decide) rfl) (ix_n (by omega) (by omega)) r62 ?_
    refine q_icmp_geN (tgt := 95) dX9_places_44 (by decide) (by omega) (by omega) (fun c44 => ?_) (fun c44 => ?_)
    · exact absurd c44 (by omega)
    · skip
      refine q_iload dX9_places_47 rfl ?_
      refine q_iload dX9_places_49 rfl ?_
      refine q_if_neN (tgt := 69) dX9_places_51 (by decide) (by omega) (fun h => absurd h (by decide)) (fun _ => ?_)
      refine q_aload_n dX9_places_54 rfl rfl rfl ?_
      refine q_iload_n dX9_places_55 rfl rfl ?_
      refine q_iload_n dX9_places_56 rfl rfl ?_
      refine q_iload_n dX9_places_57 rfl rfl ?_
      refine q_iload dX9_places_58 rfl ?_
      refine q_callV (As := [.int (nI i), .int (nI v), .int (nI m), .int (nI k)]) (rest := [.int (nI (cnt (stA q v m) k))]) dX9_places_60 vX9_382 (ty_c hS1 (by decide) rfl) ⟨by decide, rfl⟩ (z9_isSet hS1 hi hr hk hv hm (by omega)) rfl rfl (Nat.le_of_ble_eq_true rfl) (by omega) (by omega) (by omega) (k_p ?_)
      refine q_if_eqB (tgt := 85) dX9_places_63 (by decide) (fun c63 => ?_) (fun c63 => ?_)
      · rw [e0 c63] at I
        refine q_iconst (v := nI 0) dX9_places_85 rfl ?_
        refine q_iaddN dX9_places_86 ?_
        refine q_istore dX9_places_87 (by decide) (ls' := [(5, .int (nI ((cnt (stA q v m) k) + 0))), (0, .ref 58), (1, .int (nI i)), (2, .int (nI v)), (3, .int (nI m)), (4, .int (nI 0)), (6, .int (nI k))]) rfl ?_
        refine q_iincN (c := 1) dX9_places_89 rfl (by decide) rfl (ls' := [(6, .int (nI (k + 1))), (5, .int (nI ((cnt (stA q v m) k) + 0))), (0, .ref 58), (1, .int (nI i)), (2, .int (nI v)), (3, .int (nI m)), (4, .int (nI 0))]) rfl ?_
        refine q_goto (tgt := 36) dX9_places_92 (by decide) ?_
        refine q_pk [2, 3, 4, 5, 6, 1, 0] (ls' := [(0, .ref 58), (1, .int (nI i)), (2, .int (nI v)), (3, .int (nI m)), (4, .int (nI 0)), (5, .int (nI ((cnt (stA q v m) k) + 0))), (6, .int (nI (k + 1)))]) rfl ?_
        exact I
      · rw [e1 c63] at I
        refine q_goto (tgt := 81) dX9_places_66 (by decide) ?_
        refine q_iconst (v := nI 1) dX9_places_81 rfl ?_
        refine q_goto (tgt := 86) dX9_places_82 (by decide) ?_
        refine q_iaddN dX9_places_86 ?_
        refine q_istore dX9_places_87 (by decide) (ls' := [(5, .int (nI ((cnt (stA q v m) k) + 1))), (0, .ref 58), (1, .int (nI i)), (2, .int (nI v)), (3, .int (nI m)), (4, .int (nI 0)), (6, .int (nI k))]) rfl ?_
        refine q_iincN (c := 1) dX9_places_89 rfl (by decide) rfl (ls' := [(6, .int (nI (k + 1))), (5, .int (nI ((cnt (stA q v m) k) + 1))), (0, .ref 58), (1, .int (nI i)), (2, .int (nI v)), (3, .int (nI m)), (4, .int (nI 0))]) rfl ?_
        refine q_goto (tgt := 36) dX9_places_92 (by decide) ?_
        refine q_pk [2, 3, 4, 5, 6, 1, 0] (ls' := [(0, .ref 58), (1, .int (nI i)), (2, .int (nI v)), (3, .int (nI m)), (4, .int (nI 0)), (5, .int (nI ((cnt (stA q v m) k) + 1))), (6, .int (nI (k + 1)))]) rfl ?_
        exact I
theorem y9_places1 {σ0 : HS} (hS : SK σ0) {i v m : Nat} (hi : i < 4) (hv : v < 3) (hr0 : MR σ0 i q) (hk : MOK q) (hm : m < (psM q).length) (hf : FR9 l88 σ0 σ) : ∀ (r k : Nat), k + r = NN q → WA g mX9_places 3 0 0 (ZM g (WQ (.int (nI (cnt (tkn q v m) (NN q)))) (FR9 l88 σ0)) 0 0) 0 0 36 [(0, .ref 58), (1, .int (nI i)), (2, .int (nI v)), (3, .int (nI m)), (4, .int (nI 1)), (5, .int (nI (cnt (tkn q v m) k))), (6, .int (nI k))] [] σ := by
  have hN := NN_le hk.1
  have h32 := hk.2.1.2.2.2.1
  have hS1 := SK.fq hf hS
  have hr := hr0.li88 hk hf
  have r62 := hr.1.2.1
  intro r
  induction r with
  | zero =>
    intro k hkr
    refine q_iload dX9_places_36 rfl ?_
    refine q_aload_n dX9_places_38 rfl rfl rfl ?_
    refine q_getr (r := 62) dX9_places_39 fX9_43 rfl (ty_c hS1 (by decide) rfl) (hS1.2 58 10 62 rfl) ?_
    refine q_iload_n dX9_places_42 rfl rfl ?_
    refine q_iald (x := nI (NN q)) (j := i) dX9_places_43 (ty_c hS1 (by decide) rfl) (ix_n (by omega) (by omega)) r62 ?_
    refine q_icmp_geN (tgt := 95) dX9_places_44 (by decide) (by omega) (by omega) (fun c44 => ?_) (fun c44 => ?_)
    · skip
      refine q_iload dX9_places_95 rfl ?_
      refine q_ireturn dX9_places_97 rfl rfl (by omega) (by omega) ?_
      rw [← show k = NN q by omega]
      exact ⟨rfl, hf⟩
    · exact absurd c44 (by omega)
  | succ r ih =>
    intro k hkr
    have hcn := cnt_le (tkn q v m) k
    have I := ih (k + 1) (by omega)
    have e1 : tkn q v m k = true → cnt (tkn q v m) (k + 1) = cnt (tkn q v m) k + 1 := fun z => by show cnt (tkn q v m) k + _ = _; rw [z]; rfl
    have e0 : tkn q v m k = false → cnt (tkn q v m) (k + 1) = cnt (tkn q v m) k + 0 := fun z => by show cnt (tkn q v m) k + _ = _; rw [z]; rfl
    refine q_iload dX9_places_36 rfl ?_
    refine q_aload_n dX9_places_38 rfl rfl rfl ?_
    refine q_getr (r := 62) dX9_places_39 fX9_43 rfl (ty_c hS1 (by decide) rfl) (hS1.2 58 10 62 rfl) ?_
    refine q_iload_n dX9_places_42 rfl rfl ?_
    refine q_iald (x := nI (NN q)) (j := i) dX9_places_43 (ty_c hS1 (by decide) rfl) (ix_n (by omega) (by omega)) r62 ?_
    refine q_icmp_geN (tgt := 95) dX9_places_44 (by decide) (by omega) (by omega) (fun c44 => ?_) (fun c44 => ?_)
    · exact absurd c44 (by omega)
    · skip
      refine q_iload dX9_places_47 rfl ?_
      refine q_iload dX9_places_49 rfl ?_
      refine q_if_neN (tgt := 69) dX9_places_51 (by decide) (by omega) (fun _ => ?_) (fun h => absurd h (by decide))
      refine q_aload_n dX9_places_69 rfl rfl rfl ?_
      refine q_iload_n dX9_places_70 rfl rfl ?_
      refine q_iload_n dX9_places_71 rfl rfl ?_
      refine q_iload_n dX9_places_72 rfl rfl ?_
      refine q_iload dX9_places_73 rfl ?_
      refine q_callV (As := [.int (nI i), .int (nI v), .int (nI m), .int (nI k)]) (rest := [.int (nI (cnt (tkn q v m) k))]) dX9_places_75 vX9_385 (ty_c hS1 (by decide) rfl) ⟨by decide, rfl⟩ (z9_isTaken hS1 hi hr hk hv hm (by omega)) rfl rfl (Nat.le_of_ble_eq_true rfl) (by omega) (by omega) (by omega) (k_p ?_)
      refine q_if_eqB (tgt := 85) dX9_places_78 (by decide) (fun c78 => ?_) (fun c78 => ?_)
      · rw [e0 c78] at I
        refine q_iconst (v := nI 0) dX9_places_85 rfl ?_
        refine q_iaddN dX9_places_86 ?_
        refine q_istore dX9_places_87 (by decide) (ls' := [(5, .int (nI ((cnt (tkn q v m) k) + 0))), (0, .ref 58), (1, .int (nI i)), (2, .int (nI v)), (3, .int (nI m)), (4, .int (nI 1)), (6, .int (nI k))]) rfl ?_
        refine q_iincN (c := 1) dX9_places_89 rfl (by decide) rfl (ls' := [(6, .int (nI (k + 1))), (5, .int (nI ((cnt (tkn q v m) k) + 0))), (0, .ref 58), (1, .int (nI i)), (2, .int (nI v)), (3, .int (nI m)), (4, .int (nI 1))]) rfl ?_
        refine q_goto (tgt := 36) dX9_places_92 (by decide) ?_
        refine q_pk [2, 3, 4, 5, 6, 1, 0] (ls' := [(0, .ref 58), (1, .int (nI i)), (2, .int (nI v)), (3, .int (nI m)), (4, .int (nI 1)), (5, .int (nI ((cnt (tkn q v m) k) + 0))), (6, .int (nI (k + 1)))]) rfl ?_
        exact I
      · rw [e1 c78] at I
        refine q_iconst (v := nI 1) dX9_places_81 rfl ?_
        refine q_goto (tgt := 86) dX9_places_82 (by decide) ?_
        refine q_iaddN dX9_places_86 ?_
        refine q_istore dX9_places_87 (by decide) (ls' := [(5, .int (nI ((cnt (tkn q v m) k) + 1))), (0, .ref 58), (1, .int (nI i)), (2, .int (nI v)), (3, .int (nI m)), (4, .int (nI 1)), (6, .int (nI k))]) rfl ?_
        refine q_iincN (c := 1) dX9_places_89 rfl (by decide) rfl (ls' := [(6, .int (nI (k + 1))), (5, .int (nI ((cnt (tkn q v m) k) + 1))), (0, .ref 58), (1, .int (nI i)), (2, .int (nI v)), (3, .int (nI m)), (4, .int (nI 1))]) rfl ?_
        refine q_goto (tgt := 36) dX9_places_92 (by decide) ?_
        refine q_pk [2, 3, 4, 5, 6, 1, 0] (ls' := [(0, .ref 58), (1, .int (nI i)), (2, .int (nI v)), (3, .int (nI m)), (4, .int (nI 1)), (5, .int (nI ((cnt (tkn q v m) k) + 1))), (6, .int (nI (k + 1)))]) rfl ?_
        exact I
theorem z9_life1 (hS : SK σ) (h : MA σ p (some q)) {l e : Int32} : CT g mX9_life 3 0 0 [.ref 58, .int p, .int l, .int e] σ (WQ (.int (if (¬ l < 0 ∧ l < nI 3) ∧ ¬ e < 0 ∧ e < nI (psM q).length then nI (cnt (alv q l.toNatClampNeg e.toNatClampNeg) (NN q)) else -1)) (FR9 l88 σ)) := by
  have hAll := h
  obtain ⟨i, hi, rfl, h0, hr, hk⟩ := h
  obtain ⟨hc, hw, hB, hx, hF⟩ := id hk
  have hN := NN_le hc
  have h32 := hw.2.2.2.1
  have r62 := hr.1.2.1
  by_cases he : ¬ e < 0 ∧ e < nI (psM q).length
  · obtain ⟨m, hm, rfl⟩ := n_in (by omega) he
    by_cases hl : ¬ l < 0 ∧ l < nI 3
    · rw [if_pos ⟨hl, he⟩]
      obtain ⟨v, hv, rfl⟩ := n_in (by omega) hl
      rw [nI_clamp (by omega), nI_clamp (by omega)]
      refine CT.of (by decide) (Nat.le_of_ble_eq_true rfl) ?_
      refine q_aload_n dX9_life_0 rfl rfl rfl ?_
      refine q_iload_n dX9_life_1 rfl rfl ?_
      refine q_iload_n dX9_life_2 rfl rfl ?_
      refine q_callV (As := [.int (nI i), .int (nI m)]) (rest := []) dX9_life_3 vX9_376 (ty_c hS (by decide) rfl) ⟨by decide, rfl⟩ (z9_isSumY hS hi h0 hr hk hm) rfl rfl (Nat.le_of_ble_eq_true rfl) (by omega) (by omega) (by omega) (k_p ?_)
      refine q_if_eqB (tgt := 17) dX9_life_6 (by decide) (fun h => absurd h (by decide)) (fun _ => ?_)
      refine q_aload_n dX9_life_9 rfl rfl rfl ?_
      refine q_iload_n dX9_life_10 rfl rfl ?_
      refine q_callV (As := [.int (nI v)]) (rest := []) dX9_life_11 vX9_388 (ty_c hS (by decide) rfl) ⟨by decide, rfl⟩ (z9_isPlacing hS) rfl rfl (Nat.le_of_ble_eq_true rfl) (by omega) (by omega) (by omega) (k_p ?_)
      refine q_if_neB (tgt := 19) dX9_life_14 (by decide) (fun c14 => ?_) (fun c14 => ?_)
      · skip
        refine q_aload_n dX9_life_19 rfl rfl rfl ?_
        refine q_iload_n dX9_life_20 rfl rfl ?_
        refine q_iload_n dX9_life_21 rfl rfl ?_
        refine q_iload_n dX9_life_22 rfl rfl ?_
        refine q_callV (As := [.int (nI i), .int (nI v), .int (nI m)]) (rest := []) dX9_life_23 vX9_391 (ty_c hS (by decide) rfl) ⟨by decide, rfl⟩ (z9_live hS hi hr hk hv hm) rfl rfl (Nat.le_of_ble_eq_true rfl) (by omega) (by omega) (by omega) (k_v (fun s23 q23 => ?_))
        have zS23 : SK s23 := (SK.fq q23.1 hS)
        refine q_iconst (v := nI 0) dX9_life_26 rfl ?_
        refine q_istore dX9_life_27 (by decide) (ls' := [(4, .int (nI 0)), (0, .ref 58), (1, .int (nI i)), (2, .int (nI v)), (3, .int (nI m))]) rfl ?_
        refine q_iconst (v := nI 0) dX9_life_29 rfl ?_
        refine q_istore dX9_life_30 (by decide) (ls' := [(5, .int (nI 0)), (4, .int (nI 0)), (0, .ref 58), (1, .int (nI i)), (2, .int (nI v)), (3, .int (nI m))]) rfl ?_
        refine q_pk [2, 3, 4, 5, 1, 0] (ls' := [(0, .ref 58), (1, .int (nI i)), (2, .int (nI v)), (3, .int (nI m)), (4, .int (nI 0)), (5, .int (nI 0))]) rfl ?_
        exact y9_life32 hS hi hv hr hk hm q23.1 q23.2 (NN q) 0 (by omega)
      · exact absurd hl (of_decide_eq_false c14)
    · rw [if_neg fun z => hl z.1]
      refine CT.of (by decide) (Nat.le_of_ble_eq_true rfl) ?_
      refine q_aload_n dX9_life_0 rfl rfl rfl ?_
      refine q_iload_n dX9_life_1 rfl rfl ?_
      refine q_iload_n dX9_life_2 rfl rfl ?_
      refine q_callV (As := [.int (nI i), .int (nI m)]) (rest := []) dX9_life_3 vX9_376 (ty_c hS (by decide) rfl) ⟨by decide, rfl⟩ (z9_isSumY hS hi h0 hr hk hm) rfl rfl (Nat.le_of_ble_eq_true rfl) (by omega) (by omega) (by omega) (k_p ?_)
      refine q_if_eqB (tgt := 17) dX9_life_6 (by decide) (fun h => absurd h (by decide)) (fun _ => ?_)
      refine q_aload_n dX9_life_9 rfl rfl rfl ?_
      refine q_iload_n dX9_life_10 rfl rfl ?_
      refine q_callV (As := [.int l]) (rest := []) dX9_life_11 vX9_388 (ty_c hS (by decide) rfl) ⟨by decide, rfl⟩ (z9_isPlacing hS) rfl rfl (Nat.le_of_ble_eq_true rfl) (by omega) (by omega) (by omega) (k_p ?_)
      refine q_if_neB (tgt := 19) dX9_life_14 (by decide) (fun c14 => ?_) (fun c14 => ?_)
      · exact absurd (of_decide_eq_true c14) hl
      · skip
        refine q_iconst (v := (-1 : Int32)) dX9_life_17 rfl ?_
        refine q_ireturn dX9_life_18 rfl rfl (by omega) (by omega) ?_
        exact ⟨rfl, FR9.rf⟩
  · rw [if_neg fun z => he z.2]
    refine CT.of (by decide) (Nat.le_of_ble_eq_true rfl) ?_
    refine q_aload_n dX9_life_0 rfl rfl rfl ?_
    refine q_iload_n dX9_life_1 rfl rfl ?_
    refine q_iload_n dX9_life_2 rfl rfl ?_
    refine q_callV (As := [.int (nI i), .int e]) (rest := []) dX9_life_3 vX9_376 (ty_c hS (by decide) rfl) ⟨by decide, rfl⟩ (z9_isSumN hS hAll he) rfl rfl (Nat.le_of_ble_eq_true rfl) (by omega) (by omega) (by omega) (k_p ?_)
    refine q_if_eqB (tgt := 17) dX9_life_6 (by decide) (fun _ => ?_) (fun h => absurd h (by decide))
    refine q_iconst (v := (-1 : Int32)) dX9_life_17 rfl ?_
    refine q_ireturn dX9_life_18 rfl rfl (by omega) (by omega) ?_
    exact ⟨rfl, FR9.rf⟩
theorem z9_places1 (hS : SK σ) (h : MA σ p (some q)) {l e w : Int32} : CT g mX9_places 3 0 0 [.ref 58, .int p, .int l, .int e, .int w] σ (WQ (.int (if (¬ l < 0 ∧ l < nI 3) ∧ (¬ e < 0 ∧ e < nI (psM q).length) ∧ ¬ w < 0 ∧ w < nI 2 then nI (cnt (if w = nI 0 then stA q l.toNatClampNeg e.toNatClampNeg else tkn q l.toNatClampNeg e.toNatClampNeg) (NN q)) else -1)) (FR9 l88 σ)) := by
  have hAll := h
  obtain ⟨i, hi, rfl, h0, hr, hk⟩ := h
  obtain ⟨hc, hw, hB, hx, hF⟩ := id hk
  have hN := NN_le hc
  have h32 := hw.2.2.2.1
  have r62 := hr.1.2.1
  by_cases he : ¬ e < 0 ∧ e < nI (psM q).length
  · obtain ⟨m, hm, rfl⟩ := n_in (by omega) he
    by_cases hl : ¬ l < 0 ∧ l < nI 3
    · by_cases hw2 : ¬ w < 0 ∧ w < nI 2
      · rw [if_pos ⟨hl, he, hw2⟩]
        obtain ⟨v, hv, rfl⟩ := n_in (by omega) hl
        obtain ⟨x, hx2, rfl⟩ := n_in (by omega) hw2
        rw [nI_clamp (by omega), nI_clamp (by omega)]
        rcases (show x = 0 ∨ x = 1 by omega) with rfl | rfl
        · rw [if_pos rfl]
          refine CT.of (by decide) (Nat.le_of_ble_eq_true rfl) ?_
          refine q_aload_n dX9_places_0 rfl rfl rfl ?_
          refine q_iload_n dX9_places_1 rfl rfl ?_
          refine q_iload_n dX9_places_2 rfl rfl ?_
          refine q_callV (As := [.int (nI i), .int (nI m)]) (rest := []) dX9_places_3 vX9_376 (ty_c hS (by decide) rfl) ⟨by decide, rfl⟩ (z9_isSumY hS hi h0 hr hk hm) rfl rfl (Nat.le_of_ble_eq_true rfl) (by omega) (by omega) (by omega) (k_p ?_)
          refine q_if_eqB (tgt := 28) dX9_places_6 (by decide) (fun h => absurd h (by decide)) (fun _ => ?_)
          refine q_aload_n dX9_places_9 rfl rfl rfl ?_
          refine q_iload_n dX9_places_10 rfl rfl ?_
          refine q_callV (As := [.int (nI v)]) (rest := []) dX9_places_11 vX9_388 (ty_c hS (by decide) rfl) ⟨by decide, rfl⟩ (z9_isPlacing hS) rfl rfl (Nat.le_of_ble_eq_true rfl) (by omega) (by omega) (by omega) (k_p ?_)
          refine q_if_eqB (tgt := 28) dX9_places_14 (by decide) (fun c14 => ?_) (fun c14 => ?_)
          · exact absurd hl (of_decide_eq_false c14)
          · skip
            refine q_iload dX9_places_17 rfl ?_
            refine q_if_ltN (tgt := 28) dX9_places_19 (by decide) (by omega) ?_
            refine q_iload dX9_places_22 rfl ?_
            refine q_iconst (v := nI 1) dX9_places_24 rfl ?_
            refine q_icmp_leN (tgt := 30) dX9_places_25 (by decide) (by omega) (by omega) (fun _ => ?_) (fun h => absurd h (by decide))
            refine q_iconst (v := nI 0) dX9_places_30 rfl ?_
            refine q_istore dX9_places_31 (by decide) (ls' := [(5, .int (nI 0)), (0, .ref 58), (1, .int (nI i)), (2, .int (nI v)), (3, .int (nI m)), (4, .int (nI 0))]) rfl ?_
            refine q_iconst (v := nI 0) dX9_places_33 rfl ?_
            refine q_istore dX9_places_34 (by decide) (ls' := [(6, .int (nI 0)), (5, .int (nI 0)), (0, .ref 58), (1, .int (nI i)), (2, .int (nI v)), (3, .int (nI m)), (4, .int (nI 0))]) rfl ?_
            refine q_pk [2, 3, 4, 5, 6, 1, 0] (ls' := [(0, .ref 58), (1, .int (nI i)), (2, .int (nI v)), (3, .int (nI m)), (4, .int (nI 0)), (5, .int (nI 0)), (6, .int (nI 0))]) rfl ?_
            exact y9_places0 hS hi hv hr hk hm FR9.rf (NN q) 0 (by omega)
        · rw [if_neg (by decide)]
          refine CT.of (by decide) (Nat.le_of_ble_eq_true rfl) ?_
          refine q_aload_n dX9_places_0 rfl rfl rfl ?_
          refine q_iload_n dX9_places_1 rfl rfl ?_
          refine q_iload_n dX9_places_2 rfl rfl ?_
          refine q_callV (As := [.int (nI i), .int (nI m)]) (rest := []) dX9_places_3 vX9_376 (ty_c hS (by decide) rfl) ⟨by decide, rfl⟩ (z9_isSumY hS hi h0 hr hk hm) rfl rfl (Nat.le_of_ble_eq_true rfl) (by omega) (by omega) (by omega) (k_p ?_)
          refine q_if_eqB (tgt := 28) dX9_places_6 (by decide) (fun h => absurd h (by decide)) (fun _ => ?_)
          refine q_aload_n dX9_places_9 rfl rfl rfl ?_
          refine q_iload_n dX9_places_10 rfl rfl ?_
          refine q_callV (As := [.int (nI v)]) (rest := []) dX9_places_11 vX9_388 (ty_c hS (by decide) rfl) ⟨by decide, rfl⟩ (z9_isPlacing hS) rfl rfl (Nat.le_of_ble_eq_true rfl) (by omega) (by omega) (by omega) (k_p ?_)
          refine q_if_eqB (tgt := 28) dX9_places_14 (by decide) (fun c14 => ?_) (fun c14 => ?_)
          · exact absurd hl (of_decide_eq_false c14)
          · skip
            refine q_iload dX9_places_17 rfl ?_
            refine q_if_ltN (tgt := 28) dX9_places_19 (by decide) (by omega) ?_
            refine q_iload dX9_places_22 rfl ?_
            refine q_iconst (v := nI 1) dX9_places_24 rfl ?_
            refine q_icmp_leN (tgt := 30) dX9_places_25 (by decide) (by omega) (by omega) (fun _ => ?_) (fun h => absurd h (by decide))
            refine q_iconst (v := nI 0) dX9_places_30 rfl ?_
            refine q_istore dX9_places_31 (by decide) (ls' := [(5, .int (nI 0)), (0, .ref 58), (1, .int (nI i)), (2, .int (nI v)), (3, .int (nI m)), (4, .int (nI 1))]) rfl ?_
            refine q_iconst (v := nI 0) dX9_places_33 rfl ?_
            refine q_istore dX9_places_34 (by decide) (ls' := [(6, .int (nI 0)), (5, .int (nI 0)), (0, .ref 58), (1, .int (nI i)), (2, .int (nI v)), (3, .int (nI m)), (4, .int (nI 1))]) rfl ?_
            refine q_pk [2, 3, 4, 5, 6, 1, 0] (ls' := [(0, .ref 58), (1, .int (nI i)), (2, .int (nI v)), (3, .int (nI m)), (4, .int (nI 1)), (5, .int (nI 0)), (6, .int (nI 0))]) rfl ?_
            exact y9_places1 hS hi hv hr hk hm FR9.rf (NN q) 0 (by omega)
      · rw [if_neg fun z => hw2 z.2.2]
        refine CT.of (by decide) (Nat.le_of_ble_eq_true rfl) ?_
        refine q_aload_n dX9_places_0 rfl rfl rfl ?_
        refine q_iload_n dX9_places_1 rfl rfl ?_
        refine q_iload_n dX9_places_2 rfl rfl ?_
        refine q_callV (As := [.int (nI i), .int (nI m)]) (rest := []) dX9_places_3 vX9_376 (ty_c hS (by decide) rfl) ⟨by decide, rfl⟩ (z9_isSumY hS hi h0 hr hk hm) rfl rfl (Nat.le_of_ble_eq_true rfl) (by omega) (by omega) (by omega) (k_p ?_)
        refine q_if_eqB (tgt := 28) dX9_places_6 (by decide) (fun h => absurd h (by decide)) (fun _ => ?_)
        refine q_aload_n dX9_places_9 rfl rfl rfl ?_
        refine q_iload_n dX9_places_10 rfl rfl ?_
        refine q_callV (As := [.int l]) (rest := []) dX9_places_11 vX9_388 (ty_c hS (by decide) rfl) ⟨by decide, rfl⟩ (z9_isPlacing hS) rfl rfl (Nat.le_of_ble_eq_true rfl) (by omega) (by omega) (by omega) (k_p ?_)
        refine q_if_eqB (tgt := 28) dX9_places_14 (by decide) (fun c14 => ?_) (fun c14 => ?_)
        · exact absurd hl (of_decide_eq_false c14)
        · skip
          refine q_iload dX9_places_17 rfl ?_
          refine q_if_lt (tgt := 28) dX9_places_19 (by decide) (fun c19 => ?_) (fun c19 => ?_)
          · skip
            refine q_iconst (v := (-1 : Int32)) dX9_places_28 rfl ?_
            refine q_ireturn dX9_places_29 rfl rfl (by omega) (by omega) ?_
            exact ⟨rfl, FR9.rf⟩
          · skip
            refine q_iload dX9_places_22 rfl ?_
            refine q_iconst (v := nI 1) dX9_places_24 rfl ?_
            refine q_icmp_le (tgt := 30) dX9_places_25 (by decide) (fun c25 => ?_) (fun c25 => ?_)
            · exact absurd ⟨c19, (le_lt (by omega)).mp c25⟩ hw2
            · skip
              refine q_iconst (v := (-1 : Int32)) dX9_places_28 rfl ?_
              refine q_ireturn dX9_places_29 rfl rfl (by omega) (by omega) ?_
              exact ⟨rfl, FR9.rf⟩
    · rw [if_neg fun z => hl z.1]
      refine CT.of (by decide) (Nat.le_of_ble_eq_true rfl) ?_
      refine q_aload_n dX9_places_0 rfl rfl rfl ?_
      refine q_iload_n dX9_places_1 rfl rfl ?_
      refine q_iload_n dX9_places_2 rfl rfl ?_
      refine q_callV (As := [.int (nI i), .int (nI m)]) (rest := []) dX9_places_3 vX9_376 (ty_c hS (by decide) rfl) ⟨by decide, rfl⟩ (z9_isSumY hS hi h0 hr hk hm) rfl rfl (Nat.le_of_ble_eq_true rfl) (by omega) (by omega) (by omega) (k_p ?_)
      refine q_if_eqB (tgt := 28) dX9_places_6 (by decide) (fun h => absurd h (by decide)) (fun _ => ?_)
      refine q_aload_n dX9_places_9 rfl rfl rfl ?_
      refine q_iload_n dX9_places_10 rfl rfl ?_
      refine q_callV (As := [.int l]) (rest := []) dX9_places_11 vX9_388 (ty_c hS (by decide) rfl) ⟨by decide, rfl⟩ (z9_isPlacing hS) rfl rfl (Nat.le_of_ble_eq_true rfl) (by omega) (by omega) (by omega) (k_p ?_)
      refine q_if_eqB (tgt := 28) dX9_places_14 (by decide) (fun c14 => ?_) (fun c14 => ?_)
      · skip
        refine q_iconst (v := (-1 : Int32)) dX9_places_28 rfl ?_
        refine q_ireturn dX9_places_29 rfl rfl (by omega) (by omega) ?_
        exact ⟨rfl, FR9.rf⟩
      · exact absurd (of_decide_eq_true c14) hl
  · rw [if_neg fun z => he z.2.1]
    refine CT.of (by decide) (Nat.le_of_ble_eq_true rfl) ?_
    refine q_aload_n dX9_places_0 rfl rfl rfl ?_
    refine q_iload_n dX9_places_1 rfl rfl ?_
    refine q_iload_n dX9_places_2 rfl rfl ?_
    refine q_callV (As := [.int (nI i), .int e]) (rest := []) dX9_places_3 vX9_376 (ty_c hS (by decide) rfl) ⟨by decide, rfl⟩ (z9_isSumN hS hAll he) rfl rfl (Nat.le_of_ble_eq_true rfl) (by omega) (by omega) (by omega) (k_p ?_)
    refine q_if_eqB (tgt := 28) dX9_places_6 (by decide) (fun _ => ?_) (fun h => absurd h (by decide))
    refine q_iconst (v := (-1 : Int32)) dX9_places_28 rfl ?_
    refine q_ireturn dX9_places_29 rfl rfl (by omega) (by omega) ?_
    exact ⟨rfl, FR9.rf⟩

end MAS
