/-! The model: where its NODES lead, all. -/
section MLE
variable {g : GG} {σ σ0 : HS} {q : PS} {Z : List Frame → Array Value → State → State → Prop}
theorem y9_lead14 (hM : MPS σ0 q) (hS : SK σ0) (hc : BC q) (hw : WFs q) (K : ∀ σ', FR9 (fun h _ => h = 87) σ0 σ' → (∀ b, b < (psF q).length → sI σ' 87 b = nI (cntW q b (psF q).length)) → WA g mX9_lead 2 0 0 Z 0 0 41 [(0, .ref 58)] [] σ') : ∀ (k i : Nat) (σ : HS), i + k = (psF q).length → FR9 (fun h _ => h = 87) σ0 σ → (∀ b, b < i → sI σ 87 b = nI (cntW q b (psF q).length)) → WA g mX9_lead 2 0 0 Z 0 0 14 [(0, .ref 58), (1, .int (nI i))] [] σ := by
  have h40 := hc.2.1
  have mps : ∀ σ, FR9 (fun h _ => h = 87) σ0 σ → MPS σ q := fun σ f => by
    obtain ⟨k1, k2, k3, k4, k5, k6, k7⟩ := hM
    exact ⟨(f.2.2.2 61 4 (by omega)).trans k1, (f.2.2.2 62 4 (by omega)).trans k2, k3.fq f (fun a i _ _ _ => by omega), k4.fq f (fun a i _ => by omega), k5.fq f (by omega) (fun a i _ _ => by omega), (f.2.2.2 58 38 (by omega)).trans k6, k7.fq f (by omega) (fun i => by omega)⟩
  intro k
  induction k with
  | zero =>
    intro i σ hi h1 hR
    have m1 := (mps σ h1).1
    have ei : i = (psF q).length := by omega
    rw [ei] at hR ⊢
    refine q_iload_n dX9_lead_14 rfl rfl ?_
    refine q_aload_n dX9_lead_15 rfl rfl rfl ?_
    refine q_getr (r := 61) dX9_lead_16 fX9_40 rfl (ty_c (SK.fq h1 hS) (by decide) rfl) ((SK.fq h1 hS).2 58 9 61 rfl) ?_
    refine q_iconst (v := nI 4) dX9_lead_19 rfl ?_
    refine q_iald (x := nI ((psF q).length)) (j := 4) dX9_lead_20 (ty_c (SK.fq h1 hS) (by decide) rfl) (ix_n (by omega) (by omega)) m1 ?_
    refine q_icmp_geN (tgt := 41) dX9_lead_21 (by decide) (by omega) (by omega) (fun c21 => ?_) (fun c21 => ?_)
    · skip
      refine q_pk [0] (ls' := [(0, .ref 58)]) rfl ?_
      exact K σ h1 hR
    · exact absurd c21 (by omega)
  | succ k ih =>
    intro i σ hi h1 hR
    have hMs := mps σ h1
    have m1 := hMs.1
    refine q_iload_n dX9_lead_14 rfl rfl ?_
    refine q_aload_n dX9_lead_15 rfl rfl rfl ?_
    refine q_getr (r := 61) dX9_lead_16 fX9_40 rfl (ty_c (SK.fq h1 hS) (by decide) rfl) ((SK.fq h1 hS).2 58 9 61 rfl) ?_
    refine q_iconst (v := nI 4) dX9_lead_19 rfl ?_
    refine q_iald (x := nI ((psF q).length)) (j := 4) dX9_lead_20 (ty_c (SK.fq h1 hS) (by decide) rfl) (ix_n (by omega) (by omega)) m1 ?_
    refine q_icmp_geN (tgt := 41) dX9_lead_21 (by decide) (by omega) (by omega) (fun c21 => ?_) (fun c21 => ?_)
    · exact absurd c21 (by omega)
    · skip
      refine q_aload_n dX9_lead_24 rfl rfl rfl ?_
      refine q_getr (r := 87) dX9_lead_25 fX9_144 rfl (ty_c (SK.fq h1 hS) (by decide) rfl) ((SK.fq h1 hS).2 58 43 87 rfl) ?_
      refine q_iload_n dX9_lead_28 rfl rfl ?_
      refine q_aload_n dX9_lead_29 rfl rfl rfl ?_
      refine q_iload_n dX9_lead_30 rfl rfl ?_
      refine q_callV (As := [.int (nI i)]) (rest := [.int (nI i), .ref 87]) dX9_lead_31 vX9_328 (ty_c (SK.fq h1 hS) (by decide) rfl) ⟨by decide, rfl⟩ (z9_ways hMs (SK.fq h1 hS) hc hw (by omega)) rfl rfl (Nat.le_of_ble_eq_true rfl) (by omega) (by omega) (by omega) (k_p ?_)
      refine q_iast (j := i) dX9_lead_34 (ty_c (SK.fq h1 hS) (by decide) rfl) (ix_n (by omega) (by omega)) ?_
      refine q_iincN (c := 1) dX9_lead_35 rfl (by decide) rfl (ls' := [(1, .int (nI (i + 1))), (0, .ref 58)]) rfl ?_
      refine q_goto (tgt := 14) dX9_lead_38 (by decide) ?_
      refine q_pk [1, 0] (ls' := [(0, .ref 58), (1, .int (nI (i + 1)))]) rfl ?_
      refine ih (i + 1) _ (by omega) (h1.uI rfl) fun b hb => ?_
      by_cases e : b = i
      · rw [e]; exact uI_self
      · exact (rd_ne e).trans (hR b (by omega))
theorem ld_4 {n : Nat} (hn : n < (psS q).length) (h : rK (rr q n) < 4) : ld q 0 n = some (n + 1) ∧ ld q 1 n = none := by
  unfold ld
  rw [if_pos hn, if_pos hn, if_pos h, if_pos h, if_pos rfl, if_neg (by decide)]
  exact ⟨rfl, rfl⟩
theorem ld_e {n : Nat} (hn : n < (psS q).length) (h : 4 ≤ rK (rr q n)) : ld q 0 n = ldW q n 0 (wr q 0 n) ∧ ld q 1 n = ldW q n (nW q n (wr q 0 n)) (wr q 1 n) := by
  unfold ld
  have h4 : ¬ rK (rr q n) < 4 := by omega
  rw [if_pos hn, if_pos hn, if_neg h4, if_neg h4, if_pos rfl, if_neg (by decide)]
  exact ⟨rfl, rfl⟩
theorem thV_ld {n t m i : Nat} (h5 : rK (rr q n) = 5) (hm : m = (XL q n).length + i) : nI (thV q t m) = oW (ldW q n i (some t)) := by
  unfold thV
  by_cases e : many q t = true
  · rw [if_pos e, ldW_m h5 e, hm]; exact congrArg nI (by omega)
  · rw [if_neg e, ldW_n e]; rfl
theorem wr_4 (hw : WFs q) {n : Nat} (hn : n < (psS q).length) (h : rK (rr q n) < 4) : rW0 (rr q n) = -1 ∧ rW1 (rr q n) = -1 := by
  obtain ⟨⟨-, -, -, -, w0, w1, c2, c3, -, -, c6, -⟩, -⟩ := hw.1 _ (rr_mem (q := q) hn)
  obtain ⟨z0, z1⟩ := c6 h
  exact ⟨by rw [c2, z0]; rfl, by rw [c3, z1]; rfl⟩
theorem y9_lead50 (hS : SK σ0) (hc : BC q) (hw : WFs q) (hB : NB q) (K : ∀ σ' l0 l1, FR9 ldq σ0 σ' → LKm σ' q (psS q).length (XL q (psS q).length).length l0 l1 → WA g mX9_lead 2 0 0 Z 0 0 165 [(0, .ref 58)] [] σ') : ∀ (k n : Nat) (σ : HS), n + k = (psS q).length → FR9 ldq σ0 σ → LKm σ q n (XL q n).length (rW0 (rr q n)) (rW1 (rr q n)) → WA g mX9_lead 2 0 0 Z 0 0 50 [(0, .ref 58), (1, .int (nI (psS q).length)), (2, .int (nI n))] [] σ := by
  have h160 := hc.2.2.1
  have h40 := hc.2.1
  intro k
  induction k with
  | zero =>
    intro n σ hn h1 h2
    have en : n = (psS q).length := by omega
    rw [en] at h2 ⊢
    refine q_iload_n dX9_lead_50 rfl rfl ?_
    refine q_iload_n dX9_lead_51 rfl rfl ?_
    refine q_icmp_geN (tgt := 165) dX9_lead_52 (by decide) (by omega) (by omega) (fun c52 => ?_) (fun c52 => ?_)
    · skip
      refine q_pk [0] (ls' := [(0, .ref 58)]) rfl ?_
      exact K σ _ _ h1 h2
    · exact absurd c52 (by omega)
  | succ k ih =>
    intro n σ hk h1 h2
    have hn : n < (psS q).length := by omega
    have hS1 : SK σ := SK.fq h1 hS
    have eg : rg q n = rr q n := if_pos hn
    have e67 : sI σ 67 (960 + n) = nI (rK (rr q n)) := by
      have := (h2.2.2.2.2.2.1 n (by omega)).1
      rw [eg] at this; exact this
    obtain ⟨w1, w2, w3, w4, w5, w6, w7⟩ := st_w hw hn
    have hx : (XL q (n + 1)) = XL q n ++ xs q n := rfl
    obtain ⟨v0, v1⟩ := h2.2.2.2.2.2.2.2.2 hn
    have f71 : ∀ v, FR9 ldq σ0 (uI σ 71 (960 + n) v) := fun v => h1.uI (by unfold ldq; omega)
    by_cases h4 : rK (rr q n) < 4
    · obtain ⟨z0, z1⟩ := wr_4 hw hn h4
      obtain ⟨l0, l1⟩ := ld_4 hn h4
      have hxl : (XL q (n + 1)).length = (XL q n).length := by rw [hx, xs_0 h4, List.append_nil]
      have hL : LKm (uI σ 71 (960 + n) (nI (n + 1))) q (n + 1) (XL q (n + 1)).length (rW0 (rr q (n + 1))) (rW1 (rr q (n + 1))) := by
        rw [hxl]
        have := LKm_w0 (v := nI (n + 1)) h2 hn
        refine LKm_end ?_ hn
        rw [l0, l1]
        rw [z1] at this
        exact this
      refine q_iload_n dX9_lead_50 rfl rfl ?_
      refine q_iload_n dX9_lead_51 rfl rfl ?_
      refine q_icmp_geN (tgt := 165) dX9_lead_52 (by decide) (by omega) (by omega) (fun c52 => ?_) (fun c52 => ?_)
      · exact absurd c52 (by omega)
      · skip
        refine q_sipush (v := nI 960) dX9_lead_55 rfl ?_
        refine q_iload_n dX9_lead_58 rfl rfl ?_
        refine q_iaddN dX9_lead_59 ?_
        refine q_istore_n dX9_lead_60 rfl (by decide) (ls' := [(3, .int (nI (960 + n))), (0, .ref 58), (1, .int (nI ((psS q).length))), (2, .int (nI n))]) rfl ?_
        refine q_aload_n dX9_lead_61 rfl rfl rfl ?_
        refine q_getr (r := 67) dX9_lead_62 fX9_58 rfl (ty_c hS1 (by decide) rfl) (hS1.2 58 15 67 rfl) ?_
        refine q_iload_n dX9_lead_65 rfl rfl ?_
        refine q_iald (x := nI (rK (rr q n))) (j := (960 + n)) dX9_lead_66 (ty_c hS1 (by decide) rfl) (ix_n (by omega) (by omega)) e67 ?_
        refine q_iconst (v := nI 4) dX9_lead_67 rfl ?_
        refine q_icmp_geN (tgt := 83) dX9_lead_68 (by decide) (by omega) (by omega) (fun c68 => ?_) (fun c68 => ?_)
        · exact absurd c68 (by omega)
        · skip
          refine q_aload_n dX9_lead_71 rfl rfl rfl ?_
          refine q_getr (r := 71) dX9_lead_72 fX9_70 rfl (ty_c hS1 (by decide) rfl) (hS1.2 58 19 71 rfl) ?_
          refine q_iload_n dX9_lead_75 rfl rfl ?_
          refine q_iload_n dX9_lead_76 rfl rfl ?_
          refine q_iconst (v := nI 1) dX9_lead_77 rfl ?_
          refine q_iaddN dX9_lead_78 ?_
          refine q_iast (j := (960 + n)) dX9_lead_79 (ty_c hS1 (by decide) rfl) (ix_n (by omega) (by omega)) ?_
          refine q_goto (tgt := 159) dX9_lead_80 (by decide) ?_
          refine q_iincN (c := 1) dX9_lead_159 rfl (by decide) rfl (ls' := [(2, .int (nI (n + 1))), (3, .int (nI (960 + n))), (0, .ref 58), (1, .int (nI ((psS q).length)))]) rfl ?_
          refine q_goto (tgt := 50) dX9_lead_162 (by decide) ?_
          refine q_pk [2, 3, 0] (ls' := [(0, .ref 58), (1, .int (nI ((psS q).length))), (2, .int (nI (n + 1)))]) rfl ?_
          exact ih (n + 1) _ (by omega) (f71 _) hL
    · obtain ⟨l0, l1⟩ := ld_e hn (by omega)
      obtain ⟨j, -, -, hwt⟩ := st_end hc hw hB hn (by omega)
      rw [w2] at v0
      rw [w3] at v1
      rcases (show rK (rr q n) = 4 ∨ rK (rr q n) = 5 ∨ rK (rr q n) = 6 by omega) with hk4 | hk5 | hk6
      · obtain ⟨y0, y1⟩ := w5 hk4
        obtain ⟨t0, ht0⟩ := Option.isSome_iff_exists.mp y0
        have hb0 := (hwt 0 t0 ht0).1
        rw [ht0] at v0 l0
        rw [y1] at v1 l1
        have r1 := (h2.2.2.2.1 t0 hb0).1
        rw [← nf_lt hb0] at r1
        have hxl : (XL q (n + 1)).length = (XL q n).length := by rw [hx]; unfold xs; rw [if_neg (by omega), List.append_nil]
        have hL : LKm (uI σ 71 (960 + n) (nI (nf q t0))) q (n + 1) (XL q (n + 1)).length (rW0 (rr q (n + 1))) (rW1 (rr q (n + 1))) := by
          rw [hxl]
          have := LKm_w0 (v := nI (nf q t0)) h2 hn
          refine LKm_end ?_ hn
          rw [l0, l1]
          have e0 : ldW q n 0 (some t0) = some (nf q t0) := if_neg fun z => by omega
          rw [e0]
          rw [w3, y1] at this
          exact this
        refine q_iload_n dX9_lead_50 rfl rfl ?_
        refine q_iload_n dX9_lead_51 rfl rfl ?_
        refine q_icmp_geN (tgt := 165) dX9_lead_52 (by decide) (by omega) (by omega) (fun c52 => ?_) (fun c52 => ?_)
        · exact absurd c52 (by omega)
        · skip
          refine q_sipush (v := nI 960) dX9_lead_55 rfl ?_
          refine q_iload_n dX9_lead_58 rfl rfl ?_
          refine q_iaddN dX9_lead_59 ?_
          refine q_istore_n dX9_lead_60 rfl (by decide) (ls' := [(3, .int (nI (960 + n))), (0, .ref 58), (1, .int (nI ((psS q).length))), (2, .int (nI n))]) rfl ?_
          refine q_aload_n dX9_lead_61 rfl rfl rfl ?_
          refine q_getr (r := 67) dX9_lead_62 fX9_58 rfl (ty_c hS1 (by decide) rfl) (hS1.2 58 15 67 rfl) ?_
          refine q_iload_n dX9_lead_65 rfl rfl ?_
          refine q_iald (x := nI (rK (rr q n))) (j := (960 + n)) dX9_lead_66 (ty_c hS1 (by decide) rfl) (ix_n (by omega) (by omega)) e67 ?_
          refine q_iconst (v := nI 4) dX9_lead_67 rfl ?_
          refine q_icmp_geN (tgt := 83) dX9_lead_68 (by decide) (by omega) (by omega) (fun c68 => ?_) (fun c68 => ?_)
          · skip
            refine q_aload_n dX9_lead_83 rfl rfl rfl ?_
            refine q_getr (r := 67) dX9_lead_84 fX9_58 rfl (ty_c hS1 (by decide) rfl) (hS1.2 58 15 67 rfl) ?_
            refine q_iload_n dX9_lead_87 rfl rfl ?_
            refine q_iald (x := nI (rK (rr q n))) (j := (960 + n)) dX9_lead_88 (ty_c hS1 (by decide) rfl) (ix_n (by omega) (by omega)) e67 ?_
            refine q_iconst (v := nI 4) dX9_lead_89 rfl ?_
            refine q_icmp_neN (tgt := 117) dX9_lead_90 (by decide) (by omega) (by omega) (fun c90 => ?_) (fun c90 => ?_)
            · exact absurd c90 (by omega)
            · skip
              refine q_aload_n dX9_lead_93 rfl rfl rfl ?_
              refine q_getr (r := 71) dX9_lead_94 fX9_70 rfl (ty_c hS1 (by decide) rfl) (hS1.2 58 19 71 rfl) ?_
              refine q_iload_n dX9_lead_97 rfl rfl ?_
              refine q_aload_n dX9_lead_98 rfl rfl rfl ?_
              refine q_getr (r := 65) dX9_lead_99 fX9_52 rfl (ty_c hS1 (by decide) rfl) (hS1.2 58 13 65 rfl) ?_
              refine q_sipush (v := nI 164) dX9_lead_102 rfl ?_
              refine q_aload_n dX9_lead_105 rfl rfl rfl ?_
              refine q_getr (r := 71) dX9_lead_106 fX9_70 rfl (ty_c hS1 (by decide) rfl) (hS1.2 58 19 71 rfl) ?_
              refine q_iload_n dX9_lead_109 rfl rfl ?_
              refine q_iald (x := nI t0) (j := (960 + n)) dX9_lead_110 (ty_c hS1 (by decide) rfl) (ix_n (by omega) (by omega)) v0 ?_
              refine q_iaddN dX9_lead_111 ?_
              refine q_iald (x := nI (nf q t0)) (j := (164 + t0)) dX9_lead_112 (ty_c hS1 (by decide) rfl) (ix_n (by omega) (by omega)) r1 ?_
              refine q_iast (j := (960 + n)) dX9_lead_113 (ty_c hS1 (by decide) rfl) (ix_n (by omega) (by omega)) ?_
              refine q_goto (tgt := 159) dX9_lead_114 (by decide) ?_
              refine q_iincN (c := 1) dX9_lead_159 rfl (by decide) rfl (ls' := [(2, .int (nI (n + 1))), (3, .int (nI (960 + n))), (0, .ref 58), (1, .int (nI ((psS q).length)))]) rfl ?_
              refine q_goto (tgt := 50) dX9_lead_162 (by decide) ?_
              refine q_pk [2, 3, 0] (ls' := [(0, .ref 58), (1, .int (nI ((psS q).length))), (2, .int (nI (n + 1)))]) rfl ?_
              exact ih (n + 1) _ (by omega) (f71 _) hL
          · exact absurd c68 (by omega)
      · obtain ⟨y0, y1⟩ := w6 hk5
        obtain ⟨t0, ht0⟩ := Option.isSome_iff_exists.mp y0
        obtain ⟨t1, ht1⟩ := Option.isSome_iff_exists.mp y1
        have hb0 := (hwt 0 t0 ht0).1
        have hb1 := (hwt 1 t1 ht1).1
        have x5 := xs_5 hk5 ht0 ht1
        rw [ht0] at v0 l0 l1
        rw [ht1] at v1 l1
        have hXl := XL_le hc (n := (psS q).length) (Nat.le_refl _)
        have hX1 : (XL q (n + 1)).length ≤ (XL q (psS q).length).length := by
          have := XL_mono q (n := n + 1) ((psS q).length - (n + 1))
          rw [show n + 1 + ((psS q).length - (n + 1)) = (psS q).length by omega] at this; exact this
        have hxl : (XL q (n + 1)).length = (XL q n).length + (if many q t0 = true then 1 else 0) + (if many q t1 = true then 1 else 0) := by
          rw [hx, x5, List.length_append, List.length_append]
          by_cases m0 : many q t0 = true <;> by_cases m1 : many q t1 = true <;> simp [m0, m1]
        have hm0 : many q t0 = true → (XL q (psS q).length).getD (XL q n).length 0 = t0 ∧ (psS q).length + (XL q n).length < 240 := fun m0 => by
          rw [if_pos m0] at x5 hxl
          have := XL_get (q := q) (n := n) (i := 0) hn (by rw [x5]; simp)
          rw [Nat.add_zero, x5] at this
          exact ⟨this, by omega⟩
        have hm1 : many q t1 = true → (XL q (psS q).length).getD ((XL q n).length + (if many q t0 = true then 1 else 0)) 0 = t1 ∧ (psS q).length + ((XL q n).length + (if many q t0 = true then 1 else 0)) < 240 := fun m1 => by
          rw [if_pos m1] at x5 hxl
          by_cases m0 : many q t0 = true
          · rw [if_pos m0] at x5 hxl ⊢
            have := XL_get (q := q) (n := n) (i := 1) hn (by rw [x5]; simp)
            rw [x5] at this
            exact ⟨this, by omega⟩
          · rw [if_neg m0] at x5 hxl ⊢
            have := XL_get (q := q) (n := n) (i := 0) hn (by rw [x5]; simp)
            rw [x5] at this
            exact ⟨this, by omega⟩
        have e0 : nI (thV q t0 (XL q n).length) = oW (ld q 0 n) := by rw [l0]; exact thV_ld hk5 rfl
        have e1 : nI (thV q t1 ((XL q n).length + (if many q t0 = true then 1 else 0))) = oW (ld q 1 n) := by rw [l1]; exact thV_ld hk5 rfl
        have nx : ∀ σ', FR9 ldq σ σ' → LKm σ' q n ((XL q n).length + (if many q t0 = true then 1 else 0) + (if many q t1 = true then 1 else 0)) (nI (thV q t0 (XL q n).length)) (nI (thV q t1 ((XL q n).length + (if many q t0 = true then 1 else 0)))) → WA g mX9_lead 2 0 0 Z 0 0 50 [(0, .ref 58), (1, .int (nI (psS q).length)), (2, .int (nI (n + 1)))] [] σ' := fun σ' f h => by
          refine ih (n + 1) σ' (by omega) (h1.tr f) ?_
          rw [hxl]
          rw [e0, e1] at h
          exact LKm_end h hn
        refine q_iload_n dX9_lead_50 rfl rfl ?_
        refine q_iload_n dX9_lead_51 rfl rfl ?_
        refine q_icmp_geN (tgt := 165) dX9_lead_52 (by decide) (by omega) (by omega) (fun c52 => ?_) (fun c52 => ?_)
        · exact absurd c52 (by omega)
        · skip
          refine q_sipush (v := nI 960) dX9_lead_55 rfl ?_
          refine q_iload_n dX9_lead_58 rfl rfl ?_
          refine q_iaddN dX9_lead_59 ?_
          refine q_istore_n dX9_lead_60 rfl (by decide) (ls' := [(3, .int (nI (960 + n))), (0, .ref 58), (1, .int (nI ((psS q).length))), (2, .int (nI n))]) rfl ?_
          refine q_aload_n dX9_lead_61 rfl rfl rfl ?_
          refine q_getr (r := 67) dX9_lead_62 fX9_58 rfl (ty_c hS1 (by decide) rfl) (hS1.2 58 15 67 rfl) ?_
          refine q_iload_n dX9_lead_65 rfl rfl ?_
          refine q_iald (x := nI (rK (rr q n))) (j := (960 + n)) dX9_lead_66 (ty_c hS1 (by decide) rfl) (ix_n (by omega) (by omega)) e67 ?_
          refine q_iconst (v := nI 4) dX9_lead_67 rfl ?_
          refine q_icmp_geN (tgt := 83) dX9_lead_68 (by decide) (by omega) (by omega) (fun c68 => ?_) (fun c68 => ?_)
          · skip
            refine q_aload_n dX9_lead_83 rfl rfl rfl ?_
            refine q_getr (r := 67) dX9_lead_84 fX9_58 rfl (ty_c hS1 (by decide) rfl) (hS1.2 58 15 67 rfl) ?_
            refine q_iload_n dX9_lead_87 rfl rfl ?_
            refine q_iald (x := nI (rK (rr q n))) (j := (960 + n)) dX9_lead_88 (ty_c hS1 (by decide) rfl) (ix_n (by omega) (by omega)) e67 ?_
            refine q_iconst (v := nI 4) dX9_lead_89 rfl ?_
            refine q_icmp_neN (tgt := 117) dX9_lead_90 (by decide) (by omega) (by omega) (fun c90 => ?_) (fun c90 => ?_)
            · skip
              refine q_aload_n dX9_lead_117 rfl rfl rfl ?_
              refine q_getr (r := 67) dX9_lead_118 fX9_58 rfl (ty_c hS1 (by decide) rfl) (hS1.2 58 15 67 rfl) ?_
              refine q_iload_n dX9_lead_121 rfl rfl ?_
              refine q_iald (x := nI (rK (rr q n))) (j := (960 + n)) dX9_lead_122 (ty_c hS1 (by decide) rfl) (ix_n (by omega) (by omega)) e67 ?_
              refine q_iconst (v := nI 5) dX9_lead_123 rfl ?_
              refine q_icmp_neN (tgt := 159) dX9_lead_124 (by decide) (by omega) (by omega) (fun c124 => ?_) (fun c124 => ?_)
              · exact absurd hk5 c124
              · skip
                refine q_aload_n dX9_lead_127 rfl rfl rfl ?_
                refine q_getr (r := 71) dX9_lead_128 fX9_70 rfl (ty_c hS1 (by decide) rfl) (hS1.2 58 19 71 rfl) ?_
                refine q_iload_n dX9_lead_131 rfl rfl ?_
                refine q_aload_n dX9_lead_132 rfl rfl rfl ?_
                refine q_aload_n dX9_lead_133 rfl rfl rfl ?_
                refine q_getr (r := 71) dX9_lead_134 fX9_70 rfl (ty_c hS1 (by decide) rfl) (hS1.2 58 19 71 rfl) ?_
                refine q_iload_n dX9_lead_137 rfl rfl ?_
                refine q_iald (x := nI t0) (j := (960 + n)) dX9_lead_138 (ty_c hS1 (by decide) rfl) (ix_n (by omega) (by omega)) v0 ?_
                refine q_callV (As := [.int (nI t0)]) (rest := [.int (nI (960 + n)), .ref 71]) dX9_lead_139 vX9_331 (ty_c hS1 (by decide) rfl) ⟨by decide, rfl⟩ (z9_through hS1 hc h2 hn hb0 hm0) rfl rfl (Nat.le_of_ble_eq_true rfl) (by omega) (by omega) (by omega) (k_w (fun s139 q139 => ?_))
                have u1 : sI s139 72 (960 + n) = nI t1 := (q139.1.2.2.2.2.2.2.2.2 hn).2.trans (w3.trans (by rw [ht1]; rfl))
                have zS139 : SK s139 := (SK.fq q139.2 hS1)
                refine q_iast (j := (960 + n)) dX9_lead_142 (ty_c zS139 (by decide) rfl) (ix_n (by omega) (by omega)) ?_
                refine q_aload_n dX9_lead_143 rfl rfl rfl ?_
                refine q_getr (r := 72) dX9_lead_144 fX9_73 rfl (ty_c zS139 (by decide) rfl) (zS139.2 58 20 72 rfl) ?_
                refine q_iload_n dX9_lead_147 rfl rfl ?_
                refine q_aload_n dX9_lead_148 rfl rfl rfl ?_
                refine q_aload_n dX9_lead_149 rfl rfl rfl ?_
                refine q_getr (r := 72) dX9_lead_150 fX9_73 rfl (ty_c zS139 (by decide) rfl) (zS139.2 58 20 72 rfl) ?_
                refine q_iload_n dX9_lead_153 rfl rfl ?_
                refine q_iald (x := nI t1) (j := (960 + n)) dX9_lead_154 (ty_c zS139 (by decide) rfl) (ix_n (by omega) (by omega)) (Eq.trans (rd_off (by decide)) u1) ?_
                refine q_callV (As := [.int (nI t1)]) (rest := [.int (nI (960 + n)), .ref 72]) dX9_lead_155 vX9_331 (ty_c zS139 (by decide) rfl) ⟨by decide, rfl⟩ (z9_through (σ := uI s139 71 (960 + n) (nI (thV q t0 (XL q n).length))) (SK.uI (SK.fq q139.2 hS1)) hc (LKm_w0 q139.1 hn) hn hb1 hm1) rfl rfl (Nat.le_of_ble_eq_true rfl) (by omega) (by omega) (by omega) (k_w (fun s155 q155 => ?_))
                have zS155 : SK s155 := (SK.fq q155.2 (SK.uI (SK.fq q139.2 hS1)))
                refine q_iast (j := (960 + n)) dX9_lead_158 (ty_c zS155 (by decide) rfl) (ix_n (by omega) (by omega)) ?_
                refine q_iincN (c := 1) dX9_lead_159 rfl (by decide) rfl (ls' := [(2, .int (nI (n + 1))), (3, .int (nI (960 + n))), (0, .ref 58), (1, .int (nI ((psS q).length)))]) rfl ?_
                refine q_goto (tgt := 50) dX9_lead_162 (by decide) ?_
                refine q_pk [2, 3, 0] (ls' := [(0, .ref 58), (1, .int (nI ((psS q).length))), (2, .int (nI (n + 1)))]) rfl ?_
                exact nx _ (((q139.2.uI (by unfold ldq; omega)).tr q155.2).uI (by unfold ldq; omega)) (LKm_w1 q155.1 hn)
            · exact absurd c90 (by omega)
          · exact absurd c68 (by omega)
      · obtain ⟨y0, y1⟩ := w7 hk6
        rw [y0] at l0 l1
        rw [y1] at l1
        have hxl : (XL q (n + 1)).length = (XL q n).length := by rw [hx]; unfold xs; rw [if_neg (by omega), List.append_nil]
        have hL : LKm σ q (n + 1) (XL q (n + 1)).length (rW0 (rr q (n + 1))) (rW1 (rr q (n + 1))) := by
          rw [hxl]
          refine LKm_end ?_ hn
          rw [l0, l1]
          rw [w2, w3, y0, y1] at h2
          exact h2
        refine q_iload_n dX9_lead_50 rfl rfl ?_
        refine q_iload_n dX9_lead_51 rfl rfl ?_
        refine q_icmp_geN (tgt := 165) dX9_lead_52 (by decide) (by omega) (by omega) (fun c52 => ?_) (fun c52 => ?_)
        · exact absurd c52 (by omega)
        · skip
          refine q_sipush (v := nI 960) dX9_lead_55 rfl ?_
          refine q_iload_n dX9_lead_58 rfl rfl ?_
          refine q_iaddN dX9_lead_59 ?_
          refine q_istore_n dX9_lead_60 rfl (by decide) (ls' := [(3, .int (nI (960 + n))), (0, .ref 58), (1, .int (nI ((psS q).length))), (2, .int (nI n))]) rfl ?_
          refine q_aload_n dX9_lead_61 rfl rfl rfl ?_
          refine q_getr (r := 67) dX9_lead_62 fX9_58 rfl (ty_c hS1 (by decide) rfl) (hS1.2 58 15 67 rfl) ?_
          refine q_iload_n dX9_lead_65 rfl rfl ?_
          refine q_iald (x := nI (rK (rr q n))) (j := (960 + n)) dX9_lead_66 (ty_c hS1 (by decide) rfl) (ix_n (by omega) (by omega)) e67 ?_
          refine q_iconst (v := nI 4) dX9_lead_67 rfl ?_
          refine q_icmp_geN (tgt := 83) dX9_lead_68 (by decide) (by omega) (by omega) (fun c68 => ?_) (fun c68 => ?_)
          · skip
            refine q_aload_n dX9_lead_83 rfl rfl rfl ?_
            refine q_getr (r := 67) dX9_lead_84 fX9_58 rfl (ty_c hS1 (by decide) rfl) (hS1.2 58 15 67 rfl) ?_
            refine q_iload_n dX9_lead_87 rfl rfl ?_
            refine q_iald (x := nI (rK (rr q n))) (j := (960 + n)) dX9_lead_88 (ty_c hS1 (by decide) rfl) (ix_n (by omega) (by omega)) e67 ?_
            refine q_iconst (v := nI 4) dX9_lead_89 rfl ?_
            refine q_icmp_neN (tgt := 117) dX9_lead_90 (by decide) (by omega) (by omega) (fun c90 => ?_) (fun c90 => ?_)
            · skip
              refine q_aload_n dX9_lead_117 rfl rfl rfl ?_
              refine q_getr (r := 67) dX9_lead_118 fX9_58 rfl (ty_c hS1 (by decide) rfl) (hS1.2 58 15 67 rfl) ?_
              refine q_iload_n dX9_lead_121 rfl rfl ?_
              refine q_iald (x := nI (rK (rr q n))) (j := (960 + n)) dX9_lead_122 (ty_c hS1 (by decide) rfl) (ix_n (by omega) (by omega)) e67 ?_
              refine q_iconst (v := nI 5) dX9_lead_123 rfl ?_
              refine q_icmp_neN (tgt := 159) dX9_lead_124 (by decide) (by omega) (by omega) (fun c124 => ?_) (fun c124 => ?_)
              · skip
                refine q_iincN (c := 1) dX9_lead_159 rfl (by decide) rfl (ls' := [(2, .int (nI (n + 1))), (3, .int (nI (960 + n))), (0, .ref 58), (1, .int (nI ((psS q).length)))]) rfl ?_
                refine q_goto (tgt := 50) dX9_lead_162 (by decide) ?_
                refine q_pk [2, 3, 0] (ls' := [(0, .ref 58), (1, .int (nI ((psS q).length))), (2, .int (nI (n + 1)))]) rfl ?_
                exact ih (n + 1) σ (by omega) h1 hL
              · exact absurd c124 (by omega)
            · exact absurd c90 (by omega)
          · exact absurd c68 (by omega)
theorem z9_lead (hM : MPS σ q) (hS : SK σ) (hc : BC q) (hw : WFs q) (hB : NB q) (h0 : 0 < (psF q).length) (hx : psX q = false) : CT g mX9_lead 2 0 0 [.ref 58] σ (fun r σ' => r = none ∧ FR9 ldq σ σ' ∧ ∃ l0 l1, LKm σ' q (psS q).length (XL q (psS q).length).length l0 l1) := by
  obtain ⟨m1, m2, m3, m4, -, -, -⟩ := id hM
  have f63 : FR9 ldq σ (uI σ 63 4 (nI (psS q).length)) := FR9.rf.uI (by unfold ldq; omega)
  have hM' : MPS (uI σ 63 4 (nI (psS q).length)) q := by
    obtain ⟨k1, k2, k3, k4, k5, k6, k7⟩ := hM
    exact ⟨(rd_off (by omega)).trans k1, (rd_off (by omega)).trans k2, (fun i hi => ⟨(k3 i hi).1.cp fun a a1 a2 => rd_off (by omega), fun hx => (rd_off (by omega)).trans ((k3 i hi).2 hx)⟩), fun j hj => ⟨(rd_off (by omega)).trans (k4 j hj).1, (rd_off (by omega)).trans (k4 j hj).2⟩, k5.off (by omega), (rd_off (by omega)).trans k6, k7.off (by omega)⟩
  have hS' : SK (uI σ 63 4 (nI (psS q).length)) := SK.uI hS
  have h160 := hc.2.2.1
  have nx : ∀ σ', FR9 (fun h _ => h = 87) (uI σ 63 4 (nI (psS q).length)) σ' → (∀ b, b < (psF q).length → sI σ' 87 b = nI (cntW q b (psF q).length)) → WA g mX9_lead 2 0 0 (ZM g (fun r σ' => r = none ∧ FR9 ldq σ σ' ∧ ∃ l0 l1, LKm σ' q (psS q).length (XL q (psS q).length).length l0 l1) 0 0) 0 0 41 [(0, .ref 58)] [] σ' := fun σ' f r => by
    have fl : FR9 ldq σ σ' := f63.tr (f.mono fun a i z => by unfold ldq; omega)
    have o : ∀ a i, a ≠ 87 → sI σ' a i = sI (uI σ 63 4 (nI (psS q).length)) a i := fun a i ha => f.2.2.2 a i ha
    have h62 : sI σ' 62 4 = nI (psS q).length := (o _ _ (by omega)).trans ((rd_off (by omega)).trans m2)
    have hL : LKm σ' q 0 (XL q 0).length (rW0 (rr q 0)) (rW1 (rr q 0)) := by
      obtain ⟨k1, k2, k3, k4, k5, k6, k7⟩ := hM'
      have nd : ∀ i, i < (psS q).length → ND σ' (960 + i) (rr q i) := fun i hi => (k3 i hi).1.cp fun a a1 a2 => o a _ (by omega)
      refine ⟨(o _ _ (by omega)).trans k1, h62, (o _ _ (by omega)).trans uI_self, fun j hj => ⟨(o _ _ (by omega)).trans (k4 j hj).1, (o _ _ (by omega)).trans (k4 j hj).2⟩, r, fun i hi => ?_, fun i hi => ?_, fun i g1 g2 => ⟨(nd i g2).2.2.2.1, (nd i g2).2.2.2.2.1⟩, fun g2 => ⟨(nd 0 g2).2.2.2.1, (nd 0 g2).2.2.2.2.1⟩⟩
      · have hi : i < (psS q).length + 0 := hi
        have eg : rg q i = rr q i := if_pos (by omega)
        rw [eg]
        exact (nd i (by omega)).ne ((o _ _ (by omega)).trans ((k3 i (by omega)).2 hx))
      · have hi : i < 0 ∨ ((psS q).length ≤ i ∧ i < (psS q).length + 0) := hi
        exact absurd hi (by omega)
    have go := y9_lead50 (g := g) (Z := ZM g (fun r σ' => r = none ∧ FR9 ldq σ σ' ∧ ∃ l0 l1, LKm σ' q (psS q).length (XL q (psS q).length).length l0 l1) 0 0) (SK.fq fl hS) hc hw hB (fun σ2 l0 l1 f2 h2 => by
      have hS2 := SK.fq f2 (SK.fq fl hS)
      have ff := fl.tr f2
      refine q_return dX9_lead_165 rfl (by omega) (by omega) ?_
      exact ⟨rfl, ff, l0, l1, h2⟩
      ) (psS q).length 0 σ' (by omega) FR9.rf hL
    refine q_aload_n dX9_lead_41 rfl rfl rfl ?_
    refine q_getr (r := 62) dX9_lead_42 fX9_43 rfl (ty_c (SK.fq fl hS) (by decide) rfl) ((SK.fq fl hS).2 58 10 62 rfl) ?_
    refine q_iconst (v := nI 4) dX9_lead_45 rfl ?_
    refine q_iald (x := nI ((psS q).length)) (j := 4) dX9_lead_46 (ty_c (SK.fq fl hS) (by decide) rfl) (ix_n (by omega) (by omega)) h62 ?_
    refine q_istore_n dX9_lead_47 rfl (by decide) (ls' := [(1, .int (nI ((psS q).length))), (0, .ref 58)]) rfl ?_
    refine q_iconst (v := nI 0) dX9_lead_48 rfl ?_
    refine q_istore_n dX9_lead_49 rfl (by decide) (ls' := [(2, .int (nI 0)), (1, .int (nI ((psS q).length))), (0, .ref 58)]) rfl ?_
    refine q_pk [2, 1, 0] (ls' := [(0, .ref 58), (1, .int (nI ((psS q).length))), (2, .int (nI 0))]) rfl ?_
    exact go
  refine CT.of (by decide) (Nat.le_of_ble_eq_true rfl) ?_
  refine q_aload_n dX9_lead_0 rfl rfl rfl ?_
  refine q_getr (r := 63) dX9_lead_1 fX9_46 rfl (ty_c hS (by decide) rfl) (hS.2 58 11 63 rfl) ?_
  refine q_iconst (v := nI 4) dX9_lead_4 rfl ?_
  refine q_aload_n dX9_lead_5 rfl rfl rfl ?_
  refine q_getr (r := 62) dX9_lead_6 fX9_43 rfl (ty_c hS (by decide) rfl) (hS.2 58 10 62 rfl) ?_
  refine q_iconst (v := nI 4) dX9_lead_9 rfl ?_
  refine q_iald (x := nI ((psS q).length)) (j := 4) dX9_lead_10 (ty_c hS (by decide) rfl) (ix_n (by omega) (by omega)) m2 ?_
  refine q_iast (j := 4) dX9_lead_11 (ty_c hS (by decide) rfl) (ix_n (by omega) (by omega)) ?_
  refine q_iconst (v := nI 0) dX9_lead_12 rfl ?_
  refine q_istore_n dX9_lead_13 rfl (by decide) (ls' := [(1, .int (nI 0)), (0, .ref 58)]) rfl ?_
  refine q_pk [1, 0] (ls' := [(0, .ref 58), (1, .int (nI 0))]) rfl ?_
  exact y9_lead14 hM' hS' hc hw nx (psF q).length 0 _ (by omega) FR9.rf (fun b hb => absurd hb (by omega))
end MLE
