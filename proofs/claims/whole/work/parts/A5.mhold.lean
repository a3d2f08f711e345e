/-! The model: KILLS, SEEN, what holds of a NODE. -/
noncomputable def dcd (P : Prop) : Bool := @decide P (Classical.propDecidable P)
theorem dcd_t {P : Prop} : dcd P = true ↔ P := by unfold dcd; exact @decide_eq_true_iff _ (Classical.propDecidable _)
theorem dcd_f {P : Prop} : dcd P = false ↔ ¬ P := by unfold dcd; exact @decide_eq_false_iff_not _ (Classical.propDecidable _)
theorem dcd_e {P R : Prop} (h : P ↔ R) : dcd P = dcd R := by
  cases z : dcd R
  · exact dcd_f.mpr fun y => dcd_f.mp z (h.mp y)
  · exact dcd_t.mpr (h.mpr (dcd_t.mp z))
theorem dcd_b {b : Bool} : dcd (b = true) = b := by
  cases b
  · exact dcd_f.mpr (by decide)
  · exact dcd_t.mpr rfl
theorem ct_dcd {g : GG} {M : MI} {d mc ms : Nat} {as : List Value} {σ : HS} {P : Prop} (h : CT g M d mc ms as σ (fun r σ' => ∃ b, r = some (.int (bi b)) ∧ (σ' = σ ∧ (b = true ↔ P)))) : CT g M d mc ms as σ (PQ σ (.int (bi (dcd P)))) := by
  refine CT.mono ?_ h
  rintro r σ' ⟨b, h1, h2, h3⟩
  refine ⟨h2, h1.trans ?_⟩
  have : b = dcd P := by
    cases b
    · exact (dcd_f.mpr fun z => by have := h3.mpr z; cases this).symm
    · exact (dcd_t.mpr (h3.mp rfl)).symm
  rw [this]
theorem rg_t {q : PS} (hw : WFs q) {n : Nat} : (rK (rg q n) ≤ 1 → ∃ nm, nm < 48 ∧ rT (rg q n) = nI nm) ∧ (rK (rg q n) = 2 → ∃ w, w < 2 ∧ rT (rg q n) = nI w) := by
  unfold rg
  by_cases h : n < (psS q).length
  · rw [if_pos h]
    obtain ⟨⟨-, h2, -⟩, -⟩ := hw.1 _ (rr_mem (q := q) h)
    refine ⟨fun z => ?_, fun z => ?_⟩
    · rcases h2 with ⟨_, h⟩ | ⟨h1, _⟩ | ⟨h1, _⟩
      · exact h
      · omega
      · omega
    · rcases h2 with ⟨h1, _⟩ | ⟨_, h⟩ | ⟨h1, _⟩
      · omega
      · exact h
      · omega
  · rw [if_neg h]
    exact ⟨fun z => absurd z (by show ¬ (7 ≤ 1); omega), fun z => absurd z (by show ¬ (7 = 2); omega)⟩
theorem m1_nI {n : Nat} (h : n < 1000) : ¬ (-1 : Int32) = nI n := fun z => nI_ne_m1 (by omega) z.symm
theorem opn_iff {o : Int32} (ho : OPD o) {nm : Nat} (h : nm < 48) : opn o = nI nm ↔ o = nI (1000000000 + nm) := by
  rcases ho with ⟨v, h1, rfl⟩ | ⟨v, h1, rfl⟩ | ⟨v, h1, rfl⟩
  · rw [(opn_n h1).1]
    exact ⟨fun z => absurd z (m1_nI (by omega)), fun z => by have := nI_inj (by omega) (by omega) z; omega⟩
  · rw [(opn_m h1).1]
    refine ⟨fun z => absurd z (m1_nI (by omega)), fun z => ?_⟩
    have h2 := (opV_m (nm := fun _ => 0) h1).1
    rw [z] at h2
    exact absurd ((nI_leI (by omega) (by omega)).mpr (by omega)) h2
  · rw [(opn_nm (by omega)).1]
    exact ⟨fun z => by rw [nI_inj (by omega) (by omega) z], fun z => by have := nI_inj (by omega) (by omega) z; congr 1; omega⟩
theorem sAv_r {x : SUM} (h : x.1 = nI 114) : sAv x = x.2.1 := if_pos h
theorem sAn_iff {x : SUM} (hx : SMW x) {nm : Nat} (h : nm < 48) : sAn x = nI nm ↔ x.2.1 = nI (1000000000 + nm) := by
  unfold sAn
  rcases hx with ⟨h1, h2, h3⟩ | ⟨h1, ⟨w, w1, w2⟩, h3⟩
  · rw [if_neg (isO_r h1)]; exact opn_iff h2 h
  · rw [if_pos h1, w2]
    exact ⟨fun z => absurd z (m1_nI (by omega)), fun z => by have := nI_inj (by omega) (by omega) z; omega⟩
theorem sBn_iff {x : SUM} (hx : SMW x) {nm : Nat} (h : nm < 48) : opn x.2.2 = nI nm ↔ x.2.2 = nI (1000000000 + nm) := by
  rcases hx with ⟨_, _, h3⟩ | ⟨_, _, h3⟩ <;> exact opn_iff h3 h
theorem hasN_d {x : SUM} (hx : SMW x) {nm : Nat} (h : nm < 48) : hasN nm x = (decide (sAn x = nI nm) || decide (opn x.2.2 = nI nm)) := by
  unfold hasN
  rw [decide_eq_decide.mpr (sAn_iff hx h), decide_eq_decide.mpr (sBn_iff hx h)]
theorem ld_6 {q : PS} (hw : WFs q) {n : Nat} (h : rK (rg q n) = 6) : ld q 0 n = none ∧ ld q 1 n = none := by
  by_cases e : n < (psS q).length
  · have er : rg q n = rr q n := if_pos e
    rw [er] at h
    obtain ⟨-, -, -, -, -, -, g7⟩ := st_w hw e
    obtain ⟨a, b⟩ := g7 h
    unfold ld
    have h4 : ¬ rK (rr q n) < 4 := by omega
    rw [if_pos e, if_pos e, if_neg h4, if_neg h4, if_pos rfl, if_neg (by decide), a, b]
    exact ⟨rfl, rfl⟩
  · have er : rg q n = _ := if_neg e
    rw [er] at h
    exact absurd h (by show ¬ (7 = 6); omega)
theorem alN_6 {q : PS} (hw : WFs q) {v : Nat → Bool} {n : Nat} (h : rK (rg q n) = 6) : alN q v n = false := by
  unfold alN; rw [(ld_6 hw h).1]; rfl
theorem sn_0 {q : PS} {n e : Nat} (h0 : rK (rg q n) = 0) (he : e < (psM q).length) (h32 : (psM q).length ≤ 32) (h : rS (rg q n) = nI e) : sn q n = bo q e := by
  unfold sn
  rw [h0, decide_eq_false (by omega : ¬ 0 = 3), decide_eq_false (by omega : ¬ 0 = 2), Bool.false_or, Bool.false_or]
  have key : ∀ i, i < (psM q).length → wk q i n = decide (i = e) := fun i hi => by
    unfold wk; rw [h]
    by_cases z : i = e
    · rw [z, decide_eq_true rfl, decide_eq_true rfl]
    · rw [decide_eq_false z, decide_eq_false fun y => z (nI_inj (by omega) (by omega) y).symm]
  cases hb : bo q e
  · cases hz : (List.range (psM q).length).any (fun i => wk q i n && bo q i)
    · rfl
    · obtain ⟨i, h1, h2⟩ := List.any_eq_true.mp hz
      rw [key i (List.mem_range.mp h1), Bool.and_eq_true] at h2
      have := of_decide_eq_true h2.1
      rw [this, hb] at h2
      exact absurd h2.2 (by decide)
  · exact List.any_eq_true.mpr ⟨e, List.mem_range.mpr he, by rw [key e he, hb]; simp⟩
theorem sn_1 {q : PS} {n : Nat} (h2 : rK (rg q n) ≠ 2) (h3 : rK (rg q n) ≠ 3) (h32 : (psM q).length ≤ 32) (h : rS (rg q n) = -1) : sn q n = false := by
  unfold sn
  rw [decide_eq_false h3, decide_eq_false h2, Bool.false_or, Bool.false_or]
  cases hz : (List.range (psM q).length).any (fun i => wk q i n && bo q i)
  · rfl
  · obtain ⟨i, h1, h2⟩ := List.any_eq_true.mp hz
    unfold wk at h2
    rw [h, Bool.and_eq_true] at h2
    exact absurd (of_decide_eq_true h2.1) (m1_nI (by have := List.mem_range.mp h1; omega))
section MHO
variable {g : GG} {σ : HS} {q : PS} {F N : Nat} {v : Nat → Nat → Bool}
theorem mrs (h : MR0 σ 4 q) {e : Nat} (he : e < (psM q).length) : SMm σ (128 + e) (sm q e) := h.2.2.2.2.2.2 e he
theorem z9_bold4 (hS : SK σ) (hR : MR0 σ 4 q) (hw : WFs q) {e : Nat} (he : e < (psM q).length) : CT g mX9_isBold 0 0 0 [.ref 58, .int (nI 4), .int (nI e)] σ (PQ σ (.int (bi (bo q e)))) := by
  have h32 := hw.2.2.2.1
  exact z9_isBold hS (p := 4) (by omega) (by omega) (mrs hR he)
theorem z9_kills (hS : SK σ) (hR : MR0 σ 4 q) (hc : BC q) (hw : WFs q) {k e : Nat} (hk : k < NN q) (he : e < (psM q).length) : CT g mX9_kills 0 0 0 [.ref 58, .int (nI (960 + k)), .int (nI e)] σ (PQ σ (.int (bi (kl q e k)))) := by
  have hN := NN_le hc
  have h32 := hw.2.2.2.1
  obtain ⟨⟨n1, n2, n3, n4, n5, n6, n7⟩, -, -⟩ := mrn hR hk
  obtain ⟨s1, s2, s3, s4, s5⟩ := mrs hR he
  obtain ⟨t1, t2⟩ := rg_t hw (n := k)
  have hx : SMW (sm q e) := sm_w hw he
  have hk7 : rK (rg q k) ≤ 7 := by
    by_cases e : k < (psS q).length
    · rw [show rg q k = rr q k from if_pos e]; have := (st_w hw e).1; omega
    · rw [show rg q k = _ from if_neg e]; exact Nat.le_refl _
  unfold kl klT
  by_cases h2 : rK (rg q k) = 2
  · obtain ⟨w, w1, w2⟩ := t2 h2
    have r77 := (n7 h2).trans w2
    have ew : (rT (rg q k)).toNatClampNeg = w := by rw [w2]; exact nI_clamp (by omega)
    rw [if_neg (by omega), if_pos h2, ew]
    refine CT.of (by decide) (Nat.le_of_ble_eq_true rfl) ?_
    refine q_sipush (v := nI 128) dX9_kills_0 rfl ?_
    refine q_iload_n dX9_kills_3 rfl rfl ?_
    refine q_iaddN dX9_kills_4 ?_
    refine q_istore_n dX9_kills_5 rfl (by decide) (ls' := [(3, .int (nI (128 + e))), (0, .ref 58), (1, .int (nI (960 + k))), (2, .int (nI e))]) rfl ?_
    refine q_aload_n dX9_kills_6 rfl rfl rfl ?_
    refine q_getr (r := 67) dX9_kills_7 fX9_58 rfl (ty_c hS (by decide) rfl) (hS.2 58 15 67 rfl) ?_
    refine q_iload_n dX9_kills_10 rfl rfl ?_
    refine q_iald (x := nI (rK (rg q k))) (j := (960 + k)) dX9_kills_11 (ty_c hS (by decide) rfl) (ix_n (by omega) (by omega)) n1 ?_
    refine q_iconst (v := nI 2) dX9_kills_12 rfl ?_
    refine q_icmp_neN (tgt := 48) dX9_kills_13 (by decide) (by omega) (by omega) (fun c13 => ?_) (fun c13 => ?_)
    · exact absurd h2 c13
    · skip
      refine q_aload_n dX9_kills_16 rfl rfl rfl ?_
      refine q_getr (r := 78) dX9_kills_17 fX9_91 rfl (ty_c hS (by decide) rfl) (hS.2 58 26 78 rfl) ?_
      refine q_iload_n dX9_kills_20 rfl rfl ?_
      refine q_iald (x := (sm q e).1) (j := (128 + e)) dX9_kills_21 (ty_c hS (by decide) rfl) (ix_n (by omega) (by omega)) s1 ?_
      refine q_bipush (v := nI 114) dX9_kills_22 rfl ?_
      refine q_icmp_ne (tgt := 46) dX9_kills_24 (by decide) (fun c24 => ?_) (fun c24 => ?_)
      · skip
        refine q_iconst (v := nI 0) dX9_kills_46 rfl ?_
        refine q_ireturn dX9_kills_47 rfl rfl (by omega) (by omega) ?_
        first | exact fin_t (by unfold ofR; rw [decide_eq_true c24, decide_eq_true ((sAv_r c24).symm.trans c39)]; rfl) | exact fin_f (by unfold ofR; rw [decide_eq_false (fun z => c39 ((sAv_r c24).trans z)), Bool.and_false]) | exact fin_f (by unfold ofR; rw [decide_eq_false c24]; rfl)
      · skip
        refine q_aload_n dX9_kills_27 rfl rfl rfl ?_
        refine q_getr (r := 80) dX9_kills_28 fX9_97 rfl (ty_c hS (by decide) rfl) (hS.2 58 28 80 rfl) ?_
        refine q_iload_n dX9_kills_31 rfl rfl ?_
        refine q_iald (x := sAv (sm q e)) (j := (128 + e)) dX9_kills_32 (ty_c hS (by decide) rfl) (ix_n (by omega) (by omega)) s3 ?_
        refine q_aload_n dX9_kills_33 rfl rfl rfl ?_
        refine q_getr (r := 77) dX9_kills_34 fX9_88 rfl (ty_c hS (by decide) rfl) (hS.2 58 25 77 rfl) ?_
        refine q_iload_n dX9_kills_37 rfl rfl ?_
        refine q_iald (x := nI w) (j := (960 + k)) dX9_kills_38 (ty_c hS (by decide) rfl) (ix_n (by omega) (by omega)) r77 ?_
        refine q_icmp_ne (tgt := 46) dX9_kills_39 (by decide) (fun c39 => ?_) (fun c39 => ?_)
        · skip
          refine q_iconst (v := nI 0) dX9_kills_46 rfl ?_
          refine q_ireturn dX9_kills_47 rfl rfl (by omega) (by omega) ?_
          first | exact fin_t (by unfold ofR; rw [decide_eq_true c24, decide_eq_true ((sAv_r c24).symm.trans c39)]; rfl) | exact fin_f (by unfold ofR; rw [decide_eq_false (fun z => c39 ((sAv_r c24).trans z)), Bool.and_false]) | exact fin_f (by unfold ofR; rw [decide_eq_false c24]; rfl)
        · skip
          refine q_iconst (v := nI 1) dX9_kills_42 rfl ?_
          refine q_goto (tgt := 47) dX9_kills_43 (by decide) ?_
          refine q_ireturn dX9_kills_47 rfl rfl (by omega) (by omega) ?_
          first | exact fin_t (by unfold ofR; rw [decide_eq_true c24, decide_eq_true ((sAv_r c24).symm.trans c39)]; rfl) | exact fin_f (by unfold ofR; rw [decide_eq_false (fun z => c39 ((sAv_r c24).trans z)), Bool.and_false]) | exact fin_f (by unfold ofR; rw [decide_eq_false c24]; rfl)
  · by_cases h1 : rK (rg q k) ≤ 1
    · obtain ⟨nm, m1, m2⟩ := t1 h1
      have r69 : sI σ 69 (960 + k) = nI nm := by rw [n3, if_pos h1]; exact m2
      have ew : (rT (rg q k)).toNatClampNeg = nm := by rw [m2]; exact nI_clamp (by omega)
      rw [if_pos h1, ew, hasN_d hx m1]
      refine CT.of (by decide) (Nat.le_of_ble_eq_true rfl) ?_
      refine q_sipush (v := nI 128) dX9_kills_0 rfl ?_
      refine q_iload_n dX9_kills_3 rfl rfl ?_
      refine q_iaddN dX9_kills_4 ?_
      refine q_istore_n dX9_kills_5 rfl (by decide) (ls' := [(3, .int (nI (128 + e))), (0, .ref 58), (1, .int (nI (960 + k))), (2, .int (nI e))]) rfl ?_
      refine q_aload_n dX9_kills_6 rfl rfl rfl ?_
      refine q_getr (r := 67) dX9_kills_7 fX9_58 rfl (ty_c hS (by decide) rfl) (hS.2 58 15 67 rfl) ?_
      refine q_iload_n dX9_kills_10 rfl rfl ?_
      refine q_iald (x := nI (rK (rg q k))) (j := (960 + k)) dX9_kills_11 (ty_c hS (by decide) rfl) (ix_n (by omega) (by omega)) n1 ?_
      refine q_iconst (v := nI 2) dX9_kills_12 rfl ?_
      refine q_icmp_neN (tgt := 48) dX9_kills_13 (by decide) (by omega) (by omega) (fun c13 => ?_) (fun c13 => ?_)
      · skip
        refine q_aload_n dX9_kills_48 rfl rfl rfl ?_
        refine q_getr (r := 69) dX9_kills_49 fX9_64 rfl (ty_c hS (by decide) rfl) (hS.2 58 17 69 rfl) ?_
        refine q_iload_n dX9_kills_52 rfl rfl ?_
        refine q_iald (x := nI nm) (j := (960 + k)) dX9_kills_53 (ty_c hS (by decide) rfl) (ix_n (by omega) (by omega)) r69 ?_
        refine q_if_ltN (tgt := 91) dX9_kills_54 (by decide) (by omega) ?_
        refine q_aload_n dX9_kills_57 rfl rfl rfl ?_
        refine q_getr (r := 79) dX9_kills_58 fX9_94 rfl (ty_c hS (by decide) rfl) (hS.2 58 27 79 rfl) ?_
        refine q_iload_n dX9_kills_61 rfl rfl ?_
        refine q_iald (x := sAn (sm q e)) (j := (128 + e)) dX9_kills_62 (ty_c hS (by decide) rfl) (ix_n (by omega) (by omega)) s2 ?_
        refine q_aload_n dX9_kills_63 rfl rfl rfl ?_
        refine q_getr (r := 69) dX9_kills_64 fX9_64 rfl (ty_c hS (by decide) rfl) (hS.2 58 17 69 rfl) ?_
        refine q_iload_n dX9_kills_67 rfl rfl ?_
        refine q_iald (x := nI nm) (j := (960 + k)) dX9_kills_68 (ty_c hS (by decide) rfl) (ix_n (by omega) (by omega)) r69 ?_
        refine q_icmp_eq (tgt := 87) dX9_kills_69 (by decide) (fun c69 => ?_) (fun c69 => ?_)
        · skip
          refine q_iconst (v := nI 1) dX9_kills_87 rfl ?_
          refine q_goto (tgt := 92) dX9_kills_88 (by decide) ?_
          refine q_ireturn dX9_kills_92 rfl rfl (by omega) (by omega) ?_
          first | exact fin_t (by rw [decide_eq_true c69]; rfl) | exact fin_t (by rw [decide_eq_true c84, Bool.or_true]) | exact fin_f (by rw [decide_eq_false c69, decide_eq_false c84]; rfl)
        · skip
          refine q_aload_n dX9_kills_72 rfl rfl rfl ?_
          refine q_getr (r := 81) dX9_kills_73 fX9_100 rfl (ty_c hS (by decide) rfl) (hS.2 58 29 81 rfl) ?_
          refine q_iload_n dX9_kills_76 rfl rfl ?_
          refine q_iald (x := opn (sm q e).2.2) (j := (128 + e)) dX9_kills_77 (ty_c hS (by decide) rfl) (ix_n (by omega) (by omega)) s4 ?_
          refine q_aload_n dX9_kills_78 rfl rfl rfl ?_
          refine q_getr (r := 69) dX9_kills_79 fX9_64 rfl (ty_c hS (by decide) rfl) (hS.2 58 17 69 rfl) ?_
          refine q_iload_n dX9_kills_82 rfl rfl ?_
          refine q_iald (x := nI nm) (j := (960 + k)) dX9_kills_83 (ty_c hS (by decide) rfl) (ix_n (by omega) (by omega)) r69 ?_
          refine q_icmp_ne (tgt := 91) dX9_kills_84 (by decide) (fun c84 => ?_) (fun c84 => ?_)
          · skip
            refine q_iconst (v := nI 0) dX9_kills_91 rfl ?_
            refine q_ireturn dX9_kills_92 rfl rfl (by omega) (by omega) ?_
            first | exact fin_t (by rw [decide_eq_true c69]; rfl) | exact fin_t (by rw [decide_eq_true c84, Bool.or_true]) | exact fin_f (by rw [decide_eq_false c69, decide_eq_false c84]; rfl)
          · skip
            refine q_iconst (v := nI 1) dX9_kills_87 rfl ?_
            refine q_goto (tgt := 92) dX9_kills_88 (by decide) ?_
            refine q_ireturn dX9_kills_92 rfl rfl (by omega) (by omega) ?_
            first | exact fin_t (by rw [decide_eq_true c69]; rfl) | exact fin_t (by rw [decide_eq_true c84, Bool.or_true]) | exact fin_f (by rw [decide_eq_false c69, decide_eq_false c84]; rfl)
      · exact absurd c13 h2
    · have r69 : sI σ 69 (960 + k) = -1 := by rw [n3, if_neg h1]
      rw [if_neg h1, if_neg h2]
      refine CT.of (by decide) (Nat.le_of_ble_eq_true rfl) ?_
      refine q_sipush (v := nI 128) dX9_kills_0 rfl ?_
      refine q_iload_n dX9_kills_3 rfl rfl ?_
      refine q_iaddN dX9_kills_4 ?_
      refine q_istore_n dX9_kills_5 rfl (by decide) (ls' := [(3, .int (nI (128 + e))), (0, .ref 58), (1, .int (nI (960 + k))), (2, .int (nI e))]) rfl ?_
      refine q_aload_n dX9_kills_6 rfl rfl rfl ?_
      refine q_getr (r := 67) dX9_kills_7 fX9_58 rfl (ty_c hS (by decide) rfl) (hS.2 58 15 67 rfl) ?_
      refine q_iload_n dX9_kills_10 rfl rfl ?_
      refine q_iald (x := nI (rK (rg q k))) (j := (960 + k)) dX9_kills_11 (ty_c hS (by decide) rfl) (ix_n (by omega) (by omega)) n1 ?_
      refine q_iconst (v := nI 2) dX9_kills_12 rfl ?_
      refine q_icmp_neN (tgt := 48) dX9_kills_13 (by decide) (by omega) (by omega) (fun c13 => ?_) (fun c13 => ?_)
      · skip
        refine q_aload_n dX9_kills_48 rfl rfl rfl ?_
        refine q_getr (r := 69) dX9_kills_49 fX9_64 rfl (ty_c hS (by decide) rfl) (hS.2 58 17 69 rfl) ?_
        refine q_iload_n dX9_kills_52 rfl rfl ?_
        refine q_iald (x := (-1)) (j := (960 + k)) dX9_kills_53 (ty_c hS (by decide) rfl) (ix_n (by omega) (by omega)) r69 ?_
        refine q_if_lt1 (tgt := 91) dX9_kills_54 (by decide) (by decide) ?_
        refine q_iconst (v := nI 0) dX9_kills_91 rfl ?_
        refine q_ireturn dX9_kills_92 rfl rfl (by omega) (by omega) ?_
        exact ⟨rfl, rfl⟩
      · exact absurd c13 h2
theorem z9_isSeen (hS : SK σ) (hR : MR0 σ 4 q) (hc : BC q) (hw : WFs q) (hx : psX q = false) {k : Nat} (hk : k < NN q) : CT g mX9_isSeen 1 0 0 [.ref 58, .int (nI (960 + k))] σ (PQ σ (.int (bi (sn q k)))) := by
  have hN := NN_le hc
  have h32 := hw.2.2.2.1
  obtain ⟨⟨n1, n2, n3, n4, n5, n6, n7⟩, -, -⟩ := mrn hR hk
  rcases rg_cases hw hx hk with ⟨k0, -, e, he, h70⟩ | ⟨k1, -, h70⟩ | ⟨k2, -, h70⟩ | ⟨k3, k7, -, h70⟩
  · rw [k0] at n1
    have r70 := n4.trans h70
    rw [sn_0 k0 he h32 h70]
    refine CT.of (by decide) (Nat.le_of_ble_eq_true rfl) ?_
    refine q_aload_n dX9_isSeen_0 rfl rfl rfl ?_
    refine q_getr (r := 67) dX9_isSeen_1 fX9_58 rfl (ty_c hS (by decide) rfl) (hS.2 58 15 67 rfl) ?_
    refine q_iload_n dX9_isSeen_4 rfl rfl ?_
    refine q_iald (x := nI 0) (j := (960 + k)) dX9_isSeen_5 (ty_c hS (by decide) rfl) (ix_n (by omega) (by omega)) n1 ?_
    refine q_iconst (v := nI 3) dX9_isSeen_6 rfl ?_
    refine q_icmp_eqN (tgt := 43) dX9_isSeen_7 (by decide) (by omega) (by omega) (fun h => absurd h (by decide)) (fun _ => ?_)
    refine q_aload_n dX9_isSeen_10 rfl rfl rfl ?_
    refine q_getr (r := 67) dX9_isSeen_11 fX9_58 rfl (ty_c hS (by decide) rfl) (hS.2 58 15 67 rfl) ?_
    refine q_iload_n dX9_isSeen_14 rfl rfl ?_
    refine q_iald (x := nI 0) (j := (960 + k)) dX9_isSeen_15 (ty_c hS (by decide) rfl) (ix_n (by omega) (by omega)) n1 ?_
    refine q_iconst (v := nI 2) dX9_isSeen_16 rfl ?_
    refine q_icmp_eqN (tgt := 43) dX9_isSeen_17 (by decide) (by omega) (by omega) (fun h => absurd h (by decide)) (fun _ => ?_)
    refine q_aload_n dX9_isSeen_20 rfl rfl rfl ?_
    refine q_getr (r := 67) dX9_isSeen_21 fX9_58 rfl (ty_c hS (by decide) rfl) (hS.2 58 15 67 rfl) ?_
    refine q_iload_n dX9_isSeen_24 rfl rfl ?_
    refine q_iald (x := nI 0) (j := (960 + k)) dX9_isSeen_25 (ty_c hS (by decide) rfl) (ix_n (by omega) (by omega)) n1 ?_
    refine q_if_neN (tgt := 47) dX9_isSeen_26 (by decide) (by omega) (fun h => absurd h (by decide)) (fun _ => ?_)
    refine q_aload_n dX9_isSeen_29 rfl rfl rfl ?_
    refine q_iconst (v := nI 4) dX9_isSeen_30 rfl ?_
    refine q_aload_n dX9_isSeen_31 rfl rfl rfl ?_
    refine q_getr (r := 70) dX9_isSeen_32 fX9_67 rfl (ty_c hS (by decide) rfl) (hS.2 58 18 70 rfl) ?_
    refine q_iload_n dX9_isSeen_35 rfl rfl ?_
    refine q_iald (x := nI e) (j := (960 + k)) dX9_isSeen_36 (ty_c hS (by decide) rfl) (ix_n (by omega) (by omega)) r70 ?_
    refine q_callV (As := [.int (nI 4), .int (nI e)]) (rest := []) dX9_isSeen_37 vX9_334 (ty_c hS (by decide) rfl) ⟨by decide, rfl⟩ (z9_bold4 hS hR hw he) rfl rfl (Nat.le_of_ble_eq_true rfl) (by omega) (by omega) (by omega) (k_p ?_)
    refine q_if_eqB (tgt := 47) dX9_isSeen_40 (by decide) (fun c40 => ?_) (fun c40 => ?_)
    · skip
      refine q_iconst (v := nI 0) dX9_isSeen_47 rfl ?_
      refine q_ireturn dX9_isSeen_48 rfl rfl (by omega) (by omega) ?_
      first | exact fin_t c40 | exact fin_f c40
    · skip
      refine q_iconst (v := nI 1) dX9_isSeen_43 rfl ?_
      refine q_goto (tgt := 48) dX9_isSeen_44 (by decide) ?_
      refine q_ireturn dX9_isSeen_48 rfl rfl (by omega) (by omega) ?_
      first | exact fin_t c40 | exact fin_f c40
  · rw [k1] at n1
    rw [sn_1 (by omega) (by omega) h32 h70]
    refine CT.of (by decide) (Nat.le_of_ble_eq_true rfl) ?_
    refine q_aload_n dX9_isSeen_0 rfl rfl rfl ?_
    refine q_getr (r := 67) dX9_isSeen_1 fX9_58 rfl (ty_c hS (by decide) rfl) (hS.2 58 15 67 rfl) ?_
    refine q_iload_n dX9_isSeen_4 rfl rfl ?_
    refine q_iald (x := nI 1) (j := (960 + k)) dX9_isSeen_5 (ty_c hS (by decide) rfl) (ix_n (by omega) (by omega)) n1 ?_
    refine q_iconst (v := nI 3) dX9_isSeen_6 rfl ?_
    refine q_icmp_eqN (tgt := 43) dX9_isSeen_7 (by decide) (by omega) (by omega) (fun h => absurd h (by decide)) (fun _ => ?_)
    refine q_aload_n dX9_isSeen_10 rfl rfl rfl ?_
    refine q_getr (r := 67) dX9_isSeen_11 fX9_58 rfl (ty_c hS (by decide) rfl) (hS.2 58 15 67 rfl) ?_
    refine q_iload_n dX9_isSeen_14 rfl rfl ?_
    refine q_iald (x := nI 1) (j := (960 + k)) dX9_isSeen_15 (ty_c hS (by decide) rfl) (ix_n (by omega) (by omega)) n1 ?_
    refine q_iconst (v := nI 2) dX9_isSeen_16 rfl ?_
    refine q_icmp_eqN (tgt := 43) dX9_isSeen_17 (by decide) (by omega) (by omega) (fun h => absurd h (by decide)) (fun _ => ?_)
    refine q_aload_n dX9_isSeen_20 rfl rfl rfl ?_
    refine q_getr (r := 67) dX9_isSeen_21 fX9_58 rfl (ty_c hS (by decide) rfl) (hS.2 58 15 67 rfl) ?_
    refine q_iload_n dX9_isSeen_24 rfl rfl ?_
    refine q_iald (x := nI 1) (j := (960 + k)) dX9_isSeen_25 (ty_c hS (by decide) rfl) (ix_n (by omega) (by omega)) n1 ?_
    refine q_if_neN (tgt := 47) dX9_isSeen_26 (by decide) (by omega) (fun _ => ?_) (fun h => absurd h (by decide))
    refine q_iconst (v := nI 0) dX9_isSeen_47 rfl ?_
    refine q_ireturn dX9_isSeen_48 rfl rfl (by omega) (by omega) ?_
    exact ⟨rfl, rfl⟩
  · rw [k2] at n1
    have : sn q k = true := by unfold sn; rw [k2]; rfl
    rw [this]
    refine CT.of (by decide) (Nat.le_of_ble_eq_true rfl) ?_
    refine q_aload_n dX9_isSeen_0 rfl rfl rfl ?_
    refine q_getr (r := 67) dX9_isSeen_1 fX9_58 rfl (ty_c hS (by decide) rfl) (hS.2 58 15 67 rfl) ?_
    refine q_iload_n dX9_isSeen_4 rfl rfl ?_
    refine q_iald (x := nI 2) (j := (960 + k)) dX9_isSeen_5 (ty_c hS (by decide) rfl) (ix_n (by omega) (by omega)) n1 ?_
    refine q_iconst (v := nI 3) dX9_isSeen_6 rfl ?_
    refine q_icmp_eqN (tgt := 43) dX9_isSeen_7 (by decide) (by omega) (by omega) (fun h => absurd h (by decide)) (fun _ => ?_)
    refine q_aload_n dX9_isSeen_10 rfl rfl rfl ?_
    refine q_getr (r := 67) dX9_isSeen_11 fX9_58 rfl (ty_c hS (by decide) rfl) (hS.2 58 15 67 rfl) ?_
    refine q_iload_n dX9_isSeen_14 rfl rfl ?_
    refine q_iald (x := nI 2) (j := (960 + k)) dX9_isSeen_15 (ty_c hS (by decide) rfl) (ix_n (by omega) (by omega)) n1 ?_
    refine q_iconst (v := nI 2) dX9_isSeen_16 rfl ?_
    refine q_icmp_eqN (tgt := 43) dX9_isSeen_17 (by decide) (by omega) (by omega) (fun _ => ?_) (fun h => absurd h (by decide))
    refine q_iconst (v := nI 1) dX9_isSeen_43 rfl ?_
    refine q_goto (tgt := 48) dX9_isSeen_44 (by decide) ?_
    refine q_ireturn dX9_isSeen_48 rfl rfl (by omega) (by omega) ?_
    exact ⟨rfl, rfl⟩
  · by_cases h3 : rK (rg q k) = 3
    · rw [h3] at n1
      have : sn q k = true := by unfold sn; rw [h3]; rfl
      rw [this]
      refine CT.of (by decide) (Nat.le_of_ble_eq_true rfl) ?_
      refine q_aload_n dX9_isSeen_0 rfl rfl rfl ?_
      refine q_getr (r := 67) dX9_isSeen_1 fX9_58 rfl (ty_c hS (by decide) rfl) (hS.2 58 15 67 rfl) ?_
      refine q_iload_n dX9_isSeen_4 rfl rfl ?_
      refine q_iald (x := nI 3) (j := (960 + k)) dX9_isSeen_5 (ty_c hS (by decide) rfl) (ix_n (by omega) (by omega)) n1 ?_
      refine q_iconst (v := nI 3) dX9_isSeen_6 rfl ?_
      refine q_icmp_eqN (tgt := 43) dX9_isSeen_7 (by decide) (by omega) (by omega) (fun _ => ?_) (fun h => absurd h (by decide))
      refine q_iconst (v := nI 1) dX9_isSeen_43 rfl ?_
      refine q_goto (tgt := 48) dX9_isSeen_44 (by decide) ?_
      refine q_ireturn dX9_isSeen_48 rfl rfl (by omega) (by omega) ?_
      exact ⟨rfl, rfl⟩
    · rw [sn_1 (by omega) h3 h32 h70]
      refine CT.of (by decide) (Nat.le_of_ble_eq_true rfl) ?_
      refine q_aload_n dX9_isSeen_0 rfl rfl rfl ?_
      refine q_getr (r := 67) dX9_isSeen_1 fX9_58 rfl (ty_c hS (by decide) rfl) (hS.2 58 15 67 rfl) ?_
      refine q_iload_n dX9_isSeen_4 rfl rfl ?_
      refine q_iald (x := nI (rK (rg q k))) (j := (960 + k)) dX9_isSeen_5 (ty_c hS (by decide) rfl) (ix_n (by omega) (by omega)) n1 ?_
      refine q_iconst (v := nI 3) dX9_isSeen_6 rfl ?_
      refine q_icmp_eqN (tgt := 43) dX9_isSeen_7 (by decide) (by omega) (by omega) (fun c7 => ?_) (fun c7 => ?_)
      · exact absurd c7 h3
      · skip
        refine q_aload_n dX9_isSeen_10 rfl rfl rfl ?_
        refine q_getr (r := 67) dX9_isSeen_11 fX9_58 rfl (ty_c hS (by decide) rfl) (hS.2 58 15 67 rfl) ?_
        refine q_iload_n dX9_isSeen_14 rfl rfl ?_
        refine q_iald (x := nI (rK (rg q k))) (j := (960 + k)) dX9_isSeen_15 (ty_c hS (by decide) rfl) (ix_n (by omega) (by omega)) n1 ?_
        refine q_iconst (v := nI 2) dX9_isSeen_16 rfl ?_
        refine q_icmp_eqN (tgt := 43) dX9_isSeen_17 (by decide) (by omega) (by omega) (fun c17 => ?_) (fun c17 => ?_)
        · exact absurd c17 (by omega)
        · skip
          refine q_aload_n dX9_isSeen_20 rfl rfl rfl ?_
          refine q_getr (r := 67) dX9_isSeen_21 fX9_58 rfl (ty_c hS (by decide) rfl) (hS.2 58 15 67 rfl) ?_
          refine q_iload_n dX9_isSeen_24 rfl rfl ?_
          refine q_iald (x := nI (rK (rg q k))) (j := (960 + k)) dX9_isSeen_25 (ty_c hS (by decide) rfl) (ix_n (by omega) (by omega)) n1 ?_
          refine q_if_neN (tgt := 47) dX9_isSeen_26 (by decide) (by omega) (fun c26 => ?_) (fun c26 => ?_)
          · skip
            refine q_iconst (v := nI 0) dX9_isSeen_47 rfl ?_
            refine q_ireturn dX9_isSeen_48 rfl rfl (by omega) (by omega) ?_
            exact ⟨rfl, rfl⟩
          · exact absurd c26 (by omega)
/-- the sets that are narrowed -/
noncomputable def FJ (q : PS) (e j : Nat) : (Nat → Bool) → Nat → Prop := if j = 2 then (fun v n => wdB q e v n = true) else if j = 3 then thF q e else if j = 5 then dlF q e else (fun v n => aoB q e v n = true)
def HC (q : PS) (e j : Nat) (v : Nat → Nat → Bool) : Prop := (∀ n, n < NN q → v 0 n = wk q e n ∧ v 1 n = kl q e n) ∧ (j = 5 → ∀ n, n < NN q → v 4 n = ear q e n) ∧ (j = 7 → ∀ n, n < NN q → v 6 n = lst q e n)
theorem FJ_2 {q : PS} {e : Nat} : FJ q e 2 = (fun v n => wdB q e v n = true) := if_pos rfl
theorem FJ_3 {q : PS} {e : Nat} : FJ q e 3 = thF q e := by unfold FJ; rw [if_neg (by decide), if_pos rfl]
theorem FJ_5 {q : PS} {e : Nat} : FJ q e 5 = dlF q e := by unfold FJ; rw [if_neg (by decide), if_neg (by decide), if_pos rfl]
theorem FJ_7 {q : PS} {e : Nat} : FJ q e 7 = (fun v n => aoB q e v n = true) := by unfold FJ; rw [if_neg (by decide), if_neg (by decide), if_neg (by decide)]
theorem FJ_m (hc : BC q) (hw : WFs q) (hB : NB q) {e j : Nat} (hj : j = 2 ∨ j = 3 ∨ j = 5 ∨ j = 7) : MF (NN q) (FJ q e j) := by
  rcases hj with rfl | rfl | rfl | rfl
  · rw [FJ_2]; exact wd_m hc hw hB e
  · rw [FJ_3]; exact th_m e
  · rw [FJ_5]; exact dl_m e
  · rw [FJ_7]; exact ao_m hc hw hB e
theorem z9_holds2 (hS : SK σ) (hR : MR0 σ 4 q) (hc : BC q) (hw : WFs q) (hB : NB q) (hx : psX q = false) (hv : fcS σ F (NN q) v) (hF : F + NN q ≤ 38400) {e k : Nat} (he : e < (psM q).length) (hk : k < NN q) (h : HC q e 2 v) : CT g mX9_holds 2 0 0 [.ref 58, .int (nI e), .int (nI F), .int (nI k), .int (nI 4)] σ (PQ σ (.int (bi (dcd (FJ q e 2 (v 2) k))))) := by
  have hN := NN_le hc
  have h32 := hw.2.2.2.1
  obtain ⟨w0, w1⟩ := h.1 k hk
  obtain ⟨⟨n1, -⟩, -, -⟩ := mrn hR hk
  have hk7 : rK (rg q k) ≤ 7 := by
    by_cases e : k < (psS q).length
    · rw [show rg q k = rr q k from if_pos e]; have := (st_w hw e).1; omega
    · rw [show rg q k = _ from if_neg e]; exact Nat.le_refl _
  rw [FJ_2, dcd_b]
  have ew : wdB q e (v 2) k = (v 0 k || (!(v 1 k || (sn q k && bo q e)) && alN q (v 2) k)) := by unfold wdB; rw [w0, w1]
  rw [ew]
  refine CT.of (by decide) (Nat.le_of_ble_eq_true rfl) ?_
  refine q_sipush (v := nI 960) dX9_holds_0 rfl ?_
  refine q_iload_n dX9_holds_3 rfl rfl ?_
  refine q_iaddN dX9_holds_4 ?_
  refine q_istore dX9_holds_5 (by decide) (ls' := [(5, .int (nI (960 + k))), (0, .ref 58), (1, .int (nI e)), (2, .int (nI F)), (3, .int (nI k)), (4, .int (nI 4))]) rfl ?_
  refine q_iload dX9_holds_7 rfl ?_
  refine q_iconst (v := nI 4) dX9_holds_9 rfl ?_
  refine q_icmp_neN (tgt := 79) dX9_holds_10 (by decide) (by omega) (by omega) (fun h => absurd h (by decide)) (fun _ => ?_)
  refine q_aload_n dX9_holds_13 rfl rfl rfl ?_
  refine q_iload_n dX9_holds_14 rfl rfl ?_
  refine q_iload_n dX9_holds_15 rfl rfl ?_
  refine q_iconst (v := nI 1) dX9_holds_16 rfl ?_
  refine q_callV (As := [.int (nI F), .int (nI k), .int (nI 1)]) (rest := []) dX9_holds_17 vX9_347 (ty_c hS (by decide) rfl) ⟨by decide, rfl⟩ (z9_is (j := 0) hS hv hF hk (by omega)) rfl rfl (Nat.le_of_ble_eq_true rfl) (by omega) (by omega) (by omega) (k_p ?_)
  refine q_if_neB (tgt := 73) dX9_holds_20 (by decide) (fun c20 => ?_) (fun c20 => ?_)
  · skip
    refine q_iconst (v := nI 1) dX9_holds_73 rfl ?_
    refine q_goto (tgt := 78) dX9_holds_74 (by decide) ?_
    refine q_ireturn dX9_holds_78 rfl rfl (by omega) (by omega) ?_
    first | exact fin_t (by rw [c20, c30, c52, c61, c70]; rfl) | exact fin_t (by rw [c20, c30, c52, c61]; cases sn q k <;> rfl) | exact fin_t (by rw [c20]; rfl)
  · skip
    refine q_aload_n dX9_holds_23 rfl rfl rfl ?_
    refine q_iload_n dX9_holds_24 rfl rfl ?_
    refine q_iload_n dX9_holds_25 rfl rfl ?_
    refine q_iconst (v := nI 2) dX9_holds_26 rfl ?_
    refine q_callV (As := [.int (nI F), .int (nI k), .int (nI 2)]) (rest := []) dX9_holds_27 vX9_347 (ty_c hS (by decide) rfl) ⟨by decide, rfl⟩ (z9_is (j := 1) hS hv hF hk (by omega)) rfl rfl (Nat.le_of_ble_eq_true rfl) (by omega) (by omega) (by omega) (k_p ?_)
    refine q_if_neB (tgt := 77) dX9_holds_30 (by decide) (fun c30 => ?_) (fun c30 => ?_)
    · skip
      refine q_iconst (v := nI 0) dX9_holds_77 rfl ?_
      refine q_ireturn dX9_holds_78 rfl rfl (by omega) (by omega) ?_
      first | exact fin_f (by rw [c20, c30, c52, c61, c70]; rfl) | exact fin_f (by rw [c20, c52, Bool.and_false]; rfl) | exact fin_f (by rw [c20, c30]; rfl)
    · skip
      refine q_aload_n dX9_holds_33 rfl rfl rfl ?_
      refine q_getr (r := 67) dX9_holds_34 fX9_58 rfl (ty_c hS (by decide) rfl) (hS.2 58 15 67 rfl) ?_
      refine q_iload dX9_holds_37 rfl ?_
      refine q_iald (x := nI (rK (rg q k))) (j := (960 + k)) dX9_holds_39 (ty_c hS (by decide) rfl) (ix_n (by omega) (by omega)) n1 ?_
      refine q_bipush (v := nI 6) dX9_holds_40 rfl ?_
      refine q_icmp_eqN (tgt := 77) dX9_holds_42 (by decide) (by omega) (by omega) (fun c42 => ?_) (fun c42 => ?_)
      · have c52 := alN_6 hw (v := v 2) c42
        refine q_iconst (v := nI 0) dX9_holds_77 rfl ?_
        refine q_ireturn dX9_holds_78 rfl rfl (by omega) (by omega) ?_
        first | exact fin_f (by rw [c20, c30, c52, c61, c70]; rfl) | exact fin_f (by rw [c20, c52, Bool.and_false]; rfl) | exact fin_f (by rw [c20, c30]; rfl)
      · skip
        refine q_aload_n dX9_holds_45 rfl rfl rfl ?_
        refine q_iload_n dX9_holds_46 rfl rfl ?_
        refine q_iload_n dX9_holds_47 rfl rfl ?_
        refine q_iconst (v := nI 4) dX9_holds_48 rfl ?_
        refine q_callV (As := [.int (nI F), .int (nI k), .int (nI 4)]) (rest := []) dX9_holds_49 vX9_354 (ty_c hS (by decide) rfl) ⟨by decide, rfl⟩ (z9_allNext (j := 2) hS hR hc hw hB hv hF hk (by omega)) rfl rfl (Nat.le_of_ble_eq_true rfl) (by omega) (by omega) (by omega) (k_p ?_)
        refine q_if_eqB (tgt := 77) dX9_holds_52 (by decide) (fun c52 => ?_) (fun c52 => ?_)
        · skip
          refine q_iconst (v := nI 0) dX9_holds_77 rfl ?_
          refine q_ireturn dX9_holds_78 rfl rfl (by omega) (by omega) ?_
          first | exact fin_f (by rw [c20, c30, c52, c61, c70]; rfl) | exact fin_f (by rw [c20, c52, Bool.and_false]; rfl) | exact fin_f (by rw [c20, c30]; rfl)
        · skip
          refine q_aload_n dX9_holds_55 rfl rfl rfl ?_
          refine q_iconst (v := nI 4) dX9_holds_56 rfl ?_
          refine q_iload_n dX9_holds_57 rfl rfl ?_
          refine q_callV (As := [.int (nI 4), .int (nI e)]) (rest := []) dX9_holds_58 vX9_334 (ty_c hS (by decide) rfl) ⟨by decide, rfl⟩ (z9_bold4 hS hR hw he) rfl rfl (Nat.le_of_ble_eq_true rfl) (by omega) (by omega) (by omega) (k_p ?_)
          refine q_if_eqB (tgt := 73) dX9_holds_61 (by decide) (fun c61 => ?_) (fun c61 => ?_)
          · skip
            refine q_iconst (v := nI 1) dX9_holds_73 rfl ?_
            refine q_goto (tgt := 78) dX9_holds_74 (by decide) ?_
            refine q_ireturn dX9_holds_78 rfl rfl (by omega) (by omega) ?_
            first | exact fin_t (by rw [c20, c30, c52, c61, c70]; rfl) | exact fin_t (by rw [c20, c30, c52, c61]; cases sn q k <;> rfl) | exact fin_t (by rw [c20]; rfl)
          · skip
            refine q_aload_n dX9_holds_64 rfl rfl rfl ?_
            refine q_iload dX9_holds_65 rfl ?_
            refine q_callV (As := [.int (nI (960 + k))]) (rest := []) dX9_holds_67 vX9_361 (ty_c hS (by decide) rfl) ⟨by decide, rfl⟩ (z9_isSeen hS hR hc hw hx hk) rfl rfl (Nat.le_of_ble_eq_true rfl) (by omega) (by omega) (by omega) (k_p ?_)
            refine q_if_neB (tgt := 77) dX9_holds_70 (by decide) (fun c70 => ?_) (fun c70 => ?_)
            · skip
              refine q_iconst (v := nI 0) dX9_holds_77 rfl ?_
              refine q_ireturn dX9_holds_78 rfl rfl (by omega) (by omega) ?_
              first | exact fin_f (by rw [c20, c30, c52, c61, c70]; rfl) | exact fin_f (by rw [c20, c52, Bool.and_false]; rfl) | exact fin_f (by rw [c20, c30]; rfl)
            · skip
              refine q_iconst (v := nI 1) dX9_holds_73 rfl ?_
              refine q_goto (tgt := 78) dX9_holds_74 (by decide) ?_
              refine q_ireturn dX9_holds_78 rfl rfl (by omega) (by omega) ?_
              first | exact fin_t (by rw [c20, c30, c52, c61, c70]; rfl) | exact fin_t (by rw [c20, c30, c52, c61]; cases sn q k <;> rfl) | exact fin_t (by rw [c20]; rfl)
theorem th_ah {e k : Nat} (hk : k < NN q) (h : HC q e 3 v) : thF q e (v 3) k ↔ (k ≠ 0 ∧ ∀ i, i < NN q → ahT q v k i) := by
  unfold thF ahT
  constructor
  · rintro ⟨h1, h2⟩
    exact ⟨h1, fun i hi hl => by have := h2 i hi hl; rw [← (h.1 i hi).1, ← (h.1 i hi).2] at this; exact this⟩
  · rintro ⟨h1, h2⟩
    exact ⟨h1, fun i hi hl => by have := h2 i hi hl; rw [(h.1 i hi).1, (h.1 i hi).2] at this; exact this⟩
theorem dl_ah {e k : Nat} (hk : k < NN q) (h : HC q e 5 v) : dlF q e (v 5) k ↔ (v 4 k = true ∨ (k ≠ 0 ∧ ∀ i, i < NN q → ahD q v k i)) := by
  unfold dlF ahD
  rw [h.2.1 rfl k hk]
  constructor
  · rintro (h1 | ⟨h1, h2⟩)
    · exact Or.inl h1
    · exact Or.inr ⟨h1, fun i hi hl => by have := h2 i hi hl; rw [← (h.1 i hi).1] at this; exact this⟩
  · rintro (h1 | ⟨h1, h2⟩)
    · exact Or.inl h1
    · exact Or.inr ⟨h1, fun i hi hl => by have := h2 i hi hl; rw [(h.1 i hi).1] at this; exact this⟩
theorem z9_holds3 (hS : SK σ) (hR : MR0 σ 4 q) (hc : BC q) (hw : WFs q) (hB : NB q) (hv : fcS σ F (NN q) v) (hF : F + NN q ≤ 38400) {e k : Nat} (he : e < 32) (hk : k < NN q) (h : HC q e 3 v) : CT g mX9_holds 2 0 0 [.ref 58, .int (nI e), .int (nI F), .int (nI k), .int (nI 8)] σ (PQ σ (.int (bi (dcd (FJ q e 3 (v 3) k))))) := by
  have hN := NN_le hc
  rw [FJ_3, dcd_e (th_ah hk h)]
  refine CT.of (by decide) (Nat.le_of_ble_eq_true rfl) ?_
  refine q_sipush (v := nI 960) dX9_holds_0 rfl ?_
  refine q_iload_n dX9_holds_3 rfl rfl ?_
  refine q_iaddN dX9_holds_4 ?_
  refine q_istore dX9_holds_5 (by decide) (ls' := [(5, .int (nI (960 + k))), (0, .ref 58), (1, .int (nI e)), (2, .int (nI F)), (3, .int (nI k)), (4, .int (nI 8))]) rfl ?_
  refine q_iload dX9_holds_7 rfl ?_
  refine q_iconst (v := nI 4) dX9_holds_9 rfl ?_
  refine q_icmp_neN (tgt := 79) dX9_holds_10 (by decide) (by omega) (by omega) (fun _ => ?_) (fun h => absurd h (by decide))
  refine q_iload dX9_holds_79 rfl ?_
  refine q_bipush (v := nI 8) dX9_holds_81 rfl ?_
  refine q_icmp_neN (tgt := 107) dX9_holds_83 (by decide) (by omega) (by omega) (fun h => absurd h (by decide)) (fun _ => ?_)
  refine q_iload_n dX9_holds_86 rfl rfl ?_
  refine q_if_leN (tgt := 105) dX9_holds_87 (by decide) (by omega) (fun c87 => ?_) (fun c87 => ?_)
  · skip
    refine q_iconst (v := nI 0) dX9_holds_105 rfl ?_
    refine q_ireturn dX9_holds_106 rfl rfl (by omega) (by omega) ?_
    first | exact fin_f (dcd_f.mpr fun z => dcd_f.mp c98 z.2) | exact fin_f (dcd_f.mpr fun z => z.1 (by omega))
  · skip
    refine q_aload_n dX9_holds_90 rfl rfl rfl ?_
    refine q_iload_n dX9_holds_91 rfl rfl ?_
    refine q_iload_n dX9_holds_92 rfl rfl ?_
    refine q_bipush (v := nI 8) dX9_holds_93 rfl ?_
    refine q_callV (As := [.int (nI F), .int (nI k), .int (nI 8)]) (rest := []) dX9_holds_95 vX9_364 (ty_c hS (by decide) rfl) ⟨by decide, rfl⟩ (ct_dcd (z9_ahT hS hR hc hw hB hv hF (by omega))) rfl rfl (Nat.le_of_ble_eq_true rfl) (by omega) (by omega) (by omega) (k_p ?_)
    refine q_if_eqB (tgt := 105) dX9_holds_98 (by decide) (fun c98 => ?_) (fun c98 => ?_)
    · skip
      refine q_iconst (v := nI 0) dX9_holds_105 rfl ?_
      refine q_ireturn dX9_holds_106 rfl rfl (by omega) (by omega) ?_
      first | exact fin_f (dcd_f.mpr fun z => dcd_f.mp c98 z.2) | exact fin_f (dcd_f.mpr fun z => z.1 (by omega))
    · skip
      refine q_iconst (v := nI 1) dX9_holds_101 rfl ?_
      refine q_goto (tgt := 106) dX9_holds_102 (by decide) ?_
      refine q_ireturn dX9_holds_106 rfl rfl (by omega) (by omega) ?_
      exact fin_t (dcd_t.mpr ⟨by omega, dcd_t.mp c98⟩)
theorem z9_holds5 (hS : SK σ) (hR : MR0 σ 4 q) (hc : BC q) (hw : WFs q) (hB : NB q) (hv : fcS σ F (NN q) v) (hF : F + NN q ≤ 38400) {e k : Nat} (he : e < 32) (hk : k < NN q) (h : HC q e 5 v) : CT g mX9_holds 2 0 0 [.ref 58, .int (nI e), .int (nI F), .int (nI k), .int (nI 32)] σ (PQ σ (.int (bi (dcd (FJ q e 5 (v 5) k))))) := by
  have hN := NN_le hc
  rw [FJ_5, dcd_e (dl_ah hk h)]
  refine CT.of (by decide) (Nat.le_of_ble_eq_true rfl) ?_
  refine q_sipush (v := nI 960) dX9_holds_0 rfl ?_
  refine q_iload_n dX9_holds_3 rfl rfl ?_
  refine q_iaddN dX9_holds_4 ?_
  refine q_istore dX9_holds_5 (by decide) (ls' := [(5, .int (nI (960 + k))), (0, .ref 58), (1, .int (nI e)), (2, .int (nI F)), (3, .int (nI k)), (4, .int (nI 32))]) rfl ?_
  refine q_iload dX9_holds_7 rfl ?_
  refine q_iconst (v := nI 4) dX9_holds_9 rfl ?_
  refine q_icmp_neN (tgt := 79) dX9_holds_10 (by decide) (by omega) (by omega) (fun _ => ?_) (fun h => absurd h (by decide))
  refine q_iload dX9_holds_79 rfl ?_
  refine q_bipush (v := nI 8) dX9_holds_81 rfl ?_
  refine q_icmp_neN (tgt := 107) dX9_holds_83 (by decide) (by omega) (by omega) (fun _ => ?_) (fun h => absurd h (by decide))
  refine q_iload dX9_holds_107 rfl ?_
  refine q_bipush (v := nI 32) dX9_holds_109 rfl ?_
  refine q_icmp_neN (tgt := 146) dX9_holds_111 (by decide) (by omega) (by omega) (fun h => absurd h (by decide)) (fun _ => ?_)
  refine q_aload_n dX9_holds_114 rfl rfl rfl ?_
  refine q_iload_n dX9_holds_115 rfl rfl ?_
  refine q_iload_n dX9_holds_116 rfl rfl ?_
  refine q_bipush (v := nI 16) dX9_holds_117 rfl ?_
  refine q_callV (As := [.int (nI F), .int (nI k), .int (nI 16)]) (rest := []) dX9_holds_119 vX9_347 (ty_c hS (by decide) rfl) ⟨by decide, rfl⟩ (z9_is (j := 4) hS hv hF hk (by omega)) rfl rfl (Nat.le_of_ble_eq_true rfl) (by omega) (by omega) (by omega) (k_p ?_)
  refine q_if_neB (tgt := 140) dX9_holds_122 (by decide) (fun c122 => ?_) (fun c122 => ?_)
  · skip
    refine q_iconst (v := nI 1) dX9_holds_140 rfl ?_
    refine q_goto (tgt := 145) dX9_holds_141 (by decide) ?_
    refine q_ireturn dX9_holds_145 rfl rfl (by omega) (by omega) ?_
    first | exact fin_t (dcd_t.mpr (Or.inl c122)) | exact fin_t (dcd_t.mpr (Or.inr ⟨by omega, dcd_t.mp c137⟩))
  · skip
    refine q_iload_n dX9_holds_125 rfl rfl ?_
    refine q_if_leN (tgt := 144) dX9_holds_126 (by decide) (by omega) (fun c126 => ?_) (fun c126 => ?_)
    · skip
      refine q_iconst (v := nI 0) dX9_holds_144 rfl ?_
      refine q_ireturn dX9_holds_145 rfl rfl (by omega) (by omega) ?_
      first | exact fin_f (dcd_f.mpr fun z => z.elim (fun y => by rw [c122] at y; cases y) fun y => dcd_f.mp c137 y.2) | exact fin_f (dcd_f.mpr fun z => z.elim (fun y => by rw [c122] at y; cases y) fun y => y.1 (by omega))
    · skip
      refine q_aload_n dX9_holds_129 rfl rfl rfl ?_
      refine q_iload_n dX9_holds_130 rfl rfl ?_
      refine q_iload_n dX9_holds_131 rfl rfl ?_
      refine q_bipush (v := nI 32) dX9_holds_132 rfl ?_
      refine q_callV (As := [.int (nI F), .int (nI k), .int (nI 32)]) (rest := []) dX9_holds_134 vX9_364 (ty_c hS (by decide) rfl) ⟨by decide, rfl⟩ (ct_dcd (z9_ahD hS hR hc hw hB hv hF (by omega))) rfl rfl (Nat.le_of_ble_eq_true rfl) (by omega) (by omega) (by omega) (k_p ?_)
      refine q_if_eqB (tgt := 144) dX9_holds_137 (by decide) (fun c137 => ?_) (fun c137 => ?_)
      · skip
        refine q_iconst (v := nI 0) dX9_holds_144 rfl ?_
        refine q_ireturn dX9_holds_145 rfl rfl (by omega) (by omega) ?_
        first | exact fin_f (dcd_f.mpr fun z => z.elim (fun y => by rw [c122] at y; cases y) fun y => dcd_f.mp c137 y.2) | exact fin_f (dcd_f.mpr fun z => z.elim (fun y => by rw [c122] at y; cases y) fun y => y.1 (by omega))
      · skip
        refine q_iconst (v := nI 1) dX9_holds_140 rfl ?_
        refine q_goto (tgt := 145) dX9_holds_141 (by decide) ?_
        refine q_ireturn dX9_holds_145 rfl rfl (by omega) (by omega) ?_
        first | exact fin_t (dcd_t.mpr (Or.inl c122)) | exact fin_t (dcd_t.mpr (Or.inr ⟨by omega, dcd_t.mp c137⟩))
theorem ao_ah {e k : Nat} (hc : BC q) (hw : WFs q) (hB : NB q) (hk : k < NN q) (h : HC q e 7 v) : aoB q e (v 7) k = alQ q (fun m => v 6 m || (!v 0 m && v 7 m)) k := by
  have k0 := fun i => ld_lt hc hw hB (w := 0) (n := k) (i := i) hk
  have k1 := fun i => ld_lt hc hw hB (w := 1) (n := k) (i := i) hk
  unfold aoB alQ
  cases l0 : ld q 0 k with
  | none =>
    cases l1 : ld q 1 k with
    | none => rfl
    | some c =>
      show (true && (lst q e c || (!wk q e c && v 7 c))) = _
      rw [← h.2.2 rfl c (k1 c l1), ← (h.1 c (k1 c l1)).1]
  | some a =>
    cases l1 : ld q 1 k with
    | none =>
      show ((lst q e a || (!wk q e a && v 7 a)) && true) = _
      rw [← h.2.2 rfl a (k0 a l0), ← (h.1 a (k0 a l0)).1]
    | some c =>
      show ((lst q e a || (!wk q e a && v 7 a)) && (lst q e c || (!wk q e c && v 7 c))) = _
      rw [← h.2.2 rfl a (k0 a l0), ← (h.1 a (k0 a l0)).1, ← h.2.2 rfl c (k1 c l1), ← (h.1 c (k1 c l1)).1]
theorem z9_holds7 (hS : SK σ) (hR : MR0 σ 4 q) (hc : BC q) (hw : WFs q) (hB : NB q) (hv : fcS σ F (NN q) v) (hF : F + NN q ≤ 38400) {e k : Nat} (he : e < 32) (hk : k < NN q) (h : HC q e 7 v) : CT g mX9_holds 2 0 0 [.ref 58, .int (nI e), .int (nI F), .int (nI k), .int (nI 128)] σ (PQ σ (.int (bi (dcd (FJ q e 7 (v 7) k))))) := by
  have hN := NN_le hc
  obtain ⟨-, r1, r2⟩ := mrn hR hk
  have k0 := fun i => ld_lt hc hw hB (w := 0) (n := k) (i := i) hk
  have k1 := fun i => ld_lt hc hw hB (w := 1) (n := k) (i := i) hk
  rw [FJ_7, dcd_b, ao_ah hc hw hB hk h]
  unfold alQ
  cases l0 : ld q 0 k with
  | none =>
    rw [l0] at r1
    cases l1 : ld q 1 k with
    | none =>
      rw [l1] at r2
      refine CT.of (by decide) (Nat.le_of_ble_eq_true rfl) ?_
      refine q_sipush (v := nI 960) dX9_holds_0 rfl ?_
      refine q_iload_n dX9_holds_3 rfl rfl ?_
      refine q_iaddN dX9_holds_4 ?_
      refine q_istore dX9_holds_5 (by decide) (ls' := [(5, .int (nI (960 + k))), (0, .ref 58), (1, .int (nI e)), (2, .int (nI F)), (3, .int (nI k)), (4, .int (nI 128))]) rfl ?_
      refine q_iload dX9_holds_7 rfl ?_
      refine q_iconst (v := nI 4) dX9_holds_9 rfl ?_
      refine q_icmp_neN (tgt := 79) dX9_holds_10 (by decide) (by omega) (by omega) (fun _ => ?_) (fun h => absurd h (by decide))
      refine q_iload dX9_holds_79 rfl ?_
      refine q_bipush (v := nI 8) dX9_holds_81 rfl ?_
      refine q_icmp_neN (tgt := 107) dX9_holds_83 (by decide) (by omega) (by omega) (fun _ => ?_) (fun h => absurd h (by decide))
      refine q_iload dX9_holds_107 rfl ?_
      refine q_bipush (v := nI 32) dX9_holds_109 rfl ?_
      refine q_icmp_neN (tgt := 146) dX9_holds_111 (by decide) (by omega) (by omega) (fun _ => ?_) (fun h => absurd h (by decide))
      refine q_aload_n dX9_holds_146 rfl rfl rfl ?_
      refine q_getr (r := 71) dX9_holds_147 fX9_70 rfl (ty_c hS (by decide) rfl) (hS.2 58 19 71 rfl) ?_
      refine q_iload dX9_holds_150 rfl ?_
      refine q_iald (x := (-1)) (j := (960 + k)) dX9_holds_152 (ty_c hS (by decide) rfl) (ix_n (by omega) (by omega)) r1 ?_
      refine q_if_lt1 (tgt := 171) dX9_holds_153 (by decide) (by decide) ?_
      refine q_aload_n dX9_holds_171 rfl rfl rfl ?_
      refine q_getr (r := 72) dX9_holds_172 fX9_73 rfl (ty_c hS (by decide) rfl) (hS.2 58 20 72 rfl) ?_
      refine q_iload dX9_holds_175 rfl ?_
      refine q_iald (x := (-1)) (j := (960 + k)) dX9_holds_177 (ty_c hS (by decide) rfl) (ix_n (by omega) (by omega)) r2 ?_
      refine q_if_lt1 (tgt := 196) dX9_holds_178 (by decide) (by decide) ?_
      refine q_iconst (v := nI 1) dX9_holds_196 rfl ?_
      refine q_goto (tgt := 201) dX9_holds_197 (by decide) ?_
      refine q_ireturn dX9_holds_201 rfl rfl (by omega) (by omega) ?_
      exact ⟨rfl, rfl⟩
    | some c =>
      rw [l1] at r2
      have b1 := k1 c l1
      refine CT.of (by decide) (Nat.le_of_ble_eq_true rfl) ?_
      refine q_sipush (v := nI 960) dX9_holds_0 rfl ?_
      refine q_iload_n dX9_holds_3 rfl rfl ?_
      refine q_iaddN dX9_holds_4 ?_
      refine q_istore dX9_holds_5 (by decide) (ls' := [(5, .int (nI (960 + k))), (0, .ref 58), (1, .int (nI e)), (2, .int (nI F)), (3, .int (nI k)), (4, .int (nI 128))]) rfl ?_
      refine q_iload dX9_holds_7 rfl ?_
      refine q_iconst (v := nI 4) dX9_holds_9 rfl ?_
      refine q_icmp_neN (tgt := 79) dX9_holds_10 (by decide) (by omega) (by omega) (fun _ => ?_) (fun h => absurd h (by decide))
      refine q_iload dX9_holds_79 rfl ?_
      refine q_bipush (v := nI 8) dX9_holds_81 rfl ?_
      refine q_icmp_neN (tgt := 107) dX9_holds_83 (by decide) (by omega) (by omega) (fun _ => ?_) (fun h => absurd h (by decide))
      refine q_iload dX9_holds_107 rfl ?_
      refine q_bipush (v := nI 32) dX9_holds_109 rfl ?_
      refine q_icmp_neN (tgt := 146) dX9_holds_111 (by decide) (by omega) (by omega) (fun _ => ?_) (fun h => absurd h (by decide))
      refine q_aload_n dX9_holds_146 rfl rfl rfl ?_
      refine q_getr (r := 71) dX9_holds_147 fX9_70 rfl (ty_c hS (by decide) rfl) (hS.2 58 19 71 rfl) ?_
      refine q_iload dX9_holds_150 rfl ?_
      refine q_iald (x := (-1)) (j := (960 + k)) dX9_holds_152 (ty_c hS (by decide) rfl) (ix_n (by omega) (by omega)) r1 ?_
      refine q_if_lt1 (tgt := 171) dX9_holds_153 (by decide) (by decide) ?_
      refine q_aload_n dX9_holds_171 rfl rfl rfl ?_
      refine q_getr (r := 72) dX9_holds_172 fX9_73 rfl (ty_c hS (by decide) rfl) (hS.2 58 20 72 rfl) ?_
      refine q_iload dX9_holds_175 rfl ?_
      refine q_iald (x := nI c) (j := (960 + k)) dX9_holds_177 (ty_c hS (by decide) rfl) (ix_n (by omega) (by omega)) r2 ?_
      refine q_if_ltN (tgt := 196) dX9_holds_178 (by decide) (by omega) ?_
      refine q_aload_n dX9_holds_181 rfl rfl rfl ?_
      refine q_iload_n dX9_holds_182 rfl rfl ?_
      refine q_aload_n dX9_holds_183 rfl rfl rfl ?_
      refine q_getr (r := 72) dX9_holds_184 fX9_73 rfl (ty_c hS (by decide) rfl) (hS.2 58 20 72 rfl) ?_
      refine q_iload dX9_holds_187 rfl ?_
      refine q_iald (x := nI c) (j := (960 + k)) dX9_holds_189 (ty_c hS (by decide) rfl) (ix_n (by omega) (by omega)) r2 ?_
      refine q_callV (As := [.int (nI F), .int (nI c)]) (rest := []) dX9_holds_190 vX9_367 (ty_c hS (by decide) rfl) ⟨by decide, rfl⟩ (z9_isAloneNext hS hv hF b1) rfl rfl (Nat.le_of_ble_eq_true rfl) (by omega) (by omega) (by omega) (k_p ?_)
      refine q_if_eqB (tgt := 200) dX9_holds_193 (by decide) (fun c193 => ?_) (fun c193 => ?_)
      · skip
        refine q_iconst (v := nI 0) dX9_holds_200 rfl ?_
        refine q_ireturn dX9_holds_201 rfl rfl (by omega) (by omega) ?_
        exact fin_f (by show (true && (v 6 c || (!v 0 c && v 7 c))) = false; rw [c193]; rfl)
      · skip
        refine q_iconst (v := nI 1) dX9_holds_196 rfl ?_
        refine q_goto (tgt := 201) dX9_holds_197 (by decide) ?_
        refine q_ireturn dX9_holds_201 rfl rfl (by omega) (by omega) ?_
        exact fin_t (by show (true && (v 6 c || (!v 0 c && v 7 c))) = true; rw [c193]; rfl)
  | some d =>
    rw [l0] at r1
    have b0 := k0 d l0
    cases l1 : ld q 1 k with
    | none =>
      rw [l1] at r2
      refine CT.of (by decide) (Nat.le_of_ble_eq_true rfl) ?_
      refine q_sipush (v := nI 960) dX9_holds_0 rfl ?_
      refine q_iload_n dX9_holds_3 rfl rfl ?_
      refine q_iaddN dX9_holds_4 ?_
      refine q_istore dX9_holds_5 (by decide) (ls' := [(5, .int (nI (960 + k))), (0, .ref 58), (1, .int (nI e)), (2, .int (nI F)), (3, .int (nI k)), (4, .int (nI 128))]) rfl ?_
      refine q_iload dX9_holds_7 rfl ?_
      refine q_iconst (v := nI 4) dX9_holds_9 rfl ?_
      refine q_icmp_neN (tgt := 79) dX9_holds_10 (by decide) (by omega) (by omega) (fun _ => ?_) (fun h => absurd h (by decide))
      refine q_iload dX9_holds_79 rfl ?_
      refine q_bipush (v := nI 8) dX9_holds_81 rfl ?_
      refine q_icmp_neN (tgt := 107) dX9_holds_83 (by decide) (by omega) (by omega) (fun _ => ?_) (fun h => absurd h (by decide))
      refine q_iload dX9_holds_107 rfl ?_
      refine q_bipush (v := nI 32) dX9_holds_109 rfl ?_
      refine q_icmp_neN (tgt := 146) dX9_holds_111 (by decide) (by omega) (by omega) (fun _ => ?_) (fun h => absurd h (by decide))
      refine q_aload_n dX9_holds_146 rfl rfl rfl ?_
      refine q_getr (r := 71) dX9_holds_147 fX9_70 rfl (ty_c hS (by decide) rfl) (hS.2 58 19 71 rfl) ?_
      refine q_iload dX9_holds_150 rfl ?_
      refine q_iald (x := nI d) (j := (960 + k)) dX9_holds_152 (ty_c hS (by decide) rfl) (ix_n (by omega) (by omega)) r1 ?_
      refine q_if_ltN (tgt := 171) dX9_holds_153 (by decide) (by omega) ?_
      refine q_aload_n dX9_holds_156 rfl rfl rfl ?_
      refine q_iload_n dX9_holds_157 rfl rfl ?_
      refine q_aload_n dX9_holds_158 rfl rfl rfl ?_
      refine q_getr (r := 71) dX9_holds_159 fX9_70 rfl (ty_c hS (by decide) rfl) (hS.2 58 19 71 rfl) ?_
      refine q_iload dX9_holds_162 rfl ?_
      refine q_iald (x := nI d) (j := (960 + k)) dX9_holds_164 (ty_c hS (by decide) rfl) (ix_n (by omega) (by omega)) r1 ?_
      refine q_callV (As := [.int (nI F), .int (nI d)]) (rest := []) dX9_holds_165 vX9_367 (ty_c hS (by decide) rfl) ⟨by decide, rfl⟩ (z9_isAloneNext hS hv hF b0) rfl rfl (Nat.le_of_ble_eq_true rfl) (by omega) (by omega) (by omega) (k_p ?_)
      refine q_if_eqB (tgt := 200) dX9_holds_168 (by decide) (fun c168 => ?_) (fun c168 => ?_)
      · skip
        refine q_iconst (v := nI 0) dX9_holds_200 rfl ?_
        refine q_ireturn dX9_holds_201 rfl rfl (by omega) (by omega) ?_
        exact fin_f (by show ((v 6 d || (!v 0 d && v 7 d)) && true) = false; rw [c168]; rfl)
      · skip
        refine q_aload_n dX9_holds_171 rfl rfl rfl ?_
        refine q_getr (r := 72) dX9_holds_172 fX9_73 rfl (ty_c hS (by decide) rfl) (hS.2 58 20 72 rfl) ?_
        refine q_iload dX9_holds_175 rfl ?_
        refine q_iald (x := (-1)) (j := (960 + k)) dX9_holds_177 (ty_c hS (by decide) rfl) (ix_n (by omega) (by omega)) r2 ?_
        refine q_if_lt1 (tgt := 196) dX9_holds_178 (by decide) (by decide) ?_
        refine q_iconst (v := nI 1) dX9_holds_196 rfl ?_
        refine q_goto (tgt := 201) dX9_holds_197 (by decide) ?_
        refine q_ireturn dX9_holds_201 rfl rfl (by omega) (by omega) ?_
        exact fin_t (by show ((v 6 d || (!v 0 d && v 7 d)) && true) = true; rw [c168]; rfl)
    | some c =>
      rw [l1] at r2
      have b1 := k1 c l1
      refine CT.of (by decide) (Nat.le_of_ble_eq_true rfl) ?_
      refine q_sipush (v := nI 960) dX9_holds_0 rfl ?_
      refine q_iload_n dX9_holds_3 rfl rfl ?_
      refine q_iaddN dX9_holds_4 ?_
      refine q_istore dX9_holds_5 (by decide) (ls' := [(5, .int (nI (960 + k))), (0, .ref 58), (1, .int (nI e)), (2, .int (nI F)), (3, .int (nI k)), (4, .int (nI 128))]) rfl ?_
      refine q_iload dX9_holds_7 rfl ?_
      refine q_iconst (v := nI 4) dX9_holds_9 rfl ?_
      refine q_icmp_neN (tgt := 79) dX9_holds_10 (by decide) (by omega) (by omega) (fun _ => ?_) (fun h => absurd h (by decide))
      refine q_iload dX9_holds_79 rfl ?_
      refine q_bipush (v := nI 8) dX9_holds_81 rfl ?_
      refine q_icmp_neN (tgt := 107) dX9_holds_83 (by decide) (by omega) (by omega) (fun _ => ?_) (fun h => absurd h (by decide))
      refine q_iload dX9_holds_107 rfl ?_
      refine q_bipush (v := nI 32) dX9_holds_109 rfl ?_
      refine q_icmp_neN (tgt := 146) dX9_holds_111 (by decide) (by omega) (by omega) (fun _ => ?_) (fun h => absurd h (by decide))
      refine q_aload_n dX9_holds_146 rfl rfl rfl ?_
      refine q_getr (r := 71) dX9_holds_147 fX9_70 rfl (ty_c hS (by decide) rfl) (hS.2 58 19 71 rfl) ?_
      refine q_iload dX9_holds_150 rfl ?_
      refine q_iald (x := nI d) (j := (960 + k)) dX9_holds_152 (ty_c hS (by decide) rfl) (ix_n (by omega) (by omega)) r1 ?_
      refine q_if_ltN (tgt := 171) dX9_holds_153 (by decide) (by omega) ?_
      refine q_aload_n dX9_holds_156 rfl rfl rfl ?_
      refine q_iload_n dX9_holds_157 rfl rfl ?_
      refine q_aload_n dX9_holds_158 rfl rfl rfl ?_
      refine q_getr (r := 71) dX9_holds_159 fX9_70 rfl (ty_c hS (by decide) rfl) (hS.2 58 19 71 rfl) ?_
      refine q_iload dX9_holds_162 rfl ?_
      refine q_iald (x := nI d) (j := (960 + k)) dX9_holds_164 (ty_c hS (by decide) rfl) (ix_n (by omega) (by omega)) r1 ?_
      refine q_callV (As := [.int (nI F), .int (nI d)]) (rest := []) dX9_holds_165 vX9_367 (ty_c hS (by decide) rfl) ⟨by decide, rfl⟩ (z9_isAloneNext hS hv hF b0) rfl rfl (Nat.le_of_ble_eq_true rfl) (by omega) (by omega) (by omega) (k_p ?_)
      refine q_if_eqB (tgt := 200) dX9_holds_168 (by decide) (fun c168 => ?_) (fun c168 => ?_)
      · skip
        refine q_iconst (v := nI 0) dX9_holds_200 rfl ?_
        refine q_ireturn dX9_holds_201 rfl rfl (by omega) (by omega) ?_
        first | exact fin_f (by show ((v 6 d || (!v 0 d && v 7 d)) && (v 6 c || (!v 0 c && v 7 c))) = false; rw [c168, c193]; rfl) | exact fin_f (by show ((v 6 d || (!v 0 d && v 7 d)) && (v 6 c || (!v 0 c && v 7 c))) = false; rw [c168]; rfl)
      · skip
        refine q_aload_n dX9_holds_171 rfl rfl rfl ?_
        refine q_getr (r := 72) dX9_holds_172 fX9_73 rfl (ty_c hS (by decide) rfl) (hS.2 58 20 72 rfl) ?_
        refine q_iload dX9_holds_175 rfl ?_
        refine q_iald (x := nI c) (j := (960 + k)) dX9_holds_177 (ty_c hS (by decide) rfl) (ix_n (by omega) (by omega)) r2 ?_
        refine q_if_ltN (tgt := 196) dX9_holds_178 (by decide) (by omega) ?_
        refine q_aload_n dX9_holds_181 rfl rfl rfl ?_
        refine q_iload_n dX9_holds_182 rfl rfl ?_
        refine q_aload_n dX9_holds_183 rfl rfl rfl ?_
        refine q_getr (r := 72) dX9_holds_184 fX9_73 rfl (ty_c hS (by decide) rfl) (hS.2 58 20 72 rfl) ?_
        refine q_iload dX9_holds_187 rfl ?_
        refine q_iald (x := nI c) (j := (960 + k)) dX9_holds_189 (ty_c hS (by decide) rfl) (ix_n (by omega) (by omega)) r2 ?_
        refine q_callV (As := [.int (nI F), .int (nI c)]) (rest := []) dX9_holds_190 vX9_367 (ty_c hS (by decide) rfl) ⟨by decide, rfl⟩ (z9_isAloneNext hS hv hF b1) rfl rfl (Nat.le_of_ble_eq_true rfl) (by omega) (by omega) (by omega) (k_p ?_)
        refine q_if_eqB (tgt := 200) dX9_holds_193 (by decide) (fun c193 => ?_) (fun c193 => ?_)
        · skip
          refine q_iconst (v := nI 0) dX9_holds_200 rfl ?_
          refine q_ireturn dX9_holds_201 rfl rfl (by omega) (by omega) ?_
          first | exact fin_f (by show ((v 6 d || (!v 0 d && v 7 d)) && (v 6 c || (!v 0 c && v 7 c))) = false; rw [c168, c193]; rfl) | exact fin_f (by show ((v 6 d || (!v 0 d && v 7 d)) && (v 6 c || (!v 0 c && v 7 c))) = false; rw [c168]; rfl)
        · skip
          refine q_iconst (v := nI 1) dX9_holds_196 rfl ?_
          refine q_goto (tgt := 201) dX9_holds_197 (by decide) ?_
          refine q_ireturn dX9_holds_201 rfl rfl (by omega) (by omega) ?_
          exact fin_t (by show ((v 6 d || (!v 0 d && v 7 d)) && (v 6 c || (!v 0 c && v 7 c))) = true; rw [c168, c193]; rfl)
theorem z9_holds (hS : SK σ) (hR : MR0 σ 4 q) (hc : BC q) (hw : WFs q) (hB : NB q) (hx : psX q = false) (hv : fcS σ F (NN q) v) (hF : F + NN q ≤ 38400) {e k j : Nat} (he : e < (psM q).length) (hk : k < NN q) (hj : j = 2 ∨ j = 3 ∨ j = 5 ∨ j = 7) (h : HC q e j v) : CT g mX9_holds 2 0 0 [.ref 58, .int (nI e), .int (nI F), .int (nI k), .int (nI (2 ^ j))] σ (PQ σ (.int (bi (dcd (FJ q e j (v j) k))))) := by
  have h32 := hw.2.2.2.1
  rcases hj with rfl | rfl | rfl | rfl
  · exact z9_holds2 hS hR hc hw hB hx hv hF he hk h
  · exact z9_holds3 hS hR hc hw hB hv hF (by omega) hk h
  · exact z9_holds5 hS hR hc hw hB hv hF (by omega) hk h
  · exact z9_holds7 hS hR hc hw hB hv hF (by omega) hk h
end MHO
