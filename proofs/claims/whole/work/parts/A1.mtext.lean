/-! The model's parser: a text, read. -/
def PbQ (σ0 : HS) (T : Nat → Nat) (L : Nat) : HS → Prop := fun σ' => FR9 nwr σ0 σ' ∧ ((∃ z, pAll T L = .error z ∧ BS σ' T L (.error z)) ∨ ∃ q, pAll T L = .ok q ∧ BC q ∧ WFs q ∧ 0 < (psF q).length ∧ (nmA q).length ≤ 80 ∧ MPS σ' q ∧ sI σ' 58 32 = nI 0)
/-- behind the reading of a text -/
def TxQ (σ0 : HS) (T : Nat → Nat) (L : Nat) : HS → Prop := fun σ' => FR9 nwr σ0 σ' ∧ ((∃ e, PAll T L (.inl e) ∧ (1 ≤ e.1 ∧ e.1 < 10) ∧ sI σ' 58 32 = nI e.1 ∧ sI σ' 58 33 = nI e.2) ∨ ∃ q, PAll T L (.inr q) ∧ BC q ∧ WFs q ∧ 0 < (psF q).length ∧ MPS σ' q ∧ sI σ' 58 32 = nI 0)
section MTXT
variable {g : GG} {σ σ0 : HS} {T : Nat → Nat} {L : Nat} {q : PS} {Z : List Frame → Array Value → State → State → Prop} {ls : List (Nat × Value)} {p : Int32}
theorem y9_pbE (hS : SK σ) {z : Nat × Nat} (hy : pAll T L = .error z) (hB : BS σ T L (.error z)) (f : FR9 nwr σ0 σ) (K : ∀ σ', PbQ σ0 T L σ' → WA g mX9_parse 8 0 0 Z 0 0 95 [(0, .ref 58), (1, .int p)] [] σ') : WA g mX9_parse 8 0 0 Z 0 0 74 [(0, .ref 58), (1, .int p)] [] σ := by
  have b1 := hB.1
  have b2 := hB.2.1
  refine q_aload_n dX9_parse_74 rfl rfl rfl ?_
  refine q_geti (x := nI z.1) dX9_parse_75 fX9_110 rfl (ty_c hS (by decide) rfl) b1 ?_
  refine q_if_neN (tgt := 95) dX9_parse_78 (by decide) (by omega) (fun c78 => ?_) (fun c78 => ?_)
  · skip
    exact K σ ⟨f, Or.inl ⟨z, hy, hB⟩⟩
  · exact absurd c78 (by omega)
theorem y9_pb (K : ∀ σ', PbQ σ0 T L σ' → WA g mX9_parse 8 0 0 Z 0 0 95 [(0, .ref 58), (1, .int p)] [] σ') : ∀ (f b k : Nat) (q : PS) (σ : HS), b + f = 40 → (psF q).length = b → BC q → WFs q → (nmA q).length ≤ 2 * b → (b ≠ 0 ∨ tk T L k ≠ 0) → SK σ → MTX σ L T → BS σ T L (.ok k) → MPS σ q → FR9 nwr σ0 σ → pBks T L f b k q = pAll T L → WA g mX9_parse 8 0 0 Z 0 0 74 [(0, .ref 58), (1, .int p)] [] σ := by
  have stop : ∀ (f b k : Nat) (q : PS) (σ : HS), b + f = 40 → (psF q).length = b → BC q → WFs q → (nmA q).length ≤ 2 * b → b ≠ 0 → tk T L k = 0 → SK σ → BS σ T L (.ok k) → MPS σ q → FR9 nwr σ0 σ → pBks T L f b k q = pAll T L → WA g mX9_parse 8 0 0 Z 0 0 74 [(0, .ref 58), (1, .int p)] [] σ := fun f b k q σ h1 h2 h3 h4 h5 h6 hk hS hB hM hf hA => by
    obtain ⟨b1, b2⟩ := hB
    have s0 := (tkd_0 b2.2.2).mpr hk
    have e : pAll T L = .ok q := by
      rw [← hA]
      cases f with
      | zero => exact if_pos hk
      | succ f => exact if_pos ⟨h6, hk⟩
    refine q_aload_n dX9_parse_74 rfl rfl rfl ?_
    refine q_geti (x := nI 0) dX9_parse_75 fX9_110 rfl (ty_c hS (by decide) rfl) b1 ?_
    refine q_if_neN (tgt := 95) dX9_parse_78 (by decide) (by omega) (fun h => absurd h (by decide)) (fun _ => ?_)
    refine q_aload_n dX9_parse_81 rfl rfl rfl ?_
    refine q_geti (x := nI 0) dX9_parse_82 fX9_17 rfl (ty_c hS (by decide) rfl) s0 ?_
    refine q_if_eqN (tgt := 95) dX9_parse_85 (by decide) (by omega) (fun _ => ?_) (fun h => absurd h (by decide))
    exact K σ ⟨hf, Or.inr ⟨q, e, h3, h4, by omega, by omega, hM, b1⟩⟩
  intro f
  induction f with
  | zero =>
    intro b k q σ h1 h2 h3 h4 h5 h6 hS hT hB hM hf hA
    by_cases hk : tk T L k = 0
    · exact stop 0 b k q σ h1 h2 h3 h4 h5 (by omega) hk hS hB hM hf hA
    · obtain ⟨b1, b2⟩ := hB
      have s0 : ¬ sI σ 58 2 = 0 := fun z => hk ((tkd_0 b2.2.2).mp z)
      have e : RdY T L b k q = .error (er T L k 3) := if_pos (by omega)
      have e2 : pAll T L = .error (er T L k 3) := by rw [← hA]; exact if_neg hk
      have nx : ∀ σ', RbQ σ T L b (RdY T L b k q) σ' → WA g mX9_parse 8 0 0 Z 0 0 74 [(0, .ref 58), (1, .int p)] [] σ' := fun σ' hq => by
        obtain ⟨f1, hq⟩ := hq
        rcases hq with ⟨z, z1, z2⟩ | ⟨r, z1, -⟩
        · rw [e] at z1; cases z1
          exact y9_pbE (SK.fq f1 hS) e2 z2 (hf.tr f1) K
        · rw [e] at z1; cases z1
      refine q_aload_n dX9_parse_74 rfl rfl rfl ?_
      refine q_geti (x := nI 0) dX9_parse_75 fX9_110 rfl (ty_c hS (by decide) rfl) b1 ?_
      refine q_if_neN (tgt := 95) dX9_parse_78 (by decide) (by omega) (fun h => absurd h (by decide)) (fun _ => ?_)
      refine q_aload_n dX9_parse_81 rfl rfl rfl ?_
      refine q_geti (x := sI σ 58 2) dX9_parse_82 fX9_17 rfl (ty_c hS (by decide) rfl) rfl ?_
      refine q_if_eq (tgt := 95) dX9_parse_85 (by decide) (fun c85 => ?_) (fun c85 => ?_)
      · exact absurd c85 s0
      · skip
        refine q_aload_n dX9_parse_88 rfl rfl rfl ?_
        refine q_callV (As := []) (rest := []) dX9_parse_89 vX9_304 (ty_c hS (by decide) rfl) ⟨by decide, rfl⟩ (z9_readBlock hS hT ⟨b1, b2⟩ hM h3 h4 h2 h5) rfl rfl (Nat.le_of_ble_eq_true rfl) (by omega) (by omega) (by omega) (k_v (fun s89 q89 => ?_))
        have zS89 : SK s89 := (SK.fq q89.1 hS)
        refine q_goto (tgt := 74) dX9_parse_92 (by decide) ?_
        exact nx _ q89
  | succ f ih =>
    intro b k q σ h1 h2 h3 h4 h5 h6 hS hT hB hM hf hA
    have hT' : ∀ i, i < L → T i < 256 := fun i hi => (hT.2.2 i hi).2
    by_cases hk : tk T L k = 0
    · exact stop (f + 1) b k q σ h1 h2 h3 h4 h5 (by omega) hk hS hB hM hf hA
    · obtain ⟨b1, b2⟩ := hB
      have s0 : ¬ sI σ 58 2 = 0 := fun z => hk ((tkd_0 b2.2.2).mp z)
      have e : RdY T L b k q = pBk T L b k q := if_neg (by omega)
      have e2 : pAll T L = (pBk T L b k q).bind fun r => pBks T L f (b + 1) r.1 r.2 := by rw [← hA]; exact if_neg fun z => hk z.2
      have nx : ∀ σ', RbQ σ T L b (RdY T L b k q) σ' → WA g mX9_parse 8 0 0 Z 0 0 74 [(0, .ref 58), (1, .int p)] [] σ' := fun σ' hq => by
        obtain ⟨f1, hq⟩ := hq
        rw [e] at hq
        rcases hq with ⟨z, z1, z2⟩ | ⟨r, z1, z2, z3, z4⟩
        · rw [z1] at e2
          exact y9_pbE (SK.fq f1 hS) e2 z2 (hf.tr f1) K
        · rw [z1] at e2
          obtain ⟨k2, q'⟩ := r
          have hw := pBk_w hT' h3 h4 (by omega) (by rw [h2]; exact z1)
          exact ih (b + 1) k2 q' σ' (by omega) (by have := hw.2.2; omega) hw.1 hw.2.1 z4 (Or.inl (by omega)) (SK.fq f1 hS) (hT.nw f1) z2 z3 (hf.tr f1) e2.symm
      refine q_aload_n dX9_parse_74 rfl rfl rfl ?_
      refine q_geti (x := nI 0) dX9_parse_75 fX9_110 rfl (ty_c hS (by decide) rfl) b1 ?_
      refine q_if_neN (tgt := 95) dX9_parse_78 (by decide) (by omega) (fun h => absurd h (by decide)) (fun _ => ?_)
      refine q_aload_n dX9_parse_81 rfl rfl rfl ?_
      refine q_geti (x := sI σ 58 2) dX9_parse_82 fX9_17 rfl (ty_c hS (by decide) rfl) rfl ?_
      refine q_if_eq (tgt := 95) dX9_parse_85 (by decide) (fun c85 => ?_) (fun c85 => ?_)
      · exact absurd c85 s0
      · skip
        refine q_aload_n dX9_parse_88 rfl rfl rfl ?_
        refine q_callV (As := []) (rest := []) dX9_parse_89 vX9_304 (ty_c hS (by decide) rfl) ⟨by decide, rfl⟩ (z9_readBlock hS hT ⟨b1, b2⟩ hM h3 h4 h2 h5) rfl rfl (Nat.le_of_ble_eq_true rfl) (by omega) (by omega) (by omega) (k_v (fun s89 q89 => ?_))
        have zS89 : SK s89 := (SK.fq q89.1 hS)
        refine q_goto (tgt := 74) dX9_parse_92 (by decide) ?_
        exact nx _ q89
/-- behind the blocks: their names -/
theorem y9_pa95 (hS : SK σ) (h : PbQ σ0 T L σ) (K : ∀ σ', TxQ σ0 T L σ' → WA g mX9_parse 8 0 0 Z 0 0 106 [(0, .ref 58), (1, .int p)] [] σ') : WA g mX9_parse 8 0 0 Z 0 0 95 [(0, .ref 58), (1, .int p)] [] σ := by
  obtain ⟨f, h⟩ := h
  rcases h with ⟨z, z1, z2, z3, z4⟩ | ⟨q, z1, z2, z3, z4, z5, z6, z7⟩
  · skip
    refine q_aload_n dX9_parse_95 rfl rfl rfl ?_
    refine q_geti (x := nI z.1) dX9_parse_96 fX9_110 rfl (ty_c hS (by decide) rfl) z2 ?_
    refine q_if_neN (tgt := 106) dX9_parse_99 (by decide) (by omega) (fun c99 => ?_) (fun c99 => ?_)
    · skip
      exact K σ ⟨f, Or.inl ⟨z, Or.inl z1, z3, z2, z4⟩⟩
    · exact absurd c99 (by omega)
  · have nx : ∀ σ', EnQ σ q σ' → TxQ σ0 T L σ' := fun σ' hq => by
      obtain ⟨f1, hq⟩ := hq
      refine ⟨f.tr (f1.mono fun _ _ => enq.nw), ?_⟩
      rcases hq with ⟨e, e1, e2, e3, e4⟩ | ⟨e1, e2, e3, e4⟩
      · exact Or.inl ⟨e, Or.inr ⟨q, z1, e1⟩, e2, e3, e4⟩
      · exact Or.inr ⟨q, ⟨z1, e1, e2, e3⟩, z2, z3, z4, z6.en f1, e4⟩
    refine q_aload_n dX9_parse_95 rfl rfl rfl ?_
    refine q_geti (x := nI 0) dX9_parse_96 fX9_110 rfl (ty_c hS (by decide) rfl) z7 ?_
    refine q_if_neN (tgt := 106) dX9_parse_99 (by decide) (by omega) (fun h => absurd h (by decide)) (fun _ => ?_)
    refine q_aload_n dX9_parse_102 rfl rfl rfl ?_
    refine q_callV (As := []) (rest := []) dX9_parse_103 vX9_307 (ty_c hS (by decide) rfl) ⟨by decide, rfl⟩ (z9_ends z6 hS z2 z3 z4 z7 (by omega)) rfl rfl (Nat.le_of_ble_eq_true rfl) (by omega) (by omega) (by omega) (k_v (fun s103 q103 => ?_))
    have zS103 : SK s103 := (SK.fq q103.1 hS)
    exact K _ (nx _ q103)
def paS (σ : HS) : HS := uI (uI (uI (uI (uI (uI (uI σ 61 4 (nI 0)) 62 4 (nI 0)) 64 4 (nI 0)) 58 41 (nI 0)) 58 32 (nI 0)) 58 38 (nI 0)) 58 4 (nI 0)
theorem paS_f : FR9 nwr σ (paS σ) := ((((((FR9.rf.uI (by unfold nwr; omega)).uI (by unfold nwr; omega)).uI (by unfold nwr; omega)).uI (by unfold nwr; omega)).uI (by unfold nwr; omega)).uI (by unfold nwr; omega)).uI (by unfold nwr; omega)
theorem paS_m : MPS (paS σ) ps0 := by
  unfold paS
  refine ⟨?_, ?_, fun i hi => absurd hi (by show ¬ i < 0; omega), fun i hi => absurd hi (by show ¬ i < 0; omega), ⟨?_, fun i hi => absurd hi (by show ¬ i < 0; omega)⟩, ?_, ?_, fun i hi => absurd hi (by show ¬ i < 0; omega)⟩
  · rw [rd_off (by omega), rd_off (by omega), rd_off (by omega), rd_off (by omega), rd_off (by omega), rd_off (by omega)]; exact uI_self
  · rw [rd_off (by omega), rd_off (by omega), rd_off (by omega), rd_off (by omega), rd_off (by omega)]; exact uI_self
  · rw [rd_off (by omega), rd_off (by omega), rd_off (by omega), rd_off (by omega)]; exact uI_self
  · rw [rd_ne (by omega)]; exact uI_self
  · rw [rd_ne (by omega), rd_ne (by omega), rd_ne (by omega)]; exact uI_self
theorem BC_0 : BC ps0 := ⟨rfl, by show 0 ≤ 40; omega, by show 0 ≤ 160; omega, rfl, fun j hj => absurd hj (by show ¬ j < 0; omega), fun j hj => absurd hj (by show ¬ j < 0; omega)⟩
theorem WFs_0 : WFs ps0 := ⟨fun r hr => (by cases hr), fun r hr => (by cases hr), List.nodup_nil, by show 0 ≤ 32; omega, rfl⟩
theorem paN (hS : SK σ) (hT : MTX σ L T) : CT g mX9_next 2 0 0 [.ref 58] (paS σ) (fun r σ' => r = none ∧ (LX9 (paS σ) σ' ∧ MTk σ' T L 0)) := by
  refine CT.mono ?_ (z9_next (SK.fq (paS_f (σ := σ)) hS) (hT.nw paS_f) (e0 := 0) (Nat.zero_le _) uI_self)
  rintro r σ' ⟨a, b⟩
  exact ⟨a, b.1, mtk (k := 0) b⟩
theorem y9_pa11 (hS : SK σ) (hT : MTX σ L T) (K : ∀ σ', TxQ σ T L σ' → WA g mX9_parse 8 0 0 Z 0 0 106 [(0, .ref 58), (1, .int p)] [] σ') : WA g mX9_parse 8 0 0 Z 0 0 11 [(0, .ref 58), (1, .int p)] [] σ := by
  have hT' : ∀ i, i < L → T i < 256 := fun i hi => (hT.2.2 i hi).2
  have f0 : FR9 nwr σ (paS σ) := paS_f
  have K2 : ∀ σ', PbQ σ T L σ' → SK σ' → WA g mX9_parse 8 0 0 Z 0 0 95 [(0, .ref 58), (1, .int p)] [] σ' := fun σ' h1 h2 => y9_pa95 h2 h1 K
  have K3 : ∀ σ', PbQ σ T L σ' → WA g mX9_parse 8 0 0 Z 0 0 95 [(0, .ref 58), (1, .int p)] [] σ' := fun σ' h1 => K2 σ' h1 (SK.fq h1.1 hS)
  have go : ∀ σ', LX9 (paS σ) σ' ∧ MTk σ' T L 0 → WA g mX9_parse 8 0 0 Z 0 0 56 [(0, .ref 58), (1, .int p)] [] σ' := fun σ' ⟨h1, h2⟩ => by
    have b1 : sI σ' 58 32 = nI 0 := (h1.2.2.2.2 32 (by omega)).trans ((rd_ne (by omega)).trans ((rd_ne (by omega)).trans uI_self))
    have f1 : FR9 nwr σ σ' := f0.tr (h1.lb.mono fun h i z => by unfold lxb at z; unfold nwr; omega)
    have hS' : SK σ' := SK.fq f1 hS
    by_cases hk : tk T L 0 = 0
    · have s0 := (tkd_0 h2.2.2).mpr hk
      have e : pAll T L = .error (er T L 0 2) := by
        unfold pAll pBks
        rw [if_neg (fun z => z.1 rfl)]
        have : pBk T L 0 0 ps0 = .error (er T L 0 2) := by unfold pBk; exact if_neg (by omega)
        rw [this]; rfl
      have nx : WA g mX9_parse 8 0 0 Z 0 0 74 [(0, .ref 58), (1, .int p)] [] (erM σ' (er T L 0 2)) := y9_pbE (SK.fq (erM_lb (σ := σ') (e := er T L 0 2)) hS') e (erM_bs (er_b (by omega))) (f1.tr (erM_lb.mono fun h i z => by unfold lxb at z; unfold nwr; omega)) K3
      refine q_aload_n dX9_parse_56 rfl rfl rfl ?_
      refine q_aload_n dX9_parse_57 rfl rfl rfl ?_
      refine q_geti (x := nI 0) dX9_parse_58 fX9_17 rfl (ty_c hS' (by decide) rfl) s0 ?_
      refine q_if_eqN (tgt := 68) dX9_parse_61 (by decide) (by omega) (fun _ => ?_) (fun h => absurd h (by decide))
      refine q_iconst (v := nI 0) dX9_parse_68 rfl ?_
      refine q_iconst (v := nI 2) dX9_parse_69 rfl ?_
      refine q_callV (As := [.int (nI 0), .int (nI 2)]) (rest := []) dX9_parse_70 vX9_232 (ty_c hS' (by decide) rfl) ⟨by decide, rfl⟩ (z9_must_n hS' b1 h2 (by omega)) rfl rfl (Nat.le_of_ble_eq_true rfl) (by omega) (by omega) (by omega) (k_p ?_)
      refine q_pop dX9_parse_73 rfl ?_
      exact nx
    · have s0 : ¬ sI σ' 58 2 = 0 := fun z => hk ((tkd_0 h2.2.2).mp z)
      have nx : WA g mX9_parse 8 0 0 Z 0 0 74 [(0, .ref 58), (1, .int p)] [] σ' := y9_pb K3 40 0 0 ps0 σ' (by omega) rfl BC_0 WFs_0 (Nat.zero_le _) (Or.inr hk) hS' (hT.nw f1) ⟨b1, h2⟩ ((paS_m (σ := σ)).lb h1.lb) f1 rfl
      refine q_aload_n dX9_parse_56 rfl rfl rfl ?_
      refine q_aload_n dX9_parse_57 rfl rfl rfl ?_
      refine q_geti (x := sI σ' 58 2) dX9_parse_58 fX9_17 rfl (ty_c hS' (by decide) rfl) rfl ?_
      refine q_if_eq (tgt := 68) dX9_parse_61 (by decide) (fun c61 => ?_) (fun c61 => ?_)
      · exact absurd c61 s0
      · skip
        refine q_iconst (v := nI 1) dX9_parse_64 rfl ?_
        refine q_goto (tgt := 69) dX9_parse_65 (by decide) ?_
        refine q_iconst (v := nI 2) dX9_parse_69 rfl ?_
        refine q_callV (As := [.int (nI 1), .int (nI 2)]) (rest := []) dX9_parse_70 vX9_232 (ty_c hS' (by decide) rfl) ⟨by decide, rfl⟩ (z9_must_y hS' b1) rfl rfl (Nat.le_of_ble_eq_true rfl) (by omega) (by omega) (by omega) (k_p ?_)
        refine q_pop dX9_parse_73 rfl ?_
        exact nx
  refine q_aload_n dX9_parse_11 rfl rfl rfl ?_
  refine q_getr (r := 61) dX9_parse_12 fX9_40 rfl (ty_c hS (by decide) rfl) (hS.2 58 9 61 rfl) ?_
  refine q_iconst (v := nI 4) dX9_parse_15 rfl ?_
  refine q_iconst (v := nI 0) dX9_parse_16 rfl ?_
  refine q_iast (j := 4) dX9_parse_17 (ty_c hS (by decide) rfl) (ix_n (by omega) (by omega)) ?_
  refine q_aload_n dX9_parse_18 rfl rfl rfl ?_
  refine q_getr (r := 62) dX9_parse_19 fX9_43 rfl (ty_c hS (by decide) rfl) (hS.2 58 10 62 rfl) ?_
  refine q_iconst (v := nI 4) dX9_parse_22 rfl ?_
  refine q_iconst (v := nI 0) dX9_parse_23 rfl ?_
  refine q_iast (j := 4) dX9_parse_24 (ty_c hS (by decide) rfl) (ix_n (by omega) (by omega)) ?_
  refine q_aload_n dX9_parse_25 rfl rfl rfl ?_
  refine q_getr (r := 64) dX9_parse_26 fX9_49 rfl (ty_c hS (by decide) rfl) (hS.2 58 12 64 rfl) ?_
  refine q_iconst (v := nI 4) dX9_parse_29 rfl ?_
  refine q_iconst (v := nI 0) dX9_parse_30 rfl ?_
  refine q_iast (j := 4) dX9_parse_31 (ty_c hS (by decide) rfl) (ix_n (by omega) (by omega)) ?_
  refine q_aload_n dX9_parse_32 rfl rfl rfl ?_
  refine q_iconst (v := nI 0) dX9_parse_33 rfl ?_
  refine q_puti dX9_parse_34 fX9_138 rfl (Or.inl rfl) (ty_c hS (by decide) rfl) ?_
  refine q_aload_n dX9_parse_37 rfl rfl rfl ?_
  refine q_iconst (v := nI 0) dX9_parse_38 rfl ?_
  refine q_puti dX9_parse_39 fX9_110 rfl (Or.inl rfl) (ty_c hS (by decide) rfl) ?_
  refine q_aload_n dX9_parse_42 rfl rfl rfl ?_
  refine q_iconst (v := nI 0) dX9_parse_43 rfl ?_
  refine q_putz dX9_parse_44 fX9_128 rfl (Or.inl rfl) (ty_c hS (by decide) rfl) (Or.inl rfl) ?_
  refine q_aload_n dX9_parse_47 rfl rfl rfl ?_
  refine q_iconst (v := nI 0) dX9_parse_48 rfl ?_
  refine q_puti dX9_parse_49 fX9_23 rfl (Or.inl rfl) (ty_c hS (by decide) rfl) ?_
  refine q_aload_n dX9_parse_52 rfl rfl rfl ?_
  refine q_callV (As := []) (rest := []) dX9_parse_53 vX9_236 (ty_c hS (by decide) rfl) ⟨by decide, rfl⟩ (paN (σ := σ) hS hT) rfl rfl (Nat.le_of_ble_eq_true rfl) (by omega) (by omega) (by omega) (k_v (fun s53 q53 => ?_))
  have zS53 : SK s53 := (SK.x9 q53.1 (SK.fq f0 hS))
  exact go _ q53
end MTXT
