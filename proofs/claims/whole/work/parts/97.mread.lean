/-! The model's parser: blocks. -/
section MRD
variable {g : GG} {σ : HS} {T : Nat → Nat} {L k n b kd : Nat} {q : PS}
theorem nmR_le {r : REC} : (nmR r).length ≤ 2 := by
  unfold nmR
  cases un (rW0 r) <;> cases un (rW1 r) <;> simp
theorem nmA_snoc {r : REC} {ss : List SUM} {m t : Bool} : nmA (q1 q r ss m t) = nmA q ++ nmR r := by
  show ((psS q ++ [r]).flatMap nmR) = _
  rw [List.flatMap_append, List.flatMap_singleton]; rfl
/-- what a statement leaves -/
theorem stY_ok (hT : ∀ i, i < L → T i < 256) {k2 : Nat} {q' : PS} (h : StY T L b k q = .ok (kd, k2, q')) (h1 : BO q) (h2 : WFs q) (h3 : (psF q).length = b + 1) : WFs q' ∧ psF q' = psF q ∧ (psS q').length = (psS q).length + 1 ∧ (psS q).length < 160 ∧ (kd < 4 → BO q' ∧ (nmA q').length = (nmA q).length) ∧ (4 ≤ kd → BC q' ∧ (nmA q').length ≤ (nmA q).length + 2) := by
  unfold StY at h
  cases hk : pKd T L k with
  | none => rw [hk] at h; cases h
  | some kd' =>
    rw [hk] at h
    by_cases hq : 160 ≤ (psS q).length
    · have h : (Except.error (er T L k 3) : PR (Nat × Nat × PS)) = .ok (kd, k2, q') := (if_pos hq).symm.trans h
      cases h
    · have h : ((pSt T L kd' k).bind fun s => (pSg T L 59 s.2.1).bind fun k2 => (.ok (kd', k2, psAdd T L q b s.1 s.2.2) : PR (Nat × Nat × PS))) = .ok (kd, k2, q') := (if_neg hq).symm.trans h
      obtain ⟨s, x3, h⟩ := exb h
      obtain ⟨k3, x4, h⟩ := exb h
      cases h
      obtain ⟨s, k1, t⟩ := s
      have hw := pSt_wk hT hk x3
      have hwf := psAdd_wfs (b := b) h2 hw
      have hk1 : s.1 = kd ∨ (kd = 1 ∧ s.1 = 0) := hw.1
      have x2 : (psS q).length < 160 := by omega
      refine ⟨hwf, by rw [psAdd_eq]; rfl, ?_, x2, fun z => ?_, fun z => ?_⟩
      · rw [psAdd_eq]; show (psS q ++ [_]).length = _; simp
      · refine ⟨?_, ?_⟩
        · rw [psAdd_eq]; exact BO_add h1 x2 (by show b = _; omega) (by show s.1 < 4; omega)
        · rw [psAdd_eq]
          show (nmA (q1 q _ _ _ _)).length = _
          rw [nmA_snoc]
          have e : nmR (recS T L b s (sumS (psM q) s.2.2.2.2.1).1) = [] := by
            obtain ⟨-, -, -, -, -, ⟨w0, w1, e0, e1, -, -, e4, -⟩, -⟩ := hw
            obtain ⟨z0, z1⟩ := e4 (by omega)
            show (match un (wyV T L s.2.2.2.2.2.1) with | some t => [(_, t)] | none => []) ++ (match un (wyV T L s.2.2.2.2.2.2) with | some t => [(_, t)] | none => []) = _
            rw [e0, e1, z0, z1]; rfl
          rw [e, List.append_nil]
      · refine ⟨?_, ?_⟩
        · rw [psAdd_eq]; exact BO_end h1 x2 (by show b = _; omega) (by show 4 ≤ s.1; omega)
        · rw [psAdd_eq]
          show (nmA (q1 q _ _ _ _)).length ≤ _
          rw [nmA_snoc, List.length_append]
          exact Nat.add_le_add_left nmR_le _
def RbQ (σ0 : HS) (T : Nat → Nat) (L b : Nat) (y : PR (Nat × PS)) : HS → Prop := fun σ' => FR9 nwr σ0 σ' ∧ ((∃ z, y = .error z ∧ BS σ' T L (.error z)) ∨ ∃ r, y = .ok r ∧ BS σ' T L (.ok r.1) ∧ MPS σ' r.2 ∧ (nmA r.2).length ≤ 2 * (b + 1))
theorem y9_rbE (hS : SK σ) {σ0 : HS} {y : PR (Nat × PS)} {z : Nat × Nat} (hy : y = .error z) (hB : BS σ T L (.error z)) (f : FR9 nwr σ0 σ) {v1 v2 : Value} {d : Nat} : WA g mX9_readBlock d 0 0 (ZM g (fun r σ' => r = none ∧ RbQ σ0 T L b y σ') 0 0) 0 0 104 [(0, .ref 58), (1, v1), (2, v2)] [] σ := by
  have b1 := hB.1
  have b2 := hB.2.1
  refine q_pk [0] rfl ?_
  refine q_aload_n dX9_readBlock_104 rfl rfl rfl ?_
  refine q_geti (x := nI z.1) dX9_readBlock_105 fX9_110 rfl (ty_c hS (by decide) rfl) b1 ?_
  refine q_if_neN (tgt := 123) dX9_readBlock_108 (by decide) (by omega) (fun c108 => ?_) (fun c108 => ?_)
  · skip
    refine q_return dX9_readBlock_123 rfl (by omega) (by omega) ?_
    exact ⟨rfl, f, Or.inl ⟨z, hy, hB⟩⟩
  · exact absurd c108 (by omega)
theorem y9_rbK (hS : SK σ) {σ0 : HS} {y : PR (Nat × PS)} {r : Nat × PS} (hy : y = .ok r) (hB : BS σ T L (.ok r.1)) (hM : MPS σ r.2) (hn : (nmA r.2).length ≤ 2 * (b + 1)) (f : FR9 nwr σ0 σ) {v1 : Value} {d : Nat} : WA g mX9_readBlock d 0 0 (ZM g (fun r σ' => r = none ∧ RbQ σ0 T L b y σ') 0 0) 0 0 104 [(0, .ref 58), (1, v1), (2, .int (bi true))] [] σ := by
  have b1 := hB.1
  refine q_pk [0, 2] rfl ?_
  refine q_aload_n dX9_readBlock_104 rfl rfl rfl ?_
  refine q_geti (x := nI 0) dX9_readBlock_105 fX9_110 rfl (ty_c hS (by decide) rfl) b1 ?_
  refine q_if_neN (tgt := 123) dX9_readBlock_108 (by decide) (by omega) (fun h => absurd h (by decide)) (fun _ => ?_)
  refine q_iload_n dX9_readBlock_111 rfl rfl ?_
  refine q_if_neB (tgt := 123) dX9_readBlock_112 (by decide) (fun _ => ?_) (fun h => absurd h (by decide))
  refine q_return dX9_readBlock_123 rfl (by omega) (by omega) ?_
  exact ⟨rfl, f, Or.inr ⟨r, hy, hB, hM, hn⟩⟩
theorem y9_rb {σ0 : HS} (hb : b < 40) : ∀ (f k : Nat) (q : PS) (σ : HS), 161 ≤ f + (psS q).length → BO q → WFs q → (psF q).length = b + 1 → (nmA q).length ≤ 2 * b → SK σ → MTX σ L T → BS σ T L (.ok k) → MPS σ q → FR9 nwr σ0 σ → WA g mX9_readBlock 7 0 0 (ZM g (fun r σ' => r = none ∧ RbQ σ0 T L b (pSts T L b f k q) σ') 0 0) 0 0 104 [(0, .ref 58), (1, .int (nI b)), (2, .int (bi false))] [] σ := by
  intro f
  induction f with
  | zero =>
    intro k q σ h1 h2 _ _ _ _ _ _ _ _
    have := h2.2.2.2.1
    omega
  | succ f ih =>
    intro k q σ h1 h2 h3 h4 h5 hS hT hB hM hf
    have b1 := hB.1
    have hT' : ∀ i, i < L → T i < 256 := fun i hi => (hT.2.2 i hi).2
    have nx : ∀ e σ', StQ σ T L b k q e σ' → WA g mX9_readBlock 7 0 0 (ZM g (fun r σ' => r = none ∧ RbQ σ0 T L b (pSts T L b (f + 1) k q) σ') 0 0) 0 0 104 [(0, .ref 58), (1, .int (nI b)), (2, .int (bi e))] [] σ' := fun e σ' hq => by
      obtain ⟨f1, hq⟩ := hq
      rw [pSts_st]
      rcases hq with ⟨z, z1, z2⟩ | ⟨kd, k2, q', z1, z2, z3, z4⟩
      · exact y9_rbE (SK.fq f1 hS) (by rw [z1]; rfl) z2 (hf.tr f1)
      · obtain ⟨w1, w2, w3, w4, w5, w6⟩ := stY_ok hT' z1 h2 h3 h4
        by_cases h4k : 4 ≤ kd
        · have ez : (StY T L b k q).bind (fun r => if 4 ≤ r.1 then .ok (r.2.1, r.2.2) else pSts T L b f r.2.1 r.2.2) = .ok (k2, q') := by rw [z1]; exact if_pos h4k
          have ee : e = true := by rw [z2]; exact decide_eq_true h4k
          rw [ee]
          exact y9_rbK (SK.fq f1 hS) ez z3 z4 (by have := (w6 h4k).2; show (nmA q').length ≤ _; omega) (hf.tr f1)
        · have ez : (StY T L b k q).bind (fun r => if 4 ≤ r.1 then .ok (r.2.1, r.2.2) else pSts T L b f r.2.1 r.2.2) = pSts T L b f k2 q' := by rw [z1]; exact if_neg h4k
          have ee : e = false := by rw [z2]; exact decide_eq_false h4k
          rw [ee, ez]
          exact ih k2 q' σ' (by omega) (w5 (by omega)).1 w1 (by rw [w2]; exact h4) (by have := (w5 (by omega)).2; omega) (SK.fq f1 hS) (hT.nw f1) z3 z4 (hf.tr f1)
    refine q_aload_n dX9_readBlock_104 rfl rfl rfl ?_
    refine q_geti (x := nI 0) dX9_readBlock_105 fX9_110 rfl (ty_c hS (by decide) rfl) b1 ?_
    refine q_if_neN (tgt := 123) dX9_readBlock_108 (by decide) (by omega) (fun h => absurd h (by decide)) (fun _ => ?_)
    refine q_iload_n dX9_readBlock_111 rfl rfl ?_
    refine q_if_neB (tgt := 123) dX9_readBlock_112 (by decide) (fun h => absurd h (by decide)) (fun _ => ?_)
    refine q_aload_n dX9_readBlock_115 rfl rfl rfl ?_
    refine q_callV (As := []) (rest := []) dX9_readBlock_116 vX9_301 (ty_c hS (by decide) rfl) ⟨by decide, rfl⟩ (z9_statement hS hT hB hM h3 h2.2.2.2.1 h4 hb (by omega)) rfl rfl (Nat.le_of_ble_eq_true rfl) (by omega) (by omega) (by omega) (k_b (fun x116 s116 q116 => ?_))
    have zS116 : SK s116 := (SK.fq q116.1 hS)
    refine q_istore_n dX9_readBlock_119 rfl (by decide) (ls' := [(2, .int (bi x116)), (0, .ref 58), (1, .int (nI b))]) rfl ?_
    refine q_goto (tgt := 104) dX9_readBlock_120 (by decide) ?_
    refine q_pk [1, 2, 0] (ls' := [(0, .ref 58), (1, .int (nI b)), (2, .int (bi x116))]) rfl ?_
    exact nx _ _ q116
def RdY (T : Nat → Nat) (L b k : Nat) (q : PS) : PR (Nat × PS) := if 40 ≤ b then .error (er T L k 3) else pBk T L b k q
def rbS (σ : HS) (b t len : Nat) : HS := uI (uI (uI σ 66 (164 + b) (nI t)) 65 (164 + b) (nI len)) 61 4 (nI (b + 1))
def rbq (b h i : Nat) : Prop := ((h = 65 ∨ h = 66) ∧ i = 164 + b) ∨ (h = 61 ∧ i = 4)
theorem rbS_f {t len : Nat} : FR9 (rbq b) σ (rbS σ b t len) := ((FR9.rf.uI (by unfold rbq; omega)).uI (by unfold rbq; omega)).uI (by unfold rbq; omega)
theorem rbS_m (hM : MPS σ q) (hb : (psF q).length = b) (hH : (psH q).length = b) : MPS (rbS σ b (ts T L k) (psS q).length) (psB T L k q) := by
  obtain ⟨m1, m2, m3, m4, m5, m6, m7⟩ := hM
  have f := rbS_f (σ := σ) (b := b) (t := ts T L k) (len := (psS q).length)
  refine ⟨?_, (f.2.2.2 62 4 (by unfold rbq; omega)).trans m2, m3.fq f (fun a i a1 a2 _ => by unfold rbq; omega), fun j hj => ?_, m5.fq f (by unfold rbq; omega) (fun a i a1 a2 => by unfold rbq; omega), (f.2.2.2 58 38 (by unfold rbq; omega)).trans m6, m7.fq f (by unfold rbq; omega) (fun i => by unfold rbq; omega)⟩
  · refine uI_self.trans ?_
    show _ = nI (psF q ++ [_]).length
    rw [List.length_append, hb]; rfl
  · have hj : j < (psF q ++ [(psS q).length]).length := hj
    have hj : j < b + 1 := by simpa [hb] using hj
    show sI _ 65 (164 + j) = nI ((psF q ++ [(psS q).length]).getD j 0) ∧ sI _ 66 (164 + j) = nI ((psH q ++ [ts T L k]).getD j 0)
    rw [gd_snoc, gd_snoc, hb, hH]
    unfold rbS
    refine ⟨?_, ?_⟩
    · rw [rd_off (by omega)]
      by_cases e : j = b
      · rw [if_pos e, e]; exact uI_self
      · rw [if_neg e, rd_ne (by omega), rd_off (by omega)]; exact (m4 j (by omega)).1
    · rw [rd_off (by omega), rd_off (by omega)]
      by_cases e : j = b
      · rw [if_pos e, e]; exact uI_self
      · rw [if_neg e, rd_ne (by omega)]; exact (m4 j (by omega)).2
theorem z9_readBlock (hS : SK σ) (hT : MTX σ L T) (hB : BS σ T L (.ok k)) (hM : MPS σ q) (hc : BC q) (hw : WFs q) (hF : (psF q).length = b) (hn : (nmA q).length ≤ 2 * b) : CT g mX9_readBlock 7 0 0 [.ref 58] σ (fun r σ' => r = none ∧ RbQ σ T L b (RdY T L b k q) σ') := by
  obtain ⟨b1, b2⟩ := hB
  have hb40 := hc.2.1
  have m1 := hM.1
  have m2 := hM.2.1
  have h3 := b2.1
  have t5 := tkd_b b2.2.2
  have hT' : ∀ i, i < L → T i < 256 := fun i hi => (hT.2.2 i hi).2
  rw [hF] at m1
  have fn : FR9 nwr σ (erM σ (er T L k 3)) := erM_lb.mono (fun h i z => by unfold lxb at z; unfold nwr; omega)
  have fn2 : FR9 nwr σ (erM σ (er T L k 2)) := erM_lb.mono (fun h i z => by unfold lxb at z; unfold nwr; omega)
  by_cases h40 : 40 ≤ b
  · have e : RdY T L b k q = .error (er T L k 3) := if_pos h40
    refine CT.of (by decide) (Nat.le_of_ble_eq_true rfl) ?_
    refine q_aload_n dX9_readBlock_0 rfl rfl rfl ?_
    refine q_getr (r := 61) dX9_readBlock_1 fX9_40 rfl (ty_c hS (by decide) rfl) (hS.2 58 9 61 rfl) ?_
    refine q_iconst (v := nI 4) dX9_readBlock_4 rfl ?_
    refine q_iald (x := nI b) (j := 4) dX9_readBlock_5 (ty_c hS (by decide) rfl) (ix_n (by omega) (by omega)) m1 ?_
    refine q_istore_n dX9_readBlock_6 rfl (by decide) (ls' := [(1, .int (nI b)), (0, .ref 58)]) rfl ?_
    refine q_aload_n dX9_readBlock_7 rfl rfl rfl ?_
    refine q_iload_n dX9_readBlock_8 rfl rfl ?_
    refine q_bipush (v := nI 40) dX9_readBlock_9 rfl ?_
    refine q_icmp_geN (tgt := 18) dX9_readBlock_11 (by decide) (by omega) (by omega) (fun c11 => ?_) (fun c11 => ?_)
    · skip
      refine q_iconst (v := nI 0) dX9_readBlock_18 rfl ?_
      refine q_iconst (v := nI 3) dX9_readBlock_19 rfl ?_
      refine q_callV (As := [.int (nI 0), .int (nI 3)]) (rest := []) dX9_readBlock_20 vX9_232 (ty_c hS (by decide) rfl) ⟨by decide, rfl⟩ (z9_must_n hS b1 b2 (by omega)) rfl rfl (Nat.le_of_ble_eq_true rfl) (by omega) (by omega) (by omega) (k_p ?_)
      refine q_if_eqB (tgt := 51) dX9_readBlock_23 (by decide) (fun _ => ?_) (fun h => absurd h (by decide))
      refine q_return dX9_readBlock_51 rfl (by omega) (by omega) ?_
      exact ⟨rfl, fn, Or.inl ⟨_, e, erM_bs (er_b (by omega))⟩⟩
    · exact absurd c11 (by omega)
  · by_cases h5 : tk T L k = 5
    · rw [if_pos h5] at t5
      have hv : tv T L k < 40 := tv_345.2.2 h5
      by_cases hvb : tv T L k = b
      · have fb := rbS_f (σ := σ) (b := b) (t := ts T L k) (len := (psS q).length)
        have mt : MTk (rbS σ b (ts T L k) (psS q).length) T L k := ((b2.off (by omega)).off (by omega)).off (by omega)
        have tx : MTX (rbS σ b (ts T L k) (psS q).length) L T := hT.fq fb (by unfold rbq; omega) (fun i => by unfold rbq; omega)
        have bd : sI (rbS σ b (ts T L k) (psS q).length) 58 32 = nI 0 := (fb.2.2.2 58 32 (by unfold rbq; omega)).trans b1
        have fw : FR9 nwr σ (rbS σ b (ts T L k) (psS q).length) := fb.mono fun h i z => by unfold rbq at z; unfold nwr; omega
        have mp := rbS_m (T := T) (L := L) (k := k) hM hF (hc.1.trans hF)
        have e : RdY T L b k q = (pSg T L 58 (k + 1)).bind fun k1 => pSts T L b 161 k1 (psB T L k q) := by
          refine (if_neg h40).trans ?_
          unfold pBk
          exact if_pos ⟨h5, hvb⟩
        have eF : (psF (psB T L k q)).length = b + 1 := by show (psF q ++ [_]).length = _; simp [hF]
        rw [e]
        have nx : ∀ σ', BS σ' T L (pSg T L 58 (k + 1)) → FR9 lxb (rbS σ b (ts T L k) (psS q).length) σ' → WA g mX9_readBlock 7 0 0 (ZM g (fun r σ' => r = none ∧ RbQ σ T L b ((pSg T L 58 (k + 1)).bind fun k1 => pSts T L b 161 k1 (psB T L k q)) σ') 0 0) 0 0 104 [(0, .ref 58), (1, .int (nI b)), (2, .int (bi false))] [] σ' := fun σ' z1 z2 => by
          have fw2 : FR9 nwr σ σ' := fw.tr (z2.mono fun h i z => by unfold lxb at z; unfold nwr; omega)
          cases hx : pSg T L 58 (k + 1) with
          | error z => rw [hx] at z1; exact y9_rbE (SK.fq fw2 hS) rfl z1 fw2
          | ok k1 =>
            rw [hx] at z1
            exact y9_rb (by omega) 161 k1 (psB T L k q) σ' (by omega) (BC_beg hc (by omega)) hw eF hn (SK.fq fw2 hS) (hT.nw fw2) z1 (mp.lb z2) fw2
        refine CT.of (by decide) (Nat.le_of_ble_eq_true rfl) ?_
        refine q_aload_n dX9_readBlock_0 rfl rfl rfl ?_
        refine q_getr (r := 61) dX9_readBlock_1 fX9_40 rfl (ty_c hS (by decide) rfl) (hS.2 58 9 61 rfl) ?_
        refine q_iconst (v := nI 4) dX9_readBlock_4 rfl ?_
        refine q_iald (x := nI b) (j := 4) dX9_readBlock_5 (ty_c hS (by decide) rfl) (ix_n (by omega) (by omega)) m1 ?_
        refine q_istore_n dX9_readBlock_6 rfl (by decide) (ls' := [(1, .int (nI b)), (0, .ref 58)]) rfl ?_
        refine q_aload_n dX9_readBlock_7 rfl rfl rfl ?_
        refine q_iload_n dX9_readBlock_8 rfl rfl ?_
        refine q_bipush (v := nI 40) dX9_readBlock_9 rfl ?_
        refine q_icmp_geN (tgt := 18) dX9_readBlock_11 (by decide) (by omega) (by omega) (fun c11 => ?_) (fun c11 => ?_)
        · exact absurd c11 (by omega)
        · skip
          refine q_iconst (v := nI 1) dX9_readBlock_14 rfl ?_
          refine q_goto (tgt := 19) dX9_readBlock_15 (by decide) ?_
          refine q_iconst (v := nI 3) dX9_readBlock_19 rfl ?_
          refine q_callV (As := [.int (nI 1), .int (nI 3)]) (rest := []) dX9_readBlock_20 vX9_232 (ty_c hS (by decide) rfl) ⟨by decide, rfl⟩ (z9_must_y hS b1) rfl rfl (Nat.le_of_ble_eq_true rfl) (by omega) (by omega) (by omega) (k_p ?_)
          refine q_if_eqB (tgt := 51) dX9_readBlock_23 (by decide) (fun h => absurd h (by decide)) (fun _ => ?_)
          refine q_aload_n dX9_readBlock_26 rfl rfl rfl ?_
          refine q_aload_n dX9_readBlock_27 rfl rfl rfl ?_
          refine q_bipush (v := nI 98) dX9_readBlock_28 rfl ?_
          refine q_bipush (v := nI 39) dX9_readBlock_30 rfl ?_
          refine q_callV (As := [.int (nI 98), .int (nI 39)]) (rest := [.ref 58]) dX9_readBlock_32 vX9_225 (ty_c hS (by decide) rfl) ⟨by decide, rfl⟩ (t5 ▸ z9_numbered hS) rfl rfl (Nat.le_of_ble_eq_true rfl) (by omega) (by omega) (by omega) (k_p ?_)
          refine q_iload_n dX9_readBlock_35 rfl rfl ?_
          refine q_icmp_neN (tgt := 43) dX9_readBlock_36 (by decide) (by omega) (by omega) (fun c36 => ?_) (fun c36 => ?_)
          · exact absurd hvb c36
          · skip
            refine q_iconst (v := nI 1) dX9_readBlock_39 rfl ?_
            refine q_goto (tgt := 44) dX9_readBlock_40 (by decide) ?_
            refine q_iconst (v := nI 2) dX9_readBlock_44 rfl ?_
            refine q_callV (As := [.int (nI 1), .int (nI 2)]) (rest := []) dX9_readBlock_45 vX9_232 (ty_c hS (by decide) rfl) ⟨by decide, rfl⟩ (z9_must_y hS b1) rfl rfl (Nat.le_of_ble_eq_true rfl) (by omega) (by omega) (by omega) (k_p ?_)
            refine q_if_neB (tgt := 52) dX9_readBlock_48 (by decide) (fun _ => ?_) (fun h => absurd h (by decide))
            refine q_aload_n dX9_readBlock_52 rfl rfl rfl ?_
            refine q_getr (r := 66) dX9_readBlock_53 fX9_55 rfl (ty_c hS (by decide) rfl) (hS.2 58 14 66 rfl) ?_
            refine q_sipush (v := nI 164) dX9_readBlock_56 rfl ?_
            refine q_iload_n dX9_readBlock_59 rfl rfl ?_
            refine q_iaddN dX9_readBlock_60 ?_
            refine q_aload_n dX9_readBlock_61 rfl rfl rfl ?_
            refine q_geti (x := nI (ts T L k)) dX9_readBlock_62 fX9_20 rfl (ty_c hS (by decide) rfl) h3 ?_
            refine q_iast (j := (164 + b)) dX9_readBlock_65 (ty_c hS (by decide) rfl) (ix_n (by omega) (by omega)) ?_
            refine q_aload_n dX9_readBlock_66 rfl rfl rfl ?_
            refine q_getr (r := 65) dX9_readBlock_67 fX9_52 rfl (ty_c hS (by decide) rfl) (hS.2 58 13 65 rfl) ?_
            refine q_sipush (v := nI 164) dX9_readBlock_70 rfl ?_
            refine q_iload_n dX9_readBlock_73 rfl rfl ?_
            refine q_iaddN dX9_readBlock_74 ?_
            refine q_aload_n dX9_readBlock_75 rfl rfl rfl ?_
            refine q_getr (r := 62) dX9_readBlock_76 fX9_43 rfl (ty_c hS (by decide) rfl) (hS.2 58 10 62 rfl) ?_
            refine q_iconst (v := nI 4) dX9_readBlock_79 rfl ?_
            refine q_iald (x := nI ((psS q).length)) (j := 4) dX9_readBlock_80 (ty_c hS (by decide) rfl) (ix_n (by omega) (by omega)) (Eq.trans (rd_off (by decide)) m2) ?_
            refine q_iast (j := (164 + b)) dX9_readBlock_81 (ty_c hS (by decide) rfl) (ix_n (by omega) (by omega)) ?_
            refine q_aload_n dX9_readBlock_82 rfl rfl rfl ?_
            refine q_getr (r := 61) dX9_readBlock_83 fX9_40 rfl (ty_c hS (by decide) rfl) (hS.2 58 9 61 rfl) ?_
            refine q_iconst (v := nI 4) dX9_readBlock_86 rfl ?_
            refine q_dup2 dX9_readBlock_87 rfl rfl ?_
            refine q_iald (x := nI b) (j := 4) dX9_readBlock_88 (ty_c hS (by decide) rfl) (ix_n (by omega) (by omega)) (Eq.trans (rd_off (by decide)) (Eq.trans (rd_off (by decide)) m1)) ?_
            refine q_iconst (v := nI 1) dX9_readBlock_89 rfl ?_
            refine q_iaddN dX9_readBlock_90 ?_
            refine q_iast (j := 4) dX9_readBlock_91 (ty_c hS (by decide) rfl) (ix_n (by omega) (by omega)) ?_
            refine q_aload_n dX9_readBlock_92 rfl rfl rfl ?_
            refine q_callV (As := []) (rest := []) dX9_readBlock_93 vX9_236 (ty_c hS (by decide) rfl) ⟨by decide, rfl⟩ (z9_nextM (σ := rbS σ b (ts T L k) (psS q).length) (SK.fq fb hS) tx mt) rfl rfl (Nat.le_of_ble_eq_true rfl) (by omega) (by omega) (by omega) (k_v (fun s93 q93 => ?_))
            have zS93 : SK s93 := (SK.x9 q93.1 (SK.fq fb hS))
            refine q_aload_n dX9_readBlock_96 rfl rfl rfl ?_
            refine q_bipush (v := nI 58) dX9_readBlock_97 rfl ?_
            refine q_callV (As := [.int (nI 58)]) (rest := []) dX9_readBlock_99 vX9_279 (ty_c zS93 (by decide) rfl) ⟨by decide, rfl⟩ (z9_take (x := .ok (k + 1)) zS93 (tx.x9 q93.1) ⟨bs_next bd q93.1, q93.2⟩ (by omega)) rfl rfl (Nat.le_of_ble_eq_true rfl) (by omega) (by omega) (by omega) (k_v (fun s99 q99 => ?_))
            have zS99 : SK s99 := (SK.fq q99.2 (SK.x9 q93.1 (SK.fq fb hS)))
            refine q_iconst (v := nI 0) dX9_readBlock_102 rfl ?_
            refine q_istore_n dX9_readBlock_103 rfl (by decide) (ls' := [(2, .int (nI 0)), (1, .int (nI b)), (0, .ref 58)]) rfl ?_
            refine q_pk [2, 1, 0] (ls' := [(0, .ref 58), (1, .int (nI b)), (2, .int (nI 0))]) rfl ?_
            exact nx _ q99.1 (q93.1.lb.tr q99.2)
      · have e : RdY T L b k q = .error (er T L k 2) := by
          refine (if_neg h40).trans ?_
          unfold pBk
          exact if_neg fun z => hvb z.2
        refine CT.of (by decide) (Nat.le_of_ble_eq_true rfl) ?_
        refine q_aload_n dX9_readBlock_0 rfl rfl rfl ?_
        refine q_getr (r := 61) dX9_readBlock_1 fX9_40 rfl (ty_c hS (by decide) rfl) (hS.2 58 9 61 rfl) ?_
        refine q_iconst (v := nI 4) dX9_readBlock_4 rfl ?_
        refine q_iald (x := nI b) (j := 4) dX9_readBlock_5 (ty_c hS (by decide) rfl) (ix_n (by omega) (by omega)) m1 ?_
        refine q_istore_n dX9_readBlock_6 rfl (by decide) (ls' := [(1, .int (nI b)), (0, .ref 58)]) rfl ?_
        refine q_aload_n dX9_readBlock_7 rfl rfl rfl ?_
        refine q_iload_n dX9_readBlock_8 rfl rfl ?_
        refine q_bipush (v := nI 40) dX9_readBlock_9 rfl ?_
        refine q_icmp_geN (tgt := 18) dX9_readBlock_11 (by decide) (by omega) (by omega) (fun c11 => ?_) (fun c11 => ?_)
        · exact absurd c11 (by omega)
        · skip
          refine q_iconst (v := nI 1) dX9_readBlock_14 rfl ?_
          refine q_goto (tgt := 19) dX9_readBlock_15 (by decide) ?_
          refine q_iconst (v := nI 3) dX9_readBlock_19 rfl ?_
          refine q_callV (As := [.int (nI 1), .int (nI 3)]) (rest := []) dX9_readBlock_20 vX9_232 (ty_c hS (by decide) rfl) ⟨by decide, rfl⟩ (z9_must_y hS b1) rfl rfl (Nat.le_of_ble_eq_true rfl) (by omega) (by omega) (by omega) (k_p ?_)
          refine q_if_eqB (tgt := 51) dX9_readBlock_23 (by decide) (fun h => absurd h (by decide)) (fun _ => ?_)
          refine q_aload_n dX9_readBlock_26 rfl rfl rfl ?_
          refine q_aload_n dX9_readBlock_27 rfl rfl rfl ?_
          refine q_bipush (v := nI 98) dX9_readBlock_28 rfl ?_
          refine q_bipush (v := nI 39) dX9_readBlock_30 rfl ?_
          refine q_callV (As := [.int (nI 98), .int (nI 39)]) (rest := [.ref 58]) dX9_readBlock_32 vX9_225 (ty_c hS (by decide) rfl) ⟨by decide, rfl⟩ (t5 ▸ z9_numbered hS) rfl rfl (Nat.le_of_ble_eq_true rfl) (by omega) (by omega) (by omega) (k_p ?_)
          refine q_iload_n dX9_readBlock_35 rfl rfl ?_
          refine q_icmp_neN (tgt := 43) dX9_readBlock_36 (by decide) (by omega) (by omega) (fun c36 => ?_) (fun c36 => ?_)
          · skip
            refine q_iconst (v := nI 0) dX9_readBlock_43 rfl ?_
            refine q_iconst (v := nI 2) dX9_readBlock_44 rfl ?_
            refine q_callV (As := [.int (nI 0), .int (nI 2)]) (rest := []) dX9_readBlock_45 vX9_232 (ty_c hS (by decide) rfl) ⟨by decide, rfl⟩ (z9_must_n hS b1 b2 (by omega)) rfl rfl (Nat.le_of_ble_eq_true rfl) (by omega) (by omega) (by omega) (k_p ?_)
            refine q_if_neB (tgt := 52) dX9_readBlock_48 (by decide) (fun h => absurd h (by decide)) (fun _ => ?_)
            refine q_return dX9_readBlock_51 rfl (by omega) (by omega) ?_
            exact ⟨rfl, fn2, Or.inl ⟨_, e, erM_bs (er_b (by omega))⟩⟩
          · exact absurd c36 hvb
    · rw [if_neg h5] at t5
      have e : RdY T L b k q = .error (er T L k 2) := by
        refine (if_neg h40).trans ?_
        unfold pBk
        exact if_neg fun z => h5 z.1
      refine CT.of (by decide) (Nat.le_of_ble_eq_true rfl) ?_
      refine q_aload_n dX9_readBlock_0 rfl rfl rfl ?_
      refine q_getr (r := 61) dX9_readBlock_1 fX9_40 rfl (ty_c hS (by decide) rfl) (hS.2 58 9 61 rfl) ?_
      refine q_iconst (v := nI 4) dX9_readBlock_4 rfl ?_
      refine q_iald (x := nI b) (j := 4) dX9_readBlock_5 (ty_c hS (by decide) rfl) (ix_n (by omega) (by omega)) m1 ?_
      refine q_istore_n dX9_readBlock_6 rfl (by decide) (ls' := [(1, .int (nI b)), (0, .ref 58)]) rfl ?_
      refine q_aload_n dX9_readBlock_7 rfl rfl rfl ?_
      refine q_iload_n dX9_readBlock_8 rfl rfl ?_
      refine q_bipush (v := nI 40) dX9_readBlock_9 rfl ?_
      refine q_icmp_geN (tgt := 18) dX9_readBlock_11 (by decide) (by omega) (by omega) (fun c11 => ?_) (fun c11 => ?_)
      · exact absurd c11 (by omega)
      · skip
        refine q_iconst (v := nI 1) dX9_readBlock_14 rfl ?_
        refine q_goto (tgt := 19) dX9_readBlock_15 (by decide) ?_
        refine q_iconst (v := nI 3) dX9_readBlock_19 rfl ?_
        refine q_callV (As := [.int (nI 1), .int (nI 3)]) (rest := []) dX9_readBlock_20 vX9_232 (ty_c hS (by decide) rfl) ⟨by decide, rfl⟩ (z9_must_y hS b1) rfl rfl (Nat.le_of_ble_eq_true rfl) (by omega) (by omega) (by omega) (k_p ?_)
        refine q_if_eqB (tgt := 51) dX9_readBlock_23 (by decide) (fun h => absurd h (by decide)) (fun _ => ?_)
        refine q_aload_n dX9_readBlock_26 rfl rfl rfl ?_
        refine q_aload_n dX9_readBlock_27 rfl rfl rfl ?_
        refine q_bipush (v := nI 98) dX9_readBlock_28 rfl ?_
        refine q_bipush (v := nI 39) dX9_readBlock_30 rfl ?_
        refine q_callV (As := [.int (nI 98), .int (nI 39)]) (rest := [.ref 58]) dX9_readBlock_32 vX9_225 (ty_c hS (by decide) rfl) ⟨by decide, rfl⟩ (t5 ▸ z9_numbered hS) rfl rfl (Nat.le_of_ble_eq_true rfl) (by omega) (by omega) (by omega) (k_p ?_)
        refine q_iload_n dX9_readBlock_35 rfl rfl ?_
        refine q_icmp_ne1 (tgt := 43) dX9_readBlock_36 (by decide) (by omega) (by decide) ?_
        refine q_iconst (v := nI 0) dX9_readBlock_43 rfl ?_
        refine q_iconst (v := nI 2) dX9_readBlock_44 rfl ?_
        refine q_callV (As := [.int (nI 0), .int (nI 2)]) (rest := []) dX9_readBlock_45 vX9_232 (ty_c hS (by decide) rfl) ⟨by decide, rfl⟩ (z9_must_n hS b1 b2 (by omega)) rfl rfl (Nat.le_of_ble_eq_true rfl) (by omega) (by omega) (by omega) (k_p ?_)
        refine q_if_neB (tgt := 52) dX9_readBlock_48 (by decide) (fun h => absurd h (by decide)) (fun _ => ?_)
        refine q_return dX9_readBlock_51 rfl (by omega) (by omega) ?_
        exact ⟨rfl, fn2, Or.inl ⟨_, e, erM_bs (er_b (by omega))⟩⟩
end MRD
