/-! The model: a RUN; one NODE. -/
/-- what is kept of this RUN, at NODE n, SUMS before j set there -/
def KP (q : PS) (p : Nat) (σ : HS) (s : XS) (n j : Nat) : Prop := ∀ e, e < (psM q).length → ((stA q p e n = true ∧ e < j) ∨ ¬ PP q p e n) → sI σ 92 e = xK s e
def stq (h i : Nat) : Prop := h = 92 ∨ h = 93 ∨ (h = 58 ∧ (i = 55 ∨ i = 56))
def dnq (h i : Nat) : Prop := h = 90 ∨ h = 91 ∨ h = 93 ∨ h = 94 ∨ (h = 58 ∧ (i = 51 ∨ i = 53 ∨ i = 55 ∨ i = 56))
def rnq (h i : Nat) : Prop := (90 ≤ h ∧ h ≤ 94) ∨ (h = 58 ∧ 51 ≤ i ∧ i ≤ 56)
theorem wkq.st {e h i : Nat} (k : wkq e h i) : stq h i := by unfold wkq at k; unfold stq; omega
theorem wkq.dn {e h i : Nat} (k : wkq e h i) : dnq h i := by unfold wkq at k; unfold dnq; omega
theorem stq.rn {h i : Nat} (k : stq h i) : rnq h i := by unfold stq at k; unfold rnq; omega
theorem dnq.rn {h i : Nat} (k : dnq h i) : rnq h i := by unfold dnq at k; unfold rnq; omega
theorem MR.rn {σ σ' : HS} {i : Nat} {q : PS} (hk : MOK q) (f : FR9 rnq σ σ') (h : MR σ i q) : MR σ' i q := h.fq hk.1 hk.2.1 f fun a j z => by unfold rnq at z; unfold cpq; omega
theorem ld_s0 {q : PS} (hw : WFs q) {n : Nat} (h6 : rK (rg q n) ≠ 6) : ∃ m, ld q 0 n = some m := by
  by_cases e : n < (psS q).length
  · have er : rg q n = rr q n := if_pos e
    rw [er] at h6
    obtain ⟨g1, g2, g3, g4, g5, g6, g7⟩ := st_w hw e
    by_cases h4 : rK (rr q n) < 4
    · exact ⟨_, (ld_4 e h4).1⟩
    · have hs : (wr q 0 n).isSome := by
        rcases (show rK (rr q n) = 4 ∨ rK (rr q n) = 5 by omega) with z | z
        · exact (g5 z).1
        · exact (g6 z).1
      obtain ⟨t, ht⟩ := Option.isSome_iff_exists.mp hs
      have := (ld_e e (by omega)).1
      rw [this, ht]
      by_cases m : rK (rr q n) = 5 ∧ many q t = true
      · exact ⟨_, ldW_m m.1 m.2⟩
      · exact ⟨nf q t, if_neg m⟩
  · unfold ld
    rw [if_neg e, if_pos rfl]
    exact ⟨_, rfl⟩
theorem ld_s1 {q : PS} (hw : WFs q) {n : Nat} (h5 : rK (rg q n) = 5) : ∃ m, ld q 1 n = some m := by
  by_cases e : n < (psS q).length
  · have er : rg q n = rr q n := if_pos e
    rw [er] at h5
    obtain ⟨g1, g2, g3, g4, g5, g6, g7⟩ := st_w hw e
    obtain ⟨t, ht⟩ := Option.isSome_iff_exists.mp (g6 h5).2
    have := (ld_e e (by omega)).2
    rw [this, ht]
    by_cases m : rK (rr q n) = 5 ∧ many q t = true
    · exact ⟨_, ldW_m m.1 m.2⟩
    · exact ⟨nf q t, if_neg m⟩
  · have er : rg q n = _ := if_neg e
    rw [er] at h5
    exact absurd h5 (by show ¬ (7 = 5); omega)
theorem nx_none {q : PS} (hw : WFs q) {n : Nat} {s : XS} : nxF q n s = none ↔ rK (rg q n) = 6 := by
  unfold nxF
  constructor
  · intro h
    by_cases h6 : rK (rg q n) = 6
    · exact h6
    · by_cases z : rK (rg q n) = 5 ∧ ¬ opV (xN s) (rO0 (rg q n)) < opV (xN s) (rO1 (rg q n))
      · rw [if_pos z] at h
        obtain ⟨m, hm⟩ := ld_s1 hw z.1
        rw [hm] at h; cases h
      · rw [if_neg z] at h
        obtain ⟨m, hm⟩ := ld_s0 hw h6
        rw [hm] at h; cases h
  · intro h
    rw [if_neg (fun z => by rw [h] at z; exact absurd z.1 (by decide))]
    exact (ld_6 hw h).1
theorem dn_K {q : PS} {p n : Nat} {s : XS} : xK (dnF q p n s).1 = xK s := by
  unfold dnF
  by_cases k0 : rK (rg q n) = 0
  · rw [if_pos k0]
    by_cases z : tkn q p (smN q n) n = true
    · rw [if_pos z]; rfl
    · rw [if_neg z]; cases wkR s (sm q (smN q n)) <;> rfl
  · rw [if_neg k0]
    by_cases k1 : rK (rg q n) = 1
    · rw [if_pos k1]; rfl
    · rw [if_neg k1]
      by_cases k2 : rK (rg q n) = 2
      · rw [if_pos k2]
        by_cases z : ¬ opV (xN s) (rO0 (rg q n)) < 0 ∧ opV (xN s) (rO0 (rg q n)) < nI 8
        · rw [if_pos z]; rfl
        · rw [if_neg z]
      · rw [if_neg k2]
        by_cases k3 : rK (rg q n) = 3
        · rw [if_pos k3]; rfl
        · rw [if_neg k3]
/-- a NODE of a RUN: what is set ahead, then it -/
noncomputable def spF (q : PS) (p n : Nat) (s : XS) : XS × Bool := if (stF q p n (psM q).length 0 s).2 = true then dnF q p n (stF q p n (psM q).length 0 s).1 else ((stF q p n (psM q).length 0 s).1, false)
theorem ru_sp {q : PS} {p f n : Nat} {s : XS} {c : Nat} : ruI q p f n s c = if (spF q p n s).2 = true then (match nxF q n (spF q p n s).1 with | none => ((spF q p n s).1, c, 0, -1) | some m => ruF q p f m (spF q p n s).1 c) else ((spF q p n s).1, c, 1, nI (rB (rg q n))) := by
  unfold ruI spF
  by_cases h1 : (stF q p n (psM q).length 0 s).2 = true
  · rw [if_pos h1, if_pos h1]; rfl
  · rw [if_neg h1, if_neg h1, if_neg (fun z => absurd (show false = true from z) (by decide))]
section MST
variable {g : GG} {σ σ0 : HS} {q : PS} {i l k : Nat} {Z : List Frame → Array Value → State → State → Prop}
theorem y9_st29r (hS : SK σ) (hi : i < 4) (hr : MR σ i q) (hk : MOK q) (h56 : sI σ 58 56 = nI 1) {e : Nat} (he : e ≤ (psM q).length) (hkN : k < NN q) (hl : l < 3) (K : WA g mX9_step 2 0 0 Z 0 0 79 [(0, .ref 58), (1, .int (nI i)), (2, .int (nI l)), (3, .int (nI k)), (4, .int (nI (240 * i + k)))] [] σ) : WA g mX9_step 2 0 0 Z 0 0 29 [(0, .ref 58), (1, .int (nI i)), (2, .int (nI l)), (3, .int (nI k)), (4, .int (nI (240 * i + k))), (5, .int (nI e))] [] σ := by
  have h32 := hk.2.1.2.2.2.1
  have hN := NN_le hk.1
  have r64 := hr.1.2.2.2.1
  refine q_iload dX9_step_29 rfl ?_
  refine q_aload_n dX9_step_31 rfl rfl rfl ?_
  refine q_getr (r := 64) dX9_step_32 fX9_49 rfl (ty_c hS (by decide) rfl) (hS.2 58 12 64 rfl) ?_
  refine q_iload_n dX9_step_35 rfl rfl ?_
  refine q_iald (x := nI ((psM q).length)) (j := i) dX9_step_36 (ty_c hS (by decide) rfl) (ix_n (by omega) (by omega)) r64 ?_
  refine q_icmp_geN (tgt := 79) dX9_step_37 (by decide) (by omega) (by omega) (fun c37 => ?_) (fun c37 => ?_)
  · skip
    refine q_pk [0, 1, 2, 3, 4] (ls' := [(0, .ref 58), (1, .int (nI i)), (2, .int (nI l)), (3, .int (nI k)), (4, .int (nI (240 * i + k)))]) rfl ?_
    exact K
  · skip
    refine q_aload_n dX9_step_40 rfl rfl rfl ?_
    refine q_geti (x := nI 1) dX9_step_41 fX9_183 rfl (ty_c hS (by decide) rfl) h56 ?_
    refine q_if_neN (tgt := 79) dX9_step_44 (by decide) (by omega) (fun _ => ?_) (fun h => absurd h (by decide))
    refine q_pk [0, 1, 2, 3, 4] (ls' := [(0, .ref 58), (1, .int (nI i)), (2, .int (nI l)), (3, .int (nI k)), (4, .int (nI (240 * i + k)))]) rfl ?_
    exact K
theorem y9_st29 (hS : SK σ0) (hi : i < 4) (hr0 : MR σ0 i q) (hk : MOK q) (hl : l < 3) (hkN : k < NN q) {R : XS × Bool} (K : ∀ σ', FR9 stq σ0 σ' → XM σ' R.1 → sI σ' 58 56 = bi (!R.2) → (R.2 = true → KP q l σ' R.1 k (psM q).length) → WA g mX9_step 2 0 0 Z 0 0 79 [(0, .ref 58), (1, .int (nI i)), (2, .int (nI l)), (3, .int (nI k)), (4, .int (nI (240 * i + k)))] [] σ') : ∀ (f e : Nat) (s : XS) (σ : HS), e + f = (psM q).length → stF q l k f e s = R → FR9 stq σ0 σ → XM σ s → sI σ 58 56 = nI 0 → KP q l σ s k e → WA g mX9_step 2 0 0 Z 0 0 29 [(0, .ref 58), (1, .int (nI i)), (2, .int (nI l)), (3, .int (nI k)), (4, .int (nI (240 * i + k))), (5, .int (nI e))] [] σ := by
  have h32 := hk.2.1.2.2.2.1
  have hN := NN_le hk.1
  intro f
  induction f with
  | zero =>
    intro e s σ he hR h1 hx h56 hK
    have hS1 := SK.fq h1 hS
    have hr := hr0.rn hk (h1.mono fun _ _ => stq.rn)
    have r64 := hr.1.2.2.2.1
    have ee : e = (psM q).length := by omega
    have e1 : R = (s, true) := hR.symm
    subst e1
    rw [ee] at hK ⊢
    have KK := K σ h1 hx h56 (fun _ => hK)
    refine q_iload dX9_step_29 rfl ?_
    refine q_aload_n dX9_step_31 rfl rfl rfl ?_
    refine q_getr (r := 64) dX9_step_32 fX9_49 rfl (ty_c hS1 (by decide) rfl) (hS1.2 58 12 64 rfl) ?_
    refine q_iload_n dX9_step_35 rfl rfl ?_
    refine q_iald (x := nI ((psM q).length)) (j := i) dX9_step_36 (ty_c hS1 (by decide) rfl) (ix_n (by omega) (by omega)) r64 ?_
    refine q_icmp_geN (tgt := 79) dX9_step_37 (by decide) (by omega) (by omega) (fun c37 => ?_) (fun c37 => ?_)
    · skip
      refine q_pk [0, 1, 2, 3, 4] (ls' := [(0, .ref 58), (1, .int (nI i)), (2, .int (nI l)), (3, .int (nI k)), (4, .int (nI (240 * i + k)))]) rfl ?_
      exact KK
    · exact absurd c37 (by omega)
  | succ f ih =>
    intro e s σ he hR h1 hx h56 hK
    have hS1 := SK.fq h1 hS
    have hr := hr0.rn hk (h1.mono fun _ _ => stq.rn)
    have r64 := hr.1.2.2.2.1
    have heN : e < (psM q).length := by omega
    have hR : (if stA q l e k = true then (match wkR s (sm q e) with | none => (wkS s e, false) | some v => stF q l k f (e + 1) (kpS (wkS s e) e v)) else stF q l k f (e + 1) s) = R := hR
    have no : stA q l e k = false → WA g mX9_step 2 0 0 Z 0 0 29 [(0, .ref 58), (1, .int (nI i)), (2, .int (nI l)), (3, .int (nI k)), (4, .int (nI (240 * i + k))), (5, .int (nI (e + 1)))] [] σ := fun z => by
      rw [if_neg (by rw [z]; decide)] at hR
      refine ih (e + 1) s σ (by omega) hR h1 hx h56 fun e' h2 h3 => hK e' h2 ?_
      rcases h3 with ⟨a, b⟩ | h3
      · refine Or.inl ⟨a, ?_⟩
        by_cases ee : e' = e
        · rw [ee, z] at a; cases a
        · omega
      · exact Or.inr h3
    have yes : stA q l e k = true → ∀ x τ, WkM σ s e (wkR s (sm q e)) x τ → WA g mX9_step 2 0 0 Z 0 0 29 [(0, .ref 58), (1, .int (nI i)), (2, .int (nI l)), (3, .int (nI k)), (4, .int (nI (240 * i + k))), (5, .int (nI (e + 1)))] [] (uI τ 92 e x) := fun z x τ hW => by
      obtain ⟨w1, w2, w3, w4⟩ := hW
      have f2 : FR9 stq σ0 (uI τ 92 e x) := (h1.tr (w1.mono fun _ _ => wkq.st)).uI (Or.inl rfl)
      rw [if_pos z] at hR
      cases ho : wkR s (sm q e) with
      | none =>
        rw [ho] at hR w3
        have e1 : R = (wkS s e, false) := hR.symm
        subst e1
        have h56' : sI (uI τ 92 e x) 58 56 = nI 1 := (rd_off (by omega)).trans w3
        exact y9_st29r (SK.fq f2 hS) hi (hr0.rn hk (f2.mono fun _ _ => stq.rn)) hk h56' (by omega) hkN hl (K _ f2 w2.kp0 h56' (fun y => by cases y))
      | some v =>
        rw [ho] at hR w3
        have ex : x = v := w4 v ho
        subst ex
        refine ih (e + 1) _ _ (by omega) hR f2 w2.kp ((rd_off (by omega)).trans w3) fun e' h2 h3 => ?_
        show _ = if e' = e then x else xK s e'
        by_cases ee : e' = e
        · rw [ee, if_pos rfl]; exact uI_self
        · rw [if_neg ee, rd_ne ee, w1.2.2.2 92 e' (by unfold wkq; omega)]
          refine hK e' h2 ?_
          rcases h3 with ⟨a, b⟩ | h3
          · exact Or.inl ⟨a, by omega⟩
          · exact Or.inr h3
    refine q_iload dX9_step_29 rfl ?_
    refine q_aload_n dX9_step_31 rfl rfl rfl ?_
    refine q_getr (r := 64) dX9_step_32 fX9_49 rfl (ty_c hS1 (by decide) rfl) (hS1.2 58 12 64 rfl) ?_
    refine q_iload_n dX9_step_35 rfl rfl ?_
    refine q_iald (x := nI ((psM q).length)) (j := i) dX9_step_36 (ty_c hS1 (by decide) rfl) (ix_n (by omega) (by omega)) r64 ?_
    refine q_icmp_geN (tgt := 79) dX9_step_37 (by decide) (by omega) (by omega) (fun c37 => ?_) (fun c37 => ?_)
    · exact absurd c37 (by omega)
    · skip
      refine q_aload_n dX9_step_40 rfl rfl rfl ?_
      refine q_geti (x := nI 0) dX9_step_41 fX9_183 rfl (ty_c hS1 (by decide) rfl) h56 ?_
      refine q_if_neN (tgt := 79) dX9_step_44 (by decide) (by omega) (fun h => absurd h (by decide)) (fun _ => ?_)
      refine q_aload_n dX9_step_47 rfl rfl rfl ?_
      refine q_iload_n dX9_step_48 rfl rfl ?_
      refine q_iload_n dX9_step_49 rfl rfl ?_
      refine q_iload dX9_step_50 rfl ?_
      refine q_iload_n dX9_step_52 rfl rfl ?_
      refine q_callV (As := [.int (nI i), .int (nI l), .int (nI e), .int (nI k)]) (rest := []) dX9_step_53 vX9_382 (ty_c hS1 (by decide) rfl) ⟨by decide, rfl⟩ (z9_isSet hS1 hi hr hk hl heN hkN) rfl rfl (Nat.le_of_ble_eq_true rfl) (by omega) (by omega) (by omega) (k_p ?_)
      refine q_if_eqB (tgt := 73) dX9_step_56 (by decide) (fun c56 => ?_) (fun c56 => ?_)
      · skip
        refine q_iincN (c := 1) dX9_step_73 rfl (by decide) rfl (ls' := [(5, .int (nI (e + 1))), (0, .ref 58), (1, .int (nI i)), (2, .int (nI l)), (3, .int (nI k)), (4, .int (nI (240 * i + k)))]) rfl ?_
        refine q_goto (tgt := 29) dX9_step_76 (by decide) ?_
        refine q_pk [1, 2, 3, 4, 5, 0] (ls' := [(0, .ref 58), (1, .int (nI i)), (2, .int (nI l)), (3, .int (nI k)), (4, .int (nI (240 * i + k))), (5, .int (nI (e + 1)))]) rfl ?_
        first | exact no c56 | exact yes c56 _ _ q69
      · skip
        refine q_aload_n dX9_step_59 rfl rfl rfl ?_
        refine q_getr (r := 92) dX9_step_60 fX9_159 rfl (ty_c hS1 (by decide) rfl) (hS1.2 58 48 92 rfl) ?_
        refine q_iload dX9_step_63 rfl ?_
        refine q_aload_n dX9_step_65 rfl rfl rfl ?_
        refine q_iload_n dX9_step_66 rfl rfl ?_
        refine q_iload dX9_step_67 rfl ?_
        refine q_callV (As := [.int (nI i), .int (nI e)]) (rest := [.int (nI e), .ref 92]) dX9_step_69 vX9_402 (ty_c hS1 (by decide) rfl) ⟨by decide, rfl⟩ (z9_work hS1 hi hr hk heN hx h56) rfl rfl (Nat.le_of_ble_eq_true rfl) (by omega) (by omega) (by omega) (k_i (fun x69 s69 q69 => ?_))
        have zS69 : SK s69 := (SK.fq q69.1 hS1)
        refine q_iast (j := e) dX9_step_72 (ty_c zS69 (by decide) rfl) (ix_n (by omega) (by omega)) ?_
        refine q_iincN (c := 1) dX9_step_73 rfl (by decide) rfl (ls' := [(5, .int (nI (e + 1))), (0, .ref 58), (1, .int (nI i)), (2, .int (nI l)), (3, .int (nI k)), (4, .int (nI (240 * i + k)))]) rfl ?_
        refine q_goto (tgt := 29) dX9_step_76 (by decide) ?_
        refine q_pk [1, 2, 3, 4, 5, 0] (ls' := [(0, .ref 58), (1, .int (nI i)), (2, .int (nI l)), (3, .int (nI k)), (4, .int (nI (240 * i + k))), (5, .int (nI (e + 1)))]) rfl ?_
        first | exact no c56 | exact yes c56 _ _ q69
/-- behind the NODE itself -/
def DnQ (σ : HS) (q : PS) (p n : Nat) (s : XS) (x : Int32) : HS → Prop := fun σ' => FR9 dnq σ σ' ∧ XM σ' (dnF q p n s).1 ∧ sI σ' 58 56 = bi (!(dnF q p n s).2) ∧ ((dnF q p n s).2 = true → x = oW (nxF q n (dnF q p n s).1) ∧ sI σ' 58 51 = if rK (rg q n) = 6 then nI 0 else -1) ∧ ((dnF q p n s).2 = false → sI σ' 58 51 = -1)
theorem dnq_of {σ σ' : HS} {p n : Nat} {s s' : XS} {x : Int32} {b : Bool} (e : dnF q p n s = (s', b)) (f : FR9 dnq σ σ') (hx : XM σ' s') (h56 : sI σ' 58 56 = bi (!b)) (h : b = true → x = oW (nxF q n s') ∧ sI σ' 58 51 = if rK (rg q n) = 6 then nI 0 else -1) (h2 : b = false → sI σ' 58 51 = -1) : DnQ σ q p n s x σ' := by
  unfold DnQ; rw [e]; exact ⟨f, hx, h56, h, h2⟩
theorem nx_n5 {n : Nat} {s : XS} (h : rK (rg q n) ≠ 5) : nxF q n s = ld q 0 n := if_neg fun z => h z.1
theorem y9_dn4 (hS : SK σ) (hi : i < 4) (hr : MR σ i q) (hk : MOK q) (hl : l < 3) (hkN : k < NN q) {s : XS} (hx : XM σ s) (h56 : sI σ 58 56 = nI 0) (h51 : sI σ 58 51 = -1) (hK : KP q l σ s k (psM q).length) (hC : xC s < 1000000) {Q : Option Value → HS → Prop} (hQ : ∀ x σ', DnQ σ q l k s x σ' → Q (some (.int x)) σ') (kd : rK (rg q k) = 4) : WA g mX9_step 2 0 0 (ZM g Q 0 0) 0 0 79 [(0, .ref 58), (1, .int (nI i)), (2, .int (nI l)), (3, .int (nI k)), (4, .int (nI (240 * i + k)))] [] σ := by
  obtain ⟨hc, hw, hB, hxx, hF⟩ := id hk
  have h32 := hw.2.2.2.1
  have hN := NN_le hc
  obtain ⟨⟨n1, n2, n3, n4, n5, n6, n7⟩, l0, l1⟩ := hr.1.2.2.2.2.2.1 k hkN
  obtain ⟨od0, od1⟩ := rg_opd hw (n := k)
  rw [kd] at n1
  have e : dnF q l k s = (s, true) := by
    unfold dnF
    rw [kd, if_neg (by decide), if_neg (by decide), if_neg (by decide), if_neg (by decide)]
  refine q_aload_n dX9_step_79 rfl rfl rfl ?_
  refine q_geti (x := nI 0) dX9_step_80 fX9_183 rfl (ty_c hS (by decide) rfl) h56 ?_
  refine q_if_eqN (tgt := 88) dX9_step_83 (by decide) (by omega) (fun _ => ?_) (fun h => absurd h (by decide))
  refine q_aload_n dX9_step_88 rfl rfl rfl ?_
  refine q_getr (r := 67) dX9_step_89 fX9_58 rfl (ty_c hS (by decide) rfl) (hS.2 58 15 67 rfl) ?_
  refine q_iload dX9_step_92 rfl ?_
  refine q_iald (x := nI 4) (j := (240 * i + k)) dX9_step_94 (ty_c hS (by decide) rfl) (ix_n (by omega) (by omega)) n1 ?_
  refine q_if_eqN (tgt := 133) dX9_step_95 (by decide) (by omega) (fun h => absurd h (by decide)) (fun _ => ?_)
  refine q_aload_n dX9_step_98 rfl rfl rfl ?_
  refine q_getr (r := 67) dX9_step_99 fX9_58 rfl (ty_c hS (by decide) rfl) (hS.2 58 15 67 rfl) ?_
  refine q_iload dX9_step_102 rfl ?_
  refine q_iald (x := nI 4) (j := (240 * i + k)) dX9_step_104 (ty_c hS (by decide) rfl) (ix_n (by omega) (by omega)) n1 ?_
  refine q_bipush (v := nI 7) dX9_step_105 rfl ?_
  refine q_icmp_eqN (tgt := 133) dX9_step_107 (by decide) (by omega) (by omega) (fun h => absurd h (by decide)) (fun _ => ?_)
  refine q_aload_n dX9_step_110 rfl rfl rfl ?_
  refine q_getr (r := 67) dX9_step_111 fX9_58 rfl (ty_c hS (by decide) rfl) (hS.2 58 15 67 rfl) ?_
  refine q_iload dX9_step_114 rfl ?_
  refine q_iald (x := nI 4) (j := (240 * i + k)) dX9_step_116 (ty_c hS (by decide) rfl) (ix_n (by omega) (by omega)) n1 ?_
  refine q_iconst (v := nI 4) dX9_step_117 rfl ?_
  refine q_icmp_eqN (tgt := 133) dX9_step_118 (by decide) (by omega) (by omega) (fun _ => ?_) (fun h => absurd h (by decide))
  refine q_iconst (v := nI 0) dX9_step_133 rfl ?_
  refine q_goto (tgt := 155) dX9_step_134 (by decide) ?_
  refine q_istore dX9_step_155 (by decide) (ls' := [(5, .int (nI 0)), (0, .ref 58), (1, .int (nI i)), (2, .int (nI l)), (3, .int (nI k)), (4, .int (nI (240 * i + k)))]) rfl ?_
  refine q_aload_n dX9_step_157 rfl rfl rfl ?_
  refine q_getr (r := 67) dX9_step_158 fX9_58 rfl (ty_c hS (by decide) rfl) (hS.2 58 15 67 rfl) ?_
  refine q_iload dX9_step_161 rfl ?_
  refine q_iald (x := nI 4) (j := (240 * i + k)) dX9_step_163 (ty_c hS (by decide) rfl) (ix_n (by omega) (by omega)) n1 ?_
  by_cases w164_4 : 4 = 4
  · refine q_tableEq 4 (tgt := 438) (off := 274) dX9_step_164 (by rw [w164_4]) (by decide) rfl (by decide) ?_
    refine q_aload_n dX9_step_438 rfl rfl rfl ?_
    refine q_getr (r := 71) dX9_step_439 fX9_70 rfl (ty_c hS (by decide) rfl) (hS.2 58 19 71 rfl) ?_
    refine q_iload dX9_step_442 rfl ?_
    refine q_iald (x := oW (ld q 0 k)) (j := (240 * i + k)) dX9_step_444 (ty_c hS (by decide) rfl) (ix_n (by omega) (by omega)) l0 ?_
    refine q_ireturn dX9_step_445 rfl rfl (by omega) (by omega) ?_
    exact hQ _ _ (dnq_of e FR9.rf hx h56 (fun _ => ⟨by rw [nx_n5 (by omega)], by rw [kd]; exact h51⟩) (fun z => by cases z))
  omega
theorem y9_dn7 (hS : SK σ) (hi : i < 4) (hr : MR σ i q) (hk : MOK q) (hl : l < 3) (hkN : k < NN q) {s : XS} (hx : XM σ s) (h56 : sI σ 58 56 = nI 0) (h51 : sI σ 58 51 = -1) (hK : KP q l σ s k (psM q).length) (hC : xC s < 1000000) {Q : Option Value → HS → Prop} (hQ : ∀ x σ', DnQ σ q l k s x σ' → Q (some (.int x)) σ') (kd : rK (rg q k) = 7) : WA g mX9_step 2 0 0 (ZM g Q 0 0) 0 0 79 [(0, .ref 58), (1, .int (nI i)), (2, .int (nI l)), (3, .int (nI k)), (4, .int (nI (240 * i + k)))] [] σ := by
  obtain ⟨hc, hw, hB, hxx, hF⟩ := id hk
  have h32 := hw.2.2.2.1
  have hN := NN_le hc
  obtain ⟨⟨n1, n2, n3, n4, n5, n6, n7⟩, l0, l1⟩ := hr.1.2.2.2.2.2.1 k hkN
  obtain ⟨od0, od1⟩ := rg_opd hw (n := k)
  rw [kd] at n1
  have e : dnF q l k s = (s, true) := by
    unfold dnF
    rw [kd, if_neg (by decide), if_neg (by decide), if_neg (by decide), if_neg (by decide)]
  refine q_aload_n dX9_step_79 rfl rfl rfl ?_
  refine q_geti (x := nI 0) dX9_step_80 fX9_183 rfl (ty_c hS (by decide) rfl) h56 ?_
  refine q_if_eqN (tgt := 88) dX9_step_83 (by decide) (by omega) (fun _ => ?_) (fun h => absurd h (by decide))
  refine q_aload_n dX9_step_88 rfl rfl rfl ?_
  refine q_getr (r := 67) dX9_step_89 fX9_58 rfl (ty_c hS (by decide) rfl) (hS.2 58 15 67 rfl) ?_
  refine q_iload dX9_step_92 rfl ?_
  refine q_iald (x := nI 7) (j := (240 * i + k)) dX9_step_94 (ty_c hS (by decide) rfl) (ix_n (by omega) (by omega)) n1 ?_
  refine q_if_eqN (tgt := 133) dX9_step_95 (by decide) (by omega) (fun h => absurd h (by decide)) (fun _ => ?_)
  refine q_aload_n dX9_step_98 rfl rfl rfl ?_
  refine q_getr (r := 67) dX9_step_99 fX9_58 rfl (ty_c hS (by decide) rfl) (hS.2 58 15 67 rfl) ?_
  refine q_iload dX9_step_102 rfl ?_
  refine q_iald (x := nI 7) (j := (240 * i + k)) dX9_step_104 (ty_c hS (by decide) rfl) (ix_n (by omega) (by omega)) n1 ?_
  refine q_bipush (v := nI 7) dX9_step_105 rfl ?_
  refine q_icmp_eqN (tgt := 133) dX9_step_107 (by decide) (by omega) (by omega) (fun _ => ?_) (fun h => absurd h (by decide))
  refine q_iconst (v := nI 0) dX9_step_133 rfl ?_
  refine q_goto (tgt := 155) dX9_step_134 (by decide) ?_
  refine q_istore dX9_step_155 (by decide) (ls' := [(5, .int (nI 0)), (0, .ref 58), (1, .int (nI i)), (2, .int (nI l)), (3, .int (nI k)), (4, .int (nI (240 * i + k)))]) rfl ?_
  refine q_aload_n dX9_step_157 rfl rfl rfl ?_
  refine q_getr (r := 67) dX9_step_158 fX9_58 rfl (ty_c hS (by decide) rfl) (hS.2 58 15 67 rfl) ?_
  refine q_iload dX9_step_161 rfl ?_
  refine q_iald (x := nI 7) (j := (240 * i + k)) dX9_step_163 (ty_c hS (by decide) rfl) (ix_n (by omega) (by omega)) n1 ?_
  refine q_tableNe 0 6 (tgt := 438) dX9_step_164 (by decide) (fun v h1 h2 e => by have e2 := nI_inj (by omega) (by omega) e; omega) (by decide) ?_
  refine q_aload_n dX9_step_438 rfl rfl rfl ?_
  refine q_getr (r := 71) dX9_step_439 fX9_70 rfl (ty_c hS (by decide) rfl) (hS.2 58 19 71 rfl) ?_
  refine q_iload dX9_step_442 rfl ?_
  refine q_iald (x := oW (ld q 0 k)) (j := (240 * i + k)) dX9_step_444 (ty_c hS (by decide) rfl) (ix_n (by omega) (by omega)) l0 ?_
  refine q_ireturn dX9_step_445 rfl rfl (by omega) (by omega) ?_
  exact hQ _ _ (dnq_of e FR9.rf hx h56 (fun _ => ⟨by rw [nx_n5 (by omega)], by rw [kd]; exact h51⟩) (fun z => by cases z))
theorem y9_dn6 (hS : SK σ) (hi : i < 4) (hr : MR σ i q) (hk : MOK q) (hl : l < 3) (hkN : k < NN q) {s : XS} (hx : XM σ s) (h56 : sI σ 58 56 = nI 0) (h51 : sI σ 58 51 = -1) (hK : KP q l σ s k (psM q).length) (hC : xC s < 1000000) {Q : Option Value → HS → Prop} (hQ : ∀ x σ', DnQ σ q l k s x σ' → Q (some (.int x)) σ') (kd : rK (rg q k) = 6) : WA g mX9_step 2 0 0 (ZM g Q 0 0) 0 0 79 [(0, .ref 58), (1, .int (nI i)), (2, .int (nI l)), (3, .int (nI k)), (4, .int (nI (240 * i + k)))] [] σ := by
  obtain ⟨hc, hw, hB, hxx, hF⟩ := id hk
  have h32 := hw.2.2.2.1
  have hN := NN_le hc
  obtain ⟨⟨n1, n2, n3, n4, n5, n6, n7⟩, l0, l1⟩ := hr.1.2.2.2.2.2.1 k hkN
  obtain ⟨od0, od1⟩ := rg_opd hw (n := k)
  rw [kd] at n1
  have e : dnF q l k s = (s, true) := by
    unfold dnF
    rw [kd, if_neg (by decide), if_neg (by decide), if_neg (by decide), if_neg (by decide)]
  refine q_aload_n dX9_step_79 rfl rfl rfl ?_
  refine q_geti (x := nI 0) dX9_step_80 fX9_183 rfl (ty_c hS (by decide) rfl) h56 ?_
  refine q_if_eqN (tgt := 88) dX9_step_83 (by decide) (by omega) (fun _ => ?_) (fun h => absurd h (by decide))
  refine q_aload_n dX9_step_88 rfl rfl rfl ?_
  refine q_getr (r := 67) dX9_step_89 fX9_58 rfl (ty_c hS (by decide) rfl) (hS.2 58 15 67 rfl) ?_
  refine q_iload dX9_step_92 rfl ?_
  refine q_iald (x := nI 6) (j := (240 * i + k)) dX9_step_94 (ty_c hS (by decide) rfl) (ix_n (by omega) (by omega)) n1 ?_
  refine q_if_eqN (tgt := 133) dX9_step_95 (by decide) (by omega) (fun h => absurd h (by decide)) (fun _ => ?_)
  refine q_aload_n dX9_step_98 rfl rfl rfl ?_
  refine q_getr (r := 67) dX9_step_99 fX9_58 rfl (ty_c hS (by decide) rfl) (hS.2 58 15 67 rfl) ?_
  refine q_iload dX9_step_102 rfl ?_
  refine q_iald (x := nI 6) (j := (240 * i + k)) dX9_step_104 (ty_c hS (by decide) rfl) (ix_n (by omega) (by omega)) n1 ?_
  refine q_bipush (v := nI 7) dX9_step_105 rfl ?_
  refine q_icmp_eqN (tgt := 133) dX9_step_107 (by decide) (by omega) (by omega) (fun h => absurd h (by decide)) (fun _ => ?_)
  refine q_aload_n dX9_step_110 rfl rfl rfl ?_
  refine q_getr (r := 67) dX9_step_111 fX9_58 rfl (ty_c hS (by decide) rfl) (hS.2 58 15 67 rfl) ?_
  refine q_iload dX9_step_114 rfl ?_
  refine q_iald (x := nI 6) (j := (240 * i + k)) dX9_step_116 (ty_c hS (by decide) rfl) (ix_n (by omega) (by omega)) n1 ?_
  refine q_iconst (v := nI 4) dX9_step_117 rfl ?_
  refine q_icmp_eqN (tgt := 133) dX9_step_118 (by decide) (by omega) (by omega) (fun h => absurd h (by decide)) (fun _ => ?_)
  refine q_aload_n dX9_step_121 rfl rfl rfl ?_
  refine q_getr (r := 67) dX9_step_122 fX9_58 rfl (ty_c hS (by decide) rfl) (hS.2 58 15 67 rfl) ?_
  refine q_iload dX9_step_125 rfl ?_
  refine q_iald (x := nI 6) (j := (240 * i + k)) dX9_step_127 (ty_c hS (by decide) rfl) (ix_n (by omega) (by omega)) n1 ?_
  refine q_bipush (v := nI 6) dX9_step_128 rfl ?_
  refine q_icmp_neN (tgt := 137) dX9_step_130 (by decide) (by omega) (by omega) (fun h => absurd h (by decide)) (fun _ => ?_)
  refine q_iconst (v := nI 0) dX9_step_133 rfl ?_
  refine q_goto (tgt := 155) dX9_step_134 (by decide) ?_
  refine q_istore dX9_step_155 (by decide) (ls' := [(5, .int (nI 0)), (0, .ref 58), (1, .int (nI i)), (2, .int (nI l)), (3, .int (nI k)), (4, .int (nI (240 * i + k)))]) rfl ?_
  refine q_aload_n dX9_step_157 rfl rfl rfl ?_
  refine q_getr (r := 67) dX9_step_158 fX9_58 rfl (ty_c hS (by decide) rfl) (hS.2 58 15 67 rfl) ?_
  refine q_iload dX9_step_161 rfl ?_
  refine q_iald (x := nI 6) (j := (240 * i + k)) dX9_step_163 (ty_c hS (by decide) rfl) (ix_n (by omega) (by omega)) n1 ?_
  by_cases w164_6 : 6 = 6
  · refine q_tableEq 6 (tgt := 430) (off := 266) dX9_step_164 (by rw [w164_6]) (by decide) rfl (by decide) ?_
    refine q_aload_n dX9_step_430 rfl rfl rfl ?_
    refine q_iconst (v := nI 0) dX9_step_431 rfl ?_
    refine q_puti dX9_step_432 fX9_168 rfl (Or.inl rfl) (ty_c hS (by decide) rfl) ?_
    refine q_goto (tgt := 438) dX9_step_435 (by decide) ?_
    refine q_aload_n dX9_step_438 rfl rfl rfl ?_
    refine q_getr (r := 71) dX9_step_439 fX9_70 rfl (ty_c hS (by decide) rfl) (hS.2 58 19 71 rfl) ?_
    refine q_iload dX9_step_442 rfl ?_
    refine q_iald (x := oW (ld q 0 k)) (j := (240 * i + k)) dX9_step_444 (ty_c hS (by decide) rfl) (ix_n (by omega) (by omega)) (Eq.trans (rd_off (by decide)) l0) ?_
    refine q_ireturn dX9_step_445 rfl rfl (by omega) (by omega) ?_
    exact hQ _ _ (dnq_of e (FR9.rf.uI (by unfold dnq; omega)) (hx.re (by omega)) ((rd_ne (by omega)).trans h56) (fun _ => ⟨by rw [nx_n5 (by omega)], by rw [kd]; exact uI_self⟩) (fun z => by cases z))
  omega
theorem y9_dn1 (hS : SK σ) (hi : i < 4) (hr : MR σ i q) (hk : MOK q) (hl : l < 3) (hkN : k < NN q) {s : XS} (hx : XM σ s) (h56 : sI σ 58 56 = nI 0) (h51 : sI σ 58 51 = -1) (hK : KP q l σ s k (psM q).length) (hC : xC s < 1000000) {Q : Option Value → HS → Prop} (hQ : ∀ x σ', DnQ σ q l k s x σ' → Q (some (.int x)) σ') (kd : rK (rg q k) = 1) : WA g mX9_step 2 0 0 (ZM g Q 0 0) 0 0 79 [(0, .ref 58), (1, .int (nI i)), (2, .int (nI l)), (3, .int (nI k)), (4, .int (nI (240 * i + k)))] [] σ := by
  obtain ⟨hc, hw, hB, hxx, hF⟩ := id hk
  have h32 := hw.2.2.2.1
  have hN := NN_le hc
  obtain ⟨⟨n1, n2, n3, n4, n5, n6, n7⟩, l0, l1⟩ := hr.1.2.2.2.2.2.1 k hkN
  obtain ⟨od0, od1⟩ := rg_opd hw (n := k)
  rw [kd] at n1
  obtain ⟨nm, m1, m2⟩ := (rg_t hw (n := k)).1 (by omega)
  have r69 : sI σ 69 (240 * i + k) = nI nm := by rw [n3, if_pos (by omega)]; exact m2
  have et : tgt q k = nm := by unfold tgt; rw [m2]; exact nI_clamp (by omega)
  obtain ⟨a0, a1⟩ := n5 (by omega)
  have e : dnF q l k s = (gvS s nm (opV (xN s) (rO0 (rg q k))), true) := by
    unfold dnF
    rw [kd, if_neg (by decide), if_pos rfl, et]
  refine q_aload_n dX9_step_79 rfl rfl rfl ?_
  refine q_geti (x := nI 0) dX9_step_80 fX9_183 rfl (ty_c hS (by decide) rfl) h56 ?_
  refine q_if_eqN (tgt := 88) dX9_step_83 (by decide) (by omega) (fun _ => ?_) (fun h => absurd h (by decide))
  refine q_aload_n dX9_step_88 rfl rfl rfl ?_
  refine q_getr (r := 67) dX9_step_89 fX9_58 rfl (ty_c hS (by decide) rfl) (hS.2 58 15 67 rfl) ?_
  refine q_iload dX9_step_92 rfl ?_
  refine q_iald (x := nI 1) (j := (240 * i + k)) dX9_step_94 (ty_c hS (by decide) rfl) (ix_n (by omega) (by omega)) n1 ?_
  refine q_if_eqN (tgt := 133) dX9_step_95 (by decide) (by omega) (fun h => absurd h (by decide)) (fun _ => ?_)
  refine q_aload_n dX9_step_98 rfl rfl rfl ?_
  refine q_getr (r := 67) dX9_step_99 fX9_58 rfl (ty_c hS (by decide) rfl) (hS.2 58 15 67 rfl) ?_
  refine q_iload dX9_step_102 rfl ?_
  refine q_iald (x := nI 1) (j := (240 * i + k)) dX9_step_104 (ty_c hS (by decide) rfl) (ix_n (by omega) (by omega)) n1 ?_
  refine q_bipush (v := nI 7) dX9_step_105 rfl ?_
  refine q_icmp_eqN (tgt := 133) dX9_step_107 (by decide) (by omega) (by omega) (fun h => absurd h (by decide)) (fun _ => ?_)
  refine q_aload_n dX9_step_110 rfl rfl rfl ?_
  refine q_getr (r := 67) dX9_step_111 fX9_58 rfl (ty_c hS (by decide) rfl) (hS.2 58 15 67 rfl) ?_
  refine q_iload dX9_step_114 rfl ?_
  refine q_iald (x := nI 1) (j := (240 * i + k)) dX9_step_116 (ty_c hS (by decide) rfl) (ix_n (by omega) (by omega)) n1 ?_
  refine q_iconst (v := nI 4) dX9_step_117 rfl ?_
  refine q_icmp_eqN (tgt := 133) dX9_step_118 (by decide) (by omega) (by omega) (fun h => absurd h (by decide)) (fun _ => ?_)
  refine q_aload_n dX9_step_121 rfl rfl rfl ?_
  refine q_getr (r := 67) dX9_step_122 fX9_58 rfl (ty_c hS (by decide) rfl) (hS.2 58 15 67 rfl) ?_
  refine q_iload dX9_step_125 rfl ?_
  refine q_iald (x := nI 1) (j := (240 * i + k)) dX9_step_127 (ty_c hS (by decide) rfl) (ix_n (by omega) (by omega)) n1 ?_
  refine q_bipush (v := nI 6) dX9_step_128 rfl ?_
  refine q_icmp_neN (tgt := 137) dX9_step_130 (by decide) (by omega) (by omega) (fun _ => ?_) (fun h => absurd h (by decide))
  refine q_aload_n dX9_step_137 rfl rfl rfl ?_
  refine q_aload_n dX9_step_138 rfl rfl rfl ?_
  refine q_getr (r := 73) dX9_step_139 fX9_76 rfl (ty_c hS (by decide) rfl) (hS.2 58 21 73 rfl) ?_
  refine q_iload dX9_step_142 rfl ?_
  refine q_iald (x := opn (rO0 (rg q k))) (j := (240 * i + k)) dX9_step_144 (ty_c hS (by decide) rfl) (ix_n (by omega) (by omega)) a0 ?_
  refine q_aload_n dX9_step_145 rfl rfl rfl ?_
  refine q_getr (r := 74) dX9_step_146 fX9_79 rfl (ty_c hS (by decide) rfl) (hS.2 58 22 74 rfl) ?_
  refine q_iload dX9_step_149 rfl ?_
  refine q_iald (x := opv (rO0 (rg q k))) (j := (240 * i + k)) dX9_step_151 (ty_c hS (by decide) rfl) (ix_n (by omega) (by omega)) a1 ?_
  refine q_callV (As := [.int (opn (rO0 (rg q k))), .int (opv (rO0 (rg q k)))]) (rest := []) dX9_step_152 vX9_395 (ty_c hS (by decide) rfl) ⟨by decide, rfl⟩ (z9_of hS hx od0) rfl rfl (Nat.le_of_ble_eq_true rfl) (by omega) (by omega) (by omega) (k_p ?_)
  refine q_istore dX9_step_155 (by decide) (ls' := [(5, .int (opV (xN s) (rO0 (rg q k)))), (0, .ref 58), (1, .int (nI i)), (2, .int (nI l)), (3, .int (nI k)), (4, .int (nI (240 * i + k)))]) rfl ?_
  refine q_aload_n dX9_step_157 rfl rfl rfl ?_
  refine q_getr (r := 67) dX9_step_158 fX9_58 rfl (ty_c hS (by decide) rfl) (hS.2 58 15 67 rfl) ?_
  refine q_iload dX9_step_161 rfl ?_
  refine q_iald (x := nI 1) (j := (240 * i + k)) dX9_step_163 (ty_c hS (by decide) rfl) (ix_n (by omega) (by omega)) n1 ?_
  by_cases w164_1 : 1 = 1
  · refine q_tableEq 1 (tgt := 272) (off := 108) dX9_step_164 (by rw [w164_1]) (by decide) rfl (by decide) ?_
    refine q_aload_n dX9_step_272 rfl rfl rfl ?_
    refine q_getr (r := 90) dX9_step_273 fX9_153 rfl (ty_c hS (by decide) rfl) (hS.2 58 46 90 rfl) ?_
    refine q_aload_n dX9_step_276 rfl rfl rfl ?_
    refine q_getr (r := 69) dX9_step_277 fX9_64 rfl (ty_c hS (by decide) rfl) (hS.2 58 17 69 rfl) ?_
    refine q_iload dX9_step_280 rfl ?_
    refine q_iald (x := nI nm) (j := (240 * i + k)) dX9_step_282 (ty_c hS (by decide) rfl) (ix_n (by omega) (by omega)) r69 ?_
    refine q_iload dX9_step_283 rfl ?_
    refine q_iast (j := nm) dX9_step_285 (ty_c hS (by decide) rfl) (ix_n (by omega) (by omega)) ?_
    refine q_goto (tgt := 438) dX9_step_286 (by decide) ?_
    refine q_aload_n dX9_step_438 rfl rfl rfl ?_
    refine q_getr (r := 71) dX9_step_439 fX9_70 rfl (ty_c hS (by decide) rfl) (hS.2 58 19 71 rfl) ?_
    refine q_iload dX9_step_442 rfl ?_
    refine q_iald (x := oW (ld q 0 k)) (j := (240 * i + k)) dX9_step_444 (ty_c hS (by decide) rfl) (ix_n (by omega) (by omega)) (Eq.trans (rd_off (by decide)) l0) ?_
    refine q_ireturn dX9_step_445 rfl rfl (by omega) (by omega) ?_
    exact hQ _ _ (dnq_of e (FR9.rf.uI (by unfold dnq; omega)) hx.gv ((rd_off (by omega)).trans h56) (fun _ => ⟨by rw [nx_n5 (by omega)], by rw [kd]; exact (rd_off (by omega)).trans h51⟩) (fun z => by cases z))
  omega
theorem y9_dn5 (hS : SK σ) (hi : i < 4) (hr : MR σ i q) (hk : MOK q) (hl : l < 3) (hkN : k < NN q) {s : XS} (hx : XM σ s) (h56 : sI σ 58 56 = nI 0) (h51 : sI σ 58 51 = -1) (hK : KP q l σ s k (psM q).length) (hC : xC s < 1000000) {Q : Option Value → HS → Prop} (hQ : ∀ x σ', DnQ σ q l k s x σ' → Q (some (.int x)) σ') (kd : rK (rg q k) = 5) : WA g mX9_step 2 0 0 (ZM g Q 0 0) 0 0 79 [(0, .ref 58), (1, .int (nI i)), (2, .int (nI l)), (3, .int (nI k)), (4, .int (nI (240 * i + k)))] [] σ := by
  obtain ⟨hc, hw, hB, hxx, hF⟩ := id hk
  have h32 := hw.2.2.2.1
  have hN := NN_le hc
  obtain ⟨⟨n1, n2, n3, n4, n5, n6, n7⟩, l0, l1⟩ := hr.1.2.2.2.2.2.1 k hkN
  obtain ⟨od0, od1⟩ := rg_opd hw (n := k)
  rw [kd] at n1
  obtain ⟨a0, a1⟩ := n5 (by omega)
  obtain ⟨b0, b1⟩ := n6 (by omega)
  have e : dnF q l k s = (s, true) := by
    unfold dnF
    rw [kd, if_neg (by decide), if_neg (by decide), if_neg (by decide), if_neg (by decide)]
  refine q_aload_n dX9_step_79 rfl rfl rfl ?_
  refine q_geti (x := nI 0) dX9_step_80 fX9_183 rfl (ty_c hS (by decide) rfl) h56 ?_
  refine q_if_eqN (tgt := 88) dX9_step_83 (by decide) (by omega) (fun _ => ?_) (fun h => absurd h (by decide))
  refine q_aload_n dX9_step_88 rfl rfl rfl ?_
  refine q_getr (r := 67) dX9_step_89 fX9_58 rfl (ty_c hS (by decide) rfl) (hS.2 58 15 67 rfl) ?_
  refine q_iload dX9_step_92 rfl ?_
  refine q_iald (x := nI 5) (j := (240 * i + k)) dX9_step_94 (ty_c hS (by decide) rfl) (ix_n (by omega) (by omega)) n1 ?_
  refine q_if_eqN (tgt := 133) dX9_step_95 (by decide) (by omega) (fun h => absurd h (by decide)) (fun _ => ?_)
  refine q_aload_n dX9_step_98 rfl rfl rfl ?_
  refine q_getr (r := 67) dX9_step_99 fX9_58 rfl (ty_c hS (by decide) rfl) (hS.2 58 15 67 rfl) ?_
  refine q_iload dX9_step_102 rfl ?_
  refine q_iald (x := nI 5) (j := (240 * i + k)) dX9_step_104 (ty_c hS (by decide) rfl) (ix_n (by omega) (by omega)) n1 ?_
  refine q_bipush (v := nI 7) dX9_step_105 rfl ?_
  refine q_icmp_eqN (tgt := 133) dX9_step_107 (by decide) (by omega) (by omega) (fun h => absurd h (by decide)) (fun _ => ?_)
  refine q_aload_n dX9_step_110 rfl rfl rfl ?_
  refine q_getr (r := 67) dX9_step_111 fX9_58 rfl (ty_c hS (by decide) rfl) (hS.2 58 15 67 rfl) ?_
  refine q_iload dX9_step_114 rfl ?_
  refine q_iald (x := nI 5) (j := (240 * i + k)) dX9_step_116 (ty_c hS (by decide) rfl) (ix_n (by omega) (by omega)) n1 ?_
  refine q_iconst (v := nI 4) dX9_step_117 rfl ?_
  refine q_icmp_eqN (tgt := 133) dX9_step_118 (by decide) (by omega) (by omega) (fun h => absurd h (by decide)) (fun _ => ?_)
  refine q_aload_n dX9_step_121 rfl rfl rfl ?_
  refine q_getr (r := 67) dX9_step_122 fX9_58 rfl (ty_c hS (by decide) rfl) (hS.2 58 15 67 rfl) ?_
  refine q_iload dX9_step_125 rfl ?_
  refine q_iald (x := nI 5) (j := (240 * i + k)) dX9_step_127 (ty_c hS (by decide) rfl) (ix_n (by omega) (by omega)) n1 ?_
  refine q_bipush (v := nI 6) dX9_step_128 rfl ?_
  refine q_icmp_neN (tgt := 137) dX9_step_130 (by decide) (by omega) (by omega) (fun _ => ?_) (fun h => absurd h (by decide))
  refine q_aload_n dX9_step_137 rfl rfl rfl ?_
  refine q_aload_n dX9_step_138 rfl rfl rfl ?_
  refine q_getr (r := 73) dX9_step_139 fX9_76 rfl (ty_c hS (by decide) rfl) (hS.2 58 21 73 rfl) ?_
  refine q_iload dX9_step_142 rfl ?_
  refine q_iald (x := opn (rO0 (rg q k))) (j := (240 * i + k)) dX9_step_144 (ty_c hS (by decide) rfl) (ix_n (by omega) (by omega)) a0 ?_
  refine q_aload_n dX9_step_145 rfl rfl rfl ?_
  refine q_getr (r := 74) dX9_step_146 fX9_79 rfl (ty_c hS (by decide) rfl) (hS.2 58 22 74 rfl) ?_
  refine q_iload dX9_step_149 rfl ?_
  refine q_iald (x := opv (rO0 (rg q k))) (j := (240 * i + k)) dX9_step_151 (ty_c hS (by decide) rfl) (ix_n (by omega) (by omega)) a1 ?_
  refine q_callV (As := [.int (opn (rO0 (rg q k))), .int (opv (rO0 (rg q k)))]) (rest := []) dX9_step_152 vX9_395 (ty_c hS (by decide) rfl) ⟨by decide, rfl⟩ (z9_of hS hx od0) rfl rfl (Nat.le_of_ble_eq_true rfl) (by omega) (by omega) (by omega) (k_p ?_)
  refine q_istore dX9_step_155 (by decide) (ls' := [(5, .int (opV (xN s) (rO0 (rg q k)))), (0, .ref 58), (1, .int (nI i)), (2, .int (nI l)), (3, .int (nI k)), (4, .int (nI (240 * i + k)))]) rfl ?_
  refine q_aload_n dX9_step_157 rfl rfl rfl ?_
  refine q_getr (r := 67) dX9_step_158 fX9_58 rfl (ty_c hS (by decide) rfl) (hS.2 58 15 67 rfl) ?_
  refine q_iload dX9_step_161 rfl ?_
  refine q_iald (x := nI 5) (j := (240 * i + k)) dX9_step_163 (ty_c hS (by decide) rfl) (ix_n (by omega) (by omega)) n1 ?_
  by_cases w164_5 : 5 = 5
  · refine q_tableEq 5 (tgt := 389) (off := 225) dX9_step_164 (by rw [w164_5]) (by decide) rfl (by decide) ?_
    refine q_iload dX9_step_389 rfl ?_
    refine q_aload_n dX9_step_391 rfl rfl rfl ?_
    refine q_aload_n dX9_step_392 rfl rfl rfl ?_
    refine q_getr (r := 75) dX9_step_393 fX9_82 rfl (ty_c hS (by decide) rfl) (hS.2 58 23 75 rfl) ?_
    refine q_iload dX9_step_396 rfl ?_
    refine q_iald (x := opn (rO1 (rg q k))) (j := (240 * i + k)) dX9_step_398 (ty_c hS (by decide) rfl) (ix_n (by omega) (by omega)) b0 ?_
    refine q_aload_n dX9_step_399 rfl rfl rfl ?_
    refine q_getr (r := 76) dX9_step_400 fX9_85 rfl (ty_c hS (by decide) rfl) (hS.2 58 24 76 rfl) ?_
    refine q_iload dX9_step_403 rfl ?_
    refine q_iald (x := opv (rO1 (rg q k))) (j := (240 * i + k)) dX9_step_405 (ty_c hS (by decide) rfl) (ix_n (by omega) (by omega)) b1 ?_
    refine q_callV (As := [.int (opn (rO1 (rg q k))), .int (opv (rO1 (rg q k)))]) (rest := [.int (opV (xN s) (rO0 (rg q k)))]) dX9_step_406 vX9_395 (ty_c hS (by decide) rfl) ⟨by decide, rfl⟩ (z9_of hS hx od1) rfl rfl (Nat.le_of_ble_eq_true rfl) (by omega) (by omega) (by omega) (k_p ?_)
    refine q_icmp_ge (tgt := 422) dX9_step_409 (by decide) (fun c409 => ?_) (fun c409 => ?_)
    · have nx : nxF q k s = ld q 1 k := if_pos ⟨kd, Int32.not_lt.mpr c409⟩
      refine q_aload_n dX9_step_422 rfl rfl rfl ?_
      refine q_getr (r := 72) dX9_step_423 fX9_73 rfl (ty_c hS (by decide) rfl) (hS.2 58 20 72 rfl) ?_
      refine q_iload dX9_step_426 rfl ?_
      refine q_iald (x := oW (ld q 1 k)) (j := (240 * i + k)) dX9_step_428 (ty_c hS (by decide) rfl) (ix_n (by omega) (by omega)) l1 ?_
      refine q_ireturn dX9_step_429 rfl rfl (by omega) (by omega) ?_
      exact hQ _ _ (dnq_of e FR9.rf hx h56 (fun _ => ⟨by rw [nx], by rw [kd]; exact h51⟩) (fun z => by cases z))
    · have nx : nxF q k s = ld q 0 k := if_neg (fun z => z.2 (Int32.not_le.mp c409))
      refine q_aload_n dX9_step_412 rfl rfl rfl ?_
      refine q_getr (r := 71) dX9_step_413 fX9_70 rfl (ty_c hS (by decide) rfl) (hS.2 58 19 71 rfl) ?_
      refine q_iload dX9_step_416 rfl ?_
      refine q_iald (x := oW (ld q 0 k)) (j := (240 * i + k)) dX9_step_418 (ty_c hS (by decide) rfl) (ix_n (by omega) (by omega)) l0 ?_
      refine q_goto (tgt := 429) dX9_step_419 (by decide) ?_
      refine q_ireturn dX9_step_429 rfl rfl (by omega) (by omega) ?_
      exact hQ _ _ (dnq_of e FR9.rf hx h56 (fun _ => ⟨by rw [nx], by rw [kd]; exact h51⟩) (fun z => by cases z))
  omega
theorem y9_dn3 (hS : SK σ) (hi : i < 4) (hr : MR σ i q) (hk : MOK q) (hl : l < 3) (hkN : k < NN q) {s : XS} (hx : XM σ s) (h56 : sI σ 58 56 = nI 0) (h51 : sI σ 58 51 = -1) (hK : KP q l σ s k (psM q).length) (hC : xC s < 1000000) {Q : Option Value → HS → Prop} (hQ : ∀ x σ', DnQ σ q l k s x σ' → Q (some (.int x)) σ') (kd : rK (rg q k) = 3) : WA g mX9_step 2 0 0 (ZM g Q 0 0) 0 0 79 [(0, .ref 58), (1, .int (nI i)), (2, .int (nI l)), (3, .int (nI k)), (4, .int (nI (240 * i + k)))] [] σ := by
  obtain ⟨hc, hw, hB, hxx, hF⟩ := id hk
  have h32 := hw.2.2.2.1
  have hN := NN_le hc
  obtain ⟨⟨n1, n2, n3, n4, n5, n6, n7⟩, l0, l1⟩ := hr.1.2.2.2.2.2.1 k hkN
  obtain ⟨od0, od1⟩ := rg_opd hw (n := k)
  rw [kd] at n1
  obtain ⟨a0, a1⟩ := n5 (by omega)
  have h53 := hx.2.2.2.2.1
  have e : dnF q l k s = (tlS s (opV (xN s) (rO0 (rg q k))), true) := by
    unfold dnF
    rw [kd, if_neg (by decide), if_neg (by decide), if_neg (by decide), if_pos rfl]
  by_cases hc1 : xC s < 100
  · skip
    refine q_aload_n dX9_step_79 rfl rfl rfl ?_
    refine q_geti (x := nI 0) dX9_step_80 fX9_183 rfl (ty_c hS (by decide) rfl) h56 ?_
    refine q_if_eqN (tgt := 88) dX9_step_83 (by decide) (by omega) (fun _ => ?_) (fun h => absurd h (by decide))
    refine q_aload_n dX9_step_88 rfl rfl rfl ?_
    refine q_getr (r := 67) dX9_step_89 fX9_58 rfl (ty_c hS (by decide) rfl) (hS.2 58 15 67 rfl) ?_
    refine q_iload dX9_step_92 rfl ?_
    refine q_iald (x := nI 3) (j := (240 * i + k)) dX9_step_94 (ty_c hS (by decide) rfl) (ix_n (by omega) (by omega)) n1 ?_
    refine q_if_eqN (tgt := 133) dX9_step_95 (by decide) (by omega) (fun h => absurd h (by decide)) (fun _ => ?_)
    refine q_aload_n dX9_step_98 rfl rfl rfl ?_
    refine q_getr (r := 67) dX9_step_99 fX9_58 rfl (ty_c hS (by decide) rfl) (hS.2 58 15 67 rfl) ?_
    refine q_iload dX9_step_102 rfl ?_
    refine q_iald (x := nI 3) (j := (240 * i + k)) dX9_step_104 (ty_c hS (by decide) rfl) (ix_n (by omega) (by omega)) n1 ?_
    refine q_bipush (v := nI 7) dX9_step_105 rfl ?_
    refine q_icmp_eqN (tgt := 133) dX9_step_107 (by decide) (by omega) (by omega) (fun h => absurd h (by decide)) (fun _ => ?_)
    refine q_aload_n dX9_step_110 rfl rfl rfl ?_
    refine q_getr (r := 67) dX9_step_111 fX9_58 rfl (ty_c hS (by decide) rfl) (hS.2 58 15 67 rfl) ?_
    refine q_iload dX9_step_114 rfl ?_
    refine q_iald (x := nI 3) (j := (240 * i + k)) dX9_step_116 (ty_c hS (by decide) rfl) (ix_n (by omega) (by omega)) n1 ?_
    refine q_iconst (v := nI 4) dX9_step_117 rfl ?_
    refine q_icmp_eqN (tgt := 133) dX9_step_118 (by decide) (by omega) (by omega) (fun h => absurd h (by decide)) (fun _ => ?_)
    refine q_aload_n dX9_step_121 rfl rfl rfl ?_
    refine q_getr (r := 67) dX9_step_122 fX9_58 rfl (ty_c hS (by decide) rfl) (hS.2 58 15 67 rfl) ?_
    refine q_iload dX9_step_125 rfl ?_
    refine q_iald (x := nI 3) (j := (240 * i + k)) dX9_step_127 (ty_c hS (by decide) rfl) (ix_n (by omega) (by omega)) n1 ?_
    refine q_bipush (v := nI 6) dX9_step_128 rfl ?_
    refine q_icmp_neN (tgt := 137) dX9_step_130 (by decide) (by omega) (by omega) (fun _ => ?_) (fun h => absurd h (by decide))
    refine q_aload_n dX9_step_137 rfl rfl rfl ?_
    refine q_aload_n dX9_step_138 rfl rfl rfl ?_
    refine q_getr (r := 73) dX9_step_139 fX9_76 rfl (ty_c hS (by decide) rfl) (hS.2 58 21 73 rfl) ?_
    refine q_iload dX9_step_142 rfl ?_
    refine q_iald (x := opn (rO0 (rg q k))) (j := (240 * i + k)) dX9_step_144 (ty_c hS (by decide) rfl) (ix_n (by omega) (by omega)) a0 ?_
    refine q_aload_n dX9_step_145 rfl rfl rfl ?_
    refine q_getr (r := 74) dX9_step_146 fX9_79 rfl (ty_c hS (by decide) rfl) (hS.2 58 22 74 rfl) ?_
    refine q_iload dX9_step_149 rfl ?_
    refine q_iald (x := opv (rO0 (rg q k))) (j := (240 * i + k)) dX9_step_151 (ty_c hS (by decide) rfl) (ix_n (by omega) (by omega)) a1 ?_
    refine q_callV (As := [.int (opn (rO0 (rg q k))), .int (opv (rO0 (rg q k)))]) (rest := []) dX9_step_152 vX9_395 (ty_c hS (by decide) rfl) ⟨by decide, rfl⟩ (z9_of hS hx od0) rfl rfl (Nat.le_of_ble_eq_true rfl) (by omega) (by omega) (by omega) (k_p ?_)
    refine q_istore dX9_step_155 (by decide) (ls' := [(5, .int (opV (xN s) (rO0 (rg q k)))), (0, .ref 58), (1, .int (nI i)), (2, .int (nI l)), (3, .int (nI k)), (4, .int (nI (240 * i + k)))]) rfl ?_
    refine q_aload_n dX9_step_157 rfl rfl rfl ?_
    refine q_getr (r := 67) dX9_step_158 fX9_58 rfl (ty_c hS (by decide) rfl) (hS.2 58 15 67 rfl) ?_
    refine q_iload dX9_step_161 rfl ?_
    refine q_iald (x := nI 3) (j := (240 * i + k)) dX9_step_163 (ty_c hS (by decide) rfl) (ix_n (by omega) (by omega)) n1 ?_
    by_cases w164_3 : 3 = 3
    · refine q_tableEq 3 (tgt := 356) (off := 192) dX9_step_164 (by rw [w164_3]) (by decide) rfl (by decide) ?_
      refine q_aload_n dX9_step_356 rfl rfl rfl ?_
      refine q_geti (x := nI (xC s)) dX9_step_357 fX9_174 rfl (ty_c hS (by decide) rfl) h53 ?_
      refine q_bipush (v := nI 100) dX9_step_360 rfl ?_
      refine q_icmp_geN (tgt := 376) dX9_step_362 (by decide) (by omega) (by omega) (fun c362 => ?_) (fun c362 => ?_)
      · exact absurd c362 (by omega)
      · skip
        refine q_aload_n dX9_step_365 rfl rfl rfl ?_
        refine q_getr (r := 94) dX9_step_366 fX9_165 rfl (ty_c hS (by decide) rfl) (hS.2 58 50 94 rfl) ?_
        refine q_aload_n dX9_step_369 rfl rfl rfl ?_
        refine q_geti (x := nI (xC s)) dX9_step_370 fX9_174 rfl (ty_c hS (by decide) rfl) h53 ?_
        refine q_iload dX9_step_373 rfl ?_
        refine q_iast (j := (xC s)) dX9_step_375 (ty_c hS (by decide) rfl) (ix_n (by omega) (by omega)) ?_
        refine q_aload_n dX9_step_376 rfl rfl rfl ?_
        refine q_dup dX9_step_377 rfl ?_
        refine q_geti (x := nI (xC s)) dX9_step_378 fX9_174 rfl (ty_c hS (by decide) rfl) (Eq.trans (rd_off (by decide)) h53) ?_
        refine q_iconst (v := nI 1) dX9_step_381 rfl ?_
        refine q_iaddN dX9_step_382 ?_
        refine q_puti dX9_step_383 fX9_174 rfl (Or.inl rfl) (ty_c hS (by decide) rfl) ?_
        refine q_goto (tgt := 438) dX9_step_386 (by decide) ?_
        refine q_aload_n dX9_step_438 rfl rfl rfl ?_
        refine q_getr (r := 71) dX9_step_439 fX9_70 rfl (ty_c hS (by decide) rfl) (hS.2 58 19 71 rfl) ?_
        refine q_iload dX9_step_442 rfl ?_
        refine q_iald (x := oW (ld q 0 k)) (j := (240 * i + k)) dX9_step_444 (ty_c hS (by decide) rfl) (ix_n (by omega) (by omega)) (Eq.trans (rd_off (by decide)) (Eq.trans (rd_off (by decide)) l0)) ?_
        refine q_ireturn dX9_step_445 rfl rfl (by omega) (by omega) ?_
        exact hQ _ _ (dnq_of e ((FR9.rf.uI (by unfold dnq; omega)).uI (by unfold dnq; omega)) (hx.tl1 hc1) ((rd_ne (by omega)).trans ((rd_off (by omega)).trans h56)) (fun _ => ⟨by rw [nx_n5 (by omega)], by rw [kd]; exact (rd_ne (by omega)).trans ((rd_off (by omega)).trans h51)⟩) (fun z => by cases z))
    omega
  · skip
    refine q_aload_n dX9_step_79 rfl rfl rfl ?_
    refine q_geti (x := nI 0) dX9_step_80 fX9_183 rfl (ty_c hS (by decide) rfl) h56 ?_
    refine q_if_eqN (tgt := 88) dX9_step_83 (by decide) (by omega) (fun _ => ?_) (fun h => absurd h (by decide))
    refine q_aload_n dX9_step_88 rfl rfl rfl ?_
    refine q_getr (r := 67) dX9_step_89 fX9_58 rfl (ty_c hS (by decide) rfl) (hS.2 58 15 67 rfl) ?_
    refine q_iload dX9_step_92 rfl ?_
    refine q_iald (x := nI 3) (j := (240 * i + k)) dX9_step_94 (ty_c hS (by decide) rfl) (ix_n (by omega) (by omega)) n1 ?_
    refine q_if_eqN (tgt := 133) dX9_step_95 (by decide) (by omega) (fun h => absurd h (by decide)) (fun _ => ?_)
    refine q_aload_n dX9_step_98 rfl rfl rfl ?_
    refine q_getr (r := 67) dX9_step_99 fX9_58 rfl (ty_c hS (by decide) rfl) (hS.2 58 15 67 rfl) ?_
    refine q_iload dX9_step_102 rfl ?_
    refine q_iald (x := nI 3) (j := (240 * i + k)) dX9_step_104 (ty_c hS (by decide) rfl) (ix_n (by omega) (by omega)) n1 ?_
    refine q_bipush (v := nI 7) dX9_step_105 rfl ?_
    refine q_icmp_eqN (tgt := 133) dX9_step_107 (by decide) (by omega) (by omega) (fun h => absurd h (by decide)) (fun _ => ?_)
    refine q_aload_n dX9_step_110 rfl rfl rfl ?_
    refine q_getr (r := 67) dX9_step_111 fX9_58 rfl (ty_c hS (by decide) rfl) (hS.2 58 15 67 rfl) ?_
    refine q_iload dX9_step_114 rfl ?_
    refine q_iald (x := nI 3) (j := (240 * i + k)) dX9_step_116 (ty_c hS (by decide) rfl) (ix_n (by omega) (by omega)) n1 ?_
    refine q_iconst (v := nI 4) dX9_step_117 rfl ?_
    refine q_icmp_eqN (tgt := 133) dX9_step_118 (by decide) (by omega) (by omega) (fun h => absurd h (by decide)) (fun _ => ?_)
    refine q_aload_n dX9_step_121 rfl rfl rfl ?_
    refine q_getr (r := 67) dX9_step_122 fX9_58 rfl (ty_c hS (by decide) rfl) (hS.2 58 15 67 rfl) ?_
    refine q_iload dX9_step_125 rfl ?_
    refine q_iald (x := nI 3) (j := (240 * i + k)) dX9_step_127 (ty_c hS (by decide) rfl) (ix_n (by omega) (by omega)) n1 ?_
    refine q_bipush (v := nI 6) dX9_step_128 rfl ?_
    refine q_icmp_neN (tgt := 137) dX9_step_130 (by decide) (by omega) (by omega) (fun _ => ?_) (fun h => absurd h (by decide))
    refine q_aload_n dX9_step_137 rfl rfl rfl ?_
    refine q_aload_n dX9_step_138 rfl rfl rfl ?_
    refine q_getr (r := 73) dX9_step_139 fX9_76 rfl (ty_c hS (by decide) rfl) (hS.2 58 21 73 rfl) ?_
    refine q_iload dX9_step_142 rfl ?_
    refine q_iald (x := opn (rO0 (rg q k))) (j := (240 * i + k)) dX9_step_144 (ty_c hS (by decide) rfl) (ix_n (by omega) (by omega)) a0 ?_
    refine q_aload_n dX9_step_145 rfl rfl rfl ?_
    refine q_getr (r := 74) dX9_step_146 fX9_79 rfl (ty_c hS (by decide) rfl) (hS.2 58 22 74 rfl) ?_
    refine q_iload dX9_step_149 rfl ?_
    refine q_iald (x := opv (rO0 (rg q k))) (j := (240 * i + k)) dX9_step_151 (ty_c hS (by decide) rfl) (ix_n (by omega) (by omega)) a1 ?_
    refine q_callV (As := [.int (opn (rO0 (rg q k))), .int (opv (rO0 (rg q k)))]) (rest := []) dX9_step_152 vX9_395 (ty_c hS (by decide) rfl) ⟨by decide, rfl⟩ (z9_of hS hx od0) rfl rfl (Nat.le_of_ble_eq_true rfl) (by omega) (by omega) (by omega) (k_p ?_)
    refine q_istore dX9_step_155 (by decide) (ls' := [(5, .int (opV (xN s) (rO0 (rg q k)))), (0, .ref 58), (1, .int (nI i)), (2, .int (nI l)), (3, .int (nI k)), (4, .int (nI (240 * i + k)))]) rfl ?_
    refine q_aload_n dX9_step_157 rfl rfl rfl ?_
    refine q_getr (r := 67) dX9_step_158 fX9_58 rfl (ty_c hS (by decide) rfl) (hS.2 58 15 67 rfl) ?_
    refine q_iload dX9_step_161 rfl ?_
    refine q_iald (x := nI 3) (j := (240 * i + k)) dX9_step_163 (ty_c hS (by decide) rfl) (ix_n (by omega) (by omega)) n1 ?_
    by_cases w164_3 : 3 = 3
    · refine q_tableEq 3 (tgt := 356) (off := 192) dX9_step_164 (by rw [w164_3]) (by decide) rfl (by decide) ?_
      refine q_aload_n dX9_step_356 rfl rfl rfl ?_
      refine q_geti (x := nI (xC s)) dX9_step_357 fX9_174 rfl (ty_c hS (by decide) rfl) h53 ?_
      refine q_bipush (v := nI 100) dX9_step_360 rfl ?_
      refine q_icmp_geN (tgt := 376) dX9_step_362 (by decide) (by omega) (by omega) (fun c362 => ?_) (fun c362 => ?_)
      · skip
        refine q_aload_n dX9_step_376 rfl rfl rfl ?_
        refine q_dup dX9_step_377 rfl ?_
        refine q_geti (x := nI (xC s)) dX9_step_378 fX9_174 rfl (ty_c hS (by decide) rfl) h53 ?_
        refine q_iconst (v := nI 1) dX9_step_381 rfl ?_
        refine q_iaddN dX9_step_382 ?_
        refine q_puti dX9_step_383 fX9_174 rfl (Or.inl rfl) (ty_c hS (by decide) rfl) ?_
        refine q_goto (tgt := 438) dX9_step_386 (by decide) ?_
        refine q_aload_n dX9_step_438 rfl rfl rfl ?_
        refine q_getr (r := 71) dX9_step_439 fX9_70 rfl (ty_c hS (by decide) rfl) (hS.2 58 19 71 rfl) ?_
        refine q_iload dX9_step_442 rfl ?_
        refine q_iald (x := oW (ld q 0 k)) (j := (240 * i + k)) dX9_step_444 (ty_c hS (by decide) rfl) (ix_n (by omega) (by omega)) (Eq.trans (rd_off (by decide)) l0) ?_
        refine q_ireturn dX9_step_445 rfl rfl (by omega) (by omega) ?_
        exact hQ _ _ (dnq_of e (FR9.rf.uI (by unfold dnq; omega)) (hx.tl2 hc1) ((rd_ne (by omega)).trans h56) (fun _ => ⟨by rw [nx_n5 (by omega)], by rw [kd]; exact (rd_ne (by omega)).trans h51⟩) (fun z => by cases z))
      · exact absurd c362 (by omega)
    omega
theorem y9_dn2 (hS : SK σ) (hi : i < 4) (hr : MR σ i q) (hk : MOK q) (hl : l < 3) (hkN : k < NN q) {s : XS} (hx : XM σ s) (h56 : sI σ 58 56 = nI 0) (h51 : sI σ 58 51 = -1) (hK : KP q l σ s k (psM q).length) (hC : xC s < 1000000) {Q : Option Value → HS → Prop} (hQ : ∀ x σ', DnQ σ q l k s x σ' → Q (some (.int x)) σ') (kd : rK (rg q k) = 2) : WA g mX9_step 2 0 0 (ZM g Q 0 0) 0 0 79 [(0, .ref 58), (1, .int (nI i)), (2, .int (nI l)), (3, .int (nI k)), (4, .int (nI (240 * i + k)))] [] σ := by
  obtain ⟨hc, hw, hB, hxx, hF⟩ := id hk
  have h32 := hw.2.2.2.1
  have hN := NN_le hc
  obtain ⟨⟨n1, n2, n3, n4, n5, n6, n7⟩, l0, l1⟩ := hr.1.2.2.2.2.2.1 k hkN
  obtain ⟨od0, od1⟩ := rg_opd hw (n := k)
  rw [kd] at n1
  obtain ⟨w, w1, w2⟩ := (rg_t hw (n := k)).2 kd
  have r77 : sI σ 77 (240 * i + k) = nI w := (n7 kd).trans w2
  have et : tgt q k = w := by unfold tgt; rw [w2]; exact nI_clamp (by omega)
  obtain ⟨a0, a1⟩ := n5 (by omega)
  obtain ⟨b0, b1⟩ := n6 (by omega)
  by_cases hp : ¬ opV (xN s) (rO0 (rg q k)) < 0 ∧ opV (xN s) (rO0 (rg q k)) < nI 8
  · obtain ⟨c, c1, c2⟩ := n_in (by omega) hp
    have e : dnF q l k s = (grS s w c (opV (xN s) (rO1 (rg q k))), true) := by
      unfold dnF
      rw [kd, if_neg (by decide), if_neg (by decide), if_pos rfl, if_pos hp, et, c2, nI_clamp (by omega)]
    refine q_aload_n dX9_step_79 rfl rfl rfl ?_
    refine q_geti (x := nI 0) dX9_step_80 fX9_183 rfl (ty_c hS (by decide) rfl) h56 ?_
    refine q_if_eqN (tgt := 88) dX9_step_83 (by decide) (by omega) (fun _ => ?_) (fun h => absurd h (by decide))
    refine q_aload_n dX9_step_88 rfl rfl rfl ?_
    refine q_getr (r := 67) dX9_step_89 fX9_58 rfl (ty_c hS (by decide) rfl) (hS.2 58 15 67 rfl) ?_
    refine q_iload dX9_step_92 rfl ?_
    refine q_iald (x := nI 2) (j := (240 * i + k)) dX9_step_94 (ty_c hS (by decide) rfl) (ix_n (by omega) (by omega)) n1 ?_
    refine q_if_eqN (tgt := 133) dX9_step_95 (by decide) (by omega) (fun h => absurd h (by decide)) (fun _ => ?_)
    refine q_aload_n dX9_step_98 rfl rfl rfl ?_
    refine q_getr (r := 67) dX9_step_99 fX9_58 rfl (ty_c hS (by decide) rfl) (hS.2 58 15 67 rfl) ?_
    refine q_iload dX9_step_102 rfl ?_
    refine q_iald (x := nI 2) (j := (240 * i + k)) dX9_step_104 (ty_c hS (by decide) rfl) (ix_n (by omega) (by omega)) n1 ?_
    refine q_bipush (v := nI 7) dX9_step_105 rfl ?_
    refine q_icmp_eqN (tgt := 133) dX9_step_107 (by decide) (by omega) (by omega) (fun h => absurd h (by decide)) (fun _ => ?_)
    refine q_aload_n dX9_step_110 rfl rfl rfl ?_
    refine q_getr (r := 67) dX9_step_111 fX9_58 rfl (ty_c hS (by decide) rfl) (hS.2 58 15 67 rfl) ?_
    refine q_iload dX9_step_114 rfl ?_
    refine q_iald (x := nI 2) (j := (240 * i + k)) dX9_step_116 (ty_c hS (by decide) rfl) (ix_n (by omega) (by omega)) n1 ?_
    refine q_iconst (v := nI 4) dX9_step_117 rfl ?_
    refine q_icmp_eqN (tgt := 133) dX9_step_118 (by decide) (by omega) (by omega) (fun h => absurd h (by decide)) (fun _ => ?_)
    refine q_aload_n dX9_step_121 rfl rfl rfl ?_
    refine q_getr (r := 67) dX9_step_122 fX9_58 rfl (ty_c hS (by decide) rfl) (hS.2 58 15 67 rfl) ?_
    refine q_iload dX9_step_125 rfl ?_
    refine q_iald (x := nI 2) (j := (240 * i + k)) dX9_step_127 (ty_c hS (by decide) rfl) (ix_n (by omega) (by omega)) n1 ?_
    refine q_bipush (v := nI 6) dX9_step_128 rfl ?_
    refine q_icmp_neN (tgt := 137) dX9_step_130 (by decide) (by omega) (by omega) (fun _ => ?_) (fun h => absurd h (by decide))
    refine q_aload_n dX9_step_137 rfl rfl rfl ?_
    refine q_aload_n dX9_step_138 rfl rfl rfl ?_
    refine q_getr (r := 73) dX9_step_139 fX9_76 rfl (ty_c hS (by decide) rfl) (hS.2 58 21 73 rfl) ?_
    refine q_iload dX9_step_142 rfl ?_
    refine q_iald (x := opn (rO0 (rg q k))) (j := (240 * i + k)) dX9_step_144 (ty_c hS (by decide) rfl) (ix_n (by omega) (by omega)) a0 ?_
    refine q_aload_n dX9_step_145 rfl rfl rfl ?_
    refine q_getr (r := 74) dX9_step_146 fX9_79 rfl (ty_c hS (by decide) rfl) (hS.2 58 22 74 rfl) ?_
    refine q_iload dX9_step_149 rfl ?_
    refine q_iald (x := opv (rO0 (rg q k))) (j := (240 * i + k)) dX9_step_151 (ty_c hS (by decide) rfl) (ix_n (by omega) (by omega)) a1 ?_
    refine q_callV (As := [.int (opn (rO0 (rg q k))), .int (opv (rO0 (rg q k)))]) (rest := []) dX9_step_152 vX9_395 (ty_c hS (by decide) rfl) ⟨by decide, rfl⟩ (c2 ▸ z9_of hS hx od0) rfl rfl (Nat.le_of_ble_eq_true rfl) (by omega) (by omega) (by omega) (k_p ?_)
    refine q_istore dX9_step_155 (by decide) (ls' := [(5, .int (nI c)), (0, .ref 58), (1, .int (nI i)), (2, .int (nI l)), (3, .int (nI k)), (4, .int (nI (240 * i + k)))]) rfl ?_
    refine q_aload_n dX9_step_157 rfl rfl rfl ?_
    refine q_getr (r := 67) dX9_step_158 fX9_58 rfl (ty_c hS (by decide) rfl) (hS.2 58 15 67 rfl) ?_
    refine q_iload dX9_step_161 rfl ?_
    refine q_iald (x := nI 2) (j := (240 * i + k)) dX9_step_163 (ty_c hS (by decide) rfl) (ix_n (by omega) (by omega)) n1 ?_
    by_cases w164_2 : 2 = 2
    · refine q_tableEq 2 (tgt := 289) (off := 125) dX9_step_164 (by rw [w164_2]) (by decide) rfl (by decide) ?_
      refine q_aload_n dX9_step_289 rfl rfl rfl ?_
      refine q_iload dX9_step_290 rfl ?_
      refine q_if_ltN (tgt := 302) dX9_step_292 (by decide) (by omega) ?_
      refine q_iload dX9_step_295 rfl ?_
      refine q_bipush (v := nI 7) dX9_step_297 rfl ?_
      refine q_icmp_leN (tgt := 306) dX9_step_299 (by decide) (by omega) (by omega) (fun c299 => ?_) (fun c299 => ?_)
      · skip
        refine q_iconst (v := nI 0) dX9_step_306 rfl ?_
        refine q_putz dX9_step_307 fX9_183 rfl (Or.inl rfl) (ty_c hS (by decide) rfl) (Or.inl rfl) ?_
        refine q_aload_n dX9_step_310 rfl rfl rfl ?_
        refine q_geti (x := nI 0) dX9_step_311 fX9_183 rfl (ty_c hS (by decide) rfl) uI_self ?_
        refine q_if_neN (tgt := 438) dX9_step_314 (by decide) (by omega) (fun h => absurd h (by decide)) (fun _ => ?_)
        refine q_aload_n dX9_step_317 rfl rfl rfl ?_
        refine q_getr (r := 91) dX9_step_318 fX9_156 rfl (ty_c hS (by decide) rfl) (hS.2 58 47 91 rfl) ?_
        refine q_bipush (v := nI 8) dX9_step_321 rfl ?_
        refine q_aload_n dX9_step_323 rfl rfl rfl ?_
        refine q_getr (r := 77) dX9_step_324 fX9_88 rfl (ty_c hS (by decide) rfl) (hS.2 58 25 77 rfl) ?_
        refine q_iload dX9_step_327 rfl ?_
        refine q_iald (x := nI w) (j := (240 * i + k)) dX9_step_329 (ty_c hS (by decide) rfl) (ix_n (by omega) (by omega)) (Eq.trans (rd_off (by decide)) r77) ?_
        refine q_imulN dX9_step_330 ?_
        refine q_iload dX9_step_331 rfl ?_
        refine q_iaddN dX9_step_333 ?_
        refine q_aload_n dX9_step_334 rfl rfl rfl ?_
        refine q_aload_n dX9_step_335 rfl rfl rfl ?_
        refine q_getr (r := 75) dX9_step_336 fX9_82 rfl (ty_c hS (by decide) rfl) (hS.2 58 23 75 rfl) ?_
        refine q_iload dX9_step_339 rfl ?_
        refine q_iald (x := opn (rO1 (rg q k))) (j := (240 * i + k)) dX9_step_341 (ty_c hS (by decide) rfl) (ix_n (by omega) (by omega)) (Eq.trans (rd_off (by decide)) b0) ?_
        refine q_aload_n dX9_step_342 rfl rfl rfl ?_
        refine q_getr (r := 76) dX9_step_343 fX9_85 rfl (ty_c hS (by decide) rfl) (hS.2 58 24 76 rfl) ?_
        refine q_iload dX9_step_346 rfl ?_
        refine q_iald (x := opv (rO1 (rg q k))) (j := (240 * i + k)) dX9_step_348 (ty_c hS (by decide) rfl) (ix_n (by omega) (by omega)) (Eq.trans (rd_off (by decide)) b1) ?_
        refine q_callV (As := [.int (opn (rO1 (rg q k))), .int (opv (rO1 (rg q k)))]) (rest := [.int (nI ((8 * w) + c)), .ref 91]) dX9_step_349 vX9_395 (ty_c hS (by decide) rfl) ⟨by decide, rfl⟩ (z9_of (σ := (uI σ 58 56 (nI 0))) hS (hx.re (by omega)) od1) rfl rfl (Nat.le_of_ble_eq_true rfl) (by omega) (by omega) (by omega) (k_p ?_)
        refine q_iast (j := ((8 * w) + c)) dX9_step_352 (ty_c hS (by decide) rfl) (ix_n (by omega) (by omega)) ?_
        refine q_goto (tgt := 438) dX9_step_353 (by decide) ?_
        refine q_aload_n dX9_step_438 rfl rfl rfl ?_
        refine q_getr (r := 71) dX9_step_439 fX9_70 rfl (ty_c hS (by decide) rfl) (hS.2 58 19 71 rfl) ?_
        refine q_iload dX9_step_442 rfl ?_
        refine q_iald (x := oW (ld q 0 k)) (j := (240 * i + k)) dX9_step_444 (ty_c hS (by decide) rfl) (ix_n (by omega) (by omega)) (Eq.trans (rd_off (by decide)) (Eq.trans (rd_off (by decide)) l0)) ?_
        refine q_ireturn dX9_step_445 rfl rfl (by omega) (by omega) ?_
        exact hQ _ _ (dnq_of e ((FR9.rf.uI (by unfold dnq; omega)).uI (by unfold dnq; omega)) ((hx.re (by omega)).gr w1 c1) ((rd_off (by omega)).trans uI_self) (fun _ => ⟨by rw [nx_n5 (by omega)], by rw [kd]; exact (rd_off (by omega)).trans ((rd_ne (by omega)).trans h51)⟩) (fun z => by cases z))
      · exact absurd c299 (by omega)
    omega
  · have e : dnF q l k s = (s, false) := by
      unfold dnF
      rw [kd, if_neg (by decide), if_neg (by decide), if_pos rfl, if_neg hp]
    refine q_aload_n dX9_step_79 rfl rfl rfl ?_
    refine q_geti (x := nI 0) dX9_step_80 fX9_183 rfl (ty_c hS (by decide) rfl) h56 ?_
    refine q_if_eqN (tgt := 88) dX9_step_83 (by decide) (by omega) (fun _ => ?_) (fun h => absurd h (by decide))
    refine q_aload_n dX9_step_88 rfl rfl rfl ?_
    refine q_getr (r := 67) dX9_step_89 fX9_58 rfl (ty_c hS (by decide) rfl) (hS.2 58 15 67 rfl) ?_
    refine q_iload dX9_step_92 rfl ?_
    refine q_iald (x := nI 2) (j := (240 * i + k)) dX9_step_94 (ty_c hS (by decide) rfl) (ix_n (by omega) (by omega)) n1 ?_
    refine q_if_eqN (tgt := 133) dX9_step_95 (by decide) (by omega) (fun h => absurd h (by decide)) (fun _ => ?_)
    refine q_aload_n dX9_step_98 rfl rfl rfl ?_
    refine q_getr (r := 67) dX9_step_99 fX9_58 rfl (ty_c hS (by decide) rfl) (hS.2 58 15 67 rfl) ?_
    refine q_iload dX9_step_102 rfl ?_
    refine q_iald (x := nI 2) (j := (240 * i + k)) dX9_step_104 (ty_c hS (by decide) rfl) (ix_n (by omega) (by omega)) n1 ?_
    refine q_bipush (v := nI 7) dX9_step_105 rfl ?_
    refine q_icmp_eqN (tgt := 133) dX9_step_107 (by decide) (by omega) (by omega) (fun h => absurd h (by decide)) (fun _ => ?_)
    refine q_aload_n dX9_step_110 rfl rfl rfl ?_
    refine q_getr (r := 67) dX9_step_111 fX9_58 rfl (ty_c hS (by decide) rfl) (hS.2 58 15 67 rfl) ?_
    refine q_iload dX9_step_114 rfl ?_
    refine q_iald (x := nI 2) (j := (240 * i + k)) dX9_step_116 (ty_c hS (by decide) rfl) (ix_n (by omega) (by omega)) n1 ?_
    refine q_iconst (v := nI 4) dX9_step_117 rfl ?_
    refine q_icmp_eqN (tgt := 133) dX9_step_118 (by decide) (by omega) (by omega) (fun h => absurd h (by decide)) (fun _ => ?_)
    refine q_aload_n dX9_step_121 rfl rfl rfl ?_
    refine q_getr (r := 67) dX9_step_122 fX9_58 rfl (ty_c hS (by decide) rfl) (hS.2 58 15 67 rfl) ?_
    refine q_iload dX9_step_125 rfl ?_
    refine q_iald (x := nI 2) (j := (240 * i + k)) dX9_step_127 (ty_c hS (by decide) rfl) (ix_n (by omega) (by omega)) n1 ?_
    refine q_bipush (v := nI 6) dX9_step_128 rfl ?_
    refine q_icmp_neN (tgt := 137) dX9_step_130 (by decide) (by omega) (by omega) (fun _ => ?_) (fun h => absurd h (by decide))
    refine q_aload_n dX9_step_137 rfl rfl rfl ?_
    refine q_aload_n dX9_step_138 rfl rfl rfl ?_
    refine q_getr (r := 73) dX9_step_139 fX9_76 rfl (ty_c hS (by decide) rfl) (hS.2 58 21 73 rfl) ?_
    refine q_iload dX9_step_142 rfl ?_
    refine q_iald (x := opn (rO0 (rg q k))) (j := (240 * i + k)) dX9_step_144 (ty_c hS (by decide) rfl) (ix_n (by omega) (by omega)) a0 ?_
    refine q_aload_n dX9_step_145 rfl rfl rfl ?_
    refine q_getr (r := 74) dX9_step_146 fX9_79 rfl (ty_c hS (by decide) rfl) (hS.2 58 22 74 rfl) ?_
    refine q_iload dX9_step_149 rfl ?_
    refine q_iald (x := opv (rO0 (rg q k))) (j := (240 * i + k)) dX9_step_151 (ty_c hS (by decide) rfl) (ix_n (by omega) (by omega)) a1 ?_
    refine q_callV (As := [.int (opn (rO0 (rg q k))), .int (opv (rO0 (rg q k)))]) (rest := []) dX9_step_152 vX9_395 (ty_c hS (by decide) rfl) ⟨by decide, rfl⟩ (z9_of hS hx od0) rfl rfl (Nat.le_of_ble_eq_true rfl) (by omega) (by omega) (by omega) (k_p ?_)
    refine q_istore dX9_step_155 (by decide) (ls' := [(5, .int (opV (xN s) (rO0 (rg q k)))), (0, .ref 58), (1, .int (nI i)), (2, .int (nI l)), (3, .int (nI k)), (4, .int (nI (240 * i + k)))]) rfl ?_
    refine q_aload_n dX9_step_157 rfl rfl rfl ?_
    refine q_getr (r := 67) dX9_step_158 fX9_58 rfl (ty_c hS (by decide) rfl) (hS.2 58 15 67 rfl) ?_
    refine q_iload dX9_step_161 rfl ?_
    refine q_iald (x := nI 2) (j := (240 * i + k)) dX9_step_163 (ty_c hS (by decide) rfl) (ix_n (by omega) (by omega)) n1 ?_
    by_cases w164_2 : 2 = 2
    · refine q_tableEq 2 (tgt := 289) (off := 125) dX9_step_164 (by rw [w164_2]) (by decide) rfl (by decide) ?_
      refine q_aload_n dX9_step_289 rfl rfl rfl ?_
      refine q_iload dX9_step_290 rfl ?_
      refine q_if_lt (tgt := 302) dX9_step_292 (by decide) (fun c292 => ?_) (fun c292 => ?_)
      · skip
        refine q_iconst (v := nI 1) dX9_step_302 rfl ?_
        refine q_goto (tgt := 307) dX9_step_303 (by decide) ?_
        refine q_putz dX9_step_307 fX9_183 rfl (Or.inl rfl) (ty_c hS (by decide) rfl) (Or.inr rfl) ?_
        refine q_aload_n dX9_step_310 rfl rfl rfl ?_
        refine q_geti (x := nI 1) dX9_step_311 fX9_183 rfl (ty_c hS (by decide) rfl) uI_self ?_
        refine q_if_neN (tgt := 438) dX9_step_314 (by decide) (by omega) (fun _ => ?_) (fun h => absurd h (by decide))
        refine q_aload_n dX9_step_438 rfl rfl rfl ?_
        refine q_getr (r := 71) dX9_step_439 fX9_70 rfl (ty_c hS (by decide) rfl) (hS.2 58 19 71 rfl) ?_
        refine q_iload dX9_step_442 rfl ?_
        refine q_iald (x := oW (ld q 0 k)) (j := (240 * i + k)) dX9_step_444 (ty_c hS (by decide) rfl) (ix_n (by omega) (by omega)) (Eq.trans (rd_off (by decide)) l0) ?_
        refine q_ireturn dX9_step_445 rfl rfl (by omega) (by omega) ?_
        exact hQ _ _ (dnq_of e (FR9.rf.uI (by unfold dnq; omega)) (hx.re (by omega)) uI_self (fun z => by cases z) (fun _ => (rd_ne (by omega)).trans h51))
      · skip
        refine q_iload dX9_step_295 rfl ?_
        refine q_bipush (v := nI 7) dX9_step_297 rfl ?_
        refine q_icmp_le (tgt := 306) dX9_step_299 (by decide) (fun c299 => ?_) (fun c299 => ?_)
        · exact absurd ⟨c292, (le_lt (by omega)).mp c299⟩ hp
        · skip
          refine q_iconst (v := nI 1) dX9_step_302 rfl ?_
          refine q_goto (tgt := 307) dX9_step_303 (by decide) ?_
          refine q_putz dX9_step_307 fX9_183 rfl (Or.inl rfl) (ty_c hS (by decide) rfl) (Or.inr rfl) ?_
          refine q_aload_n dX9_step_310 rfl rfl rfl ?_
          refine q_geti (x := nI 1) dX9_step_311 fX9_183 rfl (ty_c hS (by decide) rfl) uI_self ?_
          refine q_if_neN (tgt := 438) dX9_step_314 (by decide) (by omega) (fun _ => ?_) (fun h => absurd h (by decide))
          refine q_aload_n dX9_step_438 rfl rfl rfl ?_
          refine q_getr (r := 71) dX9_step_439 fX9_70 rfl (ty_c hS (by decide) rfl) (hS.2 58 19 71 rfl) ?_
          refine q_iload dX9_step_442 rfl ?_
          refine q_iald (x := oW (ld q 0 k)) (j := (240 * i + k)) dX9_step_444 (ty_c hS (by decide) rfl) (ix_n (by omega) (by omega)) (Eq.trans (rd_off (by decide)) l0) ?_
          refine q_ireturn dX9_step_445 rfl rfl (by omega) (by omega) ?_
          exact hQ _ _ (dnq_of e (FR9.rf.uI (by unfold dnq; omega)) (hx.re (by omega)) uI_self (fun z => by cases z) (fun _ => (rd_ne (by omega)).trans h51))
    omega
theorem y9_dn0 (hS : SK σ) (hi : i < 4) (hr : MR σ i q) (hk : MOK q) (hl : l < 3) (hkN : k < NN q) {s : XS} (hx : XM σ s) (h56 : sI σ 58 56 = nI 0) (h51 : sI σ 58 51 = -1) (hK : KP q l σ s k (psM q).length) (hC : xC s < 1000000) {Q : Option Value → HS → Prop} (hQ : ∀ x σ', DnQ σ q l k s x σ' → Q (some (.int x)) σ') (kd : rK (rg q k) = 0) : WA g mX9_step 2 0 0 (ZM g Q 0 0) 0 0 79 [(0, .ref 58), (1, .int (nI i)), (2, .int (nI l)), (3, .int (nI k)), (4, .int (nI (240 * i + k)))] [] σ := by
  obtain ⟨hc, hw, hB, hxx, hF⟩ := id hk
  have h32 := hw.2.2.2.1
  have hN := NN_le hc
  obtain ⟨⟨n1, n2, n3, n4, n5, n6, n7⟩, l0, l1⟩ := hr.1.2.2.2.2.2.1 k hkN
  obtain ⟨od0, od1⟩ := rg_opd hw (n := k)
  rw [kd] at n1
  obtain ⟨nm, m1, m2⟩ := (rg_t hw (n := k)).1 (by omega)
  have r69 : sI σ 69 (240 * i + k) = nI nm := by rw [n3, if_pos (by omega)]; exact m2
  have et : tgt q k = nm := by unfold tgt; rw [m2]; exact nI_clamp (by omega)
  obtain ⟨e, he, h70⟩ : ∃ e, e < (psM q).length ∧ rS (rg q k) = nI e := by
    rcases rg_cases hw hxx hkN with ⟨_, _, e, he, h⟩ | ⟨z, _⟩ | ⟨z, _⟩ | ⟨z, _⟩
    · exact ⟨e, he, h⟩
    · omega
    · omega
    · omega
  have r70 := n4.trans h70
  have es : smN q k = e := by unfold smN; rw [h70]; exact nI_clamp (by omega)
  by_cases ht : tkn q l e k = true
  · have kp : sI σ 92 e = xK s e := hK e he (by
      by_cases hp : PP q l e k
      · exact Or.inl ⟨PP_t hc hw hB hkN hp ht, he⟩
      · exact Or.inr hp)
    have ed : dnF q l k s = (gvS s nm (xK s e), true) := by
      unfold dnF
      rw [kd, if_pos rfl, es, if_pos ht, et]
    refine q_aload_n dX9_step_79 rfl rfl rfl ?_
    refine q_geti (x := nI 0) dX9_step_80 fX9_183 rfl (ty_c hS (by decide) rfl) h56 ?_
    refine q_if_eqN (tgt := 88) dX9_step_83 (by decide) (by omega) (fun _ => ?_) (fun h => absurd h (by decide))
    refine q_aload_n dX9_step_88 rfl rfl rfl ?_
    refine q_getr (r := 67) dX9_step_89 fX9_58 rfl (ty_c hS (by decide) rfl) (hS.2 58 15 67 rfl) ?_
    refine q_iload dX9_step_92 rfl ?_
    refine q_iald (x := nI 0) (j := (240 * i + k)) dX9_step_94 (ty_c hS (by decide) rfl) (ix_n (by omega) (by omega)) n1 ?_
    refine q_if_eqN (tgt := 133) dX9_step_95 (by decide) (by omega) (fun _ => ?_) (fun h => absurd h (by decide))
    refine q_iconst (v := nI 0) dX9_step_133 rfl ?_
    refine q_goto (tgt := 155) dX9_step_134 (by decide) ?_
    refine q_istore dX9_step_155 (by decide) (ls' := [(5, .int (nI 0)), (0, .ref 58), (1, .int (nI i)), (2, .int (nI l)), (3, .int (nI k)), (4, .int (nI (240 * i + k)))]) rfl ?_
    refine q_aload_n dX9_step_157 rfl rfl rfl ?_
    refine q_getr (r := 67) dX9_step_158 fX9_58 rfl (ty_c hS (by decide) rfl) (hS.2 58 15 67 rfl) ?_
    refine q_iload dX9_step_161 rfl ?_
    refine q_iald (x := nI 0) (j := (240 * i + k)) dX9_step_163 (ty_c hS (by decide) rfl) (ix_n (by omega) (by omega)) n1 ?_
    by_cases w164_0 : 0 = 0
    · refine q_tableEq 0 (tgt := 208) (off := 44) dX9_step_164 (by rw [w164_0]) (by decide) rfl (by decide) ?_
      refine q_aload_n dX9_step_208 rfl rfl rfl ?_
      refine q_getr (r := 70) dX9_step_209 fX9_67 rfl (ty_c hS (by decide) rfl) (hS.2 58 18 70 rfl) ?_
      refine q_iload dX9_step_212 rfl ?_
      refine q_iald (x := nI e) (j := (240 * i + k)) dX9_step_214 (ty_c hS (by decide) rfl) (ix_n (by omega) (by omega)) r70 ?_
      refine q_istore dX9_step_215 (by decide) (ls' := [(6, .int (nI e)), (5, .int (nI 0)), (0, .ref 58), (1, .int (nI i)), (2, .int (nI l)), (3, .int (nI k)), (4, .int (nI (240 * i + k)))]) rfl ?_
      refine q_aload_n dX9_step_217 rfl rfl rfl ?_
      refine q_iload_n dX9_step_218 rfl rfl ?_
      refine q_iload_n dX9_step_219 rfl rfl ?_
      refine q_iload dX9_step_220 rfl ?_
      refine q_iload_n dX9_step_222 rfl rfl ?_
      refine q_callV (As := [.int (nI i), .int (nI l), .int (nI e), .int (nI k)]) (rest := []) dX9_step_223 vX9_385 (ty_c hS (by decide) rfl) ⟨by decide, rfl⟩ (ht ▸ z9_isTaken hS hi hr hk hl he hkN) rfl rfl (Nat.le_of_ble_eq_true rfl) (by omega) (by omega) (by omega) (k_p ?_)
      refine q_if_eqB (tgt := 239) dX9_step_226 (by decide) (fun h => absurd h (by decide)) (fun _ => ?_)
      refine q_aload_n dX9_step_229 rfl rfl rfl ?_
      refine q_getr (r := 92) dX9_step_230 fX9_159 rfl (ty_c hS (by decide) rfl) (hS.2 58 48 92 rfl) ?_
      refine q_iload dX9_step_233 rfl ?_
      refine q_iald (x := xK s e) (j := e) dX9_step_235 (ty_c hS (by decide) rfl) (ix_n (by omega) (by omega)) kp ?_
      refine q_goto (tgt := 246) dX9_step_236 (by decide) ?_
      refine q_istore dX9_step_246 (by decide) (ls' := [(7, .int (xK s e)), (6, .int (nI e)), (5, .int (nI 0)), (0, .ref 58), (1, .int (nI i)), (2, .int (nI l)), (3, .int (nI k)), (4, .int (nI (240 * i + k)))]) rfl ?_
      refine q_aload_n dX9_step_248 rfl rfl rfl ?_
      refine q_geti (x := nI 0) dX9_step_249 fX9_183 rfl (ty_c hS (by decide) rfl) h56 ?_
      refine q_if_neN (tgt := 438) dX9_step_252 (by decide) (by omega) (fun h => absurd h (by decide)) (fun _ => ?_)
      refine q_aload_n dX9_step_255 rfl rfl rfl ?_
      refine q_getr (r := 90) dX9_step_256 fX9_153 rfl (ty_c hS (by decide) rfl) (hS.2 58 46 90 rfl) ?_
      refine q_aload_n dX9_step_259 rfl rfl rfl ?_
      refine q_getr (r := 69) dX9_step_260 fX9_64 rfl (ty_c hS (by decide) rfl) (hS.2 58 17 69 rfl) ?_
      refine q_iload dX9_step_263 rfl ?_
      refine q_iald (x := nI nm) (j := (240 * i + k)) dX9_step_265 (ty_c hS (by decide) rfl) (ix_n (by omega) (by omega)) r69 ?_
      refine q_iload dX9_step_266 rfl ?_
      refine q_iast (j := nm) dX9_step_268 (ty_c hS (by decide) rfl) (ix_n (by omega) (by omega)) ?_
      refine q_goto (tgt := 438) dX9_step_269 (by decide) ?_
      refine q_aload_n dX9_step_438 rfl rfl rfl ?_
      refine q_getr (r := 71) dX9_step_439 fX9_70 rfl (ty_c hS (by decide) rfl) (hS.2 58 19 71 rfl) ?_
      refine q_iload dX9_step_442 rfl ?_
      refine q_iald (x := oW (ld q 0 k)) (j := (240 * i + k)) dX9_step_444 (ty_c hS (by decide) rfl) (ix_n (by omega) (by omega)) (Eq.trans (rd_off (by decide)) l0) ?_
      refine q_ireturn dX9_step_445 rfl rfl (by omega) (by omega) ?_
      exact hQ _ _ (dnq_of ed (FR9.rf.uI (by unfold dnq; omega)) hx.gv ((rd_off (by omega)).trans h56) (fun _ => ⟨by rw [nx_n5 (by omega)], by rw [kd]; exact (rd_off (by omega)).trans h51⟩) (fun z => by cases z))
    omega
  · have ht0 : tkn q l e k = false := by cases z : tkn q l e k; rfl; exact absurd z ht
    cases ho : wkR s (sm q e) with
    | none =>
      have ed : dnF q l k s = (wkS s e, false) := by
        unfold dnF
        rw [kd, if_pos rfl, es, if_neg ht, ho]
      refine q_aload_n dX9_step_79 rfl rfl rfl ?_
      refine q_geti (x := nI 0) dX9_step_80 fX9_183 rfl (ty_c hS (by decide) rfl) h56 ?_
      refine q_if_eqN (tgt := 88) dX9_step_83 (by decide) (by omega) (fun _ => ?_) (fun h => absurd h (by decide))
      refine q_aload_n dX9_step_88 rfl rfl rfl ?_
      refine q_getr (r := 67) dX9_step_89 fX9_58 rfl (ty_c hS (by decide) rfl) (hS.2 58 15 67 rfl) ?_
      refine q_iload dX9_step_92 rfl ?_
      refine q_iald (x := nI 0) (j := (240 * i + k)) dX9_step_94 (ty_c hS (by decide) rfl) (ix_n (by omega) (by omega)) n1 ?_
      refine q_if_eqN (tgt := 133) dX9_step_95 (by decide) (by omega) (fun _ => ?_) (fun h => absurd h (by decide))
      refine q_iconst (v := nI 0) dX9_step_133 rfl ?_
      refine q_goto (tgt := 155) dX9_step_134 (by decide) ?_
      refine q_istore dX9_step_155 (by decide) (ls' := [(5, .int (nI 0)), (0, .ref 58), (1, .int (nI i)), (2, .int (nI l)), (3, .int (nI k)), (4, .int (nI (240 * i + k)))]) rfl ?_
      refine q_aload_n dX9_step_157 rfl rfl rfl ?_
      refine q_getr (r := 67) dX9_step_158 fX9_58 rfl (ty_c hS (by decide) rfl) (hS.2 58 15 67 rfl) ?_
      refine q_iload dX9_step_161 rfl ?_
      refine q_iald (x := nI 0) (j := (240 * i + k)) dX9_step_163 (ty_c hS (by decide) rfl) (ix_n (by omega) (by omega)) n1 ?_
      by_cases w164_0 : 0 = 0
      · refine q_tableEq 0 (tgt := 208) (off := 44) dX9_step_164 (by rw [w164_0]) (by decide) rfl (by decide) ?_
        refine q_aload_n dX9_step_208 rfl rfl rfl ?_
        refine q_getr (r := 70) dX9_step_209 fX9_67 rfl (ty_c hS (by decide) rfl) (hS.2 58 18 70 rfl) ?_
        refine q_iload dX9_step_212 rfl ?_
        refine q_iald (x := nI e) (j := (240 * i + k)) dX9_step_214 (ty_c hS (by decide) rfl) (ix_n (by omega) (by omega)) r70 ?_
        refine q_istore dX9_step_215 (by decide) (ls' := [(6, .int (nI e)), (5, .int (nI 0)), (0, .ref 58), (1, .int (nI i)), (2, .int (nI l)), (3, .int (nI k)), (4, .int (nI (240 * i + k)))]) rfl ?_
        refine q_aload_n dX9_step_217 rfl rfl rfl ?_
        refine q_iload_n dX9_step_218 rfl rfl ?_
        refine q_iload_n dX9_step_219 rfl rfl ?_
        refine q_iload dX9_step_220 rfl ?_
        refine q_iload_n dX9_step_222 rfl rfl ?_
        refine q_callV (As := [.int (nI i), .int (nI l), .int (nI e), .int (nI k)]) (rest := []) dX9_step_223 vX9_385 (ty_c hS (by decide) rfl) ⟨by decide, rfl⟩ (ht0 ▸ z9_isTaken hS hi hr hk hl he hkN) rfl rfl (Nat.le_of_ble_eq_true rfl) (by omega) (by omega) (by omega) (k_p ?_)
        refine q_if_eqB (tgt := 239) dX9_step_226 (by decide) (fun _ => ?_) (fun h => absurd h (by decide))
        refine q_aload_n dX9_step_239 rfl rfl rfl ?_
        refine q_iload_n dX9_step_240 rfl rfl ?_
        refine q_iload dX9_step_241 rfl ?_
        refine q_callV (As := [.int (nI i), .int (nI e)]) (rest := []) dX9_step_243 vX9_402 (ty_c hS (by decide) rfl) ⟨by decide, rfl⟩ (z9_work hS hi hr hk he hx h56) rfl rfl (Nat.le_of_ble_eq_true rfl) (by omega) (by omega) (by omega) (k_i (fun x243 s243 q243 => ?_))
        obtain ⟨w1, w2, w3, w4⟩ := id q243
        rw [ho] at w3
        have u69 : sI s243 69 (240 * i + k) = nI nm := (w1.2.2.2 69 _ (by unfold wkq; omega)).trans r69
        have u71 : sI s243 71 (240 * i + k) = oW (ld q 0 k) := (w1.2.2.2 71 _ (by unfold wkq; omega)).trans l0
        have u51 : sI s243 58 51 = -1 := (w1.2.2.2 58 51 (by unfold wkq; omega)).trans h51
        have zS243 : SK s243 := (SK.fq q243.1 hS)
        refine q_istore dX9_step_246 (by decide) (ls' := [(7, .int x243), (6, .int (nI e)), (5, .int (nI 0)), (0, .ref 58), (1, .int (nI i)), (2, .int (nI l)), (3, .int (nI k)), (4, .int (nI (240 * i + k)))]) rfl ?_
        refine q_aload_n dX9_step_248 rfl rfl rfl ?_
        refine q_geti (x := bi true) dX9_step_249 fX9_183 rfl (ty_c zS243 (by decide) rfl) w3 ?_
        refine q_if_neB (tgt := 438) dX9_step_252 (by decide) (fun _ => ?_) (fun h => absurd h (by decide))
        refine q_aload_n dX9_step_438 rfl rfl rfl ?_
        refine q_getr (r := 71) dX9_step_439 fX9_70 rfl (ty_c zS243 (by decide) rfl) (zS243.2 58 19 71 rfl) ?_
        refine q_iload dX9_step_442 rfl ?_
        refine q_iald (x := oW (ld q 0 k)) (j := (240 * i + k)) dX9_step_444 (ty_c zS243 (by decide) rfl) (ix_n (by omega) (by omega)) u71 ?_
        refine q_ireturn dX9_step_445 rfl rfl (by omega) (by omega) ?_
        exact hQ _ _ (dnq_of ed (w1.mono fun _ _ => wkq.dn) w2 w3 (fun z => by cases z) (fun _ => u51))
      omega
    | some v =>
      have ed : dnF q l k s = (gvS (wkS s e) nm v, true) := by
        unfold dnF
        rw [kd, if_pos rfl, es, if_neg ht, ho, et]
      refine q_aload_n dX9_step_79 rfl rfl rfl ?_
      refine q_geti (x := nI 0) dX9_step_80 fX9_183 rfl (ty_c hS (by decide) rfl) h56 ?_
      refine q_if_eqN (tgt := 88) dX9_step_83 (by decide) (by omega) (fun _ => ?_) (fun h => absurd h (by decide))
      refine q_aload_n dX9_step_88 rfl rfl rfl ?_
      refine q_getr (r := 67) dX9_step_89 fX9_58 rfl (ty_c hS (by decide) rfl) (hS.2 58 15 67 rfl) ?_
      refine q_iload dX9_step_92 rfl ?_
      refine q_iald (x := nI 0) (j := (240 * i + k)) dX9_step_94 (ty_c hS (by decide) rfl) (ix_n (by omega) (by omega)) n1 ?_
      refine q_if_eqN (tgt := 133) dX9_step_95 (by decide) (by omega) (fun _ => ?_) (fun h => absurd h (by decide))
      refine q_iconst (v := nI 0) dX9_step_133 rfl ?_
      refine q_goto (tgt := 155) dX9_step_134 (by decide) ?_
      refine q_istore dX9_step_155 (by decide) (ls' := [(5, .int (nI 0)), (0, .ref 58), (1, .int (nI i)), (2, .int (nI l)), (3, .int (nI k)), (4, .int (nI (240 * i + k)))]) rfl ?_
      refine q_aload_n dX9_step_157 rfl rfl rfl ?_
      refine q_getr (r := 67) dX9_step_158 fX9_58 rfl (ty_c hS (by decide) rfl) (hS.2 58 15 67 rfl) ?_
      refine q_iload dX9_step_161 rfl ?_
      refine q_iald (x := nI 0) (j := (240 * i + k)) dX9_step_163 (ty_c hS (by decide) rfl) (ix_n (by omega) (by omega)) n1 ?_
      by_cases w164_0 : 0 = 0
      · refine q_tableEq 0 (tgt := 208) (off := 44) dX9_step_164 (by rw [w164_0]) (by decide) rfl (by decide) ?_
        refine q_aload_n dX9_step_208 rfl rfl rfl ?_
        refine q_getr (r := 70) dX9_step_209 fX9_67 rfl (ty_c hS (by decide) rfl) (hS.2 58 18 70 rfl) ?_
        refine q_iload dX9_step_212 rfl ?_
        refine q_iald (x := nI e) (j := (240 * i + k)) dX9_step_214 (ty_c hS (by decide) rfl) (ix_n (by omega) (by omega)) r70 ?_
        refine q_istore dX9_step_215 (by decide) (ls' := [(6, .int (nI e)), (5, .int (nI 0)), (0, .ref 58), (1, .int (nI i)), (2, .int (nI l)), (3, .int (nI k)), (4, .int (nI (240 * i + k)))]) rfl ?_
        refine q_aload_n dX9_step_217 rfl rfl rfl ?_
        refine q_iload_n dX9_step_218 rfl rfl ?_
        refine q_iload_n dX9_step_219 rfl rfl ?_
        refine q_iload dX9_step_220 rfl ?_
        refine q_iload_n dX9_step_222 rfl rfl ?_
        refine q_callV (As := [.int (nI i), .int (nI l), .int (nI e), .int (nI k)]) (rest := []) dX9_step_223 vX9_385 (ty_c hS (by decide) rfl) ⟨by decide, rfl⟩ (ht0 ▸ z9_isTaken hS hi hr hk hl he hkN) rfl rfl (Nat.le_of_ble_eq_true rfl) (by omega) (by omega) (by omega) (k_p ?_)
        refine q_if_eqB (tgt := 239) dX9_step_226 (by decide) (fun _ => ?_) (fun h => absurd h (by decide))
        refine q_aload_n dX9_step_239 rfl rfl rfl ?_
        refine q_iload_n dX9_step_240 rfl rfl ?_
        refine q_iload dX9_step_241 rfl ?_
        refine q_callV (As := [.int (nI i), .int (nI e)]) (rest := []) dX9_step_243 vX9_402 (ty_c hS (by decide) rfl) ⟨by decide, rfl⟩ (z9_work hS hi hr hk he hx h56) rfl rfl (Nat.le_of_ble_eq_true rfl) (by omega) (by omega) (by omega) (k_i (fun x243 s243 q243 => ?_))
        obtain ⟨w1, w2, w3, w4⟩ := id q243
        rw [ho] at w3
        have u69 : sI s243 69 (240 * i + k) = nI nm := (w1.2.2.2 69 _ (by unfold wkq; omega)).trans r69
        have u71 : sI s243 71 (240 * i + k) = oW (ld q 0 k) := (w1.2.2.2 71 _ (by unfold wkq; omega)).trans l0
        have u51 : sI s243 58 51 = -1 := (w1.2.2.2 58 51 (by unfold wkq; omega)).trans h51
        have zS243 : SK s243 := (SK.fq q243.1 hS)
        refine q_istore dX9_step_246 (by decide) (ls' := [(7, .int x243), (6, .int (nI e)), (5, .int (nI 0)), (0, .ref 58), (1, .int (nI i)), (2, .int (nI l)), (3, .int (nI k)), (4, .int (nI (240 * i + k)))]) rfl ?_
        refine q_aload_n dX9_step_248 rfl rfl rfl ?_
        refine q_geti (x := bi false) dX9_step_249 fX9_183 rfl (ty_c zS243 (by decide) rfl) w3 ?_
        refine q_if_neB (tgt := 438) dX9_step_252 (by decide) (fun h => absurd h (by decide)) (fun _ => ?_)
        refine q_aload_n dX9_step_255 rfl rfl rfl ?_
        refine q_getr (r := 90) dX9_step_256 fX9_153 rfl (ty_c zS243 (by decide) rfl) (zS243.2 58 46 90 rfl) ?_
        refine q_aload_n dX9_step_259 rfl rfl rfl ?_
        refine q_getr (r := 69) dX9_step_260 fX9_64 rfl (ty_c zS243 (by decide) rfl) (zS243.2 58 17 69 rfl) ?_
        refine q_iload dX9_step_263 rfl ?_
        refine q_iald (x := nI nm) (j := (240 * i + k)) dX9_step_265 (ty_c zS243 (by decide) rfl) (ix_n (by omega) (by omega)) u69 ?_
        refine q_iload dX9_step_266 rfl ?_
        refine q_iast (j := nm) dX9_step_268 (ty_c zS243 (by decide) rfl) (ix_n (by omega) (by omega)) ?_
        refine q_goto (tgt := 438) dX9_step_269 (by decide) ?_
        refine q_aload_n dX9_step_438 rfl rfl rfl ?_
        refine q_getr (r := 71) dX9_step_439 fX9_70 rfl (ty_c zS243 (by decide) rfl) (zS243.2 58 19 71 rfl) ?_
        refine q_iload dX9_step_442 rfl ?_
        refine q_iald (x := oW (ld q 0 k)) (j := (240 * i + k)) dX9_step_444 (ty_c zS243 (by decide) rfl) (ix_n (by omega) (by omega)) (Eq.trans (rd_off (by decide)) u71) ?_
        refine q_ireturn dX9_step_445 rfl rfl (by omega) (by omega) ?_
        have ex : x243 = v := w4 v ho
        rw [ex]
        exact hQ _ _ (dnq_of ed ((w1.mono fun _ _ => wkq.dn).uI (by unfold dnq; omega)) w2.gv ((rd_off (by omega)).trans w3) (fun _ => ⟨by rw [nx_n5 (by omega)], by rw [kd]; exact (rd_off (by omega)).trans u51⟩) (fun z => by cases z))
      omega
theorem y9_dn (hS : SK σ) (hi : i < 4) (hr : MR σ i q) (hk : MOK q) (hl : l < 3) (hkN : k < NN q) {s : XS} (hx : XM σ s) (h56 : sI σ 58 56 = nI 0) (h51 : sI σ 58 51 = -1) (hK : KP q l σ s k (psM q).length) (hC : xC s < 1000000) {Q : Option Value → HS → Prop} (hQ : ∀ x σ', DnQ σ q l k s x σ' → Q (some (.int x)) σ') : WA g mX9_step 2 0 0 (ZM g Q 0 0) 0 0 79 [(0, .ref 58), (1, .int (nI i)), (2, .int (nI l)), (3, .int (nI k)), (4, .int (nI (240 * i + k)))] [] σ := by
  rcases rg_cases hk.2.1 hk.2.2.2.1 hkN with ⟨z, -⟩ | ⟨z, -⟩ | ⟨z, -⟩ | ⟨z, z7, -⟩
  · exact y9_dn0 hS hi hr hk hl hkN hx h56 h51 hK hC hQ z
  · exact y9_dn1 hS hi hr hk hl hkN hx h56 h51 hK hC hQ z
  · exact y9_dn2 hS hi hr hk hl hkN hx h56 h51 hK hC hQ z
  · rcases (show rK (rg q k) = 3 ∨ rK (rg q k) = 4 ∨ rK (rg q k) = 5 ∨ rK (rg q k) = 6 ∨ rK (rg q k) = 7 by omega) with z | z | z | z | z
    · exact y9_dn3 hS hi hr hk hl hkN hx h56 h51 hK hC hQ z
    · exact y9_dn4 hS hi hr hk hl hkN hx h56 h51 hK hC hQ z
    · exact y9_dn5 hS hi hr hk hl hkN hx h56 h51 hK hC hQ z
    · exact y9_dn6 hS hi hr hk hl hkN hx h56 h51 hK hC hQ z
    · exact y9_dn7 hS hi hr hk hl hkN hx h56 h51 hK hC hQ z

end MST
