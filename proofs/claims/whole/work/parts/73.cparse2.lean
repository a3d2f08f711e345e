/-! The class's parse, from its begin. -/
/-- behind a text is read: the tape is empty; the parser and the ROUTINE at b are changed -/
def BFp (b : Nat) (σ σ' : HS) : Prop := sL σ' = sL σ ∧ sR σ' = sR σ ∧ sN σ' = sN σ ∧ sI σ' 2 1 = nI 0 ∧ ∀ h j, ¬ (h = 1 ∧ j = 5) → ¬ (h = 2 ∧ j = 1) → ¬ (5 ≤ h ∧ h ≤ 13) → ¬ (b ≤ h ∧ h < b + 32) → sI σ' h j = sI σ h j
theorem BFp.of {b : Nat} {σ τ : HS} {v : Int32} (hb14 : b = 14 ∨ 99 ≤ b) (k : BFt b σ τ) : BFp b σ (uI (uI τ 2 1 (nI 0)) 1 5 v) := by
  refine ⟨k.1, k.2.1, k.2.2.1, (rd_off (by omega)).trans uI_self, fun h j a1 a2 a3 a4 => ?_⟩
  rw [sI_uI, if_neg a1, sI_uI, if_neg a2, k.2.2.2 h (by omega)]
theorem BFp.lf {b : Nat} {σ τ υ : HS} (hb14 : b = 14 ∨ 99 ≤ b) (k : BFp b σ τ) (k2 : LF b τ υ) : BFp b σ υ := ⟨k2.1.trans k.1, k2.2.1.trans k.2.1, k2.2.2.1.trans k.2.2.1, by rw [k2.2.2.2 2 (by omega)]; exact k.2.2.2.1, fun h j a1 a2 a3 a4 => by rw [k2.2.2.2 h a4]; exact k.2.2.2.2 h j a1 a2 a3 a4⟩
def TB (b : Nat) (σ : HS) (T : Nat → Nat) (L : Nat) (x : Bool) (σ' : HS) : Prop := BFt b σ σ' ∧ (x = false → ∃ e, PAll T L (.inl e) ∧ sI σ' 5 6 = nI e.1 ∧ sI σ' 5 7 = nI e.2) ∧ (x = true → ∃ q, PAll T L (.inr q) ∧ sI σ' 5 6 = nI 0 ∧ PSR σ' b q ∧ BC q ∧ WFs q ∧ 0 < (psF q).length)
/-- behind parse of a place that there is -/
def CPQ (b : Nat) (σ : HS) (T : Nat → Nat) (L i c : Nat) : Option Value → HS → Prop := fun r σ' =>
  (∃ e, PAll T L (.inl e) ∧ r = some (.int ((-10) - nI e.2)) ∧ BFp b σ σ' ∧ sI σ' 1 5 = nI e.1) ∨
  ∃ q, PAll T L (.inr q) ∧ BC q ∧ WFs q ∧ 0 < (psF q).length ∧ ((psX q = true ∧ r = some (.int (-3)) ∧ BFp b σ σ' ∧ sI σ' 1 5 = nI 0) ∨ (psX q = false ∧ r = some (.int (nI (NN q))) ∧ ∃ τ, BFp b σ τ ∧ sI τ 1 5 = nI 0 ∧ RTN τ b q ∧ sI τ b 15 = nI 0 ∧ PR4 τ σ' i b (if c = 0 then sN σ + 1 else c) (if c = 0 then sN σ + 32 else sN σ)))
section CP2
variable {g : GG} {b L : Nat} {T : Nat → Nat}
theorem z1_readTextB {σ : HS} (hS : SK σ) (hb : RB σ b) (hR : sR σ 5 5 = b) (hT : CTX σ L T) : CT g mX1_readText 9 0 0 [.ref 5, .ref 2] σ (fun r σ' => ∃ x, r = some (.int (bi x)) ∧ TB b σ T L x σ') := by
  refine CT.mono ?_ (z1_readText hS hb hR hT)
  rintro r σ' ⟨h1, ⟨e, h2, h3, h4, h5⟩ | ⟨q, h2, h3, h4, h5, h6, h7, h8⟩⟩
  · exact ⟨false, h2, h1, fun _ => ⟨e, h3, h4, h5⟩, fun z => (by cases z)⟩
  · exact ⟨true, h2, h1, fun z => (by cases z), fun _ => ⟨q, h3, h4, h5, h6, h7, h8⟩⟩
theorem y8_parse4 {σ τ0 τ : HS} {q : PS} (hS2 : SK τ0) (hb2 : RB τ0 b) (hb14 : b = 14 ∨ 99 ≤ b) (hR2 : sR τ0 5 5 = b) {i c : Nat} (hi : i < 4) (k1 : BFt b σ τ0) (hc : sR σ 4 i = c) (h0 : c = 0 → ∃ m, sN σ = 98 + 32 * m) (h1 : c ≠ 0 → RB σ c) (d1 : PAll T L (.inr q)) (d2 : sI τ0 5 6 = nI 0) (d4 : BC q) (d5 : WFs q) (d6 : 0 < (psF q).length) (c72 : psX q = false) (f1 : LF b (uI (uI τ0 2 1 (nI 0)) 1 5 (sI τ0 5 6)) τ) (f2 : RTN τ b q) (f3 : sI τ b 15 = nI 0) : WA g mX8_parse 10 32 5276 (ZM g (CPQ b σ T L i c) 32 5276) 0 0 82 [(0, .ref 1), (1, .int (nI i)), (3, .ref b)] [] τ := by
  have eR : sR τ = sR σ := f1.2.1.trans k1.2.1
  have eN : sN τ = sN σ := f1.2.2.1.trans k1.2.2.1
  have hS3 : SK τ := SK.lf f1 hS2
  have hp := (BFp.of (v := sI τ0 5 6) hb14 k1).lf hb14 f1
  have e1 : sI τ 1 = sI (uI (uI τ0 2 1 (nI 0)) 1 5 (sI τ0 5 6)) 1 := f1.2.2.2 1 (by clear h0 h1; omega)
  have h15 : sI τ 1 5 = nI 0 := by rw [e1, uI_self]; exact d2
  refine y8_parse2 (g := g) hS3 f2 hi (by rw [eR]; rw [← k1.2.1]; exact hR2) (c := c) (by rw [eR]; exact hc) (fun z => by rw [eN]; exact h0 z) (fun z => ?_) (fun σ' hr => ?_)
  · have := h1 z
    exact ⟨this.1, by rw [eN]; exact this.2.1, fun o k r hk => by rw [eR]; exact this.2.2 o k r hk⟩
  · rw [eN] at hr
    exact Or.inr ⟨q, d1, d4, d5, d6, Or.inr ⟨c72, rfl, τ, hp, h15, f2, f3, hr⟩⟩
theorem z8_parse0 {σ : HS} (hS : SK σ) {p : Int32} (hp : ¬ (¬ p < 0 ∧ p < nI 4)) : CT g mX8_parse 10 32 5276 [.ref 1, .int p] σ (PQ σ (.int (-1))) := by
  refine CT.of (by decide) (Nat.le_of_ble_eq_true rfl) ?_
  refine q_iload_n dX8_parse_0 rfl rfl ?_
  refine q_if_lt (tgt := 9) dX8_parse_1 (by decide) (fun c1 => ?_) (fun c1 => ?_)
  · skip
    refine q_iconst (v := (-1 : Int32)) dX8_parse_9 rfl ?_
    refine q_ireturn dX8_parse_10 rfl rfl (by omega) (by omega) ?_
    exact ⟨rfl, rfl⟩
  · skip
    refine q_iload_n dX8_parse_4 rfl rfl ?_
    refine q_iconst (v := nI 4) dX8_parse_5 rfl ?_
    refine q_icmp_lt (tgt := 11) dX8_parse_6 (by decide) (fun c6 => ?_) (fun c6 => ?_)
    · exact absurd ⟨c1, c6⟩ hp
    · skip
      refine q_iconst (v := (-1 : Int32)) dX8_parse_9 rfl ?_
      refine q_ireturn dX8_parse_10 rfl rfl (by omega) (by omega) ?_
      exact ⟨rfl, rfl⟩
theorem z8_parse1 {σ : HS} (hS : SK σ) (hb : RB σ b) (hR : sR σ 5 5 = b) (hT : CTX σ L T) {i c : Nat} (hi : i < 4) (hc : sR σ 4 i = c) (h0 : c = 0 → ∃ m, sN σ = 98 + 32 * m) (h1 : c ≠ 0 → RB σ c) : CT g mX8_parse 10 32 5276 [.ref 1, .int (nI i)] σ (CPQ b σ T L i c) := by
  have hb14 : b = 14 ∨ 99 ≤ b := by rcases hb.1 with h | ⟨j, h⟩ <;> omega
  refine CT.of (by decide) (Nat.le_of_ble_eq_true rfl) ?_
  refine q_iload_n dX8_parse_0 rfl rfl ?_
  refine q_if_ltN (tgt := 9) dX8_parse_1 (by decide) (by omega) ?_
  refine q_iload_n dX8_parse_4 rfl rfl ?_
  refine q_iconst (v := nI 4) dX8_parse_5 rfl ?_
  refine q_icmp_ltN (tgt := 11) dX8_parse_6 (by decide) (by omega) (by omega) (fun c6 => ?_) (fun c6 => ?_)
  · skip
    refine q_aload_n dX8_parse_11 rfl rfl rfl ?_
    refine q_getr (r := 5) dX8_parse_12 fX8_25 rfl (ty_c hS (by decide) rfl) (hS.2 1 2 5 rfl) ?_
    refine q_aload_n dX8_parse_15 rfl rfl rfl ?_
    refine q_getr (r := 2) dX8_parse_16 fX8_12 rfl (ty_c hS (by decide) rfl) (hS.2 1 0 2 rfl) ?_
    refine q_callV (As := [.ref 2]) (rest := []) dX8_parse_19 vX8_55 (ty_c hS (by decide) rfl) ⟨by decide, rfl⟩ (z1_readTextB hS hb hR hT) rfl rfl (Nat.le_of_ble_eq_true rfl) (by omega) (by omega) (by omega) (k_b (fun x19 s19 q19 => ?_))
    obtain ⟨k1, k2, k3⟩ := q19
    have hS2 := SK.bt k1 hS
    have hb2 := RB.bt k1 hb
    have hR2 : sR s19 5 5 = b := by rw [k1.2.1]; exact hR
    refine q_istore_n dX8_parse_22 rfl (by decide) (ls' := [(2, .int (bi x19)), (0, .ref 1), (1, .int (nI i))]) rfl ?_
    refine q_aload_n dX8_parse_23 rfl rfl rfl ?_
    refine q_getr (r := 2) dX8_parse_24 fX8_12 rfl (ty_c hS2 (by decide) rfl) (hS2.2 1 0 2 rfl) ?_
    refine q_iconst (v := nI 0) dX8_parse_27 rfl ?_
    refine q_puti dX8_parse_28 fX8_43 rfl (Or.inl rfl) (ty_c hS2 (by decide) rfl) ?_
    refine q_aload_n dX8_parse_31 rfl rfl rfl ?_
    refine q_aload_n dX8_parse_32 rfl rfl rfl ?_
    refine q_getr (r := 5) dX8_parse_33 fX8_25 rfl (ty_c hS2 (by decide) rfl) (hS2.2 1 2 5 rfl) ?_
    refine q_geti (x := sI s19 5 6) dX8_parse_36 fX8_59 rfl (ty_c hS2 (by decide) rfl) (rd_off (by decide)) ?_
    refine q_puti dX8_parse_39 fX8_62 rfl (Or.inl rfl) (ty_c hS2 (by decide) rfl) ?_
    refine q_iload_n dX8_parse_42 rfl rfl ?_
    refine q_if_neB (tgt := 57) dX8_parse_43 (by decide) (fun c43 => ?_) (fun c43 => ?_)
    · obtain ⟨q, d1, d2, d3, d4, d5, d6⟩ := k3 c43
      have d7 : PSR (uI (uI s19 2 1 (nI 0)) 1 5 (sI s19 5 6)) b q := d3.fe (fun x j hx => by rw [sI_uI, if_neg (by omega), sI_uI, if_neg (by omega)])
      have d8 : sI s19 (b + 17) 4 = bi (psX q) := d3.2.2.2.2.2.1.2.2.1
      refine q_aload_n dX8_parse_57 rfl rfl rfl ?_
      refine q_getr (r := 5) dX8_parse_58 fX8_25 rfl (ty_c hS2 (by decide) rfl) (hS2.2 1 2 5 rfl) ?_
      refine q_getr (r := b) dX8_parse_61 fX8_68 rfl (ty_c hS2 (by decide) rfl) hR2 ?_
      refine q_astore_n dX8_parse_64 rfl rfl (by decide) (ls' := [(3, .ref b), (2, .int (bi x19)), (0, .ref 1), (1, .int (nI i))]) rfl ?_
      refine q_aload_n dX8_parse_65 rfl rfl rfl ?_
      refine q_getr (r := b + 17) dX8_parse_66 fX8_72 rfl (ty_r hb2 0 rfl) (hb2.2.2 0 10 17 rfl) ?_
      refine q_geti (x := sI s19 (b + 17) 4) dX8_parse_69 fX8_76 rfl (ty_r hb2 17 rfl) (Eq.trans (rd_off (by omega)) (rd_off (by omega))) ?_
      refine q_top (y := bi (psX q)) d8 ?_
      refine q_if_eqB (tgt := 78) dX8_parse_72 (by decide) (fun c72 => ?_) (fun c72 => ?_)
      · skip
        refine q_aload_n dX8_parse_78 rfl rfl rfl ?_
        refine q_callV (As := []) (rest := []) dX8_parse_79 vX8_82 (ty_r hb2 0 rfl) ⟨by decide, rfl⟩ (z2_finish (σ := (uI (uI s19 2 1 (nI 0)) 1 5 (sI s19 5 6))) (RB.uI (RB.uI hb2)) d4 d5 d1.2.1 c72 d6 d7) rfl rfl (Nat.le_of_ble_eq_true rfl) (by omega) (by omega) (by omega) (k_v (fun s79 q79 => ?_))
        obtain ⟨f1, f2, f3⟩ := q79
        refine q_pk [2, 3, 0] (ls' := [(0, .ref 1), (1, .int (nI i)), (3, .ref b)]) rfl ?_
        exact y8_parse4 hS2 hb2 hb14 hR2 hi k1 hc h0 h1 d1 d2 d4 d5 d6 c72 f1 f2 f3
      · skip
        refine q_bipush (v := (-3 : Int32)) dX8_parse_75 rfl ?_
        refine q_ireturn dX8_parse_77 rfl rfl (by omega) (by omega) ?_
        first | exact Or.inl ⟨e, d1, by rw [d3], BFp.of hb14 k1, uI_self.trans d2⟩ | exact Or.inr ⟨q, d1, d4, d5, d6, Or.inl ⟨c72, rfl, BFp.of hb14 k1, uI_self.trans d2⟩⟩
    · obtain ⟨e, d1, d2, d3⟩ := k2 c43
      refine q_bipush (v := (-10 : Int32)) dX8_parse_46 rfl ?_
      refine q_aload_n dX8_parse_48 rfl rfl rfl ?_
      refine q_getr (r := 5) dX8_parse_49 fX8_25 rfl (ty_c hS2 (by decide) rfl) (hS2.2 1 2 5 rfl) ?_
      refine q_geti (x := sI s19 5 7) dX8_parse_52 fX8_65 rfl (ty_c hS2 (by decide) rfl) (Eq.trans (rd_off (by decide)) (rd_off (by decide))) ?_
      refine q_isub dX8_parse_55 ?_
      refine q_ireturn dX8_parse_56 rfl rfl (by omega) (by omega) ?_
      first | exact Or.inl ⟨e, d1, by rw [d3], BFp.of hb14 k1, uI_self.trans d2⟩ | exact Or.inr ⟨q, d1, d4, d5, d6, Or.inl ⟨c72, rfl, BFp.of hb14 k1, uI_self.trans d2⟩⟩
  · exact absurd c6 (by omega)
end CP2
