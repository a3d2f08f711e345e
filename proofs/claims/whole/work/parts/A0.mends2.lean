/-! The model's parser: ends, whole. -/
theorem un_b {x : Int32} {t : Nat} (h : un x = some t) : t < 2147483648 := by
  unfold un at h
  by_cases hx : x < 0
  · rw [if_pos hx] at h; cases h
  · rw [if_neg hx] at h
    cases h
    rcases i_cases x with ⟨j, hj, rfl⟩ | hj
    · rw [nI_clamp (by omega)]; exact hj
    · exact absurd hj hx
theorem nmA_b {q : PS} {k : Nat} (hk : k < (nmA q).length) : ((nmA q).getD k (0, 0)).2 < 2147483648 := by
  have hm : (nmA q).getD k (0, 0) ∈ nmA q := gd_mem hk
  obtain ⟨r, -, h2⟩ := List.mem_flatMap.mp hm
  generalize (nmA q).getD k (0, 0) = x at h2
  unfold nmR at h2
  rcases List.mem_append.mp h2 with h2 | h2
  · cases e : un (rW0 r) with
    | none => rw [e] at h2; cases h2
    | some t => rw [e] at h2; rw [List.mem_singleton.mp h2]; exact un_b e
  · cases e : un (rW1 r) with
    | none => rw [e] at h2; cases h2
    | some t => rw [e] at h2; rw [List.mem_singleton.mp h2]; exact un_b e
section ME2
variable {g : GG} {σ σ0 : HS} {q : PS} {Z : List Frame → Array Value → State → State → Prop}
theorem y9_en68 (hM : MPS σ0 q) (hS : SK σ0) (hN : (psF q).length ≤ 40) (K : ∀ σ', FR9 rcq σ0 σ' → RCH σ' (psF q).length (fun b => decide (b = 0)) → WA g mX9_ends 2 0 0 Z 0 0 101 [(0, .ref 58), (1, .int (bi true))] [] σ') : ∀ (k i : Nat) (σ : HS), i + k = (psF q).length → FR9 rcq σ0 σ → RCH σ i (fun b => decide (b = 0)) → WA g mX9_ends 2 0 0 Z 0 0 68 [(0, .ref 58), (1, .int (nI i))] [] σ := by
  intro k
  induction k with
  | zero =>
    intro i σ hi h1 hR
    have m1 := (hM.rc h1).1
    have ei : i = (psF q).length := by omega
    rw [ei] at hR ⊢
    refine q_iload_n dX9_ends_68 rfl rfl ?_
    refine q_aload_n dX9_ends_69 rfl rfl rfl ?_
    refine q_getr (r := 61) dX9_ends_70 fX9_40 rfl (ty_c (SK.fq h1 hS) (by decide) rfl) ((SK.fq h1 hS).2 58 9 61 rfl) ?_
    refine q_iconst (v := nI 4) dX9_ends_73 rfl ?_
    refine q_iald (x := nI ((psF q).length)) (j := 4) dX9_ends_74 (ty_c (SK.fq h1 hS) (by decide) rfl) (ix_n (by omega) (by omega)) m1 ?_
    refine q_icmp_geN (tgt := 99) dX9_ends_75 (by decide) (by omega) (by omega) (fun c75 => ?_) (fun c75 => ?_)
    · skip
      refine q_iconst (v := nI 1) dX9_ends_99 rfl ?_
      refine q_istore_n dX9_ends_100 rfl (by decide) (ls' := [(1, .int (nI 1)), (0, .ref 58)]) rfl ?_
      refine q_pk [1, 0] (ls' := [(0, .ref 58), (1, .int (nI 1))]) rfl ?_
      exact K σ h1 hR
    · exact absurd c75 (by omega)
  | succ k ih =>
    intro i σ hi h1 hR
    have m1 := (hM.rc h1).1
    have nx : ∀ v : Int32, v = bi (decide (i = 0)) → WA g mX9_ends 2 0 0 Z 0 0 68 [(0, .ref 58), (1, .int (nI (i + 1)))] [] (uI σ 86 i v) := fun v hv => by
      refine ih (i + 1) _ (by omega) (h1.uI ⟨rfl, rfl⟩) fun b hb => ?_
      by_cases e : b = i
      · rw [e, uI_self, hv]
      · rw [rd_ne e]; exact hR b (by omega)
    refine q_iload_n dX9_ends_68 rfl rfl ?_
    refine q_aload_n dX9_ends_69 rfl rfl rfl ?_
    refine q_getr (r := 61) dX9_ends_70 fX9_40 rfl (ty_c (SK.fq h1 hS) (by decide) rfl) ((SK.fq h1 hS).2 58 9 61 rfl) ?_
    refine q_iconst (v := nI 4) dX9_ends_73 rfl ?_
    refine q_iald (x := nI ((psF q).length)) (j := 4) dX9_ends_74 (ty_c (SK.fq h1 hS) (by decide) rfl) (ix_n (by omega) (by omega)) m1 ?_
    refine q_icmp_geN (tgt := 99) dX9_ends_75 (by decide) (by omega) (by omega) (fun c75 => ?_) (fun c75 => ?_)
    · exact absurd c75 (by omega)
    · skip
      refine q_aload_n dX9_ends_78 rfl rfl rfl ?_
      refine q_getr (r := 86) dX9_ends_79 fX9_141 rfl (ty_c (SK.fq h1 hS) (by decide) rfl) ((SK.fq h1 hS).2 58 42 86 rfl) ?_
      refine q_iload_n dX9_ends_82 rfl rfl ?_
      refine q_iload_n dX9_ends_83 rfl rfl ?_
      refine q_if_neN (tgt := 91) dX9_ends_84 (by decide) (by omega) (fun c84 => ?_) (fun c84 => ?_)
      · skip
        refine q_iconst (v := nI 0) dX9_ends_91 rfl ?_
        refine q_zast (j := i) dX9_ends_92 (ty_c (SK.fq h1 hS) (by decide) rfl) (ix_n (by omega) (by omega)) (Or.inl rfl) ?_
        refine q_iincN (c := 1) dX9_ends_93 rfl (by decide) rfl (ls' := [(1, .int (nI (i + 1))), (0, .ref 58)]) rfl ?_
        refine q_goto (tgt := 68) dX9_ends_96 (by decide) ?_
        refine q_pk [1, 0] (ls' := [(0, .ref 58), (1, .int (nI (i + 1)))]) rfl ?_
        first | exact nx _ (by rw [decide_eq_true c84]; rfl) | exact nx _ (by rw [decide_eq_false c84]; rfl)
      · skip
        refine q_iconst (v := nI 1) dX9_ends_87 rfl ?_
        refine q_goto (tgt := 92) dX9_ends_88 (by decide) ?_
        refine q_zast (j := i) dX9_ends_92 (ty_c (SK.fq h1 hS) (by decide) rfl) (ix_n (by omega) (by omega)) (Or.inr rfl) ?_
        refine q_iincN (c := 1) dX9_ends_93 rfl (by decide) rfl (ls' := [(1, .int (nI (i + 1))), (0, .ref 58)]) rfl ?_
        refine q_goto (tgt := 68) dX9_ends_96 (by decide) ?_
        refine q_pk [1, 0] (ls' := [(0, .ref 58), (1, .int (nI (i + 1)))]) rfl ?_
        first | exact nx _ (by rw [decide_eq_true c84]; rfl) | exact nx _ (by rw [decide_eq_false c84]; rfl)
theorem y9_en232 (hM : MPS σ0 q) (hS : SK σ0) (hc : BC q) (hw : WFs q) (K : ∀ σ', FR9 rcq σ0 σ' → RCH σ' (psF q).length (fun b => decide (rK (eR q b) = 6)) → WA g mX9_ends 2 0 0 Z 0 0 276 [(0, .ref 58), (1, .int (bi true))] [] σ') : ∀ (k i : Nat) (σ : HS), i + k = (psF q).length → FR9 rcq σ0 σ → RCH σ i (fun b => decide (rK (eR q b) = 6)) → WA g mX9_ends 2 0 0 Z 0 0 232 [(0, .ref 58), (2, .int (nI i))] [] σ := by
  have hN := hc.2.1
  intro k
  induction k with
  | zero =>
    intro i σ hi h1 hR
    have m1 := (hM.rc h1).1
    have ei : i = (psF q).length := by omega
    rw [ei] at hR ⊢
    refine q_iload_n dX9_ends_232 rfl rfl ?_
    refine q_aload_n dX9_ends_233 rfl rfl rfl ?_
    refine q_getr (r := 61) dX9_ends_234 fX9_40 rfl (ty_c (SK.fq h1 hS) (by decide) rfl) ((SK.fq h1 hS).2 58 9 61 rfl) ?_
    refine q_iconst (v := nI 4) dX9_ends_237 rfl ?_
    refine q_iald (x := nI ((psF q).length)) (j := 4) dX9_ends_238 (ty_c (SK.fq h1 hS) (by decide) rfl) (ix_n (by omega) (by omega)) m1 ?_
    refine q_icmp_geN (tgt := 274) dX9_ends_239 (by decide) (by omega) (by omega) (fun c239 => ?_) (fun c239 => ?_)
    · skip
      refine q_iconst (v := nI 1) dX9_ends_274 rfl ?_
      refine q_istore_n dX9_ends_275 rfl (by decide) (ls' := [(1, .int (nI 1)), (0, .ref 58), (2, .int (nI ((psF q).length)))]) rfl ?_
      refine q_pk [1, 0] (ls' := [(0, .ref 58), (1, .int (nI 1))]) rfl ?_
      exact K σ h1 hR
    · exact absurd c239 (by omega)
  | succ k ih =>
    intro i σ hi h1 hR
    have hMs := hM.rc h1
    have m1 := hMs.1
    obtain ⟨r0, -, -⟩ := men_r hMs hc hw (j := i) (by omega)
    obtain ⟨-, hnf, -, -, -, h6, -⟩ := end_w hc hw (j := i) (by omega)
    have nx : ∀ v : Int32, v = bi (decide (rK (eR q i) = 6)) → WA g mX9_ends 2 0 0 Z 0 0 232 [(0, .ref 58), (2, .int (nI (i + 1)))] [] (uI σ 86 i v) := fun v hv => by
      refine ih (i + 1) _ (by omega) (h1.uI ⟨rfl, rfl⟩) fun b hb => ?_
      by_cases e : b = i
      · rw [e, uI_self, hv]
      · rw [rd_ne e]; exact hR b (by omega)
    refine q_iload_n dX9_ends_232 rfl rfl ?_
    refine q_aload_n dX9_ends_233 rfl rfl rfl ?_
    refine q_getr (r := 61) dX9_ends_234 fX9_40 rfl (ty_c (SK.fq h1 hS) (by decide) rfl) ((SK.fq h1 hS).2 58 9 61 rfl) ?_
    refine q_iconst (v := nI 4) dX9_ends_237 rfl ?_
    refine q_iald (x := nI ((psF q).length)) (j := 4) dX9_ends_238 (ty_c (SK.fq h1 hS) (by decide) rfl) (ix_n (by omega) (by omega)) m1 ?_
    refine q_icmp_geN (tgt := 274) dX9_ends_239 (by decide) (by omega) (by omega) (fun c239 => ?_) (fun c239 => ?_)
    · exact absurd c239 (by omega)
    · skip
      refine q_aload_n dX9_ends_242 rfl rfl rfl ?_
      refine q_getr (r := 86) dX9_ends_243 fX9_141 rfl (ty_c (SK.fq h1 hS) (by decide) rfl) ((SK.fq h1 hS).2 58 42 86 rfl) ?_
      refine q_iload_n dX9_ends_246 rfl rfl ?_
      refine q_aload_n dX9_ends_247 rfl rfl rfl ?_
      refine q_getr (r := 67) dX9_ends_248 fX9_58 rfl (ty_c (SK.fq h1 hS) (by decide) rfl) ((SK.fq h1 hS).2 58 15 67 rfl) ?_
      refine q_aload_n dX9_ends_251 rfl rfl rfl ?_
      refine q_iload_n dX9_ends_252 rfl rfl ?_
      refine q_callV (As := [.int (nI i)]) (rest := [.ref 67, .int (nI i), .ref 86]) dX9_ends_253 vX9_322 (ty_c (SK.fq h1 hS) (by decide) rfl) ⟨by decide, rfl⟩ (z9_lastNode (SK.fq h1 hS) hMs hc hw (by omega)) rfl rfl (Nat.le_of_ble_eq_true rfl) (by omega) (by omega) (by omega) (k_p ?_)
      refine q_iald (x := nI (rK (eR q i))) (j := (960 + (nf q (i + 1) - 1))) dX9_ends_256 (ty_c (SK.fq h1 hS) (by decide) rfl) (ix_n (by omega) (by omega)) r0 ?_
      refine q_bipush (v := nI 6) dX9_ends_257 rfl ?_
      refine q_icmp_neN (tgt := 266) dX9_ends_259 (by decide) (by omega) (by omega) (fun c259 => ?_) (fun c259 => ?_)
      · skip
        refine q_iconst (v := nI 0) dX9_ends_266 rfl ?_
        refine q_zast (j := i) dX9_ends_267 (ty_c (SK.fq h1 hS) (by decide) rfl) (ix_n (by omega) (by omega)) (Or.inl rfl) ?_
        refine q_iincN (c := 1) dX9_ends_268 rfl (by decide) rfl (ls' := [(2, .int (nI (i + 1))), (0, .ref 58)]) rfl ?_
        refine q_goto (tgt := 232) dX9_ends_271 (by decide) ?_
        refine q_pk [1, 0] (ls' := [(0, .ref 58), (2, .int (nI (i + 1)))]) rfl ?_
        first | exact nx _ (by rw [decide_eq_true c259]; rfl) | exact nx _ (by rw [decide_eq_false c259]; rfl)
      · skip
        refine q_iconst (v := nI 1) dX9_ends_262 rfl ?_
        refine q_goto (tgt := 267) dX9_ends_263 (by decide) ?_
        refine q_zast (j := i) dX9_ends_267 (ty_c (SK.fq h1 hS) (by decide) rfl) (ix_n (by omega) (by omega)) (Or.inr rfl) ?_
        refine q_iincN (c := 1) dX9_ends_268 rfl (by decide) rfl (ls' := [(2, .int (nI (i + 1))), (0, .ref 58)]) rfl ?_
        refine q_goto (tgt := 232) dX9_ends_271 (by decide) ?_
        refine q_pk [1, 0] (ls' := [(0, .ref 58), (2, .int (nI (i + 1)))]) rfl ?_
        first | exact nx _ (by rw [decide_eq_true c259]; rfl) | exact nx _ (by rw [decide_eq_false c259]; rfl)
/-- behind the marks of what leaves -/
theorem y9_en388 (hM : MPS σ q) (hS : SK σ) (hc : BC q) (hB : NB q) (h0 : 0 < (psF q).length) (hb : sI σ 58 32 = nI 0) (hRch : ∀ i, i < (psF q).length → Rch q i) {f : Nat → Bool} (hR : RCH σ (psF q).length f) (hL : ∀ i, f i = true → Lvs q i) (hC : CLb q f) (he : FR9 enq σ0 σ) : WA g mX9_ends 2 0 0 (ZM g (fun r σ' => r = none ∧ EnQ σ0 q σ') 0 0) 0 0 388 [(0, .ref 58)] [] σ := by
  have hN := hc.2.1
  have m1 := hM.1
  have fin : ∀ σ', FR9 (fun h i => h = 58 ∧ (i = 32 ∨ i = 33)) σ σ' → DnS σ' q f 6 0 → EnQ σ0 q σ' := fun σ' h1 h2 => by
    refine ⟨he.tr (h1.mono fun a i z => Or.inr z), ?_⟩
    rcases h2 with ⟨a, b⟩ | ⟨j, a, b, c, d, e1, e2⟩
    · exact Or.inr ⟨hB, hRch, fun i hi => hL i (a i (by omega) hi), b⟩
    · refine Or.inl ⟨(6, (psH q).getD j 0), Or.inr ⟨hB, Or.inr ⟨hRch, j, b, fun i hi => hL i (c i (by omega) hi), fun z => ?_, rfl⟩⟩, ⟨by show 1 ≤ 6; omega, by show 6 < 10; omega⟩, e1, e2⟩
      rw [Lvs_cl hB hC z b] at d; cases d
  have K : ∀ σ', FR9 (fun h i => h = 58 ∧ (i = 32 ∨ i = 33)) σ σ' → DnS σ' q f 6 0 → WA g mX9_ends 2 0 0 (ZM g (fun r σ' => r = none ∧ EnQ σ0 q σ') 0 0) 0 0 432 [(0, .ref 58)] [] σ' := fun σ' h1 h2 => by
    have fn := fin σ' h1 h2
    refine q_return dX9_ends_432 rfl (by omega) (by omega) ?_
    exact ⟨rfl, fn⟩
  have go := y9_en397 (g := g) hM hS hN hR K (psF q).length σ (Nat.le_refl _) FR9.rf (Or.inl ⟨fun i i1 i2 => absurd i1 (by omega), hb⟩)
  rw [dn_pos h0] at go
  refine q_aload_n dX9_ends_388 rfl rfl rfl ?_
  refine q_getr (r := 61) dX9_ends_389 fX9_40 rfl (ty_c hS (by decide) rfl) (hS.2 58 9 61 rfl) ?_
  refine q_iconst (v := nI 4) dX9_ends_392 rfl ?_
  refine q_iald (x := nI ((psF q).length)) (j := 4) dX9_ends_393 (ty_c hS (by decide) rfl) (ix_n (by omega) (by omega)) m1 ?_
  refine q_iconst (v := nI 1) dX9_ends_394 rfl ?_
  refine q_isubN dX9_ends_395 (by omega) ?_
  refine q_istore_n dX9_ends_396 rfl (by decide) (ls' := [(2, .int (nI (((psF q).length) - 1))), (0, .ref 58)]) rfl ?_
  refine q_pk [1, 0] (ls' := [(0, .ref 58), (2, .int (nI (((psF q).length) - 1)))]) rfl ?_
  exact go
/-- behind the marks of what is come to -/
theorem y9_en179 (hM : MPS σ q) (hS : SK σ) (hc : BC q) (hw : WFs q) (hB : NB q) (h0 : 0 < (psF q).length) (hb : sI σ 58 32 = nI 0) {f : Nat → Bool} (hR : RCH σ (psF q).length f) (hL : ∀ i, f i = true → Rch q i) (hz : f 0 = true) (hC : CLf q f) (he : FR9 enq σ0 σ) : WA g mX9_ends 2 0 0 (ZM g (fun r σ' => r = none ∧ EnQ σ0 q σ') 0 0) 0 0 179 [(0, .ref 58)] [] σ := by
  have hN := hc.2.1
  have m1 := hM.1
  have K : ∀ σ', FR9 (fun h i => h = 58 ∧ (i = 32 ∨ i = 33)) σ σ' → DnS σ' q f 5 0 → WA g mX9_ends 2 0 0 (ZM g (fun r σ' => r = none ∧ EnQ σ0 q σ') 0 0) 0 0 222 [(0, .ref 58)] [] σ' := fun σ' h1 h2 => by
    have h3 : FR9 enq σ σ' := h1.mono fun a i z => Or.inr z
    rcases h2 with ⟨a, b⟩ | ⟨j, a, b, c, d, e1, e2⟩
    · have hRch : ∀ i, i < (psF q).length → Rch q i := fun i hi => hL i (a i (by omega) hi)
      have hM2 := hM.en h3
      have hS2 := SK.fq h3 hS
      have go := y9_en232 (g := g) hM2 hS2 hc hw (fun σ2 k1 k2 => y9_en276 (hM2.rc k1) (SK.fq k1 hS2) hc hw hB (fun f' σ3 j1 j2 j3 j4 => y9_en388 ((hM2.rc k1).rc j1) (SK.fq j1 (SK.fq k1 hS2)) hc hB h0 ((j1.2.2.2 58 32 (by unfold rcq; omega)).trans ((k1.2.2.2 58 32 (by unfold rcq; omega)).trans b)) hRch j2 j3 j4 ((he.tr h3).tr ((k1.tr j1).mono fun _ _ => rcq.en))) ((psF q).length + 1) _ σ2 (by omega) FR9.rf k2 (fun i hi => Lvs_l (of_decide_eq_true hi)) (fun j _ h6 => decide_eq_true h6)) (psF q).length 0 σ' (by omega) FR9.rf (fun b hb => absurd hb (by omega))
      refine q_aload_n dX9_ends_222 rfl rfl rfl ?_
      refine q_geti (x := nI 0) dX9_ends_223 fX9_110 rfl (ty_c hS2 (by decide) rfl) b ?_
      refine q_if_leN (tgt := 230) dX9_ends_226 (by decide) (by omega) (fun _ => ?_) (fun h => absurd h (by decide))
      refine q_iconst (v := nI 0) dX9_ends_230 rfl ?_
      refine q_istore_n dX9_ends_231 rfl (by decide) (ls' := [(2, .int (nI 0)), (0, .ref 58)]) rfl ?_
      refine q_pk [1, 0] (ls' := [(0, .ref 58), (2, .int (nI 0))]) rfl ?_
      exact go
    · have fn : EnQ σ0 q σ' := ⟨he.tr h3, Or.inl ⟨(5, (psH q).getD j 0), Or.inr ⟨hB, Or.inl ⟨j, b, fun i hi => hL i (c i (by omega) hi), fun z => (by rw [Rch_cl hB h0 hz hC z] at d; cases d), rfl⟩⟩, ⟨by show 1 ≤ 5; omega, by show 5 < 10; omega⟩, e1, e2⟩⟩
      refine q_aload_n dX9_ends_222 rfl rfl rfl ?_
      refine q_geti (x := nI 5) dX9_ends_223 fX9_110 rfl (ty_c (SK.fq h3 hS) (by decide) rfl) e1 ?_
      refine q_if_leN (tgt := 230) dX9_ends_226 (by decide) (by omega) (fun h => absurd h (by decide)) (fun _ => ?_)
      refine q_return dX9_ends_229 rfl (by omega) (by omega) ?_
      exact ⟨rfl, fn⟩
  have go := y9_en188 (g := g) hM hS hN hR K (psF q).length σ (Nat.le_refl _) FR9.rf (Or.inl ⟨fun i i1 i2 => absurd i1 (by omega), hb⟩)
  rw [dn_pos h0] at go
  refine q_aload_n dX9_ends_179 rfl rfl rfl ?_
  refine q_getr (r := 61) dX9_ends_180 fX9_40 rfl (ty_c hS (by decide) rfl) (hS.2 58 9 61 rfl) ?_
  refine q_iconst (v := nI 4) dX9_ends_183 rfl ?_
  refine q_iald (x := nI ((psF q).length)) (j := 4) dX9_ends_184 (ty_c hS (by decide) rfl) (ix_n (by omega) (by omega)) m1 ?_
  refine q_iconst (v := nI 1) dX9_ends_185 rfl ?_
  refine q_isubN dX9_ends_186 (by omega) ?_
  refine q_istore_n dX9_ends_187 rfl (by decide) (ls' := [(2, .int (nI (((psF q).length) - 1))), (0, .ref 58)]) rfl ?_
  refine q_pk [1, 0] (ls' := [(0, .ref 58), (2, .int (nI (((psF q).length) - 1)))]) rfl ?_
  exact go
theorem y9_en58 (hM : MPS σ q) (hS : SK σ) (hc : BC q) (hw : WFs q) (hB : NB q) (h0 : 0 < (psF q).length) (hb : sI σ 58 32 = nI 0) : WA g mX9_ends 2 0 0 (ZM g (fun r σ' => r = none ∧ EnQ σ q σ') 0 0) 0 0 58 [(0, .ref 58)] [] σ := by
  have go := y9_en68 (g := g) hM hS hc.2.1 (fun σ2 k1 k2 => y9_en101 (hM.rc k1) (SK.fq k1 hS) hc hw hB (fun f' σ3 j1 j2 j3 j4 j5 => y9_en179 ((hM.rc k1).rc j1) (SK.fq j1 (SK.fq k1 hS)) hc hw hB h0 ((j1.2.2.2 58 32 (by unfold rcq; omega)).trans ((k1.2.2.2 58 32 (by unfold rcq; omega)).trans hb)) j2 j3 j4 j5 ((k1.tr j1).mono fun _ _ => rcq.en)) ((psF q).length + 1) _ σ2 (by omega) FR9.rf k2 (fun i hi => by rw [of_decide_eq_true hi]; exact Rch_z) (decide_eq_true rfl)) (psF q).length 0 σ (by omega) FR9.rf (fun b hb => absurd hb (by omega))
  refine q_aload_n dX9_ends_58 rfl rfl rfl ?_
  refine q_geti (x := nI 0) dX9_ends_59 fX9_110 rfl (ty_c hS (by decide) rfl) hb ?_
  refine q_if_leN (tgt := 66) dX9_ends_62 (by decide) (by omega) (fun _ => ?_) (fun h => absurd h (by decide))
  refine q_iconst (v := nI 0) dX9_ends_66 rfl ?_
  refine q_istore_n dX9_ends_67 rfl (by decide) (ls' := [(1, .int (nI 0)), (0, .ref 58)]) rfl ?_
  refine q_pk [1, 0] (ls' := [(0, .ref 58), (1, .int (nI 0))]) rfl ?_
  exact go
theorem y9_en2 (hM : MPS σ q) (hS : SK σ) (hc : BC q) (hw : WFs q) (h0 : 0 < (psF q).length) (hb : sI σ 58 32 = nI 0) (hl : (nmA q).length < 200) : ∀ (k i : Nat), i + k = (nmA q).length → (∀ j, j < i → bdp (psF q).length ((nmA q).getD j (0, 0)) = false) → WA g mX9_ends 2 0 0 (ZM g (fun r σ' => r = none ∧ EnQ σ q σ') 0 0) 0 0 2 [(0, .ref 58), (1, .int (nI i))] [] σ := by
  have hN := hc.2.1
  obtain ⟨m1, -, -, -, -, -, ml, mn⟩ := id hM
  intro k
  induction k with
  | zero =>
    intro i hi hn
    have ei : i = (nmA q).length := by omega
    rw [ei] at hn ⊢
    have go := y9_en58 (g := g) hM hS hc hw (nm_ok hc hn) h0 hb
    refine q_iload_n dX9_ends_2 rfl rfl ?_
    refine q_aload_n dX9_ends_3 rfl rfl rfl ?_
    refine q_geti (x := nI ((nmA q).length)) dX9_ends_4 fX9_138 rfl (ty_c hS (by decide) rfl) ml ?_
    refine q_icmp_geN (tgt := 58) dX9_ends_7 (by decide) (by omega) (by omega) (fun c7 => ?_) (fun c7 => ?_)
    · skip
      refine q_pk [0] (ls' := [(0, .ref 58)]) rfl ?_
      exact go
    · exact absurd c7 (by omega)
  | succ k ih =>
    intro i hi hn
    obtain ⟨n1, n2⟩ := mn i (by omega)
    have nb := nmA_b (q := q) (k := i) (by omega)
    have no : bdp (psF q).length ((nmA q).getD i (0, 0)) = false → WA g mX9_ends 2 0 0 (ZM g (fun r σ' => r = none ∧ EnQ σ q σ') 0 0) 0 0 2 [(0, .ref 58), (1, .int (nI (i + 1)))] [] σ := fun h => ih (i + 1) (by omega) fun j hj => by
      by_cases e : j = i
      · rw [e]; exact h
      · exact hn j (by omega)
    have yes : bdp (psF q).length ((nmA q).getD i (0, 0)) = true → WA g mX9_ends 2 0 0 (ZM g (fun r σ' => r = none ∧ EnQ σ q σ') 0 0) 0 0 2 [(0, .ref 58), (1, .int (nI (i + 1)))] [] (erM σ (4, ((nmA q).getD i (0, 0)).1)) := fun h => by
      have hp := nm_bad hc hw (by omega) hn h
      have f1 : FR9 enq σ (erM σ (4, ((nmA q).getD i (0, 0)).1)) := (FR9.rf.uI (Or.inr ⟨rfl, Or.inl rfl⟩)).uI (Or.inr ⟨rfl, Or.inr rfl⟩)
      have e1 : sI (erM σ (4, ((nmA q).getD i (0, 0)).1)) 58 32 = nI 4 := (rd_ne (by decide)).trans uI_self
      have e2 : sI (erM σ (4, ((nmA q).getD i (0, 0)).1)) 58 33 = nI ((nmA q).getD i (0, 0)).1 := uI_self
      have ml2 : sI (erM σ (4, ((nmA q).getD i (0, 0)).1)) 58 41 = nI (nmA q).length := (f1.2.2.2 58 41 (by unfold enq; omega)).trans ml
      generalize erM σ (4, ((nmA q).getD i (0, 0)).1) = τ at f1 e1 e2 ml2
      have fn : EnQ σ q τ := ⟨f1, Or.inl ⟨(4, ((nmA q).getD i (0, 0)).1), Or.inl hp, ⟨by show 1 ≤ 4; omega, by show 4 < 10; omega⟩, e1, e2⟩⟩
      refine q_iload_n dX9_ends_2 rfl rfl ?_
      refine q_aload_n dX9_ends_3 rfl rfl rfl ?_
      refine q_geti (x := nI ((nmA q).length)) dX9_ends_4 fX9_138 rfl (ty_c (SK.fq f1 hS) (by decide) rfl) ml2 ?_
      refine q_icmp_geN (tgt := 58) dX9_ends_7 (by decide) (by omega) (by omega) (fun c7 => ?_) (fun c7 => ?_)
      · skip
        refine q_aload_n dX9_ends_58 rfl rfl rfl ?_
        refine q_geti (x := nI 4) dX9_ends_59 fX9_110 rfl (ty_c (SK.fq f1 hS) (by decide) rfl) e1 ?_
        refine q_if_leN (tgt := 66) dX9_ends_62 (by decide) (by omega) (fun h => absurd h (by decide)) (fun _ => ?_)
        refine q_return dX9_ends_65 rfl (by omega) (by omega) ?_
        exact ⟨rfl, fn⟩
      · skip
        refine q_aload_n dX9_ends_10 rfl rfl rfl ?_
        refine q_geti (x := nI 4) dX9_ends_11 fX9_110 rfl (ty_c (SK.fq f1 hS) (by decide) rfl) e1 ?_
        refine q_if_neN (tgt := 58) dX9_ends_14 (by decide) (by omega) (fun _ => ?_) (fun h => absurd h (by decide))
        refine q_aload_n dX9_ends_58 rfl rfl rfl ?_
        refine q_geti (x := nI 4) dX9_ends_59 fX9_110 rfl (ty_c (SK.fq f1 hS) (by decide) rfl) e1 ?_
        refine q_if_leN (tgt := 66) dX9_ends_62 (by decide) (by omega) (fun h => absurd h (by decide)) (fun _ => ?_)
        refine q_return dX9_ends_65 rfl (by omega) (by omega) ?_
        exact ⟨rfl, fn⟩
    refine q_iload_n dX9_ends_2 rfl rfl ?_
    refine q_aload_n dX9_ends_3 rfl rfl rfl ?_
    refine q_geti (x := nI ((nmA q).length)) dX9_ends_4 fX9_138 rfl (ty_c hS (by decide) rfl) ml ?_
    refine q_icmp_geN (tgt := 58) dX9_ends_7 (by decide) (by omega) (by omega) (fun c7 => ?_) (fun c7 => ?_)
    · exact absurd c7 (by omega)
    · skip
      refine q_aload_n dX9_ends_10 rfl rfl rfl ?_
      refine q_geti (x := nI 0) dX9_ends_11 fX9_110 rfl (ty_c hS (by decide) rfl) hb ?_
      refine q_if_neN (tgt := 58) dX9_ends_14 (by decide) (by omega) (fun h => absurd h (by decide)) (fun _ => ?_)
      refine q_aload_n dX9_ends_17 rfl rfl rfl ?_
      refine q_getr (r := 85) dX9_ends_18 fX9_135 rfl (ty_c hS (by decide) rfl) (hS.2 58 40 85 rfl) ?_
      refine q_iload_n dX9_ends_21 rfl rfl ?_
      refine q_iald (x := nI (((nmA q).getD i (0, 0)).2)) (j := i) dX9_ends_22 (ty_c hS (by decide) rfl) (ix_n (by omega) (by omega)) n2 ?_
      refine q_if_eqN (tgt := 41) dX9_ends_23 (by decide) (by omega) (fun c23 => ?_) (fun c23 => ?_)
      · skip
        refine q_aload_n dX9_ends_41 rfl rfl rfl ?_
        refine q_iconst (v := nI 4) dX9_ends_42 rfl ?_
        refine q_aload_n dX9_ends_43 rfl rfl rfl ?_
        refine q_getr (r := 84) dX9_ends_44 fX9_132 rfl (ty_c hS (by decide) rfl) (hS.2 58 39 84 rfl) ?_
        refine q_iload_n dX9_ends_47 rfl rfl ?_
        refine q_iald (x := nI (((nmA q).getD i (0, 0)).1)) (j := i) dX9_ends_48 (ty_c hS (by decide) rfl) (ix_n (by omega) (by omega)) n1 ?_
        refine q_callV (As := [.int (nI 4), .int (nI (((nmA q).getD i (0, 0)).1))]) (rest := []) dX9_ends_49 vX9_319 (ty_c hS (by decide) rfl) ⟨by decide, rfl⟩ (z9_fault hS) rfl rfl (Nat.le_of_ble_eq_true rfl) (by omega) (by omega) (by omega) (k_s ?_)
        refine q_iincN (c := 1) dX9_ends_52 rfl (by decide) rfl (ls' := [(1, .int (nI (i + 1))), (0, .ref 58)]) rfl ?_
        refine q_goto (tgt := 2) dX9_ends_55 (by decide) ?_
        refine q_pk [1, 0] (ls' := [(0, .ref 58), (1, .int (nI (i + 1)))]) rfl ?_
        first | exact yes (decide_eq_true (Or.inl c23)) | exact yes (decide_eq_true (Or.inr c38)) | exact no (decide_eq_false (by omega))
      · skip
        refine q_aload_n dX9_ends_26 rfl rfl rfl ?_
        refine q_getr (r := 85) dX9_ends_27 fX9_135 rfl (ty_c hS (by decide) rfl) (hS.2 58 40 85 rfl) ?_
        refine q_iload_n dX9_ends_30 rfl rfl ?_
        refine q_iald (x := nI (((nmA q).getD i (0, 0)).2)) (j := i) dX9_ends_31 (ty_c hS (by decide) rfl) (ix_n (by omega) (by omega)) n2 ?_
        refine q_aload_n dX9_ends_32 rfl rfl rfl ?_
        refine q_getr (r := 61) dX9_ends_33 fX9_40 rfl (ty_c hS (by decide) rfl) (hS.2 58 9 61 rfl) ?_
        refine q_iconst (v := nI 4) dX9_ends_36 rfl ?_
        refine q_iald (x := nI ((psF q).length)) (j := 4) dX9_ends_37 (ty_c hS (by decide) rfl) (ix_n (by omega) (by omega)) m1 ?_
        refine q_icmp_ltN (tgt := 52) dX9_ends_38 (by decide) (by omega) (by omega) (fun c38 => ?_) (fun c38 => ?_)
        · skip
          refine q_iincN (c := 1) dX9_ends_52 rfl (by decide) rfl (ls' := [(1, .int (nI (i + 1))), (0, .ref 58)]) rfl ?_
          refine q_goto (tgt := 2) dX9_ends_55 (by decide) ?_
          refine q_pk [1, 0] (ls' := [(0, .ref 58), (1, .int (nI (i + 1)))]) rfl ?_
          first | exact yes (decide_eq_true (Or.inl c23)) | exact yes (decide_eq_true (Or.inr c38)) | exact no (decide_eq_false (by omega))
        · skip
          refine q_aload_n dX9_ends_41 rfl rfl rfl ?_
          refine q_iconst (v := nI 4) dX9_ends_42 rfl ?_
          refine q_aload_n dX9_ends_43 rfl rfl rfl ?_
          refine q_getr (r := 84) dX9_ends_44 fX9_132 rfl (ty_c hS (by decide) rfl) (hS.2 58 39 84 rfl) ?_
          refine q_iload_n dX9_ends_47 rfl rfl ?_
          refine q_iald (x := nI (((nmA q).getD i (0, 0)).1)) (j := i) dX9_ends_48 (ty_c hS (by decide) rfl) (ix_n (by omega) (by omega)) n1 ?_
          refine q_callV (As := [.int (nI 4), .int (nI (((nmA q).getD i (0, 0)).1))]) (rest := []) dX9_ends_49 vX9_319 (ty_c hS (by decide) rfl) ⟨by decide, rfl⟩ (z9_fault hS) rfl rfl (Nat.le_of_ble_eq_true rfl) (by omega) (by omega) (by omega) (k_s ?_)
          refine q_iincN (c := 1) dX9_ends_52 rfl (by decide) rfl (ls' := [(1, .int (nI (i + 1))), (0, .ref 58)]) rfl ?_
          refine q_goto (tgt := 2) dX9_ends_55 (by decide) ?_
          refine q_pk [1, 0] (ls' := [(0, .ref 58), (1, .int (nI (i + 1)))]) rfl ?_
          first | exact yes (decide_eq_true (Or.inl c23)) | exact yes (decide_eq_true (Or.inr c38)) | exact no (decide_eq_false (by omega))
theorem z9_ends (hM : MPS σ q) (hS : SK σ) (hc : BC q) (hw : WFs q) (h0 : 0 < (psF q).length) (hb : sI σ 58 32 = nI 0) (hl : (nmA q).length < 200) : CT g mX9_ends 2 0 0 [.ref 58] σ (fun r σ' => r = none ∧ EnQ σ q σ') := by
  refine CT.of (by decide) (Nat.le_of_ble_eq_true rfl) ?_
  refine q_iconst (v := nI 0) dX9_ends_0 rfl ?_
  refine q_istore_n dX9_ends_1 rfl (by decide) (ls' := [(1, .int (nI 0)), (0, .ref 58)]) rfl ?_
  refine q_pk [1, 0] (ls' := [(0, .ref 58), (1, .int (nI 0))]) rfl ?_
  exact y9_en2 hM hS hc hw h0 hb hl (nmA q).length 0 (by omega) (fun j hj => absurd hj (by omega))
end ME2
