/-! The model's parser: ends. -/
def bdp (N : Nat) (x : Nat × Nat) : Bool := decide (x.2 = 0 ∨ N ≤ x.2)
/-- the block that a statement stands in -/
theorem BC_in {q : PS} (h : BC q) {i : Nat} (hi : i < (psS q).length) : ∃ j, j < (psF q).length ∧ nf q j ≤ i ∧ i < nf q (j + 1) := by
  obtain ⟨b1, b2, b3, b4, b5, b6⟩ := h
  have key : ∀ n, n ≤ (psF q).length → i < nf q n → ∃ j, j < n ∧ nf q j ≤ i ∧ i < nf q (j + 1) := by
    intro n
    induction n with
    | zero => intro _ hi; rw [b4] at hi; omega
    | succ n ih =>
      intro hn hi
      by_cases e : i < nf q n
      · obtain ⟨j, j1, j2⟩ := ih (by omega) e; exact ⟨j, by omega, j2⟩
      · exact ⟨n, by omega, by omega, hi⟩
  exact key _ (Nat.le_refl _) (by rw [nf_ge (Nat.le_refl _)]; exact hi)
theorem nmR_f {N : Nat} {r : REC} {x : Nat × Nat} (h : (nmR r).find? (bdp N) = some x) : (∃ v, un (rW0 r) = some v ∧ bdp N (rP0 r, v) = true ∧ x = (rP0 r, v)) ∨ ((∀ v, un (rW0 r) = some v → bdp N (rP0 r, v) = false) ∧ ∃ v, un (rW1 r) = some v ∧ bdp N (rP1 r, v) = true ∧ x = (rP1 r, v)) := by
  unfold nmR at h
  cases h0 : un (rW0 r) with
  | none =>
    rw [h0] at h
    cases h1 : un (rW1 r) with
    | none => rw [h1] at h; cases h
    | some v =>
      rw [h1] at h
      have h : (List.find? (bdp N) [(rP1 r, v)]) = some x := h
      cases hb : bdp N (rP1 r, v) with
      | false => rw [List.find?_cons, hb] at h; cases h
      | true => rw [List.find?_cons, hb] at h; cases h; exact Or.inr ⟨fun v hv => (by cases hv), v, rfl, hb, rfl⟩
  | some v0 =>
    rw [h0] at h
    cases hb0 : bdp N (rP0 r, v0) with
    | true =>
      rw [List.find?_append, List.find?_cons, hb0] at h
      cases h
      exact Or.inl ⟨v0, rfl, hb0, rfl⟩
    | false =>
      rw [List.find?_append, List.find?_cons, hb0] at h
      refine Or.inr ⟨fun v hv => (by cases hv; exact hb0), ?_⟩
      cases h1 : un (rW1 r) with
      | none => rw [h1] at h; cases h
      | some v =>
        rw [h1] at h
        have h : (List.find? (bdp N) [(rP1 r, v)]) = some x := h
        cases hb : bdp N (rP1 r, v) with
        | false => rw [List.find?_cons, hb] at h; cases h
        | true => rw [List.find?_cons, hb] at h; cases h; exact ⟨v, rfl, hb, rfl⟩
theorem nmR_n {N : Nat} {r : REC} (h : (nmR r).find? (bdp N) = none) : (∀ v, un (rW0 r) = some v → bdp N (rP0 r, v) = false) ∧ ∀ v, un (rW1 r) = some v → bdp N (rP1 r, v) = false := by
  have h := List.find?_eq_none.mp h
  refine ⟨fun v hv => ?_, fun v hv => ?_⟩
  · have := h (rP0 r, v) (by unfold nmR; rw [hv]; simp)
    simpa using this
  · have := h (rP1 r, v) (by unfold nmR; rw [hv]; simp)
    simpa using this
theorem bdp_0 {q : PS} {j v p : Nat} (h : un (rW0 (eR q j)) = some v) : bdp (psF q).length (p, v) = true ↔ nbad q 0 j := by
  have e : wy q 0 j = some v := h
  unfold bdp nbad
  rw [decide_eq_true_eq, e]
  exact ⟨fun z => ⟨v, rfl, z⟩, fun ⟨w, w1, w2⟩ => by cases w1; exact w2⟩
theorem bdp_1 {q : PS} {j v p : Nat} (h : un (rW1 (eR q j)) = some v) : bdp (psF q).length (p, v) = true ↔ nbad q 1 j := by
  have e : wy q 1 j = some v := h
  unfold bdp nbad
  rw [decide_eq_true_eq, e]
  exact ⟨fun z => ⟨v, rfl, z⟩, fun ⟨w, w1, w2⟩ => by cases w1; exact w2⟩
theorem no_bad {q : PS} {j : Nat} (h : (nmR (eR q j)).find? (bdp (psF q).length) = none) : ¬ nbad q 0 j ∧ ¬ nbad q 1 j := by
  obtain ⟨h0, h1⟩ := nmR_n h
  refine ⟨fun z => ?_, fun z => ?_⟩
  · obtain ⟨v, v1, -⟩ := id z
    have := (bdp_0 (p := rP0 (eR q j)) v1).mpr z
    rw [h0 v v1] at this; cases this
  · obtain ⟨v, v1, -⟩ := id z
    have := (bdp_1 (p := rP1 (eR q j)) v1).mpr z
    rw [h1 v v1] at this; cases this
theorem nm_ok {q : PS} (hc : BC q) (h : ∀ i, i < (nmA q).length → bdp (psF q).length ((nmA q).getD i (0, 0)) = false) : NB q := fun j hj => by
  refine no_bad (List.find?_eq_none.mpr fun x hx => ?_)
  obtain ⟨b1, b2, b3, b4, b5, b6⟩ := hc
  have h1 := nf_le ⟨b1, b2, b3, b4, b5, b6⟩ (j := j + 1) (by omega)
  have h2 := b5 j hj
  have hm : x ∈ nmA q := List.mem_flatMap.mpr ⟨_, rr_mem (q := q) (i := nf q (j + 1) - 1) (by omega), hx⟩
  obtain ⟨i, hi, rfl⟩ := List.mem_iff_getElem.mp hm
  have := h i hi
  rw [List.getD_eq_getElem?_getD, List.getElem?_eq_getElem hi] at this
  simpa using this
theorem nm_bad {q : PS} (hc : BC q) (hw : WFs q) {k : Nat} (hk : k < (nmA q).length) (h : ∀ i, i < k → bdp (psF q).length ((nmA q).getD i (0, 0)) = false) (hb : bdp (psF q).length ((nmA q).getD k (0, 0)) = true) : PE4 q (4, ((nmA q).getD k (0, 0)).1) := by
  have hg : ∀ i, i < (nmA q).length → (nmA q)[i]? = some ((nmA q).getD i (0, 0)) := fun i hi => by
    rw [List.getD_eq_getElem?_getD, List.getElem?_eq_getElem hi]; rfl
  generalize hx : (nmA q).getD k (0, 0) = x at hb
  have hf : (nmA q).find? (bdp (psF q).length) = some x := by
    rw [List.find?_eq_some_iff_getElem]
    refine ⟨hb, k, hk, ?_, fun i hi => ?_⟩
    · have := hg k hk
      rw [List.getElem?_eq_getElem hk, hx] at this
      exact Option.some.inj this
    · have e1 := hg i (by omega)
      rw [List.getElem?_eq_getElem (by omega : i < (nmA q).length)] at e1
      rw [Option.some.inj e1, h i hi]; rfl
  unfold nmA at hf
  rw [List.find?_flatMap, List.findSome?_eq_some_iff] at hf
  obtain ⟨l1, a, l2, e1, e2, e3⟩ := hf
  have hi : l1.length < (psS q).length := by rw [e1, List.length_append, List.length_cons]; omega
  have ha : rr q l1.length = a := by unfold rr; rw [e1]; simp
  have hp : ∀ i, i < l1.length → rr q i ∈ l1 := fun i hi => by
    unfold rr
    rw [e1, List.getD_eq_getElem?_getD, List.getElem?_append_left hi, ← List.getD_eq_getElem?_getD]
    exact gd_mem hi
  obtain ⟨j, j1, j2, j3⟩ := BC_in hc hi
  obtain ⟨b1, b2, b3, b4, b5, b6⟩ := hc
  have hb6 := b6 j j1 l1.length j2 j3
  rw [ha] at hb6
  have hk4 : 4 ≤ rK a := by
    obtain ⟨⟨-, -, -, -, w0, w1, c2, c3, c4, c5, c6, -⟩, -⟩ := hw.1 a (by rw [e1]; simp)
    refine Nat.not_lt.mp fun z => ?_
    obtain ⟨z0, z1⟩ := c6 z
    have : nmR a = [] := by unfold nmR; rw [c2, c3, z0, z1]; rfl
    rw [this] at e2; cases e2
  have hend := hb6.2.mp hk4
  have hea : eR q j = a := by unfold eR; rw [← hend]; exact ha
  refine ⟨j, j1, fun i hij => no_bad ?_, ?_⟩
  · refine e3 _ (hp (nf q (i + 1) - 1) ?_)
    have m1 := b5 i (by omega)
    have m2 : nf q (i + 1) ≤ nf q j := by
      have := nf_mono (fun i hi => b5 i (by omega)) (j - (i + 1)) (i + 1) (by omega)
      rw [show i + 1 + (j - (i + 1)) = j by omega] at this
      exact this
    omega
  · rcases nmR_f e2 with ⟨v, v1, v2, v3⟩ | ⟨v0, v, v1, v2, v3⟩
    · rw [← hea] at v1 v2 v3
      exact Or.inl ⟨(bdp_0 v1).mp v2, by rw [v3]; rfl⟩
    · rw [← hea] at v0 v1 v2 v3
      refine Or.inr ⟨fun z => ?_, (bdp_1 v1).mp v2, by rw [v3]; rfl⟩
      obtain ⟨u, u1, -⟩ := id z
      have := (bdp_0 (p := rP0 (eR q j)) u1).mpr z
      rw [v0 u u1] at this; cases this
theorem MPS.rc {σ σ' : HS} {q : PS} (f : FR9 rcq σ σ') (k : MPS σ q) : MPS σ' q := k.en (f.mono fun _ _ => rcq.en)
/-- behind ends -/
def PEn (q : PS) (e : Nat × Nat) : Prop := PE4 q e ∨ (NB q ∧ (FN q (Rch q) 5 e ∨ ((∀ i, i < (psF q).length → Rch q i) ∧ FN q (Lvs q) 6 e)))
def EnQ (σ0 : HS) (q : PS) : HS → Prop := fun σ' => FR9 enq σ0 σ' ∧ ((∃ e, PEn q e ∧ (1 ≤ e.1 ∧ e.1 < 10) ∧ sI σ' 58 32 = nI e.1 ∧ sI σ' 58 33 = nI e.2) ∨ (NB q ∧ (∀ i, i < (psF q).length → Rch q i) ∧ (∀ i, i < (psF q).length → Lvs q i) ∧ sI σ' 58 32 = nI 0))
def cnN (f : Nat → Bool) (N : Nat) : Nat := cnt f N
/-- going down: what the first from m on are not f -/
def DnS (σ : HS) (q : PS) (f : Nat → Bool) (w m : Nat) : Prop := ((∀ i, m ≤ i → i < (psF q).length → f i = true) ∧ sI σ 58 32 = nI 0) ∨ ∃ j, m ≤ j ∧ j < (psF q).length ∧ (∀ i, m ≤ i → i < j → f i = true) ∧ f j = false ∧ sI σ 58 32 = nI w ∧ sI σ 58 33 = nI ((psH q).getD j 0)
section MEE
variable {g : GG} {σ σ0 : HS} {q : PS} {Z : List Frame → Array Value → State → State → Prop}
theorem y9_en397 (hM : MPS σ0 q) (hS : SK σ0) (hN : (psF q).length ≤ 40) {f : Nat → Bool} (hR : ∀ b, b < (psF q).length → sI σ0 86 b = bi (f b)) (K : ∀ σ', FR9 (fun h i => h = 58 ∧ (i = 32 ∨ i = 33)) σ0 σ' → DnS σ' q f 6 0 → WA g mX9_ends 2 0 0 Z 0 0 432 [(0, .ref 58)] [] σ') : ∀ (m : Nat) (σ : HS), m ≤ (psF q).length → FR9 (fun h i => h = 58 ∧ (i = 32 ∨ i = 33)) σ0 σ → DnS σ q f 6 m → WA g mX9_ends 2 0 0 Z 0 0 397 [(0, .ref 58), (2, .int (dn m))] [] σ := by
  intro m
  induction m with
  | zero =>
    intro σ _ h1 h2
    refine q_iload_n dX9_ends_397 rfl rfl ?_
    refine q_if_lt1 (tgt := 432) dX9_ends_398 (by decide) (by decide) ?_
    refine q_pk [0] (ls' := [(0, .ref 58)]) rfl ?_
    exact K σ h1 h2
  | succ m ih =>
    intro σ hm h1 h2
    have r86 : sI σ 86 m = bi (f m) := (h1.2.2.2 86 m (by omega)).trans (hR m (by omega))
    have rH : sI σ 66 (164 + m) = nI ((psH q).getD m 0) := (h1.2.2.2 66 _ (by omega)).trans (hM.2.2.2.1 m (by omega)).2
    have yes : f m = true → DnS σ q f 6 m := fun hf => by
      rcases h2 with ⟨a, b⟩ | ⟨j, a, b, c, d⟩
      · exact Or.inl ⟨fun i i1 i2 => by
          by_cases e : i = m
          · rw [e]; exact hf
          · exact a i (by omega) i2, b⟩
      · exact Or.inr ⟨j, by omega, b, fun i i1 i2 => by
          by_cases e : i = m
          · rw [e]; exact hf
          · exact c i (by omega) i2, d⟩
    have no : f m = false → DnS (erM σ (6, (psH q).getD m 0)) q f 6 m := fun hf => Or.inr ⟨m, Nat.le_refl _, by omega, fun i i1 i2 => absurd i1 (by omega), hf, (rd_ne (by decide)).trans uI_self, uI_self⟩
    have f2 : FR9 (fun h i => h = 58 ∧ (i = 32 ∨ i = 33)) σ0 (erM σ (6, (psH q).getD m 0)) := (h1.uI ⟨rfl, Or.inl rfl⟩).uI ⟨rfl, Or.inr rfl⟩
    refine q_iload_n dX9_ends_397 rfl rfl ?_
    refine q_if_ltN (tgt := 432) dX9_ends_398 (by decide) (by omega) ?_
    refine q_aload_n dX9_ends_401 rfl rfl rfl ?_
    refine q_getr (r := 86) dX9_ends_402 fX9_141 rfl (ty_c (SK.fq h1 hS) (by decide) rfl) ((SK.fq h1 hS).2 58 42 86 rfl) ?_
    refine q_iload_n dX9_ends_405 rfl rfl ?_
    refine q_zald (x := bi (f m)) (j := m) dX9_ends_406 (ty_c (SK.fq h1 hS) (by decide) rfl) (ix_n (by omega) (by omega)) r86 ?_
    refine q_if_neB (tgt := 426) dX9_ends_407 (by decide) (fun c407 => ?_) (fun c407 => ?_)
    · skip
      refine q_iinc (v := dn m) dX9_ends_426 rfl (dn_inc m) (by decide) (ls' := [(2, .int (dn m)), (0, .ref 58)]) rfl ?_
      refine q_goto (tgt := 397) dX9_ends_429 (by decide) ?_
      refine q_pk [1, 0] (ls' := [(0, .ref 58), (2, .int (dn m))]) rfl ?_
      first | exact ih _ (by omega) h1 (yes (by assumption)) | exact ih _ (by omega) f2 (no (by assumption))
    · skip
      refine q_aload_n dX9_ends_410 rfl rfl rfl ?_
      refine q_bipush (v := nI 6) dX9_ends_411 rfl ?_
      refine q_aload_n dX9_ends_413 rfl rfl rfl ?_
      refine q_getr (r := 66) dX9_ends_414 fX9_55 rfl (ty_c (SK.fq h1 hS) (by decide) rfl) ((SK.fq h1 hS).2 58 14 66 rfl) ?_
      refine q_sipush (v := nI 164) dX9_ends_417 rfl ?_
      refine q_iload_n dX9_ends_420 rfl rfl ?_
      refine q_iaddN dX9_ends_421 ?_
      refine q_iald (x := nI ((psH q).getD m 0)) (j := (164 + m)) dX9_ends_422 (ty_c (SK.fq h1 hS) (by decide) rfl) (ix_n (by omega) (by omega)) rH ?_
      refine q_callV (As := [.int (nI 6), .int (nI ((psH q).getD m 0))]) (rest := []) dX9_ends_423 vX9_319 (ty_c (SK.fq h1 hS) (by decide) rfl) ⟨by decide, rfl⟩ (z9_fault (SK.fq h1 hS)) rfl rfl (Nat.le_of_ble_eq_true rfl) (by omega) (by omega) (by omega) (k_s ?_)
      refine q_iinc (v := dn m) dX9_ends_426 rfl (dn_inc m) (by decide) (ls' := [(2, .int (dn m)), (0, .ref 58)]) rfl ?_
      refine q_goto (tgt := 397) dX9_ends_429 (by decide) ?_
      refine q_pk [1, 0] (ls' := [(0, .ref 58), (2, .int (dn m))]) rfl ?_
      first | exact ih _ (by omega) h1 (yes (by assumption)) | exact ih _ (by omega) f2 (no (by assumption))
theorem y9_en188 (hM : MPS σ0 q) (hS : SK σ0) (hN : (psF q).length ≤ 40) {f : Nat → Bool} (hR : ∀ b, b < (psF q).length → sI σ0 86 b = bi (f b)) (K : ∀ σ', FR9 (fun h i => h = 58 ∧ (i = 32 ∨ i = 33)) σ0 σ' → DnS σ' q f 5 0 → WA g mX9_ends 2 0 0 Z 0 0 222 [(0, .ref 58)] [] σ') : ∀ (m : Nat) (σ : HS), m ≤ (psF q).length → FR9 (fun h i => h = 58 ∧ (i = 32 ∨ i = 33)) σ0 σ → DnS σ q f 5 m → WA g mX9_ends 2 0 0 Z 0 0 188 [(0, .ref 58), (2, .int (dn m))] [] σ := by
  intro m
  induction m with
  | zero =>
    intro σ _ h1 h2
    refine q_iload_n dX9_ends_188 rfl rfl ?_
    refine q_if_lt1 (tgt := 222) dX9_ends_189 (by decide) (by decide) ?_
    refine q_pk [0] (ls' := [(0, .ref 58)]) rfl ?_
    exact K σ h1 h2
  | succ m ih =>
    intro σ hm h1 h2
    have r86 : sI σ 86 m = bi (f m) := (h1.2.2.2 86 m (by omega)).trans (hR m (by omega))
    have rH : sI σ 66 (164 + m) = nI ((psH q).getD m 0) := (h1.2.2.2 66 _ (by omega)).trans (hM.2.2.2.1 m (by omega)).2
    have yes : f m = true → DnS σ q f 5 m := fun hf => by
      rcases h2 with ⟨a, b⟩ | ⟨j, a, b, c, d⟩
      · exact Or.inl ⟨fun i i1 i2 => by
          by_cases e : i = m
          · rw [e]; exact hf
          · exact a i (by omega) i2, b⟩
      · exact Or.inr ⟨j, by omega, b, fun i i1 i2 => by
          by_cases e : i = m
          · rw [e]; exact hf
          · exact c i (by omega) i2, d⟩
    have no : f m = false → DnS (erM σ (5, (psH q).getD m 0)) q f 5 m := fun hf => Or.inr ⟨m, Nat.le_refl _, by omega, fun i i1 i2 => absurd i1 (by omega), hf, (rd_ne (by decide)).trans uI_self, uI_self⟩
    have f2 : FR9 (fun h i => h = 58 ∧ (i = 32 ∨ i = 33)) σ0 (erM σ (5, (psH q).getD m 0)) := (h1.uI ⟨rfl, Or.inl rfl⟩).uI ⟨rfl, Or.inr rfl⟩
    refine q_iload_n dX9_ends_188 rfl rfl ?_
    refine q_if_ltN (tgt := 222) dX9_ends_189 (by decide) (by omega) ?_
    refine q_aload_n dX9_ends_192 rfl rfl rfl ?_
    refine q_getr (r := 86) dX9_ends_193 fX9_141 rfl (ty_c (SK.fq h1 hS) (by decide) rfl) ((SK.fq h1 hS).2 58 42 86 rfl) ?_
    refine q_iload_n dX9_ends_196 rfl rfl ?_
    refine q_zald (x := bi (f m)) (j := m) dX9_ends_197 (ty_c (SK.fq h1 hS) (by decide) rfl) (ix_n (by omega) (by omega)) r86 ?_
    refine q_if_neB (tgt := 216) dX9_ends_198 (by decide) (fun c198 => ?_) (fun c198 => ?_)
    · skip
      refine q_iinc (v := dn m) dX9_ends_216 rfl (dn_inc m) (by decide) (ls' := [(2, .int (dn m)), (0, .ref 58)]) rfl ?_
      refine q_goto (tgt := 188) dX9_ends_219 (by decide) ?_
      refine q_pk [1, 0] (ls' := [(0, .ref 58), (2, .int (dn m))]) rfl ?_
      first | exact ih _ (by omega) h1 (yes (by assumption)) | exact ih _ (by omega) f2 (no (by assumption))
    · skip
      refine q_aload_n dX9_ends_201 rfl rfl rfl ?_
      refine q_iconst (v := nI 5) dX9_ends_202 rfl ?_
      refine q_aload_n dX9_ends_203 rfl rfl rfl ?_
      refine q_getr (r := 66) dX9_ends_204 fX9_55 rfl (ty_c (SK.fq h1 hS) (by decide) rfl) ((SK.fq h1 hS).2 58 14 66 rfl) ?_
      refine q_sipush (v := nI 164) dX9_ends_207 rfl ?_
      refine q_iload_n dX9_ends_210 rfl rfl ?_
      refine q_iaddN dX9_ends_211 ?_
      refine q_iald (x := nI ((psH q).getD m 0)) (j := (164 + m)) dX9_ends_212 (ty_c (SK.fq h1 hS) (by decide) rfl) (ix_n (by omega) (by omega)) rH ?_
      refine q_callV (As := [.int (nI 5), .int (nI ((psH q).getD m 0))]) (rest := []) dX9_ends_213 vX9_319 (ty_c (SK.fq h1 hS) (by decide) rfl) ⟨by decide, rfl⟩ (z9_fault (SK.fq h1 hS)) rfl rfl (Nat.le_of_ble_eq_true rfl) (by omega) (by omega) (by omega) (k_s ?_)
      refine q_iinc (v := dn m) dX9_ends_216 rfl (dn_inc m) (by decide) (ls' := [(2, .int (dn m)), (0, .ref 58)]) rfl ?_
      refine q_goto (tgt := 188) dX9_ends_219 (by decide) ?_
      refine q_pk [1, 0] (ls' := [(0, .ref 58), (2, .int (dn m))]) rfl ?_
      first | exact ih _ (by omega) h1 (yes (by assumption)) | exact ih _ (by omega) f2 (no (by assumption))
/-- rounds back -/
theorem y9_en284 (hM : MPS σ0 q) (hS : SK σ0) (hc : BC q) (hw : WFs q) (hB : NB q) {f : Nat → Bool} (K : ∀ σ', FR9 rcq σ0 σ' → RCH σ' (psF q).length (rnB q f (psF q).length).1 → WA g mX9_ends 2 0 0 Z 0 0 276 [(0, .ref 58), (1, .int (bi (rnB q f (psF q).length).2))] [] σ') : ∀ (k j : Nat) (σ : HS), j + k = (psF q).length → FR9 rcq σ0 σ → RCH σ (psF q).length (rnB q f j).1 → WA g mX9_ends 2 0 0 Z 0 0 284 [(0, .ref 58), (1, .int (bi (rnB q f j).2)), (2, .int (nI j))] [] σ := by
  have hN := hc.2.1
  intro k
  induction k with
  | zero =>
    intro j σ hj h1 hR
    have m1 := (hM.rc h1).1
    have ej : j = (psF q).length := by omega
    rw [ej] at hR ⊢
    refine q_iload_n dX9_ends_284 rfl rfl ?_
    refine q_aload_n dX9_ends_285 rfl rfl rfl ?_
    refine q_getr (r := 61) dX9_ends_286 fX9_40 rfl (ty_c (SK.fq h1 hS) (by decide) rfl) ((SK.fq h1 hS).2 58 9 61 rfl) ?_
    refine q_iconst (v := nI 4) dX9_ends_289 rfl ?_
    refine q_iald (x := nI ((psF q).length)) (j := 4) dX9_ends_290 (ty_c (SK.fq h1 hS) (by decide) rfl) (ix_n (by omega) (by omega)) m1 ?_
    refine q_icmp_geN (tgt := 385) dX9_ends_291 (by decide) (by omega) (by omega) (fun c291 => ?_) (fun c291 => ?_)
    · skip
      refine q_goto (tgt := 276) dX9_ends_385 (by decide) ?_
      refine q_pk [0, 1] (ls' := [(0, .ref 58), (1, .int (bi ((rnB q f (psF q).length).2)))]) rfl ?_
      exact K σ h1 hR
    · exact absurd c291 (by omega)
  | succ k ih =>
    intro j σ hj h1 hR
    have hMs := hM.rc h1
    have m1 := hMs.1
    obtain ⟨-, r1, r2⟩ := men_r hMs hc hw (j := j) (by omega)
    have h0 := hR j (by omega)
    have hnf := (end_w hc hw (j := j) (by omega)).2.1
    have st : ∀ x, stpB q j (rnB q f j) = x → rnB q f (j + 1) = x := fun x h => h
    have ff : ∀ v : Bool, rnB q f (j + 1) = ((rnB q f (j + 1)).1, v) → (rnB q f (j + 1)).2 = v := fun v h => by rw [h]
    have no : ((lvo (rnB q f j).1 (wy q 0 j) || lvo (rnB q f j).1 (wy q 1 j)) = true → (rnB q f j).1 j = true) → rnB q f (j + 1) = rnB q f j := fun h => if_neg fun z => by rw [h z.1] at z; cases z.2
    have yes : (lvo (rnB q f j).1 (wy q 0 j) || lvo (rnB q f j).1 (wy q 1 j)) = true → (rnB q f j).1 j = false → rnB q f (j + 1) = (mkF (rnB q f j).1 (some j), true) := fun h h' => if_pos ⟨h, h'⟩
    have kN : rnB q f (j + 1) = rnB q f j → WA g mX9_ends 2 0 0 Z 0 0 284 [(0, .ref 58), (1, .int (bi (rnB q f j).2)), (2, .int (nI (j + 1)))] [] σ := fun e => by
      have := ih (j + 1) σ (by omega) h1 (by rw [e]; exact hR)
      rw [e] at this; exact this
    have kY : rnB q f (j + 1) = (mkF (rnB q f j).1 (some j), true) → WA g mX9_ends 2 0 0 Z 0 0 284 [(0, .ref 58), (1, .int (nI 1)), (2, .int (nI (j + 1)))] [] (uI σ 86 j (nI 1)) := fun e => by
      have := ih (j + 1) (uI σ 86 j (nI 1)) (by omega) (h1.uI ⟨rfl, rfl⟩) (by
        rw [e]
        intro b hb
        by_cases eb : b = j
        · rw [eb, uI_self]; show nI 1 = bi (mkF (rnB q f j).1 (some j) j); rw [mkF_t.mpr (Or.inr rfl)]; rfl
        · rw [rd_ne eb, hR b hb]
          have : mkF (rnB q f j).1 (some j) b = (rnB q f j).1 b := by show ((rnB q f j).1 b || decide (b = j)) = _; simp [eb]
          show bi ((rnB q f j).1 b) = bi (mkF (rnB q f j).1 (some j) b)
          rw [this])
      rw [e] at this; exact this
    cases e0 : wy q 0 j with
    | none =>
      rw [e0] at r1
      cases e1 : wy q 1 j with
      | none =>
        rw [e1] at r2
        refine q_iload_n dX9_ends_284 rfl rfl ?_
        refine q_aload_n dX9_ends_285 rfl rfl rfl ?_
        refine q_getr (r := 61) dX9_ends_286 fX9_40 rfl (ty_c (SK.fq h1 hS) (by decide) rfl) ((SK.fq h1 hS).2 58 9 61 rfl) ?_
        refine q_iconst (v := nI 4) dX9_ends_289 rfl ?_
        refine q_iald (x := nI ((psF q).length)) (j := 4) dX9_ends_290 (ty_c (SK.fq h1 hS) (by decide) rfl) (ix_n (by omega) (by omega)) m1 ?_
        refine q_icmp_geN (tgt := 385) dX9_ends_291 (by decide) (by omega) (by omega) (fun c291 => ?_) (fun c291 => ?_)
        · exact absurd c291 (by omega)
        · skip
          refine q_aload_n dX9_ends_294 rfl rfl rfl ?_
          refine q_iload_n dX9_ends_295 rfl rfl ?_
          refine q_callV (As := [.int (nI j)]) (rest := []) dX9_ends_296 vX9_322 (ty_c (SK.fq h1 hS) (by decide) rfl) ⟨by decide, rfl⟩ (z9_lastNode (SK.fq h1 hS) hMs hc hw (by omega)) rfl rfl (Nat.le_of_ble_eq_true rfl) (by omega) (by omega) (by omega) (k_p ?_)
          refine q_istore_n dX9_ends_299 rfl (by decide) (ls' := [(3, .int (nI (960 + (nf q (j + 1) - 1)))), (0, .ref 58), (1, .int (bi ((rnB q f j).2))), (2, .int (nI j))]) rfl ?_
          refine q_aload_n dX9_ends_300 rfl rfl rfl ?_
          refine q_getr (r := 71) dX9_ends_301 fX9_70 rfl (ty_c (SK.fq h1 hS) (by decide) rfl) ((SK.fq h1 hS).2 58 19 71 rfl) ?_
          refine q_iload_n dX9_ends_304 rfl rfl ?_
          refine q_iald (x := (-1)) (j := (960 + (nf q (j + 1) - 1))) dX9_ends_305 (ty_c (SK.fq h1 hS) (by decide) rfl) (ix_n (by omega) (by omega)) r1 ?_
          refine q_if_lt1 (tgt := 323) dX9_ends_306 (by decide) (by decide) ?_
          refine q_aload_n dX9_ends_323 rfl rfl rfl ?_
          refine q_getr (r := 72) dX9_ends_324 fX9_73 rfl (ty_c (SK.fq h1 hS) (by decide) rfl) ((SK.fq h1 hS).2 58 20 72 rfl) ?_
          refine q_iload_n dX9_ends_327 rfl rfl ?_
          refine q_iald (x := (-1)) (j := (960 + (nf q (j + 1) - 1))) dX9_ends_328 (ty_c (SK.fq h1 hS) (by decide) rfl) (ix_n (by omega) (by omega)) r2 ?_
          refine q_if_lt1 (tgt := 350) dX9_ends_329 (by decide) (by decide) ?_
          refine q_iconst (v := nI 0) dX9_ends_350 rfl ?_
          refine q_istore dX9_ends_351 (by decide) (ls' := [(4, .int (nI 0)), (3, .int (nI (960 + (nf q (j + 1) - 1)))), (0, .ref 58), (1, .int (bi ((rnB q f j).2))), (2, .int (nI j))]) rfl ?_
          refine q_iload dX9_ends_353 rfl ?_
          refine q_if_eqN (tgt := 379) dX9_ends_355 (by decide) (by omega) (fun _ => ?_) (fun h => absurd h (by decide))
          refine q_iincN (c := 1) dX9_ends_379 rfl (by decide) rfl (ls' := [(2, .int (nI (j + 1))), (4, .int (nI 0)), (3, .int (nI (960 + (nf q (j + 1) - 1)))), (0, .ref 58), (1, .int (bi ((rnB q f j).2)))]) rfl ?_
          refine q_goto (tgt := 284) dX9_ends_382 (by decide) ?_
          refine q_pk [3, 4, 0] (ls' := [(0, .ref 58), (1, .int (bi ((rnB q f j).2))), (2, .int (nI (j + 1)))]) rfl ?_
          exact kN (no (by rw [e0, e1]; exact fun z => by cases z))
      | some v1 =>
        rw [e1] at r2
        have hv1 := NB_lt hB (j := j) (by omega) (Or.inr e1)
        have f1 := hR v1 hv1
        refine q_iload_n dX9_ends_284 rfl rfl ?_
        refine q_aload_n dX9_ends_285 rfl rfl rfl ?_
        refine q_getr (r := 61) dX9_ends_286 fX9_40 rfl (ty_c (SK.fq h1 hS) (by decide) rfl) ((SK.fq h1 hS).2 58 9 61 rfl) ?_
        refine q_iconst (v := nI 4) dX9_ends_289 rfl ?_
        refine q_iald (x := nI ((psF q).length)) (j := 4) dX9_ends_290 (ty_c (SK.fq h1 hS) (by decide) rfl) (ix_n (by omega) (by omega)) m1 ?_
        refine q_icmp_geN (tgt := 385) dX9_ends_291 (by decide) (by omega) (by omega) (fun c291 => ?_) (fun c291 => ?_)
        · exact absurd c291 (by omega)
        · skip
          refine q_aload_n dX9_ends_294 rfl rfl rfl ?_
          refine q_iload_n dX9_ends_295 rfl rfl ?_
          refine q_callV (As := [.int (nI j)]) (rest := []) dX9_ends_296 vX9_322 (ty_c (SK.fq h1 hS) (by decide) rfl) ⟨by decide, rfl⟩ (z9_lastNode (SK.fq h1 hS) hMs hc hw (by omega)) rfl rfl (Nat.le_of_ble_eq_true rfl) (by omega) (by omega) (by omega) (k_p ?_)
          refine q_istore_n dX9_ends_299 rfl (by decide) (ls' := [(3, .int (nI (960 + (nf q (j + 1) - 1)))), (0, .ref 58), (1, .int (bi ((rnB q f j).2))), (2, .int (nI j))]) rfl ?_
          refine q_aload_n dX9_ends_300 rfl rfl rfl ?_
          refine q_getr (r := 71) dX9_ends_301 fX9_70 rfl (ty_c (SK.fq h1 hS) (by decide) rfl) ((SK.fq h1 hS).2 58 19 71 rfl) ?_
          refine q_iload_n dX9_ends_304 rfl rfl ?_
          refine q_iald (x := (-1)) (j := (960 + (nf q (j + 1) - 1))) dX9_ends_305 (ty_c (SK.fq h1 hS) (by decide) rfl) (ix_n (by omega) (by omega)) r1 ?_
          refine q_if_lt1 (tgt := 323) dX9_ends_306 (by decide) (by decide) ?_
          refine q_aload_n dX9_ends_323 rfl rfl rfl ?_
          refine q_getr (r := 72) dX9_ends_324 fX9_73 rfl (ty_c (SK.fq h1 hS) (by decide) rfl) ((SK.fq h1 hS).2 58 20 72 rfl) ?_
          refine q_iload_n dX9_ends_327 rfl rfl ?_
          refine q_iald (x := nI v1) (j := (960 + (nf q (j + 1) - 1))) dX9_ends_328 (ty_c (SK.fq h1 hS) (by decide) rfl) (ix_n (by omega) (by omega)) r2 ?_
          refine q_if_ltN (tgt := 350) dX9_ends_329 (by decide) (by omega) ?_
          refine q_aload_n dX9_ends_332 rfl rfl rfl ?_
          refine q_getr (r := 86) dX9_ends_333 fX9_141 rfl (ty_c (SK.fq h1 hS) (by decide) rfl) ((SK.fq h1 hS).2 58 42 86 rfl) ?_
          refine q_aload_n dX9_ends_336 rfl rfl rfl ?_
          refine q_getr (r := 72) dX9_ends_337 fX9_73 rfl (ty_c (SK.fq h1 hS) (by decide) rfl) ((SK.fq h1 hS).2 58 20 72 rfl) ?_
          refine q_iload_n dX9_ends_340 rfl rfl ?_
          refine q_iald (x := nI v1) (j := (960 + (nf q (j + 1) - 1))) dX9_ends_341 (ty_c (SK.fq h1 hS) (by decide) rfl) (ix_n (by omega) (by omega)) r2 ?_
          refine q_zald (x := bi ((rnB q f j).1 v1)) (j := v1) dX9_ends_342 (ty_c (SK.fq h1 hS) (by decide) rfl) (ix_n (by omega) (by omega)) f1 ?_
          refine q_if_eqB (tgt := 350) dX9_ends_343 (by decide) (fun c343 => ?_) (fun c343 => ?_)
          · skip
            refine q_iconst (v := nI 0) dX9_ends_350 rfl ?_
            refine q_istore dX9_ends_351 (by decide) (ls' := [(4, .int (nI 0)), (3, .int (nI (960 + (nf q (j + 1) - 1)))), (0, .ref 58), (1, .int (bi ((rnB q f j).2))), (2, .int (nI j))]) rfl ?_
            refine q_iload dX9_ends_353 rfl ?_
            refine q_if_eqN (tgt := 379) dX9_ends_355 (by decide) (by omega) (fun _ => ?_) (fun h => absurd h (by decide))
            refine q_iincN (c := 1) dX9_ends_379 rfl (by decide) rfl (ls' := [(2, .int (nI (j + 1))), (4, .int (nI 0)), (3, .int (nI (960 + (nf q (j + 1) - 1)))), (0, .ref 58), (1, .int (bi ((rnB q f j).2)))]) rfl ?_
            refine q_goto (tgt := 284) dX9_ends_382 (by decide) ?_
            refine q_pk [3, 4, 0] (ls' := [(0, .ref 58), (1, .int (bi ((rnB q f j).2))), (2, .int (nI (j + 1)))]) rfl ?_
            first | exact kY (yes (by rw [e0, e1]; exact c343) c364) | exact kN (no (fun _ => c364)) | exact kN (no (by rw [e0, e1]; intro z; exact absurd (c343.symm.trans z) (by decide)))
          · skip
            refine q_iconst (v := nI 1) dX9_ends_346 rfl ?_
            refine q_goto (tgt := 351) dX9_ends_347 (by decide) ?_
            refine q_istore dX9_ends_351 (by decide) (ls' := [(4, .int (nI 1)), (3, .int (nI (960 + (nf q (j + 1) - 1)))), (0, .ref 58), (1, .int (bi ((rnB q f j).2))), (2, .int (nI j))]) rfl ?_
            refine q_iload dX9_ends_353 rfl ?_
            refine q_if_eqN (tgt := 379) dX9_ends_355 (by decide) (by omega) (fun h => absurd h (by decide)) (fun _ => ?_)
            refine q_aload_n dX9_ends_358 rfl rfl rfl ?_
            refine q_getr (r := 86) dX9_ends_359 fX9_141 rfl (ty_c (SK.fq h1 hS) (by decide) rfl) ((SK.fq h1 hS).2 58 42 86 rfl) ?_
            refine q_iload_n dX9_ends_362 rfl rfl ?_
            refine q_zald (x := bi ((rnB q f j).1 j)) (j := j) dX9_ends_363 (ty_c (SK.fq h1 hS) (by decide) rfl) (ix_n (by omega) (by omega)) h0 ?_
            refine q_if_eqB (tgt := 370) dX9_ends_364 (by decide) (fun c364 => ?_) (fun c364 => ?_)
            · skip
              refine q_aload_n dX9_ends_370 rfl rfl rfl ?_
              refine q_getr (r := 86) dX9_ends_371 fX9_141 rfl (ty_c (SK.fq h1 hS) (by decide) rfl) ((SK.fq h1 hS).2 58 42 86 rfl) ?_
              refine q_iload_n dX9_ends_374 rfl rfl ?_
              refine q_iconst (v := nI 1) dX9_ends_375 rfl ?_
              refine q_zast (j := j) dX9_ends_376 (ty_c (SK.fq h1 hS) (by decide) rfl) (ix_n (by omega) (by omega)) (Or.inr rfl) ?_
              refine q_iconst (v := nI 1) dX9_ends_377 rfl ?_
              refine q_istore_n dX9_ends_378 rfl (by decide) (ls' := [(1, .int (nI 1)), (4, .int (nI 1)), (3, .int (nI (960 + (nf q (j + 1) - 1)))), (0, .ref 58), (2, .int (nI j))]) rfl ?_
              refine q_iincN (c := 1) dX9_ends_379 rfl (by decide) rfl (ls' := [(2, .int (nI (j + 1))), (1, .int (nI 1)), (4, .int (nI 1)), (3, .int (nI (960 + (nf q (j + 1) - 1)))), (0, .ref 58)]) rfl ?_
              refine q_goto (tgt := 284) dX9_ends_382 (by decide) ?_
              refine q_pk [4, 1, 0] (ls' := [(0, .ref 58), (1, .int (nI 1)), (2, .int (nI (j + 1)))]) rfl ?_
              first | exact kY (yes (by rw [e0, e1]; exact c343) c364) | exact kN (no (fun _ => c364)) | exact kN (no (by rw [e0, e1]; intro z; exact absurd (c343.symm.trans z) (by decide)))
            · skip
              refine q_goto (tgt := 379) dX9_ends_367 (by decide) ?_
              refine q_iincN (c := 1) dX9_ends_379 rfl (by decide) rfl (ls' := [(2, .int (nI (j + 1))), (4, .int (nI 1)), (3, .int (nI (960 + (nf q (j + 1) - 1)))), (0, .ref 58), (1, .int (bi ((rnB q f j).2)))]) rfl ?_
              refine q_goto (tgt := 284) dX9_ends_382 (by decide) ?_
              refine q_pk [3, 4, 0] (ls' := [(0, .ref 58), (1, .int (bi ((rnB q f j).2))), (2, .int (nI (j + 1)))]) rfl ?_
              first | exact kY (yes (by rw [e0, e1]; exact c343) c364) | exact kN (no (fun _ => c364)) | exact kN (no (by rw [e0, e1]; intro z; exact absurd (c343.symm.trans z) (by decide)))
    | some v0 =>
      rw [e0] at r1
      have hv0 := NB_lt hB (j := j) (by omega) (Or.inl e0)
      have f0 := hR v0 hv0
      cases e1 : wy q 1 j with
      | none =>
        rw [e1] at r2
        refine q_iload_n dX9_ends_284 rfl rfl ?_
        refine q_aload_n dX9_ends_285 rfl rfl rfl ?_
        refine q_getr (r := 61) dX9_ends_286 fX9_40 rfl (ty_c (SK.fq h1 hS) (by decide) rfl) ((SK.fq h1 hS).2 58 9 61 rfl) ?_
        refine q_iconst (v := nI 4) dX9_ends_289 rfl ?_
        refine q_iald (x := nI ((psF q).length)) (j := 4) dX9_ends_290 (ty_c (SK.fq h1 hS) (by decide) rfl) (ix_n (by omega) (by omega)) m1 ?_
        refine q_icmp_geN (tgt := 385) dX9_ends_291 (by decide) (by omega) (by omega) (fun c291 => ?_) (fun c291 => ?_)
        · exact absurd c291 (by omega)
        · skip
          refine q_aload_n dX9_ends_294 rfl rfl rfl ?_
          refine q_iload_n dX9_ends_295 rfl rfl ?_
          refine q_callV (As := [.int (nI j)]) (rest := []) dX9_ends_296 vX9_322 (ty_c (SK.fq h1 hS) (by decide) rfl) ⟨by decide, rfl⟩ (z9_lastNode (SK.fq h1 hS) hMs hc hw (by omega)) rfl rfl (Nat.le_of_ble_eq_true rfl) (by omega) (by omega) (by omega) (k_p ?_)
          refine q_istore_n dX9_ends_299 rfl (by decide) (ls' := [(3, .int (nI (960 + (nf q (j + 1) - 1)))), (0, .ref 58), (1, .int (bi ((rnB q f j).2))), (2, .int (nI j))]) rfl ?_
          refine q_aload_n dX9_ends_300 rfl rfl rfl ?_
          refine q_getr (r := 71) dX9_ends_301 fX9_70 rfl (ty_c (SK.fq h1 hS) (by decide) rfl) ((SK.fq h1 hS).2 58 19 71 rfl) ?_
          refine q_iload_n dX9_ends_304 rfl rfl ?_
          refine q_iald (x := nI v0) (j := (960 + (nf q (j + 1) - 1))) dX9_ends_305 (ty_c (SK.fq h1 hS) (by decide) rfl) (ix_n (by omega) (by omega)) r1 ?_
          refine q_if_ltN (tgt := 323) dX9_ends_306 (by decide) (by omega) ?_
          refine q_aload_n dX9_ends_309 rfl rfl rfl ?_
          refine q_getr (r := 86) dX9_ends_310 fX9_141 rfl (ty_c (SK.fq h1 hS) (by decide) rfl) ((SK.fq h1 hS).2 58 42 86 rfl) ?_
          refine q_aload_n dX9_ends_313 rfl rfl rfl ?_
          refine q_getr (r := 71) dX9_ends_314 fX9_70 rfl (ty_c (SK.fq h1 hS) (by decide) rfl) ((SK.fq h1 hS).2 58 19 71 rfl) ?_
          refine q_iload_n dX9_ends_317 rfl rfl ?_
          refine q_iald (x := nI v0) (j := (960 + (nf q (j + 1) - 1))) dX9_ends_318 (ty_c (SK.fq h1 hS) (by decide) rfl) (ix_n (by omega) (by omega)) r1 ?_
          refine q_zald (x := bi ((rnB q f j).1 v0)) (j := v0) dX9_ends_319 (ty_c (SK.fq h1 hS) (by decide) rfl) (ix_n (by omega) (by omega)) f0 ?_
          refine q_if_neB (tgt := 346) dX9_ends_320 (by decide) (fun c320 => ?_) (fun c320 => ?_)
          · skip
            refine q_iconst (v := nI 1) dX9_ends_346 rfl ?_
            refine q_goto (tgt := 351) dX9_ends_347 (by decide) ?_
            refine q_istore dX9_ends_351 (by decide) (ls' := [(4, .int (nI 1)), (3, .int (nI (960 + (nf q (j + 1) - 1)))), (0, .ref 58), (1, .int (bi ((rnB q f j).2))), (2, .int (nI j))]) rfl ?_
            refine q_iload dX9_ends_353 rfl ?_
            refine q_if_eqN (tgt := 379) dX9_ends_355 (by decide) (by omega) (fun h => absurd h (by decide)) (fun _ => ?_)
            refine q_aload_n dX9_ends_358 rfl rfl rfl ?_
            refine q_getr (r := 86) dX9_ends_359 fX9_141 rfl (ty_c (SK.fq h1 hS) (by decide) rfl) ((SK.fq h1 hS).2 58 42 86 rfl) ?_
            refine q_iload_n dX9_ends_362 rfl rfl ?_
            refine q_zald (x := bi ((rnB q f j).1 j)) (j := j) dX9_ends_363 (ty_c (SK.fq h1 hS) (by decide) rfl) (ix_n (by omega) (by omega)) h0 ?_
            refine q_if_eqB (tgt := 370) dX9_ends_364 (by decide) (fun c364 => ?_) (fun c364 => ?_)
            · skip
              refine q_aload_n dX9_ends_370 rfl rfl rfl ?_
              refine q_getr (r := 86) dX9_ends_371 fX9_141 rfl (ty_c (SK.fq h1 hS) (by decide) rfl) ((SK.fq h1 hS).2 58 42 86 rfl) ?_
              refine q_iload_n dX9_ends_374 rfl rfl ?_
              refine q_iconst (v := nI 1) dX9_ends_375 rfl ?_
              refine q_zast (j := j) dX9_ends_376 (ty_c (SK.fq h1 hS) (by decide) rfl) (ix_n (by omega) (by omega)) (Or.inr rfl) ?_
              refine q_iconst (v := nI 1) dX9_ends_377 rfl ?_
              refine q_istore_n dX9_ends_378 rfl (by decide) (ls' := [(1, .int (nI 1)), (4, .int (nI 1)), (3, .int (nI (960 + (nf q (j + 1) - 1)))), (0, .ref 58), (2, .int (nI j))]) rfl ?_
              refine q_iincN (c := 1) dX9_ends_379 rfl (by decide) rfl (ls' := [(2, .int (nI (j + 1))), (1, .int (nI 1)), (4, .int (nI 1)), (3, .int (nI (960 + (nf q (j + 1) - 1)))), (0, .ref 58)]) rfl ?_
              refine q_goto (tgt := 284) dX9_ends_382 (by decide) ?_
              refine q_pk [4, 1, 0] (ls' := [(0, .ref 58), (1, .int (nI 1)), (2, .int (nI (j + 1)))]) rfl ?_
              first | exact kY (yes (by rw [e0, e1, Bool.or_eq_true]; exact Or.inl c320) c364) | exact kN (no (fun _ => c364)) | exact kN (no (by rw [e0, e1]; intro z; rw [show lvo (rnB q f j).1 (some v0) = false from c320] at z; cases z))
            · skip
              refine q_goto (tgt := 379) dX9_ends_367 (by decide) ?_
              refine q_iincN (c := 1) dX9_ends_379 rfl (by decide) rfl (ls' := [(2, .int (nI (j + 1))), (4, .int (nI 1)), (3, .int (nI (960 + (nf q (j + 1) - 1)))), (0, .ref 58), (1, .int (bi ((rnB q f j).2)))]) rfl ?_
              refine q_goto (tgt := 284) dX9_ends_382 (by decide) ?_
              refine q_pk [3, 4, 0] (ls' := [(0, .ref 58), (1, .int (bi ((rnB q f j).2))), (2, .int (nI (j + 1)))]) rfl ?_
              first | exact kY (yes (by rw [e0, e1, Bool.or_eq_true]; exact Or.inl c320) c364) | exact kN (no (fun _ => c364)) | exact kN (no (by rw [e0, e1]; intro z; rw [show lvo (rnB q f j).1 (some v0) = false from c320] at z; cases z))
          · skip
            refine q_aload_n dX9_ends_323 rfl rfl rfl ?_
            refine q_getr (r := 72) dX9_ends_324 fX9_73 rfl (ty_c (SK.fq h1 hS) (by decide) rfl) ((SK.fq h1 hS).2 58 20 72 rfl) ?_
            refine q_iload_n dX9_ends_327 rfl rfl ?_
            refine q_iald (x := (-1)) (j := (960 + (nf q (j + 1) - 1))) dX9_ends_328 (ty_c (SK.fq h1 hS) (by decide) rfl) (ix_n (by omega) (by omega)) r2 ?_
            refine q_if_lt1 (tgt := 350) dX9_ends_329 (by decide) (by decide) ?_
            refine q_iconst (v := nI 0) dX9_ends_350 rfl ?_
            refine q_istore dX9_ends_351 (by decide) (ls' := [(4, .int (nI 0)), (3, .int (nI (960 + (nf q (j + 1) - 1)))), (0, .ref 58), (1, .int (bi ((rnB q f j).2))), (2, .int (nI j))]) rfl ?_
            refine q_iload dX9_ends_353 rfl ?_
            refine q_if_eqN (tgt := 379) dX9_ends_355 (by decide) (by omega) (fun _ => ?_) (fun h => absurd h (by decide))
            refine q_iincN (c := 1) dX9_ends_379 rfl (by decide) rfl (ls' := [(2, .int (nI (j + 1))), (4, .int (nI 0)), (3, .int (nI (960 + (nf q (j + 1) - 1)))), (0, .ref 58), (1, .int (bi ((rnB q f j).2)))]) rfl ?_
            refine q_goto (tgt := 284) dX9_ends_382 (by decide) ?_
            refine q_pk [3, 4, 0] (ls' := [(0, .ref 58), (1, .int (bi ((rnB q f j).2))), (2, .int (nI (j + 1)))]) rfl ?_
            first | exact kY (yes (by rw [e0, e1, Bool.or_eq_true]; exact Or.inl c320) c364) | exact kN (no (fun _ => c364)) | exact kN (no (by rw [e0, e1]; intro z; rw [show lvo (rnB q f j).1 (some v0) = false from c320] at z; cases z))
      | some v1 =>
        rw [e1] at r2
        have hv1 := NB_lt hB (j := j) (by omega) (Or.inr e1)
        have f1 := hR v1 hv1
        refine q_iload_n dX9_ends_284 rfl rfl ?_
        refine q_aload_n dX9_ends_285 rfl rfl rfl ?_
        refine q_getr (r := 61) dX9_ends_286 fX9_40 rfl (ty_c (SK.fq h1 hS) (by decide) rfl) ((SK.fq h1 hS).2 58 9 61 rfl) ?_
        refine q_iconst (v := nI 4) dX9_ends_289 rfl ?_
        refine q_iald (x := nI ((psF q).length)) (j := 4) dX9_ends_290 (ty_c (SK.fq h1 hS) (by decide) rfl) (ix_n (by omega) (by omega)) m1 ?_
        refine q_icmp_geN (tgt := 385) dX9_ends_291 (by decide) (by omega) (by omega) (fun c291 => ?_) (fun c291 => ?_)
        · exact absurd c291 (by omega)
        · skip
          refine q_aload_n dX9_ends_294 rfl rfl rfl ?_
          refine q_iload_n dX9_ends_295 rfl rfl ?_
          refine q_callV (As := [.int (nI j)]) (rest := []) dX9_ends_296 vX9_322 (ty_c (SK.fq h1 hS) (by decide) rfl) ⟨by decide, rfl⟩ (z9_lastNode (SK.fq h1 hS) hMs hc hw (by omega)) rfl rfl (Nat.le_of_ble_eq_true rfl) (by omega) (by omega) (by omega) (k_p ?_)
          refine q_istore_n dX9_ends_299 rfl (by decide) (ls' := [(3, .int (nI (960 + (nf q (j + 1) - 1)))), (0, .ref 58), (1, .int (bi ((rnB q f j).2))), (2, .int (nI j))]) rfl ?_
          refine q_aload_n dX9_ends_300 rfl rfl rfl ?_
          refine q_getr (r := 71) dX9_ends_301 fX9_70 rfl (ty_c (SK.fq h1 hS) (by decide) rfl) ((SK.fq h1 hS).2 58 19 71 rfl) ?_
          refine q_iload_n dX9_ends_304 rfl rfl ?_
          refine q_iald (x := nI v0) (j := (960 + (nf q (j + 1) - 1))) dX9_ends_305 (ty_c (SK.fq h1 hS) (by decide) rfl) (ix_n (by omega) (by omega)) r1 ?_
          refine q_if_ltN (tgt := 323) dX9_ends_306 (by decide) (by omega) ?_
          refine q_aload_n dX9_ends_309 rfl rfl rfl ?_
          refine q_getr (r := 86) dX9_ends_310 fX9_141 rfl (ty_c (SK.fq h1 hS) (by decide) rfl) ((SK.fq h1 hS).2 58 42 86 rfl) ?_
          refine q_aload_n dX9_ends_313 rfl rfl rfl ?_
          refine q_getr (r := 71) dX9_ends_314 fX9_70 rfl (ty_c (SK.fq h1 hS) (by decide) rfl) ((SK.fq h1 hS).2 58 19 71 rfl) ?_
          refine q_iload_n dX9_ends_317 rfl rfl ?_
          refine q_iald (x := nI v0) (j := (960 + (nf q (j + 1) - 1))) dX9_ends_318 (ty_c (SK.fq h1 hS) (by decide) rfl) (ix_n (by omega) (by omega)) r1 ?_
          refine q_zald (x := bi ((rnB q f j).1 v0)) (j := v0) dX9_ends_319 (ty_c (SK.fq h1 hS) (by decide) rfl) (ix_n (by omega) (by omega)) f0 ?_
          refine q_if_neB (tgt := 346) dX9_ends_320 (by decide) (fun c320 => ?_) (fun c320 => ?_)
          · skip
            refine q_iconst (v := nI 1) dX9_ends_346 rfl ?_
            refine q_goto (tgt := 351) dX9_ends_347 (by decide) ?_
            refine q_istore dX9_ends_351 (by decide) (ls' := [(4, .int (nI 1)), (3, .int (nI (960 + (nf q (j + 1) - 1)))), (0, .ref 58), (1, .int (bi ((rnB q f j).2))), (2, .int (nI j))]) rfl ?_
            refine q_iload dX9_ends_353 rfl ?_
            refine q_if_eqN (tgt := 379) dX9_ends_355 (by decide) (by omega) (fun h => absurd h (by decide)) (fun _ => ?_)
            refine q_aload_n dX9_ends_358 rfl rfl rfl ?_
            refine q_getr (r := 86) dX9_ends_359 fX9_141 rfl (ty_c (SK.fq h1 hS) (by decide) rfl) ((SK.fq h1 hS).2 58 42 86 rfl) ?_
            refine q_iload_n dX9_ends_362 rfl rfl ?_
            refine q_zald (x := bi ((rnB q f j).1 j)) (j := j) dX9_ends_363 (ty_c (SK.fq h1 hS) (by decide) rfl) (ix_n (by omega) (by omega)) h0 ?_
            refine q_if_eqB (tgt := 370) dX9_ends_364 (by decide) (fun c364 => ?_) (fun c364 => ?_)
            · skip
              refine q_aload_n dX9_ends_370 rfl rfl rfl ?_
              refine q_getr (r := 86) dX9_ends_371 fX9_141 rfl (ty_c (SK.fq h1 hS) (by decide) rfl) ((SK.fq h1 hS).2 58 42 86 rfl) ?_
              refine q_iload_n dX9_ends_374 rfl rfl ?_
              refine q_iconst (v := nI 1) dX9_ends_375 rfl ?_
              refine q_zast (j := j) dX9_ends_376 (ty_c (SK.fq h1 hS) (by decide) rfl) (ix_n (by omega) (by omega)) (Or.inr rfl) ?_
              refine q_iconst (v := nI 1) dX9_ends_377 rfl ?_
              refine q_istore_n dX9_ends_378 rfl (by decide) (ls' := [(1, .int (nI 1)), (4, .int (nI 1)), (3, .int (nI (960 + (nf q (j + 1) - 1)))), (0, .ref 58), (2, .int (nI j))]) rfl ?_
              refine q_iincN (c := 1) dX9_ends_379 rfl (by decide) rfl (ls' := [(2, .int (nI (j + 1))), (1, .int (nI 1)), (4, .int (nI 1)), (3, .int (nI (960 + (nf q (j + 1) - 1)))), (0, .ref 58)]) rfl ?_
              refine q_goto (tgt := 284) dX9_ends_382 (by decide) ?_
              refine q_pk [4, 1, 0] (ls' := [(0, .ref 58), (1, .int (nI 1)), (2, .int (nI (j + 1)))]) rfl ?_
              first | exact kY (yes (by rw [e0, e1, Bool.or_eq_true]; exact Or.inl c320) c364) | exact kY (yes (by rw [e0, e1, Bool.or_eq_true]; exact Or.inr c343) c364) | exact kN (no (fun _ => c364)) | exact kN (no (by rw [e0, e1]; intro z; rw [show lvo (rnB q f j).1 (some v0) = false from c320, show lvo (rnB q f j).1 (some v1) = false from c343] at z; cases z))
            · skip
              refine q_goto (tgt := 379) dX9_ends_367 (by decide) ?_
              refine q_iincN (c := 1) dX9_ends_379 rfl (by decide) rfl (ls' := [(2, .int (nI (j + 1))), (4, .int (nI 1)), (3, .int (nI (960 + (nf q (j + 1) - 1)))), (0, .ref 58), (1, .int (bi ((rnB q f j).2)))]) rfl ?_
              refine q_goto (tgt := 284) dX9_ends_382 (by decide) ?_
              refine q_pk [3, 4, 0] (ls' := [(0, .ref 58), (1, .int (bi ((rnB q f j).2))), (2, .int (nI (j + 1)))]) rfl ?_
              first | exact kY (yes (by rw [e0, e1, Bool.or_eq_true]; exact Or.inl c320) c364) | exact kY (yes (by rw [e0, e1, Bool.or_eq_true]; exact Or.inr c343) c364) | exact kN (no (fun _ => c364)) | exact kN (no (by rw [e0, e1]; intro z; rw [show lvo (rnB q f j).1 (some v0) = false from c320, show lvo (rnB q f j).1 (some v1) = false from c343] at z; cases z))
          · skip
            refine q_aload_n dX9_ends_323 rfl rfl rfl ?_
            refine q_getr (r := 72) dX9_ends_324 fX9_73 rfl (ty_c (SK.fq h1 hS) (by decide) rfl) ((SK.fq h1 hS).2 58 20 72 rfl) ?_
            refine q_iload_n dX9_ends_327 rfl rfl ?_
            refine q_iald (x := nI v1) (j := (960 + (nf q (j + 1) - 1))) dX9_ends_328 (ty_c (SK.fq h1 hS) (by decide) rfl) (ix_n (by omega) (by omega)) r2 ?_
            refine q_if_ltN (tgt := 350) dX9_ends_329 (by decide) (by omega) ?_
            refine q_aload_n dX9_ends_332 rfl rfl rfl ?_
            refine q_getr (r := 86) dX9_ends_333 fX9_141 rfl (ty_c (SK.fq h1 hS) (by decide) rfl) ((SK.fq h1 hS).2 58 42 86 rfl) ?_
            refine q_aload_n dX9_ends_336 rfl rfl rfl ?_
            refine q_getr (r := 72) dX9_ends_337 fX9_73 rfl (ty_c (SK.fq h1 hS) (by decide) rfl) ((SK.fq h1 hS).2 58 20 72 rfl) ?_
            refine q_iload_n dX9_ends_340 rfl rfl ?_
            refine q_iald (x := nI v1) (j := (960 + (nf q (j + 1) - 1))) dX9_ends_341 (ty_c (SK.fq h1 hS) (by decide) rfl) (ix_n (by omega) (by omega)) r2 ?_
            refine q_zald (x := bi ((rnB q f j).1 v1)) (j := v1) dX9_ends_342 (ty_c (SK.fq h1 hS) (by decide) rfl) (ix_n (by omega) (by omega)) f1 ?_
            refine q_if_eqB (tgt := 350) dX9_ends_343 (by decide) (fun c343 => ?_) (fun c343 => ?_)
            · skip
              refine q_iconst (v := nI 0) dX9_ends_350 rfl ?_
              refine q_istore dX9_ends_351 (by decide) (ls' := [(4, .int (nI 0)), (3, .int (nI (960 + (nf q (j + 1) - 1)))), (0, .ref 58), (1, .int (bi ((rnB q f j).2))), (2, .int (nI j))]) rfl ?_
              refine q_iload dX9_ends_353 rfl ?_
              refine q_if_eqN (tgt := 379) dX9_ends_355 (by decide) (by omega) (fun _ => ?_) (fun h => absurd h (by decide))
              refine q_iincN (c := 1) dX9_ends_379 rfl (by decide) rfl (ls' := [(2, .int (nI (j + 1))), (4, .int (nI 0)), (3, .int (nI (960 + (nf q (j + 1) - 1)))), (0, .ref 58), (1, .int (bi ((rnB q f j).2)))]) rfl ?_
              refine q_goto (tgt := 284) dX9_ends_382 (by decide) ?_
              refine q_pk [3, 4, 0] (ls' := [(0, .ref 58), (1, .int (bi ((rnB q f j).2))), (2, .int (nI (j + 1)))]) rfl ?_
              first | exact kY (yes (by rw [e0, e1, Bool.or_eq_true]; exact Or.inl c320) c364) | exact kY (yes (by rw [e0, e1, Bool.or_eq_true]; exact Or.inr c343) c364) | exact kN (no (fun _ => c364)) | exact kN (no (by rw [e0, e1]; intro z; rw [show lvo (rnB q f j).1 (some v0) = false from c320, show lvo (rnB q f j).1 (some v1) = false from c343] at z; cases z))
            · skip
              refine q_iconst (v := nI 1) dX9_ends_346 rfl ?_
              refine q_goto (tgt := 351) dX9_ends_347 (by decide) ?_
              refine q_istore dX9_ends_351 (by decide) (ls' := [(4, .int (nI 1)), (3, .int (nI (960 + (nf q (j + 1) - 1)))), (0, .ref 58), (1, .int (bi ((rnB q f j).2))), (2, .int (nI j))]) rfl ?_
              refine q_iload dX9_ends_353 rfl ?_
              refine q_if_eqN (tgt := 379) dX9_ends_355 (by decide) (by omega) (fun h => absurd h (by decide)) (fun _ => ?_)
              refine q_aload_n dX9_ends_358 rfl rfl rfl ?_
              refine q_getr (r := 86) dX9_ends_359 fX9_141 rfl (ty_c (SK.fq h1 hS) (by decide) rfl) ((SK.fq h1 hS).2 58 42 86 rfl) ?_
              refine q_iload_n dX9_ends_362 rfl rfl ?_
              refine q_zald (x := bi ((rnB q f j).1 j)) (j := j) dX9_ends_363 (ty_c (SK.fq h1 hS) (by decide) rfl) (ix_n (by omega) (by omega)) h0 ?_
              refine q_if_eqB (tgt := 370) dX9_ends_364 (by decide) (fun c364 => ?_) (fun c364 => ?_)
              · skip
                refine q_aload_n dX9_ends_370 rfl rfl rfl ?_
                refine q_getr (r := 86) dX9_ends_371 fX9_141 rfl (ty_c (SK.fq h1 hS) (by decide) rfl) ((SK.fq h1 hS).2 58 42 86 rfl) ?_
                refine q_iload_n dX9_ends_374 rfl rfl ?_
                refine q_iconst (v := nI 1) dX9_ends_375 rfl ?_
                refine q_zast (j := j) dX9_ends_376 (ty_c (SK.fq h1 hS) (by decide) rfl) (ix_n (by omega) (by omega)) (Or.inr rfl) ?_
                refine q_iconst (v := nI 1) dX9_ends_377 rfl ?_
                refine q_istore_n dX9_ends_378 rfl (by decide) (ls' := [(1, .int (nI 1)), (4, .int (nI 1)), (3, .int (nI (960 + (nf q (j + 1) - 1)))), (0, .ref 58), (2, .int (nI j))]) rfl ?_
                refine q_iincN (c := 1) dX9_ends_379 rfl (by decide) rfl (ls' := [(2, .int (nI (j + 1))), (1, .int (nI 1)), (4, .int (nI 1)), (3, .int (nI (960 + (nf q (j + 1) - 1)))), (0, .ref 58)]) rfl ?_
                refine q_goto (tgt := 284) dX9_ends_382 (by decide) ?_
                refine q_pk [4, 1, 0] (ls' := [(0, .ref 58), (1, .int (nI 1)), (2, .int (nI (j + 1)))]) rfl ?_
                first | exact kY (yes (by rw [e0, e1, Bool.or_eq_true]; exact Or.inl c320) c364) | exact kY (yes (by rw [e0, e1, Bool.or_eq_true]; exact Or.inr c343) c364) | exact kN (no (fun _ => c364)) | exact kN (no (by rw [e0, e1]; intro z; rw [show lvo (rnB q f j).1 (some v0) = false from c320, show lvo (rnB q f j).1 (some v1) = false from c343] at z; cases z))
              · skip
                refine q_goto (tgt := 379) dX9_ends_367 (by decide) ?_
                refine q_iincN (c := 1) dX9_ends_379 rfl (by decide) rfl (ls' := [(2, .int (nI (j + 1))), (4, .int (nI 1)), (3, .int (nI (960 + (nf q (j + 1) - 1)))), (0, .ref 58), (1, .int (bi ((rnB q f j).2)))]) rfl ?_
                refine q_goto (tgt := 284) dX9_ends_382 (by decide) ?_
                refine q_pk [3, 4, 0] (ls' := [(0, .ref 58), (1, .int (bi ((rnB q f j).2))), (2, .int (nI (j + 1)))]) rfl ?_
                first | exact kY (yes (by rw [e0, e1, Bool.or_eq_true]; exact Or.inl c320) c364) | exact kY (yes (by rw [e0, e1, Bool.or_eq_true]; exact Or.inr c343) c364) | exact kN (no (fun _ => c364)) | exact kN (no (by rw [e0, e1]; intro z; rw [show lvo (rnB q f j).1 (some v0) = false from c320, show lvo (rnB q f j).1 (some v1) = false from c343] at z; cases z))
theorem y9_en276 (hM : MPS σ0 q) (hS : SK σ0) (hc : BC q) (hw : WFs q) (hB : NB q) (K : ∀ f σ', FR9 rcq σ0 σ' → RCH σ' (psF q).length f → (∀ i, f i = true → Lvs q i) → CLb q f → WA g mX9_ends 2 0 0 Z 0 0 388 [(0, .ref 58)] [] σ') : ∀ (n : Nat) (f : Nat → Bool) (σ : HS), (psF q).length < cnt f (psF q).length + n → FR9 rcq σ0 σ → RCH σ (psF q).length f → (∀ i, f i = true → Lvs q i) → (∀ j, j < (psF q).length → rK (eR q j) = 6 → f j = true) → WA g mX9_ends 2 0 0 Z 0 0 276 [(0, .ref 58), (1, .int (bi true))] [] σ := by
  intro n
  induction n with
  | zero => intro f σ hn; have := cnt_le f (psF q).length; omega
  | succ n ih =>
    intro f σ hn h1 hR hL h6
    have nx : ∀ σ', FR9 rcq σ0 σ' → RCH σ' (psF q).length (rnB q f (psF q).length).1 → WA g mX9_ends 2 0 0 Z 0 0 276 [(0, .ref 58), (1, .int (bi (rnB q f (psF q).length).2))] [] σ' := fun σ' h2 hR2 => by
      cases e : (rnB q f (psF q).length).2 with
      | true =>
        obtain ⟨i, i1, i2, i3⟩ := rnB_yes (q := q) (f := f) _ (Nat.le_refl _) e
        have hlt : cnt f (psF q).length < cnt (rnB q f (psF q).length).1 (psF q).length := cnt_lt (fun i _ hi => rnB_up hi _) ⟨i, i1, i3, by rw [i2]; decide⟩
        exact ih _ σ' (by omega) h2 hR2 (rnB_in hL _) (fun j hj hk => rnB_up (h6 j hj hk) _)
      | false =>
        obtain ⟨i1, i2⟩ := rnB_no (q := q) (f := f) _ e
        rw [i1] at hR2
        have kk := K f σ' h2 hR2 hL (fun j hj hcn => by
          rcases hcn with hcn | hcn
          · exact h6 j hj hcn
          · exact i2 j hj hcn)
        refine q_iload_n dX9_ends_276 rfl rfl ?_
        refine q_if_eqB (tgt := 388) dX9_ends_277 (by decide) (fun _ => ?_) (fun h => absurd h (by decide))
        refine q_pk [0] (ls' := [(0, .ref 58)]) rfl ?_
        exact kk
    refine q_iload_n dX9_ends_276 rfl rfl ?_
    refine q_if_eqB (tgt := 388) dX9_ends_277 (by decide) (fun h => absurd h (by decide)) (fun _ => ?_)
    refine q_iconst (v := nI 0) dX9_ends_280 rfl ?_
    refine q_istore_n dX9_ends_281 rfl (by decide) (ls' := [(1, .int (nI 0)), (0, .ref 58)]) rfl ?_
    refine q_iconst (v := nI 0) dX9_ends_282 rfl ?_
    refine q_istore_n dX9_ends_283 rfl (by decide) (ls' := [(2, .int (nI 0)), (1, .int (nI 0)), (0, .ref 58)]) rfl ?_
    refine q_pk [2, 1, 0] (ls' := [(0, .ref 58), (1, .int (nI 0)), (2, .int (nI 0))]) rfl ?_
    exact y9_en284 (f := f) hM hS hc hw hB nx (psF q).length 0 σ (by omega) h1 hR
/-- rounds forward -/
theorem y9_en109 (hM : MPS σ0 q) (hS : SK σ0) (hc : BC q) (hw : WFs q) (hB : NB q) {f : Nat → Bool} (K : ∀ σ', FR9 rcq σ0 σ' → RCH σ' (psF q).length (rnF q f (psF q).length).1 → WA g mX9_ends 2 0 0 Z 0 0 101 [(0, .ref 58), (1, .int (bi (rnF q f (psF q).length).2))] [] σ') : ∀ (k j : Nat) (σ : HS), j + k = (psF q).length → FR9 rcq σ0 σ → RCH σ (psF q).length (rnF q f j).1 → WA g mX9_ends 2 0 0 Z 0 0 109 [(0, .ref 58), (1, .int (bi (rnF q f j).2)), (2, .int (nI j))] [] σ := by
  have hN := hc.2.1
  intro k
  induction k with
  | zero =>
    intro j σ hj h1 hR
    have m1 := (hM.rc h1).1
    have ej : j = (psF q).length := by omega
    rw [ej] at hR ⊢
    refine q_iload_n dX9_ends_109 rfl rfl ?_
    refine q_aload_n dX9_ends_110 rfl rfl rfl ?_
    refine q_getr (r := 61) dX9_ends_111 fX9_40 rfl (ty_c (SK.fq h1 hS) (by decide) rfl) ((SK.fq h1 hS).2 58 9 61 rfl) ?_
    refine q_iconst (v := nI 4) dX9_ends_114 rfl ?_
    refine q_iald (x := nI ((psF q).length)) (j := 4) dX9_ends_115 (ty_c (SK.fq h1 hS) (by decide) rfl) (ix_n (by omega) (by omega)) m1 ?_
    refine q_icmp_geN (tgt := 176) dX9_ends_116 (by decide) (by omega) (by omega) (fun c116 => ?_) (fun c116 => ?_)
    · skip
      refine q_goto (tgt := 101) dX9_ends_176 (by decide) ?_
      refine q_pk [0, 1] (ls' := [(0, .ref 58), (1, .int (bi ((rnF q f (psF q).length).2)))]) rfl ?_
      exact K σ h1 hR
    · exact absurd c116 (by omega)
  | succ k ih =>
    intro j σ hj h1 hR
    have hMs := hM.rc h1
    have m1 := hMs.1
    have hS1 : SK σ := SK.fq h1 hS
    obtain ⟨-, r1, r2⟩ := men_r hMs hc hw (j := j) (by omega)
    have h0 := hR j (by omega)
    have hnf := (end_w hc hw (j := j) (by omega)).2.1
    have hv0 : ∀ v, wy q 0 j = some v → v < (psF q).length := fun v hv => NB_lt hB (j := j) (by omega) (Or.inl hv)
    have hv1 : ∀ v, wy q 1 j = some v → v < (psF q).length := fun v hv => NB_lt hB (j := j) (by omega) (Or.inr hv)
    cases hf : (rnF q f j).1 j with
    | false =>
      rw [hf] at h0
      have e : rnF q f (j + 1) = rnF q f j := if_neg (by rw [hf]; decide)
      have kN : ∀ m : Bool, (rnF q f j).2 = m → WA g mX9_ends 2 0 0 Z 0 0 109 [(0, .ref 58), (1, .int (bi m)), (2, .int (nI (j + 1)))] [] σ := fun m hm => by
        have := ih (j + 1) σ (by omega) h1 (by rw [e]; exact hR)
        rw [e, hm] at this; exact this
      refine q_iload_n dX9_ends_109 rfl rfl ?_
      refine q_aload_n dX9_ends_110 rfl rfl rfl ?_
      refine q_getr (r := 61) dX9_ends_111 fX9_40 rfl (ty_c hS1 (by decide) rfl) (hS1.2 58 9 61 rfl) ?_
      refine q_iconst (v := nI 4) dX9_ends_114 rfl ?_
      refine q_iald (x := nI ((psF q).length)) (j := 4) dX9_ends_115 (ty_c hS1 (by decide) rfl) (ix_n (by omega) (by omega)) m1 ?_
      refine q_icmp_geN (tgt := 176) dX9_ends_116 (by decide) (by omega) (by omega) (fun c116 => ?_) (fun c116 => ?_)
      · exact absurd c116 (by omega)
      · skip
        refine q_aload_n dX9_ends_119 rfl rfl rfl ?_
        refine q_getr (r := 86) dX9_ends_120 fX9_141 rfl (ty_c hS1 (by decide) rfl) (hS1.2 58 42 86 rfl) ?_
        refine q_iload_n dX9_ends_123 rfl rfl ?_
        refine q_zald (x := bi false) (j := j) dX9_ends_124 (ty_c hS1 (by decide) rfl) (ix_n (by omega) (by omega)) h0 ?_
        refine q_if_eqB (tgt := 160) dX9_ends_125 (by decide) (fun _ => ?_) (fun h => absurd h (by decide))
        refine q_iload_n dX9_ends_160 rfl rfl ?_
        refine q_if_eqB (tgt := 168) dX9_ends_161 (by decide) (fun c161 => ?_) (fun c161 => ?_)
        · skip
          refine q_iconst (v := nI 0) dX9_ends_168 rfl ?_
          refine q_istore_n dX9_ends_169 rfl (by decide) (ls' := [(1, .int (nI 0)), (0, .ref 58), (2, .int (nI j))]) rfl ?_
          refine q_iincN (c := 1) dX9_ends_170 rfl (by decide) rfl (ls' := [(2, .int (nI (j + 1))), (1, .int (nI 0)), (0, .ref 58)]) rfl ?_
          refine q_goto (tgt := 109) dX9_ends_173 (by decide) ?_
          refine q_pk [2, 1, 0] (ls' := [(0, .ref 58), (1, .int (nI 0)), (2, .int (nI (j + 1)))]) rfl ?_
          first | exact kN true c161 | exact kN false c161
        · skip
          refine q_iconst (v := nI 1) dX9_ends_164 rfl ?_
          refine q_goto (tgt := 169) dX9_ends_165 (by decide) ?_
          refine q_istore_n dX9_ends_169 rfl (by decide) (ls' := [(1, .int (nI 1)), (0, .ref 58), (2, .int (nI j))]) rfl ?_
          refine q_iincN (c := 1) dX9_ends_170 rfl (by decide) rfl (ls' := [(2, .int (nI (j + 1))), (1, .int (nI 1)), (0, .ref 58)]) rfl ?_
          refine q_goto (tgt := 109) dX9_ends_173 (by decide) ?_
          refine q_pk [2, 1, 0] (ls' := [(0, .ref 58), (1, .int (nI 1)), (2, .int (nI (j + 1)))]) rfl ?_
          first | exact kN true c161 | exact kN false c161
    | true =>
      rw [hf] at h0
      have e : rnF q f (j + 1) = (mkF (mkF (rnF q f j).1 (wy q 0 j)) (wy q 1 j), (mkB (rnF q f j).1 (wy q 0 j) || mkB (mkF (rnF q f j).1 (wy q 0 j)) (wy q 1 j)) || (rnF q f j).2) := if_pos hf
      have kN : ∀ (m : Bool) (σ' : HS), ((mkB (rnF q f j).1 (wy q 0 j) || mkB (mkF (rnF q f j).1 (wy q 0 j)) (wy q 1 j)) || (rnF q f j).2) = m → FR9 rcq σ σ' → RCH σ' (psF q).length (mkF (mkF (rnF q f j).1 (wy q 0 j)) (wy q 1 j)) → WA g mX9_ends 2 0 0 Z 0 0 109 [(0, .ref 58), (1, .int (bi m)), (2, .int (nI (j + 1)))] [] σ' := fun m σ' hm h2 hR2 => by
        have := ih (j + 1) σ' (by omega) (h1.tr h2) (by rw [e]; exact hR2)
        rw [e] at this
        have h3 : WA g mX9_ends 2 0 0 Z 0 0 109 [(0, .ref 58), (1, .int (bi ((mkB (rnF q f j).1 (wy q 0 j) || mkB (mkF (rnF q f j).1 (wy q 0 j)) (wy q 1 j)) || (rnF q f j).2))), (2, .int (nI (j + 1)))] [] σ' := this
        rw [hm] at h3; exact h3
      refine q_iload_n dX9_ends_109 rfl rfl ?_
      refine q_aload_n dX9_ends_110 rfl rfl rfl ?_
      refine q_getr (r := 61) dX9_ends_111 fX9_40 rfl (ty_c hS1 (by decide) rfl) (hS1.2 58 9 61 rfl) ?_
      refine q_iconst (v := nI 4) dX9_ends_114 rfl ?_
      refine q_iald (x := nI ((psF q).length)) (j := 4) dX9_ends_115 (ty_c hS1 (by decide) rfl) (ix_n (by omega) (by omega)) m1 ?_
      refine q_icmp_geN (tgt := 176) dX9_ends_116 (by decide) (by omega) (by omega) (fun c116 => ?_) (fun c116 => ?_)
      · exact absurd c116 (by omega)
      · skip
        refine q_aload_n dX9_ends_119 rfl rfl rfl ?_
        refine q_getr (r := 86) dX9_ends_120 fX9_141 rfl (ty_c hS1 (by decide) rfl) (hS1.2 58 42 86 rfl) ?_
        refine q_iload_n dX9_ends_123 rfl rfl ?_
        refine q_zald (x := bi true) (j := j) dX9_ends_124 (ty_c hS1 (by decide) rfl) (ix_n (by omega) (by omega)) h0 ?_
        refine q_if_eqB (tgt := 160) dX9_ends_125 (by decide) (fun h => absurd h (by decide)) (fun _ => ?_)
        refine q_aload_n dX9_ends_128 rfl rfl rfl ?_
        refine q_aload_n dX9_ends_129 rfl rfl rfl ?_
        refine q_getr (r := 71) dX9_ends_130 fX9_70 rfl (ty_c hS1 (by decide) rfl) (hS1.2 58 19 71 rfl) ?_
        refine q_aload_n dX9_ends_133 rfl rfl rfl ?_
        refine q_iload_n dX9_ends_134 rfl rfl ?_
        refine q_callV (As := [.int (nI j)]) (rest := [.ref 71, .ref 58]) dX9_ends_135 vX9_322 (ty_c hS1 (by decide) rfl) ⟨by decide, rfl⟩ (z9_lastNode hS1 hMs hc hw (by omega)) rfl rfl (Nat.le_of_ble_eq_true rfl) (by omega) (by omega) (by omega) (k_p ?_)
        refine q_iald (x := oW (wy q 0 j)) (j := (960 + (nf q (j + 1) - 1))) dX9_ends_138 (ty_c hS1 (by decide) rfl) (ix_n (by omega) (by omega)) r1 ?_
        refine q_callV (As := [.int (oW (wy q 0 j))]) (rest := []) dX9_ends_139 vX9_325 (ty_c hS1 (by decide) rfl) ⟨by decide, rfl⟩ (z9_mark hS1 hR hN hv0) rfl rfl (Nat.le_of_ble_eq_true rfl) (by omega) (by omega) (by omega) (k_w (fun s139 q139 => ?_))
        have u2 := (q139.2.2.2.2 72 (960 + (nf q (j + 1) - 1)) (by unfold rcq; omega)).trans r2
        have zS139 : SK s139 := (SK.fq q139.2 hS1)
        refine q_aload_n dX9_ends_142 rfl rfl rfl ?_
        refine q_aload_n dX9_ends_143 rfl rfl rfl ?_
        refine q_getr (r := 72) dX9_ends_144 fX9_73 rfl (ty_c zS139 (by decide) rfl) (zS139.2 58 20 72 rfl) ?_
        refine q_aload_n dX9_ends_147 rfl rfl rfl ?_
        refine q_iload_n dX9_ends_148 rfl rfl ?_
        refine q_callV (As := [.int (nI j)]) (rest := [.ref 72, .ref 58, .int (bi (mkB (rnF q f j).1 (wy q 0 j)))]) dX9_ends_149 vX9_322 (ty_c zS139 (by decide) rfl) ⟨by decide, rfl⟩ (z9_lastNode zS139 (hMs.rc q139.2) hc hw (by omega)) rfl rfl (Nat.le_of_ble_eq_true rfl) (by omega) (by omega) (by omega) (k_p ?_)
        refine q_iald (x := oW (wy q 1 j)) (j := (960 + (nf q (j + 1) - 1))) dX9_ends_152 (ty_c zS139 (by decide) rfl) (ix_n (by omega) (by omega)) u2 ?_
        refine q_callV (As := [.int (oW (wy q 1 j))]) (rest := [.int (bi (mkB (rnF q f j).1 (wy q 0 j)))]) dX9_ends_153 vX9_325 (ty_c zS139 (by decide) rfl) ⟨by decide, rfl⟩ (z9_mark zS139 q139.1 hN hv1) rfl rfl (Nat.le_of_ble_eq_true rfl) (by omega) (by omega) (by omega) (k_w (fun s153 q153 => ?_))
        have zS153 : SK s153 := (SK.fq q153.2 (SK.fq q139.2 hS1))
        refine q_ior dX9_ends_156 ?_
        refine q_top (y := bi (mkB (rnF q f j).1 (wy q 0 j) || mkB (mkF (rnF q f j).1 (wy q 0 j)) (wy q 1 j))) (bi_or2 _ _) ?_
        refine q_if_neB (tgt := 164) dX9_ends_157 (by decide) (fun c157 => ?_) (fun c157 => ?_)
        · skip
          refine q_iconst (v := nI 1) dX9_ends_164 rfl ?_
          refine q_goto (tgt := 169) dX9_ends_165 (by decide) ?_
          refine q_istore_n dX9_ends_169 rfl (by decide) (ls' := [(1, .int (nI 1)), (0, .ref 58), (2, .int (nI j))]) rfl ?_
          refine q_iincN (c := 1) dX9_ends_170 rfl (by decide) rfl (ls' := [(2, .int (nI (j + 1))), (1, .int (nI 1)), (0, .ref 58)]) rfl ?_
          refine q_goto (tgt := 109) dX9_ends_173 (by decide) ?_
          refine q_pk [2, 1, 0] (ls' := [(0, .ref 58), (1, .int (nI 1)), (2, .int (nI (j + 1)))]) rfl ?_
          first | exact kN true _ (by rw [c157]; rfl) (q139.2.tr q153.2) q153.1 | exact kN true _ (by rw [c157, c161]; rfl) (q139.2.tr q153.2) q153.1 | exact kN false _ (by rw [c157, c161]; rfl) (q139.2.tr q153.2) q153.1
        · skip
          refine q_iload_n dX9_ends_160 rfl rfl ?_
          refine q_if_eqB (tgt := 168) dX9_ends_161 (by decide) (fun c161 => ?_) (fun c161 => ?_)
          · skip
            refine q_iconst (v := nI 0) dX9_ends_168 rfl ?_
            refine q_istore_n dX9_ends_169 rfl (by decide) (ls' := [(1, .int (nI 0)), (0, .ref 58), (2, .int (nI j))]) rfl ?_
            refine q_iincN (c := 1) dX9_ends_170 rfl (by decide) rfl (ls' := [(2, .int (nI (j + 1))), (1, .int (nI 0)), (0, .ref 58)]) rfl ?_
            refine q_goto (tgt := 109) dX9_ends_173 (by decide) ?_
            refine q_pk [2, 1, 0] (ls' := [(0, .ref 58), (1, .int (nI 0)), (2, .int (nI (j + 1)))]) rfl ?_
            first | exact kN true _ (by rw [c157]; rfl) (q139.2.tr q153.2) q153.1 | exact kN true _ (by rw [c157, c161]; rfl) (q139.2.tr q153.2) q153.1 | exact kN false _ (by rw [c157, c161]; rfl) (q139.2.tr q153.2) q153.1
          · skip
            refine q_iconst (v := nI 1) dX9_ends_164 rfl ?_
            refine q_goto (tgt := 169) dX9_ends_165 (by decide) ?_
            refine q_istore_n dX9_ends_169 rfl (by decide) (ls' := [(1, .int (nI 1)), (0, .ref 58), (2, .int (nI j))]) rfl ?_
            refine q_iincN (c := 1) dX9_ends_170 rfl (by decide) rfl (ls' := [(2, .int (nI (j + 1))), (1, .int (nI 1)), (0, .ref 58)]) rfl ?_
            refine q_goto (tgt := 109) dX9_ends_173 (by decide) ?_
            refine q_pk [2, 1, 0] (ls' := [(0, .ref 58), (1, .int (nI 1)), (2, .int (nI (j + 1)))]) rfl ?_
            first | exact kN true _ (by rw [c157]; rfl) (q139.2.tr q153.2) q153.1 | exact kN true _ (by rw [c157, c161]; rfl) (q139.2.tr q153.2) q153.1 | exact kN false _ (by rw [c157, c161]; rfl) (q139.2.tr q153.2) q153.1
theorem y9_en101 (hM : MPS σ0 q) (hS : SK σ0) (hc : BC q) (hw : WFs q) (hB : NB q) (K : ∀ f σ', FR9 rcq σ0 σ' → RCH σ' (psF q).length f → (∀ i, f i = true → Rch q i) → f 0 = true → CLf q f → WA g mX9_ends 2 0 0 Z 0 0 179 [(0, .ref 58)] [] σ') : ∀ (n : Nat) (f : Nat → Bool) (σ : HS), (psF q).length < cnt f (psF q).length + n → FR9 rcq σ0 σ → RCH σ (psF q).length f → (∀ i, f i = true → Rch q i) → f 0 = true → WA g mX9_ends 2 0 0 Z 0 0 101 [(0, .ref 58), (1, .int (bi true))] [] σ := by
  intro n
  induction n with
  | zero => intro f σ hn; have := cnt_le f (psF q).length; omega
  | succ n ih =>
    intro f σ hn h1 hR hL h0
    have nx : ∀ σ', FR9 rcq σ0 σ' → RCH σ' (psF q).length (rnF q f (psF q).length).1 → WA g mX9_ends 2 0 0 Z 0 0 101 [(0, .ref 58), (1, .int (bi (rnF q f (psF q).length).2))] [] σ' := fun σ' h2 hR2 => by
      cases e : (rnF q f (psF q).length).2 with
      | true =>
        obtain ⟨i, i1, i2, i3⟩ := rnF_yes hB (f := f) _ (Nat.le_refl _) e
        have hlt : cnt f (psF q).length < cnt (rnF q f (psF q).length).1 (psF q).length := cnt_lt (fun i _ hi => rnF_up hi _) ⟨i, i1, i3, by rw [i2]; decide⟩
        exact ih _ σ' (by omega) h2 hR2 (rnF_in hL _) (rnF_up h0 _)
      | false =>
        obtain ⟨i1, i2⟩ := rnF_no (q := q) (f := f) _ e
        rw [i1] at hR2
        have kk := K f σ' h2 hR2 hL h0 (fun j hj hcn => i2 j hj hcn)
        refine q_iload_n dX9_ends_101 rfl rfl ?_
        refine q_if_eqB (tgt := 179) dX9_ends_102 (by decide) (fun _ => ?_) (fun h => absurd h (by decide))
        refine q_pk [0] (ls' := [(0, .ref 58)]) rfl ?_
        exact kk
    refine q_iload_n dX9_ends_101 rfl rfl ?_
    refine q_if_eqB (tgt := 179) dX9_ends_102 (by decide) (fun h => absurd h (by decide)) (fun _ => ?_)
    refine q_iconst (v := nI 0) dX9_ends_105 rfl ?_
    refine q_istore_n dX9_ends_106 rfl (by decide) (ls' := [(1, .int (nI 0)), (0, .ref 58)]) rfl ?_
    refine q_iconst (v := nI 0) dX9_ends_107 rfl ?_
    refine q_istore_n dX9_ends_108 rfl (by decide) (ls' := [(2, .int (nI 0)), (1, .int (nI 0)), (0, .ref 58)]) rfl ?_
    refine q_pk [2, 1, 0] (ls' := [(0, .ref 58), (1, .int (nI 0)), (2, .int (nI 0))]) rfl ?_
    exact y9_en109 (f := f) hM hS hc hw hB nx (psF q).length 0 σ (by omega) h1 hR
end MEE
