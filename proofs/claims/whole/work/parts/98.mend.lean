/-! The model's parser: the blocks' ways, marked. -/
def enq (h i : Nat) : Prop := h = 86 ∨ (h = 58 ∧ (i = 32 ∨ i = 33))
def rcq (h i : Nat) : Prop := h = 86 ∧ i = i
theorem rcq.en {h i : Nat} (k : rcq h i) : enq h i := Or.inl k.1
theorem enq.nw {h i : Nat} (k : enq h i) : nwr h i := by unfold enq at k; unfold nwr; omega
theorem MPS.en {σ σ' : HS} {q : PS} (f : FR9 enq σ σ') (k : MPS σ q) : MPS σ' q := by
  obtain ⟨k1, k2, k3, k4, k5, k6, k7⟩ := k
  exact ⟨(f.2.2.2 61 4 (by unfold enq; omega)).trans k1, (f.2.2.2 62 4 (by unfold enq; omega)).trans k2, k3.fq f (fun a i _ _ _ => by unfold enq; omega), k4.fq f (fun a i _ => by unfold enq; omega), k5.fq f (by unfold enq; omega) (fun a i _ _ => by unfold enq; omega), (f.2.2.2 58 38 (by unfold enq; omega)).trans k6, k7.fq f (by unfold enq; omega) (fun i => by unfold enq; omega)⟩
def RCH (σ : HS) (N : Nat) (f : Nat → Bool) : Prop := ∀ b, b < N → sI σ 86 b = bi (f b)
def mkF (f : Nat → Bool) (o : Option Nat) : Nat → Bool := match o with
  | none => f
  | some v => fun i => f i || decide (i = v)
def mkB (f : Nat → Bool) (o : Option Nat) : Bool := match o with
  | none => false
  | some v => !(f v)
/-- one block of a round forward -/
def stpF (q : PS) (j : Nat) (s : (Nat → Bool) × Bool) : (Nat → Bool) × Bool := if s.1 j = true then (mkF (mkF s.1 (wy q 0 j)) (wy q 1 j), (mkB s.1 (wy q 0 j) || mkB (mkF s.1 (wy q 0 j)) (wy q 1 j)) || s.2) else s
def rnF (q : PS) (f : Nat → Bool) : Nat → (Nat → Bool) × Bool
  | 0 => (f, false)
  | j + 1 => stpF q j (rnF q f j)
theorem mkF_t {f : Nat → Bool} {o : Option Nat} {i : Nat} : mkF f o i = true ↔ (f i = true ∨ o = some i) := by
  cases o with
  | none => simp [mkF]
  | some v =>
    show (f i || decide (i = v)) = true ↔ _
    rw [Bool.or_eq_true, decide_eq_true_eq]
    exact ⟨fun z => z.imp id (fun y => by rw [y]), fun z => z.imp id (fun y => by cases y; rfl)⟩
theorem mkB_f {f : Nat → Bool} {o : Option Nat} (h : mkB f o = false) : mkF f o = f ∧ ∀ v, o = some v → f v = true := by
  cases o with
  | none => exact ⟨rfl, fun v hv => by cases hv⟩
  | some v =>
    have h : f v = true := by simpa [mkB] using h
    refine ⟨funext fun i => ?_, fun w hw => by cases hw; exact h⟩
    show (f i || decide (i = v)) = f i
    by_cases e : i = v
    · rw [e, h]; rfl
    · simp [e]
theorem mkB_t {f : Nat → Bool} {o : Option Nat} (h : mkB f o = true) : ∃ v, o = some v ∧ f v = false := by
  cases o with
  | none => cases h
  | some v => exact ⟨v, rfl, by simpa [mkB] using h⟩
theorem rnF_in {q : PS} {f : Nat → Bool} (h : ∀ i, f i = true → Rch q i) : ∀ j i, (rnF q f j).1 i = true → Rch q i
  | 0, i, z => h i z
  | j + 1, i, z => by
    have ih := rnF_in h j
    have z : (stpF q j (rnF q f j)).1 i = true := z
    unfold stpF at z
    by_cases e : (rnF q f j).1 j = true
    · rw [if_pos e] at z
      rcases mkF_t.mp z with z | z
      · rcases mkF_t.mp z with z | z
        · exact ih i z
        · exact Rch_s (ih j e) (Or.inl z)
      · exact Rch_s (ih j e) (Or.inr z)
    · rw [if_neg e] at z; exact ih i z
theorem rnF_up {q : PS} {f : Nat → Bool} {i : Nat} (h : f i = true) : ∀ j, (rnF q f j).1 i = true
  | 0 => h
  | j + 1 => by
    have ih := rnF_up h (q := q) j
    show (stpF q j (rnF q f j)).1 i = true
    unfold stpF
    by_cases e : (rnF q f j).1 j = true
    · rw [if_pos e]; exact mkF_t.mpr (Or.inl (mkF_t.mpr (Or.inl ih)))
    · rw [if_neg e]; exact ih
theorem rnF_no {q : PS} {f : Nat → Bool} : ∀ j, (rnF q f j).2 = false → (rnF q f j).1 = f ∧ ∀ b, b < j → f b = true → ∀ i, wyB q b i → f i = true
  | 0, _ => ⟨rfl, fun b hb => absurd hb (by omega)⟩
  | j + 1, h => by
    have h : (stpF q j (rnF q f j)).2 = false := h
    show (stpF q j (rnF q f j)).1 = f ∧ _
    unfold stpF at h ⊢
    by_cases e : (rnF q f j).1 j = true
    · rw [if_pos e] at h ⊢
      have h : ((mkB (rnF q f j).1 (wy q 0 j) || mkB (mkF (rnF q f j).1 (wy q 0 j)) (wy q 1 j)) || (rnF q f j).2) = false := h
      rw [Bool.or_eq_false_iff, Bool.or_eq_false_iff] at h
      obtain ⟨⟨h1, h2⟩, h3⟩ := h
      obtain ⟨i1, i2⟩ := rnF_no j h3
      obtain ⟨g1, g2⟩ := mkB_f h1
      rw [g1] at h2
      obtain ⟨g3, g4⟩ := mkB_f h2
      show mkF (mkF _ _) _ = f ∧ _
      rw [g1, g3]
      refine ⟨i1, fun b hb hfb i hw => ?_⟩
      by_cases eb : b = j
      · subst eb
        rcases hw with hw | hw
        · rw [← i1]; exact g2 i hw
        · rw [← i1]; exact g4 i hw
      · exact i2 b (by omega) hfb i hw
    · rw [if_neg e] at h ⊢
      obtain ⟨i1, i2⟩ := rnF_no j h
      refine ⟨i1, fun b hb hfb i hw => ?_⟩
      by_cases eb : b = j
      · subst eb; rw [i1] at e; exact absurd hfb e
      · exact i2 b (by omega) hfb i hw
theorem rnF_yes {q : PS} (hN : NB q) {f : Nat → Bool} : ∀ j, j ≤ (psF q).length → (rnF q f j).2 = true → ∃ i, i < (psF q).length ∧ f i = false ∧ (rnF q f j).1 i = true
  | 0, _, h => by cases h
  | j + 1, hj, h => by
    have h : (stpF q j (rnF q f j)).2 = true := h
    have up : ∀ i, (rnF q f j).1 i = true → (stpF q j (rnF q f j)).1 i = true := fun i hi => by
      unfold stpF
      by_cases e : (rnF q f j).1 j = true
      · rw [if_pos e]; exact mkF_t.mpr (Or.inl (mkF_t.mpr (Or.inl hi)))
      · rw [if_neg e]; exact hi
    have lo : ∀ i, (rnF q f j).1 i = false → f i = false := fun i hi => by
      cases z : f i with
      | false => rfl
      | true => rw [rnF_up z] at hi; cases hi
    show ∃ i, i < (psF q).length ∧ f i = false ∧ (stpF q j (rnF q f j)).1 i = true
    by_cases h2 : (rnF q f j).2 = true
    · obtain ⟨i, i1, i2, i3⟩ := rnF_yes hN j (by omega) h2
      exact ⟨i, i1, i2, up i i3⟩
    · unfold stpF at h ⊢
      by_cases e : (rnF q f j).1 j = true
      · rw [if_pos e] at h ⊢
        have h : ((mkB (rnF q f j).1 (wy q 0 j) || mkB (mkF (rnF q f j).1 (wy q 0 j)) (wy q 1 j)) || (rnF q f j).2) = true := h
        rw [Bool.or_eq_true, Bool.or_eq_true] at h
        rcases h with (h | h) | h
        · obtain ⟨v, v1, v2⟩ := mkB_t h
          exact ⟨v, NB_lt hN (by omega) (Or.inl v1), lo v v2, mkF_t.mpr (Or.inl (mkF_t.mpr (Or.inr v1)))⟩
        · obtain ⟨v, v1, v2⟩ := mkB_t h
          refine ⟨v, NB_lt hN (by omega) (Or.inr v1), lo v ?_, mkF_t.mpr (Or.inr v1)⟩
          cases z : (rnF q f j).1 v with
          | false => rfl
          | true => rw [mkF_t.mpr (Or.inl z)] at v2; cases v2
        · exact absurd h h2
      · rw [if_neg e] at h; exact absurd h h2
/-- one block of a round backward -/
def lvo (f : Nat → Bool) (o : Option Nat) : Bool := match o with
  | none => false
  | some v => f v
def stpB (q : PS) (j : Nat) (s : (Nat → Bool) × Bool) : (Nat → Bool) × Bool := if (lvo s.1 (wy q 0 j) || lvo s.1 (wy q 1 j)) = true ∧ s.1 j = false then (mkF s.1 (some j), true) else s
def rnB (q : PS) (f : Nat → Bool) : Nat → (Nat → Bool) × Bool
  | 0 => (f, false)
  | j + 1 => stpB q j (rnB q f j)
theorem lvo_t {f : Nat → Bool} {o : Option Nat} (h : lvo f o = true) : ∃ v, o = some v ∧ f v = true := by
  cases o with
  | none => cases h
  | some v => exact ⟨v, rfl, h⟩
theorem rnB_in {q : PS} {f : Nat → Bool} (h : ∀ i, f i = true → Lvs q i) : ∀ j i, (rnB q f j).1 i = true → Lvs q i
  | 0, i, z => h i z
  | j + 1, i, z => by
    have ih := rnB_in h j
    have z : (stpB q j (rnB q f j)).1 i = true := z
    unfold stpB at z
    by_cases e : (lvo (rnB q f j).1 (wy q 0 j) || lvo (rnB q f j).1 (wy q 1 j)) = true ∧ (rnB q f j).1 j = false
    · rw [if_pos e] at z
      have z : mkF (rnB q f j).1 (some j) i = true := z
      rcases mkF_t.mp z with z | z
      · exact ih i z
      · cases z
        have := e.1
        rw [Bool.or_eq_true] at this
        rcases this with y | y
        · obtain ⟨v, v1, v2⟩ := lvo_t y; exact Lvs_s (Or.inl v1) (ih v v2)
        · obtain ⟨v, v1, v2⟩ := lvo_t y; exact Lvs_s (Or.inr v1) (ih v v2)
    · rw [if_neg e] at z; exact ih i z
theorem rnB_up {q : PS} {f : Nat → Bool} {i : Nat} (h : f i = true) : ∀ j, (rnB q f j).1 i = true
  | 0 => h
  | j + 1 => by
    have ih := rnB_up h (q := q) j
    show (stpB q j (rnB q f j)).1 i = true
    unfold stpB
    by_cases e : (lvo (rnB q f j).1 (wy q 0 j) || lvo (rnB q f j).1 (wy q 1 j)) = true ∧ (rnB q f j).1 j = false
    · rw [if_pos e]
      show mkF (rnB q f j).1 (some j) i = true
      exact mkF_t.mpr (Or.inl ih)
    · rw [if_neg e]; exact ih
theorem rnB_no {q : PS} {f : Nat → Bool} : ∀ j, (rnB q f j).2 = false → (rnB q f j).1 = f ∧ ∀ b, b < j → (∃ i, wyB q b i ∧ f i = true) → f b = true
  | 0, _ => ⟨rfl, fun b hb => absurd hb (by omega)⟩
  | j + 1, h => by
    have h : (stpB q j (rnB q f j)).2 = false := h
    show (stpB q j (rnB q f j)).1 = f ∧ _
    unfold stpB at h ⊢
    by_cases e : (lvo (rnB q f j).1 (wy q 0 j) || lvo (rnB q f j).1 (wy q 1 j)) = true ∧ (rnB q f j).1 j = false
    · rw [if_pos e] at h; cases h
    · rw [if_neg e] at h ⊢
      obtain ⟨i1, i2⟩ := rnB_no j h
      rw [i1] at e
      refine ⟨i1, fun b hb hw => ?_⟩
      by_cases eb : b = j
      · subst eb
        obtain ⟨i, w1, w2⟩ := hw
        cases z : f b with
        | true => rfl
        | false =>
          refine absurd ⟨?_, z⟩ e
          rw [Bool.or_eq_true]
          rcases w1 with w1 | w1
          · rw [w1]; exact Or.inl w2
          · rw [w1]; exact Or.inr w2
      · exact i2 b (by omega) hw
theorem rnB_yes {q : PS} {f : Nat → Bool} : ∀ j, j ≤ (psF q).length → (rnB q f j).2 = true → ∃ i, i < (psF q).length ∧ f i = false ∧ (rnB q f j).1 i = true
  | 0, _, h => by cases h
  | j + 1, hj, h => by
    have h : (stpB q j (rnB q f j)).2 = true := h
    show ∃ i, i < (psF q).length ∧ f i = false ∧ (stpB q j (rnB q f j)).1 i = true
    unfold stpB at h ⊢
    by_cases e : (lvo (rnB q f j).1 (wy q 0 j) || lvo (rnB q f j).1 (wy q 1 j)) = true ∧ (rnB q f j).1 j = false
    · rw [if_pos e]
      refine ⟨j, by omega, ?_, mkF_t.mpr (Or.inr rfl)⟩
      cases z : f j with
      | false => rfl
      | true => rw [rnB_up z] at e; cases e.2
    · rw [if_neg e] at h ⊢
      exact rnB_yes j (by omega) h
theorem bi_or2 (a b : Bool) : bi a ||| bi b = bi (a || b) := bi_orB
section MEN
variable {g : GG} {σ : HS} {q : PS}
theorem men_r (hM : MPS σ q) (hc : BC q) (hw : WFs q) {j : Nat} (hj : j < (psF q).length) : sI σ 67 (960 + (nf q (j + 1) - 1)) = nI (rK (eR q j)) ∧ sI σ 71 (960 + (nf q (j + 1) - 1)) = oW (wy q 0 j) ∧ sI σ 72 (960 + (nf q (j + 1) - 1)) = oW (wy q 1 j) := by
  obtain ⟨e1, e2, e3, e4, e5, e6, e7, e8, e9, -⟩ := end_w hc hw hj
  obtain ⟨c1, c2, c3, c4, c5, -⟩ := (hM.2.2.1 _ e3).1
  exact ⟨c1, c4.trans e7, c5.trans e8⟩
theorem z9_lastNode (hS : SK σ) (hM : MPS σ q) (hc : BC q) (hw : WFs q) {j : Nat} (hj : j < (psF q).length) : CT g mX9_lastNode 0 0 0 [.ref 58, .int (nI j)] σ (PQ σ (.int (nI (960 + (nf q (j + 1) - 1))))) := by
  obtain ⟨e1, e2, -⟩ := end_w hc hw hj
  obtain ⟨m1, m2, -, m4, -⟩ := hM
  have h40 := hc.2.1
  have h160 := hc.2.2.1
  by_cases h : j + 1 < (psF q).length
  · have e := (m4 (j + 1) h).1
    rw [← nf_lt h, ← Nat.add_assoc] at e
    refine CT.of (by decide) (Nat.le_of_ble_eq_true rfl) ?_
    refine q_sipush (v := nI 960) dX9_lastNode_0 rfl ?_
    refine q_iload_n dX9_lastNode_3 rfl rfl ?_
    refine q_iconst (v := nI 1) dX9_lastNode_4 rfl ?_
    refine q_iaddN dX9_lastNode_5 ?_
    refine q_aload_n dX9_lastNode_6 rfl rfl rfl ?_
    refine q_getr (r := 61) dX9_lastNode_7 fX9_40 rfl (ty_c hS (by decide) rfl) (hS.2 58 9 61 rfl) ?_
    refine q_iconst (v := nI 4) dX9_lastNode_10 rfl ?_
    refine q_iald (x := nI ((psF q).length)) (j := 4) dX9_lastNode_11 (ty_c hS (by decide) rfl) (ix_n (by omega) (by omega)) m1 ?_
    refine q_icmp_geN (tgt := 30) dX9_lastNode_12 (by decide) (by omega) (by omega) (fun c12 => ?_) (fun c12 => ?_)
    · exact absurd c12 (by omega)
    · skip
      refine q_aload_n dX9_lastNode_15 rfl rfl rfl ?_
      refine q_getr (r := 65) dX9_lastNode_16 fX9_52 rfl (ty_c hS (by decide) rfl) (hS.2 58 13 65 rfl) ?_
      refine q_sipush (v := nI 164) dX9_lastNode_19 rfl ?_
      refine q_iload_n dX9_lastNode_22 rfl rfl ?_
      refine q_iaddN dX9_lastNode_23 ?_
      refine q_iconst (v := nI 1) dX9_lastNode_24 rfl ?_
      refine q_iaddN dX9_lastNode_25 ?_
      refine q_iald (x := nI (nf q (j + 1))) (j := ((164 + j) + 1)) dX9_lastNode_26 (ty_c hS (by decide) rfl) (ix_n (by omega) (by omega)) e ?_
      refine q_goto (tgt := 36) dX9_lastNode_27 (by decide) ?_
      refine q_iaddN dX9_lastNode_36 ?_
      refine q_iconst (v := nI 1) dX9_lastNode_37 rfl ?_
      refine q_isubN dX9_lastNode_38 (by omega) ?_
      refine q_ireturn dX9_lastNode_39 rfl rfl (by omega) (by omega) ?_
      exact ⟨rfl, congrArg (fun n => some (Value.int (nI n))) (by omega)⟩
  · have e : (psS q).length = nf q (j + 1) := (nf_ge (by omega)).symm
    rw [e] at m2
    refine CT.of (by decide) (Nat.le_of_ble_eq_true rfl) ?_
    refine q_sipush (v := nI 960) dX9_lastNode_0 rfl ?_
    refine q_iload_n dX9_lastNode_3 rfl rfl ?_
    refine q_iconst (v := nI 1) dX9_lastNode_4 rfl ?_
    refine q_iaddN dX9_lastNode_5 ?_
    refine q_aload_n dX9_lastNode_6 rfl rfl rfl ?_
    refine q_getr (r := 61) dX9_lastNode_7 fX9_40 rfl (ty_c hS (by decide) rfl) (hS.2 58 9 61 rfl) ?_
    refine q_iconst (v := nI 4) dX9_lastNode_10 rfl ?_
    refine q_iald (x := nI ((psF q).length)) (j := 4) dX9_lastNode_11 (ty_c hS (by decide) rfl) (ix_n (by omega) (by omega)) m1 ?_
    refine q_icmp_geN (tgt := 30) dX9_lastNode_12 (by decide) (by omega) (by omega) (fun c12 => ?_) (fun c12 => ?_)
    · skip
      refine q_aload_n dX9_lastNode_30 rfl rfl rfl ?_
      refine q_getr (r := 62) dX9_lastNode_31 fX9_43 rfl (ty_c hS (by decide) rfl) (hS.2 58 10 62 rfl) ?_
      refine q_iconst (v := nI 4) dX9_lastNode_34 rfl ?_
      refine q_iald (x := nI (nf q (j + 1))) (j := 4) dX9_lastNode_35 (ty_c hS (by decide) rfl) (ix_n (by omega) (by omega)) m2 ?_
      refine q_iaddN dX9_lastNode_36 ?_
      refine q_iconst (v := nI 1) dX9_lastNode_37 rfl ?_
      refine q_isubN dX9_lastNode_38 (by omega) ?_
      refine q_ireturn dX9_lastNode_39 rfl rfl (by omega) (by omega) ?_
      exact ⟨rfl, congrArg (fun n => some (Value.int (nI n))) (by omega)⟩
    · exact absurd c12 (by omega)
theorem z9_mark (hS : SK σ) {N : Nat} {f : Nat → Bool} (hR : RCH σ N f) (hN : N ≤ 40) {o : Option Nat} (ho : ∀ v, o = some v → v < N) : CT g mX9_mark 0 0 0 [.ref 58, .int (oW o)] σ (fun r σ' => r = some (.int (bi (mkB f o))) ∧ RCH σ' N (mkF f o) ∧ FR9 rcq σ σ') := by
  cases o with
  | none =>
    refine CT.of (by decide) (Nat.le_of_ble_eq_true rfl) ?_
    refine q_iload_n dX9_mark_0 rfl rfl ?_
    refine q_if_lt1 (tgt := 13) dX9_mark_1 (by decide) (by decide) ?_
    refine q_iconst (v := nI 0) dX9_mark_13 rfl ?_
    refine q_ireturn dX9_mark_14 rfl rfl (by omega) (by omega) ?_
    exact ⟨rfl, hR, FR9.rf⟩
  | some v =>
    have hv := ho v rfl
    have h1 := hR v hv
    cases hf : f v with
    | true =>
      rw [hf] at h1
      have e1 : mkB f (some v) = false := by show (!(f v)) = false; rw [hf]; rfl
      have e2 : mkF f (some v) = f := (mkB_f e1).1
      rw [e1, e2]
      refine CT.of (by decide) (Nat.le_of_ble_eq_true rfl) ?_
      refine q_iload_n dX9_mark_0 rfl rfl ?_
      refine q_if_ltN (tgt := 13) dX9_mark_1 (by decide) (by omega) ?_
      refine q_aload_n dX9_mark_4 rfl rfl rfl ?_
      refine q_getr (r := 86) dX9_mark_5 fX9_141 rfl (ty_c hS (by decide) rfl) (hS.2 58 42 86 rfl) ?_
      refine q_iload_n dX9_mark_8 rfl rfl ?_
      refine q_zald (x := bi true) (j := v) dX9_mark_9 (ty_c hS (by decide) rfl) (ix_n (by omega) (by omega)) h1 ?_
      refine q_if_eqB (tgt := 15) dX9_mark_10 (by decide) (fun h => absurd h (by decide)) (fun _ => ?_)
      refine q_iconst (v := nI 0) dX9_mark_13 rfl ?_
      refine q_ireturn dX9_mark_14 rfl rfl (by omega) (by omega) ?_
      exact ⟨rfl, hR, FR9.rf⟩
    | false =>
      rw [hf] at h1
      have e1 : mkB f (some v) = true := by show (!(f v)) = true; rw [hf]; rfl
      rw [e1]
      have hR' : RCH (uI σ 86 v (nI 1)) N (mkF f (some v)) := fun b hb => by
        by_cases e : b = v
        · rw [e, uI_self, mkF_t.mpr (Or.inr rfl)]; rfl
        · rw [rd_ne e, hR b hb]
          have : mkF f (some v) b = f b := by show (f b || decide (b = v)) = f b; simp [e]
          rw [this]
      refine CT.of (by decide) (Nat.le_of_ble_eq_true rfl) ?_
      refine q_iload_n dX9_mark_0 rfl rfl ?_
      refine q_if_ltN (tgt := 13) dX9_mark_1 (by decide) (by omega) ?_
      refine q_aload_n dX9_mark_4 rfl rfl rfl ?_
      refine q_getr (r := 86) dX9_mark_5 fX9_141 rfl (ty_c hS (by decide) rfl) (hS.2 58 42 86 rfl) ?_
      refine q_iload_n dX9_mark_8 rfl rfl ?_
      refine q_zald (x := bi false) (j := v) dX9_mark_9 (ty_c hS (by decide) rfl) (ix_n (by omega) (by omega)) h1 ?_
      refine q_if_eqB (tgt := 15) dX9_mark_10 (by decide) (fun _ => ?_) (fun h => absurd h (by decide))
      refine q_aload_n dX9_mark_15 rfl rfl rfl ?_
      refine q_getr (r := 86) dX9_mark_16 fX9_141 rfl (ty_c hS (by decide) rfl) (hS.2 58 42 86 rfl) ?_
      refine q_iload_n dX9_mark_19 rfl rfl ?_
      refine q_iconst (v := nI 1) dX9_mark_20 rfl ?_
      refine q_zast (j := v) dX9_mark_21 (ty_c hS (by decide) rfl) (ix_n (by omega) (by omega)) (Or.inr rfl) ?_
      refine q_iconst (v := nI 1) dX9_mark_22 rfl ?_
      refine q_ireturn dX9_mark_23 rfl rfl (by omega) (by omega) ?_
      exact ⟨rfl, hR', FR9.rf.uI ⟨rfl, rfl⟩⟩
theorem z9_fault (hS : SK σ) {w p : Nat} : CT g mX9_fault 0 0 0 [.ref 58, .int (nI w), .int (nI p)] σ (VQ (erM σ (w, p))) := by
  refine CT.of (by decide) (Nat.le_of_ble_eq_true rfl) ?_
  refine q_aload_n dX9_fault_0 rfl rfl rfl ?_
  refine q_iload_n dX9_fault_1 rfl rfl ?_
  refine q_puti dX9_fault_2 fX9_110 rfl (Or.inl rfl) (ty_c hS (by decide) rfl) ?_
  refine q_aload_n dX9_fault_5 rfl rfl rfl ?_
  refine q_iload_n dX9_fault_6 rfl rfl ?_
  refine q_puti dX9_fault_7 fX9_113 rfl (Or.inl rfl) (ty_c hS (by decide) rfl) ?_
  refine q_return dX9_fault_10 rfl (by omega) (by omega) ?_
  exact ⟨rfl, rfl⟩
end MEN
