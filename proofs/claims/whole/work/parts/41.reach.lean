/-! The class's parser: blocks that are come to, blocks that leave. -/
/-- how many of the first n are f -/
def cnt (f : Nat → Bool) : Nat → Nat
  | 0 => 0
  | n + 1 => cnt f n + (if f n = true then 1 else 0)
theorem cnt_le (f : Nat → Bool) : ∀ n, cnt f n ≤ n
  | 0 => Nat.le_refl _
  | n + 1 => by have := cnt_le f n; unfold cnt; split <;> omega
theorem cnt_mono {f g : Nat → Bool} : ∀ {n : Nat}, (∀ i, i < n → f i = true → g i = true) → cnt f n ≤ cnt g n
  | 0, _ => Nat.le_refl _
  | n + 1, h => by
    have := cnt_mono (n := n) fun i hi => h i (by omega)
    unfold cnt
    by_cases e : f n = true
    · rw [if_pos e, if_pos (h n (by omega) e)]; omega
    · rw [if_neg e]; split <;> omega
theorem cnt_lt {f g : Nat → Bool} : ∀ {n : Nat}, (∀ i, i < n → f i = true → g i = true) → (∃ i, i < n ∧ g i = true ∧ ¬ f i = true) → cnt f n < cnt g n
  | 0, _, ⟨i, h, _⟩ => absurd h (by omega)
  | n + 1, h, ⟨i, h1, h2, h3⟩ => by
    unfold cnt
    by_cases e : i = n
    · subst e
      have := cnt_mono (n := i) fun j hj => h j (by omega)
      rw [if_neg h3, if_pos h2]; omega
    · have := cnt_lt (n := n) (fun j hj => h j (by omega)) ⟨i, by omega, h2, h3⟩
      by_cases e2 : f n = true
      · rw [if_pos e2, if_pos (h n (by omega) e2)]; omega
      · rw [if_neg e2]; split <;> omega
theorem cnt_same {f g : Nat → Bool} {n : Nat} (h : ∀ i, i < n → f i = g i) : cnt f n = cnt g n := Nat.le_antisymm (cnt_mono fun i hi e => by rw [← h i hi]; exact e) (cnt_mono fun i hi e => by rw [h i hi]; exact e)
def wyB (q : PS) (j i : Nat) : Prop := wy q 0 j = some i ∨ wy q 1 j = some i
/-- blocks that are come to -/
def Rch (q : PS) (j : Nat) : Prop := ∀ P : Nat → Prop, P 0 → (∀ a i, P a → wyB q a i → P i) → P j
theorem Rch_z {q : PS} : Rch q 0 := fun _ h _ => h
theorem Rch_s {q : PS} {j i : Nat} (h : Rch q j) (hw : wyB q j i) : Rch q i := fun P h1 h2 => h2 j i (h P h1 h2) hw
/-- blocks that leave -/
def Lvs (q : PS) (j : Nat) : Prop := ∀ P : Nat → Prop, (∀ a, rK (eR q a) = 6 → P a) → (∀ a i, wyB q a i → P i → P a) → P j
theorem Lvs_l {q : PS} {j : Nat} (h : rK (eR q j) = 6) : Lvs q j := fun _ h1 _ => h1 j h
theorem Lvs_s {q : PS} {j i : Nat} (hw : wyB q j i) (h : Lvs q i) : Lvs q j := fun P h1 h2 => h2 j i hw (h P h1 h2)
theorem NB_lt {q : PS} (h : NB q) {j i : Nat} (hj : j < (psF q).length) (hw : wyB q j i) : i < (psF q).length := by
  have hn := h j hj
  rcases hw with hw | hw
  · by_cases e : i < (psF q).length
    · exact e
    · exact absurd ⟨i, hw, Or.inr (by omega)⟩ hn.1
  · by_cases e : i < (psF q).length
    · exact e
    · exact absurd ⟨i, hw, Or.inr (by omega)⟩ hn.2
theorem Rch_lt {q : PS} (h : NB q) (h0 : 0 < (psF q).length) {j : Nat} (hr : Rch q j) : j < (psF q).length := hr (fun j => j < (psF q).length) h0 fun _ _ ih hw => NB_lt h ih hw
/-- a set closed under 'names' -/
def CLf (q : PS) (f : Nat → Bool) : Prop := ∀ j, j < (psF q).length → f j = true → ∀ i, wyB q j i → f i = true
/-- a set closed under 'is named by' -/
def CLb (q : PS) (f : Nat → Bool) : Prop := ∀ j, j < (psF q).length → (rK (eR q j) = 6 ∨ ∃ i, wyB q j i ∧ f i = true) → f j = true
theorem Rch_cl {q : PS} {f : Nat → Bool} (h : NB q) (h0 : 0 < (psF q).length) (hz : f 0 = true) (hc : CLf q f) {j : Nat} (hr : Rch q j) : f j = true :=
  (hr (fun j => j < (psF q).length ∧ f j = true) ⟨h0, hz⟩ fun a i ih hw => ⟨NB_lt h ih.1 hw, hc a ih.1 ih.2 i hw⟩).2
theorem Lvs_cl {q : PS} {f : Nat → Bool} (h : NB q) (hc : CLb q f) {j : Nat} (hr : Lvs q j) : j < (psF q).length → f j = true :=
  hr (fun j => j < (psF q).length → f j = true) (fun a h1 hj => hc a hj (Or.inl h1)) fun a i hw ih hj => hc a hj (Or.inr ⟨i, hw, ih (NB_lt h hj hw)⟩)
theorem cmp_1 {x : Int64} {k : Nat} (hk : k < 64) : lg_cmp (tst x k) 1 = 0 ↔ lb x k = true := by
  rw [tst_eq hk]
  cases lb x k
  · rw [if_neg (by decide)]; decide
  · rw [if_pos rfl]; decide
theorem cmp_0 {x : Int64} {k : Nat} (hk : k < 64) : lg_cmp (tst x k) 0 = 0 ↔ lb x k = false := by
  rw [tst_eq hk]
  cases lb x k
  · rw [if_neg (by decide)]; decide
  · rw [if_pos rfl]; decide
theorem cmp_z {x : Int64} : lg_cmp x 0 = 0 ↔ ∀ i, i < 64 → lb x i = false := by
  have h1 : lg_cmp x 0 = 0 ↔ x = 0 := by
    unfold lg_cmp
    by_cases h : x > 0
    · rw [if_pos h]
      constructor
      · intro q; exact absurd q (by decide)
      · intro q; rw [q] at h; exact absurd h (by decide)
    · rw [if_neg h]
      by_cases h2 : x = 0
      · rw [if_pos h2]; exact ⟨fun _ => h2, fun _ => rfl⟩
      · rw [if_neg h2]
        constructor
        · intro q; exact absurd q (by decide)
        · intro q; exact absurd q h2
  rw [h1]
  constructor
  · intro h i _; rw [h, lb_0]
  · intro h; exact lb_ext fun i hi => by rw [h i hi, lb_0]
theorem lb_nm {q : PS} (hc : BC q) (hw : WFs q) {j : Nat} (hj : j < (psF q).length) (i : Nat) : lb (oB (wy q 0 j) ||| oB (wy q 1 j)) i = true ↔ wyB q j i := by
  obtain ⟨-, -, -, -, -, -, -, -, e9, -⟩ := end_w hc hw hj
  rw [lb_or, lb_oB (fun v hv => by have := e9 0 v hv; omega), lb_oB (fun v hv => by have := e9 1 v hv; omega), Bool.or_eq_true, decide_eq_true_iff, decide_eq_true_iff]
  exact Iff.rfl
theorem k_lp {g : GG} {M : MI} {d mc ms : Nat} {Z : List Frame → Array Value → State → State → Prop} {cl sl pc : Nat} {ls : List (Nat × Value)} {σ : HS} {rest : List Value} {P : Int64 → Prop} (k : ∀ x, P x → WA g M d mc ms Z cl sl pc ls (.long x :: rest) σ) : ∀ r σ', (∃ x, r = some (.long x) ∧ σ' = σ ∧ P x) → WA g M d mc ms Z cl sl pc ls (r.toList ++ rest) σ' := by
  rintro r σ' ⟨x, rfl, rfl, h⟩
  exact k x h
def LQ (σ : HS) (P : Int64 → Prop) : Option Value → HS → Prop := fun r σ' => ∃ x, r = some (.long x) ∧ σ' = σ ∧ P x
section RCH
variable {g : GG} {σ : HS} {b : Nat} {q : PS}
/-- in a round: all that the round's beginning names, of the blocks before j, is there -/
def RI (q : PS) (x0 x : Int64) (j : Nat) : Prop := (∀ i, lb x i = true → Rch q i) ∧ lb x 0 = true ∧ (∀ i, lb x0 i = true → lb x i = true) ∧ (∀ j', j' < j → lb x0 j' = true → ∀ i, wyB q j' i → lb x i = true) ∧ (CLf q (lb x0) → ∀ i, lb x i = true → lb x0 i = true)
/-- behind r rounds -/
def RO (q : PS) (x : Int64) (r : Nat) : Prop := (∀ i, lb x i = true → Rch q i) ∧ lb x 0 = true ∧ (CLf q (lb x) ∨ r + 1 ≤ cnt (lb x) (psF q).length)
theorem RO_step {x0 x : Int64} {r : Nat} (hn : NB q) (h0 : 0 < (psF q).length) (h : RO q x0 r) (h2 : RI q x0 x (psF q).length) : RO q x (r + 1) := by
  obtain ⟨h3, h4, h5, h6, h7⟩ := h2
  refine ⟨h3, h4, ?_⟩
  by_cases e : CLf q (lb x0)
  · refine Or.inl fun j hj hx i hw => h5 _ (e j hj (h7 e j hx) i hw)
  · rcases h.2.2 with c | c
    · exact absurd c e
    · refine Or.inr ?_
      have : ∃ i, i < (psF q).length ∧ lb x i = true ∧ ¬ lb x0 i = true := by
        refine Classical.byContradiction fun hne => e ?_
        intro j hj hx i hw
        have hi := NB_lt hn hj hw
        refine Classical.byContradiction fun h8 => hne ⟨i, hi, h6 j hj hx i hw, h8⟩
      have := cnt_lt (n := (psF q).length) (fun i _ => h5 i) this
      omega
theorem RI_beg {x : Int64} {r : Nat} (h : RO q x r) : RI q x x 0 := ⟨h.1, h.2.1, fun _ h => h, fun j h => absurd h (by omega), fun _ _ h => h⟩
theorem RI_yes {x0 x : Int64} {j : Nat} (hc : BC q) (hw : WFs q) (hj : j < (psF q).length) (h : RI q x0 x j) (hx : lb x j = true) : RI q x0 (x ||| (oB (wy q 0 j) ||| oB (wy q 1 j))) (j + 1) := by
  obtain ⟨h3, h4, h5, h6, h7⟩ := h
  have hm := lb_nm hc hw hj
  refine ⟨fun i hi => ?_, by rw [lb_or, h4]; rfl, fun i hi => by rw [lb_or, h5 i hi]; rfl, fun j' hj' hx0 i hwi => ?_, fun hcl i hi => ?_⟩
  · rw [lb_or, Bool.or_eq_true] at hi
    rcases hi with hi | hi
    · exact h3 i hi
    · exact Rch_s (h3 j hx) ((hm i).mp hi)
  · rw [lb_or, Bool.or_eq_true]
    by_cases e : j' = j
    · subst e; exact Or.inr ((hm i).mpr hwi)
    · exact Or.inl (h6 j' (by omega) hx0 i hwi)
  · rw [lb_or, Bool.or_eq_true] at hi
    rcases hi with hi | hi
    · exact h7 hcl i hi
    · exact hcl j hj (h7 hcl j hx) i ((hm i).mp hi)
theorem RI_no {x0 x : Int64} {j : Nat} (h : RI q x0 x j) (hx : ¬ lb x j = true) : RI q x0 x (j + 1) := by
  obtain ⟨h3, h4, h5, h6, h7⟩ := h
  refine ⟨h3, h4, h5, fun j' hj' hx0 i hwi => ?_, h7⟩
  by_cases e : j' = j
  · subst e; exact absurd (h5 _ hx0) hx
  · exact h6 j' (by omega) hx0 i hwi
theorem RO_end {x : Int64} (hn : NB q) (h0 : 0 < (psF q).length) (h : RO q x (psF q).length) (i : Nat) : lb x i = true ↔ Rch q i := by
  obtain ⟨h1, h2, h3⟩ := h
  refine ⟨h1 i, fun hr => ?_⟩
  rcases h3 with c | c
  · exact Rch_cl hn h0 h2 c hr
  · have := cnt_le (lb x) (psF q).length; omega
theorem y2_come_in (hb : RB σ b) (hP : PSR σ b q) (hc : BC q) (hw : WFs q) {Z : List Frame → Array Value → State → State → Prop} {x0 : Int64} {r : Nat} (K : ∀ x, RI q x0 x (psF q).length → WA g mX2_blocksComeTo 3 0 0 Z 0 0 4 [(0, .ref b), (1, .long x), (3, .int (nI (r + 1)))] [] σ) : ∀ (n j : Nat) (x : Int64), j + n = (psF q).length → RI q x0 x j → WA g mX2_blocksComeTo 3 0 0 Z 0 0 15 [(0, .ref b), (1, .long x), (3, .int (nI r)), (4, .int (nI j))] [] σ := by
  have hb14 : b = 14 ∨ 99 ≤ b := by rcases hb.1 with h | ⟨j, h⟩ <;> omega
  have hB : sI σ b 12 = nI (psF q).length := hP.1
  have h40 := hc.2.1
  intro n
  induction n with
  | zero =>
    intro j x hj hi
    refine q_iload dX2_blocksComeTo_15 rfl ?_
    refine q_aload_n dX2_blocksComeTo_17 rfl rfl rfl ?_
    refine q_geti (x := nI ((psF q).length)) dX2_blocksComeTo_18 fX2_61 rfl (ty_r hb 0 rfl) hB ?_
    refine q_icmp_geN (tgt := 50) dX2_blocksComeTo_21 (by decide) (by omega) (by omega) (fun c21 => ?_) (fun c21 => ?_)
    · skip
      refine q_iincN (c := 1) dX2_blocksComeTo_50 rfl (by decide) rfl (ls' := [(3, .int (nI (r + 1))), (0, .ref b), (1, .long x), (4, .int (nI j))]) rfl ?_
      refine q_goto (tgt := 4) dX2_blocksComeTo_53 (by decide) ?_
      refine q_pk [1, 2, 0] (ls' := [(0, .ref b), (1, .long x), (3, .int (nI (r + 1)))]) rfl ?_
      exact K x (by rw [← hj]; exact hi)
    · exact absurd c21 (by omega)
  | succ n ih =>
    intro j x hj hi
    obtain ⟨e1, e2, e3, e4, e5, e6, e7, e8, e9, -⟩ := end_w hc hw (j := j) (by omega)
    obtain ⟨g1, g2, g3, g4, g5, g6⟩ := end_r hP hc hw (j := j) (by omega)
    refine q_iload dX2_blocksComeTo_15 rfl ?_
    refine q_aload_n dX2_blocksComeTo_17 rfl rfl rfl ?_
    refine q_geti (x := nI ((psF q).length)) dX2_blocksComeTo_18 fX2_61 rfl (ty_r hb 0 rfl) hB ?_
    refine q_icmp_geN (tgt := 50) dX2_blocksComeTo_21 (by decide) (by omega) (by omega) (fun c21 => ?_) (fun c21 => ?_)
    · exact absurd c21 (by omega)
    · skip
      refine q_lload_n dX2_blocksComeTo_24 rfl rfl ?_
      refine q_iload dX2_blocksComeTo_25 rfl ?_
      refine q_lushr (v := (x.toUInt64 >>> ((nI j).toInt64.toUInt64 &&& Int64.toUInt64 63)).toInt64) dX2_blocksComeTo_27 rfl ?_
      refine q_lconst (v := (1 : Int64)) dX2_blocksComeTo_28 rfl ?_
      refine q_land dX2_blocksComeTo_29 ?_
      refine q_lconst (v := (1 : Int64)) dX2_blocksComeTo_30 rfl ?_
      refine q_lcmp dX2_blocksComeTo_31 ?_
      refine q_if_ne (tgt := 44) dX2_blocksComeTo_32 (by decide) (fun c32 => ?_) (fun c32 => ?_)
      · skip
        refine q_iincN (c := 1) dX2_blocksComeTo_44 rfl (by decide) rfl (ls' := [(4, .int (nI (j + 1))), (0, .ref b), (1, .long x), (3, .int (nI r))]) rfl ?_
        refine q_goto (tgt := 15) dX2_blocksComeTo_47 (by decide) ?_
        refine q_pk [1, 2, 3, 0] (ls' := [(0, .ref b), (1, .long x), (3, .int (nI r)), (4, .int (nI (j + 1)))]) rfl ?_
        refine ih (j + 1) _ (by omega) ?_
        first | exact RI_yes hc hw (by omega) hi ((cmp_1 (by omega)).mp c32) | exact RI_no hi fun hx => c32 ((cmp_1 (by omega)).mpr hx)
      · skip
        refine q_lload_n dX2_blocksComeTo_35 rfl rfl ?_
        refine q_aload_n dX2_blocksComeTo_36 rfl rfl rfl ?_
        refine q_iload dX2_blocksComeTo_37 rfl ?_
        refine q_callV (As := [.int (nI j)]) (rest := [.long x]) dX2_blocksComeTo_39 vX2_121 (ty_r hb 0 rfl) ⟨by decide, rfl⟩ (z2_blocksNamedBy hb (by omega) g1 e1 (by omega) g3 g4 (fun t ht => by have := e9 0 t ht; omega) (fun t ht => by have := e9 1 t ht; omega)) rfl rfl (Nat.le_of_ble_eq_true rfl) (by omega) (by omega) (by omega) (k_p ?_)
        refine q_lor dX2_blocksComeTo_42 ?_
        refine q_lstore_n dX2_blocksComeTo_43 rfl (by decide) (ls' := [(1, .long (x ||| (oB (wy q 0 j) ||| oB (wy q 1 j)))), (0, .ref b), (3, .int (nI r)), (4, .int (nI j))]) rfl ?_
        refine q_iincN (c := 1) dX2_blocksComeTo_44 rfl (by decide) rfl (ls' := [(4, .int (nI (j + 1))), (1, .long (x ||| (oB (wy q 0 j) ||| oB (wy q 1 j)))), (0, .ref b), (3, .int (nI r))]) rfl ?_
        refine q_goto (tgt := 15) dX2_blocksComeTo_47 (by decide) ?_
        refine q_pk [2, 1, 3, 0] (ls' := [(0, .ref b), (1, .long (x ||| (oB (wy q 0 j) ||| oB (wy q 1 j)))), (3, .int (nI r)), (4, .int (nI (j + 1)))]) rfl ?_
        refine ih (j + 1) _ (by omega) ?_
        first | exact RI_yes hc hw (by omega) hi ((cmp_1 (by omega)).mp c32) | exact RI_no hi fun hx => c32 ((cmp_1 (by omega)).mpr hx)
theorem y2_come_out (hb : RB σ b) (hP : PSR σ b q) (hc : BC q) (hw : WFs q) (hn : NB q) (h0 : 0 < (psF q).length) : ∀ (n r : Nat) (x : Int64), r + n = (psF q).length → RO q x r → WA g mX2_blocksComeTo 3 0 0 (ZM g (LQ σ (fun x => ∀ i, lb x i = true ↔ Rch q i)) 0 0) 0 0 4 [(0, .ref b), (1, .long x), (3, .int (nI r))] [] σ := by
  have hb14 : b = 14 ∨ 99 ≤ b := by rcases hb.1 with h | ⟨j, h⟩ <;> omega
  have hB : sI σ b 12 = nI (psF q).length := hP.1
  have h40 := hc.2.1
  intro n
  induction n with
  | zero =>
    intro r x hr ho
    refine q_iload_n dX2_blocksComeTo_4 rfl rfl ?_
    refine q_aload_n dX2_blocksComeTo_5 rfl rfl rfl ?_
    refine q_geti (x := nI ((psF q).length)) dX2_blocksComeTo_6 fX2_61 rfl (ty_r hb 0 rfl) hB ?_
    refine q_icmp_geN (tgt := 56) dX2_blocksComeTo_9 (by decide) (by omega) (by omega) (fun c9 => ?_) (fun c9 => ?_)
    · skip
      refine q_lload_n dX2_blocksComeTo_56 rfl rfl ?_
      refine q_lreturn dX2_blocksComeTo_57 rfl (by omega) (by omega) ?_
      exact ⟨x, rfl, rfl, RO_end hn h0 (by rw [← hr]; exact ho)⟩
    · exact absurd c9 (by omega)
  | succ n ih =>
    intro r x hr ho
    refine q_iload_n dX2_blocksComeTo_4 rfl rfl ?_
    refine q_aload_n dX2_blocksComeTo_5 rfl rfl rfl ?_
    refine q_geti (x := nI ((psF q).length)) dX2_blocksComeTo_6 fX2_61 rfl (ty_r hb 0 rfl) hB ?_
    refine q_icmp_geN (tgt := 56) dX2_blocksComeTo_9 (by decide) (by omega) (by omega) (fun c9 => ?_) (fun c9 => ?_)
    · exact absurd c9 (by omega)
    · skip
      refine q_iconst (v := nI 0) dX2_blocksComeTo_12 rfl ?_
      refine q_istore dX2_blocksComeTo_13 (by decide) (ls' := [(4, .int (nI 0)), (0, .ref b), (1, .long x), (3, .int (nI r))]) rfl ?_
      refine q_pk [1, 2, 3, 0] (ls' := [(0, .ref b), (1, .long x), (3, .int (nI r)), (4, .int (nI 0))]) rfl ?_
      exact y2_come_in hb hP hc hw (x0 := x) (fun x2 h2 => ih (r + 1) x2 (by omega) (RO_step hn h0 ho h2)) (psF q).length 0 x (by omega) (RI_beg ho)
theorem z2_come (hb : RB σ b) (hP : PSR σ b q) (hc : BC q) (hw : WFs q) (hn : NB q) (h0 : 0 < (psF q).length) : CT g mX2_blocksComeTo 3 0 0 [.ref b] σ (LQ σ (fun x => ∀ i, lb x i = true ↔ Rch q i)) := by
  have hb14 : b = 14 ∨ 99 ≤ b := by rcases hb.1 with h | ⟨j, h⟩ <;> omega
  refine CT.of (by decide) (Nat.le_of_ble_eq_true rfl) ?_
  refine q_lconst (v := (1 : Int64)) dX2_blocksComeTo_0 rfl ?_
  refine q_lstore_n dX2_blocksComeTo_1 rfl (by decide) (ls' := [(1, .long (1 : Int64)), (0, .ref b)]) rfl ?_
  refine q_iconst (v := nI 0) dX2_blocksComeTo_2 rfl ?_
  refine q_istore_n dX2_blocksComeTo_3 rfl (by decide) (ls' := [(3, .int (nI 0)), (1, .long (1 : Int64)), (0, .ref b)]) rfl ?_
  refine q_pk [2, 1, 0] (ls' := [(0, .ref b), (1, .long (1 : Int64)), (3, .int (nI 0))]) rfl ?_
  refine y2_come_out hb hP hc hw hn h0 (psF q).length 0 1 (by omega) ⟨fun i hi => ?_, by rw [lb_1]; rfl, ?_⟩
  · rw [lb_1, decide_eq_true_iff] at hi
    subst hi; exact Rch_z
  · refine Or.inr ?_
    refine Nat.le_trans (Nat.succ_le_of_lt ?_) (Nat.le_refl _)
    exact Nat.lt_of_le_of_lt (Nat.zero_le _) (cnt_lt (f := fun _ => false) (n := (psF q).length) (fun _ _ h => by cases h) ⟨0, h0, by rw [lb_1]; rfl, by decide⟩)
end RCH
