/-! The class's parser: blocks that leave; the whole text. -/
def dn : Nat → Int32
  | 0 => -1
  | m + 1 => nI m
theorem dn_inc (m : Nat) : nI m + (-1) = dn m := by
  cases m with
  | zero => rfl
  | succ m => show nI (m + 1) + (-1) = nI m; rw [← Int32.sub_eq_add_neg]; exact nI_pred m
theorem dn_pos {m : Nat} (h : 0 < m) : dn m = nI (m - 1) := by
  cases m with
  | zero => omega
  | succ m => rfl
section LVS
variable {g : GG} {σ : HS} {b : Nat} {q : PS}
def cn (q : PS) (f : Nat → Bool) (j : Nat) : Prop := rK (eR q j) = 6 ∨ ∃ i, wyB q j i ∧ f i = true
def RIb (q : PS) (x0 x : Int64) (m : Nat) : Prop := (∀ i, lb x i = true → Lvs q i) ∧ (∀ i, lb x0 i = true → lb x i = true) ∧ (∀ j, m ≤ j → j < (psF q).length → cn q (lb x0) j → lb x j = true) ∧ (CLb q (lb x0) → ∀ i, lb x i = true → lb x0 i = true)
def ROb (q : PS) (x : Int64) (r : Nat) : Prop := (∀ i, lb x i = true → Lvs q i) ∧ (CLb q (lb x) ∨ r ≤ cnt (lb x) (psF q).length)
theorem cn_mono {f f' : Nat → Bool} (h : ∀ i, f i = true → f' i = true) {j : Nat} (hc : cn q f j) : cn q f' j := by
  rcases hc with hc | ⟨i, h1, h2⟩
  · exact Or.inl hc
  · exact Or.inr ⟨i, h1, h i h2⟩
theorem ROb_step {x0 x : Int64} {r : Nat} (h : ROb q x0 r) (h2 : RIb q x0 x 0) : ROb q x (r + 1) := by
  obtain ⟨h3, h4, h5, h6⟩ := h2
  refine ⟨h3, ?_⟩
  by_cases e : CLb q (lb x0)
  · exact Or.inl fun j hj hx => h4 j (e j hj (cn_mono (h6 e) hx))
  · rcases h.2 with c | c
    · exact absurd c e
    · refine Or.inr ?_
      have : ∃ i, i < (psF q).length ∧ lb x i = true ∧ ¬ lb x0 i = true := by
        refine Classical.byContradiction fun hne => e ?_
        intro j hj hx
        exact Classical.byContradiction fun h8 => hne ⟨j, hj, h5 j (by omega) hj hx, h8⟩
      have := cnt_lt (n := (psF q).length) (fun i _ => h4 i) this
      omega
theorem cnt_all {f : Nat → Bool} : ∀ {n : Nat}, n ≤ cnt f n → ∀ i, i < n → f i = true
  | 0, _, i, hi => absurd hi (by omega)
  | n + 1, h, i, hi => by
    have h1 := cnt_le f n
    unfold cnt at h
    by_cases e : f n = true
    · rw [if_pos e] at h
      by_cases ei : i = n
      · rw [ei]; exact e
      · exact cnt_all (n := n) (by omega) i (by omega)
    · rw [if_neg e] at h; omega
theorem ROb_end {x : Int64} (hn : NB q) (h : ROb q x (psF q).length) {i : Nat} (hi : i < (psF q).length) : lb x i = true ↔ Lvs q i := by
  obtain ⟨h1, h3⟩ := h
  refine ⟨h1 i, fun hr => ?_⟩
  rcases h3 with c | c
  · exact Lvs_cl hn c hr hi
  · exact cnt_all c i hi
theorem RIb_beg {x : Int64} {r : Nat} (h : ROb q x r) : RIb q x x (psF q).length := ⟨h.1, fun _ h => h, fun j h1 h2 => absurd h1 (by omega), fun _ _ h => h⟩
theorem RIb_yes {x0 x : Int64} {m : Nat} (hm : m < 64) (hj : m < (psF q).length) (h : RIb q x0 x (m + 1)) (hx : cn q (lb x) m) : RIb q x0 (x ||| sh1 m) m := by
  obtain ⟨h3, h4, h5, h6⟩ := h
  have el : ∀ i, lb (x ||| sh1 m) i = true ↔ (lb x i = true ∨ i = m) := fun i => by rw [lb_or, lb_sh hm, Bool.or_eq_true, decide_eq_true_iff]
  refine ⟨fun i hi => ?_, fun i hi => (el i).mpr (Or.inl (h4 i hi)), fun j h7 h8 h9 => ?_, fun hcl i hi => ?_⟩
  · rcases (el i).mp hi with hi | rfl
    · exact h3 i hi
    · rcases hx with hx | ⟨a, h1, h2⟩
      · exact Lvs_l hx
      · exact Lvs_s h1 (h3 a h2)
  · by_cases e : j = m
    · exact (el j).mpr (Or.inr e)
    · exact (el j).mpr (Or.inl (h5 j (by omega) h8 h9))
  · rcases (el i).mp hi with hi | rfl
    · exact h6 hcl i hi
    · exact hcl i hj (cn_mono (h6 hcl) hx)
theorem RIb_no {x0 x : Int64} {m : Nat} (h : RIb q x0 x (m + 1)) (hx : ¬ cn q (lb x) m) : RIb q x0 x m := by
  obtain ⟨h3, h4, h5, h6⟩ := h
  refine ⟨h3, h4, fun j h7 h8 h9 => ?_, h6⟩
  by_cases e : j = m
  · subst e; exact absurd (cn_mono h4 h9) hx
  · exact h5 j (by omega) h8 h9
theorem lv_yes {x : Int64} (hc : BC q) (hw : WFs q) {j : Nat} (hj : j < (psF q).length) (h : ¬ lg_cmp ((oB (wy q 0 j) ||| oB (wy q 1 j)) &&& x) 0 = 0) : cn q (lb x) j := by
  refine Classical.byContradiction fun hne => h (cmp_z.mpr fun i _ => ?_)
  rw [lb_and]
  by_cases e : lb (oB (wy q 0 j) ||| oB (wy q 1 j)) i = true
  · by_cases e2 : lb x i = true
    · exact absurd (Or.inr ⟨i, (lb_nm hc hw hj i).mp e, e2⟩) hne
    · rw [Bool.eq_false_iff.mpr e2, Bool.and_false]
  · rw [Bool.eq_false_iff.mpr e, Bool.false_and]
theorem lv_no {x : Int64} (hc : BC q) (hw : WFs q) {j : Nat} (hj : j < (psF q).length) (h6 : ¬ rK (eR q j) = 6) (h : lg_cmp ((oB (wy q 0 j) ||| oB (wy q 1 j)) &&& x) 0 = 0) : ¬ cn q (lb x) j := by
  rintro (h1 | ⟨i, h1, h2⟩)
  · exact h6 h1
  · have hi : i < 64 := by
      obtain ⟨-, -, -, -, -, -, -, -, e9, -⟩ := end_w hc hw hj
      rcases h1 with h1 | h1
      · have := e9 0 i h1; omega
      · have := e9 1 i h1; omega
    have := cmp_z.mp h i hi
    rw [lb_and, (lb_nm hc hw hj i).mpr h1, h2] at this
    cases this
theorem y2_leave_in (hb : RB σ b) (hP : PSR σ b q) (hc : BC q) (hw : WFs q) {Z : List Frame → Array Value → State → State → Prop} {x0 : Int64} {r : Nat} (K : ∀ x, RIb q x0 x 0 → WA g mX2_blocksThatLeave 3 0 0 Z 0 0 4 [(0, .ref b), (1, .long x), (3, .int (nI (r + 1)))] [] σ) : ∀ (m : Nat) (x : Int64), m ≤ (psF q).length → RIb q x0 x m → WA g mX2_blocksThatLeave 3 0 0 Z 0 0 20 [(0, .ref b), (1, .long x), (3, .int (nI r)), (4, .int (dn m))] [] σ := by
  have hb14 : b = 14 ∨ 99 ≤ b := by rcases hb.1 with h | ⟨j, h⟩ <;> omega
  have h40 := hc.2.1
  intro m
  induction m with
  | zero =>
    intro x hj hi
    refine q_iload dX2_blocksThatLeave_20 rfl ?_
    refine q_if_lt1 (tgt := 67) dX2_blocksThatLeave_22 (by decide) (by decide) ?_
    refine q_iincN (c := 1) dX2_blocksThatLeave_67 rfl (by decide) rfl (ls' := [(3, .int (nI (r + 1))), (0, .ref b), (1, .long x), (4, .int (-1))]) rfl ?_
    refine q_goto (tgt := 4) dX2_blocksThatLeave_70 (by decide) ?_
    refine q_pk [1, 2, 0] (ls' := [(0, .ref b), (1, .long x), (3, .int (nI (r + 1)))]) rfl ?_
    exact K x hi
  | succ m ih =>
    intro x hj hi
    obtain ⟨e1, e2, e3, e4, e5, e6, e7, e8, e9, -⟩ := end_w hc hw (j := m) (by omega)
    obtain ⟨g1, g2, g3, g4, g5, g6⟩ := end_r hP hc hw (j := m) (by omega)
    refine q_iload dX2_blocksThatLeave_20 rfl ?_
    refine q_if_ltN (tgt := 67) dX2_blocksThatLeave_22 (by decide) (by omega) ?_
    refine q_aload_n dX2_blocksThatLeave_25 rfl rfl rfl ?_
    refine q_getr (r := b + 1) dX2_blocksThatLeave_26 fX2_9 rfl (ty_r hb 0 rfl) (hb.2.2 0 0 1 rfl) ?_
    refine q_aload_n dX2_blocksThatLeave_29 rfl rfl rfl ?_
    refine q_iload dX2_blocksThatLeave_30 rfl ?_
    refine q_callV (As := [.int (nI m)]) (rest := [.ref (b + 1)]) dX2_blocksThatLeave_32 vX2_115 (ty_r hb 0 rfl) ⟨by decide, rfl⟩ (z2_endOf hb (by omega) g1 e1 (by omega)) rfl rfl (Nat.le_of_ble_eq_true rfl) (by omega) (by omega) (by omega) (k_p ?_)
    refine q_iald (x := nI (rK (eR q m))) (j := (nf q (m + 1) - 1)) dX2_blocksThatLeave_35 (ty_r hb 1 rfl) (ix_n (by omega) (by omega)) g2 ?_
    refine q_bipush (v := nI 6) dX2_blocksThatLeave_36 rfl ?_
    refine q_icmp_eqN (tgt := 54) dX2_blocksThatLeave_38 (by decide) (by omega) (by omega) (fun c38 => ?_) (fun c38 => ?_)
    · skip
      refine q_lload_n dX2_blocksThatLeave_54 rfl rfl ?_
      refine q_lconst (v := (1 : Int64)) dX2_blocksThatLeave_55 rfl ?_
      refine q_iload dX2_blocksThatLeave_56 rfl ?_
      refine q_lshl (v := (1 : Int64) <<< ((nI m).toInt64 &&& 63)) dX2_blocksThatLeave_58 rfl ?_
      refine q_lor dX2_blocksThatLeave_59 ?_
      refine q_lstore_n dX2_blocksThatLeave_60 rfl (by decide) (ls' := [(1, .long (x ||| ((1 : Int64) <<< ((nI m).toInt64 &&& 63)))), (0, .ref b), (3, .int (nI r)), (4, .int (nI m))]) rfl ?_
      refine q_iinc (v := dn m) dX2_blocksThatLeave_61 rfl (dn_inc m) (by decide) (ls' := [(4, .int (dn m)), (1, .long (x ||| ((1 : Int64) <<< ((nI m).toInt64 &&& 63)))), (0, .ref b), (3, .int (nI r))]) rfl ?_
      refine q_goto (tgt := 20) dX2_blocksThatLeave_64 (by decide) ?_
      refine q_pk [2, 1, 3, 0] (ls' := [(0, .ref b), (1, .long (x ||| ((1 : Int64) <<< ((nI m).toInt64 &&& 63)))), (3, .int (nI r)), (4, .int (dn m))]) rfl ?_
      refine ih _ (by omega) ?_
      first | exact RIb_yes (by omega) (by omega) hi (Or.inl c38) | exact RIb_yes (by omega) (by omega) hi (lv_yes hc hw (by omega) c51) | exact RIb_no hi (lv_no hc hw (by omega) c38 c51)
    · skip
      refine q_aload_n dX2_blocksThatLeave_41 rfl rfl rfl ?_
      refine q_iload dX2_blocksThatLeave_42 rfl ?_
      refine q_callV (As := [.int (nI m)]) (rest := []) dX2_blocksThatLeave_44 vX2_121 (ty_r hb 0 rfl) ⟨by decide, rfl⟩ (z2_blocksNamedBy hb (by omega) g1 e1 (by omega) g3 g4 (fun t ht => by have := e9 0 t ht; omega) (fun t ht => by have := e9 1 t ht; omega)) rfl rfl (Nat.le_of_ble_eq_true rfl) (by omega) (by omega) (by omega) (k_p ?_)
      refine q_lload_n dX2_blocksThatLeave_47 rfl rfl ?_
      refine q_land dX2_blocksThatLeave_48 ?_
      refine q_lconst (v := (0 : Int64)) dX2_blocksThatLeave_49 rfl ?_
      refine q_lcmp dX2_blocksThatLeave_50 ?_
      refine q_if_eq (tgt := 61) dX2_blocksThatLeave_51 (by decide) (fun c51 => ?_) (fun c51 => ?_)
      · skip
        refine q_iinc (v := dn m) dX2_blocksThatLeave_61 rfl (dn_inc m) (by decide) (ls' := [(4, .int (dn m)), (0, .ref b), (1, .long x), (3, .int (nI r))]) rfl ?_
        refine q_goto (tgt := 20) dX2_blocksThatLeave_64 (by decide) ?_
        refine q_pk [1, 2, 3, 0] (ls' := [(0, .ref b), (1, .long x), (3, .int (nI r)), (4, .int (dn m))]) rfl ?_
        refine ih _ (by omega) ?_
        first | exact RIb_yes (by omega) (by omega) hi (Or.inl c38) | exact RIb_yes (by omega) (by omega) hi (lv_yes hc hw (by omega) c51) | exact RIb_no hi (lv_no hc hw (by omega) c38 c51)
      · skip
        refine q_lload_n dX2_blocksThatLeave_54 rfl rfl ?_
        refine q_lconst (v := (1 : Int64)) dX2_blocksThatLeave_55 rfl ?_
        refine q_iload dX2_blocksThatLeave_56 rfl ?_
        refine q_lshl (v := (1 : Int64) <<< ((nI m).toInt64 &&& 63)) dX2_blocksThatLeave_58 rfl ?_
        refine q_lor dX2_blocksThatLeave_59 ?_
        refine q_lstore_n dX2_blocksThatLeave_60 rfl (by decide) (ls' := [(1, .long (x ||| ((1 : Int64) <<< ((nI m).toInt64 &&& 63)))), (0, .ref b), (3, .int (nI r)), (4, .int (nI m))]) rfl ?_
        refine q_iinc (v := dn m) dX2_blocksThatLeave_61 rfl (dn_inc m) (by decide) (ls' := [(4, .int (dn m)), (1, .long (x ||| ((1 : Int64) <<< ((nI m).toInt64 &&& 63)))), (0, .ref b), (3, .int (nI r))]) rfl ?_
        refine q_goto (tgt := 20) dX2_blocksThatLeave_64 (by decide) ?_
        refine q_pk [2, 1, 3, 0] (ls' := [(0, .ref b), (1, .long (x ||| ((1 : Int64) <<< ((nI m).toInt64 &&& 63)))), (3, .int (nI r)), (4, .int (dn m))]) rfl ?_
        refine ih _ (by omega) ?_
        first | exact RIb_yes (by omega) (by omega) hi (Or.inl c38) | exact RIb_yes (by omega) (by omega) hi (lv_yes hc hw (by omega) c51) | exact RIb_no hi (lv_no hc hw (by omega) c38 c51)
theorem y2_leave_out (hb : RB σ b) (hP : PSR σ b q) (hc : BC q) (hw : WFs q) (hn : NB q) (h0 : 0 < (psF q).length) : ∀ (n r : Nat) (x : Int64), r + n = (psF q).length → ROb q x r → WA g mX2_blocksThatLeave 3 0 0 (ZM g (LQ σ (fun x => ∀ i, i < (psF q).length → (lb x i = true ↔ Lvs q i))) 0 0) 0 0 4 [(0, .ref b), (1, .long x), (3, .int (nI r))] [] σ := by
  have hb14 : b = 14 ∨ 99 ≤ b := by rcases hb.1 with h | ⟨j, h⟩ <;> omega
  have hB : sI σ b 12 = nI (psF q).length := hP.1
  have h40 := hc.2.1
  intro n
  induction n with
  | zero =>
    intro r x hr ho
    refine q_iload_n dX2_blocksThatLeave_4 rfl rfl ?_
    refine q_aload_n dX2_blocksThatLeave_5 rfl rfl rfl ?_
    refine q_geti (x := nI ((psF q).length)) dX2_blocksThatLeave_6 fX2_61 rfl (ty_r hb 0 rfl) hB ?_
    refine q_icmp_geN (tgt := 73) dX2_blocksThatLeave_9 (by decide) (by omega) (by omega) (fun c9 => ?_) (fun c9 => ?_)
    · skip
      refine q_lload_n dX2_blocksThatLeave_73 rfl rfl ?_
      refine q_lreturn dX2_blocksThatLeave_74 rfl (by omega) (by omega) ?_
      exact ⟨x, rfl, rfl, fun i hi => ROb_end hn (by rw [← hr]; exact ho) hi⟩
    · exact absurd c9 (by omega)
  | succ n ih =>
    intro r x hr ho
    refine q_iload_n dX2_blocksThatLeave_4 rfl rfl ?_
    refine q_aload_n dX2_blocksThatLeave_5 rfl rfl rfl ?_
    refine q_geti (x := nI ((psF q).length)) dX2_blocksThatLeave_6 fX2_61 rfl (ty_r hb 0 rfl) hB ?_
    refine q_icmp_geN (tgt := 73) dX2_blocksThatLeave_9 (by decide) (by omega) (by omega) (fun c9 => ?_) (fun c9 => ?_)
    · exact absurd c9 (by omega)
    · skip
      refine q_aload_n dX2_blocksThatLeave_12 rfl rfl rfl ?_
      refine q_geti (x := nI ((psF q).length)) dX2_blocksThatLeave_13 fX2_61 rfl (ty_r hb 0 rfl) hB ?_
      refine q_iconst (v := nI 1) dX2_blocksThatLeave_16 rfl ?_
      refine q_isubN dX2_blocksThatLeave_17 (by omega) ?_
      refine q_istore dX2_blocksThatLeave_18 (by decide) (ls' := [(4, .int (nI (((psF q).length) - 1))), (0, .ref b), (1, .long x), (3, .int (nI r))]) rfl ?_
      refine q_pk [1, 2, 3, 0] (ls' := [(0, .ref b), (1, .long x), (3, .int (nI r)), (4, .int (nI (((psF q).length) - 1)))]) rfl ?_
      rw [← dn_pos h0]
      exact y2_leave_in hb hP hc hw (x0 := x) (fun x2 h2 => ih (r + 1) x2 (by omega) (ROb_step ho h2)) (psF q).length x (Nat.le_refl _) (RIb_beg ho)
theorem z2_leave (hb : RB σ b) (hP : PSR σ b q) (hc : BC q) (hw : WFs q) (hn : NB q) (h0 : 0 < (psF q).length) : CT g mX2_blocksThatLeave 3 0 0 [.ref b] σ (LQ σ (fun x => ∀ i, i < (psF q).length → (lb x i = true ↔ Lvs q i))) := by
  have hb14 : b = 14 ∨ 99 ≤ b := by rcases hb.1 with h | ⟨j, h⟩ <;> omega
  refine CT.of (by decide) (Nat.le_of_ble_eq_true rfl) ?_
  refine q_lconst (v := (0 : Int64)) dX2_blocksThatLeave_0 rfl ?_
  refine q_lstore_n dX2_blocksThatLeave_1 rfl (by decide) (ls' := [(1, .long (0 : Int64)), (0, .ref b)]) rfl ?_
  refine q_iconst (v := nI 0) dX2_blocksThatLeave_2 rfl ?_
  refine q_istore_n dX2_blocksThatLeave_3 rfl (by decide) (ls' := [(3, .int (nI 0)), (1, .long (0 : Int64)), (0, .ref b)]) rfl ?_
  refine q_pk [2, 1, 0] (ls' := [(0, .ref b), (1, .long (0 : Int64)), (3, .int (nI 0))]) rfl ?_
  exact y2_leave_out hb hP hc hw hn h0 (psF q).length 0 0 (by omega) ⟨fun i hi => (by rw [lb_0] at hi; cases hi), Or.inr (Nat.zero_le _)⟩
/-- the first block that is not f, told as w -/
def FN (q : PS) (f : Nat → Prop) (w : Nat) (e : Nat × Nat) : Prop := ∃ j, j < (psF q).length ∧ (∀ i, i < j → f i) ∧ ¬ f j ∧ e = (w, (psH q).getD j 0)
theorem FN_un {f : Nat → Prop} {w : Nat} {e e' : Nat × Nat} (h : FN q f w e) (h' : FN q f w e') : e = e' := by
  obtain ⟨j, h1, h2, h3, h4⟩ := h
  obtain ⟨j', g1, g2, g3, g4⟩ := h'
  have ej : j = j' := by
    rcases Nat.lt_trichotomy j j' with l | l | l
    · exact absurd (g2 j l) h3
    · exact l
    · exact absurd (h2 j' l) g3
  rw [h4, g4, ej]
theorem FN_no {f : Nat → Prop} {w : Nat} {e : Nat × Nat} (h : FN q f w e) (h2 : ∀ i, i < (psF q).length → f i) : False := by
  obtain ⟨j, h1, -, h3, -⟩ := h
  exact h3 (h2 j h1)
def AQ (σ : HS) (q : PS) (f : Nat → Prop) (w : Nat) : Option Value → HS → Prop := fun r σ' => (r = some (.int (bi true)) ∧ σ' = σ ∧ ∀ i, i < (psF q).length → f i) ∨ ∃ e, r = some (.int (bi false)) ∧ σ' = erS σ e ∧ FN q f w e
theorem y1_allIn (hS : SK σ) (hb : RB σ b) (hR : sR σ 5 5 = b) (hP : PSR σ b q) (hc : BC q) {x : Int64} {f : Nat → Prop} (hf : ∀ i, i < (psF q).length → (lb x i = true ↔ f i)) {w : Nat} : ∀ (n j : Nat), j + n = (psF q).length → (∀ i, i < j → f i) → WA g mX1_areAllIn 1 0 0 (ZM g (AQ σ q f w) 0 0) 0 0 3 [(0, .ref 5), (1, .long x), (3, .int (nI w)), (4, .int (nI j))] [] σ := by
  have hb14 : b = 14 ∨ 99 ≤ b := by rcases hb.1 with h | ⟨j, h⟩ <;> omega
  have hB : sI σ b 12 = nI (psF q).length := hP.1
  have h40 := hc.2.1
  have hH := hc.1
  intro n
  induction n with
  | zero =>
    intro j hj hi
    refine q_iload dX1_areAllIn_3 rfl ?_
    refine q_aload_n dX1_areAllIn_5 rfl rfl rfl ?_
    refine q_getr (r := b) dX1_areAllIn_6 fX1_30 rfl (ty_c hS (by decide) rfl) hR ?_
    refine q_geti (x := nI ((psF q).length)) dX1_areAllIn_9 fX1_95 rfl (ty_r hb 0 rfl) hB ?_
    refine q_icmp_geN (tgt := 45) dX1_areAllIn_12 (by decide) (by omega) (by omega) (fun c12 => ?_) (fun c12 => ?_)
    · skip
      refine q_iconst (v := nI 1) dX1_areAllIn_45 rfl ?_
      refine q_ireturn dX1_areAllIn_46 rfl rfl (by omega) (by omega) ?_
      exact Or.inl ⟨rfl, rfl, fun i h => hi i (by omega)⟩
    · exact absurd c12 (by omega)
  | succ n ih =>
    intro j hj hi
    have hp := hP.2.2.2.2.2.2.2.2.2 j (by omega)
    refine q_iload dX1_areAllIn_3 rfl ?_
    refine q_aload_n dX1_areAllIn_5 rfl rfl rfl ?_
    refine q_getr (r := b) dX1_areAllIn_6 fX1_30 rfl (ty_c hS (by decide) rfl) hR ?_
    refine q_geti (x := nI ((psF q).length)) dX1_areAllIn_9 fX1_95 rfl (ty_r hb 0 rfl) hB ?_
    refine q_icmp_geN (tgt := 45) dX1_areAllIn_12 (by decide) (by omega) (by omega) (fun c12 => ?_) (fun c12 => ?_)
    · exact absurd c12 (by omega)
    · skip
      refine q_lload_n dX1_areAllIn_15 rfl rfl ?_
      refine q_iload dX1_areAllIn_16 rfl ?_
      refine q_lushr (v := (x.toUInt64 >>> ((nI j).toInt64.toUInt64 &&& Int64.toUInt64 63)).toInt64) dX1_areAllIn_18 rfl ?_
      refine q_lconst (v := (1 : Int64)) dX1_areAllIn_19 rfl ?_
      refine q_land dX1_areAllIn_20 ?_
      refine q_lconst (v := (0 : Int64)) dX1_areAllIn_21 rfl ?_
      refine q_lcmp dX1_areAllIn_22 ?_
      refine q_if_ne (tgt := 39) dX1_areAllIn_23 (by decide) (fun c23 => ?_) (fun c23 => ?_)
      · skip
        refine q_iincN (c := 1) dX1_areAllIn_39 rfl (by decide) rfl (ls' := [(4, .int (nI (j + 1))), (0, .ref 5), (1, .long x), (3, .int (nI w))]) rfl ?_
        refine q_goto (tgt := 3) dX1_areAllIn_42 (by decide) ?_
        refine q_pk [1, 2, 3, 0] (ls' := [(0, .ref 5), (1, .long x), (3, .int (nI w)), (4, .int (nI (j + 1)))]) rfl ?_
        refine ih (j + 1) (by omega) (fun i h => ?_)
        by_cases e : i = j
        · subst e
          refine (hf i (by omega)).mp (Classical.byContradiction fun h2 => c23 ((cmp_0 (by omega)).mpr (Bool.eq_false_iff.mpr h2)))
        · exact hi i (by omega)
      · skip
        refine q_aload_n dX1_areAllIn_26 rfl rfl rfl ?_
        refine q_iload_n dX1_areAllIn_27 rfl rfl ?_
        refine q_aload_n dX1_areAllIn_28 rfl rfl rfl ?_
        refine q_getr (r := 10) dX1_areAllIn_29 fX1_18 rfl (ty_c hS (by decide) rfl) (hS.2 5 1 10 rfl) ?_
        refine q_iload dX1_areAllIn_32 rfl ?_
        refine q_iald (x := nI ((psH q).getD j 0)) (j := j) dX1_areAllIn_34 (ty_c hS (by decide) rfl) (ix_n (by omega) (by omega)) hp ?_
        refine q_callV (As := [.int (nI w), .int (nI ((psH q).getD j 0))]) (rest := []) dX1_areAllIn_35 vX1_148 (ty_c hS (by decide) rfl) ⟨by decide, rfl⟩ (z1_refuseAt hS (w := nI w) (p := (nI ((psH q).getD j 0)))) rfl rfl (Nat.le_of_ble_eq_true rfl) (by omega) (by omega) (by omega) (k_p ?_)
        refine q_ireturn dX1_areAllIn_38 rfl (bi_nar _) (by omega) (by omega) ?_
        refine Or.inr ⟨_, rfl, rfl, j, by omega, hi, fun h2 => ?_, rfl⟩
        have h3 := (hf j (by omega)).mpr h2
        rw [(cmp_0 (by omega)).mp c23] at h3
        cases h3
theorem z1_allIn (hS : SK σ) (hb : RB σ b) (hR : sR σ 5 5 = b) (hP : PSR σ b q) (hc : BC q) {x : Int64} {f : Nat → Prop} (hf : ∀ i, i < (psF q).length → (lb x i = true ↔ f i)) {w : Nat} : CT g mX1_areAllIn 1 0 0 [.ref 5, .long x, .int (nI w)] σ (AQ σ q f w) := by
  refine CT.of (by decide) (Nat.le_of_ble_eq_true rfl) ?_
  refine q_iconst (v := nI 0) dX1_areAllIn_0 rfl ?_
  refine q_istore dX1_areAllIn_1 (by decide) (ls' := [(4, .int (nI 0)), (0, .ref 5), (1, .long x), (3, .int (nI w))]) rfl ?_
  refine q_pk [1, 2, 3, 0] (ls' := [(0, .ref 5), (1, .long x), (3, .int (nI w)), (4, .int (nI 0))]) rfl ?_
  exact y1_allIn hS hb hR hP hc hf (psF q).length 0 (by omega) (fun i hi => absurd hi (by omega))
theorem z1_allIn_ok (hS : SK σ) (hb : RB σ b) (hR : sR σ 5 5 = b) (hP : PSR σ b q) (hc : BC q) {x : Int64} {f : Nat → Prop} (hf : ∀ i, i < (psF q).length → (lb x i = true ↔ f i)) {w : Nat} (h : ∀ i, i < (psF q).length → f i) : CT g mX1_areAllIn 1 0 0 [.ref 5, .long x, .int (nI w)] σ (PQ σ (.int (bi true))) := by
  refine CT.mono ?_ (z1_allIn hS hb hR hP hc hf)
  rintro r σ' (⟨h1, h2, -⟩ | ⟨e, h1, h2, h3⟩)
  · exact ⟨h2, h1⟩
  · exact (FN_no h3 h).elim
theorem z1_allIn_er (hS : SK σ) (hb : RB σ b) (hR : sR σ 5 5 = b) (hP : PSR σ b q) (hc : BC q) {x : Int64} {f : Nat → Prop} (hf : ∀ i, i < (psF q).length → (lb x i = true ↔ f i)) {w : Nat} {e : Nat × Nat} (h : FN q f w e) : CT g mX1_areAllIn 1 0 0 [.ref 5, .long x, .int (nI w)] σ (PQ (erS σ e) (.int (bi false))) := by
  refine CT.mono ?_ (z1_allIn hS hb hR hP hc hf)
  rintro r σ' (⟨h1, h2, h3⟩ | ⟨e', h1, h2, h3⟩)
  · exact (FN_no h h3).elim
  · rw [FN_un h h3]; exact ⟨h2, h1⟩
end LVS
