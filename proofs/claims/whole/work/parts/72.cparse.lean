/-! The class's parse. -/
/-- references: place i of the four is b, the spare ROUTINE is c; n cells -/
def PR4 (σ σ' : HS) (i b c n : Nat) : Prop := sN σ' = n ∧ sR σ' 4 i = b ∧ sR σ' 5 5 = c ∧ (∀ h k, ¬ (h = 4 ∧ k = i) → ¬ (h = 5 ∧ k = 5) → h ≤ sN σ → sR σ' h k = sR σ h k) ∧ RB σ' c ∧ (∀ h k, h ≤ sN σ → sI σ' h k = sI σ h k) ∧ sL σ' 58 = sL σ 58
theorem NW_RB {σ τ : HS} {b : Nat} (hb : b = 14 ∨ ∃ j, b = 99 + 32 * j) (hn : sN σ = b) (w : NW σ 31 [(0, 11, 21), (21, 9, 31), (21, 8, 30), (21, 7, 29), (21, 6, 28), (21, 5, 27), (21, 4, 26), (21, 3, 25), (21, 2, 24), (21, 1, 23), (21, 0, 22), (0, 10, 17), (17, 2, 20), (17, 1, 19), (17, 0, 18), (0, 9, 16), (0, 8, 15), (0, 7, 14), (0, 6, 11), (11, 1, 13), (11, 0, 12), (0, 5, 8), (8, 1, 10), (8, 0, 9), (0, 4, 7), (0, 3, 4), (4, 1, 6), (4, 0, 5), (0, 2, 3), (0, 1, 2), (0, 0, 1)] τ) : RB τ b := by
  refine ⟨hb, by have := w.1; omega, fun o k r h => ?_⟩
  have hl : ∀ o, o < 22 → ∀ k, k < 12 → ∀ r, skr o k = some r → lkp [(0, 11, 21), (21, 9, 31), (21, 8, 30), (21, 7, 29), (21, 6, 28), (21, 5, 27), (21, 4, 26), (21, 3, 25), (21, 2, 24), (21, 1, 23), (21, 0, 22), (0, 10, 17), (17, 2, 20), (17, 1, 19), (17, 0, 18), (0, 9, 16), (0, 8, 15), (0, 7, 14), (0, 6, 11), (11, 1, 13), (11, 0, 12), (0, 5, 8), (8, 1, 10), (8, 0, 9), (0, 4, 7), (0, 3, 4), (4, 1, 6), (4, 0, 5), (0, 2, 3), (0, 1, 2), (0, 0, 1)] o k = some r := by
    have : ∀ o : Fin 22, ∀ k : Fin 12, (match skr o.val k.val with | none => true | some r => lkp [(0, 11, 21), (21, 9, 31), (21, 8, 30), (21, 7, 29), (21, 6, 28), (21, 5, 27), (21, 4, 26), (21, 3, 25), (21, 2, 24), (21, 1, 23), (21, 0, 22), (0, 10, 17), (17, 2, 20), (17, 1, 19), (17, 0, 18), (0, 9, 16), (0, 8, 15), (0, 7, 14), (0, 6, 11), (11, 1, 13), (11, 0, 12), (0, 5, 8), (8, 1, 10), (8, 0, 9), (0, 4, 7), (0, 3, 4), (4, 1, 6), (4, 0, 5), (0, 2, 3), (0, 1, 2), (0, 0, 1)] o.val k.val == some r) = true := by decide +kernel
    intro o ho k hk r hr
    have h2 := this ⟨o, ho⟩ ⟨k, hk⟩
    simp only [hr] at h2
    exact eq_of_beq h2
  have ho : o < 22 ∧ k < 12 := by
    unfold skr at h
    split at h
    all_goals first | (have := (List.getElem?_eq_some_iff.mp h).1; simp only [List.length_cons, List.length_nil] at this; omega) | cases h
  rw [w.2.2.2, if_pos (show sN σ ≤ b + o by omega), show b + o - sN σ = o by omega, hl o ho.1 k ho.2 r h]
  show sN σ + r = b + r
  rw [hn]
section CPA
variable {g : GG} {b : Nat} {q : PS}
theorem SK.u55 {σ : HS} {r : Nat} (k : SK σ) : SK (uR σ 5 5 r) := ⟨k.1, fun h j x hx => by
  show (if h = 5 ∧ j = 5 then r else sR σ h j) = x
  rw [if_neg]
  · exact k.2 h j x hx
  · rintro ⟨rfl, rfl⟩; cases hx⟩
theorem SK.u4 {σ : HS} {i r : Nat} (k : SK σ) : SK (uR σ 4 i r) := ⟨k.1, fun h j x hx => by
  show (if h = 4 ∧ j = i then r else sR σ h j) = x
  rw [if_neg]
  · exact k.2 h j x hx
  · rintro ⟨rfl, rfl⟩; cases hx⟩
theorem RB.u55 {σ : HS} {b r : Nat} (k : RB σ b) : RB (uR σ 5 5 r) b := ⟨k.1, k.2.1, fun o j x hx => by
  have hb14 : b = 14 ∨ 99 ≤ b := by rcases k.1 with h | ⟨j, h⟩ <;> omega
  show (if b + o = 5 ∧ j = 5 then r else sR σ (b + o) j) = b + x
  rw [if_neg (by omega)]
  exact k.2.2 o j x hx⟩
theorem RB.u4 {σ : HS} {b i r : Nat} (k : RB σ b) : RB (uR σ 4 i r) b := ⟨k.1, k.2.1, fun o j x hx => by
  have hb14 : b = 14 ∨ 99 ≤ b := by rcases k.1 with h | ⟨j, h⟩ <;> omega
  show (if b + o = 4 ∧ j = i then r else sR σ (b + o) j) = b + x
  rw [if_neg (by omega)]
  exact k.2.2 o j x hx⟩
theorem y8_pr4 {σ : HS} {i c : Nat} (hi : i < 4) (hcb : RB σ c) : PR4 σ (uR (uR σ 5 5 c) 4 i b) i b c (sN σ) := by
  refine ⟨rfl, ?_, ?_, fun h k h1 h2 _ => ?_, ⟨hcb.1, hcb.2.1, fun o k r hk => ?_⟩, fun _ _ _ => rfl, rfl⟩
  · show (if 4 = 4 ∧ i = i then b else (if 4 = 5 ∧ i = 5 then c else sR σ 4 i)) = b
    rw [if_pos ⟨rfl, rfl⟩]
  · show (if 5 = 4 ∧ 5 = i then b else if 5 = 5 ∧ 5 = 5 then c else sR σ 5 5) = c
    rw [if_neg (by omega), if_pos ⟨rfl, rfl⟩]
  · show (if h = 4 ∧ k = i then b else if h = 5 ∧ k = 5 then c else sR σ h k) = _
    rw [if_neg h1, if_neg h2]
  · have hc14 : c = 14 ∨ 99 ≤ c := by rcases hcb.1 with h | ⟨j, h⟩ <;> omega
    show (if c + o = 4 ∧ k = i then b else if c + o = 5 ∧ k = 5 then c else sR σ (c + o) k) = _
    rw [if_neg (by omega), if_neg (by omega)]
    exact hcb.2.2 o k r hk
theorem y8_parse3 {σ τ : HS} (hS : SK σ) (hr : RTN σ b q) {i : Nat} (hi : i < 4) {l : List (Nat × Nat × Nat)} (hl : (l.all fun x => decide (1 ≤ x.1)) = true) (w : NW σ 32 l τ) (hcb : RB τ (sN σ + 1)) {Q : Option Value → HS → Prop} (hQ : ∀ σ', PR4 σ σ' i b (sN σ + 1) (sN σ + 32) → Q (some (.int (nI (NN q)))) σ') : WA g mX8_parse 10 32 5276 (ZM g Q 32 5276) (0 + 1 + 31) (0 + 17 + 5259) 102 [(0, .ref 1), (1, .int (nI i)), (3, .ref b)] [.ref (sN σ + 1), .ref 5] τ := by
  obtain ⟨w1, w2, w3, w4⟩ := w
  have hb14 : b = 14 ∨ 99 ≤ b := by rcases hr.1.1 with h | ⟨j, h⟩ <;> omega
  have hbn := hr.1.2.1
  have h98 := hS.1
  have eR : ∀ h k, h ≤ sN σ → sR τ h k = sR σ h k := fun h k hh => by
    rw [w4]
    have : (if sN σ ≤ h then lkp l (h - sN σ) k else none) = none := by
      by_cases e : sN σ ≤ h
      · rw [if_pos e]
        unfold lkp
        rw [List.find?_eq_none.mpr fun x hx => ?_]; rfl
        have := of_decide_eq_true (List.all_eq_true.mp hl x hx)
        simp only [Bool.and_eq_true, beq_iff_eq, not_and]; omega
      · rw [if_neg e]
    rw [this]
    show (if _ then 0 else _) = _
    rw [if_neg (by omega)]
  have eI : ∀ h k, h ≤ sN σ → sI τ h k = sI σ h k := fun h k hh => by rw [w2, if_neg (by omega)]
  have hS2 : SK τ := ⟨by omega, fun h k r hk => by
    have : h ≤ 98 := by
      unfold skt at hk
      split at hk <;> first | omega | cases hk
    rw [eR h k (by omega)]; exact hS.2 h k r hk⟩
  have hb : RB τ b := ⟨hr.1.1, by omega, fun o k r hk => by
    have : o < 22 := by
      unfold skr at hk
      split at hk <;> first | omega | cases hk
    rw [eR _ k (by omega)]; exact hr.1.2.2 o k r hk⟩
  have h14 : sI τ b 14 = nI (NN q) := by rw [eI _ _ (by omega)]; exact hr.2.2.2.2.2.2.2.2.1
  have fin : PR4 σ (uR (uR τ 5 5 (sN σ + 1)) 4 i b) i b (sN σ + 1) (sN σ + 32) := by
    obtain ⟨p1, p2, p3, p4, p5, p6, p7⟩ := y8_pr4 (σ := τ) (b := b) hi hcb
    exact ⟨p1.trans w1, p2, p3, fun h k a1 a2 a3 => (p4 h k a1 a2 (by omega)).trans (eR h k a3), p5, fun h k a => (p6 h k (by omega)).trans (eI h k a), by rw [p7]; funext k; rw [w3, if_neg (by omega)]⟩
  refine q_goto (tgt := 111) dX8_parse_102 (by decide) ?_
  refine q_putr dX8_parse_111 fX8_68 rfl rfl (Or.inl rfl) (ty_c hS2 (by decide) rfl) ?_
  have hS3 := SK.u55 (r := sN σ + 1) hS2
  have hb3 := RB.u55 (r := sN σ + 1) hb
  refine q_aload_n dX8_parse_114 rfl rfl rfl ?_
  refine q_getr (r := 4) dX8_parse_115 fX8_18 rfl (ty_c hS3 (by decide) rfl) (hS3.2 1 1 4 rfl) ?_
  refine q_iload_n dX8_parse_118 rfl rfl ?_
  refine q_aload_n dX8_parse_119 rfl rfl rfl ?_
  refine q_aast (j := i) dX8_parse_120 (ty_c hS3 (by decide) rfl) (ix_n (by omega) (by omega)) (ty_r hb3 0 rfl) ?_
  have hS4 := SK.u4 (i := i) (r := b) hS3
  have hb4 := RB.u4 (i := i) (r := b) hb3
  refine q_aload_n dX8_parse_121 rfl rfl rfl ?_
  refine q_geti (x := nI (NN q)) dX8_parse_122 fX8_86 rfl (ty_r hb4 0 rfl) h14 ?_
  refine q_ireturn dX8_parse_125 rfl rfl (by omega) (by omega) ?_
  exact hQ _ fin
theorem y8_parse2 {σ : HS} (hS : SK σ) (hr : RTN σ b q) {i c : Nat} (hi : i < 4) (hR : sR σ 5 5 = b) (hc : sR σ 4 i = c) (h0 : c = 0 → ∃ m, sN σ = 98 + 32 * m) (h1 : c ≠ 0 → RB σ c) {Q : Option Value → HS → Prop} (hQ : ∀ σ', PR4 σ σ' i b (if c = 0 then sN σ + 1 else c) (if c = 0 then sN σ + 32 else sN σ) → Q (some (.int (nI (NN q)))) σ') : WA g mX8_parse 10 32 5276 (ZM g Q 32 5276) 0 0 82 [(0, .ref 1), (1, .int (nI i)), (3, .ref b)] [] σ := by
  have hb := hr.1
  have hb14 : b = 14 ∨ 99 ≤ b := by rcases hb.1 with h | ⟨j, h⟩ <;> omega
  have h14 := hr.2.2.2.2.2.2.2.2.1
  have h98 := hS.1
  by_cases hz : c = 0
  · obtain ⟨m, hm⟩ := h0 hz
    rw [if_pos hz, if_pos hz] at hQ
    rw [hz] at hc
    have hB : sN σ + 1 = 14 ∨ ∃ j, sN σ + 1 = 99 + 32 * j := Or.inr ⟨m, by omega⟩
    have hbn := hb.2.1
    refine q_aload_n dX8_parse_82 rfl rfl rfl ?_
    refine q_getr (r := 5) dX8_parse_83 fX8_25 rfl (ty_c hS (by decide) rfl) (hS.2 1 2 5 rfl) ?_
    refine q_aload_n dX8_parse_86 rfl rfl rfl ?_
    refine q_getr (r := 4) dX8_parse_87 fX8_18 rfl (ty_c hS (by decide) rfl) (hS.2 1 1 4 rfl) ?_
    refine q_iload_n dX8_parse_90 rfl rfl ?_
    refine q_aald (r := 0) (j := i) dX8_parse_91 (ty_c hS (by decide) rfl) (Or.inr rfl) (ix_n (by omega) (by omega)) hc ?_
    refine q_ifnonnull (tgt := 105) dX8_parse_92 (by decide) (fun c92 => ?_) (fun c92 => ?_)
    · exact absurd c92 (by omega)
    · skip
      refine q_newN (ci := 2) (n := 17) (h := sN σ + 1) dX8_parse_95 (by decide) rfl nX8_16 is2 iz2 rfl (TY_r hB (o := 0) rfl) (by omega) (by omega) ?_
      refine q_dup dX8_parse_98 rfl ?_
      refine q_callIN (As := []) (rest := [.ref (sN σ + 1), .ref 5]) dX8_parse_99 vX8_85 (by omega) (zi_Routine (b := sN σ + 1) hB rfl) rfl rfl (Nat.le_of_ble_eq_true rfl) (by omega) (by omega) (by omega) (k_v (fun s99 q99 => ?_))
      have w0 : NW σ 0 [] σ := NW.rf
      have w1 := (w0.nH (by decide)).tr q99 (by decide)
      have hRB := NW_RB hB rfl q99
      exact y8_parse3 hS hr hi (by decide) w1 hRB hQ
  · have hcb := h1 hz
    rw [if_neg hz, if_neg hz] at hQ
    refine q_aload_n dX8_parse_82 rfl rfl rfl ?_
    refine q_getr (r := 5) dX8_parse_83 fX8_25 rfl (ty_c hS (by decide) rfl) (hS.2 1 2 5 rfl) ?_
    refine q_aload_n dX8_parse_86 rfl rfl rfl ?_
    refine q_getr (r := 4) dX8_parse_87 fX8_18 rfl (ty_c hS (by decide) rfl) (hS.2 1 1 4 rfl) ?_
    refine q_iload_n dX8_parse_90 rfl rfl ?_
    refine q_aald (r := c) (j := i) dX8_parse_91 (ty_c hS (by decide) rfl) (Or.inr rfl) (ix_n (by omega) (by omega)) hc ?_
    refine q_ifnonnull (tgt := 105) dX8_parse_92 (by decide) (fun c92 => ?_) (fun c92 => ?_)
    · skip
      refine q_aload_n dX8_parse_105 rfl rfl rfl ?_
      refine q_getr (r := 4) dX8_parse_106 fX8_18 rfl (ty_c hS (by decide) rfl) (hS.2 1 1 4 rfl) ?_
      refine q_iload_n dX8_parse_109 rfl rfl ?_
      refine q_aald (r := c) (j := i) dX8_parse_110 (ty_c hS (by decide) rfl) (Or.inr rfl) (ix_n (by omega) (by omega)) hc ?_
      refine q_putr dX8_parse_111 fX8_68 rfl rfl (Or.inl rfl) (ty_c hS (by decide) rfl) ?_
      have hS3 := SK.u55 (r := c) hS
      have hb3 := RB.u55 (r := c) hb
      refine q_aload_n dX8_parse_114 rfl rfl rfl ?_
      refine q_getr (r := 4) dX8_parse_115 fX8_18 rfl (ty_c hS3 (by decide) rfl) (hS3.2 1 1 4 rfl) ?_
      refine q_iload_n dX8_parse_118 rfl rfl ?_
      refine q_aload_n dX8_parse_119 rfl rfl rfl ?_
      refine q_aast (j := i) dX8_parse_120 (ty_c hS3 (by decide) rfl) (ix_n (by omega) (by omega)) (ty_r hb3 0 rfl) ?_
      have hS4 := SK.u4 (i := i) (r := b) hS3
      have hb4 := RB.u4 (i := i) (r := b) hb3
      refine q_aload_n dX8_parse_121 rfl rfl rfl ?_
      refine q_geti (x := nI (NN q)) dX8_parse_122 fX8_86 rfl (ty_r hb4 0 rfl) h14 ?_
      refine q_ireturn dX8_parse_125 rfl rfl (by omega) (by omega) ?_
      exact hQ _ (y8_pr4 hi hcb)
    · exact absurd c92 hz
end CPA
