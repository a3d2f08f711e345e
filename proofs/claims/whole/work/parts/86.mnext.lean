/-! The model's next. -/
def NxQ (σ : HS) (T : Nat → Nat) (L p : Nat) : HS → Prop := fun σ' => LX9 σ σ' ∧ sI σ' 58 3 = nI p ∧
  ((p = L ∧ sI σ' 58 4 = nI L ∧ sI σ' 58 2 = nI 0) ∨
  (p < L ∧ isLet (T p) = true ∧ WdQ σ T L p (run isLD T L p) σ') ∨
  (p < L ∧ isLet (T p) = false ∧ isDig (T p) = true ∧ NmQ σ T p (run isLD T L p) σ') ∨
  (p < L ∧ isLD (T p) = false ∧ sI σ' 58 4 = nI (p + 1) ∧ sI σ' 58 2 = nI (if isSgB (T p) = true then 3 else 4) ∧ sI σ' 58 6 = nI (T p)))
theorem WdQ.x {σ τ υ : HS} {T : Nat → Nat} {L p e : Nat} (k : LX9 σ τ) (h : WdQ τ T L p e υ) : WdQ σ T L p e υ := ⟨k.tr h.1, h.2⟩
theorem NmQ.x {σ τ υ : HS} {T : Nat → Nat} {p e : Nat} (k : LX9 σ τ) (h : NmQ τ T p e υ) : NmQ σ T p e υ := ⟨k.tr h.1, h.2⟩
section MNX
variable {g : GG} {σ : HS} {L : Nat} {T : Nat → Nat}
theorem z9_atE (hS : SK σ) (hT : MTX σ L T) {k : Nat} (hk : k < L) : CT g mX9_at 0 0 0 [.ref 58, .int (nI k)] σ (PQ σ (.int (nI (T k)))) := by
  have hL := hT.2.1
  have z := z9_at (g := g) hS hT (k := k) (by omega)
  rw [show tz L T k = T k from if_pos hk] at z
  exact z
theorem y9_blank {σ0 : HS} (hS0 : SK σ0) (hT0 : MTX σ0 L T) {e0 : Nat} (he : e0 ≤ L) {Z : List Frame → Array Value → State → State → Prop} (K : ∀ σ, LX9 σ0 σ → sI σ 58 3 = nI (run isBl T L e0) → WA g mX9_next 2 0 0 Z 0 0 60 [(0, .ref 58)] [] σ) : ∀ (k i : Nat) (σ : HS), i + k = run isBl T L e0 → e0 ≤ i → LX9 σ0 σ → sI σ 58 3 = nI i → WA g mX9_next 2 0 0 Z 0 0 8 [(0, .ref 58)] [] σ := by
  have hb := run_le isBl T he
  have hL := hT0.2.1
  intro k
  induction k with
  | zero =>
    intro i σ hi h0 h1 h3
    have hS := SK.x9 h1 hS0
    have hT := hT0.x9 h1
    have t0 := hT.1
    have hib : i = run isBl T L e0 := by omega
    by_cases hl : i < L
    · obtain ⟨t1, t2⟩ := hT.2.2 i hl
      have hn := run_not (p := isBl) (T := T) (L := L) (i := e0) (by omega)
      rw [← hib] at hn
      unfold isBl at hn
      rw [Bool.or_eq_false_iff, beq_eq_false_iff_ne, beq_eq_false_iff_ne] at hn
      refine q_aload_n dX9_next_8 rfl rfl rfl ?_
      refine q_geti (x := nI i) dX9_next_9 fX9_20 rfl (ty_c hS (by decide) rfl) h3 ?_
      refine q_aload_n dX9_next_12 rfl rfl rfl ?_
      refine q_geti (x := nI L) dX9_next_13 fX9_13 rfl (ty_c hS (by decide) rfl) t0 ?_
      refine q_icmp_geN (tgt := 60) dX9_next_16 (by decide) (by omega) (by omega) (fun c16 => ?_) (fun c16 => ?_)
      · exact absurd c16 (by omega)
      · skip
        refine q_aload_n dX9_next_19 rfl rfl rfl ?_
        refine q_getr (r := 59) dX9_next_20 fX9_7 rfl (ty_c hS (by decide) rfl) (hS.2 58 0 59 rfl) ?_
        refine q_aload_n dX9_next_23 rfl rfl rfl ?_
        refine q_geti (x := nI i) dX9_next_24 fX9_20 rfl (ty_c hS (by decide) rfl) h3 ?_
        refine q_iald (x := nI (T i)) (j := i) dX9_next_27 (ty_c hS (by decide) rfl) (ix_n (by omega) (by omega)) t1 ?_
        refine q_bipush (v := nI 32) dX9_next_28 rfl ?_
        refine q_icmp_eqN (tgt := 47) dX9_next_30 (by decide) (by omega) (by omega) (fun c30 => ?_) (fun c30 => ?_)
        · exact absurd c30 hn.1
        · skip
          refine q_aload_n dX9_next_33 rfl rfl rfl ?_
          refine q_getr (r := 59) dX9_next_34 fX9_7 rfl (ty_c hS (by decide) rfl) (hS.2 58 0 59 rfl) ?_
          refine q_aload_n dX9_next_37 rfl rfl rfl ?_
          refine q_geti (x := nI i) dX9_next_38 fX9_20 rfl (ty_c hS (by decide) rfl) h3 ?_
          refine q_iald (x := nI (T i)) (j := i) dX9_next_41 (ty_c hS (by decide) rfl) (ix_n (by omega) (by omega)) t1 ?_
          refine q_bipush (v := nI 10) dX9_next_42 rfl ?_
          refine q_icmp_neN (tgt := 60) dX9_next_44 (by decide) (by omega) (by omega) (fun c44 => ?_) (fun c44 => ?_)
          · skip
            exact K σ h1 (by rw [← hib]; exact h3)
          · exact absurd c44 hn.2
    · skip
      refine q_aload_n dX9_next_8 rfl rfl rfl ?_
      refine q_geti (x := nI i) dX9_next_9 fX9_20 rfl (ty_c hS (by decide) rfl) h3 ?_
      refine q_aload_n dX9_next_12 rfl rfl rfl ?_
      refine q_geti (x := nI L) dX9_next_13 fX9_13 rfl (ty_c hS (by decide) rfl) t0 ?_
      refine q_icmp_geN (tgt := 60) dX9_next_16 (by decide) (by omega) (by omega) (fun c16 => ?_) (fun c16 => ?_)
      · skip
        exact K σ h1 (by rw [← hib]; exact h3)
      · exact absurd c16 (by omega)
  | succ k ih =>
    intro i σ hi h0 h1 h3
    have hS := SK.x9 h1 hS0
    have hT := hT0.x9 h1
    have t0 := hT.1
    obtain ⟨t1, t2⟩ := hT.2.2 i (by omega)
    have hn := run_all (p := isBl) (T := T) (L := L) (i := e0) (j := i) h0 (by omega)
    unfold isBl at hn
    rw [Bool.or_eq_true, beq_iff_eq, beq_iff_eq] at hn
    refine q_aload_n dX9_next_8 rfl rfl rfl ?_
    refine q_geti (x := nI i) dX9_next_9 fX9_20 rfl (ty_c hS (by decide) rfl) h3 ?_
    refine q_aload_n dX9_next_12 rfl rfl rfl ?_
    refine q_geti (x := nI L) dX9_next_13 fX9_13 rfl (ty_c hS (by decide) rfl) t0 ?_
    refine q_icmp_geN (tgt := 60) dX9_next_16 (by decide) (by omega) (by omega) (fun c16 => ?_) (fun c16 => ?_)
    · exact absurd c16 (by omega)
    · skip
      refine q_aload_n dX9_next_19 rfl rfl rfl ?_
      refine q_getr (r := 59) dX9_next_20 fX9_7 rfl (ty_c hS (by decide) rfl) (hS.2 58 0 59 rfl) ?_
      refine q_aload_n dX9_next_23 rfl rfl rfl ?_
      refine q_geti (x := nI i) dX9_next_24 fX9_20 rfl (ty_c hS (by decide) rfl) h3 ?_
      refine q_iald (x := nI (T i)) (j := i) dX9_next_27 (ty_c hS (by decide) rfl) (ix_n (by omega) (by omega)) t1 ?_
      refine q_bipush (v := nI 32) dX9_next_28 rfl ?_
      refine q_icmp_eqN (tgt := 47) dX9_next_30 (by decide) (by omega) (by omega) (fun c30 => ?_) (fun c30 => ?_)
      · skip
        refine q_aload_n dX9_next_47 rfl rfl rfl ?_
        refine q_dup dX9_next_48 rfl ?_
        refine q_geti (x := nI i) dX9_next_49 fX9_20 rfl (ty_c hS (by decide) rfl) h3 ?_
        refine q_iconst (v := nI 1) dX9_next_52 rfl ?_
        refine q_iaddN dX9_next_53 ?_
        refine q_puti dX9_next_54 fX9_20 rfl (Or.inl rfl) (ty_c hS (by decide) rfl) ?_
        refine q_goto (tgt := 8) dX9_next_57 (by decide) ?_
        exact ih (i + 1) _ (by omega) (by omega) (h1.uI (by omega)) uI_self
      · skip
        refine q_aload_n dX9_next_33 rfl rfl rfl ?_
        refine q_getr (r := 59) dX9_next_34 fX9_7 rfl (ty_c hS (by decide) rfl) (hS.2 58 0 59 rfl) ?_
        refine q_aload_n dX9_next_37 rfl rfl rfl ?_
        refine q_geti (x := nI i) dX9_next_38 fX9_20 rfl (ty_c hS (by decide) rfl) h3 ?_
        refine q_iald (x := nI (T i)) (j := i) dX9_next_41 (ty_c hS (by decide) rfl) (ix_n (by omega) (by omega)) t1 ?_
        refine q_bipush (v := nI 10) dX9_next_42 rfl ?_
        refine q_icmp_neN (tgt := 60) dX9_next_44 (by decide) (by omega) (by omega) (fun c44 => ?_) (fun c44 => ?_)
        · exact absurd (hn.resolve_left c30) c44
        · skip
          refine q_aload_n dX9_next_47 rfl rfl rfl ?_
          refine q_dup dX9_next_48 rfl ?_
          refine q_geti (x := nI i) dX9_next_49 fX9_20 rfl (ty_c hS (by decide) rfl) h3 ?_
          refine q_iconst (v := nI 1) dX9_next_52 rfl ?_
          refine q_iaddN dX9_next_53 ?_
          refine q_puti dX9_next_54 fX9_20 rfl (Or.inl rfl) (ty_c hS (by decide) rfl) ?_
          refine q_goto (tgt := 8) dX9_next_57 (by decide) ?_
          exact ih (i + 1) _ (by omega) (by omega) (h1.uI (by omega)) uI_self
theorem y9_ld {σ0 : HS} (hS0 : SK σ0) (hT0 : MTX σ0 L T) {p c : Nat} (hp : p ≤ L) {Z : List Frame → Array Value → State → State → Prop} (K : ∀ σ, LX9 σ0 σ → sI σ 58 3 = nI p → sI σ 58 4 = nI (run isLD T L p) → WA g mX9_next 2 0 0 Z 0 0 155 [(0, .ref 58), (1, .int (nI c))] [] σ) : ∀ (k i : Nat) (σ : HS), i + k = run isLD T L p → p ≤ i → LX9 σ0 σ → sI σ 58 3 = nI p → sI σ 58 4 = nI i → WA g mX9_next 2 0 0 Z 0 0 112 [(0, .ref 58), (1, .int (nI c))] [] σ := by
  have hb := run_le isLD T hp
  have hL := hT0.2.1
  intro k
  induction k with
  | zero =>
    intro i σ hi h0 h1 h3 h4
    have hS := SK.x9 h1 hS0
    have hT := hT0.x9 h1
    have hib : i = run isLD T L p := by omega
    have hn : isLD (tz L T i) = false := by
      unfold tz
      by_cases hl : i < L
      · rw [if_pos hl]
        have hn := run_not (p := isLD) (T := T) (L := L) (i := p) (by omega)
        rw [← hib] at hn; exact hn
      · rw [if_neg hl]; decide
    have htz : tz L T i < 256 := by
      unfold tz
      by_cases hl : i < L
      · rw [if_pos hl]; exact (hT.2.2 i hl).2
      · rw [if_neg hl]; omega
    unfold isLD at hn
    rw [Bool.or_eq_false_iff] at hn
    refine q_aload_n dX9_next_112 rfl rfl rfl ?_
    refine q_aload_n dX9_next_113 rfl rfl rfl ?_
    refine q_aload_n dX9_next_114 rfl rfl rfl ?_
    refine q_geti (x := nI i) dX9_next_115 fX9_23 rfl (ty_c hS (by decide) rfl) h4 ?_
    refine q_callV (As := [.int (nI i)]) (rest := [.ref 58]) dX9_next_118 vX9_204 (ty_c hS (by decide) rfl) ⟨by decide, rfl⟩ (z9_at hS hT (by omega)) rfl rfl (Nat.le_of_ble_eq_true rfl) (by omega) (by omega) (by omega) (k_p ?_)
    refine q_callV (As := [.int (nI (tz L T i))]) (rest := []) dX9_next_121 vX9_208 (ty_c hS (by decide) rfl) ⟨by decide, rfl⟩ (z9_isLetter htz) rfl rfl (Nat.le_of_ble_eq_true rfl) (by omega) (by omega) (by omega) (k_p ?_)
    refine q_if_neB (tgt := 142) dX9_next_124 (by decide) (fun c124 => ?_) (fun c124 => ?_)
    · exact absurd (hn.1.symm.trans c124) (by decide)
    · skip
      refine q_aload_n dX9_next_127 rfl rfl rfl ?_
      refine q_aload_n dX9_next_128 rfl rfl rfl ?_
      refine q_aload_n dX9_next_129 rfl rfl rfl ?_
      refine q_geti (x := nI i) dX9_next_130 fX9_23 rfl (ty_c hS (by decide) rfl) h4 ?_
      refine q_callV (As := [.int (nI i)]) (rest := [.ref 58]) dX9_next_133 vX9_204 (ty_c hS (by decide) rfl) ⟨by decide, rfl⟩ (z9_at hS hT (by omega)) rfl rfl (Nat.le_of_ble_eq_true rfl) (by omega) (by omega) (by omega) (k_p ?_)
      refine q_callV (As := [.int (nI (tz L T i))]) (rest := []) dX9_next_136 vX9_212 (ty_c hS (by decide) rfl) ⟨by decide, rfl⟩ (z9_isDigit htz) rfl rfl (Nat.le_of_ble_eq_true rfl) (by omega) (by omega) (by omega) (k_p ?_)
      refine q_if_eqB (tgt := 155) dX9_next_139 (by decide) (fun c139 => ?_) (fun c139 => ?_)
      · skip
        exact K σ h1 h3 (by rw [← hib]; exact h4)
      · exact absurd (hn.2.symm.trans c139) (by decide)
  | succ k ih =>
    intro i σ hi h0 h1 h3 h4
    have hS := SK.x9 h1 hS0
    have hT := hT0.x9 h1
    have hn := run_all (p := isLD) (T := T) (L := L) (i := p) (j := i) h0 (by omega)
    have ez : tz L T i = T i := if_pos (by omega)
    have htz : tz L T i < 256 := by rw [ez]; exact (hT.2.2 i (by omega)).2
    rw [← ez] at hn
    unfold isLD at hn
    rw [Bool.or_eq_true] at hn
    refine q_aload_n dX9_next_112 rfl rfl rfl ?_
    refine q_aload_n dX9_next_113 rfl rfl rfl ?_
    refine q_aload_n dX9_next_114 rfl rfl rfl ?_
    refine q_geti (x := nI i) dX9_next_115 fX9_23 rfl (ty_c hS (by decide) rfl) h4 ?_
    refine q_callV (As := [.int (nI i)]) (rest := [.ref 58]) dX9_next_118 vX9_204 (ty_c hS (by decide) rfl) ⟨by decide, rfl⟩ (z9_at hS hT (by omega)) rfl rfl (Nat.le_of_ble_eq_true rfl) (by omega) (by omega) (by omega) (k_p ?_)
    refine q_callV (As := [.int (nI (tz L T i))]) (rest := []) dX9_next_121 vX9_208 (ty_c hS (by decide) rfl) ⟨by decide, rfl⟩ (z9_isLetter htz) rfl rfl (Nat.le_of_ble_eq_true rfl) (by omega) (by omega) (by omega) (k_p ?_)
    refine q_if_neB (tgt := 142) dX9_next_124 (by decide) (fun c124 => ?_) (fun c124 => ?_)
    · skip
      refine q_aload_n dX9_next_142 rfl rfl rfl ?_
      refine q_dup dX9_next_143 rfl ?_
      refine q_geti (x := nI i) dX9_next_144 fX9_23 rfl (ty_c hS (by decide) rfl) h4 ?_
      refine q_iconst (v := nI 1) dX9_next_147 rfl ?_
      refine q_iaddN dX9_next_148 ?_
      refine q_puti dX9_next_149 fX9_23 rfl (Or.inl rfl) (ty_c hS (by decide) rfl) ?_
      refine q_goto (tgt := 112) dX9_next_152 (by decide) ?_
      exact ih (i + 1) _ (by omega) (by omega) (h1.uI (by omega)) ((rd_ne (by omega)).trans h3) uI_self
    · skip
      refine q_aload_n dX9_next_127 rfl rfl rfl ?_
      refine q_aload_n dX9_next_128 rfl rfl rfl ?_
      refine q_aload_n dX9_next_129 rfl rfl rfl ?_
      refine q_geti (x := nI i) dX9_next_130 fX9_23 rfl (ty_c hS (by decide) rfl) h4 ?_
      refine q_callV (As := [.int (nI i)]) (rest := [.ref 58]) dX9_next_133 vX9_204 (ty_c hS (by decide) rfl) ⟨by decide, rfl⟩ (z9_at hS hT (by omega)) rfl rfl (Nat.le_of_ble_eq_true rfl) (by omega) (by omega) (by omega) (k_p ?_)
      refine q_callV (As := [.int (nI (tz L T i))]) (rest := []) dX9_next_136 vX9_212 (ty_c hS (by decide) rfl) ⟨by decide, rfl⟩ (z9_isDigit htz) rfl rfl (Nat.le_of_ble_eq_true rfl) (by omega) (by omega) (by omega) (k_p ?_)
      refine q_if_eqB (tgt := 155) dX9_next_139 (by decide) (fun c139 => ?_) (fun c139 => ?_)
      · exact absurd (hn.resolve_left (by rw [c124]; decide)) (by rw [c139]; decide)
      · skip
        refine q_aload_n dX9_next_142 rfl rfl rfl ?_
        refine q_dup dX9_next_143 rfl ?_
        refine q_geti (x := nI i) dX9_next_144 fX9_23 rfl (ty_c hS (by decide) rfl) h4 ?_
        refine q_iconst (v := nI 1) dX9_next_147 rfl ?_
        refine q_iaddN dX9_next_148 ?_
        refine q_puti dX9_next_149 fX9_23 rfl (Or.inl rfl) (ty_c hS (by decide) rfl) ?_
        refine q_goto (tgt := 112) dX9_next_152 (by decide) ?_
        exact ih (i + 1) _ (by omega) (by omega) (h1.uI (by omega)) ((rd_ne (by omega)).trans h3) uI_self
theorem sg_t {c : Nat} (h : isSgB c = true) : 3 = if isSgB c = true then 3 else 4 := (if_pos h).symm
theorem sg_f {c : Nat} (h : isSgB c = false) : 4 = if isSgB c = true then 3 else 4 := by rw [h]; rfl
theorem nx_sg {σ0 : HS} {p s : Nat} (k4 : LX9 σ0 (uI σ 58 4 (nI p))) (h34 : sI (uI σ 58 4 (nI p)) 58 3 = nI p) (hl : p < L) (b1 : isLD (T p) = false) (hs : s = if isSgB (T p) = true then 3 else 4) : (none : Option Value) = none ∧ NxQ σ0 T L p (uI (uI (uI (uI σ 58 4 (nI p)) 58 4 (nI (p + 1))) 58 2 (nI s)) 58 6 (nI (T p))) :=
  ⟨rfl, ((k4.uI (by omega)).uI (by omega)).uI (by omega), (rd_ne (by omega)).trans ((rd_ne (by omega)).trans ((rd_ne (by omega)).trans h34)), Or.inr (Or.inr (Or.inr ⟨hl, b1, (rd_ne (by omega)).trans ((rd_ne (by omega)).trans uI_self), (rd_ne (by omega)).trans (by rw [uI_self, hs]), uI_self⟩))⟩
theorem y9_next155 {σ0 : HS} (hS0 : SK σ0) (hT0 : MTX σ0 L T) {p : Nat} (hl : p < L) (b1 : isLD (T p) = true) (b2 : isLet (T p) = true ∨ isDig (T p) = true) (h1 : LX9 σ0 σ) (h3 : sI σ 58 3 = nI p) (h4 : sI σ 58 4 = nI (run isLD T L p)) : WA g mX9_next 2 0 0 (ZM g (fun r σ' => r = none ∧ NxQ σ0 T L p σ') 0 0) 0 0 155 [(0, .ref 58), (1, .int (nI (T p)))] [] σ := by
  have hS := SK.x9 h1 hS0
  have hT := hT0.x9 h1
  have hc : T p < 256 := (hT.2.2 p hl).2
  have he := run_le isLD T (L := L) (i := p) (by omega)
  have hg := run_ge isLD T L p
  refine q_aload_n dX9_next_155 rfl rfl rfl ?_
  refine q_iload_n dX9_next_156 rfl rfl ?_
  refine q_callV (As := [.int (nI (T p))]) (rest := []) dX9_next_157 vX9_208 (ty_c hS (by decide) rfl) ⟨by decide, rfl⟩ (z9_isLetter hc) rfl rfl (Nat.le_of_ble_eq_true rfl) (by omega) (by omega) (by omega) (k_p ?_)
  refine q_if_eqB (tgt := 170) dX9_next_160 (by decide) (fun c160 => ?_) (fun c160 => ?_)
  · skip
    refine q_aload_n dX9_next_170 rfl rfl rfl ?_
    refine q_callV (As := []) (rest := []) dX9_next_171 vX9_218 (ty_c hS (by decide) rfl) ⟨by decide, rfl⟩ (z9_number hS hT he hg h3 h4) rfl rfl (Nat.le_of_ble_eq_true rfl) (by omega) (by omega) (by omega) (k_v (fun s171 q171 => ?_))
    refine q_goto (tgt := 283) dX9_next_174 (by decide) ?_
    refine q_return dX9_next_283 rfl (by omega) (by omega) ?_
    first | exact ⟨rfl, h1.tr q164.1, q164.2.1, Or.inr (Or.inl ⟨hl, c160, WdQ.x h1 q164⟩)⟩ | exact ⟨rfl, h1.tr q171.1, q171.2.1, Or.inr (Or.inr (Or.inl ⟨hl, c160, b2.resolve_left (by rw [c160]; decide), NmQ.x h1 q171⟩))⟩
  · skip
    refine q_aload_n dX9_next_163 rfl rfl rfl ?_
    refine q_callV (As := []) (rest := []) dX9_next_164 vX9_215 (ty_c hS (by decide) rfl) ⟨by decide, rfl⟩ (z9_word hS hT he hg rfl h3 h4) rfl rfl (Nat.le_of_ble_eq_true rfl) (by omega) (by omega) (by omega) (k_v (fun s164 q164 => ?_))
    refine q_goto (tgt := 283) dX9_next_167 (by decide) ?_
    refine q_return dX9_next_283 rfl (by omega) (by omega) ?_
    first | exact ⟨rfl, h1.tr q164.1, q164.2.1, Or.inr (Or.inl ⟨hl, c160, WdQ.x h1 q164⟩)⟩ | exact ⟨rfl, h1.tr q171.1, q171.2.1, Or.inr (Or.inr (Or.inl ⟨hl, c160, b2.resolve_left (by rw [c160]; decide), NmQ.x h1 q171⟩))⟩
theorem y9_next60 {σ0 : HS} (hS0 : SK σ0) (hT0 : MTX σ0 L T) {p : Nat} (hp : p ≤ L) (h1 : LX9 σ0 σ) (h3 : sI σ 58 3 = nI p) : WA g mX9_next 2 0 0 (ZM g (fun r σ' => r = none ∧ NxQ σ0 T L p σ') 0 0) 0 0 60 [(0, .ref 58)] [] σ := by
  have hS := SK.x9 h1 hS0
  have hT := hT0.x9 h1
  have hL := hT.2.1
  have k4 : LX9 σ0 (uI σ 58 4 (nI p)) := h1.uI (by omega)
  have hS4 := SK.x9 k4 hS0
  have hT4 := hT0.x9 k4
  have t0 := hT4.1
  have h34 : sI (uI σ 58 4 (nI p)) 58 3 = nI p := (rd_ne (by omega)).trans h3
  by_cases hl : p < L
  · have ez : tz L T p = T p := if_pos hl
    have hc : T p < 256 := (hT.2.2 p hl).2
    have b : (isLD (T p) = true ∧ (isLet (T p) = true ∨ isDig (T p) = true)) ∨ (isLD (T p) = false ∧ isLet (T p) = false ∧ isDig (T p) = false) := by
      unfold isLD
      cases isLet (T p) <;> cases isDig (T p) <;> simp
    rcases b with ⟨b1, b2⟩ | ⟨b1, b2, b3⟩
    · skip
      refine q_aload_n dX9_next_60 rfl rfl rfl ?_
      refine q_aload_n dX9_next_61 rfl rfl rfl ?_
      refine q_geti (x := nI p) dX9_next_62 fX9_20 rfl (ty_c hS (by decide) rfl) h3 ?_
      refine q_puti dX9_next_65 fX9_23 rfl (Or.inl rfl) (ty_c hS (by decide) rfl) ?_
      refine q_aload_n dX9_next_68 rfl rfl rfl ?_
      refine q_aload_n dX9_next_69 rfl rfl rfl ?_
      refine q_geti (x := nI p) dX9_next_70 fX9_20 rfl (ty_c hS (by decide) rfl) (Eq.trans (rd_ne (by decide)) h3) ?_
      refine q_callV (As := [.int (nI p)]) (rest := []) dX9_next_73 vX9_204 (ty_c hS (by decide) rfl) ⟨by decide, rfl⟩ (z9_atE (σ := (uI σ 58 4 (nI p))) hS4 hT4 hl) rfl rfl (Nat.le_of_ble_eq_true rfl) (by omega) (by omega) (by omega) (k_p ?_)
      refine q_istore_n dX9_next_76 rfl (by decide) (ls' := [(1, .int (nI (T p))), (0, .ref 58)]) rfl ?_
      refine q_aload_n dX9_next_77 rfl rfl rfl ?_
      refine q_geti (x := nI p) dX9_next_78 fX9_20 rfl (ty_c hS (by decide) rfl) (Eq.trans (rd_ne (by decide)) h3) ?_
      refine q_aload_n dX9_next_81 rfl rfl rfl ?_
      refine q_geti (x := nI L) dX9_next_82 fX9_13 rfl (ty_c hS (by decide) rfl) (Eq.trans (rd_ne (by decide)) hT.1) ?_
      refine q_icmp_ltN (tgt := 96) dX9_next_85 (by decide) (by omega) (by omega) (fun c85 => ?_) (fun c85 => ?_)
      · skip
        refine q_aload_n dX9_next_96 rfl rfl rfl ?_
        refine q_iload_n dX9_next_97 rfl rfl ?_
        refine q_callV (As := [.int (nI (T p))]) (rest := []) dX9_next_98 vX9_208 (ty_c hS (by decide) rfl) ⟨by decide, rfl⟩ (z9_isLetter (σ := (uI σ 58 4 (nI p))) hc) rfl rfl (Nat.le_of_ble_eq_true rfl) (by omega) (by omega) (by omega) (k_p ?_)
        refine q_if_neB (tgt := 112) dX9_next_101 (by decide) (fun c101 => ?_) (fun c101 => ?_)
        · skip
          refine q_pk [1, 0] (ls' := [(0, .ref 58), (1, .int (nI (T p)))]) rfl ?_
          exact y9_ld hS0 hT0 hp (fun τ a a3 a4 => y9_next155 hS0 hT0 hl b1 b2 a a3 a4) (run isLD T L p - p) p _ (by have := run_ge isLD T L p; omega) (Nat.le_refl _) k4 h34 uI_self
        · skip
          refine q_aload_n dX9_next_104 rfl rfl rfl ?_
          refine q_iload_n dX9_next_105 rfl rfl ?_
          refine q_callV (As := [.int (nI (T p))]) (rest := []) dX9_next_106 vX9_212 (ty_c hS (by decide) rfl) ⟨by decide, rfl⟩ (z9_isDigit (σ := (uI σ 58 4 (nI p))) hc) rfl rfl (Nat.le_of_ble_eq_true rfl) (by omega) (by omega) (by omega) (k_p ?_)
          refine q_if_eqB (tgt := 177) dX9_next_109 (by decide) (fun c109 => ?_) (fun c109 => ?_)
          · exact absurd (b2.resolve_left (by rw [c101]; decide)) (by rw [c109]; decide)
          · skip
            refine q_pk [1, 0] (ls' := [(0, .ref 58), (1, .int (nI (T p)))]) rfl ?_
            exact y9_ld hS0 hT0 hp (fun τ a a3 a4 => y9_next155 hS0 hT0 hl b1 b2 a a3 a4) (run isLD T L p - p) p _ (by have := run_ge isLD T L p; omega) (Nat.le_refl _) k4 h34 uI_self
      · exact absurd c85 (by omega)
    · skip
      refine q_aload_n dX9_next_60 rfl rfl rfl ?_
      refine q_aload_n dX9_next_61 rfl rfl rfl ?_
      refine q_geti (x := nI p) dX9_next_62 fX9_20 rfl (ty_c hS (by decide) rfl) h3 ?_
      refine q_puti dX9_next_65 fX9_23 rfl (Or.inl rfl) (ty_c hS (by decide) rfl) ?_
      refine q_aload_n dX9_next_68 rfl rfl rfl ?_
      refine q_aload_n dX9_next_69 rfl rfl rfl ?_
      refine q_geti (x := nI p) dX9_next_70 fX9_20 rfl (ty_c hS (by decide) rfl) (Eq.trans (rd_ne (by decide)) h3) ?_
      refine q_callV (As := [.int (nI p)]) (rest := []) dX9_next_73 vX9_204 (ty_c hS (by decide) rfl) ⟨by decide, rfl⟩ (z9_atE (σ := (uI σ 58 4 (nI p))) hS4 hT4 hl) rfl rfl (Nat.le_of_ble_eq_true rfl) (by omega) (by omega) (by omega) (k_p ?_)
      refine q_istore_n dX9_next_76 rfl (by decide) (ls' := [(1, .int (nI (T p))), (0, .ref 58)]) rfl ?_
      refine q_aload_n dX9_next_77 rfl rfl rfl ?_
      refine q_geti (x := nI p) dX9_next_78 fX9_20 rfl (ty_c hS (by decide) rfl) (Eq.trans (rd_ne (by decide)) h3) ?_
      refine q_aload_n dX9_next_81 rfl rfl rfl ?_
      refine q_geti (x := nI L) dX9_next_82 fX9_13 rfl (ty_c hS (by decide) rfl) (Eq.trans (rd_ne (by decide)) hT.1) ?_
      refine q_icmp_ltN (tgt := 96) dX9_next_85 (by decide) (by omega) (by omega) (fun c85 => ?_) (fun c85 => ?_)
      · skip
        refine q_aload_n dX9_next_96 rfl rfl rfl ?_
        refine q_iload_n dX9_next_97 rfl rfl ?_
        refine q_callV (As := [.int (nI (T p))]) (rest := []) dX9_next_98 vX9_208 (ty_c hS (by decide) rfl) ⟨by decide, rfl⟩ (z9_isLetter (σ := (uI σ 58 4 (nI p))) hc) rfl rfl (Nat.le_of_ble_eq_true rfl) (by omega) (by omega) (by omega) (k_p ?_)
        refine q_if_neB (tgt := 112) dX9_next_101 (by decide) (fun c101 => ?_) (fun c101 => ?_)
        · exact absurd (b2.symm.trans c101) (by decide)
        · skip
          refine q_aload_n dX9_next_104 rfl rfl rfl ?_
          refine q_iload_n dX9_next_105 rfl rfl ?_
          refine q_callV (As := [.int (nI (T p))]) (rest := []) dX9_next_106 vX9_212 (ty_c hS (by decide) rfl) ⟨by decide, rfl⟩ (z9_isDigit (σ := (uI σ 58 4 (nI p))) hc) rfl rfl (Nat.le_of_ble_eq_true rfl) (by omega) (by omega) (by omega) (k_p ?_)
          refine q_if_eqB (tgt := 177) dX9_next_109 (by decide) (fun c109 => ?_) (fun c109 => ?_)
          · skip
            refine q_aload_n dX9_next_177 rfl rfl rfl ?_
            refine q_dup dX9_next_178 rfl ?_
            refine q_geti (x := nI p) dX9_next_179 fX9_23 rfl (ty_c hS (by decide) rfl) uI_self ?_
            refine q_iconst (v := nI 1) dX9_next_182 rfl ?_
            refine q_iaddN dX9_next_183 ?_
            refine q_puti dX9_next_184 fX9_23 rfl (Or.inl rfl) (ty_c hS (by decide) rfl) ?_
            refine q_iload_n dX9_next_187 rfl rfl ?_
            refine q_bipush (v := nI 58) dX9_next_188 rfl ?_
            refine q_icmp_eqN (tgt := 259) dX9_next_190 (by decide) (by omega) (by omega) (fun c190 => ?_) (fun c190 => ?_)
            · skip
              refine q_iconst (v := nI 1) dX9_next_259 rfl ?_
              refine q_goto (tgt := 264) dX9_next_260 (by decide) ?_
              refine q_istore_n dX9_next_264 rfl (by decide) (ls' := [(2, .int (nI 1)), (1, .int (nI (T p))), (0, .ref 58)]) rfl ?_
              refine q_aload_n dX9_next_265 rfl rfl rfl ?_
              refine q_iload_n dX9_next_266 rfl rfl ?_
              refine q_if_eqN (tgt := 274) dX9_next_267 (by decide) (by omega) (fun h => absurd h (by decide)) (fun _ => ?_)
              refine q_iconst (v := nI 3) dX9_next_270 rfl ?_
              refine q_goto (tgt := 275) dX9_next_271 (by decide) ?_
              refine q_puti dX9_next_275 fX9_17 rfl (Or.inl rfl) (ty_c hS (by decide) rfl) ?_
              refine q_aload_n dX9_next_278 rfl rfl rfl ?_
              refine q_iload_n dX9_next_279 rfl rfl ?_
              refine q_puti dX9_next_280 fX9_29 rfl (Or.inl rfl) (ty_c hS (by decide) rfl) ?_
              refine q_return dX9_next_283 rfl (by omega) (by omega) ?_
              first | exact nx_sg k4 h34 hl b1 (sg_t (by first | (rw [c190]; decide) | (rw [c196]; decide) | (rw [c202]; decide) | (rw [c208]; decide) | (rw [c214]; decide) | (rw [c220]; decide) | (rw [c226]; decide) | (rw [c232]; decide) | (rw [c238]; decide) | (rw [c244]; decide) | (rw [c250]; decide) | (rw [c256]; decide))) | exact nx_sg k4 h34 hl b1 (sg_f (by simp [isSgB, isOpB, c190, c196, c202, c208, c214, c220, c226, c232, c238, c244, c250, c256]))
            · skip
              refine q_iload_n dX9_next_193 rfl rfl ?_
              refine q_bipush (v := nI 59) dX9_next_194 rfl ?_
              refine q_icmp_eqN (tgt := 259) dX9_next_196 (by decide) (by omega) (by omega) (fun c196 => ?_) (fun c196 => ?_)
              · skip
                refine q_iconst (v := nI 1) dX9_next_259 rfl ?_
                refine q_goto (tgt := 264) dX9_next_260 (by decide) ?_
                refine q_istore_n dX9_next_264 rfl (by decide) (ls' := [(2, .int (nI 1)), (1, .int (nI (T p))), (0, .ref 58)]) rfl ?_
                refine q_aload_n dX9_next_265 rfl rfl rfl ?_
                refine q_iload_n dX9_next_266 rfl rfl ?_
                refine q_if_eqN (tgt := 274) dX9_next_267 (by decide) (by omega) (fun h => absurd h (by decide)) (fun _ => ?_)
                refine q_iconst (v := nI 3) dX9_next_270 rfl ?_
                refine q_goto (tgt := 275) dX9_next_271 (by decide) ?_
                refine q_puti dX9_next_275 fX9_17 rfl (Or.inl rfl) (ty_c hS (by decide) rfl) ?_
                refine q_aload_n dX9_next_278 rfl rfl rfl ?_
                refine q_iload_n dX9_next_279 rfl rfl ?_
                refine q_puti dX9_next_280 fX9_29 rfl (Or.inl rfl) (ty_c hS (by decide) rfl) ?_
                refine q_return dX9_next_283 rfl (by omega) (by omega) ?_
                first | exact nx_sg k4 h34 hl b1 (sg_t (by first | (rw [c190]; decide) | (rw [c196]; decide) | (rw [c202]; decide) | (rw [c208]; decide) | (rw [c214]; decide) | (rw [c220]; decide) | (rw [c226]; decide) | (rw [c232]; decide) | (rw [c238]; decide) | (rw [c244]; decide) | (rw [c250]; decide) | (rw [c256]; decide))) | exact nx_sg k4 h34 hl b1 (sg_f (by simp [isSgB, isOpB, c190, c196, c202, c208, c214, c220, c226, c232, c238, c244, c250, c256]))
              · skip
                refine q_iload_n dX9_next_199 rfl rfl ?_
                refine q_bipush (v := nI 61) dX9_next_200 rfl ?_
                refine q_icmp_eqN (tgt := 259) dX9_next_202 (by decide) (by omega) (by omega) (fun c202 => ?_) (fun c202 => ?_)
                · skip
                  refine q_iconst (v := nI 1) dX9_next_259 rfl ?_
                  refine q_goto (tgt := 264) dX9_next_260 (by decide) ?_
                  refine q_istore_n dX9_next_264 rfl (by decide) (ls' := [(2, .int (nI 1)), (1, .int (nI (T p))), (0, .ref 58)]) rfl ?_
                  refine q_aload_n dX9_next_265 rfl rfl rfl ?_
                  refine q_iload_n dX9_next_266 rfl rfl ?_
                  refine q_if_eqN (tgt := 274) dX9_next_267 (by decide) (by omega) (fun h => absurd h (by decide)) (fun _ => ?_)
                  refine q_iconst (v := nI 3) dX9_next_270 rfl ?_
                  refine q_goto (tgt := 275) dX9_next_271 (by decide) ?_
                  refine q_puti dX9_next_275 fX9_17 rfl (Or.inl rfl) (ty_c hS (by decide) rfl) ?_
                  refine q_aload_n dX9_next_278 rfl rfl rfl ?_
                  refine q_iload_n dX9_next_279 rfl rfl ?_
                  refine q_puti dX9_next_280 fX9_29 rfl (Or.inl rfl) (ty_c hS (by decide) rfl) ?_
                  refine q_return dX9_next_283 rfl (by omega) (by omega) ?_
                  first | exact nx_sg k4 h34 hl b1 (sg_t (by first | (rw [c190]; decide) | (rw [c196]; decide) | (rw [c202]; decide) | (rw [c208]; decide) | (rw [c214]; decide) | (rw [c220]; decide) | (rw [c226]; decide) | (rw [c232]; decide) | (rw [c238]; decide) | (rw [c244]; decide) | (rw [c250]; decide) | (rw [c256]; decide))) | exact nx_sg k4 h34 hl b1 (sg_f (by simp [isSgB, isOpB, c190, c196, c202, c208, c214, c220, c226, c232, c238, c244, c250, c256]))
                · skip
                  refine q_iload_n dX9_next_205 rfl rfl ?_
                  refine q_bipush (v := nI 43) dX9_next_206 rfl ?_
                  refine q_icmp_eqN (tgt := 259) dX9_next_208 (by decide) (by omega) (by omega) (fun c208 => ?_) (fun c208 => ?_)
                  · skip
                    refine q_iconst (v := nI 1) dX9_next_259 rfl ?_
                    refine q_goto (tgt := 264) dX9_next_260 (by decide) ?_
                    refine q_istore_n dX9_next_264 rfl (by decide) (ls' := [(2, .int (nI 1)), (1, .int (nI (T p))), (0, .ref 58)]) rfl ?_
                    refine q_aload_n dX9_next_265 rfl rfl rfl ?_
                    refine q_iload_n dX9_next_266 rfl rfl ?_
                    refine q_if_eqN (tgt := 274) dX9_next_267 (by decide) (by omega) (fun h => absurd h (by decide)) (fun _ => ?_)
                    refine q_iconst (v := nI 3) dX9_next_270 rfl ?_
                    refine q_goto (tgt := 275) dX9_next_271 (by decide) ?_
                    refine q_puti dX9_next_275 fX9_17 rfl (Or.inl rfl) (ty_c hS (by decide) rfl) ?_
                    refine q_aload_n dX9_next_278 rfl rfl rfl ?_
                    refine q_iload_n dX9_next_279 rfl rfl ?_
                    refine q_puti dX9_next_280 fX9_29 rfl (Or.inl rfl) (ty_c hS (by decide) rfl) ?_
                    refine q_return dX9_next_283 rfl (by omega) (by omega) ?_
                    first | exact nx_sg k4 h34 hl b1 (sg_t (by first | (rw [c190]; decide) | (rw [c196]; decide) | (rw [c202]; decide) | (rw [c208]; decide) | (rw [c214]; decide) | (rw [c220]; decide) | (rw [c226]; decide) | (rw [c232]; decide) | (rw [c238]; decide) | (rw [c244]; decide) | (rw [c250]; decide) | (rw [c256]; decide))) | exact nx_sg k4 h34 hl b1 (sg_f (by simp [isSgB, isOpB, c190, c196, c202, c208, c214, c220, c226, c232, c238, c244, c250, c256]))
                  · skip
                    refine q_iload_n dX9_next_211 rfl rfl ?_
                    refine q_bipush (v := nI 45) dX9_next_212 rfl ?_
                    refine q_icmp_eqN (tgt := 259) dX9_next_214 (by decide) (by omega) (by omega) (fun c214 => ?_) (fun c214 => ?_)
                    · skip
                      refine q_iconst (v := nI 1) dX9_next_259 rfl ?_
                      refine q_goto (tgt := 264) dX9_next_260 (by decide) ?_
                      refine q_istore_n dX9_next_264 rfl (by decide) (ls' := [(2, .int (nI 1)), (1, .int (nI (T p))), (0, .ref 58)]) rfl ?_
                      refine q_aload_n dX9_next_265 rfl rfl rfl ?_
                      refine q_iload_n dX9_next_266 rfl rfl ?_
                      refine q_if_eqN (tgt := 274) dX9_next_267 (by decide) (by omega) (fun h => absurd h (by decide)) (fun _ => ?_)
                      refine q_iconst (v := nI 3) dX9_next_270 rfl ?_
                      refine q_goto (tgt := 275) dX9_next_271 (by decide) ?_
                      refine q_puti dX9_next_275 fX9_17 rfl (Or.inl rfl) (ty_c hS (by decide) rfl) ?_
                      refine q_aload_n dX9_next_278 rfl rfl rfl ?_
                      refine q_iload_n dX9_next_279 rfl rfl ?_
                      refine q_puti dX9_next_280 fX9_29 rfl (Or.inl rfl) (ty_c hS (by decide) rfl) ?_
                      refine q_return dX9_next_283 rfl (by omega) (by omega) ?_
                      first | exact nx_sg k4 h34 hl b1 (sg_t (by first | (rw [c190]; decide) | (rw [c196]; decide) | (rw [c202]; decide) | (rw [c208]; decide) | (rw [c214]; decide) | (rw [c220]; decide) | (rw [c226]; decide) | (rw [c232]; decide) | (rw [c238]; decide) | (rw [c244]; decide) | (rw [c250]; decide) | (rw [c256]; decide))) | exact nx_sg k4 h34 hl b1 (sg_f (by simp [isSgB, isOpB, c190, c196, c202, c208, c214, c220, c226, c232, c238, c244, c250, c256]))
                    · skip
                      refine q_iload_n dX9_next_217 rfl rfl ?_
                      refine q_bipush (v := nI 42) dX9_next_218 rfl ?_
                      refine q_icmp_eqN (tgt := 259) dX9_next_220 (by decide) (by omega) (by omega) (fun c220 => ?_) (fun c220 => ?_)
                      · skip
                        refine q_iconst (v := nI 1) dX9_next_259 rfl ?_
                        refine q_goto (tgt := 264) dX9_next_260 (by decide) ?_
                        refine q_istore_n dX9_next_264 rfl (by decide) (ls' := [(2, .int (nI 1)), (1, .int (nI (T p))), (0, .ref 58)]) rfl ?_
                        refine q_aload_n dX9_next_265 rfl rfl rfl ?_
                        refine q_iload_n dX9_next_266 rfl rfl ?_
                        refine q_if_eqN (tgt := 274) dX9_next_267 (by decide) (by omega) (fun h => absurd h (by decide)) (fun _ => ?_)
                        refine q_iconst (v := nI 3) dX9_next_270 rfl ?_
                        refine q_goto (tgt := 275) dX9_next_271 (by decide) ?_
                        refine q_puti dX9_next_275 fX9_17 rfl (Or.inl rfl) (ty_c hS (by decide) rfl) ?_
                        refine q_aload_n dX9_next_278 rfl rfl rfl ?_
                        refine q_iload_n dX9_next_279 rfl rfl ?_
                        refine q_puti dX9_next_280 fX9_29 rfl (Or.inl rfl) (ty_c hS (by decide) rfl) ?_
                        refine q_return dX9_next_283 rfl (by omega) (by omega) ?_
                        first | exact nx_sg k4 h34 hl b1 (sg_t (by first | (rw [c190]; decide) | (rw [c196]; decide) | (rw [c202]; decide) | (rw [c208]; decide) | (rw [c214]; decide) | (rw [c220]; decide) | (rw [c226]; decide) | (rw [c232]; decide) | (rw [c238]; decide) | (rw [c244]; decide) | (rw [c250]; decide) | (rw [c256]; decide))) | exact nx_sg k4 h34 hl b1 (sg_f (by simp [isSgB, isOpB, c190, c196, c202, c208, c214, c220, c226, c232, c238, c244, c250, c256]))
                      · skip
                        refine q_iload_n dX9_next_223 rfl rfl ?_
                        refine q_bipush (v := nI 47) dX9_next_224 rfl ?_
                        refine q_icmp_eqN (tgt := 259) dX9_next_226 (by decide) (by omega) (by omega) (fun c226 => ?_) (fun c226 => ?_)
                        · skip
                          refine q_iconst (v := nI 1) dX9_next_259 rfl ?_
                          refine q_goto (tgt := 264) dX9_next_260 (by decide) ?_
                          refine q_istore_n dX9_next_264 rfl (by decide) (ls' := [(2, .int (nI 1)), (1, .int (nI (T p))), (0, .ref 58)]) rfl ?_
                          refine q_aload_n dX9_next_265 rfl rfl rfl ?_
                          refine q_iload_n dX9_next_266 rfl rfl ?_
                          refine q_if_eqN (tgt := 274) dX9_next_267 (by decide) (by omega) (fun h => absurd h (by decide)) (fun _ => ?_)
                          refine q_iconst (v := nI 3) dX9_next_270 rfl ?_
                          refine q_goto (tgt := 275) dX9_next_271 (by decide) ?_
                          refine q_puti dX9_next_275 fX9_17 rfl (Or.inl rfl) (ty_c hS (by decide) rfl) ?_
                          refine q_aload_n dX9_next_278 rfl rfl rfl ?_
                          refine q_iload_n dX9_next_279 rfl rfl ?_
                          refine q_puti dX9_next_280 fX9_29 rfl (Or.inl rfl) (ty_c hS (by decide) rfl) ?_
                          refine q_return dX9_next_283 rfl (by omega) (by omega) ?_
                          first | exact nx_sg k4 h34 hl b1 (sg_t (by first | (rw [c190]; decide) | (rw [c196]; decide) | (rw [c202]; decide) | (rw [c208]; decide) | (rw [c214]; decide) | (rw [c220]; decide) | (rw [c226]; decide) | (rw [c232]; decide) | (rw [c238]; decide) | (rw [c244]; decide) | (rw [c250]; decide) | (rw [c256]; decide))) | exact nx_sg k4 h34 hl b1 (sg_f (by simp [isSgB, isOpB, c190, c196, c202, c208, c214, c220, c226, c232, c238, c244, c250, c256]))
                        · skip
                          refine q_iload_n dX9_next_229 rfl rfl ?_
                          refine q_bipush (v := nI 38) dX9_next_230 rfl ?_
                          refine q_icmp_eqN (tgt := 259) dX9_next_232 (by decide) (by omega) (by omega) (fun c232 => ?_) (fun c232 => ?_)
                          · skip
                            refine q_iconst (v := nI 1) dX9_next_259 rfl ?_
                            refine q_goto (tgt := 264) dX9_next_260 (by decide) ?_
                            refine q_istore_n dX9_next_264 rfl (by decide) (ls' := [(2, .int (nI 1)), (1, .int (nI (T p))), (0, .ref 58)]) rfl ?_
                            refine q_aload_n dX9_next_265 rfl rfl rfl ?_
                            refine q_iload_n dX9_next_266 rfl rfl ?_
                            refine q_if_eqN (tgt := 274) dX9_next_267 (by decide) (by omega) (fun h => absurd h (by decide)) (fun _ => ?_)
                            refine q_iconst (v := nI 3) dX9_next_270 rfl ?_
                            refine q_goto (tgt := 275) dX9_next_271 (by decide) ?_
                            refine q_puti dX9_next_275 fX9_17 rfl (Or.inl rfl) (ty_c hS (by decide) rfl) ?_
                            refine q_aload_n dX9_next_278 rfl rfl rfl ?_
                            refine q_iload_n dX9_next_279 rfl rfl ?_
                            refine q_puti dX9_next_280 fX9_29 rfl (Or.inl rfl) (ty_c hS (by decide) rfl) ?_
                            refine q_return dX9_next_283 rfl (by omega) (by omega) ?_
                            first | exact nx_sg k4 h34 hl b1 (sg_t (by first | (rw [c190]; decide) | (rw [c196]; decide) | (rw [c202]; decide) | (rw [c208]; decide) | (rw [c214]; decide) | (rw [c220]; decide) | (rw [c226]; decide) | (rw [c232]; decide) | (rw [c238]; decide) | (rw [c244]; decide) | (rw [c250]; decide) | (rw [c256]; decide))) | exact nx_sg k4 h34 hl b1 (sg_f (by simp [isSgB, isOpB, c190, c196, c202, c208, c214, c220, c226, c232, c238, c244, c250, c256]))
                          · skip
                            refine q_iload_n dX9_next_235 rfl rfl ?_
                            refine q_bipush (v := nI 94) dX9_next_236 rfl ?_
                            refine q_icmp_eqN (tgt := 259) dX9_next_238 (by decide) (by omega) (by omega) (fun c238 => ?_) (fun c238 => ?_)
                            · skip
                              refine q_iconst (v := nI 1) dX9_next_259 rfl ?_
                              refine q_goto (tgt := 264) dX9_next_260 (by decide) ?_
                              refine q_istore_n dX9_next_264 rfl (by decide) (ls' := [(2, .int (nI 1)), (1, .int (nI (T p))), (0, .ref 58)]) rfl ?_
                              refine q_aload_n dX9_next_265 rfl rfl rfl ?_
                              refine q_iload_n dX9_next_266 rfl rfl ?_
                              refine q_if_eqN (tgt := 274) dX9_next_267 (by decide) (by omega) (fun h => absurd h (by decide)) (fun _ => ?_)
                              refine q_iconst (v := nI 3) dX9_next_270 rfl ?_
                              refine q_goto (tgt := 275) dX9_next_271 (by decide) ?_
                              refine q_puti dX9_next_275 fX9_17 rfl (Or.inl rfl) (ty_c hS (by decide) rfl) ?_
                              refine q_aload_n dX9_next_278 rfl rfl rfl ?_
                              refine q_iload_n dX9_next_279 rfl rfl ?_
                              refine q_puti dX9_next_280 fX9_29 rfl (Or.inl rfl) (ty_c hS (by decide) rfl) ?_
                              refine q_return dX9_next_283 rfl (by omega) (by omega) ?_
                              first | exact nx_sg k4 h34 hl b1 (sg_t (by first | (rw [c190]; decide) | (rw [c196]; decide) | (rw [c202]; decide) | (rw [c208]; decide) | (rw [c214]; decide) | (rw [c220]; decide) | (rw [c226]; decide) | (rw [c232]; decide) | (rw [c238]; decide) | (rw [c244]; decide) | (rw [c250]; decide) | (rw [c256]; decide))) | exact nx_sg k4 h34 hl b1 (sg_f (by simp [isSgB, isOpB, c190, c196, c202, c208, c214, c220, c226, c232, c238, c244, c250, c256]))
                            · skip
                              refine q_iload_n dX9_next_241 rfl rfl ?_
                              refine q_bipush (v := nI 60) dX9_next_242 rfl ?_
                              refine q_icmp_eqN (tgt := 259) dX9_next_244 (by decide) (by omega) (by omega) (fun c244 => ?_) (fun c244 => ?_)
                              · skip
                                refine q_iconst (v := nI 1) dX9_next_259 rfl ?_
                                refine q_goto (tgt := 264) dX9_next_260 (by decide) ?_
                                refine q_istore_n dX9_next_264 rfl (by decide) (ls' := [(2, .int (nI 1)), (1, .int (nI (T p))), (0, .ref 58)]) rfl ?_
                                refine q_aload_n dX9_next_265 rfl rfl rfl ?_
                                refine q_iload_n dX9_next_266 rfl rfl ?_
                                refine q_if_eqN (tgt := 274) dX9_next_267 (by decide) (by omega) (fun h => absurd h (by decide)) (fun _ => ?_)
                                refine q_iconst (v := nI 3) dX9_next_270 rfl ?_
                                refine q_goto (tgt := 275) dX9_next_271 (by decide) ?_
                                refine q_puti dX9_next_275 fX9_17 rfl (Or.inl rfl) (ty_c hS (by decide) rfl) ?_
                                refine q_aload_n dX9_next_278 rfl rfl rfl ?_
                                refine q_iload_n dX9_next_279 rfl rfl ?_
                                refine q_puti dX9_next_280 fX9_29 rfl (Or.inl rfl) (ty_c hS (by decide) rfl) ?_
                                refine q_return dX9_next_283 rfl (by omega) (by omega) ?_
                                first | exact nx_sg k4 h34 hl b1 (sg_t (by first | (rw [c190]; decide) | (rw [c196]; decide) | (rw [c202]; decide) | (rw [c208]; decide) | (rw [c214]; decide) | (rw [c220]; decide) | (rw [c226]; decide) | (rw [c232]; decide) | (rw [c238]; decide) | (rw [c244]; decide) | (rw [c250]; decide) | (rw [c256]; decide))) | exact nx_sg k4 h34 hl b1 (sg_f (by simp [isSgB, isOpB, c190, c196, c202, c208, c214, c220, c226, c232, c238, c244, c250, c256]))
                              · skip
                                refine q_iload_n dX9_next_247 rfl rfl ?_
                                refine q_bipush (v := nI 91) dX9_next_248 rfl ?_
                                refine q_icmp_eqN (tgt := 259) dX9_next_250 (by decide) (by omega) (by omega) (fun c250 => ?_) (fun c250 => ?_)
                                · skip
                                  refine q_iconst (v := nI 1) dX9_next_259 rfl ?_
                                  refine q_goto (tgt := 264) dX9_next_260 (by decide) ?_
                                  refine q_istore_n dX9_next_264 rfl (by decide) (ls' := [(2, .int (nI 1)), (1, .int (nI (T p))), (0, .ref 58)]) rfl ?_
                                  refine q_aload_n dX9_next_265 rfl rfl rfl ?_
                                  refine q_iload_n dX9_next_266 rfl rfl ?_
                                  refine q_if_eqN (tgt := 274) dX9_next_267 (by decide) (by omega) (fun h => absurd h (by decide)) (fun _ => ?_)
                                  refine q_iconst (v := nI 3) dX9_next_270 rfl ?_
                                  refine q_goto (tgt := 275) dX9_next_271 (by decide) ?_
                                  refine q_puti dX9_next_275 fX9_17 rfl (Or.inl rfl) (ty_c hS (by decide) rfl) ?_
                                  refine q_aload_n dX9_next_278 rfl rfl rfl ?_
                                  refine q_iload_n dX9_next_279 rfl rfl ?_
                                  refine q_puti dX9_next_280 fX9_29 rfl (Or.inl rfl) (ty_c hS (by decide) rfl) ?_
                                  refine q_return dX9_next_283 rfl (by omega) (by omega) ?_
                                  first | exact nx_sg k4 h34 hl b1 (sg_t (by first | (rw [c190]; decide) | (rw [c196]; decide) | (rw [c202]; decide) | (rw [c208]; decide) | (rw [c214]; decide) | (rw [c220]; decide) | (rw [c226]; decide) | (rw [c232]; decide) | (rw [c238]; decide) | (rw [c244]; decide) | (rw [c250]; decide) | (rw [c256]; decide))) | exact nx_sg k4 h34 hl b1 (sg_f (by simp [isSgB, isOpB, c190, c196, c202, c208, c214, c220, c226, c232, c238, c244, c250, c256]))
                                · skip
                                  refine q_iload_n dX9_next_253 rfl rfl ?_
                                  refine q_bipush (v := nI 93) dX9_next_254 rfl ?_
                                  refine q_icmp_neN (tgt := 263) dX9_next_256 (by decide) (by omega) (by omega) (fun c256 => ?_) (fun c256 => ?_)
                                  · skip
                                    refine q_iconst (v := nI 0) dX9_next_263 rfl ?_
                                    refine q_istore_n dX9_next_264 rfl (by decide) (ls' := [(2, .int (nI 0)), (1, .int (nI (T p))), (0, .ref 58)]) rfl ?_
                                    refine q_aload_n dX9_next_265 rfl rfl rfl ?_
                                    refine q_iload_n dX9_next_266 rfl rfl ?_
                                    refine q_if_eqN (tgt := 274) dX9_next_267 (by decide) (by omega) (fun _ => ?_) (fun h => absurd h (by decide))
                                    refine q_iconst (v := nI 4) dX9_next_274 rfl ?_
                                    refine q_puti dX9_next_275 fX9_17 rfl (Or.inl rfl) (ty_c hS (by decide) rfl) ?_
                                    refine q_aload_n dX9_next_278 rfl rfl rfl ?_
                                    refine q_iload_n dX9_next_279 rfl rfl ?_
                                    refine q_puti dX9_next_280 fX9_29 rfl (Or.inl rfl) (ty_c hS (by decide) rfl) ?_
                                    refine q_return dX9_next_283 rfl (by omega) (by omega) ?_
                                    first | exact nx_sg k4 h34 hl b1 (sg_t (by first | (rw [c190]; decide) | (rw [c196]; decide) | (rw [c202]; decide) | (rw [c208]; decide) | (rw [c214]; decide) | (rw [c220]; decide) | (rw [c226]; decide) | (rw [c232]; decide) | (rw [c238]; decide) | (rw [c244]; decide) | (rw [c250]; decide) | (rw [c256]; decide))) | exact nx_sg k4 h34 hl b1 (sg_f (by simp [isSgB, isOpB, c190, c196, c202, c208, c214, c220, c226, c232, c238, c244, c250, c256]))
                                  · skip
                                    refine q_iconst (v := nI 1) dX9_next_259 rfl ?_
                                    refine q_goto (tgt := 264) dX9_next_260 (by decide) ?_
                                    refine q_istore_n dX9_next_264 rfl (by decide) (ls' := [(2, .int (nI 1)), (1, .int (nI (T p))), (0, .ref 58)]) rfl ?_
                                    refine q_aload_n dX9_next_265 rfl rfl rfl ?_
                                    refine q_iload_n dX9_next_266 rfl rfl ?_
                                    refine q_if_eqN (tgt := 274) dX9_next_267 (by decide) (by omega) (fun h => absurd h (by decide)) (fun _ => ?_)
                                    refine q_iconst (v := nI 3) dX9_next_270 rfl ?_
                                    refine q_goto (tgt := 275) dX9_next_271 (by decide) ?_
                                    refine q_puti dX9_next_275 fX9_17 rfl (Or.inl rfl) (ty_c hS (by decide) rfl) ?_
                                    refine q_aload_n dX9_next_278 rfl rfl rfl ?_
                                    refine q_iload_n dX9_next_279 rfl rfl ?_
                                    refine q_puti dX9_next_280 fX9_29 rfl (Or.inl rfl) (ty_c hS (by decide) rfl) ?_
                                    refine q_return dX9_next_283 rfl (by omega) (by omega) ?_
                                    first | exact nx_sg k4 h34 hl b1 (sg_t (by first | (rw [c190]; decide) | (rw [c196]; decide) | (rw [c202]; decide) | (rw [c208]; decide) | (rw [c214]; decide) | (rw [c220]; decide) | (rw [c226]; decide) | (rw [c232]; decide) | (rw [c238]; decide) | (rw [c244]; decide) | (rw [c250]; decide) | (rw [c256]; decide))) | exact nx_sg k4 h34 hl b1 (sg_f (by simp [isSgB, isOpB, c190, c196, c202, c208, c214, c220, c226, c232, c238, c244, c250, c256]))
          · exact absurd (b3.symm.trans c109) (by decide)
      · exact absurd c85 (by omega)
  · have hpL : p = L := by omega
    refine q_aload_n dX9_next_60 rfl rfl rfl ?_
    refine q_aload_n dX9_next_61 rfl rfl rfl ?_
    refine q_geti (x := nI p) dX9_next_62 fX9_20 rfl (ty_c hS (by decide) rfl) h3 ?_
    refine q_puti dX9_next_65 fX9_23 rfl (Or.inl rfl) (ty_c hS (by decide) rfl) ?_
    refine q_aload_n dX9_next_68 rfl rfl rfl ?_
    refine q_aload_n dX9_next_69 rfl rfl rfl ?_
    refine q_geti (x := nI p) dX9_next_70 fX9_20 rfl (ty_c hS (by decide) rfl) (Eq.trans (rd_ne (by decide)) h3) ?_
    refine q_callV (As := [.int (nI p)]) (rest := []) dX9_next_73 vX9_204 (ty_c hS (by decide) rfl) ⟨by decide, rfl⟩ (z9_at (σ := (uI σ 58 4 (nI p))) hS4 hT4 (by omega)) rfl rfl (Nat.le_of_ble_eq_true rfl) (by omega) (by omega) (by omega) (k_p ?_)
    refine q_istore_n dX9_next_76 rfl (by decide) (ls' := [(1, .int (nI (tz L T p))), (0, .ref 58)]) rfl ?_
    refine q_aload_n dX9_next_77 rfl rfl rfl ?_
    refine q_geti (x := nI p) dX9_next_78 fX9_20 rfl (ty_c hS (by decide) rfl) (Eq.trans (rd_ne (by decide)) h3) ?_
    refine q_aload_n dX9_next_81 rfl rfl rfl ?_
    refine q_geti (x := nI L) dX9_next_82 fX9_13 rfl (ty_c hS (by decide) rfl) (Eq.trans (rd_ne (by decide)) hT.1) ?_
    refine q_icmp_ltN (tgt := 96) dX9_next_85 (by decide) (by omega) (by omega) (fun c85 => ?_) (fun c85 => ?_)
    · exact absurd c85 (by omega)
    · skip
      refine q_aload_n dX9_next_88 rfl rfl rfl ?_
      refine q_iconst (v := nI 0) dX9_next_89 rfl ?_
      refine q_puti dX9_next_90 fX9_17 rfl (Or.inl rfl) (ty_c hS (by decide) rfl) ?_
      refine q_goto (tgt := 283) dX9_next_93 (by decide) ?_
      refine q_return dX9_next_283 rfl (by omega) (by omega) ?_
      exact ⟨rfl, k4.uI (by omega), (rd_ne (by omega)).trans h34, Or.inl ⟨hpL, by rw [hpL] at *; exact (rd_ne (by omega)).trans uI_self, uI_self⟩⟩
end MNX
