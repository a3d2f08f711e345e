/-! Tokens: the rows that scan fills. -/
/-- one more word in the rows -/
def addT (σ : HS) (n k v p : Nat) : HS := uI (uI (uI (uI σ 7 n (nI k)) 8 n (nI v)) 9 n (nI p)) 6 3 (nI (n + 1))
theorem z6_add {g : GG} {σ : HS} (hS : SK σ) {n k v p : Nat} (hn : sI σ 6 3 = nI n) (h : n < 3001) : CT g mX6_add 0 0 0 [.ref 6, .int (nI k), .int (nI v), .int (nI p)] σ (VQ (addT σ n k v p)) := by
  refine CT.of (by decide) (Nat.le_of_ble_eq_true rfl) ?_
  refine q_aload_n dX6_add_0 rfl rfl rfl ?_
  refine q_geti (x := nI n) dX6_add_1 fX6_21 rfl (ty_c hS (by decide) rfl) hn ?_
  refine q_aload_n dX6_add_4 rfl rfl rfl ?_
  refine q_getr (r := 7) dX6_add_5 fX6_9 rfl (ty_c hS (by decide) rfl) (hS.2 6 0 7 rfl) ?_
  refine q_alen (x := nI 3001) dX6_add_8 (ty_c hS (by decide) rfl) (by decide) rfl ?_
  refine q_icmp_geN (tgt := 52) dX6_add_9 (by decide) (by omega) (by omega) (fun c9 => ?_) (fun c9 => ?_)
  · exact absurd c9 (by omega)
  · skip
    refine q_aload_n dX6_add_12 rfl rfl rfl ?_
    refine q_getr (r := 7) dX6_add_13 fX6_9 rfl (ty_c hS (by decide) rfl) (hS.2 6 0 7 rfl) ?_
    refine q_aload_n dX6_add_16 rfl rfl rfl ?_
    refine q_geti (x := nI n) dX6_add_17 fX6_21 rfl (ty_c hS (by decide) rfl) hn ?_
    refine q_iload_n dX6_add_20 rfl rfl ?_
    refine q_iast (j := n) dX6_add_21 (ty_c hS (by decide) rfl) (ix_n (by omega) (by omega)) ?_
    refine q_aload_n dX6_add_22 rfl rfl rfl ?_
    refine q_getr (r := 8) dX6_add_23 fX6_15 rfl (ty_c hS (by decide) rfl) (hS.2 6 1 8 rfl) ?_
    refine q_aload_n dX6_add_26 rfl rfl rfl ?_
    refine q_geti (x := nI n) dX6_add_27 fX6_21 rfl (ty_c hS (by decide) rfl) (Eq.trans (rd_off (by decide)) hn) ?_
    refine q_iload_n dX6_add_30 rfl rfl ?_
    refine q_iast (j := n) dX6_add_31 (ty_c hS (by decide) rfl) (ix_n (by omega) (by omega)) ?_
    refine q_aload_n dX6_add_32 rfl rfl rfl ?_
    refine q_getr (r := 9) dX6_add_33 fX6_18 rfl (ty_c hS (by decide) rfl) (hS.2 6 2 9 rfl) ?_
    refine q_aload_n dX6_add_36 rfl rfl rfl ?_
    refine q_geti (x := nI n) dX6_add_37 fX6_21 rfl (ty_c hS (by decide) rfl) (Eq.trans (rd_off (by decide)) (Eq.trans (rd_off (by decide)) hn)) ?_
    refine q_iload_n dX6_add_40 rfl rfl ?_
    refine q_iast (j := n) dX6_add_41 (ty_c hS (by decide) rfl) (ix_n (by omega) (by omega)) ?_
    refine q_aload_n dX6_add_42 rfl rfl rfl ?_
    refine q_dup dX6_add_43 rfl ?_
    refine q_geti (x := nI n) dX6_add_44 fX6_21 rfl (ty_c hS (by decide) rfl) (Eq.trans (rd_off (by decide)) (Eq.trans (rd_off (by decide)) (Eq.trans (rd_off (by decide)) hn))) ?_
    refine q_iconst (v := nI 1) dX6_add_47 rfl ?_
    refine q_iaddN dX6_add_48 ?_
    refine q_puti dX6_add_49 fX6_21 rfl (Or.inl rfl) (ty_c hS (by decide) rfl) ?_
    refine q_return dX6_add_52 rfl (by omega) (by omega) ?_
    exact ⟨rfl, rfl⟩
theorem isT_0 (T : Nat → Nat) (p e : Nat) : isT T p e 0 = isW T p e [116, 101, 108, 108] := rfl
theorem isT_1 (T : Nat → Nat) (p e : Nat) : isT T p e 1 = isW T p e [103, 111] := rfl
theorem isT_2 (T : Nat → Nat) (p e : Nat) : isT T p e 2 = isW T p e [105, 102] := rfl
theorem isT_3 (T : Nat → Nat) (p e : Nat) : isT T p e 3 = isW T p e [108, 101, 97, 118, 101] := rfl
theorem z6_addLetters {g : GG} {σ : HS} (hS : SK σ) {L : Nat} {T : Nat → Nat} (hT : CTX σ L T) {n p e : Nat} (hn : sI σ 6 3 = nI n) (h : n < 3001) (hpe : p ≤ e) (he : e ≤ L) : CT g mX6_addLetters 5 0 0 [.ref 6, .ref 2, .int (nI p), .int (nI e)] σ (VQ (addT σ n (keyV T p e).1 (keyV T p e).2 p)) := by
  have h3 := hT.2.1
  refine CT.of (by decide) (Nat.le_of_ble_eq_true rfl) ?_
  refine q_aload_n dX6_addLetters_0 rfl rfl rfl ?_
  refine q_iload_n dX6_addLetters_1 rfl rfl ?_
  refine q_iload_n dX6_addLetters_2 rfl rfl ?_
  refine q_ldcS (j := 0) (b := 0) dX6_addLetters_3 rfl rfl rfl rfl ?_
  refine q_callS (As := [.ref 2, .int (nI p), .int (nI e), .double 0]) (rest := []) dX6_addLetters_5 vX6_81 (z6_isText (j := 0) hS hT (by omega) (by omega) (b := 0) (b2 := 100 + 0) rfl (by decide) rfl) rfl rfl (Nat.le_of_ble_eq_true rfl) (by omega) (by omega) (by omega) (k_p ?_)
  refine q_if_eqB (tgt := 22) dX6_addLetters_8 (by decide) (fun c8 => ?_) (fun c8 => ?_)
  · skip
    refine q_aload_n dX6_addLetters_22 rfl rfl rfl ?_
    refine q_iload_n dX6_addLetters_23 rfl rfl ?_
    refine q_iload_n dX6_addLetters_24 rfl rfl ?_
    refine q_ldcS (j := 1) (b := 1) dX6_addLetters_25 rfl rfl rfl rfl ?_
    refine q_callS (As := [.ref 2, .int (nI p), .int (nI e), .double 1]) (rest := []) dX6_addLetters_27 vX6_81 (z6_isText (j := 1) hS hT (by omega) (by omega) (b := 1) (b2 := 100 + 1) rfl (by decide) rfl) rfl rfl (Nat.le_of_ble_eq_true rfl) (by omega) (by omega) (by omega) (k_p ?_)
    refine q_if_eqB (tgt := 44) dX6_addLetters_30 (by decide) (fun c30 => ?_) (fun c30 => ?_)
    · skip
      refine q_aload_n dX6_addLetters_44 rfl rfl rfl ?_
      refine q_iload_n dX6_addLetters_45 rfl rfl ?_
      refine q_iload_n dX6_addLetters_46 rfl rfl ?_
      refine q_ldcS (j := 2) (b := 2) dX6_addLetters_47 rfl rfl rfl rfl ?_
      refine q_callS (As := [.ref 2, .int (nI p), .int (nI e), .double 2]) (rest := []) dX6_addLetters_49 vX6_81 (z6_isText (j := 2) hS hT (by omega) (by omega) (b := 2) (b2 := 100 + 2) rfl (by decide) rfl) rfl rfl (Nat.le_of_ble_eq_true rfl) (by omega) (by omega) (by omega) (k_p ?_)
      refine q_if_eqB (tgt := 66) dX6_addLetters_52 (by decide) (fun c52 => ?_) (fun c52 => ?_)
      · skip
        refine q_aload_n dX6_addLetters_66 rfl rfl rfl ?_
        refine q_iload_n dX6_addLetters_67 rfl rfl ?_
        refine q_iload_n dX6_addLetters_68 rfl rfl ?_
        refine q_ldcS (j := 3) (b := 3) dX6_addLetters_69 rfl rfl rfl rfl ?_
        refine q_callS (As := [.ref 2, .int (nI p), .int (nI e), .double 3]) (rest := []) dX6_addLetters_71 vX6_81 (z6_isText (j := 3) hS hT (by omega) (by omega) (b := 3) (b2 := 100 + 3) rfl (by decide) rfl) rfl rfl (Nat.le_of_ble_eq_true rfl) (by omega) (by omega) (by omega) (k_p ?_)
        refine q_if_eqB (tgt := 89) dX6_addLetters_74 (by decide) (fun c74 => ?_) (fun c74 => ?_)
        · skip
          refine q_aload_n dX6_addLetters_89 rfl rfl rfl ?_
          refine q_iconst (v := nI 2) dX6_addLetters_90 rfl ?_
          refine q_iconst (v := nI 0) dX6_addLetters_91 rfl ?_
          refine q_iload_n dX6_addLetters_92 rfl rfl ?_
          refine q_callV (As := [.int (nI 2), .int (nI 0), .int (nI p)]) (rest := []) dX6_addLetters_93 vX6_42 (ty_c hS (by decide) rfl) ⟨by decide, rfl⟩ (z6_add hS hn h) rfl rfl (Nat.le_of_ble_eq_true rfl) (by omega) (by omega) (by omega) (k_s ?_)
          refine q_return dX6_addLetters_96 rfl (by omega) (by omega) ?_
          refine ⟨rfl, ?_⟩
          first | (have k1 := c8; rw [isT_0] at k1) | skip
          first | (have k2 := c30; rw [isT_1] at k2) | skip
          first | (have k3 := c52; rw [isT_2] at k3) | skip
          first | (have k4 := c74; rw [isT_3] at k4) | skip
          unfold keyV
          simp_all
        · skip
          refine q_aload_n dX6_addLetters_77 rfl rfl rfl ?_
          refine q_bipush (v := nI 8) dX6_addLetters_78 rfl ?_
          refine q_bipush (v := nI 6) dX6_addLetters_80 rfl ?_
          refine q_iload_n dX6_addLetters_82 rfl rfl ?_
          refine q_callV (As := [.int (nI 8), .int (nI 6), .int (nI p)]) (rest := []) dX6_addLetters_83 vX6_42 (ty_c hS (by decide) rfl) ⟨by decide, rfl⟩ (z6_add hS hn h) rfl rfl (Nat.le_of_ble_eq_true rfl) (by omega) (by omega) (by omega) (k_s ?_)
          refine q_goto (tgt := 96) dX6_addLetters_86 (by decide) ?_
          refine q_return dX6_addLetters_96 rfl (by omega) (by omega) ?_
          refine ⟨rfl, ?_⟩
          first | (have k1 := c8; rw [isT_0] at k1) | skip
          first | (have k2 := c30; rw [isT_1] at k2) | skip
          first | (have k3 := c52; rw [isT_2] at k3) | skip
          first | (have k4 := c74; rw [isT_3] at k4) | skip
          unfold keyV
          simp_all
      · skip
        refine q_aload_n dX6_addLetters_55 rfl rfl rfl ?_
        refine q_bipush (v := nI 8) dX6_addLetters_56 rfl ?_
        refine q_iconst (v := nI 5) dX6_addLetters_58 rfl ?_
        refine q_iload_n dX6_addLetters_59 rfl rfl ?_
        refine q_callV (As := [.int (nI 8), .int (nI 5), .int (nI p)]) (rest := []) dX6_addLetters_60 vX6_42 (ty_c hS (by decide) rfl) ⟨by decide, rfl⟩ (z6_add hS hn h) rfl rfl (Nat.le_of_ble_eq_true rfl) (by omega) (by omega) (by omega) (k_s ?_)
        refine q_goto (tgt := 96) dX6_addLetters_63 (by decide) ?_
        refine q_return dX6_addLetters_96 rfl (by omega) (by omega) ?_
        refine ⟨rfl, ?_⟩
        first | (have k1 := c8; rw [isT_0] at k1) | skip
        first | (have k2 := c30; rw [isT_1] at k2) | skip
        first | (have k3 := c52; rw [isT_2] at k3) | skip
        first | (have k4 := c74; rw [isT_3] at k4) | skip
        unfold keyV
        simp_all
    · skip
      refine q_aload_n dX6_addLetters_33 rfl rfl rfl ?_
      refine q_bipush (v := nI 8) dX6_addLetters_34 rfl ?_
      refine q_iconst (v := nI 4) dX6_addLetters_36 rfl ?_
      refine q_iload_n dX6_addLetters_37 rfl rfl ?_
      refine q_callV (As := [.int (nI 8), .int (nI 4), .int (nI p)]) (rest := []) dX6_addLetters_38 vX6_42 (ty_c hS (by decide) rfl) ⟨by decide, rfl⟩ (z6_add hS hn h) rfl rfl (Nat.le_of_ble_eq_true rfl) (by omega) (by omega) (by omega) (k_s ?_)
      refine q_goto (tgt := 96) dX6_addLetters_41 (by decide) ?_
      refine q_return dX6_addLetters_96 rfl (by omega) (by omega) ?_
      refine ⟨rfl, ?_⟩
      first | (have k1 := c8; rw [isT_0] at k1) | skip
      first | (have k2 := c30; rw [isT_1] at k2) | skip
      first | (have k3 := c52; rw [isT_2] at k3) | skip
      first | (have k4 := c74; rw [isT_3] at k4) | skip
      unfold keyV
      simp_all
  · skip
    refine q_aload_n dX6_addLetters_11 rfl rfl rfl ?_
    refine q_bipush (v := nI 8) dX6_addLetters_12 rfl ?_
    refine q_iconst (v := nI 3) dX6_addLetters_14 rfl ?_
    refine q_iload_n dX6_addLetters_15 rfl rfl ?_
    refine q_callV (As := [.int (nI 8), .int (nI 3), .int (nI p)]) (rest := []) dX6_addLetters_16 vX6_42 (ty_c hS (by decide) rfl) ⟨by decide, rfl⟩ (z6_add hS hn h) rfl rfl (Nat.le_of_ble_eq_true rfl) (by omega) (by omega) (by omega) (k_s ?_)
    refine q_goto (tgt := 96) dX6_addLetters_19 (by decide) ?_
    refine q_return dX6_addLetters_96 rfl (by omega) (by omega) ?_
    refine ⟨rfl, ?_⟩
    first | (have k1 := c8; rw [isT_0] at k1) | skip
    first | (have k2 := c30; rw [isT_1] at k2) | skip
    first | (have k3 := c52; rw [isT_2] at k3) | skip
    first | (have k4 := c74; rw [isT_3] at k4) | skip
    unfold keyV
    simp_all
def wrdC (c k : Nat) : Nat × Nat := if c = 118 ∧ k < 16 then (K_NAM, k) else if c = 116 ∧ k < 32 then (K_NAM, 16 + k) else if c = 114 ∧ k < 2 then (K_ROW, k) else if c = 98 ∧ k < 40 then (K_BLK, k) else (K_OTH, 0)
def wrdL (T : Nat → Nat) (p m e : Nat) : Nat := if (T m == 48 && decide (1 < e - m)) || !(m - p == 1) then 0 else T p
theorem wrdV_C (T : Nat → Nat) (p m e : Nat) : wrdV T p m e = wrdC (wrdL T p m e) (num T m e) := rfl
theorem y6_addNumbered {g : GG} {σ : HS} (hS : SK σ) {n p m e k c q : Nat} (hn : sI σ 6 3 = nI n) (h : n < 3001) (hk : k < 2147483648) (hc : c < 2147483648) : WA g mX6_addNumbered 2 0 0 (ZM g (VQ (addT σ n (wrdC c k).1 (wrdC c k).2 p)) 0 0) 0 0 57 [(0, .ref 6), (1, .ref 2), (2, .int (nI p)), (3, .int (nI m)), (4, .int (nI e)), (5, .int (nI k)), (6, .int (nI q)), (7, .int (nI c))] [] σ := by
  refine q_iload dX6_addNumbered_57 rfl ?_
  refine q_bipush (v := nI 118) dX6_addNumbered_59 rfl ?_
  refine q_icmp_neN (tgt := 82) dX6_addNumbered_61 (by decide) (by omega) (by omega) (fun c61 => ?_) (fun c61 => ?_)
  · skip
    refine q_iload dX6_addNumbered_82 rfl ?_
    refine q_bipush (v := nI 116) dX6_addNumbered_84 rfl ?_
    refine q_icmp_neN (tgt := 110) dX6_addNumbered_86 (by decide) (by omega) (by omega) (fun c86 => ?_) (fun c86 => ?_)
    · skip
      refine q_iload dX6_addNumbered_110 rfl ?_
      refine q_bipush (v := nI 114) dX6_addNumbered_112 rfl ?_
      refine q_icmp_neN (tgt := 134) dX6_addNumbered_114 (by decide) (by omega) (by omega) (fun c114 => ?_) (fun c114 => ?_)
      · skip
        refine q_iload dX6_addNumbered_134 rfl ?_
        refine q_bipush (v := nI 98) dX6_addNumbered_136 rfl ?_
        refine q_icmp_neN (tgt := 159) dX6_addNumbered_138 (by decide) (by omega) (by omega) (fun c138 => ?_) (fun c138 => ?_)
        · skip
          refine q_aload_n dX6_addNumbered_159 rfl rfl rfl ?_
          refine q_iconst (v := nI 2) dX6_addNumbered_160 rfl ?_
          refine q_iconst (v := nI 0) dX6_addNumbered_161 rfl ?_
          refine q_iload_n dX6_addNumbered_162 rfl rfl ?_
          refine q_callV (As := [.int (nI 2), .int (nI 0), .int (nI p)]) (rest := []) dX6_addNumbered_163 vX6_42 (ty_c hS (by decide) rfl) ⟨by decide, rfl⟩ (z6_add hS hn h) rfl rfl (Nat.le_of_ble_eq_true rfl) (by omega) (by omega) (by omega) (k_s ?_)
          refine q_return dX6_addNumbered_166 rfl (by omega) (by omega) ?_
          refine ⟨rfl, ?_⟩
          unfold wrdC
          simp_all <;> rw [if_neg (by omega)]
        · skip
          refine q_iload dX6_addNumbered_141 rfl ?_
          refine q_bipush (v := nI 40) dX6_addNumbered_143 rfl ?_
          refine q_icmp_geN (tgt := 159) dX6_addNumbered_145 (by decide) (by omega) (by omega) (fun c145 => ?_) (fun c145 => ?_)
          · skip
            refine q_aload_n dX6_addNumbered_159 rfl rfl rfl ?_
            refine q_iconst (v := nI 2) dX6_addNumbered_160 rfl ?_
            refine q_iconst (v := nI 0) dX6_addNumbered_161 rfl ?_
            refine q_iload_n dX6_addNumbered_162 rfl rfl ?_
            refine q_callV (As := [.int (nI 2), .int (nI 0), .int (nI p)]) (rest := []) dX6_addNumbered_163 vX6_42 (ty_c hS (by decide) rfl) ⟨by decide, rfl⟩ (z6_add hS hn h) rfl rfl (Nat.le_of_ble_eq_true rfl) (by omega) (by omega) (by omega) (k_s ?_)
            refine q_return dX6_addNumbered_166 rfl (by omega) (by omega) ?_
            refine ⟨rfl, ?_⟩
            unfold wrdC
            simp_all <;> rw [if_neg (by omega)]
          · skip
            refine q_aload_n dX6_addNumbered_148 rfl rfl rfl ?_
            refine q_iconst (v := nI 5) dX6_addNumbered_149 rfl ?_
            refine q_iload dX6_addNumbered_150 rfl ?_
            refine q_iload_n dX6_addNumbered_152 rfl rfl ?_
            refine q_callV (As := [.int (nI 5), .int (nI k), .int (nI p)]) (rest := []) dX6_addNumbered_153 vX6_42 (ty_c hS (by decide) rfl) ⟨by decide, rfl⟩ (z6_add hS hn h) rfl rfl (Nat.le_of_ble_eq_true rfl) (by omega) (by omega) (by omega) (k_s ?_)
            refine q_goto (tgt := 166) dX6_addNumbered_156 (by decide) ?_
            refine q_return dX6_addNumbered_166 rfl (by omega) (by omega) ?_
            refine ⟨rfl, ?_⟩
            unfold wrdC
            simp_all <;> rw [if_neg (by omega)]
      · skip
        refine q_iload dX6_addNumbered_117 rfl ?_
        refine q_iconst (v := nI 2) dX6_addNumbered_119 rfl ?_
        refine q_icmp_geN (tgt := 134) dX6_addNumbered_120 (by decide) (by omega) (by omega) (fun c120 => ?_) (fun c120 => ?_)
        · skip
          refine q_iload dX6_addNumbered_134 rfl ?_
          refine q_bipush (v := nI 98) dX6_addNumbered_136 rfl ?_
          refine q_icmp_neN (tgt := 159) dX6_addNumbered_138 (by decide) (by omega) (by omega) (fun c138 => ?_) (fun c138 => ?_)
          · skip
            refine q_aload_n dX6_addNumbered_159 rfl rfl rfl ?_
            refine q_iconst (v := nI 2) dX6_addNumbered_160 rfl ?_
            refine q_iconst (v := nI 0) dX6_addNumbered_161 rfl ?_
            refine q_iload_n dX6_addNumbered_162 rfl rfl ?_
            refine q_callV (As := [.int (nI 2), .int (nI 0), .int (nI p)]) (rest := []) dX6_addNumbered_163 vX6_42 (ty_c hS (by decide) rfl) ⟨by decide, rfl⟩ (z6_add hS hn h) rfl rfl (Nat.le_of_ble_eq_true rfl) (by omega) (by omega) (by omega) (k_s ?_)
            refine q_return dX6_addNumbered_166 rfl (by omega) (by omega) ?_
            refine ⟨rfl, ?_⟩
            unfold wrdC
            simp_all <;> rw [if_neg (by omega)]
          · skip
            refine q_iload dX6_addNumbered_141 rfl ?_
            refine q_bipush (v := nI 40) dX6_addNumbered_143 rfl ?_
            refine q_icmp_geN (tgt := 159) dX6_addNumbered_145 (by decide) (by omega) (by omega) (fun c145 => ?_) (fun c145 => ?_)
            · skip
              refine q_aload_n dX6_addNumbered_159 rfl rfl rfl ?_
              refine q_iconst (v := nI 2) dX6_addNumbered_160 rfl ?_
              refine q_iconst (v := nI 0) dX6_addNumbered_161 rfl ?_
              refine q_iload_n dX6_addNumbered_162 rfl rfl ?_
              refine q_callV (As := [.int (nI 2), .int (nI 0), .int (nI p)]) (rest := []) dX6_addNumbered_163 vX6_42 (ty_c hS (by decide) rfl) ⟨by decide, rfl⟩ (z6_add hS hn h) rfl rfl (Nat.le_of_ble_eq_true rfl) (by omega) (by omega) (by omega) (k_s ?_)
              refine q_return dX6_addNumbered_166 rfl (by omega) (by omega) ?_
              refine ⟨rfl, ?_⟩
              unfold wrdC
              simp_all <;> rw [if_neg (by omega)]
            · skip
              refine q_aload_n dX6_addNumbered_148 rfl rfl rfl ?_
              refine q_iconst (v := nI 5) dX6_addNumbered_149 rfl ?_
              refine q_iload dX6_addNumbered_150 rfl ?_
              refine q_iload_n dX6_addNumbered_152 rfl rfl ?_
              refine q_callV (As := [.int (nI 5), .int (nI k), .int (nI p)]) (rest := []) dX6_addNumbered_153 vX6_42 (ty_c hS (by decide) rfl) ⟨by decide, rfl⟩ (z6_add hS hn h) rfl rfl (Nat.le_of_ble_eq_true rfl) (by omega) (by omega) (by omega) (k_s ?_)
              refine q_goto (tgt := 166) dX6_addNumbered_156 (by decide) ?_
              refine q_return dX6_addNumbered_166 rfl (by omega) (by omega) ?_
              refine ⟨rfl, ?_⟩
              unfold wrdC
              simp_all <;> rw [if_neg (by omega)]
        · skip
          refine q_aload_n dX6_addNumbered_123 rfl rfl rfl ?_
          refine q_iconst (v := nI 4) dX6_addNumbered_124 rfl ?_
          refine q_iload dX6_addNumbered_125 rfl ?_
          refine q_iload_n dX6_addNumbered_127 rfl rfl ?_
          refine q_callV (As := [.int (nI 4), .int (nI k), .int (nI p)]) (rest := []) dX6_addNumbered_128 vX6_42 (ty_c hS (by decide) rfl) ⟨by decide, rfl⟩ (z6_add hS hn h) rfl rfl (Nat.le_of_ble_eq_true rfl) (by omega) (by omega) (by omega) (k_s ?_)
          refine q_goto (tgt := 166) dX6_addNumbered_131 (by decide) ?_
          refine q_return dX6_addNumbered_166 rfl (by omega) (by omega) ?_
          refine ⟨rfl, ?_⟩
          unfold wrdC
          simp_all <;> rw [if_neg (by omega)]
    · skip
      refine q_iload dX6_addNumbered_89 rfl ?_
      refine q_bipush (v := nI 32) dX6_addNumbered_91 rfl ?_
      refine q_icmp_geN (tgt := 110) dX6_addNumbered_93 (by decide) (by omega) (by omega) (fun c93 => ?_) (fun c93 => ?_)
      · skip
        refine q_iload dX6_addNumbered_110 rfl ?_
        refine q_bipush (v := nI 114) dX6_addNumbered_112 rfl ?_
        refine q_icmp_neN (tgt := 134) dX6_addNumbered_114 (by decide) (by omega) (by omega) (fun c114 => ?_) (fun c114 => ?_)
        · skip
          refine q_iload dX6_addNumbered_134 rfl ?_
          refine q_bipush (v := nI 98) dX6_addNumbered_136 rfl ?_
          refine q_icmp_neN (tgt := 159) dX6_addNumbered_138 (by decide) (by omega) (by omega) (fun c138 => ?_) (fun c138 => ?_)
          · skip
            refine q_aload_n dX6_addNumbered_159 rfl rfl rfl ?_
            refine q_iconst (v := nI 2) dX6_addNumbered_160 rfl ?_
            refine q_iconst (v := nI 0) dX6_addNumbered_161 rfl ?_
            refine q_iload_n dX6_addNumbered_162 rfl rfl ?_
            refine q_callV (As := [.int (nI 2), .int (nI 0), .int (nI p)]) (rest := []) dX6_addNumbered_163 vX6_42 (ty_c hS (by decide) rfl) ⟨by decide, rfl⟩ (z6_add hS hn h) rfl rfl (Nat.le_of_ble_eq_true rfl) (by omega) (by omega) (by omega) (k_s ?_)
            refine q_return dX6_addNumbered_166 rfl (by omega) (by omega) ?_
            refine ⟨rfl, ?_⟩
            unfold wrdC
            simp_all <;> rw [if_neg (by omega)]
          · skip
            refine q_iload dX6_addNumbered_141 rfl ?_
            refine q_bipush (v := nI 40) dX6_addNumbered_143 rfl ?_
            refine q_icmp_geN (tgt := 159) dX6_addNumbered_145 (by decide) (by omega) (by omega) (fun c145 => ?_) (fun c145 => ?_)
            · skip
              refine q_aload_n dX6_addNumbered_159 rfl rfl rfl ?_
              refine q_iconst (v := nI 2) dX6_addNumbered_160 rfl ?_
              refine q_iconst (v := nI 0) dX6_addNumbered_161 rfl ?_
              refine q_iload_n dX6_addNumbered_162 rfl rfl ?_
              refine q_callV (As := [.int (nI 2), .int (nI 0), .int (nI p)]) (rest := []) dX6_addNumbered_163 vX6_42 (ty_c hS (by decide) rfl) ⟨by decide, rfl⟩ (z6_add hS hn h) rfl rfl (Nat.le_of_ble_eq_true rfl) (by omega) (by omega) (by omega) (k_s ?_)
              refine q_return dX6_addNumbered_166 rfl (by omega) (by omega) ?_
              refine ⟨rfl, ?_⟩
              unfold wrdC
              simp_all <;> rw [if_neg (by omega)]
            · skip
              refine q_aload_n dX6_addNumbered_148 rfl rfl rfl ?_
              refine q_iconst (v := nI 5) dX6_addNumbered_149 rfl ?_
              refine q_iload dX6_addNumbered_150 rfl ?_
              refine q_iload_n dX6_addNumbered_152 rfl rfl ?_
              refine q_callV (As := [.int (nI 5), .int (nI k), .int (nI p)]) (rest := []) dX6_addNumbered_153 vX6_42 (ty_c hS (by decide) rfl) ⟨by decide, rfl⟩ (z6_add hS hn h) rfl rfl (Nat.le_of_ble_eq_true rfl) (by omega) (by omega) (by omega) (k_s ?_)
              refine q_goto (tgt := 166) dX6_addNumbered_156 (by decide) ?_
              refine q_return dX6_addNumbered_166 rfl (by omega) (by omega) ?_
              refine ⟨rfl, ?_⟩
              unfold wrdC
              simp_all <;> rw [if_neg (by omega)]
        · skip
          refine q_iload dX6_addNumbered_117 rfl ?_
          refine q_iconst (v := nI 2) dX6_addNumbered_119 rfl ?_
          refine q_icmp_geN (tgt := 134) dX6_addNumbered_120 (by decide) (by omega) (by omega) (fun c120 => ?_) (fun c120 => ?_)
          · skip
            refine q_iload dX6_addNumbered_134 rfl ?_
            refine q_bipush (v := nI 98) dX6_addNumbered_136 rfl ?_
            refine q_icmp_neN (tgt := 159) dX6_addNumbered_138 (by decide) (by omega) (by omega) (fun c138 => ?_) (fun c138 => ?_)
            · skip
              refine q_aload_n dX6_addNumbered_159 rfl rfl rfl ?_
              refine q_iconst (v := nI 2) dX6_addNumbered_160 rfl ?_
              refine q_iconst (v := nI 0) dX6_addNumbered_161 rfl ?_
              refine q_iload_n dX6_addNumbered_162 rfl rfl ?_
              refine q_callV (As := [.int (nI 2), .int (nI 0), .int (nI p)]) (rest := []) dX6_addNumbered_163 vX6_42 (ty_c hS (by decide) rfl) ⟨by decide, rfl⟩ (z6_add hS hn h) rfl rfl (Nat.le_of_ble_eq_true rfl) (by omega) (by omega) (by omega) (k_s ?_)
              refine q_return dX6_addNumbered_166 rfl (by omega) (by omega) ?_
              refine ⟨rfl, ?_⟩
              unfold wrdC
              simp_all <;> rw [if_neg (by omega)]
            · skip
              refine q_iload dX6_addNumbered_141 rfl ?_
              refine q_bipush (v := nI 40) dX6_addNumbered_143 rfl ?_
              refine q_icmp_geN (tgt := 159) dX6_addNumbered_145 (by decide) (by omega) (by omega) (fun c145 => ?_) (fun c145 => ?_)
              · skip
                refine q_aload_n dX6_addNumbered_159 rfl rfl rfl ?_
                refine q_iconst (v := nI 2) dX6_addNumbered_160 rfl ?_
                refine q_iconst (v := nI 0) dX6_addNumbered_161 rfl ?_
                refine q_iload_n dX6_addNumbered_162 rfl rfl ?_
                refine q_callV (As := [.int (nI 2), .int (nI 0), .int (nI p)]) (rest := []) dX6_addNumbered_163 vX6_42 (ty_c hS (by decide) rfl) ⟨by decide, rfl⟩ (z6_add hS hn h) rfl rfl (Nat.le_of_ble_eq_true rfl) (by omega) (by omega) (by omega) (k_s ?_)
                refine q_return dX6_addNumbered_166 rfl (by omega) (by omega) ?_
                refine ⟨rfl, ?_⟩
                unfold wrdC
                simp_all <;> rw [if_neg (by omega)]
              · skip
                refine q_aload_n dX6_addNumbered_148 rfl rfl rfl ?_
                refine q_iconst (v := nI 5) dX6_addNumbered_149 rfl ?_
                refine q_iload dX6_addNumbered_150 rfl ?_
                refine q_iload_n dX6_addNumbered_152 rfl rfl ?_
                refine q_callV (As := [.int (nI 5), .int (nI k), .int (nI p)]) (rest := []) dX6_addNumbered_153 vX6_42 (ty_c hS (by decide) rfl) ⟨by decide, rfl⟩ (z6_add hS hn h) rfl rfl (Nat.le_of_ble_eq_true rfl) (by omega) (by omega) (by omega) (k_s ?_)
                refine q_goto (tgt := 166) dX6_addNumbered_156 (by decide) ?_
                refine q_return dX6_addNumbered_166 rfl (by omega) (by omega) ?_
                refine ⟨rfl, ?_⟩
                unfold wrdC
                simp_all <;> rw [if_neg (by omega)]
          · skip
            refine q_aload_n dX6_addNumbered_123 rfl rfl rfl ?_
            refine q_iconst (v := nI 4) dX6_addNumbered_124 rfl ?_
            refine q_iload dX6_addNumbered_125 rfl ?_
            refine q_iload_n dX6_addNumbered_127 rfl rfl ?_
            refine q_callV (As := [.int (nI 4), .int (nI k), .int (nI p)]) (rest := []) dX6_addNumbered_128 vX6_42 (ty_c hS (by decide) rfl) ⟨by decide, rfl⟩ (z6_add hS hn h) rfl rfl (Nat.le_of_ble_eq_true rfl) (by omega) (by omega) (by omega) (k_s ?_)
            refine q_goto (tgt := 166) dX6_addNumbered_131 (by decide) ?_
            refine q_return dX6_addNumbered_166 rfl (by omega) (by omega) ?_
            refine ⟨rfl, ?_⟩
            unfold wrdC
            simp_all <;> rw [if_neg (by omega)]
      · skip
        refine q_aload_n dX6_addNumbered_96 rfl rfl rfl ?_
        refine q_iconst (v := nI 3) dX6_addNumbered_97 rfl ?_
        refine q_bipush (v := nI 16) dX6_addNumbered_98 rfl ?_
        refine q_iload dX6_addNumbered_100 rfl ?_
        refine q_iaddN dX6_addNumbered_102 ?_
        refine q_iload_n dX6_addNumbered_103 rfl rfl ?_
        refine q_callV (As := [.int (nI 3), .int (nI (16 + k)), .int (nI p)]) (rest := []) dX6_addNumbered_104 vX6_42 (ty_c hS (by decide) rfl) ⟨by decide, rfl⟩ (z6_add hS hn h) rfl rfl (Nat.le_of_ble_eq_true rfl) (by omega) (by omega) (by omega) (k_s ?_)
        refine q_goto (tgt := 166) dX6_addNumbered_107 (by decide) ?_
        refine q_return dX6_addNumbered_166 rfl (by omega) (by omega) ?_
        refine ⟨rfl, ?_⟩
        unfold wrdC
        simp_all <;> rw [if_neg (by omega)]
  · skip
    refine q_iload dX6_addNumbered_64 rfl ?_
    refine q_bipush (v := nI 16) dX6_addNumbered_66 rfl ?_
    refine q_icmp_geN (tgt := 82) dX6_addNumbered_68 (by decide) (by omega) (by omega) (fun c68 => ?_) (fun c68 => ?_)
    · skip
      refine q_iload dX6_addNumbered_82 rfl ?_
      refine q_bipush (v := nI 116) dX6_addNumbered_84 rfl ?_
      refine q_icmp_neN (tgt := 110) dX6_addNumbered_86 (by decide) (by omega) (by omega) (fun c86 => ?_) (fun c86 => ?_)
      · skip
        refine q_iload dX6_addNumbered_110 rfl ?_
        refine q_bipush (v := nI 114) dX6_addNumbered_112 rfl ?_
        refine q_icmp_neN (tgt := 134) dX6_addNumbered_114 (by decide) (by omega) (by omega) (fun c114 => ?_) (fun c114 => ?_)
        · skip
          refine q_iload dX6_addNumbered_134 rfl ?_
          refine q_bipush (v := nI 98) dX6_addNumbered_136 rfl ?_
          refine q_icmp_neN (tgt := 159) dX6_addNumbered_138 (by decide) (by omega) (by omega) (fun c138 => ?_) (fun c138 => ?_)
          · skip
            refine q_aload_n dX6_addNumbered_159 rfl rfl rfl ?_
            refine q_iconst (v := nI 2) dX6_addNumbered_160 rfl ?_
            refine q_iconst (v := nI 0) dX6_addNumbered_161 rfl ?_
            refine q_iload_n dX6_addNumbered_162 rfl rfl ?_
            refine q_callV (As := [.int (nI 2), .int (nI 0), .int (nI p)]) (rest := []) dX6_addNumbered_163 vX6_42 (ty_c hS (by decide) rfl) ⟨by decide, rfl⟩ (z6_add hS hn h) rfl rfl (Nat.le_of_ble_eq_true rfl) (by omega) (by omega) (by omega) (k_s ?_)
            refine q_return dX6_addNumbered_166 rfl (by omega) (by omega) ?_
            refine ⟨rfl, ?_⟩
            unfold wrdC
            simp_all <;> rw [if_neg (by omega)]
          · skip
            refine q_iload dX6_addNumbered_141 rfl ?_
            refine q_bipush (v := nI 40) dX6_addNumbered_143 rfl ?_
            refine q_icmp_geN (tgt := 159) dX6_addNumbered_145 (by decide) (by omega) (by omega) (fun c145 => ?_) (fun c145 => ?_)
            · skip
              refine q_aload_n dX6_addNumbered_159 rfl rfl rfl ?_
              refine q_iconst (v := nI 2) dX6_addNumbered_160 rfl ?_
              refine q_iconst (v := nI 0) dX6_addNumbered_161 rfl ?_
              refine q_iload_n dX6_addNumbered_162 rfl rfl ?_
              refine q_callV (As := [.int (nI 2), .int (nI 0), .int (nI p)]) (rest := []) dX6_addNumbered_163 vX6_42 (ty_c hS (by decide) rfl) ⟨by decide, rfl⟩ (z6_add hS hn h) rfl rfl (Nat.le_of_ble_eq_true rfl) (by omega) (by omega) (by omega) (k_s ?_)
              refine q_return dX6_addNumbered_166 rfl (by omega) (by omega) ?_
              refine ⟨rfl, ?_⟩
              unfold wrdC
              simp_all <;> rw [if_neg (by omega)]
            · skip
              refine q_aload_n dX6_addNumbered_148 rfl rfl rfl ?_
              refine q_iconst (v := nI 5) dX6_addNumbered_149 rfl ?_
              refine q_iload dX6_addNumbered_150 rfl ?_
              refine q_iload_n dX6_addNumbered_152 rfl rfl ?_
              refine q_callV (As := [.int (nI 5), .int (nI k), .int (nI p)]) (rest := []) dX6_addNumbered_153 vX6_42 (ty_c hS (by decide) rfl) ⟨by decide, rfl⟩ (z6_add hS hn h) rfl rfl (Nat.le_of_ble_eq_true rfl) (by omega) (by omega) (by omega) (k_s ?_)
              refine q_goto (tgt := 166) dX6_addNumbered_156 (by decide) ?_
              refine q_return dX6_addNumbered_166 rfl (by omega) (by omega) ?_
              refine ⟨rfl, ?_⟩
              unfold wrdC
              simp_all <;> rw [if_neg (by omega)]
        · skip
          refine q_iload dX6_addNumbered_117 rfl ?_
          refine q_iconst (v := nI 2) dX6_addNumbered_119 rfl ?_
          refine q_icmp_geN (tgt := 134) dX6_addNumbered_120 (by decide) (by omega) (by omega) (fun c120 => ?_) (fun c120 => ?_)
          · skip
            refine q_iload dX6_addNumbered_134 rfl ?_
            refine q_bipush (v := nI 98) dX6_addNumbered_136 rfl ?_
            refine q_icmp_neN (tgt := 159) dX6_addNumbered_138 (by decide) (by omega) (by omega) (fun c138 => ?_) (fun c138 => ?_)
            · skip
              refine q_aload_n dX6_addNumbered_159 rfl rfl rfl ?_
              refine q_iconst (v := nI 2) dX6_addNumbered_160 rfl ?_
              refine q_iconst (v := nI 0) dX6_addNumbered_161 rfl ?_
              refine q_iload_n dX6_addNumbered_162 rfl rfl ?_
              refine q_callV (As := [.int (nI 2), .int (nI 0), .int (nI p)]) (rest := []) dX6_addNumbered_163 vX6_42 (ty_c hS (by decide) rfl) ⟨by decide, rfl⟩ (z6_add hS hn h) rfl rfl (Nat.le_of_ble_eq_true rfl) (by omega) (by omega) (by omega) (k_s ?_)
              refine q_return dX6_addNumbered_166 rfl (by omega) (by omega) ?_
              refine ⟨rfl, ?_⟩
              unfold wrdC
              simp_all <;> rw [if_neg (by omega)]
            · skip
              refine q_iload dX6_addNumbered_141 rfl ?_
              refine q_bipush (v := nI 40) dX6_addNumbered_143 rfl ?_
              refine q_icmp_geN (tgt := 159) dX6_addNumbered_145 (by decide) (by omega) (by omega) (fun c145 => ?_) (fun c145 => ?_)
              · skip
                refine q_aload_n dX6_addNumbered_159 rfl rfl rfl ?_
                refine q_iconst (v := nI 2) dX6_addNumbered_160 rfl ?_
                refine q_iconst (v := nI 0) dX6_addNumbered_161 rfl ?_
                refine q_iload_n dX6_addNumbered_162 rfl rfl ?_
                refine q_callV (As := [.int (nI 2), .int (nI 0), .int (nI p)]) (rest := []) dX6_addNumbered_163 vX6_42 (ty_c hS (by decide) rfl) ⟨by decide, rfl⟩ (z6_add hS hn h) rfl rfl (Nat.le_of_ble_eq_true rfl) (by omega) (by omega) (by omega) (k_s ?_)
                refine q_return dX6_addNumbered_166 rfl (by omega) (by omega) ?_
                refine ⟨rfl, ?_⟩
                unfold wrdC
                simp_all <;> rw [if_neg (by omega)]
              · skip
                refine q_aload_n dX6_addNumbered_148 rfl rfl rfl ?_
                refine q_iconst (v := nI 5) dX6_addNumbered_149 rfl ?_
                refine q_iload dX6_addNumbered_150 rfl ?_
                refine q_iload_n dX6_addNumbered_152 rfl rfl ?_
                refine q_callV (As := [.int (nI 5), .int (nI k), .int (nI p)]) (rest := []) dX6_addNumbered_153 vX6_42 (ty_c hS (by decide) rfl) ⟨by decide, rfl⟩ (z6_add hS hn h) rfl rfl (Nat.le_of_ble_eq_true rfl) (by omega) (by omega) (by omega) (k_s ?_)
                refine q_goto (tgt := 166) dX6_addNumbered_156 (by decide) ?_
                refine q_return dX6_addNumbered_166 rfl (by omega) (by omega) ?_
                refine ⟨rfl, ?_⟩
                unfold wrdC
                simp_all <;> rw [if_neg (by omega)]
          · skip
            refine q_aload_n dX6_addNumbered_123 rfl rfl rfl ?_
            refine q_iconst (v := nI 4) dX6_addNumbered_124 rfl ?_
            refine q_iload dX6_addNumbered_125 rfl ?_
            refine q_iload_n dX6_addNumbered_127 rfl rfl ?_
            refine q_callV (As := [.int (nI 4), .int (nI k), .int (nI p)]) (rest := []) dX6_addNumbered_128 vX6_42 (ty_c hS (by decide) rfl) ⟨by decide, rfl⟩ (z6_add hS hn h) rfl rfl (Nat.le_of_ble_eq_true rfl) (by omega) (by omega) (by omega) (k_s ?_)
            refine q_goto (tgt := 166) dX6_addNumbered_131 (by decide) ?_
            refine q_return dX6_addNumbered_166 rfl (by omega) (by omega) ?_
            refine ⟨rfl, ?_⟩
            unfold wrdC
            simp_all <;> rw [if_neg (by omega)]
      · skip
        refine q_iload dX6_addNumbered_89 rfl ?_
        refine q_bipush (v := nI 32) dX6_addNumbered_91 rfl ?_
        refine q_icmp_geN (tgt := 110) dX6_addNumbered_93 (by decide) (by omega) (by omega) (fun c93 => ?_) (fun c93 => ?_)
        · skip
          refine q_iload dX6_addNumbered_110 rfl ?_
          refine q_bipush (v := nI 114) dX6_addNumbered_112 rfl ?_
          refine q_icmp_neN (tgt := 134) dX6_addNumbered_114 (by decide) (by omega) (by omega) (fun c114 => ?_) (fun c114 => ?_)
          · skip
            refine q_iload dX6_addNumbered_134 rfl ?_
            refine q_bipush (v := nI 98) dX6_addNumbered_136 rfl ?_
            refine q_icmp_neN (tgt := 159) dX6_addNumbered_138 (by decide) (by omega) (by omega) (fun c138 => ?_) (fun c138 => ?_)
            · skip
              refine q_aload_n dX6_addNumbered_159 rfl rfl rfl ?_
              refine q_iconst (v := nI 2) dX6_addNumbered_160 rfl ?_
              refine q_iconst (v := nI 0) dX6_addNumbered_161 rfl ?_
              refine q_iload_n dX6_addNumbered_162 rfl rfl ?_
              refine q_callV (As := [.int (nI 2), .int (nI 0), .int (nI p)]) (rest := []) dX6_addNumbered_163 vX6_42 (ty_c hS (by decide) rfl) ⟨by decide, rfl⟩ (z6_add hS hn h) rfl rfl (Nat.le_of_ble_eq_true rfl) (by omega) (by omega) (by omega) (k_s ?_)
              refine q_return dX6_addNumbered_166 rfl (by omega) (by omega) ?_
              refine ⟨rfl, ?_⟩
              unfold wrdC
              simp_all <;> rw [if_neg (by omega)]
            · skip
              refine q_iload dX6_addNumbered_141 rfl ?_
              refine q_bipush (v := nI 40) dX6_addNumbered_143 rfl ?_
              refine q_icmp_geN (tgt := 159) dX6_addNumbered_145 (by decide) (by omega) (by omega) (fun c145 => ?_) (fun c145 => ?_)
              · skip
                refine q_aload_n dX6_addNumbered_159 rfl rfl rfl ?_
                refine q_iconst (v := nI 2) dX6_addNumbered_160 rfl ?_
                refine q_iconst (v := nI 0) dX6_addNumbered_161 rfl ?_
                refine q_iload_n dX6_addNumbered_162 rfl rfl ?_
                refine q_callV (As := [.int (nI 2), .int (nI 0), .int (nI p)]) (rest := []) dX6_addNumbered_163 vX6_42 (ty_c hS (by decide) rfl) ⟨by decide, rfl⟩ (z6_add hS hn h) rfl rfl (Nat.le_of_ble_eq_true rfl) (by omega) (by omega) (by omega) (k_s ?_)
                refine q_return dX6_addNumbered_166 rfl (by omega) (by omega) ?_
                refine ⟨rfl, ?_⟩
                unfold wrdC
                simp_all <;> rw [if_neg (by omega)]
              · skip
                refine q_aload_n dX6_addNumbered_148 rfl rfl rfl ?_
                refine q_iconst (v := nI 5) dX6_addNumbered_149 rfl ?_
                refine q_iload dX6_addNumbered_150 rfl ?_
                refine q_iload_n dX6_addNumbered_152 rfl rfl ?_
                refine q_callV (As := [.int (nI 5), .int (nI k), .int (nI p)]) (rest := []) dX6_addNumbered_153 vX6_42 (ty_c hS (by decide) rfl) ⟨by decide, rfl⟩ (z6_add hS hn h) rfl rfl (Nat.le_of_ble_eq_true rfl) (by omega) (by omega) (by omega) (k_s ?_)
                refine q_goto (tgt := 166) dX6_addNumbered_156 (by decide) ?_
                refine q_return dX6_addNumbered_166 rfl (by omega) (by omega) ?_
                refine ⟨rfl, ?_⟩
                unfold wrdC
                simp_all <;> rw [if_neg (by omega)]
          · skip
            refine q_iload dX6_addNumbered_117 rfl ?_
            refine q_iconst (v := nI 2) dX6_addNumbered_119 rfl ?_
            refine q_icmp_geN (tgt := 134) dX6_addNumbered_120 (by decide) (by omega) (by omega) (fun c120 => ?_) (fun c120 => ?_)
            · skip
              refine q_iload dX6_addNumbered_134 rfl ?_
              refine q_bipush (v := nI 98) dX6_addNumbered_136 rfl ?_
              refine q_icmp_neN (tgt := 159) dX6_addNumbered_138 (by decide) (by omega) (by omega) (fun c138 => ?_) (fun c138 => ?_)
              · skip
                refine q_aload_n dX6_addNumbered_159 rfl rfl rfl ?_
                refine q_iconst (v := nI 2) dX6_addNumbered_160 rfl ?_
                refine q_iconst (v := nI 0) dX6_addNumbered_161 rfl ?_
                refine q_iload_n dX6_addNumbered_162 rfl rfl ?_
                refine q_callV (As := [.int (nI 2), .int (nI 0), .int (nI p)]) (rest := []) dX6_addNumbered_163 vX6_42 (ty_c hS (by decide) rfl) ⟨by decide, rfl⟩ (z6_add hS hn h) rfl rfl (Nat.le_of_ble_eq_true rfl) (by omega) (by omega) (by omega) (k_s ?_)
                refine q_return dX6_addNumbered_166 rfl (by omega) (by omega) ?_
                refine ⟨rfl, ?_⟩
                unfold wrdC
                simp_all <;> rw [if_neg (by omega)]
              · skip
                refine q_iload dX6_addNumbered_141 rfl ?_
                refine q_bipush (v := nI 40) dX6_addNumbered_143 rfl ?_
                refine q_icmp_geN (tgt := 159) dX6_addNumbered_145 (by decide) (by omega) (by omega) (fun c145 => ?_) (fun c145 => ?_)
                · skip
                  refine q_aload_n dX6_addNumbered_159 rfl rfl rfl ?_
                  refine q_iconst (v := nI 2) dX6_addNumbered_160 rfl ?_
                  refine q_iconst (v := nI 0) dX6_addNumbered_161 rfl ?_
                  refine q_iload_n dX6_addNumbered_162 rfl rfl ?_
                  refine q_callV (As := [.int (nI 2), .int (nI 0), .int (nI p)]) (rest := []) dX6_addNumbered_163 vX6_42 (ty_c hS (by decide) rfl) ⟨by decide, rfl⟩ (z6_add hS hn h) rfl rfl (Nat.le_of_ble_eq_true rfl) (by omega) (by omega) (by omega) (k_s ?_)
                  refine q_return dX6_addNumbered_166 rfl (by omega) (by omega) ?_
                  refine ⟨rfl, ?_⟩
                  unfold wrdC
                  simp_all <;> rw [if_neg (by omega)]
                · skip
                  refine q_aload_n dX6_addNumbered_148 rfl rfl rfl ?_
                  refine q_iconst (v := nI 5) dX6_addNumbered_149 rfl ?_
                  refine q_iload dX6_addNumbered_150 rfl ?_
                  refine q_iload_n dX6_addNumbered_152 rfl rfl ?_
                  refine q_callV (As := [.int (nI 5), .int (nI k), .int (nI p)]) (rest := []) dX6_addNumbered_153 vX6_42 (ty_c hS (by decide) rfl) ⟨by decide, rfl⟩ (z6_add hS hn h) rfl rfl (Nat.le_of_ble_eq_true rfl) (by omega) (by omega) (by omega) (k_s ?_)
                  refine q_goto (tgt := 166) dX6_addNumbered_156 (by decide) ?_
                  refine q_return dX6_addNumbered_166 rfl (by omega) (by omega) ?_
                  refine ⟨rfl, ?_⟩
                  unfold wrdC
                  simp_all <;> rw [if_neg (by omega)]
            · skip
              refine q_aload_n dX6_addNumbered_123 rfl rfl rfl ?_
              refine q_iconst (v := nI 4) dX6_addNumbered_124 rfl ?_
              refine q_iload dX6_addNumbered_125 rfl ?_
              refine q_iload_n dX6_addNumbered_127 rfl rfl ?_
              refine q_callV (As := [.int (nI 4), .int (nI k), .int (nI p)]) (rest := []) dX6_addNumbered_128 vX6_42 (ty_c hS (by decide) rfl) ⟨by decide, rfl⟩ (z6_add hS hn h) rfl rfl (Nat.le_of_ble_eq_true rfl) (by omega) (by omega) (by omega) (k_s ?_)
              refine q_goto (tgt := 166) dX6_addNumbered_131 (by decide) ?_
              refine q_return dX6_addNumbered_166 rfl (by omega) (by omega) ?_
              refine ⟨rfl, ?_⟩
              unfold wrdC
              simp_all <;> rw [if_neg (by omega)]
        · skip
          refine q_aload_n dX6_addNumbered_96 rfl rfl rfl ?_
          refine q_iconst (v := nI 3) dX6_addNumbered_97 rfl ?_
          refine q_bipush (v := nI 16) dX6_addNumbered_98 rfl ?_
          refine q_iload dX6_addNumbered_100 rfl ?_
          refine q_iaddN dX6_addNumbered_102 ?_
          refine q_iload_n dX6_addNumbered_103 rfl rfl ?_
          refine q_callV (As := [.int (nI 3), .int (nI (16 + k)), .int (nI p)]) (rest := []) dX6_addNumbered_104 vX6_42 (ty_c hS (by decide) rfl) ⟨by decide, rfl⟩ (z6_add hS hn h) rfl rfl (Nat.le_of_ble_eq_true rfl) (by omega) (by omega) (by omega) (k_s ?_)
          refine q_goto (tgt := 166) dX6_addNumbered_107 (by decide) ?_
          refine q_return dX6_addNumbered_166 rfl (by omega) (by omega) ?_
          refine ⟨rfl, ?_⟩
          unfold wrdC
          simp_all <;> rw [if_neg (by omega)]
    · skip
      refine q_aload_n dX6_addNumbered_71 rfl rfl rfl ?_
      refine q_iconst (v := nI 3) dX6_addNumbered_72 rfl ?_
      refine q_iload dX6_addNumbered_73 rfl ?_
      refine q_iload_n dX6_addNumbered_75 rfl rfl ?_
      refine q_callV (As := [.int (nI 3), .int (nI k), .int (nI p)]) (rest := []) dX6_addNumbered_76 vX6_42 (ty_c hS (by decide) rfl) ⟨by decide, rfl⟩ (z6_add hS hn h) rfl rfl (Nat.le_of_ble_eq_true rfl) (by omega) (by omega) (by omega) (k_s ?_)
      refine q_goto (tgt := 166) dX6_addNumbered_79 (by decide) ?_
      refine q_return dX6_addNumbered_166 rfl (by omega) (by omega) ?_
      refine ⟨rfl, ?_⟩
      unfold wrdC
      simp_all <;> rw [if_neg (by omega)]
theorem numF_lt (T : Nat → Nat) : ∀ (k i n : Nat), (∀ j, i ≤ j → j < i + k → isDig (T j) = true) → numF T i k n < (n + 1) * 10 ^ k
  | 0, i, n, _ => by simp [numF]
  | k + 1, i, n, h => by
    have hd := dig_48 (h i (Nat.le_refl _) (by omega))
    have ih := numF_lt T k (i + 1) (10 * n + (T i - 48)) (fun j h1 h2 => h j (by omega) (by omega))
    rw [numF, Nat.pow_succ]
    refine Nat.lt_of_lt_of_le ih ?_
    rw [Nat.mul_comm (10 ^ k) 10, ← Nat.mul_assoc]
    exact Nat.mul_le_mul_right _ (by omega)
theorem num_lt {T : Nat → Nat} {p e : Nat} (h : ∀ j, p ≤ j → j < e → isDig (T j) = true) (h9 : e - p ≤ 9) : num T p e < 1000000000 := by
  have h1 := numF_lt T (e - p) p 0 (fun j h1 h2 => h j h1 (by omega))
  have h10 : 10 ^ (e - p) ≤ 10 ^ 9 := Nat.pow_le_pow_right (by decide) h9
  unfold num
  omega
theorem z6_addNumbered {g : GG} {σ : HS} (hS : SK σ) {L : Nat} {T : Nat → Nat} (hT : CTX σ L T) {n p m e : Nat} (hn : sI σ 6 3 = nI n) (h : n < 3001) (hpm : p < m) (hme : m < e) (he : e ≤ L) (hd : ∀ j, m ≤ j → j < e → isDig (T j) = true) (h8 : e - p ≤ 8) : CT g mX6_addNumbered 2 0 0 [.ref 6, .ref 2, .int (nI p), .int (nI m), .int (nI e)] σ (VQ (addT σ n (wrdV T p m e).1 (wrdV T p m e).2 p)) := by
  have h3 := hT.2.1
  have hb1 := (hT.2.2 m (by omega)).2
  have hb2 := (hT.2.2 p (by omega)).2
  have hnm := num_lt hd (by omega)
  rw [wrdV_C]
  refine CT.of (by decide) (Nat.le_of_ble_eq_true rfl) ?_
  refine q_aload_n dX6_addNumbered_0 rfl rfl rfl ?_
  refine q_iload_n dX6_addNumbered_1 rfl rfl ?_
  refine q_iload dX6_addNumbered_2 rfl ?_
  refine q_callS (As := [.ref 2, .int (nI m), .int (nI e)]) (rest := []) dX6_addNumbered_4 vX6_67 (z6_numberOf hS hT (by omega) (by omega) hd (by omega)) rfl rfl (Nat.le_of_ble_eq_true rfl) (by omega) (by omega) (by omega) (k_p ?_)
  refine q_istore dX6_addNumbered_7 (by decide) (ls' := [(5, .int (nI (num T m e))), (0, .ref 6), (1, .ref 2), (2, .int (nI p)), (3, .int (nI m)), (4, .int (nI e))]) rfl ?_
  refine q_aload_n dX6_addNumbered_9 rfl rfl rfl ?_
  refine q_iload_n dX6_addNumbered_10 rfl rfl ?_
  refine q_callV (As := [.int (nI m)]) (rest := []) dX6_addNumbered_11 vX6_30 (ty_c hS (by decide) rfl) ⟨by decide, rfl⟩ (z5_byteAt hS hT (by omega)) rfl rfl (Nat.le_of_ble_eq_true rfl) (by omega) (by omega) (by omega) (k_p ?_)
  refine q_bipush (v := nI 48) dX6_addNumbered_14 rfl ?_
  refine q_icmp_neN (tgt := 31) dX6_addNumbered_16 (by decide) (by omega) (by omega) (fun c16 => ?_) (fun c16 => ?_)
  · skip
    refine q_iconst (v := nI 0) dX6_addNumbered_31 rfl ?_
    refine q_istore dX6_addNumbered_32 (by decide) (ls' := [(6, .int (nI 0)), (5, .int (nI (num T m e))), (0, .ref 6), (1, .ref 2), (2, .int (nI p)), (3, .int (nI m)), (4, .int (nI e))]) rfl ?_
    refine q_iload dX6_addNumbered_34 rfl ?_
    refine q_if_neN (tgt := 46) dX6_addNumbered_36 (by decide) (by omega) (fun h => absurd h (by decide)) (fun _ => ?_)
    refine q_iload_n dX6_addNumbered_39 rfl rfl ?_
    refine q_iload_n dX6_addNumbered_40 rfl rfl ?_
    refine q_isubN dX6_addNumbered_41 (by omega) ?_
    refine q_iconst (v := nI 1) dX6_addNumbered_42 rfl ?_
    refine q_icmp_eqN (tgt := 50) dX6_addNumbered_43 (by decide) (by omega) (by omega) (fun c43 => ?_) (fun c43 => ?_)
    · skip
      refine q_aload_n dX6_addNumbered_50 rfl rfl rfl ?_
      refine q_iload_n dX6_addNumbered_51 rfl rfl ?_
      refine q_callV (As := [.int (nI p)]) (rest := []) dX6_addNumbered_52 vX6_30 (ty_c hS (by decide) rfl) ⟨by decide, rfl⟩ (z5_byteAt hS hT (by omega)) rfl rfl (Nat.le_of_ble_eq_true rfl) (by omega) (by omega) (by omega) (k_p ?_)
      refine q_istore dX6_addNumbered_55 (by decide) (ls' := [(7, .int (nI (T p))), (6, .int (nI 0)), (5, .int (nI (num T m e))), (0, .ref 6), (1, .ref 2), (2, .int (nI p)), (3, .int (nI m)), (4, .int (nI e))]) rfl ?_
      refine q_pk [3, 4, 5, 6, 7, 2, 1, 0] (ls' := [(0, .ref 6), (1, .ref 2), (2, .int (nI p)), (3, .int (nI m)), (4, .int (nI e)), (5, .int (nI (num T m e))), (6, .int (nI 0)), (7, .int (nI (T p)))]) rfl ?_
      have hw : wrdL T p m e = (T p) := by
        unfold wrdL
        simp_all <;> omega
      rw [hw]
      exact y6_addNumbered hS hn h (by omega) (by omega)
    · skip
      refine q_iconst (v := nI 0) dX6_addNumbered_46 rfl ?_
      refine q_goto (tgt := 55) dX6_addNumbered_47 (by decide) ?_
      refine q_istore dX6_addNumbered_55 (by decide) (ls' := [(7, .int (nI 0)), (6, .int (nI 0)), (5, .int (nI (num T m e))), (0, .ref 6), (1, .ref 2), (2, .int (nI p)), (3, .int (nI m)), (4, .int (nI e))]) rfl ?_
      refine q_pk [3, 4, 5, 6, 7, 2, 1, 0] (ls' := [(0, .ref 6), (1, .ref 2), (2, .int (nI p)), (3, .int (nI m)), (4, .int (nI e)), (5, .int (nI (num T m e))), (6, .int (nI 0)), (7, .int (nI 0))]) rfl ?_
      have hw : wrdL T p m e = 0 := by
        unfold wrdL
        simp_all <;> omega
      rw [hw]
      exact y6_addNumbered hS hn h (by omega) (by omega)
  · skip
    refine q_iload dX6_addNumbered_19 rfl ?_
    refine q_iload_n dX6_addNumbered_21 rfl rfl ?_
    refine q_isubN dX6_addNumbered_22 (by omega) ?_
    refine q_iconst (v := nI 1) dX6_addNumbered_23 rfl ?_
    refine q_icmp_leN (tgt := 31) dX6_addNumbered_24 (by decide) (by omega) (by omega) (fun c24 => ?_) (fun c24 => ?_)
    · skip
      refine q_iconst (v := nI 0) dX6_addNumbered_31 rfl ?_
      refine q_istore dX6_addNumbered_32 (by decide) (ls' := [(6, .int (nI 0)), (5, .int (nI (num T m e))), (0, .ref 6), (1, .ref 2), (2, .int (nI p)), (3, .int (nI m)), (4, .int (nI e))]) rfl ?_
      refine q_iload dX6_addNumbered_34 rfl ?_
      refine q_if_neN (tgt := 46) dX6_addNumbered_36 (by decide) (by omega) (fun h => absurd h (by decide)) (fun _ => ?_)
      refine q_iload_n dX6_addNumbered_39 rfl rfl ?_
      refine q_iload_n dX6_addNumbered_40 rfl rfl ?_
      refine q_isubN dX6_addNumbered_41 (by omega) ?_
      refine q_iconst (v := nI 1) dX6_addNumbered_42 rfl ?_
      refine q_icmp_eqN (tgt := 50) dX6_addNumbered_43 (by decide) (by omega) (by omega) (fun c43 => ?_) (fun c43 => ?_)
      · skip
        refine q_aload_n dX6_addNumbered_50 rfl rfl rfl ?_
        refine q_iload_n dX6_addNumbered_51 rfl rfl ?_
        refine q_callV (As := [.int (nI p)]) (rest := []) dX6_addNumbered_52 vX6_30 (ty_c hS (by decide) rfl) ⟨by decide, rfl⟩ (z5_byteAt hS hT (by omega)) rfl rfl (Nat.le_of_ble_eq_true rfl) (by omega) (by omega) (by omega) (k_p ?_)
        refine q_istore dX6_addNumbered_55 (by decide) (ls' := [(7, .int (nI (T p))), (6, .int (nI 0)), (5, .int (nI (num T m e))), (0, .ref 6), (1, .ref 2), (2, .int (nI p)), (3, .int (nI m)), (4, .int (nI e))]) rfl ?_
        refine q_pk [3, 4, 5, 6, 7, 2, 1, 0] (ls' := [(0, .ref 6), (1, .ref 2), (2, .int (nI p)), (3, .int (nI m)), (4, .int (nI e)), (5, .int (nI (num T m e))), (6, .int (nI 0)), (7, .int (nI (T p)))]) rfl ?_
        have hw : wrdL T p m e = (T p) := by
          unfold wrdL
          simp_all <;> omega
        rw [hw]
        exact y6_addNumbered hS hn h (by omega) (by omega)
      · skip
        refine q_iconst (v := nI 0) dX6_addNumbered_46 rfl ?_
        refine q_goto (tgt := 55) dX6_addNumbered_47 (by decide) ?_
        refine q_istore dX6_addNumbered_55 (by decide) (ls' := [(7, .int (nI 0)), (6, .int (nI 0)), (5, .int (nI (num T m e))), (0, .ref 6), (1, .ref 2), (2, .int (nI p)), (3, .int (nI m)), (4, .int (nI e))]) rfl ?_
        refine q_pk [3, 4, 5, 6, 7, 2, 1, 0] (ls' := [(0, .ref 6), (1, .ref 2), (2, .int (nI p)), (3, .int (nI m)), (4, .int (nI e)), (5, .int (nI (num T m e))), (6, .int (nI 0)), (7, .int (nI 0))]) rfl ?_
        have hw : wrdL T p m e = 0 := by
          unfold wrdL
          simp_all <;> omega
        rw [hw]
        exact y6_addNumbered hS hn h (by omega) (by omega)
    · skip
      refine q_iconst (v := nI 1) dX6_addNumbered_27 rfl ?_
      refine q_goto (tgt := 32) dX6_addNumbered_28 (by decide) ?_
      refine q_istore dX6_addNumbered_32 (by decide) (ls' := [(6, .int (nI 1)), (5, .int (nI (num T m e))), (0, .ref 6), (1, .ref 2), (2, .int (nI p)), (3, .int (nI m)), (4, .int (nI e))]) rfl ?_
      refine q_iload dX6_addNumbered_34 rfl ?_
      refine q_if_neN (tgt := 46) dX6_addNumbered_36 (by decide) (by omega) (fun _ => ?_) (fun h => absurd h (by decide))
      refine q_iconst (v := nI 0) dX6_addNumbered_46 rfl ?_
      refine q_goto (tgt := 55) dX6_addNumbered_47 (by decide) ?_
      refine q_istore dX6_addNumbered_55 (by decide) (ls' := [(7, .int (nI 0)), (6, .int (nI 1)), (5, .int (nI (num T m e))), (0, .ref 6), (1, .ref 2), (2, .int (nI p)), (3, .int (nI m)), (4, .int (nI e))]) rfl ?_
      refine q_pk [3, 4, 5, 6, 7, 2, 1, 0] (ls' := [(0, .ref 6), (1, .ref 2), (2, .int (nI p)), (3, .int (nI m)), (4, .int (nI e)), (5, .int (nI (num T m e))), (6, .int (nI 1)), (7, .int (nI 0))]) rfl ?_
      have hw : wrdL T p m e = 0 := by
        unfold wrdL
        simp_all <;> omega
      rw [hw]
      exact y6_addNumbered hS hn h (by omega) (by omega)
theorem z6_word {g : GG} {σ : HS} (hS : SK σ) {L : Nat} {T : Nat → Nat} (hT : CTX σ L T) {n p : Nat} (hn : sI σ 6 3 = nI n) (h : n < 3001) (hp : p < L) (hld : isLD (T p) = true) : CT g mX6_scanWordOrNumber 6 0 0 [.ref 6, .ref 2, .int (nI p)] σ (PQ (addT σ n (lxK T L p).1 (lxK T L p).2 p) (.int (nI (lxE T L p)))) := by
  have h3 := hT.2.1
  have g1 : p ≤ e1 T L p := run_ge _ _ _ _
  have g2 : e1 T L p ≤ e2 T L p := run_ge _ _ _ _
  have g3 : e2 T L p ≤ e3 T L p := run_ge _ _ _ _
  have g4 : e1 T L p ≤ L := run_le _ _ (by omega)
  have g5 : e2 T L p ≤ L := run_le _ _ g4
  have g6 : e3 T L p ≤ L := run_le _ _ g5
  have gd : ∀ j, e1 T L p ≤ j → j < e2 T L p → isDig (T j) = true := fun j => run_all
  have gl : lxE T L p = e3 T L p := by unfold lxE; rw [if_pos hld]
  have gk : lxK T L p = (if e3 T L p ≠ e2 T L p ∨ (if e1 T L p = p then 9 else 8) < e3 T L p - p then (K_STR, 0) else if e1 T L p = p then (K_NUM, num T p (e3 T L p)) else if e1 T L p = e3 T L p then keyV T p (e3 T L p) else wrdV T p (e1 T L p) (e3 T L p)) := by unfold lxK; rw [if_pos hld]
  rw [gl, gk]
  refine CT.of (by decide) (Nat.le_of_ble_eq_true rfl) ?_
  refine q_aload_n dX6_scanWordOrNumber_0 rfl rfl rfl ?_
  refine q_iload_n dX6_scanWordOrNumber_1 rfl rfl ?_
  refine q_callS (As := [.ref 2, .int (nI p)]) (rest := []) dX6_scanWordOrNumber_2 vX6_58 (z6_endOfLetters hS hT (by omega)) rfl rfl (Nat.le_of_ble_eq_true rfl) (by omega) (by omega) (by omega) (k_p ?_)
  refine q_istore_n dX6_scanWordOrNumber_5 rfl (by decide) (ls' := [(3, .int (nI (e1 T L p))), (0, .ref 6), (1, .ref 2), (2, .int (nI p))]) rfl ?_
  refine q_aload_n dX6_scanWordOrNumber_6 rfl rfl rfl ?_
  refine q_iload_n dX6_scanWordOrNumber_7 rfl rfl ?_
  refine q_callS (As := [.ref 2, .int (nI (e1 T L p))]) (rest := []) dX6_scanWordOrNumber_8 vX6_61 (z6_endOfDigits hS hT (by omega)) rfl rfl (Nat.le_of_ble_eq_true rfl) (by omega) (by omega) (by omega) (k_p ?_)
  refine q_istore dX6_scanWordOrNumber_11 (by decide) (ls' := [(4, .int (nI (e2 T L p))), (3, .int (nI (e1 T L p))), (0, .ref 6), (1, .ref 2), (2, .int (nI p))]) rfl ?_
  refine q_aload_n dX6_scanWordOrNumber_13 rfl rfl rfl ?_
  refine q_iload dX6_scanWordOrNumber_14 rfl ?_
  refine q_callS (As := [.ref 2, .int (nI (e2 T L p))]) (rest := []) dX6_scanWordOrNumber_16 vX6_64 (z6_endOfBoth hS hT (by omega)) rfl rfl (Nat.le_of_ble_eq_true rfl) (by omega) (by omega) (by omega) (k_p ?_)
  refine q_istore dX6_scanWordOrNumber_19 (by decide) (ls' := [(5, .int (nI (e3 T L p))), (4, .int (nI (e2 T L p))), (3, .int (nI (e1 T L p))), (0, .ref 6), (1, .ref 2), (2, .int (nI p))]) rfl ?_
  refine q_iload_n dX6_scanWordOrNumber_21 rfl rfl ?_
  refine q_iload_n dX6_scanWordOrNumber_22 rfl rfl ?_
  refine q_icmp_neN (tgt := 30) dX6_scanWordOrNumber_23 (by decide) (by omega) (by omega) (fun c23 => ?_) (fun c23 => ?_)
  · skip
    refine q_iconst (v := nI 0) dX6_scanWordOrNumber_30 rfl ?_
    refine q_istore dX6_scanWordOrNumber_31 (by decide) (ls' := [(6, .int (nI 0)), (5, .int (nI (e3 T L p))), (4, .int (nI (e2 T L p))), (3, .int (nI (e1 T L p))), (0, .ref 6), (1, .ref 2), (2, .int (nI p))]) rfl ?_
    refine q_iload dX6_scanWordOrNumber_33 rfl ?_
    refine q_iload dX6_scanWordOrNumber_35 rfl ?_
    refine q_icmp_neN (tgt := 59) dX6_scanWordOrNumber_37 (by decide) (by omega) (by omega) (fun c37 => ?_) (fun c37 => ?_)
    · skip
      refine q_aload_n dX6_scanWordOrNumber_59 rfl rfl rfl ?_
      refine q_iconst (v := nI 1) dX6_scanWordOrNumber_60 rfl ?_
      refine q_iconst (v := nI 0) dX6_scanWordOrNumber_61 rfl ?_
      refine q_iload_n dX6_scanWordOrNumber_62 rfl rfl ?_
      refine q_callV (As := [.int (nI 1), .int (nI 0), .int (nI p)]) (rest := []) dX6_scanWordOrNumber_63 vX6_42 (ty_c hS (by decide) rfl) ⟨by decide, rfl⟩ (z6_add hS hn h) rfl rfl (Nat.le_of_ble_eq_true rfl) (by omega) (by omega) (by omega) (k_s ?_)
      refine q_goto (tgt := 117) dX6_scanWordOrNumber_66 (by decide) ?_
      refine q_iload dX6_scanWordOrNumber_117 rfl ?_
      refine q_ireturn dX6_scanWordOrNumber_119 rfl rfl (by omega) (by omega) ?_
      refine ⟨?_, rfl⟩
      split <;> first | rfl | (split <;> first | rfl | (exfalso; omega) | (split <;> first | rfl | (exfalso; omega))) | (exfalso; split at * <;> omega) | (exfalso; omega)
    · skip
      refine q_iload dX6_scanWordOrNumber_40 rfl ?_
      refine q_iload_n dX6_scanWordOrNumber_42 rfl rfl ?_
      refine q_isubN dX6_scanWordOrNumber_43 (by omega) ?_
      refine q_iload dX6_scanWordOrNumber_44 rfl ?_
      refine q_if_eqN (tgt := 54) dX6_scanWordOrNumber_46 (by decide) (by omega) (fun _ => ?_) (fun h => absurd h (by decide))
      refine q_bipush (v := nI 8) dX6_scanWordOrNumber_54 rfl ?_
      refine q_icmp_leN (tgt := 69) dX6_scanWordOrNumber_56 (by decide) (by omega) (by omega) (fun c56 => ?_) (fun c56 => ?_)
      · skip
        refine q_iload dX6_scanWordOrNumber_69 rfl ?_
        refine q_if_eqN (tgt := 91) dX6_scanWordOrNumber_71 (by decide) (by omega) (fun _ => ?_) (fun h => absurd h (by decide))
        refine q_iload_n dX6_scanWordOrNumber_91 rfl rfl ?_
        refine q_iload dX6_scanWordOrNumber_92 rfl ?_
        refine q_icmp_neN (tgt := 108) dX6_scanWordOrNumber_94 (by decide) (by omega) (by omega) (fun c94 => ?_) (fun c94 => ?_)
        · skip
          refine q_aload_n dX6_scanWordOrNumber_108 rfl rfl rfl ?_
          refine q_aload_n dX6_scanWordOrNumber_109 rfl rfl rfl ?_
          refine q_iload_n dX6_scanWordOrNumber_110 rfl rfl ?_
          refine q_iload_n dX6_scanWordOrNumber_111 rfl rfl ?_
          refine q_iload dX6_scanWordOrNumber_112 rfl ?_
          refine q_callV (As := [.ref 2, .int (nI p), .int (nI (e1 T L p)), .int (nI (e3 T L p))]) (rest := []) dX6_scanWordOrNumber_114 vX6_75 (ty_c hS (by decide) rfl) ⟨by decide, rfl⟩ (z6_addNumbered hS hT hn h (by omega) (by omega) (by omega) (fun j q1 q2 => gd j q1 (by omega)) (by omega)) rfl rfl (Nat.le_of_ble_eq_true rfl) (by omega) (by omega) (by omega) (k_s ?_)
          refine q_iload dX6_scanWordOrNumber_117 rfl ?_
          refine q_ireturn dX6_scanWordOrNumber_119 rfl rfl (by omega) (by omega) ?_
          refine ⟨?_, rfl⟩
          split <;> first | rfl | (split <;> first | rfl | (exfalso; omega) | (split <;> first | rfl | (exfalso; omega))) | (exfalso; split at * <;> omega) | (exfalso; omega)
        · skip
          refine q_aload_n dX6_scanWordOrNumber_97 rfl rfl rfl ?_
          refine q_aload_n dX6_scanWordOrNumber_98 rfl rfl rfl ?_
          refine q_iload_n dX6_scanWordOrNumber_99 rfl rfl ?_
          refine q_iload dX6_scanWordOrNumber_100 rfl ?_
          refine q_callV (As := [.ref 2, .int (nI p), .int (nI (e3 T L p))]) (rest := []) dX6_scanWordOrNumber_102 vX6_71 (ty_c hS (by decide) rfl) ⟨by decide, rfl⟩ (z6_addLetters hS hT hn h (by omega) (by omega)) rfl rfl (Nat.le_of_ble_eq_true rfl) (by omega) (by omega) (by omega) (k_s ?_)
          refine q_goto (tgt := 117) dX6_scanWordOrNumber_105 (by decide) ?_
          refine q_iload dX6_scanWordOrNumber_117 rfl ?_
          refine q_ireturn dX6_scanWordOrNumber_119 rfl rfl (by omega) (by omega) ?_
          refine ⟨?_, rfl⟩
          split <;> first | rfl | (split <;> first | rfl | (exfalso; omega) | (split <;> first | rfl | (exfalso; omega))) | (exfalso; split at * <;> omega) | (exfalso; omega)
      · skip
        refine q_aload_n dX6_scanWordOrNumber_59 rfl rfl rfl ?_
        refine q_iconst (v := nI 1) dX6_scanWordOrNumber_60 rfl ?_
        refine q_iconst (v := nI 0) dX6_scanWordOrNumber_61 rfl ?_
        refine q_iload_n dX6_scanWordOrNumber_62 rfl rfl ?_
        refine q_callV (As := [.int (nI 1), .int (nI 0), .int (nI p)]) (rest := []) dX6_scanWordOrNumber_63 vX6_42 (ty_c hS (by decide) rfl) ⟨by decide, rfl⟩ (z6_add hS hn h) rfl rfl (Nat.le_of_ble_eq_true rfl) (by omega) (by omega) (by omega) (k_s ?_)
        refine q_goto (tgt := 117) dX6_scanWordOrNumber_66 (by decide) ?_
        refine q_iload dX6_scanWordOrNumber_117 rfl ?_
        refine q_ireturn dX6_scanWordOrNumber_119 rfl rfl (by omega) (by omega) ?_
        refine ⟨?_, rfl⟩
        split <;> first | rfl | (split <;> first | rfl | (exfalso; omega) | (split <;> first | rfl | (exfalso; omega))) | (exfalso; split at * <;> omega) | (exfalso; omega)
  · skip
    refine q_iconst (v := nI 1) dX6_scanWordOrNumber_26 rfl ?_
    refine q_goto (tgt := 31) dX6_scanWordOrNumber_27 (by decide) ?_
    refine q_istore dX6_scanWordOrNumber_31 (by decide) (ls' := [(6, .int (nI 1)), (5, .int (nI (e3 T L p))), (4, .int (nI (e2 T L p))), (3, .int (nI (e1 T L p))), (0, .ref 6), (1, .ref 2), (2, .int (nI p))]) rfl ?_
    refine q_iload dX6_scanWordOrNumber_33 rfl ?_
    refine q_iload dX6_scanWordOrNumber_35 rfl ?_
    refine q_icmp_neN (tgt := 59) dX6_scanWordOrNumber_37 (by decide) (by omega) (by omega) (fun c37 => ?_) (fun c37 => ?_)
    · skip
      refine q_aload_n dX6_scanWordOrNumber_59 rfl rfl rfl ?_
      refine q_iconst (v := nI 1) dX6_scanWordOrNumber_60 rfl ?_
      refine q_iconst (v := nI 0) dX6_scanWordOrNumber_61 rfl ?_
      refine q_iload_n dX6_scanWordOrNumber_62 rfl rfl ?_
      refine q_callV (As := [.int (nI 1), .int (nI 0), .int (nI p)]) (rest := []) dX6_scanWordOrNumber_63 vX6_42 (ty_c hS (by decide) rfl) ⟨by decide, rfl⟩ (z6_add hS hn h) rfl rfl (Nat.le_of_ble_eq_true rfl) (by omega) (by omega) (by omega) (k_s ?_)
      refine q_goto (tgt := 117) dX6_scanWordOrNumber_66 (by decide) ?_
      refine q_iload dX6_scanWordOrNumber_117 rfl ?_
      refine q_ireturn dX6_scanWordOrNumber_119 rfl rfl (by omega) (by omega) ?_
      refine ⟨?_, rfl⟩
      split <;> first | rfl | (split <;> first | rfl | (exfalso; omega) | (split <;> first | rfl | (exfalso; omega))) | (exfalso; split at * <;> omega) | (exfalso; omega)
    · skip
      refine q_iload dX6_scanWordOrNumber_40 rfl ?_
      refine q_iload_n dX6_scanWordOrNumber_42 rfl rfl ?_
      refine q_isubN dX6_scanWordOrNumber_43 (by omega) ?_
      refine q_iload dX6_scanWordOrNumber_44 rfl ?_
      refine q_if_eqN (tgt := 54) dX6_scanWordOrNumber_46 (by decide) (by omega) (fun h => absurd h (by decide)) (fun _ => ?_)
      refine q_bipush (v := nI 9) dX6_scanWordOrNumber_49 rfl ?_
      refine q_goto (tgt := 56) dX6_scanWordOrNumber_51 (by decide) ?_
      refine q_icmp_leN (tgt := 69) dX6_scanWordOrNumber_56 (by decide) (by omega) (by omega) (fun c56 => ?_) (fun c56 => ?_)
      · skip
        refine q_iload dX6_scanWordOrNumber_69 rfl ?_
        refine q_if_eqN (tgt := 91) dX6_scanWordOrNumber_71 (by decide) (by omega) (fun h => absurd h (by decide)) (fun _ => ?_)
        refine q_aload_n dX6_scanWordOrNumber_74 rfl rfl rfl ?_
        refine q_bipush (v := nI 6) dX6_scanWordOrNumber_75 rfl ?_
        refine q_aload_n dX6_scanWordOrNumber_77 rfl rfl rfl ?_
        refine q_iload_n dX6_scanWordOrNumber_78 rfl rfl ?_
        refine q_iload dX6_scanWordOrNumber_79 rfl ?_
        refine q_callS (As := [.ref 2, .int (nI p), .int (nI (e3 T L p))]) (rest := [.int (nI 6), .ref 6]) dX6_scanWordOrNumber_81 vX6_67 (z6_numberOf hS hT (by omega) (by omega) (fun j q1 q2 => gd j (by omega) (by omega)) (by omega)) rfl rfl (Nat.le_of_ble_eq_true rfl) (by omega) (by omega) (by omega) (k_p ?_)
        refine q_iload_n dX6_scanWordOrNumber_84 rfl rfl ?_
        refine q_callV (As := [.int (nI 6), .int (nI (num T p (e3 T L p))), .int (nI p)]) (rest := []) dX6_scanWordOrNumber_85 vX6_42 (ty_c hS (by decide) rfl) ⟨by decide, rfl⟩ (z6_add hS hn h) rfl rfl (Nat.le_of_ble_eq_true rfl) (by omega) (by omega) (by omega) (k_s ?_)
        refine q_goto (tgt := 117) dX6_scanWordOrNumber_88 (by decide) ?_
        refine q_iload dX6_scanWordOrNumber_117 rfl ?_
        refine q_ireturn dX6_scanWordOrNumber_119 rfl rfl (by omega) (by omega) ?_
        refine ⟨?_, rfl⟩
        split <;> first | rfl | (split <;> first | rfl | (exfalso; omega) | (split <;> first | rfl | (exfalso; omega))) | (exfalso; split at * <;> omega) | (exfalso; omega)
      · skip
        refine q_aload_n dX6_scanWordOrNumber_59 rfl rfl rfl ?_
        refine q_iconst (v := nI 1) dX6_scanWordOrNumber_60 rfl ?_
        refine q_iconst (v := nI 0) dX6_scanWordOrNumber_61 rfl ?_
        refine q_iload_n dX6_scanWordOrNumber_62 rfl rfl ?_
        refine q_callV (As := [.int (nI 1), .int (nI 0), .int (nI p)]) (rest := []) dX6_scanWordOrNumber_63 vX6_42 (ty_c hS (by decide) rfl) ⟨by decide, rfl⟩ (z6_add hS hn h) rfl rfl (Nat.le_of_ble_eq_true rfl) (by omega) (by omega) (by omega) (k_s ?_)
        refine q_goto (tgt := 117) dX6_scanWordOrNumber_66 (by decide) ?_
        refine q_iload dX6_scanWordOrNumber_117 rfl ?_
        refine q_ireturn dX6_scanWordOrNumber_119 rfl rfl (by omega) (by omega) ?_
        refine ⟨?_, rfl⟩
        split <;> first | rfl | (split <;> first | rfl | (exfalso; omega) | (split <;> first | rfl | (exfalso; omega))) | (exfalso; split at * <;> omega) | (exfalso; omega)
theorem z6_scanToken {g : GG} {σ : HS} (hS : SK σ) {L : Nat} {T : Nat → Nat} (hT : CTX σ L T) {n p : Nat} (hn : sI σ 6 3 = nI n) (h : n < 3001) (hp : p < L) : CT g mX6_scanToken 7 0 0 [.ref 6, .ref 2, .int (nI p)] σ (PQ (addT σ n (lxK T L p).1 (lxK T L p).2 p) (.int (nI (lxE T L p)))) := by
  have h3 := hT.2.1
  have hb := (hT.2.2 p hp).2
  refine CT.of (by decide) (Nat.le_of_ble_eq_true rfl) ?_
  refine q_aload_n dX6_scanToken_0 rfl rfl rfl ?_
  refine q_iload_n dX6_scanToken_1 rfl rfl ?_
  refine q_callV (As := [.int (nI p)]) (rest := []) dX6_scanToken_2 vX6_30 (ty_c hS (by decide) rfl) ⟨by decide, rfl⟩ (z5_byteAt hS hT hp) rfl rfl (Nat.le_of_ble_eq_true rfl) (by omega) (by omega) (by omega) (k_p ?_)
  refine q_istore_n dX6_scanToken_5 rfl (by decide) (ls' := [(3, .int (nI (T p))), (0, .ref 6), (1, .ref 2), (2, .int (nI p))]) rfl ?_
  refine q_iload_n dX6_scanToken_6 rfl rfl ?_
  refine q_callS (As := [.int (nI (T p))]) (rest := []) dX6_scanToken_7 vX6_46 (z6_isLetter (by omega)) rfl rfl (Nat.le_of_ble_eq_true rfl) (by omega) (by omega) (by omega) (k_p ?_)
  refine q_if_neB (tgt := 20) dX6_scanToken_10 (by decide) (fun c10 => ?_) (fun c10 => ?_)
  · skip
    refine q_aload_n dX6_scanToken_20 rfl rfl rfl ?_
    refine q_aload_n dX6_scanToken_21 rfl rfl rfl ?_
    refine q_iload_n dX6_scanToken_22 rfl rfl ?_
    refine q_callV (As := [.ref 2, .int (nI p)]) (rest := []) dX6_scanToken_23 vX6_52 (ty_c hS (by decide) rfl) ⟨by decide, rfl⟩ (z6_word hS hT hn h hp (by first | exact isLD_1 c10 | exact isLD_2 c17)) rfl rfl (Nat.le_of_ble_eq_true rfl) (by omega) (by omega) (by omega) (k_p ?_)
    refine q_ireturn dX6_scanToken_26 rfl rfl (by omega) (by omega) ?_
    exact ⟨rfl, rfl⟩
  · skip
    refine q_iload_n dX6_scanToken_13 rfl rfl ?_
    refine q_callS (As := [.int (nI (T p))]) (rest := []) dX6_scanToken_14 vX6_49 (z6_isDigit (by omega)) rfl rfl (Nat.le_of_ble_eq_true rfl) (by omega) (by omega) (by omega) (k_p ?_)
    refine q_if_eqB (tgt := 27) dX6_scanToken_17 (by decide) (fun c17 => ?_) (fun c17 => ?_)
    · skip
      refine q_aload_n dX6_scanToken_27 rfl rfl rfl ?_
      refine q_iload_n dX6_scanToken_28 rfl rfl ?_
      refine q_callS (As := [.int (nI (T p))]) (rest := [.ref 6]) dX6_scanToken_29 vX6_55 (z6_isSign (by omega)) rfl rfl (Nat.le_of_ble_eq_true rfl) (by omega) (by omega) (by omega) (k_p ?_)
      refine q_if_eqB (tgt := 40) dX6_scanToken_32 (by decide) (fun c32 => ?_) (fun c32 => ?_)
      · skip
        refine q_iconst (v := nI 1) dX6_scanToken_40 rfl ?_
        refine q_iload_n dX6_scanToken_41 rfl rfl ?_
        refine q_iload_n dX6_scanToken_42 rfl rfl ?_
        refine q_callV (As := [.int (nI 1), .int (nI (T p)), .int (nI p)]) (rest := []) dX6_scanToken_43 vX6_42 (ty_c hS (by decide) rfl) ⟨by decide, rfl⟩ (z6_add hS hn h) rfl rfl (Nat.le_of_ble_eq_true rfl) (by omega) (by omega) (by omega) (k_s ?_)
        refine q_iload_n dX6_scanToken_46 rfl rfl ?_
        refine q_iconst (v := nI 1) dX6_scanToken_47 rfl ?_
        refine q_iaddN dX6_scanToken_48 ?_
        refine q_ireturn dX6_scanToken_49 rfl rfl (by omega) (by omega) ?_
        have gn : isLD (T p) = false := isLD_0 c10 c17
        refine ⟨?_, ?_⟩
        · unfold lxK
          rw [if_neg (by rw [gn]; decide), c32]
          rfl
        · unfold lxE
          rw [if_neg (by rw [gn]; decide)]
      · skip
        refine q_bipush (v := nI 7) dX6_scanToken_35 rfl ?_
        refine q_goto (tgt := 41) dX6_scanToken_37 (by decide) ?_
        refine q_iload_n dX6_scanToken_41 rfl rfl ?_
        refine q_iload_n dX6_scanToken_42 rfl rfl ?_
        refine q_callV (As := [.int (nI 7), .int (nI (T p)), .int (nI p)]) (rest := []) dX6_scanToken_43 vX6_42 (ty_c hS (by decide) rfl) ⟨by decide, rfl⟩ (z6_add hS hn h) rfl rfl (Nat.le_of_ble_eq_true rfl) (by omega) (by omega) (by omega) (k_s ?_)
        refine q_iload_n dX6_scanToken_46 rfl rfl ?_
        refine q_iconst (v := nI 1) dX6_scanToken_47 rfl ?_
        refine q_iaddN dX6_scanToken_48 ?_
        refine q_ireturn dX6_scanToken_49 rfl rfl (by omega) (by omega) ?_
        have gn : isLD (T p) = false := isLD_0 c10 c17
        refine ⟨?_, ?_⟩
        · unfold lxK
          rw [if_neg (by rw [gn]; decide), c32]
          rfl
        · unfold lxE
          rw [if_neg (by rw [gn]; decide)]
    · skip
      refine q_aload_n dX6_scanToken_20 rfl rfl rfl ?_
      refine q_aload_n dX6_scanToken_21 rfl rfl rfl ?_
      refine q_iload_n dX6_scanToken_22 rfl rfl ?_
      refine q_callV (As := [.ref 2, .int (nI p)]) (rest := []) dX6_scanToken_23 vX6_52 (ty_c hS (by decide) rfl) ⟨by decide, rfl⟩ (z6_word hS hT hn h hp (by first | exact isLD_1 c10 | exact isLD_2 c17)) rfl rfl (Nat.le_of_ble_eq_true rfl) (by omega) (by omega) (by omega) (k_p ?_)
      refine q_ireturn dX6_scanToken_26 rfl rfl (by omega) (by omega) ?_
      exact ⟨rfl, rfl⟩
/-- the rows behind k words -/
def scS (σ : HS) (T : Nat → Nat) (L : Nat) : Nat → HS
  | 0 => uI σ 6 3 (nI 0)
  | k + 1 => addT (scS σ T L k) k (tk T L k) (tv T L k) (ts T L k)
theorem fr_addT {σ : HS} {n k v p : Nat} : Fr [6, 7, 8, 9] σ (addT σ n k v p) := ((((Fr.rf (S := [6, 7, 8, 9])).uI (by decide)).uI (by decide)).uI (by decide)).uI (by decide)
theorem addT_n {σ : HS} {n k v p : Nat} : sI (addT σ n k v p) 6 3 = nI (n + 1) := uI_self
theorem addT_k {σ : HS} {n k v p q : Nat} : sI (addT σ n k v p) 7 q = if q = n then nI k else sI σ 7 q := by
  unfold addT
  rw [rd_off (by decide), rd_off (by decide), rd_off (by decide)]
  by_cases h : q = n
  · rw [if_pos h, h, uI_self]
  · rw [if_neg h, rd_ne h]
theorem addT_v {σ : HS} {n k v p q : Nat} : sI (addT σ n k v p) 8 q = if q = n then nI v else sI σ 8 q := by
  unfold addT
  rw [rd_off (by decide), rd_off (by decide)]
  by_cases h : q = n
  · rw [if_pos h, h, uI_self]
  · rw [if_neg h, rd_ne h, rd_off (by decide)]
theorem addT_p {σ : HS} {n k v p q : Nat} : sI (addT σ n k v p) 9 q = if q = n then nI p else sI σ 9 q := by
  unfold addT
  rw [rd_off (by decide)]
  by_cases h : q = n
  · rw [if_pos h, h, uI_self]
  · rw [if_neg h, rd_ne h, rd_off (by decide), rd_off (by decide)]
theorem fr_scS (σ : HS) (T : Nat → Nat) (L : Nat) : ∀ k, Fr [6, 7, 8, 9] σ (scS σ T L k)
  | 0 => (Fr.rf (S := [6, 7, 8, 9])).uI (by decide)
  | k + 1 => (fr_scS σ T L k).tr fr_addT (fun _ h => h)
theorem scS_n (σ : HS) (T : Nat → Nat) (L : Nat) : ∀ k, sI (scS σ T L k) 6 3 = nI k
  | 0 => uI_self
  | _ + 1 => addT_n
/-- the first n words stand in the rows -/
def TKS (σ : HS) (T : Nat → Nat) (L n : Nat) : Prop := ∀ q, q < n → sI σ 7 q = nI (tk T L q) ∧ sI σ 8 q = nI (tv T L q) ∧ sI σ 9 q = nI (ts T L q)
theorem scS_t (σ : HS) (T : Nat → Nat) (L : Nat) : ∀ k, TKS (scS σ T L k) T L k
  | 0 => fun q h => absurd h (by omega)
  | k + 1 => fun q h => by
    show sI (addT _ _ _ _ _) 7 q = _ ∧ sI (addT _ _ _ _ _) 8 q = _ ∧ sI (addT _ _ _ _ _) 9 q = _
    rw [addT_k, addT_v, addT_p]
    by_cases e : q = k
    · subst e; simp
    · rw [if_neg e, if_neg e, if_neg e]
      exact scS_t σ T L k q (by omega)
theorem CTX.fr {σ σ' : HS} {S : List Nat} {L : Nat} {T : Nat → Nat} (h : Fr S σ σ') (h2 : 2 ∉ S) (h3 : 3 ∉ S) (k : CTX σ L T) : CTX σ' L T := ⟨by rw [h.2.2.2 2 h2]; exact k.1, k.2.1, fun i hi => by rw [h.2.2.2 3 h3]; exact k.2.2 i hi⟩
/-- at place i with k words behind: e is where the last one ends; what lies between is blank -/
def ScI (T : Nat → Nat) (L k e i : Nat) : Prop := i ≤ L ∧ e ≤ L ∧ i ≤ ts T L k ∧ ts T L k = run isBl T L e ∧ k ≤ i ∧ ∀ q, q < k → ts T L q < L
theorem ScI_0 (T : Nat → Nat) (L : Nat) : ScI T L 0 0 0 := ⟨by omega, by omega, by omega, rfl, by omega, fun q h => absurd h (by omega)⟩
theorem ScI_skip {T : Nat → Nat} {L k e i : Nat} (h : ScI T L k e i) (hi : i < L) (h2 : i < e ∨ isBl (T i) = true) : ScI T L k e (i + 1) := by
  obtain ⟨h1, h3, h4, h5, h6, h7⟩ := h
  refine ⟨by omega, h3, ?_, h5, by omega, h7⟩
  have hge := run_ge isBl T L e
  rcases h2 with h2 | h2
  · omega
  · by_cases e0 : i = ts T L k
    · have : isBl (T (run isBl T L e)) = false := run_not (by omega)
      rw [← h5, ← e0, h2] at this
      cases this
    · omega
theorem ScI_here {T : Nat → Nat} {L k e i : Nat} (h : ScI T L k e i) (hi : i < L) (h2 : e ≤ i) (h3 : isBl (T i) = false) : ts T L k = i := by
  obtain ⟨h1, h4, h5, h6, h7, h8⟩ := h
  by_cases e0 : i = ts T L k
  · exact e0.symm
  · have := run_all (p := isBl) (T := T) (L := L) h2 (by omega : i < run isBl T L e)
    rw [h3] at this
    cases this
theorem ScI_take {T : Nat → Nat} {L k e i : Nat} (h : ScI T L k e i) (hi : i < L) (h2 : ts T L k = i) : ScI T L (k + 1) (lxE T L i) (i + 1) := by
  obtain ⟨h1, h4, h5, h6, h7, h8⟩ := h
  have hg := lxE_gt (T := T) hi
  have hl := lxE_le hi (T := T)
  have ht : ts T L (k + 1) = run isBl T L (lxE T L i) := by rw [ts, if_pos (by omega), h2]
  refine ⟨by omega, hl, ?_, ht, by omega, fun q hq => ?_⟩
  · rw [ht]
    have := run_ge isBl T L (lxE T L i)
    omega
  · by_cases e0 : q = k
    · rw [e0, h2]; exact hi
    · exact h8 q (by omega)
/-- scan's end: n words, then the end -/
def ScQ (σ : HS) (T : Nat → Nat) (L : Nat) : HS → Prop := fun σ' => ∃ n, n ≤ L ∧ ts T L n = L ∧ (∀ q, q < n → ts T L q < L) ∧ Fr [6, 7, 8, 9] σ σ' ∧ sI σ' 6 3 = nI (n + 1) ∧ TKS σ' T L (n + 1)
theorem y6_scan {g : GG} {σ : HS} (hS : SK σ) {L : Nat} {T : Nat → Nat} (hT : CTX σ L T) : ∀ (m i k e : Nat), i + m = L → ScI T L k e i → WA g mX6_scan 8 0 0 (ZM g (fun r σ' => r = none ∧ ScQ σ T L σ') 0 0) 0 0 9 [(0, .ref 6), (1, .ref 2), (2, .int (nI e)), (3, .int (nI i))] [] (scS σ T L k) := by
  have h3 := hT.2.1
  intro m
  induction m with
  | zero =>
    intro i k e hm hI
    have hS' := SK.fr (fr_scS σ T L k) hS
    have hT' := CTX.fr (fr_scS σ T L k) (by decide) (by decide) hT
    have hL := hT'.1
    have hk : k ≤ L := by have := hI.2.2.2.2.1; omega
    have hts : ts T L k = L := by have := hI.2.2.1; have := ts_le T L k; omega
    refine q_iload_n dX6_scan_9 rfl rfl ?_
    refine q_aload_n dX6_scan_10 rfl rfl rfl ?_
    refine q_geti (x := nI L) dX6_scan_11 fX6_25 rfl (ty_c hS' (by decide) rfl) hL ?_
    refine q_icmp_geN (tgt := 46) dX6_scan_14 (by decide) (by omega) (by omega) (fun c14 => ?_) (fun c14 => ?_)
    · skip
      refine q_aload_n dX6_scan_46 rfl rfl rfl ?_
      refine q_iconst (v := nI 0) dX6_scan_47 rfl ?_
      refine q_iconst (v := nI 0) dX6_scan_48 rfl ?_
      refine q_aload_n dX6_scan_49 rfl rfl rfl ?_
      refine q_geti (x := nI L) dX6_scan_50 fX6_25 rfl (ty_c hS' (by decide) rfl) hL ?_
      refine q_callV (As := [.int (nI 0), .int (nI 0), .int (nI L)]) (rest := []) dX6_scan_53 vX6_42 (ty_c hS' (by decide) rfl) ⟨by decide, rfl⟩ (z6_add hS' (scS_n σ T L k) (by omega)) rfl rfl (Nat.le_of_ble_eq_true rfl) (by omega) (by omega) (by omega) (k_s ?_)
      refine q_return dX6_scan_56 rfl (by omega) (by omega) ?_
      refine ⟨rfl, k, hk, hts, hI.2.2.2.2.2, (fr_scS σ T L k).tr fr_addT (fun _ h => h), addT_n, fun q hq => ?_⟩
      rw [addT_k, addT_v, addT_p]
      by_cases e0 : q = k
      · subst e0
        rw [if_pos rfl, if_pos rfl, if_pos rfl]
        unfold tk tv
        rw [hts, if_neg (Nat.lt_irrefl _), if_neg (Nat.lt_irrefl _)]
        exact ⟨rfl, rfl, rfl⟩
      · rw [if_neg e0, if_neg e0, if_neg e0]
        exact scS_t σ T L k q (by omega)
    · exact absurd c14 (by omega)
  | succ m ih =>
    intro i k e hm hI
    have hS' := SK.fr (fr_scS σ T L k) hS
    have hT' := CTX.fr (fr_scS σ T L k) (by decide) (by decide) hT
    have hL := hT'.1
    have he := hI.2.1
    have hk : k ≤ i := hI.2.2.2.2.1
    have hb := (hT'.2.2 i (by omega)).2
    refine q_iload_n dX6_scan_9 rfl rfl ?_
    refine q_aload_n dX6_scan_10 rfl rfl rfl ?_
    refine q_geti (x := nI L) dX6_scan_11 fX6_25 rfl (ty_c hS' (by decide) rfl) hL ?_
    refine q_icmp_geN (tgt := 46) dX6_scan_14 (by decide) (by omega) (by omega) (fun c14 => ?_) (fun c14 => ?_)
    · exact absurd c14 (by omega)
    · skip
      refine q_iload_n dX6_scan_17 rfl rfl ?_
      refine q_iload_n dX6_scan_18 rfl rfl ?_
      refine q_icmp_ltN (tgt := 40) dX6_scan_19 (by decide) (by omega) (by omega) (fun c19 => ?_) (fun c19 => ?_)
      · skip
        refine q_iincN (c := 1) dX6_scan_40 rfl (by decide) rfl (ls' := [(3, .int (nI (i + 1))), (0, .ref 6), (1, .ref 2), (2, .int (nI e))]) rfl ?_
        refine q_goto (tgt := 9) dX6_scan_43 (by decide) ?_
        refine q_pk [1, 2, 3, 0] (ls' := [(0, .ref 6), (1, .ref 2), (2, .int (nI e)), (3, .int (nI (i + 1)))]) rfl ?_
        first | exact ih (i + 1) k e (by omega) (ScI_skip hI (by omega) (Or.inl c19)) | exact ih (i + 1) k e (by omega) (ScI_skip hI (by omega) (Or.inr c30)) | (refine q_eqs (σ' := scS σ T L (k + 1)) ?_ (ih (i + 1) (k + 1) (lxE T L i) (by omega) (ScI_take hI (by omega) ht)); show _ = addT _ _ _ _ _; unfold tk tv; rw [ht, if_pos (by omega), if_pos (by omega)])
      · skip
        refine q_aload_n dX6_scan_22 rfl rfl rfl ?_
        refine q_iload_n dX6_scan_23 rfl rfl ?_
        refine q_callV (As := [.int (nI i)]) (rest := []) dX6_scan_24 vX6_30 (ty_c hS' (by decide) rfl) ⟨by decide, rfl⟩ (z5_byteAt hS' hT' (by omega)) rfl rfl (Nat.le_of_ble_eq_true rfl) (by omega) (by omega) (by omega) (k_p ?_)
        refine q_callS (As := [.int (nI (T i))]) (rest := []) dX6_scan_27 vX6_34 (z6_isBlank (by omega)) rfl rfl (Nat.le_of_ble_eq_true rfl) (by omega) (by omega) (by omega) (k_p ?_)
        refine q_if_neB (tgt := 40) dX6_scan_30 (by decide) (fun c30 => ?_) (fun c30 => ?_)
        · skip
          refine q_iincN (c := 1) dX6_scan_40 rfl (by decide) rfl (ls' := [(3, .int (nI (i + 1))), (0, .ref 6), (1, .ref 2), (2, .int (nI e))]) rfl ?_
          refine q_goto (tgt := 9) dX6_scan_43 (by decide) ?_
          refine q_pk [1, 2, 3, 0] (ls' := [(0, .ref 6), (1, .ref 2), (2, .int (nI e)), (3, .int (nI (i + 1)))]) rfl ?_
          first | exact ih (i + 1) k e (by omega) (ScI_skip hI (by omega) (Or.inl c19)) | exact ih (i + 1) k e (by omega) (ScI_skip hI (by omega) (Or.inr c30)) | (refine q_eqs (σ' := scS σ T L (k + 1)) ?_ (ih (i + 1) (k + 1) (lxE T L i) (by omega) (ScI_take hI (by omega) ht)); show _ = addT _ _ _ _ _; unfold tk tv; rw [ht, if_pos (by omega), if_pos (by omega)])
        · skip
          have ht := ScI_here hI (by omega) c19 c30
          refine q_aload_n dX6_scan_33 rfl rfl rfl ?_
          refine q_aload_n dX6_scan_34 rfl rfl rfl ?_
          refine q_iload_n dX6_scan_35 rfl rfl ?_
          refine q_callV (As := [.ref 2, .int (nI i)]) (rest := []) dX6_scan_36 vX6_38 (ty_c hS' (by decide) rfl) ⟨by decide, rfl⟩ (z6_scanToken hS' hT' (scS_n σ T L k) (by omega) (by omega)) rfl rfl (Nat.le_of_ble_eq_true rfl) (by omega) (by omega) (by omega) (k_p ?_)
          refine q_istore_n dX6_scan_39 rfl (by decide) (ls' := [(2, .int (nI (lxE T L i))), (0, .ref 6), (1, .ref 2), (3, .int (nI i))]) rfl ?_
          refine q_iincN (c := 1) dX6_scan_40 rfl (by decide) rfl (ls' := [(3, .int (nI (i + 1))), (2, .int (nI (lxE T L i))), (0, .ref 6), (1, .ref 2)]) rfl ?_
          refine q_goto (tgt := 9) dX6_scan_43 (by decide) ?_
          refine q_pk [2, 3, 1, 0] (ls' := [(0, .ref 6), (1, .ref 2), (2, .int (nI (lxE T L i))), (3, .int (nI (i + 1)))]) rfl ?_
          first | exact ih (i + 1) k e (by omega) (ScI_skip hI (by omega) (Or.inl c19)) | exact ih (i + 1) k e (by omega) (ScI_skip hI (by omega) (Or.inr c30)) | (refine q_eqs (σ' := scS σ T L (k + 1)) ?_ (ih (i + 1) (k + 1) (lxE T L i) (by omega) (ScI_take hI (by omega) ht)); show _ = addT _ _ _ _ _; unfold tk tv; rw [ht, if_pos (by omega), if_pos (by omega)])
theorem z6_scan {g : GG} {σ : HS} (hS : SK σ) {L : Nat} {T : Nat → Nat} (hT : CTX σ L T) : CT g mX6_scan 8 0 0 [.ref 6, .ref 2] σ (fun r σ' => r = none ∧ ScQ σ T L σ') := by
  refine CT.of (by decide) (Nat.le_of_ble_eq_true rfl) ?_
  refine q_aload_n dX6_scan_0 rfl rfl rfl ?_
  refine q_iconst (v := nI 0) dX6_scan_1 rfl ?_
  refine q_puti dX6_scan_2 fX6_21 rfl (Or.inl rfl) (ty_c hS (by decide) rfl) ?_
  refine q_iconst (v := nI 0) dX6_scan_5 rfl ?_
  refine q_istore_n dX6_scan_6 rfl (by decide) (ls' := [(2, .int (nI 0)), (0, .ref 6), (1, .ref 2)]) rfl ?_
  refine q_iconst (v := nI 0) dX6_scan_7 rfl ?_
  refine q_istore_n dX6_scan_8 rfl (by decide) (ls' := [(3, .int (nI 0)), (2, .int (nI 0)), (0, .ref 6), (1, .ref 2)]) rfl ?_
  refine q_pk [2, 3, 1, 0] (ls' := [(0, .ref 6), (1, .ref 2), (2, .int (nI 0)), (3, .int (nI 0))]) rfl ?_
  exact y6_scan hS hT L 0 0 0 (by omega) (ScI_0 T L)
