/-! The model's words: letters and digits behind them. -/
def pkL (T : Nat → Nat) (p : Nat) : Nat → Int64
  | 0 => (0 : Int64)
  | n + 1 => (pkL T p n <<< ((nI 8).toInt64 &&& 63)) ||| (nI (T (p + n))).toInt64
def nuL (T : Nat → Nat) (p : Nat) : Nat → Int64
  | 0 => (0 : Int64)
  | n + 1 => (10 : Int64) * nuL T p n + (nI (T (p + n))).toInt64 - (48 : Int64)
theorem nuL_ok {T : Nat → Nat} {p : Nat} (hT : ∀ i, T i < 256 ∨ True) : ∀ k, (∀ i, i < k → isDig (T (p + i)) = true) → nuL T p k = lN (numF T p k 0)
  | 0, _ => rfl
  | k + 1, h => by
    have h2 := h k (by omega)
    unfold isDig at h2
    simp only [Bool.and_eq_true, decide_eq_true_eq] at h2
    show (10 : Int64) * nuL T p k + (nI (T (p + k))).toInt64 - (48 : Int64) = _
    rw [nuL_ok hT k fun i hi => h i (by omega), nI_l (by omega), numF_s]
    show lN 10 * lN _ + lN _ - lN 48 = _
    rw [lN_mul, lN_add, lN_sub (by omega)]
    congr 1; omega
/-- what digits becomes: letters end at m, the word at e; x the digits' number -/
def dgD (T : Nat → Nat) (m e : Nat) (x : Int64) : Int32 := if m = e then -1 else if 1 < e - m ∧ T m = 48 then -2 else x.toInt32
section MWO
variable {g : GG} {σ : HS} {L : Nat} {T : Nat → Nat}
theorem y9_word3 (hS : SK σ) (hT : MTX σ L T) {k0 : Int32} {p m e i : Nat} (he : e ≤ L) (hm : m ≤ e) (h4 : sI σ 58 4 = nI e) {x : Int64} {good : Bool} {Q : Option Value → HS → Prop} (hQ : Q none (uI (uI σ 58 5 (dgD T m e x)) 58 2 (nI (if good = true then 1 else 4)))) : WA g mX9_word 1 0 0 (ZM g Q 0 0) 0 0 147 [(0, .ref 58), (1, .int k0), (2, .int (nI m)), (3, .long x), (5, .int (bi good)), (6, .int (nI i))] [] σ := by
  have hL := hT.2.1
  unfold dgD at hQ
  by_cases hme : m = e
  · rw [if_pos hme] at hQ
    refine q_aload_n dX9_word_147 rfl rfl rfl ?_
    refine q_iload_n dX9_word_148 rfl rfl ?_
    refine q_aload_n dX9_word_149 rfl rfl rfl ?_
    refine q_geti (x := nI e) dX9_word_150 fX9_23 rfl (ty_c hS (by decide) rfl) h4 ?_
    refine q_icmp_neN (tgt := 160) dX9_word_153 (by decide) (by omega) (by omega) (fun c153 => ?_) (fun c153 => ?_)
    · exact absurd hme c153
    · skip
      refine q_iconst (v := (-1 : Int32)) dX9_word_156 rfl ?_
      refine q_goto (tgt := 188) dX9_word_157 (by decide) ?_
      refine q_puti dX9_word_188 fX9_26 rfl (Or.inl rfl) (ty_c hS (by decide) rfl) ?_
      refine q_aload_n dX9_word_191 rfl rfl rfl ?_
      refine q_iload dX9_word_192 rfl ?_
      refine q_if_eqB (tgt := 201) dX9_word_194 (by decide) (fun c194 => ?_) (fun c194 => ?_)
      · skip
        refine q_iconst (v := nI 4) dX9_word_201 rfl ?_
        refine q_puti dX9_word_202 fX9_17 rfl (Or.inl rfl) (ty_c hS (by decide) rfl) ?_
        refine q_return dX9_word_205 rfl (by omega) (by omega) ?_
        first | (rw [c194] at hQ; exact hQ) | exact hQ
      · skip
        refine q_iconst (v := nI 1) dX9_word_197 rfl ?_
        refine q_goto (tgt := 202) dX9_word_198 (by decide) ?_
        refine q_puti dX9_word_202 fX9_17 rfl (Or.inl rfl) (ty_c hS (by decide) rfl) ?_
        refine q_return dX9_word_205 rfl (by omega) (by omega) ?_
        first | (rw [c194] at hQ; exact hQ) | exact hQ
  · rw [if_neg hme] at hQ
    obtain ⟨t1, t2⟩ := hT.2.2 m (by omega)
    by_cases hz : 1 < e - m ∧ T m = 48
    · rw [if_pos hz] at hQ
      refine q_aload_n dX9_word_147 rfl rfl rfl ?_
      refine q_iload_n dX9_word_148 rfl rfl ?_
      refine q_aload_n dX9_word_149 rfl rfl rfl ?_
      refine q_geti (x := nI e) dX9_word_150 fX9_23 rfl (ty_c hS (by decide) rfl) h4 ?_
      refine q_icmp_neN (tgt := 160) dX9_word_153 (by decide) (by omega) (by omega) (fun c153 => ?_) (fun c153 => ?_)
      · skip
        refine q_aload_n dX9_word_160 rfl rfl rfl ?_
        refine q_geti (x := nI e) dX9_word_161 fX9_23 rfl (ty_c hS (by decide) rfl) h4 ?_
        refine q_iload_n dX9_word_164 rfl rfl ?_
        refine q_isubN dX9_word_165 (by omega) ?_
        refine q_iconst (v := nI 1) dX9_word_166 rfl ?_
        refine q_icmp_leN (tgt := 186) dX9_word_167 (by decide) (by omega) (by omega) (fun c167 => ?_) (fun c167 => ?_)
        · exact absurd c167 (by omega)
        · skip
          refine q_aload_n dX9_word_170 rfl rfl rfl ?_
          refine q_getr (r := 59) dX9_word_171 fX9_7 rfl (ty_c hS (by decide) rfl) (hS.2 58 0 59 rfl) ?_
          refine q_iload_n dX9_word_174 rfl rfl ?_
          refine q_iald (x := nI (T m)) (j := m) dX9_word_175 (ty_c hS (by decide) rfl) (ix_n (by omega) (by omega)) t1 ?_
          refine q_bipush (v := nI 48) dX9_word_176 rfl ?_
          refine q_icmp_neN (tgt := 186) dX9_word_178 (by decide) (by omega) (by omega) (fun c178 => ?_) (fun c178 => ?_)
          · exact absurd hz.2 c178
          · skip
            refine q_bipush (v := (-2 : Int32)) dX9_word_181 rfl ?_
            refine q_goto (tgt := 188) dX9_word_183 (by decide) ?_
            refine q_puti dX9_word_188 fX9_26 rfl (Or.inl rfl) (ty_c hS (by decide) rfl) ?_
            refine q_aload_n dX9_word_191 rfl rfl rfl ?_
            refine q_iload dX9_word_192 rfl ?_
            refine q_if_eqB (tgt := 201) dX9_word_194 (by decide) (fun c194 => ?_) (fun c194 => ?_)
            · skip
              refine q_iconst (v := nI 4) dX9_word_201 rfl ?_
              refine q_puti dX9_word_202 fX9_17 rfl (Or.inl rfl) (ty_c hS (by decide) rfl) ?_
              refine q_return dX9_word_205 rfl (by omega) (by omega) ?_
              first | (rw [c194] at hQ; exact hQ) | exact hQ
            · skip
              refine q_iconst (v := nI 1) dX9_word_197 rfl ?_
              refine q_goto (tgt := 202) dX9_word_198 (by decide) ?_
              refine q_puti dX9_word_202 fX9_17 rfl (Or.inl rfl) (ty_c hS (by decide) rfl) ?_
              refine q_return dX9_word_205 rfl (by omega) (by omega) ?_
              first | (rw [c194] at hQ; exact hQ) | exact hQ
      · exact absurd c153 hme
    · rw [if_neg hz] at hQ
      refine q_aload_n dX9_word_147 rfl rfl rfl ?_
      refine q_iload_n dX9_word_148 rfl rfl ?_
      refine q_aload_n dX9_word_149 rfl rfl rfl ?_
      refine q_geti (x := nI e) dX9_word_150 fX9_23 rfl (ty_c hS (by decide) rfl) h4 ?_
      refine q_icmp_neN (tgt := 160) dX9_word_153 (by decide) (by omega) (by omega) (fun c153 => ?_) (fun c153 => ?_)
      · skip
        refine q_aload_n dX9_word_160 rfl rfl rfl ?_
        refine q_geti (x := nI e) dX9_word_161 fX9_23 rfl (ty_c hS (by decide) rfl) h4 ?_
        refine q_iload_n dX9_word_164 rfl rfl ?_
        refine q_isubN dX9_word_165 (by omega) ?_
        refine q_iconst (v := nI 1) dX9_word_166 rfl ?_
        refine q_icmp_leN (tgt := 186) dX9_word_167 (by decide) (by omega) (by omega) (fun c167 => ?_) (fun c167 => ?_)
        · skip
          refine q_lload_n dX9_word_186 rfl rfl ?_
          refine q_l2i (v := x.toInt32) dX9_word_187 rfl ?_
          refine q_puti dX9_word_188 fX9_26 rfl (Or.inl rfl) (ty_c hS (by decide) rfl) ?_
          refine q_aload_n dX9_word_191 rfl rfl rfl ?_
          refine q_iload dX9_word_192 rfl ?_
          refine q_if_eqB (tgt := 201) dX9_word_194 (by decide) (fun c194 => ?_) (fun c194 => ?_)
          · skip
            refine q_iconst (v := nI 4) dX9_word_201 rfl ?_
            refine q_puti dX9_word_202 fX9_17 rfl (Or.inl rfl) (ty_c hS (by decide) rfl) ?_
            refine q_return dX9_word_205 rfl (by omega) (by omega) ?_
            first | (rw [c194] at hQ; exact hQ) | exact hQ
          · skip
            refine q_iconst (v := nI 1) dX9_word_197 rfl ?_
            refine q_goto (tgt := 202) dX9_word_198 (by decide) ?_
            refine q_puti dX9_word_202 fX9_17 rfl (Or.inl rfl) (ty_c hS (by decide) rfl) ?_
            refine q_return dX9_word_205 rfl (by omega) (by omega) ?_
            first | (rw [c194] at hQ; exact hQ) | exact hQ
        · skip
          refine q_aload_n dX9_word_170 rfl rfl rfl ?_
          refine q_getr (r := 59) dX9_word_171 fX9_7 rfl (ty_c hS (by decide) rfl) (hS.2 58 0 59 rfl) ?_
          refine q_iload_n dX9_word_174 rfl rfl ?_
          refine q_iald (x := nI (T m)) (j := m) dX9_word_175 (ty_c hS (by decide) rfl) (ix_n (by omega) (by omega)) t1 ?_
          refine q_bipush (v := nI 48) dX9_word_176 rfl ?_
          refine q_icmp_neN (tgt := 186) dX9_word_178 (by decide) (by omega) (by omega) (fun c178 => ?_) (fun c178 => ?_)
          · skip
            refine q_lload_n dX9_word_186 rfl rfl ?_
            refine q_l2i (v := x.toInt32) dX9_word_187 rfl ?_
            refine q_puti dX9_word_188 fX9_26 rfl (Or.inl rfl) (ty_c hS (by decide) rfl) ?_
            refine q_aload_n dX9_word_191 rfl rfl rfl ?_
            refine q_iload dX9_word_192 rfl ?_
            refine q_if_eqB (tgt := 201) dX9_word_194 (by decide) (fun c194 => ?_) (fun c194 => ?_)
            · skip
              refine q_iconst (v := nI 4) dX9_word_201 rfl ?_
              refine q_puti dX9_word_202 fX9_17 rfl (Or.inl rfl) (ty_c hS (by decide) rfl) ?_
              refine q_return dX9_word_205 rfl (by omega) (by omega) ?_
              first | (rw [c194] at hQ; exact hQ) | exact hQ
            · skip
              refine q_iconst (v := nI 1) dX9_word_197 rfl ?_
              refine q_goto (tgt := 202) dX9_word_198 (by decide) ?_
              refine q_puti dX9_word_202 fX9_17 rfl (Or.inl rfl) (ty_c hS (by decide) rfl) ?_
              refine q_return dX9_word_205 rfl (by omega) (by omega) ?_
              first | (rw [c194] at hQ; exact hQ) | exact hQ
          · exact absurd ⟨by omega, c178⟩ hz
      · exact absurd c153 hme
/-- the digits of a word: from m on -/
def wdD (T : Nat → Nat) (m e : Nat) : Bool := (List.range (e - m)).all (fun i => isDig (T (m + i)))
theorem y9_word2 (hS : SK σ) (hT : MTX σ L T) {k0 : Int32} {m e : Nat} (he : e ≤ L) (h4 : sI σ 58 4 = nI e) {Q : Option Value → HS → Prop} {g0 : Bool} (hQ1 : g0 = true → wdD T m e = true → Q none (uI (uI σ 58 5 (dgD T m e (nuL T m (e - m)))) 58 2 (nI 1))) (hQ2 : (g0 = true → wdD T m e = false) → ∀ x : Int64, Q none (uI (uI σ 58 5 (dgD T m e x)) 58 2 (nI 4))) : ∀ (k j : Nat) (x : Int64) (good : Bool), m + j + k = e → ((good = true ∧ g0 = true ∧ (∀ i, i < j → isDig (T (m + i)) = true) ∧ x = nuL T m j) ∨ (good = false ∧ (g0 = true → wdD T m e = false))) → WA g mX9_word 1 0 0 (ZM g Q 0 0) 0 0 95 [(0, .ref 58), (1, .int k0), (2, .int (nI m)), (3, .long x), (5, .int (bi good)), (6, .int (nI (m + j)))] [] σ := by
  have hL := hT.2.1
  intro k
  induction k with
  | zero =>
    intro j x good hj hg
    refine q_iload dX9_word_95 rfl ?_
    refine q_aload_n dX9_word_97 rfl rfl rfl ?_
    refine q_geti (x := nI e) dX9_word_98 fX9_23 rfl (ty_c hS (by decide) rfl) h4 ?_
    refine q_icmp_geN (tgt := 147) dX9_word_101 (by decide) (by omega) (by omega) (fun c101 => ?_) (fun c101 => ?_)
    · skip
      refine y9_word3 hS hT (p := 0) he (by omega) h4 ?_
      rcases hg with ⟨a1, a2, a3, a4⟩ | ⟨a1, a2⟩
      · subst a1
        have := hQ1 a2 (List.all_eq_true.mpr fun i hi => a3 i (by have := List.mem_range.mp hi; omega))
        rw [show e - m = j by omega, ← a4] at this
        exact this
      · subst a1
        exact hQ2 a2 x
    · exact absurd c101 (by omega)
  | succ k ih =>
    intro j x good hj hg
    obtain ⟨t1, t2⟩ := hT.2.2 (m + j) (by omega)
    rcases hg with ⟨a1, a2, a3, a4⟩ | ⟨a1, a2⟩
    · subst a1
      refine q_iload dX9_word_95 rfl ?_
      refine q_aload_n dX9_word_97 rfl rfl rfl ?_
      refine q_geti (x := nI e) dX9_word_98 fX9_23 rfl (ty_c hS (by decide) rfl) h4 ?_
      refine q_icmp_geN (tgt := 147) dX9_word_101 (by decide) (by omega) (by omega) (fun c101 => ?_) (fun c101 => ?_)
      · exact absurd c101 (by omega)
      · skip
        refine q_iload dX9_word_104 rfl ?_
        refine q_if_eqB (tgt := 147) dX9_word_106 (by decide) (fun h => absurd h (by decide)) (fun _ => ?_)
        refine q_aload_n dX9_word_109 rfl rfl rfl ?_
        refine q_aload_n dX9_word_110 rfl rfl rfl ?_
        refine q_getr (r := 59) dX9_word_111 fX9_7 rfl (ty_c hS (by decide) rfl) (hS.2 58 0 59 rfl) ?_
        refine q_iload dX9_word_114 rfl ?_
        refine q_iald (x := nI (T (m + j))) (j := (m + j)) dX9_word_116 (ty_c hS (by decide) rfl) (ix_n (by omega) (by omega)) t1 ?_
        refine q_callV (As := [.int (nI (T (m + j)))]) (rest := []) dX9_word_117 vX9_212 (ty_c hS (by decide) rfl) ⟨by decide, rfl⟩ (z9_isDigit t2) rfl rfl (Nat.le_of_ble_eq_true rfl) (by omega) (by omega) (by omega) (k_p ?_)
        refine q_istore dX9_word_120 (by decide) (ls' := [(5, .int (bi (isDig (T (m + j))))), (0, .ref 58), (1, .int k0), (2, .int (nI m)), (3, .long x), (6, .int (nI (m + j)))]) rfl ?_
        refine q_ldc2 (v := (10 : Int64)) dX9_word_122 kX9_221 ?_
        refine q_lload_n dX9_word_125 rfl rfl ?_
        refine q_lmul dX9_word_126 ?_
        refine q_aload_n dX9_word_127 rfl rfl rfl ?_
        refine q_getr (r := 59) dX9_word_128 fX9_7 rfl (ty_c hS (by decide) rfl) (hS.2 58 0 59 rfl) ?_
        refine q_iload dX9_word_131 rfl ?_
        refine q_iald (x := nI (T (m + j))) (j := (m + j)) dX9_word_133 (ty_c hS (by decide) rfl) (ix_n (by omega) (by omega)) t1 ?_
        refine q_i2l (v := (nI (T (m + j))).toInt64) dX9_word_134 rfl ?_
        refine q_ladd dX9_word_135 ?_
        refine q_ldc2 (v := (48 : Int64)) dX9_word_136 kX9_223 ?_
        refine q_lsub dX9_word_139 ?_
        refine q_lstore_n dX9_word_140 rfl (by decide) (ls' := [(3, .long ((((10 : Int64) * x) + ((nI (T (m + j))).toInt64)) - (48 : Int64))), (5, .int (bi (isDig (T (m + j))))), (0, .ref 58), (1, .int k0), (2, .int (nI m)), (6, .int (nI (m + j)))]) rfl ?_
        refine q_iincN (c := 1) dX9_word_141 rfl (by decide) rfl (ls' := [(6, .int (nI (m + j + 1))), (3, .long ((((10 : Int64) * x) + ((nI (T (m + j))).toInt64)) - (48 : Int64))), (5, .int (bi (isDig (T (m + j))))), (0, .ref 58), (1, .int k0), (2, .int (nI m))]) rfl ?_
        refine q_goto (tgt := 95) dX9_word_144 (by decide) ?_
        refine q_pk [3, 4, 5, 1, 2, 0] (ls' := [(0, .ref 58), (1, .int k0), (2, .int (nI m)), (3, .long ((((10 : Int64) * x) + ((nI (T (m + j))).toInt64)) - (48 : Int64))), (5, .int (bi (isDig (T (m + j))))), (6, .int (nI (m + j + 1)))]) rfl ?_
        refine ih (j + 1) _ _ (by omega) ?_
        by_cases hd : isDig (T (m + j)) = true
        · refine Or.inl ⟨hd, a2, fun i hi => ?_, by rw [a4]; rfl⟩
          by_cases z : i = j
          · rw [z]; exact hd
          · exact a3 i (by omega)
        · refine Or.inr ⟨Bool.eq_false_iff.mpr hd, fun _ => Bool.eq_false_iff.mpr fun z => hd (List.all_eq_true.mp z j (List.mem_range.mpr (by omega)))⟩
    · subst a1
      refine q_iload dX9_word_95 rfl ?_
      refine q_aload_n dX9_word_97 rfl rfl rfl ?_
      refine q_geti (x := nI e) dX9_word_98 fX9_23 rfl (ty_c hS (by decide) rfl) h4 ?_
      refine q_icmp_geN (tgt := 147) dX9_word_101 (by decide) (by omega) (by omega) (fun c101 => ?_) (fun c101 => ?_)
      · exact absurd c101 (by omega)
      · skip
        refine q_iload dX9_word_104 rfl ?_
        refine q_if_eqB (tgt := 147) dX9_word_106 (by decide) (fun _ => ?_) (fun h => absurd h (by decide))
        refine y9_word3 hS hT (p := 0) he (by omega) h4 ?_
        exact hQ2 a2 x
/-- behind word -/
def WdQ (σ : HS) (T : Nat → Nat) (L p e : Nat) : HS → Prop := fun σ' => LX9 σ σ' ∧ sI σ' 58 3 = nI p ∧ sI σ' 58 4 = nI e ∧ ((e - p ≤ 8 ∧ wdD T (e1 T L p) e = true ∧ sI σ' 58 2 = nI 1 ∧ sL σ' 58 7 = pkL T p (e1 T L p - p) ∧ sI σ' 58 5 = dgD T (e1 T L p) e (nuL T (e1 T L p) (e - e1 T L p))) ∨ ((e - p ≤ 8 → wdD T (e1 T L p) e = false) ∧ sI σ' 58 2 = nI 4))
theorem y9_word1 {σ0 : HS} (hS0 : SK σ0) (hT0 : MTX σ0 L T) {p e : Nat} (he : e ≤ L) (hpe : p ≤ e) (hrun : e = run isLD T L p) : ∀ (k n : Nat) (σ : HS), p + n + k = e → n ≤ 9 → (∀ i, i < n → isLet (T (p + i)) = true) → LX9 σ0 σ → sI σ 58 3 = nI p → sI σ 58 4 = nI e → sL σ 58 7 = pkL T p n → WA g mX9_word 1 0 0 (ZM g (fun r σ' => r = none ∧ WdQ σ0 T L p e σ') 0 0) 0 0 10 [(0, .ref 58), (1, .int (nI (p + n)))] [] σ := by
  have done : ∀ (n : Nat) (σ : HS), p + n ≤ e → (∀ i, i < n → isLet (T (p + i)) = true) → (p + n = e ∨ isLet (T (p + n)) = false ∨ n = 9) → LX9 σ0 σ → sI σ 58 3 = nI p → sI σ 58 4 = nI e → sL σ 58 7 = pkL T p n → WA g mX9_word 1 0 0 (ZM g (fun r σ' => r = none ∧ WdQ σ0 T L p e σ') 0 0) 0 0 67 [(0, .ref 58), (1, .int (nI (p + n)))] [] σ := by
    intro n σ hn ha hx h1 h3 h4 h7
    have hS := SK.x9 h1 hS0
    have hT := hT0.x9 h1
    have hL := hT.2.1
    have hm : e - p ≤ 8 → p + n = e1 T L p := fun h8 => by
      unfold e1
      refine (run_is (by omega) (by omega) (fun j j1 j2 => ?_) (fun j1 => ?_)).symm
      · have := ha (j - p) (by omega)
        rw [show p + (j - p) = j by omega] at this
        exact this
      · rcases hx with hx | hx | hx
        · have h9 := run_not (p := isLD) (T := T) (L := L) (i := p) (by rw [← hrun]; omega)
          rw [← hrun] at h9
          unfold isLD at h9
          rw [Bool.or_eq_false_iff] at h9
          rw [hx]; exact h9.1
        · exact hx
        · omega
    have Q1 : decide (e - p ≤ 8) = true → wdD T (p + n) e = true → (none : Option Value) = none ∧ WdQ σ0 T L p e (uI (uI σ 58 5 (dgD T (p + n) e (nuL T (p + n) (e - (p + n))))) 58 2 (nI 1)) := fun h8 hd => by
      have h8 := of_decide_eq_true h8
      have e1' := hm h8
      refine ⟨rfl, (h1.uI (by omega)).uI (by omega), (rd_ne (by omega)).trans ((rd_ne (by omega)).trans h3), (rd_ne (by omega)).trans ((rd_ne (by omega)).trans h4), Or.inl ⟨h8, by rw [← e1']; exact hd, uI_self, ?_, ?_⟩⟩
      · show sL σ 58 7 = _
        rw [h7, ← e1', show p + n - p = n by omega]
      · rw [← e1']; exact (rd_ne (by omega)).trans uI_self
    have Q2 : (decide (e - p ≤ 8) = true → wdD T (p + n) e = false) → ∀ x : Int64, (none : Option Value) = none ∧ WdQ σ0 T L p e (uI (uI σ 58 5 (dgD T (p + n) e x)) 58 2 (nI 4)) := fun hd x =>
      ⟨rfl, (h1.uI (by omega)).uI (by omega), (rd_ne (by omega)).trans ((rd_ne (by omega)).trans h3), (rd_ne (by omega)).trans ((rd_ne (by omega)).trans h4), Or.inr ⟨fun h8 => by rw [← hm h8]; exact hd (decide_eq_true h8), uI_self⟩⟩
    have W2 := fun x good => y9_word2 (g := g) (k0 := nI (p + n)) (m := p + n) (Q := fun r σ' => r = none ∧ WdQ σ0 T L p e σ') hS hT he h4 (g0 := decide (e - p ≤ 8)) Q1 Q2 (e - (p + n)) 0 x good (by omega)
    by_cases h8 : e - p ≤ 8
    · skip
      refine q_iload_n dX9_word_67 rfl rfl ?_
      refine q_istore_n dX9_word_68 rfl (by decide) (ls' := [(2, .int (nI (p + n))), (0, .ref 58), (1, .int (nI (p + n)))]) rfl ?_
      refine q_lconst (v := (0 : Int64)) dX9_word_69 rfl ?_
      refine q_lstore_n dX9_word_70 rfl (by decide) (ls' := [(3, .long (0 : Int64)), (2, .int (nI (p + n))), (0, .ref 58), (1, .int (nI (p + n)))]) rfl ?_
      refine q_aload_n dX9_word_71 rfl rfl rfl ?_
      refine q_geti (x := nI e) dX9_word_72 fX9_23 rfl (ty_c hS (by decide) rfl) h4 ?_
      refine q_aload_n dX9_word_75 rfl rfl rfl ?_
      refine q_geti (x := nI p) dX9_word_76 fX9_20 rfl (ty_c hS (by decide) rfl) h3 ?_
      refine q_isubN dX9_word_79 (by omega) ?_
      refine q_bipush (v := nI 8) dX9_word_80 rfl ?_
      refine q_icmp_gtN (tgt := 89) dX9_word_82 (by decide) (by omega) (by omega) (fun c82 => ?_) (fun c82 => ?_)
      · exact absurd c82 (by omega)
      · skip
        refine q_iconst (v := nI 1) dX9_word_85 rfl ?_
        refine q_goto (tgt := 90) dX9_word_86 (by decide) ?_
        refine q_top (y := bi true) rfl ?_
        refine q_istore dX9_word_90 (by decide) (ls' := [(5, .int (bi true)), (3, .long (0 : Int64)), (2, .int (nI (p + n))), (0, .ref 58), (1, .int (nI (p + n)))]) rfl ?_
        refine q_iload_n dX9_word_92 rfl rfl ?_
        refine q_istore dX9_word_93 (by decide) (ls' := [(6, .int (nI (p + n))), (5, .int (bi true)), (3, .long (0 : Int64)), (2, .int (nI (p + n))), (0, .ref 58), (1, .int (nI (p + n)))]) rfl ?_
        refine q_pk [4, 5, 3, 2, 1, 0] (ls' := [(0, .ref 58), (1, .int (nI (p + n))), (2, .int (nI (p + n))), (3, .long (0 : Int64)), (5, .int (bi true)), (6, .int (nI (p + n)))]) rfl ?_
        exact W2 _ true (Or.inl ⟨rfl, decide_eq_true h8, fun i hi => absurd hi (by omega), rfl⟩)
    · skip
      refine q_iload_n dX9_word_67 rfl rfl ?_
      refine q_istore_n dX9_word_68 rfl (by decide) (ls' := [(2, .int (nI (p + n))), (0, .ref 58), (1, .int (nI (p + n)))]) rfl ?_
      refine q_lconst (v := (0 : Int64)) dX9_word_69 rfl ?_
      refine q_lstore_n dX9_word_70 rfl (by decide) (ls' := [(3, .long (0 : Int64)), (2, .int (nI (p + n))), (0, .ref 58), (1, .int (nI (p + n)))]) rfl ?_
      refine q_aload_n dX9_word_71 rfl rfl rfl ?_
      refine q_geti (x := nI e) dX9_word_72 fX9_23 rfl (ty_c hS (by decide) rfl) h4 ?_
      refine q_aload_n dX9_word_75 rfl rfl rfl ?_
      refine q_geti (x := nI p) dX9_word_76 fX9_20 rfl (ty_c hS (by decide) rfl) h3 ?_
      refine q_isubN dX9_word_79 (by omega) ?_
      refine q_bipush (v := nI 8) dX9_word_80 rfl ?_
      refine q_icmp_gtN (tgt := 89) dX9_word_82 (by decide) (by omega) (by omega) (fun c82 => ?_) (fun c82 => ?_)
      · skip
        refine q_iconst (v := nI 0) dX9_word_89 rfl ?_
        refine q_top (y := bi false) rfl ?_
        refine q_istore dX9_word_90 (by decide) (ls' := [(5, .int (bi false)), (3, .long (0 : Int64)), (2, .int (nI (p + n))), (0, .ref 58), (1, .int (nI (p + n)))]) rfl ?_
        refine q_iload_n dX9_word_92 rfl rfl ?_
        refine q_istore dX9_word_93 (by decide) (ls' := [(6, .int (nI (p + n))), (5, .int (bi false)), (3, .long (0 : Int64)), (2, .int (nI (p + n))), (0, .ref 58), (1, .int (nI (p + n)))]) rfl ?_
        refine q_pk [4, 5, 3, 2, 1, 0] (ls' := [(0, .ref 58), (1, .int (nI (p + n))), (2, .int (nI (p + n))), (3, .long (0 : Int64)), (5, .int (bi false)), (6, .int (nI (p + n)))]) rfl ?_
        exact W2 _ false (Or.inr ⟨rfl, fun z => absurd (of_decide_eq_true z) h8⟩)
      · exact absurd c82 (by omega)
  intro k
  induction k with
  | zero =>
    intro n σ hn h9 ha h1 h3 h4 h7
    have hS := SK.x9 h1 hS0
    have hL := hT0.2.1
    refine q_iload_n dX9_word_10 rfl rfl ?_
    refine q_aload_n dX9_word_11 rfl rfl rfl ?_
    refine q_geti (x := nI e) dX9_word_12 fX9_23 rfl (ty_c hS (by decide) rfl) h4 ?_
    refine q_icmp_geN (tgt := 67) dX9_word_15 (by decide) (by omega) (by omega) (fun c15 => ?_) (fun c15 => ?_)
    · skip
      exact done n σ (by omega) ha (Or.inl (by omega)) h1 h3 h4 h7
    · exact absurd c15 (by omega)
  | succ k ih =>
    intro n σ hn h9 ha h1 h3 h4 h7
    have hS := SK.x9 h1 hS0
    have hT := hT0.x9 h1
    have hL := hT.2.1
    obtain ⟨t1, t2⟩ := hT.2.2 (p + n) (by omega)
    refine q_iload_n dX9_word_10 rfl rfl ?_
    refine q_aload_n dX9_word_11 rfl rfl rfl ?_
    refine q_geti (x := nI e) dX9_word_12 fX9_23 rfl (ty_c hS (by decide) rfl) h4 ?_
    refine q_icmp_geN (tgt := 67) dX9_word_15 (by decide) (by omega) (by omega) (fun c15 => ?_) (fun c15 => ?_)
    · exact absurd c15 (by omega)
    · skip
      refine q_aload_n dX9_word_18 rfl rfl rfl ?_
      refine q_aload_n dX9_word_19 rfl rfl rfl ?_
      refine q_getr (r := 59) dX9_word_20 fX9_7 rfl (ty_c hS (by decide) rfl) (hS.2 58 0 59 rfl) ?_
      refine q_iload_n dX9_word_23 rfl rfl ?_
      refine q_iald (x := nI (T (p + n))) (j := (p + n)) dX9_word_24 (ty_c hS (by decide) rfl) (ix_n (by omega) (by omega)) t1 ?_
      refine q_callV (As := [.int (nI (T (p + n)))]) (rest := []) dX9_word_25 vX9_208 (ty_c hS (by decide) rfl) ⟨by decide, rfl⟩ (z9_isLetter t2) rfl rfl (Nat.le_of_ble_eq_true rfl) (by omega) (by omega) (by omega) (k_p ?_)
      refine q_if_eqB (tgt := 67) dX9_word_28 (by decide) (fun c28 => ?_) (fun c28 => ?_)
      · skip
        first | exact done n σ (by omega) ha (Or.inr (Or.inl c28)) h1 h3 h4 h7 | exact done n σ (by omega) ha (Or.inr (Or.inr (by omega))) h1 h3 h4 h7
      · skip
        refine q_iload_n dX9_word_31 rfl rfl ?_
        refine q_aload_n dX9_word_32 rfl rfl rfl ?_
        refine q_geti (x := nI p) dX9_word_33 fX9_20 rfl (ty_c hS (by decide) rfl) h3 ?_
        refine q_isubN dX9_word_36 (by omega) ?_
        refine q_bipush (v := nI 9) dX9_word_37 rfl ?_
        refine q_icmp_geN (tgt := 67) dX9_word_39 (by decide) (by omega) (by omega) (fun c39 => ?_) (fun c39 => ?_)
        · skip
          first | exact done n σ (by omega) ha (Or.inr (Or.inl c28)) h1 h3 h4 h7 | exact done n σ (by omega) ha (Or.inr (Or.inr (by omega))) h1 h3 h4 h7
        · skip
          refine q_aload_n dX9_word_42 rfl rfl rfl ?_
          refine q_aload_n dX9_word_43 rfl rfl rfl ?_
          refine q_getl (x := sL σ 58 7) dX9_word_44 fX9_32 rfl (ty_c hS (by decide) rfl) rfl ?_
          refine q_bipush (v := nI 8) dX9_word_47 rfl ?_
          refine q_lshl (v := (sL σ 58 7) <<< ((nI 8).toInt64 &&& 63)) dX9_word_49 rfl ?_
          refine q_aload_n dX9_word_50 rfl rfl rfl ?_
          refine q_getr (r := 59) dX9_word_51 fX9_7 rfl (ty_c hS (by decide) rfl) (hS.2 58 0 59 rfl) ?_
          refine q_iload_n dX9_word_54 rfl rfl ?_
          refine q_iald (x := nI (T (p + n))) (j := (p + n)) dX9_word_55 (ty_c hS (by decide) rfl) (ix_n (by omega) (by omega)) t1 ?_
          refine q_i2l (v := (nI (T (p + n))).toInt64) dX9_word_56 rfl ?_
          refine q_lor dX9_word_57 ?_
          refine q_putl dX9_word_58 fX9_32 rfl (Or.inl rfl) (ty_c hS (by decide) rfl) ?_
          refine q_iincN (c := 1) dX9_word_61 rfl (by decide) rfl (ls' := [(1, .int (nI (p + n + 1))), (0, .ref 58)]) rfl ?_
          refine q_goto (tgt := 10) dX9_word_64 (by decide) ?_
          refine q_pk [1, 0] (ls' := [(0, .ref 58), (1, .int (nI (p + n + 1)))]) rfl ?_
          refine ih (n + 1) _ (by omega) (by omega) (fun i hi => ?_) h1.uL h3 h4 ?_
          by_cases z : i = n
          · rw [z]; exact c28
          · exact ha i (by omega)
          refine uL_self.trans ?_
          rw [h7]; rfl
theorem z9_word (hS : SK σ) (hT : MTX σ L T) {p e : Nat} (he : e ≤ L) (hpe : p ≤ e) (hrun : e = run isLD T L p) (h3 : sI σ 58 3 = nI p) (h4 : sI σ 58 4 = nI e) : CT g mX9_word 1 0 0 [.ref 58] σ (fun r σ' => r = none ∧ WdQ σ T L p e σ') := by
  have hL := hT.2.1
  have h0 : ∀ j, j < 0 → isLet (T (p + j)) = true := fun j hj => absurd hj (by omega)
  refine CT.of (by decide) (Nat.le_of_ble_eq_true rfl) ?_
  refine q_aload_n dX9_word_0 rfl rfl rfl ?_
  refine q_geti (x := nI p) dX9_word_1 fX9_20 rfl (ty_c hS (by decide) rfl) h3 ?_
  refine q_istore_n dX9_word_4 rfl (by decide) (ls' := [(1, .int (nI p)), (0, .ref 58)]) rfl ?_
  refine q_aload_n dX9_word_5 rfl rfl rfl ?_
  refine q_lconst (v := (0 : Int64)) dX9_word_6 rfl ?_
  refine q_putl dX9_word_7 fX9_32 rfl (Or.inl rfl) (ty_c hS (by decide) rfl) ?_
  refine q_pk [1, 0] (ls' := [(0, .ref 58), (1, .int (nI p))]) rfl ?_
  exact y9_word1 hS hT he hpe hrun (e - p) 0 _ (by omega) (by omega) h0 LX9.rf.uL h3 h4 uL_self
end MWO
