/-! The class's parser: single words. -/
/-- the words of T stand in Tokens; word N is the end -/
def PCt (σ : HS) (T : Nat → Nat) (L N : Nat) : Prop := sI σ 6 3 = nI (N + 1) ∧ N ≤ 3000 ∧ L ≤ 3000 ∧ ts T L N = L ∧ TKS σ T L (N + 1)
theorem PCt.u {σ : HS} {T : Nat → Nat} {L N h i : Nat} {v : Int32} (k : PCt σ T L N) (hh : h ≠ 6 ∧ h ≠ 7 ∧ h ≠ 8 ∧ h ≠ 9) : PCt (uI σ h i v) T L N := by
  obtain ⟨h1, h2, h3, h4, h5⟩ := k
  refine ⟨by rw [rd_off (Ne.symm hh.1)]; exact h1, h2, h3, h4, fun q hq => ?_⟩
  rw [rd_off (Ne.symm hh.2.1), rd_off (Ne.symm hh.2.2.1), rd_off (Ne.symm hh.2.2.2)]
  exact h5 q hq
theorem PCt.fr {σ σ' : HS} {S : List Nat} {T : Nat → Nat} {L N : Nat} (h : Fr S σ σ') (k : PCt σ T L N) (h6 : 6 ∉ S) (h7 : 7 ∉ S) (h8 : 8 ∉ S) (h9 : 9 ∉ S) : PCt σ' T L N := by
  obtain ⟨g1, g2, g3, g4, g5⟩ := k
  refine ⟨by rw [h.2.2.2 6 h6]; exact g1, g2, g3, g4, fun q hq => ?_⟩
  rw [h.2.2.2 7 h7, h.2.2.2 8 h8, h.2.2.2 9 h9]
  exact g5 q hq
/-- a word that isn't the end stands ahead of it -/
theorem tk_lt {T : Nat → Nat} {L N k : Nat} (hN : ts T L N = L) (h : tk T L k ≠ 0) : k < N := by
  unfold tk at h
  by_cases e : ts T L k < L
  · by_cases q : k < N
    · exact q
    · have := ts_stay hN k (by omega)
      omega
  · rw [if_neg e] at h
    exact absurd rfl h
theorem ts_b {T : Nat → Nat} {L : Nat} (hL : L ≤ 3000) (k : Nat) : ts T L k < 2147483648 := by have := ts_le T L k; omega
theorem keyV_b (T : Nat → Nat) (p e : Nat) : (keyV T p e).1 < 9 ∧ (keyV T p e).2 < 7 := by
  unfold keyV
  repeat' split
  all_goals exact ⟨by simp <;> decide, by simp⟩
theorem wrdC_b (c k : Nat) : (wrdC c k).1 < 9 ∧ (wrdC c k).2 < 48 := by
  unfold wrdC
  repeat' split
  all_goals exact ⟨by simp <;> decide, by simp <;> omega⟩
theorem lxK_lt {T : Nat → Nat} {L p : Nat} : (lxK T L p).1 < 9 := by
  unfold lxK
  by_cases hc : isLD (T p) = true
  · rw [if_pos hc]
    by_cases h1 : e3 T L p ≠ e2 T L p ∨ (if e1 T L p = p then 9 else 8) < e3 T L p - p
    · rw [if_pos h1]; simp <;> decide
    · rw [if_neg h1]
      by_cases h2 : e1 T L p = p
      · rw [if_pos h2]; simp <;> decide
      · rw [if_neg h2]
        by_cases h3 : e1 T L p = e3 T L p
        · rw [if_pos h3]; exact (keyV_b _ _ _).1
        · rw [if_neg h3, wrdV_C]; exact (wrdC_b _ _).1
  · rw [if_neg hc]
    by_cases h1 : isSgB (T p) = true
    · rw [if_pos h1]; simp <;> decide
    · rw [if_neg h1]; simp <;> decide
theorem tk_b {T : Nat → Nat} {L k : Nat} : tk T L k < 9 := by
  unfold tk
  split
  · exact lxK_lt
  · decide
theorem lxK_v {T : Nat → Nat} {L p : Nat} (hT : T p < 256) : (lxK T L p).2 < 1000000000 := by
  unfold lxK
  by_cases hc : isLD (T p) = true
  · rw [if_pos hc]
    by_cases h1 : e3 T L p ≠ e2 T L p ∨ (if e1 T L p = p then 9 else 8) < e3 T L p - p
    · rw [if_pos h1]; simp <;> decide
    · rw [if_neg h1]
      by_cases h2 : e1 T L p = p
      · rw [if_pos h2] at h1 ⊢
        have h4 : e3 T L p = e2 T L p := by
          by_cases q : e3 T L p = e2 T L p
          · exact q
          · exact absurd (Or.inl q) h1
        have h3 : ¬ 9 < e3 T L p - p := fun q => h1 (Or.inr q)
        rw [h4] at h3 ⊢
        refine num_lt (fun j q1 q2 => ?_) (by omega)
        exact run_all (by rw [← h2] at q1; exact q1) q2
      · rw [if_neg h2]
        by_cases h3 : e1 T L p = e3 T L p
        · rw [if_pos h3]; exact Nat.lt_trans (keyV_b _ _ _).2 (by decide)
        · rw [if_neg h3, wrdV_C]; exact Nat.lt_trans (wrdC_b _ _).2 (by decide)
  · rw [if_neg hc]
    by_cases h1 : isSgB (T p) = true
    · rw [if_pos h1]; show T p < _; omega
    · rw [if_neg h1]; show T p < _; omega
theorem tv_b {T : Nat → Nat} {L k : Nat} (hT : ∀ i, i < L → T i < 256) : tv T L k < 1000000000 := by
  unfold tv
  split
  · next h => exact lxK_v (hT _ h)
  · decide
theorem z1_isNow {g : GG} {σ : HS} (hS : SK σ) {T : Nat → Nat} {L N k : Nat} (hC : PCt σ T L N) (hk : sI σ 5 3 = nI k) (hkN : k ≤ N) {K : Nat} (hK : K < 9) : CT g mX1_isNow 0 0 0 [.ref 5, .int (nI K)] σ (PQ σ (.int (bi (decide (tk T L k = K))))) := by
  obtain ⟨h6, h2, h3, h4, h5⟩ := hC
  have hq := (h5 k (by omega)).1
  have hb := tk_b (T := T) (L := L) (k := k)
  refine CT.of (by decide) (Nat.le_of_ble_eq_true rfl) ?_
  refine q_aload_n dX1_isNow_0 rfl rfl rfl ?_
  refine q_geti (x := nI k) dX1_isNow_1 fX1_38 rfl (ty_c hS (by decide) rfl) hk ?_
  refine q_aload_n dX1_isNow_4 rfl rfl rfl ?_
  refine q_getr (r := 6) dX1_isNow_5 fX1_12 rfl (ty_c hS (by decide) rfl) (hS.2 5 0 6 rfl) ?_
  refine q_geti (x := nI (N + 1)) dX1_isNow_8 fX1_136 rfl (ty_c hS (by decide) rfl) h6 ?_
  refine q_icmp_geN (tgt := 34) dX1_isNow_11 (by decide) (by omega) (by omega) (fun c11 => ?_) (fun c11 => ?_)
  · exact absurd c11 (by omega)
  · skip
    refine q_aload_n dX1_isNow_14 rfl rfl rfl ?_
    refine q_getr (r := 6) dX1_isNow_15 fX1_12 rfl (ty_c hS (by decide) rfl) (hS.2 5 0 6 rfl) ?_
    refine q_getr (r := 7) dX1_isNow_18 fX1_139 rfl (ty_c hS (by decide) rfl) (hS.2 6 0 7 rfl) ?_
    refine q_aload_n dX1_isNow_21 rfl rfl rfl ?_
    refine q_geti (x := nI k) dX1_isNow_22 fX1_38 rfl (ty_c hS (by decide) rfl) hk ?_
    refine q_iald (x := nI (tk T L k)) (j := k) dX1_isNow_25 (ty_c hS (by decide) rfl) (ix_n (by omega) (by omega)) hq ?_
    refine q_iload_n dX1_isNow_26 rfl rfl ?_
    refine q_icmp_neN (tgt := 34) dX1_isNow_27 (by decide) (by omega) (by omega) (fun c27 => ?_) (fun c27 => ?_)
    · skip
      refine q_iconst (v := nI 0) dX1_isNow_34 rfl ?_
      refine q_ireturn dX1_isNow_35 rfl rfl (by omega) (by omega) ?_
      exact fin_f (decide_eq_false c27)
    · skip
      refine q_iconst (v := nI 1) dX1_isNow_30 rfl ?_
      refine q_goto (tgt := 35) dX1_isNow_31 (by decide) ?_
      refine q_ireturn dX1_isNow_35 rfl rfl (by omega) (by omega) ?_
      exact fin_t (decide_eq_true c27)
theorem z1_isNow_t {g : GG} {σ : HS} (hS : SK σ) {T : Nat → Nat} {L N k : Nat} (hC : PCt σ T L N) (hk : sI σ 5 3 = nI k) (hkN : k ≤ N) {K : Nat} (hK : K < 9) (h : tk T L k = K) : CT g mX1_isNow 0 0 0 [.ref 5, .int (nI K)] σ (PQ σ (.int (bi true))) := by
  have := z1_isNow (g := g) hS hC hk hkN hK
  rw [decide_eq_true h] at this
  exact this
theorem z1_isNow_f {g : GG} {σ : HS} (hS : SK σ) {T : Nat → Nat} {L N k : Nat} (hC : PCt σ T L N) (hk : sI σ 5 3 = nI k) (hkN : k ≤ N) {K : Nat} (hK : K < 9) (h : tk T L k ≠ K) : CT g mX1_isNow 0 0 0 [.ref 5, .int (nI K)] σ (PQ σ (.int (bi false))) := by
  have := z1_isNow (g := g) hS hC hk hkN hK
  rw [decide_eq_false h] at this
  exact this
/-- a FAULT at word k -/
def erS (σ : HS) (e : Nat × Nat) : HS := uI (uI σ 5 6 (nI e.1)) 5 7 (nI e.2)
theorem z1_refuse {g : GG} {σ : HS} (hS : SK σ) {T : Nat → Nat} {L N k : Nat} (hC : PCt σ T L N) (hk : sI σ 5 3 = nI k) (hkN : k ≤ N) {w : Nat} : CT g mX1_refuse 1 0 0 [.ref 5, .int (nI w)] σ (PQ (erS σ (er T L k w)) (.int (bi false))) := by
  obtain ⟨h6, h2, h3, h4, h5⟩ := id hC
  have hq := (h5 k (by omega)).2.2
  refine CT.of (by decide) (Nat.le_of_ble_eq_true rfl) ?_
  refine q_aload_n dX1_refuse_0 rfl rfl rfl ?_
  refine q_aload_n dX1_refuse_1 rfl rfl rfl ?_
  refine q_iconst (v := nI 1) dX1_refuse_2 rfl ?_
  refine q_callV (As := [.int (nI 1)]) (rest := [.ref 5]) dX1_refuse_3 vX1_48 (ty_c hS (by decide) rfl) ⟨by decide, rfl⟩ (z1_isNow hS hC hk hkN (by decide)) rfl rfl (Nat.le_of_ble_eq_true rfl) (by omega) (by omega) (by omega) (k_p ?_)
  refine q_if_eqB (tgt := 13) dX1_refuse_6 (by decide) (fun c6 => ?_) (fun c6 => ?_)
  · skip
    refine q_iload_n dX1_refuse_13 rfl rfl ?_
    refine q_puti dX1_refuse_14 fX1_42 rfl (Or.inl rfl) (ty_c hS (by decide) rfl) ?_
    refine q_aload_n dX1_refuse_17 rfl rfl rfl ?_
    refine q_aload_n dX1_refuse_18 rfl rfl rfl ?_
    refine q_geti (x := nI k) dX1_refuse_19 fX1_38 rfl (ty_c hS (by decide) rfl) (Eq.trans (rd_ne (by decide)) hk) ?_
    refine q_aload_n dX1_refuse_22 rfl rfl rfl ?_
    refine q_getr (r := 6) dX1_refuse_23 fX1_12 rfl (ty_c hS (by decide) rfl) (hS.2 5 0 6 rfl) ?_
    refine q_geti (x := nI (N + 1)) dX1_refuse_26 fX1_136 rfl (ty_c hS (by decide) rfl) (Eq.trans (rd_off (by decide)) h6) ?_
    refine q_icmp_geN (tgt := 47) dX1_refuse_29 (by decide) (by omega) (by omega) (fun c29 => ?_) (fun c29 => ?_)
    · exact absurd c29 (by omega)
    · skip
      refine q_aload_n dX1_refuse_32 rfl rfl rfl ?_
      refine q_getr (r := 6) dX1_refuse_33 fX1_12 rfl (ty_c hS (by decide) rfl) (hS.2 5 0 6 rfl) ?_
      refine q_getr (r := 9) dX1_refuse_36 fX1_76 rfl (ty_c hS (by decide) rfl) (hS.2 6 2 9 rfl) ?_
      refine q_aload_n dX1_refuse_39 rfl rfl rfl ?_
      refine q_geti (x := nI k) dX1_refuse_40 fX1_38 rfl (ty_c hS (by decide) rfl) (Eq.trans (rd_ne (by decide)) hk) ?_
      refine q_iald (x := nI (ts T L k)) (j := k) dX1_refuse_43 (ty_c hS (by decide) rfl) (ix_n (by omega) (by omega)) (Eq.trans (rd_off (by decide)) hq) ?_
      refine q_goto (tgt := 48) dX1_refuse_44 (by decide) ?_
      refine q_puti dX1_refuse_48 fX1_142 rfl (Or.inl rfl) (ty_c hS (by decide) rfl) ?_
      refine q_iconst (v := nI 0) dX1_refuse_51 rfl ?_
      refine q_ireturn dX1_refuse_52 rfl rfl (by omega) (by omega) ?_
      refine ⟨?_, rfl⟩
      unfold erS er
      first | rw [if_pos (of_decide_eq_true c6)] | rw [if_neg (of_decide_eq_false c6)]
  · skip
    refine q_iconst (v := nI 1) dX1_refuse_9 rfl ?_
    refine q_goto (tgt := 14) dX1_refuse_10 (by decide) ?_
    refine q_puti dX1_refuse_14 fX1_42 rfl (Or.inl rfl) (ty_c hS (by decide) rfl) ?_
    refine q_aload_n dX1_refuse_17 rfl rfl rfl ?_
    refine q_aload_n dX1_refuse_18 rfl rfl rfl ?_
    refine q_geti (x := nI k) dX1_refuse_19 fX1_38 rfl (ty_c hS (by decide) rfl) (Eq.trans (rd_ne (by decide)) hk) ?_
    refine q_aload_n dX1_refuse_22 rfl rfl rfl ?_
    refine q_getr (r := 6) dX1_refuse_23 fX1_12 rfl (ty_c hS (by decide) rfl) (hS.2 5 0 6 rfl) ?_
    refine q_geti (x := nI (N + 1)) dX1_refuse_26 fX1_136 rfl (ty_c hS (by decide) rfl) (Eq.trans (rd_off (by decide)) h6) ?_
    refine q_icmp_geN (tgt := 47) dX1_refuse_29 (by decide) (by omega) (by omega) (fun c29 => ?_) (fun c29 => ?_)
    · exact absurd c29 (by omega)
    · skip
      refine q_aload_n dX1_refuse_32 rfl rfl rfl ?_
      refine q_getr (r := 6) dX1_refuse_33 fX1_12 rfl (ty_c hS (by decide) rfl) (hS.2 5 0 6 rfl) ?_
      refine q_getr (r := 9) dX1_refuse_36 fX1_76 rfl (ty_c hS (by decide) rfl) (hS.2 6 2 9 rfl) ?_
      refine q_aload_n dX1_refuse_39 rfl rfl rfl ?_
      refine q_geti (x := nI k) dX1_refuse_40 fX1_38 rfl (ty_c hS (by decide) rfl) (Eq.trans (rd_ne (by decide)) hk) ?_
      refine q_iald (x := nI (ts T L k)) (j := k) dX1_refuse_43 (ty_c hS (by decide) rfl) (ix_n (by omega) (by omega)) (Eq.trans (rd_off (by decide)) hq) ?_
      refine q_goto (tgt := 48) dX1_refuse_44 (by decide) ?_
      refine q_puti dX1_refuse_48 fX1_142 rfl (Or.inl rfl) (ty_c hS (by decide) rfl) ?_
      refine q_iconst (v := nI 0) dX1_refuse_51 rfl ?_
      refine q_ireturn dX1_refuse_52 rfl rfl (by omega) (by omega) ?_
      refine ⟨?_, rfl⟩
      unfold erS er
      first | rw [if_pos (of_decide_eq_true c6)] | rw [if_neg (of_decide_eq_false c6)]
theorem pSg_ok {T : Nat → Nat} {L c k k2 : Nat} (h : pSg T L c k = .ok k2) : tk T L k = 7 ∧ tv T L k = c ∧ k2 = k + 1 := by
  unfold pSg at h
  split at h
  · next q => cases h; exact ⟨q.1, q.2, rfl⟩
  · cases h
theorem pSg_er {T : Nat → Nat} {L c k : Nat} {e : Nat × Nat} (h : pSg T L c k = .error e) : e = er T L k 2 ∧ ¬ (tk T L k = 7 ∧ tv T L k = c) := by
  unfold pSg at h
  split at h
  · cases h
  · next q => cases h; exact ⟨rfl, q⟩
theorem z1_takeSign_ok {g : GG} {σ : HS} (hS : SK σ) {T : Nat → Nat} {L N k : Nat} (hC : PCt σ T L N) (hk : sI σ 5 3 = nI k) (hkN : k ≤ N) {c k2 : Nat} (hx : pSg T L c k = .ok k2) (hc : c < 256) : CT g mX1_takeSign 2 0 0 [.ref 5, .int (nI c)] σ (PQ (uI σ 5 3 (nI k2)) (.int (bi true))) := by
  obtain ⟨x1, x2, rfl⟩ := pSg_ok hx
  obtain ⟨h6, h2, h3, h4, h5⟩ := id hC
  have hv := (h5 k (by omega)).2.1
  rw [x2] at hv
  refine CT.of (by decide) (Nat.le_of_ble_eq_true rfl) ?_
  refine q_aload_n dX1_takeSign_0 rfl rfl rfl ?_
  refine q_bipush (v := nI 7) dX1_takeSign_1 rfl ?_
  refine q_callV (As := [.int (nI 7)]) (rest := []) dX1_takeSign_3 vX1_48 (ty_c hS (by decide) rfl) ⟨by decide, rfl⟩ (z1_isNow_t hS hC hk hkN (by decide) x1) rfl rfl (Nat.le_of_ble_eq_true rfl) (by omega) (by omega) (by omega) (k_p ?_)
  refine q_if_eqB (tgt := 25) dX1_takeSign_6 (by decide) (fun h => absurd h (by decide)) (fun _ => ?_)
  refine q_aload_n dX1_takeSign_9 rfl rfl rfl ?_
  refine q_getr (r := 6) dX1_takeSign_10 fX1_12 rfl (ty_c hS (by decide) rfl) (hS.2 5 0 6 rfl) ?_
  refine q_getr (r := 8) dX1_takeSign_13 fX1_73 rfl (ty_c hS (by decide) rfl) (hS.2 6 1 8 rfl) ?_
  refine q_aload_n dX1_takeSign_16 rfl rfl rfl ?_
  refine q_geti (x := nI k) dX1_takeSign_17 fX1_38 rfl (ty_c hS (by decide) rfl) hk ?_
  refine q_iald (x := nI c) (j := k) dX1_takeSign_20 (ty_c hS (by decide) rfl) (ix_n (by omega) (by omega)) hv ?_
  refine q_iload_n dX1_takeSign_21 rfl rfl ?_
  refine q_icmp_eqN (tgt := 31) dX1_takeSign_22 (by decide) (by omega) (by omega) (fun c22 => ?_) (fun c22 => ?_)
  · skip
    refine q_aload_n dX1_takeSign_31 rfl rfl rfl ?_
    refine q_dup dX1_takeSign_32 rfl ?_
    refine q_geti (x := nI k) dX1_takeSign_33 fX1_38 rfl (ty_c hS (by decide) rfl) hk ?_
    refine q_iconst (v := nI 1) dX1_takeSign_36 rfl ?_
    refine q_iaddN dX1_takeSign_37 ?_
    refine q_puti dX1_takeSign_38 fX1_38 rfl (Or.inl rfl) (ty_c hS (by decide) rfl) ?_
    refine q_iconst (v := nI 1) dX1_takeSign_41 rfl ?_
    refine q_ireturn dX1_takeSign_42 rfl rfl (by omega) (by omega) ?_
    exact ⟨rfl, rfl⟩
  · exact absurd rfl c22
theorem z1_takeSign_er {g : GG} {σ : HS} (hS : SK σ) {T : Nat → Nat} {L N k : Nat} (hC : PCt σ T L N) (hT : ∀ i, i < L → T i < 256) (hk : sI σ 5 3 = nI k) (hkN : k ≤ N) {c : Nat} {e : Nat × Nat} (hx : pSg T L c k = .error e) (hc : c < 256) : CT g mX1_takeSign 2 0 0 [.ref 5, .int (nI c)] σ (PQ (erS σ e) (.int (bi false))) := by
  obtain ⟨rfl, x1⟩ := pSg_er hx
  obtain ⟨h6, h2, h3, h4, h5⟩ := id hC
  have hv := (h5 k (by omega)).2.1
  have hvb := tv_b (k := k) hT
  by_cases x2 : tk T L k = 7
  · skip
    refine CT.of (by decide) (Nat.le_of_ble_eq_true rfl) ?_
    refine q_aload_n dX1_takeSign_0 rfl rfl rfl ?_
    refine q_bipush (v := nI 7) dX1_takeSign_1 rfl ?_
    refine q_callV (As := [.int (nI 7)]) (rest := []) dX1_takeSign_3 vX1_48 (ty_c hS (by decide) rfl) ⟨by decide, rfl⟩ (z1_isNow_t hS hC hk hkN (by decide) x2) rfl rfl (Nat.le_of_ble_eq_true rfl) (by omega) (by omega) (by omega) (k_p ?_)
    refine q_if_eqB (tgt := 25) dX1_takeSign_6 (by decide) (fun h => absurd h (by decide)) (fun _ => ?_)
    refine q_aload_n dX1_takeSign_9 rfl rfl rfl ?_
    refine q_getr (r := 6) dX1_takeSign_10 fX1_12 rfl (ty_c hS (by decide) rfl) (hS.2 5 0 6 rfl) ?_
    refine q_getr (r := 8) dX1_takeSign_13 fX1_73 rfl (ty_c hS (by decide) rfl) (hS.2 6 1 8 rfl) ?_
    refine q_aload_n dX1_takeSign_16 rfl rfl rfl ?_
    refine q_geti (x := nI k) dX1_takeSign_17 fX1_38 rfl (ty_c hS (by decide) rfl) hk ?_
    refine q_iald (x := nI (tv T L k)) (j := k) dX1_takeSign_20 (ty_c hS (by decide) rfl) (ix_n (by omega) (by omega)) hv ?_
    refine q_iload_n dX1_takeSign_21 rfl rfl ?_
    refine q_icmp_eqN (tgt := 31) dX1_takeSign_22 (by decide) (by omega) (by omega) (fun c22 => ?_) (fun c22 => ?_)
    · exact absurd ⟨x2, c22⟩ x1
    · skip
      refine q_aload_n dX1_takeSign_25 rfl rfl rfl ?_
      refine q_iconst (v := nI 2) dX1_takeSign_26 rfl ?_
      refine q_callV (As := [.int (nI 2)]) (rest := []) dX1_takeSign_27 vX1_55 (ty_c hS (by decide) rfl) ⟨by decide, rfl⟩ (z1_refuse hS hC hk hkN) rfl rfl (Nat.le_of_ble_eq_true rfl) (by omega) (by omega) (by omega) (k_p ?_)
      refine q_ireturn dX1_takeSign_30 rfl (bi_nar _) (by omega) (by omega) ?_
      exact ⟨rfl, rfl⟩
  · skip
    refine CT.of (by decide) (Nat.le_of_ble_eq_true rfl) ?_
    refine q_aload_n dX1_takeSign_0 rfl rfl rfl ?_
    refine q_bipush (v := nI 7) dX1_takeSign_1 rfl ?_
    refine q_callV (As := [.int (nI 7)]) (rest := []) dX1_takeSign_3 vX1_48 (ty_c hS (by decide) rfl) ⟨by decide, rfl⟩ (z1_isNow_f hS hC hk hkN (by decide) x2) rfl rfl (Nat.le_of_ble_eq_true rfl) (by omega) (by omega) (by omega) (k_p ?_)
    refine q_if_eqB (tgt := 25) dX1_takeSign_6 (by decide) (fun _ => ?_) (fun h => absurd h (by decide))
    refine q_aload_n dX1_takeSign_25 rfl rfl rfl ?_
    refine q_iconst (v := nI 2) dX1_takeSign_26 rfl ?_
    refine q_callV (As := [.int (nI 2)]) (rest := []) dX1_takeSign_27 vX1_55 (ty_c hS (by decide) rfl) ⟨by decide, rfl⟩ (z1_refuse hS hC hk hkN) rfl rfl (Nat.le_of_ble_eq_true rfl) (by omega) (by omega) (by omega) (k_p ?_)
    refine q_ireturn dX1_takeSign_30 rfl (bi_nar _) (by omega) (by omega) ?_
    exact ⟨rfl, rfl⟩
