/-! The model: what is asked of a ROUTINE. -/
def MOK (q : PS) : Prop := BC q ∧ WFs q ∧ NB q ∧ psX q = false ∧ 0 < (psF q).length
/-- what stands in place p of the model -/
def MA (σ : HS) (p : Int32) : Option PS → Prop
  | none => p < 0 ∨ nI 4 ≤ p ∨ ∃ i, i < 4 ∧ p = nI i ∧ sI σ 60 i = nI 0
  | some q => ∃ i, i < 4 ∧ p = nI i ∧ sI σ 60 i = nI 1 ∧ MR σ i q ∧ MOK q
def cdF (a v : Int32) : Int32 := if ¬ a < 0 then (if a < nI 16 then nI 1000 + a else nI 2000 + a - nI 16) else if nI 999 < v then nI 999 else if v < (-999) then (-999) else v
theorem neg_toInt {v : Nat} (h : v < 1000000000) : (-(nI v)).toInt = -(v : Int) := by
  rw [Int32.toInt_neg, nI_toInt (by omega)]
  have : (-(v : Int)).bmod 4294967296 = -(v : Int) := by rw [Int.bmod_def]; split <;> omega
  rw [show (2 : Nat) ^ 32 = 4294967296 by decide, this]
theorem cdF_m {v : Nat} (h : v < 1000000000) : cdF (-1) (nI v) = coF (nI v) := by
  unfold cdF coF
  have h1 : ¬ nI 1000000016 ≤ nI v := fun z => by have := (nI_leI (by omega) (by omega)).mp z; omega
  have h2 : ¬ nI 1000000000 ≤ nI v := fun z => by have := (nI_leI (by omega) (by omega)).mp z; omega
  have h3 : ∀ w : Nat, w < 1000000000 → (-999 : Int32) < nI w := fun w hw => Int32.lt_iff_toInt_lt.mpr (by rw [nI_toInt (by omega), show (-999 : Int32).toInt = -999 from by decide]; omega)
  have h4 : ¬ nI v < (-999) := fun z => by
    have := Int32.lt_iff_toInt_lt.mp z
    rw [nI_toInt (by omega), show (-999 : Int32).toInt = -999 from by decide] at this; omega
  rw [if_neg (by decide), if_neg h1, if_neg h2, if_neg h4]
  by_cases hv : v < 999
  · have h5 : nI v < nI 999 := nI_lt hv (by omega)
    have h6 : ¬ nI 999 < nI v := fun z => by have := (nI_ltI (by omega) (by omega)).mp z; omega
    rw [if_neg h6, if_pos h5, if_pos (h3 v h)]
  · have h5 : ¬ nI v < nI 999 := fun z => by have := (nI_ltI (by omega) (by omega)).mp z; omega
    rw [if_neg h5, if_pos (h3 999 (by omega))]
    by_cases he : v = 999
    · rw [he, if_neg (by decide)]
    · rw [if_pos (nI_lt (by omega) (by omega))]
theorem cdF_n {v : Nat} (h : v < 1000000000) : cdF (-1) (-(nI v)) = coF (-(nI v)) := by
  have e := neg_toInt h
  have h2 := (opV_m (nm := fun _ => 0) h).1
  have h1 : ¬ nI 1000000016 ≤ -(nI v) := fun z => h2 (Int32.le_iff_toInt_le.mpr (by have := Int32.le_iff_toInt_le.mp z; rw [nI_toInt (by omega)] at this ⊢; omega))
  have h3 : (-(nI v)) < nI 999 := Int32.lt_iff_toInt_lt.mpr (by rw [e, nI_toInt (by omega)]; omega)
  have h4 : ¬ nI 999 < (-(nI v)) := fun z => by have := Int32.lt_iff_toInt_lt.mp z; rw [e, nI_toInt (by omega)] at this; omega
  unfold cdF coF
  rw [if_neg (by decide), if_neg h1, if_neg h2, if_neg h4, if_pos h3]
  by_cases h5 : -(nI v) < (-999)
  · rw [if_pos h5, if_neg]
    intro z
    have a := Int32.lt_iff_toInt_lt.mp z
    have b := Int32.lt_iff_toInt_lt.mp h5
    omega
  · rw [if_neg h5]
    by_cases h6 : (-999 : Int32) < -(nI v)
    · rw [if_pos h6]
    · rw [if_neg h6]
      apply Int32.toInt_inj.mp
      have a : ¬ (-(nI v)).toInt < (-999 : Int32).toInt := fun z => h5 (Int32.lt_iff_toInt_lt.mpr z)
      have b : ¬ (-999 : Int32).toInt < (-(nI v)).toInt := fun z => h6 (Int32.lt_iff_toInt_lt.mpr z)
      omega
theorem cdF_o {o : Int32} (ho : OPD o) : cdF (opn o) (opv o) = coF o := by
  rcases ho with ⟨v, h1, rfl⟩ | ⟨v, h1, rfl⟩ | ⟨v, h1, rfl⟩
  · rw [(opn_n h1).1, (opn_n h1).2]; exact cdF_m h1
  · rw [(opn_m h1).1, (opn_m h1).2]; exact cdF_n h1
  · rw [(opn_nm (by omega)).1, (opn_nm (by omega)).2]
    unfold cdF coF
    rw [if_pos (nI_pos (by omega))]
    by_cases h : v < 16
    · rw [if_pos (nI_lt h (by omega)), if_neg (fun z => by have := (nI_leI (by omega) (by omega)).mp z; omega), if_pos ((nI_leI (by omega) (by omega)).mpr (by omega)), nI_add, nI_add, nI_subN (by omega)]
      exact congrArg nI (by omega)
    · rw [if_neg (fun z => by have := (nI_ltI (by omega) (by omega)).mp z; omega), if_pos ((nI_leI (by omega) (by omega)).mpr (by omega)), nI_add, nI_add, nI_subN (by omega), nI_subN (by omega), nI_subN (by omega)]
      exact congrArg nI (by omega)
theorem cdF_a {x : SUM} (hx : SMW x) : cdF (sAn x) (sAv x) = coF x.2.1 := by
  unfold sAn sAv
  rcases hx with ⟨h1, h2, h3⟩ | ⟨h1, ⟨w, w1, w2⟩, h3⟩
  · rw [if_neg (isO_r h1), if_neg (isO_r h1)]; exact cdF_o h2
  · rw [if_pos h1, if_pos h1, w2]; exact cdF_m (by omega)
theorem cdF_b {x : SUM} (hx : SMW x) : cdF (opn x.2.2) (opv x.2.2) = coF x.2.2 := by
  rcases hx with ⟨_, _, h3⟩ | ⟨_, _, h3⟩ <;> exact cdF_o h3
theorem opn_48 {o : Int32} (ho : OPD o) (h : ¬ opn o < 0) : opn o < nI 48 := by
  rcases ho with ⟨v, h1, rfl⟩ | ⟨v, h1, rfl⟩ | ⟨v, h1, rfl⟩
  · rw [(opn_n h1).1] at h; exact absurd (by decide) h
  · rw [(opn_m h1).1] at h; exact absurd (by decide) h
  · rw [(opn_nm (by omega)).1]; exact nI_lt h1 (by omega)
/-- NODES ON THE WAY work nothing -/
theorem wk_way {q : PS} {e n : Nat} (he : e < 32) (hn : (psS q).length ≤ n) : wk q e n = false := by
  unfold wk
  refine decide_eq_false fun z => ?_
  have er : rg q n = _ := if_neg (by omega : ¬ n < (psS q).length)
  rw [er] at z
  exact m1_nI (by omega) z
theorem cnt_wk {q : PS} {e : Nat} (he : e < 32) : ∀ k, cnt (wk q e) ((psS q).length + k) = cnt (wk q e) (psS q).length
  | 0 => rfl
  | k + 1 => by
    have hw := wk_way (q := q) (e := e) (n := (psS q).length + k) he (by omega)
    show cnt (wk q e) ((psS q).length + k) + (if wk q e ((psS q).length + k) = true then 1 else 0) = _
    rw [hw, cnt_wk he k]; rfl
theorem cl1_or {q : PS} (hc : BC q) (hw : WFs q) (hnb : NB q) {i n : Nat} : cl1 q i n = if decide (lto q n i) = true then 1 else 0 := by
  unfold cl1
  by_cases h0 : ld q 0 n = some i
  · have h1 : ¬ ld q 1 n = some i := fun z => ld_ne hc hw hnb h0 z rfl
    rw [if_pos h0, if_neg h1, if_pos (decide_eq_true (Or.inl h0))]
  · by_cases h1 : ld q 1 n = some i
    · rw [if_neg h0, if_pos h1, if_pos (decide_eq_true (Or.inr h1))]
    · rw [if_neg h0, if_neg h1, if_neg (fun z => (of_decide_eq_true z).elim h0 h1)]
section MQE
variable {g : GG} {σ : HS} {q : PS} {p : Int32}
theorem z9_isThere0 (hS : SK σ) (h : MA σ p none) : CT g mX9_isThere 0 0 0 [.ref 58, .int p] σ (PQ σ (.int (bi false))) := by
  rcases h with h | h | ⟨i, hi, rfl, h0⟩
  · skip
    refine CT.of (by decide) (Nat.le_of_ble_eq_true rfl) ?_
    refine q_iload_n dX9_isThere_0 rfl rfl ?_
    refine q_if_lt (tgt := 22) dX9_isThere_1 (by decide) (fun c1 => ?_) (fun c1 => ?_)
    · skip
      refine q_iconst (v := nI 0) dX9_isThere_22 rfl ?_
      refine q_ireturn dX9_isThere_23 rfl rfl (by omega) (by omega) ?_
      exact ⟨rfl, rfl⟩
    · exact absurd h c1
  · have h3 : ¬ p ≤ nI 3 := fun z => (Int32.not_lt.mpr h) ((le_lt (by omega)).mp z)
    refine CT.of (by decide) (Nat.le_of_ble_eq_true rfl) ?_
    refine q_iload_n dX9_isThere_0 rfl rfl ?_
    refine q_if_lt (tgt := 22) dX9_isThere_1 (by decide) (fun c1 => ?_) (fun c1 => ?_)
    · skip
      refine q_iconst (v := nI 0) dX9_isThere_22 rfl ?_
      refine q_ireturn dX9_isThere_23 rfl rfl (by omega) (by omega) ?_
      exact ⟨rfl, rfl⟩
    · skip
      refine q_iload_n dX9_isThere_4 rfl rfl ?_
      refine q_iconst (v := nI 3) dX9_isThere_5 rfl ?_
      refine q_icmp_gt (tgt := 22) dX9_isThere_6 (by decide) (fun c6 => ?_) (fun c6 => ?_)
      · skip
        refine q_iconst (v := nI 0) dX9_isThere_22 rfl ?_
        refine q_ireturn dX9_isThere_23 rfl rfl (by omega) (by omega) ?_
        exact ⟨rfl, rfl⟩
      · exact absurd c6 (fun z => h3 (Int32.not_lt.mp z))
  · skip
    refine CT.of (by decide) (Nat.le_of_ble_eq_true rfl) ?_
    refine q_iload_n dX9_isThere_0 rfl rfl ?_
    refine q_if_ltN (tgt := 22) dX9_isThere_1 (by decide) (by omega) ?_
    refine q_iload_n dX9_isThere_4 rfl rfl ?_
    refine q_iconst (v := nI 3) dX9_isThere_5 rfl ?_
    refine q_icmp_gtN (tgt := 22) dX9_isThere_6 (by decide) (by omega) (by omega) (fun c6 => ?_) (fun c6 => ?_)
    · exact absurd c6 (by omega)
    · skip
      refine q_aload_n dX9_isThere_9 rfl rfl rfl ?_
      refine q_getr (r := 60) dX9_isThere_10 fX9_36 rfl (ty_c hS (by decide) rfl) (hS.2 58 8 60 rfl) ?_
      refine q_iload_n dX9_isThere_13 rfl rfl ?_
      refine q_zald (x := bi false) (j := i) dX9_isThere_14 (ty_c hS (by decide) rfl) (ix_n (by omega) (by omega)) h0 ?_
      refine q_if_eqB (tgt := 22) dX9_isThere_15 (by decide) (fun _ => ?_) (fun h => absurd h (by decide))
      refine q_iconst (v := nI 0) dX9_isThere_22 rfl ?_
      refine q_ireturn dX9_isThere_23 rfl rfl (by omega) (by omega) ?_
      exact ⟨rfl, rfl⟩
theorem z9_isThere1 (hS : SK σ) {i : Nat} (hi : i < 4) (h0 : sI σ 60 i = nI 1) : CT g mX9_isThere 0 0 0 [.ref 58, .int (nI i)] σ (PQ σ (.int (bi true))) := by
  refine CT.of (by decide) (Nat.le_of_ble_eq_true rfl) ?_
  refine q_iload_n dX9_isThere_0 rfl rfl ?_
  refine q_if_ltN (tgt := 22) dX9_isThere_1 (by decide) (by omega) ?_
  refine q_iload_n dX9_isThere_4 rfl rfl ?_
  refine q_iconst (v := nI 3) dX9_isThere_5 rfl ?_
  refine q_icmp_gtN (tgt := 22) dX9_isThere_6 (by decide) (by omega) (by omega) (fun c6 => ?_) (fun c6 => ?_)
  · exact absurd c6 (by omega)
  · skip
    refine q_aload_n dX9_isThere_9 rfl rfl rfl ?_
    refine q_getr (r := 60) dX9_isThere_10 fX9_36 rfl (ty_c hS (by decide) rfl) (hS.2 58 8 60 rfl) ?_
    refine q_iload_n dX9_isThere_13 rfl rfl ?_
    refine q_zald (x := bi true) (j := i) dX9_isThere_14 (ty_c hS (by decide) rfl) (ix_n (by omega) (by omega)) h0 ?_
    refine q_if_eqB (tgt := 22) dX9_isThere_15 (by decide) (fun h => absurd h (by decide)) (fun _ => ?_)
    refine q_iconst (v := nI 1) dX9_isThere_18 rfl ?_
    refine q_goto (tgt := 23) dX9_isThere_19 (by decide) ?_
    refine q_ireturn dX9_isThere_23 rfl rfl (by omega) (by omega) ?_
    exact ⟨rfl, rfl⟩
theorem z9_about0 (hS : SK σ) (h : MA σ p none) {w : Int32} : CT g mX9_about 1 0 0 [.ref 58, .int p, .int w] σ (PQ σ (.int (-1))) := by
  refine CT.of (by decide) (Nat.le_of_ble_eq_true rfl) ?_
  refine q_aload_n dX9_about_0 rfl rfl rfl ?_
  refine q_iload_n dX9_about_1 rfl rfl ?_
  refine q_callV (As := [.int p]) (rest := []) dX9_about_2 vX9_373 (ty_c hS (by decide) rfl) ⟨by decide, rfl⟩ (z9_isThere0 hS h) rfl rfl (Nat.le_of_ble_eq_true rfl) (by omega) (by omega) (by omega) (k_p ?_)
  refine q_if_neB (tgt := 10) dX9_about_5 (by decide) (fun h => absurd h (by decide)) (fun _ => ?_)
  refine q_iconst (v := (-1 : Int32)) dX9_about_8 rfl ?_
  refine q_ireturn dX9_about_9 rfl rfl (by omega) (by omega) ?_
  exact ⟨rfl, rfl⟩
theorem z9_node0 (hS : SK σ) (h : MA σ p none) {n w : Int32} : CT g mX9_node 1 0 0 [.ref 58, .int p, .int n, .int w] σ (PQ σ (.int (-1))) := by
  refine CT.of (by decide) (Nat.le_of_ble_eq_true rfl) ?_
  refine q_aload_n dX9_node_0 rfl rfl rfl ?_
  refine q_iload_n dX9_node_1 rfl rfl ?_
  refine q_callV (As := [.int p]) (rest := []) dX9_node_2 vX9_373 (ty_c hS (by decide) rfl) ⟨by decide, rfl⟩ (z9_isThere0 hS h) rfl rfl (Nat.le_of_ble_eq_true rfl) (by omega) (by omega) (by omega) (k_p ?_)
  refine q_if_eqB (tgt := 22) dX9_node_5 (by decide) (fun _ => ?_) (fun h => absurd h (by decide))
  refine q_iconst (v := (-1 : Int32)) dX9_node_22 rfl ?_
  refine q_ireturn dX9_node_23 rfl rfl (by omega) (by omega) ?_
  exact ⟨rfl, rfl⟩
theorem z9_isSum0 (hS : SK σ) (h : MA σ p none) {e : Int32} : CT g mX9_isSum 1 0 0 [.ref 58, .int p, .int e] σ (PQ σ (.int (bi false))) := by
  refine CT.of (by decide) (Nat.le_of_ble_eq_true rfl) ?_
  refine q_aload_n dX9_isSum_0 rfl rfl rfl ?_
  refine q_iload_n dX9_isSum_1 rfl rfl ?_
  refine q_callV (As := [.int p]) (rest := []) dX9_isSum_2 vX9_373 (ty_c hS (by decide) rfl) ⟨by decide, rfl⟩ (z9_isThere0 hS h) rfl rfl (Nat.le_of_ble_eq_true rfl) (by omega) (by omega) (by omega) (k_p ?_)
  refine q_if_eqB (tgt := 26) dX9_isSum_5 (by decide) (fun _ => ?_) (fun h => absurd h (by decide))
  refine q_iconst (v := nI 0) dX9_isSum_26 rfl ?_
  refine q_ireturn dX9_isSum_27 rfl rfl (by omega) (by omega) ?_
  exact ⟨rfl, rfl⟩
theorem z9_isSumN (hS : SK σ) (h : MA σ p (some q)) {e : Int32} (he : ¬ (¬ e < 0 ∧ e < nI (psM q).length)) : CT g mX9_isSum 1 0 0 [.ref 58, .int p, .int e] σ (PQ σ (.int (bi false))) := by
  obtain ⟨i, hi, rfl, h0, hr, -⟩ := h
  have r64 := hr.1.2.2.2.1
  refine CT.of (by decide) (Nat.le_of_ble_eq_true rfl) ?_
  refine q_aload_n dX9_isSum_0 rfl rfl rfl ?_
  refine q_iload_n dX9_isSum_1 rfl rfl ?_
  refine q_callV (As := [.int (nI i)]) (rest := []) dX9_isSum_2 vX9_373 (ty_c hS (by decide) rfl) ⟨by decide, rfl⟩ (z9_isThere1 hS hi h0) rfl rfl (Nat.le_of_ble_eq_true rfl) (by omega) (by omega) (by omega) (k_p ?_)
  refine q_if_eqB (tgt := 26) dX9_isSum_5 (by decide) (fun h => absurd h (by decide)) (fun _ => ?_)
  refine q_iload_n dX9_isSum_8 rfl rfl ?_
  refine q_if_lt (tgt := 26) dX9_isSum_9 (by decide) (fun c9 => ?_) (fun c9 => ?_)
  · skip
    refine q_iconst (v := nI 0) dX9_isSum_26 rfl ?_
    refine q_ireturn dX9_isSum_27 rfl rfl (by omega) (by omega) ?_
    exact ⟨rfl, rfl⟩
  · skip
    refine q_iload_n dX9_isSum_12 rfl rfl ?_
    refine q_aload_n dX9_isSum_13 rfl rfl rfl ?_
    refine q_getr (r := 64) dX9_isSum_14 fX9_49 rfl (ty_c hS (by decide) rfl) (hS.2 58 12 64 rfl) ?_
    refine q_iload_n dX9_isSum_17 rfl rfl ?_
    refine q_iald (x := nI ((psM q).length)) (j := i) dX9_isSum_18 (ty_c hS (by decide) rfl) (ix_n (by omega) (by omega)) r64 ?_
    refine q_icmp_ge (tgt := 26) dX9_isSum_19 (by decide) (fun c19 => ?_) (fun c19 => ?_)
    · skip
      refine q_iconst (v := nI 0) dX9_isSum_26 rfl ?_
      refine q_ireturn dX9_isSum_27 rfl rfl (by omega) (by omega) ?_
      exact ⟨rfl, rfl⟩
    · exact absurd ⟨c9, Int32.not_le.mp c19⟩ he
theorem z9_isSumY (hS : SK σ) {i : Nat} (hi : i < 4) (h0 : sI σ 60 i = nI 1) (hr : MR σ i q) (hk : MOK q) {e : Nat} (he : e < (psM q).length) : CT g mX9_isSum 1 0 0 [.ref 58, .int (nI i), .int (nI e)] σ (PQ σ (.int (bi true))) := by
  have r64 := hr.1.2.2.2.1
  have h32 := hk.2.1.2.2.2.1
  refine CT.of (by decide) (Nat.le_of_ble_eq_true rfl) ?_
  refine q_aload_n dX9_isSum_0 rfl rfl rfl ?_
  refine q_iload_n dX9_isSum_1 rfl rfl ?_
  refine q_callV (As := [.int (nI i)]) (rest := []) dX9_isSum_2 vX9_373 (ty_c hS (by decide) rfl) ⟨by decide, rfl⟩ (z9_isThere1 hS hi h0) rfl rfl (Nat.le_of_ble_eq_true rfl) (by omega) (by omega) (by omega) (k_p ?_)
  refine q_if_eqB (tgt := 26) dX9_isSum_5 (by decide) (fun h => absurd h (by decide)) (fun _ => ?_)
  refine q_iload_n dX9_isSum_8 rfl rfl ?_
  refine q_if_ltN (tgt := 26) dX9_isSum_9 (by decide) (by omega) ?_
  refine q_iload_n dX9_isSum_12 rfl rfl ?_
  refine q_aload_n dX9_isSum_13 rfl rfl rfl ?_
  refine q_getr (r := 64) dX9_isSum_14 fX9_49 rfl (ty_c hS (by decide) rfl) (hS.2 58 12 64 rfl) ?_
  refine q_iload_n dX9_isSum_17 rfl rfl ?_
  refine q_iald (x := nI ((psM q).length)) (j := i) dX9_isSum_18 (ty_c hS (by decide) rfl) (ix_n (by omega) (by omega)) r64 ?_
  refine q_icmp_geN (tgt := 26) dX9_isSum_19 (by decide) (by omega) (by omega) (fun c19 => ?_) (fun c19 => ?_)
  · exact absurd c19 (by omega)
  · skip
    refine q_iconst (v := nI 1) dX9_isSum_22 rfl ?_
    refine q_goto (tgt := 27) dX9_isSum_23 (by decide) ?_
    refine q_ireturn dX9_isSum_27 rfl rfl (by omega) (by omega) ?_
    exact ⟨rfl, rfl⟩
theorem z9_coded (hS : SK σ) {a v : Int32} (ha : ¬ a < 0 → a < nI 48) : CT g mX9_coded 0 0 0 [.ref 58, .int a, .int v] σ (PQ σ (.int (cdF a v))) := by
  unfold cdF
  refine CT.of (by decide) (Nat.le_of_ble_eq_true rfl) ?_
  refine q_iload_n dX9_coded_0 rfl rfl ?_
  refine q_if_lt (tgt := 27) dX9_coded_1 (by decide) (fun c1 => ?_) (fun c1 => ?_)
  · rw [if_neg (fun z => z c1)]
    refine q_iload_n dX9_coded_27 rfl rfl ?_
    refine q_sipush (v := nI 999) dX9_coded_28 rfl ?_
    refine q_icmp_le (tgt := 40) dX9_coded_31 (by decide) (fun c31 => ?_) (fun c31 => ?_)
    · rw [if_neg (Int32.not_lt.mpr c31)]
      refine q_iload_n dX9_coded_40 rfl rfl ?_
      refine q_sipush (v := (-999 : Int32)) dX9_coded_41 rfl ?_
      refine q_icmp_ge (tgt := 53) dX9_coded_44 (by decide) (fun c44 => ?_) (fun c44 => ?_)
      · rw [if_neg (Int32.not_lt.mpr c44)]
        refine q_iload_n dX9_coded_53 rfl rfl ?_
        refine q_ireturn dX9_coded_54 rfl rfl (by omega) (by omega) ?_
        exact ⟨rfl, rfl⟩
      · rw [if_pos (Int32.not_le.mp c44)]
        refine q_sipush (v := (-999 : Int32)) dX9_coded_47 rfl ?_
        refine q_goto (tgt := 54) dX9_coded_50 (by decide) ?_
        refine q_ireturn dX9_coded_54 rfl rfl (by omega) (by omega) ?_
        exact ⟨rfl, rfl⟩
    · rw [if_pos (Int32.not_le.mp c31)]
      refine q_sipush (v := nI 999) dX9_coded_34 rfl ?_
      refine q_goto (tgt := 54) dX9_coded_37 (by decide) ?_
      refine q_ireturn dX9_coded_54 rfl rfl (by omega) (by omega) ?_
      exact ⟨rfl, rfl⟩
  · rw [if_pos c1]
    refine q_iload_n dX9_coded_4 rfl rfl ?_
    refine q_bipush (v := nI 16) dX9_coded_5 rfl ?_
    refine q_icmp_ge (tgt := 18) dX9_coded_7 (by decide) (fun c7 => ?_) (fun c7 => ?_)
    · rw [if_neg (Int32.not_lt.mpr c7)]
      refine q_sipush (v := nI 2000) dX9_coded_18 rfl ?_
      refine q_iload_n dX9_coded_21 rfl rfl ?_
      refine q_iadd dX9_coded_22 ?_
      refine q_bipush (v := nI 16) dX9_coded_23 rfl ?_
      refine q_isub dX9_coded_25 ?_
      refine q_ireturn dX9_coded_26 rfl rfl (by omega) (by omega) ?_
      exact ⟨rfl, rfl⟩
    · rw [if_pos (Int32.not_le.mp c7)]
      refine q_sipush (v := nI 1000) dX9_coded_10 rfl ?_
      refine q_iload_n dX9_coded_13 rfl rfl ?_
      refine q_iadd dX9_coded_14 ?_
      refine q_goto (tgt := 26) dX9_coded_15 (by decide) ?_
      refine q_ireturn dX9_coded_26 rfl rfl (by omega) (by omega) ?_
      exact ⟨rfl, rfl⟩
theorem z9_boldP (hS : SK σ) {i : Nat} (hi : i < 4) (hr : MR σ i q) (hk : MOK q) {e : Nat} (he : e < (psM q).length) : CT g mX9_isBold 0 0 0 [.ref 58, .int (nI i), .int (nI e)] σ (PQ σ (.int (bi (bo q e)))) := by
  have h32 := hk.2.1.2.2.2.1
  exact z9_isBold hS (by omega) (by omega) (hr.1.2.2.2.2.2.2 e he)
theorem y9_node122 (hS : SK σ) {i : Nat} (hi : i < 4) (hr : MR σ i q) (hk : MOK q) {m : Nat} (hm : m < NN q) {w x : Int32} : ∀ (k a : Nat), a + k = NN q → WA g mX9_node 1 0 0 (ZM g (PQ σ (.int (nI (cntL q m (NN q))))) 0 0) 0 0 122 [(0, .ref 58), (1, .int (nI i)), (2, .int (nI m)), (3, .int w), (4, .int x), (5, .int (nI (cntL q m a))), (6, .int (nI (240 * i + a)))] [] σ := by
  obtain ⟨hc, hw, hB, hx, h0⟩ := hk
  have hN := NN_le hc
  have r62 := hr.1.2.1
  intro k
  induction k with
  | zero =>
    intro a ha
    have ea : a = NN q := by omega
    rw [ea]
    refine q_iload dX9_node_122 rfl ?_
    refine q_sipush (v := nI 240) dX9_node_124 rfl ?_
    refine q_iload_n dX9_node_127 rfl rfl ?_
    refine q_imulN dX9_node_128 ?_
    refine q_aload_n dX9_node_129 rfl rfl rfl ?_
    refine q_getr (r := 62) dX9_node_130 fX9_43 rfl (ty_c hS (by decide) rfl) (hS.2 58 10 62 rfl) ?_
    refine q_iload_n dX9_node_133 rfl rfl ?_
    refine q_iald (x := nI (NN q)) (j := i) dX9_node_134 (ty_c hS (by decide) rfl) (ix_n (by omega) (by omega)) r62 ?_
    refine q_iaddN dX9_node_135 ?_
    refine q_icmp_geN (tgt := 177) dX9_node_136 (by decide) (by omega) (by omega) (fun c136 => ?_) (fun c136 => ?_)
    · skip
      refine q_iload dX9_node_177 rfl ?_
      refine q_ireturn dX9_node_179 rfl rfl (by omega) (by omega) ?_
      exact ⟨rfl, rfl⟩
    · exact absurd c136 (by omega)
  | succ k ih =>
    intro a ha
    have haN : a < NN q := by omega
    obtain ⟨-, r1, r2⟩ := hr.1.2.2.2.2.2.1 a haN
    have hcl := cntL_le q m a
    have k0 := fun i => ld_lt hc hw hB (w := 0) (n := a) (i := i) haN
    have k1 := fun i => ld_lt hc hw hB (w := 1) (n := a) (i := i) haN
    have yes : ∀ o0 o1, ld q 0 a = o0 → ld q 1 a = o1 → (o0 = some m ∨ o1 = some m) → decide (lto q a m) = true := fun o0 o1 e0 e1 z => decide_eq_true (by unfold lto; rw [e0, e1]; exact z)
    have no : ∀ o0 o1, ld q 0 a = o0 → ld q 1 a = o1 → ¬ (o0 = some m ∨ o1 = some m) → ¬ decide (lto q a m) = true := fun o0 o1 e0 e1 z y => z (by have := of_decide_eq_true y; unfold lto at this; rw [e0, e1] at this; exact this)
    have nx : ∀ c : Nat, (c = if decide (lto q a m) = true then 1 else 0) → WA g mX9_node 1 0 0 (ZM g (PQ σ (.int (nI (cntL q m (NN q))))) 0 0) 0 0 122 [(0, .ref 58), (1, .int (nI i)), (2, .int (nI m)), (3, .int w), (4, .int x), (5, .int (nI (cntL q m a + c))), (6, .int (nI (240 * i + a + 1)))] [] σ := fun c hcc => by
      have e : cntL q m a + c = cntL q m (a + 1) := by
        show _ = cntL q m a + cl1 q m a
        rw [cl1_or hc hw hB, hcc]
      rw [e]; exact ih (a + 1) (by omega)
    cases l0 : ld q 0 a with
    | none =>
      rw [l0] at r1
      cases l1 : ld q 1 a with
      | none =>
        rw [l1] at r2
        refine q_iload dX9_node_122 rfl ?_
        refine q_sipush (v := nI 240) dX9_node_124 rfl ?_
        refine q_iload_n dX9_node_127 rfl rfl ?_
        refine q_imulN dX9_node_128 ?_
        refine q_aload_n dX9_node_129 rfl rfl rfl ?_
        refine q_getr (r := 62) dX9_node_130 fX9_43 rfl (ty_c hS (by decide) rfl) (hS.2 58 10 62 rfl) ?_
        refine q_iload_n dX9_node_133 rfl rfl ?_
        refine q_iald (x := nI (NN q)) (j := i) dX9_node_134 (ty_c hS (by decide) rfl) (ix_n (by omega) (by omega)) r62 ?_
        refine q_iaddN dX9_node_135 ?_
        refine q_icmp_geN (tgt := 177) dX9_node_136 (by decide) (by omega) (by omega) (fun c136 => ?_) (fun c136 => ?_)
        · exact absurd c136 (by omega)
        · skip
          refine q_iload dX9_node_139 rfl ?_
          refine q_aload_n dX9_node_141 rfl rfl rfl ?_
          refine q_getr (r := 71) dX9_node_142 fX9_70 rfl (ty_c hS (by decide) rfl) (hS.2 58 19 71 rfl) ?_
          refine q_iload dX9_node_145 rfl ?_
          refine q_iald (x := (-1)) (j := (240 * i + a)) dX9_node_147 (ty_c hS (by decide) rfl) (ix_n (by omega) (by omega)) r1 ?_
          refine q_iload_n dX9_node_148 rfl rfl ?_
          refine q_icmp_eq1 (tgt := 163) dX9_node_149 (by decide) (by omega) (by decide) ?_
          refine q_aload_n dX9_node_152 rfl rfl rfl ?_
          refine q_getr (r := 72) dX9_node_153 fX9_73 rfl (ty_c hS (by decide) rfl) (hS.2 58 20 72 rfl) ?_
          refine q_iload dX9_node_156 rfl ?_
          refine q_iald (x := (-1)) (j := (240 * i + a)) dX9_node_158 (ty_c hS (by decide) rfl) (ix_n (by omega) (by omega)) r2 ?_
          refine q_iload_n dX9_node_159 rfl rfl ?_
          refine q_icmp_ne1 (tgt := 167) dX9_node_160 (by decide) (by omega) (by decide) ?_
          refine q_iconst (v := nI 0) dX9_node_167 rfl ?_
          refine q_iaddN dX9_node_168 ?_
          refine q_istore dX9_node_169 (by decide) (ls' := [(5, .int (nI ((cntL q m a) + 0))), (0, .ref 58), (1, .int (nI i)), (2, .int (nI m)), (3, .int w), (4, .int x), (6, .int (nI (240 * i + a)))]) rfl ?_
          refine q_iincN (c := 1) dX9_node_171 rfl (by decide) rfl (ls' := [(6, .int (nI (240 * i + a + 1))), (5, .int (nI ((cntL q m a) + 0))), (0, .ref 58), (1, .int (nI i)), (2, .int (nI m)), (3, .int w), (4, .int x)]) rfl ?_
          refine q_goto (tgt := 122) dX9_node_174 (by decide) ?_
          refine q_pk [2, 3, 4, 5, 6, 1, 0] (ls' := [(0, .ref 58), (1, .int (nI i)), (2, .int (nI m)), (3, .int w), (4, .int x), (5, .int (nI ((cntL q m a) + 0))), (6, .int (nI (240 * i + a + 1)))]) rfl ?_
          first | exact nx _ (if_pos (yes _ _ l0 l1 (Or.inl (by rw [c149])))).symm | exact nx _ (if_pos (yes _ _ l0 l1 (Or.inr (by rw [c160])))).symm | exact nx _ (if_neg (no _ _ l0 l1 (fun z => z.elim (fun y => c149 (Option.some.inj y)) (fun y => c160 (Option.some.inj y))))).symm | exact nx _ (if_neg (no _ _ l0 l1 (fun z => z.elim (fun y => by cases y) (fun y => c160 (Option.some.inj y))))).symm | exact nx _ (if_neg (no _ _ l0 l1 (fun z => z.elim (fun y => c149 (Option.some.inj y)) (fun y => by cases y)))).symm | exact nx _ (if_neg (no _ _ l0 l1 (fun z => z.elim (fun y => by cases y) (fun y => by cases y)))).symm
      | some v1 =>
        rw [l1] at r2
        have b1 := k1 v1 l1
        refine q_iload dX9_node_122 rfl ?_
        refine q_sipush (v := nI 240) dX9_node_124 rfl ?_
        refine q_iload_n dX9_node_127 rfl rfl ?_
        refine q_imulN dX9_node_128 ?_
        refine q_aload_n dX9_node_129 rfl rfl rfl ?_
        refine q_getr (r := 62) dX9_node_130 fX9_43 rfl (ty_c hS (by decide) rfl) (hS.2 58 10 62 rfl) ?_
        refine q_iload_n dX9_node_133 rfl rfl ?_
        refine q_iald (x := nI (NN q)) (j := i) dX9_node_134 (ty_c hS (by decide) rfl) (ix_n (by omega) (by omega)) r62 ?_
        refine q_iaddN dX9_node_135 ?_
        refine q_icmp_geN (tgt := 177) dX9_node_136 (by decide) (by omega) (by omega) (fun c136 => ?_) (fun c136 => ?_)
        · exact absurd c136 (by omega)
        · skip
          refine q_iload dX9_node_139 rfl ?_
          refine q_aload_n dX9_node_141 rfl rfl rfl ?_
          refine q_getr (r := 71) dX9_node_142 fX9_70 rfl (ty_c hS (by decide) rfl) (hS.2 58 19 71 rfl) ?_
          refine q_iload dX9_node_145 rfl ?_
          refine q_iald (x := (-1)) (j := (240 * i + a)) dX9_node_147 (ty_c hS (by decide) rfl) (ix_n (by omega) (by omega)) r1 ?_
          refine q_iload_n dX9_node_148 rfl rfl ?_
          refine q_icmp_eq1 (tgt := 163) dX9_node_149 (by decide) (by omega) (by decide) ?_
          refine q_aload_n dX9_node_152 rfl rfl rfl ?_
          refine q_getr (r := 72) dX9_node_153 fX9_73 rfl (ty_c hS (by decide) rfl) (hS.2 58 20 72 rfl) ?_
          refine q_iload dX9_node_156 rfl ?_
          refine q_iald (x := nI v1) (j := (240 * i + a)) dX9_node_158 (ty_c hS (by decide) rfl) (ix_n (by omega) (by omega)) r2 ?_
          refine q_iload_n dX9_node_159 rfl rfl ?_
          refine q_icmp_neN (tgt := 167) dX9_node_160 (by decide) (by omega) (by omega) (fun c160 => ?_) (fun c160 => ?_)
          · skip
            refine q_iconst (v := nI 0) dX9_node_167 rfl ?_
            refine q_iaddN dX9_node_168 ?_
            refine q_istore dX9_node_169 (by decide) (ls' := [(5, .int (nI ((cntL q m a) + 0))), (0, .ref 58), (1, .int (nI i)), (2, .int (nI m)), (3, .int w), (4, .int x), (6, .int (nI (240 * i + a)))]) rfl ?_
            refine q_iincN (c := 1) dX9_node_171 rfl (by decide) rfl (ls' := [(6, .int (nI (240 * i + a + 1))), (5, .int (nI ((cntL q m a) + 0))), (0, .ref 58), (1, .int (nI i)), (2, .int (nI m)), (3, .int w), (4, .int x)]) rfl ?_
            refine q_goto (tgt := 122) dX9_node_174 (by decide) ?_
            refine q_pk [2, 3, 4, 5, 6, 1, 0] (ls' := [(0, .ref 58), (1, .int (nI i)), (2, .int (nI m)), (3, .int w), (4, .int x), (5, .int (nI ((cntL q m a) + 0))), (6, .int (nI (240 * i + a + 1)))]) rfl ?_
            first | exact nx _ (if_pos (yes _ _ l0 l1 (Or.inl (by rw [c149])))).symm | exact nx _ (if_pos (yes _ _ l0 l1 (Or.inr (by rw [c160])))).symm | exact nx _ (if_neg (no _ _ l0 l1 (fun z => z.elim (fun y => c149 (Option.some.inj y)) (fun y => c160 (Option.some.inj y))))).symm | exact nx _ (if_neg (no _ _ l0 l1 (fun z => z.elim (fun y => by cases y) (fun y => c160 (Option.some.inj y))))).symm | exact nx _ (if_neg (no _ _ l0 l1 (fun z => z.elim (fun y => c149 (Option.some.inj y)) (fun y => by cases y)))).symm | exact nx _ (if_neg (no _ _ l0 l1 (fun z => z.elim (fun y => by cases y) (fun y => by cases y)))).symm
          · skip
            refine q_iconst (v := nI 1) dX9_node_163 rfl ?_
            refine q_goto (tgt := 168) dX9_node_164 (by decide) ?_
            refine q_iaddN dX9_node_168 ?_
            refine q_istore dX9_node_169 (by decide) (ls' := [(5, .int (nI ((cntL q m a) + 1))), (0, .ref 58), (1, .int (nI i)), (2, .int (nI m)), (3, .int w), (4, .int x), (6, .int (nI (240 * i + a)))]) rfl ?_
            refine q_iincN (c := 1) dX9_node_171 rfl (by decide) rfl (ls' := [(6, .int (nI (240 * i + a + 1))), (5, .int (nI ((cntL q m a) + 1))), (0, .ref 58), (1, .int (nI i)), (2, .int (nI m)), (3, .int w), (4, .int x)]) rfl ?_
            refine q_goto (tgt := 122) dX9_node_174 (by decide) ?_
            refine q_pk [2, 3, 4, 5, 6, 1, 0] (ls' := [(0, .ref 58), (1, .int (nI i)), (2, .int (nI m)), (3, .int w), (4, .int x), (5, .int (nI ((cntL q m a) + 1))), (6, .int (nI (240 * i + a + 1)))]) rfl ?_
            first | exact nx _ (if_pos (yes _ _ l0 l1 (Or.inl (by rw [c149])))).symm | exact nx _ (if_pos (yes _ _ l0 l1 (Or.inr (by rw [c160])))).symm | exact nx _ (if_neg (no _ _ l0 l1 (fun z => z.elim (fun y => c149 (Option.some.inj y)) (fun y => c160 (Option.some.inj y))))).symm | exact nx _ (if_neg (no _ _ l0 l1 (fun z => z.elim (fun y => by cases y) (fun y => c160 (Option.some.inj y))))).symm | exact nx _ (if_neg (no _ _ l0 l1 (fun z => z.elim (fun y => c149 (Option.some.inj y)) (fun y => by cases y)))).symm | exact nx _ (if_neg (no _ _ l0 l1 (fun z => z.elim (fun y => by cases y) (fun y => by cases y)))).symm
    | some v0 =>
      rw [l0] at r1
      have b0 := k0 v0 l0
      cases l1 : ld q 1 a with
      | none =>
        rw [l1] at r2
        refine q_iload dX9_node_122 rfl ?_
        refine q_sipush (v := nI 240) dX9_node_124 rfl ?_
        refine q_iload_n dX9_node_127 rfl rfl ?_
        refine q_imulN dX9_node_128 ?_
        refine q_aload_n dX9_node_129 rfl rfl rfl ?_
        refine q_getr (r := 62) dX9_node_130 fX9_43 rfl (ty_c hS (by decide) rfl) (hS.2 58 10 62 rfl) ?_
        refine q_iload_n dX9_node_133 rfl rfl ?_
        refine q_iald (x := nI (NN q)) (j := i) dX9_node_134 (ty_c hS (by decide) rfl) (ix_n (by omega) (by omega)) r62 ?_
        refine q_iaddN dX9_node_135 ?_
        refine q_icmp_geN (tgt := 177) dX9_node_136 (by decide) (by omega) (by omega) (fun c136 => ?_) (fun c136 => ?_)
        · exact absurd c136 (by omega)
        · skip
          refine q_iload dX9_node_139 rfl ?_
          refine q_aload_n dX9_node_141 rfl rfl rfl ?_
          refine q_getr (r := 71) dX9_node_142 fX9_70 rfl (ty_c hS (by decide) rfl) (hS.2 58 19 71 rfl) ?_
          refine q_iload dX9_node_145 rfl ?_
          refine q_iald (x := nI v0) (j := (240 * i + a)) dX9_node_147 (ty_c hS (by decide) rfl) (ix_n (by omega) (by omega)) r1 ?_
          refine q_iload_n dX9_node_148 rfl rfl ?_
          refine q_icmp_eqN (tgt := 163) dX9_node_149 (by decide) (by omega) (by omega) (fun c149 => ?_) (fun c149 => ?_)
          · skip
            refine q_iconst (v := nI 1) dX9_node_163 rfl ?_
            refine q_goto (tgt := 168) dX9_node_164 (by decide) ?_
            refine q_iaddN dX9_node_168 ?_
            refine q_istore dX9_node_169 (by decide) (ls' := [(5, .int (nI ((cntL q m a) + 1))), (0, .ref 58), (1, .int (nI i)), (2, .int (nI m)), (3, .int w), (4, .int x), (6, .int (nI (240 * i + a)))]) rfl ?_
            refine q_iincN (c := 1) dX9_node_171 rfl (by decide) rfl (ls' := [(6, .int (nI (240 * i + a + 1))), (5, .int (nI ((cntL q m a) + 1))), (0, .ref 58), (1, .int (nI i)), (2, .int (nI m)), (3, .int w), (4, .int x)]) rfl ?_
            refine q_goto (tgt := 122) dX9_node_174 (by decide) ?_
            refine q_pk [2, 3, 4, 5, 6, 1, 0] (ls' := [(0, .ref 58), (1, .int (nI i)), (2, .int (nI m)), (3, .int w), (4, .int x), (5, .int (nI ((cntL q m a) + 1))), (6, .int (nI (240 * i + a + 1)))]) rfl ?_
            first | exact nx _ (if_pos (yes _ _ l0 l1 (Or.inl (by rw [c149])))).symm | exact nx _ (if_pos (yes _ _ l0 l1 (Or.inr (by rw [c160])))).symm | exact nx _ (if_neg (no _ _ l0 l1 (fun z => z.elim (fun y => c149 (Option.some.inj y)) (fun y => c160 (Option.some.inj y))))).symm | exact nx _ (if_neg (no _ _ l0 l1 (fun z => z.elim (fun y => by cases y) (fun y => c160 (Option.some.inj y))))).symm | exact nx _ (if_neg (no _ _ l0 l1 (fun z => z.elim (fun y => c149 (Option.some.inj y)) (fun y => by cases y)))).symm | exact nx _ (if_neg (no _ _ l0 l1 (fun z => z.elim (fun y => by cases y) (fun y => by cases y)))).symm
          · skip
            refine q_aload_n dX9_node_152 rfl rfl rfl ?_
            refine q_getr (r := 72) dX9_node_153 fX9_73 rfl (ty_c hS (by decide) rfl) (hS.2 58 20 72 rfl) ?_
            refine q_iload dX9_node_156 rfl ?_
            refine q_iald (x := (-1)) (j := (240 * i + a)) dX9_node_158 (ty_c hS (by decide) rfl) (ix_n (by omega) (by omega)) r2 ?_
            refine q_iload_n dX9_node_159 rfl rfl ?_
            refine q_icmp_ne1 (tgt := 167) dX9_node_160 (by decide) (by omega) (by decide) ?_
            refine q_iconst (v := nI 0) dX9_node_167 rfl ?_
            refine q_iaddN dX9_node_168 ?_
            refine q_istore dX9_node_169 (by decide) (ls' := [(5, .int (nI ((cntL q m a) + 0))), (0, .ref 58), (1, .int (nI i)), (2, .int (nI m)), (3, .int w), (4, .int x), (6, .int (nI (240 * i + a)))]) rfl ?_
            refine q_iincN (c := 1) dX9_node_171 rfl (by decide) rfl (ls' := [(6, .int (nI (240 * i + a + 1))), (5, .int (nI ((cntL q m a) + 0))), (0, .ref 58), (1, .int (nI i)), (2, .int (nI m)), (3, .int w), (4, .int x)]) rfl ?_
            refine q_goto (tgt := 122) dX9_node_174 (by decide) ?_
            refine q_pk [2, 3, 4, 5, 6, 1, 0] (ls' := [(0, .ref 58), (1, .int (nI i)), (2, .int (nI m)), (3, .int w), (4, .int x), (5, .int (nI ((cntL q m a) + 0))), (6, .int (nI (240 * i + a + 1)))]) rfl ?_
            first | exact nx _ (if_pos (yes _ _ l0 l1 (Or.inl (by rw [c149])))).symm | exact nx _ (if_pos (yes _ _ l0 l1 (Or.inr (by rw [c160])))).symm | exact nx _ (if_neg (no _ _ l0 l1 (fun z => z.elim (fun y => c149 (Option.some.inj y)) (fun y => c160 (Option.some.inj y))))).symm | exact nx _ (if_neg (no _ _ l0 l1 (fun z => z.elim (fun y => by cases y) (fun y => c160 (Option.some.inj y))))).symm | exact nx _ (if_neg (no _ _ l0 l1 (fun z => z.elim (fun y => c149 (Option.some.inj y)) (fun y => by cases y)))).symm | exact nx _ (if_neg (no _ _ l0 l1 (fun z => z.elim (fun y => by cases y) (fun y => by cases y)))).symm
      | some v1 =>
        rw [l1] at r2
        have b1 := k1 v1 l1
        refine q_iload dX9_node_122 rfl ?_
        refine q_sipush (v := nI 240) dX9_node_124 rfl ?_
        refine q_iload_n dX9_node_127 rfl rfl ?_
        refine q_imulN dX9_node_128 ?_
        refine q_aload_n dX9_node_129 rfl rfl rfl ?_
        refine q_getr (r := 62) dX9_node_130 fX9_43 rfl (ty_c hS (by decide) rfl) (hS.2 58 10 62 rfl) ?_
        refine q_iload_n dX9_node_133 rfl rfl ?_
        refine q_iald (x := nI (NN q)) (j := i) dX9_node_134 (ty_c hS (by decide) rfl) (ix_n (by omega) (by omega)) r62 ?_
        refine q_iaddN dX9_node_135 ?_
        refine q_icmp_geN (tgt := 177) dX9_node_136 (by decide) (by omega) (by omega) (fun c136 => ?_) (fun c136 => ?_)
        · exact absurd c136 (by omega)
        · skip
          refine q_iload dX9_node_139 rfl ?_
          refine q_aload_n dX9_node_141 rfl rfl rfl ?_
          refine q_getr (r := 71) dX9_node_142 fX9_70 rfl (ty_c hS (by decide) rfl) (hS.2 58 19 71 rfl) ?_
          refine q_iload dX9_node_145 rfl ?_
          refine q_iald (x := nI v0) (j := (240 * i + a)) dX9_node_147 (ty_c hS (by decide) rfl) (ix_n (by omega) (by omega)) r1 ?_
          refine q_iload_n dX9_node_148 rfl rfl ?_
          refine q_icmp_eqN (tgt := 163) dX9_node_149 (by decide) (by omega) (by omega) (fun c149 => ?_) (fun c149 => ?_)
          · skip
            refine q_iconst (v := nI 1) dX9_node_163 rfl ?_
            refine q_goto (tgt := 168) dX9_node_164 (by decide) ?_
            refine q_iaddN dX9_node_168 ?_
            refine q_istore dX9_node_169 (by decide) (ls' := [(5, .int (nI ((cntL q m a) + 1))), (0, .ref 58), (1, .int (nI i)), (2, .int (nI m)), (3, .int w), (4, .int x), (6, .int (nI (240 * i + a)))]) rfl ?_
            refine q_iincN (c := 1) dX9_node_171 rfl (by decide) rfl (ls' := [(6, .int (nI (240 * i + a + 1))), (5, .int (nI ((cntL q m a) + 1))), (0, .ref 58), (1, .int (nI i)), (2, .int (nI m)), (3, .int w), (4, .int x)]) rfl ?_
            refine q_goto (tgt := 122) dX9_node_174 (by decide) ?_
            refine q_pk [2, 3, 4, 5, 6, 1, 0] (ls' := [(0, .ref 58), (1, .int (nI i)), (2, .int (nI m)), (3, .int w), (4, .int x), (5, .int (nI ((cntL q m a) + 1))), (6, .int (nI (240 * i + a + 1)))]) rfl ?_
            first | exact nx _ (if_pos (yes _ _ l0 l1 (Or.inl (by rw [c149])))).symm | exact nx _ (if_pos (yes _ _ l0 l1 (Or.inr (by rw [c160])))).symm | exact nx _ (if_neg (no _ _ l0 l1 (fun z => z.elim (fun y => c149 (Option.some.inj y)) (fun y => c160 (Option.some.inj y))))).symm | exact nx _ (if_neg (no _ _ l0 l1 (fun z => z.elim (fun y => by cases y) (fun y => c160 (Option.some.inj y))))).symm | exact nx _ (if_neg (no _ _ l0 l1 (fun z => z.elim (fun y => c149 (Option.some.inj y)) (fun y => by cases y)))).symm | exact nx _ (if_neg (no _ _ l0 l1 (fun z => z.elim (fun y => by cases y) (fun y => by cases y)))).symm
          · skip
            refine q_aload_n dX9_node_152 rfl rfl rfl ?_
            refine q_getr (r := 72) dX9_node_153 fX9_73 rfl (ty_c hS (by decide) rfl) (hS.2 58 20 72 rfl) ?_
            refine q_iload dX9_node_156 rfl ?_
            refine q_iald (x := nI v1) (j := (240 * i + a)) dX9_node_158 (ty_c hS (by decide) rfl) (ix_n (by omega) (by omega)) r2 ?_
            refine q_iload_n dX9_node_159 rfl rfl ?_
            refine q_icmp_neN (tgt := 167) dX9_node_160 (by decide) (by omega) (by omega) (fun c160 => ?_) (fun c160 => ?_)
            · skip
              refine q_iconst (v := nI 0) dX9_node_167 rfl ?_
              refine q_iaddN dX9_node_168 ?_
              refine q_istore dX9_node_169 (by decide) (ls' := [(5, .int (nI ((cntL q m a) + 0))), (0, .ref 58), (1, .int (nI i)), (2, .int (nI m)), (3, .int w), (4, .int x), (6, .int (nI (240 * i + a)))]) rfl ?_
              refine q_iincN (c := 1) dX9_node_171 rfl (by decide) rfl (ls' := [(6, .int (nI (240 * i + a + 1))), (5, .int (nI ((cntL q m a) + 0))), (0, .ref 58), (1, .int (nI i)), (2, .int (nI m)), (3, .int w), (4, .int x)]) rfl ?_
              refine q_goto (tgt := 122) dX9_node_174 (by decide) ?_
              refine q_pk [2, 3, 4, 5, 6, 1, 0] (ls' := [(0, .ref 58), (1, .int (nI i)), (2, .int (nI m)), (3, .int w), (4, .int x), (5, .int (nI ((cntL q m a) + 0))), (6, .int (nI (240 * i + a + 1)))]) rfl ?_
              first | exact nx _ (if_pos (yes _ _ l0 l1 (Or.inl (by rw [c149])))).symm | exact nx _ (if_pos (yes _ _ l0 l1 (Or.inr (by rw [c160])))).symm | exact nx _ (if_neg (no _ _ l0 l1 (fun z => z.elim (fun y => c149 (Option.some.inj y)) (fun y => c160 (Option.some.inj y))))).symm | exact nx _ (if_neg (no _ _ l0 l1 (fun z => z.elim (fun y => by cases y) (fun y => c160 (Option.some.inj y))))).symm | exact nx _ (if_neg (no _ _ l0 l1 (fun z => z.elim (fun y => c149 (Option.some.inj y)) (fun y => by cases y)))).symm | exact nx _ (if_neg (no _ _ l0 l1 (fun z => z.elim (fun y => by cases y) (fun y => by cases y)))).symm
            · skip
              refine q_iconst (v := nI 1) dX9_node_163 rfl ?_
              refine q_goto (tgt := 168) dX9_node_164 (by decide) ?_
              refine q_iaddN dX9_node_168 ?_
              refine q_istore dX9_node_169 (by decide) (ls' := [(5, .int (nI ((cntL q m a) + 1))), (0, .ref 58), (1, .int (nI i)), (2, .int (nI m)), (3, .int w), (4, .int x), (6, .int (nI (240 * i + a)))]) rfl ?_
              refine q_iincN (c := 1) dX9_node_171 rfl (by decide) rfl (ls' := [(6, .int (nI (240 * i + a + 1))), (5, .int (nI ((cntL q m a) + 1))), (0, .ref 58), (1, .int (nI i)), (2, .int (nI m)), (3, .int w), (4, .int x)]) rfl ?_
              refine q_goto (tgt := 122) dX9_node_174 (by decide) ?_
              refine q_pk [2, 3, 4, 5, 6, 1, 0] (ls' := [(0, .ref 58), (1, .int (nI i)), (2, .int (nI m)), (3, .int w), (4, .int x), (5, .int (nI ((cntL q m a) + 1))), (6, .int (nI (240 * i + a + 1)))]) rfl ?_
              first | exact nx _ (if_pos (yes _ _ l0 l1 (Or.inl (by rw [c149])))).symm | exact nx _ (if_pos (yes _ _ l0 l1 (Or.inr (by rw [c160])))).symm | exact nx _ (if_neg (no _ _ l0 l1 (fun z => z.elim (fun y => c149 (Option.some.inj y)) (fun y => c160 (Option.some.inj y))))).symm | exact nx _ (if_neg (no _ _ l0 l1 (fun z => z.elim (fun y => by cases y) (fun y => c160 (Option.some.inj y))))).symm | exact nx _ (if_neg (no _ _ l0 l1 (fun z => z.elim (fun y => c149 (Option.some.inj y)) (fun y => by cases y)))).symm | exact nx _ (if_neg (no _ _ l0 l1 (fun z => z.elim (fun y => by cases y) (fun y => by cases y)))).symm

theorem y9_sum123 (hS : SK σ) {i : Nat} (hi : i < 4) (hr : MR σ i q) (hk : MOK q) {m : Nat} (hm : m < 32) {w x : Int32} : ∀ (k a : Nat), a + k = NN q → WA g mX9_sum 2 0 0 (ZM g (PQ σ (.int (nI (cnt (wk q m) (NN q))))) 0 0) 0 0 123 [(0, .ref 58), (1, .int (nI i)), (2, .int (nI m)), (3, .int w), (4, .int x), (5, .int (nI (cnt (wk q m) a))), (6, .int (nI a))] [] σ := by
  obtain ⟨hc, hw, hB, hx, h0⟩ := hk
  have hN := NN_le hc
  have r62 := hr.1.2.1
  intro k
  induction k with
  | zero =>
    intro a ha
    have ea : a = NN q := by omega
    rw [ea]
    refine q_iload dX9_sum_123 rfl ?_
    refine q_aload_n dX9_sum_125 rfl rfl rfl ?_
    refine q_getr (r := 62) dX9_sum_126 fX9_43 rfl (ty_c hS (by decide) rfl) (hS.2 58 10 62 rfl) ?_
    refine q_iload_n dX9_sum_129 rfl rfl ?_
    refine q_iald (x := nI (NN q)) (j := i) dX9_sum_130 (ty_c hS (by decide) rfl) (ix_n (by omega) (by omega)) r62 ?_
    refine q_icmp_geN (tgt := 167) dX9_sum_131 (by decide) (by omega) (by omega) (fun c131 => ?_) (fun c131 => ?_)
    · skip
      refine q_iload dX9_sum_167 rfl ?_
      refine q_ireturn dX9_sum_169 rfl rfl (by omega) (by omega) ?_
      exact ⟨rfl, rfl⟩
    · exact absurd c131 (by omega)
  | succ k ih =>
    intro a ha
    have haN : a < NN q := by omega
    have r70 : sI σ 70 (240 * i + a) = rS (rg q a) := (hr.1.2.2.2.2.2.1 a haN).1.2.2.2.1
    have hcl := cnt_le (wk q m) a
    have I := ih (a + 1) (by omega)
    have e1 : wk q m a = true → cnt (wk q m) (a + 1) = cnt (wk q m) a + 1 := fun z => by show cnt (wk q m) a + _ = _; rw [z]; rfl
    have e0 : wk q m a = false → cnt (wk q m) (a + 1) = cnt (wk q m) a + 0 := fun z => by show cnt (wk q m) a + _ = _; rw [z]; rfl
    refine q_iload dX9_sum_123 rfl ?_
    refine q_aload_n dX9_sum_125 rfl rfl rfl ?_
    refine q_getr (r := 62) dX9_sum_126 fX9_43 rfl (ty_c hS (by decide) rfl) (hS.2 58 10 62 rfl) ?_
    refine q_iload_n dX9_sum_129 rfl rfl ?_
    refine q_iald (x := nI (NN q)) (j := i) dX9_sum_130 (ty_c hS (by decide) rfl) (ix_n (by omega) (by omega)) r62 ?_
    refine q_icmp_geN (tgt := 167) dX9_sum_131 (by decide) (by omega) (by omega) (fun c131 => ?_) (fun c131 => ?_)
    · exact absurd c131 (by omega)
    · skip
      refine q_iload dX9_sum_134 rfl ?_
      refine q_aload_n dX9_sum_136 rfl rfl rfl ?_
      refine q_getr (r := 70) dX9_sum_137 fX9_67 rfl (ty_c hS (by decide) rfl) (hS.2 58 18 70 rfl) ?_
      refine q_sipush (v := nI 240) dX9_sum_140 rfl ?_
      refine q_iload_n dX9_sum_143 rfl rfl ?_
      refine q_imulN dX9_sum_144 ?_
      refine q_iload dX9_sum_145 rfl ?_
      refine q_iaddN dX9_sum_147 ?_
      refine q_iald (x := rS (rg q a)) (j := ((240 * i) + a)) dX9_sum_148 (ty_c hS (by decide) rfl) (ix_n (by omega) (by omega)) r70 ?_
      refine q_iload_n dX9_sum_149 rfl rfl ?_
      refine q_icmp_ne (tgt := 157) dX9_sum_150 (by decide) (fun c150 => ?_) (fun c150 => ?_)
      · rw [e0 (decide_eq_false c150)] at I
        refine q_iconst (v := nI 0) dX9_sum_157 rfl ?_
        refine q_iaddN dX9_sum_158 ?_
        refine q_istore dX9_sum_159 (by decide) (ls' := [(5, .int (nI ((cnt (wk q m) a) + 0))), (0, .ref 58), (1, .int (nI i)), (2, .int (nI m)), (3, .int w), (4, .int x), (6, .int (nI a))]) rfl ?_
        refine q_iincN (c := 1) dX9_sum_161 rfl (by decide) rfl (ls' := [(6, .int (nI (a + 1))), (5, .int (nI ((cnt (wk q m) a) + 0))), (0, .ref 58), (1, .int (nI i)), (2, .int (nI m)), (3, .int w), (4, .int x)]) rfl ?_
        refine q_goto (tgt := 123) dX9_sum_164 (by decide) ?_
        refine q_pk [2, 3, 4, 5, 6, 1, 0] (ls' := [(0, .ref 58), (1, .int (nI i)), (2, .int (nI m)), (3, .int w), (4, .int x), (5, .int (nI ((cnt (wk q m) a) + 0))), (6, .int (nI (a + 1)))]) rfl ?_
        exact I
      · rw [e1 (decide_eq_true c150)] at I
        refine q_iconst (v := nI 1) dX9_sum_153 rfl ?_
        refine q_goto (tgt := 158) dX9_sum_154 (by decide) ?_
        refine q_iaddN dX9_sum_158 ?_
        refine q_istore dX9_sum_159 (by decide) (ls' := [(5, .int (nI ((cnt (wk q m) a) + 1))), (0, .ref 58), (1, .int (nI i)), (2, .int (nI m)), (3, .int w), (4, .int x), (6, .int (nI a))]) rfl ?_
        refine q_iincN (c := 1) dX9_sum_161 rfl (by decide) rfl (ls' := [(6, .int (nI (a + 1))), (5, .int (nI ((cnt (wk q m) a) + 1))), (0, .ref 58), (1, .int (nI i)), (2, .int (nI m)), (3, .int w), (4, .int x)]) rfl ?_
        refine q_goto (tgt := 123) dX9_sum_164 (by decide) ?_
        refine q_pk [2, 3, 4, 5, 6, 1, 0] (ls' := [(0, .ref 58), (1, .int (nI i)), (2, .int (nI m)), (3, .int w), (4, .int x), (5, .int (nI ((cnt (wk q m) a) + 1))), (6, .int (nI (a + 1)))]) rfl ?_
        exact I
theorem z9_about1 (hS : SK σ) (h : MA σ p (some q)) {w : Int32} : CT g mX9_about 1 0 0 [.ref 58, .int p, .int w] σ (PQ σ (.int (abF q w))) := by
  obtain ⟨i, hi, rfl, h0, hr, hk⟩ := h
  obtain ⟨hc, hw, hB, hx, hF⟩ := id hk
  have hN := NN_le hc
  have h32 := hw.2.2.2.1
  obtain ⟨r61, r62, r63, r64, -, hnd, hsm⟩ := id hr.1
  have hNS : (psS q).length ≤ NN q := by unfold NN; omega
  refine CT.of (by decide) (Nat.le_of_ble_eq_true rfl) ?_
  refine q_aload_n dX9_about_0 rfl rfl rfl ?_
  refine q_iload_n dX9_about_1 rfl rfl ?_
  refine q_callV (As := [.int (nI i)]) (rest := []) dX9_about_2 vX9_373 (ty_c hS (by decide) rfl) ⟨by decide, rfl⟩ (z9_isThere1 hS hi h0) rfl rfl (Nat.le_of_ble_eq_true rfl) (by omega) (by omega) (by omega) (k_p ?_)
  refine q_if_neB (tgt := 10) dX9_about_5 (by decide) (fun _ => ?_) (fun h => absurd h (by decide))
  refine q_iload_n dX9_about_10 rfl rfl ?_
  by_cases w11_0 : w = nI 0
  · refine q_tableEq 0 (tgt := 44) (off := 33) dX9_about_11 w11_0 (by decide) rfl (by decide) ?_
    refine q_aload_n dX9_about_44 rfl rfl rfl ?_
    refine q_getr (r := 61) dX9_about_45 fX9_40 rfl (ty_c hS (by decide) rfl) (hS.2 58 9 61 rfl) ?_
    refine q_iload_n dX9_about_48 rfl rfl ?_
    refine q_iald (x := nI ((psF q).length)) (j := i) dX9_about_49 (ty_c hS (by decide) rfl) (ix_n (by omega) (by omega)) r61 ?_
    refine q_ireturn dX9_about_50 rfl rfl (by omega) (by omega) ?_
    unfold abF
    first | (rw [if_pos w11_0]; exact ⟨rfl, rfl⟩) | (rw [if_neg w11_0, if_pos w11_1]; exact ⟨rfl, rfl⟩) | (rw [if_neg w11_0, if_neg w11_1, if_pos w11_2]; exact ⟨rfl, rfl⟩) | (rw [if_neg w11_0, if_neg w11_1, if_neg w11_2, if_pos w11_3]; exact ⟨rfl, rfl⟩) | (rw [if_neg w11_0, if_neg w11_1, if_neg w11_2, if_neg w11_3, if_pos w11_4]; exact ⟨rfl, rfl⟩) | (rw [if_neg w11_0, if_neg w11_1, if_neg w11_2, if_neg w11_3, if_neg w11_4]; exact ⟨rfl, rfl⟩)
  by_cases w11_1 : w = nI 1
  · refine q_tableEq 1 (tgt := 51) (off := 40) dX9_about_11 w11_1 (by decide) rfl (by decide) ?_
    refine q_aload_n dX9_about_51 rfl rfl rfl ?_
    refine q_getr (r := 62) dX9_about_52 fX9_43 rfl (ty_c hS (by decide) rfl) (hS.2 58 10 62 rfl) ?_
    refine q_iload_n dX9_about_55 rfl rfl ?_
    refine q_iald (x := nI (NN q)) (j := i) dX9_about_56 (ty_c hS (by decide) rfl) (ix_n (by omega) (by omega)) r62 ?_
    refine q_ireturn dX9_about_57 rfl rfl (by omega) (by omega) ?_
    unfold abF
    first | (rw [if_pos w11_0]; exact ⟨rfl, rfl⟩) | (rw [if_neg w11_0, if_pos w11_1]; exact ⟨rfl, rfl⟩) | (rw [if_neg w11_0, if_neg w11_1, if_pos w11_2]; exact ⟨rfl, rfl⟩) | (rw [if_neg w11_0, if_neg w11_1, if_neg w11_2, if_pos w11_3]; exact ⟨rfl, rfl⟩) | (rw [if_neg w11_0, if_neg w11_1, if_neg w11_2, if_neg w11_3, if_pos w11_4]; exact ⟨rfl, rfl⟩) | (rw [if_neg w11_0, if_neg w11_1, if_neg w11_2, if_neg w11_3, if_neg w11_4]; exact ⟨rfl, rfl⟩)
  by_cases w11_2 : w = nI 2
  · refine q_tableEq 2 (tgt := 58) (off := 47) dX9_about_11 w11_2 (by decide) rfl (by decide) ?_
    refine q_aload_n dX9_about_58 rfl rfl rfl ?_
    refine q_getr (r := 64) dX9_about_59 fX9_49 rfl (ty_c hS (by decide) rfl) (hS.2 58 12 64 rfl) ?_
    refine q_iload_n dX9_about_62 rfl rfl ?_
    refine q_iald (x := nI ((psM q).length)) (j := i) dX9_about_63 (ty_c hS (by decide) rfl) (ix_n (by omega) (by omega)) r64 ?_
    refine q_ireturn dX9_about_64 rfl rfl (by omega) (by omega) ?_
    unfold abF
    first | (rw [if_pos w11_0]; exact ⟨rfl, rfl⟩) | (rw [if_neg w11_0, if_pos w11_1]; exact ⟨rfl, rfl⟩) | (rw [if_neg w11_0, if_neg w11_1, if_pos w11_2]; exact ⟨rfl, rfl⟩) | (rw [if_neg w11_0, if_neg w11_1, if_neg w11_2, if_pos w11_3]; exact ⟨rfl, rfl⟩) | (rw [if_neg w11_0, if_neg w11_1, if_neg w11_2, if_neg w11_3, if_pos w11_4]; exact ⟨rfl, rfl⟩) | (rw [if_neg w11_0, if_neg w11_1, if_neg w11_2, if_neg w11_3, if_neg w11_4]; exact ⟨rfl, rfl⟩)
  by_cases w11_3 : w = nI 3
  · refine q_tableEq 3 (tgt := 65) (off := 54) dX9_about_11 w11_3 (by decide) rfl (by decide) ?_
    refine q_aload_n dX9_about_65 rfl rfl rfl ?_
    refine q_getr (r := 62) dX9_about_66 fX9_43 rfl (ty_c hS (by decide) rfl) (hS.2 58 10 62 rfl) ?_
    refine q_iload_n dX9_about_69 rfl rfl ?_
    refine q_iald (x := nI (NN q)) (j := i) dX9_about_70 (ty_c hS (by decide) rfl) (ix_n (by omega) (by omega)) r62 ?_
    refine q_aload_n dX9_about_71 rfl rfl rfl ?_
    refine q_getr (r := 63) dX9_about_72 fX9_46 rfl (ty_c hS (by decide) rfl) (hS.2 58 11 63 rfl) ?_
    refine q_iload_n dX9_about_75 rfl rfl ?_
    refine q_iald (x := nI ((psS q).length)) (j := i) dX9_about_76 (ty_c hS (by decide) rfl) (ix_n (by omega) (by omega)) r63 ?_
    refine q_isubN dX9_about_77 (by omega) ?_
    refine q_ireturn dX9_about_78 rfl rfl (by omega) (by omega) ?_
    unfold abF
    first | (rw [if_pos w11_0]; exact ⟨rfl, rfl⟩) | (rw [if_neg w11_0, if_pos w11_1]; exact ⟨rfl, rfl⟩) | (rw [if_neg w11_0, if_neg w11_1, if_pos w11_2]; exact ⟨rfl, rfl⟩) | (rw [if_neg w11_0, if_neg w11_1, if_neg w11_2, if_pos w11_3]; exact ⟨rfl, rfl⟩) | (rw [if_neg w11_0, if_neg w11_1, if_neg w11_2, if_neg w11_3, if_pos w11_4]; exact ⟨rfl, rfl⟩) | (rw [if_neg w11_0, if_neg w11_1, if_neg w11_2, if_neg w11_3, if_neg w11_4]; exact ⟨rfl, rfl⟩)
  by_cases w11_4 : w = nI 4
  · refine q_tableEq 4 (tgt := 79) (off := 68) dX9_about_11 w11_4 (by decide) rfl (by decide) ?_
    refine q_aload_n dX9_about_79 rfl rfl rfl ?_
    refine q_getr (r := 63) dX9_about_80 fX9_46 rfl (ty_c hS (by decide) rfl) (hS.2 58 11 63 rfl) ?_
    refine q_iload_n dX9_about_83 rfl rfl ?_
    refine q_iald (x := nI ((psS q).length)) (j := i) dX9_about_84 (ty_c hS (by decide) rfl) (ix_n (by omega) (by omega)) r63 ?_
    refine q_ireturn dX9_about_85 rfl rfl (by omega) (by omega) ?_
    unfold abF
    first | (rw [if_pos w11_0]; exact ⟨rfl, rfl⟩) | (rw [if_neg w11_0, if_pos w11_1]; exact ⟨rfl, rfl⟩) | (rw [if_neg w11_0, if_neg w11_1, if_pos w11_2]; exact ⟨rfl, rfl⟩) | (rw [if_neg w11_0, if_neg w11_1, if_neg w11_2, if_pos w11_3]; exact ⟨rfl, rfl⟩) | (rw [if_neg w11_0, if_neg w11_1, if_neg w11_2, if_neg w11_3, if_pos w11_4]; exact ⟨rfl, rfl⟩) | (rw [if_neg w11_0, if_neg w11_1, if_neg w11_2, if_neg w11_3, if_neg w11_4]; exact ⟨rfl, rfl⟩)
  refine q_tableNe 0 4 (tgt := 86) dX9_about_11 (by decide) (fun v h1 h2 => by rcases (show v = 0 ∨ v = 1 ∨ v = 2 ∨ v = 3 ∨ v = 4 by omega) with rfl | rfl | rfl | rfl | rfl <;> assumption) (by decide) ?_
  refine q_iconst (v := (-1 : Int32)) dX9_about_86 rfl ?_
  refine q_ireturn dX9_about_87 rfl rfl (by omega) (by omega) ?_
  unfold abF
  first | (rw [if_pos w11_0]; exact ⟨rfl, rfl⟩) | (rw [if_neg w11_0, if_pos w11_1]; exact ⟨rfl, rfl⟩) | (rw [if_neg w11_0, if_neg w11_1, if_pos w11_2]; exact ⟨rfl, rfl⟩) | (rw [if_neg w11_0, if_neg w11_1, if_neg w11_2, if_pos w11_3]; exact ⟨rfl, rfl⟩) | (rw [if_neg w11_0, if_neg w11_1, if_neg w11_2, if_neg w11_3, if_pos w11_4]; exact ⟨rfl, rfl⟩) | (rw [if_neg w11_0, if_neg w11_1, if_neg w11_2, if_neg w11_3, if_neg w11_4]; exact ⟨rfl, rfl⟩)
theorem z9_node1 (hS : SK σ) (h : MA σ p (some q)) {n w : Int32} : CT g mX9_node 1 0 0 [.ref 58, .int p, .int n, .int w] σ (PQ σ (.int (if ¬ n < 0 ∧ n < nI (NN q) then ndF q n.toNatClampNeg w else -1))) := by
  obtain ⟨i, hi, rfl, h0, hr, hk⟩ := h
  obtain ⟨hc, hw, hB, hx, hF⟩ := id hk
  have hN := NN_le hc
  have h32 := hw.2.2.2.1
  obtain ⟨r61, r62, r63, r64, -, hnd, hsm⟩ := id hr.1
  have hNS : (psS q).length ≤ NN q := by unfold NN; omega
  by_cases hn : ¬ n < 0 ∧ n < nI (NN q)
  · rw [if_pos hn]
    obtain ⟨m, hm, rfl⟩ := n_in (by omega) hn
    obtain ⟨⟨n1, n2, n3, n4, -⟩, l0, l1⟩ := hnd m hm
    rw [nI_clamp (by omega)]
    have go : ∀ x, WA g mX9_node 1 0 0 (ZM g (PQ σ (.int (nI (cntL q m (NN q))))) 0 0) 0 0 122 [(0, .ref 58), (1, .int (nI i)), (2, .int (nI m)), (3, .int w), (4, .int x), (5, .int (nI 0)), (6, .int (nI (240 * i)))] [] σ := fun x => y9_node122 hS hi hr hk hm (NN q) 0 (by omega)
    refine CT.of (by decide) (Nat.le_of_ble_eq_true rfl) ?_
    refine q_aload_n dX9_node_0 rfl rfl rfl ?_
    refine q_iload_n dX9_node_1 rfl rfl ?_
    refine q_callV (As := [.int (nI i)]) (rest := []) dX9_node_2 vX9_373 (ty_c hS (by decide) rfl) ⟨by decide, rfl⟩ (z9_isThere1 hS hi h0) rfl rfl (Nat.le_of_ble_eq_true rfl) (by omega) (by omega) (by omega) (k_p ?_)
    refine q_if_eqB (tgt := 22) dX9_node_5 (by decide) (fun h => absurd h (by decide)) (fun _ => ?_)
    refine q_iload_n dX9_node_8 rfl rfl ?_
    refine q_if_ltN (tgt := 22) dX9_node_9 (by decide) (by omega) ?_
    refine q_iload_n dX9_node_12 rfl rfl ?_
    refine q_aload_n dX9_node_13 rfl rfl rfl ?_
    refine q_getr (r := 62) dX9_node_14 fX9_43 rfl (ty_c hS (by decide) rfl) (hS.2 58 10 62 rfl) ?_
    refine q_iload_n dX9_node_17 rfl rfl ?_
    refine q_iald (x := nI (NN q)) (j := i) dX9_node_18 (ty_c hS (by decide) rfl) (ix_n (by omega) (by omega)) r62 ?_
    refine q_icmp_ltN (tgt := 24) dX9_node_19 (by decide) (by omega) (by omega) (fun c19 => ?_) (fun c19 => ?_)
    · skip
      refine q_sipush (v := nI 240) dX9_node_24 rfl ?_
      refine q_iload_n dX9_node_27 rfl rfl ?_
      refine q_imulN dX9_node_28 ?_
      refine q_iload_n dX9_node_29 rfl rfl ?_
      refine q_iaddN dX9_node_30 ?_
      refine q_istore dX9_node_31 (by decide) (ls' := [(4, .int (nI ((240 * i) + m))), (0, .ref 58), (1, .int (nI i)), (2, .int (nI m)), (3, .int w)]) rfl ?_
      refine q_iload_n dX9_node_33 rfl rfl ?_
      by_cases w34_0 : w = nI 0
      · refine q_tableEq 0 (tgt := 72) (off := 38) dX9_node_34 w34_0 (by decide) rfl (by decide) ?_
        refine q_aload_n dX9_node_72 rfl rfl rfl ?_
        refine q_getr (r := 67) dX9_node_73 fX9_58 rfl (ty_c hS (by decide) rfl) (hS.2 58 15 67 rfl) ?_
        refine q_iload dX9_node_76 rfl ?_
        refine q_iald (x := nI (rK (rg q m))) (j := ((240 * i) + m)) dX9_node_78 (ty_c hS (by decide) rfl) (ix_n (by omega) (by omega)) n1 ?_
        refine q_ireturn dX9_node_79 rfl rfl (by omega) (by omega) ?_
        unfold ndF
        first | (rw [if_pos w34_0]; exact ⟨rfl, rfl⟩) | (rw [if_neg w34_0, if_pos w34_1]; exact ⟨rfl, rfl⟩) | (rw [if_neg w34_0, if_neg w34_1, if_pos w34_2]; exact ⟨rfl, rfl⟩) | (rw [if_neg w34_0, if_neg w34_1, if_neg w34_2, if_pos w34_3]; exact ⟨rfl, rfl⟩) | (rw [if_neg w34_0, if_neg w34_1, if_neg w34_2, if_neg w34_3, if_pos w34_4]; exact ⟨rfl, rfl⟩) | (rw [if_neg w34_0, if_neg w34_1, if_neg w34_2, if_neg w34_3, if_neg w34_4, if_pos w34_5]; exact ⟨rfl, rfl⟩) | (rw [if_neg w34_0, if_neg w34_1, if_neg w34_2, if_neg w34_3, if_neg w34_4, if_neg w34_5]; exact ⟨rfl, rfl⟩)
      by_cases w34_1 : w = nI 1
      · refine q_tableEq 1 (tgt := 80) (off := 46) dX9_node_34 w34_1 (by decide) rfl (by decide) ?_
        refine q_aload_n dX9_node_80 rfl rfl rfl ?_
        refine q_getr (r := 68) dX9_node_81 fX9_61 rfl (ty_c hS (by decide) rfl) (hS.2 58 16 68 rfl) ?_
        refine q_iload dX9_node_84 rfl ?_
        refine q_iald (x := nI (rB (rg q m))) (j := ((240 * i) + m)) dX9_node_86 (ty_c hS (by decide) rfl) (ix_n (by omega) (by omega)) n2 ?_
        refine q_ireturn dX9_node_87 rfl rfl (by omega) (by omega) ?_
        unfold ndF
        first | (rw [if_pos w34_0]; exact ⟨rfl, rfl⟩) | (rw [if_neg w34_0, if_pos w34_1]; exact ⟨rfl, rfl⟩) | (rw [if_neg w34_0, if_neg w34_1, if_pos w34_2]; exact ⟨rfl, rfl⟩) | (rw [if_neg w34_0, if_neg w34_1, if_neg w34_2, if_pos w34_3]; exact ⟨rfl, rfl⟩) | (rw [if_neg w34_0, if_neg w34_1, if_neg w34_2, if_neg w34_3, if_pos w34_4]; exact ⟨rfl, rfl⟩) | (rw [if_neg w34_0, if_neg w34_1, if_neg w34_2, if_neg w34_3, if_neg w34_4, if_pos w34_5]; exact ⟨rfl, rfl⟩) | (rw [if_neg w34_0, if_neg w34_1, if_neg w34_2, if_neg w34_3, if_neg w34_4, if_neg w34_5]; exact ⟨rfl, rfl⟩)
      by_cases w34_2 : w = nI 2
      · refine q_tableEq 2 (tgt := 88) (off := 54) dX9_node_34 w34_2 (by decide) rfl (by decide) ?_
        refine q_aload_n dX9_node_88 rfl rfl rfl ?_
        refine q_getr (r := 70) dX9_node_89 fX9_67 rfl (ty_c hS (by decide) rfl) (hS.2 58 18 70 rfl) ?_
        refine q_iload dX9_node_92 rfl ?_
        refine q_iald (x := rS (rg q m)) (j := ((240 * i) + m)) dX9_node_94 (ty_c hS (by decide) rfl) (ix_n (by omega) (by omega)) n4 ?_
        refine q_ireturn dX9_node_95 rfl rfl (by omega) (by omega) ?_
        unfold ndF
        first | (rw [if_pos w34_0]; exact ⟨rfl, rfl⟩) | (rw [if_neg w34_0, if_pos w34_1]; exact ⟨rfl, rfl⟩) | (rw [if_neg w34_0, if_neg w34_1, if_pos w34_2]; exact ⟨rfl, rfl⟩) | (rw [if_neg w34_0, if_neg w34_1, if_neg w34_2, if_pos w34_3]; exact ⟨rfl, rfl⟩) | (rw [if_neg w34_0, if_neg w34_1, if_neg w34_2, if_neg w34_3, if_pos w34_4]; exact ⟨rfl, rfl⟩) | (rw [if_neg w34_0, if_neg w34_1, if_neg w34_2, if_neg w34_3, if_neg w34_4, if_pos w34_5]; exact ⟨rfl, rfl⟩) | (rw [if_neg w34_0, if_neg w34_1, if_neg w34_2, if_neg w34_3, if_neg w34_4, if_neg w34_5]; exact ⟨rfl, rfl⟩)
      by_cases w34_3 : w = nI 3
      · refine q_tableEq 3 (tgt := 96) (off := 62) dX9_node_34 w34_3 (by decide) rfl (by decide) ?_
        refine q_aload_n dX9_node_96 rfl rfl rfl ?_
        refine q_getr (r := 71) dX9_node_97 fX9_70 rfl (ty_c hS (by decide) rfl) (hS.2 58 19 71 rfl) ?_
        refine q_iload dX9_node_100 rfl ?_
        refine q_iald (x := oW (ld q 0 m)) (j := ((240 * i) + m)) dX9_node_102 (ty_c hS (by decide) rfl) (ix_n (by omega) (by omega)) l0 ?_
        refine q_ireturn dX9_node_103 rfl rfl (by omega) (by omega) ?_
        unfold ndF
        first | (rw [if_pos w34_0]; exact ⟨rfl, rfl⟩) | (rw [if_neg w34_0, if_pos w34_1]; exact ⟨rfl, rfl⟩) | (rw [if_neg w34_0, if_neg w34_1, if_pos w34_2]; exact ⟨rfl, rfl⟩) | (rw [if_neg w34_0, if_neg w34_1, if_neg w34_2, if_pos w34_3]; exact ⟨rfl, rfl⟩) | (rw [if_neg w34_0, if_neg w34_1, if_neg w34_2, if_neg w34_3, if_pos w34_4]; exact ⟨rfl, rfl⟩) | (rw [if_neg w34_0, if_neg w34_1, if_neg w34_2, if_neg w34_3, if_neg w34_4, if_pos w34_5]; exact ⟨rfl, rfl⟩) | (rw [if_neg w34_0, if_neg w34_1, if_neg w34_2, if_neg w34_3, if_neg w34_4, if_neg w34_5]; exact ⟨rfl, rfl⟩)
      by_cases w34_4 : w = nI 4
      · refine q_tableEq 4 (tgt := 104) (off := 70) dX9_node_34 w34_4 (by decide) rfl (by decide) ?_
        refine q_aload_n dX9_node_104 rfl rfl rfl ?_
        refine q_getr (r := 72) dX9_node_105 fX9_73 rfl (ty_c hS (by decide) rfl) (hS.2 58 20 72 rfl) ?_
        refine q_iload dX9_node_108 rfl ?_
        refine q_iald (x := oW (ld q 1 m)) (j := ((240 * i) + m)) dX9_node_110 (ty_c hS (by decide) rfl) (ix_n (by omega) (by omega)) l1 ?_
        refine q_ireturn dX9_node_111 rfl rfl (by omega) (by omega) ?_
        unfold ndF
        first | (rw [if_pos w34_0]; exact ⟨rfl, rfl⟩) | (rw [if_neg w34_0, if_pos w34_1]; exact ⟨rfl, rfl⟩) | (rw [if_neg w34_0, if_neg w34_1, if_pos w34_2]; exact ⟨rfl, rfl⟩) | (rw [if_neg w34_0, if_neg w34_1, if_neg w34_2, if_pos w34_3]; exact ⟨rfl, rfl⟩) | (rw [if_neg w34_0, if_neg w34_1, if_neg w34_2, if_neg w34_3, if_pos w34_4]; exact ⟨rfl, rfl⟩) | (rw [if_neg w34_0, if_neg w34_1, if_neg w34_2, if_neg w34_3, if_neg w34_4, if_pos w34_5]; exact ⟨rfl, rfl⟩) | (rw [if_neg w34_0, if_neg w34_1, if_neg w34_2, if_neg w34_3, if_neg w34_4, if_neg w34_5]; exact ⟨rfl, rfl⟩)
      by_cases w34_5 : w = nI 5
      · refine q_tableEq 5 (tgt := 112) (off := 78) dX9_node_34 w34_5 (by decide) rfl (by decide) ?_
        refine q_iconst (v := nI 0) dX9_node_112 rfl ?_
        refine q_istore dX9_node_113 (by decide) (ls' := [(5, .int (nI 0)), (4, .int (nI ((240 * i) + m))), (0, .ref 58), (1, .int (nI i)), (2, .int (nI m)), (3, .int w)]) rfl ?_
        refine q_sipush (v := nI 240) dX9_node_115 rfl ?_
        refine q_iload_n dX9_node_118 rfl rfl ?_
        refine q_imulN dX9_node_119 ?_
        refine q_istore dX9_node_120 (by decide) (ls' := [(6, .int (nI (240 * i))), (5, .int (nI 0)), (4, .int (nI ((240 * i) + m))), (0, .ref 58), (1, .int (nI i)), (2, .int (nI m)), (3, .int w)]) rfl ?_
        refine q_pk [3, 4, 5, 6, 2, 1, 0] (ls' := [(0, .ref 58), (1, .int (nI i)), (2, .int (nI m)), (3, .int w), (4, .int (nI ((240 * i) + m))), (5, .int (nI 0)), (6, .int (nI (240 * i)))]) rfl ?_
        unfold ndF
        rw [if_neg w34_0, if_neg w34_1, if_neg w34_2, if_neg w34_3, if_neg w34_4, if_pos w34_5]
        exact go _
      refine q_tableNe 0 5 (tgt := 180) dX9_node_34 (by decide) (fun v h1 h2 => by rcases (show v = 0 ∨ v = 1 ∨ v = 2 ∨ v = 3 ∨ v = 4 ∨ v = 5 by omega) with rfl | rfl | rfl | rfl | rfl | rfl <;> assumption) (by decide) ?_
      refine q_iconst (v := (-1 : Int32)) dX9_node_180 rfl ?_
      refine q_ireturn dX9_node_181 rfl rfl (by omega) (by omega) ?_
      unfold ndF
      first | (rw [if_pos w34_0]; exact ⟨rfl, rfl⟩) | (rw [if_neg w34_0, if_pos w34_1]; exact ⟨rfl, rfl⟩) | (rw [if_neg w34_0, if_neg w34_1, if_pos w34_2]; exact ⟨rfl, rfl⟩) | (rw [if_neg w34_0, if_neg w34_1, if_neg w34_2, if_pos w34_3]; exact ⟨rfl, rfl⟩) | (rw [if_neg w34_0, if_neg w34_1, if_neg w34_2, if_neg w34_3, if_pos w34_4]; exact ⟨rfl, rfl⟩) | (rw [if_neg w34_0, if_neg w34_1, if_neg w34_2, if_neg w34_3, if_neg w34_4, if_pos w34_5]; exact ⟨rfl, rfl⟩) | (rw [if_neg w34_0, if_neg w34_1, if_neg w34_2, if_neg w34_3, if_neg w34_4, if_neg w34_5]; exact ⟨rfl, rfl⟩)
    · exact absurd c19 (by omega)
  · rw [if_neg hn]
    refine CT.of (by decide) (Nat.le_of_ble_eq_true rfl) ?_
    refine q_aload_n dX9_node_0 rfl rfl rfl ?_
    refine q_iload_n dX9_node_1 rfl rfl ?_
    refine q_callV (As := [.int (nI i)]) (rest := []) dX9_node_2 vX9_373 (ty_c hS (by decide) rfl) ⟨by decide, rfl⟩ (z9_isThere1 hS hi h0) rfl rfl (Nat.le_of_ble_eq_true rfl) (by omega) (by omega) (by omega) (k_p ?_)
    refine q_if_eqB (tgt := 22) dX9_node_5 (by decide) (fun h => absurd h (by decide)) (fun _ => ?_)
    refine q_iload_n dX9_node_8 rfl rfl ?_
    refine q_if_lt (tgt := 22) dX9_node_9 (by decide) (fun c9 => ?_) (fun c9 => ?_)
    · skip
      refine q_iconst (v := (-1 : Int32)) dX9_node_22 rfl ?_
      refine q_ireturn dX9_node_23 rfl rfl (by omega) (by omega) ?_
      exact ⟨rfl, rfl⟩
    · skip
      refine q_iload_n dX9_node_12 rfl rfl ?_
      refine q_aload_n dX9_node_13 rfl rfl rfl ?_
      refine q_getr (r := 62) dX9_node_14 fX9_43 rfl (ty_c hS (by decide) rfl) (hS.2 58 10 62 rfl) ?_
      refine q_iload_n dX9_node_17 rfl rfl ?_
      refine q_iald (x := nI (NN q)) (j := i) dX9_node_18 (ty_c hS (by decide) rfl) (ix_n (by omega) (by omega)) r62 ?_
      refine q_icmp_lt (tgt := 24) dX9_node_19 (by decide) (fun c19 => ?_) (fun c19 => ?_)
      · exact absurd ⟨c9, c19⟩ hn
      · skip
        refine q_iconst (v := (-1 : Int32)) dX9_node_22 rfl ?_
        refine q_ireturn dX9_node_23 rfl rfl (by omega) (by omega) ?_
        exact ⟨rfl, rfl⟩
theorem z9_sum0 (hS : SK σ) (h : MA σ p none) {e w : Int32} : CT g mX9_sum 2 0 0 [.ref 58, .int p, .int e, .int w] σ (PQ σ (.int (-1))) := by
  refine CT.of (by decide) (Nat.le_of_ble_eq_true rfl) ?_
  refine q_aload_n dX9_sum_0 rfl rfl rfl ?_
  refine q_iload_n dX9_sum_1 rfl rfl ?_
  refine q_iload_n dX9_sum_2 rfl rfl ?_
  refine q_callV (As := [.int p, .int e]) (rest := []) dX9_sum_3 vX9_376 (ty_c hS (by decide) rfl) ⟨by decide, rfl⟩ (z9_isSum0 hS h) rfl rfl (Nat.le_of_ble_eq_true rfl) (by omega) (by omega) (by omega) (k_p ?_)
  refine q_if_neB (tgt := 11) dX9_sum_6 (by decide) (fun h => absurd h (by decide)) (fun _ => ?_)
  refine q_iconst (v := (-1 : Int32)) dX9_sum_9 rfl ?_
  refine q_ireturn dX9_sum_10 rfl rfl (by omega) (by omega) ?_
  exact ⟨rfl, rfl⟩
theorem z9_sum1 (hS : SK σ) (h : MA σ p (some q)) {e w : Int32} : CT g mX9_sum 2 0 0 [.ref 58, .int p, .int e, .int w] σ (PQ σ (.int (if ¬ e < 0 ∧ e < nI (psM q).length then smF q e.toNatClampNeg w else -1))) := by
  have hAll := h
  obtain ⟨i, hi, rfl, h0, hr, hk⟩ := h
  obtain ⟨hc, hw, hB, hx, hF⟩ := id hk
  have hN := NN_le hc
  have h32 := hw.2.2.2.1
  obtain ⟨r61, r62, r63, r64, -, hnd, hsm⟩ := id hr.1
  have hNS : (psS q).length ≤ NN q := by unfold NN; omega
  by_cases hn : ¬ e < 0 ∧ e < nI (psM q).length
  · rw [if_pos hn]
    obtain ⟨m, hm, rfl⟩ := n_in (by omega) hn
    obtain ⟨s1, s2, s3, s4, s5⟩ := hsm m hm
    have hx2 : SMW (sm q m) := sm_w hw hm
    rw [nI_clamp (by omega)]
    have ha : ¬ sAn (sm q m) < 0 → sAn (sm q m) < nI 48 := fun z => by
      unfold sAn at z ⊢
      rcases hx2 with ⟨h1, h2, h3⟩ | ⟨h1, _, h3⟩
      · rw [if_neg (isO_r h1)] at z ⊢; exact opn_48 h2 z
      · rw [if_pos h1] at z; exact absurd (by decide) z
    have hb : ¬ opn (sm q m).2.2 < 0 → opn (sm q m).2.2 < nI 48 := fun z => by
      rcases hx2 with ⟨_, _, h3⟩ | ⟨_, _, h3⟩ <;> exact opn_48 h3 z
    have go : ∀ x, WA g mX9_sum 2 0 0 (ZM g (PQ σ (.int (nI (cnt (wk q m) (psS q).length)))) 0 0) 0 0 123 [(0, .ref 58), (1, .int (nI i)), (2, .int (nI m)), (3, .int w), (4, .int x), (5, .int (nI 0)), (6, .int (nI 0))] [] σ := fun x => by
      have e1 : cnt (wk q m) (psS q).length = cnt (wk q m) (NN q) := (cnt_wk (by omega) (XL q (psS q).length).length).symm
      rw [e1]
      exact y9_sum123 hS hi hr hk (by omega) (NN q) 0 (by omega)
    refine CT.of (by decide) (Nat.le_of_ble_eq_true rfl) ?_
    refine q_aload_n dX9_sum_0 rfl rfl rfl ?_
    refine q_iload_n dX9_sum_1 rfl rfl ?_
    refine q_iload_n dX9_sum_2 rfl rfl ?_
    refine q_callV (As := [.int (nI i), .int (nI m)]) (rest := []) dX9_sum_3 vX9_376 (ty_c hS (by decide) rfl) ⟨by decide, rfl⟩ (z9_isSumY hS hi h0 hr hk hm) rfl rfl (Nat.le_of_ble_eq_true rfl) (by omega) (by omega) (by omega) (k_p ?_)
    refine q_if_neB (tgt := 11) dX9_sum_6 (by decide) (fun _ => ?_) (fun h => absurd h (by decide))
    refine q_bipush (v := nI 32) dX9_sum_11 rfl ?_
    refine q_iload_n dX9_sum_13 rfl rfl ?_
    refine q_imulN dX9_sum_14 ?_
    refine q_iload_n dX9_sum_15 rfl rfl ?_
    refine q_iaddN dX9_sum_16 ?_
    refine q_istore dX9_sum_17 (by decide) (ls' := [(4, .int (nI ((32 * i) + m))), (0, .ref 58), (1, .int (nI i)), (2, .int (nI m)), (3, .int w)]) rfl ?_
    refine q_iload_n dX9_sum_19 rfl rfl ?_
    by_cases w20_0 : w = nI 0
    · refine q_tableEq 0 (tgt := 56) (off := 36) dX9_sum_20 w20_0 (by decide) rfl (by decide) ?_
      refine q_aload_n dX9_sum_56 rfl rfl rfl ?_
      refine q_getr (r := 78) dX9_sum_57 fX9_91 rfl (ty_c hS (by decide) rfl) (hS.2 58 26 78 rfl) ?_
      refine q_iload dX9_sum_60 rfl ?_
      refine q_iald (x := (sm q m).1) (j := ((32 * i) + m)) dX9_sum_62 (ty_c hS (by decide) rfl) (ix_n (by omega) (by omega)) s1 ?_
      refine q_ireturn dX9_sum_63 rfl rfl (by omega) (by omega) ?_
      unfold smF
      first | (rw [if_pos w20_0]; first | exact ⟨rfl, rfl⟩ | exact fin_f c108 | exact fin_t c108) | (rw [if_neg w20_0, if_pos w20_1]; first | exact ⟨rfl, rfl⟩ | exact fin_f c108 | exact fin_t c108) | (rw [if_neg w20_0, if_neg w20_1, if_pos w20_2]; first | exact ⟨rfl, rfl⟩ | exact fin_f c108 | exact fin_t c108) | (rw [if_neg w20_0, if_neg w20_1, if_neg w20_2, if_pos w20_3]; first | exact ⟨rfl, rfl⟩ | exact fin_f c108 | exact fin_t c108) | (rw [if_neg w20_0, if_neg w20_1, if_neg w20_2, if_neg w20_3, if_pos w20_4]; first | exact ⟨rfl, rfl⟩ | exact fin_f c108 | exact fin_t c108) | (rw [if_neg w20_0, if_neg w20_1, if_neg w20_2, if_neg w20_3, if_neg w20_4]; first | exact ⟨rfl, rfl⟩ | exact fin_f c108 | exact fin_t c108)
    by_cases w20_1 : w = nI 1
    · refine q_tableEq 1 (tgt := 64) (off := 44) dX9_sum_20 w20_1 (by decide) rfl (by decide) ?_
      refine q_aload_n dX9_sum_64 rfl rfl rfl ?_
      refine q_aload_n dX9_sum_65 rfl rfl rfl ?_
      refine q_getr (r := 79) dX9_sum_66 fX9_94 rfl (ty_c hS (by decide) rfl) (hS.2 58 27 79 rfl) ?_
      refine q_iload dX9_sum_69 rfl ?_
      refine q_iald (x := sAn (sm q m)) (j := ((32 * i) + m)) dX9_sum_71 (ty_c hS (by decide) rfl) (ix_n (by omega) (by omega)) s2 ?_
      refine q_aload_n dX9_sum_72 rfl rfl rfl ?_
      refine q_getr (r := 80) dX9_sum_73 fX9_97 rfl (ty_c hS (by decide) rfl) (hS.2 58 28 80 rfl) ?_
      refine q_iload dX9_sum_76 rfl ?_
      refine q_iald (x := sAv (sm q m)) (j := ((32 * i) + m)) dX9_sum_78 (ty_c hS (by decide) rfl) (ix_n (by omega) (by omega)) s3 ?_
      refine q_callV (As := [.int (sAn (sm q m)), .int (sAv (sm q m))]) (rest := []) dX9_sum_79 vX9_379 (ty_c hS (by decide) rfl) ⟨by decide, rfl⟩ (cdF_a hx2 ▸ z9_coded hS ha) rfl rfl (Nat.le_of_ble_eq_true rfl) (by omega) (by omega) (by omega) (k_p ?_)
      refine q_ireturn dX9_sum_82 rfl rfl (by omega) (by omega) ?_
      unfold smF
      first | (rw [if_pos w20_0]; first | exact ⟨rfl, rfl⟩ | exact fin_f c108 | exact fin_t c108) | (rw [if_neg w20_0, if_pos w20_1]; first | exact ⟨rfl, rfl⟩ | exact fin_f c108 | exact fin_t c108) | (rw [if_neg w20_0, if_neg w20_1, if_pos w20_2]; first | exact ⟨rfl, rfl⟩ | exact fin_f c108 | exact fin_t c108) | (rw [if_neg w20_0, if_neg w20_1, if_neg w20_2, if_pos w20_3]; first | exact ⟨rfl, rfl⟩ | exact fin_f c108 | exact fin_t c108) | (rw [if_neg w20_0, if_neg w20_1, if_neg w20_2, if_neg w20_3, if_pos w20_4]; first | exact ⟨rfl, rfl⟩ | exact fin_f c108 | exact fin_t c108) | (rw [if_neg w20_0, if_neg w20_1, if_neg w20_2, if_neg w20_3, if_neg w20_4]; first | exact ⟨rfl, rfl⟩ | exact fin_f c108 | exact fin_t c108)
    by_cases w20_2 : w = nI 2
    · refine q_tableEq 2 (tgt := 83) (off := 63) dX9_sum_20 w20_2 (by decide) rfl (by decide) ?_
      refine q_aload_n dX9_sum_83 rfl rfl rfl ?_
      refine q_aload_n dX9_sum_84 rfl rfl rfl ?_
      refine q_getr (r := 81) dX9_sum_85 fX9_100 rfl (ty_c hS (by decide) rfl) (hS.2 58 29 81 rfl) ?_
      refine q_iload dX9_sum_88 rfl ?_
      refine q_iald (x := opn (sm q m).2.2) (j := ((32 * i) + m)) dX9_sum_90 (ty_c hS (by decide) rfl) (ix_n (by omega) (by omega)) s4 ?_
      refine q_aload_n dX9_sum_91 rfl rfl rfl ?_
      refine q_getr (r := 82) dX9_sum_92 fX9_103 rfl (ty_c hS (by decide) rfl) (hS.2 58 30 82 rfl) ?_
      refine q_iload dX9_sum_95 rfl ?_
      refine q_iald (x := opv (sm q m).2.2) (j := ((32 * i) + m)) dX9_sum_97 (ty_c hS (by decide) rfl) (ix_n (by omega) (by omega)) s5 ?_
      refine q_callV (As := [.int (opn (sm q m).2.2), .int (opv (sm q m).2.2)]) (rest := []) dX9_sum_98 vX9_379 (ty_c hS (by decide) rfl) ⟨by decide, rfl⟩ (cdF_b hx2 ▸ z9_coded hS hb) rfl rfl (Nat.le_of_ble_eq_true rfl) (by omega) (by omega) (by omega) (k_p ?_)
      refine q_ireturn dX9_sum_101 rfl rfl (by omega) (by omega) ?_
      unfold smF
      first | (rw [if_pos w20_0]; first | exact ⟨rfl, rfl⟩ | exact fin_f c108 | exact fin_t c108) | (rw [if_neg w20_0, if_pos w20_1]; first | exact ⟨rfl, rfl⟩ | exact fin_f c108 | exact fin_t c108) | (rw [if_neg w20_0, if_neg w20_1, if_pos w20_2]; first | exact ⟨rfl, rfl⟩ | exact fin_f c108 | exact fin_t c108) | (rw [if_neg w20_0, if_neg w20_1, if_neg w20_2, if_pos w20_3]; first | exact ⟨rfl, rfl⟩ | exact fin_f c108 | exact fin_t c108) | (rw [if_neg w20_0, if_neg w20_1, if_neg w20_2, if_neg w20_3, if_pos w20_4]; first | exact ⟨rfl, rfl⟩ | exact fin_f c108 | exact fin_t c108) | (rw [if_neg w20_0, if_neg w20_1, if_neg w20_2, if_neg w20_3, if_neg w20_4]; first | exact ⟨rfl, rfl⟩ | exact fin_f c108 | exact fin_t c108)
    by_cases w20_3 : w = nI 3
    · refine q_tableEq 3 (tgt := 102) (off := 82) dX9_sum_20 w20_3 (by decide) rfl (by decide) ?_
      refine q_aload_n dX9_sum_102 rfl rfl rfl ?_
      refine q_iload_n dX9_sum_103 rfl rfl ?_
      refine q_iload_n dX9_sum_104 rfl rfl ?_
      refine q_callV (As := [.int (nI i), .int (nI m)]) (rest := []) dX9_sum_105 vX9_334 (ty_c hS (by decide) rfl) ⟨by decide, rfl⟩ (z9_boldP hS hi hr hk hm) rfl rfl (Nat.le_of_ble_eq_true rfl) (by omega) (by omega) (by omega) (k_p ?_)
      refine q_if_eqB (tgt := 115) dX9_sum_108 (by decide) (fun c108 => ?_) (fun c108 => ?_)
      · skip
        refine q_iconst (v := nI 0) dX9_sum_115 rfl ?_
        refine q_ireturn dX9_sum_116 rfl rfl (by omega) (by omega) ?_
        unfold smF
        first | (rw [if_pos w20_0]; first | exact ⟨rfl, rfl⟩ | exact fin_f c108 | exact fin_t c108) | (rw [if_neg w20_0, if_pos w20_1]; first | exact ⟨rfl, rfl⟩ | exact fin_f c108 | exact fin_t c108) | (rw [if_neg w20_0, if_neg w20_1, if_pos w20_2]; first | exact ⟨rfl, rfl⟩ | exact fin_f c108 | exact fin_t c108) | (rw [if_neg w20_0, if_neg w20_1, if_neg w20_2, if_pos w20_3]; first | exact ⟨rfl, rfl⟩ | exact fin_f c108 | exact fin_t c108) | (rw [if_neg w20_0, if_neg w20_1, if_neg w20_2, if_neg w20_3, if_pos w20_4]; first | exact ⟨rfl, rfl⟩ | exact fin_f c108 | exact fin_t c108) | (rw [if_neg w20_0, if_neg w20_1, if_neg w20_2, if_neg w20_3, if_neg w20_4]; first | exact ⟨rfl, rfl⟩ | exact fin_f c108 | exact fin_t c108)
      · skip
        refine q_iconst (v := nI 1) dX9_sum_111 rfl ?_
        refine q_goto (tgt := 116) dX9_sum_112 (by decide) ?_
        refine q_ireturn dX9_sum_116 rfl rfl (by omega) (by omega) ?_
        unfold smF
        first | (rw [if_pos w20_0]; first | exact ⟨rfl, rfl⟩ | exact fin_f c108 | exact fin_t c108) | (rw [if_neg w20_0, if_pos w20_1]; first | exact ⟨rfl, rfl⟩ | exact fin_f c108 | exact fin_t c108) | (rw [if_neg w20_0, if_neg w20_1, if_pos w20_2]; first | exact ⟨rfl, rfl⟩ | exact fin_f c108 | exact fin_t c108) | (rw [if_neg w20_0, if_neg w20_1, if_neg w20_2, if_pos w20_3]; first | exact ⟨rfl, rfl⟩ | exact fin_f c108 | exact fin_t c108) | (rw [if_neg w20_0, if_neg w20_1, if_neg w20_2, if_neg w20_3, if_pos w20_4]; first | exact ⟨rfl, rfl⟩ | exact fin_f c108 | exact fin_t c108) | (rw [if_neg w20_0, if_neg w20_1, if_neg w20_2, if_neg w20_3, if_neg w20_4]; first | exact ⟨rfl, rfl⟩ | exact fin_f c108 | exact fin_t c108)
    by_cases w20_4 : w = nI 4
    · refine q_tableEq 4 (tgt := 117) (off := 97) dX9_sum_20 w20_4 (by decide) rfl (by decide) ?_
      refine q_iconst (v := nI 0) dX9_sum_117 rfl ?_
      refine q_istore dX9_sum_118 (by decide) (ls' := [(5, .int (nI 0)), (4, .int (nI ((32 * i) + m))), (0, .ref 58), (1, .int (nI i)), (2, .int (nI m)), (3, .int w)]) rfl ?_
      refine q_iconst (v := nI 0) dX9_sum_120 rfl ?_
      refine q_istore dX9_sum_121 (by decide) (ls' := [(6, .int (nI 0)), (5, .int (nI 0)), (4, .int (nI ((32 * i) + m))), (0, .ref 58), (1, .int (nI i)), (2, .int (nI m)), (3, .int w)]) rfl ?_
      refine q_pk [3, 4, 5, 6, 2, 1, 0] (ls' := [(0, .ref 58), (1, .int (nI i)), (2, .int (nI m)), (3, .int w), (4, .int (nI ((32 * i) + m))), (5, .int (nI 0)), (6, .int (nI 0))]) rfl ?_
      unfold smF
      rw [if_neg w20_0, if_neg w20_1, if_neg w20_2, if_neg w20_3, if_pos w20_4]
      exact go _
    refine q_tableNe 0 4 (tgt := 170) dX9_sum_20 (by decide) (fun v h1 h2 => by rcases (show v = 0 ∨ v = 1 ∨ v = 2 ∨ v = 3 ∨ v = 4 by omega) with rfl | rfl | rfl | rfl | rfl <;> assumption) (by decide) ?_
    refine q_iconst (v := (-1 : Int32)) dX9_sum_170 rfl ?_
    refine q_ireturn dX9_sum_171 rfl rfl (by omega) (by omega) ?_
    unfold smF
    first | (rw [if_pos w20_0]; first | exact ⟨rfl, rfl⟩ | exact fin_f c108 | exact fin_t c108) | (rw [if_neg w20_0, if_pos w20_1]; first | exact ⟨rfl, rfl⟩ | exact fin_f c108 | exact fin_t c108) | (rw [if_neg w20_0, if_neg w20_1, if_pos w20_2]; first | exact ⟨rfl, rfl⟩ | exact fin_f c108 | exact fin_t c108) | (rw [if_neg w20_0, if_neg w20_1, if_neg w20_2, if_pos w20_3]; first | exact ⟨rfl, rfl⟩ | exact fin_f c108 | exact fin_t c108) | (rw [if_neg w20_0, if_neg w20_1, if_neg w20_2, if_neg w20_3, if_pos w20_4]; first | exact ⟨rfl, rfl⟩ | exact fin_f c108 | exact fin_t c108) | (rw [if_neg w20_0, if_neg w20_1, if_neg w20_2, if_neg w20_3, if_neg w20_4]; first | exact ⟨rfl, rfl⟩ | exact fin_f c108 | exact fin_t c108)
  · rw [if_neg hn]
    refine CT.of (by decide) (Nat.le_of_ble_eq_true rfl) ?_
    refine q_aload_n dX9_sum_0 rfl rfl rfl ?_
    refine q_iload_n dX9_sum_1 rfl rfl ?_
    refine q_iload_n dX9_sum_2 rfl rfl ?_
    refine q_callV (As := [.int (nI i), .int e]) (rest := []) dX9_sum_3 vX9_376 (ty_c hS (by decide) rfl) ⟨by decide, rfl⟩ (z9_isSumN hS hAll hn) rfl rfl (Nat.le_of_ble_eq_true rfl) (by omega) (by omega) (by omega) (k_p ?_)
    refine q_if_neB (tgt := 11) dX9_sum_6 (by decide) (fun h => absurd h (by decide)) (fun _ => ?_)
    refine q_iconst (v := (-1 : Int32)) dX9_sum_9 rfl ?_
    refine q_ireturn dX9_sum_10 rfl rfl (by omega) (by omega) ?_
    exact ⟨rfl, rfl⟩

end MQE
