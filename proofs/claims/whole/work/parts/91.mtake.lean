/-! The model's parser: must, take, an operand, a block's name. -/
/-- what the parser has come to: a word, or a fault -/
def BS (σ : HS) (T : Nat → Nat) (L : Nat) : PR Nat → Prop
  | .ok k => sI σ 58 32 = nI 0 ∧ MTk σ T L k
  | .error e => sI σ 58 32 = nI e.1 ∧ (1 ≤ e.1 ∧ e.1 < 10) ∧ sI σ 58 33 = nI e.2
def erM (σ : HS) (e : Nat × Nat) : HS := uI (uI σ 58 32 (nI e.1)) 58 33 (nI e.2)
theorem erM_lb {σ : HS} {e : Nat × Nat} : FR9 lxb σ (erM σ e) := (FR9.rf.uI (by unfold lxb; omega)).uI (by unfold lxb; omega)
theorem erM_bs {σ : HS} {T : Nat → Nat} {L : Nat} {e : Nat × Nat} (h : 1 ≤ e.1 ∧ e.1 < 10) : BS (erM σ e) T L (.error e) := ⟨(rd_ne (by decide)).trans uI_self, h, uI_self⟩
theorem er_b {T : Nat → Nat} {L k n : Nat} (h : 1 ≤ n ∧ n < 10) : 1 ≤ (er T L k n).1 ∧ (er T L k n).1 < 10 := by
  unfold er; simp only; split <;> omega
/-- the value of an operand as the model keeps it -/
def opn (o : Int32) : Int32 := if nI 1000000000 ≤ o then o - nI 1000000000 else -1
def opv (o : Int32) : Int32 := if nI 1000000000 ≤ o then nI 0 else o
theorem opn_n {v : Nat} (h : v < 1000000000) : opn (nI v) = -1 ∧ opv (nI v) = nI v := by
  have : ¬ nI 1000000000 ≤ nI v := fun z => by have := (nI_leI (by omega) (by omega)).mp z; omega
  exact ⟨if_neg this, if_neg this⟩
theorem opn_m {v : Nat} (h : v < 1000000000) : opn (-(nI v)) = -1 ∧ opv (-(nI v)) = -(nI v) := by
  have := (opV_m (nm := fun _ => 0) h).1
  exact ⟨if_neg this, if_neg this⟩
theorem opn_nm {v : Nat} (h : v < 1000) : opn (nI (1000000000 + v)) = nI v ∧ opv (nI (1000000000 + v)) = nI 0 := by
  have : nI 1000000000 ≤ nI (1000000000 + v) := (nI_leI (by omega) (by omega)).mpr (by omega)
  exact ⟨by unfold opn; rw [if_pos this, nI_subN (by omega)]; exact congrArg nI (by omega), if_pos this⟩
def pO1 (T : Nat → Nat) (L k : Nat) : PR Nat := (pOp T L k).bind fun v => .ok v.2.1
def tkq (h i : Nat) : Prop := h = 58 ∧ ((2 ≤ i ∧ i ≤ 6) ∨ i = 32 ∨ i = 33)
theorem tkq.lb {h i : Nat} (k : tkq h i) : lxb h i := by unfold tkq at k; unfold lxb; omega
theorem erM_tk {σ : HS} {e : Nat × Nat} : FR9 tkq σ (erM σ e) := (FR9.rf.uI (by unfold tkq; omega)).uI (by unfold tkq; omega)
theorem LX9.tk {σ σ' : HS} (k : LX9 σ σ') : FR9 tkq σ σ' := ⟨k.1, k.2.1, k.2.2.1, fun h i hh => by
  by_cases e : h = 58
  · subst e
    exact k.2.2.2.2 i (by unfold tkq at hh; omega)
  · rw [k.2.2.2.1 h e]⟩
section MTA
variable {g : GG} {σ : HS} {T : Nat → Nat} {L k : Nat}
theorem z9_isSignR (hS : SK σ) {c : Nat} : CT g mX9_isSign 0 0 0 [.ref 58, .int (nI c)] σ (PQ σ (.int (bi (decide (sI σ 58 2 = nI 3 ∧ sI σ 58 6 = nI c))))) := by
  refine CT.of (by decide) (Nat.le_of_ble_eq_true rfl) ?_
  refine q_aload_n dX9_isSign_0 rfl rfl rfl ?_
  refine q_geti (x := sI σ 58 2) dX9_isSign_1 fX9_17 rfl (ty_c hS (by decide) rfl) rfl ?_
  refine q_iconst (v := nI 3) dX9_isSign_4 rfl ?_
  refine q_icmp_ne (tgt := 20) dX9_isSign_5 (by decide) (fun c5 => ?_) (fun c5 => ?_)
  · skip
    refine q_iconst (v := nI 0) dX9_isSign_20 rfl ?_
    refine q_ireturn dX9_isSign_21 rfl rfl (by omega) (by omega) ?_
    first | exact fin_t (decide_eq_true ⟨c5, c13⟩) | exact fin_f (decide_eq_false fun z => c13 z.2) | exact fin_f (decide_eq_false fun z => c5 z.1)
  · skip
    refine q_aload_n dX9_isSign_8 rfl rfl rfl ?_
    refine q_geti (x := sI σ 58 6) dX9_isSign_9 fX9_29 rfl (ty_c hS (by decide) rfl) rfl ?_
    refine q_iload_n dX9_isSign_12 rfl rfl ?_
    refine q_icmp_ne (tgt := 20) dX9_isSign_13 (by decide) (fun c13 => ?_) (fun c13 => ?_)
    · skip
      refine q_iconst (v := nI 0) dX9_isSign_20 rfl ?_
      refine q_ireturn dX9_isSign_21 rfl rfl (by omega) (by omega) ?_
      first | exact fin_t (decide_eq_true ⟨c5, c13⟩) | exact fin_f (decide_eq_false fun z => c13 z.2) | exact fin_f (decide_eq_false fun z => c5 z.1)
    · skip
      refine q_iconst (v := nI 1) dX9_isSign_16 rfl ?_
      refine q_goto (tgt := 21) dX9_isSign_17 (by decide) ?_
      refine q_ireturn dX9_isSign_21 rfl rfl (by omega) (by omega) ?_
      first | exact fin_t (decide_eq_true ⟨c5, c13⟩) | exact fin_f (decide_eq_false fun z => c13 z.2) | exact fin_f (decide_eq_false fun z => c5 z.1)
theorem z9_must_y (hS : SK σ) (hB : sI σ 58 32 = nI 0) {n : Nat} : CT g mX9_must 0 0 0 [.ref 58, .int (bi true), .int (nI n)] σ (PQ σ (.int (bi true))) := by
  refine CT.of (by decide) (Nat.le_of_ble_eq_true rfl) ?_
  refine q_iload_n dX9_must_0 rfl rfl ?_
  refine q_if_neB (tgt := 36) dX9_must_1 (by decide) (fun _ => ?_) (fun h => absurd h (by decide))
  refine q_aload_n dX9_must_36 rfl rfl rfl ?_
  refine q_geti (x := nI 0) dX9_must_37 fX9_110 rfl (ty_c hS (by decide) rfl) hB ?_
  refine q_if_neN (tgt := 47) dX9_must_40 (by decide) (by omega) (fun h => absurd h (by decide)) (fun _ => ?_)
  refine q_iconst (v := nI 1) dX9_must_43 rfl ?_
  refine q_goto (tgt := 48) dX9_must_44 (by decide) ?_
  refine q_ireturn dX9_must_48 rfl rfl (by omega) (by omega) ?_
  exact fin_t rfl
theorem z9_must_e (hS : SK σ) {e : Nat} (hB : sI σ 58 32 = nI e) (he : 1 ≤ e ∧ e < 10) {gd : Bool} {n : Nat} : CT g mX9_must 0 0 0 [.ref 58, .int (bi gd), .int (nI n)] σ (PQ σ (.int (bi false))) := by
  refine CT.of (by decide) (Nat.le_of_ble_eq_true rfl) ?_
  refine q_iload_n dX9_must_0 rfl rfl ?_
  refine q_if_neB (tgt := 36) dX9_must_1 (by decide) (fun c1 => ?_) (fun c1 => ?_)
  · skip
    refine q_aload_n dX9_must_36 rfl rfl rfl ?_
    refine q_geti (x := nI e) dX9_must_37 fX9_110 rfl (ty_c hS (by decide) rfl) hB ?_
    refine q_if_neN (tgt := 47) dX9_must_40 (by decide) (by omega) (fun c40 => ?_) (fun c40 => ?_)
    · skip
      refine q_iconst (v := nI 0) dX9_must_47 rfl ?_
      refine q_ireturn dX9_must_48 rfl rfl (by omega) (by omega) ?_
      exact fin_f rfl
    · exact absurd c40 (by omega)
  · skip
    refine q_aload_n dX9_must_4 rfl rfl rfl ?_
    refine q_geti (x := nI e) dX9_must_5 fX9_110 rfl (ty_c hS (by decide) rfl) hB ?_
    refine q_if_neN (tgt := 36) dX9_must_8 (by decide) (by omega) (fun c8 => ?_) (fun c8 => ?_)
    · skip
      refine q_aload_n dX9_must_36 rfl rfl rfl ?_
      refine q_geti (x := nI e) dX9_must_37 fX9_110 rfl (ty_c hS (by decide) rfl) hB ?_
      refine q_if_neN (tgt := 47) dX9_must_40 (by decide) (by omega) (fun c40 => ?_) (fun c40 => ?_)
      · skip
        refine q_iconst (v := nI 0) dX9_must_47 rfl ?_
        refine q_ireturn dX9_must_48 rfl rfl (by omega) (by omega) ?_
        exact fin_f rfl
      · exact absurd c40 (by omega)
    · exact absurd c8 (by omega)
theorem z9_must_n (hS : SK σ) (hB : sI σ 58 32 = nI 0) (hM : MTk σ T L k) {n : Nat} (hn : 1 ≤ n ∧ n < 10) : CT g mX9_must 1 0 0 [.ref 58, .int (bi false), .int (nI n)] σ (PQ (erM σ (er T L k n)) (.int (bi false))) := by
  have h1 := tkd_1 hM.2.2
  have h2 := hM.1
  by_cases hk : tk T L k = 1
  · have e : er T L k n = (1, ts T L k) := by unfold er; rw [if_pos hk]
    rw [e]
    refine CT.of (by decide) (Nat.le_of_ble_eq_true rfl) ?_
    refine q_iload_n dX9_must_0 rfl rfl ?_
    refine q_if_neB (tgt := 36) dX9_must_1 (by decide) (fun h => absurd h (by decide)) (fun _ => ?_)
    refine q_aload_n dX9_must_4 rfl rfl rfl ?_
    refine q_geti (x := nI 0) dX9_must_5 fX9_110 rfl (ty_c hS (by decide) rfl) hB ?_
    refine q_if_neN (tgt := 36) dX9_must_8 (by decide) (by omega) (fun h => absurd h (by decide)) (fun _ => ?_)
    refine q_aload_n dX9_must_11 rfl rfl rfl ?_
    refine q_aload_n dX9_must_12 rfl rfl rfl ?_
    refine q_geti (x := sI σ 58 2) dX9_must_13 fX9_17 rfl (ty_c hS (by decide) rfl) rfl ?_
    refine q_iconst (v := nI 4) dX9_must_16 rfl ?_
    refine q_icmp_ne (tgt := 24) dX9_must_17 (by decide) (fun c17 => ?_) (fun c17 => ?_)
    · exact absurd (h1.mpr hk) c17
    · skip
      refine q_iconst (v := nI 1) dX9_must_20 rfl ?_
      refine q_goto (tgt := 25) dX9_must_21 (by decide) ?_
      refine q_puti dX9_must_25 fX9_110 rfl (Or.inl rfl) (ty_c hS (by decide) rfl) ?_
      refine q_aload_n dX9_must_28 rfl rfl rfl ?_
      refine q_aload_n dX9_must_29 rfl rfl rfl ?_
      refine q_geti (x := nI (ts T L k)) dX9_must_30 fX9_20 rfl (ty_c hS (by decide) rfl) (Eq.trans (rd_ne (by decide)) h2) ?_
      refine q_puti dX9_must_33 fX9_113 rfl (Or.inl rfl) (ty_c hS (by decide) rfl) ?_
      refine q_aload_n dX9_must_36 rfl rfl rfl ?_
      refine q_geti (x := nI 1) dX9_must_37 fX9_110 rfl (ty_c hS (by decide) rfl) (Eq.trans (rd_ne (by decide)) uI_self) ?_
      refine q_if_neN (tgt := 47) dX9_must_40 (by decide) (by omega) (fun _ => ?_) (fun h => absurd h (by decide))
      refine q_iconst (v := nI 0) dX9_must_47 rfl ?_
      refine q_ireturn dX9_must_48 rfl rfl (by omega) (by omega) ?_
      exact ⟨rfl, rfl⟩
  · have e : er T L k n = (n, ts T L k) := by unfold er; rw [if_neg hk]
    rw [e]
    refine CT.of (by decide) (Nat.le_of_ble_eq_true rfl) ?_
    refine q_iload_n dX9_must_0 rfl rfl ?_
    refine q_if_neB (tgt := 36) dX9_must_1 (by decide) (fun h => absurd h (by decide)) (fun _ => ?_)
    refine q_aload_n dX9_must_4 rfl rfl rfl ?_
    refine q_geti (x := nI 0) dX9_must_5 fX9_110 rfl (ty_c hS (by decide) rfl) hB ?_
    refine q_if_neN (tgt := 36) dX9_must_8 (by decide) (by omega) (fun h => absurd h (by decide)) (fun _ => ?_)
    refine q_aload_n dX9_must_11 rfl rfl rfl ?_
    refine q_aload_n dX9_must_12 rfl rfl rfl ?_
    refine q_geti (x := sI σ 58 2) dX9_must_13 fX9_17 rfl (ty_c hS (by decide) rfl) rfl ?_
    refine q_iconst (v := nI 4) dX9_must_16 rfl ?_
    refine q_icmp_ne (tgt := 24) dX9_must_17 (by decide) (fun c17 => ?_) (fun c17 => ?_)
    · skip
      refine q_iload_n dX9_must_24 rfl rfl ?_
      refine q_puti dX9_must_25 fX9_110 rfl (Or.inl rfl) (ty_c hS (by decide) rfl) ?_
      refine q_aload_n dX9_must_28 rfl rfl rfl ?_
      refine q_aload_n dX9_must_29 rfl rfl rfl ?_
      refine q_geti (x := nI (ts T L k)) dX9_must_30 fX9_20 rfl (ty_c hS (by decide) rfl) (Eq.trans (rd_ne (by decide)) h2) ?_
      refine q_puti dX9_must_33 fX9_113 rfl (Or.inl rfl) (ty_c hS (by decide) rfl) ?_
      refine q_aload_n dX9_must_36 rfl rfl rfl ?_
      refine q_geti (x := nI n) dX9_must_37 fX9_110 rfl (ty_c hS (by decide) rfl) (Eq.trans (rd_ne (by decide)) uI_self) ?_
      refine q_if_neN (tgt := 47) dX9_must_40 (by decide) (by omega) (fun c40 => ?_) (fun c40 => ?_)
      · skip
        refine q_iconst (v := nI 0) dX9_must_47 rfl ?_
        refine q_ireturn dX9_must_48 rfl rfl (by omega) (by omega) ?_
        exact ⟨rfl, rfl⟩
      · exact absurd c40 (by omega)
    · exact absurd (h1.mp c17) hk
theorem z9_nextM (hS : SK σ) (hT : MTX σ L T) (hM : MTk σ T L k) : CT g mX9_next 2 0 0 [.ref 58] σ (fun r σ' => r = none ∧ LX9 σ σ' ∧ MTk σ' T L (k + 1)) := by
  refine CT.mono ?_ (z9_next hS hT (te_le (T := T) (L := L) (k := k)) hM.2.1)
  rintro r σ' ⟨h1, h2⟩
  rw [← ts_te] at h2
  exact ⟨h1, h2.1, mtk h2⟩
theorem bs_next {σ' : HS} (hB : sI σ 58 32 = nI 0) (h : LX9 σ σ') : sI σ' 58 32 = nI 0 := (h.2.2.2.2 32 (by omega)).trans hB
theorem z9_takeT (hS : SK σ) (hT : MTX σ L T) {x : PR Nat} (hB : BS σ T L x) {c : Nat} (hc : c < 1000) : CT g mX9_take 3 0 0 [.ref 58, .int (nI c)] σ (fun r σ' => r = none ∧ BS σ' T L (x.bind (pSg T L c)) ∧ FR9 tkq σ σ') := by
  have hT' : ∀ i, i < L → T i < 256 := fun i hi => (hT.2.2 i hi).2
  cases x with
  | error e =>
    obtain ⟨b1, b2, b3⟩ := hB
    refine CT.of (by decide) (Nat.le_of_ble_eq_true rfl) ?_
    refine q_aload_n dX9_take_0 rfl rfl rfl ?_
    refine q_aload_n dX9_take_1 rfl rfl rfl ?_
    refine q_iload_n dX9_take_2 rfl rfl ?_
    refine q_callV (As := [.int (nI c)]) (rest := [.ref 58]) dX9_take_3 vX9_229 (ty_c hS (by decide) rfl) ⟨by decide, rfl⟩ (z9_isSignR hS) rfl rfl (Nat.le_of_ble_eq_true rfl) (by omega) (by omega) (by omega) (k_p ?_)
    refine q_iconst (v := nI 2) dX9_take_6 rfl ?_
    refine q_callV (As := [.int (bi (decide (sI σ 58 2 = nI 3 ∧ sI σ 58 6 = nI c))), .int (nI 2)]) (rest := []) dX9_take_7 vX9_232 (ty_c hS (by decide) rfl) ⟨by decide, rfl⟩ (z9_must_e hS b1 b2) rfl rfl (Nat.le_of_ble_eq_true rfl) (by omega) (by omega) (by omega) (k_p ?_)
    refine q_if_eqB (tgt := 17) dX9_take_10 (by decide) (fun _ => ?_) (fun h => absurd h (by decide))
    refine q_return dX9_take_17 rfl (by omega) (by omega) ?_
    exact ⟨rfl, ⟨b1, b2, b3⟩, FR9.rf⟩
  | ok k =>
    obtain ⟨b1, b2⟩ := hB
    by_cases h : tk T L k = 7 ∧ tv T L k = c
    · have e : (Except.ok k : PR Nat).bind (pSg T L c) = .ok (k + 1) := if_pos h
      have hd : decide (tk T L k = 7 ∧ tv T L k = c) = true := decide_eq_true h
      rw [e]
      refine CT.of (by decide) (Nat.le_of_ble_eq_true rfl) ?_
      refine q_aload_n dX9_take_0 rfl rfl rfl ?_
      refine q_aload_n dX9_take_1 rfl rfl rfl ?_
      refine q_iload_n dX9_take_2 rfl rfl ?_
      refine q_callV (As := [.int (nI c)]) (rest := [.ref 58]) dX9_take_3 vX9_229 (ty_c hS (by decide) rfl) ⟨by decide, rfl⟩ (hd ▸ z9_isSign hS hT' b2 hc) rfl rfl (Nat.le_of_ble_eq_true rfl) (by omega) (by omega) (by omega) (k_p ?_)
      refine q_iconst (v := nI 2) dX9_take_6 rfl ?_
      refine q_callV (As := [.int (bi true), .int (nI 2)]) (rest := []) dX9_take_7 vX9_232 (ty_c hS (by decide) rfl) ⟨by decide, rfl⟩ (z9_must_y hS b1) rfl rfl (Nat.le_of_ble_eq_true rfl) (by omega) (by omega) (by omega) (k_p ?_)
      refine q_if_eqB (tgt := 17) dX9_take_10 (by decide) (fun h => absurd h (by decide)) (fun _ => ?_)
      refine q_aload_n dX9_take_13 rfl rfl rfl ?_
      refine q_callV (As := []) (rest := []) dX9_take_14 vX9_236 (ty_c hS (by decide) rfl) ⟨by decide, rfl⟩ (z9_nextM hS hT b2) rfl rfl (Nat.le_of_ble_eq_true rfl) (by omega) (by omega) (by omega) (k_v (fun s14 q14 => ?_))
      refine q_return dX9_take_17 rfl (by omega) (by omega) ?_
      exact ⟨rfl, ⟨bs_next b1 q14.1, q14.2⟩, q14.1.tk⟩
    · have e : (Except.ok k : PR Nat).bind (pSg T L c) = .error (er T L k 2) := if_neg h
      have hd : decide (tk T L k = 7 ∧ tv T L k = c) = false := decide_eq_false h
      rw [e]
      refine CT.of (by decide) (Nat.le_of_ble_eq_true rfl) ?_
      refine q_aload_n dX9_take_0 rfl rfl rfl ?_
      refine q_aload_n dX9_take_1 rfl rfl rfl ?_
      refine q_iload_n dX9_take_2 rfl rfl ?_
      refine q_callV (As := [.int (nI c)]) (rest := [.ref 58]) dX9_take_3 vX9_229 (ty_c hS (by decide) rfl) ⟨by decide, rfl⟩ (hd ▸ z9_isSign hS hT' b2 hc) rfl rfl (Nat.le_of_ble_eq_true rfl) (by omega) (by omega) (by omega) (k_p ?_)
      refine q_iconst (v := nI 2) dX9_take_6 rfl ?_
      refine q_callV (As := [.int (bi false), .int (nI 2)]) (rest := []) dX9_take_7 vX9_232 (ty_c hS (by decide) rfl) ⟨by decide, rfl⟩ (z9_must_n hS b1 b2 (by omega)) rfl rfl (Nat.le_of_ble_eq_true rfl) (by omega) (by omega) (by omega) (k_p ?_)
      refine q_if_eqB (tgt := 17) dX9_take_10 (by decide) (fun _ => ?_) (fun h => absurd h (by decide))
      refine q_return dX9_take_17 rfl (by omega) (by omega) ?_
      exact ⟨rfl, erM_bs (er_b (by omega)), erM_tk⟩
theorem z9_take (hS : SK σ) (hT : MTX σ L T) {x : PR Nat} (hB : BS σ T L x) {c : Nat} (hc : c < 1000) : CT g mX9_take 3 0 0 [.ref 58, .int (nI c)] σ (fun r σ' => r = none ∧ BS σ' T L (x.bind (pSg T L c)) ∧ FR9 lxb σ σ') :=
  CT.mono (fun _ _ z => ⟨z.1, z.2.1, z.2.2.mono fun _ _ => tkq.lb⟩) (z9_takeT hS hT hB hc)
theorem z9_named_y (hS : SK σ) (hM : MTk σ T L k) (hk : tk T L k = 3) : CT g mX9_named 1 0 0 [.ref 58] σ (PQ σ (.int (nI (tv T L k)))) := by
  have h1 := tkd_v hM.2.2
  have h2 := tkd_t hM.2.2
  have h3 : tv T L k < 48 := tv_345.1 hk
  by_cases h : tv T L k < 16
  · rw [if_pos ⟨hk, h⟩] at h1
    refine CT.of (by decide) (Nat.le_of_ble_eq_true rfl) ?_
    refine q_aload_n dX9_named_0 rfl rfl rfl ?_
    refine q_bipush (v := nI 118) dX9_named_1 rfl ?_
    refine q_bipush (v := nI 15) dX9_named_3 rfl ?_
    refine q_callV (As := [.int (nI 118), .int (nI 15)]) (rest := []) dX9_named_5 vX9_225 (ty_c hS (by decide) rfl) ⟨by decide, rfl⟩ (h1 ▸ z9_numbered hS) rfl rfl (Nat.le_of_ble_eq_true rfl) (by omega) (by omega) (by omega) (k_p ?_)
    refine q_istore_n dX9_named_8 rfl (by decide) (ls' := [(1, .int (nI (tv T L k))), (0, .ref 58)]) rfl ?_
    refine q_aload_n dX9_named_9 rfl rfl rfl ?_
    refine q_bipush (v := nI 116) dX9_named_10 rfl ?_
    refine q_bipush (v := nI 31) dX9_named_12 rfl ?_
    refine q_callV (As := [.int (nI 116), .int (nI 31)]) (rest := []) dX9_named_14 vX9_225 (ty_c hS (by decide) rfl) ⟨by decide, rfl⟩ (z9_numbered hS) rfl rfl (Nat.le_of_ble_eq_true rfl) (by omega) (by omega) (by omega) (k_p ?_)
    refine q_istore_n dX9_named_17 rfl (by decide) (ls' := [(2, .int (nmb (sI σ 58 2) (sL σ 58 7) (sI σ 58 5) 116 31)), (1, .int (nI (tv T L k))), (0, .ref 58)]) rfl ?_
    refine q_iload_n dX9_named_18 rfl rfl ?_
    refine q_if_ltN (tgt := 26) dX9_named_19 (by decide) (by omega) ?_
    refine q_iload_n dX9_named_22 rfl rfl ?_
    refine q_goto (tgt := 38) dX9_named_23 (by decide) ?_
    refine q_ireturn dX9_named_38 rfl rfl (by omega) (by omega) ?_
    exact ⟨rfl, rfl⟩
  · rw [if_neg (by omega)] at h1
    rw [if_pos ⟨hk, by omega⟩] at h2
    refine CT.of (by decide) (Nat.le_of_ble_eq_true rfl) ?_
    refine q_aload_n dX9_named_0 rfl rfl rfl ?_
    refine q_bipush (v := nI 118) dX9_named_1 rfl ?_
    refine q_bipush (v := nI 15) dX9_named_3 rfl ?_
    refine q_callV (As := [.int (nI 118), .int (nI 15)]) (rest := []) dX9_named_5 vX9_225 (ty_c hS (by decide) rfl) ⟨by decide, rfl⟩ (h1 ▸ z9_numbered hS) rfl rfl (Nat.le_of_ble_eq_true rfl) (by omega) (by omega) (by omega) (k_p ?_)
    refine q_istore_n dX9_named_8 rfl (by decide) (ls' := [(1, .int (-1)), (0, .ref 58)]) rfl ?_
    refine q_aload_n dX9_named_9 rfl rfl rfl ?_
    refine q_bipush (v := nI 116) dX9_named_10 rfl ?_
    refine q_bipush (v := nI 31) dX9_named_12 rfl ?_
    refine q_callV (As := [.int (nI 116), .int (nI 31)]) (rest := []) dX9_named_14 vX9_225 (ty_c hS (by decide) rfl) ⟨by decide, rfl⟩ (h2 ▸ z9_numbered hS) rfl rfl (Nat.le_of_ble_eq_true rfl) (by omega) (by omega) (by omega) (k_p ?_)
    refine q_istore_n dX9_named_17 rfl (by decide) (ls' := [(2, .int (nI (tv T L k - 16))), (1, .int (-1)), (0, .ref 58)]) rfl ?_
    refine q_iload_n dX9_named_18 rfl rfl ?_
    refine q_if_lt1 (tgt := 26) dX9_named_19 (by decide) (by decide) ?_
    refine q_iload_n dX9_named_26 rfl rfl ?_
    refine q_if_ltN (tgt := 37) dX9_named_27 (by decide) (by omega) ?_
    refine q_bipush (v := nI 16) dX9_named_30 rfl ?_
    refine q_iload_n dX9_named_32 rfl rfl ?_
    refine q_iaddN dX9_named_33 ?_
    refine q_goto (tgt := 38) dX9_named_34 (by decide) ?_
    refine q_ireturn dX9_named_38 rfl rfl (by omega) (by omega) ?_
    exact ⟨rfl, congrArg (fun n => some (Value.int (nI n))) (by omega)⟩
theorem z9_named_n (hS : SK σ) (hM : MTk σ T L k) (hk : tk T L k ≠ 3) : CT g mX9_named 1 0 0 [.ref 58] σ (PQ σ (.int (-1))) := by
  have h1 := tkd_v hM.2.2
  have h2 := tkd_t hM.2.2
  rw [if_neg (by omega)] at h1 h2
  refine CT.of (by decide) (Nat.le_of_ble_eq_true rfl) ?_
  refine q_aload_n dX9_named_0 rfl rfl rfl ?_
  refine q_bipush (v := nI 118) dX9_named_1 rfl ?_
  refine q_bipush (v := nI 15) dX9_named_3 rfl ?_
  refine q_callV (As := [.int (nI 118), .int (nI 15)]) (rest := []) dX9_named_5 vX9_225 (ty_c hS (by decide) rfl) ⟨by decide, rfl⟩ (h1 ▸ z9_numbered hS) rfl rfl (Nat.le_of_ble_eq_true rfl) (by omega) (by omega) (by omega) (k_p ?_)
  refine q_istore_n dX9_named_8 rfl (by decide) (ls' := [(1, .int (-1)), (0, .ref 58)]) rfl ?_
  refine q_aload_n dX9_named_9 rfl rfl rfl ?_
  refine q_bipush (v := nI 116) dX9_named_10 rfl ?_
  refine q_bipush (v := nI 31) dX9_named_12 rfl ?_
  refine q_callV (As := [.int (nI 116), .int (nI 31)]) (rest := []) dX9_named_14 vX9_225 (ty_c hS (by decide) rfl) ⟨by decide, rfl⟩ (h2 ▸ z9_numbered hS) rfl rfl (Nat.le_of_ble_eq_true rfl) (by omega) (by omega) (by omega) (k_p ?_)
  refine q_istore_n dX9_named_17 rfl (by decide) (ls' := [(2, .int (-1)), (1, .int (-1)), (0, .ref 58)]) rfl ?_
  refine q_iload_n dX9_named_18 rfl rfl ?_
  refine q_if_lt1 (tgt := 26) dX9_named_19 (by decide) (by decide) ?_
  refine q_iload_n dX9_named_26 rfl rfl ?_
  refine q_if_lt1 (tgt := 37) dX9_named_27 (by decide) (by decide) ?_
  refine q_iconst (v := (-1 : Int32)) dX9_named_37 rfl ?_
  refine q_ireturn dX9_named_38 rfl rfl (by omega) (by omega) ?_
  exact ⟨rfl, rfl⟩
def OpQ (σ : HS) (T : Nat → Nat) (L : Nat) (x : PR Nat) : HS → Prop := fun σ' => BS σ' T L (x.bind (pO1 T L)) ∧ (∀ k v, x = .ok k → pOp T L k = .ok v → sI σ' 58 35 = opn v.1 ∧ sI σ' 58 36 = opv v.1) ∧ FR9 lxb σ σ'
theorem OpQ.ok {σ τ : HS} {k2 : Nat} {v : Int32 × Nat × Bool} {an av : Int32} (hp : pOp T L k = .ok v) (hb : sI τ 58 32 = nI 0) (hm : MTk τ T L k2) (h2 : v.2.1 = k2) (h35 : sI τ 58 35 = an) (h36 : sI τ 58 36 = av) (ea : an = opn v.1) (ev : av = opv v.1) (hf : FR9 lxb σ τ) : OpQ σ T L (.ok k) τ := by
  refine ⟨?_, fun k' v' e1 e2 => ?_, hf⟩
  · have : (Except.ok k : PR Nat).bind (pO1 T L) = .ok k2 := by
      show (pOp T L k).bind _ = _
      rw [hp]; exact congrArg Except.ok h2
    rw [this]; exact ⟨hb, hm⟩
  · cases e1
    rw [hp] at e2; cases e2
    exact ⟨h35.trans ea, h36.trans ev⟩
theorem OpQ.er {σ τ : HS} {e : Nat × Nat} (hp : pOp T L k = .error e) (hb : BS τ T L (.error e)) (hf : FR9 lxb σ τ) : OpQ σ T L (.ok k) τ := by
  refine ⟨?_, fun k' v' e1 e2 => ?_, hf⟩
  · have : (Except.ok k : PR Nat).bind (pO1 T L) = .error e := by
      show (pOp T L k).bind _ = _
      rw [hp]; rfl
    rw [this]; exact hb
  · cases e1
    rw [hp] at e2; cases e2
theorem MTk.u {σ : HS} {i : Nat} {v : Int32} (h : MTk σ T L k) (hi : i < 2 ∨ 7 ≤ i) : MTk (uI σ 58 i v) T L k := by
  unfold MTk at h ⊢
  rw [rd_ne (by omega), rd_ne (by omega), rd_ne (by omega), rd_ne (by omega), rd_ne (by omega)]
  exact h
theorem nx_op (hS : SK σ) (hT : MTX σ L T) (hM : MTk σ T L k) (hb : sI σ 58 32 = nI 0) {a b : Int32} : CT g mX9_next 2 0 0 [.ref 58] (uI (uI σ 58 35 a) 58 36 b) (fun r σ' => r = none ∧ (MTk σ' T L (k + 1) ∧ sI σ' 58 32 = nI 0 ∧ sI σ' 58 35 = a ∧ sI σ' 58 36 = b ∧ FR9 lxb σ σ')) := by
  have f : FR9 lxb σ (uI (uI σ 58 35 a) 58 36 b) := (FR9.rf.uI (by unfold lxb; omega)).uI (by unfold lxb; omega)
  refine CT.mono ?_ (z9_nextM (SK.fq f hS) (hT.lb f) ((hM.u (by omega)).u (by omega)))
  rintro r σ' ⟨h1, h2, h3⟩
  have e : ∀ i, 7 ≤ i → sI σ' 58 i = sI (uI (uI σ 58 35 a) 58 36 b) 58 i := fun i hi => h2.2.2.2.2 i (by omega)
  refine ⟨h1, h3, (e 32 (by omega)).trans ((rd_ne (by omega)).trans ((rd_ne (by omega)).trans hb)), (e 35 (by omega)).trans ((rd_ne (by omega)).trans uI_self), (e 36 (by omega)).trans uI_self, f.tr h2.lb⟩
theorem z9_operand (hS : SK σ) (hT : MTX σ L T) {x : PR Nat} (hB : BS σ T L x) : CT g mX9_operand 3 0 0 [.ref 58] σ (fun r σ' => r = none ∧ OpQ σ T L x σ') := by
  have hT' : ∀ i, i < L → T i < 256 := fun i hi => (hT.2.2 i hi).2
  cases x with
  | error e =>
    obtain ⟨b1, b2, b3⟩ := hB
    refine CT.of (by decide) (Nat.le_of_ble_eq_true rfl) ?_
    refine q_aload_n dX9_operand_0 rfl rfl rfl ?_
    refine q_geti (x := nI e.1) dX9_operand_1 fX9_110 rfl (ty_c hS (by decide) rfl) b1 ?_
    refine q_if_leN (tgt := 8) dX9_operand_4 (by decide) (by omega) (fun c4 => ?_) (fun c4 => ?_)
    · exact absurd c4 (by omega)
    · skip
      refine q_return dX9_operand_7 rfl (by omega) (by omega) ?_
      exact ⟨rfl, ⟨b1, b2, b3⟩, (fun _ _ e1 => by cases e1), FR9.rf⟩
  | ok k =>
    obtain ⟨b1, b2⟩ := hB
    have t6 := tkd_6 b2.2.2
    by_cases h : tk T L k = 7 ∧ tv T L k = 45
    · have hd : decide (tk T L k = 7 ∧ tv T L k = 45) = true := decide_eq_true h
      by_cases h2 : tk T L (k + 1) = 6
      · have hp : pOp T L k = .ok (-(nI (tv T L (k + 1))), k + 2, false) := by unfold pOp; rw [if_pos h, if_pos h2]
        have ho := opn_m (tv_b (L := L) (k := k + 1) hT')
        refine CT.of (by decide) (Nat.le_of_ble_eq_true rfl) ?_
        refine q_aload_n dX9_operand_0 rfl rfl rfl ?_
        refine q_geti (x := nI 0) dX9_operand_1 fX9_110 rfl (ty_c hS (by decide) rfl) b1 ?_
        refine q_if_leN (tgt := 8) dX9_operand_4 (by decide) (by omega) (fun _ => ?_) (fun h => absurd h (by decide))
        refine q_aload_n dX9_operand_8 rfl rfl rfl ?_
        refine q_bipush (v := nI 45) dX9_operand_9 rfl ?_
        refine q_callV (As := [.int (nI 45)]) (rest := []) dX9_operand_11 vX9_229 (ty_c hS (by decide) rfl) ⟨by decide, rfl⟩ (hd ▸ z9_isSign hS hT' b2 (by omega)) rfl rfl (Nat.le_of_ble_eq_true rfl) (by omega) (by omega) (by omega) (k_p ?_)
        refine q_istore_n dX9_operand_14 rfl (by decide) (ls' := [(1, .int (bi true)), (0, .ref 58)]) rfl ?_
        refine q_iload_n dX9_operand_15 rfl rfl ?_
        refine q_if_eqB (tgt := 23) dX9_operand_16 (by decide) (fun h => absurd h (by decide)) (fun _ => ?_)
        refine q_aload_n dX9_operand_19 rfl rfl rfl ?_
        refine q_callV (As := []) (rest := []) dX9_operand_20 vX9_236 (ty_c hS (by decide) rfl) ⟨by decide, rfl⟩ (z9_nextM hS hT b2) rfl rfl (Nat.le_of_ble_eq_true rfl) (by omega) (by omega) (by omega) (k_v (fun s20 q20 => ?_))
        have u2 := (tkd_6 q20.2.2.2).1.mpr h2; have u6 := (tkd_6 q20.2.2.2).2 h2
        have zS20 : SK s20 := (SK.x9 q20.1 hS)
        refine q_iload_n dX9_operand_23 rfl rfl ?_
        refine q_if_eqB (tgt := 49) dX9_operand_24 (by decide) (fun h => absurd h (by decide)) (fun _ => ?_)
        refine q_aload_n dX9_operand_27 rfl rfl rfl ?_
        refine q_aload_n dX9_operand_28 rfl rfl rfl ?_
        refine q_geti (x := nI 2) dX9_operand_29 fX9_17 rfl (ty_c zS20 (by decide) rfl) u2 ?_
        refine q_iconst (v := nI 2) dX9_operand_32 rfl ?_
        refine q_icmp_neN (tgt := 40) dX9_operand_33 (by decide) (by omega) (by omega) (fun h => absurd h (by decide)) (fun _ => ?_)
        refine q_iconst (v := nI 1) dX9_operand_36 rfl ?_
        refine q_goto (tgt := 41) dX9_operand_37 (by decide) ?_
        refine q_iconst (v := nI 2) dX9_operand_41 rfl ?_
        refine q_callV (As := [.int (nI 1), .int (nI 2)]) (rest := []) dX9_operand_42 vX9_232 (ty_c zS20 (by decide) rfl) ⟨by decide, rfl⟩ (z9_must_y zS20 (bs_next b1 q20.1)) rfl rfl (Nat.le_of_ble_eq_true rfl) (by omega) (by omega) (by omega) (k_p ?_)
        refine q_if_neB (tgt := 78) dX9_operand_45 (by decide) (fun _ => ?_) (fun h => absurd h (by decide))
        refine q_aload_n dX9_operand_78 rfl rfl rfl ?_
        refine q_aload_n dX9_operand_79 rfl rfl rfl ?_
        refine q_geti (x := nI 2) dX9_operand_80 fX9_17 rfl (ty_c zS20 (by decide) rfl) u2 ?_
        refine q_iconst (v := nI 2) dX9_operand_83 rfl ?_
        refine q_icmp_neN (tgt := 91) dX9_operand_84 (by decide) (by omega) (by omega) (fun h => absurd h (by decide)) (fun _ => ?_)
        refine q_iconst (v := (-1 : Int32)) dX9_operand_87 rfl ?_
        refine q_goto (tgt := 95) dX9_operand_88 (by decide) ?_
        refine q_puti dX9_operand_95 fX9_119 rfl (Or.inl rfl) (ty_c zS20 (by decide) rfl) ?_
        refine q_aload_n dX9_operand_98 rfl rfl rfl ?_
        refine q_aload_n dX9_operand_99 rfl rfl rfl ?_
        refine q_geti (x := nI 2) dX9_operand_100 fX9_17 rfl (ty_c zS20 (by decide) rfl) (Eq.trans (rd_ne (by decide)) u2) ?_
        refine q_iconst (v := nI 2) dX9_operand_103 rfl ?_
        refine q_icmp_neN (tgt := 126) dX9_operand_104 (by decide) (by omega) (by omega) (fun h => absurd h (by decide)) (fun _ => ?_)
        refine q_iload_n dX9_operand_107 rfl rfl ?_
        refine q_if_eqB (tgt := 119) dX9_operand_108 (by decide) (fun h => absurd h (by decide)) (fun _ => ?_)
        refine q_aload_n dX9_operand_111 rfl rfl rfl ?_
        refine q_geti (x := nI (tv T L (k + 1))) dX9_operand_112 fX9_29 rfl (ty_c zS20 (by decide) rfl) (Eq.trans (rd_ne (by decide)) u6) ?_
        refine q_ineg dX9_operand_115 ?_
        refine q_goto (tgt := 127) dX9_operand_116 (by decide) ?_
        refine q_puti dX9_operand_127 fX9_122 rfl (Or.inl rfl) (ty_c zS20 (by decide) rfl) ?_
        refine q_aload_n dX9_operand_130 rfl rfl rfl ?_
        refine q_callV (As := []) (rest := []) dX9_operand_131 vX9_236 (ty_c zS20 (by decide) rfl) ⟨by decide, rfl⟩ (nx_op (σ := s20) (SK.x9 q20.1 hS) (hT.x9 q20.1) q20.2 (bs_next b1 q20.1)) rfl rfl (Nat.le_of_ble_eq_true rfl) (by omega) (by omega) (by omega) (k_v (fun s131 q131 => ?_))
        refine q_return dX9_operand_134 rfl (by omega) (by omega) ?_
        exact ⟨rfl, OpQ.ok hp q131.2.1 q131.1 rfl q131.2.2.1 q131.2.2.2.1 ho.1.symm ho.2.symm (q20.1.lb.tr q131.2.2.2.2)⟩
      · have hp : pOp T L k = .error (er T L (k + 1) 2) := by unfold pOp; rw [if_pos h, if_neg h2]
        refine CT.of (by decide) (Nat.le_of_ble_eq_true rfl) ?_
        refine q_aload_n dX9_operand_0 rfl rfl rfl ?_
        refine q_geti (x := nI 0) dX9_operand_1 fX9_110 rfl (ty_c hS (by decide) rfl) b1 ?_
        refine q_if_leN (tgt := 8) dX9_operand_4 (by decide) (by omega) (fun _ => ?_) (fun h => absurd h (by decide))
        refine q_aload_n dX9_operand_8 rfl rfl rfl ?_
        refine q_bipush (v := nI 45) dX9_operand_9 rfl ?_
        refine q_callV (As := [.int (nI 45)]) (rest := []) dX9_operand_11 vX9_229 (ty_c hS (by decide) rfl) ⟨by decide, rfl⟩ (hd ▸ z9_isSign hS hT' b2 (by omega)) rfl rfl (Nat.le_of_ble_eq_true rfl) (by omega) (by omega) (by omega) (k_p ?_)
        refine q_istore_n dX9_operand_14 rfl (by decide) (ls' := [(1, .int (bi true)), (0, .ref 58)]) rfl ?_
        refine q_iload_n dX9_operand_15 rfl rfl ?_
        refine q_if_eqB (tgt := 23) dX9_operand_16 (by decide) (fun h => absurd h (by decide)) (fun _ => ?_)
        refine q_aload_n dX9_operand_19 rfl rfl rfl ?_
        refine q_callV (As := []) (rest := []) dX9_operand_20 vX9_236 (ty_c hS (by decide) rfl) ⟨by decide, rfl⟩ (z9_nextM hS hT b2) rfl rfl (Nat.le_of_ble_eq_true rfl) (by omega) (by omega) (by omega) (k_v (fun s20 q20 => ?_))
        have u2 := fun z => h2 ((tkd_6 q20.2.2.2).1.mp z)
        have zS20 : SK s20 := (SK.x9 q20.1 hS)
        refine q_iload_n dX9_operand_23 rfl rfl ?_
        refine q_if_eqB (tgt := 49) dX9_operand_24 (by decide) (fun h => absurd h (by decide)) (fun _ => ?_)
        refine q_aload_n dX9_operand_27 rfl rfl rfl ?_
        refine q_aload_n dX9_operand_28 rfl rfl rfl ?_
        refine q_geti (x := sI s20 58 2) dX9_operand_29 fX9_17 rfl (ty_c zS20 (by decide) rfl) rfl ?_
        refine q_iconst (v := nI 2) dX9_operand_32 rfl ?_
        refine q_icmp_ne (tgt := 40) dX9_operand_33 (by decide) (fun c33 => ?_) (fun c33 => ?_)
        · skip
          refine q_iconst (v := nI 0) dX9_operand_40 rfl ?_
          refine q_iconst (v := nI 2) dX9_operand_41 rfl ?_
          refine q_callV (As := [.int (nI 0), .int (nI 2)]) (rest := []) dX9_operand_42 vX9_232 (ty_c zS20 (by decide) rfl) ⟨by decide, rfl⟩ (z9_must_n zS20 (bs_next b1 q20.1) q20.2 (by omega)) rfl rfl (Nat.le_of_ble_eq_true rfl) (by omega) (by omega) (by omega) (k_p ?_)
          refine q_if_neB (tgt := 78) dX9_operand_45 (by decide) (fun h => absurd h (by decide)) (fun _ => ?_)
          refine q_return dX9_operand_48 rfl (by omega) (by omega) ?_
          exact ⟨rfl, OpQ.er hp (erM_bs (er_b (by omega))) (q20.1.lb.tr erM_lb)⟩
        · exact absurd c33 u2
    · have hd : decide (tk T L k = 7 ∧ tv T L k = 45) = false := decide_eq_false h
      by_cases h2 : tk T L k = 6
      · have hp : pOp T L k = .ok (nI (tv T L k), k + 1, false) := by unfold pOp; rw [if_neg h, if_pos h2]
        have ho := opn_n (tv_b (L := L) (k := k) hT')
        have u2 := t6.1.mpr h2
        have u6 := t6.2 h2
        refine CT.of (by decide) (Nat.le_of_ble_eq_true rfl) ?_
        refine q_aload_n dX9_operand_0 rfl rfl rfl ?_
        refine q_geti (x := nI 0) dX9_operand_1 fX9_110 rfl (ty_c hS (by decide) rfl) b1 ?_
        refine q_if_leN (tgt := 8) dX9_operand_4 (by decide) (by omega) (fun _ => ?_) (fun h => absurd h (by decide))
        refine q_aload_n dX9_operand_8 rfl rfl rfl ?_
        refine q_bipush (v := nI 45) dX9_operand_9 rfl ?_
        refine q_callV (As := [.int (nI 45)]) (rest := []) dX9_operand_11 vX9_229 (ty_c hS (by decide) rfl) ⟨by decide, rfl⟩ (hd ▸ z9_isSign hS hT' b2 (by omega)) rfl rfl (Nat.le_of_ble_eq_true rfl) (by omega) (by omega) (by omega) (k_p ?_)
        refine q_istore_n dX9_operand_14 rfl (by decide) (ls' := [(1, .int (bi false)), (0, .ref 58)]) rfl ?_
        refine q_iload_n dX9_operand_15 rfl rfl ?_
        refine q_if_eqB (tgt := 23) dX9_operand_16 (by decide) (fun _ => ?_) (fun h => absurd h (by decide))
        refine q_iload_n dX9_operand_23 rfl rfl ?_
        refine q_if_eqB (tgt := 49) dX9_operand_24 (by decide) (fun _ => ?_) (fun h => absurd h (by decide))
        refine q_aload_n dX9_operand_49 rfl rfl rfl ?_
        refine q_aload_n dX9_operand_50 rfl rfl rfl ?_
        refine q_geti (x := nI 2) dX9_operand_51 fX9_17 rfl (ty_c hS (by decide) rfl) u2 ?_
        refine q_iconst (v := nI 2) dX9_operand_54 rfl ?_
        refine q_icmp_eqN (tgt := 65) dX9_operand_55 (by decide) (by omega) (by omega) (fun _ => ?_) (fun h => absurd h (by decide))
        refine q_iconst (v := nI 1) dX9_operand_65 rfl ?_
        refine q_goto (tgt := 70) dX9_operand_66 (by decide) ?_
        refine q_iconst (v := nI 2) dX9_operand_70 rfl ?_
        refine q_callV (As := [.int (nI 1), .int (nI 2)]) (rest := []) dX9_operand_71 vX9_232 (ty_c hS (by decide) rfl) ⟨by decide, rfl⟩ (z9_must_y hS b1) rfl rfl (Nat.le_of_ble_eq_true rfl) (by omega) (by omega) (by omega) (k_p ?_)
        refine q_if_neB (tgt := 78) dX9_operand_74 (by decide) (fun _ => ?_) (fun h => absurd h (by decide))
        refine q_aload_n dX9_operand_78 rfl rfl rfl ?_
        refine q_aload_n dX9_operand_79 rfl rfl rfl ?_
        refine q_geti (x := nI 2) dX9_operand_80 fX9_17 rfl (ty_c hS (by decide) rfl) u2 ?_
        refine q_iconst (v := nI 2) dX9_operand_83 rfl ?_
        refine q_icmp_neN (tgt := 91) dX9_operand_84 (by decide) (by omega) (by omega) (fun h => absurd h (by decide)) (fun _ => ?_)
        refine q_iconst (v := (-1 : Int32)) dX9_operand_87 rfl ?_
        refine q_goto (tgt := 95) dX9_operand_88 (by decide) ?_
        refine q_puti dX9_operand_95 fX9_119 rfl (Or.inl rfl) (ty_c hS (by decide) rfl) ?_
        refine q_aload_n dX9_operand_98 rfl rfl rfl ?_
        refine q_aload_n dX9_operand_99 rfl rfl rfl ?_
        refine q_geti (x := nI 2) dX9_operand_100 fX9_17 rfl (ty_c hS (by decide) rfl) (Eq.trans (rd_ne (by decide)) u2) ?_
        refine q_iconst (v := nI 2) dX9_operand_103 rfl ?_
        refine q_icmp_neN (tgt := 126) dX9_operand_104 (by decide) (by omega) (by omega) (fun h => absurd h (by decide)) (fun _ => ?_)
        refine q_iload_n dX9_operand_107 rfl rfl ?_
        refine q_if_eqB (tgt := 119) dX9_operand_108 (by decide) (fun _ => ?_) (fun h => absurd h (by decide))
        refine q_aload_n dX9_operand_119 rfl rfl rfl ?_
        refine q_geti (x := nI (tv T L k)) dX9_operand_120 fX9_29 rfl (ty_c hS (by decide) rfl) (Eq.trans (rd_ne (by decide)) u6) ?_
        refine q_goto (tgt := 127) dX9_operand_123 (by decide) ?_
        refine q_puti dX9_operand_127 fX9_122 rfl (Or.inl rfl) (ty_c hS (by decide) rfl) ?_
        refine q_aload_n dX9_operand_130 rfl rfl rfl ?_
        refine q_callV (As := []) (rest := []) dX9_operand_131 vX9_236 (ty_c hS (by decide) rfl) ⟨by decide, rfl⟩ (nx_op (σ := σ) hS hT b2 b1) rfl rfl (Nat.le_of_ble_eq_true rfl) (by omega) (by omega) (by omega) (k_v (fun s131 q131 => ?_))
        refine q_return dX9_operand_134 rfl (by omega) (by omega) ?_
        exact ⟨rfl, OpQ.ok hp q131.2.1 q131.1 rfl q131.2.2.1 q131.2.2.2.1 ho.1.symm ho.2.symm q131.2.2.2.2⟩
      · have u2 := fun z => h2 (t6.1.mp z)
        by_cases h3 : tk T L k = 3
        · have hp : pOp T L k = .ok (nI (1000000000 + tv T L k), k + 1, decide (16 ≤ tv T L k)) := by unfold pOp; rw [if_neg h, if_neg h2, if_pos h3]
          have hv : tv T L k < 48 := tv_345.1 h3
          have ho := opn_nm (v := tv T L k) (by omega)
          refine CT.of (by decide) (Nat.le_of_ble_eq_true rfl) ?_
          refine q_aload_n dX9_operand_0 rfl rfl rfl ?_
          refine q_geti (x := nI 0) dX9_operand_1 fX9_110 rfl (ty_c hS (by decide) rfl) b1 ?_
          refine q_if_leN (tgt := 8) dX9_operand_4 (by decide) (by omega) (fun _ => ?_) (fun h => absurd h (by decide))
          refine q_aload_n dX9_operand_8 rfl rfl rfl ?_
          refine q_bipush (v := nI 45) dX9_operand_9 rfl ?_
          refine q_callV (As := [.int (nI 45)]) (rest := []) dX9_operand_11 vX9_229 (ty_c hS (by decide) rfl) ⟨by decide, rfl⟩ (hd ▸ z9_isSign hS hT' b2 (by omega)) rfl rfl (Nat.le_of_ble_eq_true rfl) (by omega) (by omega) (by omega) (k_p ?_)
          refine q_istore_n dX9_operand_14 rfl (by decide) (ls' := [(1, .int (bi false)), (0, .ref 58)]) rfl ?_
          refine q_iload_n dX9_operand_15 rfl rfl ?_
          refine q_if_eqB (tgt := 23) dX9_operand_16 (by decide) (fun _ => ?_) (fun h => absurd h (by decide))
          refine q_iload_n dX9_operand_23 rfl rfl ?_
          refine q_if_eqB (tgt := 49) dX9_operand_24 (by decide) (fun _ => ?_) (fun h => absurd h (by decide))
          refine q_aload_n dX9_operand_49 rfl rfl rfl ?_
          refine q_aload_n dX9_operand_50 rfl rfl rfl ?_
          refine q_geti (x := sI σ 58 2) dX9_operand_51 fX9_17 rfl (ty_c hS (by decide) rfl) rfl ?_
          refine q_iconst (v := nI 2) dX9_operand_54 rfl ?_
          refine q_icmp_eq (tgt := 65) dX9_operand_55 (by decide) (fun c55 => ?_) (fun c55 => ?_)
          · exact absurd c55 u2
          · skip
            refine q_aload_n dX9_operand_58 rfl rfl rfl ?_
            refine q_callV (As := []) (rest := [.ref 58]) dX9_operand_59 vX9_239 (ty_c hS (by decide) rfl) ⟨by decide, rfl⟩ (z9_named_y hS b2 h3) rfl rfl (Nat.le_of_ble_eq_true rfl) (by omega) (by omega) (by omega) (k_p ?_)
            refine q_if_ltN (tgt := 69) dX9_operand_62 (by decide) (by omega) ?_
            refine q_iconst (v := nI 1) dX9_operand_65 rfl ?_
            refine q_goto (tgt := 70) dX9_operand_66 (by decide) ?_
            refine q_iconst (v := nI 2) dX9_operand_70 rfl ?_
            refine q_callV (As := [.int (nI 1), .int (nI 2)]) (rest := []) dX9_operand_71 vX9_232 (ty_c hS (by decide) rfl) ⟨by decide, rfl⟩ (z9_must_y hS b1) rfl rfl (Nat.le_of_ble_eq_true rfl) (by omega) (by omega) (by omega) (k_p ?_)
            refine q_if_neB (tgt := 78) dX9_operand_74 (by decide) (fun _ => ?_) (fun h => absurd h (by decide))
            refine q_aload_n dX9_operand_78 rfl rfl rfl ?_
            refine q_aload_n dX9_operand_79 rfl rfl rfl ?_
            refine q_geti (x := sI σ 58 2) dX9_operand_80 fX9_17 rfl (ty_c hS (by decide) rfl) rfl ?_
            refine q_iconst (v := nI 2) dX9_operand_83 rfl ?_
            refine q_icmp_ne (tgt := 91) dX9_operand_84 (by decide) (fun c84 => ?_) (fun c84 => ?_)
            · skip
              refine q_aload_n dX9_operand_91 rfl rfl rfl ?_
              refine q_callV (As := []) (rest := [.ref 58]) dX9_operand_92 vX9_239 (ty_c hS (by decide) rfl) ⟨by decide, rfl⟩ (z9_named_y hS b2 h3) rfl rfl (Nat.le_of_ble_eq_true rfl) (by omega) (by omega) (by omega) (k_p ?_)
              refine q_puti dX9_operand_95 fX9_119 rfl (Or.inl rfl) (ty_c hS (by decide) rfl) ?_
              refine q_aload_n dX9_operand_98 rfl rfl rfl ?_
              refine q_aload_n dX9_operand_99 rfl rfl rfl ?_
              refine q_geti (x := sI σ 58 2) dX9_operand_100 fX9_17 rfl (ty_c hS (by decide) rfl) (rd_ne (by decide)) ?_
              refine q_iconst (v := nI 2) dX9_operand_103 rfl ?_
              refine q_icmp_ne (tgt := 126) dX9_operand_104 (by decide) (fun c104 => ?_) (fun c104 => ?_)
              · skip
                refine q_iconst (v := nI 0) dX9_operand_126 rfl ?_
                refine q_puti dX9_operand_127 fX9_122 rfl (Or.inl rfl) (ty_c hS (by decide) rfl) ?_
                refine q_aload_n dX9_operand_130 rfl rfl rfl ?_
                refine q_callV (As := []) (rest := []) dX9_operand_131 vX9_236 (ty_c hS (by decide) rfl) ⟨by decide, rfl⟩ (nx_op (σ := σ) hS hT b2 b1) rfl rfl (Nat.le_of_ble_eq_true rfl) (by omega) (by omega) (by omega) (k_v (fun s131 q131 => ?_))
                refine q_return dX9_operand_134 rfl (by omega) (by omega) ?_
                exact ⟨rfl, OpQ.ok hp q131.2.1 q131.1 rfl q131.2.2.1 q131.2.2.2.1 ho.1.symm ho.2.symm q131.2.2.2.2⟩
              · exact absurd c104 u2
            · exact absurd c84 u2
        · have hp : pOp T L k = .error (er T L k 2) := by unfold pOp; rw [if_neg h, if_neg h2, if_neg h3]
          refine CT.of (by decide) (Nat.le_of_ble_eq_true rfl) ?_
          refine q_aload_n dX9_operand_0 rfl rfl rfl ?_
          refine q_geti (x := nI 0) dX9_operand_1 fX9_110 rfl (ty_c hS (by decide) rfl) b1 ?_
          refine q_if_leN (tgt := 8) dX9_operand_4 (by decide) (by omega) (fun _ => ?_) (fun h => absurd h (by decide))
          refine q_aload_n dX9_operand_8 rfl rfl rfl ?_
          refine q_bipush (v := nI 45) dX9_operand_9 rfl ?_
          refine q_callV (As := [.int (nI 45)]) (rest := []) dX9_operand_11 vX9_229 (ty_c hS (by decide) rfl) ⟨by decide, rfl⟩ (hd ▸ z9_isSign hS hT' b2 (by omega)) rfl rfl (Nat.le_of_ble_eq_true rfl) (by omega) (by omega) (by omega) (k_p ?_)
          refine q_istore_n dX9_operand_14 rfl (by decide) (ls' := [(1, .int (bi false)), (0, .ref 58)]) rfl ?_
          refine q_iload_n dX9_operand_15 rfl rfl ?_
          refine q_if_eqB (tgt := 23) dX9_operand_16 (by decide) (fun _ => ?_) (fun h => absurd h (by decide))
          refine q_iload_n dX9_operand_23 rfl rfl ?_
          refine q_if_eqB (tgt := 49) dX9_operand_24 (by decide) (fun _ => ?_) (fun h => absurd h (by decide))
          refine q_aload_n dX9_operand_49 rfl rfl rfl ?_
          refine q_aload_n dX9_operand_50 rfl rfl rfl ?_
          refine q_geti (x := sI σ 58 2) dX9_operand_51 fX9_17 rfl (ty_c hS (by decide) rfl) rfl ?_
          refine q_iconst (v := nI 2) dX9_operand_54 rfl ?_
          refine q_icmp_eq (tgt := 65) dX9_operand_55 (by decide) (fun c55 => ?_) (fun c55 => ?_)
          · exact absurd c55 u2
          · skip
            refine q_aload_n dX9_operand_58 rfl rfl rfl ?_
            refine q_callV (As := []) (rest := [.ref 58]) dX9_operand_59 vX9_239 (ty_c hS (by decide) rfl) ⟨by decide, rfl⟩ (z9_named_n hS b2 h3) rfl rfl (Nat.le_of_ble_eq_true rfl) (by omega) (by omega) (by omega) (k_p ?_)
            refine q_if_lt1 (tgt := 69) dX9_operand_62 (by decide) (by decide) ?_
            refine q_iconst (v := nI 0) dX9_operand_69 rfl ?_
            refine q_iconst (v := nI 2) dX9_operand_70 rfl ?_
            refine q_callV (As := [.int (nI 0), .int (nI 2)]) (rest := []) dX9_operand_71 vX9_232 (ty_c hS (by decide) rfl) ⟨by decide, rfl⟩ (z9_must_n hS b1 b2 (by omega)) rfl rfl (Nat.le_of_ble_eq_true rfl) (by omega) (by omega) (by omega) (k_p ?_)
            refine q_if_neB (tgt := 78) dX9_operand_74 (by decide) (fun h => absurd h (by decide)) (fun _ => ?_)
            refine q_return dX9_operand_77 rfl (by omega) (by omega) ?_
            exact ⟨rfl, OpQ.er hp (erM_bs (er_b (by omega))) erM_lb⟩
end MTA
