/-! The model: copy. -/
/-- a ROUTINE with its facts in place p of the model -/
def MR (σ : HS) (p : Nat) (q : PS) : Prop := MR0 σ p q ∧ ∀ e, e < (psM q).length → fcS σ ((32 * p + e) * 240) (NN q) (fun b n => atB q b e n)
/-- all of place p -/
def cpq (p h i : Nat) : Prop := (60 ≤ h ∧ h ≤ 64 ∧ i = p) ∨ (h = 95 ∧ i = p) ∨ (h = 65 ∧ 41 * p ≤ i ∧ i < 41 * p + 41) ∨ (67 ≤ h ∧ h ≤ 77 ∧ 240 * p ≤ i ∧ i < 240 * p + 240) ∨ (78 ≤ h ∧ h ≤ 82 ∧ 32 * p ≤ i ∧ i < 32 * p + 32) ∨ (h = 83 ∧ 7680 * p ≤ i ∧ i < 7680 * p + 7680)
theorem NE.mv {σ σ' : HS} {n m : Nat} {r : REC} (h : ∀ a, 67 ≤ a → a ≤ 77 → a ≠ 71 → a ≠ 72 → sI σ' a m = sI σ a n) (k : NE σ n r) : NE σ' m r := by
  unfold NE at k ⊢
  rw [h 67 (by omega) (by omega) (by omega) (by omega), h 68 (by omega) (by omega) (by omega) (by omega), h 69 (by omega) (by omega) (by omega) (by omega), h 70 (by omega) (by omega) (by omega) (by omega), h 73 (by omega) (by omega) (by omega) (by omega), h 74 (by omega) (by omega) (by omega) (by omega), h 75 (by omega) (by omega) (by omega) (by omega), h 76 (by omega) (by omega) (by omega) (by omega), h 77 (by omega) (by omega) (by omega) (by omega)]
  exact k
theorem SMm.mv {σ σ' : HS} {s t : Nat} {x : SUM} (h : ∀ a, 78 ≤ a → a ≤ 82 → sI σ' a t = sI σ a s) (k : SMm σ s x) : SMm σ' t x := by
  unfold SMm at k ⊢
  rw [h 78 (by omega) (by omega), h 79 (by omega) (by omega), h 80 (by omega) (by omega), h 81 (by omega) (by omega), h 82 (by omega) (by omega)]
  exact k
theorem MR.fq {P : Nat → Nat → Prop} {σ σ' : HS} {p : Nat} {q : PS} (hc : BC q) (hw : WFs q) (f : FR9 P σ σ') (h : ∀ a i, P a i → ¬ cpq p a i ∨ a = 60 ∨ a = 95) (k : MR σ p q) : MR σ' p q := by
  have hN := NN_le hc
  have h40 := hc.2.1
  have h32 := hw.2.2.2.1
  have e : ∀ a i, cpq p a i → a ≠ 60 → a ≠ 95 → sI σ' a i = sI σ a i := fun a i z z1 z2 => f.2.2.2 a i fun y => by rcases h a i y with h | h | h; exact h z; exact z1 h; exact z2 h
  obtain ⟨⟨k1, k2, k3, k4, k5, k6, k7⟩, k8⟩ := k
  refine ⟨⟨(e _ _ (by unfold cpq; omega) (by omega) (by omega)).trans k1, (e _ _ (by unfold cpq; omega) (by omega) (by omega)).trans k2, (e _ _ (by unfold cpq; omega) (by omega) (by omega)).trans k3, (e _ _ (by unfold cpq; omega) (by omega) (by omega)).trans k4, fun b hb => (e _ _ (by unfold cpq; omega) (by omega) (by omega)).trans (k5 b hb), fun i hi => ?_, fun s hs => ?_⟩, fun s hs n hn => ?_⟩
  · obtain ⟨a1, a2, a3⟩ := k6 i hi
    exact ⟨a1.mv fun a b1 b2 _ _ => e a _ (by unfold cpq; omega) (by omega) (by omega), (e _ _ (by unfold cpq; omega) (by omega) (by omega)).trans a2, (e _ _ (by unfold cpq; omega) (by omega) (by omega)).trans a3⟩
  · exact (k7 s hs).mv fun a b1 b2 => e a _ (by unfold cpq; omega) (by omega) (by omega)
  · exact (e _ _ (by unfold cpq; omega) (by omega) (by omega)).trans (k8 s hs n hn)
/-- one NODE copied -/
def cpN (σ : HS) (d s : Nat) : HS := uI (uI (uI (uI (uI (uI (uI (uI (uI (uI (uI σ 67 d (sI σ 67 s)) 68 d (sI σ 68 s)) 69 d (sI σ 69 s)) 70 d (sI σ 70 s)) 71 d (sI σ 71 s)) 72 d (sI σ 72 s)) 73 d (sI σ 73 s)) 74 d (sI σ 74 s)) 75 d (sI σ 75 s)) 76 d (sI σ 76 s)) 77 d (sI σ 77 s)
theorem cpN_f {σ : HS} {d s : Nat} : FR9 (fun h i => 67 ≤ h ∧ h ≤ 77 ∧ i = d) σ (cpN σ d s) := ((((((((((FR9.rf.uI ⟨by omega, by omega, rfl⟩).uI ⟨by omega, by omega, rfl⟩).uI ⟨by omega, by omega, rfl⟩).uI ⟨by omega, by omega, rfl⟩).uI ⟨by omega, by omega, rfl⟩).uI ⟨by omega, by omega, rfl⟩).uI ⟨by omega, by omega, rfl⟩).uI ⟨by omega, by omega, rfl⟩).uI ⟨by omega, by omega, rfl⟩).uI ⟨by omega, by omega, rfl⟩).uI ⟨by omega, by omega, rfl⟩
theorem cpN_v {σ : HS} {d s a : Nat} (h1 : 67 ≤ a) (h2 : a ≤ 77) : sI (cpN σ d s) a d = sI σ a s := by
  unfold cpN
  simp only [sI_uI]
  rcases (show a = 67 ∨ a = 68 ∨ a = 69 ∨ a = 70 ∨ a = 71 ∨ a = 72 ∨ a = 73 ∨ a = 74 ∨ a = 75 ∨ a = 76 ∨ a = 77 by omega) with rfl | rfl | rfl | rfl | rfl | rfl | rfl | rfl | rfl | rfl | rfl <;> simp
/-- one SUM copied -/
def cpM (σ : HS) (d s : Nat) : HS := uI (uI (uI (uI (uI σ 78 d (sI σ 78 s)) 79 d (sI σ 79 s)) 80 d (sI σ 80 s)) 81 d (sI σ 81 s)) 82 d (sI σ 82 s)
theorem cpM_f {σ : HS} {d s : Nat} : FR9 (fun h i => 78 ≤ h ∧ h ≤ 82 ∧ i = d) σ (cpM σ d s) := ((((FR9.rf.uI ⟨by omega, by omega, rfl⟩).uI ⟨by omega, by omega, rfl⟩).uI ⟨by omega, by omega, rfl⟩).uI ⟨by omega, by omega, rfl⟩).uI ⟨by omega, by omega, rfl⟩
theorem cpM_v {σ : HS} {d s a : Nat} (h1 : 78 ≤ a) (h2 : a ≤ 82) : sI (cpM σ d s) a d = sI σ a s := by
  unfold cpM
  simp only [sI_uI]
  rcases (show a = 78 ∨ a = 79 ∨ a = 80 ∨ a = 81 ∨ a = 82 by omega) with rfl | rfl | rfl | rfl | rfl <;> simp
def cpH (σ : HS) (p : Nat) : HS := uI (uI (uI (uI (uI (uI σ 60 p (nI 1)) 61 p (sI σ 61 4)) 62 p (sI σ 62 4)) 63 p (sI σ 63 4)) 64 p (sI σ 64 4)) 95 p (nI 0)
section MCP
variable {g : GG} {σ σ0 : HS} {q : PS} {p : Nat} {Z : List Frame → Array Value → State → State → Prop}
/-- the new ROUTINE stays while place p is written -/
theorem mrk (hc : BC q) (hw : WFs q) (hp : p < 4) (f : FR9 (cpq p) σ0 σ) (h : MR σ0 4 q) : MR σ 4 q := h.fq hc hw f fun a i z => by unfold cpq at z ⊢; omega
/-- the head of place p -/
def CH (σ : HS) (p : Nat) (q : PS) : Prop := sI σ 60 p = nI 1 ∧ sI σ 95 p = nI 0 ∧ sI σ 61 p = nI (psF q).length ∧ sI σ 62 p = nI (NN q) ∧ sI σ 63 p = nI (psS q).length ∧ sI σ 64 p = nI (psM q).length
theorem CH.fq {P : Nat → Nat → Prop} {σ σ' : HS} (f : FR9 P σ σ') (h : ∀ a i, P a i → 65 ≤ a ∧ a ≠ 95) (k : CH σ p q) : CH σ' p q := by
  have e : ∀ a i, a < 65 ∨ a = 95 → sI σ' a i = sI σ a i := fun a i z => f.2.2.2 a i fun y => by have := h a i y; omega
  obtain ⟨k1, k2, k3, k4, k5, k6⟩ := k
  exact ⟨(e _ _ (by omega)).trans k1, (e _ _ (by omega)).trans k2, (e _ _ (by omega)).trans k3, (e _ _ (by omega)).trans k4, (e _ _ (by omega)).trans k5, (e _ _ (by omega)).trans k6⟩
def CB (σ : HS) (p : Nat) (q : PS) (k : Nat) : Prop := ∀ b, b < k → sI σ 65 (41 * p + b) = nI (nf q b)
def CN (σ : HS) (p : Nat) (q : PS) (k : Nat) : Prop := ∀ i, i < k → NE σ (240 * p + i) (rg q i) ∧ sI σ 71 (240 * p + i) = oW (ld q 0 i) ∧ sI σ 72 (240 * p + i) = oW (ld q 1 i)
def CM (σ : HS) (p : Nat) (q : PS) (k : Nat) : Prop := ∀ e, e < k → SMm σ (32 * p + e) (sm q e) ∧ fcS σ ((32 * p + e) * 240) (NN q) (fun b n => atB q b e n)
theorem CB.fq {P : Nat → Nat → Prop} {σ σ' : HS} {k : Nat} (f : FR9 P σ σ') (h : ∀ a i, P a i → a ≠ 65) (c : CB σ p q k) : CB σ' p q k := fun b hb => (f.2.2.2 _ _ fun y => h _ _ y rfl).trans (c b hb)
theorem CN.fq {P : Nat → Nat → Prop} {σ σ' : HS} {k : Nat} (f : FR9 P σ σ') (h : ∀ a i, P a i → a < 67 ∨ 77 < a ∨ 240 * p + k ≤ i) (c : CN σ p q k) : CN σ' p q k := fun i hi => by
  have e : ∀ a, 67 ≤ a → a ≤ 77 → sI σ' a (240 * p + i) = sI σ a (240 * p + i) := fun a h1 h2 => f.2.2.2 _ _ fun y => by have := h _ _ y; omega
  obtain ⟨a1, a2, a3⟩ := c i hi
  exact ⟨a1.mv fun a b1 b2 _ _ => e a b1 b2, (e _ (by omega) (by omega)).trans a2, (e _ (by omega) (by omega)).trans a3⟩
theorem CM.fq {P : Nat → Nat → Prop} {σ σ' : HS} {k : Nat} (hN : NN q ≤ 240) (f : FR9 P σ σ') (h : ∀ a i, P a i → a < 78 ∨ 83 < a ∨ (a < 83 ∧ 32 * p + k ≤ i) ∨ (a = 83 ∧ (32 * p + k) * 240 ≤ i)) (c : CM σ p q k) : CM σ' p q k := fun e he => by
  refine ⟨(c e he).1.mv fun a h1 h2 => f.2.2.2 _ _ fun y => by have := h _ _ y; omega, fun n hn => ?_⟩
  exact (f.2.2.2 _ _ fun y => by have := h _ _ y; omega).trans ((c e he).2 n hn)
/-- behind copy -/
def CpQ (σ : HS) (p : Nat) (q : PS) : HS → Prop := fun σ' => FR9 (cpq p) σ σ' ∧ MR σ' p q ∧ sI σ' 60 p = nI 1 ∧ sI σ' 95 p = nI 0
theorem y9_cp396 (hS : SK σ0) (hM : MR σ0 4 q) (hc : BC q) (hw : WFs q) (hp : p < 4) {e : Nat} (he : e < (psM q).length) (K : ∀ σ', FR9 (cpq p) σ0 σ' → CH σ' p q → CB σ' p q (psF q).length → CN σ' p q (NN q) → CM σ' p q (e + 1) → WA g mX9_copy 1 0 0 Z 0 0 279 [(0, .ref 58), (1, .int (nI p)), (2, .int (nI (e + 1)))] [] σ') : ∀ (m k : Nat) (σ : HS), k + m = NN q → FR9 (cpq p) σ0 σ → CH σ p q → CB σ p q (psF q).length → CN σ p q (NN q) → CM σ p q e → SMm σ (32 * p + e) (sm q e) → fcS σ ((32 * p + e) * 240) k (fun b n => atB q b e n) → WA g mX9_copy 1 0 0 Z 0 0 396 [(0, .ref 58), (1, .int (nI p)), (2, .int (nI e)), (3, .int (nI k))] [] σ := by
  have hN := NN_le hc
  have h32 := hw.2.2.2.1
  intro m
  induction m with
  | zero =>
    intro k σ hk h1 h2 h3 h4 h5 h6 h7
    have ek : k = NN q := by omega
    rw [ek] at h7 ⊢
    have r62 := h2.2.2.2.1
    refine q_iload_n dX9_copy_396 rfl rfl ?_
    refine q_aload_n dX9_copy_397 rfl rfl rfl ?_
    refine q_getr (r := 62) dX9_copy_398 fX9_43 rfl (ty_c (SK.fq h1 hS) (by decide) rfl) ((SK.fq h1 hS).2 58 10 62 rfl) ?_
    refine q_iload_n dX9_copy_401 rfl rfl ?_
    refine q_iald (x := nI (NN q)) (j := p) dX9_copy_402 (ty_c (SK.fq h1 hS) (by decide) rfl) (ix_n (by omega) (by omega)) r62 ?_
    refine q_icmp_geN (tgt := 438) dX9_copy_403 (by decide) (by omega) (by omega) (fun c403 => ?_) (fun c403 => ?_)
    · skip
      refine q_iincN (c := 1) dX9_copy_438 rfl (by decide) rfl (ls' := [(2, .int (nI (e + 1))), (0, .ref 58), (1, .int (nI p)), (3, .int (nI (NN q)))]) rfl ?_
      refine q_goto (tgt := 279) dX9_copy_441 (by decide) ?_
      refine q_pk [1, 2, 0] (ls' := [(0, .ref 58), (1, .int (nI p)), (2, .int (nI (e + 1)))]) rfl ?_
      refine K σ h1 h2 h3 h4 fun i hi => ?_
      by_cases ei : i = e
      · rw [ei]; exact ⟨h6, h7⟩
      · exact h5 i (by omega)
    · exact absurd c403 (by omega)
  | succ m ih =>
    intro k σ hk h1 h2 h3 h4 h5 h6 h7
    have hkN : k < NN q := by omega
    have r62 := h2.2.2.2.1
    have hS1 := SK.fq h1 hS
    have src : sI σ 83 ((32 * 4 + e) * 240 + k) = mkN (fun b => atB q b e k) 8 := (mrk hc hw hp h1 hM).2 e he k hkN
    have fr : FR9 (fun h i => h = 83 ∧ i = (32 * p + e) * 240 + k) σ (uI σ 83 ((32 * p + e) * 240 + k) (mkN (fun b => atB q b e k) 8)) := FR9.rf.uI ⟨rfl, rfl⟩
    have nx : WA g mX9_copy 1 0 0 Z 0 0 396 [(0, .ref 58), (1, .int (nI p)), (2, .int (nI e)), (3, .int (nI (k + 1)))] [] (uI σ 83 ((32 * p + e) * 240 + k) (mkN (fun b => atB q b e k) 8)) := by
      refine ih (k + 1) _ (by omega) (h1.tr (fr.mono fun a i z => by unfold cpq; omega)) (h2.fq fr (fun a i z => by omega)) (h3.fq fr (fun a i z => by omega)) (h4.fq fr (fun a i z => by omega)) (h5.fq hN fr (fun a i z => by omega)) (h6.mv fun a b1 b2 => rd_off (by omega)) fun n hn => ?_
      by_cases en : n = k
      · rw [en]; exact uI_self
      · exact (rd_ne (by omega)).trans (h7 n (by omega))
    refine q_iload_n dX9_copy_396 rfl rfl ?_
    refine q_aload_n dX9_copy_397 rfl rfl rfl ?_
    refine q_getr (r := 62) dX9_copy_398 fX9_43 rfl (ty_c hS1 (by decide) rfl) (hS1.2 58 10 62 rfl) ?_
    refine q_iload_n dX9_copy_401 rfl rfl ?_
    refine q_iald (x := nI (NN q)) (j := p) dX9_copy_402 (ty_c hS1 (by decide) rfl) (ix_n (by omega) (by omega)) r62 ?_
    refine q_icmp_geN (tgt := 438) dX9_copy_403 (by decide) (by omega) (by omega) (fun c403 => ?_) (fun c403 => ?_)
    · exact absurd c403 (by omega)
    · skip
      refine q_aload_n dX9_copy_406 rfl rfl rfl ?_
      refine q_getr (r := 83) dX9_copy_407 fX9_107 rfl (ty_c hS1 (by decide) rfl) (hS1.2 58 31 83 rfl) ?_
      refine q_aload_n dX9_copy_410 rfl rfl rfl ?_
      refine q_iload_n dX9_copy_411 rfl rfl ?_
      refine q_iload_n dX9_copy_412 rfl rfl ?_
      refine q_callV (As := [.int (nI p), .int (nI e)]) (rest := [.ref 83]) dX9_copy_413 vX9_338 (ty_c hS1 (by decide) rfl) ⟨by decide, rfl⟩ (z9_base hS1 (p := p) (e := e) (by omega) (by omega)) rfl rfl (Nat.le_of_ble_eq_true rfl) (by omega) (by omega) (by omega) (k_p ?_)
      refine q_iload_n dX9_copy_416 rfl rfl ?_
      refine q_iaddN dX9_copy_417 ?_
      refine q_aload_n dX9_copy_418 rfl rfl rfl ?_
      refine q_getr (r := 83) dX9_copy_419 fX9_107 rfl (ty_c hS1 (by decide) rfl) (hS1.2 58 31 83 rfl) ?_
      refine q_aload_n dX9_copy_422 rfl rfl rfl ?_
      refine q_iconst (v := nI 4) dX9_copy_423 rfl ?_
      refine q_iload_n dX9_copy_424 rfl rfl ?_
      refine q_callV (As := [.int (nI 4), .int (nI e)]) (rest := [.ref 83, .int (nI (((32 * p + e) * 240) + k)), .ref 83]) dX9_copy_425 vX9_338 (ty_c hS1 (by decide) rfl) ⟨by decide, rfl⟩ (z9_base hS1 (p := 4) (e := e) (by omega) (by omega)) rfl rfl (Nat.le_of_ble_eq_true rfl) (by omega) (by omega) (by omega) (k_p ?_)
      refine q_iload_n dX9_copy_428 rfl rfl ?_
      refine q_iaddN dX9_copy_429 ?_
      refine q_iald (x := mkN (fun b => atB q b e k) 8) (j := (((32 * 4 + e) * 240) + k)) dX9_copy_430 (ty_c hS1 (by decide) rfl) (ix_n (by omega) (by omega)) src ?_
      refine q_iast (j := (((32 * p + e) * 240) + k)) dX9_copy_431 (ty_c hS1 (by decide) rfl) (ix_n (by omega) (by omega)) ?_
      refine q_iincN (c := 1) dX9_copy_432 rfl (by decide) rfl (ls' := [(3, .int (nI (k + 1))), (0, .ref 58), (1, .int (nI p)), (2, .int (nI e))]) rfl ?_
      refine q_goto (tgt := 396) dX9_copy_435 (by decide) ?_
      refine q_pk [1, 2, 3, 0] (ls' := [(0, .ref 58), (1, .int (nI p)), (2, .int (nI e)), (3, .int (nI (k + 1)))]) rfl ?_
      exact nx
theorem y9_cp279 (hS : SK σ0) (hM : MR σ0 4 q) (hc : BC q) (hw : WFs q) (hp : p < 4) : ∀ (m e : Nat) (σ : HS), e + m = (psM q).length → FR9 (cpq p) σ0 σ → CH σ p q → CB σ p q (psF q).length → CN σ p q (NN q) → CM σ p q e → WA g mX9_copy 1 0 0 (ZM g (fun r σ' => r = none ∧ CpQ σ0 p q σ') 0 0) 0 0 279 [(0, .ref 58), (1, .int (nI p)), (2, .int (nI e))] [] σ := by
  have hN := NN_le hc
  have h32 := hw.2.2.2.1
  intro m
  induction m with
  | zero =>
    intro e σ he h1 h2 h3 h4 h5
    have ee : e = (psM q).length := by omega
    rw [ee] at h5 ⊢
    have r64 := h2.2.2.2.2.2
    have fin : CpQ σ0 p q σ := ⟨h1, ⟨⟨h2.2.2.1, h2.2.2.2.1, h2.2.2.2.2.1, h2.2.2.2.2.2, h3, h4, fun e he => (h5 e he).1⟩, fun e he => (h5 e he).2⟩, h2.1, h2.2.1⟩
    refine q_iload_n dX9_copy_279 rfl rfl ?_
    refine q_aload_n dX9_copy_280 rfl rfl rfl ?_
    refine q_getr (r := 64) dX9_copy_281 fX9_49 rfl (ty_c (SK.fq h1 hS) (by decide) rfl) ((SK.fq h1 hS).2 58 12 64 rfl) ?_
    refine q_iload_n dX9_copy_284 rfl rfl ?_
    refine q_iald (x := nI ((psM q).length)) (j := p) dX9_copy_285 (ty_c (SK.fq h1 hS) (by decide) rfl) (ix_n (by omega) (by omega)) r64 ?_
    refine q_icmp_geN (tgt := 444) dX9_copy_286 (by decide) (by omega) (by omega) (fun c286 => ?_) (fun c286 => ?_)
    · skip
      refine q_return dX9_copy_444 rfl (by omega) (by omega) ?_
      exact ⟨rfl, fin⟩
    · exact absurd c286 (by omega)
  | succ m ih =>
    intro e σ he h1 h2 h3 h4 h5
    have heN : e < (psM q).length := by omega
    have r64 := h2.2.2.2.2.2
    have hS1 := SK.fq h1 hS
    have fr := cpM_f (σ := σ) (d := 32 * p + e) (s := 128 + e)
    have src : SMm σ (128 + e) (sm q e) := (mrk hc hw hp h1 hM).1.2.2.2.2.2.2 e heN
    have nx : WA g mX9_copy 1 0 0 (ZM g (fun r σ' => r = none ∧ CpQ σ0 p q σ') 0 0) 0 0 396 [(0, .ref 58), (1, .int (nI p)), (2, .int (nI e)), (3, .int (nI 0))] [] (cpM σ (32 * p + e) (128 + e)) := by
      refine y9_cp396 hS hM hc hw hp heN (fun σ' a1 a2 a3 a4 a5 => ih (e + 1) σ' (by omega) a1 a2 a3 a4 a5) (NN q) 0 _ (by omega) (h1.tr (fr.mono fun a i z => by unfold cpq; omega)) (h2.fq fr (fun a i z => by omega)) (h3.fq fr (fun a i z => by omega)) (h4.fq fr (fun a i z => by omega)) (h5.fq hN fr (fun a i z => by omega)) (src.mv fun a b1 b2 => cpM_v b1 b2) (fun n hn => absurd hn (by omega))
    refine q_iload_n dX9_copy_279 rfl rfl ?_
    refine q_aload_n dX9_copy_280 rfl rfl rfl ?_
    refine q_getr (r := 64) dX9_copy_281 fX9_49 rfl (ty_c hS1 (by decide) rfl) (hS1.2 58 12 64 rfl) ?_
    refine q_iload_n dX9_copy_284 rfl rfl ?_
    refine q_iald (x := nI ((psM q).length)) (j := p) dX9_copy_285 (ty_c hS1 (by decide) rfl) (ix_n (by omega) (by omega)) r64 ?_
    refine q_icmp_geN (tgt := 444) dX9_copy_286 (by decide) (by omega) (by omega) (fun c286 => ?_) (fun c286 => ?_)
    · exact absurd c286 (by omega)
    · skip
      refine q_aload_n dX9_copy_289 rfl rfl rfl ?_
      refine q_getr (r := 78) dX9_copy_290 fX9_91 rfl (ty_c hS1 (by decide) rfl) (hS1.2 58 26 78 rfl) ?_
      refine q_bipush (v := nI 32) dX9_copy_293 rfl ?_
      refine q_iload_n dX9_copy_295 rfl rfl ?_
      refine q_imulN dX9_copy_296 ?_
      refine q_iload_n dX9_copy_297 rfl rfl ?_
      refine q_iaddN dX9_copy_298 ?_
      refine q_aload_n dX9_copy_299 rfl rfl rfl ?_
      refine q_getr (r := 78) dX9_copy_300 fX9_91 rfl (ty_c hS1 (by decide) rfl) (hS1.2 58 26 78 rfl) ?_
      refine q_sipush (v := nI 128) dX9_copy_303 rfl ?_
      refine q_iload_n dX9_copy_306 rfl rfl ?_
      refine q_iaddN dX9_copy_307 ?_
      refine q_iald (x := sI σ 78 (128 + e)) (j := (128 + e)) dX9_copy_308 (ty_c hS1 (by decide) rfl) (ix_n (by omega) (by omega)) rfl ?_
      refine q_iast (j := ((32 * p) + e)) dX9_copy_309 (ty_c hS1 (by decide) rfl) (ix_n (by omega) (by omega)) ?_
      refine q_aload_n dX9_copy_310 rfl rfl rfl ?_
      refine q_getr (r := 79) dX9_copy_311 fX9_94 rfl (ty_c hS1 (by decide) rfl) (hS1.2 58 27 79 rfl) ?_
      refine q_bipush (v := nI 32) dX9_copy_314 rfl ?_
      refine q_iload_n dX9_copy_316 rfl rfl ?_
      refine q_imulN dX9_copy_317 ?_
      refine q_iload_n dX9_copy_318 rfl rfl ?_
      refine q_iaddN dX9_copy_319 ?_
      refine q_aload_n dX9_copy_320 rfl rfl rfl ?_
      refine q_getr (r := 79) dX9_copy_321 fX9_94 rfl (ty_c hS1 (by decide) rfl) (hS1.2 58 27 79 rfl) ?_
      refine q_sipush (v := nI 128) dX9_copy_324 rfl ?_
      refine q_iload_n dX9_copy_327 rfl rfl ?_
      refine q_iaddN dX9_copy_328 ?_
      refine q_iald (x := sI σ 79 (128 + e)) (j := (128 + e)) dX9_copy_329 (ty_c hS1 (by decide) rfl) (ix_n (by omega) (by omega)) (rd_off (by decide)) ?_
      refine q_iast (j := ((32 * p) + e)) dX9_copy_330 (ty_c hS1 (by decide) rfl) (ix_n (by omega) (by omega)) ?_
      refine q_aload_n dX9_copy_331 rfl rfl rfl ?_
      refine q_getr (r := 80) dX9_copy_332 fX9_97 rfl (ty_c hS1 (by decide) rfl) (hS1.2 58 28 80 rfl) ?_
      refine q_bipush (v := nI 32) dX9_copy_335 rfl ?_
      refine q_iload_n dX9_copy_337 rfl rfl ?_
      refine q_imulN dX9_copy_338 ?_
      refine q_iload_n dX9_copy_339 rfl rfl ?_
      refine q_iaddN dX9_copy_340 ?_
      refine q_aload_n dX9_copy_341 rfl rfl rfl ?_
      refine q_getr (r := 80) dX9_copy_342 fX9_97 rfl (ty_c hS1 (by decide) rfl) (hS1.2 58 28 80 rfl) ?_
      refine q_sipush (v := nI 128) dX9_copy_345 rfl ?_
      refine q_iload_n dX9_copy_348 rfl rfl ?_
      refine q_iaddN dX9_copy_349 ?_
      refine q_iald (x := sI σ 80 (128 + e)) (j := (128 + e)) dX9_copy_350 (ty_c hS1 (by decide) rfl) (ix_n (by omega) (by omega)) (Eq.trans (rd_off (by decide)) (rd_off (by decide))) ?_
      refine q_iast (j := ((32 * p) + e)) dX9_copy_351 (ty_c hS1 (by decide) rfl) (ix_n (by omega) (by omega)) ?_
      refine q_aload_n dX9_copy_352 rfl rfl rfl ?_
      refine q_getr (r := 81) dX9_copy_353 fX9_100 rfl (ty_c hS1 (by decide) rfl) (hS1.2 58 29 81 rfl) ?_
      refine q_bipush (v := nI 32) dX9_copy_356 rfl ?_
      refine q_iload_n dX9_copy_358 rfl rfl ?_
      refine q_imulN dX9_copy_359 ?_
      refine q_iload_n dX9_copy_360 rfl rfl ?_
      refine q_iaddN dX9_copy_361 ?_
      refine q_aload_n dX9_copy_362 rfl rfl rfl ?_
      refine q_getr (r := 81) dX9_copy_363 fX9_100 rfl (ty_c hS1 (by decide) rfl) (hS1.2 58 29 81 rfl) ?_
      refine q_sipush (v := nI 128) dX9_copy_366 rfl ?_
      refine q_iload_n dX9_copy_369 rfl rfl ?_
      refine q_iaddN dX9_copy_370 ?_
      refine q_iald (x := sI σ 81 (128 + e)) (j := (128 + e)) dX9_copy_371 (ty_c hS1 (by decide) rfl) (ix_n (by omega) (by omega)) (Eq.trans (rd_off (by decide)) (Eq.trans (rd_off (by decide)) (rd_off (by decide)))) ?_
      refine q_iast (j := ((32 * p) + e)) dX9_copy_372 (ty_c hS1 (by decide) rfl) (ix_n (by omega) (by omega)) ?_
      refine q_aload_n dX9_copy_373 rfl rfl rfl ?_
      refine q_getr (r := 82) dX9_copy_374 fX9_103 rfl (ty_c hS1 (by decide) rfl) (hS1.2 58 30 82 rfl) ?_
      refine q_bipush (v := nI 32) dX9_copy_377 rfl ?_
      refine q_iload_n dX9_copy_379 rfl rfl ?_
      refine q_imulN dX9_copy_380 ?_
      refine q_iload_n dX9_copy_381 rfl rfl ?_
      refine q_iaddN dX9_copy_382 ?_
      refine q_aload_n dX9_copy_383 rfl rfl rfl ?_
      refine q_getr (r := 82) dX9_copy_384 fX9_103 rfl (ty_c hS1 (by decide) rfl) (hS1.2 58 30 82 rfl) ?_
      refine q_sipush (v := nI 128) dX9_copy_387 rfl ?_
      refine q_iload_n dX9_copy_390 rfl rfl ?_
      refine q_iaddN dX9_copy_391 ?_
      refine q_iald (x := sI σ 82 (128 + e)) (j := (128 + e)) dX9_copy_392 (ty_c hS1 (by decide) rfl) (ix_n (by omega) (by omega)) (Eq.trans (rd_off (by decide)) (Eq.trans (rd_off (by decide)) (Eq.trans (rd_off (by decide)) (rd_off (by decide))))) ?_
      refine q_iast (j := ((32 * p) + e)) dX9_copy_393 (ty_c hS1 (by decide) rfl) (ix_n (by omega) (by omega)) ?_
      refine q_iconst (v := nI 0) dX9_copy_394 rfl ?_
      refine q_istore_n dX9_copy_395 rfl (by decide) (ls' := [(3, .int (nI 0)), (0, .ref 58), (1, .int (nI p)), (2, .int (nI e))]) rfl ?_
      refine q_pk [1, 2, 3, 0] (ls' := [(0, .ref 58), (1, .int (nI p)), (2, .int (nI e)), (3, .int (nI 0))]) rfl ?_
      exact nx
theorem y9_cp103 (hS : SK σ0) (hM : MR σ0 4 q) (hc : BC q) (hw : WFs q) (hp : p < 4) : ∀ (m k : Nat) (σ : HS), k + m = NN q → FR9 (cpq p) σ0 σ → CH σ p q → CB σ p q (psF q).length → CN σ p q k → WA g mX9_copy 1 0 0 (ZM g (fun r σ' => r = none ∧ CpQ σ0 p q σ') 0 0) 0 0 103 [(0, .ref 58), (1, .int (nI p)), (2, .int (nI k))] [] σ := by
  have hN := NN_le hc
  have h32 := hw.2.2.2.1
  intro m
  induction m with
  | zero =>
    intro k σ hk h1 h2 h3 h4
    have ek : k = NN q := by omega
    rw [ek] at h4 ⊢
    have r62 := h2.2.2.2.1
    refine q_iload_n dX9_copy_103 rfl rfl ?_
    refine q_aload_n dX9_copy_104 rfl rfl rfl ?_
    refine q_getr (r := 62) dX9_copy_105 fX9_43 rfl (ty_c (SK.fq h1 hS) (by decide) rfl) ((SK.fq h1 hS).2 58 10 62 rfl) ?_
    refine q_iload_n dX9_copy_108 rfl rfl ?_
    refine q_iald (x := nI (NN q)) (j := p) dX9_copy_109 (ty_c (SK.fq h1 hS) (by decide) rfl) (ix_n (by omega) (by omega)) r62 ?_
    refine q_icmp_geN (tgt := 277) dX9_copy_110 (by decide) (by omega) (by omega) (fun c110 => ?_) (fun c110 => ?_)
    · skip
      refine q_iconst (v := nI 0) dX9_copy_277 rfl ?_
      refine q_istore_n dX9_copy_278 rfl (by decide) (ls' := [(2, .int (nI 0)), (0, .ref 58), (1, .int (nI p))]) rfl ?_
      refine q_pk [1, 2, 0] (ls' := [(0, .ref 58), (1, .int (nI p)), (2, .int (nI 0))]) rfl ?_
      exact y9_cp279 hS hM hc hw hp (psM q).length 0 σ (by omega) h1 h2 h3 h4 (fun e he => absurd he (by omega))
    · exact absurd c110 (by omega)
  | succ m ih =>
    intro k σ hk h1 h2 h3 h4
    have hkN : k < NN q := by omega
    have r62 := h2.2.2.2.1
    have hS1 := SK.fq h1 hS
    have fr := cpN_f (σ := σ) (d := 240 * p + k) (s := 960 + k)
    obtain ⟨s1, s2, s3⟩ := mrn (mrk hc hw hp h1 hM).1 hkN
    have nx : WA g mX9_copy 1 0 0 (ZM g (fun r σ' => r = none ∧ CpQ σ0 p q σ') 0 0) 0 0 103 [(0, .ref 58), (1, .int (nI p)), (2, .int (nI (k + 1)))] [] (cpN σ (240 * p + k) (960 + k)) := by
      refine ih (k + 1) _ (by omega) (h1.tr (fr.mono fun a i z => by unfold cpq; omega)) (h2.fq fr (fun a i z => by omega)) (h3.fq fr (fun a i z => by omega)) fun i hi => ?_
      by_cases ei : i = k
      · rw [ei]
        exact ⟨s1.mv fun a b1 b2 _ _ => cpN_v b1 b2, (cpN_v (by omega) (by omega)).trans s2, (cpN_v (by omega) (by omega)).trans s3⟩
      · have e : ∀ a, sI (cpN σ (240 * p + k) (960 + k)) a (240 * p + i) = sI σ a (240 * p + i) := fun a => fr.2.2.2 _ _ (by omega)
        obtain ⟨a1, a2, a3⟩ := h4 i (by omega)
        exact ⟨a1.mv fun a _ _ _ _ => e a, (e _).trans a2, (e _).trans a3⟩
    refine q_iload_n dX9_copy_103 rfl rfl ?_
    refine q_aload_n dX9_copy_104 rfl rfl rfl ?_
    refine q_getr (r := 62) dX9_copy_105 fX9_43 rfl (ty_c hS1 (by decide) rfl) (hS1.2 58 10 62 rfl) ?_
    refine q_iload_n dX9_copy_108 rfl rfl ?_
    refine q_iald (x := nI (NN q)) (j := p) dX9_copy_109 (ty_c hS1 (by decide) rfl) (ix_n (by omega) (by omega)) r62 ?_
    refine q_icmp_geN (tgt := 277) dX9_copy_110 (by decide) (by omega) (by omega) (fun c110 => ?_) (fun c110 => ?_)
    · exact absurd c110 (by omega)
    · skip
      refine q_sipush (v := nI 240) dX9_copy_113 rfl ?_
      refine q_iload_n dX9_copy_116 rfl rfl ?_
      refine q_imulN dX9_copy_117 ?_
      refine q_iload_n dX9_copy_118 rfl rfl ?_
      refine q_iaddN dX9_copy_119 ?_
      refine q_istore_n dX9_copy_120 rfl (by decide) (ls' := [(3, .int (nI ((240 * p) + k))), (0, .ref 58), (1, .int (nI p)), (2, .int (nI k))]) rfl ?_
      refine q_sipush (v := nI 960) dX9_copy_121 rfl ?_
      refine q_iload_n dX9_copy_124 rfl rfl ?_
      refine q_iaddN dX9_copy_125 ?_
      refine q_istore dX9_copy_126 (by decide) (ls' := [(4, .int (nI (960 + k))), (3, .int (nI ((240 * p) + k))), (0, .ref 58), (1, .int (nI p)), (2, .int (nI k))]) rfl ?_
      refine q_aload_n dX9_copy_128 rfl rfl rfl ?_
      refine q_getr (r := 67) dX9_copy_129 fX9_58 rfl (ty_c hS1 (by decide) rfl) (hS1.2 58 15 67 rfl) ?_
      refine q_iload_n dX9_copy_132 rfl rfl ?_
      refine q_aload_n dX9_copy_133 rfl rfl rfl ?_
      refine q_getr (r := 67) dX9_copy_134 fX9_58 rfl (ty_c hS1 (by decide) rfl) (hS1.2 58 15 67 rfl) ?_
      refine q_iload dX9_copy_137 rfl ?_
      refine q_iald (x := sI σ 67 (960 + k)) (j := (960 + k)) dX9_copy_139 (ty_c hS1 (by decide) rfl) (ix_n (by omega) (by omega)) rfl ?_
      refine q_iast (j := ((240 * p) + k)) dX9_copy_140 (ty_c hS1 (by decide) rfl) (ix_n (by omega) (by omega)) ?_
      refine q_aload_n dX9_copy_141 rfl rfl rfl ?_
      refine q_getr (r := 68) dX9_copy_142 fX9_61 rfl (ty_c hS1 (by decide) rfl) (hS1.2 58 16 68 rfl) ?_
      refine q_iload_n dX9_copy_145 rfl rfl ?_
      refine q_aload_n dX9_copy_146 rfl rfl rfl ?_
      refine q_getr (r := 68) dX9_copy_147 fX9_61 rfl (ty_c hS1 (by decide) rfl) (hS1.2 58 16 68 rfl) ?_
      refine q_iload dX9_copy_150 rfl ?_
      refine q_iald (x := sI σ 68 (960 + k)) (j := (960 + k)) dX9_copy_152 (ty_c hS1 (by decide) rfl) (ix_n (by omega) (by omega)) (rd_off (by decide)) ?_
      refine q_iast (j := ((240 * p) + k)) dX9_copy_153 (ty_c hS1 (by decide) rfl) (ix_n (by omega) (by omega)) ?_
      refine q_aload_n dX9_copy_154 rfl rfl rfl ?_
      refine q_getr (r := 69) dX9_copy_155 fX9_64 rfl (ty_c hS1 (by decide) rfl) (hS1.2 58 17 69 rfl) ?_
      refine q_iload_n dX9_copy_158 rfl rfl ?_
      refine q_aload_n dX9_copy_159 rfl rfl rfl ?_
      refine q_getr (r := 69) dX9_copy_160 fX9_64 rfl (ty_c hS1 (by decide) rfl) (hS1.2 58 17 69 rfl) ?_
      refine q_iload dX9_copy_163 rfl ?_
      refine q_iald (x := sI σ 69 (960 + k)) (j := (960 + k)) dX9_copy_165 (ty_c hS1 (by decide) rfl) (ix_n (by omega) (by omega)) (Eq.trans (rd_off (by decide)) (rd_off (by decide))) ?_
      refine q_iast (j := ((240 * p) + k)) dX9_copy_166 (ty_c hS1 (by decide) rfl) (ix_n (by omega) (by omega)) ?_
      refine q_aload_n dX9_copy_167 rfl rfl rfl ?_
      refine q_getr (r := 70) dX9_copy_168 fX9_67 rfl (ty_c hS1 (by decide) rfl) (hS1.2 58 18 70 rfl) ?_
      refine q_iload_n dX9_copy_171 rfl rfl ?_
      refine q_aload_n dX9_copy_172 rfl rfl rfl ?_
      refine q_getr (r := 70) dX9_copy_173 fX9_67 rfl (ty_c hS1 (by decide) rfl) (hS1.2 58 18 70 rfl) ?_
      refine q_iload dX9_copy_176 rfl ?_
      refine q_iald (x := sI σ 70 (960 + k)) (j := (960 + k)) dX9_copy_178 (ty_c hS1 (by decide) rfl) (ix_n (by omega) (by omega)) (Eq.trans (rd_off (by decide)) (Eq.trans (rd_off (by decide)) (rd_off (by decide)))) ?_
      refine q_iast (j := ((240 * p) + k)) dX9_copy_179 (ty_c hS1 (by decide) rfl) (ix_n (by omega) (by omega)) ?_
      refine q_aload_n dX9_copy_180 rfl rfl rfl ?_
      refine q_getr (r := 71) dX9_copy_181 fX9_70 rfl (ty_c hS1 (by decide) rfl) (hS1.2 58 19 71 rfl) ?_
      refine q_iload_n dX9_copy_184 rfl rfl ?_
      refine q_aload_n dX9_copy_185 rfl rfl rfl ?_
      refine q_getr (r := 71) dX9_copy_186 fX9_70 rfl (ty_c hS1 (by decide) rfl) (hS1.2 58 19 71 rfl) ?_
      refine q_iload dX9_copy_189 rfl ?_
      refine q_iald (x := sI σ 71 (960 + k)) (j := (960 + k)) dX9_copy_191 (ty_c hS1 (by decide) rfl) (ix_n (by omega) (by omega)) (Eq.trans (rd_off (by decide)) (Eq.trans (rd_off (by decide)) (Eq.trans (rd_off (by decide)) (rd_off (by decide))))) ?_
      refine q_iast (j := ((240 * p) + k)) dX9_copy_192 (ty_c hS1 (by decide) rfl) (ix_n (by omega) (by omega)) ?_
      refine q_aload_n dX9_copy_193 rfl rfl rfl ?_
      refine q_getr (r := 72) dX9_copy_194 fX9_73 rfl (ty_c hS1 (by decide) rfl) (hS1.2 58 20 72 rfl) ?_
      refine q_iload_n dX9_copy_197 rfl rfl ?_
      refine q_aload_n dX9_copy_198 rfl rfl rfl ?_
      refine q_getr (r := 72) dX9_copy_199 fX9_73 rfl (ty_c hS1 (by decide) rfl) (hS1.2 58 20 72 rfl) ?_
      refine q_iload dX9_copy_202 rfl ?_
      refine q_iald (x := sI σ 72 (960 + k)) (j := (960 + k)) dX9_copy_204 (ty_c hS1 (by decide) rfl) (ix_n (by omega) (by omega)) (Eq.trans (rd_off (by decide)) (Eq.trans (rd_off (by decide)) (Eq.trans (rd_off (by decide)) (Eq.trans (rd_off (by decide)) (rd_off (by decide)))))) ?_
      refine q_iast (j := ((240 * p) + k)) dX9_copy_205 (ty_c hS1 (by decide) rfl) (ix_n (by omega) (by omega)) ?_
      refine q_aload_n dX9_copy_206 rfl rfl rfl ?_
      refine q_getr (r := 73) dX9_copy_207 fX9_76 rfl (ty_c hS1 (by decide) rfl) (hS1.2 58 21 73 rfl) ?_
      refine q_iload_n dX9_copy_210 rfl rfl ?_
      refine q_aload_n dX9_copy_211 rfl rfl rfl ?_
      refine q_getr (r := 73) dX9_copy_212 fX9_76 rfl (ty_c hS1 (by decide) rfl) (hS1.2 58 21 73 rfl) ?_
      refine q_iload dX9_copy_215 rfl ?_
      refine q_iald (x := sI σ 73 (960 + k)) (j := (960 + k)) dX9_copy_217 (ty_c hS1 (by decide) rfl) (ix_n (by omega) (by omega)) (Eq.trans (rd_off (by decide)) (Eq.trans (rd_off (by decide)) (Eq.trans (rd_off (by decide)) (Eq.trans (rd_off (by decide)) (Eq.trans (rd_off (by decide)) (rd_off (by decide))))))) ?_
      refine q_iast (j := ((240 * p) + k)) dX9_copy_218 (ty_c hS1 (by decide) rfl) (ix_n (by omega) (by omega)) ?_
      refine q_aload_n dX9_copy_219 rfl rfl rfl ?_
      refine q_getr (r := 74) dX9_copy_220 fX9_79 rfl (ty_c hS1 (by decide) rfl) (hS1.2 58 22 74 rfl) ?_
      refine q_iload_n dX9_copy_223 rfl rfl ?_
      refine q_aload_n dX9_copy_224 rfl rfl rfl ?_
      refine q_getr (r := 74) dX9_copy_225 fX9_79 rfl (ty_c hS1 (by decide) rfl) (hS1.2 58 22 74 rfl) ?_
      refine q_iload dX9_copy_228 rfl ?_
      refine q_iald (x := sI σ 74 (960 + k)) (j := (960 + k)) dX9_copy_230 (ty_c hS1 (by decide) rfl) (ix_n (by omega) (by omega)) (Eq.trans (rd_off (by decide)) (Eq.trans (rd_off (by decide)) (Eq.trans (rd_off (by decide)) (Eq.trans (rd_off (by decide)) (Eq.trans (rd_off (by decide)) (Eq.trans (rd_off (by decide)) (rd_off (by decide)))))))) ?_
      refine q_iast (j := ((240 * p) + k)) dX9_copy_231 (ty_c hS1 (by decide) rfl) (ix_n (by omega) (by omega)) ?_
      refine q_aload_n dX9_copy_232 rfl rfl rfl ?_
      refine q_getr (r := 75) dX9_copy_233 fX9_82 rfl (ty_c hS1 (by decide) rfl) (hS1.2 58 23 75 rfl) ?_
      refine q_iload_n dX9_copy_236 rfl rfl ?_
      refine q_aload_n dX9_copy_237 rfl rfl rfl ?_
      refine q_getr (r := 75) dX9_copy_238 fX9_82 rfl (ty_c hS1 (by decide) rfl) (hS1.2 58 23 75 rfl) ?_
      refine q_iload dX9_copy_241 rfl ?_
      refine q_iald (x := sI σ 75 (960 + k)) (j := (960 + k)) dX9_copy_243 (ty_c hS1 (by decide) rfl) (ix_n (by omega) (by omega)) (Eq.trans (rd_off (by decide)) (Eq.trans (rd_off (by decide)) (Eq.trans (rd_off (by decide)) (Eq.trans (rd_off (by decide)) (Eq.trans (rd_off (by decide)) (Eq.trans (rd_off (by decide)) (Eq.trans (rd_off (by decide)) (rd_off (by decide))))))))) ?_
      refine q_iast (j := ((240 * p) + k)) dX9_copy_244 (ty_c hS1 (by decide) rfl) (ix_n (by omega) (by omega)) ?_
      refine q_aload_n dX9_copy_245 rfl rfl rfl ?_
      refine q_getr (r := 76) dX9_copy_246 fX9_85 rfl (ty_c hS1 (by decide) rfl) (hS1.2 58 24 76 rfl) ?_
      refine q_iload_n dX9_copy_249 rfl rfl ?_
      refine q_aload_n dX9_copy_250 rfl rfl rfl ?_
      refine q_getr (r := 76) dX9_copy_251 fX9_85 rfl (ty_c hS1 (by decide) rfl) (hS1.2 58 24 76 rfl) ?_
      refine q_iload dX9_copy_254 rfl ?_
      refine q_iald (x := sI σ 76 (960 + k)) (j := (960 + k)) dX9_copy_256 (ty_c hS1 (by decide) rfl) (ix_n (by omega) (by omega)) (Eq.trans (rd_off (by decide)) (Eq.trans (rd_off (by decide)) (Eq.trans (rd_off (by decide)) (Eq.trans (rd_off (by decide)) (Eq.trans (rd_off (by decide)) (Eq.trans (rd_off (by decide)) (Eq.trans (rd_off (by decide)) (Eq.trans (rd_off (by decide)) (rd_off (by decide)))))))))) ?_
      refine q_iast (j := ((240 * p) + k)) dX9_copy_257 (ty_c hS1 (by decide) rfl) (ix_n (by omega) (by omega)) ?_
      refine q_aload_n dX9_copy_258 rfl rfl rfl ?_
      refine q_getr (r := 77) dX9_copy_259 fX9_88 rfl (ty_c hS1 (by decide) rfl) (hS1.2 58 25 77 rfl) ?_
      refine q_iload_n dX9_copy_262 rfl rfl ?_
      refine q_aload_n dX9_copy_263 rfl rfl rfl ?_
      refine q_getr (r := 77) dX9_copy_264 fX9_88 rfl (ty_c hS1 (by decide) rfl) (hS1.2 58 25 77 rfl) ?_
      refine q_iload dX9_copy_267 rfl ?_
      refine q_iald (x := sI σ 77 (960 + k)) (j := (960 + k)) dX9_copy_269 (ty_c hS1 (by decide) rfl) (ix_n (by omega) (by omega)) (Eq.trans (rd_off (by decide)) (Eq.trans (rd_off (by decide)) (Eq.trans (rd_off (by decide)) (Eq.trans (rd_off (by decide)) (Eq.trans (rd_off (by decide)) (Eq.trans (rd_off (by decide)) (Eq.trans (rd_off (by decide)) (Eq.trans (rd_off (by decide)) (Eq.trans (rd_off (by decide)) (rd_off (by decide))))))))))) ?_
      refine q_iast (j := ((240 * p) + k)) dX9_copy_270 (ty_c hS1 (by decide) rfl) (ix_n (by omega) (by omega)) ?_
      refine q_iincN (c := 1) dX9_copy_271 rfl (by decide) rfl (ls' := [(2, .int (nI (k + 1))), (4, .int (nI (960 + k))), (3, .int (nI ((240 * p) + k))), (0, .ref 58), (1, .int (nI p))]) rfl ?_
      refine q_goto (tgt := 103) dX9_copy_274 (by decide) ?_
      refine q_pk [3, 4, 0] (ls' := [(0, .ref 58), (1, .int (nI p)), (2, .int (nI (k + 1)))]) rfl ?_
      exact nx
theorem y9_cp64 (hS : SK σ0) (hM : MR σ0 4 q) (hc : BC q) (hw : WFs q) (hp : p < 4) : ∀ (m k : Nat) (σ : HS), k + m = (psF q).length → FR9 (cpq p) σ0 σ → CH σ p q → CB σ p q k → WA g mX9_copy 1 0 0 (ZM g (fun r σ' => r = none ∧ CpQ σ0 p q σ') 0 0) 0 0 64 [(0, .ref 58), (1, .int (nI p)), (2, .int (nI k))] [] σ := by
  have h40 := hc.2.1
  intro m
  induction m with
  | zero =>
    intro k σ hk h1 h2 h3
    have ek : k = (psF q).length := by omega
    rw [ek] at h3 ⊢
    have r61 := h2.2.2.1
    refine q_iload_n dX9_copy_64 rfl rfl ?_
    refine q_aload_n dX9_copy_65 rfl rfl rfl ?_
    refine q_getr (r := 61) dX9_copy_66 fX9_40 rfl (ty_c (SK.fq h1 hS) (by decide) rfl) ((SK.fq h1 hS).2 58 9 61 rfl) ?_
    refine q_iload_n dX9_copy_69 rfl rfl ?_
    refine q_iald (x := nI ((psF q).length)) (j := p) dX9_copy_70 (ty_c (SK.fq h1 hS) (by decide) rfl) (ix_n (by omega) (by omega)) r61 ?_
    refine q_icmp_geN (tgt := 101) dX9_copy_71 (by decide) (by omega) (by omega) (fun c71 => ?_) (fun c71 => ?_)
    · skip
      refine q_iconst (v := nI 0) dX9_copy_101 rfl ?_
      refine q_istore_n dX9_copy_102 rfl (by decide) (ls' := [(2, .int (nI 0)), (0, .ref 58), (1, .int (nI p))]) rfl ?_
      refine q_pk [1, 2, 0] (ls' := [(0, .ref 58), (1, .int (nI p)), (2, .int (nI 0))]) rfl ?_
      exact y9_cp103 hS hM hc hw hp (NN q) 0 σ (by omega) h1 h2 h3 (fun e he => absurd he (by omega))
    · exact absurd c71 (by omega)
  | succ m ih =>
    intro k σ hk h1 h2 h3
    have r61 := h2.2.2.1
    have hS1 := SK.fq h1 hS
    have src : sI σ 65 (164 + k) = nI (nf q k) := (mrk hc hw hp h1 hM).1.2.2.2.2.1 k (by omega)
    have fr : FR9 (fun h i => h = 65 ∧ i = 41 * p + k) σ (uI σ 65 (41 * p + k) (nI (nf q k))) := FR9.rf.uI ⟨rfl, rfl⟩
    have nx : WA g mX9_copy 1 0 0 (ZM g (fun r σ' => r = none ∧ CpQ σ0 p q σ') 0 0) 0 0 64 [(0, .ref 58), (1, .int (nI p)), (2, .int (nI (k + 1)))] [] (uI σ 65 (41 * p + k) (nI (nf q k))) := by
      refine ih (k + 1) _ (by omega) (h1.tr (fr.mono fun a i z => by unfold cpq; omega)) (h2.fq fr (fun a i z => by omega)) fun b hb => ?_
      by_cases eb : b = k
      · rw [eb]; exact uI_self
      · exact (rd_ne (by omega)).trans (h3 b (by omega))
    refine q_iload_n dX9_copy_64 rfl rfl ?_
    refine q_aload_n dX9_copy_65 rfl rfl rfl ?_
    refine q_getr (r := 61) dX9_copy_66 fX9_40 rfl (ty_c hS1 (by decide) rfl) (hS1.2 58 9 61 rfl) ?_
    refine q_iload_n dX9_copy_69 rfl rfl ?_
    refine q_iald (x := nI ((psF q).length)) (j := p) dX9_copy_70 (ty_c hS1 (by decide) rfl) (ix_n (by omega) (by omega)) r61 ?_
    refine q_icmp_geN (tgt := 101) dX9_copy_71 (by decide) (by omega) (by omega) (fun c71 => ?_) (fun c71 => ?_)
    · exact absurd c71 (by omega)
    · skip
      refine q_aload_n dX9_copy_74 rfl rfl rfl ?_
      refine q_getr (r := 65) dX9_copy_75 fX9_52 rfl (ty_c hS1 (by decide) rfl) (hS1.2 58 13 65 rfl) ?_
      refine q_bipush (v := nI 41) dX9_copy_78 rfl ?_
      refine q_iload_n dX9_copy_80 rfl rfl ?_
      refine q_imulN dX9_copy_81 ?_
      refine q_iload_n dX9_copy_82 rfl rfl ?_
      refine q_iaddN dX9_copy_83 ?_
      refine q_aload_n dX9_copy_84 rfl rfl rfl ?_
      refine q_getr (r := 65) dX9_copy_85 fX9_52 rfl (ty_c hS1 (by decide) rfl) (hS1.2 58 13 65 rfl) ?_
      refine q_sipush (v := nI 164) dX9_copy_88 rfl ?_
      refine q_iload_n dX9_copy_91 rfl rfl ?_
      refine q_iaddN dX9_copy_92 ?_
      refine q_iald (x := nI (nf q k)) (j := (164 + k)) dX9_copy_93 (ty_c hS1 (by decide) rfl) (ix_n (by omega) (by omega)) src ?_
      refine q_iast (j := ((41 * p) + k)) dX9_copy_94 (ty_c hS1 (by decide) rfl) (ix_n (by omega) (by omega)) ?_
      refine q_iincN (c := 1) dX9_copy_95 rfl (by decide) rfl (ls' := [(2, .int (nI (k + 1))), (0, .ref 58), (1, .int (nI p))]) rfl ?_
      refine q_goto (tgt := 64) dX9_copy_98 (by decide) ?_
      refine q_pk [1, 2, 0] (ls' := [(0, .ref 58), (1, .int (nI p)), (2, .int (nI (k + 1)))]) rfl ?_
      exact nx
theorem cpH_f : FR9 (fun h i => ((60 ≤ h ∧ h ≤ 64) ∨ h = 95) ∧ i = p) σ (cpH σ p) := (((((FR9.rf.uI ⟨by omega, rfl⟩).uI ⟨by omega, rfl⟩).uI ⟨by omega, rfl⟩).uI ⟨by omega, rfl⟩).uI ⟨by omega, rfl⟩).uI ⟨by omega, rfl⟩
theorem cpH_c (h : MR0 σ 4 q) : CH (cpH σ p) p q := by
  obtain ⟨k1, k2, k3, k4, -⟩ := h
  unfold cpH
  rw [k1, k2, k3, k4]
  exact ⟨(rd_off (by omega)).trans ((rd_off (by omega)).trans ((rd_off (by omega)).trans ((rd_off (by omega)).trans ((rd_off (by omega)).trans uI_self)))), uI_self, (rd_off (by omega)).trans ((rd_off (by omega)).trans ((rd_off (by omega)).trans ((rd_off (by omega)).trans uI_self))), (rd_off (by omega)).trans ((rd_off (by omega)).trans ((rd_off (by omega)).trans uI_self)), (rd_off (by omega)).trans ((rd_off (by omega)).trans uI_self), (rd_off (by omega)).trans uI_self⟩
theorem z9_copy (hS : SK σ) (hM : MR σ 4 q) (hc : BC q) (hw : WFs q) (hp : p < 4) : CT g mX9_copy 1 0 0 [.ref 58, .int (nI p)] σ (fun r σ' => r = none ∧ CpQ σ p q σ') := by
  have fr : FR9 (cpq p) σ (cpH σ p) := cpH_f.mono fun a i z => by unfold cpq; omega
  have go := y9_cp64 (g := g) hS hM hc hw hp (psF q).length 0 (cpH σ p) (by omega) fr (cpH_c hM.1) (fun b hb => absurd hb (by omega))
  refine CT.of (by decide) (Nat.le_of_ble_eq_true rfl) ?_
  refine q_aload_n dX9_copy_0 rfl rfl rfl ?_
  refine q_getr (r := 60) dX9_copy_1 fX9_36 rfl (ty_c hS (by decide) rfl) (hS.2 58 8 60 rfl) ?_
  refine q_iload_n dX9_copy_4 rfl rfl ?_
  refine q_iconst (v := nI 1) dX9_copy_5 rfl ?_
  refine q_zast (j := p) dX9_copy_6 (ty_c hS (by decide) rfl) (ix_n (by omega) (by omega)) (Or.inr rfl) ?_
  refine q_aload_n dX9_copy_7 rfl rfl rfl ?_
  refine q_getr (r := 61) dX9_copy_8 fX9_40 rfl (ty_c hS (by decide) rfl) (hS.2 58 9 61 rfl) ?_
  refine q_iload_n dX9_copy_11 rfl rfl ?_
  refine q_aload_n dX9_copy_12 rfl rfl rfl ?_
  refine q_getr (r := 61) dX9_copy_13 fX9_40 rfl (ty_c hS (by decide) rfl) (hS.2 58 9 61 rfl) ?_
  refine q_iconst (v := nI 4) dX9_copy_16 rfl ?_
  refine q_iald (x := sI σ 61 4) (j := 4) dX9_copy_17 (ty_c hS (by decide) rfl) (ix_n (by omega) (by omega)) (rd_off (by decide)) ?_
  refine q_iast (j := p) dX9_copy_18 (ty_c hS (by decide) rfl) (ix_n (by omega) (by omega)) ?_
  refine q_aload_n dX9_copy_19 rfl rfl rfl ?_
  refine q_getr (r := 62) dX9_copy_20 fX9_43 rfl (ty_c hS (by decide) rfl) (hS.2 58 10 62 rfl) ?_
  refine q_iload_n dX9_copy_23 rfl rfl ?_
  refine q_aload_n dX9_copy_24 rfl rfl rfl ?_
  refine q_getr (r := 62) dX9_copy_25 fX9_43 rfl (ty_c hS (by decide) rfl) (hS.2 58 10 62 rfl) ?_
  refine q_iconst (v := nI 4) dX9_copy_28 rfl ?_
  refine q_iald (x := sI σ 62 4) (j := 4) dX9_copy_29 (ty_c hS (by decide) rfl) (ix_n (by omega) (by omega)) (Eq.trans (rd_off (by decide)) (rd_off (by decide))) ?_
  refine q_iast (j := p) dX9_copy_30 (ty_c hS (by decide) rfl) (ix_n (by omega) (by omega)) ?_
  refine q_aload_n dX9_copy_31 rfl rfl rfl ?_
  refine q_getr (r := 63) dX9_copy_32 fX9_46 rfl (ty_c hS (by decide) rfl) (hS.2 58 11 63 rfl) ?_
  refine q_iload_n dX9_copy_35 rfl rfl ?_
  refine q_aload_n dX9_copy_36 rfl rfl rfl ?_
  refine q_getr (r := 63) dX9_copy_37 fX9_46 rfl (ty_c hS (by decide) rfl) (hS.2 58 11 63 rfl) ?_
  refine q_iconst (v := nI 4) dX9_copy_40 rfl ?_
  refine q_iald (x := sI σ 63 4) (j := 4) dX9_copy_41 (ty_c hS (by decide) rfl) (ix_n (by omega) (by omega)) (Eq.trans (rd_off (by decide)) (Eq.trans (rd_off (by decide)) (rd_off (by decide)))) ?_
  refine q_iast (j := p) dX9_copy_42 (ty_c hS (by decide) rfl) (ix_n (by omega) (by omega)) ?_
  refine q_aload_n dX9_copy_43 rfl rfl rfl ?_
  refine q_getr (r := 64) dX9_copy_44 fX9_49 rfl (ty_c hS (by decide) rfl) (hS.2 58 12 64 rfl) ?_
  refine q_iload_n dX9_copy_47 rfl rfl ?_
  refine q_aload_n dX9_copy_48 rfl rfl rfl ?_
  refine q_getr (r := 64) dX9_copy_49 fX9_49 rfl (ty_c hS (by decide) rfl) (hS.2 58 12 64 rfl) ?_
  refine q_iconst (v := nI 4) dX9_copy_52 rfl ?_
  refine q_iald (x := sI σ 64 4) (j := 4) dX9_copy_53 (ty_c hS (by decide) rfl) (ix_n (by omega) (by omega)) (Eq.trans (rd_off (by decide)) (Eq.trans (rd_off (by decide)) (Eq.trans (rd_off (by decide)) (rd_off (by decide))))) ?_
  refine q_iast (j := p) dX9_copy_54 (ty_c hS (by decide) rfl) (ix_n (by omega) (by omega)) ?_
  refine q_aload_n dX9_copy_55 rfl rfl rfl ?_
  refine q_getr (r := 95) dX9_copy_56 fX9_186 rfl (ty_c hS (by decide) rfl) (hS.2 58 57 95 rfl) ?_
  refine q_iload_n dX9_copy_59 rfl rfl ?_
  refine q_iconst (v := nI 0) dX9_copy_60 rfl ?_
  refine q_iast (j := p) dX9_copy_61 (ty_c hS (by decide) rfl) (ix_n (by omega) (by omega)) ?_
  refine q_iconst (v := nI 0) dX9_copy_62 rfl ?_
  refine q_istore_n dX9_copy_63 rfl (by decide) (ls' := [(2, .int (nI 0)), (0, .ref 58), (1, .int (nI p))]) rfl ?_
  refine q_pk [1, 2, 0] (ls' := [(0, .ref 58), (1, .int (nI p)), (2, .int (nI 0))]) rfl ?_
  exact go
end MCP
