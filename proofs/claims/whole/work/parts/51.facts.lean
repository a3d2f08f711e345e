/-! What the document says of each SUM e and each NODE n. -/
def sm (q : PS) (e : Nat) : SUM := (psM q).getD e (0, 0, 0)
def bo (q : PS) (e : Nat) : Bool := boldB (sm q e)
def wk (q : PS) (e n : Nat) : Bool := decide (rS (rg q n) = nI e)
def klT (k t : Nat) (x : SUM) : Bool := if k ≤ 1 then hasN t x else if k = 2 then ofR t x else false
def kl (q : PS) (e n : Nat) : Bool := klT (rK (rg q n)) (rT (rg q n)).toNatClampNeg (sm q e)
def sn (q : PS) (n : Nat) : Bool := decide (rK (rg q n) = 3) || decide (rK (rg q n) = 2) || (List.range (psM q).length).any (fun e => wk q e n && bo q e)
/-- all NODES that n leads to; none if it leads nowhere -/
def alN (q : PS) (v : Nat → Bool) (n : Nat) : Bool := (match ld q 0 n with | none => false | some a => v a) && (match ld q 1 n with | none => true | some c => v c)
/-- all NODES that n leads to -/
def alQ (q : PS) (v : Nat → Bool) (n : Nat) : Bool := (match ld q 0 n with | none => true | some a => v a) && (match ld q 1 n with | none => true | some c => v c)
abbrev lto (q : PS) (a n : Nat) : Prop := ld q 0 a = some n ∨ ld q 1 a = some n
def wdB (q : PS) (e : Nat) (v : Nat → Bool) (n : Nat) : Bool := wk q e n || (!(kl q e n || (sn q n && bo q e)) && alN q v n)
noncomputable def wtd (q : PS) (e n : Nat) : Bool := gf (NN q) (fun v n => wdB q e v n = true) n
def thF (q : PS) (e : Nat) (v : Nat → Bool) (n : Nat) : Prop := n ≠ 0 ∧ ∀ a, a < NN q → lto q a n → (!kl q e a && (wk q e a || v a)) = true
noncomputable def the (q : PS) (e n : Nat) : Bool := gf (NN q) (thF q e) n
noncomputable def ear (q : PS) (e n : Nat) : Bool := wtd q e n && @decide (n = 0 ∨ ∃ a, a < NN q ∧ lto q a n ∧ (kl q e a || !(the q e a || wtd q e a)) = true) (Classical.propDecidable _)
def dlF (q : PS) (e : Nat) (v : Nat → Bool) (n : Nat) : Prop := ear q e n = true ∨ (n ≠ 0 ∧ ∀ a, a < NN q → lto q a n → (v a && !wk q e a) = true)
noncomputable def dly (q : PS) (e n : Nat) : Bool := gf (NN q) (dlF q e) n
noncomputable def lst (q : PS) (e n : Nat) : Bool := dly q e n && (wk q e n || !alN q (dly q e) n)
noncomputable def aoB (q : PS) (e : Nat) (v : Nat → Bool) (n : Nat) : Bool := alQ q (fun m => lst q e m || (!wk q e m && v m)) n
noncomputable def alo (q : PS) (e n : Nat) : Bool := gf (NN q) (fun v n => aoB q e v n = true) n
noncomputable def stA (q : PS) (p e n : Nat) : Bool := if p = 1 then ear q e n else if p = 2 then lst q e n && !alo q e n else false
noncomputable def tkn (q : PS) (p e n : Nat) : Bool := if p = 1 then wk q e n else if p = 2 then wk q e n && !(lst q e n && alo q e n) else false
noncomputable def ddB (q : PS) (p e : Nat) (v : Nat → Bool) (n : Nat) : Bool := stA q p e n || (!tkn q p e n && alQ q v n)
noncomputable def alv (q : PS) (p e n : Nat) : Bool := !gf (NN q) (fun v n => ddB q p e v n = true) n
theorem alN_m {q : PS} (hc : BC q) (hw : WFs q) (hnb : NB q) {v u : Nat → Bool} (h : ∀ m, m < NN q → v m = true → u m = true) {n : Nat} (hn : n < NN q) (h1 : alN q v n = true) : alN q u n = true := by
  have k0 := fun i => ld_lt hc hw hnb (w := 0) (n := n) (i := i) hn
  have k1 := fun i => ld_lt hc hw hnb (w := 1) (n := n) (i := i) hn
  unfold alN at h1 ⊢
  cases l0 : ld q 0 n with
  | none => rw [l0] at h1; cases h1
  | some a =>
    rw [l0] at h1
    cases l1 : ld q 1 n with
    | none =>
      rw [l1] at h1
      simp only [Bool.and_true] at h1 ⊢
      exact h a (k0 a l0) h1
    | some c =>
      rw [l1] at h1
      simp only [Bool.and_eq_true] at h1 ⊢
      exact ⟨h a (k0 a l0) h1.1, h c (k1 c l1) h1.2⟩
theorem alQ_m {q : PS} (hc : BC q) (hw : WFs q) (hnb : NB q) {v u : Nat → Bool} (h : ∀ m, m < NN q → v m = true → u m = true) {n : Nat} (hn : n < NN q) (h1 : alQ q v n = true) : alQ q u n = true := by
  have k0 := fun i => ld_lt hc hw hnb (w := 0) (n := n) (i := i) hn
  have k1 := fun i => ld_lt hc hw hnb (w := 1) (n := n) (i := i) hn
  unfold alQ at h1 ⊢
  cases l0 : ld q 0 n with
  | none =>
    rw [l0] at h1
    cases l1 : ld q 1 n with
    | none => rfl
    | some c =>
      rw [l1] at h1
      simp only [Bool.true_and] at h1 ⊢
      exact h c (k1 c l1) h1
  | some a =>
    rw [l0] at h1
    cases l1 : ld q 1 n with
    | none =>
      rw [l1] at h1
      simp only [Bool.and_true] at h1 ⊢
      exact h a (k0 a l0) h1
    | some c =>
      rw [l1] at h1
      simp only [Bool.and_eq_true] at h1 ⊢
      exact ⟨h a (k0 a l0) h1.1, h c (k1 c l1) h1.2⟩
theorem wd_m {q : PS} (hc : BC q) (hw : WFs q) (hnb : NB q) (e : Nat) : MF (NN q) (fun v n => wdB q e v n = true) := fun v u h n hn h1 => by
  simp only [wdB, Bool.or_eq_true, Bool.and_eq_true] at h1 ⊢
  exact h1.imp id fun z => ⟨z.1, alN_m hc hw hnb h hn z.2⟩
theorem th_m {q : PS} (e : Nat) : MF (NN q) (thF q e) := fun v u h n hn h1 => ⟨h1.1, fun a ha hl => by
  have h2 := h1.2 a ha hl
  simp only [Bool.or_eq_true, Bool.and_eq_true] at h2 ⊢
  exact ⟨h2.1, h2.2.imp id (h a ha)⟩⟩
theorem dl_m {q : PS} (e : Nat) : MF (NN q) (dlF q e) := fun v u h n hn h1 => h1.imp id fun h1 => ⟨h1.1, fun a ha hl => by
  have h2 := h1.2 a ha hl
  simp only [Bool.and_eq_true] at h2 ⊢
  exact ⟨h a ha h2.1, h2.2⟩⟩
theorem ao_m {q : PS} (hc : BC q) (hw : WFs q) (hnb : NB q) (e : Nat) : MF (NN q) (fun v n => aoB q e v n = true) := fun v u h n hn h1 => alQ_m hc hw hnb (fun m hm h2 => by
  simp only [Bool.or_eq_true, Bool.and_eq_true] at h2 ⊢
  exact h2.imp id fun z => ⟨z.1, h m hm z.2⟩) hn h1
theorem dd_m {q : PS} (hc : BC q) (hw : WFs q) (hnb : NB q) (p e : Nat) : MF (NN q) (fun v n => ddB q p e v n = true) := fun v u h n hn h1 => by
  simp only [ddB, Bool.or_eq_true, Bool.and_eq_true] at h1 ⊢
  exact h1.imp id fun z => ⟨z.1, alQ_m hc hw hnb h hn z.2⟩
theorem nf_up {q : PS} (hc : BC q) : ∀ (k j : Nat), j + k < (psF q).length → 0 < k → nf q j < nf q (j + k)
  | 0, _, _, h => absurd h (by omega)
  | k + 1, j, h, _ => by
    have h1 := hc.2.2.2.2.1 (j + k) (by omega)
    by_cases e : k = 0
    · subst e; exact h1
    · have := nf_up hc k j (by omega) (by omega)
      rw [← Nat.add_assoc]; omega
theorem nf_ij {q : PS} (hc : BC q) {i j : Nat} (hi : i < (psF q).length) (hj : j < (psF q).length) (h : nf q i = nf q j) : i = j := by
  by_cases e : i = j
  · exact e
  · rcases Nat.lt_or_gt_of_ne e with l | l
    · have := nf_up hc (j - i) i (by omega) (by omega); rw [show i + (j - i) = j by omega] at this; omega
    · have := nf_up hc (i - j) j (by omega) (by omega); rw [show j + (i - j) = i by omega] at this; omega
theorem cntW_ge (q : PS) (t : Nat) : ∀ n j, j < n → cw q t j ≤ cntW q t n
  | 0, _, h => absurd h (by omega)
  | n + 1, j, h => by
    show _ ≤ cntW q t n + cw q t n
    by_cases e : j = n
    · subst e; omega
    · have := cntW_ge q t n j (by omega); omega
/-- a NODE doesn't lead to another one in both of its ways -/
theorem ld_ne {q : PS} (hc : BC q) (hw : WFs q) (hnb : NB q) {n i j : Nat} (h0 : ld q 0 n = some i) (h1 : ld q 1 n = some j) : i ≠ j := by
  unfold ld at h0 h1
  by_cases e : n < (psS q).length
  · rw [if_pos e] at h0 h1
    by_cases k4 : rK (rr q n) < 4
    · rw [if_pos k4] at h1; cases h1
    · rw [if_neg k4] at h0 h1
      rw [if_pos rfl] at h0
      rw [if_neg (by decide)] at h1
      obtain ⟨m, m1, m2, m3⟩ := st_end hc hw hnb e (by omega)
      cases w0 : wr q 0 n with
      | none => rw [w0] at h0; cases h0
      | some t0 =>
        cases w1 : wr q 1 n with
        | none => rw [w1] at h1; cases h1
        | some t1 =>
          rw [w0] at h0 h1
          rw [w1] at h1
          have k5 : rK (rr q n) = 5 := by
            obtain ⟨g1, g2, g3, g4, g5, g6, g7⟩ := st_w hw e
            by_cases a4 : rK (rr q n) = 4
            · have := (g5 a4).2; rw [w1] at this; cases this
            · by_cases a6 : rK (rr q n) = 6
              · have := (g7 a6).2; rw [w1] at this; cases this
              · omega
          have f0 := (m3 0 t0 w0).1
          have f1 := (m3 1 t1 w1).1
          have b0 : nf q t0 < (psS q).length := by have := hc.2.2.2.2.1 t0 f0; have := nf_le hc (j := t0 + 1) (by omega); omega
          have b1 : nf q t1 < (psS q).length := by have := hc.2.2.2.2.1 t1 f1; have := nf_le hc (j := t1 + 1) (by omega); omega
          have key : ¬ many q t0 = true → ¬ many q t1 = true → t0 = t1 → False := fun z0 _ z => by
            subst z
            have h2 := cntW_ge q t0 (psF q).length m m1
            have h3 : cw q t0 m = 2 := by
              unfold cw
              have y0 : wy q 0 m = some t0 := by rw [← wr_end, ← m2]; exact w0
              have y1 : wy q 1 m = some t0 := by rw [← wr_end, ← m2]; exact w1
              rw [if_pos y0, if_pos y1]
            exact z0 (decide_eq_true (by omega))
          intro z
          subst z
          unfold ldW nW at h1
          unfold ldW at h0
          by_cases z0 : many q t0 = true <;> by_cases z1 : many q t1 = true <;> simp [k5, z0, z1] at h0 h1
          · omega
          · omega
          · omega
          · exact key z0 z1 (nf_ij hc f0 f1 (by omega))
  · rw [if_neg e] at h1
    rw [if_neg (by decide)] at h1; cases h1
/-- only one array is changed -/
def LX (h0 : Nat) (σ σ' : HS) : Prop := sL σ' = sL σ ∧ sR σ' = sR σ ∧ sN σ' = sN σ ∧ ∀ h, h ≠ h0 → sI σ' h = sI σ h
theorem LX.rf {b : Nat} {σ : HS} : LX b σ σ := ⟨rfl, rfl, rfl, fun _ _ => rfl⟩
theorem LX.uI {b : Nat} {σ σ' : HS} {i : Nat} {v : Int32} (k : LX b σ σ') : LX b σ (uI σ' b i v) := ⟨k.1, k.2.1, k.2.2.1, fun a ha => (uI_off ha).trans (k.2.2.2 a ha)⟩
theorem LX.tr {b : Nat} {σ σ' σ'' : HS} (k : LX b σ σ') (k2 : LX b σ' σ'') : LX b σ σ'' := ⟨k2.1.trans k.1, k2.2.1.trans k.2.1, k2.2.2.1.trans k.2.2.1, fun a ha => (k2.2.2.2 a ha).trans (k.2.2.2 a ha)⟩
theorem LX.lf {b h0 : Nat} {σ σ' : HS} (k : LX h0 σ σ') (h : b ≤ h0 ∧ h0 < b + 32) : LF b σ σ' := ⟨k.1, k.2.1, k.2.2.1, fun a ha => k.2.2.2 a fun e => ha (by rw [e]; exact h)⟩
theorem LX.fil {h n : Nat} {σ : HS} {v : Int32} : LX h σ (filS σ h v n) := ⟨(filS_R n).2.2, (filS_R n).1, (filS_R n).2.1, fun a ha => funext fun i => by rw [filS_I, if_neg (by omega)]⟩
/-- the ROUTINE at b is q, linked, faultless; 'all' stands -/
def FE (σ : HS) (b : Nat) (q : PS) : Prop := RB σ b ∧ BC q ∧ WFs q ∧ NB q ∧ psX q = false ∧ sI σ b 14 = nI (NN q) ∧ SR σ b (psM q) false ∧ sI σ (b + 21) 10 = mkN (fun _ => true) (psM q).length ∧ ∀ i, i < NN q → sI σ (b + 1) i = nI (rK (rg q i)) ∧ sI σ (b + 3) i = rT (rg q i) ∧ sI σ (b + 7) i = rS (rg q i) ∧ sI σ (b + 12) i = oW (ld q 0 i) ∧ sI σ (b + 13) i = oW (ld q 1 i)
theorem FE.k {σ : HS} {b : Nat} {q : PS} (h : FE σ b q) : (psM q).length ≤ 32 := h.2.2.2.2.2.2.1.2.1
theorem SR.eq {σ σ' : HS} {b : Nat} {ss : List SUM} {m : Bool} (h : SR σ b ss m) (h1 : ∀ a, b + 17 ≤ a → a ≤ b + 20 → sI σ' a = sI σ a) : SR σ' b ss m := by
  obtain ⟨a1, a2, a3, a4⟩ := h
  exact ⟨by rw [h1 _ (by omega) (by omega)]; exact a1, a2, by rw [h1 _ (by omega) (by omega)]; exact a3, fun e he => by
    rw [h1 (b + 18) (by omega) (by omega), h1 (b + 19) (by omega) (by omega), h1 (b + 20) (by omega) (by omega)]; exact a4 e he⟩
theorem FE.lx {σ σ' : HS} {b h0 : Nat} {q : PS} (h : FE σ b q) (h1 : b + 22 ≤ h0 ∧ h0 < b + 32) (k : LX h0 σ σ') : FE σ' b q := by
  obtain ⟨a1, a2, a3, a4, a5, a6, a7, a8, a9⟩ := h
  have e : ∀ a, a < b + 22 → sI σ' a = sI σ a := fun a ha => k.2.2.2 a (by omega)
  exact ⟨RB.lf (k.lf (b := b) (by omega)) a1, a2, a3, a4, a5, by rw [e _ (by omega)]; exact a6, a7.eq fun a _ _ => e a (by omega), by rw [e _ (by omega)]; exact a8, fun i hi => by
    rw [e (b + 1) (by omega), e (b + 3) (by omega), e (b + 7) (by omega), e (b + 12) (by omega), e (b + 13) (by omega)]; exact a9 i hi⟩
/-- an array of sets -/
def FA (σ : HS) (h : Nat) (q : PS) (f : Nat → Nat → Bool) : Prop := ∀ n, n < NN q → sI σ h n = mkN (fun e => f e n) (psM q).length
theorem FA.lx {σ σ' : HS} {h h0 : Nat} {q : PS} {f : Nat → Nat → Bool} (a : FA σ h q f) (k : LX h0 σ σ') (hh : h ≠ h0) : FA σ' h q f := fun n hn => by rw [k.2.2.2 h hh]; exact a n hn
theorem FA.eq {σ : HS} {h : Nat} {q : PS} {f f2 : Nat → Nat → Bool} (a : FA σ h q f) (hh : ∀ e, e < (psM q).length → ∀ n, n < NN q → f e n = f2 e n) : FA σ h q f2 := fun n hn => (a n hn).trans (mk_ext fun e he => hh e he n hn)
theorem FA.up {σ : HS} {h : Nat} {q : PS} {f : Nat → Nat → Bool} {n : Nat} {x : Nat → Bool} (a : FA σ h q f) : FA (uI σ h n (mkN x (psM q).length)) h q (up1 f n x) := fun m hm => by
  rw [sI_uI]
  unfold up1
  by_cases e : m = n
  · rw [if_pos ⟨rfl, e⟩]; simp [e]
  · rw [if_neg fun z => e z.2, a m hm]; simp [e]
