/-! Sets of SUMS: what is computed bit by bit; greatest sets. -/
theorem mk_ext {f f2 : Nat → Bool} : ∀ {k : Nat}, (∀ e, e < k → f e = f2 e) → mkN f k = mkN f2 k
  | 0, _ => rfl
  | k + 1, h => by
    show mkN f k ||| _ = mkN f2 k ||| _
    rw [mk_ext fun e he => h e (by omega), h k (by omega)]
theorem mk_inj {f f2 : Nat → Bool} {k : Nat} (hk : k ≤ 32) (h : mkN f k = mkN f2 k) : ∀ e, e < k → f e = f2 e := fun e he => by
  have h1 := congrArg (fun z => ib z e) h
  simp only [ib_mk hk, decide_eq_true he, Bool.true_and] at h1
  exact h1
theorem mk_op {f : Nat → Bool} {k : Nat} (hk : k ≤ 32) {x : Int32} (h : ∀ i, i < 32 → ib x i = (decide (i < k) && f i)) : x = mkN f k := ib_ext fun i hi => by rw [h i hi, ib_mk hk]
theorem mk_or {f f2 : Nat → Bool} {k : Nat} (hk : k ≤ 32) : mkN f k ||| mkN f2 k = mkN (fun e => f e || f2 e) k := mk_op hk fun i _ => by
  rw [ib_or, ib_mk hk, ib_mk hk]; cases decide (i < k) <;> simp
theorem mk_and {f f2 : Nat → Bool} {k : Nat} (hk : k ≤ 32) : mkN f k &&& mkN f2 k = mkN (fun e => f e && f2 e) k := mk_op hk fun i _ => by
  rw [ib_and, ib_mk hk, ib_mk hk]; cases decide (i < k) <;> simp
theorem mk_nand {f f2 : Nat → Bool} {k : Nat} (hk : k ≤ 32) : (mkN f k ^^^ (-1)) &&& mkN f2 k = mkN (fun e => !f e && f2 e) k := mk_op hk fun i hi => by
  rw [ib_and, ib_not _ hi, ib_mk hk, ib_mk hk]; cases decide (i < k) <;> simp
theorem mk_andn {f f2 : Nat → Bool} {k : Nat} (hk : k ≤ 32) : mkN f k &&& (mkN f2 k ^^^ (-1)) = mkN (fun e => f e && !f2 e) k := mk_op hk fun i hi => by
  rw [ib_and, ib_not _ hi, ib_mk hk, ib_mk hk]; cases decide (i < k) <;> simp
theorem mk_lat {f f2 f3 : Nat → Bool} {k : Nat} (hk : k ≤ 32) : mkN f k &&& (mkN f2 k ||| (mkN f3 k ^^^ (-1))) = mkN (fun e => f e && (f2 e || !f3 e)) k := mk_op hk fun i hi => by
  rw [ib_and, ib_or, ib_not _ hi, ib_mk hk, ib_mk hk, ib_mk hk]; cases decide (i < k) <;> simp
theorem mk_lost {f f2 f3 : Nat → Bool} {k : Nat} (hk : k ≤ 32) : (mkN f k ||| (mkN f2 k ^^^ (-1))) &&& mkN f3 k = mkN (fun e => (f e || !f2 e) && f3 e) k := mk_op hk fun i hi => by
  rw [ib_and, ib_or, ib_not _ hi, ib_mk hk, ib_mk hk, ib_mk hk]; cases decide (i < k) <;> simp
theorem mk_0 : ∀ k : Nat, nI 0 = mkN (fun _ => false) k
  | 0 => rfl
  | k + 1 => by
    show _ = mkN (fun _ => false) k ||| nI 0
    rw [← mk_0 k]; rfl
theorem mk_bS {k s : Nat} (hk : k ≤ 32) (hs : s < k) : nI 1 <<< (nI s &&& 31) = mkN (fun e => decide (e = s)) k := by
  show bS s = _
  refine mk_op hk fun i _ => ?_
  rw [ib_bS (by omega)]
  by_cases e : i = s
  · subst e; simp [hs]
  · simp [e]
theorem mk_if {f : Nat → Bool} {k : Nat} {c : Bool} : (if c = true then mkN f k else nI 0) = mkN (fun e => c && f e) k := by
  cases c
  · rw [if_neg (by decide), mk_0 k]; exact mk_ext fun e _ => by simp
  · rw [if_pos rfl]; exact mk_ext fun e _ => by simp
def us (x : Int32) (k : Nat) : Int32 := (x.toUInt32 >>> ((nI k).toUInt32 &&& Int32.toUInt32 31)).toInt32 &&& nI 1
theorem us_all : ∀ k : Fin 32, ((nI k.val).toUInt32 &&& Int32.toUInt32 31).toNat = k.val := by decide +kernel
theorem ib_1 : ∀ i : Nat, ib (nI 1) i = decide (i = 0) := fun i => by
  by_cases h : i < 32
  · have h2 : ∀ k : Fin 32, ib (nI 1) k.val = decide (k.val = 0) := by decide +kernel
    exact h2 ⟨i, h⟩
  · rw [ib_ge (by omega), decide_eq_false (by omega)]
theorem us_eq {x : Int32} {k : Nat} (hk : k < 32) : us x k = bi (ib x k) := by
  apply ib_ext
  intro i hi
  unfold us
  rw [ib_and, ib_1]
  by_cases e : i = 0
  · subst e
    have h1 : ib (x.toUInt32 >>> ((nI k).toUInt32 &&& Int32.toUInt32 31)).toInt32 0 = ib x k := by
      unfold ib
      show (x.toUInt32 >>> ((nI k).toUInt32 &&& Int32.toUInt32 31)).toBitVec.getLsbD 0 = _
      rw [UInt32.toBitVec_shiftRight]
      have h2 : (((nI k).toUInt32 &&& Int32.toUInt32 31)).toBitVec = BitVec.ofNat 32 k := by
        apply BitVec.eq_of_toNat_eq
        have h3 := us_all ⟨k, hk⟩
        rw [BitVec.toNat_ofNat, Nat.mod_eq_of_lt (by omega)]
        exact h3
      rw [h2]
      have h4 : (BitVec.ofNat 32 k % 32).toNat = k := by
        rw [BitVec.toNat_umod, BitVec.toNat_ofNat, Nat.mod_eq_of_lt (a := k) (by omega)]
        exact Nat.mod_eq_of_lt hk
      show (x.toUInt32.toBitVec >>> (BitVec.ofNat 32 k % 32)).getLsbD 0 = _
      rw [BitVec.ushiftRight_eq', h4, BitVec.getLsbD_ushiftRight, Nat.add_zero]
      rfl
    rw [h1]
    cases ib x k
    · show _ = ib (nI 0) 0
      rw [ib_0]; rfl
    · show _ = ib (nI 1) 0
      rw [ib_1]; rfl
  · rw [decide_eq_false e, Bool.and_false]
    cases ib x k
    · show _ = ib (nI 0) i
      rw [ib_0]
    · show _ = ib (nI 1) i
      rw [ib_1, decide_eq_false e]
theorem mk_bit {f : Nat → Bool} {k : Nat} (hk : k ≤ 32) {e : Nat} (he : e < k) : us (mkN f k) e = bi (f e) := by
  rw [us_eq (by omega), ib_mk hk]
  simp [he]
theorem mk_ne {f f2 : Nat → Bool} {k : Nat} (hk : k ≤ 32) : (mkN f k = mkN f2 k) ↔ ∀ e, e < k → f e = f2 e := ⟨mk_inj hk, mk_ext⟩
/-! Greatest sets of NODES. -/
/-- F says of a set and a NODE whether the NODE may stay -/
def GF (N : Nat) (F : (Nat → Bool) → Nat → Prop) (n : Nat) : Prop := ∃ v : Nat → Bool, (∀ m, m < N → v m = true → F v m) ∧ v n = true
noncomputable def gf (N : Nat) (F : (Nat → Bool) → Nat → Prop) (n : Nat) : Bool := @decide (GF N F n) (Classical.propDecidable _)
theorem gf_t {N : Nat} {F : (Nat → Bool) → Nat → Prop} {n : Nat} : gf N F n = true ↔ GF N F n := by unfold gf; exact @decide_eq_true_iff _ (Classical.propDecidable _)
def MF (N : Nat) (F : (Nat → Bool) → Nat → Prop) : Prop := ∀ v u : Nat → Bool, (∀ m, m < N → v m = true → u m = true) → ∀ n, n < N → F v n → F u n
def Cl (N : Nat) (F : (Nat → Bool) → Nat → Prop) (v : Nat → Bool) : Prop := ∀ m, m < N → v m = true → F v m
/-- what holds all of the greatest set -/
def Up (N : Nat) (F : (Nat → Bool) → Nat → Prop) (v : Nat → Bool) : Prop := ∀ m, m < N → gf N F m = true → v m = true
theorem gf_F {N : Nat} {F : (Nat → Bool) → Nat → Prop} (hF : MF N F) : Cl N F (gf N F) := fun m hm h => by
  obtain ⟨v, h1, h2⟩ := gf_t.mp h
  exact hF v _ (fun i _ hv => gf_t.mpr ⟨v, h1, hv⟩) m hm (h1 m hm h2)
theorem gf_max {N : Nat} {F : (Nat → Bool) → Nat → Prop} {v : Nat → Bool} (h : Cl N F v) {n : Nat} (hv : v n = true) : gf N F n = true := gf_t.mpr ⟨v, h, hv⟩
theorem gf_end {N : Nat} {F : (Nat → Bool) → Nat → Prop} {v : Nat → Bool} (h : Cl N F v) (hu : Up N F v) {n : Nat} (hn : n < N) : v n = gf N F n := by
  cases e : v n
  · cases e2 : gf N F n
    · rfl
    · have := hu n hn e2; rw [e] at this; cases this
  · exact (gf_max h e).symm
theorem Cl.same {N : Nat} {F : (Nat → Bool) → Nat → Prop} (hF : MF N F) {v u : Nat → Bool} (h : Cl N F v) (hs : ∀ n, n < N → u n = v n) : Cl N F u := fun m hm hu =>
  hF v u (fun i hi hv => by rw [hs i hi]; exact hv) m hm (h m hm (by rw [← hs m hm]; exact hu))
/-- one more NODE looked at -/
theorem Up.upd {N : Nat} {F : (Nat → Bool) → Nat → Prop} (hF : MF N F) {v u : Nat → Bool} {n : Nat} (h : Up N F v) (hn : n < N) (h1 : ∀ m, m ≠ n → u m = v m) (h2 : F v n → v n = true → u n = true) : Up N F u := fun m hm hg => by
  by_cases e : m = n
  · subst e
    exact h2 (hF _ v (fun i hi hi2 => h i hi hi2) m hm (gf_F hF m hm hg)) (h m hm hg)
  · rw [h1 m e]; exact h m hm hg
/-- rounds: k sets side by side; behind r rounds each stands or has lost r NODES -/
def GRO (N k : Nat) (F : Nat → (Nat → Bool) → Nat → Prop) (v : Nat → Nat → Bool) (r : Nat) : Prop := ∀ e, e < k → Up N (F e) (v e) ∧ (Cl N (F e) (v e) ∨ cnt (v e) N + r ≤ N)
theorem GRO_0 {N k : Nat} {F : Nat → (Nat → Bool) → Nat → Prop} {v : Nat → Nat → Bool} (h : ∀ e, e < k → Up N (F e) (v e)) : GRO N k F v 0 := fun e he => ⟨h e he, Or.inr (cnt_le _ _)⟩
theorem GRO_s {N k : Nat} {F : Nat → (Nat → Bool) → Nat → Prop} (hF : ∀ e, e < k → MF N (F e)) {v0 v : Nat → Nat → Bool} {r : Nat} (h0 : GRO N k F v0 r) (hu : ∀ e, e < k → Up N (F e) (v e)) (hd : ∀ e, e < k → ∀ n, n < N → v e n = true → v0 e n = true) (hc : ∀ e, e < k → (∀ n, n < N → v e n = v0 e n) → Cl N (F e) (v0 e)) : GRO N k F v (r + 1) := fun e he => by
  refine ⟨hu e he, ?_⟩
  by_cases hs : ∀ n, n < N → v e n = v0 e n
  · exact Or.inl ((hc e he hs).same (hF e he) hs)
  · obtain ⟨n, hn⟩ := Classical.not_forall.mp hs
    obtain ⟨hn1, hn2⟩ := Classical.not_imp.mp hn
    rcases (h0 e he).2 with h1 | h1
    · exact absurd (fun n hn => by
        cases q : v0 e n
        · cases q2 : v e n
          · rfl
          · have := hd e he n hn q2; rw [q] at this; cases this
        · exact hu e he n hn (gf_max h1 q)) hs
    · have h2 := cnt_lt (f := v e) (g := v0 e) (n := N) (hd e he) ⟨n, hn1, by
        cases q : v0 e n
        · cases q2 : v e n
          · rw [q, q2] at hn2; exact absurd rfl hn2
          · have := hd e he n hn1 q2; rw [q] at this; cases this
        · rfl, fun q2 => hn2 (by rw [q2, hd e he n hn1 q2])⟩
      exact Or.inr (by omega)
theorem GRO_n {N k : Nat} {F : Nat → (Nat → Bool) → Nat → Prop} {v : Nat → Nat → Bool} {r : Nat} (h : GRO N k F v r) (hr : N < r) : ∀ e, e < k → ∀ n, n < N → v e n = gf N (F e) n := fun e he n hn => by
  rcases (h e he).2 with h1 | h1
  · exact gf_end h1 (h e he).1 hn
  · omega
theorem GRO_c {N k : Nat} {F : Nat → (Nat → Bool) → Nat → Prop} {v : Nat → Nat → Bool} {r : Nat} (h : GRO N k F v r) (hc : ∀ e, e < k → Cl N (F e) (v e)) : ∀ e, e < k → ∀ n, n < N → v e n = gf N (F e) n := fun e he n hn => gf_end (hc e he) (h e he).1 hn
/-- v with another value at n -/
def up1 (v : Nat → Nat → Bool) (n : Nat) (x : Nat → Bool) : Nat → Nat → Bool := fun e m => if m = n then x e else v e m
/-- within a round that goes down from NODE N - 1 and gives each NODE what B says: m is next + 1 -/
def GRW (N k : Nat) (B : Nat → (Nat → Bool) → Nat → Bool) (v0 v : Nat → Nat → Bool) (m : Nat) (c : Bool) : Prop :=
  (∀ e, e < k → Up N (fun x n => B e x n = true) (v e) ∧ (∀ n, n < N → B e (v e) n = true → v e n = true) ∧ (∀ n, n < N → v e n = true → v0 e n = true) ∧ ((∀ n, n < N → v e n = v0 e n) → ∀ n, m ≤ n → n < N → v0 e n = true → B e (v0 e) n = true)) ∧ (c = false → ∀ e, e < k → ∀ n, n < N → v e n = v0 e n)
/-- between rounds -/
def GRP (N k : Nat) (B : Nat → (Nat → Bool) → Nat → Bool) (v : Nat → Nat → Bool) (r : Nat) (c : Bool) : Prop :=
  GRO N k (fun e x n => B e x n = true) v r ∧ (∀ e, e < k → ∀ n, n < N → B e (v e) n = true → v e n = true) ∧ (c = false → ∀ e, e < k → Cl N (fun x n => B e x n = true) (v e))
theorem GRP_in {N k : Nat} {B : Nat → (Nat → Bool) → Nat → Bool} {v : Nat → Nat → Bool} {r : Nat} {c : Bool} (h : GRP N k B v r c) : GRW N k B v v N false :=
  ⟨fun e he => ⟨(h.1 e he).1, h.2.1 e he, fun _ _ h => h, fun _ n h1 h2 => absurd h2 (by omega)⟩, fun _ _ _ _ _ => rfl⟩
theorem GRW_s {N k : Nat} {B : Nat → (Nat → Bool) → Nat → Bool} (hF : ∀ e, e < k → MF N (fun x n => B e x n = true)) (hk : k ≤ 32) {v0 v : Nat → Nat → Bool} {m : Nat} {c : Bool} (hm : m < N) (h : GRW N k B v0 v (m + 1) c) : GRW N k B v0 (up1 v m (fun e => B e (v e) m)) m (c || !decide (mkN (fun e => B e (v e) m) k = mkN (fun e => v e m) k)) := by
  obtain ⟨h1, h2⟩ := h
  have hdn : ∀ e, e < k → ∀ n, n < N → up1 v m (fun e => B e (v e) m) e n = true → v e n = true := fun e he n hn hu => by
    unfold up1 at hu
    by_cases q : n = m
    · rw [if_pos q] at hu; rw [q]; exact (h1 e he).2.1 m hm hu
    · rw [if_neg q] at hu; exact hu
  refine ⟨fun e he => ?_, fun hc e he n hn => ?_⟩
  · obtain ⟨a1, a2, a3, a4⟩ := h1 e he
    refine ⟨a1.upd (hF e he) hm (fun n hn => by unfold up1; rw [if_neg hn]) (fun hb _ => by unfold up1; rw [if_pos rfl]; exact hb), fun n hn hb => ?_, fun n hn hu => a3 n hn (hdn e he n hn hu), fun hs n h3 h4 h5 => ?_⟩
    · have hb2 := hF e he _ (v e) (hdn e he) n hn hb
      unfold up1
      by_cases q : n = m
      · rw [if_pos q]; rw [← q]; exact hb2
      · rw [if_neg q]; exact a2 n hn hb2
    · have hv : ∀ i, i < N → v e i = v0 e i := fun i hi => by
        cases q : v0 e i
        · cases q2 : v e i
          · rfl
          · have := a3 i hi q2; rw [q] at this; cases this
        · exact hdn e he i hi (by rw [hs i hi]; exact q)
      by_cases q : n = m
      · have h6 := hs m hm
        unfold up1 at h6
        rw [if_pos rfl] at h6
        have h6 : B e (v e) m = v0 e m := h6
        rw [q] at h5 ⊢
        refine hF e he (v e) (v0 e) (fun i hi hi2 => by rw [← hv i hi]; exact hi2) m hm ?_
        show B e (v e) m = true
        rw [h6]; exact h5
      · exact a4 hv n (by omega) h4 h5
  · obtain ⟨c1, c2⟩ := Bool.or_eq_false_iff.mp hc
    have c3 := mk_inj hk (of_decide_eq_true (by cases q : decide (mkN (fun e => B e (v e) m) k = mkN (fun e => v e m) k) <;> simp_all)) e he
    have c4 := h2 c1 e he n hn
    unfold up1
    by_cases q : n = m
    · rw [if_pos q]
      exact c3.trans (by rw [← q]; exact c4)
    · rw [if_neg q]; exact c4
theorem GRP_out {N k : Nat} {B : Nat → (Nat → Bool) → Nat → Bool} (hF : ∀ e, e < k → MF N (fun x n => B e x n = true)) {v0 v : Nat → Nat → Bool} {r : Nat} {c0 c : Bool} (h : GRP N k B v0 r c0) (h2 : GRW N k B v0 v 0 c) : GRP N k B v (r + 1) c :=
  ⟨GRO_s hF h.1 (fun e he => (h2.1 e he).1) (fun e he => (h2.1 e he).2.2.1) (fun e he hs n hn => (h2.1 e he).2.2.2 hs n (by omega) hn), fun e he => (h2.1 e he).2.1, fun hc e he => by
    have hs := h2.2 hc e he
    have : Cl N (fun x n => B e x n = true) (v0 e) := fun n hn => (h2.1 e he).2.2.2 hs n (by omega) hn
    exact this.same (hF e he) hs⟩
theorem GRP_0 {N k : Nat} {B : Nat → (Nat → Bool) → Nat → Bool} {c : Bool} (hc : c = true) : GRP N k B (fun _ _ => true) 0 c :=
  ⟨GRO_0 fun _ _ _ _ _ => rfl, fun _ _ _ _ _ => rfl, fun h => by rw [hc] at h; cases h⟩
