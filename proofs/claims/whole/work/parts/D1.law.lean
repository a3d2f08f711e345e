/-! The law: both heaps side by side. -/
/-- what stands in a place: where the class has it, the ROUTINE, its WAY -/
abbrev PLC : Type := Nat × PS × List Nat
/-- tape, FAULT, places, NAMES, the RUN: what it left, how it ended, NODES come to, where it was REFUSED -/
abbrev LXX : Type := Nat × (Nat → Nat) × Int32 × (Nat → Option PLC) × (Nat → Int32) × XS × Nat × Nat × Int32
def lqL (x : LXX) : Nat := x.1
def lqT (x : LXX) : Nat → Nat := x.2.1
def lqW (x : LXX) : Int32 := x.2.2.1
def lqP (x : LXX) : Nat → Option PLC := x.2.2.2.1
def lqN (x : LXX) : Nat → Int32 := x.2.2.2.2.1
def lqS (x : LXX) : XS := x.2.2.2.2.2.1
def lqA (x : LXX) : Nat := x.2.2.2.2.2.2.1
def lqB (x : LXX) : Nat := x.2.2.2.2.2.2.2.1
def lqD (x : LXX) : Int32 := x.2.2.2.2.2.2.2.2
/-- the class's side -/
def LCC (σ : HS) (x : LXX) : Prop := SK σ ∧ (∃ m, sN σ = 98 + 32 * m) ∧ CTX σ (lqL x) (lqT x) ∧ sI σ 1 5 = lqW x ∧
  (∃ c, sR σ 5 5 = c ∧ RB σ c ∧ ∀ i, i < 4 → ∀ y, lqP x i = some y → y.1 ≠ c) ∧
  (∀ i, i < 4 → (lqP x i = none → sR σ 4 i = 0) ∧ ∀ b q ws, lqP x i = some (b, q, ws) → sR σ 4 i = b ∧ RTN σ b q ∧ WY σ b q ws) ∧
  (∀ i j, i < 4 → j < 4 → i ≠ j → ∀ y z, lqP x i = some y → lqP x j = some z → y.1 ≠ z.1) ∧
  (∀ k, k < 48 → sI σ 47 k = lqN x k) ∧ XR σ (lqS x) ∧ sI σ 46 7 = nI (lqA x) ∧ sI σ 46 8 = nI (lqB x) ∧ sI σ 46 10 = lqD x
/-- the model's side -/
def LMM (σ : HS) (x : LXX) : Prop := MTX σ (lqL x) (lqT x) ∧ sI σ 58 34 = lqW x ∧
  (∀ i, i < 4 → (lqP x i = none → sI σ 60 i = nI 0) ∧ ∀ b q ws, lqP x i = some (b, q, ws) → sI σ 60 i = nI 1 ∧ MR σ i q ∧ MW σ i q ws) ∧
  (∀ k, k < 48 → sI σ 89 k = lqN x k) ∧ XM σ (lqS x) ∧ sI σ 58 51 = nI (lqA x) ∧ sI σ 58 52 = nI (lqB x) ∧ sI σ 58 54 = lqD x
/-- what is known of both -/
def LPP (x : LXX) : Prop := xC (lqS x) < 100000 ∧ ∀ i, i < 4 → ∀ b q ws, lqP x i = some (b, q, ws) → MOK q ∧ WC q ws ∧ QT q ∧ ∀ j, j < (psF q).length → Rch q j
def LAW (σ : HS) : Prop := ∃ x, LCC σ x ∧ LMM σ x ∧ LPP x
theorem NE.cf {σ σ' : HS} {n : Nat} {r : REC} (h : ∀ a, 67 ≤ a → a ≤ 77 → sI σ' a n = sI σ a n) (k : NE σ n r) : NE σ' n r := k.mv fun a h1 h2 _ _ => h a h1 h2
theorem MR.cf {σ σ' : HS} {i : Nat} {q : PS} (h : ∀ a j, 61 ≤ a → a ≤ 83 → sI σ' a j = sI σ a j) (k : MR σ i q) : MR σ' i q := ⟨k.1.cp fun a j h1 h2 => h a j h1 (by omega), fun e he n hn => (h _ _ (by omega) (by omega)).trans (k.2 e he n hn)⟩
theorem MW.cf {σ σ' : HS} {i : Nat} {q : PS} {ws : List Nat} (h : ∀ a j, 95 ≤ a → a ≤ 96 → sI σ' a j = sI σ a j) (k : MW σ i q ws) : MW σ' i q ws := ⟨(h _ _ (by omega) (by omega)).trans k.1, k.2.1, fun j hj => ⟨(h _ _ (by omega) (by omega)).trans (k.2.2 j hj).1, (k.2.2 j hj).2⟩⟩
theorem XM.cf {σ σ' : HS} {s : XS} (h : ∀ a j, 58 ≤ a → a ≤ 98 → sI σ' a j = sI σ a j) (k : XM σ s) : XM σ' s := by
  obtain ⟨k1, k2, k3, k4, k5, k6⟩ := k
  exact ⟨fun i hi => (h _ _ (by omega) (by omega)).trans (k1 i hi), fun a ha i hi => (h _ _ (by omega) (by omega)).trans (k2 a ha i hi), fun e he => (h _ _ (by omega) (by omega)).trans (k3 e he), fun i a b => (h _ _ (by omega) (by omega)).trans (k4 i a b), (h _ _ (by omega) (by omega)).trans k5, (h _ _ (by omega) (by omega)).trans k6⟩
theorem MTX.cf {σ σ' : HS} {L : Nat} {T : Nat → Nat} (h : ∀ a j, 58 ≤ a → a ≤ 98 → sI σ' a j = sI σ a j) (k : MTX σ L T) : MTX σ' L T := ⟨(h _ _ (by omega) (by omega)).trans k.1, k.2.1, fun i hi => ⟨(h _ _ (by omega) (by omega)).trans (k.2.2 i hi).1, (k.2.2 i hi).2⟩⟩
/-- the class leaves the model alone -/
theorem LMM.cf {σ σ' : HS} {x : LXX} (h : ∀ a j, 58 ≤ a → a ≤ 98 → sI σ' a j = sI σ a j) (k : LMM σ x) : LMM σ' x := by
  obtain ⟨k1, k2, k3, k4, k5, k6, k7, k8⟩ := k
  refine ⟨k1.cf h, (h _ _ (by omega) (by omega)).trans k2, fun i hi => ⟨fun z => (h _ _ (by omega) (by omega)).trans ((k3 i hi).1 z), fun b q ws z => ?_⟩, fun j hj => (h _ _ (by omega) (by omega)).trans (k4 j hj), k5.cf h, (h _ _ (by omega) (by omega)).trans k6, (h _ _ (by omega) (by omega)).trans k7, (h _ _ (by omega) (by omega)).trans k8⟩
  obtain ⟨a1, a2, a3⟩ := (k3 i hi).2 b q ws z
  exact ⟨(h _ _ (by omega) (by omega)).trans a1, a2.cf fun a j h1 h2 => h a j (by omega) (by omega), a3.cf fun a j h1 h2 => h a j (by omega) (by omega)⟩
theorem LMM.fr {S : List Nat} {σ σ' : HS} {x : LXX} (f : Fr S σ σ') (hS : ∀ a, a ∈ S → a < 58 ∨ 98 < a) (k : LMM σ x) : LMM σ' x := k.cf fun a j h1 h2 => by
  rw [f.2.2.2 a fun z => by have := hS a z; omega]
theorem CTX.mf {σ σ' : HS} {L : Nat} {T : Nat → Nat} (h : ∀ a j, a < 58 → sI σ' a j = sI σ a j) (k : CTX σ L T) : CTX σ' L T := ⟨(h _ _ (by omega)).trans k.1, k.2.1, fun i hi => ⟨by rw [h _ _ (by omega)]; exact (k.2.2 i hi).1, (k.2.2 i hi).2⟩⟩
theorem XR.mf {σ σ' : HS} {s : XS} (h : ∀ a j, a < 58 → sI σ' a j = sI σ a j) (k : XR σ s) : XR σ' s := by
  obtain ⟨k1, k2, k3, k4, k5, k6, k7, k8⟩ := k
  exact ⟨fun i hi => (h _ _ (by omega)).trans (k1 i hi), fun i hi => (h _ _ (by omega)).trans (k2 i hi), fun i hi => (h _ _ (by omega)).trans (k3 i hi), fun i hi => (h _ _ (by omega)).trans (k4 i hi), fun i hi => (h _ _ (by omega)).trans (k5 i hi), fun i hi => (h _ _ (by omega)).trans (k6 i hi), (h _ _ (by omega)).trans k7, (h _ _ (by omega)).trans k8⟩
theorem RB.mf {σ σ' : HS} {b : Nat} (h1 : sR σ' = sR σ) (h2 : sN σ' = sN σ) (k : RB σ b) : RB σ' b := ⟨k.1, by rw [h2]; exact k.2.1, fun o c r w => by rw [h1]; exact k.2.2 o c r w⟩
/-- the model leaves the class alone -/
theorem LCC.mf {σ σ' : HS} {x : LXX} (h1 : sR σ' = sR σ) (h2 : sN σ' = sN σ) (h : ∀ a j, (a < 58 ∨ 98 < a) → sI σ' a j = sI σ a j) (k : LCC σ x) : LCC σ' x := by
  obtain ⟨k1, k2, k3, k4, ⟨c, c1, c2, c3⟩, k6, k7, k8, k9, k10, k11, k12⟩ := k
  have hl : ∀ a j, a < 58 → sI σ' a j = sI σ a j := fun a j z => h a j (Or.inl z)
  refine ⟨⟨by rw [h2]; exact k1.1, fun a b r z => by rw [h1]; exact k1.2 a b r z⟩, by rw [h2]; exact k2, k3.mf hl, (hl _ _ (by omega)).trans k4, ⟨c, by rw [h1]; exact c1, c2.mf h1 h2, c3⟩, fun i hi => ⟨fun z => by rw [h1]; exact (k6 i hi).1 z, fun b q ws z => ?_⟩, k7, fun j hj => (hl _ _ (by omega)).trans (k8 j hj), k9.mf hl, (hl _ _ (by omega)).trans k10, (hl _ _ (by omega)).trans k11, (hl _ _ (by omega)).trans k12⟩
  obtain ⟨a1, a2, ⟨w1, w2, w3⟩⟩ := (k6 i hi).2 b q ws z
  have hb := a2.1.1
  have hh : ∀ a j, b ≤ a → a < b + 32 → sI σ' a j = sI σ a j := fun a j y1 y2 => h a j (by rcases hb with hb | ⟨m, hb⟩ <;> omega)
  exact ⟨by rw [h1]; exact a1, a2.of (a2.1.mf h1 h2) fun a j y1 y2 _ _ => hh a j y1 y2, (hh _ _ (by omega) (by omega)).trans w1, w2, fun j hj => ⟨(hh _ _ (by omega) (by omega)).trans (w3 j hj).1, (w3 j hj).2⟩⟩
theorem LCC.fq {P : Nat → Nat → Prop} {σ σ' : HS} {x : LXX} (f : FR9 P σ σ') (h : ∀ a i, P a i → 58 ≤ a ∧ a ≤ 98) (k : LCC σ x) : LCC σ' x := k.mf f.1 f.2.1 fun a j z => f.2.2.2 a j fun y => by have := h a j y; omega
theorem n_ex {p : Int32} (h : ¬ p < 0) : ∃ v, v < 2147483648 ∧ p = nI v := by
  have h0 : (0 : Int) ≤ p.toInt := Int32.le_iff_toInt_le.mp (Int32.not_lt.mp h)
  have h1 : p.toInt < 2147483648 := Int32.toInt_lt p
  refine ⟨p.toInt.toNat, by omega, ?_⟩
  apply Int32.toInt_inj.mp
  rw [nI_toInt (by omega)]
  omega
theorem n_exl {p : Int32} {n : Nat} (hn : n < 2147483648) (h : ¬ p < 0) (h2 : p < nI n) : ∃ v, v < n ∧ p = nI v := by
  obtain ⟨v, v1, rfl⟩ := n_ex h
  exact ⟨v, (nI_ltI (by omega) (by omega)).mp h2, rfl⟩
theorem p_cases (p : Int32) : (p < 0 ∨ nI 4 ≤ p) ∨ ∃ i, i < 4 ∧ p = nI i := by
  by_cases h : p < 0
  · exact Or.inl (Or.inl h)
  · by_cases h2 : nI 4 ≤ p
    · exact Or.inl (Or.inr h2)
    · exact Or.inr (n_exl (by omega) h (Int32.not_le.mp h2))
/-- what stands in a place, on both sides -/
theorem law_pl {σ : HS} {x : LXX} (hc : LCC σ x) (hm : LMM σ x) (hp : LPP x) (p : Int32) : (RA σ p none ∧ MA σ p none) ∨ ∃ i b q ws, i < 4 ∧ p = nI i ∧ lqP x i = some (b, q, ws) ∧ RA σ p (some (b, q)) ∧ MA σ p (some q) ∧ sI σ 60 i = nI 1 ∧ MR σ i q ∧ MOK q ∧ WY σ b q ws ∧ MW σ i q ws ∧ WC q ws ∧ QT q ∧ (∀ j, j < (psF q).length → Rch q j) := by
  rcases p_cases p with h | ⟨i, hi, rfl⟩
  · exact Or.inl ⟨h.imp id Or.inl, h.imp id Or.inl⟩
  · obtain ⟨c1, c2⟩ := hc.2.2.2.2.2.1 i hi
    obtain ⟨m1, m2⟩ := hm.2.2.1 i hi
    cases hx : lqP x i with
    | none => exact Or.inl ⟨Or.inr (Or.inr ⟨i, hi, rfl, c1 hx⟩), Or.inr (Or.inr ⟨i, hi, rfl, m1 hx⟩)⟩
    | some y =>
      obtain ⟨b, q, ws⟩ := y
      obtain ⟨a1, a2, a3⟩ := c2 b q ws hx
      obtain ⟨b1, b2, b3⟩ := m2 b q ws hx
      obtain ⟨p1, p2, p3, p4⟩ := hp.2 i hi b q ws hx
      exact Or.inr ⟨i, b, q, ws, hi, rfl, hx, ⟨i, hi, rfl, a1, a2⟩, ⟨i, hi, rfl, b1, b2, p1⟩, b1, b2, p1, a3, b3, p2, p3, p4⟩
