/-! The model's words: which letters they are. -/
theorem pk_all {T : Nat → Nat} {p : Nat} (n : Nat) (h8 : n ≤ 8) (h1 : 1 ≤ n) (hl : ∀ i, i < n → isLet (T (p + i)) = true) :
    (∀ c, 97 ≤ c → c ≤ 122 → (pkN T p n = c ↔ (n = 1 ∧ T p = c))) ∧
    (pkN T p n = 1952803948 ↔ (n = 4 ∧ T p = 116 ∧ T (p + 1) = 101 ∧ T (p + 2) = 108 ∧ T (p + 3) = 108)) ∧
    (pkN T p n = 26479 ↔ (n = 2 ∧ T p = 103 ∧ T (p + 1) = 111)) ∧
    (pkN T p n = 26982 ↔ (n = 2 ∧ T p = 105 ∧ T (p + 1) = 102)) ∧
    (pkN T p n = 465557354085 ↔ (n = 5 ∧ T p = 108 ∧ T (p + 1) = 101 ∧ T (p + 2) = 97 ∧ T (p + 3) = 118 ∧ T (p + 4) = 101)) := by
  have hb : ∀ i, i < n → 97 ≤ T (p + i) ∧ T (p + i) ≤ 122 := fun i hi => by
    have := hl i hi
    unfold isLet at this
    simpa only [Bool.and_eq_true, decide_eq_true_eq] using this
  have h0 := hb 0 (by omega)
  rw [Nat.add_zero] at h0
  have e1 : pkN T p 1 = T p := by show 0 * 256 + T (p + 0) = _; rw [Nat.add_zero]; omega
  have e2 : pkN T p 2 = T p * 256 + T (p + 1) := by show pkN T p 1 * 256 + _ = _; rw [e1]
  have e3 : pkN T p 3 = (T p * 256 + T (p + 1)) * 256 + T (p + 2) := by show pkN T p 2 * 256 + _ = _; rw [e2]
  have e4 : pkN T p 4 = ((T p * 256 + T (p + 1)) * 256 + T (p + 2)) * 256 + T (p + 3) := by show pkN T p 3 * 256 + _ = _; rw [e3]
  have e5 : pkN T p 5 = (((T p * 256 + T (p + 1)) * 256 + T (p + 2)) * 256 + T (p + 3)) * 256 + T (p + 4) := by show pkN T p 4 * 256 + _ = _; rw [e4]
  have e6 : pkN T p 6 = pkN T p 5 * 256 + T (p + 5) := rfl
  have e7 : pkN T p 7 = pkN T p 6 * 256 + T (p + 6) := rfl
  have e8 : pkN T p 8 = pkN T p 7 * 256 + T (p + 7) := rfl
  rcases (show n = 1 ∨ n = 2 ∨ n = 3 ∨ n = 4 ∨ n = 5 ∨ n = 6 ∨ n = 7 ∨ n = 8 by omega) with rfl | rfl | rfl | rfl | rfl | rfl | rfl | rfl
  · rw [e1]; refine ⟨fun c _ _ => ?_, ?_, ?_, ?_, ?_⟩ <;> omega
  · have := hb 1 (by omega)
    rw [e2]; refine ⟨fun c _ _ => ?_, ?_, ?_, ?_, ?_⟩ <;> omega
  · have := hb 1 (by omega)
    have := hb 2 (by omega)
    rw [e3]; refine ⟨fun c _ _ => ?_, ?_, ?_, ?_, ?_⟩ <;> omega
  · have := hb 1 (by omega)
    have := hb 2 (by omega)
    have := hb 3 (by omega)
    rw [e4]; refine ⟨fun c _ _ => ?_, ?_, ?_, ?_, ?_⟩ <;> omega
  · have := hb 1 (by omega)
    have := hb 2 (by omega)
    have := hb 3 (by omega)
    have := hb 4 (by omega)
    rw [e5]; refine ⟨fun c _ _ => ?_, ?_, ?_, ?_, ?_⟩ <;> omega
  · have := hb 5 (by omega)
    refine ⟨fun c _ _ => ?_, ?_, ?_, ?_, ?_⟩ <;> omega
  · have := hb 6 (by omega)
    refine ⟨fun c _ _ => ?_, ?_, ?_, ?_, ?_⟩ <;> omega
  · have := hb 7 (by omega)
    refine ⟨fun c _ _ => ?_, ?_, ?_, ?_, ?_⟩ <;> omega
theorem pkL_eq {T : Nat → Nat} {p n : Nat} (h8 : n ≤ 8) (hl : ∀ i, i < n → isLet (T (p + i)) = true) {w : Int64} {c : Nat} (hw : w.toBitVec.toNat = c) : pkL T p n = w ↔ pkN T p n = c := by
  have hb : ∀ i, i < n → T (p + i) < 256 := fun i hi => by
    have := hl i hi
    unfold isLet at this
    simp only [Bool.and_eq_true, decide_eq_true_eq] at this
    omega
  have h := pk_ok n h8 hb
  constructor
  · intro e; rw [← h, e, hw]
  · intro e
    apply Int64.toBitVec_inj.mp
    apply BitVec.eq_of_toNat_eq
    rw [h, hw, e]
