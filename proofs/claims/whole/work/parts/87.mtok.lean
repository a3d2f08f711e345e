/-! The model's next; letters as a number. -/
def pkN (T : Nat → Nat) (p : Nat) : Nat → Nat
  | 0 => 0
  | n + 1 => pkN T p n * 256 + T (p + n)
theorem pkN_lt {T : Nat → Nat} {p : Nat} : ∀ n, (∀ i, i < n → T (p + i) < 256) → pkN T p n < 256 ^ n
  | 0, _ => by show 0 < 1; omega
  | n + 1, h => by
    have h1 := pkN_lt n fun i hi => h i (by omega)
    have h2 := h n (by omega)
    show pkN T p n * 256 + T (p + n) < 256 ^ n * 256
    omega
theorem pk_ok {T : Nat → Nat} {p : Nat} : ∀ n, n ≤ 8 → (∀ i, i < n → T (p + i) < 256) → (pkL T p n).toBitVec.toNat = pkN T p n
  | 0, _, _ => rfl
  | n + 1, hn, h => by
    have ih := pk_ok n (by omega) fun i hi => h i (by omega)
    have h1 := pkN_lt n fun i hi => h i (by omega)
    have h2 := h n (by omega)
    have h3 : 256 ^ n ≤ 256 ^ 7 := Nat.pow_le_pow_right (by omega) (by omega)
    have e1 : ((nI 8).toInt64 &&& 63).toBitVec = 8#64 := by decide
    have e2 : (nI (T (p + n))).toInt64.toBitVec.toNat = T (p + n) := by
      have : ∀ c : Fin 256, (nI c.val).toInt64.toBitVec.toNat = c.val := by decide +kernel
      exact this ⟨_, h2⟩
    show ((pkL T p n <<< ((nI 8).toInt64 &&& 63)) ||| (nI (T (p + n))).toInt64).toBitVec.toNat = _
    rw [Int64.toBitVec_or, BitVec.toNat_or, e2, Int64.toBitVec_shiftLeft, e1]
    have e3 : (8#64).smod 64 = 8#64 := by decide
    rw [e3, BitVec.shiftLeft_eq', BitVec.toNat_shiftLeft, ih]
    have e4 : (8#64).toNat = 8 := by decide
    rw [e4]
    have h4 : pkN T p n < 72057594037927936 := Nat.lt_of_lt_of_le h1 h3
    have e5 : pkN T p n <<< 8 % 2 ^ 64 = pkN T p n <<< 8 := by
      apply Nat.mod_eq_of_lt
      rw [Nat.shiftLeft_eq]
      omega
    rw [e5, ← Nat.shiftLeft_add_eq_or_of_lt (by omega : T (p + n) < 2 ^ 8), Nat.shiftLeft_eq]
    rfl
section MTO
variable {g : GG} {σ : HS} {L : Nat} {T : Nat → Nat}
theorem z9_next (hS : SK σ) (hT : MTX σ L T) {e0 : Nat} (he : e0 ≤ L) (h4 : sI σ 58 4 = nI e0) : CT g mX9_next 2 0 0 [.ref 58] σ (fun r σ' => r = none ∧ NxQ σ T L (run isBl T L e0) σ') := by
  have hL := hT.2.1
  have hg := run_ge isBl T L e0
  have hb := run_le isBl T he
  refine CT.of (by decide) (Nat.le_of_ble_eq_true rfl) ?_
  refine q_aload_n dX9_next_0 rfl rfl rfl ?_
  refine q_aload_n dX9_next_1 rfl rfl rfl ?_
  refine q_geti (x := nI e0) dX9_next_2 fX9_23 rfl (ty_c hS (by decide) rfl) h4 ?_
  refine q_puti dX9_next_5 fX9_20 rfl (Or.inl rfl) (ty_c hS (by decide) rfl) ?_
  exact y9_blank hS hT he (fun τ a a3 => y9_next60 hS hT hb a a3) (run isBl T L e0 - e0) e0 _ (by omega) (Nat.le_refl _) (LX9.rf.uI (by omega)) uI_self
end MTO
