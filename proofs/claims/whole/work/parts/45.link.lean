/-! The class: NODES are linked. -/
def RowS (σ : HS) (b i : Nat) (r : REC) : Prop := sI σ (b + 1) i = nI (rK r) ∧ sI σ (b + 2) i = nI (rB r) ∧ sI σ (b + 3) i = rT r ∧ sI σ (b + 5) i = rO0 r ∧ sI σ (b + 6) i = rO1 r ∧ sI σ (b + 7) i = rS r ∧ sI σ (b + 9) i = rW0 r ∧ sI σ (b + 10) i = rW1 r
/-- what addOnTheWay may change -/
def OF (b n : Nat) (σ σ' : HS) : Prop := sL σ' = sL σ ∧ sR σ' = sR σ ∧ sN σ' = sN σ ∧ ∀ h i, ¬ ((h = b ∧ i = 14) ∨ (b + 1 ≤ h ∧ h ≤ b + 13 ∧ i = n)) → sI σ' h i = sI σ h i
theorem OF.rf {b n : Nat} {σ : HS} : OF b n σ σ := ⟨rfl, rfl, rfl, fun _ _ _ => rfl⟩
theorem OF.uI {b n : Nat} {σ σ' : HS} {h i : Nat} {v : Int32} (k : OF b n σ σ') (hh : (h = b ∧ i = 14) ∨ (b + 1 ≤ h ∧ h ≤ b + 13 ∧ i = n)) : OF b n σ (uI σ' h i v) := by
  refine ⟨k.1, k.2.1, k.2.2.1, fun a c q => ?_⟩
  rw [sI_uI, if_neg (by rintro ⟨rfl, rfl⟩; exact q hh)]
  exact k.2.2.2 a c q
def OW (b n t f : Nat) (σ σ' : HS) : Prop := OF b n σ σ' ∧ sI σ' b 14 = nI (n + 1) ∧ RowS σ' b n (7, t, -1, nI 0, nI 0, -1, nI t, -1, 0, 0) ∧ sI σ' (b + 12) n = nI f ∧ sI σ' (b + 13) n = -1
theorem z2_onWayV {g : GG} {σ : HS} {b : Nat} (hb : RB σ b) {n t f : Nat} (hn : n < 240) (hN : sI σ b 14 = nI n) (ht : t < 40) (hf : sI σ (b + 15) t = nI f) : CT g mX2_addOnTheWay 2 0 0 [.ref b, .int (nI t)] σ (WQ (.int (nI n)) (fun σ' => OW b n t f σ σ')) := by
  refine CT.mono ?_ (z2_onWay hb hn hN ht hf)
  rintro r σ' ⟨rfl, rfl⟩
  refine ⟨rfl, ((((((((((((OF.rf.uI (by omega)).uI (by omega)).uI (by omega)).uI (by omega)).uI (by omega)).uI (by omega)).uI (by omega)).uI (by omega)).uI (by omega)).uI (by omega)).uI (by omega)).uI (by omega)).uI (by omega), ?_, ⟨?_, ?_, ?_, ?_, ?_, ?_, ?_, ?_⟩, ?_, ?_⟩
  all_goals simp only [sI_uI, Nat.add_right_cancel_iff, Nat.add_left_cancel_iff, and_true, and_self, true_and, if_true, Nat.reduceEqDiff, if_false, false_and, and_false, Nat.add_eq_left, Nat.left_eq_add, Nat.reduceEqDiff]
  all_goals rfl
