/-! What constructors make. -/
def lkp (l : List (Nat × Nat × Nat)) (o k : Nat) : Option Nat := (l.find? (fun x => x.1 == o && x.2.1 == k)).map (fun x => x.2.2)
def selR (n d : Nat) : Option Nat → Nat
  | some r => n + r
  | none => d
/-- behind m makings: what stood stands, what is new is 0 but for the references in l, by places from handle sN σ on -/
def NW (σ : HS) (m : Nat) (l : List (Nat × Nat × Nat)) (τ : HS) : Prop :=
  sN τ = sN σ + m ∧ (∀ h i, sI τ h i = if sN σ < h ∧ h ≤ sN σ + m then 0 else sI σ h i) ∧ (∀ h i, sL τ h i = if sN σ < h ∧ h ≤ sN σ + m then 0 else sL σ h i) ∧
  (∀ h k, sR τ h k = selR (sN σ) (if sN σ < h ∧ h ≤ sN σ + m then 0 else sR σ h k) (if sN σ ≤ h then lkp l (h - sN σ) k else none))
theorem lkp_gt {l : List (Nat × Nat × Nat)} {m o k : Nat} (h : (l.all fun x => decide (x.1 ≤ m)) = true) (ho : m < o) : lkp l o k = none := by
  unfold lkp
  rw [List.find?_eq_none.mpr fun x hx => ?_]
  · rfl
  · have := of_decide_eq_true (List.all_eq_true.mp h x hx)
    simp only [Bool.and_eq_true, beq_iff_eq, not_and]
    omega
theorem NW.rf {σ : HS} : NW σ 0 [] σ := ⟨rfl, fun h i => by rw [if_neg (by omega)], fun h i => by rw [if_neg (by omega)], fun h k => by
  rw [show (if sN σ ≤ h then lkp [] (h - sN σ) k else none) = none by split <;> rfl]
  show sR σ h k = if sN σ < h ∧ h ≤ sN σ + 0 then 0 else sR σ h k
  rw [if_neg (by omega)]⟩
theorem NW.nH {σ τ : HS} {m : Nat} {l : List (Nat × Nat × Nat)} (w : NW σ m l τ) (hl : (l.all fun x => decide (x.1 ≤ m)) = true) : NW σ (m + 1) l (nH τ) := by
  obtain ⟨a, b, c, d⟩ := w
  refine ⟨by show sN τ + 1 = _; omega, fun h i => ?_, fun h i => ?_, fun h k => ?_⟩
  · show (if h = sN τ + 1 then 0 else sI τ h i) = _
    by_cases e : h = sN τ + 1
    · rw [if_pos e, if_pos (by omega)]
    · rw [if_neg e, b]
      by_cases e2 : sN σ < h ∧ h ≤ sN σ + m
      · rw [if_pos e2, if_pos (by omega)]
      · rw [if_neg e2, if_neg (by omega)]
  · show (if h = sN τ + 1 then 0 else sL τ h i) = _
    by_cases e : h = sN τ + 1
    · rw [if_pos e, if_pos (by omega)]
    · rw [if_neg e, c]
      by_cases e2 : sN σ < h ∧ h ≤ sN σ + m
      · rw [if_pos e2, if_pos (by omega)]
      · rw [if_neg e2, if_neg (by omega)]
  · show (if h = sN τ + 1 then 0 else sR τ h k) = _
    by_cases e : h = sN τ + 1
    · rw [if_pos e, if_pos (by omega), lkp_gt hl (by omega)]
      split <;> rfl
    · rw [if_neg e, d]
      cases (if sN σ ≤ h then lkp l (h - sN σ) k else none) with
      | some r => rfl
      | none =>
        show (if sN σ < h ∧ h ≤ sN σ + m then 0 else sR σ h k) = if sN σ < h ∧ h ≤ sN σ + (m + 1) then 0 else sR σ h k
        by_cases e2 : sN σ < h ∧ h ≤ sN σ + m
        · rw [if_pos e2, if_pos (by omega)]
        · rw [if_neg e2, if_neg (by omega)]
theorem NW.uR {σ τ : HS} {m : Nat} {l : List (Nat × Nat × Nat)} (w : NW σ m l τ) {h k r o r2 : Nat} (h1 : h = sN σ + o) (h2 : o ≤ m) (h3 : r = sN σ + r2) : NW σ m ((o, k, r2) :: l) (uR τ h k r) := by
  obtain ⟨a, b, c, d⟩ := w
  refine ⟨a, b, c, fun x i => ?_⟩
  show (if x = h ∧ i = k then r else sR τ x i) = _
  have hl : lkp ((o, k, r2) :: l) (x - sN σ) i = if o = x - sN σ ∧ k = i then some r2 else lkp l (x - sN σ) i := by
    unfold lkp
    rw [List.find?_cons]
    by_cases e : o = x - sN σ ∧ k = i
    · rw [if_pos e, show (((o, k, r2).1 == x - sN σ) && ((o, k, r2).2.1 == i)) = true by simp [e.1, e.2]]; rfl
    · rw [if_neg e, show (((o, k, r2).1 == x - sN σ) && ((o, k, r2).2.1 == i)) = false by
        simp only [Bool.and_eq_false_iff, beq_eq_false_iff_ne]
        by_cases e1 : o = x - sN σ
        · exact Or.inr fun z => e ⟨e1, z⟩
        · exact Or.inl e1]
  by_cases e : x = h ∧ i = k
  · rw [if_pos e, if_pos (show sN σ ≤ x by omega), hl, if_pos (show o = x - sN σ ∧ k = i by omega)]
    exact h3
  · rw [if_neg e, d]
    by_cases e2 : sN σ ≤ x
    · rw [if_pos e2, if_pos e2, hl, if_neg (show ¬ (o = x - sN σ ∧ k = i) from fun z => e ⟨by omega, z.2.symm⟩)]
    · rw [if_neg e2, if_neg e2]
theorem NW.uI0 {σ τ : HS} {m : Nat} {l : List (Nat × Nat × Nat)} (w : NW σ m l τ) {h i : Nat} (hz : ∀ i, sI σ h i = 0) : NW σ m l (uI τ h i (nI 0)) := by
  obtain ⟨a, b, c, d⟩ := w
  refine ⟨a, fun x j => ?_, c, d⟩
  rw [sI_uI]
  by_cases e : x = h ∧ j = i
  · rw [if_pos e, e.1, hz]; split <;> rfl
  · rw [if_neg e, b]
theorem NW.uL0 {σ τ : HS} {m : Nat} {l : List (Nat × Nat × Nat)} (w : NW σ m l τ) {h i : Nat} (hz : ∀ i, sL σ h i = 0) : NW σ m l (uL τ h i 0) := by
  obtain ⟨a, b, c, d⟩ := w
  refine ⟨a, b, fun x j => ?_, d⟩
  show (if x = h ∧ j = i then 0 else sL τ x j) = _
  by_cases e : x = h ∧ j = i
  · rw [if_pos e, e.1, hz]; split <;> rfl
  · rw [if_neg e, c]
theorem NW.tr {σ τ υ : HS} {m m2 : Nat} {l l2 : List (Nat × Nat × Nat)} (w : NW σ m l τ) (w2 : NW τ m2 l2 υ) (hl : (l.all fun x => decide (x.1 ≤ m)) = true) : NW σ (m + m2) (l2.map (fun x => (x.1 + m, x.2.1, x.2.2 + m)) ++ l) υ := by
  obtain ⟨a, b, c, d⟩ := w
  obtain ⟨a2, b2, c2, d2⟩ := w2
  have hm : ∀ o k, lkp (l2.map (fun x => (x.1 + m, x.2.1, x.2.2 + m)) ++ l) o k = match (if m ≤ o then lkp l2 (o - m) k else none) with | some r => some (r + m) | none => lkp l o k := by
    intro o k
    unfold lkp
    rw [List.find?_append, List.find?_map]
    by_cases e : m ≤ o
    · rw [if_pos e]
      have : ((fun x : Nat × Nat × Nat => x.1 == o && x.2.1 == k) ∘ fun x : Nat × Nat × Nat => (x.1 + m, x.2.1, x.2.2 + m)) = fun x : Nat × Nat × Nat => x.1 == o - m && x.2.1 == k := by
        funext x
        show ((x.1 + m == o) && (x.2.1 == k)) = _
        rw [show (x.1 + m == o) = (x.1 == o - m) by rw [Bool.eq_iff_iff, beq_iff_eq, beq_iff_eq]; omega]
      rw [this]
      cases l2.find? (fun x => x.1 == o - m && x.2.1 == k) <;> rfl
    · rw [if_neg e]
      have : l2.find? ((fun x : Nat × Nat × Nat => x.1 == o && x.2.1 == k) ∘ fun x : Nat × Nat × Nat => (x.1 + m, x.2.1, x.2.2 + m)) = none := List.find?_eq_none.mpr fun x _ => by
        show ¬ ((x.1 + m == o) && (x.2.1 == k)) = true
        simp only [Bool.and_eq_true, beq_iff_eq, not_and]; omega
      rw [this]; rfl
  have two : ∀ (h k : Nat), (if sN τ < h ∧ h ≤ sN τ + m2 then 0 else if sN σ < h ∧ h ≤ sN σ + m then 0 else k) = if sN σ < h ∧ h ≤ sN σ + (m + m2) then 0 else k := fun h k => by
    by_cases e : sN τ < h ∧ h ≤ sN τ + m2
    · rw [if_pos e, if_pos (by omega)]
    · rw [if_neg e]
      by_cases e2 : sN σ < h ∧ h ≤ sN σ + m
      · rw [if_pos e2, if_pos (by omega)]
      · rw [if_neg e2, if_neg (by omega)]
  refine ⟨by omega, fun h i => ?_, fun h i => ?_, fun h k => ?_⟩
  · rw [b2, b]
    by_cases e : sN τ < h ∧ h ≤ sN τ + m2
    · rw [if_pos e, if_pos (by omega)]
    · rw [if_neg e]
      by_cases e2 : sN σ < h ∧ h ≤ sN σ + m
      · rw [if_pos e2, if_pos (by omega)]
      · rw [if_neg e2, if_neg (by omega)]
  · rw [c2, c]
    by_cases e : sN τ < h ∧ h ≤ sN τ + m2
    · rw [if_pos e, if_pos (by omega)]
    · rw [if_neg e]
      by_cases e2 : sN σ < h ∧ h ≤ sN σ + m
      · rw [if_pos e2, if_pos (by omega)]
      · rw [if_neg e2, if_neg (by omega)]
  · rw [d2, d, hm]
    by_cases e : sN τ ≤ h
    · rw [if_pos e, if_pos (show sN σ ≤ h by omega), if_pos (show sN σ ≤ h by omega), if_pos (show m ≤ h - sN σ by omega), show h - sN σ - m = h - sN τ by omega]
      cases lkp l2 (h - sN τ) k with
      | some r => show sN τ + r = sN σ + (r + m); omega
      | none =>
        show (if sN τ < h ∧ h ≤ sN τ + m2 then 0 else selR (sN σ) (if sN σ < h ∧ h ≤ sN σ + m then 0 else sR σ h k) (lkp l (h - sN σ) k)) = selR (sN σ) (if sN σ < h ∧ h ≤ sN σ + (m + m2) then 0 else sR σ h k) (lkp l (h - sN σ) k)
        by_cases e3 : sN τ < h ∧ h ≤ sN τ + m2
        · rw [if_pos e3, lkp_gt hl (by omega)]
          show 0 = if sN σ < h ∧ h ≤ sN σ + (m + m2) then 0 else sR σ h k
          rw [if_pos (by omega)]
        · rw [if_neg e3]
          cases lkp l (h - sN σ) k with
          | some r => rfl
          | none =>
            have := two h (sR σ h k)
            rw [if_neg e3] at this
            exact this
    · rw [if_neg e]
      have hi : (if sN σ ≤ h then (match (if m ≤ h - sN σ then lkp l2 (h - sN σ - m) k else none) with | some r => some (r + m) | none => lkp l (h - sN σ) k) else none) = if sN σ ≤ h then lkp l (h - sN σ) k else none := by
        by_cases e4 : sN σ ≤ h
        · rw [if_pos e4, if_pos e4, if_neg (show ¬ m ≤ h - sN σ by omega)]
        · rw [if_neg e4, if_neg e4]
      rw [hi]
      show (if sN τ < h ∧ h ≤ sN τ + m2 then 0 else selR (sN σ) (if sN σ < h ∧ h ≤ sN σ + m then 0 else sR σ h k) (if sN σ ≤ h then lkp l (h - sN σ) k else none)) = selR (sN σ) (if sN σ < h ∧ h ≤ sN σ + (m + m2) then 0 else sR σ h k) (if sN σ ≤ h then lkp l (h - sN σ) k else none)
      rw [if_neg (show ¬ (sN τ < h ∧ h ≤ sN τ + m2) by omega)]
      cases (if sN σ ≤ h then lkp l (h - sN σ) k else none) with
      | some r => rfl
      | none =>
        have := two h (sR σ h k)
        rw [if_neg (show ¬ (sN τ < h ∧ h ≤ sN τ + m2) by omega)] at this
        exact this
section QN
variable {g : GG} {M : MI} {d mc ms : Nat} {Z : List Frame → Array Value → State → State → Prop} {cl sl pc : Nat} {ls ls' : List (Nat × Value)} {st : List Value} {σ : HS}
theorem q_newN {idx ci h n : Nat} (hd : decode M.2.1 pc = .ok (.new idx, 3)) (hci : ci < 10) (hcn : clN ci = n) (h1 : Cond.classLink M.1.cls idx (clC ci) ∈ GW) (h2 : Cond.instantiable (clC ci) (clN ci) ∈ GW) (h3 : Cond.initialized (clC ci) ∈ GW) (hh : h = sN σ + 1) (ht : TY h = .inl ci) (hcl : cl + 1 ≤ mc) (hsl : sl + n ≤ ms) (k : WA g M d mc ms Z (cl + 1) (sl + n) (pc + 3) ls (.ref h :: st) (nH σ)) : WA g M d mc ms Z cl sl pc ls st σ := by
  subst hcn
  exact q_new hd hci h1 h2 h3 hh ht hcl hsl k
end QN
theorem zi_Sums {g : GG} {σ : HS} {b : Nat} (hb : b = 14 ∨ ∃ j, b = 99 + 32 * j) (hn : sN σ = b + 17) : CT g mX4_init 1 3 96 [.ref (b + 17)] σ (fun r τ => r = none ∧ NW σ 3 [(0, 2, 3), (0, 1, 2), (0, 0, 1)] τ) := by
  have hb14 : b = 14 ∨ 99 ≤ b := by rcases hb with h | ⟨j, h⟩ <;> omega
  refine CT.of (by decide) (Nat.le_of_ble_eq_true rfl) ?_
  have w0 : NW σ 0 [] σ := NW.rf
  refine q_aload_n dX4_init_0 rfl rfl rfl ?_
  refine q_objInit dX4_init_1 vX4_3 oi_in oi_co (by omega) (by omega) ?_
  refine q_aload_n dX4_init_4 rfl rfl rfl ?_
  refine q_bipush (v := nI 32) dX4_init_5 rfl ?_
  refine q_newa (t := 0) (n := 32) (h := b + 18) dX4_init_7 (Or.inl ⟨rfl, rfl⟩) ac_int rfl (by decide) (by have := w0.1; omega) (TY_r hb (o := 18) rfl) (by omega) (by omega) ?_
  have w1 := w0.nH (by decide)
  generalize nH σ = s1 at w1 ⊢
  refine q_putr dX4_init_9 fX4_9 rfl rfl (Or.inr ⟨rfl, rfl, rfl⟩) ⟨by omega, by have := w1.1; omega, (TY_r hb (o := 17) rfl)⟩ ?_
  have w2 := w1.uR (h := b + 17) (k := 0) (r := b + 18) (o := 0) (r2 := 1) (by omega) (by omega) (by omega)
  generalize uR s1 (b + 17) 0 (b + 18) = s2 at w2 ⊢
  refine q_aload_n dX4_init_12 rfl rfl rfl ?_
  refine q_bipush (v := nI 32) dX4_init_13 rfl ?_
  refine q_newa (t := 0) (n := 32) (h := b + 19) dX4_init_15 (Or.inl ⟨rfl, rfl⟩) ac_int rfl (by decide) (by have := w2.1; omega) (TY_r hb (o := 19) rfl) (by omega) (by omega) ?_
  have w3 := w2.nH (by decide)
  generalize nH s2 = s3 at w3 ⊢
  refine q_putr dX4_init_17 fX4_15 rfl rfl (Or.inr ⟨rfl, rfl, rfl⟩) ⟨by omega, by have := w3.1; omega, (TY_r hb (o := 17) rfl)⟩ ?_
  have w4 := w3.uR (h := b + 17) (k := 1) (r := b + 19) (o := 0) (r2 := 2) (by omega) (by omega) (by omega)
  generalize uR s3 (b + 17) 1 (b + 19) = s4 at w4 ⊢
  refine q_aload_n dX4_init_20 rfl rfl rfl ?_
  refine q_bipush (v := nI 32) dX4_init_21 rfl ?_
  refine q_newa (t := 0) (n := 32) (h := b + 20) dX4_init_23 (Or.inl ⟨rfl, rfl⟩) ac_int rfl (by decide) (by have := w4.1; omega) (TY_r hb (o := 20) rfl) (by omega) (by omega) ?_
  have w5 := w4.nH (by decide)
  generalize nH s4 = s5 at w5 ⊢
  refine q_putr dX4_init_25 fX4_18 rfl rfl (Or.inr ⟨rfl, rfl, rfl⟩) ⟨by omega, by have := w5.1; omega, (TY_r hb (o := 17) rfl)⟩ ?_
  have w6 := w5.uR (h := b + 17) (k := 2) (r := b + 20) (o := 0) (r2 := 3) (by omega) (by omega) (by omega)
  generalize uR s5 (b + 17) 2 (b + 20) = s6 at w6 ⊢
  refine q_return dX4_init_28 rfl (by omega) (by omega) ?_
  exact ⟨rfl, w6⟩
theorem zi_Facts {g : GG} {σ : HS} {b : Nat} (hb : b = 14 ∨ ∃ j, b = 99 + 32 * j) (hn : sN σ = b + 21) : CT g mX0_init 1 10 2400 [.ref (b + 21)] σ (fun r τ => r = none ∧ NW σ 10 [(0, 9, 10), (0, 8, 9), (0, 7, 8), (0, 6, 7), (0, 5, 6), (0, 4, 5), (0, 3, 4), (0, 2, 3), (0, 1, 2), (0, 0, 1)] τ) := by
  have hb14 : b = 14 ∨ 99 ≤ b := by rcases hb with h | ⟨j, h⟩ <;> omega
  refine CT.of (by decide) (Nat.le_of_ble_eq_true rfl) ?_
  have w0 : NW σ 0 [] σ := NW.rf
  refine q_aload_n dX0_init_0 rfl rfl rfl ?_
  refine q_objInit dX0_init_1 vX0_3 oi_in oi_co (by omega) (by omega) ?_
  refine q_aload_n dX0_init_4 rfl rfl rfl ?_
  refine q_sipush (v := nI 240) dX0_init_5 rfl ?_
  refine q_newa (t := 0) (n := 240) (h := b + 22) dX0_init_8 (Or.inl ⟨rfl, rfl⟩) ac_int rfl (by decide) (by have := w0.1; omega) (TY_r hb (o := 22) rfl) (by omega) (by omega) ?_
  have w1 := w0.nH (by decide)
  generalize nH σ = s1 at w1 ⊢
  refine q_putr dX0_init_10 fX0_9 rfl rfl (Or.inr ⟨rfl, rfl, rfl⟩) ⟨by omega, by have := w1.1; omega, (TY_r hb (o := 21) rfl)⟩ ?_
  have w2 := w1.uR (h := b + 21) (k := 0) (r := b + 22) (o := 0) (r2 := 1) (by omega) (by omega) (by omega)
  generalize uR s1 (b + 21) 0 (b + 22) = s2 at w2 ⊢
  refine q_aload_n dX0_init_13 rfl rfl rfl ?_
  refine q_sipush (v := nI 240) dX0_init_14 rfl ?_
  refine q_newa (t := 0) (n := 240) (h := b + 23) dX0_init_17 (Or.inl ⟨rfl, rfl⟩) ac_int rfl (by decide) (by have := w2.1; omega) (TY_r hb (o := 23) rfl) (by omega) (by omega) ?_
  have w3 := w2.nH (by decide)
  generalize nH s2 = s3 at w3 ⊢
  refine q_putr dX0_init_19 fX0_15 rfl rfl (Or.inr ⟨rfl, rfl, rfl⟩) ⟨by omega, by have := w3.1; omega, (TY_r hb (o := 21) rfl)⟩ ?_
  have w4 := w3.uR (h := b + 21) (k := 1) (r := b + 23) (o := 0) (r2 := 2) (by omega) (by omega) (by omega)
  generalize uR s3 (b + 21) 1 (b + 23) = s4 at w4 ⊢
  refine q_aload_n dX0_init_22 rfl rfl rfl ?_
  refine q_sipush (v := nI 240) dX0_init_23 rfl ?_
  refine q_newa (t := 0) (n := 240) (h := b + 24) dX0_init_26 (Or.inl ⟨rfl, rfl⟩) ac_int rfl (by decide) (by have := w4.1; omega) (TY_r hb (o := 24) rfl) (by omega) (by omega) ?_
  have w5 := w4.nH (by decide)
  generalize nH s4 = s5 at w5 ⊢
  refine q_putr dX0_init_28 fX0_18 rfl rfl (Or.inr ⟨rfl, rfl, rfl⟩) ⟨by omega, by have := w5.1; omega, (TY_r hb (o := 21) rfl)⟩ ?_
  have w6 := w5.uR (h := b + 21) (k := 2) (r := b + 24) (o := 0) (r2 := 3) (by omega) (by omega) (by omega)
  generalize uR s5 (b + 21) 2 (b + 24) = s6 at w6 ⊢
  refine q_aload_n dX0_init_31 rfl rfl rfl ?_
  refine q_sipush (v := nI 240) dX0_init_32 rfl ?_
  refine q_newa (t := 0) (n := 240) (h := b + 25) dX0_init_35 (Or.inl ⟨rfl, rfl⟩) ac_int rfl (by decide) (by have := w6.1; omega) (TY_r hb (o := 25) rfl) (by omega) (by omega) ?_
  have w7 := w6.nH (by decide)
  generalize nH s6 = s7 at w7 ⊢
  refine q_putr dX0_init_37 fX0_21 rfl rfl (Or.inr ⟨rfl, rfl, rfl⟩) ⟨by omega, by have := w7.1; omega, (TY_r hb (o := 21) rfl)⟩ ?_
  have w8 := w7.uR (h := b + 21) (k := 3) (r := b + 25) (o := 0) (r2 := 4) (by omega) (by omega) (by omega)
  generalize uR s7 (b + 21) 3 (b + 25) = s8 at w8 ⊢
  refine q_aload_n dX0_init_40 rfl rfl rfl ?_
  refine q_sipush (v := nI 240) dX0_init_41 rfl ?_
  refine q_newa (t := 0) (n := 240) (h := b + 26) dX0_init_44 (Or.inl ⟨rfl, rfl⟩) ac_int rfl (by decide) (by have := w8.1; omega) (TY_r hb (o := 26) rfl) (by omega) (by omega) ?_
  have w9 := w8.nH (by decide)
  generalize nH s8 = s9 at w9 ⊢
  refine q_putr dX0_init_46 fX0_24 rfl rfl (Or.inr ⟨rfl, rfl, rfl⟩) ⟨by omega, by have := w9.1; omega, (TY_r hb (o := 21) rfl)⟩ ?_
  have w10 := w9.uR (h := b + 21) (k := 4) (r := b + 26) (o := 0) (r2 := 5) (by omega) (by omega) (by omega)
  generalize uR s9 (b + 21) 4 (b + 26) = s10 at w10 ⊢
  refine q_aload_n dX0_init_49 rfl rfl rfl ?_
  refine q_sipush (v := nI 240) dX0_init_50 rfl ?_
  refine q_newa (t := 0) (n := 240) (h := b + 27) dX0_init_53 (Or.inl ⟨rfl, rfl⟩) ac_int rfl (by decide) (by have := w10.1; omega) (TY_r hb (o := 27) rfl) (by omega) (by omega) ?_
  have w11 := w10.nH (by decide)
  generalize nH s10 = s11 at w11 ⊢
  refine q_putr dX0_init_55 fX0_27 rfl rfl (Or.inr ⟨rfl, rfl, rfl⟩) ⟨by omega, by have := w11.1; omega, (TY_r hb (o := 21) rfl)⟩ ?_
  have w12 := w11.uR (h := b + 21) (k := 5) (r := b + 27) (o := 0) (r2 := 6) (by omega) (by omega) (by omega)
  generalize uR s11 (b + 21) 5 (b + 27) = s12 at w12 ⊢
  refine q_aload_n dX0_init_58 rfl rfl rfl ?_
  refine q_sipush (v := nI 240) dX0_init_59 rfl ?_
  refine q_newa (t := 0) (n := 240) (h := b + 28) dX0_init_62 (Or.inl ⟨rfl, rfl⟩) ac_int rfl (by decide) (by have := w12.1; omega) (TY_r hb (o := 28) rfl) (by omega) (by omega) ?_
  have w13 := w12.nH (by decide)
  generalize nH s12 = s13 at w13 ⊢
  refine q_putr dX0_init_64 fX0_30 rfl rfl (Or.inr ⟨rfl, rfl, rfl⟩) ⟨by omega, by have := w13.1; omega, (TY_r hb (o := 21) rfl)⟩ ?_
  have w14 := w13.uR (h := b + 21) (k := 6) (r := b + 28) (o := 0) (r2 := 7) (by omega) (by omega) (by omega)
  generalize uR s13 (b + 21) 6 (b + 28) = s14 at w14 ⊢
  refine q_aload_n dX0_init_67 rfl rfl rfl ?_
  refine q_sipush (v := nI 240) dX0_init_68 rfl ?_
  refine q_newa (t := 0) (n := 240) (h := b + 29) dX0_init_71 (Or.inl ⟨rfl, rfl⟩) ac_int rfl (by decide) (by have := w14.1; omega) (TY_r hb (o := 29) rfl) (by omega) (by omega) ?_
  have w15 := w14.nH (by decide)
  generalize nH s14 = s15 at w15 ⊢
  refine q_putr dX0_init_73 fX0_33 rfl rfl (Or.inr ⟨rfl, rfl, rfl⟩) ⟨by omega, by have := w15.1; omega, (TY_r hb (o := 21) rfl)⟩ ?_
  have w16 := w15.uR (h := b + 21) (k := 7) (r := b + 29) (o := 0) (r2 := 8) (by omega) (by omega) (by omega)
  generalize uR s15 (b + 21) 7 (b + 29) = s16 at w16 ⊢
  refine q_aload_n dX0_init_76 rfl rfl rfl ?_
  refine q_sipush (v := nI 240) dX0_init_77 rfl ?_
  refine q_newa (t := 0) (n := 240) (h := b + 30) dX0_init_80 (Or.inl ⟨rfl, rfl⟩) ac_int rfl (by decide) (by have := w16.1; omega) (TY_r hb (o := 30) rfl) (by omega) (by omega) ?_
  have w17 := w16.nH (by decide)
  generalize nH s16 = s17 at w17 ⊢
  refine q_putr dX0_init_82 fX0_36 rfl rfl (Or.inr ⟨rfl, rfl, rfl⟩) ⟨by omega, by have := w17.1; omega, (TY_r hb (o := 21) rfl)⟩ ?_
  have w18 := w17.uR (h := b + 21) (k := 8) (r := b + 30) (o := 0) (r2 := 9) (by omega) (by omega) (by omega)
  generalize uR s17 (b + 21) 8 (b + 30) = s18 at w18 ⊢
  refine q_aload_n dX0_init_85 rfl rfl rfl ?_
  refine q_sipush (v := nI 240) dX0_init_86 rfl ?_
  refine q_newa (t := 0) (n := 240) (h := b + 31) dX0_init_89 (Or.inl ⟨rfl, rfl⟩) ac_int rfl (by decide) (by have := w18.1; omega) (TY_r hb (o := 31) rfl) (by omega) (by omega) ?_
  have w19 := w18.nH (by decide)
  generalize nH s18 = s19 at w19 ⊢
  refine q_putr dX0_init_91 fX0_39 rfl rfl (Or.inr ⟨rfl, rfl, rfl⟩) ⟨by omega, by have := w19.1; omega, (TY_r hb (o := 21) rfl)⟩ ?_
  have w20 := w19.uR (h := b + 21) (k := 9) (r := b + 31) (o := 0) (r2 := 10) (by omega) (by omega) (by omega)
  generalize uR s19 (b + 21) 9 (b + 31) = s20 at w20 ⊢
  refine q_return dX0_init_94 rfl (by omega) (by omega) ?_
  exact ⟨rfl, w20⟩
theorem zi_Routine {g : GG} {σ : HS} {b : Nat} (hb : b = 14 ∨ ∃ j, b = 99 + 32 * j) (hn : sN σ = b) : CT g mX2_init 2 31 5259 [.ref b] σ (fun r τ => r = none ∧ NW σ 31 [(0, 11, 21), (21, 9, 31), (21, 8, 30), (21, 7, 29), (21, 6, 28), (21, 5, 27), (21, 4, 26), (21, 3, 25), (21, 2, 24), (21, 1, 23), (21, 0, 22), (0, 10, 17), (17, 2, 20), (17, 1, 19), (17, 0, 18), (0, 9, 16), (0, 8, 15), (0, 7, 14), (0, 6, 11), (11, 1, 13), (11, 0, 12), (0, 5, 8), (8, 1, 10), (8, 0, 9), (0, 4, 7), (0, 3, 4), (4, 1, 6), (4, 0, 5), (0, 2, 3), (0, 1, 2), (0, 0, 1)] τ) := by
  have hb14 : b = 14 ∨ 99 ≤ b := by rcases hb with h | ⟨j, h⟩ <;> omega
  refine CT.of (by decide) (Nat.le_of_ble_eq_true rfl) ?_
  have w0 : NW σ 0 [] σ := NW.rf
  refine q_aload_n dX2_init_0 rfl rfl rfl ?_
  refine q_objInit dX2_init_1 vX2_3 oi_in oi_co (by omega) (by omega) ?_
  refine q_aload_n dX2_init_4 rfl rfl rfl ?_
  refine q_sipush (v := nI 240) dX2_init_5 rfl ?_
  refine q_newa (t := 0) (n := 240) (h := b + 1) dX2_init_8 (Or.inl ⟨rfl, rfl⟩) ac_int rfl (by decide) (by have := w0.1; omega) (TY_r hb (o := 1) rfl) (by omega) (by omega) ?_
  have w1 := w0.nH (by decide)
  generalize nH σ = s1 at w1 ⊢
  refine q_putr dX2_init_10 fX2_9 rfl rfl (Or.inr ⟨rfl, rfl, rfl⟩) ⟨by omega, by have := w1.1; omega, (TY_r hb (o := 0) rfl)⟩ ?_
  have w2 := w1.uR (h := b) (k := 0) (r := b + 1) (o := 0) (r2 := 1) (by omega) (by omega) (by omega)
  generalize uR s1 b 0 (b + 1) = s2 at w2 ⊢
  refine q_aload_n dX2_init_13 rfl rfl rfl ?_
  refine q_sipush (v := nI 240) dX2_init_14 rfl ?_
  refine q_newa (t := 0) (n := 240) (h := b + 2) dX2_init_17 (Or.inl ⟨rfl, rfl⟩) ac_int rfl (by decide) (by have := w2.1; omega) (TY_r hb (o := 2) rfl) (by omega) (by omega) ?_
  have w3 := w2.nH (by decide)
  generalize nH s2 = s3 at w3 ⊢
  refine q_putr dX2_init_19 fX2_15 rfl rfl (Or.inr ⟨rfl, rfl, rfl⟩) ⟨by omega, by have := w3.1; omega, (TY_r hb (o := 0) rfl)⟩ ?_
  have w4 := w3.uR (h := b) (k := 1) (r := b + 2) (o := 0) (r2 := 2) (by omega) (by omega) (by omega)
  generalize uR s3 b 1 (b + 2) = s4 at w4 ⊢
  refine q_aload_n dX2_init_22 rfl rfl rfl ?_
  refine q_sipush (v := nI 240) dX2_init_23 rfl ?_
  refine q_newa (t := 0) (n := 240) (h := b + 3) dX2_init_26 (Or.inl ⟨rfl, rfl⟩) ac_int rfl (by decide) (by have := w4.1; omega) (TY_r hb (o := 3) rfl) (by omega) (by omega) ?_
  have w5 := w4.nH (by decide)
  generalize nH s4 = s5 at w5 ⊢
  refine q_putr dX2_init_28 fX2_18 rfl rfl (Or.inr ⟨rfl, rfl, rfl⟩) ⟨by omega, by have := w5.1; omega, (TY_r hb (o := 0) rfl)⟩ ?_
  have w6 := w5.uR (h := b) (k := 2) (r := b + 3) (o := 0) (r2 := 3) (by omega) (by omega) (by omega)
  generalize uR s5 b 2 (b + 3) = s6 at w6 ⊢
  refine q_aload_n dX2_init_31 rfl rfl rfl ?_
  refine q_iconst (v := nI 2) dX2_init_32 rfl ?_
  refine q_sipush (v := nI 240) dX2_init_33 rfl ?_
  refine q_mna (n := 240) (h := b + 4) dX2_init_36 nX2_21 ac_int rfl (by decide) (by have := w6.1; omega) (TY_r hb (o := 4) rfl) (TY_r hb (o := 5) rfl) (TY_r hb (o := 6) rfl) (by omega) (by omega) ?_
  have v0 := ((w6.nH (by decide)).nH (by decide)).nH (by decide)
  have v1 := v0.uR (h := b + 4) (k := 0) (r := b + 5) (o := 4) (r2 := 5) (by omega) (by omega) (by omega)
  have v2 := v1.uR (h := b + 4) (k := 1) (r := b + 6) (o := 4) (r2 := 6) (by omega) (by omega) (by omega)
  generalize uR (uR (nH (nH (nH s6))) (b + 4) 0 (b + 4 + 1)) (b + 4) 1 (b + 4 + 2) = s7 at v2 ⊢
  clear v0 v1
  have w7 := v2; clear v2
  refine q_putr dX2_init_40 fX2_23 rfl rfl (Or.inr ⟨rfl, rfl, rfl⟩) ⟨by omega, by have := w7.1; omega, (TY_r hb (o := 0) rfl)⟩ ?_
  have w8 := w7.uR (h := b) (k := 3) (r := b + 4) (o := 0) (r2 := 4) (by omega) (by omega) (by omega)
  generalize uR s7 b 3 (b + 4) = s8 at w8 ⊢
  refine q_aload_n dX2_init_43 rfl rfl rfl ?_
  refine q_sipush (v := nI 240) dX2_init_44 rfl ?_
  refine q_newa (t := 0) (n := 240) (h := b + 7) dX2_init_47 (Or.inl ⟨rfl, rfl⟩) ac_int rfl (by decide) (by have := w8.1; omega) (TY_r hb (o := 7) rfl) (by omega) (by omega) ?_
  have w9 := w8.nH (by decide)
  generalize nH s8 = s9 at w9 ⊢
  refine q_putr dX2_init_49 fX2_26 rfl rfl (Or.inr ⟨rfl, rfl, rfl⟩) ⟨by omega, by have := w9.1; omega, (TY_r hb (o := 0) rfl)⟩ ?_
  have w10 := w9.uR (h := b) (k := 4) (r := b + 7) (o := 0) (r2 := 7) (by omega) (by omega) (by omega)
  generalize uR s9 b 4 (b + 7) = s10 at w10 ⊢
  refine q_aload_n dX2_init_52 rfl rfl rfl ?_
  refine q_iconst (v := nI 2) dX2_init_53 rfl ?_
  refine q_sipush (v := nI 240) dX2_init_54 rfl ?_
  refine q_mna (n := 240) (h := b + 8) dX2_init_57 nX2_21 ac_int rfl (by decide) (by have := w10.1; omega) (TY_r hb (o := 8) rfl) (TY_r hb (o := 9) rfl) (TY_r hb (o := 10) rfl) (by omega) (by omega) ?_
  have v0 := ((w10.nH (by decide)).nH (by decide)).nH (by decide)
  have v1 := v0.uR (h := b + 8) (k := 0) (r := b + 9) (o := 8) (r2 := 9) (by omega) (by omega) (by omega)
  have v2 := v1.uR (h := b + 8) (k := 1) (r := b + 10) (o := 8) (r2 := 10) (by omega) (by omega) (by omega)
  generalize uR (uR (nH (nH (nH s10))) (b + 8) 0 (b + 8 + 1)) (b + 8) 1 (b + 8 + 2) = s11 at v2 ⊢
  clear v0 v1
  have w11 := v2; clear v2
  refine q_putr dX2_init_61 fX2_29 rfl rfl (Or.inr ⟨rfl, rfl, rfl⟩) ⟨by omega, by have := w11.1; omega, (TY_r hb (o := 0) rfl)⟩ ?_
  have w12 := w11.uR (h := b) (k := 5) (r := b + 8) (o := 0) (r2 := 8) (by omega) (by omega) (by omega)
  generalize uR s11 b 5 (b + 8) = s12 at w12 ⊢
  refine q_aload_n dX2_init_64 rfl rfl rfl ?_
  refine q_iconst (v := nI 2) dX2_init_65 rfl ?_
  refine q_sipush (v := nI 240) dX2_init_66 rfl ?_
  refine q_mna (n := 240) (h := b + 11) dX2_init_69 nX2_21 ac_int rfl (by decide) (by have := w12.1; omega) (TY_r hb (o := 11) rfl) (TY_r hb (o := 12) rfl) (TY_r hb (o := 13) rfl) (by omega) (by omega) ?_
  have v0 := ((w12.nH (by decide)).nH (by decide)).nH (by decide)
  have v1 := v0.uR (h := b + 11) (k := 0) (r := b + 12) (o := 11) (r2 := 12) (by omega) (by omega) (by omega)
  have v2 := v1.uR (h := b + 11) (k := 1) (r := b + 13) (o := 11) (r2 := 13) (by omega) (by omega) (by omega)
  generalize uR (uR (nH (nH (nH s12))) (b + 11) 0 (b + 11 + 1)) (b + 11) 1 (b + 11 + 2) = s13 at v2 ⊢
  clear v0 v1
  have w13 := v2; clear v2
  refine q_putr dX2_init_73 fX2_32 rfl rfl (Or.inr ⟨rfl, rfl, rfl⟩) ⟨by omega, by have := w13.1; omega, (TY_r hb (o := 0) rfl)⟩ ?_
  have w14 := w13.uR (h := b) (k := 6) (r := b + 11) (o := 0) (r2 := 11) (by omega) (by omega) (by omega)
  generalize uR s13 b 6 (b + 11) = s14 at w14 ⊢
  refine q_aload_n dX2_init_76 rfl rfl rfl ?_
  refine q_sipush (v := nI 240) dX2_init_77 rfl ?_
  refine q_newa (t := 0) (n := 240) (h := b + 14) dX2_init_80 (Or.inl ⟨rfl, rfl⟩) ac_int rfl (by decide) (by have := w14.1; omega) (TY_r hb (o := 14) rfl) (by omega) (by omega) ?_
  have w15 := w14.nH (by decide)
  generalize nH s14 = s15 at w15 ⊢
  refine q_putr dX2_init_82 fX2_35 rfl rfl (Or.inr ⟨rfl, rfl, rfl⟩) ⟨by omega, by have := w15.1; omega, (TY_r hb (o := 0) rfl)⟩ ?_
  have w16 := w15.uR (h := b) (k := 7) (r := b + 14) (o := 0) (r2 := 14) (by omega) (by omega) (by omega)
  generalize uR s15 b 7 (b + 14) = s16 at w16 ⊢
  refine q_aload_n dX2_init_85 rfl rfl rfl ?_
  refine q_bipush (v := nI 41) dX2_init_86 rfl ?_
  refine q_newa (t := 0) (n := 41) (h := b + 15) dX2_init_88 (Or.inl ⟨rfl, rfl⟩) ac_int rfl (by decide) (by have := w16.1; omega) (TY_r hb (o := 15) rfl) (by omega) (by omega) ?_
  have w17 := w16.nH (by decide)
  generalize nH s16 = s17 at w17 ⊢
  refine q_putr dX2_init_90 fX2_38 rfl rfl (Or.inr ⟨rfl, rfl, rfl⟩) ⟨by omega, by have := w17.1; omega, (TY_r hb (o := 0) rfl)⟩ ?_
  have w18 := w17.uR (h := b) (k := 8) (r := b + 15) (o := 0) (r2 := 15) (by omega) (by omega) (by omega)
  generalize uR s17 b 8 (b + 15) = s18 at w18 ⊢
  refine q_aload_n dX2_init_93 rfl rfl rfl ?_
  refine q_bipush (v := nI 60) dX2_init_94 rfl ?_
  refine q_newa (t := 0) (n := 60) (h := b + 16) dX2_init_96 (Or.inl ⟨rfl, rfl⟩) ac_int rfl (by decide) (by have := w18.1; omega) (TY_r hb (o := 16) rfl) (by omega) (by omega) ?_
  have w19 := w18.nH (by decide)
  generalize nH s18 = s19 at w19 ⊢
  refine q_putr dX2_init_98 fX2_41 rfl rfl (Or.inr ⟨rfl, rfl, rfl⟩) ⟨by omega, by have := w19.1; omega, (TY_r hb (o := 0) rfl)⟩ ?_
  have w20 := w19.uR (h := b) (k := 9) (r := b + 16) (o := 0) (r2 := 16) (by omega) (by omega) (by omega)
  generalize uR s19 b 9 (b + 16) = s20 at w20 ⊢
  refine q_aload_n dX2_init_101 rfl rfl rfl ?_
  refine q_newN (ci := 4) (n := 5) (h := b + 17) dX2_init_102 (by decide) rfl nX2_44 is4 iz4 (by have := w20.1; omega) (TY_r hb (o := 17) rfl) (by omega) (by omega) ?_
  have w21 := w20.nH (by decide)
  generalize nH s20 = s21 at w21 ⊢
  refine q_dup dX2_init_105 rfl ?_
  refine q_callIN (As := []) (rest := [.ref (b + 17), .ref b]) dX2_init_106 vX2_46 (by omega) (zi_Sums (b := b) hb (by have := w21.1; omega)) rfl rfl (Nat.le_of_ble_eq_true rfl) (by omega) (by omega) (by omega) (k_v (fun s22 q22 => ?_))
  have w22 := w21.tr q22 (by decide)
  refine q_putr dX2_init_109 fX2_47 rfl rfl (Or.inr ⟨rfl, rfl, rfl⟩) ⟨by omega, by have := w22.1; omega, (TY_r hb (o := 0) rfl)⟩ ?_
  have w23 := w22.uR (h := b) (k := 10) (r := b + 17) (o := 0) (r2 := 17) (by omega) (by omega) (by omega)
  generalize uR s22 b 10 (b + 17) = s23 at w23 ⊢
  refine q_aload_n dX2_init_112 rfl rfl rfl ?_
  refine q_newN (ci := 0) (n := 11) (h := b + 21) dX2_init_113 (by decide) rfl nX2_51 is0 iz0 (by have := w23.1; omega) (TY_r hb (o := 21) rfl) (by omega) (by omega) ?_
  have w24 := w23.nH (by decide)
  generalize nH s23 = s24 at w24 ⊢
  refine q_dup dX2_init_116 rfl ?_
  refine q_callIN (As := []) (rest := [.ref (b + 21), .ref b]) dX2_init_117 vX2_53 (by omega) (zi_Facts (b := b) hb (by have := w24.1; omega)) rfl rfl (Nat.le_of_ble_eq_true rfl) (by omega) (by omega) (by omega) (k_v (fun s25 q25 => ?_))
  have w25 := w24.tr q25 (by decide)
  refine q_putr dX2_init_120 fX2_54 rfl rfl (Or.inr ⟨rfl, rfl, rfl⟩) ⟨by omega, by have := w25.1; omega, (TY_r hb (o := 0) rfl)⟩ ?_
  have w26 := w25.uR (h := b) (k := 11) (r := b + 21) (o := 0) (r2 := 21) (by omega) (by omega) (by omega)
  generalize uR s25 b 11 (b + 21) = s26 at w26 ⊢
  refine q_return dX2_init_123 rfl (by omega) (by omega) ?_
  exact ⟨rfl, w26⟩

