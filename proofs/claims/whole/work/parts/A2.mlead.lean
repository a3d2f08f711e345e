/-! The model: where its NODES lead. -/
/-- NODE n of the model holds r (but where it leads) -/
def NE (σ : HS) (n : Nat) (r : REC) : Prop := sI σ 67 n = nI (rK r) ∧ sI σ 68 n = nI (rB r) ∧ sI σ 69 n = (if rK r ≤ 1 then rT r else -1) ∧ sI σ 70 n = rS r ∧ ((rK r = 1 ∨ rK r = 2 ∨ rK r = 3 ∨ rK r = 5) → sI σ 73 n = opn (rO0 r) ∧ sI σ 74 n = opv (rO0 r)) ∧ ((rK r = 2 ∨ rK r = 5) → sI σ 75 n = opn (rO1 r) ∧ sI σ 76 n = opv (rO1 r)) ∧ (rK r = 2 → sI σ 77 n = rT r)
theorem NE.cp {σ σ' : HS} {n : Nat} {r : REC} (h : ∀ a, 67 ≤ a → a ≤ 77 → a ≠ 71 → a ≠ 72 → sI σ' a n = sI σ a n) (k : NE σ n r) : NE σ' n r := by
  unfold NE at k ⊢
  rw [h 67 (by omega) (by omega) (by omega) (by omega), h 68 (by omega) (by omega) (by omega) (by omega), h 69 (by omega) (by omega) (by omega) (by omega), h 70 (by omega) (by omega) (by omega) (by omega), h 73 (by omega) (by omega) (by omega) (by omega), h 74 (by omega) (by omega) (by omega) (by omega), h 75 (by omega) (by omega) (by omega) (by omega), h 76 (by omega) (by omega) (by omega) (by omega), h 77 (by omega) (by omega) (by omega) (by omega)]
  exact k
theorem ND.ne {σ : HS} {n : Nat} {r : REC} (h : ND σ n r) (h70 : sI σ 70 n = rS r) : NE σ n r := ⟨h.1, h.2.1, h.2.2.1, h70, h.2.2.2.2.2.1, h.2.2.2.2.2.2.1, h.2.2.2.2.2.2.2⟩
def ldq (h i : Nat) : Prop := ((h = 62 ∨ h = 63) ∧ i = 4) ∨ h = 87 ∨ (67 ≤ h ∧ h ≤ 72 ∧ 960 ≤ i)
/-- statements before n are linked, n leads to l0, l1, m NODES ON THE WAY are there -/
def LKm (σ : HS) (q : PS) (n m : Nat) (l0 l1 : Int32) : Prop :=
  sI σ 61 4 = nI (psF q).length ∧ sI σ 62 4 = nI ((psS q).length + m) ∧ sI σ 63 4 = nI (psS q).length ∧ BKs σ q ∧ (∀ b, b < (psF q).length → sI σ 87 b = nI (cntW q b (psF q).length)) ∧
  (∀ i, i < (psS q).length + m → NE σ (960 + i) (rg q i)) ∧
  (∀ i, (i < n ∨ ((psS q).length ≤ i ∧ i < (psS q).length + m)) → sI σ 71 (960 + i) = oW (ld q 0 i) ∧ sI σ 72 (960 + i) = oW (ld q 1 i)) ∧
  (∀ i, n < i → i < (psS q).length → sI σ 71 (960 + i) = rW0 (rr q i) ∧ sI σ 72 (960 + i) = rW1 (rr q i)) ∧ (n < (psS q).length → sI σ 71 (960 + n) = l0 ∧ sI σ 72 (960 + n) = l1)
theorem LKm_w0 {σ : HS} {q : PS} {n m : Nat} {l0 l1 v : Int32} (h : LKm σ q n m l0 l1) (hn : n < (psS q).length) : LKm (uI σ 71 (960 + n) v) q n m v l1 := by
  obtain ⟨h1, h2, h3, h4, h5, h8, h9, h10, h11⟩ := h
  have F : ∀ x i, ¬ (x = 71 ∧ i = 960 + n) → sI (uI σ 71 (960 + n) v) x i = sI σ x i := fun x i q => by rw [sI_uI, if_neg q]
  exact ⟨(F _ _ (by omega)).trans h1, (F _ _ (by omega)).trans h2, (F _ _ (by omega)).trans h3, fun j hj => ⟨(F _ _ (by omega)).trans (h4 j hj).1, (F _ _ (by omega)).trans (h4 j hj).2⟩, fun b hb => (F _ _ (by omega)).trans (h5 b hb), fun i hi => (h8 i hi).cp fun a a1 a2 a3 a4 => F _ _ (by omega), fun i hi => ⟨(F _ _ (by omega)).trans (h9 i hi).1, (F _ _ (by omega)).trans (h9 i hi).2⟩, fun i g1 g2 => ⟨(F _ _ (by omega)).trans (h10 i g1 g2).1, (F _ _ (by omega)).trans (h10 i g1 g2).2⟩, fun _ => ⟨uI_self, (F _ _ (by omega)).trans (h11 hn).2⟩⟩
theorem LKm_w1 {σ : HS} {q : PS} {n m : Nat} {l0 l1 v : Int32} (h : LKm σ q n m l0 l1) (hn : n < (psS q).length) : LKm (uI σ 72 (960 + n) v) q n m l0 v := by
  obtain ⟨h1, h2, h3, h4, h5, h8, h9, h10, h11⟩ := h
  have F : ∀ x i, ¬ (x = 72 ∧ i = 960 + n) → sI (uI σ 72 (960 + n) v) x i = sI σ x i := fun x i q => by rw [sI_uI, if_neg q]
  exact ⟨(F _ _ (by omega)).trans h1, (F _ _ (by omega)).trans h2, (F _ _ (by omega)).trans h3, fun j hj => ⟨(F _ _ (by omega)).trans (h4 j hj).1, (F _ _ (by omega)).trans (h4 j hj).2⟩, fun b hb => (F _ _ (by omega)).trans (h5 b hb), fun i hi => (h8 i hi).cp fun a a1 a2 a3 a4 => F _ _ (by omega), fun i hi => ⟨(F _ _ (by omega)).trans (h9 i hi).1, (F _ _ (by omega)).trans (h9 i hi).2⟩, fun i g1 g2 => ⟨(F _ _ (by omega)).trans (h10 i g1 g2).1, (F _ _ (by omega)).trans (h10 i g1 g2).2⟩, fun _ => ⟨(F _ _ (by omega)).trans (h11 hn).1, uI_self⟩⟩
theorem LKm_end {σ : HS} {q : PS} {n m : Nat} (h : LKm σ q n m (oW (ld q 0 n)) (oW (ld q 1 n))) (hn : n < (psS q).length) : LKm σ q (n + 1) m (rW0 (rr q (n + 1))) (rW1 (rr q (n + 1))) := by
  obtain ⟨h1, h2, h3, h4, h5, h8, h9, h10, h11⟩ := h
  refine ⟨h1, h2, h3, h4, h5, h8, fun i hi => ?_, fun i g1 g2 => h10 i (by omega) g2, fun g => h10 _ (by omega) g⟩
  by_cases e : i = n
  · subst e; exact h11 hn
  · exact h9 i (by omega)
def thS (σ : HS) (n t f k : Nat) : HS := uI (uI (uI (uI (uI (uI (uI σ 67 n (nI 7)) 68 n (nI t)) 69 n (-1)) 70 n (-1)) 71 n (nI f)) 72 n (-1)) 62 4 (nI (k + 1))
theorem thS_f {σ : HS} {n t f k : Nat} : FR9 (fun h i => (h = 62 ∧ i = 4) ∨ (67 ≤ h ∧ h ≤ 72 ∧ i = n)) σ (thS σ n t f k) := ((((((FR9.rf.uI (Or.inr ⟨by omega, by omega, rfl⟩)).uI (Or.inr ⟨by omega, by omega, rfl⟩)).uI (Or.inr ⟨by omega, by omega, rfl⟩)).uI (Or.inr ⟨by omega, by omega, rfl⟩)).uI (Or.inr ⟨by omega, by omega, rfl⟩)).uI (Or.inr ⟨by omega, by omega, rfl⟩)).uI (Or.inl ⟨rfl, rfl⟩)
theorem LKm_ow {σ : HS} {q : PS} {n m t : Nat} {l0 l1 : Int32} (h : LKm σ q n m l0 l1) (hn : n < (psS q).length) (ht : (XL q (psS q).length).getD m 0 = t) : LKm (thS σ (960 + ((psS q).length + m)) t (nf q t) ((psS q).length + m)) q n (m + 1) l0 l1 := by
  obtain ⟨h1, h2, h3, h4, h5, h8, h9, h10, h11⟩ := h
  have F0 := thS_f (σ := σ) (n := 960 + ((psS q).length + m)) (t := t) (f := nf q t) (k := (psS q).length + m)
  have F := F0.2.2.2
  have eg : rg q ((psS q).length + m) = (7, t, -1, nI 0, nI 0, -1, nI t, -1, 0, 0) := by
    unfold rg; rw [if_neg (by omega), Nat.add_sub_cancel_left, ht]
  have e0 : ld q 0 ((psS q).length + m) = some (nf q t) := by
    unfold ld; rw [if_neg (by omega), if_pos rfl, Nat.add_sub_cancel_left, ht]
  have e1 : ld q 1 ((psS q).length + m) = none := by
    unfold ld; rw [if_neg (by omega), if_neg (by decide)]
  have o67 : sI (thS σ (960 + ((psS q).length + m)) t (nf q t) ((psS q).length + m)) 67 (960 + ((psS q).length + m)) = nI 7 := by
    unfold thS; rw [rd_off (by omega), rd_off (by omega), rd_off (by omega), rd_off (by omega), rd_off (by omega), rd_off (by omega)]; exact uI_self
  have o68 : sI (thS σ (960 + ((psS q).length + m)) t (nf q t) ((psS q).length + m)) 68 (960 + ((psS q).length + m)) = nI t := by
    unfold thS; rw [rd_off (by omega), rd_off (by omega), rd_off (by omega), rd_off (by omega), rd_off (by omega)]; exact uI_self
  have o69 : sI (thS σ (960 + ((psS q).length + m)) t (nf q t) ((psS q).length + m)) 69 (960 + ((psS q).length + m)) = -1 := by
    unfold thS; rw [rd_off (by omega), rd_off (by omega), rd_off (by omega), rd_off (by omega)]; exact uI_self
  have o70 : sI (thS σ (960 + ((psS q).length + m)) t (nf q t) ((psS q).length + m)) 70 (960 + ((psS q).length + m)) = -1 := by
    unfold thS; rw [rd_off (by omega), rd_off (by omega), rd_off (by omega)]; exact uI_self
  have o71 : sI (thS σ (960 + ((psS q).length + m)) t (nf q t) ((psS q).length + m)) 71 (960 + ((psS q).length + m)) = nI (nf q t) := by
    unfold thS; rw [rd_off (by omega), rd_off (by omega)]; exact uI_self
  have o72 : sI (thS σ (960 + ((psS q).length + m)) t (nf q t) ((psS q).length + m)) 72 (960 + ((psS q).length + m)) = -1 := by
    unfold thS; rw [rd_off (by omega)]; exact uI_self
  have o62 : sI (thS σ (960 + ((psS q).length + m)) t (nf q t) ((psS q).length + m)) 62 4 = nI ((psS q).length + m + 1) := uI_self
  generalize thS σ (960 + ((psS q).length + m)) t (nf q t) ((psS q).length + m) = σ' at *
  refine ⟨(F _ _ (by omega)).trans h1, o62, (F _ _ (by omega)).trans h3, fun j hj => ⟨(F _ _ (by omega)).trans (h4 j hj).1, (F _ _ (by omega)).trans (h4 j hj).2⟩, fun b hb => (F _ _ (by omega)).trans (h5 b hb), fun i hi => ?_, fun i hi => ?_, fun i g1 g2 => ⟨(F _ _ (by omega)).trans (h10 i g1 g2).1, (F _ _ (by omega)).trans (h10 i g1 g2).2⟩, fun _ => ⟨(F _ _ (by omega)).trans (h11 hn).1, (F _ _ (by omega)).trans (h11 hn).2⟩⟩
  · by_cases e : i = (psS q).length + m
    · subst e
      rw [eg]
      exact ⟨o67, o68, o69, o70, fun z => absurd z (by show ¬ (7 = 1 ∨ 7 = 2 ∨ 7 = 3 ∨ 7 = 5); omega), fun z => absurd z (by show ¬ (7 = 2 ∨ 7 = 5); omega), fun z => absurd z (by show ¬ (7 = 2); omega)⟩
    · exact (h8 i (by omega)).cp fun a a1 a2 a3 a4 => F _ _ (by omega)
  · by_cases e : i = (psS q).length + m
    · subst e; rw [e0, e1]; exact ⟨o71, o72⟩
    · exact ⟨(F _ _ (by omega)).trans (h9 i (by omega)).1, (F _ _ (by omega)).trans (h9 i (by omega)).2⟩
/-- where through leads -/
def thV (q : PS) (t m : Nat) : Nat := if many q t = true then (psS q).length + m else nf q t
section MLD
variable {g : GG} {σ σ0 : HS} {q : PS} {Z : List Frame → Array Value → State → State → Prop}
theorem y9_ways (hM : MPS σ q) (hS : SK σ) (hc : BC q) (hw : WFs q) {t : Nat} (ht : t < 40) : ∀ (n j : Nat), j + n = (psF q).length → WA g mX9_waysTo 1 0 0 (ZM g (PQ σ (.int (nI (cntW q t (psF q).length)))) 0 0) 0 0 4 [(0, .ref 58), (1, .int (nI t)), (2, .int (nI (cntW q t j))), (3, .int (nI j))] [] σ := by
  have h40 := hc.2.1
  have m1 := hM.1
  intro n
  induction n with
  | zero =>
    intro j hj
    refine q_iload_n dX9_waysTo_4 rfl rfl ?_
    refine q_aload_n dX9_waysTo_5 rfl rfl rfl ?_
    refine q_getr (r := 61) dX9_waysTo_6 fX9_40 rfl (ty_c hS (by decide) rfl) (hS.2 58 9 61 rfl) ?_
    refine q_iconst (v := nI 4) dX9_waysTo_9 rfl ?_
    refine q_iald (x := nI ((psF q).length)) (j := 4) dX9_waysTo_10 (ty_c hS (by decide) rfl) (ix_n (by omega) (by omega)) m1 ?_
    refine q_icmp_geN (tgt := 63) dX9_waysTo_11 (by decide) (by omega) (by omega) (fun c11 => ?_) (fun c11 => ?_)
    · skip
      refine q_iload_n dX9_waysTo_63 rfl rfl ?_
      refine q_ireturn dX9_waysTo_64 rfl rfl (by omega) (by omega) ?_
      rw [← hj]
      exact ⟨rfl, rfl⟩
    · exact absurd c11 (by omega)
  | succ n ih =>
    intro j hj
    obtain ⟨-, e2, -, -, -, -, -, -, e9, -⟩ := end_w hc hw (j := j) (by omega)
    obtain ⟨-, g3, g4⟩ := men_r hM hc hw (j := j) (by omega)
    have hI := ih (j + 1) (by omega)
    have hlt := cntW_le q t j
    cases hw0 : wy q 0 j with
    | none =>
      rw [hw0] at g3
      cases hw1 : wy q 1 j with
      | none =>
        rw [hw1] at g4
        refine q_iload_n dX9_waysTo_4 rfl rfl ?_
        refine q_aload_n dX9_waysTo_5 rfl rfl rfl ?_
        refine q_getr (r := 61) dX9_waysTo_6 fX9_40 rfl (ty_c hS (by decide) rfl) (hS.2 58 9 61 rfl) ?_
        refine q_iconst (v := nI 4) dX9_waysTo_9 rfl ?_
        refine q_iald (x := nI ((psF q).length)) (j := 4) dX9_waysTo_10 (ty_c hS (by decide) rfl) (ix_n (by omega) (by omega)) m1 ?_
        refine q_icmp_geN (tgt := 63) dX9_waysTo_11 (by decide) (by omega) (by omega) (fun c11 => ?_) (fun c11 => ?_)
        · exact absurd c11 (by omega)
        · skip
          refine q_aload_n dX9_waysTo_14 rfl rfl rfl ?_
          refine q_iload_n dX9_waysTo_15 rfl rfl ?_
          refine q_callV (As := [.int (nI j)]) (rest := []) dX9_waysTo_16 vX9_322 (ty_c hS (by decide) rfl) ⟨by decide, rfl⟩ (z9_lastNode hS hM hc hw (by omega)) rfl rfl (Nat.le_of_ble_eq_true rfl) (by omega) (by omega) (by omega) (k_p ?_)
          refine q_istore dX9_waysTo_19 (by decide) (ls' := [(4, .int (nI (960 + (nf q (j + 1) - 1)))), (0, .ref 58), (1, .int (nI t)), (2, .int (nI (cntW q t j))), (3, .int (nI j))]) rfl ?_
          refine q_iload_n dX9_waysTo_21 rfl rfl ?_
          refine q_aload_n dX9_waysTo_22 rfl rfl rfl ?_
          refine q_getr (r := 71) dX9_waysTo_23 fX9_70 rfl (ty_c hS (by decide) rfl) (hS.2 58 19 71 rfl) ?_
          refine q_iload dX9_waysTo_26 rfl ?_
          refine q_iald (x := (-1)) (j := (960 + (nf q (j + 1) - 1))) dX9_waysTo_28 (ty_c hS (by decide) rfl) (ix_n (by omega) (by omega)) g3 ?_
          refine q_iload_n dX9_waysTo_29 rfl rfl ?_
          refine q_icmp_ne1 (tgt := 37) dX9_waysTo_30 (by decide) (by omega) (by decide) ?_
          refine q_iconst (v := nI 0) dX9_waysTo_37 rfl ?_
          refine q_aload_n dX9_waysTo_38 rfl rfl rfl ?_
          refine q_getr (r := 72) dX9_waysTo_39 fX9_73 rfl (ty_c hS (by decide) rfl) (hS.2 58 20 72 rfl) ?_
          refine q_iload dX9_waysTo_42 rfl ?_
          refine q_iald (x := (-1)) (j := (960 + (nf q (j + 1) - 1))) dX9_waysTo_44 (ty_c hS (by decide) rfl) (ix_n (by omega) (by omega)) g4 ?_
          refine q_iload_n dX9_waysTo_45 rfl rfl ?_
          refine q_icmp_ne1 (tgt := 53) dX9_waysTo_46 (by decide) (by omega) (by decide) ?_
          refine q_iconst (v := nI 0) dX9_waysTo_53 rfl ?_
          refine q_iaddN dX9_waysTo_54 ?_
          refine q_iaddN dX9_waysTo_55 ?_
          refine q_istore_n dX9_waysTo_56 rfl (by decide) (ls' := [(2, .int (nI ((cntW q t j) + 0))), (4, .int (nI (960 + (nf q (j + 1) - 1)))), (0, .ref 58), (1, .int (nI t)), (3, .int (nI j))]) rfl ?_
          refine q_iincN (c := 1) dX9_waysTo_57 rfl (by decide) rfl (ls' := [(3, .int (nI (j + 1))), (2, .int (nI ((cntW q t j) + 0))), (4, .int (nI (960 + (nf q (j + 1) - 1)))), (0, .ref 58), (1, .int (nI t))]) rfl ?_
          refine q_goto (tgt := 4) dX9_waysTo_60 (by decide) ?_
          refine q_pk [3, 4, 1, 0] (ls' := [(0, .ref 58), (1, .int (nI t)), (2, .int (nI ((cntW q t j) + 0))), (3, .int (nI (j + 1)))]) rfl ?_
          have e : ((cntW q t j) + 0) = cntW q t (j + 1) := by
            show _ = cntW q t j + cw q t j
            unfold cw
            rw [hw0, hw1]
            simp_all
          rw [e]
          exact hI
      | some v1 =>
        rw [hw1] at g4
        have b1 := e9 1 v1 hw1
        refine q_iload_n dX9_waysTo_4 rfl rfl ?_
        refine q_aload_n dX9_waysTo_5 rfl rfl rfl ?_
        refine q_getr (r := 61) dX9_waysTo_6 fX9_40 rfl (ty_c hS (by decide) rfl) (hS.2 58 9 61 rfl) ?_
        refine q_iconst (v := nI 4) dX9_waysTo_9 rfl ?_
        refine q_iald (x := nI ((psF q).length)) (j := 4) dX9_waysTo_10 (ty_c hS (by decide) rfl) (ix_n (by omega) (by omega)) m1 ?_
        refine q_icmp_geN (tgt := 63) dX9_waysTo_11 (by decide) (by omega) (by omega) (fun c11 => ?_) (fun c11 => ?_)
        · exact absurd c11 (by omega)
        · skip
          refine q_aload_n dX9_waysTo_14 rfl rfl rfl ?_
          refine q_iload_n dX9_waysTo_15 rfl rfl ?_
          refine q_callV (As := [.int (nI j)]) (rest := []) dX9_waysTo_16 vX9_322 (ty_c hS (by decide) rfl) ⟨by decide, rfl⟩ (z9_lastNode hS hM hc hw (by omega)) rfl rfl (Nat.le_of_ble_eq_true rfl) (by omega) (by omega) (by omega) (k_p ?_)
          refine q_istore dX9_waysTo_19 (by decide) (ls' := [(4, .int (nI (960 + (nf q (j + 1) - 1)))), (0, .ref 58), (1, .int (nI t)), (2, .int (nI (cntW q t j))), (3, .int (nI j))]) rfl ?_
          refine q_iload_n dX9_waysTo_21 rfl rfl ?_
          refine q_aload_n dX9_waysTo_22 rfl rfl rfl ?_
          refine q_getr (r := 71) dX9_waysTo_23 fX9_70 rfl (ty_c hS (by decide) rfl) (hS.2 58 19 71 rfl) ?_
          refine q_iload dX9_waysTo_26 rfl ?_
          refine q_iald (x := (-1)) (j := (960 + (nf q (j + 1) - 1))) dX9_waysTo_28 (ty_c hS (by decide) rfl) (ix_n (by omega) (by omega)) g3 ?_
          refine q_iload_n dX9_waysTo_29 rfl rfl ?_
          refine q_icmp_ne1 (tgt := 37) dX9_waysTo_30 (by decide) (by omega) (by decide) ?_
          refine q_iconst (v := nI 0) dX9_waysTo_37 rfl ?_
          refine q_aload_n dX9_waysTo_38 rfl rfl rfl ?_
          refine q_getr (r := 72) dX9_waysTo_39 fX9_73 rfl (ty_c hS (by decide) rfl) (hS.2 58 20 72 rfl) ?_
          refine q_iload dX9_waysTo_42 rfl ?_
          refine q_iald (x := nI v1) (j := (960 + (nf q (j + 1) - 1))) dX9_waysTo_44 (ty_c hS (by decide) rfl) (ix_n (by omega) (by omega)) g4 ?_
          refine q_iload_n dX9_waysTo_45 rfl rfl ?_
          refine q_icmp_neN (tgt := 53) dX9_waysTo_46 (by decide) (by omega) (by omega) (fun c46 => ?_) (fun c46 => ?_)
          · skip
            refine q_iconst (v := nI 0) dX9_waysTo_53 rfl ?_
            refine q_iaddN dX9_waysTo_54 ?_
            refine q_iaddN dX9_waysTo_55 ?_
            refine q_istore_n dX9_waysTo_56 rfl (by decide) (ls' := [(2, .int (nI ((cntW q t j) + 0))), (4, .int (nI (960 + (nf q (j + 1) - 1)))), (0, .ref 58), (1, .int (nI t)), (3, .int (nI j))]) rfl ?_
            refine q_iincN (c := 1) dX9_waysTo_57 rfl (by decide) rfl (ls' := [(3, .int (nI (j + 1))), (2, .int (nI ((cntW q t j) + 0))), (4, .int (nI (960 + (nf q (j + 1) - 1)))), (0, .ref 58), (1, .int (nI t))]) rfl ?_
            refine q_goto (tgt := 4) dX9_waysTo_60 (by decide) ?_
            refine q_pk [3, 4, 1, 0] (ls' := [(0, .ref 58), (1, .int (nI t)), (2, .int (nI ((cntW q t j) + 0))), (3, .int (nI (j + 1)))]) rfl ?_
            have e : ((cntW q t j) + 0) = cntW q t (j + 1) := by
              show _ = cntW q t j + cw q t j
              unfold cw
              rw [hw0, hw1]
              simp_all
            rw [e]
            exact hI
          · skip
            refine q_iconst (v := nI 1) dX9_waysTo_49 rfl ?_
            refine q_goto (tgt := 54) dX9_waysTo_50 (by decide) ?_
            refine q_iaddN dX9_waysTo_54 ?_
            refine q_iaddN dX9_waysTo_55 ?_
            refine q_istore_n dX9_waysTo_56 rfl (by decide) (ls' := [(2, .int (nI ((cntW q t j) + 1))), (4, .int (nI (960 + (nf q (j + 1) - 1)))), (0, .ref 58), (1, .int (nI t)), (3, .int (nI j))]) rfl ?_
            refine q_iincN (c := 1) dX9_waysTo_57 rfl (by decide) rfl (ls' := [(3, .int (nI (j + 1))), (2, .int (nI ((cntW q t j) + 1))), (4, .int (nI (960 + (nf q (j + 1) - 1)))), (0, .ref 58), (1, .int (nI t))]) rfl ?_
            refine q_goto (tgt := 4) dX9_waysTo_60 (by decide) ?_
            refine q_pk [3, 4, 1, 0] (ls' := [(0, .ref 58), (1, .int (nI t)), (2, .int (nI ((cntW q t j) + 1))), (3, .int (nI (j + 1)))]) rfl ?_
            have e : ((cntW q t j) + 1) = cntW q t (j + 1) := by
              show _ = cntW q t j + cw q t j
              unfold cw
              rw [hw0, hw1]
              simp_all
            rw [e]
            exact hI
    | some v0 =>
      rw [hw0] at g3
      have b0 := e9 0 v0 hw0
      cases hw1 : wy q 1 j with
      | none =>
        rw [hw1] at g4
        refine q_iload_n dX9_waysTo_4 rfl rfl ?_
        refine q_aload_n dX9_waysTo_5 rfl rfl rfl ?_
        refine q_getr (r := 61) dX9_waysTo_6 fX9_40 rfl (ty_c hS (by decide) rfl) (hS.2 58 9 61 rfl) ?_
        refine q_iconst (v := nI 4) dX9_waysTo_9 rfl ?_
        refine q_iald (x := nI ((psF q).length)) (j := 4) dX9_waysTo_10 (ty_c hS (by decide) rfl) (ix_n (by omega) (by omega)) m1 ?_
        refine q_icmp_geN (tgt := 63) dX9_waysTo_11 (by decide) (by omega) (by omega) (fun c11 => ?_) (fun c11 => ?_)
        · exact absurd c11 (by omega)
        · skip
          refine q_aload_n dX9_waysTo_14 rfl rfl rfl ?_
          refine q_iload_n dX9_waysTo_15 rfl rfl ?_
          refine q_callV (As := [.int (nI j)]) (rest := []) dX9_waysTo_16 vX9_322 (ty_c hS (by decide) rfl) ⟨by decide, rfl⟩ (z9_lastNode hS hM hc hw (by omega)) rfl rfl (Nat.le_of_ble_eq_true rfl) (by omega) (by omega) (by omega) (k_p ?_)
          refine q_istore dX9_waysTo_19 (by decide) (ls' := [(4, .int (nI (960 + (nf q (j + 1) - 1)))), (0, .ref 58), (1, .int (nI t)), (2, .int (nI (cntW q t j))), (3, .int (nI j))]) rfl ?_
          refine q_iload_n dX9_waysTo_21 rfl rfl ?_
          refine q_aload_n dX9_waysTo_22 rfl rfl rfl ?_
          refine q_getr (r := 71) dX9_waysTo_23 fX9_70 rfl (ty_c hS (by decide) rfl) (hS.2 58 19 71 rfl) ?_
          refine q_iload dX9_waysTo_26 rfl ?_
          refine q_iald (x := nI v0) (j := (960 + (nf q (j + 1) - 1))) dX9_waysTo_28 (ty_c hS (by decide) rfl) (ix_n (by omega) (by omega)) g3 ?_
          refine q_iload_n dX9_waysTo_29 rfl rfl ?_
          refine q_icmp_neN (tgt := 37) dX9_waysTo_30 (by decide) (by omega) (by omega) (fun c30 => ?_) (fun c30 => ?_)
          · skip
            refine q_iconst (v := nI 0) dX9_waysTo_37 rfl ?_
            refine q_aload_n dX9_waysTo_38 rfl rfl rfl ?_
            refine q_getr (r := 72) dX9_waysTo_39 fX9_73 rfl (ty_c hS (by decide) rfl) (hS.2 58 20 72 rfl) ?_
            refine q_iload dX9_waysTo_42 rfl ?_
            refine q_iald (x := (-1)) (j := (960 + (nf q (j + 1) - 1))) dX9_waysTo_44 (ty_c hS (by decide) rfl) (ix_n (by omega) (by omega)) g4 ?_
            refine q_iload_n dX9_waysTo_45 rfl rfl ?_
            refine q_icmp_ne1 (tgt := 53) dX9_waysTo_46 (by decide) (by omega) (by decide) ?_
            refine q_iconst (v := nI 0) dX9_waysTo_53 rfl ?_
            refine q_iaddN dX9_waysTo_54 ?_
            refine q_iaddN dX9_waysTo_55 ?_
            refine q_istore_n dX9_waysTo_56 rfl (by decide) (ls' := [(2, .int (nI ((cntW q t j) + 0))), (4, .int (nI (960 + (nf q (j + 1) - 1)))), (0, .ref 58), (1, .int (nI t)), (3, .int (nI j))]) rfl ?_
            refine q_iincN (c := 1) dX9_waysTo_57 rfl (by decide) rfl (ls' := [(3, .int (nI (j + 1))), (2, .int (nI ((cntW q t j) + 0))), (4, .int (nI (960 + (nf q (j + 1) - 1)))), (0, .ref 58), (1, .int (nI t))]) rfl ?_
            refine q_goto (tgt := 4) dX9_waysTo_60 (by decide) ?_
            refine q_pk [3, 4, 1, 0] (ls' := [(0, .ref 58), (1, .int (nI t)), (2, .int (nI ((cntW q t j) + 0))), (3, .int (nI (j + 1)))]) rfl ?_
            have e : ((cntW q t j) + 0) = cntW q t (j + 1) := by
              show _ = cntW q t j + cw q t j
              unfold cw
              rw [hw0, hw1]
              simp_all
            rw [e]
            exact hI
          · skip
            refine q_iconst (v := nI 1) dX9_waysTo_33 rfl ?_
            refine q_goto (tgt := 38) dX9_waysTo_34 (by decide) ?_
            refine q_aload_n dX9_waysTo_38 rfl rfl rfl ?_
            refine q_getr (r := 72) dX9_waysTo_39 fX9_73 rfl (ty_c hS (by decide) rfl) (hS.2 58 20 72 rfl) ?_
            refine q_iload dX9_waysTo_42 rfl ?_
            refine q_iald (x := (-1)) (j := (960 + (nf q (j + 1) - 1))) dX9_waysTo_44 (ty_c hS (by decide) rfl) (ix_n (by omega) (by omega)) g4 ?_
            refine q_iload_n dX9_waysTo_45 rfl rfl ?_
            refine q_icmp_ne1 (tgt := 53) dX9_waysTo_46 (by decide) (by omega) (by decide) ?_
            refine q_iconst (v := nI 0) dX9_waysTo_53 rfl ?_
            refine q_iaddN dX9_waysTo_54 ?_
            refine q_iaddN dX9_waysTo_55 ?_
            refine q_istore_n dX9_waysTo_56 rfl (by decide) (ls' := [(2, .int (nI ((cntW q t j) + 1))), (4, .int (nI (960 + (nf q (j + 1) - 1)))), (0, .ref 58), (1, .int (nI t)), (3, .int (nI j))]) rfl ?_
            refine q_iincN (c := 1) dX9_waysTo_57 rfl (by decide) rfl (ls' := [(3, .int (nI (j + 1))), (2, .int (nI ((cntW q t j) + 1))), (4, .int (nI (960 + (nf q (j + 1) - 1)))), (0, .ref 58), (1, .int (nI t))]) rfl ?_
            refine q_goto (tgt := 4) dX9_waysTo_60 (by decide) ?_
            refine q_pk [3, 4, 1, 0] (ls' := [(0, .ref 58), (1, .int (nI t)), (2, .int (nI ((cntW q t j) + 1))), (3, .int (nI (j + 1)))]) rfl ?_
            have e : ((cntW q t j) + 1) = cntW q t (j + 1) := by
              show _ = cntW q t j + cw q t j
              unfold cw
              rw [hw0, hw1]
              simp_all
            rw [e]
            exact hI
      | some v1 =>
        rw [hw1] at g4
        have b1 := e9 1 v1 hw1
        refine q_iload_n dX9_waysTo_4 rfl rfl ?_
        refine q_aload_n dX9_waysTo_5 rfl rfl rfl ?_
        refine q_getr (r := 61) dX9_waysTo_6 fX9_40 rfl (ty_c hS (by decide) rfl) (hS.2 58 9 61 rfl) ?_
        refine q_iconst (v := nI 4) dX9_waysTo_9 rfl ?_
        refine q_iald (x := nI ((psF q).length)) (j := 4) dX9_waysTo_10 (ty_c hS (by decide) rfl) (ix_n (by omega) (by omega)) m1 ?_
        refine q_icmp_geN (tgt := 63) dX9_waysTo_11 (by decide) (by omega) (by omega) (fun c11 => ?_) (fun c11 => ?_)
        · exact absurd c11 (by omega)
        · skip
          refine q_aload_n dX9_waysTo_14 rfl rfl rfl ?_
          refine q_iload_n dX9_waysTo_15 rfl rfl ?_
          refine q_callV (As := [.int (nI j)]) (rest := []) dX9_waysTo_16 vX9_322 (ty_c hS (by decide) rfl) ⟨by decide, rfl⟩ (z9_lastNode hS hM hc hw (by omega)) rfl rfl (Nat.le_of_ble_eq_true rfl) (by omega) (by omega) (by omega) (k_p ?_)
          refine q_istore dX9_waysTo_19 (by decide) (ls' := [(4, .int (nI (960 + (nf q (j + 1) - 1)))), (0, .ref 58), (1, .int (nI t)), (2, .int (nI (cntW q t j))), (3, .int (nI j))]) rfl ?_
          refine q_iload_n dX9_waysTo_21 rfl rfl ?_
          refine q_aload_n dX9_waysTo_22 rfl rfl rfl ?_
          refine q_getr (r := 71) dX9_waysTo_23 fX9_70 rfl (ty_c hS (by decide) rfl) (hS.2 58 19 71 rfl) ?_
          refine q_iload dX9_waysTo_26 rfl ?_
          refine q_iald (x := nI v0) (j := (960 + (nf q (j + 1) - 1))) dX9_waysTo_28 (ty_c hS (by decide) rfl) (ix_n (by omega) (by omega)) g3 ?_
          refine q_iload_n dX9_waysTo_29 rfl rfl ?_
          refine q_icmp_neN (tgt := 37) dX9_waysTo_30 (by decide) (by omega) (by omega) (fun c30 => ?_) (fun c30 => ?_)
          · skip
            refine q_iconst (v := nI 0) dX9_waysTo_37 rfl ?_
            refine q_aload_n dX9_waysTo_38 rfl rfl rfl ?_
            refine q_getr (r := 72) dX9_waysTo_39 fX9_73 rfl (ty_c hS (by decide) rfl) (hS.2 58 20 72 rfl) ?_
            refine q_iload dX9_waysTo_42 rfl ?_
            refine q_iald (x := nI v1) (j := (960 + (nf q (j + 1) - 1))) dX9_waysTo_44 (ty_c hS (by decide) rfl) (ix_n (by omega) (by omega)) g4 ?_
            refine q_iload_n dX9_waysTo_45 rfl rfl ?_
            refine q_icmp_neN (tgt := 53) dX9_waysTo_46 (by decide) (by omega) (by omega) (fun c46 => ?_) (fun c46 => ?_)
            · skip
              refine q_iconst (v := nI 0) dX9_waysTo_53 rfl ?_
              refine q_iaddN dX9_waysTo_54 ?_
              refine q_iaddN dX9_waysTo_55 ?_
              refine q_istore_n dX9_waysTo_56 rfl (by decide) (ls' := [(2, .int (nI ((cntW q t j) + 0))), (4, .int (nI (960 + (nf q (j + 1) - 1)))), (0, .ref 58), (1, .int (nI t)), (3, .int (nI j))]) rfl ?_
              refine q_iincN (c := 1) dX9_waysTo_57 rfl (by decide) rfl (ls' := [(3, .int (nI (j + 1))), (2, .int (nI ((cntW q t j) + 0))), (4, .int (nI (960 + (nf q (j + 1) - 1)))), (0, .ref 58), (1, .int (nI t))]) rfl ?_
              refine q_goto (tgt := 4) dX9_waysTo_60 (by decide) ?_
              refine q_pk [3, 4, 1, 0] (ls' := [(0, .ref 58), (1, .int (nI t)), (2, .int (nI ((cntW q t j) + 0))), (3, .int (nI (j + 1)))]) rfl ?_
              have e : ((cntW q t j) + 0) = cntW q t (j + 1) := by
                show _ = cntW q t j + cw q t j
                unfold cw
                rw [hw0, hw1]
                simp_all
              rw [e]
              exact hI
            · skip
              refine q_iconst (v := nI 1) dX9_waysTo_49 rfl ?_
              refine q_goto (tgt := 54) dX9_waysTo_50 (by decide) ?_
              refine q_iaddN dX9_waysTo_54 ?_
              refine q_iaddN dX9_waysTo_55 ?_
              refine q_istore_n dX9_waysTo_56 rfl (by decide) (ls' := [(2, .int (nI ((cntW q t j) + 1))), (4, .int (nI (960 + (nf q (j + 1) - 1)))), (0, .ref 58), (1, .int (nI t)), (3, .int (nI j))]) rfl ?_
              refine q_iincN (c := 1) dX9_waysTo_57 rfl (by decide) rfl (ls' := [(3, .int (nI (j + 1))), (2, .int (nI ((cntW q t j) + 1))), (4, .int (nI (960 + (nf q (j + 1) - 1)))), (0, .ref 58), (1, .int (nI t))]) rfl ?_
              refine q_goto (tgt := 4) dX9_waysTo_60 (by decide) ?_
              refine q_pk [3, 4, 1, 0] (ls' := [(0, .ref 58), (1, .int (nI t)), (2, .int (nI ((cntW q t j) + 1))), (3, .int (nI (j + 1)))]) rfl ?_
              have e : ((cntW q t j) + 1) = cntW q t (j + 1) := by
                show _ = cntW q t j + cw q t j
                unfold cw
                rw [hw0, hw1]
                simp_all
              rw [e]
              exact hI
          · skip
            refine q_iconst (v := nI 1) dX9_waysTo_33 rfl ?_
            refine q_goto (tgt := 38) dX9_waysTo_34 (by decide) ?_
            refine q_aload_n dX9_waysTo_38 rfl rfl rfl ?_
            refine q_getr (r := 72) dX9_waysTo_39 fX9_73 rfl (ty_c hS (by decide) rfl) (hS.2 58 20 72 rfl) ?_
            refine q_iload dX9_waysTo_42 rfl ?_
            refine q_iald (x := nI v1) (j := (960 + (nf q (j + 1) - 1))) dX9_waysTo_44 (ty_c hS (by decide) rfl) (ix_n (by omega) (by omega)) g4 ?_
            refine q_iload_n dX9_waysTo_45 rfl rfl ?_
            refine q_icmp_neN (tgt := 53) dX9_waysTo_46 (by decide) (by omega) (by omega) (fun c46 => ?_) (fun c46 => ?_)
            · skip
              refine q_iconst (v := nI 0) dX9_waysTo_53 rfl ?_
              refine q_iaddN dX9_waysTo_54 ?_
              refine q_iaddN dX9_waysTo_55 ?_
              refine q_istore_n dX9_waysTo_56 rfl (by decide) (ls' := [(2, .int (nI ((cntW q t j) + 1))), (4, .int (nI (960 + (nf q (j + 1) - 1)))), (0, .ref 58), (1, .int (nI t)), (3, .int (nI j))]) rfl ?_
              refine q_iincN (c := 1) dX9_waysTo_57 rfl (by decide) rfl (ls' := [(3, .int (nI (j + 1))), (2, .int (nI ((cntW q t j) + 1))), (4, .int (nI (960 + (nf q (j + 1) - 1)))), (0, .ref 58), (1, .int (nI t))]) rfl ?_
              refine q_goto (tgt := 4) dX9_waysTo_60 (by decide) ?_
              refine q_pk [3, 4, 1, 0] (ls' := [(0, .ref 58), (1, .int (nI t)), (2, .int (nI ((cntW q t j) + 1))), (3, .int (nI (j + 1)))]) rfl ?_
              have e : ((cntW q t j) + 1) = cntW q t (j + 1) := by
                show _ = cntW q t j + cw q t j
                unfold cw
                rw [hw0, hw1]
                simp_all
              rw [e]
              exact hI
            · skip
              refine q_iconst (v := nI 1) dX9_waysTo_49 rfl ?_
              refine q_goto (tgt := 54) dX9_waysTo_50 (by decide) ?_
              refine q_iaddN dX9_waysTo_54 ?_
              refine q_iaddN dX9_waysTo_55 ?_
              refine q_istore_n dX9_waysTo_56 rfl (by decide) (ls' := [(2, .int (nI ((cntW q t j) + 2))), (4, .int (nI (960 + (nf q (j + 1) - 1)))), (0, .ref 58), (1, .int (nI t)), (3, .int (nI j))]) rfl ?_
              refine q_iincN (c := 1) dX9_waysTo_57 rfl (by decide) rfl (ls' := [(3, .int (nI (j + 1))), (2, .int (nI ((cntW q t j) + 2))), (4, .int (nI (960 + (nf q (j + 1) - 1)))), (0, .ref 58), (1, .int (nI t))]) rfl ?_
              refine q_goto (tgt := 4) dX9_waysTo_60 (by decide) ?_
              refine q_pk [3, 4, 1, 0] (ls' := [(0, .ref 58), (1, .int (nI t)), (2, .int (nI ((cntW q t j) + 2))), (3, .int (nI (j + 1)))]) rfl ?_
              have e : ((cntW q t j) + 2) = cntW q t (j + 1) := by
                show _ = cntW q t j + cw q t j
                unfold cw
                rw [hw0, hw1]
                simp_all
              rw [e]
              exact hI

theorem z9_ways (hM : MPS σ q) (hS : SK σ) (hc : BC q) (hw : WFs q) {t : Nat} (ht : t < 40) : CT g mX9_waysTo 1 0 0 [.ref 58, .int (nI t)] σ (PQ σ (.int (nI (cntW q t (psF q).length)))) := by
  refine CT.of (by decide) (Nat.le_of_ble_eq_true rfl) ?_
  refine q_iconst (v := nI 0) dX9_waysTo_0 rfl ?_
  refine q_istore_n dX9_waysTo_1 rfl (by decide) (ls' := [(2, .int (nI 0)), (0, .ref 58), (1, .int (nI t))]) rfl ?_
  refine q_iconst (v := nI 0) dX9_waysTo_2 rfl ?_
  refine q_istore_n dX9_waysTo_3 rfl (by decide) (ls' := [(3, .int (nI 0)), (2, .int (nI 0)), (0, .ref 58), (1, .int (nI t))]) rfl ?_
  refine q_pk [2, 3, 1, 0] (ls' := [(0, .ref 58), (1, .int (nI t)), (2, .int (nI 0)), (3, .int (nI 0))]) rfl ?_
  exact y9_ways hM hS hc hw ht (psF q).length 0 (by omega)
theorem z9_through (hS : SK σ) (hc : BC q) {n m t : Nat} {l0 l1 : Int32} (h : LKm σ q n m l0 l1) (hn : n < (psS q).length) (ht : t < (psF q).length) (hm : many q t = true → (XL q (psS q).length).getD m 0 = t ∧ (psS q).length + m < 240) : CT g mX9_through 0 0 0 [.ref 58, .int (nI t)] σ (fun r σ' => r = some (.int (nI (thV q t m))) ∧ LKm σ' q n (m + (if many q t = true then 1 else 0)) l0 l1 ∧ FR9 ldq σ σ') := by
  have h40 := hc.2.1
  obtain ⟨h1, h2, h3, h4, h5, -⟩ := id h
  have r1 := (h4 t ht).1
  rw [← nf_lt ht] at r1
  have r2 := h5 t ht
  have hle := cntW_le q t (psF q).length
  unfold thV
  by_cases e : many q t = true
  · obtain ⟨x1, x2⟩ := hm e
    have h2t : 2 ≤ cntW q t (psF q).length := by
      unfold many at e; have := of_decide_eq_true e; omega
    rw [if_pos e, if_pos e]
    have kk := LKm_ow h hn x1
    have fr : FR9 ldq σ (thS σ (960 + ((psS q).length + m)) t (nf q t) ((psS q).length + m)) := thS_f.mono fun a i z => by unfold ldq; omega
    refine CT.of (by decide) (Nat.le_of_ble_eq_true rfl) ?_
    refine q_aload_n dX9_through_0 rfl rfl rfl ?_
    refine q_getr (r := 65) dX9_through_1 fX9_52 rfl (ty_c hS (by decide) rfl) (hS.2 58 13 65 rfl) ?_
    refine q_sipush (v := nI 164) dX9_through_4 rfl ?_
    refine q_iload_n dX9_through_7 rfl rfl ?_
    refine q_iaddN dX9_through_8 ?_
    refine q_iald (x := nI (nf q t)) (j := (164 + t)) dX9_through_9 (ty_c hS (by decide) rfl) (ix_n (by omega) (by omega)) r1 ?_
    refine q_istore_n dX9_through_10 rfl (by decide) (ls' := [(2, .int (nI (nf q t))), (0, .ref 58), (1, .int (nI t))]) rfl ?_
    refine q_aload_n dX9_through_11 rfl rfl rfl ?_
    refine q_getr (r := 87) dX9_through_12 fX9_144 rfl (ty_c hS (by decide) rfl) (hS.2 58 43 87 rfl) ?_
    refine q_iload_n dX9_through_15 rfl rfl ?_
    refine q_iald (x := nI (cntW q t (psF q).length)) (j := t) dX9_through_16 (ty_c hS (by decide) rfl) (ix_n (by omega) (by omega)) r2 ?_
    refine q_iconst (v := nI 2) dX9_through_17 rfl ?_
    refine q_icmp_geN (tgt := 23) dX9_through_18 (by decide) (by omega) (by omega) (fun c18 => ?_) (fun c18 => ?_)
    · skip
      refine q_sipush (v := nI 960) dX9_through_23 rfl ?_
      refine q_aload_n dX9_through_26 rfl rfl rfl ?_
      refine q_getr (r := 62) dX9_through_27 fX9_43 rfl (ty_c hS (by decide) rfl) (hS.2 58 10 62 rfl) ?_
      refine q_iconst (v := nI 4) dX9_through_30 rfl ?_
      refine q_iald (x := nI ((psS q).length + m)) (j := 4) dX9_through_31 (ty_c hS (by decide) rfl) (ix_n (by omega) (by omega)) h2 ?_
      refine q_iaddN dX9_through_32 ?_
      refine q_istore_n dX9_through_33 rfl (by decide) (ls' := [(3, .int (nI (960 + ((psS q).length + m)))), (2, .int (nI (nf q t))), (0, .ref 58), (1, .int (nI t))]) rfl ?_
      refine q_aload_n dX9_through_34 rfl rfl rfl ?_
      refine q_getr (r := 67) dX9_through_35 fX9_58 rfl (ty_c hS (by decide) rfl) (hS.2 58 15 67 rfl) ?_
      refine q_iload_n dX9_through_38 rfl rfl ?_
      refine q_bipush (v := nI 7) dX9_through_39 rfl ?_
      refine q_iast (j := (960 + ((psS q).length + m))) dX9_through_41 (ty_c hS (by decide) rfl) (ix_n (by omega) (by omega)) ?_
      refine q_aload_n dX9_through_42 rfl rfl rfl ?_
      refine q_getr (r := 68) dX9_through_43 fX9_61 rfl (ty_c hS (by decide) rfl) (hS.2 58 16 68 rfl) ?_
      refine q_iload_n dX9_through_46 rfl rfl ?_
      refine q_iload_n dX9_through_47 rfl rfl ?_
      refine q_iast (j := (960 + ((psS q).length + m))) dX9_through_48 (ty_c hS (by decide) rfl) (ix_n (by omega) (by omega)) ?_
      refine q_aload_n dX9_through_49 rfl rfl rfl ?_
      refine q_getr (r := 69) dX9_through_50 fX9_64 rfl (ty_c hS (by decide) rfl) (hS.2 58 17 69 rfl) ?_
      refine q_iload_n dX9_through_53 rfl rfl ?_
      refine q_iconst (v := (-1 : Int32)) dX9_through_54 rfl ?_
      refine q_iast (j := (960 + ((psS q).length + m))) dX9_through_55 (ty_c hS (by decide) rfl) (ix_n (by omega) (by omega)) ?_
      refine q_aload_n dX9_through_56 rfl rfl rfl ?_
      refine q_getr (r := 70) dX9_through_57 fX9_67 rfl (ty_c hS (by decide) rfl) (hS.2 58 18 70 rfl) ?_
      refine q_iload_n dX9_through_60 rfl rfl ?_
      refine q_iconst (v := (-1 : Int32)) dX9_through_61 rfl ?_
      refine q_iast (j := (960 + ((psS q).length + m))) dX9_through_62 (ty_c hS (by decide) rfl) (ix_n (by omega) (by omega)) ?_
      refine q_aload_n dX9_through_63 rfl rfl rfl ?_
      refine q_getr (r := 71) dX9_through_64 fX9_70 rfl (ty_c hS (by decide) rfl) (hS.2 58 19 71 rfl) ?_
      refine q_iload_n dX9_through_67 rfl rfl ?_
      refine q_iload_n dX9_through_68 rfl rfl ?_
      refine q_iast (j := (960 + ((psS q).length + m))) dX9_through_69 (ty_c hS (by decide) rfl) (ix_n (by omega) (by omega)) ?_
      refine q_aload_n dX9_through_70 rfl rfl rfl ?_
      refine q_getr (r := 72) dX9_through_71 fX9_73 rfl (ty_c hS (by decide) rfl) (hS.2 58 20 72 rfl) ?_
      refine q_iload_n dX9_through_74 rfl rfl ?_
      refine q_iconst (v := (-1 : Int32)) dX9_through_75 rfl ?_
      refine q_iast (j := (960 + ((psS q).length + m))) dX9_through_76 (ty_c hS (by decide) rfl) (ix_n (by omega) (by omega)) ?_
      refine q_aload_n dX9_through_77 rfl rfl rfl ?_
      refine q_getr (r := 62) dX9_through_78 fX9_43 rfl (ty_c hS (by decide) rfl) (hS.2 58 10 62 rfl) ?_
      refine q_iconst (v := nI 4) dX9_through_81 rfl ?_
      refine q_dup2 dX9_through_82 rfl rfl ?_
      refine q_iald (x := nI ((psS q).length + m)) (j := 4) dX9_through_83 (ty_c hS (by decide) rfl) (ix_n (by omega) (by omega)) (Eq.trans (rd_off (by decide)) (Eq.trans (rd_off (by decide)) (Eq.trans (rd_off (by decide)) (Eq.trans (rd_off (by decide)) (Eq.trans (rd_off (by decide)) (Eq.trans (rd_off (by decide)) h2)))))) ?_
      refine q_iconst (v := nI 1) dX9_through_84 rfl ?_
      refine q_iaddN dX9_through_85 ?_
      refine q_iast (j := 4) dX9_through_86 (ty_c hS (by decide) rfl) (ix_n (by omega) (by omega)) ?_
      refine q_aload_n dX9_through_87 rfl rfl rfl ?_
      refine q_getr (r := 62) dX9_through_88 fX9_43 rfl (ty_c hS (by decide) rfl) (hS.2 58 10 62 rfl) ?_
      refine q_iconst (v := nI 4) dX9_through_91 rfl ?_
      refine q_iald (x := nI (((psS q).length + m) + 1)) (j := 4) dX9_through_92 (ty_c hS (by decide) rfl) (ix_n (by omega) (by omega)) uI_self ?_
      refine q_iconst (v := nI 1) dX9_through_93 rfl ?_
      refine q_isubN dX9_through_94 (by omega) ?_
      refine q_ireturn dX9_through_95 rfl rfl (by omega) (by omega) ?_
      exact ⟨congrArg (fun n => some (Value.int (nI n))) (by omega), kk, fr⟩
    · exact absurd c18 (by omega)
  · have h2t : cntW q t (psF q).length < 2 := by
      unfold many at e
      have : ¬ 1 < cntW q t (psF q).length := fun z => e (decide_eq_true z)
      omega
    rw [if_neg e, if_neg e]
    refine CT.of (by decide) (Nat.le_of_ble_eq_true rfl) ?_
    refine q_aload_n dX9_through_0 rfl rfl rfl ?_
    refine q_getr (r := 65) dX9_through_1 fX9_52 rfl (ty_c hS (by decide) rfl) (hS.2 58 13 65 rfl) ?_
    refine q_sipush (v := nI 164) dX9_through_4 rfl ?_
    refine q_iload_n dX9_through_7 rfl rfl ?_
    refine q_iaddN dX9_through_8 ?_
    refine q_iald (x := nI (nf q t)) (j := (164 + t)) dX9_through_9 (ty_c hS (by decide) rfl) (ix_n (by omega) (by omega)) r1 ?_
    refine q_istore_n dX9_through_10 rfl (by decide) (ls' := [(2, .int (nI (nf q t))), (0, .ref 58), (1, .int (nI t))]) rfl ?_
    refine q_aload_n dX9_through_11 rfl rfl rfl ?_
    refine q_getr (r := 87) dX9_through_12 fX9_144 rfl (ty_c hS (by decide) rfl) (hS.2 58 43 87 rfl) ?_
    refine q_iload_n dX9_through_15 rfl rfl ?_
    refine q_iald (x := nI (cntW q t (psF q).length)) (j := t) dX9_through_16 (ty_c hS (by decide) rfl) (ix_n (by omega) (by omega)) r2 ?_
    refine q_iconst (v := nI 2) dX9_through_17 rfl ?_
    refine q_icmp_geN (tgt := 23) dX9_through_18 (by decide) (by omega) (by omega) (fun c18 => ?_) (fun c18 => ?_)
    · exact absurd c18 (by omega)
    · skip
      refine q_iload_n dX9_through_21 rfl rfl ?_
      refine q_ireturn dX9_through_22 rfl rfl (by omega) (by omega) ?_
      exact ⟨rfl, h, FR9.rf⟩
end MLD
