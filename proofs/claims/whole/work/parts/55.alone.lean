/-! Class Facts: what is set ahead and taken; ALONE; what is ALIVE. -/
theorem mk_neg {f f2 : Nat → Bool} {k : Nat} (hk : k ≤ 32) : (mkN (fun e => !f e) k = mkN (fun e => !f2 e) k) ↔ (mkN f k = mkN f2 k) := by
  rw [mk_ne hk, mk_ne hk]
  exact ⟨fun h e he => by have := h e he; revert this; cases f e <;> cases f2 e <;> simp, fun h e he => by rw [h e he]⟩
theorem st_p0 {q : PS} {n : Nat} : nI 0 = mkN (fun e => stA q 0 e n) (psM q).length := (mk_0 _).trans (mk_ext fun e _ => by simp [stA])
theorem tk_p0 {q : PS} {n : Nat} : nI 0 = mkN (fun e => tkn q 0 e n) (psM q).length := (mk_0 _).trans (mk_ext fun e _ => by simp [tkn])
section FACT
variable {g : GG} {σ : HS} {b : Nat} {q : PS}
/-- what the placed routine needs -/
def FP (σ : HS) (b : Nat) (q : PS) : Prop := RB σ b ∧ (psM q).length ≤ 32 ∧ NN q ≤ 240 ∧ FA σ (b + 22) q (wk q) ∧ FA σ (b + 26) q (ear q) ∧ FA σ (b + 28) q (lst q) ∧ FA σ (b + 29) q (alo q)
theorem z0_setAhead_0 (hq : FP σ b q) {n : Nat} (hn : n < NN q) : CT g mX0_setAhead 0 0 0 [.ref (b + 21), .int (nI 0), .int (nI n)] σ (PQ σ (.int (mkN (fun e => stA q 0 e n) (psM q).length))) := by
  obtain ⟨hb, hk, hN, f2, f6, f8, f9⟩ := hq
  have g2 := f2 n hn
  have g3 := f6 n hn
  have g4 := f8 n hn
  have g5 := f9 n hn
  have hb14 : b = 14 ∨ 99 ≤ b := by rcases hb.1 with h | ⟨j, h⟩ <;> omega
  refine CT.of (by decide) (Nat.le_of_ble_eq_true rfl) ?_
  refine q_iload_n dX0_setAhead_0 rfl rfl ?_
  refine q_lookNe [1, 2] (tgt := 51) dX0_setAhead_1 (by decide) rfl (by decide) (fun v h1 e => by have e2 := nI_inj (by omega) (by revert v; decide) e; simp at h1; omega) (by decide) ?_
  refine q_iconst (v := nI 0) dX0_setAhead_51 rfl ?_
  refine q_ireturn dX0_setAhead_52 rfl rfl (by omega) (by omega) ?_
  exact ⟨rfl, congrArg (fun z => some (Value.int z)) st_p0⟩
theorem z0_setAhead_1 (hb : RB σ b) (hk : (psM q).length ≤ 32) (hN : NN q ≤ 240) (h1 : FA σ (b + 26) q (ear q)) {n : Nat} (hn : n < NN q) : CT g mX0_setAhead 0 0 0 [.ref (b + 21), .int (nI 1), .int (nI n)] σ (PQ σ (.int (mkN (fun e => stA q 1 e n) (psM q).length))) := by
  have g2 := h1 n hn
  have g3 := h1 n hn
  have hb14 : b = 14 ∨ 99 ≤ b := by rcases hb.1 with h | ⟨j, h⟩ <;> omega
  refine CT.of (by decide) (Nat.le_of_ble_eq_true rfl) ?_
  refine q_iload_n dX0_setAhead_0 rfl rfl ?_
  by_cases w1_1 : 1 = 1
  · refine q_lookEq 1 (tgt := 28) (off := 27) dX0_setAhead_1 (by rw [w1_1]) (by decide) (by decide) rfl (by decide) ?_
    refine q_aload_n dX0_setAhead_28 rfl rfl rfl ?_
    refine q_getr (r := b + 26) dX0_setAhead_29 fX0_24 rfl (ty_r hb 21 rfl) (hb.2.2 21 4 26 rfl) ?_
    refine q_iload_n dX0_setAhead_32 rfl rfl ?_
    refine q_iald (x := mkN (fun e => ear q e n) (psM q).length) (j := n) dX0_setAhead_33 (ty_r hb 26 rfl) (ix_n (by omega) (by omega)) g3 ?_
    refine q_ireturn dX0_setAhead_34 rfl rfl (by omega) (by omega) ?_
    exact ⟨rfl, rfl⟩
  omega
theorem z0_setAhead_2 (hq : FP σ b q) {n : Nat} (hn : n < NN q) : CT g mX0_setAhead 0 0 0 [.ref (b + 21), .int (nI 2), .int (nI n)] σ (PQ σ (.int (mkN (fun e => stA q 2 e n) (psM q).length))) := by
  obtain ⟨hb, hk, hN, f2, f6, f8, f9⟩ := hq
  have g2 := f2 n hn
  have g3 := f6 n hn
  have g4 := f8 n hn
  have g5 := f9 n hn
  have hb14 : b = 14 ∨ 99 ≤ b := by rcases hb.1 with h | ⟨j, h⟩ <;> omega
  refine CT.of (by decide) (Nat.le_of_ble_eq_true rfl) ?_
  refine q_iload_n dX0_setAhead_0 rfl rfl ?_
  by_cases w1_2 : 2 = 2
  · refine q_lookEq 2 (tgt := 35) (off := 34) dX0_setAhead_1 (by rw [w1_2]) (by decide) (by decide) rfl (by decide) ?_
    refine q_aload_n dX0_setAhead_35 rfl rfl rfl ?_
    refine q_getr (r := b + 28) dX0_setAhead_36 fX0_30 rfl (ty_r hb 21 rfl) (hb.2.2 21 6 28 rfl) ?_
    refine q_iload_n dX0_setAhead_39 rfl rfl ?_
    refine q_iald (x := mkN (fun e => lst q e n) (psM q).length) (j := n) dX0_setAhead_40 (ty_r hb 28 rfl) (ix_n (by omega) (by omega)) g4 ?_
    refine q_aload_n dX0_setAhead_41 rfl rfl rfl ?_
    refine q_getr (r := b + 29) dX0_setAhead_42 fX0_33 rfl (ty_r hb 21 rfl) (hb.2.2 21 7 29 rfl) ?_
    refine q_iload_n dX0_setAhead_45 rfl rfl ?_
    refine q_iald (x := mkN (fun e => alo q e n) (psM q).length) (j := n) dX0_setAhead_46 (ty_r hb 29 rfl) (ix_n (by omega) (by omega)) g5 ?_
    refine q_iconst (v := (-1 : Int32)) dX0_setAhead_47 rfl ?_
    refine q_ixor dX0_setAhead_48 ?_
    refine q_iand dX0_setAhead_49 ?_
    refine q_ireturn dX0_setAhead_50 rfl rfl (by omega) (by omega) ?_
    exact ⟨rfl, congrArg (fun z => some (Value.int z)) (by rw [mk_andn hk]; rfl)⟩
  omega
theorem z0_taken_0 (hq : FP σ b q) {n : Nat} (hn : n < NN q) : CT g mX0_taken 0 0 0 [.ref (b + 21), .int (nI 0), .int (nI n)] σ (PQ σ (.int (mkN (fun e => tkn q 0 e n) (psM q).length))) := by
  obtain ⟨hb, hk, hN, f2, f6, f8, f9⟩ := hq
  have g2 := f2 n hn
  have g3 := f6 n hn
  have g4 := f8 n hn
  have g5 := f9 n hn
  have hb14 : b = 14 ∨ 99 ≤ b := by rcases hb.1 with h | ⟨j, h⟩ <;> omega
  refine CT.of (by decide) (Nat.le_of_ble_eq_true rfl) ?_
  refine q_iload_n dX0_taken_0 rfl rfl ?_
  refine q_lookNe [1, 2] (tgt := 58) dX0_taken_1 (by decide) rfl (by decide) (fun v h1 e => by have e2 := nI_inj (by omega) (by revert v; decide) e; simp at h1; omega) (by decide) ?_
  refine q_iconst (v := nI 0) dX0_taken_58 rfl ?_
  refine q_ireturn dX0_taken_59 rfl rfl (by omega) (by omega) ?_
  exact ⟨rfl, congrArg (fun z => some (Value.int z)) tk_p0⟩
theorem z0_taken_1 (hb : RB σ b) (hk : (psM q).length ≤ 32) (hN : NN q ≤ 240) (h1 : FA σ (b + 22) q (wk q)) {n : Nat} (hn : n < NN q) : CT g mX0_taken 0 0 0 [.ref (b + 21), .int (nI 1), .int (nI n)] σ (PQ σ (.int (mkN (fun e => tkn q 1 e n) (psM q).length))) := by
  have g2 := h1 n hn
  have g3 := h1 n hn
  have hb14 : b = 14 ∨ 99 ≤ b := by rcases hb.1 with h | ⟨j, h⟩ <;> omega
  refine CT.of (by decide) (Nat.le_of_ble_eq_true rfl) ?_
  refine q_iload_n dX0_taken_0 rfl rfl ?_
  by_cases w1_1 : 1 = 1
  · refine q_lookEq 1 (tgt := 28) (off := 27) dX0_taken_1 (by rw [w1_1]) (by decide) (by decide) rfl (by decide) ?_
    refine q_aload_n dX0_taken_28 rfl rfl rfl ?_
    refine q_getr (r := b + 22) dX0_taken_29 fX0_9 rfl (ty_r hb 21 rfl) (hb.2.2 21 0 22 rfl) ?_
    refine q_iload_n dX0_taken_32 rfl rfl ?_
    refine q_iald (x := mkN (fun e => wk q e n) (psM q).length) (j := n) dX0_taken_33 (ty_r hb 22 rfl) (ix_n (by omega) (by omega)) g2 ?_
    refine q_ireturn dX0_taken_34 rfl rfl (by omega) (by omega) ?_
    exact ⟨rfl, rfl⟩
  omega
theorem z0_taken_2 (hq : FP σ b q) {n : Nat} (hn : n < NN q) : CT g mX0_taken 0 0 0 [.ref (b + 21), .int (nI 2), .int (nI n)] σ (PQ σ (.int (mkN (fun e => tkn q 2 e n) (psM q).length))) := by
  obtain ⟨hb, hk, hN, f2, f6, f8, f9⟩ := hq
  have g2 := f2 n hn
  have g3 := f6 n hn
  have g4 := f8 n hn
  have g5 := f9 n hn
  have hb14 : b = 14 ∨ 99 ≤ b := by rcases hb.1 with h | ⟨j, h⟩ <;> omega
  refine CT.of (by decide) (Nat.le_of_ble_eq_true rfl) ?_
  refine q_iload_n dX0_taken_0 rfl rfl ?_
  by_cases w1_2 : 2 = 2
  · refine q_lookEq 2 (tgt := 35) (off := 34) dX0_taken_1 (by rw [w1_2]) (by decide) (by decide) rfl (by decide) ?_
    refine q_aload_n dX0_taken_35 rfl rfl rfl ?_
    refine q_getr (r := b + 22) dX0_taken_36 fX0_9 rfl (ty_r hb 21 rfl) (hb.2.2 21 0 22 rfl) ?_
    refine q_iload_n dX0_taken_39 rfl rfl ?_
    refine q_iald (x := mkN (fun e => wk q e n) (psM q).length) (j := n) dX0_taken_40 (ty_r hb 22 rfl) (ix_n (by omega) (by omega)) g2 ?_
    refine q_aload_n dX0_taken_41 rfl rfl rfl ?_
    refine q_getr (r := b + 28) dX0_taken_42 fX0_30 rfl (ty_r hb 21 rfl) (hb.2.2 21 6 28 rfl) ?_
    refine q_iload_n dX0_taken_45 rfl rfl ?_
    refine q_iald (x := mkN (fun e => lst q e n) (psM q).length) (j := n) dX0_taken_46 (ty_r hb 28 rfl) (ix_n (by omega) (by omega)) g4 ?_
    refine q_aload_n dX0_taken_47 rfl rfl rfl ?_
    refine q_getr (r := b + 29) dX0_taken_48 fX0_33 rfl (ty_r hb 21 rfl) (hb.2.2 21 7 29 rfl) ?_
    refine q_iload_n dX0_taken_51 rfl rfl ?_
    refine q_iald (x := mkN (fun e => alo q e n) (psM q).length) (j := n) dX0_taken_52 (ty_r hb 29 rfl) (ix_n (by omega) (by omega)) g5 ?_
    refine q_iand dX0_taken_53 ?_
    refine q_iconst (v := (-1 : Int32)) dX0_taken_54 rfl ?_
    refine q_ixor dX0_taken_55 ?_
    refine q_iand dX0_taken_56 ?_
    refine q_ireturn dX0_taken_57 rfl rfl (by omega) (by omega) ?_
    exact ⟨rfl, congrArg (fun z => some (Value.int z)) (by rw [mk_and hk, mk_andn hk]; rfl)⟩
  omega

end FACT
theorem y0_alone_o {g : GG} {σ0 σ : HS} {b : Nat} {q : PS} (hq0 : FE σ0 b q) (h1 : LX (b + 29) σ0 σ) {Z : List Frame → Array Value → State → State → Prop} {r : Nat} {c : Bool} (h : WA g mX0_findAlone 1 0 0 Z 0 0 15 [(0, .ref (b + 21)), (1, .ref b), (2, .int (bi c)), (3, .int (nI (r + 1)))] [] σ) : WA g mX0_findAlone 1 0 0 Z 0 0 145 [(0, .ref (b + 21)), (1, .ref b), (2, .int (bi c)), (3, .int (nI r))] [] σ := by
  have hb := (hq0.lx (by omega) h1).1
  have hb14 : b = 14 ∨ 99 ≤ b := by rcases hb.1 with h | ⟨j, h⟩ <;> omega
  refine q_iincN (c := 1) dX0_findAlone_145 rfl (by decide) rfl (ls' := [(3, .int (nI (r + 1))), (0, .ref (b + 21)), (1, .ref b), (2, .int (bi c))]) rfl ?_
  refine q_goto (tgt := 15) dX0_findAlone_148 (by decide) ?_
  refine q_pk [1, 2, 3, 0] (ls' := [(0, .ref (b + 21)), (1, .ref b), (2, .int (bi c)), (3, .int (nI (r + 1)))]) rfl ?_
  exact h
theorem y0_alone_in {g : GG} {σ0 : HS} {b : Nat} {q : PS} (hq0 : FE σ0 b q) (hwk0 : FA σ0 (b + 22) q (wk q)) (hls0 : FA σ0 (b + 28) q (lst q)) {Z : List Frame → Array Value → State → State → Prop} {r : Nat} {v0 : Nat → Nat → Bool} (K : ∀ v c σ, LX (b + 29) σ0 σ → FA σ (b + 29) q v → GRW (NN q) (psM q).length (fun e => aoB q e) v0 v 0 c → WA g mX0_findAlone 1 0 0 Z 0 0 145 [(0, .ref (b + 21)), (1, .ref b), (2, .int (bi c)), (3, .int (nI r))] [] σ) : ∀ (m : Nat) (v : Nat → Nat → Bool) (c : Bool) (σ : HS), m ≤ NN q → LX (b + 29) σ0 σ → FA σ (b + 29) q v → GRW (NN q) (psM q).length (fun e => aoB q e) v0 v m c → WA g mX0_findAlone 1 0 0 Z 0 0 37 [(0, .ref (b + 21)), (1, .ref b), (2, .int (bi c)), (3, .int (nI r)), (4, .int (dn m))] [] σ := by
  obtain ⟨hb0, hc, hw, hnb, hx, -⟩ := id hq0
  have hb14 : b = 14 ∨ 99 ≤ b := by rcases hb0.1 with h | ⟨j, h⟩ <;> omega
  have hNN := NN_le hc
  have hk := hq0.k
  have hF : ∀ e, e < (psM q).length → MF (NN q) (fun x n => (fun e => aoB q e) e x n = true) := fun e _ => ao_m hc hw hnb e
  intro m
  induction m with
  | zero =>
    intro v c σ hm h1 h2 h3
    have hq := hq0.lx (by omega) h1
    obtain ⟨hb, -, -, -, -, h14, hs, hall, hr⟩ := id hq
    have hwk := hwk0.lx h1 (by omega)
    have hls := hls0.lx h1 (by omega)
    refine q_iload dX0_findAlone_37 rfl ?_
    refine q_if_lt1 (tgt := 145) dX0_findAlone_39 (by decide) (by decide) ?_
    refine q_pk [0, 1, 2, 3] (ls' := [(0, .ref (b + 21)), (1, .ref b), (2, .int (bi c)), (3, .int (nI r))]) rfl ?_
    exact K v c σ h1 h2 h3
  | succ m ih =>
    intro v c σ hm h1 h2 h3
    have hq := hq0.lx (by omega) h1
    obtain ⟨hb, -, -, -, -, h14, hs, hall, hr⟩ := id hq
    have hwk := hwk0.lx h1 (by omega)
    have hls := hls0.lx h1 (by omega)
    obtain ⟨r1, r3, r7, r12, r13⟩ := hr m (by omega)
    have hl := K_l0 hq (n := m) (by omega)
    have g4 := h2 m (by omega)
    cases l0 : ld q 0 m with
    | none =>
      rw [l0] at r12
      cases l1 : ld q 1 m with
      | none =>
        rw [l1] at r13
        refine q_iload dX0_findAlone_37 rfl ?_
        refine q_if_ltN (tgt := 145) dX0_findAlone_39 (by decide) (by omega) ?_
        refine q_aload_n dX0_findAlone_42 rfl rfl rfl ?_
        refine q_geti (x := mkN (fun _ => true) (psM q).length) dX0_findAlone_43 fX0_54 rfl (ty_r hb 21 rfl) hall ?_
        refine q_istore dX0_findAlone_46 (by decide) (ls' := [(5, .int (mkN (fun _ => true) (psM q).length)), (0, .ref (b + 21)), (1, .ref b), (2, .int (bi c)), (3, .int (nI r)), (4, .int (nI m))]) rfl ?_
        refine q_iconst (v := nI 0) dX0_findAlone_48 rfl ?_
        refine q_istore dX0_findAlone_49 (by decide) (ls' := [(6, .int (nI 0)), (5, .int (mkN (fun _ => true) (psM q).length)), (0, .ref (b + 21)), (1, .ref b), (2, .int (bi c)), (3, .int (nI r)), (4, .int (nI m))]) rfl ?_
        refine q_iload dX0_findAlone_51 rfl ?_
        refine q_iconst (v := nI 2) dX0_findAlone_53 rfl ?_
        refine q_icmp_geN (tgt := 110) dX0_findAlone_54 (by decide) (by omega) (by omega) (fun h => absurd h (by decide)) (fun _ => ?_)
        refine q_aload_n dX0_findAlone_57 rfl rfl rfl ?_
        refine q_getr (r := b + 11) dX0_findAlone_58 fX0_129 rfl (ty_r hb 0 rfl) (hb.2.2 0 6 11 rfl) ?_
        refine q_iload dX0_findAlone_61 rfl ?_
        refine q_aald (r := b + 12) (j := 0) dX0_findAlone_63 (ty_r hb 11 rfl) (Or.inl rfl) (ix_n (by omega) (by omega)) (hb.2.2 11 0 12 rfl) ?_
        refine q_iload dX0_findAlone_64 rfl ?_
        refine q_iald (x := (-1)) (j := m) dX0_findAlone_66 (ty_r hb 12 rfl) (ix_n (by omega) (by omega)) r12 ?_
        refine q_istore dX0_findAlone_67 (by decide) (ls' := [(7, .int (-1)), (6, .int (nI 0)), (5, .int (mkN (fun _ => true) (psM q).length)), (0, .ref (b + 21)), (1, .ref b), (2, .int (bi c)), (3, .int (nI r)), (4, .int (nI m))]) rfl ?_
        refine q_iload dX0_findAlone_69 rfl ?_
        refine q_if_lt1 (tgt := 104) dX0_findAlone_71 (by decide) (by decide) ?_
        refine q_iincN (c := 1) dX0_findAlone_104 rfl (by decide) rfl (ls' := [(6, .int (nI 1)), (7, .int (-1)), (5, .int (mkN (fun _ => true) (psM q).length)), (0, .ref (b + 21)), (1, .ref b), (2, .int (bi c)), (3, .int (nI r)), (4, .int (nI m))]) rfl ?_
        refine q_goto (tgt := 51) dX0_findAlone_107 (by decide) ?_
        refine q_iload dX0_findAlone_51 rfl ?_
        refine q_iconst (v := nI 2) dX0_findAlone_53 rfl ?_
        refine q_icmp_geN (tgt := 110) dX0_findAlone_54 (by decide) (by omega) (by omega) (fun h => absurd h (by decide)) (fun _ => ?_)
        refine q_aload_n dX0_findAlone_57 rfl rfl rfl ?_
        refine q_getr (r := b + 11) dX0_findAlone_58 fX0_129 rfl (ty_r hb 0 rfl) (hb.2.2 0 6 11 rfl) ?_
        refine q_iload dX0_findAlone_61 rfl ?_
        refine q_aald (r := b + 13) (j := 1) dX0_findAlone_63 (ty_r hb 11 rfl) (Or.inl rfl) (ix_n (by omega) (by omega)) (hb.2.2 11 1 13 rfl) ?_
        refine q_iload dX0_findAlone_64 rfl ?_
        refine q_iald (x := (-1)) (j := m) dX0_findAlone_66 (ty_r hb 13 rfl) (ix_n (by omega) (by omega)) r13 ?_
        refine q_istore dX0_findAlone_67 (by decide) (ls' := [(7, .int (-1)), (6, .int (nI 1)), (5, .int (mkN (fun _ => true) (psM q).length)), (0, .ref (b + 21)), (1, .ref b), (2, .int (bi c)), (3, .int (nI r)), (4, .int (nI m))]) rfl ?_
        refine q_iload dX0_findAlone_69 rfl ?_
        refine q_if_lt1 (tgt := 104) dX0_findAlone_71 (by decide) (by decide) ?_
        refine q_iincN (c := 1) dX0_findAlone_104 rfl (by decide) rfl (ls' := [(6, .int (nI 2)), (7, .int (-1)), (5, .int (mkN (fun _ => true) (psM q).length)), (0, .ref (b + 21)), (1, .ref b), (2, .int (bi c)), (3, .int (nI r)), (4, .int (nI m))]) rfl ?_
        refine q_goto (tgt := 51) dX0_findAlone_107 (by decide) ?_
        refine q_iload dX0_findAlone_51 rfl ?_
        refine q_iconst (v := nI 2) dX0_findAlone_53 rfl ?_
        refine q_icmp_geN (tgt := 110) dX0_findAlone_54 (by decide) (by omega) (by omega) (fun _ => ?_) (fun h => absurd h (by decide))
        refine q_iload_n dX0_findAlone_110 rfl rfl ?_
        refine q_iload dX0_findAlone_111 rfl ?_
        refine q_top (y := mkN (fun e => aoB q e (v e) m) (psM q).length) (mk_ext fun e _ => by simp [aoB, alQ, l0, l1]) ?_
        refine q_aload_n dX0_findAlone_113 rfl rfl rfl ?_
        refine q_getr (r := b + 29) dX0_findAlone_114 fX0_33 rfl (ty_r hb 21 rfl) (hb.2.2 21 7 29 rfl) ?_
        refine q_iload dX0_findAlone_117 rfl ?_
        refine q_iald (x := mkN (fun e => v e m) (psM q).length) (j := m) dX0_findAlone_119 (ty_r hb 29 rfl) (ix_n (by omega) (by omega)) g4 ?_
        refine q_icmp_eq (tgt := 127) dX0_findAlone_120 (by decide) (fun c120 => ?_) (fun c120 => ?_)
        · skip
          refine q_iconst (v := nI 0) dX0_findAlone_127 rfl ?_
          refine q_ior dX0_findAlone_128 ?_
          refine q_top (y := bi (c || !decide (mkN (fun e => aoB q e (v e) m) (psM q).length = mkN (fun e => v e m) (psM q).length))) (bi_or0 (by rw [decide_eq_true c120]; rfl)) ?_
          refine q_istore_n dX0_findAlone_129 rfl (by decide) (ls' := [(2, .int (bi (c || !decide (mkN (fun e => aoB q e (v e) m) (psM q).length = mkN (fun e => v e m) (psM q).length)))), (6, .int (nI 2)), (7, .int (-1)), (5, .int (mkN (fun _ => true) (psM q).length)), (0, .ref (b + 21)), (1, .ref b), (3, .int (nI r)), (4, .int (nI m))]) rfl ?_
          refine q_aload_n dX0_findAlone_130 rfl rfl rfl ?_
          refine q_getr (r := b + 29) dX0_findAlone_131 fX0_33 rfl (ty_r hb 21 rfl) (hb.2.2 21 7 29 rfl) ?_
          refine q_iload dX0_findAlone_134 rfl ?_
          refine q_iload dX0_findAlone_136 rfl ?_
          refine q_top (y := mkN (fun e => aoB q e (v e) m) (psM q).length) (mk_ext fun e _ => by simp [aoB, alQ, l0, l1]) ?_
          refine q_iast (j := m) dX0_findAlone_138 (ty_r hb 29 rfl) (ix_n (by omega) (by omega)) ?_
          refine q_iinc (v := dn m) dX0_findAlone_139 rfl (dn_inc m) (by decide) (ls' := [(4, .int (dn m)), (2, .int (bi (c || !decide (mkN (fun e => aoB q e (v e) m) (psM q).length = mkN (fun e => v e m) (psM q).length)))), (6, .int (nI 2)), (7, .int (-1)), (5, .int (mkN (fun _ => true) (psM q).length)), (0, .ref (b + 21)), (1, .ref b), (3, .int (nI r))]) rfl ?_
          refine q_goto (tgt := 37) dX0_findAlone_142 (by decide) ?_
          refine q_pk [5, 6, 1, 7, 0] (ls' := [(0, .ref (b + 21)), (1, .ref b), (2, .int (bi (c || !decide (mkN (fun e => aoB q e (v e) m) (psM q).length = mkN (fun e => v e m) (psM q).length)))), (3, .int (nI r)), (4, .int (dn m))]) rfl ?_
          exact ih _ _ _ (by omega) h1.uI h2.up (GRW_s hF hk (by omega) h3)
        · skip
          refine q_iconst (v := nI 1) dX0_findAlone_123 rfl ?_
          refine q_goto (tgt := 128) dX0_findAlone_124 (by decide) ?_
          refine q_ior dX0_findAlone_128 ?_
          refine q_top (y := bi (c || !decide (mkN (fun e => aoB q e (v e) m) (psM q).length = mkN (fun e => v e m) (psM q).length))) (bi_or1 (by rw [decide_eq_false c120]; rfl)) ?_
          refine q_istore_n dX0_findAlone_129 rfl (by decide) (ls' := [(2, .int (bi (c || !decide (mkN (fun e => aoB q e (v e) m) (psM q).length = mkN (fun e => v e m) (psM q).length)))), (6, .int (nI 2)), (7, .int (-1)), (5, .int (mkN (fun _ => true) (psM q).length)), (0, .ref (b + 21)), (1, .ref b), (3, .int (nI r)), (4, .int (nI m))]) rfl ?_
          refine q_aload_n dX0_findAlone_130 rfl rfl rfl ?_
          refine q_getr (r := b + 29) dX0_findAlone_131 fX0_33 rfl (ty_r hb 21 rfl) (hb.2.2 21 7 29 rfl) ?_
          refine q_iload dX0_findAlone_134 rfl ?_
          refine q_iload dX0_findAlone_136 rfl ?_
          refine q_top (y := mkN (fun e => aoB q e (v e) m) (psM q).length) (mk_ext fun e _ => by simp [aoB, alQ, l0, l1]) ?_
          refine q_iast (j := m) dX0_findAlone_138 (ty_r hb 29 rfl) (ix_n (by omega) (by omega)) ?_
          refine q_iinc (v := dn m) dX0_findAlone_139 rfl (dn_inc m) (by decide) (ls' := [(4, .int (dn m)), (2, .int (bi (c || !decide (mkN (fun e => aoB q e (v e) m) (psM q).length = mkN (fun e => v e m) (psM q).length)))), (6, .int (nI 2)), (7, .int (-1)), (5, .int (mkN (fun _ => true) (psM q).length)), (0, .ref (b + 21)), (1, .ref b), (3, .int (nI r))]) rfl ?_
          refine q_goto (tgt := 37) dX0_findAlone_142 (by decide) ?_
          refine q_pk [5, 6, 1, 7, 0] (ls' := [(0, .ref (b + 21)), (1, .ref b), (2, .int (bi (c || !decide (mkN (fun e => aoB q e (v e) m) (psM q).length = mkN (fun e => v e m) (psM q).length)))), (3, .int (nI r)), (4, .int (dn m))]) rfl ?_
          exact ih _ _ _ (by omega) h1.uI h2.up (GRW_s hF hk (by omega) h3)
      | some v1 =>
        rw [l1] at r13
        have b1 := hl.2 v1 l1
        refine q_iload dX0_findAlone_37 rfl ?_
        refine q_if_ltN (tgt := 145) dX0_findAlone_39 (by decide) (by omega) ?_
        refine q_aload_n dX0_findAlone_42 rfl rfl rfl ?_
        refine q_geti (x := mkN (fun _ => true) (psM q).length) dX0_findAlone_43 fX0_54 rfl (ty_r hb 21 rfl) hall ?_
        refine q_istore dX0_findAlone_46 (by decide) (ls' := [(5, .int (mkN (fun _ => true) (psM q).length)), (0, .ref (b + 21)), (1, .ref b), (2, .int (bi c)), (3, .int (nI r)), (4, .int (nI m))]) rfl ?_
        refine q_iconst (v := nI 0) dX0_findAlone_48 rfl ?_
        refine q_istore dX0_findAlone_49 (by decide) (ls' := [(6, .int (nI 0)), (5, .int (mkN (fun _ => true) (psM q).length)), (0, .ref (b + 21)), (1, .ref b), (2, .int (bi c)), (3, .int (nI r)), (4, .int (nI m))]) rfl ?_
        refine q_iload dX0_findAlone_51 rfl ?_
        refine q_iconst (v := nI 2) dX0_findAlone_53 rfl ?_
        refine q_icmp_geN (tgt := 110) dX0_findAlone_54 (by decide) (by omega) (by omega) (fun h => absurd h (by decide)) (fun _ => ?_)
        refine q_aload_n dX0_findAlone_57 rfl rfl rfl ?_
        refine q_getr (r := b + 11) dX0_findAlone_58 fX0_129 rfl (ty_r hb 0 rfl) (hb.2.2 0 6 11 rfl) ?_
        refine q_iload dX0_findAlone_61 rfl ?_
        refine q_aald (r := b + 12) (j := 0) dX0_findAlone_63 (ty_r hb 11 rfl) (Or.inl rfl) (ix_n (by omega) (by omega)) (hb.2.2 11 0 12 rfl) ?_
        refine q_iload dX0_findAlone_64 rfl ?_
        refine q_iald (x := (-1)) (j := m) dX0_findAlone_66 (ty_r hb 12 rfl) (ix_n (by omega) (by omega)) r12 ?_
        refine q_istore dX0_findAlone_67 (by decide) (ls' := [(7, .int (-1)), (6, .int (nI 0)), (5, .int (mkN (fun _ => true) (psM q).length)), (0, .ref (b + 21)), (1, .ref b), (2, .int (bi c)), (3, .int (nI r)), (4, .int (nI m))]) rfl ?_
        refine q_iload dX0_findAlone_69 rfl ?_
        refine q_if_lt1 (tgt := 104) dX0_findAlone_71 (by decide) (by decide) ?_
        refine q_iincN (c := 1) dX0_findAlone_104 rfl (by decide) rfl (ls' := [(6, .int (nI 1)), (7, .int (-1)), (5, .int (mkN (fun _ => true) (psM q).length)), (0, .ref (b + 21)), (1, .ref b), (2, .int (bi c)), (3, .int (nI r)), (4, .int (nI m))]) rfl ?_
        refine q_goto (tgt := 51) dX0_findAlone_107 (by decide) ?_
        refine q_iload dX0_findAlone_51 rfl ?_
        refine q_iconst (v := nI 2) dX0_findAlone_53 rfl ?_
        refine q_icmp_geN (tgt := 110) dX0_findAlone_54 (by decide) (by omega) (by omega) (fun h => absurd h (by decide)) (fun _ => ?_)
        refine q_aload_n dX0_findAlone_57 rfl rfl rfl ?_
        refine q_getr (r := b + 11) dX0_findAlone_58 fX0_129 rfl (ty_r hb 0 rfl) (hb.2.2 0 6 11 rfl) ?_
        refine q_iload dX0_findAlone_61 rfl ?_
        refine q_aald (r := b + 13) (j := 1) dX0_findAlone_63 (ty_r hb 11 rfl) (Or.inl rfl) (ix_n (by omega) (by omega)) (hb.2.2 11 1 13 rfl) ?_
        refine q_iload dX0_findAlone_64 rfl ?_
        refine q_iald (x := nI v1) (j := m) dX0_findAlone_66 (ty_r hb 13 rfl) (ix_n (by omega) (by omega)) r13 ?_
        refine q_istore dX0_findAlone_67 (by decide) (ls' := [(7, .int (nI v1)), (6, .int (nI 1)), (5, .int (mkN (fun _ => true) (psM q).length)), (0, .ref (b + 21)), (1, .ref b), (2, .int (bi c)), (3, .int (nI r)), (4, .int (nI m))]) rfl ?_
        refine q_iload dX0_findAlone_69 rfl ?_
        refine q_if_ltN (tgt := 104) dX0_findAlone_71 (by decide) (by omega) ?_
        refine q_iload dX0_findAlone_74 rfl ?_
        refine q_aload_n dX0_findAlone_76 rfl rfl rfl ?_
        refine q_getr (r := b + 28) dX0_findAlone_77 fX0_30 rfl (ty_r hb 21 rfl) (hb.2.2 21 6 28 rfl) ?_
        refine q_iload dX0_findAlone_80 rfl ?_
        refine q_iald (x := mkN (fun e => lst q e v1) (psM q).length) (j := v1) dX0_findAlone_82 (ty_r hb 28 rfl) (ix_n (by omega) (by omega)) (hls v1 b1.1) ?_
        refine q_aload_n dX0_findAlone_83 rfl rfl rfl ?_
        refine q_getr (r := b + 22) dX0_findAlone_84 fX0_9 rfl (ty_r hb 21 rfl) (hb.2.2 21 0 22 rfl) ?_
        refine q_iload dX0_findAlone_87 rfl ?_
        refine q_iald (x := mkN (fun e => wk q e v1) (psM q).length) (j := v1) dX0_findAlone_89 (ty_r hb 22 rfl) (ix_n (by omega) (by omega)) (hwk v1 b1.1) ?_
        refine q_iconst (v := (-1 : Int32)) dX0_findAlone_90 rfl ?_
        refine q_ixor dX0_findAlone_91 ?_
        refine q_aload_n dX0_findAlone_92 rfl rfl rfl ?_
        refine q_getr (r := b + 29) dX0_findAlone_93 fX0_33 rfl (ty_r hb 21 rfl) (hb.2.2 21 7 29 rfl) ?_
        refine q_iload dX0_findAlone_96 rfl ?_
        refine q_iald (x := mkN (fun e => v e v1) (psM q).length) (j := v1) dX0_findAlone_98 (ty_r hb 29 rfl) (ix_n (by omega) (by omega)) (h2 v1 b1.1) ?_
        refine q_iand dX0_findAlone_99 ?_
        refine q_ior dX0_findAlone_100 ?_
        refine q_iand dX0_findAlone_101 ?_
        refine q_top (y := mkN (fun e => (lst q e v1 || (!wk q e v1 && v e v1))) (psM q).length) (by rw [mk_nand hk, mk_or hk, mk_and hk] <;> exact mk_ext fun e _ => by simp) ?_
        refine q_istore dX0_findAlone_102 (by decide) (ls' := [(5, .int (mkN (fun e => (lst q e v1 || (!wk q e v1 && v e v1))) (psM q).length)), (7, .int (nI v1)), (6, .int (nI 1)), (0, .ref (b + 21)), (1, .ref b), (2, .int (bi c)), (3, .int (nI r)), (4, .int (nI m))]) rfl ?_
        refine q_iincN (c := 1) dX0_findAlone_104 rfl (by decide) rfl (ls' := [(6, .int (nI 2)), (5, .int (mkN (fun e => (lst q e v1 || (!wk q e v1 && v e v1))) (psM q).length)), (7, .int (nI v1)), (0, .ref (b + 21)), (1, .ref b), (2, .int (bi c)), (3, .int (nI r)), (4, .int (nI m))]) rfl ?_
        refine q_goto (tgt := 51) dX0_findAlone_107 (by decide) ?_
        refine q_iload dX0_findAlone_51 rfl ?_
        refine q_iconst (v := nI 2) dX0_findAlone_53 rfl ?_
        refine q_icmp_geN (tgt := 110) dX0_findAlone_54 (by decide) (by omega) (by omega) (fun _ => ?_) (fun h => absurd h (by decide))
        refine q_iload_n dX0_findAlone_110 rfl rfl ?_
        refine q_iload dX0_findAlone_111 rfl ?_
        refine q_top (y := mkN (fun e => aoB q e (v e) m) (psM q).length) (mk_ext fun e _ => by simp [aoB, alQ, l0, l1]) ?_
        refine q_aload_n dX0_findAlone_113 rfl rfl rfl ?_
        refine q_getr (r := b + 29) dX0_findAlone_114 fX0_33 rfl (ty_r hb 21 rfl) (hb.2.2 21 7 29 rfl) ?_
        refine q_iload dX0_findAlone_117 rfl ?_
        refine q_iald (x := mkN (fun e => v e m) (psM q).length) (j := m) dX0_findAlone_119 (ty_r hb 29 rfl) (ix_n (by omega) (by omega)) g4 ?_
        refine q_icmp_eq (tgt := 127) dX0_findAlone_120 (by decide) (fun c120 => ?_) (fun c120 => ?_)
        · skip
          refine q_iconst (v := nI 0) dX0_findAlone_127 rfl ?_
          refine q_ior dX0_findAlone_128 ?_
          refine q_top (y := bi (c || !decide (mkN (fun e => aoB q e (v e) m) (psM q).length = mkN (fun e => v e m) (psM q).length))) (bi_or0 (by rw [decide_eq_true c120]; rfl)) ?_
          refine q_istore_n dX0_findAlone_129 rfl (by decide) (ls' := [(2, .int (bi (c || !decide (mkN (fun e => aoB q e (v e) m) (psM q).length = mkN (fun e => v e m) (psM q).length)))), (6, .int (nI 2)), (5, .int (mkN (fun e => (lst q e v1 || (!wk q e v1 && v e v1))) (psM q).length)), (7, .int (nI v1)), (0, .ref (b + 21)), (1, .ref b), (3, .int (nI r)), (4, .int (nI m))]) rfl ?_
          refine q_aload_n dX0_findAlone_130 rfl rfl rfl ?_
          refine q_getr (r := b + 29) dX0_findAlone_131 fX0_33 rfl (ty_r hb 21 rfl) (hb.2.2 21 7 29 rfl) ?_
          refine q_iload dX0_findAlone_134 rfl ?_
          refine q_iload dX0_findAlone_136 rfl ?_
          refine q_top (y := mkN (fun e => aoB q e (v e) m) (psM q).length) (mk_ext fun e _ => by simp [aoB, alQ, l0, l1]) ?_
          refine q_iast (j := m) dX0_findAlone_138 (ty_r hb 29 rfl) (ix_n (by omega) (by omega)) ?_
          refine q_iinc (v := dn m) dX0_findAlone_139 rfl (dn_inc m) (by decide) (ls' := [(4, .int (dn m)), (2, .int (bi (c || !decide (mkN (fun e => aoB q e (v e) m) (psM q).length = mkN (fun e => v e m) (psM q).length)))), (6, .int (nI 2)), (5, .int (mkN (fun e => (lst q e v1 || (!wk q e v1 && v e v1))) (psM q).length)), (7, .int (nI v1)), (0, .ref (b + 21)), (1, .ref b), (3, .int (nI r))]) rfl ?_
          refine q_goto (tgt := 37) dX0_findAlone_142 (by decide) ?_
          refine q_pk [5, 6, 1, 7, 0] (ls' := [(0, .ref (b + 21)), (1, .ref b), (2, .int (bi (c || !decide (mkN (fun e => aoB q e (v e) m) (psM q).length = mkN (fun e => v e m) (psM q).length)))), (3, .int (nI r)), (4, .int (dn m))]) rfl ?_
          exact ih _ _ _ (by omega) h1.uI h2.up (GRW_s hF hk (by omega) h3)
        · skip
          refine q_iconst (v := nI 1) dX0_findAlone_123 rfl ?_
          refine q_goto (tgt := 128) dX0_findAlone_124 (by decide) ?_
          refine q_ior dX0_findAlone_128 ?_
          refine q_top (y := bi (c || !decide (mkN (fun e => aoB q e (v e) m) (psM q).length = mkN (fun e => v e m) (psM q).length))) (bi_or1 (by rw [decide_eq_false c120]; rfl)) ?_
          refine q_istore_n dX0_findAlone_129 rfl (by decide) (ls' := [(2, .int (bi (c || !decide (mkN (fun e => aoB q e (v e) m) (psM q).length = mkN (fun e => v e m) (psM q).length)))), (6, .int (nI 2)), (5, .int (mkN (fun e => (lst q e v1 || (!wk q e v1 && v e v1))) (psM q).length)), (7, .int (nI v1)), (0, .ref (b + 21)), (1, .ref b), (3, .int (nI r)), (4, .int (nI m))]) rfl ?_
          refine q_aload_n dX0_findAlone_130 rfl rfl rfl ?_
          refine q_getr (r := b + 29) dX0_findAlone_131 fX0_33 rfl (ty_r hb 21 rfl) (hb.2.2 21 7 29 rfl) ?_
          refine q_iload dX0_findAlone_134 rfl ?_
          refine q_iload dX0_findAlone_136 rfl ?_
          refine q_top (y := mkN (fun e => aoB q e (v e) m) (psM q).length) (mk_ext fun e _ => by simp [aoB, alQ, l0, l1]) ?_
          refine q_iast (j := m) dX0_findAlone_138 (ty_r hb 29 rfl) (ix_n (by omega) (by omega)) ?_
          refine q_iinc (v := dn m) dX0_findAlone_139 rfl (dn_inc m) (by decide) (ls' := [(4, .int (dn m)), (2, .int (bi (c || !decide (mkN (fun e => aoB q e (v e) m) (psM q).length = mkN (fun e => v e m) (psM q).length)))), (6, .int (nI 2)), (5, .int (mkN (fun e => (lst q e v1 || (!wk q e v1 && v e v1))) (psM q).length)), (7, .int (nI v1)), (0, .ref (b + 21)), (1, .ref b), (3, .int (nI r))]) rfl ?_
          refine q_goto (tgt := 37) dX0_findAlone_142 (by decide) ?_
          refine q_pk [5, 6, 1, 7, 0] (ls' := [(0, .ref (b + 21)), (1, .ref b), (2, .int (bi (c || !decide (mkN (fun e => aoB q e (v e) m) (psM q).length = mkN (fun e => v e m) (psM q).length)))), (3, .int (nI r)), (4, .int (dn m))]) rfl ?_
          exact ih _ _ _ (by omega) h1.uI h2.up (GRW_s hF hk (by omega) h3)
    | some v0 =>
      rw [l0] at r12
      have b0 := hl.1 v0 l0
      cases l1 : ld q 1 m with
      | none =>
        rw [l1] at r13
        refine q_iload dX0_findAlone_37 rfl ?_
        refine q_if_ltN (tgt := 145) dX0_findAlone_39 (by decide) (by omega) ?_
        refine q_aload_n dX0_findAlone_42 rfl rfl rfl ?_
        refine q_geti (x := mkN (fun _ => true) (psM q).length) dX0_findAlone_43 fX0_54 rfl (ty_r hb 21 rfl) hall ?_
        refine q_istore dX0_findAlone_46 (by decide) (ls' := [(5, .int (mkN (fun _ => true) (psM q).length)), (0, .ref (b + 21)), (1, .ref b), (2, .int (bi c)), (3, .int (nI r)), (4, .int (nI m))]) rfl ?_
        refine q_iconst (v := nI 0) dX0_findAlone_48 rfl ?_
        refine q_istore dX0_findAlone_49 (by decide) (ls' := [(6, .int (nI 0)), (5, .int (mkN (fun _ => true) (psM q).length)), (0, .ref (b + 21)), (1, .ref b), (2, .int (bi c)), (3, .int (nI r)), (4, .int (nI m))]) rfl ?_
        refine q_iload dX0_findAlone_51 rfl ?_
        refine q_iconst (v := nI 2) dX0_findAlone_53 rfl ?_
        refine q_icmp_geN (tgt := 110) dX0_findAlone_54 (by decide) (by omega) (by omega) (fun h => absurd h (by decide)) (fun _ => ?_)
        refine q_aload_n dX0_findAlone_57 rfl rfl rfl ?_
        refine q_getr (r := b + 11) dX0_findAlone_58 fX0_129 rfl (ty_r hb 0 rfl) (hb.2.2 0 6 11 rfl) ?_
        refine q_iload dX0_findAlone_61 rfl ?_
        refine q_aald (r := b + 12) (j := 0) dX0_findAlone_63 (ty_r hb 11 rfl) (Or.inl rfl) (ix_n (by omega) (by omega)) (hb.2.2 11 0 12 rfl) ?_
        refine q_iload dX0_findAlone_64 rfl ?_
        refine q_iald (x := nI v0) (j := m) dX0_findAlone_66 (ty_r hb 12 rfl) (ix_n (by omega) (by omega)) r12 ?_
        refine q_istore dX0_findAlone_67 (by decide) (ls' := [(7, .int (nI v0)), (6, .int (nI 0)), (5, .int (mkN (fun _ => true) (psM q).length)), (0, .ref (b + 21)), (1, .ref b), (2, .int (bi c)), (3, .int (nI r)), (4, .int (nI m))]) rfl ?_
        refine q_iload dX0_findAlone_69 rfl ?_
        refine q_if_ltN (tgt := 104) dX0_findAlone_71 (by decide) (by omega) ?_
        refine q_iload dX0_findAlone_74 rfl ?_
        refine q_aload_n dX0_findAlone_76 rfl rfl rfl ?_
        refine q_getr (r := b + 28) dX0_findAlone_77 fX0_30 rfl (ty_r hb 21 rfl) (hb.2.2 21 6 28 rfl) ?_
        refine q_iload dX0_findAlone_80 rfl ?_
        refine q_iald (x := mkN (fun e => lst q e v0) (psM q).length) (j := v0) dX0_findAlone_82 (ty_r hb 28 rfl) (ix_n (by omega) (by omega)) (hls v0 b0.1) ?_
        refine q_aload_n dX0_findAlone_83 rfl rfl rfl ?_
        refine q_getr (r := b + 22) dX0_findAlone_84 fX0_9 rfl (ty_r hb 21 rfl) (hb.2.2 21 0 22 rfl) ?_
        refine q_iload dX0_findAlone_87 rfl ?_
        refine q_iald (x := mkN (fun e => wk q e v0) (psM q).length) (j := v0) dX0_findAlone_89 (ty_r hb 22 rfl) (ix_n (by omega) (by omega)) (hwk v0 b0.1) ?_
        refine q_iconst (v := (-1 : Int32)) dX0_findAlone_90 rfl ?_
        refine q_ixor dX0_findAlone_91 ?_
        refine q_aload_n dX0_findAlone_92 rfl rfl rfl ?_
        refine q_getr (r := b + 29) dX0_findAlone_93 fX0_33 rfl (ty_r hb 21 rfl) (hb.2.2 21 7 29 rfl) ?_
        refine q_iload dX0_findAlone_96 rfl ?_
        refine q_iald (x := mkN (fun e => v e v0) (psM q).length) (j := v0) dX0_findAlone_98 (ty_r hb 29 rfl) (ix_n (by omega) (by omega)) (h2 v0 b0.1) ?_
        refine q_iand dX0_findAlone_99 ?_
        refine q_ior dX0_findAlone_100 ?_
        refine q_iand dX0_findAlone_101 ?_
        refine q_top (y := mkN (fun e => (lst q e v0 || (!wk q e v0 && v e v0))) (psM q).length) (by rw [mk_nand hk, mk_or hk, mk_and hk] <;> exact mk_ext fun e _ => by simp) ?_
        refine q_istore dX0_findAlone_102 (by decide) (ls' := [(5, .int (mkN (fun e => (lst q e v0 || (!wk q e v0 && v e v0))) (psM q).length)), (7, .int (nI v0)), (6, .int (nI 0)), (0, .ref (b + 21)), (1, .ref b), (2, .int (bi c)), (3, .int (nI r)), (4, .int (nI m))]) rfl ?_
        refine q_iincN (c := 1) dX0_findAlone_104 rfl (by decide) rfl (ls' := [(6, .int (nI 1)), (5, .int (mkN (fun e => (lst q e v0 || (!wk q e v0 && v e v0))) (psM q).length)), (7, .int (nI v0)), (0, .ref (b + 21)), (1, .ref b), (2, .int (bi c)), (3, .int (nI r)), (4, .int (nI m))]) rfl ?_
        refine q_goto (tgt := 51) dX0_findAlone_107 (by decide) ?_
        refine q_iload dX0_findAlone_51 rfl ?_
        refine q_iconst (v := nI 2) dX0_findAlone_53 rfl ?_
        refine q_icmp_geN (tgt := 110) dX0_findAlone_54 (by decide) (by omega) (by omega) (fun h => absurd h (by decide)) (fun _ => ?_)
        refine q_aload_n dX0_findAlone_57 rfl rfl rfl ?_
        refine q_getr (r := b + 11) dX0_findAlone_58 fX0_129 rfl (ty_r hb 0 rfl) (hb.2.2 0 6 11 rfl) ?_
        refine q_iload dX0_findAlone_61 rfl ?_
        refine q_aald (r := b + 13) (j := 1) dX0_findAlone_63 (ty_r hb 11 rfl) (Or.inl rfl) (ix_n (by omega) (by omega)) (hb.2.2 11 1 13 rfl) ?_
        refine q_iload dX0_findAlone_64 rfl ?_
        refine q_iald (x := (-1)) (j := m) dX0_findAlone_66 (ty_r hb 13 rfl) (ix_n (by omega) (by omega)) r13 ?_
        refine q_istore dX0_findAlone_67 (by decide) (ls' := [(7, .int (-1)), (6, .int (nI 1)), (5, .int (mkN (fun e => (lst q e v0 || (!wk q e v0 && v e v0))) (psM q).length)), (0, .ref (b + 21)), (1, .ref b), (2, .int (bi c)), (3, .int (nI r)), (4, .int (nI m))]) rfl ?_
        refine q_iload dX0_findAlone_69 rfl ?_
        refine q_if_lt1 (tgt := 104) dX0_findAlone_71 (by decide) (by decide) ?_
        refine q_iincN (c := 1) dX0_findAlone_104 rfl (by decide) rfl (ls' := [(6, .int (nI 2)), (7, .int (-1)), (5, .int (mkN (fun e => (lst q e v0 || (!wk q e v0 && v e v0))) (psM q).length)), (0, .ref (b + 21)), (1, .ref b), (2, .int (bi c)), (3, .int (nI r)), (4, .int (nI m))]) rfl ?_
        refine q_goto (tgt := 51) dX0_findAlone_107 (by decide) ?_
        refine q_iload dX0_findAlone_51 rfl ?_
        refine q_iconst (v := nI 2) dX0_findAlone_53 rfl ?_
        refine q_icmp_geN (tgt := 110) dX0_findAlone_54 (by decide) (by omega) (by omega) (fun _ => ?_) (fun h => absurd h (by decide))
        refine q_iload_n dX0_findAlone_110 rfl rfl ?_
        refine q_iload dX0_findAlone_111 rfl ?_
        refine q_top (y := mkN (fun e => aoB q e (v e) m) (psM q).length) (mk_ext fun e _ => by simp [aoB, alQ, l0, l1]) ?_
        refine q_aload_n dX0_findAlone_113 rfl rfl rfl ?_
        refine q_getr (r := b + 29) dX0_findAlone_114 fX0_33 rfl (ty_r hb 21 rfl) (hb.2.2 21 7 29 rfl) ?_
        refine q_iload dX0_findAlone_117 rfl ?_
        refine q_iald (x := mkN (fun e => v e m) (psM q).length) (j := m) dX0_findAlone_119 (ty_r hb 29 rfl) (ix_n (by omega) (by omega)) g4 ?_
        refine q_icmp_eq (tgt := 127) dX0_findAlone_120 (by decide) (fun c120 => ?_) (fun c120 => ?_)
        · skip
          refine q_iconst (v := nI 0) dX0_findAlone_127 rfl ?_
          refine q_ior dX0_findAlone_128 ?_
          refine q_top (y := bi (c || !decide (mkN (fun e => aoB q e (v e) m) (psM q).length = mkN (fun e => v e m) (psM q).length))) (bi_or0 (by rw [decide_eq_true c120]; rfl)) ?_
          refine q_istore_n dX0_findAlone_129 rfl (by decide) (ls' := [(2, .int (bi (c || !decide (mkN (fun e => aoB q e (v e) m) (psM q).length = mkN (fun e => v e m) (psM q).length)))), (6, .int (nI 2)), (7, .int (-1)), (5, .int (mkN (fun e => (lst q e v0 || (!wk q e v0 && v e v0))) (psM q).length)), (0, .ref (b + 21)), (1, .ref b), (3, .int (nI r)), (4, .int (nI m))]) rfl ?_
          refine q_aload_n dX0_findAlone_130 rfl rfl rfl ?_
          refine q_getr (r := b + 29) dX0_findAlone_131 fX0_33 rfl (ty_r hb 21 rfl) (hb.2.2 21 7 29 rfl) ?_
          refine q_iload dX0_findAlone_134 rfl ?_
          refine q_iload dX0_findAlone_136 rfl ?_
          refine q_top (y := mkN (fun e => aoB q e (v e) m) (psM q).length) (mk_ext fun e _ => by simp [aoB, alQ, l0, l1]) ?_
          refine q_iast (j := m) dX0_findAlone_138 (ty_r hb 29 rfl) (ix_n (by omega) (by omega)) ?_
          refine q_iinc (v := dn m) dX0_findAlone_139 rfl (dn_inc m) (by decide) (ls' := [(4, .int (dn m)), (2, .int (bi (c || !decide (mkN (fun e => aoB q e (v e) m) (psM q).length = mkN (fun e => v e m) (psM q).length)))), (6, .int (nI 2)), (7, .int (-1)), (5, .int (mkN (fun e => (lst q e v0 || (!wk q e v0 && v e v0))) (psM q).length)), (0, .ref (b + 21)), (1, .ref b), (3, .int (nI r))]) rfl ?_
          refine q_goto (tgt := 37) dX0_findAlone_142 (by decide) ?_
          refine q_pk [5, 6, 1, 7, 0] (ls' := [(0, .ref (b + 21)), (1, .ref b), (2, .int (bi (c || !decide (mkN (fun e => aoB q e (v e) m) (psM q).length = mkN (fun e => v e m) (psM q).length)))), (3, .int (nI r)), (4, .int (dn m))]) rfl ?_
          exact ih _ _ _ (by omega) h1.uI h2.up (GRW_s hF hk (by omega) h3)
        · skip
          refine q_iconst (v := nI 1) dX0_findAlone_123 rfl ?_
          refine q_goto (tgt := 128) dX0_findAlone_124 (by decide) ?_
          refine q_ior dX0_findAlone_128 ?_
          refine q_top (y := bi (c || !decide (mkN (fun e => aoB q e (v e) m) (psM q).length = mkN (fun e => v e m) (psM q).length))) (bi_or1 (by rw [decide_eq_false c120]; rfl)) ?_
          refine q_istore_n dX0_findAlone_129 rfl (by decide) (ls' := [(2, .int (bi (c || !decide (mkN (fun e => aoB q e (v e) m) (psM q).length = mkN (fun e => v e m) (psM q).length)))), (6, .int (nI 2)), (7, .int (-1)), (5, .int (mkN (fun e => (lst q e v0 || (!wk q e v0 && v e v0))) (psM q).length)), (0, .ref (b + 21)), (1, .ref b), (3, .int (nI r)), (4, .int (nI m))]) rfl ?_
          refine q_aload_n dX0_findAlone_130 rfl rfl rfl ?_
          refine q_getr (r := b + 29) dX0_findAlone_131 fX0_33 rfl (ty_r hb 21 rfl) (hb.2.2 21 7 29 rfl) ?_
          refine q_iload dX0_findAlone_134 rfl ?_
          refine q_iload dX0_findAlone_136 rfl ?_
          refine q_top (y := mkN (fun e => aoB q e (v e) m) (psM q).length) (mk_ext fun e _ => by simp [aoB, alQ, l0, l1]) ?_
          refine q_iast (j := m) dX0_findAlone_138 (ty_r hb 29 rfl) (ix_n (by omega) (by omega)) ?_
          refine q_iinc (v := dn m) dX0_findAlone_139 rfl (dn_inc m) (by decide) (ls' := [(4, .int (dn m)), (2, .int (bi (c || !decide (mkN (fun e => aoB q e (v e) m) (psM q).length = mkN (fun e => v e m) (psM q).length)))), (6, .int (nI 2)), (7, .int (-1)), (5, .int (mkN (fun e => (lst q e v0 || (!wk q e v0 && v e v0))) (psM q).length)), (0, .ref (b + 21)), (1, .ref b), (3, .int (nI r))]) rfl ?_
          refine q_goto (tgt := 37) dX0_findAlone_142 (by decide) ?_
          refine q_pk [5, 6, 1, 7, 0] (ls' := [(0, .ref (b + 21)), (1, .ref b), (2, .int (bi (c || !decide (mkN (fun e => aoB q e (v e) m) (psM q).length = mkN (fun e => v e m) (psM q).length)))), (3, .int (nI r)), (4, .int (dn m))]) rfl ?_
          exact ih _ _ _ (by omega) h1.uI h2.up (GRW_s hF hk (by omega) h3)
      | some v1 =>
        rw [l1] at r13
        have b1 := hl.2 v1 l1
        have hne : v1 ≠ v0 := fun z => ld_ne hc hw hnb l0 l1 z.symm
        refine q_iload dX0_findAlone_37 rfl ?_
        refine q_if_ltN (tgt := 145) dX0_findAlone_39 (by decide) (by omega) ?_
        refine q_aload_n dX0_findAlone_42 rfl rfl rfl ?_
        refine q_geti (x := mkN (fun _ => true) (psM q).length) dX0_findAlone_43 fX0_54 rfl (ty_r hb 21 rfl) hall ?_
        refine q_istore dX0_findAlone_46 (by decide) (ls' := [(5, .int (mkN (fun _ => true) (psM q).length)), (0, .ref (b + 21)), (1, .ref b), (2, .int (bi c)), (3, .int (nI r)), (4, .int (nI m))]) rfl ?_
        refine q_iconst (v := nI 0) dX0_findAlone_48 rfl ?_
        refine q_istore dX0_findAlone_49 (by decide) (ls' := [(6, .int (nI 0)), (5, .int (mkN (fun _ => true) (psM q).length)), (0, .ref (b + 21)), (1, .ref b), (2, .int (bi c)), (3, .int (nI r)), (4, .int (nI m))]) rfl ?_
        refine q_iload dX0_findAlone_51 rfl ?_
        refine q_iconst (v := nI 2) dX0_findAlone_53 rfl ?_
        refine q_icmp_geN (tgt := 110) dX0_findAlone_54 (by decide) (by omega) (by omega) (fun h => absurd h (by decide)) (fun _ => ?_)
        refine q_aload_n dX0_findAlone_57 rfl rfl rfl ?_
        refine q_getr (r := b + 11) dX0_findAlone_58 fX0_129 rfl (ty_r hb 0 rfl) (hb.2.2 0 6 11 rfl) ?_
        refine q_iload dX0_findAlone_61 rfl ?_
        refine q_aald (r := b + 12) (j := 0) dX0_findAlone_63 (ty_r hb 11 rfl) (Or.inl rfl) (ix_n (by omega) (by omega)) (hb.2.2 11 0 12 rfl) ?_
        refine q_iload dX0_findAlone_64 rfl ?_
        refine q_iald (x := nI v0) (j := m) dX0_findAlone_66 (ty_r hb 12 rfl) (ix_n (by omega) (by omega)) r12 ?_
        refine q_istore dX0_findAlone_67 (by decide) (ls' := [(7, .int (nI v0)), (6, .int (nI 0)), (5, .int (mkN (fun _ => true) (psM q).length)), (0, .ref (b + 21)), (1, .ref b), (2, .int (bi c)), (3, .int (nI r)), (4, .int (nI m))]) rfl ?_
        refine q_iload dX0_findAlone_69 rfl ?_
        refine q_if_ltN (tgt := 104) dX0_findAlone_71 (by decide) (by omega) ?_
        refine q_iload dX0_findAlone_74 rfl ?_
        refine q_aload_n dX0_findAlone_76 rfl rfl rfl ?_
        refine q_getr (r := b + 28) dX0_findAlone_77 fX0_30 rfl (ty_r hb 21 rfl) (hb.2.2 21 6 28 rfl) ?_
        refine q_iload dX0_findAlone_80 rfl ?_
        refine q_iald (x := mkN (fun e => lst q e v0) (psM q).length) (j := v0) dX0_findAlone_82 (ty_r hb 28 rfl) (ix_n (by omega) (by omega)) (hls v0 b0.1) ?_
        refine q_aload_n dX0_findAlone_83 rfl rfl rfl ?_
        refine q_getr (r := b + 22) dX0_findAlone_84 fX0_9 rfl (ty_r hb 21 rfl) (hb.2.2 21 0 22 rfl) ?_
        refine q_iload dX0_findAlone_87 rfl ?_
        refine q_iald (x := mkN (fun e => wk q e v0) (psM q).length) (j := v0) dX0_findAlone_89 (ty_r hb 22 rfl) (ix_n (by omega) (by omega)) (hwk v0 b0.1) ?_
        refine q_iconst (v := (-1 : Int32)) dX0_findAlone_90 rfl ?_
        refine q_ixor dX0_findAlone_91 ?_
        refine q_aload_n dX0_findAlone_92 rfl rfl rfl ?_
        refine q_getr (r := b + 29) dX0_findAlone_93 fX0_33 rfl (ty_r hb 21 rfl) (hb.2.2 21 7 29 rfl) ?_
        refine q_iload dX0_findAlone_96 rfl ?_
        refine q_iald (x := mkN (fun e => v e v0) (psM q).length) (j := v0) dX0_findAlone_98 (ty_r hb 29 rfl) (ix_n (by omega) (by omega)) (h2 v0 b0.1) ?_
        refine q_iand dX0_findAlone_99 ?_
        refine q_ior dX0_findAlone_100 ?_
        refine q_iand dX0_findAlone_101 ?_
        refine q_top (y := mkN (fun e => (lst q e v0 || (!wk q e v0 && v e v0))) (psM q).length) (by rw [mk_nand hk, mk_or hk, mk_and hk] <;> exact mk_ext fun e _ => by simp) ?_
        refine q_istore dX0_findAlone_102 (by decide) (ls' := [(5, .int (mkN (fun e => (lst q e v0 || (!wk q e v0 && v e v0))) (psM q).length)), (7, .int (nI v0)), (6, .int (nI 0)), (0, .ref (b + 21)), (1, .ref b), (2, .int (bi c)), (3, .int (nI r)), (4, .int (nI m))]) rfl ?_
        refine q_iincN (c := 1) dX0_findAlone_104 rfl (by decide) rfl (ls' := [(6, .int (nI 1)), (5, .int (mkN (fun e => (lst q e v0 || (!wk q e v0 && v e v0))) (psM q).length)), (7, .int (nI v0)), (0, .ref (b + 21)), (1, .ref b), (2, .int (bi c)), (3, .int (nI r)), (4, .int (nI m))]) rfl ?_
        refine q_goto (tgt := 51) dX0_findAlone_107 (by decide) ?_
        refine q_iload dX0_findAlone_51 rfl ?_
        refine q_iconst (v := nI 2) dX0_findAlone_53 rfl ?_
        refine q_icmp_geN (tgt := 110) dX0_findAlone_54 (by decide) (by omega) (by omega) (fun h => absurd h (by decide)) (fun _ => ?_)
        refine q_aload_n dX0_findAlone_57 rfl rfl rfl ?_
        refine q_getr (r := b + 11) dX0_findAlone_58 fX0_129 rfl (ty_r hb 0 rfl) (hb.2.2 0 6 11 rfl) ?_
        refine q_iload dX0_findAlone_61 rfl ?_
        refine q_aald (r := b + 13) (j := 1) dX0_findAlone_63 (ty_r hb 11 rfl) (Or.inl rfl) (ix_n (by omega) (by omega)) (hb.2.2 11 1 13 rfl) ?_
        refine q_iload dX0_findAlone_64 rfl ?_
        refine q_iald (x := nI v1) (j := m) dX0_findAlone_66 (ty_r hb 13 rfl) (ix_n (by omega) (by omega)) r13 ?_
        refine q_istore dX0_findAlone_67 (by decide) (ls' := [(7, .int (nI v1)), (6, .int (nI 1)), (5, .int (mkN (fun e => (lst q e v0 || (!wk q e v0 && v e v0))) (psM q).length)), (0, .ref (b + 21)), (1, .ref b), (2, .int (bi c)), (3, .int (nI r)), (4, .int (nI m))]) rfl ?_
        refine q_iload dX0_findAlone_69 rfl ?_
        refine q_if_ltN (tgt := 104) dX0_findAlone_71 (by decide) (by omega) ?_
        refine q_iload dX0_findAlone_74 rfl ?_
        refine q_aload_n dX0_findAlone_76 rfl rfl rfl ?_
        refine q_getr (r := b + 28) dX0_findAlone_77 fX0_30 rfl (ty_r hb 21 rfl) (hb.2.2 21 6 28 rfl) ?_
        refine q_iload dX0_findAlone_80 rfl ?_
        refine q_iald (x := mkN (fun e => lst q e v1) (psM q).length) (j := v1) dX0_findAlone_82 (ty_r hb 28 rfl) (ix_n (by omega) (by omega)) (hls v1 b1.1) ?_
        refine q_aload_n dX0_findAlone_83 rfl rfl rfl ?_
        refine q_getr (r := b + 22) dX0_findAlone_84 fX0_9 rfl (ty_r hb 21 rfl) (hb.2.2 21 0 22 rfl) ?_
        refine q_iload dX0_findAlone_87 rfl ?_
        refine q_iald (x := mkN (fun e => wk q e v1) (psM q).length) (j := v1) dX0_findAlone_89 (ty_r hb 22 rfl) (ix_n (by omega) (by omega)) (hwk v1 b1.1) ?_
        refine q_iconst (v := (-1 : Int32)) dX0_findAlone_90 rfl ?_
        refine q_ixor dX0_findAlone_91 ?_
        refine q_aload_n dX0_findAlone_92 rfl rfl rfl ?_
        refine q_getr (r := b + 29) dX0_findAlone_93 fX0_33 rfl (ty_r hb 21 rfl) (hb.2.2 21 7 29 rfl) ?_
        refine q_iload dX0_findAlone_96 rfl ?_
        refine q_iald (x := mkN (fun e => v e v1) (psM q).length) (j := v1) dX0_findAlone_98 (ty_r hb 29 rfl) (ix_n (by omega) (by omega)) (h2 v1 b1.1) ?_
        refine q_iand dX0_findAlone_99 ?_
        refine q_ior dX0_findAlone_100 ?_
        refine q_iand dX0_findAlone_101 ?_
        refine q_top (y := mkN (fun e => (lst q e v0 || (!wk q e v0 && v e v0)) && (lst q e v1 || (!wk q e v1 && v e v1))) (psM q).length) (by rw [mk_nand hk, mk_or hk, mk_and hk] <;> exact mk_ext fun e _ => by simp) ?_
        refine q_istore dX0_findAlone_102 (by decide) (ls' := [(5, .int (mkN (fun e => (lst q e v0 || (!wk q e v0 && v e v0)) && (lst q e v1 || (!wk q e v1 && v e v1))) (psM q).length)), (7, .int (nI v1)), (6, .int (nI 1)), (0, .ref (b + 21)), (1, .ref b), (2, .int (bi c)), (3, .int (nI r)), (4, .int (nI m))]) rfl ?_
        refine q_iincN (c := 1) dX0_findAlone_104 rfl (by decide) rfl (ls' := [(6, .int (nI 2)), (5, .int (mkN (fun e => (lst q e v0 || (!wk q e v0 && v e v0)) && (lst q e v1 || (!wk q e v1 && v e v1))) (psM q).length)), (7, .int (nI v1)), (0, .ref (b + 21)), (1, .ref b), (2, .int (bi c)), (3, .int (nI r)), (4, .int (nI m))]) rfl ?_
        refine q_goto (tgt := 51) dX0_findAlone_107 (by decide) ?_
        refine q_iload dX0_findAlone_51 rfl ?_
        refine q_iconst (v := nI 2) dX0_findAlone_53 rfl ?_
        refine q_icmp_geN (tgt := 110) dX0_findAlone_54 (by decide) (by omega) (by omega) (fun _ => ?_) (fun h => absurd h (by decide))
        refine q_iload_n dX0_findAlone_110 rfl rfl ?_
        refine q_iload dX0_findAlone_111 rfl ?_
        refine q_top (y := mkN (fun e => aoB q e (v e) m) (psM q).length) (mk_ext fun e _ => by simp [aoB, alQ, l0, l1]) ?_
        refine q_aload_n dX0_findAlone_113 rfl rfl rfl ?_
        refine q_getr (r := b + 29) dX0_findAlone_114 fX0_33 rfl (ty_r hb 21 rfl) (hb.2.2 21 7 29 rfl) ?_
        refine q_iload dX0_findAlone_117 rfl ?_
        refine q_iald (x := mkN (fun e => v e m) (psM q).length) (j := m) dX0_findAlone_119 (ty_r hb 29 rfl) (ix_n (by omega) (by omega)) g4 ?_
        refine q_icmp_eq (tgt := 127) dX0_findAlone_120 (by decide) (fun c120 => ?_) (fun c120 => ?_)
        · skip
          refine q_iconst (v := nI 0) dX0_findAlone_127 rfl ?_
          refine q_ior dX0_findAlone_128 ?_
          refine q_top (y := bi (c || !decide (mkN (fun e => aoB q e (v e) m) (psM q).length = mkN (fun e => v e m) (psM q).length))) (bi_or0 (by rw [decide_eq_true c120]; rfl)) ?_
          refine q_istore_n dX0_findAlone_129 rfl (by decide) (ls' := [(2, .int (bi (c || !decide (mkN (fun e => aoB q e (v e) m) (psM q).length = mkN (fun e => v e m) (psM q).length)))), (6, .int (nI 2)), (5, .int (mkN (fun e => (lst q e v0 || (!wk q e v0 && v e v0)) && (lst q e v1 || (!wk q e v1 && v e v1))) (psM q).length)), (7, .int (nI v1)), (0, .ref (b + 21)), (1, .ref b), (3, .int (nI r)), (4, .int (nI m))]) rfl ?_
          refine q_aload_n dX0_findAlone_130 rfl rfl rfl ?_
          refine q_getr (r := b + 29) dX0_findAlone_131 fX0_33 rfl (ty_r hb 21 rfl) (hb.2.2 21 7 29 rfl) ?_
          refine q_iload dX0_findAlone_134 rfl ?_
          refine q_iload dX0_findAlone_136 rfl ?_
          refine q_top (y := mkN (fun e => aoB q e (v e) m) (psM q).length) (mk_ext fun e _ => by simp [aoB, alQ, l0, l1]) ?_
          refine q_iast (j := m) dX0_findAlone_138 (ty_r hb 29 rfl) (ix_n (by omega) (by omega)) ?_
          refine q_iinc (v := dn m) dX0_findAlone_139 rfl (dn_inc m) (by decide) (ls' := [(4, .int (dn m)), (2, .int (bi (c || !decide (mkN (fun e => aoB q e (v e) m) (psM q).length = mkN (fun e => v e m) (psM q).length)))), (6, .int (nI 2)), (5, .int (mkN (fun e => (lst q e v0 || (!wk q e v0 && v e v0)) && (lst q e v1 || (!wk q e v1 && v e v1))) (psM q).length)), (7, .int (nI v1)), (0, .ref (b + 21)), (1, .ref b), (3, .int (nI r))]) rfl ?_
          refine q_goto (tgt := 37) dX0_findAlone_142 (by decide) ?_
          refine q_pk [5, 6, 1, 7, 0] (ls' := [(0, .ref (b + 21)), (1, .ref b), (2, .int (bi (c || !decide (mkN (fun e => aoB q e (v e) m) (psM q).length = mkN (fun e => v e m) (psM q).length)))), (3, .int (nI r)), (4, .int (dn m))]) rfl ?_
          exact ih _ _ _ (by omega) h1.uI h2.up (GRW_s hF hk (by omega) h3)
        · skip
          refine q_iconst (v := nI 1) dX0_findAlone_123 rfl ?_
          refine q_goto (tgt := 128) dX0_findAlone_124 (by decide) ?_
          refine q_ior dX0_findAlone_128 ?_
          refine q_top (y := bi (c || !decide (mkN (fun e => aoB q e (v e) m) (psM q).length = mkN (fun e => v e m) (psM q).length))) (bi_or1 (by rw [decide_eq_false c120]; rfl)) ?_
          refine q_istore_n dX0_findAlone_129 rfl (by decide) (ls' := [(2, .int (bi (c || !decide (mkN (fun e => aoB q e (v e) m) (psM q).length = mkN (fun e => v e m) (psM q).length)))), (6, .int (nI 2)), (5, .int (mkN (fun e => (lst q e v0 || (!wk q e v0 && v e v0)) && (lst q e v1 || (!wk q e v1 && v e v1))) (psM q).length)), (7, .int (nI v1)), (0, .ref (b + 21)), (1, .ref b), (3, .int (nI r)), (4, .int (nI m))]) rfl ?_
          refine q_aload_n dX0_findAlone_130 rfl rfl rfl ?_
          refine q_getr (r := b + 29) dX0_findAlone_131 fX0_33 rfl (ty_r hb 21 rfl) (hb.2.2 21 7 29 rfl) ?_
          refine q_iload dX0_findAlone_134 rfl ?_
          refine q_iload dX0_findAlone_136 rfl ?_
          refine q_top (y := mkN (fun e => aoB q e (v e) m) (psM q).length) (mk_ext fun e _ => by simp [aoB, alQ, l0, l1]) ?_
          refine q_iast (j := m) dX0_findAlone_138 (ty_r hb 29 rfl) (ix_n (by omega) (by omega)) ?_
          refine q_iinc (v := dn m) dX0_findAlone_139 rfl (dn_inc m) (by decide) (ls' := [(4, .int (dn m)), (2, .int (bi (c || !decide (mkN (fun e => aoB q e (v e) m) (psM q).length = mkN (fun e => v e m) (psM q).length)))), (6, .int (nI 2)), (5, .int (mkN (fun e => (lst q e v0 || (!wk q e v0 && v e v0)) && (lst q e v1 || (!wk q e v1 && v e v1))) (psM q).length)), (7, .int (nI v1)), (0, .ref (b + 21)), (1, .ref b), (3, .int (nI r))]) rfl ?_
          refine q_goto (tgt := 37) dX0_findAlone_142 (by decide) ?_
          refine q_pk [5, 6, 1, 7, 0] (ls' := [(0, .ref (b + 21)), (1, .ref b), (2, .int (bi (c || !decide (mkN (fun e => aoB q e (v e) m) (psM q).length = mkN (fun e => v e m) (psM q).length)))), (3, .int (nI r)), (4, .int (dn m))]) rfl ?_
          exact ih _ _ _ (by omega) h1.uI h2.up (GRW_s hF hk (by omega) h3)
theorem y0_alone {g : GG} {σ0 : HS} {b : Nat} {q : PS} (hq0 : FE σ0 b q) (hwk0 : FA σ0 (b + 22) q (wk q)) (hls0 : FA σ0 (b + 28) q (lst q)) (hN : 0 < NN q) : ∀ (k r : Nat) (v : Nat → Nat → Bool) (c : Bool) (σ : HS), r + k = NN q + 1 → LX (b + 29) σ0 σ → FA σ (b + 29) q v → GRP (NN q) (psM q).length (fun e => aoB q e) v r c → WA g mX0_findAlone 1 0 0 (ZM g (FQ σ0 (b + 29) q (alo q)) 0 0) 0 0 15 [(0, .ref (b + 21)), (1, .ref b), (2, .int (bi c)), (3, .int (nI r))] [] σ := by
  obtain ⟨hb0, hc, hw, hnb, hx, -⟩ := id hq0
  have hb14 : b = 14 ∨ 99 ≤ b := by rcases hb0.1 with h | ⟨j, h⟩ <;> omega
  have hNN := NN_le hc
  have hk := hq0.k
  have hF : ∀ e, e < (psM q).length → MF (NN q) (fun x n => (fun e => aoB q e) e x n = true) := fun e _ => ao_m hc hw hnb e
  intro k
  induction k with
  | zero =>
    intro r v c σ hm h1 h2 h3
    have hq := hq0.lx (by omega) h1
    obtain ⟨hb, -, -, -, -, h14, hs, hall, hr⟩ := id hq
    have hwk := hwk0.lx h1 (by omega)
    have hls := hls0.lx h1 (by omega)
    refine q_iload_n dX0_findAlone_15 rfl rfl ?_
    refine q_if_eqB (tgt := 151) dX0_findAlone_16 (by decide) (fun c16 => ?_) (fun c16 => ?_)
    · skip
      refine q_return dX0_findAlone_151 rfl (by omega) (by omega) ?_
      first | exact ⟨rfl, h1, h2.eq fun e he n hn => id (GRO_c h3.1 (h3.2.2 c16) e he n hn)⟩ | exact ⟨rfl, h1, h2.eq fun e he n hn => id (GRO_n h3.1 (by omega) e he n hn)⟩
    · skip
      refine q_iload_n dX0_findAlone_19 rfl rfl ?_
      refine q_aload_n dX0_findAlone_20 rfl rfl rfl ?_
      refine q_geti (x := nI (NN q)) dX0_findAlone_21 fX0_58 rfl (ty_r hb 0 rfl) h14 ?_
      refine q_icmp_gtN (tgt := 151) dX0_findAlone_24 (by decide) (by omega) (by omega) (fun c24 => ?_) (fun c24 => ?_)
      · skip
        refine q_return dX0_findAlone_151 rfl (by omega) (by omega) ?_
        first | exact ⟨rfl, h1, h2.eq fun e he n hn => id (GRO_c h3.1 (h3.2.2 c16) e he n hn)⟩ | exact ⟨rfl, h1, h2.eq fun e he n hn => id (GRO_n h3.1 (by omega) e he n hn)⟩
      · exact absurd c24 (by omega)
  | succ k ih =>
    intro r v c σ hm h1 h2 h3
    have hq := hq0.lx (by omega) h1
    obtain ⟨hb, -, -, -, -, h14, hs, hall, hr⟩ := id hq
    have hwk := hwk0.lx h1 (by omega)
    have hls := hls0.lx h1 (by omega)
    refine q_iload_n dX0_findAlone_15 rfl rfl ?_
    refine q_if_eqB (tgt := 151) dX0_findAlone_16 (by decide) (fun c16 => ?_) (fun c16 => ?_)
    · skip
      refine q_return dX0_findAlone_151 rfl (by omega) (by omega) ?_
      first | exact ⟨rfl, h1, h2.eq fun e he n hn => id (GRO_c h3.1 (h3.2.2 c16) e he n hn)⟩ | exact ⟨rfl, h1, h2.eq fun e he n hn => id (GRO_n h3.1 (by omega) e he n hn)⟩
    · skip
      refine q_iload_n dX0_findAlone_19 rfl rfl ?_
      refine q_aload_n dX0_findAlone_20 rfl rfl rfl ?_
      refine q_geti (x := nI (NN q)) dX0_findAlone_21 fX0_58 rfl (ty_r hb 0 rfl) h14 ?_
      refine q_icmp_gtN (tgt := 151) dX0_findAlone_24 (by decide) (by omega) (by omega) (fun c24 => ?_) (fun c24 => ?_)
      · skip
        refine q_return dX0_findAlone_151 rfl (by omega) (by omega) ?_
        first | exact ⟨rfl, h1, h2.eq fun e he n hn => id (GRO_c h3.1 (h3.2.2 c16) e he n hn)⟩ | exact ⟨rfl, h1, h2.eq fun e he n hn => id (GRO_n h3.1 (by omega) e he n hn)⟩
      · skip
        refine q_iconst (v := nI 0) dX0_findAlone_27 rfl ?_
        refine q_istore_n dX0_findAlone_28 rfl (by decide) (ls' := [(2, .int (nI 0)), (0, .ref (b + 21)), (1, .ref b), (3, .int (nI r))]) rfl ?_
        refine q_aload_n dX0_findAlone_29 rfl rfl rfl ?_
        refine q_geti (x := nI (NN q)) dX0_findAlone_30 fX0_58 rfl (ty_r hb 0 rfl) h14 ?_
        refine q_iconst (v := nI 1) dX0_findAlone_33 rfl ?_
        refine q_isubN dX0_findAlone_34 (by omega) ?_
        refine q_top (y := dn (NN q)) ((dn_pos hN).symm) ?_
        refine q_istore dX0_findAlone_35 (by decide) (ls' := [(4, .int (dn (NN q))), (2, .int (nI 0)), (0, .ref (b + 21)), (1, .ref b), (3, .int (nI r))]) rfl ?_
        refine q_pk [2, 3, 1, 4, 0] (ls' := [(0, .ref (b + 21)), (1, .ref b), (2, .int (nI 0)), (3, .int (nI r)), (4, .int (dn (NN q)))]) rfl ?_
        exact y0_alone_in hq0 hwk0 hls0 (fun v2 c2 σ2 a1 a2 a3 => y0_alone_o hq0 a1 (ih (r + 1) v2 c2 σ2 (by omega) a1 a2 (GRP_out hF h3 a3))) (NN q) v false σ (Nat.le_refl _) h1 h2 (GRP_in h3)
theorem z0_alone {g : GG} {σ0 : HS} {b : Nat} {q : PS} (hq0 : FE σ0 b q) (hwk0 : FA σ0 (b + 22) q (wk q)) (hls0 : FA σ0 (b + 28) q (lst q)) (hN : 0 < NN q) : CT g mX0_findAlone 1 0 0 [.ref (b + 21), .ref b] σ0 (FQ σ0 (b + 29) q (alo q)) := by
  obtain ⟨hb0, hc, hw, hnb, hx, -⟩ := id hq0
  have hb14 : b = 14 ∨ 99 ≤ b := by rcases hb0.1 with h | ⟨j, h⟩ <;> omega
  have hNN := NN_le hc
  have hk := hq0.k
  have hF : ∀ e, e < (psM q).length → MF (NN q) (fun x n => (fun e => aoB q e) e x n = true) := fun e _ => ao_m hc hw hnb e
  obtain ⟨-, -, -, -, -, h14, hs, hall, hr⟩ := id hq0
  refine CT.of (by decide) (Nat.le_of_ble_eq_true rfl) ?_
  refine q_aload_n dX0_findAlone_0 rfl rfl rfl ?_
  refine q_getr (r := b + 29) dX0_findAlone_1 fX0_33 rfl (ty_r hb0 21 rfl) (hb0.2.2 21 7 29 rfl) ?_
  refine q_aload_n dX0_findAlone_4 rfl rfl rfl ?_
  refine q_geti (x := mkN (fun _ => true) (psM q).length) dX0_findAlone_5 fX0_54 rfl (ty_r hb0 21 rfl) hall ?_
  refine q_callS (As := [.ref (b + 29), .int (mkN (fun _ => true) (psM q).length)]) (rest := []) dX0_findAlone_8 vX0_115 (zJ7_fill (len := 240) (ty_r hb0 29 rfl) (by decide)) rfl rfl (Nat.le_of_ble_eq_true rfl) (by omega) (by omega) (by omega) (k_s ?_)
  refine q_iconst (v := nI 1) dX0_findAlone_11 rfl ?_
  refine q_top (y := bi true) rfl ?_
  refine q_istore_n dX0_findAlone_12 rfl (by decide) (ls' := [(2, .int (bi true)), (0, .ref (b + 21)), (1, .ref b)]) rfl ?_
  refine q_iconst (v := nI 0) dX0_findAlone_13 rfl ?_
  refine q_istore_n dX0_findAlone_14 rfl (by decide) (ls' := [(3, .int (nI 0)), (2, .int (bi true)), (0, .ref (b + 21)), (1, .ref b)]) rfl ?_
  refine q_pk [2, 3, 1, 0] (ls' := [(0, .ref (b + 21)), (1, .ref b), (2, .int (bi true)), (3, .int (nI 0))]) rfl ?_
  exact y0_alone hq0 hwk0 hls0 hN (NN q + 1) 0 (fun _ _ => true) true _ (by omega) LX.fil (FA.fil hc rfl fun i _ => rfl) (GRP_0 rfl)
theorem y0_alive1_o {g : GG} {σ0 σ : HS} {b : Nat} {q : PS} (hq0 : FE σ0 b q) (h1 : LX (b + 30) σ0 σ) {Z : List Frame → Array Value → State → State → Prop} {r : Nat} {c : Bool} (h : WA g mX0_findAlive 1 0 0 Z 0 0 11 [(0, .ref (b + 21)), (1, .ref b), (2, .int (nI 1)), (3, .ref (b + 30)), (4, .int (bi c)), (5, .int (nI (r + 1)))] [] σ) : WA g mX0_findAlive 1 0 0 Z 0 0 100 [(0, .ref (b + 21)), (1, .ref b), (2, .int (nI 1)), (3, .ref (b + 30)), (4, .int (bi c)), (5, .int (nI r))] [] σ := by
  have hb := (hq0.lx (by omega) h1).1
  have hb14 : b = 14 ∨ 99 ≤ b := by rcases hb.1 with h | ⟨j, h⟩ <;> omega
  refine q_iincN (c := 1) dX0_findAlive_100 rfl (by decide) rfl (ls' := [(5, .int (nI (r + 1))), (0, .ref (b + 21)), (1, .ref b), (2, .int (nI 1)), (3, .ref (b + 30)), (4, .int (bi c))]) rfl ?_
  refine q_goto (tgt := 11) dX0_findAlive_103 (by decide) ?_
  refine q_pk [1, 2, 3, 4, 5, 0] (ls' := [(0, .ref (b + 21)), (1, .ref b), (2, .int (nI 1)), (3, .ref (b + 30)), (4, .int (bi c)), (5, .int (nI (r + 1)))]) rfl ?_
  exact h
theorem y0_alive1_in {g : GG} {σ0 : HS} {b : Nat} {q : PS} (hq0 : FE σ0 b q) (hwk0 : FA σ0 (b + 22) q (wk q)) (hea0 : FA σ0 (b + 26) q (ear q)) {Z : List Frame → Array Value → State → State → Prop} {r : Nat} {v0 : Nat → Nat → Bool} (K : ∀ v c σ, LX (b + 30) σ0 σ → FA σ (b + 30) q (fun e n => !v e n) → GRW (NN q) (psM q).length (fun e => ddB q 1 e) v0 v 0 c → WA g mX0_findAlive 1 0 0 Z 0 0 100 [(0, .ref (b + 21)), (1, .ref b), (2, .int (nI 1)), (3, .ref (b + 30)), (4, .int (bi c)), (5, .int (nI r))] [] σ) : ∀ (m : Nat) (v : Nat → Nat → Bool) (c : Bool) (σ : HS), m ≤ NN q → LX (b + 30) σ0 σ → FA σ (b + 30) q (fun e n => !v e n) → GRW (NN q) (psM q).length (fun e => ddB q 1 e) v0 v m c → WA g mX0_findAlive 1 0 0 Z 0 0 36 [(0, .ref (b + 21)), (1, .ref b), (2, .int (nI 1)), (3, .ref (b + 30)), (4, .int (bi c)), (5, .int (nI r)), (6, .int (dn m))] [] σ := by
  obtain ⟨hb0, hc, hw, hnb, hx, -⟩ := id hq0
  have hb14 : b = 14 ∨ 99 ≤ b := by rcases hb0.1 with h | ⟨j, h⟩ <;> omega
  have hNN := NN_le hc
  have hk := hq0.k
  have hF : ∀ e, e < (psM q).length → MF (NN q) (fun x n => (fun e => ddB q 1 e) e x n = true) := fun e _ => dd_m hc hw hnb 1 e
  intro m
  induction m with
  | zero =>
    intro v c σ hm h1 h2 h3
    have hq := hq0.lx (by omega) h1
    obtain ⟨hb, -, -, -, -, h14, hs, hall, hr⟩ := id hq
    have hwk := hwk0.lx h1 (by omega)
    have hea := hea0.lx h1 (by omega)
    refine q_iload dX0_findAlive_36 rfl ?_
    refine q_if_lt1 (tgt := 100) dX0_findAlive_38 (by decide) (by decide) ?_
    refine q_pk [0, 1, 2, 3, 4, 5] (ls' := [(0, .ref (b + 21)), (1, .ref b), (2, .int (nI 1)), (3, .ref (b + 30)), (4, .int (bi c)), (5, .int (nI r))]) rfl ?_
    exact K v c σ h1 h2 h3
  | succ m ih =>
    intro v c σ hm h1 h2 h3
    have hq := hq0.lx (by omega) h1
    obtain ⟨hb, -, -, -, -, h14, hs, hall, hr⟩ := id hq
    have hwk := hwk0.lx h1 (by omega)
    have hea := hea0.lx h1 (by omega)
    obtain ⟨r1, r3, r7, r12, r13⟩ := hr m (by omega)
    have g4 := h2 m (by omega)
    refine q_iload dX0_findAlive_36 rfl ?_
    refine q_if_ltN (tgt := 100) dX0_findAlive_38 (by decide) (by omega) ?_
    refine q_aload_n dX0_findAlive_41 rfl rfl rfl ?_
    refine q_iload_n dX0_findAlive_42 rfl rfl ?_
    refine q_iload dX0_findAlive_43 rfl ?_
    refine q_callV (As := [.int (nI 1), .int (nI m)]) (rest := []) dX0_findAlive_45 vX0_89 (ty_r hb 21 rfl) ⟨by decide, rfl⟩ (z0_setAhead_1 hb hk hNN hea (by omega)) rfl rfl (Nat.le_of_ble_eq_true rfl) (by omega) (by omega) (by omega) (k_p ?_)
    refine q_iconst (v := (-1 : Int32)) dX0_findAlive_48 rfl ?_
    refine q_ixor dX0_findAlive_49 ?_
    refine q_aload_n dX0_findAlive_50 rfl rfl rfl ?_
    refine q_iload_n dX0_findAlive_51 rfl rfl ?_
    refine q_iload dX0_findAlive_52 rfl ?_
    refine q_callV (As := [.int (nI 1), .int (nI m)]) (rest := [.int ((mkN (fun e => stA q 1 e m) (psM q).length) ^^^ (-1 : Int32))]) dX0_findAlive_54 vX0_93 (ty_r hb 21 rfl) ⟨by decide, rfl⟩ (z0_taken_1 hb hk hNN hwk (by omega)) rfl rfl (Nat.le_of_ble_eq_true rfl) (by omega) (by omega) (by omega) (k_p ?_)
    refine q_aload_n dX0_findAlive_57 rfl rfl rfl ?_
    refine q_aload_n dX0_findAlive_58 rfl rfl rfl ?_
    refine q_aload_n dX0_findAlive_59 rfl rfl rfl ?_
    refine q_iload dX0_findAlive_60 rfl ?_
    refine q_callV (As := [.ref b, .ref (b + 30), .int (nI m)]) (rest := [.int (mkN (fun e => tkn q 1 e m) (psM q).length), .int ((mkN (fun e => stA q 1 e m) (psM q).length) ^^^ (-1 : Int32))]) dX0_findAlive_62 vX0_133 (ty_r hb 21 rfl) ⟨by decide, rfl⟩ (z0_anyNext_30 hq h2 (by omega)) rfl rfl (Nat.le_of_ble_eq_true rfl) (by omega) (by omega) (by omega) (k_p ?_)
    refine q_ior dX0_findAlive_65 ?_
    refine q_iand dX0_findAlive_66 ?_
    refine q_top (y := mkN (fun e => !ddB q 1 e (v e) m) (psM q).length) (by rw [mk_or hk, mk_nand hk]; exact mk_ext fun e _ => by simp [ddB]) ?_
    refine q_istore dX0_findAlive_67 (by decide) (ls' := [(7, .int (mkN (fun e => !ddB q 1 e (v e) m) (psM q).length)), (0, .ref (b + 21)), (1, .ref b), (2, .int (nI 1)), (3, .ref (b + 30)), (4, .int (bi c)), (5, .int (nI r)), (6, .int (nI m))]) rfl ?_
    refine q_iload dX0_findAlive_69 rfl ?_
    refine q_iload dX0_findAlive_71 rfl ?_
    refine q_aload_n dX0_findAlive_73 rfl rfl rfl ?_
    refine q_iload dX0_findAlive_74 rfl ?_
    refine q_iald (x := mkN (fun e => !v e m) (psM q).length) (j := m) dX0_findAlive_76 (ty_r hb 30 rfl) (ix_n (by omega) (by omega)) g4 ?_
    refine q_icmp_eq (tgt := 84) dX0_findAlive_77 (by decide) (fun c77 => ?_) (fun c77 => ?_)
    · skip
      refine q_iconst (v := nI 0) dX0_findAlive_84 rfl ?_
      refine q_ior dX0_findAlive_85 ?_
      refine q_top (y := bi (c || !decide (mkN (fun e => ddB q 1 e (v e) m) (psM q).length = mkN (fun e => v e m) (psM q).length))) (bi_or0 (by rw [decide_eq_true ((mk_neg hk).mp c77)]; rfl)) ?_
      refine q_istore dX0_findAlive_86 (by decide) (ls' := [(4, .int (bi (c || !decide (mkN (fun e => ddB q 1 e (v e) m) (psM q).length = mkN (fun e => v e m) (psM q).length)))), (7, .int (mkN (fun e => !ddB q 1 e (v e) m) (psM q).length)), (0, .ref (b + 21)), (1, .ref b), (2, .int (nI 1)), (3, .ref (b + 30)), (5, .int (nI r)), (6, .int (nI m))]) rfl ?_
      refine q_aload_n dX0_findAlive_88 rfl rfl rfl ?_
      refine q_iload dX0_findAlive_89 rfl ?_
      refine q_iload dX0_findAlive_91 rfl ?_
      refine q_iast (j := m) dX0_findAlive_93 (ty_r hb 30 rfl) (ix_n (by omega) (by omega)) ?_
      refine q_iinc (v := dn m) dX0_findAlive_94 rfl (dn_inc m) (by decide) (ls' := [(6, .int (dn m)), (4, .int (bi (c || !decide (mkN (fun e => ddB q 1 e (v e) m) (psM q).length = mkN (fun e => v e m) (psM q).length)))), (7, .int (mkN (fun e => !ddB q 1 e (v e) m) (psM q).length)), (0, .ref (b + 21)), (1, .ref b), (2, .int (nI 1)), (3, .ref (b + 30)), (5, .int (nI r))]) rfl ?_
      refine q_goto (tgt := 36) dX0_findAlive_97 (by decide) ?_
      refine q_pk [3, 4, 5, 6, 1, 7, 0] (ls' := [(0, .ref (b + 21)), (1, .ref b), (2, .int (nI 1)), (3, .ref (b + 30)), (4, .int (bi (c || !decide (mkN (fun e => ddB q 1 e (v e) m) (psM q).length = mkN (fun e => v e m) (psM q).length)))), (5, .int (nI r)), (6, .int (dn m))]) rfl ?_
      exact ih _ _ _ (by omega) h1.uI (h2.up.eq fun e _ n _ => by unfold up1; split <;> rfl) (GRW_s hF hk (by omega) h3)
    · skip
      refine q_iconst (v := nI 1) dX0_findAlive_80 rfl ?_
      refine q_goto (tgt := 85) dX0_findAlive_81 (by decide) ?_
      refine q_ior dX0_findAlive_85 ?_
      refine q_top (y := bi (c || !decide (mkN (fun e => ddB q 1 e (v e) m) (psM q).length = mkN (fun e => v e m) (psM q).length))) (bi_or1 (by rw [decide_eq_false (fun z => c77 ((mk_neg hk).mpr z))]; rfl)) ?_
      refine q_istore dX0_findAlive_86 (by decide) (ls' := [(4, .int (bi (c || !decide (mkN (fun e => ddB q 1 e (v e) m) (psM q).length = mkN (fun e => v e m) (psM q).length)))), (7, .int (mkN (fun e => !ddB q 1 e (v e) m) (psM q).length)), (0, .ref (b + 21)), (1, .ref b), (2, .int (nI 1)), (3, .ref (b + 30)), (5, .int (nI r)), (6, .int (nI m))]) rfl ?_
      refine q_aload_n dX0_findAlive_88 rfl rfl rfl ?_
      refine q_iload dX0_findAlive_89 rfl ?_
      refine q_iload dX0_findAlive_91 rfl ?_
      refine q_iast (j := m) dX0_findAlive_93 (ty_r hb 30 rfl) (ix_n (by omega) (by omega)) ?_
      refine q_iinc (v := dn m) dX0_findAlive_94 rfl (dn_inc m) (by decide) (ls' := [(6, .int (dn m)), (4, .int (bi (c || !decide (mkN (fun e => ddB q 1 e (v e) m) (psM q).length = mkN (fun e => v e m) (psM q).length)))), (7, .int (mkN (fun e => !ddB q 1 e (v e) m) (psM q).length)), (0, .ref (b + 21)), (1, .ref b), (2, .int (nI 1)), (3, .ref (b + 30)), (5, .int (nI r))]) rfl ?_
      refine q_goto (tgt := 36) dX0_findAlive_97 (by decide) ?_
      refine q_pk [3, 4, 5, 6, 1, 7, 0] (ls' := [(0, .ref (b + 21)), (1, .ref b), (2, .int (nI 1)), (3, .ref (b + 30)), (4, .int (bi (c || !decide (mkN (fun e => ddB q 1 e (v e) m) (psM q).length = mkN (fun e => v e m) (psM q).length)))), (5, .int (nI r)), (6, .int (dn m))]) rfl ?_
      exact ih _ _ _ (by omega) h1.uI (h2.up.eq fun e _ n _ => by unfold up1; split <;> rfl) (GRW_s hF hk (by omega) h3)
theorem y0_alive1 {g : GG} {σ0 : HS} {b : Nat} {q : PS} (hq0 : FE σ0 b q) (hwk0 : FA σ0 (b + 22) q (wk q)) (hea0 : FA σ0 (b + 26) q (ear q)) (hN : 0 < NN q) : ∀ (k r : Nat) (v : Nat → Nat → Bool) (c : Bool) (σ : HS), r + k = NN q + 1 → LX (b + 30) σ0 σ → FA σ (b + 30) q (fun e n => !v e n) → GRP (NN q) (psM q).length (fun e => ddB q 1 e) v r c → WA g mX0_findAlive 1 0 0 (ZM g (FQ σ0 (b + 30) q (alv q 1)) 0 0) 0 0 11 [(0, .ref (b + 21)), (1, .ref b), (2, .int (nI 1)), (3, .ref (b + 30)), (4, .int (bi c)), (5, .int (nI r))] [] σ := by
  obtain ⟨hb0, hc, hw, hnb, hx, -⟩ := id hq0
  have hb14 : b = 14 ∨ 99 ≤ b := by rcases hb0.1 with h | ⟨j, h⟩ <;> omega
  have hNN := NN_le hc
  have hk := hq0.k
  have hF : ∀ e, e < (psM q).length → MF (NN q) (fun x n => (fun e => ddB q 1 e) e x n = true) := fun e _ => dd_m hc hw hnb 1 e
  intro k
  induction k with
  | zero =>
    intro r v c σ hm h1 h2 h3
    have hq := hq0.lx (by omega) h1
    obtain ⟨hb, -, -, -, -, h14, hs, hall, hr⟩ := id hq
    have hwk := hwk0.lx h1 (by omega)
    have hea := hea0.lx h1 (by omega)
    refine q_iload dX0_findAlive_11 rfl ?_
    refine q_if_eqB (tgt := 106) dX0_findAlive_13 (by decide) (fun c13 => ?_) (fun c13 => ?_)
    · skip
      refine q_return dX0_findAlive_106 rfl (by omega) (by omega) ?_
      first | exact ⟨rfl, h1, h2.eq fun e he n hn => congrArg not (GRO_c h3.1 (h3.2.2 c13) e he n hn)⟩ | exact ⟨rfl, h1, h2.eq fun e he n hn => congrArg not (GRO_n h3.1 (by omega) e he n hn)⟩
    · skip
      refine q_iload dX0_findAlive_16 rfl ?_
      refine q_aload_n dX0_findAlive_18 rfl rfl rfl ?_
      refine q_geti (x := nI (NN q)) dX0_findAlive_19 fX0_58 rfl (ty_r hb 0 rfl) h14 ?_
      refine q_icmp_gtN (tgt := 106) dX0_findAlive_22 (by decide) (by omega) (by omega) (fun c22 => ?_) (fun c22 => ?_)
      · skip
        refine q_return dX0_findAlive_106 rfl (by omega) (by omega) ?_
        first | exact ⟨rfl, h1, h2.eq fun e he n hn => congrArg not (GRO_c h3.1 (h3.2.2 c13) e he n hn)⟩ | exact ⟨rfl, h1, h2.eq fun e he n hn => congrArg not (GRO_n h3.1 (by omega) e he n hn)⟩
      · exact absurd c22 (by omega)
  | succ k ih =>
    intro r v c σ hm h1 h2 h3
    have hq := hq0.lx (by omega) h1
    obtain ⟨hb, -, -, -, -, h14, hs, hall, hr⟩ := id hq
    have hwk := hwk0.lx h1 (by omega)
    have hea := hea0.lx h1 (by omega)
    refine q_iload dX0_findAlive_11 rfl ?_
    refine q_if_eqB (tgt := 106) dX0_findAlive_13 (by decide) (fun c13 => ?_) (fun c13 => ?_)
    · skip
      refine q_return dX0_findAlive_106 rfl (by omega) (by omega) ?_
      first | exact ⟨rfl, h1, h2.eq fun e he n hn => congrArg not (GRO_c h3.1 (h3.2.2 c13) e he n hn)⟩ | exact ⟨rfl, h1, h2.eq fun e he n hn => congrArg not (GRO_n h3.1 (by omega) e he n hn)⟩
    · skip
      refine q_iload dX0_findAlive_16 rfl ?_
      refine q_aload_n dX0_findAlive_18 rfl rfl rfl ?_
      refine q_geti (x := nI (NN q)) dX0_findAlive_19 fX0_58 rfl (ty_r hb 0 rfl) h14 ?_
      refine q_icmp_gtN (tgt := 106) dX0_findAlive_22 (by decide) (by omega) (by omega) (fun c22 => ?_) (fun c22 => ?_)
      · skip
        refine q_return dX0_findAlive_106 rfl (by omega) (by omega) ?_
        first | exact ⟨rfl, h1, h2.eq fun e he n hn => congrArg not (GRO_c h3.1 (h3.2.2 c13) e he n hn)⟩ | exact ⟨rfl, h1, h2.eq fun e he n hn => congrArg not (GRO_n h3.1 (by omega) e he n hn)⟩
      · skip
        refine q_iconst (v := nI 0) dX0_findAlive_25 rfl ?_
        refine q_istore dX0_findAlive_26 (by decide) (ls' := [(4, .int (nI 0)), (0, .ref (b + 21)), (1, .ref b), (2, .int (nI 1)), (3, .ref (b + 30)), (5, .int (nI r))]) rfl ?_
        refine q_aload_n dX0_findAlive_28 rfl rfl rfl ?_
        refine q_geti (x := nI (NN q)) dX0_findAlive_29 fX0_58 rfl (ty_r hb 0 rfl) h14 ?_
        refine q_iconst (v := nI 1) dX0_findAlive_32 rfl ?_
        refine q_isubN dX0_findAlive_33 (by omega) ?_
        refine q_top (y := dn (NN q)) ((dn_pos hN).symm) ?_
        refine q_istore dX0_findAlive_34 (by decide) (ls' := [(6, .int (dn (NN q))), (4, .int (nI 0)), (0, .ref (b + 21)), (1, .ref b), (2, .int (nI 1)), (3, .ref (b + 30)), (5, .int (nI r))]) rfl ?_
        refine q_pk [2, 3, 4, 5, 1, 6, 0] (ls' := [(0, .ref (b + 21)), (1, .ref b), (2, .int (nI 1)), (3, .ref (b + 30)), (4, .int (nI 0)), (5, .int (nI r)), (6, .int (dn (NN q)))]) rfl ?_
        exact y0_alive1_in hq0 hwk0 hea0 (fun v2 c2 σ2 a1 a2 a3 => y0_alive1_o hq0 a1 (ih (r + 1) v2 c2 σ2 (by omega) a1 a2 (GRP_out hF h3 a3))) (NN q) v false σ (Nat.le_refl _) h1 h2 (GRP_in h3)
theorem z0_alive1 {g : GG} {σ0 : HS} {b : Nat} {q : PS} (hq0 : FE σ0 b q) (hwk0 : FA σ0 (b + 22) q (wk q)) (hea0 : FA σ0 (b + 26) q (ear q)) (hN : 0 < NN q) : CT g mX0_findAlive 1 0 0 [.ref (b + 21), .ref b, .int (nI 1), .ref (b + 30)] σ0 (FQ σ0 (b + 30) q (alv q 1)) := by
  obtain ⟨hb0, hc, hw, hnb, hx, -⟩ := id hq0
  have hb14 : b = 14 ∨ 99 ≤ b := by rcases hb0.1 with h | ⟨j, h⟩ <;> omega
  have hNN := NN_le hc
  have hk := hq0.k
  have hF : ∀ e, e < (psM q).length → MF (NN q) (fun x n => (fun e => ddB q 1 e) e x n = true) := fun e _ => dd_m hc hw hnb 1 e
  obtain ⟨-, -, -, -, -, h14, hs, hall, hr⟩ := id hq0
  refine CT.of (by decide) (Nat.le_of_ble_eq_true rfl) ?_
  refine q_aload_n dX0_findAlive_0 rfl rfl rfl ?_
  refine q_iconst (v := nI 0) dX0_findAlive_1 rfl ?_
  refine q_callS (As := [.ref (b + 30), .int (nI 0)]) (rest := []) dX0_findAlive_2 vX0_115 (zJ7_fill (len := 240) (ty_r hb0 30 rfl) (by decide)) rfl rfl (Nat.le_of_ble_eq_true rfl) (by omega) (by omega) (by omega) (k_s ?_)
  refine q_iconst (v := nI 1) dX0_findAlive_5 rfl ?_
  refine q_top (y := bi true) rfl ?_
  refine q_istore dX0_findAlive_6 (by decide) (ls' := [(4, .int (bi true)), (0, .ref (b + 21)), (1, .ref b), (2, .int (nI 1)), (3, .ref (b + 30))]) rfl ?_
  refine q_iconst (v := nI 0) dX0_findAlive_8 rfl ?_
  refine q_istore dX0_findAlive_9 (by decide) (ls' := [(5, .int (nI 0)), (4, .int (bi true)), (0, .ref (b + 21)), (1, .ref b), (2, .int (nI 1)), (3, .ref (b + 30))]) rfl ?_
  refine q_pk [2, 3, 4, 5, 1, 0] (ls' := [(0, .ref (b + 21)), (1, .ref b), (2, .int (nI 1)), (3, .ref (b + 30)), (4, .int (bi true)), (5, .int (nI 0))]) rfl ?_
  exact y0_alive1 hq0 hwk0 hea0 hN (NN q + 1) 0 (fun _ _ => true) true _ (by omega) LX.fil (FA.fil hc rfl fun i _ => mk_0 _) (GRP_0 rfl)
theorem y0_alive2_o {g : GG} {σ0 σ : HS} {b : Nat} {q : PS} (hq0 : FE σ0 b q) (h1 : LX (b + 31) σ0 σ) {Z : List Frame → Array Value → State → State → Prop} {r : Nat} {c : Bool} (h : WA g mX0_findAlive 1 0 0 Z 0 0 11 [(0, .ref (b + 21)), (1, .ref b), (2, .int (nI 2)), (3, .ref (b + 31)), (4, .int (bi c)), (5, .int (nI (r + 1)))] [] σ) : WA g mX0_findAlive 1 0 0 Z 0 0 100 [(0, .ref (b + 21)), (1, .ref b), (2, .int (nI 2)), (3, .ref (b + 31)), (4, .int (bi c)), (5, .int (nI r))] [] σ := by
  have hb := (hq0.lx (by omega) h1).1
  have hb14 : b = 14 ∨ 99 ≤ b := by rcases hb.1 with h | ⟨j, h⟩ <;> omega
  refine q_iincN (c := 1) dX0_findAlive_100 rfl (by decide) rfl (ls' := [(5, .int (nI (r + 1))), (0, .ref (b + 21)), (1, .ref b), (2, .int (nI 2)), (3, .ref (b + 31)), (4, .int (bi c))]) rfl ?_
  refine q_goto (tgt := 11) dX0_findAlive_103 (by decide) ?_
  refine q_pk [1, 2, 3, 4, 5, 0] (ls' := [(0, .ref (b + 21)), (1, .ref b), (2, .int (nI 2)), (3, .ref (b + 31)), (4, .int (bi c)), (5, .int (nI (r + 1)))]) rfl ?_
  exact h
theorem y0_alive2_in {g : GG} {σ0 : HS} {b : Nat} {q : PS} (hq0 : FE σ0 b q) (hwk0 : FA σ0 (b + 22) q (wk q)) (hea0 : FA σ0 (b + 26) q (ear q)) (hls0 : FA σ0 (b + 28) q (lst q)) (hao0 : FA σ0 (b + 29) q (alo q)) {Z : List Frame → Array Value → State → State → Prop} {r : Nat} {v0 : Nat → Nat → Bool} (K : ∀ v c σ, LX (b + 31) σ0 σ → FA σ (b + 31) q (fun e n => !v e n) → GRW (NN q) (psM q).length (fun e => ddB q 2 e) v0 v 0 c → WA g mX0_findAlive 1 0 0 Z 0 0 100 [(0, .ref (b + 21)), (1, .ref b), (2, .int (nI 2)), (3, .ref (b + 31)), (4, .int (bi c)), (5, .int (nI r))] [] σ) : ∀ (m : Nat) (v : Nat → Nat → Bool) (c : Bool) (σ : HS), m ≤ NN q → LX (b + 31) σ0 σ → FA σ (b + 31) q (fun e n => !v e n) → GRW (NN q) (psM q).length (fun e => ddB q 2 e) v0 v m c → WA g mX0_findAlive 1 0 0 Z 0 0 36 [(0, .ref (b + 21)), (1, .ref b), (2, .int (nI 2)), (3, .ref (b + 31)), (4, .int (bi c)), (5, .int (nI r)), (6, .int (dn m))] [] σ := by
  obtain ⟨hb0, hc, hw, hnb, hx, -⟩ := id hq0
  have hb14 : b = 14 ∨ 99 ≤ b := by rcases hb0.1 with h | ⟨j, h⟩ <;> omega
  have hNN := NN_le hc
  have hk := hq0.k
  have hF : ∀ e, e < (psM q).length → MF (NN q) (fun x n => (fun e => ddB q 2 e) e x n = true) := fun e _ => dd_m hc hw hnb 2 e
  intro m
  induction m with
  | zero =>
    intro v c σ hm h1 h2 h3
    have hq := hq0.lx (by omega) h1
    obtain ⟨hb, -, -, -, -, h14, hs, hall, hr⟩ := id hq
    have hwk := hwk0.lx h1 (by omega)
    have hea := hea0.lx h1 (by omega)
    have hls := hls0.lx h1 (by omega)
    have hao := hao0.lx h1 (by omega)
    refine q_iload dX0_findAlive_36 rfl ?_
    refine q_if_lt1 (tgt := 100) dX0_findAlive_38 (by decide) (by decide) ?_
    refine q_pk [0, 1, 2, 3, 4, 5] (ls' := [(0, .ref (b + 21)), (1, .ref b), (2, .int (nI 2)), (3, .ref (b + 31)), (4, .int (bi c)), (5, .int (nI r))]) rfl ?_
    exact K v c σ h1 h2 h3
  | succ m ih =>
    intro v c σ hm h1 h2 h3
    have hq := hq0.lx (by omega) h1
    obtain ⟨hb, -, -, -, -, h14, hs, hall, hr⟩ := id hq
    have hwk := hwk0.lx h1 (by omega)
    have hea := hea0.lx h1 (by omega)
    have hls := hls0.lx h1 (by omega)
    have hao := hao0.lx h1 (by omega)
    obtain ⟨r1, r3, r7, r12, r13⟩ := hr m (by omega)
    have g4 := h2 m (by omega)
    refine q_iload dX0_findAlive_36 rfl ?_
    refine q_if_ltN (tgt := 100) dX0_findAlive_38 (by decide) (by omega) ?_
    refine q_aload_n dX0_findAlive_41 rfl rfl rfl ?_
    refine q_iload_n dX0_findAlive_42 rfl rfl ?_
    refine q_iload dX0_findAlive_43 rfl ?_
    refine q_callV (As := [.int (nI 2), .int (nI m)]) (rest := []) dX0_findAlive_45 vX0_89 (ty_r hb 21 rfl) ⟨by decide, rfl⟩ (z0_setAhead_2 ⟨hb, hk, hNN, hwk, hea, hls, hao⟩ (by omega)) rfl rfl (Nat.le_of_ble_eq_true rfl) (by omega) (by omega) (by omega) (k_p ?_)
    refine q_iconst (v := (-1 : Int32)) dX0_findAlive_48 rfl ?_
    refine q_ixor dX0_findAlive_49 ?_
    refine q_aload_n dX0_findAlive_50 rfl rfl rfl ?_
    refine q_iload_n dX0_findAlive_51 rfl rfl ?_
    refine q_iload dX0_findAlive_52 rfl ?_
    refine q_callV (As := [.int (nI 2), .int (nI m)]) (rest := [.int ((mkN (fun e => stA q 2 e m) (psM q).length) ^^^ (-1 : Int32))]) dX0_findAlive_54 vX0_93 (ty_r hb 21 rfl) ⟨by decide, rfl⟩ (z0_taken_2 ⟨hb, hk, hNN, hwk, hea, hls, hao⟩ (by omega)) rfl rfl (Nat.le_of_ble_eq_true rfl) (by omega) (by omega) (by omega) (k_p ?_)
    refine q_aload_n dX0_findAlive_57 rfl rfl rfl ?_
    refine q_aload_n dX0_findAlive_58 rfl rfl rfl ?_
    refine q_aload_n dX0_findAlive_59 rfl rfl rfl ?_
    refine q_iload dX0_findAlive_60 rfl ?_
    refine q_callV (As := [.ref b, .ref (b + 31), .int (nI m)]) (rest := [.int (mkN (fun e => tkn q 2 e m) (psM q).length), .int ((mkN (fun e => stA q 2 e m) (psM q).length) ^^^ (-1 : Int32))]) dX0_findAlive_62 vX0_133 (ty_r hb 21 rfl) ⟨by decide, rfl⟩ (z0_anyNext_31 hq h2 (by omega)) rfl rfl (Nat.le_of_ble_eq_true rfl) (by omega) (by omega) (by omega) (k_p ?_)
    refine q_ior dX0_findAlive_65 ?_
    refine q_iand dX0_findAlive_66 ?_
    refine q_top (y := mkN (fun e => !ddB q 2 e (v e) m) (psM q).length) (by rw [mk_or hk, mk_nand hk]; exact mk_ext fun e _ => by simp [ddB]) ?_
    refine q_istore dX0_findAlive_67 (by decide) (ls' := [(7, .int (mkN (fun e => !ddB q 2 e (v e) m) (psM q).length)), (0, .ref (b + 21)), (1, .ref b), (2, .int (nI 2)), (3, .ref (b + 31)), (4, .int (bi c)), (5, .int (nI r)), (6, .int (nI m))]) rfl ?_
    refine q_iload dX0_findAlive_69 rfl ?_
    refine q_iload dX0_findAlive_71 rfl ?_
    refine q_aload_n dX0_findAlive_73 rfl rfl rfl ?_
    refine q_iload dX0_findAlive_74 rfl ?_
    refine q_iald (x := mkN (fun e => !v e m) (psM q).length) (j := m) dX0_findAlive_76 (ty_r hb 31 rfl) (ix_n (by omega) (by omega)) g4 ?_
    refine q_icmp_eq (tgt := 84) dX0_findAlive_77 (by decide) (fun c77 => ?_) (fun c77 => ?_)
    · skip
      refine q_iconst (v := nI 0) dX0_findAlive_84 rfl ?_
      refine q_ior dX0_findAlive_85 ?_
      refine q_top (y := bi (c || !decide (mkN (fun e => ddB q 2 e (v e) m) (psM q).length = mkN (fun e => v e m) (psM q).length))) (bi_or0 (by rw [decide_eq_true ((mk_neg hk).mp c77)]; rfl)) ?_
      refine q_istore dX0_findAlive_86 (by decide) (ls' := [(4, .int (bi (c || !decide (mkN (fun e => ddB q 2 e (v e) m) (psM q).length = mkN (fun e => v e m) (psM q).length)))), (7, .int (mkN (fun e => !ddB q 2 e (v e) m) (psM q).length)), (0, .ref (b + 21)), (1, .ref b), (2, .int (nI 2)), (3, .ref (b + 31)), (5, .int (nI r)), (6, .int (nI m))]) rfl ?_
      refine q_aload_n dX0_findAlive_88 rfl rfl rfl ?_
      refine q_iload dX0_findAlive_89 rfl ?_
      refine q_iload dX0_findAlive_91 rfl ?_
      refine q_iast (j := m) dX0_findAlive_93 (ty_r hb 31 rfl) (ix_n (by omega) (by omega)) ?_
      refine q_iinc (v := dn m) dX0_findAlive_94 rfl (dn_inc m) (by decide) (ls' := [(6, .int (dn m)), (4, .int (bi (c || !decide (mkN (fun e => ddB q 2 e (v e) m) (psM q).length = mkN (fun e => v e m) (psM q).length)))), (7, .int (mkN (fun e => !ddB q 2 e (v e) m) (psM q).length)), (0, .ref (b + 21)), (1, .ref b), (2, .int (nI 2)), (3, .ref (b + 31)), (5, .int (nI r))]) rfl ?_
      refine q_goto (tgt := 36) dX0_findAlive_97 (by decide) ?_
      refine q_pk [3, 4, 5, 6, 1, 7, 0] (ls' := [(0, .ref (b + 21)), (1, .ref b), (2, .int (nI 2)), (3, .ref (b + 31)), (4, .int (bi (c || !decide (mkN (fun e => ddB q 2 e (v e) m) (psM q).length = mkN (fun e => v e m) (psM q).length)))), (5, .int (nI r)), (6, .int (dn m))]) rfl ?_
      exact ih _ _ _ (by omega) h1.uI (h2.up.eq fun e _ n _ => by unfold up1; split <;> rfl) (GRW_s hF hk (by omega) h3)
    · skip
      refine q_iconst (v := nI 1) dX0_findAlive_80 rfl ?_
      refine q_goto (tgt := 85) dX0_findAlive_81 (by decide) ?_
      refine q_ior dX0_findAlive_85 ?_
      refine q_top (y := bi (c || !decide (mkN (fun e => ddB q 2 e (v e) m) (psM q).length = mkN (fun e => v e m) (psM q).length))) (bi_or1 (by rw [decide_eq_false (fun z => c77 ((mk_neg hk).mpr z))]; rfl)) ?_
      refine q_istore dX0_findAlive_86 (by decide) (ls' := [(4, .int (bi (c || !decide (mkN (fun e => ddB q 2 e (v e) m) (psM q).length = mkN (fun e => v e m) (psM q).length)))), (7, .int (mkN (fun e => !ddB q 2 e (v e) m) (psM q).length)), (0, .ref (b + 21)), (1, .ref b), (2, .int (nI 2)), (3, .ref (b + 31)), (5, .int (nI r)), (6, .int (nI m))]) rfl ?_
      refine q_aload_n dX0_findAlive_88 rfl rfl rfl ?_
      refine q_iload dX0_findAlive_89 rfl ?_
      refine q_iload dX0_findAlive_91 rfl ?_
      refine q_iast (j := m) dX0_findAlive_93 (ty_r hb 31 rfl) (ix_n (by omega) (by omega)) ?_
      refine q_iinc (v := dn m) dX0_findAlive_94 rfl (dn_inc m) (by decide) (ls' := [(6, .int (dn m)), (4, .int (bi (c || !decide (mkN (fun e => ddB q 2 e (v e) m) (psM q).length = mkN (fun e => v e m) (psM q).length)))), (7, .int (mkN (fun e => !ddB q 2 e (v e) m) (psM q).length)), (0, .ref (b + 21)), (1, .ref b), (2, .int (nI 2)), (3, .ref (b + 31)), (5, .int (nI r))]) rfl ?_
      refine q_goto (tgt := 36) dX0_findAlive_97 (by decide) ?_
      refine q_pk [3, 4, 5, 6, 1, 7, 0] (ls' := [(0, .ref (b + 21)), (1, .ref b), (2, .int (nI 2)), (3, .ref (b + 31)), (4, .int (bi (c || !decide (mkN (fun e => ddB q 2 e (v e) m) (psM q).length = mkN (fun e => v e m) (psM q).length)))), (5, .int (nI r)), (6, .int (dn m))]) rfl ?_
      exact ih _ _ _ (by omega) h1.uI (h2.up.eq fun e _ n _ => by unfold up1; split <;> rfl) (GRW_s hF hk (by omega) h3)
theorem y0_alive2 {g : GG} {σ0 : HS} {b : Nat} {q : PS} (hq0 : FE σ0 b q) (hwk0 : FA σ0 (b + 22) q (wk q)) (hea0 : FA σ0 (b + 26) q (ear q)) (hls0 : FA σ0 (b + 28) q (lst q)) (hao0 : FA σ0 (b + 29) q (alo q)) (hN : 0 < NN q) : ∀ (k r : Nat) (v : Nat → Nat → Bool) (c : Bool) (σ : HS), r + k = NN q + 1 → LX (b + 31) σ0 σ → FA σ (b + 31) q (fun e n => !v e n) → GRP (NN q) (psM q).length (fun e => ddB q 2 e) v r c → WA g mX0_findAlive 1 0 0 (ZM g (FQ σ0 (b + 31) q (alv q 2)) 0 0) 0 0 11 [(0, .ref (b + 21)), (1, .ref b), (2, .int (nI 2)), (3, .ref (b + 31)), (4, .int (bi c)), (5, .int (nI r))] [] σ := by
  obtain ⟨hb0, hc, hw, hnb, hx, -⟩ := id hq0
  have hb14 : b = 14 ∨ 99 ≤ b := by rcases hb0.1 with h | ⟨j, h⟩ <;> omega
  have hNN := NN_le hc
  have hk := hq0.k
  have hF : ∀ e, e < (psM q).length → MF (NN q) (fun x n => (fun e => ddB q 2 e) e x n = true) := fun e _ => dd_m hc hw hnb 2 e
  intro k
  induction k with
  | zero =>
    intro r v c σ hm h1 h2 h3
    have hq := hq0.lx (by omega) h1
    obtain ⟨hb, -, -, -, -, h14, hs, hall, hr⟩ := id hq
    have hwk := hwk0.lx h1 (by omega)
    have hea := hea0.lx h1 (by omega)
    have hls := hls0.lx h1 (by omega)
    have hao := hao0.lx h1 (by omega)
    refine q_iload dX0_findAlive_11 rfl ?_
    refine q_if_eqB (tgt := 106) dX0_findAlive_13 (by decide) (fun c13 => ?_) (fun c13 => ?_)
    · skip
      refine q_return dX0_findAlive_106 rfl (by omega) (by omega) ?_
      first | exact ⟨rfl, h1, h2.eq fun e he n hn => congrArg not (GRO_c h3.1 (h3.2.2 c13) e he n hn)⟩ | exact ⟨rfl, h1, h2.eq fun e he n hn => congrArg not (GRO_n h3.1 (by omega) e he n hn)⟩
    · skip
      refine q_iload dX0_findAlive_16 rfl ?_
      refine q_aload_n dX0_findAlive_18 rfl rfl rfl ?_
      refine q_geti (x := nI (NN q)) dX0_findAlive_19 fX0_58 rfl (ty_r hb 0 rfl) h14 ?_
      refine q_icmp_gtN (tgt := 106) dX0_findAlive_22 (by decide) (by omega) (by omega) (fun c22 => ?_) (fun c22 => ?_)
      · skip
        refine q_return dX0_findAlive_106 rfl (by omega) (by omega) ?_
        first | exact ⟨rfl, h1, h2.eq fun e he n hn => congrArg not (GRO_c h3.1 (h3.2.2 c13) e he n hn)⟩ | exact ⟨rfl, h1, h2.eq fun e he n hn => congrArg not (GRO_n h3.1 (by omega) e he n hn)⟩
      · exact absurd c22 (by omega)
  | succ k ih =>
    intro r v c σ hm h1 h2 h3
    have hq := hq0.lx (by omega) h1
    obtain ⟨hb, -, -, -, -, h14, hs, hall, hr⟩ := id hq
    have hwk := hwk0.lx h1 (by omega)
    have hea := hea0.lx h1 (by omega)
    have hls := hls0.lx h1 (by omega)
    have hao := hao0.lx h1 (by omega)
    refine q_iload dX0_findAlive_11 rfl ?_
    refine q_if_eqB (tgt := 106) dX0_findAlive_13 (by decide) (fun c13 => ?_) (fun c13 => ?_)
    · skip
      refine q_return dX0_findAlive_106 rfl (by omega) (by omega) ?_
      first | exact ⟨rfl, h1, h2.eq fun e he n hn => congrArg not (GRO_c h3.1 (h3.2.2 c13) e he n hn)⟩ | exact ⟨rfl, h1, h2.eq fun e he n hn => congrArg not (GRO_n h3.1 (by omega) e he n hn)⟩
    · skip
      refine q_iload dX0_findAlive_16 rfl ?_
      refine q_aload_n dX0_findAlive_18 rfl rfl rfl ?_
      refine q_geti (x := nI (NN q)) dX0_findAlive_19 fX0_58 rfl (ty_r hb 0 rfl) h14 ?_
      refine q_icmp_gtN (tgt := 106) dX0_findAlive_22 (by decide) (by omega) (by omega) (fun c22 => ?_) (fun c22 => ?_)
      · skip
        refine q_return dX0_findAlive_106 rfl (by omega) (by omega) ?_
        first | exact ⟨rfl, h1, h2.eq fun e he n hn => congrArg not (GRO_c h3.1 (h3.2.2 c13) e he n hn)⟩ | exact ⟨rfl, h1, h2.eq fun e he n hn => congrArg not (GRO_n h3.1 (by omega) e he n hn)⟩
      · skip
        refine q_iconst (v := nI 0) dX0_findAlive_25 rfl ?_
        refine q_istore dX0_findAlive_26 (by decide) (ls' := [(4, .int (nI 0)), (0, .ref (b + 21)), (1, .ref b), (2, .int (nI 2)), (3, .ref (b + 31)), (5, .int (nI r))]) rfl ?_
        refine q_aload_n dX0_findAlive_28 rfl rfl rfl ?_
        refine q_geti (x := nI (NN q)) dX0_findAlive_29 fX0_58 rfl (ty_r hb 0 rfl) h14 ?_
        refine q_iconst (v := nI 1) dX0_findAlive_32 rfl ?_
        refine q_isubN dX0_findAlive_33 (by omega) ?_
        refine q_top (y := dn (NN q)) ((dn_pos hN).symm) ?_
        refine q_istore dX0_findAlive_34 (by decide) (ls' := [(6, .int (dn (NN q))), (4, .int (nI 0)), (0, .ref (b + 21)), (1, .ref b), (2, .int (nI 2)), (3, .ref (b + 31)), (5, .int (nI r))]) rfl ?_
        refine q_pk [2, 3, 4, 5, 1, 6, 0] (ls' := [(0, .ref (b + 21)), (1, .ref b), (2, .int (nI 2)), (3, .ref (b + 31)), (4, .int (nI 0)), (5, .int (nI r)), (6, .int (dn (NN q)))]) rfl ?_
        exact y0_alive2_in hq0 hwk0 hea0 hls0 hao0 (fun v2 c2 σ2 a1 a2 a3 => y0_alive2_o hq0 a1 (ih (r + 1) v2 c2 σ2 (by omega) a1 a2 (GRP_out hF h3 a3))) (NN q) v false σ (Nat.le_refl _) h1 h2 (GRP_in h3)
theorem z0_alive2 {g : GG} {σ0 : HS} {b : Nat} {q : PS} (hq0 : FE σ0 b q) (hwk0 : FA σ0 (b + 22) q (wk q)) (hea0 : FA σ0 (b + 26) q (ear q)) (hls0 : FA σ0 (b + 28) q (lst q)) (hao0 : FA σ0 (b + 29) q (alo q)) (hN : 0 < NN q) : CT g mX0_findAlive 1 0 0 [.ref (b + 21), .ref b, .int (nI 2), .ref (b + 31)] σ0 (FQ σ0 (b + 31) q (alv q 2)) := by
  obtain ⟨hb0, hc, hw, hnb, hx, -⟩ := id hq0
  have hb14 : b = 14 ∨ 99 ≤ b := by rcases hb0.1 with h | ⟨j, h⟩ <;> omega
  have hNN := NN_le hc
  have hk := hq0.k
  have hF : ∀ e, e < (psM q).length → MF (NN q) (fun x n => (fun e => ddB q 2 e) e x n = true) := fun e _ => dd_m hc hw hnb 2 e
  obtain ⟨-, -, -, -, -, h14, hs, hall, hr⟩ := id hq0
  refine CT.of (by decide) (Nat.le_of_ble_eq_true rfl) ?_
  refine q_aload_n dX0_findAlive_0 rfl rfl rfl ?_
  refine q_iconst (v := nI 0) dX0_findAlive_1 rfl ?_
  refine q_callS (As := [.ref (b + 31), .int (nI 0)]) (rest := []) dX0_findAlive_2 vX0_115 (zJ7_fill (len := 240) (ty_r hb0 31 rfl) (by decide)) rfl rfl (Nat.le_of_ble_eq_true rfl) (by omega) (by omega) (by omega) (k_s ?_)
  refine q_iconst (v := nI 1) dX0_findAlive_5 rfl ?_
  refine q_top (y := bi true) rfl ?_
  refine q_istore dX0_findAlive_6 (by decide) (ls' := [(4, .int (bi true)), (0, .ref (b + 21)), (1, .ref b), (2, .int (nI 2)), (3, .ref (b + 31))]) rfl ?_
  refine q_iconst (v := nI 0) dX0_findAlive_8 rfl ?_
  refine q_istore dX0_findAlive_9 (by decide) (ls' := [(5, .int (nI 0)), (4, .int (bi true)), (0, .ref (b + 21)), (1, .ref b), (2, .int (nI 2)), (3, .ref (b + 31))]) rfl ?_
  refine q_pk [2, 3, 4, 5, 1, 0] (ls' := [(0, .ref (b + 21)), (1, .ref b), (2, .int (nI 2)), (3, .ref (b + 31)), (4, .int (bi true)), (5, .int (nI 0))]) rfl ?_
  exact y0_alive2 hq0 hwk0 hea0 hls0 hao0 hN (NN q + 1) 0 (fun _ _ => true) true _ (by omega) LX.fil (FA.fil hc rfl fun i _ => mk_0 _) (GRP_0 rfl)

