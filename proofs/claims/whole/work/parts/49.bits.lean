/-! Sets of SUMS as bits. -/
def ib (x : Int32) (i : Nat) : Bool := x.toBitVec.getLsbD i
theorem ib_or (x y : Int32) (i : Nat) : ib (x ||| y) i = (ib x i || ib y i) := by
  unfold ib; rw [Int32.toBitVec_or, BitVec.getLsbD_or]
theorem ib_and (x y : Int32) (i : Nat) : ib (x &&& y) i = (ib x i && ib y i) := by
  unfold ib; rw [Int32.toBitVec_and, BitVec.getLsbD_and]
theorem ib_0 (i : Nat) : ib (nI 0) i = false := by unfold ib; rw [show (nI 0).toBitVec = 0#32 from rfl]; simp
theorem ib_ge {x : Int32} {i : Nat} (h : 32 ≤ i) : ib x i = false := by unfold ib; exact BitVec.getLsbD_of_ge _ _ h
theorem ib_m1 {i : Nat} (h : i < 32) : ib (-1) i = true := by
  have h2 : ∀ k : Fin 32, ib (-1) k.val = true := by decide +kernel
  exact h2 ⟨i, h⟩
theorem ib_not (x : Int32) {i : Nat} (h : i < 32) : ib (x ^^^ (-1)) i = !(ib x i) := by
  have h1 : ib (x ^^^ (-1)) i = (ib x i ^^ ib (-1) i) := by unfold ib; rw [Int32.toBitVec_xor, BitVec.getLsbD_xor]
  rw [h1, ib_m1 h]; cases ib x i <;> rfl
theorem ib_ext {x y : Int32} (h : ∀ i, i < 32 → ib x i = ib y i) : x = y := by
  apply Int32.toBitVec_inj.mp
  apply BitVec.eq_of_getLsbD_eq
  intro i hi
  exact h i hi
def bS (k : Nat) : Int32 := nI 1 <<< (nI k &&& 31)
theorem bS_all : ∀ k : Fin 32, (nI 1 <<< (nI k.val &&& 31)).toBitVec = BitVec.twoPow 32 k.val := by decide +kernel
theorem ib_bS {k : Nat} (hk : k < 32) (i : Nat) : ib (bS k) i = decide (i = k) := by
  unfold ib bS
  rw [bS_all ⟨k, hk⟩, BitVec.getLsbD_twoPow]
  by_cases e : i = k
  · subst e; simp [hk]
  · simp [e]; omega
/-- the first n bits as f has them -/
def mkN (f : Nat → Bool) : Nat → Int32
  | 0 => nI 0
  | n + 1 => mkN f n ||| (if f n = true then bS n else nI 0)
theorem ib_mk {f : Nat → Bool} {i : Nat} : ∀ {n : Nat}, n ≤ 32 → ib (mkN f n) i = (decide (i < n) && f i)
  | 0, _ => by show ib (nI 0) i = _; rw [ib_0]; simp
  | n + 1, h => by
    show ib (mkN f n ||| (if f n = true then bS n else nI 0)) i = _
    rw [ib_or, ib_mk (by omega)]
    by_cases e : f n = true
    · rw [if_pos e, ib_bS (by omega)]
      by_cases q : i = n
      · subst q; simp [e]
      · have : (i < n + 1) = (i < n) := by apply propext; constructor <;> intro <;> omega
        simp [q, this]
    · rw [if_neg e, ib_0, Bool.or_false]
      by_cases q : i = n
      · subst q; simp [Bool.eq_false_iff.mpr e]
      · have : (i < n + 1) = (i < n) := by apply propext; constructor <;> intro <;> omega
        simp [this]
theorem mk_t {f : Nat → Bool} {n : Nat} (h : f n = true) : (mkN f n ||| (nI 1 <<< (nI n &&& 31))) = mkN f (n + 1) := by
  show _ = mkN f n ||| (if f n = true then bS n else nI 0)
  rw [if_pos h]; rfl
theorem mk_f {f : Nat → Bool} {n : Nat} (h : ¬ f n = true) : (mkN f n ||| nI 0) = mkN f (n + 1) := by
  show _ = mkN f n ||| (if f n = true then bS n else nI 0)
  rw [if_neg h]
theorem one_all : ∀ k : Fin 32, nI 1 <<< (nI k.val &&& 31) - nI 1 = mkN (fun _ => true) k.val := by decide +kernel
def ev (n : Nat) : Int32 := mkN (fun _ => true) n
theorem ib_ev {n : Nat} (h : n ≤ 32) (i : Nat) : ib (ev n) i = decide (i < n) := by unfold ev; rw [ib_mk h]; simp
theorem ev_32 : ev 32 = -1 := by decide +kernel
def boldB (x : SUM) : Bool := decide (x.1 = nI 47) || decide (x.1 = nI 114)
def hasN (nm : Nat) (x : SUM) : Bool := decide (x.2.1 = nI (1000000000 + nm)) || decide (x.2.2 = nI (1000000000 + nm))
def ofR (w : Nat) (x : SUM) : Bool := decide (x.1 = nI 114) && decide (x.2.1 = nI w)
section SUMS
variable {g : GG} {σ : HS} {b : Nat} {ss : List SUM} {m : Bool}
theorem z4_everyOne (hb : RB σ b) (hs : SR σ b ss m) : CT g mX4_everyOne 0 0 0 [.ref (b + 17)] σ (PQ σ (.int (ev ss.length))) := by
  have hb14 : b = 14 ∨ 99 ≤ b := by rcases hb.1 with h | ⟨j, h⟩ <;> omega
  obtain ⟨s1, s2, s3, s4⟩ := hs
  refine CT.of (by decide) (Nat.le_of_ble_eq_true rfl) ?_
  refine q_aload_n dX4_everyOne_0 rfl rfl rfl ?_
  refine q_geti (x := nI ss.length) dX4_everyOne_1 fX4_21 rfl (ty_r hb 17 rfl) s1 ?_
  refine q_bipush (v := nI 32) dX4_everyOne_4 rfl ?_
  refine q_icmp_ltN (tgt := 13) dX4_everyOne_6 (by decide) (by omega) (by omega) (fun c6 => ?_) (fun c6 => ?_)
  · skip
    refine q_iconst (v := nI 1) dX4_everyOne_13 rfl ?_
    refine q_aload_n dX4_everyOne_14 rfl rfl rfl ?_
    refine q_geti (x := nI ss.length) dX4_everyOne_15 fX4_21 rfl (ty_r hb 17 rfl) s1 ?_
    refine q_ishl dX4_everyOne_18 ?_
    refine q_iconst (v := nI 1) dX4_everyOne_19 rfl ?_
    refine q_isub dX4_everyOne_20 ?_
    refine q_ireturn dX4_everyOne_21 rfl rfl (by omega) (by omega) ?_
    first | (rw [show ss.length = 32 by omega, ev_32]; exact ⟨rfl, rfl⟩) | (have h := one_all ⟨ss.length, by omega⟩; exact ⟨rfl, congrArg (fun z => some (Value.int z)) h⟩)
  · skip
    refine q_iconst (v := (-1 : Int32)) dX4_everyOne_9 rfl ?_
    refine q_goto (tgt := 21) dX4_everyOne_10 (by decide) ?_
    refine q_ireturn dX4_everyOne_21 rfl rfl (by omega) (by omega) ?_
    first | (rw [show ss.length = 32 by omega, ev_32]; exact ⟨rfl, rfl⟩) | (have h := one_all ⟨ss.length, by omega⟩; exact ⟨rfl, congrArg (fun z => some (Value.int z)) h⟩)
theorem z4_isBold (hb : RB σ b) (hs : SR σ b ss m) {e : Nat} (he : e < ss.length) : CT g mX4_isBold 0 0 0 [.ref (b + 17), .int (nI e)] σ (PQ σ (.int (bi (boldB (ss.getD e (0, 0, 0)))))) := by
  have hb14 : b = 14 ∨ 99 ≤ b := by rcases hb.1 with h | ⟨j, h⟩ <;> omega
  obtain ⟨s1, s2, s3, s4⟩ := hs
  have h1 := (s4 e he).1
  generalize ss.getD e (0, 0, 0) = x at h1
  refine CT.of (by decide) (Nat.le_of_ble_eq_true rfl) ?_
  refine q_aload_n dX4_isBold_0 rfl rfl rfl ?_
  refine q_getr (r := b + 18) dX4_isBold_1 fX4_9 rfl (ty_r hb 17 rfl) (hb.2.2 17 0 18 rfl) ?_
  refine q_iload_n dX4_isBold_4 rfl rfl ?_
  refine q_iald (x := x.1) (j := e) dX4_isBold_5 (ty_r hb 18 rfl) (ix_n (by omega) (by omega)) h1 ?_
  refine q_bipush (v := nI 47) dX4_isBold_6 rfl ?_
  refine q_icmp_eq (tgt := 22) dX4_isBold_8 (by decide) (fun c8 => ?_) (fun c8 => ?_)
  · skip
    refine q_iconst (v := nI 1) dX4_isBold_22 rfl ?_
    refine q_goto (tgt := 27) dX4_isBold_23 (by decide) ?_
    refine q_ireturn dX4_isBold_27 rfl rfl (by omega) (by omega) ?_
    unfold boldB
    first | exact fin_t (by rw [decide_eq_true c8]; rfl) | exact fin_t (by rw [decide_eq_true c19, Bool.or_true]) | exact fin_f (by rw [decide_eq_false c8, decide_eq_false c19]; rfl)
  · skip
    refine q_aload_n dX4_isBold_11 rfl rfl rfl ?_
    refine q_getr (r := b + 18) dX4_isBold_12 fX4_9 rfl (ty_r hb 17 rfl) (hb.2.2 17 0 18 rfl) ?_
    refine q_iload_n dX4_isBold_15 rfl rfl ?_
    refine q_iald (x := x.1) (j := e) dX4_isBold_16 (ty_r hb 18 rfl) (ix_n (by omega) (by omega)) h1 ?_
    refine q_bipush (v := nI 114) dX4_isBold_17 rfl ?_
    refine q_icmp_ne (tgt := 26) dX4_isBold_19 (by decide) (fun c19 => ?_) (fun c19 => ?_)
    · skip
      refine q_iconst (v := nI 0) dX4_isBold_26 rfl ?_
      refine q_ireturn dX4_isBold_27 rfl rfl (by omega) (by omega) ?_
      unfold boldB
      first | exact fin_t (by rw [decide_eq_true c8]; rfl) | exact fin_t (by rw [decide_eq_true c19, Bool.or_true]) | exact fin_f (by rw [decide_eq_false c8, decide_eq_false c19]; rfl)
    · skip
      refine q_iconst (v := nI 1) dX4_isBold_22 rfl ?_
      refine q_goto (tgt := 27) dX4_isBold_23 (by decide) ?_
      refine q_ireturn dX4_isBold_27 rfl rfl (by omega) (by omega) ?_
      unfold boldB
      first | exact fin_t (by rw [decide_eq_true c8]; rfl) | exact fin_t (by rw [decide_eq_true c19, Bool.or_true]) | exact fin_f (by rw [decide_eq_false c8, decide_eq_false c19]; rfl)
theorem y4_boldOnes (hb : RB σ b) (hs : SR σ b ss m) : ∀ (k i : Nat), i + k = ss.length → WA g mX4_boldOnes 1 0 0 (ZM g (PQ σ (.int (mkN (fun e => boldB (ss.getD e (0, 0, 0))) ss.length))) 0 0) 0 0 4 [(0, .ref (b + 17)), (1, .int (mkN (fun e => boldB (ss.getD e (0, 0, 0))) i)), (2, .int (nI i))] [] σ := by
  have hb14 : b = 14 ∨ 99 ≤ b := by rcases hb.1 with h | ⟨j, h⟩ <;> omega
  obtain ⟨s1, s2, s3, s4⟩ := id hs
  intro k
  induction k with
  | zero =>
    intro i hi
    refine q_iload_n dX4_boldOnes_4 rfl rfl ?_
    refine q_aload_n dX4_boldOnes_5 rfl rfl rfl ?_
    refine q_geti (x := nI ss.length) dX4_boldOnes_6 fX4_21 rfl (ty_r hb 17 rfl) s1 ?_
    refine q_icmp_geN (tgt := 36) dX4_boldOnes_9 (by decide) (by omega) (by omega) (fun c9 => ?_) (fun c9 => ?_)
    · skip
      refine q_iload_n dX4_boldOnes_36 rfl rfl ?_
      refine q_ireturn dX4_boldOnes_37 rfl rfl (by omega) (by omega) ?_
      rw [← hi]
      exact ⟨rfl, rfl⟩
    · exact absurd c9 (by omega)
  | succ k ih =>
    intro i hi
    refine q_iload_n dX4_boldOnes_4 rfl rfl ?_
    refine q_aload_n dX4_boldOnes_5 rfl rfl rfl ?_
    refine q_geti (x := nI ss.length) dX4_boldOnes_6 fX4_21 rfl (ty_r hb 17 rfl) s1 ?_
    refine q_icmp_geN (tgt := 36) dX4_boldOnes_9 (by decide) (by omega) (by omega) (fun c9 => ?_) (fun c9 => ?_)
    · exact absurd c9 (by omega)
    · skip
      refine q_iload_n dX4_boldOnes_12 rfl rfl ?_
      refine q_aload_n dX4_boldOnes_13 rfl rfl rfl ?_
      refine q_iload_n dX4_boldOnes_14 rfl rfl ?_
      refine q_callV (As := [.int (nI i)]) (rest := [.int (mkN (fun e => boldB (ss.getD e (0, 0, 0))) i)]) dX4_boldOnes_15 vX4_29 (ty_r hb 17 rfl) ⟨by decide, rfl⟩ (z4_isBold hb hs (by omega)) rfl rfl (Nat.le_of_ble_eq_true rfl) (by omega) (by omega) (by omega) (k_p ?_)
      refine q_if_eqB (tgt := 27) dX4_boldOnes_18 (by decide) (fun c18 => ?_) (fun c18 => ?_)
      · skip
        refine q_iconst (v := nI 0) dX4_boldOnes_27 rfl ?_
        refine q_ior dX4_boldOnes_28 ?_
        refine q_top (y := mkN (fun e => boldB (ss.getD e (0, 0, 0))) (i + 1)) (mk_f (f := fun e => boldB (ss.getD e (0, 0, 0))) (by show ¬ boldB (ss.getD i (0, 0, 0)) = true; rw [c18]; decide)) ?_
        refine q_istore_n dX4_boldOnes_29 rfl (by decide) (ls' := [(1, .int (mkN (fun e => boldB (ss.getD e (0, 0, 0))) (i + 1))), (0, .ref (b + 17)), (2, .int (nI i))]) rfl ?_
        refine q_iincN (c := 1) dX4_boldOnes_30 rfl (by decide) rfl (ls' := [(2, .int (nI (i + 1))), (1, .int (mkN (fun e => boldB (ss.getD e (0, 0, 0))) (i + 1))), (0, .ref (b + 17))]) rfl ?_
        refine q_goto (tgt := 4) dX4_boldOnes_33 (by decide) ?_
        refine q_pk [2, 1, 0] (ls' := [(0, .ref (b + 17)), (1, .int (mkN (fun e => boldB (ss.getD e (0, 0, 0))) (i + 1))), (2, .int (nI (i + 1)))]) rfl ?_
        exact ih (i + 1) (by omega)
      · skip
        refine q_iconst (v := nI 1) dX4_boldOnes_21 rfl ?_
        refine q_iload_n dX4_boldOnes_22 rfl rfl ?_
        refine q_ishl dX4_boldOnes_23 ?_
        refine q_goto (tgt := 28) dX4_boldOnes_24 (by decide) ?_
        refine q_ior dX4_boldOnes_28 ?_
        refine q_top (y := mkN (fun e => boldB (ss.getD e (0, 0, 0))) (i + 1)) (mk_t (f := fun e => boldB (ss.getD e (0, 0, 0))) c18) ?_
        refine q_istore_n dX4_boldOnes_29 rfl (by decide) (ls' := [(1, .int (mkN (fun e => boldB (ss.getD e (0, 0, 0))) (i + 1))), (0, .ref (b + 17)), (2, .int (nI i))]) rfl ?_
        refine q_iincN (c := 1) dX4_boldOnes_30 rfl (by decide) rfl (ls' := [(2, .int (nI (i + 1))), (1, .int (mkN (fun e => boldB (ss.getD e (0, 0, 0))) (i + 1))), (0, .ref (b + 17))]) rfl ?_
        refine q_goto (tgt := 4) dX4_boldOnes_33 (by decide) ?_
        refine q_pk [2, 1, 0] (ls' := [(0, .ref (b + 17)), (1, .int (mkN (fun e => boldB (ss.getD e (0, 0, 0))) (i + 1))), (2, .int (nI (i + 1)))]) rfl ?_
        exact ih (i + 1) (by omega)
theorem z4_boldOnes (hb : RB σ b) (hs : SR σ b ss m) : CT g mX4_boldOnes 1 0 0 [.ref (b + 17)] σ (PQ σ (.int (mkN (fun e => boldB (ss.getD e (0, 0, 0))) ss.length))) := by
  refine CT.of (by decide) (Nat.le_of_ble_eq_true rfl) ?_
  refine q_iconst (v := nI 0) dX4_boldOnes_0 rfl ?_
  refine q_istore_n dX4_boldOnes_1 rfl (by decide) (ls' := [(1, .int (nI 0)), (0, .ref (b + 17))]) rfl ?_
  refine q_iconst (v := nI 0) dX4_boldOnes_2 rfl ?_
  refine q_istore_n dX4_boldOnes_3 rfl (by decide) (ls' := [(2, .int (nI 0)), (1, .int (nI 0)), (0, .ref (b + 17))]) rfl ?_
  refine q_pk [2, 1, 0] (ls' := [(0, .ref (b + 17)), (1, .int (nI 0)), (2, .int (nI 0))]) rfl ?_
  exact y4_boldOnes hb hs ss.length 0 (by omega)
theorem y4_withName (hb : RB σ b) (hs : SR σ b ss m) {p : Nat} (hp : p < 48) : ∀ (k i : Nat), i + k = ss.length → WA g mX4_withName 0 0 0 (ZM g (PQ σ (.int (mkN (fun e => hasN p (ss.getD e (0, 0, 0))) ss.length))) 0 0) 0 0 4 [(0, .ref (b + 17)), (1, .int (nI p)), (2, .int (mkN (fun e => hasN p (ss.getD e (0, 0, 0))) i)), (3, .int (nI i))] [] σ := by
  have hb14 : b = 14 ∨ 99 ≤ b := by rcases hb.1 with h | ⟨j, h⟩ <;> omega
  obtain ⟨s1, s2, s3, s4⟩ := id hs
  intro k
  induction k with
  | zero =>
    intro i hi
    refine q_iload_n dX4_withName_4 rfl rfl ?_
    refine q_aload_n dX4_withName_5 rfl rfl rfl ?_
    refine q_geti (x := nI ss.length) dX4_withName_6 fX4_21 rfl (ty_r hb 17 rfl) s1 ?_
    refine q_icmp_geN (tgt := 66) dX4_withName_9 (by decide) (by omega) (by omega) (fun c9 => ?_) (fun c9 => ?_)
    · skip
      refine q_iload_n dX4_withName_66 rfl rfl ?_
      refine q_ireturn dX4_withName_67 rfl rfl (by omega) (by omega) ?_
      rw [← hi]
      exact ⟨rfl, rfl⟩
    · exact absurd c9 (by omega)
  | succ k ih =>
    intro i hi
    obtain ⟨h1, h2, h3⟩ := s4 i (by omega)
    have heq : (fun e => hasN p (ss.getD e (0, 0, 0))) i = hasN p (ss.getD i (0, 0, 0)) := rfl
    generalize hx : ss.getD i (0, 0, 0) = x at h1 h2 h3 heq
    refine q_iload_n dX4_withName_4 rfl rfl ?_
    refine q_aload_n dX4_withName_5 rfl rfl rfl ?_
    refine q_geti (x := nI ss.length) dX4_withName_6 fX4_21 rfl (ty_r hb 17 rfl) s1 ?_
    refine q_icmp_geN (tgt := 66) dX4_withName_9 (by decide) (by omega) (by omega) (fun c9 => ?_) (fun c9 => ?_)
    · exact absurd c9 (by omega)
    · skip
      refine q_aload_n dX4_withName_12 rfl rfl rfl ?_
      refine q_getr (r := b + 19) dX4_withName_13 fX4_15 rfl (ty_r hb 17 rfl) (hb.2.2 17 1 19 rfl) ?_
      refine q_iload_n dX4_withName_16 rfl rfl ?_
      refine q_iald (x := x.2.1) (j := i) dX4_withName_17 (ty_r hb 19 rfl) (ix_n (by omega) (by omega)) h2 ?_
      refine q_ldc (v := nI 1000000000) dX4_withName_18 kX4_33 ?_
      refine q_iload_n dX4_withName_20 rfl rfl ?_
      refine q_iaddN dX4_withName_21 ?_
      refine q_icmp_eq (tgt := 38) dX4_withName_22 (by decide) (fun c22 => ?_) (fun c22 => ?_)
      · skip
        refine q_iconst (v := nI 1) dX4_withName_38 rfl ?_
        refine q_goto (tgt := 43) dX4_withName_39 (by decide) ?_
        refine q_istore dX4_withName_43 (by decide) (ls' := [(4, .int (nI 1)), (0, .ref (b + 17)), (1, .int (nI p)), (2, .int (mkN (fun e => hasN p (ss.getD e (0, 0, 0))) i)), (3, .int (nI i))]) rfl ?_
        refine q_iload_n dX4_withName_45 rfl rfl ?_
        refine q_iload dX4_withName_46 rfl ?_
        refine q_if_eqN (tgt := 57) dX4_withName_48 (by decide) (by omega) (fun h => absurd h (by decide)) (fun _ => ?_)
        refine q_iconst (v := nI 1) dX4_withName_51 rfl ?_
        refine q_iload_n dX4_withName_52 rfl rfl ?_
        refine q_ishl dX4_withName_53 ?_
        refine q_goto (tgt := 58) dX4_withName_54 (by decide) ?_
        refine q_ior dX4_withName_58 ?_
        refine q_top (y := mkN (fun e => hasN p (ss.getD e (0, 0, 0))) (i + 1)) (mk_t (f := (fun e => hasN p (ss.getD e (0, 0, 0)))) (heq.trans (by unfold hasN; first | rw [decide_eq_true c22]; rfl | rw [decide_eq_true c35, Bool.or_true]))) ?_
        refine q_istore_n dX4_withName_59 rfl (by decide) (ls' := [(2, .int (mkN (fun e => hasN p (ss.getD e (0, 0, 0))) (i + 1))), (4, .int (nI 1)), (0, .ref (b + 17)), (1, .int (nI p)), (3, .int (nI i))]) rfl ?_
        refine q_iincN (c := 1) dX4_withName_60 rfl (by decide) rfl (ls' := [(3, .int (nI (i + 1))), (2, .int (mkN (fun e => hasN p (ss.getD e (0, 0, 0))) (i + 1))), (4, .int (nI 1)), (0, .ref (b + 17)), (1, .int (nI p))]) rfl ?_
        refine q_goto (tgt := 4) dX4_withName_63 (by decide) ?_
        refine q_pk [3, 4, 1, 0] (ls' := [(0, .ref (b + 17)), (1, .int (nI p)), (2, .int (mkN (fun e => hasN p (ss.getD e (0, 0, 0))) (i + 1))), (3, .int (nI (i + 1)))]) rfl ?_
        exact ih (i + 1) (by omega)
      · skip
        refine q_aload_n dX4_withName_25 rfl rfl rfl ?_
        refine q_getr (r := b + 20) dX4_withName_26 fX4_18 rfl (ty_r hb 17 rfl) (hb.2.2 17 2 20 rfl) ?_
        refine q_iload_n dX4_withName_29 rfl rfl ?_
        refine q_iald (x := x.2.2) (j := i) dX4_withName_30 (ty_r hb 20 rfl) (ix_n (by omega) (by omega)) h3 ?_
        refine q_ldc (v := nI 1000000000) dX4_withName_31 kX4_33 ?_
        refine q_iload_n dX4_withName_33 rfl rfl ?_
        refine q_iaddN dX4_withName_34 ?_
        refine q_icmp_ne (tgt := 42) dX4_withName_35 (by decide) (fun c35 => ?_) (fun c35 => ?_)
        · skip
          refine q_iconst (v := nI 0) dX4_withName_42 rfl ?_
          refine q_istore dX4_withName_43 (by decide) (ls' := [(4, .int (nI 0)), (0, .ref (b + 17)), (1, .int (nI p)), (2, .int (mkN (fun e => hasN p (ss.getD e (0, 0, 0))) i)), (3, .int (nI i))]) rfl ?_
          refine q_iload_n dX4_withName_45 rfl rfl ?_
          refine q_iload dX4_withName_46 rfl ?_
          refine q_if_eqN (tgt := 57) dX4_withName_48 (by decide) (by omega) (fun _ => ?_) (fun h => absurd h (by decide))
          refine q_iconst (v := nI 0) dX4_withName_57 rfl ?_
          refine q_ior dX4_withName_58 ?_
          refine q_top (y := mkN (fun e => hasN p (ss.getD e (0, 0, 0))) (i + 1)) (mk_f (f := (fun e => hasN p (ss.getD e (0, 0, 0)))) (by rw [hx]; unfold hasN; rw [decide_eq_false c22, decide_eq_false c35]; decide)) ?_
          refine q_istore_n dX4_withName_59 rfl (by decide) (ls' := [(2, .int (mkN (fun e => hasN p (ss.getD e (0, 0, 0))) (i + 1))), (4, .int (nI 0)), (0, .ref (b + 17)), (1, .int (nI p)), (3, .int (nI i))]) rfl ?_
          refine q_iincN (c := 1) dX4_withName_60 rfl (by decide) rfl (ls' := [(3, .int (nI (i + 1))), (2, .int (mkN (fun e => hasN p (ss.getD e (0, 0, 0))) (i + 1))), (4, .int (nI 0)), (0, .ref (b + 17)), (1, .int (nI p))]) rfl ?_
          refine q_goto (tgt := 4) dX4_withName_63 (by decide) ?_
          refine q_pk [3, 4, 1, 0] (ls' := [(0, .ref (b + 17)), (1, .int (nI p)), (2, .int (mkN (fun e => hasN p (ss.getD e (0, 0, 0))) (i + 1))), (3, .int (nI (i + 1)))]) rfl ?_
          exact ih (i + 1) (by omega)
        · skip
          refine q_iconst (v := nI 1) dX4_withName_38 rfl ?_
          refine q_goto (tgt := 43) dX4_withName_39 (by decide) ?_
          refine q_istore dX4_withName_43 (by decide) (ls' := [(4, .int (nI 1)), (0, .ref (b + 17)), (1, .int (nI p)), (2, .int (mkN (fun e => hasN p (ss.getD e (0, 0, 0))) i)), (3, .int (nI i))]) rfl ?_
          refine q_iload_n dX4_withName_45 rfl rfl ?_
          refine q_iload dX4_withName_46 rfl ?_
          refine q_if_eqN (tgt := 57) dX4_withName_48 (by decide) (by omega) (fun h => absurd h (by decide)) (fun _ => ?_)
          refine q_iconst (v := nI 1) dX4_withName_51 rfl ?_
          refine q_iload_n dX4_withName_52 rfl rfl ?_
          refine q_ishl dX4_withName_53 ?_
          refine q_goto (tgt := 58) dX4_withName_54 (by decide) ?_
          refine q_ior dX4_withName_58 ?_
          refine q_top (y := mkN (fun e => hasN p (ss.getD e (0, 0, 0))) (i + 1)) (mk_t (f := (fun e => hasN p (ss.getD e (0, 0, 0)))) (heq.trans (by unfold hasN; first | rw [decide_eq_true c22]; rfl | rw [decide_eq_true c35, Bool.or_true]))) ?_
          refine q_istore_n dX4_withName_59 rfl (by decide) (ls' := [(2, .int (mkN (fun e => hasN p (ss.getD e (0, 0, 0))) (i + 1))), (4, .int (nI 1)), (0, .ref (b + 17)), (1, .int (nI p)), (3, .int (nI i))]) rfl ?_
          refine q_iincN (c := 1) dX4_withName_60 rfl (by decide) rfl (ls' := [(3, .int (nI (i + 1))), (2, .int (mkN (fun e => hasN p (ss.getD e (0, 0, 0))) (i + 1))), (4, .int (nI 1)), (0, .ref (b + 17)), (1, .int (nI p))]) rfl ?_
          refine q_goto (tgt := 4) dX4_withName_63 (by decide) ?_
          refine q_pk [3, 4, 1, 0] (ls' := [(0, .ref (b + 17)), (1, .int (nI p)), (2, .int (mkN (fun e => hasN p (ss.getD e (0, 0, 0))) (i + 1))), (3, .int (nI (i + 1)))]) rfl ?_
          exact ih (i + 1) (by omega)
theorem z4_withName (hb : RB σ b) (hs : SR σ b ss m) {p : Nat} (hp : p < 48) : CT g mX4_withName 0 0 0 [.ref (b + 17), .int (nI p)] σ (PQ σ (.int (mkN (fun e => hasN p (ss.getD e (0, 0, 0))) ss.length))) := by
  refine CT.of (by decide) (Nat.le_of_ble_eq_true rfl) ?_
  refine q_iconst (v := nI 0) dX4_withName_0 rfl ?_
  refine q_istore_n dX4_withName_1 rfl (by decide) (ls' := [(2, .int (nI 0)), (0, .ref (b + 17)), (1, .int (nI p))]) rfl ?_
  refine q_iconst (v := nI 0) dX4_withName_2 rfl ?_
  refine q_istore_n dX4_withName_3 rfl (by decide) (ls' := [(3, .int (nI 0)), (2, .int (nI 0)), (0, .ref (b + 17)), (1, .int (nI p))]) rfl ?_
  refine q_pk [2, 3, 1, 0] (ls' := [(0, .ref (b + 17)), (1, .int (nI p)), (2, .int (nI 0)), (3, .int (nI 0))]) rfl ?_
  exact y4_withName hb hs hp ss.length 0 (by omega)
theorem y4_ofRow (hb : RB σ b) (hs : SR σ b ss m) {p : Nat} (hp : p < 2) : ∀ (k i : Nat), i + k = ss.length → WA g mX4_ofRow 0 0 0 (ZM g (PQ σ (.int (mkN (fun e => ofR p (ss.getD e (0, 0, 0))) ss.length))) 0 0) 0 0 4 [(0, .ref (b + 17)), (1, .int (nI p)), (2, .int (mkN (fun e => ofR p (ss.getD e (0, 0, 0))) i)), (3, .int (nI i))] [] σ := by
  have hb14 : b = 14 ∨ 99 ≤ b := by rcases hb.1 with h | ⟨j, h⟩ <;> omega
  obtain ⟨s1, s2, s3, s4⟩ := id hs
  intro k
  induction k with
  | zero =>
    intro i hi
    refine q_iload_n dX4_ofRow_4 rfl rfl ?_
    refine q_aload_n dX4_ofRow_5 rfl rfl rfl ?_
    refine q_geti (x := nI ss.length) dX4_ofRow_6 fX4_21 rfl (ty_r hb 17 rfl) s1 ?_
    refine q_icmp_geN (tgt := 49) dX4_ofRow_9 (by decide) (by omega) (by omega) (fun c9 => ?_) (fun c9 => ?_)
    · skip
      refine q_iload_n dX4_ofRow_49 rfl rfl ?_
      refine q_ireturn dX4_ofRow_50 rfl rfl (by omega) (by omega) ?_
      rw [← hi]
      exact ⟨rfl, rfl⟩
    · exact absurd c9 (by omega)
  | succ k ih =>
    intro i hi
    obtain ⟨h1, h2, h3⟩ := s4 i (by omega)
    have heq : (fun e => ofR p (ss.getD e (0, 0, 0))) i = ofR p (ss.getD i (0, 0, 0)) := rfl
    generalize hx : ss.getD i (0, 0, 0) = x at h1 h2 h3 heq
    refine q_iload_n dX4_ofRow_4 rfl rfl ?_
    refine q_aload_n dX4_ofRow_5 rfl rfl rfl ?_
    refine q_geti (x := nI ss.length) dX4_ofRow_6 fX4_21 rfl (ty_r hb 17 rfl) s1 ?_
    refine q_icmp_geN (tgt := 49) dX4_ofRow_9 (by decide) (by omega) (by omega) (fun c9 => ?_) (fun c9 => ?_)
    · exact absurd c9 (by omega)
    · skip
      refine q_iload_n dX4_ofRow_12 rfl rfl ?_
      refine q_aload_n dX4_ofRow_13 rfl rfl rfl ?_
      refine q_getr (r := b + 18) dX4_ofRow_14 fX4_9 rfl (ty_r hb 17 rfl) (hb.2.2 17 0 18 rfl) ?_
      refine q_iload_n dX4_ofRow_17 rfl rfl ?_
      refine q_iald (x := x.1) (j := i) dX4_ofRow_18 (ty_r hb 18 rfl) (ix_n (by omega) (by omega)) h1 ?_
      refine q_bipush (v := nI 114) dX4_ofRow_19 rfl ?_
      refine q_icmp_ne (tgt := 40) dX4_ofRow_21 (by decide) (fun c21 => ?_) (fun c21 => ?_)
      · skip
        refine q_iconst (v := nI 0) dX4_ofRow_40 rfl ?_
        refine q_ior dX4_ofRow_41 ?_
        refine q_top (y := mkN (fun e => ofR p (ss.getD e (0, 0, 0))) (i + 1)) (mk_f (f := (fun e => ofR p (ss.getD e (0, 0, 0)))) (by rw [hx]; unfold ofR; first | (rw [decide_eq_false c21, Bool.false_and]; decide) | (rw [decide_eq_false c31, Bool.and_false]; decide))) ?_
        refine q_istore_n dX4_ofRow_42 rfl (by decide) (ls' := [(2, .int (mkN (fun e => ofR p (ss.getD e (0, 0, 0))) (i + 1))), (0, .ref (b + 17)), (1, .int (nI p)), (3, .int (nI i))]) rfl ?_
        refine q_iincN (c := 1) dX4_ofRow_43 rfl (by decide) rfl (ls' := [(3, .int (nI (i + 1))), (2, .int (mkN (fun e => ofR p (ss.getD e (0, 0, 0))) (i + 1))), (0, .ref (b + 17)), (1, .int (nI p))]) rfl ?_
        refine q_goto (tgt := 4) dX4_ofRow_46 (by decide) ?_
        refine q_pk [2, 3, 1, 0] (ls' := [(0, .ref (b + 17)), (1, .int (nI p)), (2, .int (mkN (fun e => ofR p (ss.getD e (0, 0, 0))) (i + 1))), (3, .int (nI (i + 1)))]) rfl ?_
        exact ih (i + 1) (by omega)
      · skip
        refine q_aload_n dX4_ofRow_24 rfl rfl rfl ?_
        refine q_getr (r := b + 19) dX4_ofRow_25 fX4_15 rfl (ty_r hb 17 rfl) (hb.2.2 17 1 19 rfl) ?_
        refine q_iload_n dX4_ofRow_28 rfl rfl ?_
        refine q_iald (x := x.2.1) (j := i) dX4_ofRow_29 (ty_r hb 19 rfl) (ix_n (by omega) (by omega)) h2 ?_
        refine q_iload_n dX4_ofRow_30 rfl rfl ?_
        refine q_icmp_ne (tgt := 40) dX4_ofRow_31 (by decide) (fun c31 => ?_) (fun c31 => ?_)
        · skip
          refine q_iconst (v := nI 0) dX4_ofRow_40 rfl ?_
          refine q_ior dX4_ofRow_41 ?_
          refine q_top (y := mkN (fun e => ofR p (ss.getD e (0, 0, 0))) (i + 1)) (mk_f (f := (fun e => ofR p (ss.getD e (0, 0, 0)))) (by rw [hx]; unfold ofR; first | (rw [decide_eq_false c21, Bool.false_and]; decide) | (rw [decide_eq_false c31, Bool.and_false]; decide))) ?_
          refine q_istore_n dX4_ofRow_42 rfl (by decide) (ls' := [(2, .int (mkN (fun e => ofR p (ss.getD e (0, 0, 0))) (i + 1))), (0, .ref (b + 17)), (1, .int (nI p)), (3, .int (nI i))]) rfl ?_
          refine q_iincN (c := 1) dX4_ofRow_43 rfl (by decide) rfl (ls' := [(3, .int (nI (i + 1))), (2, .int (mkN (fun e => ofR p (ss.getD e (0, 0, 0))) (i + 1))), (0, .ref (b + 17)), (1, .int (nI p))]) rfl ?_
          refine q_goto (tgt := 4) dX4_ofRow_46 (by decide) ?_
          refine q_pk [2, 3, 1, 0] (ls' := [(0, .ref (b + 17)), (1, .int (nI p)), (2, .int (mkN (fun e => ofR p (ss.getD e (0, 0, 0))) (i + 1))), (3, .int (nI (i + 1)))]) rfl ?_
          exact ih (i + 1) (by omega)
        · skip
          refine q_iconst (v := nI 1) dX4_ofRow_34 rfl ?_
          refine q_iload_n dX4_ofRow_35 rfl rfl ?_
          refine q_ishl dX4_ofRow_36 ?_
          refine q_goto (tgt := 41) dX4_ofRow_37 (by decide) ?_
          refine q_ior dX4_ofRow_41 ?_
          refine q_top (y := mkN (fun e => ofR p (ss.getD e (0, 0, 0))) (i + 1)) (mk_t (f := (fun e => ofR p (ss.getD e (0, 0, 0)))) (heq.trans (by unfold ofR; rw [decide_eq_true c21, decide_eq_true c31]; rfl))) ?_
          refine q_istore_n dX4_ofRow_42 rfl (by decide) (ls' := [(2, .int (mkN (fun e => ofR p (ss.getD e (0, 0, 0))) (i + 1))), (0, .ref (b + 17)), (1, .int (nI p)), (3, .int (nI i))]) rfl ?_
          refine q_iincN (c := 1) dX4_ofRow_43 rfl (by decide) rfl (ls' := [(3, .int (nI (i + 1))), (2, .int (mkN (fun e => ofR p (ss.getD e (0, 0, 0))) (i + 1))), (0, .ref (b + 17)), (1, .int (nI p))]) rfl ?_
          refine q_goto (tgt := 4) dX4_ofRow_46 (by decide) ?_
          refine q_pk [2, 3, 1, 0] (ls' := [(0, .ref (b + 17)), (1, .int (nI p)), (2, .int (mkN (fun e => ofR p (ss.getD e (0, 0, 0))) (i + 1))), (3, .int (nI (i + 1)))]) rfl ?_
          exact ih (i + 1) (by omega)
theorem z4_ofRow (hb : RB σ b) (hs : SR σ b ss m) {p : Nat} (hp : p < 2) : CT g mX4_ofRow 0 0 0 [.ref (b + 17), .int (nI p)] σ (PQ σ (.int (mkN (fun e => ofR p (ss.getD e (0, 0, 0))) ss.length))) := by
  refine CT.of (by decide) (Nat.le_of_ble_eq_true rfl) ?_
  refine q_iconst (v := nI 0) dX4_ofRow_0 rfl ?_
  refine q_istore_n dX4_ofRow_1 rfl (by decide) (ls' := [(2, .int (nI 0)), (0, .ref (b + 17)), (1, .int (nI p))]) rfl ?_
  refine q_iconst (v := nI 0) dX4_ofRow_2 rfl ?_
  refine q_istore_n dX4_ofRow_3 rfl (by decide) (ls' := [(3, .int (nI 0)), (2, .int (nI 0)), (0, .ref (b + 17)), (1, .int (nI p))]) rfl ?_
  refine q_pk [2, 3, 1, 0] (ls' := [(0, .ref (b + 17)), (1, .int (nI p)), (2, .int (nI 0)), (3, .int (nI 0))]) rfl ?_
  exact y4_ofRow hb hs hp ss.length 0 (by omega)

end SUMS
