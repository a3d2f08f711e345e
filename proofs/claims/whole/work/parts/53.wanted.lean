/-! Class Facts: WANTED, by rounds. -/
theorem mk_or0 {f : Nat → Bool} {k : Nat} : mkN f k ||| nI 0 = mkN f k := ib_ext fun i _ => by rw [ib_or, ib_0, Bool.or_false]
theorem bi_or0 {c d : Bool} (h : d = false) : bi c ||| nI 0 = bi (c || d) := by subst h; cases c <;> rfl
theorem bi_or1 {c d : Bool} (h : d = true) : bi c ||| nI 1 = bi (c || d) := by subst h; cases c <;> rfl
theorem kl_mk {q : PS} {m : Nat} (hk : (psM q).length ≤ 32) (h : sn q m = true) : mkN (fun e => kl q e m) (psM q).length ||| mkN (bo q) (psM q).length = mkN (fun e => kl q e m || (sn q m && bo q e)) (psM q).length := by rw [mk_or hk]; exact mk_ext fun e _ => by rw [h]; simp
theorem kl_m0 {q : PS} {m : Nat} (h : sn q m = false) : mkN (fun e => kl q e m) (psM q).length ||| nI 0 = mkN (fun e => kl q e m || (sn q m && bo q e)) (psM q).length := by rw [mk_or0]; exact mk_ext fun e _ => by rw [h]; simp
theorem FA.fil {σ : HS} {h n : Nat} {q : PS} {f : Nat → Nat → Bool} {x : Int32} (hc : BC q) (hn : n = 240) (hx : ∀ i, i < NN q → x = mkN (fun e => f e i) (psM q).length) : FA (filS σ h x n) h q f := fun i hi => by
  have := NN_le hc
  rw [filS_I, if_pos ⟨rfl, by omega⟩]; exact hx i hi
def FQ (σ : HS) (h : Nat) (q : PS) (f : Nat → Nat → Bool) : Option Value → HS → Prop := fun r σ' => r = none ∧ LX h σ σ' ∧ FA σ' h q f
theorem y0_wanted_o {g : GG} {σ0 σ : HS} {b : Nat} {q : PS} (hq0 : FE σ0 b q) (h1 : LX (b + 24) σ0 σ) {Z : List Frame → Array Value → State → State → Prop} {r : Nat} {c : Bool} (h : WA g mX0_findWanted 2 0 0 Z 0 0 24 [(0, .ref (b + 21)), (1, .ref b), (2, .int (mkN (bo q) (psM q).length)), (3, .int (bi c)), (4, .int (nI (r + 1)))] [] σ) : WA g mX0_findWanted 2 0 0 Z 0 0 139 [(0, .ref (b + 21)), (1, .ref b), (2, .int (mkN (bo q) (psM q).length)), (3, .int (bi c)), (4, .int (nI r))] [] σ := by
  have hb := (hq0.lx (by omega) h1).1
  have hb14 : b = 14 ∨ 99 ≤ b := by rcases hb.1 with h | ⟨j, h⟩ <;> omega
  refine q_iincN (c := 1) dX0_findWanted_139 rfl (by decide) rfl (ls' := [(4, .int (nI (r + 1))), (0, .ref (b + 21)), (1, .ref b), (2, .int (mkN (bo q) (psM q).length)), (3, .int (bi c))]) rfl ?_
  refine q_goto (tgt := 24) dX0_findWanted_142 (by decide) ?_
  refine q_pk [1, 2, 3, 4, 0] (ls' := [(0, .ref (b + 21)), (1, .ref b), (2, .int (mkN (bo q) (psM q).length)), (3, .int (bi c)), (4, .int (nI (r + 1)))]) rfl ?_
  exact h
theorem y0_wanted_in {g : GG} {σ0 : HS} {b : Nat} {q : PS} (hq0 : FE σ0 b q) (hwk0 : FA σ0 (b + 22) q (wk q)) (hkl0 : FA σ0 (b + 23) q (kl q)) {Z : List Frame → Array Value → State → State → Prop} {r : Nat} {v0 : Nat → Nat → Bool} (K : ∀ v c σ, LX (b + 24) σ0 σ → FA σ (b + 24) q v → GRW (NN q) (psM q).length (fun e => wdB q e) v0 v 0 c → WA g mX0_findWanted 2 0 0 Z 0 0 139 [(0, .ref (b + 21)), (1, .ref b), (2, .int (mkN (bo q) (psM q).length)), (3, .int (bi c)), (4, .int (nI r))] [] σ) : ∀ (m : Nat) (v : Nat → Nat → Bool) (c : Bool) (σ : HS), m ≤ NN q → LX (b + 24) σ0 σ → FA σ (b + 24) q v → GRW (NN q) (psM q).length (fun e => wdB q e) v0 v m c → WA g mX0_findWanted 2 0 0 Z 0 0 47 [(0, .ref (b + 21)), (1, .ref b), (2, .int (mkN (bo q) (psM q).length)), (3, .int (bi c)), (4, .int (nI r)), (5, .int (dn m))] [] σ := by
  obtain ⟨hb0, hc, hw, hnb, hx, -⟩ := id hq0
  have hb14 : b = 14 ∨ 99 ≤ b := by rcases hb0.1 with h | ⟨j, h⟩ <;> omega
  have hNN := NN_le hc
  have hk := hq0.k
  have hF : ∀ e, e < (psM q).length → MF (NN q) (fun x n => (fun e => wdB q e) e x n = true) := fun e _ => wd_m hc hw hnb e
  intro m
  induction m with
  | zero =>
    intro v c σ hm h1 h2 h3
    have hq := hq0.lx (by omega) h1
    obtain ⟨hb, -, -, -, -, h14, hs, hall, hr⟩ := id hq
    have hwk := hwk0.lx h1 (by omega)
    have hkl := hkl0.lx h1 (by omega)
    refine q_iload dX0_findWanted_47 rfl ?_
    refine q_if_lt1 (tgt := 139) dX0_findWanted_49 (by decide) (by decide) ?_
    refine q_pk [0, 1, 2, 3, 4] (ls' := [(0, .ref (b + 21)), (1, .ref b), (2, .int (mkN (bo q) (psM q).length)), (3, .int (bi c)), (4, .int (nI r))]) rfl ?_
    exact K v c σ h1 h2 h3
  | succ m ih =>
    intro v c σ hm h1 h2 h3
    have hq := hq0.lx (by omega) h1
    obtain ⟨hb, -, -, -, -, h14, hs, hall, hr⟩ := id hq
    have hwk := hwk0.lx h1 (by omega)
    have hkl := hkl0.lx h1 (by omega)
    obtain ⟨r1, r3, r7, r12, r13⟩ := hr m (by omega)
    have g2 := hwk m (by omega)
    have g3 := hkl m (by omega)
    have g4 := h2 m (by omega)
    refine q_iload dX0_findWanted_47 rfl ?_
    refine q_if_ltN (tgt := 139) dX0_findWanted_49 (by decide) (by omega) ?_
    refine q_aload_n dX0_findWanted_52 rfl rfl rfl ?_
    refine q_getr (r := b + 23) dX0_findWanted_53 fX0_15 rfl (ty_r hb 21 rfl) (hb.2.2 21 1 23 rfl) ?_
    refine q_iload dX0_findWanted_56 rfl ?_
    refine q_iald (x := mkN (fun e => kl q e m) (psM q).length) (j := m) dX0_findWanted_58 (ty_r hb 23 rfl) (ix_n (by omega) (by omega)) g3 ?_
    refine q_aload_n dX0_findWanted_59 rfl rfl rfl ?_
    refine q_aload_n dX0_findWanted_60 rfl rfl rfl ?_
    refine q_iload dX0_findWanted_61 rfl ?_
    refine q_iload_n dX0_findWanted_63 rfl rfl ?_
    refine q_callV (As := [.ref b, .int (nI m), .int (mkN (bo q) (psM q).length)]) (rest := [.int (mkN (fun e => kl q e m) (psM q).length)]) dX0_findWanted_64 vX0_121 (ty_r hb 21 rfl) ⟨by decide, rfl⟩ (z0_isSeen hq hwk (by omega)) rfl rfl (Nat.le_of_ble_eq_true rfl) (by omega) (by omega) (by omega) (k_p ?_)
    refine q_if_eqB (tgt := 74) dX0_findWanted_67 (by decide) (fun c67 => ?_) (fun c67 => ?_)
    · skip
      refine q_iconst (v := nI 0) dX0_findWanted_74 rfl ?_
      refine q_ior dX0_findWanted_75 ?_
      refine q_top (y := mkN (fun e => kl q e m || (sn q m && bo q e)) (psM q).length) (kl_m0 c67) ?_
      refine q_istore dX0_findWanted_76 (by decide) (ls' := [(6, .int (mkN (fun e => kl q e m || (sn q m && bo q e)) (psM q).length)), (0, .ref (b + 21)), (1, .ref b), (2, .int (mkN (bo q) (psM q).length)), (3, .int (bi c)), (4, .int (nI r)), (5, .int (nI m))]) rfl ?_
      refine q_aload_n dX0_findWanted_78 rfl rfl rfl ?_
      refine q_getr (r := b + 22) dX0_findWanted_79 fX0_9 rfl (ty_r hb 21 rfl) (hb.2.2 21 0 22 rfl) ?_
      refine q_iload dX0_findWanted_82 rfl ?_
      refine q_iald (x := mkN (fun e => wk q e m) (psM q).length) (j := m) dX0_findWanted_84 (ty_r hb 22 rfl) (ix_n (by omega) (by omega)) g2 ?_
      refine q_iload dX0_findWanted_85 rfl ?_
      refine q_iconst (v := (-1 : Int32)) dX0_findWanted_87 rfl ?_
      refine q_ixor dX0_findWanted_88 ?_
      refine q_aload_n dX0_findWanted_89 rfl rfl rfl ?_
      refine q_aload_n dX0_findWanted_90 rfl rfl rfl ?_
      refine q_aload_n dX0_findWanted_91 rfl rfl rfl ?_
      refine q_getr (r := b + 24) dX0_findWanted_92 fX0_18 rfl (ty_r hb 21 rfl) (hb.2.2 21 2 24 rfl) ?_
      refine q_iload dX0_findWanted_95 rfl ?_
      refine q_callV (As := [.ref b, .ref (b + 24), .int (nI m)]) (rest := [.int ((mkN (fun e => kl q e m || (sn q m && bo q e)) (psM q).length) ^^^ (-1 : Int32)), .int (mkN (fun e => wk q e m) (psM q).length)]) dX0_findWanted_97 vX0_78 (ty_r hb 21 rfl) ⟨by decide, rfl⟩ (z0_allNext_24 hq h2 (by omega)) rfl rfl (Nat.le_of_ble_eq_true rfl) (by omega) (by omega) (by omega) (k_p ?_)
      refine q_iand dX0_findWanted_100 ?_
      refine q_ior dX0_findWanted_101 ?_
      refine q_top (y := mkN (fun e => wdB q e (v e) m) (psM q).length) (by rw [mk_nand hk, mk_or hk]; rfl) ?_
      refine q_istore dX0_findWanted_102 (by decide) (ls' := [(7, .int (mkN (fun e => wdB q e (v e) m) (psM q).length)), (6, .int (mkN (fun e => kl q e m || (sn q m && bo q e)) (psM q).length)), (0, .ref (b + 21)), (1, .ref b), (2, .int (mkN (bo q) (psM q).length)), (3, .int (bi c)), (4, .int (nI r)), (5, .int (nI m))]) rfl ?_
      refine q_iload_n dX0_findWanted_104 rfl rfl ?_
      refine q_iload dX0_findWanted_105 rfl ?_
      refine q_aload_n dX0_findWanted_107 rfl rfl rfl ?_
      refine q_getr (r := b + 24) dX0_findWanted_108 fX0_18 rfl (ty_r hb 21 rfl) (hb.2.2 21 2 24 rfl) ?_
      refine q_iload dX0_findWanted_111 rfl ?_
      refine q_iald (x := mkN (fun e => v e m) (psM q).length) (j := m) dX0_findWanted_113 (ty_r hb 24 rfl) (ix_n (by omega) (by omega)) g4 ?_
      refine q_icmp_eq (tgt := 121) dX0_findWanted_114 (by decide) (fun c114 => ?_) (fun c114 => ?_)
      · skip
        refine q_iconst (v := nI 0) dX0_findWanted_121 rfl ?_
        refine q_ior dX0_findWanted_122 ?_
        refine q_top (y := bi (c || !decide (mkN (fun e => wdB q e (v e) m) (psM q).length = mkN (fun e => v e m) (psM q).length))) (bi_or0 (by rw [decide_eq_true c114]; rfl)) ?_
        refine q_istore_n dX0_findWanted_123 rfl (by decide) (ls' := [(3, .int (bi (c || !decide (mkN (fun e => wdB q e (v e) m) (psM q).length = mkN (fun e => v e m) (psM q).length)))), (7, .int (mkN (fun e => wdB q e (v e) m) (psM q).length)), (6, .int (mkN (fun e => kl q e m || (sn q m && bo q e)) (psM q).length)), (0, .ref (b + 21)), (1, .ref b), (2, .int (mkN (bo q) (psM q).length)), (4, .int (nI r)), (5, .int (nI m))]) rfl ?_
        refine q_aload_n dX0_findWanted_124 rfl rfl rfl ?_
        refine q_getr (r := b + 24) dX0_findWanted_125 fX0_18 rfl (ty_r hb 21 rfl) (hb.2.2 21 2 24 rfl) ?_
        refine q_iload dX0_findWanted_128 rfl ?_
        refine q_iload dX0_findWanted_130 rfl ?_
        refine q_iast (j := m) dX0_findWanted_132 (ty_r hb 24 rfl) (ix_n (by omega) (by omega)) ?_
        refine q_iinc (v := dn m) dX0_findWanted_133 rfl (dn_inc m) (by decide) (ls' := [(5, .int (dn m)), (3, .int (bi (c || !decide (mkN (fun e => wdB q e (v e) m) (psM q).length = mkN (fun e => v e m) (psM q).length)))), (7, .int (mkN (fun e => wdB q e (v e) m) (psM q).length)), (6, .int (mkN (fun e => kl q e m || (sn q m && bo q e)) (psM q).length)), (0, .ref (b + 21)), (1, .ref b), (2, .int (mkN (bo q) (psM q).length)), (4, .int (nI r))]) rfl ?_
        refine q_goto (tgt := 47) dX0_findWanted_136 (by decide) ?_
        refine q_pk [4, 5, 6, 1, 7, 0] (ls' := [(0, .ref (b + 21)), (1, .ref b), (2, .int (mkN (bo q) (psM q).length)), (3, .int (bi (c || !decide (mkN (fun e => wdB q e (v e) m) (psM q).length = mkN (fun e => v e m) (psM q).length)))), (4, .int (nI r)), (5, .int (dn m))]) rfl ?_
        exact ih _ _ _ (by omega) h1.uI h2.up (GRW_s hF hk (by omega) h3)
      · skip
        refine q_iconst (v := nI 1) dX0_findWanted_117 rfl ?_
        refine q_goto (tgt := 122) dX0_findWanted_118 (by decide) ?_
        refine q_ior dX0_findWanted_122 ?_
        refine q_top (y := bi (c || !decide (mkN (fun e => wdB q e (v e) m) (psM q).length = mkN (fun e => v e m) (psM q).length))) (bi_or1 (by rw [decide_eq_false c114]; rfl)) ?_
        refine q_istore_n dX0_findWanted_123 rfl (by decide) (ls' := [(3, .int (bi (c || !decide (mkN (fun e => wdB q e (v e) m) (psM q).length = mkN (fun e => v e m) (psM q).length)))), (7, .int (mkN (fun e => wdB q e (v e) m) (psM q).length)), (6, .int (mkN (fun e => kl q e m || (sn q m && bo q e)) (psM q).length)), (0, .ref (b + 21)), (1, .ref b), (2, .int (mkN (bo q) (psM q).length)), (4, .int (nI r)), (5, .int (nI m))]) rfl ?_
        refine q_aload_n dX0_findWanted_124 rfl rfl rfl ?_
        refine q_getr (r := b + 24) dX0_findWanted_125 fX0_18 rfl (ty_r hb 21 rfl) (hb.2.2 21 2 24 rfl) ?_
        refine q_iload dX0_findWanted_128 rfl ?_
        refine q_iload dX0_findWanted_130 rfl ?_
        refine q_iast (j := m) dX0_findWanted_132 (ty_r hb 24 rfl) (ix_n (by omega) (by omega)) ?_
        refine q_iinc (v := dn m) dX0_findWanted_133 rfl (dn_inc m) (by decide) (ls' := [(5, .int (dn m)), (3, .int (bi (c || !decide (mkN (fun e => wdB q e (v e) m) (psM q).length = mkN (fun e => v e m) (psM q).length)))), (7, .int (mkN (fun e => wdB q e (v e) m) (psM q).length)), (6, .int (mkN (fun e => kl q e m || (sn q m && bo q e)) (psM q).length)), (0, .ref (b + 21)), (1, .ref b), (2, .int (mkN (bo q) (psM q).length)), (4, .int (nI r))]) rfl ?_
        refine q_goto (tgt := 47) dX0_findWanted_136 (by decide) ?_
        refine q_pk [4, 5, 6, 1, 7, 0] (ls' := [(0, .ref (b + 21)), (1, .ref b), (2, .int (mkN (bo q) (psM q).length)), (3, .int (bi (c || !decide (mkN (fun e => wdB q e (v e) m) (psM q).length = mkN (fun e => v e m) (psM q).length)))), (4, .int (nI r)), (5, .int (dn m))]) rfl ?_
        exact ih _ _ _ (by omega) h1.uI h2.up (GRW_s hF hk (by omega) h3)
    · skip
      refine q_iload_n dX0_findWanted_70 rfl rfl ?_
      refine q_goto (tgt := 75) dX0_findWanted_71 (by decide) ?_
      refine q_ior dX0_findWanted_75 ?_
      refine q_top (y := mkN (fun e => kl q e m || (sn q m && bo q e)) (psM q).length) (kl_mk hk c67) ?_
      refine q_istore dX0_findWanted_76 (by decide) (ls' := [(6, .int (mkN (fun e => kl q e m || (sn q m && bo q e)) (psM q).length)), (0, .ref (b + 21)), (1, .ref b), (2, .int (mkN (bo q) (psM q).length)), (3, .int (bi c)), (4, .int (nI r)), (5, .int (nI m))]) rfl ?_
      refine q_aload_n dX0_findWanted_78 rfl rfl rfl ?_
      refine q_getr (r := b + 22) dX0_findWanted_79 fX0_9 rfl (ty_r hb 21 rfl) (hb.2.2 21 0 22 rfl) ?_
      refine q_iload dX0_findWanted_82 rfl ?_
      refine q_iald (x := mkN (fun e => wk q e m) (psM q).length) (j := m) dX0_findWanted_84 (ty_r hb 22 rfl) (ix_n (by omega) (by omega)) g2 ?_
      refine q_iload dX0_findWanted_85 rfl ?_
      refine q_iconst (v := (-1 : Int32)) dX0_findWanted_87 rfl ?_
      refine q_ixor dX0_findWanted_88 ?_
      refine q_aload_n dX0_findWanted_89 rfl rfl rfl ?_
      refine q_aload_n dX0_findWanted_90 rfl rfl rfl ?_
      refine q_aload_n dX0_findWanted_91 rfl rfl rfl ?_
      refine q_getr (r := b + 24) dX0_findWanted_92 fX0_18 rfl (ty_r hb 21 rfl) (hb.2.2 21 2 24 rfl) ?_
      refine q_iload dX0_findWanted_95 rfl ?_
      refine q_callV (As := [.ref b, .ref (b + 24), .int (nI m)]) (rest := [.int ((mkN (fun e => kl q e m || (sn q m && bo q e)) (psM q).length) ^^^ (-1 : Int32)), .int (mkN (fun e => wk q e m) (psM q).length)]) dX0_findWanted_97 vX0_78 (ty_r hb 21 rfl) ⟨by decide, rfl⟩ (z0_allNext_24 hq h2 (by omega)) rfl rfl (Nat.le_of_ble_eq_true rfl) (by omega) (by omega) (by omega) (k_p ?_)
      refine q_iand dX0_findWanted_100 ?_
      refine q_ior dX0_findWanted_101 ?_
      refine q_top (y := mkN (fun e => wdB q e (v e) m) (psM q).length) (by rw [mk_nand hk, mk_or hk]; rfl) ?_
      refine q_istore dX0_findWanted_102 (by decide) (ls' := [(7, .int (mkN (fun e => wdB q e (v e) m) (psM q).length)), (6, .int (mkN (fun e => kl q e m || (sn q m && bo q e)) (psM q).length)), (0, .ref (b + 21)), (1, .ref b), (2, .int (mkN (bo q) (psM q).length)), (3, .int (bi c)), (4, .int (nI r)), (5, .int (nI m))]) rfl ?_
      refine q_iload_n dX0_findWanted_104 rfl rfl ?_
      refine q_iload dX0_findWanted_105 rfl ?_
      refine q_aload_n dX0_findWanted_107 rfl rfl rfl ?_
      refine q_getr (r := b + 24) dX0_findWanted_108 fX0_18 rfl (ty_r hb 21 rfl) (hb.2.2 21 2 24 rfl) ?_
      refine q_iload dX0_findWanted_111 rfl ?_
      refine q_iald (x := mkN (fun e => v e m) (psM q).length) (j := m) dX0_findWanted_113 (ty_r hb 24 rfl) (ix_n (by omega) (by omega)) g4 ?_
      refine q_icmp_eq (tgt := 121) dX0_findWanted_114 (by decide) (fun c114 => ?_) (fun c114 => ?_)
      · skip
        refine q_iconst (v := nI 0) dX0_findWanted_121 rfl ?_
        refine q_ior dX0_findWanted_122 ?_
        refine q_top (y := bi (c || !decide (mkN (fun e => wdB q e (v e) m) (psM q).length = mkN (fun e => v e m) (psM q).length))) (bi_or0 (by rw [decide_eq_true c114]; rfl)) ?_
        refine q_istore_n dX0_findWanted_123 rfl (by decide) (ls' := [(3, .int (bi (c || !decide (mkN (fun e => wdB q e (v e) m) (psM q).length = mkN (fun e => v e m) (psM q).length)))), (7, .int (mkN (fun e => wdB q e (v e) m) (psM q).length)), (6, .int (mkN (fun e => kl q e m || (sn q m && bo q e)) (psM q).length)), (0, .ref (b + 21)), (1, .ref b), (2, .int (mkN (bo q) (psM q).length)), (4, .int (nI r)), (5, .int (nI m))]) rfl ?_
        refine q_aload_n dX0_findWanted_124 rfl rfl rfl ?_
        refine q_getr (r := b + 24) dX0_findWanted_125 fX0_18 rfl (ty_r hb 21 rfl) (hb.2.2 21 2 24 rfl) ?_
        refine q_iload dX0_findWanted_128 rfl ?_
        refine q_iload dX0_findWanted_130 rfl ?_
        refine q_iast (j := m) dX0_findWanted_132 (ty_r hb 24 rfl) (ix_n (by omega) (by omega)) ?_
        refine q_iinc (v := dn m) dX0_findWanted_133 rfl (dn_inc m) (by decide) (ls' := [(5, .int (dn m)), (3, .int (bi (c || !decide (mkN (fun e => wdB q e (v e) m) (psM q).length = mkN (fun e => v e m) (psM q).length)))), (7, .int (mkN (fun e => wdB q e (v e) m) (psM q).length)), (6, .int (mkN (fun e => kl q e m || (sn q m && bo q e)) (psM q).length)), (0, .ref (b + 21)), (1, .ref b), (2, .int (mkN (bo q) (psM q).length)), (4, .int (nI r))]) rfl ?_
        refine q_goto (tgt := 47) dX0_findWanted_136 (by decide) ?_
        refine q_pk [4, 5, 6, 1, 7, 0] (ls' := [(0, .ref (b + 21)), (1, .ref b), (2, .int (mkN (bo q) (psM q).length)), (3, .int (bi (c || !decide (mkN (fun e => wdB q e (v e) m) (psM q).length = mkN (fun e => v e m) (psM q).length)))), (4, .int (nI r)), (5, .int (dn m))]) rfl ?_
        exact ih _ _ _ (by omega) h1.uI h2.up (GRW_s hF hk (by omega) h3)
      · skip
        refine q_iconst (v := nI 1) dX0_findWanted_117 rfl ?_
        refine q_goto (tgt := 122) dX0_findWanted_118 (by decide) ?_
        refine q_ior dX0_findWanted_122 ?_
        refine q_top (y := bi (c || !decide (mkN (fun e => wdB q e (v e) m) (psM q).length = mkN (fun e => v e m) (psM q).length))) (bi_or1 (by rw [decide_eq_false c114]; rfl)) ?_
        refine q_istore_n dX0_findWanted_123 rfl (by decide) (ls' := [(3, .int (bi (c || !decide (mkN (fun e => wdB q e (v e) m) (psM q).length = mkN (fun e => v e m) (psM q).length)))), (7, .int (mkN (fun e => wdB q e (v e) m) (psM q).length)), (6, .int (mkN (fun e => kl q e m || (sn q m && bo q e)) (psM q).length)), (0, .ref (b + 21)), (1, .ref b), (2, .int (mkN (bo q) (psM q).length)), (4, .int (nI r)), (5, .int (nI m))]) rfl ?_
        refine q_aload_n dX0_findWanted_124 rfl rfl rfl ?_
        refine q_getr (r := b + 24) dX0_findWanted_125 fX0_18 rfl (ty_r hb 21 rfl) (hb.2.2 21 2 24 rfl) ?_
        refine q_iload dX0_findWanted_128 rfl ?_
        refine q_iload dX0_findWanted_130 rfl ?_
        refine q_iast (j := m) dX0_findWanted_132 (ty_r hb 24 rfl) (ix_n (by omega) (by omega)) ?_
        refine q_iinc (v := dn m) dX0_findWanted_133 rfl (dn_inc m) (by decide) (ls' := [(5, .int (dn m)), (3, .int (bi (c || !decide (mkN (fun e => wdB q e (v e) m) (psM q).length = mkN (fun e => v e m) (psM q).length)))), (7, .int (mkN (fun e => wdB q e (v e) m) (psM q).length)), (6, .int (mkN (fun e => kl q e m || (sn q m && bo q e)) (psM q).length)), (0, .ref (b + 21)), (1, .ref b), (2, .int (mkN (bo q) (psM q).length)), (4, .int (nI r))]) rfl ?_
        refine q_goto (tgt := 47) dX0_findWanted_136 (by decide) ?_
        refine q_pk [4, 5, 6, 1, 7, 0] (ls' := [(0, .ref (b + 21)), (1, .ref b), (2, .int (mkN (bo q) (psM q).length)), (3, .int (bi (c || !decide (mkN (fun e => wdB q e (v e) m) (psM q).length = mkN (fun e => v e m) (psM q).length)))), (4, .int (nI r)), (5, .int (dn m))]) rfl ?_
        exact ih _ _ _ (by omega) h1.uI h2.up (GRW_s hF hk (by omega) h3)
theorem y0_wanted {g : GG} {σ0 : HS} {b : Nat} {q : PS} (hq0 : FE σ0 b q) (hwk0 : FA σ0 (b + 22) q (wk q)) (hkl0 : FA σ0 (b + 23) q (kl q)) (hN : 0 < NN q) : ∀ (k r : Nat) (v : Nat → Nat → Bool) (c : Bool) (σ : HS), r + k = NN q + 1 → LX (b + 24) σ0 σ → FA σ (b + 24) q v → GRP (NN q) (psM q).length (fun e => wdB q e) v r c → WA g mX0_findWanted 2 0 0 (ZM g (FQ σ0 (b + 24) q (wtd q)) 0 0) 0 0 24 [(0, .ref (b + 21)), (1, .ref b), (2, .int (mkN (bo q) (psM q).length)), (3, .int (bi c)), (4, .int (nI r))] [] σ := by
  obtain ⟨hb0, hc, hw, hnb, hx, -⟩ := id hq0
  have hb14 : b = 14 ∨ 99 ≤ b := by rcases hb0.1 with h | ⟨j, h⟩ <;> omega
  have hNN := NN_le hc
  have hk := hq0.k
  have hF : ∀ e, e < (psM q).length → MF (NN q) (fun x n => (fun e => wdB q e) e x n = true) := fun e _ => wd_m hc hw hnb e
  intro k
  induction k with
  | zero =>
    intro r v c σ hm h1 h2 h3
    have hq := hq0.lx (by omega) h1
    obtain ⟨hb, -, -, -, -, h14, hs, hall, hr⟩ := id hq
    have hwk := hwk0.lx h1 (by omega)
    have hkl := hkl0.lx h1 (by omega)
    refine q_iload_n dX0_findWanted_24 rfl rfl ?_
    refine q_if_eqB (tgt := 145) dX0_findWanted_25 (by decide) (fun c25 => ?_) (fun c25 => ?_)
    · skip
      refine q_return dX0_findWanted_145 rfl (by omega) (by omega) ?_
      first | exact ⟨rfl, h1, h2.eq fun e he n hn => id (GRO_c h3.1 (h3.2.2 c25) e he n hn)⟩ | exact ⟨rfl, h1, h2.eq fun e he n hn => id (GRO_n h3.1 (by omega) e he n hn)⟩
    · skip
      refine q_iload dX0_findWanted_28 rfl ?_
      refine q_aload_n dX0_findWanted_30 rfl rfl rfl ?_
      refine q_geti (x := nI (NN q)) dX0_findWanted_31 fX0_58 rfl (ty_r hb 0 rfl) h14 ?_
      refine q_icmp_gtN (tgt := 145) dX0_findWanted_34 (by decide) (by omega) (by omega) (fun c34 => ?_) (fun c34 => ?_)
      · skip
        refine q_return dX0_findWanted_145 rfl (by omega) (by omega) ?_
        first | exact ⟨rfl, h1, h2.eq fun e he n hn => id (GRO_c h3.1 (h3.2.2 c25) e he n hn)⟩ | exact ⟨rfl, h1, h2.eq fun e he n hn => id (GRO_n h3.1 (by omega) e he n hn)⟩
      · exact absurd c34 (by omega)
  | succ k ih =>
    intro r v c σ hm h1 h2 h3
    have hq := hq0.lx (by omega) h1
    obtain ⟨hb, -, -, -, -, h14, hs, hall, hr⟩ := id hq
    have hwk := hwk0.lx h1 (by omega)
    have hkl := hkl0.lx h1 (by omega)
    refine q_iload_n dX0_findWanted_24 rfl rfl ?_
    refine q_if_eqB (tgt := 145) dX0_findWanted_25 (by decide) (fun c25 => ?_) (fun c25 => ?_)
    · skip
      refine q_return dX0_findWanted_145 rfl (by omega) (by omega) ?_
      first | exact ⟨rfl, h1, h2.eq fun e he n hn => id (GRO_c h3.1 (h3.2.2 c25) e he n hn)⟩ | exact ⟨rfl, h1, h2.eq fun e he n hn => id (GRO_n h3.1 (by omega) e he n hn)⟩
    · skip
      refine q_iload dX0_findWanted_28 rfl ?_
      refine q_aload_n dX0_findWanted_30 rfl rfl rfl ?_
      refine q_geti (x := nI (NN q)) dX0_findWanted_31 fX0_58 rfl (ty_r hb 0 rfl) h14 ?_
      refine q_icmp_gtN (tgt := 145) dX0_findWanted_34 (by decide) (by omega) (by omega) (fun c34 => ?_) (fun c34 => ?_)
      · skip
        refine q_return dX0_findWanted_145 rfl (by omega) (by omega) ?_
        first | exact ⟨rfl, h1, h2.eq fun e he n hn => id (GRO_c h3.1 (h3.2.2 c25) e he n hn)⟩ | exact ⟨rfl, h1, h2.eq fun e he n hn => id (GRO_n h3.1 (by omega) e he n hn)⟩
      · skip
        refine q_iconst (v := nI 0) dX0_findWanted_37 rfl ?_
        refine q_istore_n dX0_findWanted_38 rfl (by decide) (ls' := [(3, .int (nI 0)), (0, .ref (b + 21)), (1, .ref b), (2, .int (mkN (bo q) (psM q).length)), (4, .int (nI r))]) rfl ?_
        refine q_aload_n dX0_findWanted_39 rfl rfl rfl ?_
        refine q_geti (x := nI (NN q)) dX0_findWanted_40 fX0_58 rfl (ty_r hb 0 rfl) h14 ?_
        refine q_iconst (v := nI 1) dX0_findWanted_43 rfl ?_
        refine q_isubN dX0_findWanted_44 (by omega) ?_
        refine q_top (y := dn (NN q)) ((dn_pos hN).symm) ?_
        refine q_istore dX0_findWanted_45 (by decide) (ls' := [(5, .int (dn (NN q))), (3, .int (nI 0)), (0, .ref (b + 21)), (1, .ref b), (2, .int (mkN (bo q) (psM q).length)), (4, .int (nI r))]) rfl ?_
        refine q_pk [2, 3, 4, 1, 5, 0] (ls' := [(0, .ref (b + 21)), (1, .ref b), (2, .int (mkN (bo q) (psM q).length)), (3, .int (nI 0)), (4, .int (nI r)), (5, .int (dn (NN q)))]) rfl ?_
        exact y0_wanted_in hq0 hwk0 hkl0 (fun v2 c2 σ2 a1 a2 a3 => y0_wanted_o hq0 a1 (ih (r + 1) v2 c2 σ2 (by omega) a1 a2 (GRP_out hF h3 a3))) (NN q) v false σ (Nat.le_refl _) h1 h2 (GRP_in h3)
theorem z0_wanted {g : GG} {σ0 : HS} {b : Nat} {q : PS} (hq0 : FE σ0 b q) (hwk0 : FA σ0 (b + 22) q (wk q)) (hkl0 : FA σ0 (b + 23) q (kl q)) (hN : 0 < NN q) : CT g mX0_findWanted 2 0 0 [.ref (b + 21), .ref b] σ0 (FQ σ0 (b + 24) q (wtd q)) := by
  obtain ⟨hb0, hc, hw, hnb, hx, -⟩ := id hq0
  have hb14 : b = 14 ∨ 99 ≤ b := by rcases hb0.1 with h | ⟨j, h⟩ <;> omega
  have hNN := NN_le hc
  have hk := hq0.k
  have hF : ∀ e, e < (psM q).length → MF (NN q) (fun x n => (fun e => wdB q e) e x n = true) := fun e _ => wd_m hc hw hnb e
  obtain ⟨-, -, -, -, -, h14, hs, hall, hr⟩ := id hq0
  refine CT.of (by decide) (Nat.le_of_ble_eq_true rfl) ?_
  refine q_aload_n dX0_findWanted_0 rfl rfl rfl ?_
  refine q_getr (r := b + 17) dX0_findWanted_1 fX0_42 rfl (ty_r hb0 0 rfl) (hb0.2.2 0 10 17 rfl) ?_
  refine q_callV (As := []) (rest := []) dX0_findWanted_4 vX0_112 (ty_r hb0 17 rfl) ⟨by decide, rfl⟩ (z4_boldOnes hb0 hs) rfl rfl (Nat.le_of_ble_eq_true rfl) (by omega) (by omega) (by omega) (k_p ?_)
  refine q_istore_n dX0_findWanted_7 rfl (by decide) (ls' := [(2, .int (mkN (bo q) (psM q).length)), (0, .ref (b + 21)), (1, .ref b)]) rfl ?_
  refine q_aload_n dX0_findWanted_8 rfl rfl rfl ?_
  refine q_getr (r := b + 24) dX0_findWanted_9 fX0_18 rfl (ty_r hb0 21 rfl) (hb0.2.2 21 2 24 rfl) ?_
  refine q_aload_n dX0_findWanted_12 rfl rfl rfl ?_
  refine q_geti (x := mkN (fun _ => true) (psM q).length) dX0_findWanted_13 fX0_54 rfl (ty_r hb0 21 rfl) hall ?_
  refine q_callS (As := [.ref (b + 24), .int (mkN (fun _ => true) (psM q).length)]) (rest := []) dX0_findWanted_16 vX0_115 (zJ7_fill (len := 240) (ty_r hb0 24 rfl) (by decide)) rfl rfl (Nat.le_of_ble_eq_true rfl) (by omega) (by omega) (by omega) (k_s ?_)
  refine q_iconst (v := nI 1) dX0_findWanted_19 rfl ?_
  refine q_top (y := bi true) rfl ?_
  refine q_istore_n dX0_findWanted_20 rfl (by decide) (ls' := [(3, .int (bi true)), (2, .int (mkN (bo q) (psM q).length)), (0, .ref (b + 21)), (1, .ref b)]) rfl ?_
  refine q_iconst (v := nI 0) dX0_findWanted_21 rfl ?_
  refine q_istore dX0_findWanted_22 (by decide) (ls' := [(4, .int (nI 0)), (3, .int (bi true)), (2, .int (mkN (bo q) (psM q).length)), (0, .ref (b + 21)), (1, .ref b)]) rfl ?_
  refine q_pk [3, 4, 2, 1, 0] (ls' := [(0, .ref (b + 21)), (1, .ref b), (2, .int (mkN (bo q) (psM q).length)), (3, .int (bi true)), (4, .int (nI 0))]) rfl ?_
  exact y0_wanted hq0 hwk0 hkl0 hN (NN q + 1) 0 (fun _ _ => true) true _ (by omega) LX.fil (FA.fil hc rfl fun i _ => rfl) (GRP_0 rfl)

