/-! Class Facts: THERE and DELAYED, by rounds that take away ahead. -/
section SRT
variable {q : PS} {N k : Nat} {F : Nat → (Nat → Bool) → Nat → Prop} {D : Nat → (Nat → Bool) → Nat → Nat → Bool} {x : Nat → Bool}
/-- within a round: n is next; D says of a set, a NODE and one it leads to whether that may stay -/
def GRT (q : PS) (N k : Nat) (F : Nat → (Nat → Bool) → Nat → Prop) (D : Nat → (Nat → Bool) → Nat → Nat → Bool) (v0 v : Nat → Nat → Bool) (n : Nat) (c : Bool) : Prop :=
  (∀ e, e < k → Up N (F e) (v e) ∧ (∀ i, i < N → v e i = true → v0 e i = true) ∧ ((∀ i, i < N → v e i = v0 e i) → ∀ a, a < n → ∀ i, i < N → lto q a i → v0 e i = true → D e (v0 e) a i = true)) ∧ (c = false → ∀ e, e < k → ∀ i, i < N → v e i = v0 e i)
/-- what F, D and x have to do with one another -/
def DF (q : PS) (N : Nat) (F : Nat → (Nat → Bool) → Nat → Prop) (D : Nat → (Nat → Bool) → Nat → Nat → Bool) (x : Nat → Bool) : Prop :=
  (∀ e, MF N (F e)) ∧ (∀ e (u w : Nat → Bool), (∀ m, m < N → u m = true → w m = true) → ∀ a, a < N → ∀ i, D e u a i = true → D e w a i = true) ∧ (∀ e u a i, a < N → i < N → lto q a i → F e u i → D e u a i = true) ∧ (∀ e u, (∀ a, a < N → ∀ i, i < N → lto q a i → u i = true → D e u a i = true) → (u 0 = true → x e = true) → Cl N (F e) u)
def GRPt (N k : Nat) (F : Nat → (Nat → Bool) → Nat → Prop) (x : Nat → Bool) (v : Nat → Nat → Bool) (r : Nat) (c : Bool) : Prop :=
  GRO N k F v r ∧ (∀ e, e < k → v e 0 = true → x e = true) ∧ (c = false → ∀ e, e < k → Cl N (F e) (v e))
theorem GRT_0 {v : Nat → Nat → Bool} {r : Nat} {c : Bool} (h : GRPt N k F x v r c) : GRT q N k F D v v 0 false :=
  ⟨fun e he => ⟨(h.1 e he).1, fun _ _ h => h, fun _ a ha => absurd ha (by omega)⟩, fun _ _ _ _ _ => rfl⟩
theorem GRT_s (hd : DF q N F D x) {v0 v : Nat → Nat → Bool} {n : Nat} {c c' : Bool} (hn : n < N) (h : GRT q N k F D v0 v n c) (hc : c' = false → ∀ e, e < k → ∀ i, i < N → pu q (fun e i => D e (v e) n i) v n e i = v e i) : GRT q N k F D v0 (pu q (fun e i => D e (v e) n i) v n) (n + 1) (c || c') := by
  obtain ⟨d1, d2, d3, d4⟩ := hd
  have hdn : ∀ e i, pu q (fun e i => D e (v e) n i) v n e i = true → v e i = true := fun e i hu => by
    unfold pu at hu
    by_cases z : lto q n i
    · rw [if_pos z] at hu; exact (Bool.and_eq_true _ _ ▸ hu).1
    · rw [if_neg z] at hu; exact hu
  refine ⟨fun e he => ?_, fun hc2 e he i hi => ?_⟩
  · obtain ⟨a1, a2, a3⟩ := h.1 e he
    refine ⟨fun i hi hg => ?_, fun i hi hu => a2 i hi (hdn e i hu), fun hs a ha i hi hl hv => ?_⟩
    · have g1 := a1 i hi hg
      unfold pu
      by_cases z : lto q n i
      · rw [if_pos z]
        have g2 := d3 e _ n i hn hi z (gf_F (d1 e) i hi hg)
        have g3 := d2 e _ (v e) (fun m hm h => a1 m hm h) n hn i g2
        show (v e i && D e (v e) n i) = true
        rw [g1, g3]; rfl
      · rw [if_neg z]; exact g1
    · have hv2 : ∀ i, i < N → v e i = v0 e i := fun i hi => by
        cases y : v0 e i
        · cases y2 : v e i
          · rfl
          · have := a2 i hi y2; rw [y] at this; cases this
        · exact hdn e i (by rw [hs i hi]; exact y)
      by_cases ea : a = n
      · subst ea
        have h5 := hs i hi
        rw [hv] at h5
        unfold pu at h5
        rw [if_pos hl, Bool.and_eq_true] at h5
        exact d2 e _ _ a2 a hn i h5.2
      · exact a3 hv2 a (by omega) i hi hl hv
  · obtain ⟨c1, c2⟩ := Bool.or_eq_false_iff.mp hc2
    rw [hc c2 e he i hi]; exact h.2 c1 e he i hi
theorem GRT_out (hd : DF q N F D x) (hN : 0 < N) {v0 v : Nat → Nat → Bool} {r : Nat} {c0 c : Bool} (h : GRPt N k F x v0 r c0) (h2 : GRT q N k F D v0 v N c) : GRPt N k F x v (r + 1) c := by
  obtain ⟨d1, d2, d3, d4⟩ := hd
  refine ⟨GRO_s (fun e _ => d1 e) h.1 (fun e he => (h2.1 e he).1) (fun e he => (h2.1 e he).2.1) (fun e he hs => d4 e _ (fun a ha i hi hl hv => (h2.1 e he).2.2 hs a ha i hi hl hv) (h.2.1 e he)), fun e he hv => h.2.1 e he ((h2.1 e he).2.1 0 hN hv), fun hc e he => ?_⟩
  have hs := h2.2 hc e he
  exact Cl.same (d1 e) (d4 e _ (fun a ha i hi hl hv => (h2.1 e he).2.2 hs a ha i hi hl hv) (h.2.1 e he)) hs
end SRT
def thD (q : PS) (e : Nat) (u : Nat → Bool) (a : Nat) (_ : Nat) : Bool := !kl q e a && (wk q e a || u a)
noncomputable def dlD (q : PS) (e : Nat) (u : Nat → Bool) (a i : Nat) : Bool := (u a && !wk q e a) || ear q e i
theorem th_DF (q : PS) : DF q (NN q) (thF q) (thD q) (fun _ => false) :=
  ⟨fun e => th_m e, fun e u w h a ha i hd => by
    simp only [thD, Bool.and_eq_true, Bool.or_eq_true] at hd ⊢
    exact ⟨hd.1, hd.2.imp id (h a ha)⟩, fun e u a i ha hi hl hf => hf.2 a ha hl, fun e u h1 h2 i hi hu => ⟨fun z => (by subst z; have := h2 hu; cases this), fun a ha hl => h1 a ha i hi hl hu⟩⟩
theorem dl_0 {q : PS} {e : Nat} {v : Nat → Bool} (h : dlF q e v 0) : ear q e 0 = true := h.elim id fun h => absurd rfl h.1
theorem dl_DF (q : PS) : DF q (NN q) (dlF q) (dlD q) (fun e => ear q e 0) :=
  ⟨fun e => dl_m e, fun e u w h a ha i hd => by
    simp only [dlD, Bool.and_eq_true, Bool.or_eq_true] at hd ⊢
    exact hd.imp (fun z => ⟨h a ha z.1, z.2⟩) id, fun e u a i ha hi hl hf => by
    unfold dlD
    rcases hf with hf | hf
    · rw [hf, Bool.or_true]
    · rw [hf.2 a ha hl]; rfl, fun e u h1 h2 i hi hu => by
    by_cases z : ear q e i = true
    · exact Or.inl z
    · refine Or.inr ⟨fun z2 => ?_, fun a ha hl => ?_⟩
      · subst z2; exact z (h2 hu)
      · have h3 := h1 a ha i hi hl hu
        unfold dlD at h3
        rw [Bool.or_eq_true] at h3
        exact h3.resolve_right z⟩
theorem bi_orB {c d : Bool} : bi c ||| bi d = bi (c || d) := by cases c <;> cases d <;> rfl
theorem up1_t {q : PS} {x : Nat → Bool} {n i : Nat} {e : Nat} : up1 (fun _ _ => true) n x e i = if i = n then x e else true := rfl
theorem th_up0 {q : PS} {k : Nat} : GRPt (NN q) k (thF q) (fun _ => false) (up1 (fun _ _ => true) 0 (fun _ => false)) 0 true :=
  ⟨GRO_0 fun e he i hi hg => by
    rw [up1_t (q := q)]
    by_cases z : i = 0
    · exact absurd z (gf_F (th_m e) i hi hg).1
    · rw [if_neg z], fun e _ h => h, fun h => by cases h⟩
theorem dl_up0 {q : PS} {k : Nat} : GRPt (NN q) k (dlF q) (fun e => ear q e 0) (up1 (fun _ _ => true) 0 (fun e => ear q e 0)) 0 true :=
  ⟨GRO_0 fun e he i hi hg => by
    rw [up1_t (q := q)]
    by_cases z : i = 0
    · rw [if_pos z]
      rw [z] at hi hg
      exact dl_0 (gf_F (dl_m e) 0 hi hg)
    · rw [if_neg z], fun e _ h => h, fun h => by cases h⟩
theorem y0_there_o {g : GG} {σ0 σ : HS} {b : Nat} {q : PS} (hq0 : FE σ0 b q) (h1 : LX (b + 25) σ0 σ) {Z : List Frame → Array Value → State → State → Prop} {r : Nat} {c : Bool} (h : WA g mX0_findThere 1 0 0 Z 0 0 22 [(0, .ref (b + 21)), (1, .ref b), (2, .int (bi c)), (3, .int (nI (r + 1)))] [] σ) : WA g mX0_findThere 1 0 0 Z 0 0 94 [(0, .ref (b + 21)), (1, .ref b), (2, .int (bi c)), (3, .int (nI r))] [] σ := by
  have hb := (hq0.lx (by omega) h1).1
  have hb14 : b = 14 ∨ 99 ≤ b := by rcases hb.1 with h | ⟨j, h⟩ <;> omega
  refine q_iincN (c := 1) dX0_findThere_94 rfl (by decide) rfl (ls' := [(3, .int (nI (r + 1))), (0, .ref (b + 21)), (1, .ref b), (2, .int (bi c))]) rfl ?_
  refine q_goto (tgt := 22) dX0_findThere_97 (by decide) ?_
  refine q_pk [1, 2, 3, 0] (ls' := [(0, .ref (b + 21)), (1, .ref b), (2, .int (bi c)), (3, .int (nI (r + 1)))]) rfl ?_
  exact h
theorem y0_there_in {g : GG} {σ0 : HS} {b : Nat} {q : PS} (hq0 : FE σ0 b q) (hwk0 : FA σ0 (b + 22) q (wk q)) (hkl0 : FA σ0 (b + 23) q (kl q)) {Z : List Frame → Array Value → State → State → Prop} {r : Nat} {v0 : Nat → Nat → Bool} (K : ∀ v c σ, LX (b + 25) σ0 σ → FA σ (b + 25) q v → GRT q (NN q) (psM q).length (thF q) (thD q) v0 v (NN q) c → WA g mX0_findThere 1 0 0 Z 0 0 94 [(0, .ref (b + 21)), (1, .ref b), (2, .int (bi c)), (3, .int (nI r))] [] σ) : ∀ (k n : Nat) (v : Nat → Nat → Bool) (c : Bool) (σ : HS), n + k = NN q → LX (b + 25) σ0 σ → FA σ (b + 25) q v → GRT q (NN q) (psM q).length (thF q) (thD q) v0 v n c → WA g mX0_findThere 1 0 0 Z 0 0 39 [(0, .ref (b + 21)), (1, .ref b), (2, .int (bi c)), (3, .int (nI r)), (4, .int (nI n))] [] σ := by
  obtain ⟨hb0, hc, hw, hnb, hx, -⟩ := id hq0
  have hb14 : b = 14 ∨ 99 ≤ b := by rcases hb0.1 with h | ⟨j, h⟩ <;> omega
  have hNN := NN_le hc
  have hk := hq0.k
  have hD := th_DF q
  intro k
  induction k with
  | zero =>
    intro n v c σ hm h1 h2 h3
    have hq := hq0.lx (by omega) h1
    obtain ⟨hb, -, -, -, -, h14, hs, hall, hr⟩ := id hq
    have hwk := hwk0.lx h1 (by omega)
    have hkl := hkl0.lx h1 (by omega)
    refine q_iload dX0_findThere_39 rfl ?_
    refine q_aload_n dX0_findThere_41 rfl rfl rfl ?_
    refine q_geti (x := nI (NN q)) dX0_findThere_42 fX0_58 rfl (ty_r hb 0 rfl) h14 ?_
    refine q_icmp_geN (tgt := 94) dX0_findThere_45 (by decide) (by omega) (by omega) (fun c45 => ?_) (fun c45 => ?_)
    · skip
      refine q_pk [0, 1, 2, 3] (ls' := [(0, .ref (b + 21)), (1, .ref b), (2, .int (bi c)), (3, .int (nI r))]) rfl ?_
      exact K v c σ h1 h2 ((show n = NN q by omega) ▸ h3)
    · exact absurd c45 (by omega)
  | succ k ih =>
    intro n v c σ hm h1 h2 h3
    have hq := hq0.lx (by omega) h1
    obtain ⟨hb, -, -, -, -, h14, hs, hall, hr⟩ := id hq
    have hwk := hwk0.lx h1 (by omega)
    have hkl := hkl0.lx h1 (by omega)
    have g4 := h2 n (by omega)
    have g2 := hwk n (by omega)
    have g3 := hkl n (by omega)
    refine q_iload dX0_findThere_39 rfl ?_
    refine q_aload_n dX0_findThere_41 rfl rfl rfl ?_
    refine q_geti (x := nI (NN q)) dX0_findThere_42 fX0_58 rfl (ty_r hb 0 rfl) h14 ?_
    refine q_icmp_geN (tgt := 94) dX0_findThere_45 (by decide) (by omega) (by omega) (fun c45 => ?_) (fun c45 => ?_)
    · exact absurd c45 (by omega)
    · skip
      refine q_iload_n dX0_findThere_48 rfl rfl ?_
      refine q_aload_n dX0_findThere_49 rfl rfl rfl ?_
      refine q_aload_n dX0_findThere_50 rfl rfl rfl ?_
      refine q_iload dX0_findThere_51 rfl ?_
      refine q_aload_n dX0_findThere_53 rfl rfl rfl ?_
      refine q_getr (r := b + 25) dX0_findThere_54 fX0_21 rfl (ty_r hb 21 rfl) (hb.2.2 21 3 25 rfl) ?_
      refine q_iconst (v := nI 0) dX0_findThere_57 rfl ?_
      refine q_aload_n dX0_findThere_58 rfl rfl rfl ?_
      refine q_getr (r := b + 23) dX0_findThere_59 fX0_15 rfl (ty_r hb 21 rfl) (hb.2.2 21 1 23 rfl) ?_
      refine q_iload dX0_findThere_62 rfl ?_
      refine q_iald (x := mkN (fun e => kl q e n) (psM q).length) (j := n) dX0_findThere_64 (ty_r hb 23 rfl) (ix_n (by omega) (by omega)) g3 ?_
      refine q_iconst (v := (-1 : Int32)) dX0_findThere_65 rfl ?_
      refine q_ixor dX0_findThere_66 ?_
      refine q_aload_n dX0_findThere_67 rfl rfl rfl ?_
      refine q_getr (r := b + 22) dX0_findThere_68 fX0_9 rfl (ty_r hb 21 rfl) (hb.2.2 21 0 22 rfl) ?_
      refine q_iload dX0_findThere_71 rfl ?_
      refine q_iald (x := mkN (fun e => wk q e n) (psM q).length) (j := n) dX0_findThere_73 (ty_r hb 22 rfl) (ix_n (by omega) (by omega)) g2 ?_
      refine q_aload_n dX0_findThere_74 rfl rfl rfl ?_
      refine q_getr (r := b + 25) dX0_findThere_75 fX0_21 rfl (ty_r hb 21 rfl) (hb.2.2 21 3 25 rfl) ?_
      refine q_iload dX0_findThere_78 rfl ?_
      refine q_iald (x := mkN (fun e => v e n) (psM q).length) (j := n) dX0_findThere_80 (ty_r hb 25 rfl) (ix_n (by omega) (by omega)) g4 ?_
      refine q_ior dX0_findThere_81 ?_
      refine q_iand dX0_findThere_82 ?_
      refine q_top (y := mkN (fun e => thD q e (v e) n 0) (psM q).length) (by rw [mk_or hk, mk_nand hk]; rfl) ?_
      refine q_callV (As := [.ref b, .int (nI n), .ref (b + 25), .int (nI 0), .int (mkN (fun e => thD q e (v e) n 0) (psM q).length)]) (rest := [.int (bi c)]) dX0_findThere_83 vX0_125 (ty_r hb 21 rfl) ⟨by decide, rfl⟩ (z0_keep_25 (P := fun e => thD q e (v e) n 0) hq h2 (by omega)) rfl rfl (Nat.le_of_ble_eq_true rfl) (by omega) (by omega) (by omega) (k_b (fun x83 s83 q83 => ?_))
      refine q_ior dX0_findThere_86 ?_
      refine q_top (y := bi (c || x83)) bi_orB ?_
      refine q_istore_n dX0_findThere_87 rfl (by decide) (ls' := [(2, .int (bi (c || x83))), (0, .ref (b + 21)), (1, .ref b), (3, .int (nI r)), (4, .int (nI n))]) rfl ?_
      refine q_iincN (c := 1) dX0_findThere_88 rfl (by decide) rfl (ls' := [(4, .int (nI (n + 1))), (2, .int (bi (c || x83))), (0, .ref (b + 21)), (1, .ref b), (3, .int (nI r))]) rfl ?_
      refine q_goto (tgt := 39) dX0_findThere_91 (by decide) ?_
      refine q_pk [2, 3, 1, 4, 0] (ls' := [(0, .ref (b + 21)), (1, .ref b), (2, .int (bi (c || x83))), (3, .int (nI r)), (4, .int (nI (n + 1)))]) rfl ?_
      exact ih (n + 1) _ _ s83 (by omega) (h1.tr q83.1) q83.2.1 (GRT_s hD (by omega) h3 q83.2.2)
theorem y0_there {g : GG} {σ0 : HS} {b : Nat} {q : PS} (hq0 : FE σ0 b q) (hwk0 : FA σ0 (b + 22) q (wk q)) (hkl0 : FA σ0 (b + 23) q (kl q)) (hN : 0 < NN q) : ∀ (k r : Nat) (v : Nat → Nat → Bool) (c : Bool) (σ : HS), r + k = NN q + 1 → LX (b + 25) σ0 σ → FA σ (b + 25) q v → GRPt (NN q) (psM q).length (thF q) (fun _ => false) v r c → WA g mX0_findThere 1 0 0 (ZM g (FQ σ0 (b + 25) q (the q)) 0 0) 0 0 22 [(0, .ref (b + 21)), (1, .ref b), (2, .int (bi c)), (3, .int (nI r))] [] σ := by
  obtain ⟨hb0, hc, hw, hnb, hx, -⟩ := id hq0
  have hb14 : b = 14 ∨ 99 ≤ b := by rcases hb0.1 with h | ⟨j, h⟩ <;> omega
  have hNN := NN_le hc
  have hk := hq0.k
  have hD := th_DF q
  intro k
  induction k with
  | zero =>
    intro r v c σ hm h1 h2 h3
    have hq := hq0.lx (by omega) h1
    obtain ⟨hb, -, -, -, -, h14, hs, hall, hr⟩ := id hq
    have hwk := hwk0.lx h1 (by omega)
    have hkl := hkl0.lx h1 (by omega)
    refine q_iload_n dX0_findThere_22 rfl rfl ?_
    refine q_if_eqB (tgt := 100) dX0_findThere_23 (by decide) (fun c23 => ?_) (fun c23 => ?_)
    · skip
      refine q_return dX0_findThere_100 rfl (by omega) (by omega) ?_
      first | exact ⟨rfl, h1, h2.eq fun e he n hn => GRO_c h3.1 (h3.2.2 c23) e he n hn⟩ | exact ⟨rfl, h1, h2.eq fun e he n hn => GRO_n h3.1 (by omega) e he n hn⟩
    · skip
      refine q_iload_n dX0_findThere_26 rfl rfl ?_
      refine q_aload_n dX0_findThere_27 rfl rfl rfl ?_
      refine q_geti (x := nI (NN q)) dX0_findThere_28 fX0_58 rfl (ty_r hb 0 rfl) h14 ?_
      refine q_icmp_gtN (tgt := 100) dX0_findThere_31 (by decide) (by omega) (by omega) (fun c31 => ?_) (fun c31 => ?_)
      · skip
        refine q_return dX0_findThere_100 rfl (by omega) (by omega) ?_
        first | exact ⟨rfl, h1, h2.eq fun e he n hn => GRO_c h3.1 (h3.2.2 c23) e he n hn⟩ | exact ⟨rfl, h1, h2.eq fun e he n hn => GRO_n h3.1 (by omega) e he n hn⟩
      · exact absurd c31 (by omega)
  | succ k ih =>
    intro r v c σ hm h1 h2 h3
    have hq := hq0.lx (by omega) h1
    obtain ⟨hb, -, -, -, -, h14, hs, hall, hr⟩ := id hq
    have hwk := hwk0.lx h1 (by omega)
    have hkl := hkl0.lx h1 (by omega)
    refine q_iload_n dX0_findThere_22 rfl rfl ?_
    refine q_if_eqB (tgt := 100) dX0_findThere_23 (by decide) (fun c23 => ?_) (fun c23 => ?_)
    · skip
      refine q_return dX0_findThere_100 rfl (by omega) (by omega) ?_
      first | exact ⟨rfl, h1, h2.eq fun e he n hn => GRO_c h3.1 (h3.2.2 c23) e he n hn⟩ | exact ⟨rfl, h1, h2.eq fun e he n hn => GRO_n h3.1 (by omega) e he n hn⟩
    · skip
      refine q_iload_n dX0_findThere_26 rfl rfl ?_
      refine q_aload_n dX0_findThere_27 rfl rfl rfl ?_
      refine q_geti (x := nI (NN q)) dX0_findThere_28 fX0_58 rfl (ty_r hb 0 rfl) h14 ?_
      refine q_icmp_gtN (tgt := 100) dX0_findThere_31 (by decide) (by omega) (by omega) (fun c31 => ?_) (fun c31 => ?_)
      · skip
        refine q_return dX0_findThere_100 rfl (by omega) (by omega) ?_
        first | exact ⟨rfl, h1, h2.eq fun e he n hn => GRO_c h3.1 (h3.2.2 c23) e he n hn⟩ | exact ⟨rfl, h1, h2.eq fun e he n hn => GRO_n h3.1 (by omega) e he n hn⟩
      · skip
        refine q_iconst (v := nI 0) dX0_findThere_34 rfl ?_
        refine q_istore_n dX0_findThere_35 rfl (by decide) (ls' := [(2, .int (nI 0)), (0, .ref (b + 21)), (1, .ref b), (3, .int (nI r))]) rfl ?_
        refine q_iconst (v := nI 0) dX0_findThere_36 rfl ?_
        refine q_istore dX0_findThere_37 (by decide) (ls' := [(4, .int (nI 0)), (2, .int (nI 0)), (0, .ref (b + 21)), (1, .ref b), (3, .int (nI r))]) rfl ?_
        refine q_pk [2, 3, 1, 4, 0] (ls' := [(0, .ref (b + 21)), (1, .ref b), (2, .int (nI 0)), (3, .int (nI r)), (4, .int (nI 0))]) rfl ?_
        exact y0_there_in hq0 hwk0 hkl0 (fun v2 c2 σ2 a1 a2 a3 => y0_there_o hq0 a1 (ih (r + 1) v2 c2 σ2 (by omega) a1 a2 (GRT_out hD hN h3 a3))) (NN q) 0 v false σ (by omega) h1 h2 (GRT_0 h3)
theorem z0_there {g : GG} {σ0 : HS} {b : Nat} {q : PS} (hq0 : FE σ0 b q) (hwk0 : FA σ0 (b + 22) q (wk q)) (hkl0 : FA σ0 (b + 23) q (kl q)) (hN : 0 < NN q) : CT g mX0_findThere 1 0 0 [.ref (b + 21), .ref b] σ0 (FQ σ0 (b + 25) q (the q)) := by
  obtain ⟨hb0, hc, hw, hnb, hx, -⟩ := id hq0
  have hb14 : b = 14 ∨ 99 ≤ b := by rcases hb0.1 with h | ⟨j, h⟩ <;> omega
  have hNN := NN_le hc
  have hk := hq0.k
  have hD := th_DF q
  obtain ⟨-, -, -, -, -, h14, hs, hall, hr⟩ := id hq0
  refine CT.of (by decide) (Nat.le_of_ble_eq_true rfl) ?_
  refine q_aload_n dX0_findThere_0 rfl rfl rfl ?_
  refine q_getr (r := b + 25) dX0_findThere_1 fX0_21 rfl (ty_r hb0 21 rfl) (hb0.2.2 21 3 25 rfl) ?_
  refine q_aload_n dX0_findThere_4 rfl rfl rfl ?_
  refine q_geti (x := mkN (fun _ => true) (psM q).length) dX0_findThere_5 fX0_54 rfl (ty_r hb0 21 rfl) hall ?_
  refine q_callS (As := [.ref (b + 25), .int (mkN (fun _ => true) (psM q).length)]) (rest := []) dX0_findThere_8 vX0_115 (zJ7_fill (len := 240) (ty_r hb0 25 rfl) (by decide)) rfl rfl (Nat.le_of_ble_eq_true rfl) (by omega) (by omega) (by omega) (k_s ?_)
  have hb9 : RB (filS σ0 (b + 25) (mkN (fun _ => true) (psM q).length) 240) b := RB.lf (LX.fil.lf (b := b) (by omega)) hb0
  refine q_aload_n dX0_findThere_11 rfl rfl rfl ?_
  refine q_getr (r := b + 25) dX0_findThere_12 fX0_21 rfl (ty_r hb9 21 rfl) (hb9.2.2 21 3 25 rfl) ?_
  refine q_iconst (v := nI 0) dX0_findThere_15 rfl ?_
  refine q_iconst (v := nI 0) dX0_findThere_16 rfl ?_
  refine q_top (y := mkN (fun _ => false) (psM q).length) (mk_0 _) ?_
  refine q_iast (j := 0) dX0_findThere_17 (ty_r hb9 25 rfl) (ix_n (by omega) (by omega)) ?_
  refine q_iconst (v := nI 1) dX0_findThere_18 rfl ?_
  refine q_top (y := bi true) rfl ?_
  refine q_istore_n dX0_findThere_19 rfl (by decide) (ls' := [(2, .int (bi true)), (0, .ref (b + 21)), (1, .ref b)]) rfl ?_
  refine q_iconst (v := nI 0) dX0_findThere_20 rfl ?_
  refine q_istore_n dX0_findThere_21 rfl (by decide) (ls' := [(3, .int (nI 0)), (2, .int (bi true)), (0, .ref (b + 21)), (1, .ref b)]) rfl ?_
  refine q_pk [2, 3, 1, 0] (ls' := [(0, .ref (b + 21)), (1, .ref b), (2, .int (bi true)), (3, .int (nI 0))]) rfl ?_
  exact y0_there hq0 hwk0 hkl0 hN (NN q + 1) 0 (up1 (fun _ _ => true) 0 (fun _ => false)) true _ (by omega) LX.fil.uI (FA.up (f := fun _ _ => true) (FA.fil hc rfl fun i _ => rfl)) th_up0
theorem y0_delayed_o {g : GG} {σ0 σ : HS} {b : Nat} {q : PS} (hq0 : FE σ0 b q) (h1 : LX (b + 27) σ0 σ) {Z : List Frame → Array Value → State → State → Prop} {r : Nat} {c : Bool} (h : WA g mX0_findDelayed 1 0 0 Z 0 0 27 [(0, .ref (b + 21)), (1, .ref b), (2, .int (bi c)), (3, .int (nI (r + 1)))] [] σ) : WA g mX0_findDelayed 1 0 0 Z 0 0 94 [(0, .ref (b + 21)), (1, .ref b), (2, .int (bi c)), (3, .int (nI r))] [] σ := by
  have hb := (hq0.lx (by omega) h1).1
  have hb14 : b = 14 ∨ 99 ≤ b := by rcases hb.1 with h | ⟨j, h⟩ <;> omega
  refine q_iincN (c := 1) dX0_findDelayed_94 rfl (by decide) rfl (ls' := [(3, .int (nI (r + 1))), (0, .ref (b + 21)), (1, .ref b), (2, .int (bi c))]) rfl ?_
  refine q_goto (tgt := 27) dX0_findDelayed_97 (by decide) ?_
  refine q_pk [1, 2, 3, 0] (ls' := [(0, .ref (b + 21)), (1, .ref b), (2, .int (bi c)), (3, .int (nI (r + 1)))]) rfl ?_
  exact h
theorem y0_delayed_in {g : GG} {σ0 : HS} {b : Nat} {q : PS} (hq0 : FE σ0 b q) (hwk0 : FA σ0 (b + 22) q (wk q)) (hea0 : FA σ0 (b + 26) q (ear q)) {Z : List Frame → Array Value → State → State → Prop} {r : Nat} {v0 : Nat → Nat → Bool} (K : ∀ v c σ, LX (b + 27) σ0 σ → FA σ (b + 27) q v → GRT q (NN q) (psM q).length (dlF q) (dlD q) v0 v (NN q) c → WA g mX0_findDelayed 1 0 0 Z 0 0 94 [(0, .ref (b + 21)), (1, .ref b), (2, .int (bi c)), (3, .int (nI r))] [] σ) : ∀ (k n : Nat) (v : Nat → Nat → Bool) (c : Bool) (σ : HS), n + k = NN q → LX (b + 27) σ0 σ → FA σ (b + 27) q v → GRT q (NN q) (psM q).length (dlF q) (dlD q) v0 v n c → WA g mX0_findDelayed 1 0 0 Z 0 0 44 [(0, .ref (b + 21)), (1, .ref b), (2, .int (bi c)), (3, .int (nI r)), (4, .int (nI n))] [] σ := by
  obtain ⟨hb0, hc, hw, hnb, hx, -⟩ := id hq0
  have hb14 : b = 14 ∨ 99 ≤ b := by rcases hb0.1 with h | ⟨j, h⟩ <;> omega
  have hNN := NN_le hc
  have hk := hq0.k
  have hD := dl_DF q
  intro k
  induction k with
  | zero =>
    intro n v c σ hm h1 h2 h3
    have hq := hq0.lx (by omega) h1
    obtain ⟨hb, -, -, -, -, h14, hs, hall, hr⟩ := id hq
    have hwk := hwk0.lx h1 (by omega)
    have hea := hea0.lx h1 (by omega)
    refine q_iload dX0_findDelayed_44 rfl ?_
    refine q_aload_n dX0_findDelayed_46 rfl rfl rfl ?_
    refine q_geti (x := nI (NN q)) dX0_findDelayed_47 fX0_58 rfl (ty_r hb 0 rfl) h14 ?_
    refine q_icmp_geN (tgt := 94) dX0_findDelayed_50 (by decide) (by omega) (by omega) (fun c50 => ?_) (fun c50 => ?_)
    · skip
      refine q_pk [0, 1, 2, 3] (ls' := [(0, .ref (b + 21)), (1, .ref b), (2, .int (bi c)), (3, .int (nI r))]) rfl ?_
      exact K v c σ h1 h2 ((show n = NN q by omega) ▸ h3)
    · exact absurd c50 (by omega)
  | succ k ih =>
    intro n v c σ hm h1 h2 h3
    have hq := hq0.lx (by omega) h1
    obtain ⟨hb, -, -, -, -, h14, hs, hall, hr⟩ := id hq
    have hwk := hwk0.lx h1 (by omega)
    have hea := hea0.lx h1 (by omega)
    have g4 := h2 n (by omega)
    have g2 := hwk n (by omega)
    refine q_iload dX0_findDelayed_44 rfl ?_
    refine q_aload_n dX0_findDelayed_46 rfl rfl rfl ?_
    refine q_geti (x := nI (NN q)) dX0_findDelayed_47 fX0_58 rfl (ty_r hb 0 rfl) h14 ?_
    refine q_icmp_geN (tgt := 94) dX0_findDelayed_50 (by decide) (by omega) (by omega) (fun c50 => ?_) (fun c50 => ?_)
    · exact absurd c50 (by omega)
    · skip
      refine q_iload_n dX0_findDelayed_53 rfl rfl ?_
      refine q_aload_n dX0_findDelayed_54 rfl rfl rfl ?_
      refine q_aload_n dX0_findDelayed_55 rfl rfl rfl ?_
      refine q_iload dX0_findDelayed_56 rfl ?_
      refine q_aload_n dX0_findDelayed_58 rfl rfl rfl ?_
      refine q_getr (r := b + 27) dX0_findDelayed_59 fX0_27 rfl (ty_r hb 21 rfl) (hb.2.2 21 5 27 rfl) ?_
      refine q_aload_n dX0_findDelayed_62 rfl rfl rfl ?_
      refine q_geti (x := mkN (fun _ => true) (psM q).length) dX0_findDelayed_63 fX0_54 rfl (ty_r hb 21 rfl) hall ?_
      refine q_aload_n dX0_findDelayed_66 rfl rfl rfl ?_
      refine q_getr (r := b + 27) dX0_findDelayed_67 fX0_27 rfl (ty_r hb 21 rfl) (hb.2.2 21 5 27 rfl) ?_
      refine q_iload dX0_findDelayed_70 rfl ?_
      refine q_iald (x := mkN (fun e => v e n) (psM q).length) (j := n) dX0_findDelayed_72 (ty_r hb 27 rfl) (ix_n (by omega) (by omega)) g4 ?_
      refine q_aload_n dX0_findDelayed_73 rfl rfl rfl ?_
      refine q_getr (r := b + 22) dX0_findDelayed_74 fX0_9 rfl (ty_r hb 21 rfl) (hb.2.2 21 0 22 rfl) ?_
      refine q_iload dX0_findDelayed_77 rfl ?_
      refine q_iald (x := mkN (fun e => wk q e n) (psM q).length) (j := n) dX0_findDelayed_79 (ty_r hb 22 rfl) (ix_n (by omega) (by omega)) g2 ?_
      refine q_iconst (v := (-1 : Int32)) dX0_findDelayed_80 rfl ?_
      refine q_ixor dX0_findDelayed_81 ?_
      refine q_iand dX0_findDelayed_82 ?_
      refine q_top (y := mkN (fun e => v e n && !wk q e n) (psM q).length) (mk_andn hk) ?_
      refine q_callV (As := [.ref b, .int (nI n), .ref (b + 27), .int (mkN (fun _ => true) (psM q).length), .int (mkN (fun e => v e n && !wk q e n) (psM q).length)]) (rest := [.int (bi c)]) dX0_findDelayed_83 vX0_125 (ty_r hb 21 rfl) ⟨by decide, rfl⟩ (z0_keep_27 (P := fun e => v e n && !wk q e n) hq h2 hea (by omega)) rfl rfl (Nat.le_of_ble_eq_true rfl) (by omega) (by omega) (by omega) (k_b (fun x83 s83 q83 => ?_))
      refine q_ior dX0_findDelayed_86 ?_
      refine q_top (y := bi (c || x83)) bi_orB ?_
      refine q_istore_n dX0_findDelayed_87 rfl (by decide) (ls' := [(2, .int (bi (c || x83))), (0, .ref (b + 21)), (1, .ref b), (3, .int (nI r)), (4, .int (nI n))]) rfl ?_
      refine q_iincN (c := 1) dX0_findDelayed_88 rfl (by decide) rfl (ls' := [(4, .int (nI (n + 1))), (2, .int (bi (c || x83))), (0, .ref (b + 21)), (1, .ref b), (3, .int (nI r))]) rfl ?_
      refine q_goto (tgt := 44) dX0_findDelayed_91 (by decide) ?_
      refine q_pk [2, 3, 1, 4, 0] (ls' := [(0, .ref (b + 21)), (1, .ref b), (2, .int (bi (c || x83))), (3, .int (nI r)), (4, .int (nI (n + 1)))]) rfl ?_
      exact ih (n + 1) _ _ s83 (by omega) (h1.tr q83.1) q83.2.1 (GRT_s hD (by omega) h3 q83.2.2)
theorem y0_delayed {g : GG} {σ0 : HS} {b : Nat} {q : PS} (hq0 : FE σ0 b q) (hwk0 : FA σ0 (b + 22) q (wk q)) (hea0 : FA σ0 (b + 26) q (ear q)) (hN : 0 < NN q) : ∀ (k r : Nat) (v : Nat → Nat → Bool) (c : Bool) (σ : HS), r + k = NN q + 1 → LX (b + 27) σ0 σ → FA σ (b + 27) q v → GRPt (NN q) (psM q).length (dlF q) (fun e => ear q e 0) v r c → WA g mX0_findDelayed 1 0 0 (ZM g (FQ σ0 (b + 27) q (dly q)) 0 0) 0 0 27 [(0, .ref (b + 21)), (1, .ref b), (2, .int (bi c)), (3, .int (nI r))] [] σ := by
  obtain ⟨hb0, hc, hw, hnb, hx, -⟩ := id hq0
  have hb14 : b = 14 ∨ 99 ≤ b := by rcases hb0.1 with h | ⟨j, h⟩ <;> omega
  have hNN := NN_le hc
  have hk := hq0.k
  have hD := dl_DF q
  intro k
  induction k with
  | zero =>
    intro r v c σ hm h1 h2 h3
    have hq := hq0.lx (by omega) h1
    obtain ⟨hb, -, -, -, -, h14, hs, hall, hr⟩ := id hq
    have hwk := hwk0.lx h1 (by omega)
    have hea := hea0.lx h1 (by omega)
    refine q_iload_n dX0_findDelayed_27 rfl rfl ?_
    refine q_if_eqB (tgt := 100) dX0_findDelayed_28 (by decide) (fun c28 => ?_) (fun c28 => ?_)
    · skip
      refine q_return dX0_findDelayed_100 rfl (by omega) (by omega) ?_
      first | exact ⟨rfl, h1, h2.eq fun e he n hn => GRO_c h3.1 (h3.2.2 c28) e he n hn⟩ | exact ⟨rfl, h1, h2.eq fun e he n hn => GRO_n h3.1 (by omega) e he n hn⟩
    · skip
      refine q_iload_n dX0_findDelayed_31 rfl rfl ?_
      refine q_aload_n dX0_findDelayed_32 rfl rfl rfl ?_
      refine q_geti (x := nI (NN q)) dX0_findDelayed_33 fX0_58 rfl (ty_r hb 0 rfl) h14 ?_
      refine q_icmp_gtN (tgt := 100) dX0_findDelayed_36 (by decide) (by omega) (by omega) (fun c36 => ?_) (fun c36 => ?_)
      · skip
        refine q_return dX0_findDelayed_100 rfl (by omega) (by omega) ?_
        first | exact ⟨rfl, h1, h2.eq fun e he n hn => GRO_c h3.1 (h3.2.2 c28) e he n hn⟩ | exact ⟨rfl, h1, h2.eq fun e he n hn => GRO_n h3.1 (by omega) e he n hn⟩
      · exact absurd c36 (by omega)
  | succ k ih =>
    intro r v c σ hm h1 h2 h3
    have hq := hq0.lx (by omega) h1
    obtain ⟨hb, -, -, -, -, h14, hs, hall, hr⟩ := id hq
    have hwk := hwk0.lx h1 (by omega)
    have hea := hea0.lx h1 (by omega)
    refine q_iload_n dX0_findDelayed_27 rfl rfl ?_
    refine q_if_eqB (tgt := 100) dX0_findDelayed_28 (by decide) (fun c28 => ?_) (fun c28 => ?_)
    · skip
      refine q_return dX0_findDelayed_100 rfl (by omega) (by omega) ?_
      first | exact ⟨rfl, h1, h2.eq fun e he n hn => GRO_c h3.1 (h3.2.2 c28) e he n hn⟩ | exact ⟨rfl, h1, h2.eq fun e he n hn => GRO_n h3.1 (by omega) e he n hn⟩
    · skip
      refine q_iload_n dX0_findDelayed_31 rfl rfl ?_
      refine q_aload_n dX0_findDelayed_32 rfl rfl rfl ?_
      refine q_geti (x := nI (NN q)) dX0_findDelayed_33 fX0_58 rfl (ty_r hb 0 rfl) h14 ?_
      refine q_icmp_gtN (tgt := 100) dX0_findDelayed_36 (by decide) (by omega) (by omega) (fun c36 => ?_) (fun c36 => ?_)
      · skip
        refine q_return dX0_findDelayed_100 rfl (by omega) (by omega) ?_
        first | exact ⟨rfl, h1, h2.eq fun e he n hn => GRO_c h3.1 (h3.2.2 c28) e he n hn⟩ | exact ⟨rfl, h1, h2.eq fun e he n hn => GRO_n h3.1 (by omega) e he n hn⟩
      · skip
        refine q_iconst (v := nI 0) dX0_findDelayed_39 rfl ?_
        refine q_istore_n dX0_findDelayed_40 rfl (by decide) (ls' := [(2, .int (nI 0)), (0, .ref (b + 21)), (1, .ref b), (3, .int (nI r))]) rfl ?_
        refine q_iconst (v := nI 0) dX0_findDelayed_41 rfl ?_
        refine q_istore dX0_findDelayed_42 (by decide) (ls' := [(4, .int (nI 0)), (2, .int (nI 0)), (0, .ref (b + 21)), (1, .ref b), (3, .int (nI r))]) rfl ?_
        refine q_pk [2, 3, 1, 4, 0] (ls' := [(0, .ref (b + 21)), (1, .ref b), (2, .int (nI 0)), (3, .int (nI r)), (4, .int (nI 0))]) rfl ?_
        exact y0_delayed_in hq0 hwk0 hea0 (fun v2 c2 σ2 a1 a2 a3 => y0_delayed_o hq0 a1 (ih (r + 1) v2 c2 σ2 (by omega) a1 a2 (GRT_out hD hN h3 a3))) (NN q) 0 v false σ (by omega) h1 h2 (GRT_0 h3)
theorem z0_delayed {g : GG} {σ0 : HS} {b : Nat} {q : PS} (hq0 : FE σ0 b q) (hwk0 : FA σ0 (b + 22) q (wk q)) (hea0 : FA σ0 (b + 26) q (ear q)) (hN : 0 < NN q) : CT g mX0_findDelayed 1 0 0 [.ref (b + 21), .ref b] σ0 (FQ σ0 (b + 27) q (dly q)) := by
  obtain ⟨hb0, hc, hw, hnb, hx, -⟩ := id hq0
  have hb14 : b = 14 ∨ 99 ≤ b := by rcases hb0.1 with h | ⟨j, h⟩ <;> omega
  have hNN := NN_le hc
  have hk := hq0.k
  have hD := dl_DF q
  obtain ⟨-, -, -, -, -, h14, hs, hall, hr⟩ := id hq0
  have g5 := hea0 0 hN
  refine CT.of (by decide) (Nat.le_of_ble_eq_true rfl) ?_
  refine q_aload_n dX0_findDelayed_0 rfl rfl rfl ?_
  refine q_getr (r := b + 27) dX0_findDelayed_1 fX0_27 rfl (ty_r hb0 21 rfl) (hb0.2.2 21 5 27 rfl) ?_
  refine q_aload_n dX0_findDelayed_4 rfl rfl rfl ?_
  refine q_geti (x := mkN (fun _ => true) (psM q).length) dX0_findDelayed_5 fX0_54 rfl (ty_r hb0 21 rfl) hall ?_
  refine q_callS (As := [.ref (b + 27), .int (mkN (fun _ => true) (psM q).length)]) (rest := []) dX0_findDelayed_8 vX0_115 (zJ7_fill (len := 240) (ty_r hb0 27 rfl) (by decide)) rfl rfl (Nat.le_of_ble_eq_true rfl) (by omega) (by omega) (by omega) (k_s ?_)
  have hb9 : RB (filS σ0 (b + 27) (mkN (fun _ => true) (psM q).length) 240) b := RB.lf (LX.fil.lf (b := b) (by omega)) hb0
  refine q_aload_n dX0_findDelayed_11 rfl rfl rfl ?_
  refine q_getr (r := b + 27) dX0_findDelayed_12 fX0_27 rfl (ty_r hb9 21 rfl) (hb9.2.2 21 5 27 rfl) ?_
  refine q_iconst (v := nI 0) dX0_findDelayed_15 rfl ?_
  refine q_aload_n dX0_findDelayed_16 rfl rfl rfl ?_
  refine q_getr (r := b + 26) dX0_findDelayed_17 fX0_24 rfl (ty_r hb9 21 rfl) (hb9.2.2 21 4 26 rfl) ?_
  refine q_iconst (v := nI 0) dX0_findDelayed_20 rfl ?_
  refine q_iald (x := mkN (fun e => ear q e 0) (psM q).length) (j := 0) dX0_findDelayed_21 (ty_r hb9 26 rfl) (ix_n (by omega) (by omega)) (by rw [filS_I, if_neg (by omega)]; exact g5) ?_
  refine q_iast (j := 0) dX0_findDelayed_22 (ty_r hb9 27 rfl) (ix_n (by omega) (by omega)) ?_
  refine q_iconst (v := nI 1) dX0_findDelayed_23 rfl ?_
  refine q_top (y := bi true) rfl ?_
  refine q_istore_n dX0_findDelayed_24 rfl (by decide) (ls' := [(2, .int (bi true)), (0, .ref (b + 21)), (1, .ref b)]) rfl ?_
  refine q_iconst (v := nI 0) dX0_findDelayed_25 rfl ?_
  refine q_istore_n dX0_findDelayed_26 rfl (by decide) (ls' := [(3, .int (nI 0)), (2, .int (bi true)), (0, .ref (b + 21)), (1, .ref b)]) rfl ?_
  refine q_pk [2, 3, 1, 0] (ls' := [(0, .ref (b + 21)), (1, .ref b), (2, .int (bi true)), (3, .int (nI 0))]) rfl ?_
  exact y0_delayed hq0 hwk0 hea0 hN (NN q + 1) 0 (up1 (fun _ _ => true) 0 (fun e => ear q e 0)) true _ (by omega) LX.fil.uI (FA.up (f := fun _ _ => true) (FA.fil hc rfl fun i _ => rfl)) dl_up0

