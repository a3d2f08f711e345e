/-! The model: narrow. -/
/-- the facts of one SUM -/
def fcq (F N h i : Nat) : Prop := h = 83 ∧ F ≤ i ∧ i < F + N
/-- bit j of NODE k taken away -/
def clr (v : Nat → Nat → Bool) (j k : Nat) : Nat → Nat → Bool := fun b n => if n = k then (v b n && !decide (b = j)) else v b n
/-- bit j of NODE k set -/
def stb (v : Nat → Nat → Bool) (j k : Nat) : Nat → Nat → Bool := fun b n => if n = k then (v b n || decide (b = j)) else v b n
theorem fcS.ext {σ : HS} {F N : Nat} {v v' : Nat → Nat → Bool} (h : fcS σ F N v) (he : ∀ k, k < N → ∀ b, b < 8 → v b k = v' b k) : fcS σ F N v' := fun k hk => (h k hk).trans (mk_ext fun b hb => he k hk b hb)
theorem fcS.clrS {σ : HS} {F N j k : Nat} {v : Nat → Nat → Bool} (h : fcS σ F N v) : fcS (uI σ 83 (F + k) (mkN (fun b => v b k && !decide (b = j)) 8)) F N (clr v j k) := fun n hn => by
  unfold clr
  by_cases e : n = k
  · rw [e, uI_self]; exact mk_ext fun b _ => by rw [if_pos rfl]
  · rw [rd_ne (by omega), h n hn]; exact mk_ext fun b _ => by rw [if_neg e]
theorem fcS.stbS {σ : HS} {F N j k : Nat} {v : Nat → Nat → Bool} (h : fcS σ F N v) : fcS (uI σ 83 (F + k) (mkN (fun b => v b k || decide (b = j)) 8)) F N (stb v j k) := fun n hn => by
  unfold stb
  by_cases e : n = k
  · rw [e, uI_self]; exact mk_ext fun b _ => by rw [if_pos rfl]
  · rw [rd_ne (by omega), h n hn]; exact mk_ext fun b _ => by rw [if_neg e]
theorem clr_o {v : Nat → Nat → Bool} {j k b n : Nat} (h : b ≠ j) : clr v j k b n = v b n := by
  unfold clr; rw [decide_eq_false h]; simp
theorem clr_j {v : Nat → Nat → Bool} {j k : Nat} : clr v j k j k = false := by unfold clr; simp
theorem clr_n {v : Nat → Nat → Bool} {j k b n : Nat} (h : n ≠ k) : clr v j k b n = v b n := by unfold clr; rw [if_neg h]
theorem clr_le {v : Nat → Nat → Bool} {j k b n : Nat} (h : clr v j k b n = true) : v b n = true := by
  unfold clr at h
  by_cases e : n = k
  · rw [if_pos e, Bool.and_eq_true] at h; exact h.1
  · rw [if_neg e] at h; exact h
theorem MR0.fc {σ σ' : HS} {p : Nat} {q : PS} {F N : Nat} (f : FR9 (fcq F N) σ σ') (h : MR0 σ p q) : MR0 σ' p q := h.cp fun a i h1 h2 => f.2.2.2 a i (by unfold fcq; omega)
theorem HC.cg {q : PS} {e j : Nat} {v v' : Nat → Nat → Bool} (hj : j = 2 ∨ j = 3 ∨ j = 5 ∨ j = 7) (h : HC q e j v) (he : ∀ b n, b ≠ j → n < NN q → v' b n = v b n) : HC q e j v' :=
  ⟨fun n hn => ⟨(he 0 n (by omega) hn).trans (h.1 n hn).1, (he 1 n (by omega) hn).trans (h.1 n hn).2⟩, fun z n hn => (he 4 n (by omega) hn).trans (h.2.1 z n hn), fun z n hn => (he 6 n (by omega) hn).trans (h.2.2 z n hn)⟩
/-- what narrow holds -/
def NI (σ0 : HS) (q : PS) (F e j : Nat) (v0 : Nat → Nat → Bool) (σ : HS) (v : Nat → Nat → Bool) : Prop := FR9 (fcq F (NN q)) σ0 σ ∧ fcS σ F (NN q) v ∧ (∀ b n, b ≠ j → n < NN q → v b n = v0 b n) ∧ Up (NN q) (FJ q e j) (v j)
section MNA
variable {g : GG} {σ σ0 : HS} {q : PS} {F : Nat} {v0 : Nat → Nat → Bool} {Z : List Frame → Array Value → State → State → Prop}
theorem y9_nr21 (hS : SK σ0) (hR : MR0 σ0 4 q) (hc : BC q) (hw : WFs q) (hB : NB q) (hx : psX q = false) (hF : F + NN q ≤ 38400) {e j : Nat} (he : e < (psM q).length) (hj : j = 2 ∨ j = 3 ∨ j = 5 ∨ j = 7) (h0 : HC q e j v0) {c : Nat} (K : ∀ (v : Nat → Nat → Bool) (σ : HS) (more : Bool), NI σ0 q F e j v0 σ v → (more = false → Cl (NN q) (FJ q e j) (v j)) → (more = true → cnt (v j) (NN q) < c) → WA g mX9_narrow 3 0 0 Z 0 0 10 [(0, .ref 58), (1, .int (nI e)), (2, .int (nI (2 ^ j))), (3, .int (nI F)), (4, .int (bi more))] [] σ) : ∀ (m k : Nat) (v : Nat → Nat → Bool) (σ : HS) (more : Bool), k + m = NN q → NI σ0 q F e j v0 σ v → (more = false → cnt (v j) (NN q) ≤ c ∧ ∀ n, n < k → v j n = true → FJ q e j (v j) n) → (more = true → cnt (v j) (NN q) < c) → WA g mX9_narrow 3 0 0 Z 0 0 21 [(0, .ref 58), (1, .int (nI e)), (2, .int (nI (2 ^ j))), (3, .int (nI F)), (4, .int (bi more)), (5, .int (nI k))] [] σ := by
  have hN := NN_le hc
  have hj8 : j < 8 := by omega
  intro m
  induction m with
  | zero =>
    intro k v σ more hk hI hf ht
    have h62 : sI σ 62 4 = nI (NN q) := (hR.fc hI.1).2.1
    have hS1 := SK.fq hI.1 hS
    refine q_iload dX9_narrow_21 rfl ?_
    refine q_aload_n dX9_narrow_23 rfl rfl rfl ?_
    refine q_getr (r := 62) dX9_narrow_24 fX9_43 rfl (ty_c hS1 (by decide) rfl) (hS1.2 58 10 62 rfl) ?_
    refine q_iconst (v := nI 4) dX9_narrow_27 rfl ?_
    refine q_iald (x := nI (NN q)) (j := 4) dX9_narrow_28 (ty_c hS1 (by decide) rfl) (ix_n (by omega) (by omega)) h62 ?_
    refine q_icmp_geN (tgt := 82) dX9_narrow_29 (by decide) (by omega) (by omega) (fun c29 => ?_) (fun c29 => ?_)
    · skip
      refine q_goto (tgt := 10) dX9_narrow_82 (by decide) ?_
      refine q_pk [0, 1, 2, 3, 4] (ls' := [(0, .ref 58), (1, .int (nI e)), (2, .int (nI (2 ^ j))), (3, .int (nI F)), (4, .int (bi more))]) rfl ?_
      exact K v σ more hI (fun z n hn hv => (hf z).2 n (by omega) hv) ht
    · exact absurd c29 (by omega)
  | succ m ih =>
    intro k v σ more hk hI hf ht
    have hkN : k < NN q := by omega
    have hR1 := hR.fc hI.1
    have h62 : sI σ 62 4 = nI (NN q) := hR1.2.1
    have hS1 := SK.fq hI.1 hS
    have hH := h0.cg hj hI.2.2.1
    have r := hI.2.1 k hkN
    have keep : (v j k = true → FJ q e j (v j) k) → WA g mX9_narrow 3 0 0 Z 0 0 21 [(0, .ref 58), (1, .int (nI e)), (2, .int (nI (2 ^ j))), (3, .int (nI F)), (4, .int (bi more)), (5, .int (nI (k + 1)))] [] σ := fun z => ih (k + 1) v σ more (by omega) hI (fun y => ⟨(hf y).1, fun n hn hv => by
      by_cases en : n = k
      · rw [en] at hv ⊢; exact z hv
      · exact (hf y).2 n (by omega) hv⟩) ht
    have gone : v j k = true → ¬ FJ q e j (v j) k → WA g mX9_narrow 3 0 0 Z 0 0 21 [(0, .ref 58), (1, .int (nI e)), (2, .int (nI (2 ^ j))), (3, .int (nI F)), (4, .int (bi true)), (5, .int (nI (k + 1)))] [] (uI σ 83 (F + k) (mkN (fun b => v b k && !decide (b = j)) 8)) := fun z1 z2 => by
      have hlt : cnt (clr v j k j) (NN q) < cnt (v j) (NN q) := cnt_lt (fun i _ hi => clr_le hi) ⟨k, hkN, z1, by rw [clr_j]; decide⟩
      refine ih (k + 1) (clr v j k) _ true (by omega) ⟨hI.1.uI ⟨rfl, by omega, by omega⟩, hI.2.1.clrS, fun b n hb hn => (clr_o hb).trans (hI.2.2.1 b n hb hn), ?_⟩ (fun y => by cases y) (fun _ => ?_)
      · exact hI.2.2.2.upd (FJ_m hc hw hB hj) hkN (fun m hm => clr_n hm) (fun y => absurd y z2)
      · cases more with
        | false => have := (hf rfl).1; omega
        | true => have := ht rfl; omega
    refine q_iload dX9_narrow_21 rfl ?_
    refine q_aload_n dX9_narrow_23 rfl rfl rfl ?_
    refine q_getr (r := 62) dX9_narrow_24 fX9_43 rfl (ty_c hS1 (by decide) rfl) (hS1.2 58 10 62 rfl) ?_
    refine q_iconst (v := nI 4) dX9_narrow_27 rfl ?_
    refine q_iald (x := nI (NN q)) (j := 4) dX9_narrow_28 (ty_c hS1 (by decide) rfl) (ix_n (by omega) (by omega)) h62 ?_
    refine q_icmp_geN (tgt := 82) dX9_narrow_29 (by decide) (by omega) (by omega) (fun c29 => ?_) (fun c29 => ?_)
    · exact absurd c29 (by omega)
    · skip
      refine q_aload_n dX9_narrow_32 rfl rfl rfl ?_
      refine q_iload_n dX9_narrow_33 rfl rfl ?_
      refine q_iload dX9_narrow_34 rfl ?_
      refine q_iload_n dX9_narrow_36 rfl rfl ?_
      refine q_callV (As := [.int (nI F), .int (nI k), .int (nI (2 ^ j))]) (rest := []) dX9_narrow_37 vX9_347 (ty_c hS1 (by decide) rfl) ⟨by decide, rfl⟩ (z9_is hS1 hI.2.1 hF hkN hj8) rfl rfl (Nat.le_of_ble_eq_true rfl) (by omega) (by omega) (by omega) (k_p ?_)
      refine q_if_eqB (tgt := 76) dX9_narrow_40 (by decide) (fun c40 => ?_) (fun c40 => ?_)
      · skip
        refine q_iincN (c := 1) dX9_narrow_76 rfl (by decide) rfl (ls' := [(5, .int (nI (k + 1))), (0, .ref 58), (1, .int (nI e)), (2, .int (nI (2 ^ j))), (3, .int (nI F)), (4, .int (bi more))]) rfl ?_
        refine q_goto (tgt := 21) dX9_narrow_79 (by decide) ?_
        refine q_pk [1, 2, 3, 4, 5, 0] (ls' := [(0, .ref 58), (1, .int (nI e)), (2, .int (nI (2 ^ j))), (3, .int (nI F)), (4, .int (bi more)), (5, .int (nI (k + 1)))]) rfl ?_
        first | exact gone c40 (dcd_f.mp c52) | exact keep (fun _ => dcd_t.mp c52) | exact keep (fun y => by rw [c40] at y; cases y)
      · skip
        refine q_aload_n dX9_narrow_43 rfl rfl rfl ?_
        refine q_iload_n dX9_narrow_44 rfl rfl ?_
        refine q_iload_n dX9_narrow_45 rfl rfl ?_
        refine q_iload dX9_narrow_46 rfl ?_
        refine q_iload_n dX9_narrow_48 rfl rfl ?_
        refine q_callV (As := [.int (nI e), .int (nI F), .int (nI k), .int (nI (2 ^ j))]) (rest := []) dX9_narrow_49 vX9_357 (ty_c hS1 (by decide) rfl) ⟨by decide, rfl⟩ (z9_holds hS1 hR1 hc hw hB hx hI.2.1 hF he hkN hj hH) rfl rfl (Nat.le_of_ble_eq_true rfl) (by omega) (by omega) (by omega) (k_p ?_)
        refine q_if_eqB (tgt := 58) dX9_narrow_52 (by decide) (fun c52 => ?_) (fun c52 => ?_)
        · skip
          refine q_aload_n dX9_narrow_58 rfl rfl rfl ?_
          refine q_getr (r := 83) dX9_narrow_59 fX9_107 rfl (ty_c hS1 (by decide) rfl) (hS1.2 58 31 83 rfl) ?_
          refine q_iload_n dX9_narrow_62 rfl rfl ?_
          refine q_iload dX9_narrow_63 rfl ?_
          refine q_iaddN dX9_narrow_65 ?_
          refine q_dup2 dX9_narrow_66 rfl rfl ?_
          refine q_iald (x := mkN (fun b => v b k) 8) (j := (F + k)) dX9_narrow_67 (ty_c hS1 (by decide) rfl) (ix_n (by omega) (by omega)) r ?_
          refine q_iload_n dX9_narrow_68 rfl rfl ?_
          refine q_iconst (v := (-1 : Int32)) dX9_narrow_69 rfl ?_
          refine q_ixor dX9_narrow_70 ?_
          refine q_iand dX9_narrow_71 ?_
          refine q_top (y := mkN (fun b => v b k && !decide (b = j)) 8) (clr_b hj8) ?_
          refine q_iast (j := (F + k)) dX9_narrow_72 (ty_c hS1 (by decide) rfl) (ix_n (by omega) (by omega)) ?_
          refine q_iconst (v := nI 1) dX9_narrow_73 rfl ?_
          refine q_top (y := bi true) rfl ?_
          refine q_istore dX9_narrow_74 (by decide) (ls' := [(4, .int (bi true)), (0, .ref 58), (1, .int (nI e)), (2, .int (nI (2 ^ j))), (3, .int (nI F)), (5, .int (nI k))]) rfl ?_
          refine q_iincN (c := 1) dX9_narrow_76 rfl (by decide) rfl (ls' := [(5, .int (nI (k + 1))), (4, .int (bi true)), (0, .ref 58), (1, .int (nI e)), (2, .int (nI (2 ^ j))), (3, .int (nI F))]) rfl ?_
          refine q_goto (tgt := 21) dX9_narrow_79 (by decide) ?_
          refine q_pk [2, 3, 4, 5, 1, 0] (ls' := [(0, .ref 58), (1, .int (nI e)), (2, .int (nI (2 ^ j))), (3, .int (nI F)), (4, .int (bi true)), (5, .int (nI (k + 1)))]) rfl ?_
          first | exact gone c40 (dcd_f.mp c52) | exact keep (fun _ => dcd_t.mp c52) | exact keep (fun y => by rw [c40] at y; cases y)
        · skip
          refine q_goto (tgt := 76) dX9_narrow_55 (by decide) ?_
          refine q_iincN (c := 1) dX9_narrow_76 rfl (by decide) rfl (ls' := [(5, .int (nI (k + 1))), (0, .ref 58), (1, .int (nI e)), (2, .int (nI (2 ^ j))), (3, .int (nI F)), (4, .int (bi more))]) rfl ?_
          refine q_goto (tgt := 21) dX9_narrow_79 (by decide) ?_
          refine q_pk [1, 2, 3, 4, 5, 0] (ls' := [(0, .ref 58), (1, .int (nI e)), (2, .int (nI (2 ^ j))), (3, .int (nI F)), (4, .int (bi more)), (5, .int (nI (k + 1)))]) rfl ?_
          first | exact gone c40 (dcd_f.mp c52) | exact keep (fun _ => dcd_t.mp c52) | exact keep (fun y => by rw [c40] at y; cases y)
theorem y9_nr10 (hS : SK σ0) (hR : MR0 σ0 4 q) (hc : BC q) (hw : WFs q) (hB : NB q) (hx : psX q = false) (hF : F + NN q ≤ 38400) {e j : Nat} (he : e < (psM q).length) (hj : j = 2 ∨ j = 3 ∨ j = 5 ∨ j = 7) (h0 : HC q e j v0) : ∀ (c : Nat) (v : Nat → Nat → Bool) (σ : HS) (more : Bool), NI σ0 q F e j v0 σ v → (more = false → Cl (NN q) (FJ q e j) (v j)) → (more = true → cnt (v j) (NN q) < c) → WA g mX9_narrow 3 0 0 (ZM g (fun r σ' => r = none ∧ FR9 (fcq F (NN q)) σ0 σ' ∧ fcS σ' F (NN q) (fun b n => if b = j then gf (NN q) (FJ q e j) n else v0 b n)) 0 0) 0 0 10 [(0, .ref 58), (1, .int (nI e)), (2, .int (nI (2 ^ j))), (3, .int (nI F)), (4, .int (bi more))] [] σ := by
  have hN := NN_le hc
  have stop : ∀ (v : Nat → Nat → Bool) (σ : HS), NI σ0 q F e j v0 σ v → Cl (NN q) (FJ q e j) (v j) → (none : Option Value) = none ∧ FR9 (fcq F (NN q)) σ0 σ ∧ fcS σ F (NN q) (fun b n => if b = j then gf (NN q) (FJ q e j) n else v0 b n) := fun v σ hI hC => ⟨rfl, hI.1, hI.2.1.ext fun n hn b _ => by
    by_cases eb : b = j
    · rw [if_pos eb, eb]; exact gf_end hC hI.2.2.2 hn
    · rw [if_neg eb]; exact hI.2.2.1 b n eb hn⟩
  intro c
  induction c with
  | zero =>
    intro v σ more hI hf ht
    have hS1 := SK.fq hI.1 hS
    have hm : more = false := by
      cases more with
      | false => rfl
      | true => exact absurd (ht rfl) (by omega)
    subst hm
    have st := stop v σ hI (hf rfl)
    refine q_iload dX9_narrow_10 rfl ?_
    refine q_if_eqB (tgt := 85) dX9_narrow_12 (by decide) (fun _ => ?_) (fun h => absurd h (by decide))
    refine q_return dX9_narrow_85 rfl (by omega) (by omega) ?_
    exact st
  | succ c ih =>
    intro v σ more hI hf ht
    have hS1 := SK.fq hI.1 hS
    cases more with
    | false =>
      have st := stop v σ hI (hf rfl)
      refine q_iload dX9_narrow_10 rfl ?_
      refine q_if_eqB (tgt := 85) dX9_narrow_12 (by decide) (fun _ => ?_) (fun h => absurd h (by decide))
      refine q_return dX9_narrow_85 rfl (by omega) (by omega) ?_
      exact st
    | true =>
      have hle : cnt (v j) (NN q) ≤ c := by have := ht rfl; omega
      have go := y9_nr21 (g := g) hS hR hc hw hB hx hF he hj h0 (c := c) (fun v σ more a1 a2 a3 => ih v σ more a1 a2 a3) (NN q) 0 v σ false (by omega) hI (fun _ => ⟨hle, fun n hn => absurd hn (by omega)⟩) (fun z => by cases z)
      refine q_iload dX9_narrow_10 rfl ?_
      refine q_if_eqB (tgt := 85) dX9_narrow_12 (by decide) (fun h => absurd h (by decide)) (fun _ => ?_)
      refine q_iconst (v := nI 0) dX9_narrow_15 rfl ?_
      refine q_top (y := bi false) rfl ?_
      refine q_istore dX9_narrow_16 (by decide) (ls' := [(4, .int (bi false)), (0, .ref 58), (1, .int (nI e)), (2, .int (nI (2 ^ j))), (3, .int (nI F))]) rfl ?_
      refine q_iconst (v := nI 0) dX9_narrow_18 rfl ?_
      refine q_istore dX9_narrow_19 (by decide) (ls' := [(5, .int (nI 0)), (4, .int (bi false)), (0, .ref 58), (1, .int (nI e)), (2, .int (nI (2 ^ j))), (3, .int (nI F))]) rfl ?_
      refine q_pk [2, 3, 4, 5, 1, 0] (ls' := [(0, .ref 58), (1, .int (nI e)), (2, .int (nI (2 ^ j))), (3, .int (nI F)), (4, .int (bi false)), (5, .int (nI 0))]) rfl ?_
      exact go
theorem z9_narrow (hS : SK σ) (hR : MR0 σ 4 q) (hc : BC q) (hw : WFs q) (hB : NB q) (hx : psX q = false) {e j : Nat} (he : e < (psM q).length) (hj : j = 2 ∨ j = 3 ∨ j = 5 ∨ j = 7) (hv : fcS σ ((32 * 4 + e) * 240) (NN q) v0) (h0 : HC q e j v0) (h1 : ∀ n, n < NN q → v0 j n = true) : CT g mX9_narrow 3 0 0 [.ref 58, .int (nI e), .int (nI (2 ^ j))] σ (fun r σ' => r = none ∧ FR9 (fcq ((32 * 4 + e) * 240) (NN q)) σ σ' ∧ fcS σ' ((32 * 4 + e) * 240) (NN q) (fun b n => if b = j then gf (NN q) (FJ q e j) n else v0 b n)) := by
  have hN := NN_le hc
  have h32 := hw.2.2.2.1
  have hF : (32 * 4 + e) * 240 + NN q ≤ 38400 := by omega
  have hc0 : cnt (v0 j) (NN q) < NN q + 1 := by have := cnt_le (v0 j) (NN q); omega
  have go := y9_nr10 (g := g) (σ0 := σ) hS hR hc hw hB hx hF he hj h0 (NN q + 1) v0 σ true ⟨FR9.rf, hv, fun _ _ _ _ => rfl, fun n hn _ => h1 n hn⟩ (fun z => by cases z) (fun _ => hc0)
  refine CT.of (by decide) (Nat.le_of_ble_eq_true rfl) ?_
  refine q_aload_n dX9_narrow_0 rfl rfl rfl ?_
  refine q_iconst (v := nI 4) dX9_narrow_1 rfl ?_
  refine q_iload_n dX9_narrow_2 rfl rfl ?_
  refine q_callV (As := [.int (nI 4), .int (nI e)]) (rest := []) dX9_narrow_3 vX9_338 (ty_c hS (by decide) rfl) ⟨by decide, rfl⟩ (z9_base hS (p := 4) (e := e) (by omega) (by omega)) rfl rfl (Nat.le_of_ble_eq_true rfl) (by omega) (by omega) (by omega) (k_p ?_)
  refine q_istore_n dX9_narrow_6 rfl (by decide) (ls' := [(3, .int (nI ((32 * 4 + e) * 240))), (0, .ref 58), (1, .int (nI e)), (2, .int (nI (2 ^ j)))]) rfl ?_
  refine q_iconst (v := nI 1) dX9_narrow_7 rfl ?_
  refine q_top (y := bi true) rfl ?_
  refine q_istore dX9_narrow_8 (by decide) (ls' := [(4, .int (bi true)), (3, .int (nI ((32 * 4 + e) * 240))), (0, .ref 58), (1, .int (nI e)), (2, .int (nI (2 ^ j)))]) rfl ?_
  refine q_pk [2, 3, 4, 1, 0] (ls' := [(0, .ref 58), (1, .int (nI e)), (2, .int (nI (2 ^ j))), (3, .int (nI ((32 * 4 + e) * 240))), (4, .int (bi true))]) rfl ?_
  exact go
end MNA
