/-! The model: write, its answers. -/
/-- what write leaves -/
def WmQ (σ : HS) (W : List Nat) : Option Value → HS → Prop := fun r σ' => FR9 wuq σ σ' ∧ ((W.length ≤ 3000 ∧ r = some (.int (nI W.length)) ∧ sI σ' 58 1 = nI W.length ∧ ∀ j, j < W.length → sI σ' 59 j = nI (W.getD j 0)) ∨ (3000 < W.length ∧ r = some (.int (-3)) ∧ sI σ' 58 1 = sI σ 58 1 ∧ ∀ j, sI σ' 59 j = sI σ 59 j))
section MWB
variable {g : GG} {σ σ0 : HS} {q : PS} {i : Nat} {W : List Nat} {p : Int32}
theorem y9_w281 (hS0 : SK σ0) {l m : Nat} (hi : i < 4) (hl : l < 3) (h3 : W.length ≤ 3000) : ∀ (f k : Nat) (σ : HS), k + f = W.length → FR9 wuq σ0 σ → TXm σ W → (∀ j, j < k → sI σ 59 j = nI (W.getD j 0)) → WA g mX9_write 6 0 0 (ZM g (WmQ σ0 W) 0 0) 0 0 281 [(0, .ref 58), (1, .int (nI i)), (2, .int (nI l)), (3, .int (nI m)), (4, .int (nI k))] [] σ := by
  intro f
  induction f with
  | zero =>
    intro k σ hk h1 hW h2
    have hS := SK.fq h1 hS0
    obtain ⟨t1, t2, t3⟩ := hW
    have fin : WmQ σ0 W (some (.int (nI W.length))) (uI σ 58 1 (nI W.length)) := ⟨h1.uI (Or.inr (Or.inr ⟨rfl, rfl⟩)), Or.inl ⟨h3, rfl, uI_self, fun j hj => (rd_off (by omega)).trans (h2 j (by omega))⟩⟩
    refine q_iload dX9_write_281 rfl ?_
    refine q_aload_n dX9_write_283 rfl rfl rfl ?_
    refine q_geti (x := nI W.length) dX9_write_284 fX9_196 rfl (ty_c hS (by decide) rfl) t1 ?_
    refine q_icmp_geN (tgt := 310) dX9_write_287 (by decide) (by omega) (by omega) (fun c287 => ?_) (fun c287 => ?_)
    · skip
      refine q_aload_n dX9_write_310 rfl rfl rfl ?_
      refine q_aload_n dX9_write_311 rfl rfl rfl ?_
      refine q_geti (x := nI W.length) dX9_write_312 fX9_196 rfl (ty_c hS (by decide) rfl) t1 ?_
      refine q_puti dX9_write_315 fX9_13 rfl (Or.inl rfl) (ty_c hS (by decide) rfl) ?_
      refine q_aload_n dX9_write_318 rfl rfl rfl ?_
      refine q_geti (x := nI W.length) dX9_write_319 fX9_196 rfl (ty_c hS (by decide) rfl) (Eq.trans (rd_ne (by decide)) t1) ?_
      refine q_ireturn dX9_write_322 rfl rfl (by omega) (by omega) ?_
      exact fin
    · exact absurd c287 (by omega)
  | succ f ih =>
    intro k σ hk h1 hW h2
    have hS := SK.fq h1 hS0
    have hkl : k < W.length := by omega
    have fin := ih (k + 1) (uI σ 59 k (nI (W.getD k 0))) (by omega) (h1.uI (Or.inr (Or.inl rfl))) ⟨(rd_off (by omega)).trans hW.1, hW.2.1, fun j hj => (rd_off (by omega)).trans (hW.2.2 j hj)⟩ (fun j hj => by
      by_cases e : j = k
      · rw [e]; exact uI_self
      · rw [rd_ne e]; exact h2 j (by omega))
    obtain ⟨t1, t2, t3⟩ := hW
    refine q_iload dX9_write_281 rfl ?_
    refine q_aload_n dX9_write_283 rfl rfl rfl ?_
    refine q_geti (x := nI W.length) dX9_write_284 fX9_196 rfl (ty_c hS (by decide) rfl) t1 ?_
    refine q_icmp_geN (tgt := 310) dX9_write_287 (by decide) (by omega) (by omega) (fun c287 => ?_) (fun c287 => ?_)
    · exact absurd c287 (by omega)
    · skip
      refine q_aload_n dX9_write_290 rfl rfl rfl ?_
      refine q_getr (r := 59) dX9_write_291 fX9_7 rfl (ty_c hS (by decide) rfl) (hS.2 58 0 59 rfl) ?_
      refine q_iload dX9_write_294 rfl ?_
      refine q_aload_n dX9_write_296 rfl rfl rfl ?_
      refine q_getr (r := 97) dX9_write_297 fX9_193 rfl (ty_c hS (by decide) rfl) (hS.2 58 59 97 rfl) ?_
      refine q_iload dX9_write_300 rfl ?_
      refine q_iald (x := nI (W.getD k 0)) (j := k) dX9_write_302 (ty_c hS (by decide) rfl) (ix_n (by omega) (by omega)) (t3 k hkl) ?_
      refine q_iast (j := k) dX9_write_303 (ty_c hS (by decide) rfl) (ix_n (by omega) (by omega)) ?_
      refine q_iincN (c := 1) dX9_write_304 rfl (by decide) rfl (ls' := [(4, .int (nI (k + 1))), (0, .ref 58), (1, .int (nI i)), (2, .int (nI l)), (3, .int (nI m))]) rfl ?_
      refine q_goto (tgt := 281) dX9_write_307 (by decide) ?_
      refine q_pk [1, 2, 3, 4, 0] (ls' := [(0, .ref 58), (1, .int (nI i)), (2, .int (nI l)), (3, .int (nI m)), (4, .int (nI (k + 1)))]) rfl ?_
      exact fin
theorem y9_w265 (hS0 : SK σ0) {l m : Nat} (hi : i < 4) (hl : l < 3) (h1 : FR9 wtq σ0 σ) (hW : TXm σ W) : WA g mX9_write 6 0 0 (ZM g (WmQ σ0 W) 0 0) 0 0 265 [(0, .ref 58), (1, .int (nI i)), (2, .int (nI l)), (3, .int (nI m))] [] σ := by
  have hS := SK.fq h1 hS0
  obtain ⟨t1, t2, t3⟩ := id hW
  have full : 3000 < W.length → WmQ σ0 W (some (.int (-3))) σ := fun z => ⟨h1.wu, Or.inr ⟨z, rfl, h1.2.2.2 58 1 (by unfold wtq txq; omega), fun j => h1.2.2.2 59 j (by unfold wtq txq; omega)⟩⟩
  refine q_aload_n dX9_write_265 rfl rfl rfl ?_
  refine q_geti (x := nI W.length) dX9_write_266 fX9_196 rfl (ty_c hS (by decide) rfl) t1 ?_
  refine q_sipush (v := nI 3000) dX9_write_269 rfl ?_
  refine q_icmp_leN (tgt := 278) dX9_write_272 (by decide) (by omega) (by omega) (fun c272 => ?_) (fun c272 => ?_)
  · skip
    refine q_iconst (v := nI 0) dX9_write_278 rfl ?_
    refine q_istore dX9_write_279 (by decide) (ls' := [(4, .int (nI 0)), (0, .ref 58), (1, .int (nI i)), (2, .int (nI l)), (3, .int (nI m))]) rfl ?_
    refine q_pk [1, 2, 3, 4, 0] (ls' := [(0, .ref 58), (1, .int (nI i)), (2, .int (nI l)), (3, .int (nI m)), (4, .int (nI 0))]) rfl ?_
    exact y9_w281 hS0 hi hl (by omega) W.length 0 σ (by omega) h1.wu hW (fun j hj => absurd hj (by omega))
  · skip
    refine q_bipush (v := (-3 : Int32)) dX9_write_275 rfl ?_
    refine q_ireturn dX9_write_277 rfl rfl (by omega) (by omega) ?_
    exact full (by omega)
theorem z9_write0 (hS : SK σ) (h : MA σ p none) {l : Int32} : CT g mX9_write 1 0 0 [.ref 58, .int p, .int l] σ (PQ σ (.int (-1))) := by
  refine CT.of (by decide) (Nat.le_of_ble_eq_true rfl) ?_
  refine q_aload_n dX9_write_0 rfl rfl rfl ?_
  refine q_iload_n dX9_write_1 rfl rfl ?_
  refine q_callV (As := [.int p]) (rest := []) dX9_write_2 vX9_373 (ty_c hS (by decide) rfl) ⟨by decide, rfl⟩ (z9_isThere0 hS h) rfl rfl (Nat.le_of_ble_eq_true rfl) (by omega) (by omega) (by omega) (k_p ?_)
  refine q_if_eqB (tgt := 16) dX9_write_5 (by decide) (fun _ => ?_) (fun h => absurd h (by decide))
  refine q_iconst (v := (-1 : Int32)) dX9_write_16 rfl ?_
  refine q_ireturn dX9_write_17 rfl rfl (by omega) (by omega) ?_
  exact ⟨rfl, rfl⟩
theorem z9_write2 (hS : SK σ) (h : MA σ p (some q)) {l : Int32} (hl : ¬ (¬ l < 0 ∧ l < nI 3)) : CT g mX9_write 1 0 0 [.ref 58, .int p, .int l] σ (PQ σ (.int (-1))) := by
  obtain ⟨i, hi, rfl, h0, hr, hk⟩ := h
  refine CT.of (by decide) (Nat.le_of_ble_eq_true rfl) ?_
  refine q_aload_n dX9_write_0 rfl rfl rfl ?_
  refine q_iload_n dX9_write_1 rfl rfl ?_
  refine q_callV (As := [.int (nI i)]) (rest := []) dX9_write_2 vX9_373 (ty_c hS (by decide) rfl) ⟨by decide, rfl⟩ (z9_isThere1 hS hi h0) rfl rfl (Nat.le_of_ble_eq_true rfl) (by omega) (by omega) (by omega) (k_p ?_)
  refine q_if_eqB (tgt := 16) dX9_write_5 (by decide) (fun h => absurd h (by decide)) (fun _ => ?_)
  refine q_aload_n dX9_write_8 rfl rfl rfl ?_
  refine q_iload_n dX9_write_9 rfl rfl ?_
  refine q_callV (As := [.int l]) (rest := []) dX9_write_10 vX9_388 (ty_c hS (by decide) rfl) ⟨by decide, rfl⟩ (z9_isPlacing hS) rfl rfl (Nat.le_of_ble_eq_true rfl) (by omega) (by omega) (by omega) (k_p ?_)
  refine q_if_neB (tgt := 18) dX9_write_13 (by decide) (fun c13 => ?_) (fun c13 => ?_)
  · exact absurd (of_decide_eq_true c13) hl
  · skip
    refine q_iconst (v := (-1 : Int32)) dX9_write_16 rfl ?_
    refine q_ireturn dX9_write_17 rfl rfl (by omega) (by omega) ?_
    exact ⟨rfl, rfl⟩
theorem z9_write3 (hS : SK σ) (h : MA σ p (some q)) (hq : QT q) {l : Nat} (hl : l < 3) (h0l : l ≠ 0) (ht : psT q = true) : CT g mX9_write 1 0 0 [.ref 58, .int p, .int (nI l)] σ (PQ σ (.int (-4))) := by
  obtain ⟨i, hi, rfl, h0, hr, hk⟩ := h
  have hd : ¬ nI l < 0 ∧ nI l < nI 3 := n_is (by omega) hl
  refine CT.of (by decide) (Nat.le_of_ble_eq_true rfl) ?_
  refine q_aload_n dX9_write_0 rfl rfl rfl ?_
  refine q_iload_n dX9_write_1 rfl rfl ?_
  refine q_callV (As := [.int (nI i)]) (rest := []) dX9_write_2 vX9_373 (ty_c hS (by decide) rfl) ⟨by decide, rfl⟩ (z9_isThere1 hS hi h0) rfl rfl (Nat.le_of_ble_eq_true rfl) (by omega) (by omega) (by omega) (k_p ?_)
  refine q_if_eqB (tgt := 16) dX9_write_5 (by decide) (fun h => absurd h (by decide)) (fun _ => ?_)
  refine q_aload_n dX9_write_8 rfl rfl rfl ?_
  refine q_iload_n dX9_write_9 rfl rfl ?_
  refine q_callV (As := [.int (nI l)]) (rest := []) dX9_write_10 vX9_388 (ty_c hS (by decide) rfl) ⟨by decide, rfl⟩ (z9_isPlacing hS) rfl rfl (Nat.le_of_ble_eq_true rfl) (by omega) (by omega) (by omega) (k_p ?_)
  refine q_if_neB (tgt := 18) dX9_write_13 (by decide) (fun c13 => ?_) (fun c13 => ?_)
  · skip
    refine q_iload_n dX9_write_18 rfl rfl ?_
    refine q_if_leN (tgt := 33) dX9_write_19 (by decide) (by omega) (fun c19 => ?_) (fun c19 => ?_)
    · exact absurd c19 (by omega)
    · skip
      refine q_aload_n dX9_write_22 rfl rfl rfl ?_
      refine q_iload_n dX9_write_23 rfl rfl ?_
      refine q_callV (As := [.int (nI i)]) (rest := []) dX9_write_24 vX9_451 (ty_c hS (by decide) rfl) ⟨by decide, rfl⟩ (z9_hasT hS hi hr hk hq) rfl rfl (Nat.le_of_ble_eq_true rfl) (by omega) (by omega) (by omega) (k_p ?_)
      refine q_if_eqB (tgt := 33) dX9_write_27 (by decide) (fun c27 => ?_) (fun c27 => ?_)
      · exact absurd (ht.symm.trans c27) (by decide)
      · skip
        refine q_bipush (v := (-4 : Int32)) dX9_write_30 rfl ?_
        refine q_ireturn dX9_write_32 rfl rfl (by omega) (by omega) ?_
        exact ⟨rfl, rfl⟩
  · exact absurd hd (of_decide_eq_false c13)
theorem z9_write1 (hS : SK σ) (h : MA σ p (some q)) (hq : QT q) {l : Nat} (hl : l < 3) (ht : l = 0 ∨ psT q = false) (hl9 : (fuT q l).length + 11 ≤ 60000) : CT g mX9_write 6 0 0 [.ref 58, .int p, .int (nI l)] σ (WmQ σ (fuT q l)) := by
  obtain ⟨i, hi, rfl, h0, hr, hk⟩ := h
  have hd : ¬ nI l < 0 ∧ nI l < nI 3 := n_is (by omega) hl
  have h160 := hk.1.2.2.1
  have h40 := hk.1.2.1
  have r61 := hr.1.1
  have r63 := hr.1.2.2.1
  have hL := hl9
  unfold fuT at hL
  rw [List.length_append] at hL
  have go : WA g mX9_write 6 0 0 (ZM g (WmQ σ (fuT q l)) 0 0) 0 0 53 [(0, .ref 58), (1, .int (nI i)), (2, .int (nI l)), (3, .int (nI (obN q l 0))), (4, .int (nI ((psS q).length + 0)))] [] (uI σ 58 60 (nI 0)) := by
    have f0 : FR9 wtq σ (uI σ 58 60 (nI 0)) := FR9.rf.uI (Or.inl (Or.inr ⟨rfl, rfl⟩))
    refine y9_w53 hS hi hr hk hl (fun τ m t1 t2 t3 => ?_) (NN q - (psS q).length) 0 _ (by unfold NN; omega) f0 ⟨uI_self, by simp, fun j hj => absurd hj (by simp)⟩ (fun n a1 a2 => absurd a2 (by omega))
    have hSt := SK.fq t1 hS
    have hrt := hr.wu hk t1.wu
    have b61 := hrt.1.1
    have c1 := y9_w106 (g := g) hSt hi hrt hk hl t3 (m := m) (Z := ZM g (WmQ σ (fuT q l)) 0 0) (psF q).length 0 [] τ (by omega) FR9.rf t2 (by rw [List.length_nil]; omega) (fun υ u1 u2 => by
      have hSu := SK.fq u1 hSt
      have r63u := (hrt.tx hk u1).1.2.2.1
      have c2 := y9_w191 (g := g) hSt hi hrt hk hl t3 (m := m) (Z := ZM g (WmQ σ (fuT q l)) 0 0) (NN q - (psS q).length) (psS q).length _ υ (by unfold NN; omega) (Nat.le_refl _) u1 u2 (by rw [List.nil_append]; omega) (fun ω w1 w2 => y9_w265 hS hi hl (t1.tr w1.tw) (by rw [List.nil_append] at w2; exact w2))
      refine q_aload_n dX9_write_183 rfl rfl rfl ?_
      refine q_getr (r := 63) dX9_write_184 fX9_46 rfl (ty_c hSu (by decide) rfl) (hSu.2 58 11 63 rfl) ?_
      refine q_iload_n dX9_write_187 rfl rfl ?_
      refine q_iald (x := nI ((psS q).length)) (j := i) dX9_write_188 (ty_c hSu (by decide) rfl) (ix_n (by omega) (by omega)) r63u ?_
      refine q_istore dX9_write_189 (by decide) (ls' := [(4, .int (nI ((psS q).length))), (0, .ref 58), (1, .int (nI i)), (2, .int (nI l)), (3, .int (nI m))]) rfl ?_
      refine q_pk [1, 2, 3, 4, 0] (ls' := [(0, .ref 58), (1, .int (nI i)), (2, .int (nI l)), (3, .int (nI m)), (4, .int (nI ((psS q).length)))]) rfl ?_
      exact c2
      )
    refine q_iconst (v := nI 0) dX9_write_103 rfl ?_
    refine q_istore dX9_write_104 (by decide) (ls' := [(4, .int (nI 0)), (0, .ref 58), (1, .int (nI i)), (2, .int (nI l)), (3, .int (nI m))]) rfl ?_
    refine q_pk [1, 2, 3, 4, 0] (ls' := [(0, .ref 58), (1, .int (nI i)), (2, .int (nI l)), (3, .int (nI m)), (4, .int (nI 0))]) rfl ?_
    exact c1
  refine CT.of (by decide) (Nat.le_of_ble_eq_true rfl) ?_
  refine q_aload_n dX9_write_0 rfl rfl rfl ?_
  refine q_iload_n dX9_write_1 rfl rfl ?_
  refine q_callV (As := [.int (nI i)]) (rest := []) dX9_write_2 vX9_373 (ty_c hS (by decide) rfl) ⟨by decide, rfl⟩ (z9_isThere1 hS hi h0) rfl rfl (Nat.le_of_ble_eq_true rfl) (by omega) (by omega) (by omega) (k_p ?_)
  refine q_if_eqB (tgt := 16) dX9_write_5 (by decide) (fun h => absurd h (by decide)) (fun _ => ?_)
  refine q_aload_n dX9_write_8 rfl rfl rfl ?_
  refine q_iload_n dX9_write_9 rfl rfl ?_
  refine q_callV (As := [.int (nI l)]) (rest := []) dX9_write_10 vX9_388 (ty_c hS (by decide) rfl) ⟨by decide, rfl⟩ (z9_isPlacing hS) rfl rfl (Nat.le_of_ble_eq_true rfl) (by omega) (by omega) (by omega) (k_p ?_)
  refine q_if_neB (tgt := 18) dX9_write_13 (by decide) (fun c13 => ?_) (fun c13 => ?_)
  · skip
    refine q_iload_n dX9_write_18 rfl rfl ?_
    refine q_if_leN (tgt := 33) dX9_write_19 (by decide) (by omega) (fun c19 => ?_) (fun c19 => ?_)
    · skip
      refine q_aload_n dX9_write_33 rfl rfl rfl ?_
      refine q_iconst (v := nI 0) dX9_write_34 rfl ?_
      refine q_puti dX9_write_35 fX9_196 rfl (Or.inl rfl) (ty_c hS (by decide) rfl) ?_
      refine q_aload_n dX9_write_38 rfl rfl rfl ?_
      refine q_getr (r := 61) dX9_write_39 fX9_40 rfl (ty_c hS (by decide) rfl) (hS.2 58 9 61 rfl) ?_
      refine q_iload_n dX9_write_42 rfl rfl ?_
      refine q_iald (x := nI ((psF q).length)) (j := i) dX9_write_43 (ty_c hS (by decide) rfl) (ix_n (by omega) (by omega)) (Eq.trans (rd_off (by decide)) r61) ?_
      refine q_istore_n dX9_write_44 rfl (by decide) (ls' := [(3, .int (nI ((psF q).length))), (0, .ref 58), (1, .int (nI i)), (2, .int (nI l))]) rfl ?_
      refine q_aload_n dX9_write_45 rfl rfl rfl ?_
      refine q_getr (r := 63) dX9_write_46 fX9_46 rfl (ty_c hS (by decide) rfl) (hS.2 58 11 63 rfl) ?_
      refine q_iload_n dX9_write_49 rfl rfl ?_
      refine q_iald (x := nI ((psS q).length)) (j := i) dX9_write_50 (ty_c hS (by decide) rfl) (ix_n (by omega) (by omega)) (Eq.trans (rd_off (by decide)) r63) ?_
      refine q_istore dX9_write_51 (by decide) (ls' := [(4, .int (nI ((psS q).length))), (3, .int (nI ((psF q).length))), (0, .ref 58), (1, .int (nI i)), (2, .int (nI l))]) rfl ?_
      refine q_pk [2, 3, 4, 1, 0] (ls' := [(0, .ref 58), (1, .int (nI i)), (2, .int (nI l)), (3, .int (nI ((psF q).length))), (4, .int (nI ((psS q).length)))]) rfl ?_
      exact go
    · skip
      refine q_aload_n dX9_write_22 rfl rfl rfl ?_
      refine q_iload_n dX9_write_23 rfl rfl ?_
      refine q_callV (As := [.int (nI i)]) (rest := []) dX9_write_24 vX9_451 (ty_c hS (by decide) rfl) ⟨by decide, rfl⟩ (z9_hasT hS hi hr hk hq) rfl rfl (Nat.le_of_ble_eq_true rfl) (by omega) (by omega) (by omega) (k_p ?_)
      refine q_if_eqB (tgt := 33) dX9_write_27 (by decide) (fun c27 => ?_) (fun c27 => ?_)
      · skip
        refine q_aload_n dX9_write_33 rfl rfl rfl ?_
        refine q_iconst (v := nI 0) dX9_write_34 rfl ?_
        refine q_puti dX9_write_35 fX9_196 rfl (Or.inl rfl) (ty_c hS (by decide) rfl) ?_
        refine q_aload_n dX9_write_38 rfl rfl rfl ?_
        refine q_getr (r := 61) dX9_write_39 fX9_40 rfl (ty_c hS (by decide) rfl) (hS.2 58 9 61 rfl) ?_
        refine q_iload_n dX9_write_42 rfl rfl ?_
        refine q_iald (x := nI ((psF q).length)) (j := i) dX9_write_43 (ty_c hS (by decide) rfl) (ix_n (by omega) (by omega)) (Eq.trans (rd_off (by decide)) r61) ?_
        refine q_istore_n dX9_write_44 rfl (by decide) (ls' := [(3, .int (nI ((psF q).length))), (0, .ref 58), (1, .int (nI i)), (2, .int (nI l))]) rfl ?_
        refine q_aload_n dX9_write_45 rfl rfl rfl ?_
        refine q_getr (r := 63) dX9_write_46 fX9_46 rfl (ty_c hS (by decide) rfl) (hS.2 58 11 63 rfl) ?_
        refine q_iload_n dX9_write_49 rfl rfl ?_
        refine q_iald (x := nI ((psS q).length)) (j := i) dX9_write_50 (ty_c hS (by decide) rfl) (ix_n (by omega) (by omega)) (Eq.trans (rd_off (by decide)) r63) ?_
        refine q_istore dX9_write_51 (by decide) (ls' := [(4, .int (nI ((psS q).length))), (3, .int (nI ((psF q).length))), (0, .ref 58), (1, .int (nI i)), (2, .int (nI l))]) rfl ?_
        refine q_pk [2, 3, 4, 1, 0] (ls' := [(0, .ref 58), (1, .int (nI i)), (2, .int (nI l)), (3, .int (nI ((psF q).length))), (4, .int (nI ((psS q).length)))]) rfl ?_
        exact go
      · exact absurd c27 (by rcases ht with ht | ht; omega; rw [ht]; decide)
  · exact absurd hd (of_decide_eq_false c13)
end MWB
