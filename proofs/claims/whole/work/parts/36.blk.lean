/-! The class's parser: blocks. -/
theorem key_v3 (T : Nat → Nat) (p e : Nat) : (keyV T p e).1 = 8 → 3 ≤ (keyV T p e).2 ∧ (keyV T p e).2 ≤ 6 := by
  unfold keyV
  repeat' split
  all_goals intro h
  all_goals first | exact absurd h (by decide : ¬ (2 : Nat) = 8) | exact ⟨by decide, by decide⟩
theorem wrd_n8 (T : Nat → Nat) (p m e : Nat) : (wrdV T p m e).1 ≠ 8 := by
  unfold wrdV
  simp only
  repeat' split
  all_goals first | exact (by decide : ¬ (2 : Nat) = 8) | exact (by decide : ¬ (3 : Nat) = 8) | exact (by decide : ¬ (4 : Nat) = 8) | exact (by decide : ¬ (5 : Nat) = 8)
theorem tv_key {T : Nat → Nat} {L k : Nat} (h : tk T L k = 8) : 3 ≤ tv T L k ∧ tv T L k ≤ 6 := by
  unfold tk at h
  unfold tv
  by_cases hl : ts T L k < L
  · rw [if_pos hl] at h ⊢
    revert h
    unfold lxK
    repeat' split
    all_goals intro h
    all_goals first | exact absurd h (by decide : ¬ (1 : Nat) = 8) | exact absurd h (by decide : ¬ (6 : Nat) = 8) | exact absurd h (by decide : ¬ (7 : Nat) = 8) | exact key_v3 _ _ _ h | exact absurd h (wrd_n8 _ _ _ _)
  · rw [if_neg hl] at h; exact absurd h (by decide)
theorem pKd_b {T : Nat → Nat} {L k kd : Nat} (h : pKd T L k = some kd) : 1 ≤ kd ∧ kd ≤ 6 ∧ tk T L k ≠ 0 := by
  unfold pKd at h
  by_cases h3 : tk T L k = 3
  · rw [if_pos h3] at h; cases h; exact ⟨by decide, by decide, by omega⟩
  · rw [if_neg h3] at h
    by_cases h4 : tk T L k = 4
    · rw [if_pos h4] at h; cases h; exact ⟨by decide, by decide, by omega⟩
    · rw [if_neg h4] at h
      by_cases h8 : tk T L k = 8
      · rw [if_pos h8] at h; cases h
        have := tv_key h8
        exact ⟨by omega, by omega, by omega⟩
      · rw [if_neg h8] at h; cases h
def LB (m : Nat) (l : List REC) : Prop := ∀ r ∈ l, rB r < m
def LE (m : Nat) (l : List REC) : Prop := ∀ r ∈ l, 4 ≤ rK r → rB r < m
theorem gd_mem {α : Type} {l : List α} {i : Nat} {d : α} (h : i < l.length) : l.getD i d ∈ l := by
  rw [List.getD_eq_getElem?_getD, List.getElem?_eq_getElem h]
  exact List.getElem_mem h
theorem gd_app {α : Type} {l : List α} {x d : α} {i : Nat} (h : i < l.length) : (l ++ [x]).getD i d = l.getD i d := by
  rw [List.getD_eq_getElem?_getD, List.getD_eq_getElem?_getD, List.getElem?_append_left h]
theorem gd_last {α : Type} {l : List α} {x d : α} : (l ++ [x]).getD l.length d = x := by
  simp [List.getD_eq_getElem?_getD]
theorem PSR_add {σ σ' : HS} {b : Nat} {q : PS} {r : REC} {ss' : List SUM} {m' t' : Bool} (hb14 : b = 14 ∨ 99 ≤ b) (h : PSR σ b q) (h1 : 1 ≤ (psF q).length) (hr : rB r = (psF q).length - 1) (hE : LE ((psF q).length - 1) (psS q)) (ha : AddS b (psS q).length (psF q).length σ σ' r ss' m' t') : PSR σ' b (psS q ++ [r], ss', m', t', psF q, psH q) := by
  obtain ⟨p1, p2, p3, p4, p5, p6, p7, p8, p9, p10⟩ := h
  obtain ⟨⟨-, -, -, F⟩, a1, a2, a3, a4, a5, a6⟩ := ha
  have el : (psS q ++ [r]).length = (psS q).length + 1 := by simp
  refine ⟨(F b 12 (by omega)).trans p1, a1.trans (by show _ = nI (psS q ++ [r]).length; rw [el]), a2.trans (by show _ = nI (psS q ++ [r]).length; rw [el]), (F b 15 (by omega)).trans p4, a3, a4, fun i hi => ?_, fun j hj => (F (b + 15) j (by have : j < (psF q).length := hj; omega)).trans (p8 j hj), fun _ => a5.trans (by show _ = nI (psS q ++ [r]).length; rw [el]), fun j hj => (F 10 j (by omega)).trans (p10 j hj)⟩
  have hi' : i < (psS q).length + 1 := by rw [← el]; exact hi
  show RowR σ' b i ((psS q ++ [r]).getD i r0)
  by_cases e : i = (psS q).length
  · rw [e, gd_last]; exact a6
  · have hl : i < (psS q).length := by omega
    rw [gd_app hl]
    obtain ⟨c1, c2, c3, c4, c5, c6, c7, c8, c9, c10, c11, c12⟩ := p7 i hl
    have g : ∀ j, 1 ≤ j → j ≤ 13 → sI σ' (b + j) i = sI σ (b + j) i := fun j q1 q2 => F (b + j) i (by omega)
    refine ⟨(g 1 (by omega) (by omega)).trans c1, (g 2 (by omega) (by omega)).trans c2, (g 3 (by omega) (by omega)).trans c3, (g 5 (by omega) (by omega)).trans c4, (g 6 (by omega) (by omega)).trans c5, (g 7 (by omega) (by omega)).trans c6, (g 9 (by omega) (by omega)).trans c7, (g 10 (by omega) (by omega)).trans c8, (g 12 (by omega) (by omega)).trans c9, (g 13 (by omega) (by omega)).trans c10, fun k4 w => ?_, fun k4 w => ?_⟩
    · have := hE _ (gd_mem hl) k4
      exact (F 12 _ (by omega)).trans (c11 k4 w)
    · have := hE _ (gd_mem hl) k4
      exact (F 13 _ (by omega)).trans (c12 k4 w)
theorem PSR.fe {σ σ' : HS} {b : Nat} {q : PS} (h : PSR σ b q) (F : ∀ x i, x = 10 ∨ x = 12 ∨ x = 13 ∨ (b ≤ x ∧ x ≤ b + 20) → sI σ' x i = sI σ x i) : PSR σ' b q := by
  obtain ⟨p1, p2, p3, p4, p5, p6, p7, p8, p9, p10⟩ := h
  have G : ∀ j i, j ≤ 20 → sI σ' (b + j) i = sI σ (b + j) i := fun j i hj => F (b + j) i (by omega)
  refine ⟨(G 0 12 (by omega)).trans p1, (G 0 13 (by omega)).trans p2, (G 0 14 (by omega)).trans p3, (G 0 15 (by omega)).trans p4, (G 0 16 (by omega)).trans p5, p6.fe fun x i h1 h2 => F x i (by omega), fun i hi => ?_, fun j hj => (G 15 j (by omega)).trans (p8 j hj), fun z => (G 15 _ (by omega)).trans (p9 z), fun j hj => (F 10 j (by omega)).trans (p10 j hj)⟩
  obtain ⟨c1, c2, c3, c4, c5, c6, c7, c8, c9, c10, c11, c12⟩ := p7 i hi
  exact ⟨(G 1 i (by omega)).trans c1, (G 2 i (by omega)).trans c2, (G 3 i (by omega)).trans c3, (G 5 i (by omega)).trans c4, (G 6 i (by omega)).trans c5, (G 7 i (by omega)).trans c6, (G 9 i (by omega)).trans c7, (G 10 i (by omega)).trans c8, (G 12 i (by omega)).trans c9, (G 13 i (by omega)).trans c10, fun k w => (F 12 _ (by omega)).trans (c11 k w), fun k w => (F 13 _ (by omega)).trans (c12 k w)⟩
theorem PSR.u5 {σ : HS} {b i : Nat} {v : Int32} {q : PS} (hb14 : b = 14 ∨ 99 ≤ b) (h : PSR σ b q) : PSR (uI σ 5 i v) b q := h.fe fun x j hx => by rw [sI_uI, if_neg (by omega)]
theorem PSR_blk {σ : HS} {b : Nat} {q : PS} {p : Nat} {v : Int32} (hb14 : b = 14 ∨ 99 ≤ b) (h : PSR σ b q) (hH : (psH q).length = (psF q).length) : PSR (uI (uI (uI (uI (uI σ 10 (psF q).length (nI p)) 5 3 v) b 12 (nI ((psF q).length + 1))) (b + 15) (psF q).length (nI (psS q).length)) (b + 15) ((psF q).length + 1) (nI (psS q).length)) b (psS q, psM q, psX q, psT q, psF q ++ [(psS q).length], psH q ++ [p]) := by
  obtain ⟨p1, p2, p3, p4, p5, p6, p7, p8, p9, p10⟩ := h
  generalize hσ : (uI (uI (uI (uI (uI σ 10 (psF q).length (nI p)) 5 3 v) b 12 (nI ((psF q).length + 1))) (b + 15) (psF q).length (nI (psS q).length)) (b + 15) ((psF q).length + 1) (nI (psS q).length)) = σ'
  have F : ∀ x i, ¬ ((x = 10 ∧ i = (psF q).length) ∨ (x = 5 ∧ i = 3) ∨ (x = b ∧ i = 12) ∨ (x = b + 15 ∧ i = (psF q).length) ∨ (x = b + 15 ∧ i = (psF q).length + 1)) → sI σ' x i = sI σ x i := by
    intro x i hx
    rw [← hσ, sI_uI, sI_uI, sI_uI, sI_uI, sI_uI, if_neg (by omega), if_neg (by omega), if_neg (by omega), if_neg (by omega), if_neg (by omega)]
  have g12 : sI σ' b 12 = nI ((psF q).length + 1) := by
    rw [← hσ, sI_uI, sI_uI, sI_uI, if_neg (by omega), if_neg (by omega), if_pos ⟨rfl, rfl⟩]
  have gF : sI σ' (b + 15) (psF q).length = nI (psS q).length := by
    rw [← hσ, sI_uI, sI_uI, if_neg (by omega), if_pos ⟨rfl, rfl⟩]
  have gG : sI σ' (b + 15) ((psF q).length + 1) = nI (psS q).length := by
    rw [← hσ, sI_uI, if_pos ⟨rfl, rfl⟩]
  have gH : sI σ' 10 (psF q).length = nI p := by
    rw [← hσ, sI_uI, sI_uI, sI_uI, sI_uI, sI_uI, if_neg (by omega), if_neg (by omega), if_neg (by omega), if_neg (by omega), if_pos ⟨rfl, rfl⟩]
  clear hσ
  have eF : (psF q ++ [(psS q).length]).length = (psF q).length + 1 := by simp
  have eH : (psH q ++ [p]).length = (psF q).length + 1 := by simp [hH]
  refine ⟨g12.trans (by show _ = nI (psF q ++ [(psS q).length]).length; rw [eF]), (F b 13 (by omega)).trans p2, (F b 14 (by omega)).trans p3, (F b 15 (by omega)).trans p4, (F b 16 (by omega)).trans p5, p6.fe fun x i z1 z2 => F x i (by omega), fun i hi => ?_, fun j hj => ?_, ?_, fun j hj => ?_⟩
  · obtain ⟨c1, c2, c3, c4, c5, c6, c7, c8, c9, c10, c11, c12⟩ := p7 i hi
    have G : ∀ j i, 1 ≤ j → j ≤ 13 → sI σ' (b + j) i = sI σ (b + j) i := fun j i h1 h2 => F (b + j) i (by omega)
    exact ⟨(G 1 i (by omega) (by omega)).trans c1, (G 2 i (by omega) (by omega)).trans c2, (G 3 i (by omega) (by omega)).trans c3, (G 5 i (by omega) (by omega)).trans c4, (G 6 i (by omega) (by omega)).trans c5, (G 7 i (by omega) (by omega)).trans c6, (G 9 i (by omega) (by omega)).trans c7, (G 10 i (by omega) (by omega)).trans c8, (G 12 i (by omega) (by omega)).trans c9, (G 13 i (by omega) (by omega)).trans c10, fun k w => (F 12 _ (by omega)).trans (c11 k w), fun k w => (F 13 _ (by omega)).trans (c12 k w)⟩
  · have hj' : j < (psF q).length + 1 := by rw [← eF]; exact hj
    show sI σ' (b + 15) j = nI ((psF q ++ [(psS q).length]).getD j 0)
    by_cases e : j = (psF q).length
    · rw [e, gd_last]; exact gF
    · rw [gd_app (by omega)]; exact (F (b + 15) j (by omega)).trans (p8 j (by omega))
  · intro _
    show sI σ' (b + 15) (psF q ++ [(psS q).length]).length = nI (psS q).length
    rw [eF]; exact gG
  · have hj' : j < (psF q).length + 1 := by rw [← eH]; exact hj
    show sI σ' 10 j = nI ((psH q ++ [p]).getD j 0)
    by_cases e : j = (psF q).length
    · rw [e, ← hH, gd_last, hH]; exact gH
    · rw [gd_app (by omega)]; exact (F 10 j (by omega)).trans (p10 j (by omega))
theorem pSts_ok {T : Nat → Nat} {L b f k : Nat} {q : PS} {r : Nat × PS} (h : pSts T L b (f + 1) k q = .ok r) : ∃ kd s k1 t, pKd T L k = some kd ∧ (psS q).length < 160 ∧ pSt T L kd k = .ok (s, k1, t) ∧ pSg T L 59 k1 = .ok (k1 + 1) ∧ ((4 ≤ kd ∧ r = (k1 + 1, psAdd T L q b s t)) ∨ (kd < 4 ∧ pSts T L b f (k1 + 1) (psAdd T L q b s t) = .ok r)) := by
  unfold pSts at h
  cases hK : pKd T L k with
  | none => rw [hK] at h; cases h
  | some kd =>
    rw [hK] at h
    simp only at h
    by_cases hl : 160 ≤ (psS q).length
    · rw [if_pos hl] at h; cases h
    · rw [if_neg hl] at h
      simp only [bd_ok] at h
      obtain ⟨⟨s, k1, t⟩, a1, k2, a2, a3⟩ := h
      have e := (pSg_ok a2).2.2
      simp only at e
      subst e
      refine ⟨kd, s, k1, t, rfl, by omega, a1, a2, ?_⟩
      by_cases h4 : 4 ≤ kd
      · rw [if_pos h4] at a3
        cases a3
        exact Or.inl ⟨h4, rfl⟩
      · rw [if_neg h4] at a3
        exact Or.inr ⟨by omega, a3⟩
theorem pSts_er {T : Nat → Nat} {L b f k : Nat} {q : PS} {e : Nat × Nat} (h : pSts T L b (f + 1) k q = .error e) : (pKd T L k = none ∧ e = er T L k 2) ∨ ∃ kd, pKd T L k = some kd ∧ ((160 ≤ (psS q).length ∧ e = er T L k 3) ∨ ((psS q).length < 160 ∧ (pSt T L kd k = .error e ∨ ∃ s k1 t, pSt T L kd k = .ok (s, k1, t) ∧ (pSg T L 59 k1 = .error e ∨ (pSg T L 59 k1 = .ok (k1 + 1) ∧ kd < 4 ∧ pSts T L b f (k1 + 1) (psAdd T L q b s t) = .error e))))) := by
  unfold pSts at h
  cases hK : pKd T L k with
  | none => rw [hK] at h; cases h; exact Or.inl ⟨rfl, rfl⟩
  | some kd =>
    rw [hK] at h
    simp only at h
    refine Or.inr ⟨kd, rfl, ?_⟩
    by_cases hl : 160 ≤ (psS q).length
    · rw [if_pos hl] at h; cases h; exact Or.inl ⟨hl, rfl⟩
    · rw [if_neg hl] at h
      simp only [bd_er] at h
      refine Or.inr ⟨by omega, ?_⟩
      rcases h with h | ⟨⟨s, k1, t⟩, a1, h⟩
      · exact Or.inl h
      · refine Or.inr ⟨s, k1, t, a1, ?_⟩
        rcases h with h | ⟨k2, a2, h⟩
        · exact Or.inl h
        · have e := (pSg_ok a2).2.2
          simp only at e
          subst e
          by_cases h4 : 4 ≤ kd
          · rw [if_pos h4] at h; cases h
          · rw [if_neg h4] at h
            exact Or.inr ⟨a2, by omega, h⟩
theorem z1_kind_s {g : GG} {σ : HS} (hS : SK σ) {T : Nat → Nat} {L N k kd : Nat} (hC : PCt σ T L N) (hk : sI σ 5 3 = nI k) (hkN : k ≤ N) (h : pKd T L k = some kd) : CT g mX1_kindThatBegins 1 0 0 [.ref 5] σ (PQ σ (.int (nI kd))) := by
  have := z1_kind (g := g) hS hC hk hkN
  rw [h] at this
  exact this
theorem z1_kind_n {g : GG} {σ : HS} (hS : SK σ) {T : Nat → Nat} {L N k : Nat} (hC : PCt σ T L N) (hk : sI σ 5 3 = nI k) (hkN : k ≤ N) (h : pKd T L k = none) : CT g mX1_kindThatBegins 1 0 0 [.ref 5] σ (PQ σ (.int (-1))) := by
  have := z1_kind (g := g) hS hC hk hkN
  rw [h] at this
  exact this
theorem LE_add {m : Nat} {l : List REC} {r : REC} (h : LE m l) (hr : rK r < 4) : LE m (l ++ [r]) := by
  intro x hx h4
  rcases List.mem_append.mp hx with hx | hx
  · exact h x hx h4
  · rw [List.mem_singleton] at hx; subst hx; omega
/-- the statements of a block, without a FAULT -/
theorem y1_sts_ok {g : GG} {σ0 : HS} (hS0 : SK σ0) {b : Nat} (hb0 : RB σ0 b) (hR0 : sR σ0 5 5 = b) {T : Nat → Nat} {L N nb : Nat} (h1 : 1 ≤ nb) (h40 : nb ≤ 40) (hC0 : PCt σ0 T L N) (hT : ∀ i, i < L → T i < 256) {k2 : Nat} {q' : PS} : ∀ (f i k : Nat) (q : PS) (σ : HS), i + f = 161 → BFr b σ0 σ → PSR σ b q → (psF q).length = nb → LE (nb - 1) (psS q) → sI σ 5 3 = nI k → sI σ 5 6 = sI σ0 5 6 → k ≤ N → pSts T L (nb - 1) f k q = .ok (k2, q') → WA g mX1_readBlock 7 0 0 (ZM g (WQ (.int (bi true)) (fun σ' => BFr b σ0 σ' ∧ sI σ' 5 3 = nI k2 ∧ sI σ' 5 6 = sI σ0 5 6 ∧ PSR σ' b q')) 0 0) 0 0 78 [(0, .ref 5), (1, .int (nI (nb - 1))), (2, .int (nI i))] [] σ := by
  have hb14 : b = 14 ∨ 99 ≤ b := by rcases hb0.1 with h | ⟨j, h⟩ <;> omega
  intro f
  induction f with
  | zero => intro i k q σ _ _ _ _ _ _ _ _ hx; cases hx
  | succ f ih =>
    intro i k q σ hi h0 hP hF hE hk h56 hkN hx
    obtain ⟨kd, s, k1, t, x1, x2, x3, x4, x5⟩ := pSts_ok hx
    obtain ⟨y1, y2, y3⟩ := pKd_b x1
    have hS := SK.bf h0 hS0
    have hb := RB.bf h0 hb0
    have hR : sR σ 5 5 = b := by rw [h0.2.1]; exact hR0
    have hC := PCt.bf hb14 h0 hC0
    have l1 := tk_lt hC.2.2.2.1 (k := k) (by omega)
    have l2 := pSt_lt hC.2.2.2.1 l1 y1 y2 x3
    have l3 := pSg_lt hC.2.2.2.1 x4
    obtain ⟨p1, p2, p3, p4, p5, p6, p7, p8, p9, p10⟩ := id hP
    rw [hF] at p1
    refine q_iload_n dX1_readBlock_78 rfl rfl ?_
    refine q_sipush (v := nI 160) dX1_readBlock_79 rfl ?_
    refine q_icmp_gtN (tgt := 162) dX1_readBlock_82 (by decide) (by omega) (by omega) (fun c82 => ?_) (fun c82 => ?_)
    · exact absurd c82 (by omega)
    · skip
      refine q_aload_n dX1_readBlock_85 rfl rfl rfl ?_
      refine q_callV (As := []) (rest := []) dX1_readBlock_86 vX1_85 (ty_c hS (by decide) rfl) ⟨by decide, rfl⟩ (z1_kind_s hS hC hk hkN x1) rfl rfl (Nat.le_of_ble_eq_true rfl) (by omega) (by omega) (by omega) (k_p ?_)
      refine q_istore_n dX1_readBlock_89 rfl (by decide) (ls' := [(3, .int (nI kd)), (0, .ref 5), (1, .int (nI (nb - 1))), (2, .int (nI i))]) rfl ?_
      refine q_iload_n dX1_readBlock_90 rfl rfl ?_
      refine q_if_geN (tgt := 100) dX1_readBlock_91 (by decide) (by omega) ?_
      refine q_aload_n dX1_readBlock_100 rfl rfl rfl ?_
      refine q_getr (r := b) dX1_readBlock_101 fX1_30 rfl (ty_c hS (by decide) rfl) hR ?_
      refine q_geti (x := nI ((psS q).length)) dX1_readBlock_104 fX1_89 rfl (ty_r hb 0 rfl) p2 ?_
      refine q_sipush (v := nI 160) dX1_readBlock_107 rfl ?_
      refine q_icmp_ltN (tgt := 119) dX1_readBlock_110 (by decide) (by omega) (by omega) (fun c110 => ?_) (fun c110 => ?_)
      · skip
        refine q_aload_n dX1_readBlock_119 rfl rfl rfl ?_
        refine q_iload_n dX1_readBlock_120 rfl rfl ?_
        refine q_callV (As := [.int (nI kd)]) (rest := []) dX1_readBlock_121 vX1_92 (ty_c hS (by decide) rfl) ⟨by decide, rfl⟩ (z1_rs_ok (nb := nb) (n := (psS q).length) hS hb hR x2 h1 h40 hC hT hk l1 p1 p3 p5 p6 y1 y2 x3) rfl rfl (Nat.le_of_ble_eq_true rfl) (by omega) (by omega) (by omega) (k_w (fun s121 q121 => ?_))
        obtain ⟨a1, a2⟩ := q121
        have hbf := h0.tr a2.1.bf
        have hS2 := SK.bf hbf hS0
        have hC2 := PCt.bf hb14 hbf hC0
        have hP2 : PSR s121 b (psAdd T L q (nb - 1) s t) := by
          rw [psAdd_eq]
          refine PSR_add hb14 hP (by omega) (by rw [hF]; rfl) (by rw [hF]; exact hE) ?_
          rw [hF]; exact a2
        refine q_if_eqB (tgt := 136) dX1_readBlock_124 (by decide) (fun h => absurd h (by decide)) (fun _ => ?_)
        refine q_aload_n dX1_readBlock_127 rfl rfl rfl ?_
        refine q_bipush (v := nI 59) dX1_readBlock_128 rfl ?_
        refine q_callV (As := [.int (nI 59)]) (rest := []) dX1_readBlock_130 vX1_82 (ty_c hS2 (by decide) rfl) ⟨by decide, rfl⟩ (z1_takeSign_ok (σ := s121) hS2 hC2 a1 (by omega) x4 (by decide)) rfl rfl (Nat.le_of_ble_eq_true rfl) (by omega) (by omega) (by omega) (k_p ?_)
        refine q_if_neB (tgt := 138) dX1_readBlock_133 (by decide) (fun _ => ?_) (fun h => absurd h (by decide))
        refine q_iload_n dX1_readBlock_138 rfl rfl ?_
        refine q_iconst (v := nI 4) dX1_readBlock_139 rfl ?_
        refine q_icmp_eqN (tgt := 154) dX1_readBlock_140 (by decide) (by omega) (by omega) (fun c140 => ?_) (fun c140 => ?_)
        · skip
          refine q_iconst (v := nI 1) dX1_readBlock_154 rfl ?_
          refine q_ireturn dX1_readBlock_155 rfl rfl (by omega) (by omega) ?_
          rcases x5 with ⟨z1, z2⟩ | ⟨z1, z2⟩
          · cases z2
            exact ⟨rfl, hbf.uI (by omega), uI_self, (rd_ne (by decide)).trans ((a2.1.2.2.2 5 6 (by omega)).trans h56), hP2.u5 hb14⟩
          · exact absurd z1 (by omega)
        · skip
          refine q_iload_n dX1_readBlock_143 rfl rfl ?_
          refine q_iconst (v := nI 5) dX1_readBlock_144 rfl ?_
          refine q_icmp_eqN (tgt := 154) dX1_readBlock_145 (by decide) (by omega) (by omega) (fun c145 => ?_) (fun c145 => ?_)
          · skip
            refine q_iconst (v := nI 1) dX1_readBlock_154 rfl ?_
            refine q_ireturn dX1_readBlock_155 rfl rfl (by omega) (by omega) ?_
            rcases x5 with ⟨z1, z2⟩ | ⟨z1, z2⟩
            · cases z2
              exact ⟨rfl, hbf.uI (by omega), uI_self, (rd_ne (by decide)).trans ((a2.1.2.2.2 5 6 (by omega)).trans h56), hP2.u5 hb14⟩
            · exact absurd z1 (by omega)
          · skip
            refine q_iload_n dX1_readBlock_148 rfl rfl ?_
            refine q_bipush (v := nI 6) dX1_readBlock_149 rfl ?_
            refine q_icmp_neN (tgt := 156) dX1_readBlock_151 (by decide) (by omega) (by omega) (fun c151 => ?_) (fun c151 => ?_)
            · skip
              refine q_iincN (c := 1) dX1_readBlock_156 rfl (by decide) rfl (ls' := [(2, .int (nI (i + 1))), (3, .int (nI kd)), (0, .ref 5), (1, .int (nI (nb - 1)))]) rfl ?_
              refine q_goto (tgt := 78) dX1_readBlock_159 (by decide) ?_
              refine q_pk [2, 3, 0] (ls' := [(0, .ref 5), (1, .int (nI (nb - 1))), (2, .int (nI (i + 1)))]) rfl ?_
              rcases x5 with ⟨z1, z2⟩ | ⟨z1, z2⟩
              · exact absurd z1 (by omega)
              refine ih _ _ _ _ (by omega) (hbf.uI (by omega)) (hP2.u5 hb14) (by rw [psAdd_eq]; exact hF) (by rw [psAdd_eq]; exact LE_add hE (by show s.1 < 4; omega)) uI_self ((rd_ne (by decide)).trans ((a2.1.2.2.2 5 6 (by omega)).trans h56)) (by omega) z2
            · skip
              refine q_iconst (v := nI 1) dX1_readBlock_154 rfl ?_
              refine q_ireturn dX1_readBlock_155 rfl rfl (by omega) (by omega) ?_
              rcases x5 with ⟨z1, z2⟩ | ⟨z1, z2⟩
              · cases z2
                exact ⟨rfl, hbf.uI (by omega), uI_self, (rd_ne (by decide)).trans ((a2.1.2.2.2 5 6 (by omega)).trans h56), hP2.u5 hb14⟩
              · exact absurd z1 (by omega)
      · exact absurd c110 (by omega)
theorem y1_sts_er {g : GG} {σ0 : HS} (hS0 : SK σ0) {b : Nat} (hb0 : RB σ0 b) (hR0 : sR σ0 5 5 = b) {T : Nat → Nat} {L N nb : Nat} (h1 : 1 ≤ nb) (h40 : nb ≤ 40) (hC0 : PCt σ0 T L N) (hT : ∀ i, i < L → T i < 256) {e : Nat × Nat} : ∀ (f i k : Nat) (q : PS) (σ : HS), i + f = 161 → BFr b σ0 σ → PSR σ b q → (psF q).length = nb → LE (nb - 1) (psS q) → (psS q).length ≤ 160 → sI σ 5 3 = nI k → k ≤ N → pSts T L (nb - 1) f k q = .error e → WA g mX1_readBlock 7 0 0 (ZM g (WQ (.int (bi false)) (fun σ' => BadS b σ0 σ' e)) 0 0) 0 0 78 [(0, .ref 5), (1, .int (nI (nb - 1))), (2, .int (nI i))] [] σ := by
  have hb14 : b = 14 ∨ 99 ≤ b := by rcases hb0.1 with h | ⟨j, h⟩ <;> omega
  intro f
  induction f with
  | zero =>
    intro i k q σ hi h0 hP hF hE hL hk hkN hx
    cases hx
    have hS := SK.bf h0 hS0
    have hb := RB.bf h0 hb0
    have hC := PCt.bf hb14 h0 hC0
    refine q_iload_n dX1_readBlock_78 rfl rfl ?_
    refine q_sipush (v := nI 160) dX1_readBlock_79 rfl ?_
    refine q_icmp_gtN (tgt := 162) dX1_readBlock_82 (by decide) (by omega) (by omega) (fun c82 => ?_) (fun c82 => ?_)
    · skip
      refine q_aload_n dX1_readBlock_162 rfl rfl rfl ?_
      refine q_iconst (v := nI 3) dX1_readBlock_163 rfl ?_
      refine q_callV (As := [.int (nI 3)]) (rest := []) dX1_readBlock_164 vX1_55 (ty_c hS (by decide) rfl) ⟨by decide, rfl⟩ (z1_refuse hS hC hk hkN) rfl rfl (Nat.le_of_ble_eq_true rfl) (by omega) (by omega) (by omega) (k_p ?_)
      refine q_ireturn dX1_readBlock_167 rfl (bi_nar _) (by omega) (by omega) ?_
      exact ⟨rfl, BadS.er h0⟩
    · exact absurd c82 (by omega)
  | succ f ih =>
    intro i k q σ hi h0 hP hF hE hL hk hkN hx
    have hS := SK.bf h0 hS0
    have hb := RB.bf h0 hb0
    have hR : sR σ 5 5 = b := by rw [h0.2.1]; exact hR0
    have hC := PCt.bf hb14 h0 hC0
    obtain ⟨p1, p2, p3, p4, p5, p6, p7, p8, p9, p10⟩ := id hP
    rw [hF] at p1
    rcases pSts_er hx with ⟨x1, rfl⟩ | ⟨kd, x1, ⟨x2, rfl⟩ | ⟨x2, x3 | ⟨s, k1, t, x3, x4 | ⟨x4, x5, x6⟩⟩⟩⟩
    · skip
      refine q_iload_n dX1_readBlock_78 rfl rfl ?_
      refine q_sipush (v := nI 160) dX1_readBlock_79 rfl ?_
      refine q_icmp_gtN (tgt := 162) dX1_readBlock_82 (by decide) (by omega) (by omega) (fun c82 => ?_) (fun c82 => ?_)
      · exact absurd c82 (by omega)
      · skip
        refine q_aload_n dX1_readBlock_85 rfl rfl rfl ?_
        refine q_callV (As := []) (rest := []) dX1_readBlock_86 vX1_85 (ty_c hS (by decide) rfl) ⟨by decide, rfl⟩ (z1_kind_n hS hC hk hkN x1) rfl rfl (Nat.le_of_ble_eq_true rfl) (by omega) (by omega) (by omega) (k_p ?_)
        refine q_istore_n dX1_readBlock_89 rfl (by decide) (ls' := [(3, .int (-1)), (0, .ref 5), (1, .int (nI (nb - 1))), (2, .int (nI i))]) rfl ?_
        refine q_iload_n dX1_readBlock_90 rfl rfl ?_
        refine q_if_ge1 (tgt := 100) dX1_readBlock_91 (by decide) (by decide) ?_
        refine q_aload_n dX1_readBlock_94 rfl rfl rfl ?_
        refine q_iconst (v := nI 2) dX1_readBlock_95 rfl ?_
        refine q_callV (As := [.int (nI 2)]) (rest := []) dX1_readBlock_96 vX1_55 (ty_c hS (by decide) rfl) ⟨by decide, rfl⟩ (z1_refuse hS hC hk hkN) rfl rfl (Nat.le_of_ble_eq_true rfl) (by omega) (by omega) (by omega) (k_p ?_)
        refine q_ireturn dX1_readBlock_99 rfl (bi_nar _) (by omega) (by omega) ?_
        exact ⟨rfl, BadS.er h0⟩
    · skip
      obtain ⟨y1, y2, y3⟩ := pKd_b x1
      have l1 := tk_lt hC.2.2.2.1 (k := k) (by omega)
      refine q_iload_n dX1_readBlock_78 rfl rfl ?_
      refine q_sipush (v := nI 160) dX1_readBlock_79 rfl ?_
      refine q_icmp_gtN (tgt := 162) dX1_readBlock_82 (by decide) (by omega) (by omega) (fun c82 => ?_) (fun c82 => ?_)
      · exact absurd c82 (by omega)
      · skip
        refine q_aload_n dX1_readBlock_85 rfl rfl rfl ?_
        refine q_callV (As := []) (rest := []) dX1_readBlock_86 vX1_85 (ty_c hS (by decide) rfl) ⟨by decide, rfl⟩ (z1_kind_s hS hC hk hkN x1) rfl rfl (Nat.le_of_ble_eq_true rfl) (by omega) (by omega) (by omega) (k_p ?_)
        refine q_istore_n dX1_readBlock_89 rfl (by decide) (ls' := [(3, .int (nI kd)), (0, .ref 5), (1, .int (nI (nb - 1))), (2, .int (nI i))]) rfl ?_
        refine q_iload_n dX1_readBlock_90 rfl rfl ?_
        refine q_if_geN (tgt := 100) dX1_readBlock_91 (by decide) (by omega) ?_
        refine q_aload_n dX1_readBlock_100 rfl rfl rfl ?_
        refine q_getr (r := b) dX1_readBlock_101 fX1_30 rfl (ty_c hS (by decide) rfl) hR ?_
        refine q_geti (x := nI ((psS q).length)) dX1_readBlock_104 fX1_89 rfl (ty_r hb 0 rfl) p2 ?_
        refine q_sipush (v := nI 160) dX1_readBlock_107 rfl ?_
        refine q_icmp_ltN (tgt := 119) dX1_readBlock_110 (by decide) (by omega) (by omega) (fun c110 => ?_) (fun c110 => ?_)
        · exact absurd c110 (by omega)
        · skip
          refine q_aload_n dX1_readBlock_113 rfl rfl rfl ?_
          refine q_iconst (v := nI 3) dX1_readBlock_114 rfl ?_
          refine q_callV (As := [.int (nI 3)]) (rest := []) dX1_readBlock_115 vX1_55 (ty_c hS (by decide) rfl) ⟨by decide, rfl⟩ (z1_refuse hS hC hk hkN) rfl rfl (Nat.le_of_ble_eq_true rfl) (by omega) (by omega) (by omega) (k_p ?_)
          refine q_ireturn dX1_readBlock_118 rfl (bi_nar _) (by omega) (by omega) ?_
          exact ⟨rfl, BadS.er h0⟩
    · skip
      obtain ⟨y1, y2, y3⟩ := pKd_b x1
      have l1 := tk_lt hC.2.2.2.1 (k := k) (by omega)
      refine q_iload_n dX1_readBlock_78 rfl rfl ?_
      refine q_sipush (v := nI 160) dX1_readBlock_79 rfl ?_
      refine q_icmp_gtN (tgt := 162) dX1_readBlock_82 (by decide) (by omega) (by omega) (fun c82 => ?_) (fun c82 => ?_)
      · exact absurd c82 (by omega)
      · skip
        refine q_aload_n dX1_readBlock_85 rfl rfl rfl ?_
        refine q_callV (As := []) (rest := []) dX1_readBlock_86 vX1_85 (ty_c hS (by decide) rfl) ⟨by decide, rfl⟩ (z1_kind_s hS hC hk hkN x1) rfl rfl (Nat.le_of_ble_eq_true rfl) (by omega) (by omega) (by omega) (k_p ?_)
        refine q_istore_n dX1_readBlock_89 rfl (by decide) (ls' := [(3, .int (nI kd)), (0, .ref 5), (1, .int (nI (nb - 1))), (2, .int (nI i))]) rfl ?_
        refine q_iload_n dX1_readBlock_90 rfl rfl ?_
        refine q_if_geN (tgt := 100) dX1_readBlock_91 (by decide) (by omega) ?_
        refine q_aload_n dX1_readBlock_100 rfl rfl rfl ?_
        refine q_getr (r := b) dX1_readBlock_101 fX1_30 rfl (ty_c hS (by decide) rfl) hR ?_
        refine q_geti (x := nI ((psS q).length)) dX1_readBlock_104 fX1_89 rfl (ty_r hb 0 rfl) p2 ?_
        refine q_sipush (v := nI 160) dX1_readBlock_107 rfl ?_
        refine q_icmp_ltN (tgt := 119) dX1_readBlock_110 (by decide) (by omega) (by omega) (fun c110 => ?_) (fun c110 => ?_)
        · skip
          refine q_aload_n dX1_readBlock_119 rfl rfl rfl ?_
          refine q_iload_n dX1_readBlock_120 rfl rfl ?_
          refine q_callV (As := [.int (nI kd)]) (rest := []) dX1_readBlock_121 vX1_92 (ty_c hS (by decide) rfl) ⟨by decide, rfl⟩ (z1_rs_er (nb := nb) (n := (psS q).length) hS hb hR x2 h1 h40 hC hT hk l1 p1 p3 p5 p6 y1 y2 x3) rfl rfl (Nat.le_of_ble_eq_true rfl) (by omega) (by omega) (by omega) (k_w (fun s121 q121 => ?_))
          refine q_if_eqB (tgt := 136) dX1_readBlock_124 (by decide) (fun _ => ?_) (fun h => absurd h (by decide))
          refine q_iconst (v := nI 0) dX1_readBlock_136 rfl ?_
          refine q_ireturn dX1_readBlock_137 rfl rfl (by omega) (by omega) ?_
          exact ⟨rfl, BadS.tr h0 q121⟩
        · exact absurd c110 (by omega)
    · skip
      obtain ⟨y1, y2, y3⟩ := pKd_b x1
      have l1 := tk_lt hC.2.2.2.1 (k := k) (by omega)
      have l2 := pSt_lt hC.2.2.2.1 l1 y1 y2 x3
      refine q_iload_n dX1_readBlock_78 rfl rfl ?_
      refine q_sipush (v := nI 160) dX1_readBlock_79 rfl ?_
      refine q_icmp_gtN (tgt := 162) dX1_readBlock_82 (by decide) (by omega) (by omega) (fun c82 => ?_) (fun c82 => ?_)
      · exact absurd c82 (by omega)
      · skip
        refine q_aload_n dX1_readBlock_85 rfl rfl rfl ?_
        refine q_callV (As := []) (rest := []) dX1_readBlock_86 vX1_85 (ty_c hS (by decide) rfl) ⟨by decide, rfl⟩ (z1_kind_s hS hC hk hkN x1) rfl rfl (Nat.le_of_ble_eq_true rfl) (by omega) (by omega) (by omega) (k_p ?_)
        refine q_istore_n dX1_readBlock_89 rfl (by decide) (ls' := [(3, .int (nI kd)), (0, .ref 5), (1, .int (nI (nb - 1))), (2, .int (nI i))]) rfl ?_
        refine q_iload_n dX1_readBlock_90 rfl rfl ?_
        refine q_if_geN (tgt := 100) dX1_readBlock_91 (by decide) (by omega) ?_
        refine q_aload_n dX1_readBlock_100 rfl rfl rfl ?_
        refine q_getr (r := b) dX1_readBlock_101 fX1_30 rfl (ty_c hS (by decide) rfl) hR ?_
        refine q_geti (x := nI ((psS q).length)) dX1_readBlock_104 fX1_89 rfl (ty_r hb 0 rfl) p2 ?_
        refine q_sipush (v := nI 160) dX1_readBlock_107 rfl ?_
        refine q_icmp_ltN (tgt := 119) dX1_readBlock_110 (by decide) (by omega) (by omega) (fun c110 => ?_) (fun c110 => ?_)
        · skip
          refine q_aload_n dX1_readBlock_119 rfl rfl rfl ?_
          refine q_iload_n dX1_readBlock_120 rfl rfl ?_
          refine q_callV (As := [.int (nI kd)]) (rest := []) dX1_readBlock_121 vX1_92 (ty_c hS (by decide) rfl) ⟨by decide, rfl⟩ (z1_rs_ok (nb := nb) (n := (psS q).length) hS hb hR x2 h1 h40 hC hT hk l1 p1 p3 p5 p6 y1 y2 x3) rfl rfl (Nat.le_of_ble_eq_true rfl) (by omega) (by omega) (by omega) (k_w (fun s121 q121 => ?_))
          obtain ⟨a1, a2⟩ := q121
          have hbf := h0.tr a2.1.bf
          have hS2 := SK.bf hbf hS0
          have hC2 := PCt.bf hb14 hbf hC0
          have hP2 : PSR s121 b (psAdd T L q (nb - 1) s t) := by
            rw [psAdd_eq]
            refine PSR_add hb14 hP (by omega) (by rw [hF]; rfl) (by rw [hF]; exact hE) ?_
            rw [hF]; exact a2
          refine q_if_eqB (tgt := 136) dX1_readBlock_124 (by decide) (fun h => absurd h (by decide)) (fun _ => ?_)
          refine q_aload_n dX1_readBlock_127 rfl rfl rfl ?_
          refine q_bipush (v := nI 59) dX1_readBlock_128 rfl ?_
          refine q_callV (As := [.int (nI 59)]) (rest := []) dX1_readBlock_130 vX1_82 (ty_c hS2 (by decide) rfl) ⟨by decide, rfl⟩ (z1_takeSign_er (σ := s121) hS2 hC2 hT a1 (by omega) x4 (by decide)) rfl rfl (Nat.le_of_ble_eq_true rfl) (by omega) (by omega) (by omega) (k_p ?_)
          refine q_if_neB (tgt := 138) dX1_readBlock_133 (by decide) (fun h => absurd h (by decide)) (fun _ => ?_)
          refine q_iconst (v := nI 0) dX1_readBlock_136 rfl ?_
          refine q_ireturn dX1_readBlock_137 rfl rfl (by omega) (by omega) ?_
          exact ⟨rfl, BadS.er hbf⟩
        · exact absurd c110 (by omega)
    · skip
      obtain ⟨y1, y2, y3⟩ := pKd_b x1
      have l1 := tk_lt hC.2.2.2.1 (k := k) (by omega)
      have l2 := pSt_lt hC.2.2.2.1 l1 y1 y2 x3
      have l3 := pSg_lt hC.2.2.2.1 x4
      refine q_iload_n dX1_readBlock_78 rfl rfl ?_
      refine q_sipush (v := nI 160) dX1_readBlock_79 rfl ?_
      refine q_icmp_gtN (tgt := 162) dX1_readBlock_82 (by decide) (by omega) (by omega) (fun c82 => ?_) (fun c82 => ?_)
      · exact absurd c82 (by omega)
      · skip
        refine q_aload_n dX1_readBlock_85 rfl rfl rfl ?_
        refine q_callV (As := []) (rest := []) dX1_readBlock_86 vX1_85 (ty_c hS (by decide) rfl) ⟨by decide, rfl⟩ (z1_kind_s hS hC hk hkN x1) rfl rfl (Nat.le_of_ble_eq_true rfl) (by omega) (by omega) (by omega) (k_p ?_)
        refine q_istore_n dX1_readBlock_89 rfl (by decide) (ls' := [(3, .int (nI kd)), (0, .ref 5), (1, .int (nI (nb - 1))), (2, .int (nI i))]) rfl ?_
        refine q_iload_n dX1_readBlock_90 rfl rfl ?_
        refine q_if_geN (tgt := 100) dX1_readBlock_91 (by decide) (by omega) ?_
        refine q_aload_n dX1_readBlock_100 rfl rfl rfl ?_
        refine q_getr (r := b) dX1_readBlock_101 fX1_30 rfl (ty_c hS (by decide) rfl) hR ?_
        refine q_geti (x := nI ((psS q).length)) dX1_readBlock_104 fX1_89 rfl (ty_r hb 0 rfl) p2 ?_
        refine q_sipush (v := nI 160) dX1_readBlock_107 rfl ?_
        refine q_icmp_ltN (tgt := 119) dX1_readBlock_110 (by decide) (by omega) (by omega) (fun c110 => ?_) (fun c110 => ?_)
        · skip
          refine q_aload_n dX1_readBlock_119 rfl rfl rfl ?_
          refine q_iload_n dX1_readBlock_120 rfl rfl ?_
          refine q_callV (As := [.int (nI kd)]) (rest := []) dX1_readBlock_121 vX1_92 (ty_c hS (by decide) rfl) ⟨by decide, rfl⟩ (z1_rs_ok (nb := nb) (n := (psS q).length) hS hb hR x2 h1 h40 hC hT hk l1 p1 p3 p5 p6 y1 y2 x3) rfl rfl (Nat.le_of_ble_eq_true rfl) (by omega) (by omega) (by omega) (k_w (fun s121 q121 => ?_))
          obtain ⟨a1, a2⟩ := q121
          have hbf := h0.tr a2.1.bf
          have hS2 := SK.bf hbf hS0
          have hC2 := PCt.bf hb14 hbf hC0
          have hP2 : PSR s121 b (psAdd T L q (nb - 1) s t) := by
            rw [psAdd_eq]
            refine PSR_add hb14 hP (by omega) (by rw [hF]; rfl) (by rw [hF]; exact hE) ?_
            rw [hF]; exact a2
          refine q_if_eqB (tgt := 136) dX1_readBlock_124 (by decide) (fun h => absurd h (by decide)) (fun _ => ?_)
          refine q_aload_n dX1_readBlock_127 rfl rfl rfl ?_
          refine q_bipush (v := nI 59) dX1_readBlock_128 rfl ?_
          refine q_callV (As := [.int (nI 59)]) (rest := []) dX1_readBlock_130 vX1_82 (ty_c hS2 (by decide) rfl) ⟨by decide, rfl⟩ (z1_takeSign_ok (σ := s121) hS2 hC2 a1 (by omega) x4 (by decide)) rfl rfl (Nat.le_of_ble_eq_true rfl) (by omega) (by omega) (by omega) (k_p ?_)
          refine q_if_neB (tgt := 138) dX1_readBlock_133 (by decide) (fun _ => ?_) (fun h => absurd h (by decide))
          refine q_iload_n dX1_readBlock_138 rfl rfl ?_
          refine q_iconst (v := nI 4) dX1_readBlock_139 rfl ?_
          refine q_icmp_eqN (tgt := 154) dX1_readBlock_140 (by decide) (by omega) (by omega) (fun c140 => ?_) (fun c140 => ?_)
          · skip
            refine q_iconst (v := nI 1) dX1_readBlock_154 rfl ?_
            refine q_ireturn dX1_readBlock_155 rfl rfl (by omega) (by omega) ?_
            exact absurd x5 (by omega)
          · skip
            refine q_iload_n dX1_readBlock_143 rfl rfl ?_
            refine q_iconst (v := nI 5) dX1_readBlock_144 rfl ?_
            refine q_icmp_eqN (tgt := 154) dX1_readBlock_145 (by decide) (by omega) (by omega) (fun c145 => ?_) (fun c145 => ?_)
            · skip
              refine q_iconst (v := nI 1) dX1_readBlock_154 rfl ?_
              refine q_ireturn dX1_readBlock_155 rfl rfl (by omega) (by omega) ?_
              exact absurd x5 (by omega)
            · skip
              refine q_iload_n dX1_readBlock_148 rfl rfl ?_
              refine q_bipush (v := nI 6) dX1_readBlock_149 rfl ?_
              refine q_icmp_neN (tgt := 156) dX1_readBlock_151 (by decide) (by omega) (by omega) (fun c151 => ?_) (fun c151 => ?_)
              · skip
                refine q_iincN (c := 1) dX1_readBlock_156 rfl (by decide) rfl (ls' := [(2, .int (nI (i + 1))), (3, .int (nI kd)), (0, .ref 5), (1, .int (nI (nb - 1)))]) rfl ?_
                refine q_goto (tgt := 78) dX1_readBlock_159 (by decide) ?_
                refine q_pk [2, 3, 0] (ls' := [(0, .ref 5), (1, .int (nI (nb - 1))), (2, .int (nI (i + 1)))]) rfl ?_
                refine ih _ _ _ _ (by omega) (hbf.uI (by omega)) (hP2.u5 hb14) (by rw [psAdd_eq]; exact hF) (by rw [psAdd_eq]; exact LE_add hE (by show s.1 < 4; omega)) (by rw [psAdd_eq]; show (psS q ++ [_]).length ≤ 160; simp; omega) uI_self (by omega) x6
              · skip
                refine q_iconst (v := nI 1) dX1_readBlock_154 rfl ?_
                refine q_ireturn dX1_readBlock_155 rfl rfl (by omega) (by omega) ?_
                exact absurd x5 (by omega)
        · exact absurd c110 (by omega)

def psB (T : Nat → Nat) (L k : Nat) (q : PS) : PS := (psS q, psM q, psX q, psT q, psF q ++ [(psS q).length], psH q ++ [ts T L k])
theorem pBk_ok {T : Nat → Nat} {L b k : Nat} {q : PS} {r : Nat × PS} (h : pBk T L b k q = .ok r) : tk T L k = 5 ∧ tv T L k = b ∧ pSg T L 58 (k + 1) = .ok (k + 1 + 1) ∧ pSts T L b 161 (k + 1 + 1) (psB T L k q) = .ok r := by
  unfold pBk at h
  by_cases h1 : tk T L k = 5 ∧ tv T L k = b
  · rw [if_pos h1] at h
    simp only [bd_ok] at h
    obtain ⟨k1, a1, a2⟩ := h
    have e := (pSg_ok a1).2.2
    subst e
    exact ⟨h1.1, h1.2, a1, a2⟩
  · rw [if_neg h1] at h; cases h
theorem pBk_er {T : Nat → Nat} {L b k : Nat} {q : PS} {e : Nat × Nat} (h : pBk T L b k q = .error e) : (¬ (tk T L k = 5 ∧ tv T L k = b) ∧ e = er T L k 2) ∨ (tk T L k = 5 ∧ tv T L k = b ∧ (pSg T L 58 (k + 1) = .error e ∨ (pSg T L 58 (k + 1) = .ok (k + 1 + 1) ∧ pSts T L b 161 (k + 1 + 1) (psB T L k q) = .error e))) := by
  unfold pBk at h
  by_cases h1 : tk T L k = 5 ∧ tv T L k = b
  · rw [if_pos h1] at h
    simp only [bd_er] at h
    refine Or.inr ⟨h1.1, h1.2, ?_⟩
    rcases h with h | ⟨k1, a1, h⟩
    · exact Or.inl h
    · have e := (pSg_ok a1).2.2
      subst e
      exact Or.inr ⟨a1, h⟩
  · rw [if_neg h1] at h; cases h; exact Or.inl ⟨h1, rfl⟩
theorem LB.le {m : Nat} {l : List REC} (h : LB m l) : LE m l := fun r hr _ => h r hr
theorem z1_readBlock_ok {g : GG} {σ : HS} (hS : SK σ) {b : Nat} (hb : RB σ b) (hR : sR σ 5 5 = b) {T : Nat → Nat} {L N k : Nat} (hC : PCt σ T L N) (hT : ∀ i, i < L → T i < 256) (hk : sI σ 5 3 = nI k) (hkN : k ≤ N) {q : PS} (hP : PSR σ b q) (hF : (psF q).length < 40) (hH : (psH q).length = (psF q).length) (hB : LB (psF q).length (psS q)) (hL : (psS q).length ≤ 160) {k2 : Nat} {q' : PS} (hx : pBk T L (psF q).length k q = .ok (k2, q')) : CT g mX1_readBlock 7 0 0 [.ref 5, .int (nI (psF q).length)] σ (WQ (.int (bi true)) (fun σ' => BFr b σ σ' ∧ sI σ' 5 3 = nI k2 ∧ sI σ' 5 6 = sI σ 5 6 ∧ PSR σ' b q')) := by
  have hb14 : b = 14 ∨ 99 ≤ b := by rcases hb.1 with h | ⟨j, h⟩ <;> omega
  obtain ⟨h6, h2, h3, h4, h5⟩ := id hC
  have hv := (h5 k (by omega)).2.1
  have hp := (h5 k (by omega)).2.2
  have hvb := tv_b (k := k) hT
  obtain ⟨p1, p2, p3, p4, p5, p6, p7, p8, p9, p10⟩ := id hP
  obtain ⟨x1, x2, x3, x4⟩ := pBk_ok hx
  have l1 := tk_lt h4 (k := k) (by omega)
  have l2 := pSg_lt h4 x3
  refine CT.of (by decide) (Nat.le_of_ble_eq_true rfl) ?_
  refine q_aload_n dX1_readBlock_0 rfl rfl rfl ?_
  refine q_iconst (v := nI 5) dX1_readBlock_1 rfl ?_
  refine q_callV (As := [.int (nI 5)]) (rest := []) dX1_readBlock_2 vX1_48 (ty_c hS (by decide) rfl) ⟨by decide, rfl⟩ (z1_isNow_t hS hC hk (by omega) (by decide) x1) rfl rfl (Nat.le_of_ble_eq_true rfl) (by omega) (by omega) (by omega) (k_p ?_)
  refine q_if_eqB (tgt := 24) dX1_readBlock_5 (by decide) (fun h => absurd h (by decide)) (fun _ => ?_)
  refine q_aload_n dX1_readBlock_8 rfl rfl rfl ?_
  refine q_getr (r := 6) dX1_readBlock_9 fX1_12 rfl (ty_c hS (by decide) rfl) (hS.2 5 0 6 rfl) ?_
  refine q_getr (r := 8) dX1_readBlock_12 fX1_73 rfl (ty_c hS (by decide) rfl) (hS.2 6 1 8 rfl) ?_
  refine q_aload_n dX1_readBlock_15 rfl rfl rfl ?_
  refine q_geti (x := nI k) dX1_readBlock_16 fX1_38 rfl (ty_c hS (by decide) rfl) hk ?_
  refine q_iald (x := nI (tv T L k)) (j := k) dX1_readBlock_19 (ty_c hS (by decide) rfl) (ix_n (by omega) (by omega)) hv ?_
  refine q_iload_n dX1_readBlock_20 rfl rfl ?_
  refine q_icmp_eqN (tgt := 30) dX1_readBlock_21 (by decide) (by omega) (by omega) (fun c21 => ?_) (fun c21 => ?_)
  · skip
    refine q_aload_n dX1_readBlock_30 rfl rfl rfl ?_
    refine q_getr (r := 10) dX1_readBlock_31 fX1_18 rfl (ty_c hS (by decide) rfl) (hS.2 5 1 10 rfl) ?_
    refine q_iload_n dX1_readBlock_34 rfl rfl ?_
    refine q_aload_n dX1_readBlock_35 rfl rfl rfl ?_
    refine q_getr (r := 6) dX1_readBlock_36 fX1_12 rfl (ty_c hS (by decide) rfl) (hS.2 5 0 6 rfl) ?_
    refine q_getr (r := 9) dX1_readBlock_39 fX1_76 rfl (ty_c hS (by decide) rfl) (hS.2 6 2 9 rfl) ?_
    refine q_aload_n dX1_readBlock_42 rfl rfl rfl ?_
    refine q_geti (x := nI k) dX1_readBlock_43 fX1_38 rfl (ty_c hS (by decide) rfl) hk ?_
    refine q_iald (x := nI (ts T L k)) (j := k) dX1_readBlock_46 (ty_c hS (by decide) rfl) (ix_n (by omega) (by omega)) hp ?_
    refine q_iast (j := ((psF q).length)) dX1_readBlock_47 (ty_c hS (by decide) rfl) (ix_n (by omega) (by omega)) ?_
    refine q_aload_n dX1_readBlock_48 rfl rfl rfl ?_
    refine q_dup dX1_readBlock_49 rfl ?_
    refine q_geti (x := nI k) dX1_readBlock_50 fX1_38 rfl (ty_c hS (by decide) rfl) (Eq.trans (rd_off (by decide)) hk) ?_
    refine q_iconst (v := nI 1) dX1_readBlock_53 rfl ?_
    refine q_iaddN dX1_readBlock_54 ?_
    refine q_puti dX1_readBlock_55 fX1_38 rfl (Or.inl rfl) (ty_c hS (by decide) rfl) ?_
    refine q_aload_n dX1_readBlock_58 rfl rfl rfl ?_
    refine q_getr (r := b) dX1_readBlock_59 fX1_30 rfl (ty_c hS (by decide) rfl) hR ?_
    refine q_callV (As := []) (rest := []) dX1_readBlock_62 vX1_79 (ty_r hb 0 rfl) ⟨by decide, rfl⟩ (z2_addBlock (σ := (uI (uI σ 10 ((psF q).length) (nI (ts T L k))) 5 3 (nI (k + 1)))) hb (nb := (psF q).length) (n := (psS q).length) (Eq.trans (rd_off (by omega)) (Eq.trans (rd_off (by omega)) p1)) (Eq.trans (rd_off (by omega)) (Eq.trans (rd_off (by omega)) p2)) (by omega)) rfl rfl (Nat.le_of_ble_eq_true rfl) (by omega) (by omega) (by omega) (k_s ?_)
    refine q_aload_n dX1_readBlock_65 rfl rfl rfl ?_
    refine q_bipush (v := nI 58) dX1_readBlock_66 rfl ?_
    refine q_callV (As := [.int (nI 58)]) (rest := []) dX1_readBlock_68 vX1_82 (ty_c hS (by decide) rfl) ⟨by decide, rfl⟩ (z1_takeSign_ok (σ := (uI (uI (uI (uI (uI σ 10 ((psF q).length) (nI (ts T L k))) 5 3 (nI (k + 1))) b 12 (nI ((psF q).length + 1))) (b + 15) ((psF q).length) (nI ((psS q).length))) (b + 15) ((psF q).length + 1) (nI ((psS q).length)))) hS (PCt.u (PCt.u (PCt.u (PCt.u (PCt.u hC (by omega)) (by omega)) (by omega)) (by omega)) (by omega)) (Eq.trans (rd_off (by omega)) (Eq.trans (rd_off (by omega)) (Eq.trans (rd_off (by omega)) uI_self))) (by omega) x3 (by decide)) rfl rfl (Nat.le_of_ble_eq_true rfl) (by omega) (by omega) (by omega) (k_p ?_)
    refine q_if_neB (tgt := 76) dX1_readBlock_71 (by decide) (fun _ => ?_) (fun h => absurd h (by decide))
    refine q_iconst (v := nI 0) dX1_readBlock_76 rfl ?_
    refine q_istore_n dX1_readBlock_77 rfl (by decide) (ls' := [(2, .int (nI 0)), (0, .ref 5), (1, .int (nI ((psF q).length)))]) rfl ?_
    refine q_pk [1, 2, 0] (ls' := [(0, .ref 5), (1, .int (nI ((psF q).length))), (2, .int (nI 0))]) rfl ?_
    refine y1_sts_ok hS hb hR (nb := (psF q).length + 1) (by omega) (by omega) hC hT 161 0 (k + 1 + 1) (psB T L k q) _ rfl (BFr.uI (BFr.uI (BFr.uI (BFr.uI (BFr.uI (BFr.uI BFr.rf (by omega)) (by omega)) (by omega)) (by omega)) (by omega)) (by omega)) ((PSR_blk hb14 hP hH).u5 hb14) (by show (psF q ++ [_]).length = _; simp) hB.le uI_self (Eq.trans (rd_ne (by decide)) (Eq.trans (rd_off (by omega)) (Eq.trans (rd_off (by omega)) (Eq.trans (rd_off (by omega)) (Eq.trans (rd_ne (by decide)) (rd_off (by decide))))))) (by omega) x4
  · exact absurd x2 c21
theorem z1_readBlock_er {g : GG} {σ : HS} (hS : SK σ) {b : Nat} (hb : RB σ b) (hR : sR σ 5 5 = b) {T : Nat → Nat} {L N k : Nat} (hC : PCt σ T L N) (hT : ∀ i, i < L → T i < 256) (hk : sI σ 5 3 = nI k) (hkN : k ≤ N) {q : PS} (hP : PSR σ b q) (hF : (psF q).length < 40) (hH : (psH q).length = (psF q).length) (hB : LB (psF q).length (psS q)) (hL : (psS q).length ≤ 160) {e : Nat × Nat} (hx : pBk T L (psF q).length k q = .error e) : CT g mX1_readBlock 7 0 0 [.ref 5, .int (nI (psF q).length)] σ (WQ (.int (bi false)) (fun σ' => BadS b σ σ' e)) := by
  have hb14 : b = 14 ∨ 99 ≤ b := by rcases hb.1 with h | ⟨j, h⟩ <;> omega
  obtain ⟨h6, h2, h3, h4, h5⟩ := id hC
  have hv := (h5 k (by omega)).2.1
  have hp := (h5 k (by omega)).2.2
  have hvb := tv_b (k := k) hT
  obtain ⟨p1, p2, p3, p4, p5, p6, p7, p8, p9, p10⟩ := id hP
  rcases pBk_er hx with ⟨x1, rfl⟩ | ⟨x1, x2, x3 | ⟨x3, x4⟩⟩
  · by_cases x2 : tk T L k = 5
    · skip
      refine CT.of (by decide) (Nat.le_of_ble_eq_true rfl) ?_
      refine q_aload_n dX1_readBlock_0 rfl rfl rfl ?_
      refine q_iconst (v := nI 5) dX1_readBlock_1 rfl ?_
      refine q_callV (As := [.int (nI 5)]) (rest := []) dX1_readBlock_2 vX1_48 (ty_c hS (by decide) rfl) ⟨by decide, rfl⟩ (z1_isNow_t hS hC hk (by omega) (by decide) x2) rfl rfl (Nat.le_of_ble_eq_true rfl) (by omega) (by omega) (by omega) (k_p ?_)
      refine q_if_eqB (tgt := 24) dX1_readBlock_5 (by decide) (fun h => absurd h (by decide)) (fun _ => ?_)
      refine q_aload_n dX1_readBlock_8 rfl rfl rfl ?_
      refine q_getr (r := 6) dX1_readBlock_9 fX1_12 rfl (ty_c hS (by decide) rfl) (hS.2 5 0 6 rfl) ?_
      refine q_getr (r := 8) dX1_readBlock_12 fX1_73 rfl (ty_c hS (by decide) rfl) (hS.2 6 1 8 rfl) ?_
      refine q_aload_n dX1_readBlock_15 rfl rfl rfl ?_
      refine q_geti (x := nI k) dX1_readBlock_16 fX1_38 rfl (ty_c hS (by decide) rfl) hk ?_
      refine q_iald (x := nI (tv T L k)) (j := k) dX1_readBlock_19 (ty_c hS (by decide) rfl) (ix_n (by omega) (by omega)) hv ?_
      refine q_iload_n dX1_readBlock_20 rfl rfl ?_
      refine q_icmp_eqN (tgt := 30) dX1_readBlock_21 (by decide) (by omega) (by omega) (fun c21 => ?_) (fun c21 => ?_)
      · exact absurd ⟨x2, c21⟩ x1
      · skip
        refine q_aload_n dX1_readBlock_24 rfl rfl rfl ?_
        refine q_iconst (v := nI 2) dX1_readBlock_25 rfl ?_
        refine q_callV (As := [.int (nI 2)]) (rest := []) dX1_readBlock_26 vX1_55 (ty_c hS (by decide) rfl) ⟨by decide, rfl⟩ (z1_refuse hS hC hk hkN) rfl rfl (Nat.le_of_ble_eq_true rfl) (by omega) (by omega) (by omega) (k_p ?_)
        refine q_ireturn dX1_readBlock_29 rfl (bi_nar _) (by omega) (by omega) ?_
        exact ⟨rfl, BadS.er BFr.rf⟩
    · skip
      refine CT.of (by decide) (Nat.le_of_ble_eq_true rfl) ?_
      refine q_aload_n dX1_readBlock_0 rfl rfl rfl ?_
      refine q_iconst (v := nI 5) dX1_readBlock_1 rfl ?_
      refine q_callV (As := [.int (nI 5)]) (rest := []) dX1_readBlock_2 vX1_48 (ty_c hS (by decide) rfl) ⟨by decide, rfl⟩ (z1_isNow_f hS hC hk (by omega) (by decide) x2) rfl rfl (Nat.le_of_ble_eq_true rfl) (by omega) (by omega) (by omega) (k_p ?_)
      refine q_if_eqB (tgt := 24) dX1_readBlock_5 (by decide) (fun _ => ?_) (fun h => absurd h (by decide))
      refine q_aload_n dX1_readBlock_24 rfl rfl rfl ?_
      refine q_iconst (v := nI 2) dX1_readBlock_25 rfl ?_
      refine q_callV (As := [.int (nI 2)]) (rest := []) dX1_readBlock_26 vX1_55 (ty_c hS (by decide) rfl) ⟨by decide, rfl⟩ (z1_refuse hS hC hk hkN) rfl rfl (Nat.le_of_ble_eq_true rfl) (by omega) (by omega) (by omega) (k_p ?_)
      refine q_ireturn dX1_readBlock_29 rfl (bi_nar _) (by omega) (by omega) ?_
      exact ⟨rfl, BadS.er BFr.rf⟩
  · have l1 := tk_lt h4 (k := k) (by omega)
    refine CT.of (by decide) (Nat.le_of_ble_eq_true rfl) ?_
    refine q_aload_n dX1_readBlock_0 rfl rfl rfl ?_
    refine q_iconst (v := nI 5) dX1_readBlock_1 rfl ?_
    refine q_callV (As := [.int (nI 5)]) (rest := []) dX1_readBlock_2 vX1_48 (ty_c hS (by decide) rfl) ⟨by decide, rfl⟩ (z1_isNow_t hS hC hk (by omega) (by decide) x1) rfl rfl (Nat.le_of_ble_eq_true rfl) (by omega) (by omega) (by omega) (k_p ?_)
    refine q_if_eqB (tgt := 24) dX1_readBlock_5 (by decide) (fun h => absurd h (by decide)) (fun _ => ?_)
    refine q_aload_n dX1_readBlock_8 rfl rfl rfl ?_
    refine q_getr (r := 6) dX1_readBlock_9 fX1_12 rfl (ty_c hS (by decide) rfl) (hS.2 5 0 6 rfl) ?_
    refine q_getr (r := 8) dX1_readBlock_12 fX1_73 rfl (ty_c hS (by decide) rfl) (hS.2 6 1 8 rfl) ?_
    refine q_aload_n dX1_readBlock_15 rfl rfl rfl ?_
    refine q_geti (x := nI k) dX1_readBlock_16 fX1_38 rfl (ty_c hS (by decide) rfl) hk ?_
    refine q_iald (x := nI (tv T L k)) (j := k) dX1_readBlock_19 (ty_c hS (by decide) rfl) (ix_n (by omega) (by omega)) hv ?_
    refine q_iload_n dX1_readBlock_20 rfl rfl ?_
    refine q_icmp_eqN (tgt := 30) dX1_readBlock_21 (by decide) (by omega) (by omega) (fun c21 => ?_) (fun c21 => ?_)
    · skip
      refine q_aload_n dX1_readBlock_30 rfl rfl rfl ?_
      refine q_getr (r := 10) dX1_readBlock_31 fX1_18 rfl (ty_c hS (by decide) rfl) (hS.2 5 1 10 rfl) ?_
      refine q_iload_n dX1_readBlock_34 rfl rfl ?_
      refine q_aload_n dX1_readBlock_35 rfl rfl rfl ?_
      refine q_getr (r := 6) dX1_readBlock_36 fX1_12 rfl (ty_c hS (by decide) rfl) (hS.2 5 0 6 rfl) ?_
      refine q_getr (r := 9) dX1_readBlock_39 fX1_76 rfl (ty_c hS (by decide) rfl) (hS.2 6 2 9 rfl) ?_
      refine q_aload_n dX1_readBlock_42 rfl rfl rfl ?_
      refine q_geti (x := nI k) dX1_readBlock_43 fX1_38 rfl (ty_c hS (by decide) rfl) hk ?_
      refine q_iald (x := nI (ts T L k)) (j := k) dX1_readBlock_46 (ty_c hS (by decide) rfl) (ix_n (by omega) (by omega)) hp ?_
      refine q_iast (j := ((psF q).length)) dX1_readBlock_47 (ty_c hS (by decide) rfl) (ix_n (by omega) (by omega)) ?_
      refine q_aload_n dX1_readBlock_48 rfl rfl rfl ?_
      refine q_dup dX1_readBlock_49 rfl ?_
      refine q_geti (x := nI k) dX1_readBlock_50 fX1_38 rfl (ty_c hS (by decide) rfl) (Eq.trans (rd_off (by decide)) hk) ?_
      refine q_iconst (v := nI 1) dX1_readBlock_53 rfl ?_
      refine q_iaddN dX1_readBlock_54 ?_
      refine q_puti dX1_readBlock_55 fX1_38 rfl (Or.inl rfl) (ty_c hS (by decide) rfl) ?_
      refine q_aload_n dX1_readBlock_58 rfl rfl rfl ?_
      refine q_getr (r := b) dX1_readBlock_59 fX1_30 rfl (ty_c hS (by decide) rfl) hR ?_
      refine q_callV (As := []) (rest := []) dX1_readBlock_62 vX1_79 (ty_r hb 0 rfl) ⟨by decide, rfl⟩ (z2_addBlock (σ := (uI (uI σ 10 ((psF q).length) (nI (ts T L k))) 5 3 (nI (k + 1)))) hb (nb := (psF q).length) (n := (psS q).length) (Eq.trans (rd_off (by omega)) (Eq.trans (rd_off (by omega)) p1)) (Eq.trans (rd_off (by omega)) (Eq.trans (rd_off (by omega)) p2)) (by omega)) rfl rfl (Nat.le_of_ble_eq_true rfl) (by omega) (by omega) (by omega) (k_s ?_)
      refine q_aload_n dX1_readBlock_65 rfl rfl rfl ?_
      refine q_bipush (v := nI 58) dX1_readBlock_66 rfl ?_
      refine q_callV (As := [.int (nI 58)]) (rest := []) dX1_readBlock_68 vX1_82 (ty_c hS (by decide) rfl) ⟨by decide, rfl⟩ (z1_takeSign_er (σ := (uI (uI (uI (uI (uI σ 10 ((psF q).length) (nI (ts T L k))) 5 3 (nI (k + 1))) b 12 (nI ((psF q).length + 1))) (b + 15) ((psF q).length) (nI ((psS q).length))) (b + 15) ((psF q).length + 1) (nI ((psS q).length)))) hS (PCt.u (PCt.u (PCt.u (PCt.u (PCt.u hC (by omega)) (by omega)) (by omega)) (by omega)) (by omega)) hT (Eq.trans (rd_off (by omega)) (Eq.trans (rd_off (by omega)) (Eq.trans (rd_off (by omega)) uI_self))) (by omega) x3 (by decide)) rfl rfl (Nat.le_of_ble_eq_true rfl) (by omega) (by omega) (by omega) (k_p ?_)
      have hbad := BadS.er (b := b) (e := e) (σ := σ) (σ' := (uI (uI (uI (uI (uI σ 10 ((psF q).length) (nI (ts T L k))) 5 3 (nI (k + 1))) b 12 (nI ((psF q).length + 1))) (b + 15) ((psF q).length) (nI ((psS q).length))) (b + 15) ((psF q).length + 1) (nI ((psS q).length)))) (BFr.uI (BFr.uI (BFr.uI (BFr.uI (BFr.uI BFr.rf (by omega)) (by omega)) (by omega)) (by omega)) (by omega))
      refine q_if_neB (tgt := 76) dX1_readBlock_71 (by decide) (fun h => absurd h (by decide)) (fun _ => ?_)
      refine q_iconst (v := nI 0) dX1_readBlock_74 rfl ?_
      refine q_ireturn dX1_readBlock_75 rfl rfl (by omega) (by omega) ?_
      exact ⟨rfl, hbad⟩
    · exact absurd x2 c21
  · have l1 := tk_lt h4 (k := k) (by omega)
    have l2 := pSg_lt h4 x3
    refine CT.of (by decide) (Nat.le_of_ble_eq_true rfl) ?_
    refine q_aload_n dX1_readBlock_0 rfl rfl rfl ?_
    refine q_iconst (v := nI 5) dX1_readBlock_1 rfl ?_
    refine q_callV (As := [.int (nI 5)]) (rest := []) dX1_readBlock_2 vX1_48 (ty_c hS (by decide) rfl) ⟨by decide, rfl⟩ (z1_isNow_t hS hC hk (by omega) (by decide) x1) rfl rfl (Nat.le_of_ble_eq_true rfl) (by omega) (by omega) (by omega) (k_p ?_)
    refine q_if_eqB (tgt := 24) dX1_readBlock_5 (by decide) (fun h => absurd h (by decide)) (fun _ => ?_)
    refine q_aload_n dX1_readBlock_8 rfl rfl rfl ?_
    refine q_getr (r := 6) dX1_readBlock_9 fX1_12 rfl (ty_c hS (by decide) rfl) (hS.2 5 0 6 rfl) ?_
    refine q_getr (r := 8) dX1_readBlock_12 fX1_73 rfl (ty_c hS (by decide) rfl) (hS.2 6 1 8 rfl) ?_
    refine q_aload_n dX1_readBlock_15 rfl rfl rfl ?_
    refine q_geti (x := nI k) dX1_readBlock_16 fX1_38 rfl (ty_c hS (by decide) rfl) hk ?_
    refine q_iald (x := nI (tv T L k)) (j := k) dX1_readBlock_19 (ty_c hS (by decide) rfl) (ix_n (by omega) (by omega)) hv ?_
    refine q_iload_n dX1_readBlock_20 rfl rfl ?_
    refine q_icmp_eqN (tgt := 30) dX1_readBlock_21 (by decide) (by omega) (by omega) (fun c21 => ?_) (fun c21 => ?_)
    · skip
      refine q_aload_n dX1_readBlock_30 rfl rfl rfl ?_
      refine q_getr (r := 10) dX1_readBlock_31 fX1_18 rfl (ty_c hS (by decide) rfl) (hS.2 5 1 10 rfl) ?_
      refine q_iload_n dX1_readBlock_34 rfl rfl ?_
      refine q_aload_n dX1_readBlock_35 rfl rfl rfl ?_
      refine q_getr (r := 6) dX1_readBlock_36 fX1_12 rfl (ty_c hS (by decide) rfl) (hS.2 5 0 6 rfl) ?_
      refine q_getr (r := 9) dX1_readBlock_39 fX1_76 rfl (ty_c hS (by decide) rfl) (hS.2 6 2 9 rfl) ?_
      refine q_aload_n dX1_readBlock_42 rfl rfl rfl ?_
      refine q_geti (x := nI k) dX1_readBlock_43 fX1_38 rfl (ty_c hS (by decide) rfl) hk ?_
      refine q_iald (x := nI (ts T L k)) (j := k) dX1_readBlock_46 (ty_c hS (by decide) rfl) (ix_n (by omega) (by omega)) hp ?_
      refine q_iast (j := ((psF q).length)) dX1_readBlock_47 (ty_c hS (by decide) rfl) (ix_n (by omega) (by omega)) ?_
      refine q_aload_n dX1_readBlock_48 rfl rfl rfl ?_
      refine q_dup dX1_readBlock_49 rfl ?_
      refine q_geti (x := nI k) dX1_readBlock_50 fX1_38 rfl (ty_c hS (by decide) rfl) (Eq.trans (rd_off (by decide)) hk) ?_
      refine q_iconst (v := nI 1) dX1_readBlock_53 rfl ?_
      refine q_iaddN dX1_readBlock_54 ?_
      refine q_puti dX1_readBlock_55 fX1_38 rfl (Or.inl rfl) (ty_c hS (by decide) rfl) ?_
      refine q_aload_n dX1_readBlock_58 rfl rfl rfl ?_
      refine q_getr (r := b) dX1_readBlock_59 fX1_30 rfl (ty_c hS (by decide) rfl) hR ?_
      refine q_callV (As := []) (rest := []) dX1_readBlock_62 vX1_79 (ty_r hb 0 rfl) ⟨by decide, rfl⟩ (z2_addBlock (σ := (uI (uI σ 10 ((psF q).length) (nI (ts T L k))) 5 3 (nI (k + 1)))) hb (nb := (psF q).length) (n := (psS q).length) (Eq.trans (rd_off (by omega)) (Eq.trans (rd_off (by omega)) p1)) (Eq.trans (rd_off (by omega)) (Eq.trans (rd_off (by omega)) p2)) (by omega)) rfl rfl (Nat.le_of_ble_eq_true rfl) (by omega) (by omega) (by omega) (k_s ?_)
      refine q_aload_n dX1_readBlock_65 rfl rfl rfl ?_
      refine q_bipush (v := nI 58) dX1_readBlock_66 rfl ?_
      refine q_callV (As := [.int (nI 58)]) (rest := []) dX1_readBlock_68 vX1_82 (ty_c hS (by decide) rfl) ⟨by decide, rfl⟩ (z1_takeSign_ok (σ := (uI (uI (uI (uI (uI σ 10 ((psF q).length) (nI (ts T L k))) 5 3 (nI (k + 1))) b 12 (nI ((psF q).length + 1))) (b + 15) ((psF q).length) (nI ((psS q).length))) (b + 15) ((psF q).length + 1) (nI ((psS q).length)))) hS (PCt.u (PCt.u (PCt.u (PCt.u (PCt.u hC (by omega)) (by omega)) (by omega)) (by omega)) (by omega)) (Eq.trans (rd_off (by omega)) (Eq.trans (rd_off (by omega)) (Eq.trans (rd_off (by omega)) uI_self))) (by omega) x3 (by decide)) rfl rfl (Nat.le_of_ble_eq_true rfl) (by omega) (by omega) (by omega) (k_p ?_)
      refine q_if_neB (tgt := 76) dX1_readBlock_71 (by decide) (fun _ => ?_) (fun h => absurd h (by decide))
      refine q_iconst (v := nI 0) dX1_readBlock_76 rfl ?_
      refine q_istore_n dX1_readBlock_77 rfl (by decide) (ls' := [(2, .int (nI 0)), (0, .ref 5), (1, .int (nI ((psF q).length)))]) rfl ?_
      refine q_pk [1, 2, 0] (ls' := [(0, .ref 5), (1, .int (nI ((psF q).length))), (2, .int (nI 0))]) rfl ?_
      refine y1_sts_er hS hb hR (nb := (psF q).length + 1) (by omega) (by omega) hC hT 161 0 (k + 1 + 1) (psB T L k q) _ rfl (BFr.uI (BFr.uI (BFr.uI (BFr.uI (BFr.uI (BFr.uI BFr.rf (by omega)) (by omega)) (by omega)) (by omega)) (by omega)) (by omega)) ((PSR_blk hb14 hP hH).u5 hb14) (by show (psF q ++ [_]).length = _; simp) hB.le hL uI_self (by omega) x4
    · exact absurd x2 c21

