/-! Class Writer: SUMS, NODES. -/
/-- W was put, or both are too long -/
def BFx (σ : HS) (W : List Nat) : Prop := ∃ V, BFw σ V ∧ (V = W ∨ (3000 < V.length ∧ 3000 < W.length))
def WXQ (σ : HS) (W : List Nat) : Option Value → HS → Prop := fun r σ' => r = none ∧ Fr [55, 56] σ σ' ∧ BFx σ' W
theorem BFx.of {σ : HS} {W : List Nat} (h : BFw σ W) : BFx σ W := ⟨W, h, Or.inl rfl⟩
theorem BFx.lift {g : GG} {M : MI} {d mc ms : Nat} {as : List Value} {σ : HS} {W X : List Nat} (h : BFx σ W) (k : ∀ V, BFw σ V → CT g M d mc ms as σ (WPQ σ (V ++ X))) : CT g M d mc ms as σ (WXQ σ (W ++ X)) := by
  obtain ⟨V, h1, h2⟩ := h
  refine CT.mono ?_ (k V h1)
  rintro r σ' ⟨e, f, h3⟩
  refine ⟨e, f, V ++ X, h3, ?_⟩
  rcases h2 with h2 | ⟨h2, h4⟩
  · exact Or.inl (by rw [h2])
  · refine Or.inr ⟨?_, ?_⟩ <;> rw [List.length_append] <;> omega
theorem BFx.stop {σ : HS} {W X : List Nat} (h : BFx σ W) (h3 : sI σ 55 3 = nI 1) : BFx σ (W ++ X) := by
  obtain ⟨V, h1, h2⟩ := h
  have h4 : 3000 < V.length := by
    have := h1.2.1
    rw [h3] at this
    by_cases e : 3000 < V.length
    · exact e
    · rw [decide_eq_false e] at this; exact absurd this (by decide)
  refine ⟨V, h1, Or.inr ⟨h4, ?_⟩⟩
  rw [List.length_append]
  rcases h2 with h2 | h2
  · rw [h2] at h4; omega
  · omega
theorem BFx.bool {σ : HS} {W : List Nat} (h : BFx σ W) : ∃ x, sI σ 55 3 = bi x ∧ (x = false → BFw σ W ∧ ¬ 3000 < W.length) ∧ (x = true → 3000 < W.length) := by
  obtain ⟨V, h1, h2⟩ := h
  refine ⟨_, h1.2.1, fun z => ?_, fun z => ?_⟩
  · have := of_decide_eq_false z
    rcases h2 with h2 | h2
    · rw [← h2]; exact ⟨h1, this⟩
    · exact absurd h2.1 this
  · have := of_decide_eq_true z
    rcases h2 with h2 | h2
    · rw [← h2]; exact this
    · exact h2.2
/-- the block that a NODE ON THE WAY is written as -/
noncomputable def anS (q : PS) (p n : Nat) : Bool := (List.range (psM q).length).any (fun e => stA q p e n)
noncomputable def obN (q : PS) (p : Nat) : Nat → Nat
  | 0 => (psF q).length
  | k + 1 => obN q p k + (if anS q p ((psS q).length + k) = true then 1 else 0)
noncomputable def own (q : PS) (p n : Nat) : Option Nat := if anS q p n = true then some (obN q p (n - (psS q).length)) else none
def rWw (r : REC) (w : Nat) : Int32 := if w = 0 then rW0 r else rW1 r
noncomputable def aBn (q : PS) (p n w : Nat) : Nat := match ld q w n with
  | some x => if (psS q).length ≤ x then (match own q p x with | some y => y | none => (rWw (rg q n) w).toNatClampNeg) else (rWw (rg q n) w).toNatClampNeg
  | none => (rWw (rg q n) w).toNatClampNeg
def gvT (q : PS) (n : Nat) : List Nat := opT (nI (1000000000 + tgt q n)) ++ stX 8
noncomputable def ndB (q : PS) (p n : Nat) : List Nat :=
  if rK (rg q n) = 0 then gvT q n ++ (if tkn q p (smN q n) n = true then 116 :: numT (smN q n) else smT (sm q (smN q n)))
  else if rK (rg q n) = 1 then gvT q n ++ opT (rO0 (rg q n))
  else if rK (rg q n) = 2 then plT (tgt q n) (rO0 (rg q n)) ++ stX 8 ++ opT (rO1 (rg q n))
  else if rK (rg q n) = 3 then stX 12 ++ opT (rO0 (rg q n))
  else if rK (rg q n) = 5 then stX 13 ++ opT (rO0 (rg q n)) ++ stX 14 ++ opT (rO1 (rg q n)) ++ (32 :: 98 :: numT (aBn q p n 0)) ++ (32 :: 98 :: numT (aBn q p n 1))
  else if rK (rg q n) = 6 then stX 15 else stX 16 ++ (98 :: numT (aBn q p n 0))
noncomputable def ndT (q : PS) (p n : Nat) : List Nat := stX 7 ++ ndB q p n ++ stX 11
def slT (q : PS) (e : Nat) : List Nat := stX 7 ++ (116 :: numT e) ++ stX 8 ++ smT (sm q e) ++ stX 11
noncomputable def seT (q : PS) (p n : Nat) : Nat → Nat → List Nat
  | 0, _ => []
  | f + 1, e => (if stA q p e n = true then slT q e else []) ++ seT q p n f (e + 1)
theorem obN_le {q : PS} {p : Nat} : ∀ k, obN q p k ≤ (psF q).length + k
  | 0 => Nat.le_refl _
  | k + 1 => by have := obN_le (q := q) (p := p) k; unfold obN; split <;> omega
theorem own_lt {q : PS} {p x y : Nat} (hc : BC q) (h : own q p x = some y) (hs : (psS q).length ≤ x) (hx : x < NN q) : y < 300 := by
  unfold own at h
  split at h
  · have := Option.some.inj h
    have h1 := obN_le (q := q) (p := p) (x - (psS q).length)
    have h2 := NN_le hc
    have h3 := hc.2.1
    omega
  · cases h
section WRI
variable {g : GG} {σ : HS} {b : Nat} {q : PS} {W : List Nat}
theorem x7_put (hS : SK σ) (h : BFx σ W) {c : Nat} (hc : c < 128) : CT g mX7_put 0 0 0 [.ref 55, .int (nI c)] σ (WXQ σ (W ++ [c])) := h.lift fun V hV => z7_put hS hV hc
theorem x7_text (hS : SK σ) (h : BFx σ W) {c c2 : UInt64} {j : Nat} (hb : c.toNat = j) (hj : j < 17) (hb2 : c2.toNat = 100 + j) : CT g mX7_putText 5 0 0 [.ref 55, .double c] σ (WXQ σ (W ++ stX j)) := h.lift fun V hV => z7_text hS hV hb hj hb2
theorem x7_numbered (hS : SK σ) (h : BFx σ W) {c n : Nat} (hc : c < 128) (hn : n < 2147483648) : CT g mX7_putNumbered 2 0 0 [.ref 55, .int (nI c), .int (nI n)] σ (WXQ σ (W ++ (c :: numT n))) := h.lift fun V hV => z7_numbered hS hV hc hn
theorem x7_operand (hS : SK σ) (h : BFx σ W) {o : Int32} (ho : OPD o) : CT g mX7_putOperand 2 0 0 [.ref 55, .int o] σ (WXQ σ (W ++ opT o)) := h.lift fun V hV => z7_operand hS hV ho
theorem x7_place (hS : SK σ) (h : BFx σ W) {n : Nat} (hn : n < 2147483648) {o : Int32} (ho : OPD o) : CT g mX7_putPlace 6 0 0 [.ref 55, .int (nI n), .int o] σ (WXQ σ (W ++ plT n o)) := h.lift fun V hV => z7_place hS hV hn ho
theorem x7_head (hS : SK σ) (h : BFx σ W) {n : Nat} (hn : n < 2147483648) : CT g mX7_putHead 6 0 0 [.ref 55, .int (nI n)] σ (WXQ σ (W ++ hdT n)) := h.lift fun V hV => z7_head hS hV hn
theorem SR.f55 {σ' : HS} {ss : List SUM} {m : Bool} (hb14 : b = 14 ∨ 99 ≤ b) (k : Fr [55, 56] σ σ') (h : SR σ b ss m) : SR σ' b ss m := h.eq fun a h1 h2 => k.2.2.2 a (by simp only [List.mem_cons, List.not_mem_nil, or_false]; omega)
theorem RTN.f55 {σ' : HS} (h : RTN σ b q) (k : Fr [55, 56] σ σ') : RTN σ' b q := by
  have hb14 : b = 14 ∨ 99 ≤ b := by rcases h.1.1 with h | ⟨j, h⟩ <;> omega
  refine h.of (RB.fr k h.1) fun a i h1 h2 _ _ => ?_
  rw [k.2.2.2 a]
  simp only [List.mem_cons, List.not_mem_nil, or_false]
  omega
theorem x7_sum (hS : SK σ) (hW : BFx σ W) {ss : List SUM} {m : Bool} (hb : RB σ b) (hs : SR σ b ss m) {e : Nat} (he : e < ss.length) (hm : SMW (ss.getD e (0, 0, 0))) : CT g mX7_putSum 7 0 0 [.ref 55, .ref (b + 17), .int (nI e)] σ (WXQ σ (W ++ smT (ss.getD e (0, 0, 0)))) := by
  have hb14 : b = 14 ∨ 99 ≤ b := by rcases hb.1 with h | ⟨j, h⟩ <;> omega
  have h32 := hs.2.1
  obtain ⟨g1, g2, g3⟩ := hs.2.2.2 e he
  have od := opv_d hm
  rcases hm with ⟨hc, -, -⟩ | ⟨hc, ⟨w, w1, w2⟩, -⟩
  · have hcn : ∃ c, c < 128 ∧ c ≠ 114 ∧ (ss.getD e (0, 0, 0)).1 = nI c := by rcases hc with h | h | h | h | h | h <;> exact ⟨_, by decide, by decide, h⟩
    obtain ⟨c, c1, c2, c3⟩ := hcn
    have eT : smT (ss.getD e (0, 0, 0)) = opT (ss.getD e (0, 0, 0)).2.1 ++ [32] ++ [c] ++ [32] ++ opT (ss.getD e (0, 0, 0)).2.2 := by unfold smT; rw [if_neg (fun z => c2 (nI_inj (by omega) (by omega) (c3.symm.trans z))), c3, nI_clamp (by omega)]
    rw [eT]
    refine CT.of (by decide) (Nat.le_of_ble_eq_true rfl) ?_
    refine q_aload_n dX7_putSum_0 rfl rfl rfl ?_
    refine q_iload_n dX7_putSum_1 rfl rfl ?_
    refine q_callV (As := [.int (nI e)]) (rest := []) dX7_putSum_2 vX7_147 (ty_r hb 17 rfl) ⟨by decide, rfl⟩ (z4_has hb hs he) rfl rfl (Nat.le_of_ble_eq_true rfl) (by omega) (by omega) (by omega) (k_p ?_)
    refine q_if_neB (tgt := 9) dX7_putSum_5 (by decide) (fun _ => ?_) (fun h => absurd h (by decide))
    refine q_aload_n dX7_putSum_9 rfl rfl rfl ?_
    refine q_getr (r := b + 18) dX7_putSum_10 fX7_151 rfl (ty_r hb 17 rfl) (hb.2.2 17 0 18 rfl) ?_
    refine q_iload_n dX7_putSum_13 rfl rfl ?_
    refine q_iald (x := nI c) (j := e) dX7_putSum_14 (ty_r hb 18 rfl) (ix_n (by omega) (by omega)) (g1.trans c3) ?_
    refine q_bipush (v := nI 114) dX7_putSum_15 rfl ?_
    refine q_icmp_neN (tgt := 37) dX7_putSum_17 (by decide) (by omega) (by omega) (fun c17 => ?_) (fun c17 => ?_)
    · skip
      refine q_aload_n dX7_putSum_37 rfl rfl rfl ?_
      refine q_aload_n dX7_putSum_38 rfl rfl rfl ?_
      refine q_getr (r := b + 19) dX7_putSum_39 fX7_154 rfl (ty_r hb 17 rfl) (hb.2.2 17 1 19 rfl) ?_
      refine q_iload_n dX7_putSum_42 rfl rfl ?_
      refine q_iald (x := (ss.getD e (0, 0, 0)).2.1) (j := e) dX7_putSum_43 (ty_r hb 19 rfl) (ix_n (by omega) (by omega)) g2 ?_
      refine q_callV (As := [.int ((ss.getD e (0, 0, 0)).2.1)]) (rest := []) dX7_putSum_44 vX7_111 (ty_c hS (by decide) rfl) ⟨by decide, rfl⟩ (x7_operand hS hW od.1) rfl rfl (Nat.le_of_ble_eq_true rfl) (by omega) (by omega) (by omega) (k_v (fun s44 q44 => ?_))
      have k44 := q44.1
      have hS44 := SK.fr k44 hS
      have hb44 := RB.fr k44 hb
      have hss44 := SR.f55 hb14 k44 hs
      obtain ⟨u44, v44, w44⟩ := hss44.2.2.2 e he
      refine q_aload_n dX7_putSum_47 rfl rfl rfl ?_
      refine q_bipush (v := nI 32) dX7_putSum_48 rfl ?_
      refine q_callV (As := [.int (nI 32)]) (rest := []) dX7_putSum_50 vX7_138 (ty_c hS44 (by decide) rfl) ⟨by decide, rfl⟩ (x7_put hS44 q44.2 (by omega)) rfl rfl (Nat.le_of_ble_eq_true rfl) (by omega) (by omega) (by omega) (k_v (fun s50 q50 => ?_))
      have k50 := k44.tr q50.1 (fun _ h => h)
      have hS50 := SK.fr k50 hS
      have hb50 := RB.fr k50 hb
      have hss50 := SR.f55 hb14 k50 hs
      obtain ⟨u50, v50, w50⟩ := hss50.2.2.2 e he
      refine q_aload_n dX7_putSum_53 rfl rfl rfl ?_
      refine q_aload_n dX7_putSum_54 rfl rfl rfl ?_
      refine q_getr (r := b + 18) dX7_putSum_55 fX7_151 rfl (ty_r hb50 17 rfl) (hb50.2.2 17 0 18 rfl) ?_
      refine q_iload_n dX7_putSum_58 rfl rfl ?_
      refine q_iald (x := nI c) (j := e) dX7_putSum_59 (ty_r hb50 18 rfl) (ix_n (by omega) (by omega)) (u50.trans c3) ?_
      refine q_callV (As := [.int (nI c)]) (rest := []) dX7_putSum_60 vX7_138 (ty_c hS50 (by decide) rfl) ⟨by decide, rfl⟩ (x7_put hS50 q50.2 c1) rfl rfl (Nat.le_of_ble_eq_true rfl) (by omega) (by omega) (by omega) (k_v (fun s60 q60 => ?_))
      have k60 := k50.tr q60.1 (fun _ h => h)
      have hS60 := SK.fr k60 hS
      have hb60 := RB.fr k60 hb
      have hss60 := SR.f55 hb14 k60 hs
      obtain ⟨u60, v60, w60⟩ := hss60.2.2.2 e he
      refine q_aload_n dX7_putSum_63 rfl rfl rfl ?_
      refine q_bipush (v := nI 32) dX7_putSum_64 rfl ?_
      refine q_callV (As := [.int (nI 32)]) (rest := []) dX7_putSum_66 vX7_138 (ty_c hS60 (by decide) rfl) ⟨by decide, rfl⟩ (x7_put hS60 q60.2 (by omega)) rfl rfl (Nat.le_of_ble_eq_true rfl) (by omega) (by omega) (by omega) (k_v (fun s66 q66 => ?_))
      have k66 := k60.tr q66.1 (fun _ h => h)
      have hS66 := SK.fr k66 hS
      have hb66 := RB.fr k66 hb
      have hss66 := SR.f55 hb14 k66 hs
      obtain ⟨u66, v66, w66⟩ := hss66.2.2.2 e he
      refine q_aload_n dX7_putSum_69 rfl rfl rfl ?_
      refine q_aload_n dX7_putSum_70 rfl rfl rfl ?_
      refine q_getr (r := b + 20) dX7_putSum_71 fX7_157 rfl (ty_r hb66 17 rfl) (hb66.2.2 17 2 20 rfl) ?_
      refine q_iload_n dX7_putSum_74 rfl rfl ?_
      refine q_iald (x := (ss.getD e (0, 0, 0)).2.2) (j := e) dX7_putSum_75 (ty_r hb66 20 rfl) (ix_n (by omega) (by omega)) w66 ?_
      refine q_callV (As := [.int ((ss.getD e (0, 0, 0)).2.2)]) (rest := []) dX7_putSum_76 vX7_111 (ty_c hS66 (by decide) rfl) ⟨by decide, rfl⟩ (x7_operand hS66 q66.2 od.2) rfl rfl (Nat.le_of_ble_eq_true rfl) (by omega) (by omega) (by omega) (k_v (fun s76 q76 => ?_))
      have k76 := k66.tr q76.1 (fun _ h => h)
      have hS76 := SK.fr k76 hS
      have hb76 := RB.fr k76 hb
      have hss76 := SR.f55 hb14 k76 hs
      obtain ⟨u76, v76, w76⟩ := hss76.2.2.2 e he
      refine q_return dX7_putSum_79 rfl (by omega) (by omega) ?_
      exact ⟨rfl, k76, by simpa only [List.append_assoc, List.cons_append, List.nil_append, List.singleton_append] using q76.2⟩
    · exact absurd c17 c2
  · have eT : smT (ss.getD e (0, 0, 0)) = plT w (ss.getD e (0, 0, 0)).2.2 := by unfold smT; rw [if_pos hc, w2, nI_clamp (by omega)]
    rw [eT]
    refine CT.of (by decide) (Nat.le_of_ble_eq_true rfl) ?_
    refine q_aload_n dX7_putSum_0 rfl rfl rfl ?_
    refine q_iload_n dX7_putSum_1 rfl rfl ?_
    refine q_callV (As := [.int (nI e)]) (rest := []) dX7_putSum_2 vX7_147 (ty_r hb 17 rfl) ⟨by decide, rfl⟩ (z4_has hb hs he) rfl rfl (Nat.le_of_ble_eq_true rfl) (by omega) (by omega) (by omega) (k_p ?_)
    refine q_if_neB (tgt := 9) dX7_putSum_5 (by decide) (fun _ => ?_) (fun h => absurd h (by decide))
    refine q_aload_n dX7_putSum_9 rfl rfl rfl ?_
    refine q_getr (r := b + 18) dX7_putSum_10 fX7_151 rfl (ty_r hb 17 rfl) (hb.2.2 17 0 18 rfl) ?_
    refine q_iload_n dX7_putSum_13 rfl rfl ?_
    refine q_iald (x := nI 114) (j := e) dX7_putSum_14 (ty_r hb 18 rfl) (ix_n (by omega) (by omega)) (g1.trans hc) ?_
    refine q_bipush (v := nI 114) dX7_putSum_15 rfl ?_
    refine q_icmp_neN (tgt := 37) dX7_putSum_17 (by decide) (by omega) (by omega) (fun h => absurd h (by decide)) (fun _ => ?_)
    refine q_aload_n dX7_putSum_20 rfl rfl rfl ?_
    refine q_aload_n dX7_putSum_21 rfl rfl rfl ?_
    refine q_getr (r := b + 19) dX7_putSum_22 fX7_154 rfl (ty_r hb 17 rfl) (hb.2.2 17 1 19 rfl) ?_
    refine q_iload_n dX7_putSum_25 rfl rfl ?_
    refine q_iald (x := nI w) (j := e) dX7_putSum_26 (ty_r hb 19 rfl) (ix_n (by omega) (by omega)) (g2.trans w2) ?_
    refine q_aload_n dX7_putSum_27 rfl rfl rfl ?_
    refine q_getr (r := b + 20) dX7_putSum_28 fX7_157 rfl (ty_r hb 17 rfl) (hb.2.2 17 2 20 rfl) ?_
    refine q_iload_n dX7_putSum_31 rfl rfl ?_
    refine q_iald (x := (ss.getD e (0, 0, 0)).2.2) (j := e) dX7_putSum_32 (ty_r hb 20 rfl) (ix_n (by omega) (by omega)) g3 ?_
    refine q_callV (As := [.int (nI w), .int ((ss.getD e (0, 0, 0)).2.2)]) (rest := []) dX7_putSum_33 vX7_117 (ty_c hS (by decide) rfl) ⟨by decide, rfl⟩ (x7_place hS hW (by omega) od.2) rfl rfl (Nat.le_of_ble_eq_true rfl) (by omega) (by omega) (by omega) (k_v (fun s33 q33 => ?_))
    have k33 := q33.1
    have hS33 := SK.fr k33 hS
    have hb33 := RB.fr k33 hb
    refine q_return dX7_putSum_36 rfl (by omega) (by omega) ?_
    exact ⟨rfl, k33, q33.2⟩
theorem x7_give (hS : SK σ) (hW : BFx σ W) (hb : RB σ b) {n t : Nat} (hn : n < 240) (ht : t < 48) (h3 : sI σ (b + 3) n = nI t) : CT g mX7_putGive 6 0 0 [.ref 55, .ref b, .int (nI n)] σ (WXQ σ (W ++ (opT (nI (1000000000 + t)) ++ stX 8))) := by
  have hb14 : b = 14 ∨ 99 ≤ b := by rcases hb.1 with h | ⟨j, h⟩ <;> omega
  refine CT.of (by decide) (Nat.le_of_ble_eq_true rfl) ?_
  refine q_aload_n dX7_putGive_0 rfl rfl rfl ?_
  refine q_ldc (v := nI 1000000000) dX7_putGive_1 kX7_133 ?_
  refine q_aload_n dX7_putGive_3 rfl rfl rfl ?_
  refine q_getr (r := b + 3) dX7_putGive_4 fX7_114 rfl (ty_r hb 0 rfl) (hb.2.2 0 2 3 rfl) ?_
  refine q_iload_n dX7_putGive_7 rfl rfl ?_
  refine q_iald (x := nI t) (j := n) dX7_putGive_8 (ty_r hb 3 rfl) (ix_n (by omega) (by omega)) h3 ?_
  refine q_iaddN dX7_putGive_9 ?_
  refine q_callV (As := [.int (nI (1000000000 + t))]) (rest := []) dX7_putGive_10 vX7_111 (ty_c hS (by decide) rfl) ⟨by decide, rfl⟩ (x7_operand hS hW (Or.inr (Or.inr ⟨t, ht, rfl⟩))) rfl rfl (Nat.le_of_ble_eq_true rfl) (by omega) (by omega) (by omega) (k_v (fun s10 q10 => ?_))
  have k10 := q10.1
  have hS10 := SK.fr k10 hS
  have hb10 := RB.fr k10 hb
  refine q_aload_n dX7_putGive_13 rfl rfl rfl ?_
  refine q_ldcS (j := 8) (b := 8) dX7_putGive_14 rfl rfl rfl rfl ?_
  refine q_callV (As := [.double 8]) (rest := []) dX7_putGive_16 vX7_72 (ty_c hS10 (by decide) rfl) ⟨by decide, rfl⟩ (x7_text hS10 q10.2 (j := 8) (c := 8) (c2 := 108) rfl (by decide) rfl) rfl rfl (Nat.le_of_ble_eq_true rfl) (by omega) (by omega) (by omega) (k_v (fun s16 q16 => ?_))
  have k16 := k10.tr q16.1 (fun _ h => h)
  have hS16 := SK.fr k16 hS
  have hb16 := RB.fr k16 hb
  refine q_return dX7_putGive_19 rfl (by omega) (by omega) ?_
  exact ⟨rfl, k16, by simpa only [List.append_assoc, List.cons_append, List.nil_append, List.singleton_append] using q16.2⟩

/-- the own blocks stand -/
def OBs (σ : HS) (q : PS) (p : Nat) : Prop := ∀ n, (psS q).length ≤ n → n < NN q → sI σ 57 n = oW (own q p n)
theorem z7_wayOf (hS : SK σ) (hr : RTN σ b q) {p : Nat} (ho : OBs σ q p) {n w t : Nat} (hw : w < 2) (hn : n < NN q) (ht : t < 2147483648) (hrw : rWw (rg q n) w = nI t) : CT g mX7_wayOf 0 0 0 [.ref 55, .ref b, .int (nI n), .int (nI w)] σ (PQ σ (.int (nI (aBn q p n w)))) := by
  have hb := hr.1
  have hb14 : b = 14 ∨ 99 ≤ b := by rcases hb.1 with h | ⟨j, h⟩ <;> omega
  have hNN := NN_le hr.2.1
  have h13 := hr.2.2.2.2.2.2.2.1
  obtain ⟨⟨r1, r2, r3, r4, r5, r6, r7, r8⟩, l0, l1, -⟩ := hr.2.2.2.2.2.2.2.2.2.2.2.2.1 n hn
  have hlt := fun x => ld_lt hr.2.1 hr.2.2.1 hr.2.2.2.1 (w := w) (n := n) (i := x) hn
  have hbt : (rWw (rg q n) w).toNatClampNeg = t := by rw [hrw]; exact nI_clamp (by omega)
  unfold aBn
  rw [hbt]
  have hNS : (psS q).length ≤ 160 := hr.2.1.2.2.1
  rcases (show w = 0 ∨ w = 1 by omega) with rfl | rfl
  · cases hx : ld q 0 n with
    | none =>
      rw [hx] at l0
      refine CT.of (by decide) (Nat.le_of_ble_eq_true rfl) ?_
      refine q_aload_n dX7_wayOf_0 rfl rfl rfl ?_
      refine q_getr (r := b + 11) dX7_wayOf_1 fX7_141 rfl (ty_r hb 0 rfl) (hb.2.2 0 6 11 rfl) ?_
      refine q_iload_n dX7_wayOf_4 rfl rfl ?_
      refine q_aald (r := b + 12) (j := 0) dX7_wayOf_5 (ty_r hb 11 rfl) (Or.inl rfl) (ix_n (by omega) (by omega)) (hb.2.2 11 0 12 rfl) ?_
      refine q_iload_n dX7_wayOf_6 rfl rfl ?_
      refine q_iald (x := (-1)) (j := n) dX7_wayOf_7 (ty_r hb 12 rfl) (ix_n (by omega) (by omega)) l0 ?_
      refine q_istore dX7_wayOf_8 (by decide) (ls' := [(4, .int (-1)), (0, .ref 55), (1, .ref b), (2, .int (nI n)), (3, .int (nI 0))]) rfl ?_
      refine q_iload dX7_wayOf_10 rfl ?_
      refine q_aload_n dX7_wayOf_12 rfl rfl rfl ?_
      refine q_geti (x := nI ((psS q).length)) dX7_wayOf_13 fX7_50 rfl (ty_r hb 0 rfl) h13 ?_
      refine q_icmp_lt1 (tgt := 39) dX7_wayOf_16 (by decide) (by omega) (by decide) ?_
      refine q_aload_n dX7_wayOf_39 rfl rfl rfl ?_
      refine q_getr (r := b + 8) dX7_wayOf_40 fX7_144 rfl (ty_r hb 0 rfl) (hb.2.2 0 5 8 rfl) ?_
      refine q_iload_n dX7_wayOf_43 rfl rfl ?_
      refine q_aald (r := b + 9) (j := 0) dX7_wayOf_44 (ty_r hb 8 rfl) (Or.inl rfl) (ix_n (by omega) (by omega)) (hb.2.2 8 0 9 rfl) ?_
      refine q_iload_n dX7_wayOf_45 rfl rfl ?_
      refine q_iald (x := nI t) (j := n) dX7_wayOf_46 (ty_r hb 9 rfl) (ix_n (by omega) (by omega)) (r7.trans hrw) ?_
      refine q_ireturn dX7_wayOf_47 rfl rfl (by omega) (by omega) ?_
      exact ⟨rfl, rfl⟩
    | some x =>
      rw [hx] at l0
      have hxl := hlt x hx
      by_cases hs : (psS q).length ≤ x
      · have hox := ho x hs hxl
        cases hy : own q p x with
        | none =>
          rw [hy] at hox
          refine CT.of (by decide) (Nat.le_of_ble_eq_true rfl) ?_
          refine q_aload_n dX7_wayOf_0 rfl rfl rfl ?_
          refine q_getr (r := b + 11) dX7_wayOf_1 fX7_141 rfl (ty_r hb 0 rfl) (hb.2.2 0 6 11 rfl) ?_
          refine q_iload_n dX7_wayOf_4 rfl rfl ?_
          refine q_aald (r := b + 12) (j := 0) dX7_wayOf_5 (ty_r hb 11 rfl) (Or.inl rfl) (ix_n (by omega) (by omega)) (hb.2.2 11 0 12 rfl) ?_
          refine q_iload_n dX7_wayOf_6 rfl rfl ?_
          refine q_iald (x := nI x) (j := n) dX7_wayOf_7 (ty_r hb 12 rfl) (ix_n (by omega) (by omega)) l0 ?_
          refine q_istore dX7_wayOf_8 (by decide) (ls' := [(4, .int (nI x)), (0, .ref 55), (1, .ref b), (2, .int (nI n)), (3, .int (nI 0))]) rfl ?_
          refine q_iload dX7_wayOf_10 rfl ?_
          refine q_aload_n dX7_wayOf_12 rfl rfl rfl ?_
          refine q_geti (x := nI ((psS q).length)) dX7_wayOf_13 fX7_50 rfl (ty_r hb 0 rfl) h13 ?_
          refine q_icmp_ltN (tgt := 39) dX7_wayOf_16 (by decide) (by omega) (by omega) (fun c16 => ?_) (fun c16 => ?_)
          · exact absurd c16 (by omega)
          · skip
            refine q_aload_n dX7_wayOf_19 rfl rfl rfl ?_
            refine q_getr (r := 57) dX7_wayOf_20 fX7_15 rfl (ty_c hS (by decide) rfl) (hS.2 55 1 57 rfl) ?_
            refine q_iload dX7_wayOf_23 rfl ?_
            refine q_iald (x := (-1)) (j := x) dX7_wayOf_25 (ty_c hS (by decide) rfl) (ix_n (by omega) (by omega)) hox ?_
            refine q_if_lt1 (tgt := 39) dX7_wayOf_26 (by decide) (by decide) ?_
            refine q_aload_n dX7_wayOf_39 rfl rfl rfl ?_
            refine q_getr (r := b + 8) dX7_wayOf_40 fX7_144 rfl (ty_r hb 0 rfl) (hb.2.2 0 5 8 rfl) ?_
            refine q_iload_n dX7_wayOf_43 rfl rfl ?_
            refine q_aald (r := b + 9) (j := 0) dX7_wayOf_44 (ty_r hb 8 rfl) (Or.inl rfl) (ix_n (by omega) (by omega)) (hb.2.2 8 0 9 rfl) ?_
            refine q_iload_n dX7_wayOf_45 rfl rfl ?_
            refine q_iald (x := nI t) (j := n) dX7_wayOf_46 (ty_r hb 9 rfl) (ix_n (by omega) (by omega)) (r7.trans hrw) ?_
            refine q_ireturn dX7_wayOf_47 rfl rfl (by omega) (by omega) ?_
            show PQ _ (.int (nI (if (psS q).length ≤ x then (match own q p x with | some y => y | none => t) else t))) _ _
            rw [if_pos hs, hy]
            exact ⟨rfl, rfl⟩
        | some y =>
          rw [hy] at hox
          have hyl := own_lt hr.2.1 hy hs hxl
          refine CT.of (by decide) (Nat.le_of_ble_eq_true rfl) ?_
          refine q_aload_n dX7_wayOf_0 rfl rfl rfl ?_
          refine q_getr (r := b + 11) dX7_wayOf_1 fX7_141 rfl (ty_r hb 0 rfl) (hb.2.2 0 6 11 rfl) ?_
          refine q_iload_n dX7_wayOf_4 rfl rfl ?_
          refine q_aald (r := b + 12) (j := 0) dX7_wayOf_5 (ty_r hb 11 rfl) (Or.inl rfl) (ix_n (by omega) (by omega)) (hb.2.2 11 0 12 rfl) ?_
          refine q_iload_n dX7_wayOf_6 rfl rfl ?_
          refine q_iald (x := nI x) (j := n) dX7_wayOf_7 (ty_r hb 12 rfl) (ix_n (by omega) (by omega)) l0 ?_
          refine q_istore dX7_wayOf_8 (by decide) (ls' := [(4, .int (nI x)), (0, .ref 55), (1, .ref b), (2, .int (nI n)), (3, .int (nI 0))]) rfl ?_
          refine q_iload dX7_wayOf_10 rfl ?_
          refine q_aload_n dX7_wayOf_12 rfl rfl rfl ?_
          refine q_geti (x := nI ((psS q).length)) dX7_wayOf_13 fX7_50 rfl (ty_r hb 0 rfl) h13 ?_
          refine q_icmp_ltN (tgt := 39) dX7_wayOf_16 (by decide) (by omega) (by omega) (fun c16 => ?_) (fun c16 => ?_)
          · exact absurd c16 (by omega)
          · skip
            refine q_aload_n dX7_wayOf_19 rfl rfl rfl ?_
            refine q_getr (r := 57) dX7_wayOf_20 fX7_15 rfl (ty_c hS (by decide) rfl) (hS.2 55 1 57 rfl) ?_
            refine q_iload dX7_wayOf_23 rfl ?_
            refine q_iald (x := nI y) (j := x) dX7_wayOf_25 (ty_c hS (by decide) rfl) (ix_n (by omega) (by omega)) hox ?_
            refine q_if_ltN (tgt := 39) dX7_wayOf_26 (by decide) (by omega) ?_
            refine q_aload_n dX7_wayOf_29 rfl rfl rfl ?_
            refine q_getr (r := 57) dX7_wayOf_30 fX7_15 rfl (ty_c hS (by decide) rfl) (hS.2 55 1 57 rfl) ?_
            refine q_iload dX7_wayOf_33 rfl ?_
            refine q_iald (x := nI y) (j := x) dX7_wayOf_35 (ty_c hS (by decide) rfl) (ix_n (by omega) (by omega)) hox ?_
            refine q_goto (tgt := 47) dX7_wayOf_36 (by decide) ?_
            refine q_ireturn dX7_wayOf_47 rfl rfl (by omega) (by omega) ?_
            show PQ _ (.int (nI (if (psS q).length ≤ x then (match own q p x with | some y => y | none => t) else t))) _ _
            rw [if_pos hs, hy]
            exact ⟨rfl, rfl⟩
      · skip
        refine CT.of (by decide) (Nat.le_of_ble_eq_true rfl) ?_
        refine q_aload_n dX7_wayOf_0 rfl rfl rfl ?_
        refine q_getr (r := b + 11) dX7_wayOf_1 fX7_141 rfl (ty_r hb 0 rfl) (hb.2.2 0 6 11 rfl) ?_
        refine q_iload_n dX7_wayOf_4 rfl rfl ?_
        refine q_aald (r := b + 12) (j := 0) dX7_wayOf_5 (ty_r hb 11 rfl) (Or.inl rfl) (ix_n (by omega) (by omega)) (hb.2.2 11 0 12 rfl) ?_
        refine q_iload_n dX7_wayOf_6 rfl rfl ?_
        refine q_iald (x := nI x) (j := n) dX7_wayOf_7 (ty_r hb 12 rfl) (ix_n (by omega) (by omega)) l0 ?_
        refine q_istore dX7_wayOf_8 (by decide) (ls' := [(4, .int (nI x)), (0, .ref 55), (1, .ref b), (2, .int (nI n)), (3, .int (nI 0))]) rfl ?_
        refine q_iload dX7_wayOf_10 rfl ?_
        refine q_aload_n dX7_wayOf_12 rfl rfl rfl ?_
        refine q_geti (x := nI ((psS q).length)) dX7_wayOf_13 fX7_50 rfl (ty_r hb 0 rfl) h13 ?_
        refine q_icmp_ltN (tgt := 39) dX7_wayOf_16 (by decide) (by omega) (by omega) (fun c16 => ?_) (fun c16 => ?_)
        · skip
          refine q_aload_n dX7_wayOf_39 rfl rfl rfl ?_
          refine q_getr (r := b + 8) dX7_wayOf_40 fX7_144 rfl (ty_r hb 0 rfl) (hb.2.2 0 5 8 rfl) ?_
          refine q_iload_n dX7_wayOf_43 rfl rfl ?_
          refine q_aald (r := b + 9) (j := 0) dX7_wayOf_44 (ty_r hb 8 rfl) (Or.inl rfl) (ix_n (by omega) (by omega)) (hb.2.2 8 0 9 rfl) ?_
          refine q_iload_n dX7_wayOf_45 rfl rfl ?_
          refine q_iald (x := nI t) (j := n) dX7_wayOf_46 (ty_r hb 9 rfl) (ix_n (by omega) (by omega)) (r7.trans hrw) ?_
          refine q_ireturn dX7_wayOf_47 rfl rfl (by omega) (by omega) ?_
          show PQ _ (.int (nI (if (psS q).length ≤ x then (match own q p x with | some y => y | none => t) else t))) _ _
          rw [if_neg hs]
          exact ⟨rfl, rfl⟩
        · exact absurd c16 (by omega)
  · cases hx : ld q 1 n with
    | none =>
      rw [hx] at l1
      refine CT.of (by decide) (Nat.le_of_ble_eq_true rfl) ?_
      refine q_aload_n dX7_wayOf_0 rfl rfl rfl ?_
      refine q_getr (r := b + 11) dX7_wayOf_1 fX7_141 rfl (ty_r hb 0 rfl) (hb.2.2 0 6 11 rfl) ?_
      refine q_iload_n dX7_wayOf_4 rfl rfl ?_
      refine q_aald (r := b + 13) (j := 1) dX7_wayOf_5 (ty_r hb 11 rfl) (Or.inl rfl) (ix_n (by omega) (by omega)) (hb.2.2 11 1 13 rfl) ?_
      refine q_iload_n dX7_wayOf_6 rfl rfl ?_
      refine q_iald (x := (-1)) (j := n) dX7_wayOf_7 (ty_r hb 13 rfl) (ix_n (by omega) (by omega)) l1 ?_
      refine q_istore dX7_wayOf_8 (by decide) (ls' := [(4, .int (-1)), (0, .ref 55), (1, .ref b), (2, .int (nI n)), (3, .int (nI 1))]) rfl ?_
      refine q_iload dX7_wayOf_10 rfl ?_
      refine q_aload_n dX7_wayOf_12 rfl rfl rfl ?_
      refine q_geti (x := nI ((psS q).length)) dX7_wayOf_13 fX7_50 rfl (ty_r hb 0 rfl) h13 ?_
      refine q_icmp_lt1 (tgt := 39) dX7_wayOf_16 (by decide) (by omega) (by decide) ?_
      refine q_aload_n dX7_wayOf_39 rfl rfl rfl ?_
      refine q_getr (r := b + 8) dX7_wayOf_40 fX7_144 rfl (ty_r hb 0 rfl) (hb.2.2 0 5 8 rfl) ?_
      refine q_iload_n dX7_wayOf_43 rfl rfl ?_
      refine q_aald (r := b + 10) (j := 1) dX7_wayOf_44 (ty_r hb 8 rfl) (Or.inl rfl) (ix_n (by omega) (by omega)) (hb.2.2 8 1 10 rfl) ?_
      refine q_iload_n dX7_wayOf_45 rfl rfl ?_
      refine q_iald (x := nI t) (j := n) dX7_wayOf_46 (ty_r hb 10 rfl) (ix_n (by omega) (by omega)) (r8.trans hrw) ?_
      refine q_ireturn dX7_wayOf_47 rfl rfl (by omega) (by omega) ?_
      exact ⟨rfl, rfl⟩
    | some x =>
      rw [hx] at l1
      have hxl := hlt x hx
      by_cases hs : (psS q).length ≤ x
      · have hox := ho x hs hxl
        cases hy : own q p x with
        | none =>
          rw [hy] at hox
          refine CT.of (by decide) (Nat.le_of_ble_eq_true rfl) ?_
          refine q_aload_n dX7_wayOf_0 rfl rfl rfl ?_
          refine q_getr (r := b + 11) dX7_wayOf_1 fX7_141 rfl (ty_r hb 0 rfl) (hb.2.2 0 6 11 rfl) ?_
          refine q_iload_n dX7_wayOf_4 rfl rfl ?_
          refine q_aald (r := b + 13) (j := 1) dX7_wayOf_5 (ty_r hb 11 rfl) (Or.inl rfl) (ix_n (by omega) (by omega)) (hb.2.2 11 1 13 rfl) ?_
          refine q_iload_n dX7_wayOf_6 rfl rfl ?_
          refine q_iald (x := nI x) (j := n) dX7_wayOf_7 (ty_r hb 13 rfl) (ix_n (by omega) (by omega)) l1 ?_
          refine q_istore dX7_wayOf_8 (by decide) (ls' := [(4, .int (nI x)), (0, .ref 55), (1, .ref b), (2, .int (nI n)), (3, .int (nI 1))]) rfl ?_
          refine q_iload dX7_wayOf_10 rfl ?_
          refine q_aload_n dX7_wayOf_12 rfl rfl rfl ?_
          refine q_geti (x := nI ((psS q).length)) dX7_wayOf_13 fX7_50 rfl (ty_r hb 0 rfl) h13 ?_
          refine q_icmp_ltN (tgt := 39) dX7_wayOf_16 (by decide) (by omega) (by omega) (fun c16 => ?_) (fun c16 => ?_)
          · exact absurd c16 (by omega)
          · skip
            refine q_aload_n dX7_wayOf_19 rfl rfl rfl ?_
            refine q_getr (r := 57) dX7_wayOf_20 fX7_15 rfl (ty_c hS (by decide) rfl) (hS.2 55 1 57 rfl) ?_
            refine q_iload dX7_wayOf_23 rfl ?_
            refine q_iald (x := (-1)) (j := x) dX7_wayOf_25 (ty_c hS (by decide) rfl) (ix_n (by omega) (by omega)) hox ?_
            refine q_if_lt1 (tgt := 39) dX7_wayOf_26 (by decide) (by decide) ?_
            refine q_aload_n dX7_wayOf_39 rfl rfl rfl ?_
            refine q_getr (r := b + 8) dX7_wayOf_40 fX7_144 rfl (ty_r hb 0 rfl) (hb.2.2 0 5 8 rfl) ?_
            refine q_iload_n dX7_wayOf_43 rfl rfl ?_
            refine q_aald (r := b + 10) (j := 1) dX7_wayOf_44 (ty_r hb 8 rfl) (Or.inl rfl) (ix_n (by omega) (by omega)) (hb.2.2 8 1 10 rfl) ?_
            refine q_iload_n dX7_wayOf_45 rfl rfl ?_
            refine q_iald (x := nI t) (j := n) dX7_wayOf_46 (ty_r hb 10 rfl) (ix_n (by omega) (by omega)) (r8.trans hrw) ?_
            refine q_ireturn dX7_wayOf_47 rfl rfl (by omega) (by omega) ?_
            show PQ _ (.int (nI (if (psS q).length ≤ x then (match own q p x with | some y => y | none => t) else t))) _ _
            rw [if_pos hs, hy]
            exact ⟨rfl, rfl⟩
        | some y =>
          rw [hy] at hox
          have hyl := own_lt hr.2.1 hy hs hxl
          refine CT.of (by decide) (Nat.le_of_ble_eq_true rfl) ?_
          refine q_aload_n dX7_wayOf_0 rfl rfl rfl ?_
          refine q_getr (r := b + 11) dX7_wayOf_1 fX7_141 rfl (ty_r hb 0 rfl) (hb.2.2 0 6 11 rfl) ?_
          refine q_iload_n dX7_wayOf_4 rfl rfl ?_
          refine q_aald (r := b + 13) (j := 1) dX7_wayOf_5 (ty_r hb 11 rfl) (Or.inl rfl) (ix_n (by omega) (by omega)) (hb.2.2 11 1 13 rfl) ?_
          refine q_iload_n dX7_wayOf_6 rfl rfl ?_
          refine q_iald (x := nI x) (j := n) dX7_wayOf_7 (ty_r hb 13 rfl) (ix_n (by omega) (by omega)) l1 ?_
          refine q_istore dX7_wayOf_8 (by decide) (ls' := [(4, .int (nI x)), (0, .ref 55), (1, .ref b), (2, .int (nI n)), (3, .int (nI 1))]) rfl ?_
          refine q_iload dX7_wayOf_10 rfl ?_
          refine q_aload_n dX7_wayOf_12 rfl rfl rfl ?_
          refine q_geti (x := nI ((psS q).length)) dX7_wayOf_13 fX7_50 rfl (ty_r hb 0 rfl) h13 ?_
          refine q_icmp_ltN (tgt := 39) dX7_wayOf_16 (by decide) (by omega) (by omega) (fun c16 => ?_) (fun c16 => ?_)
          · exact absurd c16 (by omega)
          · skip
            refine q_aload_n dX7_wayOf_19 rfl rfl rfl ?_
            refine q_getr (r := 57) dX7_wayOf_20 fX7_15 rfl (ty_c hS (by decide) rfl) (hS.2 55 1 57 rfl) ?_
            refine q_iload dX7_wayOf_23 rfl ?_
            refine q_iald (x := nI y) (j := x) dX7_wayOf_25 (ty_c hS (by decide) rfl) (ix_n (by omega) (by omega)) hox ?_
            refine q_if_ltN (tgt := 39) dX7_wayOf_26 (by decide) (by omega) ?_
            refine q_aload_n dX7_wayOf_29 rfl rfl rfl ?_
            refine q_getr (r := 57) dX7_wayOf_30 fX7_15 rfl (ty_c hS (by decide) rfl) (hS.2 55 1 57 rfl) ?_
            refine q_iload dX7_wayOf_33 rfl ?_
            refine q_iald (x := nI y) (j := x) dX7_wayOf_35 (ty_c hS (by decide) rfl) (ix_n (by omega) (by omega)) hox ?_
            refine q_goto (tgt := 47) dX7_wayOf_36 (by decide) ?_
            refine q_ireturn dX7_wayOf_47 rfl rfl (by omega) (by omega) ?_
            show PQ _ (.int (nI (if (psS q).length ≤ x then (match own q p x with | some y => y | none => t) else t))) _ _
            rw [if_pos hs, hy]
            exact ⟨rfl, rfl⟩
      · skip
        refine CT.of (by decide) (Nat.le_of_ble_eq_true rfl) ?_
        refine q_aload_n dX7_wayOf_0 rfl rfl rfl ?_
        refine q_getr (r := b + 11) dX7_wayOf_1 fX7_141 rfl (ty_r hb 0 rfl) (hb.2.2 0 6 11 rfl) ?_
        refine q_iload_n dX7_wayOf_4 rfl rfl ?_
        refine q_aald (r := b + 13) (j := 1) dX7_wayOf_5 (ty_r hb 11 rfl) (Or.inl rfl) (ix_n (by omega) (by omega)) (hb.2.2 11 1 13 rfl) ?_
        refine q_iload_n dX7_wayOf_6 rfl rfl ?_
        refine q_iald (x := nI x) (j := n) dX7_wayOf_7 (ty_r hb 13 rfl) (ix_n (by omega) (by omega)) l1 ?_
        refine q_istore dX7_wayOf_8 (by decide) (ls' := [(4, .int (nI x)), (0, .ref 55), (1, .ref b), (2, .int (nI n)), (3, .int (nI 1))]) rfl ?_
        refine q_iload dX7_wayOf_10 rfl ?_
        refine q_aload_n dX7_wayOf_12 rfl rfl rfl ?_
        refine q_geti (x := nI ((psS q).length)) dX7_wayOf_13 fX7_50 rfl (ty_r hb 0 rfl) h13 ?_
        refine q_icmp_ltN (tgt := 39) dX7_wayOf_16 (by decide) (by omega) (by omega) (fun c16 => ?_) (fun c16 => ?_)
        · skip
          refine q_aload_n dX7_wayOf_39 rfl rfl rfl ?_
          refine q_getr (r := b + 8) dX7_wayOf_40 fX7_144 rfl (ty_r hb 0 rfl) (hb.2.2 0 5 8 rfl) ?_
          refine q_iload_n dX7_wayOf_43 rfl rfl ?_
          refine q_aald (r := b + 10) (j := 1) dX7_wayOf_44 (ty_r hb 8 rfl) (Or.inl rfl) (ix_n (by omega) (by omega)) (hb.2.2 8 1 10 rfl) ?_
          refine q_iload_n dX7_wayOf_45 rfl rfl ?_
          refine q_iald (x := nI t) (j := n) dX7_wayOf_46 (ty_r hb 10 rfl) (ix_n (by omega) (by omega)) (r8.trans hrw) ?_
          refine q_ireturn dX7_wayOf_47 rfl rfl (by omega) (by omega) ?_
          show PQ _ (.int (nI (if (psS q).length ≤ x then (match own q p x with | some y => y | none => t) else t))) _ _
          rw [if_neg hs]
          exact ⟨rfl, rfl⟩
        · exact absurd c16 (by omega)

end WRI
