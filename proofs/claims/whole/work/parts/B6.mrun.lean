/-! The model: a RUN. -/
/-- behind step -/
def SpQ (σ : HS) (q : PS) (p n : Nat) (s : XS) (c : Nat) (x : Int32) : HS → Prop := fun σ' => FR9 rnq σ σ' ∧ XM σ' (spF q p n s).1 ∧ sI σ' 58 56 = bi (!(spF q p n s).2) ∧ sI σ' 58 52 = nI (if rK (rg q n) = 7 then c else c + 1) ∧ sI σ' 58 54 = sI σ 58 54 ∧
  ((spF q p n s).2 = true → x = oW (nxF q n (spF q p n s).1) ∧ (sI σ' 58 51 = if rK (rg q n) = 6 then nI 0 else -1) ∧ KP q p σ' (spF q p n s).1 n (psM q).length)
def RnQ (σ : HS) (R : RES) : Option Value → HS → Prop := fun r σ' => r = some (.int (nI R.2.2.1)) ∧ FR9 rnq σ σ' ∧ XM σ' R.1 ∧ sI σ' 58 52 = nI R.2.1 ∧ sI σ' 58 51 = nI R.2.2.1 ∧ sI σ' 58 54 = R.2.2.2
theorem KP_nx {σ : HS} {q : PS} {p n m : Nat} {s : XS} (hc : BC q) (hw : WFs q) (hB : NB q) (hn : n < NN q) (hm : m < NN q) (hl : lto q n m) (h : KP q p σ s n (psM q).length) : KP q p σ s m 0 := fun e he hh => by
  refine h e he ?_
  rcases hh with ⟨_, z⟩ | hh
  · exact absurd z (by omega)
  · by_cases hs : stA q p e n = true
    · exact Or.inl ⟨hs, he⟩
    · exact Or.inr fun z => hh (PP_s hc hw hB hn hm hl z hs)
section MRU
variable {g : GG} {σ σ0 : HS} {q : PS} {i l k : Nat}
theorem z9_step (hS : SK σ) (hi : i < 4) (hr : MR σ i q) (hk : MOK q) (hl : l < 3) (hkN : k < NN q) {s : XS} {c : Nat} (hx : XM σ s) (h52 : sI σ 58 52 = nI c) (hc1 : c < 2000) (h56 : sI σ 58 56 = nI 0) (h51 : sI σ 58 51 = -1) (hK : KP q l σ s k 0) (hC : xC s < 1000000) : CT g mX9_step 2 0 0 [.ref 58, .int (nI i), .int (nI l), .int (nI k), .int (nI (240 * i + k))] σ (fun r σ' => ∃ x, r = some (.int x) ∧ SpQ σ q l k s c x σ') := by
  have h32 := hk.2.1.2.2.2.1
  have hN := NN_le hk.1
  have n1 := (hr.1.2.2.2.2.2.1 k hkN).1.1
  have hk7 : rK (rg q k) ≤ 7 := by
    by_cases e : k < (psS q).length
    · rw [show rg q k = rr q k from if_pos e]; have := (st_w hk.2.1 e).1; omega
    · rw [show rg q k = _ from if_neg e]; exact Nat.le_refl _
  have go : ∀ c', c' = (if rK (rg q k) = 7 then c else c + 1) → WA g mX9_step 2 0 0 (ZM g (fun r σ' => ∃ x, r = some (.int x) ∧ SpQ σ q l k s c x σ') 0 0) 0 0 29 [(0, .ref 58), (1, .int (nI i)), (2, .int (nI l)), (3, .int (nI k)), (4, .int (nI (240 * i + k))), (5, .int (nI 0))] [] (uI σ 58 52 (nI c')) := fun c' hc' => by
    have f0 : FR9 rnq σ (uI σ 58 52 (nI c')) := FR9.rf.uI (by unfold rnq; omega)
    have hS0 : SK (uI σ 58 52 (nI c')) := SK.uI hS
    have hr0 := hr.rn hk f0
    refine y9_st29 hS0 hi hr0 hk hl hkN (R := stF q l k (psM q).length 0 s) (fun τ f1 x1 r1 kp1 => ?_) (psM q).length 0 s _ (by omega) rfl FR9.rf (hx.re (by omega)) ((rd_ne (by omega)).trans h56) (fun e he hh => (rd_off (by omega)).trans (hK e he hh))
    have f1' : FR9 rnq σ τ := f0.tr (f1.mono fun _ _ => stq.rn)
    have hS1 := SK.fq f1 hS0
    have t51 : sI τ 58 51 = -1 := (f1.2.2.2 58 51 (by unfold stq; omega)).trans ((rd_ne (by omega)).trans h51)
    have t52 : sI τ 58 52 = nI c' := (f1.2.2.2 58 52 (by unfold stq; omega)).trans uI_self
    have t54 : sI τ 58 54 = sI σ 58 54 := (f1.2.2.2 58 54 (by unfold stq; omega)).trans (rd_ne (by omega))
    cases hb : (stF q l k (psM q).length 0 s).2 with
    | false =>
      have es : spF q l k s = ((stF q l k (psM q).length 0 s).1, false) := if_neg (by rw [hb]; decide)
      rw [hb] at r1
      have fin : SpQ σ q l k s c (nI k) τ := by
        unfold SpQ; rw [es]
        exact ⟨f1', x1, r1, t52.trans (by rw [hc']), t54, fun z => by cases z⟩
      refine q_aload_n dX9_step_79 rfl rfl rfl ?_
      refine q_geti (x := bi true) dX9_step_80 fX9_183 rfl (ty_c hS1 (by decide) rfl) r1 ?_
      refine q_if_eqB (tgt := 88) dX9_step_83 (by decide) (fun h => absurd h (by decide)) (fun _ => ?_)
      refine q_iload_n dX9_step_86 rfl rfl ?_
      refine q_ireturn dX9_step_87 rfl rfl (by omega) (by omega) ?_
      exact ⟨_, rfl, fin⟩
    | true =>
      have es : spF q l k s = dnF q l k (stF q l k (psM q).length 0 s).1 := if_pos hb
      rw [hb] at r1
      refine y9_dn hS1 hi (hr.rn hk f1') hk hl hkN x1 r1 t51 (kp1 hb) (by rw [st_C]; exact hC) (fun x υ d => ?_)
      obtain ⟨d1, d2, d3, d4, d5⟩ := d
      refine ⟨x, rfl, ?_⟩
      unfold SpQ; rw [es]
      refine ⟨f1'.tr (d1.mono fun _ _ => dnq.rn), d2, d3, ((d1.2.2.2 58 52 (by unfold dnq; omega)).trans t52).trans (by rw [hc']), (d1.2.2.2 58 54 (by unfold dnq; omega)).trans t54, fun z => ⟨(d4 z).1, (d4 z).2, fun e he hh => ?_⟩⟩
      rw [dn_K, d1.2.2.2 92 e (by unfold dnq; omega)]
      exact kp1 hb e he hh
  by_cases h7 : rK (rg q k) = 7
  · rw [h7] at n1
    have go := go (0 + c) (by rw [if_pos h7]; omega)
    refine CT.of (by decide) (Nat.le_of_ble_eq_true rfl) ?_
    refine q_aload_n dX9_step_0 rfl rfl rfl ?_
    refine q_dup dX9_step_1 rfl ?_
    refine q_geti (x := nI c) dX9_step_2 fX9_171 rfl (ty_c hS (by decide) rfl) h52 ?_
    refine q_aload_n dX9_step_5 rfl rfl rfl ?_
    refine q_getr (r := 67) dX9_step_6 fX9_58 rfl (ty_c hS (by decide) rfl) (hS.2 58 15 67 rfl) ?_
    refine q_iload dX9_step_9 rfl ?_
    refine q_iald (x := nI 7) (j := (240 * i + k)) dX9_step_11 (ty_c hS (by decide) rfl) (ix_n (by omega) (by omega)) n1 ?_
    refine q_bipush (v := nI 7) dX9_step_12 rfl ?_
    refine q_icmp_neN (tgt := 21) dX9_step_14 (by decide) (by omega) (by omega) (fun h => absurd h (by decide)) (fun _ => ?_)
    refine q_iconst (v := nI 0) dX9_step_17 rfl ?_
    refine q_goto (tgt := 22) dX9_step_18 (by decide) ?_
    refine q_iaddN dX9_step_22 ?_
    refine q_puti dX9_step_23 fX9_171 rfl (Or.inl rfl) (ty_c hS (by decide) rfl) ?_
    refine q_iconst (v := nI 0) dX9_step_26 rfl ?_
    refine q_istore dX9_step_27 (by decide) (ls' := [(5, .int (nI 0)), (0, .ref 58), (1, .int (nI i)), (2, .int (nI l)), (3, .int (nI k)), (4, .int (nI (240 * i + k)))]) rfl ?_
    refine q_pk [1, 2, 3, 4, 5, 0] (ls' := [(0, .ref 58), (1, .int (nI i)), (2, .int (nI l)), (3, .int (nI k)), (4, .int (nI (240 * i + k))), (5, .int (nI 0))]) rfl ?_
    first | exact go | exact (Nat.add_comm 0 c ▸ go)
  · have go := go (c + 1) (by rw [if_neg h7])
    refine CT.of (by decide) (Nat.le_of_ble_eq_true rfl) ?_
    refine q_aload_n dX9_step_0 rfl rfl rfl ?_
    refine q_dup dX9_step_1 rfl ?_
    refine q_geti (x := nI c) dX9_step_2 fX9_171 rfl (ty_c hS (by decide) rfl) h52 ?_
    refine q_aload_n dX9_step_5 rfl rfl rfl ?_
    refine q_getr (r := 67) dX9_step_6 fX9_58 rfl (ty_c hS (by decide) rfl) (hS.2 58 15 67 rfl) ?_
    refine q_iload dX9_step_9 rfl ?_
    refine q_iald (x := nI (rK (rg q k))) (j := (240 * i + k)) dX9_step_11 (ty_c hS (by decide) rfl) (ix_n (by omega) (by omega)) n1 ?_
    refine q_bipush (v := nI 7) dX9_step_12 rfl ?_
    refine q_icmp_neN (tgt := 21) dX9_step_14 (by decide) (by omega) (by omega) (fun c14 => ?_) (fun c14 => ?_)
    · skip
      refine q_iconst (v := nI 1) dX9_step_21 rfl ?_
      refine q_iaddN dX9_step_22 ?_
      refine q_puti dX9_step_23 fX9_171 rfl (Or.inl rfl) (ty_c hS (by decide) rfl) ?_
      refine q_iconst (v := nI 0) dX9_step_26 rfl ?_
      refine q_istore dX9_step_27 (by decide) (ls' := [(5, .int (nI 0)), (0, .ref 58), (1, .int (nI i)), (2, .int (nI l)), (3, .int (nI k)), (4, .int (nI (240 * i + k)))]) rfl ?_
      refine q_pk [1, 2, 3, 4, 5, 0] (ls' := [(0, .ref 58), (1, .int (nI i)), (2, .int (nI l)), (3, .int (nI k)), (4, .int (nI (240 * i + k))), (5, .int (nI 0))]) rfl ?_
      first | exact go | exact (Nat.add_comm 1 c ▸ go)
    · exact absurd c14 h7
theorem y9_run118x (hS : SK σ) {w : Nat} (hw : w < 3) (h51 : sI σ 58 51 = nI w) {x : Int32} {Q : Option Value → HS → Prop} (hQ : Q (some (.int (nI w))) σ) : WA g mX9_run 3 0 0 (ZM g Q 0 0) 0 0 118 [(0, .ref 58), (1, .int (nI i)), (2, .int (nI l)), (3, .int x)] [] σ := by
  refine q_aload_n dX9_run_118 rfl rfl rfl ?_
  refine q_geti (x := nI w) dX9_run_119 fX9_168 rfl (ty_c hS (by decide) rfl) h51 ?_
  refine q_iconst (v := (-1 : Int32)) dX9_run_122 rfl ?_
  refine q_icmp_ne (tgt := 211) dX9_run_123 (by decide) (fun c123 => ?_) (fun c123 => ?_)
  · skip
    refine q_aload_n dX9_run_211 rfl rfl rfl ?_
    refine q_geti (x := nI w) dX9_run_212 fX9_168 rfl (ty_c hS (by decide) rfl) h51 ?_
    refine q_ireturn dX9_run_215 rfl rfl (by omega) (by omega) ?_
    exact hQ
  · exact absurd c123 (nI_ne_m1 (by omega))
theorem y9_run118 (hS : SK σ0) (hi : i < 4) (hr0 : MR σ0 i q) (hk : MOK q) (hl : l < 3) : ∀ (f j k : Nat) (s : XS) (c : Nat) (σ : HS), j + f = 2001 → j + (if rK (rg q k) = 7 then 1 else 0) ≤ 2 * c → c ≤ 1000 → k < NN q → xC s ≤ c → FR9 rnq σ0 σ → XM σ s → sI σ 58 52 = nI c → sI σ 58 51 = -1 → sI σ 58 54 = -1 → sI σ 58 56 = nI 0 → KP q l σ s k 0 → WA g mX9_run 3 0 0 (ZM g (RnQ σ0 (ruF q l f k s c)) 0 0) 0 0 118 [(0, .ref 58), (1, .int (nI i)), (2, .int (nI l)), (3, .int (nI k))] [] σ := by
  have hN := NN_le hk.1
  intro f
  induction f with
  | zero => intro j k s c σ hf hj hc; omega
  | succ f ih =>
    intro j k s c σ hf hj hc hkN hC h1 hx h52 h51 h54 h56 hK
    have hS1 := SK.fq h1 hS
    have hr := hr0.rn hk h1
    obtain ⟨⟨n1, n2, -⟩, -, -⟩ := hr.1.2.2.2.2.2.1 k hkN
    have hk7 : rK (rg q k) ≤ 7 := by
      by_cases e : k < (psS q).length
      · rw [show rg q k = rr q k from if_pos e]; have := (st_w hk.2.1 e).1; omega
      · rw [show rg q k = _ from if_neg e]; exact Nat.le_refl _
    rw [ru_s]
    by_cases hsp : rK (rg q k) ≠ 7 ∧ 1000 ≤ c
    · rw [if_pos hsp]
      have ec : c = 1000 := by omega
      have fin : RnQ σ0 (s, c, 2, -1) (some (.int (nI 2))) (uI σ 58 51 (nI 2)) := ⟨rfl, h1.uI (by unfold rnq; omega), hx.re (by omega), (rd_ne (by omega)).trans h52, uI_self, (rd_ne (by omega)).trans h54⟩
      have go := y9_run118x (g := g) (i := i) (l := l) (x := nI k) (SK.uI hS1 : SK (uI σ 58 51 (nI 2))) (by omega) uI_self fin
      refine q_aload_n dX9_run_118 rfl rfl rfl ?_
      refine q_geti (x := (-1)) dX9_run_119 fX9_168 rfl (ty_c hS1 (by decide) rfl) h51 ?_
      refine q_iconst (v := (-1 : Int32)) dX9_run_122 rfl ?_
      refine q_icmp_ne (tgt := 211) dX9_run_123 (by decide) (fun c123 => ?_) (fun c123 => ?_)
      · exact absurd rfl c123
      · skip
        refine q_aload_n dX9_run_126 rfl rfl rfl ?_
        refine q_getr (r := 67) dX9_run_127 fX9_58 rfl (ty_c hS1 (by decide) rfl) (hS1.2 58 15 67 rfl) ?_
        refine q_sipush (v := nI 240) dX9_run_130 rfl ?_
        refine q_iload_n dX9_run_133 rfl rfl ?_
        refine q_imulN dX9_run_134 ?_
        refine q_iload_n dX9_run_135 rfl rfl ?_
        refine q_iaddN dX9_run_136 ?_
        refine q_iald (x := nI (rK (rg q k))) (j := ((240 * i) + k)) dX9_run_137 (ty_c hS1 (by decide) rfl) (ix_n (by omega) (by omega)) n1 ?_
        refine q_bipush (v := nI 7) dX9_run_138 rfl ?_
        refine q_icmp_eqN (tgt := 161) dX9_run_140 (by decide) (by omega) (by omega) (fun c140 => ?_) (fun c140 => ?_)
        · exact absurd c140 hsp.1
        · skip
          refine q_aload_n dX9_run_143 rfl rfl rfl ?_
          refine q_geti (x := nI c) dX9_run_144 fX9_171 rfl (ty_c hS1 (by decide) rfl) h52 ?_
          refine q_sipush (v := nI 1000) dX9_run_147 rfl ?_
          refine q_icmp_neN (tgt := 161) dX9_run_150 (by decide) (by omega) (by omega) (fun c150 => ?_) (fun c150 => ?_)
          · exact absurd ec c150
          · skip
            refine q_aload_n dX9_run_153 rfl rfl rfl ?_
            refine q_iconst (v := nI 2) dX9_run_154 rfl ?_
            refine q_puti dX9_run_155 fX9_168 rfl (Or.inl rfl) (ty_c hS1 (by decide) rfl) ?_
            refine q_goto (tgt := 118) dX9_run_158 (by decide) ?_
            exact go
    · rw [if_neg hsp, ru_sp]
      have hcl : (if rK (rg q k) = 7 then c else c + 1) ≤ 1000 := by
        by_cases h7 : rK (rg q k) = 7
        · rw [if_pos h7]; exact hc
        · rw [if_neg h7]; omega
      have nx : ∀ x τ, SpQ σ q l k s c x τ → ((spF q l k s).2 = true → WA g mX9_run 3 0 0 (ZM g (RnQ σ0 (match nxF q k (spF q l k s).1 with | none => ((spF q l k s).1, (if rK (rg q k) = 7 then c else c + 1), 0, -1) | some m => ruF q l f m (spF q l k s).1 (if rK (rg q k) = 7 then c else c + 1))) 0 0) 0 0 118 [(0, .ref 58), (1, .int (nI i)), (2, .int (nI l)), (3, .int x)] [] τ) := fun x τ hq hb => by
        obtain ⟨q1, q2, q3, q4, q5, q6⟩ := hq
        obtain ⟨q7, q8, q9⟩ := q6 hb
        have f2 := h1.tr q1
        have hS2 := SK.fq f2 hS
        rw [hb] at q3
        cases hnx : nxF q k (spF q l k s).1 with
        | none =>
          have h6 := (nx_none hk.2.1).mp hnx
          rw [if_pos h6] at q8
          exact y9_run118x hS2 (by omega) q8 ⟨rfl, f2, q2, q4, q8, q5.trans h54⟩
        | some m =>
          have h6 : rK (rg q k) ≠ 6 := fun z => by rw [(nx_none hk.2.1).mpr z] at hnx; cases hnx
          rw [if_neg h6] at q8
          rw [hnx] at q7
          obtain ⟨hm, h7m⟩ := nx_7 hk.1 hk.2.1 hk.2.2.1 hkN hnx
          have q7 : x = nI m := q7
          rw [q7]
          have hxc : xC (spF q l k s).1 ≤ (if rK (rg q k) = 7 then c else c + 1) := by
            have hst : (stF q l k (psM q).length 0 s).2 = true := by
              by_cases z : (stF q l k (psM q).length 0 s).2 = true
              · exact z
              · have es : spF q l k s = ((stF q l k (psM q).length 0 s).1, false) := if_neg z
                rw [es] at hb; cases hb
            have es : spF q l k s = dnF q l k (stF q l k (psM q).length 0 s).1 := if_pos hst
            rw [es]
            have d := dn_C (q := q) (p := l) (n := k) (s := (stF q l k (psM q).length 0 s).1)
            rw [st_C] at d
            by_cases h7 : rK (rg q k) = 7
            · rw [if_pos h7, d.2 h7]; exact hC
            · rw [if_neg h7]; omega
          refine ih (j + 1) m _ _ τ (by omega) ?_ hcl hm hxc f2 q2 q4 q8 (q5.trans h54) q3 (KP_nx hk.1 hk.2.1 hk.2.2.1 hkN hm (nx_lto hnx) q9)
          by_cases h7 : rK (rg q k) = 7
          · rw [if_pos h7] at hj ⊢
            rw [if_neg (h7m h7)]; omega
          · rw [if_neg h7] at hj ⊢
            by_cases z : rK (rg q m) = 7
            · rw [if_pos z]; omega
            · rw [if_neg z]; omega
      have nr : ∀ x τ, SpQ σ q l k s c x τ → (spF q l k s).2 = false → WA g mX9_run 3 0 0 (ZM g (RnQ σ0 ((spF q l k s).1, (if rK (rg q k) = 7 then c else c + 1), 1, nI (rB (rg q k)))) 0 0) 0 0 118 [(0, .ref 58), (1, .int (nI i)), (2, .int (nI l)), (3, .int x)] [] (uI (uI τ 58 51 (nI 1)) 58 54 (nI (rB (rg q k)))) := fun x τ hq hb => by
        obtain ⟨q1, q2, q3, q4, q5, q6⟩ := hq
        have f2 := h1.tr q1
        have hS2 := SK.fq f2 hS
        exact y9_run118x (SK.uI (SK.uI hS2)) (by omega) ((rd_ne (by omega)).trans uI_self) ⟨rfl, (f2.uI (by unfold rnq; omega)).uI (by unfold rnq; omega), (q2.re (by omega)).re (by omega), (rd_ne (by omega)).trans ((rd_ne (by omega)).trans q4), (rd_ne (by omega)).trans uI_self, uI_self⟩
      by_cases hb : (spF q l k s).2 = true
      · rw [if_pos hb]
        refine q_aload_n dX9_run_118 rfl rfl rfl ?_
        refine q_geti (x := (-1)) dX9_run_119 fX9_168 rfl (ty_c hS1 (by decide) rfl) h51 ?_
        refine q_iconst (v := (-1 : Int32)) dX9_run_122 rfl ?_
        refine q_icmp_ne (tgt := 211) dX9_run_123 (by decide) (fun c123 => ?_) (fun c123 => ?_)
        · exact absurd rfl c123
        · skip
          refine q_aload_n dX9_run_126 rfl rfl rfl ?_
          refine q_getr (r := 67) dX9_run_127 fX9_58 rfl (ty_c hS1 (by decide) rfl) (hS1.2 58 15 67 rfl) ?_
          refine q_sipush (v := nI 240) dX9_run_130 rfl ?_
          refine q_iload_n dX9_run_133 rfl rfl ?_
          refine q_imulN dX9_run_134 ?_
          refine q_iload_n dX9_run_135 rfl rfl ?_
          refine q_iaddN dX9_run_136 ?_
          refine q_iald (x := nI (rK (rg q k))) (j := ((240 * i) + k)) dX9_run_137 (ty_c hS1 (by decide) rfl) (ix_n (by omega) (by omega)) n1 ?_
          refine q_bipush (v := nI 7) dX9_run_138 rfl ?_
          refine q_icmp_eqN (tgt := 161) dX9_run_140 (by decide) (by omega) (by omega) (fun c140 => ?_) (fun c140 => ?_)
          · skip
            refine q_aload_n dX9_run_161 rfl rfl rfl ?_
            refine q_iload_n dX9_run_162 rfl rfl ?_
            refine q_iload_n dX9_run_163 rfl rfl ?_
            refine q_iload_n dX9_run_164 rfl rfl ?_
            refine q_sipush (v := nI 240) dX9_run_165 rfl ?_
            refine q_iload_n dX9_run_168 rfl rfl ?_
            refine q_imulN dX9_run_169 ?_
            refine q_iload_n dX9_run_170 rfl rfl ?_
            refine q_iaddN dX9_run_171 ?_
            refine q_callV (As := [.int (nI i), .int (nI l), .int (nI k), .int (nI ((240 * i) + k))]) (rest := []) dX9_run_172 vX9_398 (ty_c hS1 (by decide) rfl) ⟨by decide, rfl⟩ (z9_step hS1 hi hr hk hl hkN hx h52 (by omega) h56 h51 hK (by omega)) rfl rfl (Nat.le_of_ble_eq_true rfl) (by omega) (by omega) (by omega) (k_i (fun x172 s172 q172 => ?_))
            have u56 : sI s172 58 56 = bi false := by rw [q172.2.2.1, hb]; rfl
            have zS172 : SK s172 := (SK.fq q172.1 hS1)
            refine q_istore dX9_run_175 (by decide) (ls' := [(4, .int x172), (0, .ref 58), (1, .int (nI i)), (2, .int (nI l)), (3, .int (nI k))]) rfl ?_
            refine q_aload_n dX9_run_177 rfl rfl rfl ?_
            refine q_geti (x := bi false) dX9_run_178 fX9_183 rfl (ty_c zS172 (by decide) rfl) u56 ?_
            refine q_if_eqB (tgt := 205) dX9_run_181 (by decide) (fun _ => ?_) (fun h => absurd h (by decide))
            refine q_iload dX9_run_205 rfl ?_
            refine q_istore_n dX9_run_207 rfl (by decide) (ls' := [(3, .int x172), (4, .int x172), (0, .ref 58), (1, .int (nI i)), (2, .int (nI l))]) rfl ?_
            refine q_goto (tgt := 118) dX9_run_208 (by decide) ?_
            refine q_pk [2, 3, 4, 0] (ls' := [(0, .ref 58), (1, .int (nI i)), (2, .int (nI l)), (3, .int x172)]) rfl ?_
            exact nx _ _ q172 hb
          · skip
            refine q_aload_n dX9_run_143 rfl rfl rfl ?_
            refine q_geti (x := nI c) dX9_run_144 fX9_171 rfl (ty_c hS1 (by decide) rfl) h52 ?_
            refine q_sipush (v := nI 1000) dX9_run_147 rfl ?_
            refine q_icmp_neN (tgt := 161) dX9_run_150 (by decide) (by omega) (by omega) (fun c150 => ?_) (fun c150 => ?_)
            · skip
              refine q_aload_n dX9_run_161 rfl rfl rfl ?_
              refine q_iload_n dX9_run_162 rfl rfl ?_
              refine q_iload_n dX9_run_163 rfl rfl ?_
              refine q_iload_n dX9_run_164 rfl rfl ?_
              refine q_sipush (v := nI 240) dX9_run_165 rfl ?_
              refine q_iload_n dX9_run_168 rfl rfl ?_
              refine q_imulN dX9_run_169 ?_
              refine q_iload_n dX9_run_170 rfl rfl ?_
              refine q_iaddN dX9_run_171 ?_
              refine q_callV (As := [.int (nI i), .int (nI l), .int (nI k), .int (nI ((240 * i) + k))]) (rest := []) dX9_run_172 vX9_398 (ty_c hS1 (by decide) rfl) ⟨by decide, rfl⟩ (z9_step hS1 hi hr hk hl hkN hx h52 (by omega) h56 h51 hK (by omega)) rfl rfl (Nat.le_of_ble_eq_true rfl) (by omega) (by omega) (by omega) (k_i (fun x172 s172 q172 => ?_))
              have u56 : sI s172 58 56 = bi false := by rw [q172.2.2.1, hb]; rfl
              have zS172 : SK s172 := (SK.fq q172.1 hS1)
              refine q_istore dX9_run_175 (by decide) (ls' := [(4, .int x172), (0, .ref 58), (1, .int (nI i)), (2, .int (nI l)), (3, .int (nI k))]) rfl ?_
              refine q_aload_n dX9_run_177 rfl rfl rfl ?_
              refine q_geti (x := bi false) dX9_run_178 fX9_183 rfl (ty_c zS172 (by decide) rfl) u56 ?_
              refine q_if_eqB (tgt := 205) dX9_run_181 (by decide) (fun _ => ?_) (fun h => absurd h (by decide))
              refine q_iload dX9_run_205 rfl ?_
              refine q_istore_n dX9_run_207 rfl (by decide) (ls' := [(3, .int x172), (4, .int x172), (0, .ref 58), (1, .int (nI i)), (2, .int (nI l))]) rfl ?_
              refine q_goto (tgt := 118) dX9_run_208 (by decide) ?_
              refine q_pk [2, 3, 4, 0] (ls' := [(0, .ref 58), (1, .int (nI i)), (2, .int (nI l)), (3, .int x172)]) rfl ?_
              exact nx _ _ q172 hb
            · exact absurd ⟨c140, by omega⟩ hsp
      · have hb0 : (spF q l k s).2 = false := by cases z : (spF q l k s).2; rfl; exact absurd z hb
        rw [if_neg hb]
        refine q_aload_n dX9_run_118 rfl rfl rfl ?_
        refine q_geti (x := (-1)) dX9_run_119 fX9_168 rfl (ty_c hS1 (by decide) rfl) h51 ?_
        refine q_iconst (v := (-1 : Int32)) dX9_run_122 rfl ?_
        refine q_icmp_ne (tgt := 211) dX9_run_123 (by decide) (fun c123 => ?_) (fun c123 => ?_)
        · exact absurd rfl c123
        · skip
          refine q_aload_n dX9_run_126 rfl rfl rfl ?_
          refine q_getr (r := 67) dX9_run_127 fX9_58 rfl (ty_c hS1 (by decide) rfl) (hS1.2 58 15 67 rfl) ?_
          refine q_sipush (v := nI 240) dX9_run_130 rfl ?_
          refine q_iload_n dX9_run_133 rfl rfl ?_
          refine q_imulN dX9_run_134 ?_
          refine q_iload_n dX9_run_135 rfl rfl ?_
          refine q_iaddN dX9_run_136 ?_
          refine q_iald (x := nI (rK (rg q k))) (j := ((240 * i) + k)) dX9_run_137 (ty_c hS1 (by decide) rfl) (ix_n (by omega) (by omega)) n1 ?_
          refine q_bipush (v := nI 7) dX9_run_138 rfl ?_
          refine q_icmp_eqN (tgt := 161) dX9_run_140 (by decide) (by omega) (by omega) (fun c140 => ?_) (fun c140 => ?_)
          · skip
            refine q_aload_n dX9_run_161 rfl rfl rfl ?_
            refine q_iload_n dX9_run_162 rfl rfl ?_
            refine q_iload_n dX9_run_163 rfl rfl ?_
            refine q_iload_n dX9_run_164 rfl rfl ?_
            refine q_sipush (v := nI 240) dX9_run_165 rfl ?_
            refine q_iload_n dX9_run_168 rfl rfl ?_
            refine q_imulN dX9_run_169 ?_
            refine q_iload_n dX9_run_170 rfl rfl ?_
            refine q_iaddN dX9_run_171 ?_
            refine q_callV (As := [.int (nI i), .int (nI l), .int (nI k), .int (nI ((240 * i) + k))]) (rest := []) dX9_run_172 vX9_398 (ty_c hS1 (by decide) rfl) ⟨by decide, rfl⟩ (z9_step hS1 hi hr hk hl hkN hx h52 (by omega) h56 h51 hK (by omega)) rfl rfl (Nat.le_of_ble_eq_true rfl) (by omega) (by omega) (by omega) (k_i (fun x172 s172 q172 => ?_))
            have u56 : sI s172 58 56 = bi true := by rw [q172.2.2.1, hb0]; rfl
            have u68 : sI s172 68 (240 * i + k) = nI (rB (rg q k)) := (q172.1.2.2.2 68 _ (by unfold rnq; omega)).trans n2
            have zS172 : SK s172 := (SK.fq q172.1 hS1)
            refine q_istore dX9_run_175 (by decide) (ls' := [(4, .int x172), (0, .ref 58), (1, .int (nI i)), (2, .int (nI l)), (3, .int (nI k))]) rfl ?_
            refine q_aload_n dX9_run_177 rfl rfl rfl ?_
            refine q_geti (x := bi true) dX9_run_178 fX9_183 rfl (ty_c zS172 (by decide) rfl) u56 ?_
            refine q_if_eqB (tgt := 205) dX9_run_181 (by decide) (fun h => absurd h (by decide)) (fun _ => ?_)
            refine q_aload_n dX9_run_184 rfl rfl rfl ?_
            refine q_iconst (v := nI 1) dX9_run_185 rfl ?_
            refine q_puti dX9_run_186 fX9_168 rfl (Or.inl rfl) (ty_c zS172 (by decide) rfl) ?_
            refine q_aload_n dX9_run_189 rfl rfl rfl ?_
            refine q_aload_n dX9_run_190 rfl rfl rfl ?_
            refine q_getr (r := 68) dX9_run_191 fX9_61 rfl (ty_c zS172 (by decide) rfl) (zS172.2 58 16 68 rfl) ?_
            refine q_sipush (v := nI 240) dX9_run_194 rfl ?_
            refine q_iload_n dX9_run_197 rfl rfl ?_
            refine q_imulN dX9_run_198 ?_
            refine q_iload_n dX9_run_199 rfl rfl ?_
            refine q_iaddN dX9_run_200 ?_
            refine q_iald (x := nI (rB (rg q k))) (j := ((240 * i) + k)) dX9_run_201 (ty_c zS172 (by decide) rfl) (ix_n (by omega) (by omega)) (Eq.trans (rd_off (by decide)) u68) ?_
            refine q_puti dX9_run_202 fX9_177 rfl (Or.inl rfl) (ty_c zS172 (by decide) rfl) ?_
            refine q_iload dX9_run_205 rfl ?_
            refine q_istore_n dX9_run_207 rfl (by decide) (ls' := [(3, .int x172), (4, .int x172), (0, .ref 58), (1, .int (nI i)), (2, .int (nI l))]) rfl ?_
            refine q_goto (tgt := 118) dX9_run_208 (by decide) ?_
            refine q_pk [2, 3, 4, 0] (ls' := [(0, .ref 58), (1, .int (nI i)), (2, .int (nI l)), (3, .int x172)]) rfl ?_
            exact nr _ _ q172 hb0
          · skip
            refine q_aload_n dX9_run_143 rfl rfl rfl ?_
            refine q_geti (x := nI c) dX9_run_144 fX9_171 rfl (ty_c hS1 (by decide) rfl) h52 ?_
            refine q_sipush (v := nI 1000) dX9_run_147 rfl ?_
            refine q_icmp_neN (tgt := 161) dX9_run_150 (by decide) (by omega) (by omega) (fun c150 => ?_) (fun c150 => ?_)
            · skip
              refine q_aload_n dX9_run_161 rfl rfl rfl ?_
              refine q_iload_n dX9_run_162 rfl rfl ?_
              refine q_iload_n dX9_run_163 rfl rfl ?_
              refine q_iload_n dX9_run_164 rfl rfl ?_
              refine q_sipush (v := nI 240) dX9_run_165 rfl ?_
              refine q_iload_n dX9_run_168 rfl rfl ?_
              refine q_imulN dX9_run_169 ?_
              refine q_iload_n dX9_run_170 rfl rfl ?_
              refine q_iaddN dX9_run_171 ?_
              refine q_callV (As := [.int (nI i), .int (nI l), .int (nI k), .int (nI ((240 * i) + k))]) (rest := []) dX9_run_172 vX9_398 (ty_c hS1 (by decide) rfl) ⟨by decide, rfl⟩ (z9_step hS1 hi hr hk hl hkN hx h52 (by omega) h56 h51 hK (by omega)) rfl rfl (Nat.le_of_ble_eq_true rfl) (by omega) (by omega) (by omega) (k_i (fun x172 s172 q172 => ?_))
              have u56 : sI s172 58 56 = bi true := by rw [q172.2.2.1, hb0]; rfl
              have u68 : sI s172 68 (240 * i + k) = nI (rB (rg q k)) := (q172.1.2.2.2 68 _ (by unfold rnq; omega)).trans n2
              have zS172 : SK s172 := (SK.fq q172.1 hS1)
              refine q_istore dX9_run_175 (by decide) (ls' := [(4, .int x172), (0, .ref 58), (1, .int (nI i)), (2, .int (nI l)), (3, .int (nI k))]) rfl ?_
              refine q_aload_n dX9_run_177 rfl rfl rfl ?_
              refine q_geti (x := bi true) dX9_run_178 fX9_183 rfl (ty_c zS172 (by decide) rfl) u56 ?_
              refine q_if_eqB (tgt := 205) dX9_run_181 (by decide) (fun h => absurd h (by decide)) (fun _ => ?_)
              refine q_aload_n dX9_run_184 rfl rfl rfl ?_
              refine q_iconst (v := nI 1) dX9_run_185 rfl ?_
              refine q_puti dX9_run_186 fX9_168 rfl (Or.inl rfl) (ty_c zS172 (by decide) rfl) ?_
              refine q_aload_n dX9_run_189 rfl rfl rfl ?_
              refine q_aload_n dX9_run_190 rfl rfl rfl ?_
              refine q_getr (r := 68) dX9_run_191 fX9_61 rfl (ty_c zS172 (by decide) rfl) (zS172.2 58 16 68 rfl) ?_
              refine q_sipush (v := nI 240) dX9_run_194 rfl ?_
              refine q_iload_n dX9_run_197 rfl rfl ?_
              refine q_imulN dX9_run_198 ?_
              refine q_iload_n dX9_run_199 rfl rfl ?_
              refine q_iaddN dX9_run_200 ?_
              refine q_iald (x := nI (rB (rg q k))) (j := ((240 * i) + k)) dX9_run_201 (ty_c zS172 (by decide) rfl) (ix_n (by omega) (by omega)) (Eq.trans (rd_off (by decide)) u68) ?_
              refine q_puti dX9_run_202 fX9_177 rfl (Or.inl rfl) (ty_c zS172 (by decide) rfl) ?_
              refine q_iload dX9_run_205 rfl ?_
              refine q_istore_n dX9_run_207 rfl (by decide) (ls' := [(3, .int x172), (4, .int x172), (0, .ref 58), (1, .int (nI i)), (2, .int (nI l))]) rfl ?_
              refine q_goto (tgt := 118) dX9_run_208 (by decide) ?_
              refine q_pk [2, 3, 4, 0] (ls' := [(0, .ref 58), (1, .int (nI i)), (2, .int (nI l)), (3, .int x172)]) rfl ?_
              exact nr _ _ q172 hb0
            · exact absurd ⟨c140, by omega⟩ hsp
/-- how a RUN begins -/
def X0 (σ : HS) (s : XS) : Prop := (∀ j, j < 48 → sI σ 89 j = xN s j) ∧ (∀ a j, xR s a j = nI 0) ∧ (∀ e, xW s e = nI 0) ∧ xC s = 0 ∧ xA s = nI 0
theorem y9_run86 (hS : SK σ0) (hi : i < 4) (hr0 : MR σ0 i q) (hk : MOK q) (hl : l < 3) {s : XS} (h0 : X0 σ0 s) (h1 : FR9 rnq σ0 σ) (a : ∀ j, j < 48 → sI σ 90 j = xN s j) (b : ∀ j, j < 16 → sI σ 91 j = nI 0) (c : ∀ j, j < 32 → sI σ 93 j = nI 0) : WA g mX9_run 3 0 0 (ZM g (RnQ σ0 (ruF q l 2001 0 s 0)) 0 0) 0 0 86 [(0, .ref 58), (1, .int (nI i)), (2, .int (nI l))] [] σ := by
  have hN0 := NN_pos hk.1 hk.2.2.2.2
  have hS1 := SK.fq h1 hS
  have hnf : rK (rg q 0) ≠ 7 := fun z => by
    have := (rg_7 hk.2.1 hN0).mp z
    have h2 := hk.1.2.2.2.2.1 0 hk.2.2.2.2
    have h3 := nf_le hk.1 (j := 0 + 1) (by have := hk.2.2.2.2; omega)
    omega
  have xm : XM (uI (uI (uI (uI (uI (uI σ 58 52 (nI 0)) 58 53 (nI 0)) 58 54 (-1)) 58 55 (nI 0)) 58 56 (nI 0)) 58 51 (-1)) s := by
    refine ⟨fun j hj => ?_, fun x hx j hj => ?_, fun e he => ?_, fun j hj => ?_, ?_, ?_⟩
    · rw [rd_off (by omega), rd_off (by omega), rd_off (by omega), rd_off (by omega), rd_off (by omega), rd_off (by omega)]; exact a j hj
    · rw [rd_off (by omega), rd_off (by omega), rd_off (by omega), rd_off (by omega), rd_off (by omega), rd_off (by omega), h0.2.1]; exact b _ (by omega)
    · rw [rd_off (by omega), rd_off (by omega), rd_off (by omega), rd_off (by omega), rd_off (by omega), rd_off (by omega), h0.2.2.1]; exact c e he
    · rw [h0.2.2.2.1] at hj; omega
    · rw [rd_ne (by omega), rd_ne (by omega), rd_ne (by omega), rd_ne (by omega), uI_self, h0.2.2.2.1]
    · rw [rd_ne (by omega), rd_ne (by omega), uI_self, h0.2.2.2.2]
  have fr : FR9 rnq σ0 (uI (uI (uI (uI (uI (uI σ 58 52 (nI 0)) 58 53 (nI 0)) 58 54 (-1)) 58 55 (nI 0)) 58 56 (nI 0)) 58 51 (-1)) := (((((h1.uI (by unfold rnq; omega)).uI (by unfold rnq; omega)).uI (by unfold rnq; omega)).uI (by unfold rnq; omega)).uI (by unfold rnq; omega)).uI (by unfold rnq; omega)
  have go := y9_run118 (g := g) hS hi hr0 hk hl 2001 0 0 s 0 _ (by omega) (by rw [if_neg hnf]; omega) (by omega) hN0 (by rw [h0.2.2.2.1]; omega) fr xm ((rd_ne (by omega)).trans ((rd_ne (by omega)).trans ((rd_ne (by omega)).trans ((rd_ne (by omega)).trans ((rd_ne (by omega)).trans uI_self))))) uI_self ((rd_ne (by omega)).trans ((rd_ne (by omega)).trans ((rd_ne (by omega)).trans uI_self))) ((rd_ne (by omega)).trans uI_self) (fun e he hh => by
    rcases hh with ⟨_, z⟩ | hh
    · exact absurd z (by omega)
    · exact absurd (PP_0 hk.1 hk.2.1 hk.2.2.1 hN0 l e) hh)
  refine q_aload_n dX9_run_86 rfl rfl rfl ?_
  refine q_iconst (v := nI 0) dX9_run_87 rfl ?_
  refine q_puti dX9_run_88 fX9_171 rfl (Or.inl rfl) (ty_c hS1 (by decide) rfl) ?_
  refine q_aload_n dX9_run_91 rfl rfl rfl ?_
  refine q_iconst (v := nI 0) dX9_run_92 rfl ?_
  refine q_puti dX9_run_93 fX9_174 rfl (Or.inl rfl) (ty_c hS1 (by decide) rfl) ?_
  refine q_aload_n dX9_run_96 rfl rfl rfl ?_
  refine q_iconst (v := (-1 : Int32)) dX9_run_97 rfl ?_
  refine q_puti dX9_run_98 fX9_177 rfl (Or.inl rfl) (ty_c hS1 (by decide) rfl) ?_
  refine q_aload_n dX9_run_101 rfl rfl rfl ?_
  refine q_iconst (v := nI 0) dX9_run_102 rfl ?_
  refine q_puti dX9_run_103 fX9_180 rfl (Or.inl rfl) (ty_c hS1 (by decide) rfl) ?_
  refine q_aload_n dX9_run_106 rfl rfl rfl ?_
  refine q_iconst (v := nI 0) dX9_run_107 rfl ?_
  refine q_putz dX9_run_108 fX9_183 rfl (Or.inl rfl) (ty_c hS1 (by decide) rfl) (Or.inl rfl) ?_
  refine q_aload_n dX9_run_111 rfl rfl rfl ?_
  refine q_iconst (v := (-1 : Int32)) dX9_run_112 rfl ?_
  refine q_puti dX9_run_113 fX9_168 rfl (Or.inl rfl) (ty_c hS1 (by decide) rfl) ?_
  refine q_iconst (v := nI 0) dX9_run_116 rfl ?_
  refine q_istore_n dX9_run_117 rfl (by decide) (ls' := [(3, .int (nI 0)), (0, .ref 58), (1, .int (nI i)), (2, .int (nI l))]) rfl ?_
  refine q_pk [1, 2, 3, 0] (ls' := [(0, .ref 58), (1, .int (nI i)), (2, .int (nI l)), (3, .int (nI 0))]) rfl ?_
  exact go
theorem y9_run67 (hS : SK σ0) (hi : i < 4) (hr0 : MR σ0 i q) (hk : MOK q) (hl : l < 3) {s : XS} (h0 : X0 σ0 s) : ∀ (m k : Nat) (σ : HS), k + m = 32 → FR9 rnq σ0 σ → (∀ j, j < 48 → sI σ 90 j = xN s j) → (∀ j, j < 16 → sI σ 91 j = nI 0) → (∀ j, j < k → sI σ 93 j = nI 0) → WA g mX9_run 3 0 0 (ZM g (RnQ σ0 (ruF q l 2001 0 s 0)) 0 0) 0 0 67 [(0, .ref 58), (1, .int (nI i)), (2, .int (nI l)), (3, .int (nI k))] [] σ := by
  intro m
  induction m with
  | zero =>
    intro k σ hkm h1 a b c
    have ek : k = 32 := by omega
    rw [ek] at c ⊢
    refine q_iload_n dX9_run_67 rfl rfl ?_
    refine q_bipush (v := nI 32) dX9_run_68 rfl ?_
    refine q_icmp_geN (tgt := 86) dX9_run_70 (by decide) (by omega) (by omega) (fun _ => ?_) (fun h => absurd h (by decide))
    refine q_pk [0, 1, 2] (ls' := [(0, .ref 58), (1, .int (nI i)), (2, .int (nI l))]) rfl ?_
    exact y9_run86 hS hi hr0 hk hl h0 h1 a b c
  | succ m ih =>
    intro k σ hkm h1 a b c
    have hS1 := SK.fq h1 hS
    refine q_iload_n dX9_run_67 rfl rfl ?_
    refine q_bipush (v := nI 32) dX9_run_68 rfl ?_
    refine q_icmp_geN (tgt := 86) dX9_run_70 (by decide) (by omega) (by omega) (fun c70 => ?_) (fun c70 => ?_)
    · exact absurd c70 (by omega)
    · skip
      refine q_aload_n dX9_run_73 rfl rfl rfl ?_
      refine q_getr (r := 93) dX9_run_74 fX9_162 rfl (ty_c hS1 (by decide) rfl) (hS1.2 58 49 93 rfl) ?_
      refine q_iload_n dX9_run_77 rfl rfl ?_
      refine q_iconst (v := nI 0) dX9_run_78 rfl ?_
      refine q_iast (j := k) dX9_run_79 (ty_c hS1 (by decide) rfl) (ix_n (by omega) (by omega)) ?_
      refine q_iincN (c := 1) dX9_run_80 rfl (by decide) rfl (ls' := [(3, .int (nI (k + 1))), (0, .ref 58), (1, .int (nI i)), (2, .int (nI l))]) rfl ?_
      refine q_goto (tgt := 67) dX9_run_83 (by decide) ?_
      refine q_pk [1, 2, 3, 0] (ls' := [(0, .ref 58), (1, .int (nI i)), (2, .int (nI l)), (3, .int (nI (k + 1)))]) rfl ?_
      refine ih (k + 1) _ (by omega) (h1.uI (by unfold rnq; omega)) (fun j hj => (rd_off (by omega)).trans (a j hj)) (fun j hj => (rd_off (by omega)).trans (b j hj)) fun j hj => ?_
      by_cases e : j = k
      · rw [e]; exact uI_self
      · exact (rd_ne e).trans (c j (by omega))
theorem y9_run46 (hS : SK σ0) (hi : i < 4) (hr0 : MR σ0 i q) (hk : MOK q) (hl : l < 3) {s : XS} (h0 : X0 σ0 s) : ∀ (m k : Nat) (σ : HS), k + m = 16 → FR9 rnq σ0 σ → (∀ j, j < 48 → sI σ 90 j = xN s j) → (∀ j, j < k → sI σ 91 j = nI 0) → WA g mX9_run 3 0 0 (ZM g (RnQ σ0 (ruF q l 2001 0 s 0)) 0 0) 0 0 46 [(0, .ref 58), (1, .int (nI i)), (2, .int (nI l)), (3, .int (nI k))] [] σ := by
  intro m
  induction m with
  | zero =>
    intro k σ hkm h1 a b
    have ek : k = 16 := by omega
    rw [ek] at b ⊢
    refine q_iload_n dX9_run_46 rfl rfl ?_
    refine q_bipush (v := nI 16) dX9_run_47 rfl ?_
    refine q_icmp_geN (tgt := 65) dX9_run_49 (by decide) (by omega) (by omega) (fun _ => ?_) (fun h => absurd h (by decide))
    refine q_iconst (v := nI 0) dX9_run_65 rfl ?_
    refine q_istore_n dX9_run_66 rfl (by decide) (ls' := [(3, .int (nI 0)), (0, .ref 58), (1, .int (nI i)), (2, .int (nI l))]) rfl ?_
    refine q_pk [1, 2, 3, 0] (ls' := [(0, .ref 58), (1, .int (nI i)), (2, .int (nI l)), (3, .int (nI 0))]) rfl ?_
    exact y9_run67 hS hi hr0 hk hl h0 32 0 σ (by omega) h1 a b (fun j hj => absurd hj (by omega))
  | succ m ih =>
    intro k σ hkm h1 a b
    have hS1 := SK.fq h1 hS
    refine q_iload_n dX9_run_46 rfl rfl ?_
    refine q_bipush (v := nI 16) dX9_run_47 rfl ?_
    refine q_icmp_geN (tgt := 65) dX9_run_49 (by decide) (by omega) (by omega) (fun c49 => ?_) (fun c49 => ?_)
    · exact absurd c49 (by omega)
    · skip
      refine q_aload_n dX9_run_52 rfl rfl rfl ?_
      refine q_getr (r := 91) dX9_run_53 fX9_156 rfl (ty_c hS1 (by decide) rfl) (hS1.2 58 47 91 rfl) ?_
      refine q_iload_n dX9_run_56 rfl rfl ?_
      refine q_iconst (v := nI 0) dX9_run_57 rfl ?_
      refine q_iast (j := k) dX9_run_58 (ty_c hS1 (by decide) rfl) (ix_n (by omega) (by omega)) ?_
      refine q_iincN (c := 1) dX9_run_59 rfl (by decide) rfl (ls' := [(3, .int (nI (k + 1))), (0, .ref 58), (1, .int (nI i)), (2, .int (nI l))]) rfl ?_
      refine q_goto (tgt := 46) dX9_run_62 (by decide) ?_
      refine q_pk [1, 2, 3, 0] (ls' := [(0, .ref 58), (1, .int (nI i)), (2, .int (nI l)), (3, .int (nI (k + 1)))]) rfl ?_
      refine ih (k + 1) _ (by omega) (h1.uI (by unfold rnq; omega)) (fun j hj => (rd_off (by omega)).trans (a j hj)) fun j hj => ?_
      by_cases e : j = k
      · rw [e]; exact uI_self
      · exact (rd_ne e).trans (b j (by omega))
theorem y9_run20 (hS : SK σ0) (hi : i < 4) (hr0 : MR σ0 i q) (hk : MOK q) (hl : l < 3) {s : XS} (h0 : X0 σ0 s) : ∀ (m k : Nat) (σ : HS), k + m = 48 → FR9 rnq σ0 σ → (∀ j, j < k → sI σ 90 j = xN s j) → WA g mX9_run 3 0 0 (ZM g (RnQ σ0 (ruF q l 2001 0 s 0)) 0 0) 0 0 20 [(0, .ref 58), (1, .int (nI i)), (2, .int (nI l)), (3, .int (nI k))] [] σ := by
  intro m
  induction m with
  | zero =>
    intro k σ hkm h1 a
    have ek : k = 48 := by omega
    rw [ek] at a ⊢
    refine q_iload_n dX9_run_20 rfl rfl ?_
    refine q_bipush (v := nI 48) dX9_run_21 rfl ?_
    refine q_icmp_geN (tgt := 44) dX9_run_23 (by decide) (by omega) (by omega) (fun _ => ?_) (fun h => absurd h (by decide))
    refine q_iconst (v := nI 0) dX9_run_44 rfl ?_
    refine q_istore_n dX9_run_45 rfl (by decide) (ls' := [(3, .int (nI 0)), (0, .ref 58), (1, .int (nI i)), (2, .int (nI l))]) rfl ?_
    refine q_pk [1, 2, 3, 0] (ls' := [(0, .ref 58), (1, .int (nI i)), (2, .int (nI l)), (3, .int (nI 0))]) rfl ?_
    exact y9_run46 hS hi hr0 hk hl h0 16 0 σ (by omega) h1 a (fun j hj => absurd hj (by omega))
  | succ m ih =>
    intro k σ hkm h1 a
    have hS1 := SK.fq h1 hS
    have r89 : sI σ 89 k = xN s k := (h1.2.2.2 89 k (by unfold rnq; omega)).trans (h0.1 k (by omega))
    refine q_iload_n dX9_run_20 rfl rfl ?_
    refine q_bipush (v := nI 48) dX9_run_21 rfl ?_
    refine q_icmp_geN (tgt := 44) dX9_run_23 (by decide) (by omega) (by omega) (fun c23 => ?_) (fun c23 => ?_)
    · exact absurd c23 (by omega)
    · skip
      refine q_aload_n dX9_run_26 rfl rfl rfl ?_
      refine q_getr (r := 90) dX9_run_27 fX9_153 rfl (ty_c hS1 (by decide) rfl) (hS1.2 58 46 90 rfl) ?_
      refine q_iload_n dX9_run_30 rfl rfl ?_
      refine q_aload_n dX9_run_31 rfl rfl rfl ?_
      refine q_getr (r := 89) dX9_run_32 fX9_150 rfl (ty_c hS1 (by decide) rfl) (hS1.2 58 45 89 rfl) ?_
      refine q_iload_n dX9_run_35 rfl rfl ?_
      refine q_iald (x := xN s k) (j := k) dX9_run_36 (ty_c hS1 (by decide) rfl) (ix_n (by omega) (by omega)) r89 ?_
      refine q_iast (j := k) dX9_run_37 (ty_c hS1 (by decide) rfl) (ix_n (by omega) (by omega)) ?_
      refine q_iincN (c := 1) dX9_run_38 rfl (by decide) rfl (ls' := [(3, .int (nI (k + 1))), (0, .ref 58), (1, .int (nI i)), (2, .int (nI l))]) rfl ?_
      refine q_goto (tgt := 20) dX9_run_41 (by decide) ?_
      refine q_pk [1, 2, 3, 0] (ls' := [(0, .ref 58), (1, .int (nI i)), (2, .int (nI l)), (3, .int (nI (k + 1)))]) rfl ?_
      refine ih (k + 1) _ (by omega) (h1.uI (by unfold rnq; omega)) fun j hj => ?_
      by_cases e : j = k
      · rw [e]; exact uI_self
      · exact (rd_ne e).trans (a j (by omega))
theorem z9_run0 (hS : SK σ) {p x : Int32} (h : MA σ p none ∨ ((∃ q, MA σ p (some q)) ∧ ¬ (¬ x < 0 ∧ x < nI 3))) : CT g mX9_run 3 0 0 [.ref 58, .int p, .int x] σ (PQ σ (.int (-1))) := by
  rcases h with h | ⟨⟨q, i, hi, rfl, h0, -⟩, hx⟩
  · skip
    refine CT.of (by decide) (Nat.le_of_ble_eq_true rfl) ?_
    refine q_aload_n dX9_run_0 rfl rfl rfl ?_
    refine q_iload_n dX9_run_1 rfl rfl ?_
    refine q_callV (As := [.int p]) (rest := []) dX9_run_2 vX9_373 (ty_c hS (by decide) rfl) ⟨by decide, rfl⟩ (z9_isThere0 hS h) rfl rfl (Nat.le_of_ble_eq_true rfl) (by omega) (by omega) (by omega) (k_p ?_)
    refine q_if_eqB (tgt := 16) dX9_run_5 (by decide) (fun _ => ?_) (fun h => absurd h (by decide))
    refine q_iconst (v := (-1 : Int32)) dX9_run_16 rfl ?_
    refine q_ireturn dX9_run_17 rfl rfl (by omega) (by omega) ?_
    exact ⟨rfl, rfl⟩
  · skip
    refine CT.of (by decide) (Nat.le_of_ble_eq_true rfl) ?_
    refine q_aload_n dX9_run_0 rfl rfl rfl ?_
    refine q_iload_n dX9_run_1 rfl rfl ?_
    refine q_callV (As := [.int (nI i)]) (rest := []) dX9_run_2 vX9_373 (ty_c hS (by decide) rfl) ⟨by decide, rfl⟩ (z9_isThere1 hS hi h0) rfl rfl (Nat.le_of_ble_eq_true rfl) (by omega) (by omega) (by omega) (k_p ?_)
    refine q_if_eqB (tgt := 16) dX9_run_5 (by decide) (fun h => absurd h (by decide)) (fun _ => ?_)
    refine q_aload_n dX9_run_8 rfl rfl rfl ?_
    refine q_iload_n dX9_run_9 rfl rfl ?_
    refine q_callV (As := [.int x]) (rest := []) dX9_run_10 vX9_388 (ty_c hS (by decide) rfl) ⟨by decide, rfl⟩ (z9_isPlacing hS) rfl rfl (Nat.le_of_ble_eq_true rfl) (by omega) (by omega) (by omega) (k_p ?_)
    refine q_if_neB (tgt := 18) dX9_run_13 (by decide) (fun c13 => ?_) (fun c13 => ?_)
    · exact absurd (of_decide_eq_true c13) hx
    · skip
      refine q_iconst (v := (-1 : Int32)) dX9_run_16 rfl ?_
      refine q_ireturn dX9_run_17 rfl rfl (by omega) (by omega) ?_
      exact ⟨rfl, rfl⟩
theorem z9_run (hS : SK σ) (hi : i < 4) (h60 : sI σ 60 i = nI 1) (hr : MR σ i q) (hk : MOK q) (hl : l < 3) {s : XS} (h0 : X0 σ s) : CT g mX9_run 3 0 0 [.ref 58, .int (nI i), .int (nI l)] σ (RnQ σ (ruF q l 2001 0 s 0)) := by
  have hx : ¬ nI l < 0 ∧ nI l < nI 3 := n_is (by omega) hl
  refine CT.of (by decide) (Nat.le_of_ble_eq_true rfl) ?_
  refine q_aload_n dX9_run_0 rfl rfl rfl ?_
  refine q_iload_n dX9_run_1 rfl rfl ?_
  refine q_callV (As := [.int (nI i)]) (rest := []) dX9_run_2 vX9_373 (ty_c hS (by decide) rfl) ⟨by decide, rfl⟩ (z9_isThere1 hS hi h60) rfl rfl (Nat.le_of_ble_eq_true rfl) (by omega) (by omega) (by omega) (k_p ?_)
  refine q_if_eqB (tgt := 16) dX9_run_5 (by decide) (fun h => absurd h (by decide)) (fun _ => ?_)
  refine q_aload_n dX9_run_8 rfl rfl rfl ?_
  refine q_iload_n dX9_run_9 rfl rfl ?_
  refine q_callV (As := [.int (nI l)]) (rest := []) dX9_run_10 vX9_388 (ty_c hS (by decide) rfl) ⟨by decide, rfl⟩ (z9_isPlacing hS) rfl rfl (Nat.le_of_ble_eq_true rfl) (by omega) (by omega) (by omega) (k_p ?_)
  refine q_if_neB (tgt := 18) dX9_run_13 (by decide) (fun c13 => ?_) (fun c13 => ?_)
  · skip
    refine q_iconst (v := nI 0) dX9_run_18 rfl ?_
    refine q_istore_n dX9_run_19 rfl (by decide) (ls' := [(3, .int (nI 0)), (0, .ref 58), (1, .int (nI i)), (2, .int (nI l))]) rfl ?_
    refine q_pk [1, 2, 3, 0] (ls' := [(0, .ref 58), (1, .int (nI i)), (2, .int (nI l)), (3, .int (nI 0))]) rfl ?_
    exact y9_run20 hS hi hr hk hl h0 48 0 σ (by omega) FR9.rf (fun j hj => absurd hj (by omega))
  · exact absurd hx (of_decide_eq_false c13)
end MRU
