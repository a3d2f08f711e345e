/-! The model: settle. -/
/-- facts as settle sets them first -/
def fc0 (q : PS) (e b n : Nat) : Bool := if b = 0 then wk q e n else if b = 1 then kl q e n else decide (b = 2 ∨ b = 3 ∨ b = 5 ∨ b = 7)
theorem fc0_v {q : PS} {e n : Nat} {w k : Bool} (hw : wk q e n = w) (hk : kl q e n = k) : ((((((if w = true then nI 1 else nI 0) ||| (if k = true then nI 2 else nI 0)) ||| nI 4) ||| nI 8) ||| nI 32) ||| nI 128) = mkN (fun b => fc0 q e b n) 8 := by
  have e : mkN (fun b => fc0 q e b n) 8 = mkN (fun b => if b = 0 then w else if b = 1 then k else decide (b = 2 ∨ b = 3 ∨ b = 5 ∨ b = 7)) 8 := mk_ext fun b _ => by unfold fc0; rw [hw, hk]
  rw [e]
  cases w <;> cases k <;> decide
theorem fc0_11 {q : PS} {e n : Nat} (hw : wk q e n = true) (hk : kl q e n = true) : nI 1 ||| nI 2 ||| nI 4 ||| nI 8 ||| nI 32 ||| nI 128 = mkN (fun b => fc0 q e b n) 8 := by
  have h := fc0_v hw hk
  rw [if_pos rfl, if_pos rfl] at h; exact h
theorem fc0_10 {q : PS} {e n : Nat} (hw : wk q e n = true) (hk : kl q e n = false) : nI 1 ||| nI 0 ||| nI 4 ||| nI 8 ||| nI 32 ||| nI 128 = mkN (fun b => fc0 q e b n) 8 := by
  have h := fc0_v hw hk
  rw [if_pos rfl, if_neg (by decide : ¬ false = true)] at h; exact h
theorem fc0_01 {q : PS} {e n : Nat} (hw : wk q e n = false) (hk : kl q e n = true) : nI 0 ||| nI 2 ||| nI 4 ||| nI 8 ||| nI 32 ||| nI 128 = mkN (fun b => fc0 q e b n) 8 := by
  have h := fc0_v hw hk
  rw [if_neg (by decide : ¬ false = true), if_pos rfl] at h; exact h
theorem fc0_00 {q : PS} {e n : Nat} (hw : wk q e n = false) (hk : kl q e n = false) : nI 0 ||| nI 0 ||| nI 4 ||| nI 8 ||| nI 32 ||| nI 128 = mkN (fun b => fc0 q e b n) 8 := by
  have h := fc0_v hw hk
  rw [if_neg (by decide : ¬ false = true), if_neg (by decide : ¬ false = true)] at h; exact h
theorem gj_2 {q : PS} {e n : Nat} : gf (NN q) (FJ q e 2) n = wtd q e n := by rw [FJ_2]; rfl
theorem gj_3 {q : PS} {e n : Nat} : gf (NN q) (FJ q e 3) n = the q e n := by rw [FJ_3]; rfl
theorem gj_5 {q : PS} {e n : Nat} : gf (NN q) (FJ q e 5) n = dly q e n := by rw [FJ_5]; rfl
theorem gj_7 {q : PS} {e n : Nat} : gf (NN q) (FJ q e 7) n = alo q e n := by rw [FJ_7]; rfl
/-- facts behind k narrowings and settings -/
noncomputable def fc1 (q : PS) (e b n : Nat) : Bool := if b = 2 then wtd q e n else if b = 3 then the q e n else fc0 q e b n
noncomputable def fc2 (q : PS) (e b n : Nat) : Bool := if b = 4 then ear q e n else fc1 q e b n
noncomputable def fc3 (q : PS) (e b n : Nat) : Bool := if b = 5 then dly q e n else fc2 q e b n
noncomputable def fc4 (q : PS) (e b n : Nat) : Bool := if b = 6 then lst q e n else fc3 q e b n
/-- bit j stands as f says at the NODES before k -/
noncomputable def upt (v : Nat → Nat → Bool) (f : Nat → Bool) (j k : Nat) : Nat → Nat → Bool := fun b n => if b = j ∧ n < k then f n else v b n
theorem fcS.nx1 {σ : HS} {F N j k : Nat} {v : Nat → Nat → Bool} {f : Nat → Bool} (h : fcS σ F N (upt v f j k)) (hf : f k = true) (hv : v j k = false) : fcS (uI σ 83 (F + k) (mkN (fun b => upt v f j k b k || decide (b = j)) 8)) F N (upt v f j (k + 1)) := h.stbS.ext fun n hn b hb => by
  unfold stb upt
  by_cases e : n = k
  · subst e
    rw [if_pos rfl, if_neg (by omega)]
    by_cases eb : b = j
    · subst eb; rw [if_pos ⟨rfl, by omega⟩, hf]; simp
    · rw [if_neg (fun z => eb z.1), decide_eq_false eb, Bool.or_false]
  · rw [if_neg e]
    by_cases eb : b = j
    · by_cases en : n < k
      · rw [if_pos ⟨eb, en⟩, if_pos ⟨eb, by omega⟩]
      · rw [if_neg (fun z => en z.2), if_neg (fun z => by omega)]
    · rw [if_neg (fun z => eb z.1), if_neg (fun z => eb z.1)]
theorem fcS.nx0 {σ : HS} {F N j k : Nat} {v : Nat → Nat → Bool} {f : Nat → Bool} (h : fcS σ F N (upt v f j k)) (hf : f k = false) (hv : v j k = false) : fcS σ F N (upt v f j (k + 1)) := h.ext fun n hn b hb => by
  unfold upt
  by_cases eb : b = j
  · by_cases en : n < k
    · rw [if_pos ⟨eb, en⟩, if_pos ⟨eb, by omega⟩]
    · by_cases e : n = k
      · subst e; subst eb
        rw [if_neg (by omega), if_pos ⟨rfl, by omega⟩, hf, hv]
      · rw [if_neg (fun z => en z.2), if_neg (fun z => by omega)]
  · rw [if_neg (fun z => eb z.1), if_neg (fun z => eb z.1)]
theorem upt_o {v : Nat → Nat → Bool} {f : Nat → Bool} {j k b n : Nat} (h : b ≠ j) : upt v f j k b n = v b n := by unfold upt; rw [if_neg (fun z => h z.1)]
theorem alN_cg {q : PS} (hc : BC q) (hw : WFs q) (hB : NB q) {v u : Nat → Bool} {k : Nat} (hk : k < NN q) (h : ∀ n, n < NN q → v n = u n) : alN q v k = alN q u k := by
  have k0 := fun i => ld_lt hc hw hB (w := 0) (n := k) (i := i) hk
  have k1 := fun i => ld_lt hc hw hB (w := 1) (n := k) (i := i) hk
  unfold alN
  cases l0 : ld q 0 k with
  | none => rfl
  | some a =>
    cases l1 : ld q 1 k with
    | none =>
      show (v a && true) = (u a && true)
      rw [h a (k0 a l0)]
    | some c =>
      show (v a && v c) = (u a && u c)
      rw [h a (k0 a l0), h c (k1 c l1)]
/-- behind settle -/
def SeQ (σ : HS) (q : PS) (e : Nat) : HS → Prop := fun σ' => FR9 (fcq ((32 * 4 + e) * 240) (NN q)) σ σ' ∧ fcS σ' ((32 * 4 + e) * 240) (NN q) (fun b n => atB q b e n)
section MSE
variable {g : GG} {σ σ0 : HS} {q : PS} {F : Nat} {Z : List Frame → Array Value → State → State → Prop}
theorem y9_se9 (hS : SK σ0) (hR : MR0 σ0 4 q) (hc : BC q) (hw : WFs q) (hF : F + NN q ≤ 38400) {e : Nat} (he : e < (psM q).length) (K : ∀ σ', FR9 (fcq F (NN q)) σ0 σ' → fcS σ' F (NN q) (fc0 q e) → WA g mX9_settle 4 0 0 Z 0 0 84 [(0, .ref 58), (1, .int (nI e)), (2, .int (nI F))] [] σ') : ∀ (m k : Nat) (σ : HS), k + m = NN q → FR9 (fcq F (NN q)) σ0 σ → fcS σ F k (fc0 q e) → WA g mX9_settle 4 0 0 Z 0 0 9 [(0, .ref 58), (1, .int (nI e)), (2, .int (nI F)), (3, .int (nI k))] [] σ := by
  have hN := NN_le hc
  have h32 := hw.2.2.2.1
  intro m
  induction m with
  | zero =>
    intro k σ hk h1 h2
    have h62 : sI σ 62 4 = nI (NN q) := (hR.fc h1).2.1
    have hS1 := SK.fq h1 hS
    have ek : k = NN q := by omega
    rw [ek] at h2 ⊢
    refine q_iload_n dX9_settle_9 rfl rfl ?_
    refine q_aload_n dX9_settle_10 rfl rfl rfl ?_
    refine q_getr (r := 62) dX9_settle_11 fX9_43 rfl (ty_c hS1 (by decide) rfl) (hS1.2 58 10 62 rfl) ?_
    refine q_iconst (v := nI 4) dX9_settle_14 rfl ?_
    refine q_iald (x := nI (NN q)) (j := 4) dX9_settle_15 (ty_c hS1 (by decide) rfl) (ix_n (by omega) (by omega)) h62 ?_
    refine q_icmp_geN (tgt := 84) dX9_settle_16 (by decide) (by omega) (by omega) (fun c16 => ?_) (fun c16 => ?_)
    · skip
      refine q_pk [0, 1, 2] (ls' := [(0, .ref 58), (1, .int (nI e)), (2, .int (nI F))]) rfl ?_
      exact K σ h1 h2
    · exact absurd c16 (by omega)
  | succ m ih =>
    intro k σ hk h1 h2
    have hkN : k < NN q := by omega
    have hR1 := hR.fc h1
    have h62 : sI σ 62 4 = nI (NN q) := hR1.2.1
    have hS1 := SK.fq h1 hS
    have r70 : sI σ 70 (960 + k) = rS (rg q k) := (mrn hR1 hkN).1.2.2.2.1
    have nx : ∀ x, x = mkN (fun b => fc0 q e b k) 8 → WA g mX9_settle 4 0 0 Z 0 0 9 [(0, .ref 58), (1, .int (nI e)), (2, .int (nI F)), (3, .int (nI (k + 1)))] [] (uI σ 83 (F + k) x) := fun x hx => by
      refine ih (k + 1) _ (by omega) (h1.uI ⟨rfl, by omega, by omega⟩) fun n hn => ?_
      by_cases en : n = k
      · rw [en, uI_self]; exact hx
      · rw [rd_ne (by omega)]; exact h2 n (by omega)
    refine q_iload_n dX9_settle_9 rfl rfl ?_
    refine q_aload_n dX9_settle_10 rfl rfl rfl ?_
    refine q_getr (r := 62) dX9_settle_11 fX9_43 rfl (ty_c hS1 (by decide) rfl) (hS1.2 58 10 62 rfl) ?_
    refine q_iconst (v := nI 4) dX9_settle_14 rfl ?_
    refine q_iald (x := nI (NN q)) (j := 4) dX9_settle_15 (ty_c hS1 (by decide) rfl) (ix_n (by omega) (by omega)) h62 ?_
    refine q_icmp_geN (tgt := 84) dX9_settle_16 (by decide) (by omega) (by omega) (fun c16 => ?_) (fun c16 => ?_)
    · exact absurd c16 (by omega)
    · skip
      refine q_sipush (v := nI 960) dX9_settle_19 rfl ?_
      refine q_iload_n dX9_settle_22 rfl rfl ?_
      refine q_iaddN dX9_settle_23 ?_
      refine q_istore dX9_settle_24 (by decide) (ls' := [(4, .int (nI (960 + k))), (0, .ref 58), (1, .int (nI e)), (2, .int (nI F)), (3, .int (nI k))]) rfl ?_
      refine q_aload_n dX9_settle_26 rfl rfl rfl ?_
      refine q_getr (r := 83) dX9_settle_27 fX9_107 rfl (ty_c hS1 (by decide) rfl) (hS1.2 58 31 83 rfl) ?_
      refine q_iload_n dX9_settle_30 rfl rfl ?_
      refine q_iload_n dX9_settle_31 rfl rfl ?_
      refine q_iaddN dX9_settle_32 ?_
      refine q_aload_n dX9_settle_33 rfl rfl rfl ?_
      refine q_getr (r := 70) dX9_settle_34 fX9_67 rfl (ty_c hS1 (by decide) rfl) (hS1.2 58 18 70 rfl) ?_
      refine q_iload dX9_settle_37 rfl ?_
      refine q_iald (x := rS (rg q k)) (j := (960 + k)) dX9_settle_39 (ty_c hS1 (by decide) rfl) (ix_n (by omega) (by omega)) r70 ?_
      refine q_iload_n dX9_settle_40 rfl rfl ?_
      refine q_icmp_ne (tgt := 48) dX9_settle_41 (by decide) (fun c41 => ?_) (fun c41 => ?_)
      · have w : wk q e k = false := decide_eq_false c41
        refine q_iconst (v := nI 0) dX9_settle_48 rfl ?_
        refine q_aload_n dX9_settle_49 rfl rfl rfl ?_
        refine q_iload dX9_settle_50 rfl ?_
        refine q_iload_n dX9_settle_52 rfl rfl ?_
        refine q_callV (As := [.int (nI (960 + k)), .int (nI e)]) (rest := [.int (nI 0), .int (nI (F + k)), .ref 83]) dX9_settle_53 vX9_341 (ty_c hS1 (by decide) rfl) ⟨by decide, rfl⟩ (z9_kills hS1 hR1 hc hw hkN he) rfl rfl (Nat.le_of_ble_eq_true rfl) (by omega) (by omega) (by omega) (k_p ?_)
        refine q_if_eqB (tgt := 63) dX9_settle_56 (by decide) (fun c56 => ?_) (fun c56 => ?_)
        · skip
          refine q_iconst (v := nI 0) dX9_settle_63 rfl ?_
          refine q_ior dX9_settle_64 ?_
          refine q_iconst (v := nI 4) dX9_settle_65 rfl ?_
          refine q_ior dX9_settle_66 ?_
          refine q_bipush (v := nI 8) dX9_settle_67 rfl ?_
          refine q_ior dX9_settle_69 ?_
          refine q_bipush (v := nI 32) dX9_settle_70 rfl ?_
          refine q_ior dX9_settle_72 ?_
          refine q_sipush (v := nI 128) dX9_settle_73 rfl ?_
          refine q_ior dX9_settle_76 ?_
          refine q_iast (j := (F + k)) dX9_settle_77 (ty_c hS1 (by decide) rfl) (ix_n (by omega) (by omega)) ?_
          refine q_iincN (c := 1) dX9_settle_78 rfl (by decide) rfl (ls' := [(3, .int (nI (k + 1))), (4, .int (nI (960 + k))), (0, .ref 58), (1, .int (nI e)), (2, .int (nI F))]) rfl ?_
          refine q_goto (tgt := 9) dX9_settle_81 (by decide) ?_
          refine q_pk [2, 3, 4, 0] (ls' := [(0, .ref 58), (1, .int (nI e)), (2, .int (nI F)), (3, .int (nI (k + 1)))]) rfl ?_
          first | exact nx _ (fc0_11 w c56) | exact nx _ (fc0_10 w c56) | exact nx _ (fc0_01 w c56) | exact nx _ (fc0_00 w c56)
        · skip
          refine q_iconst (v := nI 2) dX9_settle_59 rfl ?_
          refine q_goto (tgt := 64) dX9_settle_60 (by decide) ?_
          refine q_ior dX9_settle_64 ?_
          refine q_iconst (v := nI 4) dX9_settle_65 rfl ?_
          refine q_ior dX9_settle_66 ?_
          refine q_bipush (v := nI 8) dX9_settle_67 rfl ?_
          refine q_ior dX9_settle_69 ?_
          refine q_bipush (v := nI 32) dX9_settle_70 rfl ?_
          refine q_ior dX9_settle_72 ?_
          refine q_sipush (v := nI 128) dX9_settle_73 rfl ?_
          refine q_ior dX9_settle_76 ?_
          refine q_iast (j := (F + k)) dX9_settle_77 (ty_c hS1 (by decide) rfl) (ix_n (by omega) (by omega)) ?_
          refine q_iincN (c := 1) dX9_settle_78 rfl (by decide) rfl (ls' := [(3, .int (nI (k + 1))), (4, .int (nI (960 + k))), (0, .ref 58), (1, .int (nI e)), (2, .int (nI F))]) rfl ?_
          refine q_goto (tgt := 9) dX9_settle_81 (by decide) ?_
          refine q_pk [2, 3, 4, 0] (ls' := [(0, .ref 58), (1, .int (nI e)), (2, .int (nI F)), (3, .int (nI (k + 1)))]) rfl ?_
          first | exact nx _ (fc0_11 w c56) | exact nx _ (fc0_10 w c56) | exact nx _ (fc0_01 w c56) | exact nx _ (fc0_00 w c56)
      · have w : wk q e k = true := decide_eq_true c41
        refine q_iconst (v := nI 1) dX9_settle_44 rfl ?_
        refine q_goto (tgt := 49) dX9_settle_45 (by decide) ?_
        refine q_aload_n dX9_settle_49 rfl rfl rfl ?_
        refine q_iload dX9_settle_50 rfl ?_
        refine q_iload_n dX9_settle_52 rfl rfl ?_
        refine q_callV (As := [.int (nI (960 + k)), .int (nI e)]) (rest := [.int (nI 1), .int (nI (F + k)), .ref 83]) dX9_settle_53 vX9_341 (ty_c hS1 (by decide) rfl) ⟨by decide, rfl⟩ (z9_kills hS1 hR1 hc hw hkN he) rfl rfl (Nat.le_of_ble_eq_true rfl) (by omega) (by omega) (by omega) (k_p ?_)
        refine q_if_eqB (tgt := 63) dX9_settle_56 (by decide) (fun c56 => ?_) (fun c56 => ?_)
        · skip
          refine q_iconst (v := nI 0) dX9_settle_63 rfl ?_
          refine q_ior dX9_settle_64 ?_
          refine q_iconst (v := nI 4) dX9_settle_65 rfl ?_
          refine q_ior dX9_settle_66 ?_
          refine q_bipush (v := nI 8) dX9_settle_67 rfl ?_
          refine q_ior dX9_settle_69 ?_
          refine q_bipush (v := nI 32) dX9_settle_70 rfl ?_
          refine q_ior dX9_settle_72 ?_
          refine q_sipush (v := nI 128) dX9_settle_73 rfl ?_
          refine q_ior dX9_settle_76 ?_
          refine q_iast (j := (F + k)) dX9_settle_77 (ty_c hS1 (by decide) rfl) (ix_n (by omega) (by omega)) ?_
          refine q_iincN (c := 1) dX9_settle_78 rfl (by decide) rfl (ls' := [(3, .int (nI (k + 1))), (4, .int (nI (960 + k))), (0, .ref 58), (1, .int (nI e)), (2, .int (nI F))]) rfl ?_
          refine q_goto (tgt := 9) dX9_settle_81 (by decide) ?_
          refine q_pk [2, 3, 4, 0] (ls' := [(0, .ref 58), (1, .int (nI e)), (2, .int (nI F)), (3, .int (nI (k + 1)))]) rfl ?_
          first | exact nx _ (fc0_11 w c56) | exact nx _ (fc0_10 w c56) | exact nx _ (fc0_01 w c56) | exact nx _ (fc0_00 w c56)
        · skip
          refine q_iconst (v := nI 2) dX9_settle_59 rfl ?_
          refine q_goto (tgt := 64) dX9_settle_60 (by decide) ?_
          refine q_ior dX9_settle_64 ?_
          refine q_iconst (v := nI 4) dX9_settle_65 rfl ?_
          refine q_ior dX9_settle_66 ?_
          refine q_bipush (v := nI 8) dX9_settle_67 rfl ?_
          refine q_ior dX9_settle_69 ?_
          refine q_bipush (v := nI 32) dX9_settle_70 rfl ?_
          refine q_ior dX9_settle_72 ?_
          refine q_sipush (v := nI 128) dX9_settle_73 rfl ?_
          refine q_ior dX9_settle_76 ?_
          refine q_iast (j := (F + k)) dX9_settle_77 (ty_c hS1 (by decide) rfl) (ix_n (by omega) (by omega)) ?_
          refine q_iincN (c := 1) dX9_settle_78 rfl (by decide) rfl (ls' := [(3, .int (nI (k + 1))), (4, .int (nI (960 + k))), (0, .ref 58), (1, .int (nI e)), (2, .int (nI F))]) rfl ?_
          refine q_goto (tgt := 9) dX9_settle_81 (by decide) ?_
          refine q_pk [2, 3, 4, 0] (ls' := [(0, .ref 58), (1, .int (nI e)), (2, .int (nI F)), (3, .int (nI (k + 1)))]) rfl ?_
          first | exact nx _ (fc0_11 w c56) | exact nx _ (fc0_10 w c56) | exact nx _ (fc0_01 w c56) | exact nx _ (fc0_00 w c56)
theorem y9_se99 (hS : SK σ0) (hR : MR0 σ0 4 q) (hc : BC q) (hw : WFs q) (hB : NB q) (hF : F + NN q ≤ 38400) {e : Nat} (he : e < (psM q).length) (K : ∀ σ', FR9 (fcq F (NN q)) σ0 σ' → fcS σ' F (NN q) (fc2 q e) → WA g mX9_settle 4 0 0 Z 0 0 151 [(0, .ref 58), (1, .int (nI e)), (2, .int (nI F))] [] σ') : ∀ (m k : Nat) (σ : HS), k + m = NN q → FR9 (fcq F (NN q)) σ0 σ → fcS σ F (NN q) (upt (fc1 q e) (ear q e) 4 k) → WA g mX9_settle 4 0 0 Z 0 0 99 [(0, .ref 58), (1, .int (nI e)), (2, .int (nI F)), (3, .int (nI k))] [] σ := by
  have hN := NN_le hc
  have h32 := hw.2.2.2.1
  intro m
  induction m with
  | zero =>
    intro k σ hk h1 h2
    have h62 : sI σ 62 4 = nI (NN q) := (hR.fc h1).2.1
    have hS1 := SK.fq h1 hS
    have ek : k = NN q := by omega
    rw [ek] at h2 ⊢
    have h3 : fcS σ F (NN q) (fc2 q e) := h2.ext fun n hn b _ => by
      unfold upt fc2
      by_cases eb : b = 4
      · rw [if_pos ⟨eb, hn⟩, if_pos eb]
      · rw [if_neg (fun z => eb z.1), if_neg eb]
    refine q_iload_n dX9_settle_99 rfl rfl ?_
    refine q_aload_n dX9_settle_100 rfl rfl rfl ?_
    refine q_getr (r := 62) dX9_settle_101 fX9_43 rfl (ty_c hS1 (by decide) rfl) (hS1.2 58 10 62 rfl) ?_
    refine q_iconst (v := nI 4) dX9_settle_104 rfl ?_
    refine q_iald (x := nI (NN q)) (j := 4) dX9_settle_105 (ty_c hS1 (by decide) rfl) (ix_n (by omega) (by omega)) h62 ?_
    refine q_icmp_geN (tgt := 151) dX9_settle_106 (by decide) (by omega) (by omega) (fun c106 => ?_) (fun c106 => ?_)
    · skip
      refine q_pk [0, 1, 2] (ls' := [(0, .ref 58), (1, .int (nI e)), (2, .int (nI F))]) rfl ?_
      exact K σ h1 h3
    · exact absurd c106 (by omega)
  | succ m ih =>
    intro k σ hk h1 h2
    have hkN : k < NN q := by omega
    have hR1 := hR.fc h1
    have h62 : sI σ 62 4 = nI (NN q) := hR1.2.1
    have hS1 := SK.fq h1 hS
    have r := h2 k hkN
    have f4 : fc1 q e 4 k = false := rfl
    have e2 : upt (fc1 q e) (ear q e) 4 k 2 k = wtd q e k := upt_o (by decide)
    have ah : (∃ i, i < NN q ∧ ahA q (upt (fc1 q e) (ear q e) 4 k) k i) ↔ (∃ a, a < NN q ∧ lto q a k ∧ (kl q e a || !(the q e a || wtd q e a)) = true) := by
      have y1 : ∀ i, upt (fc1 q e) (ear q e) 4 k 1 i = kl q e i := fun i => upt_o (by decide)
      have y2 : ∀ i, upt (fc1 q e) (ear q e) 4 k 2 i = wtd q e i := fun i => upt_o (by decide)
      have y3 : ∀ i, upt (fc1 q e) (ear q e) 4 k 3 i = the q e i := fun i => upt_o (by decide)
      unfold ahA
      simp only [y1, y2, y3]
    have er : ear q e k = (wtd q e k && dcd (k = 0 ∨ ∃ a, a < NN q ∧ lto q a k ∧ (kl q e a || !(the q e a || wtd q e a)) = true)) := rfl
    have yes : ear q e k = true → WA g mX9_settle 4 0 0 Z 0 0 99 [(0, .ref 58), (1, .int (nI e)), (2, .int (nI F)), (3, .int (nI (k + 1)))] [] (uI σ 83 (F + k) (mkN (fun b => upt (fc1 q e) (ear q e) 4 k b k || decide (b = 4)) 8)) := fun z => ih (k + 1) _ (by omega) (h1.uI ⟨rfl, by omega, by omega⟩) (h2.nx1 z f4)
    have no : ear q e k = false → WA g mX9_settle 4 0 0 Z 0 0 99 [(0, .ref 58), (1, .int (nI e)), (2, .int (nI F)), (3, .int (nI (k + 1)))] [] σ := fun z => ih (k + 1) _ (by omega) h1 (h2.nx0 z f4)
    refine q_iload_n dX9_settle_99 rfl rfl ?_
    refine q_aload_n dX9_settle_100 rfl rfl rfl ?_
    refine q_getr (r := 62) dX9_settle_101 fX9_43 rfl (ty_c hS1 (by decide) rfl) (hS1.2 58 10 62 rfl) ?_
    refine q_iconst (v := nI 4) dX9_settle_104 rfl ?_
    refine q_iald (x := nI (NN q)) (j := 4) dX9_settle_105 (ty_c hS1 (by decide) rfl) (ix_n (by omega) (by omega)) h62 ?_
    refine q_icmp_geN (tgt := 151) dX9_settle_106 (by decide) (by omega) (by omega) (fun c106 => ?_) (fun c106 => ?_)
    · exact absurd c106 (by omega)
    · skip
      refine q_aload_n dX9_settle_109 rfl rfl rfl ?_
      refine q_iload_n dX9_settle_110 rfl rfl ?_
      refine q_iload_n dX9_settle_111 rfl rfl ?_
      refine q_iconst (v := nI 4) dX9_settle_112 rfl ?_
      refine q_callV (As := [.int (nI F), .int (nI k), .int (nI 4)]) (rest := []) dX9_settle_113 vX9_347 (ty_c hS1 (by decide) rfl) ⟨by decide, rfl⟩ (e2 ▸ z9_is (j := 2) hS1 h2 hF hkN (by omega)) rfl rfl (Nat.le_of_ble_eq_true rfl) (by omega) (by omega) (by omega) (k_p ?_)
      refine q_if_eqB (tgt := 145) dX9_settle_116 (by decide) (fun c116 => ?_) (fun c116 => ?_)
      · skip
        refine q_iincN (c := 1) dX9_settle_145 rfl (by decide) rfl (ls' := [(3, .int (nI (k + 1))), (0, .ref 58), (1, .int (nI e)), (2, .int (nI F))]) rfl ?_
        refine q_goto (tgt := 99) dX9_settle_148 (by decide) ?_
        refine q_pk [1, 2, 3, 0] (ls' := [(0, .ref 58), (1, .int (nI e)), (2, .int (nI F)), (3, .int (nI (k + 1)))]) rfl ?_
        first | exact yes (by rw [er, c116, dcd_t.mpr (Or.inl (by omega))]; rfl) | exact yes (by rw [er, c116, dcd_t.mpr (Or.inr (dcd_t.mp c129))]; rfl) | exact no (by rw [er, c116]; rfl) | exact no (by rw [er, dcd_f.mpr (fun z => z.elim (fun y => absurd y (by omega)) (dcd_f.mp c129)), Bool.and_false])
      · skip
        refine q_iload_n dX9_settle_119 rfl rfl ?_
        refine q_if_eqN (tgt := 132) dX9_settle_120 (by decide) (by omega) (fun c120 => ?_) (fun c120 => ?_)
        · skip
          refine q_aload_n dX9_settle_132 rfl rfl rfl ?_
          refine q_getr (r := 83) dX9_settle_133 fX9_107 rfl (ty_c hS1 (by decide) rfl) (hS1.2 58 31 83 rfl) ?_
          refine q_iload_n dX9_settle_136 rfl rfl ?_
          refine q_iload_n dX9_settle_137 rfl rfl ?_
          refine q_iaddN dX9_settle_138 ?_
          refine q_dup2 dX9_settle_139 rfl rfl ?_
          refine q_iald (x := mkN (fun b => upt (fc1 q e) (ear q e) 4 k b k) 8) (j := (F + k)) dX9_settle_140 (ty_c hS1 (by decide) rfl) (ix_n (by omega) (by omega)) r ?_
          refine q_bipush (v := nI 16) dX9_settle_141 rfl ?_
          refine q_ior dX9_settle_143 ?_
          refine q_top (y := mkN (fun b => upt (fc1 q e) (ear q e) 4 k b k || decide (b = 4)) 8) (set_b (j := 4) (by omega)) ?_
          refine q_iast (j := (F + k)) dX9_settle_144 (ty_c hS1 (by decide) rfl) (ix_n (by omega) (by omega)) ?_
          refine q_iincN (c := 1) dX9_settle_145 rfl (by decide) rfl (ls' := [(3, .int (nI (k + 1))), (0, .ref 58), (1, .int (nI e)), (2, .int (nI F))]) rfl ?_
          refine q_goto (tgt := 99) dX9_settle_148 (by decide) ?_
          refine q_pk [1, 2, 3, 0] (ls' := [(0, .ref 58), (1, .int (nI e)), (2, .int (nI F)), (3, .int (nI (k + 1)))]) rfl ?_
          first | exact yes (by rw [er, c116, dcd_t.mpr (Or.inl (by omega))]; rfl) | exact yes (by rw [er, c116, dcd_t.mpr (Or.inr (dcd_t.mp c129))]; rfl) | exact no (by rw [er, c116]; rfl) | exact no (by rw [er, dcd_f.mpr (fun z => z.elim (fun y => absurd y (by omega)) (dcd_f.mp c129)), Bool.and_false])
        · skip
          refine q_aload_n dX9_settle_123 rfl rfl rfl ?_
          refine q_iload_n dX9_settle_124 rfl rfl ?_
          refine q_iload_n dX9_settle_125 rfl rfl ?_
          refine q_callV (As := [.int (nI F), .int (nI k)]) (rest := []) dX9_settle_126 vX9_351 (ty_c hS1 (by decide) rfl) ⟨by decide, rfl⟩ (dcd_e ah ▸ ct_dcd (z9_anA hS1 hR1 hc hw hB h2 hF (by omega))) rfl rfl (Nat.le_of_ble_eq_true rfl) (by omega) (by omega) (by omega) (k_p ?_)
          refine q_if_eqB (tgt := 145) dX9_settle_129 (by decide) (fun c129 => ?_) (fun c129 => ?_)
          · skip
            refine q_iincN (c := 1) dX9_settle_145 rfl (by decide) rfl (ls' := [(3, .int (nI (k + 1))), (0, .ref 58), (1, .int (nI e)), (2, .int (nI F))]) rfl ?_
            refine q_goto (tgt := 99) dX9_settle_148 (by decide) ?_
            refine q_pk [1, 2, 3, 0] (ls' := [(0, .ref 58), (1, .int (nI e)), (2, .int (nI F)), (3, .int (nI (k + 1)))]) rfl ?_
            first | exact yes (by rw [er, c116, dcd_t.mpr (Or.inl (by omega))]; rfl) | exact yes (by rw [er, c116, dcd_t.mpr (Or.inr (dcd_t.mp c129))]; rfl) | exact no (by rw [er, c116]; rfl) | exact no (by rw [er, dcd_f.mpr (fun z => z.elim (fun y => absurd y (by omega)) (dcd_f.mp c129)), Bool.and_false])
          · skip
            refine q_aload_n dX9_settle_132 rfl rfl rfl ?_
            refine q_getr (r := 83) dX9_settle_133 fX9_107 rfl (ty_c hS1 (by decide) rfl) (hS1.2 58 31 83 rfl) ?_
            refine q_iload_n dX9_settle_136 rfl rfl ?_
            refine q_iload_n dX9_settle_137 rfl rfl ?_
            refine q_iaddN dX9_settle_138 ?_
            refine q_dup2 dX9_settle_139 rfl rfl ?_
            refine q_iald (x := mkN (fun b => upt (fc1 q e) (ear q e) 4 k b k) 8) (j := (F + k)) dX9_settle_140 (ty_c hS1 (by decide) rfl) (ix_n (by omega) (by omega)) r ?_
            refine q_bipush (v := nI 16) dX9_settle_141 rfl ?_
            refine q_ior dX9_settle_143 ?_
            refine q_top (y := mkN (fun b => upt (fc1 q e) (ear q e) 4 k b k || decide (b = 4)) 8) (set_b (j := 4) (by omega)) ?_
            refine q_iast (j := (F + k)) dX9_settle_144 (ty_c hS1 (by decide) rfl) (ix_n (by omega) (by omega)) ?_
            refine q_iincN (c := 1) dX9_settle_145 rfl (by decide) rfl (ls' := [(3, .int (nI (k + 1))), (0, .ref 58), (1, .int (nI e)), (2, .int (nI F))]) rfl ?_
            refine q_goto (tgt := 99) dX9_settle_148 (by decide) ?_
            refine q_pk [1, 2, 3, 0] (ls' := [(0, .ref 58), (1, .int (nI e)), (2, .int (nI F)), (3, .int (nI (k + 1)))]) rfl ?_
            first | exact yes (by rw [er, c116, dcd_t.mpr (Or.inl (by omega))]; rfl) | exact yes (by rw [er, c116, dcd_t.mpr (Or.inr (dcd_t.mp c129))]; rfl) | exact no (by rw [er, c116]; rfl) | exact no (by rw [er, dcd_f.mpr (fun z => z.elim (fun y => absurd y (by omega)) (dcd_f.mp c129)), Bool.and_false])
theorem y9_se160 (hS : SK σ0) (hR : MR0 σ0 4 q) (hc : BC q) (hw : WFs q) (hB : NB q) (hF : F + NN q ≤ 38400) {e : Nat} (he : e < (psM q).length) (K : ∀ σ', FR9 (fcq F (NN q)) σ0 σ' → fcS σ' F (NN q) (fc4 q e) → WA g mX9_settle 4 0 0 Z 0 0 221 [(0, .ref 58), (1, .int (nI e)), (2, .int (nI F))] [] σ') : ∀ (m k : Nat) (σ : HS), k + m = NN q → FR9 (fcq F (NN q)) σ0 σ → fcS σ F (NN q) (upt (fc3 q e) (lst q e) 6 k) → WA g mX9_settle 4 0 0 Z 0 0 160 [(0, .ref 58), (1, .int (nI e)), (2, .int (nI F)), (3, .int (nI k))] [] σ := by
  have hN := NN_le hc
  have h32 := hw.2.2.2.1
  intro m
  induction m with
  | zero =>
    intro k σ hk h1 h2
    have h62 : sI σ 62 4 = nI (NN q) := (hR.fc h1).2.1
    have hS1 := SK.fq h1 hS
    have ek : k = NN q := by omega
    rw [ek] at h2 ⊢
    have h3 : fcS σ F (NN q) (fc4 q e) := h2.ext fun n hn b _ => by
      unfold upt fc4
      by_cases eb : b = 6
      · rw [if_pos ⟨eb, hn⟩, if_pos eb]
      · rw [if_neg (fun z => eb z.1), if_neg eb]
    refine q_iload_n dX9_settle_160 rfl rfl ?_
    refine q_aload_n dX9_settle_161 rfl rfl rfl ?_
    refine q_getr (r := 62) dX9_settle_162 fX9_43 rfl (ty_c hS1 (by decide) rfl) (hS1.2 58 10 62 rfl) ?_
    refine q_iconst (v := nI 4) dX9_settle_165 rfl ?_
    refine q_iald (x := nI (NN q)) (j := 4) dX9_settle_166 (ty_c hS1 (by decide) rfl) (ix_n (by omega) (by omega)) h62 ?_
    refine q_icmp_geN (tgt := 221) dX9_settle_167 (by decide) (by omega) (by omega) (fun c167 => ?_) (fun c167 => ?_)
    · skip
      refine q_pk [0, 1, 2] (ls' := [(0, .ref 58), (1, .int (nI e)), (2, .int (nI F))]) rfl ?_
      exact K σ h1 h3
    · exact absurd c167 (by omega)
  | succ m ih =>
    intro k σ hk h1 h2
    have hkN : k < NN q := by omega
    have hR1 := hR.fc h1
    have h62 : sI σ 62 4 = nI (NN q) := hR1.2.1
    have hS1 := SK.fq h1 hS
    have r := h2 k hkN
    have f6 : fc3 q e 6 k = false := rfl
    have e5 : upt (fc3 q e) (lst q e) 6 k 5 k = dly q e k := upt_o (by decide)
    have e0 : upt (fc3 q e) (lst q e) 6 k 0 k = wk q e k := upt_o (by decide)
    have ea : alN q (upt (fc3 q e) (lst q e) 6 k 5) k = alN q (dly q e) k := alN_cg hc hw hB hkN fun n _ => upt_o (by decide)
    have er : lst q e k = (dly q e k && (wk q e k || !alN q (dly q e) k)) := rfl
    have yes : lst q e k = true → WA g mX9_settle 4 0 0 Z 0 0 160 [(0, .ref 58), (1, .int (nI e)), (2, .int (nI F)), (3, .int (nI (k + 1)))] [] (uI σ 83 (F + k) (mkN (fun b => upt (fc3 q e) (lst q e) 6 k b k || decide (b = 6)) 8)) := fun z => ih (k + 1) _ (by omega) (h1.uI ⟨rfl, by omega, by omega⟩) (h2.nx1 z f6)
    have no : lst q e k = false → WA g mX9_settle 4 0 0 Z 0 0 160 [(0, .ref 58), (1, .int (nI e)), (2, .int (nI F)), (3, .int (nI (k + 1)))] [] σ := fun z => ih (k + 1) _ (by omega) h1 (h2.nx0 z f6)
    refine q_iload_n dX9_settle_160 rfl rfl ?_
    refine q_aload_n dX9_settle_161 rfl rfl rfl ?_
    refine q_getr (r := 62) dX9_settle_162 fX9_43 rfl (ty_c hS1 (by decide) rfl) (hS1.2 58 10 62 rfl) ?_
    refine q_iconst (v := nI 4) dX9_settle_165 rfl ?_
    refine q_iald (x := nI (NN q)) (j := 4) dX9_settle_166 (ty_c hS1 (by decide) rfl) (ix_n (by omega) (by omega)) h62 ?_
    refine q_icmp_geN (tgt := 221) dX9_settle_167 (by decide) (by omega) (by omega) (fun c167 => ?_) (fun c167 => ?_)
    · exact absurd c167 (by omega)
    · skip
      refine q_aload_n dX9_settle_170 rfl rfl rfl ?_
      refine q_iload_n dX9_settle_171 rfl rfl ?_
      refine q_iload_n dX9_settle_172 rfl rfl ?_
      refine q_bipush (v := nI 32) dX9_settle_173 rfl ?_
      refine q_callV (As := [.int (nI F), .int (nI k), .int (nI 32)]) (rest := []) dX9_settle_175 vX9_347 (ty_c hS1 (by decide) rfl) ⟨by decide, rfl⟩ (e5 ▸ z9_is (j := 5) hS1 h2 hF hkN (by omega)) rfl rfl (Nat.le_of_ble_eq_true rfl) (by omega) (by omega) (by omega) (k_p ?_)
      refine q_if_eqB (tgt := 215) dX9_settle_178 (by decide) (fun c178 => ?_) (fun c178 => ?_)
      · skip
        refine q_iincN (c := 1) dX9_settle_215 rfl (by decide) rfl (ls' := [(3, .int (nI (k + 1))), (0, .ref 58), (1, .int (nI e)), (2, .int (nI F))]) rfl ?_
        refine q_goto (tgt := 160) dX9_settle_218 (by decide) ?_
        refine q_pk [1, 2, 3, 0] (ls' := [(0, .ref 58), (1, .int (nI e)), (2, .int (nI F)), (3, .int (nI (k + 1)))]) rfl ?_
        first | exact yes (by rw [er, c178, c188]; rfl) | exact yes (by rw [er, c178, c199]; simp) | exact no (by rw [er, c178]; rfl) | exact no (by rw [er, c188, c199]; simp)
      · skip
        refine q_aload_n dX9_settle_181 rfl rfl rfl ?_
        refine q_iload_n dX9_settle_182 rfl rfl ?_
        refine q_iload_n dX9_settle_183 rfl rfl ?_
        refine q_iconst (v := nI 1) dX9_settle_184 rfl ?_
        refine q_callV (As := [.int (nI F), .int (nI k), .int (nI 1)]) (rest := []) dX9_settle_185 vX9_347 (ty_c hS1 (by decide) rfl) ⟨by decide, rfl⟩ (e0 ▸ z9_is (j := 0) hS1 h2 hF hkN (by omega)) rfl rfl (Nat.le_of_ble_eq_true rfl) (by omega) (by omega) (by omega) (k_p ?_)
        refine q_if_neB (tgt := 202) dX9_settle_188 (by decide) (fun c188 => ?_) (fun c188 => ?_)
        · skip
          refine q_aload_n dX9_settle_202 rfl rfl rfl ?_
          refine q_getr (r := 83) dX9_settle_203 fX9_107 rfl (ty_c hS1 (by decide) rfl) (hS1.2 58 31 83 rfl) ?_
          refine q_iload_n dX9_settle_206 rfl rfl ?_
          refine q_iload_n dX9_settle_207 rfl rfl ?_
          refine q_iaddN dX9_settle_208 ?_
          refine q_dup2 dX9_settle_209 rfl rfl ?_
          refine q_iald (x := mkN (fun b => upt (fc3 q e) (lst q e) 6 k b k) 8) (j := (F + k)) dX9_settle_210 (ty_c hS1 (by decide) rfl) (ix_n (by omega) (by omega)) r ?_
          refine q_bipush (v := nI 64) dX9_settle_211 rfl ?_
          refine q_ior dX9_settle_213 ?_
          refine q_top (y := mkN (fun b => upt (fc3 q e) (lst q e) 6 k b k || decide (b = 6)) 8) (set_b (j := 6) (by omega)) ?_
          refine q_iast (j := (F + k)) dX9_settle_214 (ty_c hS1 (by decide) rfl) (ix_n (by omega) (by omega)) ?_
          refine q_iincN (c := 1) dX9_settle_215 rfl (by decide) rfl (ls' := [(3, .int (nI (k + 1))), (0, .ref 58), (1, .int (nI e)), (2, .int (nI F))]) rfl ?_
          refine q_goto (tgt := 160) dX9_settle_218 (by decide) ?_
          refine q_pk [1, 2, 3, 0] (ls' := [(0, .ref 58), (1, .int (nI e)), (2, .int (nI F)), (3, .int (nI (k + 1)))]) rfl ?_
          first | exact yes (by rw [er, c178, c188]; rfl) | exact yes (by rw [er, c178, c199]; simp) | exact no (by rw [er, c178]; rfl) | exact no (by rw [er, c188, c199]; simp)
        · skip
          refine q_aload_n dX9_settle_191 rfl rfl rfl ?_
          refine q_iload_n dX9_settle_192 rfl rfl ?_
          refine q_iload_n dX9_settle_193 rfl rfl ?_
          refine q_bipush (v := nI 32) dX9_settle_194 rfl ?_
          refine q_callV (As := [.int (nI F), .int (nI k), .int (nI 32)]) (rest := []) dX9_settle_196 vX9_354 (ty_c hS1 (by decide) rfl) ⟨by decide, rfl⟩ (ea ▸ z9_allNext (j := 5) hS1 hR1 hc hw hB h2 hF hkN (by omega)) rfl rfl (Nat.le_of_ble_eq_true rfl) (by omega) (by omega) (by omega) (k_p ?_)
          refine q_if_neB (tgt := 215) dX9_settle_199 (by decide) (fun c199 => ?_) (fun c199 => ?_)
          · skip
            refine q_iincN (c := 1) dX9_settle_215 rfl (by decide) rfl (ls' := [(3, .int (nI (k + 1))), (0, .ref 58), (1, .int (nI e)), (2, .int (nI F))]) rfl ?_
            refine q_goto (tgt := 160) dX9_settle_218 (by decide) ?_
            refine q_pk [1, 2, 3, 0] (ls' := [(0, .ref 58), (1, .int (nI e)), (2, .int (nI F)), (3, .int (nI (k + 1)))]) rfl ?_
            first | exact yes (by rw [er, c178, c188]; rfl) | exact yes (by rw [er, c178, c199]; simp) | exact no (by rw [er, c178]; rfl) | exact no (by rw [er, c188, c199]; simp)
          · skip
            refine q_aload_n dX9_settle_202 rfl rfl rfl ?_
            refine q_getr (r := 83) dX9_settle_203 fX9_107 rfl (ty_c hS1 (by decide) rfl) (hS1.2 58 31 83 rfl) ?_
            refine q_iload_n dX9_settle_206 rfl rfl ?_
            refine q_iload_n dX9_settle_207 rfl rfl ?_
            refine q_iaddN dX9_settle_208 ?_
            refine q_dup2 dX9_settle_209 rfl rfl ?_
            refine q_iald (x := mkN (fun b => upt (fc3 q e) (lst q e) 6 k b k) 8) (j := (F + k)) dX9_settle_210 (ty_c hS1 (by decide) rfl) (ix_n (by omega) (by omega)) r ?_
            refine q_bipush (v := nI 64) dX9_settle_211 rfl ?_
            refine q_ior dX9_settle_213 ?_
            refine q_top (y := mkN (fun b => upt (fc3 q e) (lst q e) 6 k b k || decide (b = 6)) 8) (set_b (j := 6) (by omega)) ?_
            refine q_iast (j := (F + k)) dX9_settle_214 (ty_c hS1 (by decide) rfl) (ix_n (by omega) (by omega)) ?_
            refine q_iincN (c := 1) dX9_settle_215 rfl (by decide) rfl (ls' := [(3, .int (nI (k + 1))), (0, .ref 58), (1, .int (nI e)), (2, .int (nI F))]) rfl ?_
            refine q_goto (tgt := 160) dX9_settle_218 (by decide) ?_
            refine q_pk [1, 2, 3, 0] (ls' := [(0, .ref 58), (1, .int (nI e)), (2, .int (nI F)), (3, .int (nI (k + 1)))]) rfl ?_
            first | exact yes (by rw [er, c178, c188]; rfl) | exact yes (by rw [er, c178, c199]; simp) | exact no (by rw [er, c178]; rfl) | exact no (by rw [er, c188, c199]; simp)
theorem z9_settle (hS : SK σ) (hR : MR0 σ 4 q) (hc : BC q) (hw : WFs q) (hB : NB q) (hx : psX q = false) {e : Nat} (he : e < (psM q).length) : CT g mX9_settle 4 0 0 [.ref 58, .int (nI e)] σ (fun r σ' => r = none ∧ SeQ σ q e σ') := by
  have hN := NN_le hc
  have h32 := hw.2.2.2.1
  have hF : (32 * 4 + e) * 240 + NN q ≤ 38400 := by omega
  -- behind the last loop
  have p4 : ∀ τ, FR9 (fcq ((32 * 4 + e) * 240) (NN q)) σ τ → fcS τ ((32 * 4 + e) * 240) (NN q) (fc4 q e) → WA g mX9_settle 4 0 0 (ZM g (fun r σ' => r = none ∧ SeQ σ q e σ') 0 0) 0 0 221 [(0, .ref 58), (1, .int (nI e)), (2, .int (nI ((32 * 4 + e) * 240)))] [] τ := fun τ f h => by
    have hS1 := SK.fq f hS
    have hC : HC q e 7 (fc4 q e) := ⟨fun n _ => ⟨rfl, rfl⟩, fun z => by omega, fun _ n _ => rfl⟩
    refine q_aload_n dX9_settle_221 rfl rfl rfl ?_
    refine q_iload_n dX9_settle_222 rfl rfl ?_
    refine q_sipush (v := nI 128) dX9_settle_223 rfl ?_
    refine q_callV (As := [.int (nI e), .int (nI 128)]) (rest := []) dX9_settle_226 vX9_344 (ty_c hS1 (by decide) rfl) ⟨by decide, rfl⟩ (z9_narrow (j := 7) hS1 (hR.fc f) hc hw hB hx he (by omega) h hC (fun _ _ => rfl)) rfl rfl (Nat.le_of_ble_eq_true rfl) (by omega) (by omega) (by omega) (k_v (fun s226 q226 => ?_))
    refine q_return dX9_settle_229 rfl (by omega) (by omega) ?_
    refine ⟨rfl, f.tr q226.1, q226.2.ext fun n hn b hb => ?_⟩
    rcases (show b = 0 ∨ b = 1 ∨ b = 2 ∨ b = 3 ∨ b = 4 ∨ b = 5 ∨ b = 6 ∨ b = 7 by omega) with rfl | rfl | rfl | rfl | rfl | rfl | rfl | rfl
    · exact rfl
    · exact rfl
    · exact rfl
    · exact rfl
    · exact rfl
    · exact rfl
    · exact rfl
    · exact gj_7
  have p3 : ∀ τ, FR9 (fcq ((32 * 4 + e) * 240) (NN q)) σ τ → fcS τ ((32 * 4 + e) * 240) (NN q) (fc2 q e) → WA g mX9_settle 4 0 0 (ZM g (fun r σ' => r = none ∧ SeQ σ q e σ') 0 0) 0 0 151 [(0, .ref 58), (1, .int (nI e)), (2, .int (nI ((32 * 4 + e) * 240)))] [] τ := fun τ f h => by
    have hS1 := SK.fq f hS
    have hC : HC q e 5 (fc2 q e) := ⟨fun n _ => ⟨rfl, rfl⟩, fun _ n _ => rfl, fun z => by omega⟩
    refine q_aload_n dX9_settle_151 rfl rfl rfl ?_
    refine q_iload_n dX9_settle_152 rfl rfl ?_
    refine q_bipush (v := nI 32) dX9_settle_153 rfl ?_
    refine q_callV (As := [.int (nI e), .int (nI 32)]) (rest := []) dX9_settle_155 vX9_344 (ty_c hS1 (by decide) rfl) ⟨by decide, rfl⟩ (z9_narrow (j := 5) hS1 (hR.fc f) hc hw hB hx he (by omega) h hC (fun _ _ => rfl)) rfl rfl (Nat.le_of_ble_eq_true rfl) (by omega) (by omega) (by omega) (k_v (fun s155 q155 => ?_))
    refine q_iconst (v := nI 0) dX9_settle_158 rfl ?_
    refine q_istore_n dX9_settle_159 rfl (by decide) (ls' := [(3, .int (nI 0)), (0, .ref 58), (1, .int (nI e)), (2, .int (nI ((32 * 4 + e) * 240)))]) rfl ?_
    refine q_pk [1, 2, 3, 0] (ls' := [(0, .ref 58), (1, .int (nI e)), (2, .int (nI ((32 * 4 + e) * 240))), (3, .int (nI 0))]) rfl ?_
    have ff := f.tr q155.1
    refine y9_se160 hS hR hc hw hB hF he p4 (NN q) 0 _ (by omega) ff (q155.2.ext fun n hn b hb => ?_)
    rcases (show b = 0 ∨ b = 1 ∨ b = 2 ∨ b = 3 ∨ b = 4 ∨ b = 5 ∨ b = 6 ∨ b = 7 by omega) with rfl | rfl | rfl | rfl | rfl | rfl | rfl | rfl
    · exact rfl
    · exact rfl
    · exact rfl
    · exact rfl
    · exact rfl
    · exact gj_5
    · exact rfl
    · exact rfl
  have p2 : ∀ τ, FR9 (fcq ((32 * 4 + e) * 240) (NN q)) σ τ → fcS τ ((32 * 4 + e) * 240) (NN q) (fc0 q e) → WA g mX9_settle 4 0 0 (ZM g (fun r σ' => r = none ∧ SeQ σ q e σ') 0 0) 0 0 84 [(0, .ref 58), (1, .int (nI e)), (2, .int (nI ((32 * 4 + e) * 240)))] [] τ := fun τ f h => by
    have hS1 := SK.fq f hS
    have hC : HC q e 2 (fc0 q e) := ⟨fun n _ => ⟨rfl, rfl⟩, fun z => by omega, fun z => by omega⟩
    have hC3 : HC q e 3 (fun b n => if b = 2 then gf (NN q) (FJ q e 2) n else fc0 q e b n) := ⟨fun n _ => ⟨rfl, rfl⟩, fun z => by omega, fun z => by omega⟩
    refine q_aload_n dX9_settle_84 rfl rfl rfl ?_
    refine q_iload_n dX9_settle_85 rfl rfl ?_
    refine q_iconst (v := nI 4) dX9_settle_86 rfl ?_
    refine q_callV (As := [.int (nI e), .int (nI 4)]) (rest := []) dX9_settle_87 vX9_344 (ty_c hS1 (by decide) rfl) ⟨by decide, rfl⟩ (z9_narrow (j := 2) hS1 (hR.fc f) hc hw hB hx he (by omega) h hC (fun _ _ => rfl)) rfl rfl (Nat.le_of_ble_eq_true rfl) (by omega) (by omega) (by omega) (k_v (fun s87 q87 => ?_))
    have zS87 : SK s87 := (SK.fq q87.1 hS1)
    refine q_aload_n dX9_settle_90 rfl rfl rfl ?_
    refine q_iload_n dX9_settle_91 rfl rfl ?_
    refine q_bipush (v := nI 8) dX9_settle_92 rfl ?_
    refine q_callV (As := [.int (nI e), .int (nI 8)]) (rest := []) dX9_settle_94 vX9_344 (ty_c zS87 (by decide) rfl) ⟨by decide, rfl⟩ (z9_narrow (j := 3) zS87 ((hR.fc f).fc q87.1) hc hw hB hx he (by omega) q87.2 hC3 (fun _ _ => rfl)) rfl rfl (Nat.le_of_ble_eq_true rfl) (by omega) (by omega) (by omega) (k_v (fun s94 q94 => ?_))
    refine q_iconst (v := nI 0) dX9_settle_97 rfl ?_
    refine q_istore_n dX9_settle_98 rfl (by decide) (ls' := [(3, .int (nI 0)), (0, .ref 58), (1, .int (nI e)), (2, .int (nI ((32 * 4 + e) * 240)))]) rfl ?_
    refine q_pk [1, 2, 3, 0] (ls' := [(0, .ref 58), (1, .int (nI e)), (2, .int (nI ((32 * 4 + e) * 240))), (3, .int (nI 0))]) rfl ?_
    have ff := (f.tr q87.1).tr q94.1
    refine y9_se99 hS hR hc hw hB hF he p3 (NN q) 0 _ (by omega) ff (q94.2.ext fun n hn b hb => ?_)
    rcases (show b = 0 ∨ b = 1 ∨ b = 2 ∨ b = 3 ∨ b = 4 ∨ b = 5 ∨ b = 6 ∨ b = 7 by omega) with rfl | rfl | rfl | rfl | rfl | rfl | rfl | rfl
    · exact rfl
    · exact rfl
    · exact gj_2
    · exact gj_3
    · exact rfl
    · exact rfl
    · exact rfl
    · exact rfl
  have h0 : fcS σ ((32 * 4 + e) * 240) 0 (fc0 q e) := fun k hk => absurd hk (by omega)
  refine CT.of (by decide) (Nat.le_of_ble_eq_true rfl) ?_
  refine q_aload_n dX9_settle_0 rfl rfl rfl ?_
  refine q_iconst (v := nI 4) dX9_settle_1 rfl ?_
  refine q_iload_n dX9_settle_2 rfl rfl ?_
  refine q_callV (As := [.int (nI 4), .int (nI e)]) (rest := []) dX9_settle_3 vX9_338 (ty_c hS (by decide) rfl) ⟨by decide, rfl⟩ (z9_base hS (p := 4) (e := e) (by omega) (by omega)) rfl rfl (Nat.le_of_ble_eq_true rfl) (by omega) (by omega) (by omega) (k_p ?_)
  refine q_istore_n dX9_settle_6 rfl (by decide) (ls' := [(2, .int (nI ((32 * 4 + e) * 240))), (0, .ref 58), (1, .int (nI e))]) rfl ?_
  refine q_iconst (v := nI 0) dX9_settle_7 rfl ?_
  refine q_istore_n dX9_settle_8 rfl (by decide) (ls' := [(3, .int (nI 0)), (2, .int (nI ((32 * 4 + e) * 240))), (0, .ref 58), (1, .int (nI e))]) rfl ?_
  refine q_pk [2, 3, 1, 0] (ls' := [(0, .ref 58), (1, .int (nI e)), (2, .int (nI ((32 * 4 + e) * 240))), (3, .int (nI 0))]) rfl ?_
  exact y9_se9 hS hR hc hw hF he p2 (NN q) 0 _ (by omega) FR9.rf h0
end MSE
