/-! The model: what is said. -/
/-- what is said so far -/
def TXm (σ : HS) (W : List Nat) : Prop := sI σ 58 60 = nI W.length ∧ W.length ≤ 60000 ∧ ∀ i, i < W.length → sI σ 97 i = nI (W.getD i 0)
def txq (h i : Nat) : Prop := h = 97 ∨ (h = 58 ∧ i = 60)
def TwQ (σ : HS) (W : List Nat) : Option Value → HS → Prop := fun r σ' => r = none ∧ FR9 txq σ σ' ∧ TXm σ' W
theorem lN_divN {a b : Nat} (ha : a < 2147483648) (hb : b < 2147483648) : lN a / lN b = lN (a / b) := by
  have h2 : a / b ≤ a := Nat.div_le_self _ _
  apply Int64.toInt_inj.mp
  rw [Int64.toInt_div, lN_toInt (by omega), lN_toInt (by omega), lN_toInt (by omega)]
  have : ((a : Int).tdiv (b : Int)) = ((a / b : Nat) : Int) := rfl
  rw [this]
  generalize a / b = d at h2
  have : ((d : Nat) : Int).bmod 18446744073709551616 = (d : Int) := by rw [Int.bmod_def]; split <;> omega
  rw [show (2 : Nat) ^ 64 = 18446744073709551616 by decide, this]
theorem lN_remN {a b : Nat} (ha : a < 2147483648) (hb : b < 2147483648) : lN a - lN a / lN b * lN b = lN (a % b) := by
  have h2 : a / b * b ≤ a := Nat.div_mul_le_self _ _
  rw [lN_divN ha hb, lN_mul, lN_sub h2]
  congr 1
  have := Nat.div_add_mod a b
  rw [Nat.mul_comm] at this
  omega
theorem lN_ne0 {a : Nat} (h0 : 0 < a) (ha : a < 2147483648) : ¬ lN a = 0 := fun z => by
  have := (lN_eq (a := a) (b := 0) (by omega) (by omega)).mp z
  omega
theorem cmp_le {a b : Nat} (ha : a < 2147483648) (hb : b < 2147483648) : lg_cmp (lN a) (lN b) ≤ 0 ↔ a ≤ b := by
  unfold lg_cmp
  by_cases h : b < a
  · rw [if_pos (show lN a > lN b from (lN_lt (by omega) (by omega)).mpr h)]
    exact ⟨fun z => absurd z (by decide), fun z => by omega⟩
  · rw [if_neg (show ¬ lN a > lN b from fun z => h ((lN_lt (by omega) (by omega)).mp z))]
    by_cases e : a = b
    · rw [if_pos (by rw [e])]; exact ⟨fun _ => by omega, fun _ => by decide⟩
    · rw [if_neg (fun z => e ((lN_eq (by omega) (by omega)).mp z))]
      exact ⟨fun _ => by omega, fun _ => by decide⟩
theorem neg_l {v : Nat} (h : v < 1000000000) : -((-(nI v)).toInt64) = lN v := by
  apply Int64.toInt_inj.mp
  rw [Int64.toInt_neg, Int32.toInt_toInt64, neg_toInt h, lN_toInt (by omega)]
  have : (-(-(v : Int))).bmod 18446744073709551616 = (v : Int) := by rw [Int.bmod_def]; split <;> omega
  rw [show (2 : Nat) ^ 64 = 18446744073709551616 by decide, this]
theorem neg_neg {v : Nat} (h : v < 1000000000) (h0 : 0 < v) : -(nI v) < 0 := Int32.lt_iff_toInt_lt.mpr (by rw [neg_toInt h]; show -(v : Int) < 0; omega)
theorem dk_len (n : Nat) : ∀ k, (dk n k).length = k + 1
  | 0 => rfl
  | k + 1 => by show (dk n k).length + 1 = _; rw [dk_len n k]
theorem numT_len {n : Nat} (h : n < 2147483648) : (numT n).length ≤ 10 := by
  have := (lg_ok h).1
  unfold numT; rw [dk_len]; omega
theorem p10 {k : Nat} (h : k ≤ 9) : 10 ^ k < 2147483648 ∧ 0 < 10 ^ k := by
  have : 10 ^ k ≤ 10 ^ 9 := Nat.pow_le_pow_right (by omega) h
  exact ⟨by omega, Nat.pos_of_ne_zero (by have := Nat.pow_pos (a := 10) (n := k) (by omega); omega)⟩
theorem numT_len9 {n : Nat} (h : n < 1000000000) : (numT n).length ≤ 9 := by
  obtain ⟨h1, h2, h3⟩ := lg_ok (n := n) (by omega)
  unfold numT; rw [dk_len]
  by_cases e : lg n = 9
  · have := h3 8 (by omega)
    omega
  · omega
theorem opT_nat {v : Nat} (h1 : v < 1000000000) : opT (nI v) = numT v := by
  unfold opT
  rw [if_neg (fun z => by have := (nI_leI (by omega) (by omega)).mp z; omega), if_neg (fun z => by have := (nI_leI (by omega) (by omega)).mp z; omega), if_neg (nI_pos (by omega)), nI_clamp (by omega)]
theorem opT_neg {v : Nat} (h1 : v < 1000000000) (h0 : 0 < v) : opT (-(nI v)) = 45 :: numT v := by
  have h2 := (opV_m (nm := fun _ => 0) h1).1
  have h3 : ¬ nI 1000000016 ≤ -(nI v) := fun z => h2 (Int32.le_iff_toInt_le.mpr (by have := Int32.le_iff_toInt_le.mp z; rw [nI_toInt (by omega)] at this ⊢; omega))
  unfold opT
  rw [if_neg h3, if_neg h2, if_pos (neg_neg h1 h0), show -(-(nI v)) = nI v from Int32.neg_neg, nI_clamp (by omega)]
theorem opT_t {v : Nat} (h : 16 ≤ v) (h1 : v < 48) : opT (nI (1000000000 + v)) = 116 :: numT (v - 16) := by
  unfold opT
  rw [if_pos ((nI_leI (by omega) (by omega)).mpr (by omega)), nI_subN (by omega), nI_subN (by omega), nI_clamp (by omega), show 1000000000 + v - 1000000000 - 16 = v - 16 by omega]
theorem opT_v {v : Nat} (h : v < 16) : opT (nI (1000000000 + v)) = 118 :: numT v := by
  unfold opT
  rw [if_neg (fun z => by have := (nI_leI (by omega) (by omega)).mp z; omega), if_pos ((nI_leI (by omega) (by omega)).mpr (by omega)), nI_subN (by omega), nI_clamp (by omega), show 1000000000 + v - 1000000000 = v by omega]
theorem neg_0 : -(nI 0) = nI 0 := by decide
theorem opT_len {o : Int32} (ho : OPD o) : (opT o).length ≤ 10 := by
  rcases ho with ⟨v, h1, rfl⟩ | ⟨v, h1, rfl⟩ | ⟨v, h1, rfl⟩
  · rw [opT_nat h1]; exact numT_len (by omega)
  · by_cases h0 : v = 0
    · rw [h0, neg_0, opT_nat (by omega)]; exact numT_len (by omega)
    · rw [opT_neg h1 (by omega), List.length_cons]
      have := numT_len9 h1
      omega
  · by_cases h : 16 ≤ v
    · rw [opT_t h h1, List.length_cons]
      have := numT_len9 (n := v - 16) (by omega)
      omega
    · rw [opT_v (by omega), List.length_cons]
      have := numT_len9 (n := v) (by omega)
      omega
theorem q_topL {g M d mc ms Z cl sl pc ls st σ} {x y : Int64} (h : x = y) (k : WA g M d mc ms Z cl sl pc ls (.long y :: st) σ) : WA g M d mc ms Z cl sl pc ls (.long x :: st) σ := h ▸ k
section MSY
variable {g : GG} {σ : HS} {q : PS} {i : Nat} {W : List Nat}
theorem z9_say (hS : SK σ) (hW : TXm σ W) {c : Nat} (hl : W.length < 60000) : CT g mX9_say 0 0 0 [.ref 58, .int (nI c)] σ (TwQ σ (W ++ [c])) := by
  obtain ⟨w1, w2, w3⟩ := hW
  have fin : TwQ σ (W ++ [c]) none (uI (uI σ 97 W.length (nI c)) 58 60 (nI (W.length + 1))) := by
    refine ⟨rfl, (FR9.rf.uI (Or.inl rfl)).uI (Or.inr ⟨rfl, rfl⟩), ?_, by rw [List.length_append, List.length_singleton]; omega, fun j hj => ?_⟩
    · rw [uI_self, List.length_append]; rfl
    · rw [List.length_append, List.length_singleton] at hj
      rw [rd_off (by omega), gd_snoc]
      by_cases e : j = W.length
      · rw [if_pos e, e]; exact uI_self
      · rw [if_neg e, rd_ne e]; exact w3 j (by omega)
  refine CT.of (by decide) (Nat.le_of_ble_eq_true rfl) ?_
  refine q_aload_n dX9_say_0 rfl rfl rfl ?_
  refine q_getr (r := 97) dX9_say_1 fX9_193 rfl (ty_c hS (by decide) rfl) (hS.2 58 59 97 rfl) ?_
  refine q_aload_n dX9_say_4 rfl rfl rfl ?_
  refine q_geti (x := nI W.length) dX9_say_5 fX9_196 rfl (ty_c hS (by decide) rfl) w1 ?_
  refine q_iload_n dX9_say_8 rfl rfl ?_
  refine q_iast (j := W.length) dX9_say_9 (ty_c hS (by decide) rfl) (ix_n (by omega) (by omega)) ?_
  refine q_aload_n dX9_say_10 rfl rfl rfl ?_
  refine q_dup dX9_say_11 rfl ?_
  refine q_geti (x := nI W.length) dX9_say_12 fX9_196 rfl (ty_c hS (by decide) rfl) (Eq.trans (rd_off (by decide)) w1) ?_
  refine q_iconst (v := nI 1) dX9_say_15 rfl ?_
  refine q_iaddN dX9_say_16 ?_
  refine q_puti dX9_say_17 fX9_196 rfl (Or.inl rfl) (ty_c hS (by decide) rfl) ?_
  refine q_return dX9_say_20 rfl (by omega) (by omega) ?_
  exact fin
theorem TwQ.tr {σ' : HS} {V : List Nat} {r : Option Value} {τ : HS} (f : FR9 txq σ σ') (h : TwQ σ' V r τ) : TwQ σ V r τ := ⟨h.1, f.tr h.2.1, h.2.2⟩
theorem y9_num48z (hS : SK σ) {n : Nat} {v : Int32} {Q : Option Value → HS → Prop} (hQ : Q none σ) : WA g mX9_sayNumber 1 0 0 (ZM g Q 0 0) 0 0 48 [(0, .ref 58), (1, .int v), (2, .long (lN n)), (4, .long (lN 0))] [] σ := by
  have d0 := (cmp_le (a := 0) (b := 0) (by decide) (by omega)).mpr (by decide)
  refine q_lload dX9_sayNumber_48 rfl ?_
  refine q_lconst (v := (0 : Int64)) dX9_sayNumber_50 rfl ?_
  refine q_lcmp dX9_sayNumber_51 ?_
  refine q_if_le (tgt := 83) dX9_sayNumber_52 (by decide) (fun c52 => ?_) (fun c52 => ?_)
  · skip
    refine q_return dX9_sayNumber_83 rfl (by omega) (by omega) ?_
    exact hQ
  · exact absurd d0 c52
theorem y9_num48 {n : Nat} (hn : n < 2147483648) {σ0 : HS} (hS0 : SK σ0) {v : Int32} : ∀ (m : Nat) (W : List Nat) (σ : HS), m ≤ 9 → W.length + (m + 1) ≤ 60000 → FR9 txq σ0 σ → TXm σ W → WA g mX9_sayNumber 1 0 0 (ZM g (TwQ σ0 (W ++ dk n m)) 0 0) 0 0 48 [(0, .ref 58), (1, .int v), (2, .long (lN n)), (4, .long (lN (10 ^ m)))] [] σ := by
  intro m
  induction m with
  | zero =>
    intro W σ hm hl h1 hW
    have hS := SK.fq h1 hS0
    have c0 : ¬ lg_cmp (lN (10 ^ 0)) (lN 0) ≤ 0 := fun z => absurd ((cmp_le (a := 10 ^ 0) (b := 0) (by decide) (by omega)).mp z) (by decide)
    have e1 : lN n / lN (10 ^ 0) = lN (n / 1) := lN_divN hn (by decide)
    have e2 : lN (n / 1) - lN (n / 1) / 10 * 10 = lN (n / 1 % 10) := lN_remN (b := 10) (Nat.lt_of_le_of_lt (Nat.div_le_self _ _) hn) (by omega)
    have e3 : ((48 : Int64) + lN (n / 1 % 10)).toInt32 = nI (48 + n / 1 % 10) := by
      show (lN 48 + lN (n / 1 % 10)).toInt32 = _
      rw [lN_add]; exact lN_i _
    have e4 : lN (10 ^ 0) / 10 = lN 0 := lN_divN (a := 10 ^ 0) (b := 10) (by decide) (by omega)
    refine q_lload dX9_sayNumber_48 rfl ?_
    refine q_lconst (v := (0 : Int64)) dX9_sayNumber_50 rfl ?_
    refine q_lcmp dX9_sayNumber_51 ?_
    refine q_if_le (tgt := 83) dX9_sayNumber_52 (by decide) (fun c52 => ?_) (fun c52 => ?_)
    · exact absurd c52 c0
    · skip
      refine q_aload_n dX9_sayNumber_55 rfl rfl rfl ?_
      refine q_ldc2 (v := (48 : Int64)) dX9_sayNumber_56 kX9_223 ?_
      refine q_lload_n dX9_sayNumber_59 rfl rfl ?_
      refine q_lload dX9_sayNumber_60 rfl ?_
      refine q_ldiv dX9_sayNumber_62 (lN_ne0 (a := 10 ^ 0) (by decide) (by decide)) ?_
      refine q_topL (y := lN (n / 1)) e1 ?_
      refine q_ldc2 (v := (10 : Int64)) dX9_sayNumber_63 kX9_221 ?_
      refine q_lrem dX9_sayNumber_66 (by decide) ?_
      refine q_topL (y := lN (n / 1 % 10)) e2 ?_
      refine q_ladd dX9_sayNumber_67 ?_
      refine q_l2i (v := nI (48 + n / 1 % 10)) dX9_sayNumber_68 e3 ?_
      refine q_callV (As := [.int (nI (48 + n / 1 % 10))]) (rest := []) dX9_sayNumber_69 vX9_415 (ty_c hS (by decide) rfl) ⟨by decide, rfl⟩ (z9_say hS hW (c := 48 + n / 1 % 10) (by omega)) rfl rfl (Nat.le_of_ble_eq_true rfl) (by omega) (by omega) (by omega) (k_v (fun s69 q69 => ?_))
      have zS69 : SK s69 := (SK.fq q69.1 hS)
      refine q_lload dX9_sayNumber_72 rfl ?_
      refine q_ldc2 (v := (10 : Int64)) dX9_sayNumber_74 kX9_221 ?_
      refine q_ldiv dX9_sayNumber_77 (by decide) ?_
      refine q_topL (y := lN 0) e4 ?_
      refine q_lstore dX9_sayNumber_78 (by decide) (ls' := [(4, .long (lN 0)), (0, .ref 58), (1, .int v), (2, .long (lN n))]) rfl ?_
      refine q_goto (tgt := 48) dX9_sayNumber_80 (by decide) ?_
      refine q_pk [1, 2, 3, 0] (ls' := [(0, .ref 58), (1, .int v), (2, .long (lN n)), (4, .long (lN 0))]) rfl ?_
      exact y9_num48z zS69 ⟨rfl, h1.tr q69.1, q69.2⟩
  | succ m ih =>
    intro W σ hm hl h1 hW
    have hS := SK.fq h1 hS0
    obtain ⟨p1, p2⟩ := p10 hm
    have c0 : ¬ lg_cmp (lN (10 ^ (m + 1))) (lN 0) ≤ 0 := fun z => absurd ((cmp_le (a := 10 ^ (m + 1)) (b := 0) p1 (by omega)).mp z) (by omega)
    have e1 : lN n / lN (10 ^ (m + 1)) = lN (n / 10 ^ (m + 1)) := lN_divN hn p1
    have e2 : lN (n / 10 ^ (m + 1)) - lN (n / 10 ^ (m + 1)) / 10 * 10 = lN (n / 10 ^ (m + 1) % 10) := lN_remN (b := 10) (Nat.lt_of_le_of_lt (Nat.div_le_self _ _) hn) (by omega)
    have e3 : ((48 : Int64) + lN (n / 10 ^ (m + 1) % 10)).toInt32 = nI (48 + n / 10 ^ (m + 1) % 10) := by
      show (lN 48 + lN (n / 10 ^ (m + 1) % 10)).toInt32 = _
      rw [lN_add]; exact lN_i _
    have e4 : lN (10 ^ (m + 1)) / 10 = lN (10 ^ m) := by
      have := lN_divN (a := 10 ^ (m + 1)) (b := 10) p1 (by omega)
      rw [Nat.pow_succ, Nat.mul_div_cancel _ (by omega)] at this
      rw [Nat.pow_succ]; exact this
    have nx : ∀ τ, (FR9 txq σ τ ∧ TXm τ (W ++ [48 + n / 10 ^ (m + 1) % 10])) → WA g mX9_sayNumber 1 0 0 (ZM g (TwQ σ0 (W ++ dk n (m + 1))) 0 0) 0 0 48 [(0, .ref 58), (1, .int v), (2, .long (lN n)), (4, .long (lN (10 ^ m)))] [] τ := fun τ ⟨f, t⟩ => by
      have e : W ++ dk n (m + 1) = (W ++ [48 + n / 10 ^ (m + 1) % 10]) ++ dk n m := by rw [List.append_assoc]; rfl
      rw [e]
      exact ih _ τ (by omega) (by rw [List.length_append, List.length_singleton]; omega) (h1.tr f) t
    refine q_lload dX9_sayNumber_48 rfl ?_
    refine q_lconst (v := (0 : Int64)) dX9_sayNumber_50 rfl ?_
    refine q_lcmp dX9_sayNumber_51 ?_
    refine q_if_le (tgt := 83) dX9_sayNumber_52 (by decide) (fun c52 => ?_) (fun c52 => ?_)
    · exact absurd c52 c0
    · skip
      refine q_aload_n dX9_sayNumber_55 rfl rfl rfl ?_
      refine q_ldc2 (v := (48 : Int64)) dX9_sayNumber_56 kX9_223 ?_
      refine q_lload_n dX9_sayNumber_59 rfl rfl ?_
      refine q_lload dX9_sayNumber_60 rfl ?_
      refine q_ldiv dX9_sayNumber_62 (lN_ne0 p2 p1) ?_
      refine q_topL (y := lN (n / 10 ^ (m + 1))) e1 ?_
      refine q_ldc2 (v := (10 : Int64)) dX9_sayNumber_63 kX9_221 ?_
      refine q_lrem dX9_sayNumber_66 (by decide) ?_
      refine q_topL (y := lN (n / 10 ^ (m + 1) % 10)) e2 ?_
      refine q_ladd dX9_sayNumber_67 ?_
      refine q_l2i (v := nI (48 + n / 10 ^ (m + 1) % 10)) dX9_sayNumber_68 e3 ?_
      refine q_callV (As := [.int (nI (48 + n / 10 ^ (m + 1) % 10))]) (rest := []) dX9_sayNumber_69 vX9_415 (ty_c hS (by decide) rfl) ⟨by decide, rfl⟩ (z9_say hS hW (c := 48 + n / 10 ^ (m + 1) % 10) (by omega)) rfl rfl (Nat.le_of_ble_eq_true rfl) (by omega) (by omega) (by omega) (k_v (fun s69 q69 => ?_))
      have zS69 : SK s69 := (SK.fq q69.1 hS)
      refine q_lload dX9_sayNumber_72 rfl ?_
      refine q_ldc2 (v := (10 : Int64)) dX9_sayNumber_74 kX9_221 ?_
      refine q_ldiv dX9_sayNumber_77 (by decide) ?_
      refine q_topL (y := lN (10 ^ m)) e4 ?_
      refine q_lstore dX9_sayNumber_78 (by decide) (ls' := [(4, .long (lN (10 ^ m))), (0, .ref 58), (1, .int v), (2, .long (lN n))]) rfl ?_
      refine q_goto (tgt := 48) dX9_sayNumber_80 (by decide) ?_
      refine q_pk [1, 2, 3, 0] (ls' := [(0, .ref 58), (1, .int v), (2, .long (lN n)), (4, .long (lN (10 ^ m)))]) rfl ?_
      exact nx _ q69
theorem y9_num26 {n : Nat} (hn : n < 2147483648) {σ0 : HS} (hS0 : SK σ0) {v : Int32} (h1 : FR9 txq σ0 σ) (hW : TXm σ W) (hl : W.length + 10 ≤ 60000) : ∀ (k j : Nat), j + k = lg n → WA g mX9_sayNumber 1 0 0 (ZM g (TwQ σ0 (W ++ numT n)) 0 0) 0 0 26 [(0, .ref 58), (1, .int v), (2, .long (lN n)), (4, .long (lN (10 ^ j)))] [] σ := by
  obtain ⟨g1, g2, g3⟩ := lg_ok hn
  have hS := SK.fq h1 hS0
  intro k
  induction k with
  | zero =>
    intro j hj
    have ej : j = lg n := by omega
    obtain ⟨p1, p2⟩ := p10 (k := j) (by omega)
    have e1 : lN n / lN (10 ^ j) = lN (n / 10 ^ j) := lN_divN hn p1
    have c0 := (cmp_le (a := n / 10 ^ j) (b := 9) (Nat.lt_of_le_of_lt (Nat.div_le_self _ _) hn) (by omega)).mpr (by rw [ej]; exact g2)
    refine q_lload_n dX9_sayNumber_26 rfl rfl ?_
    refine q_lload dX9_sayNumber_27 rfl ?_
    refine q_ldiv dX9_sayNumber_29 (lN_ne0 p2 p1) ?_
    refine q_topL (y := lN (n / 10 ^ j)) e1 ?_
    refine q_ldc2 (v := (9 : Int64)) dX9_sayNumber_30 kX9_418 ?_
    refine q_lcmp dX9_sayNumber_33 ?_
    refine q_if_le (tgt := 48) dX9_sayNumber_34 (by decide) (fun c34 => ?_) (fun c34 => ?_)
    · skip
      subst ej; exact y9_num48 hn hS0 (lg n) W σ g1 (by omega) h1 hW
    · exact absurd c0 c34
  | succ k ih =>
    intro j hj
    obtain ⟨p1, p2⟩ := p10 (k := j) (by omega)
    have e1 : lN n / lN (10 ^ j) = lN (n / 10 ^ j) := lN_divN hn p1
    have hgt := g3 j (by omega)
    have c0 : ¬ lg_cmp (lN (n / 10 ^ j)) (lN 9) ≤ 0 := fun z => absurd ((cmp_le (a := n / 10 ^ j) (b := 9) (Nat.lt_of_le_of_lt (Nat.div_le_self _ _) hn) (by omega)).mp z) (by omega)
    have e2 : lN (10 ^ j) * 10 = lN (10 ^ (j + 1)) := by rw [Nat.pow_succ]; exact lN_mul _ _
    refine q_lload_n dX9_sayNumber_26 rfl rfl ?_
    refine q_lload dX9_sayNumber_27 rfl ?_
    refine q_ldiv dX9_sayNumber_29 (lN_ne0 p2 p1) ?_
    refine q_topL (y := lN (n / 10 ^ j)) e1 ?_
    refine q_ldc2 (v := (9 : Int64)) dX9_sayNumber_30 kX9_418 ?_
    refine q_lcmp dX9_sayNumber_33 ?_
    refine q_if_le (tgt := 48) dX9_sayNumber_34 (by decide) (fun c34 => ?_) (fun c34 => ?_)
    · exact absurd c34 c0
    · skip
      refine q_lload dX9_sayNumber_37 rfl ?_
      refine q_ldc2 (v := (10 : Int64)) dX9_sayNumber_39 kX9_221 ?_
      refine q_lmul dX9_sayNumber_42 ?_
      refine q_topL (y := lN (10 ^ (j + 1))) e2 ?_
      refine q_lstore dX9_sayNumber_43 (by decide) (ls' := [(4, .long (lN (10 ^ (j + 1)))), (0, .ref 58), (1, .int v), (2, .long (lN n))]) rfl ?_
      refine q_goto (tgt := 26) dX9_sayNumber_45 (by decide) ?_
      refine q_pk [1, 2, 3, 0] (ls' := [(0, .ref 58), (1, .int v), (2, .long (lN n)), (4, .long (lN (10 ^ (j + 1))))]) rfl ?_
      exact ih (j + 1) (by omega)
theorem z9_num (hS : SK σ) (hW : TXm σ W) {n : Nat} (hn : n < 2147483648) (hl : W.length + 10 ≤ 60000) : CT g mX9_sayNumber 1 0 0 [.ref 58, .int (nI n)] σ (TwQ σ (W ++ numT n)) := by
  have e0 : (nI n).toInt64 = lN n := nI_l (by omega)
  refine CT.of (by decide) (Nat.le_of_ble_eq_true rfl) ?_
  refine q_iload_n dX9_sayNumber_0 rfl rfl ?_
  refine q_if_geN (tgt := 10) dX9_sayNumber_1 (by decide) (by omega) ?_
  refine q_iload_n dX9_sayNumber_10 rfl rfl ?_
  refine q_i2l (v := lN n) dX9_sayNumber_11 e0 ?_
  refine q_lstore_n dX9_sayNumber_12 rfl (by decide) (ls' := [(2, .long (lN n)), (0, .ref 58), (1, .int (nI n))]) rfl ?_
  refine q_lconst (v := (1 : Int64)) dX9_sayNumber_13 rfl ?_
  refine q_lstore dX9_sayNumber_14 (by decide) (ls' := [(4, .long (1 : Int64)), (2, .long (lN n)), (0, .ref 58), (1, .int (nI n))]) rfl ?_
  refine q_iload_n dX9_sayNumber_16 rfl rfl ?_
  refine q_if_geN (tgt := 26) dX9_sayNumber_17 (by decide) (by omega) ?_
  refine q_pk [2, 3, 1, 0] (ls' := [(0, .ref 58), (1, .int (nI n)), (2, .long (lN n)), (4, .long (1 : Int64))]) rfl ?_
  exact y9_num26 hn hS FR9.rf hW hl (lg n) 0 (by omega)
theorem z9_numM (hS : SK σ) (hW : TXm σ W) {v : Nat} (h1 : v < 1000000000) (h0 : 0 < v) (hl : W.length + 11 ≤ 60000) : CT g mX9_sayNumber 1 0 0 [.ref 58, .int (-(nI v))] σ (TwQ σ (W ++ (45 :: numT v))) := by
  have hn := neg_neg h1 h0
  have e0 := neg_l h1
  have eW : W ++ (45 :: numT v) = (W ++ [45]) ++ numT v := by rw [List.append_assoc]; rfl
  rw [eW]
  refine CT.of (by decide) (Nat.le_of_ble_eq_true rfl) ?_
  refine q_iload_n dX9_sayNumber_0 rfl rfl ?_
  refine q_if_ge1 (tgt := 10) dX9_sayNumber_1 (by decide) hn ?_
  refine q_iload_n dX9_sayNumber_4 rfl rfl ?_
  refine q_i2l (v := (-(nI v)).toInt64) dX9_sayNumber_5 rfl ?_
  refine q_lneg dX9_sayNumber_6 ?_
  refine q_topL (y := lN v) e0 ?_
  refine q_goto (tgt := 12) dX9_sayNumber_7 (by decide) ?_
  refine q_lstore_n dX9_sayNumber_12 rfl (by decide) (ls' := [(2, .long (lN v)), (0, .ref 58), (1, .int (-(nI v)))]) rfl ?_
  refine q_lconst (v := (1 : Int64)) dX9_sayNumber_13 rfl ?_
  refine q_lstore dX9_sayNumber_14 (by decide) (ls' := [(4, .long (1 : Int64)), (2, .long (lN v)), (0, .ref 58), (1, .int (-(nI v)))]) rfl ?_
  refine q_iload_n dX9_sayNumber_16 rfl rfl ?_
  refine q_if_ge1 (tgt := 26) dX9_sayNumber_17 (by decide) hn ?_
  refine q_aload_n dX9_sayNumber_20 rfl rfl rfl ?_
  refine q_bipush (v := nI 45) dX9_sayNumber_21 rfl ?_
  refine q_callV (As := [.int (nI 45)]) (rest := []) dX9_sayNumber_23 vX9_415 (ty_c hS (by decide) rfl) ⟨by decide, rfl⟩ (z9_say (c := 45) hS hW (by omega)) rfl rfl (Nat.le_of_ble_eq_true rfl) (by omega) (by omega) (by omega) (k_v (fun s23 q23 => ?_))
  refine q_pk [2, 3, 1, 0] (ls' := [(0, .ref 58), (1, .int (-(nI v))), (2, .long (lN v)), (4, .long (1 : Int64))]) rfl ?_
  exact y9_num26 (n := v) (by omega) hS q23.1 q23.2 (by rw [List.length_append, List.length_singleton]; omega) (lg v) 0 (by omega)
theorem z9_sayOp (hS : SK σ) (hW : TXm σ W) {o : Int32} (ho : OPD o) (hl : W.length + 11 ≤ 60000) : CT g mX9_sayOperand 2 0 0 [.ref 58, .int (opn o), .int (opv o)] σ (TwQ σ (W ++ opT o)) := by
  rcases ho with ⟨v, h1, rfl⟩ | ⟨v, h1, rfl⟩ | ⟨v, h1, rfl⟩
  · rw [(opn_n h1).1, (opn_n h1).2]
    have eo := opT_nat h1
    rw [eo]
    refine CT.of (by decide) (Nat.le_of_ble_eq_true rfl) ?_
    refine q_iload_n dX9_sayOperand_0 rfl rfl ?_
    refine q_if_ge1 (tgt := 10) dX9_sayOperand_1 (by decide) (by decide) ?_
    refine q_aload_n dX9_sayOperand_4 rfl rfl rfl ?_
    refine q_iload_n dX9_sayOperand_5 rfl rfl ?_
    refine q_callV (As := [.int (nI v)]) (rest := []) dX9_sayOperand_6 vX9_420 (ty_c hS (by decide) rfl) ⟨by decide, rfl⟩ (z9_num hS hW (n := v) (by omega) (by omega)) rfl rfl (Nat.le_of_ble_eq_true rfl) (by omega) (by omega) (by omega) (k_v (fun s6 q6 => ?_))
    refine q_return dX9_sayOperand_9 rfl (by omega) (by omega) ?_
    exact ⟨rfl, q6⟩
  · rw [(opn_m h1).1, (opn_m h1).2]
    by_cases h0 : v = 0
    · subst h0
      rw [neg_0, opT_nat (by omega)]
      refine CT.of (by decide) (Nat.le_of_ble_eq_true rfl) ?_
      refine q_iload_n dX9_sayOperand_0 rfl rfl ?_
      refine q_if_ge1 (tgt := 10) dX9_sayOperand_1 (by decide) (by decide) ?_
      refine q_aload_n dX9_sayOperand_4 rfl rfl rfl ?_
      refine q_iload_n dX9_sayOperand_5 rfl rfl ?_
      refine q_callV (As := [.int (nI 0)]) (rest := []) dX9_sayOperand_6 vX9_420 (ty_c hS (by decide) rfl) ⟨by decide, rfl⟩ (z9_num hS hW (n := 0) (by omega) (by omega)) rfl rfl (Nat.le_of_ble_eq_true rfl) (by omega) (by omega) (by omega) (k_v (fun s6 q6 => ?_))
      refine q_return dX9_sayOperand_9 rfl (by omega) (by omega) ?_
      exact ⟨rfl, q6⟩
    · have eo := opT_neg h1 (by omega : 0 < v)
      rw [eo]
      refine CT.of (by decide) (Nat.le_of_ble_eq_true rfl) ?_
      refine q_iload_n dX9_sayOperand_0 rfl rfl ?_
      refine q_if_ge1 (tgt := 10) dX9_sayOperand_1 (by decide) (by decide) ?_
      refine q_aload_n dX9_sayOperand_4 rfl rfl rfl ?_
      refine q_iload_n dX9_sayOperand_5 rfl rfl ?_
      refine q_callV (As := [.int (-(nI v))]) (rest := []) dX9_sayOperand_6 vX9_420 (ty_c hS (by decide) rfl) ⟨by decide, rfl⟩ (z9_numM hS hW h1 (by omega) (by omega)) rfl rfl (Nat.le_of_ble_eq_true rfl) (by omega) (by omega) (by omega) (k_v (fun s6 q6 => ?_))
      refine q_return dX9_sayOperand_9 rfl (by omega) (by omega) ?_
      exact ⟨rfl, q6⟩
  · rw [(opn_nm (by omega)).1, (opn_nm (by omega)).2]
    by_cases h : 16 ≤ v
    · have eo := opT_t h h1
      have eW : W ++ (116 :: numT (v - 16)) = (W ++ [116]) ++ numT (v - 16) := by rw [List.append_assoc]; rfl
      rw [eo, eW]
      refine CT.of (by decide) (Nat.le_of_ble_eq_true rfl) ?_
      refine q_iload_n dX9_sayOperand_0 rfl rfl ?_
      refine q_if_geN (tgt := 10) dX9_sayOperand_1 (by decide) (by omega) ?_
      refine q_aload_n dX9_sayOperand_10 rfl rfl rfl ?_
      refine q_iload_n dX9_sayOperand_11 rfl rfl ?_
      refine q_bipush (v := nI 16) dX9_sayOperand_12 rfl ?_
      refine q_icmp_geN (tgt := 22) dX9_sayOperand_14 (by decide) (by omega) (by omega) (fun c14 => ?_) (fun c14 => ?_)
      · skip
        refine q_bipush (v := nI 116) dX9_sayOperand_22 rfl ?_
        refine q_callV (As := [.int (nI 116)]) (rest := []) dX9_sayOperand_24 vX9_415 (ty_c hS (by decide) rfl) ⟨by decide, rfl⟩ (z9_say hS hW (c := 116) (by omega)) rfl rfl (Nat.le_of_ble_eq_true rfl) (by omega) (by omega) (by omega) (k_v (fun s24 q24 => ?_))
        have zS24 : SK s24 := (SK.fq q24.1 hS)
        refine q_aload_n dX9_sayOperand_27 rfl rfl rfl ?_
        refine q_iload_n dX9_sayOperand_28 rfl rfl ?_
        refine q_bipush (v := nI 16) dX9_sayOperand_29 rfl ?_
        refine q_icmp_geN (tgt := 38) dX9_sayOperand_31 (by decide) (by omega) (by omega) (fun c31 => ?_) (fun c31 => ?_)
        · skip
          refine q_iload_n dX9_sayOperand_38 rfl rfl ?_
          refine q_bipush (v := nI 16) dX9_sayOperand_39 rfl ?_
          refine q_isubN dX9_sayOperand_41 (by omega) ?_
          refine q_callV (As := [.int (nI (v - 16))]) (rest := []) dX9_sayOperand_42 vX9_420 (ty_c zS24 (by decide) rfl) ⟨by decide, rfl⟩ (z9_num zS24 q24.2 (n := v - 16) (by omega) (by rw [List.length_append, List.length_singleton]; omega)) rfl rfl (Nat.le_of_ble_eq_true rfl) (by omega) (by omega) (by omega) (k_v (fun s42 q42 => ?_))
          refine q_return dX9_sayOperand_45 rfl (by omega) (by omega) ?_
          exact ⟨rfl, q24.1.tr q42.1, q42.2⟩
        · exact absurd c31 (by omega)
      · exact absurd c14 (by omega)
    · have eo := opT_v (v := v) (by omega)
      have eW : W ++ (118 :: numT v) = (W ++ [118]) ++ numT v := by rw [List.append_assoc]; rfl
      rw [eo, eW]
      refine CT.of (by decide) (Nat.le_of_ble_eq_true rfl) ?_
      refine q_iload_n dX9_sayOperand_0 rfl rfl ?_
      refine q_if_geN (tgt := 10) dX9_sayOperand_1 (by decide) (by omega) ?_
      refine q_aload_n dX9_sayOperand_10 rfl rfl rfl ?_
      refine q_iload_n dX9_sayOperand_11 rfl rfl ?_
      refine q_bipush (v := nI 16) dX9_sayOperand_12 rfl ?_
      refine q_icmp_geN (tgt := 22) dX9_sayOperand_14 (by decide) (by omega) (by omega) (fun c14 => ?_) (fun c14 => ?_)
      · exact absurd c14 (by omega)
      · skip
        refine q_bipush (v := nI 118) dX9_sayOperand_17 rfl ?_
        refine q_goto (tgt := 24) dX9_sayOperand_19 (by decide) ?_
        refine q_callV (As := [.int (nI 118)]) (rest := []) dX9_sayOperand_24 vX9_415 (ty_c hS (by decide) rfl) ⟨by decide, rfl⟩ (z9_say hS hW (c := 118) (by omega)) rfl rfl (Nat.le_of_ble_eq_true rfl) (by omega) (by omega) (by omega) (k_v (fun s24 q24 => ?_))
        have zS24 : SK s24 := (SK.fq q24.1 hS)
        refine q_aload_n dX9_sayOperand_27 rfl rfl rfl ?_
        refine q_iload_n dX9_sayOperand_28 rfl rfl ?_
        refine q_bipush (v := nI 16) dX9_sayOperand_29 rfl ?_
        refine q_icmp_geN (tgt := 38) dX9_sayOperand_31 (by decide) (by omega) (by omega) (fun c31 => ?_) (fun c31 => ?_)
        · exact absurd c31 (by omega)
        · skip
          refine q_iload_n dX9_sayOperand_34 rfl rfl ?_
          refine q_goto (tgt := 42) dX9_sayOperand_35 (by decide) ?_
          refine q_callV (As := [.int (nI v)]) (rest := []) dX9_sayOperand_42 vX9_420 (ty_c zS24 (by decide) rfl) ⟨by decide, rfl⟩ (z9_num zS24 q24.2 (n := v) (by omega) (by rw [List.length_append, List.length_singleton]; omega)) rfl rfl (Nat.le_of_ble_eq_true rfl) (by omega) (by omega) (by omega) (k_v (fun s42 q42 => ?_))
          refine q_return dX9_sayOperand_45 rfl (by omega) (by omega) ?_
          exact ⟨rfl, q24.1.tr q42.1, q42.2⟩
end MSY
