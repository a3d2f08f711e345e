/-! Class Writer: bytes, digits, operands. -/
/-- what was put so far is W; 3000 bytes are kept -/
def BFw (σ : HS) (W : List Nat) : Prop := sI σ 55 2 = nI (min W.length 3000) ∧ sI σ 55 3 = bi (decide (3000 < W.length)) ∧ (∀ i, i < min W.length 3000 → sI σ 56 i = nI (W.getD i 0)) ∧ ∀ c ∈ W, c < 128
def WPQ (σ : HS) (W : List Nat) : Option Value → HS → Prop := fun r σ' => r = none ∧ Fr [55, 56] σ σ' ∧ BFw σ' W
theorem by_8 {c : Nat} (hc : c < 128) : (nI c).toInt8.toInt32 = nI c := by
  have : ∀ c : Fin 128, (nI c.val).toInt8.toInt32 = nI c.val := by decide +kernel
  exact this ⟨c, hc⟩
theorem gd_ap2 {W X : List Nat} {i : Nat} : (W ++ X).getD i 0 = if i < W.length then W.getD i 0 else X.getD (i - W.length) 0 := by
  by_cases h : i < W.length
  · rw [if_pos h, List.getD_eq_getElem?_getD, List.getD_eq_getElem?_getD, List.getElem?_append_left h]
  · rw [if_neg h, List.getD_eq_getElem?_getD, List.getD_eq_getElem?_getD, List.getElem?_append_right (by omega)]
/-- string j -/
def stX (j : Nat) : List Nat := (List.range (stLen.getD j 0)).map (stC j)
def lgN : Nat → Nat → Nat
  | 0, _ => 0
  | f + 1, n => if n ≤ 9 then 0 else lgN f (n / 10) + 1
def lg (n : Nat) : Nat := lgN 10 n
def dk (n : Nat) : Nat → List Nat
  | 0 => [48 + n / 1 % 10]
  | k + 1 => (48 + n / 10 ^ (k + 1) % 10) :: dk n k
def numT (n : Nat) : List Nat := dk n (lg n)
theorem lgN_ok : ∀ (f n : Nat), n < 10 ^ (f + 1) → lgN f n ≤ f ∧ n / 10 ^ lgN f n ≤ 9 ∧ ∀ k, k < lgN f n → 9 < n / 10 ^ k
  | 0, n, h => ⟨Nat.le_refl _, by show n / 1 ≤ 9; omega, fun k hk => absurd hk (Nat.not_lt_zero k)⟩
  | f + 1, n, h => by
    unfold lgN
    by_cases e : n ≤ 9
    · rw [if_pos e]; exact ⟨by omega, by show n / 1 ≤ 9; omega, fun k hk => absurd hk (Nat.not_lt_zero k)⟩
    · rw [if_neg e]
      obtain ⟨a, b, c⟩ := lgN_ok f (n / 10) (Nat.div_lt_of_lt_mul (by rw [← Nat.pow_succ'] ; exact h))
      refine ⟨by omega, ?_, fun k hk => ?_⟩
      · rw [Nat.pow_succ', ← Nat.div_div_eq_div_mul]; exact b
      · cases k with
        | zero => show 9 < n / 1; omega
        | succ k => rw [Nat.pow_succ', ← Nat.div_div_eq_div_mul]; exact c k (by omega)
theorem lg_ok {n : Nat} (h : n < 2147483648) : lg n ≤ 9 ∧ n / 10 ^ lg n ≤ 9 ∧ ∀ k, k < lg n → 9 < n / 10 ^ k := by
  obtain ⟨a, b, c⟩ := lgN_ok 10 n (by omega)
  refine ⟨?_, b, c⟩
  by_cases e : lg n ≤ 9
  · exact e
  · have := c 9 (by unfold lg at e; omega)
    omega
theorem nI_divN {a b : Nat} (ha : a < 2147483648) (hb : b < 2147483648) : nI a / nI b = nI (a / b) := by
  apply Int32.toInt_inj.mp
  have hd : a / b < 2147483648 := Nat.lt_of_le_of_lt (Nat.div_le_self a b) ha
  rw [Int32.toInt_div, nI_toInt ha, nI_toInt hb, nI_toInt hd]
  have e : ((a : Int).tdiv (b : Int)) = ((a / b : Nat) : Int) := by rw [Int.ofNat_tdiv]
  have h0 : (0 : Int) ≤ ((a / b : Nat) : Int) := Int.natCast_nonneg _
  have h3 : ((a / b : Nat) : Int) < 2147483648 := Int.ofNat_lt.mpr hd
  rw [e]
  generalize ((a / b : Nat) : Int) = z at h0 h3
  rw [Int.bmod_def]
  split <;> omega
theorem nI_mul (a b : Nat) : nI a * nI b = nI (a * b) := (Int32.ofNat_mul a b).symm
theorem nI_remN {a b : Nat} (ha : a < 2147483648) (hb : b < 2147483648) : nI a - nI a / nI b * nI b = nI (a % b) := by
  have h := Nat.div_add_mod a b
  rw [nI_divN ha hb, nI_mul, nI_subN (by rw [Nat.mul_comm] at h; omega)]
  congr 1
  rw [Nat.mul_comm] at h; omega
section PUT
variable {g : GG} {σ : HS}
theorem z7_put (hS : SK σ) {W : List Nat} (hW : BFw σ W) {c : Nat} (hc : c < 128) : CT g mX7_put 0 0 0 [.ref 55, .int (nI c)] σ (WPQ σ (W ++ [c])) := by
  obtain ⟨w1, w2, w3, w4⟩ := hW
  have hl : (W ++ [c]).length = W.length + 1 := by rw [List.length_append]; rfl
  have h4 : ∀ x ∈ W ++ [c], x < 128 := fun x hx => by
    rcases List.mem_append.mp hx with h | h
    · exact w4 x h
    · rw [List.mem_singleton.mp h]; exact hc
  by_cases h : W.length < 3000
  · have e1 : min W.length 3000 = W.length := by omega
    rw [e1] at w1 w3
    refine CT.of (by decide) (Nat.le_of_ble_eq_true rfl) ?_
    refine q_aload_n dX7_put_0 rfl rfl rfl ?_
    refine q_geti (x := nI W.length) dX7_put_1 fX7_19 rfl (ty_c hS (by decide) rfl) w1 ?_
    refine q_aload_n dX7_put_4 rfl rfl rfl ?_
    refine q_getr (r := 56) dX7_put_5 fX7_9 rfl (ty_c hS (by decide) rfl) (hS.2 55 0 56 rfl) ?_
    refine q_alen (x := nI 3000) dX7_put_8 (ty_c hS (by decide) rfl) (by decide) rfl ?_
    refine q_icmp_ltN (tgt := 18) dX7_put_9 (by decide) (by omega) (by omega) (fun c9 => ?_) (fun c9 => ?_)
    · skip
      refine q_aload_n dX7_put_18 rfl rfl rfl ?_
      refine q_getr (r := 56) dX7_put_19 fX7_9 rfl (ty_c hS (by decide) rfl) (hS.2 55 0 56 rfl) ?_
      refine q_aload_n dX7_put_22 rfl rfl rfl ?_
      refine q_dup dX7_put_23 rfl ?_
      refine q_geti (x := nI W.length) dX7_put_24 fX7_19 rfl (ty_c hS (by decide) rfl) w1 ?_
      refine q_dup_x1 dX7_put_27 rfl rfl ?_
      refine q_iconst (v := nI 1) dX7_put_28 rfl ?_
      refine q_iaddN dX7_put_29 ?_
      refine q_puti dX7_put_30 fX7_19 rfl (Or.inl rfl) (ty_c hS (by decide) rfl) ?_
      refine q_iload_n dX7_put_33 rfl rfl ?_
      refine q_i2b (v := nI c) dX7_put_34 (by_8 hc) ?_
      refine q_bast (j := W.length) (y := nI c) dX7_put_35 (ty_c hS (by decide) rfl) (ix_n (by omega) (by omega)) (by_8 hc) ?_
      refine q_return dX7_put_36 rfl (by omega) (by omega) ?_
      refine ⟨rfl, (Fr.rf.uI (by decide)).uI (by decide), ?_, ?_, fun i hi => ?_, h4⟩
      · rw [sI_uI, if_neg (by omega), uI_self, hl, show min (W.length + 1) 3000 = W.length + 1 by omega]
      · rw [sI_uI, if_neg (by omega), sI_uI, if_neg (by omega), w2, hl]
        rw [decide_eq_false (show ¬ 3000 < W.length by omega), decide_eq_false (show ¬ 3000 < W.length + 1 by omega)]
      · rw [hl] at hi
        rw [gd_ap2]
        by_cases e : i < W.length
        · rw [if_pos e, sI_uI, if_neg (by omega), sI_uI, if_neg (by omega)]; exact w3 i e
        · rw [if_neg e, show i = W.length by omega, uI_self, Nat.sub_self]; rfl
    · exact absurd c9 (by omega)
  · have e1 : min W.length 3000 = 3000 := by omega
    rw [e1] at w1 w3
    refine CT.of (by decide) (Nat.le_of_ble_eq_true rfl) ?_
    refine q_aload_n dX7_put_0 rfl rfl rfl ?_
    refine q_geti (x := nI 3000) dX7_put_1 fX7_19 rfl (ty_c hS (by decide) rfl) w1 ?_
    refine q_aload_n dX7_put_4 rfl rfl rfl ?_
    refine q_getr (r := 56) dX7_put_5 fX7_9 rfl (ty_c hS (by decide) rfl) (hS.2 55 0 56 rfl) ?_
    refine q_alen (x := nI 3000) dX7_put_8 (ty_c hS (by decide) rfl) (by decide) rfl ?_
    refine q_icmp_ltN (tgt := 18) dX7_put_9 (by decide) (by omega) (by omega) (fun h => absurd h (by decide)) (fun _ => ?_)
    refine q_aload_n dX7_put_12 rfl rfl rfl ?_
    refine q_iconst (v := nI 1) dX7_put_13 rfl ?_
    refine q_putz dX7_put_14 fX7_23 rfl (Or.inl rfl) (ty_c hS (by decide) rfl) (Or.inr rfl) ?_
    refine q_return dX7_put_17 rfl (by omega) (by omega) ?_
    refine ⟨rfl, Fr.rf.uI (by decide), ?_, ?_, fun i hi => ?_, h4⟩
    · rw [sI_uI, if_neg (by omega), hl, show min (W.length + 1) 3000 = 3000 by omega]; exact w1
    · rw [uI_self, hl, decide_eq_true (show 3000 < W.length + 1 by omega)]; rfl
    · rw [hl] at hi
      rw [gd_ap2, if_pos (by omega), sI_uI, if_neg (by omega)]; exact w3 i (by omega)
theorem y7_text {σ0 : HS} (hS0 : SK σ0) {b b2 : UInt64} {j : Nat} (hb : b.toNat = j) (hj : j < 17) (hb2 : b2.toNat = 100 + j) : ∀ (k i : Nat) (W : List Nat) (σ : HS), i + k = stLen.getD j 0 → Fr [55, 56] σ0 σ → BFw σ W → WA g mX7_putText 5 0 0 (ZM g (WPQ σ0 (W ++ ((List.range k).map (fun x => stC j (i + x))))) 0 0) 0 0 2 [(0, .ref 55), (1, .double b), (2, .int (nI i))] [] σ := by
  have hl6 := (st_all j hj).2.1
  intro k
  induction k with
  | zero =>
    intro i W σ hi h1 h2
    have hS := SK.fr h1 hS0
    refine q_iload_n dX7_putText_2 rfl rfl ?_
    refine q_aload_n dX7_putText_3 rfl rfl rfl ?_
    refine q_callVT (As := []) (rest := [.int (nI i)]) dX7_putText_4 vX7_171 rfl hb hj (zJ_length (j := j) hb hj hb2) rfl rfl (Nat.le_of_ble_eq_true rfl) (by omega) (by omega) (by omega) (k_p ?_)
    refine q_icmp_geN (tgt := 25) dX7_putText_7 (by decide) (by omega) (by omega) (fun c7 => ?_) (fun c7 => ?_)
    · skip
      refine q_return dX7_putText_25 rfl (by omega) (by omega) ?_
      exact ⟨rfl, h1, by rw [show List.map (fun x => stC j (i + x)) (List.range 0) = [] from rfl, List.append_nil]; exact h2⟩
    · exact absurd c7 (by omega)
  | succ k ih =>
    intro i W σ hi h1 h2
    have hS := SK.fr h1 hS0
    have hc := (stC_is hj (q := i) (by omega)).2
    have e : W ++ (List.range (k + 1)).map (fun x => stC j (i + x)) = (W ++ [stC j i]) ++ (List.range k).map (fun x => stC j (i + 1 + x)) := by
      rw [List.range_succ_eq_map, List.map_cons, List.map_map, List.append_assoc]
      congr 2
      apply List.map_congr_left
      intro x _
      show stC j (i + (x + 1)) = _
      congr 1; omega
    rw [e]
    refine q_iload_n dX7_putText_2 rfl rfl ?_
    refine q_aload_n dX7_putText_3 rfl rfl rfl ?_
    refine q_callVT (As := []) (rest := [.int (nI i)]) dX7_putText_4 vX7_171 rfl hb hj (zJ_length (j := j) hb hj hb2) rfl rfl (Nat.le_of_ble_eq_true rfl) (by omega) (by omega) (by omega) (k_p ?_)
    refine q_icmp_geN (tgt := 25) dX7_putText_7 (by decide) (by omega) (by omega) (fun c7 => ?_) (fun c7 => ?_)
    · exact absurd c7 (by omega)
    · skip
      refine q_aload_n dX7_putText_10 rfl rfl rfl ?_
      refine q_aload_n dX7_putText_11 rfl rfl rfl ?_
      refine q_iload_n dX7_putText_12 rfl rfl ?_
      refine q_callVT (As := [.int (nI i)]) (rest := [.ref 55]) dX7_putText_13 vX7_176 rfl hb hj (zJ_charAt (j := j) hb hj hb2 (by omega)) rfl rfl (Nat.le_of_ble_eq_true rfl) (by omega) (by omega) (by omega) (k_p ?_)
      refine q_callV (As := [.int (nI (stC j i))]) (rest := []) dX7_putText_16 vX7_138 (ty_c hS (by decide) rfl) ⟨by decide, rfl⟩ (z7_put hS h2 (by omega)) rfl rfl (Nat.le_of_ble_eq_true rfl) (by omega) (by omega) (by omega) (k_v (fun s16 q16 => ?_))
      have h3 := h1.tr q16.1 (fun _ h => h)
      have hS2 := SK.fr h3 hS0
      refine q_iincN (c := 1) dX7_putText_19 rfl (by decide) rfl (ls' := [(2, .int (nI (i + 1))), (0, .ref 55), (1, .double b)]) rfl ?_
      refine q_goto (tgt := 2) dX7_putText_22 (by decide) ?_
      refine q_pk [1, 2, 0] (ls' := [(0, .ref 55), (1, .double b), (2, .int (nI (i + 1)))]) rfl ?_
      exact ih (i + 1) _ _ (by omega) h3 q16.2
theorem z7_text (hS : SK σ) {W : List Nat} (hW : BFw σ W) {b b2 : UInt64} {j : Nat} (hb : b.toNat = j) (hj : j < 17) (hb2 : b2.toNat = 100 + j) : CT g mX7_putText 5 0 0 [.ref 55, .double b] σ (WPQ σ (W ++ stX j)) := by
  have e : stX j = (List.range (stLen.getD j 0)).map (fun x => stC j (0 + x)) := by
    unfold stX
    apply List.map_congr_left
    intro x _
    rw [Nat.zero_add]
  rw [e]
  refine CT.of (by decide) (Nat.le_of_ble_eq_true rfl) ?_
  refine q_iconst (v := nI 0) dX7_putText_0 rfl ?_
  refine q_istore_n dX7_putText_1 rfl (by decide) (ls' := [(2, .int (nI 0)), (0, .ref 55), (1, .double b)]) rfl ?_
  refine q_pk [1, 2, 0] (ls' := [(0, .ref 55), (1, .double b), (2, .int (nI 0))]) rfl ?_
  exact y7_text hS hb hj hb2 _ 0 W _ (by omega) Fr.rf hW
end PUT
