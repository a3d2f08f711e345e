/-! The model: rows, SUMS, what is set ahead. -/
theorem sx6 : stX 6 = [58, 10] := by decide
theorem sx7 : stX 7 = [32, 32] := by decide
theorem sx8 : stX 8 = [32, 61, 32] := by decide
theorem sx9 : stX 9 = [32, 91, 32] := by decide
theorem sx10 : stX 10 = [32, 93] := by decide
theorem sx11 : stX 11 = [59, 10] := by decide
theorem sx12 : stX 12 = [116, 101, 108, 108, 32] := by decide
theorem sx13 : stX 13 = [105, 102, 32] := by decide
theorem sx14 : stX 14 = [32, 60, 32] := by decide
theorem sx15 : stX 15 = [108, 101, 97, 118, 101] := by decide
theorem sx16 : stX 16 = [103, 111, 32] := by decide
theorem SMm.tx {σ σ' : HS} {s : Nat} {x : SUM} (f : FR9 txq σ σ') (k : SMm σ s x) : SMm σ' s x := k.mv fun a h1 h2 => f.2.2.2 a s fun z => by unfold txq at z; omega
theorem MR.tx {σ σ' : HS} {i : Nat} {q : PS} (hk : MOK q) (f : FR9 txq σ σ') (h : MR σ i q) : MR σ' i q := h.fq hk.1 hk.2.1 f fun a j z => by unfold txq at z; unfold cpq; omega
section MSD
variable {g : GG} {σ : HS} {q : PS} {i : Nat} {W : List Nat}
theorem z9_begin (hS : SK σ) (hW : TXm σ W) (hl : W.length + ((stX 7)).length + 11 ≤ 60000) : CT g mX9_begin 1 0 0 [.ref 58] σ (TwQ σ (W ++ (stX 7))) := by
  have hL := hl
  try simp only [sx6, sx7, sx8, sx9, sx10, sx11, sx12, sx13, sx14, sx15, sx16, List.length_append, List.length_cons, List.length_nil] at hL
  refine CT.of (by decide) (Nat.le_of_ble_eq_true rfl) ?_
  refine q_aload_n dX9_begin_0 rfl rfl rfl ?_
  refine q_bipush (v := nI 32) dX9_begin_1 rfl ?_
  refine q_callV (As := [.int (nI 32)]) (rest := []) dX9_begin_3 vX9_415 (ty_c hS (by decide) rfl) ⟨by decide, rfl⟩ (z9_say hS hW (c := 32) (by first | omega | (simp only [sx6, sx7, sx8, sx9, sx10, sx11, sx12, sx13, sx14, sx15, sx16, List.length_append, List.length_cons, List.length_nil]; omega))) rfl rfl (Nat.le_of_ble_eq_true rfl) (by omega) (by omega) (by omega) (k_v (fun s3 q3 => ?_))
  have f3 := (FR9.rf).tr q3.1
  have zS3 : SK s3 := (SK.fq f3 hS)
  refine q_aload_n dX9_begin_6 rfl rfl rfl ?_
  refine q_bipush (v := nI 32) dX9_begin_7 rfl ?_
  refine q_callV (As := [.int (nI 32)]) (rest := []) dX9_begin_9 vX9_415 (ty_c zS3 (by decide) rfl) ⟨by decide, rfl⟩ (z9_say zS3 q3.2 (c := 32) (by first | omega | (simp only [sx6, sx7, sx8, sx9, sx10, sx11, sx12, sx13, sx14, sx15, sx16, List.length_append, List.length_cons, List.length_nil]; omega))) rfl rfl (Nat.le_of_ble_eq_true rfl) (by omega) (by omega) (by omega) (k_v (fun s9 q9 => ?_))
  have f9 := (f3).tr q9.1
  have zS9 : SK s9 := (SK.fq f9 hS)
  refine q_return dX9_begin_12 rfl (by omega) (by omega) ?_
  exact ⟨rfl, f9, by simpa only [sx6, sx7, sx8, sx9, sx10, sx11, sx12, sx13, sx14, sx15, sx16, List.append_assoc, List.cons_append, List.nil_append, List.singleton_append] using q9.2⟩
theorem z9_close (hS : SK σ) (hW : TXm σ W) (hl : W.length + ((stX 11)).length + 11 ≤ 60000) : CT g mX9_close 1 0 0 [.ref 58] σ (TwQ σ (W ++ (stX 11))) := by
  have hL := hl
  try simp only [sx6, sx7, sx8, sx9, sx10, sx11, sx12, sx13, sx14, sx15, sx16, List.length_append, List.length_cons, List.length_nil] at hL
  refine CT.of (by decide) (Nat.le_of_ble_eq_true rfl) ?_
  refine q_aload_n dX9_close_0 rfl rfl rfl ?_
  refine q_bipush (v := nI 59) dX9_close_1 rfl ?_
  refine q_callV (As := [.int (nI 59)]) (rest := []) dX9_close_3 vX9_415 (ty_c hS (by decide) rfl) ⟨by decide, rfl⟩ (z9_say hS hW (c := 59) (by first | omega | (simp only [sx6, sx7, sx8, sx9, sx10, sx11, sx12, sx13, sx14, sx15, sx16, List.length_append, List.length_cons, List.length_nil]; omega))) rfl rfl (Nat.le_of_ble_eq_true rfl) (by omega) (by omega) (by omega) (k_v (fun s3 q3 => ?_))
  have f3 := (FR9.rf).tr q3.1
  have zS3 : SK s3 := (SK.fq f3 hS)
  refine q_aload_n dX9_close_6 rfl rfl rfl ?_
  refine q_bipush (v := nI 10) dX9_close_7 rfl ?_
  refine q_callV (As := [.int (nI 10)]) (rest := []) dX9_close_9 vX9_415 (ty_c zS3 (by decide) rfl) ⟨by decide, rfl⟩ (z9_say zS3 q3.2 (c := 10) (by first | omega | (simp only [sx6, sx7, sx8, sx9, sx10, sx11, sx12, sx13, sx14, sx15, sx16, List.length_append, List.length_cons, List.length_nil]; omega))) rfl rfl (Nat.le_of_ble_eq_true rfl) (by omega) (by omega) (by omega) (k_v (fun s9 q9 => ?_))
  have f9 := (f3).tr q9.1
  have zS9 : SK s9 := (SK.fq f9 hS)
  refine q_return dX9_close_12 rfl (by omega) (by omega) ?_
  exact ⟨rfl, f9, by simpa only [sx6, sx7, sx8, sx9, sx10, sx11, sx12, sx13, sx14, sx15, sx16, List.append_assoc, List.cons_append, List.nil_append, List.singleton_append] using q9.2⟩
theorem z9_isT (hS : SK σ) (hW : TXm σ W) (hl : W.length + ((stX 8)).length + 11 ≤ 60000) : CT g mX9_is_ 1 0 0 [.ref 58] σ (TwQ σ (W ++ (stX 8))) := by
  have hL := hl
  try simp only [sx6, sx7, sx8, sx9, sx10, sx11, sx12, sx13, sx14, sx15, sx16, List.length_append, List.length_cons, List.length_nil] at hL
  refine CT.of (by decide) (Nat.le_of_ble_eq_true rfl) ?_
  refine q_aload_n dX9_is__0 rfl rfl rfl ?_
  refine q_bipush (v := nI 32) dX9_is__1 rfl ?_
  refine q_callV (As := [.int (nI 32)]) (rest := []) dX9_is__3 vX9_415 (ty_c hS (by decide) rfl) ⟨by decide, rfl⟩ (z9_say hS hW (c := 32) (by first | omega | (simp only [sx6, sx7, sx8, sx9, sx10, sx11, sx12, sx13, sx14, sx15, sx16, List.length_append, List.length_cons, List.length_nil]; omega))) rfl rfl (Nat.le_of_ble_eq_true rfl) (by omega) (by omega) (by omega) (k_v (fun s3 q3 => ?_))
  have f3 := (FR9.rf).tr q3.1
  have zS3 : SK s3 := (SK.fq f3 hS)
  refine q_aload_n dX9_is__6 rfl rfl rfl ?_
  refine q_bipush (v := nI 61) dX9_is__7 rfl ?_
  refine q_callV (As := [.int (nI 61)]) (rest := []) dX9_is__9 vX9_415 (ty_c zS3 (by decide) rfl) ⟨by decide, rfl⟩ (z9_say zS3 q3.2 (c := 61) (by first | omega | (simp only [sx6, sx7, sx8, sx9, sx10, sx11, sx12, sx13, sx14, sx15, sx16, List.length_append, List.length_cons, List.length_nil]; omega))) rfl rfl (Nat.le_of_ble_eq_true rfl) (by omega) (by omega) (by omega) (k_v (fun s9 q9 => ?_))
  have f9 := (f3).tr q9.1
  have zS9 : SK s9 := (SK.fq f9 hS)
  refine q_aload_n dX9_is__12 rfl rfl rfl ?_
  refine q_bipush (v := nI 32) dX9_is__13 rfl ?_
  refine q_callV (As := [.int (nI 32)]) (rest := []) dX9_is__15 vX9_415 (ty_c zS9 (by decide) rfl) ⟨by decide, rfl⟩ (z9_say zS9 q9.2 (c := 32) (by first | omega | (simp only [sx6, sx7, sx8, sx9, sx10, sx11, sx12, sx13, sx14, sx15, sx16, List.length_append, List.length_cons, List.length_nil]; omega))) rfl rfl (Nat.le_of_ble_eq_true rfl) (by omega) (by omega) (by omega) (k_v (fun s15 q15 => ?_))
  have f15 := (f9).tr q15.1
  have zS15 : SK s15 := (SK.fq f15 hS)
  refine q_return dX9_is__18 rfl (by omega) (by omega) ?_
  exact ⟨rfl, f15, by simpa only [sx6, sx7, sx8, sx9, sx10, sx11, sx12, sx13, sx14, sx15, sx16, List.append_assoc, List.cons_append, List.nil_append, List.singleton_append] using q15.2⟩
theorem z9_sayBlock (hS : SK σ) (hW : TXm σ W) {b : Nat} (hb : b < 2147483648) (hl : W.length + ((98 :: numT b)).length + 11 ≤ 60000) : CT g mX9_sayBlock 2 0 0 [.ref 58, .int (nI b)] σ (TwQ σ (W ++ (98 :: numT b))) := by
  have hL := hl
  try simp only [sx6, sx7, sx8, sx9, sx10, sx11, sx12, sx13, sx14, sx15, sx16, List.length_append, List.length_cons, List.length_nil] at hL
  refine CT.of (by decide) (Nat.le_of_ble_eq_true rfl) ?_
  refine q_aload_n dX9_sayBlock_0 rfl rfl rfl ?_
  refine q_bipush (v := nI 98) dX9_sayBlock_1 rfl ?_
  refine q_callV (As := [.int (nI 98)]) (rest := []) dX9_sayBlock_3 vX9_415 (ty_c hS (by decide) rfl) ⟨by decide, rfl⟩ (z9_say hS hW (c := 98) (by first | omega | (simp only [sx6, sx7, sx8, sx9, sx10, sx11, sx12, sx13, sx14, sx15, sx16, List.length_append, List.length_cons, List.length_nil]; omega))) rfl rfl (Nat.le_of_ble_eq_true rfl) (by omega) (by omega) (by omega) (k_v (fun s3 q3 => ?_))
  have f3 := (FR9.rf).tr q3.1
  have zS3 : SK s3 := (SK.fq f3 hS)
  refine q_aload_n dX9_sayBlock_6 rfl rfl rfl ?_
  refine q_iload_n dX9_sayBlock_7 rfl rfl ?_
  refine q_callV (As := [.int (nI b)]) (rest := []) dX9_sayBlock_8 vX9_420 (ty_c zS3 (by decide) rfl) ⟨by decide, rfl⟩ (z9_num zS3 q3.2 (n := b) (by omega) (by first | omega | (simp only [sx6, sx7, sx8, sx9, sx10, sx11, sx12, sx13, sx14, sx15, sx16, List.length_append, List.length_cons, List.length_nil]; omega))) rfl rfl (Nat.le_of_ble_eq_true rfl) (by omega) (by omega) (by omega) (k_v (fun s8 q8 => ?_))
  have f8 := (f3).tr q8.1
  have zS8 : SK s8 := (SK.fq f8 hS)
  refine q_return dX9_sayBlock_11 rfl (by omega) (by omega) ?_
  exact ⟨rfl, f8, by simpa only [sx6, sx7, sx8, sx9, sx10, sx11, sx12, sx13, sx14, sx15, sx16, List.append_assoc, List.cons_append, List.nil_append, List.singleton_append] using q8.2⟩
theorem z9_sayT (hS : SK σ) (hW : TXm σ W) {b : Nat} (hb : b < 2147483648) (hl : W.length + ((116 :: numT b)).length + 11 ≤ 60000) : CT g mX9_sayT 2 0 0 [.ref 58, .int (nI b)] σ (TwQ σ (W ++ (116 :: numT b))) := by
  have hL := hl
  try simp only [sx6, sx7, sx8, sx9, sx10, sx11, sx12, sx13, sx14, sx15, sx16, List.length_append, List.length_cons, List.length_nil] at hL
  refine CT.of (by decide) (Nat.le_of_ble_eq_true rfl) ?_
  refine q_aload_n dX9_sayT_0 rfl rfl rfl ?_
  refine q_bipush (v := nI 116) dX9_sayT_1 rfl ?_
  refine q_callV (As := [.int (nI 116)]) (rest := []) dX9_sayT_3 vX9_415 (ty_c hS (by decide) rfl) ⟨by decide, rfl⟩ (z9_say hS hW (c := 116) (by first | omega | (simp only [sx6, sx7, sx8, sx9, sx10, sx11, sx12, sx13, sx14, sx15, sx16, List.length_append, List.length_cons, List.length_nil]; omega))) rfl rfl (Nat.le_of_ble_eq_true rfl) (by omega) (by omega) (by omega) (k_v (fun s3 q3 => ?_))
  have f3 := (FR9.rf).tr q3.1
  have zS3 : SK s3 := (SK.fq f3 hS)
  refine q_aload_n dX9_sayT_6 rfl rfl rfl ?_
  refine q_iload_n dX9_sayT_7 rfl rfl ?_
  refine q_callV (As := [.int (nI b)]) (rest := []) dX9_sayT_8 vX9_420 (ty_c zS3 (by decide) rfl) ⟨by decide, rfl⟩ (z9_num zS3 q3.2 (n := b) (by omega) (by first | omega | (simp only [sx6, sx7, sx8, sx9, sx10, sx11, sx12, sx13, sx14, sx15, sx16, List.length_append, List.length_cons, List.length_nil]; omega))) rfl rfl (Nat.le_of_ble_eq_true rfl) (by omega) (by omega) (by omega) (k_v (fun s8 q8 => ?_))
  have f8 := (f3).tr q8.1
  have zS8 : SK s8 := (SK.fq f8 hS)
  refine q_return dX9_sayT_11 rfl (by omega) (by omega) ?_
  exact ⟨rfl, f8, by simpa only [sx6, sx7, sx8, sx9, sx10, sx11, sx12, sx13, sx14, sx15, sx16, List.append_assoc, List.cons_append, List.nil_append, List.singleton_append] using q8.2⟩
theorem z9_head (hS : SK σ) (hW : TXm σ W) {b : Nat} (hb : b < 2147483648) (hl : W.length + ((hdT b)).length + 11 ≤ 60000) : CT g mX9_head 3 0 0 [.ref 58, .int (nI b)] σ (TwQ σ (W ++ (hdT b))) := by
  unfold hdT at hl ⊢
  have hL := hl
  try simp only [sx6, sx7, sx8, sx9, sx10, sx11, sx12, sx13, sx14, sx15, sx16, List.length_append, List.length_cons, List.length_nil] at hL
  refine CT.of (by decide) (Nat.le_of_ble_eq_true rfl) ?_
  refine q_aload_n dX9_head_0 rfl rfl rfl ?_
  refine q_iload_n dX9_head_1 rfl rfl ?_
  refine q_callV (As := [.int (nI b)]) (rest := []) dX9_head_2 vX9_429 (ty_c hS (by decide) rfl) ⟨by decide, rfl⟩ (z9_sayBlock hS hW hb (by first | omega | (simp only [sx6, sx7, sx8, sx9, sx10, sx11, sx12, sx13, sx14, sx15, sx16, List.length_append, List.length_cons, List.length_nil]; omega))) rfl rfl (Nat.le_of_ble_eq_true rfl) (by omega) (by omega) (by omega) (k_v (fun s2 q2 => ?_))
  have f2 := (FR9.rf).tr q2.1
  have zS2 : SK s2 := (SK.fq f2 hS)
  refine q_aload_n dX9_head_5 rfl rfl rfl ?_
  refine q_bipush (v := nI 58) dX9_head_6 rfl ?_
  refine q_callV (As := [.int (nI 58)]) (rest := []) dX9_head_8 vX9_415 (ty_c zS2 (by decide) rfl) ⟨by decide, rfl⟩ (z9_say zS2 q2.2 (c := 58) (by first | omega | (simp only [sx6, sx7, sx8, sx9, sx10, sx11, sx12, sx13, sx14, sx15, sx16, List.length_append, List.length_cons, List.length_nil]; omega))) rfl rfl (Nat.le_of_ble_eq_true rfl) (by omega) (by omega) (by omega) (k_v (fun s8 q8 => ?_))
  have f8 := (f2).tr q8.1
  have zS8 : SK s8 := (SK.fq f8 hS)
  refine q_aload_n dX9_head_11 rfl rfl rfl ?_
  refine q_bipush (v := nI 10) dX9_head_12 rfl ?_
  refine q_callV (As := [.int (nI 10)]) (rest := []) dX9_head_14 vX9_415 (ty_c zS8 (by decide) rfl) ⟨by decide, rfl⟩ (z9_say zS8 q8.2 (c := 10) (by first | omega | (simp only [sx6, sx7, sx8, sx9, sx10, sx11, sx12, sx13, sx14, sx15, sx16, List.length_append, List.length_cons, List.length_nil]; omega))) rfl rfl (Nat.le_of_ble_eq_true rfl) (by omega) (by omega) (by omega) (k_v (fun s14 q14 => ?_))
  have f14 := (f8).tr q14.1
  have zS14 : SK s14 := (SK.fq f14 hS)
  refine q_return dX9_head_17 rfl (by omega) (by omega) ?_
  exact ⟨rfl, f14, by simpa only [sx6, sx7, sx8, sx9, sx10, sx11, sx12, sx13, sx14, sx15, sx16, List.append_assoc, List.cons_append, List.nil_append, List.singleton_append] using q14.2⟩
theorem z9_sayGo (hS : SK σ) (hW : TXm σ W) {b : Nat} (hb : b < 2147483648) (hl : W.length + ((stX 16 ++ (98 :: numT b))).length + 11 ≤ 60000) : CT g mX9_sayGo 3 0 0 [.ref 58, .int (nI b)] σ (TwQ σ (W ++ (stX 16 ++ (98 :: numT b)))) := by
  have hL := hl
  try simp only [sx6, sx7, sx8, sx9, sx10, sx11, sx12, sx13, sx14, sx15, sx16, List.length_append, List.length_cons, List.length_nil] at hL
  refine CT.of (by decide) (Nat.le_of_ble_eq_true rfl) ?_
  refine q_aload_n dX9_sayGo_0 rfl rfl rfl ?_
  refine q_bipush (v := nI 103) dX9_sayGo_1 rfl ?_
  refine q_callV (As := [.int (nI 103)]) (rest := []) dX9_sayGo_3 vX9_415 (ty_c hS (by decide) rfl) ⟨by decide, rfl⟩ (z9_say hS hW (c := 103) (by first | omega | (simp only [sx6, sx7, sx8, sx9, sx10, sx11, sx12, sx13, sx14, sx15, sx16, List.length_append, List.length_cons, List.length_nil]; omega))) rfl rfl (Nat.le_of_ble_eq_true rfl) (by omega) (by omega) (by omega) (k_v (fun s3 q3 => ?_))
  have f3 := (FR9.rf).tr q3.1
  have zS3 : SK s3 := (SK.fq f3 hS)
  refine q_aload_n dX9_sayGo_6 rfl rfl rfl ?_
  refine q_bipush (v := nI 111) dX9_sayGo_7 rfl ?_
  refine q_callV (As := [.int (nI 111)]) (rest := []) dX9_sayGo_9 vX9_415 (ty_c zS3 (by decide) rfl) ⟨by decide, rfl⟩ (z9_say zS3 q3.2 (c := 111) (by first | omega | (simp only [sx6, sx7, sx8, sx9, sx10, sx11, sx12, sx13, sx14, sx15, sx16, List.length_append, List.length_cons, List.length_nil]; omega))) rfl rfl (Nat.le_of_ble_eq_true rfl) (by omega) (by omega) (by omega) (k_v (fun s9 q9 => ?_))
  have f9 := (f3).tr q9.1
  have zS9 : SK s9 := (SK.fq f9 hS)
  refine q_aload_n dX9_sayGo_12 rfl rfl rfl ?_
  refine q_bipush (v := nI 32) dX9_sayGo_13 rfl ?_
  refine q_callV (As := [.int (nI 32)]) (rest := []) dX9_sayGo_15 vX9_415 (ty_c zS9 (by decide) rfl) ⟨by decide, rfl⟩ (z9_say zS9 q9.2 (c := 32) (by first | omega | (simp only [sx6, sx7, sx8, sx9, sx10, sx11, sx12, sx13, sx14, sx15, sx16, List.length_append, List.length_cons, List.length_nil]; omega))) rfl rfl (Nat.le_of_ble_eq_true rfl) (by omega) (by omega) (by omega) (k_v (fun s15 q15 => ?_))
  have f15 := (f9).tr q15.1
  have zS15 : SK s15 := (SK.fq f15 hS)
  refine q_aload_n dX9_sayGo_18 rfl rfl rfl ?_
  refine q_iload_n dX9_sayGo_19 rfl rfl ?_
  refine q_callV (As := [.int (nI b)]) (rest := []) dX9_sayGo_20 vX9_429 (ty_c zS15 (by decide) rfl) ⟨by decide, rfl⟩ (z9_sayBlock zS15 q15.2 hb (by first | omega | (simp only [sx6, sx7, sx8, sx9, sx10, sx11, sx12, sx13, sx14, sx15, sx16, List.length_append, List.length_cons, List.length_nil]; omega))) rfl rfl (Nat.le_of_ble_eq_true rfl) (by omega) (by omega) (by omega) (k_v (fun s20 q20 => ?_))
  have f20 := (f15).tr q20.1
  have zS20 : SK s20 := (SK.fq f20 hS)
  refine q_return dX9_sayGo_23 rfl (by omega) (by omega) ?_
  exact ⟨rfl, f20, by simpa only [sx6, sx7, sx8, sx9, sx10, sx11, sx12, sx13, sx14, sx15, sx16, List.append_assoc, List.cons_append, List.nil_append, List.singleton_append] using q20.2⟩
theorem z9_sayRow (hS : SK σ) (hW : TXm σ W) {w : Nat} (hw : w < 2147483648) {o : Int32} (ho : OPD o) (hl : W.length + ((plT w o)).length + 11 ≤ 60000) : CT g mX9_sayRow 3 0 0 [.ref 58, .int (nI w), .int (opn o), .int (opv o)] σ (TwQ σ (W ++ (plT w o))) := by
  unfold plT at hl ⊢
  have hL := hl
  try simp only [sx6, sx7, sx8, sx9, sx10, sx11, sx12, sx13, sx14, sx15, sx16, List.length_append, List.length_cons, List.length_nil] at hL
  refine CT.of (by decide) (Nat.le_of_ble_eq_true rfl) ?_
  refine q_aload_n dX9_sayRow_0 rfl rfl rfl ?_
  refine q_bipush (v := nI 114) dX9_sayRow_1 rfl ?_
  refine q_callV (As := [.int (nI 114)]) (rest := []) dX9_sayRow_3 vX9_415 (ty_c hS (by decide) rfl) ⟨by decide, rfl⟩ (z9_say hS hW (c := 114) (by first | omega | (simp only [sx6, sx7, sx8, sx9, sx10, sx11, sx12, sx13, sx14, sx15, sx16, List.length_append, List.length_cons, List.length_nil]; omega))) rfl rfl (Nat.le_of_ble_eq_true rfl) (by omega) (by omega) (by omega) (k_v (fun s3 q3 => ?_))
  have f3 := (FR9.rf).tr q3.1
  have zS3 : SK s3 := (SK.fq f3 hS)
  refine q_aload_n dX9_sayRow_6 rfl rfl rfl ?_
  refine q_iload_n dX9_sayRow_7 rfl rfl ?_
  refine q_callV (As := [.int (nI w)]) (rest := []) dX9_sayRow_8 vX9_420 (ty_c zS3 (by decide) rfl) ⟨by decide, rfl⟩ (z9_num zS3 q3.2 (n := w) (by omega) (by first | omega | (simp only [sx6, sx7, sx8, sx9, sx10, sx11, sx12, sx13, sx14, sx15, sx16, List.length_append, List.length_cons, List.length_nil]; omega))) rfl rfl (Nat.le_of_ble_eq_true rfl) (by omega) (by omega) (by omega) (k_v (fun s8 q8 => ?_))
  have f8 := (f3).tr q8.1
  have zS8 : SK s8 := (SK.fq f8 hS)
  refine q_aload_n dX9_sayRow_11 rfl rfl rfl ?_
  refine q_bipush (v := nI 32) dX9_sayRow_12 rfl ?_
  refine q_callV (As := [.int (nI 32)]) (rest := []) dX9_sayRow_14 vX9_415 (ty_c zS8 (by decide) rfl) ⟨by decide, rfl⟩ (z9_say zS8 q8.2 (c := 32) (by first | omega | (simp only [sx6, sx7, sx8, sx9, sx10, sx11, sx12, sx13, sx14, sx15, sx16, List.length_append, List.length_cons, List.length_nil]; omega))) rfl rfl (Nat.le_of_ble_eq_true rfl) (by omega) (by omega) (by omega) (k_v (fun s14 q14 => ?_))
  have f14 := (f8).tr q14.1
  have zS14 : SK s14 := (SK.fq f14 hS)
  refine q_aload_n dX9_sayRow_17 rfl rfl rfl ?_
  refine q_bipush (v := nI 91) dX9_sayRow_18 rfl ?_
  refine q_callV (As := [.int (nI 91)]) (rest := []) dX9_sayRow_20 vX9_415 (ty_c zS14 (by decide) rfl) ⟨by decide, rfl⟩ (z9_say zS14 q14.2 (c := 91) (by first | omega | (simp only [sx6, sx7, sx8, sx9, sx10, sx11, sx12, sx13, sx14, sx15, sx16, List.length_append, List.length_cons, List.length_nil]; omega))) rfl rfl (Nat.le_of_ble_eq_true rfl) (by omega) (by omega) (by omega) (k_v (fun s20 q20 => ?_))
  have f20 := (f14).tr q20.1
  have zS20 : SK s20 := (SK.fq f20 hS)
  refine q_aload_n dX9_sayRow_23 rfl rfl rfl ?_
  refine q_bipush (v := nI 32) dX9_sayRow_24 rfl ?_
  refine q_callV (As := [.int (nI 32)]) (rest := []) dX9_sayRow_26 vX9_415 (ty_c zS20 (by decide) rfl) ⟨by decide, rfl⟩ (z9_say zS20 q20.2 (c := 32) (by first | omega | (simp only [sx6, sx7, sx8, sx9, sx10, sx11, sx12, sx13, sx14, sx15, sx16, List.length_append, List.length_cons, List.length_nil]; omega))) rfl rfl (Nat.le_of_ble_eq_true rfl) (by omega) (by omega) (by omega) (k_v (fun s26 q26 => ?_))
  have f26 := (f20).tr q26.1
  have zS26 : SK s26 := (SK.fq f26 hS)
  refine q_aload_n dX9_sayRow_29 rfl rfl rfl ?_
  refine q_iload_n dX9_sayRow_30 rfl rfl ?_
  refine q_iload_n dX9_sayRow_31 rfl rfl ?_
  refine q_callV (As := [.int (opn o), .int (opv o)]) (rest := []) dX9_sayRow_32 vX9_423 (ty_c zS26 (by decide) rfl) ⟨by decide, rfl⟩ (z9_sayOp zS26 q26.2 ho (by first | omega | (simp only [sx6, sx7, sx8, sx9, sx10, sx11, sx12, sx13, sx14, sx15, sx16, List.length_append, List.length_cons, List.length_nil]; omega))) rfl rfl (Nat.le_of_ble_eq_true rfl) (by omega) (by omega) (by omega) (k_v (fun s32 q32 => ?_))
  have f32 := (f26).tr q32.1
  have zS32 : SK s32 := (SK.fq f32 hS)
  refine q_aload_n dX9_sayRow_35 rfl rfl rfl ?_
  refine q_bipush (v := nI 32) dX9_sayRow_36 rfl ?_
  refine q_callV (As := [.int (nI 32)]) (rest := []) dX9_sayRow_38 vX9_415 (ty_c zS32 (by decide) rfl) ⟨by decide, rfl⟩ (z9_say zS32 q32.2 (c := 32) (by first | omega | (simp only [sx6, sx7, sx8, sx9, sx10, sx11, sx12, sx13, sx14, sx15, sx16, List.length_append, List.length_cons, List.length_nil]; omega))) rfl rfl (Nat.le_of_ble_eq_true rfl) (by omega) (by omega) (by omega) (k_v (fun s38 q38 => ?_))
  have f38 := (f32).tr q38.1
  have zS38 : SK s38 := (SK.fq f38 hS)
  refine q_aload_n dX9_sayRow_41 rfl rfl rfl ?_
  refine q_bipush (v := nI 93) dX9_sayRow_42 rfl ?_
  refine q_callV (As := [.int (nI 93)]) (rest := []) dX9_sayRow_44 vX9_415 (ty_c zS38 (by decide) rfl) ⟨by decide, rfl⟩ (z9_say zS38 q38.2 (c := 93) (by first | omega | (simp only [sx6, sx7, sx8, sx9, sx10, sx11, sx12, sx13, sx14, sx15, sx16, List.length_append, List.length_cons, List.length_nil]; omega))) rfl rfl (Nat.le_of_ble_eq_true rfl) (by omega) (by omega) (by omega) (k_v (fun s44 q44 => ?_))
  have f44 := (f38).tr q44.1
  have zS44 : SK s44 := (SK.fq f44 hS)
  refine q_return dX9_sayRow_47 rfl (by omega) (by omega) ?_
  exact ⟨rfl, f44, by simpa only [sx6, sx7, sx8, sx9, sx10, sx11, sx12, sx13, sx14, sx15, sx16, List.append_assoc, List.cons_append, List.nil_append, List.singleton_append] using q44.2⟩
theorem z9_saySum (hS : SK σ) (hW : TXm σ W) {e : Nat} (hi : i < 4) (he : e < 32) {x : SUM} (hm : SMm σ (32 * i + e) x) (hx : SMW x) (hl : W.length + (smT x).length + 11 ≤ 60000) : CT g mX9_saySum 4 0 0 [.ref 58, .int (nI i), .int (nI e)] σ (TwQ σ (W ++ smT x)) := by
  obtain ⟨m1, m2, m3, m4, m5⟩ := id hm
  have od := opv_d hx
  rcases hx with ⟨hc, -, -⟩ | ⟨hc, ⟨w, w1, w2⟩, -⟩
  · have hcn : ∃ c, c < 128 ∧ c ≠ 114 ∧ x.1 = nI c := by rcases hc with h | h | h | h | h | h <;> exact ⟨_, by decide, by decide, h⟩
    obtain ⟨c, c1, c2, c3⟩ := hcn
    have hn : ¬ x.1 = nI 114 := fun z => c2 (nI_inj (by omega) (by omega) (c3.symm.trans z))
    have eT : smT x = opT x.2.1 ++ [32] ++ [c] ++ [32] ++ opT x.2.2 := by unfold smT; rw [if_neg hn, c3, nI_clamp (by omega)]
    have a2 : sAn x = opn x.2.1 := if_neg hn
    have a3 : sAv x = opv x.2.1 := if_neg hn
    rw [eT] at hl ⊢
    have hL := hl
    try simp only [sx6, sx7, sx8, sx9, sx10, sx11, sx12, sx13, sx14, sx15, sx16, List.length_append, List.length_cons, List.length_nil] at hL
    refine CT.of (by decide) (Nat.le_of_ble_eq_true rfl) ?_
    refine q_bipush (v := nI 32) dX9_saySum_0 rfl ?_
    refine q_iload_n dX9_saySum_2 rfl rfl ?_
    refine q_imulN dX9_saySum_3 ?_
    refine q_iload_n dX9_saySum_4 rfl rfl ?_
    refine q_iaddN dX9_saySum_5 ?_
    refine q_istore_n dX9_saySum_6 rfl (by decide) (ls' := [(3, .int (nI ((32 * i) + e))), (0, .ref 58), (1, .int (nI i)), (2, .int (nI e))]) rfl ?_
    refine q_aload_n dX9_saySum_7 rfl rfl rfl ?_
    refine q_getr (r := 78) dX9_saySum_8 fX9_91 rfl (ty_c hS (by decide) rfl) (hS.2 58 26 78 rfl) ?_
    refine q_iload_n dX9_saySum_11 rfl rfl ?_
    refine q_iald (x := nI c) (j := ((32 * i) + e)) dX9_saySum_12 (ty_c hS (by decide) rfl) (ix_n (by omega) (by omega)) (m1.trans c3) ?_
    refine q_bipush (v := nI 114) dX9_saySum_13 rfl ?_
    refine q_icmp_neN (tgt := 41) dX9_saySum_15 (by decide) (by omega) (by omega) (fun c15 => ?_) (fun c15 => ?_)
    · skip
      refine q_aload_n dX9_saySum_41 rfl rfl rfl ?_
      refine q_aload_n dX9_saySum_42 rfl rfl rfl ?_
      refine q_getr (r := 79) dX9_saySum_43 fX9_94 rfl (ty_c hS (by decide) rfl) (hS.2 58 27 79 rfl) ?_
      refine q_iload_n dX9_saySum_46 rfl rfl ?_
      refine q_iald (x := opn x.2.1) (j := ((32 * i) + e)) dX9_saySum_47 (ty_c hS (by decide) rfl) (ix_n (by omega) (by omega)) (m2.trans a2) ?_
      refine q_aload_n dX9_saySum_48 rfl rfl rfl ?_
      refine q_getr (r := 80) dX9_saySum_49 fX9_97 rfl (ty_c hS (by decide) rfl) (hS.2 58 28 80 rfl) ?_
      refine q_iload_n dX9_saySum_52 rfl rfl ?_
      refine q_iald (x := opv x.2.1) (j := ((32 * i) + e)) dX9_saySum_53 (ty_c hS (by decide) rfl) (ix_n (by omega) (by omega)) (m3.trans a3) ?_
      refine q_callV (As := [.int (opn x.2.1), .int (opv x.2.1)]) (rest := []) dX9_saySum_54 vX9_423 (ty_c hS (by decide) rfl) ⟨by decide, rfl⟩ (z9_sayOp hS hW od.1 (by first | omega | (simp only [sx6, sx7, sx8, sx9, sx10, sx11, sx12, sx13, sx14, sx15, sx16, List.length_append, List.length_cons, List.length_nil]; omega))) rfl rfl (Nat.le_of_ble_eq_true rfl) (by omega) (by omega) (by omega) (k_v (fun s54 q54 => ?_))
      have f54 := (FR9.rf).tr q54.1
      have mm54 := SMm.tx f54 hm
      have zS54 : SK s54 := (SK.fq f54 hS)
      refine q_aload_n dX9_saySum_57 rfl rfl rfl ?_
      refine q_bipush (v := nI 32) dX9_saySum_58 rfl ?_
      refine q_callV (As := [.int (nI 32)]) (rest := []) dX9_saySum_60 vX9_415 (ty_c zS54 (by decide) rfl) ⟨by decide, rfl⟩ (z9_say zS54 q54.2 (c := 32) (by first | omega | (simp only [sx6, sx7, sx8, sx9, sx10, sx11, sx12, sx13, sx14, sx15, sx16, List.length_append, List.length_cons, List.length_nil]; omega))) rfl rfl (Nat.le_of_ble_eq_true rfl) (by omega) (by omega) (by omega) (k_v (fun s60 q60 => ?_))
      have f60 := (f54).tr q60.1
      have mm60 := SMm.tx f60 hm
      have zS60 : SK s60 := (SK.fq f60 hS)
      refine q_aload_n dX9_saySum_63 rfl rfl rfl ?_
      refine q_aload_n dX9_saySum_64 rfl rfl rfl ?_
      refine q_getr (r := 78) dX9_saySum_65 fX9_91 rfl (ty_c zS60 (by decide) rfl) (zS60.2 58 26 78 rfl) ?_
      refine q_iload_n dX9_saySum_68 rfl rfl ?_
      refine q_iald (x := nI c) (j := ((32 * i) + e)) dX9_saySum_69 (ty_c zS60 (by decide) rfl) (ix_n (by omega) (by omega)) (mm60.1.trans c3) ?_
      refine q_callV (As := [.int (nI c)]) (rest := []) dX9_saySum_70 vX9_415 (ty_c zS60 (by decide) rfl) ⟨by decide, rfl⟩ (z9_say zS60 q60.2 (c := c) (by first | omega | (simp only [sx6, sx7, sx8, sx9, sx10, sx11, sx12, sx13, sx14, sx15, sx16, List.length_append, List.length_cons, List.length_nil]; omega))) rfl rfl (Nat.le_of_ble_eq_true rfl) (by omega) (by omega) (by omega) (k_v (fun s70 q70 => ?_))
      have f70 := (f60).tr q70.1
      have mm70 := SMm.tx f70 hm
      have zS70 : SK s70 := (SK.fq f70 hS)
      refine q_aload_n dX9_saySum_73 rfl rfl rfl ?_
      refine q_bipush (v := nI 32) dX9_saySum_74 rfl ?_
      refine q_callV (As := [.int (nI 32)]) (rest := []) dX9_saySum_76 vX9_415 (ty_c zS70 (by decide) rfl) ⟨by decide, rfl⟩ (z9_say zS70 q70.2 (c := 32) (by first | omega | (simp only [sx6, sx7, sx8, sx9, sx10, sx11, sx12, sx13, sx14, sx15, sx16, List.length_append, List.length_cons, List.length_nil]; omega))) rfl rfl (Nat.le_of_ble_eq_true rfl) (by omega) (by omega) (by omega) (k_v (fun s76 q76 => ?_))
      have f76 := (f70).tr q76.1
      have mm76 := SMm.tx f76 hm
      have zS76 : SK s76 := (SK.fq f76 hS)
      refine q_aload_n dX9_saySum_79 rfl rfl rfl ?_
      refine q_aload_n dX9_saySum_80 rfl rfl rfl ?_
      refine q_getr (r := 81) dX9_saySum_81 fX9_100 rfl (ty_c zS76 (by decide) rfl) (zS76.2 58 29 81 rfl) ?_
      refine q_iload_n dX9_saySum_84 rfl rfl ?_
      refine q_iald (x := opn x.2.2) (j := ((32 * i) + e)) dX9_saySum_85 (ty_c zS76 (by decide) rfl) (ix_n (by omega) (by omega)) mm76.2.2.2.1 ?_
      refine q_aload_n dX9_saySum_86 rfl rfl rfl ?_
      refine q_getr (r := 82) dX9_saySum_87 fX9_103 rfl (ty_c zS76 (by decide) rfl) (zS76.2 58 30 82 rfl) ?_
      refine q_iload_n dX9_saySum_90 rfl rfl ?_
      refine q_iald (x := opv x.2.2) (j := ((32 * i) + e)) dX9_saySum_91 (ty_c zS76 (by decide) rfl) (ix_n (by omega) (by omega)) mm76.2.2.2.2 ?_
      refine q_callV (As := [.int (opn x.2.2), .int (opv x.2.2)]) (rest := []) dX9_saySum_92 vX9_423 (ty_c zS76 (by decide) rfl) ⟨by decide, rfl⟩ (z9_sayOp zS76 q76.2 od.2 (by first | omega | (simp only [sx6, sx7, sx8, sx9, sx10, sx11, sx12, sx13, sx14, sx15, sx16, List.length_append, List.length_cons, List.length_nil]; omega))) rfl rfl (Nat.le_of_ble_eq_true rfl) (by omega) (by omega) (by omega) (k_v (fun s92 q92 => ?_))
      have f92 := (f76).tr q92.1
      have mm92 := SMm.tx f92 hm
      have zS92 : SK s92 := (SK.fq f92 hS)
      refine q_return dX9_saySum_95 rfl (by omega) (by omega) ?_
      exact ⟨rfl, f92, by simpa only [sx6, sx7, sx8, sx9, sx10, sx11, sx12, sx13, sx14, sx15, sx16, List.append_assoc, List.cons_append, List.nil_append, List.singleton_append] using q92.2⟩
    · exact absurd c15 c2
  · have eT : smT x = plT w x.2.2 := by unfold smT; rw [if_pos hc, w2, nI_clamp (by omega)]
    have a3 : sAv x = nI w := by unfold sAv; rw [if_pos hc]; exact w2
    rw [eT] at hl ⊢
    have hL := hl
    try simp only [sx6, sx7, sx8, sx9, sx10, sx11, sx12, sx13, sx14, sx15, sx16, List.length_append, List.length_cons, List.length_nil] at hL
    refine CT.of (by decide) (Nat.le_of_ble_eq_true rfl) ?_
    refine q_bipush (v := nI 32) dX9_saySum_0 rfl ?_
    refine q_iload_n dX9_saySum_2 rfl rfl ?_
    refine q_imulN dX9_saySum_3 ?_
    refine q_iload_n dX9_saySum_4 rfl rfl ?_
    refine q_iaddN dX9_saySum_5 ?_
    refine q_istore_n dX9_saySum_6 rfl (by decide) (ls' := [(3, .int (nI ((32 * i) + e))), (0, .ref 58), (1, .int (nI i)), (2, .int (nI e))]) rfl ?_
    refine q_aload_n dX9_saySum_7 rfl rfl rfl ?_
    refine q_getr (r := 78) dX9_saySum_8 fX9_91 rfl (ty_c hS (by decide) rfl) (hS.2 58 26 78 rfl) ?_
    refine q_iload_n dX9_saySum_11 rfl rfl ?_
    refine q_iald (x := nI 114) (j := ((32 * i) + e)) dX9_saySum_12 (ty_c hS (by decide) rfl) (ix_n (by omega) (by omega)) (m1.trans hc) ?_
    refine q_bipush (v := nI 114) dX9_saySum_13 rfl ?_
    refine q_icmp_neN (tgt := 41) dX9_saySum_15 (by decide) (by omega) (by omega) (fun h => absurd h (by decide)) (fun _ => ?_)
    refine q_aload_n dX9_saySum_18 rfl rfl rfl ?_
    refine q_aload_n dX9_saySum_19 rfl rfl rfl ?_
    refine q_getr (r := 80) dX9_saySum_20 fX9_97 rfl (ty_c hS (by decide) rfl) (hS.2 58 28 80 rfl) ?_
    refine q_iload_n dX9_saySum_23 rfl rfl ?_
    refine q_iald (x := nI w) (j := ((32 * i) + e)) dX9_saySum_24 (ty_c hS (by decide) rfl) (ix_n (by omega) (by omega)) (m3.trans a3) ?_
    refine q_aload_n dX9_saySum_25 rfl rfl rfl ?_
    refine q_getr (r := 81) dX9_saySum_26 fX9_100 rfl (ty_c hS (by decide) rfl) (hS.2 58 29 81 rfl) ?_
    refine q_iload_n dX9_saySum_29 rfl rfl ?_
    refine q_iald (x := opn x.2.2) (j := ((32 * i) + e)) dX9_saySum_30 (ty_c hS (by decide) rfl) (ix_n (by omega) (by omega)) m4 ?_
    refine q_aload_n dX9_saySum_31 rfl rfl rfl ?_
    refine q_getr (r := 82) dX9_saySum_32 fX9_103 rfl (ty_c hS (by decide) rfl) (hS.2 58 30 82 rfl) ?_
    refine q_iload_n dX9_saySum_35 rfl rfl ?_
    refine q_iald (x := opv x.2.2) (j := ((32 * i) + e)) dX9_saySum_36 (ty_c hS (by decide) rfl) (ix_n (by omega) (by omega)) m5 ?_
    refine q_callV (As := [.int (nI w), .int (opn x.2.2), .int (opv x.2.2)]) (rest := []) dX9_saySum_37 vX9_426 (ty_c hS (by decide) rfl) ⟨by decide, rfl⟩ (z9_sayRow hS hW (by omega) od.2 hl) rfl rfl (Nat.le_of_ble_eq_true rfl) (by omega) (by omega) (by omega) (k_v (fun s37 q37 => ?_))
    have f37 := (FR9.rf).tr q37.1
    have zS37 : SK s37 := (SK.fq f37 hS)
    refine q_return dX9_saySum_40 rfl (by omega) (by omega) ?_
    exact ⟨rfl, f37, by simpa only [sx6, sx7, sx8, sx9, sx10, sx11, sx12, sx13, sx14, sx15, sx16, List.append_assoc, List.cons_append, List.nil_append, List.singleton_append] using q37.2⟩

end MSD
