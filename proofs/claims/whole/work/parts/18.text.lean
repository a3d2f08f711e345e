/-! Text constants: .double k is text k, .double (100 + k) its bytes. -/
set_option maxRecDepth 100000 in
theorem fS_38 : Cond.fieldLink "java/lang/String" 38 "java/lang/String" "COMPACT_STRINGS" "Z" ∈ GW := gw_of 601 rfl rfl
set_option maxRecDepth 100000 in
theorem fS_9 : Cond.fieldLink "java/lang/String" 9 "java/lang/String" "value" "[B" ∈ GW := gw_of 1804 rfl rfl
set_option maxRecDepth 100000 in
theorem fS_15 : Cond.fieldLink "java/lang/String" 15 "java/lang/String" "coder" "B" ∈ GW := gw_of 1805 rfl rfl
set_option maxRecDepth 100000 in
theorem fS_1053 : Cond.fieldLink "java/lang/String" 1053 "jdk/internal/util/Preconditions" "SIOOBE_FORMATTER" "Ljava/util/function/BiFunction;" ∈ GW := gw_of 617 rfl rfl
section QT
variable {g : GG} {M : MI} {d mc ms : Nat} {Z : List Frame → Array Value → State → State → Prop} {cl sl pc : Nat} {ls ls' : List (Nat × Value)} {st : List Value} {σ : HS}
theorem q_getCS (hd : decode M.2.1 pc = .ok (.getstatic 38, 3)) (ho : M.1.cls = "java/lang/String") (k : WA g M d mc ms Z cl sl (pc + 3) ls (.int (nI 1) :: st) σ) : WA g M d mc ms Z cl sl pc ls st σ := by
  intro p e s m args below meth c H locs la hX hR hS hl
  obtain ⟨cf, kf, fi, f, a, cell, h1, h2, h3, h4, h5, h6, h7, h8⟩ := hX.2.2.2.2.2.1.2.2.2.2.1
  exact W.gets hX.1 hX.2.1 (own := "java/lang/String") (by rw [← ho]; exact hX.2.2.2.1) (hX.2.2.2.2.1 _ fS_38) h1 h2 h3 h4 (by rw [hS.2.1 a (Array.getElem?_eq_some_iff.mp h5).1 h8]; exact h5) (fun e => by rw [e] at h6; cases h6) h7 rfl hd (k p e s m args below meth c H locs la hX hR hS hl)
/-- the formatter: null or a cell, whatever it is -/
theorem q_getSF (hd : decode M.2.1 pc = .ok (.getstatic 1053, 3)) (ho : M.1.cls = "java/lang/String") (k : ∀ v : Value, (v = .ref 0 ∨ v = .double 200) → WA g M d mc ms Z cl sl (pc + 3) ls (v :: st) σ) : WA g M d mc ms Z cl sl pc ls st σ := by
  intro p e s m args below meth c H locs la hX hR hS hl
  rcases hX.2.2.2.2.2.1.2.2.2.1.2.2 with hz | hz
  · obtain ⟨cf, kf, fi, f, a, cell, h1, h2, h3, h4, h5, h6, h7, h8⟩ := hz
    exact W.gets hX.1 hX.2.1 (own := "java/lang/String") (by rw [← ho]; exact hX.2.2.2.1) (hX.2.2.2.2.1 _ fS_1053) h1 h2 h3 h4 (by rw [hS.2.1 a (Array.getElem?_eq_some_iff.mp h5).1 h8]; exact h5) (fun e => by rw [e] at h6; cases h6) h7 rfl hd (k (.ref 0) (Or.inl rfl) p e s m args below meth c H locs la hX hR hS hl)
  · obtain ⟨cf, kf, fi, f, a, cell, h1, h2, h3, h4, h5, h6, h7, h8⟩ := hz
    exact W.gets hX.1 hX.2.1 (own := "java/lang/String") (by rw [← ho]; exact hX.2.2.2.1) (hX.2.2.2.2.1 _ fS_1053) h1 h2 h3 h4 (by rw [hS.2.1 a (Array.getElem?_eq_some_iff.mp h5).1 h8]; exact h5) (fun e => by rw [e] at h6; cases h6) h7 rfl hd (k (.double 200) (Or.inr rfl) p e s m args below meth c H locs la hX hR hS hl)
theorem q_getTv {b b2 : UInt64} {j : Nat} (hd : decode M.2.1 pc = .ok (.getfield 9, 3)) (ho : M.1.cls = "java/lang/String") (hb : b.toNat = j) (hj : j < 17) (hb2 : b2.toNat = 100 + j) (k : WA g M d mc ms Z cl sl (pc + 3) ls (.double b2 :: st) σ) : WA g M d mc ms Z cl sl pc ls (.double b :: st) σ := by
  intro p e s m args below meth c H locs la hX hR hS hl
  subst hb
  obtain ⟨cf, kk, fi, f, cell, h1, h2, h3, h4, h5, h6⟩ := (hX.2.2.2.2.2.1.2.2.2.1.1.at hj).2.2.1
  have hv : tr g (.double b2) = .ref (gV g b.toNat) := by rw [hX.2.2.2.2.2.1.2.2.2.1.2.1 _ hj, ← hb2]; rfl
  have k1 := k p e s m args below meth c H locs la hX hR hS hl
  rw [List.map_cons, hv] at k1
  exact W.getf hX.1 hX.2.1 (own := "java/lang/String") (by rw [← ho]; exact hX.2.2.2.1) (hX.2.2.2.2.1 _ fS_9) h1 h2 (by rw [hS.2.1 _ (Array.getElem?_eq_some_iff.mp h3).1 h6]; exact h3) h4 h5 rfl rfl hd k1
theorem q_getTc {b : UInt64} {j : Nat} (hd : decode M.2.1 pc = .ok (.getfield 15, 3)) (ho : M.1.cls = "java/lang/String") (hb : b.toNat = j) (hj : j < 17) (k : WA g M d mc ms Z cl sl (pc + 3) ls (.int (nI 0) :: st) σ) : WA g M d mc ms Z cl sl pc ls (.double b :: st) σ := by
  intro p e s m args below meth c H locs la hX hR hS hl
  subst hb
  obtain ⟨cf, kk, fi, f, cell, h1, h2, h3, h4, h5, h6⟩ := (hX.2.2.2.2.2.1.2.2.2.1.1.at hj).2.1
  exact W.getf hX.1 hX.2.1 (own := "java/lang/String") (by rw [← ho]; exact hX.2.2.2.1) (hX.2.2.2.2.1 _ fS_15) h1 h2 (by rw [hS.2.1 _ (Array.getElem?_eq_some_iff.mp h3).1 h6]; exact h3) h4 h5 rfl rfl hd (k p e s m args below meth c H locs la hX hR hS hl)
theorem q_alenT {b : UInt64} {j : Nat} (hd : decode M.2.1 pc = .ok (.arraylength, 1)) (hb : b.toNat = 100 + j) (hj : j < 17) (k : WA g M d mc ms Z cl sl (pc + 1) ls (.int (nI (stLen.getD j 0)) :: st) σ) : WA g M d mc ms Z cl sl pc ls (.double b :: st) σ := by
  intro p e s m args below meth c H locs la hX hR hS hl
  obtain ⟨cell, h1, h2, h3, h4, h5, h6, h7⟩ := (hX.2.2.2.2.2.1.2.2.2.1.1.at hj).2.2.2
  have hv : tr g (.double b) = .ref (gV g j) := by rw [hX.2.2.2.2.2.1.2.2.2.1.2.1 _ hj, ← hb]; rfl
  rw [List.map_cons, hv]
  exact W.alen (n := nI (stLen.getD j 0)) hX.1 hX.2.1 (by rw [hS.2.1 _ (Array.getElem?_eq_some_iff.mp h1).1 h7]; exact h1) h2 h5 rfl rfl hd (k p e s m args below meth c H locs la hX hR hS hl)
theorem q_baldT {b : UInt64} {i : Int32} {j q : Nat} {x : Int32} (hd : decode M.2.1 pc = .ok (.baload, 1)) (hb : b.toNat = 100 + j) (hj : j < 17) (hi : IX i q (stLen.getD j 0)) (hx : (stByt.getD j []).getD q 0 = x) (k : WA g M d mc ms Z cl sl (pc + 1) ls (.int x :: st) σ) : WA g M d mc ms Z cl sl pc ls (.int i :: .double b :: st) σ := by
  intro p e s m args below meth c H locs la hX hR hS hl
  obtain ⟨cell, h1, h2, h3, h4, h5, h6, h7⟩ := (hX.2.2.2.2.2.1.2.2.2.1.1.at hj).2.2.2
  have hv : tr g (.double b) = .ref (gV g j) := by rw [hX.2.2.2.2.2.1.2.2.2.1.2.1 _ hj, ← hb]; rfl
  obtain ⟨hi1, rfl⟩ := hi
  subst hx
  have hlt : i.toNatClampNeg < stLen.getD j 0 := Nat.not_le.mp fun z => hi1 (Or.inr z)
  rw [List.map_cons, List.map_cons, hv]
  exact W.bald (v := .int ((stByt.getD j []).getD i.toNatClampNeg 0)) hX.1 hX.2.1 (by rw [hS.2.1 _ (Array.getElem?_eq_some_iff.mp h1).1 h7]; exact h1) h2 h3 (fun z => z.elim (fun z => hi1 (Or.inl z)) (fun z => by omega)) (h6 _ hlt) rfl rfl hd (k p e s m args below meth c H locs la hX hR hS hl)
theorem q_callVT {b : UInt64} {j idx n d' mc' ms' : Nat} {M' : MI} {As rest stk : List Value} {Q' : Option Value → HS → Prop} (hd : decode M.2.1 pc = .ok (.invokevirtual idx, 3)) (hs : SV M.1.cls idx M' n) (hcn : M'.1.cls = "java/lang/String") (hb : b.toNat = j) (hj : j < 17) (hc : CT g M' d' mc' ms' (.double b :: As) σ Q')
    (hst : stk = As.reverse ++ .double b :: rest) (hn : As.length = n) (hw : (rest.map wc).sum ≤ 8) (hdd : d' + 1 ≤ d) (hcl : cl + mc' ≤ mc) (hsl : sl + ms' ≤ ms)
    (k : ∀ r σ', Q' r σ' → WA g M d mc ms Z (cl + mc') (sl + ms') (pc + 3) ls (r.toList ++ rest) σ') : WA g M d mc ms Z cl sl pc ls stk σ := by
  intro p e s m args below meth c H locs la hX hR hS hl
  subst hst
  subst hb
  have hts := hX.2.2.2.2.1
  have hK := hX.2.2.2.2.2.1
  obtain ⟨cell, g1, g2, g3, g4⟩ := (hK.2.2.2.1.1.at hj).1
  rw [st_eq]
  exact q_run (va_runV (C := M'.1.cls) (As := As.map (tr g)) (b := gK g b.toNat) ⟨hX.1, hX.2.1, hX.2.2.1, hX.2.2.2.1, hts⟩ hc ⟨sb_call hts hs.1 hs.2.1 hdd, hts _ hs.2.2.1, hts _ hs.2.2.2⟩ ⟨pc_blind, ⟨cell, by rw [hS.2.1 _ (Array.getElem?_eq_some_iff.mp g1).1 g4]; exact g1, g2, by rw [hcn]; exact g3⟩, pc_at hX.2.2.2.2.2.2.2.2.2 hK hR hS rfl⟩ rfl (by rw [List.length_map]; exact hn) hl.1 rfl (st_room hw) hd ⟨hcl, hsl⟩) hX hS hl k
theorem q_mmax {idx n : Nat} {rest : List Value} {x y z : Int32} (hd : decode M.2.1 pc = .ok (.invokestatic idx, 3)) (hs : SS M.1.cls idx mJ9_max_7cf53 n) (hd1 : 1 ≤ d) (hcl : cl ≤ mc) (hsl : sl ≤ ms) (hw : (rest.map wc).sum ≤ 8) (hz : (if x < y then y else x) = z) (k : WA g M d mc ms Z cl sl (pc + 3) ls (.int z :: rest) σ) : WA g M d mc ms Z cl sl pc ls (.int y :: .int x :: rest) σ := by
  intro p e s m args below meth c H locs la hX hR hS hl
  subst hz
  have hts := hX.2.2.2.2.1
  have hcd : Cond.code Lib.Math.max.name Lib.Math.max.code 2 (some .int) ∈ GW := hs.1.2.1
  exact va_mmax hX.1 hX.2.1 (hX.2.2.1.trans hl.1.symm) hX.2.2.2.1 (hts _ hs.2.1) (hts _ hs.2.2) (hts _ hs.1.1) (hts _ hcd) hd1 (by rw [wc_sum]; show _ ≤ 39 * d + 3; omega) hcl hsl hd (k p e s m args below meth c H locs la hX hR hS hl)
theorem q_mmin {idx n : Nat} {rest : List Value} {x y z : Int32} (hd : decode M.2.1 pc = .ok (.invokestatic idx, 3)) (hs : SS M.1.cls idx mJ9_min_7cf53 n) (hd1 : 1 ≤ d) (hcl : cl ≤ mc) (hsl : sl ≤ ms) (hw : (rest.map wc).sum ≤ 8) (hz : (if y < x then y else x) = z) (k : WA g M d mc ms Z cl sl (pc + 3) ls (.int z :: rest) σ) : WA g M d mc ms Z cl sl pc ls (.int y :: .int x :: rest) σ := by
  intro p e s m args below meth c H locs la hX hR hS hl
  subst hz
  have hts := hX.2.2.2.2.1
  have hcd : Cond.code Lib.Math.min.name Lib.Math.min.code 2 (some .int) ∈ GW := hs.1.2.1
  exact va_mmin hX.1 hX.2.1 (hX.2.2.1.trans hl.1.symm) hX.2.2.2.1 (hts _ hs.2.1) (hts _ hs.2.2) (hts _ hs.1.1) (hts _ hcd) hd1 (by rw [wc_sum]; show _ ≤ 39 * d + 3; omega) hcl hsl hd (k p e s m args below meth c H locs la hX hR hS hl)
end QT
theorem max_N {a b : Nat} (ha : a < 2147483648) (hb : b < 2147483648) : (if nI a < nI b then nI b else nI a) = nI (max a b) := by
  by_cases h : a < b
  · rw [if_pos ((nI_ltI (by omega) (by omega)).mpr h), Nat.max_eq_right (by omega)]
  · rw [if_neg (fun e => h ((nI_ltI (by omega) (by omega)).mp e)), Nat.max_eq_left (by omega)]
theorem min_N {a b : Nat} (ha : a < 2147483648) (hb : b < 2147483648) : (if nI b < nI a then nI b else nI a) = nI (min a b) := by
  by_cases h : b < a
  · rw [if_pos ((nI_ltI (by omega) (by omega)).mpr h), Nat.min_eq_right (by omega)]
  · rw [if_neg (fun e => h ((nI_ltI (by omega) (by omega)).mp e)), Nat.min_eq_left (by omega)]
theorem st_all : ∀ j, j < 17 → stLen.getD j 0 = (stByt.getD j []).length ∧ stLen.getD j 0 ≤ 6 ∧ ∀ q, q < stLen.getD j 0 → ∃ n, n < 127 ∧ (stByt.getD j []).getD q 0 = nI n := by
  intro j hj
  have h : ∀ j, j < 17 → (stLen.getD j 0 = (stByt.getD j []).length ∧ stLen.getD j 0 ≤ 6 ∧ ∀ q, q < stLen.getD j 0 → (stByt.getD j []).getD q 0 = nI ((stByt.getD j []).getD q 0).toNatClampNeg ∧ ((stByt.getD j []).getD q 0).toNatClampNeg < 127) := by decide +kernel
  obtain ⟨h1, h2, h3⟩ := h j hj
  exact ⟨h1, h2, fun q hq => ⟨_, (h3 q hq).2, (h3 q hq).1⟩⟩
/-- sign q of text j -/
def stC (j q : Nat) : Nat := ((stByt.getD j []).getD q 0).toNatClampNeg
theorem stC_is {j q : Nat} (hj : j < 17) (hq : q < stLen.getD j 0) : (stByt.getD j []).getD q 0 = nI (stC j q) ∧ stC j q < 127 := by
  obtain ⟨n, h1, h2⟩ := (st_all j hj).2.2 q hq
  unfold stC
  rw [h2, nI_clamp (by omega)]
  exact ⟨rfl, h1⟩
theorem zJ_coder {g : GG} {σ : HS} {b : UInt64} {j : Nat} (hb : b.toNat = j) (hj : j < 17) : CT g mJ0_coder_7d493 0 0 0 [.double b] σ (PQ σ (.int (nI 0))) := by
  refine CT.of (by decide) (Nat.le_of_ble_eq_true rfl) ?_
  refine q_getCS dJ0_coder_7d493_0 rfl ?_
  refine q_if_eqN (tgt := 13) dJ0_coder_7d493_3 (by decide) (by omega) (fun h => absurd h (by decide)) (fun _ => ?_)
  refine q_aload_n dJ0_coder_7d493_6 rfl rfl rfl ?_
  refine q_getTc dJ0_coder_7d493_7 rfl hb hj ?_
  refine q_goto (tgt := 14) dJ0_coder_7d493_10 (by decide) ?_
  exact q_ireturn dJ0_coder_7d493_14 rfl rfl (by omega) (by omega) ⟨rfl, rfl⟩
theorem zJ_isLatin1 {g : GG} {σ : HS} {b : UInt64} {j : Nat} (hb : b.toNat = j) (hj : j < 17) : CT g mJ0_isLatin1_aae02 0 0 0 [.double b] σ (PQ σ (.int (nI 1))) := by
  refine CT.of (by decide) (Nat.le_of_ble_eq_true rfl) ?_
  refine q_getCS dJ0_isLatin1_aae02_0 rfl ?_
  refine q_if_eqN (tgt := 17) dJ0_isLatin1_aae02_3 (by decide) (by omega) (fun h => absurd h (by decide)) (fun _ => ?_)
  refine q_aload_n dJ0_isLatin1_aae02_6 rfl rfl rfl ?_
  refine q_getTc dJ0_isLatin1_aae02_7 rfl hb hj ?_
  refine q_if_neN (tgt := 17) dJ0_isLatin1_aae02_10 (by decide) (by omega) (fun h => absurd rfl h) (fun _ => ?_)
  refine q_iconst (v := nI 1) dJ0_isLatin1_aae02_13 rfl ?_
  refine q_goto (tgt := 18) dJ0_isLatin1_aae02_14 (by decide) ?_
  exact q_ireturn dJ0_isLatin1_aae02_18 rfl rfl (by omega) (by omega) ⟨rfl, rfl⟩
theorem zJ_length {g : GG} {σ : HS} {b b2 : UInt64} {j : Nat} (hb : b.toNat = j) (hj : j < 17) (hb2 : b2.toNat = 100 + j) : CT g mJ0_length_8abf5 1 0 0 [.double b] σ (PQ σ (.int (nI (stLen.getD j 0)))) := by
  have hl := (st_all j hj).2.1
  refine CT.of (by decide) (Nat.le_of_ble_eq_true rfl) ?_
  refine q_aload_n dJ0_length_8abf5_0 rfl rfl rfl ?_
  refine q_getTv dJ0_length_8abf5_1 rfl hb hj hb2 ?_
  refine q_alenT dJ0_length_8abf5_4 hb2 hj ?_
  refine q_aload_n dJ0_length_8abf5_5 rfl rfl rfl ?_
  refine q_callVT (As := []) (rest := [.int (nI (stLen.getD j 0))]) dJ0_length_8abf5_6 vJ0_335 rfl hb hj (zJ_coder hb hj) rfl rfl (Nat.le_of_ble_eq_true rfl) (by omega) (by omega) (by omega) (k_p ?_)
  refine q_ishr dJ0_length_8abf5_9 ?_
  refine q_top (y := nI (stLen.getD j 0)) ?_ ?_
  · have h0 : (nI 0 &&& 31 : Int32) = 0 := rfl
    rw [h0, pk_shrN (k := 0) (by omega) 0 rfl]
    simp
  exact q_ireturn dJ0_length_8abf5_10 rfl rfl (by omega) (by omega) ⟨rfl, rfl⟩
theorem zJ_checkI {g : GG} {σ : HS} {i n : Nat} (h : i < n) (hn : n < 1000) {v : Value} (hv : v = .ref 0 ∨ v = .double 200) : CT g mJ3_checkIndex_8e157 0 0 0 [.int (nI i), .int (nI n), v] σ (PQ σ (.int (nI i))) := by
  have hr : isL v = false := by rcases hv with rfl | rfl <;> rfl
  refine CT.of (by decide) (by rcases hv with rfl | rfl <;> exact Nat.le_of_ble_eq_true rfl) ?_
  refine q_iload_n dJ3_checkIndex_8e157_0 rfl rfl ?_
  refine q_if_ltN dJ3_checkIndex_8e157_1 (by decide) (tgt := 9) (by omega) ?_
  refine q_iload_n dJ3_checkIndex_8e157_4 rfl rfl ?_
  refine q_iload_n dJ3_checkIndex_8e157_5 rfl rfl ?_
  refine q_icmp_ltN (tgt := 16) dJ3_checkIndex_8e157_6 (by decide) (by omega) (by omega) (fun _ => ?_) (fun c => absurd h (by omega))
  refine q_iload_n dJ3_checkIndex_8e157_16 rfl rfl ?_
  exact q_ireturn dJ3_checkIndex_8e157_17 rfl rfl (by omega) (by omega) ⟨rfl, rfl⟩
theorem zJ_check {g : GG} {σ : HS} {i n : Nat} (h : i < n) (hn : n < 1000) : CT g mJ0_checkIndex_df160 1 0 0 [.int (nI i), .int (nI n)] σ (fun r σ' => r = none ∧ σ' = σ) := by
  refine CT.of (by decide) (Nat.le_of_ble_eq_true rfl) ?_
  refine q_iload_n dJ0_checkIndex_df160_0 rfl rfl ?_
  refine q_iload_n dJ0_checkIndex_df160_1 rfl rfl ?_
  refine q_getSF dJ0_checkIndex_df160_2 rfl (fun v hv => ?_)
  refine q_callS (As := [.int (nI i), .int (nI n), v]) (rest := []) dJ0_checkIndex_df160_5 vJ0_1059 (zJ_checkI h hn hv) rfl rfl (Nat.le_of_ble_eq_true rfl) (by omega) (by omega) (by omega) (k_p ?_)
  refine q_pop dJ0_checkIndex_df160_8 rfl ?_
  exact q_return dJ0_checkIndex_df160_9 rfl (by omega) (by omega) ⟨rfl, rfl⟩
theorem and_255 {n : Nat} (h : n < 256) : nI n &&& nI 255 = nI n := by
  rw [pk_andN (by omega) 8 (by decide), Nat.mod_eq_of_lt (by omega)]
theorem zJ_charAt1 {g : GG} {σ : HS} {b : UInt64} {j q : Nat} (hj : j < 17) (hb : b.toNat = 100 + j) (hq : q < stLen.getD j 0) : CT g mJ1_charAt_3b067 2 0 0 [.double b, .int (nI q)] σ (PQ σ (.int (nI (stC j q)))) := by
  have hl := (st_all j hj).2.1
  obtain ⟨h1, h2⟩ := stC_is hj hq
  refine CT.of (by decide) (Nat.le_of_ble_eq_true rfl) ?_
  refine q_iload_n dJ1_charAt_3b067_0 rfl rfl ?_
  refine q_aload_n dJ1_charAt_3b067_1 rfl rfl rfl ?_
  refine q_alenT dJ1_charAt_3b067_2 hb hj ?_
  refine q_callS (As := [.int (nI q), .int (nI (stLen.getD j 0))]) (rest := []) dJ1_charAt_3b067_3 vJ1_9 (zJ_check hq (by omega)) rfl rfl (Nat.le_of_ble_eq_true rfl) (by omega) (by omega) (by omega) (k_v (fun σ' h => ?_))
  subst h
  refine q_aload_n dJ1_charAt_3b067_6 rfl rfl rfl ?_
  refine q_iload_n dJ1_charAt_3b067_7 rfl rfl ?_
  refine q_baldT dJ1_charAt_3b067_8 hb hj (ix_n hq (by omega)) h1 ?_
  refine q_sipush (v := nI 255) dJ1_charAt_3b067_9 rfl ?_
  refine q_iand dJ1_charAt_3b067_12 ?_
  refine q_top (and_255 (by omega)) ?_
  refine q_i2c (v := nI (stC j q)) dJ1_charAt_3b067_13 ?_ ?_
  · rw [pk_char, pk_tn (by omega), Nat.mod_eq_of_lt (by omega)]
  exact q_ireturn dJ1_charAt_3b067_14 rfl (pk_charN (by omega)).1 (by omega) (by omega) ⟨rfl, rfl⟩
theorem zJ_charAt {g : GG} {σ : HS} {b b2 : UInt64} {j q : Nat} (hb : b.toNat = j) (hj : j < 17) (hb2 : b2.toNat = 100 + j) (hq : q < stLen.getD j 0) : CT g mJ0_charAt_5068e 3 0 0 [.double b, .int (nI q)] σ (PQ σ (.int (nI (stC j q)))) := by
  have h2 := (stC_is hj hq).2
  refine CT.of (by decide) (Nat.le_of_ble_eq_true rfl) ?_
  refine q_aload_n dJ0_charAt_5068e_0 rfl rfl rfl ?_
  refine q_callVT (As := []) (rest := []) dJ0_charAt_5068e_1 vJ0_492 rfl hb hj (zJ_isLatin1 hb hj) rfl rfl (Nat.le_of_ble_eq_true rfl) (by omega) (by omega) (by omega) (k_p ?_)
  refine q_if_eqN (tgt := 16) dJ0_charAt_5068e_4 (by decide) (by omega) (fun h => absurd h (by decide)) (fun _ => ?_)
  refine q_aload_n dJ0_charAt_5068e_7 rfl rfl rfl ?_
  refine q_getTv dJ0_charAt_5068e_8 rfl hb hj hb2 ?_
  refine q_iload_n dJ0_charAt_5068e_11 rfl rfl ?_
  refine q_callS (As := [.double b2, .int (nI q)]) (rest := []) dJ0_charAt_5068e_12 vJ0_495 (zJ_charAt1 hj hb2 hq) rfl rfl (Nat.le_of_ble_eq_true rfl) (by omega) (by omega) (by omega) (k_p ?_)
  exact q_ireturn dJ0_charAt_5068e_15 rfl (pk_charN (by omega)).1 (by omega) (by omega) ⟨rfl, rfl⟩
theorem zJ_canEnc {g : GG} {σ : HS} {c : Nat} (hc : c < 256) : CT g mJ1_canEncode_9a6ad 0 0 0 [.int (nI c)] σ (PQ σ (.int (nI 1))) := by
  refine CT.of (by decide) (Nat.le_of_ble_eq_true rfl) ?_
  refine q_iload_n dJ1_canEncode_9a6ad_0 rfl rfl ?_
  refine q_if_ltN (tgt := 15) dJ1_canEncode_9a6ad_1 (by decide) (by omega) ?_
  refine q_iload_n dJ1_canEncode_9a6ad_4 rfl rfl ?_
  refine q_sipush (v := nI 255) dJ1_canEncode_9a6ad_5 rfl ?_
  refine q_icmp_gtN (tgt := 15) dJ1_canEncode_9a6ad_8 (by decide) (by omega) (by omega) (fun c8 => ?_) (fun c8 => ?_)
  · exact absurd c8 (by omega)
  · skip
    refine q_iconst (v := nI 1) dJ1_canEncode_9a6ad_11 rfl ?_
    refine q_goto (tgt := 16) dJ1_canEncode_9a6ad_12 (by decide) ?_
    refine q_ireturn dJ1_canEncode_9a6ad_16 rfl rfl (by omega) (by omega) ?_
    exact ⟨rfl, rfl⟩
/-- the first place of c among signs q, q + 1, .. of text j, n of them -/
def ixF (j c : Nat) : Nat → Nat → Int32
  | 0, _ => -1
  | n + 1, q => if stC j q = c then nI q else ixF j c n (q + 1)
theorem b_conv : ∀ c, c < 256 → (nI c).toInt8.toInt32 = if c < 128 then nI c else nI c - 256 := by decide +kernel
theorem b_neg : ∀ c, c < 256 → 128 ≤ c → nI c - 256 < 0 := by decide +kernel
theorem b_same {b c : Nat} (hb : b < 127) (hc : c < 256) : nI b = (nI c).toInt8.toInt32 ↔ b = c := by
  rw [b_conv c hc]
  by_cases h : c < 128
  · rw [if_pos h]
    exact ⟨fun e => nI_inj (by omega) (by omega) e, fun e => by rw [e]⟩
  · rw [if_neg h]
    refine ⟨fun e => ?_, fun e => by omega⟩
    have := b_neg c hc (by omega)
    rw [← e] at this
    exact absurd this (nI_nlt0 (by omega))
theorem yJ_ixc {g : GG} {σ : HS} {b : UInt64} {j c : Nat} (hj : j < 17) (hb : b.toNat = 100 + j) (hc : c < 256) {x : Int32} {Q : Option Value → HS → Prop} : ∀ (n q : Nat), q + n = stLen.getD j 0 → Q (some (.int (ixF j c n q))) σ → WA g mJ1_indexOfChar_4cfef 0 0 0 (ZM g Q 0 0) 0 0 7 [(0, .double b), (1, .int (nI c)), (2, .int x), (3, .int (nI (stLen.getD j 0))), (4, .int (nI c).toInt8.toInt32), (5, .int (nI q))] [] σ := by
  have hl := (st_all j hj).2.1
  intro n
  induction n with
  | zero =>
    intro q hq hQ
    refine q_iload dJ1_indexOfChar_4cfef_7 rfl ?_
    refine q_iload_n dJ1_indexOfChar_4cfef_9 rfl rfl ?_
    refine q_icmp_geN (tgt := 31) dJ1_indexOfChar_4cfef_10 (by decide) (by omega) (by omega) (fun _ => ?_) (fun h => absurd h (by omega))
    refine q_iconst (v := -1) dJ1_indexOfChar_4cfef_31 rfl ?_
    exact q_ireturn dJ1_indexOfChar_4cfef_32 rfl rfl (by omega) (by omega) hQ
  | succ n ih =>
    intro q hq hQ
    obtain ⟨h1, h2⟩ := stC_is (q := q) hj (by omega)
    refine q_iload dJ1_indexOfChar_4cfef_7 rfl ?_
    refine q_iload_n dJ1_indexOfChar_4cfef_9 rfl rfl ?_
    refine q_icmp_geN (tgt := 31) dJ1_indexOfChar_4cfef_10 (by decide) (by omega) (by omega) (fun h => absurd h (by omega)) (fun _ => ?_)
    refine q_aload_n dJ1_indexOfChar_4cfef_13 rfl rfl rfl ?_
    refine q_iload dJ1_indexOfChar_4cfef_14 rfl ?_
    refine q_baldT dJ1_indexOfChar_4cfef_16 hb hj (ix_n (by omega) (by omega)) h1 ?_
    refine q_iload dJ1_indexOfChar_4cfef_17 rfl ?_
    unfold ixF at hQ
    refine q_icmp_ne (tgt := 25) dJ1_indexOfChar_4cfef_19 (by decide) (fun h => ?_) (fun h => ?_)
    · rw [if_neg (fun e => h ((b_same h2 hc).mpr e))] at hQ
      refine q_iincN (c := 1) dJ1_indexOfChar_4cfef_25 rfl (by decide) rfl (ls' := [(5, .int (nI (q + 1))), (0, .double b), (1, .int (nI c)), (2, .int x), (3, .int (nI (stLen.getD j 0))), (4, .int (nI c).toInt8.toInt32)]) rfl ?_
      refine q_goto (tgt := 7) dJ1_indexOfChar_4cfef_28 (by decide) ?_
      refine q_pk [1, 2, 3, 4, 5, 0] rfl (ih (q + 1) (by omega) hQ)
    · rw [if_pos ((b_same h2 hc).mp h)] at hQ
      refine q_iload dJ1_indexOfChar_4cfef_22 rfl ?_
      exact q_ireturn dJ1_indexOfChar_4cfef_24 rfl rfl (by omega) (by omega) hQ
theorem zJ_ixc {g : GG} {σ : HS} {b : UInt64} {j c : Nat} (hj : j < 17) (hb : b.toNat = 100 + j) (hc : c < 256) : CT g mJ1_indexOfChar_4cfef 0 0 0 [.double b, .int (nI c), .int (nI 0), .int (nI (stLen.getD j 0))] σ (PQ σ (.int (ixF j c (stLen.getD j 0) 0))) := by
  refine CT.of (by decide) (Nat.le_of_ble_eq_true rfl) ?_
  refine q_iload_n dJ1_indexOfChar_4cfef_0 rfl rfl ?_
  refine q_i2b dJ1_indexOfChar_4cfef_1 rfl ?_
  refine q_istore dJ1_indexOfChar_4cfef_2 (by decide) rfl ?_
  refine q_iload_n dJ1_indexOfChar_4cfef_4 rfl rfl ?_
  refine q_istore dJ1_indexOfChar_4cfef_5 (by decide) rfl ?_
  exact q_pk (ls' := [(0, .double b), (1, .int (nI c)), (2, .int (nI 0)), (3, .int (nI (stLen.getD j 0))), (4, .int (nI c).toInt8.toInt32), (5, .int (nI 0))]) [2, 3, 4, 5, 1, 0] rfl (yJ_ixc hj hb hc _ 0 (by omega) ⟨rfl, rfl⟩)
theorem zJ_ixL {g : GG} {σ : HS} {b : UInt64} {j c : Nat} (hj : j < 17) (hb : b.toNat = 100 + j) (hc : c < 256) (h0 : 0 < stLen.getD j 0) : CT g mJ1_indexOf_4cfef 1 0 0 [.double b, .int (nI c), .int (nI 0), .int (nI (stLen.getD j 0))] σ (PQ σ (.int (ixF j c (stLen.getD j 0) 0))) := by
  have hl := (st_all j hj).2.1
  refine CT.of (by decide) (Nat.le_of_ble_eq_true rfl) ?_
  refine q_iload_n dJ1_indexOf_4cfef_0 rfl rfl ?_
  refine q_callS (As := [.int (nI c)]) (rest := []) dJ1_indexOf_4cfef_1 vJ1_88 (zJ_canEnc hc) rfl rfl (Nat.le_of_ble_eq_true rfl) (by omega) (by omega) (by omega) (k_p ?_)
  refine q_if_neN (tgt := 9) dJ1_indexOf_4cfef_4 (by decide) (by omega) (fun _ => ?_) (fun h => absurd h (by decide))
  refine q_iload_n dJ1_indexOf_4cfef_9 rfl rfl ?_
  refine q_iconst (v := nI 0) dJ1_indexOf_4cfef_10 rfl ?_
  refine q_mmax (z := nI 0) dJ1_indexOf_4cfef_11 vJ1_92 (by omega) (by omega) (by omega) (Nat.le_of_ble_eq_true rfl) (max_N (a := 0) (b := 0) (by omega) (by omega)) ?_
  refine q_istore_n dJ1_indexOf_4cfef_14 rfl (by decide) (ls' := [(2, .int (nI 0)), (0, .double b), (1, .int (nI c)), (3, .int (nI (stLen.getD j 0)))]) rfl ?_
  refine q_iload_n dJ1_indexOf_4cfef_15 rfl rfl ?_
  refine q_aload_n dJ1_indexOf_4cfef_16 rfl rfl rfl ?_
  refine q_alenT dJ1_indexOf_4cfef_17 hb hj ?_
  refine q_mmin dJ1_indexOf_4cfef_18 vJ1_38 (by omega) (by omega) (by omega) (Nat.le_of_ble_eq_true rfl) (min_N (by omega) (by omega)) ?_
  rw [Nat.min_self]
  refine q_istore_n dJ1_indexOf_4cfef_21 rfl (by decide) (ls' := [(3, .int (nI (stLen.getD j 0))), (2, .int (nI 0)), (0, .double b), (1, .int (nI c))]) rfl ?_
  refine q_iload_n dJ1_indexOf_4cfef_22 rfl rfl ?_
  refine q_iload_n dJ1_indexOf_4cfef_23 rfl rfl ?_
  refine q_icmp_ltN (tgt := 29) dJ1_indexOf_4cfef_24 (by decide) (by omega) (by omega) (fun _ => ?_) (fun h => absurd h (by omega))
  refine q_aload_n dJ1_indexOf_4cfef_29 rfl rfl rfl ?_
  refine q_iload_n dJ1_indexOf_4cfef_30 rfl rfl ?_
  refine q_iload_n dJ1_indexOf_4cfef_31 rfl rfl ?_
  refine q_iload_n dJ1_indexOf_4cfef_32 rfl rfl ?_
  refine q_callS (As := [.double b, .int (nI c), .int (nI 0), .int (nI (stLen.getD j 0))]) (rest := []) dJ1_indexOf_4cfef_33 vJ1_95 (zJ_ixc hj hb hc) rfl rfl (Nat.le_of_ble_eq_true rfl) (by omega) (by omega) (by omega) (k_p ?_)
  exact q_ireturn dJ1_indexOf_4cfef_36 rfl rfl (by omega) (by omega) ⟨rfl, rfl⟩
theorem zJ_ix2 {g : GG} {σ : HS} {b b2 : UInt64} {j c : Nat} (hb : b.toNat = j) (hj : j < 17) (hb2 : b2.toNat = 100 + j) (hc : c < 256) (h0 : 0 < stLen.getD j 0) : CT g mJ0_indexOf_7cf53 2 0 0 [.double b, .int (nI c), .int (nI 0)] σ (PQ σ (.int (ixF j c (stLen.getD j 0) 0))) := by
  refine CT.of (by decide) (Nat.le_of_ble_eq_true rfl) ?_
  refine q_aload_n dJ0_indexOf_7cf53_0 rfl rfl rfl ?_
  refine q_callVT (As := []) (rest := []) dJ0_indexOf_7cf53_1 vJ0_492 rfl hb hj (zJ_isLatin1 hb hj) rfl rfl (Nat.le_of_ble_eq_true rfl) (by omega) (by omega) (by omega) (k_p ?_)
  refine q_if_eqN (tgt := 23) dJ0_indexOf_7cf53_4 (by decide) (by omega) (fun h => absurd h (by decide)) (fun _ => ?_)
  refine q_aload_n dJ0_indexOf_7cf53_7 rfl rfl rfl ?_
  refine q_getTv dJ0_indexOf_7cf53_8 rfl hb hj hb2 ?_
  refine q_iload_n dJ0_indexOf_7cf53_11 rfl rfl ?_
  refine q_iload_n dJ0_indexOf_7cf53_12 rfl rfl ?_
  refine q_aload_n dJ0_indexOf_7cf53_13 rfl rfl rfl ?_
  refine q_callVT (As := []) (rest := [.int (nI 0), .int (nI c), .double b2]) dJ0_indexOf_7cf53_14 vJ0_505 rfl hb hj (zJ_length hb hj hb2) rfl rfl (Nat.le_of_ble_eq_true rfl) (by omega) (by omega) (by omega) (k_p ?_)
  refine q_callS (As := [.double b2, .int (nI c), .int (nI 0), .int (nI (stLen.getD j 0))]) (rest := []) dJ0_indexOf_7cf53_17 vJ0_637 (zJ_ixL hj hb2 hc h0) rfl rfl (Nat.le_of_ble_eq_true rfl) (by omega) (by omega) (by omega) (k_p ?_)
  refine q_goto (tgt := 36) dJ0_indexOf_7cf53_20 (by decide) ?_
  exact q_ireturn dJ0_indexOf_7cf53_36 rfl rfl (by omega) (by omega) ⟨rfl, rfl⟩
theorem zJ_ix1 {g : GG} {σ : HS} {b b2 : UInt64} {j c : Nat} (hb : b.toNat = j) (hj : j < 17) (hb2 : b2.toNat = 100 + j) (hc : c < 256) (h0 : 0 < stLen.getD j 0) : CT g mJ0_indexOf_0f7a4 3 0 0 [.double b, .int (nI c)] σ (PQ σ (.int (ixF j c (stLen.getD j 0) 0))) := by
  refine CT.of (by decide) (Nat.le_of_ble_eq_true rfl) ?_
  refine q_aload_n dJ0_indexOf_0f7a4_0 rfl rfl rfl ?_
  refine q_iload_n dJ0_indexOf_0f7a4_1 rfl rfl ?_
  refine q_iconst (v := nI 0) dJ0_indexOf_0f7a4_2 rfl ?_
  refine q_callVT (As := [.int (nI c), .int (nI 0)]) (rest := []) dJ0_indexOf_0f7a4_3 vJ0_633 rfl hb hj (zJ_ix2 hb hj hb2 hc h0) rfl rfl (Nat.le_of_ble_eq_true rfl) (by omega) (by omega) (by omega) (k_p ?_)
  exact q_ireturn dJ0_indexOf_0f7a4_6 rfl rfl (by omega) (by omega) ⟨rfl, rfl⟩
