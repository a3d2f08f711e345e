/-! Class Runner: what a RUN does at a NODE. -/
/-- what runs may change; how it ended, NODES come to and the refused block stay -/
def RFr (σ σ' : HS) : Prop := Fr [46, 48, 50, 51, 52, 53, 54] σ σ' ∧ ∀ i, i = 7 ∨ i = 8 ∨ i = 10 → sI σ' 46 i = sI σ 46 i
theorem RFr.rf {σ : HS} : RFr σ σ := ⟨⟨rfl, rfl, rfl, fun _ _ => rfl⟩, fun _ _ => rfl⟩
theorem RFr.tr {σ σ' σ'' : HS} (k : RFr σ σ') (k2 : RFr σ' σ'') : RFr σ σ'' := ⟨⟨k2.1.1.trans k.1.1, k2.1.2.1.trans k.1.2.1, k2.1.2.2.1.trans k.1.2.2.1, fun a ha => (k2.1.2.2.2 a ha).trans (k.1.2.2.2 a ha)⟩, fun i hi => (k2.2 i hi).trans (k.2 i hi)⟩
theorem RFr.uI {σ σ' : HS} {h i : Nat} {v : Int32} (k : RFr σ σ') (hh : h ∈ [46, 48, 50, 51, 52, 53, 54]) (hi : h ≠ 46 ∨ (i ≠ 7 ∧ i ≠ 8 ∧ i ≠ 10)) : RFr σ (uI σ' h i v) := ⟨⟨k.1.1, k.1.2.1, k.1.2.2.1, fun a ha => (uI_off fun e => ha (by rw [e]; exact hh)).trans (k.1.2.2.2 a ha)⟩, fun j hj => by rw [sI_uI, if_neg (by omega)]; exact k.2 j hj⟩
/-- the Runner's rows are s -/
def XR (σ : HS) (s : XS) : Prop := (∀ i, i < 48 → sI σ 48 i = xN s i) ∧ (∀ i, i < 8 → sI σ 50 i = xR s 0 i) ∧ (∀ i, i < 8 → sI σ 51 i = xR s 1 i) ∧ (∀ e, e < 32 → sI σ 53 e = xW s e) ∧ (∀ e, e < 32 → sI σ 54 e = xK s e) ∧ (∀ i, i < 100 → sI σ 52 i = xT s i) ∧ sI σ 46 9 = nI (xC s) ∧ sI σ 46 11 = xA s
theorem XR.gv {σ : HS} {s : XS} (h : XR σ s) {t : Nat} {v : Int32} : XR (uI σ 48 t v) (gvS s t v) := by
  obtain ⟨a, b, c, d, e, f, g, k⟩ := h
  refine ⟨fun i hi => ?_, b, c, d, e, f, g, k⟩
  rw [sI_uI]
  show _ = if i = t then v else xN s i
  by_cases z : i = t
  · rw [if_pos ⟨rfl, z⟩, if_pos z]
  · rw [if_neg fun y => z y.2, if_neg z]; exact a i hi
theorem XR.gr0 {σ : HS} {s : XS} (h : XR σ s) {t : Nat} {v : Int32} : XR (uI σ 50 t v) (grS s 0 t v) := by
  obtain ⟨a, b, c, d, e, f, g, k⟩ := h
  refine ⟨a, fun i hi => ?_, fun i hi => ?_, d, e, f, g, k⟩
  · rw [sI_uI]
    show _ = if 0 = 0 ∧ i = t then v else xR s 0 i
    by_cases z : i = t
    · rw [if_pos ⟨rfl, z⟩, if_pos ⟨rfl, z⟩]
    · rw [if_neg fun y => z y.2, if_neg fun y => z y.2]; exact b i hi
  · show sI σ 51 i = if 1 = 0 ∧ i = t then v else xR s 1 i
    rw [if_neg (by omega)]; exact c i hi
theorem XR.gr1 {σ : HS} {s : XS} (h : XR σ s) {t : Nat} {v : Int32} : XR (uI σ 51 t v) (grS s 1 t v) := by
  obtain ⟨a, b, c, d, e, f, g, k⟩ := h
  refine ⟨a, fun i hi => ?_, fun i hi => ?_, d, e, f, g, k⟩
  · show sI σ 50 i = if 0 = 1 ∧ i = t then v else xR s 0 i
    rw [if_neg (by omega)]; exact b i hi
  · rw [sI_uI]
    show _ = if 1 = 1 ∧ i = t then v else xR s 1 i
    by_cases z : i = t
    · rw [if_pos ⟨rfl, z⟩, if_pos ⟨rfl, z⟩]
    · rw [if_neg fun y => z y.2, if_neg fun y => z y.2]; exact c i hi
theorem XR.kp {σ : HS} {s : XS} (h : XR σ s) {t : Nat} {v : Int32} : XR (uI σ 54 t v) (kpS s t v) := by
  obtain ⟨a, b, c, d, e, f, g, k⟩ := h
  refine ⟨a, b, c, d, fun i hi => ?_, f, g, k⟩
  rw [sI_uI]
  show _ = if i = t then v else xK s i
  by_cases z : i = t
  · rw [if_pos ⟨rfl, z⟩, if_pos z]
  · rw [if_neg fun y => z y.2, if_neg z]; exact e i hi
theorem XR.wk {σ : HS} {s : XS} (h : XR σ s) {t : Nat} : XR (uI (uI σ 53 t (xW s t + nI 1)) 46 11 (xA s + nI 1)) (wkS s t) := by
  obtain ⟨a, b, c, d, e, f, g, k⟩ := h
  refine ⟨a, b, c, fun i hi => ?_, e, f, ?_, ?_⟩
  · rw [sI_uI, if_neg (by omega), sI_uI]
    show _ = if i = t then xW s i + nI 1 else xW s i
    by_cases z : i = t
    · rw [if_pos ⟨rfl, z⟩, if_pos z, z]
    · rw [if_neg fun y => z y.2, if_neg z]; exact d i hi
  · rw [sI_uI, if_neg (by omega), sI_uI, if_neg (by omega)]; exact g
  · rw [sI_uI, if_pos ⟨rfl, rfl⟩]; rfl
theorem XR.re {σ : HS} {s : XS} (h : XR σ s) {v : Int32} {i : Nat} (hi : i ≠ 9 ∧ i ≠ 11) : XR (uI σ 46 i v) s := by
  obtain ⟨a, b, c, d, e, f, g, k⟩ := h
  exact ⟨a, b, c, d, e, f, by rw [sI_uI, if_neg (by omega)]; exact g, by rw [sI_uI, if_neg (by omega)]; exact k⟩
theorem XR.tl1 {σ : HS} {s : XS} (h : XR σ s) (hc : xC s < 100) {v : Int32} : XR (uI (uI σ 52 (xC s) v) 46 9 (nI (xC s + 1))) (tlS s v) := by
  obtain ⟨a, b, c, d, e, f, g, k⟩ := h
  refine ⟨a, b, c, d, e, fun i hi => ?_, by rw [sI_uI, if_pos ⟨rfl, rfl⟩]; rfl, by rw [sI_uI, if_neg (by omega), sI_uI, if_neg (by omega)]; exact k⟩
  rw [sI_uI, if_neg (by omega), sI_uI]
  show _ = (if xC s < 100 then (fun i => if i = xC s then v else xT s i) else xT s) i
  rw [if_pos hc]
  show _ = if i = xC s then v else xT s i
  by_cases z : i = xC s
  · rw [if_pos ⟨rfl, z⟩, if_pos z]
  · rw [if_neg fun y => z y.2, if_neg z]; exact f i hi
theorem XR.tl2 {σ : HS} {s : XS} (h : XR σ s) (hc : ¬ xC s < 100) {v : Int32} : XR (uI σ 46 9 (nI (xC s + 1))) (tlS s v) := by
  obtain ⟨a, b, c, d, e, f, g, k⟩ := h
  refine ⟨a, b, c, d, e, fun i hi => ?_, by rw [sI_uI, if_pos ⟨rfl, rfl⟩]; rfl, by rw [sI_uI, if_neg (by omega)]; exact k⟩
  show _ = (if xC s < 100 then (fun i => if i = xC s then v else xT s i) else xT s) i
  rw [if_neg hc]; exact f i hi
theorem nI_subN {a b : Nat} (h : b ≤ a) : nI a - nI b = nI (a - b) := by
  have h1 : nI a = nI (a - b) + nI b := by rw [nI_add, show a - b + b = a by omega]
  rw [h1, Int32.add_sub_cancel]
theorem opV_n {nm : Nat → Int32} {v : Nat} (h : v < 1000000000) : ¬ nI 1000000000 ≤ nI v ∧ opV nm (nI v) = nI v := by
  have h1 : ¬ nI 1000000000 ≤ nI v := by rw [nI_leI (by omega) (by omega)]; omega
  exact ⟨h1, if_neg h1⟩
theorem opV_m {nm : Nat → Int32} {v : Nat} (h : v < 1000000000) : ¬ nI 1000000000 ≤ -(nI v) ∧ opV nm (-(nI v)) = -(nI v) := by
  have h1 : ¬ nI 1000000000 ≤ -(nI v) := by
    rw [Int32.le_iff_toInt_le, Int32.toInt_neg, nI_toInt (by omega), nI_toInt (by omega)]
    have : (-(v : Int)).bmod 4294967296 = -(v : Int) := by rw [Int.bmod_def]; split <;> omega
    rw [show (2 : Nat) ^ 32 = 4294967296 by decide, this]
    omega
  exact ⟨h1, if_neg h1⟩
theorem opV_nm {nm : Nat → Int32} {v : Nat} (h : v < 48) : nI 1000000000 ≤ nI (1000000000 + v) ∧ opV nm (nI (1000000000 + v)) = nm v := by
  have h1 : nI 1000000000 ≤ nI (1000000000 + v) := by rw [nI_leI (by omega) (by omega)]; omega
  refine ⟨h1, ?_⟩
  unfold opV
  rw [if_pos h1, nI_subN (by omega), nI_clamp (by omega), show 1000000000 + v - 1000000000 = v by omega]
section RUNL
variable {g : GG} {σ : HS} {s : XS}
theorem z8_isName {o : Int32} : CT g mX8_isName 0 0 0 [.int o] σ (PQ σ (.int (bi (decide (nI 1000000000 ≤ o))))) := by
  refine CT.of (by decide) (Nat.le_of_ble_eq_true rfl) ?_
  refine q_iload_n dX8_isName_0 rfl rfl ?_
  refine q_ldc (v := nI 1000000000) dX8_isName_1 kX8_230 ?_
  refine q_icmp_lt (tgt := 10) dX8_isName_3 (by decide) (fun c3 => ?_) (fun c3 => ?_)
  · skip
    refine q_iconst (v := nI 0) dX8_isName_10 rfl ?_
    refine q_ireturn dX8_isName_11 rfl rfl (by omega) (by omega) ?_
    first | exact fin_t (decide_eq_true (Int32.not_lt.mp c3)) | exact fin_f (decide_eq_false (Int32.not_le.mpr c3))
  · skip
    refine q_iconst (v := nI 1) dX8_isName_6 rfl ?_
    refine q_goto (tgt := 11) dX8_isName_7 (by decide) ?_
    refine q_ireturn dX8_isName_11 rfl rfl (by omega) (by omega) ?_
    first | exact fin_t (decide_eq_true (Int32.not_lt.mp c3)) | exact fin_f (decide_eq_false (Int32.not_le.mpr c3))
theorem z3_valueOf (hS : SK σ) (hx : XR σ s) {o : Int32} (ho : OPD o) : CT g mX3_valueOf 1 0 0 [.ref 46, .int o] σ (PQ σ (.int (opV (xN s) o))) := by
  rcases ho with ⟨v, h1, rfl⟩ | ⟨v, h1, rfl⟩ | ⟨v, h1, rfl⟩
  · obtain ⟨e1, e2⟩ := opV_n (nm := xN s) h1
    refine CT.of (by decide) (Nat.le_of_ble_eq_true rfl) ?_
    refine q_iload_n dX3_valueOf_0 rfl rfl ?_
    refine q_ldc (v := nI 1000000000) dX3_valueOf_1 kX3_161 ?_
    refine q_isub dX3_valueOf_3 ?_
    refine q_istore_n dX3_valueOf_4 rfl (by decide) (ls' := [(2, .int ((nI v) - (nI 1000000000))), (0, .ref 46), (1, .int (nI v))]) rfl ?_
    refine q_iload_n dX3_valueOf_5 rfl rfl ?_
    refine q_callSN (As := [.int (nI v)]) (rest := []) dX3_valueOf_6 vX3_162 (z8_isName) rfl rfl (Nat.le_of_ble_eq_true rfl) (by omega) (by omega) (by omega) (k_p ?_)
    refine q_if_eqB (tgt := 27) dX3_valueOf_9 (by decide) (fun c9 => ?_) (fun c9 => ?_)
    · skip
      refine q_iload_n dX3_valueOf_27 rfl rfl ?_
      refine q_ireturn dX3_valueOf_28 rfl rfl (by omega) (by omega) ?_
      rw [e2]
      exact ⟨rfl, rfl⟩
    · exact absurd (of_decide_eq_true c9) e1
  · obtain ⟨e1, e2⟩ := opV_m (nm := xN s) h1
    refine CT.of (by decide) (Nat.le_of_ble_eq_true rfl) ?_
    refine q_iload_n dX3_valueOf_0 rfl rfl ?_
    refine q_ldc (v := nI 1000000000) dX3_valueOf_1 kX3_161 ?_
    refine q_isub dX3_valueOf_3 ?_
    refine q_istore_n dX3_valueOf_4 rfl (by decide) (ls' := [(2, .int ((-(nI v)) - (nI 1000000000))), (0, .ref 46), (1, .int (-(nI v)))]) rfl ?_
    refine q_iload_n dX3_valueOf_5 rfl rfl ?_
    refine q_callSN (As := [.int (-(nI v))]) (rest := []) dX3_valueOf_6 vX3_162 (z8_isName) rfl rfl (Nat.le_of_ble_eq_true rfl) (by omega) (by omega) (by omega) (k_p ?_)
    refine q_if_eqB (tgt := 27) dX3_valueOf_9 (by decide) (fun c9 => ?_) (fun c9 => ?_)
    · skip
      refine q_iload_n dX3_valueOf_27 rfl rfl ?_
      refine q_ireturn dX3_valueOf_28 rfl rfl (by omega) (by omega) ?_
      rw [e2]
      exact ⟨rfl, rfl⟩
    · exact absurd (of_decide_eq_true c9) e1
  · obtain ⟨e1, e2⟩ := opV_nm (nm := xN s) h1
    have g1 := hx.1 v h1
    refine CT.of (by decide) (Nat.le_of_ble_eq_true rfl) ?_
    refine q_iload_n dX3_valueOf_0 rfl rfl ?_
    refine q_ldc (v := nI 1000000000) dX3_valueOf_1 kX3_161 ?_
    refine q_isub dX3_valueOf_3 ?_
    refine q_top (y := nI v) (by rw [nI_subN (by omega), show 1000000000 + v - 1000000000 = v by omega]) ?_
    refine q_istore_n dX3_valueOf_4 rfl (by decide) (ls' := [(2, .int (nI v)), (0, .ref 46), (1, .int (nI (1000000000 + v)))]) rfl ?_
    refine q_iload_n dX3_valueOf_5 rfl rfl ?_
    refine q_callSN (As := [.int (nI (1000000000 + v))]) (rest := []) dX3_valueOf_6 vX3_162 (z8_isName) rfl rfl (Nat.le_of_ble_eq_true rfl) (by omega) (by omega) (by omega) (k_p ?_)
    refine q_if_eqB (tgt := 27) dX3_valueOf_9 (by decide) (fun c9 => ?_) (fun c9 => ?_)
    · exact absurd e1 (of_decide_eq_false c9)
    · skip
      refine q_iload_n dX3_valueOf_12 rfl rfl ?_
      refine q_bipush (v := nI 48) dX3_valueOf_13 rfl ?_
      refine q_icmp_geN (tgt := 27) dX3_valueOf_15 (by decide) (by omega) (by omega) (fun c15 => ?_) (fun c15 => ?_)
      · exact absurd c15 (by omega)
      · skip
        refine q_aload_n dX3_valueOf_18 rfl rfl rfl ?_
        refine q_getr (r := 48) dX3_valueOf_19 fX3_15 rfl (ty_c hS (by decide) rfl) (hS.2 46 1 48 rfl) ?_
        refine q_iload_n dX3_valueOf_22 rfl rfl ?_
        refine q_iald (x := xN s v) (j := v) dX3_valueOf_23 (ty_c hS (by decide) rfl) (ix_n (by omega) (by omega)) g1 ?_
        refine q_goto (tgt := 28) dX3_valueOf_24 (by decide) ?_
        refine q_ireturn dX3_valueOf_28 rfl rfl (by omega) (by omega) ?_
        rw [e2]
        exact ⟨rfl, rfl⟩
theorem z3_hasPlace {x y : Int32} : CT g mX3_hasPlace 0 0 0 [.int x, .int y] σ (PQ σ (.int (bi (decide ((¬ x < 0 ∧ x < nI 2) ∧ ¬ y < 0 ∧ y < nI 8))))) := by
  refine CT.of (by decide) (Nat.le_of_ble_eq_true rfl) ?_
  refine q_iload_n dX3_hasPlace_0 rfl rfl ?_
  refine q_if_lt (tgt := 23) dX3_hasPlace_1 (by decide) (fun c1 => ?_) (fun c1 => ?_)
  · skip
    refine q_iconst (v := nI 0) dX3_hasPlace_23 rfl ?_
    refine q_ireturn dX3_hasPlace_24 rfl rfl (by omega) (by omega) ?_
    first | exact fin_t (decide_eq_true ⟨⟨c1, Int32.not_le.mp c6⟩, c10, Int32.not_le.mp c16⟩) | exact fin_f (decide_eq_false fun z => z.1.1 c1) | exact fin_f (decide_eq_false fun z => (Int32.not_lt.mpr c6) z.1.2) | exact fin_f (decide_eq_false fun z => z.2.1 c10) | exact fin_f (decide_eq_false fun z => (Int32.not_lt.mpr c16) z.2.2)
  · skip
    refine q_iload_n dX3_hasPlace_4 rfl rfl ?_
    refine q_iconst (v := nI 2) dX3_hasPlace_5 rfl ?_
    refine q_icmp_ge (tgt := 23) dX3_hasPlace_6 (by decide) (fun c6 => ?_) (fun c6 => ?_)
    · skip
      refine q_iconst (v := nI 0) dX3_hasPlace_23 rfl ?_
      refine q_ireturn dX3_hasPlace_24 rfl rfl (by omega) (by omega) ?_
      first | exact fin_t (decide_eq_true ⟨⟨c1, Int32.not_le.mp c6⟩, c10, Int32.not_le.mp c16⟩) | exact fin_f (decide_eq_false fun z => z.1.1 c1) | exact fin_f (decide_eq_false fun z => (Int32.not_lt.mpr c6) z.1.2) | exact fin_f (decide_eq_false fun z => z.2.1 c10) | exact fin_f (decide_eq_false fun z => (Int32.not_lt.mpr c16) z.2.2)
    · skip
      refine q_iload_n dX3_hasPlace_9 rfl rfl ?_
      refine q_if_lt (tgt := 23) dX3_hasPlace_10 (by decide) (fun c10 => ?_) (fun c10 => ?_)
      · skip
        refine q_iconst (v := nI 0) dX3_hasPlace_23 rfl ?_
        refine q_ireturn dX3_hasPlace_24 rfl rfl (by omega) (by omega) ?_
        first | exact fin_t (decide_eq_true ⟨⟨c1, Int32.not_le.mp c6⟩, c10, Int32.not_le.mp c16⟩) | exact fin_f (decide_eq_false fun z => z.1.1 c1) | exact fin_f (decide_eq_false fun z => (Int32.not_lt.mpr c6) z.1.2) | exact fin_f (decide_eq_false fun z => z.2.1 c10) | exact fin_f (decide_eq_false fun z => (Int32.not_lt.mpr c16) z.2.2)
      · skip
        refine q_iload_n dX3_hasPlace_13 rfl rfl ?_
        refine q_bipush (v := nI 8) dX3_hasPlace_14 rfl ?_
        refine q_icmp_ge (tgt := 23) dX3_hasPlace_16 (by decide) (fun c16 => ?_) (fun c16 => ?_)
        · skip
          refine q_iconst (v := nI 0) dX3_hasPlace_23 rfl ?_
          refine q_ireturn dX3_hasPlace_24 rfl rfl (by omega) (by omega) ?_
          first | exact fin_t (decide_eq_true ⟨⟨c1, Int32.not_le.mp c6⟩, c10, Int32.not_le.mp c16⟩) | exact fin_f (decide_eq_false fun z => z.1.1 c1) | exact fin_f (decide_eq_false fun z => (Int32.not_lt.mpr c6) z.1.2) | exact fin_f (decide_eq_false fun z => z.2.1 c10) | exact fin_f (decide_eq_false fun z => (Int32.not_lt.mpr c16) z.2.2)
        · skip
          refine q_iconst (v := nI 1) dX3_hasPlace_19 rfl ?_
          refine q_goto (tgt := 24) dX3_hasPlace_20 (by decide) ?_
          refine q_ireturn dX3_hasPlace_24 rfl rfl (by omega) (by omega) ?_
          first | exact fin_t (decide_eq_true ⟨⟨c1, Int32.not_le.mp c6⟩, c10, Int32.not_le.mp c16⟩) | exact fin_f (decide_eq_false fun z => z.1.1 c1) | exact fin_f (decide_eq_false fun z => (Int32.not_lt.mpr c6) z.1.2) | exact fin_f (decide_eq_false fun z => z.2.1 c10) | exact fin_f (decide_eq_false fun z => (Int32.not_lt.mpr c16) z.2.2)
theorem z3_giveName (hS : SK σ) {t : Nat} (ht : t < 48) {v : Int32} : CT g mX3_giveName 0 0 0 [.ref 46, .int (nI t), .int v] σ (VQ (uI σ 48 t v)) := by
  refine CT.of (by decide) (Nat.le_of_ble_eq_true rfl) ?_
  refine q_iload_n dX3_giveName_0 rfl rfl ?_
  refine q_if_ltN (tgt := 17) dX3_giveName_1 (by decide) (by omega) ?_
  refine q_iload_n dX3_giveName_4 rfl rfl ?_
  refine q_bipush (v := nI 48) dX3_giveName_5 rfl ?_
  refine q_icmp_geN (tgt := 17) dX3_giveName_7 (by decide) (by omega) (by omega) (fun c7 => ?_) (fun c7 => ?_)
  · exact absurd c7 (by omega)
  · skip
    refine q_aload_n dX3_giveName_10 rfl rfl rfl ?_
    refine q_getr (r := 48) dX3_giveName_11 fX3_15 rfl (ty_c hS (by decide) rfl) (hS.2 46 1 48 rfl) ?_
    refine q_iload_n dX3_giveName_14 rfl rfl ?_
    refine q_iload_n dX3_giveName_15 rfl rfl ?_
    refine q_iast (j := t) dX3_giveName_16 (ty_c hS (by decide) rfl) (ix_n (by omega) (by omega)) ?_
    refine q_return dX3_giveName_17 rfl (by omega) (by omega) ?_
    exact ⟨rfl, rfl⟩
theorem z3_tellValue (hS : SK σ) (hx : XR σ s) (hc : xC s < 1000000) {v : Int32} : CT g mX3_tellValue 0 0 0 [.ref 46, .int v] σ (fun r σ' => r = none ∧ RFr σ σ' ∧ XR σ' (tlS s v)) := by
  have g1 := hx.2.2.2.2.2.2.1
  refine CT.of (by decide) (Nat.le_of_ble_eq_true rfl) ?_
  refine q_aload_n dX3_tellValue_0 rfl rfl rfl ?_
  refine q_geti (x := nI (xC s)) dX3_tellValue_1 fX3_76 rfl (ty_c hS (by decide) rfl) g1 ?_
  refine q_bipush (v := nI 100) dX3_tellValue_4 rfl ?_
  refine q_icmp_geN (tgt := 19) dX3_tellValue_6 (by decide) (by omega) (by omega) (fun c6 => ?_) (fun c6 => ?_)
  · skip
    refine q_aload_n dX3_tellValue_19 rfl rfl rfl ?_
    refine q_dup dX3_tellValue_20 rfl ?_
    refine q_geti (x := nI (xC s)) dX3_tellValue_21 fX3_76 rfl (ty_c hS (by decide) rfl) g1 ?_
    refine q_iconst (v := nI 1) dX3_tellValue_24 rfl ?_
    refine q_iaddN dX3_tellValue_25 ?_
    refine q_puti dX3_tellValue_26 fX3_76 rfl (Or.inl rfl) (ty_c hS (by decide) rfl) ?_
    refine q_return dX3_tellValue_29 rfl (by omega) (by omega) ?_
    first | exact ⟨rfl, (RFr.rf.uI (by decide) (by omega)).uI (by decide) (by omega), hx.tl1 (by omega)⟩ | exact ⟨rfl, RFr.rf.uI (by decide) (by omega), hx.tl2 (by omega)⟩
  · skip
    refine q_aload_n dX3_tellValue_9 rfl rfl rfl ?_
    refine q_getr (r := 52) dX3_tellValue_10 fX3_23 rfl (ty_c hS (by decide) rfl) (hS.2 46 3 52 rfl) ?_
    refine q_aload_n dX3_tellValue_13 rfl rfl rfl ?_
    refine q_geti (x := nI (xC s)) dX3_tellValue_14 fX3_76 rfl (ty_c hS (by decide) rfl) g1 ?_
    refine q_iload_n dX3_tellValue_17 rfl rfl ?_
    refine q_iast (j := (xC s)) dX3_tellValue_18 (ty_c hS (by decide) rfl) (ix_n (by omega) (by omega)) ?_
    refine q_aload_n dX3_tellValue_19 rfl rfl rfl ?_
    refine q_dup dX3_tellValue_20 rfl ?_
    refine q_geti (x := nI (xC s)) dX3_tellValue_21 fX3_76 rfl (ty_c hS (by decide) rfl) (Eq.trans (rd_off (by decide)) g1) ?_
    refine q_iconst (v := nI 1) dX3_tellValue_24 rfl ?_
    refine q_iaddN dX3_tellValue_25 ?_
    refine q_puti dX3_tellValue_26 fX3_76 rfl (Or.inl rfl) (ty_c hS (by decide) rfl) ?_
    refine q_return dX3_tellValue_29 rfl (by omega) (by omega) ?_
    first | exact ⟨rfl, (RFr.rf.uI (by decide) (by omega)).uI (by decide) (by omega), hx.tl1 (by omega)⟩ | exact ⟨rfl, RFr.rf.uI (by decide) (by omega), hx.tl2 (by omega)⟩
end RUNL
