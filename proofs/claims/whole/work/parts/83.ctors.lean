/-! What the constructors of the class and of the model make. -/
theorem zi_Tape {g : GG} {σ : HS} (hn : sN σ = 2) : CT g mX5_init 1 1 3000 [.ref 2] σ (fun r τ => r = none ∧ NW σ 1 [(0, 0, 1)] τ) := by
  refine CT.of (by decide) (Nat.le_of_ble_eq_true rfl) ?_
  have w0 : NW σ 0 [] σ := NW.rf
  refine q_aload_n dX5_init_0 rfl rfl rfl ?_
  refine q_objInit dX5_init_1 vX5_3 oi_in oi_co (by omega) (by omega) ?_
  refine q_aload_n dX5_init_4 rfl rfl rfl ?_
  refine q_sipush (v := nI 3000) dX5_init_5 rfl ?_
  refine q_newa (t := 1) (n := 3000) (h := 3) dX5_init_8 (Or.inr (Or.inl ⟨rfl, rfl⟩)) ac_byte rfl (by decide) (by have := w0.1; omega) rfl (by omega) (by omega) ?_
  have w1 := w0.nH (by decide)
  generalize nH σ = s1 at w1 ⊢
  refine q_putr dX5_init_10 fX5_9 rfl rfl (Or.inr ⟨rfl, rfl, rfl⟩) ⟨by omega, by have := w1.1; omega, rfl⟩ ?_
  have w2 := w1.uR (h := 2) (k := 0) (r := 3) (o := 0) (r2 := 1) (by omega) (by omega) (by omega)
  generalize uR s1 2 0 3 = s2 at w2 ⊢
  refine q_return dX5_init_13 rfl (by omega) (by omega) ?_
  exact ⟨rfl, w2⟩
theorem zi_Tokens {g : GG} {σ : HS} (hn : sN σ = 6) : CT g mX6_init 1 3 9003 [.ref 6] σ (fun r τ => r = none ∧ NW σ 3 [(0, 2, 3), (0, 1, 2), (0, 0, 1)] τ) := by
  refine CT.of (by decide) (Nat.le_of_ble_eq_true rfl) ?_
  have w0 : NW σ 0 [] σ := NW.rf
  refine q_aload_n dX6_init_0 rfl rfl rfl ?_
  refine q_objInit dX6_init_1 vX6_3 oi_in oi_co (by omega) (by omega) ?_
  refine q_aload_n dX6_init_4 rfl rfl rfl ?_
  refine q_sipush (v := nI 3001) dX6_init_5 rfl ?_
  refine q_newa (t := 0) (n := 3001) (h := 7) dX6_init_8 (Or.inl ⟨rfl, rfl⟩) ac_int rfl (by decide) (by have := w0.1; omega) rfl (by omega) (by omega) ?_
  have w1 := w0.nH (by decide)
  generalize nH σ = s1 at w1 ⊢
  refine q_putr dX6_init_10 fX6_9 rfl rfl (Or.inr ⟨rfl, rfl, rfl⟩) ⟨by omega, by have := w1.1; omega, rfl⟩ ?_
  have w2 := w1.uR (h := 6) (k := 0) (r := 7) (o := 0) (r2 := 1) (by omega) (by omega) (by omega)
  generalize uR s1 6 0 7 = s2 at w2 ⊢
  refine q_aload_n dX6_init_13 rfl rfl rfl ?_
  refine q_sipush (v := nI 3001) dX6_init_14 rfl ?_
  refine q_newa (t := 0) (n := 3001) (h := 8) dX6_init_17 (Or.inl ⟨rfl, rfl⟩) ac_int rfl (by decide) (by have := w2.1; omega) rfl (by omega) (by omega) ?_
  have w3 := w2.nH (by decide)
  generalize nH s2 = s3 at w3 ⊢
  refine q_putr dX6_init_19 fX6_15 rfl rfl (Or.inr ⟨rfl, rfl, rfl⟩) ⟨by omega, by have := w3.1; omega, rfl⟩ ?_
  have w4 := w3.uR (h := 6) (k := 1) (r := 8) (o := 0) (r2 := 2) (by omega) (by omega) (by omega)
  generalize uR s3 6 1 8 = s4 at w4 ⊢
  refine q_aload_n dX6_init_22 rfl rfl rfl ?_
  refine q_sipush (v := nI 3001) dX6_init_23 rfl ?_
  refine q_newa (t := 0) (n := 3001) (h := 9) dX6_init_26 (Or.inl ⟨rfl, rfl⟩) ac_int rfl (by decide) (by have := w4.1; omega) rfl (by omega) (by omega) ?_
  have w5 := w4.nH (by decide)
  generalize nH s4 = s5 at w5 ⊢
  refine q_putr dX6_init_28 fX6_18 rfl rfl (Or.inr ⟨rfl, rfl, rfl⟩) ⟨by omega, by have := w5.1; omega, rfl⟩ ?_
  have w6 := w5.uR (h := 6) (k := 2) (r := 9) (o := 0) (r2 := 3) (by omega) (by omega) (by omega)
  generalize uR s5 6 2 9 = s6 at w6 ⊢
  refine q_return dX6_init_31 rfl (by omega) (by omega) ?_
  exact ⟨rfl, w6⟩
theorem zi_Parser {g : GG} {σ : HS} (hn : sN σ = 5) : CT g mX1_init 3 40 14405 [.ref 5] σ (fun r τ => r = none ∧ NW σ 40 [(0, 5, 9), (9, 11, 30), (30, 9, 40), (30, 8, 39), (30, 7, 38), (30, 6, 37), (30, 5, 36), (30, 4, 35), (30, 3, 34), (30, 2, 33), (30, 1, 32), (30, 0, 31), (9, 10, 26), (26, 2, 29), (26, 1, 28), (26, 0, 27), (9, 9, 25), (9, 8, 24), (9, 7, 23), (9, 6, 20), (20, 1, 22), (20, 0, 21), (9, 5, 17), (17, 1, 19), (17, 0, 18), (9, 4, 16), (9, 3, 13), (13, 1, 15), (13, 0, 14), (9, 2, 12), (9, 1, 11), (9, 0, 10), (0, 2, 6), (6, 1, 8), (6, 0, 7), (0, 1, 5), (0, 0, 1), (1, 2, 4), (1, 1, 3), (1, 0, 2)] τ) := by
  refine CT.of (by decide) (Nat.le_of_ble_eq_true rfl) ?_
  have w0 : NW σ 0 [] σ := NW.rf
  refine q_aload_n dX1_init_0 rfl rfl rfl ?_
  refine q_objInit dX1_init_1 vX1_3 oi_in oi_co (by omega) (by omega) ?_
  refine q_aload_n dX1_init_4 rfl rfl rfl ?_
  refine q_newN (ci := 6) (n := 4) (h := 6) dX1_init_5 (by decide) rfl nX1_9 is6 iz6 (by have := w0.1; omega) rfl (by omega) (by omega) ?_
  have w1 := w0.nH (by decide)
  generalize nH σ = s1 at w1 ⊢
  refine q_dup dX1_init_8 rfl ?_
  refine q_callIN (As := []) (rest := [.ref 6, .ref 5]) dX1_init_9 vX1_11 (by omega) (zi_Tokens (by have := w1.1; omega)) rfl rfl (Nat.le_of_ble_eq_true rfl) (by omega) (by omega) (by omega) (k_v (fun s2 q2 => ?_))
  have w2 := w1.tr q2 (by decide)
  refine q_putr dX1_init_12 fX1_12 rfl rfl (Or.inr ⟨rfl, rfl, rfl⟩) ⟨by omega, by have := w2.1; omega, rfl⟩ ?_
  have w3 := w2.uR (h := 5) (k := 0) (r := 6) (o := 0) (r2 := 1) (by omega) (by omega) (by omega)
  generalize uR s2 5 0 6 = s3 at w3 ⊢
  refine q_aload_n dX1_init_15 rfl rfl rfl ?_
  refine q_bipush (v := nI 40) dX1_init_16 rfl ?_
  refine q_newa (t := 0) (n := 40) (h := 10) dX1_init_18 (Or.inl ⟨rfl, rfl⟩) ac_int rfl (by decide) (by have := w3.1; omega) rfl (by omega) (by omega) ?_
  have w4 := w3.nH (by decide)
  generalize nH s3 = s4 at w4 ⊢
  refine q_putr dX1_init_20 fX1_18 rfl rfl (Or.inr ⟨rfl, rfl, rfl⟩) ⟨by omega, by have := w4.1; omega, rfl⟩ ?_
  have w5 := w4.uR (h := 5) (k := 1) (r := 10) (o := 0) (r2 := 5) (by omega) (by omega) (by omega)
  generalize uR s4 5 1 10 = s5 at w5 ⊢
  refine q_aload_n dX1_init_23 rfl rfl rfl ?_
  refine q_iconst (v := nI 2) dX1_init_24 rfl ?_
  refine q_bipush (v := nI 40) dX1_init_25 rfl ?_
  refine q_mna (n := 40) (h := 11) dX1_init_27 nX1_22 ac_int rfl (by decide) (by have := w5.1; omega) rfl rfl rfl (by omega) (by omega) ?_
  have v0 := ((w5.nH (by decide)).nH (by decide)).nH (by decide)
  have v1 := v0.uR (h := 11) (k := 0) (r := 12) (o := 6) (r2 := 7) (by omega) (by omega) (by omega)
  have v2 := v1.uR (h := 11) (k := 1) (r := 13) (o := 6) (r2 := 8) (by omega) (by omega) (by omega)
  generalize uR (uR (nH (nH (nH s5))) 11 0 (11 + 1)) 11 1 (11 + 2) = s6 at v2 ⊢
  clear v0 v1
  have w6 := v2; clear v2
  refine q_putr dX1_init_31 fX1_24 rfl rfl (Or.inr ⟨rfl, rfl, rfl⟩) ⟨by omega, by have := w6.1; omega, rfl⟩ ?_
  have w7 := w6.uR (h := 5) (k := 2) (r := 11) (o := 0) (r2 := 6) (by omega) (by omega) (by omega)
  generalize uR s6 5 2 11 = s7 at w7 ⊢
  refine q_aload_n dX1_init_34 rfl rfl rfl ?_
  refine q_newN (ci := 2) (n := 17) (h := 14) dX1_init_35 (by decide) rfl nX1_27 is2 iz2 (by have := w7.1; omega) rfl (by omega) (by omega) ?_
  have w8 := w7.nH (by decide)
  generalize nH s7 = s8 at w8 ⊢
  refine q_dup dX1_init_38 rfl ?_
  refine q_callIN (As := []) (rest := [.ref 14, .ref 5]) dX1_init_39 vX1_29 (by omega) (zi_Routine (b := 14) (Or.inl rfl) (by have := w8.1; omega)) rfl rfl (Nat.le_of_ble_eq_true rfl) (by omega) (by omega) (by omega) (k_v (fun s9 q9 => ?_))
  have w9 := w8.tr q9 (by decide)
  refine q_putr dX1_init_42 fX1_30 rfl rfl (Or.inl rfl) ⟨by omega, by have := w9.1; omega, rfl⟩ ?_
  have w10 := w9.uR (h := 5) (k := 5) (r := 14) (o := 0) (r2 := 9) (by omega) (by omega) (by omega)
  generalize uR s9 5 5 14 = s10 at w10 ⊢
  refine q_return dX1_init_45 rfl (by omega) (by omega) ?_
  exact ⟨rfl, w10⟩
theorem zi_Runner {g : GG} {σ : HS} (hn : sN σ = 46) : CT g mX3_init 1 8 278 [.ref 46] σ (fun r τ => r = none ∧ NW σ 8 [(0, 5, 8), (0, 4, 7), (0, 3, 6), (0, 2, 3), (3, 1, 5), (3, 0, 4), (0, 1, 2), (0, 0, 1)] τ) := by
  refine CT.of (by decide) (Nat.le_of_ble_eq_true rfl) ?_
  have w0 : NW σ 0 [] σ := NW.rf
  refine q_aload_n dX3_init_0 rfl rfl rfl ?_
  refine q_objInit dX3_init_1 vX3_3 oi_in oi_co (by omega) (by omega) ?_
  refine q_aload_n dX3_init_4 rfl rfl rfl ?_
  refine q_bipush (v := nI 48) dX3_init_5 rfl ?_
  refine q_newa (t := 0) (n := 48) (h := 47) dX3_init_7 (Or.inl ⟨rfl, rfl⟩) ac_int rfl (by decide) (by have := w0.1; omega) rfl (by omega) (by omega) ?_
  have w1 := w0.nH (by decide)
  generalize nH σ = s1 at w1 ⊢
  refine q_putr dX3_init_9 fX3_9 rfl rfl (Or.inr ⟨rfl, rfl, rfl⟩) ⟨by omega, by have := w1.1; omega, rfl⟩ ?_
  have w2 := w1.uR (h := 46) (k := 0) (r := 47) (o := 0) (r2 := 1) (by omega) (by omega) (by omega)
  generalize uR s1 46 0 47 = s2 at w2 ⊢
  refine q_aload_n dX3_init_12 rfl rfl rfl ?_
  refine q_bipush (v := nI 48) dX3_init_13 rfl ?_
  refine q_newa (t := 0) (n := 48) (h := 48) dX3_init_15 (Or.inl ⟨rfl, rfl⟩) ac_int rfl (by decide) (by have := w2.1; omega) rfl (by omega) (by omega) ?_
  have w3 := w2.nH (by decide)
  generalize nH s2 = s3 at w3 ⊢
  refine q_putr dX3_init_17 fX3_15 rfl rfl (Or.inr ⟨rfl, rfl, rfl⟩) ⟨by omega, by have := w3.1; omega, rfl⟩ ?_
  have w4 := w3.uR (h := 46) (k := 1) (r := 48) (o := 0) (r2 := 2) (by omega) (by omega) (by omega)
  generalize uR s3 46 1 48 = s4 at w4 ⊢
  refine q_aload_n dX3_init_20 rfl rfl rfl ?_
  refine q_iconst (v := nI 2) dX3_init_21 rfl ?_
  refine q_bipush (v := nI 8) dX3_init_22 rfl ?_
  refine q_mna (n := 8) (h := 49) dX3_init_24 nX3_18 ac_int rfl (by decide) (by have := w4.1; omega) rfl rfl rfl (by omega) (by omega) ?_
  have v0 := ((w4.nH (by decide)).nH (by decide)).nH (by decide)
  have v1 := v0.uR (h := 49) (k := 0) (r := 50) (o := 3) (r2 := 4) (by omega) (by omega) (by omega)
  have v2 := v1.uR (h := 49) (k := 1) (r := 51) (o := 3) (r2 := 5) (by omega) (by omega) (by omega)
  generalize uR (uR (nH (nH (nH s4))) 49 0 (49 + 1)) 49 1 (49 + 2) = s5 at v2 ⊢
  clear v0 v1
  have w5 := v2; clear v2
  refine q_putr dX3_init_28 fX3_20 rfl rfl (Or.inr ⟨rfl, rfl, rfl⟩) ⟨by omega, by have := w5.1; omega, rfl⟩ ?_
  have w6 := w5.uR (h := 46) (k := 2) (r := 49) (o := 0) (r2 := 3) (by omega) (by omega) (by omega)
  generalize uR s5 46 2 49 = s6 at w6 ⊢
  refine q_aload_n dX3_init_31 rfl rfl rfl ?_
  refine q_bipush (v := nI 100) dX3_init_32 rfl ?_
  refine q_newa (t := 0) (n := 100) (h := 52) dX3_init_34 (Or.inl ⟨rfl, rfl⟩) ac_int rfl (by decide) (by have := w6.1; omega) rfl (by omega) (by omega) ?_
  have w7 := w6.nH (by decide)
  generalize nH s6 = s7 at w7 ⊢
  refine q_putr dX3_init_36 fX3_23 rfl rfl (Or.inr ⟨rfl, rfl, rfl⟩) ⟨by omega, by have := w7.1; omega, rfl⟩ ?_
  have w8 := w7.uR (h := 46) (k := 3) (r := 52) (o := 0) (r2 := 6) (by omega) (by omega) (by omega)
  generalize uR s7 46 3 52 = s8 at w8 ⊢
  refine q_aload_n dX3_init_39 rfl rfl rfl ?_
  refine q_bipush (v := nI 32) dX3_init_40 rfl ?_
  refine q_newa (t := 0) (n := 32) (h := 53) dX3_init_42 (Or.inl ⟨rfl, rfl⟩) ac_int rfl (by decide) (by have := w8.1; omega) rfl (by omega) (by omega) ?_
  have w9 := w8.nH (by decide)
  generalize nH s8 = s9 at w9 ⊢
  refine q_putr dX3_init_44 fX3_26 rfl rfl (Or.inr ⟨rfl, rfl, rfl⟩) ⟨by omega, by have := w9.1; omega, rfl⟩ ?_
  have w10 := w9.uR (h := 46) (k := 4) (r := 53) (o := 0) (r2 := 7) (by omega) (by omega) (by omega)
  generalize uR s9 46 4 53 = s10 at w10 ⊢
  refine q_aload_n dX3_init_47 rfl rfl rfl ?_
  refine q_bipush (v := nI 32) dX3_init_48 rfl ?_
  refine q_newa (t := 0) (n := 32) (h := 54) dX3_init_50 (Or.inl ⟨rfl, rfl⟩) ac_int rfl (by decide) (by have := w10.1; omega) rfl (by omega) (by omega) ?_
  have w11 := w10.nH (by decide)
  generalize nH s10 = s11 at w11 ⊢
  refine q_putr dX3_init_52 fX3_29 rfl rfl (Or.inr ⟨rfl, rfl, rfl⟩) ⟨by omega, by have := w11.1; omega, rfl⟩ ?_
  have w12 := w11.uR (h := 46) (k := 5) (r := 54) (o := 0) (r2 := 8) (by omega) (by omega) (by omega)
  generalize uR s11 46 5 54 = s12 at w12 ⊢
  refine q_return dX3_init_55 rfl (by omega) (by omega) ?_
  exact ⟨rfl, w12⟩
theorem zi_Writer {g : GG} {σ : HS} (hn : sN σ = 55) : CT g mX7_init 1 2 3240 [.ref 55] σ (fun r τ => r = none ∧ NW σ 2 [(0, 1, 2), (0, 0, 1)] τ) := by
  refine CT.of (by decide) (Nat.le_of_ble_eq_true rfl) ?_
  have w0 : NW σ 0 [] σ := NW.rf
  refine q_aload_n dX7_init_0 rfl rfl rfl ?_
  refine q_objInit dX7_init_1 vX7_3 oi_in oi_co (by omega) (by omega) ?_
  refine q_aload_n dX7_init_4 rfl rfl rfl ?_
  refine q_sipush (v := nI 3000) dX7_init_5 rfl ?_
  refine q_newa (t := 1) (n := 3000) (h := 56) dX7_init_8 (Or.inr (Or.inl ⟨rfl, rfl⟩)) ac_byte rfl (by decide) (by have := w0.1; omega) rfl (by omega) (by omega) ?_
  have w1 := w0.nH (by decide)
  generalize nH σ = s1 at w1 ⊢
  refine q_putr dX7_init_10 fX7_9 rfl rfl (Or.inr ⟨rfl, rfl, rfl⟩) ⟨by omega, by have := w1.1; omega, rfl⟩ ?_
  have w2 := w1.uR (h := 55) (k := 0) (r := 56) (o := 0) (r2 := 1) (by omega) (by omega) (by omega)
  generalize uR s1 55 0 56 = s2 at w2 ⊢
  refine q_aload_n dX7_init_13 rfl rfl rfl ?_
  refine q_sipush (v := nI 240) dX7_init_14 rfl ?_
  refine q_newa (t := 0) (n := 240) (h := 57) dX7_init_17 (Or.inl ⟨rfl, rfl⟩) ac_int rfl (by decide) (by have := w2.1; omega) rfl (by omega) (by omega) ?_
  have w3 := w2.nH (by decide)
  generalize nH s2 = s3 at w3 ⊢
  refine q_putr dX7_init_19 fX7_15 rfl rfl (Or.inr ⟨rfl, rfl, rfl⟩) ⟨by omega, by have := w3.1; omega, rfl⟩ ?_
  have w4 := w3.uR (h := 55) (k := 1) (r := 57) (o := 0) (r2 := 2) (by omega) (by omega) (by omega)
  generalize uR s3 55 1 57 = s4 at w4 ⊢
  refine q_return dX7_init_22 rfl (by omega) (by omega) ?_
  exact ⟨rfl, w4⟩
theorem zi_LateAndEarly {g : GG} {σ : HS} (hn : sN σ = 1) : CT g mX8_init 4 56 20953 [.ref 1] σ (fun r τ => r = none ∧ NW σ 56 [(0, 4, 54), (54, 1, 56), (54, 0, 55), (0, 3, 45), (45, 5, 53), (45, 4, 52), (45, 3, 51), (45, 2, 48), (48, 1, 50), (48, 0, 49), (45, 1, 47), (45, 0, 46), (0, 2, 4), (4, 5, 13), (13, 11, 34), (34, 9, 44), (34, 8, 43), (34, 7, 42), (34, 6, 41), (34, 5, 40), (34, 4, 39), (34, 3, 38), (34, 2, 37), (34, 1, 36), (34, 0, 35), (13, 10, 30), (30, 2, 33), (30, 1, 32), (30, 0, 31), (13, 9, 29), (13, 8, 28), (13, 7, 27), (13, 6, 24), (24, 1, 26), (24, 0, 25), (13, 5, 21), (21, 1, 23), (21, 0, 22), (13, 4, 20), (13, 3, 17), (17, 1, 19), (17, 0, 18), (13, 2, 16), (13, 1, 15), (13, 0, 14), (4, 2, 10), (10, 1, 12), (10, 0, 11), (4, 1, 9), (4, 0, 5), (5, 2, 8), (5, 1, 7), (5, 0, 6), (0, 1, 3), (0, 0, 1), (1, 0, 2)] τ) := by
  refine CT.of (by decide) (Nat.le_of_ble_eq_true rfl) ?_
  have w0 : NW σ 0 [] σ := NW.rf
  refine q_aload_n dX8_init_0 rfl rfl rfl ?_
  refine q_objInit dX8_init_1 vX8_3 oi_in oi_co (by omega) (by omega) ?_
  refine q_aload_n dX8_init_4 rfl rfl rfl ?_
  refine q_newN (ci := 5) (n := 2) (h := 2) dX8_init_5 (by decide) rfl nX8_9 is5 iz5 (by have := w0.1; omega) rfl (by omega) (by omega) ?_
  have w1 := w0.nH (by decide)
  generalize nH σ = s1 at w1 ⊢
  refine q_dup dX8_init_8 rfl ?_
  refine q_callIN (As := []) (rest := [.ref 2, .ref 1]) dX8_init_9 vX8_11 (by omega) (zi_Tape (by have := w1.1; omega)) rfl rfl (Nat.le_of_ble_eq_true rfl) (by omega) (by omega) (by omega) (k_v (fun s2 q2 => ?_))
  have w2 := w1.tr q2 (by decide)
  refine q_putr dX8_init_12 fX8_12 rfl rfl (Or.inr ⟨rfl, rfl, rfl⟩) ⟨by omega, by have := w2.1; omega, rfl⟩ ?_
  have w3 := w2.uR (h := 1) (k := 0) (r := 2) (o := 0) (r2 := 1) (by omega) (by omega) (by omega)
  generalize uR s2 1 0 2 = s3 at w3 ⊢
  refine q_aload_n dX8_init_15 rfl rfl rfl ?_
  refine q_iconst (v := nI 4) dX8_init_16 rfl ?_
  refine q_anew (n := 4) (h := 4) dX8_init_17 nX8_16 rfl (by decide) (by have := w3.1; omega) rfl (by omega) (by omega) ?_
  have w4 := w3.nH (by decide)
  generalize nH s3 = s4 at w4 ⊢
  refine q_putr dX8_init_20 fX8_18 rfl rfl (Or.inr ⟨rfl, rfl, rfl⟩) ⟨by omega, by have := w4.1; omega, rfl⟩ ?_
  have w5 := w4.uR (h := 1) (k := 1) (r := 4) (o := 0) (r2 := 3) (by omega) (by omega) (by omega)
  generalize uR s4 1 1 4 = s5 at w5 ⊢
  refine q_aload_n dX8_init_23 rfl rfl rfl ?_
  refine q_newN (ci := 1) (n := 8) (h := 5) dX8_init_24 (by decide) rfl nX8_22 is1 iz1 (by have := w5.1; omega) rfl (by omega) (by omega) ?_
  have w6 := w5.nH (by decide)
  generalize nH s5 = s6 at w6 ⊢
  refine q_dup dX8_init_27 rfl ?_
  refine q_callIN (As := []) (rest := [.ref 5, .ref 1]) dX8_init_28 vX8_24 (by omega) (zi_Parser (by have := w6.1; omega)) rfl rfl (Nat.le_of_ble_eq_true rfl) (by omega) (by omega) (by omega) (k_v (fun s7 q7 => ?_))
  have w7 := w6.tr q7 (by decide)
  refine q_putr dX8_init_31 fX8_25 rfl rfl (Or.inr ⟨rfl, rfl, rfl⟩) ⟨by omega, by have := w7.1; omega, rfl⟩ ?_
  have w8 := w7.uR (h := 1) (k := 2) (r := 5) (o := 0) (r2 := 4) (by omega) (by omega) (by omega)
  generalize uR s7 1 2 5 = s8 at w8 ⊢
  refine q_aload_n dX8_init_34 rfl rfl rfl ?_
  refine q_newN (ci := 3) (n := 12) (h := 46) dX8_init_35 (by decide) rfl nX8_29 is3 iz3 (by have := w8.1; omega) rfl (by omega) (by omega) ?_
  have w9 := w8.nH (by decide)
  generalize nH s8 = s9 at w9 ⊢
  refine q_dup dX8_init_38 rfl ?_
  refine q_callIN (As := []) (rest := [.ref 46, .ref 1]) dX8_init_39 vX8_31 (by omega) (zi_Runner (by have := w9.1; omega)) rfl rfl (Nat.le_of_ble_eq_true rfl) (by omega) (by omega) (by omega) (k_v (fun s10 q10 => ?_))
  have w10 := w9.tr q10 (by decide)
  refine q_putr dX8_init_42 fX8_32 rfl rfl (Or.inr ⟨rfl, rfl, rfl⟩) ⟨by omega, by have := w10.1; omega, rfl⟩ ?_
  have w11 := w10.uR (h := 1) (k := 3) (r := 46) (o := 0) (r2 := 45) (by omega) (by omega) (by omega)
  generalize uR s10 1 3 46 = s11 at w11 ⊢
  refine q_aload_n dX8_init_45 rfl rfl rfl ?_
  refine q_newN (ci := 7) (n := 4) (h := 55) dX8_init_46 (by decide) rfl nX8_36 is7 iz7 (by have := w11.1; omega) rfl (by omega) (by omega) ?_
  have w12 := w11.nH (by decide)
  generalize nH s11 = s12 at w12 ⊢
  refine q_dup dX8_init_49 rfl ?_
  refine q_callIN (As := []) (rest := [.ref 55, .ref 1]) dX8_init_50 vX8_38 (by omega) (zi_Writer (by have := w12.1; omega)) rfl rfl (Nat.le_of_ble_eq_true rfl) (by omega) (by omega) (by omega) (k_v (fun s13 q13 => ?_))
  have w13 := w12.tr q13 (by decide)
  refine q_putr dX8_init_53 fX8_39 rfl rfl (Or.inr ⟨rfl, rfl, rfl⟩) ⟨by omega, by have := w13.1; omega, rfl⟩ ?_
  have w14 := w13.uR (h := 1) (k := 4) (r := 55) (o := 0) (r2 := 54) (by omega) (by omega) (by omega)
  generalize uR s13 1 4 55 = s14 at w14 ⊢
  refine q_return dX8_init_56 rfl (by omega) (by omega) ?_
  exact ⟨rfl, w14⟩
theorem zi_Model {g : GG} {σ : HS} (hn : sN σ = 58) (hz : (∀ i, sI σ 58 i = 0) ∧ ∀ i, sL σ 58 i = 0) : CT g mX9_init 1 40 117376 [.ref 58] σ (fun r τ => r = none ∧ NW σ 40 [(0, 61, 40), (0, 59, 39), (0, 58, 38), (0, 57, 37), (0, 50, 36), (0, 49, 35), (0, 48, 34), (0, 47, 33), (0, 46, 32), (0, 45, 31), (0, 44, 30), (0, 43, 29), (0, 42, 28), (0, 40, 27), (0, 39, 26), (0, 31, 25), (0, 30, 24), (0, 29, 23), (0, 28, 22), (0, 27, 21), (0, 26, 20), (0, 25, 19), (0, 24, 18), (0, 23, 17), (0, 22, 16), (0, 21, 15), (0, 20, 14), (0, 19, 13), (0, 18, 12), (0, 17, 11), (0, 16, 10), (0, 15, 9), (0, 14, 8), (0, 13, 7), (0, 12, 6), (0, 11, 5), (0, 10, 4), (0, 9, 3), (0, 8, 2), (0, 0, 1)] τ) := by
  refine CT.of (by decide) (Nat.le_of_ble_eq_true rfl) ?_
  have w0 : NW σ 0 [] σ := NW.rf
  refine q_aload_n dX9_init_0 rfl rfl rfl ?_
  refine q_objInit dX9_init_1 vX9_1 oi_in oi_co (by omega) (by omega) ?_
  refine q_aload_n dX9_init_4 rfl rfl rfl ?_
  refine q_sipush (v := nI 3000) dX9_init_5 rfl ?_
  refine q_newa (t := 0) (n := 3000) (h := 59) dX9_init_8 (Or.inl ⟨rfl, rfl⟩) ac_int rfl (by decide) (by have := w0.1; omega) rfl (by omega) (by omega) ?_
  have w1 := w0.nH (by decide)
  generalize nH σ = s1 at w1 ⊢
  refine q_putr dX9_init_10 fX9_7 rfl rfl (Or.inr ⟨rfl, rfl, rfl⟩) ⟨by omega, by have := w1.1; omega, rfl⟩ ?_
  have w2 := w1.uR (h := 58) (k := 0) (r := 59) (o := 0) (r2 := 1) (by omega) (by omega) (by omega)
  generalize uR s1 58 0 59 = s2 at w2 ⊢
  refine q_aload_n dX9_init_13 rfl rfl rfl ?_
  refine q_iconst (v := nI 0) dX9_init_14 rfl ?_
  refine q_puti dX9_init_15 fX9_13 rfl (Or.inl rfl) ⟨by omega, by have := w2.1; omega, rfl⟩ ?_
  have w3 := w2.uI0 (h := 58) (i := 1) hz.1
  generalize uI s2 58 1 (nI 0) = s3 at w3 ⊢
  refine q_aload_n dX9_init_18 rfl rfl rfl ?_
  refine q_iconst (v := nI 0) dX9_init_19 rfl ?_
  refine q_puti dX9_init_20 fX9_17 rfl (Or.inl rfl) ⟨by omega, by have := w3.1; omega, rfl⟩ ?_
  have w4 := w3.uI0 (h := 58) (i := 2) hz.1
  generalize uI s3 58 2 (nI 0) = s4 at w4 ⊢
  refine q_aload_n dX9_init_23 rfl rfl rfl ?_
  refine q_iconst (v := nI 0) dX9_init_24 rfl ?_
  refine q_puti dX9_init_25 fX9_20 rfl (Or.inl rfl) ⟨by omega, by have := w4.1; omega, rfl⟩ ?_
  have w5 := w4.uI0 (h := 58) (i := 3) hz.1
  generalize uI s4 58 3 (nI 0) = s5 at w5 ⊢
  refine q_aload_n dX9_init_28 rfl rfl rfl ?_
  refine q_iconst (v := nI 0) dX9_init_29 rfl ?_
  refine q_puti dX9_init_30 fX9_23 rfl (Or.inl rfl) ⟨by omega, by have := w5.1; omega, rfl⟩ ?_
  have w6 := w5.uI0 (h := 58) (i := 4) hz.1
  generalize uI s5 58 4 (nI 0) = s6 at w6 ⊢
  refine q_aload_n dX9_init_33 rfl rfl rfl ?_
  refine q_iconst (v := nI 0) dX9_init_34 rfl ?_
  refine q_puti dX9_init_35 fX9_26 rfl (Or.inl rfl) ⟨by omega, by have := w6.1; omega, rfl⟩ ?_
  have w7 := w6.uI0 (h := 58) (i := 5) hz.1
  generalize uI s6 58 5 (nI 0) = s7 at w7 ⊢
  refine q_aload_n dX9_init_38 rfl rfl rfl ?_
  refine q_iconst (v := nI 0) dX9_init_39 rfl ?_
  refine q_puti dX9_init_40 fX9_29 rfl (Or.inl rfl) ⟨by omega, by have := w7.1; omega, rfl⟩ ?_
  have w8 := w7.uI0 (h := 58) (i := 6) hz.1
  generalize uI s7 58 6 (nI 0) = s8 at w8 ⊢
  refine q_aload_n dX9_init_43 rfl rfl rfl ?_
  refine q_lconst (v := (0 : Int64)) dX9_init_44 rfl ?_
  refine q_putl dX9_init_45 fX9_32 rfl (Or.inl rfl) ⟨by omega, by have := w8.1; omega, rfl⟩ ?_
  have w9 := w8.uL0 (h := 58) (i := 7) hz.2
  generalize uL s8 58 7 0 = s9 at w9 ⊢
  refine q_aload_n dX9_init_48 rfl rfl rfl ?_
  refine q_iconst (v := nI 5) dX9_init_49 rfl ?_
  refine q_newa (t := 2) (n := 5) (h := 60) dX9_init_50 (Or.inr (Or.inr ⟨rfl, rfl⟩)) ac_boolean rfl (by decide) (by have := w9.1; omega) rfl (by omega) (by omega) ?_
  have w10 := w9.nH (by decide)
  generalize nH s9 = s10 at w10 ⊢
  refine q_putr dX9_init_52 fX9_36 rfl rfl (Or.inr ⟨rfl, rfl, rfl⟩) ⟨by omega, by have := w10.1; omega, rfl⟩ ?_
  have w11 := w10.uR (h := 58) (k := 8) (r := 60) (o := 0) (r2 := 2) (by omega) (by omega) (by omega)
  generalize uR s10 58 8 60 = s11 at w11 ⊢
  refine q_aload_n dX9_init_55 rfl rfl rfl ?_
  refine q_iconst (v := nI 5) dX9_init_56 rfl ?_
  refine q_newa (t := 0) (n := 5) (h := 61) dX9_init_57 (Or.inl ⟨rfl, rfl⟩) ac_int rfl (by decide) (by have := w11.1; omega) rfl (by omega) (by omega) ?_
  have w12 := w11.nH (by decide)
  generalize nH s11 = s12 at w12 ⊢
  refine q_putr dX9_init_59 fX9_40 rfl rfl (Or.inr ⟨rfl, rfl, rfl⟩) ⟨by omega, by have := w12.1; omega, rfl⟩ ?_
  have w13 := w12.uR (h := 58) (k := 9) (r := 61) (o := 0) (r2 := 3) (by omega) (by omega) (by omega)
  generalize uR s12 58 9 61 = s13 at w13 ⊢
  refine q_aload_n dX9_init_62 rfl rfl rfl ?_
  refine q_iconst (v := nI 5) dX9_init_63 rfl ?_
  refine q_newa (t := 0) (n := 5) (h := 62) dX9_init_64 (Or.inl ⟨rfl, rfl⟩) ac_int rfl (by decide) (by have := w13.1; omega) rfl (by omega) (by omega) ?_
  have w14 := w13.nH (by decide)
  generalize nH s13 = s14 at w14 ⊢
  refine q_putr dX9_init_66 fX9_43 rfl rfl (Or.inr ⟨rfl, rfl, rfl⟩) ⟨by omega, by have := w14.1; omega, rfl⟩ ?_
  have w15 := w14.uR (h := 58) (k := 10) (r := 62) (o := 0) (r2 := 4) (by omega) (by omega) (by omega)
  generalize uR s14 58 10 62 = s15 at w15 ⊢
  refine q_aload_n dX9_init_69 rfl rfl rfl ?_
  refine q_iconst (v := nI 5) dX9_init_70 rfl ?_
  refine q_newa (t := 0) (n := 5) (h := 63) dX9_init_71 (Or.inl ⟨rfl, rfl⟩) ac_int rfl (by decide) (by have := w15.1; omega) rfl (by omega) (by omega) ?_
  have w16 := w15.nH (by decide)
  generalize nH s15 = s16 at w16 ⊢
  refine q_putr dX9_init_73 fX9_46 rfl rfl (Or.inr ⟨rfl, rfl, rfl⟩) ⟨by omega, by have := w16.1; omega, rfl⟩ ?_
  have w17 := w16.uR (h := 58) (k := 11) (r := 63) (o := 0) (r2 := 5) (by omega) (by omega) (by omega)
  generalize uR s16 58 11 63 = s17 at w17 ⊢
  refine q_aload_n dX9_init_76 rfl rfl rfl ?_
  refine q_iconst (v := nI 5) dX9_init_77 rfl ?_
  refine q_newa (t := 0) (n := 5) (h := 64) dX9_init_78 (Or.inl ⟨rfl, rfl⟩) ac_int rfl (by decide) (by have := w17.1; omega) rfl (by omega) (by omega) ?_
  have w18 := w17.nH (by decide)
  generalize nH s17 = s18 at w18 ⊢
  refine q_putr dX9_init_80 fX9_49 rfl rfl (Or.inr ⟨rfl, rfl, rfl⟩) ⟨by omega, by have := w18.1; omega, rfl⟩ ?_
  have w19 := w18.uR (h := 58) (k := 12) (r := 64) (o := 0) (r2 := 6) (by omega) (by omega) (by omega)
  generalize uR s18 58 12 64 = s19 at w19 ⊢
  refine q_aload_n dX9_init_83 rfl rfl rfl ?_
  refine q_sipush (v := nI 205) dX9_init_84 rfl ?_
  refine q_newa (t := 0) (n := 205) (h := 65) dX9_init_87 (Or.inl ⟨rfl, rfl⟩) ac_int rfl (by decide) (by have := w19.1; omega) rfl (by omega) (by omega) ?_
  have w20 := w19.nH (by decide)
  generalize nH s19 = s20 at w20 ⊢
  refine q_putr dX9_init_89 fX9_52 rfl rfl (Or.inr ⟨rfl, rfl, rfl⟩) ⟨by omega, by have := w20.1; omega, rfl⟩ ?_
  have w21 := w20.uR (h := 58) (k := 13) (r := 65) (o := 0) (r2 := 7) (by omega) (by omega) (by omega)
  generalize uR s20 58 13 65 = s21 at w21 ⊢
  refine q_aload_n dX9_init_92 rfl rfl rfl ?_
  refine q_sipush (v := nI 205) dX9_init_93 rfl ?_
  refine q_newa (t := 0) (n := 205) (h := 66) dX9_init_96 (Or.inl ⟨rfl, rfl⟩) ac_int rfl (by decide) (by have := w21.1; omega) rfl (by omega) (by omega) ?_
  have w22 := w21.nH (by decide)
  generalize nH s21 = s22 at w22 ⊢
  refine q_putr dX9_init_98 fX9_55 rfl rfl (Or.inr ⟨rfl, rfl, rfl⟩) ⟨by omega, by have := w22.1; omega, rfl⟩ ?_
  have w23 := w22.uR (h := 58) (k := 14) (r := 66) (o := 0) (r2 := 8) (by omega) (by omega) (by omega)
  generalize uR s22 58 14 66 = s23 at w23 ⊢
  refine q_aload_n dX9_init_101 rfl rfl rfl ?_
  refine q_sipush (v := nI 1200) dX9_init_102 rfl ?_
  refine q_newa (t := 0) (n := 1200) (h := 67) dX9_init_105 (Or.inl ⟨rfl, rfl⟩) ac_int rfl (by decide) (by have := w23.1; omega) rfl (by omega) (by omega) ?_
  have w24 := w23.nH (by decide)
  generalize nH s23 = s24 at w24 ⊢
  refine q_putr dX9_init_107 fX9_58 rfl rfl (Or.inr ⟨rfl, rfl, rfl⟩) ⟨by omega, by have := w24.1; omega, rfl⟩ ?_
  have w25 := w24.uR (h := 58) (k := 15) (r := 67) (o := 0) (r2 := 9) (by omega) (by omega) (by omega)
  generalize uR s24 58 15 67 = s25 at w25 ⊢
  refine q_aload_n dX9_init_110 rfl rfl rfl ?_
  refine q_sipush (v := nI 1200) dX9_init_111 rfl ?_
  refine q_newa (t := 0) (n := 1200) (h := 68) dX9_init_114 (Or.inl ⟨rfl, rfl⟩) ac_int rfl (by decide) (by have := w25.1; omega) rfl (by omega) (by omega) ?_
  have w26 := w25.nH (by decide)
  generalize nH s25 = s26 at w26 ⊢
  refine q_putr dX9_init_116 fX9_61 rfl rfl (Or.inr ⟨rfl, rfl, rfl⟩) ⟨by omega, by have := w26.1; omega, rfl⟩ ?_
  have w27 := w26.uR (h := 58) (k := 16) (r := 68) (o := 0) (r2 := 10) (by omega) (by omega) (by omega)
  generalize uR s26 58 16 68 = s27 at w27 ⊢
  refine q_aload_n dX9_init_119 rfl rfl rfl ?_
  refine q_sipush (v := nI 1200) dX9_init_120 rfl ?_
  refine q_newa (t := 0) (n := 1200) (h := 69) dX9_init_123 (Or.inl ⟨rfl, rfl⟩) ac_int rfl (by decide) (by have := w27.1; omega) rfl (by omega) (by omega) ?_
  have w28 := w27.nH (by decide)
  generalize nH s27 = s28 at w28 ⊢
  refine q_putr dX9_init_125 fX9_64 rfl rfl (Or.inr ⟨rfl, rfl, rfl⟩) ⟨by omega, by have := w28.1; omega, rfl⟩ ?_
  have w29 := w28.uR (h := 58) (k := 17) (r := 69) (o := 0) (r2 := 11) (by omega) (by omega) (by omega)
  generalize uR s28 58 17 69 = s29 at w29 ⊢
  refine q_aload_n dX9_init_128 rfl rfl rfl ?_
  refine q_sipush (v := nI 1200) dX9_init_129 rfl ?_
  refine q_newa (t := 0) (n := 1200) (h := 70) dX9_init_132 (Or.inl ⟨rfl, rfl⟩) ac_int rfl (by decide) (by have := w29.1; omega) rfl (by omega) (by omega) ?_
  have w30 := w29.nH (by decide)
  generalize nH s29 = s30 at w30 ⊢
  refine q_putr dX9_init_134 fX9_67 rfl rfl (Or.inr ⟨rfl, rfl, rfl⟩) ⟨by omega, by have := w30.1; omega, rfl⟩ ?_
  have w31 := w30.uR (h := 58) (k := 18) (r := 70) (o := 0) (r2 := 12) (by omega) (by omega) (by omega)
  generalize uR s30 58 18 70 = s31 at w31 ⊢
  refine q_aload_n dX9_init_137 rfl rfl rfl ?_
  refine q_sipush (v := nI 1200) dX9_init_138 rfl ?_
  refine q_newa (t := 0) (n := 1200) (h := 71) dX9_init_141 (Or.inl ⟨rfl, rfl⟩) ac_int rfl (by decide) (by have := w31.1; omega) rfl (by omega) (by omega) ?_
  have w32 := w31.nH (by decide)
  generalize nH s31 = s32 at w32 ⊢
  refine q_putr dX9_init_143 fX9_70 rfl rfl (Or.inr ⟨rfl, rfl, rfl⟩) ⟨by omega, by have := w32.1; omega, rfl⟩ ?_
  have w33 := w32.uR (h := 58) (k := 19) (r := 71) (o := 0) (r2 := 13) (by omega) (by omega) (by omega)
  generalize uR s32 58 19 71 = s33 at w33 ⊢
  refine q_aload_n dX9_init_146 rfl rfl rfl ?_
  refine q_sipush (v := nI 1200) dX9_init_147 rfl ?_
  refine q_newa (t := 0) (n := 1200) (h := 72) dX9_init_150 (Or.inl ⟨rfl, rfl⟩) ac_int rfl (by decide) (by have := w33.1; omega) rfl (by omega) (by omega) ?_
  have w34 := w33.nH (by decide)
  generalize nH s33 = s34 at w34 ⊢
  refine q_putr dX9_init_152 fX9_73 rfl rfl (Or.inr ⟨rfl, rfl, rfl⟩) ⟨by omega, by have := w34.1; omega, rfl⟩ ?_
  have w35 := w34.uR (h := 58) (k := 20) (r := 72) (o := 0) (r2 := 14) (by omega) (by omega) (by omega)
  generalize uR s34 58 20 72 = s35 at w35 ⊢
  refine q_aload_n dX9_init_155 rfl rfl rfl ?_
  refine q_sipush (v := nI 1200) dX9_init_156 rfl ?_
  refine q_newa (t := 0) (n := 1200) (h := 73) dX9_init_159 (Or.inl ⟨rfl, rfl⟩) ac_int rfl (by decide) (by have := w35.1; omega) rfl (by omega) (by omega) ?_
  have w36 := w35.nH (by decide)
  generalize nH s35 = s36 at w36 ⊢
  refine q_putr dX9_init_161 fX9_76 rfl rfl (Or.inr ⟨rfl, rfl, rfl⟩) ⟨by omega, by have := w36.1; omega, rfl⟩ ?_
  have w37 := w36.uR (h := 58) (k := 21) (r := 73) (o := 0) (r2 := 15) (by omega) (by omega) (by omega)
  generalize uR s36 58 21 73 = s37 at w37 ⊢
  refine q_aload_n dX9_init_164 rfl rfl rfl ?_
  refine q_sipush (v := nI 1200) dX9_init_165 rfl ?_
  refine q_newa (t := 0) (n := 1200) (h := 74) dX9_init_168 (Or.inl ⟨rfl, rfl⟩) ac_int rfl (by decide) (by have := w37.1; omega) rfl (by omega) (by omega) ?_
  have w38 := w37.nH (by decide)
  generalize nH s37 = s38 at w38 ⊢
  refine q_putr dX9_init_170 fX9_79 rfl rfl (Or.inr ⟨rfl, rfl, rfl⟩) ⟨by omega, by have := w38.1; omega, rfl⟩ ?_
  have w39 := w38.uR (h := 58) (k := 22) (r := 74) (o := 0) (r2 := 16) (by omega) (by omega) (by omega)
  generalize uR s38 58 22 74 = s39 at w39 ⊢
  refine q_aload_n dX9_init_173 rfl rfl rfl ?_
  refine q_sipush (v := nI 1200) dX9_init_174 rfl ?_
  refine q_newa (t := 0) (n := 1200) (h := 75) dX9_init_177 (Or.inl ⟨rfl, rfl⟩) ac_int rfl (by decide) (by have := w39.1; omega) rfl (by omega) (by omega) ?_
  have w40 := w39.nH (by decide)
  generalize nH s39 = s40 at w40 ⊢
  refine q_putr dX9_init_179 fX9_82 rfl rfl (Or.inr ⟨rfl, rfl, rfl⟩) ⟨by omega, by have := w40.1; omega, rfl⟩ ?_
  have w41 := w40.uR (h := 58) (k := 23) (r := 75) (o := 0) (r2 := 17) (by omega) (by omega) (by omega)
  generalize uR s40 58 23 75 = s41 at w41 ⊢
  refine q_aload_n dX9_init_182 rfl rfl rfl ?_
  refine q_sipush (v := nI 1200) dX9_init_183 rfl ?_
  refine q_newa (t := 0) (n := 1200) (h := 76) dX9_init_186 (Or.inl ⟨rfl, rfl⟩) ac_int rfl (by decide) (by have := w41.1; omega) rfl (by omega) (by omega) ?_
  have w42 := w41.nH (by decide)
  generalize nH s41 = s42 at w42 ⊢
  refine q_putr dX9_init_188 fX9_85 rfl rfl (Or.inr ⟨rfl, rfl, rfl⟩) ⟨by omega, by have := w42.1; omega, rfl⟩ ?_
  have w43 := w42.uR (h := 58) (k := 24) (r := 76) (o := 0) (r2 := 18) (by omega) (by omega) (by omega)
  generalize uR s42 58 24 76 = s43 at w43 ⊢
  refine q_aload_n dX9_init_191 rfl rfl rfl ?_
  refine q_sipush (v := nI 1200) dX9_init_192 rfl ?_
  refine q_newa (t := 0) (n := 1200) (h := 77) dX9_init_195 (Or.inl ⟨rfl, rfl⟩) ac_int rfl (by decide) (by have := w43.1; omega) rfl (by omega) (by omega) ?_
  have w44 := w43.nH (by decide)
  generalize nH s43 = s44 at w44 ⊢
  refine q_putr dX9_init_197 fX9_88 rfl rfl (Or.inr ⟨rfl, rfl, rfl⟩) ⟨by omega, by have := w44.1; omega, rfl⟩ ?_
  have w45 := w44.uR (h := 58) (k := 25) (r := 77) (o := 0) (r2 := 19) (by omega) (by omega) (by omega)
  generalize uR s44 58 25 77 = s45 at w45 ⊢
  refine q_aload_n dX9_init_200 rfl rfl rfl ?_
  refine q_sipush (v := nI 160) dX9_init_201 rfl ?_
  refine q_newa (t := 0) (n := 160) (h := 78) dX9_init_204 (Or.inl ⟨rfl, rfl⟩) ac_int rfl (by decide) (by have := w45.1; omega) rfl (by omega) (by omega) ?_
  have w46 := w45.nH (by decide)
  generalize nH s45 = s46 at w46 ⊢
  refine q_putr dX9_init_206 fX9_91 rfl rfl (Or.inr ⟨rfl, rfl, rfl⟩) ⟨by omega, by have := w46.1; omega, rfl⟩ ?_
  have w47 := w46.uR (h := 58) (k := 26) (r := 78) (o := 0) (r2 := 20) (by omega) (by omega) (by omega)
  generalize uR s46 58 26 78 = s47 at w47 ⊢
  refine q_aload_n dX9_init_209 rfl rfl rfl ?_
  refine q_sipush (v := nI 160) dX9_init_210 rfl ?_
  refine q_newa (t := 0) (n := 160) (h := 79) dX9_init_213 (Or.inl ⟨rfl, rfl⟩) ac_int rfl (by decide) (by have := w47.1; omega) rfl (by omega) (by omega) ?_
  have w48 := w47.nH (by decide)
  generalize nH s47 = s48 at w48 ⊢
  refine q_putr dX9_init_215 fX9_94 rfl rfl (Or.inr ⟨rfl, rfl, rfl⟩) ⟨by omega, by have := w48.1; omega, rfl⟩ ?_
  have w49 := w48.uR (h := 58) (k := 27) (r := 79) (o := 0) (r2 := 21) (by omega) (by omega) (by omega)
  generalize uR s48 58 27 79 = s49 at w49 ⊢
  refine q_aload_n dX9_init_218 rfl rfl rfl ?_
  refine q_sipush (v := nI 160) dX9_init_219 rfl ?_
  refine q_newa (t := 0) (n := 160) (h := 80) dX9_init_222 (Or.inl ⟨rfl, rfl⟩) ac_int rfl (by decide) (by have := w49.1; omega) rfl (by omega) (by omega) ?_
  have w50 := w49.nH (by decide)
  generalize nH s49 = s50 at w50 ⊢
  refine q_putr dX9_init_224 fX9_97 rfl rfl (Or.inr ⟨rfl, rfl, rfl⟩) ⟨by omega, by have := w50.1; omega, rfl⟩ ?_
  have w51 := w50.uR (h := 58) (k := 28) (r := 80) (o := 0) (r2 := 22) (by omega) (by omega) (by omega)
  generalize uR s50 58 28 80 = s51 at w51 ⊢
  refine q_aload_n dX9_init_227 rfl rfl rfl ?_
  refine q_sipush (v := nI 160) dX9_init_228 rfl ?_
  refine q_newa (t := 0) (n := 160) (h := 81) dX9_init_231 (Or.inl ⟨rfl, rfl⟩) ac_int rfl (by decide) (by have := w51.1; omega) rfl (by omega) (by omega) ?_
  have w52 := w51.nH (by decide)
  generalize nH s51 = s52 at w52 ⊢
  refine q_putr dX9_init_233 fX9_100 rfl rfl (Or.inr ⟨rfl, rfl, rfl⟩) ⟨by omega, by have := w52.1; omega, rfl⟩ ?_
  have w53 := w52.uR (h := 58) (k := 29) (r := 81) (o := 0) (r2 := 23) (by omega) (by omega) (by omega)
  generalize uR s52 58 29 81 = s53 at w53 ⊢
  refine q_aload_n dX9_init_236 rfl rfl rfl ?_
  refine q_sipush (v := nI 160) dX9_init_237 rfl ?_
  refine q_newa (t := 0) (n := 160) (h := 82) dX9_init_240 (Or.inl ⟨rfl, rfl⟩) ac_int rfl (by decide) (by have := w53.1; omega) rfl (by omega) (by omega) ?_
  have w54 := w53.nH (by decide)
  generalize nH s53 = s54 at w54 ⊢
  refine q_putr dX9_init_242 fX9_103 rfl rfl (Or.inr ⟨rfl, rfl, rfl⟩) ⟨by omega, by have := w54.1; omega, rfl⟩ ?_
  have w55 := w54.uR (h := 58) (k := 30) (r := 82) (o := 0) (r2 := 24) (by omega) (by omega) (by omega)
  generalize uR s54 58 30 82 = s55 at w55 ⊢
  refine q_aload_n dX9_init_245 rfl rfl rfl ?_
  refine q_ldc (v := nI 38400) dX9_init_246 kX9_106 ?_
  refine q_newa (t := 0) (n := 38400) (h := 83) dX9_init_248 (Or.inl ⟨rfl, rfl⟩) ac_int rfl (by decide) (by have := w55.1; omega) rfl (by omega) (by omega) ?_
  have w56 := w55.nH (by decide)
  generalize nH s55 = s56 at w56 ⊢
  refine q_putr dX9_init_250 fX9_107 rfl rfl (Or.inr ⟨rfl, rfl, rfl⟩) ⟨by omega, by have := w56.1; omega, rfl⟩ ?_
  have w57 := w56.uR (h := 58) (k := 31) (r := 83) (o := 0) (r2 := 25) (by omega) (by omega) (by omega)
  generalize uR s56 58 31 83 = s57 at w57 ⊢
  refine q_aload_n dX9_init_253 rfl rfl rfl ?_
  refine q_iconst (v := nI 0) dX9_init_254 rfl ?_
  refine q_puti dX9_init_255 fX9_110 rfl (Or.inl rfl) ⟨by omega, by have := w57.1; omega, rfl⟩ ?_
  have w58 := w57.uI0 (h := 58) (i := 32) hz.1
  generalize uI s57 58 32 (nI 0) = s58 at w58 ⊢
  refine q_aload_n dX9_init_258 rfl rfl rfl ?_
  refine q_iconst (v := nI 0) dX9_init_259 rfl ?_
  refine q_puti dX9_init_260 fX9_113 rfl (Or.inl rfl) ⟨by omega, by have := w58.1; omega, rfl⟩ ?_
  have w59 := w58.uI0 (h := 58) (i := 33) hz.1
  generalize uI s58 58 33 (nI 0) = s59 at w59 ⊢
  refine q_aload_n dX9_init_263 rfl rfl rfl ?_
  refine q_iconst (v := nI 0) dX9_init_264 rfl ?_
  refine q_puti dX9_init_265 fX9_116 rfl (Or.inl rfl) ⟨by omega, by have := w59.1; omega, rfl⟩ ?_
  have w60 := w59.uI0 (h := 58) (i := 34) hz.1
  generalize uI s59 58 34 (nI 0) = s60 at w60 ⊢
  refine q_aload_n dX9_init_268 rfl rfl rfl ?_
  refine q_iconst (v := nI 0) dX9_init_269 rfl ?_
  refine q_puti dX9_init_270 fX9_119 rfl (Or.inl rfl) ⟨by omega, by have := w60.1; omega, rfl⟩ ?_
  have w61 := w60.uI0 (h := 58) (i := 35) hz.1
  generalize uI s60 58 35 (nI 0) = s61 at w61 ⊢
  refine q_aload_n dX9_init_273 rfl rfl rfl ?_
  refine q_iconst (v := nI 0) dX9_init_274 rfl ?_
  refine q_puti dX9_init_275 fX9_122 rfl (Or.inl rfl) ⟨by omega, by have := w61.1; omega, rfl⟩ ?_
  have w62 := w61.uI0 (h := 58) (i := 36) hz.1
  generalize uI s61 58 36 (nI 0) = s62 at w62 ⊢
  refine q_aload_n dX9_init_278 rfl rfl rfl ?_
  refine q_iconst (v := nI 0) dX9_init_279 rfl ?_
  refine q_puti dX9_init_280 fX9_125 rfl (Or.inl rfl) ⟨by omega, by have := w62.1; omega, rfl⟩ ?_
  have w63 := w62.uI0 (h := 58) (i := 37) hz.1
  generalize uI s62 58 37 (nI 0) = s63 at w63 ⊢
  refine q_aload_n dX9_init_283 rfl rfl rfl ?_
  refine q_iconst (v := nI 0) dX9_init_284 rfl ?_
  refine q_putz dX9_init_285 fX9_128 rfl (Or.inl rfl) ⟨by omega, by have := w63.1; omega, rfl⟩ (Or.inl rfl) ?_
  have w64 := w63.uI0 (h := 58) (i := 38) hz.1
  generalize uI s63 58 38 (nI 0) = s64 at w64 ⊢
  refine q_aload_n dX9_init_288 rfl rfl rfl ?_
  refine q_sipush (v := nI 200) dX9_init_289 rfl ?_
  refine q_newa (t := 0) (n := 200) (h := 84) dX9_init_292 (Or.inl ⟨rfl, rfl⟩) ac_int rfl (by decide) (by have := w64.1; omega) rfl (by omega) (by omega) ?_
  have w65 := w64.nH (by decide)
  generalize nH s64 = s65 at w65 ⊢
  refine q_putr dX9_init_294 fX9_132 rfl rfl (Or.inr ⟨rfl, rfl, rfl⟩) ⟨by omega, by have := w65.1; omega, rfl⟩ ?_
  have w66 := w65.uR (h := 58) (k := 39) (r := 84) (o := 0) (r2 := 26) (by omega) (by omega) (by omega)
  generalize uR s65 58 39 84 = s66 at w66 ⊢
  refine q_aload_n dX9_init_297 rfl rfl rfl ?_
  refine q_sipush (v := nI 200) dX9_init_298 rfl ?_
  refine q_newa (t := 0) (n := 200) (h := 85) dX9_init_301 (Or.inl ⟨rfl, rfl⟩) ac_int rfl (by decide) (by have := w66.1; omega) rfl (by omega) (by omega) ?_
  have w67 := w66.nH (by decide)
  generalize nH s66 = s67 at w67 ⊢
  refine q_putr dX9_init_303 fX9_135 rfl rfl (Or.inr ⟨rfl, rfl, rfl⟩) ⟨by omega, by have := w67.1; omega, rfl⟩ ?_
  have w68 := w67.uR (h := 58) (k := 40) (r := 85) (o := 0) (r2 := 27) (by omega) (by omega) (by omega)
  generalize uR s67 58 40 85 = s68 at w68 ⊢
  refine q_aload_n dX9_init_306 rfl rfl rfl ?_
  refine q_iconst (v := nI 0) dX9_init_307 rfl ?_
  refine q_puti dX9_init_308 fX9_138 rfl (Or.inl rfl) ⟨by omega, by have := w68.1; omega, rfl⟩ ?_
  have w69 := w68.uI0 (h := 58) (i := 41) hz.1
  generalize uI s68 58 41 (nI 0) = s69 at w69 ⊢
  refine q_aload_n dX9_init_311 rfl rfl rfl ?_
  refine q_bipush (v := nI 40) dX9_init_312 rfl ?_
  refine q_newa (t := 2) (n := 40) (h := 86) dX9_init_314 (Or.inr (Or.inr ⟨rfl, rfl⟩)) ac_boolean rfl (by decide) (by have := w69.1; omega) rfl (by omega) (by omega) ?_
  have w70 := w69.nH (by decide)
  generalize nH s69 = s70 at w70 ⊢
  refine q_putr dX9_init_316 fX9_141 rfl rfl (Or.inr ⟨rfl, rfl, rfl⟩) ⟨by omega, by have := w70.1; omega, rfl⟩ ?_
  have w71 := w70.uR (h := 58) (k := 42) (r := 86) (o := 0) (r2 := 28) (by omega) (by omega) (by omega)
  generalize uR s70 58 42 86 = s71 at w71 ⊢
  refine q_aload_n dX9_init_319 rfl rfl rfl ?_
  refine q_bipush (v := nI 40) dX9_init_320 rfl ?_
  refine q_newa (t := 0) (n := 40) (h := 87) dX9_init_322 (Or.inl ⟨rfl, rfl⟩) ac_int rfl (by decide) (by have := w71.1; omega) rfl (by omega) (by omega) ?_
  have w72 := w71.nH (by decide)
  generalize nH s71 = s72 at w72 ⊢
  refine q_putr dX9_init_324 fX9_144 rfl rfl (Or.inr ⟨rfl, rfl, rfl⟩) ⟨by omega, by have := w72.1; omega, rfl⟩ ?_
  have w73 := w72.uR (h := 58) (k := 43) (r := 87) (o := 0) (r2 := 29) (by omega) (by omega) (by omega)
  generalize uR s72 58 43 87 = s73 at w73 ⊢
  refine q_aload_n dX9_init_327 rfl rfl rfl ?_
  refine q_sipush (v := nI 240) dX9_init_328 rfl ?_
  refine q_newa (t := 2) (n := 240) (h := 88) dX9_init_331 (Or.inr (Or.inr ⟨rfl, rfl⟩)) ac_boolean rfl (by decide) (by have := w73.1; omega) rfl (by omega) (by omega) ?_
  have w74 := w73.nH (by decide)
  generalize nH s73 = s74 at w74 ⊢
  refine q_putr dX9_init_333 fX9_147 rfl rfl (Or.inr ⟨rfl, rfl, rfl⟩) ⟨by omega, by have := w74.1; omega, rfl⟩ ?_
  have w75 := w74.uR (h := 58) (k := 44) (r := 88) (o := 0) (r2 := 30) (by omega) (by omega) (by omega)
  generalize uR s74 58 44 88 = s75 at w75 ⊢
  refine q_aload_n dX9_init_336 rfl rfl rfl ?_
  refine q_bipush (v := nI 48) dX9_init_337 rfl ?_
  refine q_newa (t := 0) (n := 48) (h := 89) dX9_init_339 (Or.inl ⟨rfl, rfl⟩) ac_int rfl (by decide) (by have := w75.1; omega) rfl (by omega) (by omega) ?_
  have w76 := w75.nH (by decide)
  generalize nH s75 = s76 at w76 ⊢
  refine q_putr dX9_init_341 fX9_150 rfl rfl (Or.inr ⟨rfl, rfl, rfl⟩) ⟨by omega, by have := w76.1; omega, rfl⟩ ?_
  have w77 := w76.uR (h := 58) (k := 45) (r := 89) (o := 0) (r2 := 31) (by omega) (by omega) (by omega)
  generalize uR s76 58 45 89 = s77 at w77 ⊢
  refine q_aload_n dX9_init_344 rfl rfl rfl ?_
  refine q_bipush (v := nI 48) dX9_init_345 rfl ?_
  refine q_newa (t := 0) (n := 48) (h := 90) dX9_init_347 (Or.inl ⟨rfl, rfl⟩) ac_int rfl (by decide) (by have := w77.1; omega) rfl (by omega) (by omega) ?_
  have w78 := w77.nH (by decide)
  generalize nH s77 = s78 at w78 ⊢
  refine q_putr dX9_init_349 fX9_153 rfl rfl (Or.inr ⟨rfl, rfl, rfl⟩) ⟨by omega, by have := w78.1; omega, rfl⟩ ?_
  have w79 := w78.uR (h := 58) (k := 46) (r := 90) (o := 0) (r2 := 32) (by omega) (by omega) (by omega)
  generalize uR s78 58 46 90 = s79 at w79 ⊢
  refine q_aload_n dX9_init_352 rfl rfl rfl ?_
  refine q_bipush (v := nI 16) dX9_init_353 rfl ?_
  refine q_newa (t := 0) (n := 16) (h := 91) dX9_init_355 (Or.inl ⟨rfl, rfl⟩) ac_int rfl (by decide) (by have := w79.1; omega) rfl (by omega) (by omega) ?_
  have w80 := w79.nH (by decide)
  generalize nH s79 = s80 at w80 ⊢
  refine q_putr dX9_init_357 fX9_156 rfl rfl (Or.inr ⟨rfl, rfl, rfl⟩) ⟨by omega, by have := w80.1; omega, rfl⟩ ?_
  have w81 := w80.uR (h := 58) (k := 47) (r := 91) (o := 0) (r2 := 33) (by omega) (by omega) (by omega)
  generalize uR s80 58 47 91 = s81 at w81 ⊢
  refine q_aload_n dX9_init_360 rfl rfl rfl ?_
  refine q_bipush (v := nI 32) dX9_init_361 rfl ?_
  refine q_newa (t := 0) (n := 32) (h := 92) dX9_init_363 (Or.inl ⟨rfl, rfl⟩) ac_int rfl (by decide) (by have := w81.1; omega) rfl (by omega) (by omega) ?_
  have w82 := w81.nH (by decide)
  generalize nH s81 = s82 at w82 ⊢
  refine q_putr dX9_init_365 fX9_159 rfl rfl (Or.inr ⟨rfl, rfl, rfl⟩) ⟨by omega, by have := w82.1; omega, rfl⟩ ?_
  have w83 := w82.uR (h := 58) (k := 48) (r := 92) (o := 0) (r2 := 34) (by omega) (by omega) (by omega)
  generalize uR s82 58 48 92 = s83 at w83 ⊢
  refine q_aload_n dX9_init_368 rfl rfl rfl ?_
  refine q_bipush (v := nI 32) dX9_init_369 rfl ?_
  refine q_newa (t := 0) (n := 32) (h := 93) dX9_init_371 (Or.inl ⟨rfl, rfl⟩) ac_int rfl (by decide) (by have := w83.1; omega) rfl (by omega) (by omega) ?_
  have w84 := w83.nH (by decide)
  generalize nH s83 = s84 at w84 ⊢
  refine q_putr dX9_init_373 fX9_162 rfl rfl (Or.inr ⟨rfl, rfl, rfl⟩) ⟨by omega, by have := w84.1; omega, rfl⟩ ?_
  have w85 := w84.uR (h := 58) (k := 49) (r := 93) (o := 0) (r2 := 35) (by omega) (by omega) (by omega)
  generalize uR s84 58 49 93 = s85 at w85 ⊢
  refine q_aload_n dX9_init_376 rfl rfl rfl ?_
  refine q_bipush (v := nI 100) dX9_init_377 rfl ?_
  refine q_newa (t := 0) (n := 100) (h := 94) dX9_init_379 (Or.inl ⟨rfl, rfl⟩) ac_int rfl (by decide) (by have := w85.1; omega) rfl (by omega) (by omega) ?_
  have w86 := w85.nH (by decide)
  generalize nH s85 = s86 at w86 ⊢
  refine q_putr dX9_init_381 fX9_165 rfl rfl (Or.inr ⟨rfl, rfl, rfl⟩) ⟨by omega, by have := w86.1; omega, rfl⟩ ?_
  have w87 := w86.uR (h := 58) (k := 50) (r := 94) (o := 0) (r2 := 36) (by omega) (by omega) (by omega)
  generalize uR s86 58 50 94 = s87 at w87 ⊢
  refine q_aload_n dX9_init_384 rfl rfl rfl ?_
  refine q_iconst (v := nI 0) dX9_init_385 rfl ?_
  refine q_puti dX9_init_386 fX9_168 rfl (Or.inl rfl) ⟨by omega, by have := w87.1; omega, rfl⟩ ?_
  have w88 := w87.uI0 (h := 58) (i := 51) hz.1
  generalize uI s87 58 51 (nI 0) = s88 at w88 ⊢
  refine q_aload_n dX9_init_389 rfl rfl rfl ?_
  refine q_iconst (v := nI 0) dX9_init_390 rfl ?_
  refine q_puti dX9_init_391 fX9_171 rfl (Or.inl rfl) ⟨by omega, by have := w88.1; omega, rfl⟩ ?_
  have w89 := w88.uI0 (h := 58) (i := 52) hz.1
  generalize uI s88 58 52 (nI 0) = s89 at w89 ⊢
  refine q_aload_n dX9_init_394 rfl rfl rfl ?_
  refine q_iconst (v := nI 0) dX9_init_395 rfl ?_
  refine q_puti dX9_init_396 fX9_174 rfl (Or.inl rfl) ⟨by omega, by have := w89.1; omega, rfl⟩ ?_
  have w90 := w89.uI0 (h := 58) (i := 53) hz.1
  generalize uI s89 58 53 (nI 0) = s90 at w90 ⊢
  refine q_aload_n dX9_init_399 rfl rfl rfl ?_
  refine q_iconst (v := nI 0) dX9_init_400 rfl ?_
  refine q_puti dX9_init_401 fX9_177 rfl (Or.inl rfl) ⟨by omega, by have := w90.1; omega, rfl⟩ ?_
  have w91 := w90.uI0 (h := 58) (i := 54) hz.1
  generalize uI s90 58 54 (nI 0) = s91 at w91 ⊢
  refine q_aload_n dX9_init_404 rfl rfl rfl ?_
  refine q_iconst (v := nI 0) dX9_init_405 rfl ?_
  refine q_puti dX9_init_406 fX9_180 rfl (Or.inl rfl) ⟨by omega, by have := w91.1; omega, rfl⟩ ?_
  have w92 := w91.uI0 (h := 58) (i := 55) hz.1
  generalize uI s91 58 55 (nI 0) = s92 at w92 ⊢
  refine q_aload_n dX9_init_409 rfl rfl rfl ?_
  refine q_iconst (v := nI 0) dX9_init_410 rfl ?_
  refine q_putz dX9_init_411 fX9_183 rfl (Or.inl rfl) ⟨by omega, by have := w92.1; omega, rfl⟩ (Or.inl rfl) ?_
  have w93 := w92.uI0 (h := 58) (i := 56) hz.1
  generalize uI s92 58 56 (nI 0) = s93 at w93 ⊢
  refine q_aload_n dX9_init_414 rfl rfl rfl ?_
  refine q_iconst (v := nI 5) dX9_init_415 rfl ?_
  refine q_newa (t := 0) (n := 5) (h := 95) dX9_init_416 (Or.inl ⟨rfl, rfl⟩) ac_int rfl (by decide) (by have := w93.1; omega) rfl (by omega) (by omega) ?_
  have w94 := w93.nH (by decide)
  generalize nH s93 = s94 at w94 ⊢
  refine q_putr dX9_init_418 fX9_186 rfl rfl (Or.inr ⟨rfl, rfl, rfl⟩) ⟨by omega, by have := w94.1; omega, rfl⟩ ?_
  have w95 := w94.uR (h := 58) (k := 57) (r := 95) (o := 0) (r2 := 37) (by omega) (by omega) (by omega)
  generalize uR s94 58 57 95 = s95 at w95 ⊢
  refine q_aload_n dX9_init_421 rfl rfl rfl ?_
  refine q_sipush (v := nI 300) dX9_init_422 rfl ?_
  refine q_newa (t := 0) (n := 300) (h := 96) dX9_init_425 (Or.inl ⟨rfl, rfl⟩) ac_int rfl (by decide) (by have := w95.1; omega) rfl (by omega) (by omega) ?_
  have w96 := w95.nH (by decide)
  generalize nH s95 = s96 at w96 ⊢
  refine q_putr dX9_init_427 fX9_189 rfl rfl (Or.inr ⟨rfl, rfl, rfl⟩) ⟨by omega, by have := w96.1; omega, rfl⟩ ?_
  have w97 := w96.uR (h := 58) (k := 58) (r := 96) (o := 0) (r2 := 38) (by omega) (by omega) (by omega)
  generalize uR s96 58 58 96 = s97 at w97 ⊢
  refine q_aload_n dX9_init_430 rfl rfl rfl ?_
  refine q_ldc (v := nI 60000) dX9_init_431 kX9_192 ?_
  refine q_newa (t := 0) (n := 60000) (h := 97) dX9_init_433 (Or.inl ⟨rfl, rfl⟩) ac_int rfl (by decide) (by have := w97.1; omega) rfl (by omega) (by omega) ?_
  have w98 := w97.nH (by decide)
  generalize nH s97 = s98 at w98 ⊢
  refine q_putr dX9_init_435 fX9_193 rfl rfl (Or.inr ⟨rfl, rfl, rfl⟩) ⟨by omega, by have := w98.1; omega, rfl⟩ ?_
  have w99 := w98.uR (h := 58) (k := 59) (r := 97) (o := 0) (r2 := 39) (by omega) (by omega) (by omega)
  generalize uR s98 58 59 97 = s99 at w99 ⊢
  refine q_aload_n dX9_init_438 rfl rfl rfl ?_
  refine q_iconst (v := nI 0) dX9_init_439 rfl ?_
  refine q_puti dX9_init_440 fX9_196 rfl (Or.inl rfl) ⟨by omega, by have := w99.1; omega, rfl⟩ ?_
  have w100 := w99.uI0 (h := 58) (i := 60) hz.1
  generalize uI s99 58 60 (nI 0) = s100 at w100 ⊢
  refine q_aload_n dX9_init_443 rfl rfl rfl ?_
  refine q_sipush (v := nI 240) dX9_init_444 rfl ?_
  refine q_newa (t := 0) (n := 240) (h := 98) dX9_init_447 (Or.inl ⟨rfl, rfl⟩) ac_int rfl (by decide) (by have := w100.1; omega) rfl (by omega) (by omega) ?_
  have w101 := w100.nH (by decide)
  generalize nH s100 = s101 at w101 ⊢
  refine q_putr dX9_init_449 fX9_199 rfl rfl (Or.inr ⟨rfl, rfl, rfl⟩) ⟨by omega, by have := w101.1; omega, rfl⟩ ?_
  have w102 := w101.uR (h := 58) (k := 61) (r := 98) (o := 0) (r2 := 40) (by omega) (by omega) (by omega)
  generalize uR s101 58 61 98 = s102 at w102 ⊢
  refine q_return dX9_init_452 rfl (by omega) (by omega) ?_
  exact ⟨rfl, w102⟩

