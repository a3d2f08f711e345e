/-! The model: hasT. -/
theorem sAn_16 {x : SUM} (hx : SMW x) : nI 16 ≤ sAn x ↔ (!decide (x.1 = nI 114) && oT x.2.1) = true := by
  unfold sAn
  rcases hx with ⟨a, b, -⟩ | ⟨a, -, -⟩
  · rw [if_neg (isO_r a), decide_eq_false (isO_r a), opn_16 b]; rfl
  · rw [if_pos a, decide_eq_true a]
    exact ⟨fun z => absurd z (by decide), fun z => by cases z⟩
theorem b_t {p : Prop} {b : Bool} (h : p ↔ b = true) (z : p) : b = true := h.mp z
theorem b_f {p : Prop} {b : Bool} (h : p ↔ b = true) (z : ¬ p) : b = false := by
  cases e : b
  · rfl
  · exact absurd (h.mpr e) z
section MHT
variable {g : GG} {σ : HS} {q : PS} {i : Nat}
theorem y9_ht162 (hS : SK σ) (hi : i < 4) (hr : MR σ i q) (hk : MOK q) {x : Bool} : ∀ (f e : Nat), e + f = (psM q).length → WA g mX9_hasT 0 0 0 (ZM g (PQ σ (.int (bi (x || tSs q (psM q).length)))) 0 0) 0 0 162 [(0, .ref 58), (1, .int (nI i)), (2, .int (bi (x || tSs q e))), (3, .int (nI (32 * i + e)))] [] σ := by
  have h32 := hk.2.1.2.2.2.1
  have r64 := hr.1.2.2.2.1
  intro f
  induction f with
  | zero =>
    intro e he
    have ee : e = (psM q).length := by omega
    subst ee
    refine q_iload_n dX9_hasT_162 rfl rfl ?_
    refine q_bipush (v := nI 32) dX9_hasT_163 rfl ?_
    refine q_iload_n dX9_hasT_165 rfl rfl ?_
    refine q_imulN dX9_hasT_166 ?_
    refine q_aload_n dX9_hasT_167 rfl rfl rfl ?_
    refine q_getr (r := 64) dX9_hasT_168 fX9_49 rfl (ty_c hS (by decide) rfl) (hS.2 58 12 64 rfl) ?_
    refine q_iload_n dX9_hasT_171 rfl rfl ?_
    refine q_iald (x := nI ((psM q).length)) (j := i) dX9_hasT_172 (ty_c hS (by decide) rfl) (ix_n (by omega) (by omega)) r64 ?_
    refine q_iaddN dX9_hasT_173 ?_
    refine q_icmp_geN (tgt := 215) dX9_hasT_174 (by decide) (by omega) (by omega) (fun c174 => ?_) (fun c174 => ?_)
    · skip
      refine q_iload_n dX9_hasT_215 rfl rfl ?_
      refine q_ireturn dX9_hasT_216 rfl (bi_nar _) (by omega) (by omega) ?_
      exact ⟨rfl, rfl⟩
    · exact absurd c174 (by omega)
  | succ f ih =>
    intro e he
    have hx : SMW (sm q e) := sm_w hk.2.1 (e := e) (by omega)
    obtain ⟨m1, m2, m3, m4, m5⟩ := hr.1.2.2.2.2.2.2 e (by omega)
    have i1 := sAn_16 hx
    have i2 := opn_16 (opv_d hx).2
    have hv : (x || tSs q (e + 1)) = ((x || tSs q e) || ((!decide ((sm q e).1 = nI 114) && oT (sm q e).2.1) || oT (sm q e).2.2)) := by rw [tSs_s, Bool.or_assoc]; rfl
    have hI := ih (e + 1) (by omega)
    rw [hv] at hI
    refine q_iload_n dX9_hasT_162 rfl rfl ?_
    refine q_bipush (v := nI 32) dX9_hasT_163 rfl ?_
    refine q_iload_n dX9_hasT_165 rfl rfl ?_
    refine q_imulN dX9_hasT_166 ?_
    refine q_aload_n dX9_hasT_167 rfl rfl rfl ?_
    refine q_getr (r := 64) dX9_hasT_168 fX9_49 rfl (ty_c hS (by decide) rfl) (hS.2 58 12 64 rfl) ?_
    refine q_iload_n dX9_hasT_171 rfl rfl ?_
    refine q_iald (x := nI ((psM q).length)) (j := i) dX9_hasT_172 (ty_c hS (by decide) rfl) (ix_n (by omega) (by omega)) r64 ?_
    refine q_iaddN dX9_hasT_173 ?_
    refine q_icmp_geN (tgt := 215) dX9_hasT_174 (by decide) (by omega) (by omega) (fun c174 => ?_) (fun c174 => ?_)
    · exact absurd c174 (by omega)
    · skip
      refine q_iload_n dX9_hasT_177 rfl rfl ?_
      refine q_if_neB (tgt := 203) dX9_hasT_178 (by decide) (fun c178 => ?_) (fun c178 => ?_)
      · skip
        refine q_iconst (v := nI 1) dX9_hasT_203 rfl ?_
        refine q_goto (tgt := 208) dX9_hasT_204 (by decide) ?_
        refine q_top (y := bi ((x || tSs q e) || ((!decide ((sm q e).1 = nI 114) && oT (sm q e).2.1) || oT (sm q e).2.2))) (by first | (rw [c178]; rfl) | (rw [c178, b189]; rfl) | (rw [c178, b189, b200]; rfl)) ?_
        refine q_istore_n dX9_hasT_208 rfl (by decide) (ls' := [(2, .int (bi ((x || tSs q e) || ((!decide ((sm q e).1 = nI 114) && oT (sm q e).2.1) || oT (sm q e).2.2)))), (0, .ref 58), (1, .int (nI i)), (3, .int (nI (32 * i + e)))]) rfl ?_
        refine q_iincN (c := 1) dX9_hasT_209 rfl (by decide) rfl (ls' := [(3, .int (nI (32 * i + e + 1))), (2, .int (bi ((x || tSs q e) || ((!decide ((sm q e).1 = nI 114) && oT (sm q e).2.1) || oT (sm q e).2.2)))), (0, .ref 58), (1, .int (nI i))]) rfl ?_
        refine q_goto (tgt := 162) dX9_hasT_212 (by decide) ?_
        refine q_pk [2, 3, 1, 0] (ls' := [(0, .ref 58), (1, .int (nI i)), (2, .int (bi ((x || tSs q e) || ((!decide ((sm q e).1 = nI 114) && oT (sm q e).2.1) || oT (sm q e).2.2)))), (3, .int (nI (32 * i + e + 1)))]) rfl ?_
        exact hI
      · skip
        refine q_aload_n dX9_hasT_181 rfl rfl rfl ?_
        refine q_getr (r := 79) dX9_hasT_182 fX9_94 rfl (ty_c hS (by decide) rfl) (hS.2 58 27 79 rfl) ?_
        refine q_iload_n dX9_hasT_185 rfl rfl ?_
        refine q_iald (x := sAn (sm q e)) (j := (32 * i + e)) dX9_hasT_186 (ty_c hS (by decide) rfl) (ix_n (by omega) (by omega)) m2 ?_
        refine q_bipush (v := nI 16) dX9_hasT_187 rfl ?_
        refine q_icmp_ge (tgt := 203) dX9_hasT_189 (by decide) (fun c189 => ?_) (fun c189 => ?_)
        · have b189 := b_t i1 c189
          refine q_iconst (v := nI 1) dX9_hasT_203 rfl ?_
          refine q_goto (tgt := 208) dX9_hasT_204 (by decide) ?_
          refine q_top (y := bi ((x || tSs q e) || ((!decide ((sm q e).1 = nI 114) && oT (sm q e).2.1) || oT (sm q e).2.2))) (by first | (rw [c178]; rfl) | (rw [c178, b189]; rfl) | (rw [c178, b189, b200]; rfl)) ?_
          refine q_istore_n dX9_hasT_208 rfl (by decide) (ls' := [(2, .int (bi ((x || tSs q e) || ((!decide ((sm q e).1 = nI 114) && oT (sm q e).2.1) || oT (sm q e).2.2)))), (0, .ref 58), (1, .int (nI i)), (3, .int (nI (32 * i + e)))]) rfl ?_
          refine q_iincN (c := 1) dX9_hasT_209 rfl (by decide) rfl (ls' := [(3, .int (nI (32 * i + e + 1))), (2, .int (bi ((x || tSs q e) || ((!decide ((sm q e).1 = nI 114) && oT (sm q e).2.1) || oT (sm q e).2.2)))), (0, .ref 58), (1, .int (nI i))]) rfl ?_
          refine q_goto (tgt := 162) dX9_hasT_212 (by decide) ?_
          refine q_pk [2, 3, 1, 0] (ls' := [(0, .ref 58), (1, .int (nI i)), (2, .int (bi ((x || tSs q e) || ((!decide ((sm q e).1 = nI 114) && oT (sm q e).2.1) || oT (sm q e).2.2)))), (3, .int (nI (32 * i + e + 1)))]) rfl ?_
          exact hI
        · have b189 := b_f i1 c189
          refine q_aload_n dX9_hasT_192 rfl rfl rfl ?_
          refine q_getr (r := 81) dX9_hasT_193 fX9_100 rfl (ty_c hS (by decide) rfl) (hS.2 58 29 81 rfl) ?_
          refine q_iload_n dX9_hasT_196 rfl rfl ?_
          refine q_iald (x := opn (sm q e).2.2) (j := (32 * i + e)) dX9_hasT_197 (ty_c hS (by decide) rfl) (ix_n (by omega) (by omega)) m4 ?_
          refine q_bipush (v := nI 16) dX9_hasT_198 rfl ?_
          refine q_icmp_lt (tgt := 207) dX9_hasT_200 (by decide) (fun c200 => ?_) (fun c200 => ?_)
          · have b200 := b_f i2 (Int32.not_le.mpr c200)
            refine q_iconst (v := nI 0) dX9_hasT_207 rfl ?_
            refine q_top (y := bi ((x || tSs q e) || ((!decide ((sm q e).1 = nI 114) && oT (sm q e).2.1) || oT (sm q e).2.2))) (by first | (rw [c178]; rfl) | (rw [c178, b189]; rfl) | (rw [c178, b189, b200]; rfl)) ?_
            refine q_istore_n dX9_hasT_208 rfl (by decide) (ls' := [(2, .int (bi ((x || tSs q e) || ((!decide ((sm q e).1 = nI 114) && oT (sm q e).2.1) || oT (sm q e).2.2)))), (0, .ref 58), (1, .int (nI i)), (3, .int (nI (32 * i + e)))]) rfl ?_
            refine q_iincN (c := 1) dX9_hasT_209 rfl (by decide) rfl (ls' := [(3, .int (nI (32 * i + e + 1))), (2, .int (bi ((x || tSs q e) || ((!decide ((sm q e).1 = nI 114) && oT (sm q e).2.1) || oT (sm q e).2.2)))), (0, .ref 58), (1, .int (nI i))]) rfl ?_
            refine q_goto (tgt := 162) dX9_hasT_212 (by decide) ?_
            refine q_pk [2, 3, 1, 0] (ls' := [(0, .ref 58), (1, .int (nI i)), (2, .int (bi ((x || tSs q e) || ((!decide ((sm q e).1 = nI 114) && oT (sm q e).2.1) || oT (sm q e).2.2)))), (3, .int (nI (32 * i + e + 1)))]) rfl ?_
            exact hI
          · have b200 := b_t i2 (Int32.not_lt.mp c200)
            refine q_iconst (v := nI 1) dX9_hasT_203 rfl ?_
            refine q_goto (tgt := 208) dX9_hasT_204 (by decide) ?_
            refine q_top (y := bi ((x || tSs q e) || ((!decide ((sm q e).1 = nI 114) && oT (sm q e).2.1) || oT (sm q e).2.2))) (by first | (rw [c178]; rfl) | (rw [c178, b189]; rfl) | (rw [c178, b189, b200]; rfl)) ?_
            refine q_istore_n dX9_hasT_208 rfl (by decide) (ls' := [(2, .int (bi ((x || tSs q e) || ((!decide ((sm q e).1 = nI 114) && oT (sm q e).2.1) || oT (sm q e).2.2)))), (0, .ref 58), (1, .int (nI i)), (3, .int (nI (32 * i + e)))]) rfl ?_
            refine q_iincN (c := 1) dX9_hasT_209 rfl (by decide) rfl (ls' := [(3, .int (nI (32 * i + e + 1))), (2, .int (bi ((x || tSs q e) || ((!decide ((sm q e).1 = nI 114) && oT (sm q e).2.1) || oT (sm q e).2.2)))), (0, .ref 58), (1, .int (nI i))]) rfl ?_
            refine q_goto (tgt := 162) dX9_hasT_212 (by decide) ?_
            refine q_pk [2, 3, 1, 0] (ls' := [(0, .ref 58), (1, .int (nI i)), (2, .int (bi ((x || tSs q e) || ((!decide ((sm q e).1 = nI 114) && oT (sm q e).2.1) || oT (sm q e).2.2)))), (3, .int (nI (32 * i + e + 1)))]) rfl ?_
            exact hI
theorem y9_ht8 (hS : SK σ) (hi : i < 4) (hr : MR σ i q) (hk : MOK q) : ∀ (f n : Nat), n + f = (psS q).length → WA g mX9_hasT 0 0 0 (ZM g (PQ σ (.int (bi (tMs q (psS q).length || tSs q (psM q).length)))) 0 0) 0 0 8 [(0, .ref 58), (1, .int (nI i)), (2, .int (bi (tMs q n))), (3, .int (nI (240 * i + n)))] [] σ := by
  have hN := NN_le hk.1
  have h160 := hk.1.2.2.1
  have r63 := hr.1.2.2.1
  intro f
  induction f with
  | zero =>
    intro n hn
    have ee : n = (psS q).length := by omega
    subst ee
    have hI := y9_ht162 (g := g) hS hi hr hk (x := tMs q (psS q).length) (psM q).length 0 (by omega)
    rw [show (tMs q (psS q).length || tSs q 0) = tMs q (psS q).length from Bool.or_false _] at hI
    refine q_iload_n dX9_hasT_8 rfl rfl ?_
    refine q_sipush (v := nI 240) dX9_hasT_9 rfl ?_
    refine q_iload_n dX9_hasT_12 rfl rfl ?_
    refine q_imulN dX9_hasT_13 ?_
    refine q_aload_n dX9_hasT_14 rfl rfl rfl ?_
    refine q_getr (r := 63) dX9_hasT_15 fX9_46 rfl (ty_c hS (by decide) rfl) (hS.2 58 11 63 rfl) ?_
    refine q_iload_n dX9_hasT_18 rfl rfl ?_
    refine q_iald (x := nI ((psS q).length)) (j := i) dX9_hasT_19 (ty_c hS (by decide) rfl) (ix_n (by omega) (by omega)) r63 ?_
    refine q_iaddN dX9_hasT_20 ?_
    refine q_icmp_geN (tgt := 157) dX9_hasT_21 (by decide) (by omega) (by omega) (fun c21 => ?_) (fun c21 => ?_)
    · skip
      refine q_bipush (v := nI 32) dX9_hasT_157 rfl ?_
      refine q_iload_n dX9_hasT_159 rfl rfl ?_
      refine q_imulN dX9_hasT_160 ?_
      refine q_istore_n dX9_hasT_161 rfl (by decide) (ls' := [(3, .int (nI (32 * i))), (0, .ref 58), (1, .int (nI i)), (2, .int (bi (tMs q (psS q).length)))]) rfl ?_
      refine q_pk [1, 2, 3, 0] (ls' := [(0, .ref 58), (1, .int (nI i)), (2, .int (bi (tMs q (psS q).length))), (3, .int (nI (32 * i)))]) rfl ?_
      exact hI
    · exact absurd c21 (by omega)
  | succ f ih =>
    intro n hn
    have hn0 : n < (psS q).length := by omega
    have hnN : n < NN q := by unfold NN; omega
    obtain ⟨⟨n1, -, n3, -, n5, n6, -⟩, -⟩ := hr.1.2.2.2.2.2.1 n hnN
    obtain ⟨o1, o2⟩ := rg_opd hk.2.1 (n := n)
    have i1 := opn_16 o1
    have i2 := opn_16 o2
    have k6 : rK (rg q n) ≤ 6 := by rw [show rg q n = rr q n from if_pos hn0]; exact (st_w hk.2.1 hn0).1
    have hI := ih (n + 1) (by omega)
    rw [tMs_s] at hI
    have hcase := rg_cases hk.2.1 hk.2.2.2.1 hnN
    rcases hcase with ⟨k0, ⟨t, t1, t2⟩, -⟩ | ⟨k0, ⟨t, t1, t2⟩, -⟩ | ⟨k0, -⟩ | ⟨k0, k7, -⟩
    · skip
      have hv : tM (rg q n) = (decide (nI 16 ≤ nI t)) := by unfold tM; rw [k0, t2]; simp
      rw [hv] at hI
      have i0 : 16 ≤ t ↔ decide (nI 16 ≤ nI t) = true := by rw [decide_eq_true_iff, nI_leI (by omega) (by omega)]
      refine q_iload_n dX9_hasT_8 rfl rfl ?_
      refine q_sipush (v := nI 240) dX9_hasT_9 rfl ?_
      refine q_iload_n dX9_hasT_12 rfl rfl ?_
      refine q_imulN dX9_hasT_13 ?_
      refine q_aload_n dX9_hasT_14 rfl rfl rfl ?_
      refine q_getr (r := 63) dX9_hasT_15 fX9_46 rfl (ty_c hS (by decide) rfl) (hS.2 58 11 63 rfl) ?_
      refine q_iload_n dX9_hasT_18 rfl rfl ?_
      refine q_iald (x := nI ((psS q).length)) (j := i) dX9_hasT_19 (ty_c hS (by decide) rfl) (ix_n (by omega) (by omega)) r63 ?_
      refine q_iaddN dX9_hasT_20 ?_
      refine q_icmp_geN (tgt := 157) dX9_hasT_21 (by decide) (by omega) (by omega) (fun c21 => ?_) (fun c21 => ?_)
      · exact absurd c21 (by omega)
      · skip
        refine q_aload_n dX9_hasT_24 rfl rfl rfl ?_
        refine q_getr (r := 67) dX9_hasT_25 fX9_58 rfl (ty_c hS (by decide) rfl) (hS.2 58 15 67 rfl) ?_
        refine q_iload_n dX9_hasT_28 rfl rfl ?_
        refine q_iald (x := nI 0) (j := (240 * i + n)) dX9_hasT_29 (ty_c hS (by decide) rfl) (ix_n (by omega) (by omega)) (n1.trans (by rw [k0])) ?_
        refine q_iconst (v := nI 1) dX9_hasT_30 rfl ?_
        refine q_icmp_eqN (tgt := 64) dX9_hasT_31 (by decide) (by omega) (by omega) (fun h => absurd h (by decide)) (fun _ => ?_)
        refine q_aload_n dX9_hasT_34 rfl rfl rfl ?_
        refine q_getr (r := 67) dX9_hasT_35 fX9_58 rfl (ty_c hS (by decide) rfl) (hS.2 58 15 67 rfl) ?_
        refine q_iload_n dX9_hasT_38 rfl rfl ?_
        refine q_iald (x := nI 0) (j := (240 * i + n)) dX9_hasT_39 (ty_c hS (by decide) rfl) (ix_n (by omega) (by omega)) (n1.trans (by rw [k0])) ?_
        refine q_iconst (v := nI 2) dX9_hasT_40 rfl ?_
        refine q_icmp_eqN (tgt := 64) dX9_hasT_41 (by decide) (by omega) (by omega) (fun h => absurd h (by decide)) (fun _ => ?_)
        refine q_aload_n dX9_hasT_44 rfl rfl rfl ?_
        refine q_getr (r := 67) dX9_hasT_45 fX9_58 rfl (ty_c hS (by decide) rfl) (hS.2 58 15 67 rfl) ?_
        refine q_iload_n dX9_hasT_48 rfl rfl ?_
        refine q_iald (x := nI 0) (j := (240 * i + n)) dX9_hasT_49 (ty_c hS (by decide) rfl) (ix_n (by omega) (by omega)) (n1.trans (by rw [k0])) ?_
        refine q_iconst (v := nI 3) dX9_hasT_50 rfl ?_
        refine q_icmp_eqN (tgt := 64) dX9_hasT_51 (by decide) (by omega) (by omega) (fun h => absurd h (by decide)) (fun _ => ?_)
        refine q_aload_n dX9_hasT_54 rfl rfl rfl ?_
        refine q_getr (r := 67) dX9_hasT_55 fX9_58 rfl (ty_c hS (by decide) rfl) (hS.2 58 15 67 rfl) ?_
        refine q_iload_n dX9_hasT_58 rfl rfl ?_
        refine q_iald (x := nI 0) (j := (240 * i + n)) dX9_hasT_59 (ty_c hS (by decide) rfl) (ix_n (by omega) (by omega)) (n1.trans (by rw [k0])) ?_
        refine q_iconst (v := nI 5) dX9_hasT_60 rfl ?_
        refine q_icmp_neN (tgt := 68) dX9_hasT_61 (by decide) (by omega) (by omega) (fun _ => ?_) (fun h => absurd h (by decide))
        refine q_iconst (v := nI 0) dX9_hasT_68 rfl ?_
        refine q_istore dX9_hasT_69 (by decide) (ls' := [(4, .int (nI 0)), (0, .ref 58), (1, .int (nI i)), (2, .int (bi (tMs q n))), (3, .int (nI (240 * i + n)))]) rfl ?_
        refine q_aload_n dX9_hasT_71 rfl rfl rfl ?_
        refine q_getr (r := 67) dX9_hasT_72 fX9_58 rfl (ty_c hS (by decide) rfl) (hS.2 58 15 67 rfl) ?_
        refine q_iload_n dX9_hasT_75 rfl rfl ?_
        refine q_iald (x := nI 0) (j := (240 * i + n)) dX9_hasT_76 (ty_c hS (by decide) rfl) (ix_n (by omega) (by omega)) (n1.trans (by rw [k0])) ?_
        refine q_iconst (v := nI 2) dX9_hasT_77 rfl ?_
        refine q_icmp_eqN (tgt := 91) dX9_hasT_78 (by decide) (by omega) (by omega) (fun h => absurd h (by decide)) (fun _ => ?_)
        refine q_aload_n dX9_hasT_81 rfl rfl rfl ?_
        refine q_getr (r := 67) dX9_hasT_82 fX9_58 rfl (ty_c hS (by decide) rfl) (hS.2 58 15 67 rfl) ?_
        refine q_iload_n dX9_hasT_85 rfl rfl ?_
        refine q_iald (x := nI 0) (j := (240 * i + n)) dX9_hasT_86 (ty_c hS (by decide) rfl) (ix_n (by omega) (by omega)) (n1.trans (by rw [k0])) ?_
        refine q_iconst (v := nI 5) dX9_hasT_87 rfl ?_
        refine q_icmp_neN (tgt := 95) dX9_hasT_88 (by decide) (by omega) (by omega) (fun _ => ?_) (fun h => absurd h (by decide))
        refine q_iconst (v := nI 0) dX9_hasT_95 rfl ?_
        refine q_istore dX9_hasT_96 (by decide) (ls' := [(5, .int (nI 0)), (4, .int (nI 0)), (0, .ref 58), (1, .int (nI i)), (2, .int (bi (tMs q n))), (3, .int (nI (240 * i + n)))]) rfl ?_
        refine q_iload_n dX9_hasT_98 rfl rfl ?_
        refine q_if_neB (tgt := 145) dX9_hasT_99 (by decide) (fun c99 => ?_) (fun c99 => ?_)
        · skip
          refine q_iconst (v := nI 1) dX9_hasT_145 rfl ?_
          refine q_goto (tgt := 150) dX9_hasT_146 (by decide) ?_
          refine q_top (y := bi (tMs q n || (decide (nI 16 ≤ nI t)))) (by first | (rw [c99]; rfl) | (rw [c99, b110]; rfl) | (rw [c99, b126]; rfl) | (rw [c99, b110, b126]; rfl) | (rw [c99, b126, b142]; rfl)) ?_
          refine q_istore_n dX9_hasT_150 rfl (by decide) (ls' := [(2, .int (bi (tMs q n || (decide (nI 16 ≤ nI t))))), (5, .int (nI 0)), (4, .int (nI 0)), (0, .ref 58), (1, .int (nI i)), (3, .int (nI (240 * i + n)))]) rfl ?_
          refine q_iincN (c := 1) dX9_hasT_151 rfl (by decide) rfl (ls' := [(3, .int (nI (240 * i + n + 1))), (2, .int (bi (tMs q n || (decide (nI 16 ≤ nI t))))), (5, .int (nI 0)), (4, .int (nI 0)), (0, .ref 58), (1, .int (nI i))]) rfl ?_
          refine q_goto (tgt := 8) dX9_hasT_154 (by decide) ?_
          refine q_pk [4, 5, 1, 0] (ls' := [(0, .ref 58), (1, .int (nI i)), (2, .int (bi (tMs q n || (decide (nI 16 ≤ nI t))))), (3, .int (nI (240 * i + n + 1)))]) rfl ?_
          exact hI
        · skip
          refine q_aload_n dX9_hasT_102 rfl rfl rfl ?_
          refine q_getr (r := 69) dX9_hasT_103 fX9_64 rfl (ty_c hS (by decide) rfl) (hS.2 58 17 69 rfl) ?_
          refine q_iload_n dX9_hasT_106 rfl rfl ?_
          refine q_iald (x := nI t) (j := (240 * i + n)) dX9_hasT_107 (ty_c hS (by decide) rfl) (ix_n (by omega) (by omega)) (n3.trans ((if_pos (by omega)).trans t2)) ?_
          refine q_bipush (v := nI 16) dX9_hasT_108 rfl ?_
          refine q_icmp_geN (tgt := 145) dX9_hasT_110 (by decide) (by omega) (by omega) (fun c110 => ?_) (fun c110 => ?_)
          · have b110 := b_t i0 c110
            refine q_iconst (v := nI 1) dX9_hasT_145 rfl ?_
            refine q_goto (tgt := 150) dX9_hasT_146 (by decide) ?_
            refine q_top (y := bi (tMs q n || (decide (nI 16 ≤ nI t)))) (by first | (rw [c99]; rfl) | (rw [c99, b110]; rfl) | (rw [c99, b126]; rfl) | (rw [c99, b110, b126]; rfl) | (rw [c99, b126, b142]; rfl)) ?_
            refine q_istore_n dX9_hasT_150 rfl (by decide) (ls' := [(2, .int (bi (tMs q n || (decide (nI 16 ≤ nI t))))), (5, .int (nI 0)), (4, .int (nI 0)), (0, .ref 58), (1, .int (nI i)), (3, .int (nI (240 * i + n)))]) rfl ?_
            refine q_iincN (c := 1) dX9_hasT_151 rfl (by decide) rfl (ls' := [(3, .int (nI (240 * i + n + 1))), (2, .int (bi (tMs q n || (decide (nI 16 ≤ nI t))))), (5, .int (nI 0)), (4, .int (nI 0)), (0, .ref 58), (1, .int (nI i))]) rfl ?_
            refine q_goto (tgt := 8) dX9_hasT_154 (by decide) ?_
            refine q_pk [4, 5, 1, 0] (ls' := [(0, .ref 58), (1, .int (nI i)), (2, .int (bi (tMs q n || (decide (nI 16 ≤ nI t))))), (3, .int (nI (240 * i + n + 1)))]) rfl ?_
            exact hI
          · have b110 := b_f i0 (by omega)
            refine q_iload dX9_hasT_113 rfl ?_
            refine q_if_eqN (tgt := 129) dX9_hasT_115 (by decide) (by omega) (fun _ => ?_) (fun h => absurd h (by decide))
            refine q_iload dX9_hasT_129 rfl ?_
            refine q_if_eqN (tgt := 149) dX9_hasT_131 (by decide) (by omega) (fun _ => ?_) (fun h => absurd h (by decide))
            refine q_iconst (v := nI 0) dX9_hasT_149 rfl ?_
            refine q_top (y := bi (tMs q n || (decide (nI 16 ≤ nI t)))) (by first | (rw [c99]; rfl) | (rw [c99, b110]; rfl) | (rw [c99, b126]; rfl) | (rw [c99, b110, b126]; rfl) | (rw [c99, b126, b142]; rfl)) ?_
            refine q_istore_n dX9_hasT_150 rfl (by decide) (ls' := [(2, .int (bi (tMs q n || (decide (nI 16 ≤ nI t))))), (5, .int (nI 0)), (4, .int (nI 0)), (0, .ref 58), (1, .int (nI i)), (3, .int (nI (240 * i + n)))]) rfl ?_
            refine q_iincN (c := 1) dX9_hasT_151 rfl (by decide) rfl (ls' := [(3, .int (nI (240 * i + n + 1))), (2, .int (bi (tMs q n || (decide (nI 16 ≤ nI t))))), (5, .int (nI 0)), (4, .int (nI 0)), (0, .ref 58), (1, .int (nI i))]) rfl ?_
            refine q_goto (tgt := 8) dX9_hasT_154 (by decide) ?_
            refine q_pk [4, 5, 1, 0] (ls' := [(0, .ref 58), (1, .int (nI i)), (2, .int (bi (tMs q n || (decide (nI 16 ≤ nI t))))), (3, .int (nI (240 * i + n + 1)))]) rfl ?_
            exact hI
    · skip
      have hv : tM (rg q n) = (decide (nI 16 ≤ nI t) || oT (rO0 (rg q n))) := by unfold tM; rw [k0, t2]; simp
      rw [hv] at hI
      have i0 : 16 ≤ t ↔ decide (nI 16 ≤ nI t) = true := by rw [decide_eq_true_iff, nI_leI (by omega) (by omega)]
      refine q_iload_n dX9_hasT_8 rfl rfl ?_
      refine q_sipush (v := nI 240) dX9_hasT_9 rfl ?_
      refine q_iload_n dX9_hasT_12 rfl rfl ?_
      refine q_imulN dX9_hasT_13 ?_
      refine q_aload_n dX9_hasT_14 rfl rfl rfl ?_
      refine q_getr (r := 63) dX9_hasT_15 fX9_46 rfl (ty_c hS (by decide) rfl) (hS.2 58 11 63 rfl) ?_
      refine q_iload_n dX9_hasT_18 rfl rfl ?_
      refine q_iald (x := nI ((psS q).length)) (j := i) dX9_hasT_19 (ty_c hS (by decide) rfl) (ix_n (by omega) (by omega)) r63 ?_
      refine q_iaddN dX9_hasT_20 ?_
      refine q_icmp_geN (tgt := 157) dX9_hasT_21 (by decide) (by omega) (by omega) (fun c21 => ?_) (fun c21 => ?_)
      · exact absurd c21 (by omega)
      · skip
        refine q_aload_n dX9_hasT_24 rfl rfl rfl ?_
        refine q_getr (r := 67) dX9_hasT_25 fX9_58 rfl (ty_c hS (by decide) rfl) (hS.2 58 15 67 rfl) ?_
        refine q_iload_n dX9_hasT_28 rfl rfl ?_
        refine q_iald (x := nI 1) (j := (240 * i + n)) dX9_hasT_29 (ty_c hS (by decide) rfl) (ix_n (by omega) (by omega)) (n1.trans (by rw [k0])) ?_
        refine q_iconst (v := nI 1) dX9_hasT_30 rfl ?_
        refine q_icmp_eqN (tgt := 64) dX9_hasT_31 (by decide) (by omega) (by omega) (fun _ => ?_) (fun h => absurd h (by decide))
        refine q_iconst (v := nI 1) dX9_hasT_64 rfl ?_
        refine q_goto (tgt := 69) dX9_hasT_65 (by decide) ?_
        refine q_istore dX9_hasT_69 (by decide) (ls' := [(4, .int (nI 1)), (0, .ref 58), (1, .int (nI i)), (2, .int (bi (tMs q n))), (3, .int (nI (240 * i + n)))]) rfl ?_
        refine q_aload_n dX9_hasT_71 rfl rfl rfl ?_
        refine q_getr (r := 67) dX9_hasT_72 fX9_58 rfl (ty_c hS (by decide) rfl) (hS.2 58 15 67 rfl) ?_
        refine q_iload_n dX9_hasT_75 rfl rfl ?_
        refine q_iald (x := nI 1) (j := (240 * i + n)) dX9_hasT_76 (ty_c hS (by decide) rfl) (ix_n (by omega) (by omega)) (n1.trans (by rw [k0])) ?_
        refine q_iconst (v := nI 2) dX9_hasT_77 rfl ?_
        refine q_icmp_eqN (tgt := 91) dX9_hasT_78 (by decide) (by omega) (by omega) (fun h => absurd h (by decide)) (fun _ => ?_)
        refine q_aload_n dX9_hasT_81 rfl rfl rfl ?_
        refine q_getr (r := 67) dX9_hasT_82 fX9_58 rfl (ty_c hS (by decide) rfl) (hS.2 58 15 67 rfl) ?_
        refine q_iload_n dX9_hasT_85 rfl rfl ?_
        refine q_iald (x := nI 1) (j := (240 * i + n)) dX9_hasT_86 (ty_c hS (by decide) rfl) (ix_n (by omega) (by omega)) (n1.trans (by rw [k0])) ?_
        refine q_iconst (v := nI 5) dX9_hasT_87 rfl ?_
        refine q_icmp_neN (tgt := 95) dX9_hasT_88 (by decide) (by omega) (by omega) (fun _ => ?_) (fun h => absurd h (by decide))
        refine q_iconst (v := nI 0) dX9_hasT_95 rfl ?_
        refine q_istore dX9_hasT_96 (by decide) (ls' := [(5, .int (nI 0)), (4, .int (nI 1)), (0, .ref 58), (1, .int (nI i)), (2, .int (bi (tMs q n))), (3, .int (nI (240 * i + n)))]) rfl ?_
        refine q_iload_n dX9_hasT_98 rfl rfl ?_
        refine q_if_neB (tgt := 145) dX9_hasT_99 (by decide) (fun c99 => ?_) (fun c99 => ?_)
        · skip
          refine q_iconst (v := nI 1) dX9_hasT_145 rfl ?_
          refine q_goto (tgt := 150) dX9_hasT_146 (by decide) ?_
          refine q_top (y := bi (tMs q n || (decide (nI 16 ≤ nI t) || oT (rO0 (rg q n))))) (by first | (rw [c99]; rfl) | (rw [c99, b110]; rfl) | (rw [c99, b126]; rfl) | (rw [c99, b110, b126]; rfl) | (rw [c99, b126, b142]; rfl)) ?_
          refine q_istore_n dX9_hasT_150 rfl (by decide) (ls' := [(2, .int (bi (tMs q n || (decide (nI 16 ≤ nI t) || oT (rO0 (rg q n)))))), (5, .int (nI 0)), (4, .int (nI 1)), (0, .ref 58), (1, .int (nI i)), (3, .int (nI (240 * i + n)))]) rfl ?_
          refine q_iincN (c := 1) dX9_hasT_151 rfl (by decide) rfl (ls' := [(3, .int (nI (240 * i + n + 1))), (2, .int (bi (tMs q n || (decide (nI 16 ≤ nI t) || oT (rO0 (rg q n)))))), (5, .int (nI 0)), (4, .int (nI 1)), (0, .ref 58), (1, .int (nI i))]) rfl ?_
          refine q_goto (tgt := 8) dX9_hasT_154 (by decide) ?_
          refine q_pk [4, 5, 1, 0] (ls' := [(0, .ref 58), (1, .int (nI i)), (2, .int (bi (tMs q n || (decide (nI 16 ≤ nI t) || oT (rO0 (rg q n)))))), (3, .int (nI (240 * i + n + 1)))]) rfl ?_
          exact hI
        · skip
          refine q_aload_n dX9_hasT_102 rfl rfl rfl ?_
          refine q_getr (r := 69) dX9_hasT_103 fX9_64 rfl (ty_c hS (by decide) rfl) (hS.2 58 17 69 rfl) ?_
          refine q_iload_n dX9_hasT_106 rfl rfl ?_
          refine q_iald (x := nI t) (j := (240 * i + n)) dX9_hasT_107 (ty_c hS (by decide) rfl) (ix_n (by omega) (by omega)) (n3.trans ((if_pos (by omega)).trans t2)) ?_
          refine q_bipush (v := nI 16) dX9_hasT_108 rfl ?_
          refine q_icmp_geN (tgt := 145) dX9_hasT_110 (by decide) (by omega) (by omega) (fun c110 => ?_) (fun c110 => ?_)
          · have b110 := b_t i0 c110
            refine q_iconst (v := nI 1) dX9_hasT_145 rfl ?_
            refine q_goto (tgt := 150) dX9_hasT_146 (by decide) ?_
            refine q_top (y := bi (tMs q n || (decide (nI 16 ≤ nI t) || oT (rO0 (rg q n))))) (by first | (rw [c99]; rfl) | (rw [c99, b110]; rfl) | (rw [c99, b126]; rfl) | (rw [c99, b110, b126]; rfl) | (rw [c99, b126, b142]; rfl)) ?_
            refine q_istore_n dX9_hasT_150 rfl (by decide) (ls' := [(2, .int (bi (tMs q n || (decide (nI 16 ≤ nI t) || oT (rO0 (rg q n)))))), (5, .int (nI 0)), (4, .int (nI 1)), (0, .ref 58), (1, .int (nI i)), (3, .int (nI (240 * i + n)))]) rfl ?_
            refine q_iincN (c := 1) dX9_hasT_151 rfl (by decide) rfl (ls' := [(3, .int (nI (240 * i + n + 1))), (2, .int (bi (tMs q n || (decide (nI 16 ≤ nI t) || oT (rO0 (rg q n)))))), (5, .int (nI 0)), (4, .int (nI 1)), (0, .ref 58), (1, .int (nI i))]) rfl ?_
            refine q_goto (tgt := 8) dX9_hasT_154 (by decide) ?_
            refine q_pk [4, 5, 1, 0] (ls' := [(0, .ref 58), (1, .int (nI i)), (2, .int (bi (tMs q n || (decide (nI 16 ≤ nI t) || oT (rO0 (rg q n)))))), (3, .int (nI (240 * i + n + 1)))]) rfl ?_
            exact hI
          · have b110 := b_f i0 (by omega)
            refine q_iload dX9_hasT_113 rfl ?_
            refine q_if_eqN (tgt := 129) dX9_hasT_115 (by decide) (by omega) (fun h => absurd h (by decide)) (fun _ => ?_)
            refine q_aload_n dX9_hasT_118 rfl rfl rfl ?_
            refine q_getr (r := 73) dX9_hasT_119 fX9_76 rfl (ty_c hS (by decide) rfl) (hS.2 58 21 73 rfl) ?_
            refine q_iload_n dX9_hasT_122 rfl rfl ?_
            refine q_iald (x := opn (rO0 (rg q n))) (j := (240 * i + n)) dX9_hasT_123 (ty_c hS (by decide) rfl) (ix_n (by omega) (by omega)) ((n5 (by omega)).1) ?_
            refine q_bipush (v := nI 16) dX9_hasT_124 rfl ?_
            refine q_icmp_ge (tgt := 145) dX9_hasT_126 (by decide) (fun c126 => ?_) (fun c126 => ?_)
            · have b126 := b_t i1 c126
              refine q_iconst (v := nI 1) dX9_hasT_145 rfl ?_
              refine q_goto (tgt := 150) dX9_hasT_146 (by decide) ?_
              refine q_top (y := bi (tMs q n || (decide (nI 16 ≤ nI t) || oT (rO0 (rg q n))))) (by first | (rw [c99]; rfl) | (rw [c99, b110]; rfl) | (rw [c99, b126]; rfl) | (rw [c99, b110, b126]; rfl) | (rw [c99, b126, b142]; rfl)) ?_
              refine q_istore_n dX9_hasT_150 rfl (by decide) (ls' := [(2, .int (bi (tMs q n || (decide (nI 16 ≤ nI t) || oT (rO0 (rg q n)))))), (5, .int (nI 0)), (4, .int (nI 1)), (0, .ref 58), (1, .int (nI i)), (3, .int (nI (240 * i + n)))]) rfl ?_
              refine q_iincN (c := 1) dX9_hasT_151 rfl (by decide) rfl (ls' := [(3, .int (nI (240 * i + n + 1))), (2, .int (bi (tMs q n || (decide (nI 16 ≤ nI t) || oT (rO0 (rg q n)))))), (5, .int (nI 0)), (4, .int (nI 1)), (0, .ref 58), (1, .int (nI i))]) rfl ?_
              refine q_goto (tgt := 8) dX9_hasT_154 (by decide) ?_
              refine q_pk [4, 5, 1, 0] (ls' := [(0, .ref 58), (1, .int (nI i)), (2, .int (bi (tMs q n || (decide (nI 16 ≤ nI t) || oT (rO0 (rg q n)))))), (3, .int (nI (240 * i + n + 1)))]) rfl ?_
              exact hI
            · have b126 := b_f i1 c126
              refine q_iload dX9_hasT_129 rfl ?_
              refine q_if_eqN (tgt := 149) dX9_hasT_131 (by decide) (by omega) (fun _ => ?_) (fun h => absurd h (by decide))
              refine q_iconst (v := nI 0) dX9_hasT_149 rfl ?_
              refine q_top (y := bi (tMs q n || (decide (nI 16 ≤ nI t) || oT (rO0 (rg q n))))) (by first | (rw [c99]; rfl) | (rw [c99, b110]; rfl) | (rw [c99, b126]; rfl) | (rw [c99, b110, b126]; rfl) | (rw [c99, b126, b142]; rfl)) ?_
              refine q_istore_n dX9_hasT_150 rfl (by decide) (ls' := [(2, .int (bi (tMs q n || (decide (nI 16 ≤ nI t) || oT (rO0 (rg q n)))))), (5, .int (nI 0)), (4, .int (nI 1)), (0, .ref 58), (1, .int (nI i)), (3, .int (nI (240 * i + n)))]) rfl ?_
              refine q_iincN (c := 1) dX9_hasT_151 rfl (by decide) rfl (ls' := [(3, .int (nI (240 * i + n + 1))), (2, .int (bi (tMs q n || (decide (nI 16 ≤ nI t) || oT (rO0 (rg q n)))))), (5, .int (nI 0)), (4, .int (nI 1)), (0, .ref 58), (1, .int (nI i))]) rfl ?_
              refine q_goto (tgt := 8) dX9_hasT_154 (by decide) ?_
              refine q_pk [4, 5, 1, 0] (ls' := [(0, .ref 58), (1, .int (nI i)), (2, .int (bi (tMs q n || (decide (nI 16 ≤ nI t) || oT (rO0 (rg q n)))))), (3, .int (nI (240 * i + n + 1)))]) rfl ?_
              exact hI
    · skip
      have hv : tM (rg q n) = (oT (rO0 (rg q n)) || oT (rO1 (rg q n))) := by unfold tM; rw [k0]; simp
      rw [hv] at hI
      refine q_iload_n dX9_hasT_8 rfl rfl ?_
      refine q_sipush (v := nI 240) dX9_hasT_9 rfl ?_
      refine q_iload_n dX9_hasT_12 rfl rfl ?_
      refine q_imulN dX9_hasT_13 ?_
      refine q_aload_n dX9_hasT_14 rfl rfl rfl ?_
      refine q_getr (r := 63) dX9_hasT_15 fX9_46 rfl (ty_c hS (by decide) rfl) (hS.2 58 11 63 rfl) ?_
      refine q_iload_n dX9_hasT_18 rfl rfl ?_
      refine q_iald (x := nI ((psS q).length)) (j := i) dX9_hasT_19 (ty_c hS (by decide) rfl) (ix_n (by omega) (by omega)) r63 ?_
      refine q_iaddN dX9_hasT_20 ?_
      refine q_icmp_geN (tgt := 157) dX9_hasT_21 (by decide) (by omega) (by omega) (fun c21 => ?_) (fun c21 => ?_)
      · exact absurd c21 (by omega)
      · skip
        refine q_aload_n dX9_hasT_24 rfl rfl rfl ?_
        refine q_getr (r := 67) dX9_hasT_25 fX9_58 rfl (ty_c hS (by decide) rfl) (hS.2 58 15 67 rfl) ?_
        refine q_iload_n dX9_hasT_28 rfl rfl ?_
        refine q_iald (x := nI 2) (j := (240 * i + n)) dX9_hasT_29 (ty_c hS (by decide) rfl) (ix_n (by omega) (by omega)) (n1.trans (by rw [k0])) ?_
        refine q_iconst (v := nI 1) dX9_hasT_30 rfl ?_
        refine q_icmp_eqN (tgt := 64) dX9_hasT_31 (by decide) (by omega) (by omega) (fun h => absurd h (by decide)) (fun _ => ?_)
        refine q_aload_n dX9_hasT_34 rfl rfl rfl ?_
        refine q_getr (r := 67) dX9_hasT_35 fX9_58 rfl (ty_c hS (by decide) rfl) (hS.2 58 15 67 rfl) ?_
        refine q_iload_n dX9_hasT_38 rfl rfl ?_
        refine q_iald (x := nI 2) (j := (240 * i + n)) dX9_hasT_39 (ty_c hS (by decide) rfl) (ix_n (by omega) (by omega)) (n1.trans (by rw [k0])) ?_
        refine q_iconst (v := nI 2) dX9_hasT_40 rfl ?_
        refine q_icmp_eqN (tgt := 64) dX9_hasT_41 (by decide) (by omega) (by omega) (fun _ => ?_) (fun h => absurd h (by decide))
        refine q_iconst (v := nI 1) dX9_hasT_64 rfl ?_
        refine q_goto (tgt := 69) dX9_hasT_65 (by decide) ?_
        refine q_istore dX9_hasT_69 (by decide) (ls' := [(4, .int (nI 1)), (0, .ref 58), (1, .int (nI i)), (2, .int (bi (tMs q n))), (3, .int (nI (240 * i + n)))]) rfl ?_
        refine q_aload_n dX9_hasT_71 rfl rfl rfl ?_
        refine q_getr (r := 67) dX9_hasT_72 fX9_58 rfl (ty_c hS (by decide) rfl) (hS.2 58 15 67 rfl) ?_
        refine q_iload_n dX9_hasT_75 rfl rfl ?_
        refine q_iald (x := nI 2) (j := (240 * i + n)) dX9_hasT_76 (ty_c hS (by decide) rfl) (ix_n (by omega) (by omega)) (n1.trans (by rw [k0])) ?_
        refine q_iconst (v := nI 2) dX9_hasT_77 rfl ?_
        refine q_icmp_eqN (tgt := 91) dX9_hasT_78 (by decide) (by omega) (by omega) (fun _ => ?_) (fun h => absurd h (by decide))
        refine q_iconst (v := nI 1) dX9_hasT_91 rfl ?_
        refine q_goto (tgt := 96) dX9_hasT_92 (by decide) ?_
        refine q_istore dX9_hasT_96 (by decide) (ls' := [(5, .int (nI 1)), (4, .int (nI 1)), (0, .ref 58), (1, .int (nI i)), (2, .int (bi (tMs q n))), (3, .int (nI (240 * i + n)))]) rfl ?_
        refine q_iload_n dX9_hasT_98 rfl rfl ?_
        refine q_if_neB (tgt := 145) dX9_hasT_99 (by decide) (fun c99 => ?_) (fun c99 => ?_)
        · skip
          refine q_iconst (v := nI 1) dX9_hasT_145 rfl ?_
          refine q_goto (tgt := 150) dX9_hasT_146 (by decide) ?_
          refine q_top (y := bi (tMs q n || (oT (rO0 (rg q n)) || oT (rO1 (rg q n))))) (by first | (rw [c99]; rfl) | (rw [c99, b110]; rfl) | (rw [c99, b126]; rfl) | (rw [c99, b110, b126]; rfl) | (rw [c99, b126, b142]; rfl)) ?_
          refine q_istore_n dX9_hasT_150 rfl (by decide) (ls' := [(2, .int (bi (tMs q n || (oT (rO0 (rg q n)) || oT (rO1 (rg q n)))))), (5, .int (nI 1)), (4, .int (nI 1)), (0, .ref 58), (1, .int (nI i)), (3, .int (nI (240 * i + n)))]) rfl ?_
          refine q_iincN (c := 1) dX9_hasT_151 rfl (by decide) rfl (ls' := [(3, .int (nI (240 * i + n + 1))), (2, .int (bi (tMs q n || (oT (rO0 (rg q n)) || oT (rO1 (rg q n)))))), (5, .int (nI 1)), (4, .int (nI 1)), (0, .ref 58), (1, .int (nI i))]) rfl ?_
          refine q_goto (tgt := 8) dX9_hasT_154 (by decide) ?_
          refine q_pk [4, 5, 1, 0] (ls' := [(0, .ref 58), (1, .int (nI i)), (2, .int (bi (tMs q n || (oT (rO0 (rg q n)) || oT (rO1 (rg q n)))))), (3, .int (nI (240 * i + n + 1)))]) rfl ?_
          exact hI
        · skip
          refine q_aload_n dX9_hasT_102 rfl rfl rfl ?_
          refine q_getr (r := 69) dX9_hasT_103 fX9_64 rfl (ty_c hS (by decide) rfl) (hS.2 58 17 69 rfl) ?_
          refine q_iload_n dX9_hasT_106 rfl rfl ?_
          refine q_iald (x := (-1)) (j := (240 * i + n)) dX9_hasT_107 (ty_c hS (by decide) rfl) (ix_n (by omega) (by omega)) (n3.trans (if_neg (by omega))) ?_
          refine q_bipush (v := nI 16) dX9_hasT_108 rfl ?_
          refine q_icmp_ge1 (tgt := 145) dX9_hasT_110 (by decide) (by omega) (by decide) ?_
          refine q_iload dX9_hasT_113 rfl ?_
          refine q_if_eqN (tgt := 129) dX9_hasT_115 (by decide) (by omega) (fun h => absurd h (by decide)) (fun _ => ?_)
          refine q_aload_n dX9_hasT_118 rfl rfl rfl ?_
          refine q_getr (r := 73) dX9_hasT_119 fX9_76 rfl (ty_c hS (by decide) rfl) (hS.2 58 21 73 rfl) ?_
          refine q_iload_n dX9_hasT_122 rfl rfl ?_
          refine q_iald (x := opn (rO0 (rg q n))) (j := (240 * i + n)) dX9_hasT_123 (ty_c hS (by decide) rfl) (ix_n (by omega) (by omega)) ((n5 (by omega)).1) ?_
          refine q_bipush (v := nI 16) dX9_hasT_124 rfl ?_
          refine q_icmp_ge (tgt := 145) dX9_hasT_126 (by decide) (fun c126 => ?_) (fun c126 => ?_)
          · have b126 := b_t i1 c126
            refine q_iconst (v := nI 1) dX9_hasT_145 rfl ?_
            refine q_goto (tgt := 150) dX9_hasT_146 (by decide) ?_
            refine q_top (y := bi (tMs q n || (oT (rO0 (rg q n)) || oT (rO1 (rg q n))))) (by first | (rw [c99]; rfl) | (rw [c99, b110]; rfl) | (rw [c99, b126]; rfl) | (rw [c99, b110, b126]; rfl) | (rw [c99, b126, b142]; rfl)) ?_
            refine q_istore_n dX9_hasT_150 rfl (by decide) (ls' := [(2, .int (bi (tMs q n || (oT (rO0 (rg q n)) || oT (rO1 (rg q n)))))), (5, .int (nI 1)), (4, .int (nI 1)), (0, .ref 58), (1, .int (nI i)), (3, .int (nI (240 * i + n)))]) rfl ?_
            refine q_iincN (c := 1) dX9_hasT_151 rfl (by decide) rfl (ls' := [(3, .int (nI (240 * i + n + 1))), (2, .int (bi (tMs q n || (oT (rO0 (rg q n)) || oT (rO1 (rg q n)))))), (5, .int (nI 1)), (4, .int (nI 1)), (0, .ref 58), (1, .int (nI i))]) rfl ?_
            refine q_goto (tgt := 8) dX9_hasT_154 (by decide) ?_
            refine q_pk [4, 5, 1, 0] (ls' := [(0, .ref 58), (1, .int (nI i)), (2, .int (bi (tMs q n || (oT (rO0 (rg q n)) || oT (rO1 (rg q n)))))), (3, .int (nI (240 * i + n + 1)))]) rfl ?_
            exact hI
          · have b126 := b_f i1 c126
            refine q_iload dX9_hasT_129 rfl ?_
            refine q_if_eqN (tgt := 149) dX9_hasT_131 (by decide) (by omega) (fun h => absurd h (by decide)) (fun _ => ?_)
            refine q_aload_n dX9_hasT_134 rfl rfl rfl ?_
            refine q_getr (r := 75) dX9_hasT_135 fX9_82 rfl (ty_c hS (by decide) rfl) (hS.2 58 23 75 rfl) ?_
            refine q_iload_n dX9_hasT_138 rfl rfl ?_
            refine q_iald (x := opn (rO1 (rg q n))) (j := (240 * i + n)) dX9_hasT_139 (ty_c hS (by decide) rfl) (ix_n (by omega) (by omega)) ((n6 (by omega)).1) ?_
            refine q_bipush (v := nI 16) dX9_hasT_140 rfl ?_
            refine q_icmp_lt (tgt := 149) dX9_hasT_142 (by decide) (fun c142 => ?_) (fun c142 => ?_)
            · have b142 := b_f i2 (Int32.not_le.mpr c142)
              refine q_iconst (v := nI 0) dX9_hasT_149 rfl ?_
              refine q_top (y := bi (tMs q n || (oT (rO0 (rg q n)) || oT (rO1 (rg q n))))) (by first | (rw [c99]; rfl) | (rw [c99, b110]; rfl) | (rw [c99, b126]; rfl) | (rw [c99, b110, b126]; rfl) | (rw [c99, b126, b142]; rfl)) ?_
              refine q_istore_n dX9_hasT_150 rfl (by decide) (ls' := [(2, .int (bi (tMs q n || (oT (rO0 (rg q n)) || oT (rO1 (rg q n)))))), (5, .int (nI 1)), (4, .int (nI 1)), (0, .ref 58), (1, .int (nI i)), (3, .int (nI (240 * i + n)))]) rfl ?_
              refine q_iincN (c := 1) dX9_hasT_151 rfl (by decide) rfl (ls' := [(3, .int (nI (240 * i + n + 1))), (2, .int (bi (tMs q n || (oT (rO0 (rg q n)) || oT (rO1 (rg q n)))))), (5, .int (nI 1)), (4, .int (nI 1)), (0, .ref 58), (1, .int (nI i))]) rfl ?_
              refine q_goto (tgt := 8) dX9_hasT_154 (by decide) ?_
              refine q_pk [4, 5, 1, 0] (ls' := [(0, .ref 58), (1, .int (nI i)), (2, .int (bi (tMs q n || (oT (rO0 (rg q n)) || oT (rO1 (rg q n)))))), (3, .int (nI (240 * i + n + 1)))]) rfl ?_
              exact hI
            · have b142 := b_t i2 (Int32.not_lt.mp c142)
              refine q_iconst (v := nI 1) dX9_hasT_145 rfl ?_
              refine q_goto (tgt := 150) dX9_hasT_146 (by decide) ?_
              refine q_top (y := bi (tMs q n || (oT (rO0 (rg q n)) || oT (rO1 (rg q n))))) (by first | (rw [c99]; rfl) | (rw [c99, b110]; rfl) | (rw [c99, b126]; rfl) | (rw [c99, b110, b126]; rfl) | (rw [c99, b126, b142]; rfl)) ?_
              refine q_istore_n dX9_hasT_150 rfl (by decide) (ls' := [(2, .int (bi (tMs q n || (oT (rO0 (rg q n)) || oT (rO1 (rg q n)))))), (5, .int (nI 1)), (4, .int (nI 1)), (0, .ref 58), (1, .int (nI i)), (3, .int (nI (240 * i + n)))]) rfl ?_
              refine q_iincN (c := 1) dX9_hasT_151 rfl (by decide) rfl (ls' := [(3, .int (nI (240 * i + n + 1))), (2, .int (bi (tMs q n || (oT (rO0 (rg q n)) || oT (rO1 (rg q n)))))), (5, .int (nI 1)), (4, .int (nI 1)), (0, .ref 58), (1, .int (nI i))]) rfl ?_
              refine q_goto (tgt := 8) dX9_hasT_154 (by decide) ?_
              refine q_pk [4, 5, 1, 0] (ls' := [(0, .ref 58), (1, .int (nI i)), (2, .int (bi (tMs q n || (oT (rO0 (rg q n)) || oT (rO1 (rg q n)))))), (3, .int (nI (240 * i + n + 1)))]) rfl ?_
              exact hI
    · rcases (show rK (rg q n) = 3 ∨ rK (rg q n) = 4 ∨ rK (rg q n) = 5 ∨ rK (rg q n) = 6 by omega) with kk | kk | kk | kk
      · skip
        have hv : tM (rg q n) = (oT (rO0 (rg q n))) := by unfold tM; rw [kk]; simp
        rw [hv] at hI
        refine q_iload_n dX9_hasT_8 rfl rfl ?_
        refine q_sipush (v := nI 240) dX9_hasT_9 rfl ?_
        refine q_iload_n dX9_hasT_12 rfl rfl ?_
        refine q_imulN dX9_hasT_13 ?_
        refine q_aload_n dX9_hasT_14 rfl rfl rfl ?_
        refine q_getr (r := 63) dX9_hasT_15 fX9_46 rfl (ty_c hS (by decide) rfl) (hS.2 58 11 63 rfl) ?_
        refine q_iload_n dX9_hasT_18 rfl rfl ?_
        refine q_iald (x := nI ((psS q).length)) (j := i) dX9_hasT_19 (ty_c hS (by decide) rfl) (ix_n (by omega) (by omega)) r63 ?_
        refine q_iaddN dX9_hasT_20 ?_
        refine q_icmp_geN (tgt := 157) dX9_hasT_21 (by decide) (by omega) (by omega) (fun c21 => ?_) (fun c21 => ?_)
        · exact absurd c21 (by omega)
        · skip
          refine q_aload_n dX9_hasT_24 rfl rfl rfl ?_
          refine q_getr (r := 67) dX9_hasT_25 fX9_58 rfl (ty_c hS (by decide) rfl) (hS.2 58 15 67 rfl) ?_
          refine q_iload_n dX9_hasT_28 rfl rfl ?_
          refine q_iald (x := nI 3) (j := (240 * i + n)) dX9_hasT_29 (ty_c hS (by decide) rfl) (ix_n (by omega) (by omega)) (n1.trans (by rw [kk])) ?_
          refine q_iconst (v := nI 1) dX9_hasT_30 rfl ?_
          refine q_icmp_eqN (tgt := 64) dX9_hasT_31 (by decide) (by omega) (by omega) (fun h => absurd h (by decide)) (fun _ => ?_)
          refine q_aload_n dX9_hasT_34 rfl rfl rfl ?_
          refine q_getr (r := 67) dX9_hasT_35 fX9_58 rfl (ty_c hS (by decide) rfl) (hS.2 58 15 67 rfl) ?_
          refine q_iload_n dX9_hasT_38 rfl rfl ?_
          refine q_iald (x := nI 3) (j := (240 * i + n)) dX9_hasT_39 (ty_c hS (by decide) rfl) (ix_n (by omega) (by omega)) (n1.trans (by rw [kk])) ?_
          refine q_iconst (v := nI 2) dX9_hasT_40 rfl ?_
          refine q_icmp_eqN (tgt := 64) dX9_hasT_41 (by decide) (by omega) (by omega) (fun h => absurd h (by decide)) (fun _ => ?_)
          refine q_aload_n dX9_hasT_44 rfl rfl rfl ?_
          refine q_getr (r := 67) dX9_hasT_45 fX9_58 rfl (ty_c hS (by decide) rfl) (hS.2 58 15 67 rfl) ?_
          refine q_iload_n dX9_hasT_48 rfl rfl ?_
          refine q_iald (x := nI 3) (j := (240 * i + n)) dX9_hasT_49 (ty_c hS (by decide) rfl) (ix_n (by omega) (by omega)) (n1.trans (by rw [kk])) ?_
          refine q_iconst (v := nI 3) dX9_hasT_50 rfl ?_
          refine q_icmp_eqN (tgt := 64) dX9_hasT_51 (by decide) (by omega) (by omega) (fun _ => ?_) (fun h => absurd h (by decide))
          refine q_iconst (v := nI 1) dX9_hasT_64 rfl ?_
          refine q_goto (tgt := 69) dX9_hasT_65 (by decide) ?_
          refine q_istore dX9_hasT_69 (by decide) (ls' := [(4, .int (nI 1)), (0, .ref 58), (1, .int (nI i)), (2, .int (bi (tMs q n))), (3, .int (nI (240 * i + n)))]) rfl ?_
          refine q_aload_n dX9_hasT_71 rfl rfl rfl ?_
          refine q_getr (r := 67) dX9_hasT_72 fX9_58 rfl (ty_c hS (by decide) rfl) (hS.2 58 15 67 rfl) ?_
          refine q_iload_n dX9_hasT_75 rfl rfl ?_
          refine q_iald (x := nI 3) (j := (240 * i + n)) dX9_hasT_76 (ty_c hS (by decide) rfl) (ix_n (by omega) (by omega)) (n1.trans (by rw [kk])) ?_
          refine q_iconst (v := nI 2) dX9_hasT_77 rfl ?_
          refine q_icmp_eqN (tgt := 91) dX9_hasT_78 (by decide) (by omega) (by omega) (fun h => absurd h (by decide)) (fun _ => ?_)
          refine q_aload_n dX9_hasT_81 rfl rfl rfl ?_
          refine q_getr (r := 67) dX9_hasT_82 fX9_58 rfl (ty_c hS (by decide) rfl) (hS.2 58 15 67 rfl) ?_
          refine q_iload_n dX9_hasT_85 rfl rfl ?_
          refine q_iald (x := nI 3) (j := (240 * i + n)) dX9_hasT_86 (ty_c hS (by decide) rfl) (ix_n (by omega) (by omega)) (n1.trans (by rw [kk])) ?_
          refine q_iconst (v := nI 5) dX9_hasT_87 rfl ?_
          refine q_icmp_neN (tgt := 95) dX9_hasT_88 (by decide) (by omega) (by omega) (fun _ => ?_) (fun h => absurd h (by decide))
          refine q_iconst (v := nI 0) dX9_hasT_95 rfl ?_
          refine q_istore dX9_hasT_96 (by decide) (ls' := [(5, .int (nI 0)), (4, .int (nI 1)), (0, .ref 58), (1, .int (nI i)), (2, .int (bi (tMs q n))), (3, .int (nI (240 * i + n)))]) rfl ?_
          refine q_iload_n dX9_hasT_98 rfl rfl ?_
          refine q_if_neB (tgt := 145) dX9_hasT_99 (by decide) (fun c99 => ?_) (fun c99 => ?_)
          · skip
            refine q_iconst (v := nI 1) dX9_hasT_145 rfl ?_
            refine q_goto (tgt := 150) dX9_hasT_146 (by decide) ?_
            refine q_top (y := bi (tMs q n || (oT (rO0 (rg q n))))) (by first | (rw [c99]; rfl) | (rw [c99, b110]; rfl) | (rw [c99, b126]; rfl) | (rw [c99, b110, b126]; rfl) | (rw [c99, b126, b142]; rfl)) ?_
            refine q_istore_n dX9_hasT_150 rfl (by decide) (ls' := [(2, .int (bi (tMs q n || (oT (rO0 (rg q n)))))), (5, .int (nI 0)), (4, .int (nI 1)), (0, .ref 58), (1, .int (nI i)), (3, .int (nI (240 * i + n)))]) rfl ?_
            refine q_iincN (c := 1) dX9_hasT_151 rfl (by decide) rfl (ls' := [(3, .int (nI (240 * i + n + 1))), (2, .int (bi (tMs q n || (oT (rO0 (rg q n)))))), (5, .int (nI 0)), (4, .int (nI 1)), (0, .ref 58), (1, .int (nI i))]) rfl ?_
            refine q_goto (tgt := 8) dX9_hasT_154 (by decide) ?_
            refine q_pk [4, 5, 1, 0] (ls' := [(0, .ref 58), (1, .int (nI i)), (2, .int (bi (tMs q n || (oT (rO0 (rg q n)))))), (3, .int (nI (240 * i + n + 1)))]) rfl ?_
            exact hI
          · skip
            refine q_aload_n dX9_hasT_102 rfl rfl rfl ?_
            refine q_getr (r := 69) dX9_hasT_103 fX9_64 rfl (ty_c hS (by decide) rfl) (hS.2 58 17 69 rfl) ?_
            refine q_iload_n dX9_hasT_106 rfl rfl ?_
            refine q_iald (x := (-1)) (j := (240 * i + n)) dX9_hasT_107 (ty_c hS (by decide) rfl) (ix_n (by omega) (by omega)) (n3.trans (if_neg (by omega))) ?_
            refine q_bipush (v := nI 16) dX9_hasT_108 rfl ?_
            refine q_icmp_ge1 (tgt := 145) dX9_hasT_110 (by decide) (by omega) (by decide) ?_
            refine q_iload dX9_hasT_113 rfl ?_
            refine q_if_eqN (tgt := 129) dX9_hasT_115 (by decide) (by omega) (fun h => absurd h (by decide)) (fun _ => ?_)
            refine q_aload_n dX9_hasT_118 rfl rfl rfl ?_
            refine q_getr (r := 73) dX9_hasT_119 fX9_76 rfl (ty_c hS (by decide) rfl) (hS.2 58 21 73 rfl) ?_
            refine q_iload_n dX9_hasT_122 rfl rfl ?_
            refine q_iald (x := opn (rO0 (rg q n))) (j := (240 * i + n)) dX9_hasT_123 (ty_c hS (by decide) rfl) (ix_n (by omega) (by omega)) ((n5 (by omega)).1) ?_
            refine q_bipush (v := nI 16) dX9_hasT_124 rfl ?_
            refine q_icmp_ge (tgt := 145) dX9_hasT_126 (by decide) (fun c126 => ?_) (fun c126 => ?_)
            · have b126 := b_t i1 c126
              refine q_iconst (v := nI 1) dX9_hasT_145 rfl ?_
              refine q_goto (tgt := 150) dX9_hasT_146 (by decide) ?_
              refine q_top (y := bi (tMs q n || (oT (rO0 (rg q n))))) (by first | (rw [c99]; rfl) | (rw [c99, b110]; rfl) | (rw [c99, b126]; rfl) | (rw [c99, b110, b126]; rfl) | (rw [c99, b126, b142]; rfl)) ?_
              refine q_istore_n dX9_hasT_150 rfl (by decide) (ls' := [(2, .int (bi (tMs q n || (oT (rO0 (rg q n)))))), (5, .int (nI 0)), (4, .int (nI 1)), (0, .ref 58), (1, .int (nI i)), (3, .int (nI (240 * i + n)))]) rfl ?_
              refine q_iincN (c := 1) dX9_hasT_151 rfl (by decide) rfl (ls' := [(3, .int (nI (240 * i + n + 1))), (2, .int (bi (tMs q n || (oT (rO0 (rg q n)))))), (5, .int (nI 0)), (4, .int (nI 1)), (0, .ref 58), (1, .int (nI i))]) rfl ?_
              refine q_goto (tgt := 8) dX9_hasT_154 (by decide) ?_
              refine q_pk [4, 5, 1, 0] (ls' := [(0, .ref 58), (1, .int (nI i)), (2, .int (bi (tMs q n || (oT (rO0 (rg q n)))))), (3, .int (nI (240 * i + n + 1)))]) rfl ?_
              exact hI
            · have b126 := b_f i1 c126
              refine q_iload dX9_hasT_129 rfl ?_
              refine q_if_eqN (tgt := 149) dX9_hasT_131 (by decide) (by omega) (fun _ => ?_) (fun h => absurd h (by decide))
              refine q_iconst (v := nI 0) dX9_hasT_149 rfl ?_
              refine q_top (y := bi (tMs q n || (oT (rO0 (rg q n))))) (by first | (rw [c99]; rfl) | (rw [c99, b110]; rfl) | (rw [c99, b126]; rfl) | (rw [c99, b110, b126]; rfl) | (rw [c99, b126, b142]; rfl)) ?_
              refine q_istore_n dX9_hasT_150 rfl (by decide) (ls' := [(2, .int (bi (tMs q n || (oT (rO0 (rg q n)))))), (5, .int (nI 0)), (4, .int (nI 1)), (0, .ref 58), (1, .int (nI i)), (3, .int (nI (240 * i + n)))]) rfl ?_
              refine q_iincN (c := 1) dX9_hasT_151 rfl (by decide) rfl (ls' := [(3, .int (nI (240 * i + n + 1))), (2, .int (bi (tMs q n || (oT (rO0 (rg q n)))))), (5, .int (nI 0)), (4, .int (nI 1)), (0, .ref 58), (1, .int (nI i))]) rfl ?_
              refine q_goto (tgt := 8) dX9_hasT_154 (by decide) ?_
              refine q_pk [4, 5, 1, 0] (ls' := [(0, .ref 58), (1, .int (nI i)), (2, .int (bi (tMs q n || (oT (rO0 (rg q n)))))), (3, .int (nI (240 * i + n + 1)))]) rfl ?_
              exact hI
      · skip
        have hv : tM (rg q n) = (false) := by unfold tM; rw [kk]; simp
        rw [hv] at hI
        refine q_iload_n dX9_hasT_8 rfl rfl ?_
        refine q_sipush (v := nI 240) dX9_hasT_9 rfl ?_
        refine q_iload_n dX9_hasT_12 rfl rfl ?_
        refine q_imulN dX9_hasT_13 ?_
        refine q_aload_n dX9_hasT_14 rfl rfl rfl ?_
        refine q_getr (r := 63) dX9_hasT_15 fX9_46 rfl (ty_c hS (by decide) rfl) (hS.2 58 11 63 rfl) ?_
        refine q_iload_n dX9_hasT_18 rfl rfl ?_
        refine q_iald (x := nI ((psS q).length)) (j := i) dX9_hasT_19 (ty_c hS (by decide) rfl) (ix_n (by omega) (by omega)) r63 ?_
        refine q_iaddN dX9_hasT_20 ?_
        refine q_icmp_geN (tgt := 157) dX9_hasT_21 (by decide) (by omega) (by omega) (fun c21 => ?_) (fun c21 => ?_)
        · exact absurd c21 (by omega)
        · skip
          refine q_aload_n dX9_hasT_24 rfl rfl rfl ?_
          refine q_getr (r := 67) dX9_hasT_25 fX9_58 rfl (ty_c hS (by decide) rfl) (hS.2 58 15 67 rfl) ?_
          refine q_iload_n dX9_hasT_28 rfl rfl ?_
          refine q_iald (x := nI 4) (j := (240 * i + n)) dX9_hasT_29 (ty_c hS (by decide) rfl) (ix_n (by omega) (by omega)) (n1.trans (by rw [kk])) ?_
          refine q_iconst (v := nI 1) dX9_hasT_30 rfl ?_
          refine q_icmp_eqN (tgt := 64) dX9_hasT_31 (by decide) (by omega) (by omega) (fun h => absurd h (by decide)) (fun _ => ?_)
          refine q_aload_n dX9_hasT_34 rfl rfl rfl ?_
          refine q_getr (r := 67) dX9_hasT_35 fX9_58 rfl (ty_c hS (by decide) rfl) (hS.2 58 15 67 rfl) ?_
          refine q_iload_n dX9_hasT_38 rfl rfl ?_
          refine q_iald (x := nI 4) (j := (240 * i + n)) dX9_hasT_39 (ty_c hS (by decide) rfl) (ix_n (by omega) (by omega)) (n1.trans (by rw [kk])) ?_
          refine q_iconst (v := nI 2) dX9_hasT_40 rfl ?_
          refine q_icmp_eqN (tgt := 64) dX9_hasT_41 (by decide) (by omega) (by omega) (fun h => absurd h (by decide)) (fun _ => ?_)
          refine q_aload_n dX9_hasT_44 rfl rfl rfl ?_
          refine q_getr (r := 67) dX9_hasT_45 fX9_58 rfl (ty_c hS (by decide) rfl) (hS.2 58 15 67 rfl) ?_
          refine q_iload_n dX9_hasT_48 rfl rfl ?_
          refine q_iald (x := nI 4) (j := (240 * i + n)) dX9_hasT_49 (ty_c hS (by decide) rfl) (ix_n (by omega) (by omega)) (n1.trans (by rw [kk])) ?_
          refine q_iconst (v := nI 3) dX9_hasT_50 rfl ?_
          refine q_icmp_eqN (tgt := 64) dX9_hasT_51 (by decide) (by omega) (by omega) (fun h => absurd h (by decide)) (fun _ => ?_)
          refine q_aload_n dX9_hasT_54 rfl rfl rfl ?_
          refine q_getr (r := 67) dX9_hasT_55 fX9_58 rfl (ty_c hS (by decide) rfl) (hS.2 58 15 67 rfl) ?_
          refine q_iload_n dX9_hasT_58 rfl rfl ?_
          refine q_iald (x := nI 4) (j := (240 * i + n)) dX9_hasT_59 (ty_c hS (by decide) rfl) (ix_n (by omega) (by omega)) (n1.trans (by rw [kk])) ?_
          refine q_iconst (v := nI 5) dX9_hasT_60 rfl ?_
          refine q_icmp_neN (tgt := 68) dX9_hasT_61 (by decide) (by omega) (by omega) (fun _ => ?_) (fun h => absurd h (by decide))
          refine q_iconst (v := nI 0) dX9_hasT_68 rfl ?_
          refine q_istore dX9_hasT_69 (by decide) (ls' := [(4, .int (nI 0)), (0, .ref 58), (1, .int (nI i)), (2, .int (bi (tMs q n))), (3, .int (nI (240 * i + n)))]) rfl ?_
          refine q_aload_n dX9_hasT_71 rfl rfl rfl ?_
          refine q_getr (r := 67) dX9_hasT_72 fX9_58 rfl (ty_c hS (by decide) rfl) (hS.2 58 15 67 rfl) ?_
          refine q_iload_n dX9_hasT_75 rfl rfl ?_
          refine q_iald (x := nI 4) (j := (240 * i + n)) dX9_hasT_76 (ty_c hS (by decide) rfl) (ix_n (by omega) (by omega)) (n1.trans (by rw [kk])) ?_
          refine q_iconst (v := nI 2) dX9_hasT_77 rfl ?_
          refine q_icmp_eqN (tgt := 91) dX9_hasT_78 (by decide) (by omega) (by omega) (fun h => absurd h (by decide)) (fun _ => ?_)
          refine q_aload_n dX9_hasT_81 rfl rfl rfl ?_
          refine q_getr (r := 67) dX9_hasT_82 fX9_58 rfl (ty_c hS (by decide) rfl) (hS.2 58 15 67 rfl) ?_
          refine q_iload_n dX9_hasT_85 rfl rfl ?_
          refine q_iald (x := nI 4) (j := (240 * i + n)) dX9_hasT_86 (ty_c hS (by decide) rfl) (ix_n (by omega) (by omega)) (n1.trans (by rw [kk])) ?_
          refine q_iconst (v := nI 5) dX9_hasT_87 rfl ?_
          refine q_icmp_neN (tgt := 95) dX9_hasT_88 (by decide) (by omega) (by omega) (fun _ => ?_) (fun h => absurd h (by decide))
          refine q_iconst (v := nI 0) dX9_hasT_95 rfl ?_
          refine q_istore dX9_hasT_96 (by decide) (ls' := [(5, .int (nI 0)), (4, .int (nI 0)), (0, .ref 58), (1, .int (nI i)), (2, .int (bi (tMs q n))), (3, .int (nI (240 * i + n)))]) rfl ?_
          refine q_iload_n dX9_hasT_98 rfl rfl ?_
          refine q_if_neB (tgt := 145) dX9_hasT_99 (by decide) (fun c99 => ?_) (fun c99 => ?_)
          · skip
            refine q_iconst (v := nI 1) dX9_hasT_145 rfl ?_
            refine q_goto (tgt := 150) dX9_hasT_146 (by decide) ?_
            refine q_top (y := bi (tMs q n || false)) (by first | (rw [c99]; rfl) | (rw [c99, b110]; rfl) | (rw [c99, b126]; rfl) | (rw [c99, b110, b126]; rfl) | (rw [c99, b126, b142]; rfl)) ?_
            refine q_istore_n dX9_hasT_150 rfl (by decide) (ls' := [(2, .int (bi (tMs q n || false))), (5, .int (nI 0)), (4, .int (nI 0)), (0, .ref 58), (1, .int (nI i)), (3, .int (nI (240 * i + n)))]) rfl ?_
            refine q_iincN (c := 1) dX9_hasT_151 rfl (by decide) rfl (ls' := [(3, .int (nI (240 * i + n + 1))), (2, .int (bi (tMs q n || false))), (5, .int (nI 0)), (4, .int (nI 0)), (0, .ref 58), (1, .int (nI i))]) rfl ?_
            refine q_goto (tgt := 8) dX9_hasT_154 (by decide) ?_
            refine q_pk [4, 5, 1, 0] (ls' := [(0, .ref 58), (1, .int (nI i)), (2, .int (bi (tMs q n || false))), (3, .int (nI (240 * i + n + 1)))]) rfl ?_
            exact hI
          · skip
            refine q_aload_n dX9_hasT_102 rfl rfl rfl ?_
            refine q_getr (r := 69) dX9_hasT_103 fX9_64 rfl (ty_c hS (by decide) rfl) (hS.2 58 17 69 rfl) ?_
            refine q_iload_n dX9_hasT_106 rfl rfl ?_
            refine q_iald (x := (-1)) (j := (240 * i + n)) dX9_hasT_107 (ty_c hS (by decide) rfl) (ix_n (by omega) (by omega)) (n3.trans (if_neg (by omega))) ?_
            refine q_bipush (v := nI 16) dX9_hasT_108 rfl ?_
            refine q_icmp_ge1 (tgt := 145) dX9_hasT_110 (by decide) (by omega) (by decide) ?_
            refine q_iload dX9_hasT_113 rfl ?_
            refine q_if_eqN (tgt := 129) dX9_hasT_115 (by decide) (by omega) (fun _ => ?_) (fun h => absurd h (by decide))
            refine q_iload dX9_hasT_129 rfl ?_
            refine q_if_eqN (tgt := 149) dX9_hasT_131 (by decide) (by omega) (fun _ => ?_) (fun h => absurd h (by decide))
            refine q_iconst (v := nI 0) dX9_hasT_149 rfl ?_
            refine q_top (y := bi (tMs q n || false)) (by first | (rw [c99]; rfl) | (rw [c99, b110]; rfl) | (rw [c99, b126]; rfl) | (rw [c99, b110, b126]; rfl) | (rw [c99, b126, b142]; rfl)) ?_
            refine q_istore_n dX9_hasT_150 rfl (by decide) (ls' := [(2, .int (bi (tMs q n || false))), (5, .int (nI 0)), (4, .int (nI 0)), (0, .ref 58), (1, .int (nI i)), (3, .int (nI (240 * i + n)))]) rfl ?_
            refine q_iincN (c := 1) dX9_hasT_151 rfl (by decide) rfl (ls' := [(3, .int (nI (240 * i + n + 1))), (2, .int (bi (tMs q n || false))), (5, .int (nI 0)), (4, .int (nI 0)), (0, .ref 58), (1, .int (nI i))]) rfl ?_
            refine q_goto (tgt := 8) dX9_hasT_154 (by decide) ?_
            refine q_pk [4, 5, 1, 0] (ls' := [(0, .ref 58), (1, .int (nI i)), (2, .int (bi (tMs q n || false))), (3, .int (nI (240 * i + n + 1)))]) rfl ?_
            exact hI
      · skip
        have hv : tM (rg q n) = (oT (rO0 (rg q n)) || oT (rO1 (rg q n))) := by unfold tM; rw [kk]; simp
        rw [hv] at hI
        refine q_iload_n dX9_hasT_8 rfl rfl ?_
        refine q_sipush (v := nI 240) dX9_hasT_9 rfl ?_
        refine q_iload_n dX9_hasT_12 rfl rfl ?_
        refine q_imulN dX9_hasT_13 ?_
        refine q_aload_n dX9_hasT_14 rfl rfl rfl ?_
        refine q_getr (r := 63) dX9_hasT_15 fX9_46 rfl (ty_c hS (by decide) rfl) (hS.2 58 11 63 rfl) ?_
        refine q_iload_n dX9_hasT_18 rfl rfl ?_
        refine q_iald (x := nI ((psS q).length)) (j := i) dX9_hasT_19 (ty_c hS (by decide) rfl) (ix_n (by omega) (by omega)) r63 ?_
        refine q_iaddN dX9_hasT_20 ?_
        refine q_icmp_geN (tgt := 157) dX9_hasT_21 (by decide) (by omega) (by omega) (fun c21 => ?_) (fun c21 => ?_)
        · exact absurd c21 (by omega)
        · skip
          refine q_aload_n dX9_hasT_24 rfl rfl rfl ?_
          refine q_getr (r := 67) dX9_hasT_25 fX9_58 rfl (ty_c hS (by decide) rfl) (hS.2 58 15 67 rfl) ?_
          refine q_iload_n dX9_hasT_28 rfl rfl ?_
          refine q_iald (x := nI 5) (j := (240 * i + n)) dX9_hasT_29 (ty_c hS (by decide) rfl) (ix_n (by omega) (by omega)) (n1.trans (by rw [kk])) ?_
          refine q_iconst (v := nI 1) dX9_hasT_30 rfl ?_
          refine q_icmp_eqN (tgt := 64) dX9_hasT_31 (by decide) (by omega) (by omega) (fun h => absurd h (by decide)) (fun _ => ?_)
          refine q_aload_n dX9_hasT_34 rfl rfl rfl ?_
          refine q_getr (r := 67) dX9_hasT_35 fX9_58 rfl (ty_c hS (by decide) rfl) (hS.2 58 15 67 rfl) ?_
          refine q_iload_n dX9_hasT_38 rfl rfl ?_
          refine q_iald (x := nI 5) (j := (240 * i + n)) dX9_hasT_39 (ty_c hS (by decide) rfl) (ix_n (by omega) (by omega)) (n1.trans (by rw [kk])) ?_
          refine q_iconst (v := nI 2) dX9_hasT_40 rfl ?_
          refine q_icmp_eqN (tgt := 64) dX9_hasT_41 (by decide) (by omega) (by omega) (fun h => absurd h (by decide)) (fun _ => ?_)
          refine q_aload_n dX9_hasT_44 rfl rfl rfl ?_
          refine q_getr (r := 67) dX9_hasT_45 fX9_58 rfl (ty_c hS (by decide) rfl) (hS.2 58 15 67 rfl) ?_
          refine q_iload_n dX9_hasT_48 rfl rfl ?_
          refine q_iald (x := nI 5) (j := (240 * i + n)) dX9_hasT_49 (ty_c hS (by decide) rfl) (ix_n (by omega) (by omega)) (n1.trans (by rw [kk])) ?_
          refine q_iconst (v := nI 3) dX9_hasT_50 rfl ?_
          refine q_icmp_eqN (tgt := 64) dX9_hasT_51 (by decide) (by omega) (by omega) (fun h => absurd h (by decide)) (fun _ => ?_)
          refine q_aload_n dX9_hasT_54 rfl rfl rfl ?_
          refine q_getr (r := 67) dX9_hasT_55 fX9_58 rfl (ty_c hS (by decide) rfl) (hS.2 58 15 67 rfl) ?_
          refine q_iload_n dX9_hasT_58 rfl rfl ?_
          refine q_iald (x := nI 5) (j := (240 * i + n)) dX9_hasT_59 (ty_c hS (by decide) rfl) (ix_n (by omega) (by omega)) (n1.trans (by rw [kk])) ?_
          refine q_iconst (v := nI 5) dX9_hasT_60 rfl ?_
          refine q_icmp_neN (tgt := 68) dX9_hasT_61 (by decide) (by omega) (by omega) (fun h => absurd h (by decide)) (fun _ => ?_)
          refine q_iconst (v := nI 1) dX9_hasT_64 rfl ?_
          refine q_goto (tgt := 69) dX9_hasT_65 (by decide) ?_
          refine q_istore dX9_hasT_69 (by decide) (ls' := [(4, .int (nI 1)), (0, .ref 58), (1, .int (nI i)), (2, .int (bi (tMs q n))), (3, .int (nI (240 * i + n)))]) rfl ?_
          refine q_aload_n dX9_hasT_71 rfl rfl rfl ?_
          refine q_getr (r := 67) dX9_hasT_72 fX9_58 rfl (ty_c hS (by decide) rfl) (hS.2 58 15 67 rfl) ?_
          refine q_iload_n dX9_hasT_75 rfl rfl ?_
          refine q_iald (x := nI 5) (j := (240 * i + n)) dX9_hasT_76 (ty_c hS (by decide) rfl) (ix_n (by omega) (by omega)) (n1.trans (by rw [kk])) ?_
          refine q_iconst (v := nI 2) dX9_hasT_77 rfl ?_
          refine q_icmp_eqN (tgt := 91) dX9_hasT_78 (by decide) (by omega) (by omega) (fun h => absurd h (by decide)) (fun _ => ?_)
          refine q_aload_n dX9_hasT_81 rfl rfl rfl ?_
          refine q_getr (r := 67) dX9_hasT_82 fX9_58 rfl (ty_c hS (by decide) rfl) (hS.2 58 15 67 rfl) ?_
          refine q_iload_n dX9_hasT_85 rfl rfl ?_
          refine q_iald (x := nI 5) (j := (240 * i + n)) dX9_hasT_86 (ty_c hS (by decide) rfl) (ix_n (by omega) (by omega)) (n1.trans (by rw [kk])) ?_
          refine q_iconst (v := nI 5) dX9_hasT_87 rfl ?_
          refine q_icmp_neN (tgt := 95) dX9_hasT_88 (by decide) (by omega) (by omega) (fun h => absurd h (by decide)) (fun _ => ?_)
          refine q_iconst (v := nI 1) dX9_hasT_91 rfl ?_
          refine q_goto (tgt := 96) dX9_hasT_92 (by decide) ?_
          refine q_istore dX9_hasT_96 (by decide) (ls' := [(5, .int (nI 1)), (4, .int (nI 1)), (0, .ref 58), (1, .int (nI i)), (2, .int (bi (tMs q n))), (3, .int (nI (240 * i + n)))]) rfl ?_
          refine q_iload_n dX9_hasT_98 rfl rfl ?_
          refine q_if_neB (tgt := 145) dX9_hasT_99 (by decide) (fun c99 => ?_) (fun c99 => ?_)
          · skip
            refine q_iconst (v := nI 1) dX9_hasT_145 rfl ?_
            refine q_goto (tgt := 150) dX9_hasT_146 (by decide) ?_
            refine q_top (y := bi (tMs q n || (oT (rO0 (rg q n)) || oT (rO1 (rg q n))))) (by first | (rw [c99]; rfl) | (rw [c99, b110]; rfl) | (rw [c99, b126]; rfl) | (rw [c99, b110, b126]; rfl) | (rw [c99, b126, b142]; rfl)) ?_
            refine q_istore_n dX9_hasT_150 rfl (by decide) (ls' := [(2, .int (bi (tMs q n || (oT (rO0 (rg q n)) || oT (rO1 (rg q n)))))), (5, .int (nI 1)), (4, .int (nI 1)), (0, .ref 58), (1, .int (nI i)), (3, .int (nI (240 * i + n)))]) rfl ?_
            refine q_iincN (c := 1) dX9_hasT_151 rfl (by decide) rfl (ls' := [(3, .int (nI (240 * i + n + 1))), (2, .int (bi (tMs q n || (oT (rO0 (rg q n)) || oT (rO1 (rg q n)))))), (5, .int (nI 1)), (4, .int (nI 1)), (0, .ref 58), (1, .int (nI i))]) rfl ?_
            refine q_goto (tgt := 8) dX9_hasT_154 (by decide) ?_
            refine q_pk [4, 5, 1, 0] (ls' := [(0, .ref 58), (1, .int (nI i)), (2, .int (bi (tMs q n || (oT (rO0 (rg q n)) || oT (rO1 (rg q n)))))), (3, .int (nI (240 * i + n + 1)))]) rfl ?_
            exact hI
          · skip
            refine q_aload_n dX9_hasT_102 rfl rfl rfl ?_
            refine q_getr (r := 69) dX9_hasT_103 fX9_64 rfl (ty_c hS (by decide) rfl) (hS.2 58 17 69 rfl) ?_
            refine q_iload_n dX9_hasT_106 rfl rfl ?_
            refine q_iald (x := (-1)) (j := (240 * i + n)) dX9_hasT_107 (ty_c hS (by decide) rfl) (ix_n (by omega) (by omega)) (n3.trans (if_neg (by omega))) ?_
            refine q_bipush (v := nI 16) dX9_hasT_108 rfl ?_
            refine q_icmp_ge1 (tgt := 145) dX9_hasT_110 (by decide) (by omega) (by decide) ?_
            refine q_iload dX9_hasT_113 rfl ?_
            refine q_if_eqN (tgt := 129) dX9_hasT_115 (by decide) (by omega) (fun h => absurd h (by decide)) (fun _ => ?_)
            refine q_aload_n dX9_hasT_118 rfl rfl rfl ?_
            refine q_getr (r := 73) dX9_hasT_119 fX9_76 rfl (ty_c hS (by decide) rfl) (hS.2 58 21 73 rfl) ?_
            refine q_iload_n dX9_hasT_122 rfl rfl ?_
            refine q_iald (x := opn (rO0 (rg q n))) (j := (240 * i + n)) dX9_hasT_123 (ty_c hS (by decide) rfl) (ix_n (by omega) (by omega)) ((n5 (by omega)).1) ?_
            refine q_bipush (v := nI 16) dX9_hasT_124 rfl ?_
            refine q_icmp_ge (tgt := 145) dX9_hasT_126 (by decide) (fun c126 => ?_) (fun c126 => ?_)
            · have b126 := b_t i1 c126
              refine q_iconst (v := nI 1) dX9_hasT_145 rfl ?_
              refine q_goto (tgt := 150) dX9_hasT_146 (by decide) ?_
              refine q_top (y := bi (tMs q n || (oT (rO0 (rg q n)) || oT (rO1 (rg q n))))) (by first | (rw [c99]; rfl) | (rw [c99, b110]; rfl) | (rw [c99, b126]; rfl) | (rw [c99, b110, b126]; rfl) | (rw [c99, b126, b142]; rfl)) ?_
              refine q_istore_n dX9_hasT_150 rfl (by decide) (ls' := [(2, .int (bi (tMs q n || (oT (rO0 (rg q n)) || oT (rO1 (rg q n)))))), (5, .int (nI 1)), (4, .int (nI 1)), (0, .ref 58), (1, .int (nI i)), (3, .int (nI (240 * i + n)))]) rfl ?_
              refine q_iincN (c := 1) dX9_hasT_151 rfl (by decide) rfl (ls' := [(3, .int (nI (240 * i + n + 1))), (2, .int (bi (tMs q n || (oT (rO0 (rg q n)) || oT (rO1 (rg q n)))))), (5, .int (nI 1)), (4, .int (nI 1)), (0, .ref 58), (1, .int (nI i))]) rfl ?_
              refine q_goto (tgt := 8) dX9_hasT_154 (by decide) ?_
              refine q_pk [4, 5, 1, 0] (ls' := [(0, .ref 58), (1, .int (nI i)), (2, .int (bi (tMs q n || (oT (rO0 (rg q n)) || oT (rO1 (rg q n)))))), (3, .int (nI (240 * i + n + 1)))]) rfl ?_
              exact hI
            · have b126 := b_f i1 c126
              refine q_iload dX9_hasT_129 rfl ?_
              refine q_if_eqN (tgt := 149) dX9_hasT_131 (by decide) (by omega) (fun h => absurd h (by decide)) (fun _ => ?_)
              refine q_aload_n dX9_hasT_134 rfl rfl rfl ?_
              refine q_getr (r := 75) dX9_hasT_135 fX9_82 rfl (ty_c hS (by decide) rfl) (hS.2 58 23 75 rfl) ?_
              refine q_iload_n dX9_hasT_138 rfl rfl ?_
              refine q_iald (x := opn (rO1 (rg q n))) (j := (240 * i + n)) dX9_hasT_139 (ty_c hS (by decide) rfl) (ix_n (by omega) (by omega)) ((n6 (by omega)).1) ?_
              refine q_bipush (v := nI 16) dX9_hasT_140 rfl ?_
              refine q_icmp_lt (tgt := 149) dX9_hasT_142 (by decide) (fun c142 => ?_) (fun c142 => ?_)
              · have b142 := b_f i2 (Int32.not_le.mpr c142)
                refine q_iconst (v := nI 0) dX9_hasT_149 rfl ?_
                refine q_top (y := bi (tMs q n || (oT (rO0 (rg q n)) || oT (rO1 (rg q n))))) (by first | (rw [c99]; rfl) | (rw [c99, b110]; rfl) | (rw [c99, b126]; rfl) | (rw [c99, b110, b126]; rfl) | (rw [c99, b126, b142]; rfl)) ?_
                refine q_istore_n dX9_hasT_150 rfl (by decide) (ls' := [(2, .int (bi (tMs q n || (oT (rO0 (rg q n)) || oT (rO1 (rg q n)))))), (5, .int (nI 1)), (4, .int (nI 1)), (0, .ref 58), (1, .int (nI i)), (3, .int (nI (240 * i + n)))]) rfl ?_
                refine q_iincN (c := 1) dX9_hasT_151 rfl (by decide) rfl (ls' := [(3, .int (nI (240 * i + n + 1))), (2, .int (bi (tMs q n || (oT (rO0 (rg q n)) || oT (rO1 (rg q n)))))), (5, .int (nI 1)), (4, .int (nI 1)), (0, .ref 58), (1, .int (nI i))]) rfl ?_
                refine q_goto (tgt := 8) dX9_hasT_154 (by decide) ?_
                refine q_pk [4, 5, 1, 0] (ls' := [(0, .ref 58), (1, .int (nI i)), (2, .int (bi (tMs q n || (oT (rO0 (rg q n)) || oT (rO1 (rg q n)))))), (3, .int (nI (240 * i + n + 1)))]) rfl ?_
                exact hI
              · have b142 := b_t i2 (Int32.not_lt.mp c142)
                refine q_iconst (v := nI 1) dX9_hasT_145 rfl ?_
                refine q_goto (tgt := 150) dX9_hasT_146 (by decide) ?_
                refine q_top (y := bi (tMs q n || (oT (rO0 (rg q n)) || oT (rO1 (rg q n))))) (by first | (rw [c99]; rfl) | (rw [c99, b110]; rfl) | (rw [c99, b126]; rfl) | (rw [c99, b110, b126]; rfl) | (rw [c99, b126, b142]; rfl)) ?_
                refine q_istore_n dX9_hasT_150 rfl (by decide) (ls' := [(2, .int (bi (tMs q n || (oT (rO0 (rg q n)) || oT (rO1 (rg q n)))))), (5, .int (nI 1)), (4, .int (nI 1)), (0, .ref 58), (1, .int (nI i)), (3, .int (nI (240 * i + n)))]) rfl ?_
                refine q_iincN (c := 1) dX9_hasT_151 rfl (by decide) rfl (ls' := [(3, .int (nI (240 * i + n + 1))), (2, .int (bi (tMs q n || (oT (rO0 (rg q n)) || oT (rO1 (rg q n)))))), (5, .int (nI 1)), (4, .int (nI 1)), (0, .ref 58), (1, .int (nI i))]) rfl ?_
                refine q_goto (tgt := 8) dX9_hasT_154 (by decide) ?_
                refine q_pk [4, 5, 1, 0] (ls' := [(0, .ref 58), (1, .int (nI i)), (2, .int (bi (tMs q n || (oT (rO0 (rg q n)) || oT (rO1 (rg q n)))))), (3, .int (nI (240 * i + n + 1)))]) rfl ?_
                exact hI
      · skip
        have hv : tM (rg q n) = (false) := by unfold tM; rw [kk]; simp
        rw [hv] at hI
        refine q_iload_n dX9_hasT_8 rfl rfl ?_
        refine q_sipush (v := nI 240) dX9_hasT_9 rfl ?_
        refine q_iload_n dX9_hasT_12 rfl rfl ?_
        refine q_imulN dX9_hasT_13 ?_
        refine q_aload_n dX9_hasT_14 rfl rfl rfl ?_
        refine q_getr (r := 63) dX9_hasT_15 fX9_46 rfl (ty_c hS (by decide) rfl) (hS.2 58 11 63 rfl) ?_
        refine q_iload_n dX9_hasT_18 rfl rfl ?_
        refine q_iald (x := nI ((psS q).length)) (j := i) dX9_hasT_19 (ty_c hS (by decide) rfl) (ix_n (by omega) (by omega)) r63 ?_
        refine q_iaddN dX9_hasT_20 ?_
        refine q_icmp_geN (tgt := 157) dX9_hasT_21 (by decide) (by omega) (by omega) (fun c21 => ?_) (fun c21 => ?_)
        · exact absurd c21 (by omega)
        · skip
          refine q_aload_n dX9_hasT_24 rfl rfl rfl ?_
          refine q_getr (r := 67) dX9_hasT_25 fX9_58 rfl (ty_c hS (by decide) rfl) (hS.2 58 15 67 rfl) ?_
          refine q_iload_n dX9_hasT_28 rfl rfl ?_
          refine q_iald (x := nI 6) (j := (240 * i + n)) dX9_hasT_29 (ty_c hS (by decide) rfl) (ix_n (by omega) (by omega)) (n1.trans (by rw [kk])) ?_
          refine q_iconst (v := nI 1) dX9_hasT_30 rfl ?_
          refine q_icmp_eqN (tgt := 64) dX9_hasT_31 (by decide) (by omega) (by omega) (fun h => absurd h (by decide)) (fun _ => ?_)
          refine q_aload_n dX9_hasT_34 rfl rfl rfl ?_
          refine q_getr (r := 67) dX9_hasT_35 fX9_58 rfl (ty_c hS (by decide) rfl) (hS.2 58 15 67 rfl) ?_
          refine q_iload_n dX9_hasT_38 rfl rfl ?_
          refine q_iald (x := nI 6) (j := (240 * i + n)) dX9_hasT_39 (ty_c hS (by decide) rfl) (ix_n (by omega) (by omega)) (n1.trans (by rw [kk])) ?_
          refine q_iconst (v := nI 2) dX9_hasT_40 rfl ?_
          refine q_icmp_eqN (tgt := 64) dX9_hasT_41 (by decide) (by omega) (by omega) (fun h => absurd h (by decide)) (fun _ => ?_)
          refine q_aload_n dX9_hasT_44 rfl rfl rfl ?_
          refine q_getr (r := 67) dX9_hasT_45 fX9_58 rfl (ty_c hS (by decide) rfl) (hS.2 58 15 67 rfl) ?_
          refine q_iload_n dX9_hasT_48 rfl rfl ?_
          refine q_iald (x := nI 6) (j := (240 * i + n)) dX9_hasT_49 (ty_c hS (by decide) rfl) (ix_n (by omega) (by omega)) (n1.trans (by rw [kk])) ?_
          refine q_iconst (v := nI 3) dX9_hasT_50 rfl ?_
          refine q_icmp_eqN (tgt := 64) dX9_hasT_51 (by decide) (by omega) (by omega) (fun h => absurd h (by decide)) (fun _ => ?_)
          refine q_aload_n dX9_hasT_54 rfl rfl rfl ?_
          refine q_getr (r := 67) dX9_hasT_55 fX9_58 rfl (ty_c hS (by decide) rfl) (hS.2 58 15 67 rfl) ?_
          refine q_iload_n dX9_hasT_58 rfl rfl ?_
          refine q_iald (x := nI 6) (j := (240 * i + n)) dX9_hasT_59 (ty_c hS (by decide) rfl) (ix_n (by omega) (by omega)) (n1.trans (by rw [kk])) ?_
          refine q_iconst (v := nI 5) dX9_hasT_60 rfl ?_
          refine q_icmp_neN (tgt := 68) dX9_hasT_61 (by decide) (by omega) (by omega) (fun _ => ?_) (fun h => absurd h (by decide))
          refine q_iconst (v := nI 0) dX9_hasT_68 rfl ?_
          refine q_istore dX9_hasT_69 (by decide) (ls' := [(4, .int (nI 0)), (0, .ref 58), (1, .int (nI i)), (2, .int (bi (tMs q n))), (3, .int (nI (240 * i + n)))]) rfl ?_
          refine q_aload_n dX9_hasT_71 rfl rfl rfl ?_
          refine q_getr (r := 67) dX9_hasT_72 fX9_58 rfl (ty_c hS (by decide) rfl) (hS.2 58 15 67 rfl) ?_
          refine q_iload_n dX9_hasT_75 rfl rfl ?_
          refine q_iald (x := nI 6) (j := (240 * i + n)) dX9_hasT_76 (ty_c hS (by decide) rfl) (ix_n (by omega) (by omega)) (n1.trans (by rw [kk])) ?_
          refine q_iconst (v := nI 2) dX9_hasT_77 rfl ?_
          refine q_icmp_eqN (tgt := 91) dX9_hasT_78 (by decide) (by omega) (by omega) (fun h => absurd h (by decide)) (fun _ => ?_)
          refine q_aload_n dX9_hasT_81 rfl rfl rfl ?_
          refine q_getr (r := 67) dX9_hasT_82 fX9_58 rfl (ty_c hS (by decide) rfl) (hS.2 58 15 67 rfl) ?_
          refine q_iload_n dX9_hasT_85 rfl rfl ?_
          refine q_iald (x := nI 6) (j := (240 * i + n)) dX9_hasT_86 (ty_c hS (by decide) rfl) (ix_n (by omega) (by omega)) (n1.trans (by rw [kk])) ?_
          refine q_iconst (v := nI 5) dX9_hasT_87 rfl ?_
          refine q_icmp_neN (tgt := 95) dX9_hasT_88 (by decide) (by omega) (by omega) (fun _ => ?_) (fun h => absurd h (by decide))
          refine q_iconst (v := nI 0) dX9_hasT_95 rfl ?_
          refine q_istore dX9_hasT_96 (by decide) (ls' := [(5, .int (nI 0)), (4, .int (nI 0)), (0, .ref 58), (1, .int (nI i)), (2, .int (bi (tMs q n))), (3, .int (nI (240 * i + n)))]) rfl ?_
          refine q_iload_n dX9_hasT_98 rfl rfl ?_
          refine q_if_neB (tgt := 145) dX9_hasT_99 (by decide) (fun c99 => ?_) (fun c99 => ?_)
          · skip
            refine q_iconst (v := nI 1) dX9_hasT_145 rfl ?_
            refine q_goto (tgt := 150) dX9_hasT_146 (by decide) ?_
            refine q_top (y := bi (tMs q n || false)) (by first | (rw [c99]; rfl) | (rw [c99, b110]; rfl) | (rw [c99, b126]; rfl) | (rw [c99, b110, b126]; rfl) | (rw [c99, b126, b142]; rfl)) ?_
            refine q_istore_n dX9_hasT_150 rfl (by decide) (ls' := [(2, .int (bi (tMs q n || false))), (5, .int (nI 0)), (4, .int (nI 0)), (0, .ref 58), (1, .int (nI i)), (3, .int (nI (240 * i + n)))]) rfl ?_
            refine q_iincN (c := 1) dX9_hasT_151 rfl (by decide) rfl (ls' := [(3, .int (nI (240 * i + n + 1))), (2, .int (bi (tMs q n || false))), (5, .int (nI 0)), (4, .int (nI 0)), (0, .ref 58), (1, .int (nI i))]) rfl ?_
            refine q_goto (tgt := 8) dX9_hasT_154 (by decide) ?_
            refine q_pk [4, 5, 1, 0] (ls' := [(0, .ref 58), (1, .int (nI i)), (2, .int (bi (tMs q n || false))), (3, .int (nI (240 * i + n + 1)))]) rfl ?_
            exact hI
          · skip
            refine q_aload_n dX9_hasT_102 rfl rfl rfl ?_
            refine q_getr (r := 69) dX9_hasT_103 fX9_64 rfl (ty_c hS (by decide) rfl) (hS.2 58 17 69 rfl) ?_
            refine q_iload_n dX9_hasT_106 rfl rfl ?_
            refine q_iald (x := (-1)) (j := (240 * i + n)) dX9_hasT_107 (ty_c hS (by decide) rfl) (ix_n (by omega) (by omega)) (n3.trans (if_neg (by omega))) ?_
            refine q_bipush (v := nI 16) dX9_hasT_108 rfl ?_
            refine q_icmp_ge1 (tgt := 145) dX9_hasT_110 (by decide) (by omega) (by decide) ?_
            refine q_iload dX9_hasT_113 rfl ?_
            refine q_if_eqN (tgt := 129) dX9_hasT_115 (by decide) (by omega) (fun _ => ?_) (fun h => absurd h (by decide))
            refine q_iload dX9_hasT_129 rfl ?_
            refine q_if_eqN (tgt := 149) dX9_hasT_131 (by decide) (by omega) (fun _ => ?_) (fun h => absurd h (by decide))
            refine q_iconst (v := nI 0) dX9_hasT_149 rfl ?_
            refine q_top (y := bi (tMs q n || false)) (by first | (rw [c99]; rfl) | (rw [c99, b110]; rfl) | (rw [c99, b126]; rfl) | (rw [c99, b110, b126]; rfl) | (rw [c99, b126, b142]; rfl)) ?_
            refine q_istore_n dX9_hasT_150 rfl (by decide) (ls' := [(2, .int (bi (tMs q n || false))), (5, .int (nI 0)), (4, .int (nI 0)), (0, .ref 58), (1, .int (nI i)), (3, .int (nI (240 * i + n)))]) rfl ?_
            refine q_iincN (c := 1) dX9_hasT_151 rfl (by decide) rfl (ls' := [(3, .int (nI (240 * i + n + 1))), (2, .int (bi (tMs q n || false))), (5, .int (nI 0)), (4, .int (nI 0)), (0, .ref 58), (1, .int (nI i))]) rfl ?_
            refine q_goto (tgt := 8) dX9_hasT_154 (by decide) ?_
            refine q_pk [4, 5, 1, 0] (ls' := [(0, .ref 58), (1, .int (nI i)), (2, .int (bi (tMs q n || false))), (3, .int (nI (240 * i + n + 1)))]) rfl ?_
            exact hI

theorem z9_hasT (hS : SK σ) (hi : i < 4) (hr : MR σ i q) (hk : MOK q) (hq : QT q) : CT g mX9_hasT 0 0 0 [.ref 58, .int (nI i)] σ (PQ σ (.int (bi (psT q)))) := by
  rw [← psT_is hk.2.1 hk.2.2.2.1 hq]
  have hI := y9_ht8 (g := g) hS hi hr hk (psS q).length 0 (by omega)
  refine CT.of (by decide) (Nat.le_of_ble_eq_true rfl) ?_
  refine q_iconst (v := nI 0) dX9_hasT_0 rfl ?_
  refine q_top (y := bi (tMs q 0)) rfl ?_
  refine q_istore_n dX9_hasT_1 rfl (by decide) (ls' := [(2, .int (bi (tMs q 0))), (0, .ref 58), (1, .int (nI i))]) rfl ?_
  refine q_sipush (v := nI 240) dX9_hasT_2 rfl ?_
  refine q_iload_n dX9_hasT_5 rfl rfl ?_
  refine q_imulN dX9_hasT_6 ?_
  refine q_istore_n dX9_hasT_7 rfl (by decide) (ls' := [(3, .int (nI (240 * i))), (2, .int (bi (tMs q 0))), (0, .ref 58), (1, .int (nI i))]) rfl ?_
  refine q_pk [2, 3, 1, 0] (ls' := [(0, .ref 58), (1, .int (nI i)), (2, .int (bi (tMs q 0))), (3, .int (nI (240 * i)))]) rfl ?_
  exact hI
end MHT
