/-! The model's parser: SUMS. -/
def sAn (x : SUM) : Int32 := if x.1 = nI 114 then -1 else opn x.2.1
def sAv (x : SUM) : Int32 := if x.1 = nI 114 then x.2.1 else opv x.2.1
def SMm (σ : HS) (s : Nat) (x : SUM) : Prop := sI σ 78 s = x.1 ∧ sI σ 79 s = sAn x ∧ sI σ 80 s = sAv x ∧ sI σ 81 s = opn x.2.2 ∧ sI σ 82 s = opv x.2.2
def SMs (σ : HS) (ss : List SUM) : Prop := sI σ 64 4 = nI ss.length ∧ ∀ e, e < ss.length → SMm σ (128 + e) (ss.getD e sm0)
theorem SMs.fq {P : Nat → Nat → Prop} {σ σ' : HS} {ss : List SUM} (h : FR9 P σ σ') (h1 : ¬ P 64 4) (h2 : ∀ a i, 78 ≤ a → a ≤ 82 → ¬ P a i) (k : SMs σ ss) : SMs σ' ss := ⟨(h.2.2.2 _ _ h1).trans k.1, fun e he => by
  obtain ⟨k1, k2, k3, k4, k5⟩ := k.2 e he
  exact ⟨(h.2.2.2 _ _ (h2 _ _ (by omega) (by omega))).trans k1, (h.2.2.2 _ _ (h2 _ _ (by omega) (by omega))).trans k2, (h.2.2.2 _ _ (h2 _ _ (by omega) (by omega))).trans k3, (h.2.2.2 _ _ (h2 _ _ (by omega) (by omega))).trans k4, (h.2.2.2 _ _ (h2 _ _ (by omega) (by omega))).trans k5⟩⟩
theorem SMs.off {h i : Nat} {v : Int32} {σ : HS} {ss : List SUM} (hh : h ≠ 64 ∧ (h < 78 ∨ 82 < h)) (k : SMs σ ss) : SMs (uI σ h i v) ss :=
  k.fq (P := fun a j => a = h ∧ j = i) ((FR9.rf).uI ⟨rfl, rfl⟩) (by omega) (fun a j h1 h2 => by omega)
theorem SMs.lb {σ σ' : HS} {ss : List SUM} (h : FR9 lxb σ σ') (k : SMs σ ss) : SMs σ' ss := k.fq h (by unfold lxb; omega) (fun a i h1 h2 => by unfold lxb; omega)
theorem SMs.nd {n : Nat} {σ σ' : HS} {ss : List SUM} (h : FR9 (ndq n) σ σ') (k : SMs σ ss) : SMs σ' ss := k.fq h (by unfold ndq blq lxb; omega) (fun a i h1 h2 => by unfold ndq blq lxb; omega)
theorem opd_inj {a b : Int32} (ha : OPD a) (hb : OPD b) (h1 : opn a = opn b) (h2 : opv a = opv b) : a = b := by
  rcases ha with ⟨v, v1, rfl⟩ | ⟨v, v1, rfl⟩ | ⟨v, v1, rfl⟩ <;> rcases hb with ⟨w, w1, rfl⟩ | ⟨w, w1, rfl⟩ | ⟨w, w1, rfl⟩
  · rw [(opn_n v1).2, (opn_n w1).2] at h2; exact h2
  · rw [(opn_n v1).2, (opn_m w1).2] at h2; exact h2
  · rw [(opn_n v1).1, (opn_nm (by omega)).1] at h1; exact absurd h1.symm (nI_ne_m1 (by omega))
  · rw [(opn_m v1).2, (opn_n w1).2] at h2; exact h2
  · rw [(opn_m v1).2, (opn_m w1).2] at h2; exact h2
  · rw [(opn_m v1).1, (opn_nm (by omega)).1] at h1; exact absurd h1.symm (nI_ne_m1 (by omega))
  · rw [(opn_nm (by omega)).1, (opn_n w1).1] at h1; exact absurd h1 (nI_ne_m1 (by omega))
  · rw [(opn_nm (by omega)).1, (opn_m w1).1] at h1; exact absurd h1 (nI_ne_m1 (by omega))
  · rw [(opn_nm (by omega)).1, (opn_nm (by omega)).1] at h1
    have := nI_inj (by omega) (by omega) h1
    rw [this]
theorem isO_r {c : Int32} (h : isO c) : c ≠ nI 114 := by
  rcases h with h | h | h | h | h | h <;> (rw [h]; decide)
theorem sm_inj {x y : SUM} (hx : SMW x) (hy : SMW y) (h1 : x.1 = y.1) (h2 : sAn x = sAn y) (h3 : sAv x = sAv y) (h4 : opn x.2.2 = opn y.2.2) (h5 : opv x.2.2 = opv y.2.2) : x = y := by
  obtain ⟨a, b, c⟩ := x
  obtain ⟨a', b', c'⟩ := y
  cases (show a = a' from h1)
  have ec : c = c' := by
    rcases hx with ⟨_, _, x3⟩ | ⟨_, _, x3⟩ <;> rcases hy with ⟨_, _, y3⟩ | ⟨_, _, y3⟩ <;> exact opd_inj x3 y3 h4 h5
  cases ec
  rcases hx with ⟨x1, x2, _⟩ | ⟨x1, ⟨w, w1, w2⟩, _⟩
  · have x1 : isO a := x1
    rcases hy with ⟨y1, y2, _⟩ | ⟨y1, _, _⟩
    · have e1 : opn b = opn b' := by
        have := h2
        unfold sAn at this
        rw [if_neg (isO_r x1), if_neg (isO_r y1)] at this
        exact this
      have e2 : opv b = opv b' := by
        have := h3
        unfold sAv at this
        rw [if_neg (isO_r x1), if_neg (isO_r y1)] at this
        exact this
      rw [show b = b' from opd_inj x2 y2 e1 e2]
    · exact absurd y1 (isO_r x1)
  · have x1 : a = nI 114 := x1
    have e2 : b = b' := by
      have := h3
      unfold sAv at this
      rw [if_pos x1, if_pos (show a = nI 114 from x1)] at this
      exact this
    rw [e2]
def suq (n h i : Nat) : Prop := (h = 70 ∧ i = n) ∨ (h = 58 ∧ i = 38) ∨ (h = 64 ∧ i = 4) ∨ (78 ≤ h ∧ h ≤ 82 ∧ 128 ≤ i)
def SuQ (σ : HS) (n : Nat) (x : SUM) (ss : List SUM) (m : Bool) : HS → Prop := fun σ' => ((nSum ss x).2.2 = false → sI σ' 70 n = (nSum ss x).1) ∧ SMs σ' (nSum ss x).2.1 ∧ sI σ' 58 38 = bi (m || (nSum ss x).2.2) ∧ FR9 (suq n) σ σ' ∧ sL σ' = sL σ
section MSU
variable {g : GG} {σ : HS} {n : Nat} {x : SUM} {ss : List SUM} {m : Bool}
theorem suA (hs : SMs σ ss) (hm : sI σ 58 38 = bi m) {i : Nat} (hi : i < ss.length) (h : ss.getD i sm0 = x) (hb : ∀ q, q < i → ss.getD q sm0 ≠ x) : SuQ σ n x ss m (uI σ 70 n (nI i)) := by
  have e : nSum ss x = (nI i, ss, false) := by unfold nSum; rw [fi_at hi h hb]
  refine ⟨fun _ => ?_, ?_, ?_, FR9.rf.uI (by unfold suq; omega), rfl⟩
  · rw [e]; exact uI_self
  · rw [e]; exact hs.off (by omega)
  · rw [e, Bool.or_false, rd_off (by omega)]; exact hm
theorem suB (hs : SMs σ ss) (hl : ss.length = 32) (hb : ∀ q, q < ss.length → ss.getD q sm0 ≠ x) {w : Int32} : SuQ σ n x ss m (uI (uI σ 70 n w) 58 38 (nI 1)) := by
  have e : nSum ss x = (-1, ss, true) := by unfold nSum; rw [fi_no hb]; exact if_neg (by omega)
  refine ⟨fun z => ?_, ?_, ?_, (FR9.rf.uI (by unfold suq; omega)).uI (by unfold suq; omega), rfl⟩
  · rw [e] at z; cases z
  · rw [e]; exact (hs.off (by omega)).off (by omega)
  · rw [e, Bool.or_true]; exact uI_self
theorem suC (hs : SMs σ ss) (hm : sI σ 58 38 = bi m) (hl : ss.length < 32) (hb : ∀ q, q < ss.length → ss.getD q sm0 ≠ x) : SuQ σ n x ss m (uI (uI (uI (uI (uI (uI (uI σ 70 n (nI ss.length)) 78 (128 + ss.length) x.1) 79 (128 + ss.length) (sAn x)) 80 (128 + ss.length) (sAv x)) 81 (128 + ss.length) (opn x.2.2)) 82 (128 + ss.length) (opv x.2.2)) 64 4 (nI (ss.length + 1))) := by
  have e : nSum ss x = (nI ss.length, ss ++ [x], false) := by unfold nSum; rw [fi_no hb]; exact if_pos (by omega)
  refine ⟨fun _ => ?_, ?_, ?_, ?_, rfl⟩
  · rw [e, rd_off (by omega), rd_off (by omega), rd_off (by omega), rd_off (by omega), rd_off (by omega), rd_off (by omega)]; exact uI_self
  · rw [e]
    refine ⟨uI_self.trans (by rw [List.length_append]; rfl), fun k hk => ?_⟩
    have hk : k < ss.length + 1 := by simpa using hk
    show SMm _ (128 + k) ((ss ++ [x]).getD k sm0)
    rw [gd_snoc]
    by_cases ek : k = ss.length
    · rw [if_pos ek, ek]
      refine ⟨?_, ?_, ?_, ?_, ?_⟩
      · rw [rd_off (by omega), rd_off (by omega), rd_off (by omega), rd_off (by omega), rd_off (by omega)]; exact uI_self
      · rw [rd_off (by omega), rd_off (by omega), rd_off (by omega), rd_off (by omega)]; exact uI_self
      · rw [rd_off (by omega), rd_off (by omega), rd_off (by omega)]; exact uI_self
      · rw [rd_off (by omega), rd_off (by omega)]; exact uI_self
      · rw [rd_off (by omega)]; exact uI_self
    · rw [if_neg ek]
      obtain ⟨s1, s2, s3, s4, s5⟩ := hs.2 k (by omega)
      refine ⟨?_, ?_, ?_, ?_, ?_⟩
      · rw [rd_off (by omega), rd_off (by omega), rd_off (by omega), rd_off (by omega), rd_off (by omega), rd_ne (by omega), rd_off (by omega)]; exact s1
      · rw [rd_off (by omega), rd_off (by omega), rd_off (by omega), rd_off (by omega), rd_ne (by omega), rd_off (by omega), rd_off (by omega)]; exact s2
      · rw [rd_off (by omega), rd_off (by omega), rd_off (by omega), rd_ne (by omega), rd_off (by omega), rd_off (by omega), rd_off (by omega)]; exact s3
      · rw [rd_off (by omega), rd_off (by omega), rd_ne (by omega), rd_off (by omega), rd_off (by omega), rd_off (by omega), rd_off (by omega)]; exact s4
      · rw [rd_off (by omega), rd_ne (by omega), rd_off (by omega), rd_off (by omega), rd_off (by omega), rd_off (by omega), rd_off (by omega)]; exact s5
  · rw [e, Bool.or_false, rd_off (by omega), rd_off (by omega), rd_off (by omega), rd_off (by omega), rd_off (by omega), rd_off (by omega), rd_off (by omega)]; exact hm
  · exact ((((((FR9.rf.uI (by unfold suq; omega)).uI (by unfold suq; omega)).uI (by unfold suq; omega)).uI (by unfold suq; omega)).uI (by unfold suq; omega)).uI (by unfold suq; omega)).uI (by unfold suq; omega)
theorem y9_summed (hS : SK σ) (hs : SMs σ ss) (hm : sI σ 58 38 = bi m) (hl : ss.length ≤ 32) (hw : ∀ y ∈ ss, SMW y) (hx : SMW x) (hn : n < 1200) : ∀ (k i : Nat), i + k = ss.length → (∀ q, q < i → ss.getD q sm0 ≠ x) → WA g mX9_summed 0 0 0 (ZM g (fun r σ' => r = none ∧ SuQ σ n x ss m σ') 0 0) 0 0 15 [(0, .ref 58), (1, .int (nI n)), (2, .int x.1), (3, .int (sAn x)), (4, .int (sAv x)), (5, .int (opn x.2.2)), (6, .int (opv x.2.2)), (7, .int (nI i)), (8, .int (nI 128))] [] σ := by
  have l4 := hs.1
  intro k
  induction k with
  | zero =>
    intro i hi hb
    have ei : i = ss.length := by omega
    subst ei
    refine q_iload dX9_summed_15 rfl ?_
    refine q_aload_n dX9_summed_17 rfl rfl rfl ?_
    refine q_getr (r := 64) dX9_summed_18 fX9_49 rfl (ty_c hS (by decide) rfl) (hS.2 58 12 64 rfl) ?_
    refine q_iconst (v := nI 4) dX9_summed_21 rfl ?_
    refine q_iald (x := nI ss.length) (j := 4) dX9_summed_22 (ty_c hS (by decide) rfl) (ix_n (by omega) (by omega)) l4 ?_
    refine q_icmp_geN (tgt := 105) dX9_summed_23 (by decide) (by omega) (by omega) (fun c23 => ?_) (fun c23 => ?_)
    · skip
      refine q_aload_n dX9_summed_105 rfl rfl rfl ?_
      refine q_getr (r := 70) dX9_summed_106 fX9_67 rfl (ty_c hS (by decide) rfl) (hS.2 58 18 70 rfl) ?_
      refine q_iload_n dX9_summed_109 rfl rfl ?_
      refine q_iload dX9_summed_110 rfl ?_
      refine q_iast (j := n) dX9_summed_112 (ty_c hS (by decide) rfl) (ix_n (by omega) (by omega)) ?_
      refine q_iload dX9_summed_113 rfl ?_
      refine q_aload_n dX9_summed_115 rfl rfl rfl ?_
      refine q_getr (r := 64) dX9_summed_116 fX9_49 rfl (ty_c hS (by decide) rfl) (hS.2 58 12 64 rfl) ?_
      refine q_iconst (v := nI 4) dX9_summed_119 rfl ?_
      refine q_iald (x := nI ss.length) (j := 4) dX9_summed_120 (ty_c hS (by decide) rfl) (ix_n (by omega) (by omega)) (Eq.trans (rd_off (by decide)) l4) ?_
      refine q_icmp_geN (tgt := 125) dX9_summed_121 (by decide) (by omega) (by omega) (fun c121 => ?_) (fun c121 => ?_)
      · skip
        refine q_iload dX9_summed_125 rfl ?_
        refine q_bipush (v := nI 32) dX9_summed_127 rfl ?_
        refine q_icmp_neN (tgt := 138) dX9_summed_129 (by decide) (by omega) (by omega) (fun c129 => ?_) (fun c129 => ?_)
        · skip
          refine q_aload_n dX9_summed_138 rfl rfl rfl ?_
          refine q_getr (r := 78) dX9_summed_139 fX9_91 rfl (ty_c hS (by decide) rfl) (hS.2 58 26 78 rfl) ?_
          refine q_iload dX9_summed_142 rfl ?_
          refine q_iload dX9_summed_144 rfl ?_
          refine q_iaddN dX9_summed_146 ?_
          refine q_iload_n dX9_summed_147 rfl rfl ?_
          refine q_iast (j := (128 + ss.length)) dX9_summed_148 (ty_c hS (by decide) rfl) (ix_n (by omega) (by omega)) ?_
          refine q_aload_n dX9_summed_149 rfl rfl rfl ?_
          refine q_getr (r := 79) dX9_summed_150 fX9_94 rfl (ty_c hS (by decide) rfl) (hS.2 58 27 79 rfl) ?_
          refine q_iload dX9_summed_153 rfl ?_
          refine q_iload dX9_summed_155 rfl ?_
          refine q_iaddN dX9_summed_157 ?_
          refine q_iload_n dX9_summed_158 rfl rfl ?_
          refine q_iast (j := (128 + ss.length)) dX9_summed_159 (ty_c hS (by decide) rfl) (ix_n (by omega) (by omega)) ?_
          refine q_aload_n dX9_summed_160 rfl rfl rfl ?_
          refine q_getr (r := 80) dX9_summed_161 fX9_97 rfl (ty_c hS (by decide) rfl) (hS.2 58 28 80 rfl) ?_
          refine q_iload dX9_summed_164 rfl ?_
          refine q_iload dX9_summed_166 rfl ?_
          refine q_iaddN dX9_summed_168 ?_
          refine q_iload dX9_summed_169 rfl ?_
          refine q_iast (j := (128 + ss.length)) dX9_summed_171 (ty_c hS (by decide) rfl) (ix_n (by omega) (by omega)) ?_
          refine q_aload_n dX9_summed_172 rfl rfl rfl ?_
          refine q_getr (r := 81) dX9_summed_173 fX9_100 rfl (ty_c hS (by decide) rfl) (hS.2 58 29 81 rfl) ?_
          refine q_iload dX9_summed_176 rfl ?_
          refine q_iload dX9_summed_178 rfl ?_
          refine q_iaddN dX9_summed_180 ?_
          refine q_iload dX9_summed_181 rfl ?_
          refine q_iast (j := (128 + ss.length)) dX9_summed_183 (ty_c hS (by decide) rfl) (ix_n (by omega) (by omega)) ?_
          refine q_aload_n dX9_summed_184 rfl rfl rfl ?_
          refine q_getr (r := 82) dX9_summed_185 fX9_103 rfl (ty_c hS (by decide) rfl) (hS.2 58 30 82 rfl) ?_
          refine q_iload dX9_summed_188 rfl ?_
          refine q_iload dX9_summed_190 rfl ?_
          refine q_iaddN dX9_summed_192 ?_
          refine q_iload dX9_summed_193 rfl ?_
          refine q_iast (j := (128 + ss.length)) dX9_summed_195 (ty_c hS (by decide) rfl) (ix_n (by omega) (by omega)) ?_
          refine q_aload_n dX9_summed_196 rfl rfl rfl ?_
          refine q_getr (r := 64) dX9_summed_197 fX9_49 rfl (ty_c hS (by decide) rfl) (hS.2 58 12 64 rfl) ?_
          refine q_iconst (v := nI 4) dX9_summed_200 rfl ?_
          refine q_dup2 dX9_summed_201 rfl rfl ?_
          refine q_iald (x := nI ss.length) (j := 4) dX9_summed_202 (ty_c hS (by decide) rfl) (ix_n (by omega) (by omega)) (Eq.trans (rd_off (by decide)) (Eq.trans (rd_off (by decide)) (Eq.trans (rd_off (by decide)) (Eq.trans (rd_off (by decide)) (Eq.trans (rd_off (by decide)) (Eq.trans (rd_off (by decide)) l4)))))) ?_
          refine q_iconst (v := nI 1) dX9_summed_203 rfl ?_
          refine q_iaddN dX9_summed_204 ?_
          refine q_iast (j := 4) dX9_summed_205 (ty_c hS (by decide) rfl) (ix_n (by omega) (by omega)) ?_
          refine q_return dX9_summed_206 rfl (by omega) (by omega) ?_
          first | exact ⟨rfl, suB hs c129 hb⟩ | exact ⟨rfl, suC hs hm (by omega) hb⟩
        · skip
          refine q_aload_n dX9_summed_132 rfl rfl rfl ?_
          refine q_iconst (v := nI 1) dX9_summed_133 rfl ?_
          refine q_putz dX9_summed_134 fX9_128 rfl (Or.inl rfl) (ty_c hS (by decide) rfl) (Or.inr rfl) ?_
          refine q_return dX9_summed_137 rfl (by omega) (by omega) ?_
          first | exact ⟨rfl, suB hs c129 hb⟩ | exact ⟨rfl, suC hs hm (by omega) hb⟩
      · exact absurd c121 (by omega)
    · exact absurd c23 (by omega)
  | succ k ih =>
    intro i hi hb
    obtain ⟨m1, m2, m3, m4, m5⟩ := hs.2 i (by omega)
    by_cases hy : ss.getD i sm0 = x
    · rw [hy] at m1 m2 m3 m4 m5
      refine q_iload dX9_summed_15 rfl ?_
      refine q_aload_n dX9_summed_17 rfl rfl rfl ?_
      refine q_getr (r := 64) dX9_summed_18 fX9_49 rfl (ty_c hS (by decide) rfl) (hS.2 58 12 64 rfl) ?_
      refine q_iconst (v := nI 4) dX9_summed_21 rfl ?_
      refine q_iald (x := nI ss.length) (j := 4) dX9_summed_22 (ty_c hS (by decide) rfl) (ix_n (by omega) (by omega)) l4 ?_
      refine q_icmp_geN (tgt := 105) dX9_summed_23 (by decide) (by omega) (by omega) (fun c23 => ?_) (fun c23 => ?_)
      · exact absurd c23 (by omega)
      · skip
        refine q_aload_n dX9_summed_26 rfl rfl rfl ?_
        refine q_getr (r := 78) dX9_summed_27 fX9_91 rfl (ty_c hS (by decide) rfl) (hS.2 58 26 78 rfl) ?_
        refine q_iload dX9_summed_30 rfl ?_
        refine q_iload dX9_summed_32 rfl ?_
        refine q_iaddN dX9_summed_34 ?_
        refine q_iald (x := x.1) (j := (128 + i)) dX9_summed_35 (ty_c hS (by decide) rfl) (ix_n (by omega) (by omega)) m1 ?_
        refine q_iload_n dX9_summed_36 rfl rfl ?_
        refine q_icmp_ne (tgt := 99) dX9_summed_37 (by decide) (fun c37 => ?_) (fun c37 => ?_)
        · exact absurd rfl c37
        · skip
          refine q_aload_n dX9_summed_40 rfl rfl rfl ?_
          refine q_getr (r := 79) dX9_summed_41 fX9_94 rfl (ty_c hS (by decide) rfl) (hS.2 58 27 79 rfl) ?_
          refine q_iload dX9_summed_44 rfl ?_
          refine q_iload dX9_summed_46 rfl ?_
          refine q_iaddN dX9_summed_48 ?_
          refine q_iald (x := sAn x) (j := (128 + i)) dX9_summed_49 (ty_c hS (by decide) rfl) (ix_n (by omega) (by omega)) m2 ?_
          refine q_iload_n dX9_summed_50 rfl rfl ?_
          refine q_icmp_ne (tgt := 99) dX9_summed_51 (by decide) (fun c51 => ?_) (fun c51 => ?_)
          · exact absurd rfl c51
          · skip
            refine q_aload_n dX9_summed_54 rfl rfl rfl ?_
            refine q_getr (r := 80) dX9_summed_55 fX9_97 rfl (ty_c hS (by decide) rfl) (hS.2 58 28 80 rfl) ?_
            refine q_iload dX9_summed_58 rfl ?_
            refine q_iload dX9_summed_60 rfl ?_
            refine q_iaddN dX9_summed_62 ?_
            refine q_iald (x := sAv x) (j := (128 + i)) dX9_summed_63 (ty_c hS (by decide) rfl) (ix_n (by omega) (by omega)) m3 ?_
            refine q_iload dX9_summed_64 rfl ?_
            refine q_icmp_ne (tgt := 99) dX9_summed_66 (by decide) (fun c66 => ?_) (fun c66 => ?_)
            · exact absurd rfl c66
            · skip
              refine q_aload_n dX9_summed_69 rfl rfl rfl ?_
              refine q_getr (r := 81) dX9_summed_70 fX9_100 rfl (ty_c hS (by decide) rfl) (hS.2 58 29 81 rfl) ?_
              refine q_iload dX9_summed_73 rfl ?_
              refine q_iload dX9_summed_75 rfl ?_
              refine q_iaddN dX9_summed_77 ?_
              refine q_iald (x := opn x.2.2) (j := (128 + i)) dX9_summed_78 (ty_c hS (by decide) rfl) (ix_n (by omega) (by omega)) m4 ?_
              refine q_iload dX9_summed_79 rfl ?_
              refine q_icmp_ne (tgt := 99) dX9_summed_81 (by decide) (fun c81 => ?_) (fun c81 => ?_)
              · exact absurd rfl c81
              · skip
                refine q_aload_n dX9_summed_84 rfl rfl rfl ?_
                refine q_getr (r := 82) dX9_summed_85 fX9_103 rfl (ty_c hS (by decide) rfl) (hS.2 58 30 82 rfl) ?_
                refine q_iload dX9_summed_88 rfl ?_
                refine q_iload dX9_summed_90 rfl ?_
                refine q_iaddN dX9_summed_92 ?_
                refine q_iald (x := opv x.2.2) (j := (128 + i)) dX9_summed_93 (ty_c hS (by decide) rfl) (ix_n (by omega) (by omega)) m5 ?_
                refine q_iload dX9_summed_94 rfl ?_
                refine q_icmp_eq (tgt := 105) dX9_summed_96 (by decide) (fun c96 => ?_) (fun c96 => ?_)
                · skip
                  refine q_aload_n dX9_summed_105 rfl rfl rfl ?_
                  refine q_getr (r := 70) dX9_summed_106 fX9_67 rfl (ty_c hS (by decide) rfl) (hS.2 58 18 70 rfl) ?_
                  refine q_iload_n dX9_summed_109 rfl rfl ?_
                  refine q_iload dX9_summed_110 rfl ?_
                  refine q_iast (j := n) dX9_summed_112 (ty_c hS (by decide) rfl) (ix_n (by omega) (by omega)) ?_
                  refine q_iload dX9_summed_113 rfl ?_
                  refine q_aload_n dX9_summed_115 rfl rfl rfl ?_
                  refine q_getr (r := 64) dX9_summed_116 fX9_49 rfl (ty_c hS (by decide) rfl) (hS.2 58 12 64 rfl) ?_
                  refine q_iconst (v := nI 4) dX9_summed_119 rfl ?_
                  refine q_iald (x := nI ss.length) (j := 4) dX9_summed_120 (ty_c hS (by decide) rfl) (ix_n (by omega) (by omega)) (Eq.trans (rd_off (by decide)) l4) ?_
                  refine q_icmp_geN (tgt := 125) dX9_summed_121 (by decide) (by omega) (by omega) (fun c121 => ?_) (fun c121 => ?_)
                  · exact absurd c121 (by omega)
                  · skip
                    refine q_return dX9_summed_124 rfl (by omega) (by omega) ?_
                    exact ⟨rfl, suA hs hm (by omega) hy hb⟩
                · exact absurd rfl c96
    · have hyw : SMW (ss.getD i sm0) := hw _ (gd_mem (by omega))
      have nx : ∀ q, q < i + 1 → ss.getD q sm0 ≠ x := fun q hq => by
        by_cases e : q = i
        · rw [e]; exact hy
        · exact hb q (by omega)
      refine q_iload dX9_summed_15 rfl ?_
      refine q_aload_n dX9_summed_17 rfl rfl rfl ?_
      refine q_getr (r := 64) dX9_summed_18 fX9_49 rfl (ty_c hS (by decide) rfl) (hS.2 58 12 64 rfl) ?_
      refine q_iconst (v := nI 4) dX9_summed_21 rfl ?_
      refine q_iald (x := nI ss.length) (j := 4) dX9_summed_22 (ty_c hS (by decide) rfl) (ix_n (by omega) (by omega)) l4 ?_
      refine q_icmp_geN (tgt := 105) dX9_summed_23 (by decide) (by omega) (by omega) (fun c23 => ?_) (fun c23 => ?_)
      · exact absurd c23 (by omega)
      · skip
        refine q_aload_n dX9_summed_26 rfl rfl rfl ?_
        refine q_getr (r := 78) dX9_summed_27 fX9_91 rfl (ty_c hS (by decide) rfl) (hS.2 58 26 78 rfl) ?_
        refine q_iload dX9_summed_30 rfl ?_
        refine q_iload dX9_summed_32 rfl ?_
        refine q_iaddN dX9_summed_34 ?_
        refine q_iald (x := (ss.getD i sm0).1) (j := (128 + i)) dX9_summed_35 (ty_c hS (by decide) rfl) (ix_n (by omega) (by omega)) m1 ?_
        refine q_iload_n dX9_summed_36 rfl rfl ?_
        refine q_icmp_ne (tgt := 99) dX9_summed_37 (by decide) (fun c37 => ?_) (fun c37 => ?_)
        · skip
          refine q_iincN (c := 1) dX9_summed_99 rfl (by decide) rfl (ls' := [(7, .int (nI (i + 1))), (0, .ref 58), (1, .int (nI n)), (2, .int x.1), (3, .int (sAn x)), (4, .int (sAv x)), (5, .int (opn x.2.2)), (6, .int (opv x.2.2)), (8, .int (nI 128))]) rfl ?_
          refine q_goto (tgt := 15) dX9_summed_102 (by decide) ?_
          refine q_pk [1, 2, 3, 4, 5, 6, 7, 0, 8] (ls' := [(0, .ref 58), (1, .int (nI n)), (2, .int x.1), (3, .int (sAn x)), (4, .int (sAv x)), (5, .int (opn x.2.2)), (6, .int (opv x.2.2)), (7, .int (nI (i + 1))), (8, .int (nI 128))]) rfl ?_
          exact ih (i + 1) (by omega) nx
        · skip
          refine q_aload_n dX9_summed_40 rfl rfl rfl ?_
          refine q_getr (r := 79) dX9_summed_41 fX9_94 rfl (ty_c hS (by decide) rfl) (hS.2 58 27 79 rfl) ?_
          refine q_iload dX9_summed_44 rfl ?_
          refine q_iload dX9_summed_46 rfl ?_
          refine q_iaddN dX9_summed_48 ?_
          refine q_iald (x := sAn (ss.getD i sm0)) (j := (128 + i)) dX9_summed_49 (ty_c hS (by decide) rfl) (ix_n (by omega) (by omega)) m2 ?_
          refine q_iload_n dX9_summed_50 rfl rfl ?_
          refine q_icmp_ne (tgt := 99) dX9_summed_51 (by decide) (fun c51 => ?_) (fun c51 => ?_)
          · skip
            refine q_iincN (c := 1) dX9_summed_99 rfl (by decide) rfl (ls' := [(7, .int (nI (i + 1))), (0, .ref 58), (1, .int (nI n)), (2, .int x.1), (3, .int (sAn x)), (4, .int (sAv x)), (5, .int (opn x.2.2)), (6, .int (opv x.2.2)), (8, .int (nI 128))]) rfl ?_
            refine q_goto (tgt := 15) dX9_summed_102 (by decide) ?_
            refine q_pk [1, 2, 3, 4, 5, 6, 7, 0, 8] (ls' := [(0, .ref 58), (1, .int (nI n)), (2, .int x.1), (3, .int (sAn x)), (4, .int (sAv x)), (5, .int (opn x.2.2)), (6, .int (opv x.2.2)), (7, .int (nI (i + 1))), (8, .int (nI 128))]) rfl ?_
            exact ih (i + 1) (by omega) nx
          · skip
            refine q_aload_n dX9_summed_54 rfl rfl rfl ?_
            refine q_getr (r := 80) dX9_summed_55 fX9_97 rfl (ty_c hS (by decide) rfl) (hS.2 58 28 80 rfl) ?_
            refine q_iload dX9_summed_58 rfl ?_
            refine q_iload dX9_summed_60 rfl ?_
            refine q_iaddN dX9_summed_62 ?_
            refine q_iald (x := sAv (ss.getD i sm0)) (j := (128 + i)) dX9_summed_63 (ty_c hS (by decide) rfl) (ix_n (by omega) (by omega)) m3 ?_
            refine q_iload dX9_summed_64 rfl ?_
            refine q_icmp_ne (tgt := 99) dX9_summed_66 (by decide) (fun c66 => ?_) (fun c66 => ?_)
            · skip
              refine q_iincN (c := 1) dX9_summed_99 rfl (by decide) rfl (ls' := [(7, .int (nI (i + 1))), (0, .ref 58), (1, .int (nI n)), (2, .int x.1), (3, .int (sAn x)), (4, .int (sAv x)), (5, .int (opn x.2.2)), (6, .int (opv x.2.2)), (8, .int (nI 128))]) rfl ?_
              refine q_goto (tgt := 15) dX9_summed_102 (by decide) ?_
              refine q_pk [1, 2, 3, 4, 5, 6, 7, 0, 8] (ls' := [(0, .ref 58), (1, .int (nI n)), (2, .int x.1), (3, .int (sAn x)), (4, .int (sAv x)), (5, .int (opn x.2.2)), (6, .int (opv x.2.2)), (7, .int (nI (i + 1))), (8, .int (nI 128))]) rfl ?_
              exact ih (i + 1) (by omega) nx
            · skip
              refine q_aload_n dX9_summed_69 rfl rfl rfl ?_
              refine q_getr (r := 81) dX9_summed_70 fX9_100 rfl (ty_c hS (by decide) rfl) (hS.2 58 29 81 rfl) ?_
              refine q_iload dX9_summed_73 rfl ?_
              refine q_iload dX9_summed_75 rfl ?_
              refine q_iaddN dX9_summed_77 ?_
              refine q_iald (x := opn (ss.getD i sm0).2.2) (j := (128 + i)) dX9_summed_78 (ty_c hS (by decide) rfl) (ix_n (by omega) (by omega)) m4 ?_
              refine q_iload dX9_summed_79 rfl ?_
              refine q_icmp_ne (tgt := 99) dX9_summed_81 (by decide) (fun c81 => ?_) (fun c81 => ?_)
              · skip
                refine q_iincN (c := 1) dX9_summed_99 rfl (by decide) rfl (ls' := [(7, .int (nI (i + 1))), (0, .ref 58), (1, .int (nI n)), (2, .int x.1), (3, .int (sAn x)), (4, .int (sAv x)), (5, .int (opn x.2.2)), (6, .int (opv x.2.2)), (8, .int (nI 128))]) rfl ?_
                refine q_goto (tgt := 15) dX9_summed_102 (by decide) ?_
                refine q_pk [1, 2, 3, 4, 5, 6, 7, 0, 8] (ls' := [(0, .ref 58), (1, .int (nI n)), (2, .int x.1), (3, .int (sAn x)), (4, .int (sAv x)), (5, .int (opn x.2.2)), (6, .int (opv x.2.2)), (7, .int (nI (i + 1))), (8, .int (nI 128))]) rfl ?_
                exact ih (i + 1) (by omega) nx
              · skip
                refine q_aload_n dX9_summed_84 rfl rfl rfl ?_
                refine q_getr (r := 82) dX9_summed_85 fX9_103 rfl (ty_c hS (by decide) rfl) (hS.2 58 30 82 rfl) ?_
                refine q_iload dX9_summed_88 rfl ?_
                refine q_iload dX9_summed_90 rfl ?_
                refine q_iaddN dX9_summed_92 ?_
                refine q_iald (x := opv (ss.getD i sm0).2.2) (j := (128 + i)) dX9_summed_93 (ty_c hS (by decide) rfl) (ix_n (by omega) (by omega)) m5 ?_
                refine q_iload dX9_summed_94 rfl ?_
                refine q_icmp_eq (tgt := 105) dX9_summed_96 (by decide) (fun c96 => ?_) (fun c96 => ?_)
                · exact absurd (sm_inj hyw hx c37 c51 c66 c81 c96) hy
                · skip
                  refine q_iincN (c := 1) dX9_summed_99 rfl (by decide) rfl (ls' := [(7, .int (nI (i + 1))), (0, .ref 58), (1, .int (nI n)), (2, .int x.1), (3, .int (sAn x)), (4, .int (sAv x)), (5, .int (opn x.2.2)), (6, .int (opv x.2.2)), (8, .int (nI 128))]) rfl ?_
                  refine q_goto (tgt := 15) dX9_summed_102 (by decide) ?_
                  refine q_pk [1, 2, 3, 4, 5, 6, 7, 0, 8] (ls' := [(0, .ref 58), (1, .int (nI n)), (2, .int x.1), (3, .int (sAn x)), (4, .int (sAv x)), (5, .int (opn x.2.2)), (6, .int (opv x.2.2)), (7, .int (nI (i + 1))), (8, .int (nI 128))]) rfl ?_
                  exact ih (i + 1) (by omega) nx
theorem z9_summed (hS : SK σ) (hs : SMs σ ss) (hm : sI σ 58 38 = bi m) (hl : ss.length ≤ 32) (hw : ∀ y ∈ ss, SMW y) (hx : SMW x) (hn : n < 1200) : CT g mX9_summed 0 0 0 [.ref 58, .int (nI n), .int x.1, .int (sAn x), .int (sAv x), .int (opn x.2.2), .int (opv x.2.2)] σ (fun r σ' => r = none ∧ SuQ (uI σ 67 n (nI 0)) n x ss m σ') := by
  refine CT.of (by decide) (Nat.le_of_ble_eq_true rfl) ?_
  refine q_aload_n dX9_summed_0 rfl rfl rfl ?_
  refine q_getr (r := 67) dX9_summed_1 fX9_58 rfl (ty_c hS (by decide) rfl) (hS.2 58 15 67 rfl) ?_
  refine q_iload_n dX9_summed_4 rfl rfl ?_
  refine q_iconst (v := nI 0) dX9_summed_5 rfl ?_
  refine q_iast (j := n) dX9_summed_6 (ty_c hS (by decide) rfl) (ix_n (by omega) (by omega)) ?_
  refine q_iconst (v := nI 0) dX9_summed_7 rfl ?_
  refine q_istore dX9_summed_8 (by decide) (ls' := [(7, .int (nI 0)), (0, .ref 58), (1, .int (nI n)), (2, .int x.1), (3, .int (sAn x)), (4, .int (sAv x)), (5, .int (opn x.2.2)), (6, .int (opv x.2.2))]) rfl ?_
  refine q_sipush (v := nI 128) dX9_summed_10 rfl ?_
  refine q_istore dX9_summed_13 (by decide) (ls' := [(8, .int (nI 128)), (7, .int (nI 0)), (0, .ref 58), (1, .int (nI n)), (2, .int x.1), (3, .int (sAn x)), (4, .int (sAv x)), (5, .int (opn x.2.2)), (6, .int (opv x.2.2))]) rfl ?_
  refine q_pk [2, 3, 4, 5, 6, 7, 8, 1, 0] (ls' := [(0, .ref 58), (1, .int (nI n)), (2, .int x.1), (3, .int (sAn x)), (4, .int (sAv x)), (5, .int (opn x.2.2)), (6, .int (opv x.2.2)), (7, .int (nI 0)), (8, .int (nI 128))]) rfl ?_
  exact y9_summed (SK.uI hS) (hs.off (by omega)) ((rd_off (by omega)).trans hm) hl hw hx hn ss.length 0 (by omega) (fun q hq => by omega)
end MSU
