/-! The model: parse. -/
/-- what parse changes, but the place -/
def pwr (h i : Nat) : Prop := nwr h i ∨ (h = 58 ∧ (i = 1 ∨ i = 34))
theorem PE4_u {q : PS} {e e' : Nat × Nat} (h : PE4 q e) (h' : PE4 q e') : e = e' := by
  obtain ⟨j, j1, j2, j3⟩ := h
  obtain ⟨k, k1, k2, k3⟩ := h'
  have ejk : j = k := by
    rcases Nat.lt_trichotomy j k with l | l | l
    · have := k2 j l
      rcases j3 with ⟨a, _⟩ | ⟨_, a, _⟩
      · exact absurd a this.1
      · exact absurd a this.2
    · exact l
    · have := j2 k l
      rcases k3 with ⟨a, _⟩ | ⟨_, a, _⟩
      · exact absurd a this.1
      · exact absurd a this.2
  subst ejk
  rcases j3 with ⟨a, b⟩ | ⟨a, b, c⟩
  · rcases k3 with ⟨a', b'⟩ | ⟨a', b', c'⟩
    · rw [b, b']
    · exact absurd a a'
  · rcases k3 with ⟨a', b'⟩ | ⟨a', b', c'⟩
    · exact absurd a' a
    · rw [c, c']
theorem PE4_nb {q : PS} {e : Nat × Nat} (h : PE4 q e) : ¬ NB q := fun hn => by
  obtain ⟨j, j1, j2, j3⟩ := h
  have := hn j j1
  rcases j3 with ⟨a, _⟩ | ⟨_, a, _⟩
  · exact this.1 a
  · exact this.2 a
theorem FN_u {q : PS} {f : Nat → Prop} {w : Nat} {e e' : Nat × Nat} (h : FN q f w e) (h' : FN q f w e') : e = e' := by
  obtain ⟨j, j1, j2, j3, j4⟩ := h
  obtain ⟨k, k1, k2, k3, k4⟩ := h'
  have ejk : j = k := by
    rcases Nat.lt_trichotomy j k with l | l | l
    · exact absurd (k2 j l) j3
    · exact l
    · exact absurd (j2 k l) k3
  rw [j4, k4, ejk]
theorem FN_nall {q : PS} {f : Nat → Prop} {w : Nat} {e : Nat × Nat} (h : FN q f w e) : ¬ ∀ i, i < (psF q).length → f i := fun hn => by
  obtain ⟨j, j1, j2, j3, j4⟩ := h
  exact j3 (hn j j1)
/-- a text is one thing -/
theorem PAll_u {T : Nat → Nat} {L : Nat} : ∀ {x y : (Nat × Nat) ⊕ PS}, PAll T L x → PAll T L y → x = y
  | .inl e, .inl e', h, h' => by
    rcases h with h | ⟨q, h1, h2⟩
    · rcases h' with h' | ⟨q', h1', _⟩
      · rw [h] at h'; cases h'; rfl
      · rw [h] at h1'; cases h1'
    · rcases h' with h' | ⟨q', h1', h2'⟩
      · rw [h1] at h'; cases h'
      · rw [h1] at h1'
        cases h1'
        rcases h2 with h2 | ⟨n, h2 | ⟨r, h2⟩⟩ <;> rcases h2' with h2' | ⟨n', h2' | ⟨r', h2'⟩⟩
        · rw [PE4_u h2 h2']
        · exact absurd n' (PE4_nb h2)
        · exact absurd n' (PE4_nb h2)
        · exact absurd n (PE4_nb h2')
        · rw [FN_u h2 h2']
        · exact absurd r' (FN_nall h2)
        · exact absurd n (PE4_nb h2')
        · exact absurd r (FN_nall h2')
        · rw [FN_u h2 h2']
  | .inl e, .inr q', h, h' => by
    obtain ⟨h1', n', r', l'⟩ := h'
    rcases h with h | ⟨q, h1, h2⟩
    · rw [h] at h1'; cases h1'
    · rw [h1] at h1'
      cases h1'
      rcases h2 with h2 | ⟨n, h2 | ⟨r, h2⟩⟩
      · exact absurd n' (PE4_nb h2)
      · exact absurd r' (FN_nall h2)
      · exact absurd l' (FN_nall h2)
  | .inr q, .inl e', h, h' => by
    obtain ⟨h1, n, r, l⟩ := h
    rcases h' with h' | ⟨q', h1', h2⟩
    · rw [h1] at h'; cases h'
    · rw [h1] at h1'
      cases h1'
      rcases h2 with h2 | ⟨n', h2 | ⟨r', h2⟩⟩
      · exact absurd n (PE4_nb h2)
      · exact absurd r (FN_nall h2)
      · exact absurd l (FN_nall h2)
  | .inr q, .inr q', h, h' => by
    have h1 := h.1
    rw [h'.1] at h1
    cases h1; rfl
/-- behind parse -/
def MPQ (σ : HS) (T : Nat → Nat) (L p : Nat) : Option Value → HS → Prop := fun r σ' => sI σ' 58 1 = nI 0 ∧
  ((∃ e, PAll T L (.inl e) ∧ r = some (.int ((-10) - nI e.2)) ∧ sI σ' 58 34 = nI e.1 ∧ FR9 pwr σ σ') ∨
  ∃ q, PAll T L (.inr q) ∧ sI σ' 58 34 = nI 0 ∧ ((psX q = true ∧ r = some (.int (-3)) ∧ FR9 pwr σ σ') ∨ (psX q = false ∧ r = some (.int (nI (NN q))) ∧ FR9 (fun h i => pwr h i ∨ cpq p h i) σ σ' ∧ MR σ' p q ∧ sI σ' 60 p = nI 1 ∧ sI σ' 95 p = nI 0)))
theorem MPS.u58 {σ : HS} {q : PS} {i : Nat} {v : Int32} (hi : i ≠ 38 ∧ i ≠ 41) (k : MPS σ q) : MPS (uI σ 58 i v) q := by
  obtain ⟨k1, k2, k3, k4, k5, k6, k7⟩ := k
  exact ⟨(rd_off (by omega)).trans k1, (rd_off (by omega)).trans k2, (fun i hi => ⟨(k3 i hi).1.cp fun a a1 a2 => rd_off (by omega), fun hx => (rd_off (by omega)).trans ((k3 i hi).2 hx)⟩), fun j hj => ⟨(rd_off (by omega)).trans (k4 j hj).1, (rd_off (by omega)).trans (k4 j hj).2⟩, k5.off (by omega), (rd_ne (by omega)).trans k6, ⟨(rd_ne (by omega)).trans k7.1, fun j hj => ⟨(rd_off (by omega)).trans (k7.2 j hj).1, (rd_off (by omega)).trans (k7.2 j hj).2⟩⟩⟩
theorem mr4 {σ σ' : HS} {q : PS} {l0 l1 : Int32} (hM : MPS σ q) (f : FR9 ldq σ σ') (h : LKm σ' q (psS q).length (XL q (psS q).length).length l0 l1) : MR0 σ' 4 q := by
  obtain ⟨h1, h2, h3, h4, h5, h8, h9, -, -⟩ := h
  have s := hM.2.2.2.2.1.fq f (by unfold ldq; omega) (fun a i _ _ => by unfold ldq; omega)
  refine ⟨h1, h2, h3, s.1, fun b hb => ?_, fun k hk => ⟨h8 k hk, h9 k (by unfold NN at hk; omega)⟩, fun e he => s.2 e he⟩
  rw [nf_lt hb]; exact (h4 b hb).1
theorem le_lt {w : Int32} {n : Nat} (hn : n < 1000000) : w ≤ nI n ↔ w < nI (n + 1) := by
  rw [Int32.le_iff_toInt_le, Int32.lt_iff_toInt_lt, nI_toInt (by omega), nI_toInt (by omega)]; omega
section MPA
variable {g : GG} {σ σ0 : HS} {q : PS} {p L : Nat} {T : Nat → Nat} {Z : List Frame → Array Value → State → State → Prop}
theorem y9_pa150 (hS : SK σ0) (hR : MR0 σ0 4 q) (hc : BC q) (hw : WFs q) (hB : NB q) (hx : psX q = false) (K : ∀ σ', FR9 (fun h i => h = 83 ∧ 30720 ≤ i) σ0 σ' → MR σ' 4 q → WA g mX9_parse 8 0 0 Z 0 0 171 [(0, .ref 58), (1, .int (nI p))] [] σ') : ∀ (m e : Nat) (σ : HS), e + m = (psM q).length → FR9 (fun h i => h = 83 ∧ 30720 ≤ i) σ0 σ → (∀ i, i < e → fcS σ ((32 * 4 + i) * 240) (NN q) (fun b n => atB q b i n)) → WA g mX9_parse 8 0 0 Z 0 0 150 [(0, .ref 58), (1, .int (nI p)), (2, .int (nI e))] [] σ := by
  have hN := NN_le hc
  have h32 := hw.2.2.2.1
  intro m
  induction m with
  | zero =>
    intro e σ he h1 h2
    have ee : e = (psM q).length := by omega
    rw [ee] at h2 ⊢
    have hR1 : MR0 σ 4 q := hR.cp fun a i a1 a2 => h1.2.2.2 a i (by omega)
    have r64 := hR1.2.2.2.1
    refine q_iload_n dX9_parse_150 rfl rfl ?_
    refine q_aload_n dX9_parse_151 rfl rfl rfl ?_
    refine q_getr (r := 64) dX9_parse_152 fX9_49 rfl (ty_c (SK.fq h1 hS) (by decide) rfl) ((SK.fq h1 hS).2 58 12 64 rfl) ?_
    refine q_iconst (v := nI 4) dX9_parse_155 rfl ?_
    refine q_iald (x := nI ((psM q).length)) (j := 4) dX9_parse_156 (ty_c (SK.fq h1 hS) (by decide) rfl) (ix_n (by omega) (by omega)) r64 ?_
    refine q_icmp_geN (tgt := 171) dX9_parse_157 (by decide) (by omega) (by omega) (fun c157 => ?_) (fun c157 => ?_)
    · skip
      refine q_pk [0, 1] (ls' := [(0, .ref 58), (1, .int (nI p))]) rfl ?_
      exact K σ h1 ⟨hR1, h2⟩
    · exact absurd c157 (by omega)
  | succ m ih =>
    intro e σ he h1 h2
    have hR1 : MR0 σ 4 q := hR.cp fun a i a1 a2 => h1.2.2.2 a i (by omega)
    have r64 := hR1.2.2.2.1
    have nx : ∀ σ', SeQ σ q e σ' → WA g mX9_parse 8 0 0 Z 0 0 150 [(0, .ref 58), (1, .int (nI p)), (2, .int (nI (e + 1)))] [] σ' := fun σ' hs => by
      refine ih (e + 1) σ' (by omega) (h1.tr (hs.1.mono fun a i z => by unfold fcq at z; omega)) fun i hi => ?_
      by_cases ei : i = e
      · rw [ei]; exact hs.2
      · exact fun n hn => (hs.1.2.2.2 _ _ (by unfold fcq; omega)).trans (h2 i (by omega) n hn)
    refine q_iload_n dX9_parse_150 rfl rfl ?_
    refine q_aload_n dX9_parse_151 rfl rfl rfl ?_
    refine q_getr (r := 64) dX9_parse_152 fX9_49 rfl (ty_c (SK.fq h1 hS) (by decide) rfl) ((SK.fq h1 hS).2 58 12 64 rfl) ?_
    refine q_iconst (v := nI 4) dX9_parse_155 rfl ?_
    refine q_iald (x := nI ((psM q).length)) (j := 4) dX9_parse_156 (ty_c (SK.fq h1 hS) (by decide) rfl) (ix_n (by omega) (by omega)) r64 ?_
    refine q_icmp_geN (tgt := 171) dX9_parse_157 (by decide) (by omega) (by omega) (fun c157 => ?_) (fun c157 => ?_)
    · exact absurd c157 (by omega)
    · skip
      refine q_aload_n dX9_parse_160 rfl rfl rfl ?_
      refine q_iload_n dX9_parse_161 rfl rfl ?_
      refine q_callV (As := [.int (nI e)]) (rest := []) dX9_parse_162 vX9_313 (ty_c (SK.fq h1 hS) (by decide) rfl) ⟨by decide, rfl⟩ (z9_settle (SK.fq h1 hS) hR1 hc hw hB hx (by omega)) rfl rfl (Nat.le_of_ble_eq_true rfl) (by omega) (by omega) (by omega) (k_v (fun s162 q162 => ?_))
      have zS162 : SK s162 := (SK.fq q162.1 (SK.fq h1 hS))
      refine q_iincN (c := 1) dX9_parse_165 rfl (by decide) rfl (ls' := [(2, .int (nI (e + 1))), (0, .ref 58), (1, .int (nI p))]) rfl ?_
      refine q_goto (tgt := 150) dX9_parse_168 (by decide) ?_
      refine q_pk [1, 2, 0] (ls' := [(0, .ref 58), (1, .int (nI p)), (2, .int (nI (e + 1)))]) rfl ?_
      exact nx _ q162
theorem y9_pa106 (hS : SK σ) (hp : p < 4) (h : TxQ σ0 T L σ) : WA g mX9_parse 8 0 0 (ZM g (MPQ σ0 T L p) 0 0) 0 0 106 [(0, .ref 58), (1, .int (nI p))] [] σ := by
  obtain ⟨f, h⟩ := h
  have fp : ∀ v, FR9 pwr σ0 (uI (uI σ 58 1 (nI 0)) 58 34 v) := fun v => ((f.mono (Q := pwr) fun a i z => Or.inl z).uI (Or.inr ⟨rfl, Or.inl rfl⟩)).uI (Or.inr ⟨rfl, Or.inr rfl⟩)
  rcases h with ⟨e, e1, e2, e3, e4⟩ | ⟨q, q1, q2, q3, q4, q5, q6⟩
  · skip
    refine q_aload_n dX9_parse_106 rfl rfl rfl ?_
    refine q_iconst (v := nI 0) dX9_parse_107 rfl ?_
    refine q_puti dX9_parse_108 fX9_13 rfl (Or.inl rfl) (ty_c hS (by decide) rfl) ?_
    refine q_aload_n dX9_parse_111 rfl rfl rfl ?_
    refine q_aload_n dX9_parse_112 rfl rfl rfl ?_
    refine q_geti (x := nI e.1) dX9_parse_113 fX9_110 rfl (ty_c hS (by decide) rfl) (Eq.trans (rd_ne (by decide)) e3) ?_
    refine q_puti dX9_parse_116 fX9_116 rfl (Or.inl rfl) (ty_c hS (by decide) rfl) ?_
    refine q_aload_n dX9_parse_119 rfl rfl rfl ?_
    refine q_geti (x := nI e.1) dX9_parse_120 fX9_110 rfl (ty_c hS (by decide) rfl) (Eq.trans (rd_ne (by decide)) (Eq.trans (rd_ne (by decide)) e3)) ?_
    refine q_if_leN (tgt := 134) dX9_parse_123 (by decide) (by omega) (fun c123 => ?_) (fun c123 => ?_)
    · exact absurd c123 (by omega)
    · skip
      refine q_bipush (v := (-10 : Int32)) dX9_parse_126 rfl ?_
      refine q_aload_n dX9_parse_128 rfl rfl rfl ?_
      refine q_geti (x := nI e.2) dX9_parse_129 fX9_113 rfl (ty_c hS (by decide) rfl) (Eq.trans (rd_ne (by decide)) (Eq.trans (rd_ne (by decide)) e4)) ?_
      refine q_isub dX9_parse_132 ?_
      refine q_ireturn dX9_parse_133 rfl rfl (by omega) (by omega) ?_
      exact ⟨(rd_ne (by omega)).trans uI_self, Or.inl ⟨e, e1, rfl, uI_self, fp _⟩⟩
  · have m38 := q5.2.2.2.2.2.1
    have hM : MPS (uI (uI σ 58 1 (nI 0)) 58 34 (nI 0)) q := (q5.u58 (by omega)).u58 (by omega)
    have hS1 : SK (uI (uI σ 58 1 (nI 0)) 58 34 (nI 0)) := SK.uI (SK.uI hS)
    have hB := q1.2.1
    cases hx : psX q with
    | true =>
      rw [hx] at m38
      refine q_aload_n dX9_parse_106 rfl rfl rfl ?_
      refine q_iconst (v := nI 0) dX9_parse_107 rfl ?_
      refine q_puti dX9_parse_108 fX9_13 rfl (Or.inl rfl) (ty_c hS (by decide) rfl) ?_
      refine q_aload_n dX9_parse_111 rfl rfl rfl ?_
      refine q_aload_n dX9_parse_112 rfl rfl rfl ?_
      refine q_geti (x := nI 0) dX9_parse_113 fX9_110 rfl (ty_c hS (by decide) rfl) (Eq.trans (rd_ne (by decide)) q6) ?_
      refine q_puti dX9_parse_116 fX9_116 rfl (Or.inl rfl) (ty_c hS (by decide) rfl) ?_
      refine q_aload_n dX9_parse_119 rfl rfl rfl ?_
      refine q_geti (x := nI 0) dX9_parse_120 fX9_110 rfl (ty_c hS (by decide) rfl) (Eq.trans (rd_ne (by decide)) (Eq.trans (rd_ne (by decide)) q6)) ?_
      refine q_if_leN (tgt := 134) dX9_parse_123 (by decide) (by omega) (fun _ => ?_) (fun h => absurd h (by decide))
      refine q_aload_n dX9_parse_134 rfl rfl rfl ?_
      refine q_geti (x := bi true) dX9_parse_135 fX9_128 rfl (ty_c hS (by decide) rfl) (Eq.trans (rd_ne (by decide)) (Eq.trans (rd_ne (by decide)) m38)) ?_
      refine q_if_eqB (tgt := 144) dX9_parse_138 (by decide) (fun h => absurd h (by decide)) (fun _ => ?_)
      refine q_bipush (v := (-3 : Int32)) dX9_parse_141 rfl ?_
      refine q_ireturn dX9_parse_143 rfl rfl (by omega) (by omega) ?_
      exact ⟨(rd_ne (by omega)).trans uI_self, Or.inr ⟨q, q1, uI_self, Or.inl ⟨hx, rfl, fp _⟩⟩⟩
    | false =>
      rw [hx] at m38
      have fin : ∀ τ υ, FR9 ldq (uI (uI σ 58 1 (nI 0)) 58 34 (nI 0)) τ → FR9 (fun h i => h = 83 ∧ 30720 ≤ i) τ υ → ∀ ω, CpQ υ p q ω → sI ω 62 p = nI (NN q) ∧ MPQ σ0 T L p (some (.int (nI (NN q)))) ω := fun τ υ k1 k2 ω k3 => by
        have kk : FR9 (fun h i => pwr h i ∨ cpq p h i) σ0 ω := (((fp (nI 0)).tr (k1.mono fun a i z => by unfold ldq at z; unfold pwr nwr; omega)).tr (k2.mono fun a i z => by unfold pwr nwr; omega)).mono (fun a i z => Or.inl z) |>.tr (k3.1.mono fun a i z => Or.inr z)
        have o : ∀ i, i = 1 ∨ i = 34 → sI ω 58 i = sI (uI (uI σ 58 1 (nI 0)) 58 34 (nI 0)) 58 i := fun i hi => (k3.1.2.2.2 58 i (by unfold cpq; omega)).trans ((k2.2.2.2 58 i (by omega)).trans (k1.2.2.2 58 i (by unfold ldq; omega)))
        exact ⟨k3.2.1.1.2.1, (o 1 (by omega)).trans ((rd_ne (by omega)).trans uI_self), Or.inr ⟨q, q1, (o 34 (by omega)).trans uI_self, Or.inr ⟨hx, rfl, kk, k3.2.1, k3.2.2.1, k3.2.2.2⟩⟩⟩
      have go : ∀ τ, (FR9 ldq (uI (uI σ 58 1 (nI 0)) 58 34 (nI 0)) τ ∧ ∃ l0 l1, LKm τ q (psS q).length (XL q (psS q).length).length l0 l1) → WA g mX9_parse 8 0 0 (ZM g (MPQ σ0 T L p) 0 0) 0 0 150 [(0, .ref 58), (1, .int (nI p)), (2, .int (nI 0))] [] τ := fun τ ⟨k1, l0, l1, k2⟩ => by
        have hS2 := SK.fq k1 hS1
        refine y9_pa150 hS2 (mr4 hM k1 k2) q2 q3 hB hx (fun υ k3 k4 => ?_) (psM q).length 0 τ (by omega) FR9.rf (fun i hi => absurd hi (by omega))
        have hS3 := SK.fq k3 hS2
        refine q_aload_n dX9_parse_171 rfl rfl rfl ?_
        refine q_iload_n dX9_parse_172 rfl rfl ?_
        refine q_callV (As := [.int (nI p)]) (rest := []) dX9_parse_173 vX9_316 (ty_c hS3 (by decide) rfl) ⟨by decide, rfl⟩ (z9_copy hS3 k4 q2 q3 hp) rfl rfl (Nat.le_of_ble_eq_true rfl) (by omega) (by omega) (by omega) (k_v (fun s173 q173 => ?_))
        obtain ⟨u62, mp⟩ := fin τ υ k1 k3 s173 q173
        have zS173 : SK s173 := (SK.fq q173.1 hS3)
        refine q_aload_n dX9_parse_176 rfl rfl rfl ?_
        refine q_getr (r := 62) dX9_parse_177 fX9_43 rfl (ty_c zS173 (by decide) rfl) (zS173.2 58 10 62 rfl) ?_
        refine q_iload_n dX9_parse_180 rfl rfl ?_
        refine q_iald (x := nI (NN q)) (j := p) dX9_parse_181 (ty_c zS173 (by decide) rfl) (ix_n (by omega) (by omega)) u62 ?_
        refine q_ireturn dX9_parse_182 rfl rfl (by omega) (by omega) ?_
        exact mp
      refine q_aload_n dX9_parse_106 rfl rfl rfl ?_
      refine q_iconst (v := nI 0) dX9_parse_107 rfl ?_
      refine q_puti dX9_parse_108 fX9_13 rfl (Or.inl rfl) (ty_c hS (by decide) rfl) ?_
      refine q_aload_n dX9_parse_111 rfl rfl rfl ?_
      refine q_aload_n dX9_parse_112 rfl rfl rfl ?_
      refine q_geti (x := nI 0) dX9_parse_113 fX9_110 rfl (ty_c hS (by decide) rfl) (Eq.trans (rd_ne (by decide)) q6) ?_
      refine q_puti dX9_parse_116 fX9_116 rfl (Or.inl rfl) (ty_c hS (by decide) rfl) ?_
      refine q_aload_n dX9_parse_119 rfl rfl rfl ?_
      refine q_geti (x := nI 0) dX9_parse_120 fX9_110 rfl (ty_c hS (by decide) rfl) (Eq.trans (rd_ne (by decide)) (Eq.trans (rd_ne (by decide)) q6)) ?_
      refine q_if_leN (tgt := 134) dX9_parse_123 (by decide) (by omega) (fun _ => ?_) (fun h => absurd h (by decide))
      refine q_aload_n dX9_parse_134 rfl rfl rfl ?_
      refine q_geti (x := bi false) dX9_parse_135 fX9_128 rfl (ty_c hS (by decide) rfl) (Eq.trans (rd_ne (by decide)) (Eq.trans (rd_ne (by decide)) m38)) ?_
      refine q_if_eqB (tgt := 144) dX9_parse_138 (by decide) (fun _ => ?_) (fun h => absurd h (by decide))
      refine q_aload_n dX9_parse_144 rfl rfl rfl ?_
      refine q_callV (As := []) (rest := []) dX9_parse_145 vX9_310 (ty_c hS (by decide) rfl) ⟨by decide, rfl⟩ (z9_lead (σ := (uI (uI σ 58 1 (nI 0)) 58 34 (nI 0))) hM hS1 q2 q3 hB q4 hx) rfl rfl (Nat.le_of_ble_eq_true rfl) (by omega) (by omega) (by omega) (k_v (fun s145 q145 => ?_))
      have zS145 : SK s145 := (SK.fq q145.1 hS1)
      refine q_iconst (v := nI 0) dX9_parse_148 rfl ?_
      refine q_istore_n dX9_parse_149 rfl (by decide) (ls' := [(2, .int (nI 0)), (0, .ref 58), (1, .int (nI p))]) rfl ?_
      refine q_pk [1, 2, 0] (ls' := [(0, .ref 58), (1, .int (nI p)), (2, .int (nI 0))]) rfl ?_
      exact go _ q145
theorem z9_parse0 (hS : SK σ) {p : Int32} (hp : ¬ (¬ p < 0 ∧ p < nI 4)) : CT g mX9_parse 8 0 0 [.ref 58, .int p] σ (PQ σ (.int (-1))) := by
  refine CT.of (by decide) (Nat.le_of_ble_eq_true rfl) ?_
  refine q_iload_n dX9_parse_0 rfl rfl ?_
  refine q_if_lt (tgt := 9) dX9_parse_1 (by decide) (fun c1 => ?_) (fun c1 => ?_)
  · skip
    refine q_iconst (v := (-1 : Int32)) dX9_parse_9 rfl ?_
    refine q_ireturn dX9_parse_10 rfl rfl (by omega) (by omega) ?_
    exact ⟨rfl, rfl⟩
  · skip
    refine q_iload_n dX9_parse_4 rfl rfl ?_
    refine q_iconst (v := nI 3) dX9_parse_5 rfl ?_
    refine q_icmp_le (tgt := 11) dX9_parse_6 (by decide) (fun c6 => ?_) (fun c6 => ?_)
    · exact absurd ⟨c1, (le_lt (by omega)).mp c6⟩ hp
    · skip
      refine q_iconst (v := (-1 : Int32)) dX9_parse_9 rfl ?_
      refine q_ireturn dX9_parse_10 rfl rfl (by omega) (by omega) ?_
      exact ⟨rfl, rfl⟩
theorem z9_parse1 (hS : SK σ) (hT : MTX σ L T) (hp : p < 4) : CT g mX9_parse 8 0 0 [.ref 58, .int (nI p)] σ (MPQ σ T L p) := by
  refine CT.of (by decide) (Nat.le_of_ble_eq_true rfl) ?_
  refine q_iload_n dX9_parse_0 rfl rfl ?_
  refine q_if_ltN (tgt := 9) dX9_parse_1 (by decide) (by omega) ?_
  refine q_iload_n dX9_parse_4 rfl rfl ?_
  refine q_iconst (v := nI 3) dX9_parse_5 rfl ?_
  refine q_icmp_leN (tgt := 11) dX9_parse_6 (by decide) (by omega) (by omega) (fun c6 => ?_) (fun c6 => ?_)
  · skip
    exact y9_pa11 hS hT (fun σ2 h2 => y9_pa106 (SK.fq h2.1 hS) hp h2)
  · exact absurd c6 (by omega)
end MPA
