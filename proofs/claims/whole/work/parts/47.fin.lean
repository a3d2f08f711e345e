/-! The class: a ROUTINE is finished. -/
theorem PSR_LK {σ : HS} {b : Nat} {q : PS} (h : PSR σ b q) (h0 : 0 < (psF q).length) : LKg σ b q 0 (XL q 0).length (-1) (-1) := by
  obtain ⟨p1, p2, p3, p4, p5, p6, p7, p8, p9, p10⟩ := h
  have er : ∀ i, i < (psS q).length → rg q i = (psS q).getD i r0 := fun i hi => if_pos hi
  refine ⟨p1, p2, p3, p4, p5, p6, fun j hj => ?_, fun i hi => ?_, fun i hi => ?_, fun i g1 g2 => ?_, fun g => ?_⟩
  · by_cases e : j < (psF q).length
    · rw [nf_lt e]; exact p8 j e
    · rw [nf_ge (by omega), show j = (psF q).length by omega]; exact p9 h0
  · have hi' : i < (psS q).length := hi
    obtain ⟨c1, c2, c3, c4, c5, c6, c7, c8, c9, c10, c11, c12⟩ := p7 i hi'
    rw [er i hi']
    exact ⟨c1, c2, c3, c4, c5, c6, c7, c8⟩
  · have : i < (psS q).length + 0 := by rcases hi with hi | hi; · omega
                                        · exact hi.2
    omega
  · obtain ⟨c1, c2, c3, c4, c5, c6, c7, c8, c9, c10, c11, c12⟩ := p7 i g2
    exact ⟨c9, c10⟩
  · obtain ⟨c1, c2, c3, c4, c5, c6, c7, c8, c9, c10, c11, c12⟩ := p7 0 g
    exact ⟨c9, c10⟩
theorem PSR_12 {σ : HS} {b : Nat} {q : PS} {n m : Nat} (h : LKg σ b q n m (-1) (-1)) : sI σ b 13 = nI (psS q).length := h.2.1
/-- the linking loop of finish; K: what comes behind it -/
theorem y2_link {g : GG} {σ0 : HS} {b : Nat} (hb0 : RB σ0 b) {q : PS} (hc : BC q) (hw : WFs q) (hnb : NB q) {Z : List Frame → Array Value → State → State → Prop} {d : Nat} (hd : 4 ≤ d) (K : ∀ σ, LF b σ0 σ → LKg σ b q (psS q).length (XL q (psS q).length).length (-1) (-1) → WA g mX2_finish d 0 0 Z 0 0 21 [(0, .ref b)] [] σ) : ∀ (k n : Nat) (σ : HS), n + k = (psS q).length → LF b σ0 σ → LKg σ b q n (XL q n).length (-1) (-1) → WA g mX2_finish d 0 0 Z 0 0 2 [(0, .ref b), (1, .int (nI n))] [] σ := by
  have hb14 : b = 14 ∨ 99 ≤ b := by rcases hb0.1 with h | ⟨j, h⟩ <;> omega
  have h160 := hc.2.2.1
  intro k
  induction k with
  | zero =>
    intro n σ hn h0 h
    have hb := RB.lf h0 hb0
    have h13 := PSR_12 h
    refine q_iload_n dX2_finish_2 rfl rfl ?_
    refine q_aload_n dX2_finish_3 rfl rfl rfl ?_
    refine q_geti (x := nI ((psS q).length)) dX2_finish_4 fX2_65 rfl (ty_r hb 0 rfl) h13 ?_
    refine q_icmp_geN (tgt := 21) dX2_finish_7 (by decide) (by omega) (by omega) (fun c7 => ?_) (fun c7 => ?_)
    · skip
      refine q_pk [0] (ls' := [(0, .ref b)]) rfl ?_
      exact K σ h0 (by rw [← hn]; exact h)
    · exact absurd c7 (by omega)
  | succ k ih =>
    intro n σ hn h0 h
    have hb := RB.lf h0 hb0
    have h13 := PSR_12 h
    refine q_iload_n dX2_finish_2 rfl rfl ?_
    refine q_aload_n dX2_finish_3 rfl rfl rfl ?_
    refine q_geti (x := nI ((psS q).length)) dX2_finish_4 fX2_65 rfl (ty_r hb 0 rfl) h13 ?_
    refine q_icmp_geN (tgt := 21) dX2_finish_7 (by decide) (by omega) (by omega) (fun c7 => ?_) (fun c7 => ?_)
    · exact absurd c7 (by omega)
    · skip
      refine q_aload_n dX2_finish_10 rfl rfl rfl ?_
      refine q_iload_n dX2_finish_11 rfl rfl ?_
      refine q_callV (As := [.int (nI n)]) (rest := []) dX2_finish_12 vX2_91 (ty_r hb 0 rfl) ⟨by decide, rfl⟩ (z2_linkNode hb hc hw hnb (by omega) h) rfl rfl (Nat.le_of_ble_eq_true rfl) (by omega) (by omega) (by omega) (k_v (fun s12 q12 => ?_))
      refine q_iincN (c := 1) dX2_finish_15 rfl (by decide) rfl (ls' := [(1, .int (nI (n + 1))), (0, .ref b)]) rfl ?_
      refine q_goto (tgt := 2) dX2_finish_18 (by decide) ?_
      refine q_pk [1, 0] (ls' := [(0, .ref b), (1, .int (nI (n + 1)))]) rfl ?_
      exact ih (n + 1) s12 (by omega) (h0.tr q12.1) q12.2
/-- the heap behind Arrays.fill over the first n places -/
def filS (σ : HS) (h : Nat) (v : Int32) : Nat → HS
  | 0 => σ
  | n + 1 => uI (filS σ h v n) h n v
theorem filS_R {σ : HS} {h : Nat} {v : Int32} : ∀ n, sR (filS σ h v n) = sR σ ∧ sN (filS σ h v n) = sN σ ∧ sL (filS σ h v n) = sL σ
  | 0 => ⟨rfl, rfl, rfl⟩
  | n + 1 => filS_R (σ := σ) (h := h) (v := v) n
theorem filS_I {σ : HS} {h : Nat} {v : Int32} {a i : Nat} : ∀ n, sI (filS σ h v n) a i = if a = h ∧ i < n then v else sI σ a i
  | 0 => by rw [if_neg (by omega)]; rfl
  | n + 1 => by
    show sI (uI (filS σ h v n) h n v) a i = _
    rw [sI_uI, filS_I n]
    by_cases e : a = h ∧ i = n
    · rw [if_pos e, if_pos ⟨e.1, by omega⟩]
    · rw [if_neg e]
      by_cases e2 : a = h ∧ i < n
      · rw [if_pos e2, if_pos ⟨e2.1, by omega⟩]
      · rw [if_neg e2, if_neg (by omega)]
theorem TYP.fil {σ : HS} {h k : Nat} {v : Int32} {t : TC} {n : Nat} (ht : TYP σ k t) : TYP (filS σ h v n) k t := ⟨ht.1, by rw [(filS_R n).2.1]; exact ht.2.1, ht.2.2⟩
theorem yJ7_fill {g : GG} {σ : HS} {h len : Nat} {v : Int32} (ht : TYP σ h (.inr (0, len))) (hl : len < 2147483648) : ∀ (k i : Nat), i + k = len → WA g mJ7_fill_53178 0 0 0 (ZM g (VQ (filS σ h v len)) 0 0) 0 0 5 [(0, .ref h), (1, .int v), (2, .int (nI i)), (3, .int (nI len))] [] (filS σ h v i) := by
  intro k
  induction k with
  | zero =>
    intro i hi
    refine q_iload_n dJ7_fill_53178_5 rfl rfl ?_
    refine q_iload_n dJ7_fill_53178_6 rfl rfl ?_
    refine q_icmp_geN (tgt := 20) dJ7_fill_53178_7 (by decide) (by omega) (by omega) (fun c7 => ?_) (fun c7 => ?_)
    · skip
      refine q_return dJ7_fill_53178_20 rfl (by omega) (by omega) ?_
      rw [← hi]
      exact ⟨rfl, rfl⟩
    · exact absurd c7 (by omega)
  | succ k ih =>
    intro i hi
    refine q_iload_n dJ7_fill_53178_5 rfl rfl ?_
    refine q_iload_n dJ7_fill_53178_6 rfl rfl ?_
    refine q_icmp_geN (tgt := 20) dJ7_fill_53178_7 (by decide) (by omega) (by omega) (fun c7 => ?_) (fun c7 => ?_)
    · exact absurd c7 (by omega)
    · skip
      refine q_aload_n dJ7_fill_53178_10 rfl rfl rfl ?_
      refine q_iload_n dJ7_fill_53178_11 rfl rfl ?_
      refine q_iload_n dJ7_fill_53178_12 rfl rfl ?_
      refine q_iast (j := i) dJ7_fill_53178_13 ht.fil (ix_n (by omega) (by omega)) ?_
      refine q_iincN (c := 1) dJ7_fill_53178_14 rfl (by decide) rfl (ls' := [(2, .int (nI (i + 1))), (0, .ref h), (1, .int v), (3, .int (nI len))]) rfl ?_
      refine q_goto (tgt := 5) dJ7_fill_53178_17 (by decide) ?_
      refine q_pk [1, 2, 0, 3] (ls' := [(0, .ref h), (1, .int v), (2, .int (nI (i + 1))), (3, .int (nI len))]) rfl ?_
      exact ih (i + 1) (by omega)
theorem zJ7_fill {g : GG} {σ : HS} {h len : Nat} {v : Int32} (ht : TYP σ h (.inr (0, len))) (hl : len < 2147483648) : CT g mJ7_fill_53178 0 0 0 [.ref h, .int v] σ (VQ (filS σ h v len)) := by
  refine CT.of (by decide) (Nat.le_of_ble_eq_true rfl) ?_
  refine q_iconst (v := nI 0) dJ7_fill_53178_0 rfl ?_
  refine q_istore_n dJ7_fill_53178_1 rfl (by decide) (ls' := [(2, .int (nI 0)), (0, .ref h), (1, .int v)]) rfl ?_
  refine q_aload_n dJ7_fill_53178_2 rfl rfl rfl ?_
  refine q_alen (x := nI len) dJ7_fill_53178_3 ht (by decide) rfl ?_
  refine q_istore_n dJ7_fill_53178_4 rfl (by decide) (ls' := [(3, .int (nI len)), (2, .int (nI 0)), (0, .ref h), (1, .int v)]) rfl ?_
  refine q_pk [2, 3, 1, 0] (ls' := [(0, .ref h), (1, .int v), (2, .int (nI 0)), (3, .int (nI len))]) rfl ?_
  exact yJ7_fill ht hl len 0 (by omega)
