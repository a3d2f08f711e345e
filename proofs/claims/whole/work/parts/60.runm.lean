/-! A RUN as numbers: NAMES, ROWS, worked of each, kept, told, how many told, worked in all. -/
abbrev XS : Type := (Nat → Int32) × (Nat → Nat → Int32) × (Nat → Int32) × (Nat → Int32) × (Nat → Int32) × Nat × Int32
def xN (s : XS) : Nat → Int32 := s.1
def xR (s : XS) : Nat → Nat → Int32 := s.2.1
def xW (s : XS) : Nat → Int32 := s.2.2.1
def xK (s : XS) : Nat → Int32 := s.2.2.2.1
def xT (s : XS) : Nat → Int32 := s.2.2.2.2.1
def xC (s : XS) : Nat := s.2.2.2.2.2.1
def xA (s : XS) : Int32 := s.2.2.2.2.2.2
/-- an operand's value -/
def opV (nm : Nat → Int32) (o : Int32) : Int32 := if nI 1000000000 ≤ o then nm (o - nI 1000000000).toNatClampNeg else o
def wkF (c x y : Int32) (rw : Nat → Nat → Int32) : Option Int32 :=
  if c = nI 43 then some (x + y) else if c = nI 45 then some (x - y) else if c = nI 42 then some (x * y) else if c = nI 38 then some (x &&& y) else if c = nI 94 then some (x ^^^ y)
  else if c = nI 47 then (if y = 0 then none else some (x / y)) else if (¬ x < 0 ∧ x < nI 2) ∧ ¬ y < 0 ∧ y < nI 8 then some (rw x.toNatClampNeg y.toNatClampNeg) else none
def wkS (s : XS) (e : Nat) : XS := (xN s, xR s, fun i => if i = e then xW s i + nI 1 else xW s i, xK s, xT s, xC s, xA s + nI 1)
def wkR (s : XS) (x : SUM) : Option Int32 := wkF x.1 (opV (xN s) x.2.1) (opV (xN s) x.2.2) (xR s)
def kpS (s : XS) (e : Nat) (v : Int32) : XS := (xN s, xR s, xW s, fun i => if i = e then v else xK s i, xT s, xC s, xA s)
def gvS (s : XS) (t : Nat) (v : Int32) : XS := (fun i => if i = t then v else xN s i, xR s, xW s, xK s, xT s, xC s, xA s)
def grS (s : XS) (r i : Nat) (v : Int32) : XS := (xN s, fun a b => if a = r ∧ b = i then v else xR s a b, xW s, xK s, xT s, xC s, xA s)
def tlS (s : XS) (v : Int32) : XS := (xN s, xR s, xW s, xK s, if xC s < 100 then (fun i => if i = xC s then v else xT s i) else xT s, xC s + 1, xA s)
/-- SUMS from e on, f of them, are set ahead of NODE n -/
noncomputable def stF (q : PS) (p n : Nat) : Nat → Nat → XS → XS × Bool
  | 0, _, s => (s, true)
  | f + 1, e, s => if stA q p e n = true then (match wkR s (sm q e) with
      | none => (wkS s e, false)
      | some v => stF q p n f (e + 1) (kpS (wkS s e) e v)) else stF q p n f (e + 1) s
def tgt (q : PS) (n : Nat) : Nat := (rT (rg q n)).toNatClampNeg
def smN (q : PS) (n : Nat) : Nat := (rS (rg q n)).toNatClampNeg
/-- NODE n itself -/
noncomputable def dnF (q : PS) (p n : Nat) (s : XS) : XS × Bool :=
  if rK (rg q n) = 0 then (if tkn q p (smN q n) n = true then (gvS s (tgt q n) (xK s (smN q n)), true) else match wkR s (sm q (smN q n)) with
    | none => (wkS s (smN q n), false)
    | some v => (gvS (wkS s (smN q n)) (tgt q n) v, true))
  else if rK (rg q n) = 1 then (gvS s (tgt q n) (opV (xN s) (rO0 (rg q n))), true)
  else if rK (rg q n) = 2 then (if ¬ opV (xN s) (rO0 (rg q n)) < 0 ∧ opV (xN s) (rO0 (rg q n)) < nI 8 then (grS s (tgt q n) (opV (xN s) (rO0 (rg q n))).toNatClampNeg (opV (xN s) (rO1 (rg q n))), true) else (s, false))
  else if rK (rg q n) = 3 then (tlS s (opV (xN s) (rO0 (rg q n))), true) else (s, true)
def nxF (q : PS) (n : Nat) (s : XS) : Option Nat := if rK (rg q n) = 5 ∧ ¬ opV (xN s) (rO0 (rg q n)) < opV (xN s) (rO1 (rg q n)) then ld q 1 n else ld q 0 n
/-- what is left, NODES come to, how it ended, the block where it was REFUSED -/
abbrev RES : Type := XS × Nat × Nat × Int32
noncomputable def ruF (q : PS) (p : Nat) : Nat → Nat → XS → Nat → RES
  | 0, _, s, c => (s, c, 0, -1)
  | f + 1, n, s, c => if rK (rg q n) ≠ 7 ∧ 1000 ≤ c then (s, c, 2, -1) else
    if (stF q p n (psM q).length 0 s).2 = true then
      (if (dnF q p n (stF q p n (psM q).length 0 s).1).2 = true then (match nxF q n (dnF q p n (stF q p n (psM q).length 0 s).1).1 with
        | none => ((dnF q p n (stF q p n (psM q).length 0 s).1).1, (if rK (rg q n) = 7 then c else c + 1), 0, -1)
        | some m => ruF q p f m (dnF q p n (stF q p n (psM q).length 0 s).1).1 (if rK (rg q n) = 7 then c else c + 1))
      else ((dnF q p n (stF q p n (psM q).length 0 s).1).1, (if rK (rg q n) = 7 then c else c + 1), 1, nI (rB (rg q n))))
    else ((stF q p n (psM q).length 0 s).1, (if rK (rg q n) = 7 then c else c + 1), 1, nI (rB (rg q n)))
/-! Nothing is taken that was not set in this RUN. -/
/-- what holds of a NODE that is come to while SUM e was not set -/
def PE (q : PS) (e n : Nat) : Prop := ¬ the q e n = true ∧ (wtd q e n = true → ear q e n = true)
def PP (q : PS) (p e n : Nat) : Prop := if p = 1 then PE q e n else if p = 2 then PE q e n ∨ dly q e n = true ∨ (¬ wk q e n = true ∧ alo q e n = true) else True
theorem wk_wtd {q : PS} (hc : BC q) (hw : WFs q) (hnb : NB q) {e n : Nat} (h : wk q e n = true) : wtd q e n = true := gf_t.mpr ⟨fun m => wtd q e m || decide (m = n), fun m hm h1 => by
  rw [Bool.or_eq_true] at h1
  rcases h1 with h1 | h1
  · have h2 := gf_F (wd_m hc hw hnb e) m hm h1
    exact wd_m hc hw hnb e _ _ (fun i _ hi => by rw [Bool.or_eq_true]; exact Or.inl hi) m hm h2
  · rw [of_decide_eq_true h1]
    show wdB q e _ n = true
    unfold wdB
    rw [h, Bool.true_or], by simp⟩
theorem PE_0 {q : PS} (hc : BC q) (hw : WFs q) (hnb : NB q) (hN : 0 < NN q) (e : Nat) : PE q e 0 := ⟨fun h => (gf_F (th_m e) 0 hN h).1 rfl, fun h => by
  unfold ear
  rw [h, @decide_eq_true _ (Classical.propDecidable _) (Or.inl rfl)]; rfl⟩
theorem PE_s {q : PS} {e n m : Nat} (hn : n < NN q) (hm : m < NN q) (hl : lto q n m) (h : PE q e n) (hs : ¬ ear q e n = true) (hwk : wk q e n = true → wtd q e n = true) : PE q e m := by
  have hw : wtd q e n = false := by
    cases z : wtd q e n
    · rfl
    · exact absurd (h.2 z) hs
  have ht : the q e n = false := by
    cases z : the q e n
    · rfl
    · exact absurd z h.1
  have hk : wk q e n = false := by
    cases z : wk q e n
    · rfl
    · have := hwk z; rw [hw] at this; cases this
  refine ⟨fun h2 => ?_, fun h2 => ?_⟩
  · have h3 := (gf_F (th_m e) m hm h2).2 n hn hl
    rw [hk] at h3
    rw [show gf (NN q) (thF q e) n = the q e n from rfl, ht] at h3
    simp at h3
  · unfold ear
    rw [h2, @decide_eq_true _ (Classical.propDecidable _)]
    · rfl
    · exact Or.inr ⟨n, hn, hl, by rw [ht, hw]; simp⟩
theorem PP_0 {q : PS} (hc : BC q) (hw : WFs q) (hnb : NB q) (hN : 0 < NN q) (p e : Nat) : PP q p e 0 := by
  unfold PP
  split
  · exact PE_0 hc hw hnb hN e
  · split
    · exact Or.inl (PE_0 hc hw hnb hN e)
    · trivial
theorem al_to {q : PS} {e n m : Nat} (hl : lto q n m) (h : alN q (dly q e) n = true) : dly q e m = true := by
  unfold alN at h
  rcases hl with l | l
  · rw [l] at h; simp only [Bool.and_eq_true] at h; exact h.1
  · rw [l] at h; simp only [Bool.and_eq_true] at h; exact h.2
theorem ao_to {q : PS} {e n m : Nat} {v : Nat → Bool} (hl : lto q n m) (h : alQ q v n = true) : v m = true := by
  unfold alQ at h
  rcases hl with l | l
  · rw [l] at h; simp only [Bool.and_eq_true] at h; exact h.1
  · rw [l] at h; simp only [Bool.and_eq_true] at h; exact h.2
theorem PP_s {q : PS} (hc : BC q) (hw : WFs q) (hnb : NB q) {p e n m : Nat} (hn : n < NN q) (hm : m < NN q) (hl : lto q n m) (h : PP q p e n) (hs : ¬ stA q p e n = true) : PP q p e m := by
  unfold PP stA at *
  by_cases p1 : p = 1
  · rw [if_pos p1] at h hs ⊢
    exact PE_s hn hm hl h hs (wk_wtd hc hw hnb)
  · rw [if_neg p1] at h hs ⊢
    by_cases p2 : p = 2
    · rw [if_pos p2] at h hs ⊢
      have ed : ∀ i, i < NN q → ear q e i = true → dly q e i = true := fun i hi he => gf_t.mpr ⟨fun m => dly q e m || decide (m = i), fun m hm h1 => by
        rw [Bool.or_eq_true] at h1
        rcases h1 with h1 | h1
        · exact dl_m e _ _ (fun i _ hi => by rw [Bool.or_eq_true]; exact Or.inl hi) m hm (gf_F (dl_m e) m hm h1)
        · rw [of_decide_eq_true h1]; exact Or.inl he, by simp⟩
      have thd : (¬ wk q e n = true ∧ alo q e n = true) ∨ (dly q e n = true ∧ alo q e n = true) → dly q e m = true ∨ (¬ wk q e m = true ∧ alo q e m = true) := by
        intro h0
        have ha : alo q e n = true := by rcases h0 with h | h <;> exact h.2
        have h1 : aoB q e (alo q e) n = true := gf_F (ao_m hc hw hnb e) n hn ha
        have h2 := ao_to (e := e) hl h1
        simp only [Bool.or_eq_true, Bool.and_eq_true, Bool.not_eq_true'] at h2
        rcases h2 with h2 | h2
        · unfold lst at h2
          rw [Bool.and_eq_true] at h2
          exact Or.inl h2.1
        · exact Or.inr ⟨by rw [h2.1]; decide, h2.2⟩
      have dl : dly q e n = true → dly q e m = true ∨ (¬ wk q e m = true ∧ alo q e m = true) := by
        intro hd
        by_cases ha : alo q e n = true
        · exact thd (Or.inr ⟨hd, ha⟩)
        · have hnl : ¬ lst q e n = true := fun z => hs (by rw [z]; simp [Bool.eq_false_iff.mpr ha])
          unfold lst at hnl
          rw [hd, Bool.true_and, Bool.or_eq_true, not_or] at hnl
          have : alN q (dly q e) n = true := by
            cases z : alN q (dly q e) n
            · exact absurd (by rw [z]; rfl) hnl.2
            · rfl
          exact Or.inl (al_to hl this)
      rcases h with h | h | h
      · by_cases he : ear q e n = true
        · exact Or.inr (dl (ed n hn he))
        · exact Or.inl (PE_s hn hm hl h he (wk_wtd hc hw hnb))
      · exact Or.inr (dl h)
      · exact Or.inr (thd (Or.inl h))
    · rw [if_neg p2]; trivial
theorem PP_t {q : PS} (hc : BC q) (hw : WFs q) (hnb : NB q) {p e n : Nat} (hn : n < NN q) (h : PP q p e n) (ht : tkn q p e n = true) : stA q p e n = true := by
  unfold PP stA tkn at *
  by_cases p1 : p = 1
  · rw [if_pos p1] at h ht ⊢
    exact h.2 (wk_wtd hc hw hnb ht)
  · rw [if_neg p1] at h ht ⊢
    by_cases p2 : p = 2
    · rw [if_pos p2] at h ht ⊢
      rw [Bool.and_eq_true] at ht
      have hd : dly q e n = true := by
        rcases h with h | h | h
        · have he := h.2 (wk_wtd hc hw hnb ht.1)
          exact gf_t.mpr ⟨fun m => dly q e m || decide (m = n), fun m hm h1 => by
            rw [Bool.or_eq_true] at h1
            rcases h1 with h1 | h1
            · exact dl_m e _ _ (fun i _ hi => by rw [Bool.or_eq_true]; exact Or.inl hi) m hm (gf_F (dl_m e) m hm h1)
            · rw [of_decide_eq_true h1]; exact Or.inl he, by simp⟩
        · exact h
        · exact absurd ht.1 h.1
      have hl : lst q e n = true := by unfold lst; rw [hd, ht.1]; rfl
      rw [hl]
      have h2 := ht.2
      rw [hl] at h2
      simpa using h2
    · rw [if_neg p2] at ht; cases ht
