/-! What a text says of its operands and SUMS. -/
def QT (q : PS) : Prop := (∀ r ∈ psS q, ((rK r = 1 ∨ rK r = 3 ∨ rK r = 4 ∨ rK r = 6) → rO1 r = nI 0) ∧ ((rK r = 4 ∨ rK r = 6) → rO0 r = nI 0)) ∧ ∀ e, e < (psM q).length → ∃ r ∈ psS q, rK r = 0 ∧ rS r = nI e
theorem pVl_0 {T : Nat → Nat} {L k : Nat} {v : Int32 × Int32 × Option SUM × Nat × Bool} (h : pVl T L k = .ok v) (hn : v.2.2.1.isSome = false) : v.2.1 = nI 0 := by
  unfold pVl at h
  split at h
  · obtain ⟨a, _, h⟩ := bd_ok.mp h
    obtain ⟨b, _, h⟩ := bd_ok.mp h
    obtain ⟨c, _, h⟩ := bd_ok.mp h
    cases h; cases hn
  · obtain ⟨a, _, h⟩ := bd_ok.mp h
    split at h
    · obtain ⟨b, _, h⟩ := bd_ok.mp h
      cases h; cases hn
    · cases h; rfl
theorem pSt_qt {T : Nat → Nat} {L kd k k2 : Nat} {s : ST0} {t : Bool} (h1 : 1 ≤ kd) (h6 : kd ≤ 6) (h : pSt T L kd k = .ok (s, k2, t)) : ((s.1 = 1 ∨ s.1 = 3 ∨ s.1 = 4 ∨ s.1 = 6) → s.2.2.2.1 = nI 0) ∧ ((s.1 = 4 ∨ s.1 = 6) → s.2.2.1 = nI 0) ∧ ∀ x, s.2.2.2.2.1 = some x → s.1 = 0 := by
  rcases (show kd = 1 ∨ kd = 2 ∨ kd = 3 ∨ kd = 4 ∨ kd = 5 ∨ kd = 6 by omega) with rfl | rfl | rfl | rfl | rfl | rfl
  · obtain ⟨v, _, hv, rfl, -⟩ := pSt_ok1 h
    dsimp only
    cases hs : v.2.2.1 with
    | none =>
      refine ⟨fun _ => pVl_0 hv (by rw [hs]; rfl), fun z => ?_, fun x z => by cases z⟩
      simp at z
    | some y =>
      refine ⟨fun z => ?_, fun z => ?_, fun _ _ => rfl⟩
      · simp at z
      · simp at z
  · obtain ⟨o, k1, t1, o2, t2, _, _, _, _, _, rfl, -⟩ := pSt_ok2 h
    refine ⟨fun z => ?_, fun z => ?_, fun x z => by cases z⟩
    · simp at z
    · simp at z
  · obtain ⟨o, _, rfl⟩ := pSt_ok3 h
    exact ⟨fun _ => rfl, fun z => by simp at z, fun x z => by cases z⟩
  · obtain ⟨_, _, rfl, -⟩ := pSt_ok4 h
    exact ⟨fun _ => rfl, fun _ => rfl, fun x z => by cases z⟩
  · obtain ⟨o, k1, t1, o2, k3, t2, _, _, _, _, _, _, rfl, -⟩ := pSt_ok5 h
    refine ⟨fun z => ?_, fun z => ?_, fun x z => by cases z⟩
    · simp at z
    · simp at z
  · obtain ⟨_, rfl, -⟩ := pSt_ok6 h
    exact ⟨fun _ => rfl, fun _ => rfl, fun x z => by cases z⟩
theorem psAdd_qt {T : Nat → Nat} {L b : Nat} {q : PS} {s : ST0} {t : Bool} (h : QT q) (hs : ((s.1 = 1 ∨ s.1 = 3 ∨ s.1 = 4 ∨ s.1 = 6) → s.2.2.2.1 = nI 0) ∧ ((s.1 = 4 ∨ s.1 = 6) → s.2.2.1 = nI 0) ∧ ∀ x, s.2.2.2.2.1 = some x → s.1 = 0) : QT (psAdd T L q b s t) := by
  rw [psAdd_eq]
  obtain ⟨h1, h2⟩ := h
  obtain ⟨s1, s2, s3⟩ := hs
  refine ⟨fun r hr => ?_, fun e he => ?_⟩
  · rcases List.mem_append.mp (show r ∈ psS q ++ [_] from hr) with hr | hr
    · exact h1 r hr
    · rw [List.mem_singleton.mp hr]
      exact ⟨fun z => s1 z, fun z => s2 z⟩
  · have old : e < (psM q).length → ∃ r ∈ psS q ++ [recS T L b s (sumS (psM q) s.2.2.2.2.1).1], rK r = 0 ∧ rS r = nI e := fun z => by
      obtain ⟨r, r1, r2⟩ := h2 e z
      exact ⟨r, List.mem_append.mpr (Or.inl r1), r2⟩
    replace he : e < (sumS (psM q) s.2.2.2.2.1).2.1.length := he
    show ∃ r ∈ psS q ++ [recS T L b s (sumS (psM q) s.2.2.2.2.1).1], rK r = 0 ∧ rS r = nI e
    cases hx : s.2.2.2.2.1 with
    | none =>
      rw [hx] at he old
      exact old he
    | some x =>
      rw [hx] at he old
      have k0 := s3 x hx
      replace he : e < (nSum (psM q) x).2.1.length := he
      replace old : e < (psM q).length → ∃ r ∈ psS q ++ [recS T L b s (nSum (psM q) x).1], rK r = 0 ∧ rS r = nI e := old
      show ∃ r ∈ psS q ++ [recS T L b s (nSum (psM q) x).1], rK r = 0 ∧ rS r = nI e
      unfold nSum at he old ⊢
      cases hf : (psM q).findIdx? (fun y => y == x) with
      | some j =>
        rw [hf] at he old
        exact old he
      | none =>
        rw [hf] at he old
        by_cases hl : (psM q).length < 32
        · dsimp only at he old ⊢
          rw [if_pos hl] at he old ⊢
          by_cases e2 : e < (psM q).length
          · exact old e2
          · refine ⟨_, List.mem_append.mpr (Or.inr (List.mem_singleton.mpr rfl)), k0, ?_⟩
            have : e < (psM q ++ [x]).length := he
            rw [List.length_append, List.length_singleton] at this
            show nI (psM q).length = nI e
            rw [show e = (psM q).length by omega]
        · dsimp only at he old ⊢
          rw [if_neg hl] at he old ⊢
          exact old he
theorem pSts_qt {T : Nat → Nat} {L k2 : Nat} {q' : PS} : ∀ (f b k : Nat) (q : PS), QT q → pSts T L b f k q = .ok (k2, q') → QT q' := by
  intro f
  induction f with
  | zero => intro b k q _ h; cases h
  | succ f ih =>
    intro b k q h1 h
    obtain ⟨kd, s, k1, t, x1, x2, x3, x4, x5⟩ := pSts_ok h
    obtain ⟨y1, y2, y3⟩ := pKd_b x1
    have hq := psAdd_qt (T := T) (L := L) (b := b) (t := t) h1 (pSt_qt y1 y2 x3)
    rcases x5 with ⟨z1, z2⟩ | ⟨z1, z2⟩
    · cases z2; exact hq
    · exact ih b _ _ hq z2
theorem pBks_qt {T : Nat → Nat} {L : Nat} {q' : PS} : ∀ (f b k : Nat) (q : PS), QT q → pBks T L f b k q = .ok q' → QT q' := by
  intro f
  induction f with
  | zero =>
    intro b k q h1 h
    unfold pBks at h
    split at h
    · cases h; exact h1
    · cases h
  | succ f ih =>
    intro b k q h1 h
    unfold pBks at h
    split at h
    · cases h; exact h1
    · obtain ⟨⟨k2, q2⟩, a, h⟩ := bd_ok.mp h
      obtain ⟨-, -, -, x4⟩ := pBk_ok a
      exact ih _ _ _ (pSts_qt _ _ _ _ (show QT (psB T L k q) from h1) x4) h
theorem pAll_qt {T : Nat → Nat} {L : Nat} {q : PS} (h : pAll T L = .ok q) : QT q := pBks_qt _ _ _ _ (show QT ps0 from ⟨fun r hr => (by cases hr), fun e he => absurd he (Nat.not_lt_zero e)⟩) h
/-- a t in a NODE, in a SUM -/
def tM (r : REC) : Bool := (decide (rK r ≤ 1) && decide (nI 16 ≤ rT r)) || ((decide (rK r = 1) || decide (rK r = 2) || decide (rK r = 3) || decide (rK r = 5)) && oT (rO0 r)) || ((decide (rK r = 2) || decide (rK r = 5)) && oT (rO1 r))
def tS (x : SUM) : Bool := (!decide (x.1 = nI 114) && oT x.2.1) || oT x.2.2
def tMs (q : PS) (n : Nat) : Bool := (List.range n).any (fun k => tM (rg q k))
def tSs (q : PS) (e : Nat) : Bool := (List.range e).any (fun k => tS (sm q k))
theorem tMs_s {q : PS} {n : Nat} : tMs q (n + 1) = (tMs q n || tM (rg q n)) := by
  unfold tMs; rw [List.range_succ, List.any_append]; simp
theorem tSs_s {q : PS} {n : Nat} : tSs q (n + 1) = (tSs q n || tS (sm q n)) := by
  unfold tSs; rw [List.range_succ, List.any_append]; simp
theorem psT_is {q : PS} (hw : WFs q) (hx : psX q = false) (h : QT q) : (tMs q (psS q).length || tSs q (psM q).length) = psT q := by
  rw [hw.2.2.2.2]
  have key : ∀ r ∈ psS q, rK r = 0 → ∃ e, e < (psM q).length ∧ rS r = nI e ∧ tS (sm q e) = (oT (rO0 r) || oT (rO1 r)) := fun r hr k0 => by
    rcases (hw.1 r hr).2.2 k0 with h | ⟨e, e1, e2, e3, e4⟩
    · rw [hx] at h; cases h
    · refine ⟨e, e1, e2, ?_⟩
      have e4 : (sm q e).2.2 = rO1 r := e4
      unfold tS
      rw [e4]
      rcases e3 with ⟨a1, a2⟩ | ⟨a1, a2⟩
      · have a1 : isO (sm q e).1 := a1
        have a2 : (sm q e).2.1 = rO0 r := a2
        rw [a2, decide_eq_false (isO_r a1)]; rfl
      · have a1 : (sm q e).1 = nI 114 := a1
        rw [a1, a2, oT0]; simp
  have h32 := hw.2.2.2.1
  apply Bool.eq_iff_iff.mpr
  rw [Bool.or_eq_true]
  unfold tMs tSs
  simp only [List.any_eq_true]
  constructor
  · rintro (⟨n, n1, n2⟩ | ⟨e, e1, e2⟩)
    · have hn := List.mem_range.mp n1
      have hm : rr q n ∈ psS q := rr_mem hn
      rw [show rg q n = rr q n from if_pos hn] at n2
      refine ⟨_, hm, ?_⟩
      unfold tM at n2
      unfold tR
      simp only [Bool.or_eq_true, Bool.and_eq_true] at n2 ⊢
      rcases n2 with (n2 | n2) | n2
      · exact Or.inl (Or.inl n2)
      · exact Or.inl (Or.inr n2.2)
      · exact Or.inr n2.2
    · have he := List.mem_range.mp e1
      obtain ⟨r, r1, r2, r3⟩ := h.2 e he
      obtain ⟨e', a1, a2, a3⟩ := key r r1 r2
      have : e = e' := nI_inj (by omega) (by omega) (r3.symm.trans a2)
      subst this
      rw [a3] at e2
      refine ⟨r, r1, ?_⟩
      unfold tR
      simp only [Bool.or_eq_true] at e2 ⊢
      rcases e2 with e2 | e2
      · exact Or.inl (Or.inr e2)
      · exact Or.inr e2
  · rintro ⟨r, r1, r2⟩
    obtain ⟨n, hn, rfl⟩ := List.mem_iff_getElem.mp r1
    have er : rg q n = (psS q)[n] := by
      rw [show rg q n = rr q n from if_pos hn]
      unfold rr; rw [List.getD_eq_getElem?_getD, List.getElem?_eq_getElem hn]; rfl
    generalize hR : (psS q)[n] = r at *
    obtain ⟨q1, q2⟩ := h.1 r r1
    have hk := (hw.1 r r1).1.1
    unfold tR at r2
    by_cases k0 : rK r = 0
    · by_cases ht : decide (nI 16 ≤ rT r) = true
      · refine Or.inl ⟨n, List.mem_range.mpr hn, ?_⟩
        rw [er]; unfold tM
        rw [ht, k0]; rfl
      · obtain ⟨e, a1, a2, a3⟩ := key r r1 k0
        refine Or.inr ⟨e, List.mem_range.mpr a1, ?_⟩
        rw [a3]
        rw [Bool.not_eq_true] at ht
        rw [ht] at r2
        simpa using r2
    · refine Or.inl ⟨n, List.mem_range.mpr hn, ?_⟩
      rw [er]; unfold tM
      rcases (show rK r = 1 ∨ rK r = 2 ∨ rK r = 3 ∨ rK r = 4 ∨ rK r = 5 ∨ rK r = 6 by omega) with k | k | k | k | k | k
      · rw [q1 (by omega), oT0] at r2; rw [k] at r2 ⊢; simpa using r2
      · rw [k] at r2 ⊢; simpa using r2
      · rw [q1 (by omega), oT0] at r2; rw [k] at r2 ⊢; simpa using r2
      · rw [q1 (by omega), q2 (by omega), oT0] at r2; rw [k] at r2; simp at r2
      · rw [k] at r2 ⊢; simpa using r2
      · rw [q1 (by omega), q2 (by omega), oT0] at r2; rw [k] at r2; simp at r2
theorem opn_16 {o : Int32} (ho : OPD o) : nI 16 ≤ opn o ↔ oT o = true := by
  unfold oT
  rcases ho with ⟨v, h1, rfl⟩ | ⟨v, h1, rfl⟩ | ⟨v, h1, rfl⟩
  · rw [(opn_n h1).1]
    refine ⟨fun z => absurd z (by decide), fun z => ?_⟩
    have := (nI_leI (by omega) (by omega)).mp (of_decide_eq_true z)
    omega
  · rw [(opn_m h1).1]
    refine ⟨fun z => absurd z (by decide), fun z => ?_⟩
    have h2 := (opV_m (nm := fun _ => 0) h1).1
    exact absurd (Int32.le_iff_toInt_le.mpr (by have := Int32.le_iff_toInt_le.mp (of_decide_eq_true z); rw [nI_toInt (by omega)] at this ⊢; omega)) h2
  · rw [(opn_nm (by omega)).1]
    rw [nI_leI (by omega) (by omega), decide_eq_true_iff, nI_leI (by omega) (by omega)]
    omega
