/-! The law: tape, run, write. -/
def tpX (x : LXX) (L : Nat) (T : Nat → Nat) : LXX := (L, T, lqW x, lqP x, lqN x, lqS x, lqA x, lqB x, lqD x)
theorem LCC.tp {S : List Nat} {σ τ : HS} {x : LXX} {L : Nat} {T : Nat → Nat} (k : LCC σ x) (f : Fr S σ τ) (hS : ∀ a, a ∈ S → a = 2 ∨ a = 3 ∨ (55 ≤ a ∧ a ≤ 57)) (ht : CTX τ L T) : LCC τ (tpX x L T) := by
  have e : ∀ a, 46 ≤ a → a ≤ 54 → sI τ a = sI σ a := fun a h1 h2 => f.2.2.2 a fun z => by have := hS a z; omega
  obtain ⟨-, -, k3, -, -, -, -, k8, ⟨x1, x2, x3, x4, x5, x6, x7, x8⟩, k10, k11, k12⟩ := id k
  exact k.upd f (fun a ha => by have := hS a ha; omega) rfl ht rfl (by rw [e 47 (by omega) (by omega)]; exact k8) ⟨by rw [e 48 (by omega) (by omega)]; exact x1, by rw [e 50 (by omega) (by omega)]; exact x2, by rw [e 51 (by omega) (by omega)]; exact x3, by rw [e 53 (by omega) (by omega)]; exact x4, by rw [e 54 (by omega) (by omega)]; exact x5, by rw [e 52 (by omega) (by omega)]; exact x6, by rw [e 46 (by omega) (by omega)]; exact x7, by rw [e 46 (by omega) (by omega)]; exact x8⟩ (by rw [e 46 (by omega) (by omega)]; exact k10) (by rw [e 46 (by omega) (by omega)]; exact k11) (by rw [e 46 (by omega) (by omega)]; exact k12)
theorem LMM.tp {P : Nat → Nat → Prop} {σ τ : HS} {x : LXX} {L : Nat} {T : Nat → Nat} (k : LMM σ x) (f : FR9 P σ τ) (hP : ∀ a i, P a i → (a = 58 ∧ (i = 1 ∨ i = 60)) ∨ a = 59 ∨ 97 ≤ a) (ht : MTX τ L T) : LMM τ (tpX x L T) := by
  have e : ∀ a j, ((89 ≤ a ∧ a ≤ 94) ∨ (a = 58 ∧ 51 ≤ j ∧ j ≤ 55)) → sI τ a j = sI σ a j := fun a j z => f.2.2.2 a j fun y => by have := hP a j y; omega
  obtain ⟨-, -, -, k4, ⟨x1, x2, x3, x4, x5, x6⟩, k6, k7, k8⟩ := id k
  exact k.upd f (fun a i ha => by have := hP a i ha; omega) rfl ht rfl (fun j hj => (e _ _ (by omega)).trans (k4 j hj)) ⟨fun i hi => (e _ _ (by omega)).trans (x1 i hi), fun a ha i hi => (e _ _ (by omega)).trans (x2 a ha i hi), fun i hi => (e _ _ (by omega)).trans (x3 i hi), fun i a b => (e _ _ (by omega)).trans (x4 i a b), (e _ _ (by omega)).trans x5, (e _ _ (by omega)).trans x6⟩ ((e _ _ (by omega)).trans k6) ((e _ _ (by omega)).trans k7) ((e _ _ (by omega)).trans k8)
/-- how many a RUN tells -/
theorem ru_C {q : PS} {p : Nat} : ∀ (f n : Nat) (s : XS) (c : Nat), xC (ruF q p f n s c).1 ≤ xC s + f
  | 0, _, _, _ => Nat.le_refl _
  | f + 1, n, s, c => by
    have h1 : xC (stF q p n (psM q).length 0 s).1 = xC s := st_C
    have h2 := (dn_C (q := q) (p := p) (n := n) (s := (stF q p n (psM q).length 0 s).1)).1
    unfold ruF
    by_cases z0 : rK (rg q n) ≠ 7 ∧ 1000 ≤ c
    · rw [if_pos z0]; show xC s ≤ _; omega
    · rw [if_neg z0]
      by_cases z1 : (stF q p n (psM q).length 0 s).2 = true
      · rw [if_pos z1]
        by_cases z2 : (dnF q p n (stF q p n (psM q).length 0 s).1).2 = true
        · rw [if_pos z2]
          cases nxF q n (dnF q p n (stF q p n (psM q).length 0 s).1).1 with
          | none => show xC (dnF q p n (stF q p n (psM q).length 0 s).1).1 ≤ _; omega
          | some m =>
            have := ru_C (q := q) (p := p) f m (dnF q p n (stF q p n (psM q).length 0 s).1).1 (if rK (rg q n) = 7 then c else c + 1)
            exact Nat.le_trans this (by omega)
        · rw [if_neg z2]; show xC (dnF q p n (stF q p n (psM q).length 0 s).1).1 ≤ _; omega
      · rw [if_neg z1]; show xC (stF q p n (psM q).length 0 s).1 ≤ _; omega
section PRT
variable {g : GG} {σ : HS} {p l k n : Int32} {w : Int64}
theorem pr_cut (hL : LAW σ) : PAIR g mX8_cut mX9_cut 0 0 [.int k] σ := by
  obtain ⟨x, hc, hm, hp⟩ := id hL
  obtain ⟨t1, t2, t3⟩ := id hc.2.2.1
  obtain ⟨m1, m2, m3⟩ := id hm.1
  by_cases h : ¬ k < 0 ∧ k < nI (lqL x + 1)
  · obtain ⟨v, v1, rfl⟩ := n_exl (by omega) h.1 h.2
    have f : Fr [2] σ (uI σ 2 1 (nI v)) := Fr.rf.uI (by decide)
    have hc' := hc.tp (T := lqT x) f (fun a ha => by simp only [List.mem_cons, List.not_mem_nil, or_false] at ha; omega) ⟨uI_self, by omega, fun i hi => by rw [rd_off (by omega)]; exact t3 i (by omega)⟩
    have hm' : LMM (uI σ 2 1 (nI v)) x := hm.cf fun a j h1 h2 => rd_off (by omega)
    obtain ⟨m1', -, m3'⟩ := id hm'.1
    have hm2 := hm'.tp (T := lqT x) (P := fun a i => a = 58 ∧ i = 1) (τ := uI (uI σ 2 1 (nI v)) 58 1 (nI v)) (L := v) (FR9.rf.uI ⟨rfl, rfl⟩) (fun a i z => by omega) ⟨uI_self, by omega, fun i hi => by rw [rd_off (by omega)]; exact m3' i (by omega)⟩
    exact pair_u (by omega) (by omega) (z8_cut1 hc.1 t1 t2 (by omega)) hc'.1 (z9_cut1 hc'.1 m1' (by omega) (by omega)) ⟨_, LCC.mf (σ := uI σ 2 1 (nI v)) rfl rfl (fun a j z => rd_off (by omega)) hc', hm2, hp⟩
  · exact pair_0 (by omega) (by omega) hL (z8_cut0 hc.1 t1 t2 h) (z9_cut0 hc.1 m1 m2 h)
theorem pr_feed (hL : LAW σ) : PAIR g mX8_feed mX9_feed 0 0 [.long w, .int n] σ := by
  obtain ⟨x, hc, hm, hp⟩ := id hL
  by_cases h : nI 1 ≤ n ∧ n ≤ nI 8
  · obtain ⟨m, m31, rfl⟩ := n_ex (p := n) (fun z => by
      have h1 := Int32.le_iff_toInt_le.mp h.1
      have h2 := Int32.lt_iff_toInt_lt.mp z
      rw [nI_toInt (by omega)] at h1
      have : (0 : Int32).toInt = 0 := by decide
      omega)
    have m1 : 1 ≤ m := (nI_leI (by omega) (by omega)).mp h.1
    have m8 : m ≤ 8 := (nI_leI (by omega) (by omega)).mp h.2
    by_cases hl : lqL x + m ≤ 3000
    · refine pair_x (v := nI (lqL x + m)) (x := x) (x' := tpX x (lqL x + m) (feT (lqT x) (lqL x) w m)) (d8 := 1) (d9 := 0) (by omega) (by omega) (CT.mono ?_ (z8_feed1 hc.1 hc.2.2.1 m1 m8 hl)) fun τ hc' hm' => CT.mono ?_ (z9_feed1 hc'.1 hm'.1 m1 m8 hl)
      · rintro r τ ⟨h1, h2, h3⟩
        exact ⟨h1, hc.tp h2 (fun a ha => by simp only [List.mem_cons, List.not_mem_nil, or_false] at ha; omega) h3, hm.fr h2 (fun a ha => by simp only [List.mem_cons, List.not_mem_nil, or_false] at ha; omega)⟩
      · rintro r υ ⟨h1, h2, h3⟩
        exact ⟨h1, _, hc'.fq h2 (fun a i z => by unfold tpq at z; omega), hm'.tp h2 (fun a i z => by unfold tpq at z; omega) h3, hp⟩
    · exact pair_0 (by omega) (by omega) hL (z8_feed2 hc.1 hc.2.2.1.1 hc.2.2.1.2.1 m1 m8 (by omega)) (z9_feed2 hc.1 hm.1.1 hm.1.2.1 m1 m8 (by omega))
  · exact pair_0 (by omega) (by omega) hL (z8_feed0 hc.1 h) (z9_feed0 hc.1 h)
theorem pr_run (hL : LAW σ) : PAIR g mX8_run mX9_run 0 0 [.int p, .int l] σ := by
  obtain ⟨x, hc, hm, hp⟩ := id hL
  rcases law_pl hc hm hp p with ⟨a, m⟩ | ⟨i, b, q, ws, hi, rfl, hx, a, m, h60, hr, hk, hy, hw, hwc, -⟩
  · exact pair_0 (by omega) (by omega) hL (z8_run0 hc.1 a) (z9_run0 hc.1 (Or.inl m))
  · by_cases h : ¬ l < 0 ∧ l < nI 3
    · obtain ⟨v, v1, rfl⟩ := n_exl (by omega) h.1 h.2
      have hC := ru_C (q := q) (p := v) 2001 0 (xs0 σ) 0
      have hC0 : xC (xs0 σ) = 0 := rfl
      refine pair_x (v := nI (ruF q v 2001 0 (xs0 σ) 0).2.2.1) (x := x) (x' := (lqL x, lqT x, lqW x, lqP x, lqN x, (ruF q v 2001 0 (xs0 σ) 0).1, (ruF q v 2001 0 (xs0 σ) 0).2.2.1, (ruF q v 2001 0 (xs0 σ) 0).2.1, (ruF q v 2001 0 (xs0 σ) 0).2.2.2)) (d8 := 6) (d9 := 3) (by omega) (by omega) (CT.mono ?_ (z8_run1 hc.1 a v1)) fun τ hc' hm' => ?_
      · rintro r τ ⟨h1, -, h2, h3, h4, h5, h6⟩
        have e : ∀ a, (a = 2 ∨ a = 3 ∨ a = 47) → sI τ a = sI σ a := fun a ha => h2.2.2.2 a (by simp only [List.mem_cons, List.not_mem_nil, or_false]; omega)
        refine ⟨h1, hc.upd h2 (fun a ha => by simp only [List.mem_cons, List.not_mem_nil, or_false] at ha; omega) rfl ⟨by rw [e 2 (by omega)]; exact hc.2.2.1.1, hc.2.2.1.2.1, by rw [e 3 (by omega)]; exact hc.2.2.1.2.2⟩ rfl (by rw [e 47 (by omega)]; exact hc.2.2.2.2.2.2.2.1) h3 h5 h4 h6, hm.fr h2 (fun a ha => by simp only [List.mem_cons, List.not_mem_nil, or_false] at ha; omega)⟩
      · obtain ⟨y1, y2, y3⟩ := (hm'.2.2.1 i hi).2 b q ws hx
        have x0 : X0 τ (xs0 σ) := ⟨fun j hj => (hm'.2.2.2.1 j hj).trans (hc.2.2.2.2.2.2.2.1 j hj).symm, fun _ _ => rfl, fun _ => rfl, rfl, rfl⟩
        refine CT.mono ?_ (z9_run hc'.1 hi y1 y2 hk v1 x0)
        rintro r υ ⟨h1, h2, h3, h4, h5, h6⟩
        have e : ∀ a j, (a = 59 ∨ a = 89 ∨ (a = 58 ∧ j = 1)) → sI υ a j = sI τ a j := fun a j ha => h2.2.2.2 a j (by unfold rnq; omega)
        refine ⟨h1, _, hc'.fq h2 (fun a i z => by unfold rnq at z; omega), hm'.upd h2 (fun a i z => by unfold rnq at z; omega) rfl ⟨(e _ _ (by omega)).trans hm'.1.1, hm'.1.2.1, fun j hj => ⟨(e _ _ (by omega)).trans (hm'.1.2.2 j hj).1, (hm'.1.2.2 j hj).2⟩⟩ rfl (fun j hj => (e _ _ (by omega)).trans (hm'.2.2.2.1 j hj)) h3 h5 h4 h6, ?_, hp.2⟩
        show xC (ruF q v 2001 0 (xs0 σ) 0).1 < 100000
        omega
    · exact pair_0 (by omega) (by omega) hL (z8_run2 hc.1 a h) (z9_run0 hc.1 (Or.inr ⟨⟨q, m⟩, h⟩))
theorem pr_write (hL : LAW σ) : PAIR g mX8_write mX9_write 0 0 [.int p, .int l] σ := by
  obtain ⟨x, hc, hm, hp⟩ := id hL
  rcases law_pl hc hm hp p with ⟨a, m⟩ | ⟨i, b, q, ws, hi, rfl, hx, a, m, h60, hr, hk, hy, hw, hwc, hq, hR⟩
  · exact pair_0 (by omega) (by omega) hL (z8_write0 hc.1 a) (z9_write0 hc.1 m)
  · by_cases h : ¬ l < 0 ∧ l < nI 3
    · obtain ⟨v, v1, rfl⟩ := n_exl (by omega) h.1 h.2
      by_cases hT : v ≠ 0 ∧ psT q = true
      · exact pair_0 (by omega) (by omega) hL (z8_write3 hc.1 a v1 hT.1 hT.2) (z9_write3 hc.1 m hq v1 hT.1 hT.2)
      · have ht : v = 0 ∨ psT q = false := by
          by_cases z : v = 0
          · exact Or.inl z
          · refine Or.inr ?_
            cases z2 : psT q
            · rfl
            · exact absurd ⟨z, z2⟩ hT
        have hlen := fuT_le (l := v) hk.1 hk.2.1 hk.2.2.1 hk.2.2.2.1 hR
        have nm : ∀ a, a ∈ [2, 3, 55, 56, 57] → a = 2 ∨ a = 3 ∨ (55 ≤ a ∧ a ≤ 57) := fun a ha => by simp only [List.mem_cons, List.not_mem_nil, or_false] at ha; omega
        have ma : ∀ τ, LMM τ x → MA τ (nI i) (some q) := fun τ z => by
          obtain ⟨y1, y2, y3⟩ := (z.2.2.1 i hi).2 b q ws hx
          exact ⟨i, hi, rfl, y1, y2, hk⟩
        have wu : ∀ a i, wuq a i → (a = 58 ∧ (i = 1 ∨ i = 60)) ∨ a = 59 ∨ 97 ≤ a := fun a i z => by unfold wuq wtq txq at z; omega
        by_cases hf : (fuT q v).length ≤ 3000
        · refine pair_x (v := nI (fuT q v).length) (x := x) (x' := tpX x (fuT q v).length (fun i => (fuT q v).getD i 0)) (d8 := 10) (d9 := 6) (by omega) (by omega) (CT.mono ?_ (z8_write1 hc.1 a v1 ht)) fun τ hc' hm' => CT.mono ?_ (z9_write1 hc'.1 (ma τ hm') hq v1 ht hlen)
          · rintro r τ ⟨h1, ⟨h2, h3, h4⟩ | ⟨h2, -⟩⟩
            · exact ⟨h3, hc.tp h1 nm h4, hm.fr h1 (fun a ha => by have := nm a ha; omega)⟩
            · omega
          · rintro r υ ⟨h1, ⟨h2, h3, h4, h5⟩ | ⟨h2, -⟩⟩
            · exact ⟨h3, _, hc'.fq h1 (fun a i z => by unfold wuq wtq txq at z; omega), hm'.tp h1 wu ⟨h4, hf, fun j hj => ⟨h5 j hj, (hc'.2.2.1.2.2 j hj).2⟩⟩, hp⟩
            · omega
        · refine pair_x (v := -3) (x := x) (x' := tpX x (lqL x) (lqT x)) (d8 := 10) (d9 := 6) (by omega) (by omega) (CT.mono ?_ (z8_write1 hc.1 a v1 ht)) fun τ hc' hm' => CT.mono ?_ (z9_write1 hc'.1 (ma τ hm') hq v1 ht hlen)
          · rintro r τ ⟨h1, ⟨h2, -⟩ | ⟨h2, h3, h4, h5⟩⟩
            · omega
            · exact ⟨h3, hc.tp h1 nm ⟨by rw [h4]; exact hc.2.2.1.1, hc.2.2.1.2.1, by rw [h5]; exact hc.2.2.1.2.2⟩, hm.fr h1 (fun a ha => by have := nm a ha; omega)⟩
          · rintro r υ ⟨h1, ⟨h2, -⟩ | ⟨h2, h3, h4, h5⟩⟩
            · omega
            · exact ⟨h3, _, hc'.fq h1 (fun a i z => by unfold wuq wtq txq at z; omega), hm'.tp h1 wu ⟨h4.trans hm'.1.1, hm'.1.2.1, fun j hj => ⟨(h5 j).trans (hm'.1.2.2 j hj).1, (hm'.1.2.2 j hj).2⟩⟩, hp⟩
    · exact pair_0 (by omega) (by omega) hL (z8_write2 hc.1 a h) (z9_write2 hc.1 m h)
end PRT
