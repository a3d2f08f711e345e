/-! The law's start. -/
def hs0 : HS := (fun _ _ => 0, fun _ _ => 0, fun _ _ => 0, 0)
def nw1 : List (Nat × Nat × Nat) := [(0, 4, 54), (54, 1, 56), (54, 0, 55), (0, 3, 45), (45, 5, 53), (45, 4, 52), (45, 3, 51), (45, 2, 48), (48, 1, 50), (48, 0, 49), (45, 1, 47), (45, 0, 46), (0, 2, 4), (4, 5, 13), (13, 11, 34), (34, 9, 44), (34, 8, 43), (34, 7, 42), (34, 6, 41), (34, 5, 40), (34, 4, 39), (34, 3, 38), (34, 2, 37), (34, 1, 36), (34, 0, 35), (13, 10, 30), (30, 2, 33), (30, 1, 32), (30, 0, 31), (13, 9, 29), (13, 8, 28), (13, 7, 27), (13, 6, 24), (24, 1, 26), (24, 0, 25), (13, 5, 21), (21, 1, 23), (21, 0, 22), (13, 4, 20), (13, 3, 17), (17, 1, 19), (17, 0, 18), (13, 2, 16), (13, 1, 15), (13, 0, 14), (4, 2, 10), (10, 1, 12), (10, 0, 11), (4, 1, 9), (4, 0, 5), (5, 2, 8), (5, 1, 7), (5, 0, 6), (0, 1, 3), (0, 0, 1), (1, 0, 2)]
def nw2 : List (Nat × Nat × Nat) := [(0, 61, 40), (0, 59, 39), (0, 58, 38), (0, 57, 37), (0, 50, 36), (0, 49, 35), (0, 48, 34), (0, 47, 33), (0, 46, 32), (0, 45, 31), (0, 44, 30), (0, 43, 29), (0, 42, 28), (0, 40, 27), (0, 39, 26), (0, 31, 25), (0, 30, 24), (0, 29, 23), (0, 28, 22), (0, 27, 21), (0, 26, 20), (0, 25, 19), (0, 24, 18), (0, 23, 17), (0, 22, 16), (0, 21, 15), (0, 20, 14), (0, 19, 13), (0, 18, 12), (0, 17, 11), (0, 16, 10), (0, 15, 9), (0, 14, 8), (0, 13, 7), (0, 12, 6), (0, 11, 5), (0, 10, 4), (0, 9, 3), (0, 8, 2), (0, 0, 1)]
def lx0 : LXX := (0, fun _ => 0, 0, fun _ => none, fun _ => 0, (fun _ => 0, fun _ _ => 0, fun _ => 0, fun _ => 0, fun _ => 0, 0, 0), 0, 0, 0)
theorem skt_in {h k r : Nat} (z : skt h k = some r) : h < 59 ∧ k < 62 := by
  constructor
  · refine Classical.byContradiction fun y => ?_
    have : skt h k = none := by unfold skt; split <;> first | rfl | omega
    rw [this] at z; cases z
  · refine Classical.byContradiction fun y => ?_
    have : skt h k = none := by
      unfold skt
      split
      all_goals first | rfl | exact List.getElem?_eq_none (by simp only [List.length_cons, List.length_nil]; omega) | (rw [List.getElem?_eq_none (by simp only [List.length_cons, List.length_nil]; omega)])
    rw [this] at z; cases z
theorem skr_in {o k r : Nat} (z : skr o k = some r) : o < 22 ∧ k < 12 := by
  constructor
  · refine Classical.byContradiction fun y => ?_
    have : skr o k = none := by unfold skr; split <;> first | rfl | omega
    rw [this] at z; cases z
  · refine Classical.byContradiction fun y => ?_
    have : skr o k = none := by
      unfold skr
      split
      all_goals first | rfl | exact List.getElem?_eq_none (by simp only [List.length_cons, List.length_nil]; omega)
    rw [this] at z; cases z
set_option maxRecDepth 100000 in
theorem skt_ok : ∀ h : Fin 59, ∀ k : Fin 62, (match skt h.val k.val with | none => true | some r => if h.val < 58 then decide (1 ≤ h.val) && (lkp nw1 (h.val - 1) k.val == some (r - 1)) && decide (1 ≤ r) else (lkp nw2 0 k.val == some (r - 58)) && decide (58 ≤ r)) = true := by decide +kernel
set_option maxRecDepth 100000 in
theorem skr_ok : ∀ o : Fin 22, ∀ k : Fin 12, (match skr o.val k.val with | none => true | some r => lkp nw1 (13 + o.val) k.val == some (13 + r)) = true := by decide +kernel
theorem law_0 {σ1 σ2 : HS} (w1 : NW (nH hs0) 56 nw1 σ1) (w2 : NW (nH σ1) 40 nw2 σ2) : LAW σ2 := by
  obtain ⟨n1, i1, -, r1⟩ := w1
  obtain ⟨n2, i2, -, r2⟩ := w2
  have a1 : sN (nH hs0) = 1 := rfl
  have a2 : sN σ1 = 57 := by omega
  have a3 : sN (nH σ1) = 58 := by show sN σ1 + 1 = 58; omega
  have a4 : sN σ2 = 98 := by omega
  have z1 : ∀ h i, sI σ1 h i = 0 := fun h i => by
    rw [i1]
    split
    · rfl
    · show (if h = sN hs0 + 1 then 0 else (0 : Int32)) = 0
      split <;> rfl
  have z2 : ∀ h i, sI σ2 h i = 0 := fun h i => by
    rw [i2]
    split
    · rfl
    · show (if h = sN σ1 + 1 then 0 else sI σ1 h i) = 0
      split
      · rfl
      · exact z1 h i
  have lo : ∀ h k, h < 58 → sR σ2 h k = sR σ1 h k := fun h k hh => by
    rw [r2, a3, if_neg (by omega), if_neg (by omega)]
    show (if h = sN σ1 + 1 then 0 else sR σ1 h k) = _
    rw [if_neg (by omega)]
  have lo1 : ∀ h k r, 1 ≤ h → h < 58 → lkp nw1 (h - 1) k = some r → sR σ2 h k = 1 + r := fun h k r g1 g2 g3 => by
    rw [lo h k g2, r1, a1, if_pos g1, g3]; rfl
  have hSK : SK σ2 := by
    refine ⟨by omega, fun h k r z => ?_⟩
    obtain ⟨h1, h2⟩ := skt_in z
    have h3 := skt_ok ⟨h, h1⟩ ⟨k, h2⟩
    simp only [z] at h3
    by_cases e : h < 58
    · rw [if_pos e] at h3
      simp only [Bool.and_eq_true, decide_eq_true_eq, beq_iff_eq] at h3
      rw [lo1 h k (r - 1) h3.1.1 e h3.1.2]; omega
    · rw [if_neg e] at h3
      simp only [Bool.and_eq_true, decide_eq_true_eq, beq_iff_eq] at h3
      have eh : h = 58 := by omega
      subst eh
      rw [r2, a3, if_pos (Nat.le_refl 58), show (58 : Nat) - 58 = 0 from rfl, h3.1]
      show 58 + (r - 58) = r
      omega
  have hRB : RB σ2 14 := by
    refine ⟨Or.inl rfl, by omega, fun o k r z => ?_⟩
    obtain ⟨h1, h2⟩ := skr_in z
    have h3 := skr_ok ⟨o, h1⟩ ⟨k, h2⟩
    simp only [z, beq_iff_eq] at h3
    rw [lo1 (14 + o) k (13 + r) (by omega) (by omega) (by rw [show 14 + o - 1 = 13 + o by omega]; exact h3)]
    omega
  have h55 : sR σ2 5 5 = 14 := lo1 5 5 13 (by omega) (by omega) (by decide +kernel)
  have h4 : ∀ i, i < 4 → sR σ2 4 i = 0 := fun i hi => by
    rw [lo 4 i (by omega), r1, a1, if_pos (by omega), if_pos (by omega)]
    have : lkp nw1 (4 - 1) i = none := by
      rcases (show i = 0 ∨ i = 1 ∨ i = 2 ∨ i = 3 by omega) with rfl | rfl | rfl | rfl <;> decide +kernel
    rw [this]; rfl
  refine ⟨lx0, ⟨hSK, ⟨0, by omega⟩, ⟨z2 2 1, by show 0 ≤ 3000; omega, fun i hi => absurd hi (Nat.not_lt_zero i)⟩, z2 1 5, ⟨14, h55, hRB, fun i _ y z => (by cases z)⟩, fun i hi => ⟨fun _ => h4 i hi, fun b q ws z => (by cases z)⟩, fun i j _ _ _ y z e => (by cases e), fun k _ => z2 47 k, ⟨fun i _ => z2 48 i, fun i _ => z2 50 i, fun i _ => z2 51 i, fun i _ => z2 53 i, fun i _ => z2 54 i, fun i _ => z2 52 i, z2 46 9, z2 46 11⟩, z2 46 7, z2 46 8, z2 46 10⟩, ⟨⟨z2 58 1, by show 0 ≤ 3000; omega, fun i hi => absurd hi (Nat.not_lt_zero i)⟩, z2 58 34, fun i _ => ⟨fun _ => z2 60 i, fun b q ws z => (by cases z)⟩, fun k _ => z2 89 k, ⟨fun i _ => z2 90 i, fun a _ i _ => z2 91 _, fun i _ => z2 93 i, fun i a _ => absurd a (Nat.not_lt_zero i), z2 58 53, z2 58 55⟩, z2 58 51, z2 58 52, z2 58 54⟩, ⟨by show 0 < 100000; omega, fun i _ b q ws z => (by cases z)⟩⟩
section LST
variable {g : GG} {nm : String} {L : Nat} {xs : Nat → Int32} {Z : List Frame → Array Value → State → State → Prop}
set_option maxRecDepth 100000 in
theorem lw_from0 (hL : L ≤ 3072) (hE : ∀ (ls : List (Nat × Value)) (σ : HS) (cl sl : Nat), cl ≤ 600000 → sl ≤ 7302250 → WA g (mLw nm) 15 600000 7302250 (ZX g L xs Z) cl sl 946 ls [.int (nI 1)] σ) : WA g (mLw nm) 15 600000 7302250 (ZX g L xs Z) 0 0 0 [(0, .float 0)] [] hs0 := by
  refine q_newN (ci := 8) (n := 6) (h := 1) dL_law_0 (by decide) rfl nL_7 is8 iz8 rfl rfl (by omega) (by omega) ?_
  refine q_dup dL_law_3 rfl ?_
  refine q_callI (As := []) (rest := [.ref 1]) dL_law_4 vL_9 (by omega) (zi_LateAndEarly rfl) rfl rfl (Nat.le_of_ble_eq_true rfl) (by omega) (by omega) (by omega) ?_
  rintro r1 σ1 ⟨rfl, w1⟩
  have a1 : sN (nH hs0) = 1 := rfl
  have a2 : sN σ1 = 57 := by have := w1.1; omega
  refine q_astore_n dL_law_7 rfl rfl (show 1 < 4 by decide) (ls' := [(1, .ref 1), (0, .float 0)]) rfl ?_
  refine q_newN (ci := 9) (n := 62) (h := 58) dL_law_8 (by decide) rfl nL_10 is9 iz9 (by omega) rfl (by omega) (by omega) ?_
  refine q_dup dL_law_11 rfl ?_
  have a3 : sN (nH σ1) = 58 := by show sN σ1 + 1 = 58; omega
  refine q_callI (As := []) (rest := [.ref 58]) dL_law_12 vL_12 (by omega) (zi_Model a3 ⟨fun i => by show (if 58 = sN σ1 + 1 then 0 else sI σ1 58 i) = 0; rw [if_pos (by omega)], fun i => by show (if 58 = sN σ1 + 1 then 0 else sL σ1 58 i) = 0; rw [if_pos (by omega)]⟩) rfl rfl (Nat.le_of_ble_eq_true rfl) (by omega) (by omega) (by omega) ?_
  rintro r2 σ2 ⟨rfl, w2⟩
  refine q_astore_n dL_law_15 rfl rfl (show 2 < 4 by decide) (ls' := [(2, .ref 58), (1, .ref 1), (0, .float 0)]) rfl ?_
  refine q_iconst (v := nI 0) dL_law_16 rfl ?_
  refine q_istore_n dL_law_17 rfl (show 3 < 4 by decide) (ls' := [(3, .int (nI 0)), (2, .ref 58), (1, .ref 1), (0, .float 0)]) rfl ?_
  exact lw_loop hL hE 512 0 _ _ σ2 (by omega) (by omega) (by omega) (by omega) (law_0 w1 w2)
end LST
