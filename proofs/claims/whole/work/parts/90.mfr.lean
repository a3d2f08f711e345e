/-! What the model's parser may change; its questions to the word. -/
/-- only places of P change -/
def FR9 (P : Nat → Nat → Prop) (σ σ' : HS) : Prop := sR σ' = sR σ ∧ sN σ' = sN σ ∧ (∀ h, h ≠ 58 → sL σ' h = sL σ h) ∧ ∀ h i, ¬ P h i → sI σ' h i = sI σ h i
theorem FR9.rf {P : Nat → Nat → Prop} {σ : HS} : FR9 P σ σ := ⟨rfl, rfl, fun _ _ => rfl, fun _ _ _ => rfl⟩
theorem FR9.tr {P : Nat → Nat → Prop} {σ σ' σ'' : HS} (k : FR9 P σ σ') (k2 : FR9 P σ' σ'') : FR9 P σ σ'' := ⟨k2.1.trans k.1, k2.2.1.trans k.2.1, fun h hh => (k2.2.2.1 h hh).trans (k.2.2.1 h hh), fun h i hh => (k2.2.2.2 h i hh).trans (k.2.2.2 h i hh)⟩
theorem FR9.mono {P Q : Nat → Nat → Prop} {σ σ' : HS} (k : FR9 P σ σ') (h : ∀ a i, P a i → Q a i) : FR9 Q σ σ' := ⟨k.1, k.2.1, k.2.2.1, fun a i hh => k.2.2.2 a i fun z => hh (h a i z)⟩
theorem sI_ne {σ : HS} {h i a j : Nat} {v : Int32} (hh : ¬ (a = h ∧ j = i)) : sI (uI σ h i v) a j = sI σ a j := by rw [sI_uI, if_neg hh]
theorem FR9.uI {P : Nat → Nat → Prop} {σ σ' : HS} {h i : Nat} {v : Int32} (k : FR9 P σ σ') (hh : P h i) : FR9 P σ (uI σ' h i v) := ⟨k.1, k.2.1, k.2.2.1, fun a j hj => (sI_ne fun z => hj (by rw [z.1, z.2]; exact hh)).trans (k.2.2.2 a j hj)⟩
theorem SK.fq {P : Nat → Nat → Prop} {σ σ' : HS} (h : FR9 P σ σ') (k : SK σ) : SK σ' := ⟨by rw [h.2.1]; exact k.1, fun a c r q => by rw [h.1]; exact k.2 a c r q⟩
/-- the words' fields, the fault, an operand -/
def lxb (h i : Nat) : Prop := h = 58 ∧ ((2 ≤ i ∧ i ≤ 6) ∨ i = 32 ∨ i = 33 ∨ i = 35 ∨ i = 36)
/-- and the names of blocks -/
def blq (h i : Nat) : Prop := lxb h i ∨ (h = 58 ∧ i = 41) ∨ h = 84 ∨ h = 85
/-- and NODE n -/
def ndq (n h i : Nat) : Prop := blq h i ∨ (67 ≤ h ∧ h ≤ 77 ∧ i = n)
/-- and the SUMS of what is new -/
def smq (n h i : Nat) : Prop := ndq n h i ∨ (h = 58 ∧ i = 38) ∨ (h = 64 ∧ i = 4) ∨ (78 ≤ h ∧ h ≤ 82 ∧ 128 ≤ i)
/-- all that is new -/
def nwr (h i : Nat) : Prop := (h = 58 ∧ ((2 ≤ i ∧ i ≤ 6) ∨ i = 32 ∨ i = 33 ∨ (35 ≤ i ∧ i ≤ 38) ∨ i = 41)) ∨ (61 ≤ h ∧ h ≤ 64 ∧ i = 4) ∨ ((h = 65 ∨ h = 66) ∧ 164 ≤ i) ∨ (67 ≤ h ∧ h ≤ 77 ∧ 960 ≤ i) ∨ (78 ≤ h ∧ h ≤ 82 ∧ 128 ≤ i) ∨ (h = 83 ∧ 30720 ≤ i) ∨ (84 ≤ h ∧ h ≤ 87)
theorem lxb_no {h i : Nat} (H : h ≠ 58 ∨ i < 2 ∨ (7 ≤ i ∧ i < 32) ∨ i = 34 ∨ 37 ≤ i) : ¬ lxb h i := by unfold lxb; omega
theorem lxb_58 {i : Nat} : lxb 58 i ↔ ((2 ≤ i ∧ i ≤ 6) ∨ i = 32 ∨ i = 33 ∨ i = 35 ∨ i = 36) := ⟨fun h => h.2, fun h => ⟨rfl, h⟩⟩
theorem blq_no {h i : Nat} (H : (h ≠ 58 ∧ h ≠ 84 ∧ h ≠ 85) ∨ (h = 58 ∧ (i < 2 ∨ (7 ≤ i ∧ i < 32) ∨ i = 34 ∨ (37 ≤ i ∧ i ≠ 41)))) : ¬ blq h i := by unfold blq lxb; omega
theorem LX9.lb {σ σ' : HS} (k : LX9 σ σ') : FR9 lxb σ σ' := ⟨k.1, k.2.1, k.2.2.1, fun h i hh => by
  by_cases e : h = 58
  · subst e; rw [lxb_58] at hh; exact k.2.2.2.2 i (by omega)
  · rw [k.2.2.2.1 h e]⟩
theorem MTX.fq {P : Nat → Nat → Prop} {σ σ' : HS} {L : Nat} {T : Nat → Nat} (h : FR9 P σ σ') (h1 : ¬ P 58 1) (h2 : ∀ i, ¬ P 59 i) (k : MTX σ L T) : MTX σ' L T := ⟨(h.2.2.2 58 1 h1).trans k.1, k.2.1, fun i hi => by rw [h.2.2.2 59 i (h2 i)]; exact k.2.2 i hi⟩
theorem blq.lb {h i : Nat} (k : lxb h i) : blq h i := Or.inl k
theorem ndq.bl {n h i : Nat} (k : blq h i) : ndq n h i := Or.inl k
theorem ndq.lb {n h i : Nat} (k : lxb h i) : ndq n h i := Or.inl (Or.inl k)
theorem smq.nd {n h i : Nat} (k : ndq n h i) : smq n h i := Or.inl k
theorem nwr.sm {n h i : Nat} (hn : 960 ≤ n) (k : smq n h i) : nwr h i := by
  unfold smq ndq blq lxb at k; unfold nwr; omega
theorem MTX.lb {σ σ' : HS} {L : Nat} {T : Nat → Nat} (h : FR9 lxb σ σ') (k : MTX σ L T) : MTX σ' L T := k.fq h (by unfold lxb; omega) (fun i => by unfold lxb; omega)
theorem MTX.bl {σ σ' : HS} {L : Nat} {T : Nat → Nat} (h : FR9 blq σ σ') (k : MTX σ L T) : MTX σ' L T := k.fq h (by unfold blq lxb; omega) (fun i => by unfold blq lxb; omega)
theorem MTX.nd {σ σ' : HS} {L n : Nat} {T : Nat → Nat} (h : FR9 (ndq n) σ σ') (k : MTX σ L T) : MTX σ' L T := k.fq h (by unfold ndq blq lxb; omega) (fun i => by unfold ndq blq lxb; omega)
theorem MTX.sm {σ σ' : HS} {L n : Nat} {T : Nat → Nat} (h : FR9 (smq n) σ σ') (k : MTX σ L T) : MTX σ' L T := k.fq h (by unfold smq ndq blq lxb; omega) (fun i => by unfold smq ndq blq lxb; omega)
theorem MTX.nw {σ σ' : HS} {L : Nat} {T : Nat → Nat} (h : FR9 nwr σ σ') (k : MTX σ L T) : MTX σ' L T := k.fq h (by unfold nwr; omega) (fun i => by unfold nwr; omega)
/-! the questions -/
theorem wdr_k {κ v : Nat} {l : Int64} {d : Int32} (h : WDr κ v l d) : κ = 3 ∨ κ = 4 ∨ κ = 5 ∨ κ = 8 ∨ κ = 2 := by
  rcases h with h | h | h | h | h | h <;> omega
theorem tkd_1 {κ v : Nat} {s val : Int32} {l : Int64} {d : Int32} (h : TKD κ v s val l d) : s = nI 4 ↔ κ = 1 := by
  rcases h with ⟨rfl, rfl⟩ | ⟨rfl, rfl⟩ | ⟨rfl, rfl, _⟩ | ⟨rfl, rfl, _⟩ | ⟨rfl, hW⟩
  · exact ⟨fun z => absurd z (by decide), fun z => absurd z (by decide)⟩
  · exact ⟨fun _ => rfl, fun _ => rfl⟩
  · exact ⟨fun z => absurd z (by decide), fun z => absurd z (by decide)⟩
  · exact ⟨fun z => absurd z (by decide), fun z => absurd z (by decide)⟩
  · exact ⟨fun z => absurd z (by decide), fun z => by have := wdr_k hW; omega⟩
theorem tkd_0 {κ v : Nat} {s val : Int32} {l : Int64} {d : Int32} (h : TKD κ v s val l d) : s = nI 0 ↔ κ = 0 := by
  rcases h with ⟨rfl, rfl⟩ | ⟨rfl, rfl⟩ | ⟨rfl, rfl, _⟩ | ⟨rfl, rfl, _⟩ | ⟨rfl, hW⟩
  · exact ⟨fun _ => rfl, fun _ => rfl⟩
  · exact ⟨fun z => absurd z (by decide), fun z => absurd z (by decide)⟩
  · exact ⟨fun z => absurd z (by decide), fun z => absurd z (by decide)⟩
  · exact ⟨fun z => absurd z (by decide), fun z => absurd z (by decide)⟩
  · exact ⟨fun z => absurd z (by decide), fun z => by have := wdr_k hW; omega⟩
theorem tkd_6 {κ v : Nat} {s val : Int32} {l : Int64} {d : Int32} (h : TKD κ v s val l d) : (s = nI 2 ↔ κ = 6) ∧ (κ = 6 → val = nI v) := by
  rcases h with ⟨rfl, rfl⟩ | ⟨rfl, rfl⟩ | ⟨rfl, rfl, h⟩ | ⟨rfl, rfl, _⟩ | ⟨rfl, hW⟩
  · exact ⟨⟨fun z => absurd z (by decide), fun z => absurd z (by decide)⟩, fun z => absurd z (by decide)⟩
  · exact ⟨⟨fun z => absurd z (by decide), fun z => absurd z (by decide)⟩, fun z => absurd z (by decide)⟩
  · exact ⟨⟨fun _ => rfl, fun _ => rfl⟩, fun _ => h⟩
  · exact ⟨⟨fun z => absurd z (by decide), fun z => absurd z (by decide)⟩, fun z => absurd z (by decide)⟩
  · have := wdr_k hW
    exact ⟨⟨fun z => absurd z (by decide), fun z => by omega⟩, fun z => by omega⟩
theorem tkd_7 {κ v : Nat} {s val : Int32} {l : Int64} {d : Int32} (h : TKD κ v s val l d) : (s = nI 3 ↔ κ = 7) ∧ (κ = 7 → val = nI v) := by
  rcases h with ⟨rfl, rfl⟩ | ⟨rfl, rfl⟩ | ⟨rfl, rfl, _⟩ | ⟨rfl, rfl, h⟩ | ⟨rfl, hW⟩
  · exact ⟨⟨fun z => absurd z (by decide), fun z => absurd z (by decide)⟩, fun z => absurd z (by decide)⟩
  · exact ⟨⟨fun z => absurd z (by decide), fun z => absurd z (by decide)⟩, fun z => absurd z (by decide)⟩
  · exact ⟨⟨fun z => absurd z (by decide), fun z => absurd z (by decide)⟩, fun z => absurd z (by decide)⟩
  · exact ⟨⟨fun _ => rfl, fun _ => rfl⟩, fun _ => h⟩
  · have := wdr_k hW
    exact ⟨⟨fun z => absurd z (by decide), fun z => by omega⟩, fun z => by omega⟩
theorem tkd_sg {κ v c : Nat} {s val : Int32} {l : Int64} {d : Int32} (h : TKD κ v s val l d) (hv : v < 1000000000) (hc : c < 1000) : (s = nI 3 ∧ val = nI c) ↔ (κ = 7 ∧ v = c) := by
  obtain ⟨h1, h2⟩ := tkd_7 h
  constructor
  · rintro ⟨a, b⟩
    have := h1.mp a
    exact ⟨this, nI_inj (by omega) (by omega) ((h2 this).symm.trans b)⟩
  · rintro ⟨a, b⟩
    exact ⟨h1.mpr a, by rw [h2 a, b]⟩
/-- the answer of numbered -/
def nmb (s : Int32) (l : Int64) (d : Int32) (c m : Nat) : Int32 := if s = nI 1 ∧ l = (nI c).toInt64 ∧ ¬ d < 0 ∧ d ≤ nI m then d else -1
theorem i2l_c {c : Nat} (h : c < 128) : (nI c).toInt64 = lN c := by
  have : ∀ c : Fin 128, (nI c.val).toInt64 = lN c.val := by decide +kernel
  exact this ⟨_, h⟩
theorem nmb_s {s : Int32} {l : Int64} {d : Int32} {c m : Nat} (h : s ≠ nI 1) : nmb s l d c m = -1 := if_neg fun z => h z.1
theorem nmb_y {l : Int64} {c m v : Nat} (h : l = lN c) (hc : c < 128) (hv : v ≤ m) (hm : m < 1000) : nmb (nI 1) l (nI v) c m = nI v := if_pos ⟨rfl, by rw [i2l_c hc]; exact h, nI_pos (by omega), (nI_leI (by omega) (by omega)).mpr hv⟩
theorem nmb_v {l : Int64} {c m v : Nat} (hv : m < v) (hm : v < 1000) : nmb (nI 1) l (nI v) c m = -1 := if_neg fun z => by have := (nI_leI (by omega) (by omega)).mp z.2.2.2; omega
theorem nmb_l {c c' m : Nat} {d : Int32} (h : c' ≠ c) (hc : c < 128) (hc' : c' < 128) : nmb (nI 1) (lN c') d c m = -1 := if_neg fun z => by
  rw [i2l_c hc] at z
  exact h ((lN_eq (by omega) (by omega)).mp z.2.1)
theorem nmb_d {l : Int64} {c m : Nat} : nmb (nI 1) l (-1) c m = -1 := if_neg fun z => z.2.2.1 (by decide)
theorem nmb_n {l : Int64} {d : Int32} {c m : Nat} (hc : c < 128) (h : ¬ (l = lN c ∧ ¬ d < 0 ∧ d ≤ nI m)) : nmb (nI 1) l d c m = -1 := if_neg fun z => h ⟨by rw [← i2l_c hc]; exact z.2.1, z.2.2⟩
theorem tkd_v {κ v : Nat} {s val : Int32} {l : Int64} {d : Int32} (h : TKD κ v s val l d) : nmb s l d 118 15 = if κ = 3 ∧ v < 16 then nI v else -1 := by
  rcases h with ⟨rfl, rfl⟩ | ⟨rfl, rfl⟩ | ⟨rfl, rfl, _⟩ | ⟨rfl, rfl, _⟩ | ⟨rfl, hW⟩
  · rw [if_neg (by omega)]; exact nmb_s (by decide)
  · rw [if_neg (by omega)]; exact nmb_s (by decide)
  · rw [if_neg (by omega)]; exact nmb_s (by decide)
  · rw [if_neg (by omega)]; exact nmb_s (by decide)
  · rcases hW with ⟨rfl, h1, rfl, rfl⟩ | ⟨rfl, h1, h2, rfl, rfl⟩ | ⟨rfl, h1, rfl, rfl⟩ | ⟨rfl, h1, rfl, rfl⟩ | ⟨rfl, rfl, _⟩ | ⟨rfl, n1, n2, n3, n4, n5⟩
    · rw [if_pos ⟨rfl, h1⟩]; exact nmb_y rfl (by omega) (by omega) (by omega)
    · rw [if_neg (by omega)]; exact nmb_l (by omega) (by omega) (by omega)
    · rw [if_neg (by omega)]; exact nmb_l (by omega) (by omega) (by omega)
    · rw [if_neg (by omega)]; exact nmb_l (by omega) (by omega) (by omega)
    · rw [if_neg (by omega)]; exact nmb_d
    · rw [if_neg (by omega)]; exact nmb_n (by omega) n1
theorem tkd_t {κ v : Nat} {s val : Int32} {l : Int64} {d : Int32} (h : TKD κ v s val l d) : nmb s l d 116 31 = if κ = 3 ∧ 16 ≤ v then nI (v - 16) else -1 := by
  rcases h with ⟨rfl, rfl⟩ | ⟨rfl, rfl⟩ | ⟨rfl, rfl, _⟩ | ⟨rfl, rfl, _⟩ | ⟨rfl, hW⟩
  · rw [if_neg (by omega)]; exact nmb_s (by decide)
  · rw [if_neg (by omega)]; exact nmb_s (by decide)
  · rw [if_neg (by omega)]; exact nmb_s (by decide)
  · rw [if_neg (by omega)]; exact nmb_s (by decide)
  · rcases hW with ⟨rfl, h1, rfl, rfl⟩ | ⟨rfl, h1, h2, rfl, rfl⟩ | ⟨rfl, h1, rfl, rfl⟩ | ⟨rfl, h1, rfl, rfl⟩ | ⟨rfl, rfl, _⟩ | ⟨rfl, n1, n2, n3, n4, n5⟩
    · rw [if_neg (by omega)]; exact nmb_l (by omega) (by omega) (by omega)
    · rw [if_pos ⟨rfl, h1⟩]; exact nmb_y rfl (by omega) (by omega) (by omega)
    · rw [if_neg (by omega)]; exact nmb_l (by omega) (by omega) (by omega)
    · rw [if_neg (by omega)]; exact nmb_l (by omega) (by omega) (by omega)
    · rw [if_neg (by omega)]; exact nmb_d
    · rw [if_neg (by omega)]; exact nmb_n (by omega) n2
theorem tkd_r {κ v : Nat} {s val : Int32} {l : Int64} {d : Int32} (h : TKD κ v s val l d) : nmb s l d 114 1 = if κ = 4 then nI v else -1 := by
  rcases h with ⟨rfl, rfl⟩ | ⟨rfl, rfl⟩ | ⟨rfl, rfl, _⟩ | ⟨rfl, rfl, _⟩ | ⟨rfl, hW⟩
  · rw [if_neg (by omega)]; exact nmb_s (by decide)
  · rw [if_neg (by omega)]; exact nmb_s (by decide)
  · rw [if_neg (by omega)]; exact nmb_s (by decide)
  · rw [if_neg (by omega)]; exact nmb_s (by decide)
  · rcases hW with ⟨rfl, h1, rfl, rfl⟩ | ⟨rfl, h1, h2, rfl, rfl⟩ | ⟨rfl, h1, rfl, rfl⟩ | ⟨rfl, h1, rfl, rfl⟩ | ⟨rfl, rfl, _⟩ | ⟨rfl, n1, n2, n3, n4, n5⟩
    · rw [if_neg (by omega)]; exact nmb_l (by omega) (by omega) (by omega)
    · rw [if_neg (by omega)]; exact nmb_l (by omega) (by omega) (by omega)
    · rw [if_pos rfl]; exact nmb_y rfl (by omega) (by omega) (by omega)
    · rw [if_neg (by omega)]; exact nmb_l (by omega) (by omega) (by omega)
    · rw [if_neg (by omega)]; exact nmb_d
    · rw [if_neg (by omega)]; exact nmb_n (by omega) n3
theorem tkd_b {κ v : Nat} {s val : Int32} {l : Int64} {d : Int32} (h : TKD κ v s val l d) : nmb s l d 98 39 = if κ = 5 then nI v else -1 := by
  rcases h with ⟨rfl, rfl⟩ | ⟨rfl, rfl⟩ | ⟨rfl, rfl, _⟩ | ⟨rfl, rfl, _⟩ | ⟨rfl, hW⟩
  · rw [if_neg (by omega)]; exact nmb_s (by decide)
  · rw [if_neg (by omega)]; exact nmb_s (by decide)
  · rw [if_neg (by omega)]; exact nmb_s (by decide)
  · rw [if_neg (by omega)]; exact nmb_s (by decide)
  · rcases hW with ⟨rfl, h1, rfl, rfl⟩ | ⟨rfl, h1, h2, rfl, rfl⟩ | ⟨rfl, h1, rfl, rfl⟩ | ⟨rfl, h1, rfl, rfl⟩ | ⟨rfl, rfl, _⟩ | ⟨rfl, n1, n2, n3, n4, n5⟩
    · rw [if_neg (by omega)]; exact nmb_l (by omega) (by omega) (by omega)
    · rw [if_neg (by omega)]; exact nmb_l (by omega) (by omega) (by omega)
    · rw [if_neg (by omega)]; exact nmb_l (by omega) (by omega) (by omega)
    · rw [if_pos rfl]; exact nmb_y rfl (by omega) (by omega) (by omega)
    · rw [if_neg (by omega)]; exact nmb_d
    · rw [if_neg (by omega)]; exact nmb_n (by omega) n4
/-- which words are these -/
def wOf (j : Nat) : Int64 := if j = 3 then wTell else if j = 4 then wGo else if j = 5 then wIf else wLeave
theorem wOf_i {i j : Nat} (hi : 3 ≤ i ∧ i ≤ 6) (hj : 3 ≤ j ∧ j ≤ 6) (h : wOf i = wOf j) : i = j := by
  rcases (show i = 3 ∨ i = 4 ∨ i = 5 ∨ i = 6 by omega) with rfl | rfl | rfl | rfl <;> rcases (show j = 3 ∨ j = 4 ∨ j = 5 ∨ j = 6 by omega) with rfl | rfl | rfl | rfl <;> first | rfl | exact absurd h (by decide)
theorem tkd_w {κ v j : Nat} {s val : Int32} {l : Int64} {d : Int32} (h : TKD κ v s val l d) (hj : 3 ≤ j ∧ j ≤ 6) : (s = nI 1 ∧ l = wOf j ∧ d = -1) ↔ (κ = 8 ∧ v = j) := by
  rcases h with ⟨rfl, rfl⟩ | ⟨rfl, rfl⟩ | ⟨rfl, rfl, _⟩ | ⟨rfl, rfl, _⟩ | ⟨rfl, hW⟩
  · exact ⟨fun z => absurd z.1 (by decide), fun z => by omega⟩
  · exact ⟨fun z => absurd z.1 (by decide), fun z => by omega⟩
  · exact ⟨fun z => absurd z.1 (by decide), fun z => by omega⟩
  · exact ⟨fun z => absurd z.1 (by decide), fun z => by omega⟩
  · rcases hW with ⟨rfl, h1, rfl, rfl⟩ | ⟨rfl, h1, h2, rfl, rfl⟩ | ⟨rfl, h1, rfl, rfl⟩ | ⟨rfl, h1, rfl, rfl⟩ | ⟨rfl, rfl, h1⟩ | ⟨rfl, n1, n2, n3, n4, n5⟩
    · exact ⟨fun z => absurd z.2.2 (nI_ne_m1 (by omega)), fun z => by omega⟩
    · exact ⟨fun z => absurd z.2.2 (nI_ne_m1 (by omega)), fun z => by omega⟩
    · exact ⟨fun z => absurd z.2.2 (nI_ne_m1 (by omega)), fun z => by omega⟩
    · exact ⟨fun z => absurd z.2.2 (nI_ne_m1 (by omega)), fun z => by omega⟩
    · have hv : 3 ≤ v ∧ v ≤ 6 ∧ l = wOf v := by
        rcases h1 with ⟨rfl, h⟩ | ⟨rfl, h⟩ | ⟨rfl, h⟩ | ⟨rfl, h⟩
        · exact ⟨by omega, by omega, h⟩
        · exact ⟨by omega, by omega, h⟩
        · exact ⟨by omega, by omega, h⟩
        · exact ⟨by omega, by omega, h⟩
      constructor
      · intro z; exact ⟨rfl, wOf_i ⟨hv.1, hv.2.1⟩ hj (hv.2.2.symm.trans z.2.1)⟩
      · rintro ⟨_, rfl⟩; exact ⟨rfl, hv.2.2, rfl⟩
    · refine ⟨fun z => absurd ⟨z.2.2, ?_⟩ n5, fun z => by omega⟩
      rcases (show j = 3 ∨ j = 4 ∨ j = 5 ∨ j = 6 by omega) with rfl | rfl | rfl | rfl
      · exact Or.inl z.2.1
      · exact Or.inr (Or.inl z.2.1)
      · exact Or.inr (Or.inr (Or.inl z.2.1))
      · exact Or.inr (Or.inr (Or.inr z.2.1))
section MQU
variable {g : GG} {σ : HS} {T : Nat → Nat} {L k : Nat}
theorem z9_isSign (hS : SK σ) (hT : ∀ i, i < L → T i < 256) (hM : MTk σ T L k) {c : Nat} (hc : c < 1000) : CT g mX9_isSign 0 0 0 [.ref 58, .int (nI c)] σ (PQ σ (.int (bi (decide (tk T L k = 7 ∧ tv T L k = c))))) := by
  have h := tkd_sg hM.2.2 (tv_b hT) hc
  refine CT.of (by decide) (Nat.le_of_ble_eq_true rfl) ?_
  refine q_aload_n dX9_isSign_0 rfl rfl rfl ?_
  refine q_geti (x := sI σ 58 2) dX9_isSign_1 fX9_17 rfl (ty_c hS (by decide) rfl) rfl ?_
  refine q_iconst (v := nI 3) dX9_isSign_4 rfl ?_
  refine q_icmp_ne (tgt := 20) dX9_isSign_5 (by decide) (fun c5 => ?_) (fun c5 => ?_)
  · skip
    refine q_iconst (v := nI 0) dX9_isSign_20 rfl ?_
    refine q_ireturn dX9_isSign_21 rfl rfl (by omega) (by omega) ?_
    first | exact fin_t (decide_eq_true (h.mp ⟨c5, c13⟩)) | exact fin_f (decide_eq_false fun z => c13 (h.mpr z).2) | exact fin_f (decide_eq_false fun z => c5 (h.mpr z).1)
  · skip
    refine q_aload_n dX9_isSign_8 rfl rfl rfl ?_
    refine q_geti (x := sI σ 58 6) dX9_isSign_9 fX9_29 rfl (ty_c hS (by decide) rfl) rfl ?_
    refine q_iload_n dX9_isSign_12 rfl rfl ?_
    refine q_icmp_ne (tgt := 20) dX9_isSign_13 (by decide) (fun c13 => ?_) (fun c13 => ?_)
    · skip
      refine q_iconst (v := nI 0) dX9_isSign_20 rfl ?_
      refine q_ireturn dX9_isSign_21 rfl rfl (by omega) (by omega) ?_
      first | exact fin_t (decide_eq_true (h.mp ⟨c5, c13⟩)) | exact fin_f (decide_eq_false fun z => c13 (h.mpr z).2) | exact fin_f (decide_eq_false fun z => c5 (h.mpr z).1)
    · skip
      refine q_iconst (v := nI 1) dX9_isSign_16 rfl ?_
      refine q_goto (tgt := 21) dX9_isSign_17 (by decide) ?_
      refine q_ireturn dX9_isSign_21 rfl rfl (by omega) (by omega) ?_
      first | exact fin_t (decide_eq_true (h.mp ⟨c5, c13⟩)) | exact fin_f (decide_eq_false fun z => c13 (h.mpr z).2) | exact fin_f (decide_eq_false fun z => c5 (h.mpr z).1)
theorem z9_isWord (hS : SK σ) (hM : MTk σ T L k) {j : Nat} (hj : 3 ≤ j ∧ j ≤ 6) : CT g mX9_isWord 0 0 0 [.ref 58, .long (wOf j)] σ (PQ σ (.int (bi (decide (tk T L k = 8 ∧ tv T L k = j))))) := by
  have h := tkd_w hM.2.2 hj
  refine CT.of (by decide) (Nat.le_of_ble_eq_true rfl) ?_
  refine q_aload_n dX9_isWord_0 rfl rfl rfl ?_
  refine q_geti (x := sI σ 58 2) dX9_isWord_1 fX9_17 rfl (ty_c hS (by decide) rfl) rfl ?_
  refine q_iconst (v := nI 1) dX9_isWord_4 rfl ?_
  refine q_icmp_ne (tgt := 29) dX9_isWord_5 (by decide) (fun c5 => ?_) (fun c5 => ?_)
  · skip
    refine q_iconst (v := nI 0) dX9_isWord_29 rfl ?_
    refine q_ireturn dX9_isWord_30 rfl rfl (by omega) (by omega) ?_
    first | exact fin_t (decide_eq_true (h.mp ⟨c5, (lg_cmp_eq _ _).mp c14, c22⟩)) | exact fin_f (decide_eq_false fun z => c22 (h.mpr z).2.2) | exact fin_f (decide_eq_false fun z => c14 ((lg_cmp_eq _ _).mpr (h.mpr z).2.1)) | exact fin_f (decide_eq_false fun z => c5 (h.mpr z).1)
  · skip
    refine q_aload_n dX9_isWord_8 rfl rfl rfl ?_
    refine q_getl (x := sL σ 58 7) dX9_isWord_9 fX9_32 rfl (ty_c hS (by decide) rfl) rfl ?_
    refine q_lload_n dX9_isWord_12 rfl rfl ?_
    refine q_lcmp dX9_isWord_13 ?_
    refine q_if_ne (tgt := 29) dX9_isWord_14 (by decide) (fun c14 => ?_) (fun c14 => ?_)
    · skip
      refine q_iconst (v := nI 0) dX9_isWord_29 rfl ?_
      refine q_ireturn dX9_isWord_30 rfl rfl (by omega) (by omega) ?_
      first | exact fin_t (decide_eq_true (h.mp ⟨c5, (lg_cmp_eq _ _).mp c14, c22⟩)) | exact fin_f (decide_eq_false fun z => c22 (h.mpr z).2.2) | exact fin_f (decide_eq_false fun z => c14 ((lg_cmp_eq _ _).mpr (h.mpr z).2.1)) | exact fin_f (decide_eq_false fun z => c5 (h.mpr z).1)
    · skip
      refine q_aload_n dX9_isWord_17 rfl rfl rfl ?_
      refine q_geti (x := sI σ 58 5) dX9_isWord_18 fX9_26 rfl (ty_c hS (by decide) rfl) rfl ?_
      refine q_iconst (v := (-1 : Int32)) dX9_isWord_21 rfl ?_
      refine q_icmp_ne (tgt := 29) dX9_isWord_22 (by decide) (fun c22 => ?_) (fun c22 => ?_)
      · skip
        refine q_iconst (v := nI 0) dX9_isWord_29 rfl ?_
        refine q_ireturn dX9_isWord_30 rfl rfl (by omega) (by omega) ?_
        first | exact fin_t (decide_eq_true (h.mp ⟨c5, (lg_cmp_eq _ _).mp c14, c22⟩)) | exact fin_f (decide_eq_false fun z => c22 (h.mpr z).2.2) | exact fin_f (decide_eq_false fun z => c14 ((lg_cmp_eq _ _).mpr (h.mpr z).2.1)) | exact fin_f (decide_eq_false fun z => c5 (h.mpr z).1)
      · skip
        refine q_iconst (v := nI 1) dX9_isWord_25 rfl ?_
        refine q_goto (tgt := 30) dX9_isWord_26 (by decide) ?_
        refine q_ireturn dX9_isWord_30 rfl rfl (by omega) (by omega) ?_
        first | exact fin_t (decide_eq_true (h.mp ⟨c5, (lg_cmp_eq _ _).mp c14, c22⟩)) | exact fin_f (decide_eq_false fun z => c22 (h.mpr z).2.2) | exact fin_f (decide_eq_false fun z => c14 ((lg_cmp_eq _ _).mpr (h.mpr z).2.1)) | exact fin_f (decide_eq_false fun z => c5 (h.mpr z).1)
theorem z9_numbered (hS : SK σ) {c m : Nat} : CT g mX9_numbered 0 0 0 [.ref 58, .int (nI c), .int (nI m)] σ (PQ σ (.int (nmb (sI σ 58 2) (sL σ 58 7) (sI σ 58 5) c m))) := by
  refine CT.of (by decide) (Nat.le_of_ble_eq_true rfl) ?_
  refine q_aload_n dX9_numbered_0 rfl rfl rfl ?_
  refine q_geti (x := sI σ 58 2) dX9_numbered_1 fX9_17 rfl (ty_c hS (by decide) rfl) rfl ?_
  refine q_iconst (v := nI 1) dX9_numbered_4 rfl ?_
  refine q_icmp_ne (tgt := 40) dX9_numbered_5 (by decide) (fun c5 => ?_) (fun c5 => ?_)
  · have e : nmb (sI σ 58 2) (sL σ 58 7) (sI σ 58 5) c m = -1 := if_neg fun z => c5 z.1
    refine q_iconst (v := (-1 : Int32)) dX9_numbered_40 rfl ?_
    refine q_ireturn dX9_numbered_41 rfl rfl (by omega) (by omega) ?_
    rw [e]; exact ⟨rfl, rfl⟩
  · skip
    refine q_aload_n dX9_numbered_8 rfl rfl rfl ?_
    refine q_getl (x := sL σ 58 7) dX9_numbered_9 fX9_32 rfl (ty_c hS (by decide) rfl) rfl ?_
    refine q_iload_n dX9_numbered_12 rfl rfl ?_
    refine q_i2l (v := (nI c).toInt64) dX9_numbered_13 rfl ?_
    refine q_lcmp dX9_numbered_14 ?_
    refine q_if_ne (tgt := 40) dX9_numbered_15 (by decide) (fun c15 => ?_) (fun c15 => ?_)
    · have e : nmb (sI σ 58 2) (sL σ 58 7) (sI σ 58 5) c m = -1 := if_neg fun z => c15 ((lg_cmp_eq _ _).mpr z.2.1)
      refine q_iconst (v := (-1 : Int32)) dX9_numbered_40 rfl ?_
      refine q_ireturn dX9_numbered_41 rfl rfl (by omega) (by omega) ?_
      rw [e]; exact ⟨rfl, rfl⟩
    · skip
      refine q_aload_n dX9_numbered_18 rfl rfl rfl ?_
      refine q_geti (x := sI σ 58 5) dX9_numbered_19 fX9_26 rfl (ty_c hS (by decide) rfl) rfl ?_
      refine q_if_lt (tgt := 40) dX9_numbered_22 (by decide) (fun c22 => ?_) (fun c22 => ?_)
      · have e : nmb (sI σ 58 2) (sL σ 58 7) (sI σ 58 5) c m = -1 := if_neg fun z => z.2.2.1 c22
        refine q_iconst (v := (-1 : Int32)) dX9_numbered_40 rfl ?_
        refine q_ireturn dX9_numbered_41 rfl rfl (by omega) (by omega) ?_
        rw [e]; exact ⟨rfl, rfl⟩
      · skip
        refine q_aload_n dX9_numbered_25 rfl rfl rfl ?_
        refine q_geti (x := sI σ 58 5) dX9_numbered_26 fX9_26 rfl (ty_c hS (by decide) rfl) rfl ?_
        refine q_iload_n dX9_numbered_29 rfl rfl ?_
        refine q_icmp_gt (tgt := 40) dX9_numbered_30 (by decide) (fun c30 => ?_) (fun c30 => ?_)
        · have e : nmb (sI σ 58 2) (sL σ 58 7) (sI σ 58 5) c m = -1 := if_neg fun z => absurd z.2.2.2 (Int32.not_le.mpr c30)
          refine q_iconst (v := (-1 : Int32)) dX9_numbered_40 rfl ?_
          refine q_ireturn dX9_numbered_41 rfl rfl (by omega) (by omega) ?_
          rw [e]; exact ⟨rfl, rfl⟩
        · have e : nmb (sI σ 58 2) (sL σ 58 7) (sI σ 58 5) c m = sI σ 58 5 := if_pos ⟨c5, (lg_cmp_eq _ _).mp c15, c22, Int32.not_lt.mp c30⟩
          refine q_aload_n dX9_numbered_33 rfl rfl rfl ?_
          refine q_geti (x := sI σ 58 5) dX9_numbered_34 fX9_26 rfl (ty_c hS (by decide) rfl) rfl ?_
          refine q_goto (tgt := 41) dX9_numbered_37 (by decide) ?_
          refine q_ireturn dX9_numbered_41 rfl rfl (by omega) (by omega) ?_
          rw [e]; exact ⟨rfl, rfl⟩
end MQU
