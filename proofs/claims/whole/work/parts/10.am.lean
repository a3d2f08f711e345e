/-! THE HEAP AS NUMBERS: a cell is a handle 1, 2, .. in the order of making; ints, longs and references are three tables. -/
abbrev HS : Type := (Nat → Nat → Int32) × (Nat → Nat → Int64) × (Nat → Nat → Nat) × Nat
def sI (σ : HS) : Nat → Nat → Int32 := σ.1
def sL (σ : HS) : Nat → Nat → Int64 := σ.2.1
def sR (σ : HS) : Nat → Nat → Nat := σ.2.2.1
def sN (σ : HS) : Nat := σ.2.2.2
def uI (σ : HS) (h i : Nat) (v : Int32) : HS := (fun a b => if a = h ∧ b = i then v else sI σ a b, sL σ, sR σ, sN σ)
def uL (σ : HS) (h i : Nat) (v : Int64) : HS := (sI σ, fun a b => if a = h ∧ b = i then v else sL σ a b, sR σ, sN σ)
def uR (σ : HS) (h i : Nat) (v : Nat) : HS := (sI σ, sL σ, fun a b => if a = h ∧ b = i then v else sR σ a b, sN σ)
def nH (σ : HS) : HS := (fun a b => if a = sN σ + 1 then 0 else sI σ a b, fun a b => if a = sN σ + 1 then 0 else sL σ a b, fun a b => if a = sN σ + 1 then 0 else sR σ a b, sN σ + 1)
/-- what a handle is: an object of class k, or a row (0 int, 1 byte, 2 boolean, 3 int[], 4 Routine) of a length -/
abbrev TC : Type := Nat ⊕ (Nat × Nat)
def tyR : List TC := [.inl 2, .inr (0, 240), .inr (0, 240), .inr (0, 240), .inr (3, 2), .inr (0, 240), .inr (0, 240), .inr (0, 240), .inr (3, 2), .inr (0, 240), .inr (0, 240), .inr (3, 2), .inr (0, 240), .inr (0, 240), .inr (0, 240), .inr (0, 41), .inr (0, 60), .inl 4, .inr (0, 32), .inr (0, 32), .inr (0, 32), .inl 0, .inr (0, 240), .inr (0, 240), .inr (0, 240), .inr (0, 240), .inr (0, 240), .inr (0, 240), .inr (0, 240), .inr (0, 240), .inr (0, 240), .inr (0, 240)]
def tyA : List TC := [.inl 8, .inl 5, .inr (1, 3000), .inr (4, 4), .inl 1, .inl 6, .inr (0, 3001), .inr (0, 3001), .inr (0, 3001), .inr (0, 40), .inr (3, 2), .inr (0, 40), .inr (0, 40)]
def tyB : List TC := [.inl 3, .inr (0, 48), .inr (0, 48), .inr (3, 2), .inr (0, 8), .inr (0, 8), .inr (0, 100), .inr (0, 32), .inr (0, 32), .inl 7, .inr (1, 3000), .inr (0, 240)]
def tyM : List TC := [.inl 9, .inr (0, 3000), .inr (2, 5), .inr (0, 5), .inr (0, 5), .inr (0, 5), .inr (0, 5), .inr (0, 205), .inr (0, 205), .inr (0, 1200), .inr (0, 1200), .inr (0, 1200), .inr (0, 1200), .inr (0, 1200), .inr (0, 1200), .inr (0, 1200), .inr (0, 1200), .inr (0, 1200), .inr (0, 1200), .inr (0, 1200), .inr (0, 160), .inr (0, 160), .inr (0, 160), .inr (0, 160), .inr (0, 160), .inr (0, 38400), .inr (0, 200), .inr (0, 200), .inr (2, 40), .inr (0, 40), .inr (2, 240), .inr (0, 48), .inr (0, 48), .inr (0, 16), .inr (0, 32), .inr (0, 32), .inr (0, 100), .inr (0, 5), .inr (0, 300), .inr (0, 60000), .inr (0, 240)]
def TY (h : Nat) : TC := if h ≤ 98 then (tyA ++ (tyR ++ (tyB ++ tyM))).getD (h - 1) (.inl 99) else tyR.getD ((h - 99) % 32) (.inl 99)
-- the classes, by their places in vwCl
def clC (c : Nat) : String := match c with | 0 => RX0 | 1 => RX1 | 2 => RX2 | 3 => RX3 | 4 => RX4 | 5 => RX5 | 6 => RX6 | 7 => RX7 | 8 => RX8 | _ => RX9
def clT (c : Nat) : u_T := match c with | 0 => TX0 | 1 => TX1 | 2 => TX2 | 3 => TX3 | 4 => TX4 | 5 => TX5 | 6 => TX6 | 7 => TX7 | 8 => TX8 | _ => TX9
def clN (c : Nat) : Nat := match c with | 0 => 11 | 1 => 8 | 2 => 17 | 3 => 12 | 4 => 5 | 5 => 2 | 6 => 4 | 7 => 4 | 8 => 6 | _ => 62
def clY (c : Nat) : Nat → FieldType := match c with | 0 => tyX0 | 1 => tyX1 | 2 => tyX2 | 3 => tyX3 | 4 => tyX4 | 5 => tyX5 | 6 => tyX6 | 7 => tyX7 | 8 => tyX8 | _ => tyX9
/-- a field's kind: 0 int, 1 long, 2 reference, 3 boolean -/
def fkind (t : FieldType) : Nat := match t with | .int => 0 | .long => 1 | .boolean => 3 | _ => 2
def FT (c k : Nat) : Nat := fkind (clY c k)
theorem cl_at {c : Nat} (h : c < 10) : vwCl[c]? = some (clC c, clT c, clN c) := by
  match c, h with
  | 0, _ => rfl
  | 1, _ => rfl
  | 2, _ => rfl
  | 3, _ => rfl
  | 4, _ => rfl
  | 5, _ => rfl
  | 6, _ => rfl
  | 7, _ => rfl
  | 8, _ => rfl
  | 9, _ => rfl
theorem cl_nm {c : Nat} (h : c < 10) : ∀ a, a < clN c → ∀ b, b < clN c → a ≠ b → (clT c a).2.1 ≠ (clT c b).2.1 := by
  match c, h with
  | 0, _ => exact nmX0
  | 1, _ => exact nmX1
  | 2, _ => exact nmX2
  | 3, _ => exact nmX3
  | 4, _ => exact nmX4
  | 5, _ => exact nmX5
  | 6, _ => exact nmX6
  | 7, _ => exact nmX7
  | 8, _ => exact nmX8
  | 9, _ => exact nmX9
theorem cl_ty {c : Nat} (h : c < 10) : ∀ k, k < clN c → parseFieldDescriptor (clT c k).2.2.1 = some (clY c k) := by
  match c, h with
  | 0, _ => exact tyX0_ok
  | 1, _ => exact tyX1_ok
  | 2, _ => exact tyX2_ok
  | 3, _ => exact tyX3_ok
  | 4, _ => exact tyX4_ok
  | 5, _ => exact tyX5_ok
  | 6, _ => exact tyX6_ok
  | 7, _ => exact tyX7_ok
  | 8, _ => exact tyX8_ok
  | 9, _ => exact tyX9_ok
/-- the words that go from method to method -/
def GW : List Cond := lw_tbl.filter goodWord
theorem gw_in {w : Cond} (h : w ∈ GW) : w ∈ lw_tbl := (List.mem_filter.mp h).1
theorem gw_of {w : Cond} (i : Nat) (h : lw_tbl[i]? = some w) (hg : goodWord w = true) : w ∈ GW := List.mem_filter.mpr ⟨List.mem_of_getElem? h, hg⟩
theorem gw_good {w : Cond} (h : w ∈ GW) : (w.onTables && w.keeps) = true ∨ ∃ ty, w = .arrayClass ty := good_of_word (List.mem_filter.mp h).2
theorem gw_goodIn (ws : List Cond) (h : ∀ w ∈ ws, w ∈ GW) : GoodIn GW ws := fun w hw => ⟨h w hw, gw_good (h w hw)⟩
set_option maxRecDepth 100000 in
theorem cl_ws : ∀ c, c < 10 → (u_ws (clC c) (clT c) (clN c)).all (fun w => lw_tbl.contains w && goodWord w) = true := by decide +kernel
theorem cl_in {c : Nat} (h : c < 10) : ∀ w ∈ u_ws (clC c) (clT c) (clN c), w ∈ GW := by
  intro w hw
  have h1 := List.all_eq_true.mp (cl_ws c h) w hw
  simp only [Bool.and_eq_true] at h1
  exact List.mem_filter.mpr ⟨by simpa using h1.1, h1.2⟩
/-- the world's map: launch; the address ahead of handle 1; classes' numbers, fields' places; rows' classes; text constants' addresses; the heap at the entry; the script's cell -/
abbrev GG : Type := Launch × Nat × (Nat → ClassId) × (Nat → Nat → Nat) × (Nat → ClassId) × (Nat → Nat) × Heap × Nat × (Nat → Nat)
def gL (g : GG) : Launch := g.1
def gA (g : GG) : Nat := g.2.1
def gC (g : GG) : Nat → ClassId := g.2.2.1
def gS (g : GG) : Nat → Nat → Nat := g.2.2.2.1
def gY (g : GG) : Nat → ClassId := g.2.2.2.2.1
def gK (g : GG) : Nat → Nat := g.2.2.2.2.2.1
def gH (g : GG) : Heap := g.2.2.2.2.2.2.1
def gB (g : GG) : Nat := g.2.2.2.2.2.2.2.1
def gV (g : GG) : Nat → Nat := g.2.2.2.2.2.2.2.2
def rfo (g : GG) (r : Nat) : Option Nat := if r = 0 then none else some (gA g + r)
def rf (g : GG) (r : Nat) : Value := va_rf (rfo g r)
/-- values as the machine has them: a handle is an address; .float 0 the script, .double k text constant k -/
def tr (g : GG) : Value → Value
  | .ref r => rf g r
  | .float _ => .ref (gB g)
  | .double k => .ref (gK g k.toNat)
  | v => v
theorem rf_pos {g : GG} {r : Nat} (h : 1 ≤ r) : rf g r = .ref (gA g + r) := by unfold rf rfo; rw [if_neg (by omega)]; rfl
theorem rf_zero (g : GG) : rf g 0 = .null := rfl
def fv (g : GG) (t : Nat) (x : Int32) (y : Int64) (r : Nat) : Value := match t with | 1 => .long y | 2 => rf g r | _ => .int x
def ce (g : GG) (σ : HS) (h : Nat) : va_E := match TY h with
  | .inl c => .inr (c, (List.range (clN c)).map (fun k => fv g (FT c k) (sI σ h k) (sL σ h k) (sR σ h k)))
  | .inr (t, n) => if t < 3 then .inl (gY g t, n, .inl (sI σ h)) else .inl (gY g t, n, .inr (.inr (.inr (.inr (fun i => rfo g (sR σ h i))))))
def wl (g : GG) (σ : HS) : va_W := (List.range (sN σ)).map (fun k => (gA g + 1 + k, ce g σ (k + 1)))
def gD (g : GG) : va_G := (gC g, gS g)
def fr (g : GG) : Nat → Prop := fun q => gA g < q
def RelH (g : GG) (σ : HS) (H : Heap) : Prop := va_P (gD g) vwCl (wl g σ) H ∧ H.size = gA g + 1 + sN σ
theorem wl_len (g : GG) (σ : HS) : (wl g σ).length = sN σ := by simp [wl]
theorem wl_get {g : GG} {σ : HS} {h : Nat} (h1 : 1 ≤ h) (h2 : h ≤ sN σ) : (wl g σ)[h - 1]? = some (gA g + h, ce g σ h) := by
  unfold wl
  rw [List.getElem?_map, List.getElem?_range (by omega)]
  simp only [Option.map_some, Option.some.injEq, Prod.mk.injEq]
  refine ⟨by omega, ?_⟩
  rw [show h - 1 + 1 = h by omega]
theorem wl_D (g : GG) (σ : HS) : va_D (fr g) (wl g σ) := by
  have key : ∀ (i : Nat) (p : Nat × va_E), (wl g σ)[i]? = some p → p.1 = gA g + 1 + i := by
    intro i p hp
    unfold wl at hp
    rw [List.getElem?_map] at hp
    cases hr : (List.range (sN σ))[i]? with
    | none => rw [hr] at hp; cases hp
    | some k =>
      rw [hr] at hp
      have := List.getElem?_eq_some_iff.mp hr
      obtain ⟨hl, e⟩ := this
      rw [List.getElem_range] at e
      subst e
      cases hp
      rfl
  refine ⟨fun i j p q hi hj e => ?_, fun k q hk => ?_⟩
  · have := key i p hi
    have := key j q hj
    omega
  · have := key k q hk
    show gA g < q.1
    omega
theorem wl_set {g : GG} {σ σ' : HS} {h : Nat} (h1 : 1 ≤ h) (h2 : h ≤ sN σ) (hn : sN σ' = sN σ) (ho : ∀ k, k ≠ h → ce g σ' k = ce g σ k) : wl g σ' = (wl g σ).set (h - 1) (gA g + h, ce g σ' h) := by
  apply List.ext_getElem?
  intro i
  by_cases hi : i < sN σ
  · have e1 : (wl g σ')[i]? = some (gA g + (i + 1), ce g σ' (i + 1)) := by
      have := wl_get (g := g) (σ := σ') (h := i + 1) (by omega) (by omega)
      rwa [show i + 1 - 1 = i by omega] at this
    have e2 : (wl g σ)[i]? = some (gA g + (i + 1), ce g σ (i + 1)) := by
      have := wl_get (g := g) (σ := σ) (h := i + 1) (by omega) (by omega)
      rwa [show i + 1 - 1 = i by omega] at this
    by_cases he : i = h - 1
    · subst he
      rw [List.getElem?_set_self (by rw [wl_len]; omega), e1, show h - 1 + 1 = h by omega]
    · rw [List.getElem?_set_ne (Ne.symm he), e1, e2, ho (i + 1) (by omega)]
  · rw [List.getElem?_eq_none (by rw [wl_len]; omega), List.getElem?_eq_none (by rw [List.length_set, wl_len]; omega)]
theorem wl_push {g : GG} {σ σ' : HS} (hn : sN σ' = sN σ + 1) (ho : ∀ k, k ≤ sN σ → ce g σ' k = ce g σ k) : wl g σ' = wl g σ ++ [(gA g + 1 + sN σ, ce g σ' (sN σ + 1))] := by
  unfold wl
  rw [hn, List.range_succ, List.map_append]
  congr 1
  apply List.map_congr_left
  intro k hk
  rw [ho (k + 1) (by have := List.mem_range.mp hk; omega)]
def TYP (σ : HS) (h : Nat) (t : TC) : Prop := 1 ≤ h ∧ h ≤ sN σ ∧ TY h = t
theorem ce_obj {g : GG} {σ : HS} {h c : Nat} (ht : TY h = .inl c) : ce g σ h = .inr (c, (List.range (clN c)).map (fun k => fv g (FT c k) (sI σ h k) (sL σ h k) (sR σ h k))) := by unfold ce; rw [ht]
theorem ce_int {g : GG} {σ : HS} {h t n : Nat} (ht : TY h = .inr (t, n)) (h3 : t < 3) : ce g σ h = .inl (gY g t, n, .inl (sI σ h)) := by unfold ce; rw [ht]; simp [h3]
theorem ce_ref {g : GG} {σ : HS} {h t n : Nat} (ht : TY h = .inr (t, n)) (h3 : 3 ≤ t) : ce g σ h = .inl (gY g t, n, .inr (.inr (.inr (.inr (fun i => rfo g (sR σ h i)))))) := by unfold ce; rw [ht]; simp [Nat.not_lt.mpr h3]
