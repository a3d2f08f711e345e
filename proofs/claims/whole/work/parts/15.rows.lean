/-! Rows over counting numbers; what stays: the objects' shape. -/
def bi (b : Bool) : Int32 := match b with | true => 1 | false => 0
theorem bi_ne {b : Bool} (h : ¬ bi b = 0) : b = true := by cases b <;> first | rfl | exact absurd rfl h
theorem bi_eq {b : Bool} (h : bi b = 0) : b = false := by cases b <;> first | rfl | (exact absurd h (by decide))
theorem bi_01 (b : Bool) : bi b = 0 ∨ bi b = 1 := by cases b <;> simp [bi]
theorem bi_nar (b : Bool) : narrow .boolean (.int (bi b)) = .int (bi b) := by cases b <;> rfl
/-- the fixed references: of handle h, place k -/
def skt (h k : Nat) : Option Nat := match h with
  | 1 => ([2, 4, 5, 46, 55] : List Nat)[k]?
  | 2 => ([3] : List Nat)[k]?
  | 5 => ([6, 10, 11] : List Nat)[k]?
  | 6 => ([7, 8, 9] : List Nat)[k]?
  | 11 => ([12, 13] : List Nat)[k]?
  | 46 => ([47, 48, 49, 52, 53, 54] : List Nat)[k]?
  | 49 => ([50, 51] : List Nat)[k]?
  | 55 => ([56, 57] : List Nat)[k]?
  | 58 => match ([59, 0, 0, 0, 0, 0, 0, 0, 60, 61, 62, 63, 64, 65, 66, 67, 68, 69, 70, 71, 72, 73, 74, 75, 76, 77, 78, 79, 80, 81, 82, 83, 0, 0, 0, 0, 0, 0, 0, 84, 85, 0, 86, 87, 88, 89, 90, 91, 92, 93, 94, 0, 0, 0, 0, 0, 0, 95, 96, 97, 0, 98] : List Nat)[k]? with | some 0 => none | r => r
  | _ => none
/-- the same of a Routine's cells, from its first one on -/
def skr (o k : Nat) : Option Nat := match o with
  | 0 => ([1, 2, 3, 4, 7, 8, 11, 14, 15, 16, 17, 21] : List Nat)[k]?
  | 4 => ([5, 6] : List Nat)[k]?
  | 8 => ([9, 10] : List Nat)[k]?
  | 11 => ([12, 13] : List Nat)[k]?
  | 17 => ([18, 19, 20] : List Nat)[k]?
  | 21 => ([22, 23, 24, 25, 26, 27, 28, 29, 30, 31] : List Nat)[k]?
  | _ => none
def SK (σ : HS) : Prop := 98 ≤ sN σ ∧ ∀ h k r, skt h k = some r → sR σ h k = r
def RB (σ : HS) (b : Nat) : Prop := (b = 14 ∨ ∃ j, b = 99 + 32 * j) ∧ b + 31 ≤ sN σ ∧ ∀ o k r, skr o k = some r → sR σ (b + o) k = b + r
/-- what changed: ints of the cells in S alone -/
def Fr (S : List Nat) (σ σ' : HS) : Prop := sL σ' = sL σ ∧ sR σ' = sR σ ∧ sN σ' = sN σ ∧ ∀ h, h ∉ S → sI σ' h = sI σ h
theorem SK.uI {σ : HS} {h i : Nat} {v : Int32} (k : SK σ) : SK (uI σ h i v) := k
theorem SK.uL {σ : HS} {h i : Nat} {v : Int64} (k : SK σ) : SK (uL σ h i v) := k
theorem RB.uI {σ : HS} {b h i : Nat} {v : Int32} (k : RB σ b) : RB (uI σ h i v) b := k
theorem RB.uL {σ : HS} {b h i : Nat} {v : Int64} (k : RB σ b) : RB (uL σ h i v) b := k
theorem SK.fr {S : List Nat} {σ σ' : HS} (h : Fr S σ σ') (k : SK σ) : SK σ' := ⟨by rw [h.2.2.1]; exact k.1, fun a b c q => by rw [h.2.1]; exact k.2 a b c q⟩
theorem RB.fr {S : List Nat} {σ σ' : HS} {b : Nat} (h : Fr S σ σ') (k : RB σ b) : RB σ' b := ⟨k.1, by rw [h.2.2.1]; exact k.2.1, fun a b c q => by rw [h.2.1]; exact k.2.2 a b c q⟩
theorem Fr.rf {S : List Nat} {σ : HS} : Fr S σ σ := ⟨rfl, rfl, rfl, fun _ _ => rfl⟩
theorem Fr.uI {S : List Nat} {σ σ' : HS} {h i : Nat} {v : Int32} (k : Fr S σ σ') (hh : h ∈ S) : Fr S σ (uI σ' h i v) := ⟨k.1, k.2.1, k.2.2.1, fun a ha => (uI_off (fun e => ha (by rw [e]; exact hh))).trans (k.2.2.2 a ha)⟩
theorem Fr.tr {S T : List Nat} {σ σ' σ'' : HS} (k : Fr S σ σ') (k2 : Fr T σ' σ'') (hs : ∀ a ∈ T, a ∈ S) : Fr S σ σ'' := ⟨k2.1.trans k.1, k2.2.1.trans k.2.1, k2.2.2.1.trans k.2.2.1, fun a ha => (k2.2.2.2 a (fun q => ha (hs a q))).trans (k.2.2.2 a ha)⟩
theorem Fr.wk {S T : List Nat} {σ σ' : HS} (k : Fr T σ σ') (hs : ∀ a ∈ T, a ∈ S) : Fr S σ σ' := ⟨k.1, k.2.1, k.2.2.1, fun a ha => k.2.2.2 a (fun q => ha (hs a q))⟩
theorem ty_c {σ : HS} {h : Nat} {t : TC} (hS : SK σ) (h1 : 1 ≤ h ∧ h ≤ 98) (ht : TY h = t) : TYP σ h t := ⟨h1.1, Nat.le_trans h1.2 hS.1, ht⟩
theorem TY_r {b o : Nat} {t : TC} (hb : b = 14 ∨ ∃ j, b = 99 + 32 * j) (ho : tyR[o]? = some t) : TY (b + o) = t := by
  have hl : o < 32 := (List.getElem?_eq_some_iff.mp ho).1
  rcases hb with rfl | ⟨j, rfl⟩
  · unfold TY
    rw [if_pos (by omega), List.getD_eq_getElem?_getD, show 14 + o - 1 = tyA.length + o from by show 14 + o - 1 = 13 + o; omega, List.getElem?_append_right (by omega), Nat.add_sub_cancel_left, List.getElem?_append_left (by exact hl), ho]
    rfl
  · unfold TY
    rw [if_neg (by omega), show (99 + 32 * j + o - 99) % 32 = o by omega, List.getD_eq_getElem?_getD, ho]
    rfl
theorem ty_r {σ : HS} {b : Nat} {t : TC} (hb : RB σ b) (o : Nat) (ho : tyR[o]? = some t) : TYP σ (b + o) t := ⟨by rcases hb.1 with h | ⟨j, h⟩ <;> omega, by have := (List.getElem?_eq_some_iff.mp ho).1; have h2 : o < 32 := this; have := hb.2.1; omega, TY_r hb.1 ho⟩
theorem rd_off {σ : HS} {h i a b : Nat} {v : Int32} (ha : a ≠ h) : sI (uI σ h i v) a b = sI σ a b := congrFun (uI_off ha) b
theorem rd_ne {σ : HS} {h i j : Nat} {v : Int32} (hj : j ≠ i) : sI (uI σ h i v) h j = sI σ h j := uI_ne hj
theorem ix_c {i : Int32} {j n : Nat} (h : (decide (0 ≤ i) && (decide (i.toNatClampNeg < n) && i.toNatClampNeg == j)) = true) : IX i j n := by
  simp only [Bool.and_eq_true, decide_eq_true_eq, beq_iff_eq] at h
  refine ⟨fun q => ?_, h.2.2⟩
  rcases q with q | q
  · exact absurd h.1 (Int32.not_le.mpr q)
  · omega
theorem nI_inj {a b : Nat} (ha : a < 2147483648) (hb : b < 2147483648) (h : nI a = nI b) : a = b := (nI_eq (by omega) (by omega)).mp h
theorem nI_nlt0 {a : Nat} (ha : a < 2147483648) : ¬ nI a < 0 := nI_pos (by omega)
section QN
variable {g : GG} {M : MI} {d mc ms : Nat} {Z : List Frame → Array Value → State → State → Prop} {cl sl pc : Nat} {ls ls' : List (Nat × Value)} {st : List Value} {σ : HS}
theorem k_p {rest : List Value} {v : Value} (k : WA g M d mc ms Z cl sl pc ls (v :: rest) σ) : ∀ r σ', (σ' = σ ∧ r = some v) → WA g M d mc ms Z cl sl pc ls (r.toList ++ rest) σ' := by
  rintro r σ' ⟨rfl, rfl⟩
  exact k
theorem k_v {rest : List Value} {E : HS → Prop} (k : ∀ σ', E σ' → WA g M d mc ms Z cl sl pc ls rest σ') : ∀ r σ', (r = none ∧ E σ') → WA g M d mc ms Z cl sl pc ls (r.toList ++ rest) σ' := by
  rintro r σ' ⟨rfl, h⟩
  exact k σ' h
theorem k_i {rest : List Value} {E : Int32 → HS → Prop} (k : ∀ x σ', E x σ' → WA g M d mc ms Z cl sl pc ls (.int x :: rest) σ') : ∀ r σ', (∃ x, r = some (.int x) ∧ E x σ') → WA g M d mc ms Z cl sl pc ls (r.toList ++ rest) σ' := by
  rintro r σ' ⟨x, rfl, h⟩
  exact k x σ' h
theorem k_b {rest : List Value} {E : Bool → HS → Prop} (k : ∀ x σ', E x σ' → WA g M d mc ms Z cl sl pc ls (.int (bi x) :: rest) σ') : ∀ r σ', (∃ x, r = some (.int (bi x)) ∧ E x σ') → WA g M d mc ms Z cl sl pc ls (r.toList ++ rest) σ' := by
  rintro r σ' ⟨x, rfl, h⟩
  exact k x σ' h
theorem q_eqs {σ' : HS} (h : σ = σ') (k : WA g M d mc ms Z cl sl pc ls st σ') : WA g M d mc ms Z cl sl pc ls st σ := h ▸ k
theorem q_top {x y : Int32} (h : x = y) (k : WA g M d mc ms Z cl sl pc ls (.int y :: st) σ) : WA g M d mc ms Z cl sl pc ls (.int x :: st) σ := h ▸ k
theorem q_iaddN {a b : Nat} (hd : decode M.2.1 pc = .ok (.iadd, 1)) (k : WA g M d mc ms Z cl sl (pc + 1) ls (.int (nI (a + b)) :: st) σ) : WA g M d mc ms Z cl sl pc ls (.int (nI b) :: .int (nI a) :: st) σ := q_iadd hd (by rw [nI_add]; exact k)
theorem q_isubN {a b : Nat} (hd : decode M.2.1 pc = .ok (.isub, 1)) (h : b ≤ a) (k : WA g M d mc ms Z cl sl (pc + 1) ls (.int (nI (a - b)) :: st) σ) : WA g M d mc ms Z cl sl pc ls (.int (nI b) :: .int (nI a) :: st) σ := q_isub hd (by rw [pk_sub h]; exact k)
theorem q_imulN {a b : Nat} (hd : decode M.2.1 pc = .ok (.imul, 1)) (k : WA g M d mc ms Z cl sl (pc + 1) ls (.int (nI (a * b)) :: st) σ) : WA g M d mc ms Z cl sl pc ls (.int (nI b) :: .int (nI a) :: st) σ := q_imul hd (by rw [pk_mul]; exact k)
theorem q_iincN {i a c : Nat} {n : Int} (hd : decode M.2.1 pc = .ok (.iinc i n, 3)) (hk : lk ls i = some (.int (nI a))) (hn : i < M.2.2.1) (hc : Int32.ofInt n = nI c) (h : lput ls i (.int (nI (a + c))) = ls') (k : WA g M d mc ms Z cl sl (pc + 3) ls' st σ) : WA g M d mc ms Z cl sl pc ls st σ := q_iinc hd hk (by rw [hc, nI_add]) hn h k
theorem q_icmp_eqN {a b : Nat} {off : Int} {tgt : Nat} (hd : decode M.2.1 pc = .ok (.if_icmp .eq off, 3)) (ht : (pc : Int) + off = (tgt : Int)) (ha : a < 2147483648) (hb : b < 2147483648) (kt : a = b → WA g M d mc ms Z cl sl tgt ls st σ) (kf : a ≠ b → WA g M d mc ms Z cl sl (pc + 3) ls st σ) : WA g M d mc ms Z cl sl pc ls (.int (nI b) :: .int (nI a) :: st) σ := q_icmp_eq hd ht (fun q => kt ((nI_eq (by omega) (by omega)).mp q)) (fun q => kf (fun e => q (by rw [e])))
theorem q_icmp_neN {a b : Nat} {off : Int} {tgt : Nat} (hd : decode M.2.1 pc = .ok (.if_icmp .ne off, 3)) (ht : (pc : Int) + off = (tgt : Int)) (ha : a < 2147483648) (hb : b < 2147483648) (kt : a ≠ b → WA g M d mc ms Z cl sl tgt ls st σ) (kf : a = b → WA g M d mc ms Z cl sl (pc + 3) ls st σ) : WA g M d mc ms Z cl sl pc ls (.int (nI b) :: .int (nI a) :: st) σ := q_icmp_ne hd ht (fun q => kt (fun e => q (by rw [e]))) (fun q => kf ((nI_eq (by omega) (by omega)).mp q))
theorem q_icmp_ltN {a b : Nat} {off : Int} {tgt : Nat} (hd : decode M.2.1 pc = .ok (.if_icmp .lt off, 3)) (ht : (pc : Int) + off = (tgt : Int)) (ha : a < 2147483648) (hb : b < 2147483648) (kt : a < b → WA g M d mc ms Z cl sl tgt ls st σ) (kf : b ≤ a → WA g M d mc ms Z cl sl (pc + 3) ls st σ) : WA g M d mc ms Z cl sl pc ls (.int (nI b) :: .int (nI a) :: st) σ := q_icmp_lt hd ht (fun q => kt ((nI_ltI (by omega) (by omega)).mp q)) (fun q => kf (Nat.not_lt.mp (fun e => q ((nI_ltI (by omega) (by omega)).mpr e))))
theorem q_icmp_geN {a b : Nat} {off : Int} {tgt : Nat} (hd : decode M.2.1 pc = .ok (.if_icmp .ge off, 3)) (ht : (pc : Int) + off = (tgt : Int)) (ha : a < 2147483648) (hb : b < 2147483648) (kt : b ≤ a → WA g M d mc ms Z cl sl tgt ls st σ) (kf : a < b → WA g M d mc ms Z cl sl (pc + 3) ls st σ) : WA g M d mc ms Z cl sl pc ls (.int (nI b) :: .int (nI a) :: st) σ := q_icmp_ge hd ht (fun q => kt ((nI_leI (by omega) (by omega)).mp q)) (fun q => kf (Nat.not_le.mp (fun e => q ((nI_leI (by omega) (by omega)).mpr e))))
theorem q_icmp_gtN {a b : Nat} {off : Int} {tgt : Nat} (hd : decode M.2.1 pc = .ok (.if_icmp .gt off, 3)) (ht : (pc : Int) + off = (tgt : Int)) (ha : a < 2147483648) (hb : b < 2147483648) (kt : b < a → WA g M d mc ms Z cl sl tgt ls st σ) (kf : a ≤ b → WA g M d mc ms Z cl sl (pc + 3) ls st σ) : WA g M d mc ms Z cl sl pc ls (.int (nI b) :: .int (nI a) :: st) σ := q_icmp_gt hd ht (fun q => kt ((nI_ltI (by omega) (by omega)).mp q)) (fun q => kf (Nat.not_lt.mp (fun e => q ((nI_ltI (by omega) (by omega)).mpr e))))
theorem q_icmp_leN {a b : Nat} {off : Int} {tgt : Nat} (hd : decode M.2.1 pc = .ok (.if_icmp .le off, 3)) (ht : (pc : Int) + off = (tgt : Int)) (ha : a < 2147483648) (hb : b < 2147483648) (kt : a ≤ b → WA g M d mc ms Z cl sl tgt ls st σ) (kf : b < a → WA g M d mc ms Z cl sl (pc + 3) ls st σ) : WA g M d mc ms Z cl sl pc ls (.int (nI b) :: .int (nI a) :: st) σ := q_icmp_le hd ht (fun q => kt ((nI_leI (by omega) (by omega)).mp q)) (fun q => kf (Nat.not_le.mp (fun e => q ((nI_leI (by omega) (by omega)).mpr e))))
theorem q_if_ltN {a : Nat} {off : Int} {tgt : Nat} (hd : decode M.2.1 pc = .ok (.ifCond .lt off, 3)) (ht : (pc : Int) + off = (tgt : Int)) (ha : a < 2147483648) (kf : WA g M d mc ms Z cl sl (pc + 3) ls st σ) : WA g M d mc ms Z cl sl pc ls (.int (nI a) :: st) σ := q_if_lt hd ht (fun q => absurd q (nI_nlt0 ha)) (fun _ => kf)
theorem q_if_geN {a : Nat} {off : Int} {tgt : Nat} (hd : decode M.2.1 pc = .ok (.ifCond .ge off, 3)) (ht : (pc : Int) + off = (tgt : Int)) (ha : a < 2147483648) (kt : WA g M d mc ms Z cl sl tgt ls st σ) : WA g M d mc ms Z cl sl pc ls (.int (nI a) :: st) σ := q_if_ge hd ht (fun _ => kt) (fun q => absurd (nI_pos' (by omega)) q)
theorem q_if_eqN {a : Nat} {off : Int} {tgt : Nat} (hd : decode M.2.1 pc = .ok (.ifCond .eq off, 3)) (ht : (pc : Int) + off = (tgt : Int)) (ha : a < 2147483648) (kt : a = 0 → WA g M d mc ms Z cl sl tgt ls st σ) (kf : a ≠ 0 → WA g M d mc ms Z cl sl (pc + 3) ls st σ) : WA g M d mc ms Z cl sl pc ls (.int (nI a) :: st) σ := q_if_eq hd ht (fun q => kt ((nI_eq (b := 0) (by omega) (by omega)).mp q)) (fun q => kf (fun e => q (by rw [e]; rfl)))
theorem q_if_neN {a : Nat} {off : Int} {tgt : Nat} (hd : decode M.2.1 pc = .ok (.ifCond .ne off, 3)) (ht : (pc : Int) + off = (tgt : Int)) (ha : a < 2147483648) (kt : a ≠ 0 → WA g M d mc ms Z cl sl tgt ls st σ) (kf : a = 0 → WA g M d mc ms Z cl sl (pc + 3) ls st σ) : WA g M d mc ms Z cl sl pc ls (.int (nI a) :: st) σ := q_if_ne hd ht (fun q => kt (fun e => q (by rw [e]; rfl))) (fun q => kf ((nI_eq (b := 0) (by omega) (by omega)).mp q))
theorem q_if_gtN {a : Nat} {off : Int} {tgt : Nat} (hd : decode M.2.1 pc = .ok (.ifCond .gt off, 3)) (ht : (pc : Int) + off = (tgt : Int)) (ha : a < 2147483648) (kt : 0 < a → WA g M d mc ms Z cl sl tgt ls st σ) (kf : a = 0 → WA g M d mc ms Z cl sl (pc + 3) ls st σ) : WA g M d mc ms Z cl sl pc ls (.int (nI a) :: st) σ := q_if_gt hd ht (fun q => kt ((nI_ltI (a := 0) (by omega) (by omega)).mp q)) (fun q => kf (Nat.eq_zero_of_not_pos (fun e => q ((nI_ltI (a := 0) (by omega) (by omega)).mpr e))))
theorem q_if_leN {a : Nat} {off : Int} {tgt : Nat} (hd : decode M.2.1 pc = .ok (.ifCond .le off, 3)) (ht : (pc : Int) + off = (tgt : Int)) (ha : a < 2147483648) (kt : a = 0 → WA g M d mc ms Z cl sl tgt ls st σ) (kf : 0 < a → WA g M d mc ms Z cl sl (pc + 3) ls st σ) : WA g M d mc ms Z cl sl pc ls (.int (nI a) :: st) σ := q_if_le hd ht (fun q => kt (Nat.le_zero.mp ((nI_leI (b := 0) (by omega) (by omega)).mp q))) (fun q => kf (Nat.pos_of_ne_zero (fun e => q (by rw [e]; exact Int32.le_refl _))))
theorem q_if_eqB {c : Bool} {off : Int} {tgt : Nat} (hd : decode M.2.1 pc = .ok (.ifCond .eq off, 3)) (ht : (pc : Int) + off = (tgt : Int)) (kt : c = false → WA g M d mc ms Z cl sl tgt ls st σ) (kf : c = true → WA g M d mc ms Z cl sl (pc + 3) ls st σ) : WA g M d mc ms Z cl sl pc ls (.int (bi c) :: st) σ := q_if_eq hd ht (fun q => kt (bi_eq q)) (fun q => kf (bi_ne q))
theorem q_if_neB {c : Bool} {off : Int} {tgt : Nat} (hd : decode M.2.1 pc = .ok (.ifCond .ne off, 3)) (ht : (pc : Int) + off = (tgt : Int)) (kt : c = true → WA g M d mc ms Z cl sl tgt ls st σ) (kf : c = false → WA g M d mc ms Z cl sl (pc + 3) ls st σ) : WA g M d mc ms Z cl sl pc ls (.int (bi c) :: st) σ := q_if_ne hd ht (fun q => kt (bi_ne q)) (fun q => kf (bi_eq q))
theorem k_w {rest : List Value} {v : Value} {E : HS → Prop} (k : ∀ σ', E σ' → WA g M d mc ms Z cl sl pc ls (v :: rest) σ') : ∀ r σ', (r = some v ∧ E σ') → WA g M d mc ms Z cl sl pc ls (r.toList ++ rest) σ' := by
  rintro r σ' ⟨rfl, h⟩
  exact k σ' h
theorem q_pk (ks : List Nat) (h : ks.filterMap (fun k => ls[k]?) = ls') (k : WA g M d mc ms Z cl sl pc ls' st σ) : WA g M d mc ms Z cl sl pc ls st σ := q_sub (fun q hq => by
  rw [← h] at hq
  obtain ⟨i, -, hi⟩ := List.mem_filterMap.mp hq
  exact List.mem_of_getElem? hi) k
theorem sw_toInt {v : Nat} (h : v < 2147483648) : (nI v).toInt = (v : Int) := nI_toInt (by omega)
theorem q_tableEq {dflt lo hi : Int} {offs : Array Int} {len : Nat} {x : Int32} {off : Int} {tgt : Nat} (v : Nat) (hd : decode M.2.1 pc = .ok (.tableswitch dflt lo hi offs, len)) (hx : x = nI v) (hv : v < 2147483648 ∧ lo ≤ (v : Int) ∧ (v : Int) ≤ hi) (ho : offs[((v : Int) - lo).toNat]? = some off) (ht : (pc : Int) + off = (tgt : Int)) (k : WA g M d mc ms Z cl sl tgt ls st σ) : WA g M d mc ms Z cl sl pc ls (.int x :: st) σ := by
  subst hx
  exact q_tableIn hd (by rw [sw_toInt hv.1]; omega) (by rw [sw_toInt hv.1]; omega) (by rw [sw_toInt hv.1]; exact ho) ht k
theorem q_tableNe {dflt lo hi : Int} {offs : Array Int} {len : Nat} {x : Int32} {tgt : Nat} (a n : Nat) (hd : decode M.2.1 pc = .ok (.tableswitch dflt lo hi offs, len)) (hl : lo = (a : Int) ∧ hi = ((a + n : Nat) : Int) ∧ a + n < 2147483648) (hx : ∀ v, a ≤ v → v ≤ a + n → ¬ x = nI v) (ht : (pc : Int) + dflt = (tgt : Int)) (k : WA g M d mc ms Z cl sl tgt ls st σ) : WA g M d mc ms Z cl sl pc ls (.int x :: st) σ := by
  refine q_tableOut hd ?_ ht k
  obtain ⟨rfl, rfl, h3⟩ := hl
  by_cases h : x.toInt < (a : Int)
  · exact Or.inl h
  · refine Or.inr (Int.not_le.mp fun h2 => ?_)
    refine hx x.toInt.toNat (by omega) (by omega) ?_
    apply Int32.toInt_inj.mp
    rw [sw_toInt (by omega)]
    omega
theorem look_ne : ∀ (ps : List (Int × Int)) (d x : Int), (∀ q ∈ ps, ¬ q.1 = x) → Op.lookupswitch.offset ps d x = d
  | [], d, x, _ => rfl
  | (a, o) :: r, d, x, h => by
    rw [Op.lookupswitch.offset_cons, if_neg (h (a, o) List.mem_cons_self)]
    exact look_ne r d x (fun q hq => h q (List.mem_cons_of_mem _ hq))
theorem q_lookEq {dflt : Int} {ps : Array (Int × Int)} {len : Nat} {x : Int32} {off : Int} {tgt : Nat} (v : Nat) (hd : decode M.2.1 pc = .ok (.lookupswitch dflt ps, len)) (hx : x = nI v) (hv : v < 2147483648) (hp : (ps.toList.zip (ps.toList.drop 1)).all (fun (a, next) => a.1 < next.1) = true) (ho : Op.lookupswitch.offset ps.toList dflt (v : Int) = off) (ht : (pc : Int) + off = (tgt : Int)) (k : WA g M d mc ms Z cl sl tgt ls st σ) : WA g M d mc ms Z cl sl pc ls (.int x :: st) σ := by
  subst hx
  exact q_lookup hd hp (by rw [sw_toInt hv]; exact ho) ht k
theorem q_lookNe {dflt : Int} {ps : Array (Int × Int)} {len : Nat} {x : Int32} {tgt : Nat} (vs : List Nat) (hd : decode M.2.1 pc = .ok (.lookupswitch dflt ps, len)) (hp : (ps.toList.zip (ps.toList.drop 1)).all (fun (a, next) => a.1 < next.1) = true) (hvs : ps.toList.map (·.1) = vs.map (fun (v : Nat) => (v : Int))) (hb : ∀ v ∈ vs, v < 2147483648) (hx : ∀ v ∈ vs, ¬ x = nI v) (ht : (pc : Int) + dflt = (tgt : Int)) (k : WA g M d mc ms Z cl sl tgt ls st σ) : WA g M d mc ms Z cl sl pc ls (.int x :: st) σ := by
  refine q_lookup hd hp (look_ne _ _ _ fun q hq e => ?_) ht k
  have h1 : q.1 ∈ ps.toList.map (·.1) := List.mem_map.mpr ⟨q, hq, rfl⟩
  rw [hvs] at h1
  obtain ⟨v, h2, h3⟩ := List.mem_map.mp h1
  refine hx v h2 (Int32.toInt_inj.mp ?_)
  rw [sw_toInt (hb v h2), ← e]
  exact h3.symm
theorem q_if_lt1 {x : Int32} {off : Int} {tgt : Nat} (hd : decode M.2.1 pc = .ok (.ifCond .lt off, 3)) (ht : (pc : Int) + off = (tgt : Int)) (h : x < 0) (k : WA g M d mc ms Z cl sl tgt ls st σ) : WA g M d mc ms Z cl sl pc ls (.int x :: st) σ := q_if_lt hd ht (fun _ => k) (fun q => absurd h q)
theorem q_if_ge1 {x : Int32} {off : Int} {tgt : Nat} (hd : decode M.2.1 pc = .ok (.ifCond .ge off, 3)) (ht : (pc : Int) + off = (tgt : Int)) (h : x < 0) (k : WA g M d mc ms Z cl sl (pc + 3) ls st σ) : WA g M d mc ms Z cl sl pc ls (.int x :: st) σ := q_if_ge hd ht (fun q => absurd h (Int32.not_lt.mpr q)) (fun _ => k)
theorem q_icmp_lt1 {x : Int32} {b : Nat} {off : Int} {tgt : Nat} (hd : decode M.2.1 pc = .ok (.if_icmp .lt off, 3)) (ht : (pc : Int) + off = (tgt : Int)) (hb : b < 2147483648) (h : x < 0) (k : WA g M d mc ms Z cl sl tgt ls st σ) : WA g M d mc ms Z cl sl pc ls (.int (nI b) :: .int x :: st) σ := q_icmp_lt hd ht (fun _ => k) (fun q => absurd (Int32.lt_of_lt_of_le h (nI_pos' (by omega))) q)
theorem q_icmp_ge1 {x : Int32} {b : Nat} {off : Int} {tgt : Nat} (hd : decode M.2.1 pc = .ok (.if_icmp .ge off, 3)) (ht : (pc : Int) + off = (tgt : Int)) (hb : b < 2147483648) (h : x < 0) (k : WA g M d mc ms Z cl sl (pc + 3) ls st σ) : WA g M d mc ms Z cl sl pc ls (.int (nI b) :: .int x :: st) σ := q_icmp_ge hd ht (fun q => absurd (Int32.lt_of_lt_of_le h (nI_pos' (by omega))) (Int32.not_lt.mpr q)) (fun _ => k)
theorem q_icmp_eq1 {x : Int32} {b : Nat} {off : Int} {tgt : Nat} (hd : decode M.2.1 pc = .ok (.if_icmp .eq off, 3)) (ht : (pc : Int) + off = (tgt : Int)) (hb : b < 2147483648) (h : x < 0) (k : WA g M d mc ms Z cl sl (pc + 3) ls st σ) : WA g M d mc ms Z cl sl pc ls (.int (nI b) :: .int x :: st) σ := q_icmp_eq hd ht (fun q => absurd h (by rw [q]; exact nI_nlt0 hb)) (fun _ => k)
theorem q_icmp_ne1 {x : Int32} {b : Nat} {off : Int} {tgt : Nat} (hd : decode M.2.1 pc = .ok (.if_icmp .ne off, 3)) (ht : (pc : Int) + off = (tgt : Int)) (hb : b < 2147483648) (h : x < 0) (k : WA g M d mc ms Z cl sl tgt ls st σ) : WA g M d mc ms Z cl sl pc ls (.int (nI b) :: .int x :: st) σ := q_icmp_ne hd ht (fun _ => k) (fun q => absurd h (by rw [q]; exact nI_nlt0 hb))
end QN
theorem i_cases (i : Int32) : (∃ j, j < 2147483648 ∧ i = nI j) ∨ i < 0 := by
  by_cases h : i < 0
  · exact Or.inr h
  · exact Or.inl (nI_of h)
def PQ (σ : HS) (v : Value) : Option Value → HS → Prop := fun r σ' => σ' = σ ∧ r = some v
theorem fin_t {σ : HS} {b : Bool} (h : b = true) : PQ σ (.int (bi b)) (some (.int (nI 1))) σ := by subst h; exact ⟨rfl, rfl⟩
theorem fin_f {σ : HS} {b : Bool} (h : b = false) : PQ σ (.int (bi b)) (some (.int (nI 0))) σ := by subst h; exact ⟨rfl, rfl⟩
def VQ (σ : HS) : Option Value → HS → Prop := fun r σ' => r = none ∧ σ' = σ
theorem k_s {g : GG} {M : MI} {d mc ms : Nat} {Z : List Frame → Array Value → State → State → Prop} {cl sl pc : Nat} {ls : List (Nat × Value)} {σ : HS} {rest : List Value} (k : WA g M d mc ms Z cl sl pc ls rest σ) : ∀ r σ', VQ σ r σ' → WA g M d mc ms Z cl sl pc ls (r.toList ++ rest) σ' := by
  rintro r σ' ⟨rfl, rfl⟩
  exact k
