/-! The law's start: what the tables and the Statement say of it. -/
def tmS (i : Nat) : Term := .string (stT.getD i ("", 0, "", 0, [])).1 (stT.getD i ("", 0, "", 0, [])).2.1
def gvC : Cond := Jvm.Cond.and given_1 narrow_1
set_option maxRecDepth 100000 in
theorem lit_ok : ∀ i : Fin 17, (decide (Cond.exactly (tmS i.val) "java/lang/String" ∈ flatC gvC) && decide (Cond.eq (.field (tmS i.val) "java/lang/String" "coder" "B") (.int 0) ∈ flatC gvC) && decide (Cond.arrayOf (.field (tmS i.val) "java/lang/String" "value" "[B") .byte ∈ flatC gvC) && decide (Cond.eq (.length (.field (tmS i.val) "java/lang/String" "value" "[B")) (.int (Int32.ofNat (stLen.getD i.val 0))) ∈ flatC gvC) && (List.range (stLen.getD i.val 0)).all (fun j => decide (Cond.eq (.elem (.field (tmS i.val) "java/lang/String" "value" "[B") (.int (Int32.ofNat j))) (.int ((stByt.getD i.val []).getD j 0)) ∈ flatC gvC))) = true := by decide +kernel
set_option maxRecDepth 100000 in
theorem lit_ref : ∀ i : Fin 17, Cond.stringRef (stT.getD i.val ("", 0, "", 0, [])).1 (stT.getD i.val ("", 0, "", 0, [])).2.1 (stT.getD i.val ("", 0, "", 0, [])).2.2.1 ∈ lw_tbl := by decide +kernel
theorem is_all : ∀ c, c < 10 → Cond.instantiable (clC c) (clN c) ∈ GW
  | 0, _ => is0
  | 1, _ => is1
  | 2, _ => is2
  | 3, _ => is3
  | 4, _ => is4
  | 5, _ => is5
  | 6, _ => is6
  | 7, _ => is7
  | 8, _ => is8
  | 9, _ => is9
  | c + 10, h => absurd h (by omega)
set_option maxRecDepth 100000 in
theorem kw_ws : Cond.arrayOver (.array .int) ∈ lw_tbl ∧ Cond.arrayOver (.object RX2) ∈ lw_tbl ∧ Cond.laysStatic "java/lang/String" "COMPACT_STRINGS" "Z" ∈ lw_tbl ∧ Cond.initialized "java/lang/String" ∈ lw_tbl ∧ Cond.laysStatic "jdk/internal/util/Preconditions" "SIOOBE_FORMATTER" "Ljava/util/function/BiFunction;" ∈ lw_tbl ∧ Cond.initialized "jdk/internal/util/Preconditions" ∈ lw_tbl := by decide +kernel
set_option maxRecDepth 100000 in
theorem kw_gv : Cond.eq (.static "java/lang/String" "COMPACT_STRINGS" "Z") (.int 1) ∈ flatC gvC ∧ Cond.isRef (.static "jdk/internal/util/Preconditions" "SIOOBE_FORMATTER" "Ljava/util/function/BiFunction;") ∈ flatC gvC := by decide +kernel
theorem kw_start {s : State} {b : Nat} (l : Launch) (hts : ∀ w ∈ lw_tbl, w.before #[Value.ref b] s = true) (hgv : gvC.before #[Value.ref b] s = true) (hbl : b < s.heap.size) : ∃ g : GG, gL g = l ∧ gA g + 1 = s.heap.size ∧ gH g = s.heap ∧ gB g = b ∧ KW g s := by
  have hs := flat_of_before _ hgv
  have hA : ∀ a, a < s.heap.size → ¬ (fun q => s.heap.size - 1 < q) a := fun a h z => by
    have z : s.heap.size - 1 < a := z
    omega
  have hc0 : ∀ c, ∃ q : ClassId × (Nat → Nat), c < 10 → u_Kn s (clC c) (clT c) (clN c) q.1 q.2 := fun c => by
    by_cases h : c < 10
    · obtain ⟨cC, iS, h1⟩ := u_known (C := clC c) (T := clT c) (N := clN c) (n := clN c) hts (fun w hw => gw_in (cl_in h w hw)) (hts _ (gw_in (is_all c h)))
      exact ⟨(cC, iS), fun _ => h1⟩
    · exact ⟨(0, fun _ => 0), fun z => absurd z h⟩
  obtain ⟨D, hD⟩ := Classical.axiomOfChoice hc0
  obtain ⟨w1, w2, w3, w4, w5, w6⟩ := kw_ws
  obtain ⟨v1, v2⟩ := kw_gv
  obtain ⟨a0, b0⟩ : ∃ cA, ArrOfT s cA .int ∧ va_RA s cA .int := by
    obtain ⟨c, k, comp, h1, h2, h3⟩ := Cond.arrayClass_spec (hts _ (gw_in ac_int))
    exact ⟨c, fun n z => ⟨fun k h => (by cases h), k, h2, comp, h3⟩, h1⟩
  obtain ⟨a1, b1⟩ : ∃ cA, ArrOfT s cA .byte ∧ va_RA s cA .byte := by
    obtain ⟨c, k, comp, h1, h2, h3⟩ := Cond.arrayClass_spec (hts _ (gw_in ac_byte))
    exact ⟨c, fun n z => ⟨fun k h => (by cases h), k, h2, comp, h3⟩, h1⟩
  obtain ⟨a2, b2⟩ : ∃ cA, ArrOfT s cA .boolean ∧ va_RA s cA .boolean := by
    obtain ⟨c, k, comp, h1, h2, h3⟩ := Cond.arrayClass_spec (hts _ (gw_in ac_boolean))
    exact ⟨c, fun n z => ⟨fun k h => (by cases h), k, h2, comp, h3⟩, h1⟩
  obtain ⟨a3, b3⟩ : ∃ cA, ArrOfT s cA (.array .int) ∧ va_RA s cA (.array .int) := by
    obtain ⟨comp, c, k, h0, h2, h3, h1⟩ := Cond.arrayOver_specA (hts _ w1)
    exact ⟨c, fun n z => ⟨fun k h => (by cases h), k, h2, comp, h3⟩, h1⟩
  obtain ⟨a4, b4⟩ : ∃ cA, ArrOfT s cA (.object RX2) ∧ va_RA s cA (.object RX2) := by
    obtain ⟨comp, c, k, h0, -, h2, h3, h1⟩ := Cond.arrayOver_spec (hts _ w2)
    exact ⟨c, fun n z => ⟨fun k h => (by cases h), k, h2, comp, h3⟩, k, comp, h2, h3, h0, h1⟩
  have hl0 : ∀ i, ∃ q : Nat × Nat, i < 17 → vk_S 1 [stLen.getD i 0] [stByt.getD i []] (fun _ => q.1) (fun _ => q.2) (fun q => s.heap.size - 1 < q) s s.heap ∧ (tmS i).eval #[Value.ref b] s none [] s = some (.ref q.1) := fun i => by
    by_cases h : i < 17
    · have h1 := lit_ok ⟨i, h⟩
      simp only [Bool.and_eq_true, decide_eq_true_eq, List.all_eq_true, List.mem_range] at h1
      obtain ⟨⟨⟨⟨h1, h2⟩, h3⟩, h4⟩, h5⟩ := h1
      have z : ∀ j : Nat, j < 1 → j = 0 := fun j hj => by omega
      have hlen := (st_all i h).2.1
      obtain ⟨aK, aV, k1, k2⟩ := vk_Sof (args := #[Value.ref b]) (s := s) (N := 1) (tm := fun _ => tmS i) (len := [stLen.getD i 0]) (byt := [stByt.getD i []]) (A := fun q => s.heap.size - 1 < q) (fun j hj => by rw [z j hj]; show stLen.getD i 0 < 2 ^ 31; omega) (fun j hj => hs _ h1) (fun j hj => hs _ h2) (fun j hj => hs _ h3) (fun j hj => by rw [z j hj]; exact hs _ h4) (fun j hj => by rw [z j hj]; exact fun m hm => hs _ (h5 m hm)) (fun i j hi hj e => absurd ((z i hi).trans (z j hj).symm) e) hA
      refine ⟨(aK 0, aV 0), fun _ => ⟨⟨fun j hj => ?_, fun i j hi hj _ => (z i hi).trans (z j hj).symm⟩, k2 0 Nat.zero_lt_one⟩⟩
      rw [z j hj]
      exact k1.1 0 Nat.zero_lt_one
    · exact ⟨(0, 0), fun z => absurd z h⟩
  obtain ⟨K, hK⟩ := Classical.axiomOfChoice hl0
  have hz : ∃ t : Nat, va_Z "jdk/internal/util/Preconditions" "SIOOBE_FORMATTER" "Ljava/util/function/BiFunction;" .null (fun q => s.heap.size - 1 < q) s s.heap ∨ va_Z "jdk/internal/util/Preconditions" "SIOOBE_FORMATTER" "Ljava/util/function/BiFunction;" (.ref t) (fun q => s.heap.size - 1 < q) s s.heap := by
    rcases va_Zqof (hts _ w5) (hts _ w6) (hs _ v2) hA with h | ⟨t, h⟩
    · exact ⟨0, Or.inl h⟩
    · exact ⟨t, Or.inr h⟩
  obtain ⟨tS, hz⟩ := hz
  refine ⟨(l, s.heap.size - 1, fun c => (D c).1, fun c => (D c).2, fun k => match k with | 0 => a0 | 1 => a1 | 2 => a2 | 3 => a3 | _ => a4, fun k => if k < 17 then (K k).1 else if k = 200 then tS else (K (k - 100)).2, s.heap, b, fun k => (K k).2), rfl, by show s.heap.size - 1 + 1 = _; omega, rfl, rfl, ?_⟩
  refine ⟨⟨fun c q hq => ?_, fun k q hq => ?_⟩, fun w hw => ?_, fun k q hq => ?_, ⟨fun i hi => ?_, fun k hk => ?_, hz⟩, va_Zof (hts _ w3) (hts _ w4) (va_eqi (hs _ v1)) hA, hts _ w2, hts _ w1⟩
  · have hc : c < 10 := by
      have := (List.getElem?_eq_some_iff.mp hq).1
      exact this
    rw [cl_at hc] at hq
    cases hq
    exact hD c hc
  · have hk : k < 5 := (List.getElem?_eq_some_iff.mp hq).1
    rcases (show k = 0 ∨ k = 1 ∨ k = 2 ∨ k = 3 ∨ k = 4 by omega) with rfl | rfl | rfl | rfl | rfl
    · cases hq; exact b0
    · cases hq; exact b1
    · cases hq; exact b2
    · cases hq; exact b3
    · cases hq; exact b4
  · obtain ⟨h1, h2⟩ := List.mem_filter.mp hw
    have h3 := hts w h1
    cases w <;> first | exact va_Nw.of rfl h3 | (simp [isNestW] at h2)
  · have hk : k < 17 := (List.getElem?_eq_some_iff.mp hq).1
    have e : stT.getD k ("", 0, "", 0, []) = q := by rw [List.getD_eq_getElem?_getD, hq]; rfl
    have h1 := lit_ref ⟨k, hk⟩
    have h2 := (hK k hk).2
    unfold tmS at h2
    simp only [e] at h1 h2
    refine vk_R.of (hts _ h1) ?_
    show _ = some (Value.ref (if k < 17 then (K k).1 else _))
    rw [if_pos hk]; exact h2
  · have h1 := (hK i hi).1
    show vk_S 1 _ _ (fun _ => if i < 17 then (K i).1 else _) _ _ _ _
    rw [if_pos hi]
    exact h1
  · show (K k).2 = if 100 + k < 17 then _ else if 100 + k = 200 then _ else (K (100 + k - 100)).2
    rw [if_neg (by omega), if_neg (by omega), Nat.add_sub_cancel_left]
