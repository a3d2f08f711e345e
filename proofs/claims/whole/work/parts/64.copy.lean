/-! A row is copied into another one. -/
def cpS (σ : HS) (h0 h1 sp dp n : Nat) : HS := (fun a b => if a = h1 then va_cpy (sI σ h0) (sI σ h1) sp dp n b else sI σ a b, sL σ, sR σ, sN σ)
theorem cpS_I {σ : HS} {h0 h1 sp dp n a b : Nat} : sI (cpS σ h0 h1 sp dp n) a b = if a = h1 ∧ dp ≤ b ∧ b < dp + n then sI σ h0 (sp + (b - dp)) else sI σ a b := by
  show (if a = h1 then va_cpy (sI σ h0) (sI σ h1) sp dp n b else sI σ a b) = _
  unfold va_cpy
  by_cases e : a = h1
  · rw [if_pos e]
    by_cases e2 : dp ≤ b ∧ b < dp + n
    · rw [if_pos e2, if_pos ⟨e, e2⟩]
    · rw [if_neg e2, if_neg fun z => e2 z.2, e]
  · rw [if_neg e, if_neg fun z => e z.1]
section CPY
variable {g : GG} {M : MI} {d mc ms : Nat} {Z : List Frame → Array Value → State → State → Prop} {cl sl pc : Nat} {ls : List (Nat × Value)} {σ : HS}
theorem q_copy {idx t n0 n1 h0 h1 sp dp n : Nat} {ty : FieldType} (hd : decode M.2.1 pc = .ok (.invokestatic idx, 3)) (hl1 : Cond.methodLink M.1.cls idx arraycopyName ∈ GW) (hl2 : Cond.native arraycopyName ∈ GW) (hl3 : Cond.static arraycopyName ∈ GW) (hl4 : Cond.initialized "java/lang/System" ∈ GW) (ht : (t = 0 ∧ ty = .int) ∨ (t = 1 ∧ ty = .byte)) (hT0 : TYP σ h0 (.inr (t, n0))) (hT1 : TYP σ h1 (.inr (t, n1))) (h4 : sp + n ≤ n0) (h5 : dp + n ≤ n1) (hb : n0 ≤ 100000 ∧ n1 ≤ 100000) (hfit : ∀ i, i < n → fits ty (.int (sI σ h0 (sp + i))) = true) (hd1 : 1 ≤ d) (k : WA g M d mc ms Z cl sl (pc + 3) ls [] (cpS σ h0 h1 sp dp n)) : WA g M d mc ms Z cl sl pc ls [.int (nI n), .int (nI dp), .ref h1, .int (nI sp), .ref h0] σ := by
  intro p e s m args below meth c H locs la hX hR hS hl
  have hts := hX.2.2.2.2.1
  have h3 : t < 3 := by omega
  have q0 := q_rows (g := g) hT0 h3
  have q1 := q_rows (g := g) hT1 h3
  have hK := hX.2.2.2.2.2.1.1
  have hD := wl_D g σ
  have en : (nI n).toNatClampNeg = n := nI_clamp (by omega)
  have es : (nI sp).toNatClampNeg = sp := nI_clamp (by omega)
  have ed : (nI dp).toNatClampNeg = dp := nI_clamp (by omega)
  have hty : (gT g)[t]? = some (gY g t, ty) := by rcases ht with ⟨rfl, rfl⟩ | ⟨rfl, rfl⟩ <;> rfl
  have hprim : refKind ty = false := by rcases ht with ⟨-, rfl⟩ | ⟨-, rfl⟩ <;> rfl
  rw [List.map_cons, List.map_cons, List.map_cons, List.map_cons, List.map_cons, List.map_nil, show tr g (.ref h0) = .ref (gA g + h0) from rf_pos hT0.1, show tr g (.ref h1) = .ref (gA g + h1) from rf_pos hT1.1]
  intro T hT X
  have hc0 : H[gA g + h0]? = some (vp_cell (gY g t) (n0, .inl (sI σ h0))) := hR.1 (h0 - 1) _ q0
  have hc1 : H[gA g + h1]? = some (vp_cell (gY g t) (n1, .inl (sI σ h1))) := hR.1 (h1 - 1) _ q1
  obtain ⟨-, k0, hk0, cm0, hkk0⟩ := (hK.2 t _ hty).1 n0 (fun j => .int (sI σ h0 j))
  obtain ⟨-, k1, hk1, cm1, hkk1⟩ := (hK.2 t _ hty).1 n1 (fun j => .int (sI σ h1 j))
  have hnf : nativeFrameWords "java/lang/System" "arraycopy" 5 ≤ 20 := by decide +kernel
  obtain ⟨vm', X', step⟩ := X.arraycopy hX.1 hX.2.2.2.1 (hts _ hl1) (hts _ hl2) (hts _ hl3) (hts _ hl4) (src := gA g + h0) (dst := gA g + h1) (cs := vp_cell (gY g t) (n0, .inl (sI σ h0))) (cd := vp_cell (gY g t) (n1, .inl (sI σ h1))) (srcPos := nI sp) (destPos := nI dp) (n := nI n) (by rw [hT]; exact hc0) (by rw [hT]; exact hc1)
    (fun _ h => by cases h) (fun _ h => by cases h) (fun h => by cases h) (fun h => by cases h) hk0 hk1 hkk0 hkk1 (by simp [hprim]) (nI_pos (by omega)) (nI_pos (by omega)) (nI_pos (by omega))
    (by rw [nI_toInt (by omega), nI_toInt (by omega)]; show ¬ _ > ((arrV (gY g t) n0 (fun j => .int (sI σ h0 j))).slots.size : Int); rw [arrV_size]; omega)
    (by rw [nI_toInt (by omega), nI_toInt (by omega)]; show ¬ _ > ((arrV (gY g t) n1 (fun j => .int (sI σ h1 j))).slots.size : Int); rw [arrV_size]; omega)
    (fun vm₁ _ i hi => by
      rw [en] at hi
      have e : (vp_cell (gY g t) (n0, .inl (sI σ h0))).slots.getD ((nI sp).toNatClampNeg + i) .null = .int (sI σ h0 (sp + i)) := by
        show (arrV (gY g t) n0 (fun j => .int (sI σ h0 j))).slots.getD _ _ = _
        rw [es, Array.getD_eq_getD_getElem?, arrV_read _ _ (by omega)]
        rfl
      refine ⟨?_, ?_⟩
      · rw [e]; exact hfit i hi
      · rw [e]; exact trivial)
    (g := F0 m pc la [.int (nI n), .int (nI dp), .ref (gA g + h1), .int (nI sp), .ref (gA g + h0)]) rfl (by rw [hX.2.2.1]; exact hl.1) (rest := []) rfl (by rw [hX.2.1]; exact hd) hd1 (by show 2 * 0 + 0 + (nativeFrameWords "java/lang/System" "arraycopy" 5 + 11) ≤ 39 * d + 3; omega)
  have e1 : copied (vp_cell (gY g t) (n0, .inl (sI σ h0))) (vp_cell (gY g t) (n1, .inl (sI σ h1))) (nI sp) (nI dp) (nI n) = vp_cell (gY g t) (n1, .inl (va_cpy (sI σ h0) (sI σ h1) sp dp n)) := by
    have this : copied (vp_cell (gY g t) (n0, .inl (sI σ h0))) (vp_cell (gY g t) (n1, .inl (sI σ h1))) (nI sp) (nI dp) (nI n) = vp_cell (gY g t) (n1, .inl (va_cpy (sI σ h0) (sI σ h1) (nI sp).toNatClampNeg (nI dp).toNatClampNeg (nI n).toNatClampNeg)) := va_copied (fun z => .int z) (gY g t) (gY g t) (sI σ h0) (sI σ h1) (by rw [es, en]; exact h4)
    rw [es, ed, en] at this
    exact this
  rw [e1] at X' step
  have hlt : gA g + h1 < H.size := (Array.getElem?_eq_some_iff.mp hc1).1
  have hheap : ((T.setVm vm').setCell (gA g + h1) (vp_cell (gY g t) (n1, .inl (va_cpy (sI σ h0) (sI σ h1) sp dp n)))).heap = H.setIfInBounds (gA g + h1) (vp_cell (gY g t) (n1, .inl (va_cpy (sI σ h0) (sI σ h1) sp dp n))) := by rw [← hT]; rfl
  have oq : ∀ q : Nat, q ≠ gA g + h1 → (H.setIfInBounds (gA g + h1) (vp_cell (gY g t) (n1, .inl (va_cpy (sI σ h0) (sI σ h1) sp dp n))))[q]? = H[q]? := fun q hq => by simp [Array.getElem?_setIfInBounds, Ne.symm hq]
  have hRel : RelH g (cpS σ h0 h1 sp dp n) (H.setIfInBounds (gA g + h1) (vp_cell (gY g t) (n1, .inl (va_cpy (sI σ h0) (sI σ h1) sp dp n)))) := by
    have hI : sI (cpS σ h0 h1 sp dp n) h1 = va_cpy (sI σ h0) (sI σ h1) sp dp n := funext fun b => if_pos rfl
    refine rel_put hT1.1 hT1.2.1 rfl (ce_other (fun a ha => funext fun b => if_neg ha) (fun _ _ => rfl) (fun _ _ => rfl)) (by rw [Array.size_setIfInBounds]; exact hR.2) ?_
    rw [ce_int hT1.2.2 h3, hI]
    exact hR.1.set hD q1 (show (H.setIfInBounds (gA g + h1) _)[gA g + h1]? = some _ by simp [Array.getElem?_setIfInBounds, hlt]) oq
  obtain ⟨t', a1, b1⟩ := k p e s m args below meth c _ _ la hX hRel ⟨by simp; exact hS.1, fun q g1 g2 => by
      rw [oq q (fun e => g2 (by rw [e]; exact hD.2 _ _ q1))]
      exact hS.2.1 q g1 g2, fun q hq => by
      rcases List.mem_append.mp hq with h | h
      · exact hS.2.2 q h
      · obtain ⟨z, -, hz⟩ := List.mem_map.mp h
        rw [← hz]
        exact hD.2 _ _ q1⟩ hl _ hheap X'
  exact ⟨t', step t' a1, b1⟩
end CPY
set_option maxRecDepth 100000 in
theorem cy_n : Cond.native arraycopyName ∈ GW := gw_of 1004 rfl rfl
set_option maxRecDepth 100000 in
theorem cy_s : Cond.static arraycopyName ∈ GW := gw_of 1003 rfl rfl
set_option maxRecDepth 100000 in
theorem cy_i : Cond.initialized "java/lang/System" ∈ GW := gw_of 158 rfl rfl
set_option maxRecDepth 100000 in
theorem cy_3 : Cond.methodLink RX3 64 arraycopyName ∈ GW := gw_of 1002 rfl rfl
set_option maxRecDepth 100000 in
theorem cy_5 : Cond.methodLink RX5 25 arraycopyName ∈ GW := gw_of 1194 rfl rfl
