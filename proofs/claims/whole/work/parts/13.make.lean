/-! Making of cells. -/
theorem nH_I {σ : HS} {a : Nat} (h : a ≠ sN σ + 1) : sI (nH σ) a = sI σ a := by
  funext b
  show (if a = sN σ + 1 then 0 else sI σ a b) = sI σ a b
  rw [if_neg h]
theorem nH_L {σ : HS} {a : Nat} (h : a ≠ sN σ + 1) : sL (nH σ) a = sL σ a := by
  funext b
  show (if a = sN σ + 1 then 0 else sL σ a b) = sL σ a b
  rw [if_neg h]
theorem nH_R {σ : HS} {a : Nat} (h : a ≠ sN σ + 1) : sR (nH σ) a = sR σ a := by
  funext b
  show (if a = sN σ + 1 then 0 else sR σ a b) = sR σ a b
  rw [if_neg h]
theorem nH_I0 {σ : HS} {b : Nat} : sI (nH σ) (sN σ + 1) b = 0 := if_pos rfl
theorem nH_L0 {σ : HS} {b : Nat} : sL (nH σ) (sN σ + 1) b = 0 := if_pos rfl
theorem nH_R0 {σ : HS} {b : Nat} : sR (nH σ) (sN σ + 1) b = 0 := if_pos rfl
theorem ce_old {g : GG} {σ : HS} : ∀ k, k ≤ sN σ → ce g (nH σ) k = ce g σ k := by
  intro k hk
  have h : k ≠ sN σ + 1 := by omega
  unfold ce
  rw [nH_I h, nH_L h, nH_R h]
theorem rel_new {g : GG} {σ : HS} {H H1 : Heap} (hR : RelH g σ H) (hz : H1.size = H.size + 1) (ho : ∀ q, q < H.size → H1[q]? = H[q]?) (hc : va_at (gD g) vwCl (H.size, ce g (nH σ) (sN σ + 1)) H1) : RelH g (nH σ) H1 := by
  refine ⟨?_, by rw [hz, hR.2]; show gA g + 1 + sN σ + 1 = gA g + 1 + (sN σ + 1); omega⟩
  rw [wl_push (σ' := nH σ) rfl ce_old]
  refine (hR.1.kept (fun k q hq => ho q.1 ((hR.1 k q hq).lt))).app (fun k q hq => ?_)
  have h0 : k < 1 := (List.getElem?_eq_some_iff.mp hq).1
  rw [show k = 0 by omega] at hq
  cases hq
  rw [← hR.2]
  exact hc
theorem s_new {g : GG} {H H1 : Heap} {locs : List Loc} (hS : va_S (fr g) (gH g) H locs) (hz : H1.size = H.size + 1) (ho : ∀ q, q < H.size → H1[q]? = H[q]?) : va_S (fr g) (gH g) H1 locs := ⟨by have := hS.1; omega, fun q h1 h2 => (ho q (Nat.lt_of_lt_of_le h1 hS.1)).trans (hS.2.1 q h1 h2), hS.2.2⟩
def okF (t : FieldType) : Bool := match t with | .int => true | .long => true | .boolean => true | .object _ => true | .array _ => true | _ => false
theorem cl_okF : ∀ c, c < 10 → ∀ k, k < clN c → okF (clY c k) = true := by decide +kernel
theorem okF_def {g : GG} {t : FieldType} (h : okF t = true) : defaultValue t = fv g (fkind t) 0 0 0 := by cases t <;> first | rfl | (simp [okF] at h)
theorem vr_outer (c : ClassId) (N h0 : Nat) : ∀ i : Nat, Jvm.Free.Multi.outerC c N h0 i = arrV c N (fun j => va_rf (if j < i then some (h0 + 1 + j) else none))
  | 0 => by
    show ({ cls := c, slots := Array.replicate N .null, vm := .none } : Cell) = _
    rw [arrV_new]
    refine congrArg (arrV c N) (funext fun j => ?_)
    simp [va_rf]
  | i + 1 => by
    show (Jvm.Free.Multi.outerC c N h0 i).setSlot i (.ref (h0 + 1 + i)) = _
    rw [vr_outer c N h0 i, arrV_store]
    refine congrArg (arrV c N) (funext fun j => ?_)
    by_cases e : j = i
    · subst e
      simp [updV, va_rf]
    · by_cases h : j < i
      · simp [updV, e, h, Nat.lt_succ_of_lt h]
      · simp [updV, e, h, show ¬ j < i + 1 by omega]
theorem rel_of {g : GG} {σ : HS} {H : Heap} (hz : H.size = gA g + 1 + sN σ) (h : ∀ k, 1 ≤ k → k ≤ sN σ → va_at (gD g) vwCl (gA g + k, ce g σ k) H) : RelH g σ H := by
  refine ⟨fun i q hq => ?_, hz⟩
  have hi : i < sN σ := by
    have := (List.getElem?_eq_some_iff.mp hq).1
    rwa [wl_len] at this
  have := wl_get (g := g) (σ := σ) (h := i + 1) (by omega) (by omega)
  rw [show i + 1 - 1 = i by omega, hq] at this
  cases this
  exact h (i + 1) (by omega) (by omega)
section QM
variable {g : GG} {M : MI} {d mc ms : Nat} {Z : List Frame → Array Value → State → State → Prop} {cl sl pc : Nat} {ls ls' : List (Nat × Value)} {st : List Value} {σ : HS}
theorem q_new {idx ci h : Nat} (hd : decode M.2.1 pc = .ok (.new idx, 3)) (hci : ci < 10) (h1 : Cond.classLink M.1.cls idx (clC ci) ∈ GW) (h2 : Cond.instantiable (clC ci) (clN ci) ∈ GW) (h3 : Cond.initialized (clC ci) ∈ GW) (hh : h = sN σ + 1) (ht : TY h = .inl ci) (hcl : cl + 1 ≤ mc) (hsl : sl + clN ci ≤ ms) (k : WA g M d mc ms Z (cl + 1) (sl + clN ci) (pc + 3) ls (.ref h :: st) (nH σ)) : WA g M d mc ms Z cl sl pc ls st σ := by
  intro p e s m args below meth c H locs la hX hR hS hl
  subst hh
  have hts := hX.2.2.2.2.1
  have hK := hX.2.2.2.2.2.1.1
  have hKn := hK.1 ci _ (cl_at hci)
  refine W.newcK hX.1 hX.2.1 hX.2.2.2.1 (hts _ h1) (hts _ h2) (hts _ h3) rfl hd hcl hsl hKn.2.1 rfl fun H1 kC hkC e1 z1 o1 => ?_
  have k1 := k p e s m args below meth c H1 locs la hX (rel_new hR z1 o1 ?_) (s_new hS z1 o1) hl
  · rw [List.map_cons, show tr g (.ref (sN σ + 1)) = .ref (gA g + (sN σ + 1)) from rf_pos (by omega), show gA g + (sN σ + 1) = H.size by rw [hR.2]; omega] at k1
    exact k1
  · rw [ce_obj ht]
    refine ⟨_, cl_at hci, (u_born (clY ci) hts (cl_in hci) hKn hkC e1 (cl_ty hci)).to fun j hj => ?_⟩
    rw [okF_def (g := g) (cl_okF ci hci j hj)]
    show _ = ((List.range (clN ci)).map _).getD j Value.null
    rw [List.getD_eq_getElem?_getD, fv_at hj, nH_I0, nH_L0, nH_R0]
    rfl
theorem q_newa {at' : ArrayType} {t n h : Nat} {x : Int32} (hd : decode M.2.1 pc = .ok (.newarray at', 2)) (hk : (t = 0 ∧ at' = .int) ∨ (t = 1 ∧ at' = .byte) ∨ (t = 2 ∧ at' = .boolean)) (hw : Cond.arrayClass (newarray.typeOf at') ∈ GW) (hx : x = nI n) (hn : n ≤ 100000) (hh : h = sN σ + 1) (ht : TY h = .inr (t, n)) (hcl : cl + 1 ≤ mc) (hsl : sl + n ≤ ms) (k : WA g M d mc ms Z (cl + 1) (sl + n) (pc + 2) ls (.ref h :: st) (nH σ)) : WA g M d mc ms Z cl sl pc ls (.int x :: st) σ := by
  intro p e s m args below meth c H locs la hX hR hS hl
  subst hh
  subst hx
  have hts := hX.2.2.2.2.1
  have hK := hX.2.2.2.2.2.1.1
  have hcl2 : (nI n).toNatClampNeg = n := nI_clamp (by omega)
  refine va_newaK hX.1 hX.2.1 (hts _ hw) rfl hd rfl (nI_pos (by omega)) hcl2 (by rcases hk with ⟨-, rfl⟩ | ⟨-, rfl⟩ | ⟨-, rfl⟩ <;> simp only [newarray.typeOf, componentBytes] <;> omega) hcl hsl rfl fun H1 cA e1 z1 o1 hAr hNm => ?_
  have k1 := k p e s m args below meth c H1 locs la hX (rel_new hR z1 o1 ?_) (s_new hS z1 o1) hl
  · rw [List.map_cons, show tr g (.ref (sN σ + 1)) = .ref (gA g + (sN σ + 1)) from rf_pos (by omega), show gA g + (sN σ + 1) = H.size by rw [hR.2]; omega] at k1
    exact k1
  · rw [ce_int ht (by rcases hk with ⟨rfl, -⟩ | ⟨rfl, -⟩ | ⟨rfl, -⟩ <;> omega)]
    have h0 : sI (nH σ) (sN σ + 1) = fun _ => 0 := funext fun b => nH_I0
    show H1[H.size]? = some (vp_cell (gY g t) (n, .inl (sI (nH σ) (sN σ + 1))))
    rw [h0, e1, vp_cell_i]
    rcases hk with ⟨rfl, rfl⟩ | ⟨rfl, rfl⟩ | ⟨rfl, rfl⟩
    · rw [show cA = gY g 0 from Option.some.inj (hNm.symm.trans (hK.2 0 _ rfl).2)]; rfl
    · rw [show cA = gY g 1 from Option.some.inj (hNm.symm.trans (hK.2 1 _ rfl).2)]; rfl
    · rw [show cA = gY g 2 from Option.some.inj (hNm.symm.trans (hK.2 2 _ rfl).2)]; rfl
theorem q_anew {idx n h : Nat} {x : Int32} (hd : decode M.2.1 pc = .ok (.anewarray idx, 3)) (hw : Cond.classLink M.1.cls idx RX2 ∈ GW) (hx : x = nI n) (hn : n ≤ 100000) (hh : h = sN σ + 1) (ht : TY h = .inr (4, n)) (hcl : cl + 1 ≤ mc) (hsl : sl + n ≤ ms) (k : WA g M d mc ms Z (cl + 1) (sl + n) (pc + 3) ls (.ref h :: st) (nH σ)) : WA g M d mc ms Z cl sl pc ls (.int x :: st) σ := by
  intro p e s m args below meth c H locs la hX hR hS hl
  subst hh
  subst hx
  have hts := hX.2.2.2.2.1
  have hK := hX.2.2.2.2.2.1.1
  have hcl2 : (nI n).toNatClampNeg = n := nI_clamp (by omega)
  refine W.anew (H := H) hX.1 hX.2.1 hX.2.2.2.1 (hts _ hw) (va_AO.use hX.2.2.2.2.2.1.2.2.2.2.2.1) rfl hd rfl (nI_pos (by omega)) (by rw [hcl2]; omega) hcl (by rw [hcl2]; exact hsl) fun cA kA comp f1 f2 f3 f4 => ?_
  rw [hcl2]
  generalize hH1 : H.push ({ cls := cA, slots := Array.replicate n .null, vm := .none } : Cell) = H1
  have z1 : H1.size = H.size + 1 := by rw [← hH1, Array.size_push]
  have e1 : H1[H.size]? = some (arrV cA n (fun _ => .null)) := by rw [← hH1, Array.getElem?_push_size, ← arrV_new]
  have o1 : ∀ q : Nat, q < H.size → H1[q]? = H[q]? := fun q hq => by rw [← hH1, Array.getElem?_push, if_neg (Nat.ne_of_lt hq)]
  have k1 := k p e s m args below meth c H1 locs la hX (rel_new hR z1 o1 ?_) (s_new hS z1 o1) hl
  · rw [List.map_cons, show tr g (.ref (sN σ + 1)) = .ref (gA g + (sN σ + 1)) from rf_pos (by omega), show gA g + (sN σ + 1) = H.size by rw [hR.2]; omega] at k1
    exact k1
  · rw [ce_ref ht (by omega)]
    have h0 : sR (nH σ) (sN σ + 1) = fun _ => 0 := funext fun b => nH_R0
    show H1[H.size]? = some (vp_cell (gY g 4) _)
    obtain ⟨kA2, comp2, g1, g2, g3, g4⟩ := (hK.2 4 _ rfl).2
    rw [h0, e1, vp_cell_q]
    rw [show cA = gY g 4 from Option.some.inj (f1.symm.trans g4)]
    rfl
theorem q_mna {idx n h : Nat} {x : Int32} (hd : decode M.2.1 pc = .ok (.multianewarray idx 2, 4)) (hw : Cond.classLink M.1.cls idx "[[I" ∈ GW) (hw2 : Cond.arrayClass .int ∈ GW) (hx : x = nI n) (hn : n ≤ 100000) (hh : h = sN σ + 1) (ht : TY h = .inr (3, 2)) (ht1 : TY (h + 1) = .inr (0, n)) (ht2 : TY (h + 2) = .inr (0, n)) (hcl : cl + 3 ≤ mc) (hsl : sl + (2 + 2 * n) ≤ ms)
    (k : WA g M d mc ms Z (cl + 3) (sl + (2 + 2 * n)) (pc + 4) ls (.ref h :: st) (uR (uR (nH (nH (nH σ))) h 0 (h + 1)) h 1 (h + 2))) : WA g M d mc ms Z cl sl pc ls (.int x :: .int 2 :: st) σ := by
  intro p e s m args below meth c H locs la hX hR hS hl
  subst hh
  subst hx
  have hts := hX.2.2.2.2.1
  have hK := hX.2.2.2.2.2.1.1
  have hcl2 : (nI n).toNatClampNeg = n := nI_clamp (by omega)
  have hc2 : (2 : Int32).toNatClampNeg = 2 := rfl
  intro T hT Xs
  obtain ⟨vm₁, cA, comp, -, fA, fC, hO, -, X', step⟩ := Xs.multianewarray2F (ty := .int) hX.1 hX.2.2.2.1 (hts _ hw) hX.2.2.2.2.2.1.2.2.2.2.2.2 (hts _ hw2) (g := F0 m pc la (.int (nI n) :: .int 2 :: st.map (tr g))) rfl (by rw [hX.2.1]; exact hd) rfl (by decide) (nI_pos (by omega)) (by rw [hc2]; omega) (by rw [hcl2]; simp only [componentBytes]; omega) (by rw [hcl2]; omega) rfl rfl (by rw [hc2]; exact hcl) (by rw [hc2, hcl2]; exact hsl)
  rw [hcl2, hc2] at X' step
  have eC : comp = gY g 0 := Option.some.inj (fC.symm.trans (hK.2 0 _ rfl).2)
  have eA : cA = gY g 3 := Option.some.inj (fA.symm.trans (hK.2 3 _ rfl).2)
  subst eC
  subst eA
  have hTh : (T.setVm vm₁).heap = H := hT
  generalize hF : Jvm.Free.Multi.fill (T.setVm vm₁) (gY g 3) (gY g 0) 2 n (defaultValue .int) 2 = F at X' step
  obtain ⟨f1, f2, -, -⟩ := Jvm.Free.Multi.fill_facts (T.setVm vm₁) (gY g 3) (gY g 0) 2 n (defaultValue .int) 2
  rw [hF, hTh] at f1 f2
  have hold : ∀ x : Nat, x < H.size → F.heap[x]? = H[x]? := fun x hx => by
    have := Jvm.Free.Multi.fill_old (T.setVm vm₁) (gY g 3) (gY g 0) 2 n (defaultValue .int) (a := x) (by rw [hTh]; exact hx) 2
    rw [hF, hTh] at this
    exact this
  have hrow : ∀ j : Nat, j < 2 → F.heap[H.size + 1 + j]? = some (vp_cell (gY g 0) (n, .inl (fun _ => 0))) := fun j hj => by
    have := Jvm.Free.Multi.fill_inner (T.setVm vm₁) (gY g 3) (gY g 0) 2 n (defaultValue .int) 2 j hj
    rw [hF, hTh] at this
    rw [this, vp_cell_i, ← arrV_new]
    rfl
  have hz := hR.2
  rw [vr_outer] at f2
  have hRel : RelH g (uR (uR (nH (nH (nH σ))) (sN σ + 1) 0 (sN σ + 2)) (sN σ + 1) 1 (sN σ + 3)) F.heap := by
    refine rel_of (by rw [f1, hz]; show gA g + 1 + sN σ + 1 + 2 = gA g + 1 + (sN σ + 1 + 1 + 1); omega) fun k h1 h2 => ?_
    have h2' : k ≤ sN σ + 3 := h2
    by_cases hk : k ≤ sN σ
    · have e0 : ce g (uR (uR (nH (nH (nH σ))) (sN σ + 1) 0 (sN σ + 2)) (sN σ + 1) 1 (sN σ + 3)) k = ce g σ k := by
        have a1 : k ≠ sN σ + 1 := by omega
        rw [ce_other (σ := nH (nH (nH σ))) (σ' := uR (uR (nH (nH (nH σ))) (sN σ + 1) 0 (sN σ + 2)) (sN σ + 1) 1 (sN σ + 3)) (h := sN σ + 1) (fun _ _ => rfl) (fun _ _ => rfl) (fun a ha => by rw [uR_off ha, uR_off ha]) k a1]
        rw [ce_old (σ := nH (nH σ)) k (by show k ≤ sN σ + 1 + 1; omega), ce_old (σ := nH σ) k (by show k ≤ sN σ + 1; omega), ce_old k hk]
      rw [e0]
      have := (hR.1 (k - 1) _ (wl_get h1 hk))
      refine this.kept (hold _ this.lt)
    · have hI3 : ∀ a, sN σ < a → a ≤ sN σ + 3 → sI (uR (uR (nH (nH (nH σ))) (sN σ + 1) 0 (sN σ + 2)) (sN σ + 1) 1 (sN σ + 3)) a = fun _ => 0 := by
        intro a g1 g2
        funext b
        show (if a = sN σ + 1 + 1 + 1 then (0 : Int32) else if a = sN σ + 1 + 1 then 0 else if a = sN σ + 1 then 0 else sI σ a b) = 0
        rcases (show a = sN σ + 1 ∨ a = sN σ + 2 ∨ a = sN σ + 3 by omega) with q | q | q <;> simp [q]
      rcases (show k = sN σ + 1 ∨ k = sN σ + 2 ∨ k = sN σ + 3 by omega) with rfl | rfl | rfl
      · rw [ce_ref ht (by omega)]
        show F.heap[gA g + (sN σ + 1)]? = some (vp_cell (gY g 3) _)
        rw [show gA g + (sN σ + 1) = H.size by omega, f2, vp_cell_q]
        congr 1
        show arrV _ 2 _ = arrV _ 2 _
        unfold arrV
        congr 1
        apply congrArg
        funext j
        show va_rf (if j.val < 2 then some (H.size + 1 + j.val) else none) = va_rf (rfo g (sR _ (sN σ + 1) j.val))
        rcases (show j.val = 0 ∨ j.val = 1 by omega) with q | q
        · rw [q, uR_ne (by decide), uR_self]
          show va_rf (some _) = va_rf (some _)
          congr 2; omega
        · rw [q, uR_self]
          show va_rf (some _) = va_rf (some _)
          congr 2; omega
      · rw [ce_int ht1 (by omega), hI3 _ (by omega) (by omega)]
        show F.heap[gA g + (sN σ + 2)]? = _
        rw [show gA g + (sN σ + 2) = H.size + 1 + 0 by omega]
        exact hrow 0 (by omega)
      · rw [ce_int ht2 (by omega), hI3 _ (by omega) (by omega)]
        show F.heap[gA g + (sN σ + 3)]? = _
        rw [show gA g + (sN σ + 3) = H.size + 1 + 1 by omega]
        exact hrow 1 (by omega)
  obtain ⟨t, a1, b1⟩ := k p e s m args below meth c F.heap locs la hX hRel ⟨by have := hS.1; omega, fun q h1 h2 => (hold q (Nat.lt_of_lt_of_le h1 hS.1)).trans (hS.2.1 q h1 h2), hS.2.2⟩ hl F rfl (by
    have e2 : cl + 3 = cl + 1 + 2 := by omega
    have e3 : sl + (2 + 2 * n) = sl + 2 + 2 * n := by omega
    rw [e2, e3]
    exact X')
  refine ⟨t, step t ?_, b1⟩
  have e4 : tr g (.ref (sN σ + 1)) = .ref T.heap.size := by
    rw [show tr g (.ref (sN σ + 1)) = .ref (gA g + (sN σ + 1)) from rf_pos (by omega)]
    have e5 : T.heap.size = gA g + 1 + sN σ := (congrArg Array.size hT).trans hz
    have e6 : gA g + (sN σ + 1) = T.heap.size := by rw [e5]; exact (by omega : gA g + (sN σ + 1) = gA g + 1 + sN σ)
    exact congrArg Value.ref e6
  rw [List.map_cons, e4] at a1
  exact a1
/-- a reference to a Routine put into a row of them -/
theorem q_aast {i : Int32} {h j n r : Nat} (hd : decode M.2.1 pc = .ok (.aastore, 1)) (hT : TYP σ h (.inr (4, n))) (hi : IX i j n) (hr : TYP σ r (.inl 2)) (k : WA g M d mc ms Z cl sl (pc + 1) ls st (uR σ h j r)) : WA g M d mc ms Z cl sl pc ls (.ref r :: .int i :: .ref h :: st) σ := by
  intro p e s m args below meth c H locs la hX hR hS hl
  obtain ⟨hi1, rfl⟩ := hi
  have hK := hX.2.2.2.2.2.1.1
  rw [List.map_cons, List.map_cons, List.map_cons, show tr g (.ref h) = .ref (gA g + h) from rf_pos hT.1, show tr g (.ref r) = .ref (gA g + r) from rf_pos hr.1]
  have hq : (wl g σ)[h - 1]? = some (gA g + h, .inl (gY g 4, n, .inr (.inr (.inr (.inr (fun i => rfo g (sR σ h i))))))) := (wl_get hT.1 hT.2.1).trans (by rw [ce_ref hT.2.2 (by omega)])
  have hq2 : (wl g σ)[r - 1]? = some (gA g + r, .inr (2, _)) := (wl_get hr.1 hr.2.1).trans (by rw [ce_obj hr.2.2])
  have hlt : i.toNatClampNeg < n := Nat.not_le.mp fun q => hi1 (Or.inr q)
  have h0 : ¬ i < 0 := fun q => hi1 (Or.inl q)
  obtain ⟨r', hr', cellV, g1, g2, g3, -⟩ := hR.1 _ _ hq2
  have hcls := (hK.1 2 _ (cl_at (by omega))).2
  obtain ⟨kA, comp, k1, k2, k3, -⟩ := (hK.2 4 _ rfl).2
  have hcomp : comp = (gD g).1 2 := Option.some.inj (k3.symm.trans hcls.1)
  subst hcomp
  obtain ⟨kC, hkC, -⟩ := hcls.2
  refine W.aast hX.1 hX.2.1 (hR.1 _ _ hq) (fun q h => by cases h) (fun h => by cases h) k1 k2 rfl hkC ⟨h0, by show _ < (arrV _ _ _).slots.size; rw [arrV_size]; exact hlt⟩ g1 (fun q h => by rw [g3] at h; cases h) (by rw [g2]; exact hkC) (by rw [g2]; exact va_assign hcls) rfl rfl hd fun H1 e1 z oq => ?_
  have hD := wl_D g σ
  refine k p e s m args below meth c H1 _ la hX (rel_put (h := h) hT.1 hT.2.1 rfl (ce_other (fun _ _ => rfl) (fun _ _ => rfl) (fun a ha => uR_off ha)) (z.trans hR.2) (hR.1.set hD hq ?_ oq)) (hS.put z oq (hD.2 _ _ hq)) hl
  rw [ce_ref hT.2.2 (by omega)]
  show H1[gA g + h]? = some (vp_cell _ _)
  rw [e1, vp_cell_q, vp_cell_q, arrV_store]
  congr 2
  funext q
  by_cases hq' : q = i.toNatClampNeg
  · subst hq'
    rw [uR_self]
    have : ¬ r = 0 := by have := hr.1; omega
    simp [updV, rfo, this, va_rf]
  · rw [uR_ne hq']
    simp [updV, hq']
end QM
