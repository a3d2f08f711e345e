/-! Answers, calls, making of cells. -/
def wc (v : Value) : Nat := match v with | .long _ => 2 | _ => 1
theorem wc_tr (g : GG) (v : Value) : (tr g v).category = wc v := by
  have h1 := tr_cat g v
  cases h : isL v with
  | true => rw [wc_2 g h]; cases v <;> first | rfl | (simp [isL] at h)
  | false => rw [wc_1 g h]; cases v <;> first | rfl | (simp [isL] at h)
theorem wc_sum (g : GG) (vs : List Value) : ((vs.map (tr g)).map fun v => v.category).sum = (vs.map wc).sum := by
  rw [List.map_map]
  congr 1
  exact List.map_congr_left (fun v _ => wc_tr g v)
theorem wc_len (g : GG) : ∀ vs : List Value, (lg_sl (vs.map (tr g))).length = (vs.map wc).sum
  | [] => rfl
  | v :: vs => by
    have ih := wc_len g vs
    unfold lg_sl at ih ⊢
    rw [List.map_cons, List.flatMap_cons, List.length_append, ih, List.map_cons, List.sum_cons, ← wc_tr g v]
    rcases lv_cat (tr g v) with h | h <;> rw [h] <;> rfl
section QC
variable {g : GG} {M : MI} {d mc ms : Nat} {Z : List Frame → Array Value → State → State → Prop} {cl sl pc : Nat} {ls ls' : List (Nat × Value)} {st : List Value} {σ : HS} {Q : Option Value → HS → Prop}
theorem q_ireturn {v : Int32} {ty : FieldType} (hd : decode M.2.1 pc = .ok (.ireturn, 1)) (hr : M.2.2.2 = some ty) (hnz : narrow ty (.int v) = .int v) (hcl : cl ≤ mc) (hsl : sl ≤ ms) (hq : Q (some (.int v)) σ) : WA g M d mc ms (ZM g Q mc ms) cl sl pc ls [.int v] σ := by
  intro p e s m args below meth c H locs la hX hR hS hl
  refine W.widen hcl hsl ?_
  exact W.zret hX.1 hX.2.1 (hX.2.2.2.2.2.2.2.1.trans hr) hnz (fun t ht hW => ⟨some (.int v), σ, rfl, hq, by rw [ht]; exact hR, by rw [ht]; exact ⟨hS.1, hS.2.1, fun _ h => by cases h⟩⟩) hS.2.2 hd (hlocks := hX.2.2.2.2.2.2.1)
theorem q_lreturn {v : Int64} (hd : decode M.2.1 pc = .ok (.lreturn, 1)) (hr : M.2.2.2 = some .long) (hcl : cl ≤ mc) (hsl : sl ≤ ms) (hq : Q (some (.long v)) σ) : WA g M d mc ms (ZM g Q mc ms) cl sl pc ls [.long v] σ := by
  intro p e s m args below meth c H locs la hX hR hS hl
  refine W.widen hcl hsl ?_
  exact W.lret hX.1 hX.2.1 (hX.2.2.2.2.2.2.2.1.trans hr) (fun t ht hW => ⟨some (.long v), σ, rfl, hq, by rw [ht]; exact hR, by rw [ht]; exact ⟨hS.1, hS.2.1, fun _ h => by cases h⟩⟩) hS.2.2 hd (hlocks := hX.2.2.2.2.2.2.1)
theorem q_areturn {v : Value} {rt : FieldType} (hd : decode M.2.1 pc = .ok (.areturn, 1)) (hr : M.2.2.2 = some rt) (hrt : isReferenceType rt = true) (hv : isR v = true) (hcl : cl ≤ mc) (hsl : sl ≤ ms) (hq : Q (some v) σ) : WA g M d mc ms (ZM g Q mc ms) cl sl pc ls [v] σ := by
  intro p e s m args below meth c H locs la hX hR hS hl
  refine W.widen hcl hsl ?_
  exact W.aret (v := tr g v) hX.1 hX.2.1 (hX.2.2.2.2.2.2.2.1.trans hr) (by cases rt <;> simp [isReferenceType] at hrt ⊢) (tr_ref hv) (fun t ht hW => ⟨some v, σ, rfl, hq, by rw [ht]; exact hR, by rw [ht]; exact ⟨hS.1, hS.2.1, fun _ h => by cases h⟩⟩) hS.2.2 hd (hlocks := hX.2.2.2.2.2.2.1)
theorem q_return (hd : decode M.2.1 pc = .ok (.return_, 1)) (hr : M.2.2.2 = none) (hcl : cl ≤ mc) (hsl : sl ≤ ms) (hq : Q none σ) : WA g M d mc ms (ZM g Q mc ms) cl sl pc ls [] σ := by
  intro p e s m args below meth c H locs la hX hR hS hl
  refine W.widen hcl hsl ?_
  exact W.vret hX.1 hX.2.1 (hX.2.2.2.2.2.2.2.1.trans hr) (fun t ht hW => ⟨none, σ, rfl, hq, by rw [ht]; exact hR, by rw [ht]; exact ⟨hS.1, hS.2.1, fun _ h => by cases h⟩⟩) hS.2.2 hd (hlocks := hX.2.2.2.2.2.2.1)
theorem CT.of {as : List Value} (hpl : plainName M.1.cls = true) (hw : (as.map wc).sum ≤ M.2.2.1) (h : WA g M d mc ms (ZM g Q mc ms) 0 0 0 (lva 0 as) [] σ) : CT g M d mc ms as σ Q := by
  refine Met.ofW (cc := M.2.1) (maxL := M.2.2.1) (ret := M.2.2.2) hpl rfl ?_
  intro p e s m args below meth c s₁ B hml hv
  obtain ⟨rfl, hR, hK, hz, hS⟩ := hv
  have hts := atoms_spec (ws := wsM M) B.pre
  have hown : s.vm.findClass M.1.cls = some m.cls := findClass_of_methodNamed B.named
  have hnm := (name_of_methodNamed B.named B.method).1
  have hl := lv_entry (as.map (tr g)) (n := M.2.2.1) (by rw [wc_len]; exact hw)
  rw [lg_entry_eq]
  rw [lva_tr] at hl
  exact h p e s m _ below meth c s.heap [] _ ⟨B.exec, B.bytes, hml, hown, fun w hw => hts w (List.mem_cons_of_mem _ hw), hK, B.notSynchronized, B.returns, hnm, hz⟩ hR hS hl
theorem pc_blind {as : List Value} : FrameBlind (PcA g as σ) := fun a U gg mk h => ⟨h.1, h.2.1, KW.same (s := U) (U := U.calling gg mk a) rfl h.2.2.1, h.2.2.2.1, h.2.2.2.2⟩
theorem q_run {p : Program} {e : Env} {s : State} {m : MethodId} {args : Array Value} {below : List Frame} {meth : Method} {c : Code} {H : Heap} {locs : List Loc} {la : Array Slot} {stk : List Value} {rest : List Value} {mc' ms' : Nat} {a : Array Value}
    (hr : va_Run p (gL g) e (rm d mc ms) s m args below meth c H locs cl sl mc' ms' (F0 m pc la stk) (rest.map (tr g)) (QcA g Q a) (fr g))
    (hX : XOK g M p s m args meth c) (hS : va_S (fr g) (gH g) H locs) (hl : lv_has la M.2.2.1 (ls.map (trp g)))
    (k : ∀ r σ', Q r σ' → WA g M d mc ms Z (cl + mc') (sl + ms') (pc + 3) ls (r.toList ++ rest) σ') : W p (gL g) e (rm d mc ms) s m args below meth c H locs cl sl (Z below args s) (F0 m pc la stk) := by
  intro T hT Xs
  obtain ⟨v, st₀, t, T', L, h0, X', hL, e1, e2, hq, st⟩ := hr T hT Xs
  obtain ⟨r, σ', hv, hQ, hR', hS'⟩ := hq
  cases hv
  obtain ⟨t2, a1, b1⟩ := k r σ' hQ p e s m args below meth c T'.heap (locs ++ L) la hX (by rw [e1]; exact hR') ⟨by rw [e1]; exact hS'.1, fun q h1 h2 => by rw [e1]; exact hS'.2.1 q h1 h2, fun q hq => (List.mem_append.mp hq).elim (hS.2.2 q) (hL q)⟩ hl T' rfl X'
  refine ⟨t2, st t2 ?_, b1⟩
  cases r <;> exact a1
/-- what a call needs of the tables -/
def SB (M' : MI) (n : Nat) : Prop := Cond.initialized M'.1.cls ∈ GW ∧ Cond.code M'.1 M'.2.1 M'.2.2.1 M'.2.2.2 ∈ GW ∧ (M'.1.cls ≠ "java/lang/invoke/MethodHandle" ∧ M'.1.cls ≠ "java/lang/invoke/VarHandle" ∧ (parseMethodDescriptor M'.1.desc).map (fun d => d.parameters.length) = some n) ∧ M'.2.2.1 ≤ 20
def SV (own : String) (idx : Nat) (M' : MI) (n : Nat) : Prop := SB M' n ∧ Cond.methodLink own idx M'.1 ∈ GW ∧ Cond.instanceMethod M'.1 ∈ GW ∧ Cond.selects M'.1.cls M'.1 M'.1 ∈ GW
def SS (own : String) (idx : Nat) (M' : MI) (n : Nat) : Prop := SB M' n ∧ Cond.methodLink own idx M'.1 ∈ GW ∧ Cond.static M'.1 ∈ GW
def SI (own : String) (idx : Nat) (M' : MI) (n : Nat) : Prop := SB M' n ∧ Cond.methodLink own idx M'.1 ∈ GW ∧ Cond.instanceMethod M'.1 ∈ GW ∧ M'.1.name = "<init>" ∧ M'.2.2.2 = none
def SSN (own host : String) (idx : Nat) (M' : MI) (n : Nat) : Prop := SB M' n ∧ Cond.methodLinkNest own idx M'.1 host ∈ lw_tbl ∧ Cond.static M'.1 ∈ GW
def SIN (own host : String) (idx : Nat) (M' : MI) (n : Nat) : Prop := SB M' n ∧ Cond.methodLinkNest own idx M'.1 host ∈ lw_tbl ∧ Cond.instanceMethod M'.1 ∈ GW ∧ M'.1.name = "<init>" ∧ M'.2.2.2 = none
theorem rm_fit {d' maxL : Nat} (h : d' + 1 ≤ d) (hm : maxL ≤ 20) {mc' ms' : Nat} : (rm d' mc' ms').frames + 1 ≤ (rm d mc ms).frames ∧ 8 + (maxL + 11) + (rm d' mc' ms').locals ≤ (rm d mc ms).locals := ⟨h, by show 8 + (maxL + 11) + (39 * d' + 3) ≤ 39 * d + 3; omega⟩
theorem ws_good (M' : MI) (h : Cond.code M'.1 M'.2.1 M'.2.2.1 M'.2.2.2 ∈ GW) : GoodIn GW (wsM M') := gw_goodIn _ fun w hw => by
  rcases List.mem_cons.mp hw with rfl | hw
  · exact h
  · exact hw
theorem sb_call {own : String} {idx n d' mc' ms' : Nat} {M' : MI} {args : Array Value} {s : State} (hts : ∀ w ∈ GW, w.before args s = true) (h : SB M' n) (hl : (Cond.methodLink own idx M'.1) ∈ GW) (hdd : d' + 1 ≤ d) : CallB (rm d mc ms) s args own idx M'.1 M'.2.1 M'.2.2.1 M'.2.2.2 (wsM M') (rm d' mc' ms') mc' ms' n := callB_of n hts (ws_good M' h.2.1) rfl rfl rfl (hts _ h.1) (hts _ hl) h.2.2.1 (rm_fit hdd h.2.2.2)
theorem sb_nest {own host : String} {idx n d' mc' ms' : Nat} {M' : MI} {args : Array Value} {s : State} (hts : ∀ w ∈ GW, w.before args s = true) (hK : KW g s) (h : SB M' n) (hl : Cond.methodLinkNest own idx M'.1 host ∈ lw_tbl) (hdd : d' + 1 ≤ d) : va_CN (rm d mc ms) s args own idx M'.1 host M'.2.1 M'.2.2.1 M'.2.2.2 (wsM M') (rm d' mc' ms') mc' ms' n := va_cnB n hts (ws_good M' h.2.1) rfl rfl rfl (hK.2.1 _ (List.mem_filter.mpr ⟨hl, rfl⟩)) (hts _ h.1) h.2.2.1 (rm_fit hdd h.2.2.2)
theorem pc_at {as : List Value} {av : List Value} {s : State} {H : Heap} {locs : List Loc} (hz : (gH g).size = gA g + 1) (hK : KW g s) (hR : RelH g σ H) (hS : va_S (fr g) (gH g) H locs) (ha : av = as.map (tr g)) : ∀ U : State, U.heap = H → s.WarmedH U.vm → PcA g as σ av.toArray U := fun U hU hW => ⟨by rw [ha], by rw [hU]; exact hR, KW.warm hW hK, hz, by rw [hU]; exact ⟨hS.1, hS.2.1, fun _ h => by cases h⟩⟩
theorem st_room {rest : List Value} {m : MethodId} {la : Array Slot} {stk : List Value} (hw : (rest.map wc).sum ≤ 8) : 2 * (F0 m pc la stk).monitorRoom + ((rest.map (tr g)).map fun v => v.category).sum ≤ 8 := lv_room (by rw [wc_sum]; exact hw)
theorem st_eq {As rest : List Value} {v : Value} : (As.reverse ++ v :: rest).map (tr g) = (As.map (tr g)).reverse ++ tr g v :: rest.map (tr g) := by simp
theorem q_callV {idx n b ci d' mc' ms' : Nat} {M' : MI} {As rest stk : List Value} {Q' : Option Value → HS → Prop} (hd : decode M.2.1 pc = .ok (.invokevirtual idx, 3)) (hs : SV M.1.cls idx M' n) (hT : TYP σ b (.inl ci)) (hci : ci < 10 ∧ clC ci = M'.1.cls) (hc : CT g M' d' mc' ms' (.ref b :: As) σ Q')
    (hst : stk = As.reverse ++ .ref b :: rest) (hn : As.length = n) (hw : (rest.map wc).sum ≤ 8) (hdd : d' + 1 ≤ d) (hcl : cl + mc' ≤ mc) (hsl : sl + ms' ≤ ms)
    (k : ∀ r σ', Q' r σ' → WA g M d mc ms Z (cl + mc') (sl + ms') (pc + 3) ls (r.toList ++ rest) σ') : WA g M d mc ms Z cl sl pc ls stk σ := by
  intro p e s m args below meth c H locs la hX hR hS hl
  subst hst
  have hts := hX.2.2.2.2.1
  have hK := hX.2.2.2.2.2.1
  have hb : tr g (.ref b) = .ref (gA g + b) := rf_pos hT.1
  have hrecv := va_recv (q := (clC ci, clT ci, clN ci)) hK.1 hR.1 (cl_at hci.1) ((wl_get hT.1 hT.2.1).trans (by rw [ce_obj hT.2.2]))
  rw [st_eq]
  exact q_run (va_runV (C := M'.1.cls) (As := As.map (tr g)) (b := gA g + b) ⟨hX.1, hX.2.1, hX.2.2.1, hX.2.2.2.1, hts⟩ hc ⟨sb_call hts hs.1 hs.2.1 hdd, hts _ hs.2.2.1, hts _ hs.2.2.2⟩ ⟨pc_blind, by rw [← hci.2]; exact hrecv, pc_at hX.2.2.2.2.2.2.2.2.2 hK hR hS (by rw [List.map_cons, hb])⟩ rfl (by rw [List.length_map]; exact hn) hl.1 (by rw [hb]) (st_room hw) hd ⟨hcl, hsl⟩) hX hS hl k
theorem q_callS {idx n d' mc' ms' : Nat} {M' : MI} {As rest stk : List Value} {Q' : Option Value → HS → Prop} (hd : decode M.2.1 pc = .ok (.invokestatic idx, 3)) (hs : SS M.1.cls idx M' n) (hc : CT g M' d' mc' ms' As σ Q')
    (hst : stk = As.reverse ++ rest) (hn : As.length = n) (hw : (rest.map wc).sum ≤ 8) (hdd : d' + 1 ≤ d) (hcl : cl + mc' ≤ mc) (hsl : sl + ms' ≤ ms)
    (k : ∀ r σ', Q' r σ' → WA g M d mc ms Z (cl + mc') (sl + ms') (pc + 3) ls (r.toList ++ rest) σ') : WA g M d mc ms Z cl sl pc ls stk σ := by
  intro p e s m args below meth c H locs la hX hR hS hl
  subst hst
  have hts := hX.2.2.2.2.1
  have hK := hX.2.2.2.2.2.1
  rw [show (As.reverse ++ rest).map (tr g) = (As.map (tr g)).reverse ++ rest.map (tr g) by simp]
  exact q_run (va_runS (As := As.map (tr g)) ⟨hX.1, hX.2.1, hX.2.2.1, hX.2.2.2.1, hts⟩ hc ⟨sb_call hts hs.1 hs.2.1 hdd, hts _ hs.2.2⟩ ⟨pc_blind, pc_at hX.2.2.2.2.2.2.2.2.2 hK hR hS rfl⟩ rfl (by rw [List.length_map]; exact hn) hl.1 rfl (st_room hw) hd ⟨hcl, hsl⟩) hX hS hl k
theorem q_callSN {host : String} {idx n d' mc' ms' : Nat} {M' : MI} {As rest stk : List Value} {Q' : Option Value → HS → Prop} (hd : decode M.2.1 pc = .ok (.invokestatic idx, 3)) (hs : SSN M.1.cls host idx M' n) (hc : CT g M' d' mc' ms' As σ Q')
    (hst : stk = As.reverse ++ rest) (hn : As.length = n) (hw : (rest.map wc).sum ≤ 8) (hdd : d' + 1 ≤ d) (hcl : cl + mc' ≤ mc) (hsl : sl + ms' ≤ ms)
    (k : ∀ r σ', Q' r σ' → WA g M d mc ms Z (cl + mc') (sl + ms') (pc + 3) ls (r.toList ++ rest) σ') : WA g M d mc ms Z cl sl pc ls stk σ := by
  intro p e s m args below meth c H locs la hX hR hS hl
  subst hst
  have hts := hX.2.2.2.2.1
  have hK := hX.2.2.2.2.2.1
  rw [show (As.reverse ++ rest).map (tr g) = (As.map (tr g)).reverse ++ rest.map (tr g) by simp]
  exact q_run (va_runSN (As := As.map (tr g)) ⟨hX.1, hX.2.1, hX.2.2.1, hX.2.2.2.1, hts⟩ hc ⟨sb_nest hts hK hs.1 hs.2.1 hdd, hts _ hs.2.2, trivial⟩ ⟨pc_blind, pc_at hX.2.2.2.2.2.2.2.2.2 hK hR hS rfl⟩ rfl (by rw [List.length_map]; exact hn) hl.1 rfl (st_room hw) hd ⟨hcl, hsl⟩) hX hS hl k
theorem q_callI {idx n b d' mc' ms' : Nat} {M' : MI} {As rest stk : List Value} {Q' : Option Value → HS → Prop} (hd : decode M.2.1 pc = .ok (.invokespecial idx, 3)) (hs : SI M.1.cls idx M' n) (hb1 : 1 ≤ b) (hc : CT g M' d' mc' ms' (.ref b :: As) σ Q')
    (hst : stk = As.reverse ++ .ref b :: rest) (hn : As.length = n) (hw : (rest.map wc).sum ≤ 8) (hdd : d' + 1 ≤ d) (hcl : cl + mc' ≤ mc) (hsl : sl + ms' ≤ ms)
    (k : ∀ r σ', Q' r σ' → WA g M d mc ms Z (cl + mc') (sl + ms') (pc + 3) ls (r.toList ++ rest) σ') : WA g M d mc ms Z cl sl pc ls stk σ := by
  intro p e s m args below meth c H locs la hX hR hS hl
  subst hst
  have hts := hX.2.2.2.2.1
  have hK := hX.2.2.2.2.2.1
  have hb : tr g (.ref b) = .ref (gA g + b) := rf_pos hb1
  rw [st_eq]
  have cb := sb_call (d := d) (mc := mc) (ms := ms) (mc' := mc') (ms' := ms') hts hs.1 hs.2.1 hdd
  rw [hs.2.2.2.2] at cb
  exact q_run (va_runI (As := As.map (tr g)) (b := gA g + b) ⟨hX.1, hX.2.1, hX.2.2.1, hX.2.2.2.1, hts⟩ hc ⟨cb, hs.2.2.2.1, hts _ hs.2.2.1⟩ ⟨pc_blind, pc_at hX.2.2.2.2.2.2.2.2.2 hK hR hS (by rw [List.map_cons, hb])⟩ rfl (by rw [List.length_map]; exact hn) hl.1 (by rw [hb]) (st_room hw) hd ⟨hcl, hsl⟩) hX hS hl k
theorem q_callIN {host : String} {idx n b d' mc' ms' : Nat} {M' : MI} {As rest stk : List Value} {Q' : Option Value → HS → Prop} (hd : decode M.2.1 pc = .ok (.invokespecial idx, 3)) (hs : SIN M.1.cls host idx M' n) (hb1 : 1 ≤ b) (hc : CT g M' d' mc' ms' (.ref b :: As) σ Q')
    (hst : stk = As.reverse ++ .ref b :: rest) (hn : As.length = n) (hw : (rest.map wc).sum ≤ 8) (hdd : d' + 1 ≤ d) (hcl : cl + mc' ≤ mc) (hsl : sl + ms' ≤ ms)
    (k : ∀ r σ', Q' r σ' → WA g M d mc ms Z (cl + mc') (sl + ms') (pc + 3) ls (r.toList ++ rest) σ') : WA g M d mc ms Z cl sl pc ls stk σ := by
  intro p e s m args below meth c H locs la hX hR hS hl
  subst hst
  have hts := hX.2.2.2.2.1
  have hK := hX.2.2.2.2.2.1
  have hb : tr g (.ref b) = .ref (gA g + b) := rf_pos hb1
  rw [st_eq]
  have cb := sb_nest (d := d) (mc := mc) (ms := ms) (mc' := mc') (ms' := ms') hts hK hs.1 hs.2.1 hdd
  rw [hs.2.2.2.2] at cb
  exact q_run (va_runIN (As := As.map (tr g)) (b := gA g + b) ⟨hX.1, hX.2.1, hX.2.2.1, hX.2.2.2.1, hts⟩ hc ⟨cb, hs.2.2.2.1, hts _ hs.2.2.1⟩ ⟨pc_blind, pc_at hX.2.2.2.2.2.2.2.2.2 hK hR hS (by rw [List.map_cons, hb])⟩ rfl (by rw [List.length_map]; exact hn) hl.1 (by rw [hb]) (st_room hw) hd ⟨hcl, hsl⟩) hX hS hl k
theorem q_objInit {idx b : Nat} (hd : decode M.2.1 pc = .ok (.invokespecial idx, 3)) (hl1 : Cond.methodLink M.1.cls idx objectInit ∈ GW) (hl2 : Cond.instanceMethod objectInit ∈ GW) (hl3 : Cond.code objectInit ⟨#[0xb1]⟩ 1 none ∈ GW) (hb1 : 1 ≤ b) (hd1 : 1 ≤ d) (k : WA g M d mc ms Z cl sl (pc + 3) ls [] σ) : WA g M d mc ms Z cl sl pc ls [.ref b] σ := by
  intro p e s m args below meth c H locs la hX hR hS hl
  have hts := hX.2.2.2.2.1
  rw [List.map_cons, show tr g (.ref b) = .ref (gA g + b) from rf_pos hb1]
  exact W.objInit hX.1 hX.2.1 hX.2.2.2.1 (hts _ hl1) (hts _ hl2) (hts _ hl3) rfl (hl.1.trans hX.2.2.1.symm) rfl hd hd1 (by show _ ≤ 39 * d + 3; exact Nat.le_trans (Nat.add_le_add_right (lv_room (st := []) (by decide)) 12) (by omega)) (k p e s m args below meth c H locs la hX hR hS hl)
end QC
