/-! THE WALK OVER NUMBERS: WA is W over the tables of a heap state; each row below is a row of the kit. -/
/-- a method: name, code, places of locals, what it answers -/
abbrev MI : Type := MethodName × ByteArray × Nat × Option FieldType
def rm (d mc ms : Nat) : Room := { frames := d, cells := mc, slots := ms, locals := 39 * d + 3 }
def isNestW : Cond → Bool
  | .methodLinkNest .. => true
  | _ => false
def nestW : List Cond := lw_tbl.filter isNestW
def gT (g : GG) : List (ClassId × FieldType) := [(gY g 0, .int), (gY g 1, .byte), (gY g 2, .boolean), (gY g 3, .array .int), (gY g 4, .object RX2)]
/-- text constants: whose, their entry, the text, its length, its bytes -/
def stT : List (String × Nat × String × Nat × List Int32) := [("LateAndEarly$Tokens", 79, "tell", 4, [116, 101, 108, 108]), ("LateAndEarly$Tokens", 85, "go", 2, [103, 111]), ("LateAndEarly$Tokens", 87, "if", 2, [105, 102]), ("LateAndEarly$Tokens", 89, "leave", 5, [108, 101, 97, 118, 101]), ("LateAndEarly$Tokens", 100, ":;=<[]", 6, [58, 59, 61, 60, 91, 93]), ("LateAndEarly$Tokens", 108, "+-*/&^", 6, [43, 45, 42, 47, 38, 94]), ("LateAndEarly$Writer", 70, ":\n", 2, [58, 10]), ("LateAndEarly$Writer", 85, "  ", 2, [32, 32]), ("LateAndEarly$Writer", 87, " = ", 3, [32, 61, 32]), ("LateAndEarly$Writer", 160, " [ ", 3, [32, 91, 32]), ("LateAndEarly$Writer", 162, " ]", 2, [32, 93]), ("LateAndEarly$Writer", 93, ";\n", 2, [59, 10]), ("LateAndEarly$Writer", 120, "tell ", 5, [116, 101, 108, 108, 32]), ("LateAndEarly$Writer", 134, "if ", 3, [105, 102, 32]), ("LateAndEarly$Writer", 136, " < ", 3, [32, 60, 32]), ("LateAndEarly$Writer", 125, "leave", 5, [108, 101, 97, 118, 101]), ("LateAndEarly$Writer", 127, "go ", 3, [103, 111, 32])]
def stLen : List Nat := stT.map (fun q => q.2.2.2.1)
def stByt : List (List Int32) := stT.map (fun q => q.2.2.2.2)
def AOv (ty : FieldType) (U : State) : Prop := (Cond.arrayOver ty).before #[] U = true
theorem AOv.moved {ty : FieldType} {s U : State} (h : s.vm.Alike U.vm) (hA : AOv ty s) : AOv ty U := by
  have h1 : (Cond.arrayOver ty).before #[] (s.setVm U.vm) = true := (Cond.arrayOver_setVmC h ty).trans hA
  exact h1
/-- the text constants, each by itself (two of them are one text) -/
def vkW (g : GG) (U : State) : Prop := ∀ i, i < 17 → vk_S 1 [stLen.getD i 0] [stByt.getD i []] (fun _ => gK g i) (fun _ => gV g i) (fr g) U (gH g)
theorem vkW.at {g : GG} {U : State} (h : vkW g U) {i : Nat} (hi : i < 17) : va_O "java/lang/String" (gK g i) (fr g) U (gH g) ∧ va_OF "java/lang/String" "coder" "B" (.int 0) (gK g i) (fr g) U (gH g) ∧ va_OF "java/lang/String" "value" "[B" (.ref (gV g i)) (gK g i) (fr g) U (gH g) ∧ va_T .byte (gV g i) (stLen.getD i 0) (fun j => .int ((stByt.getD i []).getD j 0)) (fr g) U (gH g) := (h i hi).1 0 Nat.zero_lt_one
def KW (g : GG) (U : State) : Prop := va_K (gD g) vwCl (gT g) U ∧ (∀ w ∈ nestW, va_Nw w U) ∧ (∀ k q, stT[k]? = some q → vk_R q.1 q.2.1 q.2.2.1 (gK g k) U) ∧ (vkW g U ∧ (∀ k, k < 17 → gV g k = gK g (100 + k)) ∧ (va_Z "jdk/internal/util/Preconditions" "SIOOBE_FORMATTER" "Ljava/util/function/BiFunction;" .null (fr g) U (gH g) ∨ va_Z "jdk/internal/util/Preconditions" "SIOOBE_FORMATTER" "Ljava/util/function/BiFunction;" (.ref (gK g 200)) (fr g) U (gH g))) ∧ va_Z "java/lang/String" "COMPACT_STRINGS" "Z" (.int 1) (fr g) U (gH g) ∧ AOv (.object RX2) U ∧ AOv (.array .int) U
theorem KW.warm {g : GG} {s U : State} (hW : s.WarmedH U.vm) (h : KW g s) : KW g U := by
  obtain ⟨h1, h2, h3, h4, h5, h7, h8⟩ := h
  refine ⟨va_K.moved hW.alike h1, fun w hw => ?_, fun k q hq => vk_R.warm hW (h3 k q hq), ⟨fun i hi => vk_S.moved hW.alike (h4.1 i hi), h4.2.1, h4.2.2.imp (va_Z.moved hW.alike) (va_Z.moved hW.alike)⟩, va_Z.moved hW.alike h5, h7.moved hW.alike, h8.moved hW.alike⟩
  have h6 := (List.mem_filter.mp hw).2
  cases w <;> first | exact va_Nw.warmM hW (h2 _ hw) | (simp [isNestW] at h6)
theorem KW.same {g : GG} {s U : State} (hv : U.vm = s.vm) (h : KW g s) : KW g U := by
  obtain ⟨h1, h2, h3, h4, h5, h7, h8⟩ := h
  have hal : s.vm.Alike U.vm := by rw [hv]; exact Vm.Alike.refl _
  refine ⟨va_K.moved hal h1, fun w hw => ?_, fun k q hq => vk_R.same hv (h3 k q hq), ⟨fun i hi => vk_S.moved hal (h4.1 i hi), h4.2.1, h4.2.2.imp (va_Z.moved hal) (va_Z.moved hal)⟩, va_Z.moved hal h5, h7.moved hal, h8.moved hal⟩
  have h6 := (List.mem_filter.mp hw).2
  cases w <;> first | exact va_Nw.same rfl hv.symm (h2 _ hw) | (simp [isNestW] at h6)
def XOK (g : GG) (M : MI) (p : Program) (s : State) (m : MethodId) (args : Array Value) (meth : Method) (c : Code) : Prop :=
  p.tables.exec = Jvm.exec ∧ c.code = M.2.1 ∧ c.maxLocals = M.2.2.1 ∧ s.vm.findClass M.1.cls = some m.cls ∧ (∀ w ∈ GW, w.before args s = true) ∧ KW g s ∧ meth.locks = false ∧ meth.sig.returnType = M.2.2.2 ∧ meth.name = M.1.name ∧ (gH g).size = gA g + 1
def trp (g : GG) (q : Nat × Value) : Nat × Value := (q.1, tr g q.2)
def WA (g : GG) (M : MI) (d mc ms : Nat) (Z : List Frame → Array Value → State → State → Prop) (cl sl pc : Nat) (ls : List (Nat × Value)) (st : List Value) (σ : HS) : Prop :=
  ∀ (p : Program) (e : Env) (s : State) (m : MethodId) (args : Array Value) (below : List Frame) (meth : Method) (c : Code) (H : Heap) (locs : List Loc) (la : Array Slot),
    XOK g M p s m args meth c → RelH g σ H → va_S (fr g) (gH g) H locs → lv_has la M.2.2.1 (ls.map (trp g)) → W p (gL g) e (rm d mc ms) s m args below meth c H locs cl sl (Z below args s) (F0 m pc la (st.map (tr g)))
def PcA (g : GG) (as : List Value) (σ : HS) : Array Value → State → Prop := fun args U => args = (as.map (tr g)).toArray ∧ RelH g σ U.heap ∧ KW g U ∧ (gH g).size = gA g + 1 ∧ va_S (fr g) (gH g) U.heap []
def QcA (g : GG) (Q : Option Value → HS → Prop) : Array Value → State → Outcome → State → Prop := fun _ st o t => ∃ (r : Option Value) (σ' : HS), o = .returned (r.map (tr g)) ∧ Q r σ' ∧ RelH g σ' t.heap ∧ va_S (fr g) (gH g) t.heap []
def ZM (g : GG) (Q : Option Value → HS → Prop) (mc ms : Nat) : List Frame → Array Value → State → State → Prop := fun below args s => MQ below (QcA g Q) args s mc ms (fr g)
def wsM (M : MI) : List Cond := Cond.code M.1 M.2.1 M.2.2.1 M.2.2.2 :: GW
/-- the contract of a call: on these arguments, in this heap state, it returns, and Q holds of its answer and of the heap state behind it -/
def CT (g : GG) (M : MI) (d mc ms : Nat) (as : List Value) (σ : HS) (Q : Option Value → HS → Prop) : Prop := Met (gL g) M.1 (wsM M) (rm d mc ms) (PcA g as σ) (QcA g Q) mc ms (fr g)
def isL (v : Value) : Bool := match v with | .long _ => true | _ => false
theorem tr_cat (g : GG) (v : Value) : ((tr g v).category == 2) = isL v := by
  cases v with
  | ref r => by_cases h : r = 0 <;> simp [tr, rf, rfo, h, va_rf, Value.category, isL]
  | _ => simp [tr, Value.category, isL]
def lva : Nat → List Value → List (Nat × Value)
  | _, [] => []
  | i, v :: vs => (i, v) :: lva (if isL v then i + 2 else i + 1) vs
theorem lva_tr (g : GG) : ∀ (i : Nat) (vs : List Value), lv_args i (vs.map (tr g)) = (lva i vs).map (trp g)
  | _, [] => rfl
  | i, v :: vs => by
    simp only [List.map_cons, lv_args, lva]
    have h : (if (tr g v).category = 2 then i + 2 else i + 1) = (if isL v then i + 2 else i + 1) := by
      rw [← tr_cat g v]
      by_cases q : (tr g v).category = 2 <;> simp [q]
    rw [h, lva_tr g _ vs]
    rfl
def lput (ls : List (Nat × Value)) (i : Nat) (v : Value) : List (Nat × Value) := (i, v) :: ls.filter (fun q => !(q.1 == i) && !(q.1 + 1 == i && isL q.2))
def lputL (ls : List (Nat × Value)) (i : Nat) (v : Value) : List (Nat × Value) := (i, v) :: ls.filter (fun q => !(q.1 == i) && (!(q.1 == i + 1) && !(q.1 + 1 == i && isL q.2)))
theorem lput_tr (g : GG) (ls : List (Nat × Value)) (i : Nat) (v : Value) : (i, tr g v) :: (ls.map (trp g)).filter (fun q => !(q.1 == i) && !(q.1 + 1 == i && q.2.category == 2)) = (lput ls i v).map (trp g) := by
  unfold lput
  rw [List.filter_map]
  simp only [List.map_cons]
  congr 2
  apply List.filter_congr
  intro q _
  simp [trp, Function.comp, ← tr_cat g q.2]
theorem lputL_tr (g : GG) (ls : List (Nat × Value)) (i : Nat) (v : Value) : (i, tr g v) :: (ls.map (trp g)).filter (fun q => !(q.1 == i) && (!(q.1 == i + 1) && !(q.1 + 1 == i && q.2.category == 2))) = (lputL ls i v).map (trp g) := by
  unfold lputL
  rw [List.filter_map]
  simp only [List.map_cons]
  congr 2
  apply List.filter_congr
  intro q _
  simp [trp, Function.comp, ← tr_cat g q.2]
/-- a local's value -/
def lk : List (Nat × Value) → Nat → Option Value
  | [], _ => none
  | q :: l, i => match Nat.beq q.1 i with | true => some q.2 | false => lk l i
theorem lk_mem : ∀ {l : List (Nat × Value)} {i : Nat} {v : Value}, lk l i = some v → (i, v) ∈ l
  | q :: l, i, v, h => by
    unfold lk at h
    cases hb : Nat.beq q.1 i with
    | true =>
      rw [hb] at h
      have e : q.1 = i := Nat.eq_of_beq_eq_true hb
      cases h
      subst e
      exact List.mem_cons_self
    | false =>
      rw [hb] at h
      exact List.mem_cons_of_mem _ (lk_mem h)
theorem lk_at {g : GG} {la : Array Slot} {n : Nat} {ls : List (Nat × Value)} (hl : lv_has la n (ls.map (trp g))) {i : Nat} {v : Value} (h : lk ls i = some v) : la[i]? = some (.val (tr g v)) := hl.2.2 (i, tr g v) (List.mem_map.mpr ⟨(i, v), lk_mem h, rfl⟩)
theorem lk_pl {g : GG} {ls : List (Nat × Value)} {i : Nat} {v : Value} (h : lk ls i = some v) : ∃ k : Nat, (ls.map (trp g))[k]? = some (i, tr g v) := by
  have := List.getElem?_of_mem (lk_mem h)
  obtain ⟨k, hk⟩ := this
  exact ⟨k, by rw [List.getElem?_map, hk]; rfl⟩
section QR
variable {g : GG} {M : MI} {d mc ms : Nat} {Z : List Frame → Array Value → State → State → Prop} {cl sl pc : Nat} {ls ls' : List (Nat × Value)} {st : List Value} {σ : HS}
theorem q_sub (h : ∀ q ∈ ls', q ∈ ls) (k : WA g M d mc ms Z cl sl pc ls' st σ) : WA g M d mc ms Z cl sl pc ls st σ := by
  intro p e s m args below meth c H locs la hX hR hS hl
  refine k p e s m args below meth c H locs la hX hR hS ⟨hl.1, hl.2.1, fun q hq => ?_⟩
  obtain ⟨r, h1, rfl⟩ := List.mem_map.mp hq
  exact hl.2.2 _ (List.mem_map.mpr ⟨r, h r h1, rfl⟩)
theorem q_iconst {n : Int} {v : Int32} (hd : decode M.2.1 pc = .ok (.iconst n, 1)) (hv : Int32.ofInt n = v) (k : WA g M d mc ms Z cl sl (pc + 1) ls (.int v :: st) σ) : WA g M d mc ms Z cl sl pc ls st σ := by
  intro p e s m args below meth c H locs la hX hR hS hl
  exact lv_iconst hX.1 hX.2.1 hd hv (k p e s m args below meth c H locs la hX hR hS hl)
theorem q_bipush {n : Int} {v : Int32} (hd : decode M.2.1 pc = .ok (.bipush n, 2)) (hv : (Int8.ofInt n).toInt32 = v) (k : WA g M d mc ms Z cl sl (pc + 2) ls (.int v :: st) σ) : WA g M d mc ms Z cl sl pc ls st σ := by
  intro p e s m args below meth c H locs la hX hR hS hl
  exact lv_bipush hX.1 hX.2.1 hd hv (k p e s m args below meth c H locs la hX hR hS hl)
theorem q_sipush {n : Int} {v : Int32} (hd : decode M.2.1 pc = .ok (.sipush n, 3)) (hv : (Int16.ofInt n).toInt32 = v) (k : WA g M d mc ms Z cl sl (pc + 3) ls (.int v :: st) σ) : WA g M d mc ms Z cl sl pc ls st σ := by
  intro p e s m args below meth c H locs la hX hR hS hl
  exact lv_sipush hX.1 hX.2.1 hd hv (k p e s m args below meth c H locs la hX hR hS hl)
theorem q_lconst {n : Fin 2} {v : Int64} (hd : decode M.2.1 pc = .ok (.lconst n, 1)) (hv : Int64.ofNat (n : Nat) = v) (k : WA g M d mc ms Z cl sl (pc + 1) ls (.long v :: st) σ) : WA g M d mc ms Z cl sl pc ls st σ := by
  intro p e s m args below meth c H locs la hX hR hS hl
  exact lv_lconst hX.1 hX.2.1 hd hv (k p e s m args below meth c H locs la hX hR hS hl)
theorem q_null (hd : decode M.2.1 pc = .ok (.aconst_null, 1)) (k : WA g M d mc ms Z cl sl (pc + 1) ls (.ref 0 :: st) σ) : WA g M d mc ms Z cl sl pc ls st σ := by
  intro p e s m args below meth c H locs la hX hR hS hl
  exact lv_null hX.1 hX.2.1 hd (k p e s m args below meth c H locs la hX hR hS hl)
theorem q_ldc {i : Nat} {v : Int32} (hd : decode M.2.1 pc = .ok (.ldc i, 2)) (hw : Cond.constant M.1.cls i v ∈ GW) (k : WA g M d mc ms Z cl sl (pc + 2) ls (.int v :: st) σ) : WA g M d mc ms Z cl sl pc ls st σ := by
  intro p e s m args below meth c H locs la hX hR hS hl
  exact lv_ldc hX.1 hX.2.1 hX.2.2.2.1 (hX.2.2.2.2.1 _ hw) hd (k p e s m args below meth c H locs la hX hR hS hl)
theorem q_ldc2 {i : Nat} {v : Int64} (hd : decode M.2.1 pc = .ok (.ldc2_w i, 3)) (hw : Cond.constantLong M.1.cls i v ∈ GW) (k : WA g M d mc ms Z cl sl (pc + 3) ls (.long v :: st) σ) : WA g M d mc ms Z cl sl pc ls st σ := by
  intro p e s m args below meth c H locs la hX hR hS hl
  exact lv_ldc2 hX.1 hX.2.1 hX.2.2.2.1 (hX.2.2.2.2.1 _ hw) hd (k p e s m args below meth c H locs la hX hR hS hl)
/-- a text constant -/
theorem q_ldcS {i j : Nat} {q : String × Nat × String × Nat × List Int32} {b : UInt64} (hd : decode M.2.1 pc = .ok (.ldc i, 2)) (hq : stT[j]? = some q) (ho : q.1 = M.1.cls) (hi : q.2.1 = i) (hb : b.toNat = j) (k : WA g M d mc ms Z cl sl (pc + 2) ls (.double b :: st) σ) : WA g M d mc ms Z cl sl pc ls st σ := by
  intro p e s m args below meth c H locs la hX hR hS hl
  subst hi
  subst hb
  have hs := hX.2.2.2.2.2.1.2.2.1 _ q hq
  exact va_ldcS hX.1 hX.2.1 (by rw [ho]; exact hX.2.2.2.1) hs hd (k p e s m args below meth c H locs la hX hR hS hl)
theorem q_iload_n {j : Fin 4} {i : Nat} {x : Int32} (hd : decode M.2.1 pc = .ok (.iload_n j, 1)) (hi : (j : Nat) = i) (hv : lk ls i = some (.int x)) (k : WA g M d mc ms Z cl sl (pc + 1) ls (.int x :: st) σ) : WA g M d mc ms Z cl sl pc ls st σ := by
  intro p e s m args below meth c H locs la hX hR hS hl
  exact lv_iload_n hX.1 hX.2.1 hd hi (lk_at hl hv) (k p e s m args below meth c H locs la hX hR hS hl)
theorem q_iload {i : Nat} {x : Int32} (hd : decode M.2.1 pc = .ok (.iload i, 2)) (hv : lk ls i = some (.int x)) (k : WA g M d mc ms Z cl sl (pc + 2) ls (.int x :: st) σ) : WA g M d mc ms Z cl sl pc ls st σ := by
  intro p e s m args below meth c H locs la hX hR hS hl
  exact lv_iload hX.1 hX.2.1 hd (lk_at hl hv) (k p e s m args below meth c H locs la hX hR hS hl)
theorem q_lload_n {j : Fin 4} {i : Nat} {x : Int64} (hd : decode M.2.1 pc = .ok (.lload_n j, 1)) (hi : (j : Nat) = i) (hv : lk ls i = some (.long x)) (k : WA g M d mc ms Z cl sl (pc + 1) ls (.long x :: st) σ) : WA g M d mc ms Z cl sl pc ls st σ := by
  intro p e s m args below meth c H locs la hX hR hS hl
  exact lv_lload_n hX.1 hX.2.1 hd hi (lk_at hl hv) (k p e s m args below meth c H locs la hX hR hS hl)
theorem q_lload {i : Nat} {x : Int64} (hd : decode M.2.1 pc = .ok (.lload i, 2)) (hv : lk ls i = some (.long x)) (k : WA g M d mc ms Z cl sl (pc + 2) ls (.long x :: st) σ) : WA g M d mc ms Z cl sl pc ls st σ := by
  intro p e s m args below meth c H locs la hX hR hS hl
  exact lv_lload hX.1 hX.2.1 hd (lk_at hl hv) (k p e s m args below meth c H locs la hX hR hS hl)
/-- a reference: null, a cell, the script, a text constant -/
def isR (v : Value) : Bool := match v with | .ref _ => true | .float _ => true | .double _ => true | _ => false
theorem tr_ref {g : GG} {v : Value} (h : isR v = true) : tr g v = .null ∨ ∃ a, tr g v = .ref a := by
  cases v with
  | ref r => by_cases q : r = 0 <;> simp [tr, rf, rfo, q, va_rf]
  | float b => exact Or.inr ⟨_, rfl⟩
  | double b => exact Or.inr ⟨_, rfl⟩
  | _ => simp [isR] at h
theorem q_aload_n {j : Fin 4} {i : Nat} {v : Value} (hd : decode M.2.1 pc = .ok (.aload_n j, 1)) (hi : (j : Nat) = i) (hv : lk ls i = some v) (hr : isR v = true) (k : WA g M d mc ms Z cl sl (pc + 1) ls (v :: st) σ) : WA g M d mc ms Z cl sl pc ls st σ := by
  intro p e s m args below meth c H locs la hX hR hS hl
  have h1 := lk_at hl hv
  have h2 := k p e s m args below meth c H locs la hX hR hS hl
  rw [List.map_cons] at h2
  rcases tr_ref (g := g) hr with h | ⟨a, h⟩ <;> rw [h] at h1 h2
  · exact lv_aload_nN hX.1 hX.2.1 hd hi h1 h2
  · exact lv_aload_n hX.1 hX.2.1 hd hi h1 h2
theorem q_aload {i : Nat} {v : Value} (hd : decode M.2.1 pc = .ok (.aload i, 2)) (hv : lk ls i = some v) (hr : isR v = true) (k : WA g M d mc ms Z cl sl (pc + 2) ls (v :: st) σ) : WA g M d mc ms Z cl sl pc ls st σ := by
  intro p e s m args below meth c H locs la hX hR hS hl
  have h1 := lk_at hl hv
  have h2 := k p e s m args below meth c H locs la hX hR hS hl
  rw [List.map_cons] at h2
  rcases tr_ref (g := g) hr with h | ⟨a, h⟩ <;> rw [h] at h1 h2
  · exact lv_aloadN hX.1 hX.2.1 hd h1 h2
  · exact lv_aload hX.1 hX.2.1 hd h1 h2
theorem q_istore_n {j : Fin 4} {i : Nat} {x : Int32} (hd : decode M.2.1 pc = .ok (.istore_n j, 1)) (hi : (j : Nat) = i) (hn : i < M.2.2.1) (h : lput ls i (.int x) = ls') (k : WA g M d mc ms Z cl sl (pc + 1) ls' st σ) : WA g M d mc ms Z cl sl pc ls (.int x :: st) σ := by
  intro p e s m args below meth c H locs la hX hR hS hl
  subst h
  exact lv_istore_n hX.1 hX.2.1 hd hi hl hn (lput_tr g ls i (.int x)) (fun la' hl' => k p e s m args below meth c H locs la' hX hR hS hl')
theorem q_istore {i : Nat} {x : Int32} (hd : decode M.2.1 pc = .ok (.istore i, 2)) (hn : i < M.2.2.1) (h : lput ls i (.int x) = ls') (k : WA g M d mc ms Z cl sl (pc + 2) ls' st σ) : WA g M d mc ms Z cl sl pc ls (.int x :: st) σ := by
  intro p e s m args below meth c H locs la hX hR hS hl
  subst h
  exact lv_istore hX.1 hX.2.1 hd hl hn (lput_tr g ls i (.int x)) (fun la' hl' => k p e s m args below meth c H locs la' hX hR hS hl')
theorem q_lstore_n {j : Fin 4} {i : Nat} {x : Int64} (hd : decode M.2.1 pc = .ok (.lstore_n j, 1)) (hi : (j : Nat) = i) (hn : i + 1 < M.2.2.1) (h : lputL ls i (.long x) = ls') (k : WA g M d mc ms Z cl sl (pc + 1) ls' st σ) : WA g M d mc ms Z cl sl pc ls (.long x :: st) σ := by
  intro p e s m args below meth c H locs la hX hR hS hl
  subst h
  exact lv_lstore_n hX.1 hX.2.1 hd hi hl hn (lputL_tr g ls i (.long x)) (fun la' hl' => k p e s m args below meth c H locs la' hX hR hS hl')
theorem q_lstore {i : Nat} {x : Int64} (hd : decode M.2.1 pc = .ok (.lstore i, 2)) (hn : i + 1 < M.2.2.1) (h : lputL ls i (.long x) = ls') (k : WA g M d mc ms Z cl sl (pc + 2) ls' st σ) : WA g M d mc ms Z cl sl pc ls (.long x :: st) σ := by
  intro p e s m args below meth c H locs la hX hR hS hl
  subst h
  exact lv_lstore hX.1 hX.2.1 hd hl hn (lputL_tr g ls i (.long x)) (fun la' hl' => k p e s m args below meth c H locs la' hX hR hS hl')
theorem q_astore_n {j : Fin 4} {i : Nat} {v : Value} (hd : decode M.2.1 pc = .ok (.astore_n j, 1)) (hi : (j : Nat) = i) (hr : isR v = true) (hn : i < M.2.2.1) (h : lput ls i v = ls') (k : WA g M d mc ms Z cl sl (pc + 1) ls' st σ) : WA g M d mc ms Z cl sl pc ls (v :: st) σ := by
  intro p e s m args below meth c H locs la hX hR hS hl
  subst h
  have h3 := lput_tr g ls i v
  rw [List.map_cons]
  rcases tr_ref (g := g) hr with h | ⟨a, h⟩ <;> rw [h] at h3 ⊢
  · exact lv_astore_nN hX.1 hX.2.1 hd hi hl hn h3 (fun la' hl' => k p e s m args below meth c H locs la' hX hR hS hl')
  · exact lv_astore_n hX.1 hX.2.1 hd hi hl hn h3 (fun la' hl' => k p e s m args below meth c H locs la' hX hR hS hl')
theorem q_astore {i : Nat} {v : Value} (hd : decode M.2.1 pc = .ok (.astore i, 2)) (hr : isR v = true) (hn : i < M.2.2.1) (h : lput ls i v = ls') (k : WA g M d mc ms Z cl sl (pc + 2) ls' st σ) : WA g M d mc ms Z cl sl pc ls (v :: st) σ := by
  intro p e s m args below meth c H locs la hX hR hS hl
  subst h
  have h3 := lput_tr g ls i v
  rw [List.map_cons]
  rcases tr_ref (g := g) hr with h | ⟨a, h⟩ <;> rw [h] at h3 ⊢
  · exact lv_astoreN hX.1 hX.2.1 hd hl hn h3 (fun la' hl' => k p e s m args below meth c H locs la' hX hR hS hl')
  · exact lv_astore hX.1 hX.2.1 hd hl hn h3 (fun la' hl' => k p e s m args below meth c H locs la' hX hR hS hl')
theorem q_iinc {i : Nat} {n : Int} {x v : Int32} (hd : decode M.2.1 pc = .ok (.iinc i n, 3)) (hk : lk ls i = some (.int x)) (hv : x + Int32.ofInt n = v) (hn : i < M.2.2.1) (h : lput ls i (.int v) = ls') (k : WA g M d mc ms Z cl sl (pc + 3) ls' st σ) : WA g M d mc ms Z cl sl pc ls st σ := by
  intro p e s m args below meth c H locs la hX hR hS hl
  subst h
  obtain ⟨kk, hkk⟩ := lk_pl (g := g) hk
  exact lv_iinc hX.1 hX.2.1 hd hl hkk hv hn (lput_tr g ls i (.int v)) (fun la' hl' => k p e s m args below meth c H locs la' hX hR hS hl')
theorem wc_1 (g : GG) {v : Value} (h : isL v = false) : (tr g v).category = 1 := by
  have h1 := tr_cat g v
  rw [h] at h1
  rcases lv_cat (tr g v) with q | q
  · exact q
  · rw [q] at h1; cases h1
theorem wc_2 (g : GG) {v : Value} (h : isL v = true) : (tr g v).category = 2 := by
  have h1 := tr_cat g v
  rw [h] at h1
  exact by simpa using h1
theorem q_iadd {x y : Int32} (hd : decode M.2.1 pc = .ok (.iadd, 1)) (k : WA g M d mc ms Z cl sl (pc + 1) ls (.int (x + y) :: st) σ) : WA g M d mc ms Z cl sl pc ls (.int y :: .int x :: st) σ := by
  intro p e s m args below meth c H locs la hX hR hS hl
  exact lv_iadd hX.1 hX.2.1 hd (k p e s m args below meth c H locs la hX hR hS hl)
theorem q_isub {x y : Int32} (hd : decode M.2.1 pc = .ok (.isub, 1)) (k : WA g M d mc ms Z cl sl (pc + 1) ls (.int (x - y) :: st) σ) : WA g M d mc ms Z cl sl pc ls (.int y :: .int x :: st) σ := by
  intro p e s m args below meth c H locs la hX hR hS hl
  exact lv_isub hX.1 hX.2.1 hd (k p e s m args below meth c H locs la hX hR hS hl)
theorem q_imul {x y : Int32} (hd : decode M.2.1 pc = .ok (.imul, 1)) (k : WA g M d mc ms Z cl sl (pc + 1) ls (.int (x * y) :: st) σ) : WA g M d mc ms Z cl sl pc ls (.int y :: .int x :: st) σ := by
  intro p e s m args below meth c H locs la hX hR hS hl
  exact lv_imul hX.1 hX.2.1 hd (k p e s m args below meth c H locs la hX hR hS hl)
theorem q_iand {x y : Int32} (hd : decode M.2.1 pc = .ok (.iand, 1)) (k : WA g M d mc ms Z cl sl (pc + 1) ls (.int (x &&& y) :: st) σ) : WA g M d mc ms Z cl sl pc ls (.int y :: .int x :: st) σ := by
  intro p e s m args below meth c H locs la hX hR hS hl
  exact lv_iand hX.1 hX.2.1 hd (k p e s m args below meth c H locs la hX hR hS hl)
theorem q_ior {x y : Int32} (hd : decode M.2.1 pc = .ok (.ior, 1)) (k : WA g M d mc ms Z cl sl (pc + 1) ls (.int (x ||| y) :: st) σ) : WA g M d mc ms Z cl sl pc ls (.int y :: .int x :: st) σ := by
  intro p e s m args below meth c H locs la hX hR hS hl
  exact lv_ior hX.1 hX.2.1 hd (k p e s m args below meth c H locs la hX hR hS hl)
theorem q_ixor {x y : Int32} (hd : decode M.2.1 pc = .ok (.ixor, 1)) (k : WA g M d mc ms Z cl sl (pc + 1) ls (.int (x ^^^ y) :: st) σ) : WA g M d mc ms Z cl sl pc ls (.int y :: .int x :: st) σ := by
  intro p e s m args below meth c H locs la hX hR hS hl
  exact lv_ixor hX.1 hX.2.1 hd (k p e s m args below meth c H locs la hX hR hS hl)
theorem q_idiv {x y : Int32} (hd : decode M.2.1 pc = .ok (.idiv, 1)) (hne : ¬ y = 0) (k : WA g M d mc ms Z cl sl (pc + 1) ls (.int (x / y) :: st) σ) : WA g M d mc ms Z cl sl pc ls (.int y :: .int x :: st) σ := by
  intro p e s m args below meth c H locs la hX hR hS hl
  exact lv_idiv hX.1 hX.2.1 hd hne (k p e s m args below meth c H locs la hX hR hS hl)
theorem q_irem {x y : Int32} (hd : decode M.2.1 pc = .ok (.irem, 1)) (hne : ¬ y = 0) (k : WA g M d mc ms Z cl sl (pc + 1) ls (.int (x - x / y * y) :: st) σ) : WA g M d mc ms Z cl sl pc ls (.int y :: .int x :: st) σ := by
  intro p e s m args below meth c H locs la hX hR hS hl
  exact lv_irem hX.1 hX.2.1 hd hne (k p e s m args below meth c H locs la hX hR hS hl)
theorem q_ladd {x y : Int64} (hd : decode M.2.1 pc = .ok (.ladd, 1)) (k : WA g M d mc ms Z cl sl (pc + 1) ls (.long (x + y) :: st) σ) : WA g M d mc ms Z cl sl pc ls (.long y :: .long x :: st) σ := by
  intro p e s m args below meth c H locs la hX hR hS hl
  exact lv_ladd hX.1 hX.2.1 hd (k p e s m args below meth c H locs la hX hR hS hl)
theorem q_lsub {x y : Int64} (hd : decode M.2.1 pc = .ok (.lsub, 1)) (k : WA g M d mc ms Z cl sl (pc + 1) ls (.long (x - y) :: st) σ) : WA g M d mc ms Z cl sl pc ls (.long y :: .long x :: st) σ := by
  intro p e s m args below meth c H locs la hX hR hS hl
  exact lv_lsub hX.1 hX.2.1 hd (k p e s m args below meth c H locs la hX hR hS hl)
theorem q_lmul {x y : Int64} (hd : decode M.2.1 pc = .ok (.lmul, 1)) (k : WA g M d mc ms Z cl sl (pc + 1) ls (.long (x * y) :: st) σ) : WA g M d mc ms Z cl sl pc ls (.long y :: .long x :: st) σ := by
  intro p e s m args below meth c H locs la hX hR hS hl
  exact lv_lmul hX.1 hX.2.1 hd (k p e s m args below meth c H locs la hX hR hS hl)
theorem q_land {x y : Int64} (hd : decode M.2.1 pc = .ok (.land, 1)) (k : WA g M d mc ms Z cl sl (pc + 1) ls (.long (x &&& y) :: st) σ) : WA g M d mc ms Z cl sl pc ls (.long y :: .long x :: st) σ := by
  intro p e s m args below meth c H locs la hX hR hS hl
  exact lv_land hX.1 hX.2.1 hd (k p e s m args below meth c H locs la hX hR hS hl)
theorem q_lor {x y : Int64} (hd : decode M.2.1 pc = .ok (.lor, 1)) (k : WA g M d mc ms Z cl sl (pc + 1) ls (.long (x ||| y) :: st) σ) : WA g M d mc ms Z cl sl pc ls (.long y :: .long x :: st) σ := by
  intro p e s m args below meth c H locs la hX hR hS hl
  exact lv_lor hX.1 hX.2.1 hd (k p e s m args below meth c H locs la hX hR hS hl)
theorem q_ldiv {x y : Int64} (hd : decode M.2.1 pc = .ok (.ldiv, 1)) (hne : ¬ y = 0) (k : WA g M d mc ms Z cl sl (pc + 1) ls (.long (x / y) :: st) σ) : WA g M d mc ms Z cl sl pc ls (.long y :: .long x :: st) σ := by
  intro p e s m args below meth c H locs la hX hR hS hl
  exact lv_ldiv hX.1 hX.2.1 hd hne (k p e s m args below meth c H locs la hX hR hS hl)
theorem q_lrem {x y : Int64} (hd : decode M.2.1 pc = .ok (.lrem, 1)) (hne : ¬ y = 0) (k : WA g M d mc ms Z cl sl (pc + 1) ls (.long (x - x / y * y) :: st) σ) : WA g M d mc ms Z cl sl pc ls (.long y :: .long x :: st) σ := by
  intro p e s m args below meth c H locs la hX hR hS hl
  exact lv_lrem hX.1 hX.2.1 hd hne (k p e s m args below meth c H locs la hX hR hS hl)
theorem q_ineg {x : Int32} (hd : decode M.2.1 pc = .ok (.ineg, 1)) (k : WA g M d mc ms Z cl sl (pc + 1) ls (.int (-x) :: st) σ) : WA g M d mc ms Z cl sl pc ls (.int x :: st) σ := by
  intro p e s m args below meth c H locs la hX hR hS hl
  exact lv_ineg hX.1 hX.2.1 hd (k p e s m args below meth c H locs la hX hR hS hl)
theorem q_lneg {x : Int64} (hd : decode M.2.1 pc = .ok (.lneg, 1)) (k : WA g M d mc ms Z cl sl (pc + 1) ls (.long (-x) :: st) σ) : WA g M d mc ms Z cl sl pc ls (.long x :: st) σ := by
  intro p e s m args below meth c H locs la hX hR hS hl
  exact lv_lneg hX.1 hX.2.1 hd (k p e s m args below meth c H locs la hX hR hS hl)
theorem q_i2l {x : Int32} {v : Int64} (hd : decode M.2.1 pc = .ok (.i2l, 1)) (hv : x.toInt64 = v) (k : WA g M d mc ms Z cl sl (pc + 1) ls (.long v :: st) σ) : WA g M d mc ms Z cl sl pc ls (.int x :: st) σ := by
  intro p e s m args below meth c H locs la hX hR hS hl
  exact lv_i2l hX.1 hX.2.1 hd hv (k p e s m args below meth c H locs la hX hR hS hl)
theorem q_l2i {x : Int64} {v : Int32} (hd : decode M.2.1 pc = .ok (.l2i, 1)) (hv : x.toInt32 = v) (k : WA g M d mc ms Z cl sl (pc + 1) ls (.int v :: st) σ) : WA g M d mc ms Z cl sl pc ls (.long x :: st) σ := by
  intro p e s m args below meth c H locs la hX hR hS hl
  exact lv_l2i hX.1 hX.2.1 hd hv (k p e s m args below meth c H locs la hX hR hS hl)
theorem q_i2b {x : Int32} {v : Int32} (hd : decode M.2.1 pc = .ok (.i2b, 1)) (hv : x.toInt8.toInt32 = v) (k : WA g M d mc ms Z cl sl (pc + 1) ls (.int v :: st) σ) : WA g M d mc ms Z cl sl pc ls (.int x :: st) σ := by
  intro p e s m args below meth c H locs la hX hR hS hl
  exact lv_i2b hX.1 hX.2.1 hd hv (k p e s m args below meth c H locs la hX hR hS hl)
theorem q_i2c {x : Int32} {v : Int32} (hd : decode M.2.1 pc = .ok (.i2c, 1)) (hv : (x.toUInt32 % 65536).toInt32 = v) (k : WA g M d mc ms Z cl sl (pc + 1) ls (.int v :: st) σ) : WA g M d mc ms Z cl sl pc ls (.int x :: st) σ := by
  intro p e s m args below meth c H locs la hX hR hS hl
  exact lv_i2c hX.1 hX.2.1 hd hv (k p e s m args below meth c H locs la hX hR hS hl)
theorem q_iushr {x v : Int32} {y : Int32} (hd : decode M.2.1 pc = .ok (.iushr, 1)) (hv : (x.toUInt32 >>> (y.toUInt32 &&& Int32.toUInt32 31)).toInt32 = v) (k : WA g M d mc ms Z cl sl (pc + 1) ls (.int v :: st) σ) : WA g M d mc ms Z cl sl pc ls (.int y :: .int x :: st) σ := by
  intro p e s m args below meth c H locs la hX hR hS hl
  exact lv_iushr hX.1 hX.2.1 hd hv (k p e s m args below meth c H locs la hX hR hS hl)
theorem q_lushr {x v : Int64} {y : Int32} (hd : decode M.2.1 pc = .ok (.lushr, 1)) (hv : (x.toUInt64 >>> (y.toInt64.toUInt64 &&& Int64.toUInt64 63)).toInt64 = v) (k : WA g M d mc ms Z cl sl (pc + 1) ls (.long v :: st) σ) : WA g M d mc ms Z cl sl pc ls (.int y :: .long x :: st) σ := by
  intro p e s m args below meth c H locs la hX hR hS hl
  exact lv_lushr hX.1 hX.2.1 hd hv (k p e s m args below meth c H locs la hX hR hS hl)
theorem q_lshl {x v : Int64} {y : Int32} (hd : decode M.2.1 pc = .ok (.lshl, 1)) (hv : x <<< (y.toInt64 &&& 63) = v) (k : WA g M d mc ms Z cl sl (pc + 1) ls (.long v :: st) σ) : WA g M d mc ms Z cl sl pc ls (.int y :: .long x :: st) σ := by
  intro p e s m args below meth c H locs la hX hR hS hl
  exact lv_lshl hX.1 hX.2.1 hd hv (k p e s m args below meth c H locs la hX hR hS hl)
theorem q_lshr {x v : Int64} {y : Int32} (hd : decode M.2.1 pc = .ok (.lshr, 1)) (hv : x >>> (y.toInt64 &&& 63) = v) (k : WA g M d mc ms Z cl sl (pc + 1) ls (.long v :: st) σ) : WA g M d mc ms Z cl sl pc ls (.int y :: .long x :: st) σ := by
  intro p e s m args below meth c H locs la hX hR hS hl
  exact lv_lshr hX.1 hX.2.1 hd hv (k p e s m args below meth c H locs la hX hR hS hl)
theorem q_ishl {x y : Int32} (hd : decode M.2.1 pc = .ok (.ishl, 1)) (k : WA g M d mc ms Z cl sl (pc + 1) ls (.int (x <<< (y &&& 31)) :: st) σ) : WA g M d mc ms Z cl sl pc ls (.int y :: .int x :: st) σ := by
  intro p e s m args below meth c H locs la hX hR hS hl
  exact lv_ishl hX.1 hX.2.1 hd (k p e s m args below meth c H locs la hX hR hS hl)
theorem q_ishr {x y : Int32} (hd : decode M.2.1 pc = .ok (.ishr, 1)) (k : WA g M d mc ms Z cl sl (pc + 1) ls (.int (x >>> (y &&& 31)) :: st) σ) : WA g M d mc ms Z cl sl pc ls (.int y :: .int x :: st) σ := by
  intro p e s m args below meth c H locs la hX hR hS hl
  exact lv_ishr hX.1 hX.2.1 hd (k p e s m args below meth c H locs la hX hR hS hl)
theorem q_dup {v : Value} (hd : decode M.2.1 pc = .ok (.dup, 1)) (hv : isL v = false) (k : WA g M d mc ms Z cl sl (pc + 1) ls (v :: v :: st) σ) : WA g M d mc ms Z cl sl pc ls (v :: st) σ := by
  intro p e s m args below meth c H locs la hX hR hS hl
  exact lv_dup hX.1 hX.2.1 hd (wc_1 g hv) (k p e s m args below meth c H locs la hX hR hS hl)
theorem q_pop {v : Value} (hd : decode M.2.1 pc = .ok (.pop, 1)) (hv : isL v = false) (k : WA g M d mc ms Z cl sl (pc + 1) ls st σ) : WA g M d mc ms Z cl sl pc ls (v :: st) σ := by
  intro p e s m args below meth c H locs la hX hR hS hl
  exact lv_pop hX.1 hX.2.1 hd (wc_1 g hv) (k p e s m args below meth c H locs la hX hR hS hl)
theorem q_dup_x1 {v w : Value} (hd : decode M.2.1 pc = .ok (.dup_x1, 1)) (hv : isL v = false) (hw : isL w = false) (k : WA g M d mc ms Z cl sl (pc + 1) ls (v :: w :: v :: st) σ) : WA g M d mc ms Z cl sl pc ls (v :: w :: st) σ := by
  intro p e s m args below meth c H locs la hX hR hS hl
  exact lv_dup_x1 hX.1 hX.2.1 hd (wc_1 g hv) (wc_1 g hw) (k p e s m args below meth c H locs la hX hR hS hl)
theorem q_dup2 {v w : Value} (hd : decode M.2.1 pc = .ok (.dup2, 1)) (hv : isL v = false) (hw : isL w = false) (k : WA g M d mc ms Z cl sl (pc + 1) ls (v :: w :: v :: w :: st) σ) : WA g M d mc ms Z cl sl pc ls (v :: w :: st) σ := by
  intro p e s m args below meth c H locs la hX hR hS hl
  exact lv_dup2_11 hX.1 hX.2.1 hd (wc_1 g hv) (wc_1 g hw) (k p e s m args below meth c H locs la hX hR hS hl)
theorem q_dup2L {v : Value} (hd : decode M.2.1 pc = .ok (.dup2, 1)) (hv : isL v = true) (k : WA g M d mc ms Z cl sl (pc + 1) ls (v :: v :: st) σ) : WA g M d mc ms Z cl sl pc ls (v :: st) σ := by
  intro p e s m args below meth c H locs la hX hR hS hl
  exact lv_dup2_2 hX.1 hX.2.1 hd (wc_2 g hv) (k p e s m args below meth c H locs la hX hR hS hl)
theorem q_goto {off : Int} {tgt : Nat} (hd : decode M.2.1 pc = .ok (.goto off, 3)) (ht : (pc : Int) + off = (tgt : Int)) (k : WA g M d mc ms Z cl sl tgt ls st σ) : WA g M d mc ms Z cl sl pc ls st σ := by
  intro p e s m args below meth c H locs la hX hR hS hl
  exact lv_goto hX.1 hX.2.1 hd ht (k p e s m args below meth c H locs la hX hR hS hl)
theorem q_if_eq {x : Int32} {off : Int} {tgt : Nat} (hd : decode M.2.1 pc = .ok (.ifCond .eq off, 3)) (ht : (pc : Int) + off = (tgt : Int)) (kt : x = 0 → WA g M d mc ms Z cl sl tgt ls st σ) (kf : ¬ x = 0 → WA g M d mc ms Z cl sl (pc + 3) ls st σ) : WA g M d mc ms Z cl sl pc ls (.int x :: st) σ := by
  intro p e s m args below meth c H locs la hX hR hS hl
  exact lv_if_eq hX.1 hX.2.1 hd ht (fun q => kt q p e s m args below meth c H locs la hX hR hS hl) (fun q => kf q p e s m args below meth c H locs la hX hR hS hl)
theorem q_icmp_eq {x y : Int32} {off : Int} {tgt : Nat} (hd : decode M.2.1 pc = .ok (.if_icmp .eq off, 3)) (ht : (pc : Int) + off = (tgt : Int)) (kt : x = y → WA g M d mc ms Z cl sl tgt ls st σ) (kf : ¬ x = y → WA g M d mc ms Z cl sl (pc + 3) ls st σ) : WA g M d mc ms Z cl sl pc ls (.int y :: .int x :: st) σ := by
  intro p e s m args below meth c H locs la hX hR hS hl
  exact lv_icmp_eq hX.1 hX.2.1 hd ht (fun q => kt q p e s m args below meth c H locs la hX hR hS hl) (fun q => kf q p e s m args below meth c H locs la hX hR hS hl)
theorem q_if_ne {x : Int32} {off : Int} {tgt : Nat} (hd : decode M.2.1 pc = .ok (.ifCond .ne off, 3)) (ht : (pc : Int) + off = (tgt : Int)) (kt : ¬ x = 0 → WA g M d mc ms Z cl sl tgt ls st σ) (kf : x = 0 → WA g M d mc ms Z cl sl (pc + 3) ls st σ) : WA g M d mc ms Z cl sl pc ls (.int x :: st) σ := by
  intro p e s m args below meth c H locs la hX hR hS hl
  exact lv_if_ne hX.1 hX.2.1 hd ht (fun q => kt q p e s m args below meth c H locs la hX hR hS hl) (fun q => kf q p e s m args below meth c H locs la hX hR hS hl)
theorem q_icmp_ne {x y : Int32} {off : Int} {tgt : Nat} (hd : decode M.2.1 pc = .ok (.if_icmp .ne off, 3)) (ht : (pc : Int) + off = (tgt : Int)) (kt : ¬ x = y → WA g M d mc ms Z cl sl tgt ls st σ) (kf : x = y → WA g M d mc ms Z cl sl (pc + 3) ls st σ) : WA g M d mc ms Z cl sl pc ls (.int y :: .int x :: st) σ := by
  intro p e s m args below meth c H locs la hX hR hS hl
  exact lv_icmp_ne hX.1 hX.2.1 hd ht (fun q => kt q p e s m args below meth c H locs la hX hR hS hl) (fun q => kf q p e s m args below meth c H locs la hX hR hS hl)
theorem q_if_lt {x : Int32} {off : Int} {tgt : Nat} (hd : decode M.2.1 pc = .ok (.ifCond .lt off, 3)) (ht : (pc : Int) + off = (tgt : Int)) (kt : x < 0 → WA g M d mc ms Z cl sl tgt ls st σ) (kf : ¬ (x < 0) → WA g M d mc ms Z cl sl (pc + 3) ls st σ) : WA g M d mc ms Z cl sl pc ls (.int x :: st) σ := by
  intro p e s m args below meth c H locs la hX hR hS hl
  exact lv_if_lt hX.1 hX.2.1 hd ht (fun q => kt q p e s m args below meth c H locs la hX hR hS hl) (fun q => kf q p e s m args below meth c H locs la hX hR hS hl)
theorem q_icmp_lt {x y : Int32} {off : Int} {tgt : Nat} (hd : decode M.2.1 pc = .ok (.if_icmp .lt off, 3)) (ht : (pc : Int) + off = (tgt : Int)) (kt : x < y → WA g M d mc ms Z cl sl tgt ls st σ) (kf : ¬ (x < y) → WA g M d mc ms Z cl sl (pc + 3) ls st σ) : WA g M d mc ms Z cl sl pc ls (.int y :: .int x :: st) σ := by
  intro p e s m args below meth c H locs la hX hR hS hl
  exact lv_icmp_lt hX.1 hX.2.1 hd ht (fun q => kt q p e s m args below meth c H locs la hX hR hS hl) (fun q => kf q p e s m args below meth c H locs la hX hR hS hl)
theorem q_if_ge {x : Int32} {off : Int} {tgt : Nat} (hd : decode M.2.1 pc = .ok (.ifCond .ge off, 3)) (ht : (pc : Int) + off = (tgt : Int)) (kt : 0 ≤ x → WA g M d mc ms Z cl sl tgt ls st σ) (kf : ¬ (0 ≤ x) → WA g M d mc ms Z cl sl (pc + 3) ls st σ) : WA g M d mc ms Z cl sl pc ls (.int x :: st) σ := by
  intro p e s m args below meth c H locs la hX hR hS hl
  exact lv_if_ge hX.1 hX.2.1 hd ht (fun q => kt q p e s m args below meth c H locs la hX hR hS hl) (fun q => kf q p e s m args below meth c H locs la hX hR hS hl)
theorem q_icmp_ge {x y : Int32} {off : Int} {tgt : Nat} (hd : decode M.2.1 pc = .ok (.if_icmp .ge off, 3)) (ht : (pc : Int) + off = (tgt : Int)) (kt : y ≤ x → WA g M d mc ms Z cl sl tgt ls st σ) (kf : ¬ (y ≤ x) → WA g M d mc ms Z cl sl (pc + 3) ls st σ) : WA g M d mc ms Z cl sl pc ls (.int y :: .int x :: st) σ := by
  intro p e s m args below meth c H locs la hX hR hS hl
  exact lv_icmp_ge hX.1 hX.2.1 hd ht (fun q => kt q p e s m args below meth c H locs la hX hR hS hl) (fun q => kf q p e s m args below meth c H locs la hX hR hS hl)
theorem q_if_gt {x : Int32} {off : Int} {tgt : Nat} (hd : decode M.2.1 pc = .ok (.ifCond .gt off, 3)) (ht : (pc : Int) + off = (tgt : Int)) (kt : 0 < x → WA g M d mc ms Z cl sl tgt ls st σ) (kf : ¬ (0 < x) → WA g M d mc ms Z cl sl (pc + 3) ls st σ) : WA g M d mc ms Z cl sl pc ls (.int x :: st) σ := by
  intro p e s m args below meth c H locs la hX hR hS hl
  exact lv_if_gt hX.1 hX.2.1 hd ht (fun q => kt q p e s m args below meth c H locs la hX hR hS hl) (fun q => kf q p e s m args below meth c H locs la hX hR hS hl)
theorem q_icmp_gt {x y : Int32} {off : Int} {tgt : Nat} (hd : decode M.2.1 pc = .ok (.if_icmp .gt off, 3)) (ht : (pc : Int) + off = (tgt : Int)) (kt : y < x → WA g M d mc ms Z cl sl tgt ls st σ) (kf : ¬ (y < x) → WA g M d mc ms Z cl sl (pc + 3) ls st σ) : WA g M d mc ms Z cl sl pc ls (.int y :: .int x :: st) σ := by
  intro p e s m args below meth c H locs la hX hR hS hl
  exact lv_icmp_gt hX.1 hX.2.1 hd ht (fun q => kt q p e s m args below meth c H locs la hX hR hS hl) (fun q => kf q p e s m args below meth c H locs la hX hR hS hl)
theorem q_if_le {x : Int32} {off : Int} {tgt : Nat} (hd : decode M.2.1 pc = .ok (.ifCond .le off, 3)) (ht : (pc : Int) + off = (tgt : Int)) (kt : x ≤ 0 → WA g M d mc ms Z cl sl tgt ls st σ) (kf : ¬ (x ≤ 0) → WA g M d mc ms Z cl sl (pc + 3) ls st σ) : WA g M d mc ms Z cl sl pc ls (.int x :: st) σ := by
  intro p e s m args below meth c H locs la hX hR hS hl
  exact lv_if_le hX.1 hX.2.1 hd ht (fun q => kt q p e s m args below meth c H locs la hX hR hS hl) (fun q => kf q p e s m args below meth c H locs la hX hR hS hl)
theorem q_icmp_le {x y : Int32} {off : Int} {tgt : Nat} (hd : decode M.2.1 pc = .ok (.if_icmp .le off, 3)) (ht : (pc : Int) + off = (tgt : Int)) (kt : x ≤ y → WA g M d mc ms Z cl sl tgt ls st σ) (kf : ¬ (x ≤ y) → WA g M d mc ms Z cl sl (pc + 3) ls st σ) : WA g M d mc ms Z cl sl pc ls (.int y :: .int x :: st) σ := by
  intro p e s m args below meth c H locs la hX hR hS hl
  exact lv_icmp_le hX.1 hX.2.1 hd ht (fun q => kt q p e s m args below meth c H locs la hX hR hS hl) (fun q => kf q p e s m args below meth c H locs la hX hR hS hl)
theorem q_ifnull {r : Nat} {off : Int} {tgt : Nat} (hd : decode M.2.1 pc = .ok (.ifnull off, 3)) (ht : (pc : Int) + off = (tgt : Int)) (kt : r = 0 → WA g M d mc ms Z cl sl tgt ls st σ) (kf : 1 ≤ r → WA g M d mc ms Z cl sl (pc + 3) ls st σ) : WA g M d mc ms Z cl sl pc ls (.ref r :: st) σ := by
  intro p e s m args below meth c H locs la hX hR hS hl
  rw [List.map_cons]
  by_cases h : r = 0
  · subst h
    exact lv_ifnullN hX.1 hX.2.1 hd ht (kt rfl p e s m args below meth c H locs la hX hR hS hl)
  · rw [show tr g (.ref r) = .ref (gA g + r) from rf_pos (by omega)]
    exact lv_ifnull hX.1 hX.2.1 hd (kf (by omega) p e s m args below meth c H locs la hX hR hS hl)
theorem q_ifnonnull {r : Nat} {off : Int} {tgt : Nat} (hd : decode M.2.1 pc = .ok (.ifnonnull off, 3)) (ht : (pc : Int) + off = (tgt : Int)) (kt : 1 ≤ r → WA g M d mc ms Z cl sl tgt ls st σ) (kf : r = 0 → WA g M d mc ms Z cl sl (pc + 3) ls st σ) : WA g M d mc ms Z cl sl pc ls (.ref r :: st) σ := by
  intro p e s m args below meth c H locs la hX hR hS hl
  rw [List.map_cons]
  by_cases h : r = 0
  · subst h
    exact lv_ifnonnullN hX.1 hX.2.1 hd (kf rfl p e s m args below meth c H locs la hX hR hS hl)
  · rw [show tr g (.ref r) = .ref (gA g + r) from rf_pos (by omega)]
    exact lv_ifnonnull hX.1 hX.2.1 hd ht (kt (by omega) p e s m args below meth c H locs la hX hR hS hl)
theorem q_lookup {dflt : Int} {ps : Array (Int × Int)} {len : Nat} {x : Int32} {off : Int} {tgt : Nat} (hd : decode M.2.1 pc = .ok (.lookupswitch dflt ps, len)) (hp : (ps.toList.zip (ps.toList.drop 1)).all (fun (a, next) => a.1 < next.1) = true) (ho : Op.lookupswitch.offset ps.toList dflt x.toInt = off) (ht : (pc : Int) + off = (tgt : Int)) (k : WA g M d mc ms Z cl sl tgt ls st σ) : WA g M d mc ms Z cl sl pc ls (.int x :: st) σ := by
  intro p e s m args below meth c H locs la hX hR hS hl
  exact lv_lookup hX.1 hX.2.1 hd hp ho ht (k p e s m args below meth c H locs la hX hR hS hl)
theorem q_tableOut {dflt lo hi : Int} {offs : Array Int} {len : Nat} {x : Int32} {tgt : Nat} (hd : decode M.2.1 pc = .ok (.tableswitch dflt lo hi offs, len)) (h : x.toInt < lo ∨ hi < x.toInt) (ht : (pc : Int) + dflt = (tgt : Int)) (k : WA g M d mc ms Z cl sl tgt ls st σ) : WA g M d mc ms Z cl sl pc ls (.int x :: st) σ := by
  intro p e s m args below meth c H locs la hX hR hS hl
  exact lv_tableOut hX.1 hX.2.1 hd h ht (k p e s m args below meth c H locs la hX hR hS hl)
theorem q_tableIn {dflt lo hi : Int} {offs : Array Int} {len : Nat} {x : Int32} {off : Int} {tgt : Nat} (hd : decode M.2.1 pc = .ok (.tableswitch dflt lo hi offs, len)) (h1 : ¬ x.toInt < lo) (h2 : ¬ hi < x.toInt) (ho : offs[(x.toInt - lo).toNat]? = some off) (ht : (pc : Int) + off = (tgt : Int)) (k : WA g M d mc ms Z cl sl tgt ls st σ) : WA g M d mc ms Z cl sl pc ls (.int x :: st) σ := by
  intro p e s m args below meth c H locs la hX hR hS hl
  exact lv_tableIn hX.1 hX.2.1 hd h1 h2 ho ht (k p e s m args below meth c H locs la hX hR hS hl)
def fvI (t : Nat) : Bool := match t with | 1 => false | 2 => false | _ => true
theorem fvI_eq {g : GG} {t : Nat} (h : fvI t = true) {x : Int32} {y : Int64} {r : Nat} : fv g t x y r = .int x := by
  match t, h with
  | 0, _ => rfl
  | 1, h => cases h
  | 2, h => cases h
  | _ + 3, _ => rfl
theorem q_lcmp {x y : Int64} (hd : decode M.2.1 pc = .ok (.lcmp, 1)) (k : WA g M d mc ms Z cl sl (pc + 1) ls (.int (lg_cmp x y) :: st) σ) : WA g M d mc ms Z cl sl pc ls (.long y :: .long x :: st) σ := by
  intro p e s m args below meth c H locs la hX hR hS hl
  exact W.lcmp hX.1 hX.2.1 hd (k p e s m args below meth c H locs la hX hR hS hl)
/-- a field as an instruction names it: which class it is of, which of its fields -/
def FLK (own : String) (idx ci k : Nat) : Prop := ci < 10 ∧ k < clN ci ∧ (clT ci k).1 = clC ci ∧ Cond.fieldLink own idx (clC ci) (clT ci k).2.1 (clT ci k).2.2.1 ∈ GW
theorem fv_at {g : GG} {σ : HS} {h c k : Nat} (hk : k < clN c) : ((List.range (clN c)).map (fun k => fv g (FT c k) (sI σ h k) (sL σ h k) (sR σ h k)))[k]? = some (fv g (FT c k) (sI σ h k) (sL σ h k) (sR σ h k)) := by
  rw [List.getElem?_map, List.getElem?_range hk]; rfl
theorem q_getf {idx ci f h : Nat} (hd : decode M.2.1 pc = .ok (.getfield idx, 3)) (hf : FLK M.1.cls idx ci f) (hT : TYP σ h (.inl ci)) {v : Value} (hv : fv g (FT ci f) (sI σ h f) (sL σ h f) (sR σ h f) = tr g v) (k : WA g M d mc ms Z cl sl (pc + 3) ls (v :: st) σ) : WA g M d mc ms Z cl sl pc ls (.ref h :: st) σ := by
  intro p e s m args below meth c H locs la hX hR hS hl
  obtain ⟨h1, h2, h3, h4⟩ := hf
  rw [List.map_cons, show tr g (.ref h) = .ref (gA g + h) from rf_pos hT.1]
  refine va_get hX.1 hX.2.1 (Ts := GW) hX.2.2.2.2.1 (cl_in h1) hX.2.2.2.1 hX.2.2.2.2.2.1.1 hR.1 (h - 1) (fs := _) ((wl_get hT.1 hT.2.1).trans (by rw [ce_obj hT.2.2])) (cl_at h1) f h2 (ref := clC ci) (hX.2.2.2.2.1 _ h4) (fun x hx => by rw [← h3]; exact hx) (v := tr g v) ?_ hd (k p e s m args below meth c H locs la hX hR hS hl)
  rw [fv_at h2, hv]
theorem q_geti {idx ci f h : Nat} {x : Int32} (hd : decode M.2.1 pc = .ok (.getfield idx, 3)) (hf : FLK M.1.cls idx ci f) (ht : fvI (FT ci f) = true) (hT : TYP σ h (.inl ci)) (hx : sI σ h f = x) (k : WA g M d mc ms Z cl sl (pc + 3) ls (.int x :: st) σ) : WA g M d mc ms Z cl sl pc ls (.ref h :: st) σ :=
  q_getf hd hf hT (by rw [fvI_eq ht, hx]; rfl) k
theorem q_getl {idx ci f h : Nat} {x : Int64} (hd : decode M.2.1 pc = .ok (.getfield idx, 3)) (hf : FLK M.1.cls idx ci f) (ht : FT ci f = 1) (hT : TYP σ h (.inl ci)) (hx : sL σ h f = x) (k : WA g M d mc ms Z cl sl (pc + 3) ls (.long x :: st) σ) : WA g M d mc ms Z cl sl pc ls (.ref h :: st) σ :=
  q_getf hd hf hT (by rw [ht, hx]; rfl) k
theorem q_getr {idx ci f h r : Nat} (hd : decode M.2.1 pc = .ok (.getfield idx, 3)) (hf : FLK M.1.cls idx ci f) (ht : FT ci f = 2) (hT : TYP σ h (.inl ci)) (hx : sR σ h f = r) (k : WA g M d mc ms Z cl sl (pc + 3) ls (.ref r :: st) σ) : WA g M d mc ms Z cl sl pc ls (.ref h :: st) σ :=
  q_getf hd hf hT (by rw [ht, hx]; rfl) k
theorem map_set_range {α : Type} (F F' : Nat → α) (n j : Nat) (hj : j < n) (ho : ∀ k, k ≠ j → F' k = F k) : ((List.range n).map F).set j (F' j) = (List.range n).map F' := by
  apply List.ext_getElem?
  intro i
  by_cases hi : i < n
  · by_cases e : i = j
    · subst e
      rw [List.getElem?_set_self (by simpa using hi), List.getElem?_map, List.getElem?_range hi]; rfl
    · rw [List.getElem?_set_ne (Ne.symm e), List.getElem?_map, List.getElem?_map, List.getElem?_range hi]
      simp [ho i e]
  · rw [List.getElem?_eq_none (by simp; omega), List.getElem?_eq_none (by simp; omega)]
/-- a store into a cell: the state behind it -/
theorem rel_put {g : GG} {σ σ' : HS} {H1 : Heap} {h : Nat} (hT1 : 1 ≤ h) (hT2 : h ≤ sN σ) (hn : sN σ' = sN σ) (ho : ∀ k, k ≠ h → ce g σ' k = ce g σ k) (hz : H1.size = gA g + 1 + sN σ) (hP : va_P (gD g) vwCl ((wl g σ).set (h - 1) (gA g + h, ce g σ' h)) H1) : RelH g σ' H1 := ⟨by rw [wl_set hT1 hT2 hn ho]; exact hP, by rw [hz, hn]⟩
theorem ce_other {g : GG} {σ σ' : HS} {h : Nat} (hI : ∀ a, a ≠ h → sI σ' a = sI σ a) (hL : ∀ a, a ≠ h → sL σ' a = sL σ a) (hR : ∀ a, a ≠ h → sR σ' a = sR σ a) : ∀ k, k ≠ h → ce g σ' k = ce g σ k := by
  intro k hk
  unfold ce
  rw [hI k hk, hL k hk, hR k hk]
theorem q_putf {idx ci f h : Nat} {v : Value} {σ' : HS} (hd : decode M.2.1 pc = .ok (.putfield idx, 3)) (hf : FLK M.1.cls idx ci f) (hfin : (clT ci f).2.2.2 = false ∨ ((clT ci f).2.2.2 = true ∧ M.1.name = "<init>" ∧ M.1.cls = clC ci)) (hT : TYP σ h (.inl ci))
    (hnar : narrow (clY ci f) (tr g v) = tr g v) (hfit : fits (clY ci f) (tr g v) = true) (hn : sN σ' = sN σ) (hI : ∀ a, a ≠ h → sI σ' a = sI σ a) (hL : ∀ a, a ≠ h → sL σ' a = sL σ a) (hR' : ∀ a, a ≠ h → sR σ' a = sR σ a)
    (hv : fv g (FT ci f) (sI σ' h f) (sL σ' h f) (sR σ' h f) = tr g v) (hoth : ∀ j, j ≠ f → fv g (FT ci j) (sI σ' h j) (sL σ' h j) (sR σ' h j) = fv g (FT ci j) (sI σ h j) (sL σ h j) (sR σ h j))
    (k : WA g M d mc ms Z cl sl (pc + 3) ls st σ') : WA g M d mc ms Z cl sl pc ls (v :: .ref h :: st) σ := by
  intro p e s m args below meth c H locs la hX hR hS hl
  obtain ⟨h1, h2, h3, h4⟩ := hf
  rw [List.map_cons, List.map_cons, show tr g (.ref h) = .ref (gA g + h) from rf_pos hT.1]
  have hset := map_set_range (fun k => fv g (FT ci k) (sI σ h k) (sL σ h k) (sR σ h k)) (fun k => fv g (FT ci k) (sI σ' h k) (sL σ' h k) (sR σ' h k)) (clN ci) f h2 hoth
  have hq0 : (wl g σ)[h - 1]? = some (gA g + h, .inr (ci, (List.range (clN ci)).map (fun k => fv g (FT ci k) (sI σ h k) (sL σ h k) (sR σ h k)))) := (wl_get hT.1 hT.2.1).trans (by rw [ce_obj hT.2.2])
  have kk : ∀ (H1 : Heap) (locs1 : List Loc), H1.size = H.size → va_P (gD g) vwCl ((wl g σ).set (h - 1) (gA g + h, .inr (ci, ((List.range (clN ci)).map (fun k => fv g (FT ci k) (sI σ h k) (sL σ h k) (sR σ h k))).set f (tr g v)))) H1 → va_S (fr g) (gH g) H1 locs1 → W p (gL g) e (rm d mc ms) s m args below meth c H1 locs1 cl sl (Z below args s) (F0 m (pc + 3) la (st.map (tr g))) := by
    intro H1 locs1 hz hP1 hS1
    refine k p e s m args below meth c H1 locs1 la hX (rel_put hT.1 hT.2.1 hn (ce_other hI hL hR') (hz.trans hR.2) ?_) hS1 hl
    rw [ce_obj hT.2.2, ← hset, hv]
    exact hP1
  have hD := wl_D g σ
  have hK := hX.2.2.2.2.2.1.1
  have hts := hX.2.2.2.2.1
  have hap := va_apart (own := M.1.cls) hts (cl_in h1) (clY ci) (cl_ty h1) (cl_nm h1) hK (cl_at h1)
  obtain ⟨r, hr1, cell, q1, q2, q3, q4⟩ := hR.1 _ _ hq0
  have hr : r = (clC ci, clT ci, clN ci) := Option.some.inj (hr1.symm.trans (cl_at h1))
  subst hr
  obtain ⟨hSl, hfc, kC, hkC, hkind⟩ := hK.1 ci _ (cl_at h1)
  obtain ⟨cf, kf, fi, fd, hi, hsl⟩ := hSl f h2
  have hi' : s.fieldFound? (clC ci) (clT ci f).2.1 (clT ci f).2.2.1 = some (cf, kf, fi, fd) := by rw [← h3]; exact hi
  have hst := (u_facts hfc hkC (u_lays hts (cl_in h1) h2) hi).1
  have hlay := hts _ (cl_in h1 _ (u_in_lay h2))
  unfold u_lay at hlay
  have hlen : f < ((List.range (clN ci)).map (fun k => fv g (FT ci k) (sI σ h k) (sL σ h k) (sR σ h k))).length := by simpa using h2
  have fin : ∀ (H1 : Heap), H1[gA g + h]? = some (cell.setSlot fd.slot (tr g v)) → H1.size = H.size → (∀ q, q ≠ gA g + h → H1[q]? = H[q]?) → W p (gL g) e (rm d mc ms) s m args below meth c H1 (locs ++ [⟨gA g + h, fd.slot⟩]) cl sl (Z below args s) (F0 m (pc + 3) la (st.map (tr g))) := by
    intro H1 e1 e2 e3
    rw [hsl] at e1 ⊢
    refine kk H1 _ e2 (hR.1.set hD hq0 ⟨_, cl_at h1, t_OB.to (V := updV (vp_V ((List.range (clN ci)).map (fun k => fv g (FT ci k) (sI σ h k) (sL σ h k) (sR σ h k)))) f (tr g v)) ⟨_, e1, q2, q3, t_set q4 hap h2 (tr g v)⟩ (fun j _ => vp_updV_set hlen (tr g v) j)⟩ e3) (hS.put e2 e3 (hD.2 _ _ hq0))
  rcases hfin with hf0 | ⟨hf1, hf2, hf3⟩
  · rw [if_neg (by rw [hf0]; decide)] at hlay
    have h6 := u_store hfc hkC hkind hlay hi (cl_ty h1 f h2) hnar hfit
    exact W.putK hX.1 hX.2.1 (f := fd) ⟨hX.2.2.2.1, hts _ h4, ⟨_, _, _, hi'⟩, hst⟩ (by rw [q2]; exact h6) q1 q3 (by rw [hsl]; exact k2_hasslot (q4 f h2)) rfl rfl hd fin
  · rw [if_pos hf1] at hlay
    have hcf : m.cls = cf := by
      obtain ⟨_, _, c', _, _, _, -, -, hf', -, -, -, hown2, -⟩ := Cond.laysFinal_spec hlay
      have e1 : c' = cf := by have := hi.symm.trans hf'; simp at this; exact this.1.symm
      rw [h3, ← hf3] at hown2
      rw [← e1]; exact Option.some.inj (hX.2.2.2.1.symm.trans hown2)
    have h6 := u_fits hfc hkC hkind (Or.inr hlay) hi (cl_ty h1 f h2) hnar hfit
    exact W.putFinK hX.1 hX.2.1 hX.2.2.2.1 (hts _ h4) hi' hst hcf (hX.2.2.2.2.2.2.2.2.1.trans hf2) (by rw [q2]; exact h6) q1 q3 (by rw [hsl]; exact k2_hasslot (q4 f h2)) rfl rfl hd fin
theorem fk_0 {t : FieldType} (h : fkind t = 0) : t = .int := by cases t <;> first | rfl | (simp [fkind] at h)
theorem fk_3 {t : FieldType} (h : fkind t = 3) : t = .boolean := by cases t <;> first | rfl | (simp [fkind] at h)
theorem fk_1 {t : FieldType} (h : fkind t = 1) : t = .long := by cases t <;> first | rfl | (simp [fkind] at h)
theorem bool_nar {x : Int32} (hx : x = 0 ∨ x = 1) : narrow .boolean (.int x) = .int x ∧ fits .boolean (.int x) = true := by rcases hx with rfl | rfl <;> exact ⟨rfl, rfl⟩
theorem uI_off {σ : HS} {h i a : Nat} {v : Int32} (ha : a ≠ h) : sI (uI σ h i v) a = sI σ a := by
  funext b
  show (if a = h ∧ b = i then v else sI σ a b) = sI σ a b
  rw [if_neg (fun q => ha q.1)]
theorem uL_off {σ : HS} {h i a : Nat} {v : Int64} (ha : a ≠ h) : sL (uL σ h i v) a = sL σ a := by
  funext b
  show (if a = h ∧ b = i then v else sL σ a b) = sL σ a b
  rw [if_neg (fun q => ha q.1)]
theorem uR_off {σ : HS} {h i a : Nat} {v : Nat} (ha : a ≠ h) : sR (uR σ h i v) a = sR σ a := by
  funext b
  show (if a = h ∧ b = i then v else sR σ a b) = sR σ a b
  rw [if_neg (fun q => ha q.1)]
theorem uI_self {σ : HS} {h i : Nat} {v : Int32} : sI (uI σ h i v) h i = v := if_pos ⟨rfl, rfl⟩
theorem uL_self {σ : HS} {h i : Nat} {v : Int64} : sL (uL σ h i v) h i = v := if_pos ⟨rfl, rfl⟩
theorem uR_self {σ : HS} {h i : Nat} {v : Nat} : sR (uR σ h i v) h i = v := if_pos ⟨rfl, rfl⟩
theorem uI_ne {σ : HS} {h i j : Nat} {v : Int32} (hj : j ≠ i) : sI (uI σ h i v) h j = sI σ h j := if_neg (fun q => hj q.2)
theorem uL_ne {σ : HS} {h i j : Nat} {v : Int64} (hj : j ≠ i) : sL (uL σ h i v) h j = sL σ h j := if_neg (fun q => hj q.2)
theorem uR_ne {σ : HS} {h i j : Nat} {v : Nat} (hj : j ≠ i) : sR (uR σ h i v) h j = sR σ h j := if_neg (fun q => hj q.2)
theorem q_puti {idx ci f h : Nat} {x : Int32} (hd : decode M.2.1 pc = .ok (.putfield idx, 3)) (hf : FLK M.1.cls idx ci f) (ht : FT ci f = 0) (hfin : (clT ci f).2.2.2 = false ∨ ((clT ci f).2.2.2 = true ∧ M.1.name = "<init>" ∧ M.1.cls = clC ci)) (hT : TYP σ h (.inl ci)) (k : WA g M d mc ms Z cl sl (pc + 3) ls st (uI σ h f x)) : WA g M d mc ms Z cl sl pc ls (.int x :: .ref h :: st) σ :=
  q_putf (σ' := uI σ h f x) hd hf hfin hT (by rw [fk_0 ht]; rfl) (by rw [fk_0 ht]; rfl) rfl (fun a ha => uI_off ha) (fun _ _ => rfl) (fun _ _ => rfl) (by rw [ht, uI_self]; rfl) (fun j hj => by rw [uI_ne hj]; rfl) k
theorem q_putz {idx ci f h : Nat} {x : Int32} (hd : decode M.2.1 pc = .ok (.putfield idx, 3)) (hf : FLK M.1.cls idx ci f) (ht : FT ci f = 3) (hfin : (clT ci f).2.2.2 = false ∨ ((clT ci f).2.2.2 = true ∧ M.1.name = "<init>" ∧ M.1.cls = clC ci)) (hT : TYP σ h (.inl ci)) (hx : x = 0 ∨ x = 1) (k : WA g M d mc ms Z cl sl (pc + 3) ls st (uI σ h f x)) : WA g M d mc ms Z cl sl pc ls (.int x :: .ref h :: st) σ :=
  q_putf (σ' := uI σ h f x) hd hf hfin hT (by rw [fk_3 ht]; exact (bool_nar hx).1) (by rw [fk_3 ht]; exact (bool_nar hx).2) rfl (fun a ha => uI_off ha) (fun _ _ => rfl) (fun _ _ => rfl) (by rw [ht, uI_self]; rfl) (fun j hj => by rw [uI_ne hj]; rfl) k
theorem q_putl {idx ci f h : Nat} {x : Int64} (hd : decode M.2.1 pc = .ok (.putfield idx, 3)) (hf : FLK M.1.cls idx ci f) (ht : FT ci f = 1) (hfin : (clT ci f).2.2.2 = false ∨ ((clT ci f).2.2.2 = true ∧ M.1.name = "<init>" ∧ M.1.cls = clC ci)) (hT : TYP σ h (.inl ci)) (k : WA g M d mc ms Z cl sl (pc + 3) ls st (uL σ h f x)) : WA g M d mc ms Z cl sl pc ls (.long x :: .ref h :: st) σ :=
  q_putf (σ' := uL σ h f x) hd hf hfin hT (by rw [fk_1 ht]; rfl) (by rw [fk_1 ht]; rfl) rfl (fun _ _ => rfl) (fun a ha => uL_off ha) (fun _ _ => rfl) (by rw [ht, uL_self]; rfl) (fun j hj => by rw [uL_ne hj]; rfl) k
theorem rf_fit {g : GG} {t : FieldType} {r : Nat} (h : isReferenceType t = true) : narrow t (rf g r) = rf g r ∧ fits t (rf g r) = true := by
  cases t <;> first | (simp [isReferenceType] at h; done) | (by_cases q : r = 0 <;> simp [rf, rfo, q, va_rf, narrow, fits])
theorem q_putr {idx ci f h r : Nat} (hd : decode M.2.1 pc = .ok (.putfield idx, 3)) (hf : FLK M.1.cls idx ci f) (ht : FT ci f = 2) (hy : isReferenceType (clY ci f) = true) (hfin : (clT ci f).2.2.2 = false ∨ ((clT ci f).2.2.2 = true ∧ M.1.name = "<init>" ∧ M.1.cls = clC ci)) (hT : TYP σ h (.inl ci)) (k : WA g M d mc ms Z cl sl (pc + 3) ls st (uR σ h f r)) : WA g M d mc ms Z cl sl pc ls (.ref r :: .ref h :: st) σ :=
  q_putf (σ' := uR σ h f r) hd hf hfin hT (rf_fit hy).1 (rf_fit hy).2 rfl (fun _ _ => rfl) (fun _ _ => rfl) (fun a ha => uR_off ha) (by rw [ht, uR_self]; rfl) (fun j hj => by rw [uR_ne hj]; rfl) k
/-- a place of a row -/
def IX (i : Int32) (j n : Nat) : Prop := vp_in i n ∧ i.toNatClampNeg = j
theorem ix_n {j n : Nat} (h : j < n) (hn : n < 2147483648) : IX (nI j) j n := ⟨vp_in_nI h hn, nI_clamp (by omega)⟩
theorem ix_x {i : Int32} {n : Nat} (h : vp_in i n) : IX i i.toNatClampNeg n := ⟨h, rfl⟩
theorem q_rows {h t n : Nat} (hT : TYP σ h (.inr (t, n))) (h3 : t < 3) : (wl g σ)[h - 1]? = some (gA g + h, .inl (gY g t, n, .inl (sI σ h))) := (wl_get hT.1 hT.2.1).trans (by rw [ce_int hT.2.2 h3])
theorem q_iald {i : Int32} {h j n : Nat} {x : Int32} (hd : decode M.2.1 pc = .ok (.iaload, 1)) (hT : TYP σ h (.inr (0, n))) (hi : IX i j n) (hx : sI σ h j = x) (k : WA g M d mc ms Z cl sl (pc + 1) ls (.int x :: st) σ) : WA g M d mc ms Z cl sl pc ls (.int i :: .ref h :: st) σ := by
  intro p e s m args below meth c H locs la hX hR hS hl
  obtain ⟨hi1, rfl⟩ := hi
  subst hx
  rw [List.map_cons, List.map_cons, show tr g (.ref h) = .ref (gA g + h) from rf_pos hT.1]
  exact va_iald hX.1 hX.2.1 hX.2.2.2.2.2.1.1 hR.1 (h - 1) 0 (q_rows hT (by omega)) rfl hi1 hd (k p e s m args below meth c H locs la hX hR hS hl)
theorem q_bald {i : Int32} {h j n : Nat} {x : Int32} (hd : decode M.2.1 pc = .ok (.baload, 1)) (hT : TYP σ h (.inr (1, n))) (hi : IX i j n) (hx : sI σ h j = x) (k : WA g M d mc ms Z cl sl (pc + 1) ls (.int x :: st) σ) : WA g M d mc ms Z cl sl pc ls (.int i :: .ref h :: st) σ := by
  intro p e s m args below meth c H locs la hX hR hS hl
  obtain ⟨hi1, rfl⟩ := hi
  subst hx
  rw [List.map_cons, List.map_cons, show tr g (.ref h) = .ref (gA g + h) from rf_pos hT.1]
  exact va_bald hX.1 hX.2.1 hX.2.2.2.2.2.1.1 hR.1 (h - 1) 1 (q_rows hT (by omega)) rfl hi1 hd (k p e s m args below meth c H locs la hX hR hS hl)
theorem q_zald {i : Int32} {h j n : Nat} {x : Int32} (hd : decode M.2.1 pc = .ok (.baload, 1)) (hT : TYP σ h (.inr (2, n))) (hi : IX i j n) (hx : sI σ h j = x) (k : WA g M d mc ms Z cl sl (pc + 1) ls (.int x :: st) σ) : WA g M d mc ms Z cl sl pc ls (.int i :: .ref h :: st) σ := by
  intro p e s m args below meth c H locs la hX hR hS hl
  obtain ⟨hi1, rfl⟩ := hi
  subst hx
  rw [List.map_cons, List.map_cons, show tr g (.ref h) = .ref (gA g + h) from rf_pos hT.1]
  exact va_zald hX.1 hX.2.1 hX.2.2.2.2.2.1.1 hR.1 (h - 1) 2 (q_rows hT (by omega)) rfl hi1 hd (k p e s m args below meth c H locs la hX hR hS hl)
theorem uI_upd {σ : HS} {h j : Nat} {v : Int32} : sI (uI σ h j v) h = upd (sI σ h) j v := by
  funext b
  by_cases q : b = j
  · subst q; rw [uI_self]; simp [upd]
  · rw [uI_ne q]; simp [upd, q]
theorem rel_row {g : GG} {σ : HS} {H H1 : Heap} {h j t n : Nat} {v : Int32} (hT : TYP σ h (.inr (t, n))) (h3 : t < 3) (hz : H1.size = H.size) (hR : RelH g σ H) (hP : va_P (gD g) vwCl ((wl g σ).set (h - 1) (gA g + h, .inl (gY g t, n, .inl (upd (sI σ h) j v)))) H1) : RelH g (uI σ h j v) H1 :=
  rel_put hT.1 hT.2.1 rfl (ce_other (fun a ha => uI_off ha) (fun _ _ => rfl) (fun _ _ => rfl)) (hz.trans hR.2) (by rw [ce_int hT.2.2 h3, uI_upd]; exact hP)
theorem q_iast {i : Int32} {h j n : Nat} {x : Int32} (hd : decode M.2.1 pc = .ok (.iastore, 1)) (hT : TYP σ h (.inr (0, n))) (hi : IX i j n) (k : WA g M d mc ms Z cl sl (pc + 1) ls st (uI σ h j x)) : WA g M d mc ms Z cl sl pc ls (.int x :: .int i :: .ref h :: st) σ := by
  intro p e s m args below meth c H locs la hX hR hS hl
  obtain ⟨hi1, rfl⟩ := hi
  rw [List.map_cons, List.map_cons, List.map_cons, show tr g (.ref h) = .ref (gA g + h) from rf_pos hT.1]
  have hq := q_rows (g := g) hT (by omega)
  refine W.iast hX.1 hX.2.1 (hR.1 (h - 1) _ hq) ((hX.2.2.2.2.2.1.1.2 0 (gY g 0, .int) rfl).1 n (fun j => .int (sI σ h j))) (fun q => by cases q) (by show ¬ (i < 0 ∨ (arrV _ _ _).slots.size ≤ _); rw [arrV_size]; exact hi1) rfl rfl hd fun H1 e1 z oq => ?_
  have hD := wl_D g σ
  refine k p e s m args below meth c H1 _ la hX (rel_row hT (by omega) z hR (hR.1.set hD hq ?_ oq)) (hS.put z oq (hD.2 _ _ hq)) hl
  show H1[gA g + h]? = some (vp_cell _ _)
  rw [e1, vp_cell_i, vp_cell_i, arrV_store]
  congr 2
  funext q
  by_cases hq : q = i.toNatClampNeg
  · subst hq; simp [updV, upd]
  · simp [updV, upd, hq]
theorem q_bast {i : Int32} {h j n : Nat} {x y : Int32} (hd : decode M.2.1 pc = .ok (.bastore, 1)) (hT : TYP σ h (.inr (1, n))) (hi : IX i j n) (hy : x.toInt8.toInt32 = y) (k : WA g M d mc ms Z cl sl (pc + 1) ls st (uI σ h j y)) : WA g M d mc ms Z cl sl pc ls (.int x :: .int i :: .ref h :: st) σ := by
  intro p e s m args below meth c H locs la hX hR hS hl
  obtain ⟨hi1, rfl⟩ := hi
  subst hy
  rw [List.map_cons, List.map_cons, List.map_cons, show tr g (.ref h) = .ref (gA g + h) from rf_pos hT.1]
  have hq := q_rows (g := g) hT (by omega)
  refine W.bast hX.1 hX.2.1 (hR.1 (h - 1) _ hq) ((hX.2.2.2.2.2.1.1.2 1 (gY g 1, .byte) rfl).1 n (fun j => .int (sI σ h j))) (fun q => by cases q) (by show ¬ (i < 0 ∨ (arrV _ _ _).slots.size ≤ _); rw [arrV_size]; exact hi1) rfl rfl hd fun H1 e1 z oq => ?_
  have hD := wl_D g σ
  refine k p e s m args below meth c H1 _ la hX (rel_row hT (by omega) z hR (hR.1.set hD hq ?_ oq)) (hS.put z oq (hD.2 _ _ hq)) hl
  show H1[gA g + h]? = some (vp_cell _ _)
  rw [e1, vp_cell_i, vp_cell_i, arrV_store]
  congr 2
  funext q
  by_cases hq : q = i.toNatClampNeg
  · subst hq; simp [updV, upd, narrow]
  · simp [updV, upd, hq]
theorem q_zast {i : Int32} {h j n : Nat} {x : Int32} (hd : decode M.2.1 pc = .ok (.bastore, 1)) (hT : TYP σ h (.inr (2, n))) (hi : IX i j n) (hx : x = 0 ∨ x = 1) (k : WA g M d mc ms Z cl sl (pc + 1) ls st (uI σ h j x)) : WA g M d mc ms Z cl sl pc ls (.int x :: .int i :: .ref h :: st) σ := by
  intro p e s m args below meth c H locs la hX hR hS hl
  obtain ⟨hi1, rfl⟩ := hi
  rw [List.map_cons, List.map_cons, List.map_cons, show tr g (.ref h) = .ref (gA g + h) from rf_pos hT.1]
  have hq := q_rows (g := g) hT (by omega)
  refine W.zast hX.1 hX.2.1 (hR.1 (h - 1) _ hq) ((hX.2.2.2.2.2.1.1.2 2 (gY g 2, .boolean) rfl).1 n (fun j => .int (sI σ h j))) (fun q => by cases q) (by show ¬ (i < 0 ∨ (arrV _ _ _).slots.size ≤ _); rw [arrV_size]; exact hi1) rfl rfl hd fun H1 e1 z oq => ?_
  have hD := wl_D g σ
  refine k p e s m args below meth c H1 _ la hX (rel_row hT (by omega) z hR (hR.1.set hD hq ?_ oq)) (hS.put z oq (hD.2 _ _ hq)) hl
  show H1[gA g + h]? = some (vp_cell _ _)
  have hnz : narrow .boolean (.int x) = .int x := (bool_nar hx).1
  rw [e1, vp_cell_i, vp_cell_i, arrV_store]
  congr 2
  funext q
  by_cases hq : q = i.toNatClampNeg
  · subst hq
    first | (simp only [updV, upd, if_true, hnz]; done) | (simp [updV, upd, narrow]; rcases hx with rfl | rfl <;> rfl)
  · simp [updV, upd, hq]
theorem q_alen {h t n : Nat} {x : Int32} (hd : decode M.2.1 pc = .ok (.arraylength, 1)) (hT : TYP σ h (.inr (t, n))) (h3 : t < 5) (hx : nI n = x) (k : WA g M d mc ms Z cl sl (pc + 1) ls (.int x :: st) σ) : WA g M d mc ms Z cl sl pc ls (.ref h :: st) σ := by
  intro p e s m args below meth c H locs la hX hR hS hl
  rw [List.map_cons, show tr g (.ref h) = .ref (gA g + h) from rf_pos hT.1]
  have kk := k p e s m args below meth c H locs la hX hR hS hl
  by_cases ht : t < 3
  · have hty : ∃ ty, (gT g)[t]? = some (gY g t, ty) := by
      match t, ht with
      | 0, _ => exact ⟨_, rfl⟩
      | 1, _ => exact ⟨_, rfl⟩
      | 2, _ => exact ⟨_, rfl⟩
    obtain ⟨ty, hty⟩ := hty
    exact va_alen hX.1 hX.2.1 hX.2.2.2.2.2.1.1 hR.1 (h - 1) t (q_rows hT ht) hty hx hd kk
  · have hty : ∃ ty, (gT g)[t]? = some (gY g t, ty) := by
      rcases (show t = 3 ∨ t = 4 by omega) with rfl | rfl <;> exact ⟨_, rfl⟩
    obtain ⟨ty, hty⟩ := hty
    have hq : (wl g σ)[h - 1]? = some (gA g + h, .inl (gY g t, (n, .inr (.inr (.inr (.inr (fun i => rfo g (sR σ h i)))))))) := (wl_get hT.1 hT.2.1).trans (by rw [ce_ref hT.2.2 (by omega)])
    exact va_alen hX.1 hX.2.1 hX.2.2.2.2.2.1.1 hR.1 (h - 1) t hq hty hx hd kk
theorem q_aald {i : Int32} {h j t n r : Nat} (hd : decode M.2.1 pc = .ok (.aaload, 1)) (hT : TYP σ h (.inr (t, n))) (h34 : t = 3 ∨ t = 4) (hi : IX i j n) (hr : sR σ h j = r) (k : WA g M d mc ms Z cl sl (pc + 1) ls (.ref r :: st) σ) : WA g M d mc ms Z cl sl pc ls (.int i :: .ref h :: st) σ := by
  intro p e s m args below meth c H locs la hX hR hS hl
  obtain ⟨hi1, rfl⟩ := hi
  subst hr
  rw [List.map_cons, List.map_cons, show tr g (.ref h) = .ref (gA g + h) from rf_pos hT.1]
  have kk := k p e s m args below meth c H locs la hX hR hS hl
  have hq : (wl g σ)[h - 1]? = some (gA g + h, .inl (gY g t, n, .inr (.inr (.inr (.inr (fun i => rfo g (sR σ h i))))))) := (wl_get hT.1 hT.2.1).trans (by rw [ce_ref hT.2.2 (by omega)])
  have hlt : i.toNatClampNeg < n := Nat.not_le.mp fun q => hi1 (Or.inr q)
  rcases h34 with rfl | rfl
  · exact W.aald (v := rf g (sR σ h i.toNatClampNeg)) (ty := .array .int) hX.1 hX.2.1 (hR.1 _ _ hq) ((hX.2.2.2.2.2.1.1.2 3 _ rfl).1 n (fun j => va_rf (rfo g (sR σ h j)))) rfl (fun q => by cases q) (by show ¬ (i < 0 ∨ (arrV _ _ _).slots.size ≤ _); rw [arrV_size]; exact hi1) (by show (arrV _ _ _).slots[_]? = _; rw [arrV_read _ _ hlt]; rfl) rfl rfl hd kk
  · exact W.aald (v := rf g (sR σ h i.toNatClampNeg)) (ty := .object RX2) hX.1 hX.2.1 (hR.1 _ _ hq) ((hX.2.2.2.2.2.1.1.2 4 _ rfl).1 n (fun j => va_rf (rfo g (sR σ h j)))) rfl (fun q => by cases q) (by show ¬ (i < 0 ∨ (arrV _ _ _).slots.size ≤ _); rw [arrV_size]; exact hi1) (by show (arrV _ _ _).slots[_]? = _; rw [arrV_read _ _ hlt]; rfl) rfl rfl hd kk
end QR
