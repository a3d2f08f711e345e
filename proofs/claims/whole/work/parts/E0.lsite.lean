/-! The law's method: its words, its rows over the script. -/
set_option maxRecDepth 100000 in
theorem vL_9 : SI RL 9 mX8_init 0 := ⟨sbX8_init, gw_of 161 rfl rfl, inX8_init, rfl, rfl⟩
set_option maxRecDepth 100000 in
theorem vL_12 : SI RL 12 mX9_init 0 := ⟨sbX9_init, gw_of 1197 rfl rfl, inX9_init, rfl, rfl⟩
set_option maxRecDepth 100000 in
theorem vL_15 : SV RL 15 mX8_feed 2 := ⟨sbX8_feed, gw_of 519 rfl rfl, inX8_feed, seX8_feed⟩
set_option maxRecDepth 100000 in
theorem vL_19 : SV RL 19 mX9_feed 2 := ⟨sbX9_feed, gw_of 1391 rfl rfl, inX9_feed, seX9_feed⟩
set_option maxRecDepth 100000 in
theorem vL_20 : SV RL 20 mX8_cut 1 := ⟨sbX8_cut, gw_of 527 rfl rfl, inX8_cut, seX8_cut⟩
set_option maxRecDepth 100000 in
theorem vL_24 : SV RL 24 mX9_cut 1 := ⟨sbX9_cut, gw_of 1396 rfl rfl, inX9_cut, seX9_cut⟩
set_option maxRecDepth 100000 in
theorem vL_25 : SV RL 25 mX8_tape 1 := ⟨sbX8_tape, gw_of 531 rfl rfl, inX8_tape, seX8_tape⟩
set_option maxRecDepth 100000 in
theorem vL_28 : SV RL 28 mX9_tape 1 := ⟨sbX9_tape, gw_of 1400 rfl rfl, inX9_tape, seX9_tape⟩
set_option maxRecDepth 100000 in
theorem vL_29 : SV RL 29 mX8_parse 1 := ⟨sbX8_parse, gw_of 539 rfl rfl, inX8_parse, seX8_parse⟩
set_option maxRecDepth 100000 in
theorem vL_32 : SV RL 32 mX9_parse 1 := ⟨sbX9_parse, gw_of 1404 rfl rfl, inX9_parse, seX9_parse⟩
set_option maxRecDepth 100000 in
theorem vL_33 : SV RL 33 mX8_wrong 0 := ⟨sbX8_wrong, gw_of 914 rfl rfl, inX8_wrong, seX8_wrong⟩
set_option maxRecDepth 100000 in
theorem vL_37 : SV RL 37 mX9_wrong 0 := ⟨sbX9_wrong, gw_of 1606 rfl rfl, inX9_wrong, seX9_wrong⟩
set_option maxRecDepth 100000 in
theorem vL_38 : SV RL 38 mX8_about 2 := ⟨sbX8_about, gw_of 918 rfl rfl, inX8_about, seX8_about⟩
set_option maxRecDepth 100000 in
theorem vL_42 : SV RL 42 mX9_about 2 := ⟨sbX9_about, gw_of 1610 rfl rfl, inX9_about, seX9_about⟩
set_option maxRecDepth 100000 in
theorem vL_43 : SV RL 43 mX8_node 3 := ⟨sbX8_node, gw_of 926 rfl rfl, inX8_node, seX8_node⟩
set_option maxRecDepth 100000 in
theorem vL_47 : SV RL 47 mX9_node 3 := ⟨sbX9_node, gw_of 1618 rfl rfl, inX9_node, seX9_node⟩
set_option maxRecDepth 100000 in
theorem vL_48 : SV RL 48 mX8_sum 3 := ⟨sbX8_sum, gw_of 934 rfl rfl, inX8_sum, seX8_sum⟩
set_option maxRecDepth 100000 in
theorem vL_51 : SV RL 51 mX9_sum 3 := ⟨sbX9_sum, gw_of 1622 rfl rfl, inX9_sum, seX9_sum⟩
set_option maxRecDepth 100000 in
theorem vL_52 : SV RL 52 mX8_at 4 := ⟨sbX8_at, gw_of 957 rfl rfl, inX8_at, seX8_at⟩
set_option maxRecDepth 100000 in
theorem vL_56 : SV RL 56 mX9_at_ 4 := ⟨sbX9_at_, gw_of 1634 rfl rfl, inX9_at_, seX9_at_⟩
set_option maxRecDepth 100000 in
theorem vL_57 : SV RL 57 mX8_placed 5 := ⟨sbX8_placed, gw_of 965 rfl rfl, inX8_placed, seX8_placed⟩
set_option maxRecDepth 100000 in
theorem vL_61 : SV RL 61 mX9_placed 5 := ⟨sbX9_placed, gw_of 1638 rfl rfl, inX9_placed, seX9_placed⟩
set_option maxRecDepth 100000 in
theorem vL_62 : SV RL 62 mX8_life 3 := ⟨sbX8_life, gw_of 978 rfl rfl, inX8_life, seX8_life⟩
set_option maxRecDepth 100000 in
theorem vL_65 : SV RL 65 mX9_life 3 := ⟨sbX9_life, gw_of 1658 rfl rfl, inX9_life, seX9_life⟩
set_option maxRecDepth 100000 in
theorem vL_66 : SV RL 66 mX8_places 4 := ⟨sbX8_places, gw_of 982 rfl rfl, inX8_places, seX8_places⟩
set_option maxRecDepth 100000 in
theorem vL_69 : SV RL 69 mX9_places 4 := ⟨sbX9_places, gw_of 1662 rfl rfl, inX9_places, seX9_places⟩
set_option maxRecDepth 100000 in
theorem vL_70 : SV RL 70 mX8_name 2 := ⟨sbX8_name, gw_of 986 rfl rfl, inX8_name, seX8_name⟩
set_option maxRecDepth 100000 in
theorem vL_73 : SV RL 73 mX9_name 2 := ⟨sbX9_name, gw_of 1666 rfl rfl, inX9_name, seX9_name⟩
set_option maxRecDepth 100000 in
theorem vL_74 : SV RL 74 mX8_run 2 := ⟨sbX8_run, gw_of 990 rfl rfl, inX8_run, seX8_run⟩
set_option maxRecDepth 100000 in
theorem vL_77 : SV RL 77 mX9_run 2 := ⟨sbX9_run, gw_of 1670 rfl rfl, inX9_run, seX9_run⟩
set_option maxRecDepth 100000 in
theorem vL_78 : SV RL 78 mX8_ran 1 := ⟨sbX8_ran, gw_of 1058 rfl rfl, inX8_ran, seX8_ran⟩
set_option maxRecDepth 100000 in
theorem vL_81 : SV RL 81 mX9_ran 1 := ⟨sbX9_ran, gw_of 1686 rfl rfl, inX9_ran, seX9_ran⟩
set_option maxRecDepth 100000 in
theorem vL_82 : SV RL 82 mX8_told 1 := ⟨sbX8_told, gw_of 1062 rfl rfl, inX8_told, seX8_told⟩
set_option maxRecDepth 100000 in
theorem vL_85 : SV RL 85 mX9_told 1 := ⟨sbX9_told, gw_of 1690 rfl rfl, inX9_told, seX9_told⟩
set_option maxRecDepth 100000 in
theorem vL_86 : SV RL 86 mX8_value 1 := ⟨sbX8_value, gw_of 1066 rfl rfl, inX8_value, seX8_value⟩
set_option maxRecDepth 100000 in
theorem vL_89 : SV RL 89 mX9_value 1 := ⟨sbX9_value, gw_of 1694 rfl rfl, inX9_value, seX9_value⟩
set_option maxRecDepth 100000 in
theorem vL_90 : SV RL 90 mX8_row 2 := ⟨sbX8_row, gw_of 1070 rfl rfl, inX8_row, seX8_row⟩
set_option maxRecDepth 100000 in
theorem vL_93 : SV RL 93 mX9_row 2 := ⟨sbX9_row, gw_of 1698 rfl rfl, inX9_row, seX9_row⟩
set_option maxRecDepth 100000 in
theorem vL_94 : SV RL 94 mX8_worked 1 := ⟨sbX8_worked, gw_of 1074 rfl rfl, inX8_worked, seX8_worked⟩
set_option maxRecDepth 100000 in
theorem vL_97 : SV RL 97 mX9_worked 1 := ⟨sbX9_worked, gw_of 1702 rfl rfl, inX9_worked, seX9_worked⟩
set_option maxRecDepth 100000 in
theorem vL_98 : SV RL 98 mX8_step 2 := ⟨sbX8_step, gw_of 1078 rfl rfl, inX8_step, seX8_step⟩
set_option maxRecDepth 100000 in
theorem vL_101 : SV RL 101 mX9_step_ 2 := ⟨sbX9_step_, gw_of 1706 rfl rfl, inX9_step_, seX9_step_⟩
set_option maxRecDepth 100000 in
theorem vL_102 : SV RL 102 mX8_home 1 := ⟨sbX8_home, gw_of 1086 rfl rfl, inX8_home, seX8_home⟩
set_option maxRecDepth 100000 in
theorem vL_105 : SV RL 105 mX9_home 1 := ⟨sbX9_home, gw_of 1718 rfl rfl, inX9_home, seX9_home⟩
set_option maxRecDepth 100000 in
theorem vL_106 : SV RL 106 mX8_works 3 := ⟨sbX8_works, gw_of 1090 rfl rfl, inX8_works, seX8_works⟩
set_option maxRecDepth 100000 in
theorem vL_109 : SV RL 109 mX9_works 3 := ⟨sbX9_works, gw_of 1722 rfl rfl, inX9_works, seX9_works⟩
set_option maxRecDepth 100000 in
theorem vL_110 : SV RL 110 mX8_write 2 := ⟨sbX8_write, gw_of 1106 rfl rfl, inX8_write, seX8_write⟩
set_option maxRecDepth 100000 in
theorem vL_113 : SV RL 113 mX9_write 2 := ⟨sbX9_write, gw_of 1730 rfl rfl, inX9_write, seX9_write⟩
set_option maxRecDepth 100000 in
theorem kL_13 : Cond.constantLong RL 13 (4294967295 : Int64) ∈ GW := gw_of 1803 rfl rfl
set_option maxRecDepth 100000 in
theorem nL_7 : Cond.classLink RL 7 RX8 ∈ GW := gw_of 159 rfl rfl
set_option maxRecDepth 100000 in
theorem nL_10 : Cond.classLink RL 10 RX9 ∈ GW := gw_of 1195 rfl rfl

/-- the law's method, whatever its name -/
abbrev mLw (nm : String) : MI := (⟨RL, nm, ""⟩, cL_law, 4, ret)
/-- what holds of the start: the script -/
def ZX (g : GG) (L : Nat) (xs : Nat → Int32) (Z : List Frame → Array Value → State → State → Prop) : List Frame → Array Value → State → State → Prop := fun below args s t => (va_X (gB g) L xs s (gH g) ∧ gB g < (gH g).size) → Z below args s t
theorem W_vac {p : Program} {l : Launch} {e : Env} {R : Room} {s : State} {m : MethodId} {args : Array Value} {below : List Frame} {meth : Method} {c : Code} {H : Heap} {locs : List Loc} {cl sl : Nat} {Q : State → Prop} {f : JFrame} (h : ∀ t, Q t) : W p l e R s m args below meth c H locs cl sl Q f := fun T _ _ => ⟨T.setTop f, Steps.refl _, h _⟩
section LRW
variable {g : GG} {M : MI} {d mc ms : Nat} {Z : List Frame → Array Value → State → State → Prop} {cl sl pc : Nat} {ls ls' : List (Nat × Value)} {st : List Value} {σ : HS} {L : Nat} {xs : Nat → Int32} {fl : UInt32}
theorem q_slen (hd : decode M.2.1 pc = .ok (.arraylength, 1)) (k : WA g M d mc ms (ZX g L xs Z) cl sl (pc + 1) ls (.int (nI L) :: st) σ) : WA g M d mc ms (ZX g L xs Z) cl sl pc ls (.float fl :: st) σ := by
  intro p e s m args below meth c H locs la hX hR hS hl
  by_cases hx : va_X (gB g) L xs s (gH g) ∧ gB g < (gH g).size
  · have hsz := hX.2.2.2.2.2.2.2.2.2
    exact va_slen hX.1 hX.2.1 hx.1 hx.2 (show ¬ gA g < gB g by omega) hS hd (k p e s m args below meth c H locs la hX hR hS hl)
  · exact W_vac fun t z => absurd z hx
theorem q_sld {i : Nat} (hi : i < L) (hL : L < 2147483648) (hd : decode M.2.1 pc = .ok (.iaload, 1)) (k : WA g M d mc ms (ZX g L xs Z) cl sl (pc + 1) ls (.int (xs i) :: st) σ) : WA g M d mc ms (ZX g L xs Z) cl sl pc ls (.int (nI i) :: .float fl :: st) σ := by
  intro p e s m args below meth c H locs la hX hR hS hl
  by_cases hx : va_X (gB g) L xs s (gH g) ∧ gB g < (gH g).size
  · have hsz := hX.2.2.2.2.2.2.2.2.2
    refine va_sld hX.1 hX.2.1 hx.1 hx.2 (show ¬ gA g < gB g by omega) hS (vp_in_nI hi (by omega)) hd ?_
    rw [nI_clamp (by omega)]
    exact k p e s m args below meth c H locs la hX hR hS hl
  · exact W_vac fun t z => absurd z hx
end LRW
