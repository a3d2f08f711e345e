/-! The law's loop. -/
theorem lw_gt {n L : Nat} (hn : n ≤ 4000) (hL : L ≤ 4000) : nI L - nI 6 < nI n ↔ L < n + 6 := by
  rw [Int32.lt_iff_toInt_lt, Int32.toInt_sub, nI_toInt (by omega), nI_toInt (by omega), nI_toInt (by omega)]
  have : ((L : Int) - ((6 : Nat) : Int)).bmod (2 ^ 32) = (L : Int) - 6 := by
    rw [Int.bmod_def]
    split <;> omega
  rw [this]
  omega
section LLP
variable {g : GG} {nm : String} {L : Nat} {xs : Nat → Int32} {Z : List Frame → Array Value → State → State → Prop}
set_option maxRecDepth 100000 in
theorem lw_loop (hL : L ≤ 3072) (hE : ∀ (ls : List (Nat × Value)) (σ : HS) (cl sl : Nat), cl ≤ 600000 → sl ≤ 7302250 → WA g (mLw nm) 15 600000 7302250 (ZX g L xs Z) cl sl 946 ls [.int (nI 1)] σ) : ∀ (f n cl sl : Nat) (σ : HS), L < n + 6 * f + 6 → n ≤ 3100 → cl + 32 * f ≤ 600000 → sl + 5276 * f ≤ 7302250 → LAW σ → WA g (mLw nm) 15 600000 7302250 (ZX g L xs Z) cl sl 18 [(3, .int (nI n)), (2, .ref 58), (1, .ref 1), (0, .float 0)] [] σ := by
  intro f
  induction f with
  | zero =>
    intro n cl sl σ h1 h2 h3 h4 hLW
    refine q_iload_n dL_law_18 rfl rfl ?_
    refine q_aload_n dL_law_19 rfl rfl rfl ?_
    refine q_slen dL_law_20 ?_
    refine q_bipush (v := nI 6) dL_law_21 rfl ?_
    refine q_isub dL_law_23 ?_
    refine q_icmp_gt (tgt := 945) dL_law_24 (by decide) (fun _ => ?_) (fun z => absurd ((lw_gt (by omega) (by omega)).mpr (by omega)) z)
    refine q_iconst (v := nI 1) dL_law_945 rfl ?_
    exact hE _ σ cl sl (by omega) (by omega)
  | succ f ih =>
    intro n cl sl σ h1 h2 h3 h4 hLW
    refine q_iload_n dL_law_18 rfl rfl ?_
    refine q_aload_n dL_law_19 rfl rfl rfl ?_
    refine q_slen dL_law_20 ?_
    refine q_bipush (v := nI 6) dL_law_21 rfl ?_
    refine q_isub dL_law_23 ?_
    refine q_icmp_gt (tgt := 945) dL_law_24 (by decide) (fun _ => ?_) (fun z => ?_)
    · refine q_iconst (v := nI 1) dL_law_945 rfl ?_
      exact hE _ σ cl sl (by omega) (by omega)
    · have hn6 : n + 6 ≤ L := by
        have : ¬ L < n + 6 := fun y => z ((lw_gt (n := n) (L := L) (by omega) (by omega)).mpr y)
        omega
      have nx : ∀ (cl' sl' : Nat) (τ : HS), cl' ≤ cl + 32 → sl' ≤ sl + 5276 → LAW τ → WA g (mLw nm) 15 600000 7302250 (ZX g L xs Z) cl' sl' 939 [(3, .int (nI n)), (2, .ref 58), (1, .ref 1), (0, .float 0)] [] τ := fun cl' sl' τ a b c => by
        refine q_iincN (c := 6) dL_law_939 rfl (show 3 < 4 by decide) rfl (ls' := [(3, .int (nI (n + 6))), (2, .ref 58), (1, .ref 1), (0, .float 0)]) rfl ?_
        refine q_goto (tgt := 18) dL_law_942 (by decide) ?_
        exact ih (n + 6) cl' sl' τ (by omega) (by omega) (by omega) (by omega) c
      have hS : SK σ := by
        obtain ⟨x, hc, -⟩ := hLW
        exact hc.1
      refine q_aload_n dL_law_27 rfl rfl rfl ?_
      refine q_iload_n dL_law_28 rfl rfl ?_
      refine q_sld (i := n) (by omega) (by omega) dL_law_29 ?_
      refine q_bipush (v := nI 31) dL_law_30 rfl ?_
      refine q_iand dL_law_32 ?_
      by_cases w0 : (xs n &&& nI 31) = nI 0
      · refine q_tableEq 0 (tgt := 140) (off := 107) dL_law_33 w0 (by decide) rfl (by decide) ?_
        obtain ⟨d8, d9, E, h8, h9, cA, cB⟩ : PAIR g mX8_feed mX9_feed 0 0 [.long (((xs (n + 1)).toInt64 <<< ((nI 32).toInt64 &&& 63)) ||| ((xs (n + 2)).toInt64 &&& (4294967295 : Int64))), .int (xs (n + 3))] σ := pr_feed hLW
        refine q_aload_n dL_law_140 rfl rfl rfl ?_
        refine q_aload_n dL_law_141 rfl rfl rfl ?_
        refine q_iload_n dL_law_142 rfl rfl ?_
        refine q_iconst (v := nI 1) dL_law_143 rfl ?_
        refine q_iaddN dL_law_144 ?_
        refine q_sld (i := n + 1) (by omega) (by omega) dL_law_145 ?_
        refine q_i2l (v := (xs (n + 1)).toInt64) dL_law_146 rfl ?_
        refine q_bipush (v := nI 32) dL_law_147 rfl ?_
        refine q_lshl (v := (xs (n + 1)).toInt64 <<< ((nI 32).toInt64 &&& 63)) dL_law_149 rfl ?_
        refine q_aload_n dL_law_150 rfl rfl rfl ?_
        refine q_iload_n dL_law_151 rfl rfl ?_
        refine q_iconst (v := nI 2) dL_law_152 rfl ?_
        refine q_iaddN dL_law_153 ?_
        refine q_sld (i := n + 2) (by omega) (by omega) dL_law_154 ?_
        refine q_i2l (v := (xs (n + 2)).toInt64) dL_law_155 rfl ?_
        refine q_ldc2 (v := (4294967295 : Int64)) dL_law_156 kL_13 ?_
        refine q_land dL_law_159 ?_
        refine q_lor dL_law_160 ?_
        refine q_aload_n dL_law_161 rfl rfl rfl ?_
        refine q_iload_n dL_law_162 rfl rfl ?_
        refine q_iconst (v := nI 3) dL_law_163 rfl ?_
        refine q_iaddN dL_law_164 ?_
        refine q_sld (i := n + 3) (by omega) (by omega) dL_law_165 ?_
        refine q_callV (As := [.long (((xs (n + 1)).toInt64 <<< ((nI 32).toInt64 &&& 63)) ||| ((xs (n + 2)).toInt64 &&& (4294967295 : Int64))), .int (xs (n + 3))]) (rest := []) dL_law_166 vL_15 (ty_c hS (by decide) rfl) ⟨by decide, rfl⟩ cA rfl rfl (Nat.le_of_ble_eq_true rfl) (by omega) (by omega) (by omega) ?_
        rintro r1 σ1 ⟨v, rfl, hE1⟩
        obtain ⟨hS1, cB1⟩ := cB v σ1 hE1
        show WA g (mLw nm) 15 600000 7302250 (ZX g L xs Z) (cl + 0) (sl + 0) 169 [(3, .int (nI n)), (2, .ref 58), (1, .ref 1), (0, .float 0)] [.int v] σ1
        refine q_aload_n dL_law_169 rfl rfl rfl ?_
        refine q_aload_n dL_law_170 rfl rfl rfl ?_
        refine q_iload_n dL_law_171 rfl rfl ?_
        refine q_iconst (v := nI 1) dL_law_172 rfl ?_
        refine q_iaddN dL_law_173 ?_
        refine q_sld (i := n + 1) (by omega) (by omega) dL_law_174 ?_
        refine q_i2l (v := (xs (n + 1)).toInt64) dL_law_175 rfl ?_
        refine q_bipush (v := nI 32) dL_law_176 rfl ?_
        refine q_lshl (v := (xs (n + 1)).toInt64 <<< ((nI 32).toInt64 &&& 63)) dL_law_178 rfl ?_
        refine q_aload_n dL_law_179 rfl rfl rfl ?_
        refine q_iload_n dL_law_180 rfl rfl ?_
        refine q_iconst (v := nI 2) dL_law_181 rfl ?_
        refine q_iaddN dL_law_182 ?_
        refine q_sld (i := n + 2) (by omega) (by omega) dL_law_183 ?_
        refine q_i2l (v := (xs (n + 2)).toInt64) dL_law_184 rfl ?_
        refine q_ldc2 (v := (4294967295 : Int64)) dL_law_185 kL_13 ?_
        refine q_land dL_law_188 ?_
        refine q_lor dL_law_189 ?_
        refine q_aload_n dL_law_190 rfl rfl rfl ?_
        refine q_iload_n dL_law_191 rfl rfl ?_
        refine q_iconst (v := nI 3) dL_law_192 rfl ?_
        refine q_iaddN dL_law_193 ?_
        refine q_sld (i := n + 3) (by omega) (by omega) dL_law_194 ?_
        refine q_callV (As := [.long (((xs (n + 1)).toInt64 <<< ((nI 32).toInt64 &&& 63)) ||| ((xs (n + 2)).toInt64 &&& (4294967295 : Int64))), .int (xs (n + 3))]) (rest := [.int v]) dL_law_195 vL_19 (ty_c hS1 (by decide) rfl) ⟨by decide, rfl⟩ cB1 rfl rfl (Nat.le_of_ble_eq_true rfl) (by omega) (by omega) (by omega) ?_
        rintro r2 σ2 ⟨rfl, hL2⟩
        show WA g (mLw nm) 15 600000 7302250 (ZX g L xs Z) (cl + 0 + 0) (sl + 0 + 0) 198 [(3, .int (nI n)), (2, .ref 58), (1, .ref 1), (0, .float 0)] [.int v, .int v] σ2
        refine q_icmp_eq (tgt := 939) dL_law_198 (by decide) (fun _ => ?_) (fun z => absurd rfl z)
        exact nx _ _ σ2 (by omega) (by omega) hL2
      by_cases w1 : (xs n &&& nI 31) = nI 1
      · refine q_tableEq 1 (tgt := 203) (off := 170) dL_law_33 w1 (by decide) rfl (by decide) ?_
        obtain ⟨d8, d9, E, h8, h9, cA, cB⟩ : PAIR g mX8_cut mX9_cut 0 0 [.int (xs (n + 1))] σ := pr_cut hLW
        refine q_aload_n dL_law_203 rfl rfl rfl ?_
        refine q_aload_n dL_law_204 rfl rfl rfl ?_
        refine q_iload_n dL_law_205 rfl rfl ?_
        refine q_iconst (v := nI 1) dL_law_206 rfl ?_
        refine q_iaddN dL_law_207 ?_
        refine q_sld (i := n + 1) (by omega) (by omega) dL_law_208 ?_
        refine q_callV (As := [.int (xs (n + 1))]) (rest := []) dL_law_209 vL_20 (ty_c hS (by decide) rfl) ⟨by decide, rfl⟩ cA rfl rfl (Nat.le_of_ble_eq_true rfl) (by omega) (by omega) (by omega) ?_
        rintro r1 σ1 ⟨v, rfl, hE1⟩
        obtain ⟨hS1, cB1⟩ := cB v σ1 hE1
        show WA g (mLw nm) 15 600000 7302250 (ZX g L xs Z) (cl + 0) (sl + 0) 212 [(3, .int (nI n)), (2, .ref 58), (1, .ref 1), (0, .float 0)] [.int v] σ1
        refine q_aload_n dL_law_212 rfl rfl rfl ?_
        refine q_aload_n dL_law_213 rfl rfl rfl ?_
        refine q_iload_n dL_law_214 rfl rfl ?_
        refine q_iconst (v := nI 1) dL_law_215 rfl ?_
        refine q_iaddN dL_law_216 ?_
        refine q_sld (i := n + 1) (by omega) (by omega) dL_law_217 ?_
        refine q_callV (As := [.int (xs (n + 1))]) (rest := [.int v]) dL_law_218 vL_24 (ty_c hS1 (by decide) rfl) ⟨by decide, rfl⟩ cB1 rfl rfl (Nat.le_of_ble_eq_true rfl) (by omega) (by omega) (by omega) ?_
        rintro r2 σ2 ⟨rfl, hL2⟩
        show WA g (mLw nm) 15 600000 7302250 (ZX g L xs Z) (cl + 0 + 0) (sl + 0 + 0) 221 [(3, .int (nI n)), (2, .ref 58), (1, .ref 1), (0, .float 0)] [.int v, .int v] σ2
        refine q_icmp_eq (tgt := 939) dL_law_221 (by decide) (fun _ => ?_) (fun z => absurd rfl z)
        exact nx _ _ σ2 (by omega) (by omega) hL2
      by_cases w2 : (xs n &&& nI 31) = nI 2
      · refine q_tableEq 2 (tgt := 226) (off := 193) dL_law_33 w2 (by decide) rfl (by decide) ?_
        obtain ⟨d8, d9, E, h8, h9, cA, cB⟩ : PAIR g mX8_tape mX9_tape 0 0 [.int (xs (n + 1))] σ := pr_tape hLW
        refine q_aload_n dL_law_226 rfl rfl rfl ?_
        refine q_aload_n dL_law_227 rfl rfl rfl ?_
        refine q_iload_n dL_law_228 rfl rfl ?_
        refine q_iconst (v := nI 1) dL_law_229 rfl ?_
        refine q_iaddN dL_law_230 ?_
        refine q_sld (i := n + 1) (by omega) (by omega) dL_law_231 ?_
        refine q_callV (As := [.int (xs (n + 1))]) (rest := []) dL_law_232 vL_25 (ty_c hS (by decide) rfl) ⟨by decide, rfl⟩ cA rfl rfl (Nat.le_of_ble_eq_true rfl) (by omega) (by omega) (by omega) ?_
        rintro r1 σ1 ⟨v, rfl, hE1⟩
        obtain ⟨hS1, cB1⟩ := cB v σ1 hE1
        show WA g (mLw nm) 15 600000 7302250 (ZX g L xs Z) (cl + 0) (sl + 0) 235 [(3, .int (nI n)), (2, .ref 58), (1, .ref 1), (0, .float 0)] [.int v] σ1
        refine q_aload_n dL_law_235 rfl rfl rfl ?_
        refine q_aload_n dL_law_236 rfl rfl rfl ?_
        refine q_iload_n dL_law_237 rfl rfl ?_
        refine q_iconst (v := nI 1) dL_law_238 rfl ?_
        refine q_iaddN dL_law_239 ?_
        refine q_sld (i := n + 1) (by omega) (by omega) dL_law_240 ?_
        refine q_callV (As := [.int (xs (n + 1))]) (rest := [.int v]) dL_law_241 vL_28 (ty_c hS1 (by decide) rfl) ⟨by decide, rfl⟩ cB1 rfl rfl (Nat.le_of_ble_eq_true rfl) (by omega) (by omega) (by omega) ?_
        rintro r2 σ2 ⟨rfl, hL2⟩
        show WA g (mLw nm) 15 600000 7302250 (ZX g L xs Z) (cl + 0 + 0) (sl + 0 + 0) 244 [(3, .int (nI n)), (2, .ref 58), (1, .ref 1), (0, .float 0)] [.int v, .int v] σ2
        refine q_icmp_eq (tgt := 939) dL_law_244 (by decide) (fun _ => ?_) (fun z => absurd rfl z)
        exact nx _ _ σ2 (by omega) (by omega) hL2
      by_cases w3 : (xs n &&& nI 31) = nI 3
      · refine q_tableEq 3 (tgt := 249) (off := 216) dL_law_33 w3 (by decide) rfl (by decide) ?_
        obtain ⟨d8, d9, E, h8, h9, cA, cB⟩ : PAIR g mX8_parse mX9_parse 32 5276 [.int (xs (n + 1))] σ := pr_parse hLW
        refine q_aload_n dL_law_249 rfl rfl rfl ?_
        refine q_aload_n dL_law_250 rfl rfl rfl ?_
        refine q_iload_n dL_law_251 rfl rfl ?_
        refine q_iconst (v := nI 1) dL_law_252 rfl ?_
        refine q_iaddN dL_law_253 ?_
        refine q_sld (i := n + 1) (by omega) (by omega) dL_law_254 ?_
        refine q_callV (As := [.int (xs (n + 1))]) (rest := []) dL_law_255 vL_29 (ty_c hS (by decide) rfl) ⟨by decide, rfl⟩ cA rfl rfl (Nat.le_of_ble_eq_true rfl) (by omega) (by omega) (by omega) ?_
        rintro r1 σ1 ⟨v, rfl, hE1⟩
        obtain ⟨hS1, cB1⟩ := cB v σ1 hE1
        show WA g (mLw nm) 15 600000 7302250 (ZX g L xs Z) (cl + 32) (sl + 5276) 258 [(3, .int (nI n)), (2, .ref 58), (1, .ref 1), (0, .float 0)] [.int v] σ1
        refine q_aload_n dL_law_258 rfl rfl rfl ?_
        refine q_aload_n dL_law_259 rfl rfl rfl ?_
        refine q_iload_n dL_law_260 rfl rfl ?_
        refine q_iconst (v := nI 1) dL_law_261 rfl ?_
        refine q_iaddN dL_law_262 ?_
        refine q_sld (i := n + 1) (by omega) (by omega) dL_law_263 ?_
        refine q_callV (As := [.int (xs (n + 1))]) (rest := [.int v]) dL_law_264 vL_32 (ty_c hS1 (by decide) rfl) ⟨by decide, rfl⟩ cB1 rfl rfl (Nat.le_of_ble_eq_true rfl) (by omega) (by omega) (by omega) ?_
        rintro r2 σ2 ⟨rfl, hL2⟩
        show WA g (mLw nm) 15 600000 7302250 (ZX g L xs Z) (cl + 32 + 0) (sl + 5276 + 0) 267 [(3, .int (nI n)), (2, .ref 58), (1, .ref 1), (0, .float 0)] [.int v, .int v] σ2
        refine q_icmp_eq (tgt := 939) dL_law_267 (by decide) (fun _ => ?_) (fun z => absurd rfl z)
        exact nx _ _ σ2 (by omega) (by omega) hL2
      by_cases w4 : (xs n &&& nI 31) = nI 4
      · refine q_tableEq 4 (tgt := 272) (off := 239) dL_law_33 w4 (by decide) rfl (by decide) ?_
        obtain ⟨d8, d9, E, h8, h9, cA, cB⟩ : PAIR g mX8_wrong mX9_wrong 0 0 [] σ := pr_wrong hLW
        refine q_aload_n dL_law_272 rfl rfl rfl ?_
        refine q_callV (As := []) (rest := []) dL_law_273 vL_33 (ty_c hS (by decide) rfl) ⟨by decide, rfl⟩ cA rfl rfl (Nat.le_of_ble_eq_true rfl) (by omega) (by omega) (by omega) ?_
        rintro r1 σ1 ⟨v, rfl, hE1⟩
        obtain ⟨hS1, cB1⟩ := cB v σ1 hE1
        show WA g (mLw nm) 15 600000 7302250 (ZX g L xs Z) (cl + 0) (sl + 0) 276 [(3, .int (nI n)), (2, .ref 58), (1, .ref 1), (0, .float 0)] [.int v] σ1
        refine q_aload_n dL_law_276 rfl rfl rfl ?_
        refine q_callV (As := []) (rest := [.int v]) dL_law_277 vL_37 (ty_c hS1 (by decide) rfl) ⟨by decide, rfl⟩ cB1 rfl rfl (Nat.le_of_ble_eq_true rfl) (by omega) (by omega) (by omega) ?_
        rintro r2 σ2 ⟨rfl, hL2⟩
        show WA g (mLw nm) 15 600000 7302250 (ZX g L xs Z) (cl + 0 + 0) (sl + 0 + 0) 280 [(3, .int (nI n)), (2, .ref 58), (1, .ref 1), (0, .float 0)] [.int v, .int v] σ2
        refine q_icmp_eq (tgt := 939) dL_law_280 (by decide) (fun _ => ?_) (fun z => absurd rfl z)
        exact nx _ _ σ2 (by omega) (by omega) hL2
      by_cases w5 : (xs n &&& nI 31) = nI 5
      · refine q_tableEq 5 (tgt := 285) (off := 252) dL_law_33 w5 (by decide) rfl (by decide) ?_
        obtain ⟨d8, d9, E, h8, h9, cA, cB⟩ : PAIR g mX8_about mX9_about 0 0 [.int (xs (n + 1)), .int (xs (n + 2))] σ := pr_about hLW
        refine q_aload_n dL_law_285 rfl rfl rfl ?_
        refine q_aload_n dL_law_286 rfl rfl rfl ?_
        refine q_iload_n dL_law_287 rfl rfl ?_
        refine q_iconst (v := nI 1) dL_law_288 rfl ?_
        refine q_iaddN dL_law_289 ?_
        refine q_sld (i := n + 1) (by omega) (by omega) dL_law_290 ?_
        refine q_aload_n dL_law_291 rfl rfl rfl ?_
        refine q_iload_n dL_law_292 rfl rfl ?_
        refine q_iconst (v := nI 2) dL_law_293 rfl ?_
        refine q_iaddN dL_law_294 ?_
        refine q_sld (i := n + 2) (by omega) (by omega) dL_law_295 ?_
        refine q_callV (As := [.int (xs (n + 1)), .int (xs (n + 2))]) (rest := []) dL_law_296 vL_38 (ty_c hS (by decide) rfl) ⟨by decide, rfl⟩ cA rfl rfl (Nat.le_of_ble_eq_true rfl) (by omega) (by omega) (by omega) ?_
        rintro r1 σ1 ⟨v, rfl, hE1⟩
        obtain ⟨hS1, cB1⟩ := cB v σ1 hE1
        show WA g (mLw nm) 15 600000 7302250 (ZX g L xs Z) (cl + 0) (sl + 0) 299 [(3, .int (nI n)), (2, .ref 58), (1, .ref 1), (0, .float 0)] [.int v] σ1
        refine q_aload_n dL_law_299 rfl rfl rfl ?_
        refine q_aload_n dL_law_300 rfl rfl rfl ?_
        refine q_iload_n dL_law_301 rfl rfl ?_
        refine q_iconst (v := nI 1) dL_law_302 rfl ?_
        refine q_iaddN dL_law_303 ?_
        refine q_sld (i := n + 1) (by omega) (by omega) dL_law_304 ?_
        refine q_aload_n dL_law_305 rfl rfl rfl ?_
        refine q_iload_n dL_law_306 rfl rfl ?_
        refine q_iconst (v := nI 2) dL_law_307 rfl ?_
        refine q_iaddN dL_law_308 ?_
        refine q_sld (i := n + 2) (by omega) (by omega) dL_law_309 ?_
        refine q_callV (As := [.int (xs (n + 1)), .int (xs (n + 2))]) (rest := [.int v]) dL_law_310 vL_42 (ty_c hS1 (by decide) rfl) ⟨by decide, rfl⟩ cB1 rfl rfl (Nat.le_of_ble_eq_true rfl) (by omega) (by omega) (by omega) ?_
        rintro r2 σ2 ⟨rfl, hL2⟩
        show WA g (mLw nm) 15 600000 7302250 (ZX g L xs Z) (cl + 0 + 0) (sl + 0 + 0) 313 [(3, .int (nI n)), (2, .ref 58), (1, .ref 1), (0, .float 0)] [.int v, .int v] σ2
        refine q_icmp_eq (tgt := 939) dL_law_313 (by decide) (fun _ => ?_) (fun z => absurd rfl z)
        exact nx _ _ σ2 (by omega) (by omega) hL2
      by_cases w6 : (xs n &&& nI 31) = nI 6
      · refine q_tableEq 6 (tgt := 318) (off := 285) dL_law_33 w6 (by decide) rfl (by decide) ?_
        obtain ⟨d8, d9, E, h8, h9, cA, cB⟩ : PAIR g mX8_node mX9_node 0 0 [.int (xs (n + 1)), .int (xs (n + 2)), .int (xs (n + 3))] σ := pr_node hLW
        refine q_aload_n dL_law_318 rfl rfl rfl ?_
        refine q_aload_n dL_law_319 rfl rfl rfl ?_
        refine q_iload_n dL_law_320 rfl rfl ?_
        refine q_iconst (v := nI 1) dL_law_321 rfl ?_
        refine q_iaddN dL_law_322 ?_
        refine q_sld (i := n + 1) (by omega) (by omega) dL_law_323 ?_
        refine q_aload_n dL_law_324 rfl rfl rfl ?_
        refine q_iload_n dL_law_325 rfl rfl ?_
        refine q_iconst (v := nI 2) dL_law_326 rfl ?_
        refine q_iaddN dL_law_327 ?_
        refine q_sld (i := n + 2) (by omega) (by omega) dL_law_328 ?_
        refine q_aload_n dL_law_329 rfl rfl rfl ?_
        refine q_iload_n dL_law_330 rfl rfl ?_
        refine q_iconst (v := nI 3) dL_law_331 rfl ?_
        refine q_iaddN dL_law_332 ?_
        refine q_sld (i := n + 3) (by omega) (by omega) dL_law_333 ?_
        refine q_callV (As := [.int (xs (n + 1)), .int (xs (n + 2)), .int (xs (n + 3))]) (rest := []) dL_law_334 vL_43 (ty_c hS (by decide) rfl) ⟨by decide, rfl⟩ cA rfl rfl (Nat.le_of_ble_eq_true rfl) (by omega) (by omega) (by omega) ?_
        rintro r1 σ1 ⟨v, rfl, hE1⟩
        obtain ⟨hS1, cB1⟩ := cB v σ1 hE1
        show WA g (mLw nm) 15 600000 7302250 (ZX g L xs Z) (cl + 0) (sl + 0) 337 [(3, .int (nI n)), (2, .ref 58), (1, .ref 1), (0, .float 0)] [.int v] σ1
        refine q_aload_n dL_law_337 rfl rfl rfl ?_
        refine q_aload_n dL_law_338 rfl rfl rfl ?_
        refine q_iload_n dL_law_339 rfl rfl ?_
        refine q_iconst (v := nI 1) dL_law_340 rfl ?_
        refine q_iaddN dL_law_341 ?_
        refine q_sld (i := n + 1) (by omega) (by omega) dL_law_342 ?_
        refine q_aload_n dL_law_343 rfl rfl rfl ?_
        refine q_iload_n dL_law_344 rfl rfl ?_
        refine q_iconst (v := nI 2) dL_law_345 rfl ?_
        refine q_iaddN dL_law_346 ?_
        refine q_sld (i := n + 2) (by omega) (by omega) dL_law_347 ?_
        refine q_aload_n dL_law_348 rfl rfl rfl ?_
        refine q_iload_n dL_law_349 rfl rfl ?_
        refine q_iconst (v := nI 3) dL_law_350 rfl ?_
        refine q_iaddN dL_law_351 ?_
        refine q_sld (i := n + 3) (by omega) (by omega) dL_law_352 ?_
        refine q_callV (As := [.int (xs (n + 1)), .int (xs (n + 2)), .int (xs (n + 3))]) (rest := [.int v]) dL_law_353 vL_47 (ty_c hS1 (by decide) rfl) ⟨by decide, rfl⟩ cB1 rfl rfl (Nat.le_of_ble_eq_true rfl) (by omega) (by omega) (by omega) ?_
        rintro r2 σ2 ⟨rfl, hL2⟩
        show WA g (mLw nm) 15 600000 7302250 (ZX g L xs Z) (cl + 0 + 0) (sl + 0 + 0) 356 [(3, .int (nI n)), (2, .ref 58), (1, .ref 1), (0, .float 0)] [.int v, .int v] σ2
        refine q_icmp_eq (tgt := 939) dL_law_356 (by decide) (fun _ => ?_) (fun z => absurd rfl z)
        exact nx _ _ σ2 (by omega) (by omega) hL2
      by_cases w7 : (xs n &&& nI 31) = nI 7
      · refine q_tableEq 7 (tgt := 361) (off := 328) dL_law_33 w7 (by decide) rfl (by decide) ?_
        obtain ⟨d8, d9, E, h8, h9, cA, cB⟩ : PAIR g mX8_sum mX9_sum 0 0 [.int (xs (n + 1)), .int (xs (n + 2)), .int (xs (n + 3))] σ := pr_sum hLW
        refine q_aload_n dL_law_361 rfl rfl rfl ?_
        refine q_aload_n dL_law_362 rfl rfl rfl ?_
        refine q_iload_n dL_law_363 rfl rfl ?_
        refine q_iconst (v := nI 1) dL_law_364 rfl ?_
        refine q_iaddN dL_law_365 ?_
        refine q_sld (i := n + 1) (by omega) (by omega) dL_law_366 ?_
        refine q_aload_n dL_law_367 rfl rfl rfl ?_
        refine q_iload_n dL_law_368 rfl rfl ?_
        refine q_iconst (v := nI 2) dL_law_369 rfl ?_
        refine q_iaddN dL_law_370 ?_
        refine q_sld (i := n + 2) (by omega) (by omega) dL_law_371 ?_
        refine q_aload_n dL_law_372 rfl rfl rfl ?_
        refine q_iload_n dL_law_373 rfl rfl ?_
        refine q_iconst (v := nI 3) dL_law_374 rfl ?_
        refine q_iaddN dL_law_375 ?_
        refine q_sld (i := n + 3) (by omega) (by omega) dL_law_376 ?_
        refine q_callV (As := [.int (xs (n + 1)), .int (xs (n + 2)), .int (xs (n + 3))]) (rest := []) dL_law_377 vL_48 (ty_c hS (by decide) rfl) ⟨by decide, rfl⟩ cA rfl rfl (Nat.le_of_ble_eq_true rfl) (by omega) (by omega) (by omega) ?_
        rintro r1 σ1 ⟨v, rfl, hE1⟩
        obtain ⟨hS1, cB1⟩ := cB v σ1 hE1
        show WA g (mLw nm) 15 600000 7302250 (ZX g L xs Z) (cl + 0) (sl + 0) 380 [(3, .int (nI n)), (2, .ref 58), (1, .ref 1), (0, .float 0)] [.int v] σ1
        refine q_aload_n dL_law_380 rfl rfl rfl ?_
        refine q_aload_n dL_law_381 rfl rfl rfl ?_
        refine q_iload_n dL_law_382 rfl rfl ?_
        refine q_iconst (v := nI 1) dL_law_383 rfl ?_
        refine q_iaddN dL_law_384 ?_
        refine q_sld (i := n + 1) (by omega) (by omega) dL_law_385 ?_
        refine q_aload_n dL_law_386 rfl rfl rfl ?_
        refine q_iload_n dL_law_387 rfl rfl ?_
        refine q_iconst (v := nI 2) dL_law_388 rfl ?_
        refine q_iaddN dL_law_389 ?_
        refine q_sld (i := n + 2) (by omega) (by omega) dL_law_390 ?_
        refine q_aload_n dL_law_391 rfl rfl rfl ?_
        refine q_iload_n dL_law_392 rfl rfl ?_
        refine q_iconst (v := nI 3) dL_law_393 rfl ?_
        refine q_iaddN dL_law_394 ?_
        refine q_sld (i := n + 3) (by omega) (by omega) dL_law_395 ?_
        refine q_callV (As := [.int (xs (n + 1)), .int (xs (n + 2)), .int (xs (n + 3))]) (rest := [.int v]) dL_law_396 vL_51 (ty_c hS1 (by decide) rfl) ⟨by decide, rfl⟩ cB1 rfl rfl (Nat.le_of_ble_eq_true rfl) (by omega) (by omega) (by omega) ?_
        rintro r2 σ2 ⟨rfl, hL2⟩
        show WA g (mLw nm) 15 600000 7302250 (ZX g L xs Z) (cl + 0 + 0) (sl + 0 + 0) 399 [(3, .int (nI n)), (2, .ref 58), (1, .ref 1), (0, .float 0)] [.int v, .int v] σ2
        refine q_icmp_eq (tgt := 939) dL_law_399 (by decide) (fun _ => ?_) (fun z => absurd rfl z)
        exact nx _ _ σ2 (by omega) (by omega) hL2
      by_cases w8 : (xs n &&& nI 31) = nI 8
      · refine q_tableEq 8 (tgt := 404) (off := 371) dL_law_33 w8 (by decide) rfl (by decide) ?_
        obtain ⟨d8, d9, E, h8, h9, cA, cB⟩ : PAIR g mX8_at mX9_at_ 0 0 [.int (xs (n + 1)), .int (xs (n + 2)), .int (xs (n + 3)), .int (xs (n + 4))] σ := pr_at hLW
        refine q_aload_n dL_law_404 rfl rfl rfl ?_
        refine q_aload_n dL_law_405 rfl rfl rfl ?_
        refine q_iload_n dL_law_406 rfl rfl ?_
        refine q_iconst (v := nI 1) dL_law_407 rfl ?_
        refine q_iaddN dL_law_408 ?_
        refine q_sld (i := n + 1) (by omega) (by omega) dL_law_409 ?_
        refine q_aload_n dL_law_410 rfl rfl rfl ?_
        refine q_iload_n dL_law_411 rfl rfl ?_
        refine q_iconst (v := nI 2) dL_law_412 rfl ?_
        refine q_iaddN dL_law_413 ?_
        refine q_sld (i := n + 2) (by omega) (by omega) dL_law_414 ?_
        refine q_aload_n dL_law_415 rfl rfl rfl ?_
        refine q_iload_n dL_law_416 rfl rfl ?_
        refine q_iconst (v := nI 3) dL_law_417 rfl ?_
        refine q_iaddN dL_law_418 ?_
        refine q_sld (i := n + 3) (by omega) (by omega) dL_law_419 ?_
        refine q_aload_n dL_law_420 rfl rfl rfl ?_
        refine q_iload_n dL_law_421 rfl rfl ?_
        refine q_iconst (v := nI 4) dL_law_422 rfl ?_
        refine q_iaddN dL_law_423 ?_
        refine q_sld (i := n + 4) (by omega) (by omega) dL_law_424 ?_
        refine q_callV (As := [.int (xs (n + 1)), .int (xs (n + 2)), .int (xs (n + 3)), .int (xs (n + 4))]) (rest := []) dL_law_425 vL_52 (ty_c hS (by decide) rfl) ⟨by decide, rfl⟩ cA rfl rfl (Nat.le_of_ble_eq_true rfl) (by omega) (by omega) (by omega) ?_
        rintro r1 σ1 ⟨v, rfl, hE1⟩
        obtain ⟨hS1, cB1⟩ := cB v σ1 hE1
        show WA g (mLw nm) 15 600000 7302250 (ZX g L xs Z) (cl + 0) (sl + 0) 428 [(3, .int (nI n)), (2, .ref 58), (1, .ref 1), (0, .float 0)] [.int v] σ1
        refine q_aload_n dL_law_428 rfl rfl rfl ?_
        refine q_aload_n dL_law_429 rfl rfl rfl ?_
        refine q_iload_n dL_law_430 rfl rfl ?_
        refine q_iconst (v := nI 1) dL_law_431 rfl ?_
        refine q_iaddN dL_law_432 ?_
        refine q_sld (i := n + 1) (by omega) (by omega) dL_law_433 ?_
        refine q_aload_n dL_law_434 rfl rfl rfl ?_
        refine q_iload_n dL_law_435 rfl rfl ?_
        refine q_iconst (v := nI 2) dL_law_436 rfl ?_
        refine q_iaddN dL_law_437 ?_
        refine q_sld (i := n + 2) (by omega) (by omega) dL_law_438 ?_
        refine q_aload_n dL_law_439 rfl rfl rfl ?_
        refine q_iload_n dL_law_440 rfl rfl ?_
        refine q_iconst (v := nI 3) dL_law_441 rfl ?_
        refine q_iaddN dL_law_442 ?_
        refine q_sld (i := n + 3) (by omega) (by omega) dL_law_443 ?_
        refine q_aload_n dL_law_444 rfl rfl rfl ?_
        refine q_iload_n dL_law_445 rfl rfl ?_
        refine q_iconst (v := nI 4) dL_law_446 rfl ?_
        refine q_iaddN dL_law_447 ?_
        refine q_sld (i := n + 4) (by omega) (by omega) dL_law_448 ?_
        refine q_callV (As := [.int (xs (n + 1)), .int (xs (n + 2)), .int (xs (n + 3)), .int (xs (n + 4))]) (rest := [.int v]) dL_law_449 vL_56 (ty_c hS1 (by decide) rfl) ⟨by decide, rfl⟩ cB1 rfl rfl (Nat.le_of_ble_eq_true rfl) (by omega) (by omega) (by omega) ?_
        rintro r2 σ2 ⟨rfl, hL2⟩
        show WA g (mLw nm) 15 600000 7302250 (ZX g L xs Z) (cl + 0 + 0) (sl + 0 + 0) 452 [(3, .int (nI n)), (2, .ref 58), (1, .ref 1), (0, .float 0)] [.int v, .int v] σ2
        refine q_icmp_eq (tgt := 939) dL_law_452 (by decide) (fun _ => ?_) (fun z => absurd rfl z)
        exact nx _ _ σ2 (by omega) (by omega) hL2
      by_cases w9 : (xs n &&& nI 31) = nI 9
      · refine q_tableEq 9 (tgt := 457) (off := 424) dL_law_33 w9 (by decide) rfl (by decide) ?_
        obtain ⟨d8, d9, E, h8, h9, cA, cB⟩ : PAIR g mX8_placed mX9_placed 0 0 [.int (xs (n + 1)), .int (xs (n + 2)), .int (xs (n + 3)), .int (xs (n + 4)), .int (xs (n + 5))] σ := pr_placed hLW
        refine q_aload_n dL_law_457 rfl rfl rfl ?_
        refine q_aload_n dL_law_458 rfl rfl rfl ?_
        refine q_iload_n dL_law_459 rfl rfl ?_
        refine q_iconst (v := nI 1) dL_law_460 rfl ?_
        refine q_iaddN dL_law_461 ?_
        refine q_sld (i := n + 1) (by omega) (by omega) dL_law_462 ?_
        refine q_aload_n dL_law_463 rfl rfl rfl ?_
        refine q_iload_n dL_law_464 rfl rfl ?_
        refine q_iconst (v := nI 2) dL_law_465 rfl ?_
        refine q_iaddN dL_law_466 ?_
        refine q_sld (i := n + 2) (by omega) (by omega) dL_law_467 ?_
        refine q_aload_n dL_law_468 rfl rfl rfl ?_
        refine q_iload_n dL_law_469 rfl rfl ?_
        refine q_iconst (v := nI 3) dL_law_470 rfl ?_
        refine q_iaddN dL_law_471 ?_
        refine q_sld (i := n + 3) (by omega) (by omega) dL_law_472 ?_
        refine q_aload_n dL_law_473 rfl rfl rfl ?_
        refine q_iload_n dL_law_474 rfl rfl ?_
        refine q_iconst (v := nI 4) dL_law_475 rfl ?_
        refine q_iaddN dL_law_476 ?_
        refine q_sld (i := n + 4) (by omega) (by omega) dL_law_477 ?_
        refine q_aload_n dL_law_478 rfl rfl rfl ?_
        refine q_iload_n dL_law_479 rfl rfl ?_
        refine q_iconst (v := nI 5) dL_law_480 rfl ?_
        refine q_iaddN dL_law_481 ?_
        refine q_sld (i := n + 5) (by omega) (by omega) dL_law_482 ?_
        refine q_callV (As := [.int (xs (n + 1)), .int (xs (n + 2)), .int (xs (n + 3)), .int (xs (n + 4)), .int (xs (n + 5))]) (rest := []) dL_law_483 vL_57 (ty_c hS (by decide) rfl) ⟨by decide, rfl⟩ cA rfl rfl (Nat.le_of_ble_eq_true rfl) (by omega) (by omega) (by omega) ?_
        rintro r1 σ1 ⟨v, rfl, hE1⟩
        obtain ⟨hS1, cB1⟩ := cB v σ1 hE1
        show WA g (mLw nm) 15 600000 7302250 (ZX g L xs Z) (cl + 0) (sl + 0) 486 [(3, .int (nI n)), (2, .ref 58), (1, .ref 1), (0, .float 0)] [.int v] σ1
        refine q_aload_n dL_law_486 rfl rfl rfl ?_
        refine q_aload_n dL_law_487 rfl rfl rfl ?_
        refine q_iload_n dL_law_488 rfl rfl ?_
        refine q_iconst (v := nI 1) dL_law_489 rfl ?_
        refine q_iaddN dL_law_490 ?_
        refine q_sld (i := n + 1) (by omega) (by omega) dL_law_491 ?_
        refine q_aload_n dL_law_492 rfl rfl rfl ?_
        refine q_iload_n dL_law_493 rfl rfl ?_
        refine q_iconst (v := nI 2) dL_law_494 rfl ?_
        refine q_iaddN dL_law_495 ?_
        refine q_sld (i := n + 2) (by omega) (by omega) dL_law_496 ?_
        refine q_aload_n dL_law_497 rfl rfl rfl ?_
        refine q_iload_n dL_law_498 rfl rfl ?_
        refine q_iconst (v := nI 3) dL_law_499 rfl ?_
        refine q_iaddN dL_law_500 ?_
        refine q_sld (i := n + 3) (by omega) (by omega) dL_law_501 ?_
        refine q_aload_n dL_law_502 rfl rfl rfl ?_
        refine q_iload_n dL_law_503 rfl rfl ?_
        refine q_iconst (v := nI 4) dL_law_504 rfl ?_
        refine q_iaddN dL_law_505 ?_
        refine q_sld (i := n + 4) (by omega) (by omega) dL_law_506 ?_
        refine q_aload_n dL_law_507 rfl rfl rfl ?_
        refine q_iload_n dL_law_508 rfl rfl ?_
        refine q_iconst (v := nI 5) dL_law_509 rfl ?_
        refine q_iaddN dL_law_510 ?_
        refine q_sld (i := n + 5) (by omega) (by omega) dL_law_511 ?_
        refine q_callV (As := [.int (xs (n + 1)), .int (xs (n + 2)), .int (xs (n + 3)), .int (xs (n + 4)), .int (xs (n + 5))]) (rest := [.int v]) dL_law_512 vL_61 (ty_c hS1 (by decide) rfl) ⟨by decide, rfl⟩ cB1 rfl rfl (Nat.le_of_ble_eq_true rfl) (by omega) (by omega) (by omega) ?_
        rintro r2 σ2 ⟨rfl, hL2⟩
        show WA g (mLw nm) 15 600000 7302250 (ZX g L xs Z) (cl + 0 + 0) (sl + 0 + 0) 515 [(3, .int (nI n)), (2, .ref 58), (1, .ref 1), (0, .float 0)] [.int v, .int v] σ2
        refine q_icmp_eq (tgt := 939) dL_law_515 (by decide) (fun _ => ?_) (fun z => absurd rfl z)
        exact nx _ _ σ2 (by omega) (by omega) hL2
      by_cases w10 : (xs n &&& nI 31) = nI 10
      · refine q_tableEq 10 (tgt := 520) (off := 487) dL_law_33 w10 (by decide) rfl (by decide) ?_
        obtain ⟨d8, d9, E, h8, h9, cA, cB⟩ : PAIR g mX8_life mX9_life 0 0 [.int (xs (n + 1)), .int (xs (n + 2)), .int (xs (n + 3))] σ := pr_life hLW
        refine q_aload_n dL_law_520 rfl rfl rfl ?_
        refine q_aload_n dL_law_521 rfl rfl rfl ?_
        refine q_iload_n dL_law_522 rfl rfl ?_
        refine q_iconst (v := nI 1) dL_law_523 rfl ?_
        refine q_iaddN dL_law_524 ?_
        refine q_sld (i := n + 1) (by omega) (by omega) dL_law_525 ?_
        refine q_aload_n dL_law_526 rfl rfl rfl ?_
        refine q_iload_n dL_law_527 rfl rfl ?_
        refine q_iconst (v := nI 2) dL_law_528 rfl ?_
        refine q_iaddN dL_law_529 ?_
        refine q_sld (i := n + 2) (by omega) (by omega) dL_law_530 ?_
        refine q_aload_n dL_law_531 rfl rfl rfl ?_
        refine q_iload_n dL_law_532 rfl rfl ?_
        refine q_iconst (v := nI 3) dL_law_533 rfl ?_
        refine q_iaddN dL_law_534 ?_
        refine q_sld (i := n + 3) (by omega) (by omega) dL_law_535 ?_
        refine q_callV (As := [.int (xs (n + 1)), .int (xs (n + 2)), .int (xs (n + 3))]) (rest := []) dL_law_536 vL_62 (ty_c hS (by decide) rfl) ⟨by decide, rfl⟩ cA rfl rfl (Nat.le_of_ble_eq_true rfl) (by omega) (by omega) (by omega) ?_
        rintro r1 σ1 ⟨v, rfl, hE1⟩
        obtain ⟨hS1, cB1⟩ := cB v σ1 hE1
        show WA g (mLw nm) 15 600000 7302250 (ZX g L xs Z) (cl + 0) (sl + 0) 539 [(3, .int (nI n)), (2, .ref 58), (1, .ref 1), (0, .float 0)] [.int v] σ1
        refine q_aload_n dL_law_539 rfl rfl rfl ?_
        refine q_aload_n dL_law_540 rfl rfl rfl ?_
        refine q_iload_n dL_law_541 rfl rfl ?_
        refine q_iconst (v := nI 1) dL_law_542 rfl ?_
        refine q_iaddN dL_law_543 ?_
        refine q_sld (i := n + 1) (by omega) (by omega) dL_law_544 ?_
        refine q_aload_n dL_law_545 rfl rfl rfl ?_
        refine q_iload_n dL_law_546 rfl rfl ?_
        refine q_iconst (v := nI 2) dL_law_547 rfl ?_
        refine q_iaddN dL_law_548 ?_
        refine q_sld (i := n + 2) (by omega) (by omega) dL_law_549 ?_
        refine q_aload_n dL_law_550 rfl rfl rfl ?_
        refine q_iload_n dL_law_551 rfl rfl ?_
        refine q_iconst (v := nI 3) dL_law_552 rfl ?_
        refine q_iaddN dL_law_553 ?_
        refine q_sld (i := n + 3) (by omega) (by omega) dL_law_554 ?_
        refine q_callV (As := [.int (xs (n + 1)), .int (xs (n + 2)), .int (xs (n + 3))]) (rest := [.int v]) dL_law_555 vL_65 (ty_c hS1 (by decide) rfl) ⟨by decide, rfl⟩ cB1 rfl rfl (Nat.le_of_ble_eq_true rfl) (by omega) (by omega) (by omega) ?_
        rintro r2 σ2 ⟨rfl, hL2⟩
        show WA g (mLw nm) 15 600000 7302250 (ZX g L xs Z) (cl + 0 + 0) (sl + 0 + 0) 558 [(3, .int (nI n)), (2, .ref 58), (1, .ref 1), (0, .float 0)] [.int v, .int v] σ2
        refine q_icmp_eq (tgt := 939) dL_law_558 (by decide) (fun _ => ?_) (fun z => absurd rfl z)
        exact nx _ _ σ2 (by omega) (by omega) hL2
      by_cases w11 : (xs n &&& nI 31) = nI 11
      · refine q_tableEq 11 (tgt := 563) (off := 530) dL_law_33 w11 (by decide) rfl (by decide) ?_
        obtain ⟨d8, d9, E, h8, h9, cA, cB⟩ : PAIR g mX8_places mX9_places 0 0 [.int (xs (n + 1)), .int (xs (n + 2)), .int (xs (n + 3)), .int (xs (n + 4))] σ := pr_places hLW
        refine q_aload_n dL_law_563 rfl rfl rfl ?_
        refine q_aload_n dL_law_564 rfl rfl rfl ?_
        refine q_iload_n dL_law_565 rfl rfl ?_
        refine q_iconst (v := nI 1) dL_law_566 rfl ?_
        refine q_iaddN dL_law_567 ?_
        refine q_sld (i := n + 1) (by omega) (by omega) dL_law_568 ?_
        refine q_aload_n dL_law_569 rfl rfl rfl ?_
        refine q_iload_n dL_law_570 rfl rfl ?_
        refine q_iconst (v := nI 2) dL_law_571 rfl ?_
        refine q_iaddN dL_law_572 ?_
        refine q_sld (i := n + 2) (by omega) (by omega) dL_law_573 ?_
        refine q_aload_n dL_law_574 rfl rfl rfl ?_
        refine q_iload_n dL_law_575 rfl rfl ?_
        refine q_iconst (v := nI 3) dL_law_576 rfl ?_
        refine q_iaddN dL_law_577 ?_
        refine q_sld (i := n + 3) (by omega) (by omega) dL_law_578 ?_
        refine q_aload_n dL_law_579 rfl rfl rfl ?_
        refine q_iload_n dL_law_580 rfl rfl ?_
        refine q_iconst (v := nI 4) dL_law_581 rfl ?_
        refine q_iaddN dL_law_582 ?_
        refine q_sld (i := n + 4) (by omega) (by omega) dL_law_583 ?_
        refine q_callV (As := [.int (xs (n + 1)), .int (xs (n + 2)), .int (xs (n + 3)), .int (xs (n + 4))]) (rest := []) dL_law_584 vL_66 (ty_c hS (by decide) rfl) ⟨by decide, rfl⟩ cA rfl rfl (Nat.le_of_ble_eq_true rfl) (by omega) (by omega) (by omega) ?_
        rintro r1 σ1 ⟨v, rfl, hE1⟩
        obtain ⟨hS1, cB1⟩ := cB v σ1 hE1
        show WA g (mLw nm) 15 600000 7302250 (ZX g L xs Z) (cl + 0) (sl + 0) 587 [(3, .int (nI n)), (2, .ref 58), (1, .ref 1), (0, .float 0)] [.int v] σ1
        refine q_aload_n dL_law_587 rfl rfl rfl ?_
        refine q_aload_n dL_law_588 rfl rfl rfl ?_
        refine q_iload_n dL_law_589 rfl rfl ?_
        refine q_iconst (v := nI 1) dL_law_590 rfl ?_
        refine q_iaddN dL_law_591 ?_
        refine q_sld (i := n + 1) (by omega) (by omega) dL_law_592 ?_
        refine q_aload_n dL_law_593 rfl rfl rfl ?_
        refine q_iload_n dL_law_594 rfl rfl ?_
        refine q_iconst (v := nI 2) dL_law_595 rfl ?_
        refine q_iaddN dL_law_596 ?_
        refine q_sld (i := n + 2) (by omega) (by omega) dL_law_597 ?_
        refine q_aload_n dL_law_598 rfl rfl rfl ?_
        refine q_iload_n dL_law_599 rfl rfl ?_
        refine q_iconst (v := nI 3) dL_law_600 rfl ?_
        refine q_iaddN dL_law_601 ?_
        refine q_sld (i := n + 3) (by omega) (by omega) dL_law_602 ?_
        refine q_aload_n dL_law_603 rfl rfl rfl ?_
        refine q_iload_n dL_law_604 rfl rfl ?_
        refine q_iconst (v := nI 4) dL_law_605 rfl ?_
        refine q_iaddN dL_law_606 ?_
        refine q_sld (i := n + 4) (by omega) (by omega) dL_law_607 ?_
        refine q_callV (As := [.int (xs (n + 1)), .int (xs (n + 2)), .int (xs (n + 3)), .int (xs (n + 4))]) (rest := [.int v]) dL_law_608 vL_69 (ty_c hS1 (by decide) rfl) ⟨by decide, rfl⟩ cB1 rfl rfl (Nat.le_of_ble_eq_true rfl) (by omega) (by omega) (by omega) ?_
        rintro r2 σ2 ⟨rfl, hL2⟩
        show WA g (mLw nm) 15 600000 7302250 (ZX g L xs Z) (cl + 0 + 0) (sl + 0 + 0) 611 [(3, .int (nI n)), (2, .ref 58), (1, .ref 1), (0, .float 0)] [.int v, .int v] σ2
        refine q_icmp_eq (tgt := 939) dL_law_611 (by decide) (fun _ => ?_) (fun z => absurd rfl z)
        exact nx _ _ σ2 (by omega) (by omega) hL2
      by_cases w12 : (xs n &&& nI 31) = nI 12
      · refine q_tableEq 12 (tgt := 616) (off := 583) dL_law_33 w12 (by decide) rfl (by decide) ?_
        obtain ⟨d8, d9, E, h8, h9, cA, cB⟩ : PAIR g mX8_name mX9_name 0 0 [.int (xs (n + 1)), .int (xs (n + 2))] σ := pr_name hLW
        refine q_aload_n dL_law_616 rfl rfl rfl ?_
        refine q_aload_n dL_law_617 rfl rfl rfl ?_
        refine q_iload_n dL_law_618 rfl rfl ?_
        refine q_iconst (v := nI 1) dL_law_619 rfl ?_
        refine q_iaddN dL_law_620 ?_
        refine q_sld (i := n + 1) (by omega) (by omega) dL_law_621 ?_
        refine q_aload_n dL_law_622 rfl rfl rfl ?_
        refine q_iload_n dL_law_623 rfl rfl ?_
        refine q_iconst (v := nI 2) dL_law_624 rfl ?_
        refine q_iaddN dL_law_625 ?_
        refine q_sld (i := n + 2) (by omega) (by omega) dL_law_626 ?_
        refine q_callV (As := [.int (xs (n + 1)), .int (xs (n + 2))]) (rest := []) dL_law_627 vL_70 (ty_c hS (by decide) rfl) ⟨by decide, rfl⟩ cA rfl rfl (Nat.le_of_ble_eq_true rfl) (by omega) (by omega) (by omega) ?_
        rintro r1 σ1 ⟨v, rfl, hE1⟩
        obtain ⟨hS1, cB1⟩ := cB v σ1 hE1
        show WA g (mLw nm) 15 600000 7302250 (ZX g L xs Z) (cl + 0) (sl + 0) 630 [(3, .int (nI n)), (2, .ref 58), (1, .ref 1), (0, .float 0)] [.int v] σ1
        refine q_aload_n dL_law_630 rfl rfl rfl ?_
        refine q_aload_n dL_law_631 rfl rfl rfl ?_
        refine q_iload_n dL_law_632 rfl rfl ?_
        refine q_iconst (v := nI 1) dL_law_633 rfl ?_
        refine q_iaddN dL_law_634 ?_
        refine q_sld (i := n + 1) (by omega) (by omega) dL_law_635 ?_
        refine q_aload_n dL_law_636 rfl rfl rfl ?_
        refine q_iload_n dL_law_637 rfl rfl ?_
        refine q_iconst (v := nI 2) dL_law_638 rfl ?_
        refine q_iaddN dL_law_639 ?_
        refine q_sld (i := n + 2) (by omega) (by omega) dL_law_640 ?_
        refine q_callV (As := [.int (xs (n + 1)), .int (xs (n + 2))]) (rest := [.int v]) dL_law_641 vL_73 (ty_c hS1 (by decide) rfl) ⟨by decide, rfl⟩ cB1 rfl rfl (Nat.le_of_ble_eq_true rfl) (by omega) (by omega) (by omega) ?_
        rintro r2 σ2 ⟨rfl, hL2⟩
        show WA g (mLw nm) 15 600000 7302250 (ZX g L xs Z) (cl + 0 + 0) (sl + 0 + 0) 644 [(3, .int (nI n)), (2, .ref 58), (1, .ref 1), (0, .float 0)] [.int v, .int v] σ2
        refine q_icmp_eq (tgt := 939) dL_law_644 (by decide) (fun _ => ?_) (fun z => absurd rfl z)
        exact nx _ _ σ2 (by omega) (by omega) hL2
      by_cases w13 : (xs n &&& nI 31) = nI 13
      · refine q_tableEq 13 (tgt := 649) (off := 616) dL_law_33 w13 (by decide) rfl (by decide) ?_
        obtain ⟨d8, d9, E, h8, h9, cA, cB⟩ : PAIR g mX8_run mX9_run 0 0 [.int (xs (n + 1)), .int (xs (n + 2))] σ := pr_run hLW
        refine q_aload_n dL_law_649 rfl rfl rfl ?_
        refine q_aload_n dL_law_650 rfl rfl rfl ?_
        refine q_iload_n dL_law_651 rfl rfl ?_
        refine q_iconst (v := nI 1) dL_law_652 rfl ?_
        refine q_iaddN dL_law_653 ?_
        refine q_sld (i := n + 1) (by omega) (by omega) dL_law_654 ?_
        refine q_aload_n dL_law_655 rfl rfl rfl ?_
        refine q_iload_n dL_law_656 rfl rfl ?_
        refine q_iconst (v := nI 2) dL_law_657 rfl ?_
        refine q_iaddN dL_law_658 ?_
        refine q_sld (i := n + 2) (by omega) (by omega) dL_law_659 ?_
        refine q_callV (As := [.int (xs (n + 1)), .int (xs (n + 2))]) (rest := []) dL_law_660 vL_74 (ty_c hS (by decide) rfl) ⟨by decide, rfl⟩ cA rfl rfl (Nat.le_of_ble_eq_true rfl) (by omega) (by omega) (by omega) ?_
        rintro r1 σ1 ⟨v, rfl, hE1⟩
        obtain ⟨hS1, cB1⟩ := cB v σ1 hE1
        show WA g (mLw nm) 15 600000 7302250 (ZX g L xs Z) (cl + 0) (sl + 0) 663 [(3, .int (nI n)), (2, .ref 58), (1, .ref 1), (0, .float 0)] [.int v] σ1
        refine q_aload_n dL_law_663 rfl rfl rfl ?_
        refine q_aload_n dL_law_664 rfl rfl rfl ?_
        refine q_iload_n dL_law_665 rfl rfl ?_
        refine q_iconst (v := nI 1) dL_law_666 rfl ?_
        refine q_iaddN dL_law_667 ?_
        refine q_sld (i := n + 1) (by omega) (by omega) dL_law_668 ?_
        refine q_aload_n dL_law_669 rfl rfl rfl ?_
        refine q_iload_n dL_law_670 rfl rfl ?_
        refine q_iconst (v := nI 2) dL_law_671 rfl ?_
        refine q_iaddN dL_law_672 ?_
        refine q_sld (i := n + 2) (by omega) (by omega) dL_law_673 ?_
        refine q_callV (As := [.int (xs (n + 1)), .int (xs (n + 2))]) (rest := [.int v]) dL_law_674 vL_77 (ty_c hS1 (by decide) rfl) ⟨by decide, rfl⟩ cB1 rfl rfl (Nat.le_of_ble_eq_true rfl) (by omega) (by omega) (by omega) ?_
        rintro r2 σ2 ⟨rfl, hL2⟩
        show WA g (mLw nm) 15 600000 7302250 (ZX g L xs Z) (cl + 0 + 0) (sl + 0 + 0) 677 [(3, .int (nI n)), (2, .ref 58), (1, .ref 1), (0, .float 0)] [.int v, .int v] σ2
        refine q_icmp_eq (tgt := 939) dL_law_677 (by decide) (fun _ => ?_) (fun z => absurd rfl z)
        exact nx _ _ σ2 (by omega) (by omega) hL2
      by_cases w14 : (xs n &&& nI 31) = nI 14
      · refine q_tableEq 14 (tgt := 682) (off := 649) dL_law_33 w14 (by decide) rfl (by decide) ?_
        obtain ⟨d8, d9, E, h8, h9, cA, cB⟩ : PAIR g mX8_ran mX9_ran 0 0 [.int (xs (n + 1))] σ := pr_ran hLW
        refine q_aload_n dL_law_682 rfl rfl rfl ?_
        refine q_aload_n dL_law_683 rfl rfl rfl ?_
        refine q_iload_n dL_law_684 rfl rfl ?_
        refine q_iconst (v := nI 1) dL_law_685 rfl ?_
        refine q_iaddN dL_law_686 ?_
        refine q_sld (i := n + 1) (by omega) (by omega) dL_law_687 ?_
        refine q_callV (As := [.int (xs (n + 1))]) (rest := []) dL_law_688 vL_78 (ty_c hS (by decide) rfl) ⟨by decide, rfl⟩ cA rfl rfl (Nat.le_of_ble_eq_true rfl) (by omega) (by omega) (by omega) ?_
        rintro r1 σ1 ⟨v, rfl, hE1⟩
        obtain ⟨hS1, cB1⟩ := cB v σ1 hE1
        show WA g (mLw nm) 15 600000 7302250 (ZX g L xs Z) (cl + 0) (sl + 0) 691 [(3, .int (nI n)), (2, .ref 58), (1, .ref 1), (0, .float 0)] [.int v] σ1
        refine q_aload_n dL_law_691 rfl rfl rfl ?_
        refine q_aload_n dL_law_692 rfl rfl rfl ?_
        refine q_iload_n dL_law_693 rfl rfl ?_
        refine q_iconst (v := nI 1) dL_law_694 rfl ?_
        refine q_iaddN dL_law_695 ?_
        refine q_sld (i := n + 1) (by omega) (by omega) dL_law_696 ?_
        refine q_callV (As := [.int (xs (n + 1))]) (rest := [.int v]) dL_law_697 vL_81 (ty_c hS1 (by decide) rfl) ⟨by decide, rfl⟩ cB1 rfl rfl (Nat.le_of_ble_eq_true rfl) (by omega) (by omega) (by omega) ?_
        rintro r2 σ2 ⟨rfl, hL2⟩
        show WA g (mLw nm) 15 600000 7302250 (ZX g L xs Z) (cl + 0 + 0) (sl + 0 + 0) 700 [(3, .int (nI n)), (2, .ref 58), (1, .ref 1), (0, .float 0)] [.int v, .int v] σ2
        refine q_icmp_eq (tgt := 939) dL_law_700 (by decide) (fun _ => ?_) (fun z => absurd rfl z)
        exact nx _ _ σ2 (by omega) (by omega) hL2
      by_cases w15 : (xs n &&& nI 31) = nI 15
      · refine q_tableEq 15 (tgt := 705) (off := 672) dL_law_33 w15 (by decide) rfl (by decide) ?_
        obtain ⟨d8, d9, E, h8, h9, cA, cB⟩ : PAIR g mX8_told mX9_told 0 0 [.int (xs (n + 1))] σ := pr_told hLW
        refine q_aload_n dL_law_705 rfl rfl rfl ?_
        refine q_aload_n dL_law_706 rfl rfl rfl ?_
        refine q_iload_n dL_law_707 rfl rfl ?_
        refine q_iconst (v := nI 1) dL_law_708 rfl ?_
        refine q_iaddN dL_law_709 ?_
        refine q_sld (i := n + 1) (by omega) (by omega) dL_law_710 ?_
        refine q_callV (As := [.int (xs (n + 1))]) (rest := []) dL_law_711 vL_82 (ty_c hS (by decide) rfl) ⟨by decide, rfl⟩ cA rfl rfl (Nat.le_of_ble_eq_true rfl) (by omega) (by omega) (by omega) ?_
        rintro r1 σ1 ⟨v, rfl, hE1⟩
        obtain ⟨hS1, cB1⟩ := cB v σ1 hE1
        show WA g (mLw nm) 15 600000 7302250 (ZX g L xs Z) (cl + 0) (sl + 0) 714 [(3, .int (nI n)), (2, .ref 58), (1, .ref 1), (0, .float 0)] [.int v] σ1
        refine q_aload_n dL_law_714 rfl rfl rfl ?_
        refine q_aload_n dL_law_715 rfl rfl rfl ?_
        refine q_iload_n dL_law_716 rfl rfl ?_
        refine q_iconst (v := nI 1) dL_law_717 rfl ?_
        refine q_iaddN dL_law_718 ?_
        refine q_sld (i := n + 1) (by omega) (by omega) dL_law_719 ?_
        refine q_callV (As := [.int (xs (n + 1))]) (rest := [.int v]) dL_law_720 vL_85 (ty_c hS1 (by decide) rfl) ⟨by decide, rfl⟩ cB1 rfl rfl (Nat.le_of_ble_eq_true rfl) (by omega) (by omega) (by omega) ?_
        rintro r2 σ2 ⟨rfl, hL2⟩
        show WA g (mLw nm) 15 600000 7302250 (ZX g L xs Z) (cl + 0 + 0) (sl + 0 + 0) 723 [(3, .int (nI n)), (2, .ref 58), (1, .ref 1), (0, .float 0)] [.int v, .int v] σ2
        refine q_icmp_eq (tgt := 939) dL_law_723 (by decide) (fun _ => ?_) (fun z => absurd rfl z)
        exact nx _ _ σ2 (by omega) (by omega) hL2
      by_cases w16 : (xs n &&& nI 31) = nI 16
      · refine q_tableEq 16 (tgt := 728) (off := 695) dL_law_33 w16 (by decide) rfl (by decide) ?_
        obtain ⟨d8, d9, E, h8, h9, cA, cB⟩ : PAIR g mX8_value mX9_value 0 0 [.int (xs (n + 1))] σ := pr_value hLW
        refine q_aload_n dL_law_728 rfl rfl rfl ?_
        refine q_aload_n dL_law_729 rfl rfl rfl ?_
        refine q_iload_n dL_law_730 rfl rfl ?_
        refine q_iconst (v := nI 1) dL_law_731 rfl ?_
        refine q_iaddN dL_law_732 ?_
        refine q_sld (i := n + 1) (by omega) (by omega) dL_law_733 ?_
        refine q_callV (As := [.int (xs (n + 1))]) (rest := []) dL_law_734 vL_86 (ty_c hS (by decide) rfl) ⟨by decide, rfl⟩ cA rfl rfl (Nat.le_of_ble_eq_true rfl) (by omega) (by omega) (by omega) ?_
        rintro r1 σ1 ⟨v, rfl, hE1⟩
        obtain ⟨hS1, cB1⟩ := cB v σ1 hE1
        show WA g (mLw nm) 15 600000 7302250 (ZX g L xs Z) (cl + 0) (sl + 0) 737 [(3, .int (nI n)), (2, .ref 58), (1, .ref 1), (0, .float 0)] [.int v] σ1
        refine q_aload_n dL_law_737 rfl rfl rfl ?_
        refine q_aload_n dL_law_738 rfl rfl rfl ?_
        refine q_iload_n dL_law_739 rfl rfl ?_
        refine q_iconst (v := nI 1) dL_law_740 rfl ?_
        refine q_iaddN dL_law_741 ?_
        refine q_sld (i := n + 1) (by omega) (by omega) dL_law_742 ?_
        refine q_callV (As := [.int (xs (n + 1))]) (rest := [.int v]) dL_law_743 vL_89 (ty_c hS1 (by decide) rfl) ⟨by decide, rfl⟩ cB1 rfl rfl (Nat.le_of_ble_eq_true rfl) (by omega) (by omega) (by omega) ?_
        rintro r2 σ2 ⟨rfl, hL2⟩
        show WA g (mLw nm) 15 600000 7302250 (ZX g L xs Z) (cl + 0 + 0) (sl + 0 + 0) 746 [(3, .int (nI n)), (2, .ref 58), (1, .ref 1), (0, .float 0)] [.int v, .int v] σ2
        refine q_icmp_eq (tgt := 939) dL_law_746 (by decide) (fun _ => ?_) (fun z => absurd rfl z)
        exact nx _ _ σ2 (by omega) (by omega) hL2
      by_cases w17 : (xs n &&& nI 31) = nI 17
      · refine q_tableEq 17 (tgt := 751) (off := 718) dL_law_33 w17 (by decide) rfl (by decide) ?_
        obtain ⟨d8, d9, E, h8, h9, cA, cB⟩ : PAIR g mX8_row mX9_row 0 0 [.int (xs (n + 1)), .int (xs (n + 2))] σ := pr_row hLW
        refine q_aload_n dL_law_751 rfl rfl rfl ?_
        refine q_aload_n dL_law_752 rfl rfl rfl ?_
        refine q_iload_n dL_law_753 rfl rfl ?_
        refine q_iconst (v := nI 1) dL_law_754 rfl ?_
        refine q_iaddN dL_law_755 ?_
        refine q_sld (i := n + 1) (by omega) (by omega) dL_law_756 ?_
        refine q_aload_n dL_law_757 rfl rfl rfl ?_
        refine q_iload_n dL_law_758 rfl rfl ?_
        refine q_iconst (v := nI 2) dL_law_759 rfl ?_
        refine q_iaddN dL_law_760 ?_
        refine q_sld (i := n + 2) (by omega) (by omega) dL_law_761 ?_
        refine q_callV (As := [.int (xs (n + 1)), .int (xs (n + 2))]) (rest := []) dL_law_762 vL_90 (ty_c hS (by decide) rfl) ⟨by decide, rfl⟩ cA rfl rfl (Nat.le_of_ble_eq_true rfl) (by omega) (by omega) (by omega) ?_
        rintro r1 σ1 ⟨v, rfl, hE1⟩
        obtain ⟨hS1, cB1⟩ := cB v σ1 hE1
        show WA g (mLw nm) 15 600000 7302250 (ZX g L xs Z) (cl + 0) (sl + 0) 765 [(3, .int (nI n)), (2, .ref 58), (1, .ref 1), (0, .float 0)] [.int v] σ1
        refine q_aload_n dL_law_765 rfl rfl rfl ?_
        refine q_aload_n dL_law_766 rfl rfl rfl ?_
        refine q_iload_n dL_law_767 rfl rfl ?_
        refine q_iconst (v := nI 1) dL_law_768 rfl ?_
        refine q_iaddN dL_law_769 ?_
        refine q_sld (i := n + 1) (by omega) (by omega) dL_law_770 ?_
        refine q_aload_n dL_law_771 rfl rfl rfl ?_
        refine q_iload_n dL_law_772 rfl rfl ?_
        refine q_iconst (v := nI 2) dL_law_773 rfl ?_
        refine q_iaddN dL_law_774 ?_
        refine q_sld (i := n + 2) (by omega) (by omega) dL_law_775 ?_
        refine q_callV (As := [.int (xs (n + 1)), .int (xs (n + 2))]) (rest := [.int v]) dL_law_776 vL_93 (ty_c hS1 (by decide) rfl) ⟨by decide, rfl⟩ cB1 rfl rfl (Nat.le_of_ble_eq_true rfl) (by omega) (by omega) (by omega) ?_
        rintro r2 σ2 ⟨rfl, hL2⟩
        show WA g (mLw nm) 15 600000 7302250 (ZX g L xs Z) (cl + 0 + 0) (sl + 0 + 0) 779 [(3, .int (nI n)), (2, .ref 58), (1, .ref 1), (0, .float 0)] [.int v, .int v] σ2
        refine q_icmp_eq (tgt := 939) dL_law_779 (by decide) (fun _ => ?_) (fun z => absurd rfl z)
        exact nx _ _ σ2 (by omega) (by omega) hL2
      by_cases w18 : (xs n &&& nI 31) = nI 18
      · refine q_tableEq 18 (tgt := 784) (off := 751) dL_law_33 w18 (by decide) rfl (by decide) ?_
        obtain ⟨d8, d9, E, h8, h9, cA, cB⟩ : PAIR g mX8_worked mX9_worked 0 0 [.int (xs (n + 1))] σ := pr_worked hLW
        refine q_aload_n dL_law_784 rfl rfl rfl ?_
        refine q_aload_n dL_law_785 rfl rfl rfl ?_
        refine q_iload_n dL_law_786 rfl rfl ?_
        refine q_iconst (v := nI 1) dL_law_787 rfl ?_
        refine q_iaddN dL_law_788 ?_
        refine q_sld (i := n + 1) (by omega) (by omega) dL_law_789 ?_
        refine q_callV (As := [.int (xs (n + 1))]) (rest := []) dL_law_790 vL_94 (ty_c hS (by decide) rfl) ⟨by decide, rfl⟩ cA rfl rfl (Nat.le_of_ble_eq_true rfl) (by omega) (by omega) (by omega) ?_
        rintro r1 σ1 ⟨v, rfl, hE1⟩
        obtain ⟨hS1, cB1⟩ := cB v σ1 hE1
        show WA g (mLw nm) 15 600000 7302250 (ZX g L xs Z) (cl + 0) (sl + 0) 793 [(3, .int (nI n)), (2, .ref 58), (1, .ref 1), (0, .float 0)] [.int v] σ1
        refine q_aload_n dL_law_793 rfl rfl rfl ?_
        refine q_aload_n dL_law_794 rfl rfl rfl ?_
        refine q_iload_n dL_law_795 rfl rfl ?_
        refine q_iconst (v := nI 1) dL_law_796 rfl ?_
        refine q_iaddN dL_law_797 ?_
        refine q_sld (i := n + 1) (by omega) (by omega) dL_law_798 ?_
        refine q_callV (As := [.int (xs (n + 1))]) (rest := [.int v]) dL_law_799 vL_97 (ty_c hS1 (by decide) rfl) ⟨by decide, rfl⟩ cB1 rfl rfl (Nat.le_of_ble_eq_true rfl) (by omega) (by omega) (by omega) ?_
        rintro r2 σ2 ⟨rfl, hL2⟩
        show WA g (mLw nm) 15 600000 7302250 (ZX g L xs Z) (cl + 0 + 0) (sl + 0 + 0) 802 [(3, .int (nI n)), (2, .ref 58), (1, .ref 1), (0, .float 0)] [.int v, .int v] σ2
        refine q_icmp_eq (tgt := 939) dL_law_802 (by decide) (fun _ => ?_) (fun z => absurd rfl z)
        exact nx _ _ σ2 (by omega) (by omega) hL2
      by_cases w19 : (xs n &&& nI 31) = nI 19
      · refine q_tableEq 19 (tgt := 807) (off := 774) dL_law_33 w19 (by decide) rfl (by decide) ?_
        obtain ⟨d8, d9, E, h8, h9, cA, cB⟩ : PAIR g mX8_step mX9_step_ 0 0 [.int (xs (n + 1)), .int (xs (n + 2))] σ := pr_step hLW
        refine q_aload_n dL_law_807 rfl rfl rfl ?_
        refine q_aload_n dL_law_808 rfl rfl rfl ?_
        refine q_iload_n dL_law_809 rfl rfl ?_
        refine q_iconst (v := nI 1) dL_law_810 rfl ?_
        refine q_iaddN dL_law_811 ?_
        refine q_sld (i := n + 1) (by omega) (by omega) dL_law_812 ?_
        refine q_aload_n dL_law_813 rfl rfl rfl ?_
        refine q_iload_n dL_law_814 rfl rfl ?_
        refine q_iconst (v := nI 2) dL_law_815 rfl ?_
        refine q_iaddN dL_law_816 ?_
        refine q_sld (i := n + 2) (by omega) (by omega) dL_law_817 ?_
        refine q_callV (As := [.int (xs (n + 1)), .int (xs (n + 2))]) (rest := []) dL_law_818 vL_98 (ty_c hS (by decide) rfl) ⟨by decide, rfl⟩ cA rfl rfl (Nat.le_of_ble_eq_true rfl) (by omega) (by omega) (by omega) ?_
        rintro r1 σ1 ⟨v, rfl, hE1⟩
        obtain ⟨hS1, cB1⟩ := cB v σ1 hE1
        show WA g (mLw nm) 15 600000 7302250 (ZX g L xs Z) (cl + 0) (sl + 0) 821 [(3, .int (nI n)), (2, .ref 58), (1, .ref 1), (0, .float 0)] [.int v] σ1
        refine q_aload_n dL_law_821 rfl rfl rfl ?_
        refine q_aload_n dL_law_822 rfl rfl rfl ?_
        refine q_iload_n dL_law_823 rfl rfl ?_
        refine q_iconst (v := nI 1) dL_law_824 rfl ?_
        refine q_iaddN dL_law_825 ?_
        refine q_sld (i := n + 1) (by omega) (by omega) dL_law_826 ?_
        refine q_aload_n dL_law_827 rfl rfl rfl ?_
        refine q_iload_n dL_law_828 rfl rfl ?_
        refine q_iconst (v := nI 2) dL_law_829 rfl ?_
        refine q_iaddN dL_law_830 ?_
        refine q_sld (i := n + 2) (by omega) (by omega) dL_law_831 ?_
        refine q_callV (As := [.int (xs (n + 1)), .int (xs (n + 2))]) (rest := [.int v]) dL_law_832 vL_101 (ty_c hS1 (by decide) rfl) ⟨by decide, rfl⟩ cB1 rfl rfl (Nat.le_of_ble_eq_true rfl) (by omega) (by omega) (by omega) ?_
        rintro r2 σ2 ⟨rfl, hL2⟩
        show WA g (mLw nm) 15 600000 7302250 (ZX g L xs Z) (cl + 0 + 0) (sl + 0 + 0) 835 [(3, .int (nI n)), (2, .ref 58), (1, .ref 1), (0, .float 0)] [.int v, .int v] σ2
        refine q_icmp_eq (tgt := 939) dL_law_835 (by decide) (fun _ => ?_) (fun z => absurd rfl z)
        exact nx _ _ σ2 (by omega) (by omega) hL2
      by_cases w20 : (xs n &&& nI 31) = nI 20
      · refine q_tableEq 20 (tgt := 840) (off := 807) dL_law_33 w20 (by decide) rfl (by decide) ?_
        obtain ⟨d8, d9, E, h8, h9, cA, cB⟩ : PAIR g mX8_home mX9_home 0 0 [.int (xs (n + 1))] σ := pr_home hLW
        refine q_aload_n dL_law_840 rfl rfl rfl ?_
        refine q_aload_n dL_law_841 rfl rfl rfl ?_
        refine q_iload_n dL_law_842 rfl rfl ?_
        refine q_iconst (v := nI 1) dL_law_843 rfl ?_
        refine q_iaddN dL_law_844 ?_
        refine q_sld (i := n + 1) (by omega) (by omega) dL_law_845 ?_
        refine q_callV (As := [.int (xs (n + 1))]) (rest := []) dL_law_846 vL_102 (ty_c hS (by decide) rfl) ⟨by decide, rfl⟩ cA rfl rfl (Nat.le_of_ble_eq_true rfl) (by omega) (by omega) (by omega) ?_
        rintro r1 σ1 ⟨v, rfl, hE1⟩
        obtain ⟨hS1, cB1⟩ := cB v σ1 hE1
        show WA g (mLw nm) 15 600000 7302250 (ZX g L xs Z) (cl + 0) (sl + 0) 849 [(3, .int (nI n)), (2, .ref 58), (1, .ref 1), (0, .float 0)] [.int v] σ1
        refine q_aload_n dL_law_849 rfl rfl rfl ?_
        refine q_aload_n dL_law_850 rfl rfl rfl ?_
        refine q_iload_n dL_law_851 rfl rfl ?_
        refine q_iconst (v := nI 1) dL_law_852 rfl ?_
        refine q_iaddN dL_law_853 ?_
        refine q_sld (i := n + 1) (by omega) (by omega) dL_law_854 ?_
        refine q_callV (As := [.int (xs (n + 1))]) (rest := [.int v]) dL_law_855 vL_105 (ty_c hS1 (by decide) rfl) ⟨by decide, rfl⟩ cB1 rfl rfl (Nat.le_of_ble_eq_true rfl) (by omega) (by omega) (by omega) ?_
        rintro r2 σ2 ⟨rfl, hL2⟩
        show WA g (mLw nm) 15 600000 7302250 (ZX g L xs Z) (cl + 0 + 0) (sl + 0 + 0) 858 [(3, .int (nI n)), (2, .ref 58), (1, .ref 1), (0, .float 0)] [.int v, .int v] σ2
        refine q_icmp_eq (tgt := 939) dL_law_858 (by decide) (fun _ => ?_) (fun z => absurd rfl z)
        exact nx _ _ σ2 (by omega) (by omega) hL2
      by_cases w21 : (xs n &&& nI 31) = nI 21
      · refine q_tableEq 21 (tgt := 863) (off := 830) dL_law_33 w21 (by decide) rfl (by decide) ?_
        obtain ⟨d8, d9, E, h8, h9, cA, cB⟩ : PAIR g mX8_works mX9_works 0 0 [.int (xs (n + 1)), .int (xs (n + 2)), .int (xs (n + 3))] σ := pr_works hLW
        refine q_aload_n dL_law_863 rfl rfl rfl ?_
        refine q_aload_n dL_law_864 rfl rfl rfl ?_
        refine q_iload_n dL_law_865 rfl rfl ?_
        refine q_iconst (v := nI 1) dL_law_866 rfl ?_
        refine q_iaddN dL_law_867 ?_
        refine q_sld (i := n + 1) (by omega) (by omega) dL_law_868 ?_
        refine q_aload_n dL_law_869 rfl rfl rfl ?_
        refine q_iload_n dL_law_870 rfl rfl ?_
        refine q_iconst (v := nI 2) dL_law_871 rfl ?_
        refine q_iaddN dL_law_872 ?_
        refine q_sld (i := n + 2) (by omega) (by omega) dL_law_873 ?_
        refine q_aload_n dL_law_874 rfl rfl rfl ?_
        refine q_iload_n dL_law_875 rfl rfl ?_
        refine q_iconst (v := nI 3) dL_law_876 rfl ?_
        refine q_iaddN dL_law_877 ?_
        refine q_sld (i := n + 3) (by omega) (by omega) dL_law_878 ?_
        refine q_callV (As := [.int (xs (n + 1)), .int (xs (n + 2)), .int (xs (n + 3))]) (rest := []) dL_law_879 vL_106 (ty_c hS (by decide) rfl) ⟨by decide, rfl⟩ cA rfl rfl (Nat.le_of_ble_eq_true rfl) (by omega) (by omega) (by omega) ?_
        rintro r1 σ1 ⟨v, rfl, hE1⟩
        obtain ⟨hS1, cB1⟩ := cB v σ1 hE1
        show WA g (mLw nm) 15 600000 7302250 (ZX g L xs Z) (cl + 0) (sl + 0) 882 [(3, .int (nI n)), (2, .ref 58), (1, .ref 1), (0, .float 0)] [.int v] σ1
        refine q_aload_n dL_law_882 rfl rfl rfl ?_
        refine q_aload_n dL_law_883 rfl rfl rfl ?_
        refine q_iload_n dL_law_884 rfl rfl ?_
        refine q_iconst (v := nI 1) dL_law_885 rfl ?_
        refine q_iaddN dL_law_886 ?_
        refine q_sld (i := n + 1) (by omega) (by omega) dL_law_887 ?_
        refine q_aload_n dL_law_888 rfl rfl rfl ?_
        refine q_iload_n dL_law_889 rfl rfl ?_
        refine q_iconst (v := nI 2) dL_law_890 rfl ?_
        refine q_iaddN dL_law_891 ?_
        refine q_sld (i := n + 2) (by omega) (by omega) dL_law_892 ?_
        refine q_aload_n dL_law_893 rfl rfl rfl ?_
        refine q_iload_n dL_law_894 rfl rfl ?_
        refine q_iconst (v := nI 3) dL_law_895 rfl ?_
        refine q_iaddN dL_law_896 ?_
        refine q_sld (i := n + 3) (by omega) (by omega) dL_law_897 ?_
        refine q_callV (As := [.int (xs (n + 1)), .int (xs (n + 2)), .int (xs (n + 3))]) (rest := [.int v]) dL_law_898 vL_109 (ty_c hS1 (by decide) rfl) ⟨by decide, rfl⟩ cB1 rfl rfl (Nat.le_of_ble_eq_true rfl) (by omega) (by omega) (by omega) ?_
        rintro r2 σ2 ⟨rfl, hL2⟩
        show WA g (mLw nm) 15 600000 7302250 (ZX g L xs Z) (cl + 0 + 0) (sl + 0 + 0) 901 [(3, .int (nI n)), (2, .ref 58), (1, .ref 1), (0, .float 0)] [.int v, .int v] σ2
        refine q_icmp_eq (tgt := 939) dL_law_901 (by decide) (fun _ => ?_) (fun z => absurd rfl z)
        exact nx _ _ σ2 (by omega) (by omega) hL2
      by_cases w22 : (xs n &&& nI 31) = nI 22
      · refine q_tableEq 22 (tgt := 906) (off := 873) dL_law_33 w22 (by decide) rfl (by decide) ?_
        obtain ⟨d8, d9, E, h8, h9, cA, cB⟩ : PAIR g mX8_write mX9_write 0 0 [.int (xs (n + 1)), .int (xs (n + 2))] σ := pr_write hLW
        refine q_aload_n dL_law_906 rfl rfl rfl ?_
        refine q_aload_n dL_law_907 rfl rfl rfl ?_
        refine q_iload_n dL_law_908 rfl rfl ?_
        refine q_iconst (v := nI 1) dL_law_909 rfl ?_
        refine q_iaddN dL_law_910 ?_
        refine q_sld (i := n + 1) (by omega) (by omega) dL_law_911 ?_
        refine q_aload_n dL_law_912 rfl rfl rfl ?_
        refine q_iload_n dL_law_913 rfl rfl ?_
        refine q_iconst (v := nI 2) dL_law_914 rfl ?_
        refine q_iaddN dL_law_915 ?_
        refine q_sld (i := n + 2) (by omega) (by omega) dL_law_916 ?_
        refine q_callV (As := [.int (xs (n + 1)), .int (xs (n + 2))]) (rest := []) dL_law_917 vL_110 (ty_c hS (by decide) rfl) ⟨by decide, rfl⟩ cA rfl rfl (Nat.le_of_ble_eq_true rfl) (by omega) (by omega) (by omega) ?_
        rintro r1 σ1 ⟨v, rfl, hE1⟩
        obtain ⟨hS1, cB1⟩ := cB v σ1 hE1
        show WA g (mLw nm) 15 600000 7302250 (ZX g L xs Z) (cl + 0) (sl + 0) 920 [(3, .int (nI n)), (2, .ref 58), (1, .ref 1), (0, .float 0)] [.int v] σ1
        refine q_aload_n dL_law_920 rfl rfl rfl ?_
        refine q_aload_n dL_law_921 rfl rfl rfl ?_
        refine q_iload_n dL_law_922 rfl rfl ?_
        refine q_iconst (v := nI 1) dL_law_923 rfl ?_
        refine q_iaddN dL_law_924 ?_
        refine q_sld (i := n + 1) (by omega) (by omega) dL_law_925 ?_
        refine q_aload_n dL_law_926 rfl rfl rfl ?_
        refine q_iload_n dL_law_927 rfl rfl ?_
        refine q_iconst (v := nI 2) dL_law_928 rfl ?_
        refine q_iaddN dL_law_929 ?_
        refine q_sld (i := n + 2) (by omega) (by omega) dL_law_930 ?_
        refine q_callV (As := [.int (xs (n + 1)), .int (xs (n + 2))]) (rest := [.int v]) dL_law_931 vL_113 (ty_c hS1 (by decide) rfl) ⟨by decide, rfl⟩ cB1 rfl rfl (Nat.le_of_ble_eq_true rfl) (by omega) (by omega) (by omega) ?_
        rintro r2 σ2 ⟨rfl, hL2⟩
        show WA g (mLw nm) 15 600000 7302250 (ZX g L xs Z) (cl + 0 + 0) (sl + 0 + 0) 934 [(3, .int (nI n)), (2, .ref 58), (1, .ref 1), (0, .float 0)] [.int v, .int v] σ2
        refine q_icmp_eq (tgt := 939) dL_law_934 (by decide) (fun _ => ?_) (fun z => absurd rfl z)
        exact nx _ _ σ2 (by omega) (by omega) hL2
      refine q_tableNe 0 22 (tgt := 939) dL_law_33 (by decide) (fun v h1 h2 => by rcases (show v = 0 ∨ v = 1 ∨ v = 2 ∨ v = 3 ∨ v = 4 ∨ v = 5 ∨ v = 6 ∨ v = 7 ∨ v = 8 ∨ v = 9 ∨ v = 10 ∨ v = 11 ∨ v = 12 ∨ v = 13 ∨ v = 14 ∨ v = 15 ∨ v = 16 ∨ v = 17 ∨ v = 18 ∨ v = 19 ∨ v = 20 ∨ v = 21 ∨ v = 22 by omega) with rfl | rfl | rfl | rfl | rfl | rfl | rfl | rfl | rfl | rfl | rfl | rfl | rfl | rfl | rfl | rfl | rfl | rfl | rfl | rfl | rfl | rfl | rfl <;> assumption) (by decide) ?_
      exact nx _ _ σ (by omega) (by omega) hLW

end LLP
