/-! The model: write. -/
def wtq (h i : Nat) : Prop := txq h i ∨ h = 98
def wuq (h i : Nat) : Prop := wtq h i ∨ h = 59 ∨ (h = 58 ∧ i = 1)
theorem MR.wu {σ σ' : HS} {i : Nat} {q : PS} (hk : MOK q) (f : FR9 wuq σ σ') (h : MR σ i q) : MR σ' i q := h.fq hk.1 hk.2.1 f fun a j z => by unfold wuq wtq txq at z; unfold cpq; omega
theorem FR9.tw {σ σ' : HS} (f : FR9 txq σ σ') : FR9 wtq σ σ' := f.mono fun _ _ => Or.inl
theorem FR9.wu {σ σ' : HS} (f : FR9 wtq σ σ') : FR9 wuq σ σ' := f.mono fun _ _ => Or.inl
theorem ndT_way {q : PS} (hc : BC q) (hw : WFs q) (hnb : NB q) {l n : Nat} (hs : (psS q).length ≤ n) (hn : n < NN q) : ndT q l n = stX 7 ++ (stX 16 ++ (98 :: numT (rB (rg q n)))) ++ stX 11 := by
  have hx := XL_at hc hw hnb hs hn
  have k7 := (rg_7 hw hn).mpr hs
  have e1 : rg q n = (7, (XL q (psS q).length).getD (n - (psS q).length) 0, -1, nI 0, nI 0, -1, nI ((XL q (psS q).length).getD (n - (psS q).length) 0), -1, 0, 0) := if_neg (by omega)
  have e2 : ld q 0 n = some (nf q ((XL q (psS q).length).getD (n - (psS q).length) 0)) := by unfold ld; rw [if_neg (by omega), if_pos rfl]
  have e3 : aBn q l n 0 = rB (rg q n) := by
    rw [asB_a hc hw hnb hn (by omega) (by omega) e2]
    have := nf_0 hc hx
    unfold asB
    rw [if_neg (by omega), nf_rB hc hx, e1]; rfl
  unfold ndT ndB
  rw [if_neg (by omega), if_neg (by omega), if_neg (by omega), if_neg (by omega), if_neg (by omega), if_neg (by omega), e3]
section MWR
variable {g : GG} {σ σ0 : HS} {q : PS} {i : Nat} {W : List Nat}
theorem y9_w53 (hS0 : SK σ0) (hi : i < 4) (hr0 : MR σ0 i q) (hk : MOK q) {l : Nat} (hl : l < 3) {Z : List Frame → Array Value → State → State → Prop} (K : ∀ (σ : HS) (m : Nat), FR9 wtq σ0 σ → TXm σ [] → OBm σ q l → WA g mX9_write 6 0 0 Z 0 0 103 [(0, .ref 58), (1, .int (nI i)), (2, .int (nI l)), (3, .int (nI m))] [] σ) : ∀ (f j : Nat) (σ : HS), (psS q).length + j + f = NN q → FR9 wtq σ0 σ → TXm σ [] → (∀ n, (psS q).length ≤ n → n < (psS q).length + j → sI σ 98 n = oW (own q l n)) → WA g mX9_write 6 0 0 Z 0 0 53 [(0, .ref 58), (1, .int (nI i)), (2, .int (nI l)), (3, .int (nI (obN q l j))), (4, .int (nI ((psS q).length + j)))] [] σ := by
  have hN := NN_le hk.1
  have h40 := hk.1.2.1
  intro f
  induction f with
  | zero =>
    intro j σ hj h1 hW h2
    have hS := SK.fq h1 hS0
    have r62 := (hr0.wu hk h1.wu).1.2.1
    have fin := K σ (obN q l j) h1 hW (fun n a1 a2 => h2 n a1 (by omega))
    refine q_iload dX9_write_53 rfl ?_
    refine q_aload_n dX9_write_55 rfl rfl rfl ?_
    refine q_getr (r := 62) dX9_write_56 fX9_43 rfl (ty_c hS (by decide) rfl) (hS.2 58 10 62 rfl) ?_
    refine q_iload_n dX9_write_59 rfl rfl ?_
    refine q_iald (x := nI (NN q)) (j := i) dX9_write_60 (ty_c hS (by decide) rfl) (ix_n (by omega) (by omega)) r62 ?_
    refine q_icmp_geN (tgt := 103) dX9_write_61 (by decide) (by omega) (by omega) (fun c61 => ?_) (fun c61 => ?_)
    · skip
      refine q_pk [0, 1, 2, 3] (ls' := [(0, .ref 58), (1, .int (nI i)), (2, .int (nI l)), (3, .int (nI (obN q l j)))]) rfl ?_
      exact fin
    · exact absurd c61 (by omega)
  | succ f ih =>
    intro j σ hj h1 hW h2
    have hS := SK.fq h1 hS0
    have r62 := (hr0.wu hk h1.wu).1.2.1
    have hin : (psS q).length + j < NN q := by omega
    have hol := obN_le (q := q) (p := l) j
    have e0 : (psS q).length + j - (psS q).length = j := by omega
    have g1 : FR9 wtq σ0 (uI σ 98 ((psS q).length + j) (-1)) := h1.uI (Or.inr rfl)
    have hS1 := SK.fq g1 hS0
    have hr1 := hr0.wu hk g1.wu
    have txo : ∀ (τ : HS) (n : Nat) (v : Int32), TXm τ [] → TXm (uI τ 98 n v) [] := fun τ n v h => ⟨(rd_off (by omega)).trans h.1, h.2.1, fun x hx => absurd hx (by simp)⟩
    by_cases ha : anS q l ((psS q).length + j) = true
    · have hw : own q l ((psS q).length + j) = some (obN q l j) := by unfold own; rw [if_pos ha, e0]
      have hb : obN q l (j + 1) = obN q l j + 1 := by show _ + (if _ then _ else _) = _; rw [if_pos ha]
      have fin := ih (j + 1) (uI (uI σ 98 ((psS q).length + j) (-1)) 98 ((psS q).length + j) (nI (obN q l j))) (by omega) (g1.uI (Or.inr rfl)) (txo _ _ _ (txo _ _ _ hW)) (fun n a1 a2 => by
        by_cases z : n = (psS q).length + j
        · rw [z, uI_self, hw]; rfl
        · rw [rd_ne z, rd_ne z]; exact h2 n a1 (by omega))
      rw [hb] at fin
      refine q_iload dX9_write_53 rfl ?_
      refine q_aload_n dX9_write_55 rfl rfl rfl ?_
      refine q_getr (r := 62) dX9_write_56 fX9_43 rfl (ty_c hS (by decide) rfl) (hS.2 58 10 62 rfl) ?_
      refine q_iload_n dX9_write_59 rfl rfl ?_
      refine q_iald (x := nI (NN q)) (j := i) dX9_write_60 (ty_c hS (by decide) rfl) (ix_n (by omega) (by omega)) r62 ?_
      refine q_icmp_geN (tgt := 103) dX9_write_61 (by decide) (by omega) (by omega) (fun c61 => ?_) (fun c61 => ?_)
      · exact absurd c61 (by omega)
      · skip
        refine q_aload_n dX9_write_64 rfl rfl rfl ?_
        refine q_getr (r := 98) dX9_write_65 fX9_199 rfl (ty_c hS (by decide) rfl) (hS.2 58 61 98 rfl) ?_
        refine q_iload dX9_write_68 rfl ?_
        refine q_iconst (v := (-1 : Int32)) dX9_write_70 rfl ?_
        refine q_iast (j := ((psS q).length + j)) dX9_write_71 (ty_c hS (by decide) rfl) (ix_n (by omega) (by omega)) ?_
        refine q_aload_n dX9_write_72 rfl rfl rfl ?_
        refine q_iload_n dX9_write_73 rfl rfl ?_
        refine q_iload_n dX9_write_74 rfl rfl ?_
        refine q_iload dX9_write_75 rfl ?_
        refine q_callV (As := [.int (nI i), .int (nI l), .int (nI ((psS q).length + j))]) (rest := []) dX9_write_77 vX9_454 (ty_c hS (by decide) rfl) ⟨by decide, rfl⟩ (z9_sets (σ := (uI σ 98 ((psS q).length + j) (-1 : Int32))) hS1 hi hr1 hk hl hin) rfl rfl (Nat.le_of_ble_eq_true rfl) (by omega) (by omega) (by omega) (k_p ?_)
        refine q_if_neB (tgt := 86) dX9_write_80 (by decide) (fun c80 => ?_) (fun c80 => ?_)
        · skip
          refine q_aload_n dX9_write_86 rfl rfl rfl ?_
          refine q_getr (r := 98) dX9_write_87 fX9_199 rfl (ty_c hS (by decide) rfl) (hS.2 58 61 98 rfl) ?_
          refine q_iload dX9_write_90 rfl ?_
          refine q_iload_n dX9_write_92 rfl rfl ?_
          refine q_iast (j := ((psS q).length + j)) dX9_write_93 (ty_c hS (by decide) rfl) (ix_n (by omega) (by omega)) ?_
          refine q_iincN (c := 1) dX9_write_94 rfl (by decide) rfl (ls' := [(3, .int (nI (obN q l j + 1))), (0, .ref 58), (1, .int (nI i)), (2, .int (nI l)), (4, .int (nI ((psS q).length + j)))]) rfl ?_
          refine q_iincN (c := 1) dX9_write_97 rfl (by decide) rfl (ls' := [(4, .int (nI ((psS q).length + j + 1))), (3, .int (nI (obN q l j + 1))), (0, .ref 58), (1, .int (nI i)), (2, .int (nI l))]) rfl ?_
          refine q_goto (tgt := 53) dX9_write_100 (by decide) ?_
          refine q_pk [2, 3, 4, 1, 0] (ls' := [(0, .ref 58), (1, .int (nI i)), (2, .int (nI l)), (3, .int (nI (obN q l j + 1))), (4, .int (nI ((psS q).length + j + 1)))]) rfl ?_
          exact fin
        · exact absurd ha (by rw [c80]; decide)
    · have hw : own q l ((psS q).length + j) = none := if_neg ha
      have hb : obN q l (j + 1) = obN q l j := by show _ + (if _ then _ else _) = _; rw [if_neg ha]; rfl
      have fin := ih (j + 1) (uI σ 98 ((psS q).length + j) (-1)) (by omega) g1 (txo _ _ _ hW) (fun n a1 a2 => by
        by_cases z : n = (psS q).length + j
        · rw [z, uI_self, hw]; rfl
        · rw [rd_ne z]; exact h2 n a1 (by omega))
      rw [hb] at fin
      refine q_iload dX9_write_53 rfl ?_
      refine q_aload_n dX9_write_55 rfl rfl rfl ?_
      refine q_getr (r := 62) dX9_write_56 fX9_43 rfl (ty_c hS (by decide) rfl) (hS.2 58 10 62 rfl) ?_
      refine q_iload_n dX9_write_59 rfl rfl ?_
      refine q_iald (x := nI (NN q)) (j := i) dX9_write_60 (ty_c hS (by decide) rfl) (ix_n (by omega) (by omega)) r62 ?_
      refine q_icmp_geN (tgt := 103) dX9_write_61 (by decide) (by omega) (by omega) (fun c61 => ?_) (fun c61 => ?_)
      · exact absurd c61 (by omega)
      · skip
        refine q_aload_n dX9_write_64 rfl rfl rfl ?_
        refine q_getr (r := 98) dX9_write_65 fX9_199 rfl (ty_c hS (by decide) rfl) (hS.2 58 61 98 rfl) ?_
        refine q_iload dX9_write_68 rfl ?_
        refine q_iconst (v := (-1 : Int32)) dX9_write_70 rfl ?_
        refine q_iast (j := ((psS q).length + j)) dX9_write_71 (ty_c hS (by decide) rfl) (ix_n (by omega) (by omega)) ?_
        refine q_aload_n dX9_write_72 rfl rfl rfl ?_
        refine q_iload_n dX9_write_73 rfl rfl ?_
        refine q_iload_n dX9_write_74 rfl rfl ?_
        refine q_iload dX9_write_75 rfl ?_
        refine q_callV (As := [.int (nI i), .int (nI l), .int (nI ((psS q).length + j))]) (rest := []) dX9_write_77 vX9_454 (ty_c hS (by decide) rfl) ⟨by decide, rfl⟩ (z9_sets (σ := (uI σ 98 ((psS q).length + j) (-1 : Int32))) hS1 hi hr1 hk hl hin) rfl rfl (Nat.le_of_ble_eq_true rfl) (by omega) (by omega) (by omega) (k_p ?_)
        refine q_if_neB (tgt := 86) dX9_write_80 (by decide) (fun c80 => ?_) (fun c80 => ?_)
        · exact absurd c80 ha
        · skip
          refine q_goto (tgt := 97) dX9_write_83 (by decide) ?_
          refine q_iincN (c := 1) dX9_write_97 rfl (by decide) rfl (ls' := [(4, .int (nI ((psS q).length + j + 1))), (0, .ref 58), (1, .int (nI i)), (2, .int (nI l)), (3, .int (nI (obN q l j)))]) rfl ?_
          refine q_goto (tgt := 53) dX9_write_100 (by decide) ?_
          refine q_pk [1, 2, 3, 4, 0] (ls' := [(0, .ref 58), (1, .int (nI i)), (2, .int (nI l)), (3, .int (nI (obN q l j))), (4, .int (nI ((psS q).length + j + 1)))]) rfl ?_
          exact fin
theorem y9_w137 (hS0 : SK σ0) (hi : i < 4) (hr0 : MR σ0 i q) (hk : MOK q) {l : Nat} (hl : l < 3) (ho0 : OBm σ0 q l) {j m : Nat} (hj : j < (psF q).length) {Z : List Frame → Array Value → State → State → Prop} : ∀ (k n : Nat) (W : List Nat) (σ : HS), n + k = nf q (j + 1) → FR9 txq σ0 σ → TXm σ W → W.length + (nsT q l n k).length + 11 ≤ 60000 → (∀ τ, FR9 txq σ0 τ → TXm τ (W ++ nsT q l n k) → WA g mX9_write 6 0 0 Z 0 0 177 [(0, .ref 58), (1, .int (nI i)), (2, .int (nI l)), (3, .int (nI m)), (4, .int (nI j))] [] τ) → WA g mX9_write 6 0 0 Z 0 0 137 [(0, .ref 58), (1, .int (nI i)), (2, .int (nI l)), (3, .int (nI m)), (4, .int (nI j)), (5, .int (nI n))] [] σ := by
  have hN := NN_le hk.1
  have h40 := hk.1.2.1
  have hle : nf q (j + 1) ≤ (psS q).length := nf_le hk.1 (by omega)
  have h1e : 1 ≤ nf q (j + 1) := by have := hk.1.2.2.2.2.1 j hj; omega
  have hed : eNd q j = nf q (j + 1) - 1 := rfl
  have hNS : (psS q).length ≤ NN q := by unfold NN; omega
  intro k
  induction k with
  | zero =>
    intro n W σ hn h1 hW hl9 K
    have hS := SK.fq h1 hS0
    have hr := hr0.tx hk h1
    refine q_iload dX9_write_137 rfl ?_
    refine q_aload_n dX9_write_139 rfl rfl rfl ?_
    refine q_iload_n dX9_write_140 rfl rfl ?_
    refine q_iload dX9_write_141 rfl ?_
    refine q_callV (As := [.int (nI i), .int (nI j)]) (rest := [.int (nI n)]) dX9_write_143 vX9_405 (ty_c hS (by decide) rfl) ⟨by decide, rfl⟩ (z9_end hS hi hr hk hj) rfl rfl (Nat.le_of_ble_eq_true rfl) (by omega) (by omega) (by omega) (k_p ?_)
    refine q_sipush (v := nI 240) dX9_write_146 rfl ?_
    refine q_iload_n dX9_write_149 rfl rfl ?_
    refine q_imulN dX9_write_150 ?_
    refine q_isubN dX9_write_151 (by omega) ?_
    refine q_icmp_gtN (tgt := 177) dX9_write_152 (by decide) (by omega) (by omega) (fun c152 => ?_) (fun c152 => ?_)
    · skip
      refine q_pk [0, 1, 2, 3, 4] (ls' := [(0, .ref 58), (1, .int (nI i)), (2, .int (nI l)), (3, .int (nI m)), (4, .int (nI j))]) rfl ?_
      exact K _ h1 (by rw [show nsT q l n 0 = [] from rfl, List.append_nil]; exact hW)
    · exact absurd c152 (by omega)
  | succ k ih =>
    intro n W σ hn h1 hW hl9 K
    have hS := SK.fq h1 hS0
    have hr := hr0.tx hk h1
    have e0 : nsT q l n (k + 1) = (seT q l n (psM q).length 0 ++ ndT q l n) ++ nsT q l (n + 1) k := rfl
    rw [e0] at hl9
    have hL := hl9
    simp only [List.length_append] at hL
    refine q_iload dX9_write_137 rfl ?_
    refine q_aload_n dX9_write_139 rfl rfl rfl ?_
    refine q_iload_n dX9_write_140 rfl rfl ?_
    refine q_iload dX9_write_141 rfl ?_
    refine q_callV (As := [.int (nI i), .int (nI j)]) (rest := [.int (nI n)]) dX9_write_143 vX9_405 (ty_c hS (by decide) rfl) ⟨by decide, rfl⟩ (z9_end hS hi hr hk hj) rfl rfl (Nat.le_of_ble_eq_true rfl) (by omega) (by omega) (by omega) (k_p ?_)
    refine q_sipush (v := nI 240) dX9_write_146 rfl ?_
    refine q_iload_n dX9_write_149 rfl rfl ?_
    refine q_imulN dX9_write_150 ?_
    refine q_isubN dX9_write_151 (by omega) ?_
    refine q_icmp_gtN (tgt := 177) dX9_write_152 (by decide) (by omega) (by omega) (fun c152 => ?_) (fun c152 => ?_)
    · exact absurd c152 (by omega)
    · skip
      refine q_aload_n dX9_write_155 rfl rfl rfl ?_
      refine q_iload_n dX9_write_156 rfl rfl ?_
      refine q_iload_n dX9_write_157 rfl rfl ?_
      refine q_iload dX9_write_158 rfl ?_
      refine q_callV (As := [.int (nI i), .int (nI l), .int (nI n)]) (rest := []) dX9_write_160 vX9_460 (ty_c hS (by decide) rfl) ⟨by decide, rfl⟩ (z9_saySets hS hi hr hk hl (by omega) hW (by omega)) rfl rfl (Nat.le_of_ble_eq_true rfl) (by omega) (by omega) (by omega) (k_v (fun s160 q160 => ?_))
      have f160 := h1.tr q160.1
      have zS160 : SK s160 := (SK.fq f160 hS0)
      refine q_aload_n dX9_write_163 rfl rfl rfl ?_
      refine q_iload_n dX9_write_164 rfl rfl ?_
      refine q_iload_n dX9_write_165 rfl rfl ?_
      refine q_iload dX9_write_166 rfl ?_
      refine q_callV (As := [.int (nI i), .int (nI l), .int (nI n)]) (rest := []) dX9_write_168 vX9_463 (ty_c zS160 (by decide) rfl) ⟨by decide, rfl⟩ (z9_sayNode zS160 hi (hr0.tx hk f160) hk hl (ho0.tx f160) (by omega) q160.2 (by simp only [List.length_append]; omega)) rfl rfl (Nat.le_of_ble_eq_true rfl) (by omega) (by omega) (by omega) (k_v (fun s168 q168 => ?_))
      have f168 := f160.tr q168.1
      have zS168 : SK s168 := (SK.fq f168 hS0)
      refine q_iincN (c := 1) dX9_write_171 rfl (by decide) rfl (ls' := [(5, .int (nI (n + 1))), (0, .ref 58), (1, .int (nI i)), (2, .int (nI l)), (3, .int (nI m)), (4, .int (nI j))]) rfl ?_
      refine q_goto (tgt := 137) dX9_write_174 (by decide) ?_
      refine q_pk [1, 2, 3, 4, 5, 0] (ls' := [(0, .ref 58), (1, .int (nI i)), (2, .int (nI l)), (3, .int (nI m)), (4, .int (nI j)), (5, .int (nI (n + 1)))]) rfl ?_
      refine ih (n + 1) _ s168 (by omega) f168 q168.2 (by simp only [List.length_append]; omega) (fun τ t1 t2 => K τ t1 ?_)
      have eA : W ++ nsT q l n (k + 1) = ((W ++ seT q l n (psM q).length 0) ++ ndT q l n) ++ nsT q l (n + 1) k := by rw [e0]; simp only [List.append_assoc]
      rw [eA]
      exact t2
theorem y9_w177 {σ : HS} {l j m : Nat} {Z : List Frame → Array Value → State → State → Prop} (h : WA g mX9_write 6 0 0 Z 0 0 106 [(0, .ref 58), (1, .int (nI i)), (2, .int (nI l)), (3, .int (nI m)), (4, .int (nI (j + 1)))] [] σ) : WA g mX9_write 6 0 0 Z 0 0 177 [(0, .ref 58), (1, .int (nI i)), (2, .int (nI l)), (3, .int (nI m)), (4, .int (nI j))] [] σ := by
  refine q_iincN (c := 1) dX9_write_177 rfl (by decide) rfl (ls' := [(4, .int (nI (j + 1))), (0, .ref 58), (1, .int (nI i)), (2, .int (nI l)), (3, .int (nI m))]) rfl ?_
  refine q_goto (tgt := 106) dX9_write_180 (by decide) ?_
  refine q_pk [1, 2, 3, 4, 0] (ls' := [(0, .ref 58), (1, .int (nI i)), (2, .int (nI l)), (3, .int (nI m)), (4, .int (nI (j + 1)))]) rfl ?_
  exact h
theorem y9_w106 (hS0 : SK σ0) (hi : i < 4) (hr0 : MR σ0 i q) (hk : MOK q) {l : Nat} (hl : l < 3) (ho0 : OBm σ0 q l) {m : Nat} {Z : List Frame → Array Value → State → State → Prop} : ∀ (k j : Nat) (W : List Nat) (σ : HS), j + k = (psF q).length → FR9 txq σ0 σ → TXm σ W → W.length + (bkT q l k j).length + 11 ≤ 60000 → (∀ τ, FR9 txq σ0 τ → TXm τ (W ++ bkT q l k j) → WA g mX9_write 6 0 0 Z 0 0 183 [(0, .ref 58), (1, .int (nI i)), (2, .int (nI l)), (3, .int (nI m))] [] τ) → WA g mX9_write 6 0 0 Z 0 0 106 [(0, .ref 58), (1, .int (nI i)), (2, .int (nI l)), (3, .int (nI m)), (4, .int (nI j))] [] σ := by
  have hN := NN_le hk.1
  have h40 := hk.1.2.1
  intro k
  induction k with
  | zero =>
    intro j W σ hj h1 hW hl9 K
    have hS := SK.fq h1 hS0
    have r61 := (hr0.tx hk h1).1.1
    refine q_iload dX9_write_106 rfl ?_
    refine q_aload_n dX9_write_108 rfl rfl rfl ?_
    refine q_getr (r := 61) dX9_write_109 fX9_40 rfl (ty_c hS (by decide) rfl) (hS.2 58 9 61 rfl) ?_
    refine q_iload_n dX9_write_112 rfl rfl ?_
    refine q_iald (x := nI ((psF q).length)) (j := i) dX9_write_113 (ty_c hS (by decide) rfl) (ix_n (by omega) (by omega)) r61 ?_
    refine q_icmp_geN (tgt := 183) dX9_write_114 (by decide) (by omega) (by omega) (fun c114 => ?_) (fun c114 => ?_)
    · skip
      refine q_pk [0, 1, 2, 3] (ls' := [(0, .ref 58), (1, .int (nI i)), (2, .int (nI l)), (3, .int (nI m))]) rfl ?_
      exact K _ h1 (by rw [show bkT q l 0 j = [] from rfl, List.append_nil]; exact hW)
    · exact absurd c114 (by omega)
  | succ k ih =>
    intro j W σ hj h1 hW hl9 K
    have hS := SK.fq h1 hS0
    have r61 := (hr0.tx hk h1).1.1
    have hlt := hk.1.2.2.2.2.1 j (by omega)
    have hle : nf q (j + 1) ≤ (psS q).length := nf_le hk.1 (by omega)
    have hns : (psS q).length ≤ 160 := hk.1.2.2.1
    have e0 : bkT q l (k + 1) j = (hdT j ++ nsT q l (nf q j) (nf q (j + 1) - nf q j)) ++ bkT q l k (j + 1) := rfl
    rw [e0] at hl9
    have hL := hl9
    simp only [List.length_append] at hL
    refine q_iload dX9_write_106 rfl ?_
    refine q_aload_n dX9_write_108 rfl rfl rfl ?_
    refine q_getr (r := 61) dX9_write_109 fX9_40 rfl (ty_c hS (by decide) rfl) (hS.2 58 9 61 rfl) ?_
    refine q_iload_n dX9_write_112 rfl rfl ?_
    refine q_iald (x := nI ((psF q).length)) (j := i) dX9_write_113 (ty_c hS (by decide) rfl) (ix_n (by omega) (by omega)) r61 ?_
    refine q_icmp_geN (tgt := 183) dX9_write_114 (by decide) (by omega) (by omega) (fun c114 => ?_) (fun c114 => ?_)
    · exact absurd c114 (by omega)
    · skip
      refine q_aload_n dX9_write_117 rfl rfl rfl ?_
      refine q_iload dX9_write_118 rfl ?_
      refine q_callV (As := [.int (nI j)]) (rest := []) dX9_write_120 vX9_457 (ty_c hS (by decide) rfl) ⟨by decide, rfl⟩ (z9_head hS hW (b := j) (by omega) (by omega)) rfl rfl (Nat.le_of_ble_eq_true rfl) (by omega) (by omega) (by omega) (k_v (fun s120 q120 => ?_))
      have f120 := h1.tr q120.1
      have r65 := (hr0.tx hk f120).1.2.2.2.2.1 j (by omega)
      have zS120 : SK s120 := (SK.fq f120 hS0)
      refine q_aload_n dX9_write_123 rfl rfl rfl ?_
      refine q_getr (r := 65) dX9_write_124 fX9_52 rfl (ty_c zS120 (by decide) rfl) (zS120.2 58 13 65 rfl) ?_
      refine q_bipush (v := nI 41) dX9_write_127 rfl ?_
      refine q_iload_n dX9_write_129 rfl rfl ?_
      refine q_imulN dX9_write_130 ?_
      refine q_iload dX9_write_131 rfl ?_
      refine q_iaddN dX9_write_133 ?_
      refine q_iald (x := nI (nf q j)) (j := ((41 * i) + j)) dX9_write_134 (ty_c zS120 (by decide) rfl) (ix_n (by omega) (by omega)) r65 ?_
      refine q_istore dX9_write_135 (by decide) (ls' := [(5, .int (nI (nf q j))), (0, .ref 58), (1, .int (nI i)), (2, .int (nI l)), (3, .int (nI m)), (4, .int (nI j))]) rfl ?_
      refine q_pk [1, 2, 3, 4, 5, 0] (ls' := [(0, .ref 58), (1, .int (nI i)), (2, .int (nI l)), (3, .int (nI m)), (4, .int (nI j)), (5, .int (nI (nf q j)))]) rfl ?_
      refine y9_w137 hS0 hi hr0 hk hl ho0 (by omega) (nf q (j + 1) - nf q j) (nf q j) _ s120 (by omega) f120 q120.2 (by simp only [List.length_append]; omega) (fun τ t1 t2 => ?_)
      refine y9_w177 (ih (j + 1) _ τ (by omega) t1 t2 (by simp only [List.length_append]; omega) (fun υ u1 u2 => K υ u1 ?_))
      have eA : W ++ bkT q l (k + 1) j = ((W ++ hdT j) ++ nsT q l (nf q j) (nf q (j + 1) - nf q j)) ++ bkT q l k (j + 1) := by rw [e0]; simp only [List.append_assoc]
      rw [eA]
      exact u2
theorem y9_w191 (hS0 : SK σ0) (hi : i < 4) (hr0 : MR σ0 i q) (hk : MOK q) {l : Nat} (hl : l < 3) (ho0 : OBm σ0 q l) {m : Nat} {Z : List Frame → Array Value → State → State → Prop} : ∀ (k n : Nat) (W : List Nat) (σ : HS), n + k = NN q → (psS q).length ≤ n → FR9 txq σ0 σ → TXm σ W → W.length + (owT q l k n).length + 11 ≤ 60000 → (∀ τ, FR9 txq σ0 τ → TXm τ (W ++ owT q l k n) → WA g mX9_write 6 0 0 Z 0 0 265 [(0, .ref 58), (1, .int (nI i)), (2, .int (nI l)), (3, .int (nI m))] [] τ) → WA g mX9_write 6 0 0 Z 0 0 191 [(0, .ref 58), (1, .int (nI i)), (2, .int (nI l)), (3, .int (nI m)), (4, .int (nI n))] [] σ := by
  have hN := NN_le hk.1
  have h40 := hk.1.2.1
  intro k
  induction k with
  | zero =>
    intro n W σ hn hs h1 hW hl9 K
    have hS := SK.fq h1 hS0
    have r62 := (hr0.tx hk h1).1.2.1
    refine q_iload dX9_write_191 rfl ?_
    refine q_aload_n dX9_write_193 rfl rfl rfl ?_
    refine q_getr (r := 62) dX9_write_194 fX9_43 rfl (ty_c hS (by decide) rfl) (hS.2 58 10 62 rfl) ?_
    refine q_iload_n dX9_write_197 rfl rfl ?_
    refine q_iald (x := nI (NN q)) (j := i) dX9_write_198 (ty_c hS (by decide) rfl) (ix_n (by omega) (by omega)) r62 ?_
    refine q_icmp_geN (tgt := 265) dX9_write_199 (by decide) (by omega) (by omega) (fun c199 => ?_) (fun c199 => ?_)
    · skip
      refine q_pk [0, 1, 2, 3] (ls' := [(0, .ref 58), (1, .int (nI i)), (2, .int (nI l)), (3, .int (nI m))]) rfl ?_
      exact K _ h1 (by rw [show owT q l 0 n = [] from rfl, List.append_nil]; exact hW)
    · exact absurd c199 (by omega)
  | succ k ih =>
    intro n W σ hn hs h1 hW hl9 K
    have hS := SK.fq h1 hS0
    have hr := hr0.tx hk h1
    have r62 := hr.1.2.1
    have hoo := (ho0.tx h1) n hs (by omega)
    cases hy : own q l n with
    | none =>
      rw [hy] at hoo
      have eT : owT q l (k + 1) n = owT q l k (n + 1) := by show owB q l n ++ _ = _; unfold owB; rw [hy]; rfl
      rw [eT] at K hl9
      refine q_iload dX9_write_191 rfl ?_
      refine q_aload_n dX9_write_193 rfl rfl rfl ?_
      refine q_getr (r := 62) dX9_write_194 fX9_43 rfl (ty_c hS (by decide) rfl) (hS.2 58 10 62 rfl) ?_
      refine q_iload_n dX9_write_197 rfl rfl ?_
      refine q_iald (x := nI (NN q)) (j := i) dX9_write_198 (ty_c hS (by decide) rfl) (ix_n (by omega) (by omega)) r62 ?_
      refine q_icmp_geN (tgt := 265) dX9_write_199 (by decide) (by omega) (by omega) (fun c199 => ?_) (fun c199 => ?_)
      · exact absurd c199 (by omega)
      · skip
        refine q_aload_n dX9_write_202 rfl rfl rfl ?_
        refine q_getr (r := 98) dX9_write_203 fX9_199 rfl (ty_c hS (by decide) rfl) (hS.2 58 61 98 rfl) ?_
        refine q_iload dX9_write_206 rfl ?_
        refine q_iald (x := (-1)) (j := n) dX9_write_208 (ty_c hS (by decide) rfl) (ix_n (by omega) (by omega)) hoo ?_
        refine q_if_ge1 (tgt := 215) dX9_write_209 (by decide) (by decide) ?_
        refine q_goto (tgt := 259) dX9_write_212 (by decide) ?_
        refine q_iincN (c := 1) dX9_write_259 rfl (by decide) rfl (ls' := [(4, .int (nI (n + 1))), (0, .ref 58), (1, .int (nI i)), (2, .int (nI l)), (3, .int (nI m))]) rfl ?_
        refine q_goto (tgt := 191) dX9_write_262 (by decide) ?_
        refine q_pk [1, 2, 3, 4, 0] (ls' := [(0, .ref 58), (1, .int (nI i)), (2, .int (nI l)), (3, .int (nI m)), (4, .int (nI (n + 1)))]) rfl ?_
        exact ih (n + 1) W σ (by omega) (by omega) h1 hW hl9 K
    | some y =>
      rw [hy] at hoo
      have hyl := own_lt hk.1 hy hs (by omega)
      have hbl := rB_lt hk.1 hk.2.1 hk.2.2.1 (n := n) (by omega)
      have eN := ndT_way hk.1 hk.2.1 hk.2.2.1 (l := l) hs (by omega)
      have eT : owT q l (k + 1) n = (hdT y ++ seT q l n (psM q).length 0 ++ (stX 7 ++ (stX 16 ++ (98 :: numT (rB (rg q n)))) ++ stX 11)) ++ owT q l k (n + 1) := by
        show owB q l n ++ _ = _
        unfold owB; rw [hy, ← eN]
      rw [eT] at K hl9
      have hL := hl9
      simp only [sx7, sx11, sx16, List.length_append, List.length_cons, List.length_nil] at hL
      refine q_iload dX9_write_191 rfl ?_
      refine q_aload_n dX9_write_193 rfl rfl rfl ?_
      refine q_getr (r := 62) dX9_write_194 fX9_43 rfl (ty_c hS (by decide) rfl) (hS.2 58 10 62 rfl) ?_
      refine q_iload_n dX9_write_197 rfl rfl ?_
      refine q_iald (x := nI (NN q)) (j := i) dX9_write_198 (ty_c hS (by decide) rfl) (ix_n (by omega) (by omega)) r62 ?_
      refine q_icmp_geN (tgt := 265) dX9_write_199 (by decide) (by omega) (by omega) (fun c199 => ?_) (fun c199 => ?_)
      · exact absurd c199 (by omega)
      · skip
        refine q_aload_n dX9_write_202 rfl rfl rfl ?_
        refine q_getr (r := 98) dX9_write_203 fX9_199 rfl (ty_c hS (by decide) rfl) (hS.2 58 61 98 rfl) ?_
        refine q_iload dX9_write_206 rfl ?_
        refine q_iald (x := nI y) (j := n) dX9_write_208 (ty_c hS (by decide) rfl) (ix_n (by omega) (by omega)) hoo ?_
        refine q_if_geN (tgt := 215) dX9_write_209 (by decide) (by omega) ?_
        refine q_aload_n dX9_write_215 rfl rfl rfl ?_
        refine q_aload_n dX9_write_216 rfl rfl rfl ?_
        refine q_getr (r := 98) dX9_write_217 fX9_199 rfl (ty_c hS (by decide) rfl) (hS.2 58 61 98 rfl) ?_
        refine q_iload dX9_write_220 rfl ?_
        refine q_iald (x := nI y) (j := n) dX9_write_222 (ty_c hS (by decide) rfl) (ix_n (by omega) (by omega)) hoo ?_
        refine q_callV (As := [.int (nI y)]) (rest := []) dX9_write_223 vX9_457 (ty_c hS (by decide) rfl) ⟨by decide, rfl⟩ (z9_head hS hW (b := y) (by omega) (by omega)) rfl rfl (Nat.le_of_ble_eq_true rfl) (by omega) (by omega) (by omega) (k_v (fun s223 q223 => ?_))
        have f223 := (h1).tr q223.1
        have b223 := ((hr0.tx hk f223).1.2.2.2.2.2.1 n (by omega)).1.2.1
        have zS223 : SK s223 := (SK.fq f223 hS0)
        refine q_aload_n dX9_write_226 rfl rfl rfl ?_
        refine q_iload_n dX9_write_227 rfl rfl ?_
        refine q_iload_n dX9_write_228 rfl rfl ?_
        refine q_iload dX9_write_229 rfl ?_
        refine q_callV (As := [.int (nI i), .int (nI l), .int (nI n)]) (rest := []) dX9_write_231 vX9_460 (ty_c zS223 (by decide) rfl) ⟨by decide, rfl⟩ (z9_saySets zS223 hi (hr0.tx hk f223) hk hl (by omega) q223.2 (by simp only [sx7, sx11, sx16, List.length_append, List.length_cons, List.length_nil]; omega)) rfl rfl (Nat.le_of_ble_eq_true rfl) (by omega) (by omega) (by omega) (k_v (fun s231 q231 => ?_))
        have f231 := (f223).tr q231.1
        have b231 := ((hr0.tx hk f231).1.2.2.2.2.2.1 n (by omega)).1.2.1
        have zS231 : SK s231 := (SK.fq f231 hS0)
        refine q_aload_n dX9_write_234 rfl rfl rfl ?_
        refine q_callV (As := []) (rest := []) dX9_write_235 vX9_432 (ty_c zS231 (by decide) rfl) ⟨by decide, rfl⟩ (z9_begin zS231 q231.2 (by simp only [sx7, sx11, sx16, List.length_append, List.length_cons, List.length_nil]; omega)) rfl rfl (Nat.le_of_ble_eq_true rfl) (by omega) (by omega) (by omega) (k_v (fun s235 q235 => ?_))
        have f235 := (f231).tr q235.1
        have b235 := ((hr0.tx hk f235).1.2.2.2.2.2.1 n (by omega)).1.2.1
        have zS235 : SK s235 := (SK.fq f235 hS0)
        refine q_aload_n dX9_write_238 rfl rfl rfl ?_
        refine q_aload_n dX9_write_239 rfl rfl rfl ?_
        refine q_getr (r := 68) dX9_write_240 fX9_61 rfl (ty_c zS235 (by decide) rfl) (zS235.2 58 16 68 rfl) ?_
        refine q_sipush (v := nI 240) dX9_write_243 rfl ?_
        refine q_iload_n dX9_write_246 rfl rfl ?_
        refine q_imulN dX9_write_247 ?_
        refine q_iload dX9_write_248 rfl ?_
        refine q_iaddN dX9_write_250 ?_
        refine q_iald (x := nI (rB (rg q n))) (j := ((240 * i) + n)) dX9_write_251 (ty_c zS235 (by decide) rfl) (ix_n (by omega) (by omega)) b235 ?_
        refine q_callV (As := [.int (nI (rB (rg q n)))]) (rest := []) dX9_write_252 vX9_448 (ty_c zS235 (by decide) rfl) ⟨by decide, rfl⟩ (z9_sayGo zS235 q235.2 (b := rB (rg q n)) (by omega) (by simp only [sx7, sx11, sx16, List.length_append, List.length_cons, List.length_nil]; omega)) rfl rfl (Nat.le_of_ble_eq_true rfl) (by omega) (by omega) (by omega) (k_v (fun s252 q252 => ?_))
        have f252 := (f235).tr q252.1
        have b252 := ((hr0.tx hk f252).1.2.2.2.2.2.1 n (by omega)).1.2.1
        have zS252 : SK s252 := (SK.fq f252 hS0)
        refine q_aload_n dX9_write_255 rfl rfl rfl ?_
        refine q_callV (As := []) (rest := []) dX9_write_256 vX9_443 (ty_c zS252 (by decide) rfl) ⟨by decide, rfl⟩ (z9_close zS252 q252.2 (by simp only [sx7, sx11, sx16, List.length_append, List.length_cons, List.length_nil]; omega)) rfl rfl (Nat.le_of_ble_eq_true rfl) (by omega) (by omega) (by omega) (k_v (fun s256 q256 => ?_))
        have f256 := (f252).tr q256.1
        have b256 := ((hr0.tx hk f256).1.2.2.2.2.2.1 n (by omega)).1.2.1
        have zS256 : SK s256 := (SK.fq f256 hS0)
        refine q_iincN (c := 1) dX9_write_259 rfl (by decide) rfl (ls' := [(4, .int (nI (n + 1))), (0, .ref 58), (1, .int (nI i)), (2, .int (nI l)), (3, .int (nI m))]) rfl ?_
        refine q_goto (tgt := 191) dX9_write_262 (by decide) ?_
        refine q_pk [1, 2, 3, 4, 0] (ls' := [(0, .ref 58), (1, .int (nI i)), (2, .int (nI l)), (3, .int (nI m)), (4, .int (nI (n + 1)))]) rfl ?_
        refine ih (n + 1) _ s256 (by omega) (by omega) f256 q256.2 (by simp only [sx7, sx11, sx16, List.length_append, List.length_cons, List.length_nil]; omega) (fun τ t1 t2 => K τ t1 ?_)
        have eA : W ++ ((hdT y ++ seT q l n (psM q).length 0 ++ (stX 7 ++ (stX 16 ++ (98 :: numT (rB (rg q n)))) ++ stX 11)) ++ owT q l k (n + 1)) = (((((W ++ hdT y) ++ seT q l n (psM q).length 0) ++ stX 7) ++ (stX 16 ++ (98 :: numT (rB (rg q n))))) ++ stX 11) ++ owT q l k (n + 1) := by simp only [List.append_assoc]
        rw [eA]
        exact t2

end MWR
