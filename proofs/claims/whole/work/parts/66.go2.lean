/-! Class Runner: a RUN's NODES one behind the other. -/
theorem rg_7 {q : PS} (hw : WFs q) {n : Nat} (hn : n < NN q) : rK (rg q n) = 7 ↔ (psS q).length ≤ n := by
  by_cases e : n < (psS q).length
  · rw [show rg q n = rr q n from if_pos e]
    have := (st_w hw e).1
    omega
  · have e1 : rg q n = _ := if_neg e
    rw [e1]
    exact ⟨fun _ => by omega, fun _ => rfl⟩
/-- behind a NODE ON THE WAY no other one -/
theorem ld_7 {q : PS} (hc : BC q) (hw : WFs q) (hnb : NB q) {w n m : Nat} (hn : n < NN q) (h7 : rK (rg q n) = 7) (h : ld q w n = some m) : rK (rg q m) ≠ 7 := by
  have hm := ld_lt hc hw hnb hn h
  have h1 := (rg_7 hw hn).mp h7
  intro z
  have h2 := (rg_7 hw hm).mp z
  unfold ld at h
  rw [if_neg (by omega)] at h
  by_cases ew : w = 0
  · rw [if_pos ew] at h
    have h3 := Option.some.inj h
    have h4 : (XL q (psS q).length).getD (n - (psS q).length) 0 < (psF q).length := by
      have hx : ∀ k, k ≤ (psS q).length → ∀ t ∈ XL q k, t < (psF q).length := by
        intro k
        induction k with
        | zero => intro _ t ht; cases ht
        | succ k ih =>
          intro hk t ht
          rcases List.mem_append.mp (show t ∈ XL q k ++ xs q k from ht) with ht | ht
          · exact ih (by omega) t ht
          · unfold xs at ht
            by_cases k5 : rK (rr q k) = 5
            · rw [if_pos k5] at ht
              obtain ⟨j, j1, j2, j3⟩ := st_end hc hw hnb (n := k) (by omega) (by omega)
              have := (List.mem_filter.mp ht).1
              rcases List.mem_append.mp this with h | h
              · exact (j3 0 t (Option.mem_toList.mp h)).1
              · exact (j3 1 t (Option.mem_toList.mp h)).1
            · rw [if_neg k5] at ht; cases ht
      exact hx _ (Nat.le_refl _) _ (gd_mem (by unfold NN at hn; omega))
    have h5 := hc.2.2.2.2.1 _ h4
    have h6 := nf_le hc (j := (XL q (psS q).length).getD (n - (psS q).length) 0 + 1) (by omega)
    omega
  · rw [if_neg ew] at h; cases h
theorem nx_lto {q : PS} {n m : Nat} {s : XS} (h : nxF q n s = some m) : lto q n m := by
  unfold nxF at h
  by_cases z : rK (rg q n) = 5 ∧ ¬ opV (xN s) (rO0 (rg q n)) < opV (xN s) (rO1 (rg q n))
  · rw [if_pos z] at h; exact Or.inr h
  · rw [if_neg z] at h; exact Or.inl h
theorem nx_7 {q : PS} (hc : BC q) (hw : WFs q) (hnb : NB q) {n m : Nat} {s : XS} (hn : n < NN q) (h : nxF q n s = some m) : m < NN q ∧ (rK (rg q n) = 7 → rK (rg q m) ≠ 7) := by
  rcases nx_lto h with h | h
  · exact ⟨ld_lt hc hw hnb hn h, fun h7 => ld_7 hc hw hnb hn h7 h⟩
  · exact ⟨ld_lt hc hw hnb hn h, fun h7 => ld_7 hc hw hnb hn h7 h⟩
theorem dn_C {q : PS} {p n : Nat} {s : XS} : xC (dnF q p n s).1 ≤ xC s + 1 ∧ (rK (rg q n) = 7 → xC (dnF q p n s).1 = xC s) := by
  unfold dnF
  by_cases k0 : rK (rg q n) = 0
  · rw [if_pos k0]
    refine ⟨?_, fun h => by omega⟩
    by_cases z : tkn q p (smN q n) n = true
    · rw [if_pos z]; exact Nat.le_succ _
    · rw [if_neg z]; cases wkR s (sm q (smN q n)) <;> exact Nat.le_succ _
  · rw [if_neg k0]
    by_cases k1 : rK (rg q n) = 1
    · rw [if_pos k1]; exact ⟨Nat.le_succ _, fun h => by omega⟩
    · rw [if_neg k1]
      by_cases k2 : rK (rg q n) = 2
      · rw [if_pos k2]
        refine ⟨?_, fun h => by omega⟩
        split <;> exact Nat.le_succ _
      · rw [if_neg k2]
        by_cases k3 : rK (rg q n) = 3
        · rw [if_pos k3]; exact ⟨Nat.le_refl _, fun h => by omega⟩
        · rw [if_neg k3]; exact ⟨Nat.le_succ _, fun _ => rfl⟩
theorem st_C {q : PS} {p n : Nat} : ∀ {f e : Nat} {s : XS}, xC (stF q p n f e s).1 = xC s
  | 0, _, _ => rfl
  | f + 1, e, s => by
    unfold stF
    by_cases z : stA q p e n = true
    · rw [if_pos z]
      cases wkR s (sm q e) with
      | none => rfl
      | some v => exact st_C
    · rw [if_neg z]; exact st_C
/-- a RUN from NODE n on, which is counted already -/
noncomputable def ruI (q : PS) (p f n : Nat) (s : XS) (c : Nat) : RES :=
  if (stF q p n (psM q).length 0 s).2 = true then
      (if (dnF q p n (stF q p n (psM q).length 0 s).1).2 = true then (match nxF q n (dnF q p n (stF q p n (psM q).length 0 s).1).1 with
        | none => ((dnF q p n (stF q p n (psM q).length 0 s).1).1, c, 0, -1)
        | some m => ruF q p f m (dnF q p n (stF q p n (psM q).length 0 s).1).1 c)
      else ((dnF q p n (stF q p n (psM q).length 0 s).1).1, c, 1, nI (rB (rg q n))))
    else ((stF q p n (psM q).length 0 s).1, c, 1, nI (rB (rg q n)))
theorem ru_s {q : PS} {p f n : Nat} {s : XS} {c : Nat} : ruF q p (f + 1) n s c = if rK (rg q n) ≠ 7 ∧ 1000 ≤ c then (s, c, 2, -1) else ruI q p f n s (if rK (rg q n) = 7 then c else c + 1) := rfl
/-- behind a RUN -/
def GQ (σ : HS) (R : RES) : Option Value → HS → Prop := fun r σ' => r = none ∧ Fr [46, 48, 50, 51, 52, 53, 54] σ σ' ∧ XR σ' R.1 ∧ sI σ' 46 8 = nI R.2.1 ∧ sI σ' 46 7 = nI R.2.2.1 ∧ sI σ' 46 10 = R.2.2.2
section GO2
variable {g : GG} {b : Nat} {q : PS}
theorem y3_go58 {σ0 σ : HS} (hS0 : SK σ0) (h0 : RTN σ0 b q) {p : Nat} (hp : p < 3) {f i n : Nat} (hn : n < NN q) {s : XS} {c : Nat} (hi : i < 100000) (h1 : Fr [46, 48, 50, 51, 52, 53, 54] σ0 σ) (hx : XR σ s) (h8 : sI σ 46 8 = nI c) (h7 : sI σ 46 7 = nI 0) (h10 : sI σ 46 10 = -1) (hC : xC s < 100000)
    (K : ∀ (m : Nat) (s' : XS) (σ' : HS), nxF q n s' = some m → s' = (dnF q p n (stF q p n (psM q).length 0 s).1).1 → Fr [46, 48, 50, 51, 52, 53, 54] σ0 σ' → XR σ' s' → sI σ' 46 8 = nI c → sI σ' 46 7 = nI 0 → sI σ' 46 10 = -1 → WA g mX3_go 5 0 0 (ZM g (GQ σ0 (ruF q p f m s' c)) 0 0) 0 0 9 [(0, .ref 46), (1, .ref b), (2, .int (nI p)), (3, .int (nI m)), (4, .int (nI (i + 1)))] [] σ') :
    WA g mX3_go 5 0 0 (ZM g (GQ σ0 (ruI q p f n s c)) 0 0) 0 0 58 [(0, .ref 46), (1, .ref b), (2, .int (nI p)), (3, .int (nI n)), (4, .int (nI i))] [] σ := by
  have hS := SK.fr h1 hS0
  have hr := h0.fr h1
  have hb := hr.1
  have hb14 : b = 14 ∨ 99 ≤ b := by rcases hb.1 with h | ⟨j, h⟩ <;> omega
  have hNN := NN_le hr.2.1
  have hC1 : xC (stF q p n (psM q).length 0 s).1 < 1000000 := by rw [st_C]; omega
  unfold ruI
  by_cases z1 : (stF q p n (psM q).length 0 s).2 = true
  · rw [if_pos z1]
    by_cases z2 : (dnF q p n (stF q p n (psM q).length 0 s).1).2 = true
    · rw [if_pos z2]
      cases hnx : nxF q n (dnF q p n (stF q p n (psM q).length 0 s).1).1 with
      | none =>
        refine q_aload_n dX3_go_58 rfl rfl rfl ?_
        refine q_aload_n dX3_go_59 rfl rfl rfl ?_
        refine q_iload_n dX3_go_60 rfl rfl ?_
        refine q_iload_n dX3_go_61 rfl rfl ?_
        refine q_callV (As := [.ref b, .int (nI p), .int (nI n)]) (rest := []) dX3_go_62 vX3_47 (ty_c hS (by decide) rfl) ⟨by decide, rfl⟩ (z3_setAhead hS hr hp hn hx) rfl rfl (Nat.le_of_ble_eq_true rfl) (by omega) (by omega) (by omega) (k_w (fun s62 q62 => ?_))
        have h2 := h1.tr q62.1.1 (fun _ h => h)
        have hS2 := SK.fr h2 hS0
        have hr2 := h0.fr h2
        have hb2 := hr2.1
        refine q_if_eqB (tgt := 78) dX3_go_65 (by decide) (fun c65 => ?_) (fun c65 => ?_)
        · exact absurd (z1.symm.trans c65) (by decide)
        · skip
          refine q_aload_n dX3_go_68 rfl rfl rfl ?_
          refine q_aload_n dX3_go_69 rfl rfl rfl ?_
          refine q_iload_n dX3_go_70 rfl rfl ?_
          refine q_iload_n dX3_go_71 rfl rfl ?_
          refine q_callV (As := [.ref b, .int (nI p), .int (nI n)]) (rest := []) dX3_go_72 vX3_51 (ty_c hS2 (by decide) rfl) ⟨by decide, rfl⟩ (z3_doNode hS2 hr2 hp hn q62.2.1 hC1) rfl rfl (Nat.le_of_ble_eq_true rfl) (by omega) (by omega) (by omega) (k_w (fun s72 q72 => ?_))
          have h3 := h2.tr q72.1.1 (fun _ h => h)
          have hS3 := SK.fr h3 hS0
          have hr3 := h0.fr h3
          have hb3 := hr3.1
          have e7 := (q72.1.2 7 (by omega)).trans ((q62.1.2 7 (by omega)).trans h7)
          have e8 := (q72.1.2 8 (by omega)).trans ((q62.1.2 8 (by omega)).trans h8)
          have e10 := (q72.1.2 10 (by omega)).trans ((q62.1.2 10 (by omega)).trans h10)
          refine q_if_neB (tgt := 94) dX3_go_75 (by decide) (fun c75 => ?_) (fun c75 => ?_)
          · skip
            refine q_aload_n dX3_go_94 rfl rfl rfl ?_
            refine q_aload_n dX3_go_95 rfl rfl rfl ?_
            refine q_iload_n dX3_go_96 rfl rfl ?_
            refine q_callV (As := [.ref b, .int (nI n)]) (rest := []) dX3_go_97 vX3_60 (ty_c hS3 (by decide) rfl) ⟨by decide, rfl⟩ (z3_nextOf hS3 hr3 hn q72.2.1) rfl rfl (Nat.le_of_ble_eq_true rfl) (by omega) (by omega) (by omega) (k_p ?_)
            refine q_top (y := (-1)) (by rw [hnx]; rfl) ?_
            refine q_istore_n dX3_go_100 rfl (by decide) (ls' := [(3, .int (-1)), (0, .ref 46), (1, .ref b), (2, .int (nI p)), (4, .int (nI i))]) rfl ?_
            refine q_iincN (c := 1) dX3_go_101 rfl (by decide) rfl (ls' := [(4, .int (nI (i + 1))), (3, .int (-1)), (0, .ref 46), (1, .ref b), (2, .int (nI p))]) rfl ?_
            refine q_goto (tgt := 9) dX3_go_104 (by decide) ?_
            refine q_iload_n dX3_go_9 rfl rfl ?_
            refine q_if_lt1 (tgt := 107) dX3_go_10 (by decide) (by decide) ?_
            refine q_return dX3_go_107 rfl (by omega) (by omega) ?_
            exact ⟨rfl, h3, q72.2.1, e8, e7, e10⟩
          · exact absurd (z2.symm.trans c75) (by decide)
      | some m =>
        refine q_aload_n dX3_go_58 rfl rfl rfl ?_
        refine q_aload_n dX3_go_59 rfl rfl rfl ?_
        refine q_iload_n dX3_go_60 rfl rfl ?_
        refine q_iload_n dX3_go_61 rfl rfl ?_
        refine q_callV (As := [.ref b, .int (nI p), .int (nI n)]) (rest := []) dX3_go_62 vX3_47 (ty_c hS (by decide) rfl) ⟨by decide, rfl⟩ (z3_setAhead hS hr hp hn hx) rfl rfl (Nat.le_of_ble_eq_true rfl) (by omega) (by omega) (by omega) (k_w (fun s62 q62 => ?_))
        have h2 := h1.tr q62.1.1 (fun _ h => h)
        have hS2 := SK.fr h2 hS0
        have hr2 := h0.fr h2
        have hb2 := hr2.1
        refine q_if_eqB (tgt := 78) dX3_go_65 (by decide) (fun c65 => ?_) (fun c65 => ?_)
        · exact absurd (z1.symm.trans c65) (by decide)
        · skip
          refine q_aload_n dX3_go_68 rfl rfl rfl ?_
          refine q_aload_n dX3_go_69 rfl rfl rfl ?_
          refine q_iload_n dX3_go_70 rfl rfl ?_
          refine q_iload_n dX3_go_71 rfl rfl ?_
          refine q_callV (As := [.ref b, .int (nI p), .int (nI n)]) (rest := []) dX3_go_72 vX3_51 (ty_c hS2 (by decide) rfl) ⟨by decide, rfl⟩ (z3_doNode hS2 hr2 hp hn q62.2.1 hC1) rfl rfl (Nat.le_of_ble_eq_true rfl) (by omega) (by omega) (by omega) (k_w (fun s72 q72 => ?_))
          have h3 := h2.tr q72.1.1 (fun _ h => h)
          have hS3 := SK.fr h3 hS0
          have hr3 := h0.fr h3
          have hb3 := hr3.1
          have e7 := (q72.1.2 7 (by omega)).trans ((q62.1.2 7 (by omega)).trans h7)
          have e8 := (q72.1.2 8 (by omega)).trans ((q62.1.2 8 (by omega)).trans h8)
          have e10 := (q72.1.2 10 (by omega)).trans ((q62.1.2 10 (by omega)).trans h10)
          refine q_if_neB (tgt := 94) dX3_go_75 (by decide) (fun c75 => ?_) (fun c75 => ?_)
          · skip
            refine q_aload_n dX3_go_94 rfl rfl rfl ?_
            refine q_aload_n dX3_go_95 rfl rfl rfl ?_
            refine q_iload_n dX3_go_96 rfl rfl ?_
            refine q_callV (As := [.ref b, .int (nI n)]) (rest := []) dX3_go_97 vX3_60 (ty_c hS3 (by decide) rfl) ⟨by decide, rfl⟩ (z3_nextOf hS3 hr3 hn q72.2.1) rfl rfl (Nat.le_of_ble_eq_true rfl) (by omega) (by omega) (by omega) (k_p ?_)
            refine q_top (y := nI m) (by rw [hnx]; rfl) ?_
            refine q_istore_n dX3_go_100 rfl (by decide) (ls' := [(3, .int (nI m)), (0, .ref 46), (1, .ref b), (2, .int (nI p)), (4, .int (nI i))]) rfl ?_
            refine q_iincN (c := 1) dX3_go_101 rfl (by decide) rfl (ls' := [(4, .int (nI (i + 1))), (3, .int (nI m)), (0, .ref 46), (1, .ref b), (2, .int (nI p))]) rfl ?_
            refine q_goto (tgt := 9) dX3_go_104 (by decide) ?_
            refine q_pk [2, 3, 4, 1, 0] (ls' := [(0, .ref 46), (1, .ref b), (2, .int (nI p)), (3, .int (nI m)), (4, .int (nI (i + 1)))]) rfl ?_
            exact K m _ _ hnx rfl h3 q72.2.1 e8 e7 e10
          · exact absurd (z2.symm.trans c75) (by decide)
    · rw [if_neg z2]
      refine q_aload_n dX3_go_58 rfl rfl rfl ?_
      refine q_aload_n dX3_go_59 rfl rfl rfl ?_
      refine q_iload_n dX3_go_60 rfl rfl ?_
      refine q_iload_n dX3_go_61 rfl rfl ?_
      refine q_callV (As := [.ref b, .int (nI p), .int (nI n)]) (rest := []) dX3_go_62 vX3_47 (ty_c hS (by decide) rfl) ⟨by decide, rfl⟩ (z3_setAhead hS hr hp hn hx) rfl rfl (Nat.le_of_ble_eq_true rfl) (by omega) (by omega) (by omega) (k_w (fun s62 q62 => ?_))
      have h2 := h1.tr q62.1.1 (fun _ h => h)
      have hS2 := SK.fr h2 hS0
      have hr2 := h0.fr h2
      have hb2 := hr2.1
      refine q_if_eqB (tgt := 78) dX3_go_65 (by decide) (fun c65 => ?_) (fun c65 => ?_)
      · exact absurd (z1.symm.trans c65) (by decide)
      · skip
        refine q_aload_n dX3_go_68 rfl rfl rfl ?_
        refine q_aload_n dX3_go_69 rfl rfl rfl ?_
        refine q_iload_n dX3_go_70 rfl rfl ?_
        refine q_iload_n dX3_go_71 rfl rfl ?_
        refine q_callV (As := [.ref b, .int (nI p), .int (nI n)]) (rest := []) dX3_go_72 vX3_51 (ty_c hS2 (by decide) rfl) ⟨by decide, rfl⟩ (z3_doNode hS2 hr2 hp hn q62.2.1 hC1) rfl rfl (Nat.le_of_ble_eq_true rfl) (by omega) (by omega) (by omega) (k_w (fun s72 q72 => ?_))
        have h3 := h2.tr q72.1.1 (fun _ h => h)
        have hS3 := SK.fr h3 hS0
        have hr3 := h0.fr h3
        have hb3 := hr3.1
        have e7 := (q72.1.2 7 (by omega)).trans ((q62.1.2 7 (by omega)).trans h7)
        have e8 := (q72.1.2 8 (by omega)).trans ((q62.1.2 8 (by omega)).trans h8)
        have e10 := (q72.1.2 10 (by omega)).trans ((q62.1.2 10 (by omega)).trans h10)
        refine q_if_neB (tgt := 94) dX3_go_75 (by decide) (fun c75 => ?_) (fun c75 => ?_)
        · exact absurd c75 z2
        · skip
          refine q_aload_n dX3_go_78 rfl rfl rfl ?_
          refine q_iconst (v := nI 1) dX3_go_79 rfl ?_
          refine q_puti dX3_go_80 fX3_44 rfl (Or.inl rfl) (ty_c hS3 (by decide) rfl) ?_
          refine q_aload_n dX3_go_83 rfl rfl rfl ?_
          refine q_aload_n dX3_go_84 rfl rfl rfl ?_
          refine q_getr (r := b + 2) dX3_go_85 fX3_54 rfl (ty_r hb3 0 rfl) (hb3.2.2 0 1 2 rfl) ?_
          refine q_iload_n dX3_go_88 rfl rfl ?_
          refine q_iald (x := nI (rB (rg q n))) (j := n) dX3_go_89 (ty_r hb3 2 rfl) (ix_n (by omega) (by omega)) (Eq.trans (rd_off (by omega)) ((hr3.2.2.2.2.2.2.2.2.2.2.2.2.1 n hn).1.2.1)) ?_
          refine q_puti dX3_go_90 fX3_57 rfl (Or.inl rfl) (ty_c hS3 (by decide) rfl) ?_
          refine q_return dX3_go_93 rfl (by omega) (by omega) ?_
          exact ⟨rfl, (h3.uI (by decide)).uI (by decide), (q72.2.1.re (by omega)).re (by omega), (rd_ne (by omega)).trans ((rd_ne (by omega)).trans e8), (rd_ne (by omega)).trans uI_self, uI_self⟩
  · rw [if_neg z1]
    refine q_aload_n dX3_go_58 rfl rfl rfl ?_
    refine q_aload_n dX3_go_59 rfl rfl rfl ?_
    refine q_iload_n dX3_go_60 rfl rfl ?_
    refine q_iload_n dX3_go_61 rfl rfl ?_
    refine q_callV (As := [.ref b, .int (nI p), .int (nI n)]) (rest := []) dX3_go_62 vX3_47 (ty_c hS (by decide) rfl) ⟨by decide, rfl⟩ (z3_setAhead hS hr hp hn hx) rfl rfl (Nat.le_of_ble_eq_true rfl) (by omega) (by omega) (by omega) (k_w (fun s62 q62 => ?_))
    have h2 := h1.tr q62.1.1 (fun _ h => h)
    have hS2 := SK.fr h2 hS0
    have hr2 := h0.fr h2
    have hb2 := hr2.1
    refine q_if_eqB (tgt := 78) dX3_go_65 (by decide) (fun c65 => ?_) (fun c65 => ?_)
    · skip
      refine q_aload_n dX3_go_78 rfl rfl rfl ?_
      refine q_iconst (v := nI 1) dX3_go_79 rfl ?_
      refine q_puti dX3_go_80 fX3_44 rfl (Or.inl rfl) (ty_c hS2 (by decide) rfl) ?_
      refine q_aload_n dX3_go_83 rfl rfl rfl ?_
      refine q_aload_n dX3_go_84 rfl rfl rfl ?_
      refine q_getr (r := b + 2) dX3_go_85 fX3_54 rfl (ty_r hb2 0 rfl) (hb2.2.2 0 1 2 rfl) ?_
      refine q_iload_n dX3_go_88 rfl rfl ?_
      refine q_iald (x := nI (rB (rg q n))) (j := n) dX3_go_89 (ty_r hb2 2 rfl) (ix_n (by omega) (by omega)) (Eq.trans (rd_off (by omega)) ((hr2.2.2.2.2.2.2.2.2.2.2.2.2.1 n hn).1.2.1)) ?_
      refine q_puti dX3_go_90 fX3_57 rfl (Or.inl rfl) (ty_c hS2 (by decide) rfl) ?_
      refine q_return dX3_go_93 rfl (by omega) (by omega) ?_
      exact ⟨rfl, (h2.uI (by decide)).uI (by decide), (q62.2.1.re (by omega)).re (by omega), (rd_ne (by omega)).trans ((rd_ne (by omega)).trans ((q62.1.2 8 (by omega)).trans h8)), (rd_ne (by omega)).trans uI_self, uI_self⟩
    · exact absurd c65 z1

theorem y3_go {σ0 : HS} (hS0 : SK σ0) (h0 : RTN σ0 b q) {p : Nat} (hp : p < 3) : ∀ (f i n : Nat) (s : XS) (c : Nat) (σ : HS), i + f = 2001 → i + (if rK (rg q n) = 7 then 1 else 0) ≤ 2 * c → c ≤ 1000 → n < NN q → xC s ≤ c → Fr [46, 48, 50, 51, 52, 53, 54] σ0 σ → XR σ s → sI σ 46 8 = nI c → sI σ 46 7 = nI 0 → sI σ 46 10 = -1 → WA g mX3_go 5 0 0 (ZM g (GQ σ0 (ruF q p f n s c)) 0 0) 0 0 9 [(0, .ref 46), (1, .ref b), (2, .int (nI p)), (3, .int (nI n)), (4, .int (nI i))] [] σ := by
  intro f
  induction f with
  | zero => intro i n s c σ hf hi hc; omega
  | succ f ih =>
    intro i n s c σ hf hi hc hn hC h1 hx h8 h7 h10
    have hS := SK.fr h1 hS0
    have hr := h0.fr h1
    have hb := hr.1
    have hb14 : b = 14 ∨ 99 ≤ b := by rcases hb.1 with h | ⟨j, h⟩ <;> omega
    have hNN := NN_le hr.2.1
    have hi2 : i ≤ 2000 := by omega
    obtain ⟨-, hbc, hw, hnb, hxx, -⟩ := id h0
    have r1 := (hr.2.2.2.2.2.2.2.2.2.2.2.2.1 n hn).1.1
    rw [ru_s]
    by_cases k7 : rK (rg q n) = 7
    · rw [if_neg (fun z => z.1 k7), if_pos k7]
      rw [if_pos k7] at hi
      refine q_iload_n dX3_go_9 rfl rfl ?_
      refine q_if_ltN (tgt := 107) dX3_go_10 (by decide) (by omega) ?_
      refine q_iload dX3_go_13 rfl ?_
      refine q_sipush (v := nI 2000) dX3_go_15 rfl ?_
      refine q_icmp_gtN (tgt := 107) dX3_go_18 (by decide) (by omega) (by omega) (fun c18 => ?_) (fun c18 => ?_)
      · exact absurd c18 (by omega)
      · skip
        refine q_aload_n dX3_go_21 rfl rfl rfl ?_
        refine q_getr (r := b + 1) dX3_go_22 fX3_35 rfl (ty_r hb 0 rfl) (hb.2.2 0 0 1 rfl) ?_
        refine q_iload_n dX3_go_25 rfl rfl ?_
        refine q_iald (x := nI 7) (j := n) dX3_go_26 (ty_r hb 1 rfl) (ix_n (by omega) (by omega)) (r1.trans (by rw [k7])) ?_
        refine q_bipush (v := nI 7) dX3_go_27 rfl ?_
        refine q_icmp_eqN (tgt := 58) dX3_go_29 (by decide) (by omega) (by omega) (fun _ => ?_) (fun h => absurd h (by decide))
        refine y3_go58 hS0 h0 hp hn (by omega) h1 hx h8 h7 h10 (by omega) (fun m s2 σ2 a1 a2 a3 a4 a5 a6 a7 => ?_)
        obtain ⟨m1, m2⟩ := nx_7 hbc hw hnb hn a1
        exact ih (i + 1) m s2 c σ2 (by omega) (by rw [if_neg (m2 k7)]; omega) hc m1 (by rw [a2, dn_C.2 k7, st_C]; exact hC) a3 a4 a5 a6 a7
    · rw [if_neg k7] at hi
      have k10 : rK (rg q n) < 100 := by rcases rg_cases hw hxx hn with ⟨k0, -⟩ | ⟨k0, -⟩ | ⟨k0, -⟩ | ⟨k0, k7, -⟩ <;> omega
      by_cases hc2 : 1000 ≤ c
      · rw [if_pos ⟨k7, hc2⟩]
        refine q_iload_n dX3_go_9 rfl rfl ?_
        refine q_if_ltN (tgt := 107) dX3_go_10 (by decide) (by omega) ?_
        refine q_iload dX3_go_13 rfl ?_
        refine q_sipush (v := nI 2000) dX3_go_15 rfl ?_
        refine q_icmp_gtN (tgt := 107) dX3_go_18 (by decide) (by omega) (by omega) (fun c18 => ?_) (fun c18 => ?_)
        · exact absurd c18 (by omega)
        · skip
          refine q_aload_n dX3_go_21 rfl rfl rfl ?_
          refine q_getr (r := b + 1) dX3_go_22 fX3_35 rfl (ty_r hb 0 rfl) (hb.2.2 0 0 1 rfl) ?_
          refine q_iload_n dX3_go_25 rfl rfl ?_
          refine q_iald (x := nI (rK (rg q n))) (j := n) dX3_go_26 (ty_r hb 1 rfl) (ix_n (by omega) (by omega)) r1 ?_
          refine q_bipush (v := nI 7) dX3_go_27 rfl ?_
          refine q_icmp_eqN (tgt := 58) dX3_go_29 (by decide) (by omega) (by omega) (fun c29 => ?_) (fun c29 => ?_)
          · exact absurd c29 k7
          · skip
            refine q_aload_n dX3_go_32 rfl rfl rfl ?_
            refine q_geti (x := nI c) dX3_go_33 fX3_40 rfl (ty_c hS (by decide) rfl) h8 ?_
            refine q_sipush (v := nI 1000) dX3_go_36 rfl ?_
            refine q_icmp_ltN (tgt := 48) dX3_go_39 (by decide) (by omega) (by omega) (fun c39 => ?_) (fun c39 => ?_)
            · exact absurd c39 (by omega)
            · skip
              refine q_aload_n dX3_go_42 rfl rfl rfl ?_
              refine q_iconst (v := nI 2) dX3_go_43 rfl ?_
              refine q_puti dX3_go_44 fX3_44 rfl (Or.inl rfl) (ty_c hS (by decide) rfl) ?_
              refine q_return dX3_go_47 rfl (by omega) (by omega) ?_
              exact ⟨rfl, h1.uI (by decide), hx.re (by omega), (rd_ne (by omega)).trans h8, uI_self, (rd_ne (by omega)).trans h10⟩
      · rw [if_neg (fun z => hc2 z.2), if_neg k7]
        refine q_iload_n dX3_go_9 rfl rfl ?_
        refine q_if_ltN (tgt := 107) dX3_go_10 (by decide) (by omega) ?_
        refine q_iload dX3_go_13 rfl ?_
        refine q_sipush (v := nI 2000) dX3_go_15 rfl ?_
        refine q_icmp_gtN (tgt := 107) dX3_go_18 (by decide) (by omega) (by omega) (fun c18 => ?_) (fun c18 => ?_)
        · exact absurd c18 (by omega)
        · skip
          refine q_aload_n dX3_go_21 rfl rfl rfl ?_
          refine q_getr (r := b + 1) dX3_go_22 fX3_35 rfl (ty_r hb 0 rfl) (hb.2.2 0 0 1 rfl) ?_
          refine q_iload_n dX3_go_25 rfl rfl ?_
          refine q_iald (x := nI (rK (rg q n))) (j := n) dX3_go_26 (ty_r hb 1 rfl) (ix_n (by omega) (by omega)) r1 ?_
          refine q_bipush (v := nI 7) dX3_go_27 rfl ?_
          refine q_icmp_eqN (tgt := 58) dX3_go_29 (by decide) (by omega) (by omega) (fun c29 => ?_) (fun c29 => ?_)
          · exact absurd c29 k7
          · skip
            refine q_aload_n dX3_go_32 rfl rfl rfl ?_
            refine q_geti (x := nI c) dX3_go_33 fX3_40 rfl (ty_c hS (by decide) rfl) h8 ?_
            refine q_sipush (v := nI 1000) dX3_go_36 rfl ?_
            refine q_icmp_ltN (tgt := 48) dX3_go_39 (by decide) (by omega) (by omega) (fun c39 => ?_) (fun c39 => ?_)
            · skip
              refine q_aload_n dX3_go_48 rfl rfl rfl ?_
              refine q_dup dX3_go_49 rfl ?_
              refine q_geti (x := nI c) dX3_go_50 fX3_40 rfl (ty_c hS (by decide) rfl) h8 ?_
              refine q_iconst (v := nI 1) dX3_go_53 rfl ?_
              refine q_iaddN dX3_go_54 ?_
              refine q_puti dX3_go_55 fX3_40 rfl (Or.inl rfl) (ty_c hS (by decide) rfl) ?_
              refine y3_go58 hS0 h0 hp hn (by omega) (h1.uI (by decide)) (hx.re (by omega)) uI_self ((rd_ne (by omega)).trans h7) ((rd_ne (by omega)).trans h10) (by omega) (fun m s2 σ2 a1 a2 a3 a4 a5 a6 a7 => ?_)
              obtain ⟨m1, m2⟩ := nx_7 hbc hw hnb hn a1
              exact ih (i + 1) m s2 (c + 1) σ2 (by omega) (by split <;> omega) (by omega) m1 (by rw [a2]; exact Nat.le_trans dn_C.1 (by rw [st_C]; omega)) a3 a4 a5 a6 a7
            · exact absurd c39 (by omega)
theorem z3_go {σ : HS} (hS : SK σ) (h0 : RTN σ b q) {p : Nat} (hp : p < 3) : CT g mX3_go 5 0 0 [.ref 46, .ref b, .int (nI p)] σ (GQ σ (ruF q p 2001 0 (xs0 σ) 0)) := by
  have hb := h0.1
  have hb14 : b = 14 ∨ 99 ≤ b := by rcases hb.1 with h | ⟨j, h⟩ <;> omega
  have hN := NN_pos h0.2.1 h0.2.2.2.2.2.1
  have k7 : ¬ rK (rg q 0) = 7 := fun z => by
    have h1 := (rg_7 h0.2.2.1 hN).mp z
    have h2 := h0.2.1.2.2.2.2.1 0 h0.2.2.2.2.2.1
    have h3 := nf_le h0.2.1 (j := 0 + 1) (by have := h0.2.2.2.2.2.1; omega)
    omega
  refine CT.of (by decide) (Nat.le_of_ble_eq_true rfl) ?_
  refine q_aload_n dX3_go_0 rfl rfl rfl ?_
  refine q_callV (As := []) (rest := []) dX3_go_1 vX3_32 (ty_c hS (by decide) rfl) ⟨by decide, rfl⟩ (z3_reset hS) rfl rfl (Nat.le_of_ble_eq_true rfl) (by omega) (by omega) (by omega) (k_v (fun s1 q1 => ?_))
  refine q_iconst (v := nI 0) dX3_go_4 rfl ?_
  refine q_istore_n dX3_go_5 rfl (by decide) (ls' := [(3, .int (nI 0)), (0, .ref 46), (1, .ref b), (2, .int (nI p))]) rfl ?_
  refine q_iconst (v := nI 0) dX3_go_6 rfl ?_
  refine q_istore dX3_go_7 (by decide) (ls' := [(4, .int (nI 0)), (3, .int (nI 0)), (0, .ref 46), (1, .ref b), (2, .int (nI p))]) rfl ?_
  refine q_pk [2, 3, 4, 1, 0] (ls' := [(0, .ref 46), (1, .ref b), (2, .int (nI p)), (3, .int (nI 0)), (4, .int (nI 0))]) rfl ?_
  obtain ⟨a1, a2, a3, a4, a5⟩ := q1
  exact y3_go (g := g) hS h0 hp 2001 0 0 (xs0 σ) 0 s1 (by omega) (by rw [if_neg k7]; omega) (by omega) hN (Nat.le_refl _) a1 a2 a4 a3 a5
end GO2
