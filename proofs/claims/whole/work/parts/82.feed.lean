/-! The class's feed. -/
/-- byte i of a long -/
def byF (w : Int64) (i : Nat) : Nat := w.toBitVec.toNat / 2 ^ (8 * i) % 256
theorem byF_lt {w : Int64} {i : Nat} : byF w i < 256 := Nat.mod_lt _ (by omega)
theorem and_ff (x : Int32) : x &&& nI 255 = nI (x.toBitVec.toNat % 256) := by
  apply Int32.toBitVec_inj.mp
  rw [Int32.toBitVec_and]
  apply BitVec.eq_of_toNat_eq
  rw [BitVec.toNat_and]
  have e1 : (nI 255).toBitVec.toNat = 2 ^ 8 - 1 := by decide
  rw [e1, Nat.and_two_pow_sub_one_eq_mod]
  have : ∀ c : Fin 256, (nI c.val).toBitVec.toNat = c.val := by decide +kernel
  exact (this ⟨x.toBitVec.toNat % 256, Nat.mod_lt _ (by omega)⟩).symm
theorem fe_by {w : Int64} {i : Nat} (hi : i < 8) : (w.toUInt64 >>> ((nI (8 * i)).toInt64.toUInt64 &&& Int64.toUInt64 63)).toInt64.toInt32 &&& nI 255 = nI (byF w i) := by
  rw [and_ff]
  congr 1
  have h2 : (((nI (8 * i)).toInt64.toUInt64 &&& Int64.toUInt64 63)).toBitVec = BitVec.ofNat 64 (8 * i) := by
    apply BitVec.eq_of_toNat_eq
    have h3 := sr_all ⟨8 * i, by omega⟩
    rw [BitVec.toNat_ofNat, Nat.mod_eq_of_lt (by omega)]
    exact h3
  have h4 : (BitVec.ofNat 64 (8 * i) % 64).toNat = 8 * i := by
    rw [BitVec.toNat_umod, BitVec.toNat_ofNat, Nat.mod_eq_of_lt (a := 8 * i) (by omega)]
    exact Nat.mod_eq_of_lt (show 8 * i < 64 by omega)
  have e : ((w.toUInt64 >>> ((nI (8 * i)).toInt64.toUInt64 &&& Int64.toUInt64 63)).toInt64.toInt32).toBitVec = BitVec.setWidth 32 (w.toBitVec >>> (8 * i)) := by
    show BitVec.signExtend 32 ((w.toUInt64 >>> ((nI (8 * i)).toInt64.toUInt64 &&& Int64.toUInt64 63)).toBitVec) = _
    rw [BitVec.signExtend_eq_setWidth_of_le _ (by omega)]
    rw [UInt64.toBitVec_shiftRight, h2]
    show BitVec.setWidth 32 (w.toUInt64.toBitVec >>> (BitVec.ofNat 64 (8 * i) % 64)) = _
    rw [BitVec.ushiftRight_eq', h4]
    rfl
  rw [e, BitVec.toNat_setWidth, BitVec.toNat_ushiftRight, Nat.shiftRight_eq_div_pow]
  unfold byF
  omega
theorem by_ff {v : Nat} (hv : v < 256) : (nI v).toInt8.toInt32.toInt8.toInt32 &&& nI 255 = nI v := by
  have : ∀ c : Fin 256, (nI c.val).toInt8.toInt32.toInt8.toInt32 &&& nI 255 = nI c.val := by decide +kernel
  exact this ⟨v, hv⟩
section FEED
variable {g : GG} {σ : HS}
theorem z5_add (hS : SK σ) {L : Nat} {T : Nat → Nat} (hT : CTX σ L T) (hL : L < 3000) {v : Nat} (hv : v < 256) : CT g mX5_add 0 0 0 [.ref 2, .int (nI v)] σ (fun r σ' => r = none ∧ Fr [2, 3] σ σ' ∧ CTX σ' (L + 1) (fun i => if i = L then v else T i)) := by
  obtain ⟨t1, t2, t3⟩ := hT
  refine CT.of (by decide) (Nat.le_of_ble_eq_true rfl) ?_
  refine q_aload_n dX5_add_0 rfl rfl rfl ?_
  refine q_geti (x := nI L) dX5_add_1 fX5_15 rfl (ty_c hS (by decide) rfl) t1 ?_
  refine q_if_ltN (tgt := 37) dX5_add_4 (by decide) (by omega) ?_
  refine q_aload_n dX5_add_7 rfl rfl rfl ?_
  refine q_geti (x := nI L) dX5_add_8 fX5_15 rfl (ty_c hS (by decide) rfl) t1 ?_
  refine q_aload_n dX5_add_11 rfl rfl rfl ?_
  refine q_getr (r := 3) dX5_add_12 fX5_9 rfl (ty_c hS (by decide) rfl) (hS.2 2 0 3 rfl) ?_
  refine q_alen (x := nI 3000) dX5_add_15 (ty_c hS (by decide) rfl) (by decide) rfl ?_
  refine q_icmp_geN (tgt := 37) dX5_add_16 (by decide) (by omega) (by omega) (fun c16 => ?_) (fun c16 => ?_)
  · exact absurd c16 (by omega)
  · skip
    refine q_aload_n dX5_add_19 rfl rfl rfl ?_
    refine q_getr (r := 3) dX5_add_20 fX5_9 rfl (ty_c hS (by decide) rfl) (hS.2 2 0 3 rfl) ?_
    refine q_aload_n dX5_add_23 rfl rfl rfl ?_
    refine q_dup dX5_add_24 rfl ?_
    refine q_geti (x := nI L) dX5_add_25 fX5_15 rfl (ty_c hS (by decide) rfl) t1 ?_
    refine q_dup_x1 dX5_add_28 rfl rfl ?_
    refine q_iconst (v := nI 1) dX5_add_29 rfl ?_
    refine q_iaddN dX5_add_30 ?_
    refine q_puti dX5_add_31 fX5_15 rfl (Or.inl rfl) (ty_c hS (by decide) rfl) ?_
    refine q_iload_n dX5_add_34 rfl rfl ?_
    refine q_i2b (v := (nI v).toInt8.toInt32) dX5_add_35 rfl ?_
    refine q_bast (j := L) (y := ((nI v).toInt8.toInt32).toInt8.toInt32) dX5_add_36 (ty_c hS (by decide) rfl) (ix_n (by omega) (by omega)) rfl ?_
    refine q_return dX5_add_37 rfl (by omega) (by omega) ?_
    refine ⟨rfl, (Fr.rf.uI (by decide)).uI (by decide), ?_, by omega, fun i hi => ?_⟩
    · rw [sI_uI, if_neg (by omega), uI_self]
    · by_cases e : i = L
      · rw [e, uI_self]
        show _ = nI (if L = L then v else T L) ∧ (if L = L then v else T L) < 256
        rw [if_pos rfl]
        exact ⟨by_ff hv, hv⟩
      · rw [sI_uI, if_neg (by omega), sI_uI, if_neg (by omega)]
        show _ = nI (if i = L then v else T i) ∧ (if i = L then v else T i) < 256
        rw [if_neg e]
        exact t3 i (by omega)
/-- the tape behind feed: m bytes more -/
def feT (T : Nat → Nat) (L : Nat) (w : Int64) (m : Nat) : Nat → Nat := fun i => if i < L then T i else byF w (m - 1 - (i - L))
theorem y8_feed {σ0 : HS} (hS0 : SK σ0) {w : Int64} {L m : Nat} {T : Nat → Nat} (hm : m ≤ 8) (hL : L + m ≤ 3000) {n0 : Int32} : ∀ (k : Nat) (σ : HS), k ≤ m → Fr [2, 3] σ0 σ → CTX σ (L + (m - k)) (feT T L w m) → WA g mX8_feed 1 0 0 (ZM g (fun r σ' => r = some (.int (nI (L + m))) ∧ Fr [2, 3] σ0 σ' ∧ CTX σ' (L + m) (feT T L w m)) 0 0) 0 0 37 [(0, .ref 1), (1, .long w), (3, .int n0), (4, .int (dn k))] [] σ := by
  intro k
  induction k with
  | zero =>
    intro σ hk h1 h2
    have hS := SK.fr h1 hS0
    have t1 := h2.1
    rw [Nat.sub_zero] at t1 h2
    refine q_iload dX8_feed_37 rfl ?_
    refine q_if_lt1 (tgt := 67) dX8_feed_39 (by decide) (by decide) ?_
    refine q_aload_n dX8_feed_67 rfl rfl rfl ?_
    refine q_getr (r := 2) dX8_feed_68 fX8_12 rfl (ty_c hS (by decide) rfl) (hS.2 1 0 2 rfl) ?_
    refine q_geti (x := nI (L + m)) dX8_feed_71 fX8_43 rfl (ty_c hS (by decide) rfl) t1 ?_
    refine q_ireturn dX8_feed_74 rfl rfl (by omega) (by omega) ?_
    exact ⟨rfl, h1, h2⟩
  | succ k ih =>
    intro σ hk h1 h2
    have hS := SK.fr h1 hS0
    refine q_iload dX8_feed_37 rfl ?_
    refine q_if_ltN (tgt := 67) dX8_feed_39 (by decide) (by omega) ?_
    refine q_aload_n dX8_feed_42 rfl rfl rfl ?_
    refine q_getr (r := 2) dX8_feed_43 fX8_12 rfl (ty_c hS (by decide) rfl) (hS.2 1 0 2 rfl) ?_
    refine q_lload_n dX8_feed_46 rfl rfl ?_
    refine q_bipush (v := nI 8) dX8_feed_47 rfl ?_
    refine q_iload dX8_feed_49 rfl ?_
    refine q_imulN dX8_feed_51 ?_
    refine q_lushr (v := (w.toUInt64 >>> ((nI (8 * k)).toInt64.toUInt64 &&& Int64.toUInt64 63)).toInt64) dX8_feed_52 rfl ?_
    refine q_l2i (v := ((w.toUInt64 >>> ((nI (8 * k)).toInt64.toUInt64 &&& Int64.toUInt64 63)).toInt64).toInt32) dX8_feed_53 rfl ?_
    refine q_sipush (v := nI 255) dX8_feed_54 rfl ?_
    refine q_iand dX8_feed_57 ?_
    refine q_top (y := nI (byF w k)) (fe_by (by omega)) ?_
    refine q_callV (As := [.int (nI (byF w k))]) (rest := []) dX8_feed_58 vX8_47 (ty_c hS (by decide) rfl) ⟨by decide, rfl⟩ (z5_add hS h2 (by omega) byF_lt) rfl rfl (Nat.le_of_ble_eq_true rfl) (by omega) (by omega) (by omega) (k_v (fun s58 q58 => ?_))
    have h3 := h1.tr q58.1 (fun _ h => h)
    have hS2 := SK.fr h3 hS0
    refine q_iinc (v := dn k) dX8_feed_61 rfl (dn_inc k) (by decide) (ls' := [(4, .int (dn k)), (0, .ref 1), (1, .long w), (3, .int n0)]) rfl ?_
    refine q_goto (tgt := 37) dX8_feed_64 (by decide) ?_
    refine q_pk [1, 2, 3, 0] (ls' := [(0, .ref 1), (1, .long w), (3, .int n0), (4, .int (dn k))]) rfl ?_
    refine ih s58 (by omega) h3 ?_
    have e := q58.2
    rw [show L + (m - (k + 1)) + 1 = L + (m - k) by omega] at e
    refine ⟨e.1, e.2.1, fun i hi => ?_⟩
    have e2 := e.2.2 i hi
    have e3 : (fun i => if i = L + (m - (k + 1)) then byF w k else feT T L w m i) i = feT T L w m i := by
      show (if i = L + (m - (k + 1)) then byF w k else feT T L w m i) = _
      by_cases z : i = L + (m - (k + 1))
      · rw [if_pos z]
        unfold feT
        rw [if_neg (by omega), show m - 1 - (i - L) = k by omega]
      · rw [if_neg z]
    rw [e3] at e2
    exact e2
theorem z8_feed1 (hS : SK σ) {w : Int64} {L m : Nat} {T : Nat → Nat} (hT : CTX σ L T) (h1 : 1 ≤ m) (hm : m ≤ 8) (hL : L + m ≤ 3000) : CT g mX8_feed 1 0 0 [.ref 1, .long w, .int (nI m)] σ (fun r σ' => r = some (.int (nI (L + m))) ∧ Fr [2, 3] σ σ' ∧ CTX σ' (L + m) (feT T L w m)) := by
  have t1 := hT.1
  refine CT.of (by decide) (Nat.le_of_ble_eq_true rfl) ?_
  refine q_iload_n dX8_feed_0 rfl rfl ?_
  refine q_iconst (v := nI 1) dX8_feed_1 rfl ?_
  refine q_icmp_ltN (tgt := 11) dX8_feed_2 (by decide) (by omega) (by omega) (fun c2 => ?_) (fun c2 => ?_)
  · exact absurd c2 (by omega)
  · skip
    refine q_iload_n dX8_feed_5 rfl rfl ?_
    refine q_bipush (v := nI 8) dX8_feed_6 rfl ?_
    refine q_icmp_leN (tgt := 14) dX8_feed_8 (by decide) (by omega) (by omega) (fun c8 => ?_) (fun c8 => ?_)
    · skip
      refine q_aload_n dX8_feed_14 rfl rfl rfl ?_
      refine q_getr (r := 2) dX8_feed_15 fX8_12 rfl (ty_c hS (by decide) rfl) (hS.2 1 0 2 rfl) ?_
      refine q_geti (x := nI L) dX8_feed_18 fX8_43 rfl (ty_c hS (by decide) rfl) t1 ?_
      refine q_iload_n dX8_feed_21 rfl rfl ?_
      refine q_iaddN dX8_feed_22 ?_
      refine q_sipush (v := nI 3000) dX8_feed_23 rfl ?_
      refine q_icmp_leN (tgt := 32) dX8_feed_26 (by decide) (by omega) (by omega) (fun c26 => ?_) (fun c26 => ?_)
      · skip
        refine q_iload_n dX8_feed_32 rfl rfl ?_
        refine q_iconst (v := nI 1) dX8_feed_33 rfl ?_
        refine q_isubN dX8_feed_34 (by omega) ?_
        refine q_top (y := dn m) ((dn_pos h1).symm) ?_
        refine q_istore dX8_feed_35 (by decide) (ls' := [(4, .int (dn m)), (0, .ref 1), (1, .long w), (3, .int (nI m))]) rfl ?_
        refine q_pk [1, 2, 3, 0] (ls' := [(0, .ref 1), (1, .long w), (3, .int (nI m)), (4, .int (dn m))]) rfl ?_
        refine y8_feed hS hm hL m σ (Nat.le_refl _) Fr.rf ?_
        rw [Nat.sub_self]
        exact ⟨hT.1, hT.2.1, fun i hi => by unfold feT; rw [if_pos (by omega)]; exact hT.2.2 i hi⟩
      · exact absurd c26 (by omega)
    · exact absurd c8 (by omega)
theorem z8_feed2 (hS : SK σ) {w : Int64} {L m : Nat} (h2 : sI σ 2 1 = nI L) (hL3 : L ≤ 3000) (h1 : 1 ≤ m) (hm : m ≤ 8) (hL : 3000 < L + m) : CT g mX8_feed 1 0 0 [.ref 1, .long w, .int (nI m)] σ (PQ σ (.int (-3))) := by
  refine CT.of (by decide) (Nat.le_of_ble_eq_true rfl) ?_
  refine q_iload_n dX8_feed_0 rfl rfl ?_
  refine q_iconst (v := nI 1) dX8_feed_1 rfl ?_
  refine q_icmp_ltN (tgt := 11) dX8_feed_2 (by decide) (by omega) (by omega) (fun c2 => ?_) (fun c2 => ?_)
  · exact absurd c2 (by omega)
  · skip
    refine q_iload_n dX8_feed_5 rfl rfl ?_
    refine q_bipush (v := nI 8) dX8_feed_6 rfl ?_
    refine q_icmp_leN (tgt := 14) dX8_feed_8 (by decide) (by omega) (by omega) (fun c8 => ?_) (fun c8 => ?_)
    · skip
      refine q_aload_n dX8_feed_14 rfl rfl rfl ?_
      refine q_getr (r := 2) dX8_feed_15 fX8_12 rfl (ty_c hS (by decide) rfl) (hS.2 1 0 2 rfl) ?_
      refine q_geti (x := nI L) dX8_feed_18 fX8_43 rfl (ty_c hS (by decide) rfl) h2 ?_
      refine q_iload_n dX8_feed_21 rfl rfl ?_
      refine q_iaddN dX8_feed_22 ?_
      refine q_sipush (v := nI 3000) dX8_feed_23 rfl ?_
      refine q_icmp_leN (tgt := 32) dX8_feed_26 (by decide) (by omega) (by omega) (fun c26 => ?_) (fun c26 => ?_)
      · exact absurd c26 (by omega)
      · skip
        refine q_bipush (v := (-3 : Int32)) dX8_feed_29 rfl ?_
        refine q_ireturn dX8_feed_31 rfl rfl (by omega) (by omega) ?_
        exact ⟨rfl, rfl⟩
    · exact absurd c8 (by omega)
theorem z8_feed0 (hS : SK σ) {w : Int64} {n : Int32} (hn : ¬ (nI 1 ≤ n ∧ n ≤ nI 8)) : CT g mX8_feed 1 0 0 [.ref 1, .long w, .int n] σ (PQ σ (.int (-2))) := by
  refine CT.of (by decide) (Nat.le_of_ble_eq_true rfl) ?_
  refine q_iload_n dX8_feed_0 rfl rfl ?_
  refine q_iconst (v := nI 1) dX8_feed_1 rfl ?_
  refine q_icmp_lt (tgt := 11) dX8_feed_2 (by decide) (fun c2 => ?_) (fun c2 => ?_)
  · skip
    refine q_bipush (v := (-2 : Int32)) dX8_feed_11 rfl ?_
    refine q_ireturn dX8_feed_13 rfl rfl (by omega) (by omega) ?_
    exact ⟨rfl, rfl⟩
  · skip
    refine q_iload_n dX8_feed_5 rfl rfl ?_
    refine q_bipush (v := nI 8) dX8_feed_6 rfl ?_
    refine q_icmp_le (tgt := 14) dX8_feed_8 (by decide) (fun c8 => ?_) (fun c8 => ?_)
    · exact absurd ⟨Int32.not_lt.mp c2, c8⟩ hn
    · skip
      refine q_bipush (v := (-2 : Int32)) dX8_feed_11 rfl ?_
      refine q_ireturn dX8_feed_13 rfl rfl (by omega) (by omega) ?_
      exact ⟨rfl, rfl⟩
end FEED
