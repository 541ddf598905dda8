theorem t_X3_alike (d : Nat) (h : Hp_) (x0 : Int32) (x1 : Int32) (K : Int32 → Hp_ → Prop) (k : AW (m_X3_alike (d + 0) 0 0) 0 0 10 [(2, .int 0), (3, .int x0), (4, .int x1), (5, .int 0)] [] h (kI K)) : Ci (m_X3_alike (d + 0) 0 0) [.int x0, .int x1] h K := by
  refine Ct.of (fun _ _ _ => trivial) rfl (Nat.le_of_ble_eq_true rfl) ?_
  show AW (m_X3_alike (d + 0) 0 0) 0 0 0 [(0, .int x0), (1, .int x1)] [] h (kI K)
  refine aw_iconst (v := 0) d_X3_alike_0 ic_0 ?_
  refine aw_istore_n (i := 2) rfl [(0, .int x0), (1, .int x1), (2, .int 0)] d_X3_alike_1 (Nat.le_of_ble_eq_true rfl) rfl rfl ?_
  refine aw_iload_n (i := 0) rfl d_X3_alike_2 0 rfl ?_
  refine aw_istore_n (i := 3) rfl [(0, .int x0), (1, .int x1), (2, .int 0), (3, .int x0)] d_X3_alike_3 (Nat.le_of_ble_eq_true rfl) rfl rfl ?_
  refine aw_iload_n (i := 1) rfl d_X3_alike_4 1 rfl ?_
  refine aw_istore [(0, .int x0), (1, .int x1), (2, .int 0), (3, .int x0), (4, .int x1)] d_X3_alike_5 (Nat.le_of_ble_eq_true rfl) rfl rfl ?_
  refine aw_iconst (v := 0) d_X3_alike_7 ic_0 ?_
  refine aw_istore [(0, .int x0), (1, .int x1), (2, .int 0), (3, .int x0), (4, .int x1), (5, .int 0)] d_X3_alike_8 (Nat.le_of_ble_eq_true rfl) rfl rfl ?_
  exact aw_lvp [2, 3, 4, 5] [(2, .int 0), (3, .int x0), (4, .int x1), (5, .int 0)] rfl k
theorem t_X3_alike_10 (d : Nat) (h : Hp_) (x2 : Int32) (x3 : Int32) (x4 : Int32) (x5 : Int32) (K : Int32 → Hp_ → Prop) (k : (5 ≤ x5 → K x2 h) ∧ (¬ 5 ≤ x5 → (¬ (x3 - x3 / 10 * 10) = (x4 - x4 / 10 * 10) → AW (m_X3_alike (d + 0) 0 0) 0 0 10 [(2, .int x2), (3, .int (x3 / 10)), (4, .int (x4 / 10)), (5, .int (x5 + 1))] [] h (kI K)) ∧ ((x3 - x3 / 10 * 10) = (x4 - x4 / 10 * 10) → AW (m_X3_alike (d + 0) 0 0) 0 0 10 [(2, .int (x2 + 1)), (3, .int (x3 / 10)), (4, .int (x4 / 10)), (5, .int (x5 + 1))] [] h (kI K)))) : AW (m_X3_alike (d + 0) 0 0) 0 0 10 [(2, .int x2), (3, .int x3), (4, .int x4), (5, .int x5)] [] h (kI K) := by
  refine aw_iload d_X3_alike_10 3 rfl ?_
  refine aw_iconst (v := 5) d_X3_alike_12 ic_5 ?_
  refine aw_icmp_ge (tgt := 49) d_X3_alike_13 rfl (fun c1 => ?_) (fun c1 => ?_)
  · have k := k.1 c1
    refine aw_iload_n (i := 2) rfl d_X3_alike_49 0 rfl ?_
    exact aw_iret rfl d_X3_alike_50 ⟨Nat.le_refl _, Nat.le_refl _⟩ ⟨_, rfl, k⟩
  · have k := k.2 c1
    refine aw_iload_n (i := 3) rfl d_X3_alike_16 1 rfl ?_
    refine aw_bipush (v := 10) d_X3_alike_17 ib_10 ?_
    refine aw_irem d_X3_alike_19 (by decide) ?_
    refine aw_iload d_X3_alike_20 2 rfl ?_
    refine aw_bipush (v := 10) d_X3_alike_22 ib_10 ?_
    refine aw_irem d_X3_alike_24 (by decide) ?_
    refine aw_icmp_ne (tgt := 31) d_X3_alike_25 rfl (fun c2 => ?_) (fun c2 => ?_)
    · have k := k.1 c2
      refine aw_iload_n (i := 3) rfl d_X3_alike_31 1 rfl ?_
      refine aw_bipush (v := 10) d_X3_alike_32 ib_10 ?_
      refine aw_idiv d_X3_alike_34 (by decide) ?_
      refine aw_istore_n (i := 3) rfl [(2, .int x2), (3, .int (x3 / 10)), (4, .int x4), (5, .int x5)] d_X3_alike_35 (Nat.le_of_ble_eq_true rfl) rfl rfl ?_
      refine aw_iload d_X3_alike_36 2 rfl ?_
      refine aw_bipush (v := 10) d_X3_alike_38 ib_10 ?_
      refine aw_idiv d_X3_alike_40 (by decide) ?_
      refine aw_istore [(2, .int x2), (3, .int (x3 / 10)), (4, .int (x4 / 10)), (5, .int x5)] d_X3_alike_41 (Nat.le_of_ble_eq_true rfl) rfl rfl ?_
      refine aw_iinc (v := (x5 + 1)) [(2, .int x2), (3, .int (x3 / 10)), (4, .int (x4 / 10)), (5, .int (x5 + 1))] d_X3_alike_43 3 rfl rfl (Nat.le_of_ble_eq_true rfl) rfl rfl ?_
      refine aw_goto (tgt := 10) d_X3_alike_46 rfl ?_
      exact k
    · have k := k.2 c2
      refine aw_iinc (v := (x2 + 1)) [(2, .int (x2 + 1)), (3, .int x3), (4, .int x4), (5, .int x5)] d_X3_alike_28 0 rfl rfl (Nat.le_of_ble_eq_true rfl) rfl rfl ?_
      refine aw_iload_n (i := 3) rfl d_X3_alike_31 1 rfl ?_
      refine aw_bipush (v := 10) d_X3_alike_32 ib_10 ?_
      refine aw_idiv d_X3_alike_34 (by decide) ?_
      refine aw_istore_n (i := 3) rfl [(2, .int (x2 + 1)), (3, .int (x3 / 10)), (4, .int x4), (5, .int x5)] d_X3_alike_35 (Nat.le_of_ble_eq_true rfl) rfl rfl ?_
      refine aw_iload d_X3_alike_36 2 rfl ?_
      refine aw_bipush (v := 10) d_X3_alike_38 ib_10 ?_
      refine aw_idiv d_X3_alike_40 (by decide) ?_
      refine aw_istore [(2, .int (x2 + 1)), (3, .int (x3 / 10)), (4, .int (x4 / 10)), (5, .int x5)] d_X3_alike_41 (Nat.le_of_ble_eq_true rfl) rfl rfl ?_
      refine aw_iinc (v := (x5 + 1)) [(2, .int (x2 + 1)), (3, .int (x3 / 10)), (4, .int (x4 / 10)), (5, .int (x5 + 1))] d_X3_alike_43 3 rfl rfl (Nat.le_of_ble_eq_true rfl) rfl rfl ?_
      refine aw_goto (tgt := 10) d_X3_alike_46 rfl ?_
      exact k
theorem t_X3_fillGains (d : Nat) (h : Hp_)  (K : Hp_ → Prop) (k : AW (m_X3_fillGains (d + 1) 0 0) 0 0 2 [(0, .ref 19), (1, .int 0)] [] h (kV K)) : Cv (m_X3_fillGains (d + 1) 0 0) [.ref 19] h K := by
  refine Ct.of (fun _ _ _ => trivial) rfl (Nat.le_of_ble_eq_true rfl) ?_
  show AW (m_X3_fillGains (d + 1) 0 0) 0 0 0 [(0, .ref 19)] [] h (kV K)
  refine aw_iconst (v := 0) d_X3_fillGains_0 ic_0 ?_
  refine aw_istore_n (i := 1) rfl [(0, .ref 19), (1, .int 0)] d_X3_fillGains_1 (Nat.le_of_ble_eq_true rfl) rfl rfl ?_
  exact k
theorem t_X3_fillGains_2 (d : Nat) (h : Hp_) (w : Wf h) (x1 : Int32) (K : Hp_ → Prop) (k : ((h_i h 19 2) ≤ x1 → K h) ∧ (¬ (h_i h 19 2) ≤ x1 → AW (m_X3_fillGains (d + 1) 0 0) 0 0 12 [(0, .ref 19), (1, .int x1), (2, .int 0)] [] h (kV K))) : AW (m_X3_fillGains (d + 1) 0 0) 0 0 2 [(0, .ref 19), (1, .int x1)] [] h (kV K) := by
  refine aw_iload_n (i := 1) rfl d_X3_fillGains_2 1 rfl ?_
  refine aw_aload_n (i := 0) rfl d_X3_fillGains_3 0 rfl ?_
  refine aw_geti (k0 := 2) kc_3 (ws_19 w) (Nat.le_of_ble_eq_true rfl) tw_323 d_X3_fillGains_4 rfl ?_
  refine aw_icmp_ge (tgt := 72) d_X3_fillGains_7 rfl (fun c1 => ?_) (fun c1 => ?_)
  · have k := k.1 c1
    exact aw_vret rfl d_X3_fillGains_72 ⟨Nat.le_refl _, Nat.le_refl _⟩ ⟨rfl, k⟩
  · have k := k.2 c1
    refine aw_iconst (v := 0) d_X3_fillGains_10 ic_0 ?_
    refine aw_istore_n (i := 2) rfl [(0, .ref 19), (1, .int x1), (2, .int 0)] d_X3_fillGains_11 (Nat.le_of_ble_eq_true rfl) rfl rfl ?_
    exact k
theorem t_X3_fillGains_12 (d : Nat) (h : Hp_) (w : Wf h) (x1 : Int32) (x2 : Int32) (K : Hp_ → Prop) (k : ((h_i h 19 3) ≤ x2 → AW (m_X3_fillGains (d + 1) 0 0) 0 0 2 [(0, .ref 19), (1, .int (x1 + 1))] [] h (kV K)) ∧ (¬ (h_i h 19 3) ≤ x2 → vp_in x1 8 ∧ (vp_in x2 8 ∧ (Ci (m_X3_alike (d + 0) 0 0) [.int (h_i h 85 x1.toNatClampNeg), .int (h_i h 86 x2.toNatClampNeg)] h (fun r7 h5 => Wf h5 ∧ ((r7 < (h_i h5 19 4) → vp_in ((x1 * 8) + x2) 64 ∧ (AW (m_X3_fillGains (d + 1) 0 0) 0 0 12 [(0, .ref 19), (1, .int x1), (2, .int (x2 + 1))] [] (h_im h5 87 (((x1 * 8) + x2) : Int32).toNatClampNeg 0) (kV K))) ∧ (¬ r7 < (h_i h5 19 4) → vp_in ((x1 * 8) + x2) 64 ∧ (AW (m_X3_fillGains (d + 1) 0 0) 0 0 12 [(0, .ref 19), (1, .int x1), (2, .int (x2 + 1))] [] (h_im h5 87 (((x1 * 8) + x2) : Int32).toNatClampNeg r7) (kV K))))))))) : AW (m_X3_fillGains (d + 1) 0 0) 0 0 12 [(0, .ref 19), (1, .int x1), (2, .int x2)] [] h (kV K) := by
  refine aw_iload_n (i := 2) rfl d_X3_fillGains_12 2 rfl ?_
  refine aw_aload_n (i := 0) rfl d_X3_fillGains_13 0 rfl ?_
  refine aw_geti (k0 := 3) kc_3 (ws_19 w) (Nat.le_of_ble_eq_true rfl) tw_325 d_X3_fillGains_14 rfl ?_
  refine aw_icmp_ge (tgt := 66) d_X3_fillGains_17 rfl (fun c2 => ?_) (fun c2 => ?_)
  · have k := k.1 c2
    refine aw_iinc (v := (x1 + 1)) [(0, .ref 19), (1, .int (x1 + 1)), (2, .int x2)] d_X3_fillGains_66 1 rfl rfl (Nat.le_of_ble_eq_true rfl) rfl rfl ?_
    refine aw_goto (tgt := 2) d_X3_fillGains_69 rfl ?_
    exact aw_lvp [0, 1] [(0, .ref 19), (1, .int (x1 + 1))] rfl k
  · have k := k.2 c2
    refine aw_aload_n (i := 0) rfl d_X3_fillGains_20 0 rfl ?_
    refine aw_getr (k0 := 0) kc_3 (ws_19 w) (Nat.le_of_ble_eq_true rfl) tw_321 d_X3_fillGains_21 rfl (wr_19_0 w) ?_
    refine aw_iload_n (i := 1) rfl d_X3_fillGains_24 1 rfl ?_
    obtain ⟨b3, k⟩ := k
    refine aw_iald (ws_85 w) b3 d_X3_fillGains_25 ?_
    refine aw_aload_n (i := 0) rfl d_X3_fillGains_26 0 rfl ?_
    refine aw_getr (k0 := 1) kc_3 (ws_19 w) (Nat.le_of_ble_eq_true rfl) tw_322 d_X3_fillGains_27 rfl (wr_19_1 w) ?_
    refine aw_iload_n (i := 2) rfl d_X3_fillGains_30 2 rfl ?_
    obtain ⟨b4, k⟩ := k
    refine aw_iald (ws_86 w) b4 d_X3_fillGains_31 ?_
    refine aw_Si [.int (h_i h 85 x1.toNatClampNeg), .int (h_i h 86 x2.toNatClampNeg)] [] d_X3_fillGains_32 (cS_X3_alike (d + 0) 0 0) tw_1347 rfl (rr0 (Nat.le_of_ble_eq_true rfl) (Nat.le_of_ble_eq_true rfl)) (Nat.le_of_ble_eq_true rfl) xs0 k (fun r7 h5 kk => ?_)
    obtain ⟨w6, k⟩ := kk
    refine aw_istore_n (i := 3) rfl [(0, .ref 19), (1, .int x1), (2, .int x2), (3, .int r7)] d_X3_fillGains_35 (Nat.le_of_ble_eq_true rfl) rfl rfl ?_
    refine aw_aload_n (i := 0) rfl d_X3_fillGains_36 0 rfl ?_
    refine aw_getr (k0 := 6) kc_3 (ws_19 w6) (Nat.le_of_ble_eq_true rfl) tw_329 d_X3_fillGains_37 rfl (wr_19_6 w6) ?_
    refine aw_iload_n (i := 1) rfl d_X3_fillGains_40 1 rfl ?_
    refine aw_bipush (v := 8) d_X3_fillGains_41 ib_8 ?_
    refine aw_imul d_X3_fillGains_43 ?_
    refine aw_iload_n (i := 2) rfl d_X3_fillGains_44 2 rfl ?_
    refine aw_iadd d_X3_fillGains_45 ?_
    refine aw_iload_n (i := 3) rfl d_X3_fillGains_46 3 rfl ?_
    refine aw_aload_n (i := 0) rfl d_X3_fillGains_47 0 rfl ?_
    refine aw_geti (k0 := 4) kc_3 (ws_19 w6) (Nat.le_of_ble_eq_true rfl) tw_327 d_X3_fillGains_48 rfl ?_
    refine aw_icmp_lt (tgt := 58) d_X3_fillGains_51 rfl (fun c8 => ?_) (fun c8 => ?_)
    · have k := k.1 c8
      refine aw_iconst (v := 0) d_X3_fillGains_58 ic_0 ?_
      obtain ⟨b9, k⟩ := k
      refine aw_iast (ws_87 w6) b9 d_X3_fillGains_59 ?_
      refine aw_iinc (v := (x2 + 1)) [(0, .ref 19), (1, .int x1), (2, .int (x2 + 1)), (3, .int r7)] d_X3_fillGains_60 2 rfl rfl (Nat.le_of_ble_eq_true rfl) rfl rfl ?_
      refine aw_goto (tgt := 12) d_X3_fillGains_63 rfl ?_
      exact aw_lvp [0, 1, 2] [(0, .ref 19), (1, .int x1), (2, .int (x2 + 1))] rfl k
    · have k := k.2 c8
      refine aw_iload_n (i := 3) rfl d_X3_fillGains_54 3 rfl ?_
      refine aw_goto (tgt := 59) d_X3_fillGains_55 rfl ?_
      obtain ⟨b10, k⟩ := k
      refine aw_iast (ws_87 w6) b10 d_X3_fillGains_59 ?_
      refine aw_iinc (v := (x2 + 1)) [(0, .ref 19), (1, .int x1), (2, .int (x2 + 1)), (3, .int r7)] d_X3_fillGains_60 2 rfl rfl (Nat.le_of_ble_eq_true rfl) rfl rfl ?_
      refine aw_goto (tgt := 12) d_X3_fillGains_63 rfl ?_
      exact aw_lvp [0, 1, 2] [(0, .ref 19), (1, .int x1), (2, .int (x2 + 1))] rfl k
theorem t_X3_canJoin (d : Nat) (h : Hp_) (w : Wf h) (x1 : Int32) (x2 : Int32) (x3 : Int32) (K : Int32 → Hp_ → Prop) (k : (¬ ((x3 >>> (x2 &&& 31)) &&& 1) = 0 → K 0 h) ∧ (((x3 >>> (x2 &&& 31)) &&& 1) = 0 → vp_in ((x1 * 8) + x2) 64 ∧ (((h_i h 87 (((x1 * 8) + x2) : Int32).toNatClampNeg) ≤ 0 → K 0 h) ∧ (¬ (h_i h 87 (((x1 * 8) + x2) : Int32).toNatClampNeg) ≤ 0 → K 1 h)))) : Ci (m_X3_canJoin (d + 0) 0 0) [.ref 19, .int x1, .int x2, .int x3] h K := by
  refine Ct.of (fun _ _ _ => trivial) rfl (Nat.le_of_ble_eq_true rfl) ?_
  show AW (m_X3_canJoin (d + 0) 0 0) 0 0 0 [(0, .ref 19), (1, .int x1), (2, .int x2), (3, .int x3)] [] h (kI K)
  refine aw_iload_n (i := 3) rfl d_X3_canJoin_0 3 rfl ?_
  refine aw_iload_n (i := 2) rfl d_X3_canJoin_1 2 rfl ?_
  refine aw_ishr d_X3_canJoin_2 ?_
  refine aw_iconst (v := 1) d_X3_canJoin_3 ic_1 ?_
  refine aw_iand d_X3_canJoin_4 ?_
  refine aw_if_ne (tgt := 26) d_X3_canJoin_5 rfl (fun c1 => ?_) (fun c1 => ?_)
  · have k := k.1 c1
    refine aw_iconst (v := 0) d_X3_canJoin_26 ic_0 ?_
    exact aw_zret rfl rfl d_X3_canJoin_27 ⟨Nat.le_refl _, Nat.le_refl _⟩ ⟨_, rfl, k⟩
  · have k := k.2 c1
    refine aw_aload_n (i := 0) rfl d_X3_canJoin_8 0 rfl ?_
    refine aw_getr (k0 := 6) kc_3 (ws_19 w) (Nat.le_of_ble_eq_true rfl) tw_329 d_X3_canJoin_9 rfl (wr_19_6 w) ?_
    refine aw_iload_n (i := 1) rfl d_X3_canJoin_12 1 rfl ?_
    refine aw_bipush (v := 8) d_X3_canJoin_13 ib_8 ?_
    refine aw_imul d_X3_canJoin_15 ?_
    refine aw_iload_n (i := 2) rfl d_X3_canJoin_16 2 rfl ?_
    refine aw_iadd d_X3_canJoin_17 ?_
    obtain ⟨b2, k⟩ := k
    refine aw_iald (ws_87 w) b2 d_X3_canJoin_18 ?_
    refine aw_if_le (tgt := 26) d_X3_canJoin_19 rfl (fun c3 => ?_) (fun c3 => ?_)
    · have k := k.1 c3
      refine aw_iconst (v := 0) d_X3_canJoin_26 ic_0 ?_
      exact aw_zret rfl rfl d_X3_canJoin_27 ⟨Nat.le_refl _, Nat.le_refl _⟩ ⟨_, rfl, k⟩
    · have k := k.2 c3
      refine aw_iconst (v := 1) d_X3_canJoin_22 ic_1 ?_
      refine aw_goto (tgt := 27) d_X3_canJoin_23 rfl ?_
      exact aw_zret rfl rfl d_X3_canJoin_27 ⟨Nat.le_refl _, Nat.le_refl _⟩ ⟨_, rfl, k⟩
theorem t_X3_sumWith (d : Nat) (h : Hp_) (w : Wf h) (x1 : Int32) (x2 : Int32) (x3 : Int32) (K : Int32 → Hp_ → Prop) (k : vp_in ((x1 * 8) + x2) 64 ∧ (vp_in (((x1 + 1) * 256) + (x3 ||| ((1 : Int32) <<< (x2 &&& 31)))) 2304 ∧ (K ((h_i h 87 (((x1 * 8) + x2) : Int32).toNatClampNeg) + (h_i h 88 ((((x1 + 1) * 256) + (x3 ||| ((1 : Int32) <<< (x2 &&& 31)))) : Int32).toNatClampNeg)) h))) : Ci (m_X3_sumWith (d + 0) 0 0) [.ref 19, .int x1, .int x2, .int x3] h K := by
  refine Ct.of (fun _ _ _ => trivial) rfl (Nat.le_of_ble_eq_true rfl) ?_
  show AW (m_X3_sumWith (d + 0) 0 0) 0 0 0 [(0, .ref 19), (1, .int x1), (2, .int x2), (3, .int x3)] [] h (kI K)
  refine aw_aload_n (i := 0) rfl d_X3_sumWith_0 0 rfl ?_
  refine aw_getr (k0 := 6) kc_3 (ws_19 w) (Nat.le_of_ble_eq_true rfl) tw_329 d_X3_sumWith_1 rfl (wr_19_6 w) ?_
  refine aw_iload_n (i := 1) rfl d_X3_sumWith_4 1 rfl ?_
  refine aw_bipush (v := 8) d_X3_sumWith_5 ib_8 ?_
  refine aw_imul d_X3_sumWith_7 ?_
  refine aw_iload_n (i := 2) rfl d_X3_sumWith_8 2 rfl ?_
  refine aw_iadd d_X3_sumWith_9 ?_
  obtain ⟨b1, k⟩ := k
  refine aw_iald (ws_87 w) b1 d_X3_sumWith_10 ?_
  refine aw_aload_n (i := 0) rfl d_X3_sumWith_11 0 rfl ?_
  refine aw_getr (k0 := 7) kc_3 (ws_19 w) (Nat.le_of_ble_eq_true rfl) tw_330 d_X3_sumWith_12 rfl (wr_19_7 w) ?_
  refine aw_iload_n (i := 1) rfl d_X3_sumWith_15 1 rfl ?_
  refine aw_iconst (v := 1) d_X3_sumWith_16 ic_1 ?_
  refine aw_iadd d_X3_sumWith_17 ?_
  refine aw_sipush (v := 256) d_X3_sumWith_18 is_256 ?_
  refine aw_imul d_X3_sumWith_21 ?_
  refine aw_iload_n (i := 3) rfl d_X3_sumWith_22 3 rfl ?_
  refine aw_iconst (v := 1) d_X3_sumWith_23 ic_1 ?_
  refine aw_iload_n (i := 2) rfl d_X3_sumWith_24 2 rfl ?_
  refine aw_ishl d_X3_sumWith_25 ?_
  refine aw_ior d_X3_sumWith_26 ?_
  refine aw_iadd d_X3_sumWith_27 ?_
  obtain ⟨b2, k⟩ := k
  refine aw_iald (ws_88 w) b2 d_X3_sumWith_28 ?_
  refine aw_iadd d_X3_sumWith_29 ?_
  exact aw_iret rfl d_X3_sumWith_30 ⟨Nat.le_refl _, Nat.le_refl _⟩ ⟨_, rfl, k⟩
theorem t_X3_fillBest (d : Nat) (h : Hp_) (w : Wf h)  (K : Hp_ → Prop) (k : Cv (m_J7_fill_53178 (d + 0) 0 0) [.ref 88, .int 0] h (fun h1 => Wf h1 ∧ (AW (m_X3_fillBest (d + 1) 0 0) 0 0 22 [(0, .ref 19), (1, .int ((1 : Int32) <<< ((h_i h1 19 3) &&& 31))), (2, .int ((h_i h1 19 2) - 1))] [] h1 (kV K)))) : Cv (m_X3_fillBest (d + 1) 0 0) [.ref 19] h K := by
  refine Ct.of (fun _ _ _ => trivial) rfl (Nat.le_of_ble_eq_true rfl) ?_
  show AW (m_X3_fillBest (d + 1) 0 0) 0 0 0 [(0, .ref 19)] [] h (kV K)
  refine aw_aload_n (i := 0) rfl d_X3_fillBest_0 0 rfl ?_
  refine aw_getr (k0 := 7) kc_3 (ws_19 w) (Nat.le_of_ble_eq_true rfl) tw_330 d_X3_fillBest_1 rfl (wr_19_7 w) ?_
  refine aw_iconst (v := 0) d_X3_fillBest_4 ic_0 ?_
  refine aw_Sv [.ref 88, .int 0] [] d_X3_fillBest_5 (cS_J7_fill_53178 (d + 0) 0 0) tw_1354 rfl (rr0 (Nat.le_of_ble_eq_true rfl) (Nat.le_of_ble_eq_true rfl)) (Nat.le_of_ble_eq_true rfl) xs0 k (fun h1 kk => ?_)
  obtain ⟨w2, k⟩ := kk
  refine aw_iconst (v := 1) d_X3_fillBest_8 ic_1 ?_
  refine aw_aload_n (i := 0) rfl d_X3_fillBest_9 0 rfl ?_
  refine aw_geti (k0 := 3) kc_3 (ws_19 w2) (Nat.le_of_ble_eq_true rfl) tw_325 d_X3_fillBest_10 rfl ?_
  refine aw_ishl d_X3_fillBest_13 ?_
  refine aw_istore_n (i := 1) rfl [(0, .ref 19), (1, .int ((1 : Int32) <<< ((h_i h1 19 3) &&& 31)))] d_X3_fillBest_14 (Nat.le_of_ble_eq_true rfl) rfl rfl ?_
  refine aw_aload_n (i := 0) rfl d_X3_fillBest_15 0 rfl ?_
  refine aw_geti (k0 := 2) kc_3 (ws_19 w2) (Nat.le_of_ble_eq_true rfl) tw_323 d_X3_fillBest_16 rfl ?_
  refine aw_iconst (v := 1) d_X3_fillBest_19 ic_1 ?_
  refine aw_isub d_X3_fillBest_20 ?_
  refine aw_istore_n (i := 2) rfl [(0, .ref 19), (1, .int ((1 : Int32) <<< ((h_i h1 19 3) &&& 31))), (2, .int ((h_i h1 19 2) - 1))] d_X3_fillBest_21 (Nat.le_of_ble_eq_true rfl) rfl rfl ?_
  exact k
theorem t_X3_fillBest_22 (d : Nat) (h : Hp_) (x1 : Int32) (x2 : Int32) (K : Hp_ → Prop) (k : (x2 < 0 → K h) ∧ (¬ x2 < 0 → AW (m_X3_fillBest (d + 1) 0 0) 0 0 28 [(0, .ref 19), (1, .int x1), (2, .int x2), (3, .int 0)] [] h (kV K))) : AW (m_X3_fillBest (d + 1) 0 0) 0 0 22 [(0, .ref 19), (1, .int x1), (2, .int x2)] [] h (kV K) := by
  refine aw_iload_n (i := 2) rfl d_X3_fillBest_22 2 rfl ?_
  refine aw_if_lt (tgt := 119) d_X3_fillBest_23 rfl (fun c4 => ?_) (fun c4 => ?_)
  · have k := k.1 c4
    exact aw_vret rfl d_X3_fillBest_119 ⟨Nat.le_refl _, Nat.le_refl _⟩ ⟨rfl, k⟩
  · have k := k.2 c4
    refine aw_iconst (v := 0) d_X3_fillBest_26 ic_0 ?_
    refine aw_istore_n (i := 3) rfl [(0, .ref 19), (1, .int x1), (2, .int x2), (3, .int 0)] d_X3_fillBest_27 (Nat.le_of_ble_eq_true rfl) rfl rfl ?_
    exact k
theorem t_X3_fillBest_28 (d : Nat) (h : Hp_) (w : Wf h) (x1 : Int32) (x2 : Int32) (x3 : Int32) (K : Hp_ → Prop) (k : (x1 ≤ x3 → AW (m_X3_fillBest (d + 1) 0 0) 0 0 22 [(0, .ref 19), (1, .int x1), (2, .int (x2 + (-1)))] [] h (kV K)) ∧ (¬ x1 ≤ x3 → vp_in (((x2 + 1) * 256) + x3) 2304 ∧ (AW (m_X3_fillBest (d + 1) 0 0) 0 0 52 [(0, .ref 19), (1, .int x1), (2, .int x2), (3, .int x3), (4, .int (h_i h 88 ((((x2 + 1) * 256) + x3) : Int32).toNatClampNeg)), (5, .int 0)] [] h (kV K)))) : AW (m_X3_fillBest (d + 1) 0 0) 0 0 28 [(0, .ref 19), (1, .int x1), (2, .int x2), (3, .int x3)] [] h (kV K) := by
  refine aw_iload_n (i := 3) rfl d_X3_fillBest_28 3 rfl ?_
  refine aw_iload_n (i := 1) rfl d_X3_fillBest_29 1 rfl ?_
  refine aw_icmp_ge (tgt := 113) d_X3_fillBest_30 rfl (fun c5 => ?_) (fun c5 => ?_)
  · have k := k.1 c5
    refine aw_iinc (v := (x2 + (-1))) [(0, .ref 19), (1, .int x1), (2, .int (x2 + (-1))), (3, .int x3)] d_X3_fillBest_113 2 rfl rfl (Nat.le_of_ble_eq_true rfl) rfl rfl ?_
    refine aw_goto (tgt := 22) d_X3_fillBest_116 rfl ?_
    exact aw_lvp [0, 1, 2] [(0, .ref 19), (1, .int x1), (2, .int (x2 + (-1)))] rfl k
  · have k := k.2 c5
    refine aw_aload_n (i := 0) rfl d_X3_fillBest_33 0 rfl ?_
    refine aw_getr (k0 := 7) kc_3 (ws_19 w) (Nat.le_of_ble_eq_true rfl) tw_330 d_X3_fillBest_34 rfl (wr_19_7 w) ?_
    refine aw_iload_n (i := 2) rfl d_X3_fillBest_37 2 rfl ?_
    refine aw_iconst (v := 1) d_X3_fillBest_38 ic_1 ?_
    refine aw_iadd d_X3_fillBest_39 ?_
    refine aw_sipush (v := 256) d_X3_fillBest_40 is_256 ?_
    refine aw_imul d_X3_fillBest_43 ?_
    refine aw_iload_n (i := 3) rfl d_X3_fillBest_44 3 rfl ?_
    refine aw_iadd d_X3_fillBest_45 ?_
    obtain ⟨b6, k⟩ := k
    refine aw_iald (ws_88 w) b6 d_X3_fillBest_46 ?_
    refine aw_istore [(0, .ref 19), (1, .int x1), (2, .int x2), (3, .int x3), (4, .int (h_i h 88 ((((x2 + 1) * 256) + x3) : Int32).toNatClampNeg))] d_X3_fillBest_47 (Nat.le_of_ble_eq_true rfl) rfl rfl ?_
    refine aw_iconst (v := 0) d_X3_fillBest_49 ic_0 ?_
    refine aw_istore [(0, .ref 19), (1, .int x1), (2, .int x2), (3, .int x3), (4, .int (h_i h 88 ((((x2 + 1) * 256) + x3) : Int32).toNatClampNeg)), (5, .int 0)] d_X3_fillBest_50 (Nat.le_of_ble_eq_true rfl) rfl rfl ?_
    exact k
theorem t_X3_fillBest_52 (d : Nat) (h : Hp_) (w : Wf h) (x1 : Int32) (x2 : Int32) (x3 : Int32) (x4 : Int32) (x5 : Int32) (K : Hp_ → Prop) (k : ((h_i h 19 3) ≤ x5 → vp_in ((x2 * 256) + x3) 2304 ∧ (AW (m_X3_fillBest (d + 1) 0 0) 0 0 28 [(0, .ref 19), (1, .int x1), (2, .int x2), (3, .int (x3 + 1))] [] (h_im h 88 (((x2 * 256) + x3) : Int32).toNatClampNeg x4) (kV K))) ∧ (¬ (h_i h 19 3) ≤ x5 → Ci (m_X3_canJoin (d + 0) 0 0) [.ref 19, .int x2, .int x5, .int x3] h (fun r11 h9 => Wf h9 ∧ ((r11 = 0 → AW (m_X3_fillBest (d + 1) 0 0) 0 0 52 [(0, .ref 19), (1, .int x1), (2, .int x2), (3, .int x3), (4, .int x4), (5, .int (x5 + 1))] [] h9 (kV K)) ∧ (¬ r11 = 0 → Ci (m_X3_sumWith (d + 0) 0 0) [.ref 19, .int x2, .int x5, .int x3] h9 (fun r15 h13 => Wf h13 ∧ (AW (m_X3_fillBest (d + 1) 0 0) 0 0 52 [(0, .ref 19), (1, .int x1), (2, .int x2), (3, .int x3), (4, .int (if x4 < r15 then r15 else x4)), (5, .int (x5 + 1))] [] h13 (kV K)))))))) : AW (m_X3_fillBest (d + 1) 0 0) 0 0 52 [(0, .ref 19), (1, .int x1), (2, .int x2), (3, .int x3), (4, .int x4), (5, .int x5)] [] h (kV K) := by
  refine aw_iload d_X3_fillBest_52 5 rfl ?_
  refine aw_aload_n (i := 0) rfl d_X3_fillBest_54 0 rfl ?_
  refine aw_geti (k0 := 3) kc_3 (ws_19 w) (Nat.le_of_ble_eq_true rfl) tw_325 d_X3_fillBest_55 rfl ?_
  refine aw_icmp_ge (tgt := 93) d_X3_fillBest_58 rfl (fun c7 => ?_) (fun c7 => ?_)
  · have k := k.1 c7
    refine aw_aload_n (i := 0) rfl d_X3_fillBest_93 0 rfl ?_
    refine aw_getr (k0 := 7) kc_3 (ws_19 w) (Nat.le_of_ble_eq_true rfl) tw_330 d_X3_fillBest_94 rfl (wr_19_7 w) ?_
    refine aw_iload_n (i := 2) rfl d_X3_fillBest_97 2 rfl ?_
    refine aw_sipush (v := 256) d_X3_fillBest_98 is_256 ?_
    refine aw_imul d_X3_fillBest_101 ?_
    refine aw_iload_n (i := 3) rfl d_X3_fillBest_102 3 rfl ?_
    refine aw_iadd d_X3_fillBest_103 ?_
    refine aw_iload d_X3_fillBest_104 4 rfl ?_
    obtain ⟨b8, k⟩ := k
    refine aw_iast (ws_88 w) b8 d_X3_fillBest_106 ?_
    refine aw_iinc (v := (x3 + 1)) [(0, .ref 19), (1, .int x1), (2, .int x2), (3, .int (x3 + 1)), (4, .int x4), (5, .int x5)] d_X3_fillBest_107 3 rfl rfl (Nat.le_of_ble_eq_true rfl) rfl rfl ?_
    refine aw_goto (tgt := 28) d_X3_fillBest_110 rfl ?_
    exact aw_lvp [0, 1, 2, 3] [(0, .ref 19), (1, .int x1), (2, .int x2), (3, .int (x3 + 1))] rfl k
  · have k := k.2 c7
    refine aw_aload_n (i := 0) rfl d_X3_fillBest_61 0 rfl ?_
    refine aw_iload_n (i := 2) rfl d_X3_fillBest_62 2 rfl ?_
    refine aw_iload d_X3_fillBest_63 5 rfl ?_
    refine aw_iload_n (i := 3) rfl d_X3_fillBest_65 3 rfl ?_
    refine aw_Vi 19 [.int x2, .int x5, .int x3] [] d_X3_fillBest_66 (cV_X3_canJoin (d + 0) 0 0) kc_3 (ws_19 w) tw_1355 rfl (rr0 (Nat.le_of_ble_eq_true rfl) (Nat.le_of_ble_eq_true rfl)) (Nat.le_of_ble_eq_true rfl) xs0 k (fun r11 h9 kk => ?_)
    obtain ⟨w10, k⟩ := kk
    refine aw_if_eq (tgt := 87) d_X3_fillBest_69 rfl (fun c12 => ?_) (fun c12 => ?_)
    · have k := k.1 c12
      refine aw_iinc (v := (x5 + 1)) [(0, .ref 19), (1, .int x1), (2, .int x2), (3, .int x3), (4, .int x4), (5, .int (x5 + 1))] d_X3_fillBest_87 5 rfl rfl (Nat.le_of_ble_eq_true rfl) rfl rfl ?_
      refine aw_goto (tgt := 52) d_X3_fillBest_90 rfl ?_
      exact k
    · have k := k.2 c12
      refine aw_iload d_X3_fillBest_72 4 rfl ?_
      refine aw_aload_n (i := 0) rfl d_X3_fillBest_74 0 rfl ?_
      refine aw_iload_n (i := 2) rfl d_X3_fillBest_75 2 rfl ?_
      refine aw_iload d_X3_fillBest_76 5 rfl ?_
      refine aw_iload_n (i := 3) rfl d_X3_fillBest_78 3 rfl ?_
      refine aw_Vi 19 [.int x2, .int x5, .int x3] [.int x4] d_X3_fillBest_79 (cV_X3_sumWith (d + 0) 0 0) kc_3 (ws_19 w10) tw_1359 rfl (rr0 (Nat.le_of_ble_eq_true rfl) (Nat.le_of_ble_eq_true rfl)) (Nat.le_of_ble_eq_true rfl) xs0 k (fun r15 h13 kk => ?_)
      obtain ⟨w14, k⟩ := kk
      refine aw_mmax d_X3_fillBest_82 tw_1363 (show 1 ≤ (d + 1) by omega) (Nat.le_trans (Nat.le_of_ble_eq_true rfl) (show 100 ≤ 100 * (d + 1) by omega)) ⟨Nat.le_refl _, Nat.le_refl _⟩ ?_
      refine aw_istore [(0, .ref 19), (1, .int x1), (2, .int x2), (3, .int x3), (4, .int (if x4 < r15 then r15 else x4)), (5, .int x5)] d_X3_fillBest_85 (Nat.le_of_ble_eq_true rfl) rfl rfl ?_
      refine aw_iinc (v := (x5 + 1)) [(0, .ref 19), (1, .int x1), (2, .int x2), (3, .int x3), (4, .int (if x4 < r15 then r15 else x4)), (5, .int (x5 + 1))] d_X3_fillBest_87 5 rfl rfl (Nat.le_of_ble_eq_true rfl) rfl rfl ?_
      refine aw_goto (tgt := 52) d_X3_fillBest_90 rfl ?_
      exact k
theorem t_X3_fillChoices (d : Nat) (h : Hp_)  (K : Hp_ → Prop) (k : AW (m_X3_fillChoices (d + 2) 0 0) 0 0 2 [(0, .ref 19), (1, .int 0)] [] h (kV K)) : Cv (m_X3_fillChoices (d + 2) 0 0) [.ref 19] h K := by
  refine Ct.of (fun _ _ _ => trivial) rfl (Nat.le_of_ble_eq_true rfl) ?_
  show AW (m_X3_fillChoices (d + 2) 0 0) 0 0 0 [(0, .ref 19)] [] h (kV K)
  refine aw_iconst (v := 0) d_X3_fillChoices_0 ic_0 ?_
  refine aw_istore_n (i := 1) rfl [(0, .ref 19), (1, .int 0)] d_X3_fillChoices_1 (Nat.le_of_ble_eq_true rfl) rfl rfl ?_
  exact k
theorem t_X3_fillChoices_2 (d : Nat) (h : Hp_) (w : Wf h) (x1 : Int32) (K : Hp_ → Prop) (k : (2304 ≤ x1 → Cv (m_J7_fill_53178 (d + 0) 0 0) [.ref 90, .int 0] h (fun h2 => Wf h2 ∧ (vp_in 0 2304 ∧ (AW (m_X3_fillChoices (d + 2) 0 0) 0 0 48 [(0, .ref 19), (1, .int ((1 : Int32) <<< ((h_i h2 19 3) &&& 31))), (2, .int 0)] [] (h_im h2 89 (0 : Int32).toNatClampNeg (vp_nar .boolean 1)) (kV K))))) ∧ (¬ 2304 ≤ x1 → vp_in x1 2304 ∧ (AW (m_X3_fillChoices (d + 2) 0 0) 0 0 2 [(0, .ref 19), (1, .int (x1 + 1))] [] (h_im h 89 x1.toNatClampNeg (vp_nar .boolean 0)) (kV K)))) : AW (m_X3_fillChoices (d + 2) 0 0) 0 0 2 [(0, .ref 19), (1, .int x1)] [] h (kV K) := by
  refine aw_iload_n (i := 1) rfl d_X3_fillChoices_2 1 rfl ?_
  refine aw_aload_n (i := 0) rfl d_X3_fillChoices_3 0 rfl ?_
  refine aw_getr (k0 := 8) kc_3 (ws_19 w) (Nat.le_of_ble_eq_true rfl) tw_331 d_X3_fillChoices_4 rfl (wr_19_8 w) ?_
  refine aw_alen (v := 2304) (ws_89 w) (Nat.le_of_ble_eq_true rfl) rfl d_X3_fillChoices_7 ?_
  refine aw_icmp_ge (tgt := 24) d_X3_fillChoices_8 rfl (fun c1 => ?_) (fun c1 => ?_)
  · have k := k.1 c1
    refine aw_aload_n (i := 0) rfl d_X3_fillChoices_24 0 rfl ?_
    refine aw_getr (k0 := 9) kc_3 (ws_19 w) (Nat.le_of_ble_eq_true rfl) tw_332 d_X3_fillChoices_25 rfl (wr_19_9 w) ?_
    refine aw_iconst (v := 0) d_X3_fillChoices_28 ic_0 ?_
    refine aw_Sv [.ref 90, .int 0] [] d_X3_fillChoices_29 (cS_J7_fill_53178 (d + 0) 0 0) tw_1354 rfl (rr0 (Nat.le_of_ble_eq_true rfl) (Nat.le_of_ble_eq_true rfl)) (Nat.le_of_ble_eq_true rfl) xs0 k (fun h2 kk => ?_)
    obtain ⟨w3, k⟩ := kk
    refine aw_aload_n (i := 0) rfl d_X3_fillChoices_32 0 rfl ?_
    refine aw_getr (k0 := 8) kc_3 (ws_19 w3) (Nat.le_of_ble_eq_true rfl) tw_331 d_X3_fillChoices_33 rfl (wr_19_8 w3) ?_
    refine aw_iconst (v := 0) d_X3_fillChoices_36 ic_0 ?_
    refine aw_iconst (v := 1) d_X3_fillChoices_37 ic_1 ?_
    obtain ⟨b5, k⟩ := k
    refine aw_zast (ws_89 w3) b5 d_X3_fillChoices_38 ?_
    refine aw_iconst (v := 1) d_X3_fillChoices_39 ic_1 ?_
    refine aw_aload_n (i := 0) rfl d_X3_fillChoices_40 0 rfl ?_
    refine aw_geti (k0 := 3) kc_3 (ws_19 w3) (Nat.le_of_ble_eq_true rfl) tw_325 d_X3_fillChoices_41 rfl ?_
    refine aw_vi (v2 := (h_i h2 19 3)) (rfl) ?_
    refine aw_ishl d_X3_fillChoices_44 ?_
    refine aw_istore_n (i := 1) rfl [(0, .ref 19), (1, .int ((1 : Int32) <<< ((h_i h2 19 3) &&& 31)))] d_X3_fillChoices_45 (Nat.le_of_ble_eq_true rfl) rfl rfl ?_
    refine aw_iconst (v := 0) d_X3_fillChoices_46 ic_0 ?_
    refine aw_istore_n (i := 2) rfl [(0, .ref 19), (1, .int ((1 : Int32) <<< ((h_i h2 19 3) &&& 31))), (2, .int 0)] d_X3_fillChoices_47 (Nat.le_of_ble_eq_true rfl) rfl rfl ?_
    exact k
  · have k := k.2 c1
    refine aw_aload_n (i := 0) rfl d_X3_fillChoices_11 0 rfl ?_
    refine aw_getr (k0 := 8) kc_3 (ws_19 w) (Nat.le_of_ble_eq_true rfl) tw_331 d_X3_fillChoices_12 rfl (wr_19_8 w) ?_
    refine aw_iload_n (i := 1) rfl d_X3_fillChoices_15 1 rfl ?_
    refine aw_iconst (v := 0) d_X3_fillChoices_16 ic_0 ?_
    obtain ⟨b6, k⟩ := k
    refine aw_zast (ws_89 w) b6 d_X3_fillChoices_17 ?_
    refine aw_iinc (v := (x1 + 1)) [(0, .ref 19), (1, .int (x1 + 1))] d_X3_fillChoices_18 1 rfl rfl (Nat.le_of_ble_eq_true rfl) rfl rfl ?_
    refine aw_goto (tgt := 2) d_X3_fillChoices_21 rfl ?_
    exact k
theorem t_X3_fillChoices_48 (d : Nat) (h : Hp_) (w : Wf h) (x1 : Int32) (x2 : Int32) (K : Hp_ → Prop) (k : ((h_i h 19 2) ≤ x2 → K h) ∧ (¬ (h_i h 19 2) ≤ x2 → AW (m_X3_fillChoices (d + 2) 0 0) 0 0 58 [(0, .ref 19), (1, .int x1), (2, .int x2), (3, .int 0)] [] h (kV K))) : AW (m_X3_fillChoices (d + 2) 0 0) 0 0 48 [(0, .ref 19), (1, .int x1), (2, .int x2)] [] h (kV K) := by
  refine aw_iload_n (i := 2) rfl d_X3_fillChoices_48 2 rfl ?_
  refine aw_aload_n (i := 0) rfl d_X3_fillChoices_49 0 rfl ?_
  refine aw_geti (k0 := 2) kc_3 (ws_19 w) (Nat.le_of_ble_eq_true rfl) tw_323 d_X3_fillChoices_50 rfl ?_
  refine aw_icmp_ge (tgt := 96) d_X3_fillChoices_53 rfl (fun c7 => ?_) (fun c7 => ?_)
  · have k := k.1 c7
    exact aw_vret rfl d_X3_fillChoices_96 ⟨Nat.le_refl _, Nat.le_refl _⟩ ⟨rfl, k⟩
  · have k := k.2 c7
    refine aw_iconst (v := 0) d_X3_fillChoices_56 ic_0 ?_
    refine aw_istore_n (i := 3) rfl [(0, .ref 19), (1, .int x1), (2, .int x2), (3, .int 0)] d_X3_fillChoices_57 (Nat.le_of_ble_eq_true rfl) rfl rfl ?_
    exact k
theorem t_X3_fillChoices_58 (d : Nat) (h : Hp_) (w : Wf h) (x1 : Int32) (x2 : Int32) (x3 : Int32) (K : Hp_ → Prop) (k : (x1 ≤ x3 → AW (m_X3_fillChoices (d + 2) 0 0) 0 0 48 [(0, .ref 19), (1, .int x1), (2, .int (x2 + 1))] [] h (kV K)) ∧ (¬ x1 ≤ x3 → vp_in ((x2 * 256) + x3) 2304 ∧ (((h_i h 89 (((x2 * 256) + x3) : Int32).toNatClampNeg) = 0 → AW (m_X3_fillChoices (d + 2) 0 0) 0 0 58 [(0, .ref 19), (1, .int x1), (2, .int x2), (3, .int (x3 + 1))] [] h (kV K)) ∧ (¬ (h_i h 89 (((x2 * 256) + x3) : Int32).toNatClampNeg) = 0 → Cv (m_X3_spreadFrom (d + 1) 0 0) [.ref 19, .int x2, .int x3] h (fun h11 => Wf h11 ∧ (AW (m_X3_fillChoices (d + 2) 0 0) 0 0 58 [(0, .ref 19), (1, .int x1), (2, .int x2), (3, .int (x3 + 1))] [] h11 (kV K))))))) : AW (m_X3_fillChoices (d + 2) 0 0) 0 0 58 [(0, .ref 19), (1, .int x1), (2, .int x2), (3, .int x3)] [] h (kV K) := by
  refine aw_iload_n (i := 3) rfl d_X3_fillChoices_58 3 rfl ?_
  refine aw_iload_n (i := 1) rfl d_X3_fillChoices_59 1 rfl ?_
  refine aw_icmp_ge (tgt := 90) d_X3_fillChoices_60 rfl (fun c8 => ?_) (fun c8 => ?_)
  · have k := k.1 c8
    refine aw_iinc (v := (x2 + 1)) [(0, .ref 19), (1, .int x1), (2, .int (x2 + 1)), (3, .int x3)] d_X3_fillChoices_90 2 rfl rfl (Nat.le_of_ble_eq_true rfl) rfl rfl ?_
    refine aw_goto (tgt := 48) d_X3_fillChoices_93 rfl ?_
    exact aw_lvp [0, 1, 2] [(0, .ref 19), (1, .int x1), (2, .int (x2 + 1))] rfl k
  · have k := k.2 c8
    refine aw_aload_n (i := 0) rfl d_X3_fillChoices_63 0 rfl ?_
    refine aw_getr (k0 := 8) kc_3 (ws_19 w) (Nat.le_of_ble_eq_true rfl) tw_331 d_X3_fillChoices_64 rfl (wr_19_8 w) ?_
    refine aw_iload_n (i := 2) rfl d_X3_fillChoices_67 2 rfl ?_
    refine aw_sipush (v := 256) d_X3_fillChoices_68 is_256 ?_
    refine aw_imul d_X3_fillChoices_71 ?_
    refine aw_iload_n (i := 3) rfl d_X3_fillChoices_72 3 rfl ?_
    refine aw_iadd d_X3_fillChoices_73 ?_
    obtain ⟨b9, k⟩ := k
    refine aw_zald (ws_89 w) b9 d_X3_fillChoices_74 ?_
    refine aw_if_eq (tgt := 84) d_X3_fillChoices_75 rfl (fun c10 => ?_) (fun c10 => ?_)
    · have k := k.1 c10
      refine aw_iinc (v := (x3 + 1)) [(0, .ref 19), (1, .int x1), (2, .int x2), (3, .int (x3 + 1))] d_X3_fillChoices_84 3 rfl rfl (Nat.le_of_ble_eq_true rfl) rfl rfl ?_
      refine aw_goto (tgt := 58) d_X3_fillChoices_87 rfl ?_
      exact k
    · have k := k.2 c10
      refine aw_aload_n (i := 0) rfl d_X3_fillChoices_78 0 rfl ?_
      refine aw_iload_n (i := 2) rfl d_X3_fillChoices_79 2 rfl ?_
      refine aw_iload_n (i := 3) rfl d_X3_fillChoices_80 3 rfl ?_
      refine aw_Vv 19 [.int x2, .int x3] [] d_X3_fillChoices_81 (cV_X3_spreadFrom (d + 1) 0 0) kc_3 (ws_19 w) tw_1368 rfl (rr0 (Nat.le_of_ble_eq_true rfl) (Nat.le_of_ble_eq_true rfl)) (Nat.le_of_ble_eq_true rfl) xs0 k (fun h11 kk => ?_)
      obtain ⟨w12, k⟩ := kk
      refine aw_iinc (v := (x3 + 1)) [(0, .ref 19), (1, .int x1), (2, .int x2), (3, .int (x3 + 1))] d_X3_fillChoices_84 3 rfl rfl (Nat.le_of_ble_eq_true rfl) rfl rfl ?_
      refine aw_goto (tgt := 58) d_X3_fillChoices_87 rfl ?_
      exact k
theorem t_X3_spreadFrom (d : Nat) (h : Hp_) (w : Wf h) (x1 : Int32) (x2 : Int32) (K : Hp_ → Prop) (k : vp_in ((x1 * 256) + x2) 2304 ∧ (vp_in (((x1 + 1) * 256) + x2) 2304 ∧ ((¬ (h_i h 88 ((((x1 + 1) * 256) + x2) : Int32).toNatClampNeg) = (h_i h 88 (((x1 * 256) + x2) : Int32).toNatClampNeg) → AW (m_X3_spreadFrom (d + 1) 0 0) 0 0 61 [(0, .ref 19), (1, .int x1), (2, .int x2), (3, .int (h_i h 88 (((x1 * 256) + x2) : Int32).toNatClampNeg)), (4, .int 0)] [] h (kV K)) ∧ ((h_i h 88 ((((x1 + 1) * 256) + x2) : Int32).toNatClampNeg) = (h_i h 88 (((x1 * 256) + x2) : Int32).toNatClampNeg) → vp_in x1 8 ∧ (vp_in x1 8 ∧ (vp_in (((x1 + 1) * 256) + x2) 2304 ∧ (AW (m_X3_spreadFrom (d + 1) 0 0) 0 0 61 [(0, .ref 19), (1, .int x1), (2, .int x2), (3, .int (h_i h 88 (((x1 * 256) + x2) : Int32).toNatClampNeg)), (4, .int 0)] [] (h_im (h_im h 90 x1.toNatClampNeg ((h_i h 90 x1.toNatClampNeg) ||| 256)) 89 ((((x1 + 1) * 256) + x2) : Int32).toNatClampNeg (vp_nar .boolean 1)) (kV K)))))))) : Cv (m_X3_spreadFrom (d + 1) 0 0) [.ref 19, .int x1, .int x2] h K := by
  refine Ct.of (fun _ _ _ => trivial) rfl (Nat.le_of_ble_eq_true rfl) ?_
  show AW (m_X3_spreadFrom (d + 1) 0 0) 0 0 0 [(0, .ref 19), (1, .int x1), (2, .int x2)] [] h (kV K)
  refine aw_aload_n (i := 0) rfl d_X3_spreadFrom_0 0 rfl ?_
  refine aw_getr (k0 := 7) kc_3 (ws_19 w) (Nat.le_of_ble_eq_true rfl) tw_330 d_X3_spreadFrom_1 rfl (wr_19_7 w) ?_
  refine aw_iload_n (i := 1) rfl d_X3_spreadFrom_4 1 rfl ?_
  refine aw_sipush (v := 256) d_X3_spreadFrom_5 is_256 ?_
  refine aw_imul d_X3_spreadFrom_8 ?_
  refine aw_iload_n (i := 2) rfl d_X3_spreadFrom_9 2 rfl ?_
  refine aw_iadd d_X3_spreadFrom_10 ?_
  obtain ⟨b1, k⟩ := k
  refine aw_iald (ws_88 w) b1 d_X3_spreadFrom_11 ?_
  refine aw_istore_n (i := 3) rfl [(0, .ref 19), (1, .int x1), (2, .int x2), (3, .int (h_i h 88 (((x1 * 256) + x2) : Int32).toNatClampNeg))] d_X3_spreadFrom_12 (Nat.le_of_ble_eq_true rfl) rfl rfl ?_
  refine aw_aload_n (i := 0) rfl d_X3_spreadFrom_13 0 rfl ?_
  refine aw_getr (k0 := 7) kc_3 (ws_19 w) (Nat.le_of_ble_eq_true rfl) tw_330 d_X3_spreadFrom_14 rfl (wr_19_7 w) ?_
  refine aw_iload_n (i := 1) rfl d_X3_spreadFrom_17 1 rfl ?_
  refine aw_iconst (v := 1) d_X3_spreadFrom_18 ic_1 ?_
  refine aw_iadd d_X3_spreadFrom_19 ?_
  refine aw_sipush (v := 256) d_X3_spreadFrom_20 is_256 ?_
  refine aw_imul d_X3_spreadFrom_23 ?_
  refine aw_iload_n (i := 2) rfl d_X3_spreadFrom_24 2 rfl ?_
  refine aw_iadd d_X3_spreadFrom_25 ?_
  obtain ⟨b2, k⟩ := k
  refine aw_iald (ws_88 w) b2 d_X3_spreadFrom_26 ?_
  refine aw_iload_n (i := 3) rfl d_X3_spreadFrom_27 3 rfl ?_
  refine aw_icmp_ne (tgt := 58) d_X3_spreadFrom_28 rfl (fun c3 => ?_) (fun c3 => ?_)
  · have k := k.1 c3
    refine aw_iconst (v := 0) d_X3_spreadFrom_58 ic_0 ?_
    refine aw_istore [(0, .ref 19), (1, .int x1), (2, .int x2), (3, .int (h_i h 88 (((x1 * 256) + x2) : Int32).toNatClampNeg)), (4, .int 0)] d_X3_spreadFrom_59 (Nat.le_of_ble_eq_true rfl) rfl rfl ?_
    exact k
  · have k := k.2 c3
    refine aw_aload_n (i := 0) rfl d_X3_spreadFrom_31 0 rfl ?_
    refine aw_getr (k0 := 9) kc_3 (ws_19 w) (Nat.le_of_ble_eq_true rfl) tw_332 d_X3_spreadFrom_32 rfl (wr_19_9 w) ?_
    refine aw_iload_n (i := 1) rfl d_X3_spreadFrom_35 1 rfl ?_
    refine aw_dup2 d_X3_spreadFrom_36 ⟨rfl, rfl⟩ ?_
    obtain ⟨b4, k⟩ := k
    refine aw_iald (ws_90 w) b4 d_X3_spreadFrom_37 ?_
    refine aw_sipush (v := 256) d_X3_spreadFrom_38 is_256 ?_
    refine aw_ior d_X3_spreadFrom_41 ?_
    obtain ⟨b5, k⟩ := k
    refine aw_iast (ws_90 w) b5 d_X3_spreadFrom_42 ?_
    refine aw_aload_n (i := 0) rfl d_X3_spreadFrom_43 0 rfl ?_
    refine aw_getr (k0 := 8) kc_3 (ws_19 w) (Nat.le_of_ble_eq_true rfl) tw_331 d_X3_spreadFrom_44 rfl (wr_19_8 w) ?_
    refine aw_iload_n (i := 1) rfl d_X3_spreadFrom_47 1 rfl ?_
    refine aw_iconst (v := 1) d_X3_spreadFrom_48 ic_1 ?_
    refine aw_iadd d_X3_spreadFrom_49 ?_
    refine aw_sipush (v := 256) d_X3_spreadFrom_50 is_256 ?_
    refine aw_imul d_X3_spreadFrom_53 ?_
    refine aw_iload_n (i := 2) rfl d_X3_spreadFrom_54 2 rfl ?_
    refine aw_iadd d_X3_spreadFrom_55 ?_
    refine aw_iconst (v := 1) d_X3_spreadFrom_56 ic_1 ?_
    obtain ⟨b6, k⟩ := k
    refine aw_zast (ws_89 w) b6 d_X3_spreadFrom_57 ?_
    refine aw_iconst (v := 0) d_X3_spreadFrom_58 ic_0 ?_
    refine aw_istore [(0, .ref 19), (1, .int x1), (2, .int x2), (3, .int (h_i h 88 (((x1 * 256) + x2) : Int32).toNatClampNeg)), (4, .int 0)] d_X3_spreadFrom_59 (Nat.le_of_ble_eq_true rfl) rfl rfl ?_
    exact k
theorem t_X3_spreadFrom_61 (d : Nat) (h : Hp_) (w : Wf h) (x1 : Int32) (x2 : Int32) (x3 : Int32) (x4 : Int32) (K : Hp_ → Prop) (k : ((h_i h 19 3) ≤ x4 → K h) ∧ (¬ (h_i h 19 3) ≤ x4 → Ci (m_X3_canJoin (d + 0) 0 0) [.ref 19, .int x1, .int x4, .int x2] h (fun r10 h8 => Wf h8 ∧ ((r10 = 0 → AW (m_X3_spreadFrom (d + 1) 0 0) 0 0 61 [(0, .ref 19), (1, .int x1), (2, .int x2), (3, .int x3), (4, .int (x4 + 1))] [] h8 (kV K)) ∧ (¬ r10 = 0 → Ci (m_X3_sumWith (d + 0) 0 0) [.ref 19, .int x1, .int x4, .int x2] h8 (fun r14 h12 => Wf h12 ∧ ((¬ r14 = x3 → AW (m_X3_spreadFrom (d + 1) 0 0) 0 0 61 [(0, .ref 19), (1, .int x1), (2, .int x2), (3, .int x3), (4, .int (x4 + 1))] [] h12 (kV K)) ∧ (r14 = x3 → vp_in x1 8 ∧ (vp_in x1 8 ∧ (vp_in (((x1 + 1) * 256) + (x2 ||| ((1 : Int32) <<< (x4 &&& 31)))) 2304 ∧ (AW (m_X3_spreadFrom (d + 1) 0 0) 0 0 61 [(0, .ref 19), (1, .int x1), (2, .int x2), (3, .int x3), (4, .int (x4 + 1))] [] (h_im (h_im h12 90 x1.toNatClampNeg ((h_i h12 90 x1.toNatClampNeg) ||| ((1 : Int32) <<< (x4 &&& 31)))) 89 ((((x1 + 1) * 256) + (x2 ||| ((1 : Int32) <<< (x4 &&& 31)))) : Int32).toNatClampNeg (vp_nar .boolean 1)) (kV K)))))))))))) : AW (m_X3_spreadFrom (d + 1) 0 0) 0 0 61 [(0, .ref 19), (1, .int x1), (2, .int x2), (3, .int x3), (4, .int x4)] [] h (kV K) := by
  refine aw_iload d_X3_spreadFrom_61 4 rfl ?_
  refine aw_aload_n (i := 0) rfl d_X3_spreadFrom_63 0 rfl ?_
  refine aw_geti (k0 := 3) kc_3 (ws_19 w) (Nat.le_of_ble_eq_true rfl) tw_325 d_X3_spreadFrom_64 rfl ?_
  refine aw_icmp_ge (tgt := 132) d_X3_spreadFrom_67 rfl (fun c7 => ?_) (fun c7 => ?_)
  · have k := k.1 c7
    exact aw_vret rfl d_X3_spreadFrom_132 ⟨Nat.le_refl _, Nat.le_refl _⟩ ⟨rfl, k⟩
  · have k := k.2 c7
    refine aw_aload_n (i := 0) rfl d_X3_spreadFrom_70 0 rfl ?_
    refine aw_iload_n (i := 1) rfl d_X3_spreadFrom_71 1 rfl ?_
    refine aw_iload d_X3_spreadFrom_72 4 rfl ?_
    refine aw_iload_n (i := 2) rfl d_X3_spreadFrom_74 2 rfl ?_
    refine aw_Vi 19 [.int x1, .int x4, .int x2] [] d_X3_spreadFrom_75 (cV_X3_canJoin (d + 0) 0 0) kc_3 (ws_19 w) tw_1355 rfl (rr0 (Nat.le_of_ble_eq_true rfl) (Nat.le_of_ble_eq_true rfl)) (Nat.le_of_ble_eq_true rfl) xs0 k (fun r10 h8 kk => ?_)
    obtain ⟨w9, k⟩ := kk
    refine aw_if_eq (tgt := 126) d_X3_spreadFrom_78 rfl (fun c11 => ?_) (fun c11 => ?_)
    · have k := k.1 c11
      refine aw_iinc (v := (x4 + 1)) [(0, .ref 19), (1, .int x1), (2, .int x2), (3, .int x3), (4, .int (x4 + 1))] d_X3_spreadFrom_126 4 rfl rfl (Nat.le_of_ble_eq_true rfl) rfl rfl ?_
      refine aw_goto (tgt := 61) d_X3_spreadFrom_129 rfl ?_
      exact k
    · have k := k.2 c11
      refine aw_aload_n (i := 0) rfl d_X3_spreadFrom_81 0 rfl ?_
      refine aw_iload_n (i := 1) rfl d_X3_spreadFrom_82 1 rfl ?_
      refine aw_iload d_X3_spreadFrom_83 4 rfl ?_
      refine aw_iload_n (i := 2) rfl d_X3_spreadFrom_85 2 rfl ?_
      refine aw_Vi 19 [.int x1, .int x4, .int x2] [] d_X3_spreadFrom_86 (cV_X3_sumWith (d + 0) 0 0) kc_3 (ws_19 w9) tw_1359 rfl (rr0 (Nat.le_of_ble_eq_true rfl) (Nat.le_of_ble_eq_true rfl)) (Nat.le_of_ble_eq_true rfl) xs0 k (fun r14 h12 kk => ?_)
      obtain ⟨w13, k⟩ := kk
      refine aw_iload_n (i := 3) rfl d_X3_spreadFrom_89 3 rfl ?_
      refine aw_icmp_ne (tgt := 126) d_X3_spreadFrom_90 rfl (fun c15 => ?_) (fun c15 => ?_)
      · have k := k.1 c15
        refine aw_iinc (v := (x4 + 1)) [(0, .ref 19), (1, .int x1), (2, .int x2), (3, .int x3), (4, .int (x4 + 1))] d_X3_spreadFrom_126 4 rfl rfl (Nat.le_of_ble_eq_true rfl) rfl rfl ?_
        refine aw_goto (tgt := 61) d_X3_spreadFrom_129 rfl ?_
        exact k
      · have k := k.2 c15
        refine aw_aload_n (i := 0) rfl d_X3_spreadFrom_93 0 rfl ?_
        refine aw_getr (k0 := 9) kc_3 (ws_19 w13) (Nat.le_of_ble_eq_true rfl) tw_332 d_X3_spreadFrom_94 rfl (wr_19_9 w13) ?_
        refine aw_iload_n (i := 1) rfl d_X3_spreadFrom_97 1 rfl ?_
        refine aw_dup2 d_X3_spreadFrom_98 ⟨rfl, rfl⟩ ?_
        obtain ⟨b16, k⟩ := k
        refine aw_iald (ws_90 w13) b16 d_X3_spreadFrom_99 ?_
        refine aw_iconst (v := 1) d_X3_spreadFrom_100 ic_1 ?_
        refine aw_iload d_X3_spreadFrom_101 4 rfl ?_
        refine aw_ishl d_X3_spreadFrom_103 ?_
        refine aw_ior d_X3_spreadFrom_104 ?_
        obtain ⟨b17, k⟩ := k
        refine aw_iast (ws_90 w13) b17 d_X3_spreadFrom_105 ?_
        refine aw_aload_n (i := 0) rfl d_X3_spreadFrom_106 0 rfl ?_
        refine aw_getr (k0 := 8) kc_3 (ws_19 w13) (Nat.le_of_ble_eq_true rfl) tw_331 d_X3_spreadFrom_107 rfl (wr_19_8 w13) ?_
        refine aw_iload_n (i := 1) rfl d_X3_spreadFrom_110 1 rfl ?_
        refine aw_iconst (v := 1) d_X3_spreadFrom_111 ic_1 ?_
        refine aw_iadd d_X3_spreadFrom_112 ?_
        refine aw_sipush (v := 256) d_X3_spreadFrom_113 is_256 ?_
        refine aw_imul d_X3_spreadFrom_116 ?_
        refine aw_iload_n (i := 2) rfl d_X3_spreadFrom_117 2 rfl ?_
        refine aw_iconst (v := 1) d_X3_spreadFrom_118 ic_1 ?_
        refine aw_iload d_X3_spreadFrom_119 4 rfl ?_
        refine aw_ishl d_X3_spreadFrom_121 ?_
        refine aw_ior d_X3_spreadFrom_122 ?_
        refine aw_iadd d_X3_spreadFrom_123 ?_
        refine aw_iconst (v := 1) d_X3_spreadFrom_124 ic_1 ?_
        obtain ⟨b18, k⟩ := k
        refine aw_zast (ws_89 w13) b18 d_X3_spreadFrom_125 ?_
        refine aw_iinc (v := (x4 + 1)) [(0, .ref 19), (1, .int x1), (2, .int x2), (3, .int x3), (4, .int (x4 + 1))] d_X3_spreadFrom_126 4 rfl rfl (Nat.le_of_ble_eq_true rfl) rfl rfl ?_
        refine aw_goto (tgt := 61) d_X3_spreadFrom_129 rfl ?_
        exact k
theorem t_X3_solve (d : Nat) (h : Hp_) (w : Wf h)  (K : Hp_ → Prop) (k : ((h_i h 19 5) = 0 → K h) ∧ (¬ (h_i h 19 5) = 0 → Cv (m_X3_fillGains (d + 1) 0 0) [.ref 19] h (fun h2 => Wf h2 ∧ (Cv (m_X3_fillBest (d + 1) 0 0) [.ref 19] h2 (fun h5 => Wf h5 ∧ (Cv (m_X3_fillChoices (d + 2) 0 0) [.ref 19] h5 (fun h8 => Wf h8 ∧ (Cv (m_X3_fillFirst (d + 1) 0 0) [.ref 19] h8 (fun h11 => Wf h11 ∧ (K (h_im h11 19 5 0))))))))))) : Cv (m_X3_solve (d + 3) 0 0) [.ref 19] h K := by
  refine Ct.of (fun _ _ _ => trivial) rfl (Nat.le_of_ble_eq_true rfl) ?_
  show AW (m_X3_solve (d + 3) 0 0) 0 0 0 [(0, .ref 19)] [] h (kV K)
  refine aw_aload_n (i := 0) rfl d_X3_solve_0 0 rfl ?_
  refine aw_geti (k0 := 5) kc_3 (ws_19 w) (Nat.le_of_ble_eq_true rfl) tw_328 d_X3_solve_1 rfl ?_
  refine aw_if_eq (tgt := 28) d_X3_solve_4 rfl (fun c1 => ?_) (fun c1 => ?_)
  · have k := k.1 c1
    exact aw_vret rfl d_X3_solve_28 ⟨Nat.le_refl _, Nat.le_refl _⟩ ⟨rfl, k⟩
  · have k := k.2 c1
    refine aw_aload_n (i := 0) rfl d_X3_solve_7 0 rfl ?_
    refine aw_Vv 19 [] [] d_X3_solve_8 (cV_X3_fillGains (d + 1) 0 0) kc_3 (ws_19 w) tw_1343 rfl (rr0 (Nat.le_of_ble_eq_true rfl) (Nat.le_of_ble_eq_true rfl)) (Nat.le_of_ble_eq_true rfl) xs0 k (fun h2 kk => ?_)
    obtain ⟨w3, k⟩ := kk
    refine aw_aload_n (i := 0) rfl d_X3_solve_11 0 rfl ?_
    refine aw_Vv 19 [] [] d_X3_solve_12 (cV_X3_fillBest (d + 1) 0 0) kc_3 (ws_19 w3) tw_1350 rfl (rr0 (Nat.le_of_ble_eq_true rfl) (Nat.le_of_ble_eq_true rfl)) (Nat.le_of_ble_eq_true rfl) xs0 k (fun h5 kk => ?_)
    obtain ⟨w6, k⟩ := kk
    refine aw_aload_n (i := 0) rfl d_X3_solve_15 0 rfl ?_
    refine aw_Vv 19 [] [] d_X3_solve_16 (cV_X3_fillChoices (d + 2) 0 0) kc_3 (ws_19 w6) tw_1364 rfl (rr0 (Nat.le_of_ble_eq_true rfl) (Nat.le_of_ble_eq_true rfl)) (Nat.le_of_ble_eq_true rfl) xs0 k (fun h8 kk => ?_)
    obtain ⟨w9, k⟩ := kk
    refine aw_aload_n (i := 0) rfl d_X3_solve_19 0 rfl ?_
    refine aw_Vv 19 [] [] d_X3_solve_20 (cV_X3_fillFirst (d + 1) 0 0) kc_3 (ws_19 w9) tw_1372 rfl (rr0 (Nat.le_of_ble_eq_true rfl) (Nat.le_of_ble_eq_true rfl)) (Nat.le_of_ble_eq_true rfl) xs0 k (fun h11 kk => ?_)
    obtain ⟨w12, k⟩ := kk
    refine aw_aload_n (i := 0) rfl d_X3_solve_23 0 rfl ?_
    refine aw_iconst (v := 0) d_X3_solve_24 ic_0 ?_
    refine aw_puti (k0 := 5) kc_3 (ws_19 w12) (Nat.le_of_ble_eq_true rfl) tw_328 d_X3_solve_25 rfl rfl ⟨rfl, rfl⟩ ?_
    exact aw_vret rfl d_X3_solve_28 ⟨Nat.le_refl _, Nat.le_refl _⟩ ⟨rfl, k⟩
theorem t_X3_bestSum (d : Nat) (h : Hp_) (w : Wf h)  (K : Int32 → Hp_ → Prop) (k : Cv (m_X3_solve (d + 3) 0 0) [.ref 19] h (fun h1 => Wf h1 ∧ (vp_in 0 2304 ∧ (K (h_i h1 88 (0 : Int32).toNatClampNeg) h1)))) : Ci (m_X3_bestSum (d + 4) 0 0) [.ref 19] h K := by
  refine Ct.of (fun _ _ _ => trivial) rfl (Nat.le_of_ble_eq_true rfl) ?_
  show AW (m_X3_bestSum (d + 4) 0 0) 0 0 0 [(0, .ref 19)] [] h (kI K)
  refine aw_aload_n (i := 0) rfl d_X3_bestSum_0 0 rfl ?_
  refine aw_Vv 19 [] [] d_X3_bestSum_1 (cV_X3_solve (d + 3) 0 0) kc_3 (ws_19 w) tw_1339 rfl (rr0 (Nat.le_of_ble_eq_true rfl) (Nat.le_of_ble_eq_true rfl)) (Nat.le_of_ble_eq_true rfl) xs0 k (fun h1 kk => ?_)
  obtain ⟨w2, k⟩ := kk
  refine aw_aload_n (i := 0) rfl d_X3_bestSum_4 0 rfl ?_
  refine aw_getr (k0 := 7) kc_3 (ws_19 w2) (Nat.le_of_ble_eq_true rfl) tw_330 d_X3_bestSum_5 rfl (wr_19_7 w2) ?_
  refine aw_iconst (v := 0) d_X3_bestSum_8 ic_0 ?_
  obtain ⟨b4, k⟩ := k
  refine aw_iald (ws_88 w2) b4 d_X3_bestSum_9 ?_
  exact aw_iret rfl d_X3_bestSum_10 ⟨Nat.le_refl _, Nat.le_refl _⟩ ⟨_, rfl, k⟩
theorem t_X11_joining (d : Nat) (h : Hp_) (w : Wf h)  (K : Int32 → Hp_ → Prop) (k : Ci (m_X3_bestSum (d + 4) 0 0) [.ref 19] h (fun r3 h1 => Wf h1 ∧ (K r3 h1))) : Ci (m_X11_joining (d + 5) 0 0) [.ref 0] h K := by
  refine Ct.of (fun _ _ _ => trivial) rfl (Nat.le_of_ble_eq_true rfl) ?_
  show AW (m_X11_joining (d + 5) 0 0) 0 0 0 [(0, .ref 0)] [] h (kI K)
  refine aw_aload_n (i := 0) rfl d_X11_joining_0 0 rfl ?_
  refine aw_getr (k0 := 11) kc_11 (ws_0 w) (Nat.le_of_ble_eq_true rfl) tw_498 d_X11_joining_1 rfl (wr_0_11 w) ?_
  refine aw_Vi 19 [] [] d_X11_joining_4 (cV_X3_bestSum (d + 4) 0 0) kc_3 (ws_19 w) tw_1335 rfl (rr0 (Nat.le_of_ble_eq_true rfl) (Nat.le_of_ble_eq_true rfl)) (Nat.le_of_ble_eq_true rfl) xs0 k (fun r3 h1 kk => ?_)
  obtain ⟨w2, k⟩ := kk
  exact aw_iret rfl d_X11_joining_7 ⟨Nat.le_refl _, Nat.le_refl _⟩ ⟨_, rfl, k⟩
theorem t_X12_like (d : Nat) (h : Hp_) (w : Wf h) (x1 : Int32) (x2 : Int32) (K : Int32 → Hp_ → Prop) (k : vp_in x1 8 ∧ (vp_in x2 8 ∧ (AW (m_X12_like (d + 0) 0 0) 0 0 21 [(3, .int (h_i h 278 x1.toNatClampNeg)), (4, .int (h_i h 279 x2.toNatClampNeg)), (5, .int 0), (6, .int 0)] [] h (kI K)))) : Ci (m_X12_like (d + 0) 0 0) [.ref 1, .int x1, .int x2] h K := by
  refine Ct.of (fun _ _ _ => trivial) rfl (Nat.le_of_ble_eq_true rfl) ?_
  show AW (m_X12_like (d + 0) 0 0) 0 0 0 [(0, .ref 1), (1, .int x1), (2, .int x2)] [] h (kI K)
  refine aw_aload_n (i := 0) rfl d_X12_like_0 0 rfl ?_
  refine aw_getr (k0 := 99) kc_12 (ws_1 w) (Nat.le_of_ble_eq_true rfl) tw_1841 d_X12_like_1 rfl (wr_1_99 w) ?_
  refine aw_iload_n (i := 1) rfl d_X12_like_4 1 rfl ?_
  obtain ⟨b1, k⟩ := k
  refine aw_iald (ws_278 w) b1 d_X12_like_5 ?_
  refine aw_istore_n (i := 3) rfl [(0, .ref 1), (1, .int x1), (2, .int x2), (3, .int (h_i h 278 x1.toNatClampNeg))] d_X12_like_6 (Nat.le_of_ble_eq_true rfl) rfl rfl ?_
  refine aw_aload_n (i := 0) rfl d_X12_like_7 0 rfl ?_
  refine aw_getr (k0 := 100) kc_12 (ws_1 w) (Nat.le_of_ble_eq_true rfl) tw_1842 d_X12_like_8 rfl (wr_1_100 w) ?_
  refine aw_iload_n (i := 2) rfl d_X12_like_11 2 rfl ?_
  obtain ⟨b2, k⟩ := k
  refine aw_iald (ws_279 w) b2 d_X12_like_12 ?_
  refine aw_istore [(0, .ref 1), (1, .int x1), (2, .int x2), (3, .int (h_i h 278 x1.toNatClampNeg)), (4, .int (h_i h 279 x2.toNatClampNeg))] d_X12_like_13 (Nat.le_of_ble_eq_true rfl) rfl rfl ?_
  refine aw_iconst (v := 0) d_X12_like_15 ic_0 ?_
  refine aw_istore [(0, .ref 1), (1, .int x1), (2, .int x2), (3, .int (h_i h 278 x1.toNatClampNeg)), (4, .int (h_i h 279 x2.toNatClampNeg)), (5, .int 0)] d_X12_like_16 (Nat.le_of_ble_eq_true rfl) rfl rfl ?_
  refine aw_iconst (v := 0) d_X12_like_18 ic_0 ?_
  refine aw_istore [(0, .ref 1), (1, .int x1), (2, .int x2), (3, .int (h_i h 278 x1.toNatClampNeg)), (4, .int (h_i h 279 x2.toNatClampNeg)), (5, .int 0), (6, .int 0)] d_X12_like_19 (Nat.le_of_ble_eq_true rfl) rfl rfl ?_
  exact aw_lvp [3, 4, 5, 6] [(3, .int (h_i h 278 x1.toNatClampNeg)), (4, .int (h_i h 279 x2.toNatClampNeg)), (5, .int 0), (6, .int 0)] rfl k
theorem t_X12_like_21 (d : Nat) (h : Hp_) (x3 : Int32) (x4 : Int32) (x5 : Int32) (x6 : Int32) (K : Int32 → Hp_ → Prop) (k : (5 ≤ x6 → K x5 h) ∧ (¬ 5 ≤ x6 → (¬ (x3 - x3 / 10 * 10) = (x4 - x4 / 10 * 10) → AW (m_X12_like (d + 0) 0 0) 0 0 21 [(3, .int (x3 / 10)), (4, .int (x4 / 10)), (5, .int (x5 + 0)), (6, .int (x6 + 1))] [] h (kI K)) ∧ ((x3 - x3 / 10 * 10) = (x4 - x4 / 10 * 10) → AW (m_X12_like (d + 0) 0 0) 0 0 21 [(3, .int (x3 / 10)), (4, .int (x4 / 10)), (5, .int (x5 + 1)), (6, .int (x6 + 1))] [] h (kI K)))) : AW (m_X12_like (d + 0) 0 0) 0 0 21 [(3, .int x3), (4, .int x4), (5, .int x5), (6, .int x6)] [] h (kI K) := by
  refine aw_iload d_X12_like_21 3 rfl ?_
  refine aw_iconst (v := 5) d_X12_like_23 ic_5 ?_
  refine aw_icmp_ge (tgt := 67) d_X12_like_24 rfl (fun c3 => ?_) (fun c3 => ?_)
  · have k := k.1 c3
    refine aw_iload d_X12_like_67 2 rfl ?_
    exact aw_iret rfl d_X12_like_69 ⟨Nat.le_refl _, Nat.le_refl _⟩ ⟨_, rfl, k⟩
  · have k := k.2 c3
    refine aw_iload d_X12_like_27 2 rfl ?_
    refine aw_iload_n (i := 3) rfl d_X12_like_29 0 rfl ?_
    refine aw_bipush (v := 10) d_X12_like_30 ib_10 ?_
    refine aw_irem d_X12_like_32 (by decide) ?_
    refine aw_iload d_X12_like_33 1 rfl ?_
    refine aw_bipush (v := 10) d_X12_like_35 ib_10 ?_
    refine aw_irem d_X12_like_37 (by decide) ?_
    refine aw_icmp_ne (tgt := 45) d_X12_like_38 rfl (fun c4 => ?_) (fun c4 => ?_)
    · have k := k.1 c4
      refine aw_iconst (v := 0) d_X12_like_45 ic_0 ?_
      refine aw_iadd d_X12_like_46 ?_
      refine aw_istore [(3, .int x3), (4, .int x4), (5, .int (x5 + 0)), (6, .int x6)] d_X12_like_47 (Nat.le_of_ble_eq_true rfl) rfl rfl ?_
      refine aw_iload_n (i := 3) rfl d_X12_like_49 0 rfl ?_
      refine aw_bipush (v := 10) d_X12_like_50 ib_10 ?_
      refine aw_idiv d_X12_like_52 (by decide) ?_
      refine aw_istore_n (i := 3) rfl [(3, .int (x3 / 10)), (4, .int x4), (5, .int (x5 + 0)), (6, .int x6)] d_X12_like_53 (Nat.le_of_ble_eq_true rfl) rfl rfl ?_
      refine aw_iload d_X12_like_54 1 rfl ?_
      refine aw_bipush (v := 10) d_X12_like_56 ib_10 ?_
      refine aw_idiv d_X12_like_58 (by decide) ?_
      refine aw_istore [(3, .int (x3 / 10)), (4, .int (x4 / 10)), (5, .int (x5 + 0)), (6, .int x6)] d_X12_like_59 (Nat.le_of_ble_eq_true rfl) rfl rfl ?_
      refine aw_iinc (v := (x6 + 1)) [(3, .int (x3 / 10)), (4, .int (x4 / 10)), (5, .int (x5 + 0)), (6, .int (x6 + 1))] d_X12_like_61 3 rfl rfl (Nat.le_of_ble_eq_true rfl) rfl rfl ?_
      refine aw_goto (tgt := 21) d_X12_like_64 rfl ?_
      exact k
    · have k := k.2 c4
      refine aw_iconst (v := 1) d_X12_like_41 ic_1 ?_
      refine aw_goto (tgt := 46) d_X12_like_42 rfl ?_
      refine aw_iadd d_X12_like_46 ?_
      refine aw_istore [(3, .int x3), (4, .int x4), (5, .int (x5 + 1)), (6, .int x6)] d_X12_like_47 (Nat.le_of_ble_eq_true rfl) rfl rfl ?_
      refine aw_iload_n (i := 3) rfl d_X12_like_49 0 rfl ?_
      refine aw_bipush (v := 10) d_X12_like_50 ib_10 ?_
      refine aw_idiv d_X12_like_52 (by decide) ?_
      refine aw_istore_n (i := 3) rfl [(3, .int (x3 / 10)), (4, .int x4), (5, .int (x5 + 1)), (6, .int x6)] d_X12_like_53 (Nat.le_of_ble_eq_true rfl) rfl rfl ?_
      refine aw_iload d_X12_like_54 1 rfl ?_
      refine aw_bipush (v := 10) d_X12_like_56 ib_10 ?_
      refine aw_idiv d_X12_like_58 (by decide) ?_
      refine aw_istore [(3, .int (x3 / 10)), (4, .int (x4 / 10)), (5, .int (x5 + 1)), (6, .int x6)] d_X12_like_59 (Nat.le_of_ble_eq_true rfl) rfl rfl ?_
      refine aw_iinc (v := (x6 + 1)) [(3, .int (x3 / 10)), (4, .int (x4 / 10)), (5, .int (x5 + 1)), (6, .int (x6 + 1))] d_X12_like_61 3 rfl rfl (Nat.le_of_ble_eq_true rfl) rfl rfl ?_
      refine aw_goto (tgt := 21) d_X12_like_64 rfl ?_
      exact k
theorem t_X12_bestFrom (d : Nat) (h : Hp_) (x1 : Int32) (x2 : Int32) (K : Int32 → Hp_ → Prop) (k : AW (m_X12_bestFrom (d + 1) 0 0) 0 0 2 [(0, .ref 1), (1, .int x1), (2, .int x2), (3, .int 0)] [] h (kI K)) : Ci (m_X12_bestFrom (d + 1) 0 0) [.ref 1, .int x1, .int x2] h K := by
  refine Ct.of (fun _ _ _ => trivial) rfl (Nat.le_of_ble_eq_true rfl) ?_
  show AW (m_X12_bestFrom (d + 1) 0 0) 0 0 0 [(0, .ref 1), (1, .int x1), (2, .int x2)] [] h (kI K)
  refine aw_iconst (v := 0) d_X12_bestFrom_0 ic_0 ?_
  refine aw_istore_n (i := 3) rfl [(0, .ref 1), (1, .int x1), (2, .int x2), (3, .int 0)] d_X12_bestFrom_1 (Nat.le_of_ble_eq_true rfl) rfl rfl ?_
  exact k
theorem t_X12_bestFrom_2 (d : Nat) (h : Hp_) (w : Wf h) (x1 : Int32) (x2 : Int32) (x3 : Int32) (K : Int32 → Hp_ → Prop) (k : (256 ≤ x3 → AW (m_X12_bestFrom (d + 1) 0 0) 0 0 38 [(0, .ref 1), (1, .int x1), (2, .int x2), (3, .int ((h_i h 1 101) - 1))] [] h (kI K)) ∧ (¬ 256 ≤ x3 → vp_in ((256 * (h_i h 1 101)) + x3) 2304 ∧ (AW (m_X12_bestFrom (d + 1) 0 0) 0 0 2 [(0, .ref 1), (1, .int x1), (2, .int x2), (3, .int (x3 + 1))] [] (h_im h 280 (((256 * (h_i h 1 101)) + x3) : Int32).toNatClampNeg 0) (kI K)))) : AW (m_X12_bestFrom (d + 1) 0 0) 0 0 2 [(0, .ref 1), (1, .int x1), (2, .int x2), (3, .int x3)] [] h (kI K) := by
  refine aw_iload_n (i := 3) rfl d_X12_bestFrom_2 3 rfl ?_
  refine aw_sipush (v := 256) d_X12_bestFrom_3 is_256 ?_
  refine aw_icmp_ge (tgt := 31) d_X12_bestFrom_6 rfl (fun c1 => ?_) (fun c1 => ?_)
  · have k := k.1 c1
    refine aw_aload_n (i := 0) rfl d_X12_bestFrom_31 0 rfl ?_
    refine aw_geti (k0 := 101) kc_12 (ws_1 w) (Nat.le_of_ble_eq_true rfl) tw_1843 d_X12_bestFrom_32 rfl ?_
    refine aw_iconst (v := 1) d_X12_bestFrom_35 ic_1 ?_
    refine aw_isub d_X12_bestFrom_36 ?_
    refine aw_istore_n (i := 3) rfl [(0, .ref 1), (1, .int x1), (2, .int x2), (3, .int ((h_i h 1 101) - 1))] d_X12_bestFrom_37 (Nat.le_of_ble_eq_true rfl) rfl rfl ?_
    exact k
  · have k := k.2 c1
    refine aw_aload_n (i := 0) rfl d_X12_bestFrom_9 0 rfl ?_
    refine aw_getr (k0 := 104) kc_12 (ws_1 w) (Nat.le_of_ble_eq_true rfl) tw_1846 d_X12_bestFrom_10 rfl (wr_1_104 w) ?_
    refine aw_sipush (v := 256) d_X12_bestFrom_13 is_256 ?_
    refine aw_aload_n (i := 0) rfl d_X12_bestFrom_16 0 rfl ?_
    refine aw_geti (k0 := 101) kc_12 (ws_1 w) (Nat.le_of_ble_eq_true rfl) tw_1843 d_X12_bestFrom_17 rfl ?_
    refine aw_imul d_X12_bestFrom_20 ?_
    refine aw_iload_n (i := 3) rfl d_X12_bestFrom_21 3 rfl ?_
    refine aw_iadd d_X12_bestFrom_22 ?_
    refine aw_iconst (v := 0) d_X12_bestFrom_23 ic_0 ?_
    obtain ⟨b2, k⟩ := k
    refine aw_iast (ws_280 w) b2 d_X12_bestFrom_24 ?_
    refine aw_iinc (v := (x3 + 1)) [(0, .ref 1), (1, .int x1), (2, .int x2), (3, .int (x3 + 1))] d_X12_bestFrom_25 3 rfl rfl (Nat.le_of_ble_eq_true rfl) rfl rfl ?_
    refine aw_goto (tgt := 2) d_X12_bestFrom_28 rfl ?_
    exact k
theorem t_X12_bestFrom_38 (d : Nat) (h : Hp_) (w : Wf h) (x1 : Int32) (x2 : Int32) (x3 : Int32) (K : Int32 → Hp_ → Prop) (k : (x3 < 0 → vp_in 0 2304 ∧ (K (h_i h 280 (0 : Int32).toNatClampNeg) h)) ∧ (¬ x3 < 0 → AW (m_X12_bestFrom (d + 1) 0 0) 0 0 45 [(0, .ref 1), (1, .int x1), (2, .int x2), (3, .int x3), (4, .int 0)] [] h (kI K))) : AW (m_X12_bestFrom (d + 1) 0 0) 0 0 38 [(0, .ref 1), (1, .int x1), (2, .int x2), (3, .int x3)] [] h (kI K) := by
  refine aw_iload_n (i := 3) rfl d_X12_bestFrom_38 3 rfl ?_
  refine aw_if_lt (tgt := 201) d_X12_bestFrom_39 rfl (fun c3 => ?_) (fun c3 => ?_)
  · have k := k.1 c3
    refine aw_aload_n (i := 0) rfl d_X12_bestFrom_201 0 rfl ?_
    refine aw_getr (k0 := 104) kc_12 (ws_1 w) (Nat.le_of_ble_eq_true rfl) tw_1846 d_X12_bestFrom_202 rfl (wr_1_104 w) ?_
    refine aw_iconst (v := 0) d_X12_bestFrom_205 ic_0 ?_
    obtain ⟨b4, k⟩ := k
    refine aw_iald (ws_280 w) b4 d_X12_bestFrom_206 ?_
    exact aw_iret rfl d_X12_bestFrom_207 ⟨Nat.le_refl _, Nat.le_refl _⟩ ⟨_, rfl, k⟩
  · have k := k.2 c3
    refine aw_iconst (v := 0) d_X12_bestFrom_42 ic_0 ?_
    refine aw_istore [(0, .ref 1), (1, .int x1), (2, .int x2), (3, .int x3), (4, .int 0)] d_X12_bestFrom_43 (Nat.le_of_ble_eq_true rfl) rfl rfl ?_
    exact k
theorem t_X12_bestFrom_45 (d : Nat) (h : Hp_) (w : Wf h) (x1 : Int32) (x2 : Int32) (x3 : Int32) (x4 : Int32) (K : Int32 → Hp_ → Prop) (k : (256 ≤ x4 → AW (m_X12_bestFrom (d + 1) 0 0) 0 0 38 [(0, .ref 1), (1, .int x1), (2, .int x2), (3, .int (x3 + (-1)))] [] h (kI K)) ∧ (¬ 256 ≤ x4 → (¬ x3 = x1 → vp_in ((256 * (x3 + 1)) + x4) 2304 ∧ (AW (m_X12_bestFrom (d + 1) 0 0) 0 0 89 [(0, .ref 1), (1, .int x1), (2, .int x2), (3, .int x3), (4, .int x4), (5, .int (h_i h 280 (((256 * (x3 + 1)) + x4) : Int32).toNatClampNeg)), (6, .int 0)] [] h (kI K))) ∧ (x3 = x1 → (¬ x2 = (-1) → AW (m_X12_bestFrom (d + 1) 0 0) 0 0 89 [(0, .ref 1), (1, .int x1), (2, .int x2), (3, .int x3), (4, .int x4), (5, .int (-1000)), (6, .int 0)] [] h (kI K)) ∧ (x2 = (-1) → vp_in ((256 * (x3 + 1)) + x4) 2304 ∧ (AW (m_X12_bestFrom (d + 1) 0 0) 0 0 89 [(0, .ref 1), (1, .int x1), (2, .int x2), (3, .int x3), (4, .int x4), (5, .int (h_i h 280 (((256 * (x3 + 1)) + x4) : Int32).toNatClampNeg)), (6, .int 0)] [] h (kI K)))))) : AW (m_X12_bestFrom (d + 1) 0 0) 0 0 45 [(0, .ref 1), (1, .int x1), (2, .int x2), (3, .int x3), (4, .int x4)] [] h (kI K) := by
  refine aw_iload d_X12_bestFrom_45 4 rfl ?_
  refine aw_sipush (v := 256) d_X12_bestFrom_47 is_256 ?_
  refine aw_icmp_ge (tgt := 195) d_X12_bestFrom_50 rfl (fun c5 => ?_) (fun c5 => ?_)
  · have k := k.1 c5
    refine aw_iinc (v := (x3 + (-1))) [(0, .ref 1), (1, .int x1), (2, .int x2), (3, .int (x3 + (-1))), (4, .int x4)] d_X12_bestFrom_195 3 rfl rfl (Nat.le_of_ble_eq_true rfl) rfl rfl ?_
    refine aw_goto (tgt := 38) d_X12_bestFrom_198 rfl ?_
    exact aw_lvp [0, 1, 2, 3] [(0, .ref 1), (1, .int x1), (2, .int x2), (3, .int (x3 + (-1)))] rfl k
  · have k := k.2 c5
    refine aw_iload_n (i := 3) rfl d_X12_bestFrom_53 3 rfl ?_
    refine aw_iload_n (i := 1) rfl d_X12_bestFrom_54 1 rfl ?_
    refine aw_icmp_ne (tgt := 63) d_X12_bestFrom_55 rfl (fun c6 => ?_) (fun c6 => ?_)
    · have k := k.1 c6
      refine aw_aload_n (i := 0) rfl d_X12_bestFrom_63 0 rfl ?_
      refine aw_getr (k0 := 104) kc_12 (ws_1 w) (Nat.le_of_ble_eq_true rfl) tw_1846 d_X12_bestFrom_64 rfl (wr_1_104 w) ?_
      refine aw_sipush (v := 256) d_X12_bestFrom_67 is_256 ?_
      refine aw_iload_n (i := 3) rfl d_X12_bestFrom_70 3 rfl ?_
      refine aw_iconst (v := 1) d_X12_bestFrom_71 ic_1 ?_
      refine aw_iadd d_X12_bestFrom_72 ?_
      refine aw_imul d_X12_bestFrom_73 ?_
      refine aw_iload d_X12_bestFrom_74 4 rfl ?_
      refine aw_iadd d_X12_bestFrom_76 ?_
      obtain ⟨b7, k⟩ := k
      refine aw_iald (ws_280 w) b7 d_X12_bestFrom_77 ?_
      refine aw_goto (tgt := 84) d_X12_bestFrom_78 rfl ?_
      refine aw_istore [(0, .ref 1), (1, .int x1), (2, .int x2), (3, .int x3), (4, .int x4), (5, .int (h_i h 280 (((256 * (x3 + 1)) + x4) : Int32).toNatClampNeg))] d_X12_bestFrom_84 (Nat.le_of_ble_eq_true rfl) rfl rfl ?_
      refine aw_iconst (v := 0) d_X12_bestFrom_86 ic_0 ?_
      refine aw_istore [(0, .ref 1), (1, .int x1), (2, .int x2), (3, .int x3), (4, .int x4), (5, .int (h_i h 280 (((256 * (x3 + 1)) + x4) : Int32).toNatClampNeg)), (6, .int 0)] d_X12_bestFrom_87 (Nat.le_of_ble_eq_true rfl) rfl rfl ?_
      exact k
    · have k := k.2 c6
      refine aw_iload_n (i := 2) rfl d_X12_bestFrom_58 2 rfl ?_
      refine aw_iconst (v := (-1)) d_X12_bestFrom_59 ic_m1 ?_
      refine aw_icmp_ne (tgt := 81) d_X12_bestFrom_60 rfl (fun c8 => ?_) (fun c8 => ?_)
      · have k := k.1 c8
        refine aw_sipush (v := (-1000)) d_X12_bestFrom_81 is_m1000 ?_
        refine aw_istore [(0, .ref 1), (1, .int x1), (2, .int x2), (3, .int x3), (4, .int x4), (5, .int (-1000))] d_X12_bestFrom_84 (Nat.le_of_ble_eq_true rfl) rfl rfl ?_
        refine aw_iconst (v := 0) d_X12_bestFrom_86 ic_0 ?_
        refine aw_istore [(0, .ref 1), (1, .int x1), (2, .int x2), (3, .int x3), (4, .int x4), (5, .int (-1000)), (6, .int 0)] d_X12_bestFrom_87 (Nat.le_of_ble_eq_true rfl) rfl rfl ?_
        exact k
      · have k := k.2 c8
        refine aw_aload_n (i := 0) rfl d_X12_bestFrom_63 0 rfl ?_
        refine aw_getr (k0 := 104) kc_12 (ws_1 w) (Nat.le_of_ble_eq_true rfl) tw_1846 d_X12_bestFrom_64 rfl (wr_1_104 w) ?_
        refine aw_sipush (v := 256) d_X12_bestFrom_67 is_256 ?_
        refine aw_iload_n (i := 3) rfl d_X12_bestFrom_70 3 rfl ?_
        refine aw_iconst (v := 1) d_X12_bestFrom_71 ic_1 ?_
        refine aw_iadd d_X12_bestFrom_72 ?_
        refine aw_imul d_X12_bestFrom_73 ?_
        refine aw_iload d_X12_bestFrom_74 4 rfl ?_
        refine aw_iadd d_X12_bestFrom_76 ?_
        obtain ⟨b9, k⟩ := k
        refine aw_iald (ws_280 w) b9 d_X12_bestFrom_77 ?_
        refine aw_goto (tgt := 84) d_X12_bestFrom_78 rfl ?_
        refine aw_istore [(0, .ref 1), (1, .int x1), (2, .int x2), (3, .int x3), (4, .int x4), (5, .int (h_i h 280 (((256 * (x3 + 1)) + x4) : Int32).toNatClampNeg))] d_X12_bestFrom_84 (Nat.le_of_ble_eq_true rfl) rfl rfl ?_
        refine aw_iconst (v := 0) d_X12_bestFrom_86 ic_0 ?_
        refine aw_istore [(0, .ref 1), (1, .int x1), (2, .int x2), (3, .int x3), (4, .int x4), (5, .int (h_i h 280 (((256 * (x3 + 1)) + x4) : Int32).toNatClampNeg)), (6, .int 0)] d_X12_bestFrom_87 (Nat.le_of_ble_eq_true rfl) rfl rfl ?_
        exact k
theorem t_X12_bestFrom_89 (d : Nat) (h : Hp_) (w : Wf h) (x1 : Int32) (x2 : Int32) (x3 : Int32) (x4 : Int32) (x5 : Int32) (x6 : Int32) (K : Int32 → Hp_ → Prop) (k : ((h_i h 1 102) ≤ x6 → vp_in ((256 * x3) + x4) 2304 ∧ (AW (m_X12_bestFrom (d + 1) 0 0) 0 0 45 [(0, .ref 1), (1, .int x1), (2, .int x2), (3, .int x3), (4, .int (x4 + 1))] [] (h_im h 280 (((256 * x3) + x4) : Int32).toNatClampNeg x5) (kI K))) ∧ (¬ (h_i h 1 102) ≤ x6 → (¬ ((x4 >>> (x6 &&& 31)) &&& 1) = 0 → AW (m_X12_bestFrom (d + 1) 0 0) 0 0 89 [(0, .ref 1), (1, .int x1), (2, .int x2), (3, .int x3), (4, .int x4), (5, .int x5), (6, .int (x6 + 1))] [] h (kI K)) ∧ (((x4 >>> (x6 &&& 31)) &&& 1) = 0 → Ci (m_X12_like (d + 0) 0 0) [.ref 1, .int x3, .int x6] h (fun r15 h13 => Wf h13 ∧ ((r15 < (h_i h13 1 103) → AW (m_X12_bestFrom (d + 1) 0 0) 0 0 89 [(0, .ref 1), (1, .int x1), (2, .int x2), (3, .int x3), (4, .int x4), (5, .int x5), (6, .int (x6 + 1))] [] h13 (kI K)) ∧ (¬ r15 < (h_i h13 1 103) → (¬ x3 = x1 → Ci (m_X12_like (d + 0) 0 0) [.ref 1, .int x3, .int x6] h13 (fun r20 h18 => Wf h18 ∧ (vp_in ((256 * (x3 + 1)) + (x4 ||| ((1 : Int32) <<< (x6 &&& 31)))) 2304 ∧ (AW (m_X12_bestFrom (d + 1) 0 0) 0 0 89 [(0, .ref 1), (1, .int x1), (2, .int x2), (3, .int x3), (4, .int x4), (5, .int (if x5 < (r20 + (h_i h18 280 (((256 * (x3 + 1)) + (x4 ||| ((1 : Int32) <<< (x6 &&& 31)))) : Int32).toNatClampNeg)) then (r20 + (h_i h18 280 (((256 * (x3 + 1)) + (x4 ||| ((1 : Int32) <<< (x6 &&& 31)))) : Int32).toNatClampNeg)) else x5)), (6, .int (x6 + 1))] [] h18 (kI K))))) ∧ (x3 = x1 → (¬ x2 = x6 → AW (m_X12_bestFrom (d + 1) 0 0) 0 0 89 [(0, .ref 1), (1, .int x1), (2, .int x2), (3, .int x3), (4, .int x4), (5, .int x5), (6, .int (x6 + 1))] [] h13 (kI K)) ∧ (x2 = x6 → Ci (m_X12_like (d + 0) 0 0) [.ref 1, .int x3, .int x6] h13 (fun r25 h23 => Wf h23 ∧ (vp_in ((256 * (x3 + 1)) + (x4 ||| ((1 : Int32) <<< (x6 &&& 31)))) 2304 ∧ (AW (m_X12_bestFrom (d + 1) 0 0) 0 0 89 [(0, .ref 1), (1, .int x1), (2, .int x2), (3, .int x3), (4, .int x4), (5, .int (if x5 < (r25 + (h_i h23 280 (((256 * (x3 + 1)) + (x4 ||| ((1 : Int32) <<< (x6 &&& 31)))) : Int32).toNatClampNeg)) then (r25 + (h_i h23 280 (((256 * (x3 + 1)) + (x4 ||| ((1 : Int32) <<< (x6 &&& 31)))) : Int32).toNatClampNeg)) else x5)), (6, .int (x6 + 1))] [] h23 (kI K)))))))))))) : AW (m_X12_bestFrom (d + 1) 0 0) 0 0 89 [(0, .ref 1), (1, .int x1), (2, .int x2), (3, .int x3), (4, .int x4), (5, .int x5), (6, .int x6)] [] h (kI K) := by
  refine aw_iload d_X12_bestFrom_89 6 rfl ?_
  refine aw_aload_n (i := 0) rfl d_X12_bestFrom_91 0 rfl ?_
  refine aw_geti (k0 := 102) kc_12 (ws_1 w) (Nat.le_of_ble_eq_true rfl) tw_1844 d_X12_bestFrom_92 rfl ?_
  refine aw_icmp_ge (tgt := 174) d_X12_bestFrom_95 rfl (fun c10 => ?_) (fun c10 => ?_)
  · have k := k.1 c10
    refine aw_aload_n (i := 0) rfl d_X12_bestFrom_174 0 rfl ?_
    refine aw_getr (k0 := 104) kc_12 (ws_1 w) (Nat.le_of_ble_eq_true rfl) tw_1846 d_X12_bestFrom_175 rfl (wr_1_104 w) ?_
    refine aw_sipush (v := 256) d_X12_bestFrom_178 is_256 ?_
    refine aw_iload_n (i := 3) rfl d_X12_bestFrom_181 3 rfl ?_
    refine aw_imul d_X12_bestFrom_182 ?_
    refine aw_iload d_X12_bestFrom_183 4 rfl ?_
    refine aw_iadd d_X12_bestFrom_185 ?_
    refine aw_iload d_X12_bestFrom_186 5 rfl ?_
    obtain ⟨b11, k⟩ := k
    refine aw_iast (ws_280 w) b11 d_X12_bestFrom_188 ?_
    refine aw_iinc (v := (x4 + 1)) [(0, .ref 1), (1, .int x1), (2, .int x2), (3, .int x3), (4, .int (x4 + 1)), (5, .int x5), (6, .int x6)] d_X12_bestFrom_189 4 rfl rfl (Nat.le_of_ble_eq_true rfl) rfl rfl ?_
    refine aw_goto (tgt := 45) d_X12_bestFrom_192 rfl ?_
    exact aw_lvp [0, 1, 2, 3, 4] [(0, .ref 1), (1, .int x1), (2, .int x2), (3, .int x3), (4, .int (x4 + 1))] rfl k
  · have k := k.2 c10
    refine aw_iload d_X12_bestFrom_98 4 rfl ?_
    refine aw_iload d_X12_bestFrom_100 6 rfl ?_
    refine aw_ishr d_X12_bestFrom_102 ?_
    refine aw_iconst (v := 1) d_X12_bestFrom_103 ic_1 ?_
    refine aw_iand d_X12_bestFrom_104 ?_
    refine aw_if_ne (tgt := 168) d_X12_bestFrom_105 rfl (fun c12 => ?_) (fun c12 => ?_)
    · have k := k.1 c12
      refine aw_iinc (v := (x6 + 1)) [(0, .ref 1), (1, .int x1), (2, .int x2), (3, .int x3), (4, .int x4), (5, .int x5), (6, .int (x6 + 1))] d_X12_bestFrom_168 6 rfl rfl (Nat.le_of_ble_eq_true rfl) rfl rfl ?_
      refine aw_goto (tgt := 89) d_X12_bestFrom_171 rfl ?_
      exact k
    · have k := k.2 c12
      refine aw_aload_n (i := 0) rfl d_X12_bestFrom_108 0 rfl ?_
      refine aw_iload_n (i := 3) rfl d_X12_bestFrom_109 3 rfl ?_
      refine aw_iload d_X12_bestFrom_110 6 rfl ?_
      refine aw_Vi 1 [.int x3, .int x6] [] d_X12_bestFrom_112 (cV_X12_like (d + 0) 0 0) kc_12 (ws_1 w) tw_2570 rfl (rr0 (Nat.le_of_ble_eq_true rfl) (Nat.le_of_ble_eq_true rfl)) (Nat.le_of_ble_eq_true rfl) xs0 k (fun r15 h13 kk => ?_)
      obtain ⟨w14, k⟩ := kk
      refine aw_aload_n (i := 0) rfl d_X12_bestFrom_115 0 rfl ?_
      refine aw_geti (k0 := 103) kc_12 (ws_1 w14) (Nat.le_of_ble_eq_true rfl) tw_1845 d_X12_bestFrom_116 rfl ?_
      refine aw_icmp_lt (tgt := 168) d_X12_bestFrom_119 rfl (fun c16 => ?_) (fun c16 => ?_)
      · have k := k.1 c16
        refine aw_iinc (v := (x6 + 1)) [(0, .ref 1), (1, .int x1), (2, .int x2), (3, .int x3), (4, .int x4), (5, .int x5), (6, .int (x6 + 1))] d_X12_bestFrom_168 6 rfl rfl (Nat.le_of_ble_eq_true rfl) rfl rfl ?_
        refine aw_goto (tgt := 89) d_X12_bestFrom_171 rfl ?_
        exact k
      · have k := k.2 c16
        refine aw_iload_n (i := 3) rfl d_X12_bestFrom_122 3 rfl ?_
        refine aw_iload_n (i := 1) rfl d_X12_bestFrom_123 1 rfl ?_
        refine aw_icmp_ne (tgt := 133) d_X12_bestFrom_124 rfl (fun c17 => ?_) (fun c17 => ?_)
        · have k := k.1 c17
          refine aw_iload d_X12_bestFrom_133 5 rfl ?_
          refine aw_aload_n (i := 0) rfl d_X12_bestFrom_135 0 rfl ?_
          refine aw_iload_n (i := 3) rfl d_X12_bestFrom_136 3 rfl ?_
          refine aw_iload d_X12_bestFrom_137 6 rfl ?_
          refine aw_Vi 1 [.int x3, .int x6] [.int x5] d_X12_bestFrom_139 (cV_X12_like (d + 0) 0 0) kc_12 (ws_1 w14) tw_2570 rfl (rr0 (Nat.le_of_ble_eq_true rfl) (Nat.le_of_ble_eq_true rfl)) (Nat.le_of_ble_eq_true rfl) xs0 k (fun r20 h18 kk => ?_)
          obtain ⟨w19, k⟩ := kk
          refine aw_aload_n (i := 0) rfl d_X12_bestFrom_142 0 rfl ?_
          refine aw_getr (k0 := 104) kc_12 (ws_1 w19) (Nat.le_of_ble_eq_true rfl) tw_1846 d_X12_bestFrom_143 rfl (wr_1_104 w19) ?_
          refine aw_sipush (v := 256) d_X12_bestFrom_146 is_256 ?_
          refine aw_iload_n (i := 3) rfl d_X12_bestFrom_149 3 rfl ?_
          refine aw_iconst (v := 1) d_X12_bestFrom_150 ic_1 ?_
          refine aw_iadd d_X12_bestFrom_151 ?_
          refine aw_imul d_X12_bestFrom_152 ?_
          refine aw_iload d_X12_bestFrom_153 4 rfl ?_
          refine aw_iconst (v := 1) d_X12_bestFrom_155 ic_1 ?_
          refine aw_iload d_X12_bestFrom_156 6 rfl ?_
          refine aw_ishl d_X12_bestFrom_158 ?_
          refine aw_ior d_X12_bestFrom_159 ?_
          refine aw_iadd d_X12_bestFrom_160 ?_
          obtain ⟨b21, k⟩ := k
          refine aw_iald (ws_280 w19) b21 d_X12_bestFrom_161 ?_
          refine aw_iadd d_X12_bestFrom_162 ?_
          refine aw_mmax d_X12_bestFrom_163 tw_2470 (show 1 ≤ (d + 1) by omega) (Nat.le_trans (Nat.le_of_ble_eq_true rfl) (show 100 ≤ 100 * (d + 1) by omega)) ⟨Nat.le_refl _, Nat.le_refl _⟩ ?_
          refine aw_istore [(0, .ref 1), (1, .int x1), (2, .int x2), (3, .int x3), (4, .int x4), (5, .int (if x5 < (r20 + (h_i h18 280 (((256 * (x3 + 1)) + (x4 ||| ((1 : Int32) <<< (x6 &&& 31)))) : Int32).toNatClampNeg)) then (r20 + (h_i h18 280 (((256 * (x3 + 1)) + (x4 ||| ((1 : Int32) <<< (x6 &&& 31)))) : Int32).toNatClampNeg)) else x5)), (6, .int x6)] d_X12_bestFrom_166 (Nat.le_of_ble_eq_true rfl) rfl rfl ?_
          refine aw_iinc (v := (x6 + 1)) [(0, .ref 1), (1, .int x1), (2, .int x2), (3, .int x3), (4, .int x4), (5, .int (if x5 < (r20 + (h_i h18 280 (((256 * (x3 + 1)) + (x4 ||| ((1 : Int32) <<< (x6 &&& 31)))) : Int32).toNatClampNeg)) then (r20 + (h_i h18 280 (((256 * (x3 + 1)) + (x4 ||| ((1 : Int32) <<< (x6 &&& 31)))) : Int32).toNatClampNeg)) else x5)), (6, .int (x6 + 1))] d_X12_bestFrom_168 6 rfl rfl (Nat.le_of_ble_eq_true rfl) rfl rfl ?_
          refine aw_goto (tgt := 89) d_X12_bestFrom_171 rfl ?_
          exact k
        · have k := k.2 c17
          refine aw_iload_n (i := 2) rfl d_X12_bestFrom_127 2 rfl ?_
          refine aw_iload d_X12_bestFrom_128 6 rfl ?_
          refine aw_icmp_ne (tgt := 168) d_X12_bestFrom_130 rfl (fun c22 => ?_) (fun c22 => ?_)
          · have k := k.1 c22
            refine aw_iinc (v := (x6 + 1)) [(0, .ref 1), (1, .int x1), (2, .int x2), (3, .int x3), (4, .int x4), (5, .int x5), (6, .int (x6 + 1))] d_X12_bestFrom_168 6 rfl rfl (Nat.le_of_ble_eq_true rfl) rfl rfl ?_
            refine aw_goto (tgt := 89) d_X12_bestFrom_171 rfl ?_
            exact k
          · have k := k.2 c22
            refine aw_iload d_X12_bestFrom_133 5 rfl ?_
            refine aw_aload_n (i := 0) rfl d_X12_bestFrom_135 0 rfl ?_
            refine aw_iload_n (i := 3) rfl d_X12_bestFrom_136 3 rfl ?_
            refine aw_iload d_X12_bestFrom_137 6 rfl ?_
            refine aw_Vi 1 [.int x3, .int x6] [.int x5] d_X12_bestFrom_139 (cV_X12_like (d + 0) 0 0) kc_12 (ws_1 w14) tw_2570 rfl (rr0 (Nat.le_of_ble_eq_true rfl) (Nat.le_of_ble_eq_true rfl)) (Nat.le_of_ble_eq_true rfl) xs0 k (fun r25 h23 kk => ?_)
            obtain ⟨w24, k⟩ := kk
            refine aw_aload_n (i := 0) rfl d_X12_bestFrom_142 0 rfl ?_
            refine aw_getr (k0 := 104) kc_12 (ws_1 w24) (Nat.le_of_ble_eq_true rfl) tw_1846 d_X12_bestFrom_143 rfl (wr_1_104 w24) ?_
            refine aw_sipush (v := 256) d_X12_bestFrom_146 is_256 ?_
            refine aw_iload_n (i := 3) rfl d_X12_bestFrom_149 3 rfl ?_
            refine aw_iconst (v := 1) d_X12_bestFrom_150 ic_1 ?_
            refine aw_iadd d_X12_bestFrom_151 ?_
            refine aw_imul d_X12_bestFrom_152 ?_
            refine aw_iload d_X12_bestFrom_153 4 rfl ?_
            refine aw_iconst (v := 1) d_X12_bestFrom_155 ic_1 ?_
            refine aw_iload d_X12_bestFrom_156 6 rfl ?_
            refine aw_ishl d_X12_bestFrom_158 ?_
            refine aw_ior d_X12_bestFrom_159 ?_
            refine aw_iadd d_X12_bestFrom_160 ?_
            obtain ⟨b26, k⟩ := k
            refine aw_iald (ws_280 w24) b26 d_X12_bestFrom_161 ?_
            refine aw_iadd d_X12_bestFrom_162 ?_
            refine aw_mmax d_X12_bestFrom_163 tw_2470 (show 1 ≤ (d + 1) by omega) (Nat.le_trans (Nat.le_of_ble_eq_true rfl) (show 100 ≤ 100 * (d + 1) by omega)) ⟨Nat.le_refl _, Nat.le_refl _⟩ ?_
            refine aw_istore [(0, .ref 1), (1, .int x1), (2, .int x2), (3, .int x3), (4, .int x4), (5, .int (if x5 < (r25 + (h_i h23 280 (((256 * (x3 + 1)) + (x4 ||| ((1 : Int32) <<< (x6 &&& 31)))) : Int32).toNatClampNeg)) then (r25 + (h_i h23 280 (((256 * (x3 + 1)) + (x4 ||| ((1 : Int32) <<< (x6 &&& 31)))) : Int32).toNatClampNeg)) else x5)), (6, .int x6)] d_X12_bestFrom_166 (Nat.le_of_ble_eq_true rfl) rfl rfl ?_
            refine aw_iinc (v := (x6 + 1)) [(0, .ref 1), (1, .int x1), (2, .int x2), (3, .int x3), (4, .int x4), (5, .int (if x5 < (r25 + (h_i h23 280 (((256 * (x3 + 1)) + (x4 ||| ((1 : Int32) <<< (x6 &&& 31)))) : Int32).toNatClampNeg)) then (r25 + (h_i h23 280 (((256 * (x3 + 1)) + (x4 ||| ((1 : Int32) <<< (x6 &&& 31)))) : Int32).toNatClampNeg)) else x5)), (6, .int (x6 + 1))] d_X12_bestFrom_168 6 rfl rfl (Nat.le_of_ble_eq_true rfl) rfl rfl ?_
            refine aw_goto (tgt := 89) d_X12_bestFrom_171 rfl ?_
            exact k
theorem t_X12_joining (d : Nat) (h : Hp_) (w : Wf h)  (K : Int32 → Hp_ → Prop) (k : Ci (m_X12_bestFrom (d + 1) 0 0) [.ref 1, .int (-1), .int (-1)] h (fun r3 h1 => Wf h1 ∧ (K r3 h1))) : Ci (m_X12_joining (d + 2) 0 0) [.ref 1] h K := by
  refine Ct.of (fun _ _ _ => trivial) rfl (Nat.le_of_ble_eq_true rfl) ?_
  show AW (m_X12_joining (d + 2) 0 0) 0 0 0 [(0, .ref 1)] [] h (kI K)
  refine aw_aload_n (i := 0) rfl d_X12_joining_0 0 rfl ?_
  refine aw_iconst (v := (-1)) d_X12_joining_1 ic_m1 ?_
  refine aw_iconst (v := (-1)) d_X12_joining_2 ic_m1 ?_
  refine aw_Vi 1 [.int (-1), .int (-1)] [] d_X12_joining_3 (cV_X12_bestFrom (d + 1) 0 0) kc_12 (ws_1 w) tw_2566 rfl (rr0 (Nat.le_of_ble_eq_true rfl) (Nat.le_of_ble_eq_true rfl)) (Nat.le_of_ble_eq_true rfl) xs0 k (fun r3 h1 kk => ?_)
  obtain ⟨w2, k⟩ := kk
  exact aw_iret rfl d_X12_joining_6 ⟨Nat.le_refl _, Nat.le_refl _⟩ ⟨_, rfl, k⟩
theorem t_X12_rivalsOf (d : Nat) (h : Hp_) (w : Wf h) (x1 : Int32) (K : Int32 → Hp_ → Prop) (k : Ci (m_X12_joining (d + 2) 0 0) [.ref 1] h (fun r3 h1 => Wf h1 ∧ (AW (m_X12_rivalsOf (d + 3) 0 0) 0 0 10 [(0, .ref 1), (1, .int x1), (2, .int r3), (3, .int 0), (4, .int 0)] [] h1 (kI K)))) : Ci (m_X12_rivalsOf (d + 3) 0 0) [.ref 1, .int x1] h K := by
  refine Ct.of (fun _ _ _ => trivial) rfl (Nat.le_of_ble_eq_true rfl) ?_
  show AW (m_X12_rivalsOf (d + 3) 0 0) 0 0 0 [(0, .ref 1), (1, .int x1)] [] h (kI K)
  refine aw_aload_n (i := 0) rfl d_X12_rivalsOf_0 0 rfl ?_
  refine aw_Vi 1 [] [] d_X12_rivalsOf_1 (cV_X12_joining (d + 2) 0 0) kc_12 (ws_1 w) tw_2590 rfl (rr0 (Nat.le_of_ble_eq_true rfl) (Nat.le_of_ble_eq_true rfl)) (Nat.le_of_ble_eq_true rfl) xs0 k (fun r3 h1 kk => ?_)
  obtain ⟨w2, k⟩ := kk
  refine aw_istore_n (i := 2) rfl [(0, .ref 1), (1, .int x1), (2, .int r3)] d_X12_rivalsOf_4 (Nat.le_of_ble_eq_true rfl) rfl rfl ?_
  refine aw_iconst (v := 0) d_X12_rivalsOf_5 ic_0 ?_
  refine aw_istore_n (i := 3) rfl [(0, .ref 1), (1, .int x1), (2, .int r3), (3, .int 0)] d_X12_rivalsOf_6 (Nat.le_of_ble_eq_true rfl) rfl rfl ?_
  refine aw_iconst (v := 0) d_X12_rivalsOf_7 ic_0 ?_
  refine aw_istore [(0, .ref 1), (1, .int x1), (2, .int r3), (3, .int 0), (4, .int 0)] d_X12_rivalsOf_8 (Nat.le_of_ble_eq_true rfl) rfl rfl ?_
  exact k
theorem t_X12_rivalsOf_10 (d : Nat) (h : Hp_) (w : Wf h) (x1 : Int32) (x2 : Int32) (x3 : Int32) (x4 : Int32) (K : Int32 → Hp_ → Prop) (k : ((h_i h 1 102) ≤ x4 → K x3 h) ∧ (¬ (h_i h 1 102) ≤ x4 → Ci (m_X12_like (d + 0) 0 0) [.ref 1, .int x1, .int x4] h (fun r7 h5 => Wf h5 ∧ ((r7 < (h_i h5 1 103) → AW (m_X12_rivalsOf (d + 3) 0 0) 0 0 10 [(0, .ref 1), (1, .int x1), (2, .int x2), (3, .int (x3 ||| 0)), (4, .int (x4 + 1))] [] h5 (kI K)) ∧ (¬ r7 < (h_i h5 1 103) → Ci (m_X12_bestFrom (d + 1) 0 0) [.ref 1, .int x1, .int x4] h5 (fun r11 h9 => Wf h9 ∧ ((¬ r11 = x2 → AW (m_X12_rivalsOf (d + 3) 0 0) 0 0 10 [(0, .ref 1), (1, .int x1), (2, .int x2), (3, .int (x3 ||| 0)), (4, .int (x4 + 1))] [] h9 (kI K)) ∧ (r11 = x2 → AW (m_X12_rivalsOf (d + 3) 0 0) 0 0 10 [(0, .ref 1), (1, .int x1), (2, .int x2), (3, .int (x3 ||| ((1 : Int32) <<< (x4 &&& 31)))), (4, .int (x4 + 1))] [] h9 (kI K))))))))) : AW (m_X12_rivalsOf (d + 3) 0 0) 0 0 10 [(0, .ref 1), (1, .int x1), (2, .int x2), (3, .int x3), (4, .int x4)] [] h (kI K) := by
  refine aw_iload d_X12_rivalsOf_10 4 rfl ?_
  refine aw_aload_n (i := 0) rfl d_X12_rivalsOf_12 0 rfl ?_
  refine aw_geti (k0 := 102) kc_12 (ws_1 w) (Nat.le_of_ble_eq_true rfl) tw_1844 d_X12_rivalsOf_13 rfl ?_
  refine aw_icmp_ge (tgt := 61) d_X12_rivalsOf_16 rfl (fun c4 => ?_) (fun c4 => ?_)
  · have k := k.1 c4
    refine aw_iload_n (i := 3) rfl d_X12_rivalsOf_61 3 rfl ?_
    exact aw_iret rfl d_X12_rivalsOf_62 ⟨Nat.le_refl _, Nat.le_refl _⟩ ⟨_, rfl, k⟩
  · have k := k.2 c4
    refine aw_iload_n (i := 3) rfl d_X12_rivalsOf_19 3 rfl ?_
    refine aw_aload_n (i := 0) rfl d_X12_rivalsOf_20 0 rfl ?_
    refine aw_iload_n (i := 1) rfl d_X12_rivalsOf_21 1 rfl ?_
    refine aw_iload d_X12_rivalsOf_22 4 rfl ?_
    refine aw_Vi 1 [.int x1, .int x4] [.int x3] d_X12_rivalsOf_24 (cV_X12_like (d + 0) 0 0) kc_12 (ws_1 w) tw_2570 rfl (rr0 (Nat.le_of_ble_eq_true rfl) (Nat.le_of_ble_eq_true rfl)) (Nat.le_of_ble_eq_true rfl) xs0 k (fun r7 h5 kk => ?_)
    obtain ⟨w6, k⟩ := kk
    refine aw_aload_n (i := 0) rfl d_X12_rivalsOf_27 0 rfl ?_
    refine aw_geti (k0 := 103) kc_12 (ws_1 w6) (Nat.le_of_ble_eq_true rfl) tw_1845 d_X12_rivalsOf_28 rfl ?_
    refine aw_icmp_lt (tgt := 52) d_X12_rivalsOf_31 rfl (fun c8 => ?_) (fun c8 => ?_)
    · have k := k.1 c8
      refine aw_iconst (v := 0) d_X12_rivalsOf_52 ic_0 ?_
      refine aw_ior d_X12_rivalsOf_53 ?_
      refine aw_istore_n (i := 3) rfl [(0, .ref 1), (1, .int x1), (2, .int x2), (3, .int (x3 ||| 0)), (4, .int x4)] d_X12_rivalsOf_54 (Nat.le_of_ble_eq_true rfl) rfl rfl ?_
      refine aw_iinc (v := (x4 + 1)) [(0, .ref 1), (1, .int x1), (2, .int x2), (3, .int (x3 ||| 0)), (4, .int (x4 + 1))] d_X12_rivalsOf_55 4 rfl rfl (Nat.le_of_ble_eq_true rfl) rfl rfl ?_
      refine aw_goto (tgt := 10) d_X12_rivalsOf_58 rfl ?_
      exact k
    · have k := k.2 c8
      refine aw_aload_n (i := 0) rfl d_X12_rivalsOf_34 0 rfl ?_
      refine aw_iload_n (i := 1) rfl d_X12_rivalsOf_35 1 rfl ?_
      refine aw_iload d_X12_rivalsOf_36 4 rfl ?_
      refine aw_Vi 1 [.int x1, .int x4] [.int x3] d_X12_rivalsOf_38 (cV_X12_bestFrom (d + 1) 0 0) kc_12 (ws_1 w6) tw_2566 rfl (rr0 (Nat.le_of_ble_eq_true rfl) (Nat.le_of_ble_eq_true rfl)) (Nat.le_of_ble_eq_true rfl) xs0 k (fun r11 h9 kk => ?_)
      obtain ⟨w10, k⟩ := kk
      refine aw_iload_n (i := 2) rfl d_X12_rivalsOf_41 2 rfl ?_
      refine aw_icmp_ne (tgt := 52) d_X12_rivalsOf_42 rfl (fun c12 => ?_) (fun c12 => ?_)
      · have k := k.1 c12
        refine aw_iconst (v := 0) d_X12_rivalsOf_52 ic_0 ?_
        refine aw_ior d_X12_rivalsOf_53 ?_
        refine aw_istore_n (i := 3) rfl [(0, .ref 1), (1, .int x1), (2, .int x2), (3, .int (x3 ||| 0)), (4, .int x4)] d_X12_rivalsOf_54 (Nat.le_of_ble_eq_true rfl) rfl rfl ?_
        refine aw_iinc (v := (x4 + 1)) [(0, .ref 1), (1, .int x1), (2, .int x2), (3, .int (x3 ||| 0)), (4, .int (x4 + 1))] d_X12_rivalsOf_55 4 rfl rfl (Nat.le_of_ble_eq_true rfl) rfl rfl ?_
        refine aw_goto (tgt := 10) d_X12_rivalsOf_58 rfl ?_
        exact k
      · have k := k.2 c12
        refine aw_iconst (v := 1) d_X12_rivalsOf_45 ic_1 ?_
        refine aw_iload d_X12_rivalsOf_46 4 rfl ?_
        refine aw_ishl d_X12_rivalsOf_48 ?_
        refine aw_goto (tgt := 53) d_X12_rivalsOf_49 rfl ?_
        refine aw_ior d_X12_rivalsOf_53 ?_
        refine aw_istore_n (i := 3) rfl [(0, .ref 1), (1, .int x1), (2, .int x2), (3, .int (x3 ||| ((1 : Int32) <<< (x4 &&& 31)))), (4, .int x4)] d_X12_rivalsOf_54 (Nat.le_of_ble_eq_true rfl) rfl rfl ?_
        refine aw_iinc (v := (x4 + 1)) [(0, .ref 1), (1, .int x1), (2, .int x2), (3, .int (x3 ||| ((1 : Int32) <<< (x4 &&& 31)))), (4, .int (x4 + 1))] d_X12_rivalsOf_55 4 rfl rfl (Nat.le_of_ble_eq_true rfl) rfl rfl ?_
        refine aw_goto (tgt := 10) d_X12_rivalsOf_58 rfl ?_
        exact k
theorem t_X12_rivals (d : Nat) (h : Hp_) (w : Wf h) (x1 : Int32) (K : Int32 → Hp_ → Prop) (k : (¬ (0 ≤ x1 ∧ x1 ≤ (h_i h 1 101) - 1) → K (-1) h) ∧ ((0 ≤ x1 ∧ x1 ≤ (h_i h 1 101) - 1) → Ci (m_X12_rivalsOf (d + 3) 0 0) [.ref 1, .int x1] h (fun r6 h4 => Wf h4 ∧ (K r6 h4)))) : Ci (m_X12_rivals (d + 4) 0 0) [.ref 1, .int x1] h K := by
  refine Ct.of (fun _ _ _ => trivial) rfl (Nat.le_of_ble_eq_true rfl) ?_
  show AW (m_X12_rivals (d + 4) 0 0) 0 0 0 [(0, .ref 1), (1, .int x1)] [] h (kI K)
  refine aw_aload_n (i := 0) rfl d_X12_rivals_0 0 rfl ?_
  refine aw_iload_n (i := 1) rfl d_X12_rivals_1 1 rfl ?_
  refine aw_Vi 1 [.int x1] [] d_X12_rivals_2 (cV_X12_isLost (d + 1) 0 0) kc_12 (ws_1 w) tw_2578 rfl (rr0 (Nat.le_of_ble_eq_true rfl) (Nat.le_of_ble_eq_true rfl)) (Nat.le_of_ble_eq_true rfl) xs0 (s_X12_isLost _ _ w x1) (fun _ _ kk => ?_)
  obtain ⟨e1, e2⟩ := kk
  rw [e1, e2]
  refine aw_ifb_eq (tgt := 16) d_X12_rivals_5 rfl (fun c3 => ?_) (fun c3 => ?_)
  · have k := k.1 c3
    refine aw_iconst (v := (-1)) d_X12_rivals_16 ic_m1 ?_
    exact aw_iret rfl d_X12_rivals_17 ⟨Nat.le_refl _, Nat.le_refl _⟩ ⟨_, rfl, k⟩
  · have k := k.2 c3
    refine aw_aload_n (i := 0) rfl d_X12_rivals_8 0 rfl ?_
    refine aw_iload_n (i := 1) rfl d_X12_rivals_9 1 rfl ?_
    refine aw_Vi 1 [.int x1] [] d_X12_rivals_10 (cV_X12_rivalsOf (d + 3) 0 0) kc_12 (ws_1 w) tw_2586 rfl (rr0 (Nat.le_of_ble_eq_true rfl) (Nat.le_of_ble_eq_true rfl)) (Nat.le_of_ble_eq_true rfl) xs0 k (fun r6 h4 kk => ?_)
    obtain ⟨w5, k⟩ := kk
    refine aw_goto (tgt := 17) d_X12_rivals_13 rfl ?_
    exact aw_iret rfl d_X12_rivals_17 ⟨Nat.le_refl _, Nat.le_refl _⟩ ⟨_, rfl, k⟩
theorem t_X3_add (d : Nat) (h : Hp_) (w : Wf h) (x1 : Int32) (x2 : Int32) (K : Int32 → Hp_ → Prop) (k : (x1 = 0 → ((h_i h 19 3) < 8 → (x1 = 0 → vp_in (h_i h 19 3) 8 ∧ (K (h_i h 19 3) (h_im (h_im (h_im h 19 5 1) 86 ((h_i h 19 3) : Int32).toNatClampNeg x2) 19 3 ((h_i h 19 3) + 1)))) ∧ (¬ x1 = 0 → vp_in (h_i h 19 3) 8 ∧ (K (h_i h 19 3) (h_im (h_im (h_im h 19 5 1) 85 ((h_i h 19 3) : Int32).toNatClampNeg x2) 19 2 ((h_i h 19 2) + 1))))) ∧ (¬ (h_i h 19 3) < 8 → K (-1) h)) ∧ (¬ x1 = 0 → ((h_i h 19 2) < 8 → (x1 = 0 → vp_in (h_i h 19 2) 8 ∧ (K (h_i h 19 2) (h_im (h_im (h_im h 19 5 1) 86 ((h_i h 19 2) : Int32).toNatClampNeg x2) 19 3 ((h_i h 19 3) + 1)))) ∧ (¬ x1 = 0 → vp_in (h_i h 19 2) 8 ∧ (K (h_i h 19 2) (h_im (h_im (h_im h 19 5 1) 85 ((h_i h 19 2) : Int32).toNatClampNeg x2) 19 2 ((h_i h 19 2) + 1))))) ∧ (¬ (h_i h 19 2) < 8 → K (-1) h))) : Ci (m_X3_add (d + 0) 0 0) [.ref 19, .int x1, .int x2] h K := by
  refine Ct.of (fun _ _ _ => trivial) rfl (Nat.le_of_ble_eq_true rfl) ?_
  show AW (m_X3_add (d + 0) 0 0) 0 0 0 [(0, .ref 19), (1, .int x1), (2, .int x2)] [] h (kI K)
  refine aw_iload_n (i := 1) rfl d_X3_add_0 1 rfl ?_
  refine aw_if_eq (tgt := 11) d_X3_add_1 rfl (fun c1 => ?_) (fun c1 => ?_)
  · have k := k.1 c1
    refine aw_aload_n (i := 0) rfl d_X3_add_11 0 rfl ?_
    refine aw_geti (k0 := 3) kc_3 (ws_19 w) (Nat.le_of_ble_eq_true rfl) tw_325 d_X3_add_12 rfl ?_
    refine aw_istore_n (i := 3) rfl [(0, .ref 19), (1, .int x1), (2, .int x2), (3, .int (h_i h 19 3))] d_X3_add_15 (Nat.le_of_ble_eq_true rfl) rfl rfl ?_
    refine aw_iload_n (i := 3) rfl d_X3_add_16 3 rfl ?_
    refine aw_bipush (v := 8) d_X3_add_17 ib_8 ?_
    refine aw_icmp_lt (tgt := 24) d_X3_add_19 rfl (fun c2 => ?_) (fun c2 => ?_)
    · have k := k.1 c2
      refine aw_aload_n (i := 0) rfl d_X3_add_24 0 rfl ?_
      refine aw_iconst (v := 1) d_X3_add_25 ic_1 ?_
      refine aw_puti (k0 := 5) kc_3 (ws_19 w) (Nat.le_of_ble_eq_true rfl) tw_328 d_X3_add_26 rfl rfl ⟨rfl, rfl⟩ ?_
      refine aw_iload_n (i := 1) rfl d_X3_add_29 1 rfl ?_
      refine aw_if_eq (tgt := 53) d_X3_add_30 rfl (fun c3 => ?_) (fun c3 => ?_)
      · have k := k.1 c3
        refine aw_aload_n (i := 0) rfl d_X3_add_53 0 rfl ?_
        refine aw_getr (k0 := 1) kc_3 (ws_19 w) (Nat.le_of_ble_eq_true rfl) tw_322 d_X3_add_54 rfl (wr_19_1 w) ?_
        refine aw_iload_n (i := 3) rfl d_X3_add_57 3 rfl ?_
        refine aw_iload_n (i := 2) rfl d_X3_add_58 2 rfl ?_
        obtain ⟨b4, k⟩ := k
        refine aw_iast (ws_86 w) b4 d_X3_add_59 ?_
        refine aw_aload_n (i := 0) rfl d_X3_add_60 0 rfl ?_
        refine aw_dup d_X3_add_61 rfl ?_
        refine aw_geti (k0 := 3) kc_3 (ws_19 w) (Nat.le_of_ble_eq_true rfl) tw_325 d_X3_add_62 rfl ?_
        refine aw_vi (v2 := (h_i h 19 3)) (rfl) ?_
        refine aw_iconst (v := 1) d_X3_add_65 ic_1 ?_
        refine aw_iadd d_X3_add_66 ?_
        refine aw_puti (k0 := 3) kc_3 (ws_19 w) (Nat.le_of_ble_eq_true rfl) tw_325 d_X3_add_67 rfl rfl nf_i ?_
        refine aw_iload_n (i := 3) rfl d_X3_add_70 3 rfl ?_
        exact aw_iret rfl d_X3_add_71 ⟨Nat.le_refl _, Nat.le_refl _⟩ ⟨_, rfl, k⟩
      · have k := k.2 c3
        refine aw_aload_n (i := 0) rfl d_X3_add_33 0 rfl ?_
        refine aw_getr (k0 := 0) kc_3 (ws_19 w) (Nat.le_of_ble_eq_true rfl) tw_321 d_X3_add_34 rfl (wr_19_0 w) ?_
        refine aw_iload_n (i := 3) rfl d_X3_add_37 3 rfl ?_
        refine aw_iload_n (i := 2) rfl d_X3_add_38 2 rfl ?_
        obtain ⟨b5, k⟩ := k
        refine aw_iast (ws_85 w) b5 d_X3_add_39 ?_
        refine aw_aload_n (i := 0) rfl d_X3_add_40 0 rfl ?_
        refine aw_dup d_X3_add_41 rfl ?_
        refine aw_geti (k0 := 2) kc_3 (ws_19 w) (Nat.le_of_ble_eq_true rfl) tw_323 d_X3_add_42 rfl ?_
        refine aw_vi (v2 := (h_i h 19 2)) (rfl) ?_
        refine aw_iconst (v := 1) d_X3_add_45 ic_1 ?_
        refine aw_iadd d_X3_add_46 ?_
        refine aw_puti (k0 := 2) kc_3 (ws_19 w) (Nat.le_of_ble_eq_true rfl) tw_323 d_X3_add_47 rfl rfl nf_i ?_
        refine aw_goto (tgt := 70) d_X3_add_50 rfl ?_
        refine aw_iload_n (i := 3) rfl d_X3_add_70 3 rfl ?_
        exact aw_iret rfl d_X3_add_71 ⟨Nat.le_refl _, Nat.le_refl _⟩ ⟨_, rfl, k⟩
    · have k := k.2 c2
      refine aw_iconst (v := (-1)) d_X3_add_22 ic_m1 ?_
      exact aw_iret rfl d_X3_add_23 ⟨Nat.le_refl _, Nat.le_refl _⟩ ⟨_, rfl, k⟩
  · have k := k.2 c1
    refine aw_aload_n (i := 0) rfl d_X3_add_4 0 rfl ?_
    refine aw_geti (k0 := 2) kc_3 (ws_19 w) (Nat.le_of_ble_eq_true rfl) tw_323 d_X3_add_5 rfl ?_
    refine aw_goto (tgt := 15) d_X3_add_8 rfl ?_
    refine aw_istore_n (i := 3) rfl [(0, .ref 19), (1, .int x1), (2, .int x2), (3, .int (h_i h 19 2))] d_X3_add_15 (Nat.le_of_ble_eq_true rfl) rfl rfl ?_
    refine aw_iload_n (i := 3) rfl d_X3_add_16 3 rfl ?_
    refine aw_bipush (v := 8) d_X3_add_17 ib_8 ?_
    refine aw_icmp_lt (tgt := 24) d_X3_add_19 rfl (fun c6 => ?_) (fun c6 => ?_)
    · have k := k.1 c6
      refine aw_aload_n (i := 0) rfl d_X3_add_24 0 rfl ?_
      refine aw_iconst (v := 1) d_X3_add_25 ic_1 ?_
      refine aw_puti (k0 := 5) kc_3 (ws_19 w) (Nat.le_of_ble_eq_true rfl) tw_328 d_X3_add_26 rfl rfl ⟨rfl, rfl⟩ ?_
      refine aw_iload_n (i := 1) rfl d_X3_add_29 1 rfl ?_
      refine aw_if_eq (tgt := 53) d_X3_add_30 rfl (fun c7 => ?_) (fun c7 => ?_)
      · have k := k.1 c7
        refine aw_aload_n (i := 0) rfl d_X3_add_53 0 rfl ?_
        refine aw_getr (k0 := 1) kc_3 (ws_19 w) (Nat.le_of_ble_eq_true rfl) tw_322 d_X3_add_54 rfl (wr_19_1 w) ?_
        refine aw_iload_n (i := 3) rfl d_X3_add_57 3 rfl ?_
        refine aw_iload_n (i := 2) rfl d_X3_add_58 2 rfl ?_
        obtain ⟨b8, k⟩ := k
        refine aw_iast (ws_86 w) b8 d_X3_add_59 ?_
        refine aw_aload_n (i := 0) rfl d_X3_add_60 0 rfl ?_
        refine aw_dup d_X3_add_61 rfl ?_
        refine aw_geti (k0 := 3) kc_3 (ws_19 w) (Nat.le_of_ble_eq_true rfl) tw_325 d_X3_add_62 rfl ?_
        refine aw_vi (v2 := (h_i h 19 3)) (rfl) ?_
        refine aw_iconst (v := 1) d_X3_add_65 ic_1 ?_
        refine aw_iadd d_X3_add_66 ?_
        refine aw_puti (k0 := 3) kc_3 (ws_19 w) (Nat.le_of_ble_eq_true rfl) tw_325 d_X3_add_67 rfl rfl nf_i ?_
        refine aw_iload_n (i := 3) rfl d_X3_add_70 3 rfl ?_
        exact aw_iret rfl d_X3_add_71 ⟨Nat.le_refl _, Nat.le_refl _⟩ ⟨_, rfl, k⟩
      · have k := k.2 c7
        refine aw_aload_n (i := 0) rfl d_X3_add_33 0 rfl ?_
        refine aw_getr (k0 := 0) kc_3 (ws_19 w) (Nat.le_of_ble_eq_true rfl) tw_321 d_X3_add_34 rfl (wr_19_0 w) ?_
        refine aw_iload_n (i := 3) rfl d_X3_add_37 3 rfl ?_
        refine aw_iload_n (i := 2) rfl d_X3_add_38 2 rfl ?_
        obtain ⟨b9, k⟩ := k
        refine aw_iast (ws_85 w) b9 d_X3_add_39 ?_
        refine aw_aload_n (i := 0) rfl d_X3_add_40 0 rfl ?_
        refine aw_dup d_X3_add_41 rfl ?_
        refine aw_geti (k0 := 2) kc_3 (ws_19 w) (Nat.le_of_ble_eq_true rfl) tw_323 d_X3_add_42 rfl ?_
        refine aw_vi (v2 := (h_i h 19 2)) (rfl) ?_
        refine aw_iconst (v := 1) d_X3_add_45 ic_1 ?_
        refine aw_iadd d_X3_add_46 ?_
        refine aw_puti (k0 := 2) kc_3 (ws_19 w) (Nat.le_of_ble_eq_true rfl) tw_323 d_X3_add_47 rfl rfl nf_i ?_
        refine aw_goto (tgt := 70) d_X3_add_50 rfl ?_
        refine aw_iload_n (i := 3) rfl d_X3_add_70 3 rfl ?_
        exact aw_iret rfl d_X3_add_71 ⟨Nat.le_refl _, Nat.le_refl _⟩ ⟨_, rfl, k⟩
    · have k := k.2 c6
      refine aw_iconst (v := (-1)) d_X3_add_22 ic_m1 ?_
      exact aw_iret rfl d_X3_add_23 ⟨Nat.le_refl _, Nat.le_refl _⟩ ⟨_, rfl, k⟩
theorem t_X12_good (d : Nat) (h : Hp_) (w : Wf h) (x1 : Int32) (x2 : Int32) (K : Int32 → Hp_ → Prop) (k : (¬ (0 ≤ x2 ∧ x2 ≤ 99999) → K (-1) h) ∧ ((0 ≤ x2 ∧ x2 ≤ 99999) → (x1 = 0 → (¬ (h_i h 1 102) = 8 → (x1 = 0 → vp_in (h_i h 1 102) 8 ∧ (K (((h_i h 1 102) + 1) - 1) (h_im (h_im h 279 ((h_i h 1 102) : Int32).toNatClampNeg x2) 1 102 ((h_i h 1 102) + 1)))) ∧ (¬ x1 = 0 → vp_in (h_i h 1 101) 8 ∧ (K (((h_i h 1 101) + 1) - 1) (h_im (h_im h 278 ((h_i h 1 101) : Int32).toNatClampNeg x2) 1 101 ((h_i h 1 101) + 1))))) ∧ ((h_i h 1 102) = 8 → K (-1) h)) ∧ (¬ x1 = 0 → (¬ (h_i h 1 101) = 8 → (x1 = 0 → vp_in (h_i h 1 102) 8 ∧ (K (((h_i h 1 102) + 1) - 1) (h_im (h_im h 279 ((h_i h 1 102) : Int32).toNatClampNeg x2) 1 102 ((h_i h 1 102) + 1)))) ∧ (¬ x1 = 0 → vp_in (h_i h 1 101) 8 ∧ (K (((h_i h 1 101) + 1) - 1) (h_im (h_im h 278 ((h_i h 1 101) : Int32).toNatClampNeg x2) 1 101 ((h_i h 1 101) + 1))))) ∧ ((h_i h 1 101) = 8 → K (-1) h)))) : Ci (m_X12_good (d + 1) 0 0) [.ref 1, .int x1, .int x2] h K := by
  refine Ct.of (fun _ _ _ => trivial) rfl (Nat.le_of_ble_eq_true rfl) ?_
  show AW (m_X12_good (d + 1) 0 0) 0 0 0 [(0, .ref 1), (1, .int x1), (2, .int x2)] [] h (kI K)
  refine aw_iload_n (i := 2) rfl d_X12_good_0 2 rfl ?_
  refine aw_iconst (v := 0) d_X12_good_1 ic_0 ?_
  refine aw_ldcw (v := 99999) d_X12_good_2 tw_2557 ?_
  refine aw_Si [.int x2, .int 0, .int 99999] [] d_X12_good_5 (cS_X12_in (d + 0) 0 0) tw_2143 rfl (rr0 (Nat.le_of_ble_eq_true rfl) (Nat.le_of_ble_eq_true rfl)) (Nat.le_of_ble_eq_true rfl) xs0 (s_X12_in _ _ x2 0 99999) (fun _ _ kk => ?_)
  obtain ⟨e1, e2⟩ := kk
  rw [e1, e2]
  refine aw_ifb_eq (tgt := 31) d_X12_good_8 rfl (fun c3 => ?_) (fun c3 => ?_)
  · have k := k.1 c3
    refine aw_iconst (v := (-1)) d_X12_good_31 ic_m1 ?_
    exact aw_iret rfl d_X12_good_32 ⟨Nat.le_refl _, Nat.le_refl _⟩ ⟨_, rfl, k⟩
  · have k := k.2 c3
    refine aw_iload_n (i := 1) rfl d_X12_good_11 1 rfl ?_
    refine aw_if_eq (tgt := 22) d_X12_good_12 rfl (fun c4 => ?_) (fun c4 => ?_)
    · have k := k.1 c4
      refine aw_aload_n (i := 0) rfl d_X12_good_22 0 rfl ?_
      refine aw_geti (k0 := 102) kc_12 (ws_1 w) (Nat.le_of_ble_eq_true rfl) tw_1844 d_X12_good_23 rfl ?_
      refine aw_bipush (v := 8) d_X12_good_26 ib_8 ?_
      refine aw_icmp_ne (tgt := 33) d_X12_good_28 rfl (fun c5 => ?_) (fun c5 => ?_)
      · have k := k.1 c5
        refine aw_iload_n (i := 1) rfl d_X12_good_33 1 rfl ?_
        refine aw_if_eq (tgt := 64) d_X12_good_34 rfl (fun c6 => ?_) (fun c6 => ?_)
        · have k := k.1 c6
          refine aw_aload_n (i := 0) rfl d_X12_good_64 0 rfl ?_
          refine aw_getr (k0 := 100) kc_12 (ws_1 w) (Nat.le_of_ble_eq_true rfl) tw_1842 d_X12_good_65 rfl (wr_1_100 w) ?_
          refine aw_aload_n (i := 0) rfl d_X12_good_68 0 rfl ?_
          refine aw_geti (k0 := 102) kc_12 (ws_1 w) (Nat.le_of_ble_eq_true rfl) tw_1844 d_X12_good_69 rfl ?_
          refine aw_iload_n (i := 2) rfl d_X12_good_72 2 rfl ?_
          obtain ⟨b7, k⟩ := k
          refine aw_iast (ws_279 w) b7 d_X12_good_73 ?_
          refine aw_aload_n (i := 0) rfl d_X12_good_74 0 rfl ?_
          refine aw_dup d_X12_good_75 rfl ?_
          refine aw_geti (k0 := 102) kc_12 (ws_1 w) (Nat.le_of_ble_eq_true rfl) tw_1844 d_X12_good_76 rfl ?_
          refine aw_vi (v2 := (h_i h 1 102)) (rfl) ?_
          refine aw_iconst (v := 1) d_X12_good_79 ic_1 ?_
          refine aw_iadd d_X12_good_80 ?_
          refine aw_puti (k0 := 102) kc_12 (ws_1 w) (Nat.le_of_ble_eq_true rfl) tw_1844 d_X12_good_81 rfl rfl nf_i ?_
          refine aw_aload_n (i := 0) rfl d_X12_good_84 0 rfl ?_
          refine aw_geti (k0 := 102) kc_12 (ws_1 w) (Nat.le_of_ble_eq_true rfl) tw_1844 d_X12_good_85 rfl ?_
          refine aw_vi (v2 := ((h_i h 1 102) + 1)) (rfl) ?_
          refine aw_iconst (v := 1) d_X12_good_88 ic_1 ?_
          refine aw_isub d_X12_good_89 ?_
          exact aw_iret rfl d_X12_good_90 ⟨Nat.le_refl _, Nat.le_refl _⟩ ⟨_, rfl, k⟩
        · have k := k.2 c6
          refine aw_aload_n (i := 0) rfl d_X12_good_37 0 rfl ?_
          refine aw_getr (k0 := 99) kc_12 (ws_1 w) (Nat.le_of_ble_eq_true rfl) tw_1841 d_X12_good_38 rfl (wr_1_99 w) ?_
          refine aw_aload_n (i := 0) rfl d_X12_good_41 0 rfl ?_
          refine aw_geti (k0 := 101) kc_12 (ws_1 w) (Nat.le_of_ble_eq_true rfl) tw_1843 d_X12_good_42 rfl ?_
          refine aw_iload_n (i := 2) rfl d_X12_good_45 2 rfl ?_
          obtain ⟨b8, k⟩ := k
          refine aw_iast (ws_278 w) b8 d_X12_good_46 ?_
          refine aw_aload_n (i := 0) rfl d_X12_good_47 0 rfl ?_
          refine aw_dup d_X12_good_48 rfl ?_
          refine aw_geti (k0 := 101) kc_12 (ws_1 w) (Nat.le_of_ble_eq_true rfl) tw_1843 d_X12_good_49 rfl ?_
          refine aw_vi (v2 := (h_i h 1 101)) (rfl) ?_
          refine aw_iconst (v := 1) d_X12_good_52 ic_1 ?_
          refine aw_iadd d_X12_good_53 ?_
          refine aw_puti (k0 := 101) kc_12 (ws_1 w) (Nat.le_of_ble_eq_true rfl) tw_1843 d_X12_good_54 rfl rfl nf_i ?_
          refine aw_aload_n (i := 0) rfl d_X12_good_57 0 rfl ?_
          refine aw_geti (k0 := 101) kc_12 (ws_1 w) (Nat.le_of_ble_eq_true rfl) tw_1843 d_X12_good_58 rfl ?_
          refine aw_vi (v2 := ((h_i h 1 101) + 1)) (rfl) ?_
          refine aw_iconst (v := 1) d_X12_good_61 ic_1 ?_
          refine aw_isub d_X12_good_62 ?_
          exact aw_iret rfl d_X12_good_63 ⟨Nat.le_refl _, Nat.le_refl _⟩ ⟨_, rfl, k⟩
      · have k := k.2 c5
        refine aw_iconst (v := (-1)) d_X12_good_31 ic_m1 ?_
        exact aw_iret rfl d_X12_good_32 ⟨Nat.le_refl _, Nat.le_refl _⟩ ⟨_, rfl, k⟩
    · have k := k.2 c4
      refine aw_aload_n (i := 0) rfl d_X12_good_15 0 rfl ?_
      refine aw_geti (k0 := 101) kc_12 (ws_1 w) (Nat.le_of_ble_eq_true rfl) tw_1843 d_X12_good_16 rfl ?_
      refine aw_goto (tgt := 26) d_X12_good_19 rfl ?_
      refine aw_bipush (v := 8) d_X12_good_26 ib_8 ?_
      refine aw_icmp_ne (tgt := 33) d_X12_good_28 rfl (fun c9 => ?_) (fun c9 => ?_)
      · have k := k.1 c9
        refine aw_iload_n (i := 1) rfl d_X12_good_33 1 rfl ?_
        refine aw_if_eq (tgt := 64) d_X12_good_34 rfl (fun c10 => ?_) (fun c10 => ?_)
        · have k := k.1 c10
          refine aw_aload_n (i := 0) rfl d_X12_good_64 0 rfl ?_
          refine aw_getr (k0 := 100) kc_12 (ws_1 w) (Nat.le_of_ble_eq_true rfl) tw_1842 d_X12_good_65 rfl (wr_1_100 w) ?_
          refine aw_aload_n (i := 0) rfl d_X12_good_68 0 rfl ?_
          refine aw_geti (k0 := 102) kc_12 (ws_1 w) (Nat.le_of_ble_eq_true rfl) tw_1844 d_X12_good_69 rfl ?_
          refine aw_iload_n (i := 2) rfl d_X12_good_72 2 rfl ?_
          obtain ⟨b11, k⟩ := k
          refine aw_iast (ws_279 w) b11 d_X12_good_73 ?_
          refine aw_aload_n (i := 0) rfl d_X12_good_74 0 rfl ?_
          refine aw_dup d_X12_good_75 rfl ?_
          refine aw_geti (k0 := 102) kc_12 (ws_1 w) (Nat.le_of_ble_eq_true rfl) tw_1844 d_X12_good_76 rfl ?_
          refine aw_vi (v2 := (h_i h 1 102)) (rfl) ?_
          refine aw_iconst (v := 1) d_X12_good_79 ic_1 ?_
          refine aw_iadd d_X12_good_80 ?_
          refine aw_puti (k0 := 102) kc_12 (ws_1 w) (Nat.le_of_ble_eq_true rfl) tw_1844 d_X12_good_81 rfl rfl nf_i ?_
          refine aw_aload_n (i := 0) rfl d_X12_good_84 0 rfl ?_
          refine aw_geti (k0 := 102) kc_12 (ws_1 w) (Nat.le_of_ble_eq_true rfl) tw_1844 d_X12_good_85 rfl ?_
          refine aw_vi (v2 := ((h_i h 1 102) + 1)) (rfl) ?_
          refine aw_iconst (v := 1) d_X12_good_88 ic_1 ?_
          refine aw_isub d_X12_good_89 ?_
          exact aw_iret rfl d_X12_good_90 ⟨Nat.le_refl _, Nat.le_refl _⟩ ⟨_, rfl, k⟩
        · have k := k.2 c10
          refine aw_aload_n (i := 0) rfl d_X12_good_37 0 rfl ?_
          refine aw_getr (k0 := 99) kc_12 (ws_1 w) (Nat.le_of_ble_eq_true rfl) tw_1841 d_X12_good_38 rfl (wr_1_99 w) ?_
          refine aw_aload_n (i := 0) rfl d_X12_good_41 0 rfl ?_
          refine aw_geti (k0 := 101) kc_12 (ws_1 w) (Nat.le_of_ble_eq_true rfl) tw_1843 d_X12_good_42 rfl ?_
          refine aw_iload_n (i := 2) rfl d_X12_good_45 2 rfl ?_
          obtain ⟨b12, k⟩ := k
          refine aw_iast (ws_278 w) b12 d_X12_good_46 ?_
          refine aw_aload_n (i := 0) rfl d_X12_good_47 0 rfl ?_
          refine aw_dup d_X12_good_48 rfl ?_
          refine aw_geti (k0 := 101) kc_12 (ws_1 w) (Nat.le_of_ble_eq_true rfl) tw_1843 d_X12_good_49 rfl ?_
          refine aw_vi (v2 := (h_i h 1 101)) (rfl) ?_
          refine aw_iconst (v := 1) d_X12_good_52 ic_1 ?_
          refine aw_iadd d_X12_good_53 ?_
          refine aw_puti (k0 := 101) kc_12 (ws_1 w) (Nat.le_of_ble_eq_true rfl) tw_1843 d_X12_good_54 rfl rfl nf_i ?_
          refine aw_aload_n (i := 0) rfl d_X12_good_57 0 rfl ?_
          refine aw_geti (k0 := 101) kc_12 (ws_1 w) (Nat.le_of_ble_eq_true rfl) tw_1843 d_X12_good_58 rfl ?_
          refine aw_vi (v2 := ((h_i h 1 101) + 1)) (rfl) ?_
          refine aw_iconst (v := 1) d_X12_good_61 ic_1 ?_
          refine aw_isub d_X12_good_62 ?_
          exact aw_iret rfl d_X12_good_63 ⟨Nat.le_refl _, Nat.le_refl _⟩ ⟨_, rfl, k⟩
      · have k := k.2 c9
        refine aw_iconst (v := (-1)) d_X12_good_31 ic_m1 ?_
        exact aw_iret rfl d_X12_good_32 ⟨Nat.le_refl _, Nat.le_refl _⟩ ⟨_, rfl, k⟩
theorem t_X11_good (d : Nat) (h : Hp_) (w : Wf h) (x1 : Int32) (x2 : Int32) (K : Int32 → Hp_ → Prop) (k : (¬ (0 ≤ x2 ∧ x2 ≤ 99999) → K (-1) h) ∧ ((0 ≤ x2 ∧ x2 ≤ 99999) → Ci (m_X3_add (d + 0) 0 0) [.ref 19, .int x1, .int x2] h (fun r6 h4 => Wf h4 ∧ (K r6 h4)))) : Ci (m_X11_good (d + 1) 0 0) [.ref 0, .int x1, .int x2] h K := by
  refine Ct.of (fun _ _ _ => trivial) rfl (Nat.le_of_ble_eq_true rfl) ?_
  show AW (m_X11_good (d + 1) 0 0) 0 0 0 [(0, .ref 0), (1, .int x1), (2, .int x2)] [] h (kI K)
  refine aw_iload_n (i := 2) rfl d_X11_good_0 2 rfl ?_
  refine aw_iconst (v := 0) d_X11_good_1 ic_0 ?_
  refine aw_ldcw (v := 99999) d_X11_good_2 tw_1318 ?_
  refine aw_Si [.int x2, .int 0, .int 99999] [] d_X11_good_5 (cS_X11_within (d + 0) 0 0) tw_543 rfl (rr0 (Nat.le_of_ble_eq_true rfl) (Nat.le_of_ble_eq_true rfl)) (Nat.le_of_ble_eq_true rfl) xs0 (s_X11_within _ _ x2 0 99999) (fun _ _ kk => ?_)
  obtain ⟨e1, e2⟩ := kk
  rw [e1, e2]
  refine aw_ifb_eq (tgt := 23) d_X11_good_8 rfl (fun c3 => ?_) (fun c3 => ?_)
  · have k := k.1 c3
    refine aw_iconst (v := (-1)) d_X11_good_23 ic_m1 ?_
    exact aw_iret rfl d_X11_good_24 ⟨Nat.le_refl _, Nat.le_refl _⟩ ⟨_, rfl, k⟩
  · have k := k.2 c3
    refine aw_aload_n (i := 0) rfl d_X11_good_11 0 rfl ?_
    refine aw_getr (k0 := 11) kc_11 (ws_0 w) (Nat.le_of_ble_eq_true rfl) tw_498 d_X11_good_12 rfl (wr_0_11 w) ?_
    refine aw_iload_n (i := 1) rfl d_X11_good_15 1 rfl ?_
    refine aw_iload_n (i := 2) rfl d_X11_good_16 2 rfl ?_
    refine aw_Vi 19 [.int x1, .int x2] [] d_X11_good_17 (cV_X3_add (d + 0) 0 0) kc_3 (ws_19 w) tw_1319 rfl (rr0 (Nat.le_of_ble_eq_true rfl) (Nat.le_of_ble_eq_true rfl)) (Nat.le_of_ble_eq_true rfl) xs0 k (fun r6 h4 kk => ?_)
    obtain ⟨w5, k⟩ := kk
    refine aw_goto (tgt := 24) d_X11_good_20 rfl ?_
    exact aw_iret rfl d_X11_good_24 ⟨Nat.le_refl _, Nat.le_refl _⟩ ⟨_, rfl, k⟩
theorem t_X3_setLeast (d : Nat) (h : Hp_) (w : Wf h) (x1 : Int32) (K : Int32 → Hp_ → Prop) (k : K 1 (h_im (h_im h 19 4 x1) 19 5 1)) : Ci (m_X3_setLeast (d + 0) 0 0) [.ref 19, .int x1] h K := by
  refine Ct.of (fun _ _ _ => trivial) rfl (Nat.le_of_ble_eq_true rfl) ?_
  show AW (m_X3_setLeast (d + 0) 0 0) 0 0 0 [(0, .ref 19), (1, .int x1)] [] h (kI K)
  refine aw_aload_n (i := 0) rfl d_X3_setLeast_0 0 rfl ?_
  refine aw_iload_n (i := 1) rfl d_X3_setLeast_1 1 rfl ?_
  refine aw_puti (k0 := 4) kc_3 (ws_19 w) (Nat.le_of_ble_eq_true rfl) tw_327 d_X3_setLeast_2 rfl rfl nf_i ?_
  refine aw_aload_n (i := 0) rfl d_X3_setLeast_5 0 rfl ?_
  refine aw_iconst (v := 1) d_X3_setLeast_6 ic_1 ?_
  refine aw_puti (k0 := 5) kc_3 (ws_19 w) (Nat.le_of_ble_eq_true rfl) tw_328 d_X3_setLeast_7 rfl rfl ⟨rfl, rfl⟩ ?_
  refine aw_iconst (v := 1) d_X3_setLeast_10 ic_1 ?_
  exact aw_zret rfl rfl d_X3_setLeast_11 ⟨Nat.le_refl _, Nat.le_refl _⟩ ⟨_, rfl, k⟩
theorem t_X12_least (d : Nat) (h : Hp_) (w : Wf h) (x1 : Int32) (K : Int32 → Hp_ → Prop) (k : ((1 ≤ x1 ∧ x1 ≤ 5) → K 1 (h_im h 1 103 x1)) ∧ (¬ (1 ≤ x1 ∧ x1 ≤ 5) → K 0 h)) : Ci (m_X12_least (d + 1) 0 0) [.ref 1, .int x1] h K := by
  refine Ct.of (fun _ _ _ => trivial) rfl (Nat.le_of_ble_eq_true rfl) ?_
  show AW (m_X12_least (d + 1) 0 0) 0 0 0 [(0, .ref 1), (1, .int x1)] [] h (kI K)
  refine aw_iload_n (i := 1) rfl d_X12_least_0 1 rfl ?_
  refine aw_iconst (v := 1) d_X12_least_1 ic_1 ?_
  refine aw_iconst (v := 5) d_X12_least_2 ic_5 ?_
  refine aw_Si [.int x1, .int 1, .int 5] [] d_X12_least_3 (cS_X12_in (d + 0) 0 0) tw_2143 rfl (rr0 (Nat.le_of_ble_eq_true rfl) (Nat.le_of_ble_eq_true rfl)) (Nat.le_of_ble_eq_true rfl) xs0 (s_X12_in _ _ x1 1 5) (fun _ _ kk => ?_)
  obtain ⟨e1, e2⟩ := kk
  rw [e1, e2]
  refine aw_ifb_ne (tgt := 11) d_X12_least_6 rfl (fun c3 => ?_) (fun c3 => ?_)
  · have k := k.1 c3
    refine aw_aload_n (i := 0) rfl d_X12_least_11 0 rfl ?_
    refine aw_iload_n (i := 1) rfl d_X12_least_12 1 rfl ?_
    refine aw_puti (k0 := 103) kc_12 (ws_1 w) (Nat.le_of_ble_eq_true rfl) tw_1845 d_X12_least_13 rfl rfl nf_i ?_
    refine aw_iconst (v := 1) d_X12_least_16 ic_1 ?_
    exact aw_zret rfl rfl d_X12_least_17 ⟨Nat.le_refl _, Nat.le_refl _⟩ ⟨_, rfl, k⟩
  · have k := k.2 c3
    refine aw_iconst (v := 0) d_X12_least_9 ic_0 ?_
    exact aw_zret rfl rfl d_X12_least_10 ⟨Nat.le_refl _, Nat.le_refl _⟩ ⟨_, rfl, k⟩
theorem t_X11_least (d : Nat) (h : Hp_) (w : Wf h) (x1 : Int32) (K : Int32 → Hp_ → Prop) (k : (¬ (1 ≤ x1 ∧ x1 ≤ 5) → K 0 h) ∧ ((1 ≤ x1 ∧ x1 ≤ 5) → Ci (m_X3_setLeast (d + 0) 0 0) [.ref 19, .int x1] h (fun r6 h4 => Wf h4 ∧ ((r6 = 0 → K 0 h4) ∧ (¬ r6 = 0 → K 1 h4))))) : Ci (m_X11_least (d + 1) 0 0) [.ref 0, .int x1] h K := by
  refine Ct.of (fun _ _ _ => trivial) rfl (Nat.le_of_ble_eq_true rfl) ?_
  show AW (m_X11_least (d + 1) 0 0) 0 0 0 [(0, .ref 0), (1, .int x1)] [] h (kI K)
  refine aw_iload_n (i := 1) rfl d_X11_least_0 1 rfl ?_
  refine aw_iconst (v := 1) d_X11_least_1 ic_1 ?_
  refine aw_iconst (v := 5) d_X11_least_2 ic_5 ?_
  refine aw_Si [.int x1, .int 1, .int 5] [] d_X11_least_3 (cS_X11_within (d + 0) 0 0) tw_543 rfl (rr0 (Nat.le_of_ble_eq_true rfl) (Nat.le_of_ble_eq_true rfl)) (Nat.le_of_ble_eq_true rfl) xs0 (s_X11_within _ _ x1 1 5) (fun _ _ kk => ?_)
  obtain ⟨e1, e2⟩ := kk
  rw [e1, e2]
  refine aw_ifb_eq (tgt := 24) d_X11_least_6 rfl (fun c3 => ?_) (fun c3 => ?_)
  · have k := k.1 c3
    refine aw_iconst (v := 0) d_X11_least_24 ic_0 ?_
    exact aw_zret rfl rfl d_X11_least_25 ⟨Nat.le_refl _, Nat.le_refl _⟩ ⟨_, rfl, k⟩
  · have k := k.2 c3
    refine aw_aload_n (i := 0) rfl d_X11_least_9 0 rfl ?_
    refine aw_getr (k0 := 11) kc_11 (ws_0 w) (Nat.le_of_ble_eq_true rfl) tw_498 d_X11_least_10 rfl (wr_0_11 w) ?_
    refine aw_iload_n (i := 1) rfl d_X11_least_13 1 rfl ?_
    refine aw_Vi 19 [.int x1] [] d_X11_least_14 (cV_X3_setLeast (d + 0) 0 0) kc_3 (ws_19 w) tw_1327 rfl (rr0 (Nat.le_of_ble_eq_true rfl) (Nat.le_of_ble_eq_true rfl)) (Nat.le_of_ble_eq_true rfl) xs0 k (fun r6 h4 kk => ?_)
    obtain ⟨w5, k⟩ := kk
    refine aw_if_eq (tgt := 24) d_X11_least_17 rfl (fun c7 => ?_) (fun c7 => ?_)
    · have k := k.1 c7
      refine aw_iconst (v := 0) d_X11_least_24 ic_0 ?_
      exact aw_zret rfl rfl d_X11_least_25 ⟨Nat.le_refl _, Nat.le_refl _⟩ ⟨_, rfl, k⟩
    · have k := k.2 c7
      refine aw_iconst (v := 1) d_X11_least_20 ic_1 ?_
      refine aw_goto (tgt := 25) d_X11_least_21 rfl ?_
      exact aw_zret rfl rfl d_X11_least_25 ⟨Nat.le_refl _, Nat.le_refl _⟩ ⟨_, rfl, k⟩
theorem t_X3_hasLost (d : Nat) (h : Hp_) (w : Wf h) (x1 : Int32) (K : Int32 → Hp_ → Prop) (k : (x1 < 0 → K 0 h) ∧ (¬ x1 < 0 → ((h_i h 19 2) ≤ x1 → K 0 h) ∧ (¬ (h_i h 19 2) ≤ x1 → K 1 h))) : Ci (m_X3_hasLost (d + 0) 0 0) [.ref 19, .int x1] h K := by
  refine Ct.of (fun _ _ _ => trivial) rfl (Nat.le_of_ble_eq_true rfl) ?_
  show AW (m_X3_hasLost (d + 0) 0 0) 0 0 0 [(0, .ref 19), (1, .int x1)] [] h (kI K)
  refine aw_iload_n (i := 1) rfl d_X3_hasLost_0 1 rfl ?_
  refine aw_if_lt (tgt := 16) d_X3_hasLost_1 rfl (fun c1 => ?_) (fun c1 => ?_)
  · have k := k.1 c1
    refine aw_iconst (v := 0) d_X3_hasLost_16 ic_0 ?_
    exact aw_zret rfl rfl d_X3_hasLost_17 ⟨Nat.le_refl _, Nat.le_refl _⟩ ⟨_, rfl, k⟩
  · have k := k.2 c1
    refine aw_iload_n (i := 1) rfl d_X3_hasLost_4 1 rfl ?_
    refine aw_aload_n (i := 0) rfl d_X3_hasLost_5 0 rfl ?_
    refine aw_geti (k0 := 2) kc_3 (ws_19 w) (Nat.le_of_ble_eq_true rfl) tw_323 d_X3_hasLost_6 rfl ?_
    refine aw_icmp_ge (tgt := 16) d_X3_hasLost_9 rfl (fun c2 => ?_) (fun c2 => ?_)
    · have k := k.1 c2
      refine aw_iconst (v := 0) d_X3_hasLost_16 ic_0 ?_
      exact aw_zret rfl rfl d_X3_hasLost_17 ⟨Nat.le_refl _, Nat.le_refl _⟩ ⟨_, rfl, k⟩
    · have k := k.2 c2
      refine aw_iconst (v := 1) d_X3_hasLost_12 ic_1 ?_
      refine aw_goto (tgt := 17) d_X3_hasLost_13 rfl ?_
      exact aw_zret rfl rfl d_X3_hasLost_17 ⟨Nat.le_refl _, Nat.le_refl _⟩ ⟨_, rfl, k⟩
theorem t_X3_firstOf (d : Nat) (h : Hp_) (w : Wf h) (x1 : Int32) (K : Int32 → Hp_ → Prop) (k : Cv (m_X3_solve (d + 3) 0 0) [.ref 19] h (fun h1 => Wf h1 ∧ (Ci (m_X3_hasLost (d + 0) 0 0) [.ref 19, .int x1] h1 (fun r6 h4 => Wf h4 ∧ ((r6 = 0 → K (-1) h4) ∧ (¬ r6 = 0 → vp_in x1 8 ∧ (K (h_i h4 91 x1.toNatClampNeg) h4))))))) : Ci (m_X3_firstOf (d + 4) 0 0) [.ref 19, .int x1] h K := by
  refine Ct.of (fun _ _ _ => trivial) rfl (Nat.le_of_ble_eq_true rfl) ?_
  show AW (m_X3_firstOf (d + 4) 0 0) 0 0 0 [(0, .ref 19), (1, .int x1)] [] h (kI K)
  refine aw_aload_n (i := 0) rfl d_X3_firstOf_0 0 rfl ?_
  refine aw_Vv 19 [] [] d_X3_firstOf_1 (cV_X3_solve (d + 3) 0 0) kc_3 (ws_19 w) tw_1339 rfl (rr0 (Nat.le_of_ble_eq_true rfl) (Nat.le_of_ble_eq_true rfl)) (Nat.le_of_ble_eq_true rfl) xs0 k (fun h1 kk => ?_)
  obtain ⟨w2, k⟩ := kk
  refine aw_aload_n (i := 0) rfl d_X3_firstOf_4 0 rfl ?_
  refine aw_iload_n (i := 1) rfl d_X3_firstOf_5 1 rfl ?_
  refine aw_Vi 19 [.int x1] [] d_X3_firstOf_6 (cV_X3_hasLost (d + 0) 0 0) kc_3 (ws_19 w2) tw_1388 rfl (rr0 (Nat.le_of_ble_eq_true rfl) (Nat.le_of_ble_eq_true rfl)) (Nat.le_of_ble_eq_true rfl) xs0 k (fun r6 h4 kk => ?_)
  obtain ⟨w5, k⟩ := kk
  refine aw_if_eq (tgt := 21) d_X3_firstOf_9 rfl (fun c7 => ?_) (fun c7 => ?_)
  · have k := k.1 c7
    refine aw_iconst (v := (-1)) d_X3_firstOf_21 ic_m1 ?_
    exact aw_iret rfl d_X3_firstOf_22 ⟨Nat.le_refl _, Nat.le_refl _⟩ ⟨_, rfl, k⟩
  · have k := k.2 c7
    refine aw_aload_n (i := 0) rfl d_X3_firstOf_12 0 rfl ?_
    refine aw_getr (k0 := 10) kc_3 (ws_19 w5) (Nat.le_of_ble_eq_true rfl) tw_333 d_X3_firstOf_13 rfl (wr_19_10 w5) ?_
    refine aw_iload_n (i := 1) rfl d_X3_firstOf_16 1 rfl ?_
    obtain ⟨b8, k⟩ := k
    refine aw_iald (ws_91 w5) b8 d_X3_firstOf_17 ?_
    refine aw_goto (tgt := 22) d_X3_firstOf_18 rfl ?_
    exact aw_iret rfl d_X3_firstOf_22 ⟨Nat.le_refl _, Nat.le_refl _⟩ ⟨_, rfl, k⟩
theorem t_X3_foundFor (d : Nat) (h : Hp_) (w : Wf h) (x1 : Int32) (K : Int32 → Hp_ → Prop) (k : Cv (m_X3_solve (d + 3) 0 0) [.ref 19] h (fun h1 => Wf h1 ∧ (Ci (m_X3_hasLost (d + 0) 0 0) [.ref 19, .int x1] h1 (fun r6 h4 => Wf h4 ∧ ((r6 = 0 → K (-1) h4) ∧ (¬ r6 = 0 → vp_in x1 8 ∧ (K ((h_i h4 90 x1.toNatClampNeg) &&& (-257)) h4))))))) : Ci (m_X3_foundFor (d + 4) 0 0) [.ref 19, .int x1] h K := by
  refine Ct.of (fun _ _ _ => trivial) rfl (Nat.le_of_ble_eq_true rfl) ?_
  show AW (m_X3_foundFor (d + 4) 0 0) 0 0 0 [(0, .ref 19), (1, .int x1)] [] h (kI K)
  refine aw_aload_n (i := 0) rfl d_X3_foundFor_0 0 rfl ?_
  refine aw_Vv 19 [] [] d_X3_foundFor_1 (cV_X3_solve (d + 3) 0 0) kc_3 (ws_19 w) tw_1339 rfl (rr0 (Nat.le_of_ble_eq_true rfl) (Nat.le_of_ble_eq_true rfl)) (Nat.le_of_ble_eq_true rfl) xs0 k (fun h1 kk => ?_)
  obtain ⟨w2, k⟩ := kk
  refine aw_aload_n (i := 0) rfl d_X3_foundFor_4 0 rfl ?_
  refine aw_iload_n (i := 1) rfl d_X3_foundFor_5 1 rfl ?_
  refine aw_Vi 19 [.int x1] [] d_X3_foundFor_6 (cV_X3_hasLost (d + 0) 0 0) kc_3 (ws_19 w2) tw_1388 rfl (rr0 (Nat.le_of_ble_eq_true rfl) (Nat.le_of_ble_eq_true rfl)) (Nat.le_of_ble_eq_true rfl) xs0 k (fun r6 h4 kk => ?_)
  obtain ⟨w5, k⟩ := kk
  refine aw_if_eq (tgt := 25) d_X3_foundFor_9 rfl (fun c7 => ?_) (fun c7 => ?_)
  · have k := k.1 c7
    refine aw_iconst (v := (-1)) d_X3_foundFor_25 ic_m1 ?_
    exact aw_iret rfl d_X3_foundFor_26 ⟨Nat.le_refl _, Nat.le_refl _⟩ ⟨_, rfl, k⟩
  · have k := k.2 c7
    refine aw_aload_n (i := 0) rfl d_X3_foundFor_12 0 rfl ?_
    refine aw_getr (k0 := 9) kc_3 (ws_19 w5) (Nat.le_of_ble_eq_true rfl) tw_332 d_X3_foundFor_13 rfl (wr_19_9 w5) ?_
    refine aw_iload_n (i := 1) rfl d_X3_foundFor_16 1 rfl ?_
    obtain ⟨b8, k⟩ := k
    refine aw_iald (ws_90 w5) b8 d_X3_foundFor_17 ?_
    refine aw_sipush (v := (-257)) d_X3_foundFor_18 is_m257 ?_
    refine aw_iand d_X3_foundFor_21 ?_
    refine aw_goto (tgt := 26) d_X3_foundFor_22 rfl ?_
    exact aw_iret rfl d_X3_foundFor_26 ⟨Nat.le_refl _, Nat.le_refl _⟩ ⟨_, rfl, k⟩
theorem t_X3_isSure (d : Nat) (h : Hp_) (w : Wf h) (x1 : Int32) (K : Int32 → Hp_ → Prop) (k : Cv (m_X3_solve (d + 3) 0 0) [.ref 19] h (fun h1 => Wf h1 ∧ (Ci (m_X3_hasLost (d + 0) 0 0) [.ref 19, .int x1] h1 (fun r6 h4 => Wf h4 ∧ ((r6 = 0 → K 0 h4) ∧ (¬ r6 = 0 → vp_in x1 8 ∧ (Ci (m_J6_bitCount_0f7a4 (d + 0) 0 0) [.int (h_i h4 90 x1.toNatClampNeg)] h4 (fun r11 h9 => Wf h9 ∧ ((¬ r11 = 1 → K 0 h9) ∧ (r11 = 1 → K 1 h9)))))))))) : Ci (m_X3_isSure (d + 4) 0 0) [.ref 19, .int x1] h K := by
  refine Ct.of (fun _ _ _ => trivial) rfl (Nat.le_of_ble_eq_true rfl) ?_
  show AW (m_X3_isSure (d + 4) 0 0) 0 0 0 [(0, .ref 19), (1, .int x1)] [] h (kI K)
  refine aw_aload_n (i := 0) rfl d_X3_isSure_0 0 rfl ?_
  refine aw_Vv 19 [] [] d_X3_isSure_1 (cV_X3_solve (d + 3) 0 0) kc_3 (ws_19 w) tw_1339 rfl (rr0 (Nat.le_of_ble_eq_true rfl) (Nat.le_of_ble_eq_true rfl)) (Nat.le_of_ble_eq_true rfl) xs0 k (fun h1 kk => ?_)
  obtain ⟨w2, k⟩ := kk
  refine aw_aload_n (i := 0) rfl d_X3_isSure_4 0 rfl ?_
  refine aw_iload_n (i := 1) rfl d_X3_isSure_5 1 rfl ?_
  refine aw_Vi 19 [.int x1] [] d_X3_isSure_6 (cV_X3_hasLost (d + 0) 0 0) kc_3 (ws_19 w2) tw_1388 rfl (rr0 (Nat.le_of_ble_eq_true rfl) (Nat.le_of_ble_eq_true rfl)) (Nat.le_of_ble_eq_true rfl) xs0 k (fun r6 h4 kk => ?_)
  obtain ⟨w5, k⟩ := kk
  refine aw_if_eq (tgt := 29) d_X3_isSure_9 rfl (fun c7 => ?_) (fun c7 => ?_)
  · have k := k.1 c7
    refine aw_iconst (v := 0) d_X3_isSure_29 ic_0 ?_
    exact aw_zret rfl rfl d_X3_isSure_30 ⟨Nat.le_refl _, Nat.le_refl _⟩ ⟨_, rfl, k⟩
  · have k := k.2 c7
    refine aw_aload_n (i := 0) rfl d_X3_isSure_12 0 rfl ?_
    refine aw_getr (k0 := 9) kc_3 (ws_19 w5) (Nat.le_of_ble_eq_true rfl) tw_332 d_X3_isSure_13 rfl (wr_19_9 w5) ?_
    refine aw_iload_n (i := 1) rfl d_X3_isSure_16 1 rfl ?_
    obtain ⟨b8, k⟩ := k
    refine aw_iald (ws_90 w5) b8 d_X3_isSure_17 ?_
    refine aw_Si [.int (h_i h4 90 x1.toNatClampNeg)] [] d_X3_isSure_18 (cS_J6_bitCount_0f7a4 (d + 0) 0 0) tw_1405 rfl (rr0 (Nat.le_of_ble_eq_true rfl) (Nat.le_of_ble_eq_true rfl)) (Nat.le_of_ble_eq_true rfl) xs0 k (fun r11 h9 kk => ?_)
    obtain ⟨w10, k⟩ := kk
    refine aw_iconst (v := 1) d_X3_isSure_21 ic_1 ?_
    refine aw_icmp_ne (tgt := 29) d_X3_isSure_22 rfl (fun c12 => ?_) (fun c12 => ?_)
    · have k := k.1 c12
      refine aw_iconst (v := 0) d_X3_isSure_29 ic_0 ?_
      exact aw_zret rfl rfl d_X3_isSure_30 ⟨Nat.le_refl _, Nat.le_refl _⟩ ⟨_, rfl, k⟩
    · have k := k.2 c12
      refine aw_iconst (v := 1) d_X3_isSure_25 ic_1 ?_
      refine aw_goto (tgt := 30) d_X3_isSure_26 rfl ?_
      exact aw_zret rfl rfl d_X3_isSure_30 ⟨Nat.le_refl _, Nat.le_refl _⟩ ⟨_, rfl, k⟩
theorem t_X11_joined (d : Nat) (h : Hp_) (w : Wf h) (x1 : Int32) (K : Int32 → Hp_ → Prop) (k : Ci (m_X3_hasLost (d + 0) 0 0) [.ref 19, .int x1] h (fun r3 h1 => Wf h1 ∧ ((r3 = 0 → K (-1) h1) ∧ (¬ r3 = 0 → Ci (m_X3_firstOf (d + 4) 0 0) [.ref 19, .int x1] h1 (fun r7 h5 => Wf h5 ∧ (K r7 h5)))))) : Ci (m_X11_joined (d + 5) 0 0) [.ref 0, .int x1] h K := by
  refine Ct.of (fun _ _ _ => trivial) rfl (Nat.le_of_ble_eq_true rfl) ?_
  show AW (m_X11_joined (d + 5) 0 0) 0 0 0 [(0, .ref 0), (1, .int x1)] [] h (kI K)
  refine aw_aload_n (i := 0) rfl d_X11_joined_0 0 rfl ?_
  refine aw_getr (k0 := 11) kc_11 (ws_0 w) (Nat.le_of_ble_eq_true rfl) tw_498 d_X11_joined_1 rfl (wr_0_11 w) ?_
  refine aw_iload_n (i := 1) rfl d_X11_joined_4 1 rfl ?_
  refine aw_Vi 19 [.int x1] [] d_X11_joined_5 (cV_X3_hasLost (d + 0) 0 0) kc_3 (ws_19 w) tw_1380 rfl (rr0 (Nat.le_of_ble_eq_true rfl) (Nat.le_of_ble_eq_true rfl)) (Nat.le_of_ble_eq_true rfl) xs0 k (fun r3 h1 kk => ?_)
  obtain ⟨w2, k⟩ := kk
  refine aw_if_eq (tgt := 22) d_X11_joined_8 rfl (fun c4 => ?_) (fun c4 => ?_)
  · have k := k.1 c4
    refine aw_iconst (v := (-1)) d_X11_joined_22 ic_m1 ?_
    exact aw_iret rfl d_X11_joined_23 ⟨Nat.le_refl _, Nat.le_refl _⟩ ⟨_, rfl, k⟩
  · have k := k.2 c4
    refine aw_aload_n (i := 0) rfl d_X11_joined_11 0 rfl ?_
    refine aw_getr (k0 := 11) kc_11 (ws_0 w2) (Nat.le_of_ble_eq_true rfl) tw_498 d_X11_joined_12 rfl (wr_0_11 w2) ?_
    refine aw_iload_n (i := 1) rfl d_X11_joined_15 1 rfl ?_
    refine aw_Vi 19 [.int x1] [] d_X11_joined_16 (cV_X3_firstOf (d + 4) 0 0) kc_3 (ws_19 w2) tw_1384 rfl (rr0 (Nat.le_of_ble_eq_true rfl) (Nat.le_of_ble_eq_true rfl)) (Nat.le_of_ble_eq_true rfl) xs0 k (fun r7 h5 kk => ?_)
    obtain ⟨w6, k⟩ := kk
    refine aw_goto (tgt := 23) d_X11_joined_19 rfl ?_
    exact aw_iret rfl d_X11_joined_23 ⟨Nat.le_refl _, Nat.le_refl _⟩ ⟨_, rfl, k⟩
theorem t_X11_rivals (d : Nat) (h : Hp_) (w : Wf h) (x1 : Int32) (K : Int32 → Hp_ → Prop) (k : Ci (m_X3_hasLost (d + 0) 0 0) [.ref 19, .int x1] h (fun r3 h1 => Wf h1 ∧ ((r3 = 0 → K (-1) h1) ∧ (¬ r3 = 0 → Ci (m_X3_foundFor (d + 4) 0 0) [.ref 19, .int x1] h1 (fun r7 h5 => Wf h5 ∧ (K r7 h5)))))) : Ci (m_X11_rivals (d + 5) 0 0) [.ref 0, .int x1] h K := by
  refine Ct.of (fun _ _ _ => trivial) rfl (Nat.le_of_ble_eq_true rfl) ?_
  show AW (m_X11_rivals (d + 5) 0 0) 0 0 0 [(0, .ref 0), (1, .int x1)] [] h (kI K)
  refine aw_aload_n (i := 0) rfl d_X11_rivals_0 0 rfl ?_
  refine aw_getr (k0 := 11) kc_11 (ws_0 w) (Nat.le_of_ble_eq_true rfl) tw_498 d_X11_rivals_1 rfl (wr_0_11 w) ?_
  refine aw_iload_n (i := 1) rfl d_X11_rivals_4 1 rfl ?_
  refine aw_Vi 19 [.int x1] [] d_X11_rivals_5 (cV_X3_hasLost (d + 0) 0 0) kc_3 (ws_19 w) tw_1380 rfl (rr0 (Nat.le_of_ble_eq_true rfl) (Nat.le_of_ble_eq_true rfl)) (Nat.le_of_ble_eq_true rfl) xs0 k (fun r3 h1 kk => ?_)
  obtain ⟨w2, k⟩ := kk
  refine aw_if_eq (tgt := 22) d_X11_rivals_8 rfl (fun c4 => ?_) (fun c4 => ?_)
  · have k := k.1 c4
    refine aw_iconst (v := (-1)) d_X11_rivals_22 ic_m1 ?_
    exact aw_iret rfl d_X11_rivals_23 ⟨Nat.le_refl _, Nat.le_refl _⟩ ⟨_, rfl, k⟩
  · have k := k.2 c4
    refine aw_aload_n (i := 0) rfl d_X11_rivals_11 0 rfl ?_
    refine aw_getr (k0 := 11) kc_11 (ws_0 w2) (Nat.le_of_ble_eq_true rfl) tw_498 d_X11_rivals_12 rfl (wr_0_11 w2) ?_
    refine aw_iload_n (i := 1) rfl d_X11_rivals_15 1 rfl ?_
    refine aw_Vi 19 [.int x1] [] d_X11_rivals_16 (cV_X3_foundFor (d + 4) 0 0) kc_3 (ws_19 w2) tw_1393 rfl (rr0 (Nat.le_of_ble_eq_true rfl) (Nat.le_of_ble_eq_true rfl)) (Nat.le_of_ble_eq_true rfl) xs0 k (fun r7 h5 kk => ?_)
    obtain ⟨w6, k⟩ := kk
    refine aw_goto (tgt := 23) d_X11_rivals_19 rfl ?_
    exact aw_iret rfl d_X11_rivals_23 ⟨Nat.le_refl _, Nat.le_refl _⟩ ⟨_, rfl, k⟩
theorem t_X11_sure (d : Nat) (h : Hp_) (w : Wf h) (x1 : Int32) (K : Int32 → Hp_ → Prop) (k : Ci (m_X3_hasLost (d + 0) 0 0) [.ref 19, .int x1] h (fun r3 h1 => Wf h1 ∧ ((¬ r3 = 0 → Ci (m_X3_isSure (d + 4) 0 0) [.ref 19, .int x1] h1 (fun r7 h5 => Wf h5 ∧ ((r7 = 0 → K 0 h5) ∧ (¬ r7 = 0 → K 1 h5)))) ∧ (r3 = 0 → K (-1) h1)))) : Ci (m_X11_sure (d + 5) 0 0) [.ref 0, .int x1] h K := by
  refine Ct.of (fun _ _ _ => trivial) rfl (Nat.le_of_ble_eq_true rfl) ?_
  show AW (m_X11_sure (d + 5) 0 0) 0 0 0 [(0, .ref 0), (1, .int x1)] [] h (kI K)
  refine aw_aload_n (i := 0) rfl d_X11_sure_0 0 rfl ?_
  refine aw_getr (k0 := 11) kc_11 (ws_0 w) (Nat.le_of_ble_eq_true rfl) tw_498 d_X11_sure_1 rfl (wr_0_11 w) ?_
  refine aw_iload_n (i := 1) rfl d_X11_sure_4 1 rfl ?_
  refine aw_Vi 19 [.int x1] [] d_X11_sure_5 (cV_X3_hasLost (d + 0) 0 0) kc_3 (ws_19 w) tw_1380 rfl (rr0 (Nat.le_of_ble_eq_true rfl) (Nat.le_of_ble_eq_true rfl)) (Nat.le_of_ble_eq_true rfl) xs0 k (fun r3 h1 kk => ?_)
  obtain ⟨w2, k⟩ := kk
  refine aw_if_ne (tgt := 13) d_X11_sure_8 rfl (fun c4 => ?_) (fun c4 => ?_)
  · have k := k.1 c4
    refine aw_aload_n (i := 0) rfl d_X11_sure_13 0 rfl ?_
    refine aw_getr (k0 := 11) kc_11 (ws_0 w2) (Nat.le_of_ble_eq_true rfl) tw_498 d_X11_sure_14 rfl (wr_0_11 w2) ?_
    refine aw_iload_n (i := 1) rfl d_X11_sure_17 1 rfl ?_
    refine aw_Vi 19 [.int x1] [] d_X11_sure_18 (cV_X3_isSure (d + 4) 0 0) kc_3 (ws_19 w2) tw_1401 rfl (rr0 (Nat.le_of_ble_eq_true rfl) (Nat.le_of_ble_eq_true rfl)) (Nat.le_of_ble_eq_true rfl) xs0 k (fun r7 h5 kk => ?_)
    obtain ⟨w6, k⟩ := kk
    refine aw_if_eq (tgt := 28) d_X11_sure_21 rfl (fun c8 => ?_) (fun c8 => ?_)
    · have k := k.1 c8
      refine aw_iconst (v := 0) d_X11_sure_28 ic_0 ?_
      exact aw_iret rfl d_X11_sure_29 ⟨Nat.le_refl _, Nat.le_refl _⟩ ⟨_, rfl, k⟩
    · have k := k.2 c8
      refine aw_iconst (v := 1) d_X11_sure_24 ic_1 ?_
      refine aw_goto (tgt := 29) d_X11_sure_25 rfl ?_
      exact aw_iret rfl d_X11_sure_29 ⟨Nat.le_refl _, Nat.le_refl _⟩ ⟨_, rfl, k⟩
  · have k := k.2 c4
    refine aw_iconst (v := (-1)) d_X11_sure_11 ic_m1 ?_
    exact aw_iret rfl d_X11_sure_12 ⟨Nat.le_refl _, Nat.le_refl _⟩ ⟨_, rfl, k⟩
