theorem t_X0_pack (d : Nat) (h : Hp_) (x0 : Int32) (x1 : Int32) (x2 : Int32) (K : Int32 → Hp_ → Prop) (k : K ((x0 ||| (x1 <<< ((2 : Int32) &&& 31))) ||| (x2 <<< ((6 : Int32) &&& 31))) h) : Ci (m_X0_pack (d + 0) 0 0) [.int x0, .int x1, .int x2] h K := by
  refine Ct.of (fun _ _ _ => trivial) rfl (Nat.le_of_ble_eq_true rfl) ?_
  show AW (m_X0_pack (d + 0) 0 0) 0 0 0 [(0, .int x0), (1, .int x1), (2, .int x2)] [] h (kI K)
  refine aw_iload_n (i := 0) rfl d_X0_pack_0 0 rfl ?_
  refine aw_iload_n (i := 1) rfl d_X0_pack_1 1 rfl ?_
  refine aw_iconst (v := 2) d_X0_pack_2 ic_2 ?_
  refine aw_ishl d_X0_pack_3 ?_
  refine aw_ior d_X0_pack_4 ?_
  refine aw_iload_n (i := 2) rfl d_X0_pack_5 2 rfl ?_
  refine aw_bipush (v := 6) d_X0_pack_6 ib_6 ?_
  refine aw_ishl d_X0_pack_8 ?_
  refine aw_ior d_X0_pack_9 ?_
  exact aw_iret rfl d_X0_pack_10 ⟨Nat.le_refl _, Nat.le_refl _⟩ ⟨_, rfl, k⟩
theorem t_X0_has (d : Nat) (h : Hp_) (w : Wf h) (x1 : Int32) (K : Int32 → Hp_ → Prop) (k : (x1 < 0 → K 0 h) ∧ (¬ x1 < 0 → ((h_i h 12 3) ≤ x1 → K 0 h) ∧ (¬ (h_i h 12 3) ≤ x1 → K 1 h))) : Ci (m_X0_has (d + 0) 0 0) [.ref 12, .int x1] h K := by
  refine Ct.of (fun _ _ _ => trivial) rfl (Nat.le_of_ble_eq_true rfl) ?_
  show AW (m_X0_has (d + 0) 0 0) 0 0 0 [(0, .ref 12), (1, .int x1)] [] h (kI K)
  refine aw_iload_n (i := 1) rfl d_X0_has_0 1 rfl ?_
  refine aw_if_lt (tgt := 16) d_X0_has_1 rfl (fun c1 => ?_) (fun c1 => ?_)
  · have k := k.1 c1
    refine aw_iconst (v := 0) d_X0_has_16 ic_0 ?_
    exact aw_zret rfl rfl d_X0_has_17 ⟨Nat.le_refl _, Nat.le_refl _⟩ ⟨_, rfl, k⟩
  · have k := k.2 c1
    refine aw_iload_n (i := 1) rfl d_X0_has_4 1 rfl ?_
    refine aw_aload_n (i := 0) rfl d_X0_has_5 0 rfl ?_
    refine aw_geti (k0 := 3) kc_0 (ws_12 w) (Nat.le_of_ble_eq_true rfl) tw_106 d_X0_has_6 rfl ?_
    refine aw_icmp_ge (tgt := 16) d_X0_has_9 rfl (fun c2 => ?_) (fun c2 => ?_)
    · have k := k.1 c2
      refine aw_iconst (v := 0) d_X0_has_16 ic_0 ?_
      exact aw_zret rfl rfl d_X0_has_17 ⟨Nat.le_refl _, Nat.le_refl _⟩ ⟨_, rfl, k⟩
    · have k := k.2 c2
      refine aw_iconst (v := 1) d_X0_has_12 ic_1 ?_
      refine aw_goto (tgt := 17) d_X0_has_13 rfl ?_
      exact aw_zret rfl rfl d_X0_has_17 ⟨Nat.le_refl _, Nat.le_refl _⟩ ⟨_, rfl, k⟩
theorem t_X0_stepAt (d : Nat) (h : Hp_) (w : Wf h) (x1 : Int32) (x2 : Int32) (K : Int32 → Hp_ → Prop) (k : (((x1 * 150) + x2) < 0 → K 0 h) ∧ (¬ ((x1 * 150) + x2) < 0 → (1800 ≤ ((x1 * 150) + x2) → K 0 h) ∧ (¬ 1800 ≤ ((x1 * 150) + x2) → vp_in ((x1 * 150) + x2) 1800 ∧ (K (h_i h 34 (((x1 * 150) + x2) : Int32).toNatClampNeg) h)))) : Ci (m_X0_stepAt (d + 0) 0 0) [.ref 12, .int x1, .int x2] h K := by
  refine Ct.of (fun _ _ _ => trivial) rfl (Nat.le_of_ble_eq_true rfl) ?_
  show AW (m_X0_stepAt (d + 0) 0 0) 0 0 0 [(0, .ref 12), (1, .int x1), (2, .int x2)] [] h (kI K)
  refine aw_iload_n (i := 1) rfl d_X0_stepAt_0 1 rfl ?_
  refine aw_sipush (v := 150) d_X0_stepAt_1 is_150 ?_
  refine aw_imul d_X0_stepAt_4 ?_
  refine aw_iload_n (i := 2) rfl d_X0_stepAt_5 2 rfl ?_
  refine aw_iadd d_X0_stepAt_6 ?_
  refine aw_istore_n (i := 3) rfl [(0, .ref 12), (1, .int x1), (2, .int x2), (3, .int ((x1 * 150) + x2))] d_X0_stepAt_7 (Nat.le_of_ble_eq_true rfl) rfl rfl ?_
  refine aw_iload_n (i := 3) rfl d_X0_stepAt_8 3 rfl ?_
  refine aw_if_lt (tgt := 30) d_X0_stepAt_9 rfl (fun c1 => ?_) (fun c1 => ?_)
  · have k := k.1 c1
    refine aw_iconst (v := 0) d_X0_stepAt_30 ic_0 ?_
    exact aw_iret rfl d_X0_stepAt_31 ⟨Nat.le_refl _, Nat.le_refl _⟩ ⟨_, rfl, k⟩
  · have k := k.2 c1
    refine aw_iload_n (i := 3) rfl d_X0_stepAt_12 3 rfl ?_
    refine aw_aload_n (i := 0) rfl d_X0_stepAt_13 0 rfl ?_
    refine aw_getr (k0 := 0) kc_0 (ws_12 w) (Nat.le_of_ble_eq_true rfl) tw_103 d_X0_stepAt_14 rfl (wr_12_0 w) ?_
    refine aw_alen (v := 1800) (ws_34 w) (Nat.le_of_ble_eq_true rfl) rfl d_X0_stepAt_17 ?_
    refine aw_icmp_ge (tgt := 30) d_X0_stepAt_18 rfl (fun c2 => ?_) (fun c2 => ?_)
    · have k := k.1 c2
      refine aw_iconst (v := 0) d_X0_stepAt_30 ic_0 ?_
      exact aw_iret rfl d_X0_stepAt_31 ⟨Nat.le_refl _, Nat.le_refl _⟩ ⟨_, rfl, k⟩
    · have k := k.2 c2
      refine aw_aload_n (i := 0) rfl d_X0_stepAt_21 0 rfl ?_
      refine aw_getr (k0 := 0) kc_0 (ws_12 w) (Nat.le_of_ble_eq_true rfl) tw_103 d_X0_stepAt_22 rfl (wr_12_0 w) ?_
      refine aw_iload_n (i := 3) rfl d_X0_stepAt_25 3 rfl ?_
      obtain ⟨b3, k⟩ := k
      refine aw_iald (ws_34 w) b3 d_X0_stepAt_26 ?_
      refine aw_goto (tgt := 31) d_X0_stepAt_27 rfl ?_
      exact aw_iret rfl d_X0_stepAt_31 ⟨Nat.le_refl _, Nat.le_refl _⟩ ⟨_, rfl, k⟩
theorem t_X0_kindOf (d : Nat) (h : Hp_) (x0 : Int32) (K : Int32 → Hp_ → Prop) (k : K (x0 &&& 3) h) : Ci (m_X0_kindOf (d + 0) 0 0) [.int x0] h K := by
  refine Ct.of (fun _ _ _ => trivial) rfl (Nat.le_of_ble_eq_true rfl) ?_
  show AW (m_X0_kindOf (d + 0) 0 0) 0 0 0 [(0, .int x0)] [] h (kI K)
  refine aw_iload_n (i := 0) rfl d_X0_kindOf_0 0 rfl ?_
  refine aw_iconst (v := 3) d_X0_kindOf_1 ic_3 ?_
  refine aw_iand d_X0_kindOf_2 ?_
  exact aw_iret rfl d_X0_kindOf_3 ⟨Nat.le_refl _, Nat.le_refl _⟩ ⟨_, rfl, k⟩
theorem t_X0_placeOf (d : Nat) (h : Hp_) (x0 : Int32) (K : Int32 → Hp_ → Prop) (k : K ((x0 >>> ((2 : Int32) &&& 31)) &&& 15) h) : Ci (m_X0_placeOf (d + 0) 0 0) [.int x0] h K := by
  refine Ct.of (fun _ _ _ => trivial) rfl (Nat.le_of_ble_eq_true rfl) ?_
  show AW (m_X0_placeOf (d + 0) 0 0) 0 0 0 [(0, .int x0)] [] h (kI K)
  refine aw_iload_n (i := 0) rfl d_X0_placeOf_0 0 rfl ?_
  refine aw_iconst (v := 2) d_X0_placeOf_1 ic_2 ?_
  refine aw_ishr d_X0_placeOf_2 ?_
  refine aw_bipush (v := 15) d_X0_placeOf_3 ib_15 ?_
  refine aw_iand d_X0_placeOf_5 ?_
  exact aw_iret rfl d_X0_placeOf_6 ⟨Nat.le_refl _, Nat.le_refl _⟩ ⟨_, rfl, k⟩
theorem t_X0_amountOf (d : Nat) (h : Hp_) (x0 : Int32) (K : Int32 → Hp_ → Prop) (k : K (x0 >>> ((6 : Int32) &&& 31)) h) : Ci (m_X0_amountOf (d + 0) 0 0) [.int x0] h K := by
  refine Ct.of (fun _ _ _ => trivial) rfl (Nat.le_of_ble_eq_true rfl) ?_
  show AW (m_X0_amountOf (d + 0) 0 0) 0 0 0 [(0, .int x0)] [] h (kI K)
  refine aw_iload_n (i := 0) rfl d_X0_amountOf_0 0 rfl ?_
  refine aw_bipush (v := 6) d_X0_amountOf_1 ib_6 ?_
  refine aw_ishr d_X0_amountOf_3 ?_
  exact aw_iret rfl d_X0_amountOf_4 ⟨Nat.le_refl _, Nat.le_refl _⟩ ⟨_, rfl, k⟩
theorem t_X1_has (d : Nat) (h : Hp_) (w : Wf h) (x1 : Int32) (K : Int32 → Hp_ → Prop) (k : (x1 < 0 → K 0 h) ∧ (¬ x1 < 0 → ((h_i h 18 3) ≤ x1 → K 0 h) ∧ (¬ (h_i h 18 3) ≤ x1 → K 1 h))) : Ci (m_X1_has (d + 0) 0 0) [.ref 18, .int x1] h K := by
  refine Ct.of (fun _ _ _ => trivial) rfl (Nat.le_of_ble_eq_true rfl) ?_
  show AW (m_X1_has (d + 0) 0 0) 0 0 0 [(0, .ref 18), (1, .int x1)] [] h (kI K)
  refine aw_iload_n (i := 1) rfl d_X1_has_0 1 rfl ?_
  refine aw_if_lt (tgt := 16) d_X1_has_1 rfl (fun c1 => ?_) (fun c1 => ?_)
  · have k := k.1 c1
    refine aw_iconst (v := 0) d_X1_has_16 ic_0 ?_
    exact aw_zret rfl rfl d_X1_has_17 ⟨Nat.le_refl _, Nat.le_refl _⟩ ⟨_, rfl, k⟩
  · have k := k.2 c1
    refine aw_iload_n (i := 1) rfl d_X1_has_4 1 rfl ?_
    refine aw_aload_n (i := 0) rfl d_X1_has_5 0 rfl ?_
    refine aw_geti (k0 := 3) kc_1 (ws_18 w) (Nat.le_of_ble_eq_true rfl) tw_265 d_X1_has_6 rfl ?_
    refine aw_icmp_ge (tgt := 16) d_X1_has_9 rfl (fun c2 => ?_) (fun c2 => ?_)
    · have k := k.1 c2
      refine aw_iconst (v := 0) d_X1_has_16 ic_0 ?_
      exact aw_zret rfl rfl d_X1_has_17 ⟨Nat.le_refl _, Nat.le_refl _⟩ ⟨_, rfl, k⟩
    · have k := k.2 c2
      refine aw_iconst (v := 1) d_X1_has_12 ic_1 ?_
      refine aw_goto (tgt := 17) d_X1_has_13 rfl ?_
      exact aw_zret rfl rfl d_X1_has_17 ⟨Nat.le_refl _, Nat.le_refl _⟩ ⟨_, rfl, k⟩
theorem t_X1_start (d : Nat) (h : Hp_) (w : Wf h) (x1 : Int32) (x2 : Int32) (K : Int32 → Hp_ → Prop) (k : ((h_i h 18 3) < 30 → vp_in (h_i h 18 3) 30 ∧ (vp_in (h_i h 18 3) 30 ∧ (K (((h_i h 18 3) + 1) - 1) (h_im (h_im (h_im h 71 ((h_i h 18 3) : Int32).toNatClampNeg x1) 72 ((h_i h 18 3) : Int32).toNatClampNeg x2) 18 3 ((h_i h 18 3) + 1))))) ∧ (¬ (h_i h 18 3) < 30 → K (-1) h)) : Ci (m_X1_start (d + 0) 0 0) [.ref 18, .int x1, .int x2] h K := by
  refine Ct.of (fun _ _ _ => trivial) rfl (Nat.le_of_ble_eq_true rfl) ?_
  show AW (m_X1_start (d + 0) 0 0) 0 0 0 [(0, .ref 18), (1, .int x1), (2, .int x2)] [] h (kI K)
  refine aw_aload_n (i := 0) rfl d_X1_start_0 0 rfl ?_
  refine aw_geti (k0 := 3) kc_1 (ws_18 w) (Nat.le_of_ble_eq_true rfl) tw_265 d_X1_start_1 rfl ?_
  refine aw_bipush (v := 30) d_X1_start_4 ib_30 ?_
  refine aw_icmp_lt (tgt := 11) d_X1_start_6 rfl (fun c1 => ?_) (fun c1 => ?_)
  · have k := k.1 c1
    refine aw_aload_n (i := 0) rfl d_X1_start_11 0 rfl ?_
    refine aw_getr (k0 := 0) kc_1 (ws_18 w) (Nat.le_of_ble_eq_true rfl) tw_262 d_X1_start_12 rfl (wr_18_0 w) ?_
    refine aw_aload_n (i := 0) rfl d_X1_start_15 0 rfl ?_
    refine aw_geti (k0 := 3) kc_1 (ws_18 w) (Nat.le_of_ble_eq_true rfl) tw_265 d_X1_start_16 rfl ?_
    refine aw_iload_n (i := 1) rfl d_X1_start_19 1 rfl ?_
    obtain ⟨b2, k⟩ := k
    refine aw_iast (ws_71 w) b2 d_X1_start_20 ?_
    refine aw_aload_n (i := 0) rfl d_X1_start_21 0 rfl ?_
    refine aw_getr (k0 := 1) kc_1 (ws_18 w) (Nat.le_of_ble_eq_true rfl) tw_263 d_X1_start_22 rfl (wr_18_1 w) ?_
    refine aw_aload_n (i := 0) rfl d_X1_start_25 0 rfl ?_
    refine aw_geti (k0 := 3) kc_1 (ws_18 w) (Nat.le_of_ble_eq_true rfl) tw_265 d_X1_start_26 rfl ?_
    refine aw_vi (v2 := (h_i h 18 3)) (rfl) ?_
    refine aw_iload_n (i := 2) rfl d_X1_start_29 2 rfl ?_
    obtain ⟨b3, k⟩ := k
    refine aw_iast (ws_72 w) b3 d_X1_start_30 ?_
    refine aw_aload_n (i := 0) rfl d_X1_start_31 0 rfl ?_
    refine aw_dup d_X1_start_32 rfl ?_
    refine aw_geti (k0 := 3) kc_1 (ws_18 w) (Nat.le_of_ble_eq_true rfl) tw_265 d_X1_start_33 rfl ?_
    refine aw_vi (v2 := (h_i h 18 3)) (rfl) ?_
    refine aw_iconst (v := 1) d_X1_start_36 ic_1 ?_
    refine aw_iadd d_X1_start_37 ?_
    refine aw_puti (k0 := 3) kc_1 (ws_18 w) (Nat.le_of_ble_eq_true rfl) tw_265 d_X1_start_38 rfl rfl nf_i ?_
    refine aw_aload_n (i := 0) rfl d_X1_start_41 0 rfl ?_
    refine aw_geti (k0 := 3) kc_1 (ws_18 w) (Nat.le_of_ble_eq_true rfl) tw_265 d_X1_start_42 rfl ?_
    refine aw_vi (v2 := ((h_i h 18 3) + 1)) (rfl) ?_
    refine aw_iconst (v := 1) d_X1_start_45 ic_1 ?_
    refine aw_isub d_X1_start_46 ?_
    exact aw_iret rfl d_X1_start_47 ⟨Nat.le_refl _, Nat.le_refl _⟩ ⟨_, rfl, k⟩
  · have k := k.2 c1
    refine aw_iconst (v := (-1)) d_X1_start_9 ic_m1 ?_
    exact aw_iret rfl d_X1_start_10 ⟨Nat.le_refl _, Nat.le_refl _⟩ ⟨_, rfl, k⟩
theorem t_X1_stillHeard (d : Nat) (h : Hp_) (x1 : Int32) (K : Int32 → Hp_ → Prop) (k : AW (m_X1_stillHeard (d + 0) 0 0) 0 0 4 [(0, .ref 18), (1, .int x1), (2, .int 0), (3, .int 0)] [] h (kI K)) : Ci (m_X1_stillHeard (d + 0) 0 0) [.ref 18, .int x1] h K := by
  refine Ct.of (fun _ _ _ => trivial) rfl (Nat.le_of_ble_eq_true rfl) ?_
  show AW (m_X1_stillHeard (d + 0) 0 0) 0 0 0 [(0, .ref 18), (1, .int x1)] [] h (kI K)
  refine aw_iconst (v := 0) d_X1_stillHeard_0 ic_0 ?_
  refine aw_istore_n (i := 2) rfl [(0, .ref 18), (1, .int x1), (2, .int 0)] d_X1_stillHeard_1 (Nat.le_of_ble_eq_true rfl) rfl rfl ?_
  refine aw_iconst (v := 0) d_X1_stillHeard_2 ic_0 ?_
  refine aw_istore_n (i := 3) rfl [(0, .ref 18), (1, .int x1), (2, .int 0), (3, .int 0)] d_X1_stillHeard_3 (Nat.le_of_ble_eq_true rfl) rfl rfl ?_
  exact k
theorem t_X1_stillHeard_4 (d : Nat) (h : Hp_) (w : Wf h) (x1 : Int32) (x2 : Int32) (x3 : Int32) (K : Int32 → Hp_ → Prop) (k : (16 ≤ x3 → K x2 h) ∧ (¬ 16 ≤ x3 → vp_in x3 16 ∧ (((h_i h 78 x3.toNatClampNeg) = (-1) → AW (m_X1_stillHeard (d + 0) 0 0) 0 0 4 [(0, .ref 18), (1, .int x1), (2, .int (x2 ||| ((1 : Int32) <<< (x3 &&& 31)))), (3, .int (x3 + 1))] [] h (kI K)) ∧ (¬ (h_i h 78 x3.toNatClampNeg) = (-1) → vp_in x3 16 ∧ (((h_i h 78 x3.toNatClampNeg) ≤ x1 → AW (m_X1_stillHeard (d + 0) 0 0) 0 0 4 [(0, .ref 18), (1, .int x1), (2, .int x2), (3, .int (x3 + 1))] [] h (kI K)) ∧ (¬ (h_i h 78 x3.toNatClampNeg) ≤ x1 → AW (m_X1_stillHeard (d + 0) 0 0) 0 0 4 [(0, .ref 18), (1, .int x1), (2, .int (x2 ||| ((1 : Int32) <<< (x3 &&& 31)))), (3, .int (x3 + 1))] [] h (kI K))))))) : AW (m_X1_stillHeard (d + 0) 0 0) 0 0 4 [(0, .ref 18), (1, .int x1), (2, .int x2), (3, .int x3)] [] h (kI K) := by
  refine aw_iload_n (i := 3) rfl d_X1_stillHeard_4 3 rfl ?_
  refine aw_bipush (v := 16) d_X1_stillHeard_5 ib_16 ?_
  refine aw_icmp_ge (tgt := 42) d_X1_stillHeard_7 rfl (fun c1 => ?_) (fun c1 => ?_)
  · have k := k.1 c1
    refine aw_iload_n (i := 2) rfl d_X1_stillHeard_42 2 rfl ?_
    exact aw_iret rfl d_X1_stillHeard_43 ⟨Nat.le_refl _, Nat.le_refl _⟩ ⟨_, rfl, k⟩
  · have k := k.2 c1
    refine aw_aload_n (i := 0) rfl d_X1_stillHeard_10 0 rfl ?_
    refine aw_getr (k0 := 9) kc_1 (ws_18 w) (Nat.le_of_ble_eq_true rfl) tw_275 d_X1_stillHeard_11 rfl (wr_18_9 w) ?_
    refine aw_iload_n (i := 3) rfl d_X1_stillHeard_14 3 rfl ?_
    obtain ⟨b2, k⟩ := k
    refine aw_iald (ws_78 w) b2 d_X1_stillHeard_15 ?_
    refine aw_iconst (v := (-1)) d_X1_stillHeard_16 ic_m1 ?_
    refine aw_icmp_eq (tgt := 30) d_X1_stillHeard_17 rfl (fun c3 => ?_) (fun c3 => ?_)
    · have k := k.1 c3
      refine aw_iload_n (i := 2) rfl d_X1_stillHeard_30 2 rfl ?_
      refine aw_iconst (v := 1) d_X1_stillHeard_31 ic_1 ?_
      refine aw_iload_n (i := 3) rfl d_X1_stillHeard_32 3 rfl ?_
      refine aw_ishl d_X1_stillHeard_33 ?_
      refine aw_ior d_X1_stillHeard_34 ?_
      refine aw_istore_n (i := 2) rfl [(0, .ref 18), (1, .int x1), (2, .int (x2 ||| ((1 : Int32) <<< (x3 &&& 31)))), (3, .int x3)] d_X1_stillHeard_35 (Nat.le_of_ble_eq_true rfl) rfl rfl ?_
      refine aw_iinc (v := (x3 + 1)) [(0, .ref 18), (1, .int x1), (2, .int (x2 ||| ((1 : Int32) <<< (x3 &&& 31)))), (3, .int (x3 + 1))] d_X1_stillHeard_36 3 rfl rfl (Nat.le_of_ble_eq_true rfl) rfl rfl ?_
      refine aw_goto (tgt := 4) d_X1_stillHeard_39 rfl ?_
      exact k
    · have k := k.2 c3
      refine aw_aload_n (i := 0) rfl d_X1_stillHeard_20 0 rfl ?_
      refine aw_getr (k0 := 9) kc_1 (ws_18 w) (Nat.le_of_ble_eq_true rfl) tw_275 d_X1_stillHeard_21 rfl (wr_18_9 w) ?_
      refine aw_iload_n (i := 3) rfl d_X1_stillHeard_24 3 rfl ?_
      obtain ⟨b4, k⟩ := k
      refine aw_iald (ws_78 w) b4 d_X1_stillHeard_25 ?_
      refine aw_iload_n (i := 1) rfl d_X1_stillHeard_26 1 rfl ?_
      refine aw_icmp_le (tgt := 36) d_X1_stillHeard_27 rfl (fun c5 => ?_) (fun c5 => ?_)
      · have k := k.1 c5
        refine aw_iinc (v := (x3 + 1)) [(0, .ref 18), (1, .int x1), (2, .int x2), (3, .int (x3 + 1))] d_X1_stillHeard_36 3 rfl rfl (Nat.le_of_ble_eq_true rfl) rfl rfl ?_
        refine aw_goto (tgt := 4) d_X1_stillHeard_39 rfl ?_
        exact k
      · have k := k.2 c5
        refine aw_iload_n (i := 2) rfl d_X1_stillHeard_30 2 rfl ?_
        refine aw_iconst (v := 1) d_X1_stillHeard_31 ic_1 ?_
        refine aw_iload_n (i := 3) rfl d_X1_stillHeard_32 3 rfl ?_
        refine aw_ishl d_X1_stillHeard_33 ?_
        refine aw_ior d_X1_stillHeard_34 ?_
        refine aw_istore_n (i := 2) rfl [(0, .ref 18), (1, .int x1), (2, .int (x2 ||| ((1 : Int32) <<< (x3 &&& 31)))), (3, .int x3)] d_X1_stillHeard_35 (Nat.le_of_ble_eq_true rfl) rfl rfl ?_
        refine aw_iinc (v := (x3 + 1)) [(0, .ref 18), (1, .int x1), (2, .int (x2 ||| ((1 : Int32) <<< (x3 &&& 31)))), (3, .int (x3 + 1))] d_X1_stillHeard_36 3 rfl rfl (Nat.le_of_ble_eq_true rfl) rfl rfl ?_
        refine aw_goto (tgt := 4) d_X1_stillHeard_39 rfl ?_
        exact k
theorem t_X2_openPoints (d : Nat) (h : Hp_) (x0 : Nat) (hs_x0 : h_sh h x0 = some (12, 17)) (lb_x0 : 400 ≤ x0) (K : Int32 → Hp_ → Prop) (k : K ((h_i h x0 12) - (h_i h x0 11)) h) : Ci (m_X2_openPoints (d + 0) 0 0) [.ref x0] h K := by
  refine Ct.of (fun _ _ _ => trivial) rfl (Nat.le_of_ble_eq_true rfl) ?_
  show AW (m_X2_openPoints (d + 0) 0 0) 0 0 0 [(0, .ref x0)] [] h (kI K)
  refine aw_aload_n (i := 0) rfl d_X2_openPoints_0 0 rfl ?_
  refine aw_geti (k0 := 12) kc_2 (hs_x0) (Nat.le_of_ble_eq_true rfl) tw_593 d_X2_openPoints_1 rfl ?_
  refine aw_aload_n (i := 0) rfl d_X2_openPoints_4 0 rfl ?_
  refine aw_geti (k0 := 11) kc_2 (hs_x0) (Nat.le_of_ble_eq_true rfl) tw_591 d_X2_openPoints_5 rfl ?_
  refine aw_isub d_X2_openPoints_8 ?_
  exact aw_iret rfl d_X2_openPoints_9 ⟨Nat.le_refl _, Nat.le_refl _⟩ ⟨_, rfl, k⟩
theorem t_X3_add (d : Nat) (h : Hp_) (w : Wf h) (x1 : Int32) (x2 : Int32) (K : Int32 → Hp_ → Prop) (k : (x1 = 0 → ((h_i h 19 3) < 8 → (x1 = 0 → vp_in (h_i h 19 3) 8 ∧ (K (h_i h 19 3) (h_im (h_im (h_im h 19 5 1) 86 ((h_i h 19 3) : Int32).toNatClampNeg x2) 19 3 ((h_i h 19 3) + 1)))) ∧ (¬ x1 = 0 → vp_in (h_i h 19 3) 8 ∧ (K (h_i h 19 3) (h_im (h_im (h_im h 19 5 1) 85 ((h_i h 19 3) : Int32).toNatClampNeg x2) 19 2 ((h_i h 19 2) + 1))))) ∧ (¬ (h_i h 19 3) < 8 → K (-1) h)) ∧ (¬ x1 = 0 → ((h_i h 19 2) < 8 → (x1 = 0 → vp_in (h_i h 19 2) 8 ∧ (K (h_i h 19 2) (h_im (h_im (h_im h 19 5 1) 86 ((h_i h 19 2) : Int32).toNatClampNeg x2) 19 3 ((h_i h 19 3) + 1)))) ∧ (¬ x1 = 0 → vp_in (h_i h 19 2) 8 ∧ (K (h_i h 19 2) (h_im (h_im (h_im h 19 5 1) 85 ((h_i h 19 2) : Int32).toNatClampNeg x2) 19 2 ((h_i h 19 2) + 1))))) ∧ (¬ (h_i h 19 2) < 8 → K (-1) h))) : Ci (m_X3_add (d + 0) 0 0) [.ref 19, .int x1, .int x2] h K := by
  refine Ct.of (fun _ _ _ => trivial) rfl (Nat.le_of_ble_eq_true rfl) ?_
  show AW (m_X3_add (d + 0) 0 0) 0 0 0 [(0, .ref 19), (1, .int x1), (2, .int x2)] [] h (kI K)
  refine aw_iload_n (i := 1) rfl d_X3_add_0 1 rfl ?_
  refine aw_if_eq (tgt := 11) d_X3_add_1 rfl (fun c1 => ?_) (fun c1 => ?_)
  · have k := k.1 c1
    refine aw_aload_n (i := 0) rfl d_X3_add_11 0 rfl ?_
    refine aw_geti (k0 := 3) kc_3 (ws_19 w) (Nat.le_of_ble_eq_true rfl) tw_325 d_X3_add_12 rfl ?_
    refine aw_istore_n (i := 3) rfl [(0, .ref 19), (1, .int x1), (2, .int x2), (3, .int (h_i h 19 3))] d_X3_add_15 (Nat.le_of_ble_eq_true rfl) rfl rfl ?_
    refine aw_iload_n (i := 3) rfl d_X3_add_16 3 rfl ?_
    refine aw_bipush (v := 8) d_X3_add_17 ib_8 ?_
    refine aw_icmp_lt (tgt := 24) d_X3_add_19 rfl (fun c2 => ?_) (fun c2 => ?_)
    · have k := k.1 c2
      refine aw_aload_n (i := 0) rfl d_X3_add_24 0 rfl ?_
      refine aw_iconst (v := 1) d_X3_add_25 ic_1 ?_
      refine aw_puti (k0 := 5) kc_3 (ws_19 w) (Nat.le_of_ble_eq_true rfl) tw_328 d_X3_add_26 rfl rfl ⟨rfl, rfl⟩ ?_
      refine aw_iload_n (i := 1) rfl d_X3_add_29 1 rfl ?_
      refine aw_if_eq (tgt := 53) d_X3_add_30 rfl (fun c3 => ?_) (fun c3 => ?_)
      · have k := k.1 c3
        refine aw_aload_n (i := 0) rfl d_X3_add_53 0 rfl ?_
        refine aw_getr (k0 := 1) kc_3 (ws_19 w) (Nat.le_of_ble_eq_true rfl) tw_322 d_X3_add_54 rfl (wr_19_1 w) ?_
        refine aw_iload_n (i := 3) rfl d_X3_add_57 3 rfl ?_
        refine aw_iload_n (i := 2) rfl d_X3_add_58 2 rfl ?_
        obtain ⟨b4, k⟩ := k
        refine aw_iast (ws_86 w) b4 d_X3_add_59 ?_
        refine aw_aload_n (i := 0) rfl d_X3_add_60 0 rfl ?_
        refine aw_dup d_X3_add_61 rfl ?_
        refine aw_geti (k0 := 3) kc_3 (ws_19 w) (Nat.le_of_ble_eq_true rfl) tw_325 d_X3_add_62 rfl ?_
        refine aw_vi (v2 := (h_i h 19 3)) (rfl) ?_
        refine aw_iconst (v := 1) d_X3_add_65 ic_1 ?_
        refine aw_iadd d_X3_add_66 ?_
        refine aw_puti (k0 := 3) kc_3 (ws_19 w) (Nat.le_of_ble_eq_true rfl) tw_325 d_X3_add_67 rfl rfl nf_i ?_
        refine aw_iload_n (i := 3) rfl d_X3_add_70 3 rfl ?_
        exact aw_iret rfl d_X3_add_71 ⟨Nat.le_refl _, Nat.le_refl _⟩ ⟨_, rfl, k⟩
      · have k := k.2 c3
        refine aw_aload_n (i := 0) rfl d_X3_add_33 0 rfl ?_
        refine aw_getr (k0 := 0) kc_3 (ws_19 w) (Nat.le_of_ble_eq_true rfl) tw_321 d_X3_add_34 rfl (wr_19_0 w) ?_
        refine aw_iload_n (i := 3) rfl d_X3_add_37 3 rfl ?_
        refine aw_iload_n (i := 2) rfl d_X3_add_38 2 rfl ?_
        obtain ⟨b5, k⟩ := k
        refine aw_iast (ws_85 w) b5 d_X3_add_39 ?_
        refine aw_aload_n (i := 0) rfl d_X3_add_40 0 rfl ?_
        refine aw_dup d_X3_add_41 rfl ?_
        refine aw_geti (k0 := 2) kc_3 (ws_19 w) (Nat.le_of_ble_eq_true rfl) tw_323 d_X3_add_42 rfl ?_
        refine aw_vi (v2 := (h_i h 19 2)) (rfl) ?_
        refine aw_iconst (v := 1) d_X3_add_45 ic_1 ?_
        refine aw_iadd d_X3_add_46 ?_
        refine aw_puti (k0 := 2) kc_3 (ws_19 w) (Nat.le_of_ble_eq_true rfl) tw_323 d_X3_add_47 rfl rfl nf_i ?_
        refine aw_goto (tgt := 70) d_X3_add_50 rfl ?_
        refine aw_iload_n (i := 3) rfl d_X3_add_70 3 rfl ?_
        exact aw_iret rfl d_X3_add_71 ⟨Nat.le_refl _, Nat.le_refl _⟩ ⟨_, rfl, k⟩
    · have k := k.2 c2
      refine aw_iconst (v := (-1)) d_X3_add_22 ic_m1 ?_
      exact aw_iret rfl d_X3_add_23 ⟨Nat.le_refl _, Nat.le_refl _⟩ ⟨_, rfl, k⟩
  · have k := k.2 c1
    refine aw_aload_n (i := 0) rfl d_X3_add_4 0 rfl ?_
    refine aw_geti (k0 := 2) kc_3 (ws_19 w) (Nat.le_of_ble_eq_true rfl) tw_323 d_X3_add_5 rfl ?_
    refine aw_goto (tgt := 15) d_X3_add_8 rfl ?_
    refine aw_istore_n (i := 3) rfl [(0, .ref 19), (1, .int x1), (2, .int x2), (3, .int (h_i h 19 2))] d_X3_add_15 (Nat.le_of_ble_eq_true rfl) rfl rfl ?_
    refine aw_iload_n (i := 3) rfl d_X3_add_16 3 rfl ?_
    refine aw_bipush (v := 8) d_X3_add_17 ib_8 ?_
    refine aw_icmp_lt (tgt := 24) d_X3_add_19 rfl (fun c6 => ?_) (fun c6 => ?_)
    · have k := k.1 c6
      refine aw_aload_n (i := 0) rfl d_X3_add_24 0 rfl ?_
      refine aw_iconst (v := 1) d_X3_add_25 ic_1 ?_
      refine aw_puti (k0 := 5) kc_3 (ws_19 w) (Nat.le_of_ble_eq_true rfl) tw_328 d_X3_add_26 rfl rfl ⟨rfl, rfl⟩ ?_
      refine aw_iload_n (i := 1) rfl d_X3_add_29 1 rfl ?_
      refine aw_if_eq (tgt := 53) d_X3_add_30 rfl (fun c7 => ?_) (fun c7 => ?_)
      · have k := k.1 c7
        refine aw_aload_n (i := 0) rfl d_X3_add_53 0 rfl ?_
        refine aw_getr (k0 := 1) kc_3 (ws_19 w) (Nat.le_of_ble_eq_true rfl) tw_322 d_X3_add_54 rfl (wr_19_1 w) ?_
        refine aw_iload_n (i := 3) rfl d_X3_add_57 3 rfl ?_
        refine aw_iload_n (i := 2) rfl d_X3_add_58 2 rfl ?_
        obtain ⟨b8, k⟩ := k
        refine aw_iast (ws_86 w) b8 d_X3_add_59 ?_
        refine aw_aload_n (i := 0) rfl d_X3_add_60 0 rfl ?_
        refine aw_dup d_X3_add_61 rfl ?_
        refine aw_geti (k0 := 3) kc_3 (ws_19 w) (Nat.le_of_ble_eq_true rfl) tw_325 d_X3_add_62 rfl ?_
        refine aw_vi (v2 := (h_i h 19 3)) (rfl) ?_
        refine aw_iconst (v := 1) d_X3_add_65 ic_1 ?_
        refine aw_iadd d_X3_add_66 ?_
        refine aw_puti (k0 := 3) kc_3 (ws_19 w) (Nat.le_of_ble_eq_true rfl) tw_325 d_X3_add_67 rfl rfl nf_i ?_
        refine aw_iload_n (i := 3) rfl d_X3_add_70 3 rfl ?_
        exact aw_iret rfl d_X3_add_71 ⟨Nat.le_refl _, Nat.le_refl _⟩ ⟨_, rfl, k⟩
      · have k := k.2 c7
        refine aw_aload_n (i := 0) rfl d_X3_add_33 0 rfl ?_
        refine aw_getr (k0 := 0) kc_3 (ws_19 w) (Nat.le_of_ble_eq_true rfl) tw_321 d_X3_add_34 rfl (wr_19_0 w) ?_
        refine aw_iload_n (i := 3) rfl d_X3_add_37 3 rfl ?_
        refine aw_iload_n (i := 2) rfl d_X3_add_38 2 rfl ?_
        obtain ⟨b9, k⟩ := k
        refine aw_iast (ws_85 w) b9 d_X3_add_39 ?_
        refine aw_aload_n (i := 0) rfl d_X3_add_40 0 rfl ?_
        refine aw_dup d_X3_add_41 rfl ?_
        refine aw_geti (k0 := 2) kc_3 (ws_19 w) (Nat.le_of_ble_eq_true rfl) tw_323 d_X3_add_42 rfl ?_
        refine aw_vi (v2 := (h_i h 19 2)) (rfl) ?_
        refine aw_iconst (v := 1) d_X3_add_45 ic_1 ?_
        refine aw_iadd d_X3_add_46 ?_
        refine aw_puti (k0 := 2) kc_3 (ws_19 w) (Nat.le_of_ble_eq_true rfl) tw_323 d_X3_add_47 rfl rfl nf_i ?_
        refine aw_goto (tgt := 70) d_X3_add_50 rfl ?_
        refine aw_iload_n (i := 3) rfl d_X3_add_70 3 rfl ?_
        exact aw_iret rfl d_X3_add_71 ⟨Nat.le_refl _, Nat.le_refl _⟩ ⟨_, rfl, k⟩
    · have k := k.2 c6
      refine aw_iconst (v := (-1)) d_X3_add_22 ic_m1 ?_
      exact aw_iret rfl d_X3_add_23 ⟨Nat.le_refl _, Nat.le_refl _⟩ ⟨_, rfl, k⟩
theorem t_X3_setLeast (d : Nat) (h : Hp_) (w : Wf h) (x1 : Int32) (K : Int32 → Hp_ → Prop) (k : K 1 (h_im (h_im h 19 4 x1) 19 5 1)) : Ci (m_X3_setLeast (d + 0) 0 0) [.ref 19, .int x1] h K := by
  refine Ct.of (fun _ _ _ => trivial) rfl (Nat.le_of_ble_eq_true rfl) ?_
  show AW (m_X3_setLeast (d + 0) 0 0) 0 0 0 [(0, .ref 19), (1, .int x1)] [] h (kI K)
  refine aw_aload_n (i := 0) rfl d_X3_setLeast_0 0 rfl ?_
  refine aw_iload_n (i := 1) rfl d_X3_setLeast_1 1 rfl ?_
  refine aw_puti (k0 := 4) kc_3 (ws_19 w) (Nat.le_of_ble_eq_true rfl) tw_327 d_X3_setLeast_2 rfl rfl nf_i ?_
  refine aw_aload_n (i := 0) rfl d_X3_setLeast_5 0 rfl ?_
  refine aw_iconst (v := 1) d_X3_setLeast_6 ic_1 ?_
  refine aw_puti (k0 := 5) kc_3 (ws_19 w) (Nat.le_of_ble_eq_true rfl) tw_328 d_X3_setLeast_7 rfl rfl ⟨rfl, rfl⟩ ?_
  refine aw_iconst (v := 1) d_X3_setLeast_10 ic_1 ?_
  exact aw_zret rfl rfl d_X3_setLeast_11 ⟨Nat.le_refl _, Nat.le_refl _⟩ ⟨_, rfl, k⟩
theorem t_X3_hasLost (d : Nat) (h : Hp_) (w : Wf h) (x1 : Int32) (K : Int32 → Hp_ → Prop) (k : (x1 < 0 → K 0 h) ∧ (¬ x1 < 0 → ((h_i h 19 2) ≤ x1 → K 0 h) ∧ (¬ (h_i h 19 2) ≤ x1 → K 1 h))) : Ci (m_X3_hasLost (d + 0) 0 0) [.ref 19, .int x1] h K := by
  refine Ct.of (fun _ _ _ => trivial) rfl (Nat.le_of_ble_eq_true rfl) ?_
  show AW (m_X3_hasLost (d + 0) 0 0) 0 0 0 [(0, .ref 19), (1, .int x1)] [] h (kI K)
  refine aw_iload_n (i := 1) rfl d_X3_hasLost_0 1 rfl ?_
  refine aw_if_lt (tgt := 16) d_X3_hasLost_1 rfl (fun c1 => ?_) (fun c1 => ?_)
  · have k := k.1 c1
    refine aw_iconst (v := 0) d_X3_hasLost_16 ic_0 ?_
    exact aw_zret rfl rfl d_X3_hasLost_17 ⟨Nat.le_refl _, Nat.le_refl _⟩ ⟨_, rfl, k⟩
  · have k := k.2 c1
    refine aw_iload_n (i := 1) rfl d_X3_hasLost_4 1 rfl ?_
    refine aw_aload_n (i := 0) rfl d_X3_hasLost_5 0 rfl ?_
    refine aw_geti (k0 := 2) kc_3 (ws_19 w) (Nat.le_of_ble_eq_true rfl) tw_323 d_X3_hasLost_6 rfl ?_
    refine aw_icmp_ge (tgt := 16) d_X3_hasLost_9 rfl (fun c2 => ?_) (fun c2 => ?_)
    · have k := k.1 c2
      refine aw_iconst (v := 0) d_X3_hasLost_16 ic_0 ?_
      exact aw_zret rfl rfl d_X3_hasLost_17 ⟨Nat.le_refl _, Nat.le_refl _⟩ ⟨_, rfl, k⟩
    · have k := k.2 c2
      refine aw_iconst (v := 1) d_X3_hasLost_12 ic_1 ?_
      refine aw_goto (tgt := 17) d_X3_hasLost_13 rfl ?_
      exact aw_zret rfl rfl d_X3_hasLost_17 ⟨Nat.le_refl _, Nat.le_refl _⟩ ⟨_, rfl, k⟩
theorem t_X3_alike (d : Nat) (h : Hp_) (x0 : Int32) (x1 : Int32) (K : Int32 → Hp_ → Prop) (k : AW (m_X3_alike (d + 0) 0 0) 0 0 10 [(2, .int 0), (3, .int x0), (4, .int x1), (5, .int 0)] [] h (kI K)) : Ci (m_X3_alike (d + 0) 0 0) [.int x0, .int x1] h K := by
  refine Ct.of (fun _ _ _ => trivial) rfl (Nat.le_of_ble_eq_true rfl) ?_
  show AW (m_X3_alike (d + 0) 0 0) 0 0 0 [(0, .int x0), (1, .int x1)] [] h (kI K)
  refine aw_iconst (v := 0) d_X3_alike_0 ic_0 ?_
  refine aw_istore_n (i := 2) rfl [(0, .int x0), (1, .int x1), (2, .int 0)] d_X3_alike_1 (Nat.le_of_ble_eq_true rfl) rfl rfl ?_
  refine aw_iload_n (i := 0) rfl d_X3_alike_2 0 rfl ?_
  refine aw_istore_n (i := 3) rfl [(0, .int x0), (1, .int x1), (2, .int 0), (3, .int x0)] d_X3_alike_3 (Nat.le_of_ble_eq_true rfl) rfl rfl ?_
  refine aw_iload_n (i := 1) rfl d_X3_alike_4 1 rfl ?_
  refine aw_istore [(0, .int x0), (1, .int x1), (2, .int 0), (3, .int x0), (4, .int x1)] d_X3_alike_5 (Nat.le_of_ble_eq_true rfl) rfl rfl ?_
  refine aw_iconst (v := 0) d_X3_alike_7 ic_0 ?_
  refine aw_istore [(0, .int x0), (1, .int x1), (2, .int 0), (3, .int x0), (4, .int x1), (5, .int 0)] d_X3_alike_8 (Nat.le_of_ble_eq_true rfl) rfl rfl ?_
  exact aw_lvp [2, 3, 4, 5] [(2, .int 0), (3, .int x0), (4, .int x1), (5, .int 0)] rfl k
theorem t_X3_alike_10 (d : Nat) (h : Hp_) (x2 : Int32) (x3 : Int32) (x4 : Int32) (x5 : Int32) (K : Int32 → Hp_ → Prop) (k : (5 ≤ x5 → K x2 h) ∧ (¬ 5 ≤ x5 → (¬ (x3 - x3 / 10 * 10) = (x4 - x4 / 10 * 10) → AW (m_X3_alike (d + 0) 0 0) 0 0 10 [(2, .int x2), (3, .int (x3 / 10)), (4, .int (x4 / 10)), (5, .int (x5 + 1))] [] h (kI K)) ∧ ((x3 - x3 / 10 * 10) = (x4 - x4 / 10 * 10) → AW (m_X3_alike (d + 0) 0 0) 0 0 10 [(2, .int (x2 + 1)), (3, .int (x3 / 10)), (4, .int (x4 / 10)), (5, .int (x5 + 1))] [] h (kI K)))) : AW (m_X3_alike (d + 0) 0 0) 0 0 10 [(2, .int x2), (3, .int x3), (4, .int x4), (5, .int x5)] [] h (kI K) := by
  refine aw_iload d_X3_alike_10 3 rfl ?_
  refine aw_iconst (v := 5) d_X3_alike_12 ic_5 ?_
  refine aw_icmp_ge (tgt := 49) d_X3_alike_13 rfl (fun c1 => ?_) (fun c1 => ?_)
  · have k := k.1 c1
    refine aw_iload_n (i := 2) rfl d_X3_alike_49 0 rfl ?_
    exact aw_iret rfl d_X3_alike_50 ⟨Nat.le_refl _, Nat.le_refl _⟩ ⟨_, rfl, k⟩
  · have k := k.2 c1
    refine aw_iload_n (i := 3) rfl d_X3_alike_16 1 rfl ?_
    refine aw_bipush (v := 10) d_X3_alike_17 ib_10 ?_
    refine aw_irem d_X3_alike_19 (by decide) ?_
    refine aw_iload d_X3_alike_20 2 rfl ?_
    refine aw_bipush (v := 10) d_X3_alike_22 ib_10 ?_
    refine aw_irem d_X3_alike_24 (by decide) ?_
    refine aw_icmp_ne (tgt := 31) d_X3_alike_25 rfl (fun c2 => ?_) (fun c2 => ?_)
    · have k := k.1 c2
      refine aw_iload_n (i := 3) rfl d_X3_alike_31 1 rfl ?_
      refine aw_bipush (v := 10) d_X3_alike_32 ib_10 ?_
      refine aw_idiv d_X3_alike_34 (by decide) ?_
      refine aw_istore_n (i := 3) rfl [(2, .int x2), (3, .int (x3 / 10)), (4, .int x4), (5, .int x5)] d_X3_alike_35 (Nat.le_of_ble_eq_true rfl) rfl rfl ?_
      refine aw_iload d_X3_alike_36 2 rfl ?_
      refine aw_bipush (v := 10) d_X3_alike_38 ib_10 ?_
      refine aw_idiv d_X3_alike_40 (by decide) ?_
      refine aw_istore [(2, .int x2), (3, .int (x3 / 10)), (4, .int (x4 / 10)), (5, .int x5)] d_X3_alike_41 (Nat.le_of_ble_eq_true rfl) rfl rfl ?_
      refine aw_iinc (v := (x5 + 1)) [(2, .int x2), (3, .int (x3 / 10)), (4, .int (x4 / 10)), (5, .int (x5 + 1))] d_X3_alike_43 3 rfl rfl (Nat.le_of_ble_eq_true rfl) rfl rfl ?_
      refine aw_goto (tgt := 10) d_X3_alike_46 rfl ?_
      exact k
    · have k := k.2 c2
      refine aw_iinc (v := (x2 + 1)) [(2, .int (x2 + 1)), (3, .int x3), (4, .int x4), (5, .int x5)] d_X3_alike_28 0 rfl rfl (Nat.le_of_ble_eq_true rfl) rfl rfl ?_
      refine aw_iload_n (i := 3) rfl d_X3_alike_31 1 rfl ?_
      refine aw_bipush (v := 10) d_X3_alike_32 ib_10 ?_
      refine aw_idiv d_X3_alike_34 (by decide) ?_
      refine aw_istore_n (i := 3) rfl [(2, .int (x2 + 1)), (3, .int (x3 / 10)), (4, .int x4), (5, .int x5)] d_X3_alike_35 (Nat.le_of_ble_eq_true rfl) rfl rfl ?_
      refine aw_iload d_X3_alike_36 2 rfl ?_
      refine aw_bipush (v := 10) d_X3_alike_38 ib_10 ?_
      refine aw_idiv d_X3_alike_40 (by decide) ?_
      refine aw_istore [(2, .int (x2 + 1)), (3, .int (x3 / 10)), (4, .int (x4 / 10)), (5, .int x5)] d_X3_alike_41 (Nat.le_of_ble_eq_true rfl) rfl rfl ?_
      refine aw_iinc (v := (x5 + 1)) [(2, .int (x2 + 1)), (3, .int (x3 / 10)), (4, .int (x4 / 10)), (5, .int (x5 + 1))] d_X3_alike_43 3 rfl rfl (Nat.le_of_ble_eq_true rfl) rfl rfl ?_
      refine aw_goto (tgt := 10) d_X3_alike_46 rfl ?_
      exact k
theorem t_X3_canJoin (d : Nat) (h : Hp_) (w : Wf h) (x1 : Int32) (x2 : Int32) (x3 : Int32) (K : Int32 → Hp_ → Prop) (k : (¬ ((x3 >>> (x2 &&& 31)) &&& 1) = 0 → K 0 h) ∧ (((x3 >>> (x2 &&& 31)) &&& 1) = 0 → vp_in ((x1 * 8) + x2) 64 ∧ (((h_i h 87 (((x1 * 8) + x2) : Int32).toNatClampNeg) ≤ 0 → K 0 h) ∧ (¬ (h_i h 87 (((x1 * 8) + x2) : Int32).toNatClampNeg) ≤ 0 → K 1 h)))) : Ci (m_X3_canJoin (d + 0) 0 0) [.ref 19, .int x1, .int x2, .int x3] h K := by
  refine Ct.of (fun _ _ _ => trivial) rfl (Nat.le_of_ble_eq_true rfl) ?_
  show AW (m_X3_canJoin (d + 0) 0 0) 0 0 0 [(0, .ref 19), (1, .int x1), (2, .int x2), (3, .int x3)] [] h (kI K)
  refine aw_iload_n (i := 3) rfl d_X3_canJoin_0 3 rfl ?_
  refine aw_iload_n (i := 2) rfl d_X3_canJoin_1 2 rfl ?_
  refine aw_ishr d_X3_canJoin_2 ?_
  refine aw_iconst (v := 1) d_X3_canJoin_3 ic_1 ?_
  refine aw_iand d_X3_canJoin_4 ?_
  refine aw_if_ne (tgt := 26) d_X3_canJoin_5 rfl (fun c1 => ?_) (fun c1 => ?_)
  · have k := k.1 c1
    refine aw_iconst (v := 0) d_X3_canJoin_26 ic_0 ?_
    exact aw_zret rfl rfl d_X3_canJoin_27 ⟨Nat.le_refl _, Nat.le_refl _⟩ ⟨_, rfl, k⟩
  · have k := k.2 c1
    refine aw_aload_n (i := 0) rfl d_X3_canJoin_8 0 rfl ?_
    refine aw_getr (k0 := 6) kc_3 (ws_19 w) (Nat.le_of_ble_eq_true rfl) tw_329 d_X3_canJoin_9 rfl (wr_19_6 w) ?_
    refine aw_iload_n (i := 1) rfl d_X3_canJoin_12 1 rfl ?_
    refine aw_bipush (v := 8) d_X3_canJoin_13 ib_8 ?_
    refine aw_imul d_X3_canJoin_15 ?_
    refine aw_iload_n (i := 2) rfl d_X3_canJoin_16 2 rfl ?_
    refine aw_iadd d_X3_canJoin_17 ?_
    obtain ⟨b2, k⟩ := k
    refine aw_iald (ws_87 w) b2 d_X3_canJoin_18 ?_
    refine aw_if_le (tgt := 26) d_X3_canJoin_19 rfl (fun c3 => ?_) (fun c3 => ?_)
    · have k := k.1 c3
      refine aw_iconst (v := 0) d_X3_canJoin_26 ic_0 ?_
      exact aw_zret rfl rfl d_X3_canJoin_27 ⟨Nat.le_refl _, Nat.le_refl _⟩ ⟨_, rfl, k⟩
    · have k := k.2 c3
      refine aw_iconst (v := 1) d_X3_canJoin_22 ic_1 ?_
      refine aw_goto (tgt := 27) d_X3_canJoin_23 rfl ?_
      exact aw_zret rfl rfl d_X3_canJoin_27 ⟨Nat.le_refl _, Nat.le_refl _⟩ ⟨_, rfl, k⟩
theorem t_X3_sumWith (d : Nat) (h : Hp_) (w : Wf h) (x1 : Int32) (x2 : Int32) (x3 : Int32) (K : Int32 → Hp_ → Prop) (k : vp_in ((x1 * 8) + x2) 64 ∧ (vp_in (((x1 + 1) * 256) + (x3 ||| ((1 : Int32) <<< (x2 &&& 31)))) 2304 ∧ (K ((h_i h 87 (((x1 * 8) + x2) : Int32).toNatClampNeg) + (h_i h 88 ((((x1 + 1) * 256) + (x3 ||| ((1 : Int32) <<< (x2 &&& 31)))) : Int32).toNatClampNeg)) h))) : Ci (m_X3_sumWith (d + 0) 0 0) [.ref 19, .int x1, .int x2, .int x3] h K := by
  refine Ct.of (fun _ _ _ => trivial) rfl (Nat.le_of_ble_eq_true rfl) ?_
  show AW (m_X3_sumWith (d + 0) 0 0) 0 0 0 [(0, .ref 19), (1, .int x1), (2, .int x2), (3, .int x3)] [] h (kI K)
  refine aw_aload_n (i := 0) rfl d_X3_sumWith_0 0 rfl ?_
  refine aw_getr (k0 := 6) kc_3 (ws_19 w) (Nat.le_of_ble_eq_true rfl) tw_329 d_X3_sumWith_1 rfl (wr_19_6 w) ?_
  refine aw_iload_n (i := 1) rfl d_X3_sumWith_4 1 rfl ?_
  refine aw_bipush (v := 8) d_X3_sumWith_5 ib_8 ?_
  refine aw_imul d_X3_sumWith_7 ?_
  refine aw_iload_n (i := 2) rfl d_X3_sumWith_8 2 rfl ?_
  refine aw_iadd d_X3_sumWith_9 ?_
  obtain ⟨b1, k⟩ := k
  refine aw_iald (ws_87 w) b1 d_X3_sumWith_10 ?_
  refine aw_aload_n (i := 0) rfl d_X3_sumWith_11 0 rfl ?_
  refine aw_getr (k0 := 7) kc_3 (ws_19 w) (Nat.le_of_ble_eq_true rfl) tw_330 d_X3_sumWith_12 rfl (wr_19_7 w) ?_
  refine aw_iload_n (i := 1) rfl d_X3_sumWith_15 1 rfl ?_
  refine aw_iconst (v := 1) d_X3_sumWith_16 ic_1 ?_
  refine aw_iadd d_X3_sumWith_17 ?_
  refine aw_sipush (v := 256) d_X3_sumWith_18 is_256 ?_
  refine aw_imul d_X3_sumWith_21 ?_
  refine aw_iload_n (i := 3) rfl d_X3_sumWith_22 3 rfl ?_
  refine aw_iconst (v := 1) d_X3_sumWith_23 ic_1 ?_
  refine aw_iload_n (i := 2) rfl d_X3_sumWith_24 2 rfl ?_
  refine aw_ishl d_X3_sumWith_25 ?_
  refine aw_ior d_X3_sumWith_26 ?_
  refine aw_iadd d_X3_sumWith_27 ?_
  obtain ⟨b2, k⟩ := k
  refine aw_iald (ws_88 w) b2 d_X3_sumWith_28 ?_
  refine aw_iadd d_X3_sumWith_29 ?_
  exact aw_iret rfl d_X3_sumWith_30 ⟨Nat.le_refl _, Nat.le_refl _⟩ ⟨_, rfl, k⟩
theorem t_X4_addFind (d : Nat) (h : Hp_) (w : Wf h) (x1 : Int32) (x2 : Int32) (x3 : Int32) (x4 : Int32) (x5 : Int32) (K : Int32 → Hp_ → Prop) (k : ((h_i h 17 7) < 80 → vp_in (h_i h 17 7) 80 ∧ (vp_in (h_i h 17 7) 80 ∧ (vp_in (h_i h 17 7) 80 ∧ (vp_in (h_i h 17 7) 80 ∧ (vp_in (h_i h 17 7) 80 ∧ (K (((h_i h 17 7) + 1) - 1) (h_im (h_im (h_im (h_im (h_im (h_im h 57 ((h_i h 17 7) : Int32).toNatClampNeg x1) 58 ((h_i h 17 7) : Int32).toNatClampNeg x2) 59 ((h_i h 17 7) : Int32).toNatClampNeg x3) 60 ((h_i h 17 7) : Int32).toNatClampNeg x4) 61 ((h_i h 17 7) : Int32).toNatClampNeg x5) 17 7 ((h_i h 17 7) + 1)))))))) ∧ (¬ (h_i h 17 7) < 80 → K (-1) h)) : Ci (m_X4_addFind (d + 0) 0 0) [.ref 17, .int x1, .int x2, .int x3, .int x4, .int x5] h K := by
  refine Ct.of (fun _ _ _ => trivial) rfl (Nat.le_of_ble_eq_true rfl) ?_
  show AW (m_X4_addFind (d + 0) 0 0) 0 0 0 [(0, .ref 17), (1, .int x1), (2, .int x2), (3, .int x3), (4, .int x4), (5, .int x5)] [] h (kI K)
  refine aw_aload_n (i := 0) rfl d_X4_addFind_0 0 rfl ?_
  refine aw_geti (k0 := 7) kc_4 (ws_17 w) (Nat.le_of_ble_eq_true rfl) tw_203 d_X4_addFind_1 rfl ?_
  refine aw_bipush (v := 80) d_X4_addFind_4 ib_80 ?_
  refine aw_icmp_lt (tgt := 11) d_X4_addFind_6 rfl (fun c1 => ?_) (fun c1 => ?_)
  · have k := k.1 c1
    refine aw_aload_n (i := 0) rfl d_X4_addFind_11 0 rfl ?_
    refine aw_getr (k0 := 0) kc_4 (ws_17 w) (Nat.le_of_ble_eq_true rfl) tw_196 d_X4_addFind_12 rfl (wr_17_0 w) ?_
    refine aw_aload_n (i := 0) rfl d_X4_addFind_15 0 rfl ?_
    refine aw_geti (k0 := 7) kc_4 (ws_17 w) (Nat.le_of_ble_eq_true rfl) tw_203 d_X4_addFind_16 rfl ?_
    refine aw_iload_n (i := 1) rfl d_X4_addFind_19 1 rfl ?_
    obtain ⟨b2, k⟩ := k
    refine aw_iast (ws_57 w) b2 d_X4_addFind_20 ?_
    refine aw_aload_n (i := 0) rfl d_X4_addFind_21 0 rfl ?_
    refine aw_getr (k0 := 1) kc_4 (ws_17 w) (Nat.le_of_ble_eq_true rfl) tw_197 d_X4_addFind_22 rfl (wr_17_1 w) ?_
    refine aw_aload_n (i := 0) rfl d_X4_addFind_25 0 rfl ?_
    refine aw_geti (k0 := 7) kc_4 (ws_17 w) (Nat.le_of_ble_eq_true rfl) tw_203 d_X4_addFind_26 rfl ?_
    refine aw_vi (v2 := (h_i h 17 7)) (rfl) ?_
    refine aw_iload_n (i := 2) rfl d_X4_addFind_29 2 rfl ?_
    obtain ⟨b3, k⟩ := k
    refine aw_iast (ws_58 w) b3 d_X4_addFind_30 ?_
    refine aw_aload_n (i := 0) rfl d_X4_addFind_31 0 rfl ?_
    refine aw_getr (k0 := 2) kc_4 (ws_17 w) (Nat.le_of_ble_eq_true rfl) tw_198 d_X4_addFind_32 rfl (wr_17_2 w) ?_
    refine aw_aload_n (i := 0) rfl d_X4_addFind_35 0 rfl ?_
    refine aw_geti (k0 := 7) kc_4 (ws_17 w) (Nat.le_of_ble_eq_true rfl) tw_203 d_X4_addFind_36 rfl ?_
    refine aw_vi (v2 := (h_i h 17 7)) (rfl) ?_
    refine aw_iload_n (i := 3) rfl d_X4_addFind_39 3 rfl ?_
    obtain ⟨b4, k⟩ := k
    refine aw_iast (ws_59 w) b4 d_X4_addFind_40 ?_
    refine aw_aload_n (i := 0) rfl d_X4_addFind_41 0 rfl ?_
    refine aw_getr (k0 := 3) kc_4 (ws_17 w) (Nat.le_of_ble_eq_true rfl) tw_199 d_X4_addFind_42 rfl (wr_17_3 w) ?_
    refine aw_aload_n (i := 0) rfl d_X4_addFind_45 0 rfl ?_
    refine aw_geti (k0 := 7) kc_4 (ws_17 w) (Nat.le_of_ble_eq_true rfl) tw_203 d_X4_addFind_46 rfl ?_
    refine aw_vi (v2 := (h_i h 17 7)) (rfl) ?_
    refine aw_iload d_X4_addFind_49 4 rfl ?_
    obtain ⟨b5, k⟩ := k
    refine aw_iast (ws_60 w) b5 d_X4_addFind_51 ?_
    refine aw_aload_n (i := 0) rfl d_X4_addFind_52 0 rfl ?_
    refine aw_getr (k0 := 4) kc_4 (ws_17 w) (Nat.le_of_ble_eq_true rfl) tw_200 d_X4_addFind_53 rfl (wr_17_4 w) ?_
    refine aw_aload_n (i := 0) rfl d_X4_addFind_56 0 rfl ?_
    refine aw_geti (k0 := 7) kc_4 (ws_17 w) (Nat.le_of_ble_eq_true rfl) tw_203 d_X4_addFind_57 rfl ?_
    refine aw_vi (v2 := (h_i h 17 7)) (rfl) ?_
    refine aw_iload d_X4_addFind_60 5 rfl ?_
    obtain ⟨b6, k⟩ := k
    refine aw_iast (ws_61 w) b6 d_X4_addFind_62 ?_
    refine aw_aload_n (i := 0) rfl d_X4_addFind_63 0 rfl ?_
    refine aw_dup d_X4_addFind_64 rfl ?_
    refine aw_geti (k0 := 7) kc_4 (ws_17 w) (Nat.le_of_ble_eq_true rfl) tw_203 d_X4_addFind_65 rfl ?_
    refine aw_vi (v2 := (h_i h 17 7)) (rfl) ?_
    refine aw_iconst (v := 1) d_X4_addFind_68 ic_1 ?_
    refine aw_iadd d_X4_addFind_69 ?_
    refine aw_puti (k0 := 7) kc_4 (ws_17 w) (Nat.le_of_ble_eq_true rfl) tw_203 d_X4_addFind_70 rfl rfl nf_i ?_
    refine aw_aload_n (i := 0) rfl d_X4_addFind_73 0 rfl ?_
    refine aw_geti (k0 := 7) kc_4 (ws_17 w) (Nat.le_of_ble_eq_true rfl) tw_203 d_X4_addFind_74 rfl ?_
    refine aw_vi (v2 := ((h_i h 17 7) + 1)) (rfl) ?_
    refine aw_iconst (v := 1) d_X4_addFind_77 ic_1 ?_
    refine aw_isub d_X4_addFind_78 ?_
    exact aw_iret rfl d_X4_addFind_79 ⟨Nat.le_refl _, Nat.le_refl _⟩ ⟨_, rfl, k⟩
  · have k := k.2 c1
    refine aw_iconst (v := (-1)) d_X4_addFind_9 ic_m1 ?_
    exact aw_iret rfl d_X4_addFind_10 ⟨Nat.le_refl _, Nat.le_refl _⟩ ⟨_, rfl, k⟩
theorem t_X4_has (d : Nat) (h : Hp_) (w : Wf h) (x1 : Int32) (K : Int32 → Hp_ → Prop) (k : (x1 < 0 → K 0 h) ∧ (¬ x1 < 0 → ((h_i h 17 16) ≤ x1 → K 0 h) ∧ (¬ (h_i h 17 16) ≤ x1 → K 1 h))) : Ci (m_X4_has (d + 0) 0 0) [.ref 17, .int x1] h K := by
  refine Ct.of (fun _ _ _ => trivial) rfl (Nat.le_of_ble_eq_true rfl) ?_
  show AW (m_X4_has (d + 0) 0 0) 0 0 0 [(0, .ref 17), (1, .int x1)] [] h (kI K)
  refine aw_iload_n (i := 1) rfl d_X4_has_0 1 rfl ?_
  refine aw_if_lt (tgt := 16) d_X4_has_1 rfl (fun c1 => ?_) (fun c1 => ?_)
  · have k := k.1 c1
    refine aw_iconst (v := 0) d_X4_has_16 ic_0 ?_
    exact aw_zret rfl rfl d_X4_has_17 ⟨Nat.le_refl _, Nat.le_refl _⟩ ⟨_, rfl, k⟩
  · have k := k.2 c1
    refine aw_iload_n (i := 1) rfl d_X4_has_4 1 rfl ?_
    refine aw_aload_n (i := 0) rfl d_X4_has_5 0 rfl ?_
    refine aw_geti (k0 := 16) kc_4 (ws_17 w) (Nat.le_of_ble_eq_true rfl) tw_215 d_X4_has_6 rfl ?_
    refine aw_icmp_ge (tgt := 16) d_X4_has_9 rfl (fun c2 => ?_) (fun c2 => ?_)
    · have k := k.1 c2
      refine aw_iconst (v := 0) d_X4_has_16 ic_0 ?_
      exact aw_zret rfl rfl d_X4_has_17 ⟨Nat.le_refl _, Nat.le_refl _⟩ ⟨_, rfl, k⟩
    · have k := k.2 c2
      refine aw_iconst (v := 1) d_X4_has_12 ic_1 ?_
      refine aw_goto (tgt := 17) d_X4_has_13 rfl ?_
      exact aw_zret rfl rfl d_X4_has_17 ⟨Nat.le_refl _, Nat.le_refl _⟩ ⟨_, rfl, k⟩
theorem t_X4_tellNoted (d : Nat) (h : Hp_) (x1 : Int32) (x2 : Int32) (K : Hp_ → Prop) (k : AW (m_X4_tellNoted (d + 0) 0 0) 0 0 2 [(0, .ref 17), (1, .int x1), (2, .int x2), (3, .int 0)] [] h (kV K)) : Cv (m_X4_tellNoted (d + 0) 0 0) [.ref 17, .int x1, .int x2] h K := by
  refine Ct.of (fun _ _ _ => trivial) rfl (Nat.le_of_ble_eq_true rfl) ?_
  show AW (m_X4_tellNoted (d + 0) 0 0) 0 0 0 [(0, .ref 17), (1, .int x1), (2, .int x2)] [] h (kV K)
  refine aw_iconst (v := 0) d_X4_tellNoted_0 ic_0 ?_
  refine aw_istore_n (i := 3) rfl [(0, .ref 17), (1, .int x1), (2, .int x2), (3, .int 0)] d_X4_tellNoted_1 (Nat.le_of_ble_eq_true rfl) rfl rfl ?_
  exact k
theorem t_X4_tellNoted_2 (d : Nat) (h : Hp_) (w : Wf h) (x1 : Int32) (x2 : Int32) (x3 : Int32) (K : Hp_ → Prop) (k : ((h_i h 17 16) ≤ x3 → K h) ∧ (¬ (h_i h 17 16) ≤ x3 → vp_in x3 300 ∧ ((¬ (h_i h 64 x3.toNatClampNeg) = x1 → AW (m_X4_tellNoted (d + 0) 0 0) 0 0 2 [(0, .ref 17), (1, .int x1), (2, .int x2), (3, .int (x3 + 1))] [] h (kV K)) ∧ ((h_i h 64 x3.toNatClampNeg) = x1 → vp_in x3 300 ∧ ((¬ (h_i h 67 x3.toNatClampNeg) = 1 → AW (m_X4_tellNoted (d + 0) 0 0) 0 0 2 [(0, .ref 17), (1, .int x1), (2, .int x2), (3, .int (x3 + 1))] [] h (kV K)) ∧ ((h_i h 67 x3.toNatClampNeg) = 1 → vp_in x3 300 ∧ ((¬ (h_i h 69 x3.toNatClampNeg) = (-1) → AW (m_X4_tellNoted (d + 0) 0 0) 0 0 2 [(0, .ref 17), (1, .int x1), (2, .int x2), (3, .int (x3 + 1))] [] h (kV K)) ∧ ((h_i h 69 x3.toNatClampNeg) = (-1) → vp_in x3 300 ∧ (AW (m_X4_tellNoted (d + 0) 0 0) 0 0 2 [(0, .ref 17), (1, .int x1), (2, .int x2), (3, .int (x3 + 1))] [] (h_im h 69 x3.toNatClampNeg x2) (kV K)))))))))) : AW (m_X4_tellNoted (d + 0) 0 0) 0 0 2 [(0, .ref 17), (1, .int x1), (2, .int x2), (3, .int x3)] [] h (kV K) := by
  refine aw_iload_n (i := 3) rfl d_X4_tellNoted_2 3 rfl ?_
  refine aw_aload_n (i := 0) rfl d_X4_tellNoted_3 0 rfl ?_
  refine aw_geti (k0 := 16) kc_4 (ws_17 w) (Nat.le_of_ble_eq_true rfl) tw_215 d_X4_tellNoted_4 rfl ?_
  refine aw_icmp_ge (tgt := 53) d_X4_tellNoted_7 rfl (fun c1 => ?_) (fun c1 => ?_)
  · have k := k.1 c1
    exact aw_vret rfl d_X4_tellNoted_53 ⟨Nat.le_refl _, Nat.le_refl _⟩ ⟨rfl, k⟩
  · have k := k.2 c1
    refine aw_aload_n (i := 0) rfl d_X4_tellNoted_10 0 rfl ?_
    refine aw_getr (k0 := 9) kc_4 (ws_17 w) (Nat.le_of_ble_eq_true rfl) tw_207 d_X4_tellNoted_11 rfl (wr_17_9 w) ?_
    refine aw_iload_n (i := 3) rfl d_X4_tellNoted_14 3 rfl ?_
    obtain ⟨b2, k⟩ := k
    refine aw_iald (ws_64 w) b2 d_X4_tellNoted_15 ?_
    refine aw_iload_n (i := 1) rfl d_X4_tellNoted_16 1 rfl ?_
    refine aw_icmp_ne (tgt := 47) d_X4_tellNoted_17 rfl (fun c3 => ?_) (fun c3 => ?_)
    · have k := k.1 c3
      refine aw_iinc (v := (x3 + 1)) [(0, .ref 17), (1, .int x1), (2, .int x2), (3, .int (x3 + 1))] d_X4_tellNoted_47 3 rfl rfl (Nat.le_of_ble_eq_true rfl) rfl rfl ?_
      refine aw_goto (tgt := 2) d_X4_tellNoted_50 rfl ?_
      exact k
    · have k := k.2 c3
      refine aw_aload_n (i := 0) rfl d_X4_tellNoted_20 0 rfl ?_
      refine aw_getr (k0 := 12) kc_4 (ws_17 w) (Nat.le_of_ble_eq_true rfl) tw_210 d_X4_tellNoted_21 rfl (wr_17_12 w) ?_
      refine aw_iload_n (i := 3) rfl d_X4_tellNoted_24 3 rfl ?_
      obtain ⟨b4, k⟩ := k
      refine aw_iald (ws_67 w) b4 d_X4_tellNoted_25 ?_
      refine aw_iconst (v := 1) d_X4_tellNoted_26 ic_1 ?_
      refine aw_icmp_ne (tgt := 47) d_X4_tellNoted_27 rfl (fun c5 => ?_) (fun c5 => ?_)
      · have k := k.1 c5
        refine aw_iinc (v := (x3 + 1)) [(0, .ref 17), (1, .int x1), (2, .int x2), (3, .int (x3 + 1))] d_X4_tellNoted_47 3 rfl rfl (Nat.le_of_ble_eq_true rfl) rfl rfl ?_
        refine aw_goto (tgt := 2) d_X4_tellNoted_50 rfl ?_
        exact k
      · have k := k.2 c5
        refine aw_aload_n (i := 0) rfl d_X4_tellNoted_30 0 rfl ?_
        refine aw_getr (k0 := 14) kc_4 (ws_17 w) (Nat.le_of_ble_eq_true rfl) tw_212 d_X4_tellNoted_31 rfl (wr_17_14 w) ?_
        refine aw_iload_n (i := 3) rfl d_X4_tellNoted_34 3 rfl ?_
        obtain ⟨b6, k⟩ := k
        refine aw_iald (ws_69 w) b6 d_X4_tellNoted_35 ?_
        refine aw_iconst (v := (-1)) d_X4_tellNoted_36 ic_m1 ?_
        refine aw_icmp_ne (tgt := 47) d_X4_tellNoted_37 rfl (fun c7 => ?_) (fun c7 => ?_)
        · have k := k.1 c7
          refine aw_iinc (v := (x3 + 1)) [(0, .ref 17), (1, .int x1), (2, .int x2), (3, .int (x3 + 1))] d_X4_tellNoted_47 3 rfl rfl (Nat.le_of_ble_eq_true rfl) rfl rfl ?_
          refine aw_goto (tgt := 2) d_X4_tellNoted_50 rfl ?_
          exact k
        · have k := k.2 c7
          refine aw_aload_n (i := 0) rfl d_X4_tellNoted_40 0 rfl ?_
          refine aw_getr (k0 := 14) kc_4 (ws_17 w) (Nat.le_of_ble_eq_true rfl) tw_212 d_X4_tellNoted_41 rfl (wr_17_14 w) ?_
          refine aw_iload_n (i := 3) rfl d_X4_tellNoted_44 3 rfl ?_
          refine aw_iload_n (i := 2) rfl d_X4_tellNoted_45 2 rfl ?_
          obtain ⟨b8, k⟩ := k
          refine aw_iast (ws_69 w) b8 d_X4_tellNoted_46 ?_
          refine aw_iinc (v := (x3 + 1)) [(0, .ref 17), (1, .int x1), (2, .int x2), (3, .int (x3 + 1))] d_X4_tellNoted_47 3 rfl rfl (Nat.le_of_ble_eq_true rfl) rfl rfl ?_
          refine aw_goto (tgt := 2) d_X4_tellNoted_50 rfl ?_
          exact k
theorem t_X4_countKnown (d : Nat) (h : Hp_) (x1 : Int32) (K : Int32 → Hp_ → Prop) (k : AW (m_X4_countKnown (d + 0) 0 0) 0 0 4 [(0, .ref 17), (1, .int x1), (2, .int 0), (3, .int 0)] [] h (kI K)) : Ci (m_X4_countKnown (d + 0) 0 0) [.ref 17, .int x1] h K := by
  refine Ct.of (fun _ _ _ => trivial) rfl (Nat.le_of_ble_eq_true rfl) ?_
  show AW (m_X4_countKnown (d + 0) 0 0) 0 0 0 [(0, .ref 17), (1, .int x1)] [] h (kI K)
  refine aw_iconst (v := 0) d_X4_countKnown_0 ic_0 ?_
  refine aw_istore_n (i := 2) rfl [(0, .ref 17), (1, .int x1), (2, .int 0)] d_X4_countKnown_1 (Nat.le_of_ble_eq_true rfl) rfl rfl ?_
  refine aw_iconst (v := 0) d_X4_countKnown_2 ic_0 ?_
  refine aw_istore_n (i := 3) rfl [(0, .ref 17), (1, .int x1), (2, .int 0), (3, .int 0)] d_X4_countKnown_3 (Nat.le_of_ble_eq_true rfl) rfl rfl ?_
  exact k
theorem t_X4_countKnown_4 (d : Nat) (h : Hp_) (w : Wf h) (x1 : Int32) (x2 : Int32) (x3 : Int32) (K : Int32 → Hp_ → Prop) (k : ((h_i h 17 16) ≤ x3 → K x2 h) ∧ (¬ (h_i h 17 16) ≤ x3 → vp_in x3 300 ∧ (((h_i h 69 x3.toNatClampNeg) = (-1) → AW (m_X4_countKnown (d + 0) 0 0) 0 0 4 [(0, .ref 17), (1, .int x1), (2, .int x2), (3, .int (x3 + 1))] [] h (kI K)) ∧ (¬ (h_i h 69 x3.toNatClampNeg) = (-1) → vp_in x3 300 ∧ ((x1 < (h_i h 69 x3.toNatClampNeg) → AW (m_X4_countKnown (d + 0) 0 0) 0 0 4 [(0, .ref 17), (1, .int x1), (2, .int x2), (3, .int (x3 + 1))] [] h (kI K)) ∧ (¬ x1 < (h_i h 69 x3.toNatClampNeg) → AW (m_X4_countKnown (d + 0) 0 0) 0 0 4 [(0, .ref 17), (1, .int x1), (2, .int (x2 + 1)), (3, .int (x3 + 1))] [] h (kI K))))))) : AW (m_X4_countKnown (d + 0) 0 0) 0 0 4 [(0, .ref 17), (1, .int x1), (2, .int x2), (3, .int x3)] [] h (kI K) := by
  refine aw_iload_n (i := 3) rfl d_X4_countKnown_4 3 rfl ?_
  refine aw_aload_n (i := 0) rfl d_X4_countKnown_5 0 rfl ?_
  refine aw_geti (k0 := 16) kc_4 (ws_17 w) (Nat.le_of_ble_eq_true rfl) tw_215 d_X4_countKnown_6 rfl ?_
  refine aw_icmp_ge (tgt := 41) d_X4_countKnown_9 rfl (fun c1 => ?_) (fun c1 => ?_)
  · have k := k.1 c1
    refine aw_iload_n (i := 2) rfl d_X4_countKnown_41 2 rfl ?_
    exact aw_iret rfl d_X4_countKnown_42 ⟨Nat.le_refl _, Nat.le_refl _⟩ ⟨_, rfl, k⟩
  · have k := k.2 c1
    refine aw_aload_n (i := 0) rfl d_X4_countKnown_12 0 rfl ?_
    refine aw_getr (k0 := 14) kc_4 (ws_17 w) (Nat.le_of_ble_eq_true rfl) tw_212 d_X4_countKnown_13 rfl (wr_17_14 w) ?_
    refine aw_iload_n (i := 3) rfl d_X4_countKnown_16 3 rfl ?_
    obtain ⟨b2, k⟩ := k
    refine aw_iald (ws_69 w) b2 d_X4_countKnown_17 ?_
    refine aw_iconst (v := (-1)) d_X4_countKnown_18 ic_m1 ?_
    refine aw_icmp_eq (tgt := 35) d_X4_countKnown_19 rfl (fun c3 => ?_) (fun c3 => ?_)
    · have k := k.1 c3
      refine aw_iinc (v := (x3 + 1)) [(0, .ref 17), (1, .int x1), (2, .int x2), (3, .int (x3 + 1))] d_X4_countKnown_35 3 rfl rfl (Nat.le_of_ble_eq_true rfl) rfl rfl ?_
      refine aw_goto (tgt := 4) d_X4_countKnown_38 rfl ?_
      exact k
    · have k := k.2 c3
      refine aw_aload_n (i := 0) rfl d_X4_countKnown_22 0 rfl ?_
      refine aw_getr (k0 := 14) kc_4 (ws_17 w) (Nat.le_of_ble_eq_true rfl) tw_212 d_X4_countKnown_23 rfl (wr_17_14 w) ?_
      refine aw_iload_n (i := 3) rfl d_X4_countKnown_26 3 rfl ?_
      obtain ⟨b4, k⟩ := k
      refine aw_iald (ws_69 w) b4 d_X4_countKnown_27 ?_
      refine aw_iload_n (i := 1) rfl d_X4_countKnown_28 1 rfl ?_
      refine aw_icmp_gt (tgt := 35) d_X4_countKnown_29 rfl (fun c5 => ?_) (fun c5 => ?_)
      · have k := k.1 c5
        refine aw_iinc (v := (x3 + 1)) [(0, .ref 17), (1, .int x1), (2, .int x2), (3, .int (x3 + 1))] d_X4_countKnown_35 3 rfl rfl (Nat.le_of_ble_eq_true rfl) rfl rfl ?_
        refine aw_goto (tgt := 4) d_X4_countKnown_38 rfl ?_
        exact k
      · have k := k.2 c5
        refine aw_iinc (v := (x2 + 1)) [(0, .ref 17), (1, .int x1), (2, .int (x2 + 1)), (3, .int x3)] d_X4_countKnown_32 2 rfl rfl (Nat.le_of_ble_eq_true rfl) rfl rfl ?_
        refine aw_iinc (v := (x3 + 1)) [(0, .ref 17), (1, .int x1), (2, .int (x2 + 1)), (3, .int (x3 + 1))] d_X4_countKnown_35 3 rfl rfl (Nat.le_of_ble_eq_true rfl) rfl rfl ?_
        refine aw_goto (tgt := 4) d_X4_countKnown_38 rfl ?_
        exact k
theorem t_X5_addRank (d : Nat) (h : Hp_) (w : Wf h) (x1 : Int32) (x2 : Int32) (x3 : Int32) (x4 : Int32) (K : Int32 → Hp_ → Prop) (k : ((h_i h 21 4) < 40 → vp_in (h_i h 21 4) 40 ∧ (vp_in (h_i h 21 4) 40 ∧ (vp_in (h_i h 21 4) 40 ∧ (vp_in (h_i h 21 4) 40 ∧ (K 1 (h_im (h_im (h_im (h_im (h_im h 104 ((h_i h 21 4) : Int32).toNatClampNeg x1) 105 ((h_i h 21 4) : Int32).toNatClampNeg x2) 106 ((h_i h 21 4) : Int32).toNatClampNeg x3) 107 ((h_i h 21 4) : Int32).toNatClampNeg x4) 21 4 ((h_i h 21 4) + 1))))))) ∧ (¬ (h_i h 21 4) < 40 → K 0 h)) : Ci (m_X5_addRank (d + 0) 0 0) [.ref 21, .int x1, .int x2, .int x3, .int x4] h K := by
  refine Ct.of (fun _ _ _ => trivial) rfl (Nat.le_of_ble_eq_true rfl) ?_
  show AW (m_X5_addRank (d + 0) 0 0) 0 0 0 [(0, .ref 21), (1, .int x1), (2, .int x2), (3, .int x3), (4, .int x4)] [] h (kI K)
  refine aw_aload_n (i := 0) rfl d_X5_addRank_0 0 rfl ?_
  refine aw_geti (k0 := 4) kc_5 (ws_21 w) (Nat.le_of_ble_eq_true rfl) tw_438 d_X5_addRank_1 rfl ?_
  refine aw_bipush (v := 40) d_X5_addRank_4 ib_40 ?_
  refine aw_icmp_lt (tgt := 11) d_X5_addRank_6 rfl (fun c1 => ?_) (fun c1 => ?_)
  · have k := k.1 c1
    refine aw_aload_n (i := 0) rfl d_X5_addRank_11 0 rfl ?_
    refine aw_getr (k0 := 0) kc_5 (ws_21 w) (Nat.le_of_ble_eq_true rfl) tw_434 d_X5_addRank_12 rfl (wr_21_0 w) ?_
    refine aw_aload_n (i := 0) rfl d_X5_addRank_15 0 rfl ?_
    refine aw_geti (k0 := 4) kc_5 (ws_21 w) (Nat.le_of_ble_eq_true rfl) tw_438 d_X5_addRank_16 rfl ?_
    refine aw_iload_n (i := 1) rfl d_X5_addRank_19 1 rfl ?_
    obtain ⟨b2, k⟩ := k
    refine aw_iast (ws_104 w) b2 d_X5_addRank_20 ?_
    refine aw_aload_n (i := 0) rfl d_X5_addRank_21 0 rfl ?_
    refine aw_getr (k0 := 1) kc_5 (ws_21 w) (Nat.le_of_ble_eq_true rfl) tw_435 d_X5_addRank_22 rfl (wr_21_1 w) ?_
    refine aw_aload_n (i := 0) rfl d_X5_addRank_25 0 rfl ?_
    refine aw_geti (k0 := 4) kc_5 (ws_21 w) (Nat.le_of_ble_eq_true rfl) tw_438 d_X5_addRank_26 rfl ?_
    refine aw_vi (v2 := (h_i h 21 4)) (rfl) ?_
    refine aw_iload_n (i := 2) rfl d_X5_addRank_29 2 rfl ?_
    obtain ⟨b3, k⟩ := k
    refine aw_iast (ws_105 w) b3 d_X5_addRank_30 ?_
    refine aw_aload_n (i := 0) rfl d_X5_addRank_31 0 rfl ?_
    refine aw_getr (k0 := 2) kc_5 (ws_21 w) (Nat.le_of_ble_eq_true rfl) tw_436 d_X5_addRank_32 rfl (wr_21_2 w) ?_
    refine aw_aload_n (i := 0) rfl d_X5_addRank_35 0 rfl ?_
    refine aw_geti (k0 := 4) kc_5 (ws_21 w) (Nat.le_of_ble_eq_true rfl) tw_438 d_X5_addRank_36 rfl ?_
    refine aw_vi (v2 := (h_i h 21 4)) (rfl) ?_
    refine aw_iload_n (i := 3) rfl d_X5_addRank_39 3 rfl ?_
    obtain ⟨b4, k⟩ := k
    refine aw_iast (ws_106 w) b4 d_X5_addRank_40 ?_
    refine aw_aload_n (i := 0) rfl d_X5_addRank_41 0 rfl ?_
    refine aw_getr (k0 := 3) kc_5 (ws_21 w) (Nat.le_of_ble_eq_true rfl) tw_437 d_X5_addRank_42 rfl (wr_21_3 w) ?_
    refine aw_aload_n (i := 0) rfl d_X5_addRank_45 0 rfl ?_
    refine aw_geti (k0 := 4) kc_5 (ws_21 w) (Nat.le_of_ble_eq_true rfl) tw_438 d_X5_addRank_46 rfl ?_
    refine aw_vi (v2 := (h_i h 21 4)) (rfl) ?_
    refine aw_iload d_X5_addRank_49 4 rfl ?_
    obtain ⟨b5, k⟩ := k
    refine aw_iast (ws_107 w) b5 d_X5_addRank_51 ?_
    refine aw_aload_n (i := 0) rfl d_X5_addRank_52 0 rfl ?_
    refine aw_dup d_X5_addRank_53 rfl ?_
    refine aw_geti (k0 := 4) kc_5 (ws_21 w) (Nat.le_of_ble_eq_true rfl) tw_438 d_X5_addRank_54 rfl ?_
    refine aw_vi (v2 := (h_i h 21 4)) (rfl) ?_
    refine aw_iconst (v := 1) d_X5_addRank_57 ic_1 ?_
    refine aw_iadd d_X5_addRank_58 ?_
    refine aw_puti (k0 := 4) kc_5 (ws_21 w) (Nat.le_of_ble_eq_true rfl) tw_438 d_X5_addRank_59 rfl rfl nf_i ?_
    refine aw_iconst (v := 1) d_X5_addRank_62 ic_1 ?_
    exact aw_zret rfl rfl d_X5_addRank_63 ⟨Nat.le_refl _, Nat.le_refl _⟩ ⟨_, rfl, k⟩
  · have k := k.2 c1
    refine aw_iconst (v := 0) d_X5_addRank_9 ic_0 ?_
    exact aw_zret rfl rfl d_X5_addRank_10 ⟨Nat.le_refl _, Nat.le_refl _⟩ ⟨_, rfl, k⟩
theorem t_X5_writeLine (d : Nat) (h : Hp_) (w : Wf h) (x1 : Int32) (x2 : Int32) (K : Hp_ → Prop) (k : (600 ≤ (h_i h 21 12) → K h) ∧ (¬ 600 ≤ (h_i h 21 12) → vp_in (h_i h 21 12) 600 ∧ (vp_in (h_i h 21 12) 600 ∧ (vp_in x1 168 ∧ (vp_in x1 168 ∧ (vp_in (h_i h 21 12) 600 ∧ (vp_in (h_i h 21 12) 600 ∧ (vp_in (h_i h 21 12) 600 ∧ (vp_in x1 168 ∧ (vp_in x1 168 ∧ (K (h_im (h_im (h_im (h_im (h_im (h_im (h_im h 111 ((h_i h 21 12) : Int32).toNatClampNeg (x1 - x1 / 12 * 12)) 112 ((h_i h 21 12) : Int32).toNatClampNeg (x1 / 12)) 113 ((h_i h 21 12) : Int32).toNatClampNeg ((h_i h 109 x1.toNatClampNeg) - (h_i h 110 x1.toNatClampNeg))) 114 ((h_i h 21 12) : Int32).toNatClampNeg x2) 21 13 ((h_i h 21 13) + ((h_i h 109 x1.toNatClampNeg) - (h_i h 110 x1.toNatClampNeg)))) 110 x1.toNatClampNeg (h_i h 109 x1.toNatClampNeg)) 21 12 ((h_i h 21 12) + 1))))))))))))) : Cv (m_X5_writeLine (d + 0) 0 0) [.ref 21, .int x1, .int x2] h K := by
  refine Ct.of (fun _ _ _ => trivial) rfl (Nat.le_of_ble_eq_true rfl) ?_
  show AW (m_X5_writeLine (d + 0) 0 0) 0 0 0 [(0, .ref 21), (1, .int x1), (2, .int x2)] [] h (kV K)
  refine aw_aload_n (i := 0) rfl d_X5_writeLine_0 0 rfl ?_
  refine aw_geti (k0 := 12) kc_5 (ws_21 w) (Nat.le_of_ble_eq_true rfl) tw_447 d_X5_writeLine_1 rfl ?_
  refine aw_sipush (v := 600) d_X5_writeLine_4 is_600 ?_
  refine aw_icmp_ge (tgt := 108) d_X5_writeLine_7 rfl (fun c1 => ?_) (fun c1 => ?_)
  · have k := k.1 c1
    exact aw_vret rfl d_X5_writeLine_108 ⟨Nat.le_refl _, Nat.le_refl _⟩ ⟨rfl, k⟩
  · have k := k.2 c1
    refine aw_aload_n (i := 0) rfl d_X5_writeLine_10 0 rfl ?_
    refine aw_getr (k0 := 8) kc_5 (ws_21 w) (Nat.le_of_ble_eq_true rfl) tw_443 d_X5_writeLine_11 rfl (wr_21_8 w) ?_
    refine aw_aload_n (i := 0) rfl d_X5_writeLine_14 0 rfl ?_
    refine aw_geti (k0 := 12) kc_5 (ws_21 w) (Nat.le_of_ble_eq_true rfl) tw_447 d_X5_writeLine_15 rfl ?_
    refine aw_iload_n (i := 1) rfl d_X5_writeLine_18 1 rfl ?_
    refine aw_bipush (v := 12) d_X5_writeLine_19 ib_12 ?_
    refine aw_irem d_X5_writeLine_21 (by decide) ?_
    obtain ⟨b2, k⟩ := k
    refine aw_iast (ws_111 w) b2 d_X5_writeLine_22 ?_
    refine aw_aload_n (i := 0) rfl d_X5_writeLine_23 0 rfl ?_
    refine aw_getr (k0 := 9) kc_5 (ws_21 w) (Nat.le_of_ble_eq_true rfl) tw_444 d_X5_writeLine_24 rfl (wr_21_9 w) ?_
    refine aw_aload_n (i := 0) rfl d_X5_writeLine_27 0 rfl ?_
    refine aw_geti (k0 := 12) kc_5 (ws_21 w) (Nat.le_of_ble_eq_true rfl) tw_447 d_X5_writeLine_28 rfl ?_
    refine aw_vi (v2 := (h_i h 21 12)) (rfl) ?_
    refine aw_iload_n (i := 1) rfl d_X5_writeLine_31 1 rfl ?_
    refine aw_bipush (v := 12) d_X5_writeLine_32 ib_12 ?_
    refine aw_idiv d_X5_writeLine_34 (by decide) ?_
    obtain ⟨b3, k⟩ := k
    refine aw_iast (ws_112 w) b3 d_X5_writeLine_35 ?_
    refine aw_aload_n (i := 0) rfl d_X5_writeLine_36 0 rfl ?_
    refine aw_getr (k0 := 10) kc_5 (ws_21 w) (Nat.le_of_ble_eq_true rfl) tw_445 d_X5_writeLine_37 rfl (wr_21_10 w) ?_
    refine aw_aload_n (i := 0) rfl d_X5_writeLine_40 0 rfl ?_
    refine aw_geti (k0 := 12) kc_5 (ws_21 w) (Nat.le_of_ble_eq_true rfl) tw_447 d_X5_writeLine_41 rfl ?_
    refine aw_vi (v2 := (h_i h 21 12)) (rfl) ?_
    refine aw_aload_n (i := 0) rfl d_X5_writeLine_44 0 rfl ?_
    refine aw_getr (k0 := 6) kc_5 (ws_21 w) (Nat.le_of_ble_eq_true rfl) tw_441 d_X5_writeLine_45 rfl (wr_21_6 w) ?_
    refine aw_iload_n (i := 1) rfl d_X5_writeLine_48 1 rfl ?_
    obtain ⟨b4, k⟩ := k
    refine aw_iald (ws_109 w) b4 d_X5_writeLine_49 ?_
    refine aw_vi (v2 := (h_i h 109 x1.toNatClampNeg)) (rfl) ?_
    refine aw_aload_n (i := 0) rfl d_X5_writeLine_50 0 rfl ?_
    refine aw_getr (k0 := 7) kc_5 (ws_21 w) (Nat.le_of_ble_eq_true rfl) tw_442 d_X5_writeLine_51 rfl (wr_21_7 w) ?_
    refine aw_iload_n (i := 1) rfl d_X5_writeLine_54 1 rfl ?_
    obtain ⟨b5, k⟩ := k
    refine aw_iald (ws_110 w) b5 d_X5_writeLine_55 ?_
    refine aw_vi (v2 := (h_i h 110 x1.toNatClampNeg)) (rfl) ?_
    refine aw_isub d_X5_writeLine_56 ?_
    obtain ⟨b6, k⟩ := k
    refine aw_iast (ws_113 w) b6 d_X5_writeLine_57 ?_
    refine aw_aload_n (i := 0) rfl d_X5_writeLine_58 0 rfl ?_
    refine aw_getr (k0 := 11) kc_5 (ws_21 w) (Nat.le_of_ble_eq_true rfl) tw_446 d_X5_writeLine_59 rfl (wr_21_11 w) ?_
    refine aw_aload_n (i := 0) rfl d_X5_writeLine_62 0 rfl ?_
    refine aw_geti (k0 := 12) kc_5 (ws_21 w) (Nat.le_of_ble_eq_true rfl) tw_447 d_X5_writeLine_63 rfl ?_
    refine aw_vi (v2 := (h_i h 21 12)) (rfl) ?_
    refine aw_iload_n (i := 2) rfl d_X5_writeLine_66 2 rfl ?_
    obtain ⟨b7, k⟩ := k
    refine aw_iast (ws_114 w) b7 d_X5_writeLine_67 ?_
    refine aw_aload_n (i := 0) rfl d_X5_writeLine_68 0 rfl ?_
    refine aw_dup d_X5_writeLine_69 rfl ?_
    refine aw_geti (k0 := 13) kc_5 (ws_21 w) (Nat.le_of_ble_eq_true rfl) tw_449 d_X5_writeLine_70 rfl ?_
    refine aw_vi (v2 := (h_i h 21 13)) (rfl) ?_
    refine aw_aload_n (i := 0) rfl d_X5_writeLine_73 0 rfl ?_
    refine aw_getr (k0 := 10) kc_5 (ws_21 w) (Nat.le_of_ble_eq_true rfl) tw_445 d_X5_writeLine_74 rfl (wr_21_10 w) ?_
    refine aw_aload_n (i := 0) rfl d_X5_writeLine_77 0 rfl ?_
    refine aw_geti (k0 := 12) kc_5 (ws_21 w) (Nat.le_of_ble_eq_true rfl) tw_447 d_X5_writeLine_78 rfl ?_
    refine aw_vi (v2 := (h_i h 21 12)) (rfl) ?_
    obtain ⟨b8, k⟩ := k
    refine aw_iald (ws_113 w) b8 d_X5_writeLine_81 ?_
    refine aw_vi (v2 := ((h_i h 109 x1.toNatClampNeg) - (h_i h 110 x1.toNatClampNeg))) (hi_s (h_im (h_im h 111 ((h_i h 21 12) : Int32).toNatClampNeg (x1 - x1 / 12 * 12)) 112 ((h_i h 21 12) : Int32).toNatClampNeg (x1 / 12)) 113 ((h_i h 21 12) : Int32).toNatClampNeg ((h_i h 109 x1.toNatClampNeg) - (h_i h 110 x1.toNatClampNeg))) ?_
    refine aw_iadd d_X5_writeLine_82 ?_
    refine aw_puti (k0 := 13) kc_5 (ws_21 w) (Nat.le_of_ble_eq_true rfl) tw_449 d_X5_writeLine_83 rfl rfl nf_i ?_
    refine aw_aload_n (i := 0) rfl d_X5_writeLine_86 0 rfl ?_
    refine aw_getr (k0 := 7) kc_5 (ws_21 w) (Nat.le_of_ble_eq_true rfl) tw_442 d_X5_writeLine_87 rfl (wr_21_7 w) ?_
    refine aw_iload_n (i := 1) rfl d_X5_writeLine_90 1 rfl ?_
    refine aw_aload_n (i := 0) rfl d_X5_writeLine_91 0 rfl ?_
    refine aw_getr (k0 := 6) kc_5 (ws_21 w) (Nat.le_of_ble_eq_true rfl) tw_441 d_X5_writeLine_92 rfl (wr_21_6 w) ?_
    refine aw_iload_n (i := 1) rfl d_X5_writeLine_95 1 rfl ?_
    obtain ⟨b9, k⟩ := k
    refine aw_iald (ws_109 w) b9 d_X5_writeLine_96 ?_
    refine aw_vi (v2 := (h_i h 109 x1.toNatClampNeg)) (rfl) ?_
    obtain ⟨b10, k⟩ := k
    refine aw_iast (ws_110 w) b10 d_X5_writeLine_97 ?_
    refine aw_aload_n (i := 0) rfl d_X5_writeLine_98 0 rfl ?_
    refine aw_dup d_X5_writeLine_99 rfl ?_
    refine aw_geti (k0 := 12) kc_5 (ws_21 w) (Nat.le_of_ble_eq_true rfl) tw_447 d_X5_writeLine_100 rfl ?_
    refine aw_vi (v2 := (h_i h 21 12)) (rfl) ?_
    refine aw_iconst (v := 1) d_X5_writeLine_103 ic_1 ?_
    refine aw_iadd d_X5_writeLine_104 ?_
    refine aw_puti (k0 := 12) kc_5 (ws_21 w) (Nat.le_of_ble_eq_true rfl) tw_447 d_X5_writeLine_105 rfl rfl nf_i ?_
    exact aw_vret rfl d_X5_writeLine_108 ⟨Nat.le_refl _, Nat.le_refl _⟩ ⟨rfl, k⟩
theorem t_X6_addWatch (d : Nat) (h : Hp_) (w : Wf h) (x1 : Int32) (x2 : Int32) (x3 : Int32) (K : Int32 → Hp_ → Prop) (k : ((h_i h 20 3) < 8 → vp_in (h_i h 20 3) 8 ∧ (vp_in (h_i h 20 3) 8 ∧ (vp_in (h_i h 20 3) 8 ∧ (K (((h_i h 20 3) + 1) - 1) (h_im (h_im (h_im (h_im h 92 ((h_i h 20 3) : Int32).toNatClampNeg x1) 93 ((h_i h 20 3) : Int32).toNatClampNeg x2) 94 ((h_i h 20 3) : Int32).toNatClampNeg x3) 20 3 ((h_i h 20 3) + 1)))))) ∧ (¬ (h_i h 20 3) < 8 → K (-1) h)) : Ci (m_X6_addWatch (d + 0) 0 0) [.ref 20, .int x1, .int x2, .int x3] h K := by
  refine Ct.of (fun _ _ _ => trivial) rfl (Nat.le_of_ble_eq_true rfl) ?_
  show AW (m_X6_addWatch (d + 0) 0 0) 0 0 0 [(0, .ref 20), (1, .int x1), (2, .int x2), (3, .int x3)] [] h (kI K)
  refine aw_aload_n (i := 0) rfl d_X6_addWatch_0 0 rfl ?_
  refine aw_geti (k0 := 3) kc_6 (ws_20 w) (Nat.le_of_ble_eq_true rfl) tw_366 d_X6_addWatch_1 rfl ?_
  refine aw_bipush (v := 8) d_X6_addWatch_4 ib_8 ?_
  refine aw_icmp_lt (tgt := 11) d_X6_addWatch_6 rfl (fun c1 => ?_) (fun c1 => ?_)
  · have k := k.1 c1
    refine aw_aload_n (i := 0) rfl d_X6_addWatch_11 0 rfl ?_
    refine aw_getr (k0 := 0) kc_6 (ws_20 w) (Nat.le_of_ble_eq_true rfl) tw_363 d_X6_addWatch_12 rfl (wr_20_0 w) ?_
    refine aw_aload_n (i := 0) rfl d_X6_addWatch_15 0 rfl ?_
    refine aw_geti (k0 := 3) kc_6 (ws_20 w) (Nat.le_of_ble_eq_true rfl) tw_366 d_X6_addWatch_16 rfl ?_
    refine aw_iload_n (i := 1) rfl d_X6_addWatch_19 1 rfl ?_
    obtain ⟨b2, k⟩ := k
    refine aw_iast (ws_92 w) b2 d_X6_addWatch_20 ?_
    refine aw_aload_n (i := 0) rfl d_X6_addWatch_21 0 rfl ?_
    refine aw_getr (k0 := 1) kc_6 (ws_20 w) (Nat.le_of_ble_eq_true rfl) tw_364 d_X6_addWatch_22 rfl (wr_20_1 w) ?_
    refine aw_aload_n (i := 0) rfl d_X6_addWatch_25 0 rfl ?_
    refine aw_geti (k0 := 3) kc_6 (ws_20 w) (Nat.le_of_ble_eq_true rfl) tw_366 d_X6_addWatch_26 rfl ?_
    refine aw_vi (v2 := (h_i h 20 3)) (rfl) ?_
    refine aw_iload_n (i := 2) rfl d_X6_addWatch_29 2 rfl ?_
    obtain ⟨b3, k⟩ := k
    refine aw_iast (ws_93 w) b3 d_X6_addWatch_30 ?_
    refine aw_aload_n (i := 0) rfl d_X6_addWatch_31 0 rfl ?_
    refine aw_getr (k0 := 2) kc_6 (ws_20 w) (Nat.le_of_ble_eq_true rfl) tw_365 d_X6_addWatch_32 rfl (wr_20_2 w) ?_
    refine aw_aload_n (i := 0) rfl d_X6_addWatch_35 0 rfl ?_
    refine aw_geti (k0 := 3) kc_6 (ws_20 w) (Nat.le_of_ble_eq_true rfl) tw_366 d_X6_addWatch_36 rfl ?_
    refine aw_vi (v2 := (h_i h 20 3)) (rfl) ?_
    refine aw_iload_n (i := 3) rfl d_X6_addWatch_39 3 rfl ?_
    obtain ⟨b4, k⟩ := k
    refine aw_iast (ws_94 w) b4 d_X6_addWatch_40 ?_
    refine aw_aload_n (i := 0) rfl d_X6_addWatch_41 0 rfl ?_
    refine aw_dup d_X6_addWatch_42 rfl ?_
    refine aw_geti (k0 := 3) kc_6 (ws_20 w) (Nat.le_of_ble_eq_true rfl) tw_366 d_X6_addWatch_43 rfl ?_
    refine aw_vi (v2 := (h_i h 20 3)) (rfl) ?_
    refine aw_iconst (v := 1) d_X6_addWatch_46 ic_1 ?_
    refine aw_iadd d_X6_addWatch_47 ?_
    refine aw_puti (k0 := 3) kc_6 (ws_20 w) (Nat.le_of_ble_eq_true rfl) tw_366 d_X6_addWatch_48 rfl rfl nf_i ?_
    refine aw_aload_n (i := 0) rfl d_X6_addWatch_51 0 rfl ?_
    refine aw_geti (k0 := 3) kc_6 (ws_20 w) (Nat.le_of_ble_eq_true rfl) tw_366 d_X6_addWatch_52 rfl ?_
    refine aw_vi (v2 := ((h_i h 20 3) + 1)) (rfl) ?_
    refine aw_iconst (v := 1) d_X6_addWatch_55 ic_1 ?_
    refine aw_isub d_X6_addWatch_56 ?_
    exact aw_iret rfl d_X6_addWatch_57 ⟨Nat.le_refl _, Nat.le_refl _⟩ ⟨_, rfl, k⟩
  · have k := k.2 c1
    refine aw_iconst (v := (-1)) d_X6_addWatch_9 ic_m1 ?_
    exact aw_iret rfl d_X6_addWatch_10 ⟨Nat.le_refl _, Nat.le_refl _⟩ ⟨_, rfl, k⟩
theorem t_X6_hasWatch (d : Nat) (h : Hp_) (w : Wf h) (x1 : Int32) (K : Int32 → Hp_ → Prop) (k : (x1 < 0 → K 0 h) ∧ (¬ x1 < 0 → ((h_i h 20 3) ≤ x1 → K 0 h) ∧ (¬ (h_i h 20 3) ≤ x1 → K 1 h))) : Ci (m_X6_hasWatch (d + 0) 0 0) [.ref 20, .int x1] h K := by
  refine Ct.of (fun _ _ _ => trivial) rfl (Nat.le_of_ble_eq_true rfl) ?_
  show AW (m_X6_hasWatch (d + 0) 0 0) 0 0 0 [(0, .ref 20), (1, .int x1)] [] h (kI K)
  refine aw_iload_n (i := 1) rfl d_X6_hasWatch_0 1 rfl ?_
  refine aw_if_lt (tgt := 16) d_X6_hasWatch_1 rfl (fun c1 => ?_) (fun c1 => ?_)
  · have k := k.1 c1
    refine aw_iconst (v := 0) d_X6_hasWatch_16 ic_0 ?_
    exact aw_zret rfl rfl d_X6_hasWatch_17 ⟨Nat.le_refl _, Nat.le_refl _⟩ ⟨_, rfl, k⟩
  · have k := k.2 c1
    refine aw_iload_n (i := 1) rfl d_X6_hasWatch_4 1 rfl ?_
    refine aw_aload_n (i := 0) rfl d_X6_hasWatch_5 0 rfl ?_
    refine aw_geti (k0 := 3) kc_6 (ws_20 w) (Nat.le_of_ble_eq_true rfl) tw_366 d_X6_hasWatch_6 rfl ?_
    refine aw_icmp_ge (tgt := 16) d_X6_hasWatch_9 rfl (fun c2 => ?_) (fun c2 => ?_)
    · have k := k.1 c2
      refine aw_iconst (v := 0) d_X6_hasWatch_16 ic_0 ?_
      exact aw_zret rfl rfl d_X6_hasWatch_17 ⟨Nat.le_refl _, Nat.le_refl _⟩ ⟨_, rfl, k⟩
    · have k := k.2 c2
      refine aw_iconst (v := 1) d_X6_hasWatch_12 ic_1 ?_
      refine aw_goto (tgt := 17) d_X6_hasWatch_13 rfl ?_
      exact aw_zret rfl rfl d_X6_hasWatch_17 ⟨Nat.le_refl _, Nat.le_refl _⟩ ⟨_, rfl, k⟩
theorem t_X6_addFair (d : Nat) (h : Hp_) (w : Wf h) (x1 : Int32) (x2 : Int32) (x3 : Int32) (K : Int32 → Hp_ → Prop) (k : ((h_i h 20 16) < 4 → vp_in (h_i h 20 16) 4 ∧ (vp_in (h_i h 20 16) 4 ∧ (vp_in (h_i h 20 16) 4 ∧ (K (((h_i h 20 16) + 1) - 1) (h_im (h_im (h_im (h_im h 98 ((h_i h 20 16) : Int32).toNatClampNeg x1) 99 ((h_i h 20 16) : Int32).toNatClampNeg x2) 100 ((h_i h 20 16) : Int32).toNatClampNeg x3) 20 16 ((h_i h 20 16) + 1)))))) ∧ (¬ (h_i h 20 16) < 4 → K (-1) h)) : Ci (m_X6_addFair (d + 0) 0 0) [.ref 20, .int x1, .int x2, .int x3] h K := by
  refine Ct.of (fun _ _ _ => trivial) rfl (Nat.le_of_ble_eq_true rfl) ?_
  show AW (m_X6_addFair (d + 0) 0 0) 0 0 0 [(0, .ref 20), (1, .int x1), (2, .int x2), (3, .int x3)] [] h (kI K)
  refine aw_aload_n (i := 0) rfl d_X6_addFair_0 0 rfl ?_
  refine aw_geti (k0 := 16) kc_6 (ws_20 w) (Nat.le_of_ble_eq_true rfl) tw_380 d_X6_addFair_1 rfl ?_
  refine aw_iconst (v := 4) d_X6_addFair_4 ic_4 ?_
  refine aw_icmp_lt (tgt := 10) d_X6_addFair_5 rfl (fun c1 => ?_) (fun c1 => ?_)
  · have k := k.1 c1
    refine aw_aload_n (i := 0) rfl d_X6_addFair_10 0 rfl ?_
    refine aw_getr (k0 := 13) kc_6 (ws_20 w) (Nat.le_of_ble_eq_true rfl) tw_377 d_X6_addFair_11 rfl (wr_20_13 w) ?_
    refine aw_aload_n (i := 0) rfl d_X6_addFair_14 0 rfl ?_
    refine aw_geti (k0 := 16) kc_6 (ws_20 w) (Nat.le_of_ble_eq_true rfl) tw_380 d_X6_addFair_15 rfl ?_
    refine aw_iload_n (i := 1) rfl d_X6_addFair_18 1 rfl ?_
    obtain ⟨b2, k⟩ := k
    refine aw_iast (ws_98 w) b2 d_X6_addFair_19 ?_
    refine aw_aload_n (i := 0) rfl d_X6_addFair_20 0 rfl ?_
    refine aw_getr (k0 := 14) kc_6 (ws_20 w) (Nat.le_of_ble_eq_true rfl) tw_378 d_X6_addFair_21 rfl (wr_20_14 w) ?_
    refine aw_aload_n (i := 0) rfl d_X6_addFair_24 0 rfl ?_
    refine aw_geti (k0 := 16) kc_6 (ws_20 w) (Nat.le_of_ble_eq_true rfl) tw_380 d_X6_addFair_25 rfl ?_
    refine aw_vi (v2 := (h_i h 20 16)) (rfl) ?_
    refine aw_iload_n (i := 2) rfl d_X6_addFair_28 2 rfl ?_
    obtain ⟨b3, k⟩ := k
    refine aw_iast (ws_99 w) b3 d_X6_addFair_29 ?_
    refine aw_aload_n (i := 0) rfl d_X6_addFair_30 0 rfl ?_
    refine aw_getr (k0 := 15) kc_6 (ws_20 w) (Nat.le_of_ble_eq_true rfl) tw_379 d_X6_addFair_31 rfl (wr_20_15 w) ?_
    refine aw_aload_n (i := 0) rfl d_X6_addFair_34 0 rfl ?_
    refine aw_geti (k0 := 16) kc_6 (ws_20 w) (Nat.le_of_ble_eq_true rfl) tw_380 d_X6_addFair_35 rfl ?_
    refine aw_vi (v2 := (h_i h 20 16)) (rfl) ?_
    refine aw_iload_n (i := 3) rfl d_X6_addFair_38 3 rfl ?_
    obtain ⟨b4, k⟩ := k
    refine aw_iast (ws_100 w) b4 d_X6_addFair_39 ?_
    refine aw_aload_n (i := 0) rfl d_X6_addFair_40 0 rfl ?_
    refine aw_dup d_X6_addFair_41 rfl ?_
    refine aw_geti (k0 := 16) kc_6 (ws_20 w) (Nat.le_of_ble_eq_true rfl) tw_380 d_X6_addFair_42 rfl ?_
    refine aw_vi (v2 := (h_i h 20 16)) (rfl) ?_
    refine aw_iconst (v := 1) d_X6_addFair_45 ic_1 ?_
    refine aw_iadd d_X6_addFair_46 ?_
    refine aw_puti (k0 := 16) kc_6 (ws_20 w) (Nat.le_of_ble_eq_true rfl) tw_380 d_X6_addFair_47 rfl rfl nf_i ?_
    refine aw_aload_n (i := 0) rfl d_X6_addFair_50 0 rfl ?_
    refine aw_geti (k0 := 16) kc_6 (ws_20 w) (Nat.le_of_ble_eq_true rfl) tw_380 d_X6_addFair_51 rfl ?_
    refine aw_vi (v2 := ((h_i h 20 16) + 1)) (rfl) ?_
    refine aw_iconst (v := 1) d_X6_addFair_54 ic_1 ?_
    refine aw_isub d_X6_addFair_55 ?_
    exact aw_iret rfl d_X6_addFair_56 ⟨Nat.le_refl _, Nat.le_refl _⟩ ⟨_, rfl, k⟩
  · have k := k.2 c1
    refine aw_iconst (v := (-1)) d_X6_addFair_8 ic_m1 ?_
    exact aw_iret rfl d_X6_addFair_9 ⟨Nat.le_refl _, Nat.le_refl _⟩ ⟨_, rfl, k⟩
theorem t_X6_clearFairs (d : Nat) (h : Hp_) (w : Wf h)  (K : Hp_ → Prop) (k : K (h_im h 20 16 0)) : Cv (m_X6_clearFairs (d + 0) 0 0) [.ref 20] h K := by
  refine Ct.of (fun _ _ _ => trivial) rfl (Nat.le_of_ble_eq_true rfl) ?_
  show AW (m_X6_clearFairs (d + 0) 0 0) 0 0 0 [(0, .ref 20)] [] h (kV K)
  refine aw_aload_n (i := 0) rfl d_X6_clearFairs_0 0 rfl ?_
  refine aw_iconst (v := 0) d_X6_clearFairs_1 ic_0 ?_
  refine aw_puti (k0 := 16) kc_6 (ws_20 w) (Nat.le_of_ble_eq_true rfl) tw_380 d_X6_clearFairs_2 rfl rfl nf_i ?_
  exact aw_vret rfl d_X6_clearFairs_5 ⟨Nat.le_refl _, Nat.le_refl _⟩ ⟨rfl, k⟩
theorem t_X6_price (d : Nat) (h : Hp_) (x0 : Int32) (x1 : Int32) (K : Int32 → Hp_ → Prop) (k : K ((x0 * 100000) + x1) h) : Ci (m_X6_price (d + 0) 0 0) [.int x0, .int x1] h K := by
  refine Ct.of (fun _ _ _ => trivial) rfl (Nat.le_of_ble_eq_true rfl) ?_
  show AW (m_X6_price (d + 0) 0 0) 0 0 0 [(0, .int x0), (1, .int x1)] [] h (kI K)
  refine aw_iload_n (i := 0) rfl d_X6_price_0 0 rfl ?_
  refine aw_ldc (v := 100000) d_X6_price_1 tw_1511 ?_
  refine aw_imul d_X6_price_3 ?_
  refine aw_iload_n (i := 1) rfl d_X6_price_4 1 rfl ?_
  refine aw_iadd d_X6_price_5 ?_
  exact aw_iret rfl d_X6_price_6 ⟨Nat.le_refl _, Nat.le_refl _⟩ ⟨_, rfl, k⟩
theorem t_X6_allWanted (d : Nat) (h : Hp_)  (K : Int32 → Hp_ → Prop) (k : AW (m_X6_allWanted (d + 0) 0 0) 0 0 4 [(0, .ref 20), (1, .int 0), (2, .int 0)] [] h (kI K)) : Ci (m_X6_allWanted (d + 0) 0 0) [.ref 20] h K := by
  refine Ct.of (fun _ _ _ => trivial) rfl (Nat.le_of_ble_eq_true rfl) ?_
  show AW (m_X6_allWanted (d + 0) 0 0) 0 0 0 [(0, .ref 20)] [] h (kI K)
  refine aw_iconst (v := 0) d_X6_allWanted_0 ic_0 ?_
  refine aw_istore_n (i := 1) rfl [(0, .ref 20), (1, .int 0)] d_X6_allWanted_1 (Nat.le_of_ble_eq_true rfl) rfl rfl ?_
  refine aw_iconst (v := 0) d_X6_allWanted_2 ic_0 ?_
  refine aw_istore_n (i := 2) rfl [(0, .ref 20), (1, .int 0), (2, .int 0)] d_X6_allWanted_3 (Nat.le_of_ble_eq_true rfl) rfl rfl ?_
  exact k
theorem t_X6_allWanted_4 (d : Nat) (h : Hp_) (w : Wf h) (x1 : Int32) (x2 : Int32) (K : Int32 → Hp_ → Prop) (k : ((h_i h 20 16) ≤ x2 → K x1 h) ∧ (¬ (h_i h 20 16) ≤ x2 → vp_in x2 4 ∧ (AW (m_X6_allWanted (d + 0) 0 0) 0 0 4 [(0, .ref 20), (1, .int (x1 ||| ((h_i h 100 x2.toNatClampNeg) <<< ((2 * x2) &&& 31)))), (2, .int (x2 + 1))] [] h (kI K)))) : AW (m_X6_allWanted (d + 0) 0 0) 0 0 4 [(0, .ref 20), (1, .int x1), (2, .int x2)] [] h (kI K) := by
  refine aw_iload_n (i := 2) rfl d_X6_allWanted_4 2 rfl ?_
  refine aw_aload_n (i := 0) rfl d_X6_allWanted_5 0 rfl ?_
  refine aw_geti (k0 := 16) kc_6 (ws_20 w) (Nat.le_of_ble_eq_true rfl) tw_380 d_X6_allWanted_6 rfl ?_
  refine aw_icmp_ge (tgt := 31) d_X6_allWanted_9 rfl (fun c1 => ?_) (fun c1 => ?_)
  · have k := k.1 c1
    refine aw_iload_n (i := 1) rfl d_X6_allWanted_31 1 rfl ?_
    exact aw_iret rfl d_X6_allWanted_32 ⟨Nat.le_refl _, Nat.le_refl _⟩ ⟨_, rfl, k⟩
  · have k := k.2 c1
    refine aw_iload_n (i := 1) rfl d_X6_allWanted_12 1 rfl ?_
    refine aw_aload_n (i := 0) rfl d_X6_allWanted_13 0 rfl ?_
    refine aw_getr (k0 := 15) kc_6 (ws_20 w) (Nat.le_of_ble_eq_true rfl) tw_379 d_X6_allWanted_14 rfl (wr_20_15 w) ?_
    refine aw_iload_n (i := 2) rfl d_X6_allWanted_17 2 rfl ?_
    obtain ⟨b2, k⟩ := k
    refine aw_iald (ws_100 w) b2 d_X6_allWanted_18 ?_
    refine aw_iconst (v := 2) d_X6_allWanted_19 ic_2 ?_
    refine aw_iload_n (i := 2) rfl d_X6_allWanted_20 2 rfl ?_
    refine aw_imul d_X6_allWanted_21 ?_
    refine aw_ishl d_X6_allWanted_22 ?_
    refine aw_ior d_X6_allWanted_23 ?_
    refine aw_istore_n (i := 1) rfl [(0, .ref 20), (1, .int (x1 ||| ((h_i h 100 x2.toNatClampNeg) <<< ((2 * x2) &&& 31)))), (2, .int x2)] d_X6_allWanted_24 (Nat.le_of_ble_eq_true rfl) rfl rfl ?_
    refine aw_iinc (v := (x2 + 1)) [(0, .ref 20), (1, .int (x1 ||| ((h_i h 100 x2.toNatClampNeg) <<< ((2 * x2) &&& 31)))), (2, .int (x2 + 1))] d_X6_allWanted_25 2 rfl rfl (Nat.le_of_ble_eq_true rfl) rfl rfl ?_
    refine aw_goto (tgt := 4) d_X6_allWanted_28 rfl ?_
    exact k
theorem t_X7_has (d : Nat) (h : Hp_) (w : Wf h) (x1 : Int32) (K : Int32 → Hp_ → Prop) (k : (x1 < 0 → K 0 h) ∧ (¬ x1 < 0 → ((h_i h 16 7) ≤ x1 → K 0 h) ∧ (¬ (h_i h 16 7) ≤ x1 → K 1 h))) : Ci (m_X7_has (d + 0) 0 0) [.ref 16, .int x1] h K := by
  refine Ct.of (fun _ _ _ => trivial) rfl (Nat.le_of_ble_eq_true rfl) ?_
  show AW (m_X7_has (d + 0) 0 0) 0 0 0 [(0, .ref 16), (1, .int x1)] [] h (kI K)
  refine aw_iload_n (i := 1) rfl d_X7_has_0 1 rfl ?_
  refine aw_if_lt (tgt := 16) d_X7_has_1 rfl (fun c1 => ?_) (fun c1 => ?_)
  · have k := k.1 c1
    refine aw_iconst (v := 0) d_X7_has_16 ic_0 ?_
    exact aw_zret rfl rfl d_X7_has_17 ⟨Nat.le_refl _, Nat.le_refl _⟩ ⟨_, rfl, k⟩
  · have k := k.2 c1
    refine aw_iload_n (i := 1) rfl d_X7_has_4 1 rfl ?_
    refine aw_aload_n (i := 0) rfl d_X7_has_5 0 rfl ?_
    refine aw_geti (k0 := 7) kc_7 (ws_16 w) (Nat.le_of_ble_eq_true rfl) tw_159 d_X7_has_6 rfl ?_
    refine aw_icmp_ge (tgt := 16) d_X7_has_9 rfl (fun c2 => ?_) (fun c2 => ?_)
    · have k := k.1 c2
      refine aw_iconst (v := 0) d_X7_has_16 ic_0 ?_
      exact aw_zret rfl rfl d_X7_has_17 ⟨Nat.le_refl _, Nat.le_refl _⟩ ⟨_, rfl, k⟩
    · have k := k.2 c2
      refine aw_iconst (v := 1) d_X7_has_12 ic_1 ?_
      refine aw_goto (tgt := 17) d_X7_has_13 rfl ?_
      exact aw_zret rfl rfl d_X7_has_17 ⟨Nat.le_refl _, Nat.le_refl _⟩ ⟨_, rfl, k⟩
theorem t_X7_hasRoom (d : Nat) (h : Hp_) (w : Wf h) (x1 : Int32) (K : Int32 → Hp_ → Prop) (k : (400 < ((h_i h 16 7) + x1) → K 0 h) ∧ (¬ 400 < ((h_i h 16 7) + x1) → K 1 h)) : Ci (m_X7_hasRoom (d + 0) 0 0) [.ref 16, .int x1] h K := by
  refine Ct.of (fun _ _ _ => trivial) rfl (Nat.le_of_ble_eq_true rfl) ?_
  show AW (m_X7_hasRoom (d + 0) 0 0) 0 0 0 [(0, .ref 16), (1, .int x1)] [] h (kI K)
  refine aw_aload_n (i := 0) rfl d_X7_hasRoom_0 0 rfl ?_
  refine aw_geti (k0 := 7) kc_7 (ws_16 w) (Nat.le_of_ble_eq_true rfl) tw_159 d_X7_hasRoom_1 rfl ?_
  refine aw_iload_n (i := 1) rfl d_X7_hasRoom_4 1 rfl ?_
  refine aw_iadd d_X7_hasRoom_5 ?_
  refine aw_sipush (v := 400) d_X7_hasRoom_6 is_400 ?_
  refine aw_icmp_gt (tgt := 16) d_X7_hasRoom_9 rfl (fun c1 => ?_) (fun c1 => ?_)
  · have k := k.1 c1
    refine aw_iconst (v := 0) d_X7_hasRoom_16 ic_0 ?_
    exact aw_zret rfl rfl d_X7_hasRoom_17 ⟨Nat.le_refl _, Nat.le_refl _⟩ ⟨_, rfl, k⟩
  · have k := k.2 c1
    refine aw_iconst (v := 1) d_X7_hasRoom_12 ic_1 ?_
    refine aw_goto (tgt := 17) d_X7_hasRoom_13 rfl ?_
    exact aw_zret rfl rfl d_X7_hasRoom_17 ⟨Nat.le_refl _, Nat.le_refl _⟩ ⟨_, rfl, k⟩
theorem t_X7_write (d : Nat) (h : Hp_) (w : Wf h) (x1 : Int32) (x2 : Int32) (x3 : Int32) (x4 : Int32) (K : Hp_ → Prop) (k : (400 ≤ (h_i h 16 7) → K h) ∧ (¬ 400 ≤ (h_i h 16 7) → vp_in (h_i h 16 7) 400 ∧ (vp_in (h_i h 16 7) 400 ∧ (vp_in (h_i h 16 7) 400 ∧ (vp_in (h_i h 16 7) 400 ∧ (K (h_im (h_im (h_im (h_im (h_im h 47 ((h_i h 16 7) : Int32).toNatClampNeg x1) 48 ((h_i h 16 7) : Int32).toNatClampNeg x2) 49 ((h_i h 16 7) : Int32).toNatClampNeg x3) 50 ((h_i h 16 7) : Int32).toNatClampNeg x4) 16 7 ((h_i h 16 7) + 1)))))))) : Cv (m_X7_write (d + 0) 0 0) [.ref 16, .int x1, .int x2, .int x3, .int x4] h K := by
  refine Ct.of (fun _ _ _ => trivial) rfl (Nat.le_of_ble_eq_true rfl) ?_
  show AW (m_X7_write (d + 0) 0 0) 0 0 0 [(0, .ref 16), (1, .int x1), (2, .int x2), (3, .int x3), (4, .int x4)] [] h (kV K)
  refine aw_aload_n (i := 0) rfl d_X7_write_0 0 rfl ?_
  refine aw_geti (k0 := 7) kc_7 (ws_16 w) (Nat.le_of_ble_eq_true rfl) tw_159 d_X7_write_1 rfl ?_
  refine aw_sipush (v := 400) d_X7_write_4 is_400 ?_
  refine aw_icmp_ge (tgt := 61) d_X7_write_7 rfl (fun c1 => ?_) (fun c1 => ?_)
  · have k := k.1 c1
    exact aw_vret rfl d_X7_write_61 ⟨Nat.le_refl _, Nat.le_refl _⟩ ⟨rfl, k⟩
  · have k := k.2 c1
    refine aw_aload_n (i := 0) rfl d_X7_write_10 0 rfl ?_
    refine aw_getr (k0 := 0) kc_7 (ws_16 w) (Nat.le_of_ble_eq_true rfl) tw_152 d_X7_write_11 rfl (wr_16_0 w) ?_
    refine aw_aload_n (i := 0) rfl d_X7_write_14 0 rfl ?_
    refine aw_geti (k0 := 7) kc_7 (ws_16 w) (Nat.le_of_ble_eq_true rfl) tw_159 d_X7_write_15 rfl ?_
    refine aw_iload_n (i := 1) rfl d_X7_write_18 1 rfl ?_
    obtain ⟨b2, k⟩ := k
    refine aw_iast (ws_47 w) b2 d_X7_write_19 ?_
    refine aw_aload_n (i := 0) rfl d_X7_write_20 0 rfl ?_
    refine aw_getr (k0 := 1) kc_7 (ws_16 w) (Nat.le_of_ble_eq_true rfl) tw_153 d_X7_write_21 rfl (wr_16_1 w) ?_
    refine aw_aload_n (i := 0) rfl d_X7_write_24 0 rfl ?_
    refine aw_geti (k0 := 7) kc_7 (ws_16 w) (Nat.le_of_ble_eq_true rfl) tw_159 d_X7_write_25 rfl ?_
    refine aw_vi (v2 := (h_i h 16 7)) (rfl) ?_
    refine aw_iload_n (i := 2) rfl d_X7_write_28 2 rfl ?_
    obtain ⟨b3, k⟩ := k
    refine aw_iast (ws_48 w) b3 d_X7_write_29 ?_
    refine aw_aload_n (i := 0) rfl d_X7_write_30 0 rfl ?_
    refine aw_getr (k0 := 2) kc_7 (ws_16 w) (Nat.le_of_ble_eq_true rfl) tw_154 d_X7_write_31 rfl (wr_16_2 w) ?_
    refine aw_aload_n (i := 0) rfl d_X7_write_34 0 rfl ?_
    refine aw_geti (k0 := 7) kc_7 (ws_16 w) (Nat.le_of_ble_eq_true rfl) tw_159 d_X7_write_35 rfl ?_
    refine aw_vi (v2 := (h_i h 16 7)) (rfl) ?_
    refine aw_iload_n (i := 3) rfl d_X7_write_38 3 rfl ?_
    obtain ⟨b4, k⟩ := k
    refine aw_iast (ws_49 w) b4 d_X7_write_39 ?_
    refine aw_aload_n (i := 0) rfl d_X7_write_40 0 rfl ?_
    refine aw_getr (k0 := 3) kc_7 (ws_16 w) (Nat.le_of_ble_eq_true rfl) tw_155 d_X7_write_41 rfl (wr_16_3 w) ?_
    refine aw_aload_n (i := 0) rfl d_X7_write_44 0 rfl ?_
    refine aw_geti (k0 := 7) kc_7 (ws_16 w) (Nat.le_of_ble_eq_true rfl) tw_159 d_X7_write_45 rfl ?_
    refine aw_vi (v2 := (h_i h 16 7)) (rfl) ?_
    refine aw_iload d_X7_write_48 4 rfl ?_
    obtain ⟨b5, k⟩ := k
    refine aw_iast (ws_50 w) b5 d_X7_write_50 ?_
    refine aw_aload_n (i := 0) rfl d_X7_write_51 0 rfl ?_
    refine aw_dup d_X7_write_52 rfl ?_
    refine aw_geti (k0 := 7) kc_7 (ws_16 w) (Nat.le_of_ble_eq_true rfl) tw_159 d_X7_write_53 rfl ?_
    refine aw_vi (v2 := (h_i h 16 7)) (rfl) ?_
    refine aw_iconst (v := 1) d_X7_write_56 ic_1 ?_
    refine aw_iadd d_X7_write_57 ?_
    refine aw_puti (k0 := 7) kc_7 (ws_16 w) (Nat.le_of_ble_eq_true rfl) tw_159 d_X7_write_58 rfl rfl nf_i ?_
    exact aw_vret rfl d_X7_write_61 ⟨Nat.le_refl _, Nat.le_refl _⟩ ⟨rfl, k⟩
theorem t_X7_settle (d : Nat) (h : Hp_) (w : Wf h) (x1 : Int32) (x2 : Int32) (x3 : Int32) (x4 : Int32) (K : Hp_ → Prop) (k : (x1 < 0 → K h) ∧ (¬ x1 < 0 → ((h_i h 16 7) ≤ x1 → K h) ∧ (¬ (h_i h 16 7) ≤ x1 → vp_in x1 400 ∧ (vp_in x1 400 ∧ (vp_in x1 400 ∧ (K (h_im (h_im (h_im h 51 x1.toNatClampNeg x2) 53 x1.toNatClampNeg x3) 52 x1.toNatClampNeg x4))))))) : Cv (m_X7_settle (d + 0) 0 0) [.ref 16, .int x1, .int x2, .int x3, .int x4] h K := by
  refine Ct.of (fun _ _ _ => trivial) rfl (Nat.le_of_ble_eq_true rfl) ?_
  show AW (m_X7_settle (d + 0) 0 0) 0 0 0 [(0, .ref 16), (1, .int x1), (2, .int x2), (3, .int x3), (4, .int x4)] [] h (kV K)
  refine aw_iload_n (i := 1) rfl d_X7_settle_0 1 rfl ?_
  refine aw_if_lt (tgt := 34) d_X7_settle_1 rfl (fun c1 => ?_) (fun c1 => ?_)
  · have k := k.1 c1
    exact aw_vret rfl d_X7_settle_34 ⟨Nat.le_refl _, Nat.le_refl _⟩ ⟨rfl, k⟩
  · have k := k.2 c1
    refine aw_iload_n (i := 1) rfl d_X7_settle_4 1 rfl ?_
    refine aw_aload_n (i := 0) rfl d_X7_settle_5 0 rfl ?_
    refine aw_geti (k0 := 7) kc_7 (ws_16 w) (Nat.le_of_ble_eq_true rfl) tw_159 d_X7_settle_6 rfl ?_
    refine aw_icmp_ge (tgt := 34) d_X7_settle_9 rfl (fun c2 => ?_) (fun c2 => ?_)
    · have k := k.1 c2
      exact aw_vret rfl d_X7_settle_34 ⟨Nat.le_refl _, Nat.le_refl _⟩ ⟨rfl, k⟩
    · have k := k.2 c2
      refine aw_aload_n (i := 0) rfl d_X7_settle_12 0 rfl ?_
      refine aw_getr (k0 := 4) kc_7 (ws_16 w) (Nat.le_of_ble_eq_true rfl) tw_156 d_X7_settle_13 rfl (wr_16_4 w) ?_
      refine aw_iload_n (i := 1) rfl d_X7_settle_16 1 rfl ?_
      refine aw_iload_n (i := 2) rfl d_X7_settle_17 2 rfl ?_
      obtain ⟨b3, k⟩ := k
      refine aw_iast (ws_51 w) b3 d_X7_settle_18 ?_
      refine aw_aload_n (i := 0) rfl d_X7_settle_19 0 rfl ?_
      refine aw_getr (k0 := 6) kc_7 (ws_16 w) (Nat.le_of_ble_eq_true rfl) tw_158 d_X7_settle_20 rfl (wr_16_6 w) ?_
      refine aw_iload_n (i := 1) rfl d_X7_settle_23 1 rfl ?_
      refine aw_iload_n (i := 3) rfl d_X7_settle_24 3 rfl ?_
      obtain ⟨b4, k⟩ := k
      refine aw_iast (ws_53 w) b4 d_X7_settle_25 ?_
      refine aw_aload_n (i := 0) rfl d_X7_settle_26 0 rfl ?_
      refine aw_getr (k0 := 5) kc_7 (ws_16 w) (Nat.le_of_ble_eq_true rfl) tw_157 d_X7_settle_27 rfl (wr_16_5 w) ?_
      refine aw_iload_n (i := 1) rfl d_X7_settle_30 1 rfl ?_
      refine aw_iload d_X7_settle_31 4 rfl ?_
      obtain ⟨b5, k⟩ := k
      refine aw_iast (ws_52 w) b5 d_X7_settle_33 ?_
      exact aw_vret rfl d_X7_settle_34 ⟨Nat.le_refl _, Nat.le_refl _⟩ ⟨rfl, k⟩
theorem t_X7_outcomeAt (d : Nat) (h : Hp_) (w : Wf h) (x1 : Int32) (x2 : Int32) (K : Int32 → Hp_ → Prop) (k : vp_in x1 400 ∧ (((h_i h 51 x1.toNatClampNeg) = 0 → K 0 h) ∧ (¬ (h_i h 51 x1.toNatClampNeg) = 0 → vp_in x1 400 ∧ ((x2 < (h_i h 52 x1.toNatClampNeg) → K 0 h) ∧ (¬ x2 < (h_i h 52 x1.toNatClampNeg) → vp_in x1 400 ∧ (K (h_i h 51 x1.toNatClampNeg) h)))))) : Ci (m_X7_outcomeAt (d + 0) 0 0) [.ref 16, .int x1, .int x2] h K := by
  refine Ct.of (fun _ _ _ => trivial) rfl (Nat.le_of_ble_eq_true rfl) ?_
  show AW (m_X7_outcomeAt (d + 0) 0 0) 0 0 0 [(0, .ref 16), (1, .int x1), (2, .int x2)] [] h (kI K)
  refine aw_aload_n (i := 0) rfl d_X7_outcomeAt_0 0 rfl ?_
  refine aw_getr (k0 := 4) kc_7 (ws_16 w) (Nat.le_of_ble_eq_true rfl) tw_156 d_X7_outcomeAt_1 rfl (wr_16_4 w) ?_
  refine aw_iload_n (i := 1) rfl d_X7_outcomeAt_4 1 rfl ?_
  obtain ⟨b1, k⟩ := k
  refine aw_iald (ws_51 w) b1 d_X7_outcomeAt_5 ?_
  refine aw_if_eq (tgt := 28) d_X7_outcomeAt_6 rfl (fun c2 => ?_) (fun c2 => ?_)
  · have k := k.1 c2
    refine aw_iconst (v := 0) d_X7_outcomeAt_28 ic_0 ?_
    exact aw_iret rfl d_X7_outcomeAt_29 ⟨Nat.le_refl _, Nat.le_refl _⟩ ⟨_, rfl, k⟩
  · have k := k.2 c2
    refine aw_aload_n (i := 0) rfl d_X7_outcomeAt_9 0 rfl ?_
    refine aw_getr (k0 := 5) kc_7 (ws_16 w) (Nat.le_of_ble_eq_true rfl) tw_157 d_X7_outcomeAt_10 rfl (wr_16_5 w) ?_
    refine aw_iload_n (i := 1) rfl d_X7_outcomeAt_13 1 rfl ?_
    obtain ⟨b3, k⟩ := k
    refine aw_iald (ws_52 w) b3 d_X7_outcomeAt_14 ?_
    refine aw_iload_n (i := 2) rfl d_X7_outcomeAt_15 2 rfl ?_
    refine aw_icmp_gt (tgt := 28) d_X7_outcomeAt_16 rfl (fun c4 => ?_) (fun c4 => ?_)
    · have k := k.1 c4
      refine aw_iconst (v := 0) d_X7_outcomeAt_28 ic_0 ?_
      exact aw_iret rfl d_X7_outcomeAt_29 ⟨Nat.le_refl _, Nat.le_refl _⟩ ⟨_, rfl, k⟩
    · have k := k.2 c4
      refine aw_aload_n (i := 0) rfl d_X7_outcomeAt_19 0 rfl ?_
      refine aw_getr (k0 := 4) kc_7 (ws_16 w) (Nat.le_of_ble_eq_true rfl) tw_156 d_X7_outcomeAt_20 rfl (wr_16_4 w) ?_
      refine aw_iload_n (i := 1) rfl d_X7_outcomeAt_23 1 rfl ?_
      obtain ⟨b5, k⟩ := k
      refine aw_iald (ws_51 w) b5 d_X7_outcomeAt_24 ?_
      refine aw_goto (tgt := 29) d_X7_outcomeAt_25 rfl ?_
      exact aw_iret rfl d_X7_outcomeAt_29 ⟨Nat.le_refl _, Nat.le_refl _⟩ ⟨_, rfl, k⟩
theorem t_X7_wasDue (d : Nat) (h : Hp_) (w : Wf h) (x1 : Int32) (x2 : Int32) (x3 : Int32) (K : Int32 → Hp_ → Prop) (k : vp_in x1 400 ∧ ((¬ (h_i h 47 x1.toNatClampNeg) = x2 → K 0 h) ∧ ((h_i h 47 x1.toNatClampNeg) = x2 → vp_in x1 400 ∧ ((¬ ((h_i h 49 x1.toNatClampNeg) / 1440) = x3 → K 0 h) ∧ (((h_i h 49 x1.toNatClampNeg) / 1440) = x3 → K 1 h))))) : Ci (m_X7_wasDue (d + 0) 0 0) [.ref 16, .int x1, .int x2, .int x3] h K := by
  refine Ct.of (fun _ _ _ => trivial) rfl (Nat.le_of_ble_eq_true rfl) ?_
  show AW (m_X7_wasDue (d + 0) 0 0) 0 0 0 [(0, .ref 16), (1, .int x1), (2, .int x2), (3, .int x3)] [] h (kI K)
  refine aw_aload_n (i := 0) rfl d_X7_wasDue_0 0 rfl ?_
  refine aw_getr (k0 := 0) kc_7 (ws_16 w) (Nat.le_of_ble_eq_true rfl) tw_152 d_X7_wasDue_1 rfl (wr_16_0 w) ?_
  refine aw_iload_n (i := 1) rfl d_X7_wasDue_4 1 rfl ?_
  obtain ⟨b1, k⟩ := k
  refine aw_iald (ws_47 w) b1 d_X7_wasDue_5 ?_
  refine aw_iload_n (i := 2) rfl d_X7_wasDue_6 2 rfl ?_
  refine aw_icmp_ne (tgt := 28) d_X7_wasDue_7 rfl (fun c2 => ?_) (fun c2 => ?_)
  · have k := k.1 c2
    refine aw_iconst (v := 0) d_X7_wasDue_28 ic_0 ?_
    exact aw_zret rfl rfl d_X7_wasDue_29 ⟨Nat.le_refl _, Nat.le_refl _⟩ ⟨_, rfl, k⟩
  · have k := k.2 c2
    refine aw_aload_n (i := 0) rfl d_X7_wasDue_10 0 rfl ?_
    refine aw_getr (k0 := 2) kc_7 (ws_16 w) (Nat.le_of_ble_eq_true rfl) tw_154 d_X7_wasDue_11 rfl (wr_16_2 w) ?_
    refine aw_iload_n (i := 1) rfl d_X7_wasDue_14 1 rfl ?_
    obtain ⟨b3, k⟩ := k
    refine aw_iald (ws_49 w) b3 d_X7_wasDue_15 ?_
    refine aw_sipush (v := 1440) d_X7_wasDue_16 is_1440 ?_
    refine aw_idiv d_X7_wasDue_19 (by decide) ?_
    refine aw_iload_n (i := 3) rfl d_X7_wasDue_20 3 rfl ?_
    refine aw_icmp_ne (tgt := 28) d_X7_wasDue_21 rfl (fun c4 => ?_) (fun c4 => ?_)
    · have k := k.1 c4
      refine aw_iconst (v := 0) d_X7_wasDue_28 ic_0 ?_
      exact aw_zret rfl rfl d_X7_wasDue_29 ⟨Nat.le_refl _, Nat.le_refl _⟩ ⟨_, rfl, k⟩
    · have k := k.2 c4
      refine aw_iconst (v := 1) d_X7_wasDue_24 ic_1 ?_
      refine aw_goto (tgt := 29) d_X7_wasDue_25 rfl ?_
      exact aw_zret rfl rfl d_X7_wasDue_29 ⟨Nat.le_refl _, Nat.le_refl _⟩ ⟨_, rfl, k⟩
theorem t_X8_signs (d : Nat) (h : Hp_) (x0 : Int32) (K : Int32 → Hp_ → Prop) (k : AW (m_X8_signs (d + 0) 0 0) 0 0 5 [(0, .int x0), (1, .int 0), (2, .int 24)] [] h (kI K)) : Ci (m_X8_signs (d + 0) 0 0) [.int x0] h K := by
  refine Ct.of (fun _ _ _ => trivial) rfl (Nat.le_of_ble_eq_true rfl) ?_
  show AW (m_X8_signs (d + 0) 0 0) 0 0 0 [(0, .int x0)] [] h (kI K)
  refine aw_iconst (v := 0) d_X8_signs_0 ic_0 ?_
  refine aw_istore_n (i := 1) rfl [(0, .int x0), (1, .int 0)] d_X8_signs_1 (Nat.le_of_ble_eq_true rfl) rfl rfl ?_
  refine aw_bipush (v := 24) d_X8_signs_2 ib_24 ?_
  refine aw_istore_n (i := 2) rfl [(0, .int x0), (1, .int 0), (2, .int 24)] d_X8_signs_4 (Nat.le_of_ble_eq_true rfl) rfl rfl ?_
  exact k
theorem t_X8_signs_5 (d : Nat) (h : Hp_) (x0 : Int32) (x1 : Int32) (x2 : Int32) (K : Int32 → Hp_ → Prop) (k : (x2 < 0 → K x1 h) ∧ (¬ x2 < 0 → (((x0 >>> (x2 &&& 31)) &&& 255) = 0 → AW (m_X8_signs (d + 0) 0 0) 0 0 5 [(0, .int x0), (1, .int x1), (2, .int (x2 + (-8)))] [] h (kI K)) ∧ (¬ ((x0 >>> (x2 &&& 31)) &&& 255) = 0 → AW (m_X8_signs (d + 0) 0 0) 0 0 5 [(0, .int x0), (1, .int (x1 + 1)), (2, .int (x2 + (-8)))] [] h (kI K)))) : AW (m_X8_signs (d + 0) 0 0) 0 0 5 [(0, .int x0), (1, .int x1), (2, .int x2)] [] h (kI K) := by
  refine aw_iload_n (i := 2) rfl d_X8_signs_5 2 rfl ?_
  refine aw_if_lt (tgt := 28) d_X8_signs_6 rfl (fun c1 => ?_) (fun c1 => ?_)
  · have k := k.1 c1
    refine aw_iload_n (i := 1) rfl d_X8_signs_28 1 rfl ?_
    exact aw_iret rfl d_X8_signs_29 ⟨Nat.le_refl _, Nat.le_refl _⟩ ⟨_, rfl, k⟩
  · have k := k.2 c1
    refine aw_iload_n (i := 0) rfl d_X8_signs_9 0 rfl ?_
    refine aw_iload_n (i := 2) rfl d_X8_signs_10 2 rfl ?_
    refine aw_ishr d_X8_signs_11 ?_
    refine aw_sipush (v := 255) d_X8_signs_12 is_255 ?_
    refine aw_iand d_X8_signs_15 ?_
    refine aw_if_eq (tgt := 22) d_X8_signs_16 rfl (fun c2 => ?_) (fun c2 => ?_)
    · have k := k.1 c2
      refine aw_iinc (v := (x2 + (-8))) [(0, .int x0), (1, .int x1), (2, .int (x2 + (-8)))] d_X8_signs_22 2 rfl rfl (Nat.le_of_ble_eq_true rfl) rfl rfl ?_
      refine aw_goto (tgt := 5) d_X8_signs_25 rfl ?_
      exact k
    · have k := k.2 c2
      refine aw_iinc (v := (x1 + 1)) [(0, .int x0), (1, .int (x1 + 1)), (2, .int x2)] d_X8_signs_19 1 rfl rfl (Nat.le_of_ble_eq_true rfl) rfl rfl ?_
      refine aw_iinc (v := (x2 + (-8))) [(0, .int x0), (1, .int (x1 + 1)), (2, .int (x2 + (-8)))] d_X8_signs_22 2 rfl rfl (Nat.le_of_ble_eq_true rfl) rfl rfl ?_
      refine aw_goto (tgt := 5) d_X8_signs_25 rfl ?_
      exact k
theorem t_X8_append (d : Nat) (h : Hp_) (x1 : Int32) (K : Hp_ → Prop) (k : AW (m_X8_append (d + 0) 0 0) 0 0 3 [(0, .ref 11), (1, .int x1), (2, .int 24)] [] h (kV K)) : Cv (m_X8_append (d + 0) 0 0) [.ref 11, .int x1] h K := by
  refine Ct.of (fun _ _ _ => trivial) rfl (Nat.le_of_ble_eq_true rfl) ?_
  show AW (m_X8_append (d + 0) 0 0) 0 0 0 [(0, .ref 11), (1, .int x1)] [] h (kV K)
  refine aw_bipush (v := 24) d_X8_append_0 ib_24 ?_
  refine aw_istore_n (i := 2) rfl [(0, .ref 11), (1, .int x1), (2, .int 24)] d_X8_append_2 (Nat.le_of_ble_eq_true rfl) rfl rfl ?_
  exact k
theorem t_X8_append_3 (d : Nat) (h : Hp_) (w : Wf h) (x1 : Int32) (x2 : Int32) (K : Hp_ → Prop) (k : (x2 < 0 → K h) ∧ (¬ x2 < 0 → (((x1 >>> (x2 &&& 31)) &&& 255) = 0 → AW (m_X8_append (d + 0) 0 0) 0 0 3 [(0, .ref 11), (1, .int x1), (2, .int (x2 + (-8)))] [] h (kV K)) ∧ (¬ ((x1 >>> (x2 &&& 31)) &&& 255) = 0 → (160 ≤ (h_i h 11 1) → AW (m_X8_append (d + 0) 0 0) 0 0 3 [(0, .ref 11), (1, .int x1), (2, .int (x2 + (-8)))] [] h (kV K)) ∧ (¬ 160 ≤ (h_i h 11 1) → vp_in (h_i h 11 1) 160 ∧ (AW (m_X8_append (d + 0) 0 0) 0 0 3 [(0, .ref 11), (1, .int x1), (2, .int (x2 + (-8)))] [] (h_im (h_im h 31 ((h_i h 11 1) : Int32).toNatClampNeg ((x1 >>> (x2 &&& 31)) &&& 255)) 11 1 ((h_i h 11 1) + 1)) (kV K)))))) : AW (m_X8_append (d + 0) 0 0) 0 0 3 [(0, .ref 11), (1, .int x1), (2, .int x2)] [] h (kV K) := by
  refine aw_iload_n (i := 2) rfl d_X8_append_3 2 rfl ?_
  refine aw_if_lt (tgt := 55) d_X8_append_4 rfl (fun c1 => ?_) (fun c1 => ?_)
  · have k := k.1 c1
    exact aw_vret rfl d_X8_append_55 ⟨Nat.le_refl _, Nat.le_refl _⟩ ⟨rfl, k⟩
  · have k := k.2 c1
    refine aw_iload_n (i := 1) rfl d_X8_append_7 1 rfl ?_
    refine aw_iload_n (i := 2) rfl d_X8_append_8 2 rfl ?_
    refine aw_ishr d_X8_append_9 ?_
    refine aw_sipush (v := 255) d_X8_append_10 is_255 ?_
    refine aw_iand d_X8_append_13 ?_
    refine aw_istore_n (i := 3) rfl [(0, .ref 11), (1, .int x1), (2, .int x2), (3, .int ((x1 >>> (x2 &&& 31)) &&& 255))] d_X8_append_14 (Nat.le_of_ble_eq_true rfl) rfl rfl ?_
    refine aw_iload_n (i := 3) rfl d_X8_append_15 3 rfl ?_
    refine aw_if_eq (tgt := 49) d_X8_append_16 rfl (fun c2 => ?_) (fun c2 => ?_)
    · have k := k.1 c2
      refine aw_iinc (v := (x2 + (-8))) [(0, .ref 11), (1, .int x1), (2, .int (x2 + (-8))), (3, .int ((x1 >>> (x2 &&& 31)) &&& 255))] d_X8_append_49 2 rfl rfl (Nat.le_of_ble_eq_true rfl) rfl rfl ?_
      refine aw_goto (tgt := 3) d_X8_append_52 rfl ?_
      exact aw_lvp [0, 1, 2] [(0, .ref 11), (1, .int x1), (2, .int (x2 + (-8)))] rfl k
    · have k := k.2 c2
      refine aw_aload_n (i := 0) rfl d_X8_append_19 0 rfl ?_
      refine aw_geti (k0 := 1) kc_8 (ws_11 w) (Nat.le_of_ble_eq_true rfl) tw_60 d_X8_append_20 rfl ?_
      refine aw_sipush (v := 160) d_X8_append_23 is_160 ?_
      refine aw_icmp_ge (tgt := 49) d_X8_append_26 rfl (fun c3 => ?_) (fun c3 => ?_)
      · have k := k.1 c3
        refine aw_iinc (v := (x2 + (-8))) [(0, .ref 11), (1, .int x1), (2, .int (x2 + (-8))), (3, .int ((x1 >>> (x2 &&& 31)) &&& 255))] d_X8_append_49 2 rfl rfl (Nat.le_of_ble_eq_true rfl) rfl rfl ?_
        refine aw_goto (tgt := 3) d_X8_append_52 rfl ?_
        exact aw_lvp [0, 1, 2] [(0, .ref 11), (1, .int x1), (2, .int (x2 + (-8)))] rfl k
      · have k := k.2 c3
        refine aw_aload_n (i := 0) rfl d_X8_append_29 0 rfl ?_
        refine aw_getr (k0 := 0) kc_8 (ws_11 w) (Nat.le_of_ble_eq_true rfl) tw_59 d_X8_append_30 rfl (wr_11_0 w) ?_
        refine aw_aload_n (i := 0) rfl d_X8_append_33 0 rfl ?_
        refine aw_geti (k0 := 1) kc_8 (ws_11 w) (Nat.le_of_ble_eq_true rfl) tw_60 d_X8_append_34 rfl ?_
        refine aw_iload_n (i := 3) rfl d_X8_append_37 3 rfl ?_
        obtain ⟨b4, k⟩ := k
        refine aw_iast (ws_31 w) b4 d_X8_append_38 ?_
        refine aw_aload_n (i := 0) rfl d_X8_append_39 0 rfl ?_
        refine aw_dup d_X8_append_40 rfl ?_
        refine aw_geti (k0 := 1) kc_8 (ws_11 w) (Nat.le_of_ble_eq_true rfl) tw_60 d_X8_append_41 rfl ?_
        refine aw_vi (v2 := (h_i h 11 1)) (rfl) ?_
        refine aw_iconst (v := 1) d_X8_append_44 ic_1 ?_
        refine aw_iadd d_X8_append_45 ?_
        refine aw_puti (k0 := 1) kc_8 (ws_11 w) (Nat.le_of_ble_eq_true rfl) tw_60 d_X8_append_46 rfl rfl nf_i ?_
        refine aw_iinc (v := (x2 + (-8))) [(0, .ref 11), (1, .int x1), (2, .int (x2 + (-8))), (3, .int ((x1 >>> (x2 &&& 31)) &&& 255))] d_X8_append_49 2 rfl rfl (Nat.le_of_ble_eq_true rfl) rfl rfl ?_
        refine aw_goto (tgt := 3) d_X8_append_52 rfl ?_
        exact aw_lvp [0, 1, 2] [(0, .ref 11), (1, .int x1), (2, .int (x2 + (-8)))] rfl k
theorem t_X8_peek (d : Nat) (h : Hp_) (w : Wf h)  (K : Int32 → Hp_ → Prop) (k : ((h_i h 11 1) ≤ (h_i h 11 2) → ((h_i h 11 1) ≤ (h_i h 11 2) → K (-1) h) ∧ (¬ (h_i h 11 1) ≤ (h_i h 11 2) → vp_in (h_i h 11 2) 160 ∧ (K (h_i h 31 ((h_i h 11 2) : Int32).toNatClampNeg) h))) ∧ (¬ (h_i h 11 1) ≤ (h_i h 11 2) → vp_in (h_i h 11 2) 160 ∧ ((¬ (h_i h 31 ((h_i h 11 2) : Int32).toNatClampNeg) = 32 → ((h_i h 11 1) ≤ (h_i h 11 2) → K (-1) h) ∧ (¬ (h_i h 11 1) ≤ (h_i h 11 2) → vp_in (h_i h 11 2) 160 ∧ (K (h_i h 31 ((h_i h 11 2) : Int32).toNatClampNeg) h))) ∧ ((h_i h 31 ((h_i h 11 2) : Int32).toNatClampNeg) = 32 → AW (m_X8_peek (d + 0) 0 0) 0 0 0 [(0, .ref 11)] [] (h_im h 11 2 ((h_i h 11 2) + 1)) (kI K))))) : Ci (m_X8_peek (d + 0) 0 0) [.ref 11] h K := by
  refine Ct.of (fun _ _ _ => trivial) rfl (Nat.le_of_ble_eq_true rfl) ?_
  show AW (m_X8_peek (d + 0) 0 0) 0 0 0 [(0, .ref 11)] [] h (kI K)
  refine aw_aload_n (i := 0) rfl d_X8_peek_0 0 rfl ?_
  refine aw_geti (k0 := 2) kc_8 (ws_11 w) (Nat.le_of_ble_eq_true rfl) tw_62 d_X8_peek_1 rfl ?_
  refine aw_aload_n (i := 0) rfl d_X8_peek_4 0 rfl ?_
  refine aw_geti (k0 := 1) kc_8 (ws_11 w) (Nat.le_of_ble_eq_true rfl) tw_60 d_X8_peek_5 rfl ?_
  refine aw_icmp_ge (tgt := 38) d_X8_peek_8 rfl (fun c1 => ?_) (fun c1 => ?_)
  · have k := k.1 c1
    refine aw_aload_n (i := 0) rfl d_X8_peek_38 0 rfl ?_
    refine aw_geti (k0 := 2) kc_8 (ws_11 w) (Nat.le_of_ble_eq_true rfl) tw_62 d_X8_peek_39 rfl ?_
    refine aw_aload_n (i := 0) rfl d_X8_peek_42 0 rfl ?_
    refine aw_geti (k0 := 1) kc_8 (ws_11 w) (Nat.le_of_ble_eq_true rfl) tw_60 d_X8_peek_43 rfl ?_
    refine aw_icmp_ge (tgt := 61) d_X8_peek_46 rfl (fun c2 => ?_) (fun c2 => ?_)
    · have k := k.1 c2
      refine aw_iconst (v := (-1)) d_X8_peek_61 ic_m1 ?_
      exact aw_iret rfl d_X8_peek_62 ⟨Nat.le_refl _, Nat.le_refl _⟩ ⟨_, rfl, k⟩
    · have k := k.2 c2
      refine aw_aload_n (i := 0) rfl d_X8_peek_49 0 rfl ?_
      refine aw_getr (k0 := 0) kc_8 (ws_11 w) (Nat.le_of_ble_eq_true rfl) tw_59 d_X8_peek_50 rfl (wr_11_0 w) ?_
      refine aw_aload_n (i := 0) rfl d_X8_peek_53 0 rfl ?_
      refine aw_geti (k0 := 2) kc_8 (ws_11 w) (Nat.le_of_ble_eq_true rfl) tw_62 d_X8_peek_54 rfl ?_
      obtain ⟨b3, k⟩ := k
      refine aw_iald (ws_31 w) b3 d_X8_peek_57 ?_
      refine aw_goto (tgt := 62) d_X8_peek_58 rfl ?_
      exact aw_iret rfl d_X8_peek_62 ⟨Nat.le_refl _, Nat.le_refl _⟩ ⟨_, rfl, k⟩
  · have k := k.2 c1
    refine aw_aload_n (i := 0) rfl d_X8_peek_11 0 rfl ?_
    refine aw_getr (k0 := 0) kc_8 (ws_11 w) (Nat.le_of_ble_eq_true rfl) tw_59 d_X8_peek_12 rfl (wr_11_0 w) ?_
    refine aw_aload_n (i := 0) rfl d_X8_peek_15 0 rfl ?_
    refine aw_geti (k0 := 2) kc_8 (ws_11 w) (Nat.le_of_ble_eq_true rfl) tw_62 d_X8_peek_16 rfl ?_
    obtain ⟨b4, k⟩ := k
    refine aw_iald (ws_31 w) b4 d_X8_peek_19 ?_
    refine aw_bipush (v := 32) d_X8_peek_20 ib_32 ?_
    refine aw_icmp_ne (tgt := 38) d_X8_peek_22 rfl (fun c5 => ?_) (fun c5 => ?_)
    · have k := k.1 c5
      refine aw_aload_n (i := 0) rfl d_X8_peek_38 0 rfl ?_
      refine aw_geti (k0 := 2) kc_8 (ws_11 w) (Nat.le_of_ble_eq_true rfl) tw_62 d_X8_peek_39 rfl ?_
      refine aw_aload_n (i := 0) rfl d_X8_peek_42 0 rfl ?_
      refine aw_geti (k0 := 1) kc_8 (ws_11 w) (Nat.le_of_ble_eq_true rfl) tw_60 d_X8_peek_43 rfl ?_
      refine aw_icmp_ge (tgt := 61) d_X8_peek_46 rfl (fun c6 => ?_) (fun c6 => ?_)
      · have k := k.1 c6
        refine aw_iconst (v := (-1)) d_X8_peek_61 ic_m1 ?_
        exact aw_iret rfl d_X8_peek_62 ⟨Nat.le_refl _, Nat.le_refl _⟩ ⟨_, rfl, k⟩
      · have k := k.2 c6
        refine aw_aload_n (i := 0) rfl d_X8_peek_49 0 rfl ?_
        refine aw_getr (k0 := 0) kc_8 (ws_11 w) (Nat.le_of_ble_eq_true rfl) tw_59 d_X8_peek_50 rfl (wr_11_0 w) ?_
        refine aw_aload_n (i := 0) rfl d_X8_peek_53 0 rfl ?_
        refine aw_geti (k0 := 2) kc_8 (ws_11 w) (Nat.le_of_ble_eq_true rfl) tw_62 d_X8_peek_54 rfl ?_
        obtain ⟨b7, k⟩ := k
        refine aw_iald (ws_31 w) b7 d_X8_peek_57 ?_
        refine aw_goto (tgt := 62) d_X8_peek_58 rfl ?_
        exact aw_iret rfl d_X8_peek_62 ⟨Nat.le_refl _, Nat.le_refl _⟩ ⟨_, rfl, k⟩
    · have k := k.2 c5
      refine aw_aload_n (i := 0) rfl d_X8_peek_25 0 rfl ?_
      refine aw_dup d_X8_peek_26 rfl ?_
      refine aw_geti (k0 := 2) kc_8 (ws_11 w) (Nat.le_of_ble_eq_true rfl) tw_62 d_X8_peek_27 rfl ?_
      refine aw_iconst (v := 1) d_X8_peek_30 ic_1 ?_
      refine aw_iadd d_X8_peek_31 ?_
      refine aw_puti (k0 := 2) kc_8 (ws_11 w) (Nat.le_of_ble_eq_true rfl) tw_62 d_X8_peek_32 rfl rfl nf_i ?_
      refine aw_goto (tgt := 0) d_X8_peek_35 rfl ?_
      exact k
theorem t_X8_peek_0 (d : Nat) (h : Hp_) (w : Wf h)  (K : Int32 → Hp_ → Prop) (k : ((h_i h 11 1) ≤ (h_i h 11 2) → ((h_i h 11 1) ≤ (h_i h 11 2) → K (-1) h) ∧ (¬ (h_i h 11 1) ≤ (h_i h 11 2) → vp_in (h_i h 11 2) 160 ∧ (K (h_i h 31 ((h_i h 11 2) : Int32).toNatClampNeg) h))) ∧ (¬ (h_i h 11 1) ≤ (h_i h 11 2) → vp_in (h_i h 11 2) 160 ∧ ((¬ (h_i h 31 ((h_i h 11 2) : Int32).toNatClampNeg) = 32 → ((h_i h 11 1) ≤ (h_i h 11 2) → K (-1) h) ∧ (¬ (h_i h 11 1) ≤ (h_i h 11 2) → vp_in (h_i h 11 2) 160 ∧ (K (h_i h 31 ((h_i h 11 2) : Int32).toNatClampNeg) h))) ∧ ((h_i h 31 ((h_i h 11 2) : Int32).toNatClampNeg) = 32 → AW (m_X8_peek (d + 0) 0 0) 0 0 0 [(0, .ref 11)] [] (h_im h 11 2 ((h_i h 11 2) + 1)) (kI K))))) : AW (m_X8_peek (d + 0) 0 0) 0 0 0 [(0, .ref 11)] [] h (kI K) := by
  refine aw_aload_n (i := 0) rfl d_X8_peek_0 0 rfl ?_
  refine aw_geti (k0 := 2) kc_8 (ws_11 w) (Nat.le_of_ble_eq_true rfl) tw_62 d_X8_peek_1 rfl ?_
  refine aw_aload_n (i := 0) rfl d_X8_peek_4 0 rfl ?_
  refine aw_geti (k0 := 1) kc_8 (ws_11 w) (Nat.le_of_ble_eq_true rfl) tw_60 d_X8_peek_5 rfl ?_
  refine aw_icmp_ge (tgt := 38) d_X8_peek_8 rfl (fun c8 => ?_) (fun c8 => ?_)
  · have k := k.1 c8
    refine aw_aload_n (i := 0) rfl d_X8_peek_38 0 rfl ?_
    refine aw_geti (k0 := 2) kc_8 (ws_11 w) (Nat.le_of_ble_eq_true rfl) tw_62 d_X8_peek_39 rfl ?_
    refine aw_aload_n (i := 0) rfl d_X8_peek_42 0 rfl ?_
    refine aw_geti (k0 := 1) kc_8 (ws_11 w) (Nat.le_of_ble_eq_true rfl) tw_60 d_X8_peek_43 rfl ?_
    refine aw_icmp_ge (tgt := 61) d_X8_peek_46 rfl (fun c9 => ?_) (fun c9 => ?_)
    · have k := k.1 c9
      refine aw_iconst (v := (-1)) d_X8_peek_61 ic_m1 ?_
      exact aw_iret rfl d_X8_peek_62 ⟨Nat.le_refl _, Nat.le_refl _⟩ ⟨_, rfl, k⟩
    · have k := k.2 c9
      refine aw_aload_n (i := 0) rfl d_X8_peek_49 0 rfl ?_
      refine aw_getr (k0 := 0) kc_8 (ws_11 w) (Nat.le_of_ble_eq_true rfl) tw_59 d_X8_peek_50 rfl (wr_11_0 w) ?_
      refine aw_aload_n (i := 0) rfl d_X8_peek_53 0 rfl ?_
      refine aw_geti (k0 := 2) kc_8 (ws_11 w) (Nat.le_of_ble_eq_true rfl) tw_62 d_X8_peek_54 rfl ?_
      obtain ⟨b10, k⟩ := k
      refine aw_iald (ws_31 w) b10 d_X8_peek_57 ?_
      refine aw_goto (tgt := 62) d_X8_peek_58 rfl ?_
      exact aw_iret rfl d_X8_peek_62 ⟨Nat.le_refl _, Nat.le_refl _⟩ ⟨_, rfl, k⟩
  · have k := k.2 c8
    refine aw_aload_n (i := 0) rfl d_X8_peek_11 0 rfl ?_
    refine aw_getr (k0 := 0) kc_8 (ws_11 w) (Nat.le_of_ble_eq_true rfl) tw_59 d_X8_peek_12 rfl (wr_11_0 w) ?_
    refine aw_aload_n (i := 0) rfl d_X8_peek_15 0 rfl ?_
    refine aw_geti (k0 := 2) kc_8 (ws_11 w) (Nat.le_of_ble_eq_true rfl) tw_62 d_X8_peek_16 rfl ?_
    obtain ⟨b11, k⟩ := k
    refine aw_iald (ws_31 w) b11 d_X8_peek_19 ?_
    refine aw_bipush (v := 32) d_X8_peek_20 ib_32 ?_
    refine aw_icmp_ne (tgt := 38) d_X8_peek_22 rfl (fun c12 => ?_) (fun c12 => ?_)
    · have k := k.1 c12
      refine aw_aload_n (i := 0) rfl d_X8_peek_38 0 rfl ?_
      refine aw_geti (k0 := 2) kc_8 (ws_11 w) (Nat.le_of_ble_eq_true rfl) tw_62 d_X8_peek_39 rfl ?_
      refine aw_aload_n (i := 0) rfl d_X8_peek_42 0 rfl ?_
      refine aw_geti (k0 := 1) kc_8 (ws_11 w) (Nat.le_of_ble_eq_true rfl) tw_60 d_X8_peek_43 rfl ?_
      refine aw_icmp_ge (tgt := 61) d_X8_peek_46 rfl (fun c13 => ?_) (fun c13 => ?_)
      · have k := k.1 c13
        refine aw_iconst (v := (-1)) d_X8_peek_61 ic_m1 ?_
        exact aw_iret rfl d_X8_peek_62 ⟨Nat.le_refl _, Nat.le_refl _⟩ ⟨_, rfl, k⟩
      · have k := k.2 c13
        refine aw_aload_n (i := 0) rfl d_X8_peek_49 0 rfl ?_
        refine aw_getr (k0 := 0) kc_8 (ws_11 w) (Nat.le_of_ble_eq_true rfl) tw_59 d_X8_peek_50 rfl (wr_11_0 w) ?_
        refine aw_aload_n (i := 0) rfl d_X8_peek_53 0 rfl ?_
        refine aw_geti (k0 := 2) kc_8 (ws_11 w) (Nat.le_of_ble_eq_true rfl) tw_62 d_X8_peek_54 rfl ?_
        obtain ⟨b14, k⟩ := k
        refine aw_iald (ws_31 w) b14 d_X8_peek_57 ?_
        refine aw_goto (tgt := 62) d_X8_peek_58 rfl ?_
        exact aw_iret rfl d_X8_peek_62 ⟨Nat.le_refl _, Nat.le_refl _⟩ ⟨_, rfl, k⟩
    · have k := k.2 c12
      refine aw_aload_n (i := 0) rfl d_X8_peek_25 0 rfl ?_
      refine aw_dup d_X8_peek_26 rfl ?_
      refine aw_geti (k0 := 2) kc_8 (ws_11 w) (Nat.le_of_ble_eq_true rfl) tw_62 d_X8_peek_27 rfl ?_
      refine aw_iconst (v := 1) d_X8_peek_30 ic_1 ?_
      refine aw_iadd d_X8_peek_31 ?_
      refine aw_puti (k0 := 2) kc_8 (ws_11 w) (Nat.le_of_ble_eq_true rfl) tw_62 d_X8_peek_32 rfl rfl nf_i ?_
      refine aw_goto (tgt := 0) d_X8_peek_35 rfl ?_
      exact k
theorem t_X8_fail (d : Nat) (h : Hp_) (w : Wf h)  (K : Int32 → Hp_ → Prop) (k : K 0 (h_im h 11 3 (h_i h 11 2))) : Ci (m_X8_fail (d + 0) 0 0) [.ref 11] h K := by
  refine Ct.of (fun _ _ _ => trivial) rfl (Nat.le_of_ble_eq_true rfl) ?_
  show AW (m_X8_fail (d + 0) 0 0) 0 0 0 [(0, .ref 11)] [] h (kI K)
  refine aw_aload_n (i := 0) rfl d_X8_fail_0 0 rfl ?_
  refine aw_aload_n (i := 0) rfl d_X8_fail_1 0 rfl ?_
  refine aw_geti (k0 := 2) kc_8 (ws_11 w) (Nat.le_of_ble_eq_true rfl) tw_62 d_X8_fail_2 rfl ?_
  refine aw_puti (k0 := 3) kc_8 (ws_11 w) (Nat.le_of_ble_eq_true rfl) tw_63 d_X8_fail_5 rfl rfl nf_i ?_
  refine aw_iconst (v := 0) d_X8_fail_8 ic_0 ?_
  exact aw_zret rfl rfl d_X8_fail_9 ⟨Nat.le_refl _, Nat.le_refl _⟩ ⟨_, rfl, k⟩
theorem t_X8_isDigit (d : Nat) (h : Hp_) (x0 : Int32) (K : Int32 → Hp_ → Prop) (k : (x0 < 48 → K 0 h) ∧ (¬ x0 < 48 → (57 < x0 → K 0 h) ∧ (¬ 57 < x0 → K 1 h))) : Ci (m_X8_isDigit (d + 0) 0 0) [.int x0] h K := by
  refine Ct.of (fun _ _ _ => trivial) rfl (Nat.le_of_ble_eq_true rfl) ?_
  show AW (m_X8_isDigit (d + 0) 0 0) 0 0 0 [(0, .int x0)] [] h (kI K)
  refine aw_iload_n (i := 0) rfl d_X8_isDigit_0 0 rfl ?_
  refine aw_bipush (v := 48) d_X8_isDigit_1 ib_48 ?_
  refine aw_icmp_lt (tgt := 16) d_X8_isDigit_3 rfl (fun c1 => ?_) (fun c1 => ?_)
  · have k := k.1 c1
    refine aw_iconst (v := 0) d_X8_isDigit_16 ic_0 ?_
    exact aw_zret rfl rfl d_X8_isDigit_17 ⟨Nat.le_refl _, Nat.le_refl _⟩ ⟨_, rfl, k⟩
  · have k := k.2 c1
    refine aw_iload_n (i := 0) rfl d_X8_isDigit_6 0 rfl ?_
    refine aw_bipush (v := 57) d_X8_isDigit_7 ib_57 ?_
    refine aw_icmp_gt (tgt := 16) d_X8_isDigit_9 rfl (fun c2 => ?_) (fun c2 => ?_)
    · have k := k.1 c2
      refine aw_iconst (v := 0) d_X8_isDigit_16 ic_0 ?_
      exact aw_zret rfl rfl d_X8_isDigit_17 ⟨Nat.le_refl _, Nat.le_refl _⟩ ⟨_, rfl, k⟩
    · have k := k.2 c2
      refine aw_iconst (v := 1) d_X8_isDigit_12 ic_1 ?_
      refine aw_goto (tgt := 17) d_X8_isDigit_13 rfl ?_
      exact aw_zret rfl rfl d_X8_isDigit_17 ⟨Nat.le_refl _, Nat.le_refl _⟩ ⟨_, rfl, k⟩
theorem t_X8_appendStep (d : Nat) (h : Hp_) (w : Wf h) (x1 : Int32) (K : Hp_ → Prop) (k : (150 ≤ (h_i h 11 6) → K (h_im h 11 7 1)) ∧ (¬ 150 ≤ (h_i h 11 6) → vp_in (h_i h 11 6) 150 ∧ (K (h_im (h_im h 32 ((h_i h 11 6) : Int32).toNatClampNeg x1) 11 6 ((h_i h 11 6) + 1))))) : Cv (m_X8_appendStep (d + 0) 0 0) [.ref 11, .int x1] h K := by
  refine Ct.of (fun _ _ _ => trivial) rfl (Nat.le_of_ble_eq_true rfl) ?_
  show AW (m_X8_appendStep (d + 0) 0 0) 0 0 0 [(0, .ref 11), (1, .int x1)] [] h (kV K)
  refine aw_aload_n (i := 0) rfl d_X8_appendStep_0 0 rfl ?_
  refine aw_geti (k0 := 6) kc_8 (ws_11 w) (Nat.le_of_ble_eq_true rfl) tw_68 d_X8_appendStep_1 rfl ?_
  refine aw_aload_n (i := 0) rfl d_X8_appendStep_4 0 rfl ?_
  refine aw_getr (k0 := 5) kc_8 (ws_11 w) (Nat.le_of_ble_eq_true rfl) tw_65 d_X8_appendStep_5 rfl (wr_11_5 w) ?_
  refine aw_alen (v := 150) (ws_32 w) (Nat.le_of_ble_eq_true rfl) rfl d_X8_appendStep_8 ?_
  refine aw_icmp_ge (tgt := 35) d_X8_appendStep_9 rfl (fun c1 => ?_) (fun c1 => ?_)
  · have k := k.1 c1
    refine aw_aload_n (i := 0) rfl d_X8_appendStep_35 0 rfl ?_
    refine aw_iconst (v := 1) d_X8_appendStep_36 ic_1 ?_
    refine aw_puti (k0 := 7) kc_8 (ws_11 w) (Nat.le_of_ble_eq_true rfl) tw_70 d_X8_appendStep_37 rfl rfl ⟨rfl, rfl⟩ ?_
    exact aw_vret rfl d_X8_appendStep_40 ⟨Nat.le_refl _, Nat.le_refl _⟩ ⟨rfl, k⟩
  · have k := k.2 c1
    refine aw_aload_n (i := 0) rfl d_X8_appendStep_12 0 rfl ?_
    refine aw_getr (k0 := 5) kc_8 (ws_11 w) (Nat.le_of_ble_eq_true rfl) tw_65 d_X8_appendStep_13 rfl (wr_11_5 w) ?_
    refine aw_aload_n (i := 0) rfl d_X8_appendStep_16 0 rfl ?_
    refine aw_geti (k0 := 6) kc_8 (ws_11 w) (Nat.le_of_ble_eq_true rfl) tw_68 d_X8_appendStep_17 rfl ?_
    refine aw_iload_n (i := 1) rfl d_X8_appendStep_20 1 rfl ?_
    obtain ⟨b2, k⟩ := k
    refine aw_iast (ws_32 w) b2 d_X8_appendStep_21 ?_
    refine aw_aload_n (i := 0) rfl d_X8_appendStep_22 0 rfl ?_
    refine aw_dup d_X8_appendStep_23 rfl ?_
    refine aw_geti (k0 := 6) kc_8 (ws_11 w) (Nat.le_of_ble_eq_true rfl) tw_68 d_X8_appendStep_24 rfl ?_
    refine aw_vi (v2 := (h_i h 11 6)) (rfl) ?_
    refine aw_iconst (v := 1) d_X8_appendStep_27 ic_1 ?_
    refine aw_iadd d_X8_appendStep_28 ?_
    refine aw_puti (k0 := 6) kc_8 (ws_11 w) (Nat.le_of_ble_eq_true rfl) tw_68 d_X8_appendStep_29 rfl rfl nf_i ?_
    refine aw_goto (tgt := 40) d_X8_appendStep_32 rfl ?_
    exact aw_vret rfl d_X8_appendStep_40 ⟨Nat.le_refl _, Nat.le_refl _⟩ ⟨rfl, k⟩
theorem t_X8_isComparison (d : Nat) (h : Hp_) (x0 : Int32) (K : Int32 → Hp_ → Prop) (k : (x0 = 61 → K 1 h) ∧ (¬ x0 = 61 → (x0 = 60 → K 1 h) ∧ (¬ x0 = 60 → (¬ x0 = 62 → K 0 h) ∧ (x0 = 62 → K 1 h)))) : Ci (m_X8_isComparison (d + 0) 0 0) [.int x0] h K := by
  refine Ct.of (fun _ _ _ => trivial) rfl (Nat.le_of_ble_eq_true rfl) ?_
  show AW (m_X8_isComparison (d + 0) 0 0) 0 0 0 [(0, .int x0)] [] h (kI K)
  refine aw_iload_n (i := 0) rfl d_X8_isComparison_0 0 rfl ?_
  refine aw_bipush (v := 61) d_X8_isComparison_1 ib_61 ?_
  refine aw_icmp_eq (tgt := 18) d_X8_isComparison_3 rfl (fun c1 => ?_) (fun c1 => ?_)
  · have k := k.1 c1
    refine aw_iconst (v := 1) d_X8_isComparison_18 ic_1 ?_
    refine aw_goto (tgt := 23) d_X8_isComparison_19 rfl ?_
    exact aw_zret rfl rfl d_X8_isComparison_23 ⟨Nat.le_refl _, Nat.le_refl _⟩ ⟨_, rfl, k⟩
  · have k := k.2 c1
    refine aw_iload_n (i := 0) rfl d_X8_isComparison_6 0 rfl ?_
    refine aw_bipush (v := 60) d_X8_isComparison_7 ib_60 ?_
    refine aw_icmp_eq (tgt := 18) d_X8_isComparison_9 rfl (fun c2 => ?_) (fun c2 => ?_)
    · have k := k.1 c2
      refine aw_iconst (v := 1) d_X8_isComparison_18 ic_1 ?_
      refine aw_goto (tgt := 23) d_X8_isComparison_19 rfl ?_
      exact aw_zret rfl rfl d_X8_isComparison_23 ⟨Nat.le_refl _, Nat.le_refl _⟩ ⟨_, rfl, k⟩
    · have k := k.2 c2
      refine aw_iload_n (i := 0) rfl d_X8_isComparison_12 0 rfl ?_
      refine aw_bipush (v := 62) d_X8_isComparison_13 ib_62 ?_
      refine aw_icmp_ne (tgt := 22) d_X8_isComparison_15 rfl (fun c3 => ?_) (fun c3 => ?_)
      · have k := k.1 c3
        refine aw_iconst (v := 0) d_X8_isComparison_22 ic_0 ?_
        exact aw_zret rfl rfl d_X8_isComparison_23 ⟨Nat.le_refl _, Nat.le_refl _⟩ ⟨_, rfl, k⟩
      · have k := k.2 c3
        refine aw_iconst (v := 1) d_X8_isComparison_18 ic_1 ?_
        refine aw_goto (tgt := 23) d_X8_isComparison_19 rfl ?_
        exact aw_zret rfl rfl d_X8_isComparison_23 ⟨Nat.le_refl _, Nat.le_refl _⟩ ⟨_, rfl, k⟩
theorem t_X10_pack (d : Nat) (h : Hp_) (x0 : Int32) (x1 : Int32) (K : Int32 → Hp_ → Prop) (k : K (x0 ||| (x1 <<< ((4 : Int32) &&& 31))) h) : Ci (m_X10_pack (d + 0) 0 0) [.int x0, .int x1] h K := by
  refine Ct.of (fun _ _ _ => trivial) rfl (Nat.le_of_ble_eq_true rfl) ?_
  show AW (m_X10_pack (d + 0) 0 0) 0 0 0 [(0, .int x0), (1, .int x1)] [] h (kI K)
  refine aw_iload_n (i := 0) rfl d_X10_pack_0 0 rfl ?_
  refine aw_iload_n (i := 1) rfl d_X10_pack_1 1 rfl ?_
  refine aw_iconst (v := 4) d_X10_pack_2 ic_4 ?_
  refine aw_ishl d_X10_pack_3 ?_
  refine aw_ior d_X10_pack_4 ?_
  exact aw_iret rfl d_X10_pack_5 ⟨Nat.le_refl _, Nat.le_refl _⟩ ⟨_, rfl, k⟩
theorem t_X10_inForce_13 (d : Nat) (h : Hp_) (x1 : Int32) (x2 : Int32) (K : Int32 → Hp_ → Prop) (k : AW (m_X10_inForce (d + 0) 0 0) 0 0 5 [(0, .ref 13), (1, .int x1), (2, .int x2), (3, .int (-1)), (4, .int 0)] [] h (kI K)) : Ci (m_X10_inForce (d + 0) 0 0) [.ref 13, .int x1, .int x2] h K := by
  refine Ct.of (fun _ _ _ => trivial) rfl (Nat.le_of_ble_eq_true rfl) ?_
  show AW (m_X10_inForce (d + 0) 0 0) 0 0 0 [(0, .ref 13), (1, .int x1), (2, .int x2)] [] h (kI K)
  refine aw_iconst (v := (-1)) d_X10_inForce_0 ic_m1 ?_
  refine aw_istore_n (i := 3) rfl [(0, .ref 13), (1, .int x1), (2, .int x2), (3, .int (-1))] d_X10_inForce_1 (Nat.le_of_ble_eq_true rfl) rfl rfl ?_
  refine aw_iconst (v := 0) d_X10_inForce_2 ic_0 ?_
  refine aw_istore [(0, .ref 13), (1, .int x1), (2, .int x2), (3, .int (-1)), (4, .int 0)] d_X10_inForce_3 (Nat.le_of_ble_eq_true rfl) rfl rfl ?_
  exact k
theorem t_X10_inForce_13_5 (d : Nat) (h : Hp_) (w : Wf h) (x1 : Int32) (x2 : Int32) (x3 : Int32) (x4 : Int32) (K : Int32 → Hp_ → Prop) (k : ((h_i h 13 5) ≤ x4 → K x3 h) ∧ (¬ (h_i h 13 5) ≤ x4 → vp_in x4 20 ∧ ((x2 < (h_i h 38 x4.toNatClampNeg) → AW (m_X10_inForce (d + 0) 0 0) 0 0 5 [(0, .ref 13), (1, .int x1), (2, .int x2), (3, .int x3), (4, .int (x4 + 1))] [] h (kI K)) ∧ (¬ x2 < (h_i h 38 x4.toNatClampNeg) → vp_in x4 20 ∧ ((x1 < (h_i h 37 x4.toNatClampNeg) → AW (m_X10_inForce (d + 0) 0 0) 0 0 5 [(0, .ref 13), (1, .int x1), (2, .int x2), (3, .int x3), (4, .int (x4 + 1))] [] h (kI K)) ∧ (¬ x1 < (h_i h 37 x4.toNatClampNeg) → (x3 = (-1) → AW (m_X10_inForce (d + 0) 0 0) 0 0 5 [(0, .ref 13), (1, .int x1), (2, .int x2), (3, .int x4), (4, .int (x4 + 1))] [] h (kI K)) ∧ (¬ x3 = (-1) → vp_in x4 20 ∧ (vp_in x3 20 ∧ (((h_i h 37 x4.toNatClampNeg) < (h_i h 37 x3.toNatClampNeg) → AW (m_X10_inForce (d + 0) 0 0) 0 0 5 [(0, .ref 13), (1, .int x1), (2, .int x2), (3, .int x3), (4, .int (x4 + 1))] [] h (kI K)) ∧ (¬ (h_i h 37 x4.toNatClampNeg) < (h_i h 37 x3.toNatClampNeg) → AW (m_X10_inForce (d + 0) 0 0) 0 0 5 [(0, .ref 13), (1, .int x1), (2, .int x2), (3, .int x4), (4, .int (x4 + 1))] [] h (kI K))))))))))) : AW (m_X10_inForce (d + 0) 0 0) 0 0 5 [(0, .ref 13), (1, .int x1), (2, .int x2), (3, .int x3), (4, .int x4)] [] h (kI K) := by
  refine aw_iload d_X10_inForce_5 4 rfl ?_
  refine aw_aload_n (i := 0) rfl d_X10_inForce_7 0 rfl ?_
  refine aw_geti (k0 := 5) kc_10 (ws_13 w) (Nat.le_of_ble_eq_true rfl) tw_129 d_X10_inForce_8 rfl ?_
  refine aw_icmp_ge (tgt := 66) d_X10_inForce_11 rfl (fun c1 => ?_) (fun c1 => ?_)
  · have k := k.1 c1
    refine aw_iload_n (i := 3) rfl d_X10_inForce_66 3 rfl ?_
    exact aw_iret rfl d_X10_inForce_67 ⟨Nat.le_refl _, Nat.le_refl _⟩ ⟨_, rfl, k⟩
  · have k := k.2 c1
    refine aw_aload_n (i := 0) rfl d_X10_inForce_14 0 rfl ?_
    refine aw_getr (k0 := 1) kc_10 (ws_13 w) (Nat.le_of_ble_eq_true rfl) tw_125 d_X10_inForce_15 rfl (wr_13_1 w) ?_
    refine aw_iload d_X10_inForce_18 4 rfl ?_
    obtain ⟨b2, k⟩ := k
    refine aw_iald (ws_38 w) b2 d_X10_inForce_20 ?_
    refine aw_iload_n (i := 2) rfl d_X10_inForce_21 2 rfl ?_
    refine aw_icmp_gt (tgt := 60) d_X10_inForce_22 rfl (fun c3 => ?_) (fun c3 => ?_)
    · have k := k.1 c3
      refine aw_iinc (v := (x4 + 1)) [(0, .ref 13), (1, .int x1), (2, .int x2), (3, .int x3), (4, .int (x4 + 1))] d_X10_inForce_60 4 rfl rfl (Nat.le_of_ble_eq_true rfl) rfl rfl ?_
      refine aw_goto (tgt := 5) d_X10_inForce_63 rfl ?_
      exact k
    · have k := k.2 c3
      refine aw_aload_n (i := 0) rfl d_X10_inForce_25 0 rfl ?_
      refine aw_getr (k0 := 0) kc_10 (ws_13 w) (Nat.le_of_ble_eq_true rfl) tw_124 d_X10_inForce_26 rfl (wr_13_0 w) ?_
      refine aw_iload d_X10_inForce_29 4 rfl ?_
      obtain ⟨b4, k⟩ := k
      refine aw_iald (ws_37 w) b4 d_X10_inForce_31 ?_
      refine aw_iload_n (i := 1) rfl d_X10_inForce_32 1 rfl ?_
      refine aw_icmp_gt (tgt := 60) d_X10_inForce_33 rfl (fun c5 => ?_) (fun c5 => ?_)
      · have k := k.1 c5
        refine aw_iinc (v := (x4 + 1)) [(0, .ref 13), (1, .int x1), (2, .int x2), (3, .int x3), (4, .int (x4 + 1))] d_X10_inForce_60 4 rfl rfl (Nat.le_of_ble_eq_true rfl) rfl rfl ?_
        refine aw_goto (tgt := 5) d_X10_inForce_63 rfl ?_
        exact k
      · have k := k.2 c5
        refine aw_iload_n (i := 3) rfl d_X10_inForce_36 3 rfl ?_
        refine aw_iconst (v := (-1)) d_X10_inForce_37 ic_m1 ?_
        refine aw_icmp_eq (tgt := 57) d_X10_inForce_38 rfl (fun c6 => ?_) (fun c6 => ?_)
        · have k := k.1 c6
          refine aw_iload d_X10_inForce_57 4 rfl ?_
          refine aw_istore_n (i := 3) rfl [(0, .ref 13), (1, .int x1), (2, .int x2), (3, .int x4), (4, .int x4)] d_X10_inForce_59 (Nat.le_of_ble_eq_true rfl) rfl rfl ?_
          refine aw_iinc (v := (x4 + 1)) [(0, .ref 13), (1, .int x1), (2, .int x2), (3, .int x4), (4, .int (x4 + 1))] d_X10_inForce_60 4 rfl rfl (Nat.le_of_ble_eq_true rfl) rfl rfl ?_
          refine aw_goto (tgt := 5) d_X10_inForce_63 rfl ?_
          exact k
        · have k := k.2 c6
          refine aw_aload_n (i := 0) rfl d_X10_inForce_41 0 rfl ?_
          refine aw_getr (k0 := 0) kc_10 (ws_13 w) (Nat.le_of_ble_eq_true rfl) tw_124 d_X10_inForce_42 rfl (wr_13_0 w) ?_
          refine aw_iload d_X10_inForce_45 4 rfl ?_
          obtain ⟨b7, k⟩ := k
          refine aw_iald (ws_37 w) b7 d_X10_inForce_47 ?_
          refine aw_aload_n (i := 0) rfl d_X10_inForce_48 0 rfl ?_
          refine aw_getr (k0 := 0) kc_10 (ws_13 w) (Nat.le_of_ble_eq_true rfl) tw_124 d_X10_inForce_49 rfl (wr_13_0 w) ?_
          refine aw_iload_n (i := 3) rfl d_X10_inForce_52 3 rfl ?_
          obtain ⟨b8, k⟩ := k
          refine aw_iald (ws_37 w) b8 d_X10_inForce_53 ?_
          refine aw_icmp_lt (tgt := 60) d_X10_inForce_54 rfl (fun c9 => ?_) (fun c9 => ?_)
          · have k := k.1 c9
            refine aw_iinc (v := (x4 + 1)) [(0, .ref 13), (1, .int x1), (2, .int x2), (3, .int x3), (4, .int (x4 + 1))] d_X10_inForce_60 4 rfl rfl (Nat.le_of_ble_eq_true rfl) rfl rfl ?_
            refine aw_goto (tgt := 5) d_X10_inForce_63 rfl ?_
            exact k
          · have k := k.2 c9
            refine aw_iload d_X10_inForce_57 4 rfl ?_
            refine aw_istore_n (i := 3) rfl [(0, .ref 13), (1, .int x1), (2, .int x2), (3, .int x4), (4, .int x4)] d_X10_inForce_59 (Nat.le_of_ble_eq_true rfl) rfl rfl ?_
            refine aw_iinc (v := (x4 + 1)) [(0, .ref 13), (1, .int x1), (2, .int x2), (3, .int x4), (4, .int (x4 + 1))] d_X10_inForce_60 4 rfl rfl (Nat.le_of_ble_eq_true rfl) rfl rfl ?_
            refine aw_goto (tgt := 5) d_X10_inForce_63 rfl ?_
            exact k
theorem t_X10_inForce_14 (d : Nat) (h : Hp_) (x1 : Int32) (x2 : Int32) (K : Int32 → Hp_ → Prop) (k : AW (m_X10_inForce (d + 0) 0 0) 0 0 5 [(0, .ref 14), (1, .int x1), (2, .int x2), (3, .int (-1)), (4, .int 0)] [] h (kI K)) : Ci (m_X10_inForce (d + 0) 0 0) [.ref 14, .int x1, .int x2] h K := by
  refine Ct.of (fun _ _ _ => trivial) rfl (Nat.le_of_ble_eq_true rfl) ?_
  show AW (m_X10_inForce (d + 0) 0 0) 0 0 0 [(0, .ref 14), (1, .int x1), (2, .int x2)] [] h (kI K)
  refine aw_iconst (v := (-1)) d_X10_inForce_0 ic_m1 ?_
  refine aw_istore_n (i := 3) rfl [(0, .ref 14), (1, .int x1), (2, .int x2), (3, .int (-1))] d_X10_inForce_1 (Nat.le_of_ble_eq_true rfl) rfl rfl ?_
  refine aw_iconst (v := 0) d_X10_inForce_2 ic_0 ?_
  refine aw_istore [(0, .ref 14), (1, .int x1), (2, .int x2), (3, .int (-1)), (4, .int 0)] d_X10_inForce_3 (Nat.le_of_ble_eq_true rfl) rfl rfl ?_
  exact k
theorem t_X10_inForce_14_5 (d : Nat) (h : Hp_) (w : Wf h) (x1 : Int32) (x2 : Int32) (x3 : Int32) (x4 : Int32) (K : Int32 → Hp_ → Prop) (k : ((h_i h 14 5) ≤ x4 → K x3 h) ∧ (¬ (h_i h 14 5) ≤ x4 → vp_in x4 20 ∧ ((x2 < (h_i h 43 x4.toNatClampNeg) → AW (m_X10_inForce (d + 0) 0 0) 0 0 5 [(0, .ref 14), (1, .int x1), (2, .int x2), (3, .int x3), (4, .int (x4 + 1))] [] h (kI K)) ∧ (¬ x2 < (h_i h 43 x4.toNatClampNeg) → vp_in x4 20 ∧ ((x1 < (h_i h 42 x4.toNatClampNeg) → AW (m_X10_inForce (d + 0) 0 0) 0 0 5 [(0, .ref 14), (1, .int x1), (2, .int x2), (3, .int x3), (4, .int (x4 + 1))] [] h (kI K)) ∧ (¬ x1 < (h_i h 42 x4.toNatClampNeg) → (x3 = (-1) → AW (m_X10_inForce (d + 0) 0 0) 0 0 5 [(0, .ref 14), (1, .int x1), (2, .int x2), (3, .int x4), (4, .int (x4 + 1))] [] h (kI K)) ∧ (¬ x3 = (-1) → vp_in x4 20 ∧ (vp_in x3 20 ∧ (((h_i h 42 x4.toNatClampNeg) < (h_i h 42 x3.toNatClampNeg) → AW (m_X10_inForce (d + 0) 0 0) 0 0 5 [(0, .ref 14), (1, .int x1), (2, .int x2), (3, .int x3), (4, .int (x4 + 1))] [] h (kI K)) ∧ (¬ (h_i h 42 x4.toNatClampNeg) < (h_i h 42 x3.toNatClampNeg) → AW (m_X10_inForce (d + 0) 0 0) 0 0 5 [(0, .ref 14), (1, .int x1), (2, .int x2), (3, .int x4), (4, .int (x4 + 1))] [] h (kI K))))))))))) : AW (m_X10_inForce (d + 0) 0 0) 0 0 5 [(0, .ref 14), (1, .int x1), (2, .int x2), (3, .int x3), (4, .int x4)] [] h (kI K) := by
  refine aw_iload d_X10_inForce_5 4 rfl ?_
  refine aw_aload_n (i := 0) rfl d_X10_inForce_7 0 rfl ?_
  refine aw_geti (k0 := 5) kc_10 (ws_14 w) (Nat.le_of_ble_eq_true rfl) tw_129 d_X10_inForce_8 rfl ?_
  refine aw_icmp_ge (tgt := 66) d_X10_inForce_11 rfl (fun c1 => ?_) (fun c1 => ?_)
  · have k := k.1 c1
    refine aw_iload_n (i := 3) rfl d_X10_inForce_66 3 rfl ?_
    exact aw_iret rfl d_X10_inForce_67 ⟨Nat.le_refl _, Nat.le_refl _⟩ ⟨_, rfl, k⟩
  · have k := k.2 c1
    refine aw_aload_n (i := 0) rfl d_X10_inForce_14 0 rfl ?_
    refine aw_getr (k0 := 1) kc_10 (ws_14 w) (Nat.le_of_ble_eq_true rfl) tw_125 d_X10_inForce_15 rfl (wr_14_1 w) ?_
    refine aw_iload d_X10_inForce_18 4 rfl ?_
    obtain ⟨b2, k⟩ := k
    refine aw_iald (ws_43 w) b2 d_X10_inForce_20 ?_
    refine aw_iload_n (i := 2) rfl d_X10_inForce_21 2 rfl ?_
    refine aw_icmp_gt (tgt := 60) d_X10_inForce_22 rfl (fun c3 => ?_) (fun c3 => ?_)
    · have k := k.1 c3
      refine aw_iinc (v := (x4 + 1)) [(0, .ref 14), (1, .int x1), (2, .int x2), (3, .int x3), (4, .int (x4 + 1))] d_X10_inForce_60 4 rfl rfl (Nat.le_of_ble_eq_true rfl) rfl rfl ?_
      refine aw_goto (tgt := 5) d_X10_inForce_63 rfl ?_
      exact k
    · have k := k.2 c3
      refine aw_aload_n (i := 0) rfl d_X10_inForce_25 0 rfl ?_
      refine aw_getr (k0 := 0) kc_10 (ws_14 w) (Nat.le_of_ble_eq_true rfl) tw_124 d_X10_inForce_26 rfl (wr_14_0 w) ?_
      refine aw_iload d_X10_inForce_29 4 rfl ?_
      obtain ⟨b4, k⟩ := k
      refine aw_iald (ws_42 w) b4 d_X10_inForce_31 ?_
      refine aw_iload_n (i := 1) rfl d_X10_inForce_32 1 rfl ?_
      refine aw_icmp_gt (tgt := 60) d_X10_inForce_33 rfl (fun c5 => ?_) (fun c5 => ?_)
      · have k := k.1 c5
        refine aw_iinc (v := (x4 + 1)) [(0, .ref 14), (1, .int x1), (2, .int x2), (3, .int x3), (4, .int (x4 + 1))] d_X10_inForce_60 4 rfl rfl (Nat.le_of_ble_eq_true rfl) rfl rfl ?_
        refine aw_goto (tgt := 5) d_X10_inForce_63 rfl ?_
        exact k
      · have k := k.2 c5
        refine aw_iload_n (i := 3) rfl d_X10_inForce_36 3 rfl ?_
        refine aw_iconst (v := (-1)) d_X10_inForce_37 ic_m1 ?_
        refine aw_icmp_eq (tgt := 57) d_X10_inForce_38 rfl (fun c6 => ?_) (fun c6 => ?_)
        · have k := k.1 c6
          refine aw_iload d_X10_inForce_57 4 rfl ?_
          refine aw_istore_n (i := 3) rfl [(0, .ref 14), (1, .int x1), (2, .int x2), (3, .int x4), (4, .int x4)] d_X10_inForce_59 (Nat.le_of_ble_eq_true rfl) rfl rfl ?_
          refine aw_iinc (v := (x4 + 1)) [(0, .ref 14), (1, .int x1), (2, .int x2), (3, .int x4), (4, .int (x4 + 1))] d_X10_inForce_60 4 rfl rfl (Nat.le_of_ble_eq_true rfl) rfl rfl ?_
          refine aw_goto (tgt := 5) d_X10_inForce_63 rfl ?_
          exact k
        · have k := k.2 c6
          refine aw_aload_n (i := 0) rfl d_X10_inForce_41 0 rfl ?_
          refine aw_getr (k0 := 0) kc_10 (ws_14 w) (Nat.le_of_ble_eq_true rfl) tw_124 d_X10_inForce_42 rfl (wr_14_0 w) ?_
          refine aw_iload d_X10_inForce_45 4 rfl ?_
          obtain ⟨b7, k⟩ := k
          refine aw_iald (ws_42 w) b7 d_X10_inForce_47 ?_
          refine aw_aload_n (i := 0) rfl d_X10_inForce_48 0 rfl ?_
          refine aw_getr (k0 := 0) kc_10 (ws_14 w) (Nat.le_of_ble_eq_true rfl) tw_124 d_X10_inForce_49 rfl (wr_14_0 w) ?_
          refine aw_iload_n (i := 3) rfl d_X10_inForce_52 3 rfl ?_
          obtain ⟨b8, k⟩ := k
          refine aw_iald (ws_42 w) b8 d_X10_inForce_53 ?_
          refine aw_icmp_lt (tgt := 60) d_X10_inForce_54 rfl (fun c9 => ?_) (fun c9 => ?_)
          · have k := k.1 c9
            refine aw_iinc (v := (x4 + 1)) [(0, .ref 14), (1, .int x1), (2, .int x2), (3, .int x3), (4, .int (x4 + 1))] d_X10_inForce_60 4 rfl rfl (Nat.le_of_ble_eq_true rfl) rfl rfl ?_
            refine aw_goto (tgt := 5) d_X10_inForce_63 rfl ?_
            exact k
          · have k := k.2 c9
            refine aw_iload d_X10_inForce_57 4 rfl ?_
            refine aw_istore_n (i := 3) rfl [(0, .ref 14), (1, .int x1), (2, .int x2), (3, .int x4), (4, .int x4)] d_X10_inForce_59 (Nat.le_of_ble_eq_true rfl) rfl rfl ?_
            refine aw_iinc (v := (x4 + 1)) [(0, .ref 14), (1, .int x1), (2, .int x2), (3, .int x4), (4, .int (x4 + 1))] d_X10_inForce_60 4 rfl rfl (Nat.le_of_ble_eq_true rfl) rfl rfl ?_
            refine aw_goto (tgt := 5) d_X10_inForce_63 rfl ?_
            exact k
theorem t_X10_bounded (d : Nat) (h : Hp_) (x0 : Int64) (K : Int32 → Hp_ → Prop) (k : ((lg_cmp x0 (1000000 : Int64)) ≤ 0 → (0 ≤ (lg_cmp x0 (-1000000 : Int64)) → K ((x0 : Int64).toInt32) h) ∧ (¬ 0 ≤ (lg_cmp x0 (-1000000 : Int64)) → K (-1000000) h)) ∧ (¬ (lg_cmp x0 (1000000 : Int64)) ≤ 0 → K 1000000 h)) : Ci (m_X10_bounded (d + 0) 0 0) [.long x0] h K := by
  refine Ct.of (fun _ _ _ => trivial) rfl (Nat.le_of_ble_eq_true rfl) ?_
  show AW (m_X10_bounded (d + 0) 0 0) 0 0 0 [(0, .long x0)] [] h (kI K)
  refine aw_lload_n (i := 0) rfl d_X10_bounded_0 0 rfl ?_
  refine aw_ldc2 (v := 1000000) d_X10_bounded_1 tw_1077 ?_
  refine aw_lcmp d_X10_bounded_4 ?_
  refine aw_if_le (tgt := 13) d_X10_bounded_5 rfl (fun c1 => ?_) (fun c1 => ?_)
  · have k := k.1 c1
    refine aw_lload_n (i := 0) rfl d_X10_bounded_13 0 rfl ?_
    refine aw_ldc2 (v := (-1000000)) d_X10_bounded_14 tw_1079 ?_
    refine aw_lcmp d_X10_bounded_17 ?_
    refine aw_if_ge (tgt := 26) d_X10_bounded_18 rfl (fun c2 => ?_) (fun c2 => ?_)
    · have k := k.1 c2
      refine aw_lload_n (i := 0) rfl d_X10_bounded_26 0 rfl ?_
      refine aw_l2i d_X10_bounded_27 ?_
      exact aw_iret rfl d_X10_bounded_28 ⟨Nat.le_refl _, Nat.le_refl _⟩ ⟨_, rfl, k⟩
    · have k := k.2 c2
      refine aw_ldc (v := (-1000000)) d_X10_bounded_21 tw_1080 ?_
      refine aw_goto (tgt := 28) d_X10_bounded_23 rfl ?_
      exact aw_iret rfl d_X10_bounded_28 ⟨Nat.le_refl _, Nat.le_refl _⟩ ⟨_, rfl, k⟩
  · have k := k.2 c1
    refine aw_ldc (v := 1000000) d_X10_bounded_8 tw_1078 ?_
    refine aw_goto (tgt := 28) d_X10_bounded_10 rfl ?_
    exact aw_iret rfl d_X10_bounded_28 ⟨Nat.le_refl _, Nat.le_refl _⟩ ⟨_, rfl, k⟩
theorem t_X11_putAt (d : Nat) (h : Hp_) (w : Wf h) (x1 : Nat) (hs_x1 : h_sh h x1 = some (12, 17)) (lb_x1 : 400 ≤ x1) (x2 : Int32) (K : Hp_ → Prop) (k : (¬ x2 = (-1) → K (h_lm (h_im h x1 5 x2) 0 14 (((h_l h 0 14) &&& (((31 : Int64) <<< (((5 * (h_i h x1 0)) : Int32).toInt64 &&& 63)) ^^^ (-1 : Int64))) ||| ((((x2 + 1) : Int32).toInt64) <<< (((5 * (h_i h x1 0)) : Int32).toInt64 &&& 63))))) ∧ (x2 = (-1) → K (h_lm (h_im h x1 5 x2) 0 14 (((h_l h 0 14) &&& (((31 : Int64) <<< (((5 * (h_i h x1 0)) : Int32).toInt64 &&& 63)) ^^^ (-1 : Int64))) ||| ((17 : Int64) <<< (((5 * (h_i h x1 0)) : Int32).toInt64 &&& 63)))))) : Cv (m_X11_putAt (d + 0) 0 0) [.ref 0, .ref x1, .int x2] h K := by
  refine Ct.of (fun _ _ _ => trivial) rfl (Nat.le_of_ble_eq_true rfl) ?_
  show AW (m_X11_putAt (d + 0) 0 0) 0 0 0 [(0, .ref 0), (1, .ref x1), (2, .int x2)] [] h (kV K)
  refine aw_aload_n (i := 1) rfl d_X11_putAt_0 1 rfl ?_
  refine aw_iload_n (i := 2) rfl d_X11_putAt_1 2 rfl ?_
  refine aw_puti (k0 := 5) kc_2 (hs_x1) (Nat.le_of_ble_eq_true rfl) tw_583 d_X11_putAt_2 rfl rfl nf_i ?_
  refine aw_iconst (v := 5) d_X11_putAt_5 ic_5 ?_
  refine aw_aload_n (i := 1) rfl d_X11_putAt_6 1 rfl ?_
  refine aw_geti (k0 := 0) kc_2 (hs_x1) (Nat.le_of_ble_eq_true rfl) tw_573 d_X11_putAt_7 rfl ?_
  refine aw_vi (v2 := (h_i h x1 0)) ((hi_o h x1 5 x2 0 (by decide)).trans (rfl)) ?_
  refine aw_imul d_X11_putAt_10 ?_
  refine aw_istore_n (i := 3) rfl [(0, .ref 0), (1, .ref x1), (2, .int x2), (3, .int (5 * (h_i h x1 0)))] d_X11_putAt_11 (Nat.le_of_ble_eq_true rfl) rfl rfl ?_
  refine aw_iload_n (i := 2) rfl d_X11_putAt_12 2 rfl ?_
  refine aw_iconst (v := (-1)) d_X11_putAt_13 ic_m1 ?_
  refine aw_icmp_ne (tgt := 23) d_X11_putAt_14 rfl (fun c1 => ?_) (fun c1 => ?_)
  · have k := k.1 c1
    refine aw_iload_n (i := 2) rfl d_X11_putAt_23 2 rfl ?_
    refine aw_iconst (v := 1) d_X11_putAt_24 ic_1 ?_
    refine aw_iadd d_X11_putAt_25 ?_
    refine aw_i2l d_X11_putAt_26 ?_
    refine aw_lstore [(0, .ref 0), (1, .ref x1), (2, .int x2), (3, .int (5 * (h_i h x1 0))), (4, .long (((x2 + 1) : Int32).toInt64))] d_X11_putAt_27 (Nat.le_of_ble_eq_true rfl) rfl rfl ?_
    refine aw_aload_n (i := 0) rfl d_X11_putAt_29 0 rfl ?_
    refine aw_aload_n (i := 0) rfl d_X11_putAt_30 0 rfl ?_
    refine aw_getl (k0 := 14) kc_11 (ws_0 w) (Nat.le_of_ble_eq_true rfl) tw_501 d_X11_putAt_31 rfl ?_
    refine aw_vl (v2 := (h_l h 0 14)) (rfl) ?_
    refine aw_ldc2 (v := 31) d_X11_putAt_34 tw_639 ?_
    refine aw_iload_n (i := 3) rfl d_X11_putAt_37 3 rfl ?_
    refine aw_lshl d_X11_putAt_38 ?_
    refine aw_ldc2 (v := (-1)) d_X11_putAt_39 tw_640 ?_
    refine aw_lxor d_X11_putAt_42 ?_
    refine aw_land d_X11_putAt_43 ?_
    refine aw_lload d_X11_putAt_44 4 rfl ?_
    refine aw_iload_n (i := 3) rfl d_X11_putAt_46 3 rfl ?_
    refine aw_lshl d_X11_putAt_47 ?_
    refine aw_lor d_X11_putAt_48 ?_
    refine aw_putl (k0 := 14) kc_11 (ws_0 w) (Nat.le_of_ble_eq_true rfl) tw_501 d_X11_putAt_49 rfl rfl ?_
    exact aw_vret rfl d_X11_putAt_52 ⟨Nat.le_refl _, Nat.le_refl _⟩ ⟨rfl, k⟩
  · have k := k.2 c1
    refine aw_ldc2 (v := 17) d_X11_putAt_17 tw_638 ?_
    refine aw_goto (tgt := 27) d_X11_putAt_20 rfl ?_
    refine aw_lstore [(0, .ref 0), (1, .ref x1), (2, .int x2), (3, .int (5 * (h_i h x1 0))), (4, .long (17 : Int64))] d_X11_putAt_27 (Nat.le_of_ble_eq_true rfl) rfl rfl ?_
    refine aw_aload_n (i := 0) rfl d_X11_putAt_29 0 rfl ?_
    refine aw_aload_n (i := 0) rfl d_X11_putAt_30 0 rfl ?_
    refine aw_getl (k0 := 14) kc_11 (ws_0 w) (Nat.le_of_ble_eq_true rfl) tw_501 d_X11_putAt_31 rfl ?_
    refine aw_vl (v2 := (h_l h 0 14)) (rfl) ?_
    refine aw_ldc2 (v := 31) d_X11_putAt_34 tw_639 ?_
    refine aw_iload_n (i := 3) rfl d_X11_putAt_37 3 rfl ?_
    refine aw_lshl d_X11_putAt_38 ?_
    refine aw_ldc2 (v := (-1)) d_X11_putAt_39 tw_640 ?_
    refine aw_lxor d_X11_putAt_42 ?_
    refine aw_land d_X11_putAt_43 ?_
    refine aw_lload d_X11_putAt_44 4 rfl ?_
    refine aw_iload_n (i := 3) rfl d_X11_putAt_46 3 rfl ?_
    refine aw_lshl d_X11_putAt_47 ?_
    refine aw_lor d_X11_putAt_48 ?_
    refine aw_putl (k0 := 14) kc_11 (ws_0 w) (Nat.le_of_ble_eq_true rfl) tw_501 d_X11_putAt_49 rfl rfl ?_
    exact aw_vret rfl d_X11_putAt_52 ⟨Nat.le_refl _, Nat.le_refl _⟩ ⟨rfl, k⟩
theorem t_X11_placeSign (d : Nat) (h : Hp_) (w : Wf h) (x1 : Int32) (x2 : Int32) (K : Int32 → Hp_ → Prop) (k : ((h_i h 0 0) ≤ x2 → K (((((h_l h 0 14) >>> (((5 * x1) : Int32).toInt64 &&& 63)) : Int64).toInt32) &&& 31) h) ∧ (¬ (h_i h 0 0) ≤ x2 → ∃ b2 n3 : Nat, h_r h 0 15 = some b2 ∧ h_sh h b2 = some (3, n3) ∧ 400 ≤ b2 ∧ (((Int32.ofNat n3) ≤ x2 → K (((((h_l h 0 14) >>> (((5 * x1) : Int32).toInt64 &&& 63)) : Int64).toInt32) &&& 31) h) ∧ (¬ (Int32.ofNat n3) ≤ x2 → ∃ b8 n9 : Nat, h_r h 0 15 = some b8 ∧ h_sh h b8 = some (3, n9) ∧ 400 ≤ b8 ∧ (vp_in x2 n9 ∧ (K (((((h_l h b8 x2.toNatClampNeg) >>> (((5 * x1) : Int32).toInt64 &&& 63)) : Int64).toInt32) &&& 31) h)))))) : Ci (m_X11_placeSign (d + 0) 0 0) [.ref 0, .int x1, .int x2] h K := by
  refine Ct.of (fun _ _ _ => trivial) rfl (Nat.le_of_ble_eq_true rfl) ?_
  show AW (m_X11_placeSign (d + 0) 0 0) 0 0 0 [(0, .ref 0), (1, .int x1), (2, .int x2)] [] h (kI K)
  refine aw_iload_n (i := 2) rfl d_X11_placeSign_0 2 rfl ?_
  refine aw_aload_n (i := 0) rfl d_X11_placeSign_1 0 rfl ?_
  refine aw_geti (k0 := 0) kc_11 (ws_0 w) (Nat.le_of_ble_eq_true rfl) tw_487 d_X11_placeSign_2 rfl ?_
  refine aw_icmp_ge (tgt := 26) d_X11_placeSign_5 rfl (fun c1 => ?_) (fun c1 => ?_)
  · have k := k.1 c1
    refine aw_aload_n (i := 0) rfl d_X11_placeSign_26 0 rfl ?_
    refine aw_getl (k0 := 14) kc_11 (ws_0 w) (Nat.le_of_ble_eq_true rfl) tw_501 d_X11_placeSign_27 rfl ?_
    refine aw_lstore_n (i := 3) rfl [(0, .ref 0), (1, .int x1), (2, .int x2), (3, .long (h_l h 0 14))] d_X11_placeSign_30 (Nat.le_of_ble_eq_true rfl) rfl rfl ?_
    refine aw_lload_n (i := 3) rfl d_X11_placeSign_31 3 rfl ?_
    refine aw_iconst (v := 5) d_X11_placeSign_32 ic_5 ?_
    refine aw_iload_n (i := 1) rfl d_X11_placeSign_33 1 rfl ?_
    refine aw_imul d_X11_placeSign_34 ?_
    refine aw_lshr d_X11_placeSign_35 ?_
    refine aw_l2i d_X11_placeSign_36 ?_
    refine aw_bipush (v := 31) d_X11_placeSign_37 ib_31 ?_
    refine aw_iand d_X11_placeSign_39 ?_
    exact aw_iret rfl d_X11_placeSign_40 ⟨Nat.le_refl _, Nat.le_refl _⟩ ⟨_, rfl, k⟩
  · have k := k.2 c1
    refine aw_iload_n (i := 2) rfl d_X11_placeSign_8 2 rfl ?_
    refine aw_aload_n (i := 0) rfl d_X11_placeSign_9 0 rfl ?_
    obtain ⟨b2, n3, q4, q5, l6, k⟩ := k
    refine aw_getr (k0 := 15) kc_11 (ws_0 w) (Nat.le_of_ble_eq_true rfl) tw_502 d_X11_placeSign_10 rfl q4 ?_
    refine aw_alen (v := (Int32.ofNat n3)) (q5) (Nat.le_of_ble_eq_true rfl) rfl d_X11_placeSign_13 ?_
    refine aw_icmp_ge (tgt := 26) d_X11_placeSign_14 rfl (fun c7 => ?_) (fun c7 => ?_)
    · have k := k.1 c7
      refine aw_aload_n (i := 0) rfl d_X11_placeSign_26 0 rfl ?_
      refine aw_getl (k0 := 14) kc_11 (ws_0 w) (Nat.le_of_ble_eq_true rfl) tw_501 d_X11_placeSign_27 rfl ?_
      refine aw_lstore_n (i := 3) rfl [(0, .ref 0), (1, .int x1), (2, .int x2), (3, .long (h_l h 0 14))] d_X11_placeSign_30 (Nat.le_of_ble_eq_true rfl) rfl rfl ?_
      refine aw_lload_n (i := 3) rfl d_X11_placeSign_31 3 rfl ?_
      refine aw_iconst (v := 5) d_X11_placeSign_32 ic_5 ?_
      refine aw_iload_n (i := 1) rfl d_X11_placeSign_33 1 rfl ?_
      refine aw_imul d_X11_placeSign_34 ?_
      refine aw_lshr d_X11_placeSign_35 ?_
      refine aw_l2i d_X11_placeSign_36 ?_
      refine aw_bipush (v := 31) d_X11_placeSign_37 ib_31 ?_
      refine aw_iand d_X11_placeSign_39 ?_
      exact aw_iret rfl d_X11_placeSign_40 ⟨Nat.le_refl _, Nat.le_refl _⟩ ⟨_, rfl, k⟩
    · have k := k.2 c7
      refine aw_aload_n (i := 0) rfl d_X11_placeSign_17 0 rfl ?_
      obtain ⟨b8, n9, q10, q11, l12, k⟩ := k
      refine aw_getr (k0 := 15) kc_11 (ws_0 w) (Nat.le_of_ble_eq_true rfl) tw_502 d_X11_placeSign_18 rfl q10 ?_
      refine aw_iload_n (i := 2) rfl d_X11_placeSign_21 2 rfl ?_
      obtain ⟨b13, k⟩ := k
      refine aw_lald (q11) b13 d_X11_placeSign_22 ?_
      refine aw_goto (tgt := 30) d_X11_placeSign_23 rfl ?_
      refine aw_lstore_n (i := 3) rfl [(0, .ref 0), (1, .int x1), (2, .int x2), (3, .long (h_l h b8 x2.toNatClampNeg))] d_X11_placeSign_30 (Nat.le_of_ble_eq_true rfl) rfl rfl ?_
      refine aw_lload_n (i := 3) rfl d_X11_placeSign_31 3 rfl ?_
      refine aw_iconst (v := 5) d_X11_placeSign_32 ic_5 ?_
      refine aw_iload_n (i := 1) rfl d_X11_placeSign_33 1 rfl ?_
      refine aw_imul d_X11_placeSign_34 ?_
      refine aw_lshr d_X11_placeSign_35 ?_
      refine aw_l2i d_X11_placeSign_36 ?_
      refine aw_bipush (v := 31) d_X11_placeSign_37 ib_31 ?_
      refine aw_iand d_X11_placeSign_39 ?_
      exact aw_iret rfl d_X11_placeSign_40 ⟨Nat.le_refl _, Nat.le_refl _⟩ ⟨_, rfl, k⟩
theorem t_X11_countMenAt (d : Nat) (h : Hp_) (x1 : Int32) (K : Int32 → Hp_ → Prop) (k : AW (m_X11_countMenAt (d + 0) 0 0) 0 0 4 [(0, .ref 0), (1, .int x1), (2, .int 0), (3, .int 0)] [] h (kI K)) : Ci (m_X11_countMenAt (d + 0) 0 0) [.ref 0, .int x1] h K := by
  refine Ct.of (fun _ _ _ => trivial) rfl (Nat.le_of_ble_eq_true rfl) ?_
  show AW (m_X11_countMenAt (d + 0) 0 0) 0 0 0 [(0, .ref 0), (1, .int x1)] [] h (kI K)
  refine aw_iconst (v := 0) d_X11_countMenAt_0 ic_0 ?_
  refine aw_istore_n (i := 2) rfl [(0, .ref 0), (1, .int x1), (2, .int 0)] d_X11_countMenAt_1 (Nat.le_of_ble_eq_true rfl) rfl rfl ?_
  refine aw_iconst (v := 0) d_X11_countMenAt_2 ic_0 ?_
  refine aw_istore_n (i := 3) rfl [(0, .ref 0), (1, .int x1), (2, .int 0), (3, .int 0)] d_X11_countMenAt_3 (Nat.le_of_ble_eq_true rfl) rfl rfl ?_
  exact k
theorem t_X11_countMenAt_4 (d : Nat) (h : Hp_) (w : Wf h) (x1 : Int32) (x2 : Int32) (x3 : Int32) (K : Int32 → Hp_ → Prop) (k : ((h_i h 0 7) ≤ x3 → K x2 h) ∧ (¬ (h_i h 0 7) ≤ x3 → vp_in x3 12 ∧ ((h_r h 15 x3.toNatClampNeg = none → AW (m_X11_countMenAt (d + 0) 0 0) 0 0 4 [(0, .ref 0), (1, .int x1), (2, .int x2), (3, .int (x3 + 1))] [] h (kI K)) ∧ (∀ b3, h_r h 15 x3.toNatClampNeg = some b3 → h_sh h b3 = some (12, 17) ∧ 400 ≤ b3 ∧ (vp_in x3 12 ∧ ((¬ (h_i h b3 5) = x1 → AW (m_X11_countMenAt (d + 0) 0 0) 0 0 4 [(0, .ref 0), (1, .int x1), (2, .int x2), (3, .int (x3 + 1))] [] h (kI K)) ∧ ((h_i h b3 5) = x1 → AW (m_X11_countMenAt (d + 0) 0 0) 0 0 4 [(0, .ref 0), (1, .int x1), (2, .int (x2 + 1)), (3, .int (x3 + 1))] [] h (kI K)))))))) : AW (m_X11_countMenAt (d + 0) 0 0) 0 0 4 [(0, .ref 0), (1, .int x1), (2, .int x2), (3, .int x3)] [] h (kI K) := by
  refine aw_iload_n (i := 3) rfl d_X11_countMenAt_4 3 rfl ?_
  refine aw_aload_n (i := 0) rfl d_X11_countMenAt_5 0 rfl ?_
  refine aw_geti (k0 := 7) kc_11 (ws_0 w) (Nat.le_of_ble_eq_true rfl) tw_494 d_X11_countMenAt_6 rfl ?_
  refine aw_icmp_ge (tgt := 43) d_X11_countMenAt_9 rfl (fun c1 => ?_) (fun c1 => ?_)
  · have k := k.1 c1
    refine aw_iload_n (i := 2) rfl d_X11_countMenAt_43 2 rfl ?_
    exact aw_iret rfl d_X11_countMenAt_44 ⟨Nat.le_refl _, Nat.le_refl _⟩ ⟨_, rfl, k⟩
  · have k := k.2 c1
    refine aw_aload_n (i := 0) rfl d_X11_countMenAt_12 0 rfl ?_
    refine aw_getr (k0 := 6) kc_11 (ws_0 w) (Nat.le_of_ble_eq_true rfl) tw_493 d_X11_countMenAt_13 rfl (wr_0_6 w) ?_
    refine aw_iload_n (i := 3) rfl d_X11_countMenAt_16 3 rfl ?_
    obtain ⟨b2, k⟩ := k
    rcases e6 : h_r h 15 x3.toNatClampNeg with _ | b3
    · refine aw_aaldn (ws_15 w) b2 e6 d_X11_countMenAt_17 ?_
      have k := k.1 e6
      refine aw_ifnullN (tgt := 37) d_X11_countMenAt_18 rfl ?_
      refine aw_iinc (v := (x3 + 1)) [(0, .ref 0), (1, .int x1), (2, .int x2), (3, .int (x3 + 1))] d_X11_countMenAt_37 3 rfl rfl (Nat.le_of_ble_eq_true rfl) rfl rfl ?_
      refine aw_goto (tgt := 4) d_X11_countMenAt_40 rfl ?_
      exact k
    · refine aw_aaldr (ws_15 w) b2 e6 d_X11_countMenAt_17 ?_
      obtain ⟨q4, l5, k⟩ := k.2 b3 e6
      refine aw_ifnull d_X11_countMenAt_18 ?_
      refine aw_aload_n (i := 0) rfl d_X11_countMenAt_21 0 rfl ?_
      refine aw_getr (k0 := 6) kc_11 (ws_0 w) (Nat.le_of_ble_eq_true rfl) tw_493 d_X11_countMenAt_22 rfl (wr_0_6 w) ?_
      refine aw_iload_n (i := 3) rfl d_X11_countMenAt_25 3 rfl ?_
      obtain ⟨b7, k⟩ := k
      refine aw_aaldr (ws_15 w) b7 e6 d_X11_countMenAt_26 ?_
      refine aw_geti (k0 := 5) kc_2 (q4) (Nat.le_of_ble_eq_true rfl) tw_583 d_X11_countMenAt_27 rfl ?_
      refine aw_iload_n (i := 1) rfl d_X11_countMenAt_30 1 rfl ?_
      refine aw_icmp_ne (tgt := 37) d_X11_countMenAt_31 rfl (fun c12 => ?_) (fun c12 => ?_)
      · have k := k.1 c12
        refine aw_iinc (v := (x3 + 1)) [(0, .ref 0), (1, .int x1), (2, .int x2), (3, .int (x3 + 1))] d_X11_countMenAt_37 3 rfl rfl (Nat.le_of_ble_eq_true rfl) rfl rfl ?_
        refine aw_goto (tgt := 4) d_X11_countMenAt_40 rfl ?_
        exact k
      · have k := k.2 c12
        refine aw_iinc (v := (x2 + 1)) [(0, .ref 0), (1, .int x1), (2, .int (x2 + 1)), (3, .int x3)] d_X11_countMenAt_34 2 rfl rfl (Nat.le_of_ble_eq_true rfl) rfl rfl ?_
        refine aw_iinc (v := (x3 + 1)) [(0, .ref 0), (1, .int x1), (2, .int (x2 + 1)), (3, .int (x3 + 1))] d_X11_countMenAt_37 3 rfl rfl (Nat.le_of_ble_eq_true rfl) rfl rfl ?_
        refine aw_goto (tgt := 4) d_X11_countMenAt_40 rfl ?_
        exact k
theorem t_X11_countMore (d : Nat) (h : Hp_) (w : Wf h) (x1 : Int32) (K : Int32 → Hp_ → Prop) (k : (x1 = 9 → K (h_i h 18 3) h) ∧ ((x1 = 10 → K (h_i h 18 8) h) ∧ ((x1 = 11 → K (h_i h 19 2) h) ∧ ((x1 = 12 → K (h_i h 19 3) h) ∧ ((x1 = 13 → K (h_i h 20 3) h) ∧ ((x1 = 14 → K (h_i h 20 16) h) ∧ ((x1 = 15 → K (h_i h 14 5) h) ∧ ((x1 = 16 → K (h_i h 21 12) h) ∧ ((x1 = 17 → K (h_i h 21 13) h) ∧ ((x1 = 18 → K (h_i h 11 1) h) ∧ ((¬ x1 = 9 ∧ ¬ x1 = 10 ∧ ¬ x1 = 11 ∧ ¬ x1 = 12 ∧ ¬ x1 = 13 ∧ ¬ x1 = 14 ∧ ¬ x1 = 15 ∧ ¬ x1 = 16 ∧ ¬ x1 = 17 ∧ ¬ x1 = 18 → K (-1) h)))))))))))) : Ci (m_X11_countMore (d + 0) 0 0) [.ref 0, .int x1] h K := by
  refine Ct.of (fun _ _ _ => trivial) rfl (Nat.le_of_ble_eq_true rfl) ?_
  show AW (m_X11_countMore (d + 0) 0 0) 0 0 0 [(0, .ref 0), (1, .int x1)] [] h (kI K)
  refine aw_iload_n (i := 1) rfl d_X11_countMore_0 1 rfl ?_
  by_cases e1 : x1 = 9
  · refine aw_tableIn (off := 55) (tgt := 56) d_X11_countMore_1 (by rw [e1]; decide) (by rw [e1]; decide) (by rw [e1]; decide) rfl ?_
    have k := k.1 e1
    refine aw_aload_n (i := 0) rfl d_X11_countMore_56 0 rfl ?_
    refine aw_getr (k0 := 10) kc_11 (ws_0 w) (Nat.le_of_ble_eq_true rfl) tw_497 d_X11_countMore_57 rfl (wr_0_10 w) ?_
    refine aw_geti (k0 := 3) kc_1 (ws_18 w) (Nat.le_of_ble_eq_true rfl) tw_266 d_X11_countMore_60 rfl ?_
    exact aw_iret rfl d_X11_countMore_63 ⟨Nat.le_refl _, Nat.le_refl _⟩ ⟨_, rfl, k⟩
  · have k := k.2
    by_cases e2 : x1 = 10
    · refine aw_tableIn (off := 63) (tgt := 64) d_X11_countMore_1 (by rw [e2]; decide) (by rw [e2]; decide) (by rw [e2]; decide) rfl ?_
      have k := k.1 e2
      refine aw_aload_n (i := 0) rfl d_X11_countMore_64 0 rfl ?_
      refine aw_getr (k0 := 10) kc_11 (ws_0 w) (Nat.le_of_ble_eq_true rfl) tw_497 d_X11_countMore_65 rfl (wr_0_10 w) ?_
      refine aw_geti (k0 := 8) kc_1 (ws_18 w) (Nat.le_of_ble_eq_true rfl) tw_274 d_X11_countMore_68 rfl ?_
      exact aw_iret rfl d_X11_countMore_71 ⟨Nat.le_refl _, Nat.le_refl _⟩ ⟨_, rfl, k⟩
    · have k := k.2
      by_cases e3 : x1 = 11
      · refine aw_tableIn (off := 71) (tgt := 72) d_X11_countMore_1 (by rw [e3]; decide) (by rw [e3]; decide) (by rw [e3]; decide) rfl ?_
        have k := k.1 e3
        refine aw_aload_n (i := 0) rfl d_X11_countMore_72 0 rfl ?_
        refine aw_getr (k0 := 11) kc_11 (ws_0 w) (Nat.le_of_ble_eq_true rfl) tw_498 d_X11_countMore_73 rfl (wr_0_11 w) ?_
        refine aw_geti (k0 := 2) kc_3 (ws_19 w) (Nat.le_of_ble_eq_true rfl) tw_324 d_X11_countMore_76 rfl ?_
        exact aw_iret rfl d_X11_countMore_79 ⟨Nat.le_refl _, Nat.le_refl _⟩ ⟨_, rfl, k⟩
      · have k := k.2
        by_cases e4 : x1 = 12
        · refine aw_tableIn (off := 79) (tgt := 80) d_X11_countMore_1 (by rw [e4]; decide) (by rw [e4]; decide) (by rw [e4]; decide) rfl ?_
          have k := k.1 e4
          refine aw_aload_n (i := 0) rfl d_X11_countMore_80 0 rfl ?_
          refine aw_getr (k0 := 11) kc_11 (ws_0 w) (Nat.le_of_ble_eq_true rfl) tw_498 d_X11_countMore_81 rfl (wr_0_11 w) ?_
          refine aw_geti (k0 := 3) kc_3 (ws_19 w) (Nat.le_of_ble_eq_true rfl) tw_326 d_X11_countMore_84 rfl ?_
          exact aw_iret rfl d_X11_countMore_87 ⟨Nat.le_refl _, Nat.le_refl _⟩ ⟨_, rfl, k⟩
        · have k := k.2
          by_cases e5 : x1 = 13
          · refine aw_tableIn (off := 87) (tgt := 88) d_X11_countMore_1 (by rw [e5]; decide) (by rw [e5]; decide) (by rw [e5]; decide) rfl ?_
            have k := k.1 e5
            refine aw_aload_n (i := 0) rfl d_X11_countMore_88 0 rfl ?_
            refine aw_getr (k0 := 12) kc_11 (ws_0 w) (Nat.le_of_ble_eq_true rfl) tw_499 d_X11_countMore_89 rfl (wr_0_12 w) ?_
            refine aw_geti (k0 := 3) kc_6 (ws_20 w) (Nat.le_of_ble_eq_true rfl) tw_367 d_X11_countMore_92 rfl ?_
            exact aw_iret rfl d_X11_countMore_95 ⟨Nat.le_refl _, Nat.le_refl _⟩ ⟨_, rfl, k⟩
          · have k := k.2
            by_cases e6 : x1 = 14
            · refine aw_tableIn (off := 95) (tgt := 96) d_X11_countMore_1 (by rw [e6]; decide) (by rw [e6]; decide) (by rw [e6]; decide) rfl ?_
              have k := k.1 e6
              refine aw_aload_n (i := 0) rfl d_X11_countMore_96 0 rfl ?_
              refine aw_getr (k0 := 12) kc_11 (ws_0 w) (Nat.le_of_ble_eq_true rfl) tw_499 d_X11_countMore_97 rfl (wr_0_12 w) ?_
              refine aw_geti (k0 := 16) kc_6 (ws_20 w) (Nat.le_of_ble_eq_true rfl) tw_381 d_X11_countMore_100 rfl ?_
              exact aw_iret rfl d_X11_countMore_103 ⟨Nat.le_refl _, Nat.le_refl _⟩ ⟨_, rfl, k⟩
            · have k := k.2
              by_cases e7 : x1 = 15
              · refine aw_tableIn (off := 103) (tgt := 104) d_X11_countMore_1 (by rw [e7]; decide) (by rw [e7]; decide) (by rw [e7]; decide) rfl ?_
                have k := k.1 e7
                refine aw_aload_n (i := 0) rfl d_X11_countMore_104 0 rfl ?_
                refine aw_getr (k0 := 5) kc_11 (ws_0 w) (Nat.le_of_ble_eq_true rfl) tw_492 d_X11_countMore_105 rfl (wr_0_5 w) ?_
                refine aw_geti (k0 := 5) kc_10 (ws_14 w) (Nat.le_of_ble_eq_true rfl) tw_130 d_X11_countMore_108 rfl ?_
                exact aw_iret rfl d_X11_countMore_111 ⟨Nat.le_refl _, Nat.le_refl _⟩ ⟨_, rfl, k⟩
              · have k := k.2
                by_cases e8 : x1 = 16
                · refine aw_tableIn (off := 111) (tgt := 112) d_X11_countMore_1 (by rw [e8]; decide) (by rw [e8]; decide) (by rw [e8]; decide) rfl ?_
                  have k := k.1 e8
                  refine aw_aload_n (i := 0) rfl d_X11_countMore_112 0 rfl ?_
                  refine aw_getr (k0 := 13) kc_11 (ws_0 w) (Nat.le_of_ble_eq_true rfl) tw_500 d_X11_countMore_113 rfl (wr_0_13 w) ?_
                  refine aw_geti (k0 := 12) kc_5 (ws_21 w) (Nat.le_of_ble_eq_true rfl) tw_448 d_X11_countMore_116 rfl ?_
                  exact aw_iret rfl d_X11_countMore_119 ⟨Nat.le_refl _, Nat.le_refl _⟩ ⟨_, rfl, k⟩
                · have k := k.2
                  by_cases e9 : x1 = 17
                  · refine aw_tableIn (off := 119) (tgt := 120) d_X11_countMore_1 (by rw [e9]; decide) (by rw [e9]; decide) (by rw [e9]; decide) rfl ?_
                    have k := k.1 e9
                    refine aw_aload_n (i := 0) rfl d_X11_countMore_120 0 rfl ?_
                    refine aw_getr (k0 := 13) kc_11 (ws_0 w) (Nat.le_of_ble_eq_true rfl) tw_500 d_X11_countMore_121 rfl (wr_0_13 w) ?_
                    refine aw_geti (k0 := 13) kc_5 (ws_21 w) (Nat.le_of_ble_eq_true rfl) tw_450 d_X11_countMore_124 rfl ?_
                    exact aw_iret rfl d_X11_countMore_127 ⟨Nat.le_refl _, Nat.le_refl _⟩ ⟨_, rfl, k⟩
                  · have k := k.2
                    by_cases e10 : x1 = 18
                    · refine aw_tableIn (off := 127) (tgt := 128) d_X11_countMore_1 (by rw [e10]; decide) (by rw [e10]; decide) (by rw [e10]; decide) rfl ?_
                      have k := k.1 e10
                      refine aw_aload_n (i := 0) rfl d_X11_countMore_128 0 rfl ?_
                      refine aw_getr (k0 := 2) kc_11 (ws_0 w) (Nat.le_of_ble_eq_true rfl) tw_489 d_X11_countMore_129 rfl (wr_0_2 w) ?_
                      refine aw_geti (k0 := 1) kc_8 (ws_11 w) (Nat.le_of_ble_eq_true rfl) tw_61 d_X11_countMore_132 rfl ?_
                      exact aw_iret rfl d_X11_countMore_135 ⟨Nat.le_refl _, Nat.le_refl _⟩ ⟨_, rfl, k⟩
                    · have k := k.2
                      have k := k ⟨e1, e2, e3, e4, e5, e6, e7, e8, e9, e10⟩
                      have n11 := sw_ne (9) (by decide) e1
                      have n12 := sw_ne (10) (by decide) e2
                      have n13 := sw_ne (11) (by decide) e3
                      have n14 := sw_ne (12) (by decide) e4
                      have n15 := sw_ne (13) (by decide) e5
                      have n16 := sw_ne (14) (by decide) e6
                      have n17 := sw_ne (15) (by decide) e7
                      have n18 := sw_ne (16) (by decide) e8
                      have n19 := sw_ne (17) (by decide) e9
                      have n20 := sw_ne (18) (by decide) e10
                      refine aw_tableOut (tgt := 136) d_X11_countMore_1 (by omega) rfl ?_
                      refine aw_iconst (v := (-1)) d_X11_countMore_136 ic_m1 ?_
                      exact aw_iret rfl d_X11_countMore_137 ⟨Nat.le_refl _, Nat.le_refl _⟩ ⟨_, rfl, k⟩
theorem t_X0_keep (d : Nat) (h : Hp_) (w : Wf h)  (K : Int32 → Hp_ → Prop) (k : (12 ≤ (h_i h 12 3) → K (-1) h) ∧ (¬ 12 ≤ (h_i h 12 3) → ((h_i h 11 7) = 0 → AW (m_X0_keep (d + 1) 0 0) 0 0 22 [(0, .ref 12), (1, .ref 11), (2, .int 0), (3, .int 0)] [] h (kI K)) ∧ (¬ (h_i h 11 7) = 0 → K (-1) h))) : Ci (m_X0_keep (d + 1) 0 0) [.ref 12, .ref 11] h K := by
  refine Ct.of (fun _ _ _ => trivial) rfl (Nat.le_of_ble_eq_true rfl) ?_
  show AW (m_X0_keep (d + 1) 0 0) 0 0 0 [(0, .ref 12), (1, .ref 11)] [] h (kI K)
  refine aw_aload_n (i := 0) rfl d_X0_keep_0 0 rfl ?_
  refine aw_geti (k0 := 3) kc_0 (ws_12 w) (Nat.le_of_ble_eq_true rfl) tw_106 d_X0_keep_1 rfl ?_
  refine aw_bipush (v := 12) d_X0_keep_4 ib_12 ?_
  refine aw_icmp_ge (tgt := 16) d_X0_keep_6 rfl (fun c1 => ?_) (fun c1 => ?_)
  · have k := k.1 c1
    refine aw_iconst (v := (-1)) d_X0_keep_16 ic_m1 ?_
    exact aw_iret rfl d_X0_keep_17 ⟨Nat.le_refl _, Nat.le_refl _⟩ ⟨_, rfl, k⟩
  · have k := k.2 c1
    refine aw_aload_n (i := 1) rfl d_X0_keep_9 1 rfl ?_
    refine aw_geti (k0 := 7) kc_8 (ws_11 w) (Nat.le_of_ble_eq_true rfl) tw_69 d_X0_keep_10 rfl ?_
    refine aw_if_eq (tgt := 18) d_X0_keep_13 rfl (fun c2 => ?_) (fun c2 => ?_)
    · have k := k.1 c2
      refine aw_iconst (v := 0) d_X0_keep_18 ic_0 ?_
      refine aw_istore_n (i := 2) rfl [(0, .ref 12), (1, .ref 11), (2, .int 0)] d_X0_keep_19 (Nat.le_of_ble_eq_true rfl) rfl rfl ?_
      refine aw_iconst (v := 0) d_X0_keep_20 ic_0 ?_
      refine aw_istore_n (i := 3) rfl [(0, .ref 12), (1, .ref 11), (2, .int 0), (3, .int 0)] d_X0_keep_21 (Nat.le_of_ble_eq_true rfl) rfl rfl ?_
      exact k
    · have k := k.2 c2
      refine aw_iconst (v := (-1)) d_X0_keep_16 ic_m1 ?_
      exact aw_iret rfl d_X0_keep_17 ⟨Nat.le_refl _, Nat.le_refl _⟩ ⟨_, rfl, k⟩
theorem t_X0_keep_22 (d : Nat) (h : Hp_) (w : Wf h) (x2 : Int32) (x3 : Int32) (K : Int32 → Hp_ → Prop) (k : ((h_i h 11 6) ≤ x3 → vp_in (h_i h 12 3) 12 ∧ (vp_in (h_i h 12 3) 12 ∧ (K (((h_i h 12 3) + 1) - 1) (h_im (h_im (h_im h 35 ((h_i h 12 3) : Int32).toNatClampNeg (h_i h 11 6)) 36 ((h_i h 12 3) : Int32).toNatClampNeg x2) 12 3 ((h_i h 12 3) + 1))))) ∧ (¬ (h_i h 11 6) ≤ x3 → vp_in x3 150 ∧ (vp_in (((h_i h 12 3) * 150) + x3) 1800 ∧ (vp_in x3 150 ∧ (Ci (m_X0_kindOf (d + 0) 0 0) [.int (h_i h 32 x3.toNatClampNeg)] (h_im h 34 ((((h_i h 12 3) * 150) + x3) : Int32).toNatClampNeg (h_i h 32 x3.toNatClampNeg)) (fun r11 h9 => Wf h9 ∧ ((¬ r11 = 2 → AW (m_X0_keep (d + 1) 0 0) 0 0 22 [(0, .ref 12), (1, .ref 11), (2, .int x2), (3, .int (x3 + 1))] [] h9 (kI K)) ∧ (r11 = 2 → AW (m_X0_keep (d + 1) 0 0) 0 0 22 [(0, .ref 12), (1, .ref 11), (2, .int (x2 + 1)), (3, .int (x3 + 1))] [] h9 (kI K))))))))) : AW (m_X0_keep (d + 1) 0 0) 0 0 22 [(0, .ref 12), (1, .ref 11), (2, .int x2), (3, .int x3)] [] h (kI K) := by
  refine aw_iload_n (i := 3) rfl d_X0_keep_22 3 rfl ?_
  refine aw_aload_n (i := 1) rfl d_X0_keep_23 1 rfl ?_
  refine aw_geti (k0 := 6) kc_8 (ws_11 w) (Nat.le_of_ble_eq_true rfl) tw_67 d_X0_keep_24 rfl ?_
  refine aw_icmp_ge (tgt := 73) d_X0_keep_27 rfl (fun c3 => ?_) (fun c3 => ?_)
  · have k := k.1 c3
    refine aw_aload_n (i := 0) rfl d_X0_keep_73 0 rfl ?_
    refine aw_getr (k0 := 1) kc_0 (ws_12 w) (Nat.le_of_ble_eq_true rfl) tw_104 d_X0_keep_74 rfl (wr_12_1 w) ?_
    refine aw_aload_n (i := 0) rfl d_X0_keep_77 0 rfl ?_
    refine aw_geti (k0 := 3) kc_0 (ws_12 w) (Nat.le_of_ble_eq_true rfl) tw_106 d_X0_keep_78 rfl ?_
    refine aw_aload_n (i := 1) rfl d_X0_keep_81 1 rfl ?_
    refine aw_geti (k0 := 6) kc_8 (ws_11 w) (Nat.le_of_ble_eq_true rfl) tw_67 d_X0_keep_82 rfl ?_
    obtain ⟨b4, k⟩ := k
    refine aw_iast (ws_35 w) b4 d_X0_keep_85 ?_
    refine aw_aload_n (i := 0) rfl d_X0_keep_86 0 rfl ?_
    refine aw_getr (k0 := 2) kc_0 (ws_12 w) (Nat.le_of_ble_eq_true rfl) tw_105 d_X0_keep_87 rfl (wr_12_2 w) ?_
    refine aw_aload_n (i := 0) rfl d_X0_keep_90 0 rfl ?_
    refine aw_geti (k0 := 3) kc_0 (ws_12 w) (Nat.le_of_ble_eq_true rfl) tw_106 d_X0_keep_91 rfl ?_
    refine aw_vi (v2 := (h_i h 12 3)) (rfl) ?_
    refine aw_iload_n (i := 2) rfl d_X0_keep_94 2 rfl ?_
    obtain ⟨b5, k⟩ := k
    refine aw_iast (ws_36 w) b5 d_X0_keep_95 ?_
    refine aw_aload_n (i := 0) rfl d_X0_keep_96 0 rfl ?_
    refine aw_dup d_X0_keep_97 rfl ?_
    refine aw_geti (k0 := 3) kc_0 (ws_12 w) (Nat.le_of_ble_eq_true rfl) tw_106 d_X0_keep_98 rfl ?_
    refine aw_vi (v2 := (h_i h 12 3)) (rfl) ?_
    refine aw_iconst (v := 1) d_X0_keep_101 ic_1 ?_
    refine aw_iadd d_X0_keep_102 ?_
    refine aw_puti (k0 := 3) kc_0 (ws_12 w) (Nat.le_of_ble_eq_true rfl) tw_106 d_X0_keep_103 rfl rfl nf_i ?_
    refine aw_aload_n (i := 0) rfl d_X0_keep_106 0 rfl ?_
    refine aw_geti (k0 := 3) kc_0 (ws_12 w) (Nat.le_of_ble_eq_true rfl) tw_106 d_X0_keep_107 rfl ?_
    refine aw_vi (v2 := ((h_i h 12 3) + 1)) (rfl) ?_
    refine aw_iconst (v := 1) d_X0_keep_110 ic_1 ?_
    refine aw_isub d_X0_keep_111 ?_
    exact aw_iret rfl d_X0_keep_112 ⟨Nat.le_refl _, Nat.le_refl _⟩ ⟨_, rfl, k⟩
  · have k := k.2 c3
    refine aw_aload_n (i := 0) rfl d_X0_keep_30 0 rfl ?_
    refine aw_getr (k0 := 0) kc_0 (ws_12 w) (Nat.le_of_ble_eq_true rfl) tw_103 d_X0_keep_31 rfl (wr_12_0 w) ?_
    refine aw_aload_n (i := 0) rfl d_X0_keep_34 0 rfl ?_
    refine aw_geti (k0 := 3) kc_0 (ws_12 w) (Nat.le_of_ble_eq_true rfl) tw_106 d_X0_keep_35 rfl ?_
    refine aw_sipush (v := 150) d_X0_keep_38 is_150 ?_
    refine aw_imul d_X0_keep_41 ?_
    refine aw_iload_n (i := 3) rfl d_X0_keep_42 3 rfl ?_
    refine aw_iadd d_X0_keep_43 ?_
    refine aw_aload_n (i := 1) rfl d_X0_keep_44 1 rfl ?_
    refine aw_getr (k0 := 5) kc_8 (ws_11 w) (Nat.le_of_ble_eq_true rfl) tw_66 d_X0_keep_45 rfl (wr_11_5 w) ?_
    refine aw_iload_n (i := 3) rfl d_X0_keep_48 3 rfl ?_
    obtain ⟨b6, k⟩ := k
    refine aw_iald (ws_32 w) b6 d_X0_keep_49 ?_
    obtain ⟨b7, k⟩ := k
    refine aw_iast (ws_34 w) b7 d_X0_keep_50 ?_
    refine aw_aload_n (i := 1) rfl d_X0_keep_51 1 rfl ?_
    refine aw_getr (k0 := 5) kc_8 (ws_11 w) (Nat.le_of_ble_eq_true rfl) tw_66 d_X0_keep_52 rfl (wr_11_5 w) ?_
    refine aw_iload_n (i := 3) rfl d_X0_keep_55 3 rfl ?_
    obtain ⟨b8, k⟩ := k
    refine aw_iald (ws_32 w) b8 d_X0_keep_56 ?_
    refine aw_vi (v2 := (h_i h 32 x3.toNatClampNeg)) (rfl) ?_
    refine aw_Si [.int (h_i h 32 x3.toNatClampNeg)] [] d_X0_keep_57 (cS_X0_kindOf (d + 0) 0 0) tw_880 rfl (rr0 (Nat.le_of_ble_eq_true rfl) (Nat.le_of_ble_eq_true rfl)) (Nat.le_of_ble_eq_true rfl) xs0 k (fun r11 h9 kk => ?_)
    obtain ⟨w10, k⟩ := kk
    refine aw_iconst (v := 2) d_X0_keep_60 ic_2 ?_
    refine aw_icmp_ne (tgt := 67) d_X0_keep_61 rfl (fun c12 => ?_) (fun c12 => ?_)
    · have k := k.1 c12
      refine aw_iinc (v := (x3 + 1)) [(0, .ref 12), (1, .ref 11), (2, .int x2), (3, .int (x3 + 1))] d_X0_keep_67 3 rfl rfl (Nat.le_of_ble_eq_true rfl) rfl rfl ?_
      refine aw_goto (tgt := 22) d_X0_keep_70 rfl ?_
      exact k
    · have k := k.2 c12
      refine aw_iinc (v := (x2 + 1)) [(0, .ref 12), (1, .ref 11), (2, .int (x2 + 1)), (3, .int x3)] d_X0_keep_64 2 rfl rfl (Nat.le_of_ble_eq_true rfl) rfl rfl ?_
      refine aw_iinc (v := (x3 + 1)) [(0, .ref 12), (1, .ref 11), (2, .int (x2 + 1)), (3, .int (x3 + 1))] d_X0_keep_67 3 rfl rfl (Nat.le_of_ble_eq_true rfl) rfl rfl ?_
      refine aw_goto (tgt := 22) d_X0_keep_70 rfl ?_
      exact k
theorem t_X0_stepsOf (d : Nat) (h : Hp_) (w : Wf h) (x1 : Int32) (K : Int32 → Hp_ → Prop) (k : Ci (m_X0_has (d + 0) 0 0) [.ref 12, .int x1] h (fun r3 h1 => Wf h1 ∧ ((r3 = 0 → K 0 h1) ∧ (¬ r3 = 0 → vp_in x1 12 ∧ (K (h_i h1 35 x1.toNatClampNeg) h1))))) : Ci (m_X0_stepsOf (d + 1) 0 0) [.ref 12, .int x1] h K := by
  refine Ct.of (fun _ _ _ => trivial) rfl (Nat.le_of_ble_eq_true rfl) ?_
  show AW (m_X0_stepsOf (d + 1) 0 0) 0 0 0 [(0, .ref 12), (1, .int x1)] [] h (kI K)
  refine aw_aload_n (i := 0) rfl d_X0_stepsOf_0 0 rfl ?_
  refine aw_iload_n (i := 1) rfl d_X0_stepsOf_1 1 rfl ?_
  refine aw_Vi 12 [.int x1] [] d_X0_stepsOf_2 (cV_X0_has (d + 0) 0 0) kc_0 (ws_12 w) tw_895 rfl (rr0 (Nat.le_of_ble_eq_true rfl) (Nat.le_of_ble_eq_true rfl)) (Nat.le_of_ble_eq_true rfl) xs0 k (fun r3 h1 kk => ?_)
  obtain ⟨w2, k⟩ := kk
  refine aw_if_eq (tgt := 17) d_X0_stepsOf_5 rfl (fun c4 => ?_) (fun c4 => ?_)
  · have k := k.1 c4
    refine aw_iconst (v := 0) d_X0_stepsOf_17 ic_0 ?_
    exact aw_iret rfl d_X0_stepsOf_18 ⟨Nat.le_refl _, Nat.le_refl _⟩ ⟨_, rfl, k⟩
  · have k := k.2 c4
    refine aw_aload_n (i := 0) rfl d_X0_stepsOf_8 0 rfl ?_
    refine aw_getr (k0 := 1) kc_0 (ws_12 w2) (Nat.le_of_ble_eq_true rfl) tw_104 d_X0_stepsOf_9 rfl (wr_12_1 w2) ?_
    refine aw_iload_n (i := 1) rfl d_X0_stepsOf_12 1 rfl ?_
    obtain ⟨b5, k⟩ := k
    refine aw_iald (ws_35 w2) b5 d_X0_stepsOf_13 ?_
    refine aw_goto (tgt := 18) d_X0_stepsOf_14 rfl ?_
    exact aw_iret rfl d_X0_stepsOf_18 ⟨Nat.le_refl _, Nat.le_refl _⟩ ⟨_, rfl, k⟩
theorem t_X0_pointsOf (d : Nat) (h : Hp_) (w : Wf h) (x1 : Int32) (K : Int32 → Hp_ → Prop) (k : Ci (m_X0_has (d + 0) 0 0) [.ref 12, .int x1] h (fun r3 h1 => Wf h1 ∧ ((r3 = 0 → K 0 h1) ∧ (¬ r3 = 0 → vp_in x1 12 ∧ (K (h_i h1 36 x1.toNatClampNeg) h1))))) : Ci (m_X0_pointsOf (d + 1) 0 0) [.ref 12, .int x1] h K := by
  refine Ct.of (fun _ _ _ => trivial) rfl (Nat.le_of_ble_eq_true rfl) ?_
  show AW (m_X0_pointsOf (d + 1) 0 0) 0 0 0 [(0, .ref 12), (1, .int x1)] [] h (kI K)
  refine aw_aload_n (i := 0) rfl d_X0_pointsOf_0 0 rfl ?_
  refine aw_iload_n (i := 1) rfl d_X0_pointsOf_1 1 rfl ?_
  refine aw_Vi 12 [.int x1] [] d_X0_pointsOf_2 (cV_X0_has (d + 0) 0 0) kc_0 (ws_12 w) tw_895 rfl (rr0 (Nat.le_of_ble_eq_true rfl) (Nat.le_of_ble_eq_true rfl)) (Nat.le_of_ble_eq_true rfl) xs0 k (fun r3 h1 kk => ?_)
  obtain ⟨w2, k⟩ := kk
  refine aw_if_eq (tgt := 17) d_X0_pointsOf_5 rfl (fun c4 => ?_) (fun c4 => ?_)
  · have k := k.1 c4
    refine aw_iconst (v := 0) d_X0_pointsOf_17 ic_0 ?_
    exact aw_iret rfl d_X0_pointsOf_18 ⟨Nat.le_refl _, Nat.le_refl _⟩ ⟨_, rfl, k⟩
  · have k := k.2 c4
    refine aw_aload_n (i := 0) rfl d_X0_pointsOf_8 0 rfl ?_
    refine aw_getr (k0 := 2) kc_0 (ws_12 w2) (Nat.le_of_ble_eq_true rfl) tw_105 d_X0_pointsOf_9 rfl (wr_12_2 w2) ?_
    refine aw_iload_n (i := 1) rfl d_X0_pointsOf_12 1 rfl ?_
    obtain ⟨b5, k⟩ := k
    refine aw_iald (ws_36 w2) b5 d_X0_pointsOf_13 ?_
    refine aw_goto (tgt := 18) d_X0_pointsOf_14 rfl ?_
    exact aw_iret rfl d_X0_pointsOf_18 ⟨Nat.le_refl _, Nat.le_refl _⟩ ⟨_, rfl, k⟩
theorem t_X1_wasOpen (d : Nat) (h : Hp_) (w : Wf h) (x1 : Int32) (x2 : Int32) (K : Int32 → Hp_ → Prop) (k : Ci (m_X1_has (d + 0) 0 0) [.ref 18, .int x1] h (fun r3 h1 => Wf h1 ∧ ((r3 = 0 → K 0 h1) ∧ (¬ r3 = 0 → vp_in x1 30 ∧ ((x2 < (h_i h1 72 x1.toNatClampNeg) → K 0 h1) ∧ (¬ x2 < (h_i h1 72 x1.toNatClampNeg) → K 1 h1)))))) : Ci (m_X1_wasOpen (d + 1) 0 0) [.ref 18, .int x1, .int x2] h K := by
  refine Ct.of (fun _ _ _ => trivial) rfl (Nat.le_of_ble_eq_true rfl) ?_
  show AW (m_X1_wasOpen (d + 1) 0 0) 0 0 0 [(0, .ref 18), (1, .int x1), (2, .int x2)] [] h (kI K)
  refine aw_aload_n (i := 0) rfl d_X1_wasOpen_0 0 rfl ?_
  refine aw_iload_n (i := 1) rfl d_X1_wasOpen_1 1 rfl ?_
  refine aw_Vi 18 [.int x1] [] d_X1_wasOpen_2 (cV_X1_has (d + 0) 0 0) kc_1 (ws_18 w) tw_1256 rfl (rr0 (Nat.le_of_ble_eq_true rfl) (Nat.le_of_ble_eq_true rfl)) (Nat.le_of_ble_eq_true rfl) xs0 k (fun r3 h1 kk => ?_)
  obtain ⟨w2, k⟩ := kk
  refine aw_if_eq (tgt := 22) d_X1_wasOpen_5 rfl (fun c4 => ?_) (fun c4 => ?_)
  · have k := k.1 c4
    refine aw_iconst (v := 0) d_X1_wasOpen_22 ic_0 ?_
    exact aw_zret rfl rfl d_X1_wasOpen_23 ⟨Nat.le_refl _, Nat.le_refl _⟩ ⟨_, rfl, k⟩
  · have k := k.2 c4
    refine aw_aload_n (i := 0) rfl d_X1_wasOpen_8 0 rfl ?_
    refine aw_getr (k0 := 1) kc_1 (ws_18 w2) (Nat.le_of_ble_eq_true rfl) tw_263 d_X1_wasOpen_9 rfl (wr_18_1 w2) ?_
    refine aw_iload_n (i := 1) rfl d_X1_wasOpen_12 1 rfl ?_
    obtain ⟨b5, k⟩ := k
    refine aw_iald (ws_72 w2) b5 d_X1_wasOpen_13 ?_
    refine aw_iload_n (i := 2) rfl d_X1_wasOpen_14 2 rfl ?_
    refine aw_icmp_gt (tgt := 22) d_X1_wasOpen_15 rfl (fun c6 => ?_) (fun c6 => ?_)
    · have k := k.1 c6
      refine aw_iconst (v := 0) d_X1_wasOpen_22 ic_0 ?_
      exact aw_zret rfl rfl d_X1_wasOpen_23 ⟨Nat.le_refl _, Nat.le_refl _⟩ ⟨_, rfl, k⟩
    · have k := k.2 c6
      refine aw_iconst (v := 1) d_X1_wasOpen_18 ic_1 ?_
      refine aw_goto (tgt := 23) d_X1_wasOpen_19 rfl ?_
      exact aw_zret rfl rfl d_X1_wasOpen_23 ⟨Nat.le_refl _, Nat.le_refl _⟩ ⟨_, rfl, k⟩
theorem t_X1_addStatement (d : Nat) (h : Hp_) (w : Wf h) (x1 : Int32) (x2 : Int32) (x3 : Int32) (x4 : Int32) (x5 : Int32) (K : Int32 → Hp_ → Prop) (k : (200 ≤ (h_i h 18 8) → K (-1) h) ∧ (¬ 200 ≤ (h_i h 18 8) → (¬ (0 ≤ x3 ∧ x3 ≤ 15) → K (-1) h) ∧ ((0 ≤ x3 ∧ x3 ≤ 15) → vp_in x3 16 ∧ (((h_i h 78 x3.toNatClampNeg) = (-1) → (x4 = 0 → vp_in (h_i h 18 8) 200 ∧ (vp_in (h_i h 18 8) 200 ∧ (K (((h_i h 18 8) + 1) - 1) (h_im (h_im (h_im h 76 ((h_i h 18 8) : Int32).toNatClampNeg ((((x1 <<< ((8 : Int32) &&& 31)) ||| (x2 <<< ((5 : Int32) &&& 31))) ||| (x3 <<< ((1 : Int32) &&& 31))) ||| 0)) 77 ((h_i h 18 8) : Int32).toNatClampNeg x5) 18 8 ((h_i h 18 8) + 1))))) ∧ (¬ x4 = 0 → vp_in (h_i h 18 8) 200 ∧ (vp_in (h_i h 18 8) 200 ∧ (K (((h_i h 18 8) + 1) - 1) (h_im (h_im (h_im h 76 ((h_i h 18 8) : Int32).toNatClampNeg ((((x1 <<< ((8 : Int32) &&& 31)) ||| (x2 <<< ((5 : Int32) &&& 31))) ||| (x3 <<< ((1 : Int32) &&& 31))) ||| 1)) 77 ((h_i h 18 8) : Int32).toNatClampNeg x5) 18 8 ((h_i h 18 8) + 1)))))) ∧ (¬ (h_i h 78 x3.toNatClampNeg) = (-1) → K (-1) h))))) : Ci (m_X1_addStatement (d + 1) 0 0) [.ref 18, .int x1, .int x2, .int x3, .int x4, .int x5] h K := by
  refine Ct.of (fun _ _ _ => trivial) rfl (Nat.le_of_ble_eq_true rfl) ?_
  show AW (m_X1_addStatement (d + 1) 0 0) 0 0 0 [(0, .ref 18), (1, .int x1), (2, .int x2), (3, .int x3), (4, .int x4), (5, .int x5)] [] h (kI K)
  refine aw_aload_n (i := 0) rfl d_X1_addStatement_0 0 rfl ?_
  refine aw_geti (k0 := 8) kc_1 (ws_18 w) (Nat.le_of_ble_eq_true rfl) tw_273 d_X1_addStatement_1 rfl ?_
  refine aw_sipush (v := 200) d_X1_addStatement_4 is_200 ?_
  refine aw_icmp_ge (tgt := 30) d_X1_addStatement_7 rfl (fun c1 => ?_) (fun c1 => ?_)
  · have k := k.1 c1
    refine aw_iconst (v := (-1)) d_X1_addStatement_30 ic_m1 ?_
    exact aw_iret rfl d_X1_addStatement_31 ⟨Nat.le_refl _, Nat.le_refl _⟩ ⟨_, rfl, k⟩
  · have k := k.2 c1
    refine aw_iload_n (i := 3) rfl d_X1_addStatement_10 3 rfl ?_
    refine aw_iconst (v := 0) d_X1_addStatement_11 ic_0 ?_
    refine aw_bipush (v := 15) d_X1_addStatement_12 ib_15 ?_
    refine aw_SNi [.int x3, .int 0, .int 15] [] d_X1_addStatement_14 (cS_X11_within (d + 0) 0 0) (List.mem_of_getElem? (i := 12) rfl) rfl (rr0 (Nat.le_of_ble_eq_true rfl) (Nat.le_of_ble_eq_true rfl)) (Nat.le_of_ble_eq_true rfl) xs0 (s_X11_within _ _ x3 0 15) (fun _ _ kk => ?_)
    obtain ⟨e2, e3⟩ := kk
    rw [e2, e3]
    refine aw_ifb_eq (tgt := 30) d_X1_addStatement_17 rfl (fun c4 => ?_) (fun c4 => ?_)
    · have k := k.1 c4
      refine aw_iconst (v := (-1)) d_X1_addStatement_30 ic_m1 ?_
      exact aw_iret rfl d_X1_addStatement_31 ⟨Nat.le_refl _, Nat.le_refl _⟩ ⟨_, rfl, k⟩
    · have k := k.2 c4
      refine aw_aload_n (i := 0) rfl d_X1_addStatement_20 0 rfl ?_
      refine aw_getr (k0 := 9) kc_1 (ws_18 w) (Nat.le_of_ble_eq_true rfl) tw_275 d_X1_addStatement_21 rfl (wr_18_9 w) ?_
      refine aw_iload_n (i := 3) rfl d_X1_addStatement_24 3 rfl ?_
      obtain ⟨b5, k⟩ := k
      refine aw_iald (ws_78 w) b5 d_X1_addStatement_25 ?_
      refine aw_iconst (v := (-1)) d_X1_addStatement_26 ic_m1 ?_
      refine aw_icmp_eq (tgt := 32) d_X1_addStatement_27 rfl (fun c6 => ?_) (fun c6 => ?_)
      · have k := k.1 c6
        refine aw_aload_n (i := 0) rfl d_X1_addStatement_32 0 rfl ?_
        refine aw_getr (k0 := 6) kc_1 (ws_18 w) (Nat.le_of_ble_eq_true rfl) tw_271 d_X1_addStatement_33 rfl (wr_18_6 w) ?_
        refine aw_aload_n (i := 0) rfl d_X1_addStatement_36 0 rfl ?_
        refine aw_geti (k0 := 8) kc_1 (ws_18 w) (Nat.le_of_ble_eq_true rfl) tw_273 d_X1_addStatement_37 rfl ?_
        refine aw_iload_n (i := 1) rfl d_X1_addStatement_40 1 rfl ?_
        refine aw_bipush (v := 8) d_X1_addStatement_41 ib_8 ?_
        refine aw_ishl d_X1_addStatement_43 ?_
        refine aw_iload_n (i := 2) rfl d_X1_addStatement_44 2 rfl ?_
        refine aw_iconst (v := 5) d_X1_addStatement_45 ic_5 ?_
        refine aw_ishl d_X1_addStatement_46 ?_
        refine aw_ior d_X1_addStatement_47 ?_
        refine aw_iload_n (i := 3) rfl d_X1_addStatement_48 3 rfl ?_
        refine aw_iconst (v := 1) d_X1_addStatement_49 ic_1 ?_
        refine aw_ishl d_X1_addStatement_50 ?_
        refine aw_ior d_X1_addStatement_51 ?_
        refine aw_iload d_X1_addStatement_52 4 rfl ?_
        refine aw_if_eq (tgt := 61) d_X1_addStatement_54 rfl (fun c7 => ?_) (fun c7 => ?_)
        · have k := k.1 c7
          refine aw_iconst (v := 0) d_X1_addStatement_61 ic_0 ?_
          refine aw_ior d_X1_addStatement_62 ?_
          obtain ⟨b8, k⟩ := k
          refine aw_iast (ws_76 w) b8 d_X1_addStatement_63 ?_
          refine aw_aload_n (i := 0) rfl d_X1_addStatement_64 0 rfl ?_
          refine aw_getr (k0 := 7) kc_1 (ws_18 w) (Nat.le_of_ble_eq_true rfl) tw_272 d_X1_addStatement_65 rfl (wr_18_7 w) ?_
          refine aw_aload_n (i := 0) rfl d_X1_addStatement_68 0 rfl ?_
          refine aw_geti (k0 := 8) kc_1 (ws_18 w) (Nat.le_of_ble_eq_true rfl) tw_273 d_X1_addStatement_69 rfl ?_
          refine aw_vi (v2 := (h_i h 18 8)) (rfl) ?_
          refine aw_iload d_X1_addStatement_72 5 rfl ?_
          obtain ⟨b9, k⟩ := k
          refine aw_iast (ws_77 w) b9 d_X1_addStatement_74 ?_
          refine aw_aload_n (i := 0) rfl d_X1_addStatement_75 0 rfl ?_
          refine aw_dup d_X1_addStatement_76 rfl ?_
          refine aw_geti (k0 := 8) kc_1 (ws_18 w) (Nat.le_of_ble_eq_true rfl) tw_273 d_X1_addStatement_77 rfl ?_
          refine aw_vi (v2 := (h_i h 18 8)) (rfl) ?_
          refine aw_iconst (v := 1) d_X1_addStatement_80 ic_1 ?_
          refine aw_iadd d_X1_addStatement_81 ?_
          refine aw_puti (k0 := 8) kc_1 (ws_18 w) (Nat.le_of_ble_eq_true rfl) tw_273 d_X1_addStatement_82 rfl rfl nf_i ?_
          refine aw_aload_n (i := 0) rfl d_X1_addStatement_85 0 rfl ?_
          refine aw_geti (k0 := 8) kc_1 (ws_18 w) (Nat.le_of_ble_eq_true rfl) tw_273 d_X1_addStatement_86 rfl ?_
          refine aw_vi (v2 := ((h_i h 18 8) + 1)) (rfl) ?_
          refine aw_iconst (v := 1) d_X1_addStatement_89 ic_1 ?_
          refine aw_isub d_X1_addStatement_90 ?_
          exact aw_iret rfl d_X1_addStatement_91 ⟨Nat.le_refl _, Nat.le_refl _⟩ ⟨_, rfl, k⟩
        · have k := k.2 c7
          refine aw_iconst (v := 1) d_X1_addStatement_57 ic_1 ?_
          refine aw_goto (tgt := 62) d_X1_addStatement_58 rfl ?_
          refine aw_ior d_X1_addStatement_62 ?_
          obtain ⟨b10, k⟩ := k
          refine aw_iast (ws_76 w) b10 d_X1_addStatement_63 ?_
          refine aw_aload_n (i := 0) rfl d_X1_addStatement_64 0 rfl ?_
          refine aw_getr (k0 := 7) kc_1 (ws_18 w) (Nat.le_of_ble_eq_true rfl) tw_272 d_X1_addStatement_65 rfl (wr_18_7 w) ?_
          refine aw_aload_n (i := 0) rfl d_X1_addStatement_68 0 rfl ?_
          refine aw_geti (k0 := 8) kc_1 (ws_18 w) (Nat.le_of_ble_eq_true rfl) tw_273 d_X1_addStatement_69 rfl ?_
          refine aw_vi (v2 := (h_i h 18 8)) (rfl) ?_
          refine aw_iload d_X1_addStatement_72 5 rfl ?_
          obtain ⟨b11, k⟩ := k
          refine aw_iast (ws_77 w) b11 d_X1_addStatement_74 ?_
          refine aw_aload_n (i := 0) rfl d_X1_addStatement_75 0 rfl ?_
          refine aw_dup d_X1_addStatement_76 rfl ?_
          refine aw_geti (k0 := 8) kc_1 (ws_18 w) (Nat.le_of_ble_eq_true rfl) tw_273 d_X1_addStatement_77 rfl ?_
          refine aw_vi (v2 := (h_i h 18 8)) (rfl) ?_
          refine aw_iconst (v := 1) d_X1_addStatement_80 ic_1 ?_
          refine aw_iadd d_X1_addStatement_81 ?_
          refine aw_puti (k0 := 8) kc_1 (ws_18 w) (Nat.le_of_ble_eq_true rfl) tw_273 d_X1_addStatement_82 rfl rfl nf_i ?_
          refine aw_aload_n (i := 0) rfl d_X1_addStatement_85 0 rfl ?_
          refine aw_geti (k0 := 8) kc_1 (ws_18 w) (Nat.le_of_ble_eq_true rfl) tw_273 d_X1_addStatement_86 rfl ?_
          refine aw_vi (v2 := ((h_i h 18 8) + 1)) (rfl) ?_
          refine aw_iconst (v := 1) d_X1_addStatement_89 ic_1 ?_
          refine aw_isub d_X1_addStatement_90 ?_
          exact aw_iret rfl d_X1_addStatement_91 ⟨Nat.le_refl _, Nat.le_refl _⟩ ⟨_, rfl, k⟩
      · have k := k.2 c6
        refine aw_iconst (v := (-1)) d_X1_addStatement_30 ic_m1 ?_
        exact aw_iret rfl d_X1_addStatement_31 ⟨Nat.le_refl _, Nat.le_refl _⟩ ⟨_, rfl, k⟩
theorem t_X1_weigh (d : Nat) (h : Hp_) (w : Wf h) (x1 : Int32) (x2 : Int32) (K : Hp_ → Prop) (k : Cv (m_J7_fill_53178 (d + 0) 0 0) [.ref 82, .int 0] h (fun h1 => Wf h1 ∧ (Cv (m_J7_fill_53178 (d + 0) 0 0) [.ref 83, .int 0] h1 (fun h4 => Wf h4 ∧ (AW (m_X1_weigh (d + 1) 0 0) 0 0 18 [(0, .ref 18), (1, .int x1), (2, .int x2), (3, .int 0)] [] h4 (kV K)))))) : Cv (m_X1_weigh (d + 1) 0 0) [.ref 18, .int x1, .int x2] h K := by
  refine Ct.of (fun _ _ _ => trivial) rfl (Nat.le_of_ble_eq_true rfl) ?_
  show AW (m_X1_weigh (d + 1) 0 0) 0 0 0 [(0, .ref 18), (1, .int x1), (2, .int x2)] [] h (kV K)
  refine aw_aload_n (i := 0) rfl d_X1_weigh_0 0 rfl ?_
  refine aw_getr (k0 := 13) kc_1 (ws_18 w) (Nat.le_of_ble_eq_true rfl) tw_279 d_X1_weigh_1 rfl (wr_18_13 w) ?_
  refine aw_iconst (v := 0) d_X1_weigh_4 ic_0 ?_
  refine aw_Sv [.ref 82, .int 0] [] d_X1_weigh_5 (cS_J7_fill_53178 (d + 0) 0 0) tw_259 rfl (rr0 (Nat.le_of_ble_eq_true rfl) (Nat.le_of_ble_eq_true rfl)) (Nat.le_of_ble_eq_true rfl) xs0 k (fun h1 kk => ?_)
  obtain ⟨w2, k⟩ := kk
  refine aw_aload_n (i := 0) rfl d_X1_weigh_8 0 rfl ?_
  refine aw_getr (k0 := 14) kc_1 (ws_18 w2) (Nat.le_of_ble_eq_true rfl) tw_280 d_X1_weigh_9 rfl (wr_18_14 w2) ?_
  refine aw_iconst (v := 0) d_X1_weigh_12 ic_0 ?_
  refine aw_Sv [.ref 83, .int 0] [] d_X1_weigh_13 (cS_J7_fill_53178 (d + 0) 0 0) tw_259 rfl (rr0 (Nat.le_of_ble_eq_true rfl) (Nat.le_of_ble_eq_true rfl)) (Nat.le_of_ble_eq_true rfl) xs0 k (fun h4 kk => ?_)
  obtain ⟨w5, k⟩ := kk
  refine aw_iconst (v := 0) d_X1_weigh_16 ic_0 ?_
  refine aw_istore_n (i := 3) rfl [(0, .ref 18), (1, .int x1), (2, .int x2), (3, .int 0)] d_X1_weigh_17 (Nat.le_of_ble_eq_true rfl) rfl rfl ?_
  exact k
theorem t_X1_weigh_18 (d : Nat) (h : Hp_) (w : Wf h) (x1 : Int32) (x2 : Int32) (x3 : Int32) (K : Hp_ → Prop) (k : ((h_i h 18 8) ≤ x3 → Ci (m_X1_stillHeard (d + 0) 0 0) [.ref 18, .int x2] h (fun r10 h8 => Wf h8 ∧ (AW (m_X1_weigh (d + 1) 0 0) 0 0 185 [(0, .ref 18), (3, .int r10), (4, .int 0)] [] h8 (kV K)))) ∧ (¬ (h_i h 18 8) ≤ x3 → vp_in x3 200 ∧ ((¬ ((h_i h 76 x3.toNatClampNeg) >>> ((8 : Int32) &&& 31)) = x1 → AW (m_X1_weigh (d + 1) 0 0) 0 0 18 [(0, .ref 18), (1, .int x1), (2, .int x2), (3, .int (x3 + 1))] [] h (kV K)) ∧ (((h_i h 76 x3.toNatClampNeg) >>> ((8 : Int32) &&& 31)) = x1 → vp_in x3 200 ∧ ((x2 < (h_i h 77 x3.toNatClampNeg) → AW (m_X1_weigh (d + 1) 0 0) 0 0 18 [(0, .ref 18), (1, .int x1), (2, .int x2), (3, .int (x3 + 1))] [] h (kV K)) ∧ (¬ x2 < (h_i h 77 x3.toNatClampNeg) → vp_in x3 200 ∧ (vp_in x3 200 ∧ (vp_in x3 200 ∧ ((¬ ((h_i h 76 x3.toNatClampNeg) &&& 1) = 1 → vp_in (((h_i h 76 x3.toNatClampNeg) >>> ((5 : Int32) &&& 31)) &&& 7) 8 ∧ (vp_in (((h_i h 76 x3.toNatClampNeg) >>> ((5 : Int32) &&& 31)) &&& 7) 8 ∧ (vp_in (((h_i h 76 x3.toNatClampNeg) >>> ((5 : Int32) &&& 31)) &&& 7) 8 ∧ (vp_in (((h_i h 76 x3.toNatClampNeg) >>> ((5 : Int32) &&& 31)) &&& 7) 8 ∧ (AW (m_X1_weigh (d + 1) 0 0) 0 0 18 [(0, .ref 18), (1, .int x1), (2, .int x2), (3, .int (x3 + 1))] [] (h_im (h_im h 82 ((((h_i h 76 x3.toNatClampNeg) >>> ((5 : Int32) &&& 31)) &&& 7) : Int32).toNatClampNeg ((h_i h 82 ((((h_i h 76 x3.toNatClampNeg) >>> ((5 : Int32) &&& 31)) &&& 7) : Int32).toNatClampNeg) &&& (((1 : Int32) <<< ((((h_i h 76 x3.toNatClampNeg) >>> ((1 : Int32) &&& 31)) &&& 15) &&& 31)) ^^^ (-1)))) 83 ((((h_i h 76 x3.toNatClampNeg) >>> ((5 : Int32) &&& 31)) &&& 7) : Int32).toNatClampNeg ((h_i h 83 ((((h_i h 76 x3.toNatClampNeg) >>> ((5 : Int32) &&& 31)) &&& 7) : Int32).toNatClampNeg) ||| ((1 : Int32) <<< ((((h_i h 76 x3.toNatClampNeg) >>> ((1 : Int32) &&& 31)) &&& 15) &&& 31)))) (kV K)))))) ∧ (((h_i h 76 x3.toNatClampNeg) &&& 1) = 1 → vp_in (((h_i h 76 x3.toNatClampNeg) >>> ((5 : Int32) &&& 31)) &&& 7) 8 ∧ (vp_in (((h_i h 76 x3.toNatClampNeg) >>> ((5 : Int32) &&& 31)) &&& 7) 8 ∧ (vp_in (((h_i h 76 x3.toNatClampNeg) >>> ((5 : Int32) &&& 31)) &&& 7) 8 ∧ (vp_in (((h_i h 76 x3.toNatClampNeg) >>> ((5 : Int32) &&& 31)) &&& 7) 8 ∧ (AW (m_X1_weigh (d + 1) 0 0) 0 0 18 [(0, .ref 18), (1, .int x1), (2, .int x2), (3, .int (x3 + 1))] [] (h_im (h_im h 82 ((((h_i h 76 x3.toNatClampNeg) >>> ((5 : Int32) &&& 31)) &&& 7) : Int32).toNatClampNeg ((h_i h 82 ((((h_i h 76 x3.toNatClampNeg) >>> ((5 : Int32) &&& 31)) &&& 7) : Int32).toNatClampNeg) ||| ((1 : Int32) <<< ((((h_i h 76 x3.toNatClampNeg) >>> ((1 : Int32) &&& 31)) &&& 15) &&& 31)))) 83 ((((h_i h 76 x3.toNatClampNeg) >>> ((5 : Int32) &&& 31)) &&& 7) : Int32).toNatClampNeg ((h_i h 83 ((((h_i h 76 x3.toNatClampNeg) >>> ((5 : Int32) &&& 31)) &&& 7) : Int32).toNatClampNeg) &&& (((1 : Int32) <<< ((((h_i h 76 x3.toNatClampNeg) >>> ((1 : Int32) &&& 31)) &&& 15) &&& 31)) ^^^ (-1)))) (kV K))))))))))))))) : AW (m_X1_weigh (d + 1) 0 0) 0 0 18 [(0, .ref 18), (1, .int x1), (2, .int x2), (3, .int x3)] [] h (kV K) := by
  refine aw_iload_n (i := 3) rfl d_X1_weigh_18 3 rfl ?_
  refine aw_aload_n (i := 0) rfl d_X1_weigh_19 0 rfl ?_
  refine aw_geti (k0 := 8) kc_1 (ws_18 w) (Nat.le_of_ble_eq_true rfl) tw_273 d_X1_weigh_20 rfl ?_
  refine aw_icmp_ge (tgt := 176) d_X1_weigh_23 rfl (fun c7 => ?_) (fun c7 => ?_)
  · have k := k.1 c7
    refine aw_aload_n (i := 0) rfl d_X1_weigh_176 0 rfl ?_
    refine aw_iload_n (i := 2) rfl d_X1_weigh_177 2 rfl ?_
    refine aw_Vi 18 [.int x2] [] d_X1_weigh_178 (cV_X1_stillHeard (d + 0) 0 0) kc_1 (ws_18 w) tw_1244 rfl (rr0 (Nat.le_of_ble_eq_true rfl) (Nat.le_of_ble_eq_true rfl)) (Nat.le_of_ble_eq_true rfl) xs0 k (fun r10 h8 kk => ?_)
    obtain ⟨w9, k⟩ := kk
    refine aw_istore_n (i := 3) rfl [(0, .ref 18), (1, .int x1), (2, .int x2), (3, .int r10)] d_X1_weigh_181 (Nat.le_of_ble_eq_true rfl) rfl rfl ?_
    refine aw_iconst (v := 0) d_X1_weigh_182 ic_0 ?_
    refine aw_istore [(0, .ref 18), (1, .int x1), (2, .int x2), (3, .int r10), (4, .int 0)] d_X1_weigh_183 (Nat.le_of_ble_eq_true rfl) rfl rfl ?_
    exact aw_lvp [0, 3, 4] [(0, .ref 18), (3, .int r10), (4, .int 0)] rfl k
  · have k := k.2 c7
    refine aw_aload_n (i := 0) rfl d_X1_weigh_26 0 rfl ?_
    refine aw_getr (k0 := 6) kc_1 (ws_18 w) (Nat.le_of_ble_eq_true rfl) tw_271 d_X1_weigh_27 rfl (wr_18_6 w) ?_
    refine aw_iload_n (i := 3) rfl d_X1_weigh_30 3 rfl ?_
    obtain ⟨b11, k⟩ := k
    refine aw_iald (ws_76 w) b11 d_X1_weigh_31 ?_
    refine aw_bipush (v := 8) d_X1_weigh_32 ib_8 ?_
    refine aw_ishr d_X1_weigh_34 ?_
    refine aw_iload_n (i := 1) rfl d_X1_weigh_35 1 rfl ?_
    refine aw_icmp_ne (tgt := 170) d_X1_weigh_36 rfl (fun c12 => ?_) (fun c12 => ?_)
    · have k := k.1 c12
      refine aw_iinc (v := (x3 + 1)) [(0, .ref 18), (1, .int x1), (2, .int x2), (3, .int (x3 + 1))] d_X1_weigh_170 3 rfl rfl (Nat.le_of_ble_eq_true rfl) rfl rfl ?_
      refine aw_goto (tgt := 18) d_X1_weigh_173 rfl ?_
      exact k
    · have k := k.2 c12
      refine aw_aload_n (i := 0) rfl d_X1_weigh_39 0 rfl ?_
      refine aw_getr (k0 := 7) kc_1 (ws_18 w) (Nat.le_of_ble_eq_true rfl) tw_272 d_X1_weigh_40 rfl (wr_18_7 w) ?_
      refine aw_iload_n (i := 3) rfl d_X1_weigh_43 3 rfl ?_
      obtain ⟨b13, k⟩ := k
      refine aw_iald (ws_77 w) b13 d_X1_weigh_44 ?_
      refine aw_iload_n (i := 2) rfl d_X1_weigh_45 2 rfl ?_
      refine aw_icmp_gt (tgt := 170) d_X1_weigh_46 rfl (fun c14 => ?_) (fun c14 => ?_)
      · have k := k.1 c14
        refine aw_iinc (v := (x3 + 1)) [(0, .ref 18), (1, .int x1), (2, .int x2), (3, .int (x3 + 1))] d_X1_weigh_170 3 rfl rfl (Nat.le_of_ble_eq_true rfl) rfl rfl ?_
        refine aw_goto (tgt := 18) d_X1_weigh_173 rfl ?_
        exact k
      · have k := k.2 c14
        refine aw_aload_n (i := 0) rfl d_X1_weigh_49 0 rfl ?_
        refine aw_getr (k0 := 6) kc_1 (ws_18 w) (Nat.le_of_ble_eq_true rfl) tw_271 d_X1_weigh_50 rfl (wr_18_6 w) ?_
        refine aw_iload_n (i := 3) rfl d_X1_weigh_53 3 rfl ?_
        obtain ⟨b15, k⟩ := k
        refine aw_iald (ws_76 w) b15 d_X1_weigh_54 ?_
        refine aw_iconst (v := 5) d_X1_weigh_55 ic_5 ?_
        refine aw_ishr d_X1_weigh_56 ?_
        refine aw_bipush (v := 7) d_X1_weigh_57 ib_7 ?_
        refine aw_iand d_X1_weigh_59 ?_
        refine aw_istore [(0, .ref 18), (1, .int x1), (2, .int x2), (3, .int x3), (4, .int (((h_i h 76 x3.toNatClampNeg) >>> ((5 : Int32) &&& 31)) &&& 7))] d_X1_weigh_60 (Nat.le_of_ble_eq_true rfl) rfl rfl ?_
        refine aw_iconst (v := 1) d_X1_weigh_62 ic_1 ?_
        refine aw_aload_n (i := 0) rfl d_X1_weigh_63 0 rfl ?_
        refine aw_getr (k0 := 6) kc_1 (ws_18 w) (Nat.le_of_ble_eq_true rfl) tw_271 d_X1_weigh_64 rfl (wr_18_6 w) ?_
        refine aw_iload_n (i := 3) rfl d_X1_weigh_67 3 rfl ?_
        obtain ⟨b16, k⟩ := k
        refine aw_iald (ws_76 w) b16 d_X1_weigh_68 ?_
        refine aw_iconst (v := 1) d_X1_weigh_69 ic_1 ?_
        refine aw_ishr d_X1_weigh_70 ?_
        refine aw_bipush (v := 15) d_X1_weigh_71 ib_15 ?_
        refine aw_iand d_X1_weigh_73 ?_
        refine aw_ishl d_X1_weigh_74 ?_
        refine aw_istore [(0, .ref 18), (1, .int x1), (2, .int x2), (3, .int x3), (4, .int (((h_i h 76 x3.toNatClampNeg) >>> ((5 : Int32) &&& 31)) &&& 7)), (5, .int ((1 : Int32) <<< ((((h_i h 76 x3.toNatClampNeg) >>> ((1 : Int32) &&& 31)) &&& 15) &&& 31)))] d_X1_weigh_75 (Nat.le_of_ble_eq_true rfl) rfl rfl ?_
        refine aw_aload_n (i := 0) rfl d_X1_weigh_77 0 rfl ?_
        refine aw_getr (k0 := 6) kc_1 (ws_18 w) (Nat.le_of_ble_eq_true rfl) tw_271 d_X1_weigh_78 rfl (wr_18_6 w) ?_
        refine aw_iload_n (i := 3) rfl d_X1_weigh_81 3 rfl ?_
        obtain ⟨b17, k⟩ := k
        refine aw_iald (ws_76 w) b17 d_X1_weigh_82 ?_
        refine aw_iconst (v := 1) d_X1_weigh_83 ic_1 ?_
        refine aw_iand d_X1_weigh_84 ?_
        refine aw_iconst (v := 1) d_X1_weigh_85 ic_1 ?_
        refine aw_icmp_ne (tgt := 93) d_X1_weigh_86 rfl (fun c18 => ?_) (fun c18 => ?_)
        · have k := k.1 c18
          refine aw_iconst (v := 0) d_X1_weigh_93 ic_0 ?_
          refine aw_istore [(0, .ref 18), (1, .int x1), (2, .int x2), (3, .int x3), (4, .int (((h_i h 76 x3.toNatClampNeg) >>> ((5 : Int32) &&& 31)) &&& 7)), (5, .int ((1 : Int32) <<< ((((h_i h 76 x3.toNatClampNeg) >>> ((1 : Int32) &&& 31)) &&& 15) &&& 31))), (6, .int 0)] d_X1_weigh_94 (Nat.le_of_ble_eq_true rfl) rfl rfl ?_
          refine aw_aload_n (i := 0) rfl d_X1_weigh_96 0 rfl ?_
          refine aw_getr (k0 := 13) kc_1 (ws_18 w) (Nat.le_of_ble_eq_true rfl) tw_279 d_X1_weigh_97 rfl (wr_18_13 w) ?_
          refine aw_iload d_X1_weigh_100 4 rfl ?_
          refine aw_iload d_X1_weigh_102 6 rfl ?_
          refine aw_if_eq (tgt := 120) d_X1_weigh_104 rfl (fun _ => ?_) (fun c => absurd c (by decide))
          refine aw_aload_n (i := 0) rfl d_X1_weigh_120 0 rfl ?_
          refine aw_getr (k0 := 13) kc_1 (ws_18 w) (Nat.le_of_ble_eq_true rfl) tw_279 d_X1_weigh_121 rfl (wr_18_13 w) ?_
          refine aw_iload d_X1_weigh_124 4 rfl ?_
          obtain ⟨b20, k⟩ := k
          refine aw_iald (ws_82 w) b20 d_X1_weigh_126 ?_
          refine aw_iload d_X1_weigh_127 5 rfl ?_
          refine aw_iconst (v := (-1)) d_X1_weigh_129 ic_m1 ?_
          refine aw_ixor d_X1_weigh_130 ?_
          refine aw_iand d_X1_weigh_131 ?_
          obtain ⟨b21, k⟩ := k
          refine aw_iast (ws_82 w) b21 d_X1_weigh_132 ?_
          refine aw_aload_n (i := 0) rfl d_X1_weigh_133 0 rfl ?_
          refine aw_getr (k0 := 14) kc_1 (ws_18 w) (Nat.le_of_ble_eq_true rfl) tw_280 d_X1_weigh_134 rfl (wr_18_14 w) ?_
          refine aw_iload d_X1_weigh_137 4 rfl ?_
          refine aw_iload d_X1_weigh_139 6 rfl ?_
          refine aw_if_eq (tgt := 159) d_X1_weigh_141 rfl (fun _ => ?_) (fun c => absurd c (by decide))
          refine aw_aload_n (i := 0) rfl d_X1_weigh_159 0 rfl ?_
          refine aw_getr (k0 := 14) kc_1 (ws_18 w) (Nat.le_of_ble_eq_true rfl) tw_280 d_X1_weigh_160 rfl (wr_18_14 w) ?_
          refine aw_iload d_X1_weigh_163 4 rfl ?_
          obtain ⟨b23, k⟩ := k
          refine aw_iald (ws_83 w) b23 d_X1_weigh_165 ?_
          refine aw_vi (v2 := (h_i h 83 ((((h_i h 76 x3.toNatClampNeg) >>> ((5 : Int32) &&& 31)) &&& 7) : Int32).toNatClampNeg)) (rfl) ?_
          refine aw_iload d_X1_weigh_166 5 rfl ?_
          refine aw_ior d_X1_weigh_168 ?_
          obtain ⟨b24, k⟩ := k
          refine aw_iast (ws_83 w) b24 d_X1_weigh_169 ?_
          refine aw_iinc (v := (x3 + 1)) [(0, .ref 18), (1, .int x1), (2, .int x2), (3, .int (x3 + 1)), (4, .int (((h_i h 76 x3.toNatClampNeg) >>> ((5 : Int32) &&& 31)) &&& 7)), (5, .int ((1 : Int32) <<< ((((h_i h 76 x3.toNatClampNeg) >>> ((1 : Int32) &&& 31)) &&& 15) &&& 31))), (6, .int 0)] d_X1_weigh_170 3 rfl rfl (Nat.le_of_ble_eq_true rfl) rfl rfl ?_
          refine aw_goto (tgt := 18) d_X1_weigh_173 rfl ?_
          exact aw_lvp [0, 1, 2, 3] [(0, .ref 18), (1, .int x1), (2, .int x2), (3, .int (x3 + 1))] rfl k
        · have k := k.2 c18
          refine aw_iconst (v := 1) d_X1_weigh_89 ic_1 ?_
          refine aw_goto (tgt := 94) d_X1_weigh_90 rfl ?_
          refine aw_istore [(0, .ref 18), (1, .int x1), (2, .int x2), (3, .int x3), (4, .int (((h_i h 76 x3.toNatClampNeg) >>> ((5 : Int32) &&& 31)) &&& 7)), (5, .int ((1 : Int32) <<< ((((h_i h 76 x3.toNatClampNeg) >>> ((1 : Int32) &&& 31)) &&& 15) &&& 31))), (6, .int 1)] d_X1_weigh_94 (Nat.le_of_ble_eq_true rfl) rfl rfl ?_
          refine aw_aload_n (i := 0) rfl d_X1_weigh_96 0 rfl ?_
          refine aw_getr (k0 := 13) kc_1 (ws_18 w) (Nat.le_of_ble_eq_true rfl) tw_279 d_X1_weigh_97 rfl (wr_18_13 w) ?_
          refine aw_iload d_X1_weigh_100 4 rfl ?_
          refine aw_iload d_X1_weigh_102 6 rfl ?_
          refine aw_if_eq (tgt := 120) d_X1_weigh_104 rfl (fun c => absurd c (by decide)) (fun _ => ?_)
          refine aw_aload_n (i := 0) rfl d_X1_weigh_107 0 rfl ?_
          refine aw_getr (k0 := 13) kc_1 (ws_18 w) (Nat.le_of_ble_eq_true rfl) tw_279 d_X1_weigh_108 rfl (wr_18_13 w) ?_
          refine aw_iload d_X1_weigh_111 4 rfl ?_
          obtain ⟨b26, k⟩ := k
          refine aw_iald (ws_82 w) b26 d_X1_weigh_113 ?_
          refine aw_iload d_X1_weigh_114 5 rfl ?_
          refine aw_ior d_X1_weigh_116 ?_
          refine aw_goto (tgt := 132) d_X1_weigh_117 rfl ?_
          obtain ⟨b27, k⟩ := k
          refine aw_iast (ws_82 w) b27 d_X1_weigh_132 ?_
          refine aw_aload_n (i := 0) rfl d_X1_weigh_133 0 rfl ?_
          refine aw_getr (k0 := 14) kc_1 (ws_18 w) (Nat.le_of_ble_eq_true rfl) tw_280 d_X1_weigh_134 rfl (wr_18_14 w) ?_
          refine aw_iload d_X1_weigh_137 4 rfl ?_
          refine aw_iload d_X1_weigh_139 6 rfl ?_
          refine aw_if_eq (tgt := 159) d_X1_weigh_141 rfl (fun c => absurd c (by decide)) (fun _ => ?_)
          refine aw_aload_n (i := 0) rfl d_X1_weigh_144 0 rfl ?_
          refine aw_getr (k0 := 14) kc_1 (ws_18 w) (Nat.le_of_ble_eq_true rfl) tw_280 d_X1_weigh_145 rfl (wr_18_14 w) ?_
          refine aw_iload d_X1_weigh_148 4 rfl ?_
          obtain ⟨b29, k⟩ := k
          refine aw_iald (ws_83 w) b29 d_X1_weigh_150 ?_
          refine aw_vi (v2 := (h_i h 83 ((((h_i h 76 x3.toNatClampNeg) >>> ((5 : Int32) &&& 31)) &&& 7) : Int32).toNatClampNeg)) (rfl) ?_
          refine aw_iload d_X1_weigh_151 5 rfl ?_
          refine aw_iconst (v := (-1)) d_X1_weigh_153 ic_m1 ?_
          refine aw_ixor d_X1_weigh_154 ?_
          refine aw_iand d_X1_weigh_155 ?_
          refine aw_goto (tgt := 169) d_X1_weigh_156 rfl ?_
          obtain ⟨b30, k⟩ := k
          refine aw_iast (ws_83 w) b30 d_X1_weigh_169 ?_
          refine aw_iinc (v := (x3 + 1)) [(0, .ref 18), (1, .int x1), (2, .int x2), (3, .int (x3 + 1)), (4, .int (((h_i h 76 x3.toNatClampNeg) >>> ((5 : Int32) &&& 31)) &&& 7)), (5, .int ((1 : Int32) <<< ((((h_i h 76 x3.toNatClampNeg) >>> ((1 : Int32) &&& 31)) &&& 15) &&& 31))), (6, .int 1)] d_X1_weigh_170 3 rfl rfl (Nat.le_of_ble_eq_true rfl) rfl rfl ?_
          refine aw_goto (tgt := 18) d_X1_weigh_173 rfl ?_
          exact aw_lvp [0, 1, 2, 3] [(0, .ref 18), (1, .int x1), (2, .int x2), (3, .int (x3 + 1))] rfl k
theorem t_X1_weigh_185 (d : Nat) (h : Hp_) (w : Wf h) (x3 : Int32) (x4 : Int32) (K : Hp_ → Prop) (k : (8 ≤ x4 → K h) ∧ (¬ 8 ≤ x4 → vp_in x4 8 ∧ (vp_in x4 8 ∧ (vp_in x4 8 ∧ (vp_in x4 8 ∧ (AW (m_X1_weigh (d + 1) 0 0) 0 0 185 [(0, .ref 18), (3, .int x3), (4, .int (x4 + 1))] [] (h_im (h_im h 82 x4.toNatClampNeg ((h_i h 82 x4.toNatClampNeg) &&& x3)) 83 x4.toNatClampNeg ((h_i h 83 x4.toNatClampNeg) &&& x3)) (kV K))))))) : AW (m_X1_weigh (d + 1) 0 0) 0 0 185 [(0, .ref 18), (3, .int x3), (4, .int x4)] [] h (kV K) := by
  refine aw_iload d_X1_weigh_185 2 rfl ?_
  refine aw_bipush (v := 8) d_X1_weigh_187 ib_8 ?_
  refine aw_icmp_ge (tgt := 220) d_X1_weigh_189 rfl (fun c31 => ?_) (fun c31 => ?_)
  · have k := k.1 c31
    exact aw_vret rfl d_X1_weigh_220 ⟨Nat.le_refl _, Nat.le_refl _⟩ ⟨rfl, k⟩
  · have k := k.2 c31
    refine aw_aload_n (i := 0) rfl d_X1_weigh_192 0 rfl ?_
    refine aw_getr (k0 := 13) kc_1 (ws_18 w) (Nat.le_of_ble_eq_true rfl) tw_279 d_X1_weigh_193 rfl (wr_18_13 w) ?_
    refine aw_iload d_X1_weigh_196 2 rfl ?_
    refine aw_dup2 d_X1_weigh_198 ⟨rfl, rfl⟩ ?_
    obtain ⟨b32, k⟩ := k
    refine aw_iald (ws_82 w) b32 d_X1_weigh_199 ?_
    refine aw_iload_n (i := 3) rfl d_X1_weigh_200 1 rfl ?_
    refine aw_iand d_X1_weigh_201 ?_
    obtain ⟨b33, k⟩ := k
    refine aw_iast (ws_82 w) b33 d_X1_weigh_202 ?_
    refine aw_aload_n (i := 0) rfl d_X1_weigh_203 0 rfl ?_
    refine aw_getr (k0 := 14) kc_1 (ws_18 w) (Nat.le_of_ble_eq_true rfl) tw_280 d_X1_weigh_204 rfl (wr_18_14 w) ?_
    refine aw_iload d_X1_weigh_207 2 rfl ?_
    refine aw_dup2 d_X1_weigh_209 ⟨rfl, rfl⟩ ?_
    obtain ⟨b34, k⟩ := k
    refine aw_iald (ws_83 w) b34 d_X1_weigh_210 ?_
    refine aw_vi (v2 := (h_i h 83 x4.toNatClampNeg)) (rfl) ?_
    refine aw_iload_n (i := 3) rfl d_X1_weigh_211 1 rfl ?_
    refine aw_iand d_X1_weigh_212 ?_
    obtain ⟨b35, k⟩ := k
    refine aw_iast (ws_83 w) b35 d_X1_weigh_213 ?_
    refine aw_iinc (v := (x4 + 1)) [(0, .ref 18), (3, .int x3), (4, .int (x4 + 1))] d_X1_weigh_214 2 rfl rfl (Nat.le_of_ble_eq_true rfl) rfl rfl ?_
    refine aw_goto (tgt := 185) d_X1_weigh_217 rfl ?_
    exact k
theorem t_X1_verdictOn (d : Nat) (h : Hp_) (w : Wf h) (x1 : Int32) (K : Int32 → Hp_ → Prop) (k : ((0 ≤ x1 ∧ x1 ≤ 7) → vp_in x1 8 ∧ (Ci (m_J6_bitCount_0f7a4 (d + 0) 0 0) [.int (h_i h 82 x1.toNatClampNeg)] h (fun r7 h5 => Wf h5 ∧ (vp_in x1 8 ∧ (Ci (m_J6_bitCount_0f7a4 (d + 0) 0 0) [.int (h_i h5 83 x1.toNatClampNeg)] h5 (fun r11 h9 => Wf h9 ∧ ((r7 ≤ 0 → vp_in x1 8 ∧ ((r7 < (h_i h9 75 x1.toNatClampNeg) → vp_in x1 8 ∧ ((r11 < (h_i h9 75 x1.toNatClampNeg) → K 0 h9) ∧ (¬ r11 < (h_i h9 75 x1.toNatClampNeg) → K 2 h9))) ∧ (¬ r7 < (h_i h9 75 x1.toNatClampNeg) → K 1 h9))) ∧ (¬ r7 ≤ 0 → (r11 ≤ 0 → vp_in x1 8 ∧ ((r7 < (h_i h9 75 x1.toNatClampNeg) → vp_in x1 8 ∧ ((r11 < (h_i h9 75 x1.toNatClampNeg) → K 0 h9) ∧ (¬ r11 < (h_i h9 75 x1.toNatClampNeg) → K 2 h9))) ∧ (¬ r7 < (h_i h9 75 x1.toNatClampNeg) → K 1 h9))) ∧ (¬ r11 ≤ 0 → K 3 h9))))))))) ∧ (¬ (0 ≤ x1 ∧ x1 ≤ 7) → K (-1) h)) : Ci (m_X1_verdictOn (d + 1) 0 0) [.ref 18, .int x1] h K := by
  refine Ct.of (fun _ _ _ => trivial) rfl (Nat.le_of_ble_eq_true rfl) ?_
  show AW (m_X1_verdictOn (d + 1) 0 0) 0 0 0 [(0, .ref 18), (1, .int x1)] [] h (kI K)
  refine aw_iload_n (i := 1) rfl d_X1_verdictOn_0 1 rfl ?_
  refine aw_iconst (v := 0) d_X1_verdictOn_1 ic_0 ?_
  refine aw_bipush (v := 7) d_X1_verdictOn_2 ib_7 ?_
  refine aw_SNi [.int x1, .int 0, .int 7] [] d_X1_verdictOn_4 (cS_X11_within (d + 0) 0 0) (List.mem_of_getElem? (i := 12) rfl) rfl (rr0 (Nat.le_of_ble_eq_true rfl) (Nat.le_of_ble_eq_true rfl)) (Nat.le_of_ble_eq_true rfl) xs0 (s_X11_within _ _ x1 0 7) (fun _ _ kk => ?_)
  obtain ⟨e1, e2⟩ := kk
  rw [e1, e2]
  refine aw_ifb_ne (tgt := 12) d_X1_verdictOn_7 rfl (fun c3 => ?_) (fun c3 => ?_)
  · have k := k.1 c3
    refine aw_aload_n (i := 0) rfl d_X1_verdictOn_12 0 rfl ?_
    refine aw_getr (k0 := 13) kc_1 (ws_18 w) (Nat.le_of_ble_eq_true rfl) tw_279 d_X1_verdictOn_13 rfl (wr_18_13 w) ?_
    refine aw_iload_n (i := 1) rfl d_X1_verdictOn_16 1 rfl ?_
    obtain ⟨b4, k⟩ := k
    refine aw_iald (ws_82 w) b4 d_X1_verdictOn_17 ?_
    refine aw_Si [.int (h_i h 82 x1.toNatClampNeg)] [] d_X1_verdictOn_18 (cS_J6_bitCount_0f7a4 (d + 0) 0 0) tw_1265 rfl (rr0 (Nat.le_of_ble_eq_true rfl) (Nat.le_of_ble_eq_true rfl)) (Nat.le_of_ble_eq_true rfl) xs0 k (fun r7 h5 kk => ?_)
    obtain ⟨w6, k⟩ := kk
    refine aw_istore_n (i := 2) rfl [(0, .ref 18), (1, .int x1), (2, .int r7)] d_X1_verdictOn_21 (Nat.le_of_ble_eq_true rfl) rfl rfl ?_
    refine aw_aload_n (i := 0) rfl d_X1_verdictOn_22 0 rfl ?_
    refine aw_getr (k0 := 14) kc_1 (ws_18 w6) (Nat.le_of_ble_eq_true rfl) tw_280 d_X1_verdictOn_23 rfl (wr_18_14 w6) ?_
    refine aw_iload_n (i := 1) rfl d_X1_verdictOn_26 1 rfl ?_
    obtain ⟨b8, k⟩ := k
    refine aw_iald (ws_83 w6) b8 d_X1_verdictOn_27 ?_
    refine aw_Si [.int (h_i h5 83 x1.toNatClampNeg)] [] d_X1_verdictOn_28 (cS_J6_bitCount_0f7a4 (d + 0) 0 0) tw_1265 rfl (rr0 (Nat.le_of_ble_eq_true rfl) (Nat.le_of_ble_eq_true rfl)) (Nat.le_of_ble_eq_true rfl) xs0 k (fun r11 h9 kk => ?_)
    obtain ⟨w10, k⟩ := kk
    refine aw_istore_n (i := 3) rfl [(0, .ref 18), (1, .int x1), (2, .int r7), (3, .int r11)] d_X1_verdictOn_31 (Nat.le_of_ble_eq_true rfl) rfl rfl ?_
    refine aw_iload_n (i := 2) rfl d_X1_verdictOn_32 2 rfl ?_
    refine aw_if_le (tgt := 42) d_X1_verdictOn_33 rfl (fun c12 => ?_) (fun c12 => ?_)
    · have k := k.1 c12
      refine aw_iload_n (i := 2) rfl d_X1_verdictOn_42 2 rfl ?_
      refine aw_aload_n (i := 0) rfl d_X1_verdictOn_43 0 rfl ?_
      refine aw_getr (k0 := 5) kc_1 (ws_18 w10) (Nat.le_of_ble_eq_true rfl) tw_269 d_X1_verdictOn_44 rfl (wr_18_5 w10) ?_
      refine aw_iload_n (i := 1) rfl d_X1_verdictOn_47 1 rfl ?_
      obtain ⟨b13, k⟩ := k
      refine aw_iald (ws_75 w10) b13 d_X1_verdictOn_48 ?_
      refine aw_icmp_lt (tgt := 56) d_X1_verdictOn_49 rfl (fun c14 => ?_) (fun c14 => ?_)
      · have k := k.1 c14
        refine aw_iload_n (i := 3) rfl d_X1_verdictOn_56 3 rfl ?_
        refine aw_aload_n (i := 0) rfl d_X1_verdictOn_57 0 rfl ?_
        refine aw_getr (k0 := 5) kc_1 (ws_18 w10) (Nat.le_of_ble_eq_true rfl) tw_269 d_X1_verdictOn_58 rfl (wr_18_5 w10) ?_
        refine aw_iload_n (i := 1) rfl d_X1_verdictOn_61 1 rfl ?_
        obtain ⟨b15, k⟩ := k
        refine aw_iald (ws_75 w10) b15 d_X1_verdictOn_62 ?_
        refine aw_icmp_lt (tgt := 70) d_X1_verdictOn_63 rfl (fun c16 => ?_) (fun c16 => ?_)
        · have k := k.1 c16
          refine aw_iconst (v := 0) d_X1_verdictOn_70 ic_0 ?_
          exact aw_iret rfl d_X1_verdictOn_71 ⟨Nat.le_refl _, Nat.le_refl _⟩ ⟨_, rfl, k⟩
        · have k := k.2 c16
          refine aw_iconst (v := 2) d_X1_verdictOn_66 ic_2 ?_
          refine aw_goto (tgt := 71) d_X1_verdictOn_67 rfl ?_
          exact aw_iret rfl d_X1_verdictOn_71 ⟨Nat.le_refl _, Nat.le_refl _⟩ ⟨_, rfl, k⟩
      · have k := k.2 c14
        refine aw_iconst (v := 1) d_X1_verdictOn_52 ic_1 ?_
        refine aw_goto (tgt := 71) d_X1_verdictOn_53 rfl ?_
        exact aw_iret rfl d_X1_verdictOn_71 ⟨Nat.le_refl _, Nat.le_refl _⟩ ⟨_, rfl, k⟩
    · have k := k.2 c12
      refine aw_iload_n (i := 3) rfl d_X1_verdictOn_36 3 rfl ?_
      refine aw_if_le (tgt := 42) d_X1_verdictOn_37 rfl (fun c17 => ?_) (fun c17 => ?_)
      · have k := k.1 c17
        refine aw_iload_n (i := 2) rfl d_X1_verdictOn_42 2 rfl ?_
        refine aw_aload_n (i := 0) rfl d_X1_verdictOn_43 0 rfl ?_
        refine aw_getr (k0 := 5) kc_1 (ws_18 w10) (Nat.le_of_ble_eq_true rfl) tw_269 d_X1_verdictOn_44 rfl (wr_18_5 w10) ?_
        refine aw_iload_n (i := 1) rfl d_X1_verdictOn_47 1 rfl ?_
        obtain ⟨b18, k⟩ := k
        refine aw_iald (ws_75 w10) b18 d_X1_verdictOn_48 ?_
        refine aw_icmp_lt (tgt := 56) d_X1_verdictOn_49 rfl (fun c19 => ?_) (fun c19 => ?_)
        · have k := k.1 c19
          refine aw_iload_n (i := 3) rfl d_X1_verdictOn_56 3 rfl ?_
          refine aw_aload_n (i := 0) rfl d_X1_verdictOn_57 0 rfl ?_
          refine aw_getr (k0 := 5) kc_1 (ws_18 w10) (Nat.le_of_ble_eq_true rfl) tw_269 d_X1_verdictOn_58 rfl (wr_18_5 w10) ?_
          refine aw_iload_n (i := 1) rfl d_X1_verdictOn_61 1 rfl ?_
          obtain ⟨b20, k⟩ := k
          refine aw_iald (ws_75 w10) b20 d_X1_verdictOn_62 ?_
          refine aw_icmp_lt (tgt := 70) d_X1_verdictOn_63 rfl (fun c21 => ?_) (fun c21 => ?_)
          · have k := k.1 c21
            refine aw_iconst (v := 0) d_X1_verdictOn_70 ic_0 ?_
            exact aw_iret rfl d_X1_verdictOn_71 ⟨Nat.le_refl _, Nat.le_refl _⟩ ⟨_, rfl, k⟩
          · have k := k.2 c21
            refine aw_iconst (v := 2) d_X1_verdictOn_66 ic_2 ?_
            refine aw_goto (tgt := 71) d_X1_verdictOn_67 rfl ?_
            exact aw_iret rfl d_X1_verdictOn_71 ⟨Nat.le_refl _, Nat.le_refl _⟩ ⟨_, rfl, k⟩
        · have k := k.2 c19
          refine aw_iconst (v := 1) d_X1_verdictOn_52 ic_1 ?_
          refine aw_goto (tgt := 71) d_X1_verdictOn_53 rfl ?_
          exact aw_iret rfl d_X1_verdictOn_71 ⟨Nat.le_refl _, Nat.le_refl _⟩ ⟨_, rfl, k⟩
      · have k := k.2 c17
        refine aw_iconst (v := 3) d_X1_verdictOn_40 ic_3 ?_
        exact aw_iret rfl d_X1_verdictOn_41 ⟨Nat.le_refl _, Nat.le_refl _⟩ ⟨_, rfl, k⟩
  · have k := k.2 c3
    refine aw_iconst (v := (-1)) d_X1_verdictOn_10 ic_m1 ?_
    exact aw_iret rfl d_X1_verdictOn_11 ⟨Nat.le_refl _, Nat.le_refl _⟩ ⟨_, rfl, k⟩
theorem t_X1_needsOf (d : Nat) (h : Hp_) (w : Wf h) (x1 : Int32) (K : Int32 → Hp_ → Prop) (k : Ci (m_X1_has (d + 0) 0 0) [.ref 18, .int x1] h (fun r3 h1 => Wf h1 ∧ ((r3 = 0 → K 0 h1) ∧ (¬ r3 = 0 → vp_in x1 30 ∧ ((¬ (0 ≤ (h_i h1 71 x1.toNatClampNeg) ∧ (h_i h1 71 x1.toNatClampNeg) ≤ ((10 : Int32) - 1)) → K 0 h1) ∧ ((0 ≤ (h_i h1 71 x1.toNatClampNeg) ∧ (h_i h1 71 x1.toNatClampNeg) ≤ ((10 : Int32) - 1)) → vp_in x1 30 ∧ (vp_in (h_i h1 71 x1.toNatClampNeg) 10 ∧ (K (h_i h1 74 ((h_i h1 71 x1.toNatClampNeg) : Int32).toNatClampNeg) h1)))))))) : Ci (m_X1_needsOf (d + 1) 0 0) [.ref 18, .int x1] h K := by
  refine Ct.of (fun _ _ _ => trivial) rfl (Nat.le_of_ble_eq_true rfl) ?_
  show AW (m_X1_needsOf (d + 1) 0 0) 0 0 0 [(0, .ref 18), (1, .int x1)] [] h (kI K)
  refine aw_aload_n (i := 0) rfl d_X1_needsOf_0 0 rfl ?_
  refine aw_iload_n (i := 1) rfl d_X1_needsOf_1 1 rfl ?_
  refine aw_Vi 18 [.int x1] [] d_X1_needsOf_2 (cV_X1_has (d + 0) 0 0) kc_1 (ws_18 w) tw_1256 rfl (rr0 (Nat.le_of_ble_eq_true rfl) (Nat.le_of_ble_eq_true rfl)) (Nat.le_of_ble_eq_true rfl) xs0 k (fun r3 h1 kk => ?_)
  obtain ⟨w2, k⟩ := kk
  refine aw_if_eq (tgt := 42) d_X1_needsOf_5 rfl (fun c4 => ?_) (fun c4 => ?_)
  · have k := k.1 c4
    refine aw_iconst (v := 0) d_X1_needsOf_42 ic_0 ?_
    exact aw_iret rfl d_X1_needsOf_43 ⟨Nat.le_refl _, Nat.le_refl _⟩ ⟨_, rfl, k⟩
  · have k := k.2 c4
    refine aw_aload_n (i := 0) rfl d_X1_needsOf_8 0 rfl ?_
    refine aw_getr (k0 := 0) kc_1 (ws_18 w2) (Nat.le_of_ble_eq_true rfl) tw_262 d_X1_needsOf_9 rfl (wr_18_0 w2) ?_
    refine aw_iload_n (i := 1) rfl d_X1_needsOf_12 1 rfl ?_
    obtain ⟨b5, k⟩ := k
    refine aw_iald (ws_71 w2) b5 d_X1_needsOf_13 ?_
    refine aw_iconst (v := 0) d_X1_needsOf_14 ic_0 ?_
    refine aw_aload_n (i := 0) rfl d_X1_needsOf_15 0 rfl ?_
    refine aw_getr (k0 := 4) kc_1 (ws_18 w2) (Nat.le_of_ble_eq_true rfl) tw_267 d_X1_needsOf_16 rfl (wr_18_4 w2) ?_
    refine aw_alen (v := 10) (ws_74 w2) (Nat.le_of_ble_eq_true rfl) rfl d_X1_needsOf_19 ?_
    refine aw_iconst (v := 1) d_X1_needsOf_20 ic_1 ?_
    refine aw_isub d_X1_needsOf_21 ?_
    refine aw_SNi [.int (h_i h1 71 x1.toNatClampNeg), .int 0, .int ((10 : Int32) - 1)] [] d_X1_needsOf_22 (cS_X11_within (d + 0) 0 0) (List.mem_of_getElem? (i := 12) rfl) rfl (rr0 (Nat.le_of_ble_eq_true rfl) (Nat.le_of_ble_eq_true rfl)) (Nat.le_of_ble_eq_true rfl) xs0 (s_X11_within _ _ (h_i h1 71 x1.toNatClampNeg) 0 ((10 : Int32) - 1)) (fun _ _ kk => ?_)
    obtain ⟨e6, e7⟩ := kk
    rw [e6, e7]
    refine aw_ifb_eq (tgt := 42) d_X1_needsOf_25 rfl (fun c8 => ?_) (fun c8 => ?_)
    · have k := k.1 c8
      refine aw_iconst (v := 0) d_X1_needsOf_42 ic_0 ?_
      exact aw_iret rfl d_X1_needsOf_43 ⟨Nat.le_refl _, Nat.le_refl _⟩ ⟨_, rfl, k⟩
    · have k := k.2 c8
      refine aw_aload_n (i := 0) rfl d_X1_needsOf_28 0 rfl ?_
      refine aw_getr (k0 := 4) kc_1 (ws_18 w2) (Nat.le_of_ble_eq_true rfl) tw_267 d_X1_needsOf_29 rfl (wr_18_4 w2) ?_
      refine aw_aload_n (i := 0) rfl d_X1_needsOf_32 0 rfl ?_
      refine aw_getr (k0 := 0) kc_1 (ws_18 w2) (Nat.le_of_ble_eq_true rfl) tw_262 d_X1_needsOf_33 rfl (wr_18_0 w2) ?_
      refine aw_iload_n (i := 1) rfl d_X1_needsOf_36 1 rfl ?_
      obtain ⟨b9, k⟩ := k
      refine aw_iald (ws_71 w2) b9 d_X1_needsOf_37 ?_
      obtain ⟨b10, k⟩ := k
      refine aw_iald (ws_74 w2) b10 d_X1_needsOf_38 ?_
      refine aw_goto (tgt := 43) d_X1_needsOf_39 rfl ?_
      exact aw_iret rfl d_X1_needsOf_43 ⟨Nat.le_refl _, Nat.le_refl _⟩ ⟨_, rfl, k⟩
theorem t_X1_addStory (d : Nat) (h : Hp_) (w : Wf h) (x1 : Int32) (x2 : Int32) (x3 : Int32) (x4 : Int32) (K : Int32 → Hp_ → Prop) (k : Ci (m_X1_has (d + 0) 0 0) [.ref 18, .int x1] h (fun r3 h1 => Wf h1 ∧ ((r3 = 0 → K (-1) h1) ∧ (¬ r3 = 0 → vp_in x1 30 ∧ (((h_i h1 73 x1.toNatClampNeg) < 6 → vp_in x1 30 ∧ (vp_in ((x1 * 6) + (h_i h1 73 x1.toNatClampNeg)) 180 ∧ (vp_in ((x1 * 6) + (h_i h1 73 x1.toNatClampNeg)) 180 ∧ (vp_in ((x1 * 6) + (h_i h1 73 x1.toNatClampNeg)) 180 ∧ (vp_in x1 30 ∧ (vp_in x1 30 ∧ (vp_in x1 30 ∧ (K (((h_i h1 73 x1.toNatClampNeg) + 1) - 1) (h_im (h_im (h_im (h_im h1 79 (((x1 * 6) + (h_i h1 73 x1.toNatClampNeg)) : Int32).toNatClampNeg x2) 80 (((x1 * 6) + (h_i h1 73 x1.toNatClampNeg)) : Int32).toNatClampNeg x3) 81 (((x1 * 6) + (h_i h1 73 x1.toNatClampNeg)) : Int32).toNatClampNeg x4) 73 x1.toNatClampNeg ((h_i h1 73 x1.toNatClampNeg) + 1)))))))))) ∧ (¬ (h_i h1 73 x1.toNatClampNeg) < 6 → K (-1) h1)))))) : Ci (m_X1_addStory (d + 1) 0 0) [.ref 18, .int x1, .int x2, .int x3, .int x4] h K := by
  refine Ct.of (fun _ _ _ => trivial) rfl (Nat.le_of_ble_eq_true rfl) ?_
  show AW (m_X1_addStory (d + 1) 0 0) 0 0 0 [(0, .ref 18), (1, .int x1), (2, .int x2), (3, .int x3), (4, .int x4)] [] h (kI K)
  refine aw_aload_n (i := 0) rfl d_X1_addStory_0 0 rfl ?_
  refine aw_iload_n (i := 1) rfl d_X1_addStory_1 1 rfl ?_
  refine aw_Vi 18 [.int x1] [] d_X1_addStory_2 (cV_X1_has (d + 0) 0 0) kc_1 (ws_18 w) tw_1256 rfl (rr0 (Nat.le_of_ble_eq_true rfl) (Nat.le_of_ble_eq_true rfl)) (Nat.le_of_ble_eq_true rfl) xs0 k (fun r3 h1 kk => ?_)
  obtain ⟨w2, k⟩ := kk
  refine aw_if_eq (tgt := 19) d_X1_addStory_5 rfl (fun c4 => ?_) (fun c4 => ?_)
  · have k := k.1 c4
    refine aw_iconst (v := (-1)) d_X1_addStory_19 ic_m1 ?_
    exact aw_iret rfl d_X1_addStory_20 ⟨Nat.le_refl _, Nat.le_refl _⟩ ⟨_, rfl, k⟩
  · have k := k.2 c4
    refine aw_aload_n (i := 0) rfl d_X1_addStory_8 0 rfl ?_
    refine aw_getr (k0 := 2) kc_1 (ws_18 w2) (Nat.le_of_ble_eq_true rfl) tw_264 d_X1_addStory_9 rfl (wr_18_2 w2) ?_
    refine aw_iload_n (i := 1) rfl d_X1_addStory_12 1 rfl ?_
    obtain ⟨b5, k⟩ := k
    refine aw_iald (ws_73 w2) b5 d_X1_addStory_13 ?_
    refine aw_bipush (v := 6) d_X1_addStory_14 ib_6 ?_
    refine aw_icmp_lt (tgt := 21) d_X1_addStory_16 rfl (fun c6 => ?_) (fun c6 => ?_)
    · have k := k.1 c6
      refine aw_iload_n (i := 1) rfl d_X1_addStory_21 1 rfl ?_
      refine aw_bipush (v := 6) d_X1_addStory_22 ib_6 ?_
      refine aw_imul d_X1_addStory_24 ?_
      refine aw_aload_n (i := 0) rfl d_X1_addStory_25 0 rfl ?_
      refine aw_getr (k0 := 2) kc_1 (ws_18 w2) (Nat.le_of_ble_eq_true rfl) tw_264 d_X1_addStory_26 rfl (wr_18_2 w2) ?_
      refine aw_iload_n (i := 1) rfl d_X1_addStory_29 1 rfl ?_
      obtain ⟨b7, k⟩ := k
      refine aw_iald (ws_73 w2) b7 d_X1_addStory_30 ?_
      refine aw_iadd d_X1_addStory_31 ?_
      refine aw_istore [(0, .ref 18), (1, .int x1), (2, .int x2), (3, .int x3), (4, .int x4), (5, .int ((x1 * 6) + (h_i h1 73 x1.toNatClampNeg)))] d_X1_addStory_32 (Nat.le_of_ble_eq_true rfl) rfl rfl ?_
      refine aw_aload_n (i := 0) rfl d_X1_addStory_34 0 rfl ?_
      refine aw_getr (k0 := 10) kc_1 (ws_18 w2) (Nat.le_of_ble_eq_true rfl) tw_276 d_X1_addStory_35 rfl (wr_18_10 w2) ?_
      refine aw_iload d_X1_addStory_38 5 rfl ?_
      refine aw_iload_n (i := 2) rfl d_X1_addStory_40 2 rfl ?_
      obtain ⟨b8, k⟩ := k
      refine aw_iast (ws_79 w2) b8 d_X1_addStory_41 ?_
      refine aw_aload_n (i := 0) rfl d_X1_addStory_42 0 rfl ?_
      refine aw_getr (k0 := 11) kc_1 (ws_18 w2) (Nat.le_of_ble_eq_true rfl) tw_277 d_X1_addStory_43 rfl (wr_18_11 w2) ?_
      refine aw_iload d_X1_addStory_46 5 rfl ?_
      refine aw_iload_n (i := 3) rfl d_X1_addStory_48 3 rfl ?_
      obtain ⟨b9, k⟩ := k
      refine aw_iast (ws_80 w2) b9 d_X1_addStory_49 ?_
      refine aw_aload_n (i := 0) rfl d_X1_addStory_50 0 rfl ?_
      refine aw_getr (k0 := 12) kc_1 (ws_18 w2) (Nat.le_of_ble_eq_true rfl) tw_278 d_X1_addStory_51 rfl (wr_18_12 w2) ?_
      refine aw_iload d_X1_addStory_54 5 rfl ?_
      refine aw_iload d_X1_addStory_56 4 rfl ?_
      obtain ⟨b10, k⟩ := k
      refine aw_iast (ws_81 w2) b10 d_X1_addStory_58 ?_
      refine aw_aload_n (i := 0) rfl d_X1_addStory_59 0 rfl ?_
      refine aw_getr (k0 := 2) kc_1 (ws_18 w2) (Nat.le_of_ble_eq_true rfl) tw_264 d_X1_addStory_60 rfl (wr_18_2 w2) ?_
      refine aw_iload_n (i := 1) rfl d_X1_addStory_63 1 rfl ?_
      refine aw_dup2 d_X1_addStory_64 ⟨rfl, rfl⟩ ?_
      obtain ⟨b11, k⟩ := k
      refine aw_iald (ws_73 w2) b11 d_X1_addStory_65 ?_
      refine aw_vi (v2 := (h_i h1 73 x1.toNatClampNeg)) (rfl) ?_
      refine aw_iconst (v := 1) d_X1_addStory_66 ic_1 ?_
      refine aw_iadd d_X1_addStory_67 ?_
      obtain ⟨b12, k⟩ := k
      refine aw_iast (ws_73 w2) b12 d_X1_addStory_68 ?_
      refine aw_aload_n (i := 0) rfl d_X1_addStory_69 0 rfl ?_
      refine aw_getr (k0 := 2) kc_1 (ws_18 w2) (Nat.le_of_ble_eq_true rfl) tw_264 d_X1_addStory_70 rfl (wr_18_2 w2) ?_
      refine aw_iload_n (i := 1) rfl d_X1_addStory_73 1 rfl ?_
      obtain ⟨b13, k⟩ := k
      refine aw_iald (ws_73 w2) b13 d_X1_addStory_74 ?_
      refine aw_vi (v2 := ((h_i h1 73 x1.toNatClampNeg) + 1)) (hi_s (h_im (h_im (h_im h1 79 (((x1 * 6) + (h_i h1 73 x1.toNatClampNeg)) : Int32).toNatClampNeg x2) 80 (((x1 * 6) + (h_i h1 73 x1.toNatClampNeg)) : Int32).toNatClampNeg x3) 81 (((x1 * 6) + (h_i h1 73 x1.toNatClampNeg)) : Int32).toNatClampNeg x4) 73 x1.toNatClampNeg ((h_i h1 73 x1.toNatClampNeg) + 1)) ?_
      refine aw_iconst (v := 1) d_X1_addStory_75 ic_1 ?_
      refine aw_isub d_X1_addStory_76 ?_
      exact aw_iret rfl d_X1_addStory_77 ⟨Nat.le_refl _, Nat.le_refl _⟩ ⟨_, rfl, k⟩
    · have k := k.2 c6
      refine aw_iconst (v := (-1)) d_X1_addStory_19 ic_m1 ?_
      exact aw_iret rfl d_X1_addStory_20 ⟨Nat.le_refl _, Nat.le_refl _⟩ ⟨_, rfl, k⟩
theorem t_X3_fillGains (d : Nat) (h : Hp_)  (K : Hp_ → Prop) (k : AW (m_X3_fillGains (d + 1) 0 0) 0 0 2 [(0, .ref 19), (1, .int 0)] [] h (kV K)) : Cv (m_X3_fillGains (d + 1) 0 0) [.ref 19] h K := by
  refine Ct.of (fun _ _ _ => trivial) rfl (Nat.le_of_ble_eq_true rfl) ?_
  show AW (m_X3_fillGains (d + 1) 0 0) 0 0 0 [(0, .ref 19)] [] h (kV K)
  refine aw_iconst (v := 0) d_X3_fillGains_0 ic_0 ?_
  refine aw_istore_n (i := 1) rfl [(0, .ref 19), (1, .int 0)] d_X3_fillGains_1 (Nat.le_of_ble_eq_true rfl) rfl rfl ?_
  exact k
theorem t_X3_fillGains_2 (d : Nat) (h : Hp_) (w : Wf h) (x1 : Int32) (K : Hp_ → Prop) (k : ((h_i h 19 2) ≤ x1 → K h) ∧ (¬ (h_i h 19 2) ≤ x1 → AW (m_X3_fillGains (d + 1) 0 0) 0 0 12 [(0, .ref 19), (1, .int x1), (2, .int 0)] [] h (kV K))) : AW (m_X3_fillGains (d + 1) 0 0) 0 0 2 [(0, .ref 19), (1, .int x1)] [] h (kV K) := by
  refine aw_iload_n (i := 1) rfl d_X3_fillGains_2 1 rfl ?_
  refine aw_aload_n (i := 0) rfl d_X3_fillGains_3 0 rfl ?_
  refine aw_geti (k0 := 2) kc_3 (ws_19 w) (Nat.le_of_ble_eq_true rfl) tw_323 d_X3_fillGains_4 rfl ?_
  refine aw_icmp_ge (tgt := 72) d_X3_fillGains_7 rfl (fun c1 => ?_) (fun c1 => ?_)
  · have k := k.1 c1
    exact aw_vret rfl d_X3_fillGains_72 ⟨Nat.le_refl _, Nat.le_refl _⟩ ⟨rfl, k⟩
  · have k := k.2 c1
    refine aw_iconst (v := 0) d_X3_fillGains_10 ic_0 ?_
    refine aw_istore_n (i := 2) rfl [(0, .ref 19), (1, .int x1), (2, .int 0)] d_X3_fillGains_11 (Nat.le_of_ble_eq_true rfl) rfl rfl ?_
    exact k
theorem t_X3_fillGains_12 (d : Nat) (h : Hp_) (w : Wf h) (x1 : Int32) (x2 : Int32) (K : Hp_ → Prop) (k : ((h_i h 19 3) ≤ x2 → AW (m_X3_fillGains (d + 1) 0 0) 0 0 2 [(0, .ref 19), (1, .int (x1 + 1))] [] h (kV K)) ∧ (¬ (h_i h 19 3) ≤ x2 → vp_in x1 8 ∧ (vp_in x2 8 ∧ (Ci (m_X3_alike (d + 0) 0 0) [.int (h_i h 85 x1.toNatClampNeg), .int (h_i h 86 x2.toNatClampNeg)] h (fun r7 h5 => Wf h5 ∧ ((r7 < (h_i h5 19 4) → vp_in ((x1 * 8) + x2) 64 ∧ (AW (m_X3_fillGains (d + 1) 0 0) 0 0 12 [(0, .ref 19), (1, .int x1), (2, .int (x2 + 1))] [] (h_im h5 87 (((x1 * 8) + x2) : Int32).toNatClampNeg 0) (kV K))) ∧ (¬ r7 < (h_i h5 19 4) → vp_in ((x1 * 8) + x2) 64 ∧ (AW (m_X3_fillGains (d + 1) 0 0) 0 0 12 [(0, .ref 19), (1, .int x1), (2, .int (x2 + 1))] [] (h_im h5 87 (((x1 * 8) + x2) : Int32).toNatClampNeg r7) (kV K))))))))) : AW (m_X3_fillGains (d + 1) 0 0) 0 0 12 [(0, .ref 19), (1, .int x1), (2, .int x2)] [] h (kV K) := by
  refine aw_iload_n (i := 2) rfl d_X3_fillGains_12 2 rfl ?_
  refine aw_aload_n (i := 0) rfl d_X3_fillGains_13 0 rfl ?_
  refine aw_geti (k0 := 3) kc_3 (ws_19 w) (Nat.le_of_ble_eq_true rfl) tw_325 d_X3_fillGains_14 rfl ?_
  refine aw_icmp_ge (tgt := 66) d_X3_fillGains_17 rfl (fun c2 => ?_) (fun c2 => ?_)
  · have k := k.1 c2
    refine aw_iinc (v := (x1 + 1)) [(0, .ref 19), (1, .int (x1 + 1)), (2, .int x2)] d_X3_fillGains_66 1 rfl rfl (Nat.le_of_ble_eq_true rfl) rfl rfl ?_
    refine aw_goto (tgt := 2) d_X3_fillGains_69 rfl ?_
    exact aw_lvp [0, 1] [(0, .ref 19), (1, .int (x1 + 1))] rfl k
  · have k := k.2 c2
    refine aw_aload_n (i := 0) rfl d_X3_fillGains_20 0 rfl ?_
    refine aw_getr (k0 := 0) kc_3 (ws_19 w) (Nat.le_of_ble_eq_true rfl) tw_321 d_X3_fillGains_21 rfl (wr_19_0 w) ?_
    refine aw_iload_n (i := 1) rfl d_X3_fillGains_24 1 rfl ?_
    obtain ⟨b3, k⟩ := k
    refine aw_iald (ws_85 w) b3 d_X3_fillGains_25 ?_
    refine aw_aload_n (i := 0) rfl d_X3_fillGains_26 0 rfl ?_
    refine aw_getr (k0 := 1) kc_3 (ws_19 w) (Nat.le_of_ble_eq_true rfl) tw_322 d_X3_fillGains_27 rfl (wr_19_1 w) ?_
    refine aw_iload_n (i := 2) rfl d_X3_fillGains_30 2 rfl ?_
    obtain ⟨b4, k⟩ := k
    refine aw_iald (ws_86 w) b4 d_X3_fillGains_31 ?_
    refine aw_Si [.int (h_i h 85 x1.toNatClampNeg), .int (h_i h 86 x2.toNatClampNeg)] [] d_X3_fillGains_32 (cS_X3_alike (d + 0) 0 0) tw_1347 rfl (rr0 (Nat.le_of_ble_eq_true rfl) (Nat.le_of_ble_eq_true rfl)) (Nat.le_of_ble_eq_true rfl) xs0 k (fun r7 h5 kk => ?_)
    obtain ⟨w6, k⟩ := kk
    refine aw_istore_n (i := 3) rfl [(0, .ref 19), (1, .int x1), (2, .int x2), (3, .int r7)] d_X3_fillGains_35 (Nat.le_of_ble_eq_true rfl) rfl rfl ?_
    refine aw_aload_n (i := 0) rfl d_X3_fillGains_36 0 rfl ?_
    refine aw_getr (k0 := 6) kc_3 (ws_19 w6) (Nat.le_of_ble_eq_true rfl) tw_329 d_X3_fillGains_37 rfl (wr_19_6 w6) ?_
    refine aw_iload_n (i := 1) rfl d_X3_fillGains_40 1 rfl ?_
    refine aw_bipush (v := 8) d_X3_fillGains_41 ib_8 ?_
    refine aw_imul d_X3_fillGains_43 ?_
    refine aw_iload_n (i := 2) rfl d_X3_fillGains_44 2 rfl ?_
    refine aw_iadd d_X3_fillGains_45 ?_
    refine aw_iload_n (i := 3) rfl d_X3_fillGains_46 3 rfl ?_
    refine aw_aload_n (i := 0) rfl d_X3_fillGains_47 0 rfl ?_
    refine aw_geti (k0 := 4) kc_3 (ws_19 w6) (Nat.le_of_ble_eq_true rfl) tw_327 d_X3_fillGains_48 rfl ?_
    refine aw_icmp_lt (tgt := 58) d_X3_fillGains_51 rfl (fun c8 => ?_) (fun c8 => ?_)
    · have k := k.1 c8
      refine aw_iconst (v := 0) d_X3_fillGains_58 ic_0 ?_
      obtain ⟨b9, k⟩ := k
      refine aw_iast (ws_87 w6) b9 d_X3_fillGains_59 ?_
      refine aw_iinc (v := (x2 + 1)) [(0, .ref 19), (1, .int x1), (2, .int (x2 + 1)), (3, .int r7)] d_X3_fillGains_60 2 rfl rfl (Nat.le_of_ble_eq_true rfl) rfl rfl ?_
      refine aw_goto (tgt := 12) d_X3_fillGains_63 rfl ?_
      exact aw_lvp [0, 1, 2] [(0, .ref 19), (1, .int x1), (2, .int (x2 + 1))] rfl k
    · have k := k.2 c8
      refine aw_iload_n (i := 3) rfl d_X3_fillGains_54 3 rfl ?_
      refine aw_goto (tgt := 59) d_X3_fillGains_55 rfl ?_
      obtain ⟨b10, k⟩ := k
      refine aw_iast (ws_87 w6) b10 d_X3_fillGains_59 ?_
      refine aw_iinc (v := (x2 + 1)) [(0, .ref 19), (1, .int x1), (2, .int (x2 + 1)), (3, .int r7)] d_X3_fillGains_60 2 rfl rfl (Nat.le_of_ble_eq_true rfl) rfl rfl ?_
      refine aw_goto (tgt := 12) d_X3_fillGains_63 rfl ?_
      exact aw_lvp [0, 1, 2] [(0, .ref 19), (1, .int x1), (2, .int (x2 + 1))] rfl k
theorem t_X3_fillBest (d : Nat) (h : Hp_) (w : Wf h)  (K : Hp_ → Prop) (k : Cv (m_J7_fill_53178 (d + 0) 0 0) [.ref 88, .int 0] h (fun h1 => Wf h1 ∧ (AW (m_X3_fillBest (d + 1) 0 0) 0 0 22 [(0, .ref 19), (1, .int ((1 : Int32) <<< ((h_i h1 19 3) &&& 31))), (2, .int ((h_i h1 19 2) - 1))] [] h1 (kV K)))) : Cv (m_X3_fillBest (d + 1) 0 0) [.ref 19] h K := by
  refine Ct.of (fun _ _ _ => trivial) rfl (Nat.le_of_ble_eq_true rfl) ?_
  show AW (m_X3_fillBest (d + 1) 0 0) 0 0 0 [(0, .ref 19)] [] h (kV K)
  refine aw_aload_n (i := 0) rfl d_X3_fillBest_0 0 rfl ?_
  refine aw_getr (k0 := 7) kc_3 (ws_19 w) (Nat.le_of_ble_eq_true rfl) tw_330 d_X3_fillBest_1 rfl (wr_19_7 w) ?_
  refine aw_iconst (v := 0) d_X3_fillBest_4 ic_0 ?_
  refine aw_Sv [.ref 88, .int 0] [] d_X3_fillBest_5 (cS_J7_fill_53178 (d + 0) 0 0) tw_1354 rfl (rr0 (Nat.le_of_ble_eq_true rfl) (Nat.le_of_ble_eq_true rfl)) (Nat.le_of_ble_eq_true rfl) xs0 k (fun h1 kk => ?_)
  obtain ⟨w2, k⟩ := kk
  refine aw_iconst (v := 1) d_X3_fillBest_8 ic_1 ?_
  refine aw_aload_n (i := 0) rfl d_X3_fillBest_9 0 rfl ?_
  refine aw_geti (k0 := 3) kc_3 (ws_19 w2) (Nat.le_of_ble_eq_true rfl) tw_325 d_X3_fillBest_10 rfl ?_
  refine aw_ishl d_X3_fillBest_13 ?_
  refine aw_istore_n (i := 1) rfl [(0, .ref 19), (1, .int ((1 : Int32) <<< ((h_i h1 19 3) &&& 31)))] d_X3_fillBest_14 (Nat.le_of_ble_eq_true rfl) rfl rfl ?_
  refine aw_aload_n (i := 0) rfl d_X3_fillBest_15 0 rfl ?_
  refine aw_geti (k0 := 2) kc_3 (ws_19 w2) (Nat.le_of_ble_eq_true rfl) tw_323 d_X3_fillBest_16 rfl ?_
  refine aw_iconst (v := 1) d_X3_fillBest_19 ic_1 ?_
  refine aw_isub d_X3_fillBest_20 ?_
  refine aw_istore_n (i := 2) rfl [(0, .ref 19), (1, .int ((1 : Int32) <<< ((h_i h1 19 3) &&& 31))), (2, .int ((h_i h1 19 2) - 1))] d_X3_fillBest_21 (Nat.le_of_ble_eq_true rfl) rfl rfl ?_
  exact k
theorem t_X3_fillBest_22 (d : Nat) (h : Hp_) (x1 : Int32) (x2 : Int32) (K : Hp_ → Prop) (k : (x2 < 0 → K h) ∧ (¬ x2 < 0 → AW (m_X3_fillBest (d + 1) 0 0) 0 0 28 [(0, .ref 19), (1, .int x1), (2, .int x2), (3, .int 0)] [] h (kV K))) : AW (m_X3_fillBest (d + 1) 0 0) 0 0 22 [(0, .ref 19), (1, .int x1), (2, .int x2)] [] h (kV K) := by
  refine aw_iload_n (i := 2) rfl d_X3_fillBest_22 2 rfl ?_
  refine aw_if_lt (tgt := 119) d_X3_fillBest_23 rfl (fun c4 => ?_) (fun c4 => ?_)
  · have k := k.1 c4
    exact aw_vret rfl d_X3_fillBest_119 ⟨Nat.le_refl _, Nat.le_refl _⟩ ⟨rfl, k⟩
  · have k := k.2 c4
    refine aw_iconst (v := 0) d_X3_fillBest_26 ic_0 ?_
    refine aw_istore_n (i := 3) rfl [(0, .ref 19), (1, .int x1), (2, .int x2), (3, .int 0)] d_X3_fillBest_27 (Nat.le_of_ble_eq_true rfl) rfl rfl ?_
    exact k
theorem t_X3_fillBest_28 (d : Nat) (h : Hp_) (w : Wf h) (x1 : Int32) (x2 : Int32) (x3 : Int32) (K : Hp_ → Prop) (k : (x1 ≤ x3 → AW (m_X3_fillBest (d + 1) 0 0) 0 0 22 [(0, .ref 19), (1, .int x1), (2, .int (x2 + (-1)))] [] h (kV K)) ∧ (¬ x1 ≤ x3 → vp_in (((x2 + 1) * 256) + x3) 2304 ∧ (AW (m_X3_fillBest (d + 1) 0 0) 0 0 52 [(0, .ref 19), (1, .int x1), (2, .int x2), (3, .int x3), (4, .int (h_i h 88 ((((x2 + 1) * 256) + x3) : Int32).toNatClampNeg)), (5, .int 0)] [] h (kV K)))) : AW (m_X3_fillBest (d + 1) 0 0) 0 0 28 [(0, .ref 19), (1, .int x1), (2, .int x2), (3, .int x3)] [] h (kV K) := by
  refine aw_iload_n (i := 3) rfl d_X3_fillBest_28 3 rfl ?_
  refine aw_iload_n (i := 1) rfl d_X3_fillBest_29 1 rfl ?_
  refine aw_icmp_ge (tgt := 113) d_X3_fillBest_30 rfl (fun c5 => ?_) (fun c5 => ?_)
  · have k := k.1 c5
    refine aw_iinc (v := (x2 + (-1))) [(0, .ref 19), (1, .int x1), (2, .int (x2 + (-1))), (3, .int x3)] d_X3_fillBest_113 2 rfl rfl (Nat.le_of_ble_eq_true rfl) rfl rfl ?_
    refine aw_goto (tgt := 22) d_X3_fillBest_116 rfl ?_
    exact aw_lvp [0, 1, 2] [(0, .ref 19), (1, .int x1), (2, .int (x2 + (-1)))] rfl k
  · have k := k.2 c5
    refine aw_aload_n (i := 0) rfl d_X3_fillBest_33 0 rfl ?_
    refine aw_getr (k0 := 7) kc_3 (ws_19 w) (Nat.le_of_ble_eq_true rfl) tw_330 d_X3_fillBest_34 rfl (wr_19_7 w) ?_
    refine aw_iload_n (i := 2) rfl d_X3_fillBest_37 2 rfl ?_
    refine aw_iconst (v := 1) d_X3_fillBest_38 ic_1 ?_
    refine aw_iadd d_X3_fillBest_39 ?_
    refine aw_sipush (v := 256) d_X3_fillBest_40 is_256 ?_
    refine aw_imul d_X3_fillBest_43 ?_
    refine aw_iload_n (i := 3) rfl d_X3_fillBest_44 3 rfl ?_
    refine aw_iadd d_X3_fillBest_45 ?_
    obtain ⟨b6, k⟩ := k
    refine aw_iald (ws_88 w) b6 d_X3_fillBest_46 ?_
    refine aw_istore [(0, .ref 19), (1, .int x1), (2, .int x2), (3, .int x3), (4, .int (h_i h 88 ((((x2 + 1) * 256) + x3) : Int32).toNatClampNeg))] d_X3_fillBest_47 (Nat.le_of_ble_eq_true rfl) rfl rfl ?_
    refine aw_iconst (v := 0) d_X3_fillBest_49 ic_0 ?_
    refine aw_istore [(0, .ref 19), (1, .int x1), (2, .int x2), (3, .int x3), (4, .int (h_i h 88 ((((x2 + 1) * 256) + x3) : Int32).toNatClampNeg)), (5, .int 0)] d_X3_fillBest_50 (Nat.le_of_ble_eq_true rfl) rfl rfl ?_
    exact k
theorem t_X3_fillBest_52 (d : Nat) (h : Hp_) (w : Wf h) (x1 : Int32) (x2 : Int32) (x3 : Int32) (x4 : Int32) (x5 : Int32) (K : Hp_ → Prop) (k : ((h_i h 19 3) ≤ x5 → vp_in ((x2 * 256) + x3) 2304 ∧ (AW (m_X3_fillBest (d + 1) 0 0) 0 0 28 [(0, .ref 19), (1, .int x1), (2, .int x2), (3, .int (x3 + 1))] [] (h_im h 88 (((x2 * 256) + x3) : Int32).toNatClampNeg x4) (kV K))) ∧ (¬ (h_i h 19 3) ≤ x5 → Ci (m_X3_canJoin (d + 0) 0 0) [.ref 19, .int x2, .int x5, .int x3] h (fun r11 h9 => Wf h9 ∧ ((r11 = 0 → AW (m_X3_fillBest (d + 1) 0 0) 0 0 52 [(0, .ref 19), (1, .int x1), (2, .int x2), (3, .int x3), (4, .int x4), (5, .int (x5 + 1))] [] h9 (kV K)) ∧ (¬ r11 = 0 → Ci (m_X3_sumWith (d + 0) 0 0) [.ref 19, .int x2, .int x5, .int x3] h9 (fun r15 h13 => Wf h13 ∧ (Ci (m_J9_max_7cf53 (d + 0) 0 0) [.int x4, .int r15] h13 (fun r18 h16 => Wf h16 ∧ (AW (m_X3_fillBest (d + 1) 0 0) 0 0 52 [(0, .ref 19), (1, .int x1), (2, .int x2), (3, .int x3), (4, .int r18), (5, .int (x5 + 1))] [] h16 (kV K)))))))))) : AW (m_X3_fillBest (d + 1) 0 0) 0 0 52 [(0, .ref 19), (1, .int x1), (2, .int x2), (3, .int x3), (4, .int x4), (5, .int x5)] [] h (kV K) := by
  refine aw_iload d_X3_fillBest_52 5 rfl ?_
  refine aw_aload_n (i := 0) rfl d_X3_fillBest_54 0 rfl ?_
  refine aw_geti (k0 := 3) kc_3 (ws_19 w) (Nat.le_of_ble_eq_true rfl) tw_325 d_X3_fillBest_55 rfl ?_
  refine aw_icmp_ge (tgt := 93) d_X3_fillBest_58 rfl (fun c7 => ?_) (fun c7 => ?_)
  · have k := k.1 c7
    refine aw_aload_n (i := 0) rfl d_X3_fillBest_93 0 rfl ?_
    refine aw_getr (k0 := 7) kc_3 (ws_19 w) (Nat.le_of_ble_eq_true rfl) tw_330 d_X3_fillBest_94 rfl (wr_19_7 w) ?_
    refine aw_iload_n (i := 2) rfl d_X3_fillBest_97 2 rfl ?_
    refine aw_sipush (v := 256) d_X3_fillBest_98 is_256 ?_
    refine aw_imul d_X3_fillBest_101 ?_
    refine aw_iload_n (i := 3) rfl d_X3_fillBest_102 3 rfl ?_
    refine aw_iadd d_X3_fillBest_103 ?_
    refine aw_iload d_X3_fillBest_104 4 rfl ?_
    obtain ⟨b8, k⟩ := k
    refine aw_iast (ws_88 w) b8 d_X3_fillBest_106 ?_
    refine aw_iinc (v := (x3 + 1)) [(0, .ref 19), (1, .int x1), (2, .int x2), (3, .int (x3 + 1)), (4, .int x4), (5, .int x5)] d_X3_fillBest_107 3 rfl rfl (Nat.le_of_ble_eq_true rfl) rfl rfl ?_
    refine aw_goto (tgt := 28) d_X3_fillBest_110 rfl ?_
    exact aw_lvp [0, 1, 2, 3] [(0, .ref 19), (1, .int x1), (2, .int x2), (3, .int (x3 + 1))] rfl k
  · have k := k.2 c7
    refine aw_aload_n (i := 0) rfl d_X3_fillBest_61 0 rfl ?_
    refine aw_iload_n (i := 2) rfl d_X3_fillBest_62 2 rfl ?_
    refine aw_iload d_X3_fillBest_63 5 rfl ?_
    refine aw_iload_n (i := 3) rfl d_X3_fillBest_65 3 rfl ?_
    refine aw_Vi 19 [.int x2, .int x5, .int x3] [] d_X3_fillBest_66 (cV_X3_canJoin (d + 0) 0 0) kc_3 (ws_19 w) tw_1355 rfl (rr0 (Nat.le_of_ble_eq_true rfl) (Nat.le_of_ble_eq_true rfl)) (Nat.le_of_ble_eq_true rfl) xs0 k (fun r11 h9 kk => ?_)
    obtain ⟨w10, k⟩ := kk
    refine aw_if_eq (tgt := 87) d_X3_fillBest_69 rfl (fun c12 => ?_) (fun c12 => ?_)
    · have k := k.1 c12
      refine aw_iinc (v := (x5 + 1)) [(0, .ref 19), (1, .int x1), (2, .int x2), (3, .int x3), (4, .int x4), (5, .int (x5 + 1))] d_X3_fillBest_87 5 rfl rfl (Nat.le_of_ble_eq_true rfl) rfl rfl ?_
      refine aw_goto (tgt := 52) d_X3_fillBest_90 rfl ?_
      exact k
    · have k := k.2 c12
      refine aw_iload d_X3_fillBest_72 4 rfl ?_
      refine aw_aload_n (i := 0) rfl d_X3_fillBest_74 0 rfl ?_
      refine aw_iload_n (i := 2) rfl d_X3_fillBest_75 2 rfl ?_
      refine aw_iload d_X3_fillBest_76 5 rfl ?_
      refine aw_iload_n (i := 3) rfl d_X3_fillBest_78 3 rfl ?_
      refine aw_Vi 19 [.int x2, .int x5, .int x3] [.int x4] d_X3_fillBest_79 (cV_X3_sumWith (d + 0) 0 0) kc_3 (ws_19 w10) tw_1359 rfl (rr0 (Nat.le_of_ble_eq_true rfl) (Nat.le_of_ble_eq_true rfl)) (Nat.le_of_ble_eq_true rfl) xs0 k (fun r15 h13 kk => ?_)
      obtain ⟨w14, k⟩ := kk
      refine aw_Si [.int x4, .int r15] [] d_X3_fillBest_82 (cS_J9_max_7cf53 (d + 0) 0 0) tw_1363 rfl (rr0 (Nat.le_of_ble_eq_true rfl) (Nat.le_of_ble_eq_true rfl)) (Nat.le_of_ble_eq_true rfl) xs0 k (fun r18 h16 kk => ?_)
      obtain ⟨w17, k⟩ := kk
      refine aw_istore [(0, .ref 19), (1, .int x1), (2, .int x2), (3, .int x3), (4, .int r18), (5, .int x5)] d_X3_fillBest_85 (Nat.le_of_ble_eq_true rfl) rfl rfl ?_
      refine aw_iinc (v := (x5 + 1)) [(0, .ref 19), (1, .int x1), (2, .int x2), (3, .int x3), (4, .int r18), (5, .int (x5 + 1))] d_X3_fillBest_87 5 rfl rfl (Nat.le_of_ble_eq_true rfl) rfl rfl ?_
      refine aw_goto (tgt := 52) d_X3_fillBest_90 rfl ?_
      exact k
theorem t_X3_spreadFrom (d : Nat) (h : Hp_) (w : Wf h) (x1 : Int32) (x2 : Int32) (K : Hp_ → Prop) (k : vp_in ((x1 * 256) + x2) 2304 ∧ (vp_in (((x1 + 1) * 256) + x2) 2304 ∧ ((¬ (h_i h 88 ((((x1 + 1) * 256) + x2) : Int32).toNatClampNeg) = (h_i h 88 (((x1 * 256) + x2) : Int32).toNatClampNeg) → AW (m_X3_spreadFrom (d + 1) 0 0) 0 0 61 [(0, .ref 19), (1, .int x1), (2, .int x2), (3, .int (h_i h 88 (((x1 * 256) + x2) : Int32).toNatClampNeg)), (4, .int 0)] [] h (kV K)) ∧ ((h_i h 88 ((((x1 + 1) * 256) + x2) : Int32).toNatClampNeg) = (h_i h 88 (((x1 * 256) + x2) : Int32).toNatClampNeg) → vp_in x1 8 ∧ (vp_in x1 8 ∧ (vp_in (((x1 + 1) * 256) + x2) 2304 ∧ (AW (m_X3_spreadFrom (d + 1) 0 0) 0 0 61 [(0, .ref 19), (1, .int x1), (2, .int x2), (3, .int (h_i h 88 (((x1 * 256) + x2) : Int32).toNatClampNeg)), (4, .int 0)] [] (h_im (h_im h 90 x1.toNatClampNeg ((h_i h 90 x1.toNatClampNeg) ||| 256)) 89 ((((x1 + 1) * 256) + x2) : Int32).toNatClampNeg (vp_nar .boolean 1)) (kV K)))))))) : Cv (m_X3_spreadFrom (d + 1) 0 0) [.ref 19, .int x1, .int x2] h K := by
  refine Ct.of (fun _ _ _ => trivial) rfl (Nat.le_of_ble_eq_true rfl) ?_
  show AW (m_X3_spreadFrom (d + 1) 0 0) 0 0 0 [(0, .ref 19), (1, .int x1), (2, .int x2)] [] h (kV K)
  refine aw_aload_n (i := 0) rfl d_X3_spreadFrom_0 0 rfl ?_
  refine aw_getr (k0 := 7) kc_3 (ws_19 w) (Nat.le_of_ble_eq_true rfl) tw_330 d_X3_spreadFrom_1 rfl (wr_19_7 w) ?_
  refine aw_iload_n (i := 1) rfl d_X3_spreadFrom_4 1 rfl ?_
  refine aw_sipush (v := 256) d_X3_spreadFrom_5 is_256 ?_
  refine aw_imul d_X3_spreadFrom_8 ?_
  refine aw_iload_n (i := 2) rfl d_X3_spreadFrom_9 2 rfl ?_
  refine aw_iadd d_X3_spreadFrom_10 ?_
  obtain ⟨b1, k⟩ := k
  refine aw_iald (ws_88 w) b1 d_X3_spreadFrom_11 ?_
  refine aw_istore_n (i := 3) rfl [(0, .ref 19), (1, .int x1), (2, .int x2), (3, .int (h_i h 88 (((x1 * 256) + x2) : Int32).toNatClampNeg))] d_X3_spreadFrom_12 (Nat.le_of_ble_eq_true rfl) rfl rfl ?_
  refine aw_aload_n (i := 0) rfl d_X3_spreadFrom_13 0 rfl ?_
  refine aw_getr (k0 := 7) kc_3 (ws_19 w) (Nat.le_of_ble_eq_true rfl) tw_330 d_X3_spreadFrom_14 rfl (wr_19_7 w) ?_
  refine aw_iload_n (i := 1) rfl d_X3_spreadFrom_17 1 rfl ?_
  refine aw_iconst (v := 1) d_X3_spreadFrom_18 ic_1 ?_
  refine aw_iadd d_X3_spreadFrom_19 ?_
  refine aw_sipush (v := 256) d_X3_spreadFrom_20 is_256 ?_
  refine aw_imul d_X3_spreadFrom_23 ?_
  refine aw_iload_n (i := 2) rfl d_X3_spreadFrom_24 2 rfl ?_
  refine aw_iadd d_X3_spreadFrom_25 ?_
  obtain ⟨b2, k⟩ := k
  refine aw_iald (ws_88 w) b2 d_X3_spreadFrom_26 ?_
  refine aw_iload_n (i := 3) rfl d_X3_spreadFrom_27 3 rfl ?_
  refine aw_icmp_ne (tgt := 58) d_X3_spreadFrom_28 rfl (fun c3 => ?_) (fun c3 => ?_)
  · have k := k.1 c3
    refine aw_iconst (v := 0) d_X3_spreadFrom_58 ic_0 ?_
    refine aw_istore [(0, .ref 19), (1, .int x1), (2, .int x2), (3, .int (h_i h 88 (((x1 * 256) + x2) : Int32).toNatClampNeg)), (4, .int 0)] d_X3_spreadFrom_59 (Nat.le_of_ble_eq_true rfl) rfl rfl ?_
    exact k
  · have k := k.2 c3
    refine aw_aload_n (i := 0) rfl d_X3_spreadFrom_31 0 rfl ?_
    refine aw_getr (k0 := 9) kc_3 (ws_19 w) (Nat.le_of_ble_eq_true rfl) tw_332 d_X3_spreadFrom_32 rfl (wr_19_9 w) ?_
    refine aw_iload_n (i := 1) rfl d_X3_spreadFrom_35 1 rfl ?_
    refine aw_dup2 d_X3_spreadFrom_36 ⟨rfl, rfl⟩ ?_
    obtain ⟨b4, k⟩ := k
    refine aw_iald (ws_90 w) b4 d_X3_spreadFrom_37 ?_
    refine aw_sipush (v := 256) d_X3_spreadFrom_38 is_256 ?_
    refine aw_ior d_X3_spreadFrom_41 ?_
    obtain ⟨b5, k⟩ := k
    refine aw_iast (ws_90 w) b5 d_X3_spreadFrom_42 ?_
    refine aw_aload_n (i := 0) rfl d_X3_spreadFrom_43 0 rfl ?_
    refine aw_getr (k0 := 8) kc_3 (ws_19 w) (Nat.le_of_ble_eq_true rfl) tw_331 d_X3_spreadFrom_44 rfl (wr_19_8 w) ?_
    refine aw_iload_n (i := 1) rfl d_X3_spreadFrom_47 1 rfl ?_
    refine aw_iconst (v := 1) d_X3_spreadFrom_48 ic_1 ?_
    refine aw_iadd d_X3_spreadFrom_49 ?_
    refine aw_sipush (v := 256) d_X3_spreadFrom_50 is_256 ?_
    refine aw_imul d_X3_spreadFrom_53 ?_
    refine aw_iload_n (i := 2) rfl d_X3_spreadFrom_54 2 rfl ?_
    refine aw_iadd d_X3_spreadFrom_55 ?_
    refine aw_iconst (v := 1) d_X3_spreadFrom_56 ic_1 ?_
    obtain ⟨b6, k⟩ := k
    refine aw_zast (ws_89 w) b6 d_X3_spreadFrom_57 ?_
    refine aw_iconst (v := 0) d_X3_spreadFrom_58 ic_0 ?_
    refine aw_istore [(0, .ref 19), (1, .int x1), (2, .int x2), (3, .int (h_i h 88 (((x1 * 256) + x2) : Int32).toNatClampNeg)), (4, .int 0)] d_X3_spreadFrom_59 (Nat.le_of_ble_eq_true rfl) rfl rfl ?_
    exact k
theorem t_X3_spreadFrom_61 (d : Nat) (h : Hp_) (w : Wf h) (x1 : Int32) (x2 : Int32) (x3 : Int32) (x4 : Int32) (K : Hp_ → Prop) (k : ((h_i h 19 3) ≤ x4 → K h) ∧ (¬ (h_i h 19 3) ≤ x4 → Ci (m_X3_canJoin (d + 0) 0 0) [.ref 19, .int x1, .int x4, .int x2] h (fun r10 h8 => Wf h8 ∧ ((r10 = 0 → AW (m_X3_spreadFrom (d + 1) 0 0) 0 0 61 [(0, .ref 19), (1, .int x1), (2, .int x2), (3, .int x3), (4, .int (x4 + 1))] [] h8 (kV K)) ∧ (¬ r10 = 0 → Ci (m_X3_sumWith (d + 0) 0 0) [.ref 19, .int x1, .int x4, .int x2] h8 (fun r14 h12 => Wf h12 ∧ ((¬ r14 = x3 → AW (m_X3_spreadFrom (d + 1) 0 0) 0 0 61 [(0, .ref 19), (1, .int x1), (2, .int x2), (3, .int x3), (4, .int (x4 + 1))] [] h12 (kV K)) ∧ (r14 = x3 → vp_in x1 8 ∧ (vp_in x1 8 ∧ (vp_in (((x1 + 1) * 256) + (x2 ||| ((1 : Int32) <<< (x4 &&& 31)))) 2304 ∧ (AW (m_X3_spreadFrom (d + 1) 0 0) 0 0 61 [(0, .ref 19), (1, .int x1), (2, .int x2), (3, .int x3), (4, .int (x4 + 1))] [] (h_im (h_im h12 90 x1.toNatClampNeg ((h_i h12 90 x1.toNatClampNeg) ||| ((1 : Int32) <<< (x4 &&& 31)))) 89 ((((x1 + 1) * 256) + (x2 ||| ((1 : Int32) <<< (x4 &&& 31)))) : Int32).toNatClampNeg (vp_nar .boolean 1)) (kV K)))))))))))) : AW (m_X3_spreadFrom (d + 1) 0 0) 0 0 61 [(0, .ref 19), (1, .int x1), (2, .int x2), (3, .int x3), (4, .int x4)] [] h (kV K) := by
  refine aw_iload d_X3_spreadFrom_61 4 rfl ?_
  refine aw_aload_n (i := 0) rfl d_X3_spreadFrom_63 0 rfl ?_
  refine aw_geti (k0 := 3) kc_3 (ws_19 w) (Nat.le_of_ble_eq_true rfl) tw_325 d_X3_spreadFrom_64 rfl ?_
  refine aw_icmp_ge (tgt := 132) d_X3_spreadFrom_67 rfl (fun c7 => ?_) (fun c7 => ?_)
  · have k := k.1 c7
    exact aw_vret rfl d_X3_spreadFrom_132 ⟨Nat.le_refl _, Nat.le_refl _⟩ ⟨rfl, k⟩
  · have k := k.2 c7
    refine aw_aload_n (i := 0) rfl d_X3_spreadFrom_70 0 rfl ?_
    refine aw_iload_n (i := 1) rfl d_X3_spreadFrom_71 1 rfl ?_
    refine aw_iload d_X3_spreadFrom_72 4 rfl ?_
    refine aw_iload_n (i := 2) rfl d_X3_spreadFrom_74 2 rfl ?_
    refine aw_Vi 19 [.int x1, .int x4, .int x2] [] d_X3_spreadFrom_75 (cV_X3_canJoin (d + 0) 0 0) kc_3 (ws_19 w) tw_1355 rfl (rr0 (Nat.le_of_ble_eq_true rfl) (Nat.le_of_ble_eq_true rfl)) (Nat.le_of_ble_eq_true rfl) xs0 k (fun r10 h8 kk => ?_)
    obtain ⟨w9, k⟩ := kk
    refine aw_if_eq (tgt := 126) d_X3_spreadFrom_78 rfl (fun c11 => ?_) (fun c11 => ?_)
    · have k := k.1 c11
      refine aw_iinc (v := (x4 + 1)) [(0, .ref 19), (1, .int x1), (2, .int x2), (3, .int x3), (4, .int (x4 + 1))] d_X3_spreadFrom_126 4 rfl rfl (Nat.le_of_ble_eq_true rfl) rfl rfl ?_
      refine aw_goto (tgt := 61) d_X3_spreadFrom_129 rfl ?_
      exact k
    · have k := k.2 c11
      refine aw_aload_n (i := 0) rfl d_X3_spreadFrom_81 0 rfl ?_
      refine aw_iload_n (i := 1) rfl d_X3_spreadFrom_82 1 rfl ?_
      refine aw_iload d_X3_spreadFrom_83 4 rfl ?_
      refine aw_iload_n (i := 2) rfl d_X3_spreadFrom_85 2 rfl ?_
      refine aw_Vi 19 [.int x1, .int x4, .int x2] [] d_X3_spreadFrom_86 (cV_X3_sumWith (d + 0) 0 0) kc_3 (ws_19 w9) tw_1359 rfl (rr0 (Nat.le_of_ble_eq_true rfl) (Nat.le_of_ble_eq_true rfl)) (Nat.le_of_ble_eq_true rfl) xs0 k (fun r14 h12 kk => ?_)
      obtain ⟨w13, k⟩ := kk
      refine aw_iload_n (i := 3) rfl d_X3_spreadFrom_89 3 rfl ?_
      refine aw_icmp_ne (tgt := 126) d_X3_spreadFrom_90 rfl (fun c15 => ?_) (fun c15 => ?_)
      · have k := k.1 c15
        refine aw_iinc (v := (x4 + 1)) [(0, .ref 19), (1, .int x1), (2, .int x2), (3, .int x3), (4, .int (x4 + 1))] d_X3_spreadFrom_126 4 rfl rfl (Nat.le_of_ble_eq_true rfl) rfl rfl ?_
        refine aw_goto (tgt := 61) d_X3_spreadFrom_129 rfl ?_
        exact k
      · have k := k.2 c15
        refine aw_aload_n (i := 0) rfl d_X3_spreadFrom_93 0 rfl ?_
        refine aw_getr (k0 := 9) kc_3 (ws_19 w13) (Nat.le_of_ble_eq_true rfl) tw_332 d_X3_spreadFrom_94 rfl (wr_19_9 w13) ?_
        refine aw_iload_n (i := 1) rfl d_X3_spreadFrom_97 1 rfl ?_
        refine aw_dup2 d_X3_spreadFrom_98 ⟨rfl, rfl⟩ ?_
        obtain ⟨b16, k⟩ := k
        refine aw_iald (ws_90 w13) b16 d_X3_spreadFrom_99 ?_
        refine aw_iconst (v := 1) d_X3_spreadFrom_100 ic_1 ?_
        refine aw_iload d_X3_spreadFrom_101 4 rfl ?_
        refine aw_ishl d_X3_spreadFrom_103 ?_
        refine aw_ior d_X3_spreadFrom_104 ?_
        obtain ⟨b17, k⟩ := k
        refine aw_iast (ws_90 w13) b17 d_X3_spreadFrom_105 ?_
        refine aw_aload_n (i := 0) rfl d_X3_spreadFrom_106 0 rfl ?_
        refine aw_getr (k0 := 8) kc_3 (ws_19 w13) (Nat.le_of_ble_eq_true rfl) tw_331 d_X3_spreadFrom_107 rfl (wr_19_8 w13) ?_
        refine aw_iload_n (i := 1) rfl d_X3_spreadFrom_110 1 rfl ?_
        refine aw_iconst (v := 1) d_X3_spreadFrom_111 ic_1 ?_
        refine aw_iadd d_X3_spreadFrom_112 ?_
        refine aw_sipush (v := 256) d_X3_spreadFrom_113 is_256 ?_
        refine aw_imul d_X3_spreadFrom_116 ?_
        refine aw_iload_n (i := 2) rfl d_X3_spreadFrom_117 2 rfl ?_
        refine aw_iconst (v := 1) d_X3_spreadFrom_118 ic_1 ?_
        refine aw_iload d_X3_spreadFrom_119 4 rfl ?_
        refine aw_ishl d_X3_spreadFrom_121 ?_
        refine aw_ior d_X3_spreadFrom_122 ?_
        refine aw_iadd d_X3_spreadFrom_123 ?_
        refine aw_iconst (v := 1) d_X3_spreadFrom_124 ic_1 ?_
        obtain ⟨b18, k⟩ := k
        refine aw_zast (ws_89 w13) b18 d_X3_spreadFrom_125 ?_
        refine aw_iinc (v := (x4 + 1)) [(0, .ref 19), (1, .int x1), (2, .int x2), (3, .int x3), (4, .int (x4 + 1))] d_X3_spreadFrom_126 4 rfl rfl (Nat.le_of_ble_eq_true rfl) rfl rfl ?_
        refine aw_goto (tgt := 61) d_X3_spreadFrom_129 rfl ?_
        exact k
theorem t_X3_fillFirst (d : Nat) (h : Hp_)  (K : Hp_ → Prop) (k : AW (m_X3_fillFirst (d + 1) 0 0) 0 0 4 [(0, .ref 19), (1, .int 0), (2, .int 0)] [] h (kV K)) : Cv (m_X3_fillFirst (d + 1) 0 0) [.ref 19] h K := by
  refine Ct.of (fun _ _ _ => trivial) rfl (Nat.le_of_ble_eq_true rfl) ?_
  show AW (m_X3_fillFirst (d + 1) 0 0) 0 0 0 [(0, .ref 19)] [] h (kV K)
  refine aw_iconst (v := 0) d_X3_fillFirst_0 ic_0 ?_
  refine aw_istore_n (i := 1) rfl [(0, .ref 19), (1, .int 0)] d_X3_fillFirst_1 (Nat.le_of_ble_eq_true rfl) rfl rfl ?_
  refine aw_iconst (v := 0) d_X3_fillFirst_2 ic_0 ?_
  refine aw_istore_n (i := 2) rfl [(0, .ref 19), (1, .int 0), (2, .int 0)] d_X3_fillFirst_3 (Nat.le_of_ble_eq_true rfl) rfl rfl ?_
  exact k
theorem t_X3_fillFirst_4 (d : Nat) (h : Hp_) (w : Wf h) (x1 : Int32) (x2 : Int32) (K : Hp_ → Prop) (k : ((h_i h 19 2) ≤ x2 → K h) ∧ (¬ (h_i h 19 2) ≤ x2 → vp_in x2 8 ∧ (AW (m_X3_fillFirst (d + 1) 0 0) 0 0 21 [(0, .ref 19), (1, .int x1), (2, .int x2), (3, .int 0)] [] (h_im h 91 x2.toNatClampNeg (-1)) (kV K)))) : AW (m_X3_fillFirst (d + 1) 0 0) 0 0 4 [(0, .ref 19), (1, .int x1), (2, .int x2)] [] h (kV K) := by
  refine aw_iload_n (i := 2) rfl d_X3_fillFirst_4 2 rfl ?_
  refine aw_aload_n (i := 0) rfl d_X3_fillFirst_5 0 rfl ?_
  refine aw_geti (k0 := 2) kc_3 (ws_19 w) (Nat.le_of_ble_eq_true rfl) tw_323 d_X3_fillFirst_6 rfl ?_
  refine aw_icmp_ge (tgt := 111) d_X3_fillFirst_9 rfl (fun c1 => ?_) (fun c1 => ?_)
  · have k := k.1 c1
    exact aw_vret rfl d_X3_fillFirst_111 ⟨Nat.le_refl _, Nat.le_refl _⟩ ⟨rfl, k⟩
  · have k := k.2 c1
    refine aw_aload_n (i := 0) rfl d_X3_fillFirst_12 0 rfl ?_
    refine aw_getr (k0 := 10) kc_3 (ws_19 w) (Nat.le_of_ble_eq_true rfl) tw_333 d_X3_fillFirst_13 rfl (wr_19_10 w) ?_
    refine aw_iload_n (i := 2) rfl d_X3_fillFirst_16 2 rfl ?_
    refine aw_iconst (v := (-1)) d_X3_fillFirst_17 ic_m1 ?_
    obtain ⟨b2, k⟩ := k
    refine aw_iast (ws_91 w) b2 d_X3_fillFirst_18 ?_
    refine aw_iconst (v := 0) d_X3_fillFirst_19 ic_0 ?_
    refine aw_istore_n (i := 3) rfl [(0, .ref 19), (1, .int x1), (2, .int x2), (3, .int 0)] d_X3_fillFirst_20 (Nat.le_of_ble_eq_true rfl) rfl rfl ?_
    exact k
theorem t_X3_fillFirst_21 (d : Nat) (h : Hp_) (w : Wf h) (x1 : Int32) (x2 : Int32) (x3 : Int32) (K : Hp_ → Prop) (k : ((h_i h 19 3) ≤ x3 → vp_in x2 8 ∧ (((h_i h 91 x2.toNatClampNeg) = (-1) → AW (m_X3_fillFirst (d + 1) 0 0) 0 0 4 [(0, .ref 19), (1, .int x1), (2, .int (x2 + 1))] [] h (kV K)) ∧ (¬ (h_i h 91 x2.toNatClampNeg) = (-1) → vp_in x2 8 ∧ (AW (m_X3_fillFirst (d + 1) 0 0) 0 0 4 [(0, .ref 19), (1, .int (x1 ||| ((1 : Int32) <<< ((h_i h 91 x2.toNatClampNeg) &&& 31)))), (2, .int (x2 + 1))] [] h (kV K))))) ∧ (¬ (h_i h 19 3) ≤ x3 → vp_in x2 8 ∧ ((¬ (h_i h 91 x2.toNatClampNeg) = (-1) → vp_in x2 8 ∧ (((h_i h 91 x2.toNatClampNeg) = (-1) → AW (m_X3_fillFirst (d + 1) 0 0) 0 0 4 [(0, .ref 19), (1, .int x1), (2, .int (x2 + 1))] [] h (kV K)) ∧ (¬ (h_i h 91 x2.toNatClampNeg) = (-1) → vp_in x2 8 ∧ (AW (m_X3_fillFirst (d + 1) 0 0) 0 0 4 [(0, .ref 19), (1, .int (x1 ||| ((1 : Int32) <<< ((h_i h 91 x2.toNatClampNeg) &&& 31)))), (2, .int (x2 + 1))] [] h (kV K))))) ∧ ((h_i h 91 x2.toNatClampNeg) = (-1) → Ci (m_X3_canJoin (d + 0) 0 0) [.ref 19, .int x2, .int x3, .int x1] h (fun r14 h12 => Wf h12 ∧ ((r14 = 0 → AW (m_X3_fillFirst (d + 1) 0 0) 0 0 21 [(0, .ref 19), (1, .int x1), (2, .int x2), (3, .int (x3 + 1))] [] h12 (kV K)) ∧ (¬ r14 = 0 → Ci (m_X3_sumWith (d + 0) 0 0) [.ref 19, .int x2, .int x3, .int x1] h12 (fun r18 h16 => Wf h16 ∧ (vp_in ((x2 * 256) + x1) 2304 ∧ ((¬ r18 = (h_i h16 88 (((x2 * 256) + x1) : Int32).toNatClampNeg) → AW (m_X3_fillFirst (d + 1) 0 0) 0 0 21 [(0, .ref 19), (1, .int x1), (2, .int x2), (3, .int (x3 + 1))] [] h16 (kV K)) ∧ (r18 = (h_i h16 88 (((x2 * 256) + x1) : Int32).toNatClampNeg) → vp_in x2 8 ∧ (AW (m_X3_fillFirst (d + 1) 0 0) 0 0 21 [(0, .ref 19), (1, .int x1), (2, .int x2), (3, .int (x3 + 1))] [] (h_im h16 91 x2.toNatClampNeg x3) (kV K))))))))))))) : AW (m_X3_fillFirst (d + 1) 0 0) 0 0 21 [(0, .ref 19), (1, .int x1), (2, .int x2), (3, .int x3)] [] h (kV K) := by
  refine aw_iload_n (i := 3) rfl d_X3_fillFirst_21 3 rfl ?_
  refine aw_aload_n (i := 0) rfl d_X3_fillFirst_22 0 rfl ?_
  refine aw_geti (k0 := 3) kc_3 (ws_19 w) (Nat.le_of_ble_eq_true rfl) tw_325 d_X3_fillFirst_23 rfl ?_
  refine aw_icmp_ge (tgt := 84) d_X3_fillFirst_26 rfl (fun c3 => ?_) (fun c3 => ?_)
  · have k := k.1 c3
    refine aw_aload_n (i := 0) rfl d_X3_fillFirst_84 0 rfl ?_
    refine aw_getr (k0 := 10) kc_3 (ws_19 w) (Nat.le_of_ble_eq_true rfl) tw_333 d_X3_fillFirst_85 rfl (wr_19_10 w) ?_
    refine aw_iload_n (i := 2) rfl d_X3_fillFirst_88 2 rfl ?_
    obtain ⟨b4, k⟩ := k
    refine aw_iald (ws_91 w) b4 d_X3_fillFirst_89 ?_
    refine aw_iconst (v := (-1)) d_X3_fillFirst_90 ic_m1 ?_
    refine aw_icmp_eq (tgt := 105) d_X3_fillFirst_91 rfl (fun c5 => ?_) (fun c5 => ?_)
    · have k := k.1 c5
      refine aw_iinc (v := (x2 + 1)) [(0, .ref 19), (1, .int x1), (2, .int (x2 + 1)), (3, .int x3)] d_X3_fillFirst_105 2 rfl rfl (Nat.le_of_ble_eq_true rfl) rfl rfl ?_
      refine aw_goto (tgt := 4) d_X3_fillFirst_108 rfl ?_
      exact aw_lvp [0, 1, 2] [(0, .ref 19), (1, .int x1), (2, .int (x2 + 1))] rfl k
    · have k := k.2 c5
      refine aw_iload_n (i := 1) rfl d_X3_fillFirst_94 1 rfl ?_
      refine aw_iconst (v := 1) d_X3_fillFirst_95 ic_1 ?_
      refine aw_aload_n (i := 0) rfl d_X3_fillFirst_96 0 rfl ?_
      refine aw_getr (k0 := 10) kc_3 (ws_19 w) (Nat.le_of_ble_eq_true rfl) tw_333 d_X3_fillFirst_97 rfl (wr_19_10 w) ?_
      refine aw_iload_n (i := 2) rfl d_X3_fillFirst_100 2 rfl ?_
      obtain ⟨b6, k⟩ := k
      refine aw_iald (ws_91 w) b6 d_X3_fillFirst_101 ?_
      refine aw_ishl d_X3_fillFirst_102 ?_
      refine aw_ior d_X3_fillFirst_103 ?_
      refine aw_istore_n (i := 1) rfl [(0, .ref 19), (1, .int (x1 ||| ((1 : Int32) <<< ((h_i h 91 x2.toNatClampNeg) &&& 31)))), (2, .int x2), (3, .int x3)] d_X3_fillFirst_104 (Nat.le_of_ble_eq_true rfl) rfl rfl ?_
      refine aw_iinc (v := (x2 + 1)) [(0, .ref 19), (1, .int (x1 ||| ((1 : Int32) <<< ((h_i h 91 x2.toNatClampNeg) &&& 31)))), (2, .int (x2 + 1)), (3, .int x3)] d_X3_fillFirst_105 2 rfl rfl (Nat.le_of_ble_eq_true rfl) rfl rfl ?_
      refine aw_goto (tgt := 4) d_X3_fillFirst_108 rfl ?_
      exact aw_lvp [0, 1, 2] [(0, .ref 19), (1, .int (x1 ||| ((1 : Int32) <<< ((h_i h 91 x2.toNatClampNeg) &&& 31)))), (2, .int (x2 + 1))] rfl k
  · have k := k.2 c3
    refine aw_aload_n (i := 0) rfl d_X3_fillFirst_29 0 rfl ?_
    refine aw_getr (k0 := 10) kc_3 (ws_19 w) (Nat.le_of_ble_eq_true rfl) tw_333 d_X3_fillFirst_30 rfl (wr_19_10 w) ?_
    refine aw_iload_n (i := 2) rfl d_X3_fillFirst_33 2 rfl ?_
    obtain ⟨b7, k⟩ := k
    refine aw_iald (ws_91 w) b7 d_X3_fillFirst_34 ?_
    refine aw_iconst (v := (-1)) d_X3_fillFirst_35 ic_m1 ?_
    refine aw_icmp_ne (tgt := 84) d_X3_fillFirst_36 rfl (fun c8 => ?_) (fun c8 => ?_)
    · have k := k.1 c8
      refine aw_aload_n (i := 0) rfl d_X3_fillFirst_84 0 rfl ?_
      refine aw_getr (k0 := 10) kc_3 (ws_19 w) (Nat.le_of_ble_eq_true rfl) tw_333 d_X3_fillFirst_85 rfl (wr_19_10 w) ?_
      refine aw_iload_n (i := 2) rfl d_X3_fillFirst_88 2 rfl ?_
      obtain ⟨b9, k⟩ := k
      refine aw_iald (ws_91 w) b9 d_X3_fillFirst_89 ?_
      refine aw_iconst (v := (-1)) d_X3_fillFirst_90 ic_m1 ?_
      refine aw_icmp_eq (tgt := 105) d_X3_fillFirst_91 rfl (fun c10 => ?_) (fun c10 => ?_)
      · have k := k.1 c10
        refine aw_iinc (v := (x2 + 1)) [(0, .ref 19), (1, .int x1), (2, .int (x2 + 1)), (3, .int x3)] d_X3_fillFirst_105 2 rfl rfl (Nat.le_of_ble_eq_true rfl) rfl rfl ?_
        refine aw_goto (tgt := 4) d_X3_fillFirst_108 rfl ?_
        exact aw_lvp [0, 1, 2] [(0, .ref 19), (1, .int x1), (2, .int (x2 + 1))] rfl k
      · have k := k.2 c10
        refine aw_iload_n (i := 1) rfl d_X3_fillFirst_94 1 rfl ?_
        refine aw_iconst (v := 1) d_X3_fillFirst_95 ic_1 ?_
        refine aw_aload_n (i := 0) rfl d_X3_fillFirst_96 0 rfl ?_
        refine aw_getr (k0 := 10) kc_3 (ws_19 w) (Nat.le_of_ble_eq_true rfl) tw_333 d_X3_fillFirst_97 rfl (wr_19_10 w) ?_
        refine aw_iload_n (i := 2) rfl d_X3_fillFirst_100 2 rfl ?_
        obtain ⟨b11, k⟩ := k
        refine aw_iald (ws_91 w) b11 d_X3_fillFirst_101 ?_
        refine aw_ishl d_X3_fillFirst_102 ?_
        refine aw_ior d_X3_fillFirst_103 ?_
        refine aw_istore_n (i := 1) rfl [(0, .ref 19), (1, .int (x1 ||| ((1 : Int32) <<< ((h_i h 91 x2.toNatClampNeg) &&& 31)))), (2, .int x2), (3, .int x3)] d_X3_fillFirst_104 (Nat.le_of_ble_eq_true rfl) rfl rfl ?_
        refine aw_iinc (v := (x2 + 1)) [(0, .ref 19), (1, .int (x1 ||| ((1 : Int32) <<< ((h_i h 91 x2.toNatClampNeg) &&& 31)))), (2, .int (x2 + 1)), (3, .int x3)] d_X3_fillFirst_105 2 rfl rfl (Nat.le_of_ble_eq_true rfl) rfl rfl ?_
        refine aw_goto (tgt := 4) d_X3_fillFirst_108 rfl ?_
        exact aw_lvp [0, 1, 2] [(0, .ref 19), (1, .int (x1 ||| ((1 : Int32) <<< ((h_i h 91 x2.toNatClampNeg) &&& 31)))), (2, .int (x2 + 1))] rfl k
    · have k := k.2 c8
      refine aw_aload_n (i := 0) rfl d_X3_fillFirst_39 0 rfl ?_
      refine aw_iload_n (i := 2) rfl d_X3_fillFirst_40 2 rfl ?_
      refine aw_iload_n (i := 3) rfl d_X3_fillFirst_41 3 rfl ?_
      refine aw_iload_n (i := 1) rfl d_X3_fillFirst_42 1 rfl ?_
      refine aw_Vi 19 [.int x2, .int x3, .int x1] [] d_X3_fillFirst_43 (cV_X3_canJoin (d + 0) 0 0) kc_3 (ws_19 w) tw_1355 rfl (rr0 (Nat.le_of_ble_eq_true rfl) (Nat.le_of_ble_eq_true rfl)) (Nat.le_of_ble_eq_true rfl) xs0 k (fun r14 h12 kk => ?_)
      obtain ⟨w13, k⟩ := kk
      refine aw_if_eq (tgt := 78) d_X3_fillFirst_46 rfl (fun c15 => ?_) (fun c15 => ?_)
      · have k := k.1 c15
        refine aw_iinc (v := (x3 + 1)) [(0, .ref 19), (1, .int x1), (2, .int x2), (3, .int (x3 + 1))] d_X3_fillFirst_78 3 rfl rfl (Nat.le_of_ble_eq_true rfl) rfl rfl ?_
        refine aw_goto (tgt := 21) d_X3_fillFirst_81 rfl ?_
        exact k
      · have k := k.2 c15
        refine aw_aload_n (i := 0) rfl d_X3_fillFirst_49 0 rfl ?_
        refine aw_iload_n (i := 2) rfl d_X3_fillFirst_50 2 rfl ?_
        refine aw_iload_n (i := 3) rfl d_X3_fillFirst_51 3 rfl ?_
        refine aw_iload_n (i := 1) rfl d_X3_fillFirst_52 1 rfl ?_
        refine aw_Vi 19 [.int x2, .int x3, .int x1] [] d_X3_fillFirst_53 (cV_X3_sumWith (d + 0) 0 0) kc_3 (ws_19 w13) tw_1359 rfl (rr0 (Nat.le_of_ble_eq_true rfl) (Nat.le_of_ble_eq_true rfl)) (Nat.le_of_ble_eq_true rfl) xs0 k (fun r18 h16 kk => ?_)
        obtain ⟨w17, k⟩ := kk
        refine aw_aload_n (i := 0) rfl d_X3_fillFirst_56 0 rfl ?_
        refine aw_getr (k0 := 7) kc_3 (ws_19 w17) (Nat.le_of_ble_eq_true rfl) tw_330 d_X3_fillFirst_57 rfl (wr_19_7 w17) ?_
        refine aw_iload_n (i := 2) rfl d_X3_fillFirst_60 2 rfl ?_
        refine aw_sipush (v := 256) d_X3_fillFirst_61 is_256 ?_
        refine aw_imul d_X3_fillFirst_64 ?_
        refine aw_iload_n (i := 1) rfl d_X3_fillFirst_65 1 rfl ?_
        refine aw_iadd d_X3_fillFirst_66 ?_
        obtain ⟨b19, k⟩ := k
        refine aw_iald (ws_88 w17) b19 d_X3_fillFirst_67 ?_
        refine aw_icmp_ne (tgt := 78) d_X3_fillFirst_68 rfl (fun c20 => ?_) (fun c20 => ?_)
        · have k := k.1 c20
          refine aw_iinc (v := (x3 + 1)) [(0, .ref 19), (1, .int x1), (2, .int x2), (3, .int (x3 + 1))] d_X3_fillFirst_78 3 rfl rfl (Nat.le_of_ble_eq_true rfl) rfl rfl ?_
          refine aw_goto (tgt := 21) d_X3_fillFirst_81 rfl ?_
          exact k
        · have k := k.2 c20
          refine aw_aload_n (i := 0) rfl d_X3_fillFirst_71 0 rfl ?_
          refine aw_getr (k0 := 10) kc_3 (ws_19 w17) (Nat.le_of_ble_eq_true rfl) tw_333 d_X3_fillFirst_72 rfl (wr_19_10 w17) ?_
          refine aw_iload_n (i := 2) rfl d_X3_fillFirst_75 2 rfl ?_
          refine aw_iload_n (i := 3) rfl d_X3_fillFirst_76 3 rfl ?_
          obtain ⟨b21, k⟩ := k
          refine aw_iast (ws_91 w17) b21 d_X3_fillFirst_77 ?_
          refine aw_iinc (v := (x3 + 1)) [(0, .ref 19), (1, .int x1), (2, .int x2), (3, .int (x3 + 1))] d_X3_fillFirst_78 3 rfl rfl (Nat.le_of_ble_eq_true rfl) rfl rfl ?_
          refine aw_goto (tgt := 21) d_X3_fillFirst_81 rfl ?_
          exact k
theorem t_X4_kindOf (d : Nat) (h : Hp_) (w : Wf h) (x1 : Int32) (K : Int32 → Hp_ → Prop) (k : (¬ (0 ≤ x1 ∧ x1 ≤ ((h_i h 17 7) - 1)) → K 0 h) ∧ ((0 ≤ x1 ∧ x1 ≤ ((h_i h 17 7) - 1)) → vp_in x1 80 ∧ (K (h_i h 57 x1.toNatClampNeg) h))) : Ci (m_X4_kindOf (d + 1) 0 0) [.ref 17, .int x1] h K := by
  refine Ct.of (fun _ _ _ => trivial) rfl (Nat.le_of_ble_eq_true rfl) ?_
  show AW (m_X4_kindOf (d + 1) 0 0) 0 0 0 [(0, .ref 17), (1, .int x1)] [] h (kI K)
  refine aw_iload_n (i := 1) rfl d_X4_kindOf_0 1 rfl ?_
  refine aw_iconst (v := 0) d_X4_kindOf_1 ic_0 ?_
  refine aw_aload_n (i := 0) rfl d_X4_kindOf_2 0 rfl ?_
  refine aw_geti (k0 := 7) kc_4 (ws_17 w) (Nat.le_of_ble_eq_true rfl) tw_203 d_X4_kindOf_3 rfl ?_
  refine aw_iconst (v := 1) d_X4_kindOf_6 ic_1 ?_
  refine aw_isub d_X4_kindOf_7 ?_
  refine aw_SNi [.int x1, .int 0, .int ((h_i h 17 7) - 1)] [] d_X4_kindOf_8 (cS_X11_within (d + 0) 0 0) (List.mem_of_getElem? (i := 9) rfl) rfl (rr0 (Nat.le_of_ble_eq_true rfl) (Nat.le_of_ble_eq_true rfl)) (Nat.le_of_ble_eq_true rfl) xs0 (s_X11_within _ _ x1 0 ((h_i h 17 7) - 1)) (fun _ _ kk => ?_)
  obtain ⟨e1, e2⟩ := kk
  rw [e1, e2]
  refine aw_ifb_eq (tgt := 23) d_X4_kindOf_11 rfl (fun c3 => ?_) (fun c3 => ?_)
  · have k := k.1 c3
    refine aw_iconst (v := 0) d_X4_kindOf_23 ic_0 ?_
    exact aw_iret rfl d_X4_kindOf_24 ⟨Nat.le_refl _, Nat.le_refl _⟩ ⟨_, rfl, k⟩
  · have k := k.2 c3
    refine aw_aload_n (i := 0) rfl d_X4_kindOf_14 0 rfl ?_
    refine aw_getr (k0 := 0) kc_4 (ws_17 w) (Nat.le_of_ble_eq_true rfl) tw_196 d_X4_kindOf_15 rfl (wr_17_0 w) ?_
    refine aw_iload_n (i := 1) rfl d_X4_kindOf_18 1 rfl ?_
    obtain ⟨b4, k⟩ := k
    refine aw_iald (ws_57 w) b4 d_X4_kindOf_19 ?_
    refine aw_goto (tgt := 24) d_X4_kindOf_20 rfl ?_
    exact aw_iret rfl d_X4_kindOf_24 ⟨Nat.le_refl _, Nat.le_refl _⟩ ⟨_, rfl, k⟩
theorem t_X4_canBeSeen (d : Nat) (h : Hp_) (w : Wf h) (x1 : Int32) (x2 : Int32) (x3 : Int32) (K : Int32 → Hp_ → Prop) (k : (¬ (0 ≤ x1 ∧ x1 ≤ ((h_i h 17 7) - 1)) → K 0 h) ∧ ((0 ≤ x1 ∧ x1 ≤ ((h_i h 17 7) - 1)) → (300 ≤ (h_i h 17 16) → K 0 h) ∧ (¬ 300 ≤ (h_i h 17 16) → vp_in x1 80 ∧ ((¬ (h_i h 63 x1.toNatClampNeg) = 0 → K 0 h) ∧ ((h_i h 63 x1.toNatClampNeg) = 0 → vp_in x1 80 ∧ ((¬ (h_i h 58 x1.toNatClampNeg) = x2 → K 0 h) ∧ ((h_i h 58 x1.toNatClampNeg) = x2 → vp_in x1 80 ∧ (vp_in x1 80 ∧ ((¬ ((h_i h 59 x1.toNatClampNeg) ≤ x3 ∧ x3 ≤ (h_i h 60 x1.toNatClampNeg)) → K 0 h) ∧ (((h_i h 59 x1.toNatClampNeg) ≤ x3 ∧ x3 ≤ (h_i h 60 x1.toNatClampNeg)) → K 1 h)))))))))) : Ci (m_X4_canBeSeen (d + 1) 0 0) [.ref 17, .int x1, .int x2, .int x3] h K := by
  refine Ct.of (fun _ _ _ => trivial) rfl (Nat.le_of_ble_eq_true rfl) ?_
  show AW (m_X4_canBeSeen (d + 1) 0 0) 0 0 0 [(0, .ref 17), (1, .int x1), (2, .int x2), (3, .int x3)] [] h (kI K)
  refine aw_iload_n (i := 1) rfl d_X4_canBeSeen_0 1 rfl ?_
  refine aw_iconst (v := 0) d_X4_canBeSeen_1 ic_0 ?_
  refine aw_aload_n (i := 0) rfl d_X4_canBeSeen_2 0 rfl ?_
  refine aw_geti (k0 := 7) kc_4 (ws_17 w) (Nat.le_of_ble_eq_true rfl) tw_203 d_X4_canBeSeen_3 rfl ?_
  refine aw_iconst (v := 1) d_X4_canBeSeen_6 ic_1 ?_
  refine aw_isub d_X4_canBeSeen_7 ?_
  refine aw_SNi [.int x1, .int 0, .int ((h_i h 17 7) - 1)] [] d_X4_canBeSeen_8 (cS_X11_within (d + 0) 0 0) (List.mem_of_getElem? (i := 9) rfl) rfl (rr0 (Nat.le_of_ble_eq_true rfl) (Nat.le_of_ble_eq_true rfl)) (Nat.le_of_ble_eq_true rfl) xs0 (s_X11_within _ _ x1 0 ((h_i h 17 7) - 1)) (fun _ _ kk => ?_)
  obtain ⟨e1, e2⟩ := kk
  rw [e1, e2]
  refine aw_ifb_eq (tgt := 37) d_X4_canBeSeen_11 rfl (fun c3 => ?_) (fun c3 => ?_)
  · have k := k.1 c3
    refine aw_iconst (v := 0) d_X4_canBeSeen_37 ic_0 ?_
    refine aw_istore [(0, .ref 17), (1, .int x1), (2, .int x2), (3, .int x3), (4, .int 0)] d_X4_canBeSeen_38 (Nat.le_of_ble_eq_true rfl) rfl rfl ?_
    refine aw_iload d_X4_canBeSeen_40 4 rfl ?_
    refine aw_if_eq (tgt := 78) d_X4_canBeSeen_42 rfl (fun _ => ?_) (fun c => absurd c (by decide))
    refine aw_iconst (v := 0) d_X4_canBeSeen_78 ic_0 ?_
    exact aw_zret rfl rfl d_X4_canBeSeen_79 ⟨Nat.le_refl _, Nat.le_refl _⟩ ⟨_, rfl, k⟩
  · have k := k.2 c3
    refine aw_aload_n (i := 0) rfl d_X4_canBeSeen_14 0 rfl ?_
    refine aw_geti (k0 := 16) kc_4 (ws_17 w) (Nat.le_of_ble_eq_true rfl) tw_215 d_X4_canBeSeen_15 rfl ?_
    refine aw_sipush (v := 300) d_X4_canBeSeen_18 is_300 ?_
    refine aw_icmp_ge (tgt := 37) d_X4_canBeSeen_21 rfl (fun c5 => ?_) (fun c5 => ?_)
    · have k := k.1 c5
      refine aw_iconst (v := 0) d_X4_canBeSeen_37 ic_0 ?_
      refine aw_istore [(0, .ref 17), (1, .int x1), (2, .int x2), (3, .int x3), (4, .int 0)] d_X4_canBeSeen_38 (Nat.le_of_ble_eq_true rfl) rfl rfl ?_
      refine aw_iload d_X4_canBeSeen_40 4 rfl ?_
      refine aw_if_eq (tgt := 78) d_X4_canBeSeen_42 rfl (fun _ => ?_) (fun c => absurd c (by decide))
      refine aw_iconst (v := 0) d_X4_canBeSeen_78 ic_0 ?_
      exact aw_zret rfl rfl d_X4_canBeSeen_79 ⟨Nat.le_refl _, Nat.le_refl _⟩ ⟨_, rfl, k⟩
    · have k := k.2 c5
      refine aw_aload_n (i := 0) rfl d_X4_canBeSeen_24 0 rfl ?_
      refine aw_getr (k0 := 6) kc_4 (ws_17 w) (Nat.le_of_ble_eq_true rfl) tw_202 d_X4_canBeSeen_25 rfl (wr_17_6 w) ?_
      refine aw_iload_n (i := 1) rfl d_X4_canBeSeen_28 1 rfl ?_
      obtain ⟨b7, k⟩ := k
      refine aw_zald (ws_63 w) b7 d_X4_canBeSeen_29 ?_
      refine aw_if_ne (tgt := 37) d_X4_canBeSeen_30 rfl (fun c8 => ?_) (fun c8 => ?_)
      · have k := k.1 c8
        refine aw_iconst (v := 0) d_X4_canBeSeen_37 ic_0 ?_
        refine aw_istore [(0, .ref 17), (1, .int x1), (2, .int x2), (3, .int x3), (4, .int 0)] d_X4_canBeSeen_38 (Nat.le_of_ble_eq_true rfl) rfl rfl ?_
        refine aw_iload d_X4_canBeSeen_40 4 rfl ?_
        refine aw_if_eq (tgt := 78) d_X4_canBeSeen_42 rfl (fun _ => ?_) (fun c => absurd c (by decide))
        refine aw_iconst (v := 0) d_X4_canBeSeen_78 ic_0 ?_
        exact aw_zret rfl rfl d_X4_canBeSeen_79 ⟨Nat.le_refl _, Nat.le_refl _⟩ ⟨_, rfl, k⟩
      · have k := k.2 c8
        refine aw_iconst (v := 1) d_X4_canBeSeen_33 ic_1 ?_
        refine aw_goto (tgt := 38) d_X4_canBeSeen_34 rfl ?_
        refine aw_istore [(0, .ref 17), (1, .int x1), (2, .int x2), (3, .int x3), (4, .int 1)] d_X4_canBeSeen_38 (Nat.le_of_ble_eq_true rfl) rfl rfl ?_
        refine aw_iload d_X4_canBeSeen_40 4 rfl ?_
        refine aw_if_eq (tgt := 78) d_X4_canBeSeen_42 rfl (fun c => absurd c (by decide)) (fun _ => ?_)
        refine aw_aload_n (i := 0) rfl d_X4_canBeSeen_45 0 rfl ?_
        refine aw_getr (k0 := 1) kc_4 (ws_17 w) (Nat.le_of_ble_eq_true rfl) tw_197 d_X4_canBeSeen_46 rfl (wr_17_1 w) ?_
        refine aw_iload_n (i := 1) rfl d_X4_canBeSeen_49 1 rfl ?_
        obtain ⟨b11, k⟩ := k
        refine aw_iald (ws_58 w) b11 d_X4_canBeSeen_50 ?_
        refine aw_iload_n (i := 2) rfl d_X4_canBeSeen_51 2 rfl ?_
        refine aw_icmp_ne (tgt := 78) d_X4_canBeSeen_52 rfl (fun c12 => ?_) (fun c12 => ?_)
        · have k := k.1 c12
          refine aw_iconst (v := 0) d_X4_canBeSeen_78 ic_0 ?_
          exact aw_zret rfl rfl d_X4_canBeSeen_79 ⟨Nat.le_refl _, Nat.le_refl _⟩ ⟨_, rfl, k⟩
        · have k := k.2 c12
          refine aw_iload_n (i := 3) rfl d_X4_canBeSeen_55 3 rfl ?_
          refine aw_aload_n (i := 0) rfl d_X4_canBeSeen_56 0 rfl ?_
          refine aw_getr (k0 := 2) kc_4 (ws_17 w) (Nat.le_of_ble_eq_true rfl) tw_198 d_X4_canBeSeen_57 rfl (wr_17_2 w) ?_
          refine aw_iload_n (i := 1) rfl d_X4_canBeSeen_60 1 rfl ?_
          obtain ⟨b13, k⟩ := k
          refine aw_iald (ws_59 w) b13 d_X4_canBeSeen_61 ?_
          refine aw_aload_n (i := 0) rfl d_X4_canBeSeen_62 0 rfl ?_
          refine aw_getr (k0 := 3) kc_4 (ws_17 w) (Nat.le_of_ble_eq_true rfl) tw_199 d_X4_canBeSeen_63 rfl (wr_17_3 w) ?_
          refine aw_iload_n (i := 1) rfl d_X4_canBeSeen_66 1 rfl ?_
          obtain ⟨b14, k⟩ := k
          refine aw_iald (ws_60 w) b14 d_X4_canBeSeen_67 ?_
          refine aw_SNi [.int x3, .int (h_i h 59 x1.toNatClampNeg), .int (h_i h 60 x1.toNatClampNeg)] [] d_X4_canBeSeen_68 (cS_X11_within (d + 0) 0 0) (List.mem_of_getElem? (i := 9) rfl) rfl (rr0 (Nat.le_of_ble_eq_true rfl) (Nat.le_of_ble_eq_true rfl)) (Nat.le_of_ble_eq_true rfl) xs0 (s_X11_within _ _ x3 (h_i h 59 x1.toNatClampNeg) (h_i h 60 x1.toNatClampNeg)) (fun _ _ kk => ?_)
          obtain ⟨e15, e16⟩ := kk
          rw [e15, e16]
          refine aw_ifb_eq (tgt := 78) d_X4_canBeSeen_71 rfl (fun c17 => ?_) (fun c17 => ?_)
          · have k := k.1 c17
            refine aw_iconst (v := 0) d_X4_canBeSeen_78 ic_0 ?_
            exact aw_zret rfl rfl d_X4_canBeSeen_79 ⟨Nat.le_refl _, Nat.le_refl _⟩ ⟨_, rfl, k⟩
          · have k := k.2 c17
            refine aw_iconst (v := 1) d_X4_canBeSeen_74 ic_1 ?_
            refine aw_goto (tgt := 79) d_X4_canBeSeen_75 rfl ?_
            exact aw_zret rfl rfl d_X4_canBeSeen_79 ⟨Nat.le_refl _, Nat.le_refl _⟩ ⟨_, rfl, k⟩
theorem t_X4_write (d : Nat) (h : Hp_) (w : Wf h) (x1 : Int32) (x2 : Int32) (x3 : Int32) (K : Int32 → Hp_ → Prop) (k : (300 ≤ (h_i h 17 16) → K (-1) h) ∧ (¬ 300 ≤ (h_i h 17 16) → ((0 ≤ x2 ∧ x2 ≤ ((h_i h 17 7) - 1)) → vp_in (h_i h 17 16) 300 ∧ (vp_in (h_i h 17 16) 300 ∧ (vp_in (h_i h 17 16) 300 ∧ (vp_in (h_i h 17 16) 300 ∧ (vp_in (h_i h 17 16) 300 ∧ (vp_in (h_i h 17 16) 300 ∧ (vp_in x2 80 ∧ (vp_in ((h_i h 17 16) * 9) 2700 ∧ (vp_in x2 80 ∧ (vp_in (((h_i h 17 16) * 9) + 1) 2700 ∧ (vp_in x2 80 ∧ (vp_in (((h_i h 17 16) * 9) + 2) 2700 ∧ (vp_in (((h_i h 17 16) * 9) + 3) 2700 ∧ (vp_in (((h_i h 17 16) * 9) + 4) 2700 ∧ (vp_in x2 80 ∧ (vp_in (((h_i h 17 16) * 9) + 7) 2700 ∧ (vp_in x2 80 ∧ (vp_in (((h_i h 17 16) * 9) + 8) 2700 ∧ (vp_in x2 80 ∧ (vp_in x2 80 ∧ (K (h_i h 17 16) (h_im (h_im (h_im (h_im (h_im (h_im (h_im (h_im (h_im (h_im (h_im (h_im (h_im (h_im (h_im h 64 ((h_i h 17 16) : Int32).toNatClampNeg x1) 65 ((h_i h 17 16) : Int32).toNatClampNeg x2) 66 ((h_i h 17 16) : Int32).toNatClampNeg x3) 67 ((h_i h 17 16) : Int32).toNatClampNeg 0) 68 ((h_i h 17 16) : Int32).toNatClampNeg (-1)) 69 ((h_i h 17 16) : Int32).toNatClampNeg (-1)) 17 16 ((h_i h 17 16) + 1)) 70 (((h_i h 17 16) * 9) : Int32).toNatClampNeg (h_i h 57 x2.toNatClampNeg)) 70 ((((h_i h 17 16) * 9) + 1) : Int32).toNatClampNeg (h_i h 61 x2.toNatClampNeg)) 70 ((((h_i h 17 16) * 9) + 2) : Int32).toNatClampNeg (h_i h 58 x2.toNatClampNeg)) 70 ((((h_i h 17 16) * 9) + 3) : Int32).toNatClampNeg ((x3 - x3 / 1440 * 1440) / 60)) 70 ((((h_i h 17 16) * 9) + 4) : Int32).toNatClampNeg (x3 / 1440)) 70 ((((h_i h 17 16) * 9) + 7) : Int32).toNatClampNeg (h_i h 62 x2.toNatClampNeg)) 70 ((((h_i h 17 16) * 9) + 8) : Int32).toNatClampNeg (x3 - (h_i h 59 x2.toNatClampNeg))) 62 x2.toNatClampNeg ((h_i h 62 x2.toNatClampNeg) + 1))))))))))))))))))))))) ∧ (¬ (0 ≤ x2 ∧ x2 ≤ ((h_i h 17 7) - 1)) → K (-1) h))) : Ci (m_X4_write (d + 1) 0 0) [.ref 17, .int x1, .int x2, .int x3] h K := by
  refine Ct.of (fun _ _ _ => trivial) rfl (Nat.le_of_ble_eq_true rfl) ?_
  show AW (m_X4_write (d + 1) 0 0) 0 0 0 [(0, .ref 17), (1, .int x1), (2, .int x2), (3, .int x3)] [] h (kI K)
  refine aw_aload_n (i := 0) rfl d_X4_write_0 0 rfl ?_
  refine aw_geti (k0 := 16) kc_4 (ws_17 w) (Nat.le_of_ble_eq_true rfl) tw_215 d_X4_write_1 rfl ?_
  refine aw_sipush (v := 300) d_X4_write_4 is_300 ?_
  refine aw_icmp_ge (tgt := 24) d_X4_write_7 rfl (fun c1 => ?_) (fun c1 => ?_)
  · have k := k.1 c1
    refine aw_iconst (v := (-1)) d_X4_write_24 ic_m1 ?_
    exact aw_iret rfl d_X4_write_25 ⟨Nat.le_refl _, Nat.le_refl _⟩ ⟨_, rfl, k⟩
  · have k := k.2 c1
    refine aw_iload_n (i := 2) rfl d_X4_write_10 2 rfl ?_
    refine aw_iconst (v := 0) d_X4_write_11 ic_0 ?_
    refine aw_aload_n (i := 0) rfl d_X4_write_12 0 rfl ?_
    refine aw_geti (k0 := 7) kc_4 (ws_17 w) (Nat.le_of_ble_eq_true rfl) tw_203 d_X4_write_13 rfl ?_
    refine aw_iconst (v := 1) d_X4_write_16 ic_1 ?_
    refine aw_isub d_X4_write_17 ?_
    refine aw_SNi [.int x2, .int 0, .int ((h_i h 17 7) - 1)] [] d_X4_write_18 (cS_X11_within (d + 0) 0 0) (List.mem_of_getElem? (i := 9) rfl) rfl (rr0 (Nat.le_of_ble_eq_true rfl) (Nat.le_of_ble_eq_true rfl)) (Nat.le_of_ble_eq_true rfl) xs0 (s_X11_within _ _ x2 0 ((h_i h 17 7) - 1)) (fun _ _ kk => ?_)
    obtain ⟨e2, e3⟩ := kk
    rw [e2, e3]
    refine aw_ifb_ne (tgt := 26) d_X4_write_21 rfl (fun c4 => ?_) (fun c4 => ?_)
    · have k := k.1 c4
      refine aw_aload_n (i := 0) rfl d_X4_write_26 0 rfl ?_
      refine aw_geti (k0 := 16) kc_4 (ws_17 w) (Nat.le_of_ble_eq_true rfl) tw_215 d_X4_write_27 rfl ?_
      refine aw_istore [(0, .ref 17), (1, .int x1), (2, .int x2), (3, .int x3), (4, .int (h_i h 17 16))] d_X4_write_30 (Nat.le_of_ble_eq_true rfl) rfl rfl ?_
      refine aw_aload_n (i := 0) rfl d_X4_write_32 0 rfl ?_
      refine aw_getr (k0 := 9) kc_4 (ws_17 w) (Nat.le_of_ble_eq_true rfl) tw_207 d_X4_write_33 rfl (wr_17_9 w) ?_
      refine aw_iload d_X4_write_36 4 rfl ?_
      refine aw_iload_n (i := 1) rfl d_X4_write_38 1 rfl ?_
      obtain ⟨b5, k⟩ := k
      refine aw_iast (ws_64 w) b5 d_X4_write_39 ?_
      refine aw_aload_n (i := 0) rfl d_X4_write_40 0 rfl ?_
      refine aw_getr (k0 := 10) kc_4 (ws_17 w) (Nat.le_of_ble_eq_true rfl) tw_208 d_X4_write_41 rfl (wr_17_10 w) ?_
      refine aw_iload d_X4_write_44 4 rfl ?_
      refine aw_iload_n (i := 2) rfl d_X4_write_46 2 rfl ?_
      obtain ⟨b6, k⟩ := k
      refine aw_iast (ws_65 w) b6 d_X4_write_47 ?_
      refine aw_aload_n (i := 0) rfl d_X4_write_48 0 rfl ?_
      refine aw_getr (k0 := 11) kc_4 (ws_17 w) (Nat.le_of_ble_eq_true rfl) tw_209 d_X4_write_49 rfl (wr_17_11 w) ?_
      refine aw_iload d_X4_write_52 4 rfl ?_
      refine aw_iload_n (i := 3) rfl d_X4_write_54 3 rfl ?_
      obtain ⟨b7, k⟩ := k
      refine aw_iast (ws_66 w) b7 d_X4_write_55 ?_
      refine aw_aload_n (i := 0) rfl d_X4_write_56 0 rfl ?_
      refine aw_getr (k0 := 12) kc_4 (ws_17 w) (Nat.le_of_ble_eq_true rfl) tw_210 d_X4_write_57 rfl (wr_17_12 w) ?_
      refine aw_iload d_X4_write_60 4 rfl ?_
      refine aw_iconst (v := 0) d_X4_write_62 ic_0 ?_
      obtain ⟨b8, k⟩ := k
      refine aw_iast (ws_67 w) b8 d_X4_write_63 ?_
      refine aw_aload_n (i := 0) rfl d_X4_write_64 0 rfl ?_
      refine aw_getr (k0 := 13) kc_4 (ws_17 w) (Nat.le_of_ble_eq_true rfl) tw_211 d_X4_write_65 rfl (wr_17_13 w) ?_
      refine aw_iload d_X4_write_68 4 rfl ?_
      refine aw_iconst (v := (-1)) d_X4_write_70 ic_m1 ?_
      obtain ⟨b9, k⟩ := k
      refine aw_iast (ws_68 w) b9 d_X4_write_71 ?_
      refine aw_aload_n (i := 0) rfl d_X4_write_72 0 rfl ?_
      refine aw_getr (k0 := 14) kc_4 (ws_17 w) (Nat.le_of_ble_eq_true rfl) tw_212 d_X4_write_73 rfl (wr_17_14 w) ?_
      refine aw_iload d_X4_write_76 4 rfl ?_
      refine aw_iconst (v := (-1)) d_X4_write_78 ic_m1 ?_
      obtain ⟨b10, k⟩ := k
      refine aw_iast (ws_69 w) b10 d_X4_write_79 ?_
      refine aw_aload_n (i := 0) rfl d_X4_write_80 0 rfl ?_
      refine aw_dup d_X4_write_81 rfl ?_
      refine aw_geti (k0 := 16) kc_4 (ws_17 w) (Nat.le_of_ble_eq_true rfl) tw_215 d_X4_write_82 rfl ?_
      refine aw_vi (v2 := (h_i h 17 16)) (rfl) ?_
      refine aw_iconst (v := 1) d_X4_write_85 ic_1 ?_
      refine aw_iadd d_X4_write_86 ?_
      refine aw_puti (k0 := 16) kc_4 (ws_17 w) (Nat.le_of_ble_eq_true rfl) tw_215 d_X4_write_87 rfl rfl nf_i ?_
      refine aw_iload d_X4_write_90 4 rfl ?_
      refine aw_bipush (v := 9) d_X4_write_92 ib_9 ?_
      refine aw_imul d_X4_write_94 ?_
      refine aw_istore [(0, .ref 17), (1, .int x1), (2, .int x2), (3, .int x3), (4, .int (h_i h 17 16)), (5, .int ((h_i h 17 16) * 9))] d_X4_write_95 (Nat.le_of_ble_eq_true rfl) rfl rfl ?_
      refine aw_aload_n (i := 0) rfl d_X4_write_97 0 rfl ?_
      refine aw_getr (k0 := 15) kc_4 (ws_17 w) (Nat.le_of_ble_eq_true rfl) tw_213 d_X4_write_98 rfl (wr_17_15 w) ?_
      refine aw_iload d_X4_write_101 5 rfl ?_
      refine aw_aload_n (i := 0) rfl d_X4_write_103 0 rfl ?_
      refine aw_getr (k0 := 0) kc_4 (ws_17 w) (Nat.le_of_ble_eq_true rfl) tw_196 d_X4_write_104 rfl (wr_17_0 w) ?_
      refine aw_iload_n (i := 2) rfl d_X4_write_107 2 rfl ?_
      obtain ⟨b11, k⟩ := k
      refine aw_iald (ws_57 w) b11 d_X4_write_108 ?_
      refine aw_vi (v2 := (h_i h 57 x2.toNatClampNeg)) (rfl) ?_
      obtain ⟨b12, k⟩ := k
      refine aw_iast (ws_70 w) b12 d_X4_write_109 ?_
      refine aw_aload_n (i := 0) rfl d_X4_write_110 0 rfl ?_
      refine aw_getr (k0 := 15) kc_4 (ws_17 w) (Nat.le_of_ble_eq_true rfl) tw_213 d_X4_write_111 rfl (wr_17_15 w) ?_
      refine aw_iload d_X4_write_114 5 rfl ?_
      refine aw_iconst (v := 1) d_X4_write_116 ic_1 ?_
      refine aw_iadd d_X4_write_117 ?_
      refine aw_aload_n (i := 0) rfl d_X4_write_118 0 rfl ?_
      refine aw_getr (k0 := 4) kc_4 (ws_17 w) (Nat.le_of_ble_eq_true rfl) tw_200 d_X4_write_119 rfl (wr_17_4 w) ?_
      refine aw_iload_n (i := 2) rfl d_X4_write_122 2 rfl ?_
      obtain ⟨b13, k⟩ := k
      refine aw_iald (ws_61 w) b13 d_X4_write_123 ?_
      refine aw_vi (v2 := (h_i h 61 x2.toNatClampNeg)) (rfl) ?_
      obtain ⟨b14, k⟩ := k
      refine aw_iast (ws_70 w) b14 d_X4_write_124 ?_
      refine aw_aload_n (i := 0) rfl d_X4_write_125 0 rfl ?_
      refine aw_getr (k0 := 15) kc_4 (ws_17 w) (Nat.le_of_ble_eq_true rfl) tw_213 d_X4_write_126 rfl (wr_17_15 w) ?_
      refine aw_iload d_X4_write_129 5 rfl ?_
      refine aw_iconst (v := 2) d_X4_write_131 ic_2 ?_
      refine aw_iadd d_X4_write_132 ?_
      refine aw_aload_n (i := 0) rfl d_X4_write_133 0 rfl ?_
      refine aw_getr (k0 := 1) kc_4 (ws_17 w) (Nat.le_of_ble_eq_true rfl) tw_197 d_X4_write_134 rfl (wr_17_1 w) ?_
      refine aw_iload_n (i := 2) rfl d_X4_write_137 2 rfl ?_
      obtain ⟨b15, k⟩ := k
      refine aw_iald (ws_58 w) b15 d_X4_write_138 ?_
      refine aw_vi (v2 := (h_i h 58 x2.toNatClampNeg)) (rfl) ?_
      obtain ⟨b16, k⟩ := k
      refine aw_iast (ws_70 w) b16 d_X4_write_139 ?_
      refine aw_aload_n (i := 0) rfl d_X4_write_140 0 rfl ?_
      refine aw_getr (k0 := 15) kc_4 (ws_17 w) (Nat.le_of_ble_eq_true rfl) tw_213 d_X4_write_141 rfl (wr_17_15 w) ?_
      refine aw_iload d_X4_write_144 5 rfl ?_
      refine aw_iconst (v := 3) d_X4_write_146 ic_3 ?_
      refine aw_iadd d_X4_write_147 ?_
      refine aw_iload_n (i := 3) rfl d_X4_write_148 3 rfl ?_
      refine aw_sipush (v := 1440) d_X4_write_149 is_1440 ?_
      refine aw_irem d_X4_write_152 (by decide) ?_
      refine aw_bipush (v := 60) d_X4_write_153 ib_60 ?_
      refine aw_idiv d_X4_write_155 (by decide) ?_
      obtain ⟨b17, k⟩ := k
      refine aw_iast (ws_70 w) b17 d_X4_write_156 ?_
      refine aw_aload_n (i := 0) rfl d_X4_write_157 0 rfl ?_
      refine aw_getr (k0 := 15) kc_4 (ws_17 w) (Nat.le_of_ble_eq_true rfl) tw_213 d_X4_write_158 rfl (wr_17_15 w) ?_
      refine aw_iload d_X4_write_161 5 rfl ?_
      refine aw_iconst (v := 4) d_X4_write_163 ic_4 ?_
      refine aw_iadd d_X4_write_164 ?_
      refine aw_iload_n (i := 3) rfl d_X4_write_165 3 rfl ?_
      refine aw_sipush (v := 1440) d_X4_write_166 is_1440 ?_
      refine aw_idiv d_X4_write_169 (by decide) ?_
      obtain ⟨b18, k⟩ := k
      refine aw_iast (ws_70 w) b18 d_X4_write_170 ?_
      refine aw_aload_n (i := 0) rfl d_X4_write_171 0 rfl ?_
      refine aw_getr (k0 := 15) kc_4 (ws_17 w) (Nat.le_of_ble_eq_true rfl) tw_213 d_X4_write_172 rfl (wr_17_15 w) ?_
      refine aw_iload d_X4_write_175 5 rfl ?_
      refine aw_bipush (v := 7) d_X4_write_177 ib_7 ?_
      refine aw_iadd d_X4_write_179 ?_
      refine aw_aload_n (i := 0) rfl d_X4_write_180 0 rfl ?_
      refine aw_getr (k0 := 5) kc_4 (ws_17 w) (Nat.le_of_ble_eq_true rfl) tw_201 d_X4_write_181 rfl (wr_17_5 w) ?_
      refine aw_iload_n (i := 2) rfl d_X4_write_184 2 rfl ?_
      obtain ⟨b19, k⟩ := k
      refine aw_iald (ws_62 w) b19 d_X4_write_185 ?_
      refine aw_vi (v2 := (h_i h 62 x2.toNatClampNeg)) (rfl) ?_
      obtain ⟨b20, k⟩ := k
      refine aw_iast (ws_70 w) b20 d_X4_write_186 ?_
      refine aw_aload_n (i := 0) rfl d_X4_write_187 0 rfl ?_
      refine aw_getr (k0 := 15) kc_4 (ws_17 w) (Nat.le_of_ble_eq_true rfl) tw_213 d_X4_write_188 rfl (wr_17_15 w) ?_
      refine aw_iload d_X4_write_191 5 rfl ?_
      refine aw_bipush (v := 8) d_X4_write_193 ib_8 ?_
      refine aw_iadd d_X4_write_195 ?_
      refine aw_iload_n (i := 3) rfl d_X4_write_196 3 rfl ?_
      refine aw_aload_n (i := 0) rfl d_X4_write_197 0 rfl ?_
      refine aw_getr (k0 := 2) kc_4 (ws_17 w) (Nat.le_of_ble_eq_true rfl) tw_198 d_X4_write_198 rfl (wr_17_2 w) ?_
      refine aw_iload_n (i := 2) rfl d_X4_write_201 2 rfl ?_
      obtain ⟨b21, k⟩ := k
      refine aw_iald (ws_59 w) b21 d_X4_write_202 ?_
      refine aw_vi (v2 := (h_i h 59 x2.toNatClampNeg)) (rfl) ?_
      refine aw_isub d_X4_write_203 ?_
      obtain ⟨b22, k⟩ := k
      refine aw_iast (ws_70 w) b22 d_X4_write_204 ?_
      refine aw_aload_n (i := 0) rfl d_X4_write_205 0 rfl ?_
      refine aw_getr (k0 := 5) kc_4 (ws_17 w) (Nat.le_of_ble_eq_true rfl) tw_201 d_X4_write_206 rfl (wr_17_5 w) ?_
      refine aw_iload_n (i := 2) rfl d_X4_write_209 2 rfl ?_
      refine aw_dup2 d_X4_write_210 ⟨rfl, rfl⟩ ?_
      obtain ⟨b23, k⟩ := k
      refine aw_iald (ws_62 w) b23 d_X4_write_211 ?_
      refine aw_vi (v2 := (h_i h 62 x2.toNatClampNeg)) (rfl) ?_
      refine aw_iconst (v := 1) d_X4_write_212 ic_1 ?_
      refine aw_iadd d_X4_write_213 ?_
      obtain ⟨b24, k⟩ := k
      refine aw_iast (ws_62 w) b24 d_X4_write_214 ?_
      refine aw_iload d_X4_write_215 4 rfl ?_
      exact aw_iret rfl d_X4_write_217 ⟨Nat.le_refl _, Nat.le_refl _⟩ ⟨_, rfl, k⟩
    · have k := k.2 c4
      refine aw_iconst (v := (-1)) d_X4_write_24 ic_m1 ?_
      exact aw_iret rfl d_X4_write_25 ⟨Nat.le_refl _, Nat.le_refl _⟩ ⟨_, rfl, k⟩
