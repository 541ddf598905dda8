theorem t_X12_should (d : Nat) (h : Hp_) (w : Wf h) (x1 : Int32) (x2 : Int32) (K : Int32 → Hp_ → Prop) (k : (¬ (0 ≤ x1 ∧ x1 ≤ ((h_i h 1 80) - 1)) → K (-1) h) ∧ ((0 ≤ x1 ∧ x1 ≤ ((h_i h 1 80) - 1)) → vp_in x1 300 ∧ ((¬ ((h_i h 257 x1.toNatClampNeg) ≤ x2 ∧ x2 ≤ (h_i h 1 0)) → K (-1) h) ∧ (((h_i h 257 x1.toNatClampNeg) ≤ x2 ∧ x2 ≤ (h_i h 1 0)) → Ci (m_X12_lets (d + 6) 0 0) [.ref 1, .int x1, .int x2] h (fun r10 h8 => Wf h8 ∧ (K r10 h8)))))) : Ci (m_X12_should (d + 7) 0 0) [.ref 1, .int x1, .int x2] h K := by
  refine Ct.of (fun _ _ _ => trivial) rfl (Nat.le_of_ble_eq_true rfl) ?_
  show AW (m_X12_should (d + 7) 0 0) 0 0 0 [(0, .ref 1), (1, .int x1), (2, .int x2)] [] h (kI K)
  refine aw_iload_n (i := 1) rfl d_X12_should_0 1 rfl ?_
  refine aw_iconst (v := 0) d_X12_should_1 ic_0 ?_
  refine aw_aload_n (i := 0) rfl d_X12_should_2 0 rfl ?_
  refine aw_geti (k0 := 80) kc_12 (ws_1 w) (Nat.le_of_ble_eq_true rfl) tw_1822 d_X12_should_3 rfl ?_
  refine aw_iconst (v := 1) d_X12_should_6 ic_1 ?_
  refine aw_isub d_X12_should_7 ?_
  refine aw_Si [.int x1, .int 0, .int ((h_i h 1 80) - 1)] [] d_X12_should_8 (cS_X12_in (d + 0) 0 0) tw_2147 rfl (rr0 (Nat.le_of_ble_eq_true rfl) (Nat.le_of_ble_eq_true rfl)) (Nat.le_of_ble_eq_true rfl) xs0 (s_X12_in _ _ x1 0 ((h_i h 1 80) - 1)) (fun _ _ kk => ?_)
  obtain ⟨e1, e2⟩ := kk
  rw [e1, e2]
  refine aw_ifb_eq (tgt := 40) d_X12_should_11 rfl (fun c3 => ?_) (fun c3 => ?_)
  · have k := k.1 c3
    refine aw_iconst (v := (-1)) d_X12_should_40 ic_m1 ?_
    exact aw_iret rfl d_X12_should_41 ⟨Nat.le_refl _, Nat.le_refl _⟩ ⟨_, rfl, k⟩
  · have k := k.2 c3
    refine aw_iload_n (i := 2) rfl d_X12_should_14 2 rfl ?_
    refine aw_aload_n (i := 0) rfl d_X12_should_15 0 rfl ?_
    refine aw_getr (k0 := 74) kc_12 (ws_1 w) (Nat.le_of_ble_eq_true rfl) tw_1816 d_X12_should_16 rfl (wr_1_74 w) ?_
    refine aw_iload_n (i := 1) rfl d_X12_should_19 1 rfl ?_
    obtain ⟨b4, k⟩ := k
    refine aw_iald (ws_257 w) b4 d_X12_should_20 ?_
    refine aw_aload_n (i := 0) rfl d_X12_should_21 0 rfl ?_
    refine aw_geti (k0 := 0) kc_12 (ws_1 w) (Nat.le_of_ble_eq_true rfl) tw_1742 d_X12_should_22 rfl ?_
    refine aw_Si [.int x2, .int (h_i h 257 x1.toNatClampNeg), .int (h_i h 1 0)] [] d_X12_should_25 (cS_X12_in (d + 0) 0 0) tw_2147 rfl (rr0 (Nat.le_of_ble_eq_true rfl) (Nat.le_of_ble_eq_true rfl)) (Nat.le_of_ble_eq_true rfl) xs0 (s_X12_in _ _ x2 (h_i h 257 x1.toNatClampNeg) (h_i h 1 0)) (fun _ _ kk => ?_)
    obtain ⟨e5, e6⟩ := kk
    rw [e5, e6]
    refine aw_ifb_eq (tgt := 40) d_X12_should_28 rfl (fun c7 => ?_) (fun c7 => ?_)
    · have k := k.1 c7
      refine aw_iconst (v := (-1)) d_X12_should_40 ic_m1 ?_
      exact aw_iret rfl d_X12_should_41 ⟨Nat.le_refl _, Nat.le_refl _⟩ ⟨_, rfl, k⟩
    · have k := k.2 c7
      refine aw_aload_n (i := 0) rfl d_X12_should_31 0 rfl ?_
      refine aw_iload_n (i := 1) rfl d_X12_should_32 1 rfl ?_
      refine aw_iload_n (i := 2) rfl d_X12_should_33 2 rfl ?_
      refine aw_Vi 1 [.int x1, .int x2] [] d_X12_should_34 (cV_X12_lets (d + 6) 0 0) kc_12 (ws_1 w) tw_2400 rfl (rr0 (Nat.le_of_ble_eq_true rfl) (Nat.le_of_ble_eq_true rfl)) (Nat.le_of_ble_eq_true rfl) xs0 k (fun r10 h8 kk => ?_)
      obtain ⟨w9, k⟩ := kk
      refine aw_goto (tgt := 41) d_X12_should_37 rfl ?_
      exact aw_iret rfl d_X12_should_41 ⟨Nat.le_refl _, Nat.le_refl _⟩ ⟨_, rfl, k⟩
theorem t_X12_payOf (d : Nat) (h : Hp_) (x1 : Int32) (x2 : Int32) (x3 : Int32) (K : Int32 → Hp_ → Prop) (k : AW (m_X12_payOf (d + 7) 0 0) 0 0 9 [(0, .ref 1), (1, .int x1), (2, .int x2), (3, .int x3), (4, .int 0), (5, .int 0), (6, .int 0)] [] h (kI K)) : Ci (m_X12_payOf (d + 7) 0 0) [.ref 1, .int x1, .int x2, .int x3] h K := by
  refine Ct.of (fun _ _ _ => trivial) rfl (Nat.le_of_ble_eq_true rfl) ?_
  show AW (m_X12_payOf (d + 7) 0 0) 0 0 0 [(0, .ref 1), (1, .int x1), (2, .int x2), (3, .int x3)] [] h (kI K)
  refine aw_iconst (v := 0) d_X12_payOf_0 ic_0 ?_
  refine aw_istore [(0, .ref 1), (1, .int x1), (2, .int x2), (3, .int x3), (4, .int 0)] d_X12_payOf_1 (Nat.le_of_ble_eq_true rfl) rfl rfl ?_
  refine aw_iconst (v := 0) d_X12_payOf_3 ic_0 ?_
  refine aw_istore [(0, .ref 1), (1, .int x1), (2, .int x2), (3, .int x3), (4, .int 0), (5, .int 0)] d_X12_payOf_4 (Nat.le_of_ble_eq_true rfl) rfl rfl ?_
  refine aw_iconst (v := 0) d_X12_payOf_6 ic_0 ?_
  refine aw_istore [(0, .ref 1), (1, .int x1), (2, .int x2), (3, .int x3), (4, .int 0), (5, .int 0), (6, .int 0)] d_X12_payOf_7 (Nat.le_of_ble_eq_true rfl) rfl rfl ?_
  exact k
theorem t_X12_payOf_9 (d : Nat) (h : Hp_) (w : Wf h) (x1 : Int32) (x2 : Int32) (x3 : Int32) (x4 : Int32) (x5 : Int32) (x6 : Int32) (K : Int32 → Hp_ → Prop) (k : ((h_i h 1 63) ≤ x6 → AW (m_X12_payOf (d + 7) 0 0) 0 0 128 [(0, .ref 1), (1, .int x1), (2, .int x2), (3, .int x3), (4, .int x4), (5, .int x5), (6, .int 0), (7, .int 0), (8, .int 0)] [] h (kI K)) ∧ (¬ (h_i h 1 63) ≤ x6 → vp_in x6 400 ∧ ((¬ (h_i h 238 x6.toNatClampNeg) = x1 → AW (m_X12_payOf (d + 7) 0 0) 0 0 9 [(0, .ref 1), (1, .int x1), (2, .int x2), (3, .int x3), (4, .int x4), (5, .int x5), (6, .int (x6 + 1))] [] h (kI K)) ∧ ((h_i h 238 x6.toNatClampNeg) = x1 → vp_in x6 400 ∧ ((((h_i h 240 x6.toNatClampNeg) / 1440) = x2 → Ci (m_X12_stateOf (d + 0) 0 0) [.ref 1, .int x6, .int x3] h (fun r8 h6 => Wf h6 ∧ ((¬ r8 = 2 → (¬ r8 = 1 → AW (m_X12_payOf (d + 7) 0 0) 0 0 9 [(0, .ref 1), (1, .int x1), (2, .int x2), (3, .int x3), (4, .int (x4 + 0)), (5, .int (x5 + 0)), (6, .int (x6 + 1))] [] h6 (kI K)) ∧ (r8 = 1 → AW (m_X12_payOf (d + 7) 0 0) 0 0 9 [(0, .ref 1), (1, .int x1), (2, .int x2), (3, .int x3), (4, .int (x4 + 1)), (5, .int (x5 + 0)), (6, .int (x6 + 1))] [] h6 (kI K))) ∧ (r8 = 2 → Ci (m_X12_causeOf (d + 0) 0 0) [.ref 1, .int x6, .int x3] h6 (fun r17 h15 => Wf h15 ∧ ((¬ r8 = 1 → (r17 = 1 → AW (m_X12_payOf (d + 7) 0 0) 0 0 9 [(0, .ref 1), (1, .int x1), (2, .int x2), (3, .int x3), (4, .int (x4 + 0)), (5, .int (x5 + 1)), (6, .int (x6 + 1))] [] h15 (kI K)) ∧ (¬ r17 = 1 → (r17 < 5 → AW (m_X12_payOf (d + 7) 0 0) 0 0 9 [(0, .ref 1), (1, .int x1), (2, .int x2), (3, .int x3), (4, .int (x4 + 0)), (5, .int (x5 + 0)), (6, .int (x6 + 1))] [] h15 (kI K)) ∧ (¬ r17 < 5 → AW (m_X12_payOf (d + 7) 0 0) 0 0 9 [(0, .ref 1), (1, .int x1), (2, .int x2), (3, .int x3), (4, .int (x4 + 0)), (5, .int (x5 + 1)), (6, .int (x6 + 1))] [] h15 (kI K)))) ∧ (r8 = 1 → (r17 = 1 → AW (m_X12_payOf (d + 7) 0 0) 0 0 9 [(0, .ref 1), (1, .int x1), (2, .int x2), (3, .int x3), (4, .int (x4 + 1)), (5, .int (x5 + 1)), (6, .int (x6 + 1))] [] h15 (kI K)) ∧ (¬ r17 = 1 → (r17 < 5 → AW (m_X12_payOf (d + 7) 0 0) 0 0 9 [(0, .ref 1), (1, .int x1), (2, .int x2), (3, .int x3), (4, .int (x4 + 1)), (5, .int (x5 + 0)), (6, .int (x6 + 1))] [] h15 (kI K)) ∧ (¬ r17 < 5 → AW (m_X12_payOf (d + 7) 0 0) 0 0 9 [(0, .ref 1), (1, .int x1), (2, .int x2), (3, .int x3), (4, .int (x4 + 1)), (5, .int (x5 + 1)), (6, .int (x6 + 1))] [] h15 (kI K)))))))))) ∧ (¬ ((h_i h 240 x6.toNatClampNeg) / 1440) = x2 → AW (m_X12_payOf (d + 7) 0 0) 0 0 9 [(0, .ref 1), (1, .int x1), (2, .int x2), (3, .int x3), (4, .int x4), (5, .int x5), (6, .int (x6 + 1))] [] h (kI K))))))) : AW (m_X12_payOf (d + 7) 0 0) 0 0 9 [(0, .ref 1), (1, .int x1), (2, .int x2), (3, .int x3), (4, .int x4), (5, .int x5), (6, .int x6)] [] h (kI K) := by
  refine aw_iload d_X12_payOf_9 6 rfl ?_
  refine aw_aload_n (i := 0) rfl d_X12_payOf_11 0 rfl ?_
  refine aw_geti (k0 := 63) kc_12 (ws_1 w) (Nat.le_of_ble_eq_true rfl) tw_1805 d_X12_payOf_12 rfl ?_
  refine aw_icmp_ge (tgt := 119) d_X12_payOf_15 rfl (fun c1 => ?_) (fun c1 => ?_)
  · have k := k.1 c1
    refine aw_iconst (v := 0) d_X12_payOf_119 ic_0 ?_
    refine aw_istore [(0, .ref 1), (1, .int x1), (2, .int x2), (3, .int x3), (4, .int x4), (5, .int x5), (6, .int 0)] d_X12_payOf_120 (Nat.le_of_ble_eq_true rfl) rfl rfl ?_
    refine aw_iconst (v := 0) d_X12_payOf_122 ic_0 ?_
    refine aw_istore [(0, .ref 1), (1, .int x1), (2, .int x2), (3, .int x3), (4, .int x4), (5, .int x5), (6, .int 0), (7, .int 0)] d_X12_payOf_123 (Nat.le_of_ble_eq_true rfl) rfl rfl ?_
    refine aw_iconst (v := 0) d_X12_payOf_125 ic_0 ?_
    refine aw_istore [(0, .ref 1), (1, .int x1), (2, .int x2), (3, .int x3), (4, .int x4), (5, .int x5), (6, .int 0), (7, .int 0), (8, .int 0)] d_X12_payOf_126 (Nat.le_of_ble_eq_true rfl) rfl rfl ?_
    exact k
  · have k := k.2 c1
    refine aw_aload_n (i := 0) rfl d_X12_payOf_18 0 rfl ?_
    refine aw_getr (k0 := 53) kc_12 (ws_1 w) (Nat.le_of_ble_eq_true rfl) tw_1795 d_X12_payOf_19 rfl (wr_1_53 w) ?_
    refine aw_iload d_X12_payOf_22 6 rfl ?_
    obtain ⟨b2, k⟩ := k
    refine aw_iald (ws_238 w) b2 d_X12_payOf_24 ?_
    refine aw_iload_n (i := 1) rfl d_X12_payOf_25 1 rfl ?_
    refine aw_icmp_ne (tgt := 113) d_X12_payOf_26 rfl (fun c3 => ?_) (fun c3 => ?_)
    · have k := k.1 c3
      refine aw_iinc (v := (x6 + 1)) [(0, .ref 1), (1, .int x1), (2, .int x2), (3, .int x3), (4, .int x4), (5, .int x5), (6, .int (x6 + 1))] d_X12_payOf_113 6 rfl rfl (Nat.le_of_ble_eq_true rfl) rfl rfl ?_
      refine aw_goto (tgt := 9) d_X12_payOf_116 rfl ?_
      exact k
    · have k := k.2 c3
      refine aw_aload_n (i := 0) rfl d_X12_payOf_29 0 rfl ?_
      refine aw_getr (k0 := 55) kc_12 (ws_1 w) (Nat.le_of_ble_eq_true rfl) tw_1797 d_X12_payOf_30 rfl (wr_1_55 w) ?_
      refine aw_iload d_X12_payOf_33 6 rfl ?_
      obtain ⟨b4, k⟩ := k
      refine aw_iald (ws_240 w) b4 d_X12_payOf_35 ?_
      refine aw_sipush (v := 1440) d_X12_payOf_36 is_1440 ?_
      refine aw_idiv d_X12_payOf_39 (by decide) ?_
      refine aw_iload_n (i := 2) rfl d_X12_payOf_40 2 rfl ?_
      refine aw_icmp_eq (tgt := 47) d_X12_payOf_41 rfl (fun c5 => ?_) (fun c5 => ?_)
      · have k := k.1 c5
        refine aw_aload_n (i := 0) rfl d_X12_payOf_47 0 rfl ?_
        refine aw_iload d_X12_payOf_48 6 rfl ?_
        refine aw_iload_n (i := 3) rfl d_X12_payOf_50 3 rfl ?_
        refine aw_Vi 1 [.int x6, .int x3] [] d_X12_payOf_51 (cV_X12_stateOf (d + 0) 0 0) kc_12 (ws_1 w) tw_2320 rfl (rr0 (Nat.le_of_ble_eq_true rfl) (Nat.le_of_ble_eq_true rfl)) (Nat.le_of_ble_eq_true rfl) xs0 k (fun r8 h6 kk => ?_)
        obtain ⟨w7, k⟩ := kk
        refine aw_istore [(0, .ref 1), (1, .int x1), (2, .int x2), (3, .int x3), (4, .int x4), (5, .int x5), (6, .int x6), (7, .int r8)] d_X12_payOf_54 (Nat.le_of_ble_eq_true rfl) rfl rfl ?_
        refine aw_iload d_X12_payOf_56 7 rfl ?_
        refine aw_iconst (v := 2) d_X12_payOf_58 ic_2 ?_
        refine aw_icmp_ne (tgt := 72) d_X12_payOf_59 rfl (fun c9 => ?_) (fun c9 => ?_)
        · have k := k.1 c9
          refine aw_iconst (v := 0) d_X12_payOf_72 ic_0 ?_
          refine aw_istore [(0, .ref 1), (1, .int x1), (2, .int x2), (3, .int x3), (4, .int x4), (5, .int x5), (6, .int x6), (7, .int r8), (8, .int 0)] d_X12_payOf_73 (Nat.le_of_ble_eq_true rfl) rfl rfl ?_
          refine aw_iload d_X12_payOf_75 4 rfl ?_
          refine aw_iload d_X12_payOf_77 7 rfl ?_
          refine aw_iconst (v := 1) d_X12_payOf_79 ic_1 ?_
          refine aw_icmp_ne (tgt := 87) d_X12_payOf_80 rfl (fun c10 => ?_) (fun c10 => ?_)
          · have k := k.1 c10
            refine aw_iconst (v := 0) d_X12_payOf_87 ic_0 ?_
            refine aw_iadd d_X12_payOf_88 ?_
            refine aw_istore [(0, .ref 1), (1, .int x1), (2, .int x2), (3, .int x3), (4, .int (x4 + 0)), (5, .int x5), (6, .int x6), (7, .int r8), (8, .int 0)] d_X12_payOf_89 (Nat.le_of_ble_eq_true rfl) rfl rfl ?_
            refine aw_iload d_X12_payOf_91 5 rfl ?_
            refine aw_iload d_X12_payOf_93 8 rfl ?_
            refine aw_iconst (v := 1) d_X12_payOf_95 ic_1 ?_
            refine aw_icmp_eq (tgt := 105) d_X12_payOf_96 rfl (fun c => absurd c (by decide)) (fun _ => ?_)
            refine aw_iload d_X12_payOf_99 8 rfl ?_
            refine aw_iconst (v := 5) d_X12_payOf_101 ic_5 ?_
            refine aw_icmp_lt (tgt := 109) d_X12_payOf_102 rfl (fun _ => ?_) (fun c => absurd c (by decide))
            refine aw_iconst (v := 0) d_X12_payOf_109 ic_0 ?_
            refine aw_iadd d_X12_payOf_110 ?_
            refine aw_istore [(0, .ref 1), (1, .int x1), (2, .int x2), (3, .int x3), (4, .int (x4 + 0)), (5, .int (x5 + 0)), (6, .int x6), (7, .int r8), (8, .int 0)] d_X12_payOf_111 (Nat.le_of_ble_eq_true rfl) rfl rfl ?_
            refine aw_iinc (v := (x6 + 1)) [(0, .ref 1), (1, .int x1), (2, .int x2), (3, .int x3), (4, .int (x4 + 0)), (5, .int (x5 + 0)), (6, .int (x6 + 1)), (7, .int r8), (8, .int 0)] d_X12_payOf_113 6 rfl rfl (Nat.le_of_ble_eq_true rfl) rfl rfl ?_
            refine aw_goto (tgt := 9) d_X12_payOf_116 rfl ?_
            exact aw_lvp [0, 1, 2, 3, 4, 5, 6] [(0, .ref 1), (1, .int x1), (2, .int x2), (3, .int x3), (4, .int (x4 + 0)), (5, .int (x5 + 0)), (6, .int (x6 + 1))] rfl k
          · have k := k.2 c10
            refine aw_iconst (v := 1) d_X12_payOf_83 ic_1 ?_
            refine aw_goto (tgt := 88) d_X12_payOf_84 rfl ?_
            refine aw_iadd d_X12_payOf_88 ?_
            refine aw_istore [(0, .ref 1), (1, .int x1), (2, .int x2), (3, .int x3), (4, .int (x4 + 1)), (5, .int x5), (6, .int x6), (7, .int r8), (8, .int 0)] d_X12_payOf_89 (Nat.le_of_ble_eq_true rfl) rfl rfl ?_
            refine aw_iload d_X12_payOf_91 5 rfl ?_
            refine aw_iload d_X12_payOf_93 8 rfl ?_
            refine aw_iconst (v := 1) d_X12_payOf_95 ic_1 ?_
            refine aw_icmp_eq (tgt := 105) d_X12_payOf_96 rfl (fun c => absurd c (by decide)) (fun _ => ?_)
            refine aw_iload d_X12_payOf_99 8 rfl ?_
            refine aw_iconst (v := 5) d_X12_payOf_101 ic_5 ?_
            refine aw_icmp_lt (tgt := 109) d_X12_payOf_102 rfl (fun _ => ?_) (fun c => absurd c (by decide))
            refine aw_iconst (v := 0) d_X12_payOf_109 ic_0 ?_
            refine aw_iadd d_X12_payOf_110 ?_
            refine aw_istore [(0, .ref 1), (1, .int x1), (2, .int x2), (3, .int x3), (4, .int (x4 + 1)), (5, .int (x5 + 0)), (6, .int x6), (7, .int r8), (8, .int 0)] d_X12_payOf_111 (Nat.le_of_ble_eq_true rfl) rfl rfl ?_
            refine aw_iinc (v := (x6 + 1)) [(0, .ref 1), (1, .int x1), (2, .int x2), (3, .int x3), (4, .int (x4 + 1)), (5, .int (x5 + 0)), (6, .int (x6 + 1)), (7, .int r8), (8, .int 0)] d_X12_payOf_113 6 rfl rfl (Nat.le_of_ble_eq_true rfl) rfl rfl ?_
            refine aw_goto (tgt := 9) d_X12_payOf_116 rfl ?_
            exact aw_lvp [0, 1, 2, 3, 4, 5, 6] [(0, .ref 1), (1, .int x1), (2, .int x2), (3, .int x3), (4, .int (x4 + 1)), (5, .int (x5 + 0)), (6, .int (x6 + 1))] rfl k
        · have k := k.2 c9
          refine aw_aload_n (i := 0) rfl d_X12_payOf_62 0 rfl ?_
          refine aw_iload d_X12_payOf_63 6 rfl ?_
          refine aw_iload_n (i := 3) rfl d_X12_payOf_65 3 rfl ?_
          refine aw_Vi 1 [.int x6, .int x3] [] d_X12_payOf_66 (cV_X12_causeOf (d + 0) 0 0) kc_12 (ws_1 w7) tw_2324 rfl (rr0 (Nat.le_of_ble_eq_true rfl) (Nat.le_of_ble_eq_true rfl)) (Nat.le_of_ble_eq_true rfl) xs0 k (fun r17 h15 kk => ?_)
          obtain ⟨w16, k⟩ := kk
          refine aw_goto (tgt := 73) d_X12_payOf_69 rfl ?_
          refine aw_istore [(0, .ref 1), (1, .int x1), (2, .int x2), (3, .int x3), (4, .int x4), (5, .int x5), (6, .int x6), (7, .int r8), (8, .int r17)] d_X12_payOf_73 (Nat.le_of_ble_eq_true rfl) rfl rfl ?_
          refine aw_iload d_X12_payOf_75 4 rfl ?_
          refine aw_iload d_X12_payOf_77 7 rfl ?_
          refine aw_iconst (v := 1) d_X12_payOf_79 ic_1 ?_
          refine aw_icmp_ne (tgt := 87) d_X12_payOf_80 rfl (fun c18 => ?_) (fun c18 => ?_)
          · have k := k.1 c18
            refine aw_iconst (v := 0) d_X12_payOf_87 ic_0 ?_
            refine aw_iadd d_X12_payOf_88 ?_
            refine aw_istore [(0, .ref 1), (1, .int x1), (2, .int x2), (3, .int x3), (4, .int (x4 + 0)), (5, .int x5), (6, .int x6), (7, .int r8), (8, .int r17)] d_X12_payOf_89 (Nat.le_of_ble_eq_true rfl) rfl rfl ?_
            refine aw_iload d_X12_payOf_91 5 rfl ?_
            refine aw_iload d_X12_payOf_93 8 rfl ?_
            refine aw_iconst (v := 1) d_X12_payOf_95 ic_1 ?_
            refine aw_icmp_eq (tgt := 105) d_X12_payOf_96 rfl (fun c19 => ?_) (fun c19 => ?_)
            · have k := k.1 c19
              refine aw_iconst (v := 1) d_X12_payOf_105 ic_1 ?_
              refine aw_goto (tgt := 110) d_X12_payOf_106 rfl ?_
              refine aw_iadd d_X12_payOf_110 ?_
              refine aw_istore [(0, .ref 1), (1, .int x1), (2, .int x2), (3, .int x3), (4, .int (x4 + 0)), (5, .int (x5 + 1)), (6, .int x6), (7, .int r8), (8, .int r17)] d_X12_payOf_111 (Nat.le_of_ble_eq_true rfl) rfl rfl ?_
              refine aw_iinc (v := (x6 + 1)) [(0, .ref 1), (1, .int x1), (2, .int x2), (3, .int x3), (4, .int (x4 + 0)), (5, .int (x5 + 1)), (6, .int (x6 + 1)), (7, .int r8), (8, .int r17)] d_X12_payOf_113 6 rfl rfl (Nat.le_of_ble_eq_true rfl) rfl rfl ?_
              refine aw_goto (tgt := 9) d_X12_payOf_116 rfl ?_
              exact aw_lvp [0, 1, 2, 3, 4, 5, 6] [(0, .ref 1), (1, .int x1), (2, .int x2), (3, .int x3), (4, .int (x4 + 0)), (5, .int (x5 + 1)), (6, .int (x6 + 1))] rfl k
            · have k := k.2 c19
              refine aw_iload d_X12_payOf_99 8 rfl ?_
              refine aw_iconst (v := 5) d_X12_payOf_101 ic_5 ?_
              refine aw_icmp_lt (tgt := 109) d_X12_payOf_102 rfl (fun c20 => ?_) (fun c20 => ?_)
              · have k := k.1 c20
                refine aw_iconst (v := 0) d_X12_payOf_109 ic_0 ?_
                refine aw_iadd d_X12_payOf_110 ?_
                refine aw_istore [(0, .ref 1), (1, .int x1), (2, .int x2), (3, .int x3), (4, .int (x4 + 0)), (5, .int (x5 + 0)), (6, .int x6), (7, .int r8), (8, .int r17)] d_X12_payOf_111 (Nat.le_of_ble_eq_true rfl) rfl rfl ?_
                refine aw_iinc (v := (x6 + 1)) [(0, .ref 1), (1, .int x1), (2, .int x2), (3, .int x3), (4, .int (x4 + 0)), (5, .int (x5 + 0)), (6, .int (x6 + 1)), (7, .int r8), (8, .int r17)] d_X12_payOf_113 6 rfl rfl (Nat.le_of_ble_eq_true rfl) rfl rfl ?_
                refine aw_goto (tgt := 9) d_X12_payOf_116 rfl ?_
                exact aw_lvp [0, 1, 2, 3, 4, 5, 6] [(0, .ref 1), (1, .int x1), (2, .int x2), (3, .int x3), (4, .int (x4 + 0)), (5, .int (x5 + 0)), (6, .int (x6 + 1))] rfl k
              · have k := k.2 c20
                refine aw_iconst (v := 1) d_X12_payOf_105 ic_1 ?_
                refine aw_goto (tgt := 110) d_X12_payOf_106 rfl ?_
                refine aw_iadd d_X12_payOf_110 ?_
                refine aw_istore [(0, .ref 1), (1, .int x1), (2, .int x2), (3, .int x3), (4, .int (x4 + 0)), (5, .int (x5 + 1)), (6, .int x6), (7, .int r8), (8, .int r17)] d_X12_payOf_111 (Nat.le_of_ble_eq_true rfl) rfl rfl ?_
                refine aw_iinc (v := (x6 + 1)) [(0, .ref 1), (1, .int x1), (2, .int x2), (3, .int x3), (4, .int (x4 + 0)), (5, .int (x5 + 1)), (6, .int (x6 + 1)), (7, .int r8), (8, .int r17)] d_X12_payOf_113 6 rfl rfl (Nat.le_of_ble_eq_true rfl) rfl rfl ?_
                refine aw_goto (tgt := 9) d_X12_payOf_116 rfl ?_
                exact aw_lvp [0, 1, 2, 3, 4, 5, 6] [(0, .ref 1), (1, .int x1), (2, .int x2), (3, .int x3), (4, .int (x4 + 0)), (5, .int (x5 + 1)), (6, .int (x6 + 1))] rfl k
          · have k := k.2 c18
            refine aw_iconst (v := 1) d_X12_payOf_83 ic_1 ?_
            refine aw_goto (tgt := 88) d_X12_payOf_84 rfl ?_
            refine aw_iadd d_X12_payOf_88 ?_
            refine aw_istore [(0, .ref 1), (1, .int x1), (2, .int x2), (3, .int x3), (4, .int (x4 + 1)), (5, .int x5), (6, .int x6), (7, .int r8), (8, .int r17)] d_X12_payOf_89 (Nat.le_of_ble_eq_true rfl) rfl rfl ?_
            refine aw_iload d_X12_payOf_91 5 rfl ?_
            refine aw_iload d_X12_payOf_93 8 rfl ?_
            refine aw_iconst (v := 1) d_X12_payOf_95 ic_1 ?_
            refine aw_icmp_eq (tgt := 105) d_X12_payOf_96 rfl (fun c21 => ?_) (fun c21 => ?_)
            · have k := k.1 c21
              refine aw_iconst (v := 1) d_X12_payOf_105 ic_1 ?_
              refine aw_goto (tgt := 110) d_X12_payOf_106 rfl ?_
              refine aw_iadd d_X12_payOf_110 ?_
              refine aw_istore [(0, .ref 1), (1, .int x1), (2, .int x2), (3, .int x3), (4, .int (x4 + 1)), (5, .int (x5 + 1)), (6, .int x6), (7, .int r8), (8, .int r17)] d_X12_payOf_111 (Nat.le_of_ble_eq_true rfl) rfl rfl ?_
              refine aw_iinc (v := (x6 + 1)) [(0, .ref 1), (1, .int x1), (2, .int x2), (3, .int x3), (4, .int (x4 + 1)), (5, .int (x5 + 1)), (6, .int (x6 + 1)), (7, .int r8), (8, .int r17)] d_X12_payOf_113 6 rfl rfl (Nat.le_of_ble_eq_true rfl) rfl rfl ?_
              refine aw_goto (tgt := 9) d_X12_payOf_116 rfl ?_
              exact aw_lvp [0, 1, 2, 3, 4, 5, 6] [(0, .ref 1), (1, .int x1), (2, .int x2), (3, .int x3), (4, .int (x4 + 1)), (5, .int (x5 + 1)), (6, .int (x6 + 1))] rfl k
            · have k := k.2 c21
              refine aw_iload d_X12_payOf_99 8 rfl ?_
              refine aw_iconst (v := 5) d_X12_payOf_101 ic_5 ?_
              refine aw_icmp_lt (tgt := 109) d_X12_payOf_102 rfl (fun c22 => ?_) (fun c22 => ?_)
              · have k := k.1 c22
                refine aw_iconst (v := 0) d_X12_payOf_109 ic_0 ?_
                refine aw_iadd d_X12_payOf_110 ?_
                refine aw_istore [(0, .ref 1), (1, .int x1), (2, .int x2), (3, .int x3), (4, .int (x4 + 1)), (5, .int (x5 + 0)), (6, .int x6), (7, .int r8), (8, .int r17)] d_X12_payOf_111 (Nat.le_of_ble_eq_true rfl) rfl rfl ?_
                refine aw_iinc (v := (x6 + 1)) [(0, .ref 1), (1, .int x1), (2, .int x2), (3, .int x3), (4, .int (x4 + 1)), (5, .int (x5 + 0)), (6, .int (x6 + 1)), (7, .int r8), (8, .int r17)] d_X12_payOf_113 6 rfl rfl (Nat.le_of_ble_eq_true rfl) rfl rfl ?_
                refine aw_goto (tgt := 9) d_X12_payOf_116 rfl ?_
                exact aw_lvp [0, 1, 2, 3, 4, 5, 6] [(0, .ref 1), (1, .int x1), (2, .int x2), (3, .int x3), (4, .int (x4 + 1)), (5, .int (x5 + 0)), (6, .int (x6 + 1))] rfl k
              · have k := k.2 c22
                refine aw_iconst (v := 1) d_X12_payOf_105 ic_1 ?_
                refine aw_goto (tgt := 110) d_X12_payOf_106 rfl ?_
                refine aw_iadd d_X12_payOf_110 ?_
                refine aw_istore [(0, .ref 1), (1, .int x1), (2, .int x2), (3, .int x3), (4, .int (x4 + 1)), (5, .int (x5 + 1)), (6, .int x6), (7, .int r8), (8, .int r17)] d_X12_payOf_111 (Nat.le_of_ble_eq_true rfl) rfl rfl ?_
                refine aw_iinc (v := (x6 + 1)) [(0, .ref 1), (1, .int x1), (2, .int x2), (3, .int x3), (4, .int (x4 + 1)), (5, .int (x5 + 1)), (6, .int (x6 + 1)), (7, .int r8), (8, .int r17)] d_X12_payOf_113 6 rfl rfl (Nat.le_of_ble_eq_true rfl) rfl rfl ?_
                refine aw_goto (tgt := 9) d_X12_payOf_116 rfl ?_
                exact aw_lvp [0, 1, 2, 3, 4, 5, 6] [(0, .ref 1), (1, .int x1), (2, .int x2), (3, .int x3), (4, .int (x4 + 1)), (5, .int (x5 + 1)), (6, .int (x6 + 1))] rfl k
      · have k := k.2 c5
        refine aw_goto (tgt := 113) d_X12_payOf_44 rfl ?_
        refine aw_iinc (v := (x6 + 1)) [(0, .ref 1), (1, .int x1), (2, .int x2), (3, .int x3), (4, .int x4), (5, .int x5), (6, .int (x6 + 1))] d_X12_payOf_113 6 rfl rfl (Nat.le_of_ble_eq_true rfl) rfl rfl ?_
        refine aw_goto (tgt := 9) d_X12_payOf_116 rfl ?_
        exact k
theorem t_X12_payOf_128 (d : Nat) (h : Hp_) (w : Wf h) (x1 : Int32) (x2 : Int32) (x3 : Int32) (x4 : Int32) (x5 : Int32) (x6 : Int32) (x7 : Int32) (x8 : Int32) (K : Int32 → Hp_ → Prop) (k : ((h_i h 1 80) ≤ x8 → Ci (m_X12_rankOn (d + 0) 0 0) [.ref 1, .int x1, .int x2, .int x3] h (fun r26 h24 => Wf h24 ∧ (vp_in 99 128 ∧ (vp_in x1 12 ∧ (vp_in 121 128 ∧ (vp_in 109 128 ∧ (vp_in 120 128 ∧ (vp_in 116 128 ∧ (vp_in 97 128 ∧ (Ci (m_X12_forceOf (d + 0) 0 0) [.ref 1, .int 1, .int x2, .int x3] (h_im (h_im (h_im (h_im (h_im (h_im h24 236 (99 : Int32).toNatClampNeg r26) 236 (121 : Int32).toNatClampNeg (h_i h24 205 x1.toNatClampNeg)) 236 (109 : Int32).toNatClampNeg x4) 236 (120 : Int32).toNatClampNeg x5) 236 (116 : Int32).toNatClampNeg x6) 236 (97 : Int32).toNatClampNeg x7) (fun r36 h34 => Wf h34 ∧ (Ci (m_X12_tell (d + 4) 0 0) [.ref 1, .int 1, .int r36] h34 (fun r39 h37 => Wf h37 ∧ (Ci (m_J9_min_7cf53 (d + 0) 0 0) [.int 10000, .int r39] h37 (fun r42 h40 => Wf h40 ∧ (Ci (m_J9_max_7cf53 (d + 0) 0 0) [.int 0, .int r42] h40 (fun r45 h43 => Wf h43 ∧ (K r45 h43)))))))))))))))))) ∧ (¬ (h_i h 1 80) ≤ x8 → vp_in x8 300 ∧ ((¬ (h_i h 255 x8.toNatClampNeg) = x1 → AW (m_X12_payOf (d + 7) 0 0) 0 0 128 [(0, .ref 1), (1, .int x1), (2, .int x2), (3, .int x3), (4, .int x4), (5, .int x5), (6, .int x6), (7, .int x7), (8, .int (x8 + 1))] [] h (kI K)) ∧ ((h_i h 255 x8.toNatClampNeg) = x1 → vp_in x8 300 ∧ ((¬ ((h_i h 257 x8.toNatClampNeg) / 1440) = x2 → AW (m_X12_payOf (d + 7) 0 0) 0 0 128 [(0, .ref 1), (1, .int x1), (2, .int x2), (3, .int x3), (4, .int x4), (5, .int x5), (6, .int x6), (7, .int x7), (8, .int (x8 + 1))] [] h (kI K)) ∧ (((h_i h 257 x8.toNatClampNeg) / 1440) = x2 → vp_in x8 300 ∧ ((¬ (h_i h 258 x8.toNatClampNeg) = 3 → AW (m_X12_payOf (d + 7) 0 0) 0 0 128 [(0, .ref 1), (1, .int x1), (2, .int x2), (3, .int x3), (4, .int x4), (5, .int x5), (6, .int x6), (7, .int x7), (8, .int (x8 + 1))] [] h (kI K)) ∧ ((h_i h 258 x8.toNatClampNeg) = 3 → Ci (m_X12_lets (d + 6) 0 0) [.ref 1, .int x8, .int x3] h (fun r54 h52 => Wf h52 ∧ ((¬ r54 = 3 → AW (m_X12_payOf (d + 7) 0 0) 0 0 128 [(0, .ref 1), (1, .int x1), (2, .int x2), (3, .int x3), (4, .int x4), (5, .int x5), (6, .int (x6 + 0)), (7, .int (x7 + 1)), (8, .int (x8 + 1))] [] h52 (kI K)) ∧ (r54 = 3 → AW (m_X12_payOf (d + 7) 0 0) 0 0 128 [(0, .ref 1), (1, .int x1), (2, .int x2), (3, .int x3), (4, .int x4), (5, .int x5), (6, .int (x6 + 1)), (7, .int (x7 + 0)), (8, .int (x8 + 1))] [] h52 (kI K)))))))))))) : AW (m_X12_payOf (d + 7) 0 0) 0 0 128 [(0, .ref 1), (1, .int x1), (2, .int x2), (3, .int x3), (4, .int x4), (5, .int x5), (6, .int x6), (7, .int x7), (8, .int x8)] [] h (kI K) := by
  refine aw_iload d_X12_payOf_128 8 rfl ?_
  refine aw_aload_n (i := 0) rfl d_X12_payOf_130 0 rfl ?_
  refine aw_geti (k0 := 80) kc_12 (ws_1 w) (Nat.le_of_ble_eq_true rfl) tw_1822 d_X12_payOf_131 rfl ?_
  refine aw_icmp_ge (tgt := 228) d_X12_payOf_134 rfl (fun c23 => ?_) (fun c23 => ?_)
  · have k := k.1 c23
    refine aw_aload_n (i := 0) rfl d_X12_payOf_228 0 rfl ?_
    refine aw_getr (k0 := 50) kc_12 (ws_1 w) (Nat.le_of_ble_eq_true rfl) tw_1792 d_X12_payOf_229 rfl (wr_1_50 w) ?_
    refine aw_bipush (v := 99) d_X12_payOf_232 ib_99 ?_
    refine aw_aload_n (i := 0) rfl d_X12_payOf_234 0 rfl ?_
    refine aw_iload_n (i := 1) rfl d_X12_payOf_235 1 rfl ?_
    refine aw_iload_n (i := 2) rfl d_X12_payOf_236 2 rfl ?_
    refine aw_iload_n (i := 3) rfl d_X12_payOf_237 3 rfl ?_
    refine aw_Vi 1 [.int x1, .int x2, .int x3] [.int 99, .ref 236] d_X12_payOf_238 (cV_X12_rankOn (d + 0) 0 0) kc_12 (ws_1 w) tw_2179 rfl (rr0 (Nat.le_of_ble_eq_true rfl) (Nat.le_of_ble_eq_true rfl)) (Nat.le_of_ble_eq_true rfl) xs0 k (fun r26 h24 kk => ?_)
    obtain ⟨w25, k⟩ := kk
    obtain ⟨b27, k⟩ := k
    refine aw_iast (ws_236 w25) b27 d_X12_payOf_241 ?_
    refine aw_aload_n (i := 0) rfl d_X12_payOf_242 0 rfl ?_
    refine aw_getr (k0 := 50) kc_12 (ws_1 w25) (Nat.le_of_ble_eq_true rfl) tw_1792 d_X12_payOf_243 rfl (wr_1_50 w25) ?_
    refine aw_bipush (v := 121) d_X12_payOf_246 ib_121 ?_
    refine aw_aload_n (i := 0) rfl d_X12_payOf_248 0 rfl ?_
    refine aw_getr (k0 := 9) kc_12 (ws_1 w25) (Nat.le_of_ble_eq_true rfl) tw_1751 d_X12_payOf_249 rfl (wr_1_9 w25) ?_
    refine aw_iload_n (i := 1) rfl d_X12_payOf_252 1 rfl ?_
    obtain ⟨b28, k⟩ := k
    refine aw_iald (ws_205 w25) b28 d_X12_payOf_253 ?_
    refine aw_vi (v2 := (h_i h24 205 x1.toNatClampNeg)) (rfl) ?_
    obtain ⟨b29, k⟩ := k
    refine aw_iast (ws_236 w25) b29 d_X12_payOf_254 ?_
    refine aw_aload_n (i := 0) rfl d_X12_payOf_255 0 rfl ?_
    refine aw_getr (k0 := 50) kc_12 (ws_1 w25) (Nat.le_of_ble_eq_true rfl) tw_1792 d_X12_payOf_256 rfl (wr_1_50 w25) ?_
    refine aw_bipush (v := 109) d_X12_payOf_259 ib_109 ?_
    refine aw_iload d_X12_payOf_261 4 rfl ?_
    obtain ⟨b30, k⟩ := k
    refine aw_iast (ws_236 w25) b30 d_X12_payOf_263 ?_
    refine aw_aload_n (i := 0) rfl d_X12_payOf_264 0 rfl ?_
    refine aw_getr (k0 := 50) kc_12 (ws_1 w25) (Nat.le_of_ble_eq_true rfl) tw_1792 d_X12_payOf_265 rfl (wr_1_50 w25) ?_
    refine aw_bipush (v := 120) d_X12_payOf_268 ib_120 ?_
    refine aw_iload d_X12_payOf_270 5 rfl ?_
    obtain ⟨b31, k⟩ := k
    refine aw_iast (ws_236 w25) b31 d_X12_payOf_272 ?_
    refine aw_aload_n (i := 0) rfl d_X12_payOf_273 0 rfl ?_
    refine aw_getr (k0 := 50) kc_12 (ws_1 w25) (Nat.le_of_ble_eq_true rfl) tw_1792 d_X12_payOf_274 rfl (wr_1_50 w25) ?_
    refine aw_bipush (v := 116) d_X12_payOf_277 ib_116 ?_
    refine aw_iload d_X12_payOf_279 6 rfl ?_
    obtain ⟨b32, k⟩ := k
    refine aw_iast (ws_236 w25) b32 d_X12_payOf_281 ?_
    refine aw_aload_n (i := 0) rfl d_X12_payOf_282 0 rfl ?_
    refine aw_getr (k0 := 50) kc_12 (ws_1 w25) (Nat.le_of_ble_eq_true rfl) tw_1792 d_X12_payOf_283 rfl (wr_1_50 w25) ?_
    refine aw_bipush (v := 97) d_X12_payOf_286 ib_97 ?_
    refine aw_iload d_X12_payOf_288 7 rfl ?_
    obtain ⟨b33, k⟩ := k
    refine aw_iast (ws_236 w25) b33 d_X12_payOf_290 ?_
    refine aw_iconst (v := 0) d_X12_payOf_291 ic_0 ?_
    refine aw_sipush (v := 10000) d_X12_payOf_292 is_10000 ?_
    refine aw_aload_n (i := 0) rfl d_X12_payOf_295 0 rfl ?_
    refine aw_iconst (v := 1) d_X12_payOf_296 ic_1 ?_
    refine aw_aload_n (i := 0) rfl d_X12_payOf_297 0 rfl ?_
    refine aw_iconst (v := 1) d_X12_payOf_298 ic_1 ?_
    refine aw_iload_n (i := 2) rfl d_X12_payOf_299 2 rfl ?_
    refine aw_iload_n (i := 3) rfl d_X12_payOf_300 3 rfl ?_
    refine aw_Vi 1 [.int 1, .int x2, .int x3] [.int 1, .ref 1, .int 10000, .int 0] d_X12_payOf_301 (cV_X12_forceOf (d + 0) 0 0) kc_12 (ws_1 w25) tw_2312 rfl (rr0 (Nat.le_of_ble_eq_true rfl) (Nat.le_of_ble_eq_true rfl)) (Nat.le_of_ble_eq_true rfl) xs0 k (fun r36 h34 kk => ?_)
    obtain ⟨w35, k⟩ := kk
    refine aw_Vi 1 [.int 1, .int r36] [.int 10000, .int 0] d_X12_payOf_304 (cV_X12_tell (d + 4) 0 0) kc_12 (ws_1 w35) tw_2428 rfl (rr0 (Nat.le_of_ble_eq_true rfl) (Nat.le_of_ble_eq_true rfl)) (Nat.le_of_ble_eq_true rfl) xs0 k (fun r39 h37 kk => ?_)
    obtain ⟨w38, k⟩ := kk
    refine aw_Si [.int 10000, .int r39] [.int 0] d_X12_payOf_307 (cS_J9_min_7cf53 (d + 0) 0 0) tw_2556 rfl (rr0 (Nat.le_of_ble_eq_true rfl) (Nat.le_of_ble_eq_true rfl)) (Nat.le_of_ble_eq_true rfl) xs0 k (fun r42 h40 kk => ?_)
    obtain ⟨w41, k⟩ := kk
    refine aw_Si [.int 0, .int r42] [] d_X12_payOf_310 (cS_J9_max_7cf53 (d + 0) 0 0) tw_2474 rfl (rr0 (Nat.le_of_ble_eq_true rfl) (Nat.le_of_ble_eq_true rfl)) (Nat.le_of_ble_eq_true rfl) xs0 k (fun r45 h43 kk => ?_)
    obtain ⟨w44, k⟩ := kk
    exact aw_iret rfl d_X12_payOf_313 ⟨Nat.le_refl _, Nat.le_refl _⟩ ⟨_, rfl, k⟩
  · have k := k.2 c23
    refine aw_aload_n (i := 0) rfl d_X12_payOf_137 0 rfl ?_
    refine aw_getr (k0 := 72) kc_12 (ws_1 w) (Nat.le_of_ble_eq_true rfl) tw_1814 d_X12_payOf_138 rfl (wr_1_72 w) ?_
    refine aw_iload d_X12_payOf_141 8 rfl ?_
    obtain ⟨b46, k⟩ := k
    refine aw_iald (ws_255 w) b46 d_X12_payOf_143 ?_
    refine aw_iload_n (i := 1) rfl d_X12_payOf_144 1 rfl ?_
    refine aw_icmp_ne (tgt := 222) d_X12_payOf_145 rfl (fun c47 => ?_) (fun c47 => ?_)
    · have k := k.1 c47
      refine aw_iinc (v := (x8 + 1)) [(0, .ref 1), (1, .int x1), (2, .int x2), (3, .int x3), (4, .int x4), (5, .int x5), (6, .int x6), (7, .int x7), (8, .int (x8 + 1))] d_X12_payOf_222 8 rfl rfl (Nat.le_of_ble_eq_true rfl) rfl rfl ?_
      refine aw_goto (tgt := 128) d_X12_payOf_225 rfl ?_
      exact k
    · have k := k.2 c47
      refine aw_aload_n (i := 0) rfl d_X12_payOf_148 0 rfl ?_
      refine aw_getr (k0 := 74) kc_12 (ws_1 w) (Nat.le_of_ble_eq_true rfl) tw_1816 d_X12_payOf_149 rfl (wr_1_74 w) ?_
      refine aw_iload d_X12_payOf_152 8 rfl ?_
      obtain ⟨b48, k⟩ := k
      refine aw_iald (ws_257 w) b48 d_X12_payOf_154 ?_
      refine aw_sipush (v := 1440) d_X12_payOf_155 is_1440 ?_
      refine aw_idiv d_X12_payOf_158 (by decide) ?_
      refine aw_iload_n (i := 2) rfl d_X12_payOf_159 2 rfl ?_
      refine aw_icmp_ne (tgt := 222) d_X12_payOf_160 rfl (fun c49 => ?_) (fun c49 => ?_)
      · have k := k.1 c49
        refine aw_iinc (v := (x8 + 1)) [(0, .ref 1), (1, .int x1), (2, .int x2), (3, .int x3), (4, .int x4), (5, .int x5), (6, .int x6), (7, .int x7), (8, .int (x8 + 1))] d_X12_payOf_222 8 rfl rfl (Nat.le_of_ble_eq_true rfl) rfl rfl ?_
        refine aw_goto (tgt := 128) d_X12_payOf_225 rfl ?_
        exact k
      · have k := k.2 c49
        refine aw_aload_n (i := 0) rfl d_X12_payOf_163 0 rfl ?_
        refine aw_getr (k0 := 75) kc_12 (ws_1 w) (Nat.le_of_ble_eq_true rfl) tw_1817 d_X12_payOf_164 rfl (wr_1_75 w) ?_
        refine aw_iload d_X12_payOf_167 8 rfl ?_
        obtain ⟨b50, k⟩ := k
        refine aw_iald (ws_258 w) b50 d_X12_payOf_169 ?_
        refine aw_iconst (v := 3) d_X12_payOf_170 ic_3 ?_
        refine aw_icmp_ne (tgt := 222) d_X12_payOf_171 rfl (fun c51 => ?_) (fun c51 => ?_)
        · have k := k.1 c51
          refine aw_iinc (v := (x8 + 1)) [(0, .ref 1), (1, .int x1), (2, .int x2), (3, .int x3), (4, .int x4), (5, .int x5), (6, .int x6), (7, .int x7), (8, .int (x8 + 1))] d_X12_payOf_222 8 rfl rfl (Nat.le_of_ble_eq_true rfl) rfl rfl ?_
          refine aw_goto (tgt := 128) d_X12_payOf_225 rfl ?_
          exact k
        · have k := k.2 c51
          refine aw_aload_n (i := 0) rfl d_X12_payOf_174 0 rfl ?_
          refine aw_iload d_X12_payOf_175 8 rfl ?_
          refine aw_iload_n (i := 3) rfl d_X12_payOf_177 3 rfl ?_
          refine aw_Vi 1 [.int x8, .int x3] [] d_X12_payOf_178 (cV_X12_lets (d + 6) 0 0) kc_12 (ws_1 w) tw_2400 rfl (rr0 (Nat.le_of_ble_eq_true rfl) (Nat.le_of_ble_eq_true rfl)) (Nat.le_of_ble_eq_true rfl) xs0 k (fun r54 h52 kk => ?_)
          obtain ⟨w53, k⟩ := kk
          refine aw_iconst (v := 3) d_X12_payOf_181 ic_3 ?_
          refine aw_icmp_ne (tgt := 189) d_X12_payOf_182 rfl (fun c55 => ?_) (fun c55 => ?_)
          · have k := k.1 c55
            refine aw_iconst (v := 0) d_X12_payOf_189 ic_0 ?_
            refine aw_istore [(0, .ref 1), (1, .int x1), (2, .int x2), (3, .int x3), (4, .int x4), (5, .int x5), (6, .int x6), (7, .int x7), (8, .int x8), (9, .int 0)] d_X12_payOf_190 (Nat.le_of_ble_eq_true rfl) rfl rfl ?_
            refine aw_iload d_X12_payOf_192 6 rfl ?_
            refine aw_iload d_X12_payOf_194 9 rfl ?_
            refine aw_if_eq (tgt := 203) d_X12_payOf_196 rfl (fun _ => ?_) (fun c => absurd c (by decide))
            refine aw_iconst (v := 0) d_X12_payOf_203 ic_0 ?_
            refine aw_iadd d_X12_payOf_204 ?_
            refine aw_istore [(0, .ref 1), (1, .int x1), (2, .int x2), (3, .int x3), (4, .int x4), (5, .int x5), (6, .int (x6 + 0)), (7, .int x7), (8, .int x8), (9, .int 0)] d_X12_payOf_205 (Nat.le_of_ble_eq_true rfl) rfl rfl ?_
            refine aw_iload d_X12_payOf_207 7 rfl ?_
            refine aw_iload d_X12_payOf_209 9 rfl ?_
            refine aw_if_eq (tgt := 218) d_X12_payOf_211 rfl (fun _ => ?_) (fun c => absurd c (by decide))
            refine aw_iconst (v := 1) d_X12_payOf_218 ic_1 ?_
            refine aw_iadd d_X12_payOf_219 ?_
            refine aw_istore [(0, .ref 1), (1, .int x1), (2, .int x2), (3, .int x3), (4, .int x4), (5, .int x5), (6, .int (x6 + 0)), (7, .int (x7 + 1)), (8, .int x8), (9, .int 0)] d_X12_payOf_220 (Nat.le_of_ble_eq_true rfl) rfl rfl ?_
            refine aw_iinc (v := (x8 + 1)) [(0, .ref 1), (1, .int x1), (2, .int x2), (3, .int x3), (4, .int x4), (5, .int x5), (6, .int (x6 + 0)), (7, .int (x7 + 1)), (8, .int (x8 + 1)), (9, .int 0)] d_X12_payOf_222 8 rfl rfl (Nat.le_of_ble_eq_true rfl) rfl rfl ?_
            refine aw_goto (tgt := 128) d_X12_payOf_225 rfl ?_
            exact aw_lvp [0, 1, 2, 3, 4, 5, 6, 7, 8] [(0, .ref 1), (1, .int x1), (2, .int x2), (3, .int x3), (4, .int x4), (5, .int x5), (6, .int (x6 + 0)), (7, .int (x7 + 1)), (8, .int (x8 + 1))] rfl k
          · have k := k.2 c55
            refine aw_iconst (v := 1) d_X12_payOf_185 ic_1 ?_
            refine aw_goto (tgt := 190) d_X12_payOf_186 rfl ?_
            refine aw_istore [(0, .ref 1), (1, .int x1), (2, .int x2), (3, .int x3), (4, .int x4), (5, .int x5), (6, .int x6), (7, .int x7), (8, .int x8), (9, .int 1)] d_X12_payOf_190 (Nat.le_of_ble_eq_true rfl) rfl rfl ?_
            refine aw_iload d_X12_payOf_192 6 rfl ?_
            refine aw_iload d_X12_payOf_194 9 rfl ?_
            refine aw_if_eq (tgt := 203) d_X12_payOf_196 rfl (fun c => absurd c (by decide)) (fun _ => ?_)
            refine aw_iconst (v := 1) d_X12_payOf_199 ic_1 ?_
            refine aw_goto (tgt := 204) d_X12_payOf_200 rfl ?_
            refine aw_iadd d_X12_payOf_204 ?_
            refine aw_istore [(0, .ref 1), (1, .int x1), (2, .int x2), (3, .int x3), (4, .int x4), (5, .int x5), (6, .int (x6 + 1)), (7, .int x7), (8, .int x8), (9, .int 1)] d_X12_payOf_205 (Nat.le_of_ble_eq_true rfl) rfl rfl ?_
            refine aw_iload d_X12_payOf_207 7 rfl ?_
            refine aw_iload d_X12_payOf_209 9 rfl ?_
            refine aw_if_eq (tgt := 218) d_X12_payOf_211 rfl (fun c => absurd c (by decide)) (fun _ => ?_)
            refine aw_iconst (v := 0) d_X12_payOf_214 ic_0 ?_
            refine aw_goto (tgt := 219) d_X12_payOf_215 rfl ?_
            refine aw_iadd d_X12_payOf_219 ?_
            refine aw_istore [(0, .ref 1), (1, .int x1), (2, .int x2), (3, .int x3), (4, .int x4), (5, .int x5), (6, .int (x6 + 1)), (7, .int (x7 + 0)), (8, .int x8), (9, .int 1)] d_X12_payOf_220 (Nat.le_of_ble_eq_true rfl) rfl rfl ?_
            refine aw_iinc (v := (x8 + 1)) [(0, .ref 1), (1, .int x1), (2, .int x2), (3, .int x3), (4, .int x4), (5, .int x5), (6, .int (x6 + 1)), (7, .int (x7 + 0)), (8, .int (x8 + 1)), (9, .int 1)] d_X12_payOf_222 8 rfl rfl (Nat.le_of_ble_eq_true rfl) rfl rfl ?_
            refine aw_goto (tgt := 128) d_X12_payOf_225 rfl ?_
            exact aw_lvp [0, 1, 2, 3, 4, 5, 6, 7, 8] [(0, .ref 1), (1, .int x1), (2, .int x2), (3, .int x3), (4, .int x4), (5, .int x5), (6, .int (x6 + 1)), (7, .int (x7 + 0)), (8, .int (x8 + 1))] rfl k
theorem t_X12_wakeBeat (d : Nat) (h : Hp_) (w : Wf h) (x1 : Int32) (x2 : Int32) (K : Hp_ → Prop) (k : vp_in x1 12 ∧ (vp_in x1 12 ∧ ((x2 = 0 → vp_in ((150 * (h_i h 212 x1.toNatClampNeg)) + (h_i h 213 x1.toNatClampNeg)) 1800 ∧ ((¬ (h_i h 228 (((150 * (h_i h 212 x1.toNatClampNeg)) + (h_i h 213 x1.toNatClampNeg)) : Int32).toNatClampNeg) = 3 → vp_in x1 12 ∧ (vp_in x1 12 ∧ (Cv (m_X12_goOn (d + 3) 0 0) [.ref 1, .int x1] (h_im h 213 x1.toNatClampNeg ((h_i h 213 x1.toNatClampNeg) + 1)) (fun h8 => Wf h8 ∧ (K h8))))) ∧ ((h_i h 228 (((150 * (h_i h 212 x1.toNatClampNeg)) + (h_i h 213 x1.toNatClampNeg)) : Int32).toNatClampNeg) = 3 → Cv (m_X12_see (d + 7) 0 0) [.ref 1, .int x1] h (fun h11 => Wf h11 ∧ (vp_in x1 12 ∧ (vp_in x1 12 ∧ (Cv (m_X12_goOn (d + 3) 0 0) [.ref 1, .int x1] (h_im h11 213 x1.toNatClampNeg ((h_i h11 213 x1.toNatClampNeg) + 1)) (fun h16 => Wf h16 ∧ (K h16))))))))) ∧ (¬ x2 = 0 → vp_in ((150 * (h_i h 212 x1.toNatClampNeg)) + (h_i h 213 x1.toNatClampNeg)) 1800 ∧ ((¬ (h_i h 228 (((150 * (h_i h 212 x1.toNatClampNeg)) + (h_i h 213 x1.toNatClampNeg)) : Int32).toNatClampNeg) = 2 → vp_in x1 12 ∧ (vp_in x1 12 ∧ (Cv (m_X12_goOn (d + 3) 0 0) [.ref 1, .int x1] (h_im h 213 x1.toNatClampNeg ((h_i h 213 x1.toNatClampNeg) + 1)) (fun h23 => Wf h23 ∧ (K h23))))) ∧ ((h_i h 228 (((150 * (h_i h 212 x1.toNatClampNeg)) + (h_i h 213 x1.toNatClampNeg)) : Int32).toNatClampNeg) = 2 → vp_in ((150 * (h_i h 212 x1.toNatClampNeg)) + (h_i h 213 x1.toNatClampNeg)) 1800 ∧ (Ci (m_X12_comes (d + 1) 0 0) [.ref 1, .int x1, .int (h_i h 230 (((150 * (h_i h 212 x1.toNatClampNeg)) + (h_i h 213 x1.toNatClampNeg)) : Int32).toNatClampNeg)] h (fun r29 h27 => Wf h27 ∧ ((r29 = 0 → vp_in x1 12 ∧ (vp_in x1 12 ∧ (Cv (m_X12_goOn (d + 3) 0 0) [.ref 1, .int x1] (h_im h27 213 x1.toNatClampNeg ((h_i h27 213 x1.toNatClampNeg) + 1)) (fun h33 => Wf h33 ∧ (K h33))))) ∧ (¬ r29 = 0 → K h27)))))))))) : Cv (m_X12_wakeBeat (d + 8) 0 0) [.ref 1, .int x1, .int x2] h K := by
  refine Ct.of (fun _ _ _ => trivial) rfl (Nat.le_of_ble_eq_true rfl) ?_
  show AW (m_X12_wakeBeat (d + 8) 0 0) 0 0 0 [(0, .ref 1), (1, .int x1), (2, .int x2)] [] h (kV K)
  refine aw_sipush (v := 150) d_X12_wakeBeat_0 is_150 ?_
  refine aw_aload_n (i := 0) rfl d_X12_wakeBeat_3 0 rfl ?_
  refine aw_getr (k0 := 16) kc_12 (ws_1 w) (Nat.le_of_ble_eq_true rfl) tw_1758 d_X12_wakeBeat_4 rfl (wr_1_16 w) ?_
  refine aw_iload_n (i := 1) rfl d_X12_wakeBeat_7 1 rfl ?_
  obtain ⟨b1, k⟩ := k
  refine aw_iald (ws_212 w) b1 d_X12_wakeBeat_8 ?_
  refine aw_imul d_X12_wakeBeat_9 ?_
  refine aw_aload_n (i := 0) rfl d_X12_wakeBeat_10 0 rfl ?_
  refine aw_getr (k0 := 17) kc_12 (ws_1 w) (Nat.le_of_ble_eq_true rfl) tw_1759 d_X12_wakeBeat_11 rfl (wr_1_17 w) ?_
  refine aw_iload_n (i := 1) rfl d_X12_wakeBeat_14 1 rfl ?_
  obtain ⟨b2, k⟩ := k
  refine aw_iald (ws_213 w) b2 d_X12_wakeBeat_15 ?_
  refine aw_iadd d_X12_wakeBeat_16 ?_
  refine aw_istore_n (i := 3) rfl [(0, .ref 1), (1, .int x1), (2, .int x2), (3, .int ((150 * (h_i h 212 x1.toNatClampNeg)) + (h_i h 213 x1.toNatClampNeg)))] d_X12_wakeBeat_17 (Nat.le_of_ble_eq_true rfl) rfl rfl ?_
  refine aw_iload_n (i := 2) rfl d_X12_wakeBeat_18 2 rfl ?_
  refine aw_if_eq (tgt := 47) d_X12_wakeBeat_19 rfl (fun c3 => ?_) (fun c3 => ?_)
  · have k := k.1 c3
    refine aw_aload_n (i := 0) rfl d_X12_wakeBeat_47 0 rfl ?_
    refine aw_getr (k0 := 39) kc_12 (ws_1 w) (Nat.le_of_ble_eq_true rfl) tw_1781 d_X12_wakeBeat_48 rfl (wr_1_39 w) ?_
    refine aw_iload_n (i := 3) rfl d_X12_wakeBeat_51 3 rfl ?_
    obtain ⟨b4, k⟩ := k
    refine aw_iald (ws_228 w) b4 d_X12_wakeBeat_52 ?_
    refine aw_iconst (v := 3) d_X12_wakeBeat_53 ic_3 ?_
    refine aw_icmp_ne (tgt := 62) d_X12_wakeBeat_54 rfl (fun c5 => ?_) (fun c5 => ?_)
    · have k := k.1 c5
      refine aw_aload_n (i := 0) rfl d_X12_wakeBeat_62 0 rfl ?_
      refine aw_getr (k0 := 17) kc_12 (ws_1 w) (Nat.le_of_ble_eq_true rfl) tw_1759 d_X12_wakeBeat_63 rfl (wr_1_17 w) ?_
      refine aw_iload_n (i := 1) rfl d_X12_wakeBeat_66 1 rfl ?_
      refine aw_dup2 d_X12_wakeBeat_67 ⟨rfl, rfl⟩ ?_
      obtain ⟨b6, k⟩ := k
      refine aw_iald (ws_213 w) b6 d_X12_wakeBeat_68 ?_
      refine aw_iconst (v := 1) d_X12_wakeBeat_69 ic_1 ?_
      refine aw_iadd d_X12_wakeBeat_70 ?_
      obtain ⟨b7, k⟩ := k
      refine aw_iast (ws_213 w) b7 d_X12_wakeBeat_71 ?_
      refine aw_aload_n (i := 0) rfl d_X12_wakeBeat_72 0 rfl ?_
      refine aw_iload_n (i := 1) rfl d_X12_wakeBeat_73 1 rfl ?_
      refine aw_Vv 1 [.int x1] [] d_X12_wakeBeat_74 (cV_X12_goOn (d + 3) 0 0) kc_12 (ws_1 w) tw_2340 rfl (rr0 (Nat.le_of_ble_eq_true rfl) (Nat.le_of_ble_eq_true rfl)) (Nat.le_of_ble_eq_true rfl) xs0 k (fun h8 kk => ?_)
      obtain ⟨w9, k⟩ := kk
      exact aw_vret rfl d_X12_wakeBeat_77 ⟨Nat.le_refl _, Nat.le_refl _⟩ ⟨rfl, k⟩
    · have k := k.2 c5
      refine aw_aload_n (i := 0) rfl d_X12_wakeBeat_57 0 rfl ?_
      refine aw_iload_n (i := 1) rfl d_X12_wakeBeat_58 1 rfl ?_
      refine aw_Vv 1 [.int x1] [] d_X12_wakeBeat_59 (cV_X12_see (d + 7) 0 0) kc_12 (ws_1 w) tw_2396 rfl (rr0 (Nat.le_of_ble_eq_true rfl) (Nat.le_of_ble_eq_true rfl)) (Nat.le_of_ble_eq_true rfl) xs0 k (fun h11 kk => ?_)
      obtain ⟨w12, k⟩ := kk
      refine aw_aload_n (i := 0) rfl d_X12_wakeBeat_62 0 rfl ?_
      refine aw_getr (k0 := 17) kc_12 (ws_1 w12) (Nat.le_of_ble_eq_true rfl) tw_1759 d_X12_wakeBeat_63 rfl (wr_1_17 w12) ?_
      refine aw_iload_n (i := 1) rfl d_X12_wakeBeat_66 1 rfl ?_
      refine aw_dup2 d_X12_wakeBeat_67 ⟨rfl, rfl⟩ ?_
      obtain ⟨b14, k⟩ := k
      refine aw_iald (ws_213 w12) b14 d_X12_wakeBeat_68 ?_
      refine aw_iconst (v := 1) d_X12_wakeBeat_69 ic_1 ?_
      refine aw_iadd d_X12_wakeBeat_70 ?_
      obtain ⟨b15, k⟩ := k
      refine aw_iast (ws_213 w12) b15 d_X12_wakeBeat_71 ?_
      refine aw_aload_n (i := 0) rfl d_X12_wakeBeat_72 0 rfl ?_
      refine aw_iload_n (i := 1) rfl d_X12_wakeBeat_73 1 rfl ?_
      refine aw_Vv 1 [.int x1] [] d_X12_wakeBeat_74 (cV_X12_goOn (d + 3) 0 0) kc_12 (ws_1 w12) tw_2340 rfl (rr0 (Nat.le_of_ble_eq_true rfl) (Nat.le_of_ble_eq_true rfl)) (Nat.le_of_ble_eq_true rfl) xs0 k (fun h16 kk => ?_)
      obtain ⟨w17, k⟩ := kk
      exact aw_vret rfl d_X12_wakeBeat_77 ⟨Nat.le_refl _, Nat.le_refl _⟩ ⟨rfl, k⟩
  · have k := k.2 c3
    refine aw_aload_n (i := 0) rfl d_X12_wakeBeat_22 0 rfl ?_
    refine aw_getr (k0 := 39) kc_12 (ws_1 w) (Nat.le_of_ble_eq_true rfl) tw_1781 d_X12_wakeBeat_23 rfl (wr_1_39 w) ?_
    refine aw_iload_n (i := 3) rfl d_X12_wakeBeat_26 3 rfl ?_
    obtain ⟨b19, k⟩ := k
    refine aw_iald (ws_228 w) b19 d_X12_wakeBeat_27 ?_
    refine aw_iconst (v := 2) d_X12_wakeBeat_28 ic_2 ?_
    refine aw_icmp_ne (tgt := 62) d_X12_wakeBeat_29 rfl (fun c20 => ?_) (fun c20 => ?_)
    · have k := k.1 c20
      refine aw_aload_n (i := 0) rfl d_X12_wakeBeat_62 0 rfl ?_
      refine aw_getr (k0 := 17) kc_12 (ws_1 w) (Nat.le_of_ble_eq_true rfl) tw_1759 d_X12_wakeBeat_63 rfl (wr_1_17 w) ?_
      refine aw_iload_n (i := 1) rfl d_X12_wakeBeat_66 1 rfl ?_
      refine aw_dup2 d_X12_wakeBeat_67 ⟨rfl, rfl⟩ ?_
      obtain ⟨b21, k⟩ := k
      refine aw_iald (ws_213 w) b21 d_X12_wakeBeat_68 ?_
      refine aw_iconst (v := 1) d_X12_wakeBeat_69 ic_1 ?_
      refine aw_iadd d_X12_wakeBeat_70 ?_
      obtain ⟨b22, k⟩ := k
      refine aw_iast (ws_213 w) b22 d_X12_wakeBeat_71 ?_
      refine aw_aload_n (i := 0) rfl d_X12_wakeBeat_72 0 rfl ?_
      refine aw_iload_n (i := 1) rfl d_X12_wakeBeat_73 1 rfl ?_
      refine aw_Vv 1 [.int x1] [] d_X12_wakeBeat_74 (cV_X12_goOn (d + 3) 0 0) kc_12 (ws_1 w) tw_2340 rfl (rr0 (Nat.le_of_ble_eq_true rfl) (Nat.le_of_ble_eq_true rfl)) (Nat.le_of_ble_eq_true rfl) xs0 k (fun h23 kk => ?_)
      obtain ⟨w24, k⟩ := kk
      exact aw_vret rfl d_X12_wakeBeat_77 ⟨Nat.le_refl _, Nat.le_refl _⟩ ⟨rfl, k⟩
    · have k := k.2 c20
      refine aw_aload_n (i := 0) rfl d_X12_wakeBeat_32 0 rfl ?_
      refine aw_iload_n (i := 1) rfl d_X12_wakeBeat_33 1 rfl ?_
      refine aw_aload_n (i := 0) rfl d_X12_wakeBeat_34 0 rfl ?_
      refine aw_getr (k0 := 41) kc_12 (ws_1 w) (Nat.le_of_ble_eq_true rfl) tw_1783 d_X12_wakeBeat_35 rfl (wr_1_41 w) ?_
      refine aw_iload_n (i := 3) rfl d_X12_wakeBeat_38 3 rfl ?_
      obtain ⟨b26, k⟩ := k
      refine aw_iald (ws_230 w) b26 d_X12_wakeBeat_39 ?_
      refine aw_Vi 1 [.int x1, .int (h_i h 230 (((150 * (h_i h 212 x1.toNatClampNeg)) + (h_i h 213 x1.toNatClampNeg)) : Int32).toNatClampNeg)] [] d_X12_wakeBeat_40 (cV_X12_comes (d + 1) 0 0) kc_12 (ws_1 w) tw_2360 rfl (rr0 (Nat.le_of_ble_eq_true rfl) (Nat.le_of_ble_eq_true rfl)) (Nat.le_of_ble_eq_true rfl) xs0 k (fun r29 h27 kk => ?_)
      obtain ⟨w28, k⟩ := kk
      refine aw_if_eq (tgt := 62) d_X12_wakeBeat_43 rfl (fun c30 => ?_) (fun c30 => ?_)
      · have k := k.1 c30
        refine aw_aload_n (i := 0) rfl d_X12_wakeBeat_62 0 rfl ?_
        refine aw_getr (k0 := 17) kc_12 (ws_1 w28) (Nat.le_of_ble_eq_true rfl) tw_1759 d_X12_wakeBeat_63 rfl (wr_1_17 w28) ?_
        refine aw_iload_n (i := 1) rfl d_X12_wakeBeat_66 1 rfl ?_
        refine aw_dup2 d_X12_wakeBeat_67 ⟨rfl, rfl⟩ ?_
        obtain ⟨b31, k⟩ := k
        refine aw_iald (ws_213 w28) b31 d_X12_wakeBeat_68 ?_
        refine aw_iconst (v := 1) d_X12_wakeBeat_69 ic_1 ?_
        refine aw_iadd d_X12_wakeBeat_70 ?_
        obtain ⟨b32, k⟩ := k
        refine aw_iast (ws_213 w28) b32 d_X12_wakeBeat_71 ?_
        refine aw_aload_n (i := 0) rfl d_X12_wakeBeat_72 0 rfl ?_
        refine aw_iload_n (i := 1) rfl d_X12_wakeBeat_73 1 rfl ?_
        refine aw_Vv 1 [.int x1] [] d_X12_wakeBeat_74 (cV_X12_goOn (d + 3) 0 0) kc_12 (ws_1 w28) tw_2340 rfl (rr0 (Nat.le_of_ble_eq_true rfl) (Nat.le_of_ble_eq_true rfl)) (Nat.le_of_ble_eq_true rfl) xs0 k (fun h33 kk => ?_)
        obtain ⟨w34, k⟩ := kk
        exact aw_vret rfl d_X12_wakeBeat_77 ⟨Nat.le_refl _, Nat.le_refl _⟩ ⟨rfl, k⟩
      · have k := k.2 c30
        exact aw_vret rfl d_X12_wakeBeat_46 ⟨Nat.le_refl _, Nat.le_refl _⟩ ⟨rfl, k⟩
theorem t_X12_paid (d : Nat) (h : Hp_) (w : Wf h) (x1 : Int32) (x2 : Int32) (x3 : Int32) (K : Int32 → Hp_ → Prop) (k : (¬ (0 ≤ x1 ∧ x1 ≤ (h_i h 1 7) - 1) → K (-1) h) ∧ ((0 ≤ x1 ∧ x1 ≤ (h_i h 1 7) - 1) → (¬ (0 ≤ x3 ∧ x3 ≤ (h_i h 1 0)) → K (-1) h) ∧ ((0 ≤ x3 ∧ x3 ≤ (h_i h 1 0)) → (¬ (0 ≤ x2 ∧ x2 ≤ ((x3 / 1440) - 1)) → K (-1) h) ∧ ((0 ≤ x2 ∧ x2 ≤ ((x3 / 1440) - 1)) → Ci (m_X12_payOf (d + 7) 0 0) [.ref 1, .int x1, .int x2, .int x3] h (fun r12 h10 => Wf h10 ∧ (K r12 h10)))))) : Ci (m_X12_paid (d + 8) 0 0) [.ref 1, .int x1, .int x2, .int x3] h K := by
  refine Ct.of (fun _ _ _ => trivial) rfl (Nat.le_of_ble_eq_true rfl) ?_
  show AW (m_X12_paid (d + 8) 0 0) 0 0 0 [(0, .ref 1), (1, .int x1), (2, .int x2), (3, .int x3)] [] h (kI K)
  refine aw_aload_n (i := 0) rfl d_X12_paid_0 0 rfl ?_
  refine aw_iload_n (i := 1) rfl d_X12_paid_1 1 rfl ?_
  refine aw_Vi 1 [.int x1] [] d_X12_paid_2 (cV_X12_isMan (d + 1) 0 0) kc_12 (ws_1 w) tw_2167 rfl (rr0 (Nat.le_of_ble_eq_true rfl) (Nat.le_of_ble_eq_true rfl)) (Nat.le_of_ble_eq_true rfl) xs0 (s_X12_isMan _ _ w x1) (fun _ _ kk => ?_)
  obtain ⟨e1, e2⟩ := kk
  rw [e1, e2]
  refine aw_ifb_eq (tgt := 41) d_X12_paid_5 rfl (fun c3 => ?_) (fun c3 => ?_)
  · have k := k.1 c3
    refine aw_iconst (v := (-1)) d_X12_paid_41 ic_m1 ?_
    exact aw_iret rfl d_X12_paid_42 ⟨Nat.le_refl _, Nat.le_refl _⟩ ⟨_, rfl, k⟩
  · have k := k.2 c3
    refine aw_aload_n (i := 0) rfl d_X12_paid_8 0 rfl ?_
    refine aw_iload_n (i := 3) rfl d_X12_paid_9 3 rfl ?_
    refine aw_Vi 1 [.int x3] [] d_X12_paid_10 (cV_X12_isKnowing (d + 1) 0 0) kc_12 (ws_1 w) tw_2175 rfl (rr0 (Nat.le_of_ble_eq_true rfl) (Nat.le_of_ble_eq_true rfl)) (Nat.le_of_ble_eq_true rfl) xs0 (s_X12_isKnowing _ _ w x3) (fun _ _ kk => ?_)
    obtain ⟨e4, e5⟩ := kk
    rw [e4, e5]
    refine aw_ifb_eq (tgt := 41) d_X12_paid_13 rfl (fun c6 => ?_) (fun c6 => ?_)
    · have k := k.1 c6
      refine aw_iconst (v := (-1)) d_X12_paid_41 ic_m1 ?_
      exact aw_iret rfl d_X12_paid_42 ⟨Nat.le_refl _, Nat.le_refl _⟩ ⟨_, rfl, k⟩
    · have k := k.2 c6
      refine aw_iload_n (i := 2) rfl d_X12_paid_16 2 rfl ?_
      refine aw_iconst (v := 0) d_X12_paid_17 ic_0 ?_
      refine aw_iload_n (i := 3) rfl d_X12_paid_18 3 rfl ?_
      refine aw_sipush (v := 1440) d_X12_paid_19 is_1440 ?_
      refine aw_idiv d_X12_paid_22 (by decide) ?_
      refine aw_iconst (v := 1) d_X12_paid_23 ic_1 ?_
      refine aw_isub d_X12_paid_24 ?_
      refine aw_Si [.int x2, .int 0, .int ((x3 / 1440) - 1)] [] d_X12_paid_25 (cS_X12_in (d + 0) 0 0) tw_2147 rfl (rr0 (Nat.le_of_ble_eq_true rfl) (Nat.le_of_ble_eq_true rfl)) (Nat.le_of_ble_eq_true rfl) xs0 (s_X12_in _ _ x2 0 ((x3 / 1440) - 1)) (fun _ _ kk => ?_)
      obtain ⟨e7, e8⟩ := kk
      rw [e7, e8]
      refine aw_ifb_eq (tgt := 41) d_X12_paid_28 rfl (fun c9 => ?_) (fun c9 => ?_)
      · have k := k.1 c9
        refine aw_iconst (v := (-1)) d_X12_paid_41 ic_m1 ?_
        exact aw_iret rfl d_X12_paid_42 ⟨Nat.le_refl _, Nat.le_refl _⟩ ⟨_, rfl, k⟩
      · have k := k.2 c9
        refine aw_aload_n (i := 0) rfl d_X12_paid_31 0 rfl ?_
        refine aw_iload_n (i := 1) rfl d_X12_paid_32 1 rfl ?_
        refine aw_iload_n (i := 2) rfl d_X12_paid_33 2 rfl ?_
        refine aw_iload_n (i := 3) rfl d_X12_paid_34 3 rfl ?_
        refine aw_Vi 1 [.int x1, .int x2, .int x3] [] d_X12_paid_35 (cV_X12_payOf (d + 7) 0 0) kc_12 (ws_1 w) tw_2668 rfl (rr0 (Nat.le_of_ble_eq_true rfl) (Nat.le_of_ble_eq_true rfl)) (Nat.le_of_ble_eq_true rfl) xs0 k (fun r12 h10 kk => ?_)
        obtain ⟨w11, k⟩ := kk
        refine aw_goto (tgt := 42) d_X12_paid_38 rfl ?_
        exact aw_iret rfl d_X12_paid_42 ⟨Nat.le_refl _, Nat.le_refl _⟩ ⟨_, rfl, k⟩
theorem t_X12_book (d : Nat) (h : Hp_)  (K : Int32 → Hp_ → Prop) (k : AW (m_X12_book (d + 8) 0 0) 0 0 4 [(0, .ref 1), (1, .int 0), (2, .int 0)] [] h (kI K)) : Ci (m_X12_book (d + 8) 0 0) [.ref 1] h K := by
  refine Ct.of (fun _ _ _ => trivial) rfl (Nat.le_of_ble_eq_true rfl) ?_
  show AW (m_X12_book (d + 8) 0 0) 0 0 0 [(0, .ref 1)] [] h (kI K)
  refine aw_iconst (v := 0) d_X12_book_0 ic_0 ?_
  refine aw_istore_n (i := 1) rfl [(0, .ref 1), (1, .int 0)] d_X12_book_1 (Nat.le_of_ble_eq_true rfl) rfl rfl ?_
  refine aw_iconst (v := 0) d_X12_book_2 ic_0 ?_
  refine aw_istore_n (i := 2) rfl [(0, .ref 1), (1, .int 0), (2, .int 0)] d_X12_book_3 (Nat.le_of_ble_eq_true rfl) rfl rfl ?_
  exact k
theorem t_X12_book_4 (d : Nat) (h : Hp_) (w : Wf h) (x1 : Int32) (x2 : Int32) (K : Int32 → Hp_ → Prop) (k : (((h_i h 1 0) / 1440) ≤ x2 → (((h_i h 1 127) + x1) ≤ 600 → AW (m_X12_book (d + 8) 0 0) 0 0 86 [(0, .ref 1), (1, .int x1), (2, .int 0)] [] h (kI K)) ∧ (¬ ((h_i h 1 127) + x1) ≤ 600 → K (-1) h)) ∧ (¬ ((h_i h 1 0) / 1440) ≤ x2 → AW (m_X12_book (d + 8) 0 0) 0 0 18 [(0, .ref 1), (1, .int x1), (2, .int x2), (3, .int 0)] [] h (kI K))) : AW (m_X12_book (d + 8) 0 0) 0 0 4 [(0, .ref 1), (1, .int x1), (2, .int x2)] [] h (kI K) := by
  refine aw_iload_n (i := 2) rfl d_X12_book_4 2 rfl ?_
  refine aw_aload_n (i := 0) rfl d_X12_book_5 0 rfl ?_
  refine aw_geti (k0 := 0) kc_12 (ws_1 w) (Nat.le_of_ble_eq_true rfl) tw_1742 d_X12_book_6 rfl ?_
  refine aw_sipush (v := 1440) d_X12_book_9 is_1440 ?_
  refine aw_idiv d_X12_book_12 (by decide) ?_
  refine aw_icmp_ge (tgt := 70) d_X12_book_13 rfl (fun c1 => ?_) (fun c1 => ?_)
  · have k := k.1 c1
    refine aw_aload_n (i := 0) rfl d_X12_book_70 0 rfl ?_
    refine aw_geti (k0 := 127) kc_12 (ws_1 w) (Nat.le_of_ble_eq_true rfl) tw_1869 d_X12_book_71 rfl ?_
    refine aw_iload_n (i := 1) rfl d_X12_book_74 1 rfl ?_
    refine aw_iadd d_X12_book_75 ?_
    refine aw_sipush (v := 600) d_X12_book_76 is_600 ?_
    refine aw_icmp_le (tgt := 84) d_X12_book_79 rfl (fun c2 => ?_) (fun c2 => ?_)
    · have k := k.1 c2
      refine aw_iconst (v := 0) d_X12_book_84 ic_0 ?_
      refine aw_istore_n (i := 2) rfl [(0, .ref 1), (1, .int x1), (2, .int 0)] d_X12_book_85 (Nat.le_of_ble_eq_true rfl) rfl rfl ?_
      exact k
    · have k := k.2 c2
      refine aw_iconst (v := (-1)) d_X12_book_82 ic_m1 ?_
      exact aw_iret rfl d_X12_book_83 ⟨Nat.le_refl _, Nat.le_refl _⟩ ⟨_, rfl, k⟩
  · have k := k.2 c1
    refine aw_iconst (v := 0) d_X12_book_16 ic_0 ?_
    refine aw_istore_n (i := 3) rfl [(0, .ref 1), (1, .int x1), (2, .int x2), (3, .int 0)] d_X12_book_17 (Nat.le_of_ble_eq_true rfl) rfl rfl ?_
    exact k
theorem t_X12_book_86 (d : Nat) (h : Hp_) (w : Wf h) (x1 : Int32) (x2 : Int32) (K : Int32 → Hp_ → Prop) (k : (((h_i h 1 0) / 1440) ≤ x2 → K x1 h) ∧ (¬ ((h_i h 1 0) / 1440) ≤ x2 → AW (m_X12_book (d + 8) 0 0) 0 0 100 [(0, .ref 1), (1, .int x1), (2, .int x2), (3, .int 0)] [] h (kI K))) : AW (m_X12_book (d + 8) 0 0) 0 0 86 [(0, .ref 1), (1, .int x1), (2, .int x2)] [] h (kI K) := by
  refine aw_iload_n (i := 2) rfl d_X12_book_86 2 rfl ?_
  refine aw_aload_n (i := 0) rfl d_X12_book_87 0 rfl ?_
  refine aw_geti (k0 := 0) kc_12 (ws_1 w) (Nat.le_of_ble_eq_true rfl) tw_1742 d_X12_book_88 rfl ?_
  refine aw_sipush (v := 1440) d_X12_book_91 is_1440 ?_
  refine aw_idiv d_X12_book_94 (by decide) ?_
  refine aw_icmp_ge (tgt := 227) d_X12_book_95 rfl (fun c3 => ?_) (fun c3 => ?_)
  · have k := k.1 c3
    refine aw_iload_n (i := 1) rfl d_X12_book_227 1 rfl ?_
    exact aw_iret rfl d_X12_book_228 ⟨Nat.le_refl _, Nat.le_refl _⟩ ⟨_, rfl, k⟩
  · have k := k.2 c3
    refine aw_iconst (v := 0) d_X12_book_98 ic_0 ?_
    refine aw_istore_n (i := 3) rfl [(0, .ref 1), (1, .int x1), (2, .int x2), (3, .int 0)] d_X12_book_99 (Nat.le_of_ble_eq_true rfl) rfl rfl ?_
    exact k
theorem t_X12_book_18 (d : Nat) (h : Hp_) (w : Wf h) (x1 : Int32) (x2 : Int32) (x3 : Int32) (K : Int32 → Hp_ → Prop) (k : ((h_i h 1 7) ≤ x3 → AW (m_X12_book (d + 8) 0 0) 0 0 4 [(0, .ref 1), (1, .int x1), (2, .int (x2 + 1))] [] h (kI K)) ∧ (¬ (h_i h 1 7) ≤ x3 → Ci (m_X12_payOf (d + 7) 0 0) [.ref 1, .int x3, .int x2, .int (h_i h 1 0)] h (fun r7 h5 => Wf h5 ∧ (vp_in ((31 * x3) + x2) 372 ∧ ((r7 = (h_i h5 293 (((31 * x3) + x2) : Int32).toNatClampNeg) → AW (m_X12_book (d + 8) 0 0) 0 0 18 [(0, .ref 1), (1, .int (x1 + 0)), (2, .int x2), (3, .int (x3 + 1))] [] h5 (kI K)) ∧ (¬ r7 = (h_i h5 293 (((31 * x3) + x2) : Int32).toNatClampNeg) → AW (m_X12_book (d + 8) 0 0) 0 0 18 [(0, .ref 1), (1, .int (x1 + 1)), (2, .int x2), (3, .int (x3 + 1))] [] h5 (kI K))))))) : AW (m_X12_book (d + 8) 0 0) 0 0 18 [(0, .ref 1), (1, .int x1), (2, .int x2), (3, .int x3)] [] h (kI K) := by
  refine aw_iload_n (i := 3) rfl d_X12_book_18 3 rfl ?_
  refine aw_aload_n (i := 0) rfl d_X12_book_19 0 rfl ?_
  refine aw_geti (k0 := 7) kc_12 (ws_1 w) (Nat.le_of_ble_eq_true rfl) tw_1749 d_X12_book_20 rfl ?_
  refine aw_icmp_ge (tgt := 64) d_X12_book_23 rfl (fun c4 => ?_) (fun c4 => ?_)
  · have k := k.1 c4
    refine aw_iinc (v := (x2 + 1)) [(0, .ref 1), (1, .int x1), (2, .int (x2 + 1)), (3, .int x3)] d_X12_book_64 2 rfl rfl (Nat.le_of_ble_eq_true rfl) rfl rfl ?_
    refine aw_goto (tgt := 4) d_X12_book_67 rfl ?_
    exact aw_lvp [0, 1, 2] [(0, .ref 1), (1, .int x1), (2, .int (x2 + 1))] rfl k
  · have k := k.2 c4
    refine aw_iload_n (i := 1) rfl d_X12_book_26 1 rfl ?_
    refine aw_aload_n (i := 0) rfl d_X12_book_27 0 rfl ?_
    refine aw_iload_n (i := 3) rfl d_X12_book_28 3 rfl ?_
    refine aw_iload_n (i := 2) rfl d_X12_book_29 2 rfl ?_
    refine aw_aload_n (i := 0) rfl d_X12_book_30 0 rfl ?_
    refine aw_geti (k0 := 0) kc_12 (ws_1 w) (Nat.le_of_ble_eq_true rfl) tw_1742 d_X12_book_31 rfl ?_
    refine aw_Vi 1 [.int x3, .int x2, .int (h_i h 1 0)] [.int x1] d_X12_book_34 (cV_X12_payOf (d + 7) 0 0) kc_12 (ws_1 w) tw_2668 rfl (rr0 (Nat.le_of_ble_eq_true rfl) (Nat.le_of_ble_eq_true rfl)) (Nat.le_of_ble_eq_true rfl) xs0 k (fun r7 h5 kk => ?_)
    obtain ⟨w6, k⟩ := kk
    refine aw_aload_n (i := 0) rfl d_X12_book_37 0 rfl ?_
    refine aw_getr (k0 := 122) kc_12 (ws_1 w6) (Nat.le_of_ble_eq_true rfl) tw_1864 d_X12_book_38 rfl (wr_1_122 w6) ?_
    refine aw_bipush (v := 31) d_X12_book_41 ib_31 ?_
    refine aw_iload_n (i := 3) rfl d_X12_book_43 3 rfl ?_
    refine aw_imul d_X12_book_44 ?_
    refine aw_iload_n (i := 2) rfl d_X12_book_45 2 rfl ?_
    refine aw_iadd d_X12_book_46 ?_
    obtain ⟨b8, k⟩ := k
    refine aw_iald (ws_293 w6) b8 d_X12_book_47 ?_
    refine aw_icmp_eq (tgt := 55) d_X12_book_48 rfl (fun c9 => ?_) (fun c9 => ?_)
    · have k := k.1 c9
      refine aw_iconst (v := 0) d_X12_book_55 ic_0 ?_
      refine aw_iadd d_X12_book_56 ?_
      refine aw_istore_n (i := 1) rfl [(0, .ref 1), (1, .int (x1 + 0)), (2, .int x2), (3, .int x3)] d_X12_book_57 (Nat.le_of_ble_eq_true rfl) rfl rfl ?_
      refine aw_iinc (v := (x3 + 1)) [(0, .ref 1), (1, .int (x1 + 0)), (2, .int x2), (3, .int (x3 + 1))] d_X12_book_58 3 rfl rfl (Nat.le_of_ble_eq_true rfl) rfl rfl ?_
      refine aw_goto (tgt := 18) d_X12_book_61 rfl ?_
      exact k
    · have k := k.2 c9
      refine aw_iconst (v := 1) d_X12_book_51 ic_1 ?_
      refine aw_goto (tgt := 56) d_X12_book_52 rfl ?_
      refine aw_iadd d_X12_book_56 ?_
      refine aw_istore_n (i := 1) rfl [(0, .ref 1), (1, .int (x1 + 1)), (2, .int x2), (3, .int x3)] d_X12_book_57 (Nat.le_of_ble_eq_true rfl) rfl rfl ?_
      refine aw_iinc (v := (x3 + 1)) [(0, .ref 1), (1, .int (x1 + 1)), (2, .int x2), (3, .int (x3 + 1))] d_X12_book_58 3 rfl rfl (Nat.le_of_ble_eq_true rfl) rfl rfl ?_
      refine aw_goto (tgt := 18) d_X12_book_61 rfl ?_
      exact k
theorem t_X12_book_100 (d : Nat) (h : Hp_) (w : Wf h) (x1 : Int32) (x2 : Int32) (x3 : Int32) (K : Int32 → Hp_ → Prop) (k : ((h_i h 1 7) ≤ x3 → AW (m_X12_book (d + 8) 0 0) 0 0 86 [(0, .ref 1), (1, .int x1), (2, .int (x2 + 1))] [] h (kI K)) ∧ (¬ (h_i h 1 7) ≤ x3 → Ci (m_X12_payOf (d + 7) 0 0) [.ref 1, .int x3, .int x2, .int (h_i h 1 0)] h (fun r13 h11 => Wf h11 ∧ (vp_in ((31 * x3) + x2) 372 ∧ ((r13 = (h_i h11 293 (((31 * x3) + x2) : Int32).toNatClampNeg) → AW (m_X12_book (d + 8) 0 0) 0 0 100 [(0, .ref 1), (1, .int x1), (2, .int x2), (3, .int (x3 + 1))] [] h11 (kI K)) ∧ (¬ r13 = (h_i h11 293 (((31 * x3) + x2) : Int32).toNatClampNeg) → vp_in (h_i h11 1 127) 600 ∧ (vp_in (h_i h11 1 127) 600 ∧ (vp_in ((31 * x3) + x2) 372 ∧ (vp_in (h_i h11 1 127) 600 ∧ (vp_in (h_i h11 1 127) 600 ∧ (vp_in ((31 * x3) + x2) 372 ∧ (AW (m_X12_book (d + 8) 0 0) 0 0 100 [(0, .ref 1), (1, .int x1), (2, .int x2), (3, .int (x3 + 1))] [] (h_im (h_im (h_im (h_im (h_im (h_im h11 294 ((h_i h11 1 127) : Int32).toNatClampNeg x3) 295 ((h_i h11 1 127) : Int32).toNatClampNeg x2) 296 ((h_i h11 1 127) : Int32).toNatClampNeg (r13 - (h_i h11 293 (((31 * x3) + x2) : Int32).toNatClampNeg))) 297 ((h_i h11 1 127) : Int32).toNatClampNeg (h_i h11 1 0)) 1 127 ((h_i h11 1 127) + 1)) 293 (((31 * x3) + x2) : Int32).toNatClampNeg r13) (kI K))))))))))))) : AW (m_X12_book (d + 8) 0 0) 0 0 100 [(0, .ref 1), (1, .int x1), (2, .int x2), (3, .int x3)] [] h (kI K) := by
  refine aw_iload_n (i := 3) rfl d_X12_book_100 3 rfl ?_
  refine aw_aload_n (i := 0) rfl d_X12_book_101 0 rfl ?_
  refine aw_geti (k0 := 7) kc_12 (ws_1 w) (Nat.le_of_ble_eq_true rfl) tw_1749 d_X12_book_102 rfl ?_
  refine aw_icmp_ge (tgt := 221) d_X12_book_105 rfl (fun c10 => ?_) (fun c10 => ?_)
  · have k := k.1 c10
    refine aw_iinc (v := (x2 + 1)) [(0, .ref 1), (1, .int x1), (2, .int (x2 + 1)), (3, .int x3)] d_X12_book_221 2 rfl rfl (Nat.le_of_ble_eq_true rfl) rfl rfl ?_
    refine aw_goto (tgt := 86) d_X12_book_224 rfl ?_
    exact aw_lvp [0, 1, 2] [(0, .ref 1), (1, .int x1), (2, .int (x2 + 1))] rfl k
  · have k := k.2 c10
    refine aw_aload_n (i := 0) rfl d_X12_book_108 0 rfl ?_
    refine aw_iload_n (i := 3) rfl d_X12_book_109 3 rfl ?_
    refine aw_iload_n (i := 2) rfl d_X12_book_110 2 rfl ?_
    refine aw_aload_n (i := 0) rfl d_X12_book_111 0 rfl ?_
    refine aw_geti (k0 := 0) kc_12 (ws_1 w) (Nat.le_of_ble_eq_true rfl) tw_1742 d_X12_book_112 rfl ?_
    refine aw_Vi 1 [.int x3, .int x2, .int (h_i h 1 0)] [] d_X12_book_115 (cV_X12_payOf (d + 7) 0 0) kc_12 (ws_1 w) tw_2668 rfl (rr0 (Nat.le_of_ble_eq_true rfl) (Nat.le_of_ble_eq_true rfl)) (Nat.le_of_ble_eq_true rfl) xs0 k (fun r13 h11 kk => ?_)
    obtain ⟨w12, k⟩ := kk
    refine aw_istore [(0, .ref 1), (1, .int x1), (2, .int x2), (3, .int x3), (4, .int r13)] d_X12_book_118 (Nat.le_of_ble_eq_true rfl) rfl rfl ?_
    refine aw_iload d_X12_book_120 4 rfl ?_
    refine aw_aload_n (i := 0) rfl d_X12_book_122 0 rfl ?_
    refine aw_getr (k0 := 122) kc_12 (ws_1 w12) (Nat.le_of_ble_eq_true rfl) tw_1864 d_X12_book_123 rfl (wr_1_122 w12) ?_
    refine aw_bipush (v := 31) d_X12_book_126 ib_31 ?_
    refine aw_iload_n (i := 3) rfl d_X12_book_128 3 rfl ?_
    refine aw_imul d_X12_book_129 ?_
    refine aw_iload_n (i := 2) rfl d_X12_book_130 2 rfl ?_
    refine aw_iadd d_X12_book_131 ?_
    obtain ⟨b14, k⟩ := k
    refine aw_iald (ws_293 w12) b14 d_X12_book_132 ?_
    refine aw_icmp_eq (tgt := 215) d_X12_book_133 rfl (fun c15 => ?_) (fun c15 => ?_)
    · have k := k.1 c15
      refine aw_iinc (v := (x3 + 1)) [(0, .ref 1), (1, .int x1), (2, .int x2), (3, .int (x3 + 1)), (4, .int r13)] d_X12_book_215 3 rfl rfl (Nat.le_of_ble_eq_true rfl) rfl rfl ?_
      refine aw_goto (tgt := 100) d_X12_book_218 rfl ?_
      exact aw_lvp [0, 1, 2, 3] [(0, .ref 1), (1, .int x1), (2, .int x2), (3, .int (x3 + 1))] rfl k
    · have k := k.2 c15
      refine aw_aload_n (i := 0) rfl d_X12_book_136 0 rfl ?_
      refine aw_getr (k0 := 123) kc_12 (ws_1 w12) (Nat.le_of_ble_eq_true rfl) tw_1865 d_X12_book_137 rfl (wr_1_123 w12) ?_
      refine aw_aload_n (i := 0) rfl d_X12_book_140 0 rfl ?_
      refine aw_geti (k0 := 127) kc_12 (ws_1 w12) (Nat.le_of_ble_eq_true rfl) tw_1869 d_X12_book_141 rfl ?_
      refine aw_iload_n (i := 3) rfl d_X12_book_144 3 rfl ?_
      obtain ⟨b16, k⟩ := k
      refine aw_iast (ws_294 w12) b16 d_X12_book_145 ?_
      refine aw_aload_n (i := 0) rfl d_X12_book_146 0 rfl ?_
      refine aw_getr (k0 := 124) kc_12 (ws_1 w12) (Nat.le_of_ble_eq_true rfl) tw_1866 d_X12_book_147 rfl (wr_1_124 w12) ?_
      refine aw_aload_n (i := 0) rfl d_X12_book_150 0 rfl ?_
      refine aw_geti (k0 := 127) kc_12 (ws_1 w12) (Nat.le_of_ble_eq_true rfl) tw_1869 d_X12_book_151 rfl ?_
      refine aw_vi (v2 := (h_i h11 1 127)) (rfl) ?_
      refine aw_iload_n (i := 2) rfl d_X12_book_154 2 rfl ?_
      obtain ⟨b17, k⟩ := k
      refine aw_iast (ws_295 w12) b17 d_X12_book_155 ?_
      refine aw_aload_n (i := 0) rfl d_X12_book_156 0 rfl ?_
      refine aw_getr (k0 := 125) kc_12 (ws_1 w12) (Nat.le_of_ble_eq_true rfl) tw_1867 d_X12_book_157 rfl (wr_1_125 w12) ?_
      refine aw_aload_n (i := 0) rfl d_X12_book_160 0 rfl ?_
      refine aw_geti (k0 := 127) kc_12 (ws_1 w12) (Nat.le_of_ble_eq_true rfl) tw_1869 d_X12_book_161 rfl ?_
      refine aw_vi (v2 := (h_i h11 1 127)) (rfl) ?_
      refine aw_iload d_X12_book_164 4 rfl ?_
      refine aw_aload_n (i := 0) rfl d_X12_book_166 0 rfl ?_
      refine aw_getr (k0 := 122) kc_12 (ws_1 w12) (Nat.le_of_ble_eq_true rfl) tw_1864 d_X12_book_167 rfl (wr_1_122 w12) ?_
      refine aw_bipush (v := 31) d_X12_book_170 ib_31 ?_
      refine aw_iload_n (i := 3) rfl d_X12_book_172 3 rfl ?_
      refine aw_imul d_X12_book_173 ?_
      refine aw_iload_n (i := 2) rfl d_X12_book_174 2 rfl ?_
      refine aw_iadd d_X12_book_175 ?_
      obtain ⟨b18, k⟩ := k
      refine aw_iald (ws_293 w12) b18 d_X12_book_176 ?_
      refine aw_vi (v2 := (h_i h11 293 (((31 * x3) + x2) : Int32).toNatClampNeg)) (rfl) ?_
      refine aw_isub d_X12_book_177 ?_
      obtain ⟨b19, k⟩ := k
      refine aw_iast (ws_296 w12) b19 d_X12_book_178 ?_
      refine aw_aload_n (i := 0) rfl d_X12_book_179 0 rfl ?_
      refine aw_getr (k0 := 126) kc_12 (ws_1 w12) (Nat.le_of_ble_eq_true rfl) tw_1868 d_X12_book_180 rfl (wr_1_126 w12) ?_
      refine aw_aload_n (i := 0) rfl d_X12_book_183 0 rfl ?_
      refine aw_geti (k0 := 127) kc_12 (ws_1 w12) (Nat.le_of_ble_eq_true rfl) tw_1869 d_X12_book_184 rfl ?_
      refine aw_vi (v2 := (h_i h11 1 127)) (rfl) ?_
      refine aw_aload_n (i := 0) rfl d_X12_book_187 0 rfl ?_
      refine aw_geti (k0 := 0) kc_12 (ws_1 w12) (Nat.le_of_ble_eq_true rfl) tw_1742 d_X12_book_188 rfl ?_
      refine aw_vi (v2 := (h_i h11 1 0)) (rfl) ?_
      obtain ⟨b20, k⟩ := k
      refine aw_iast (ws_297 w12) b20 d_X12_book_191 ?_
      refine aw_aload_n (i := 0) rfl d_X12_book_192 0 rfl ?_
      refine aw_dup d_X12_book_193 rfl ?_
      refine aw_geti (k0 := 127) kc_12 (ws_1 w12) (Nat.le_of_ble_eq_true rfl) tw_1869 d_X12_book_194 rfl ?_
      refine aw_vi (v2 := (h_i h11 1 127)) (rfl) ?_
      refine aw_iconst (v := 1) d_X12_book_197 ic_1 ?_
      refine aw_iadd d_X12_book_198 ?_
      refine aw_puti (k0 := 127) kc_12 (ws_1 w12) (Nat.le_of_ble_eq_true rfl) tw_1869 d_X12_book_199 rfl rfl nf_i ?_
      refine aw_aload_n (i := 0) rfl d_X12_book_202 0 rfl ?_
      refine aw_getr (k0 := 122) kc_12 (ws_1 w12) (Nat.le_of_ble_eq_true rfl) tw_1864 d_X12_book_203 rfl (wr_1_122 w12) ?_
      refine aw_bipush (v := 31) d_X12_book_206 ib_31 ?_
      refine aw_iload_n (i := 3) rfl d_X12_book_208 3 rfl ?_
      refine aw_imul d_X12_book_209 ?_
      refine aw_iload_n (i := 2) rfl d_X12_book_210 2 rfl ?_
      refine aw_iadd d_X12_book_211 ?_
      refine aw_iload d_X12_book_212 4 rfl ?_
      obtain ⟨b21, k⟩ := k
      refine aw_iast (ws_293 w12) b21 d_X12_book_214 ?_
      refine aw_iinc (v := (x3 + 1)) [(0, .ref 1), (1, .int x1), (2, .int x2), (3, .int (x3 + 1)), (4, .int r13)] d_X12_book_215 3 rfl rfl (Nat.le_of_ble_eq_true rfl) rfl rfl ?_
      refine aw_goto (tgt := 100) d_X12_book_218 rfl ?_
      exact aw_lvp [0, 1, 2, 3] [(0, .ref 1), (1, .int x1), (2, .int x2), (3, .int (x3 + 1))] rfl k
theorem t_X12_wake (d : Nat) (h : Hp_) (w : Wf h) (x1 : Int32) (K : Hp_ → Prop) (k : vp_in x1 12 ∧ (((h_i h 211 x1.toNatClampNeg) = (h_i h 1 0) → vp_in x1 12 ∧ (((h_i h 210 x1.toNatClampNeg) = (-1) → AW (m_X12_wake (d + 9) 0 0) 0 0 29 [(0, .ref 1), (1, .int x1)] [.int 0] h (kV K)) ∧ (¬ (h_i h 210 x1.toNatClampNeg) = (-1) → AW (m_X12_wake (d + 9) 0 0) 0 0 29 [(0, .ref 1), (1, .int x1)] [.int 1] h (kV K)))) ∧ (¬ (h_i h 211 x1.toNatClampNeg) = (h_i h 1 0) → K h))) : Cv (m_X12_wake (d + 9) 0 0) [.ref 1, .int x1] h K := by
  refine Ct.of (fun _ _ _ => trivial) rfl (Nat.le_of_ble_eq_true rfl) ?_
  show AW (m_X12_wake (d + 9) 0 0) 0 0 0 [(0, .ref 1), (1, .int x1)] [] h (kV K)
  refine aw_aload_n (i := 0) rfl d_X12_wake_0 0 rfl ?_
  refine aw_getr (k0 := 15) kc_12 (ws_1 w) (Nat.le_of_ble_eq_true rfl) tw_1757 d_X12_wake_1 rfl (wr_1_15 w) ?_
  refine aw_iload_n (i := 1) rfl d_X12_wake_4 1 rfl ?_
  obtain ⟨b1, k⟩ := k
  refine aw_iald (ws_211 w) b1 d_X12_wake_5 ?_
  refine aw_aload_n (i := 0) rfl d_X12_wake_6 0 rfl ?_
  refine aw_geti (k0 := 0) kc_12 (ws_1 w) (Nat.le_of_ble_eq_true rfl) tw_1742 d_X12_wake_7 rfl ?_
  refine aw_icmp_eq (tgt := 14) d_X12_wake_10 rfl (fun c2 => ?_) (fun c2 => ?_)
  · have k := k.1 c2
    refine aw_aload_n (i := 0) rfl d_X12_wake_14 0 rfl ?_
    refine aw_getr (k0 := 14) kc_12 (ws_1 w) (Nat.le_of_ble_eq_true rfl) tw_1756 d_X12_wake_15 rfl (wr_1_14 w) ?_
    refine aw_iload_n (i := 1) rfl d_X12_wake_18 1 rfl ?_
    obtain ⟨b3, k⟩ := k
    refine aw_iald (ws_210 w) b3 d_X12_wake_19 ?_
    refine aw_iconst (v := (-1)) d_X12_wake_20 ic_m1 ?_
    refine aw_icmp_eq (tgt := 28) d_X12_wake_21 rfl (fun c4 => ?_) (fun c4 => ?_)
    · have k := k.1 c4
      refine aw_iconst (v := 0) d_X12_wake_28 ic_0 ?_
      exact k
    · have k := k.2 c4
      refine aw_iconst (v := 1) d_X12_wake_24 ic_1 ?_
      refine aw_goto (tgt := 29) d_X12_wake_25 rfl ?_
      exact k
  · have k := k.2 c2
    exact aw_vret rfl d_X12_wake_13 ⟨Nat.le_refl _, Nat.le_refl _⟩ ⟨rfl, k⟩
theorem t_X12_wake_29 (d : Nat) (h : Hp_) (w : Wf h) (x1 : Int32) (s0 : Int32) (K : Hp_ → Prop) (k : (s0 = 0 → vp_in x1 12 ∧ (vp_in x1 12 ∧ ((¬ (h_i h 208 x1.toNatClampNeg) = 2 → vp_in x1 12 ∧ ((¬ (h_i h 208 x1.toNatClampNeg) = 3 → vp_in x1 12 ∧ ((¬ (h_i h 208 x1.toNatClampNeg) = 1 → K (h_im h 211 x1.toNatClampNeg (-1))) ∧ ((h_i h 208 x1.toNatClampNeg) = 1 → Cv (m_X12_wakeBeat (d + 8) 0 0) [.ref 1, .int x1, .int s0] (h_im h 211 x1.toNatClampNeg (-1)) (fun h13 => Wf h13 ∧ (K h13))))) ∧ ((h_i h 208 x1.toNatClampNeg) = 3 → (¬ s0 = 0 → vp_in x1 12 ∧ (vp_in x1 12 ∧ ((¬ (h_i h 209 x1.toNatClampNeg) = (h_i h 218 x1.toNatClampNeg) → vp_in x1 12 ∧ (Cv (m_X12_goDrawn (d + 4) 0 0) [.ref 1, .int x1] (h_im (h_im h 211 x1.toNatClampNeg (-1)) 248 x1.toNatClampNeg (vp_nar .boolean 1)) (fun h21 => Wf h21 ∧ (K h21)))) ∧ ((h_i h 209 x1.toNatClampNeg) = (h_i h 218 x1.toNatClampNeg) → vp_in x1 12 ∧ (((h_i h 248 x1.toNatClampNeg) = 0 → vp_in x1 12 ∧ (Cv (m_X12_goDrawn (d + 4) 0 0) [.ref 1, .int x1] (h_im (h_im h 211 x1.toNatClampNeg (-1)) 248 x1.toNatClampNeg (vp_nar .boolean 1)) (fun h27 => Wf h27 ∧ (K h27)))) ∧ (¬ (h_i h 248 x1.toNatClampNeg) = 0 → Cv (m_X12_stay (d + 3) 0 0) [.ref 1, .int x1] (h_im h 211 x1.toNatClampNeg (-1)) (fun h30 => Wf h30 ∧ (K h30)))))))) ∧ (s0 = 0 → Cv (m_X12_goHome (d + 2) 0 0) [.ref 1, .int x1] (h_im h 211 x1.toNatClampNeg (-1)) (fun h33 => Wf h33 ∧ (K h33)))))) ∧ ((h_i h 208 x1.toNatClampNeg) = 2 → Cv (m_X12_free (d + 0) 0 0) [.ref 1, .int x1] (h_im h 211 x1.toNatClampNeg (-1)) (fun h36 => Wf h36 ∧ (K h36)))))) ∧ (¬ s0 = 0 → vp_in x1 12 ∧ (vp_in x1 12 ∧ (vp_in x1 12 ∧ (vp_in x1 12 ∧ (vp_in x1 12 ∧ ((¬ (h_i h 208 x1.toNatClampNeg) = 2 → vp_in x1 12 ∧ ((¬ (h_i h 208 x1.toNatClampNeg) = 3 → vp_in x1 12 ∧ ((¬ (h_i h 208 x1.toNatClampNeg) = 1 → K (h_im (h_im (h_im h 209 x1.toNatClampNeg (h_i h 210 x1.toNatClampNeg)) 210 x1.toNatClampNeg (-1)) 211 x1.toNatClampNeg (-1))) ∧ ((h_i h 208 x1.toNatClampNeg) = 1 → Cv (m_X12_wakeBeat (d + 8) 0 0) [.ref 1, .int x1, .int s0] (h_im (h_im (h_im h 209 x1.toNatClampNeg (h_i h 210 x1.toNatClampNeg)) 210 x1.toNatClampNeg (-1)) 211 x1.toNatClampNeg (-1)) (fun h49 => Wf h49 ∧ (K h49))))) ∧ ((h_i h 208 x1.toNatClampNeg) = 3 → (¬ s0 = 0 → vp_in x1 12 ∧ (vp_in x1 12 ∧ ((¬ (h_i h 210 x1.toNatClampNeg) = (h_i h 218 x1.toNatClampNeg) → vp_in x1 12 ∧ (Cv (m_X12_goDrawn (d + 4) 0 0) [.ref 1, .int x1] (h_im (h_im (h_im (h_im h 209 x1.toNatClampNeg (h_i h 210 x1.toNatClampNeg)) 210 x1.toNatClampNeg (-1)) 211 x1.toNatClampNeg (-1)) 248 x1.toNatClampNeg (vp_nar .boolean 1)) (fun h57 => Wf h57 ∧ (K h57)))) ∧ ((h_i h 210 x1.toNatClampNeg) = (h_i h 218 x1.toNatClampNeg) → vp_in x1 12 ∧ (((h_i h 248 x1.toNatClampNeg) = 0 → vp_in x1 12 ∧ (Cv (m_X12_goDrawn (d + 4) 0 0) [.ref 1, .int x1] (h_im (h_im (h_im (h_im h 209 x1.toNatClampNeg (h_i h 210 x1.toNatClampNeg)) 210 x1.toNatClampNeg (-1)) 211 x1.toNatClampNeg (-1)) 248 x1.toNatClampNeg (vp_nar .boolean 1)) (fun h63 => Wf h63 ∧ (K h63)))) ∧ (¬ (h_i h 248 x1.toNatClampNeg) = 0 → Cv (m_X12_stay (d + 3) 0 0) [.ref 1, .int x1] (h_im (h_im (h_im h 209 x1.toNatClampNeg (h_i h 210 x1.toNatClampNeg)) 210 x1.toNatClampNeg (-1)) 211 x1.toNatClampNeg (-1)) (fun h66 => Wf h66 ∧ (K h66)))))))) ∧ (s0 = 0 → Cv (m_X12_goHome (d + 2) 0 0) [.ref 1, .int x1] (h_im (h_im (h_im h 209 x1.toNatClampNeg (h_i h 210 x1.toNatClampNeg)) 210 x1.toNatClampNeg (-1)) 211 x1.toNatClampNeg (-1)) (fun h69 => Wf h69 ∧ (K h69)))))) ∧ ((h_i h 208 x1.toNatClampNeg) = 2 → Cv (m_X12_free (d + 0) 0 0) [.ref 1, .int x1] (h_im (h_im (h_im h 209 x1.toNatClampNeg (h_i h 210 x1.toNatClampNeg)) 210 x1.toNatClampNeg (-1)) 211 x1.toNatClampNeg (-1)) (fun h72 => Wf h72 ∧ (K h72)))))))))) : AW (m_X12_wake (d + 9) 0 0) 0 0 29 [(0, .ref 1), (1, .int x1)] [.int s0] h (kV K) := by
  refine aw_istore_n (i := 2) rfl [(0, .ref 1), (1, .int x1), (2, .int s0)] d_X12_wake_29 (Nat.le_of_ble_eq_true rfl) rfl rfl ?_
  refine aw_iload_n (i := 2) rfl d_X12_wake_30 2 rfl ?_
  refine aw_if_eq (tgt := 53) d_X12_wake_31 rfl (fun c5 => ?_) (fun c5 => ?_)
  · have k := k.1 c5
    refine aw_aload_n (i := 0) rfl d_X12_wake_53 0 rfl ?_
    refine aw_getr (k0 := 15) kc_12 (ws_1 w) (Nat.le_of_ble_eq_true rfl) tw_1757 d_X12_wake_54 rfl (wr_1_15 w) ?_
    refine aw_iload_n (i := 1) rfl d_X12_wake_57 1 rfl ?_
    refine aw_iconst (v := (-1)) d_X12_wake_58 ic_m1 ?_
    obtain ⟨b6, k⟩ := k
    refine aw_iast (ws_211 w) b6 d_X12_wake_59 ?_
    refine aw_aload_n (i := 0) rfl d_X12_wake_60 0 rfl ?_
    refine aw_getr (k0 := 12) kc_12 (ws_1 w) (Nat.le_of_ble_eq_true rfl) tw_1754 d_X12_wake_61 rfl (wr_1_12 w) ?_
    refine aw_iload_n (i := 1) rfl d_X12_wake_64 1 rfl ?_
    obtain ⟨b7, k⟩ := k
    refine aw_iald (ws_208 w) b7 d_X12_wake_65 ?_
    refine aw_vi (v2 := (h_i h 208 x1.toNatClampNeg)) (rfl) ?_
    refine aw_iconst (v := 2) d_X12_wake_66 ic_2 ?_
    refine aw_icmp_ne (tgt := 78) d_X12_wake_67 rfl (fun c8 => ?_) (fun c8 => ?_)
    · have k := k.1 c8
      refine aw_aload_n (i := 0) rfl d_X12_wake_78 0 rfl ?_
      refine aw_getr (k0 := 12) kc_12 (ws_1 w) (Nat.le_of_ble_eq_true rfl) tw_1754 d_X12_wake_79 rfl (wr_1_12 w) ?_
      refine aw_iload_n (i := 1) rfl d_X12_wake_82 1 rfl ?_
      obtain ⟨b9, k⟩ := k
      refine aw_iald (ws_208 w) b9 d_X12_wake_83 ?_
      refine aw_vi (v2 := (h_i h 208 x1.toNatClampNeg)) (rfl) ?_
      refine aw_iconst (v := 3) d_X12_wake_84 ic_3 ?_
      refine aw_icmp_ne (tgt := 147) d_X12_wake_85 rfl (fun c10 => ?_) (fun c10 => ?_)
      · have k := k.1 c10
        refine aw_aload_n (i := 0) rfl d_X12_wake_147 0 rfl ?_
        refine aw_getr (k0 := 12) kc_12 (ws_1 w) (Nat.le_of_ble_eq_true rfl) tw_1754 d_X12_wake_148 rfl (wr_1_12 w) ?_
        refine aw_iload_n (i := 1) rfl d_X12_wake_151 1 rfl ?_
        obtain ⟨b11, k⟩ := k
        refine aw_iald (ws_208 w) b11 d_X12_wake_152 ?_
        refine aw_vi (v2 := (h_i h 208 x1.toNatClampNeg)) (rfl) ?_
        refine aw_iconst (v := 1) d_X12_wake_153 ic_1 ?_
        refine aw_icmp_ne (tgt := 163) d_X12_wake_154 rfl (fun c12 => ?_) (fun c12 => ?_)
        · have k := k.1 c12
          exact aw_vret rfl d_X12_wake_163 ⟨Nat.le_refl _, Nat.le_refl _⟩ ⟨rfl, k⟩
        · have k := k.2 c12
          refine aw_aload_n (i := 0) rfl d_X12_wake_157 0 rfl ?_
          refine aw_iload_n (i := 1) rfl d_X12_wake_158 1 rfl ?_
          refine aw_iload_n (i := 2) rfl d_X12_wake_159 2 rfl ?_
          refine aw_Vv 1 [.int x1, .int s0] [] d_X12_wake_160 (cV_X12_wakeBeat (d + 8) 0 0) kc_12 (ws_1 w) tw_2392 rfl (rr0 (Nat.le_of_ble_eq_true rfl) (Nat.le_of_ble_eq_true rfl)) (Nat.le_of_ble_eq_true rfl) xs0 k (fun h13 kk => ?_)
          obtain ⟨w14, k⟩ := kk
          exact aw_vret rfl d_X12_wake_163 ⟨Nat.le_refl _, Nat.le_refl _⟩ ⟨rfl, k⟩
      · have k := k.2 c10
        refine aw_iload_n (i := 2) rfl d_X12_wake_88 2 rfl ?_
        refine aw_if_ne (tgt := 100) d_X12_wake_89 rfl (fun c16 => ?_) (fun c16 => ?_)
        · have k := k.1 c16
          refine aw_aload_n (i := 0) rfl d_X12_wake_100 0 rfl ?_
          refine aw_getr (k0 := 13) kc_12 (ws_1 w) (Nat.le_of_ble_eq_true rfl) tw_1755 d_X12_wake_101 rfl (wr_1_13 w) ?_
          refine aw_iload_n (i := 1) rfl d_X12_wake_104 1 rfl ?_
          obtain ⟨b17, k⟩ := k
          refine aw_iald (ws_209 w) b17 d_X12_wake_105 ?_
          refine aw_vi (v2 := (h_i h 209 x1.toNatClampNeg)) (rfl) ?_
          refine aw_aload_n (i := 0) rfl d_X12_wake_106 0 rfl ?_
          refine aw_getr (k0 := 22) kc_12 (ws_1 w) (Nat.le_of_ble_eq_true rfl) tw_1764 d_X12_wake_107 rfl (wr_1_22 w) ?_
          refine aw_iload_n (i := 1) rfl d_X12_wake_110 1 rfl ?_
          obtain ⟨b18, k⟩ := k
          refine aw_iald (ws_218 w) b18 d_X12_wake_111 ?_
          refine aw_vi (v2 := (h_i h 218 x1.toNatClampNeg)) (rfl) ?_
          refine aw_icmp_ne (tgt := 132) d_X12_wake_112 rfl (fun c19 => ?_) (fun c19 => ?_)
          · have k := k.1 c19
            refine aw_aload_n (i := 0) rfl d_X12_wake_132 0 rfl ?_
            refine aw_getr (k0 := 65) kc_12 (ws_1 w) (Nat.le_of_ble_eq_true rfl) tw_1807 d_X12_wake_133 rfl (wr_1_65 w) ?_
            refine aw_iload_n (i := 1) rfl d_X12_wake_136 1 rfl ?_
            refine aw_iconst (v := 1) d_X12_wake_137 ic_1 ?_
            obtain ⟨b20, k⟩ := k
            refine aw_zast (ws_248 w) b20 d_X12_wake_138 ?_
            refine aw_aload_n (i := 0) rfl d_X12_wake_139 0 rfl ?_
            refine aw_iload_n (i := 1) rfl d_X12_wake_140 1 rfl ?_
            refine aw_Vv 1 [.int x1] [] d_X12_wake_141 (cV_X12_goDrawn (d + 4) 0 0) kc_12 (ws_1 w) tw_2372 rfl (rr0 (Nat.le_of_ble_eq_true rfl) (Nat.le_of_ble_eq_true rfl)) (Nat.le_of_ble_eq_true rfl) xs0 k (fun h21 kk => ?_)
            obtain ⟨w22, k⟩ := kk
            refine aw_goto (tgt := 163) d_X12_wake_144 rfl ?_
            exact aw_vret rfl d_X12_wake_163 ⟨Nat.le_refl _, Nat.le_refl _⟩ ⟨rfl, k⟩
          · have k := k.2 c19
            refine aw_aload_n (i := 0) rfl d_X12_wake_115 0 rfl ?_
            refine aw_getr (k0 := 65) kc_12 (ws_1 w) (Nat.le_of_ble_eq_true rfl) tw_1807 d_X12_wake_116 rfl (wr_1_65 w) ?_
            refine aw_iload_n (i := 1) rfl d_X12_wake_119 1 rfl ?_
            obtain ⟨b24, k⟩ := k
            refine aw_zald (ws_248 w) b24 d_X12_wake_120 ?_
            refine aw_vi (v2 := (h_i h 248 x1.toNatClampNeg)) (rfl) ?_
            refine aw_if_eq (tgt := 132) d_X12_wake_121 rfl (fun c25 => ?_) (fun c25 => ?_)
            · have k := k.1 c25
              refine aw_aload_n (i := 0) rfl d_X12_wake_132 0 rfl ?_
              refine aw_getr (k0 := 65) kc_12 (ws_1 w) (Nat.le_of_ble_eq_true rfl) tw_1807 d_X12_wake_133 rfl (wr_1_65 w) ?_
              refine aw_iload_n (i := 1) rfl d_X12_wake_136 1 rfl ?_
              refine aw_iconst (v := 1) d_X12_wake_137 ic_1 ?_
              obtain ⟨b26, k⟩ := k
              refine aw_zast (ws_248 w) b26 d_X12_wake_138 ?_
              refine aw_aload_n (i := 0) rfl d_X12_wake_139 0 rfl ?_
              refine aw_iload_n (i := 1) rfl d_X12_wake_140 1 rfl ?_
              refine aw_Vv 1 [.int x1] [] d_X12_wake_141 (cV_X12_goDrawn (d + 4) 0 0) kc_12 (ws_1 w) tw_2372 rfl (rr0 (Nat.le_of_ble_eq_true rfl) (Nat.le_of_ble_eq_true rfl)) (Nat.le_of_ble_eq_true rfl) xs0 k (fun h27 kk => ?_)
              obtain ⟨w28, k⟩ := kk
              refine aw_goto (tgt := 163) d_X12_wake_144 rfl ?_
              exact aw_vret rfl d_X12_wake_163 ⟨Nat.le_refl _, Nat.le_refl _⟩ ⟨rfl, k⟩
            · have k := k.2 c25
              refine aw_aload_n (i := 0) rfl d_X12_wake_124 0 rfl ?_
              refine aw_iload_n (i := 1) rfl d_X12_wake_125 1 rfl ?_
              refine aw_Vv 1 [.int x1] [] d_X12_wake_126 (cV_X12_stay (d + 3) 0 0) kc_12 (ws_1 w) tw_2376 rfl (rr0 (Nat.le_of_ble_eq_true rfl) (Nat.le_of_ble_eq_true rfl)) (Nat.le_of_ble_eq_true rfl) xs0 k (fun h30 kk => ?_)
              obtain ⟨w31, k⟩ := kk
              refine aw_goto (tgt := 163) d_X12_wake_129 rfl ?_
              exact aw_vret rfl d_X12_wake_163 ⟨Nat.le_refl _, Nat.le_refl _⟩ ⟨rfl, k⟩
        · have k := k.2 c16
          refine aw_aload_n (i := 0) rfl d_X12_wake_92 0 rfl ?_
          refine aw_iload_n (i := 1) rfl d_X12_wake_93 1 rfl ?_
          refine aw_Vv 1 [.int x1] [] d_X12_wake_94 (cV_X12_goHome (d + 2) 0 0) kc_12 (ws_1 w) tw_2344 rfl (rr0 (Nat.le_of_ble_eq_true rfl) (Nat.le_of_ble_eq_true rfl)) (Nat.le_of_ble_eq_true rfl) xs0 k (fun h33 kk => ?_)
          obtain ⟨w34, k⟩ := kk
          refine aw_goto (tgt := 163) d_X12_wake_97 rfl ?_
          exact aw_vret rfl d_X12_wake_163 ⟨Nat.le_refl _, Nat.le_refl _⟩ ⟨rfl, k⟩
    · have k := k.2 c8
      refine aw_aload_n (i := 0) rfl d_X12_wake_70 0 rfl ?_
      refine aw_iload_n (i := 1) rfl d_X12_wake_71 1 rfl ?_
      refine aw_Vv 1 [.int x1] [] d_X12_wake_72 (cV_X12_free (d + 0) 0 0) kc_12 (ws_1 w) tw_2348 rfl (rr0 (Nat.le_of_ble_eq_true rfl) (Nat.le_of_ble_eq_true rfl)) (Nat.le_of_ble_eq_true rfl) xs0 k (fun h36 kk => ?_)
      obtain ⟨w37, k⟩ := kk
      refine aw_goto (tgt := 163) d_X12_wake_75 rfl ?_
      exact aw_vret rfl d_X12_wake_163 ⟨Nat.le_refl _, Nat.le_refl _⟩ ⟨rfl, k⟩
  · have k := k.2 c5
    refine aw_aload_n (i := 0) rfl d_X12_wake_34 0 rfl ?_
    refine aw_getr (k0 := 13) kc_12 (ws_1 w) (Nat.le_of_ble_eq_true rfl) tw_1755 d_X12_wake_35 rfl (wr_1_13 w) ?_
    refine aw_iload_n (i := 1) rfl d_X12_wake_38 1 rfl ?_
    refine aw_aload_n (i := 0) rfl d_X12_wake_39 0 rfl ?_
    refine aw_getr (k0 := 14) kc_12 (ws_1 w) (Nat.le_of_ble_eq_true rfl) tw_1756 d_X12_wake_40 rfl (wr_1_14 w) ?_
    refine aw_iload_n (i := 1) rfl d_X12_wake_43 1 rfl ?_
    obtain ⟨b39, k⟩ := k
    refine aw_iald (ws_210 w) b39 d_X12_wake_44 ?_
    obtain ⟨b40, k⟩ := k
    refine aw_iast (ws_209 w) b40 d_X12_wake_45 ?_
    refine aw_aload_n (i := 0) rfl d_X12_wake_46 0 rfl ?_
    refine aw_getr (k0 := 14) kc_12 (ws_1 w) (Nat.le_of_ble_eq_true rfl) tw_1756 d_X12_wake_47 rfl (wr_1_14 w) ?_
    refine aw_iload_n (i := 1) rfl d_X12_wake_50 1 rfl ?_
    refine aw_iconst (v := (-1)) d_X12_wake_51 ic_m1 ?_
    obtain ⟨b41, k⟩ := k
    refine aw_iast (ws_210 w) b41 d_X12_wake_52 ?_
    refine aw_aload_n (i := 0) rfl d_X12_wake_53 0 rfl ?_
    refine aw_getr (k0 := 15) kc_12 (ws_1 w) (Nat.le_of_ble_eq_true rfl) tw_1757 d_X12_wake_54 rfl (wr_1_15 w) ?_
    refine aw_iload_n (i := 1) rfl d_X12_wake_57 1 rfl ?_
    refine aw_iconst (v := (-1)) d_X12_wake_58 ic_m1 ?_
    obtain ⟨b42, k⟩ := k
    refine aw_iast (ws_211 w) b42 d_X12_wake_59 ?_
    refine aw_aload_n (i := 0) rfl d_X12_wake_60 0 rfl ?_
    refine aw_getr (k0 := 12) kc_12 (ws_1 w) (Nat.le_of_ble_eq_true rfl) tw_1754 d_X12_wake_61 rfl (wr_1_12 w) ?_
    refine aw_iload_n (i := 1) rfl d_X12_wake_64 1 rfl ?_
    obtain ⟨b43, k⟩ := k
    refine aw_iald (ws_208 w) b43 d_X12_wake_65 ?_
    refine aw_vi (v2 := (h_i h 208 x1.toNatClampNeg)) (rfl) ?_
    refine aw_iconst (v := 2) d_X12_wake_66 ic_2 ?_
    refine aw_icmp_ne (tgt := 78) d_X12_wake_67 rfl (fun c44 => ?_) (fun c44 => ?_)
    · have k := k.1 c44
      refine aw_aload_n (i := 0) rfl d_X12_wake_78 0 rfl ?_
      refine aw_getr (k0 := 12) kc_12 (ws_1 w) (Nat.le_of_ble_eq_true rfl) tw_1754 d_X12_wake_79 rfl (wr_1_12 w) ?_
      refine aw_iload_n (i := 1) rfl d_X12_wake_82 1 rfl ?_
      obtain ⟨b45, k⟩ := k
      refine aw_iald (ws_208 w) b45 d_X12_wake_83 ?_
      refine aw_vi (v2 := (h_i h 208 x1.toNatClampNeg)) (rfl) ?_
      refine aw_iconst (v := 3) d_X12_wake_84 ic_3 ?_
      refine aw_icmp_ne (tgt := 147) d_X12_wake_85 rfl (fun c46 => ?_) (fun c46 => ?_)
      · have k := k.1 c46
        refine aw_aload_n (i := 0) rfl d_X12_wake_147 0 rfl ?_
        refine aw_getr (k0 := 12) kc_12 (ws_1 w) (Nat.le_of_ble_eq_true rfl) tw_1754 d_X12_wake_148 rfl (wr_1_12 w) ?_
        refine aw_iload_n (i := 1) rfl d_X12_wake_151 1 rfl ?_
        obtain ⟨b47, k⟩ := k
        refine aw_iald (ws_208 w) b47 d_X12_wake_152 ?_
        refine aw_vi (v2 := (h_i h 208 x1.toNatClampNeg)) (rfl) ?_
        refine aw_iconst (v := 1) d_X12_wake_153 ic_1 ?_
        refine aw_icmp_ne (tgt := 163) d_X12_wake_154 rfl (fun c48 => ?_) (fun c48 => ?_)
        · have k := k.1 c48
          exact aw_vret rfl d_X12_wake_163 ⟨Nat.le_refl _, Nat.le_refl _⟩ ⟨rfl, k⟩
        · have k := k.2 c48
          refine aw_aload_n (i := 0) rfl d_X12_wake_157 0 rfl ?_
          refine aw_iload_n (i := 1) rfl d_X12_wake_158 1 rfl ?_
          refine aw_iload_n (i := 2) rfl d_X12_wake_159 2 rfl ?_
          refine aw_Vv 1 [.int x1, .int s0] [] d_X12_wake_160 (cV_X12_wakeBeat (d + 8) 0 0) kc_12 (ws_1 w) tw_2392 rfl (rr0 (Nat.le_of_ble_eq_true rfl) (Nat.le_of_ble_eq_true rfl)) (Nat.le_of_ble_eq_true rfl) xs0 k (fun h49 kk => ?_)
          obtain ⟨w50, k⟩ := kk
          exact aw_vret rfl d_X12_wake_163 ⟨Nat.le_refl _, Nat.le_refl _⟩ ⟨rfl, k⟩
      · have k := k.2 c46
        refine aw_iload_n (i := 2) rfl d_X12_wake_88 2 rfl ?_
        refine aw_if_ne (tgt := 100) d_X12_wake_89 rfl (fun c52 => ?_) (fun c52 => ?_)
        · have k := k.1 c52
          refine aw_aload_n (i := 0) rfl d_X12_wake_100 0 rfl ?_
          refine aw_getr (k0 := 13) kc_12 (ws_1 w) (Nat.le_of_ble_eq_true rfl) tw_1755 d_X12_wake_101 rfl (wr_1_13 w) ?_
          refine aw_iload_n (i := 1) rfl d_X12_wake_104 1 rfl ?_
          obtain ⟨b53, k⟩ := k
          refine aw_iald (ws_209 w) b53 d_X12_wake_105 ?_
          refine aw_vi (v2 := (h_i h 210 x1.toNatClampNeg)) (hi_s h 209 x1.toNatClampNeg (h_i h 210 x1.toNatClampNeg)) ?_
          refine aw_aload_n (i := 0) rfl d_X12_wake_106 0 rfl ?_
          refine aw_getr (k0 := 22) kc_12 (ws_1 w) (Nat.le_of_ble_eq_true rfl) tw_1764 d_X12_wake_107 rfl (wr_1_22 w) ?_
          refine aw_iload_n (i := 1) rfl d_X12_wake_110 1 rfl ?_
          obtain ⟨b54, k⟩ := k
          refine aw_iald (ws_218 w) b54 d_X12_wake_111 ?_
          refine aw_vi (v2 := (h_i h 218 x1.toNatClampNeg)) (rfl) ?_
          refine aw_icmp_ne (tgt := 132) d_X12_wake_112 rfl (fun c55 => ?_) (fun c55 => ?_)
          · have k := k.1 c55
            refine aw_aload_n (i := 0) rfl d_X12_wake_132 0 rfl ?_
            refine aw_getr (k0 := 65) kc_12 (ws_1 w) (Nat.le_of_ble_eq_true rfl) tw_1807 d_X12_wake_133 rfl (wr_1_65 w) ?_
            refine aw_iload_n (i := 1) rfl d_X12_wake_136 1 rfl ?_
            refine aw_iconst (v := 1) d_X12_wake_137 ic_1 ?_
            obtain ⟨b56, k⟩ := k
            refine aw_zast (ws_248 w) b56 d_X12_wake_138 ?_
            refine aw_aload_n (i := 0) rfl d_X12_wake_139 0 rfl ?_
            refine aw_iload_n (i := 1) rfl d_X12_wake_140 1 rfl ?_
            refine aw_Vv 1 [.int x1] [] d_X12_wake_141 (cV_X12_goDrawn (d + 4) 0 0) kc_12 (ws_1 w) tw_2372 rfl (rr0 (Nat.le_of_ble_eq_true rfl) (Nat.le_of_ble_eq_true rfl)) (Nat.le_of_ble_eq_true rfl) xs0 k (fun h57 kk => ?_)
            obtain ⟨w58, k⟩ := kk
            refine aw_goto (tgt := 163) d_X12_wake_144 rfl ?_
            exact aw_vret rfl d_X12_wake_163 ⟨Nat.le_refl _, Nat.le_refl _⟩ ⟨rfl, k⟩
          · have k := k.2 c55
            refine aw_aload_n (i := 0) rfl d_X12_wake_115 0 rfl ?_
            refine aw_getr (k0 := 65) kc_12 (ws_1 w) (Nat.le_of_ble_eq_true rfl) tw_1807 d_X12_wake_116 rfl (wr_1_65 w) ?_
            refine aw_iload_n (i := 1) rfl d_X12_wake_119 1 rfl ?_
            obtain ⟨b60, k⟩ := k
            refine aw_zald (ws_248 w) b60 d_X12_wake_120 ?_
            refine aw_vi (v2 := (h_i h 248 x1.toNatClampNeg)) (rfl) ?_
            refine aw_if_eq (tgt := 132) d_X12_wake_121 rfl (fun c61 => ?_) (fun c61 => ?_)
            · have k := k.1 c61
              refine aw_aload_n (i := 0) rfl d_X12_wake_132 0 rfl ?_
              refine aw_getr (k0 := 65) kc_12 (ws_1 w) (Nat.le_of_ble_eq_true rfl) tw_1807 d_X12_wake_133 rfl (wr_1_65 w) ?_
              refine aw_iload_n (i := 1) rfl d_X12_wake_136 1 rfl ?_
              refine aw_iconst (v := 1) d_X12_wake_137 ic_1 ?_
              obtain ⟨b62, k⟩ := k
              refine aw_zast (ws_248 w) b62 d_X12_wake_138 ?_
              refine aw_aload_n (i := 0) rfl d_X12_wake_139 0 rfl ?_
              refine aw_iload_n (i := 1) rfl d_X12_wake_140 1 rfl ?_
              refine aw_Vv 1 [.int x1] [] d_X12_wake_141 (cV_X12_goDrawn (d + 4) 0 0) kc_12 (ws_1 w) tw_2372 rfl (rr0 (Nat.le_of_ble_eq_true rfl) (Nat.le_of_ble_eq_true rfl)) (Nat.le_of_ble_eq_true rfl) xs0 k (fun h63 kk => ?_)
              obtain ⟨w64, k⟩ := kk
              refine aw_goto (tgt := 163) d_X12_wake_144 rfl ?_
              exact aw_vret rfl d_X12_wake_163 ⟨Nat.le_refl _, Nat.le_refl _⟩ ⟨rfl, k⟩
            · have k := k.2 c61
              refine aw_aload_n (i := 0) rfl d_X12_wake_124 0 rfl ?_
              refine aw_iload_n (i := 1) rfl d_X12_wake_125 1 rfl ?_
              refine aw_Vv 1 [.int x1] [] d_X12_wake_126 (cV_X12_stay (d + 3) 0 0) kc_12 (ws_1 w) tw_2376 rfl (rr0 (Nat.le_of_ble_eq_true rfl) (Nat.le_of_ble_eq_true rfl)) (Nat.le_of_ble_eq_true rfl) xs0 k (fun h66 kk => ?_)
              obtain ⟨w67, k⟩ := kk
              refine aw_goto (tgt := 163) d_X12_wake_129 rfl ?_
              exact aw_vret rfl d_X12_wake_163 ⟨Nat.le_refl _, Nat.le_refl _⟩ ⟨rfl, k⟩
        · have k := k.2 c52
          refine aw_aload_n (i := 0) rfl d_X12_wake_92 0 rfl ?_
          refine aw_iload_n (i := 1) rfl d_X12_wake_93 1 rfl ?_
          refine aw_Vv 1 [.int x1] [] d_X12_wake_94 (cV_X12_goHome (d + 2) 0 0) kc_12 (ws_1 w) tw_2344 rfl (rr0 (Nat.le_of_ble_eq_true rfl) (Nat.le_of_ble_eq_true rfl)) (Nat.le_of_ble_eq_true rfl) xs0 k (fun h69 kk => ?_)
          obtain ⟨w70, k⟩ := kk
          refine aw_goto (tgt := 163) d_X12_wake_97 rfl ?_
          exact aw_vret rfl d_X12_wake_163 ⟨Nat.le_refl _, Nat.le_refl _⟩ ⟨rfl, k⟩
    · have k := k.2 c44
      refine aw_aload_n (i := 0) rfl d_X12_wake_70 0 rfl ?_
      refine aw_iload_n (i := 1) rfl d_X12_wake_71 1 rfl ?_
      refine aw_Vv 1 [.int x1] [] d_X12_wake_72 (cV_X12_free (d + 0) 0 0) kc_12 (ws_1 w) tw_2348 rfl (rr0 (Nat.le_of_ble_eq_true rfl) (Nat.le_of_ble_eq_true rfl)) (Nat.le_of_ble_eq_true rfl) xs0 k (fun h72 kk => ?_)
      obtain ⟨w73, k⟩ := kk
      refine aw_goto (tgt := 163) d_X12_wake_75 rfl ?_
      exact aw_vret rfl d_X12_wake_163 ⟨Nat.le_refl _, Nat.le_refl _⟩ ⟨rfl, k⟩
theorem t_X12_tick (d : Nat) (h : Hp_) (w : Wf h) (x1 : Int32) (K : Int32 → Hp_ → Prop) (k : (¬ (0 ≤ x1 ∧ x1 ≤ 1500) → K (-1) h) ∧ ((0 ≤ x1 ∧ x1 ≤ 1500) → (((h_i h 1 0) + x1) ≤ 20000 → AW (m_X12_tick (d + 10) 0 0) 0 0 27 [(0, .ref 1), (1, .int x1), (2, .int 0)] [] h (kI K)) ∧ (¬ ((h_i h 1 0) + x1) ≤ 20000 → K (-1) h))) : Ci (m_X12_tick (d + 10) 0 0) [.ref 1, .int x1] h K := by
  refine Ct.of (fun _ _ _ => trivial) rfl (Nat.le_of_ble_eq_true rfl) ?_
  show AW (m_X12_tick (d + 10) 0 0) 0 0 0 [(0, .ref 1), (1, .int x1)] [] h (kI K)
  refine aw_iload_n (i := 1) rfl d_X12_tick_0 1 rfl ?_
  refine aw_iconst (v := 0) d_X12_tick_1 ic_0 ?_
  refine aw_sipush (v := 1500) d_X12_tick_2 is_1500 ?_
  refine aw_Si [.int x1, .int 0, .int 1500] [] d_X12_tick_5 (cS_X12_in (d + 0) 0 0) tw_2147 rfl (rr0 (Nat.le_of_ble_eq_true rfl) (Nat.le_of_ble_eq_true rfl)) (Nat.le_of_ble_eq_true rfl) xs0 (s_X12_in _ _ x1 0 1500) (fun _ _ kk => ?_)
  obtain ⟨e1, e2⟩ := kk
  rw [e1, e2]
  refine aw_ifb_eq (tgt := 23) d_X12_tick_8 rfl (fun c3 => ?_) (fun c3 => ?_)
  · have k := k.1 c3
    refine aw_iconst (v := (-1)) d_X12_tick_23 ic_m1 ?_
    exact aw_iret rfl d_X12_tick_24 ⟨Nat.le_refl _, Nat.le_refl _⟩ ⟨_, rfl, k⟩
  · have k := k.2 c3
    refine aw_aload_n (i := 0) rfl d_X12_tick_11 0 rfl ?_
    refine aw_geti (k0 := 0) kc_12 (ws_1 w) (Nat.le_of_ble_eq_true rfl) tw_1742 d_X12_tick_12 rfl ?_
    refine aw_iload_n (i := 1) rfl d_X12_tick_15 1 rfl ?_
    refine aw_iadd d_X12_tick_16 ?_
    refine aw_sipush (v := 20000) d_X12_tick_17 is_20000 ?_
    refine aw_icmp_le (tgt := 25) d_X12_tick_20 rfl (fun c4 => ?_) (fun c4 => ?_)
    · have k := k.1 c4
      refine aw_iconst (v := 0) d_X12_tick_25 ic_0 ?_
      refine aw_istore_n (i := 2) rfl [(0, .ref 1), (1, .int x1), (2, .int 0)] d_X12_tick_26 (Nat.le_of_ble_eq_true rfl) rfl rfl ?_
      exact k
    · have k := k.2 c4
      refine aw_iconst (v := (-1)) d_X12_tick_23 ic_m1 ?_
      exact aw_iret rfl d_X12_tick_24 ⟨Nat.le_refl _, Nat.le_refl _⟩ ⟨_, rfl, k⟩
theorem t_X12_tick_27 (d : Nat) (h : Hp_) (w : Wf h) (x1 : Int32) (x2 : Int32) (K : Int32 → Hp_ → Prop) (k : (x1 ≤ x2 → K (h_i h 1 0) h) ∧ (¬ x1 ≤ x2 → AW (m_X12_tick (d + 10) 0 0) 0 0 34 [(0, .ref 1), (1, .int x1), (2, .int x2), (3, .int 0)] [] h (kI K))) : AW (m_X12_tick (d + 10) 0 0) 0 0 27 [(0, .ref 1), (1, .int x1), (2, .int x2)] [] h (kI K) := by
  refine aw_iload_n (i := 2) rfl d_X12_tick_27 2 rfl ?_
  refine aw_iload_n (i := 1) rfl d_X12_tick_28 1 rfl ?_
  refine aw_icmp_ge (tgt := 107) d_X12_tick_29 rfl (fun c5 => ?_) (fun c5 => ?_)
  · have k := k.1 c5
    refine aw_aload_n (i := 0) rfl d_X12_tick_107 0 rfl ?_
    refine aw_geti (k0 := 0) kc_12 (ws_1 w) (Nat.le_of_ble_eq_true rfl) tw_1742 d_X12_tick_108 rfl ?_
    exact aw_iret rfl d_X12_tick_111 ⟨Nat.le_refl _, Nat.le_refl _⟩ ⟨_, rfl, k⟩
  · have k := k.2 c5
    refine aw_iconst (v := 0) d_X12_tick_32 ic_0 ?_
    refine aw_istore_n (i := 3) rfl [(0, .ref 1), (1, .int x1), (2, .int x2), (3, .int 0)] d_X12_tick_33 (Nat.le_of_ble_eq_true rfl) rfl rfl ?_
    exact k
theorem t_X12_tick_34 (d : Nat) (h : Hp_) (w : Wf h) (x1 : Int32) (x2 : Int32) (x3 : Int32) (K : Int32 → Hp_ → Prop) (k : ((h_i h 1 7) ≤ x3 → AW (m_X12_tick (d + 10) 0 0) 0 0 82 [(0, .ref 1), (1, .int x1), (2, .int x2), (3, .int 0)] [] (h_im h 1 0 ((h_i h 1 0) + 1)) (kI K)) ∧ (¬ (h_i h 1 7) ≤ x3 → vp_in x3 12 ∧ (vp_in ((20001 * x3) + (h_i h 1 0)) 240012 ∧ (AW (m_X12_tick (d + 10) 0 0) 0 0 34 [(0, .ref 1), (1, .int x1), (2, .int x2), (3, .int (x3 + 1))] [] (h_im h 220 (((20001 * x3) + (h_i h 1 0)) : Int32).toNatClampNeg (vp_nar .byte (((h_i h 209 x3.toNatClampNeg) : Int32).toInt8.toInt32))) (kI K))))) : AW (m_X12_tick (d + 10) 0 0) 0 0 34 [(0, .ref 1), (1, .int x1), (2, .int x2), (3, .int x3)] [] h (kI K) := by
  refine aw_iload_n (i := 3) rfl d_X12_tick_34 3 rfl ?_
  refine aw_aload_n (i := 0) rfl d_X12_tick_35 0 rfl ?_
  refine aw_geti (k0 := 7) kc_12 (ws_1 w) (Nat.le_of_ble_eq_true rfl) tw_1749 d_X12_tick_36 rfl ?_
  refine aw_icmp_ge (tgt := 70) d_X12_tick_39 rfl (fun c6 => ?_) (fun c6 => ?_)
  · have k := k.1 c6
    refine aw_aload_n (i := 0) rfl d_X12_tick_70 0 rfl ?_
    refine aw_dup d_X12_tick_71 rfl ?_
    refine aw_geti (k0 := 0) kc_12 (ws_1 w) (Nat.le_of_ble_eq_true rfl) tw_1742 d_X12_tick_72 rfl ?_
    refine aw_iconst (v := 1) d_X12_tick_75 ic_1 ?_
    refine aw_iadd d_X12_tick_76 ?_
    refine aw_puti (k0 := 0) kc_12 (ws_1 w) (Nat.le_of_ble_eq_true rfl) tw_1742 d_X12_tick_77 rfl rfl nf_i ?_
    refine aw_iconst (v := 0) d_X12_tick_80 ic_0 ?_
    refine aw_istore_n (i := 3) rfl [(0, .ref 1), (1, .int x1), (2, .int x2), (3, .int 0)] d_X12_tick_81 (Nat.le_of_ble_eq_true rfl) rfl rfl ?_
    exact k
  · have k := k.2 c6
    refine aw_aload_n (i := 0) rfl d_X12_tick_42 0 rfl ?_
    refine aw_getr (k0 := 24) kc_12 (ws_1 w) (Nat.le_of_ble_eq_true rfl) tw_1766 d_X12_tick_43 rfl (wr_1_24 w) ?_
    refine aw_sipush (v := 20001) d_X12_tick_46 is_20001 ?_
    refine aw_iload_n (i := 3) rfl d_X12_tick_49 3 rfl ?_
    refine aw_imul d_X12_tick_50 ?_
    refine aw_aload_n (i := 0) rfl d_X12_tick_51 0 rfl ?_
    refine aw_geti (k0 := 0) kc_12 (ws_1 w) (Nat.le_of_ble_eq_true rfl) tw_1742 d_X12_tick_52 rfl ?_
    refine aw_iadd d_X12_tick_55 ?_
    refine aw_aload_n (i := 0) rfl d_X12_tick_56 0 rfl ?_
    refine aw_getr (k0 := 13) kc_12 (ws_1 w) (Nat.le_of_ble_eq_true rfl) tw_1755 d_X12_tick_57 rfl (wr_1_13 w) ?_
    refine aw_iload_n (i := 3) rfl d_X12_tick_60 3 rfl ?_
    obtain ⟨b7, k⟩ := k
    refine aw_iald (ws_209 w) b7 d_X12_tick_61 ?_
    refine aw_i2b d_X12_tick_62 ?_
    obtain ⟨b8, k⟩ := k
    refine aw_bast (ws_220 w) b8 d_X12_tick_63 ?_
    refine aw_iinc (v := (x3 + 1)) [(0, .ref 1), (1, .int x1), (2, .int x2), (3, .int (x3 + 1))] d_X12_tick_64 3 rfl rfl (Nat.le_of_ble_eq_true rfl) rfl rfl ?_
    refine aw_goto (tgt := 34) d_X12_tick_67 rfl ?_
    exact k
theorem t_X12_tick_82 (d : Nat) (h : Hp_) (w : Wf h) (x1 : Int32) (x2 : Int32) (x3 : Int32) (K : Int32 → Hp_ → Prop) (k : ((h_i h 1 7) ≤ x3 → AW (m_X12_tick (d + 10) 0 0) 0 0 27 [(0, .ref 1), (1, .int x1), (2, .int (x2 + 1))] [] h (kI K)) ∧ (¬ (h_i h 1 7) ≤ x3 → Cv (m_X12_wake (d + 9) 0 0) [.ref 1, .int x3] h (fun h10 => Wf h10 ∧ (AW (m_X12_tick (d + 10) 0 0) 0 0 82 [(0, .ref 1), (1, .int x1), (2, .int x2), (3, .int (x3 + 1))] [] h10 (kI K))))) : AW (m_X12_tick (d + 10) 0 0) 0 0 82 [(0, .ref 1), (1, .int x1), (2, .int x2), (3, .int x3)] [] h (kI K) := by
  refine aw_iload_n (i := 3) rfl d_X12_tick_82 3 rfl ?_
  refine aw_aload_n (i := 0) rfl d_X12_tick_83 0 rfl ?_
  refine aw_geti (k0 := 7) kc_12 (ws_1 w) (Nat.le_of_ble_eq_true rfl) tw_1749 d_X12_tick_84 rfl ?_
  refine aw_icmp_ge (tgt := 101) d_X12_tick_87 rfl (fun c9 => ?_) (fun c9 => ?_)
  · have k := k.1 c9
    refine aw_iinc (v := (x2 + 1)) [(0, .ref 1), (1, .int x1), (2, .int (x2 + 1)), (3, .int x3)] d_X12_tick_101 2 rfl rfl (Nat.le_of_ble_eq_true rfl) rfl rfl ?_
    refine aw_goto (tgt := 27) d_X12_tick_104 rfl ?_
    exact aw_lvp [0, 1, 2] [(0, .ref 1), (1, .int x1), (2, .int (x2 + 1))] rfl k
  · have k := k.2 c9
    refine aw_aload_n (i := 0) rfl d_X12_tick_90 0 rfl ?_
    refine aw_iload_n (i := 3) rfl d_X12_tick_91 3 rfl ?_
    refine aw_Vv 1 [.int x3] [] d_X12_tick_92 (cV_X12_wake (d + 9) 0 0) kc_12 (ws_1 w) tw_2388 rfl (rr0 (Nat.le_of_ble_eq_true rfl) (Nat.le_of_ble_eq_true rfl)) (Nat.le_of_ble_eq_true rfl) xs0 k (fun h10 kk => ?_)
    obtain ⟨w11, k⟩ := kk
    refine aw_iinc (v := (x3 + 1)) [(0, .ref 1), (1, .int x1), (2, .int x2), (3, .int (x3 + 1))] d_X12_tick_95 3 rfl rfl (Nat.le_of_ble_eq_true rfl) rfl rfl ?_
    refine aw_goto (tgt := 82) d_X12_tick_98 rfl ?_
    exact k
