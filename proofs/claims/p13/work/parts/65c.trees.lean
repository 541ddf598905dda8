theorem t_X12_rankOn (d : Nat) (h : Hp_) (w : Wf h) (x1 : Int32) (x2 : Int32) (x3 : Int32) (K : Int32 → Hp_ → Prop) (k : vp_in x1 12 ∧ (AW (m_X12_rankOn (d + 0) 0 0) 0 0 14 [(0, .ref 1), (1, .int x1), (2, .int x2), (3, .int x3), (4, .int (h_i h 204 x1.toNatClampNeg)), (5, .int (-1)), (6, .int 0)] [] h (kI K))) : Ci (m_X12_rankOn (d + 0) 0 0) [.ref 1, .int x1, .int x2, .int x3] h K := by
  refine Ct.of (fun _ _ _ => trivial) rfl (Nat.le_of_ble_eq_true rfl) ?_
  show AW (m_X12_rankOn (d + 0) 0 0) 0 0 0 [(0, .ref 1), (1, .int x1), (2, .int x2), (3, .int x3)] [] h (kI K)
  refine aw_aload_n (i := 0) rfl d_X12_rankOn_0 0 rfl ?_
  refine aw_getr (k0 := 8) kc_12 (ws_1 w) (Nat.le_of_ble_eq_true rfl) tw_1750 d_X12_rankOn_1 rfl (wr_1_8 w) ?_
  refine aw_iload_n (i := 1) rfl d_X12_rankOn_4 1 rfl ?_
  obtain ⟨b1, k⟩ := k
  refine aw_iald (ws_204 w) b1 d_X12_rankOn_5 ?_
  refine aw_istore [(0, .ref 1), (1, .int x1), (2, .int x2), (3, .int x3), (4, .int (h_i h 204 x1.toNatClampNeg))] d_X12_rankOn_6 (Nat.le_of_ble_eq_true rfl) rfl rfl ?_
  refine aw_iconst (v := (-1)) d_X12_rankOn_8 ic_m1 ?_
  refine aw_istore [(0, .ref 1), (1, .int x1), (2, .int x2), (3, .int x3), (4, .int (h_i h 204 x1.toNatClampNeg)), (5, .int (-1))] d_X12_rankOn_9 (Nat.le_of_ble_eq_true rfl) rfl rfl ?_
  refine aw_iconst (v := 0) d_X12_rankOn_11 ic_0 ?_
  refine aw_istore [(0, .ref 1), (1, .int x1), (2, .int x2), (3, .int x3), (4, .int (h_i h 204 x1.toNatClampNeg)), (5, .int (-1)), (6, .int 0)] d_X12_rankOn_12 (Nat.le_of_ble_eq_true rfl) rfl rfl ?_
  exact k
theorem t_X12_rankOn_14 (d : Nat) (h : Hp_) (w : Wf h) (x1 : Int32) (x2 : Int32) (x3 : Int32) (x4 : Int32) (x5 : Int32) (x6 : Int32) (K : Int32 → Hp_ → Prop) (k : ((h_i h 1 29) ≤ x6 → K x4 h) ∧ (¬ (h_i h 1 29) ≤ x6 → vp_in x6 40 ∧ ((¬ (h_i h 221 x6.toNatClampNeg) = x1 → AW (m_X12_rankOn (d + 0) 0 0) 0 0 14 [(0, .ref 1), (1, .int x1), (2, .int x2), (3, .int x3), (4, .int x4), (5, .int x5), (6, .int (x6 + 1))] [] h (kI K)) ∧ ((h_i h 221 x6.toNatClampNeg) = x1 → vp_in x6 40 ∧ ((x3 < (h_i h 224 x6.toNatClampNeg) → AW (m_X12_rankOn (d + 0) 0 0) 0 0 14 [(0, .ref 1), (1, .int x1), (2, .int x2), (3, .int x3), (4, .int x4), (5, .int x5), (6, .int (x6 + 1))] [] h (kI K)) ∧ (¬ x3 < (h_i h 224 x6.toNatClampNeg) → vp_in x6 40 ∧ ((x2 < (h_i h 223 x6.toNatClampNeg) → AW (m_X12_rankOn (d + 0) 0 0) 0 0 14 [(0, .ref 1), (1, .int x1), (2, .int x2), (3, .int x3), (4, .int x4), (5, .int x5), (6, .int (x6 + 1))] [] h (kI K)) ∧ (¬ x2 < (h_i h 223 x6.toNatClampNeg) → vp_in x6 40 ∧ (((h_i h 223 x6.toNatClampNeg) < x5 → AW (m_X12_rankOn (d + 0) 0 0) 0 0 14 [(0, .ref 1), (1, .int x1), (2, .int x2), (3, .int x3), (4, .int x4), (5, .int x5), (6, .int (x6 + 1))] [] h (kI K)) ∧ (¬ (h_i h 223 x6.toNatClampNeg) < x5 → vp_in x6 40 ∧ (vp_in x6 40 ∧ (AW (m_X12_rankOn (d + 0) 0 0) 0 0 14 [(0, .ref 1), (1, .int x1), (2, .int x2), (3, .int x3), (4, .int (h_i h 222 x6.toNatClampNeg)), (5, .int (h_i h 223 x6.toNatClampNeg)), (6, .int (x6 + 1))] [] h (kI K))))))))))))) : AW (m_X12_rankOn (d + 0) 0 0) 0 0 14 [(0, .ref 1), (1, .int x1), (2, .int x2), (3, .int x3), (4, .int x4), (5, .int x5), (6, .int x6)] [] h (kI K) := by
  refine aw_iload d_X12_rankOn_14 6 rfl ?_
  refine aw_aload_n (i := 0) rfl d_X12_rankOn_16 0 rfl ?_
  refine aw_geti (k0 := 29) kc_12 (ws_1 w) (Nat.le_of_ble_eq_true rfl) tw_1771 d_X12_rankOn_17 rfl ?_
  refine aw_icmp_ge (tgt := 92) d_X12_rankOn_20 rfl (fun c2 => ?_) (fun c2 => ?_)
  · have k := k.1 c2
    refine aw_iload d_X12_rankOn_92 4 rfl ?_
    exact aw_iret rfl d_X12_rankOn_94 ⟨Nat.le_refl _, Nat.le_refl _⟩ ⟨_, rfl, k⟩
  · have k := k.2 c2
    refine aw_aload_n (i := 0) rfl d_X12_rankOn_23 0 rfl ?_
    refine aw_getr (k0 := 25) kc_12 (ws_1 w) (Nat.le_of_ble_eq_true rfl) tw_1767 d_X12_rankOn_24 rfl (wr_1_25 w) ?_
    refine aw_iload d_X12_rankOn_27 6 rfl ?_
    obtain ⟨b3, k⟩ := k
    refine aw_iald (ws_221 w) b3 d_X12_rankOn_29 ?_
    refine aw_iload_n (i := 1) rfl d_X12_rankOn_30 1 rfl ?_
    refine aw_icmp_ne (tgt := 86) d_X12_rankOn_31 rfl (fun c4 => ?_) (fun c4 => ?_)
    · have k := k.1 c4
      refine aw_iinc (v := (x6 + 1)) [(0, .ref 1), (1, .int x1), (2, .int x2), (3, .int x3), (4, .int x4), (5, .int x5), (6, .int (x6 + 1))] d_X12_rankOn_86 6 rfl rfl (Nat.le_of_ble_eq_true rfl) rfl rfl ?_
      refine aw_goto (tgt := 14) d_X12_rankOn_89 rfl ?_
      exact k
    · have k := k.2 c4
      refine aw_aload_n (i := 0) rfl d_X12_rankOn_34 0 rfl ?_
      refine aw_getr (k0 := 28) kc_12 (ws_1 w) (Nat.le_of_ble_eq_true rfl) tw_1770 d_X12_rankOn_35 rfl (wr_1_28 w) ?_
      refine aw_iload d_X12_rankOn_38 6 rfl ?_
      obtain ⟨b5, k⟩ := k
      refine aw_iald (ws_224 w) b5 d_X12_rankOn_40 ?_
      refine aw_iload_n (i := 3) rfl d_X12_rankOn_41 3 rfl ?_
      refine aw_icmp_gt (tgt := 86) d_X12_rankOn_42 rfl (fun c6 => ?_) (fun c6 => ?_)
      · have k := k.1 c6
        refine aw_iinc (v := (x6 + 1)) [(0, .ref 1), (1, .int x1), (2, .int x2), (3, .int x3), (4, .int x4), (5, .int x5), (6, .int (x6 + 1))] d_X12_rankOn_86 6 rfl rfl (Nat.le_of_ble_eq_true rfl) rfl rfl ?_
        refine aw_goto (tgt := 14) d_X12_rankOn_89 rfl ?_
        exact k
      · have k := k.2 c6
        refine aw_aload_n (i := 0) rfl d_X12_rankOn_45 0 rfl ?_
        refine aw_getr (k0 := 27) kc_12 (ws_1 w) (Nat.le_of_ble_eq_true rfl) tw_1769 d_X12_rankOn_46 rfl (wr_1_27 w) ?_
        refine aw_iload d_X12_rankOn_49 6 rfl ?_
        obtain ⟨b7, k⟩ := k
        refine aw_iald (ws_223 w) b7 d_X12_rankOn_51 ?_
        refine aw_iload_n (i := 2) rfl d_X12_rankOn_52 2 rfl ?_
        refine aw_icmp_gt (tgt := 86) d_X12_rankOn_53 rfl (fun c8 => ?_) (fun c8 => ?_)
        · have k := k.1 c8
          refine aw_iinc (v := (x6 + 1)) [(0, .ref 1), (1, .int x1), (2, .int x2), (3, .int x3), (4, .int x4), (5, .int x5), (6, .int (x6 + 1))] d_X12_rankOn_86 6 rfl rfl (Nat.le_of_ble_eq_true rfl) rfl rfl ?_
          refine aw_goto (tgt := 14) d_X12_rankOn_89 rfl ?_
          exact k
        · have k := k.2 c8
          refine aw_aload_n (i := 0) rfl d_X12_rankOn_56 0 rfl ?_
          refine aw_getr (k0 := 27) kc_12 (ws_1 w) (Nat.le_of_ble_eq_true rfl) tw_1769 d_X12_rankOn_57 rfl (wr_1_27 w) ?_
          refine aw_iload d_X12_rankOn_60 6 rfl ?_
          obtain ⟨b9, k⟩ := k
          refine aw_iald (ws_223 w) b9 d_X12_rankOn_62 ?_
          refine aw_iload d_X12_rankOn_63 5 rfl ?_
          refine aw_icmp_lt (tgt := 86) d_X12_rankOn_65 rfl (fun c10 => ?_) (fun c10 => ?_)
          · have k := k.1 c10
            refine aw_iinc (v := (x6 + 1)) [(0, .ref 1), (1, .int x1), (2, .int x2), (3, .int x3), (4, .int x4), (5, .int x5), (6, .int (x6 + 1))] d_X12_rankOn_86 6 rfl rfl (Nat.le_of_ble_eq_true rfl) rfl rfl ?_
            refine aw_goto (tgt := 14) d_X12_rankOn_89 rfl ?_
            exact k
          · have k := k.2 c10
            refine aw_aload_n (i := 0) rfl d_X12_rankOn_68 0 rfl ?_
            refine aw_getr (k0 := 26) kc_12 (ws_1 w) (Nat.le_of_ble_eq_true rfl) tw_1768 d_X12_rankOn_69 rfl (wr_1_26 w) ?_
            refine aw_iload d_X12_rankOn_72 6 rfl ?_
            obtain ⟨b11, k⟩ := k
            refine aw_iald (ws_222 w) b11 d_X12_rankOn_74 ?_
            refine aw_istore [(0, .ref 1), (1, .int x1), (2, .int x2), (3, .int x3), (4, .int (h_i h 222 x6.toNatClampNeg)), (5, .int x5), (6, .int x6)] d_X12_rankOn_75 (Nat.le_of_ble_eq_true rfl) rfl rfl ?_
            refine aw_aload_n (i := 0) rfl d_X12_rankOn_77 0 rfl ?_
            refine aw_getr (k0 := 27) kc_12 (ws_1 w) (Nat.le_of_ble_eq_true rfl) tw_1769 d_X12_rankOn_78 rfl (wr_1_27 w) ?_
            refine aw_iload d_X12_rankOn_81 6 rfl ?_
            obtain ⟨b12, k⟩ := k
            refine aw_iald (ws_223 w) b12 d_X12_rankOn_83 ?_
            refine aw_istore [(0, .ref 1), (1, .int x1), (2, .int x2), (3, .int x3), (4, .int (h_i h 222 x6.toNatClampNeg)), (5, .int (h_i h 223 x6.toNatClampNeg)), (6, .int x6)] d_X12_rankOn_84 (Nat.le_of_ble_eq_true rfl) rfl rfl ?_
            refine aw_iinc (v := (x6 + 1)) [(0, .ref 1), (1, .int x1), (2, .int x2), (3, .int x3), (4, .int (h_i h 222 x6.toNatClampNeg)), (5, .int (h_i h 223 x6.toNatClampNeg)), (6, .int (x6 + 1))] d_X12_rankOn_86 6 rfl rfl (Nat.le_of_ble_eq_true rfl) rfl rfl ?_
            refine aw_goto (tgt := 14) d_X12_rankOn_89 rfl ?_
            exact k
theorem t_X12_stateOf (d : Nat) (h : Hp_) (w : Wf h) (x1 : Int32) (x2 : Int32) (K : Int32 → Hp_ → Prop) (k : vp_in x1 400 ∧ (((h_i h 241 x1.toNatClampNeg) = (-1) → vp_in x1 400 ∧ (((h_i h 242 x1.toNatClampNeg) = (-1) → K 0 h) ∧ (¬ (h_i h 242 x1.toNatClampNeg) = (-1) → vp_in x1 400 ∧ ((x2 < (h_i h 242 x1.toNatClampNeg) → K 0 h) ∧ (¬ x2 < (h_i h 242 x1.toNatClampNeg) → K 2 h))))) ∧ (¬ (h_i h 241 x1.toNatClampNeg) = (-1) → vp_in x1 400 ∧ ((x2 < (h_i h 241 x1.toNatClampNeg) → vp_in x1 400 ∧ (((h_i h 242 x1.toNatClampNeg) = (-1) → K 0 h) ∧ (¬ (h_i h 242 x1.toNatClampNeg) = (-1) → vp_in x1 400 ∧ ((x2 < (h_i h 242 x1.toNatClampNeg) → K 0 h) ∧ (¬ x2 < (h_i h 242 x1.toNatClampNeg) → K 2 h))))) ∧ (¬ x2 < (h_i h 241 x1.toNatClampNeg) → K 1 h))))) : Ci (m_X12_stateOf (d + 0) 0 0) [.ref 1, .int x1, .int x2] h K := by
  refine Ct.of (fun _ _ _ => trivial) rfl (Nat.le_of_ble_eq_true rfl) ?_
  show AW (m_X12_stateOf (d + 0) 0 0) 0 0 0 [(0, .ref 1), (1, .int x1), (2, .int x2)] [] h (kI K)
  refine aw_aload_n (i := 0) rfl d_X12_stateOf_0 0 rfl ?_
  refine aw_getr (k0 := 56) kc_12 (ws_1 w) (Nat.le_of_ble_eq_true rfl) tw_1798 d_X12_stateOf_1 rfl (wr_1_56 w) ?_
  refine aw_iload_n (i := 1) rfl d_X12_stateOf_4 1 rfl ?_
  obtain ⟨b1, k⟩ := k
  refine aw_iald (ws_241 w) b1 d_X12_stateOf_5 ?_
  refine aw_iconst (v := (-1)) d_X12_stateOf_6 ic_m1 ?_
  refine aw_icmp_eq (tgt := 22) d_X12_stateOf_7 rfl (fun c2 => ?_) (fun c2 => ?_)
  · have k := k.1 c2
    refine aw_aload_n (i := 0) rfl d_X12_stateOf_22 0 rfl ?_
    refine aw_getr (k0 := 57) kc_12 (ws_1 w) (Nat.le_of_ble_eq_true rfl) tw_1799 d_X12_stateOf_23 rfl (wr_1_57 w) ?_
    refine aw_iload_n (i := 1) rfl d_X12_stateOf_26 1 rfl ?_
    obtain ⟨b3, k⟩ := k
    refine aw_iald (ws_242 w) b3 d_X12_stateOf_27 ?_
    refine aw_iconst (v := (-1)) d_X12_stateOf_28 ic_m1 ?_
    refine aw_icmp_eq (tgt := 46) d_X12_stateOf_29 rfl (fun c4 => ?_) (fun c4 => ?_)
    · have k := k.1 c4
      refine aw_iconst (v := 0) d_X12_stateOf_46 ic_0 ?_
      exact aw_iret rfl d_X12_stateOf_47 ⟨Nat.le_refl _, Nat.le_refl _⟩ ⟨_, rfl, k⟩
    · have k := k.2 c4
      refine aw_aload_n (i := 0) rfl d_X12_stateOf_32 0 rfl ?_
      refine aw_getr (k0 := 57) kc_12 (ws_1 w) (Nat.le_of_ble_eq_true rfl) tw_1799 d_X12_stateOf_33 rfl (wr_1_57 w) ?_
      refine aw_iload_n (i := 1) rfl d_X12_stateOf_36 1 rfl ?_
      obtain ⟨b5, k⟩ := k
      refine aw_iald (ws_242 w) b5 d_X12_stateOf_37 ?_
      refine aw_iload_n (i := 2) rfl d_X12_stateOf_38 2 rfl ?_
      refine aw_icmp_gt (tgt := 46) d_X12_stateOf_39 rfl (fun c6 => ?_) (fun c6 => ?_)
      · have k := k.1 c6
        refine aw_iconst (v := 0) d_X12_stateOf_46 ic_0 ?_
        exact aw_iret rfl d_X12_stateOf_47 ⟨Nat.le_refl _, Nat.le_refl _⟩ ⟨_, rfl, k⟩
      · have k := k.2 c6
        refine aw_iconst (v := 2) d_X12_stateOf_42 ic_2 ?_
        refine aw_goto (tgt := 47) d_X12_stateOf_43 rfl ?_
        exact aw_iret rfl d_X12_stateOf_47 ⟨Nat.le_refl _, Nat.le_refl _⟩ ⟨_, rfl, k⟩
  · have k := k.2 c2
    refine aw_aload_n (i := 0) rfl d_X12_stateOf_10 0 rfl ?_
    refine aw_getr (k0 := 56) kc_12 (ws_1 w) (Nat.le_of_ble_eq_true rfl) tw_1798 d_X12_stateOf_11 rfl (wr_1_56 w) ?_
    refine aw_iload_n (i := 1) rfl d_X12_stateOf_14 1 rfl ?_
    obtain ⟨b7, k⟩ := k
    refine aw_iald (ws_241 w) b7 d_X12_stateOf_15 ?_
    refine aw_iload_n (i := 2) rfl d_X12_stateOf_16 2 rfl ?_
    refine aw_icmp_gt (tgt := 22) d_X12_stateOf_17 rfl (fun c8 => ?_) (fun c8 => ?_)
    · have k := k.1 c8
      refine aw_aload_n (i := 0) rfl d_X12_stateOf_22 0 rfl ?_
      refine aw_getr (k0 := 57) kc_12 (ws_1 w) (Nat.le_of_ble_eq_true rfl) tw_1799 d_X12_stateOf_23 rfl (wr_1_57 w) ?_
      refine aw_iload_n (i := 1) rfl d_X12_stateOf_26 1 rfl ?_
      obtain ⟨b9, k⟩ := k
      refine aw_iald (ws_242 w) b9 d_X12_stateOf_27 ?_
      refine aw_iconst (v := (-1)) d_X12_stateOf_28 ic_m1 ?_
      refine aw_icmp_eq (tgt := 46) d_X12_stateOf_29 rfl (fun c10 => ?_) (fun c10 => ?_)
      · have k := k.1 c10
        refine aw_iconst (v := 0) d_X12_stateOf_46 ic_0 ?_
        exact aw_iret rfl d_X12_stateOf_47 ⟨Nat.le_refl _, Nat.le_refl _⟩ ⟨_, rfl, k⟩
      · have k := k.2 c10
        refine aw_aload_n (i := 0) rfl d_X12_stateOf_32 0 rfl ?_
        refine aw_getr (k0 := 57) kc_12 (ws_1 w) (Nat.le_of_ble_eq_true rfl) tw_1799 d_X12_stateOf_33 rfl (wr_1_57 w) ?_
        refine aw_iload_n (i := 1) rfl d_X12_stateOf_36 1 rfl ?_
        obtain ⟨b11, k⟩ := k
        refine aw_iald (ws_242 w) b11 d_X12_stateOf_37 ?_
        refine aw_iload_n (i := 2) rfl d_X12_stateOf_38 2 rfl ?_
        refine aw_icmp_gt (tgt := 46) d_X12_stateOf_39 rfl (fun c12 => ?_) (fun c12 => ?_)
        · have k := k.1 c12
          refine aw_iconst (v := 0) d_X12_stateOf_46 ic_0 ?_
          exact aw_iret rfl d_X12_stateOf_47 ⟨Nat.le_refl _, Nat.le_refl _⟩ ⟨_, rfl, k⟩
        · have k := k.2 c12
          refine aw_iconst (v := 2) d_X12_stateOf_42 ic_2 ?_
          refine aw_goto (tgt := 47) d_X12_stateOf_43 rfl ?_
          exact aw_iret rfl d_X12_stateOf_47 ⟨Nat.le_refl _, Nat.le_refl _⟩ ⟨_, rfl, k⟩
    · have k := k.2 c8
      refine aw_iconst (v := 1) d_X12_stateOf_20 ic_1 ?_
      exact aw_iret rfl d_X12_stateOf_21 ⟨Nat.le_refl _, Nat.le_refl _⟩ ⟨_, rfl, k⟩
theorem t_X12_causeOf (d : Nat) (h : Hp_) (w : Wf h) (x1 : Int32) (x2 : Int32) (K : Int32 → Hp_ → Prop) (k : vp_in x1 400 ∧ (AW (m_X12_causeOf (d + 0) 0 0) 0 0 10 [(0, .ref 1), (1, .int x1), (2, .int x2), (3, .int (h_i h 243 x1.toNatClampNeg)), (4, .int 0)] [] h (kI K))) : Ci (m_X12_causeOf (d + 0) 0 0) [.ref 1, .int x1, .int x2] h K := by
  refine Ct.of (fun _ _ _ => trivial) rfl (Nat.le_of_ble_eq_true rfl) ?_
  show AW (m_X12_causeOf (d + 0) 0 0) 0 0 0 [(0, .ref 1), (1, .int x1), (2, .int x2)] [] h (kI K)
  refine aw_aload_n (i := 0) rfl d_X12_causeOf_0 0 rfl ?_
  refine aw_getr (k0 := 58) kc_12 (ws_1 w) (Nat.le_of_ble_eq_true rfl) tw_1800 d_X12_causeOf_1 rfl (wr_1_58 w) ?_
  refine aw_iload_n (i := 1) rfl d_X12_causeOf_4 1 rfl ?_
  obtain ⟨b1, k⟩ := k
  refine aw_iald (ws_243 w) b1 d_X12_causeOf_5 ?_
  refine aw_istore_n (i := 3) rfl [(0, .ref 1), (1, .int x1), (2, .int x2), (3, .int (h_i h 243 x1.toNatClampNeg))] d_X12_causeOf_6 (Nat.le_of_ble_eq_true rfl) rfl rfl ?_
  refine aw_iconst (v := 0) d_X12_causeOf_7 ic_0 ?_
  refine aw_istore [(0, .ref 1), (1, .int x1), (2, .int x2), (3, .int (h_i h 243 x1.toNatClampNeg)), (4, .int 0)] d_X12_causeOf_8 (Nat.le_of_ble_eq_true rfl) rfl rfl ?_
  exact k
theorem t_X12_causeOf_10 (d : Nat) (h : Hp_) (w : Wf h) (x1 : Int32) (x2 : Int32) (x3 : Int32) (x4 : Int32) (K : Int32 → Hp_ → Prop) (k : ((h_i h 1 64) ≤ x4 → K x3 h) ∧ (¬ (h_i h 1 64) ≤ x4 → vp_in x4 200 ∧ ((¬ (h_i h 245 x4.toNatClampNeg) = x1 → AW (m_X12_causeOf (d + 0) 0 0) 0 0 10 [(0, .ref 1), (1, .int x1), (2, .int x2), (3, .int x3), (4, .int (x4 + 1))] [] h (kI K)) ∧ ((h_i h 245 x4.toNatClampNeg) = x1 → vp_in x4 200 ∧ ((x2 < (h_i h 247 x4.toNatClampNeg) → AW (m_X12_causeOf (d + 0) 0 0) 0 0 10 [(0, .ref 1), (1, .int x1), (2, .int x2), (3, .int x3), (4, .int (x4 + 1))] [] h (kI K)) ∧ (¬ x2 < (h_i h 247 x4.toNatClampNeg) → vp_in x4 200 ∧ (AW (m_X12_causeOf (d + 0) 0 0) 0 0 10 [(0, .ref 1), (1, .int x1), (2, .int x2), (3, .int (h_i h 246 x4.toNatClampNeg)), (4, .int (x4 + 1))] [] h (kI K)))))))) : AW (m_X12_causeOf (d + 0) 0 0) 0 0 10 [(0, .ref 1), (1, .int x1), (2, .int x2), (3, .int x3), (4, .int x4)] [] h (kI K) := by
  refine aw_iload d_X12_causeOf_10 4 rfl ?_
  refine aw_aload_n (i := 0) rfl d_X12_causeOf_12 0 rfl ?_
  refine aw_geti (k0 := 64) kc_12 (ws_1 w) (Nat.le_of_ble_eq_true rfl) tw_1806 d_X12_causeOf_13 rfl ?_
  refine aw_icmp_ge (tgt := 55) d_X12_causeOf_16 rfl (fun c2 => ?_) (fun c2 => ?_)
  · have k := k.1 c2
    refine aw_iload_n (i := 3) rfl d_X12_causeOf_55 3 rfl ?_
    exact aw_iret rfl d_X12_causeOf_56 ⟨Nat.le_refl _, Nat.le_refl _⟩ ⟨_, rfl, k⟩
  · have k := k.2 c2
    refine aw_aload_n (i := 0) rfl d_X12_causeOf_19 0 rfl ?_
    refine aw_getr (k0 := 60) kc_12 (ws_1 w) (Nat.le_of_ble_eq_true rfl) tw_1802 d_X12_causeOf_20 rfl (wr_1_60 w) ?_
    refine aw_iload d_X12_causeOf_23 4 rfl ?_
    obtain ⟨b3, k⟩ := k
    refine aw_iald (ws_245 w) b3 d_X12_causeOf_25 ?_
    refine aw_iload_n (i := 1) rfl d_X12_causeOf_26 1 rfl ?_
    refine aw_icmp_ne (tgt := 49) d_X12_causeOf_27 rfl (fun c4 => ?_) (fun c4 => ?_)
    · have k := k.1 c4
      refine aw_iinc (v := (x4 + 1)) [(0, .ref 1), (1, .int x1), (2, .int x2), (3, .int x3), (4, .int (x4 + 1))] d_X12_causeOf_49 4 rfl rfl (Nat.le_of_ble_eq_true rfl) rfl rfl ?_
      refine aw_goto (tgt := 10) d_X12_causeOf_52 rfl ?_
      exact k
    · have k := k.2 c4
      refine aw_aload_n (i := 0) rfl d_X12_causeOf_30 0 rfl ?_
      refine aw_getr (k0 := 62) kc_12 (ws_1 w) (Nat.le_of_ble_eq_true rfl) tw_1804 d_X12_causeOf_31 rfl (wr_1_62 w) ?_
      refine aw_iload d_X12_causeOf_34 4 rfl ?_
      obtain ⟨b5, k⟩ := k
      refine aw_iald (ws_247 w) b5 d_X12_causeOf_36 ?_
      refine aw_iload_n (i := 2) rfl d_X12_causeOf_37 2 rfl ?_
      refine aw_icmp_gt (tgt := 49) d_X12_causeOf_38 rfl (fun c6 => ?_) (fun c6 => ?_)
      · have k := k.1 c6
        refine aw_iinc (v := (x4 + 1)) [(0, .ref 1), (1, .int x1), (2, .int x2), (3, .int x3), (4, .int (x4 + 1))] d_X12_causeOf_49 4 rfl rfl (Nat.le_of_ble_eq_true rfl) rfl rfl ?_
        refine aw_goto (tgt := 10) d_X12_causeOf_52 rfl ?_
        exact k
      · have k := k.2 c6
        refine aw_aload_n (i := 0) rfl d_X12_causeOf_41 0 rfl ?_
        refine aw_getr (k0 := 61) kc_12 (ws_1 w) (Nat.le_of_ble_eq_true rfl) tw_1803 d_X12_causeOf_42 rfl (wr_1_61 w) ?_
        refine aw_iload d_X12_causeOf_45 4 rfl ?_
        obtain ⟨b7, k⟩ := k
        refine aw_iald (ws_246 w) b7 d_X12_causeOf_47 ?_
        refine aw_istore_n (i := 3) rfl [(0, .ref 1), (1, .int x1), (2, .int x2), (3, .int (h_i h 246 x4.toNatClampNeg)), (4, .int x4)] d_X12_causeOf_48 (Nat.le_of_ble_eq_true rfl) rfl rfl ?_
        refine aw_iinc (v := (x4 + 1)) [(0, .ref 1), (1, .int x1), (2, .int x2), (3, .int (h_i h 246 x4.toNatClampNeg)), (4, .int (x4 + 1))] d_X12_causeOf_49 4 rfl rfl (Nat.le_of_ble_eq_true rfl) rfl rfl ?_
        refine aw_goto (tgt := 10) d_X12_causeOf_52 rfl ?_
        exact k
theorem t_X12_forceOf (d : Nat) (h : Hp_) (x1 : Int32) (x2 : Int32) (x3 : Int32) (K : Int32 → Hp_ → Prop) (k : AW (m_X12_forceOf (d + 0) 0 0) 0 0 6 [(0, .ref 1), (1, .int x1), (2, .int x2), (3, .int x3), (4, .int (-1)), (5, .int 0)] [] h (kI K)) : Ci (m_X12_forceOf (d + 0) 0 0) [.ref 1, .int x1, .int x2, .int x3] h K := by
  refine Ct.of (fun _ _ _ => trivial) rfl (Nat.le_of_ble_eq_true rfl) ?_
  show AW (m_X12_forceOf (d + 0) 0 0) 0 0 0 [(0, .ref 1), (1, .int x1), (2, .int x2), (3, .int x3)] [] h (kI K)
  refine aw_iconst (v := (-1)) d_X12_forceOf_0 ic_m1 ?_
  refine aw_istore [(0, .ref 1), (1, .int x1), (2, .int x2), (3, .int x3), (4, .int (-1))] d_X12_forceOf_1 (Nat.le_of_ble_eq_true rfl) rfl rfl ?_
  refine aw_iconst (v := 0) d_X12_forceOf_3 ic_0 ?_
  refine aw_istore [(0, .ref 1), (1, .int x1), (2, .int x2), (3, .int x3), (4, .int (-1)), (5, .int 0)] d_X12_forceOf_4 (Nat.le_of_ble_eq_true rfl) rfl rfl ?_
  exact k
theorem t_X12_forceOf_6 (d : Nat) (h : Hp_) (w : Wf h) (x1 : Int32) (x2 : Int32) (x3 : Int32) (x4 : Int32) (x5 : Int32) (K : Int32 → Hp_ → Prop) (k : vp_in x1 2 ∧ (((h_i h 235 x1.toNatClampNeg) ≤ x5 → K x4 h) ∧ (¬ (h_i h 235 x1.toNatClampNeg) ≤ x5 → vp_in ((20 * x1) + x5) 40 ∧ ((x3 < (h_i h 234 (((20 * x1) + x5) : Int32).toNatClampNeg) → AW (m_X12_forceOf (d + 0) 0 0) 0 0 6 [(0, .ref 1), (1, .int x1), (2, .int x2), (3, .int x3), (4, .int x4), (5, .int (x5 + 1))] [] h (kI K)) ∧ (¬ x3 < (h_i h 234 (((20 * x1) + x5) : Int32).toNatClampNeg) → vp_in ((20 * x1) + x5) 40 ∧ ((x2 < (h_i h 233 (((20 * x1) + x5) : Int32).toNatClampNeg) → AW (m_X12_forceOf (d + 0) 0 0) 0 0 6 [(0, .ref 1), (1, .int x1), (2, .int x2), (3, .int x3), (4, .int x4), (5, .int (x5 + 1))] [] h (kI K)) ∧ (¬ x2 < (h_i h 233 (((20 * x1) + x5) : Int32).toNatClampNeg) → (x4 = (-1) → AW (m_X12_forceOf (d + 0) 0 0) 0 0 6 [(0, .ref 1), (1, .int x1), (2, .int x2), (3, .int x3), (4, .int x5), (5, .int (x5 + 1))] [] h (kI K)) ∧ (¬ x4 = (-1) → vp_in ((20 * x1) + x5) 40 ∧ (vp_in ((20 * x1) + x4) 40 ∧ (((h_i h 233 (((20 * x1) + x5) : Int32).toNatClampNeg) < (h_i h 233 (((20 * x1) + x4) : Int32).toNatClampNeg) → AW (m_X12_forceOf (d + 0) 0 0) 0 0 6 [(0, .ref 1), (1, .int x1), (2, .int x2), (3, .int x3), (4, .int x4), (5, .int (x5 + 1))] [] h (kI K)) ∧ (¬ (h_i h 233 (((20 * x1) + x5) : Int32).toNatClampNeg) < (h_i h 233 (((20 * x1) + x4) : Int32).toNatClampNeg) → AW (m_X12_forceOf (d + 0) 0 0) 0 0 6 [(0, .ref 1), (1, .int x1), (2, .int x2), (3, .int x3), (4, .int x5), (5, .int (x5 + 1))] [] h (kI K)))))))))))) : AW (m_X12_forceOf (d + 0) 0 0) 0 0 6 [(0, .ref 1), (1, .int x1), (2, .int x2), (3, .int x3), (4, .int x4), (5, .int x5)] [] h (kI K) := by
  refine aw_iload d_X12_forceOf_6 5 rfl ?_
  refine aw_aload_n (i := 0) rfl d_X12_forceOf_8 0 rfl ?_
  refine aw_getr (k0 := 49) kc_12 (ws_1 w) (Nat.le_of_ble_eq_true rfl) tw_1791 d_X12_forceOf_9 rfl (wr_1_49 w) ?_
  refine aw_iload_n (i := 1) rfl d_X12_forceOf_12 1 rfl ?_
  obtain ⟨b1, k⟩ := k
  refine aw_iald (ws_235 w) b1 d_X12_forceOf_13 ?_
  refine aw_icmp_ge (tgt := 86) d_X12_forceOf_14 rfl (fun c2 => ?_) (fun c2 => ?_)
  · have k := k.1 c2
    refine aw_iload d_X12_forceOf_86 4 rfl ?_
    exact aw_iret rfl d_X12_forceOf_88 ⟨Nat.le_refl _, Nat.le_refl _⟩ ⟨_, rfl, k⟩
  · have k := k.2 c2
    refine aw_bipush (v := 20) d_X12_forceOf_17 ib_20 ?_
    refine aw_iload_n (i := 1) rfl d_X12_forceOf_19 1 rfl ?_
    refine aw_imul d_X12_forceOf_20 ?_
    refine aw_iload d_X12_forceOf_21 5 rfl ?_
    refine aw_iadd d_X12_forceOf_23 ?_
    refine aw_istore [(0, .ref 1), (1, .int x1), (2, .int x2), (3, .int x3), (4, .int x4), (5, .int x5), (6, .int ((20 * x1) + x5))] d_X12_forceOf_24 (Nat.le_of_ble_eq_true rfl) rfl rfl ?_
    refine aw_aload_n (i := 0) rfl d_X12_forceOf_26 0 rfl ?_
    refine aw_getr (k0 := 48) kc_12 (ws_1 w) (Nat.le_of_ble_eq_true rfl) tw_1790 d_X12_forceOf_27 rfl (wr_1_48 w) ?_
    refine aw_iload d_X12_forceOf_30 6 rfl ?_
    obtain ⟨b3, k⟩ := k
    refine aw_iald (ws_234 w) b3 d_X12_forceOf_32 ?_
    refine aw_iload_n (i := 3) rfl d_X12_forceOf_33 3 rfl ?_
    refine aw_icmp_gt (tgt := 80) d_X12_forceOf_34 rfl (fun c4 => ?_) (fun c4 => ?_)
    · have k := k.1 c4
      refine aw_iinc (v := (x5 + 1)) [(0, .ref 1), (1, .int x1), (2, .int x2), (3, .int x3), (4, .int x4), (5, .int (x5 + 1)), (6, .int ((20 * x1) + x5))] d_X12_forceOf_80 5 rfl rfl (Nat.le_of_ble_eq_true rfl) rfl rfl ?_
      refine aw_goto (tgt := 6) d_X12_forceOf_83 rfl ?_
      exact aw_lvp [0, 1, 2, 3, 4, 5] [(0, .ref 1), (1, .int x1), (2, .int x2), (3, .int x3), (4, .int x4), (5, .int (x5 + 1))] rfl k
    · have k := k.2 c4
      refine aw_aload_n (i := 0) rfl d_X12_forceOf_37 0 rfl ?_
      refine aw_getr (k0 := 47) kc_12 (ws_1 w) (Nat.le_of_ble_eq_true rfl) tw_1789 d_X12_forceOf_38 rfl (wr_1_47 w) ?_
      refine aw_iload d_X12_forceOf_41 6 rfl ?_
      obtain ⟨b5, k⟩ := k
      refine aw_iald (ws_233 w) b5 d_X12_forceOf_43 ?_
      refine aw_iload_n (i := 2) rfl d_X12_forceOf_44 2 rfl ?_
      refine aw_icmp_gt (tgt := 80) d_X12_forceOf_45 rfl (fun c6 => ?_) (fun c6 => ?_)
      · have k := k.1 c6
        refine aw_iinc (v := (x5 + 1)) [(0, .ref 1), (1, .int x1), (2, .int x2), (3, .int x3), (4, .int x4), (5, .int (x5 + 1)), (6, .int ((20 * x1) + x5))] d_X12_forceOf_80 5 rfl rfl (Nat.le_of_ble_eq_true rfl) rfl rfl ?_
        refine aw_goto (tgt := 6) d_X12_forceOf_83 rfl ?_
        exact aw_lvp [0, 1, 2, 3, 4, 5] [(0, .ref 1), (1, .int x1), (2, .int x2), (3, .int x3), (4, .int x4), (5, .int (x5 + 1))] rfl k
      · have k := k.2 c6
        refine aw_iload d_X12_forceOf_48 4 rfl ?_
        refine aw_iconst (v := (-1)) d_X12_forceOf_50 ic_m1 ?_
        refine aw_icmp_eq (tgt := 76) d_X12_forceOf_51 rfl (fun c7 => ?_) (fun c7 => ?_)
        · have k := k.1 c7
          refine aw_iload d_X12_forceOf_76 5 rfl ?_
          refine aw_istore [(0, .ref 1), (1, .int x1), (2, .int x2), (3, .int x3), (4, .int x5), (5, .int x5), (6, .int ((20 * x1) + x5))] d_X12_forceOf_78 (Nat.le_of_ble_eq_true rfl) rfl rfl ?_
          refine aw_iinc (v := (x5 + 1)) [(0, .ref 1), (1, .int x1), (2, .int x2), (3, .int x3), (4, .int x5), (5, .int (x5 + 1)), (6, .int ((20 * x1) + x5))] d_X12_forceOf_80 5 rfl rfl (Nat.le_of_ble_eq_true rfl) rfl rfl ?_
          refine aw_goto (tgt := 6) d_X12_forceOf_83 rfl ?_
          exact aw_lvp [0, 1, 2, 3, 4, 5] [(0, .ref 1), (1, .int x1), (2, .int x2), (3, .int x3), (4, .int x5), (5, .int (x5 + 1))] rfl k
        · have k := k.2 c7
          refine aw_aload_n (i := 0) rfl d_X12_forceOf_54 0 rfl ?_
          refine aw_getr (k0 := 47) kc_12 (ws_1 w) (Nat.le_of_ble_eq_true rfl) tw_1789 d_X12_forceOf_55 rfl (wr_1_47 w) ?_
          refine aw_iload d_X12_forceOf_58 6 rfl ?_
          obtain ⟨b8, k⟩ := k
          refine aw_iald (ws_233 w) b8 d_X12_forceOf_60 ?_
          refine aw_aload_n (i := 0) rfl d_X12_forceOf_61 0 rfl ?_
          refine aw_getr (k0 := 47) kc_12 (ws_1 w) (Nat.le_of_ble_eq_true rfl) tw_1789 d_X12_forceOf_62 rfl (wr_1_47 w) ?_
          refine aw_bipush (v := 20) d_X12_forceOf_65 ib_20 ?_
          refine aw_iload_n (i := 1) rfl d_X12_forceOf_67 1 rfl ?_
          refine aw_imul d_X12_forceOf_68 ?_
          refine aw_iload d_X12_forceOf_69 4 rfl ?_
          refine aw_iadd d_X12_forceOf_71 ?_
          obtain ⟨b9, k⟩ := k
          refine aw_iald (ws_233 w) b9 d_X12_forceOf_72 ?_
          refine aw_icmp_lt (tgt := 80) d_X12_forceOf_73 rfl (fun c10 => ?_) (fun c10 => ?_)
          · have k := k.1 c10
            refine aw_iinc (v := (x5 + 1)) [(0, .ref 1), (1, .int x1), (2, .int x2), (3, .int x3), (4, .int x4), (5, .int (x5 + 1)), (6, .int ((20 * x1) + x5))] d_X12_forceOf_80 5 rfl rfl (Nat.le_of_ble_eq_true rfl) rfl rfl ?_
            refine aw_goto (tgt := 6) d_X12_forceOf_83 rfl ?_
            exact aw_lvp [0, 1, 2, 3, 4, 5] [(0, .ref 1), (1, .int x1), (2, .int x2), (3, .int x3), (4, .int x4), (5, .int (x5 + 1))] rfl k
          · have k := k.2 c10
            refine aw_iload d_X12_forceOf_76 5 rfl ?_
            refine aw_istore [(0, .ref 1), (1, .int x1), (2, .int x2), (3, .int x3), (4, .int x5), (5, .int x5), (6, .int ((20 * x1) + x5))] d_X12_forceOf_78 (Nat.le_of_ble_eq_true rfl) rfl rfl ?_
            refine aw_iinc (v := (x5 + 1)) [(0, .ref 1), (1, .int x1), (2, .int x2), (3, .int x3), (4, .int x5), (5, .int (x5 + 1)), (6, .int ((20 * x1) + x5))] d_X12_forceOf_80 5 rfl rfl (Nat.le_of_ble_eq_true rfl) rfl rfl ?_
            refine aw_goto (tgt := 6) d_X12_forceOf_83 rfl ?_
            exact aw_lvp [0, 1, 2, 3, 4, 5] [(0, .ref 1), (1, .int x1), (2, .int x2), (3, .int x3), (4, .int x5), (5, .int (x5 + 1))] rfl k
theorem t_X12_lets (d : Nat) (h : Hp_) (x1 : Int32) (x2 : Int32) (K : Int32 → Hp_ → Prop) (k : AW (m_X12_lets (d + 6) 0 0) 0 0 2 [(0, .ref 1), (1, .int x1), (2, .int x2), (3, .int 0)] [] h (kI K)) : Ci (m_X12_lets (d + 6) 0 0) [.ref 1, .int x1, .int x2] h K := by
  refine Ct.of (fun _ _ _ => trivial) rfl (Nat.le_of_ble_eq_true rfl) ?_
  show AW (m_X12_lets (d + 6) 0 0) 0 0 0 [(0, .ref 1), (1, .int x1), (2, .int x2)] [] h (kI K)
  refine aw_iconst (v := 0) d_X12_lets_0 ic_0 ?_
  refine aw_istore_n (i := 3) rfl [(0, .ref 1), (1, .int x1), (2, .int x2), (3, .int 0)] d_X12_lets_1 (Nat.le_of_ble_eq_true rfl) rfl rfl ?_
  exact k
theorem t_X12_lets_2 (d : Nat) (h : Hp_) (w : Wf h) (x1 : Int32) (x2 : Int32) (x3 : Int32) (K : Int32 → Hp_ → Prop) (k : (9 ≤ x3 → vp_in x1 300 ∧ (Ci (m_X12_forceOf (d + 0) 0 0) [.ref 1, .int 0, .int ((h_i h 257 x1.toNatClampNeg) / 1440), .int x2] h (fun r5 h3 => Wf h3 ∧ (Ci (m_X12_tell (d + 4) 0 0) [.ref 1, .int 0, .int r5] h3 (fun r8 h6 => Wf h6 ∧ (K r8 h6)))))) ∧ (¬ 9 ≤ x3 → Ci (m_X12_letterFor (d + 5) 0 0) [.int x3] h (fun r11 h9 => Wf h9 ∧ (vp_in ((9 * x1) + x3) 2700 ∧ (vp_in r11 128 ∧ (AW (m_X12_lets (d + 6) 0 0) 0 0 2 [(0, .ref 1), (1, .int x1), (2, .int x2), (3, .int (x3 + 1))] [] (h_im h9 236 r11.toNatClampNeg (h_i h9 261 (((9 * x1) + x3) : Int32).toNatClampNeg)) (kI K))))))) : AW (m_X12_lets (d + 6) 0 0) 0 0 2 [(0, .ref 1), (1, .int x1), (2, .int x2), (3, .int x3)] [] h (kI K) := by
  refine aw_iload_n (i := 3) rfl d_X12_lets_2 3 rfl ?_
  refine aw_bipush (v := 9) d_X12_lets_3 ib_9 ?_
  refine aw_icmp_ge (tgt := 34) d_X12_lets_5 rfl (fun c1 => ?_) (fun c1 => ?_)
  · have k := k.1 c1
    refine aw_aload_n (i := 0) rfl d_X12_lets_34 0 rfl ?_
    refine aw_iconst (v := 0) d_X12_lets_35 ic_0 ?_
    refine aw_aload_n (i := 0) rfl d_X12_lets_36 0 rfl ?_
    refine aw_iconst (v := 0) d_X12_lets_37 ic_0 ?_
    refine aw_aload_n (i := 0) rfl d_X12_lets_38 0 rfl ?_
    refine aw_getr (k0 := 74) kc_12 (ws_1 w) (Nat.le_of_ble_eq_true rfl) tw_1816 d_X12_lets_39 rfl (wr_1_74 w) ?_
    refine aw_iload_n (i := 1) rfl d_X12_lets_42 1 rfl ?_
    obtain ⟨b2, k⟩ := k
    refine aw_iald (ws_257 w) b2 d_X12_lets_43 ?_
    refine aw_sipush (v := 1440) d_X12_lets_44 is_1440 ?_
    refine aw_idiv d_X12_lets_47 (by decide) ?_
    refine aw_iload_n (i := 2) rfl d_X12_lets_48 2 rfl ?_
    refine aw_Vi 1 [.int 0, .int ((h_i h 257 x1.toNatClampNeg) / 1440), .int x2] [.int 0, .ref 1] d_X12_lets_49 (cV_X12_forceOf (d + 0) 0 0) kc_12 (ws_1 w) tw_2308 rfl (rr0 (Nat.le_of_ble_eq_true rfl) (Nat.le_of_ble_eq_true rfl)) (Nat.le_of_ble_eq_true rfl) xs0 k (fun r5 h3 kk => ?_)
    obtain ⟨w4, k⟩ := kk
    refine aw_Vi 1 [.int 0, .int r5] [] d_X12_lets_52 (cV_X12_tell (d + 4) 0 0) kc_12 (ws_1 w4) tw_2424 rfl (rr0 (Nat.le_of_ble_eq_true rfl) (Nat.le_of_ble_eq_true rfl)) (Nat.le_of_ble_eq_true rfl) xs0 k (fun r8 h6 kk => ?_)
    obtain ⟨w7, k⟩ := kk
    exact aw_iret rfl d_X12_lets_55 ⟨Nat.le_refl _, Nat.le_refl _⟩ ⟨_, rfl, k⟩
  · have k := k.2 c1
    refine aw_aload_n (i := 0) rfl d_X12_lets_8 0 rfl ?_
    refine aw_getr (k0 := 50) kc_12 (ws_1 w) (Nat.le_of_ble_eq_true rfl) tw_1792 d_X12_lets_9 rfl (wr_1_50 w) ?_
    refine aw_iload_n (i := 3) rfl d_X12_lets_12 3 rfl ?_
    refine aw_Si [.int x3] [.ref 236] d_X12_lets_13 (cS_X12_letterFor (d + 5) 0 0) tw_2400 rfl (rr0 (Nat.le_of_ble_eq_true rfl) (Nat.le_of_ble_eq_true rfl)) (Nat.le_of_ble_eq_true rfl) xs0 k (fun r11 h9 kk => ?_)
    obtain ⟨w10, k⟩ := kk
    refine aw_aload_n (i := 0) rfl d_X12_lets_16 0 rfl ?_
    refine aw_getr (k0 := 78) kc_12 (ws_1 w10) (Nat.le_of_ble_eq_true rfl) tw_1820 d_X12_lets_17 rfl (wr_1_78 w10) ?_
    refine aw_bipush (v := 9) d_X12_lets_20 ib_9 ?_
    refine aw_iload_n (i := 1) rfl d_X12_lets_22 1 rfl ?_
    refine aw_imul d_X12_lets_23 ?_
    refine aw_iload_n (i := 3) rfl d_X12_lets_24 3 rfl ?_
    refine aw_iadd d_X12_lets_25 ?_
    obtain ⟨b12, k⟩ := k
    refine aw_iald (ws_261 w10) b12 d_X12_lets_26 ?_
    obtain ⟨b13, k⟩ := k
    refine aw_iast (ws_236 w10) b13 d_X12_lets_27 ?_
    refine aw_iinc (v := (x3 + 1)) [(0, .ref 1), (1, .int x1), (2, .int x2), (3, .int (x3 + 1))] d_X12_lets_28 3 rfl rfl (Nat.le_of_ble_eq_true rfl) rfl rfl ?_
    refine aw_goto (tgt := 2) d_X12_lets_31 rfl ?_
    exact k
theorem t_X12_payOf (d : Nat) (h : Hp_) (x1 : Int32) (x2 : Int32) (x3 : Int32) (K : Int32 → Hp_ → Prop) (k : AW (m_X12_payOf (d + 7) 0 0) 0 0 9 [(0, .ref 1), (1, .int x1), (2, .int x2), (3, .int x3), (4, .int 0), (5, .int 0), (6, .int 0)] [] h (kI K)) : Ci (m_X12_payOf (d + 7) 0 0) [.ref 1, .int x1, .int x2, .int x3] h K := by
  refine Ct.of (fun _ _ _ => trivial) rfl (Nat.le_of_ble_eq_true rfl) ?_
  show AW (m_X12_payOf (d + 7) 0 0) 0 0 0 [(0, .ref 1), (1, .int x1), (2, .int x2), (3, .int x3)] [] h (kI K)
  refine aw_iconst (v := 0) d_X12_payOf_0 ic_0 ?_
  refine aw_istore [(0, .ref 1), (1, .int x1), (2, .int x2), (3, .int x3), (4, .int 0)] d_X12_payOf_1 (Nat.le_of_ble_eq_true rfl) rfl rfl ?_
  refine aw_iconst (v := 0) d_X12_payOf_3 ic_0 ?_
  refine aw_istore [(0, .ref 1), (1, .int x1), (2, .int x2), (3, .int x3), (4, .int 0), (5, .int 0)] d_X12_payOf_4 (Nat.le_of_ble_eq_true rfl) rfl rfl ?_
  refine aw_iconst (v := 0) d_X12_payOf_6 ic_0 ?_
  refine aw_istore [(0, .ref 1), (1, .int x1), (2, .int x2), (3, .int x3), (4, .int 0), (5, .int 0), (6, .int 0)] d_X12_payOf_7 (Nat.le_of_ble_eq_true rfl) rfl rfl ?_
  exact k
theorem t_X12_payOf_9 (d : Nat) (h : Hp_) (w : Wf h) (x1 : Int32) (x2 : Int32) (x3 : Int32) (x4 : Int32) (x5 : Int32) (x6 : Int32) (K : Int32 → Hp_ → Prop) (k : ((h_i h 1 63) ≤ x6 → AW (m_X12_payOf (d + 7) 0 0) 0 0 128 [(0, .ref 1), (1, .int x1), (2, .int x2), (3, .int x3), (4, .int x4), (5, .int x5), (6, .int 0), (7, .int 0), (8, .int 0)] [] h (kI K)) ∧ (¬ (h_i h 1 63) ≤ x6 → vp_in x6 400 ∧ ((¬ (h_i h 238 x6.toNatClampNeg) = x1 → AW (m_X12_payOf (d + 7) 0 0) 0 0 9 [(0, .ref 1), (1, .int x1), (2, .int x2), (3, .int x3), (4, .int x4), (5, .int x5), (6, .int (x6 + 1))] [] h (kI K)) ∧ ((h_i h 238 x6.toNatClampNeg) = x1 → vp_in x6 400 ∧ ((((h_i h 240 x6.toNatClampNeg) / 1440) = x2 → Ci (m_X12_stateOf (d + 0) 0 0) [.ref 1, .int x6, .int x3] h (fun r8 h6 => Wf h6 ∧ ((¬ r8 = 2 → (¬ r8 = 1 → AW (m_X12_payOf (d + 7) 0 0) 0 0 9 [(0, .ref 1), (1, .int x1), (2, .int x2), (3, .int x3), (4, .int (x4 + 0)), (5, .int (x5 + 0)), (6, .int (x6 + 1))] [] h6 (kI K)) ∧ (r8 = 1 → AW (m_X12_payOf (d + 7) 0 0) 0 0 9 [(0, .ref 1), (1, .int x1), (2, .int x2), (3, .int x3), (4, .int (x4 + 1)), (5, .int (x5 + 0)), (6, .int (x6 + 1))] [] h6 (kI K))) ∧ (r8 = 2 → Ci (m_X12_causeOf (d + 0) 0 0) [.ref 1, .int x6, .int x3] h6 (fun r17 h15 => Wf h15 ∧ ((¬ r8 = 1 → (r17 = 1 → AW (m_X12_payOf (d + 7) 0 0) 0 0 9 [(0, .ref 1), (1, .int x1), (2, .int x2), (3, .int x3), (4, .int (x4 + 0)), (5, .int (x5 + 1)), (6, .int (x6 + 1))] [] h15 (kI K)) ∧ (¬ r17 = 1 → (r17 < 5 → AW (m_X12_payOf (d + 7) 0 0) 0 0 9 [(0, .ref 1), (1, .int x1), (2, .int x2), (3, .int x3), (4, .int (x4 + 0)), (5, .int (x5 + 0)), (6, .int (x6 + 1))] [] h15 (kI K)) ∧ (¬ r17 < 5 → AW (m_X12_payOf (d + 7) 0 0) 0 0 9 [(0, .ref 1), (1, .int x1), (2, .int x2), (3, .int x3), (4, .int (x4 + 0)), (5, .int (x5 + 1)), (6, .int (x6 + 1))] [] h15 (kI K)))) ∧ (r8 = 1 → (r17 = 1 → AW (m_X12_payOf (d + 7) 0 0) 0 0 9 [(0, .ref 1), (1, .int x1), (2, .int x2), (3, .int x3), (4, .int (x4 + 1)), (5, .int (x5 + 1)), (6, .int (x6 + 1))] [] h15 (kI K)) ∧ (¬ r17 = 1 → (r17 < 5 → AW (m_X12_payOf (d + 7) 0 0) 0 0 9 [(0, .ref 1), (1, .int x1), (2, .int x2), (3, .int x3), (4, .int (x4 + 1)), (5, .int (x5 + 0)), (6, .int (x6 + 1))] [] h15 (kI K)) ∧ (¬ r17 < 5 → AW (m_X12_payOf (d + 7) 0 0) 0 0 9 [(0, .ref 1), (1, .int x1), (2, .int x2), (3, .int x3), (4, .int (x4 + 1)), (5, .int (x5 + 1)), (6, .int (x6 + 1))] [] h15 (kI K)))))))))) ∧ (¬ ((h_i h 240 x6.toNatClampNeg) / 1440) = x2 → AW (m_X12_payOf (d + 7) 0 0) 0 0 9 [(0, .ref 1), (1, .int x1), (2, .int x2), (3, .int x3), (4, .int x4), (5, .int x5), (6, .int (x6 + 1))] [] h (kI K))))))) : AW (m_X12_payOf (d + 7) 0 0) 0 0 9 [(0, .ref 1), (1, .int x1), (2, .int x2), (3, .int x3), (4, .int x4), (5, .int x5), (6, .int x6)] [] h (kI K) := by
  refine aw_iload d_X12_payOf_9 6 rfl ?_
  refine aw_aload_n (i := 0) rfl d_X12_payOf_11 0 rfl ?_
  refine aw_geti (k0 := 63) kc_12 (ws_1 w) (Nat.le_of_ble_eq_true rfl) tw_1805 d_X12_payOf_12 rfl ?_
  refine aw_icmp_ge (tgt := 119) d_X12_payOf_15 rfl (fun c1 => ?_) (fun c1 => ?_)
  · have k := k.1 c1
    refine aw_iconst (v := 0) d_X12_payOf_119 ic_0 ?_
    refine aw_istore [(0, .ref 1), (1, .int x1), (2, .int x2), (3, .int x3), (4, .int x4), (5, .int x5), (6, .int 0)] d_X12_payOf_120 (Nat.le_of_ble_eq_true rfl) rfl rfl ?_
    refine aw_iconst (v := 0) d_X12_payOf_122 ic_0 ?_
    refine aw_istore [(0, .ref 1), (1, .int x1), (2, .int x2), (3, .int x3), (4, .int x4), (5, .int x5), (6, .int 0), (7, .int 0)] d_X12_payOf_123 (Nat.le_of_ble_eq_true rfl) rfl rfl ?_
    refine aw_iconst (v := 0) d_X12_payOf_125 ic_0 ?_
    refine aw_istore [(0, .ref 1), (1, .int x1), (2, .int x2), (3, .int x3), (4, .int x4), (5, .int x5), (6, .int 0), (7, .int 0), (8, .int 0)] d_X12_payOf_126 (Nat.le_of_ble_eq_true rfl) rfl rfl ?_
    exact k
  · have k := k.2 c1
    refine aw_aload_n (i := 0) rfl d_X12_payOf_18 0 rfl ?_
    refine aw_getr (k0 := 53) kc_12 (ws_1 w) (Nat.le_of_ble_eq_true rfl) tw_1795 d_X12_payOf_19 rfl (wr_1_53 w) ?_
    refine aw_iload d_X12_payOf_22 6 rfl ?_
    obtain ⟨b2, k⟩ := k
    refine aw_iald (ws_238 w) b2 d_X12_payOf_24 ?_
    refine aw_iload_n (i := 1) rfl d_X12_payOf_25 1 rfl ?_
    refine aw_icmp_ne (tgt := 113) d_X12_payOf_26 rfl (fun c3 => ?_) (fun c3 => ?_)
    · have k := k.1 c3
      refine aw_iinc (v := (x6 + 1)) [(0, .ref 1), (1, .int x1), (2, .int x2), (3, .int x3), (4, .int x4), (5, .int x5), (6, .int (x6 + 1))] d_X12_payOf_113 6 rfl rfl (Nat.le_of_ble_eq_true rfl) rfl rfl ?_
      refine aw_goto (tgt := 9) d_X12_payOf_116 rfl ?_
      exact k
    · have k := k.2 c3
      refine aw_aload_n (i := 0) rfl d_X12_payOf_29 0 rfl ?_
      refine aw_getr (k0 := 55) kc_12 (ws_1 w) (Nat.le_of_ble_eq_true rfl) tw_1797 d_X12_payOf_30 rfl (wr_1_55 w) ?_
      refine aw_iload d_X12_payOf_33 6 rfl ?_
      obtain ⟨b4, k⟩ := k
      refine aw_iald (ws_240 w) b4 d_X12_payOf_35 ?_
      refine aw_sipush (v := 1440) d_X12_payOf_36 is_1440 ?_
      refine aw_idiv d_X12_payOf_39 (by decide) ?_
      refine aw_iload_n (i := 2) rfl d_X12_payOf_40 2 rfl ?_
      refine aw_icmp_eq (tgt := 47) d_X12_payOf_41 rfl (fun c5 => ?_) (fun c5 => ?_)
      · have k := k.1 c5
        refine aw_aload_n (i := 0) rfl d_X12_payOf_47 0 rfl ?_
        refine aw_iload d_X12_payOf_48 6 rfl ?_
        refine aw_iload_n (i := 3) rfl d_X12_payOf_50 3 rfl ?_
        refine aw_Vi 1 [.int x6, .int x3] [] d_X12_payOf_51 (cV_X12_stateOf (d + 0) 0 0) kc_12 (ws_1 w) tw_2316 rfl (rr0 (Nat.le_of_ble_eq_true rfl) (Nat.le_of_ble_eq_true rfl)) (Nat.le_of_ble_eq_true rfl) xs0 k (fun r8 h6 kk => ?_)
        obtain ⟨w7, k⟩ := kk
        refine aw_istore [(0, .ref 1), (1, .int x1), (2, .int x2), (3, .int x3), (4, .int x4), (5, .int x5), (6, .int x6), (7, .int r8)] d_X12_payOf_54 (Nat.le_of_ble_eq_true rfl) rfl rfl ?_
        refine aw_iload d_X12_payOf_56 7 rfl ?_
        refine aw_iconst (v := 2) d_X12_payOf_58 ic_2 ?_
        refine aw_icmp_ne (tgt := 72) d_X12_payOf_59 rfl (fun c9 => ?_) (fun c9 => ?_)
        · have k := k.1 c9
          refine aw_iconst (v := 0) d_X12_payOf_72 ic_0 ?_
          refine aw_istore [(0, .ref 1), (1, .int x1), (2, .int x2), (3, .int x3), (4, .int x4), (5, .int x5), (6, .int x6), (7, .int r8), (8, .int 0)] d_X12_payOf_73 (Nat.le_of_ble_eq_true rfl) rfl rfl ?_
          refine aw_iload d_X12_payOf_75 4 rfl ?_
          refine aw_iload d_X12_payOf_77 7 rfl ?_
          refine aw_iconst (v := 1) d_X12_payOf_79 ic_1 ?_
          refine aw_icmp_ne (tgt := 87) d_X12_payOf_80 rfl (fun c10 => ?_) (fun c10 => ?_)
          · have k := k.1 c10
            refine aw_iconst (v := 0) d_X12_payOf_87 ic_0 ?_
            refine aw_iadd d_X12_payOf_88 ?_
            refine aw_istore [(0, .ref 1), (1, .int x1), (2, .int x2), (3, .int x3), (4, .int (x4 + 0)), (5, .int x5), (6, .int x6), (7, .int r8), (8, .int 0)] d_X12_payOf_89 (Nat.le_of_ble_eq_true rfl) rfl rfl ?_
            refine aw_iload d_X12_payOf_91 5 rfl ?_
            refine aw_iload d_X12_payOf_93 8 rfl ?_
            refine aw_iconst (v := 1) d_X12_payOf_95 ic_1 ?_
            refine aw_icmp_eq (tgt := 105) d_X12_payOf_96 rfl (fun c => absurd c (by decide)) (fun _ => ?_)
            refine aw_iload d_X12_payOf_99 8 rfl ?_
            refine aw_iconst (v := 5) d_X12_payOf_101 ic_5 ?_
            refine aw_icmp_lt (tgt := 109) d_X12_payOf_102 rfl (fun _ => ?_) (fun c => absurd c (by decide))
            refine aw_iconst (v := 0) d_X12_payOf_109 ic_0 ?_
            refine aw_iadd d_X12_payOf_110 ?_
            refine aw_istore [(0, .ref 1), (1, .int x1), (2, .int x2), (3, .int x3), (4, .int (x4 + 0)), (5, .int (x5 + 0)), (6, .int x6), (7, .int r8), (8, .int 0)] d_X12_payOf_111 (Nat.le_of_ble_eq_true rfl) rfl rfl ?_
            refine aw_iinc (v := (x6 + 1)) [(0, .ref 1), (1, .int x1), (2, .int x2), (3, .int x3), (4, .int (x4 + 0)), (5, .int (x5 + 0)), (6, .int (x6 + 1)), (7, .int r8), (8, .int 0)] d_X12_payOf_113 6 rfl rfl (Nat.le_of_ble_eq_true rfl) rfl rfl ?_
            refine aw_goto (tgt := 9) d_X12_payOf_116 rfl ?_
            exact aw_lvp [0, 1, 2, 3, 4, 5, 6] [(0, .ref 1), (1, .int x1), (2, .int x2), (3, .int x3), (4, .int (x4 + 0)), (5, .int (x5 + 0)), (6, .int (x6 + 1))] rfl k
          · have k := k.2 c10
            refine aw_iconst (v := 1) d_X12_payOf_83 ic_1 ?_
            refine aw_goto (tgt := 88) d_X12_payOf_84 rfl ?_
            refine aw_iadd d_X12_payOf_88 ?_
            refine aw_istore [(0, .ref 1), (1, .int x1), (2, .int x2), (3, .int x3), (4, .int (x4 + 1)), (5, .int x5), (6, .int x6), (7, .int r8), (8, .int 0)] d_X12_payOf_89 (Nat.le_of_ble_eq_true rfl) rfl rfl ?_
            refine aw_iload d_X12_payOf_91 5 rfl ?_
            refine aw_iload d_X12_payOf_93 8 rfl ?_
            refine aw_iconst (v := 1) d_X12_payOf_95 ic_1 ?_
            refine aw_icmp_eq (tgt := 105) d_X12_payOf_96 rfl (fun c => absurd c (by decide)) (fun _ => ?_)
            refine aw_iload d_X12_payOf_99 8 rfl ?_
            refine aw_iconst (v := 5) d_X12_payOf_101 ic_5 ?_
            refine aw_icmp_lt (tgt := 109) d_X12_payOf_102 rfl (fun _ => ?_) (fun c => absurd c (by decide))
            refine aw_iconst (v := 0) d_X12_payOf_109 ic_0 ?_
            refine aw_iadd d_X12_payOf_110 ?_
            refine aw_istore [(0, .ref 1), (1, .int x1), (2, .int x2), (3, .int x3), (4, .int (x4 + 1)), (5, .int (x5 + 0)), (6, .int x6), (7, .int r8), (8, .int 0)] d_X12_payOf_111 (Nat.le_of_ble_eq_true rfl) rfl rfl ?_
            refine aw_iinc (v := (x6 + 1)) [(0, .ref 1), (1, .int x1), (2, .int x2), (3, .int x3), (4, .int (x4 + 1)), (5, .int (x5 + 0)), (6, .int (x6 + 1)), (7, .int r8), (8, .int 0)] d_X12_payOf_113 6 rfl rfl (Nat.le_of_ble_eq_true rfl) rfl rfl ?_
            refine aw_goto (tgt := 9) d_X12_payOf_116 rfl ?_
            exact aw_lvp [0, 1, 2, 3, 4, 5, 6] [(0, .ref 1), (1, .int x1), (2, .int x2), (3, .int x3), (4, .int (x4 + 1)), (5, .int (x5 + 0)), (6, .int (x6 + 1))] rfl k
        · have k := k.2 c9
          refine aw_aload_n (i := 0) rfl d_X12_payOf_62 0 rfl ?_
          refine aw_iload d_X12_payOf_63 6 rfl ?_
          refine aw_iload_n (i := 3) rfl d_X12_payOf_65 3 rfl ?_
          refine aw_Vi 1 [.int x6, .int x3] [] d_X12_payOf_66 (cV_X12_causeOf (d + 0) 0 0) kc_12 (ws_1 w7) tw_2320 rfl (rr0 (Nat.le_of_ble_eq_true rfl) (Nat.le_of_ble_eq_true rfl)) (Nat.le_of_ble_eq_true rfl) xs0 k (fun r17 h15 kk => ?_)
          obtain ⟨w16, k⟩ := kk
          refine aw_goto (tgt := 73) d_X12_payOf_69 rfl ?_
          refine aw_istore [(0, .ref 1), (1, .int x1), (2, .int x2), (3, .int x3), (4, .int x4), (5, .int x5), (6, .int x6), (7, .int r8), (8, .int r17)] d_X12_payOf_73 (Nat.le_of_ble_eq_true rfl) rfl rfl ?_
          refine aw_iload d_X12_payOf_75 4 rfl ?_
          refine aw_iload d_X12_payOf_77 7 rfl ?_
          refine aw_iconst (v := 1) d_X12_payOf_79 ic_1 ?_
          refine aw_icmp_ne (tgt := 87) d_X12_payOf_80 rfl (fun c18 => ?_) (fun c18 => ?_)
          · have k := k.1 c18
            refine aw_iconst (v := 0) d_X12_payOf_87 ic_0 ?_
            refine aw_iadd d_X12_payOf_88 ?_
            refine aw_istore [(0, .ref 1), (1, .int x1), (2, .int x2), (3, .int x3), (4, .int (x4 + 0)), (5, .int x5), (6, .int x6), (7, .int r8), (8, .int r17)] d_X12_payOf_89 (Nat.le_of_ble_eq_true rfl) rfl rfl ?_
            refine aw_iload d_X12_payOf_91 5 rfl ?_
            refine aw_iload d_X12_payOf_93 8 rfl ?_
            refine aw_iconst (v := 1) d_X12_payOf_95 ic_1 ?_
            refine aw_icmp_eq (tgt := 105) d_X12_payOf_96 rfl (fun c19 => ?_) (fun c19 => ?_)
            · have k := k.1 c19
              refine aw_iconst (v := 1) d_X12_payOf_105 ic_1 ?_
              refine aw_goto (tgt := 110) d_X12_payOf_106 rfl ?_
              refine aw_iadd d_X12_payOf_110 ?_
              refine aw_istore [(0, .ref 1), (1, .int x1), (2, .int x2), (3, .int x3), (4, .int (x4 + 0)), (5, .int (x5 + 1)), (6, .int x6), (7, .int r8), (8, .int r17)] d_X12_payOf_111 (Nat.le_of_ble_eq_true rfl) rfl rfl ?_
              refine aw_iinc (v := (x6 + 1)) [(0, .ref 1), (1, .int x1), (2, .int x2), (3, .int x3), (4, .int (x4 + 0)), (5, .int (x5 + 1)), (6, .int (x6 + 1)), (7, .int r8), (8, .int r17)] d_X12_payOf_113 6 rfl rfl (Nat.le_of_ble_eq_true rfl) rfl rfl ?_
              refine aw_goto (tgt := 9) d_X12_payOf_116 rfl ?_
              exact aw_lvp [0, 1, 2, 3, 4, 5, 6] [(0, .ref 1), (1, .int x1), (2, .int x2), (3, .int x3), (4, .int (x4 + 0)), (5, .int (x5 + 1)), (6, .int (x6 + 1))] rfl k
            · have k := k.2 c19
              refine aw_iload d_X12_payOf_99 8 rfl ?_
              refine aw_iconst (v := 5) d_X12_payOf_101 ic_5 ?_
              refine aw_icmp_lt (tgt := 109) d_X12_payOf_102 rfl (fun c20 => ?_) (fun c20 => ?_)
              · have k := k.1 c20
                refine aw_iconst (v := 0) d_X12_payOf_109 ic_0 ?_
                refine aw_iadd d_X12_payOf_110 ?_
                refine aw_istore [(0, .ref 1), (1, .int x1), (2, .int x2), (3, .int x3), (4, .int (x4 + 0)), (5, .int (x5 + 0)), (6, .int x6), (7, .int r8), (8, .int r17)] d_X12_payOf_111 (Nat.le_of_ble_eq_true rfl) rfl rfl ?_
                refine aw_iinc (v := (x6 + 1)) [(0, .ref 1), (1, .int x1), (2, .int x2), (3, .int x3), (4, .int (x4 + 0)), (5, .int (x5 + 0)), (6, .int (x6 + 1)), (7, .int r8), (8, .int r17)] d_X12_payOf_113 6 rfl rfl (Nat.le_of_ble_eq_true rfl) rfl rfl ?_
                refine aw_goto (tgt := 9) d_X12_payOf_116 rfl ?_
                exact aw_lvp [0, 1, 2, 3, 4, 5, 6] [(0, .ref 1), (1, .int x1), (2, .int x2), (3, .int x3), (4, .int (x4 + 0)), (5, .int (x5 + 0)), (6, .int (x6 + 1))] rfl k
              · have k := k.2 c20
                refine aw_iconst (v := 1) d_X12_payOf_105 ic_1 ?_
                refine aw_goto (tgt := 110) d_X12_payOf_106 rfl ?_
                refine aw_iadd d_X12_payOf_110 ?_
                refine aw_istore [(0, .ref 1), (1, .int x1), (2, .int x2), (3, .int x3), (4, .int (x4 + 0)), (5, .int (x5 + 1)), (6, .int x6), (7, .int r8), (8, .int r17)] d_X12_payOf_111 (Nat.le_of_ble_eq_true rfl) rfl rfl ?_
                refine aw_iinc (v := (x6 + 1)) [(0, .ref 1), (1, .int x1), (2, .int x2), (3, .int x3), (4, .int (x4 + 0)), (5, .int (x5 + 1)), (6, .int (x6 + 1)), (7, .int r8), (8, .int r17)] d_X12_payOf_113 6 rfl rfl (Nat.le_of_ble_eq_true rfl) rfl rfl ?_
                refine aw_goto (tgt := 9) d_X12_payOf_116 rfl ?_
                exact aw_lvp [0, 1, 2, 3, 4, 5, 6] [(0, .ref 1), (1, .int x1), (2, .int x2), (3, .int x3), (4, .int (x4 + 0)), (5, .int (x5 + 1)), (6, .int (x6 + 1))] rfl k
          · have k := k.2 c18
            refine aw_iconst (v := 1) d_X12_payOf_83 ic_1 ?_
            refine aw_goto (tgt := 88) d_X12_payOf_84 rfl ?_
            refine aw_iadd d_X12_payOf_88 ?_
            refine aw_istore [(0, .ref 1), (1, .int x1), (2, .int x2), (3, .int x3), (4, .int (x4 + 1)), (5, .int x5), (6, .int x6), (7, .int r8), (8, .int r17)] d_X12_payOf_89 (Nat.le_of_ble_eq_true rfl) rfl rfl ?_
            refine aw_iload d_X12_payOf_91 5 rfl ?_
            refine aw_iload d_X12_payOf_93 8 rfl ?_
            refine aw_iconst (v := 1) d_X12_payOf_95 ic_1 ?_
            refine aw_icmp_eq (tgt := 105) d_X12_payOf_96 rfl (fun c21 => ?_) (fun c21 => ?_)
            · have k := k.1 c21
              refine aw_iconst (v := 1) d_X12_payOf_105 ic_1 ?_
              refine aw_goto (tgt := 110) d_X12_payOf_106 rfl ?_
              refine aw_iadd d_X12_payOf_110 ?_
              refine aw_istore [(0, .ref 1), (1, .int x1), (2, .int x2), (3, .int x3), (4, .int (x4 + 1)), (5, .int (x5 + 1)), (6, .int x6), (7, .int r8), (8, .int r17)] d_X12_payOf_111 (Nat.le_of_ble_eq_true rfl) rfl rfl ?_
              refine aw_iinc (v := (x6 + 1)) [(0, .ref 1), (1, .int x1), (2, .int x2), (3, .int x3), (4, .int (x4 + 1)), (5, .int (x5 + 1)), (6, .int (x6 + 1)), (7, .int r8), (8, .int r17)] d_X12_payOf_113 6 rfl rfl (Nat.le_of_ble_eq_true rfl) rfl rfl ?_
              refine aw_goto (tgt := 9) d_X12_payOf_116 rfl ?_
              exact aw_lvp [0, 1, 2, 3, 4, 5, 6] [(0, .ref 1), (1, .int x1), (2, .int x2), (3, .int x3), (4, .int (x4 + 1)), (5, .int (x5 + 1)), (6, .int (x6 + 1))] rfl k
            · have k := k.2 c21
              refine aw_iload d_X12_payOf_99 8 rfl ?_
              refine aw_iconst (v := 5) d_X12_payOf_101 ic_5 ?_
              refine aw_icmp_lt (tgt := 109) d_X12_payOf_102 rfl (fun c22 => ?_) (fun c22 => ?_)
              · have k := k.1 c22
                refine aw_iconst (v := 0) d_X12_payOf_109 ic_0 ?_
                refine aw_iadd d_X12_payOf_110 ?_
                refine aw_istore [(0, .ref 1), (1, .int x1), (2, .int x2), (3, .int x3), (4, .int (x4 + 1)), (5, .int (x5 + 0)), (6, .int x6), (7, .int r8), (8, .int r17)] d_X12_payOf_111 (Nat.le_of_ble_eq_true rfl) rfl rfl ?_
                refine aw_iinc (v := (x6 + 1)) [(0, .ref 1), (1, .int x1), (2, .int x2), (3, .int x3), (4, .int (x4 + 1)), (5, .int (x5 + 0)), (6, .int (x6 + 1)), (7, .int r8), (8, .int r17)] d_X12_payOf_113 6 rfl rfl (Nat.le_of_ble_eq_true rfl) rfl rfl ?_
                refine aw_goto (tgt := 9) d_X12_payOf_116 rfl ?_
                exact aw_lvp [0, 1, 2, 3, 4, 5, 6] [(0, .ref 1), (1, .int x1), (2, .int x2), (3, .int x3), (4, .int (x4 + 1)), (5, .int (x5 + 0)), (6, .int (x6 + 1))] rfl k
              · have k := k.2 c22
                refine aw_iconst (v := 1) d_X12_payOf_105 ic_1 ?_
                refine aw_goto (tgt := 110) d_X12_payOf_106 rfl ?_
                refine aw_iadd d_X12_payOf_110 ?_
                refine aw_istore [(0, .ref 1), (1, .int x1), (2, .int x2), (3, .int x3), (4, .int (x4 + 1)), (5, .int (x5 + 1)), (6, .int x6), (7, .int r8), (8, .int r17)] d_X12_payOf_111 (Nat.le_of_ble_eq_true rfl) rfl rfl ?_
                refine aw_iinc (v := (x6 + 1)) [(0, .ref 1), (1, .int x1), (2, .int x2), (3, .int x3), (4, .int (x4 + 1)), (5, .int (x5 + 1)), (6, .int (x6 + 1)), (7, .int r8), (8, .int r17)] d_X12_payOf_113 6 rfl rfl (Nat.le_of_ble_eq_true rfl) rfl rfl ?_
                refine aw_goto (tgt := 9) d_X12_payOf_116 rfl ?_
                exact aw_lvp [0, 1, 2, 3, 4, 5, 6] [(0, .ref 1), (1, .int x1), (2, .int x2), (3, .int x3), (4, .int (x4 + 1)), (5, .int (x5 + 1)), (6, .int (x6 + 1))] rfl k
      · have k := k.2 c5
        refine aw_goto (tgt := 113) d_X12_payOf_44 rfl ?_
        refine aw_iinc (v := (x6 + 1)) [(0, .ref 1), (1, .int x1), (2, .int x2), (3, .int x3), (4, .int x4), (5, .int x5), (6, .int (x6 + 1))] d_X12_payOf_113 6 rfl rfl (Nat.le_of_ble_eq_true rfl) rfl rfl ?_
        refine aw_goto (tgt := 9) d_X12_payOf_116 rfl ?_
        exact k
theorem t_X12_payOf_128 (d : Nat) (h : Hp_) (w : Wf h) (x1 : Int32) (x2 : Int32) (x3 : Int32) (x4 : Int32) (x5 : Int32) (x6 : Int32) (x7 : Int32) (x8 : Int32) (K : Int32 → Hp_ → Prop) (k : ((h_i h 1 80) ≤ x8 → Ci (m_X12_rankOn (d + 0) 0 0) [.ref 1, .int x1, .int x2, .int x3] h (fun r26 h24 => Wf h24 ∧ (vp_in 99 128 ∧ (vp_in x1 12 ∧ (vp_in 121 128 ∧ (vp_in 109 128 ∧ (vp_in 120 128 ∧ (vp_in 116 128 ∧ (vp_in 97 128 ∧ (Ci (m_X12_forceOf (d + 0) 0 0) [.ref 1, .int 1, .int x2, .int x3] (h_im (h_im (h_im (h_im (h_im (h_im h24 236 (99 : Int32).toNatClampNeg r26) 236 (121 : Int32).toNatClampNeg (h_i h24 205 x1.toNatClampNeg)) 236 (109 : Int32).toNatClampNeg x4) 236 (120 : Int32).toNatClampNeg x5) 236 (116 : Int32).toNatClampNeg x6) 236 (97 : Int32).toNatClampNeg x7) (fun r36 h34 => Wf h34 ∧ (Ci (m_X12_tell (d + 4) 0 0) [.ref 1, .int 1, .int r36] h34 (fun r39 h37 => Wf h37 ∧ (K (if 0 < (if r39 < 10000 then r39 else 10000) then (if r39 < 10000 then r39 else 10000) else 0) h37)))))))))))))) ∧ (¬ (h_i h 1 80) ≤ x8 → vp_in x8 300 ∧ ((¬ (h_i h 255 x8.toNatClampNeg) = x1 → AW (m_X12_payOf (d + 7) 0 0) 0 0 128 [(0, .ref 1), (1, .int x1), (2, .int x2), (3, .int x3), (4, .int x4), (5, .int x5), (6, .int x6), (7, .int x7), (8, .int (x8 + 1))] [] h (kI K)) ∧ ((h_i h 255 x8.toNatClampNeg) = x1 → vp_in x8 300 ∧ ((¬ ((h_i h 257 x8.toNatClampNeg) / 1440) = x2 → AW (m_X12_payOf (d + 7) 0 0) 0 0 128 [(0, .ref 1), (1, .int x1), (2, .int x2), (3, .int x3), (4, .int x4), (5, .int x5), (6, .int x6), (7, .int x7), (8, .int (x8 + 1))] [] h (kI K)) ∧ (((h_i h 257 x8.toNatClampNeg) / 1440) = x2 → vp_in x8 300 ∧ ((¬ (h_i h 258 x8.toNatClampNeg) = 3 → AW (m_X12_payOf (d + 7) 0 0) 0 0 128 [(0, .ref 1), (1, .int x1), (2, .int x2), (3, .int x3), (4, .int x4), (5, .int x5), (6, .int x6), (7, .int x7), (8, .int (x8 + 1))] [] h (kI K)) ∧ ((h_i h 258 x8.toNatClampNeg) = 3 → Ci (m_X12_lets (d + 6) 0 0) [.ref 1, .int x8, .int x3] h (fun r48 h46 => Wf h46 ∧ ((¬ r48 = 3 → AW (m_X12_payOf (d + 7) 0 0) 0 0 128 [(0, .ref 1), (1, .int x1), (2, .int x2), (3, .int x3), (4, .int x4), (5, .int x5), (6, .int (x6 + 0)), (7, .int (x7 + 1)), (8, .int (x8 + 1))] [] h46 (kI K)) ∧ (r48 = 3 → AW (m_X12_payOf (d + 7) 0 0) 0 0 128 [(0, .ref 1), (1, .int x1), (2, .int x2), (3, .int x3), (4, .int x4), (5, .int x5), (6, .int (x6 + 1)), (7, .int (x7 + 0)), (8, .int (x8 + 1))] [] h46 (kI K)))))))))))) : AW (m_X12_payOf (d + 7) 0 0) 0 0 128 [(0, .ref 1), (1, .int x1), (2, .int x2), (3, .int x3), (4, .int x4), (5, .int x5), (6, .int x6), (7, .int x7), (8, .int x8)] [] h (kI K) := by
  refine aw_iload d_X12_payOf_128 8 rfl ?_
  refine aw_aload_n (i := 0) rfl d_X12_payOf_130 0 rfl ?_
  refine aw_geti (k0 := 80) kc_12 (ws_1 w) (Nat.le_of_ble_eq_true rfl) tw_1822 d_X12_payOf_131 rfl ?_
  refine aw_icmp_ge (tgt := 228) d_X12_payOf_134 rfl (fun c23 => ?_) (fun c23 => ?_)
  · have k := k.1 c23
    refine aw_aload_n (i := 0) rfl d_X12_payOf_228 0 rfl ?_
    refine aw_getr (k0 := 50) kc_12 (ws_1 w) (Nat.le_of_ble_eq_true rfl) tw_1792 d_X12_payOf_229 rfl (wr_1_50 w) ?_
    refine aw_bipush (v := 99) d_X12_payOf_232 ib_99 ?_
    refine aw_aload_n (i := 0) rfl d_X12_payOf_234 0 rfl ?_
    refine aw_iload_n (i := 1) rfl d_X12_payOf_235 1 rfl ?_
    refine aw_iload_n (i := 2) rfl d_X12_payOf_236 2 rfl ?_
    refine aw_iload_n (i := 3) rfl d_X12_payOf_237 3 rfl ?_
    refine aw_Vi 1 [.int x1, .int x2, .int x3] [.int 99, .ref 236] d_X12_payOf_238 (cV_X12_rankOn (d + 0) 0 0) kc_12 (ws_1 w) tw_2175 rfl (rr0 (Nat.le_of_ble_eq_true rfl) (Nat.le_of_ble_eq_true rfl)) (Nat.le_of_ble_eq_true rfl) xs0 k (fun r26 h24 kk => ?_)
    obtain ⟨w25, k⟩ := kk
    obtain ⟨b27, k⟩ := k
    refine aw_iast (ws_236 w25) b27 d_X12_payOf_241 ?_
    refine aw_aload_n (i := 0) rfl d_X12_payOf_242 0 rfl ?_
    refine aw_getr (k0 := 50) kc_12 (ws_1 w25) (Nat.le_of_ble_eq_true rfl) tw_1792 d_X12_payOf_243 rfl (wr_1_50 w25) ?_
    refine aw_bipush (v := 121) d_X12_payOf_246 ib_121 ?_
    refine aw_aload_n (i := 0) rfl d_X12_payOf_248 0 rfl ?_
    refine aw_getr (k0 := 9) kc_12 (ws_1 w25) (Nat.le_of_ble_eq_true rfl) tw_1751 d_X12_payOf_249 rfl (wr_1_9 w25) ?_
    refine aw_iload_n (i := 1) rfl d_X12_payOf_252 1 rfl ?_
    obtain ⟨b28, k⟩ := k
    refine aw_iald (ws_205 w25) b28 d_X12_payOf_253 ?_
    refine aw_vi (v2 := (h_i h24 205 x1.toNatClampNeg)) (rfl) ?_
    obtain ⟨b29, k⟩ := k
    refine aw_iast (ws_236 w25) b29 d_X12_payOf_254 ?_
    refine aw_aload_n (i := 0) rfl d_X12_payOf_255 0 rfl ?_
    refine aw_getr (k0 := 50) kc_12 (ws_1 w25) (Nat.le_of_ble_eq_true rfl) tw_1792 d_X12_payOf_256 rfl (wr_1_50 w25) ?_
    refine aw_bipush (v := 109) d_X12_payOf_259 ib_109 ?_
    refine aw_iload d_X12_payOf_261 4 rfl ?_
    obtain ⟨b30, k⟩ := k
    refine aw_iast (ws_236 w25) b30 d_X12_payOf_263 ?_
    refine aw_aload_n (i := 0) rfl d_X12_payOf_264 0 rfl ?_
    refine aw_getr (k0 := 50) kc_12 (ws_1 w25) (Nat.le_of_ble_eq_true rfl) tw_1792 d_X12_payOf_265 rfl (wr_1_50 w25) ?_
    refine aw_bipush (v := 120) d_X12_payOf_268 ib_120 ?_
    refine aw_iload d_X12_payOf_270 5 rfl ?_
    obtain ⟨b31, k⟩ := k
    refine aw_iast (ws_236 w25) b31 d_X12_payOf_272 ?_
    refine aw_aload_n (i := 0) rfl d_X12_payOf_273 0 rfl ?_
    refine aw_getr (k0 := 50) kc_12 (ws_1 w25) (Nat.le_of_ble_eq_true rfl) tw_1792 d_X12_payOf_274 rfl (wr_1_50 w25) ?_
    refine aw_bipush (v := 116) d_X12_payOf_277 ib_116 ?_
    refine aw_iload d_X12_payOf_279 6 rfl ?_
    obtain ⟨b32, k⟩ := k
    refine aw_iast (ws_236 w25) b32 d_X12_payOf_281 ?_
    refine aw_aload_n (i := 0) rfl d_X12_payOf_282 0 rfl ?_
    refine aw_getr (k0 := 50) kc_12 (ws_1 w25) (Nat.le_of_ble_eq_true rfl) tw_1792 d_X12_payOf_283 rfl (wr_1_50 w25) ?_
    refine aw_bipush (v := 97) d_X12_payOf_286 ib_97 ?_
    refine aw_iload d_X12_payOf_288 7 rfl ?_
    obtain ⟨b33, k⟩ := k
    refine aw_iast (ws_236 w25) b33 d_X12_payOf_290 ?_
    refine aw_iconst (v := 0) d_X12_payOf_291 ic_0 ?_
    refine aw_sipush (v := 10000) d_X12_payOf_292 is_10000 ?_
    refine aw_aload_n (i := 0) rfl d_X12_payOf_295 0 rfl ?_
    refine aw_iconst (v := 1) d_X12_payOf_296 ic_1 ?_
    refine aw_aload_n (i := 0) rfl d_X12_payOf_297 0 rfl ?_
    refine aw_iconst (v := 1) d_X12_payOf_298 ic_1 ?_
    refine aw_iload_n (i := 2) rfl d_X12_payOf_299 2 rfl ?_
    refine aw_iload_n (i := 3) rfl d_X12_payOf_300 3 rfl ?_
    refine aw_Vi 1 [.int 1, .int x2, .int x3] [.int 1, .ref 1, .int 10000, .int 0] d_X12_payOf_301 (cV_X12_forceOf (d + 0) 0 0) kc_12 (ws_1 w25) tw_2308 rfl (rr0 (Nat.le_of_ble_eq_true rfl) (Nat.le_of_ble_eq_true rfl)) (Nat.le_of_ble_eq_true rfl) xs0 k (fun r36 h34 kk => ?_)
    obtain ⟨w35, k⟩ := kk
    refine aw_Vi 1 [.int 1, .int r36] [.int 10000, .int 0] d_X12_payOf_304 (cV_X12_tell (d + 4) 0 0) kc_12 (ws_1 w35) tw_2424 rfl (rr0 (Nat.le_of_ble_eq_true rfl) (Nat.le_of_ble_eq_true rfl)) (Nat.le_of_ble_eq_true rfl) xs0 k (fun r39 h37 kk => ?_)
    obtain ⟨w38, k⟩ := kk
    refine aw_mmin d_X12_payOf_307 tw_2552 (show 1 ≤ (d + 7) by omega) (Nat.le_trans (Nat.le_of_ble_eq_true rfl) (show 100 ≤ 100 * (d + 7) by omega)) ⟨Nat.le_refl _, Nat.le_refl _⟩ ?_
    refine aw_mmax d_X12_payOf_310 tw_2470 (show 1 ≤ (d + 7) by omega) (Nat.le_trans (Nat.le_of_ble_eq_true rfl) (show 100 ≤ 100 * (d + 7) by omega)) ⟨Nat.le_refl _, Nat.le_refl _⟩ ?_
    exact aw_iret rfl d_X12_payOf_313 ⟨Nat.le_refl _, Nat.le_refl _⟩ ⟨_, rfl, k⟩
  · have k := k.2 c23
    refine aw_aload_n (i := 0) rfl d_X12_payOf_137 0 rfl ?_
    refine aw_getr (k0 := 72) kc_12 (ws_1 w) (Nat.le_of_ble_eq_true rfl) tw_1814 d_X12_payOf_138 rfl (wr_1_72 w) ?_
    refine aw_iload d_X12_payOf_141 8 rfl ?_
    obtain ⟨b40, k⟩ := k
    refine aw_iald (ws_255 w) b40 d_X12_payOf_143 ?_
    refine aw_iload_n (i := 1) rfl d_X12_payOf_144 1 rfl ?_
    refine aw_icmp_ne (tgt := 222) d_X12_payOf_145 rfl (fun c41 => ?_) (fun c41 => ?_)
    · have k := k.1 c41
      refine aw_iinc (v := (x8 + 1)) [(0, .ref 1), (1, .int x1), (2, .int x2), (3, .int x3), (4, .int x4), (5, .int x5), (6, .int x6), (7, .int x7), (8, .int (x8 + 1))] d_X12_payOf_222 8 rfl rfl (Nat.le_of_ble_eq_true rfl) rfl rfl ?_
      refine aw_goto (tgt := 128) d_X12_payOf_225 rfl ?_
      exact k
    · have k := k.2 c41
      refine aw_aload_n (i := 0) rfl d_X12_payOf_148 0 rfl ?_
      refine aw_getr (k0 := 74) kc_12 (ws_1 w) (Nat.le_of_ble_eq_true rfl) tw_1816 d_X12_payOf_149 rfl (wr_1_74 w) ?_
      refine aw_iload d_X12_payOf_152 8 rfl ?_
      obtain ⟨b42, k⟩ := k
      refine aw_iald (ws_257 w) b42 d_X12_payOf_154 ?_
      refine aw_sipush (v := 1440) d_X12_payOf_155 is_1440 ?_
      refine aw_idiv d_X12_payOf_158 (by decide) ?_
      refine aw_iload_n (i := 2) rfl d_X12_payOf_159 2 rfl ?_
      refine aw_icmp_ne (tgt := 222) d_X12_payOf_160 rfl (fun c43 => ?_) (fun c43 => ?_)
      · have k := k.1 c43
        refine aw_iinc (v := (x8 + 1)) [(0, .ref 1), (1, .int x1), (2, .int x2), (3, .int x3), (4, .int x4), (5, .int x5), (6, .int x6), (7, .int x7), (8, .int (x8 + 1))] d_X12_payOf_222 8 rfl rfl (Nat.le_of_ble_eq_true rfl) rfl rfl ?_
        refine aw_goto (tgt := 128) d_X12_payOf_225 rfl ?_
        exact k
      · have k := k.2 c43
        refine aw_aload_n (i := 0) rfl d_X12_payOf_163 0 rfl ?_
        refine aw_getr (k0 := 75) kc_12 (ws_1 w) (Nat.le_of_ble_eq_true rfl) tw_1817 d_X12_payOf_164 rfl (wr_1_75 w) ?_
        refine aw_iload d_X12_payOf_167 8 rfl ?_
        obtain ⟨b44, k⟩ := k
        refine aw_iald (ws_258 w) b44 d_X12_payOf_169 ?_
        refine aw_iconst (v := 3) d_X12_payOf_170 ic_3 ?_
        refine aw_icmp_ne (tgt := 222) d_X12_payOf_171 rfl (fun c45 => ?_) (fun c45 => ?_)
        · have k := k.1 c45
          refine aw_iinc (v := (x8 + 1)) [(0, .ref 1), (1, .int x1), (2, .int x2), (3, .int x3), (4, .int x4), (5, .int x5), (6, .int x6), (7, .int x7), (8, .int (x8 + 1))] d_X12_payOf_222 8 rfl rfl (Nat.le_of_ble_eq_true rfl) rfl rfl ?_
          refine aw_goto (tgt := 128) d_X12_payOf_225 rfl ?_
          exact k
        · have k := k.2 c45
          refine aw_aload_n (i := 0) rfl d_X12_payOf_174 0 rfl ?_
          refine aw_iload d_X12_payOf_175 8 rfl ?_
          refine aw_iload_n (i := 3) rfl d_X12_payOf_177 3 rfl ?_
          refine aw_Vi 1 [.int x8, .int x3] [] d_X12_payOf_178 (cV_X12_lets (d + 6) 0 0) kc_12 (ws_1 w) tw_2396 rfl (rr0 (Nat.le_of_ble_eq_true rfl) (Nat.le_of_ble_eq_true rfl)) (Nat.le_of_ble_eq_true rfl) xs0 k (fun r48 h46 kk => ?_)
          obtain ⟨w47, k⟩ := kk
          refine aw_iconst (v := 3) d_X12_payOf_181 ic_3 ?_
          refine aw_icmp_ne (tgt := 189) d_X12_payOf_182 rfl (fun c49 => ?_) (fun c49 => ?_)
          · have k := k.1 c49
            refine aw_iconst (v := 0) d_X12_payOf_189 ic_0 ?_
            refine aw_istore [(0, .ref 1), (1, .int x1), (2, .int x2), (3, .int x3), (4, .int x4), (5, .int x5), (6, .int x6), (7, .int x7), (8, .int x8), (9, .int 0)] d_X12_payOf_190 (Nat.le_of_ble_eq_true rfl) rfl rfl ?_
            refine aw_iload d_X12_payOf_192 6 rfl ?_
            refine aw_iload d_X12_payOf_194 9 rfl ?_
            refine aw_if_eq (tgt := 203) d_X12_payOf_196 rfl (fun _ => ?_) (fun c => absurd c (by decide))
            refine aw_iconst (v := 0) d_X12_payOf_203 ic_0 ?_
            refine aw_iadd d_X12_payOf_204 ?_
            refine aw_istore [(0, .ref 1), (1, .int x1), (2, .int x2), (3, .int x3), (4, .int x4), (5, .int x5), (6, .int (x6 + 0)), (7, .int x7), (8, .int x8), (9, .int 0)] d_X12_payOf_205 (Nat.le_of_ble_eq_true rfl) rfl rfl ?_
            refine aw_iload d_X12_payOf_207 7 rfl ?_
            refine aw_iload d_X12_payOf_209 9 rfl ?_
            refine aw_if_eq (tgt := 218) d_X12_payOf_211 rfl (fun _ => ?_) (fun c => absurd c (by decide))
            refine aw_iconst (v := 1) d_X12_payOf_218 ic_1 ?_
            refine aw_iadd d_X12_payOf_219 ?_
            refine aw_istore [(0, .ref 1), (1, .int x1), (2, .int x2), (3, .int x3), (4, .int x4), (5, .int x5), (6, .int (x6 + 0)), (7, .int (x7 + 1)), (8, .int x8), (9, .int 0)] d_X12_payOf_220 (Nat.le_of_ble_eq_true rfl) rfl rfl ?_
            refine aw_iinc (v := (x8 + 1)) [(0, .ref 1), (1, .int x1), (2, .int x2), (3, .int x3), (4, .int x4), (5, .int x5), (6, .int (x6 + 0)), (7, .int (x7 + 1)), (8, .int (x8 + 1)), (9, .int 0)] d_X12_payOf_222 8 rfl rfl (Nat.le_of_ble_eq_true rfl) rfl rfl ?_
            refine aw_goto (tgt := 128) d_X12_payOf_225 rfl ?_
            exact aw_lvp [0, 1, 2, 3, 4, 5, 6, 7, 8] [(0, .ref 1), (1, .int x1), (2, .int x2), (3, .int x3), (4, .int x4), (5, .int x5), (6, .int (x6 + 0)), (7, .int (x7 + 1)), (8, .int (x8 + 1))] rfl k
          · have k := k.2 c49
            refine aw_iconst (v := 1) d_X12_payOf_185 ic_1 ?_
            refine aw_goto (tgt := 190) d_X12_payOf_186 rfl ?_
            refine aw_istore [(0, .ref 1), (1, .int x1), (2, .int x2), (3, .int x3), (4, .int x4), (5, .int x5), (6, .int x6), (7, .int x7), (8, .int x8), (9, .int 1)] d_X12_payOf_190 (Nat.le_of_ble_eq_true rfl) rfl rfl ?_
            refine aw_iload d_X12_payOf_192 6 rfl ?_
            refine aw_iload d_X12_payOf_194 9 rfl ?_
            refine aw_if_eq (tgt := 203) d_X12_payOf_196 rfl (fun c => absurd c (by decide)) (fun _ => ?_)
            refine aw_iconst (v := 1) d_X12_payOf_199 ic_1 ?_
            refine aw_goto (tgt := 204) d_X12_payOf_200 rfl ?_
            refine aw_iadd d_X12_payOf_204 ?_
            refine aw_istore [(0, .ref 1), (1, .int x1), (2, .int x2), (3, .int x3), (4, .int x4), (5, .int x5), (6, .int (x6 + 1)), (7, .int x7), (8, .int x8), (9, .int 1)] d_X12_payOf_205 (Nat.le_of_ble_eq_true rfl) rfl rfl ?_
            refine aw_iload d_X12_payOf_207 7 rfl ?_
            refine aw_iload d_X12_payOf_209 9 rfl ?_
            refine aw_if_eq (tgt := 218) d_X12_payOf_211 rfl (fun c => absurd c (by decide)) (fun _ => ?_)
            refine aw_iconst (v := 0) d_X12_payOf_214 ic_0 ?_
            refine aw_goto (tgt := 219) d_X12_payOf_215 rfl ?_
            refine aw_iadd d_X12_payOf_219 ?_
            refine aw_istore [(0, .ref 1), (1, .int x1), (2, .int x2), (3, .int x3), (4, .int x4), (5, .int x5), (6, .int (x6 + 1)), (7, .int (x7 + 0)), (8, .int x8), (9, .int 1)] d_X12_payOf_220 (Nat.le_of_ble_eq_true rfl) rfl rfl ?_
            refine aw_iinc (v := (x8 + 1)) [(0, .ref 1), (1, .int x1), (2, .int x2), (3, .int x3), (4, .int x4), (5, .int x5), (6, .int (x6 + 1)), (7, .int (x7 + 0)), (8, .int (x8 + 1)), (9, .int 1)] d_X12_payOf_222 8 rfl rfl (Nat.le_of_ble_eq_true rfl) rfl rfl ?_
            refine aw_goto (tgt := 128) d_X12_payOf_225 rfl ?_
            exact aw_lvp [0, 1, 2, 3, 4, 5, 6, 7, 8] [(0, .ref 1), (1, .int x1), (2, .int x2), (3, .int x3), (4, .int x4), (5, .int x5), (6, .int (x6 + 1)), (7, .int (x7 + 0)), (8, .int (x8 + 1))] rfl k
theorem t_X12_book (d : Nat) (h : Hp_)  (K : Int32 → Hp_ → Prop) (k : AW (m_X12_book (d + 8) 0 0) 0 0 4 [(0, .ref 1), (1, .int 0), (2, .int 0)] [] h (kI K)) : Ci (m_X12_book (d + 8) 0 0) [.ref 1] h K := by
  refine Ct.of (fun _ _ _ => trivial) rfl (Nat.le_of_ble_eq_true rfl) ?_
  show AW (m_X12_book (d + 8) 0 0) 0 0 0 [(0, .ref 1)] [] h (kI K)
  refine aw_iconst (v := 0) d_X12_book_0 ic_0 ?_
  refine aw_istore_n (i := 1) rfl [(0, .ref 1), (1, .int 0)] d_X12_book_1 (Nat.le_of_ble_eq_true rfl) rfl rfl ?_
  refine aw_iconst (v := 0) d_X12_book_2 ic_0 ?_
  refine aw_istore_n (i := 2) rfl [(0, .ref 1), (1, .int 0), (2, .int 0)] d_X12_book_3 (Nat.le_of_ble_eq_true rfl) rfl rfl ?_
  exact k
theorem t_X12_book_4 (d : Nat) (h : Hp_) (w : Wf h) (x1 : Int32) (x2 : Int32) (K : Int32 → Hp_ → Prop) (k : (((h_i h 1 0) / 1440) ≤ x2 → (((h_i h 1 127) + x1) ≤ 600 → AW (m_X12_book (d + 8) 0 0) 0 0 86 [(0, .ref 1), (1, .int x1), (2, .int 0)] [] h (kI K)) ∧ (¬ ((h_i h 1 127) + x1) ≤ 600 → K (-1) h)) ∧ (¬ ((h_i h 1 0) / 1440) ≤ x2 → AW (m_X12_book (d + 8) 0 0) 0 0 18 [(0, .ref 1), (1, .int x1), (2, .int x2), (3, .int 0)] [] h (kI K))) : AW (m_X12_book (d + 8) 0 0) 0 0 4 [(0, .ref 1), (1, .int x1), (2, .int x2)] [] h (kI K) := by
  refine aw_iload_n (i := 2) rfl d_X12_book_4 2 rfl ?_
  refine aw_aload_n (i := 0) rfl d_X12_book_5 0 rfl ?_
  refine aw_geti (k0 := 0) kc_12 (ws_1 w) (Nat.le_of_ble_eq_true rfl) tw_1742 d_X12_book_6 rfl ?_
  refine aw_sipush (v := 1440) d_X12_book_9 is_1440 ?_
  refine aw_idiv d_X12_book_12 (by decide) ?_
  refine aw_icmp_ge (tgt := 70) d_X12_book_13 rfl (fun c1 => ?_) (fun c1 => ?_)
  · have k := k.1 c1
    refine aw_aload_n (i := 0) rfl d_X12_book_70 0 rfl ?_
    refine aw_geti (k0 := 127) kc_12 (ws_1 w) (Nat.le_of_ble_eq_true rfl) tw_1869 d_X12_book_71 rfl ?_
    refine aw_iload_n (i := 1) rfl d_X12_book_74 1 rfl ?_
    refine aw_iadd d_X12_book_75 ?_
    refine aw_sipush (v := 600) d_X12_book_76 is_600 ?_
    refine aw_icmp_le (tgt := 84) d_X12_book_79 rfl (fun c2 => ?_) (fun c2 => ?_)
    · have k := k.1 c2
      refine aw_iconst (v := 0) d_X12_book_84 ic_0 ?_
      refine aw_istore_n (i := 2) rfl [(0, .ref 1), (1, .int x1), (2, .int 0)] d_X12_book_85 (Nat.le_of_ble_eq_true rfl) rfl rfl ?_
      exact k
    · have k := k.2 c2
      refine aw_iconst (v := (-1)) d_X12_book_82 ic_m1 ?_
      exact aw_iret rfl d_X12_book_83 ⟨Nat.le_refl _, Nat.le_refl _⟩ ⟨_, rfl, k⟩
  · have k := k.2 c1
    refine aw_iconst (v := 0) d_X12_book_16 ic_0 ?_
    refine aw_istore_n (i := 3) rfl [(0, .ref 1), (1, .int x1), (2, .int x2), (3, .int 0)] d_X12_book_17 (Nat.le_of_ble_eq_true rfl) rfl rfl ?_
    exact k
theorem t_X12_book_86 (d : Nat) (h : Hp_) (w : Wf h) (x1 : Int32) (x2 : Int32) (K : Int32 → Hp_ → Prop) (k : (((h_i h 1 0) / 1440) ≤ x2 → K x1 h) ∧ (¬ ((h_i h 1 0) / 1440) ≤ x2 → AW (m_X12_book (d + 8) 0 0) 0 0 100 [(0, .ref 1), (1, .int x1), (2, .int x2), (3, .int 0)] [] h (kI K))) : AW (m_X12_book (d + 8) 0 0) 0 0 86 [(0, .ref 1), (1, .int x1), (2, .int x2)] [] h (kI K) := by
  refine aw_iload_n (i := 2) rfl d_X12_book_86 2 rfl ?_
  refine aw_aload_n (i := 0) rfl d_X12_book_87 0 rfl ?_
  refine aw_geti (k0 := 0) kc_12 (ws_1 w) (Nat.le_of_ble_eq_true rfl) tw_1742 d_X12_book_88 rfl ?_
  refine aw_sipush (v := 1440) d_X12_book_91 is_1440 ?_
  refine aw_idiv d_X12_book_94 (by decide) ?_
  refine aw_icmp_ge (tgt := 227) d_X12_book_95 rfl (fun c3 => ?_) (fun c3 => ?_)
  · have k := k.1 c3
    refine aw_iload_n (i := 1) rfl d_X12_book_227 1 rfl ?_
    exact aw_iret rfl d_X12_book_228 ⟨Nat.le_refl _, Nat.le_refl _⟩ ⟨_, rfl, k⟩
  · have k := k.2 c3
    refine aw_iconst (v := 0) d_X12_book_98 ic_0 ?_
    refine aw_istore_n (i := 3) rfl [(0, .ref 1), (1, .int x1), (2, .int x2), (3, .int 0)] d_X12_book_99 (Nat.le_of_ble_eq_true rfl) rfl rfl ?_
    exact k
theorem t_X12_book_18 (d : Nat) (h : Hp_) (w : Wf h) (x1 : Int32) (x2 : Int32) (x3 : Int32) (K : Int32 → Hp_ → Prop) (k : ((h_i h 1 7) ≤ x3 → AW (m_X12_book (d + 8) 0 0) 0 0 4 [(0, .ref 1), (1, .int x1), (2, .int (x2 + 1))] [] h (kI K)) ∧ (¬ (h_i h 1 7) ≤ x3 → Ci (m_X12_payOf (d + 7) 0 0) [.ref 1, .int x3, .int x2, .int (h_i h 1 0)] h (fun r7 h5 => Wf h5 ∧ (vp_in ((31 * x3) + x2) 372 ∧ ((r7 = (h_i h5 293 (((31 * x3) + x2) : Int32).toNatClampNeg) → AW (m_X12_book (d + 8) 0 0) 0 0 18 [(0, .ref 1), (1, .int (x1 + 0)), (2, .int x2), (3, .int (x3 + 1))] [] h5 (kI K)) ∧ (¬ r7 = (h_i h5 293 (((31 * x3) + x2) : Int32).toNatClampNeg) → AW (m_X12_book (d + 8) 0 0) 0 0 18 [(0, .ref 1), (1, .int (x1 + 1)), (2, .int x2), (3, .int (x3 + 1))] [] h5 (kI K))))))) : AW (m_X12_book (d + 8) 0 0) 0 0 18 [(0, .ref 1), (1, .int x1), (2, .int x2), (3, .int x3)] [] h (kI K) := by
  refine aw_iload_n (i := 3) rfl d_X12_book_18 3 rfl ?_
  refine aw_aload_n (i := 0) rfl d_X12_book_19 0 rfl ?_
  refine aw_geti (k0 := 7) kc_12 (ws_1 w) (Nat.le_of_ble_eq_true rfl) tw_1749 d_X12_book_20 rfl ?_
  refine aw_icmp_ge (tgt := 64) d_X12_book_23 rfl (fun c4 => ?_) (fun c4 => ?_)
  · have k := k.1 c4
    refine aw_iinc (v := (x2 + 1)) [(0, .ref 1), (1, .int x1), (2, .int (x2 + 1)), (3, .int x3)] d_X12_book_64 2 rfl rfl (Nat.le_of_ble_eq_true rfl) rfl rfl ?_
    refine aw_goto (tgt := 4) d_X12_book_67 rfl ?_
    exact aw_lvp [0, 1, 2] [(0, .ref 1), (1, .int x1), (2, .int (x2 + 1))] rfl k
  · have k := k.2 c4
    refine aw_iload_n (i := 1) rfl d_X12_book_26 1 rfl ?_
    refine aw_aload_n (i := 0) rfl d_X12_book_27 0 rfl ?_
    refine aw_iload_n (i := 3) rfl d_X12_book_28 3 rfl ?_
    refine aw_iload_n (i := 2) rfl d_X12_book_29 2 rfl ?_
    refine aw_aload_n (i := 0) rfl d_X12_book_30 0 rfl ?_
    refine aw_geti (k0 := 0) kc_12 (ws_1 w) (Nat.le_of_ble_eq_true rfl) tw_1742 d_X12_book_31 rfl ?_
    refine aw_Vi 1 [.int x3, .int x2, .int (h_i h 1 0)] [.int x1] d_X12_book_34 (cV_X12_payOf (d + 7) 0 0) kc_12 (ws_1 w) tw_2664 rfl (rr0 (Nat.le_of_ble_eq_true rfl) (Nat.le_of_ble_eq_true rfl)) (Nat.le_of_ble_eq_true rfl) xs0 k (fun r7 h5 kk => ?_)
    obtain ⟨w6, k⟩ := kk
    refine aw_aload_n (i := 0) rfl d_X12_book_37 0 rfl ?_
    refine aw_getr (k0 := 122) kc_12 (ws_1 w6) (Nat.le_of_ble_eq_true rfl) tw_1864 d_X12_book_38 rfl (wr_1_122 w6) ?_
    refine aw_bipush (v := 31) d_X12_book_41 ib_31 ?_
    refine aw_iload_n (i := 3) rfl d_X12_book_43 3 rfl ?_
    refine aw_imul d_X12_book_44 ?_
    refine aw_iload_n (i := 2) rfl d_X12_book_45 2 rfl ?_
    refine aw_iadd d_X12_book_46 ?_
    obtain ⟨b8, k⟩ := k
    refine aw_iald (ws_293 w6) b8 d_X12_book_47 ?_
    refine aw_icmp_eq (tgt := 55) d_X12_book_48 rfl (fun c9 => ?_) (fun c9 => ?_)
    · have k := k.1 c9
      refine aw_iconst (v := 0) d_X12_book_55 ic_0 ?_
      refine aw_iadd d_X12_book_56 ?_
      refine aw_istore_n (i := 1) rfl [(0, .ref 1), (1, .int (x1 + 0)), (2, .int x2), (3, .int x3)] d_X12_book_57 (Nat.le_of_ble_eq_true rfl) rfl rfl ?_
      refine aw_iinc (v := (x3 + 1)) [(0, .ref 1), (1, .int (x1 + 0)), (2, .int x2), (3, .int (x3 + 1))] d_X12_book_58 3 rfl rfl (Nat.le_of_ble_eq_true rfl) rfl rfl ?_
      refine aw_goto (tgt := 18) d_X12_book_61 rfl ?_
      exact k
    · have k := k.2 c9
      refine aw_iconst (v := 1) d_X12_book_51 ic_1 ?_
      refine aw_goto (tgt := 56) d_X12_book_52 rfl ?_
      refine aw_iadd d_X12_book_56 ?_
      refine aw_istore_n (i := 1) rfl [(0, .ref 1), (1, .int (x1 + 1)), (2, .int x2), (3, .int x3)] d_X12_book_57 (Nat.le_of_ble_eq_true rfl) rfl rfl ?_
      refine aw_iinc (v := (x3 + 1)) [(0, .ref 1), (1, .int (x1 + 1)), (2, .int x2), (3, .int (x3 + 1))] d_X12_book_58 3 rfl rfl (Nat.le_of_ble_eq_true rfl) rfl rfl ?_
      refine aw_goto (tgt := 18) d_X12_book_61 rfl ?_
      exact k
theorem t_X12_book_100 (d : Nat) (h : Hp_) (w : Wf h) (x1 : Int32) (x2 : Int32) (x3 : Int32) (K : Int32 → Hp_ → Prop) (k : ((h_i h 1 7) ≤ x3 → AW (m_X12_book (d + 8) 0 0) 0 0 86 [(0, .ref 1), (1, .int x1), (2, .int (x2 + 1))] [] h (kI K)) ∧ (¬ (h_i h 1 7) ≤ x3 → Ci (m_X12_payOf (d + 7) 0 0) [.ref 1, .int x3, .int x2, .int (h_i h 1 0)] h (fun r13 h11 => Wf h11 ∧ (vp_in ((31 * x3) + x2) 372 ∧ ((r13 = (h_i h11 293 (((31 * x3) + x2) : Int32).toNatClampNeg) → AW (m_X12_book (d + 8) 0 0) 0 0 100 [(0, .ref 1), (1, .int x1), (2, .int x2), (3, .int (x3 + 1))] [] h11 (kI K)) ∧ (¬ r13 = (h_i h11 293 (((31 * x3) + x2) : Int32).toNatClampNeg) → vp_in (h_i h11 1 127) 600 ∧ (vp_in (h_i h11 1 127) 600 ∧ (vp_in ((31 * x3) + x2) 372 ∧ (vp_in (h_i h11 1 127) 600 ∧ (vp_in (h_i h11 1 127) 600 ∧ (vp_in ((31 * x3) + x2) 372 ∧ (AW (m_X12_book (d + 8) 0 0) 0 0 100 [(0, .ref 1), (1, .int x1), (2, .int x2), (3, .int (x3 + 1))] [] (h_im (h_im (h_im (h_im (h_im (h_im h11 294 ((h_i h11 1 127) : Int32).toNatClampNeg x3) 295 ((h_i h11 1 127) : Int32).toNatClampNeg x2) 296 ((h_i h11 1 127) : Int32).toNatClampNeg (r13 - (h_i h11 293 (((31 * x3) + x2) : Int32).toNatClampNeg))) 297 ((h_i h11 1 127) : Int32).toNatClampNeg (h_i h11 1 0)) 1 127 ((h_i h11 1 127) + 1)) 293 (((31 * x3) + x2) : Int32).toNatClampNeg r13) (kI K))))))))))))) : AW (m_X12_book (d + 8) 0 0) 0 0 100 [(0, .ref 1), (1, .int x1), (2, .int x2), (3, .int x3)] [] h (kI K) := by
  refine aw_iload_n (i := 3) rfl d_X12_book_100 3 rfl ?_
  refine aw_aload_n (i := 0) rfl d_X12_book_101 0 rfl ?_
  refine aw_geti (k0 := 7) kc_12 (ws_1 w) (Nat.le_of_ble_eq_true rfl) tw_1749 d_X12_book_102 rfl ?_
  refine aw_icmp_ge (tgt := 221) d_X12_book_105 rfl (fun c10 => ?_) (fun c10 => ?_)
  · have k := k.1 c10
    refine aw_iinc (v := (x2 + 1)) [(0, .ref 1), (1, .int x1), (2, .int (x2 + 1)), (3, .int x3)] d_X12_book_221 2 rfl rfl (Nat.le_of_ble_eq_true rfl) rfl rfl ?_
    refine aw_goto (tgt := 86) d_X12_book_224 rfl ?_
    exact aw_lvp [0, 1, 2] [(0, .ref 1), (1, .int x1), (2, .int (x2 + 1))] rfl k
  · have k := k.2 c10
    refine aw_aload_n (i := 0) rfl d_X12_book_108 0 rfl ?_
    refine aw_iload_n (i := 3) rfl d_X12_book_109 3 rfl ?_
    refine aw_iload_n (i := 2) rfl d_X12_book_110 2 rfl ?_
    refine aw_aload_n (i := 0) rfl d_X12_book_111 0 rfl ?_
    refine aw_geti (k0 := 0) kc_12 (ws_1 w) (Nat.le_of_ble_eq_true rfl) tw_1742 d_X12_book_112 rfl ?_
    refine aw_Vi 1 [.int x3, .int x2, .int (h_i h 1 0)] [] d_X12_book_115 (cV_X12_payOf (d + 7) 0 0) kc_12 (ws_1 w) tw_2664 rfl (rr0 (Nat.le_of_ble_eq_true rfl) (Nat.le_of_ble_eq_true rfl)) (Nat.le_of_ble_eq_true rfl) xs0 k (fun r13 h11 kk => ?_)
    obtain ⟨w12, k⟩ := kk
    refine aw_istore [(0, .ref 1), (1, .int x1), (2, .int x2), (3, .int x3), (4, .int r13)] d_X12_book_118 (Nat.le_of_ble_eq_true rfl) rfl rfl ?_
    refine aw_iload d_X12_book_120 4 rfl ?_
    refine aw_aload_n (i := 0) rfl d_X12_book_122 0 rfl ?_
    refine aw_getr (k0 := 122) kc_12 (ws_1 w12) (Nat.le_of_ble_eq_true rfl) tw_1864 d_X12_book_123 rfl (wr_1_122 w12) ?_
    refine aw_bipush (v := 31) d_X12_book_126 ib_31 ?_
    refine aw_iload_n (i := 3) rfl d_X12_book_128 3 rfl ?_
    refine aw_imul d_X12_book_129 ?_
    refine aw_iload_n (i := 2) rfl d_X12_book_130 2 rfl ?_
    refine aw_iadd d_X12_book_131 ?_
    obtain ⟨b14, k⟩ := k
    refine aw_iald (ws_293 w12) b14 d_X12_book_132 ?_
    refine aw_icmp_eq (tgt := 215) d_X12_book_133 rfl (fun c15 => ?_) (fun c15 => ?_)
    · have k := k.1 c15
      refine aw_iinc (v := (x3 + 1)) [(0, .ref 1), (1, .int x1), (2, .int x2), (3, .int (x3 + 1)), (4, .int r13)] d_X12_book_215 3 rfl rfl (Nat.le_of_ble_eq_true rfl) rfl rfl ?_
      refine aw_goto (tgt := 100) d_X12_book_218 rfl ?_
      exact aw_lvp [0, 1, 2, 3] [(0, .ref 1), (1, .int x1), (2, .int x2), (3, .int (x3 + 1))] rfl k
    · have k := k.2 c15
      refine aw_aload_n (i := 0) rfl d_X12_book_136 0 rfl ?_
      refine aw_getr (k0 := 123) kc_12 (ws_1 w12) (Nat.le_of_ble_eq_true rfl) tw_1865 d_X12_book_137 rfl (wr_1_123 w12) ?_
      refine aw_aload_n (i := 0) rfl d_X12_book_140 0 rfl ?_
      refine aw_geti (k0 := 127) kc_12 (ws_1 w12) (Nat.le_of_ble_eq_true rfl) tw_1869 d_X12_book_141 rfl ?_
      refine aw_iload_n (i := 3) rfl d_X12_book_144 3 rfl ?_
      obtain ⟨b16, k⟩ := k
      refine aw_iast (ws_294 w12) b16 d_X12_book_145 ?_
      refine aw_aload_n (i := 0) rfl d_X12_book_146 0 rfl ?_
      refine aw_getr (k0 := 124) kc_12 (ws_1 w12) (Nat.le_of_ble_eq_true rfl) tw_1866 d_X12_book_147 rfl (wr_1_124 w12) ?_
      refine aw_aload_n (i := 0) rfl d_X12_book_150 0 rfl ?_
      refine aw_geti (k0 := 127) kc_12 (ws_1 w12) (Nat.le_of_ble_eq_true rfl) tw_1869 d_X12_book_151 rfl ?_
      refine aw_vi (v2 := (h_i h11 1 127)) (rfl) ?_
      refine aw_iload_n (i := 2) rfl d_X12_book_154 2 rfl ?_
      obtain ⟨b17, k⟩ := k
      refine aw_iast (ws_295 w12) b17 d_X12_book_155 ?_
      refine aw_aload_n (i := 0) rfl d_X12_book_156 0 rfl ?_
      refine aw_getr (k0 := 125) kc_12 (ws_1 w12) (Nat.le_of_ble_eq_true rfl) tw_1867 d_X12_book_157 rfl (wr_1_125 w12) ?_
      refine aw_aload_n (i := 0) rfl d_X12_book_160 0 rfl ?_
      refine aw_geti (k0 := 127) kc_12 (ws_1 w12) (Nat.le_of_ble_eq_true rfl) tw_1869 d_X12_book_161 rfl ?_
      refine aw_vi (v2 := (h_i h11 1 127)) (rfl) ?_
      refine aw_iload d_X12_book_164 4 rfl ?_
      refine aw_aload_n (i := 0) rfl d_X12_book_166 0 rfl ?_
      refine aw_getr (k0 := 122) kc_12 (ws_1 w12) (Nat.le_of_ble_eq_true rfl) tw_1864 d_X12_book_167 rfl (wr_1_122 w12) ?_
      refine aw_bipush (v := 31) d_X12_book_170 ib_31 ?_
      refine aw_iload_n (i := 3) rfl d_X12_book_172 3 rfl ?_
      refine aw_imul d_X12_book_173 ?_
      refine aw_iload_n (i := 2) rfl d_X12_book_174 2 rfl ?_
      refine aw_iadd d_X12_book_175 ?_
      obtain ⟨b18, k⟩ := k
      refine aw_iald (ws_293 w12) b18 d_X12_book_176 ?_
      refine aw_vi (v2 := (h_i h11 293 (((31 * x3) + x2) : Int32).toNatClampNeg)) (rfl) ?_
      refine aw_isub d_X12_book_177 ?_
      obtain ⟨b19, k⟩ := k
      refine aw_iast (ws_296 w12) b19 d_X12_book_178 ?_
      refine aw_aload_n (i := 0) rfl d_X12_book_179 0 rfl ?_
      refine aw_getr (k0 := 126) kc_12 (ws_1 w12) (Nat.le_of_ble_eq_true rfl) tw_1868 d_X12_book_180 rfl (wr_1_126 w12) ?_
      refine aw_aload_n (i := 0) rfl d_X12_book_183 0 rfl ?_
      refine aw_geti (k0 := 127) kc_12 (ws_1 w12) (Nat.le_of_ble_eq_true rfl) tw_1869 d_X12_book_184 rfl ?_
      refine aw_vi (v2 := (h_i h11 1 127)) (rfl) ?_
      refine aw_aload_n (i := 0) rfl d_X12_book_187 0 rfl ?_
      refine aw_geti (k0 := 0) kc_12 (ws_1 w12) (Nat.le_of_ble_eq_true rfl) tw_1742 d_X12_book_188 rfl ?_
      refine aw_vi (v2 := (h_i h11 1 0)) (rfl) ?_
      obtain ⟨b20, k⟩ := k
      refine aw_iast (ws_297 w12) b20 d_X12_book_191 ?_
      refine aw_aload_n (i := 0) rfl d_X12_book_192 0 rfl ?_
      refine aw_dup d_X12_book_193 rfl ?_
      refine aw_geti (k0 := 127) kc_12 (ws_1 w12) (Nat.le_of_ble_eq_true rfl) tw_1869 d_X12_book_194 rfl ?_
      refine aw_vi (v2 := (h_i h11 1 127)) (rfl) ?_
      refine aw_iconst (v := 1) d_X12_book_197 ic_1 ?_
      refine aw_iadd d_X12_book_198 ?_
      refine aw_puti (k0 := 127) kc_12 (ws_1 w12) (Nat.le_of_ble_eq_true rfl) tw_1869 d_X12_book_199 rfl rfl nf_i ?_
      refine aw_aload_n (i := 0) rfl d_X12_book_202 0 rfl ?_
      refine aw_getr (k0 := 122) kc_12 (ws_1 w12) (Nat.le_of_ble_eq_true rfl) tw_1864 d_X12_book_203 rfl (wr_1_122 w12) ?_
      refine aw_bipush (v := 31) d_X12_book_206 ib_31 ?_
      refine aw_iload_n (i := 3) rfl d_X12_book_208 3 rfl ?_
      refine aw_imul d_X12_book_209 ?_
      refine aw_iload_n (i := 2) rfl d_X12_book_210 2 rfl ?_
      refine aw_iadd d_X12_book_211 ?_
      refine aw_iload d_X12_book_212 4 rfl ?_
      obtain ⟨b21, k⟩ := k
      refine aw_iast (ws_293 w12) b21 d_X12_book_214 ?_
      refine aw_iinc (v := (x3 + 1)) [(0, .ref 1), (1, .int x1), (2, .int x2), (3, .int (x3 + 1)), (4, .int r13)] d_X12_book_215 3 rfl rfl (Nat.le_of_ble_eq_true rfl) rfl rfl ?_
      refine aw_goto (tgt := 100) d_X12_book_218 rfl ?_
      exact aw_lvp [0, 1, 2, 3] [(0, .ref 1), (1, .int x1), (2, .int x2), (3, .int (x3 + 1))] rfl k
