/-! trees of methods that are done by hand -/
theorem t_X6_costWith (d : Nat) (h : Hp_) (w : Wf h) (x1 : Int32) (x2 : Int32) (x3 : Int32) (K : Int32 → Hp_ → Prop) (k : vp_in ((x1 * 4) + x2) 48 ∧ ((((x3 >>> ((2 * x2) &&& 31)) &&& 3) = 0 → K 1000000000 h) ∧ (¬ ((x3 >>> ((2 * x2) &&& 31)) &&& 3) = 0 → (¬ (h_i h 101 (((x1 * 4) + x2) : Int32).toNatClampNeg) = (-1) → vp_in ((((x1 + 1) * 256) + x3) - ((1 : Int32) <<< ((2 * x2) &&& 31))) 3328 ∧ (K (if ((h_i h 101 (((x1 * 4) + x2) : Int32).toNatClampNeg) + (h_i h 102 (((((x1 + 1) * 256) + x3) - ((1 : Int32) <<< ((2 * x2) &&& 31))) : Int32).toNatClampNeg)) < 1000000000 then ((h_i h 101 (((x1 * 4) + x2) : Int32).toNatClampNeg) + (h_i h 102 (((((x1 + 1) * 256) + x3) - ((1 : Int32) <<< ((2 * x2) &&& 31))) : Int32).toNatClampNeg)) else 1000000000) h)) ∧ ((h_i h 101 (((x1 * 4) + x2) : Int32).toNatClampNeg) = (-1) → K 1000000000 h)))) : Ci (m_X6_costWith (d + 1) 0 0) [.ref 20, .int x1, .int x2, .int x3] h K := by
  refine Ct.of (fun _ _ _ => trivial) rfl (Nat.le_of_ble_eq_true rfl) ?_
  show AW (m_X6_costWith (d + 1) 0 0) 0 0 0 [(0, .ref 20), (1, .int x1), (2, .int x2), (3, .int x3)] [] h (kI K)
  refine aw_aload_n (i := 0) rfl d_X6_costWith_0 0 rfl ?_
  refine aw_getr (k0 := 17) kc_6 (ws_20 w) (Nat.le_of_ble_eq_true rfl) tw_382 d_X6_costWith_1 rfl (wr_20_17 w) ?_
  refine aw_iload_n (i := 1) rfl d_X6_costWith_4 1 rfl ?_
  refine aw_iconst (v := 4) d_X6_costWith_5 ic_4 ?_
  refine aw_imul d_X6_costWith_6 ?_
  refine aw_iload_n (i := 2) rfl d_X6_costWith_7 2 rfl ?_
  refine aw_iadd d_X6_costWith_8 ?_
  obtain ⟨b1, k⟩ := k
  refine aw_iald (ws_101 w) b1 d_X6_costWith_9 ?_
  refine aw_istore [(0, .ref 20), (1, .int x1), (2, .int x2), (3, .int x3), (4, .int (h_i h 101 (((x1 * 4) + x2) : Int32).toNatClampNeg))] d_X6_costWith_10 (Nat.le_of_ble_eq_true rfl) rfl rfl ?_
  refine aw_iload_n (i := 3) rfl d_X6_costWith_12 3 rfl ?_
  refine aw_iconst (v := 2) d_X6_costWith_13 ic_2 ?_
  refine aw_iload_n (i := 2) rfl d_X6_costWith_14 2 rfl ?_
  refine aw_imul d_X6_costWith_15 ?_
  refine aw_ishr d_X6_costWith_16 ?_
  refine aw_iconst (v := 3) d_X6_costWith_17 ic_3 ?_
  refine aw_iand d_X6_costWith_18 ?_
  refine aw_if_eq (tgt := 28) d_X6_costWith_19 rfl (fun c2 => ?_) (fun c2 => ?_)
  · have k := k.1 c2
    refine aw_ldc (v := 1000000000) d_X6_costWith_28 tw_1524 ?_
    exact aw_iret rfl d_X6_costWith_30 ⟨Nat.le_refl _, Nat.le_refl _⟩ ⟨_, rfl, k⟩
  · have k := k.2 c2
    refine aw_iload d_X6_costWith_22 4 rfl ?_
    refine aw_iconst (v := (-1)) d_X6_costWith_24 ic_m1 ?_
    refine aw_icmp_ne (tgt := 31) d_X6_costWith_25 rfl (fun c3 => ?_) (fun c3 => ?_)
    · have k := k.1 c3
      refine aw_ldc (v := 1000000000) d_X6_costWith_31 tw_1524 ?_
      refine aw_iload d_X6_costWith_33 4 rfl ?_
      refine aw_aload_n (i := 0) rfl d_X6_costWith_35 0 rfl ?_
      refine aw_getr (k0 := 18) kc_6 (ws_20 w) (Nat.le_of_ble_eq_true rfl) tw_383 d_X6_costWith_36 rfl (wr_20_18 w) ?_
      refine aw_iload_n (i := 1) rfl d_X6_costWith_39 1 rfl ?_
      refine aw_iconst (v := 1) d_X6_costWith_40 ic_1 ?_
      refine aw_iadd d_X6_costWith_41 ?_
      refine aw_sipush (v := 256) d_X6_costWith_42 is_256 ?_
      refine aw_imul d_X6_costWith_45 ?_
      refine aw_iload_n (i := 3) rfl d_X6_costWith_46 3 rfl ?_
      refine aw_iadd d_X6_costWith_47 ?_
      refine aw_iconst (v := 1) d_X6_costWith_48 ic_1 ?_
      refine aw_iconst (v := 2) d_X6_costWith_49 ic_2 ?_
      refine aw_iload_n (i := 2) rfl d_X6_costWith_50 2 rfl ?_
      refine aw_imul d_X6_costWith_51 ?_
      refine aw_ishl d_X6_costWith_52 ?_
      refine aw_isub d_X6_costWith_53 ?_
      obtain ⟨b4, k⟩ := k
      refine aw_iald (ws_102 w) b4 d_X6_costWith_54 ?_
      refine aw_iadd d_X6_costWith_55 ?_
      refine aw_mmin d_X6_costWith_56 tw_1468 (show 1 ≤ (d + 1) by omega) (Nat.le_trans (Nat.le_of_ble_eq_true rfl) (show 100 ≤ 100 * (d + 1) by omega)) ⟨Nat.le_refl _, Nat.le_refl _⟩ ?_
      exact aw_iret rfl d_X6_costWith_59 ⟨Nat.le_refl _, Nat.le_refl _⟩ ⟨_, rfl, k⟩
    · have k := k.2 c3
      refine aw_ldc (v := 1000000000) d_X6_costWith_28 tw_1524 ?_
      exact aw_iret rfl d_X6_costWith_30 ⟨Nat.le_refl _, Nat.le_refl _⟩ ⟨_, rfl, k⟩
theorem t_X6_traceLending (d : Nat) (h : Hp_) (x1 : Int32) (x2 : Int32) (K : Hp_ → Prop) (k : AW (m_X6_traceLending (d + 2) 0 0) 0 0 5 [(0, .ref 20), (1, .int x1), (3, .int x2), (4, .int 0)] [] h (kV K)) : Cv (m_X6_traceLending (d + 2) 0 0) [.ref 20, .int x1, .int x2] h K := by
  refine Ct.of (fun _ _ _ => trivial) rfl (Nat.le_of_ble_eq_true rfl) ?_
  show AW (m_X6_traceLending (d + 2) 0 0) 0 0 0 [(0, .ref 20), (1, .int x1), (2, .int x2)] [] h (kV K)
  refine aw_iload_n (i := 2) rfl d_X6_traceLending_0 2 rfl ?_
  refine aw_istore_n (i := 3) rfl [(0, .ref 20), (1, .int x1), (2, .int x2), (3, .int x2)] d_X6_traceLending_1 (Nat.le_of_ble_eq_true rfl) rfl rfl ?_
  refine aw_iconst (v := 0) d_X6_traceLending_2 ic_0 ?_
  refine aw_istore [(0, .ref 20), (1, .int x1), (2, .int x2), (3, .int x2), (4, .int 0)] d_X6_traceLending_3 (Nat.le_of_ble_eq_true rfl) rfl rfl ?_
  exact aw_lvp [0, 1, 3, 4] [(0, .ref 20), (1, .int x1), (3, .int x2), (4, .int 0)] rfl k
theorem t_X6_traceLending_5 (d : Nat) (h : Hp_) (w : Wf h) (x1 : Int32) (x3 : Int32) (x4 : Int32) (K : Hp_ → Prop) (k : (x1 ≤ x4 → K h) ∧ (¬ x1 ≤ x4 → vp_in x4 12 ∧ (AW (m_X6_traceLending (d + 2) 0 0) 0 0 22 [(0, .ref 20), (1, .int x1), (3, .int x3), (4, .int x4), (5, .int 0)] [] (h_im h 103 x4.toNatClampNeg (-1)) (kV K)))) : AW (m_X6_traceLending (d + 2) 0 0) 0 0 5 [(0, .ref 20), (1, .int x1), (3, .int x3), (4, .int x4)] [] h (kV K) := by
  refine aw_iload d_X6_traceLending_5 3 rfl ?_
  refine aw_iload_n (i := 1) rfl d_X6_traceLending_7 1 rfl ?_
  refine aw_icmp_ge (tgt := 124) d_X6_traceLending_8 rfl (fun c1 => ?_) (fun c1 => ?_)
  · have k := k.1 c1
    exact aw_vret rfl d_X6_traceLending_124 ⟨Nat.le_refl _, Nat.le_refl _⟩ ⟨rfl, k⟩
  · have k := k.2 c1
    refine aw_aload_n (i := 0) rfl d_X6_traceLending_11 0 rfl ?_
    refine aw_getr (k0 := 19) kc_6 (ws_20 w) (Nat.le_of_ble_eq_true rfl) tw_384 d_X6_traceLending_12 rfl (wr_20_19 w) ?_
    refine aw_iload d_X6_traceLending_15 3 rfl ?_
    refine aw_iconst (v := (-1)) d_X6_traceLending_17 ic_m1 ?_
    obtain ⟨b2, k⟩ := k
    refine aw_iast (ws_103 w) b2 d_X6_traceLending_18 ?_
    refine aw_iconst (v := 0) d_X6_traceLending_19 ic_0 ?_
    refine aw_istore [(0, .ref 20), (1, .int x1), (3, .int x3), (4, .int x4), (5, .int 0)] d_X6_traceLending_20 (Nat.le_of_ble_eq_true rfl) rfl rfl ?_
    exact k
theorem t_X6_traceLending_22 (d : Nat) (h : Hp_) (w : Wf h) (x1 : Int32) (x3 : Int32) (x4 : Int32) (x5 : Int32) (K : Hp_ → Prop) (k : ((h_i h 20 16) ≤ x5 → vp_in x4 12 ∧ (((h_i h 103 x4.toNatClampNeg) = (-1) → AW (m_X6_traceLending (d + 2) 0 0) 0 0 5 [(0, .ref 20), (1, .int x1), (3, .int x3), (4, .int (x4 + 1))] [] h (kV K)) ∧ (¬ (h_i h 103 x4.toNatClampNeg) = (-1) → vp_in x4 12 ∧ (AW (m_X6_traceLending (d + 2) 0 0) 0 0 5 [(0, .ref 20), (1, .int x1), (3, .int (x3 - ((1 : Int32) <<< ((2 * (h_i h 103 x4.toNatClampNeg)) &&& 31)))), (4, .int (x4 + 1))] [] h (kV K))))) ∧ (¬ (h_i h 20 16) ≤ x5 → vp_in x4 12 ∧ ((¬ (h_i h 103 x4.toNatClampNeg) = (-1) → vp_in x4 12 ∧ (((h_i h 103 x4.toNatClampNeg) = (-1) → AW (m_X6_traceLending (d + 2) 0 0) 0 0 5 [(0, .ref 20), (1, .int x1), (3, .int x3), (4, .int (x4 + 1))] [] h (kV K)) ∧ (¬ (h_i h 103 x4.toNatClampNeg) = (-1) → vp_in x4 12 ∧ (AW (m_X6_traceLending (d + 2) 0 0) 0 0 5 [(0, .ref 20), (1, .int x1), (3, .int (x3 - ((1 : Int32) <<< ((2 * (h_i h 103 x4.toNatClampNeg)) &&& 31)))), (4, .int (x4 + 1))] [] h (kV K))))) ∧ ((h_i h 103 x4.toNatClampNeg) = (-1) → Ci (m_X6_costWith (d + 1) 0 0) [.ref 20, .int x4, .int x5, .int x3] h (fun r14 h12 => Wf h12 ∧ ((1000000000 ≤ r14 → AW (m_X6_traceLending (d + 2) 0 0) 0 0 22 [(0, .ref 20), (1, .int x1), (3, .int x3), (4, .int x4), (5, .int (x5 + 1))] [] h12 (kV K)) ∧ (¬ 1000000000 ≤ r14 → vp_in ((x4 * 256) + x3) 3328 ∧ ((¬ r14 = (h_i h12 102 (((x4 * 256) + x3) : Int32).toNatClampNeg) → AW (m_X6_traceLending (d + 2) 0 0) 0 0 22 [(0, .ref 20), (1, .int x1), (3, .int x3), (4, .int x4), (5, .int (x5 + 1))] [] h12 (kV K)) ∧ (r14 = (h_i h12 102 (((x4 * 256) + x3) : Int32).toNatClampNeg) → vp_in x4 12 ∧ (AW (m_X6_traceLending (d + 2) 0 0) 0 0 22 [(0, .ref 20), (1, .int x1), (3, .int x3), (4, .int x4), (5, .int (x5 + 1))] [] (h_im h12 103 x4.toNatClampNeg x5) (kV K))))))))))) : AW (m_X6_traceLending (d + 2) 0 0) 0 0 22 [(0, .ref 20), (1, .int x1), (3, .int x3), (4, .int x4), (5, .int x5)] [] h (kV K) := by
  refine aw_iload d_X6_traceLending_22 4 rfl ?_
  refine aw_aload_n (i := 0) rfl d_X6_traceLending_24 0 rfl ?_
  refine aw_geti (k0 := 16) kc_6 (ws_20 w) (Nat.le_of_ble_eq_true rfl) tw_380 d_X6_traceLending_25 rfl ?_
  refine aw_icmp_ge (tgt := 93) d_X6_traceLending_28 rfl (fun c3 => ?_) (fun c3 => ?_)
  · have k := k.1 c3
    refine aw_aload_n (i := 0) rfl d_X6_traceLending_93 0 rfl ?_
    refine aw_getr (k0 := 19) kc_6 (ws_20 w) (Nat.le_of_ble_eq_true rfl) tw_384 d_X6_traceLending_94 rfl (wr_20_19 w) ?_
    refine aw_iload d_X6_traceLending_97 3 rfl ?_
    obtain ⟨b4, k⟩ := k
    refine aw_iald (ws_103 w) b4 d_X6_traceLending_99 ?_
    refine aw_iconst (v := (-1)) d_X6_traceLending_100 ic_m1 ?_
    refine aw_icmp_eq (tgt := 118) d_X6_traceLending_101 rfl (fun c5 => ?_) (fun c5 => ?_)
    · have k := k.1 c5
      refine aw_iinc (v := (x4 + 1)) [(0, .ref 20), (1, .int x1), (3, .int x3), (4, .int (x4 + 1)), (5, .int x5)] d_X6_traceLending_118 3 rfl rfl (Nat.le_of_ble_eq_true rfl) rfl rfl ?_
      refine aw_goto (tgt := 5) d_X6_traceLending_121 rfl ?_
      exact aw_lvp [0, 1, 2, 3] [(0, .ref 20), (1, .int x1), (3, .int x3), (4, .int (x4 + 1))] rfl k
    · have k := k.2 c5
      refine aw_iload_n (i := 3) rfl d_X6_traceLending_104 2 rfl ?_
      refine aw_iconst (v := 1) d_X6_traceLending_105 ic_1 ?_
      refine aw_iconst (v := 2) d_X6_traceLending_106 ic_2 ?_
      refine aw_aload_n (i := 0) rfl d_X6_traceLending_107 0 rfl ?_
      refine aw_getr (k0 := 19) kc_6 (ws_20 w) (Nat.le_of_ble_eq_true rfl) tw_384 d_X6_traceLending_108 rfl (wr_20_19 w) ?_
      refine aw_iload d_X6_traceLending_111 3 rfl ?_
      obtain ⟨b6, k⟩ := k
      refine aw_iald (ws_103 w) b6 d_X6_traceLending_113 ?_
      refine aw_imul d_X6_traceLending_114 ?_
      refine aw_ishl d_X6_traceLending_115 ?_
      refine aw_isub d_X6_traceLending_116 ?_
      refine aw_istore_n (i := 3) rfl [(0, .ref 20), (1, .int x1), (3, .int (x3 - ((1 : Int32) <<< ((2 * (h_i h 103 x4.toNatClampNeg)) &&& 31)))), (4, .int x4), (5, .int x5)] d_X6_traceLending_117 (Nat.le_of_ble_eq_true rfl) rfl rfl ?_
      refine aw_iinc (v := (x4 + 1)) [(0, .ref 20), (1, .int x1), (3, .int (x3 - ((1 : Int32) <<< ((2 * (h_i h 103 x4.toNatClampNeg)) &&& 31)))), (4, .int (x4 + 1)), (5, .int x5)] d_X6_traceLending_118 3 rfl rfl (Nat.le_of_ble_eq_true rfl) rfl rfl ?_
      refine aw_goto (tgt := 5) d_X6_traceLending_121 rfl ?_
      exact aw_lvp [0, 1, 2, 3] [(0, .ref 20), (1, .int x1), (3, .int (x3 - ((1 : Int32) <<< ((2 * (h_i h 103 x4.toNatClampNeg)) &&& 31)))), (4, .int (x4 + 1))] rfl k
  · have k := k.2 c3
    refine aw_aload_n (i := 0) rfl d_X6_traceLending_31 0 rfl ?_
    refine aw_getr (k0 := 19) kc_6 (ws_20 w) (Nat.le_of_ble_eq_true rfl) tw_384 d_X6_traceLending_32 rfl (wr_20_19 w) ?_
    refine aw_iload d_X6_traceLending_35 3 rfl ?_
    obtain ⟨b7, k⟩ := k
    refine aw_iald (ws_103 w) b7 d_X6_traceLending_37 ?_
    refine aw_iconst (v := (-1)) d_X6_traceLending_38 ic_m1 ?_
    refine aw_icmp_ne (tgt := 93) d_X6_traceLending_39 rfl (fun c8 => ?_) (fun c8 => ?_)
    · have k := k.1 c8
      refine aw_aload_n (i := 0) rfl d_X6_traceLending_93 0 rfl ?_
      refine aw_getr (k0 := 19) kc_6 (ws_20 w) (Nat.le_of_ble_eq_true rfl) tw_384 d_X6_traceLending_94 rfl (wr_20_19 w) ?_
      refine aw_iload d_X6_traceLending_97 3 rfl ?_
      obtain ⟨b9, k⟩ := k
      refine aw_iald (ws_103 w) b9 d_X6_traceLending_99 ?_
      refine aw_iconst (v := (-1)) d_X6_traceLending_100 ic_m1 ?_
      refine aw_icmp_eq (tgt := 118) d_X6_traceLending_101 rfl (fun c10 => ?_) (fun c10 => ?_)
      · have k := k.1 c10
        refine aw_iinc (v := (x4 + 1)) [(0, .ref 20), (1, .int x1), (3, .int x3), (4, .int (x4 + 1)), (5, .int x5)] d_X6_traceLending_118 3 rfl rfl (Nat.le_of_ble_eq_true rfl) rfl rfl ?_
        refine aw_goto (tgt := 5) d_X6_traceLending_121 rfl ?_
        exact aw_lvp [0, 1, 2, 3] [(0, .ref 20), (1, .int x1), (3, .int x3), (4, .int (x4 + 1))] rfl k
      · have k := k.2 c10
        refine aw_iload_n (i := 3) rfl d_X6_traceLending_104 2 rfl ?_
        refine aw_iconst (v := 1) d_X6_traceLending_105 ic_1 ?_
        refine aw_iconst (v := 2) d_X6_traceLending_106 ic_2 ?_
        refine aw_aload_n (i := 0) rfl d_X6_traceLending_107 0 rfl ?_
        refine aw_getr (k0 := 19) kc_6 (ws_20 w) (Nat.le_of_ble_eq_true rfl) tw_384 d_X6_traceLending_108 rfl (wr_20_19 w) ?_
        refine aw_iload d_X6_traceLending_111 3 rfl ?_
        obtain ⟨b11, k⟩ := k
        refine aw_iald (ws_103 w) b11 d_X6_traceLending_113 ?_
        refine aw_imul d_X6_traceLending_114 ?_
        refine aw_ishl d_X6_traceLending_115 ?_
        refine aw_isub d_X6_traceLending_116 ?_
        refine aw_istore_n (i := 3) rfl [(0, .ref 20), (1, .int x1), (3, .int (x3 - ((1 : Int32) <<< ((2 * (h_i h 103 x4.toNatClampNeg)) &&& 31)))), (4, .int x4), (5, .int x5)] d_X6_traceLending_117 (Nat.le_of_ble_eq_true rfl) rfl rfl ?_
        refine aw_iinc (v := (x4 + 1)) [(0, .ref 20), (1, .int x1), (3, .int (x3 - ((1 : Int32) <<< ((2 * (h_i h 103 x4.toNatClampNeg)) &&& 31)))), (4, .int (x4 + 1)), (5, .int x5)] d_X6_traceLending_118 3 rfl rfl (Nat.le_of_ble_eq_true rfl) rfl rfl ?_
        refine aw_goto (tgt := 5) d_X6_traceLending_121 rfl ?_
        exact aw_lvp [0, 1, 2, 3] [(0, .ref 20), (1, .int x1), (3, .int (x3 - ((1 : Int32) <<< ((2 * (h_i h 103 x4.toNatClampNeg)) &&& 31)))), (4, .int (x4 + 1))] rfl k
    · have k := k.2 c8
      refine aw_aload_n (i := 0) rfl d_X6_traceLending_42 0 rfl ?_
      refine aw_iload d_X6_traceLending_43 3 rfl ?_
      refine aw_iload d_X6_traceLending_45 4 rfl ?_
      refine aw_iload_n (i := 3) rfl d_X6_traceLending_47 2 rfl ?_
      refine aw_Vi 20 [.int x4, .int x5, .int x3] [] d_X6_traceLending_48 (cV_X6_costWith (d + 1) 0 0) kc_6 (ws_20 w) tw_1529 rfl (rr0 (Nat.le_of_ble_eq_true rfl) (Nat.le_of_ble_eq_true rfl)) (Nat.le_of_ble_eq_true rfl) xs0 k (fun r14 h12 kk => ?_)
      obtain ⟨w13, k⟩ := kk
      refine aw_istore [(0, .ref 20), (1, .int x1), (3, .int x3), (4, .int x4), (5, .int x5), (6, .int r14)] d_X6_traceLending_51 (Nat.le_of_ble_eq_true rfl) rfl rfl ?_
      refine aw_iload d_X6_traceLending_53 5 rfl ?_
      refine aw_ldc (v := 1000000000) d_X6_traceLending_55 tw_1524 ?_
      refine aw_icmp_ge (tgt := 87) d_X6_traceLending_57 rfl (fun c15 => ?_) (fun c15 => ?_)
      · have k := k.1 c15
        refine aw_iinc (v := (x5 + 1)) [(0, .ref 20), (1, .int x1), (3, .int x3), (4, .int x4), (5, .int (x5 + 1)), (6, .int r14)] d_X6_traceLending_87 4 rfl rfl (Nat.le_of_ble_eq_true rfl) rfl rfl ?_
        refine aw_goto (tgt := 22) d_X6_traceLending_90 rfl ?_
        exact aw_lvp [0, 1, 2, 3, 4] [(0, .ref 20), (1, .int x1), (3, .int x3), (4, .int x4), (5, .int (x5 + 1))] rfl k
      · have k := k.2 c15
        refine aw_iload d_X6_traceLending_60 5 rfl ?_
        refine aw_aload_n (i := 0) rfl d_X6_traceLending_62 0 rfl ?_
        refine aw_getr (k0 := 18) kc_6 (ws_20 w13) (Nat.le_of_ble_eq_true rfl) tw_383 d_X6_traceLending_63 rfl (wr_20_18 w13) ?_
        refine aw_iload d_X6_traceLending_66 3 rfl ?_
        refine aw_sipush (v := 256) d_X6_traceLending_68 is_256 ?_
        refine aw_imul d_X6_traceLending_71 ?_
        refine aw_iload_n (i := 3) rfl d_X6_traceLending_72 2 rfl ?_
        refine aw_iadd d_X6_traceLending_73 ?_
        obtain ⟨b16, k⟩ := k
        refine aw_iald (ws_102 w13) b16 d_X6_traceLending_74 ?_
        refine aw_icmp_ne (tgt := 87) d_X6_traceLending_75 rfl (fun c17 => ?_) (fun c17 => ?_)
        · have k := k.1 c17
          refine aw_iinc (v := (x5 + 1)) [(0, .ref 20), (1, .int x1), (3, .int x3), (4, .int x4), (5, .int (x5 + 1)), (6, .int r14)] d_X6_traceLending_87 4 rfl rfl (Nat.le_of_ble_eq_true rfl) rfl rfl ?_
          refine aw_goto (tgt := 22) d_X6_traceLending_90 rfl ?_
          exact aw_lvp [0, 1, 2, 3, 4] [(0, .ref 20), (1, .int x1), (3, .int x3), (4, .int x4), (5, .int (x5 + 1))] rfl k
        · have k := k.2 c17
          refine aw_aload_n (i := 0) rfl d_X6_traceLending_78 0 rfl ?_
          refine aw_getr (k0 := 19) kc_6 (ws_20 w13) (Nat.le_of_ble_eq_true rfl) tw_384 d_X6_traceLending_79 rfl (wr_20_19 w13) ?_
          refine aw_iload d_X6_traceLending_82 3 rfl ?_
          refine aw_iload d_X6_traceLending_84 4 rfl ?_
          obtain ⟨b18, k⟩ := k
          refine aw_iast (ws_103 w13) b18 d_X6_traceLending_86 ?_
          refine aw_iinc (v := (x5 + 1)) [(0, .ref 20), (1, .int x1), (3, .int x3), (4, .int x4), (5, .int (x5 + 1)), (6, .int r14)] d_X6_traceLending_87 4 rfl rfl (Nat.le_of_ble_eq_true rfl) rfl rfl ?_
          refine aw_goto (tgt := 22) d_X6_traceLending_90 rfl ?_
          exact aw_lvp [0, 1, 2, 3, 4] [(0, .ref 20), (1, .int x1), (3, .int x3), (4, .int x4), (5, .int (x5 + 1))] rfl k
theorem dp_in {x : Int32} {n : Nat} {lo hi : Int} (h : rin x.toInt (lo, hi)) (l : 0 ≤ lo) (u : hi < n) : vp_in x n := by
  have h1 : lo ≤ x.toInt := h.1
  have h2 : x.toInt ≤ hi := h.2
  have b0 := n_nat (x := x) (by omega)
  have a0 : (0 : Int32).toInt = 0 := rfl
  rintro (y | y)
  · have y := q_lt.mp y
    omega
  · omega
theorem dp_rg {h : Hp_} (I : Iv h) (a k : Nat) {r : Rg} (e : tfa a = some r) : rin (h_i h a k).toInt r := by
  have := I.2.1 a k
  rwa [tfa_tf e] at this
theorem tl_fr {ws : List Nat} {h0 h : Hp_} {a k : Nat} {x : Int32} (F : Fr ws h0 h) (e : inw ws a 999 = true) : Fr ws h0 (h_im h a k x) := F.im (inw_row e _)
