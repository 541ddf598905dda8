theorem t_X9_lay (d : Nat) (h : Hp_) (w : Wf h) (x1 : Int32) (x2 : Int32) (x3 : Int32) (K : Int32 → Hp_ → Prop) (k : ((h_i h 10 1) < 40 → AW (m_X9_lay (d + 1) 0 0) 0 0 14 [(0, .ref 10), (1, .int x1), (2, .int x2), (3, .int x3), (4, .int 0)] [] h (kI K)) ∧ (¬ (h_i h 10 1) < 40 → K (-1) h)) : Ci (m_X9_lay (d + 1) 0 0) [.ref 10, .int x1, .int x2, .int x3] h K := by
  refine Ct.of (fun _ _ _ => trivial) rfl (Nat.le_of_ble_eq_true rfl) ?_
  show AW (m_X9_lay (d + 1) 0 0) 0 0 0 [(0, .ref 10), (1, .int x1), (2, .int x2), (3, .int x3)] [] h (kI K)
  refine aw_aload_n (i := 0) rfl d_X9_lay_0 0 rfl ?_
  refine aw_geti (k0 := 1) kc_9 (ws_10 w) (Nat.le_of_ble_eq_true rfl) tw_43 d_X9_lay_1 rfl ?_
  refine aw_bipush (v := 40) d_X9_lay_4 ib_40 ?_
  refine aw_icmp_lt (tgt := 11) d_X9_lay_6 rfl (fun c1 => ?_) (fun c1 => ?_)
  · have k := k.1 c1
    refine aw_iconst (v := 0) d_X9_lay_11 ic_0 ?_
    refine aw_istore [(0, .ref 10), (1, .int x1), (2, .int x2), (3, .int x3), (4, .int 0)] d_X9_lay_12 (Nat.le_of_ble_eq_true rfl) rfl rfl ?_
    exact k
  · have k := k.2 c1
    refine aw_iconst (v := (-1)) d_X9_lay_9 ic_m1 ?_
    exact aw_iret rfl d_X9_lay_10 ⟨Nat.le_refl _, Nat.le_refl _⟩ ⟨_, rfl, k⟩
theorem t_X9_lay_14 (d : Nat) (h : Hp_) (w : Wf h) (x1 : Int32) (x2 : Int32) (x3 : Int32) (x4 : Int32) (K : Int32 → Hp_ → Prop) (k : (16 ≤ x4 → K (((h_i h 10 1) + 1) - 1) (h_im h 10 1 ((h_i h 10 1) + 1))) ∧ (¬ 16 ≤ x4 → AW (m_X9_lay (d + 1) 0 0) 0 0 24 [(0, .ref 10), (1, .int x1), (2, .int x2), (3, .int x3), (4, .int x4), (5, .int 0)] [] h (kI K))) : AW (m_X9_lay (d + 1) 0 0) 0 0 14 [(0, .ref 10), (1, .int x1), (2, .int x2), (3, .int x3), (4, .int x4)] [] h (kI K) := by
  refine aw_iload d_X9_lay_14 4 rfl ?_
  refine aw_bipush (v := 16) d_X9_lay_16 ib_16 ?_
  refine aw_icmp_ge (tgt := 135) d_X9_lay_18 rfl (fun c2 => ?_) (fun c2 => ?_)
  · have k := k.1 c2
    refine aw_aload_n (i := 0) rfl d_X9_lay_135 0 rfl ?_
    refine aw_dup d_X9_lay_136 rfl ?_
    refine aw_geti (k0 := 1) kc_9 (ws_10 w) (Nat.le_of_ble_eq_true rfl) tw_43 d_X9_lay_137 rfl ?_
    refine aw_iconst (v := 1) d_X9_lay_140 ic_1 ?_
    refine aw_iadd d_X9_lay_141 ?_
    refine aw_puti (k0 := 1) kc_9 (ws_10 w) (Nat.le_of_ble_eq_true rfl) tw_43 d_X9_lay_142 rfl rfl nf_i ?_
    refine aw_aload_n (i := 0) rfl d_X9_lay_145 0 rfl ?_
    refine aw_geti (k0 := 1) kc_9 (ws_10 w) (Nat.le_of_ble_eq_true rfl) tw_43 d_X9_lay_146 rfl ?_
    refine aw_vi (v2 := ((h_i h 10 1) + 1)) (rfl) ?_
    refine aw_iconst (v := 1) d_X9_lay_149 ic_1 ?_
    refine aw_isub d_X9_lay_150 ?_
    exact aw_iret rfl d_X9_lay_151 ⟨Nat.le_refl _, Nat.le_refl _⟩ ⟨_, rfl, k⟩
  · have k := k.2 c2
    refine aw_iconst (v := 0) d_X9_lay_21 ic_0 ?_
    refine aw_istore [(0, .ref 10), (1, .int x1), (2, .int x2), (3, .int x3), (4, .int x4), (5, .int 0)] d_X9_lay_22 (Nat.le_of_ble_eq_true rfl) rfl rfl ?_
    exact k
theorem t_X9_lay_24 (d : Nat) (h : Hp_) (w : Wf h) (x1 : Int32) (x2 : Int32) (x3 : Int32) (x4 : Int32) (x5 : Int32) (K : Int32 → Hp_ → Prop) (k : (16 ≤ x5 → AW (m_X9_lay (d + 1) 0 0) 0 0 14 [(0, .ref 10), (1, .int x1), (2, .int x2), (3, .int x3), (4, .int (x4 + 1))] [] h (kI K)) ∧ (¬ 16 ≤ x5 → vp_in ((x4 * 16) + x1) 256 ∧ (vp_in ((x2 * 16) + x5) 256 ∧ (vp_in ((x4 * 16) + x2) 256 ∧ (vp_in ((x1 * 16) + x5) 256 ∧ (vp_in ((x4 * 16) + x5) 256 ∧ (vp_in ((x4 * 16) + x5) 256 ∧ (AW (m_X9_lay (d + 1) 0 0) 0 0 24 [(0, .ref 10), (1, .int x1), (2, .int x2), (3, .int x3), (4, .int x4), (5, .int (x5 + 1))] [] (h_im h 30 (((x4 * 16) + x5) : Int32).toNatClampNeg (if (if (((h_i h 30 (((x4 * 16) + x2) : Int32).toNatClampNeg) + x3) + (h_i h 30 (((x1 * 16) + x5) : Int32).toNatClampNeg)) < (((h_i h 30 (((x4 * 16) + x1) : Int32).toNatClampNeg) + x3) + (h_i h 30 (((x2 * 16) + x5) : Int32).toNatClampNeg)) then (((h_i h 30 (((x4 * 16) + x2) : Int32).toNatClampNeg) + x3) + (h_i h 30 (((x1 * 16) + x5) : Int32).toNatClampNeg)) else (((h_i h 30 (((x4 * 16) + x1) : Int32).toNatClampNeg) + x3) + (h_i h 30 (((x2 * 16) + x5) : Int32).toNatClampNeg))) < (h_i h 30 (((x4 * 16) + x5) : Int32).toNatClampNeg) then (if (((h_i h 30 (((x4 * 16) + x2) : Int32).toNatClampNeg) + x3) + (h_i h 30 (((x1 * 16) + x5) : Int32).toNatClampNeg)) < (((h_i h 30 (((x4 * 16) + x1) : Int32).toNatClampNeg) + x3) + (h_i h 30 (((x2 * 16) + x5) : Int32).toNatClampNeg)) then (((h_i h 30 (((x4 * 16) + x2) : Int32).toNatClampNeg) + x3) + (h_i h 30 (((x1 * 16) + x5) : Int32).toNatClampNeg)) else (((h_i h 30 (((x4 * 16) + x1) : Int32).toNatClampNeg) + x3) + (h_i h 30 (((x2 * 16) + x5) : Int32).toNatClampNeg))) else (h_i h 30 (((x4 * 16) + x5) : Int32).toNatClampNeg))) (kI K))))))))) : AW (m_X9_lay (d + 1) 0 0) 0 0 24 [(0, .ref 10), (1, .int x1), (2, .int x2), (3, .int x3), (4, .int x4), (5, .int x5)] [] h (kI K) := by
  refine aw_iload d_X9_lay_24 5 rfl ?_
  refine aw_bipush (v := 16) d_X9_lay_26 ib_16 ?_
  refine aw_icmp_ge (tgt := 129) d_X9_lay_28 rfl (fun c3 => ?_) (fun c3 => ?_)
  · have k := k.1 c3
    refine aw_iinc (v := (x4 + 1)) [(0, .ref 10), (1, .int x1), (2, .int x2), (3, .int x3), (4, .int (x4 + 1)), (5, .int x5)] d_X9_lay_129 4 rfl rfl (Nat.le_of_ble_eq_true rfl) rfl rfl ?_
    refine aw_goto (tgt := 14) d_X9_lay_132 rfl ?_
    exact aw_lvp [0, 1, 2, 3, 4] [(0, .ref 10), (1, .int x1), (2, .int x2), (3, .int x3), (4, .int (x4 + 1))] rfl k
  · have k := k.2 c3
    refine aw_aload_n (i := 0) rfl d_X9_lay_31 0 rfl ?_
    refine aw_getr (k0 := 0) kc_9 (ws_10 w) (Nat.le_of_ble_eq_true rfl) tw_42 d_X9_lay_32 rfl (wr_10_0 w) ?_
    refine aw_iload d_X9_lay_35 4 rfl ?_
    refine aw_bipush (v := 16) d_X9_lay_37 ib_16 ?_
    refine aw_imul d_X9_lay_39 ?_
    refine aw_iload_n (i := 1) rfl d_X9_lay_40 1 rfl ?_
    refine aw_iadd d_X9_lay_41 ?_
    obtain ⟨b4, k⟩ := k
    refine aw_iald (ws_30 w) b4 d_X9_lay_42 ?_
    refine aw_iload_n (i := 3) rfl d_X9_lay_43 3 rfl ?_
    refine aw_iadd d_X9_lay_44 ?_
    refine aw_aload_n (i := 0) rfl d_X9_lay_45 0 rfl ?_
    refine aw_getr (k0 := 0) kc_9 (ws_10 w) (Nat.le_of_ble_eq_true rfl) tw_42 d_X9_lay_46 rfl (wr_10_0 w) ?_
    refine aw_iload_n (i := 2) rfl d_X9_lay_49 2 rfl ?_
    refine aw_bipush (v := 16) d_X9_lay_50 ib_16 ?_
    refine aw_imul d_X9_lay_52 ?_
    refine aw_iload d_X9_lay_53 5 rfl ?_
    refine aw_iadd d_X9_lay_55 ?_
    obtain ⟨b5, k⟩ := k
    refine aw_iald (ws_30 w) b5 d_X9_lay_56 ?_
    refine aw_iadd d_X9_lay_57 ?_
    refine aw_istore [(0, .ref 10), (1, .int x1), (2, .int x2), (3, .int x3), (4, .int x4), (5, .int x5), (6, .int (((h_i h 30 (((x4 * 16) + x1) : Int32).toNatClampNeg) + x3) + (h_i h 30 (((x2 * 16) + x5) : Int32).toNatClampNeg)))] d_X9_lay_58 (Nat.le_of_ble_eq_true rfl) rfl rfl ?_
    refine aw_aload_n (i := 0) rfl d_X9_lay_60 0 rfl ?_
    refine aw_getr (k0 := 0) kc_9 (ws_10 w) (Nat.le_of_ble_eq_true rfl) tw_42 d_X9_lay_61 rfl (wr_10_0 w) ?_
    refine aw_iload d_X9_lay_64 4 rfl ?_
    refine aw_bipush (v := 16) d_X9_lay_66 ib_16 ?_
    refine aw_imul d_X9_lay_68 ?_
    refine aw_iload_n (i := 2) rfl d_X9_lay_69 2 rfl ?_
    refine aw_iadd d_X9_lay_70 ?_
    obtain ⟨b6, k⟩ := k
    refine aw_iald (ws_30 w) b6 d_X9_lay_71 ?_
    refine aw_iload_n (i := 3) rfl d_X9_lay_72 3 rfl ?_
    refine aw_iadd d_X9_lay_73 ?_
    refine aw_aload_n (i := 0) rfl d_X9_lay_74 0 rfl ?_
    refine aw_getr (k0 := 0) kc_9 (ws_10 w) (Nat.le_of_ble_eq_true rfl) tw_42 d_X9_lay_75 rfl (wr_10_0 w) ?_
    refine aw_iload_n (i := 1) rfl d_X9_lay_78 1 rfl ?_
    refine aw_bipush (v := 16) d_X9_lay_79 ib_16 ?_
    refine aw_imul d_X9_lay_81 ?_
    refine aw_iload d_X9_lay_82 5 rfl ?_
    refine aw_iadd d_X9_lay_84 ?_
    obtain ⟨b7, k⟩ := k
    refine aw_iald (ws_30 w) b7 d_X9_lay_85 ?_
    refine aw_iadd d_X9_lay_86 ?_
    refine aw_istore [(0, .ref 10), (1, .int x1), (2, .int x2), (3, .int x3), (4, .int x4), (5, .int x5), (6, .int (((h_i h 30 (((x4 * 16) + x1) : Int32).toNatClampNeg) + x3) + (h_i h 30 (((x2 * 16) + x5) : Int32).toNatClampNeg))), (7, .int (((h_i h 30 (((x4 * 16) + x2) : Int32).toNatClampNeg) + x3) + (h_i h 30 (((x1 * 16) + x5) : Int32).toNatClampNeg)))] d_X9_lay_87 (Nat.le_of_ble_eq_true rfl) rfl rfl ?_
    refine aw_iload d_X9_lay_89 4 rfl ?_
    refine aw_bipush (v := 16) d_X9_lay_91 ib_16 ?_
    refine aw_imul d_X9_lay_93 ?_
    refine aw_iload d_X9_lay_94 5 rfl ?_
    refine aw_iadd d_X9_lay_96 ?_
    refine aw_istore [(0, .ref 10), (1, .int x1), (2, .int x2), (3, .int x3), (4, .int x4), (5, .int x5), (6, .int (((h_i h 30 (((x4 * 16) + x1) : Int32).toNatClampNeg) + x3) + (h_i h 30 (((x2 * 16) + x5) : Int32).toNatClampNeg))), (7, .int (((h_i h 30 (((x4 * 16) + x2) : Int32).toNatClampNeg) + x3) + (h_i h 30 (((x1 * 16) + x5) : Int32).toNatClampNeg))), (8, .int ((x4 * 16) + x5))] d_X9_lay_97 (Nat.le_of_ble_eq_true rfl) rfl rfl ?_
    refine aw_aload_n (i := 0) rfl d_X9_lay_99 0 rfl ?_
    refine aw_getr (k0 := 0) kc_9 (ws_10 w) (Nat.le_of_ble_eq_true rfl) tw_42 d_X9_lay_100 rfl (wr_10_0 w) ?_
    refine aw_iload d_X9_lay_103 8 rfl ?_
    refine aw_aload_n (i := 0) rfl d_X9_lay_105 0 rfl ?_
    refine aw_getr (k0 := 0) kc_9 (ws_10 w) (Nat.le_of_ble_eq_true rfl) tw_42 d_X9_lay_106 rfl (wr_10_0 w) ?_
    refine aw_iload d_X9_lay_109 8 rfl ?_
    obtain ⟨b8, k⟩ := k
    refine aw_iald (ws_30 w) b8 d_X9_lay_111 ?_
    refine aw_iload d_X9_lay_112 6 rfl ?_
    refine aw_iload d_X9_lay_114 7 rfl ?_
    refine aw_mmin d_X9_lay_116 tw_550 (show 1 ≤ (d + 1) by omega) (Nat.le_trans (Nat.le_of_ble_eq_true rfl) (show 100 ≤ 100 * (d + 1) by omega)) ⟨Nat.le_refl _, Nat.le_refl _⟩ ?_
    refine aw_mmin d_X9_lay_119 tw_550 (show 1 ≤ (d + 1) by omega) (Nat.le_trans (Nat.le_of_ble_eq_true rfl) (show 100 ≤ 100 * (d + 1) by omega)) ⟨Nat.le_refl _, Nat.le_refl _⟩ ?_
    obtain ⟨b9, k⟩ := k
    refine aw_iast (ws_30 w) b9 d_X9_lay_122 ?_
    refine aw_iinc (v := (x5 + 1)) [(0, .ref 10), (1, .int x1), (2, .int x2), (3, .int x3), (4, .int x4), (5, .int (x5 + 1)), (6, .int (((h_i h 30 (((x4 * 16) + x1) : Int32).toNatClampNeg) + x3) + (h_i h 30 (((x2 * 16) + x5) : Int32).toNatClampNeg))), (7, .int (((h_i h 30 (((x4 * 16) + x2) : Int32).toNatClampNeg) + x3) + (h_i h 30 (((x1 * 16) + x5) : Int32).toNatClampNeg))), (8, .int ((x4 * 16) + x5))] d_X9_lay_123 5 rfl rfl (Nat.le_of_ble_eq_true rfl) rfl rfl ?_
    refine aw_goto (tgt := 24) d_X9_lay_126 rfl ?_
    exact aw_lvp [0, 1, 2, 3, 4, 5] [(0, .ref 10), (1, .int x1), (2, .int x2), (3, .int x3), (4, .int x4), (5, .int (x5 + 1))] rfl k
theorem t_X12_path (d : Nat) (h : Hp_) (w : Wf h) (x1 : Int32) (x2 : Int32) (x3 : Int32) (K : Int32 → Hp_ → Prop) (k : (¬ (0 ≤ x1 ∧ x1 ≤ 15) → K (-1) h) ∧ ((0 ≤ x1 ∧ x1 ≤ 15) → (¬ (0 ≤ x2 ∧ x2 ≤ 15) → K (-1) h) ∧ ((0 ≤ x2 ∧ x2 ≤ 15) → (x1 = x2 → K (-1) h) ∧ (¬ x1 = x2 → (¬ (1 ≤ x3 ∧ x3 ≤ 60) → K (-1) h) ∧ ((1 ≤ x3 ∧ x3 ≤ 60) → (¬ (h_i h 1 6) = 40 → vp_in (h_i h 1 6) 40 ∧ (vp_in (h_i h 1 6) 40 ∧ (vp_in (h_i h 1 6) 40 ∧ (K (((h_i h 1 6) + 1) - 1) (h_im (h_im (h_im (h_im h 200 ((h_i h 1 6) : Int32).toNatClampNeg x1) 201 ((h_i h 1 6) : Int32).toNatClampNeg x2) 202 ((h_i h 1 6) : Int32).toNatClampNeg x3) 1 6 ((h_i h 1 6) + 1)))))) ∧ ((h_i h 1 6) = 40 → K (-1) h)))))) : Ci (m_X12_path (d + 2) 0 0) [.ref 1, .int x1, .int x2, .int x3] h K := by
  refine Ct.of (fun _ _ _ => trivial) rfl (Nat.le_of_ble_eq_true rfl) ?_
  show AW (m_X12_path (d + 2) 0 0) 0 0 0 [(0, .ref 1), (1, .int x1), (2, .int x2), (3, .int x3)] [] h (kI K)
  refine aw_iload_n (i := 1) rfl d_X12_path_0 1 rfl ?_
  refine aw_Si [.int x1] [] d_X12_path_1 (cS_X12_isPlace (d + 1) 0 0) tw_2140 rfl (rr0 (Nat.le_of_ble_eq_true rfl) (Nat.le_of_ble_eq_true rfl)) (Nat.le_of_ble_eq_true rfl) xs0 (s_X12_isPlace _ _ x1) (fun _ _ kk => ?_)
  obtain ⟨e1, e2⟩ := kk
  rw [e1, e2]
  refine aw_ifb_eq (tgt := 38) d_X12_path_4 rfl (fun c3 => ?_) (fun c3 => ?_)
  · have k := k.1 c3
    refine aw_iconst (v := (-1)) d_X12_path_38 ic_m1 ?_
    exact aw_iret rfl d_X12_path_39 ⟨Nat.le_refl _, Nat.le_refl _⟩ ⟨_, rfl, k⟩
  · have k := k.2 c3
    refine aw_iload_n (i := 2) rfl d_X12_path_7 2 rfl ?_
    refine aw_Si [.int x2] [] d_X12_path_8 (cS_X12_isPlace (d + 1) 0 0) tw_2140 rfl (rr0 (Nat.le_of_ble_eq_true rfl) (Nat.le_of_ble_eq_true rfl)) (Nat.le_of_ble_eq_true rfl) xs0 (s_X12_isPlace _ _ x2) (fun _ _ kk => ?_)
    obtain ⟨e4, e5⟩ := kk
    rw [e4, e5]
    refine aw_ifb_eq (tgt := 38) d_X12_path_11 rfl (fun c6 => ?_) (fun c6 => ?_)
    · have k := k.1 c6
      refine aw_iconst (v := (-1)) d_X12_path_38 ic_m1 ?_
      exact aw_iret rfl d_X12_path_39 ⟨Nat.le_refl _, Nat.le_refl _⟩ ⟨_, rfl, k⟩
    · have k := k.2 c6
      refine aw_iload_n (i := 1) rfl d_X12_path_14 1 rfl ?_
      refine aw_iload_n (i := 2) rfl d_X12_path_15 2 rfl ?_
      refine aw_icmp_eq (tgt := 38) d_X12_path_16 rfl (fun c7 => ?_) (fun c7 => ?_)
      · have k := k.1 c7
        refine aw_iconst (v := (-1)) d_X12_path_38 ic_m1 ?_
        exact aw_iret rfl d_X12_path_39 ⟨Nat.le_refl _, Nat.le_refl _⟩ ⟨_, rfl, k⟩
      · have k := k.2 c7
        refine aw_iload_n (i := 3) rfl d_X12_path_19 3 rfl ?_
        refine aw_iconst (v := 1) d_X12_path_20 ic_1 ?_
        refine aw_bipush (v := 60) d_X12_path_21 ib_60 ?_
        refine aw_Si [.int x3, .int 1, .int 60] [] d_X12_path_23 (cS_X12_in (d + 0) 0 0) tw_2143 rfl (rr0 (Nat.le_of_ble_eq_true rfl) (Nat.le_of_ble_eq_true rfl)) (Nat.le_of_ble_eq_true rfl) xs0 (s_X12_in _ _ x3 1 60) (fun _ _ kk => ?_)
        obtain ⟨e8, e9⟩ := kk
        rw [e8, e9]
        refine aw_ifb_eq (tgt := 38) d_X12_path_26 rfl (fun c10 => ?_) (fun c10 => ?_)
        · have k := k.1 c10
          refine aw_iconst (v := (-1)) d_X12_path_38 ic_m1 ?_
          exact aw_iret rfl d_X12_path_39 ⟨Nat.le_refl _, Nat.le_refl _⟩ ⟨_, rfl, k⟩
        · have k := k.2 c10
          refine aw_aload_n (i := 0) rfl d_X12_path_29 0 rfl ?_
          refine aw_geti (k0 := 6) kc_12 (ws_1 w) (Nat.le_of_ble_eq_true rfl) tw_1748 d_X12_path_30 rfl ?_
          refine aw_bipush (v := 40) d_X12_path_33 ib_40 ?_
          refine aw_icmp_ne (tgt := 40) d_X12_path_35 rfl (fun c11 => ?_) (fun c11 => ?_)
          · have k := k.1 c11
            refine aw_aload_n (i := 0) rfl d_X12_path_40 0 rfl ?_
            refine aw_getr (k0 := 2) kc_12 (ws_1 w) (Nat.le_of_ble_eq_true rfl) tw_1744 d_X12_path_41 rfl (wr_1_2 w) ?_
            refine aw_aload_n (i := 0) rfl d_X12_path_44 0 rfl ?_
            refine aw_geti (k0 := 6) kc_12 (ws_1 w) (Nat.le_of_ble_eq_true rfl) tw_1748 d_X12_path_45 rfl ?_
            refine aw_iload_n (i := 1) rfl d_X12_path_48 1 rfl ?_
            obtain ⟨b12, k⟩ := k
            refine aw_iast (ws_200 w) b12 d_X12_path_49 ?_
            refine aw_aload_n (i := 0) rfl d_X12_path_50 0 rfl ?_
            refine aw_getr (k0 := 3) kc_12 (ws_1 w) (Nat.le_of_ble_eq_true rfl) tw_1745 d_X12_path_51 rfl (wr_1_3 w) ?_
            refine aw_aload_n (i := 0) rfl d_X12_path_54 0 rfl ?_
            refine aw_geti (k0 := 6) kc_12 (ws_1 w) (Nat.le_of_ble_eq_true rfl) tw_1748 d_X12_path_55 rfl ?_
            refine aw_vi (v2 := (h_i h 1 6)) (rfl) ?_
            refine aw_iload_n (i := 2) rfl d_X12_path_58 2 rfl ?_
            obtain ⟨b13, k⟩ := k
            refine aw_iast (ws_201 w) b13 d_X12_path_59 ?_
            refine aw_aload_n (i := 0) rfl d_X12_path_60 0 rfl ?_
            refine aw_getr (k0 := 4) kc_12 (ws_1 w) (Nat.le_of_ble_eq_true rfl) tw_1746 d_X12_path_61 rfl (wr_1_4 w) ?_
            refine aw_aload_n (i := 0) rfl d_X12_path_64 0 rfl ?_
            refine aw_geti (k0 := 6) kc_12 (ws_1 w) (Nat.le_of_ble_eq_true rfl) tw_1748 d_X12_path_65 rfl ?_
            refine aw_vi (v2 := (h_i h 1 6)) (rfl) ?_
            refine aw_iload_n (i := 3) rfl d_X12_path_68 3 rfl ?_
            obtain ⟨b14, k⟩ := k
            refine aw_iast (ws_202 w) b14 d_X12_path_69 ?_
            refine aw_aload_n (i := 0) rfl d_X12_path_70 0 rfl ?_
            refine aw_dup d_X12_path_71 rfl ?_
            refine aw_geti (k0 := 6) kc_12 (ws_1 w) (Nat.le_of_ble_eq_true rfl) tw_1748 d_X12_path_72 rfl ?_
            refine aw_vi (v2 := (h_i h 1 6)) (rfl) ?_
            refine aw_iconst (v := 1) d_X12_path_75 ic_1 ?_
            refine aw_iadd d_X12_path_76 ?_
            refine aw_puti (k0 := 6) kc_12 (ws_1 w) (Nat.le_of_ble_eq_true rfl) tw_1748 d_X12_path_77 rfl rfl nf_i ?_
            refine aw_aload_n (i := 0) rfl d_X12_path_80 0 rfl ?_
            refine aw_geti (k0 := 6) kc_12 (ws_1 w) (Nat.le_of_ble_eq_true rfl) tw_1748 d_X12_path_81 rfl ?_
            refine aw_vi (v2 := ((h_i h 1 6) + 1)) (rfl) ?_
            refine aw_iconst (v := 1) d_X12_path_84 ic_1 ?_
            refine aw_isub d_X12_path_85 ?_
            exact aw_iret rfl d_X12_path_86 ⟨Nat.le_refl _, Nat.le_refl _⟩ ⟨_, rfl, k⟩
          · have k := k.2 c11
            refine aw_iconst (v := (-1)) d_X12_path_38 ic_m1 ?_
            exact aw_iret rfl d_X12_path_39 ⟨Nat.le_refl _, Nat.le_refl _⟩ ⟨_, rfl, k⟩
theorem t_X11_path (d : Nat) (h : Hp_) (x1 : Int32) (x2 : Int32) (x3 : Int32) (K : Int32 → Hp_ → Prop) (k : Ci (m_X11_isPlace (d + 0) 0 0) [.int x1] h (fun r3 h1 => Wf h1 ∧ ((r3 = 0 → K (-1) h1) ∧ (¬ r3 = 0 → Ci (m_X11_isPlace (d + 0) 0 0) [.int x2] h1 (fun r7 h5 => Wf h5 ∧ ((r7 = 0 → K (-1) h5) ∧ (¬ r7 = 0 → (x1 = x2 → K (-1) h5) ∧ (¬ x1 = x2 → ((1 ≤ x3 ∧ x3 ≤ 60) → Ci (m_X9_lay (d + 1) 0 0) [.ref 10, .int x1, .int x2, .int x3] h5 (fun r15 h13 => Wf h13 ∧ (K r15 h13))) ∧ (¬ (1 ≤ x3 ∧ x3 ≤ 60) → K (-1) h5))))))))) : Ci (m_X11_path (d + 2) 0 0) [.ref 0, .int x1, .int x2, .int x3] h K := by
  refine Ct.of (fun _ _ _ => trivial) rfl (Nat.le_of_ble_eq_true rfl) ?_
  show AW (m_X11_path (d + 2) 0 0) 0 0 0 [(0, .ref 0), (1, .int x1), (2, .int x2), (3, .int x3)] [] h (kI K)
  refine aw_iload_n (i := 1) rfl d_X11_path_0 1 rfl ?_
  refine aw_Si [.int x1] [] d_X11_path_1 (cS_X11_isPlace (d + 0) 0 0) tw_540 rfl (rr0 (Nat.le_of_ble_eq_true rfl) (Nat.le_of_ble_eq_true rfl)) (Nat.le_of_ble_eq_true rfl) xs0 k (fun r3 h1 kk => ?_)
  obtain ⟨w2, k⟩ := kk
  refine aw_if_eq (tgt := 29) d_X11_path_4 rfl (fun c4 => ?_) (fun c4 => ?_)
  · have k := k.1 c4
    refine aw_iconst (v := (-1)) d_X11_path_29 ic_m1 ?_
    exact aw_iret rfl d_X11_path_30 ⟨Nat.le_refl _, Nat.le_refl _⟩ ⟨_, rfl, k⟩
  · have k := k.2 c4
    refine aw_iload_n (i := 2) rfl d_X11_path_7 2 rfl ?_
    refine aw_Si [.int x2] [] d_X11_path_8 (cS_X11_isPlace (d + 0) 0 0) tw_540 rfl (rr0 (Nat.le_of_ble_eq_true rfl) (Nat.le_of_ble_eq_true rfl)) (Nat.le_of_ble_eq_true rfl) xs0 k (fun r7 h5 kk => ?_)
    obtain ⟨w6, k⟩ := kk
    refine aw_if_eq (tgt := 29) d_X11_path_11 rfl (fun c8 => ?_) (fun c8 => ?_)
    · have k := k.1 c8
      refine aw_iconst (v := (-1)) d_X11_path_29 ic_m1 ?_
      exact aw_iret rfl d_X11_path_30 ⟨Nat.le_refl _, Nat.le_refl _⟩ ⟨_, rfl, k⟩
    · have k := k.2 c8
      refine aw_iload_n (i := 1) rfl d_X11_path_14 1 rfl ?_
      refine aw_iload_n (i := 2) rfl d_X11_path_15 2 rfl ?_
      refine aw_icmp_eq (tgt := 29) d_X11_path_16 rfl (fun c9 => ?_) (fun c9 => ?_)
      · have k := k.1 c9
        refine aw_iconst (v := (-1)) d_X11_path_29 ic_m1 ?_
        exact aw_iret rfl d_X11_path_30 ⟨Nat.le_refl _, Nat.le_refl _⟩ ⟨_, rfl, k⟩
      · have k := k.2 c9
        refine aw_iload_n (i := 3) rfl d_X11_path_19 3 rfl ?_
        refine aw_iconst (v := 1) d_X11_path_20 ic_1 ?_
        refine aw_bipush (v := 60) d_X11_path_21 ib_60 ?_
        refine aw_Si [.int x3, .int 1, .int 60] [] d_X11_path_23 (cS_X11_within (d + 0) 0 0) tw_543 rfl (rr0 (Nat.le_of_ble_eq_true rfl) (Nat.le_of_ble_eq_true rfl)) (Nat.le_of_ble_eq_true rfl) xs0 (s_X11_within _ _ x3 1 60) (fun _ _ kk => ?_)
        obtain ⟨e10, e11⟩ := kk
        rw [e10, e11]
        refine aw_ifb_ne (tgt := 31) d_X11_path_26 rfl (fun c12 => ?_) (fun c12 => ?_)
        · have k := k.1 c12
          refine aw_aload_n (i := 0) rfl d_X11_path_31 0 rfl ?_
          refine aw_getr (k0 := 1) kc_11 (ws_0 w6) (Nat.le_of_ble_eq_true rfl) tw_488 d_X11_path_32 rfl (wr_0_1 w6) ?_
          refine aw_iload_n (i := 1) rfl d_X11_path_35 1 rfl ?_
          refine aw_iload_n (i := 2) rfl d_X11_path_36 2 rfl ?_
          refine aw_iload_n (i := 3) rfl d_X11_path_37 3 rfl ?_
          refine aw_Vi 10 [.int x1, .int x2, .int x3] [] d_X11_path_38 (cV_X9_lay (d + 1) 0 0) kc_9 (ws_10 w6) tw_546 rfl (rr0 (Nat.le_of_ble_eq_true rfl) (Nat.le_of_ble_eq_true rfl)) (Nat.le_of_ble_eq_true rfl) xs0 k (fun r15 h13 kk => ?_)
          obtain ⟨w14, k⟩ := kk
          exact aw_iret rfl d_X11_path_41 ⟨Nat.le_refl _, Nat.le_refl _⟩ ⟨_, rfl, k⟩
        · have k := k.2 c12
          refine aw_iconst (v := (-1)) d_X11_path_29 ic_m1 ?_
          exact aw_iret rfl d_X11_path_30 ⟨Nat.le_refl _, Nat.le_refl _⟩ ⟨_, rfl, k⟩
theorem t_X9_minutes (d : Nat) (h : Hp_) (x1 : Int32) (x2 : Int32) (K : Int32 → Hp_ → Prop) (k : Ci (m_X11_isPlace (d + 0) 0 0) [.int x1] h (fun r3 h1 => Wf h1 ∧ ((r3 = 0 → K (-1) h1) ∧ (¬ r3 = 0 → Ci (m_X11_isPlace (d + 0) 0 0) [.int x2] h1 (fun r7 h5 => Wf h5 ∧ ((¬ r7 = 0 → vp_in ((x1 * 16) + x2) 256 ∧ (((h_i h5 30 (((x1 * 16) + x2) : Int32).toNatClampNeg) < 1000000 → K (h_i h5 30 (((x1 * 16) + x2) : Int32).toNatClampNeg) h5) ∧ (¬ (h_i h5 30 (((x1 * 16) + x2) : Int32).toNatClampNeg) < 1000000 → K (-1) h5))) ∧ (r7 = 0 → K (-1) h5))))))) : Ci (m_X9_minutes (d + 1) 0 0) [.ref 10, .int x1, .int x2] h K := by
  refine Ct.of (fun _ _ _ => trivial) rfl (Nat.le_of_ble_eq_true rfl) ?_
  show AW (m_X9_minutes (d + 1) 0 0) 0 0 0 [(0, .ref 10), (1, .int x1), (2, .int x2)] [] h (kI K)
  refine aw_iload_n (i := 1) rfl d_X9_minutes_0 1 rfl ?_
  refine aw_SNi [.int x1] [] d_X9_minutes_1 (cS_X11_isPlace (d + 0) 0 0) (List.mem_of_getElem? (i := 7) rfl) rfl (rr0 (Nat.le_of_ble_eq_true rfl) (Nat.le_of_ble_eq_true rfl)) (Nat.le_of_ble_eq_true rfl) xs0 k (fun r3 h1 kk => ?_)
  obtain ⟨w2, k⟩ := kk
  refine aw_if_eq (tgt := 14) d_X9_minutes_4 rfl (fun c4 => ?_) (fun c4 => ?_)
  · have k := k.1 c4
    refine aw_iconst (v := (-1)) d_X9_minutes_14 ic_m1 ?_
    exact aw_iret rfl d_X9_minutes_15 ⟨Nat.le_refl _, Nat.le_refl _⟩ ⟨_, rfl, k⟩
  · have k := k.2 c4
    refine aw_iload_n (i := 2) rfl d_X9_minutes_7 2 rfl ?_
    refine aw_SNi [.int x2] [] d_X9_minutes_8 (cS_X11_isPlace (d + 0) 0 0) (List.mem_of_getElem? (i := 7) rfl) rfl (rr0 (Nat.le_of_ble_eq_true rfl) (Nat.le_of_ble_eq_true rfl)) (Nat.le_of_ble_eq_true rfl) xs0 k (fun r7 h5 kk => ?_)
    obtain ⟨w6, k⟩ := kk
    refine aw_if_ne (tgt := 16) d_X9_minutes_11 rfl (fun c8 => ?_) (fun c8 => ?_)
    · have k := k.1 c8
      refine aw_aload_n (i := 0) rfl d_X9_minutes_16 0 rfl ?_
      refine aw_getr (k0 := 0) kc_9 (ws_10 w6) (Nat.le_of_ble_eq_true rfl) tw_42 d_X9_minutes_17 rfl (wr_10_0 w6) ?_
      refine aw_iload_n (i := 1) rfl d_X9_minutes_20 1 rfl ?_
      refine aw_bipush (v := 16) d_X9_minutes_21 ib_16 ?_
      refine aw_imul d_X9_minutes_23 ?_
      refine aw_iload_n (i := 2) rfl d_X9_minutes_24 2 rfl ?_
      refine aw_iadd d_X9_minutes_25 ?_
      obtain ⟨b9, k⟩ := k
      refine aw_iald (ws_30 w6) b9 d_X9_minutes_26 ?_
      refine aw_istore_n (i := 3) rfl [(0, .ref 10), (1, .int x1), (2, .int x2), (3, .int (h_i h5 30 (((x1 * 16) + x2) : Int32).toNatClampNeg))] d_X9_minutes_27 (Nat.le_of_ble_eq_true rfl) rfl rfl ?_
      refine aw_iload_n (i := 3) rfl d_X9_minutes_28 3 rfl ?_
      refine aw_ldc (v := 1000000) d_X9_minutes_29 tw_41 ?_
      refine aw_icmp_lt (tgt := 38) d_X9_minutes_31 rfl (fun c10 => ?_) (fun c10 => ?_)
      · have k := k.1 c10
        refine aw_iload_n (i := 3) rfl d_X9_minutes_38 3 rfl ?_
        exact aw_iret rfl d_X9_minutes_39 ⟨Nat.le_refl _, Nat.le_refl _⟩ ⟨_, rfl, k⟩
      · have k := k.2 c10
        refine aw_iconst (v := (-1)) d_X9_minutes_34 ic_m1 ?_
        refine aw_goto (tgt := 39) d_X9_minutes_35 rfl ?_
        exact aw_iret rfl d_X9_minutes_39 ⟨Nat.le_refl _, Nat.le_refl _⟩ ⟨_, rfl, k⟩
    · have k := k.2 c8
      refine aw_iconst (v := (-1)) d_X9_minutes_14 ic_m1 ?_
      exact aw_iret rfl d_X9_minutes_15 ⟨Nat.le_refl _, Nat.le_refl _⟩ ⟨_, rfl, k⟩
theorem t_X11_walk (d : Nat) (h : Hp_) (x1 : Int32) (x2 : Int32) (K : Int32 → Hp_ → Prop) (k : Ci (m_X11_isPlace (d + 0) 0 0) [.int x1] h (fun r3 h1 => Wf h1 ∧ ((r3 = 0 → K (-1) h1) ∧ (¬ r3 = 0 → Ci (m_X11_isPlace (d + 0) 0 0) [.int x2] h1 (fun r7 h5 => Wf h5 ∧ ((r7 = 0 → K (-1) h5) ∧ (¬ r7 = 0 → Ci (m_X9_minutes (d + 1) 0 0) [.ref 10, .int x1, .int x2] h5 (fun r11 h9 => Wf h9 ∧ (K r11 h9))))))))) : Ci (m_X11_walk (d + 2) 0 0) [.ref 0, .int x1, .int x2] h K := by
  refine Ct.of (fun _ _ _ => trivial) rfl (Nat.le_of_ble_eq_true rfl) ?_
  show AW (m_X11_walk (d + 2) 0 0) 0 0 0 [(0, .ref 0), (1, .int x1), (2, .int x2)] [] h (kI K)
  refine aw_iload_n (i := 1) rfl d_X11_walk_0 1 rfl ?_
  refine aw_Si [.int x1] [] d_X11_walk_1 (cS_X11_isPlace (d + 0) 0 0) tw_540 rfl (rr0 (Nat.le_of_ble_eq_true rfl) (Nat.le_of_ble_eq_true rfl)) (Nat.le_of_ble_eq_true rfl) xs0 k (fun r3 h1 kk => ?_)
  obtain ⟨w2, k⟩ := kk
  refine aw_if_eq (tgt := 26) d_X11_walk_4 rfl (fun c4 => ?_) (fun c4 => ?_)
  · have k := k.1 c4
    refine aw_iconst (v := (-1)) d_X11_walk_26 ic_m1 ?_
    exact aw_iret rfl d_X11_walk_27 ⟨Nat.le_refl _, Nat.le_refl _⟩ ⟨_, rfl, k⟩
  · have k := k.2 c4
    refine aw_iload_n (i := 2) rfl d_X11_walk_7 2 rfl ?_
    refine aw_Si [.int x2] [] d_X11_walk_8 (cS_X11_isPlace (d + 0) 0 0) tw_540 rfl (rr0 (Nat.le_of_ble_eq_true rfl) (Nat.le_of_ble_eq_true rfl)) (Nat.le_of_ble_eq_true rfl) xs0 k (fun r7 h5 kk => ?_)
    obtain ⟨w6, k⟩ := kk
    refine aw_if_eq (tgt := 26) d_X11_walk_11 rfl (fun c8 => ?_) (fun c8 => ?_)
    · have k := k.1 c8
      refine aw_iconst (v := (-1)) d_X11_walk_26 ic_m1 ?_
      exact aw_iret rfl d_X11_walk_27 ⟨Nat.le_refl _, Nat.le_refl _⟩ ⟨_, rfl, k⟩
    · have k := k.2 c8
      refine aw_aload_n (i := 0) rfl d_X11_walk_14 0 rfl ?_
      refine aw_getr (k0 := 1) kc_11 (ws_0 w6) (Nat.le_of_ble_eq_true rfl) tw_488 d_X11_walk_15 rfl (wr_0_1 w6) ?_
      refine aw_iload_n (i := 1) rfl d_X11_walk_18 1 rfl ?_
      refine aw_iload_n (i := 2) rfl d_X11_walk_19 2 rfl ?_
      refine aw_Vi 10 [.int x1, .int x2] [] d_X11_walk_20 (cV_X9_minutes (d + 1) 0 0) kc_9 (ws_10 w6) tw_557 rfl (rr0 (Nat.le_of_ble_eq_true rfl) (Nat.le_of_ble_eq_true rfl)) (Nat.le_of_ble_eq_true rfl) xs0 k (fun r11 h9 kk => ?_)
      obtain ⟨w10, k⟩ := kk
      refine aw_goto (tgt := 27) d_X11_walk_23 rfl ?_
      exact aw_iret rfl d_X11_walk_27 ⟨Nat.le_refl _, Nat.le_refl _⟩ ⟨_, rfl, k⟩
theorem t_X12_walk (d : Nat) (h : Hp_) (w : Wf h) (x1 : Int32) (x2 : Int32) (K : Int32 → Hp_ → Prop) (k : (¬ (0 ≤ x1 ∧ x1 ≤ 15) → K (-1) h) ∧ ((0 ≤ x1 ∧ x1 ≤ 15) → (¬ (0 ≤ x2 ∧ x2 ≤ 15) → K (-1) h) ∧ ((0 ≤ x2 ∧ x2 ≤ 15) → Ci (m_X12_walkOf (d + 0) 0 0) [.ref 1, .int x1, .int x2] h (fun r9 h7 => Wf h7 ∧ (K r9 h7))))) : Ci (m_X12_walk (d + 2) 0 0) [.ref 1, .int x1, .int x2] h K := by
  refine Ct.of (fun _ _ _ => trivial) rfl (Nat.le_of_ble_eq_true rfl) ?_
  show AW (m_X12_walk (d + 2) 0 0) 0 0 0 [(0, .ref 1), (1, .int x1), (2, .int x2)] [] h (kI K)
  refine aw_iload_n (i := 1) rfl d_X12_walk_0 1 rfl ?_
  refine aw_Si [.int x1] [] d_X12_walk_1 (cS_X12_isPlace (d + 1) 0 0) tw_2140 rfl (rr0 (Nat.le_of_ble_eq_true rfl) (Nat.le_of_ble_eq_true rfl)) (Nat.le_of_ble_eq_true rfl) xs0 (s_X12_isPlace _ _ x1) (fun _ _ kk => ?_)
  obtain ⟨e1, e2⟩ := kk
  rw [e1, e2]
  refine aw_ifb_eq (tgt := 23) d_X12_walk_4 rfl (fun c3 => ?_) (fun c3 => ?_)
  · have k := k.1 c3
    refine aw_iconst (v := (-1)) d_X12_walk_23 ic_m1 ?_
    exact aw_iret rfl d_X12_walk_24 ⟨Nat.le_refl _, Nat.le_refl _⟩ ⟨_, rfl, k⟩
  · have k := k.2 c3
    refine aw_iload_n (i := 2) rfl d_X12_walk_7 2 rfl ?_
    refine aw_Si [.int x2] [] d_X12_walk_8 (cS_X12_isPlace (d + 1) 0 0) tw_2140 rfl (rr0 (Nat.le_of_ble_eq_true rfl) (Nat.le_of_ble_eq_true rfl)) (Nat.le_of_ble_eq_true rfl) xs0 (s_X12_isPlace _ _ x2) (fun _ _ kk => ?_)
    obtain ⟨e4, e5⟩ := kk
    rw [e4, e5]
    refine aw_ifb_eq (tgt := 23) d_X12_walk_11 rfl (fun c6 => ?_) (fun c6 => ?_)
    · have k := k.1 c6
      refine aw_iconst (v := (-1)) d_X12_walk_23 ic_m1 ?_
      exact aw_iret rfl d_X12_walk_24 ⟨Nat.le_refl _, Nat.le_refl _⟩ ⟨_, rfl, k⟩
    · have k := k.2 c6
      refine aw_aload_n (i := 0) rfl d_X12_walk_14 0 rfl ?_
      refine aw_iload_n (i := 1) rfl d_X12_walk_15 1 rfl ?_
      refine aw_iload_n (i := 2) rfl d_X12_walk_16 2 rfl ?_
      refine aw_Vi 1 [.int x1, .int x2] [] d_X12_walk_17 (cV_X12_walkOf (d + 0) 0 0) kc_12 (ws_1 w) tw_2150 rfl (rr0 (Nat.le_of_ble_eq_true rfl) (Nat.le_of_ble_eq_true rfl)) (Nat.le_of_ble_eq_true rfl) xs0 k (fun r9 h7 kk => ?_)
      obtain ⟨w8, k⟩ := kk
      refine aw_goto (tgt := 24) d_X12_walk_20 rfl ?_
      exact aw_iret rfl d_X12_walk_24 ⟨Nat.le_refl _, Nat.le_refl _⟩ ⟨_, rfl, k⟩
