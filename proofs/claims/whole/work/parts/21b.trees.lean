theorem t_X12_least (d : Nat) (h : Hp_) (w : Wf h) (x1 : Int32) (K : Int32 → Hp_ → Prop) (k : ((1 ≤ x1 ∧ x1 ≤ 5) → K 1 (h_im h 1 103 x1)) ∧ (¬ (1 ≤ x1 ∧ x1 ≤ 5) → K 0 h)) : Ci (m_X12_least (d + 1) 0 0) [.ref 1, .int x1] h K := by
  refine Ct.of (fun _ _ _ => trivial) rfl (Nat.le_of_ble_eq_true rfl) ?_
  show AW (m_X12_least (d + 1) 0 0) 0 0 0 [(0, .ref 1), (1, .int x1)] [] h (kI K)
  refine aw_iload_n (i := 1) rfl d_X12_least_0 1 rfl ?_
  refine aw_iconst (v := 1) d_X12_least_1 ic_1 ?_
  refine aw_iconst (v := 5) d_X12_least_2 ic_5 ?_
  refine aw_Si [.int x1, .int 1, .int 5] [] d_X12_least_3 (cS_X12_in (d + 0) 0 0) tw_2147 rfl (rr0 (Nat.le_of_ble_eq_true rfl) (Nat.le_of_ble_eq_true rfl)) (Nat.le_of_ble_eq_true rfl) xs0 (s_X12_in _ _ x1 1 5) (fun _ _ kk => ?_)
  obtain ⟨e1, e2⟩ := kk
  rw [e1, e2]
  refine aw_ifb_ne (tgt := 11) d_X12_least_6 rfl (fun c3 => ?_) (fun c3 => ?_)
  · have k := k.1 c3
    refine aw_aload_n (i := 0) rfl d_X12_least_11 0 rfl ?_
    refine aw_iload_n (i := 1) rfl d_X12_least_12 1 rfl ?_
    refine aw_puti (k0 := 103) kc_12 (ws_1 w) (Nat.le_of_ble_eq_true rfl) tw_1845 d_X12_least_13 rfl rfl nf_i ?_
    refine aw_iconst (v := 1) d_X12_least_16 ic_1 ?_
    exact aw_zret rfl rfl d_X12_least_17 ⟨Nat.le_refl _, Nat.le_refl _⟩ ⟨_, rfl, k⟩
  · have k := k.2 c3
    refine aw_iconst (v := 0) d_X12_least_9 ic_0 ?_
    exact aw_zret rfl rfl d_X12_least_10 ⟨Nat.le_refl _, Nat.le_refl _⟩ ⟨_, rfl, k⟩
theorem t_X12_bestFrom (d : Nat) (h : Hp_) (x1 : Int32) (x2 : Int32) (K : Int32 → Hp_ → Prop) (k : AW (m_X12_bestFrom (d + 1) 0 0) 0 0 2 [(0, .ref 1), (1, .int x1), (2, .int x2), (3, .int 0)] [] h (kI K)) : Ci (m_X12_bestFrom (d + 1) 0 0) [.ref 1, .int x1, .int x2] h K := by
  refine Ct.of (fun _ _ _ => trivial) rfl (Nat.le_of_ble_eq_true rfl) ?_
  show AW (m_X12_bestFrom (d + 1) 0 0) 0 0 0 [(0, .ref 1), (1, .int x1), (2, .int x2)] [] h (kI K)
  refine aw_iconst (v := 0) d_X12_bestFrom_0 ic_0 ?_
  refine aw_istore_n (i := 3) rfl [(0, .ref 1), (1, .int x1), (2, .int x2), (3, .int 0)] d_X12_bestFrom_1 (Nat.le_of_ble_eq_true rfl) rfl rfl ?_
  exact k
theorem t_X12_bestFrom_2 (d : Nat) (h : Hp_) (w : Wf h) (x1 : Int32) (x2 : Int32) (x3 : Int32) (K : Int32 → Hp_ → Prop) (k : (256 ≤ x3 → AW (m_X12_bestFrom (d + 1) 0 0) 0 0 38 [(0, .ref 1), (1, .int x1), (2, .int x2), (3, .int ((h_i h 1 101) - 1))] [] h (kI K)) ∧ (¬ 256 ≤ x3 → vp_in ((256 * (h_i h 1 101)) + x3) 2304 ∧ (AW (m_X12_bestFrom (d + 1) 0 0) 0 0 2 [(0, .ref 1), (1, .int x1), (2, .int x2), (3, .int (x3 + 1))] [] (h_im h 280 (((256 * (h_i h 1 101)) + x3) : Int32).toNatClampNeg 0) (kI K)))) : AW (m_X12_bestFrom (d + 1) 0 0) 0 0 2 [(0, .ref 1), (1, .int x1), (2, .int x2), (3, .int x3)] [] h (kI K) := by
  refine aw_iload_n (i := 3) rfl d_X12_bestFrom_2 3 rfl ?_
  refine aw_sipush (v := 256) d_X12_bestFrom_3 is_256 ?_
  refine aw_icmp_ge (tgt := 31) d_X12_bestFrom_6 rfl (fun c1 => ?_) (fun c1 => ?_)
  · have k := k.1 c1
    refine aw_aload_n (i := 0) rfl d_X12_bestFrom_31 0 rfl ?_
    refine aw_geti (k0 := 101) kc_12 (ws_1 w) (Nat.le_of_ble_eq_true rfl) tw_1843 d_X12_bestFrom_32 rfl ?_
    refine aw_iconst (v := 1) d_X12_bestFrom_35 ic_1 ?_
    refine aw_isub d_X12_bestFrom_36 ?_
    refine aw_istore_n (i := 3) rfl [(0, .ref 1), (1, .int x1), (2, .int x2), (3, .int ((h_i h 1 101) - 1))] d_X12_bestFrom_37 (Nat.le_of_ble_eq_true rfl) rfl rfl ?_
    exact k
  · have k := k.2 c1
    refine aw_aload_n (i := 0) rfl d_X12_bestFrom_9 0 rfl ?_
    refine aw_getr (k0 := 104) kc_12 (ws_1 w) (Nat.le_of_ble_eq_true rfl) tw_1846 d_X12_bestFrom_10 rfl (wr_1_104 w) ?_
    refine aw_sipush (v := 256) d_X12_bestFrom_13 is_256 ?_
    refine aw_aload_n (i := 0) rfl d_X12_bestFrom_16 0 rfl ?_
    refine aw_geti (k0 := 101) kc_12 (ws_1 w) (Nat.le_of_ble_eq_true rfl) tw_1843 d_X12_bestFrom_17 rfl ?_
    refine aw_imul d_X12_bestFrom_20 ?_
    refine aw_iload_n (i := 3) rfl d_X12_bestFrom_21 3 rfl ?_
    refine aw_iadd d_X12_bestFrom_22 ?_
    refine aw_iconst (v := 0) d_X12_bestFrom_23 ic_0 ?_
    obtain ⟨b2, k⟩ := k
    refine aw_iast (ws_280 w) b2 d_X12_bestFrom_24 ?_
    refine aw_iinc (v := (x3 + 1)) [(0, .ref 1), (1, .int x1), (2, .int x2), (3, .int (x3 + 1))] d_X12_bestFrom_25 3 rfl rfl (Nat.le_of_ble_eq_true rfl) rfl rfl ?_
    refine aw_goto (tgt := 2) d_X12_bestFrom_28 rfl ?_
    exact k
theorem t_X12_bestFrom_38 (d : Nat) (h : Hp_) (w : Wf h) (x1 : Int32) (x2 : Int32) (x3 : Int32) (K : Int32 → Hp_ → Prop) (k : (x3 < 0 → vp_in 0 2304 ∧ (K (h_i h 280 (0 : Int32).toNatClampNeg) h)) ∧ (¬ x3 < 0 → AW (m_X12_bestFrom (d + 1) 0 0) 0 0 45 [(0, .ref 1), (1, .int x1), (2, .int x2), (3, .int x3), (4, .int 0)] [] h (kI K))) : AW (m_X12_bestFrom (d + 1) 0 0) 0 0 38 [(0, .ref 1), (1, .int x1), (2, .int x2), (3, .int x3)] [] h (kI K) := by
  refine aw_iload_n (i := 3) rfl d_X12_bestFrom_38 3 rfl ?_
  refine aw_if_lt (tgt := 201) d_X12_bestFrom_39 rfl (fun c3 => ?_) (fun c3 => ?_)
  · have k := k.1 c3
    refine aw_aload_n (i := 0) rfl d_X12_bestFrom_201 0 rfl ?_
    refine aw_getr (k0 := 104) kc_12 (ws_1 w) (Nat.le_of_ble_eq_true rfl) tw_1846 d_X12_bestFrom_202 rfl (wr_1_104 w) ?_
    refine aw_iconst (v := 0) d_X12_bestFrom_205 ic_0 ?_
    obtain ⟨b4, k⟩ := k
    refine aw_iald (ws_280 w) b4 d_X12_bestFrom_206 ?_
    exact aw_iret rfl d_X12_bestFrom_207 ⟨Nat.le_refl _, Nat.le_refl _⟩ ⟨_, rfl, k⟩
  · have k := k.2 c3
    refine aw_iconst (v := 0) d_X12_bestFrom_42 ic_0 ?_
    refine aw_istore [(0, .ref 1), (1, .int x1), (2, .int x2), (3, .int x3), (4, .int 0)] d_X12_bestFrom_43 (Nat.le_of_ble_eq_true rfl) rfl rfl ?_
    exact k
theorem t_X12_bestFrom_45 (d : Nat) (h : Hp_) (w : Wf h) (x1 : Int32) (x2 : Int32) (x3 : Int32) (x4 : Int32) (K : Int32 → Hp_ → Prop) (k : (256 ≤ x4 → AW (m_X12_bestFrom (d + 1) 0 0) 0 0 38 [(0, .ref 1), (1, .int x1), (2, .int x2), (3, .int (x3 + (-1)))] [] h (kI K)) ∧ (¬ 256 ≤ x4 → (¬ x3 = x1 → vp_in ((256 * (x3 + 1)) + x4) 2304 ∧ (AW (m_X12_bestFrom (d + 1) 0 0) 0 0 89 [(0, .ref 1), (1, .int x1), (2, .int x2), (3, .int x3), (4, .int x4), (5, .int (h_i h 280 (((256 * (x3 + 1)) + x4) : Int32).toNatClampNeg)), (6, .int 0)] [] h (kI K))) ∧ (x3 = x1 → (¬ x2 = (-1) → AW (m_X12_bestFrom (d + 1) 0 0) 0 0 89 [(0, .ref 1), (1, .int x1), (2, .int x2), (3, .int x3), (4, .int x4), (5, .int (-1000)), (6, .int 0)] [] h (kI K)) ∧ (x2 = (-1) → vp_in ((256 * (x3 + 1)) + x4) 2304 ∧ (AW (m_X12_bestFrom (d + 1) 0 0) 0 0 89 [(0, .ref 1), (1, .int x1), (2, .int x2), (3, .int x3), (4, .int x4), (5, .int (h_i h 280 (((256 * (x3 + 1)) + x4) : Int32).toNatClampNeg)), (6, .int 0)] [] h (kI K)))))) : AW (m_X12_bestFrom (d + 1) 0 0) 0 0 45 [(0, .ref 1), (1, .int x1), (2, .int x2), (3, .int x3), (4, .int x4)] [] h (kI K) := by
  refine aw_iload d_X12_bestFrom_45 4 rfl ?_
  refine aw_sipush (v := 256) d_X12_bestFrom_47 is_256 ?_
  refine aw_icmp_ge (tgt := 195) d_X12_bestFrom_50 rfl (fun c5 => ?_) (fun c5 => ?_)
  · have k := k.1 c5
    refine aw_iinc (v := (x3 + (-1))) [(0, .ref 1), (1, .int x1), (2, .int x2), (3, .int (x3 + (-1))), (4, .int x4)] d_X12_bestFrom_195 3 rfl rfl (Nat.le_of_ble_eq_true rfl) rfl rfl ?_
    refine aw_goto (tgt := 38) d_X12_bestFrom_198 rfl ?_
    exact aw_lvp [0, 1, 2, 3] [(0, .ref 1), (1, .int x1), (2, .int x2), (3, .int (x3 + (-1)))] rfl k
  · have k := k.2 c5
    refine aw_iload_n (i := 3) rfl d_X12_bestFrom_53 3 rfl ?_
    refine aw_iload_n (i := 1) rfl d_X12_bestFrom_54 1 rfl ?_
    refine aw_icmp_ne (tgt := 63) d_X12_bestFrom_55 rfl (fun c6 => ?_) (fun c6 => ?_)
    · have k := k.1 c6
      refine aw_aload_n (i := 0) rfl d_X12_bestFrom_63 0 rfl ?_
      refine aw_getr (k0 := 104) kc_12 (ws_1 w) (Nat.le_of_ble_eq_true rfl) tw_1846 d_X12_bestFrom_64 rfl (wr_1_104 w) ?_
      refine aw_sipush (v := 256) d_X12_bestFrom_67 is_256 ?_
      refine aw_iload_n (i := 3) rfl d_X12_bestFrom_70 3 rfl ?_
      refine aw_iconst (v := 1) d_X12_bestFrom_71 ic_1 ?_
      refine aw_iadd d_X12_bestFrom_72 ?_
      refine aw_imul d_X12_bestFrom_73 ?_
      refine aw_iload d_X12_bestFrom_74 4 rfl ?_
      refine aw_iadd d_X12_bestFrom_76 ?_
      obtain ⟨b7, k⟩ := k
      refine aw_iald (ws_280 w) b7 d_X12_bestFrom_77 ?_
      refine aw_goto (tgt := 84) d_X12_bestFrom_78 rfl ?_
      refine aw_istore [(0, .ref 1), (1, .int x1), (2, .int x2), (3, .int x3), (4, .int x4), (5, .int (h_i h 280 (((256 * (x3 + 1)) + x4) : Int32).toNatClampNeg))] d_X12_bestFrom_84 (Nat.le_of_ble_eq_true rfl) rfl rfl ?_
      refine aw_iconst (v := 0) d_X12_bestFrom_86 ic_0 ?_
      refine aw_istore [(0, .ref 1), (1, .int x1), (2, .int x2), (3, .int x3), (4, .int x4), (5, .int (h_i h 280 (((256 * (x3 + 1)) + x4) : Int32).toNatClampNeg)), (6, .int 0)] d_X12_bestFrom_87 (Nat.le_of_ble_eq_true rfl) rfl rfl ?_
      exact k
    · have k := k.2 c6
      refine aw_iload_n (i := 2) rfl d_X12_bestFrom_58 2 rfl ?_
      refine aw_iconst (v := (-1)) d_X12_bestFrom_59 ic_m1 ?_
      refine aw_icmp_ne (tgt := 81) d_X12_bestFrom_60 rfl (fun c8 => ?_) (fun c8 => ?_)
      · have k := k.1 c8
        refine aw_sipush (v := (-1000)) d_X12_bestFrom_81 is_m1000 ?_
        refine aw_istore [(0, .ref 1), (1, .int x1), (2, .int x2), (3, .int x3), (4, .int x4), (5, .int (-1000))] d_X12_bestFrom_84 (Nat.le_of_ble_eq_true rfl) rfl rfl ?_
        refine aw_iconst (v := 0) d_X12_bestFrom_86 ic_0 ?_
        refine aw_istore [(0, .ref 1), (1, .int x1), (2, .int x2), (3, .int x3), (4, .int x4), (5, .int (-1000)), (6, .int 0)] d_X12_bestFrom_87 (Nat.le_of_ble_eq_true rfl) rfl rfl ?_
        exact k
      · have k := k.2 c8
        refine aw_aload_n (i := 0) rfl d_X12_bestFrom_63 0 rfl ?_
        refine aw_getr (k0 := 104) kc_12 (ws_1 w) (Nat.le_of_ble_eq_true rfl) tw_1846 d_X12_bestFrom_64 rfl (wr_1_104 w) ?_
        refine aw_sipush (v := 256) d_X12_bestFrom_67 is_256 ?_
        refine aw_iload_n (i := 3) rfl d_X12_bestFrom_70 3 rfl ?_
        refine aw_iconst (v := 1) d_X12_bestFrom_71 ic_1 ?_
        refine aw_iadd d_X12_bestFrom_72 ?_
        refine aw_imul d_X12_bestFrom_73 ?_
        refine aw_iload d_X12_bestFrom_74 4 rfl ?_
        refine aw_iadd d_X12_bestFrom_76 ?_
        obtain ⟨b9, k⟩ := k
        refine aw_iald (ws_280 w) b9 d_X12_bestFrom_77 ?_
        refine aw_goto (tgt := 84) d_X12_bestFrom_78 rfl ?_
        refine aw_istore [(0, .ref 1), (1, .int x1), (2, .int x2), (3, .int x3), (4, .int x4), (5, .int (h_i h 280 (((256 * (x3 + 1)) + x4) : Int32).toNatClampNeg))] d_X12_bestFrom_84 (Nat.le_of_ble_eq_true rfl) rfl rfl ?_
        refine aw_iconst (v := 0) d_X12_bestFrom_86 ic_0 ?_
        refine aw_istore [(0, .ref 1), (1, .int x1), (2, .int x2), (3, .int x3), (4, .int x4), (5, .int (h_i h 280 (((256 * (x3 + 1)) + x4) : Int32).toNatClampNeg)), (6, .int 0)] d_X12_bestFrom_87 (Nat.le_of_ble_eq_true rfl) rfl rfl ?_
        exact k
theorem t_X12_bestFrom_89 (d : Nat) (h : Hp_) (w : Wf h) (x1 : Int32) (x2 : Int32) (x3 : Int32) (x4 : Int32) (x5 : Int32) (x6 : Int32) (K : Int32 → Hp_ → Prop) (k : ((h_i h 1 102) ≤ x6 → vp_in ((256 * x3) + x4) 2304 ∧ (AW (m_X12_bestFrom (d + 1) 0 0) 0 0 45 [(0, .ref 1), (1, .int x1), (2, .int x2), (3, .int x3), (4, .int (x4 + 1))] [] (h_im h 280 (((256 * x3) + x4) : Int32).toNatClampNeg x5) (kI K))) ∧ (¬ (h_i h 1 102) ≤ x6 → (¬ ((x4 >>> (x6 &&& 31)) &&& 1) = 0 → AW (m_X12_bestFrom (d + 1) 0 0) 0 0 89 [(0, .ref 1), (1, .int x1), (2, .int x2), (3, .int x3), (4, .int x4), (5, .int x5), (6, .int (x6 + 1))] [] h (kI K)) ∧ (((x4 >>> (x6 &&& 31)) &&& 1) = 0 → Ci (m_X12_like (d + 0) 0 0) [.ref 1, .int x3, .int x6] h (fun r15 h13 => Wf h13 ∧ ((r15 < (h_i h13 1 103) → AW (m_X12_bestFrom (d + 1) 0 0) 0 0 89 [(0, .ref 1), (1, .int x1), (2, .int x2), (3, .int x3), (4, .int x4), (5, .int x5), (6, .int (x6 + 1))] [] h13 (kI K)) ∧ (¬ r15 < (h_i h13 1 103) → (¬ x3 = x1 → Ci (m_X12_like (d + 0) 0 0) [.ref 1, .int x3, .int x6] h13 (fun r20 h18 => Wf h18 ∧ (vp_in ((256 * (x3 + 1)) + (x4 ||| ((1 : Int32) <<< (x6 &&& 31)))) 2304 ∧ (Ci (m_J9_max_7cf53 (d + 0) 0 0) [.int x5, .int (r20 + (h_i h18 280 (((256 * (x3 + 1)) + (x4 ||| ((1 : Int32) <<< (x6 &&& 31)))) : Int32).toNatClampNeg))] h18 (fun r24 h22 => Wf h22 ∧ (AW (m_X12_bestFrom (d + 1) 0 0) 0 0 89 [(0, .ref 1), (1, .int x1), (2, .int x2), (3, .int x3), (4, .int x4), (5, .int r24), (6, .int (x6 + 1))] [] h22 (kI K))))))) ∧ (x3 = x1 → (¬ x2 = x6 → AW (m_X12_bestFrom (d + 1) 0 0) 0 0 89 [(0, .ref 1), (1, .int x1), (2, .int x2), (3, .int x3), (4, .int x4), (5, .int x5), (6, .int (x6 + 1))] [] h13 (kI K)) ∧ (x2 = x6 → Ci (m_X12_like (d + 0) 0 0) [.ref 1, .int x3, .int x6] h13 (fun r28 h26 => Wf h26 ∧ (vp_in ((256 * (x3 + 1)) + (x4 ||| ((1 : Int32) <<< (x6 &&& 31)))) 2304 ∧ (Ci (m_J9_max_7cf53 (d + 0) 0 0) [.int x5, .int (r28 + (h_i h26 280 (((256 * (x3 + 1)) + (x4 ||| ((1 : Int32) <<< (x6 &&& 31)))) : Int32).toNatClampNeg))] h26 (fun r32 h30 => Wf h30 ∧ (AW (m_X12_bestFrom (d + 1) 0 0) 0 0 89 [(0, .ref 1), (1, .int x1), (2, .int x2), (3, .int x3), (4, .int x4), (5, .int r32), (6, .int (x6 + 1))] [] h30 (kI K)))))))))))))) : AW (m_X12_bestFrom (d + 1) 0 0) 0 0 89 [(0, .ref 1), (1, .int x1), (2, .int x2), (3, .int x3), (4, .int x4), (5, .int x5), (6, .int x6)] [] h (kI K) := by
  refine aw_iload d_X12_bestFrom_89 6 rfl ?_
  refine aw_aload_n (i := 0) rfl d_X12_bestFrom_91 0 rfl ?_
  refine aw_geti (k0 := 102) kc_12 (ws_1 w) (Nat.le_of_ble_eq_true rfl) tw_1844 d_X12_bestFrom_92 rfl ?_
  refine aw_icmp_ge (tgt := 174) d_X12_bestFrom_95 rfl (fun c10 => ?_) (fun c10 => ?_)
  · have k := k.1 c10
    refine aw_aload_n (i := 0) rfl d_X12_bestFrom_174 0 rfl ?_
    refine aw_getr (k0 := 104) kc_12 (ws_1 w) (Nat.le_of_ble_eq_true rfl) tw_1846 d_X12_bestFrom_175 rfl (wr_1_104 w) ?_
    refine aw_sipush (v := 256) d_X12_bestFrom_178 is_256 ?_
    refine aw_iload_n (i := 3) rfl d_X12_bestFrom_181 3 rfl ?_
    refine aw_imul d_X12_bestFrom_182 ?_
    refine aw_iload d_X12_bestFrom_183 4 rfl ?_
    refine aw_iadd d_X12_bestFrom_185 ?_
    refine aw_iload d_X12_bestFrom_186 5 rfl ?_
    obtain ⟨b11, k⟩ := k
    refine aw_iast (ws_280 w) b11 d_X12_bestFrom_188 ?_
    refine aw_iinc (v := (x4 + 1)) [(0, .ref 1), (1, .int x1), (2, .int x2), (3, .int x3), (4, .int (x4 + 1)), (5, .int x5), (6, .int x6)] d_X12_bestFrom_189 4 rfl rfl (Nat.le_of_ble_eq_true rfl) rfl rfl ?_
    refine aw_goto (tgt := 45) d_X12_bestFrom_192 rfl ?_
    exact aw_lvp [0, 1, 2, 3, 4] [(0, .ref 1), (1, .int x1), (2, .int x2), (3, .int x3), (4, .int (x4 + 1))] rfl k
  · have k := k.2 c10
    refine aw_iload d_X12_bestFrom_98 4 rfl ?_
    refine aw_iload d_X12_bestFrom_100 6 rfl ?_
    refine aw_ishr d_X12_bestFrom_102 ?_
    refine aw_iconst (v := 1) d_X12_bestFrom_103 ic_1 ?_
    refine aw_iand d_X12_bestFrom_104 ?_
    refine aw_if_ne (tgt := 168) d_X12_bestFrom_105 rfl (fun c12 => ?_) (fun c12 => ?_)
    · have k := k.1 c12
      refine aw_iinc (v := (x6 + 1)) [(0, .ref 1), (1, .int x1), (2, .int x2), (3, .int x3), (4, .int x4), (5, .int x5), (6, .int (x6 + 1))] d_X12_bestFrom_168 6 rfl rfl (Nat.le_of_ble_eq_true rfl) rfl rfl ?_
      refine aw_goto (tgt := 89) d_X12_bestFrom_171 rfl ?_
      exact k
    · have k := k.2 c12
      refine aw_aload_n (i := 0) rfl d_X12_bestFrom_108 0 rfl ?_
      refine aw_iload_n (i := 3) rfl d_X12_bestFrom_109 3 rfl ?_
      refine aw_iload d_X12_bestFrom_110 6 rfl ?_
      refine aw_Vi 1 [.int x3, .int x6] [] d_X12_bestFrom_112 (cV_X12_like (d + 0) 0 0) kc_12 (ws_1 w) tw_2574 rfl (rr0 (Nat.le_of_ble_eq_true rfl) (Nat.le_of_ble_eq_true rfl)) (Nat.le_of_ble_eq_true rfl) xs0 k (fun r15 h13 kk => ?_)
      obtain ⟨w14, k⟩ := kk
      refine aw_aload_n (i := 0) rfl d_X12_bestFrom_115 0 rfl ?_
      refine aw_geti (k0 := 103) kc_12 (ws_1 w14) (Nat.le_of_ble_eq_true rfl) tw_1845 d_X12_bestFrom_116 rfl ?_
      refine aw_icmp_lt (tgt := 168) d_X12_bestFrom_119 rfl (fun c16 => ?_) (fun c16 => ?_)
      · have k := k.1 c16
        refine aw_iinc (v := (x6 + 1)) [(0, .ref 1), (1, .int x1), (2, .int x2), (3, .int x3), (4, .int x4), (5, .int x5), (6, .int (x6 + 1))] d_X12_bestFrom_168 6 rfl rfl (Nat.le_of_ble_eq_true rfl) rfl rfl ?_
        refine aw_goto (tgt := 89) d_X12_bestFrom_171 rfl ?_
        exact k
      · have k := k.2 c16
        refine aw_iload_n (i := 3) rfl d_X12_bestFrom_122 3 rfl ?_
        refine aw_iload_n (i := 1) rfl d_X12_bestFrom_123 1 rfl ?_
        refine aw_icmp_ne (tgt := 133) d_X12_bestFrom_124 rfl (fun c17 => ?_) (fun c17 => ?_)
        · have k := k.1 c17
          refine aw_iload d_X12_bestFrom_133 5 rfl ?_
          refine aw_aload_n (i := 0) rfl d_X12_bestFrom_135 0 rfl ?_
          refine aw_iload_n (i := 3) rfl d_X12_bestFrom_136 3 rfl ?_
          refine aw_iload d_X12_bestFrom_137 6 rfl ?_
          refine aw_Vi 1 [.int x3, .int x6] [.int x5] d_X12_bestFrom_139 (cV_X12_like (d + 0) 0 0) kc_12 (ws_1 w14) tw_2574 rfl (rr0 (Nat.le_of_ble_eq_true rfl) (Nat.le_of_ble_eq_true rfl)) (Nat.le_of_ble_eq_true rfl) xs0 k (fun r20 h18 kk => ?_)
          obtain ⟨w19, k⟩ := kk
          refine aw_aload_n (i := 0) rfl d_X12_bestFrom_142 0 rfl ?_
          refine aw_getr (k0 := 104) kc_12 (ws_1 w19) (Nat.le_of_ble_eq_true rfl) tw_1846 d_X12_bestFrom_143 rfl (wr_1_104 w19) ?_
          refine aw_sipush (v := 256) d_X12_bestFrom_146 is_256 ?_
          refine aw_iload_n (i := 3) rfl d_X12_bestFrom_149 3 rfl ?_
          refine aw_iconst (v := 1) d_X12_bestFrom_150 ic_1 ?_
          refine aw_iadd d_X12_bestFrom_151 ?_
          refine aw_imul d_X12_bestFrom_152 ?_
          refine aw_iload d_X12_bestFrom_153 4 rfl ?_
          refine aw_iconst (v := 1) d_X12_bestFrom_155 ic_1 ?_
          refine aw_iload d_X12_bestFrom_156 6 rfl ?_
          refine aw_ishl d_X12_bestFrom_158 ?_
          refine aw_ior d_X12_bestFrom_159 ?_
          refine aw_iadd d_X12_bestFrom_160 ?_
          obtain ⟨b21, k⟩ := k
          refine aw_iald (ws_280 w19) b21 d_X12_bestFrom_161 ?_
          refine aw_iadd d_X12_bestFrom_162 ?_
          refine aw_Si [.int x5, .int (r20 + (h_i h18 280 (((256 * (x3 + 1)) + (x4 ||| ((1 : Int32) <<< (x6 &&& 31)))) : Int32).toNatClampNeg))] [] d_X12_bestFrom_163 (cS_J9_max_7cf53 (d + 0) 0 0) tw_2474 rfl (rr0 (Nat.le_of_ble_eq_true rfl) (Nat.le_of_ble_eq_true rfl)) (Nat.le_of_ble_eq_true rfl) xs0 k (fun r24 h22 kk => ?_)
          obtain ⟨w23, k⟩ := kk
          refine aw_istore [(0, .ref 1), (1, .int x1), (2, .int x2), (3, .int x3), (4, .int x4), (5, .int r24), (6, .int x6)] d_X12_bestFrom_166 (Nat.le_of_ble_eq_true rfl) rfl rfl ?_
          refine aw_iinc (v := (x6 + 1)) [(0, .ref 1), (1, .int x1), (2, .int x2), (3, .int x3), (4, .int x4), (5, .int r24), (6, .int (x6 + 1))] d_X12_bestFrom_168 6 rfl rfl (Nat.le_of_ble_eq_true rfl) rfl rfl ?_
          refine aw_goto (tgt := 89) d_X12_bestFrom_171 rfl ?_
          exact k
        · have k := k.2 c17
          refine aw_iload_n (i := 2) rfl d_X12_bestFrom_127 2 rfl ?_
          refine aw_iload d_X12_bestFrom_128 6 rfl ?_
          refine aw_icmp_ne (tgt := 168) d_X12_bestFrom_130 rfl (fun c25 => ?_) (fun c25 => ?_)
          · have k := k.1 c25
            refine aw_iinc (v := (x6 + 1)) [(0, .ref 1), (1, .int x1), (2, .int x2), (3, .int x3), (4, .int x4), (5, .int x5), (6, .int (x6 + 1))] d_X12_bestFrom_168 6 rfl rfl (Nat.le_of_ble_eq_true rfl) rfl rfl ?_
            refine aw_goto (tgt := 89) d_X12_bestFrom_171 rfl ?_
            exact k
          · have k := k.2 c25
            refine aw_iload d_X12_bestFrom_133 5 rfl ?_
            refine aw_aload_n (i := 0) rfl d_X12_bestFrom_135 0 rfl ?_
            refine aw_iload_n (i := 3) rfl d_X12_bestFrom_136 3 rfl ?_
            refine aw_iload d_X12_bestFrom_137 6 rfl ?_
            refine aw_Vi 1 [.int x3, .int x6] [.int x5] d_X12_bestFrom_139 (cV_X12_like (d + 0) 0 0) kc_12 (ws_1 w14) tw_2574 rfl (rr0 (Nat.le_of_ble_eq_true rfl) (Nat.le_of_ble_eq_true rfl)) (Nat.le_of_ble_eq_true rfl) xs0 k (fun r28 h26 kk => ?_)
            obtain ⟨w27, k⟩ := kk
            refine aw_aload_n (i := 0) rfl d_X12_bestFrom_142 0 rfl ?_
            refine aw_getr (k0 := 104) kc_12 (ws_1 w27) (Nat.le_of_ble_eq_true rfl) tw_1846 d_X12_bestFrom_143 rfl (wr_1_104 w27) ?_
            refine aw_sipush (v := 256) d_X12_bestFrom_146 is_256 ?_
            refine aw_iload_n (i := 3) rfl d_X12_bestFrom_149 3 rfl ?_
            refine aw_iconst (v := 1) d_X12_bestFrom_150 ic_1 ?_
            refine aw_iadd d_X12_bestFrom_151 ?_
            refine aw_imul d_X12_bestFrom_152 ?_
            refine aw_iload d_X12_bestFrom_153 4 rfl ?_
            refine aw_iconst (v := 1) d_X12_bestFrom_155 ic_1 ?_
            refine aw_iload d_X12_bestFrom_156 6 rfl ?_
            refine aw_ishl d_X12_bestFrom_158 ?_
            refine aw_ior d_X12_bestFrom_159 ?_
            refine aw_iadd d_X12_bestFrom_160 ?_
            obtain ⟨b29, k⟩ := k
            refine aw_iald (ws_280 w27) b29 d_X12_bestFrom_161 ?_
            refine aw_iadd d_X12_bestFrom_162 ?_
            refine aw_Si [.int x5, .int (r28 + (h_i h26 280 (((256 * (x3 + 1)) + (x4 ||| ((1 : Int32) <<< (x6 &&& 31)))) : Int32).toNatClampNeg))] [] d_X12_bestFrom_163 (cS_J9_max_7cf53 (d + 0) 0 0) tw_2474 rfl (rr0 (Nat.le_of_ble_eq_true rfl) (Nat.le_of_ble_eq_true rfl)) (Nat.le_of_ble_eq_true rfl) xs0 k (fun r32 h30 kk => ?_)
            obtain ⟨w31, k⟩ := kk
            refine aw_istore [(0, .ref 1), (1, .int x1), (2, .int x2), (3, .int x3), (4, .int x4), (5, .int r32), (6, .int x6)] d_X12_bestFrom_166 (Nat.le_of_ble_eq_true rfl) rfl rfl ?_
            refine aw_iinc (v := (x6 + 1)) [(0, .ref 1), (1, .int x1), (2, .int x2), (3, .int x3), (4, .int x4), (5, .int r32), (6, .int (x6 + 1))] d_X12_bestFrom_168 6 rfl rfl (Nat.le_of_ble_eq_true rfl) rfl rfl ?_
            refine aw_goto (tgt := 89) d_X12_bestFrom_171 rfl ?_
            exact k
theorem t_X12_doesSee (d : Nat) (h : Hp_) (x1 : Int32) (x2 : Int32) (K : Int32 → Hp_ → Prop) (k : AW (m_X12_doesSee (d + 1) 0 0) 0 0 12 [(0, .ref 1), (1, .int x1), (2, .int x2), (3, .int 0), (4, .int 0), (5, .int (150 * x1))] [] h (kI K)) : Ci (m_X12_doesSee (d + 1) 0 0) [.ref 1, .int x1, .int x2] h K := by
  refine Ct.of (fun _ _ _ => trivial) rfl (Nat.le_of_ble_eq_true rfl) ?_
  show AW (m_X12_doesSee (d + 1) 0 0) 0 0 0 [(0, .ref 1), (1, .int x1), (2, .int x2)] [] h (kI K)
  refine aw_iconst (v := 0) d_X12_doesSee_0 ic_0 ?_
  refine aw_istore_n (i := 3) rfl [(0, .ref 1), (1, .int x1), (2, .int x2), (3, .int 0)] d_X12_doesSee_1 (Nat.le_of_ble_eq_true rfl) rfl rfl ?_
  refine aw_iconst (v := 0) d_X12_doesSee_2 ic_0 ?_
  refine aw_istore [(0, .ref 1), (1, .int x1), (2, .int x2), (3, .int 0), (4, .int 0)] d_X12_doesSee_3 (Nat.le_of_ble_eq_true rfl) rfl rfl ?_
  refine aw_sipush (v := 150) d_X12_doesSee_5 is_150 ?_
  refine aw_iload_n (i := 1) rfl d_X12_doesSee_8 1 rfl ?_
  refine aw_imul d_X12_doesSee_9 ?_
  refine aw_istore [(0, .ref 1), (1, .int x1), (2, .int x2), (3, .int 0), (4, .int 0), (5, .int (150 * x1))] d_X12_doesSee_10 (Nat.le_of_ble_eq_true rfl) rfl rfl ?_
  exact k
theorem t_X12_doesSee_12 (d : Nat) (h : Hp_) (w : Wf h) (x1 : Int32) (x2 : Int32) (x3 : Int32) (x4 : Int32) (x5 : Int32) (K : Int32 → Hp_ → Prop) (k : vp_in x1 12 ∧ ((((150 * x1) + (h_i h 227 x1.toNatClampNeg)) ≤ x5 → K 0 h) ∧ (¬ ((150 * x1) + (h_i h 227 x1.toNatClampNeg)) ≤ x5 → (1440 < x3 → K 0 h) ∧ (¬ 1440 < x3 → vp_in x5 1800 ∧ ((¬ (h_i h 228 x5.toNatClampNeg) = 1 → (¬ (h_i h 228 x5.toNatClampNeg) = 3 → vp_in x5 1800 ∧ (Ci (m_X12_walkOf (d + 0) 0 0) [.ref 1, .int x4, .int (h_i h 229 x5.toNatClampNeg)] h (fun r10 h8 => Wf h8 ∧ ((¬ r10 = (-1) → vp_in x5 1800 ∧ ((¬ (h_i h 228 x5.toNatClampNeg) = 2 → AW (m_X12_doesSee (d + 1) 0 0) 0 0 12 [(0, .ref 1), (1, .int x1), (2, .int x2), (3, .int (x3 + r10)), (4, .int (h_i h8 229 x5.toNatClampNeg)), (5, .int (x5 + 1))] [] h8 (kI K)) ∧ ((h_i h 228 x5.toNatClampNeg) = 2 → vp_in x5 1800 ∧ (Ci (m_J9_max_7cf53 (d + 0) 0 0) [.int (x3 + r10), .int (h_i h8 230 x5.toNatClampNeg)] h8 (fun r17 h15 => Wf h15 ∧ (AW (m_X12_doesSee (d + 1) 0 0) 0 0 12 [(0, .ref 1), (1, .int x1), (2, .int x2), (3, .int r17), (4, .int (h_i h8 229 x5.toNatClampNeg)), (5, .int (x5 + 1))] [] h15 (kI K))))))) ∧ (r10 = (-1) → AW (m_X12_doesSee (d + 1) 0 0) 0 0 12 [(0, .ref 1), (1, .int x1), (2, .int x2), (3, .int x3), (4, .int x4), (5, .int (x5 + 1))] [] h8 (kI K)))))) ∧ ((h_i h 228 x5.toNatClampNeg) = 3 → vp_in x2 8 ∧ ((¬ x4 = (h_i h 281 x2.toNatClampNeg) → AW (m_X12_doesSee (d + 1) 0 0) 0 0 12 [(0, .ref 1), (1, .int x1), (2, .int x2), (3, .int (x3 + 1)), (4, .int x4), (5, .int (x5 + 1))] [] h (kI K)) ∧ (x4 = (h_i h 281 x2.toNatClampNeg) → vp_in x2 8 ∧ (vp_in x2 8 ∧ ((¬ ((h_i h 282 x2.toNatClampNeg) ≤ (x3 + 1) ∧ (x3 + 1) ≤ (h_i h 283 x2.toNatClampNeg)) → AW (m_X12_doesSee (d + 1) 0 0) 0 0 12 [(0, .ref 1), (1, .int x1), (2, .int x2), (3, .int (x3 + 1)), (4, .int x4), (5, .int (x5 + 1))] [] h (kI K)) ∧ (((h_i h 282 x2.toNatClampNeg) ≤ (x3 + 1) ∧ (x3 + 1) ≤ (h_i h 283 x2.toNatClampNeg)) → K 1 h))))))) ∧ ((h_i h 228 x5.toNatClampNeg) = 1 → vp_in x5 1800 ∧ (AW (m_X12_doesSee (d + 1) 0 0) 0 0 12 [(0, .ref 1), (1, .int x1), (2, .int x2), (3, .int (x3 + (h_i h 229 x5.toNatClampNeg))), (4, .int x4), (5, .int (x5 + 1))] [] h (kI K)))))))) : AW (m_X12_doesSee (d + 1) 0 0) 0 0 12 [(0, .ref 1), (1, .int x1), (2, .int x2), (3, .int x3), (4, .int x4), (5, .int x5)] [] h (kI K) := by
  refine aw_iload d_X12_doesSee_12 5 rfl ?_
  refine aw_sipush (v := 150) d_X12_doesSee_14 is_150 ?_
  refine aw_iload_n (i := 1) rfl d_X12_doesSee_17 1 rfl ?_
  refine aw_imul d_X12_doesSee_18 ?_
  refine aw_aload_n (i := 0) rfl d_X12_doesSee_19 0 rfl ?_
  refine aw_getr (k0 := 38) kc_12 (ws_1 w) (Nat.le_of_ble_eq_true rfl) tw_1780 d_X12_doesSee_20 rfl (wr_1_38 w) ?_
  refine aw_iload_n (i := 1) rfl d_X12_doesSee_23 1 rfl ?_
  obtain ⟨b1, k⟩ := k
  refine aw_iald (ws_227 w) b1 d_X12_doesSee_24 ?_
  refine aw_iadd d_X12_doesSee_25 ?_
  refine aw_icmp_ge (tgt := 167) d_X12_doesSee_26 rfl (fun c2 => ?_) (fun c2 => ?_)
  · have k := k.1 c2
    refine aw_iconst (v := 0) d_X12_doesSee_167 ic_0 ?_
    exact aw_zret rfl rfl d_X12_doesSee_168 ⟨Nat.le_refl _, Nat.le_refl _⟩ ⟨_, rfl, k⟩
  · have k := k.2 c2
    refine aw_iload_n (i := 3) rfl d_X12_doesSee_29 3 rfl ?_
    refine aw_sipush (v := 1440) d_X12_doesSee_30 is_1440 ?_
    refine aw_icmp_gt (tgt := 167) d_X12_doesSee_33 rfl (fun c3 => ?_) (fun c3 => ?_)
    · have k := k.1 c3
      refine aw_iconst (v := 0) d_X12_doesSee_167 ic_0 ?_
      exact aw_zret rfl rfl d_X12_doesSee_168 ⟨Nat.le_refl _, Nat.le_refl _⟩ ⟨_, rfl, k⟩
    · have k := k.2 c3
      refine aw_aload_n (i := 0) rfl d_X12_doesSee_36 0 rfl ?_
      refine aw_getr (k0 := 39) kc_12 (ws_1 w) (Nat.le_of_ble_eq_true rfl) tw_1781 d_X12_doesSee_37 rfl (wr_1_39 w) ?_
      refine aw_iload d_X12_doesSee_40 5 rfl ?_
      obtain ⟨b4, k⟩ := k
      refine aw_iald (ws_228 w) b4 d_X12_doesSee_42 ?_
      refine aw_istore [(0, .ref 1), (1, .int x1), (2, .int x2), (3, .int x3), (4, .int x4), (5, .int x5), (6, .int (h_i h 228 x5.toNatClampNeg))] d_X12_doesSee_43 (Nat.le_of_ble_eq_true rfl) rfl rfl ?_
      refine aw_iload d_X12_doesSee_45 6 rfl ?_
      refine aw_iconst (v := 1) d_X12_doesSee_47 ic_1 ?_
      refine aw_icmp_ne (tgt := 64) d_X12_doesSee_48 rfl (fun c5 => ?_) (fun c5 => ?_)
      · have k := k.1 c5
        refine aw_iload d_X12_doesSee_64 6 rfl ?_
        refine aw_iconst (v := 3) d_X12_doesSee_66 ic_3 ?_
        refine aw_icmp_ne (tgt := 105) d_X12_doesSee_67 rfl (fun c6 => ?_) (fun c6 => ?_)
        · have k := k.1 c6
          refine aw_aload_n (i := 0) rfl d_X12_doesSee_105 0 rfl ?_
          refine aw_iload d_X12_doesSee_106 4 rfl ?_
          refine aw_aload_n (i := 0) rfl d_X12_doesSee_108 0 rfl ?_
          refine aw_getr (k0 := 40) kc_12 (ws_1 w) (Nat.le_of_ble_eq_true rfl) tw_1782 d_X12_doesSee_109 rfl (wr_1_40 w) ?_
          refine aw_iload d_X12_doesSee_112 5 rfl ?_
          obtain ⟨b7, k⟩ := k
          refine aw_iald (ws_229 w) b7 d_X12_doesSee_114 ?_
          refine aw_Vi 1 [.int x4, .int (h_i h 229 x5.toNatClampNeg)] [] d_X12_doesSee_115 (cV_X12_walkOf (d + 0) 0 0) kc_12 (ws_1 w) tw_2154 rfl (rr0 (Nat.le_of_ble_eq_true rfl) (Nat.le_of_ble_eq_true rfl)) (Nat.le_of_ble_eq_true rfl) xs0 k (fun r10 h8 kk => ?_)
          obtain ⟨w9, k⟩ := kk
          refine aw_istore [(0, .ref 1), (1, .int x1), (2, .int x2), (3, .int x3), (4, .int x4), (5, .int x5), (6, .int (h_i h 228 x5.toNatClampNeg)), (7, .int r10)] d_X12_doesSee_118 (Nat.le_of_ble_eq_true rfl) rfl rfl ?_
          refine aw_iload d_X12_doesSee_120 7 rfl ?_
          refine aw_iconst (v := (-1)) d_X12_doesSee_122 ic_m1 ?_
          refine aw_icmp_ne (tgt := 129) d_X12_doesSee_123 rfl (fun c11 => ?_) (fun c11 => ?_)
          · have k := k.1 c11
            refine aw_iload_n (i := 3) rfl d_X12_doesSee_129 3 rfl ?_
            refine aw_iload d_X12_doesSee_130 7 rfl ?_
            refine aw_iadd d_X12_doesSee_132 ?_
            refine aw_istore_n (i := 3) rfl [(0, .ref 1), (1, .int x1), (2, .int x2), (3, .int (x3 + r10)), (4, .int x4), (5, .int x5), (6, .int (h_i h 228 x5.toNatClampNeg)), (7, .int r10)] d_X12_doesSee_133 (Nat.le_of_ble_eq_true rfl) rfl rfl ?_
            refine aw_aload_n (i := 0) rfl d_X12_doesSee_134 0 rfl ?_
            refine aw_getr (k0 := 40) kc_12 (ws_1 w9) (Nat.le_of_ble_eq_true rfl) tw_1782 d_X12_doesSee_135 rfl (wr_1_40 w9) ?_
            refine aw_iload d_X12_doesSee_138 5 rfl ?_
            obtain ⟨b12, k⟩ := k
            refine aw_iald (ws_229 w9) b12 d_X12_doesSee_140 ?_
            refine aw_istore [(0, .ref 1), (1, .int x1), (2, .int x2), (3, .int (x3 + r10)), (4, .int (h_i h8 229 x5.toNatClampNeg)), (5, .int x5), (6, .int (h_i h 228 x5.toNatClampNeg)), (7, .int r10)] d_X12_doesSee_141 (Nat.le_of_ble_eq_true rfl) rfl rfl ?_
            refine aw_iload d_X12_doesSee_143 6 rfl ?_
            refine aw_iconst (v := 2) d_X12_doesSee_145 ic_2 ?_
            refine aw_icmp_ne (tgt := 161) d_X12_doesSee_146 rfl (fun c13 => ?_) (fun c13 => ?_)
            · have k := k.1 c13
              refine aw_iinc (v := (x5 + 1)) [(0, .ref 1), (1, .int x1), (2, .int x2), (3, .int (x3 + r10)), (4, .int (h_i h8 229 x5.toNatClampNeg)), (5, .int (x5 + 1)), (6, .int (h_i h 228 x5.toNatClampNeg)), (7, .int r10)] d_X12_doesSee_161 5 rfl rfl (Nat.le_of_ble_eq_true rfl) rfl rfl ?_
              refine aw_goto (tgt := 12) d_X12_doesSee_164 rfl ?_
              exact aw_lvp [0, 1, 2, 3, 4, 5] [(0, .ref 1), (1, .int x1), (2, .int x2), (3, .int (x3 + r10)), (4, .int (h_i h8 229 x5.toNatClampNeg)), (5, .int (x5 + 1))] rfl k
            · have k := k.2 c13
              refine aw_iload_n (i := 3) rfl d_X12_doesSee_149 3 rfl ?_
              refine aw_aload_n (i := 0) rfl d_X12_doesSee_150 0 rfl ?_
              refine aw_getr (k0 := 41) kc_12 (ws_1 w9) (Nat.le_of_ble_eq_true rfl) tw_1783 d_X12_doesSee_151 rfl (wr_1_41 w9) ?_
              refine aw_iload d_X12_doesSee_154 5 rfl ?_
              obtain ⟨b14, k⟩ := k
              refine aw_iald (ws_230 w9) b14 d_X12_doesSee_156 ?_
              refine aw_Si [.int (x3 + r10), .int (h_i h8 230 x5.toNatClampNeg)] [] d_X12_doesSee_157 (cS_J9_max_7cf53 (d + 0) 0 0) tw_2474 rfl (rr0 (Nat.le_of_ble_eq_true rfl) (Nat.le_of_ble_eq_true rfl)) (Nat.le_of_ble_eq_true rfl) xs0 k (fun r17 h15 kk => ?_)
              obtain ⟨w16, k⟩ := kk
              refine aw_istore_n (i := 3) rfl [(0, .ref 1), (1, .int x1), (2, .int x2), (3, .int r17), (4, .int (h_i h8 229 x5.toNatClampNeg)), (5, .int x5), (6, .int (h_i h 228 x5.toNatClampNeg)), (7, .int r10)] d_X12_doesSee_160 (Nat.le_of_ble_eq_true rfl) rfl rfl ?_
              refine aw_iinc (v := (x5 + 1)) [(0, .ref 1), (1, .int x1), (2, .int x2), (3, .int r17), (4, .int (h_i h8 229 x5.toNatClampNeg)), (5, .int (x5 + 1)), (6, .int (h_i h 228 x5.toNatClampNeg)), (7, .int r10)] d_X12_doesSee_161 5 rfl rfl (Nat.le_of_ble_eq_true rfl) rfl rfl ?_
              refine aw_goto (tgt := 12) d_X12_doesSee_164 rfl ?_
              exact aw_lvp [0, 1, 2, 3, 4, 5] [(0, .ref 1), (1, .int x1), (2, .int x2), (3, .int r17), (4, .int (h_i h8 229 x5.toNatClampNeg)), (5, .int (x5 + 1))] rfl k
          · have k := k.2 c11
            refine aw_goto (tgt := 161) d_X12_doesSee_126 rfl ?_
            refine aw_iinc (v := (x5 + 1)) [(0, .ref 1), (1, .int x1), (2, .int x2), (3, .int x3), (4, .int x4), (5, .int (x5 + 1)), (6, .int (h_i h 228 x5.toNatClampNeg)), (7, .int r10)] d_X12_doesSee_161 5 rfl rfl (Nat.le_of_ble_eq_true rfl) rfl rfl ?_
            refine aw_goto (tgt := 12) d_X12_doesSee_164 rfl ?_
            exact aw_lvp [0, 1, 2, 3, 4, 5] [(0, .ref 1), (1, .int x1), (2, .int x2), (3, .int x3), (4, .int x4), (5, .int (x5 + 1))] rfl k
        · have k := k.2 c6
          refine aw_iinc (v := (x3 + 1)) [(0, .ref 1), (1, .int x1), (2, .int x2), (3, .int (x3 + 1)), (4, .int x4), (5, .int x5), (6, .int (h_i h 228 x5.toNatClampNeg))] d_X12_doesSee_70 3 rfl rfl (Nat.le_of_ble_eq_true rfl) rfl rfl ?_
          refine aw_iload d_X12_doesSee_73 4 rfl ?_
          refine aw_aload_n (i := 0) rfl d_X12_doesSee_75 0 rfl ?_
          refine aw_getr (k0 := 105) kc_12 (ws_1 w) (Nat.le_of_ble_eq_true rfl) tw_1847 d_X12_doesSee_76 rfl (wr_1_105 w) ?_
          refine aw_iload_n (i := 2) rfl d_X12_doesSee_79 2 rfl ?_
          obtain ⟨b18, k⟩ := k
          refine aw_iald (ws_281 w) b18 d_X12_doesSee_80 ?_
          refine aw_icmp_ne (tgt := 161) d_X12_doesSee_81 rfl (fun c19 => ?_) (fun c19 => ?_)
          · have k := k.1 c19
            refine aw_iinc (v := (x5 + 1)) [(0, .ref 1), (1, .int x1), (2, .int x2), (3, .int (x3 + 1)), (4, .int x4), (5, .int (x5 + 1)), (6, .int (h_i h 228 x5.toNatClampNeg))] d_X12_doesSee_161 5 rfl rfl (Nat.le_of_ble_eq_true rfl) rfl rfl ?_
            refine aw_goto (tgt := 12) d_X12_doesSee_164 rfl ?_
            exact aw_lvp [0, 1, 2, 3, 4, 5] [(0, .ref 1), (1, .int x1), (2, .int x2), (3, .int (x3 + 1)), (4, .int x4), (5, .int (x5 + 1))] rfl k
          · have k := k.2 c19
            refine aw_iload_n (i := 3) rfl d_X12_doesSee_84 3 rfl ?_
            refine aw_aload_n (i := 0) rfl d_X12_doesSee_85 0 rfl ?_
            refine aw_getr (k0 := 106) kc_12 (ws_1 w) (Nat.le_of_ble_eq_true rfl) tw_1848 d_X12_doesSee_86 rfl (wr_1_106 w) ?_
            refine aw_iload_n (i := 2) rfl d_X12_doesSee_89 2 rfl ?_
            obtain ⟨b20, k⟩ := k
            refine aw_iald (ws_282 w) b20 d_X12_doesSee_90 ?_
            refine aw_aload_n (i := 0) rfl d_X12_doesSee_91 0 rfl ?_
            refine aw_getr (k0 := 107) kc_12 (ws_1 w) (Nat.le_of_ble_eq_true rfl) tw_1849 d_X12_doesSee_92 rfl (wr_1_107 w) ?_
            refine aw_iload_n (i := 2) rfl d_X12_doesSee_95 2 rfl ?_
            obtain ⟨b21, k⟩ := k
            refine aw_iald (ws_283 w) b21 d_X12_doesSee_96 ?_
            refine aw_Si [.int (x3 + 1), .int (h_i h 282 x2.toNatClampNeg), .int (h_i h 283 x2.toNatClampNeg)] [] d_X12_doesSee_97 (cS_X12_in (d + 0) 0 0) tw_2147 rfl (rr0 (Nat.le_of_ble_eq_true rfl) (Nat.le_of_ble_eq_true rfl)) (Nat.le_of_ble_eq_true rfl) xs0 (s_X12_in _ _ (x3 + 1) (h_i h 282 x2.toNatClampNeg) (h_i h 283 x2.toNatClampNeg)) (fun _ _ kk => ?_)
            obtain ⟨e22, e23⟩ := kk
            rw [e22, e23]
            refine aw_ifb_eq (tgt := 161) d_X12_doesSee_100 rfl (fun c24 => ?_) (fun c24 => ?_)
            · have k := k.1 c24
              refine aw_iinc (v := (x5 + 1)) [(0, .ref 1), (1, .int x1), (2, .int x2), (3, .int (x3 + 1)), (4, .int x4), (5, .int (x5 + 1)), (6, .int (h_i h 228 x5.toNatClampNeg))] d_X12_doesSee_161 5 rfl rfl (Nat.le_of_ble_eq_true rfl) rfl rfl ?_
              refine aw_goto (tgt := 12) d_X12_doesSee_164 rfl ?_
              exact aw_lvp [0, 1, 2, 3, 4, 5] [(0, .ref 1), (1, .int x1), (2, .int x2), (3, .int (x3 + 1)), (4, .int x4), (5, .int (x5 + 1))] rfl k
            · have k := k.2 c24
              refine aw_iconst (v := 1) d_X12_doesSee_103 ic_1 ?_
              exact aw_zret rfl rfl d_X12_doesSee_104 ⟨Nat.le_refl _, Nat.le_refl _⟩ ⟨_, rfl, k⟩
      · have k := k.2 c5
        refine aw_iload_n (i := 3) rfl d_X12_doesSee_51 3 rfl ?_
        refine aw_aload_n (i := 0) rfl d_X12_doesSee_52 0 rfl ?_
        refine aw_getr (k0 := 40) kc_12 (ws_1 w) (Nat.le_of_ble_eq_true rfl) tw_1782 d_X12_doesSee_53 rfl (wr_1_40 w) ?_
        refine aw_iload d_X12_doesSee_56 5 rfl ?_
        obtain ⟨b25, k⟩ := k
        refine aw_iald (ws_229 w) b25 d_X12_doesSee_58 ?_
        refine aw_iadd d_X12_doesSee_59 ?_
        refine aw_istore_n (i := 3) rfl [(0, .ref 1), (1, .int x1), (2, .int x2), (3, .int (x3 + (h_i h 229 x5.toNatClampNeg))), (4, .int x4), (5, .int x5), (6, .int (h_i h 228 x5.toNatClampNeg))] d_X12_doesSee_60 (Nat.le_of_ble_eq_true rfl) rfl rfl ?_
        refine aw_goto (tgt := 161) d_X12_doesSee_61 rfl ?_
        refine aw_iinc (v := (x5 + 1)) [(0, .ref 1), (1, .int x1), (2, .int x2), (3, .int (x3 + (h_i h 229 x5.toNatClampNeg))), (4, .int x4), (5, .int (x5 + 1)), (6, .int (h_i h 228 x5.toNatClampNeg))] d_X12_doesSee_161 5 rfl rfl (Nat.le_of_ble_eq_true rfl) rfl rfl ?_
        refine aw_goto (tgt := 12) d_X12_doesSee_164 rfl ?_
        exact aw_lvp [0, 1, 2, 3, 4, 5] [(0, .ref 1), (1, .int x1), (2, .int x2), (3, .int (x3 + (h_i h 229 x5.toNatClampNeg))), (4, .int x4), (5, .int (x5 + 1))] rfl k
theorem t_X12_weigh (d : Nat) (h : Hp_)  (K : Hp_ → Prop) (k : AW (m_X12_weigh (d + 1) 0 0) 0 0 7 [(0, .ref 1), (1, .int 12), (2, .int 0), (3, .int 0)] [] h (kV K)) : Cv (m_X12_weigh (d + 1) 0 0) [.ref 1] h K := by
  refine Ct.of (fun _ _ _ => trivial) rfl (Nat.le_of_ble_eq_true rfl) ?_
  show AW (m_X12_weigh (d + 1) 0 0) 0 0 0 [(0, .ref 1)] [] h (kV K)
  refine aw_bipush (v := 12) d_X12_weigh_0 ib_12 ?_
  refine aw_istore_n (i := 1) rfl [(0, .ref 1), (1, .int 12)] d_X12_weigh_2 (Nat.le_of_ble_eq_true rfl) rfl rfl ?_
  refine aw_iconst (v := 0) d_X12_weigh_3 ic_0 ?_
  refine aw_istore_n (i := 2) rfl [(0, .ref 1), (1, .int 12), (2, .int 0)] d_X12_weigh_4 (Nat.le_of_ble_eq_true rfl) rfl rfl ?_
  refine aw_iconst (v := 0) d_X12_weigh_5 ic_0 ?_
  refine aw_istore_n (i := 3) rfl [(0, .ref 1), (1, .int 12), (2, .int 0), (3, .int 0)] d_X12_weigh_6 (Nat.le_of_ble_eq_true rfl) rfl rfl ?_
  exact k
theorem t_X12_weigh_7 (d : Nat) (h : Hp_) (w : Wf h) (x1 : Int32) (x2 : Int32) (x3 : Int32) (K : Hp_ → Prop) (k : ((h_i h 1 108) ≤ x3 → ((h_i h 1 114) < x1 → AW (m_X12_weigh (d + 1) 0 0) 0 0 121 [(0, .ref 1), (3, .int 0)] [] (h_im (h_im h 1 114 x1) 1 115 x2) (kV K)) ∧ (¬ (h_i h 1 114) < x1 → (¬ x1 = (h_i h 1 114) → K h) ∧ (x1 = (h_i h 1 114) → (x2 ≤ (h_i h 1 115) → K h) ∧ (¬ x2 ≤ (h_i h 1 115) → AW (m_X12_weigh (d + 1) 0 0) 0 0 121 [(0, .ref 1), (3, .int 0)] [] (h_im (h_im h 1 114 x1) 1 115 x2) (kV K))))) ∧ (¬ (h_i h 1 108) ≤ x3 → AW (m_X12_weigh (d + 1) 0 0) 0 0 21 [(0, .ref 1), (1, .int x1), (2, .int x2), (3, .int x3), (4, .int 0), (5, .int 0)] [] h (kV K))) : AW (m_X12_weigh (d + 1) 0 0) 0 0 7 [(0, .ref 1), (1, .int x1), (2, .int x2), (3, .int x3)] [] h (kV K) := by
  refine aw_iload_n (i := 3) rfl d_X12_weigh_7 3 rfl ?_
  refine aw_aload_n (i := 0) rfl d_X12_weigh_8 0 rfl ?_
  refine aw_geti (k0 := 108) kc_12 (ws_1 w) (Nat.le_of_ble_eq_true rfl) tw_1850 d_X12_weigh_9 rfl ?_
  refine aw_icmp_ge (tgt := 85) d_X12_weigh_12 rfl (fun c1 => ?_) (fun c1 => ?_)
  · have k := k.1 c1
    refine aw_iload_n (i := 1) rfl d_X12_weigh_85 1 rfl ?_
    refine aw_aload_n (i := 0) rfl d_X12_weigh_86 0 rfl ?_
    refine aw_geti (k0 := 114) kc_12 (ws_1 w) (Nat.le_of_ble_eq_true rfl) tw_1856 d_X12_weigh_87 rfl ?_
    refine aw_icmp_gt (tgt := 109) d_X12_weigh_90 rfl (fun c2 => ?_) (fun c2 => ?_)
    · have k := k.1 c2
      refine aw_aload_n (i := 0) rfl d_X12_weigh_109 0 rfl ?_
      refine aw_iload_n (i := 1) rfl d_X12_weigh_110 1 rfl ?_
      refine aw_puti (k0 := 114) kc_12 (ws_1 w) (Nat.le_of_ble_eq_true rfl) tw_1856 d_X12_weigh_111 rfl rfl nf_i ?_
      refine aw_aload_n (i := 0) rfl d_X12_weigh_114 0 rfl ?_
      refine aw_iload_n (i := 2) rfl d_X12_weigh_115 2 rfl ?_
      refine aw_puti (k0 := 115) kc_12 (ws_1 w) (Nat.le_of_ble_eq_true rfl) tw_1857 d_X12_weigh_116 rfl rfl nf_i ?_
      refine aw_iconst (v := 0) d_X12_weigh_119 ic_0 ?_
      refine aw_istore_n (i := 3) rfl [(0, .ref 1), (1, .int x1), (2, .int x2), (3, .int 0)] d_X12_weigh_120 (Nat.le_of_ble_eq_true rfl) rfl rfl ?_
      exact aw_lvp [0, 3] [(0, .ref 1), (3, .int 0)] rfl k
    · have k := k.2 c2
      refine aw_iload_n (i := 1) rfl d_X12_weigh_93 1 rfl ?_
      refine aw_aload_n (i := 0) rfl d_X12_weigh_94 0 rfl ?_
      refine aw_geti (k0 := 114) kc_12 (ws_1 w) (Nat.le_of_ble_eq_true rfl) tw_1856 d_X12_weigh_95 rfl ?_
      refine aw_icmp_ne (tgt := 147) d_X12_weigh_98 rfl (fun c3 => ?_) (fun c3 => ?_)
      · have k := k.1 c3
        exact aw_vret rfl d_X12_weigh_147 ⟨Nat.le_refl _, Nat.le_refl _⟩ ⟨rfl, k⟩
      · have k := k.2 c3
        refine aw_iload_n (i := 2) rfl d_X12_weigh_101 2 rfl ?_
        refine aw_aload_n (i := 0) rfl d_X12_weigh_102 0 rfl ?_
        refine aw_geti (k0 := 115) kc_12 (ws_1 w) (Nat.le_of_ble_eq_true rfl) tw_1857 d_X12_weigh_103 rfl ?_
        refine aw_icmp_le (tgt := 147) d_X12_weigh_106 rfl (fun c4 => ?_) (fun c4 => ?_)
        · have k := k.1 c4
          exact aw_vret rfl d_X12_weigh_147 ⟨Nat.le_refl _, Nat.le_refl _⟩ ⟨rfl, k⟩
        · have k := k.2 c4
          refine aw_aload_n (i := 0) rfl d_X12_weigh_109 0 rfl ?_
          refine aw_iload_n (i := 1) rfl d_X12_weigh_110 1 rfl ?_
          refine aw_puti (k0 := 114) kc_12 (ws_1 w) (Nat.le_of_ble_eq_true rfl) tw_1856 d_X12_weigh_111 rfl rfl nf_i ?_
          refine aw_aload_n (i := 0) rfl d_X12_weigh_114 0 rfl ?_
          refine aw_iload_n (i := 2) rfl d_X12_weigh_115 2 rfl ?_
          refine aw_puti (k0 := 115) kc_12 (ws_1 w) (Nat.le_of_ble_eq_true rfl) tw_1857 d_X12_weigh_116 rfl rfl nf_i ?_
          refine aw_iconst (v := 0) d_X12_weigh_119 ic_0 ?_
          refine aw_istore_n (i := 3) rfl [(0, .ref 1), (1, .int x1), (2, .int x2), (3, .int 0)] d_X12_weigh_120 (Nat.le_of_ble_eq_true rfl) rfl rfl ?_
          exact aw_lvp [0, 3] [(0, .ref 1), (3, .int 0)] rfl k
  · have k := k.2 c1
    refine aw_iconst (v := 0) d_X12_weigh_15 ic_0 ?_
    refine aw_istore [(0, .ref 1), (1, .int x1), (2, .int x2), (3, .int x3), (4, .int 0)] d_X12_weigh_16 (Nat.le_of_ble_eq_true rfl) rfl rfl ?_
    refine aw_iconst (v := 0) d_X12_weigh_18 ic_0 ?_
    refine aw_istore [(0, .ref 1), (1, .int x1), (2, .int x2), (3, .int x3), (4, .int 0), (5, .int 0)] d_X12_weigh_19 (Nat.le_of_ble_eq_true rfl) rfl rfl ?_
    exact k
theorem t_X12_weigh_121 (d : Nat) (h : Hp_) (w : Wf h) (x3 : Int32) (K : Hp_ → Prop) (k : ((h_i h 1 113) ≤ x3 → K h) ∧ (¬ (h_i h 1 113) ≤ x3 → vp_in x3 5 ∧ (vp_in x3 5 ∧ (AW (m_X12_weigh (d + 1) 0 0) 0 0 121 [(0, .ref 1), (3, .int (x3 + 1))] [] (h_im h 286 x3.toNatClampNeg (h_i h 285 x3.toNatClampNeg)) (kV K))))) : AW (m_X12_weigh (d + 1) 0 0) 0 0 121 [(0, .ref 1), (3, .int x3)] [] h (kV K) := by
  refine aw_iload_n (i := 3) rfl d_X12_weigh_121 1 rfl ?_
  refine aw_aload_n (i := 0) rfl d_X12_weigh_122 0 rfl ?_
  refine aw_geti (k0 := 113) kc_12 (ws_1 w) (Nat.le_of_ble_eq_true rfl) tw_1855 d_X12_weigh_123 rfl ?_
  refine aw_icmp_ge (tgt := 147) d_X12_weigh_126 rfl (fun c5 => ?_) (fun c5 => ?_)
  · have k := k.1 c5
    exact aw_vret rfl d_X12_weigh_147 ⟨Nat.le_refl _, Nat.le_refl _⟩ ⟨rfl, k⟩
  · have k := k.2 c5
    refine aw_aload_n (i := 0) rfl d_X12_weigh_129 0 rfl ?_
    refine aw_getr (k0 := 111) kc_12 (ws_1 w) (Nat.le_of_ble_eq_true rfl) tw_1853 d_X12_weigh_130 rfl (wr_1_111 w) ?_
    refine aw_iload_n (i := 3) rfl d_X12_weigh_133 1 rfl ?_
    refine aw_aload_n (i := 0) rfl d_X12_weigh_134 0 rfl ?_
    refine aw_getr (k0 := 110) kc_12 (ws_1 w) (Nat.le_of_ble_eq_true rfl) tw_1852 d_X12_weigh_135 rfl (wr_1_110 w) ?_
    refine aw_iload_n (i := 3) rfl d_X12_weigh_138 1 rfl ?_
    obtain ⟨b6, k⟩ := k
    refine aw_iald (ws_285 w) b6 d_X12_weigh_139 ?_
    obtain ⟨b7, k⟩ := k
    refine aw_iast (ws_286 w) b7 d_X12_weigh_140 ?_
    refine aw_iinc (v := (x3 + 1)) [(0, .ref 1), (3, .int (x3 + 1))] d_X12_weigh_141 1 rfl rfl (Nat.le_of_ble_eq_true rfl) rfl rfl ?_
    refine aw_goto (tgt := 121) d_X12_weigh_144 rfl ?_
    exact k
theorem t_X12_weigh_21 (d : Nat) (h : Hp_) (w : Wf h) (x1 : Int32) (x2 : Int32) (x3 : Int32) (x4 : Int32) (x5 : Int32) (K : Hp_ → Prop) (k : ((h_i h 1 113) ≤ x5 → Ci (m_J9_min_7cf53 (d + 0) 0 0) [.int x1, .int x4] h (fun r11 h9 => Wf h9 ∧ (AW (m_X12_weigh (d + 1) 0 0) 0 0 7 [(0, .ref 1), (1, .int r11), (2, .int (x2 + x4)), (3, .int (x3 + 1))] [] h9 (kV K)))) ∧ (¬ (h_i h 1 113) ≤ x5 → vp_in x5 5 ∧ ((¬ (((h_i h 287 x5.toNatClampNeg) >>> (x3 &&& 31)) &&& 1) = 1 → AW (m_X12_weigh (d + 1) 0 0) 0 0 21 [(0, .ref 1), (1, .int x1), (2, .int x2), (3, .int x3), (4, .int (x4 + 0)), (5, .int (x5 + 1))] [] h (kV K)) ∧ ((((h_i h 287 x5.toNatClampNeg) >>> (x3 &&& 31)) &&& 1) = 1 → vp_in x5 5 ∧ (AW (m_X12_weigh (d + 1) 0 0) 0 0 21 [(0, .ref 1), (1, .int x1), (2, .int x2), (3, .int x3), (4, .int (x4 + (h_i h 285 x5.toNatClampNeg))), (5, .int (x5 + 1))] [] h (kV K)))))) : AW (m_X12_weigh (d + 1) 0 0) 0 0 21 [(0, .ref 1), (1, .int x1), (2, .int x2), (3, .int x3), (4, .int x4), (5, .int x5)] [] h (kV K) := by
  refine aw_iload d_X12_weigh_21 5 rfl ?_
  refine aw_aload_n (i := 0) rfl d_X12_weigh_23 0 rfl ?_
  refine aw_geti (k0 := 113) kc_12 (ws_1 w) (Nat.le_of_ble_eq_true rfl) tw_1855 d_X12_weigh_24 rfl ?_
  refine aw_icmp_ge (tgt := 67) d_X12_weigh_27 rfl (fun c8 => ?_) (fun c8 => ?_)
  · have k := k.1 c8
    refine aw_iload_n (i := 1) rfl d_X12_weigh_67 1 rfl ?_
    refine aw_iload d_X12_weigh_68 4 rfl ?_
    refine aw_Si [.int x1, .int x4] [] d_X12_weigh_70 (cS_J9_min_7cf53 (d + 0) 0 0) tw_2556 rfl (rr0 (Nat.le_of_ble_eq_true rfl) (Nat.le_of_ble_eq_true rfl)) (Nat.le_of_ble_eq_true rfl) xs0 k (fun r11 h9 kk => ?_)
    obtain ⟨w10, k⟩ := kk
    refine aw_istore_n (i := 1) rfl [(0, .ref 1), (1, .int r11), (2, .int x2), (3, .int x3), (4, .int x4), (5, .int x5)] d_X12_weigh_73 (Nat.le_of_ble_eq_true rfl) rfl rfl ?_
    refine aw_iload_n (i := 2) rfl d_X12_weigh_74 2 rfl ?_
    refine aw_iload d_X12_weigh_75 4 rfl ?_
    refine aw_iadd d_X12_weigh_77 ?_
    refine aw_istore_n (i := 2) rfl [(0, .ref 1), (1, .int r11), (2, .int (x2 + x4)), (3, .int x3), (4, .int x4), (5, .int x5)] d_X12_weigh_78 (Nat.le_of_ble_eq_true rfl) rfl rfl ?_
    refine aw_iinc (v := (x3 + 1)) [(0, .ref 1), (1, .int r11), (2, .int (x2 + x4)), (3, .int (x3 + 1)), (4, .int x4), (5, .int x5)] d_X12_weigh_79 3 rfl rfl (Nat.le_of_ble_eq_true rfl) rfl rfl ?_
    refine aw_goto (tgt := 7) d_X12_weigh_82 rfl ?_
    exact aw_lvp [0, 1, 2, 3] [(0, .ref 1), (1, .int r11), (2, .int (x2 + x4)), (3, .int (x3 + 1))] rfl k
  · have k := k.2 c8
    refine aw_iload d_X12_weigh_30 4 rfl ?_
    refine aw_aload_n (i := 0) rfl d_X12_weigh_32 0 rfl ?_
    refine aw_getr (k0 := 112) kc_12 (ws_1 w) (Nat.le_of_ble_eq_true rfl) tw_1854 d_X12_weigh_33 rfl (wr_1_112 w) ?_
    refine aw_iload d_X12_weigh_36 5 rfl ?_
    obtain ⟨b12, k⟩ := k
    refine aw_iald (ws_287 w) b12 d_X12_weigh_38 ?_
    refine aw_iload_n (i := 3) rfl d_X12_weigh_39 3 rfl ?_
    refine aw_ishr d_X12_weigh_40 ?_
    refine aw_iconst (v := 1) d_X12_weigh_41 ic_1 ?_
    refine aw_iand d_X12_weigh_42 ?_
    refine aw_iconst (v := 1) d_X12_weigh_43 ic_1 ?_
    refine aw_icmp_ne (tgt := 57) d_X12_weigh_44 rfl (fun c13 => ?_) (fun c13 => ?_)
    · have k := k.1 c13
      refine aw_iconst (v := 0) d_X12_weigh_57 ic_0 ?_
      refine aw_iadd d_X12_weigh_58 ?_
      refine aw_istore [(0, .ref 1), (1, .int x1), (2, .int x2), (3, .int x3), (4, .int (x4 + 0)), (5, .int x5)] d_X12_weigh_59 (Nat.le_of_ble_eq_true rfl) rfl rfl ?_
      refine aw_iinc (v := (x5 + 1)) [(0, .ref 1), (1, .int x1), (2, .int x2), (3, .int x3), (4, .int (x4 + 0)), (5, .int (x5 + 1))] d_X12_weigh_61 5 rfl rfl (Nat.le_of_ble_eq_true rfl) rfl rfl ?_
      refine aw_goto (tgt := 21) d_X12_weigh_64 rfl ?_
      exact k
    · have k := k.2 c13
      refine aw_aload_n (i := 0) rfl d_X12_weigh_47 0 rfl ?_
      refine aw_getr (k0 := 110) kc_12 (ws_1 w) (Nat.le_of_ble_eq_true rfl) tw_1852 d_X12_weigh_48 rfl (wr_1_110 w) ?_
      refine aw_iload d_X12_weigh_51 5 rfl ?_
      obtain ⟨b14, k⟩ := k
      refine aw_iald (ws_285 w) b14 d_X12_weigh_53 ?_
      refine aw_goto (tgt := 58) d_X12_weigh_54 rfl ?_
      refine aw_iadd d_X12_weigh_58 ?_
      refine aw_istore [(0, .ref 1), (1, .int x1), (2, .int x2), (3, .int x3), (4, .int (x4 + (h_i h 285 x5.toNatClampNeg))), (5, .int x5)] d_X12_weigh_59 (Nat.le_of_ble_eq_true rfl) rfl rfl ?_
      refine aw_iinc (v := (x5 + 1)) [(0, .ref 1), (1, .int x1), (2, .int x2), (3, .int x3), (4, .int (x4 + (h_i h 285 x5.toNatClampNeg))), (5, .int (x5 + 1))] d_X12_weigh_61 5 rfl rfl (Nat.le_of_ble_eq_true rfl) rfl rfl ?_
      refine aw_goto (tgt := 21) d_X12_weigh_64 rfl ?_
      exact k
theorem t_X12_costOf (d : Nat) (h : Hp_) (w : Wf h) (x1 : Int32) (x2 : Int32) (K : Int32 → Hp_ → Prop) (k : vp_in x1 12 ∧ (((h_i h 208 x1.toNatClampNeg) = 0 → AW (m_X12_costOf (d + 1) 0 0) 0 0 23 [(0, .ref 1), (1, .int x1), (2, .int x2)] [] h (kI K)) ∧ (¬ (h_i h 208 x1.toNatClampNeg) = 0 → vp_in x1 12 ∧ (((h_i h 208 x1.toNatClampNeg) = 1 → AW (m_X12_costOf (d + 1) 0 0) 0 0 23 [(0, .ref 1), (1, .int x1), (2, .int x2)] [] h (kI K)) ∧ (¬ (h_i h 208 x1.toNatClampNeg) = 1 → K 1000000000 h))))) : Ci (m_X12_costOf (d + 1) 0 0) [.ref 1, .int x1, .int x2] h K := by
  refine Ct.of (fun _ _ _ => trivial) rfl (Nat.le_of_ble_eq_true rfl) ?_
  show AW (m_X12_costOf (d + 1) 0 0) 0 0 0 [(0, .ref 1), (1, .int x1), (2, .int x2)] [] h (kI K)
  refine aw_aload_n (i := 0) rfl d_X12_costOf_0 0 rfl ?_
  refine aw_getr (k0 := 12) kc_12 (ws_1 w) (Nat.le_of_ble_eq_true rfl) tw_1754 d_X12_costOf_1 rfl (wr_1_12 w) ?_
  refine aw_iload_n (i := 1) rfl d_X12_costOf_4 1 rfl ?_
  obtain ⟨b1, k⟩ := k
  refine aw_iald (ws_208 w) b1 d_X12_costOf_5 ?_
  refine aw_if_eq (tgt := 23) d_X12_costOf_6 rfl (fun c2 => ?_) (fun c2 => ?_)
  · have k := k.1 c2
    exact k
  · have k := k.2 c2
    refine aw_aload_n (i := 0) rfl d_X12_costOf_9 0 rfl ?_
    refine aw_getr (k0 := 12) kc_12 (ws_1 w) (Nat.le_of_ble_eq_true rfl) tw_1754 d_X12_costOf_10 rfl (wr_1_12 w) ?_
    refine aw_iload_n (i := 1) rfl d_X12_costOf_13 1 rfl ?_
    obtain ⟨b3, k⟩ := k
    refine aw_iald (ws_208 w) b3 d_X12_costOf_14 ?_
    refine aw_iconst (v := 1) d_X12_costOf_15 ic_1 ?_
    refine aw_icmp_eq (tgt := 23) d_X12_costOf_16 rfl (fun c4 => ?_) (fun c4 => ?_)
    · have k := k.1 c4
      exact k
    · have k := k.2 c4
      refine aw_ldcw (v := 1000000000) d_X12_costOf_19 tw_2651 ?_
      exact aw_iret rfl d_X12_costOf_22 ⟨Nat.le_refl _, Nat.le_refl _⟩ ⟨_, rfl, k⟩
theorem t_X12_costOf_23 (d : Nat) (h : Hp_) (w : Wf h) (x1 : Int32) (x2 : Int32) (K : Int32 → Hp_ → Prop) (k : vp_in x1 12 ∧ ((¬ (h_i h 210 x1.toNatClampNeg) = (-1) → vp_in x1 12 ∧ (vp_in x1 12 ∧ ((¬ (h_i h 210 x1.toNatClampNeg) = (-1) → vp_in x1 12 ∧ (vp_in x2 4 ∧ (Ci (m_X12_walkOf (d + 0) 0 0) [.ref 1, .int (h_i h 210 x1.toNatClampNeg), .int (h_i h 288 x2.toNatClampNeg)] h (fun r14 h12 => Wf h12 ∧ ((r14 = (-1) → K 1000000000 h12) ∧ (¬ r14 = (-1) → vp_in x2 4 ∧ ((((h_i h 211 x1.toNatClampNeg) + r14) ≤ (h_i h12 289 x2.toNatClampNeg) → vp_in x1 12 ∧ (AW (m_X12_costOf (d + 1) 0 0) 0 0 122 [(0, .ref 1), (1, .int x1), (5, .int r14), (6, .int 0), (7, .int (h_i h12 215 x1.toNatClampNeg))] [] h12 (kI K))) ∧ (¬ ((h_i h 211 x1.toNatClampNeg) + r14) ≤ (h_i h12 289 x2.toNatClampNeg) → K 1000000000 h12)))))))) ∧ ((h_i h 210 x1.toNatClampNeg) = (-1) → vp_in x2 4 ∧ (Ci (m_X12_walkOf (d + 0) 0 0) [.ref 1, .int (h_i h 210 x1.toNatClampNeg), .int (h_i h 288 x2.toNatClampNeg)] h (fun r22 h20 => Wf h20 ∧ ((r22 = (-1) → K 1000000000 h20) ∧ (¬ r22 = (-1) → vp_in x2 4 ∧ ((((h_i h 1 0) + r22) ≤ (h_i h20 289 x2.toNatClampNeg) → vp_in x1 12 ∧ (AW (m_X12_costOf (d + 1) 0 0) 0 0 122 [(0, .ref 1), (1, .int x1), (5, .int r22), (6, .int 0), (7, .int (h_i h20 215 x1.toNatClampNeg))] [] h20 (kI K))) ∧ (¬ ((h_i h 1 0) + r22) ≤ (h_i h20 289 x2.toNatClampNeg) → K 1000000000 h20)))))))))) ∧ ((h_i h 210 x1.toNatClampNeg) = (-1) → vp_in x1 12 ∧ (vp_in x1 12 ∧ ((¬ (h_i h 210 x1.toNatClampNeg) = (-1) → vp_in x1 12 ∧ (vp_in x2 4 ∧ (Ci (m_X12_walkOf (d + 0) 0 0) [.ref 1, .int (h_i h 209 x1.toNatClampNeg), .int (h_i h 288 x2.toNatClampNeg)] h (fun r34 h32 => Wf h32 ∧ ((r34 = (-1) → K 1000000000 h32) ∧ (¬ r34 = (-1) → vp_in x2 4 ∧ ((((h_i h 211 x1.toNatClampNeg) + r34) ≤ (h_i h32 289 x2.toNatClampNeg) → vp_in x1 12 ∧ (AW (m_X12_costOf (d + 1) 0 0) 0 0 122 [(0, .ref 1), (1, .int x1), (5, .int r34), (6, .int 0), (7, .int (h_i h32 215 x1.toNatClampNeg))] [] h32 (kI K))) ∧ (¬ ((h_i h 211 x1.toNatClampNeg) + r34) ≤ (h_i h32 289 x2.toNatClampNeg) → K 1000000000 h32)))))))) ∧ ((h_i h 210 x1.toNatClampNeg) = (-1) → vp_in x2 4 ∧ (Ci (m_X12_walkOf (d + 0) 0 0) [.ref 1, .int (h_i h 209 x1.toNatClampNeg), .int (h_i h 288 x2.toNatClampNeg)] h (fun r42 h40 => Wf h40 ∧ ((r42 = (-1) → K 1000000000 h40) ∧ (¬ r42 = (-1) → vp_in x2 4 ∧ ((((h_i h 1 0) + r42) ≤ (h_i h40 289 x2.toNatClampNeg) → vp_in x1 12 ∧ (AW (m_X12_costOf (d + 1) 0 0) 0 0 122 [(0, .ref 1), (1, .int x1), (5, .int r42), (6, .int 0), (7, .int (h_i h40 215 x1.toNatClampNeg))] [] h40 (kI K))) ∧ (¬ ((h_i h 1 0) + r42) ≤ (h_i h40 289 x2.toNatClampNeg) → K 1000000000 h40)))))))))))) : AW (m_X12_costOf (d + 1) 0 0) 0 0 23 [(0, .ref 1), (1, .int x1), (2, .int x2)] [] h (kI K) := by
  refine aw_aload_n (i := 0) rfl d_X12_costOf_23 0 rfl ?_
  refine aw_getr (k0 := 14) kc_12 (ws_1 w) (Nat.le_of_ble_eq_true rfl) tw_1756 d_X12_costOf_24 rfl (wr_1_14 w) ?_
  refine aw_iload_n (i := 1) rfl d_X12_costOf_27 1 rfl ?_
  obtain ⟨b5, k⟩ := k
  refine aw_iald (ws_210 w) b5 d_X12_costOf_28 ?_
  refine aw_iconst (v := (-1)) d_X12_costOf_29 ic_m1 ?_
  refine aw_icmp_ne (tgt := 42) d_X12_costOf_30 rfl (fun c6 => ?_) (fun c6 => ?_)
  · have k := k.1 c6
    refine aw_aload_n (i := 0) rfl d_X12_costOf_42 0 rfl ?_
    refine aw_getr (k0 := 14) kc_12 (ws_1 w) (Nat.le_of_ble_eq_true rfl) tw_1756 d_X12_costOf_43 rfl (wr_1_14 w) ?_
    refine aw_iload_n (i := 1) rfl d_X12_costOf_46 1 rfl ?_
    obtain ⟨b7, k⟩ := k
    refine aw_iald (ws_210 w) b7 d_X12_costOf_47 ?_
    refine aw_istore_n (i := 3) rfl [(0, .ref 1), (1, .int x1), (2, .int x2), (3, .int (h_i h 210 x1.toNatClampNeg))] d_X12_costOf_48 (Nat.le_of_ble_eq_true rfl) rfl rfl ?_
    refine aw_aload_n (i := 0) rfl d_X12_costOf_49 0 rfl ?_
    refine aw_getr (k0 := 14) kc_12 (ws_1 w) (Nat.le_of_ble_eq_true rfl) tw_1756 d_X12_costOf_50 rfl (wr_1_14 w) ?_
    refine aw_iload_n (i := 1) rfl d_X12_costOf_53 1 rfl ?_
    obtain ⟨b8, k⟩ := k
    refine aw_iald (ws_210 w) b8 d_X12_costOf_54 ?_
    refine aw_iconst (v := (-1)) d_X12_costOf_55 ic_m1 ?_
    refine aw_icmp_ne (tgt := 66) d_X12_costOf_56 rfl (fun c9 => ?_) (fun c9 => ?_)
    · have k := k.1 c9
      refine aw_aload_n (i := 0) rfl d_X12_costOf_66 0 rfl ?_
      refine aw_getr (k0 := 15) kc_12 (ws_1 w) (Nat.le_of_ble_eq_true rfl) tw_1757 d_X12_costOf_67 rfl (wr_1_15 w) ?_
      refine aw_iload_n (i := 1) rfl d_X12_costOf_70 1 rfl ?_
      obtain ⟨b10, k⟩ := k
      refine aw_iald (ws_211 w) b10 d_X12_costOf_71 ?_
      refine aw_istore [(0, .ref 1), (1, .int x1), (2, .int x2), (3, .int (h_i h 210 x1.toNatClampNeg)), (4, .int (h_i h 211 x1.toNatClampNeg))] d_X12_costOf_72 (Nat.le_of_ble_eq_true rfl) rfl rfl ?_
      refine aw_aload_n (i := 0) rfl d_X12_costOf_74 0 rfl ?_
      refine aw_iload_n (i := 3) rfl d_X12_costOf_75 3 rfl ?_
      refine aw_aload_n (i := 0) rfl d_X12_costOf_76 0 rfl ?_
      refine aw_getr (k0 := 116) kc_12 (ws_1 w) (Nat.le_of_ble_eq_true rfl) tw_1858 d_X12_costOf_77 rfl (wr_1_116 w) ?_
      refine aw_iload_n (i := 2) rfl d_X12_costOf_80 2 rfl ?_
      obtain ⟨b11, k⟩ := k
      refine aw_iald (ws_288 w) b11 d_X12_costOf_81 ?_
      refine aw_Vi 1 [.int (h_i h 210 x1.toNatClampNeg), .int (h_i h 288 x2.toNatClampNeg)] [] d_X12_costOf_82 (cV_X12_walkOf (d + 0) 0 0) kc_12 (ws_1 w) tw_2154 rfl (rr0 (Nat.le_of_ble_eq_true rfl) (Nat.le_of_ble_eq_true rfl)) (Nat.le_of_ble_eq_true rfl) xs0 k (fun r14 h12 kk => ?_)
      obtain ⟨w13, k⟩ := kk
      refine aw_istore [(0, .ref 1), (1, .int x1), (2, .int x2), (3, .int (h_i h 210 x1.toNatClampNeg)), (4, .int (h_i h 211 x1.toNatClampNeg)), (5, .int r14)] d_X12_costOf_85 (Nat.le_of_ble_eq_true rfl) rfl rfl ?_
      refine aw_iload d_X12_costOf_87 5 rfl ?_
      refine aw_iconst (v := (-1)) d_X12_costOf_89 ic_m1 ?_
      refine aw_icmp_eq (tgt := 107) d_X12_costOf_90 rfl (fun c15 => ?_) (fun c15 => ?_)
      · have k := k.1 c15
        refine aw_ldcw (v := 1000000000) d_X12_costOf_107 tw_2651 ?_
        exact aw_iret rfl d_X12_costOf_110 ⟨Nat.le_refl _, Nat.le_refl _⟩ ⟨_, rfl, k⟩
      · have k := k.2 c15
        refine aw_iload d_X12_costOf_93 4 rfl ?_
        refine aw_iload d_X12_costOf_95 5 rfl ?_
        refine aw_iadd d_X12_costOf_97 ?_
        refine aw_aload_n (i := 0) rfl d_X12_costOf_98 0 rfl ?_
        refine aw_getr (k0 := 117) kc_12 (ws_1 w13) (Nat.le_of_ble_eq_true rfl) tw_1859 d_X12_costOf_99 rfl (wr_1_117 w13) ?_
        refine aw_iload_n (i := 2) rfl d_X12_costOf_102 2 rfl ?_
        obtain ⟨b16, k⟩ := k
        refine aw_iald (ws_289 w13) b16 d_X12_costOf_103 ?_
        refine aw_icmp_le (tgt := 111) d_X12_costOf_104 rfl (fun c17 => ?_) (fun c17 => ?_)
        · have k := k.1 c17
          refine aw_iconst (v := 0) d_X12_costOf_111 ic_0 ?_
          refine aw_istore [(0, .ref 1), (1, .int x1), (2, .int x2), (3, .int (h_i h 210 x1.toNatClampNeg)), (4, .int (h_i h 211 x1.toNatClampNeg)), (5, .int r14), (6, .int 0)] d_X12_costOf_112 (Nat.le_of_ble_eq_true rfl) rfl rfl ?_
          refine aw_aload_n (i := 0) rfl d_X12_costOf_114 0 rfl ?_
          refine aw_getr (k0 := 19) kc_12 (ws_1 w13) (Nat.le_of_ble_eq_true rfl) tw_1761 d_X12_costOf_115 rfl (wr_1_19 w13) ?_
          refine aw_iload_n (i := 1) rfl d_X12_costOf_118 1 rfl ?_
          obtain ⟨b18, k⟩ := k
          refine aw_iald (ws_215 w13) b18 d_X12_costOf_119 ?_
          refine aw_istore [(0, .ref 1), (1, .int x1), (2, .int x2), (3, .int (h_i h 210 x1.toNatClampNeg)), (4, .int (h_i h 211 x1.toNatClampNeg)), (5, .int r14), (6, .int 0), (7, .int (h_i h12 215 x1.toNatClampNeg))] d_X12_costOf_120 (Nat.le_of_ble_eq_true rfl) rfl rfl ?_
          exact aw_lvp [0, 1, 5, 6, 7] [(0, .ref 1), (1, .int x1), (5, .int r14), (6, .int 0), (7, .int (h_i h12 215 x1.toNatClampNeg))] rfl k
        · have k := k.2 c17
          refine aw_ldcw (v := 1000000000) d_X12_costOf_107 tw_2651 ?_
          exact aw_iret rfl d_X12_costOf_110 ⟨Nat.le_refl _, Nat.le_refl _⟩ ⟨_, rfl, k⟩
    · have k := k.2 c9
      refine aw_aload_n (i := 0) rfl d_X12_costOf_59 0 rfl ?_
      refine aw_geti (k0 := 0) kc_12 (ws_1 w) (Nat.le_of_ble_eq_true rfl) tw_1742 d_X12_costOf_60 rfl ?_
      refine aw_goto (tgt := 72) d_X12_costOf_63 rfl ?_
      refine aw_istore [(0, .ref 1), (1, .int x1), (2, .int x2), (3, .int (h_i h 210 x1.toNatClampNeg)), (4, .int (h_i h 1 0))] d_X12_costOf_72 (Nat.le_of_ble_eq_true rfl) rfl rfl ?_
      refine aw_aload_n (i := 0) rfl d_X12_costOf_74 0 rfl ?_
      refine aw_iload_n (i := 3) rfl d_X12_costOf_75 3 rfl ?_
      refine aw_aload_n (i := 0) rfl d_X12_costOf_76 0 rfl ?_
      refine aw_getr (k0 := 116) kc_12 (ws_1 w) (Nat.le_of_ble_eq_true rfl) tw_1858 d_X12_costOf_77 rfl (wr_1_116 w) ?_
      refine aw_iload_n (i := 2) rfl d_X12_costOf_80 2 rfl ?_
      obtain ⟨b19, k⟩ := k
      refine aw_iald (ws_288 w) b19 d_X12_costOf_81 ?_
      refine aw_Vi 1 [.int (h_i h 210 x1.toNatClampNeg), .int (h_i h 288 x2.toNatClampNeg)] [] d_X12_costOf_82 (cV_X12_walkOf (d + 0) 0 0) kc_12 (ws_1 w) tw_2154 rfl (rr0 (Nat.le_of_ble_eq_true rfl) (Nat.le_of_ble_eq_true rfl)) (Nat.le_of_ble_eq_true rfl) xs0 k (fun r22 h20 kk => ?_)
      obtain ⟨w21, k⟩ := kk
      refine aw_istore [(0, .ref 1), (1, .int x1), (2, .int x2), (3, .int (h_i h 210 x1.toNatClampNeg)), (4, .int (h_i h 1 0)), (5, .int r22)] d_X12_costOf_85 (Nat.le_of_ble_eq_true rfl) rfl rfl ?_
      refine aw_iload d_X12_costOf_87 5 rfl ?_
      refine aw_iconst (v := (-1)) d_X12_costOf_89 ic_m1 ?_
      refine aw_icmp_eq (tgt := 107) d_X12_costOf_90 rfl (fun c23 => ?_) (fun c23 => ?_)
      · have k := k.1 c23
        refine aw_ldcw (v := 1000000000) d_X12_costOf_107 tw_2651 ?_
        exact aw_iret rfl d_X12_costOf_110 ⟨Nat.le_refl _, Nat.le_refl _⟩ ⟨_, rfl, k⟩
      · have k := k.2 c23
        refine aw_iload d_X12_costOf_93 4 rfl ?_
        refine aw_iload d_X12_costOf_95 5 rfl ?_
        refine aw_iadd d_X12_costOf_97 ?_
        refine aw_aload_n (i := 0) rfl d_X12_costOf_98 0 rfl ?_
        refine aw_getr (k0 := 117) kc_12 (ws_1 w21) (Nat.le_of_ble_eq_true rfl) tw_1859 d_X12_costOf_99 rfl (wr_1_117 w21) ?_
        refine aw_iload_n (i := 2) rfl d_X12_costOf_102 2 rfl ?_
        obtain ⟨b24, k⟩ := k
        refine aw_iald (ws_289 w21) b24 d_X12_costOf_103 ?_
        refine aw_icmp_le (tgt := 111) d_X12_costOf_104 rfl (fun c25 => ?_) (fun c25 => ?_)
        · have k := k.1 c25
          refine aw_iconst (v := 0) d_X12_costOf_111 ic_0 ?_
          refine aw_istore [(0, .ref 1), (1, .int x1), (2, .int x2), (3, .int (h_i h 210 x1.toNatClampNeg)), (4, .int (h_i h 1 0)), (5, .int r22), (6, .int 0)] d_X12_costOf_112 (Nat.le_of_ble_eq_true rfl) rfl rfl ?_
          refine aw_aload_n (i := 0) rfl d_X12_costOf_114 0 rfl ?_
          refine aw_getr (k0 := 19) kc_12 (ws_1 w21) (Nat.le_of_ble_eq_true rfl) tw_1761 d_X12_costOf_115 rfl (wr_1_19 w21) ?_
          refine aw_iload_n (i := 1) rfl d_X12_costOf_118 1 rfl ?_
          obtain ⟨b26, k⟩ := k
          refine aw_iald (ws_215 w21) b26 d_X12_costOf_119 ?_
          refine aw_istore [(0, .ref 1), (1, .int x1), (2, .int x2), (3, .int (h_i h 210 x1.toNatClampNeg)), (4, .int (h_i h 1 0)), (5, .int r22), (6, .int 0), (7, .int (h_i h20 215 x1.toNatClampNeg))] d_X12_costOf_120 (Nat.le_of_ble_eq_true rfl) rfl rfl ?_
          exact aw_lvp [0, 1, 5, 6, 7] [(0, .ref 1), (1, .int x1), (5, .int r22), (6, .int 0), (7, .int (h_i h20 215 x1.toNatClampNeg))] rfl k
        · have k := k.2 c25
          refine aw_ldcw (v := 1000000000) d_X12_costOf_107 tw_2651 ?_
          exact aw_iret rfl d_X12_costOf_110 ⟨Nat.le_refl _, Nat.le_refl _⟩ ⟨_, rfl, k⟩
  · have k := k.2 c6
    refine aw_aload_n (i := 0) rfl d_X12_costOf_33 0 rfl ?_
    refine aw_getr (k0 := 13) kc_12 (ws_1 w) (Nat.le_of_ble_eq_true rfl) tw_1755 d_X12_costOf_34 rfl (wr_1_13 w) ?_
    refine aw_iload_n (i := 1) rfl d_X12_costOf_37 1 rfl ?_
    obtain ⟨b27, k⟩ := k
    refine aw_iald (ws_209 w) b27 d_X12_costOf_38 ?_
    refine aw_goto (tgt := 48) d_X12_costOf_39 rfl ?_
    refine aw_istore_n (i := 3) rfl [(0, .ref 1), (1, .int x1), (2, .int x2), (3, .int (h_i h 209 x1.toNatClampNeg))] d_X12_costOf_48 (Nat.le_of_ble_eq_true rfl) rfl rfl ?_
    refine aw_aload_n (i := 0) rfl d_X12_costOf_49 0 rfl ?_
    refine aw_getr (k0 := 14) kc_12 (ws_1 w) (Nat.le_of_ble_eq_true rfl) tw_1756 d_X12_costOf_50 rfl (wr_1_14 w) ?_
    refine aw_iload_n (i := 1) rfl d_X12_costOf_53 1 rfl ?_
    obtain ⟨b28, k⟩ := k
    refine aw_iald (ws_210 w) b28 d_X12_costOf_54 ?_
    refine aw_iconst (v := (-1)) d_X12_costOf_55 ic_m1 ?_
    refine aw_icmp_ne (tgt := 66) d_X12_costOf_56 rfl (fun c29 => ?_) (fun c29 => ?_)
    · have k := k.1 c29
      refine aw_aload_n (i := 0) rfl d_X12_costOf_66 0 rfl ?_
      refine aw_getr (k0 := 15) kc_12 (ws_1 w) (Nat.le_of_ble_eq_true rfl) tw_1757 d_X12_costOf_67 rfl (wr_1_15 w) ?_
      refine aw_iload_n (i := 1) rfl d_X12_costOf_70 1 rfl ?_
      obtain ⟨b30, k⟩ := k
      refine aw_iald (ws_211 w) b30 d_X12_costOf_71 ?_
      refine aw_istore [(0, .ref 1), (1, .int x1), (2, .int x2), (3, .int (h_i h 209 x1.toNatClampNeg)), (4, .int (h_i h 211 x1.toNatClampNeg))] d_X12_costOf_72 (Nat.le_of_ble_eq_true rfl) rfl rfl ?_
      refine aw_aload_n (i := 0) rfl d_X12_costOf_74 0 rfl ?_
      refine aw_iload_n (i := 3) rfl d_X12_costOf_75 3 rfl ?_
      refine aw_aload_n (i := 0) rfl d_X12_costOf_76 0 rfl ?_
      refine aw_getr (k0 := 116) kc_12 (ws_1 w) (Nat.le_of_ble_eq_true rfl) tw_1858 d_X12_costOf_77 rfl (wr_1_116 w) ?_
      refine aw_iload_n (i := 2) rfl d_X12_costOf_80 2 rfl ?_
      obtain ⟨b31, k⟩ := k
      refine aw_iald (ws_288 w) b31 d_X12_costOf_81 ?_
      refine aw_Vi 1 [.int (h_i h 209 x1.toNatClampNeg), .int (h_i h 288 x2.toNatClampNeg)] [] d_X12_costOf_82 (cV_X12_walkOf (d + 0) 0 0) kc_12 (ws_1 w) tw_2154 rfl (rr0 (Nat.le_of_ble_eq_true rfl) (Nat.le_of_ble_eq_true rfl)) (Nat.le_of_ble_eq_true rfl) xs0 k (fun r34 h32 kk => ?_)
      obtain ⟨w33, k⟩ := kk
      refine aw_istore [(0, .ref 1), (1, .int x1), (2, .int x2), (3, .int (h_i h 209 x1.toNatClampNeg)), (4, .int (h_i h 211 x1.toNatClampNeg)), (5, .int r34)] d_X12_costOf_85 (Nat.le_of_ble_eq_true rfl) rfl rfl ?_
      refine aw_iload d_X12_costOf_87 5 rfl ?_
      refine aw_iconst (v := (-1)) d_X12_costOf_89 ic_m1 ?_
      refine aw_icmp_eq (tgt := 107) d_X12_costOf_90 rfl (fun c35 => ?_) (fun c35 => ?_)
      · have k := k.1 c35
        refine aw_ldcw (v := 1000000000) d_X12_costOf_107 tw_2651 ?_
        exact aw_iret rfl d_X12_costOf_110 ⟨Nat.le_refl _, Nat.le_refl _⟩ ⟨_, rfl, k⟩
      · have k := k.2 c35
        refine aw_iload d_X12_costOf_93 4 rfl ?_
        refine aw_iload d_X12_costOf_95 5 rfl ?_
        refine aw_iadd d_X12_costOf_97 ?_
        refine aw_aload_n (i := 0) rfl d_X12_costOf_98 0 rfl ?_
        refine aw_getr (k0 := 117) kc_12 (ws_1 w33) (Nat.le_of_ble_eq_true rfl) tw_1859 d_X12_costOf_99 rfl (wr_1_117 w33) ?_
        refine aw_iload_n (i := 2) rfl d_X12_costOf_102 2 rfl ?_
        obtain ⟨b36, k⟩ := k
        refine aw_iald (ws_289 w33) b36 d_X12_costOf_103 ?_
        refine aw_icmp_le (tgt := 111) d_X12_costOf_104 rfl (fun c37 => ?_) (fun c37 => ?_)
        · have k := k.1 c37
          refine aw_iconst (v := 0) d_X12_costOf_111 ic_0 ?_
          refine aw_istore [(0, .ref 1), (1, .int x1), (2, .int x2), (3, .int (h_i h 209 x1.toNatClampNeg)), (4, .int (h_i h 211 x1.toNatClampNeg)), (5, .int r34), (6, .int 0)] d_X12_costOf_112 (Nat.le_of_ble_eq_true rfl) rfl rfl ?_
          refine aw_aload_n (i := 0) rfl d_X12_costOf_114 0 rfl ?_
          refine aw_getr (k0 := 19) kc_12 (ws_1 w33) (Nat.le_of_ble_eq_true rfl) tw_1761 d_X12_costOf_115 rfl (wr_1_19 w33) ?_
          refine aw_iload_n (i := 1) rfl d_X12_costOf_118 1 rfl ?_
          obtain ⟨b38, k⟩ := k
          refine aw_iald (ws_215 w33) b38 d_X12_costOf_119 ?_
          refine aw_istore [(0, .ref 1), (1, .int x1), (2, .int x2), (3, .int (h_i h 209 x1.toNatClampNeg)), (4, .int (h_i h 211 x1.toNatClampNeg)), (5, .int r34), (6, .int 0), (7, .int (h_i h32 215 x1.toNatClampNeg))] d_X12_costOf_120 (Nat.le_of_ble_eq_true rfl) rfl rfl ?_
          exact aw_lvp [0, 1, 5, 6, 7] [(0, .ref 1), (1, .int x1), (5, .int r34), (6, .int 0), (7, .int (h_i h32 215 x1.toNatClampNeg))] rfl k
        · have k := k.2 c37
          refine aw_ldcw (v := 1000000000) d_X12_costOf_107 tw_2651 ?_
          exact aw_iret rfl d_X12_costOf_110 ⟨Nat.le_refl _, Nat.le_refl _⟩ ⟨_, rfl, k⟩
    · have k := k.2 c29
      refine aw_aload_n (i := 0) rfl d_X12_costOf_59 0 rfl ?_
      refine aw_geti (k0 := 0) kc_12 (ws_1 w) (Nat.le_of_ble_eq_true rfl) tw_1742 d_X12_costOf_60 rfl ?_
      refine aw_goto (tgt := 72) d_X12_costOf_63 rfl ?_
      refine aw_istore [(0, .ref 1), (1, .int x1), (2, .int x2), (3, .int (h_i h 209 x1.toNatClampNeg)), (4, .int (h_i h 1 0))] d_X12_costOf_72 (Nat.le_of_ble_eq_true rfl) rfl rfl ?_
      refine aw_aload_n (i := 0) rfl d_X12_costOf_74 0 rfl ?_
      refine aw_iload_n (i := 3) rfl d_X12_costOf_75 3 rfl ?_
      refine aw_aload_n (i := 0) rfl d_X12_costOf_76 0 rfl ?_
      refine aw_getr (k0 := 116) kc_12 (ws_1 w) (Nat.le_of_ble_eq_true rfl) tw_1858 d_X12_costOf_77 rfl (wr_1_116 w) ?_
      refine aw_iload_n (i := 2) rfl d_X12_costOf_80 2 rfl ?_
      obtain ⟨b39, k⟩ := k
      refine aw_iald (ws_288 w) b39 d_X12_costOf_81 ?_
      refine aw_Vi 1 [.int (h_i h 209 x1.toNatClampNeg), .int (h_i h 288 x2.toNatClampNeg)] [] d_X12_costOf_82 (cV_X12_walkOf (d + 0) 0 0) kc_12 (ws_1 w) tw_2154 rfl (rr0 (Nat.le_of_ble_eq_true rfl) (Nat.le_of_ble_eq_true rfl)) (Nat.le_of_ble_eq_true rfl) xs0 k (fun r42 h40 kk => ?_)
      obtain ⟨w41, k⟩ := kk
      refine aw_istore [(0, .ref 1), (1, .int x1), (2, .int x2), (3, .int (h_i h 209 x1.toNatClampNeg)), (4, .int (h_i h 1 0)), (5, .int r42)] d_X12_costOf_85 (Nat.le_of_ble_eq_true rfl) rfl rfl ?_
      refine aw_iload d_X12_costOf_87 5 rfl ?_
      refine aw_iconst (v := (-1)) d_X12_costOf_89 ic_m1 ?_
      refine aw_icmp_eq (tgt := 107) d_X12_costOf_90 rfl (fun c43 => ?_) (fun c43 => ?_)
      · have k := k.1 c43
        refine aw_ldcw (v := 1000000000) d_X12_costOf_107 tw_2651 ?_
        exact aw_iret rfl d_X12_costOf_110 ⟨Nat.le_refl _, Nat.le_refl _⟩ ⟨_, rfl, k⟩
      · have k := k.2 c43
        refine aw_iload d_X12_costOf_93 4 rfl ?_
        refine aw_iload d_X12_costOf_95 5 rfl ?_
        refine aw_iadd d_X12_costOf_97 ?_
        refine aw_aload_n (i := 0) rfl d_X12_costOf_98 0 rfl ?_
        refine aw_getr (k0 := 117) kc_12 (ws_1 w41) (Nat.le_of_ble_eq_true rfl) tw_1859 d_X12_costOf_99 rfl (wr_1_117 w41) ?_
        refine aw_iload_n (i := 2) rfl d_X12_costOf_102 2 rfl ?_
        obtain ⟨b44, k⟩ := k
        refine aw_iald (ws_289 w41) b44 d_X12_costOf_103 ?_
        refine aw_icmp_le (tgt := 111) d_X12_costOf_104 rfl (fun c45 => ?_) (fun c45 => ?_)
        · have k := k.1 c45
          refine aw_iconst (v := 0) d_X12_costOf_111 ic_0 ?_
          refine aw_istore [(0, .ref 1), (1, .int x1), (2, .int x2), (3, .int (h_i h 209 x1.toNatClampNeg)), (4, .int (h_i h 1 0)), (5, .int r42), (6, .int 0)] d_X12_costOf_112 (Nat.le_of_ble_eq_true rfl) rfl rfl ?_
          refine aw_aload_n (i := 0) rfl d_X12_costOf_114 0 rfl ?_
          refine aw_getr (k0 := 19) kc_12 (ws_1 w41) (Nat.le_of_ble_eq_true rfl) tw_1761 d_X12_costOf_115 rfl (wr_1_19 w41) ?_
          refine aw_iload_n (i := 1) rfl d_X12_costOf_118 1 rfl ?_
          obtain ⟨b46, k⟩ := k
          refine aw_iald (ws_215 w41) b46 d_X12_costOf_119 ?_
          refine aw_istore [(0, .ref 1), (1, .int x1), (2, .int x2), (3, .int (h_i h 209 x1.toNatClampNeg)), (4, .int (h_i h 1 0)), (5, .int r42), (6, .int 0), (7, .int (h_i h40 215 x1.toNatClampNeg))] d_X12_costOf_120 (Nat.le_of_ble_eq_true rfl) rfl rfl ?_
          exact aw_lvp [0, 1, 5, 6, 7] [(0, .ref 1), (1, .int x1), (5, .int r42), (6, .int 0), (7, .int (h_i h40 215 x1.toNatClampNeg))] rfl k
        · have k := k.2 c45
          refine aw_ldcw (v := 1000000000) d_X12_costOf_107 tw_2651 ?_
          exact aw_iret rfl d_X12_costOf_110 ⟨Nat.le_refl _, Nat.le_refl _⟩ ⟨_, rfl, k⟩
theorem t_X12_costOf_122 (d : Nat) (h : Hp_) (w : Wf h) (x1 : Int32) (x5 : Int32) (x6 : Int32) (x7 : Int32) (K : Int32 → Hp_ → Prop) (k : vp_in x1 12 ∧ (((h_i h 217 x1.toNatClampNeg) ≤ x7 → K ((1000000 * x6) + x5) h) ∧ (¬ (h_i h 217 x1.toNatClampNeg) ≤ x7 → vp_in x1 12 ∧ ((¬ (h_i h 208 x1.toNatClampNeg) = 1 → K ((1000000 * x6) + x5) h) ∧ ((h_i h 208 x1.toNatClampNeg) = 1 → vp_in x7 400 ∧ ((¬ (h_i h 241 x7.toNatClampNeg) = (-1) → AW (m_X12_costOf (d + 1) 0 0) 0 0 122 [(0, .ref 1), (1, .int x1), (5, .int x5), (6, .int (x6 + 0)), (7, .int (x7 + 1))] [] h (kI K)) ∧ ((h_i h 241 x7.toNatClampNeg) = (-1) → vp_in x7 400 ∧ ((¬ (h_i h 242 x7.toNatClampNeg) = (-1) → AW (m_X12_costOf (d + 1) 0 0) 0 0 122 [(0, .ref 1), (1, .int x1), (5, .int x5), (6, .int (x6 + 0)), (7, .int (x7 + 1))] [] h (kI K)) ∧ ((h_i h 242 x7.toNatClampNeg) = (-1) → AW (m_X12_costOf (d + 1) 0 0) 0 0 122 [(0, .ref 1), (1, .int x1), (5, .int x5), (6, .int (x6 + 1)), (7, .int (x7 + 1))] [] h (kI K)))))))))) : AW (m_X12_costOf (d + 1) 0 0) 0 0 122 [(0, .ref 1), (1, .int x1), (5, .int x5), (6, .int x6), (7, .int x7)] [] h (kI K) := by
  refine aw_iload d_X12_costOf_122 4 rfl ?_
  refine aw_aload_n (i := 0) rfl d_X12_costOf_124 0 rfl ?_
  refine aw_getr (k0 := 21) kc_12 (ws_1 w) (Nat.le_of_ble_eq_true rfl) tw_1763 d_X12_costOf_125 rfl (wr_1_21 w) ?_
  refine aw_iload_n (i := 1) rfl d_X12_costOf_128 1 rfl ?_
  obtain ⟨b47, k⟩ := k
  refine aw_iald (ws_217 w) b47 d_X12_costOf_129 ?_
  refine aw_icmp_ge (tgt := 181) d_X12_costOf_130 rfl (fun c48 => ?_) (fun c48 => ?_)
  · have k := k.1 c48
    refine aw_ldcw (v := 1000000) d_X12_costOf_181 tw_2652 ?_
    refine aw_iload d_X12_costOf_184 3 rfl ?_
    refine aw_imul d_X12_costOf_186 ?_
    refine aw_iload d_X12_costOf_187 2 rfl ?_
    refine aw_iadd d_X12_costOf_189 ?_
    exact aw_iret rfl d_X12_costOf_190 ⟨Nat.le_refl _, Nat.le_refl _⟩ ⟨_, rfl, k⟩
  · have k := k.2 c48
    refine aw_aload_n (i := 0) rfl d_X12_costOf_133 0 rfl ?_
    refine aw_getr (k0 := 12) kc_12 (ws_1 w) (Nat.le_of_ble_eq_true rfl) tw_1754 d_X12_costOf_134 rfl (wr_1_12 w) ?_
    refine aw_iload_n (i := 1) rfl d_X12_costOf_137 1 rfl ?_
    obtain ⟨b49, k⟩ := k
    refine aw_iald (ws_208 w) b49 d_X12_costOf_138 ?_
    refine aw_iconst (v := 1) d_X12_costOf_139 ic_1 ?_
    refine aw_icmp_ne (tgt := 181) d_X12_costOf_140 rfl (fun c50 => ?_) (fun c50 => ?_)
    · have k := k.1 c50
      refine aw_ldcw (v := 1000000) d_X12_costOf_181 tw_2652 ?_
      refine aw_iload d_X12_costOf_184 3 rfl ?_
      refine aw_imul d_X12_costOf_186 ?_
      refine aw_iload d_X12_costOf_187 2 rfl ?_
      refine aw_iadd d_X12_costOf_189 ?_
      exact aw_iret rfl d_X12_costOf_190 ⟨Nat.le_refl _, Nat.le_refl _⟩ ⟨_, rfl, k⟩
    · have k := k.2 c50
      refine aw_iload d_X12_costOf_143 3 rfl ?_
      refine aw_aload_n (i := 0) rfl d_X12_costOf_145 0 rfl ?_
      refine aw_getr (k0 := 56) kc_12 (ws_1 w) (Nat.le_of_ble_eq_true rfl) tw_1798 d_X12_costOf_146 rfl (wr_1_56 w) ?_
      refine aw_iload d_X12_costOf_149 4 rfl ?_
      obtain ⟨b51, k⟩ := k
      refine aw_iald (ws_241 w) b51 d_X12_costOf_151 ?_
      refine aw_iconst (v := (-1)) d_X12_costOf_152 ic_m1 ?_
      refine aw_icmp_ne (tgt := 171) d_X12_costOf_153 rfl (fun c52 => ?_) (fun c52 => ?_)
      · have k := k.1 c52
        refine aw_iconst (v := 0) d_X12_costOf_171 ic_0 ?_
        refine aw_iadd d_X12_costOf_172 ?_
        refine aw_istore [(0, .ref 1), (1, .int x1), (5, .int x5), (6, .int (x6 + 0)), (7, .int x7)] d_X12_costOf_173 (Nat.le_of_ble_eq_true rfl) rfl rfl ?_
        refine aw_iinc (v := (x7 + 1)) [(0, .ref 1), (1, .int x1), (5, .int x5), (6, .int (x6 + 0)), (7, .int (x7 + 1))] d_X12_costOf_175 4 rfl rfl (Nat.le_of_ble_eq_true rfl) rfl rfl ?_
        refine aw_goto (tgt := 122) d_X12_costOf_178 rfl ?_
        exact k
      · have k := k.2 c52
        refine aw_aload_n (i := 0) rfl d_X12_costOf_156 0 rfl ?_
        refine aw_getr (k0 := 57) kc_12 (ws_1 w) (Nat.le_of_ble_eq_true rfl) tw_1799 d_X12_costOf_157 rfl (wr_1_57 w) ?_
        refine aw_iload d_X12_costOf_160 4 rfl ?_
        obtain ⟨b53, k⟩ := k
        refine aw_iald (ws_242 w) b53 d_X12_costOf_162 ?_
        refine aw_iconst (v := (-1)) d_X12_costOf_163 ic_m1 ?_
        refine aw_icmp_ne (tgt := 171) d_X12_costOf_164 rfl (fun c54 => ?_) (fun c54 => ?_)
        · have k := k.1 c54
          refine aw_iconst (v := 0) d_X12_costOf_171 ic_0 ?_
          refine aw_iadd d_X12_costOf_172 ?_
          refine aw_istore [(0, .ref 1), (1, .int x1), (5, .int x5), (6, .int (x6 + 0)), (7, .int x7)] d_X12_costOf_173 (Nat.le_of_ble_eq_true rfl) rfl rfl ?_
          refine aw_iinc (v := (x7 + 1)) [(0, .ref 1), (1, .int x1), (5, .int x5), (6, .int (x6 + 0)), (7, .int (x7 + 1))] d_X12_costOf_175 4 rfl rfl (Nat.le_of_ble_eq_true rfl) rfl rfl ?_
          refine aw_goto (tgt := 122) d_X12_costOf_178 rfl ?_
          exact k
        · have k := k.2 c54
          refine aw_iconst (v := 1) d_X12_costOf_167 ic_1 ?_
          refine aw_goto (tgt := 172) d_X12_costOf_168 rfl ?_
          refine aw_iadd d_X12_costOf_172 ?_
          refine aw_istore [(0, .ref 1), (1, .int x1), (5, .int x5), (6, .int (x6 + 1)), (7, .int x7)] d_X12_costOf_173 (Nat.le_of_ble_eq_true rfl) rfl rfl ?_
          refine aw_iinc (v := (x7 + 1)) [(0, .ref 1), (1, .int x1), (5, .int x5), (6, .int (x6 + 1)), (7, .int (x7 + 1))] d_X12_costOf_175 4 rfl rfl (Nat.le_of_ble_eq_true rfl) rfl rfl ?_
          refine aw_goto (tgt := 122) d_X12_costOf_178 rfl ?_
          exact k
theorem t_X12_line (d : Nat) (h : Hp_) (w : Wf h) (x1 : Int32) (x2 : Int32) (K : Int32 → Hp_ → Prop) (k : ((0 ≤ x1 ∧ x1 ≤ ((h_i h 1 127) - 1)) → (x2 = 0 → vp_in x1 600 ∧ (K (h_i h 294 x1.toNatClampNeg) h)) ∧ ((x2 = 1 → vp_in x1 600 ∧ (K (h_i h 295 x1.toNatClampNeg) h)) ∧ ((x2 = 2 → vp_in x1 600 ∧ (K (h_i h 296 x1.toNatClampNeg) h)) ∧ ((x2 = 3 → vp_in x1 600 ∧ (K (h_i h 297 x1.toNatClampNeg) h)) ∧ ((¬ x2 = 0 ∧ ¬ x2 = 1 ∧ ¬ x2 = 2 ∧ ¬ x2 = 3 → K (-1000000) h)))))) ∧ (¬ (0 ≤ x1 ∧ x1 ≤ ((h_i h 1 127) - 1)) → K (-1000000) h)) : Ci (m_X12_line (d + 1) 0 0) [.ref 1, .int x1, .int x2] h K := by
  refine Ct.of (fun _ _ _ => trivial) rfl (Nat.le_of_ble_eq_true rfl) ?_
  show AW (m_X12_line (d + 1) 0 0) 0 0 0 [(0, .ref 1), (1, .int x1), (2, .int x2)] [] h (kI K)
  refine aw_iload_n (i := 1) rfl d_X12_line_0 1 rfl ?_
  refine aw_iconst (v := 0) d_X12_line_1 ic_0 ?_
  refine aw_aload_n (i := 0) rfl d_X12_line_2 0 rfl ?_
  refine aw_geti (k0 := 127) kc_12 (ws_1 w) (Nat.le_of_ble_eq_true rfl) tw_1869 d_X12_line_3 rfl ?_
  refine aw_iconst (v := 1) d_X12_line_6 ic_1 ?_
  refine aw_isub d_X12_line_7 ?_
  refine aw_Si [.int x1, .int 0, .int ((h_i h 1 127) - 1)] [] d_X12_line_8 (cS_X12_in (d + 0) 0 0) tw_2147 rfl (rr0 (Nat.le_of_ble_eq_true rfl) (Nat.le_of_ble_eq_true rfl)) (Nat.le_of_ble_eq_true rfl) xs0 (s_X12_in _ _ x1 0 ((h_i h 1 127) - 1)) (fun _ _ kk => ?_)
  obtain ⟨e1, e2⟩ := kk
  rw [e1, e2]
  refine aw_ifb_ne (tgt := 18) d_X12_line_11 rfl (fun c3 => ?_) (fun c3 => ?_)
  · have k := k.1 c3
    refine aw_iload_n (i := 2) rfl d_X12_line_18 2 rfl ?_
    by_cases e4 : x2 = 0
    · refine aw_tableIn (off := 29) (tgt := 48) d_X12_line_19 (by rw [e4]; decide) (by rw [e4]; decide) (by rw [e4]; decide) rfl ?_
      have k := k.1 e4
      refine aw_aload_n (i := 0) rfl d_X12_line_48 0 rfl ?_
      refine aw_getr (k0 := 123) kc_12 (ws_1 w) (Nat.le_of_ble_eq_true rfl) tw_1865 d_X12_line_49 rfl (wr_1_123 w) ?_
      refine aw_iload_n (i := 1) rfl d_X12_line_52 1 rfl ?_
      obtain ⟨b5, k⟩ := k
      refine aw_iald (ws_294 w) b5 d_X12_line_53 ?_
      exact aw_iret rfl d_X12_line_54 ⟨Nat.le_refl _, Nat.le_refl _⟩ ⟨_, rfl, k⟩
    · have k := k.2
      by_cases e6 : x2 = 1
      · refine aw_tableIn (off := 36) (tgt := 55) d_X12_line_19 (by rw [e6]; decide) (by rw [e6]; decide) (by rw [e6]; decide) rfl ?_
        have k := k.1 e6
        refine aw_aload_n (i := 0) rfl d_X12_line_55 0 rfl ?_
        refine aw_getr (k0 := 124) kc_12 (ws_1 w) (Nat.le_of_ble_eq_true rfl) tw_1866 d_X12_line_56 rfl (wr_1_124 w) ?_
        refine aw_iload_n (i := 1) rfl d_X12_line_59 1 rfl ?_
        obtain ⟨b7, k⟩ := k
        refine aw_iald (ws_295 w) b7 d_X12_line_60 ?_
        exact aw_iret rfl d_X12_line_61 ⟨Nat.le_refl _, Nat.le_refl _⟩ ⟨_, rfl, k⟩
      · have k := k.2
        by_cases e8 : x2 = 2
        · refine aw_tableIn (off := 43) (tgt := 62) d_X12_line_19 (by rw [e8]; decide) (by rw [e8]; decide) (by rw [e8]; decide) rfl ?_
          have k := k.1 e8
          refine aw_aload_n (i := 0) rfl d_X12_line_62 0 rfl ?_
          refine aw_getr (k0 := 125) kc_12 (ws_1 w) (Nat.le_of_ble_eq_true rfl) tw_1867 d_X12_line_63 rfl (wr_1_125 w) ?_
          refine aw_iload_n (i := 1) rfl d_X12_line_66 1 rfl ?_
          obtain ⟨b9, k⟩ := k
          refine aw_iald (ws_296 w) b9 d_X12_line_67 ?_
          exact aw_iret rfl d_X12_line_68 ⟨Nat.le_refl _, Nat.le_refl _⟩ ⟨_, rfl, k⟩
        · have k := k.2
          by_cases e10 : x2 = 3
          · refine aw_tableIn (off := 50) (tgt := 69) d_X12_line_19 (by rw [e10]; decide) (by rw [e10]; decide) (by rw [e10]; decide) rfl ?_
            have k := k.1 e10
            refine aw_aload_n (i := 0) rfl d_X12_line_69 0 rfl ?_
            refine aw_getr (k0 := 126) kc_12 (ws_1 w) (Nat.le_of_ble_eq_true rfl) tw_1868 d_X12_line_70 rfl (wr_1_126 w) ?_
            refine aw_iload_n (i := 1) rfl d_X12_line_73 1 rfl ?_
            obtain ⟨b11, k⟩ := k
            refine aw_iald (ws_297 w) b11 d_X12_line_74 ?_
            exact aw_iret rfl d_X12_line_75 ⟨Nat.le_refl _, Nat.le_refl _⟩ ⟨_, rfl, k⟩
          · have k := k.2
            have k := k ⟨e4, e6, e8, e10⟩
            have n12 := sw_ne (0) (by decide) e4
            have n13 := sw_ne (1) (by decide) e6
            have n14 := sw_ne (2) (by decide) e8
            have n15 := sw_ne (3) (by decide) e10
            refine aw_tableOut (tgt := 76) d_X12_line_19 (by omega) rfl ?_
            refine aw_ldcw (v := (-1000000)) d_X12_line_76 tw_2680 ?_
            exact aw_iret rfl d_X12_line_79 ⟨Nat.le_refl _, Nat.le_refl _⟩ ⟨_, rfl, k⟩
  · have k := k.2 c3
    refine aw_ldcw (v := (-1000000)) d_X12_line_14 tw_2680 ?_
    exact aw_iret rfl d_X12_line_17 ⟨Nat.le_refl _, Nat.le_refl _⟩ ⟨_, rfl, k⟩
theorem t_X12_size (d : Nat) (h : Hp_) (w : Wf h) (x1 : Int32) (K : Int32 → Hp_ → Prop) (k : ((1 ≤ x1 ∧ x1 ≤ 12) → K 1 (h_im h 1 130 x1)) ∧ (¬ (1 ≤ x1 ∧ x1 ≤ 12) → K 0 h)) : Ci (m_X12_size (d + 1) 0 0) [.ref 1, .int x1] h K := by
  refine Ct.of (fun _ _ _ => trivial) rfl (Nat.le_of_ble_eq_true rfl) ?_
  show AW (m_X12_size (d + 1) 0 0) 0 0 0 [(0, .ref 1), (1, .int x1)] [] h (kI K)
  refine aw_iload_n (i := 1) rfl d_X12_size_0 1 rfl ?_
  refine aw_iconst (v := 1) d_X12_size_1 ic_1 ?_
  refine aw_bipush (v := 12) d_X12_size_2 ib_12 ?_
  refine aw_Si [.int x1, .int 1, .int 12] [] d_X12_size_4 (cS_X12_in (d + 0) 0 0) tw_2147 rfl (rr0 (Nat.le_of_ble_eq_true rfl) (Nat.le_of_ble_eq_true rfl)) (Nat.le_of_ble_eq_true rfl) xs0 (s_X12_in _ _ x1 1 12) (fun _ _ kk => ?_)
  obtain ⟨e1, e2⟩ := kk
  rw [e1, e2]
  refine aw_ifb_ne (tgt := 12) d_X12_size_7 rfl (fun c3 => ?_) (fun c3 => ?_)
  · have k := k.1 c3
    refine aw_aload_n (i := 0) rfl d_X12_size_12 0 rfl ?_
    refine aw_iload_n (i := 1) rfl d_X12_size_13 1 rfl ?_
    refine aw_puti (k0 := 130) kc_12 (ws_1 w) (Nat.le_of_ble_eq_true rfl) tw_1872 d_X12_size_14 rfl rfl nf_i ?_
    refine aw_iconst (v := 1) d_X12_size_17 ic_1 ?_
    exact aw_zret rfl rfl d_X12_size_18 ⟨Nat.le_refl _, Nat.le_refl _⟩ ⟨_, rfl, k⟩
  · have k := k.2 c3
    refine aw_iconst (v := 0) d_X12_size_10 ic_0 ?_
    exact aw_zret rfl rfl d_X12_size_11 ⟨Nat.le_refl _, Nat.le_refl _⟩ ⟨_, rfl, k⟩
theorem t_X12_habit (d : Nat) (h : Hp_) (x1 : Int32) (x2 : Int32) (K : Int32 → Hp_ → Prop) (k : (¬ (0 ≤ x1 ∧ x1 ≤ 3) → K (-1000000) h) ∧ ((0 ≤ x1 ∧ x1 ≤ 3) → (¬ (0 ≤ x2 ∧ x2 ≤ 3) → K (-1000000) h) ∧ ((0 ≤ x2 ∧ x2 ≤ 3) → (¬ x1 = x2 → AW (m_X12_habit (d + 1) 0 0) 0 0 35 [(0, .ref 1), (1, .int x1), (2, .int x2), (3, .int 0), (4, .int 0), (5, .int 0)] [] h (kI K)) ∧ (x1 = x2 → K (-1000000) h)))) : Ci (m_X12_habit (d + 1) 0 0) [.ref 1, .int x1, .int x2] h K := by
  refine Ct.of (fun _ _ _ => trivial) rfl (Nat.le_of_ble_eq_true rfl) ?_
  show AW (m_X12_habit (d + 1) 0 0) 0 0 0 [(0, .ref 1), (1, .int x1), (2, .int x2)] [] h (kI K)
  refine aw_iload_n (i := 1) rfl d_X12_habit_0 1 rfl ?_
  refine aw_iconst (v := 0) d_X12_habit_1 ic_0 ?_
  refine aw_iconst (v := 3) d_X12_habit_2 ic_3 ?_
  refine aw_Si [.int x1, .int 0, .int 3] [] d_X12_habit_3 (cS_X12_in (d + 0) 0 0) tw_2147 rfl (rr0 (Nat.le_of_ble_eq_true rfl) (Nat.le_of_ble_eq_true rfl)) (Nat.le_of_ble_eq_true rfl) xs0 (s_X12_in _ _ x1 0 3) (fun _ _ kk => ?_)
  obtain ⟨e1, e2⟩ := kk
  rw [e1, e2]
  refine aw_ifb_eq (tgt := 23) d_X12_habit_6 rfl (fun c3 => ?_) (fun c3 => ?_)
  · have k := k.1 c3
    refine aw_ldcw (v := (-1000000)) d_X12_habit_23 tw_2680 ?_
    exact aw_iret rfl d_X12_habit_26 ⟨Nat.le_refl _, Nat.le_refl _⟩ ⟨_, rfl, k⟩
  · have k := k.2 c3
    refine aw_iload_n (i := 2) rfl d_X12_habit_9 2 rfl ?_
    refine aw_iconst (v := 0) d_X12_habit_10 ic_0 ?_
    refine aw_iconst (v := 3) d_X12_habit_11 ic_3 ?_
    refine aw_Si [.int x2, .int 0, .int 3] [] d_X12_habit_12 (cS_X12_in (d + 0) 0 0) tw_2147 rfl (rr0 (Nat.le_of_ble_eq_true rfl) (Nat.le_of_ble_eq_true rfl)) (Nat.le_of_ble_eq_true rfl) xs0 (s_X12_in _ _ x2 0 3) (fun _ _ kk => ?_)
    obtain ⟨e4, e5⟩ := kk
    rw [e4, e5]
    refine aw_ifb_eq (tgt := 23) d_X12_habit_15 rfl (fun c6 => ?_) (fun c6 => ?_)
    · have k := k.1 c6
      refine aw_ldcw (v := (-1000000)) d_X12_habit_23 tw_2680 ?_
      exact aw_iret rfl d_X12_habit_26 ⟨Nat.le_refl _, Nat.le_refl _⟩ ⟨_, rfl, k⟩
    · have k := k.2 c6
      refine aw_iload_n (i := 1) rfl d_X12_habit_18 1 rfl ?_
      refine aw_iload_n (i := 2) rfl d_X12_habit_19 2 rfl ?_
      refine aw_icmp_ne (tgt := 27) d_X12_habit_20 rfl (fun c7 => ?_) (fun c7 => ?_)
      · have k := k.1 c7
        refine aw_iconst (v := 0) d_X12_habit_27 ic_0 ?_
        refine aw_istore_n (i := 3) rfl [(0, .ref 1), (1, .int x1), (2, .int x2), (3, .int 0)] d_X12_habit_28 (Nat.le_of_ble_eq_true rfl) rfl rfl ?_
        refine aw_iconst (v := 0) d_X12_habit_29 ic_0 ?_
        refine aw_istore [(0, .ref 1), (1, .int x1), (2, .int x2), (3, .int 0), (4, .int 0)] d_X12_habit_30 (Nat.le_of_ble_eq_true rfl) rfl rfl ?_
        refine aw_iconst (v := 0) d_X12_habit_32 ic_0 ?_
        refine aw_istore [(0, .ref 1), (1, .int x1), (2, .int x2), (3, .int 0), (4, .int 0), (5, .int 0)] d_X12_habit_33 (Nat.le_of_ble_eq_true rfl) rfl rfl ?_
        exact k
      · have k := k.2 c7
        refine aw_ldcw (v := (-1000000)) d_X12_habit_23 tw_2680 ?_
        exact aw_iret rfl d_X12_habit_26 ⟨Nat.le_refl _, Nat.le_refl _⟩ ⟨_, rfl, k⟩
theorem t_X12_habit_35 (d : Nat) (h : Hp_) (w : Wf h) (x1 : Int32) (x2 : Int32) (x3 : Int32) (x4 : Int32) (x5 : Int32) (K : Int32 → Hp_ → Prop) (k : ((h_i h 1 7) ≤ x5 → ((h_i h 1 130) ≤ x3 → K x4 h) ∧ (¬ (h_i h 1 130) ≤ x3 → K (-1000000) h)) ∧ (¬ (h_i h 1 7) ≤ x5 → vp_in ((12 * x1) + x5) 48 ∧ (((h_i h 299 (((12 * x1) + x5) : Int32).toNatClampNeg) = 0 → AW (m_X12_habit (d + 1) 0 0) 0 0 35 [(0, .ref 1), (1, .int x1), (2, .int x2), (3, .int x3), (4, .int x4), (5, .int (x5 + 1))] [] h (kI K)) ∧ (¬ (h_i h 299 (((12 * x1) + x5) : Int32).toNatClampNeg) = 0 → vp_in ((12 * x2) + x5) 48 ∧ (((h_i h 299 (((12 * x2) + x5) : Int32).toNatClampNeg) = 0 → AW (m_X12_habit (d + 1) 0 0) 0 0 35 [(0, .ref 1), (1, .int x1), (2, .int x2), (3, .int x3), (4, .int x4), (5, .int (x5 + 1))] [] h (kI K)) ∧ (¬ (h_i h 299 (((12 * x2) + x5) : Int32).toNatClampNeg) = 0 → vp_in ((12 * x1) + x5) 48 ∧ (vp_in ((12 * x2) + x5) 48 ∧ (AW (m_X12_habit (d + 1) 0 0) 0 0 35 [(0, .ref 1), (1, .int x1), (2, .int x2), (3, .int (x3 + 1)), (4, .int (x4 + ((h_i h 298 (((12 * x1) + x5) : Int32).toNatClampNeg) - (h_i h 298 (((12 * x2) + x5) : Int32).toNatClampNeg)))), (5, .int (x5 + 1))] [] h (kI K))))))))) : AW (m_X12_habit (d + 1) 0 0) 0 0 35 [(0, .ref 1), (1, .int x1), (2, .int x2), (3, .int x3), (4, .int x4), (5, .int x5)] [] h (kI K) := by
  refine aw_iload d_X12_habit_35 5 rfl ?_
  refine aw_aload_n (i := 0) rfl d_X12_habit_37 0 rfl ?_
  refine aw_geti (k0 := 7) kc_12 (ws_1 w) (Nat.le_of_ble_eq_true rfl) tw_1749 d_X12_habit_38 rfl ?_
  refine aw_icmp_ge (tgt := 113) d_X12_habit_41 rfl (fun c8 => ?_) (fun c8 => ?_)
  · have k := k.1 c8
    refine aw_iload_n (i := 3) rfl d_X12_habit_113 3 rfl ?_
    refine aw_aload_n (i := 0) rfl d_X12_habit_114 0 rfl ?_
    refine aw_geti (k0 := 130) kc_12 (ws_1 w) (Nat.le_of_ble_eq_true rfl) tw_1872 d_X12_habit_115 rfl ?_
    refine aw_icmp_ge (tgt := 127) d_X12_habit_118 rfl (fun c9 => ?_) (fun c9 => ?_)
    · have k := k.1 c9
      refine aw_iload d_X12_habit_127 4 rfl ?_
      exact aw_iret rfl d_X12_habit_129 ⟨Nat.le_refl _, Nat.le_refl _⟩ ⟨_, rfl, k⟩
    · have k := k.2 c9
      refine aw_ldcw (v := (-1000000)) d_X12_habit_121 tw_2680 ?_
      refine aw_goto (tgt := 129) d_X12_habit_124 rfl ?_
      exact aw_iret rfl d_X12_habit_129 ⟨Nat.le_refl _, Nat.le_refl _⟩ ⟨_, rfl, k⟩
  · have k := k.2 c8
    refine aw_aload_n (i := 0) rfl d_X12_habit_44 0 rfl ?_
    refine aw_getr (k0 := 129) kc_12 (ws_1 w) (Nat.le_of_ble_eq_true rfl) tw_1871 d_X12_habit_45 rfl (wr_1_129 w) ?_
    refine aw_bipush (v := 12) d_X12_habit_48 ib_12 ?_
    refine aw_iload_n (i := 1) rfl d_X12_habit_50 1 rfl ?_
    refine aw_imul d_X12_habit_51 ?_
    refine aw_iload d_X12_habit_52 5 rfl ?_
    refine aw_iadd d_X12_habit_54 ?_
    obtain ⟨b10, k⟩ := k
    refine aw_zald (ws_299 w) b10 d_X12_habit_55 ?_
    refine aw_if_eq (tgt := 107) d_X12_habit_56 rfl (fun c11 => ?_) (fun c11 => ?_)
    · have k := k.1 c11
      refine aw_iinc (v := (x5 + 1)) [(0, .ref 1), (1, .int x1), (2, .int x2), (3, .int x3), (4, .int x4), (5, .int (x5 + 1))] d_X12_habit_107 5 rfl rfl (Nat.le_of_ble_eq_true rfl) rfl rfl ?_
      refine aw_goto (tgt := 35) d_X12_habit_110 rfl ?_
      exact k
    · have k := k.2 c11
      refine aw_aload_n (i := 0) rfl d_X12_habit_59 0 rfl ?_
      refine aw_getr (k0 := 129) kc_12 (ws_1 w) (Nat.le_of_ble_eq_true rfl) tw_1871 d_X12_habit_60 rfl (wr_1_129 w) ?_
      refine aw_bipush (v := 12) d_X12_habit_63 ib_12 ?_
      refine aw_iload_n (i := 2) rfl d_X12_habit_65 2 rfl ?_
      refine aw_imul d_X12_habit_66 ?_
      refine aw_iload d_X12_habit_67 5 rfl ?_
      refine aw_iadd d_X12_habit_69 ?_
      obtain ⟨b12, k⟩ := k
      refine aw_zald (ws_299 w) b12 d_X12_habit_70 ?_
      refine aw_if_eq (tgt := 107) d_X12_habit_71 rfl (fun c13 => ?_) (fun c13 => ?_)
      · have k := k.1 c13
        refine aw_iinc (v := (x5 + 1)) [(0, .ref 1), (1, .int x1), (2, .int x2), (3, .int x3), (4, .int x4), (5, .int (x5 + 1))] d_X12_habit_107 5 rfl rfl (Nat.le_of_ble_eq_true rfl) rfl rfl ?_
        refine aw_goto (tgt := 35) d_X12_habit_110 rfl ?_
        exact k
      · have k := k.2 c13
        refine aw_iinc (v := (x3 + 1)) [(0, .ref 1), (1, .int x1), (2, .int x2), (3, .int (x3 + 1)), (4, .int x4), (5, .int x5)] d_X12_habit_74 3 rfl rfl (Nat.le_of_ble_eq_true rfl) rfl rfl ?_
        refine aw_iload d_X12_habit_77 4 rfl ?_
        refine aw_aload_n (i := 0) rfl d_X12_habit_79 0 rfl ?_
        refine aw_getr (k0 := 128) kc_12 (ws_1 w) (Nat.le_of_ble_eq_true rfl) tw_1870 d_X12_habit_80 rfl (wr_1_128 w) ?_
        refine aw_bipush (v := 12) d_X12_habit_83 ib_12 ?_
        refine aw_iload_n (i := 1) rfl d_X12_habit_85 1 rfl ?_
        refine aw_imul d_X12_habit_86 ?_
        refine aw_iload d_X12_habit_87 5 rfl ?_
        refine aw_iadd d_X12_habit_89 ?_
        obtain ⟨b14, k⟩ := k
        refine aw_iald (ws_298 w) b14 d_X12_habit_90 ?_
        refine aw_aload_n (i := 0) rfl d_X12_habit_91 0 rfl ?_
        refine aw_getr (k0 := 128) kc_12 (ws_1 w) (Nat.le_of_ble_eq_true rfl) tw_1870 d_X12_habit_92 rfl (wr_1_128 w) ?_
        refine aw_bipush (v := 12) d_X12_habit_95 ib_12 ?_
        refine aw_iload_n (i := 2) rfl d_X12_habit_97 2 rfl ?_
        refine aw_imul d_X12_habit_98 ?_
        refine aw_iload d_X12_habit_99 5 rfl ?_
        refine aw_iadd d_X12_habit_101 ?_
        obtain ⟨b15, k⟩ := k
        refine aw_iald (ws_298 w) b15 d_X12_habit_102 ?_
        refine aw_isub d_X12_habit_103 ?_
        refine aw_iadd d_X12_habit_104 ?_
        refine aw_istore [(0, .ref 1), (1, .int x1), (2, .int x2), (3, .int (x3 + 1)), (4, .int (x4 + ((h_i h 298 (((12 * x1) + x5) : Int32).toNatClampNeg) - (h_i h 298 (((12 * x2) + x5) : Int32).toNatClampNeg)))), (5, .int x5)] d_X12_habit_105 (Nat.le_of_ble_eq_true rfl) rfl rfl ?_
        refine aw_iinc (v := (x5 + 1)) [(0, .ref 1), (1, .int x1), (2, .int x2), (3, .int (x3 + 1)), (4, .int (x4 + ((h_i h 298 (((12 * x1) + x5) : Int32).toNatClampNeg) - (h_i h 298 (((12 * x2) + x5) : Int32).toNatClampNeg)))), (5, .int (x5 + 1))] d_X12_habit_107 5 rfl rfl (Nat.le_of_ble_eq_true rfl) rfl rfl ?_
        refine aw_goto (tgt := 35) d_X12_habit_110 rfl ?_
        exact k
theorem t_X12_path (d : Nat) (h : Hp_) (w : Wf h) (x1 : Int32) (x2 : Int32) (x3 : Int32) (K : Int32 → Hp_ → Prop) (k : (¬ (0 ≤ x1 ∧ x1 ≤ 15) → K (-1) h) ∧ ((0 ≤ x1 ∧ x1 ≤ 15) → (¬ (0 ≤ x2 ∧ x2 ≤ 15) → K (-1) h) ∧ ((0 ≤ x2 ∧ x2 ≤ 15) → (x1 = x2 → K (-1) h) ∧ (¬ x1 = x2 → (¬ (1 ≤ x3 ∧ x3 ≤ 60) → K (-1) h) ∧ ((1 ≤ x3 ∧ x3 ≤ 60) → (¬ (h_i h 1 6) = 40 → vp_in (h_i h 1 6) 40 ∧ (vp_in (h_i h 1 6) 40 ∧ (vp_in (h_i h 1 6) 40 ∧ (K (((h_i h 1 6) + 1) - 1) (h_im (h_im (h_im (h_im h 200 ((h_i h 1 6) : Int32).toNatClampNeg x1) 201 ((h_i h 1 6) : Int32).toNatClampNeg x2) 202 ((h_i h 1 6) : Int32).toNatClampNeg x3) 1 6 ((h_i h 1 6) + 1)))))) ∧ ((h_i h 1 6) = 40 → K (-1) h)))))) : Ci (m_X12_path (d + 2) 0 0) [.ref 1, .int x1, .int x2, .int x3] h K := by
  refine Ct.of (fun _ _ _ => trivial) rfl (Nat.le_of_ble_eq_true rfl) ?_
  show AW (m_X12_path (d + 2) 0 0) 0 0 0 [(0, .ref 1), (1, .int x1), (2, .int x2), (3, .int x3)] [] h (kI K)
  refine aw_iload_n (i := 1) rfl d_X12_path_0 1 rfl ?_
  refine aw_Si [.int x1] [] d_X12_path_1 (cS_X12_isPlace (d + 1) 0 0) tw_2144 rfl (rr0 (Nat.le_of_ble_eq_true rfl) (Nat.le_of_ble_eq_true rfl)) (Nat.le_of_ble_eq_true rfl) xs0 (s_X12_isPlace _ _ x1) (fun _ _ kk => ?_)
  obtain ⟨e1, e2⟩ := kk
  rw [e1, e2]
  refine aw_ifb_eq (tgt := 38) d_X12_path_4 rfl (fun c3 => ?_) (fun c3 => ?_)
  · have k := k.1 c3
    refine aw_iconst (v := (-1)) d_X12_path_38 ic_m1 ?_
    exact aw_iret rfl d_X12_path_39 ⟨Nat.le_refl _, Nat.le_refl _⟩ ⟨_, rfl, k⟩
  · have k := k.2 c3
    refine aw_iload_n (i := 2) rfl d_X12_path_7 2 rfl ?_
    refine aw_Si [.int x2] [] d_X12_path_8 (cS_X12_isPlace (d + 1) 0 0) tw_2144 rfl (rr0 (Nat.le_of_ble_eq_true rfl) (Nat.le_of_ble_eq_true rfl)) (Nat.le_of_ble_eq_true rfl) xs0 (s_X12_isPlace _ _ x2) (fun _ _ kk => ?_)
    obtain ⟨e4, e5⟩ := kk
    rw [e4, e5]
    refine aw_ifb_eq (tgt := 38) d_X12_path_11 rfl (fun c6 => ?_) (fun c6 => ?_)
    · have k := k.1 c6
      refine aw_iconst (v := (-1)) d_X12_path_38 ic_m1 ?_
      exact aw_iret rfl d_X12_path_39 ⟨Nat.le_refl _, Nat.le_refl _⟩ ⟨_, rfl, k⟩
    · have k := k.2 c6
      refine aw_iload_n (i := 1) rfl d_X12_path_14 1 rfl ?_
      refine aw_iload_n (i := 2) rfl d_X12_path_15 2 rfl ?_
      refine aw_icmp_eq (tgt := 38) d_X12_path_16 rfl (fun c7 => ?_) (fun c7 => ?_)
      · have k := k.1 c7
        refine aw_iconst (v := (-1)) d_X12_path_38 ic_m1 ?_
        exact aw_iret rfl d_X12_path_39 ⟨Nat.le_refl _, Nat.le_refl _⟩ ⟨_, rfl, k⟩
      · have k := k.2 c7
        refine aw_iload_n (i := 3) rfl d_X12_path_19 3 rfl ?_
        refine aw_iconst (v := 1) d_X12_path_20 ic_1 ?_
        refine aw_bipush (v := 60) d_X12_path_21 ib_60 ?_
        refine aw_Si [.int x3, .int 1, .int 60] [] d_X12_path_23 (cS_X12_in (d + 0) 0 0) tw_2147 rfl (rr0 (Nat.le_of_ble_eq_true rfl) (Nat.le_of_ble_eq_true rfl)) (Nat.le_of_ble_eq_true rfl) xs0 (s_X12_in _ _ x3 1 60) (fun _ _ kk => ?_)
        obtain ⟨e8, e9⟩ := kk
        rw [e8, e9]
        refine aw_ifb_eq (tgt := 38) d_X12_path_26 rfl (fun c10 => ?_) (fun c10 => ?_)
        · have k := k.1 c10
          refine aw_iconst (v := (-1)) d_X12_path_38 ic_m1 ?_
          exact aw_iret rfl d_X12_path_39 ⟨Nat.le_refl _, Nat.le_refl _⟩ ⟨_, rfl, k⟩
        · have k := k.2 c10
          refine aw_aload_n (i := 0) rfl d_X12_path_29 0 rfl ?_
          refine aw_geti (k0 := 6) kc_12 (ws_1 w) (Nat.le_of_ble_eq_true rfl) tw_1748 d_X12_path_30 rfl ?_
          refine aw_bipush (v := 40) d_X12_path_33 ib_40 ?_
          refine aw_icmp_ne (tgt := 40) d_X12_path_35 rfl (fun c11 => ?_) (fun c11 => ?_)
          · have k := k.1 c11
            refine aw_aload_n (i := 0) rfl d_X12_path_40 0 rfl ?_
            refine aw_getr (k0 := 2) kc_12 (ws_1 w) (Nat.le_of_ble_eq_true rfl) tw_1744 d_X12_path_41 rfl (wr_1_2 w) ?_
            refine aw_aload_n (i := 0) rfl d_X12_path_44 0 rfl ?_
            refine aw_geti (k0 := 6) kc_12 (ws_1 w) (Nat.le_of_ble_eq_true rfl) tw_1748 d_X12_path_45 rfl ?_
            refine aw_iload_n (i := 1) rfl d_X12_path_48 1 rfl ?_
            obtain ⟨b12, k⟩ := k
            refine aw_iast (ws_200 w) b12 d_X12_path_49 ?_
            refine aw_aload_n (i := 0) rfl d_X12_path_50 0 rfl ?_
            refine aw_getr (k0 := 3) kc_12 (ws_1 w) (Nat.le_of_ble_eq_true rfl) tw_1745 d_X12_path_51 rfl (wr_1_3 w) ?_
            refine aw_aload_n (i := 0) rfl d_X12_path_54 0 rfl ?_
            refine aw_geti (k0 := 6) kc_12 (ws_1 w) (Nat.le_of_ble_eq_true rfl) tw_1748 d_X12_path_55 rfl ?_
            refine aw_vi (v2 := (h_i h 1 6)) (rfl) ?_
            refine aw_iload_n (i := 2) rfl d_X12_path_58 2 rfl ?_
            obtain ⟨b13, k⟩ := k
            refine aw_iast (ws_201 w) b13 d_X12_path_59 ?_
            refine aw_aload_n (i := 0) rfl d_X12_path_60 0 rfl ?_
            refine aw_getr (k0 := 4) kc_12 (ws_1 w) (Nat.le_of_ble_eq_true rfl) tw_1746 d_X12_path_61 rfl (wr_1_4 w) ?_
            refine aw_aload_n (i := 0) rfl d_X12_path_64 0 rfl ?_
            refine aw_geti (k0 := 6) kc_12 (ws_1 w) (Nat.le_of_ble_eq_true rfl) tw_1748 d_X12_path_65 rfl ?_
            refine aw_vi (v2 := (h_i h 1 6)) (rfl) ?_
            refine aw_iload_n (i := 3) rfl d_X12_path_68 3 rfl ?_
            obtain ⟨b14, k⟩ := k
            refine aw_iast (ws_202 w) b14 d_X12_path_69 ?_
            refine aw_aload_n (i := 0) rfl d_X12_path_70 0 rfl ?_
            refine aw_dup d_X12_path_71 rfl ?_
            refine aw_geti (k0 := 6) kc_12 (ws_1 w) (Nat.le_of_ble_eq_true rfl) tw_1748 d_X12_path_72 rfl ?_
            refine aw_vi (v2 := (h_i h 1 6)) (rfl) ?_
            refine aw_iconst (v := 1) d_X12_path_75 ic_1 ?_
            refine aw_iadd d_X12_path_76 ?_
            refine aw_puti (k0 := 6) kc_12 (ws_1 w) (Nat.le_of_ble_eq_true rfl) tw_1748 d_X12_path_77 rfl rfl nf_i ?_
            refine aw_aload_n (i := 0) rfl d_X12_path_80 0 rfl ?_
            refine aw_geti (k0 := 6) kc_12 (ws_1 w) (Nat.le_of_ble_eq_true rfl) tw_1748 d_X12_path_81 rfl ?_
            refine aw_vi (v2 := ((h_i h 1 6) + 1)) (rfl) ?_
            refine aw_iconst (v := 1) d_X12_path_84 ic_1 ?_
            refine aw_isub d_X12_path_85 ?_
            exact aw_iret rfl d_X12_path_86 ⟨Nat.le_refl _, Nat.le_refl _⟩ ⟨_, rfl, k⟩
          · have k := k.2 c11
            refine aw_iconst (v := (-1)) d_X12_path_38 ic_m1 ?_
            exact aw_iret rfl d_X12_path_39 ⟨Nat.le_refl _, Nat.le_refl _⟩ ⟨_, rfl, k⟩
theorem t_X12_walk (d : Nat) (h : Hp_) (w : Wf h) (x1 : Int32) (x2 : Int32) (K : Int32 → Hp_ → Prop) (k : (¬ (0 ≤ x1 ∧ x1 ≤ 15) → K (-1) h) ∧ ((0 ≤ x1 ∧ x1 ≤ 15) → (¬ (0 ≤ x2 ∧ x2 ≤ 15) → K (-1) h) ∧ ((0 ≤ x2 ∧ x2 ≤ 15) → Ci (m_X12_walkOf (d + 0) 0 0) [.ref 1, .int x1, .int x2] h (fun r9 h7 => Wf h7 ∧ (K r9 h7))))) : Ci (m_X12_walk (d + 2) 0 0) [.ref 1, .int x1, .int x2] h K := by
  refine Ct.of (fun _ _ _ => trivial) rfl (Nat.le_of_ble_eq_true rfl) ?_
  show AW (m_X12_walk (d + 2) 0 0) 0 0 0 [(0, .ref 1), (1, .int x1), (2, .int x2)] [] h (kI K)
  refine aw_iload_n (i := 1) rfl d_X12_walk_0 1 rfl ?_
  refine aw_Si [.int x1] [] d_X12_walk_1 (cS_X12_isPlace (d + 1) 0 0) tw_2144 rfl (rr0 (Nat.le_of_ble_eq_true rfl) (Nat.le_of_ble_eq_true rfl)) (Nat.le_of_ble_eq_true rfl) xs0 (s_X12_isPlace _ _ x1) (fun _ _ kk => ?_)
  obtain ⟨e1, e2⟩ := kk
  rw [e1, e2]
  refine aw_ifb_eq (tgt := 23) d_X12_walk_4 rfl (fun c3 => ?_) (fun c3 => ?_)
  · have k := k.1 c3
    refine aw_iconst (v := (-1)) d_X12_walk_23 ic_m1 ?_
    exact aw_iret rfl d_X12_walk_24 ⟨Nat.le_refl _, Nat.le_refl _⟩ ⟨_, rfl, k⟩
  · have k := k.2 c3
    refine aw_iload_n (i := 2) rfl d_X12_walk_7 2 rfl ?_
    refine aw_Si [.int x2] [] d_X12_walk_8 (cS_X12_isPlace (d + 1) 0 0) tw_2144 rfl (rr0 (Nat.le_of_ble_eq_true rfl) (Nat.le_of_ble_eq_true rfl)) (Nat.le_of_ble_eq_true rfl) xs0 (s_X12_isPlace _ _ x2) (fun _ _ kk => ?_)
    obtain ⟨e4, e5⟩ := kk
    rw [e4, e5]
    refine aw_ifb_eq (tgt := 23) d_X12_walk_11 rfl (fun c6 => ?_) (fun c6 => ?_)
    · have k := k.1 c6
      refine aw_iconst (v := (-1)) d_X12_walk_23 ic_m1 ?_
      exact aw_iret rfl d_X12_walk_24 ⟨Nat.le_refl _, Nat.le_refl _⟩ ⟨_, rfl, k⟩
    · have k := k.2 c6
      refine aw_aload_n (i := 0) rfl d_X12_walk_14 0 rfl ?_
      refine aw_iload_n (i := 1) rfl d_X12_walk_15 1 rfl ?_
      refine aw_iload_n (i := 2) rfl d_X12_walk_16 2 rfl ?_
      refine aw_Vi 1 [.int x1, .int x2] [] d_X12_walk_17 (cV_X12_walkOf (d + 0) 0 0) kc_12 (ws_1 w) tw_2154 rfl (rr0 (Nat.le_of_ble_eq_true rfl) (Nat.le_of_ble_eq_true rfl)) (Nat.le_of_ble_eq_true rfl) xs0 k (fun r9 h7 kk => ?_)
      obtain ⟨w8, k⟩ := kk
      refine aw_goto (tgt := 24) d_X12_walk_20 rfl ?_
      exact aw_iret rfl d_X12_walk_24 ⟨Nat.le_refl _, Nat.le_refl _⟩ ⟨_, rfl, k⟩
theorem t_X12_constable (d : Nat) (h : Hp_) (w : Wf h) (x1 : Int32) (x2 : Int32) (x3 : Int32) (K : Int32 → Hp_ → Prop) (k : (¬ (1 ≤ x1 ∧ x1 ≤ 4) → K (-1) h) ∧ ((1 ≤ x1 ∧ x1 ≤ 4) → (¬ (0 ≤ x2 ∧ x2 ≤ 40) → K (-1) h) ∧ ((0 ≤ x2 ∧ x2 ≤ 40) → (¬ (0 ≤ x3 ∧ x3 ≤ 15) → K (-1) h) ∧ ((0 ≤ x3 ∧ x3 ≤ 15) → (¬ (h_i h 1 7) = 12 → vp_in (h_i h 1 7) 12 ∧ (vp_in (h_i h 1 7) 12 ∧ (vp_in (h_i h 1 7) 12 ∧ (vp_in (h_i h 1 7) 12 ∧ (vp_in (h_i h 1 7) 12 ∧ (vp_in (h_i h 1 7) 12 ∧ (vp_in (h_i h 1 7) 12 ∧ (vp_in (h_i h 1 7) 12 ∧ (vp_in (h_i h 1 7) 12 ∧ (vp_in (h_i h 1 7) 12 ∧ (vp_in (h_i h 1 7) 12 ∧ (vp_in (h_i h 1 7) 12 ∧ (K (((h_i h 1 7) + 1) - 1) (h_im (h_im (h_im (h_im (h_im (h_im (h_im (h_im (h_im (h_im (h_im (h_im (h_im h 204 ((h_i h 1 7) : Int32).toNatClampNeg x1) 205 ((h_i h 1 7) : Int32).toNatClampNeg x2) 206 ((h_i h 1 7) : Int32).toNatClampNeg x3) 207 ((h_i h 1 7) : Int32).toNatClampNeg (h_i h 1 0)) 208 ((h_i h 1 7) : Int32).toNatClampNeg 0) 209 ((h_i h 1 7) : Int32).toNatClampNeg x3) 210 ((h_i h 1 7) : Int32).toNatClampNeg (-1)) 211 ((h_i h 1 7) : Int32).toNatClampNeg (-1)) 213 ((h_i h 1 7) : Int32).toNatClampNeg (-1)) 215 ((h_i h 1 7) : Int32).toNatClampNeg 0) 216 ((h_i h 1 7) : Int32).toNatClampNeg 0) 217 ((h_i h 1 7) : Int32).toNatClampNeg 0) 1 7 ((h_i h 1 7) + 1))))))))))))))) ∧ ((h_i h 1 7) = 12 → K (-1) h))))) : Ci (m_X12_constable (d + 2) 0 0) [.ref 1, .int x1, .int x2, .int x3] h K := by
  refine Ct.of (fun _ _ _ => trivial) rfl (Nat.le_of_ble_eq_true rfl) ?_
  show AW (m_X12_constable (d + 2) 0 0) 0 0 0 [(0, .ref 1), (1, .int x1), (2, .int x2), (3, .int x3)] [] h (kI K)
  refine aw_iload_n (i := 1) rfl d_X12_constable_0 1 rfl ?_
  refine aw_iconst (v := 1) d_X12_constable_1 ic_1 ?_
  refine aw_iconst (v := 4) d_X12_constable_2 ic_4 ?_
  refine aw_Si [.int x1, .int 1, .int 4] [] d_X12_constable_3 (cS_X12_in (d + 0) 0 0) tw_2147 rfl (rr0 (Nat.le_of_ble_eq_true rfl) (Nat.le_of_ble_eq_true rfl)) (Nat.le_of_ble_eq_true rfl) xs0 (s_X12_in _ _ x1 1 4) (fun _ _ kk => ?_)
  obtain ⟨e1, e2⟩ := kk
  rw [e1, e2]
  refine aw_ifb_eq (tgt := 35) d_X12_constable_6 rfl (fun c3 => ?_) (fun c3 => ?_)
  · have k := k.1 c3
    refine aw_iconst (v := (-1)) d_X12_constable_35 ic_m1 ?_
    exact aw_iret rfl d_X12_constable_36 ⟨Nat.le_refl _, Nat.le_refl _⟩ ⟨_, rfl, k⟩
  · have k := k.2 c3
    refine aw_iload_n (i := 2) rfl d_X12_constable_9 2 rfl ?_
    refine aw_iconst (v := 0) d_X12_constable_10 ic_0 ?_
    refine aw_bipush (v := 40) d_X12_constable_11 ib_40 ?_
    refine aw_Si [.int x2, .int 0, .int 40] [] d_X12_constable_13 (cS_X12_in (d + 0) 0 0) tw_2147 rfl (rr0 (Nat.le_of_ble_eq_true rfl) (Nat.le_of_ble_eq_true rfl)) (Nat.le_of_ble_eq_true rfl) xs0 (s_X12_in _ _ x2 0 40) (fun _ _ kk => ?_)
    obtain ⟨e4, e5⟩ := kk
    rw [e4, e5]
    refine aw_ifb_eq (tgt := 35) d_X12_constable_16 rfl (fun c6 => ?_) (fun c6 => ?_)
    · have k := k.1 c6
      refine aw_iconst (v := (-1)) d_X12_constable_35 ic_m1 ?_
      exact aw_iret rfl d_X12_constable_36 ⟨Nat.le_refl _, Nat.le_refl _⟩ ⟨_, rfl, k⟩
    · have k := k.2 c6
      refine aw_iload_n (i := 3) rfl d_X12_constable_19 3 rfl ?_
      refine aw_Si [.int x3] [] d_X12_constable_20 (cS_X12_isPlace (d + 1) 0 0) tw_2144 rfl (rr0 (Nat.le_of_ble_eq_true rfl) (Nat.le_of_ble_eq_true rfl)) (Nat.le_of_ble_eq_true rfl) xs0 (s_X12_isPlace _ _ x3) (fun _ _ kk => ?_)
      obtain ⟨e7, e8⟩ := kk
      rw [e7, e8]
      refine aw_ifb_eq (tgt := 35) d_X12_constable_23 rfl (fun c9 => ?_) (fun c9 => ?_)
      · have k := k.1 c9
        refine aw_iconst (v := (-1)) d_X12_constable_35 ic_m1 ?_
        exact aw_iret rfl d_X12_constable_36 ⟨Nat.le_refl _, Nat.le_refl _⟩ ⟨_, rfl, k⟩
      · have k := k.2 c9
        refine aw_aload_n (i := 0) rfl d_X12_constable_26 0 rfl ?_
        refine aw_geti (k0 := 7) kc_12 (ws_1 w) (Nat.le_of_ble_eq_true rfl) tw_1749 d_X12_constable_27 rfl ?_
        refine aw_bipush (v := 12) d_X12_constable_30 ib_12 ?_
        refine aw_icmp_ne (tgt := 37) d_X12_constable_32 rfl (fun c10 => ?_) (fun c10 => ?_)
        · have k := k.1 c10
          refine aw_aload_n (i := 0) rfl d_X12_constable_37 0 rfl ?_
          refine aw_getr (k0 := 8) kc_12 (ws_1 w) (Nat.le_of_ble_eq_true rfl) tw_1750 d_X12_constable_38 rfl (wr_1_8 w) ?_
          refine aw_aload_n (i := 0) rfl d_X12_constable_41 0 rfl ?_
          refine aw_geti (k0 := 7) kc_12 (ws_1 w) (Nat.le_of_ble_eq_true rfl) tw_1749 d_X12_constable_42 rfl ?_
          refine aw_iload_n (i := 1) rfl d_X12_constable_45 1 rfl ?_
          obtain ⟨b11, k⟩ := k
          refine aw_iast (ws_204 w) b11 d_X12_constable_46 ?_
          refine aw_aload_n (i := 0) rfl d_X12_constable_47 0 rfl ?_
          refine aw_getr (k0 := 9) kc_12 (ws_1 w) (Nat.le_of_ble_eq_true rfl) tw_1751 d_X12_constable_48 rfl (wr_1_9 w) ?_
          refine aw_aload_n (i := 0) rfl d_X12_constable_51 0 rfl ?_
          refine aw_geti (k0 := 7) kc_12 (ws_1 w) (Nat.le_of_ble_eq_true rfl) tw_1749 d_X12_constable_52 rfl ?_
          refine aw_vi (v2 := (h_i h 1 7)) (rfl) ?_
          refine aw_iload_n (i := 2) rfl d_X12_constable_55 2 rfl ?_
          obtain ⟨b12, k⟩ := k
          refine aw_iast (ws_205 w) b12 d_X12_constable_56 ?_
          refine aw_aload_n (i := 0) rfl d_X12_constable_57 0 rfl ?_
          refine aw_getr (k0 := 10) kc_12 (ws_1 w) (Nat.le_of_ble_eq_true rfl) tw_1752 d_X12_constable_58 rfl (wr_1_10 w) ?_
          refine aw_aload_n (i := 0) rfl d_X12_constable_61 0 rfl ?_
          refine aw_geti (k0 := 7) kc_12 (ws_1 w) (Nat.le_of_ble_eq_true rfl) tw_1749 d_X12_constable_62 rfl ?_
          refine aw_vi (v2 := (h_i h 1 7)) (rfl) ?_
          refine aw_iload_n (i := 3) rfl d_X12_constable_65 3 rfl ?_
          obtain ⟨b13, k⟩ := k
          refine aw_iast (ws_206 w) b13 d_X12_constable_66 ?_
          refine aw_aload_n (i := 0) rfl d_X12_constable_67 0 rfl ?_
          refine aw_getr (k0 := 11) kc_12 (ws_1 w) (Nat.le_of_ble_eq_true rfl) tw_1753 d_X12_constable_68 rfl (wr_1_11 w) ?_
          refine aw_aload_n (i := 0) rfl d_X12_constable_71 0 rfl ?_
          refine aw_geti (k0 := 7) kc_12 (ws_1 w) (Nat.le_of_ble_eq_true rfl) tw_1749 d_X12_constable_72 rfl ?_
          refine aw_vi (v2 := (h_i h 1 7)) (rfl) ?_
          refine aw_aload_n (i := 0) rfl d_X12_constable_75 0 rfl ?_
          refine aw_geti (k0 := 0) kc_12 (ws_1 w) (Nat.le_of_ble_eq_true rfl) tw_1742 d_X12_constable_76 rfl ?_
          refine aw_vi (v2 := (h_i h 1 0)) (rfl) ?_
          obtain ⟨b14, k⟩ := k
          refine aw_iast (ws_207 w) b14 d_X12_constable_79 ?_
          refine aw_aload_n (i := 0) rfl d_X12_constable_80 0 rfl ?_
          refine aw_getr (k0 := 12) kc_12 (ws_1 w) (Nat.le_of_ble_eq_true rfl) tw_1754 d_X12_constable_81 rfl (wr_1_12 w) ?_
          refine aw_aload_n (i := 0) rfl d_X12_constable_84 0 rfl ?_
          refine aw_geti (k0 := 7) kc_12 (ws_1 w) (Nat.le_of_ble_eq_true rfl) tw_1749 d_X12_constable_85 rfl ?_
          refine aw_vi (v2 := (h_i h 1 7)) (rfl) ?_
          refine aw_iconst (v := 0) d_X12_constable_88 ic_0 ?_
          obtain ⟨b15, k⟩ := k
          refine aw_iast (ws_208 w) b15 d_X12_constable_89 ?_
          refine aw_aload_n (i := 0) rfl d_X12_constable_90 0 rfl ?_
          refine aw_getr (k0 := 13) kc_12 (ws_1 w) (Nat.le_of_ble_eq_true rfl) tw_1755 d_X12_constable_91 rfl (wr_1_13 w) ?_
          refine aw_aload_n (i := 0) rfl d_X12_constable_94 0 rfl ?_
          refine aw_geti (k0 := 7) kc_12 (ws_1 w) (Nat.le_of_ble_eq_true rfl) tw_1749 d_X12_constable_95 rfl ?_
          refine aw_vi (v2 := (h_i h 1 7)) (rfl) ?_
          refine aw_iload_n (i := 3) rfl d_X12_constable_98 3 rfl ?_
          obtain ⟨b16, k⟩ := k
          refine aw_iast (ws_209 w) b16 d_X12_constable_99 ?_
          refine aw_aload_n (i := 0) rfl d_X12_constable_100 0 rfl ?_
          refine aw_getr (k0 := 14) kc_12 (ws_1 w) (Nat.le_of_ble_eq_true rfl) tw_1756 d_X12_constable_101 rfl (wr_1_14 w) ?_
          refine aw_aload_n (i := 0) rfl d_X12_constable_104 0 rfl ?_
          refine aw_geti (k0 := 7) kc_12 (ws_1 w) (Nat.le_of_ble_eq_true rfl) tw_1749 d_X12_constable_105 rfl ?_
          refine aw_vi (v2 := (h_i h 1 7)) (rfl) ?_
          refine aw_iconst (v := (-1)) d_X12_constable_108 ic_m1 ?_
          obtain ⟨b17, k⟩ := k
          refine aw_iast (ws_210 w) b17 d_X12_constable_109 ?_
          refine aw_aload_n (i := 0) rfl d_X12_constable_110 0 rfl ?_
          refine aw_getr (k0 := 15) kc_12 (ws_1 w) (Nat.le_of_ble_eq_true rfl) tw_1757 d_X12_constable_111 rfl (wr_1_15 w) ?_
          refine aw_aload_n (i := 0) rfl d_X12_constable_114 0 rfl ?_
          refine aw_geti (k0 := 7) kc_12 (ws_1 w) (Nat.le_of_ble_eq_true rfl) tw_1749 d_X12_constable_115 rfl ?_
          refine aw_vi (v2 := (h_i h 1 7)) (rfl) ?_
          refine aw_iconst (v := (-1)) d_X12_constable_118 ic_m1 ?_
          obtain ⟨b18, k⟩ := k
          refine aw_iast (ws_211 w) b18 d_X12_constable_119 ?_
          refine aw_aload_n (i := 0) rfl d_X12_constable_120 0 rfl ?_
          refine aw_getr (k0 := 17) kc_12 (ws_1 w) (Nat.le_of_ble_eq_true rfl) tw_1759 d_X12_constable_121 rfl (wr_1_17 w) ?_
          refine aw_aload_n (i := 0) rfl d_X12_constable_124 0 rfl ?_
          refine aw_geti (k0 := 7) kc_12 (ws_1 w) (Nat.le_of_ble_eq_true rfl) tw_1749 d_X12_constable_125 rfl ?_
          refine aw_vi (v2 := (h_i h 1 7)) (rfl) ?_
          refine aw_iconst (v := (-1)) d_X12_constable_128 ic_m1 ?_
          obtain ⟨b19, k⟩ := k
          refine aw_iast (ws_213 w) b19 d_X12_constable_129 ?_
          refine aw_aload_n (i := 0) rfl d_X12_constable_130 0 rfl ?_
          refine aw_getr (k0 := 19) kc_12 (ws_1 w) (Nat.le_of_ble_eq_true rfl) tw_1761 d_X12_constable_131 rfl (wr_1_19 w) ?_
          refine aw_aload_n (i := 0) rfl d_X12_constable_134 0 rfl ?_
          refine aw_geti (k0 := 7) kc_12 (ws_1 w) (Nat.le_of_ble_eq_true rfl) tw_1749 d_X12_constable_135 rfl ?_
          refine aw_vi (v2 := (h_i h 1 7)) (rfl) ?_
          refine aw_iconst (v := 0) d_X12_constable_138 ic_0 ?_
          obtain ⟨b20, k⟩ := k
          refine aw_iast (ws_215 w) b20 d_X12_constable_139 ?_
          refine aw_aload_n (i := 0) rfl d_X12_constable_140 0 rfl ?_
          refine aw_getr (k0 := 20) kc_12 (ws_1 w) (Nat.le_of_ble_eq_true rfl) tw_1762 d_X12_constable_141 rfl (wr_1_20 w) ?_
          refine aw_aload_n (i := 0) rfl d_X12_constable_144 0 rfl ?_
          refine aw_geti (k0 := 7) kc_12 (ws_1 w) (Nat.le_of_ble_eq_true rfl) tw_1749 d_X12_constable_145 rfl ?_
          refine aw_vi (v2 := (h_i h 1 7)) (rfl) ?_
          refine aw_iconst (v := 0) d_X12_constable_148 ic_0 ?_
          obtain ⟨b21, k⟩ := k
          refine aw_iast (ws_216 w) b21 d_X12_constable_149 ?_
          refine aw_aload_n (i := 0) rfl d_X12_constable_150 0 rfl ?_
          refine aw_getr (k0 := 21) kc_12 (ws_1 w) (Nat.le_of_ble_eq_true rfl) tw_1763 d_X12_constable_151 rfl (wr_1_21 w) ?_
          refine aw_aload_n (i := 0) rfl d_X12_constable_154 0 rfl ?_
          refine aw_geti (k0 := 7) kc_12 (ws_1 w) (Nat.le_of_ble_eq_true rfl) tw_1749 d_X12_constable_155 rfl ?_
          refine aw_vi (v2 := (h_i h 1 7)) (rfl) ?_
          refine aw_iconst (v := 0) d_X12_constable_158 ic_0 ?_
          obtain ⟨b22, k⟩ := k
          refine aw_iast (ws_217 w) b22 d_X12_constable_159 ?_
          refine aw_aload_n (i := 0) rfl d_X12_constable_160 0 rfl ?_
          refine aw_dup d_X12_constable_161 rfl ?_
          refine aw_geti (k0 := 7) kc_12 (ws_1 w) (Nat.le_of_ble_eq_true rfl) tw_1749 d_X12_constable_162 rfl ?_
          refine aw_vi (v2 := (h_i h 1 7)) (rfl) ?_
          refine aw_iconst (v := 1) d_X12_constable_165 ic_1 ?_
          refine aw_iadd d_X12_constable_166 ?_
          refine aw_puti (k0 := 7) kc_12 (ws_1 w) (Nat.le_of_ble_eq_true rfl) tw_1749 d_X12_constable_167 rfl rfl nf_i ?_
          refine aw_aload_n (i := 0) rfl d_X12_constable_170 0 rfl ?_
          refine aw_geti (k0 := 7) kc_12 (ws_1 w) (Nat.le_of_ble_eq_true rfl) tw_1749 d_X12_constable_171 rfl ?_
          refine aw_vi (v2 := ((h_i h 1 7) + 1)) (rfl) ?_
          refine aw_iconst (v := 1) d_X12_constable_174 ic_1 ?_
          refine aw_isub d_X12_constable_175 ?_
          exact aw_iret rfl d_X12_constable_176 ⟨Nat.le_refl _, Nat.le_refl _⟩ ⟨_, rfl, k⟩
        · have k := k.2 c10
          refine aw_iconst (v := (-1)) d_X12_constable_35 ic_m1 ?_
          exact aw_iret rfl d_X12_constable_36 ⟨Nat.le_refl _, Nat.le_refl _⟩ ⟨_, rfl, k⟩
theorem t_X12_rank (d : Nat) (h : Hp_) (w : Wf h) (x1 : Int32) (x2 : Int32) (x3 : Int32) (K : Int32 → Hp_ → Prop) (k : (¬ (0 ≤ x1 ∧ x1 ≤ (h_i h 1 7) - 1) → K 0 h) ∧ ((0 ≤ x1 ∧ x1 ≤ (h_i h 1 7) - 1) → (¬ (1 ≤ x2 ∧ x2 ≤ 4) → K 0 h) ∧ ((1 ≤ x2 ∧ x2 ≤ 4) → (¬ (0 ≤ x3 ∧ x3 ≤ 30) → K 0 h) ∧ ((0 ≤ x3 ∧ x3 ≤ 30) → (¬ (h_i h 1 29) = 40 → vp_in (h_i h 1 29) 40 ∧ (vp_in (h_i h 1 29) 40 ∧ (vp_in (h_i h 1 29) 40 ∧ (vp_in (h_i h 1 29) 40 ∧ (K 1 (h_im (h_im (h_im (h_im (h_im h 221 ((h_i h 1 29) : Int32).toNatClampNeg x1) 222 ((h_i h 1 29) : Int32).toNatClampNeg x2) 223 ((h_i h 1 29) : Int32).toNatClampNeg x3) 224 ((h_i h 1 29) : Int32).toNatClampNeg (h_i h 1 0)) 1 29 ((h_i h 1 29) + 1))))))) ∧ ((h_i h 1 29) = 40 → K 0 h))))) : Ci (m_X12_rank (d + 2) 0 0) [.ref 1, .int x1, .int x2, .int x3] h K := by
  refine Ct.of (fun _ _ _ => trivial) rfl (Nat.le_of_ble_eq_true rfl) ?_
  show AW (m_X12_rank (d + 2) 0 0) 0 0 0 [(0, .ref 1), (1, .int x1), (2, .int x2), (3, .int x3)] [] h (kI K)
  refine aw_aload_n (i := 0) rfl d_X12_rank_0 0 rfl ?_
  refine aw_iload_n (i := 1) rfl d_X12_rank_1 1 rfl ?_
  refine aw_Vi 1 [.int x1] [] d_X12_rank_2 (cV_X12_isMan (d + 1) 0 0) kc_12 (ws_1 w) tw_2167 rfl (rr0 (Nat.le_of_ble_eq_true rfl) (Nat.le_of_ble_eq_true rfl)) (Nat.le_of_ble_eq_true rfl) xs0 (s_X12_isMan _ _ w x1) (fun _ _ kk => ?_)
  obtain ⟨e1, e2⟩ := kk
  rw [e1, e2]
  refine aw_ifb_eq (tgt := 36) d_X12_rank_5 rfl (fun c3 => ?_) (fun c3 => ?_)
  · have k := k.1 c3
    refine aw_iconst (v := 0) d_X12_rank_36 ic_0 ?_
    exact aw_zret rfl rfl d_X12_rank_37 ⟨Nat.le_refl _, Nat.le_refl _⟩ ⟨_, rfl, k⟩
  · have k := k.2 c3
    refine aw_iload_n (i := 2) rfl d_X12_rank_8 2 rfl ?_
    refine aw_iconst (v := 1) d_X12_rank_9 ic_1 ?_
    refine aw_iconst (v := 4) d_X12_rank_10 ic_4 ?_
    refine aw_Si [.int x2, .int 1, .int 4] [] d_X12_rank_11 (cS_X12_in (d + 0) 0 0) tw_2147 rfl (rr0 (Nat.le_of_ble_eq_true rfl) (Nat.le_of_ble_eq_true rfl)) (Nat.le_of_ble_eq_true rfl) xs0 (s_X12_in _ _ x2 1 4) (fun _ _ kk => ?_)
    obtain ⟨e4, e5⟩ := kk
    rw [e4, e5]
    refine aw_ifb_eq (tgt := 36) d_X12_rank_14 rfl (fun c6 => ?_) (fun c6 => ?_)
    · have k := k.1 c6
      refine aw_iconst (v := 0) d_X12_rank_36 ic_0 ?_
      exact aw_zret rfl rfl d_X12_rank_37 ⟨Nat.le_refl _, Nat.le_refl _⟩ ⟨_, rfl, k⟩
    · have k := k.2 c6
      refine aw_iload_n (i := 3) rfl d_X12_rank_17 3 rfl ?_
      refine aw_iconst (v := 0) d_X12_rank_18 ic_0 ?_
      refine aw_bipush (v := 30) d_X12_rank_19 ib_30 ?_
      refine aw_Si [.int x3, .int 0, .int 30] [] d_X12_rank_21 (cS_X12_in (d + 0) 0 0) tw_2147 rfl (rr0 (Nat.le_of_ble_eq_true rfl) (Nat.le_of_ble_eq_true rfl)) (Nat.le_of_ble_eq_true rfl) xs0 (s_X12_in _ _ x3 0 30) (fun _ _ kk => ?_)
      obtain ⟨e7, e8⟩ := kk
      rw [e7, e8]
      refine aw_ifb_eq (tgt := 36) d_X12_rank_24 rfl (fun c9 => ?_) (fun c9 => ?_)
      · have k := k.1 c9
        refine aw_iconst (v := 0) d_X12_rank_36 ic_0 ?_
        exact aw_zret rfl rfl d_X12_rank_37 ⟨Nat.le_refl _, Nat.le_refl _⟩ ⟨_, rfl, k⟩
      · have k := k.2 c9
        refine aw_aload_n (i := 0) rfl d_X12_rank_27 0 rfl ?_
        refine aw_geti (k0 := 29) kc_12 (ws_1 w) (Nat.le_of_ble_eq_true rfl) tw_1771 d_X12_rank_28 rfl ?_
        refine aw_bipush (v := 40) d_X12_rank_31 ib_40 ?_
        refine aw_icmp_ne (tgt := 38) d_X12_rank_33 rfl (fun c10 => ?_) (fun c10 => ?_)
        · have k := k.1 c10
          refine aw_aload_n (i := 0) rfl d_X12_rank_38 0 rfl ?_
          refine aw_getr (k0 := 25) kc_12 (ws_1 w) (Nat.le_of_ble_eq_true rfl) tw_1767 d_X12_rank_39 rfl (wr_1_25 w) ?_
          refine aw_aload_n (i := 0) rfl d_X12_rank_42 0 rfl ?_
          refine aw_geti (k0 := 29) kc_12 (ws_1 w) (Nat.le_of_ble_eq_true rfl) tw_1771 d_X12_rank_43 rfl ?_
          refine aw_iload_n (i := 1) rfl d_X12_rank_46 1 rfl ?_
          obtain ⟨b11, k⟩ := k
          refine aw_iast (ws_221 w) b11 d_X12_rank_47 ?_
          refine aw_aload_n (i := 0) rfl d_X12_rank_48 0 rfl ?_
          refine aw_getr (k0 := 26) kc_12 (ws_1 w) (Nat.le_of_ble_eq_true rfl) tw_1768 d_X12_rank_49 rfl (wr_1_26 w) ?_
          refine aw_aload_n (i := 0) rfl d_X12_rank_52 0 rfl ?_
          refine aw_geti (k0 := 29) kc_12 (ws_1 w) (Nat.le_of_ble_eq_true rfl) tw_1771 d_X12_rank_53 rfl ?_
          refine aw_vi (v2 := (h_i h 1 29)) (rfl) ?_
          refine aw_iload_n (i := 2) rfl d_X12_rank_56 2 rfl ?_
          obtain ⟨b12, k⟩ := k
          refine aw_iast (ws_222 w) b12 d_X12_rank_57 ?_
          refine aw_aload_n (i := 0) rfl d_X12_rank_58 0 rfl ?_
          refine aw_getr (k0 := 27) kc_12 (ws_1 w) (Nat.le_of_ble_eq_true rfl) tw_1769 d_X12_rank_59 rfl (wr_1_27 w) ?_
          refine aw_aload_n (i := 0) rfl d_X12_rank_62 0 rfl ?_
          refine aw_geti (k0 := 29) kc_12 (ws_1 w) (Nat.le_of_ble_eq_true rfl) tw_1771 d_X12_rank_63 rfl ?_
          refine aw_vi (v2 := (h_i h 1 29)) (rfl) ?_
          refine aw_iload_n (i := 3) rfl d_X12_rank_66 3 rfl ?_
          obtain ⟨b13, k⟩ := k
          refine aw_iast (ws_223 w) b13 d_X12_rank_67 ?_
          refine aw_aload_n (i := 0) rfl d_X12_rank_68 0 rfl ?_
          refine aw_getr (k0 := 28) kc_12 (ws_1 w) (Nat.le_of_ble_eq_true rfl) tw_1770 d_X12_rank_69 rfl (wr_1_28 w) ?_
          refine aw_aload_n (i := 0) rfl d_X12_rank_72 0 rfl ?_
          refine aw_geti (k0 := 29) kc_12 (ws_1 w) (Nat.le_of_ble_eq_true rfl) tw_1771 d_X12_rank_73 rfl ?_
          refine aw_vi (v2 := (h_i h 1 29)) (rfl) ?_
          refine aw_aload_n (i := 0) rfl d_X12_rank_76 0 rfl ?_
          refine aw_geti (k0 := 0) kc_12 (ws_1 w) (Nat.le_of_ble_eq_true rfl) tw_1742 d_X12_rank_77 rfl ?_
          refine aw_vi (v2 := (h_i h 1 0)) (rfl) ?_
          obtain ⟨b14, k⟩ := k
          refine aw_iast (ws_224 w) b14 d_X12_rank_80 ?_
          refine aw_aload_n (i := 0) rfl d_X12_rank_81 0 rfl ?_
          refine aw_dup d_X12_rank_82 rfl ?_
          refine aw_geti (k0 := 29) kc_12 (ws_1 w) (Nat.le_of_ble_eq_true rfl) tw_1771 d_X12_rank_83 rfl ?_
          refine aw_vi (v2 := (h_i h 1 29)) (rfl) ?_
          refine aw_iconst (v := 1) d_X12_rank_86 ic_1 ?_
          refine aw_iadd d_X12_rank_87 ?_
          refine aw_puti (k0 := 29) kc_12 (ws_1 w) (Nat.le_of_ble_eq_true rfl) tw_1771 d_X12_rank_88 rfl rfl nf_i ?_
          refine aw_iconst (v := 1) d_X12_rank_91 ic_1 ?_
          exact aw_zret rfl rfl d_X12_rank_92 ⟨Nat.le_refl _, Nat.le_refl _⟩ ⟨_, rfl, k⟩
        · have k := k.2 c10
          refine aw_iconst (v := 0) d_X12_rank_36 ic_0 ?_
          exact aw_zret rfl rfl d_X12_rank_37 ⟨Nat.le_refl _, Nat.le_refl _⟩ ⟨_, rfl, k⟩
theorem t_X12_ranked (d : Nat) (h : Hp_) (w : Wf h) (x1 : Int32) (x2 : Int32) (x3 : Int32) (K : Int32 → Hp_ → Prop) (k : (¬ (0 ≤ x1 ∧ x1 ≤ (h_i h 1 7) - 1) → K (-1) h) ∧ ((0 ≤ x1 ∧ x1 ≤ (h_i h 1 7) - 1) → (¬ (0 ≤ x2 ∧ x2 ≤ 30) → K (-1) h) ∧ ((0 ≤ x2 ∧ x2 ≤ 30) → (¬ (0 ≤ x3 ∧ x3 ≤ (h_i h 1 0)) → K (-1) h) ∧ ((0 ≤ x3 ∧ x3 ≤ (h_i h 1 0)) → Ci (m_X12_rankOn (d + 0) 0 0) [.ref 1, .int x1, .int x2, .int x3] h (fun r12 h10 => Wf h10 ∧ (K r12 h10)))))) : Ci (m_X12_ranked (d + 2) 0 0) [.ref 1, .int x1, .int x2, .int x3] h K := by
  refine Ct.of (fun _ _ _ => trivial) rfl (Nat.le_of_ble_eq_true rfl) ?_
  show AW (m_X12_ranked (d + 2) 0 0) 0 0 0 [(0, .ref 1), (1, .int x1), (2, .int x2), (3, .int x3)] [] h (kI K)
  refine aw_aload_n (i := 0) rfl d_X12_ranked_0 0 rfl ?_
  refine aw_iload_n (i := 1) rfl d_X12_ranked_1 1 rfl ?_
  refine aw_Vi 1 [.int x1] [] d_X12_ranked_2 (cV_X12_isMan (d + 1) 0 0) kc_12 (ws_1 w) tw_2167 rfl (rr0 (Nat.le_of_ble_eq_true rfl) (Nat.le_of_ble_eq_true rfl)) (Nat.le_of_ble_eq_true rfl) xs0 (s_X12_isMan _ _ w x1) (fun _ _ kk => ?_)
  obtain ⟨e1, e2⟩ := kk
  rw [e1, e2]
  refine aw_ifb_eq (tgt := 36) d_X12_ranked_5 rfl (fun c3 => ?_) (fun c3 => ?_)
  · have k := k.1 c3
    refine aw_iconst (v := (-1)) d_X12_ranked_36 ic_m1 ?_
    exact aw_iret rfl d_X12_ranked_37 ⟨Nat.le_refl _, Nat.le_refl _⟩ ⟨_, rfl, k⟩
  · have k := k.2 c3
    refine aw_iload_n (i := 2) rfl d_X12_ranked_8 2 rfl ?_
    refine aw_iconst (v := 0) d_X12_ranked_9 ic_0 ?_
    refine aw_bipush (v := 30) d_X12_ranked_10 ib_30 ?_
    refine aw_Si [.int x2, .int 0, .int 30] [] d_X12_ranked_12 (cS_X12_in (d + 0) 0 0) tw_2147 rfl (rr0 (Nat.le_of_ble_eq_true rfl) (Nat.le_of_ble_eq_true rfl)) (Nat.le_of_ble_eq_true rfl) xs0 (s_X12_in _ _ x2 0 30) (fun _ _ kk => ?_)
    obtain ⟨e4, e5⟩ := kk
    rw [e4, e5]
    refine aw_ifb_eq (tgt := 36) d_X12_ranked_15 rfl (fun c6 => ?_) (fun c6 => ?_)
    · have k := k.1 c6
      refine aw_iconst (v := (-1)) d_X12_ranked_36 ic_m1 ?_
      exact aw_iret rfl d_X12_ranked_37 ⟨Nat.le_refl _, Nat.le_refl _⟩ ⟨_, rfl, k⟩
    · have k := k.2 c6
      refine aw_aload_n (i := 0) rfl d_X12_ranked_18 0 rfl ?_
      refine aw_iload_n (i := 3) rfl d_X12_ranked_19 3 rfl ?_
      refine aw_Vi 1 [.int x3] [] d_X12_ranked_20 (cV_X12_isKnowing (d + 1) 0 0) kc_12 (ws_1 w) tw_2175 rfl (rr0 (Nat.le_of_ble_eq_true rfl) (Nat.le_of_ble_eq_true rfl)) (Nat.le_of_ble_eq_true rfl) xs0 (s_X12_isKnowing _ _ w x3) (fun _ _ kk => ?_)
      obtain ⟨e7, e8⟩ := kk
      rw [e7, e8]
      refine aw_ifb_eq (tgt := 36) d_X12_ranked_23 rfl (fun c9 => ?_) (fun c9 => ?_)
      · have k := k.1 c9
        refine aw_iconst (v := (-1)) d_X12_ranked_36 ic_m1 ?_
        exact aw_iret rfl d_X12_ranked_37 ⟨Nat.le_refl _, Nat.le_refl _⟩ ⟨_, rfl, k⟩
      · have k := k.2 c9
        refine aw_aload_n (i := 0) rfl d_X12_ranked_26 0 rfl ?_
        refine aw_iload_n (i := 1) rfl d_X12_ranked_27 1 rfl ?_
        refine aw_iload_n (i := 2) rfl d_X12_ranked_28 2 rfl ?_
        refine aw_iload_n (i := 3) rfl d_X12_ranked_29 3 rfl ?_
        refine aw_Vi 1 [.int x1, .int x2, .int x3] [] d_X12_ranked_30 (cV_X12_rankOn (d + 0) 0 0) kc_12 (ws_1 w) tw_2179 rfl (rr0 (Nat.le_of_ble_eq_true rfl) (Nat.le_of_ble_eq_true rfl)) (Nat.le_of_ble_eq_true rfl) xs0 k (fun r12 h10 kk => ?_)
        obtain ⟨w11, k⟩ := kk
        refine aw_goto (tgt := 37) d_X12_ranked_33 rfl ?_
        exact aw_iret rfl d_X12_ranked_37 ⟨Nat.le_refl _, Nat.le_refl _⟩ ⟨_, rfl, k⟩
theorem t_X12_within (d : Nat) (h : Hp_) (w : Wf h) (x1 : Int32) (x2 : Int32) (K : Int32 → Hp_ → Prop) (k : Ci (m_X12_number (d + 1) 0 0) [.ref 1] h (fun r3 h1 => Wf h1 ∧ ((¬ (h_i h1 1 34) = (-1) → K r3 h1) ∧ ((h_i h1 1 34) = (-1) → ((x1 ≤ r3 ∧ r3 ≤ x2) → K r3 h1) ∧ (¬ (x1 ≤ r3 ∧ r3 ≤ x2) → K r3 (h_im h1 1 34 ((h_i h1 1 33) - 1))))))) : Ci (m_X12_within (d + 2) 0 0) [.ref 1, .int x1, .int x2] h K := by
  refine Ct.of (fun _ _ _ => trivial) rfl (Nat.le_of_ble_eq_true rfl) ?_
  show AW (m_X12_within (d + 2) 0 0) 0 0 0 [(0, .ref 1), (1, .int x1), (2, .int x2)] [] h (kI K)
  refine aw_aload_n (i := 0) rfl d_X12_within_0 0 rfl ?_
  refine aw_Vi 1 [] [] d_X12_within_1 (cV_X12_number (d + 1) 0 0) kc_12 (ws_1 w) tw_2222 rfl (rr0 (Nat.le_of_ble_eq_true rfl) (Nat.le_of_ble_eq_true rfl)) (Nat.le_of_ble_eq_true rfl) xs0 k (fun r3 h1 kk => ?_)
  obtain ⟨w2, k⟩ := kk
  refine aw_istore_n (i := 3) rfl [(0, .ref 1), (1, .int x1), (2, .int x2), (3, .int r3)] d_X12_within_4 (Nat.le_of_ble_eq_true rfl) rfl rfl ?_
  refine aw_aload_n (i := 0) rfl d_X12_within_5 0 rfl ?_
  refine aw_geti (k0 := 34) kc_12 (ws_1 w2) (Nat.le_of_ble_eq_true rfl) tw_1776 d_X12_within_6 rfl ?_
  refine aw_iconst (v := (-1)) d_X12_within_9 ic_m1 ?_
  refine aw_icmp_ne (tgt := 32) d_X12_within_10 rfl (fun c4 => ?_) (fun c4 => ?_)
  · have k := k.1 c4
    refine aw_iload_n (i := 3) rfl d_X12_within_32 3 rfl ?_
    exact aw_iret rfl d_X12_within_33 ⟨Nat.le_refl _, Nat.le_refl _⟩ ⟨_, rfl, k⟩
  · have k := k.2 c4
    refine aw_iload_n (i := 3) rfl d_X12_within_13 3 rfl ?_
    refine aw_iload_n (i := 1) rfl d_X12_within_14 1 rfl ?_
    refine aw_iload_n (i := 2) rfl d_X12_within_15 2 rfl ?_
    refine aw_Si [.int r3, .int x1, .int x2] [] d_X12_within_16 (cS_X12_in (d + 0) 0 0) tw_2147 rfl (rr0 (Nat.le_of_ble_eq_true rfl) (Nat.le_of_ble_eq_true rfl)) (Nat.le_of_ble_eq_true rfl) xs0 (s_X12_in _ _ r3 x1 x2) (fun _ _ kk => ?_)
    obtain ⟨e5, e6⟩ := kk
    rw [e5, e6]
    refine aw_ifb_ne (tgt := 32) d_X12_within_19 rfl (fun c7 => ?_) (fun c7 => ?_)
    · have k := k.1 c7
      refine aw_iload_n (i := 3) rfl d_X12_within_32 3 rfl ?_
      exact aw_iret rfl d_X12_within_33 ⟨Nat.le_refl _, Nat.le_refl _⟩ ⟨_, rfl, k⟩
    · have k := k.2 c7
      refine aw_aload_n (i := 0) rfl d_X12_within_22 0 rfl ?_
      refine aw_aload_n (i := 0) rfl d_X12_within_23 0 rfl ?_
      refine aw_geti (k0 := 33) kc_12 (ws_1 w2) (Nat.le_of_ble_eq_true rfl) tw_1775 d_X12_within_24 rfl ?_
      refine aw_iconst (v := 1) d_X12_within_27 ic_1 ?_
      refine aw_isub d_X12_within_28 ?_
      refine aw_puti (k0 := 34) kc_12 (ws_1 w2) (Nat.le_of_ble_eq_true rfl) tw_1776 d_X12_within_29 rfl rfl nf_i ?_
      refine aw_iload_n (i := 3) rfl d_X12_within_32 3 rfl ?_
      exact aw_iret rfl d_X12_within_33 ⟨Nat.le_refl _, Nat.le_refl _⟩ ⟨_, rfl, k⟩
theorem t_X12_force (d : Nat) (h : Hp_) (w : Wf h) (x1 : Int32) (x2 : Int32) (K : Int32 → Hp_ → Prop) (k : (¬ (0 ≤ x1 ∧ x1 ≤ 30) → K (-1) h) ∧ ((0 ≤ x1 ∧ x1 ≤ 30) → (¬ (0 ≤ x2 ∧ x2 ≤ (h_i h 1 0)) → K (-1) h) ∧ ((0 ≤ x2 ∧ x2 ≤ (h_i h 1 0)) → Ci (m_X12_forceOf (d + 0) 0 0) [.ref 1, .int 0, .int x1, .int x2] h (fun r9 h7 => Wf h7 ∧ (K r9 h7))))) : Ci (m_X12_force (d + 2) 0 0) [.ref 1, .int x1, .int x2] h K := by
  refine Ct.of (fun _ _ _ => trivial) rfl (Nat.le_of_ble_eq_true rfl) ?_
  show AW (m_X12_force (d + 2) 0 0) 0 0 0 [(0, .ref 1), (1, .int x1), (2, .int x2)] [] h (kI K)
  refine aw_iload_n (i := 1) rfl d_X12_force_0 1 rfl ?_
  refine aw_iconst (v := 0) d_X12_force_1 ic_0 ?_
  refine aw_bipush (v := 30) d_X12_force_2 ib_30 ?_
  refine aw_Si [.int x1, .int 0, .int 30] [] d_X12_force_4 (cS_X12_in (d + 0) 0 0) tw_2147 rfl (rr0 (Nat.le_of_ble_eq_true rfl) (Nat.le_of_ble_eq_true rfl)) (Nat.le_of_ble_eq_true rfl) xs0 (s_X12_in _ _ x1 0 30) (fun _ _ kk => ?_)
  obtain ⟨e1, e2⟩ := kk
  rw [e1, e2]
  refine aw_ifb_eq (tgt := 28) d_X12_force_7 rfl (fun c3 => ?_) (fun c3 => ?_)
  · have k := k.1 c3
    refine aw_iconst (v := (-1)) d_X12_force_28 ic_m1 ?_
    exact aw_iret rfl d_X12_force_29 ⟨Nat.le_refl _, Nat.le_refl _⟩ ⟨_, rfl, k⟩
  · have k := k.2 c3
    refine aw_aload_n (i := 0) rfl d_X12_force_10 0 rfl ?_
    refine aw_iload_n (i := 2) rfl d_X12_force_11 2 rfl ?_
    refine aw_Vi 1 [.int x2] [] d_X12_force_12 (cV_X12_isKnowing (d + 1) 0 0) kc_12 (ws_1 w) tw_2175 rfl (rr0 (Nat.le_of_ble_eq_true rfl) (Nat.le_of_ble_eq_true rfl)) (Nat.le_of_ble_eq_true rfl) xs0 (s_X12_isKnowing _ _ w x2) (fun _ _ kk => ?_)
    obtain ⟨e4, e5⟩ := kk
    rw [e4, e5]
    refine aw_ifb_eq (tgt := 28) d_X12_force_15 rfl (fun c6 => ?_) (fun c6 => ?_)
    · have k := k.1 c6
      refine aw_iconst (v := (-1)) d_X12_force_28 ic_m1 ?_
      exact aw_iret rfl d_X12_force_29 ⟨Nat.le_refl _, Nat.le_refl _⟩ ⟨_, rfl, k⟩
    · have k := k.2 c6
      refine aw_aload_n (i := 0) rfl d_X12_force_18 0 rfl ?_
      refine aw_iconst (v := 0) d_X12_force_19 ic_0 ?_
      refine aw_iload_n (i := 1) rfl d_X12_force_20 1 rfl ?_
      refine aw_iload_n (i := 2) rfl d_X12_force_21 2 rfl ?_
      refine aw_Vi 1 [.int 0, .int x1, .int x2] [] d_X12_force_22 (cV_X12_forceOf (d + 0) 0 0) kc_12 (ws_1 w) tw_2312 rfl (rr0 (Nat.le_of_ble_eq_true rfl) (Nat.le_of_ble_eq_true rfl)) (Nat.le_of_ble_eq_true rfl) xs0 k (fun r9 h7 kk => ?_)
      obtain ⟨w8, k⟩ := kk
      refine aw_goto (tgt := 29) d_X12_force_25 rfl ?_
      exact aw_iret rfl d_X12_force_29 ⟨Nat.le_refl _, Nat.le_refl _⟩ ⟨_, rfl, k⟩
theorem t_X12_both (d : Nat) (h : Hp_) (x0 : Int32) (x1 : Int32) (x2 : Int32) (K : Int32 → Hp_ → Prop) (k : (x0 = 38 → (x1 = 0 → K 0 h) ∧ (¬ x1 = 0 → (x2 = 0 → K 0 h) ∧ (¬ x2 = 0 → K 1 h))) ∧ ((x0 = 42 → Ci (m_X12_bounded (d + 1) 0 0) [.long (((x1 : Int32).toInt64) * ((x2 : Int32).toInt64))] h (fun r7 h5 => Wf h5 ∧ (K r7 h5))) ∧ ((x0 = 43 → Ci (m_X12_bounded (d + 1) 0 0) [.long (((x1 : Int32).toInt64) + ((x2 : Int32).toInt64))] h (fun r11 h9 => Wf h9 ∧ (K r11 h9))) ∧ ((x0 = 45 → Ci (m_X12_bounded (d + 1) 0 0) [.long (((x1 : Int32).toInt64) - ((x2 : Int32).toInt64))] h (fun r15 h13 => Wf h13 ∧ (K r15 h13))) ∧ ((x0 = 60 → (x2 ≤ x1 → K 0 h) ∧ (¬ x2 ≤ x1 → K 1 h)) ∧ ((x0 = 61 → (¬ x1 = x2 → K 0 h) ∧ (x1 = x2 → K 1 h)) ∧ ((x0 = 62 → (x1 ≤ x2 → K 0 h) ∧ (¬ x1 ≤ x2 → K 1 h)) ∧ ((¬ x0 = 38 ∧ ¬ x0 = 42 ∧ ¬ x0 = 43 ∧ ¬ x0 = 45 ∧ ¬ x0 = 60 ∧ ¬ x0 = 61 ∧ ¬ x0 = 62 → (¬ x1 = 0 → K 1 h) ∧ (x1 = 0 → (x2 = 0 → K 0 h) ∧ (¬ x2 = 0 → K 1 h))))))))))) : Ci (m_X12_both (d + 2) 0 0) [.int x0, .int x1, .int x2] h K := by
  refine Ct.of (fun _ _ _ => trivial) rfl (Nat.le_of_ble_eq_true rfl) ?_
  show AW (m_X12_both (d + 2) 0 0) 0 0 0 [(0, .int x0), (1, .int x1), (2, .int x2)] [] h (kI K)
  refine aw_iload_n (i := 0) rfl d_X12_both_0 0 rfl ?_
  by_cases e1 : x0 = 38
  · refine aw_tableIn (off := 175) (tgt := 176) d_X12_both_1 (by rw [e1]; decide) (by rw [e1]; decide) (by rw [e1]; decide) rfl ?_
    have k := k.1 e1
    refine aw_iload_n (i := 1) rfl d_X12_both_176 1 rfl ?_
    refine aw_if_eq (tgt := 188) d_X12_both_177 rfl (fun c2 => ?_) (fun c2 => ?_)
    · have k := k.1 c2
      refine aw_iconst (v := 0) d_X12_both_188 ic_0 ?_
      exact aw_iret rfl d_X12_both_189 ⟨Nat.le_refl _, Nat.le_refl _⟩ ⟨_, rfl, k⟩
    · have k := k.2 c2
      refine aw_iload_n (i := 2) rfl d_X12_both_180 2 rfl ?_
      refine aw_if_eq (tgt := 188) d_X12_both_181 rfl (fun c3 => ?_) (fun c3 => ?_)
      · have k := k.1 c3
        refine aw_iconst (v := 0) d_X12_both_188 ic_0 ?_
        exact aw_iret rfl d_X12_both_189 ⟨Nat.le_refl _, Nat.le_refl _⟩ ⟨_, rfl, k⟩
      · have k := k.2 c3
        refine aw_iconst (v := 1) d_X12_both_184 ic_1 ?_
        refine aw_goto (tgt := 189) d_X12_both_185 rfl ?_
        exact aw_iret rfl d_X12_both_189 ⟨Nat.le_refl _, Nat.le_refl _⟩ ⟨_, rfl, k⟩
  · have k := k.2
    by_cases e4 : x0 = 42
    · refine aw_tableIn (off := 133) (tgt := 134) d_X12_both_1 (by rw [e4]; decide) (by rw [e4]; decide) (by rw [e4]; decide) rfl ?_
      have k := k.1 e4
      refine aw_iload_n (i := 1) rfl d_X12_both_134 1 rfl ?_
      refine aw_i2l d_X12_both_135 ?_
      refine aw_iload_n (i := 2) rfl d_X12_both_136 2 rfl ?_
      refine aw_i2l d_X12_both_137 ?_
      refine aw_lmul d_X12_both_138 ?_
      refine aw_Si [.long (((x1 : Int32).toInt64) * ((x2 : Int32).toInt64))] [] d_X12_both_139 (cS_X12_bounded (d + 1) 0 0) tw_2439 rfl (rr0 (Nat.le_of_ble_eq_true rfl) (Nat.le_of_ble_eq_true rfl)) (Nat.le_of_ble_eq_true rfl) xs0 k (fun r7 h5 kk => ?_)
      obtain ⟨w6, k⟩ := kk
      exact aw_iret rfl d_X12_both_142 ⟨Nat.le_refl _, Nat.le_refl _⟩ ⟨_, rfl, k⟩
    · have k := k.2
      by_cases e8 : x0 = 43
      · refine aw_tableIn (off := 115) (tgt := 116) d_X12_both_1 (by rw [e8]; decide) (by rw [e8]; decide) (by rw [e8]; decide) rfl ?_
        have k := k.1 e8
        refine aw_iload_n (i := 1) rfl d_X12_both_116 1 rfl ?_
        refine aw_i2l d_X12_both_117 ?_
        refine aw_iload_n (i := 2) rfl d_X12_both_118 2 rfl ?_
        refine aw_i2l d_X12_both_119 ?_
        refine aw_ladd d_X12_both_120 ?_
        refine aw_Si [.long (((x1 : Int32).toInt64) + ((x2 : Int32).toInt64))] [] d_X12_both_121 (cS_X12_bounded (d + 1) 0 0) tw_2439 rfl (rr0 (Nat.le_of_ble_eq_true rfl) (Nat.le_of_ble_eq_true rfl)) (Nat.le_of_ble_eq_true rfl) xs0 k (fun r11 h9 kk => ?_)
        obtain ⟨w10, k⟩ := kk
        exact aw_iret rfl d_X12_both_124 ⟨Nat.le_refl _, Nat.le_refl _⟩ ⟨_, rfl, k⟩
      · have k := k.2
        by_cases e12 : x0 = 45
        · refine aw_tableIn (off := 124) (tgt := 125) d_X12_both_1 (by rw [e12]; decide) (by rw [e12]; decide) (by rw [e12]; decide) rfl ?_
          have k := k.1 e12
          refine aw_iload_n (i := 1) rfl d_X12_both_125 1 rfl ?_
          refine aw_i2l d_X12_both_126 ?_
          refine aw_iload_n (i := 2) rfl d_X12_both_127 2 rfl ?_
          refine aw_i2l d_X12_both_128 ?_
          refine aw_lsub d_X12_both_129 ?_
          refine aw_Si [.long (((x1 : Int32).toInt64) - ((x2 : Int32).toInt64))] [] d_X12_both_130 (cS_X12_bounded (d + 1) 0 0) tw_2439 rfl (rr0 (Nat.le_of_ble_eq_true rfl) (Nat.le_of_ble_eq_true rfl)) (Nat.le_of_ble_eq_true rfl) xs0 k (fun r15 h13 kk => ?_)
          obtain ⟨w14, k⟩ := kk
          exact aw_iret rfl d_X12_both_133 ⟨Nat.le_refl _, Nat.le_refl _⟩ ⟨_, rfl, k⟩
        · have k := k.2
          by_cases e16 : x0 = 60
          · refine aw_tableIn (off := 153) (tgt := 154) d_X12_both_1 (by rw [e16]; decide) (by rw [e16]; decide) (by rw [e16]; decide) rfl ?_
            have k := k.1 e16
            refine aw_iload_n (i := 1) rfl d_X12_both_154 1 rfl ?_
            refine aw_iload_n (i := 2) rfl d_X12_both_155 2 rfl ?_
            refine aw_icmp_ge (tgt := 163) d_X12_both_156 rfl (fun c17 => ?_) (fun c17 => ?_)
            · have k := k.1 c17
              refine aw_iconst (v := 0) d_X12_both_163 ic_0 ?_
              exact aw_iret rfl d_X12_both_164 ⟨Nat.le_refl _, Nat.le_refl _⟩ ⟨_, rfl, k⟩
            · have k := k.2 c17
              refine aw_iconst (v := 1) d_X12_both_159 ic_1 ?_
              refine aw_goto (tgt := 164) d_X12_both_160 rfl ?_
              exact aw_iret rfl d_X12_both_164 ⟨Nat.le_refl _, Nat.le_refl _⟩ ⟨_, rfl, k⟩
          · have k := k.2
            by_cases e18 : x0 = 61
            · refine aw_tableIn (off := 142) (tgt := 143) d_X12_both_1 (by rw [e18]; decide) (by rw [e18]; decide) (by rw [e18]; decide) rfl ?_
              have k := k.1 e18
              refine aw_iload_n (i := 1) rfl d_X12_both_143 1 rfl ?_
              refine aw_iload_n (i := 2) rfl d_X12_both_144 2 rfl ?_
              refine aw_icmp_ne (tgt := 152) d_X12_both_145 rfl (fun c19 => ?_) (fun c19 => ?_)
              · have k := k.1 c19
                refine aw_iconst (v := 0) d_X12_both_152 ic_0 ?_
                exact aw_iret rfl d_X12_both_153 ⟨Nat.le_refl _, Nat.le_refl _⟩ ⟨_, rfl, k⟩
              · have k := k.2 c19
                refine aw_iconst (v := 1) d_X12_both_148 ic_1 ?_
                refine aw_goto (tgt := 153) d_X12_both_149 rfl ?_
                exact aw_iret rfl d_X12_both_153 ⟨Nat.le_refl _, Nat.le_refl _⟩ ⟨_, rfl, k⟩
            · have k := k.2
              by_cases e20 : x0 = 62
              · refine aw_tableIn (off := 164) (tgt := 165) d_X12_both_1 (by rw [e20]; decide) (by rw [e20]; decide) (by rw [e20]; decide) rfl ?_
                have k := k.1 e20
                refine aw_iload_n (i := 1) rfl d_X12_both_165 1 rfl ?_
                refine aw_iload_n (i := 2) rfl d_X12_both_166 2 rfl ?_
                refine aw_icmp_le (tgt := 174) d_X12_both_167 rfl (fun c21 => ?_) (fun c21 => ?_)
                · have k := k.1 c21
                  refine aw_iconst (v := 0) d_X12_both_174 ic_0 ?_
                  exact aw_iret rfl d_X12_both_175 ⟨Nat.le_refl _, Nat.le_refl _⟩ ⟨_, rfl, k⟩
                · have k := k.2 c21
                  refine aw_iconst (v := 1) d_X12_both_170 ic_1 ?_
                  refine aw_goto (tgt := 175) d_X12_both_171 rfl ?_
                  exact aw_iret rfl d_X12_both_175 ⟨Nat.le_refl _, Nat.le_refl _⟩ ⟨_, rfl, k⟩
              · have k := k.2
                have k := k ⟨e1, e4, e8, e12, e16, e18, e20⟩
                have n24 := sw_ne (38) (by decide) e1
                have n25 := sw_ne (42) (by decide) e4
                have n26 := sw_ne (43) (by decide) e8
                have n27 := sw_ne (45) (by decide) e12
                have n28 := sw_ne (60) (by decide) e16
                have n29 := sw_ne (61) (by decide) e18
                have n30 := sw_ne (62) (by decide) e20
                refine aw_tableD (tgt := 190) d_X12_both_1 (by
                  rcases (show (x0 : Int32).toInt < 38 ∨ 62 < (x0 : Int32).toInt ∨ (x0 : Int32).toInt = 39 ∨ (x0 : Int32).toInt = 40 ∨ (x0 : Int32).toInt = 41 ∨ (x0 : Int32).toInt = 44 ∨ (x0 : Int32).toInt = 46 ∨ (x0 : Int32).toInt = 47 ∨ (x0 : Int32).toInt = 48 ∨ (x0 : Int32).toInt = 49 ∨ (x0 : Int32).toInt = 50 ∨ (x0 : Int32).toInt = 51 ∨ (x0 : Int32).toInt = 52 ∨ (x0 : Int32).toInt = 53 ∨ (x0 : Int32).toInt = 54 ∨ (x0 : Int32).toInt = 55 ∨ (x0 : Int32).toInt = 56 ∨ (x0 : Int32).toInt = 57 ∨ (x0 : Int32).toInt = 58 ∨ (x0 : Int32).toInt = 59 by omega) with e | e | e | e | e | e | e | e | e | e | e | e | e | e | e | e | e | e | e | e
                  · exact Or.inl e
                  · exact Or.inr (Or.inl e)
                  · exact Or.inr (Or.inr (by rw [e]; decide))
                  · exact Or.inr (Or.inr (by rw [e]; decide))
                  · exact Or.inr (Or.inr (by rw [e]; decide))
                  · exact Or.inr (Or.inr (by rw [e]; decide))
                  · exact Or.inr (Or.inr (by rw [e]; decide))
                  · exact Or.inr (Or.inr (by rw [e]; decide))
                  · exact Or.inr (Or.inr (by rw [e]; decide))
                  · exact Or.inr (Or.inr (by rw [e]; decide))
                  · exact Or.inr (Or.inr (by rw [e]; decide))
                  · exact Or.inr (Or.inr (by rw [e]; decide))
                  · exact Or.inr (Or.inr (by rw [e]; decide))
                  · exact Or.inr (Or.inr (by rw [e]; decide))
                  · exact Or.inr (Or.inr (by rw [e]; decide))
                  · exact Or.inr (Or.inr (by rw [e]; decide))
                  · exact Or.inr (Or.inr (by rw [e]; decide))
                  · exact Or.inr (Or.inr (by rw [e]; decide))
                  · exact Or.inr (Or.inr (by rw [e]; decide))
                  · exact Or.inr (Or.inr (by rw [e]; decide))) rfl ?_
                refine aw_iload_n (i := 1) rfl d_X12_both_190 1 rfl ?_
                refine aw_if_ne (tgt := 198) d_X12_both_191 rfl (fun c22 => ?_) (fun c22 => ?_)
                · have k := k.1 c22
                  refine aw_iconst (v := 1) d_X12_both_198 ic_1 ?_
                  refine aw_goto (tgt := 203) d_X12_both_199 rfl ?_
                  exact aw_iret rfl d_X12_both_203 ⟨Nat.le_refl _, Nat.le_refl _⟩ ⟨_, rfl, k⟩
                · have k := k.2 c22
                  refine aw_iload_n (i := 2) rfl d_X12_both_194 2 rfl ?_
                  refine aw_if_eq (tgt := 202) d_X12_both_195 rfl (fun c23 => ?_) (fun c23 => ?_)
                  · have k := k.1 c23
                    refine aw_iconst (v := 0) d_X12_both_202 ic_0 ?_
                    exact aw_iret rfl d_X12_both_203 ⟨Nat.le_refl _, Nat.le_refl _⟩ ⟨_, rfl, k⟩
                  · have k := k.2 c23
                    refine aw_iconst (v := 1) d_X12_both_198 ic_1 ?_
                    refine aw_goto (tgt := 203) d_X12_both_199 rfl ?_
                    exact aw_iret rfl d_X12_both_203 ⟨Nat.le_refl _, Nat.le_refl _⟩ ⟨_, rfl, k⟩
theorem t_X12_point (d : Nat) (h : Hp_) (w : Wf h) (x1 : Int32) (x2 : Int32) (x3 : Int32) (K : Int32 → Hp_ → Prop) (k : (¬ (0 ≤ x1 ∧ x1 ≤ ((h_i h 1 63) - 1)) → K (-1) h) ∧ ((0 ≤ x1 ∧ x1 ≤ ((h_i h 1 63) - 1)) → (¬ (0 ≤ x2 ∧ x2 ≤ (h_i h 1 0)) → K (-1) h) ∧ ((0 ≤ x2 ∧ x2 ≤ (h_i h 1 0)) → vp_in x1 400 ∧ (((h_i h 244 x1.toNatClampNeg) ≤ x2 → (x3 = 0 → vp_in x1 400 ∧ (K (h_i h 238 x1.toNatClampNeg) h)) ∧ ((x3 = 1 → vp_in x1 400 ∧ (K (h_i h 239 x1.toNatClampNeg) h)) ∧ ((x3 = 2 → vp_in x1 400 ∧ (K (h_i h 240 x1.toNatClampNeg) h)) ∧ ((x3 = 3 → Ci (m_X12_stateOf (d + 0) 0 0) [.ref 1, .int x1, .int x2] h (fun r18 h16 => Wf h16 ∧ (K r18 h16))) ∧ ((x3 = 4 → Ci (m_X12_stateOf (d + 0) 0 0) [.ref 1, .int x1, .int x2] h (fun r22 h20 => Wf h20 ∧ ((¬ r22 = 2 → K (-1) h20) ∧ (r22 = 2 → Ci (m_X12_causeOf (d + 0) 0 0) [.ref 1, .int x1, .int x2] h20 (fun r26 h24 => Wf h24 ∧ (K r26 h24)))))) ∧ ((¬ x3 = 0 ∧ ¬ x3 = 1 ∧ ¬ x3 = 2 ∧ ¬ x3 = 3 ∧ ¬ x3 = 4 → K (-1) h))))))) ∧ (¬ (h_i h 244 x1.toNatClampNeg) ≤ x2 → K (-1) h))))) : Ci (m_X12_point (d + 2) 0 0) [.ref 1, .int x1, .int x2, .int x3] h K := by
  refine Ct.of (fun _ _ _ => trivial) rfl (Nat.le_of_ble_eq_true rfl) ?_
  show AW (m_X12_point (d + 2) 0 0) 0 0 0 [(0, .ref 1), (1, .int x1), (2, .int x2), (3, .int x3)] [] h (kI K)
  refine aw_iload_n (i := 1) rfl d_X12_point_0 1 rfl ?_
  refine aw_iconst (v := 0) d_X12_point_1 ic_0 ?_
  refine aw_aload_n (i := 0) rfl d_X12_point_2 0 rfl ?_
  refine aw_geti (k0 := 63) kc_12 (ws_1 w) (Nat.le_of_ble_eq_true rfl) tw_1805 d_X12_point_3 rfl ?_
  refine aw_iconst (v := 1) d_X12_point_6 ic_1 ?_
  refine aw_isub d_X12_point_7 ?_
  refine aw_Si [.int x1, .int 0, .int ((h_i h 1 63) - 1)] [] d_X12_point_8 (cS_X12_in (d + 0) 0 0) tw_2147 rfl (rr0 (Nat.le_of_ble_eq_true rfl) (Nat.le_of_ble_eq_true rfl)) (Nat.le_of_ble_eq_true rfl) xs0 (s_X12_in _ _ x1 0 ((h_i h 1 63) - 1)) (fun _ _ kk => ?_)
  obtain ⟨e1, e2⟩ := kk
  rw [e1, e2]
  refine aw_ifb_eq (tgt := 32) d_X12_point_11 rfl (fun c3 => ?_) (fun c3 => ?_)
  · have k := k.1 c3
    refine aw_iconst (v := (-1)) d_X12_point_32 ic_m1 ?_
    exact aw_iret rfl d_X12_point_33 ⟨Nat.le_refl _, Nat.le_refl _⟩ ⟨_, rfl, k⟩
  · have k := k.2 c3
    refine aw_aload_n (i := 0) rfl d_X12_point_14 0 rfl ?_
    refine aw_iload_n (i := 2) rfl d_X12_point_15 2 rfl ?_
    refine aw_Vi 1 [.int x2] [] d_X12_point_16 (cV_X12_isKnowing (d + 1) 0 0) kc_12 (ws_1 w) tw_2175 rfl (rr0 (Nat.le_of_ble_eq_true rfl) (Nat.le_of_ble_eq_true rfl)) (Nat.le_of_ble_eq_true rfl) xs0 (s_X12_isKnowing _ _ w x2) (fun _ _ kk => ?_)
    obtain ⟨e4, e5⟩ := kk
    rw [e4, e5]
    refine aw_ifb_eq (tgt := 32) d_X12_point_19 rfl (fun c6 => ?_) (fun c6 => ?_)
    · have k := k.1 c6
      refine aw_iconst (v := (-1)) d_X12_point_32 ic_m1 ?_
      exact aw_iret rfl d_X12_point_33 ⟨Nat.le_refl _, Nat.le_refl _⟩ ⟨_, rfl, k⟩
    · have k := k.2 c6
      refine aw_aload_n (i := 0) rfl d_X12_point_22 0 rfl ?_
      refine aw_getr (k0 := 59) kc_12 (ws_1 w) (Nat.le_of_ble_eq_true rfl) tw_1801 d_X12_point_23 rfl (wr_1_59 w) ?_
      refine aw_iload_n (i := 1) rfl d_X12_point_26 1 rfl ?_
      obtain ⟨b7, k⟩ := k
      refine aw_iald (ws_244 w) b7 d_X12_point_27 ?_
      refine aw_iload_n (i := 2) rfl d_X12_point_28 2 rfl ?_
      refine aw_icmp_le (tgt := 34) d_X12_point_29 rfl (fun c8 => ?_) (fun c8 => ?_)
      · have k := k.1 c8
        refine aw_iload_n (i := 3) rfl d_X12_point_34 3 rfl ?_
        by_cases e9 : x3 = 0
        · refine aw_tableIn (off := 33) (tgt := 68) d_X12_point_35 (by rw [e9]; decide) (by rw [e9]; decide) (by rw [e9]; decide) rfl ?_
          have k := k.1 e9
          refine aw_aload_n (i := 0) rfl d_X12_point_68 0 rfl ?_
          refine aw_getr (k0 := 53) kc_12 (ws_1 w) (Nat.le_of_ble_eq_true rfl) tw_1795 d_X12_point_69 rfl (wr_1_53 w) ?_
          refine aw_iload_n (i := 1) rfl d_X12_point_72 1 rfl ?_
          obtain ⟨b10, k⟩ := k
          refine aw_iald (ws_238 w) b10 d_X12_point_73 ?_
          exact aw_iret rfl d_X12_point_74 ⟨Nat.le_refl _, Nat.le_refl _⟩ ⟨_, rfl, k⟩
        · have k := k.2
          by_cases e11 : x3 = 1
          · refine aw_tableIn (off := 40) (tgt := 75) d_X12_point_35 (by rw [e11]; decide) (by rw [e11]; decide) (by rw [e11]; decide) rfl ?_
            have k := k.1 e11
            refine aw_aload_n (i := 0) rfl d_X12_point_75 0 rfl ?_
            refine aw_getr (k0 := 54) kc_12 (ws_1 w) (Nat.le_of_ble_eq_true rfl) tw_1796 d_X12_point_76 rfl (wr_1_54 w) ?_
            refine aw_iload_n (i := 1) rfl d_X12_point_79 1 rfl ?_
            obtain ⟨b12, k⟩ := k
            refine aw_iald (ws_239 w) b12 d_X12_point_80 ?_
            exact aw_iret rfl d_X12_point_81 ⟨Nat.le_refl _, Nat.le_refl _⟩ ⟨_, rfl, k⟩
          · have k := k.2
            by_cases e13 : x3 = 2
            · refine aw_tableIn (off := 47) (tgt := 82) d_X12_point_35 (by rw [e13]; decide) (by rw [e13]; decide) (by rw [e13]; decide) rfl ?_
              have k := k.1 e13
              refine aw_aload_n (i := 0) rfl d_X12_point_82 0 rfl ?_
              refine aw_getr (k0 := 55) kc_12 (ws_1 w) (Nat.le_of_ble_eq_true rfl) tw_1797 d_X12_point_83 rfl (wr_1_55 w) ?_
              refine aw_iload_n (i := 1) rfl d_X12_point_86 1 rfl ?_
              obtain ⟨b14, k⟩ := k
              refine aw_iald (ws_240 w) b14 d_X12_point_87 ?_
              exact aw_iret rfl d_X12_point_88 ⟨Nat.le_refl _, Nat.le_refl _⟩ ⟨_, rfl, k⟩
            · have k := k.2
              by_cases e15 : x3 = 3
              · refine aw_tableIn (off := 54) (tgt := 89) d_X12_point_35 (by rw [e15]; decide) (by rw [e15]; decide) (by rw [e15]; decide) rfl ?_
                have k := k.1 e15
                refine aw_aload_n (i := 0) rfl d_X12_point_89 0 rfl ?_
                refine aw_iload_n (i := 1) rfl d_X12_point_90 1 rfl ?_
                refine aw_iload_n (i := 2) rfl d_X12_point_91 2 rfl ?_
                refine aw_Vi 1 [.int x1, .int x2] [] d_X12_point_92 (cV_X12_stateOf (d + 0) 0 0) kc_12 (ws_1 w) tw_2320 rfl (rr0 (Nat.le_of_ble_eq_true rfl) (Nat.le_of_ble_eq_true rfl)) (Nat.le_of_ble_eq_true rfl) xs0 k (fun r18 h16 kk => ?_)
                obtain ⟨w17, k⟩ := kk
                exact aw_iret rfl d_X12_point_95 ⟨Nat.le_refl _, Nat.le_refl _⟩ ⟨_, rfl, k⟩
              · have k := k.2
                by_cases e19 : x3 = 4
                · refine aw_tableIn (off := 61) (tgt := 96) d_X12_point_35 (by rw [e19]; decide) (by rw [e19]; decide) (by rw [e19]; decide) rfl ?_
                  have k := k.1 e19
                  refine aw_aload_n (i := 0) rfl d_X12_point_96 0 rfl ?_
                  refine aw_iload_n (i := 1) rfl d_X12_point_97 1 rfl ?_
                  refine aw_iload_n (i := 2) rfl d_X12_point_98 2 rfl ?_
                  refine aw_Vi 1 [.int x1, .int x2] [] d_X12_point_99 (cV_X12_stateOf (d + 0) 0 0) kc_12 (ws_1 w) tw_2320 rfl (rr0 (Nat.le_of_ble_eq_true rfl) (Nat.le_of_ble_eq_true rfl)) (Nat.le_of_ble_eq_true rfl) xs0 k (fun r22 h20 kk => ?_)
                  obtain ⟨w21, k⟩ := kk
                  refine aw_iconst (v := 2) d_X12_point_102 ic_2 ?_
                  refine aw_icmp_ne (tgt := 115) d_X12_point_103 rfl (fun c23 => ?_) (fun c23 => ?_)
                  · have k := k.1 c23
                    refine aw_iconst (v := (-1)) d_X12_point_115 ic_m1 ?_
                    exact aw_iret rfl d_X12_point_116 ⟨Nat.le_refl _, Nat.le_refl _⟩ ⟨_, rfl, k⟩
                  · have k := k.2 c23
                    refine aw_aload_n (i := 0) rfl d_X12_point_106 0 rfl ?_
                    refine aw_iload_n (i := 1) rfl d_X12_point_107 1 rfl ?_
                    refine aw_iload_n (i := 2) rfl d_X12_point_108 2 rfl ?_
                    refine aw_Vi 1 [.int x1, .int x2] [] d_X12_point_109 (cV_X12_causeOf (d + 0) 0 0) kc_12 (ws_1 w21) tw_2324 rfl (rr0 (Nat.le_of_ble_eq_true rfl) (Nat.le_of_ble_eq_true rfl)) (Nat.le_of_ble_eq_true rfl) xs0 k (fun r26 h24 kk => ?_)
                    obtain ⟨w25, k⟩ := kk
                    refine aw_goto (tgt := 116) d_X12_point_112 rfl ?_
                    exact aw_iret rfl d_X12_point_116 ⟨Nat.le_refl _, Nat.le_refl _⟩ ⟨_, rfl, k⟩
                · have k := k.2
                  have k := k ⟨e9, e11, e13, e15, e19⟩
                  have n27 := sw_ne (0) (by decide) e9
                  have n28 := sw_ne (1) (by decide) e11
                  have n29 := sw_ne (2) (by decide) e13
                  have n30 := sw_ne (3) (by decide) e15
                  have n31 := sw_ne (4) (by decide) e19
                  refine aw_tableOut (tgt := 117) d_X12_point_35 (by omega) rfl ?_
                  refine aw_iconst (v := (-1)) d_X12_point_117 ic_m1 ?_
                  exact aw_iret rfl d_X12_point_118 ⟨Nat.le_refl _, Nat.le_refl _⟩ ⟨_, rfl, k⟩
      · have k := k.2 c8
        refine aw_iconst (v := (-1)) d_X12_point_32 ic_m1 ?_
        exact aw_iret rfl d_X12_point_33 ⟨Nat.le_refl _, Nat.le_refl _⟩ ⟨_, rfl, k⟩
theorem t_X12_causes (d : Nat) (h : Hp_) (w : Wf h) (x1 : Int32) (x2 : Int32) (K : Int32 → Hp_ → Prop) (k : (¬ (1 ≤ x1 ∧ x1 ≤ 9) → K (-1) h) ∧ ((1 ≤ x1 ∧ x1 ≤ 9) → ((0 ≤ x2 ∧ x2 ≤ (h_i h 1 0)) → AW (m_X12_causes (d + 2) 0 0) 0 0 25 [(0, .ref 1), (1, .int x1), (2, .int x2), (3, .int 0), (4, .int 0)] [] h (kI K)) ∧ (¬ (0 ≤ x2 ∧ x2 ≤ (h_i h 1 0)) → K (-1) h))) : Ci (m_X12_causes (d + 2) 0 0) [.ref 1, .int x1, .int x2] h K := by
  refine Ct.of (fun _ _ _ => trivial) rfl (Nat.le_of_ble_eq_true rfl) ?_
  show AW (m_X12_causes (d + 2) 0 0) 0 0 0 [(0, .ref 1), (1, .int x1), (2, .int x2)] [] h (kI K)
  refine aw_iload_n (i := 1) rfl d_X12_causes_0 1 rfl ?_
  refine aw_iconst (v := 1) d_X12_causes_1 ic_1 ?_
  refine aw_bipush (v := 9) d_X12_causes_2 ib_9 ?_
  refine aw_Si [.int x1, .int 1, .int 9] [] d_X12_causes_4 (cS_X12_in (d + 0) 0 0) tw_2147 rfl (rr0 (Nat.le_of_ble_eq_true rfl) (Nat.le_of_ble_eq_true rfl)) (Nat.le_of_ble_eq_true rfl) xs0 (s_X12_in _ _ x1 1 9) (fun _ _ kk => ?_)
  obtain ⟨e1, e2⟩ := kk
  rw [e1, e2]
  refine aw_ifb_eq (tgt := 18) d_X12_causes_7 rfl (fun c3 => ?_) (fun c3 => ?_)
  · have k := k.1 c3
    refine aw_iconst (v := (-1)) d_X12_causes_18 ic_m1 ?_
    exact aw_iret rfl d_X12_causes_19 ⟨Nat.le_refl _, Nat.le_refl _⟩ ⟨_, rfl, k⟩
  · have k := k.2 c3
    refine aw_aload_n (i := 0) rfl d_X12_causes_10 0 rfl ?_
    refine aw_iload_n (i := 2) rfl d_X12_causes_11 2 rfl ?_
    refine aw_Vi 1 [.int x2] [] d_X12_causes_12 (cV_X12_isKnowing (d + 1) 0 0) kc_12 (ws_1 w) tw_2175 rfl (rr0 (Nat.le_of_ble_eq_true rfl) (Nat.le_of_ble_eq_true rfl)) (Nat.le_of_ble_eq_true rfl) xs0 (s_X12_isKnowing _ _ w x2) (fun _ _ kk => ?_)
    obtain ⟨e4, e5⟩ := kk
    rw [e4, e5]
    refine aw_ifb_ne (tgt := 20) d_X12_causes_15 rfl (fun c6 => ?_) (fun c6 => ?_)
    · have k := k.1 c6
      refine aw_iconst (v := 0) d_X12_causes_20 ic_0 ?_
      refine aw_istore_n (i := 3) rfl [(0, .ref 1), (1, .int x1), (2, .int x2), (3, .int 0)] d_X12_causes_21 (Nat.le_of_ble_eq_true rfl) rfl rfl ?_
      refine aw_iconst (v := 0) d_X12_causes_22 ic_0 ?_
      refine aw_istore [(0, .ref 1), (1, .int x1), (2, .int x2), (3, .int 0), (4, .int 0)] d_X12_causes_23 (Nat.le_of_ble_eq_true rfl) rfl rfl ?_
      exact k
    · have k := k.2 c6
      refine aw_iconst (v := (-1)) d_X12_causes_18 ic_m1 ?_
      exact aw_iret rfl d_X12_causes_19 ⟨Nat.le_refl _, Nat.le_refl _⟩ ⟨_, rfl, k⟩
theorem t_X12_causes_25 (d : Nat) (h : Hp_) (w : Wf h) (x1 : Int32) (x2 : Int32) (x3 : Int32) (x4 : Int32) (K : Int32 → Hp_ → Prop) (k : ((h_i h 1 63) ≤ x4 → K x3 h) ∧ (¬ (h_i h 1 63) ≤ x4 → Ci (m_X12_stateOf (d + 0) 0 0) [.ref 1, .int x4, .int x2] h (fun r10 h8 => Wf h8 ∧ ((¬ r10 = 2 → AW (m_X12_causes (d + 2) 0 0) 0 0 25 [(0, .ref 1), (1, .int x1), (2, .int x2), (3, .int (x3 + 0)), (4, .int (x4 + 1))] [] h8 (kI K)) ∧ (r10 = 2 → Ci (m_X12_causeOf (d + 0) 0 0) [.ref 1, .int x4, .int x2] h8 (fun r14 h12 => Wf h12 ∧ ((¬ r14 = x1 → AW (m_X12_causes (d + 2) 0 0) 0 0 25 [(0, .ref 1), (1, .int x1), (2, .int x2), (3, .int (x3 + 0)), (4, .int (x4 + 1))] [] h12 (kI K)) ∧ (r14 = x1 → AW (m_X12_causes (d + 2) 0 0) 0 0 25 [(0, .ref 1), (1, .int x1), (2, .int x2), (3, .int (x3 + 1)), (4, .int (x4 + 1))] [] h12 (kI K))))))))) : AW (m_X12_causes (d + 2) 0 0) 0 0 25 [(0, .ref 1), (1, .int x1), (2, .int x2), (3, .int x3), (4, .int x4)] [] h (kI K) := by
  refine aw_iload d_X12_causes_25 4 rfl ?_
  refine aw_aload_n (i := 0) rfl d_X12_causes_27 0 rfl ?_
  refine aw_geti (k0 := 63) kc_12 (ws_1 w) (Nat.le_of_ble_eq_true rfl) tw_1805 d_X12_causes_28 rfl ?_
  refine aw_icmp_ge (tgt := 70) d_X12_causes_31 rfl (fun c7 => ?_) (fun c7 => ?_)
  · have k := k.1 c7
    refine aw_iload_n (i := 3) rfl d_X12_causes_70 3 rfl ?_
    exact aw_iret rfl d_X12_causes_71 ⟨Nat.le_refl _, Nat.le_refl _⟩ ⟨_, rfl, k⟩
  · have k := k.2 c7
    refine aw_iload_n (i := 3) rfl d_X12_causes_34 3 rfl ?_
    refine aw_aload_n (i := 0) rfl d_X12_causes_35 0 rfl ?_
    refine aw_iload d_X12_causes_36 4 rfl ?_
    refine aw_iload_n (i := 2) rfl d_X12_causes_38 2 rfl ?_
    refine aw_Vi 1 [.int x4, .int x2] [.int x3] d_X12_causes_39 (cV_X12_stateOf (d + 0) 0 0) kc_12 (ws_1 w) tw_2320 rfl (rr0 (Nat.le_of_ble_eq_true rfl) (Nat.le_of_ble_eq_true rfl)) (Nat.le_of_ble_eq_true rfl) xs0 k (fun r10 h8 kk => ?_)
    obtain ⟨w9, k⟩ := kk
    refine aw_iconst (v := 2) d_X12_causes_42 ic_2 ?_
    refine aw_icmp_ne (tgt := 61) d_X12_causes_43 rfl (fun c11 => ?_) (fun c11 => ?_)
    · have k := k.1 c11
      refine aw_iconst (v := 0) d_X12_causes_61 ic_0 ?_
      refine aw_iadd d_X12_causes_62 ?_
      refine aw_istore_n (i := 3) rfl [(0, .ref 1), (1, .int x1), (2, .int x2), (3, .int (x3 + 0)), (4, .int x4)] d_X12_causes_63 (Nat.le_of_ble_eq_true rfl) rfl rfl ?_
      refine aw_iinc (v := (x4 + 1)) [(0, .ref 1), (1, .int x1), (2, .int x2), (3, .int (x3 + 0)), (4, .int (x4 + 1))] d_X12_causes_64 4 rfl rfl (Nat.le_of_ble_eq_true rfl) rfl rfl ?_
      refine aw_goto (tgt := 25) d_X12_causes_67 rfl ?_
      exact k
    · have k := k.2 c11
      refine aw_aload_n (i := 0) rfl d_X12_causes_46 0 rfl ?_
      refine aw_iload d_X12_causes_47 4 rfl ?_
      refine aw_iload_n (i := 2) rfl d_X12_causes_49 2 rfl ?_
      refine aw_Vi 1 [.int x4, .int x2] [.int x3] d_X12_causes_50 (cV_X12_causeOf (d + 0) 0 0) kc_12 (ws_1 w9) tw_2324 rfl (rr0 (Nat.le_of_ble_eq_true rfl) (Nat.le_of_ble_eq_true rfl)) (Nat.le_of_ble_eq_true rfl) xs0 k (fun r14 h12 kk => ?_)
      obtain ⟨w13, k⟩ := kk
      refine aw_iload_n (i := 1) rfl d_X12_causes_53 1 rfl ?_
      refine aw_icmp_ne (tgt := 61) d_X12_causes_54 rfl (fun c15 => ?_) (fun c15 => ?_)
      · have k := k.1 c15
        refine aw_iconst (v := 0) d_X12_causes_61 ic_0 ?_
        refine aw_iadd d_X12_causes_62 ?_
        refine aw_istore_n (i := 3) rfl [(0, .ref 1), (1, .int x1), (2, .int x2), (3, .int (x3 + 0)), (4, .int x4)] d_X12_causes_63 (Nat.le_of_ble_eq_true rfl) rfl rfl ?_
        refine aw_iinc (v := (x4 + 1)) [(0, .ref 1), (1, .int x1), (2, .int x2), (3, .int (x3 + 0)), (4, .int (x4 + 1))] d_X12_causes_64 4 rfl rfl (Nat.le_of_ble_eq_true rfl) rfl rfl ?_
        refine aw_goto (tgt := 25) d_X12_causes_67 rfl ?_
        exact k
      · have k := k.2 c15
        refine aw_iconst (v := 1) d_X12_causes_57 ic_1 ?_
        refine aw_goto (tgt := 62) d_X12_causes_58 rfl ?_
        refine aw_iadd d_X12_causes_62 ?_
        refine aw_istore_n (i := 3) rfl [(0, .ref 1), (1, .int x1), (2, .int x2), (3, .int (x3 + 1)), (4, .int x4)] d_X12_causes_63 (Nat.le_of_ble_eq_true rfl) rfl rfl ?_
        refine aw_iinc (v := (x4 + 1)) [(0, .ref 1), (1, .int x1), (2, .int x2), (3, .int (x3 + 1)), (4, .int (x4 + 1))] d_X12_causes_64 4 rfl rfl (Nat.le_of_ble_eq_true rfl) rfl rfl ?_
        refine aw_goto (tgt := 25) d_X12_causes_67 rfl ?_
        exact k
theorem t_X12_goHome (d : Nat) (h : Hp_) (w : Wf h) (x1 : Int32) (K : Hp_ → Prop) (k : vp_in x1 12 ∧ (vp_in x1 12 ∧ (vp_in x1 12 ∧ (vp_in x1 12 ∧ (vp_in x1 12 ∧ (Ci (m_X12_walkOf (d + 0) 0 0) [.ref 1, .int (h_i h 209 x1.toNatClampNeg), .int (h_i h 206 x1.toNatClampNeg)] (h_im (h_im (h_im h 208 x1.toNatClampNeg 2) 213 x1.toNatClampNeg (-1)) 211 x1.toNatClampNeg (-1)) (fun r8 h6 => Wf h6 ∧ ((r8 = (-1) → Cv (m_X12_free (d + 0) 0 0) [.ref 1, .int x1] h6 (fun h10 => Wf h10 ∧ (K h10))) ∧ (¬ r8 = (-1) → (¬ r8 = 0 → vp_in x1 12 ∧ (Cv (m_X12_setOut (d + 1) 0 0) [.ref 1, .int x1, .int (h_i h6 206 x1.toNatClampNeg)] h6 (fun h15 => Wf h15 ∧ (K h15)))) ∧ (r8 = 0 → Cv (m_X12_free (d + 0) 0 0) [.ref 1, .int x1] h6 (fun h18 => Wf h18 ∧ (K h18)))))))))))) : Cv (m_X12_goHome (d + 2) 0 0) [.ref 1, .int x1] h K := by
  refine Ct.of (fun _ _ _ => trivial) rfl (Nat.le_of_ble_eq_true rfl) ?_
  show AW (m_X12_goHome (d + 2) 0 0) 0 0 0 [(0, .ref 1), (1, .int x1)] [] h (kV K)
  refine aw_aload_n (i := 0) rfl d_X12_goHome_0 0 rfl ?_
  refine aw_getr (k0 := 12) kc_12 (ws_1 w) (Nat.le_of_ble_eq_true rfl) tw_1754 d_X12_goHome_1 rfl (wr_1_12 w) ?_
  refine aw_iload_n (i := 1) rfl d_X12_goHome_4 1 rfl ?_
  refine aw_iconst (v := 2) d_X12_goHome_5 ic_2 ?_
  obtain ⟨b1, k⟩ := k
  refine aw_iast (ws_208 w) b1 d_X12_goHome_6 ?_
  refine aw_aload_n (i := 0) rfl d_X12_goHome_7 0 rfl ?_
  refine aw_getr (k0 := 17) kc_12 (ws_1 w) (Nat.le_of_ble_eq_true rfl) tw_1759 d_X12_goHome_8 rfl (wr_1_17 w) ?_
  refine aw_iload_n (i := 1) rfl d_X12_goHome_11 1 rfl ?_
  refine aw_iconst (v := (-1)) d_X12_goHome_12 ic_m1 ?_
  obtain ⟨b2, k⟩ := k
  refine aw_iast (ws_213 w) b2 d_X12_goHome_13 ?_
  refine aw_aload_n (i := 0) rfl d_X12_goHome_14 0 rfl ?_
  refine aw_getr (k0 := 15) kc_12 (ws_1 w) (Nat.le_of_ble_eq_true rfl) tw_1757 d_X12_goHome_15 rfl (wr_1_15 w) ?_
  refine aw_iload_n (i := 1) rfl d_X12_goHome_18 1 rfl ?_
  refine aw_iconst (v := (-1)) d_X12_goHome_19 ic_m1 ?_
  obtain ⟨b3, k⟩ := k
  refine aw_iast (ws_211 w) b3 d_X12_goHome_20 ?_
  refine aw_aload_n (i := 0) rfl d_X12_goHome_21 0 rfl ?_
  refine aw_aload_n (i := 0) rfl d_X12_goHome_22 0 rfl ?_
  refine aw_getr (k0 := 13) kc_12 (ws_1 w) (Nat.le_of_ble_eq_true rfl) tw_1755 d_X12_goHome_23 rfl (wr_1_13 w) ?_
  refine aw_iload_n (i := 1) rfl d_X12_goHome_26 1 rfl ?_
  obtain ⟨b4, k⟩ := k
  refine aw_iald (ws_209 w) b4 d_X12_goHome_27 ?_
  refine aw_vi (v2 := (h_i h 209 x1.toNatClampNeg)) (rfl) ?_
  refine aw_aload_n (i := 0) rfl d_X12_goHome_28 0 rfl ?_
  refine aw_getr (k0 := 10) kc_12 (ws_1 w) (Nat.le_of_ble_eq_true rfl) tw_1752 d_X12_goHome_29 rfl (wr_1_10 w) ?_
  refine aw_iload_n (i := 1) rfl d_X12_goHome_32 1 rfl ?_
  obtain ⟨b5, k⟩ := k
  refine aw_iald (ws_206 w) b5 d_X12_goHome_33 ?_
  refine aw_vi (v2 := (h_i h 206 x1.toNatClampNeg)) (rfl) ?_
  refine aw_Vi 1 [.int (h_i h 209 x1.toNatClampNeg), .int (h_i h 206 x1.toNatClampNeg)] [] d_X12_goHome_34 (cV_X12_walkOf (d + 0) 0 0) kc_12 (ws_1 w) tw_2154 rfl (rr0 (Nat.le_of_ble_eq_true rfl) (Nat.le_of_ble_eq_true rfl)) (Nat.le_of_ble_eq_true rfl) xs0 k (fun r8 h6 kk => ?_)
  obtain ⟨w7, k⟩ := kk
  refine aw_istore_n (i := 2) rfl [(0, .ref 1), (1, .int x1), (2, .int r8)] d_X12_goHome_37 (Nat.le_of_ble_eq_true rfl) rfl rfl ?_
  refine aw_iload_n (i := 2) rfl d_X12_goHome_38 2 rfl ?_
  refine aw_iconst (v := (-1)) d_X12_goHome_39 ic_m1 ?_
  refine aw_icmp_eq (tgt := 47) d_X12_goHome_40 rfl (fun c9 => ?_) (fun c9 => ?_)
  · have k := k.1 c9
    refine aw_aload_n (i := 0) rfl d_X12_goHome_47 0 rfl ?_
    refine aw_iload_n (i := 1) rfl d_X12_goHome_48 1 rfl ?_
    refine aw_Vv 1 [.int x1] [] d_X12_goHome_49 (cV_X12_free (d + 0) 0 0) kc_12 (ws_1 w7) tw_2348 rfl (rr0 (Nat.le_of_ble_eq_true rfl) (Nat.le_of_ble_eq_true rfl)) (Nat.le_of_ble_eq_true rfl) xs0 k (fun h10 kk => ?_)
    obtain ⟨w11, k⟩ := kk
    exact aw_vret rfl d_X12_goHome_52 ⟨Nat.le_refl _, Nat.le_refl _⟩ ⟨rfl, k⟩
  · have k := k.2 c9
    refine aw_iload_n (i := 2) rfl d_X12_goHome_43 2 rfl ?_
    refine aw_if_ne (tgt := 53) d_X12_goHome_44 rfl (fun c13 => ?_) (fun c13 => ?_)
    · have k := k.1 c13
      refine aw_aload_n (i := 0) rfl d_X12_goHome_53 0 rfl ?_
      refine aw_iload_n (i := 1) rfl d_X12_goHome_54 1 rfl ?_
      refine aw_aload_n (i := 0) rfl d_X12_goHome_55 0 rfl ?_
      refine aw_getr (k0 := 10) kc_12 (ws_1 w7) (Nat.le_of_ble_eq_true rfl) tw_1752 d_X12_goHome_56 rfl (wr_1_10 w7) ?_
      refine aw_iload_n (i := 1) rfl d_X12_goHome_59 1 rfl ?_
      obtain ⟨b14, k⟩ := k
      refine aw_iald (ws_206 w7) b14 d_X12_goHome_60 ?_
      refine aw_Vv 1 [.int x1, .int (h_i h6 206 x1.toNatClampNeg)] [] d_X12_goHome_61 (cV_X12_setOut (d + 1) 0 0) kc_12 (ws_1 w7) tw_2352 rfl (rr0 (Nat.le_of_ble_eq_true rfl) (Nat.le_of_ble_eq_true rfl)) (Nat.le_of_ble_eq_true rfl) xs0 k (fun h15 kk => ?_)
      obtain ⟨w16, k⟩ := kk
      exact aw_vret rfl d_X12_goHome_64 ⟨Nat.le_refl _, Nat.le_refl _⟩ ⟨rfl, k⟩
    · have k := k.2 c13
      refine aw_aload_n (i := 0) rfl d_X12_goHome_47 0 rfl ?_
      refine aw_iload_n (i := 1) rfl d_X12_goHome_48 1 rfl ?_
      refine aw_Vv 1 [.int x1] [] d_X12_goHome_49 (cV_X12_free (d + 0) 0 0) kc_12 (ws_1 w7) tw_2348 rfl (rr0 (Nat.le_of_ble_eq_true rfl) (Nat.le_of_ble_eq_true rfl)) (Nat.le_of_ble_eq_true rfl) xs0 k (fun h18 kk => ?_)
      obtain ⟨w19, k⟩ := kk
      exact aw_vret rfl d_X12_goHome_52 ⟨Nat.le_refl _, Nat.le_refl _⟩ ⟨rfl, k⟩
theorem t_X12_ill (d : Nat) (h : Hp_) (w : Wf h) (x1 : Int32) (x2 : Int32) (K : Int32 → Hp_ → Prop) (k : (¬ (0 ≤ x1 ∧ x1 ≤ (h_i h 1 7) - 1) → K 0 h) ∧ ((0 ≤ x1 ∧ x1 ≤ (h_i h 1 7) - 1) → vp_in x1 12 ∧ ((¬ (h_i h 208 x1.toNatClampNeg) = 4 → (¬ 0 = x2 → (¬ x2 = 0 → vp_in x1 12 ∧ ((¬ (h_i h 208 x1.toNatClampNeg) = 1 → vp_in x1 12 ∧ (vp_in x1 12 ∧ (vp_in x1 12 ∧ (vp_in x1 12 ∧ (vp_in x1 12 ∧ (vp_in x1 12 ∧ (K 1 (h_im (h_im (h_im (h_im (h_im h 208 x1.toNatClampNeg 4) 209 x1.toNatClampNeg (h_i h 206 x1.toNatClampNeg)) 210 x1.toNatClampNeg (-1)) 211 x1.toNatClampNeg (-1)) 213 x1.toNatClampNeg (-1))))))))) ∧ ((h_i h 208 x1.toNatClampNeg) = 1 → Cv (m_X12_drop (d + 1) 0 0) [.ref 1, .int x1, .int 4] h (fun h16 => Wf h16 ∧ (vp_in x1 12 ∧ (vp_in x1 12 ∧ (vp_in x1 12 ∧ (vp_in x1 12 ∧ (vp_in x1 12 ∧ (vp_in x1 12 ∧ (K 1 (h_im (h_im (h_im (h_im (h_im h16 208 x1.toNatClampNeg 4) 209 x1.toNatClampNeg (h_i h16 206 x1.toNatClampNeg)) 210 x1.toNatClampNeg (-1)) 211 x1.toNatClampNeg (-1)) 213 x1.toNatClampNeg (-1))))))))))))) ∧ (x2 = 0 → Cv (m_X12_free (d + 0) 0 0) [.ref 1, .int x1] h (fun h25 => Wf h25 ∧ (K 1 h25)))) ∧ (0 = x2 → K 0 h)) ∧ ((h_i h 208 x1.toNatClampNeg) = 4 → (¬ 1 = x2 → (¬ x2 = 0 → vp_in x1 12 ∧ ((¬ (h_i h 208 x1.toNatClampNeg) = 1 → vp_in x1 12 ∧ (vp_in x1 12 ∧ (vp_in x1 12 ∧ (vp_in x1 12 ∧ (vp_in x1 12 ∧ (vp_in x1 12 ∧ (K 1 (h_im (h_im (h_im (h_im (h_im h 208 x1.toNatClampNeg 4) 209 x1.toNatClampNeg (h_i h 206 x1.toNatClampNeg)) 210 x1.toNatClampNeg (-1)) 211 x1.toNatClampNeg (-1)) 213 x1.toNatClampNeg (-1))))))))) ∧ ((h_i h 208 x1.toNatClampNeg) = 1 → Cv (m_X12_drop (d + 1) 0 0) [.ref 1, .int x1, .int 4] h (fun h38 => Wf h38 ∧ (vp_in x1 12 ∧ (vp_in x1 12 ∧ (vp_in x1 12 ∧ (vp_in x1 12 ∧ (vp_in x1 12 ∧ (vp_in x1 12 ∧ (K 1 (h_im (h_im (h_im (h_im (h_im h38 208 x1.toNatClampNeg 4) 209 x1.toNatClampNeg (h_i h38 206 x1.toNatClampNeg)) 210 x1.toNatClampNeg (-1)) 211 x1.toNatClampNeg (-1)) 213 x1.toNatClampNeg (-1))))))))))))) ∧ (x2 = 0 → Cv (m_X12_free (d + 0) 0 0) [.ref 1, .int x1] h (fun h47 => Wf h47 ∧ (K 1 h47)))) ∧ (1 = x2 → K 0 h))))) : Ci (m_X12_ill (d + 2) 0 0) [.ref 1, .int x1, .int x2] h K := by
  refine Ct.of (fun _ _ _ => trivial) rfl (Nat.le_of_ble_eq_true rfl) ?_
  show AW (m_X12_ill (d + 2) 0 0) 0 0 0 [(0, .ref 1), (1, .int x1), (2, .int x2)] [] h (kI K)
  refine aw_aload_n (i := 0) rfl d_X12_ill_0 0 rfl ?_
  refine aw_iload_n (i := 1) rfl d_X12_ill_1 1 rfl ?_
  refine aw_Vi 1 [.int x1] [] d_X12_ill_2 (cV_X12_isMan (d + 1) 0 0) kc_12 (ws_1 w) tw_2167 rfl (rr0 (Nat.le_of_ble_eq_true rfl) (Nat.le_of_ble_eq_true rfl)) (Nat.le_of_ble_eq_true rfl) xs0 (s_X12_isMan _ _ w x1) (fun _ _ kk => ?_)
  obtain ⟨e1, e2⟩ := kk
  rw [e1, e2]
  refine aw_ifb_eq (tgt := 27) d_X12_ill_5 rfl (fun c3 => ?_) (fun c3 => ?_)
  · have k := k.1 c3
    refine aw_iconst (v := 0) d_X12_ill_27 ic_0 ?_
    exact aw_zret rfl rfl d_X12_ill_28 ⟨Nat.le_refl _, Nat.le_refl _⟩ ⟨_, rfl, k⟩
  · have k := k.2 c3
    refine aw_aload_n (i := 0) rfl d_X12_ill_8 0 rfl ?_
    refine aw_getr (k0 := 12) kc_12 (ws_1 w) (Nat.le_of_ble_eq_true rfl) tw_1754 d_X12_ill_9 rfl (wr_1_12 w) ?_
    refine aw_iload_n (i := 1) rfl d_X12_ill_12 1 rfl ?_
    obtain ⟨b4, k⟩ := k
    refine aw_iald (ws_208 w) b4 d_X12_ill_13 ?_
    refine aw_iconst (v := 4) d_X12_ill_14 ic_4 ?_
    refine aw_icmp_ne (tgt := 22) d_X12_ill_15 rfl (fun c5 => ?_) (fun c5 => ?_)
    · have k := k.1 c5
      refine aw_iconst (v := 0) d_X12_ill_22 ic_0 ?_
      refine aw_iload_n (i := 2) rfl d_X12_ill_23 2 rfl ?_
      refine aw_icmp_ne (tgt := 29) d_X12_ill_24 rfl (fun c6 => ?_) (fun c6 => ?_)
      · have k := k.1 c6
        refine aw_iload_n (i := 2) rfl d_X12_ill_29 2 rfl ?_
        refine aw_if_ne (tgt := 40) d_X12_ill_30 rfl (fun c7 => ?_) (fun c7 => ?_)
        · have k := k.1 c7
          refine aw_aload_n (i := 0) rfl d_X12_ill_40 0 rfl ?_
          refine aw_getr (k0 := 12) kc_12 (ws_1 w) (Nat.le_of_ble_eq_true rfl) tw_1754 d_X12_ill_41 rfl (wr_1_12 w) ?_
          refine aw_iload_n (i := 1) rfl d_X12_ill_44 1 rfl ?_
          obtain ⟨b8, k⟩ := k
          refine aw_iald (ws_208 w) b8 d_X12_ill_45 ?_
          refine aw_iconst (v := 1) d_X12_ill_46 ic_1 ?_
          refine aw_icmp_ne (tgt := 56) d_X12_ill_47 rfl (fun c9 => ?_) (fun c9 => ?_)
          · have k := k.1 c9
            refine aw_aload_n (i := 0) rfl d_X12_ill_56 0 rfl ?_
            refine aw_getr (k0 := 12) kc_12 (ws_1 w) (Nat.le_of_ble_eq_true rfl) tw_1754 d_X12_ill_57 rfl (wr_1_12 w) ?_
            refine aw_iload_n (i := 1) rfl d_X12_ill_60 1 rfl ?_
            refine aw_iconst (v := 4) d_X12_ill_61 ic_4 ?_
            obtain ⟨b10, k⟩ := k
            refine aw_iast (ws_208 w) b10 d_X12_ill_62 ?_
            refine aw_aload_n (i := 0) rfl d_X12_ill_63 0 rfl ?_
            refine aw_getr (k0 := 13) kc_12 (ws_1 w) (Nat.le_of_ble_eq_true rfl) tw_1755 d_X12_ill_64 rfl (wr_1_13 w) ?_
            refine aw_iload_n (i := 1) rfl d_X12_ill_67 1 rfl ?_
            refine aw_aload_n (i := 0) rfl d_X12_ill_68 0 rfl ?_
            refine aw_getr (k0 := 10) kc_12 (ws_1 w) (Nat.le_of_ble_eq_true rfl) tw_1752 d_X12_ill_69 rfl (wr_1_10 w) ?_
            refine aw_iload_n (i := 1) rfl d_X12_ill_72 1 rfl ?_
            obtain ⟨b11, k⟩ := k
            refine aw_iald (ws_206 w) b11 d_X12_ill_73 ?_
            refine aw_vi (v2 := (h_i h 206 x1.toNatClampNeg)) (rfl) ?_
            obtain ⟨b12, k⟩ := k
            refine aw_iast (ws_209 w) b12 d_X12_ill_74 ?_
            refine aw_aload_n (i := 0) rfl d_X12_ill_75 0 rfl ?_
            refine aw_getr (k0 := 14) kc_12 (ws_1 w) (Nat.le_of_ble_eq_true rfl) tw_1756 d_X12_ill_76 rfl (wr_1_14 w) ?_
            refine aw_iload_n (i := 1) rfl d_X12_ill_79 1 rfl ?_
            refine aw_iconst (v := (-1)) d_X12_ill_80 ic_m1 ?_
            obtain ⟨b13, k⟩ := k
            refine aw_iast (ws_210 w) b13 d_X12_ill_81 ?_
            refine aw_aload_n (i := 0) rfl d_X12_ill_82 0 rfl ?_
            refine aw_getr (k0 := 15) kc_12 (ws_1 w) (Nat.le_of_ble_eq_true rfl) tw_1757 d_X12_ill_83 rfl (wr_1_15 w) ?_
            refine aw_iload_n (i := 1) rfl d_X12_ill_86 1 rfl ?_
            refine aw_iconst (v := (-1)) d_X12_ill_87 ic_m1 ?_
            obtain ⟨b14, k⟩ := k
            refine aw_iast (ws_211 w) b14 d_X12_ill_88 ?_
            refine aw_aload_n (i := 0) rfl d_X12_ill_89 0 rfl ?_
            refine aw_getr (k0 := 17) kc_12 (ws_1 w) (Nat.le_of_ble_eq_true rfl) tw_1759 d_X12_ill_90 rfl (wr_1_17 w) ?_
            refine aw_iload_n (i := 1) rfl d_X12_ill_93 1 rfl ?_
            refine aw_iconst (v := (-1)) d_X12_ill_94 ic_m1 ?_
            obtain ⟨b15, k⟩ := k
            refine aw_iast (ws_213 w) b15 d_X12_ill_95 ?_
            refine aw_iconst (v := 1) d_X12_ill_96 ic_1 ?_
            exact aw_zret rfl rfl d_X12_ill_97 ⟨Nat.le_refl _, Nat.le_refl _⟩ ⟨_, rfl, k⟩
          · have k := k.2 c9
            refine aw_aload_n (i := 0) rfl d_X12_ill_50 0 rfl ?_
            refine aw_iload_n (i := 1) rfl d_X12_ill_51 1 rfl ?_
            refine aw_iconst (v := 4) d_X12_ill_52 ic_4 ?_
            refine aw_Vv 1 [.int x1, .int 4] [] d_X12_ill_53 (cV_X12_drop (d + 1) 0 0) kc_12 (ws_1 w) tw_2368 rfl (rr0 (Nat.le_of_ble_eq_true rfl) (Nat.le_of_ble_eq_true rfl)) (Nat.le_of_ble_eq_true rfl) xs0 k (fun h16 kk => ?_)
            obtain ⟨w17, k⟩ := kk
            refine aw_aload_n (i := 0) rfl d_X12_ill_56 0 rfl ?_
            refine aw_getr (k0 := 12) kc_12 (ws_1 w17) (Nat.le_of_ble_eq_true rfl) tw_1754 d_X12_ill_57 rfl (wr_1_12 w17) ?_
            refine aw_iload_n (i := 1) rfl d_X12_ill_60 1 rfl ?_
            refine aw_iconst (v := 4) d_X12_ill_61 ic_4 ?_
            obtain ⟨b19, k⟩ := k
            refine aw_iast (ws_208 w17) b19 d_X12_ill_62 ?_
            refine aw_aload_n (i := 0) rfl d_X12_ill_63 0 rfl ?_
            refine aw_getr (k0 := 13) kc_12 (ws_1 w17) (Nat.le_of_ble_eq_true rfl) tw_1755 d_X12_ill_64 rfl (wr_1_13 w17) ?_
            refine aw_iload_n (i := 1) rfl d_X12_ill_67 1 rfl ?_
            refine aw_aload_n (i := 0) rfl d_X12_ill_68 0 rfl ?_
            refine aw_getr (k0 := 10) kc_12 (ws_1 w17) (Nat.le_of_ble_eq_true rfl) tw_1752 d_X12_ill_69 rfl (wr_1_10 w17) ?_
            refine aw_iload_n (i := 1) rfl d_X12_ill_72 1 rfl ?_
            obtain ⟨b20, k⟩ := k
            refine aw_iald (ws_206 w17) b20 d_X12_ill_73 ?_
            refine aw_vi (v2 := (h_i h16 206 x1.toNatClampNeg)) (rfl) ?_
            obtain ⟨b21, k⟩ := k
            refine aw_iast (ws_209 w17) b21 d_X12_ill_74 ?_
            refine aw_aload_n (i := 0) rfl d_X12_ill_75 0 rfl ?_
            refine aw_getr (k0 := 14) kc_12 (ws_1 w17) (Nat.le_of_ble_eq_true rfl) tw_1756 d_X12_ill_76 rfl (wr_1_14 w17) ?_
            refine aw_iload_n (i := 1) rfl d_X12_ill_79 1 rfl ?_
            refine aw_iconst (v := (-1)) d_X12_ill_80 ic_m1 ?_
            obtain ⟨b22, k⟩ := k
            refine aw_iast (ws_210 w17) b22 d_X12_ill_81 ?_
            refine aw_aload_n (i := 0) rfl d_X12_ill_82 0 rfl ?_
            refine aw_getr (k0 := 15) kc_12 (ws_1 w17) (Nat.le_of_ble_eq_true rfl) tw_1757 d_X12_ill_83 rfl (wr_1_15 w17) ?_
            refine aw_iload_n (i := 1) rfl d_X12_ill_86 1 rfl ?_
            refine aw_iconst (v := (-1)) d_X12_ill_87 ic_m1 ?_
            obtain ⟨b23, k⟩ := k
            refine aw_iast (ws_211 w17) b23 d_X12_ill_88 ?_
            refine aw_aload_n (i := 0) rfl d_X12_ill_89 0 rfl ?_
            refine aw_getr (k0 := 17) kc_12 (ws_1 w17) (Nat.le_of_ble_eq_true rfl) tw_1759 d_X12_ill_90 rfl (wr_1_17 w17) ?_
            refine aw_iload_n (i := 1) rfl d_X12_ill_93 1 rfl ?_
            refine aw_iconst (v := (-1)) d_X12_ill_94 ic_m1 ?_
            obtain ⟨b24, k⟩ := k
            refine aw_iast (ws_213 w17) b24 d_X12_ill_95 ?_
            refine aw_iconst (v := 1) d_X12_ill_96 ic_1 ?_
            exact aw_zret rfl rfl d_X12_ill_97 ⟨Nat.le_refl _, Nat.le_refl _⟩ ⟨_, rfl, k⟩
        · have k := k.2 c7
          refine aw_aload_n (i := 0) rfl d_X12_ill_33 0 rfl ?_
          refine aw_iload_n (i := 1) rfl d_X12_ill_34 1 rfl ?_
          refine aw_Vv 1 [.int x1] [] d_X12_ill_35 (cV_X12_free (d + 0) 0 0) kc_12 (ws_1 w) tw_2348 rfl (rr0 (Nat.le_of_ble_eq_true rfl) (Nat.le_of_ble_eq_true rfl)) (Nat.le_of_ble_eq_true rfl) xs0 k (fun h25 kk => ?_)
          obtain ⟨w26, k⟩ := kk
          refine aw_iconst (v := 1) d_X12_ill_38 ic_1 ?_
          exact aw_zret rfl rfl d_X12_ill_39 ⟨Nat.le_refl _, Nat.le_refl _⟩ ⟨_, rfl, k⟩
      · have k := k.2 c6
        refine aw_iconst (v := 0) d_X12_ill_27 ic_0 ?_
        exact aw_zret rfl rfl d_X12_ill_28 ⟨Nat.le_refl _, Nat.le_refl _⟩ ⟨_, rfl, k⟩
    · have k := k.2 c5
      refine aw_iconst (v := 1) d_X12_ill_18 ic_1 ?_
      refine aw_goto (tgt := 23) d_X12_ill_19 rfl ?_
      refine aw_iload_n (i := 2) rfl d_X12_ill_23 2 rfl ?_
      refine aw_icmp_ne (tgt := 29) d_X12_ill_24 rfl (fun c28 => ?_) (fun c28 => ?_)
      · have k := k.1 c28
        refine aw_iload_n (i := 2) rfl d_X12_ill_29 2 rfl ?_
        refine aw_if_ne (tgt := 40) d_X12_ill_30 rfl (fun c29 => ?_) (fun c29 => ?_)
        · have k := k.1 c29
          refine aw_aload_n (i := 0) rfl d_X12_ill_40 0 rfl ?_
          refine aw_getr (k0 := 12) kc_12 (ws_1 w) (Nat.le_of_ble_eq_true rfl) tw_1754 d_X12_ill_41 rfl (wr_1_12 w) ?_
          refine aw_iload_n (i := 1) rfl d_X12_ill_44 1 rfl ?_
          obtain ⟨b30, k⟩ := k
          refine aw_iald (ws_208 w) b30 d_X12_ill_45 ?_
          refine aw_iconst (v := 1) d_X12_ill_46 ic_1 ?_
          refine aw_icmp_ne (tgt := 56) d_X12_ill_47 rfl (fun c31 => ?_) (fun c31 => ?_)
          · have k := k.1 c31
            refine aw_aload_n (i := 0) rfl d_X12_ill_56 0 rfl ?_
            refine aw_getr (k0 := 12) kc_12 (ws_1 w) (Nat.le_of_ble_eq_true rfl) tw_1754 d_X12_ill_57 rfl (wr_1_12 w) ?_
            refine aw_iload_n (i := 1) rfl d_X12_ill_60 1 rfl ?_
            refine aw_iconst (v := 4) d_X12_ill_61 ic_4 ?_
            obtain ⟨b32, k⟩ := k
            refine aw_iast (ws_208 w) b32 d_X12_ill_62 ?_
            refine aw_aload_n (i := 0) rfl d_X12_ill_63 0 rfl ?_
            refine aw_getr (k0 := 13) kc_12 (ws_1 w) (Nat.le_of_ble_eq_true rfl) tw_1755 d_X12_ill_64 rfl (wr_1_13 w) ?_
            refine aw_iload_n (i := 1) rfl d_X12_ill_67 1 rfl ?_
            refine aw_aload_n (i := 0) rfl d_X12_ill_68 0 rfl ?_
            refine aw_getr (k0 := 10) kc_12 (ws_1 w) (Nat.le_of_ble_eq_true rfl) tw_1752 d_X12_ill_69 rfl (wr_1_10 w) ?_
            refine aw_iload_n (i := 1) rfl d_X12_ill_72 1 rfl ?_
            obtain ⟨b33, k⟩ := k
            refine aw_iald (ws_206 w) b33 d_X12_ill_73 ?_
            refine aw_vi (v2 := (h_i h 206 x1.toNatClampNeg)) (rfl) ?_
            obtain ⟨b34, k⟩ := k
            refine aw_iast (ws_209 w) b34 d_X12_ill_74 ?_
            refine aw_aload_n (i := 0) rfl d_X12_ill_75 0 rfl ?_
            refine aw_getr (k0 := 14) kc_12 (ws_1 w) (Nat.le_of_ble_eq_true rfl) tw_1756 d_X12_ill_76 rfl (wr_1_14 w) ?_
            refine aw_iload_n (i := 1) rfl d_X12_ill_79 1 rfl ?_
            refine aw_iconst (v := (-1)) d_X12_ill_80 ic_m1 ?_
            obtain ⟨b35, k⟩ := k
            refine aw_iast (ws_210 w) b35 d_X12_ill_81 ?_
            refine aw_aload_n (i := 0) rfl d_X12_ill_82 0 rfl ?_
            refine aw_getr (k0 := 15) kc_12 (ws_1 w) (Nat.le_of_ble_eq_true rfl) tw_1757 d_X12_ill_83 rfl (wr_1_15 w) ?_
            refine aw_iload_n (i := 1) rfl d_X12_ill_86 1 rfl ?_
            refine aw_iconst (v := (-1)) d_X12_ill_87 ic_m1 ?_
            obtain ⟨b36, k⟩ := k
            refine aw_iast (ws_211 w) b36 d_X12_ill_88 ?_
            refine aw_aload_n (i := 0) rfl d_X12_ill_89 0 rfl ?_
            refine aw_getr (k0 := 17) kc_12 (ws_1 w) (Nat.le_of_ble_eq_true rfl) tw_1759 d_X12_ill_90 rfl (wr_1_17 w) ?_
            refine aw_iload_n (i := 1) rfl d_X12_ill_93 1 rfl ?_
            refine aw_iconst (v := (-1)) d_X12_ill_94 ic_m1 ?_
            obtain ⟨b37, k⟩ := k
            refine aw_iast (ws_213 w) b37 d_X12_ill_95 ?_
            refine aw_iconst (v := 1) d_X12_ill_96 ic_1 ?_
            exact aw_zret rfl rfl d_X12_ill_97 ⟨Nat.le_refl _, Nat.le_refl _⟩ ⟨_, rfl, k⟩
          · have k := k.2 c31
            refine aw_aload_n (i := 0) rfl d_X12_ill_50 0 rfl ?_
            refine aw_iload_n (i := 1) rfl d_X12_ill_51 1 rfl ?_
            refine aw_iconst (v := 4) d_X12_ill_52 ic_4 ?_
            refine aw_Vv 1 [.int x1, .int 4] [] d_X12_ill_53 (cV_X12_drop (d + 1) 0 0) kc_12 (ws_1 w) tw_2368 rfl (rr0 (Nat.le_of_ble_eq_true rfl) (Nat.le_of_ble_eq_true rfl)) (Nat.le_of_ble_eq_true rfl) xs0 k (fun h38 kk => ?_)
            obtain ⟨w39, k⟩ := kk
            refine aw_aload_n (i := 0) rfl d_X12_ill_56 0 rfl ?_
            refine aw_getr (k0 := 12) kc_12 (ws_1 w39) (Nat.le_of_ble_eq_true rfl) tw_1754 d_X12_ill_57 rfl (wr_1_12 w39) ?_
            refine aw_iload_n (i := 1) rfl d_X12_ill_60 1 rfl ?_
            refine aw_iconst (v := 4) d_X12_ill_61 ic_4 ?_
            obtain ⟨b41, k⟩ := k
            refine aw_iast (ws_208 w39) b41 d_X12_ill_62 ?_
            refine aw_aload_n (i := 0) rfl d_X12_ill_63 0 rfl ?_
            refine aw_getr (k0 := 13) kc_12 (ws_1 w39) (Nat.le_of_ble_eq_true rfl) tw_1755 d_X12_ill_64 rfl (wr_1_13 w39) ?_
            refine aw_iload_n (i := 1) rfl d_X12_ill_67 1 rfl ?_
            refine aw_aload_n (i := 0) rfl d_X12_ill_68 0 rfl ?_
            refine aw_getr (k0 := 10) kc_12 (ws_1 w39) (Nat.le_of_ble_eq_true rfl) tw_1752 d_X12_ill_69 rfl (wr_1_10 w39) ?_
            refine aw_iload_n (i := 1) rfl d_X12_ill_72 1 rfl ?_
            obtain ⟨b42, k⟩ := k
            refine aw_iald (ws_206 w39) b42 d_X12_ill_73 ?_
            refine aw_vi (v2 := (h_i h38 206 x1.toNatClampNeg)) (rfl) ?_
            obtain ⟨b43, k⟩ := k
            refine aw_iast (ws_209 w39) b43 d_X12_ill_74 ?_
            refine aw_aload_n (i := 0) rfl d_X12_ill_75 0 rfl ?_
            refine aw_getr (k0 := 14) kc_12 (ws_1 w39) (Nat.le_of_ble_eq_true rfl) tw_1756 d_X12_ill_76 rfl (wr_1_14 w39) ?_
            refine aw_iload_n (i := 1) rfl d_X12_ill_79 1 rfl ?_
            refine aw_iconst (v := (-1)) d_X12_ill_80 ic_m1 ?_
            obtain ⟨b44, k⟩ := k
            refine aw_iast (ws_210 w39) b44 d_X12_ill_81 ?_
            refine aw_aload_n (i := 0) rfl d_X12_ill_82 0 rfl ?_
            refine aw_getr (k0 := 15) kc_12 (ws_1 w39) (Nat.le_of_ble_eq_true rfl) tw_1757 d_X12_ill_83 rfl (wr_1_15 w39) ?_
            refine aw_iload_n (i := 1) rfl d_X12_ill_86 1 rfl ?_
            refine aw_iconst (v := (-1)) d_X12_ill_87 ic_m1 ?_
            obtain ⟨b45, k⟩ := k
            refine aw_iast (ws_211 w39) b45 d_X12_ill_88 ?_
            refine aw_aload_n (i := 0) rfl d_X12_ill_89 0 rfl ?_
            refine aw_getr (k0 := 17) kc_12 (ws_1 w39) (Nat.le_of_ble_eq_true rfl) tw_1759 d_X12_ill_90 rfl (wr_1_17 w39) ?_
            refine aw_iload_n (i := 1) rfl d_X12_ill_93 1 rfl ?_
            refine aw_iconst (v := (-1)) d_X12_ill_94 ic_m1 ?_
            obtain ⟨b46, k⟩ := k
            refine aw_iast (ws_213 w39) b46 d_X12_ill_95 ?_
            refine aw_iconst (v := 1) d_X12_ill_96 ic_1 ?_
            exact aw_zret rfl rfl d_X12_ill_97 ⟨Nat.le_refl _, Nat.le_refl _⟩ ⟨_, rfl, k⟩
        · have k := k.2 c29
          refine aw_aload_n (i := 0) rfl d_X12_ill_33 0 rfl ?_
          refine aw_iload_n (i := 1) rfl d_X12_ill_34 1 rfl ?_
          refine aw_Vv 1 [.int x1] [] d_X12_ill_35 (cV_X12_free (d + 0) 0 0) kc_12 (ws_1 w) tw_2348 rfl (rr0 (Nat.le_of_ble_eq_true rfl) (Nat.le_of_ble_eq_true rfl)) (Nat.le_of_ble_eq_true rfl) xs0 k (fun h47 kk => ?_)
          obtain ⟨w48, k⟩ := kk
          refine aw_iconst (v := 1) d_X12_ill_38 ic_1 ?_
          exact aw_zret rfl rfl d_X12_ill_39 ⟨Nat.le_refl _, Nat.le_refl _⟩ ⟨_, rfl, k⟩
      · have k := k.2 c28
        refine aw_iconst (v := 0) d_X12_ill_27 ic_0 ?_
        exact aw_zret rfl rfl d_X12_ill_28 ⟨Nat.le_refl _, Nat.le_refl _⟩ ⟨_, rfl, k⟩
theorem t_X12_about (d : Nat) (h : Hp_) (w : Wf h) (x1 : Int32) (x2 : Int32) (K : Int32 → Hp_ → Prop) (k : (¬ (0 ≤ x1 ∧ x1 ≤ (h_i h 1 7) - 1) → AW (m_X12_about (d + 2) 0 0) 0 0 24 [(0, .ref 1), (1, .int x1), (2, .int x2)] [.int 1, .ref 1] h (kI K)) ∧ ((0 ≤ x1 ∧ x1 ≤ (h_i h 1 7) - 1) → (¬ (0 ≤ x2 ∧ x2 ≤ 8) → AW (m_X12_about (d + 2) 0 0) 0 0 24 [(0, .ref 1), (1, .int x1), (2, .int x2)] [.int 1, .ref 1] h (kI K)) ∧ ((0 ≤ x2 ∧ x2 ≤ 8) → AW (m_X12_about (d + 2) 0 0) 0 0 24 [(0, .ref 1), (1, .int x1), (2, .int x2)] [.int 0, .ref 1] h (kI K)))) : Ci (m_X12_about (d + 2) 0 0) [.ref 1, .int x1, .int x2] h K := by
  refine Ct.of (fun _ _ _ => trivial) rfl (Nat.le_of_ble_eq_true rfl) ?_
  show AW (m_X12_about (d + 2) 0 0) 0 0 0 [(0, .ref 1), (1, .int x1), (2, .int x2)] [] h (kI K)
  refine aw_aload_n (i := 0) rfl d_X12_about_0 0 rfl ?_
  refine aw_aload_n (i := 0) rfl d_X12_about_1 0 rfl ?_
  refine aw_iload_n (i := 1) rfl d_X12_about_2 1 rfl ?_
  refine aw_Vi 1 [.int x1] [.ref 1] d_X12_about_3 (cV_X12_isMan (d + 1) 0 0) kc_12 (ws_1 w) tw_2167 rfl (rr0 (Nat.le_of_ble_eq_true rfl) (Nat.le_of_ble_eq_true rfl)) (Nat.le_of_ble_eq_true rfl) xs0 (s_X12_isMan _ _ w x1) (fun _ _ kk => ?_)
  obtain ⟨e1, e2⟩ := kk
  rw [e1, e2]
  refine aw_ifb_eq (tgt := 23) d_X12_about_6 rfl (fun c3 => ?_) (fun c3 => ?_)
  · have k := k.1 c3
    refine aw_iconst (v := 1) d_X12_about_23 ic_1 ?_
    exact k
  · have k := k.2 c3
    refine aw_iload_n (i := 2) rfl d_X12_about_9 2 rfl ?_
    refine aw_iconst (v := 0) d_X12_about_10 ic_0 ?_
    refine aw_bipush (v := 8) d_X12_about_11 ib_8 ?_
    refine aw_Si [.int x2, .int 0, .int 8] [.ref 1] d_X12_about_13 (cS_X12_in (d + 0) 0 0) tw_2147 rfl (rr0 (Nat.le_of_ble_eq_true rfl) (Nat.le_of_ble_eq_true rfl)) (Nat.le_of_ble_eq_true rfl) xs0 (s_X12_in _ _ x2 0 8) (fun _ _ kk => ?_)
    obtain ⟨e4, e5⟩ := kk
    rw [e4, e5]
    refine aw_ifb_eq (tgt := 23) d_X12_about_16 rfl (fun c6 => ?_) (fun c6 => ?_)
    · have k := k.1 c6
      refine aw_iconst (v := 1) d_X12_about_23 ic_1 ?_
      exact k
    · have k := k.2 c6
      refine aw_iconst (v := 0) d_X12_about_19 ic_0 ?_
      refine aw_goto (tgt := 24) d_X12_about_20 rfl ?_
      exact k
theorem t_X12_about_24 (d : Nat) (h : Hp_) (w : Wf h) (x1 : Int32) (x2 : Int32) (s0 : Int32) (K : Int32 → Hp_ → Prop) (k : (¬ s0 = 1 → (x2 = 0 → vp_in x1 12 ∧ (K (h_i h 208 x1.toNatClampNeg) (h_im h 1 1 s0))) ∧ ((x2 = 1 → vp_in x1 12 ∧ (K (h_i h 209 x1.toNatClampNeg) (h_im h 1 1 s0))) ∧ ((x2 = 2 → vp_in x1 12 ∧ (K (h_i h 210 x1.toNatClampNeg) (h_im h 1 1 s0))) ∧ ((x2 = 3 → vp_in x1 12 ∧ (K (h_i h 211 x1.toNatClampNeg) (h_im h 1 1 s0))) ∧ ((x2 = 4 → vp_in x1 12 ∧ ((¬ (h_i h 208 x1.toNatClampNeg) = 1 → K (-1) (h_im h 1 1 s0)) ∧ ((h_i h 208 x1.toNatClampNeg) = 1 → vp_in x1 12 ∧ (K (h_i h 213 x1.toNatClampNeg) (h_im h 1 1 s0))))) ∧ ((x2 = 5 → Ci (m_X12_pointsBy (d + 0) 0 0) [.ref 1, .int x1, .int 1] (h_im h 1 1 s0) (fun r23 h21 => Wf h21 ∧ (K r23 h21))) ∧ ((x2 = 6 → Ci (m_X12_pointsBy (d + 0) 0 0) [.ref 1, .int x1, .int 0] (h_im h 1 1 s0) (fun r27 h25 => Wf h25 ∧ (K r27 h25))) ∧ ((x2 = 7 → vp_in x1 12 ∧ (K (h_i h 205 x1.toNatClampNeg) (h_im h 1 1 s0))) ∧ ((¬ x2 = 0 ∧ ¬ x2 = 1 ∧ ¬ x2 = 2 ∧ ¬ x2 = 3 ∧ ¬ x2 = 4 ∧ ¬ x2 = 5 ∧ ¬ x2 = 6 ∧ ¬ x2 = 7 → vp_in x1 12 ∧ (K (h_i h 206 x1.toNatClampNeg) (h_im h 1 1 s0)))))))))))) ∧ (s0 = 1 → K 0 (h_im h 1 1 s0))) : AW (m_X12_about (d + 2) 0 0) 0 0 24 [(0, .ref 1), (1, .int x1), (2, .int x2)] [.int s0, .ref 1] h (kI K) := by
  refine aw_puti (k0 := 1) kc_12 (ws_1 w) (Nat.le_of_ble_eq_true rfl) tw_1743 d_X12_about_24 rfl rfl nf_i ?_
  refine aw_aload_n (i := 0) rfl d_X12_about_27 0 rfl ?_
  refine aw_geti (k0 := 1) kc_12 (ws_1 w) (Nat.le_of_ble_eq_true rfl) tw_1743 d_X12_about_28 rfl ?_
  refine aw_vi (v2 := s0) (rfl) ?_
  refine aw_iconst (v := 1) d_X12_about_31 ic_1 ?_
  refine aw_icmp_ne (tgt := 37) d_X12_about_32 rfl (fun c7 => ?_) (fun c7 => ?_)
  · have k := k.1 c7
    refine aw_iload_n (i := 2) rfl d_X12_about_37 2 rfl ?_
    by_cases e8 : x2 = 0
    · refine aw_tableIn (off := 46) (tgt := 84) d_X12_about_38 (by rw [e8]; decide) (by rw [e8]; decide) (by rw [e8]; decide) rfl ?_
      have k := k.1 e8
      refine aw_aload_n (i := 0) rfl d_X12_about_84 0 rfl ?_
      refine aw_getr (k0 := 12) kc_12 (ws_1 w) (Nat.le_of_ble_eq_true rfl) tw_1754 d_X12_about_85 rfl (wr_1_12 w) ?_
      refine aw_iload_n (i := 1) rfl d_X12_about_88 1 rfl ?_
      obtain ⟨b9, k⟩ := k
      refine aw_iald (ws_208 w) b9 d_X12_about_89 ?_
      refine aw_vi (v2 := (h_i h 208 x1.toNatClampNeg)) (rfl) ?_
      exact aw_iret rfl d_X12_about_90 ⟨Nat.le_refl _, Nat.le_refl _⟩ ⟨_, rfl, k⟩
    · have k := k.2
      by_cases e10 : x2 = 1
      · refine aw_tableIn (off := 53) (tgt := 91) d_X12_about_38 (by rw [e10]; decide) (by rw [e10]; decide) (by rw [e10]; decide) rfl ?_
        have k := k.1 e10
        refine aw_aload_n (i := 0) rfl d_X12_about_91 0 rfl ?_
        refine aw_getr (k0 := 13) kc_12 (ws_1 w) (Nat.le_of_ble_eq_true rfl) tw_1755 d_X12_about_92 rfl (wr_1_13 w) ?_
        refine aw_iload_n (i := 1) rfl d_X12_about_95 1 rfl ?_
        obtain ⟨b11, k⟩ := k
        refine aw_iald (ws_209 w) b11 d_X12_about_96 ?_
        refine aw_vi (v2 := (h_i h 209 x1.toNatClampNeg)) (rfl) ?_
        exact aw_iret rfl d_X12_about_97 ⟨Nat.le_refl _, Nat.le_refl _⟩ ⟨_, rfl, k⟩
      · have k := k.2
        by_cases e12 : x2 = 2
        · refine aw_tableIn (off := 60) (tgt := 98) d_X12_about_38 (by rw [e12]; decide) (by rw [e12]; decide) (by rw [e12]; decide) rfl ?_
          have k := k.1 e12
          refine aw_aload_n (i := 0) rfl d_X12_about_98 0 rfl ?_
          refine aw_getr (k0 := 14) kc_12 (ws_1 w) (Nat.le_of_ble_eq_true rfl) tw_1756 d_X12_about_99 rfl (wr_1_14 w) ?_
          refine aw_iload_n (i := 1) rfl d_X12_about_102 1 rfl ?_
          obtain ⟨b13, k⟩ := k
          refine aw_iald (ws_210 w) b13 d_X12_about_103 ?_
          refine aw_vi (v2 := (h_i h 210 x1.toNatClampNeg)) (rfl) ?_
          exact aw_iret rfl d_X12_about_104 ⟨Nat.le_refl _, Nat.le_refl _⟩ ⟨_, rfl, k⟩
        · have k := k.2
          by_cases e14 : x2 = 3
          · refine aw_tableIn (off := 67) (tgt := 105) d_X12_about_38 (by rw [e14]; decide) (by rw [e14]; decide) (by rw [e14]; decide) rfl ?_
            have k := k.1 e14
            refine aw_aload_n (i := 0) rfl d_X12_about_105 0 rfl ?_
            refine aw_getr (k0 := 15) kc_12 (ws_1 w) (Nat.le_of_ble_eq_true rfl) tw_1757 d_X12_about_106 rfl (wr_1_15 w) ?_
            refine aw_iload_n (i := 1) rfl d_X12_about_109 1 rfl ?_
            obtain ⟨b15, k⟩ := k
            refine aw_iald (ws_211 w) b15 d_X12_about_110 ?_
            refine aw_vi (v2 := (h_i h 211 x1.toNatClampNeg)) (rfl) ?_
            exact aw_iret rfl d_X12_about_111 ⟨Nat.le_refl _, Nat.le_refl _⟩ ⟨_, rfl, k⟩
          · have k := k.2
            by_cases e16 : x2 = 4
            · refine aw_tableIn (off := 74) (tgt := 112) d_X12_about_38 (by rw [e16]; decide) (by rw [e16]; decide) (by rw [e16]; decide) rfl ?_
              have k := k.1 e16
              refine aw_aload_n (i := 0) rfl d_X12_about_112 0 rfl ?_
              refine aw_getr (k0 := 12) kc_12 (ws_1 w) (Nat.le_of_ble_eq_true rfl) tw_1754 d_X12_about_113 rfl (wr_1_12 w) ?_
              refine aw_iload_n (i := 1) rfl d_X12_about_116 1 rfl ?_
              obtain ⟨b17, k⟩ := k
              refine aw_iald (ws_208 w) b17 d_X12_about_117 ?_
              refine aw_vi (v2 := (h_i h 208 x1.toNatClampNeg)) (rfl) ?_
              refine aw_iconst (v := 1) d_X12_about_118 ic_1 ?_
              refine aw_icmp_ne (tgt := 131) d_X12_about_119 rfl (fun c18 => ?_) (fun c18 => ?_)
              · have k := k.1 c18
                refine aw_iconst (v := (-1)) d_X12_about_131 ic_m1 ?_
                exact aw_iret rfl d_X12_about_132 ⟨Nat.le_refl _, Nat.le_refl _⟩ ⟨_, rfl, k⟩
              · have k := k.2 c18
                refine aw_aload_n (i := 0) rfl d_X12_about_122 0 rfl ?_
                refine aw_getr (k0 := 17) kc_12 (ws_1 w) (Nat.le_of_ble_eq_true rfl) tw_1759 d_X12_about_123 rfl (wr_1_17 w) ?_
                refine aw_iload_n (i := 1) rfl d_X12_about_126 1 rfl ?_
                obtain ⟨b19, k⟩ := k
                refine aw_iald (ws_213 w) b19 d_X12_about_127 ?_
                refine aw_vi (v2 := (h_i h 213 x1.toNatClampNeg)) (rfl) ?_
                refine aw_goto (tgt := 132) d_X12_about_128 rfl ?_
                exact aw_iret rfl d_X12_about_132 ⟨Nat.le_refl _, Nat.le_refl _⟩ ⟨_, rfl, k⟩
            · have k := k.2
              by_cases e20 : x2 = 5
              · refine aw_tableIn (off := 95) (tgt := 133) d_X12_about_38 (by rw [e20]; decide) (by rw [e20]; decide) (by rw [e20]; decide) rfl ?_
                have k := k.1 e20
                refine aw_aload_n (i := 0) rfl d_X12_about_133 0 rfl ?_
                refine aw_iload_n (i := 1) rfl d_X12_about_134 1 rfl ?_
                refine aw_iconst (v := 1) d_X12_about_135 ic_1 ?_
                refine aw_Vi 1 [.int x1, .int 1] [] d_X12_about_136 (cV_X12_pointsBy (d + 0) 0 0) kc_12 (ws_1 w) tw_2458 rfl (rr0 (Nat.le_of_ble_eq_true rfl) (Nat.le_of_ble_eq_true rfl)) (Nat.le_of_ble_eq_true rfl) xs0 k (fun r23 h21 kk => ?_)
                obtain ⟨w22, k⟩ := kk
                exact aw_iret rfl d_X12_about_139 ⟨Nat.le_refl _, Nat.le_refl _⟩ ⟨_, rfl, k⟩
              · have k := k.2
                by_cases e24 : x2 = 6
                · refine aw_tableIn (off := 102) (tgt := 140) d_X12_about_38 (by rw [e24]; decide) (by rw [e24]; decide) (by rw [e24]; decide) rfl ?_
                  have k := k.1 e24
                  refine aw_aload_n (i := 0) rfl d_X12_about_140 0 rfl ?_
                  refine aw_iload_n (i := 1) rfl d_X12_about_141 1 rfl ?_
                  refine aw_iconst (v := 0) d_X12_about_142 ic_0 ?_
                  refine aw_Vi 1 [.int x1, .int 0] [] d_X12_about_143 (cV_X12_pointsBy (d + 0) 0 0) kc_12 (ws_1 w) tw_2458 rfl (rr0 (Nat.le_of_ble_eq_true rfl) (Nat.le_of_ble_eq_true rfl)) (Nat.le_of_ble_eq_true rfl) xs0 k (fun r27 h25 kk => ?_)
                  obtain ⟨w26, k⟩ := kk
                  exact aw_iret rfl d_X12_about_146 ⟨Nat.le_refl _, Nat.le_refl _⟩ ⟨_, rfl, k⟩
                · have k := k.2
                  by_cases e28 : x2 = 7
                  · refine aw_tableIn (off := 109) (tgt := 147) d_X12_about_38 (by rw [e28]; decide) (by rw [e28]; decide) (by rw [e28]; decide) rfl ?_
                    have k := k.1 e28
                    refine aw_aload_n (i := 0) rfl d_X12_about_147 0 rfl ?_
                    refine aw_getr (k0 := 9) kc_12 (ws_1 w) (Nat.le_of_ble_eq_true rfl) tw_1751 d_X12_about_148 rfl (wr_1_9 w) ?_
                    refine aw_iload_n (i := 1) rfl d_X12_about_151 1 rfl ?_
                    obtain ⟨b29, k⟩ := k
                    refine aw_iald (ws_205 w) b29 d_X12_about_152 ?_
                    refine aw_vi (v2 := (h_i h 205 x1.toNatClampNeg)) (rfl) ?_
                    exact aw_iret rfl d_X12_about_153 ⟨Nat.le_refl _, Nat.le_refl _⟩ ⟨_, rfl, k⟩
                  · have k := k.2
                    have k := k ⟨e8, e10, e12, e14, e16, e20, e24, e28⟩
                    have n31 := sw_ne (0) (by decide) e8
                    have n32 := sw_ne (1) (by decide) e10
                    have n33 := sw_ne (2) (by decide) e12
                    have n34 := sw_ne (3) (by decide) e14
                    have n35 := sw_ne (4) (by decide) e16
                    have n36 := sw_ne (5) (by decide) e20
                    have n37 := sw_ne (6) (by decide) e24
                    have n38 := sw_ne (7) (by decide) e28
                    refine aw_tableOut (tgt := 154) d_X12_about_38 (by omega) rfl ?_
                    refine aw_aload_n (i := 0) rfl d_X12_about_154 0 rfl ?_
                    refine aw_getr (k0 := 10) kc_12 (ws_1 w) (Nat.le_of_ble_eq_true rfl) tw_1752 d_X12_about_155 rfl (wr_1_10 w) ?_
                    refine aw_iload_n (i := 1) rfl d_X12_about_158 1 rfl ?_
                    obtain ⟨b30, k⟩ := k
                    refine aw_iald (ws_206 w) b30 d_X12_about_159 ?_
                    refine aw_vi (v2 := (h_i h 206 x1.toNatClampNeg)) (rfl) ?_
                    exact aw_iret rfl d_X12_about_160 ⟨Nat.le_refl _, Nat.le_refl _⟩ ⟨_, rfl, k⟩
  · have k := k.2 c7
    refine aw_iconst (v := 0) d_X12_about_35 ic_0 ?_
    exact aw_iret rfl d_X12_about_36 ⟨Nat.le_refl _, Nat.le_refl _⟩ ⟨_, rfl, k⟩
theorem t_X12_was (d : Nat) (h : Hp_) (w : Wf h) (x1 : Int32) (x2 : Int32) (K : Int32 → Hp_ → Prop) (k : (¬ (0 ≤ x1 ∧ x1 ≤ (h_i h 1 7) - 1) → K (-1) h) ∧ ((0 ≤ x1 ∧ x1 ≤ (h_i h 1 7) - 1) → vp_in x1 12 ∧ ((¬ ((h_i h 207 x1.toNatClampNeg) ≤ x2 ∧ x2 ≤ (h_i h 1 0)) → K (-1) h) ∧ (((h_i h 207 x1.toNatClampNeg) ≤ x2 ∧ x2 ≤ (h_i h 1 0)) → Ci (m_X12_wasAt (d + 0) 0 0) [.ref 1, .int x1, .int x2] h (fun r10 h8 => Wf h8 ∧ (K r10 h8)))))) : Ci (m_X12_was (d + 2) 0 0) [.ref 1, .int x1, .int x2] h K := by
  refine Ct.of (fun _ _ _ => trivial) rfl (Nat.le_of_ble_eq_true rfl) ?_
  show AW (m_X12_was (d + 2) 0 0) 0 0 0 [(0, .ref 1), (1, .int x1), (2, .int x2)] [] h (kI K)
  refine aw_aload_n (i := 0) rfl d_X12_was_0 0 rfl ?_
  refine aw_iload_n (i := 1) rfl d_X12_was_1 1 rfl ?_
  refine aw_Vi 1 [.int x1] [] d_X12_was_2 (cV_X12_isMan (d + 1) 0 0) kc_12 (ws_1 w) tw_2167 rfl (rr0 (Nat.le_of_ble_eq_true rfl) (Nat.le_of_ble_eq_true rfl)) (Nat.le_of_ble_eq_true rfl) xs0 (s_X12_isMan _ _ w x1) (fun _ _ kk => ?_)
  obtain ⟨e1, e2⟩ := kk
  rw [e1, e2]
  refine aw_ifb_eq (tgt := 34) d_X12_was_5 rfl (fun c3 => ?_) (fun c3 => ?_)
  · have k := k.1 c3
    refine aw_iconst (v := (-1)) d_X12_was_34 ic_m1 ?_
    exact aw_iret rfl d_X12_was_35 ⟨Nat.le_refl _, Nat.le_refl _⟩ ⟨_, rfl, k⟩
  · have k := k.2 c3
    refine aw_iload_n (i := 2) rfl d_X12_was_8 2 rfl ?_
    refine aw_aload_n (i := 0) rfl d_X12_was_9 0 rfl ?_
    refine aw_getr (k0 := 11) kc_12 (ws_1 w) (Nat.le_of_ble_eq_true rfl) tw_1753 d_X12_was_10 rfl (wr_1_11 w) ?_
    refine aw_iload_n (i := 1) rfl d_X12_was_13 1 rfl ?_
    obtain ⟨b4, k⟩ := k
    refine aw_iald (ws_207 w) b4 d_X12_was_14 ?_
    refine aw_aload_n (i := 0) rfl d_X12_was_15 0 rfl ?_
    refine aw_geti (k0 := 0) kc_12 (ws_1 w) (Nat.le_of_ble_eq_true rfl) tw_1742 d_X12_was_16 rfl ?_
    refine aw_Si [.int x2, .int (h_i h 207 x1.toNatClampNeg), .int (h_i h 1 0)] [] d_X12_was_19 (cS_X12_in (d + 0) 0 0) tw_2147 rfl (rr0 (Nat.le_of_ble_eq_true rfl) (Nat.le_of_ble_eq_true rfl)) (Nat.le_of_ble_eq_true rfl) xs0 (s_X12_in _ _ x2 (h_i h 207 x1.toNatClampNeg) (h_i h 1 0)) (fun _ _ kk => ?_)
    obtain ⟨e5, e6⟩ := kk
    rw [e5, e6]
    refine aw_ifb_eq (tgt := 34) d_X12_was_22 rfl (fun c7 => ?_) (fun c7 => ?_)
    · have k := k.1 c7
      refine aw_iconst (v := (-1)) d_X12_was_34 ic_m1 ?_
      exact aw_iret rfl d_X12_was_35 ⟨Nat.le_refl _, Nat.le_refl _⟩ ⟨_, rfl, k⟩
    · have k := k.2 c7
      refine aw_aload_n (i := 0) rfl d_X12_was_25 0 rfl ?_
      refine aw_iload_n (i := 1) rfl d_X12_was_26 1 rfl ?_
      refine aw_iload_n (i := 2) rfl d_X12_was_27 2 rfl ?_
      refine aw_Vi 1 [.int x1, .int x2] [] d_X12_was_28 (cV_X12_wasAt (d + 0) 0 0) kc_12 (ws_1 w) tw_2466 rfl (rr0 (Nat.le_of_ble_eq_true rfl) (Nat.le_of_ble_eq_true rfl)) (Nat.le_of_ble_eq_true rfl) xs0 k (fun r10 h8 kk => ?_)
      obtain ⟨w9, k⟩ := kk
      refine aw_goto (tgt := 35) d_X12_was_31 rfl ?_
      exact aw_iret rfl d_X12_was_35 ⟨Nat.le_refl _, Nat.le_refl _⟩ ⟨_, rfl, k⟩
theorem t_X12_complain (d : Nat) (h : Hp_) (w : Wf h) (x1 : Int32) (x2 : Int32) (x3 : Int32) (x4 : Int32) (K : Int32 → Hp_ → Prop) (k : (¬ (0 ≤ x1 ∧ x1 ≤ (h_i h 1 7) - 1) → K (-1) h) ∧ ((0 ≤ x1 ∧ x1 ≤ (h_i h 1 7) - 1) → (¬ (0 ≤ x2 ∧ x2 ≤ 15) → K (-1) h) ∧ ((0 ≤ x2 ∧ x2 ≤ 15) → (¬ (0 ≤ x3 ∧ x3 ≤ (h_i h 1 0)) → K (-1) h) ∧ ((0 ≤ x3 ∧ x3 ≤ (h_i h 1 0)) → (¬ (x3 ≤ x4 ∧ x4 ≤ (h_i h 1 0)) → K (-1) h) ∧ ((x3 ≤ x4 ∧ x4 ≤ (h_i h 1 0)) → ((x4 - x3) ≤ 1440 → vp_in x1 12 ∧ (Ci (m_J9_max_7cf53 (d + 0) 0 0) [.int x3, .int (h_i h 207 x1.toNatClampNeg)] h (fun r17 h15 => Wf h15 ∧ (AW (m_X12_complain (d + 2) 0 0) 0 0 67 [(0, .ref 1), (1, .int x1), (2, .int x2), (4, .int x4), (5, .int 0), (6, .int r17)] [] h15 (kI K))))) ∧ (¬ (x4 - x3) ≤ 1440 → K (-1) h)))))) : Ci (m_X12_complain (d + 2) 0 0) [.ref 1, .int x1, .int x2, .int x3, .int x4] h K := by
  refine Ct.of (fun _ _ _ => trivial) rfl (Nat.le_of_ble_eq_true rfl) ?_
  show AW (m_X12_complain (d + 2) 0 0) 0 0 0 [(0, .ref 1), (1, .int x1), (2, .int x2), (3, .int x3), (4, .int x4)] [] h (kI K)
  refine aw_aload_n (i := 0) rfl d_X12_complain_0 0 rfl ?_
  refine aw_iload_n (i := 1) rfl d_X12_complain_1 1 rfl ?_
  refine aw_Vi 1 [.int x1] [] d_X12_complain_2 (cV_X12_isMan (d + 1) 0 0) kc_12 (ws_1 w) tw_2167 rfl (rr0 (Nat.le_of_ble_eq_true rfl) (Nat.le_of_ble_eq_true rfl)) (Nat.le_of_ble_eq_true rfl) xs0 (s_X12_isMan _ _ w x1) (fun _ _ kk => ?_)
  obtain ⟨e1, e2⟩ := kk
  rw [e1, e2]
  refine aw_ifb_eq (tgt := 50) d_X12_complain_5 rfl (fun c3 => ?_) (fun c3 => ?_)
  · have k := k.1 c3
    refine aw_iconst (v := (-1)) d_X12_complain_50 ic_m1 ?_
    exact aw_iret rfl d_X12_complain_51 ⟨Nat.le_refl _, Nat.le_refl _⟩ ⟨_, rfl, k⟩
  · have k := k.2 c3
    refine aw_iload_n (i := 2) rfl d_X12_complain_8 2 rfl ?_
    refine aw_Si [.int x2] [] d_X12_complain_9 (cS_X12_isPlace (d + 1) 0 0) tw_2144 rfl (rr0 (Nat.le_of_ble_eq_true rfl) (Nat.le_of_ble_eq_true rfl)) (Nat.le_of_ble_eq_true rfl) xs0 (s_X12_isPlace _ _ x2) (fun _ _ kk => ?_)
    obtain ⟨e4, e5⟩ := kk
    rw [e4, e5]
    refine aw_ifb_eq (tgt := 50) d_X12_complain_12 rfl (fun c6 => ?_) (fun c6 => ?_)
    · have k := k.1 c6
      refine aw_iconst (v := (-1)) d_X12_complain_50 ic_m1 ?_
      exact aw_iret rfl d_X12_complain_51 ⟨Nat.le_refl _, Nat.le_refl _⟩ ⟨_, rfl, k⟩
    · have k := k.2 c6
      refine aw_iload_n (i := 3) rfl d_X12_complain_15 3 rfl ?_
      refine aw_iconst (v := 0) d_X12_complain_16 ic_0 ?_
      refine aw_aload_n (i := 0) rfl d_X12_complain_17 0 rfl ?_
      refine aw_geti (k0 := 0) kc_12 (ws_1 w) (Nat.le_of_ble_eq_true rfl) tw_1742 d_X12_complain_18 rfl ?_
      refine aw_Si [.int x3, .int 0, .int (h_i h 1 0)] [] d_X12_complain_21 (cS_X12_in (d + 0) 0 0) tw_2147 rfl (rr0 (Nat.le_of_ble_eq_true rfl) (Nat.le_of_ble_eq_true rfl)) (Nat.le_of_ble_eq_true rfl) xs0 (s_X12_in _ _ x3 0 (h_i h 1 0)) (fun _ _ kk => ?_)
      obtain ⟨e7, e8⟩ := kk
      rw [e7, e8]
      refine aw_ifb_eq (tgt := 50) d_X12_complain_24 rfl (fun c9 => ?_) (fun c9 => ?_)
      · have k := k.1 c9
        refine aw_iconst (v := (-1)) d_X12_complain_50 ic_m1 ?_
        exact aw_iret rfl d_X12_complain_51 ⟨Nat.le_refl _, Nat.le_refl _⟩ ⟨_, rfl, k⟩
      · have k := k.2 c9
        refine aw_iload d_X12_complain_27 4 rfl ?_
        refine aw_iload_n (i := 3) rfl d_X12_complain_29 3 rfl ?_
        refine aw_aload_n (i := 0) rfl d_X12_complain_30 0 rfl ?_
        refine aw_geti (k0 := 0) kc_12 (ws_1 w) (Nat.le_of_ble_eq_true rfl) tw_1742 d_X12_complain_31 rfl ?_
        refine aw_Si [.int x4, .int x3, .int (h_i h 1 0)] [] d_X12_complain_34 (cS_X12_in (d + 0) 0 0) tw_2147 rfl (rr0 (Nat.le_of_ble_eq_true rfl) (Nat.le_of_ble_eq_true rfl)) (Nat.le_of_ble_eq_true rfl) xs0 (s_X12_in _ _ x4 x3 (h_i h 1 0)) (fun _ _ kk => ?_)
        obtain ⟨e10, e11⟩ := kk
        rw [e10, e11]
        refine aw_ifb_eq (tgt := 50) d_X12_complain_37 rfl (fun c12 => ?_) (fun c12 => ?_)
        · have k := k.1 c12
          refine aw_iconst (v := (-1)) d_X12_complain_50 ic_m1 ?_
          exact aw_iret rfl d_X12_complain_51 ⟨Nat.le_refl _, Nat.le_refl _⟩ ⟨_, rfl, k⟩
        · have k := k.2 c12
          refine aw_iload d_X12_complain_40 4 rfl ?_
          refine aw_iload_n (i := 3) rfl d_X12_complain_42 3 rfl ?_
          refine aw_isub d_X12_complain_43 ?_
          refine aw_sipush (v := 1440) d_X12_complain_44 is_1440 ?_
          refine aw_icmp_le (tgt := 52) d_X12_complain_47 rfl (fun c13 => ?_) (fun c13 => ?_)
          · have k := k.1 c13
            refine aw_iconst (v := 0) d_X12_complain_52 ic_0 ?_
            refine aw_istore [(0, .ref 1), (1, .int x1), (2, .int x2), (3, .int x3), (4, .int x4), (5, .int 0)] d_X12_complain_53 (Nat.le_of_ble_eq_true rfl) rfl rfl ?_
            refine aw_iload_n (i := 3) rfl d_X12_complain_55 3 rfl ?_
            refine aw_aload_n (i := 0) rfl d_X12_complain_56 0 rfl ?_
            refine aw_getr (k0 := 11) kc_12 (ws_1 w) (Nat.le_of_ble_eq_true rfl) tw_1753 d_X12_complain_57 rfl (wr_1_11 w) ?_
            refine aw_iload_n (i := 1) rfl d_X12_complain_60 1 rfl ?_
            obtain ⟨b14, k⟩ := k
            refine aw_iald (ws_207 w) b14 d_X12_complain_61 ?_
            refine aw_Si [.int x3, .int (h_i h 207 x1.toNatClampNeg)] [] d_X12_complain_62 (cS_J9_max_7cf53 (d + 0) 0 0) tw_2474 rfl (rr0 (Nat.le_of_ble_eq_true rfl) (Nat.le_of_ble_eq_true rfl)) (Nat.le_of_ble_eq_true rfl) xs0 k (fun r17 h15 kk => ?_)
            obtain ⟨w16, k⟩ := kk
            refine aw_istore [(0, .ref 1), (1, .int x1), (2, .int x2), (3, .int x3), (4, .int x4), (5, .int 0), (6, .int r17)] d_X12_complain_65 (Nat.le_of_ble_eq_true rfl) rfl rfl ?_
            exact aw_lvp [0, 1, 2, 4, 5, 6] [(0, .ref 1), (1, .int x1), (2, .int x2), (4, .int x4), (5, .int 0), (6, .int r17)] rfl k
          · have k := k.2 c13
            refine aw_iconst (v := (-1)) d_X12_complain_50 ic_m1 ?_
            exact aw_iret rfl d_X12_complain_51 ⟨Nat.le_refl _, Nat.le_refl _⟩ ⟨_, rfl, k⟩
theorem t_X12_complain_67 (d : Nat) (h : Hp_) (w : Wf h) (x1 : Int32) (x2 : Int32) (x4 : Int32) (x5 : Int32) (x6 : Int32) (K : Int32 → Hp_ → Prop) (k : (x4 < x6 → (x5 = 0 → K 0 h) ∧ (¬ x5 = 0 → K 2 h)) ∧ (¬ x4 < x6 → Ci (m_X12_wasAt (d + 0) 0 0) [.ref 1, .int x1, .int x6] h (fun r22 h20 => Wf h20 ∧ ((¬ r22 = x2 → (¬ x5 = 0 → AW (m_X12_complain (d + 2) 0 0) 0 0 67 [(0, .ref 1), (1, .int x1), (2, .int x2), (4, .int x4), (5, .int 1), (6, .int (x6 + 1))] [] h20 (kI K)) ∧ (x5 = 0 → Ci (m_X12_wasAt (d + 0) 0 0) [.ref 1, .int x1, .int x6] h20 (fun r27 h25 => Wf h25 ∧ ((¬ r27 = (-1) → AW (m_X12_complain (d + 2) 0 0) 0 0 67 [(0, .ref 1), (1, .int x1), (2, .int x2), (4, .int x4), (5, .int 0), (6, .int (x6 + 1))] [] h25 (kI K)) ∧ (r27 = (-1) → AW (m_X12_complain (d + 2) 0 0) 0 0 67 [(0, .ref 1), (1, .int x1), (2, .int x2), (4, .int x4), (5, .int 1), (6, .int (x6 + 1))] [] h25 (kI K)))))) ∧ (r22 = x2 → K 1 h20))))) : AW (m_X12_complain (d + 2) 0 0) 0 0 67 [(0, .ref 1), (1, .int x1), (2, .int x2), (4, .int x4), (5, .int x5), (6, .int x6)] [] h (kI K) := by
  refine aw_iload d_X12_complain_67 5 rfl ?_
  refine aw_iload d_X12_complain_69 3 rfl ?_
  refine aw_icmp_gt (tgt := 116) d_X12_complain_71 rfl (fun c18 => ?_) (fun c18 => ?_)
  · have k := k.1 c18
    refine aw_iload d_X12_complain_116 4 rfl ?_
    refine aw_if_eq (tgt := 125) d_X12_complain_118 rfl (fun c19 => ?_) (fun c19 => ?_)
    · have k := k.1 c19
      refine aw_iconst (v := 0) d_X12_complain_125 ic_0 ?_
      exact aw_iret rfl d_X12_complain_126 ⟨Nat.le_refl _, Nat.le_refl _⟩ ⟨_, rfl, k⟩
    · have k := k.2 c19
      refine aw_iconst (v := 2) d_X12_complain_121 ic_2 ?_
      refine aw_goto (tgt := 126) d_X12_complain_122 rfl ?_
      exact aw_iret rfl d_X12_complain_126 ⟨Nat.le_refl _, Nat.le_refl _⟩ ⟨_, rfl, k⟩
  · have k := k.2 c18
    refine aw_aload_n (i := 0) rfl d_X12_complain_74 0 rfl ?_
    refine aw_iload_n (i := 1) rfl d_X12_complain_75 1 rfl ?_
    refine aw_iload d_X12_complain_76 5 rfl ?_
    refine aw_Vi 1 [.int x1, .int x6] [] d_X12_complain_78 (cV_X12_wasAt (d + 0) 0 0) kc_12 (ws_1 w) tw_2466 rfl (rr0 (Nat.le_of_ble_eq_true rfl) (Nat.le_of_ble_eq_true rfl)) (Nat.le_of_ble_eq_true rfl) xs0 k (fun r22 h20 kk => ?_)
    obtain ⟨w21, k⟩ := kk
    refine aw_iload_n (i := 2) rfl d_X12_complain_81 2 rfl ?_
    refine aw_icmp_ne (tgt := 87) d_X12_complain_82 rfl (fun c23 => ?_) (fun c23 => ?_)
    · have k := k.1 c23
      refine aw_iload d_X12_complain_87 4 rfl ?_
      refine aw_if_ne (tgt := 103) d_X12_complain_89 rfl (fun c24 => ?_) (fun c24 => ?_)
      · have k := k.1 c24
        refine aw_iconst (v := 1) d_X12_complain_103 ic_1 ?_
        refine aw_goto (tgt := 108) d_X12_complain_104 rfl ?_
        refine aw_istore [(0, .ref 1), (1, .int x1), (2, .int x2), (4, .int x4), (5, .int 1), (6, .int x6)] d_X12_complain_108 (Nat.le_of_ble_eq_true rfl) rfl rfl ?_
        refine aw_iinc (v := (x6 + 1)) [(0, .ref 1), (1, .int x1), (2, .int x2), (4, .int x4), (5, .int 1), (6, .int (x6 + 1))] d_X12_complain_110 5 rfl rfl (Nat.le_of_ble_eq_true rfl) rfl rfl ?_
        refine aw_goto (tgt := 67) d_X12_complain_113 rfl ?_
        exact k
      · have k := k.2 c24
        refine aw_aload_n (i := 0) rfl d_X12_complain_92 0 rfl ?_
        refine aw_iload_n (i := 1) rfl d_X12_complain_93 1 rfl ?_
        refine aw_iload d_X12_complain_94 5 rfl ?_
        refine aw_Vi 1 [.int x1, .int x6] [] d_X12_complain_96 (cV_X12_wasAt (d + 0) 0 0) kc_12 (ws_1 w21) tw_2466 rfl (rr0 (Nat.le_of_ble_eq_true rfl) (Nat.le_of_ble_eq_true rfl)) (Nat.le_of_ble_eq_true rfl) xs0 k (fun r27 h25 kk => ?_)
        obtain ⟨w26, k⟩ := kk
        refine aw_iconst (v := (-1)) d_X12_complain_99 ic_m1 ?_
        refine aw_icmp_ne (tgt := 107) d_X12_complain_100 rfl (fun c28 => ?_) (fun c28 => ?_)
        · have k := k.1 c28
          refine aw_iconst (v := 0) d_X12_complain_107 ic_0 ?_
          refine aw_istore [(0, .ref 1), (1, .int x1), (2, .int x2), (4, .int x4), (5, .int 0), (6, .int x6)] d_X12_complain_108 (Nat.le_of_ble_eq_true rfl) rfl rfl ?_
          refine aw_iinc (v := (x6 + 1)) [(0, .ref 1), (1, .int x1), (2, .int x2), (4, .int x4), (5, .int 0), (6, .int (x6 + 1))] d_X12_complain_110 5 rfl rfl (Nat.le_of_ble_eq_true rfl) rfl rfl ?_
          refine aw_goto (tgt := 67) d_X12_complain_113 rfl ?_
          exact k
        · have k := k.2 c28
          refine aw_iconst (v := 1) d_X12_complain_103 ic_1 ?_
          refine aw_goto (tgt := 108) d_X12_complain_104 rfl ?_
          refine aw_istore [(0, .ref 1), (1, .int x1), (2, .int x2), (4, .int x4), (5, .int 1), (6, .int x6)] d_X12_complain_108 (Nat.le_of_ble_eq_true rfl) rfl rfl ?_
          refine aw_iinc (v := (x6 + 1)) [(0, .ref 1), (1, .int x1), (2, .int x2), (4, .int x4), (5, .int 1), (6, .int (x6 + 1))] d_X12_complain_110 5 rfl rfl (Nat.le_of_ble_eq_true rfl) rfl rfl ?_
          refine aw_goto (tgt := 67) d_X12_complain_113 rfl ?_
          exact k
    · have k := k.2 c23
      refine aw_iconst (v := 1) d_X12_complain_85 ic_1 ?_
      exact aw_iret rfl d_X12_complain_86 ⟨Nat.le_refl _, Nat.le_refl _⟩ ⟨_, rfl, k⟩
theorem t_X12_find (d : Nat) (h : Hp_) (w : Wf h) (x1 : Int32) (x2 : Int32) (x3 : Int32) (x4 : Int32) (x5 : Int32) (K : Int32 → Hp_ → Prop) (k : (¬ (0 ≤ x1 ∧ x1 ≤ 9) → K (-1) h) ∧ ((0 ≤ x1 ∧ x1 ≤ 9) → (¬ (0 ≤ x2 ∧ x2 ≤ 15) → K (-1) h) ∧ ((0 ≤ x2 ∧ x2 ≤ 15) → (¬ (0 ≤ x3 ∧ x3 ≤ 20000) → K (-1) h) ∧ ((0 ≤ x3 ∧ x3 ≤ 20000) → (¬ (x3 ≤ x4 ∧ x4 ≤ 20000) → K (-1) h) ∧ ((x3 ≤ x4 ∧ x4 ≤ 20000) → (¬ (1 ≤ x5 ∧ x5 ≤ 9) → K (-1) h) ∧ ((1 ≤ x5 ∧ x5 ≤ 9) → (¬ (h_i h 1 79) = 80 → vp_in (h_i h 1 79) 80 ∧ (vp_in (h_i h 1 79) 80 ∧ (vp_in (h_i h 1 79) 80 ∧ (vp_in (h_i h 1 79) 80 ∧ (vp_in (h_i h 1 79) 80 ∧ (K (((h_i h 1 79) + 1) - 1) (h_im (h_im (h_im (h_im (h_im (h_im h 249 ((h_i h 1 79) : Int32).toNatClampNeg x1) 250 ((h_i h 1 79) : Int32).toNatClampNeg x2) 251 ((h_i h 1 79) : Int32).toNatClampNeg x3) 252 ((h_i h 1 79) : Int32).toNatClampNeg x4) 253 ((h_i h 1 79) : Int32).toNatClampNeg x5) 1 79 ((h_i h 1 79) + 1)))))))) ∧ ((h_i h 1 79) = 80 → K (-1) h))))))) : Ci (m_X12_find (d + 2) 0 0) [.ref 1, .int x1, .int x2, .int x3, .int x4, .int x5] h K := by
  refine Ct.of (fun _ _ _ => trivial) rfl (Nat.le_of_ble_eq_true rfl) ?_
  show AW (m_X12_find (d + 2) 0 0) 0 0 0 [(0, .ref 1), (1, .int x1), (2, .int x2), (3, .int x3), (4, .int x4), (5, .int x5)] [] h (kI K)
  refine aw_iload_n (i := 1) rfl d_X12_find_0 1 rfl ?_
  refine aw_iconst (v := 0) d_X12_find_1 ic_0 ?_
  refine aw_bipush (v := 9) d_X12_find_2 ib_9 ?_
  refine aw_Si [.int x1, .int 0, .int 9] [] d_X12_find_4 (cS_X12_in (d + 0) 0 0) tw_2147 rfl (rr0 (Nat.le_of_ble_eq_true rfl) (Nat.le_of_ble_eq_true rfl)) (Nat.le_of_ble_eq_true rfl) xs0 (s_X12_in _ _ x1 0 9) (fun _ _ kk => ?_)
  obtain ⟨e1, e2⟩ := kk
  rw [e1, e2]
  refine aw_ifb_eq (tgt := 60) d_X12_find_7 rfl (fun c3 => ?_) (fun c3 => ?_)
  · have k := k.1 c3
    refine aw_iconst (v := (-1)) d_X12_find_60 ic_m1 ?_
    exact aw_iret rfl d_X12_find_61 ⟨Nat.le_refl _, Nat.le_refl _⟩ ⟨_, rfl, k⟩
  · have k := k.2 c3
    refine aw_iload_n (i := 2) rfl d_X12_find_10 2 rfl ?_
    refine aw_Si [.int x2] [] d_X12_find_11 (cS_X12_isPlace (d + 1) 0 0) tw_2144 rfl (rr0 (Nat.le_of_ble_eq_true rfl) (Nat.le_of_ble_eq_true rfl)) (Nat.le_of_ble_eq_true rfl) xs0 (s_X12_isPlace _ _ x2) (fun _ _ kk => ?_)
    obtain ⟨e4, e5⟩ := kk
    rw [e4, e5]
    refine aw_ifb_eq (tgt := 60) d_X12_find_14 rfl (fun c6 => ?_) (fun c6 => ?_)
    · have k := k.1 c6
      refine aw_iconst (v := (-1)) d_X12_find_60 ic_m1 ?_
      exact aw_iret rfl d_X12_find_61 ⟨Nat.le_refl _, Nat.le_refl _⟩ ⟨_, rfl, k⟩
    · have k := k.2 c6
      refine aw_iload_n (i := 3) rfl d_X12_find_17 3 rfl ?_
      refine aw_iconst (v := 0) d_X12_find_18 ic_0 ?_
      refine aw_sipush (v := 20000) d_X12_find_19 is_20000 ?_
      refine aw_Si [.int x3, .int 0, .int 20000] [] d_X12_find_22 (cS_X12_in (d + 0) 0 0) tw_2147 rfl (rr0 (Nat.le_of_ble_eq_true rfl) (Nat.le_of_ble_eq_true rfl)) (Nat.le_of_ble_eq_true rfl) xs0 (s_X12_in _ _ x3 0 20000) (fun _ _ kk => ?_)
      obtain ⟨e7, e8⟩ := kk
      rw [e7, e8]
      refine aw_ifb_eq (tgt := 60) d_X12_find_25 rfl (fun c9 => ?_) (fun c9 => ?_)
      · have k := k.1 c9
        refine aw_iconst (v := (-1)) d_X12_find_60 ic_m1 ?_
        exact aw_iret rfl d_X12_find_61 ⟨Nat.le_refl _, Nat.le_refl _⟩ ⟨_, rfl, k⟩
      · have k := k.2 c9
        refine aw_iload d_X12_find_28 4 rfl ?_
        refine aw_iload_n (i := 3) rfl d_X12_find_30 3 rfl ?_
        refine aw_sipush (v := 20000) d_X12_find_31 is_20000 ?_
        refine aw_Si [.int x4, .int x3, .int 20000] [] d_X12_find_34 (cS_X12_in (d + 0) 0 0) tw_2147 rfl (rr0 (Nat.le_of_ble_eq_true rfl) (Nat.le_of_ble_eq_true rfl)) (Nat.le_of_ble_eq_true rfl) xs0 (s_X12_in _ _ x4 x3 20000) (fun _ _ kk => ?_)
        obtain ⟨e10, e11⟩ := kk
        rw [e10, e11]
        refine aw_ifb_eq (tgt := 60) d_X12_find_37 rfl (fun c12 => ?_) (fun c12 => ?_)
        · have k := k.1 c12
          refine aw_iconst (v := (-1)) d_X12_find_60 ic_m1 ?_
          exact aw_iret rfl d_X12_find_61 ⟨Nat.le_refl _, Nat.le_refl _⟩ ⟨_, rfl, k⟩
        · have k := k.2 c12
          refine aw_iload d_X12_find_40 5 rfl ?_
          refine aw_iconst (v := 1) d_X12_find_42 ic_1 ?_
          refine aw_bipush (v := 9) d_X12_find_43 ib_9 ?_
          refine aw_Si [.int x5, .int 1, .int 9] [] d_X12_find_45 (cS_X12_in (d + 0) 0 0) tw_2147 rfl (rr0 (Nat.le_of_ble_eq_true rfl) (Nat.le_of_ble_eq_true rfl)) (Nat.le_of_ble_eq_true rfl) xs0 (s_X12_in _ _ x5 1 9) (fun _ _ kk => ?_)
          obtain ⟨e13, e14⟩ := kk
          rw [e13, e14]
          refine aw_ifb_eq (tgt := 60) d_X12_find_48 rfl (fun c15 => ?_) (fun c15 => ?_)
          · have k := k.1 c15
            refine aw_iconst (v := (-1)) d_X12_find_60 ic_m1 ?_
            exact aw_iret rfl d_X12_find_61 ⟨Nat.le_refl _, Nat.le_refl _⟩ ⟨_, rfl, k⟩
          · have k := k.2 c15
            refine aw_aload_n (i := 0) rfl d_X12_find_51 0 rfl ?_
            refine aw_geti (k0 := 79) kc_12 (ws_1 w) (Nat.le_of_ble_eq_true rfl) tw_1821 d_X12_find_52 rfl ?_
            refine aw_bipush (v := 80) d_X12_find_55 ib_80 ?_
            refine aw_icmp_ne (tgt := 62) d_X12_find_57 rfl (fun c16 => ?_) (fun c16 => ?_)
            · have k := k.1 c16
              refine aw_aload_n (i := 0) rfl d_X12_find_62 0 rfl ?_
              refine aw_getr (k0 := 66) kc_12 (ws_1 w) (Nat.le_of_ble_eq_true rfl) tw_1808 d_X12_find_63 rfl (wr_1_66 w) ?_
              refine aw_aload_n (i := 0) rfl d_X12_find_66 0 rfl ?_
              refine aw_geti (k0 := 79) kc_12 (ws_1 w) (Nat.le_of_ble_eq_true rfl) tw_1821 d_X12_find_67 rfl ?_
              refine aw_iload_n (i := 1) rfl d_X12_find_70 1 rfl ?_
              obtain ⟨b17, k⟩ := k
              refine aw_iast (ws_249 w) b17 d_X12_find_71 ?_
              refine aw_aload_n (i := 0) rfl d_X12_find_72 0 rfl ?_
              refine aw_getr (k0 := 67) kc_12 (ws_1 w) (Nat.le_of_ble_eq_true rfl) tw_1809 d_X12_find_73 rfl (wr_1_67 w) ?_
              refine aw_aload_n (i := 0) rfl d_X12_find_76 0 rfl ?_
              refine aw_geti (k0 := 79) kc_12 (ws_1 w) (Nat.le_of_ble_eq_true rfl) tw_1821 d_X12_find_77 rfl ?_
              refine aw_vi (v2 := (h_i h 1 79)) (rfl) ?_
              refine aw_iload_n (i := 2) rfl d_X12_find_80 2 rfl ?_
              obtain ⟨b18, k⟩ := k
              refine aw_iast (ws_250 w) b18 d_X12_find_81 ?_
              refine aw_aload_n (i := 0) rfl d_X12_find_82 0 rfl ?_
              refine aw_getr (k0 := 68) kc_12 (ws_1 w) (Nat.le_of_ble_eq_true rfl) tw_1810 d_X12_find_83 rfl (wr_1_68 w) ?_
              refine aw_aload_n (i := 0) rfl d_X12_find_86 0 rfl ?_
              refine aw_geti (k0 := 79) kc_12 (ws_1 w) (Nat.le_of_ble_eq_true rfl) tw_1821 d_X12_find_87 rfl ?_
              refine aw_vi (v2 := (h_i h 1 79)) (rfl) ?_
              refine aw_iload_n (i := 3) rfl d_X12_find_90 3 rfl ?_
              obtain ⟨b19, k⟩ := k
              refine aw_iast (ws_251 w) b19 d_X12_find_91 ?_
              refine aw_aload_n (i := 0) rfl d_X12_find_92 0 rfl ?_
              refine aw_getr (k0 := 69) kc_12 (ws_1 w) (Nat.le_of_ble_eq_true rfl) tw_1811 d_X12_find_93 rfl (wr_1_69 w) ?_
              refine aw_aload_n (i := 0) rfl d_X12_find_96 0 rfl ?_
              refine aw_geti (k0 := 79) kc_12 (ws_1 w) (Nat.le_of_ble_eq_true rfl) tw_1821 d_X12_find_97 rfl ?_
              refine aw_vi (v2 := (h_i h 1 79)) (rfl) ?_
              refine aw_iload d_X12_find_100 4 rfl ?_
              obtain ⟨b20, k⟩ := k
              refine aw_iast (ws_252 w) b20 d_X12_find_102 ?_
              refine aw_aload_n (i := 0) rfl d_X12_find_103 0 rfl ?_
              refine aw_getr (k0 := 70) kc_12 (ws_1 w) (Nat.le_of_ble_eq_true rfl) tw_1812 d_X12_find_104 rfl (wr_1_70 w) ?_
              refine aw_aload_n (i := 0) rfl d_X12_find_107 0 rfl ?_
              refine aw_geti (k0 := 79) kc_12 (ws_1 w) (Nat.le_of_ble_eq_true rfl) tw_1821 d_X12_find_108 rfl ?_
              refine aw_vi (v2 := (h_i h 1 79)) (rfl) ?_
              refine aw_iload d_X12_find_111 5 rfl ?_
              obtain ⟨b21, k⟩ := k
              refine aw_iast (ws_253 w) b21 d_X12_find_113 ?_
              refine aw_aload_n (i := 0) rfl d_X12_find_114 0 rfl ?_
              refine aw_dup d_X12_find_115 rfl ?_
              refine aw_geti (k0 := 79) kc_12 (ws_1 w) (Nat.le_of_ble_eq_true rfl) tw_1821 d_X12_find_116 rfl ?_
              refine aw_vi (v2 := (h_i h 1 79)) (rfl) ?_
              refine aw_iconst (v := 1) d_X12_find_119 ic_1 ?_
              refine aw_iadd d_X12_find_120 ?_
              refine aw_puti (k0 := 79) kc_12 (ws_1 w) (Nat.le_of_ble_eq_true rfl) tw_1821 d_X12_find_121 rfl rfl nf_i ?_
              refine aw_aload_n (i := 0) rfl d_X12_find_124 0 rfl ?_
              refine aw_geti (k0 := 79) kc_12 (ws_1 w) (Nat.le_of_ble_eq_true rfl) tw_1821 d_X12_find_125 rfl ?_
              refine aw_vi (v2 := ((h_i h 1 79) + 1)) (rfl) ?_
              refine aw_iconst (v := 1) d_X12_find_128 ic_1 ?_
              refine aw_isub d_X12_find_129 ?_
              exact aw_iret rfl d_X12_find_130 ⟨Nat.le_refl _, Nat.le_refl _⟩ ⟨_, rfl, k⟩
            · have k := k.2 c16
              refine aw_iconst (v := (-1)) d_X12_find_60 ic_m1 ?_
              exact aw_iret rfl d_X12_find_61 ⟨Nat.le_refl _, Nat.le_refl _⟩ ⟨_, rfl, k⟩
theorem t_X12_heard (d : Nat) (h : Hp_) (w : Wf h) (x1 : Int32) (K : Int32 → Hp_ → Prop) (k : ((0 ≤ x1 ∧ x1 ≤ (h_i h 1 0)) → AW (m_X12_heard (d + 2) 0 0) 0 0 14 [(0, .ref 1), (1, .int x1), (2, .int 0), (3, .int 0)] [] h (kI K)) ∧ (¬ (0 ≤ x1 ∧ x1 ≤ (h_i h 1 0)) → K (-1) h)) : Ci (m_X12_heard (d + 2) 0 0) [.ref 1, .int x1] h K := by
  refine Ct.of (fun _ _ _ => trivial) rfl (Nat.le_of_ble_eq_true rfl) ?_
  show AW (m_X12_heard (d + 2) 0 0) 0 0 0 [(0, .ref 1), (1, .int x1)] [] h (kI K)
  refine aw_aload_n (i := 0) rfl d_X12_heard_0 0 rfl ?_
  refine aw_iload_n (i := 1) rfl d_X12_heard_1 1 rfl ?_
  refine aw_Vi 1 [.int x1] [] d_X12_heard_2 (cV_X12_isKnowing (d + 1) 0 0) kc_12 (ws_1 w) tw_2175 rfl (rr0 (Nat.le_of_ble_eq_true rfl) (Nat.le_of_ble_eq_true rfl)) (Nat.le_of_ble_eq_true rfl) xs0 (s_X12_isKnowing _ _ w x1) (fun _ _ kk => ?_)
  obtain ⟨e1, e2⟩ := kk
  rw [e1, e2]
  refine aw_ifb_ne (tgt := 10) d_X12_heard_5 rfl (fun c3 => ?_) (fun c3 => ?_)
  · have k := k.1 c3
    refine aw_iconst (v := 0) d_X12_heard_10 ic_0 ?_
    refine aw_istore_n (i := 2) rfl [(0, .ref 1), (1, .int x1), (2, .int 0)] d_X12_heard_11 (Nat.le_of_ble_eq_true rfl) rfl rfl ?_
    refine aw_iconst (v := 0) d_X12_heard_12 ic_0 ?_
    refine aw_istore_n (i := 3) rfl [(0, .ref 1), (1, .int x1), (2, .int 0), (3, .int 0)] d_X12_heard_13 (Nat.le_of_ble_eq_true rfl) rfl rfl ?_
    exact k
  · have k := k.2 c3
    refine aw_iconst (v := (-1)) d_X12_heard_8 ic_m1 ?_
    exact aw_iret rfl d_X12_heard_9 ⟨Nat.le_refl _, Nat.le_refl _⟩ ⟨_, rfl, k⟩
theorem t_X12_heard_14 (d : Nat) (h : Hp_) (w : Wf h) (x1 : Int32) (x2 : Int32) (x3 : Int32) (K : Int32 → Hp_ → Prop) (k : ((h_i h 1 80) ≤ x3 → K x2 h) ∧ (¬ (h_i h 1 80) ≤ x3 → vp_in x3 300 ∧ (((h_i h 260 x3.toNatClampNeg) = (-1) → AW (m_X12_heard (d + 2) 0 0) 0 0 14 [(0, .ref 1), (1, .int x1), (2, .int (x2 + 0)), (3, .int (x3 + 1))] [] h (kI K)) ∧ (¬ (h_i h 260 x3.toNatClampNeg) = (-1) → vp_in x3 300 ∧ ((x1 < (h_i h 260 x3.toNatClampNeg) → AW (m_X12_heard (d + 2) 0 0) 0 0 14 [(0, .ref 1), (1, .int x1), (2, .int (x2 + 0)), (3, .int (x3 + 1))] [] h (kI K)) ∧ (¬ x1 < (h_i h 260 x3.toNatClampNeg) → AW (m_X12_heard (d + 2) 0 0) 0 0 14 [(0, .ref 1), (1, .int x1), (2, .int (x2 + 1)), (3, .int (x3 + 1))] [] h (kI K))))))) : AW (m_X12_heard (d + 2) 0 0) 0 0 14 [(0, .ref 1), (1, .int x1), (2, .int x2), (3, .int x3)] [] h (kI K) := by
  refine aw_iload_n (i := 3) rfl d_X12_heard_14 3 rfl ?_
  refine aw_aload_n (i := 0) rfl d_X12_heard_15 0 rfl ?_
  refine aw_geti (k0 := 80) kc_12 (ws_1 w) (Nat.le_of_ble_eq_true rfl) tw_1822 d_X12_heard_16 rfl ?_
  refine aw_icmp_ge (tgt := 56) d_X12_heard_19 rfl (fun c4 => ?_) (fun c4 => ?_)
  · have k := k.1 c4
    refine aw_iload_n (i := 2) rfl d_X12_heard_56 2 rfl ?_
    exact aw_iret rfl d_X12_heard_57 ⟨Nat.le_refl _, Nat.le_refl _⟩ ⟨_, rfl, k⟩
  · have k := k.2 c4
    refine aw_iload_n (i := 2) rfl d_X12_heard_22 2 rfl ?_
    refine aw_aload_n (i := 0) rfl d_X12_heard_23 0 rfl ?_
    refine aw_getr (k0 := 77) kc_12 (ws_1 w) (Nat.le_of_ble_eq_true rfl) tw_1819 d_X12_heard_24 rfl (wr_1_77 w) ?_
    refine aw_iload_n (i := 3) rfl d_X12_heard_27 3 rfl ?_
    obtain ⟨b5, k⟩ := k
    refine aw_iald (ws_260 w) b5 d_X12_heard_28 ?_
    refine aw_iconst (v := (-1)) d_X12_heard_29 ic_m1 ?_
    refine aw_icmp_eq (tgt := 47) d_X12_heard_30 rfl (fun c6 => ?_) (fun c6 => ?_)
    · have k := k.1 c6
      refine aw_iconst (v := 0) d_X12_heard_47 ic_0 ?_
      refine aw_iadd d_X12_heard_48 ?_
      refine aw_istore_n (i := 2) rfl [(0, .ref 1), (1, .int x1), (2, .int (x2 + 0)), (3, .int x3)] d_X12_heard_49 (Nat.le_of_ble_eq_true rfl) rfl rfl ?_
      refine aw_iinc (v := (x3 + 1)) [(0, .ref 1), (1, .int x1), (2, .int (x2 + 0)), (3, .int (x3 + 1))] d_X12_heard_50 3 rfl rfl (Nat.le_of_ble_eq_true rfl) rfl rfl ?_
      refine aw_goto (tgt := 14) d_X12_heard_53 rfl ?_
      exact k
    · have k := k.2 c6
      refine aw_aload_n (i := 0) rfl d_X12_heard_33 0 rfl ?_
      refine aw_getr (k0 := 77) kc_12 (ws_1 w) (Nat.le_of_ble_eq_true rfl) tw_1819 d_X12_heard_34 rfl (wr_1_77 w) ?_
      refine aw_iload_n (i := 3) rfl d_X12_heard_37 3 rfl ?_
      obtain ⟨b7, k⟩ := k
      refine aw_iald (ws_260 w) b7 d_X12_heard_38 ?_
      refine aw_iload_n (i := 1) rfl d_X12_heard_39 1 rfl ?_
      refine aw_icmp_gt (tgt := 47) d_X12_heard_40 rfl (fun c8 => ?_) (fun c8 => ?_)
      · have k := k.1 c8
        refine aw_iconst (v := 0) d_X12_heard_47 ic_0 ?_
        refine aw_iadd d_X12_heard_48 ?_
        refine aw_istore_n (i := 2) rfl [(0, .ref 1), (1, .int x1), (2, .int (x2 + 0)), (3, .int x3)] d_X12_heard_49 (Nat.le_of_ble_eq_true rfl) rfl rfl ?_
        refine aw_iinc (v := (x3 + 1)) [(0, .ref 1), (1, .int x1), (2, .int (x2 + 0)), (3, .int (x3 + 1))] d_X12_heard_50 3 rfl rfl (Nat.le_of_ble_eq_true rfl) rfl rfl ?_
        refine aw_goto (tgt := 14) d_X12_heard_53 rfl ?_
        exact k
      · have k := k.2 c8
        refine aw_iconst (v := 1) d_X12_heard_43 ic_1 ?_
        refine aw_goto (tgt := 48) d_X12_heard_44 rfl ?_
        refine aw_iadd d_X12_heard_48 ?_
        refine aw_istore_n (i := 2) rfl [(0, .ref 1), (1, .int x1), (2, .int (x2 + 1)), (3, .int x3)] d_X12_heard_49 (Nat.le_of_ble_eq_true rfl) rfl rfl ?_
        refine aw_iinc (v := (x3 + 1)) [(0, .ref 1), (1, .int x1), (2, .int (x2 + 1)), (3, .int (x3 + 1))] d_X12_heard_50 3 rfl rfl (Nat.le_of_ble_eq_true rfl) rfl rfl ?_
        refine aw_goto (tgt := 14) d_X12_heard_53 rfl ?_
        exact k
theorem t_X12_state (d : Nat) (h : Hp_) (w : Wf h) (x1 : Int32) (x2 : Int32) (x3 : Int32) (x4 : Int32) (K : Int32 → Hp_ → Prop) (k : (¬ (0 ≤ x1 ∧ x1 ≤ (h_i h 1 96) - 1) → K (-1) h) ∧ ((0 ≤ x1 ∧ x1 ≤ (h_i h 1 96) - 1) → (¬ (0 ≤ x2 ∧ x2 ≤ 7) → K (-1) h) ∧ ((0 ≤ x2 ∧ x2 ≤ 7) → (¬ (0 ≤ x3 ∧ x3 ≤ 15) → K (-1) h) ∧ ((0 ≤ x3 ∧ x3 ≤ 15) → vp_in x3 16 ∧ ((¬ (h_i h 272 x3.toNatClampNeg) = 0 → K (-1) h) ∧ ((h_i h 272 x3.toNatClampNeg) = 0 → (¬ (h_i h 1 97) = 200 → vp_in (h_i h 1 97) 200 ∧ (vp_in (h_i h 1 97) 200 ∧ (vp_in (h_i h 1 97) 200 ∧ (vp_in (h_i h 1 97) 200 ∧ (vp_in (h_i h 1 97) 200 ∧ (K (((h_i h 1 97) + 1) - 1) (h_im (h_im (h_im (h_im (h_im (h_im h 266 ((h_i h 1 97) : Int32).toNatClampNeg x1) 267 ((h_i h 1 97) : Int32).toNatClampNeg x2) 268 ((h_i h 1 97) : Int32).toNatClampNeg x3) 270 ((h_i h 1 97) : Int32).toNatClampNeg (vp_nar .boolean x4)) 269 ((h_i h 1 97) : Int32).toNatClampNeg (h_i h 1 0)) 1 97 ((h_i h 1 97) + 1)))))))) ∧ ((h_i h 1 97) = 200 → K (-1) h))))))) : Ci (m_X12_state (d + 2) 0 0) [.ref 1, .int x1, .int x2, .int x3, .int x4] h K := by
  refine Ct.of (fun _ _ _ => trivial) rfl (Nat.le_of_ble_eq_true rfl) ?_
  show AW (m_X12_state (d + 2) 0 0) 0 0 0 [(0, .ref 1), (1, .int x1), (2, .int x2), (3, .int x3), (4, .int x4)] [] h (kI K)
  refine aw_aload_n (i := 0) rfl d_X12_state_0 0 rfl ?_
  refine aw_iload_n (i := 1) rfl d_X12_state_1 1 rfl ?_
  refine aw_Vi 1 [.int x1] [] d_X12_state_2 (cV_X12_isCase (d + 1) 0 0) kc_12 (ws_1 w) tw_2507 rfl (rr0 (Nat.le_of_ble_eq_true rfl) (Nat.le_of_ble_eq_true rfl)) (Nat.le_of_ble_eq_true rfl) xs0 (s_X12_isCase _ _ w x1) (fun _ _ kk => ?_)
  obtain ⟨e1, e2⟩ := kk
  rw [e1, e2]
  refine aw_ifb_eq (tgt := 47) d_X12_state_5 rfl (fun c3 => ?_) (fun c3 => ?_)
  · have k := k.1 c3
    refine aw_iconst (v := (-1)) d_X12_state_47 ic_m1 ?_
    exact aw_iret rfl d_X12_state_48 ⟨Nat.le_refl _, Nat.le_refl _⟩ ⟨_, rfl, k⟩
  · have k := k.2 c3
    refine aw_iload_n (i := 2) rfl d_X12_state_8 2 rfl ?_
    refine aw_iconst (v := 0) d_X12_state_9 ic_0 ?_
    refine aw_bipush (v := 7) d_X12_state_10 ib_7 ?_
    refine aw_Si [.int x2, .int 0, .int 7] [] d_X12_state_12 (cS_X12_in (d + 0) 0 0) tw_2147 rfl (rr0 (Nat.le_of_ble_eq_true rfl) (Nat.le_of_ble_eq_true rfl)) (Nat.le_of_ble_eq_true rfl) xs0 (s_X12_in _ _ x2 0 7) (fun _ _ kk => ?_)
    obtain ⟨e4, e5⟩ := kk
    rw [e4, e5]
    refine aw_ifb_eq (tgt := 47) d_X12_state_15 rfl (fun c6 => ?_) (fun c6 => ?_)
    · have k := k.1 c6
      refine aw_iconst (v := (-1)) d_X12_state_47 ic_m1 ?_
      exact aw_iret rfl d_X12_state_48 ⟨Nat.le_refl _, Nat.le_refl _⟩ ⟨_, rfl, k⟩
    · have k := k.2 c6
      refine aw_iload_n (i := 3) rfl d_X12_state_18 3 rfl ?_
      refine aw_iconst (v := 0) d_X12_state_19 ic_0 ?_
      refine aw_bipush (v := 15) d_X12_state_20 ib_15 ?_
      refine aw_Si [.int x3, .int 0, .int 15] [] d_X12_state_22 (cS_X12_in (d + 0) 0 0) tw_2147 rfl (rr0 (Nat.le_of_ble_eq_true rfl) (Nat.le_of_ble_eq_true rfl)) (Nat.le_of_ble_eq_true rfl) xs0 (s_X12_in _ _ x3 0 15) (fun _ _ kk => ?_)
      obtain ⟨e7, e8⟩ := kk
      rw [e7, e8]
      refine aw_ifb_eq (tgt := 47) d_X12_state_25 rfl (fun c9 => ?_) (fun c9 => ?_)
      · have k := k.1 c9
        refine aw_iconst (v := (-1)) d_X12_state_47 ic_m1 ?_
        exact aw_iret rfl d_X12_state_48 ⟨Nat.le_refl _, Nat.le_refl _⟩ ⟨_, rfl, k⟩
      · have k := k.2 c9
        refine aw_aload_n (i := 0) rfl d_X12_state_28 0 rfl ?_
        refine aw_getr (k0 := 91) kc_12 (ws_1 w) (Nat.le_of_ble_eq_true rfl) tw_1833 d_X12_state_29 rfl (wr_1_91 w) ?_
        refine aw_iload_n (i := 3) rfl d_X12_state_32 3 rfl ?_
        obtain ⟨b10, k⟩ := k
        refine aw_zald (ws_272 w) b10 d_X12_state_33 ?_
        refine aw_if_ne (tgt := 47) d_X12_state_34 rfl (fun c11 => ?_) (fun c11 => ?_)
        · have k := k.1 c11
          refine aw_iconst (v := (-1)) d_X12_state_47 ic_m1 ?_
          exact aw_iret rfl d_X12_state_48 ⟨Nat.le_refl _, Nat.le_refl _⟩ ⟨_, rfl, k⟩
        · have k := k.2 c11
          refine aw_aload_n (i := 0) rfl d_X12_state_37 0 rfl ?_
          refine aw_geti (k0 := 97) kc_12 (ws_1 w) (Nat.le_of_ble_eq_true rfl) tw_1839 d_X12_state_38 rfl ?_
          refine aw_sipush (v := 200) d_X12_state_41 is_200 ?_
          refine aw_icmp_ne (tgt := 49) d_X12_state_44 rfl (fun c12 => ?_) (fun c12 => ?_)
          · have k := k.1 c12
            refine aw_aload_n (i := 0) rfl d_X12_state_49 0 rfl ?_
            refine aw_getr (k0 := 85) kc_12 (ws_1 w) (Nat.le_of_ble_eq_true rfl) tw_1827 d_X12_state_50 rfl (wr_1_85 w) ?_
            refine aw_aload_n (i := 0) rfl d_X12_state_53 0 rfl ?_
            refine aw_geti (k0 := 97) kc_12 (ws_1 w) (Nat.le_of_ble_eq_true rfl) tw_1839 d_X12_state_54 rfl ?_
            refine aw_iload_n (i := 1) rfl d_X12_state_57 1 rfl ?_
            obtain ⟨b13, k⟩ := k
            refine aw_iast (ws_266 w) b13 d_X12_state_58 ?_
            refine aw_aload_n (i := 0) rfl d_X12_state_59 0 rfl ?_
            refine aw_getr (k0 := 86) kc_12 (ws_1 w) (Nat.le_of_ble_eq_true rfl) tw_1828 d_X12_state_60 rfl (wr_1_86 w) ?_
            refine aw_aload_n (i := 0) rfl d_X12_state_63 0 rfl ?_
            refine aw_geti (k0 := 97) kc_12 (ws_1 w) (Nat.le_of_ble_eq_true rfl) tw_1839 d_X12_state_64 rfl ?_
            refine aw_vi (v2 := (h_i h 1 97)) (rfl) ?_
            refine aw_iload_n (i := 2) rfl d_X12_state_67 2 rfl ?_
            obtain ⟨b14, k⟩ := k
            refine aw_iast (ws_267 w) b14 d_X12_state_68 ?_
            refine aw_aload_n (i := 0) rfl d_X12_state_69 0 rfl ?_
            refine aw_getr (k0 := 87) kc_12 (ws_1 w) (Nat.le_of_ble_eq_true rfl) tw_1829 d_X12_state_70 rfl (wr_1_87 w) ?_
            refine aw_aload_n (i := 0) rfl d_X12_state_73 0 rfl ?_
            refine aw_geti (k0 := 97) kc_12 (ws_1 w) (Nat.le_of_ble_eq_true rfl) tw_1839 d_X12_state_74 rfl ?_
            refine aw_vi (v2 := (h_i h 1 97)) (rfl) ?_
            refine aw_iload_n (i := 3) rfl d_X12_state_77 3 rfl ?_
            obtain ⟨b15, k⟩ := k
            refine aw_iast (ws_268 w) b15 d_X12_state_78 ?_
            refine aw_aload_n (i := 0) rfl d_X12_state_79 0 rfl ?_
            refine aw_getr (k0 := 89) kc_12 (ws_1 w) (Nat.le_of_ble_eq_true rfl) tw_1831 d_X12_state_80 rfl (wr_1_89 w) ?_
            refine aw_aload_n (i := 0) rfl d_X12_state_83 0 rfl ?_
            refine aw_geti (k0 := 97) kc_12 (ws_1 w) (Nat.le_of_ble_eq_true rfl) tw_1839 d_X12_state_84 rfl ?_
            refine aw_vi (v2 := (h_i h 1 97)) (rfl) ?_
            refine aw_iload d_X12_state_87 4 rfl ?_
            obtain ⟨b16, k⟩ := k
            refine aw_zast (ws_270 w) b16 d_X12_state_89 ?_
            refine aw_aload_n (i := 0) rfl d_X12_state_90 0 rfl ?_
            refine aw_getr (k0 := 88) kc_12 (ws_1 w) (Nat.le_of_ble_eq_true rfl) tw_1830 d_X12_state_91 rfl (wr_1_88 w) ?_
            refine aw_aload_n (i := 0) rfl d_X12_state_94 0 rfl ?_
            refine aw_geti (k0 := 97) kc_12 (ws_1 w) (Nat.le_of_ble_eq_true rfl) tw_1839 d_X12_state_95 rfl ?_
            refine aw_vi (v2 := (h_i h 1 97)) (rfl) ?_
            refine aw_aload_n (i := 0) rfl d_X12_state_98 0 rfl ?_
            refine aw_geti (k0 := 0) kc_12 (ws_1 w) (Nat.le_of_ble_eq_true rfl) tw_1742 d_X12_state_99 rfl ?_
            refine aw_vi (v2 := (h_i h 1 0)) (rfl) ?_
            obtain ⟨b17, k⟩ := k
            refine aw_iast (ws_269 w) b17 d_X12_state_102 ?_
            refine aw_aload_n (i := 0) rfl d_X12_state_103 0 rfl ?_
            refine aw_dup d_X12_state_104 rfl ?_
            refine aw_geti (k0 := 97) kc_12 (ws_1 w) (Nat.le_of_ble_eq_true rfl) tw_1839 d_X12_state_105 rfl ?_
            refine aw_vi (v2 := (h_i h 1 97)) (rfl) ?_
            refine aw_iconst (v := 1) d_X12_state_108 ic_1 ?_
            refine aw_iadd d_X12_state_109 ?_
            refine aw_puti (k0 := 97) kc_12 (ws_1 w) (Nat.le_of_ble_eq_true rfl) tw_1839 d_X12_state_110 rfl rfl nf_i ?_
            refine aw_aload_n (i := 0) rfl d_X12_state_113 0 rfl ?_
            refine aw_geti (k0 := 97) kc_12 (ws_1 w) (Nat.le_of_ble_eq_true rfl) tw_1839 d_X12_state_114 rfl ?_
            refine aw_vi (v2 := ((h_i h 1 97) + 1)) (rfl) ?_
            refine aw_iconst (v := 1) d_X12_state_117 ic_1 ?_
            refine aw_isub d_X12_state_118 ?_
            exact aw_iret rfl d_X12_state_119 ⟨Nat.le_refl _, Nat.le_refl _⟩ ⟨_, rfl, k⟩
          · have k := k.2 c12
            refine aw_iconst (v := (-1)) d_X12_state_47 ic_m1 ?_
            exact aw_iret rfl d_X12_state_48 ⟨Nat.le_refl _, Nat.le_refl _⟩ ⟨_, rfl, k⟩
theorem t_X12_isOpen (d : Nat) (h : Hp_) (w : Wf h) (x1 : Int32) (x2 : Int32) (K : Int32 → Hp_ → Prop) (k : (¬ (0 ≤ x1 ∧ x1 ≤ (h_i h 1 96) - 1) → K 0 h) ∧ ((0 ≤ x1 ∧ x1 ≤ (h_i h 1 96) - 1) → (¬ (0 ≤ x2 ∧ x2 ≤ (h_i h 1 0)) → K 0 h) ∧ ((0 ≤ x2 ∧ x2 ≤ (h_i h 1 0)) → vp_in x1 30 ∧ ((x2 < (h_i h 263 x1.toNatClampNeg) → K 0 h) ∧ (¬ x2 < (h_i h 263 x1.toNatClampNeg) → K 1 h))))) : Ci (m_X12_isOpen (d + 2) 0 0) [.ref 1, .int x1, .int x2] h K := by
  refine Ct.of (fun _ _ _ => trivial) rfl (Nat.le_of_ble_eq_true rfl) ?_
  show AW (m_X12_isOpen (d + 2) 0 0) 0 0 0 [(0, .ref 1), (1, .int x1), (2, .int x2)] [] h (kI K)
  refine aw_aload_n (i := 0) rfl d_X12_isOpen_0 0 rfl ?_
  refine aw_iload_n (i := 1) rfl d_X12_isOpen_1 1 rfl ?_
  refine aw_Vi 1 [.int x1] [] d_X12_isOpen_2 (cV_X12_isCase (d + 1) 0 0) kc_12 (ws_1 w) tw_2507 rfl (rr0 (Nat.le_of_ble_eq_true rfl) (Nat.le_of_ble_eq_true rfl)) (Nat.le_of_ble_eq_true rfl) xs0 (s_X12_isCase _ _ w x1) (fun _ _ kk => ?_)
  obtain ⟨e1, e2⟩ := kk
  rw [e1, e2]
  refine aw_ifb_eq (tgt := 30) d_X12_isOpen_5 rfl (fun c3 => ?_) (fun c3 => ?_)
  · have k := k.1 c3
    refine aw_iconst (v := 0) d_X12_isOpen_30 ic_0 ?_
    exact aw_zret rfl rfl d_X12_isOpen_31 ⟨Nat.le_refl _, Nat.le_refl _⟩ ⟨_, rfl, k⟩
  · have k := k.2 c3
    refine aw_aload_n (i := 0) rfl d_X12_isOpen_8 0 rfl ?_
    refine aw_iload_n (i := 2) rfl d_X12_isOpen_9 2 rfl ?_
    refine aw_Vi 1 [.int x2] [] d_X12_isOpen_10 (cV_X12_isKnowing (d + 1) 0 0) kc_12 (ws_1 w) tw_2175 rfl (rr0 (Nat.le_of_ble_eq_true rfl) (Nat.le_of_ble_eq_true rfl)) (Nat.le_of_ble_eq_true rfl) xs0 (s_X12_isKnowing _ _ w x2) (fun _ _ kk => ?_)
    obtain ⟨e4, e5⟩ := kk
    rw [e4, e5]
    refine aw_ifb_eq (tgt := 30) d_X12_isOpen_13 rfl (fun c6 => ?_) (fun c6 => ?_)
    · have k := k.1 c6
      refine aw_iconst (v := 0) d_X12_isOpen_30 ic_0 ?_
      exact aw_zret rfl rfl d_X12_isOpen_31 ⟨Nat.le_refl _, Nat.le_refl _⟩ ⟨_, rfl, k⟩
    · have k := k.2 c6
      refine aw_aload_n (i := 0) rfl d_X12_isOpen_16 0 rfl ?_
      refine aw_getr (k0 := 82) kc_12 (ws_1 w) (Nat.le_of_ble_eq_true rfl) tw_1824 d_X12_isOpen_17 rfl (wr_1_82 w) ?_
      refine aw_iload_n (i := 1) rfl d_X12_isOpen_20 1 rfl ?_
      obtain ⟨b7, k⟩ := k
      refine aw_iald (ws_263 w) b7 d_X12_isOpen_21 ?_
      refine aw_iload_n (i := 2) rfl d_X12_isOpen_22 2 rfl ?_
      refine aw_icmp_gt (tgt := 30) d_X12_isOpen_23 rfl (fun c8 => ?_) (fun c8 => ?_)
      · have k := k.1 c8
        refine aw_iconst (v := 0) d_X12_isOpen_30 ic_0 ?_
        exact aw_zret rfl rfl d_X12_isOpen_31 ⟨Nat.le_refl _, Nat.le_refl _⟩ ⟨_, rfl, k⟩
      · have k := k.2 c8
        refine aw_iconst (v := 1) d_X12_isOpen_26 ic_1 ?_
        refine aw_goto (tgt := 31) d_X12_isOpen_27 rfl ?_
        exact aw_zret rfl rfl d_X12_isOpen_31 ⟨Nat.le_refl _, Nat.le_refl _⟩ ⟨_, rfl, k⟩
theorem t_X12_lacks (d : Nat) (h : Hp_) (w : Wf h) (x1 : Int32) (x2 : Int32) (K : Int32 → Hp_ → Prop) (k : vp_in x1 30 ∧ (vp_in (h_i h 262 x1.toNatClampNeg) 10 ∧ (Ci (m_X12_factsThat (d + 1) 0 0) [.ref 1, .int x1, .int 1, .int x2] h (fun r5 h3 => Wf h3 ∧ (K ((h_i h 264 ((h_i h 262 x1.toNatClampNeg) : Int32).toNatClampNeg) &&& (r5 ^^^ (-1))) h3))))) : Ci (m_X12_lacks (d + 2) 0 0) [.ref 1, .int x1, .int x2] h K := by
  refine Ct.of (fun _ _ _ => trivial) rfl (Nat.le_of_ble_eq_true rfl) ?_
  show AW (m_X12_lacks (d + 2) 0 0) 0 0 0 [(0, .ref 1), (1, .int x1), (2, .int x2)] [] h (kI K)
  refine aw_aload_n (i := 0) rfl d_X12_lacks_0 0 rfl ?_
  refine aw_getr (k0 := 83) kc_12 (ws_1 w) (Nat.le_of_ble_eq_true rfl) tw_1825 d_X12_lacks_1 rfl (wr_1_83 w) ?_
  refine aw_aload_n (i := 0) rfl d_X12_lacks_4 0 rfl ?_
  refine aw_getr (k0 := 81) kc_12 (ws_1 w) (Nat.le_of_ble_eq_true rfl) tw_1823 d_X12_lacks_5 rfl (wr_1_81 w) ?_
  refine aw_iload_n (i := 1) rfl d_X12_lacks_8 1 rfl ?_
  obtain ⟨b1, k⟩ := k
  refine aw_iald (ws_262 w) b1 d_X12_lacks_9 ?_
  obtain ⟨b2, k⟩ := k
  refine aw_iald (ws_264 w) b2 d_X12_lacks_10 ?_
  refine aw_aload_n (i := 0) rfl d_X12_lacks_11 0 rfl ?_
  refine aw_iload_n (i := 1) rfl d_X12_lacks_12 1 rfl ?_
  refine aw_iconst (v := 1) d_X12_lacks_13 ic_1 ?_
  refine aw_iload_n (i := 2) rfl d_X12_lacks_14 2 rfl ?_
  refine aw_Vi 1 [.int x1, .int 1, .int x2] [.int (h_i h 264 ((h_i h 262 x1.toNatClampNeg) : Int32).toNatClampNeg)] d_X12_lacks_15 (cV_X12_factsThat (d + 1) 0 0) kc_12 (ws_1 w) tw_2531 rfl (rr0 (Nat.le_of_ble_eq_true rfl) (Nat.le_of_ble_eq_true rfl)) (Nat.le_of_ble_eq_true rfl) xs0 k (fun r5 h3 kk => ?_)
  obtain ⟨w4, k⟩ := kk
  refine aw_iconst (v := (-1)) d_X12_lacks_18 ic_m1 ?_
  refine aw_ixor d_X12_lacks_19 ?_
  refine aw_iand d_X12_lacks_20 ?_
  exact aw_iret rfl d_X12_lacks_21 ⟨Nat.le_refl _, Nat.le_refl _⟩ ⟨_, rfl, k⟩
theorem t_X12_standing (d : Nat) (h : Hp_) (w : Wf h) (x1 : Int32) (x2 : Int32) (K : Int32 → Hp_ → Prop) (k : Ci (m_X12_factsThat (d + 1) 0 0) [.ref 1, .int x1, .int 2, .int x2] h (fun r3 h1 => Wf h1 ∧ (Ci (m_X12_factsThat (d + 1) 0 0) [.ref 1, .int x1, .int 1, .int x2] h1 (fun r6 h4 => Wf h4 ∧ (AW (m_X12_standing (d + 2) 0 0) 0 0 23 [(0, .ref 1), (1, .int x1), (2, .int x2), (3, .int r3), (4, .int r6), (5, .int 0), (6, .int 0)] [] h4 (kI K)))))) : Ci (m_X12_standing (d + 2) 0 0) [.ref 1, .int x1, .int x2] h K := by
  refine Ct.of (fun _ _ _ => trivial) rfl (Nat.le_of_ble_eq_true rfl) ?_
  show AW (m_X12_standing (d + 2) 0 0) 0 0 0 [(0, .ref 1), (1, .int x1), (2, .int x2)] [] h (kI K)
  refine aw_aload_n (i := 0) rfl d_X12_standing_0 0 rfl ?_
  refine aw_iload_n (i := 1) rfl d_X12_standing_1 1 rfl ?_
  refine aw_iconst (v := 2) d_X12_standing_2 ic_2 ?_
  refine aw_iload_n (i := 2) rfl d_X12_standing_3 2 rfl ?_
  refine aw_Vi 1 [.int x1, .int 2, .int x2] [] d_X12_standing_4 (cV_X12_factsThat (d + 1) 0 0) kc_12 (ws_1 w) tw_2531 rfl (rr0 (Nat.le_of_ble_eq_true rfl) (Nat.le_of_ble_eq_true rfl)) (Nat.le_of_ble_eq_true rfl) xs0 k (fun r3 h1 kk => ?_)
  obtain ⟨w2, k⟩ := kk
  refine aw_istore_n (i := 3) rfl [(0, .ref 1), (1, .int x1), (2, .int x2), (3, .int r3)] d_X12_standing_7 (Nat.le_of_ble_eq_true rfl) rfl rfl ?_
  refine aw_aload_n (i := 0) rfl d_X12_standing_8 0 rfl ?_
  refine aw_iload_n (i := 1) rfl d_X12_standing_9 1 rfl ?_
  refine aw_iconst (v := 1) d_X12_standing_10 ic_1 ?_
  refine aw_iload_n (i := 2) rfl d_X12_standing_11 2 rfl ?_
  refine aw_Vi 1 [.int x1, .int 1, .int x2] [] d_X12_standing_12 (cV_X12_factsThat (d + 1) 0 0) kc_12 (ws_1 w2) tw_2531 rfl (rr0 (Nat.le_of_ble_eq_true rfl) (Nat.le_of_ble_eq_true rfl)) (Nat.le_of_ble_eq_true rfl) xs0 k (fun r6 h4 kk => ?_)
  obtain ⟨w5, k⟩ := kk
  refine aw_istore [(0, .ref 1), (1, .int x1), (2, .int x2), (3, .int r3), (4, .int r6)] d_X12_standing_15 (Nat.le_of_ble_eq_true rfl) rfl rfl ?_
  refine aw_iconst (v := 0) d_X12_standing_17 ic_0 ?_
  refine aw_istore [(0, .ref 1), (1, .int x1), (2, .int x2), (3, .int r3), (4, .int r6), (5, .int 0)] d_X12_standing_18 (Nat.le_of_ble_eq_true rfl) rfl rfl ?_
  refine aw_iconst (v := 0) d_X12_standing_20 ic_0 ?_
  refine aw_istore [(0, .ref 1), (1, .int x1), (2, .int x2), (3, .int r3), (4, .int r6), (5, .int 0), (6, .int 0)] d_X12_standing_21 (Nat.le_of_ble_eq_true rfl) rfl rfl ?_
  exact k
theorem t_X12_standing_23 (d : Nat) (h : Hp_) (w : Wf h) (x1 : Int32) (x2 : Int32) (x3 : Int32) (x4 : Int32) (x5 : Int32) (x6 : Int32) (K : Int32 → Hp_ → Prop) (k : vp_in x1 30 ∧ (((h_i h 276 x1.toNatClampNeg) ≤ x6 → K x5 h) ∧ (¬ (h_i h 276 x1.toNatClampNeg) ≤ x6 → vp_in ((6 * x1) + x6) 180 ∧ ((x2 < (h_i h 275 (((6 * x1) + x6) : Int32).toNatClampNeg) → AW (m_X12_standing (d + 2) 0 0) 0 0 23 [(0, .ref 1), (1, .int x1), (2, .int x2), (3, .int x3), (4, .int x4), (5, .int (x5 ||| 0)), (6, .int (x6 + 1))] [] h (kI K)) ∧ (¬ x2 < (h_i h 275 (((6 * x1) + x6) : Int32).toNatClampNeg) → vp_in ((6 * x1) + x6) 180 ∧ ((¬ ((h_i h 273 (((6 * x1) + x6) : Int32).toNatClampNeg) &&& x3) = 0 → AW (m_X12_standing (d + 2) 0 0) 0 0 23 [(0, .ref 1), (1, .int x1), (2, .int x2), (3, .int x3), (4, .int x4), (5, .int (x5 ||| 0)), (6, .int (x6 + 1))] [] h (kI K)) ∧ (((h_i h 273 (((6 * x1) + x6) : Int32).toNatClampNeg) &&& x3) = 0 → vp_in ((6 * x1) + x6) 180 ∧ ((¬ ((h_i h 274 (((6 * x1) + x6) : Int32).toNatClampNeg) &&& x4) = 0 → AW (m_X12_standing (d + 2) 0 0) 0 0 23 [(0, .ref 1), (1, .int x1), (2, .int x2), (3, .int x3), (4, .int x4), (5, .int (x5 ||| 0)), (6, .int (x6 + 1))] [] h (kI K)) ∧ (((h_i h 274 (((6 * x1) + x6) : Int32).toNatClampNeg) &&& x4) = 0 → AW (m_X12_standing (d + 2) 0 0) 0 0 23 [(0, .ref 1), (1, .int x1), (2, .int x2), (3, .int x3), (4, .int x4), (5, .int (x5 ||| ((1 : Int32) <<< (x6 &&& 31)))), (6, .int (x6 + 1))] [] h (kI K)))))))))) : AW (m_X12_standing (d + 2) 0 0) 0 0 23 [(0, .ref 1), (1, .int x1), (2, .int x2), (3, .int x3), (4, .int x4), (5, .int x5), (6, .int x6)] [] h (kI K) := by
  refine aw_iload d_X12_standing_23 6 rfl ?_
  refine aw_aload_n (i := 0) rfl d_X12_standing_25 0 rfl ?_
  refine aw_getr (k0 := 95) kc_12 (ws_1 w) (Nat.le_of_ble_eq_true rfl) tw_1837 d_X12_standing_26 rfl (wr_1_95 w) ?_
  refine aw_iload_n (i := 1) rfl d_X12_standing_29 1 rfl ?_
  obtain ⟨b7, k⟩ := k
  refine aw_iald (ws_276 w) b7 d_X12_standing_30 ?_
  refine aw_icmp_ge (tgt := 110) d_X12_standing_31 rfl (fun c8 => ?_) (fun c8 => ?_)
  · have k := k.1 c8
    refine aw_iload d_X12_standing_110 5 rfl ?_
    exact aw_iret rfl d_X12_standing_112 ⟨Nat.le_refl _, Nat.le_refl _⟩ ⟨_, rfl, k⟩
  · have k := k.2 c8
    refine aw_bipush (v := 6) d_X12_standing_34 ib_6 ?_
    refine aw_iload_n (i := 1) rfl d_X12_standing_36 1 rfl ?_
    refine aw_imul d_X12_standing_37 ?_
    refine aw_iload d_X12_standing_38 6 rfl ?_
    refine aw_iadd d_X12_standing_40 ?_
    refine aw_istore [(0, .ref 1), (1, .int x1), (2, .int x2), (3, .int x3), (4, .int x4), (5, .int x5), (6, .int x6), (7, .int ((6 * x1) + x6))] d_X12_standing_41 (Nat.le_of_ble_eq_true rfl) rfl rfl ?_
    refine aw_aload_n (i := 0) rfl d_X12_standing_43 0 rfl ?_
    refine aw_getr (k0 := 94) kc_12 (ws_1 w) (Nat.le_of_ble_eq_true rfl) tw_1836 d_X12_standing_44 rfl (wr_1_94 w) ?_
    refine aw_iload d_X12_standing_47 7 rfl ?_
    obtain ⟨b9, k⟩ := k
    refine aw_iald (ws_275 w) b9 d_X12_standing_49 ?_
    refine aw_iload_n (i := 2) rfl d_X12_standing_50 2 rfl ?_
    refine aw_icmp_gt (tgt := 83) d_X12_standing_51 rfl (fun c10 => ?_) (fun c10 => ?_)
    · have k := k.1 c10
      refine aw_iconst (v := 0) d_X12_standing_83 ic_0 ?_
      refine aw_istore [(0, .ref 1), (1, .int x1), (2, .int x2), (3, .int x3), (4, .int x4), (5, .int x5), (6, .int x6), (7, .int ((6 * x1) + x6)), (8, .int 0)] d_X12_standing_84 (Nat.le_of_ble_eq_true rfl) rfl rfl ?_
      refine aw_iload d_X12_standing_86 5 rfl ?_
      refine aw_iload d_X12_standing_88 8 rfl ?_
      refine aw_if_eq (tgt := 100) d_X12_standing_90 rfl (fun _ => ?_) (fun c => absurd c (by decide))
      refine aw_iconst (v := 0) d_X12_standing_100 ic_0 ?_
      refine aw_ior d_X12_standing_101 ?_
      refine aw_istore [(0, .ref 1), (1, .int x1), (2, .int x2), (3, .int x3), (4, .int x4), (5, .int (x5 ||| 0)), (6, .int x6), (7, .int ((6 * x1) + x6)), (8, .int 0)] d_X12_standing_102 (Nat.le_of_ble_eq_true rfl) rfl rfl ?_
      refine aw_iinc (v := (x6 + 1)) [(0, .ref 1), (1, .int x1), (2, .int x2), (3, .int x3), (4, .int x4), (5, .int (x5 ||| 0)), (6, .int (x6 + 1)), (7, .int ((6 * x1) + x6)), (8, .int 0)] d_X12_standing_104 6 rfl rfl (Nat.le_of_ble_eq_true rfl) rfl rfl ?_
      refine aw_goto (tgt := 23) d_X12_standing_107 rfl ?_
      exact aw_lvp [0, 1, 2, 3, 4, 5, 6] [(0, .ref 1), (1, .int x1), (2, .int x2), (3, .int x3), (4, .int x4), (5, .int (x5 ||| 0)), (6, .int (x6 + 1))] rfl k
    · have k := k.2 c10
      refine aw_aload_n (i := 0) rfl d_X12_standing_54 0 rfl ?_
      refine aw_getr (k0 := 92) kc_12 (ws_1 w) (Nat.le_of_ble_eq_true rfl) tw_1834 d_X12_standing_55 rfl (wr_1_92 w) ?_
      refine aw_iload d_X12_standing_58 7 rfl ?_
      obtain ⟨b12, k⟩ := k
      refine aw_iald (ws_273 w) b12 d_X12_standing_60 ?_
      refine aw_iload_n (i := 3) rfl d_X12_standing_61 3 rfl ?_
      refine aw_iand d_X12_standing_62 ?_
      refine aw_if_ne (tgt := 83) d_X12_standing_63 rfl (fun c13 => ?_) (fun c13 => ?_)
      · have k := k.1 c13
        refine aw_iconst (v := 0) d_X12_standing_83 ic_0 ?_
        refine aw_istore [(0, .ref 1), (1, .int x1), (2, .int x2), (3, .int x3), (4, .int x4), (5, .int x5), (6, .int x6), (7, .int ((6 * x1) + x6)), (8, .int 0)] d_X12_standing_84 (Nat.le_of_ble_eq_true rfl) rfl rfl ?_
        refine aw_iload d_X12_standing_86 5 rfl ?_
        refine aw_iload d_X12_standing_88 8 rfl ?_
        refine aw_if_eq (tgt := 100) d_X12_standing_90 rfl (fun _ => ?_) (fun c => absurd c (by decide))
        refine aw_iconst (v := 0) d_X12_standing_100 ic_0 ?_
        refine aw_ior d_X12_standing_101 ?_
        refine aw_istore [(0, .ref 1), (1, .int x1), (2, .int x2), (3, .int x3), (4, .int x4), (5, .int (x5 ||| 0)), (6, .int x6), (7, .int ((6 * x1) + x6)), (8, .int 0)] d_X12_standing_102 (Nat.le_of_ble_eq_true rfl) rfl rfl ?_
        refine aw_iinc (v := (x6 + 1)) [(0, .ref 1), (1, .int x1), (2, .int x2), (3, .int x3), (4, .int x4), (5, .int (x5 ||| 0)), (6, .int (x6 + 1)), (7, .int ((6 * x1) + x6)), (8, .int 0)] d_X12_standing_104 6 rfl rfl (Nat.le_of_ble_eq_true rfl) rfl rfl ?_
        refine aw_goto (tgt := 23) d_X12_standing_107 rfl ?_
        exact aw_lvp [0, 1, 2, 3, 4, 5, 6] [(0, .ref 1), (1, .int x1), (2, .int x2), (3, .int x3), (4, .int x4), (5, .int (x5 ||| 0)), (6, .int (x6 + 1))] rfl k
      · have k := k.2 c13
        refine aw_aload_n (i := 0) rfl d_X12_standing_66 0 rfl ?_
        refine aw_getr (k0 := 93) kc_12 (ws_1 w) (Nat.le_of_ble_eq_true rfl) tw_1835 d_X12_standing_67 rfl (wr_1_93 w) ?_
        refine aw_iload d_X12_standing_70 7 rfl ?_
        obtain ⟨b15, k⟩ := k
        refine aw_iald (ws_274 w) b15 d_X12_standing_72 ?_
        refine aw_iload d_X12_standing_73 4 rfl ?_
        refine aw_iand d_X12_standing_75 ?_
        refine aw_if_ne (tgt := 83) d_X12_standing_76 rfl (fun c16 => ?_) (fun c16 => ?_)
        · have k := k.1 c16
          refine aw_iconst (v := 0) d_X12_standing_83 ic_0 ?_
          refine aw_istore [(0, .ref 1), (1, .int x1), (2, .int x2), (3, .int x3), (4, .int x4), (5, .int x5), (6, .int x6), (7, .int ((6 * x1) + x6)), (8, .int 0)] d_X12_standing_84 (Nat.le_of_ble_eq_true rfl) rfl rfl ?_
          refine aw_iload d_X12_standing_86 5 rfl ?_
          refine aw_iload d_X12_standing_88 8 rfl ?_
          refine aw_if_eq (tgt := 100) d_X12_standing_90 rfl (fun _ => ?_) (fun c => absurd c (by decide))
          refine aw_iconst (v := 0) d_X12_standing_100 ic_0 ?_
          refine aw_ior d_X12_standing_101 ?_
          refine aw_istore [(0, .ref 1), (1, .int x1), (2, .int x2), (3, .int x3), (4, .int x4), (5, .int (x5 ||| 0)), (6, .int x6), (7, .int ((6 * x1) + x6)), (8, .int 0)] d_X12_standing_102 (Nat.le_of_ble_eq_true rfl) rfl rfl ?_
          refine aw_iinc (v := (x6 + 1)) [(0, .ref 1), (1, .int x1), (2, .int x2), (3, .int x3), (4, .int x4), (5, .int (x5 ||| 0)), (6, .int (x6 + 1)), (7, .int ((6 * x1) + x6)), (8, .int 0)] d_X12_standing_104 6 rfl rfl (Nat.le_of_ble_eq_true rfl) rfl rfl ?_
          refine aw_goto (tgt := 23) d_X12_standing_107 rfl ?_
          exact aw_lvp [0, 1, 2, 3, 4, 5, 6] [(0, .ref 1), (1, .int x1), (2, .int x2), (3, .int x3), (4, .int x4), (5, .int (x5 ||| 0)), (6, .int (x6 + 1))] rfl k
        · have k := k.2 c16
          refine aw_iconst (v := 1) d_X12_standing_79 ic_1 ?_
          refine aw_goto (tgt := 84) d_X12_standing_80 rfl ?_
          refine aw_istore [(0, .ref 1), (1, .int x1), (2, .int x2), (3, .int x3), (4, .int x4), (5, .int x5), (6, .int x6), (7, .int ((6 * x1) + x6)), (8, .int 1)] d_X12_standing_84 (Nat.le_of_ble_eq_true rfl) rfl rfl ?_
          refine aw_iload d_X12_standing_86 5 rfl ?_
          refine aw_iload d_X12_standing_88 8 rfl ?_
          refine aw_if_eq (tgt := 100) d_X12_standing_90 rfl (fun c => absurd c (by decide)) (fun _ => ?_)
          refine aw_iconst (v := 1) d_X12_standing_93 ic_1 ?_
          refine aw_iload d_X12_standing_94 6 rfl ?_
          refine aw_ishl d_X12_standing_96 ?_
          refine aw_goto (tgt := 101) d_X12_standing_97 rfl ?_
          refine aw_ior d_X12_standing_101 ?_
          refine aw_istore [(0, .ref 1), (1, .int x1), (2, .int x2), (3, .int x3), (4, .int x4), (5, .int (x5 ||| ((1 : Int32) <<< (x6 &&& 31)))), (6, .int x6), (7, .int ((6 * x1) + x6)), (8, .int 1)] d_X12_standing_102 (Nat.le_of_ble_eq_true rfl) rfl rfl ?_
          refine aw_iinc (v := (x6 + 1)) [(0, .ref 1), (1, .int x1), (2, .int x2), (3, .int x3), (4, .int x4), (5, .int (x5 ||| ((1 : Int32) <<< (x6 &&& 31)))), (6, .int (x6 + 1)), (7, .int ((6 * x1) + x6)), (8, .int 1)] d_X12_standing_104 6 rfl rfl (Nat.le_of_ble_eq_true rfl) rfl rfl ?_
          refine aw_goto (tgt := 23) d_X12_standing_107 rfl ?_
          exact aw_lvp [0, 1, 2, 3, 4, 5, 6] [(0, .ref 1), (1, .int x1), (2, .int x2), (3, .int x3), (4, .int x4), (5, .int (x5 ||| ((1 : Int32) <<< (x6 &&& 31)))), (6, .int (x6 + 1))] rfl k
theorem t_X12_story (d : Nat) (h : Hp_) (w : Wf h) (x1 : Int32) (x2 : Int32) (x3 : Int32) (K : Int32 → Hp_ → Prop) (k : (¬ (0 ≤ x1 ∧ x1 ≤ (h_i h 1 96) - 1) → K (-1) h) ∧ ((0 ≤ x1 ∧ x1 ≤ (h_i h 1 96) - 1) → (¬ (0 ≤ x2 ∧ x2 ≤ 255) → K (-1) h) ∧ ((0 ≤ x2 ∧ x2 ≤ 255) → (¬ (0 ≤ x3 ∧ x3 ≤ 255) → K (-1) h) ∧ ((0 ≤ x3 ∧ x3 ≤ 255) → (¬ (x2 &&& x3) = 0 → K (-1) h) ∧ ((x2 &&& x3) = 0 → vp_in x1 30 ∧ ((¬ (h_i h 276 x1.toNatClampNeg) = 6 → vp_in x1 30 ∧ (vp_in ((6 * x1) + (h_i h 276 x1.toNatClampNeg)) 180 ∧ (vp_in ((6 * x1) + (h_i h 276 x1.toNatClampNeg)) 180 ∧ (vp_in ((6 * x1) + (h_i h 276 x1.toNatClampNeg)) 180 ∧ (vp_in x1 30 ∧ (vp_in x1 30 ∧ (vp_in x1 30 ∧ (K (((h_i h 276 x1.toNatClampNeg) + 1) - 1) (h_im (h_im (h_im (h_im h 273 (((6 * x1) + (h_i h 276 x1.toNatClampNeg)) : Int32).toNatClampNeg x2) 274 (((6 * x1) + (h_i h 276 x1.toNatClampNeg)) : Int32).toNatClampNeg x3) 275 (((6 * x1) + (h_i h 276 x1.toNatClampNeg)) : Int32).toNatClampNeg (h_i h 1 0)) 276 x1.toNatClampNeg ((h_i h 276 x1.toNatClampNeg) + 1)))))))))) ∧ ((h_i h 276 x1.toNatClampNeg) = 6 → K (-1) h))))))) : Ci (m_X12_story (d + 2) 0 0) [.ref 1, .int x1, .int x2, .int x3] h K := by
  refine Ct.of (fun _ _ _ => trivial) rfl (Nat.le_of_ble_eq_true rfl) ?_
  show AW (m_X12_story (d + 2) 0 0) 0 0 0 [(0, .ref 1), (1, .int x1), (2, .int x2), (3, .int x3)] [] h (kI K)
  refine aw_aload_n (i := 0) rfl d_X12_story_0 0 rfl ?_
  refine aw_iload_n (i := 1) rfl d_X12_story_1 1 rfl ?_
  refine aw_Vi 1 [.int x1] [] d_X12_story_2 (cV_X12_isCase (d + 1) 0 0) kc_12 (ws_1 w) tw_2507 rfl (rr0 (Nat.le_of_ble_eq_true rfl) (Nat.le_of_ble_eq_true rfl)) (Nat.le_of_ble_eq_true rfl) xs0 (s_X12_isCase _ _ w x1) (fun _ _ kk => ?_)
  obtain ⟨e1, e2⟩ := kk
  rw [e1, e2]
  refine aw_ifb_eq (tgt := 47) d_X12_story_5 rfl (fun c3 => ?_) (fun c3 => ?_)
  · have k := k.1 c3
    refine aw_iconst (v := (-1)) d_X12_story_47 ic_m1 ?_
    exact aw_iret rfl d_X12_story_48 ⟨Nat.le_refl _, Nat.le_refl _⟩ ⟨_, rfl, k⟩
  · have k := k.2 c3
    refine aw_iload_n (i := 2) rfl d_X12_story_8 2 rfl ?_
    refine aw_iconst (v := 0) d_X12_story_9 ic_0 ?_
    refine aw_sipush (v := 255) d_X12_story_10 is_255 ?_
    refine aw_Si [.int x2, .int 0, .int 255] [] d_X12_story_13 (cS_X12_in (d + 0) 0 0) tw_2147 rfl (rr0 (Nat.le_of_ble_eq_true rfl) (Nat.le_of_ble_eq_true rfl)) (Nat.le_of_ble_eq_true rfl) xs0 (s_X12_in _ _ x2 0 255) (fun _ _ kk => ?_)
    obtain ⟨e4, e5⟩ := kk
    rw [e4, e5]
    refine aw_ifb_eq (tgt := 47) d_X12_story_16 rfl (fun c6 => ?_) (fun c6 => ?_)
    · have k := k.1 c6
      refine aw_iconst (v := (-1)) d_X12_story_47 ic_m1 ?_
      exact aw_iret rfl d_X12_story_48 ⟨Nat.le_refl _, Nat.le_refl _⟩ ⟨_, rfl, k⟩
    · have k := k.2 c6
      refine aw_iload_n (i := 3) rfl d_X12_story_19 3 rfl ?_
      refine aw_iconst (v := 0) d_X12_story_20 ic_0 ?_
      refine aw_sipush (v := 255) d_X12_story_21 is_255 ?_
      refine aw_Si [.int x3, .int 0, .int 255] [] d_X12_story_24 (cS_X12_in (d + 0) 0 0) tw_2147 rfl (rr0 (Nat.le_of_ble_eq_true rfl) (Nat.le_of_ble_eq_true rfl)) (Nat.le_of_ble_eq_true rfl) xs0 (s_X12_in _ _ x3 0 255) (fun _ _ kk => ?_)
      obtain ⟨e7, e8⟩ := kk
      rw [e7, e8]
      refine aw_ifb_eq (tgt := 47) d_X12_story_27 rfl (fun c9 => ?_) (fun c9 => ?_)
      · have k := k.1 c9
        refine aw_iconst (v := (-1)) d_X12_story_47 ic_m1 ?_
        exact aw_iret rfl d_X12_story_48 ⟨Nat.le_refl _, Nat.le_refl _⟩ ⟨_, rfl, k⟩
      · have k := k.2 c9
        refine aw_iload_n (i := 2) rfl d_X12_story_30 2 rfl ?_
        refine aw_iload_n (i := 3) rfl d_X12_story_31 3 rfl ?_
        refine aw_iand d_X12_story_32 ?_
        refine aw_if_ne (tgt := 47) d_X12_story_33 rfl (fun c10 => ?_) (fun c10 => ?_)
        · have k := k.1 c10
          refine aw_iconst (v := (-1)) d_X12_story_47 ic_m1 ?_
          exact aw_iret rfl d_X12_story_48 ⟨Nat.le_refl _, Nat.le_refl _⟩ ⟨_, rfl, k⟩
        · have k := k.2 c10
          refine aw_aload_n (i := 0) rfl d_X12_story_36 0 rfl ?_
          refine aw_getr (k0 := 95) kc_12 (ws_1 w) (Nat.le_of_ble_eq_true rfl) tw_1837 d_X12_story_37 rfl (wr_1_95 w) ?_
          refine aw_iload_n (i := 1) rfl d_X12_story_40 1 rfl ?_
          obtain ⟨b11, k⟩ := k
          refine aw_iald (ws_276 w) b11 d_X12_story_41 ?_
          refine aw_bipush (v := 6) d_X12_story_42 ib_6 ?_
          refine aw_icmp_ne (tgt := 49) d_X12_story_44 rfl (fun c12 => ?_) (fun c12 => ?_)
          · have k := k.1 c12
            refine aw_bipush (v := 6) d_X12_story_49 ib_6 ?_
            refine aw_iload_n (i := 1) rfl d_X12_story_51 1 rfl ?_
            refine aw_imul d_X12_story_52 ?_
            refine aw_aload_n (i := 0) rfl d_X12_story_53 0 rfl ?_
            refine aw_getr (k0 := 95) kc_12 (ws_1 w) (Nat.le_of_ble_eq_true rfl) tw_1837 d_X12_story_54 rfl (wr_1_95 w) ?_
            refine aw_iload_n (i := 1) rfl d_X12_story_57 1 rfl ?_
            obtain ⟨b13, k⟩ := k
            refine aw_iald (ws_276 w) b13 d_X12_story_58 ?_
            refine aw_iadd d_X12_story_59 ?_
            refine aw_istore [(0, .ref 1), (1, .int x1), (2, .int x2), (3, .int x3), (4, .int ((6 * x1) + (h_i h 276 x1.toNatClampNeg)))] d_X12_story_60 (Nat.le_of_ble_eq_true rfl) rfl rfl ?_
            refine aw_aload_n (i := 0) rfl d_X12_story_62 0 rfl ?_
            refine aw_getr (k0 := 92) kc_12 (ws_1 w) (Nat.le_of_ble_eq_true rfl) tw_1834 d_X12_story_63 rfl (wr_1_92 w) ?_
            refine aw_iload d_X12_story_66 4 rfl ?_
            refine aw_iload_n (i := 2) rfl d_X12_story_68 2 rfl ?_
            obtain ⟨b14, k⟩ := k
            refine aw_iast (ws_273 w) b14 d_X12_story_69 ?_
            refine aw_aload_n (i := 0) rfl d_X12_story_70 0 rfl ?_
            refine aw_getr (k0 := 93) kc_12 (ws_1 w) (Nat.le_of_ble_eq_true rfl) tw_1835 d_X12_story_71 rfl (wr_1_93 w) ?_
            refine aw_iload d_X12_story_74 4 rfl ?_
            refine aw_iload_n (i := 3) rfl d_X12_story_76 3 rfl ?_
            obtain ⟨b15, k⟩ := k
            refine aw_iast (ws_274 w) b15 d_X12_story_77 ?_
            refine aw_aload_n (i := 0) rfl d_X12_story_78 0 rfl ?_
            refine aw_getr (k0 := 94) kc_12 (ws_1 w) (Nat.le_of_ble_eq_true rfl) tw_1836 d_X12_story_79 rfl (wr_1_94 w) ?_
            refine aw_iload d_X12_story_82 4 rfl ?_
            refine aw_aload_n (i := 0) rfl d_X12_story_84 0 rfl ?_
            refine aw_geti (k0 := 0) kc_12 (ws_1 w) (Nat.le_of_ble_eq_true rfl) tw_1742 d_X12_story_85 rfl ?_
            refine aw_vi (v2 := (h_i h 1 0)) (rfl) ?_
            obtain ⟨b16, k⟩ := k
            refine aw_iast (ws_275 w) b16 d_X12_story_88 ?_
            refine aw_aload_n (i := 0) rfl d_X12_story_89 0 rfl ?_
            refine aw_getr (k0 := 95) kc_12 (ws_1 w) (Nat.le_of_ble_eq_true rfl) tw_1837 d_X12_story_90 rfl (wr_1_95 w) ?_
            refine aw_iload_n (i := 1) rfl d_X12_story_93 1 rfl ?_
            refine aw_dup2 d_X12_story_94 ⟨rfl, rfl⟩ ?_
            obtain ⟨b17, k⟩ := k
            refine aw_iald (ws_276 w) b17 d_X12_story_95 ?_
            refine aw_vi (v2 := (h_i h 276 x1.toNatClampNeg)) (rfl) ?_
            refine aw_iconst (v := 1) d_X12_story_96 ic_1 ?_
            refine aw_iadd d_X12_story_97 ?_
            obtain ⟨b18, k⟩ := k
            refine aw_iast (ws_276 w) b18 d_X12_story_98 ?_
            refine aw_aload_n (i := 0) rfl d_X12_story_99 0 rfl ?_
            refine aw_getr (k0 := 95) kc_12 (ws_1 w) (Nat.le_of_ble_eq_true rfl) tw_1837 d_X12_story_100 rfl (wr_1_95 w) ?_
            refine aw_iload_n (i := 1) rfl d_X12_story_103 1 rfl ?_
            obtain ⟨b19, k⟩ := k
            refine aw_iald (ws_276 w) b19 d_X12_story_104 ?_
            refine aw_vi (v2 := ((h_i h 276 x1.toNatClampNeg) + 1)) (hi_s (h_im (h_im (h_im h 273 (((6 * x1) + (h_i h 276 x1.toNatClampNeg)) : Int32).toNatClampNeg x2) 274 (((6 * x1) + (h_i h 276 x1.toNatClampNeg)) : Int32).toNatClampNeg x3) 275 (((6 * x1) + (h_i h 276 x1.toNatClampNeg)) : Int32).toNatClampNeg (h_i h 1 0)) 276 x1.toNatClampNeg ((h_i h 276 x1.toNatClampNeg) + 1)) ?_
            refine aw_iconst (v := 1) d_X12_story_105 ic_1 ?_
            refine aw_isub d_X12_story_106 ?_
            exact aw_iret rfl d_X12_story_107 ⟨Nat.le_refl _, Nat.le_refl _⟩ ⟨_, rfl, k⟩
          · have k := k.2 c12
            refine aw_iconst (v := (-1)) d_X12_story_47 ic_m1 ?_
            exact aw_iret rfl d_X12_story_48 ⟨Nat.le_refl _, Nat.le_refl _⟩ ⟨_, rfl, k⟩
theorem t_X12_joining (d : Nat) (h : Hp_) (w : Wf h)  (K : Int32 → Hp_ → Prop) (k : Ci (m_X12_bestFrom (d + 1) 0 0) [.ref 1, .int (-1), .int (-1)] h (fun r3 h1 => Wf h1 ∧ (K r3 h1))) : Ci (m_X12_joining (d + 2) 0 0) [.ref 1] h K := by
  refine Ct.of (fun _ _ _ => trivial) rfl (Nat.le_of_ble_eq_true rfl) ?_
  show AW (m_X12_joining (d + 2) 0 0) 0 0 0 [(0, .ref 1)] [] h (kI K)
  refine aw_aload_n (i := 0) rfl d_X12_joining_0 0 rfl ?_
  refine aw_iconst (v := (-1)) d_X12_joining_1 ic_m1 ?_
  refine aw_iconst (v := (-1)) d_X12_joining_2 ic_m1 ?_
  refine aw_Vi 1 [.int (-1), .int (-1)] [] d_X12_joining_3 (cV_X12_bestFrom (d + 1) 0 0) kc_12 (ws_1 w) tw_2570 rfl (rr0 (Nat.le_of_ble_eq_true rfl) (Nat.le_of_ble_eq_true rfl)) (Nat.le_of_ble_eq_true rfl) xs0 k (fun r3 h1 kk => ?_)
  obtain ⟨w2, k⟩ := kk
  exact aw_iret rfl d_X12_joining_6 ⟨Nat.le_refl _, Nat.le_refl _⟩ ⟨_, rfl, k⟩
theorem t_X12_joined (d : Nat) (h : Hp_) (w : Wf h) (x1 : Int32) (K : Int32 → Hp_ → Prop) (k : ((0 ≤ x1 ∧ x1 ≤ (h_i h 1 101) - 1) → Ci (m_X12_bestFrom (d + 1) 0 0) [.ref 1, .int (-1), .int (-1)] h (fun r6 h4 => Wf h4 ∧ (AW (m_X12_joined (d + 2) 0 0) 0 0 24 [(0, .ref 1), (1, .int x1), (2, .int 0), (3, .int (-1)), (4, .int 0)] [] h4 (kI K)))) ∧ (¬ (0 ≤ x1 ∧ x1 ≤ (h_i h 1 101) - 1) → K (-1) h)) : Ci (m_X12_joined (d + 2) 0 0) [.ref 1, .int x1] h K := by
  refine Ct.of (fun _ _ _ => trivial) rfl (Nat.le_of_ble_eq_true rfl) ?_
  show AW (m_X12_joined (d + 2) 0 0) 0 0 0 [(0, .ref 1), (1, .int x1)] [] h (kI K)
  refine aw_aload_n (i := 0) rfl d_X12_joined_0 0 rfl ?_
  refine aw_iload_n (i := 1) rfl d_X12_joined_1 1 rfl ?_
  refine aw_Vi 1 [.int x1] [] d_X12_joined_2 (cV_X12_isLost (d + 1) 0 0) kc_12 (ws_1 w) tw_2582 rfl (rr0 (Nat.le_of_ble_eq_true rfl) (Nat.le_of_ble_eq_true rfl)) (Nat.le_of_ble_eq_true rfl) xs0 (s_X12_isLost _ _ w x1) (fun _ _ kk => ?_)
  obtain ⟨e1, e2⟩ := kk
  rw [e1, e2]
  refine aw_ifb_ne (tgt := 10) d_X12_joined_5 rfl (fun c3 => ?_) (fun c3 => ?_)
  · have k := k.1 c3
    refine aw_aload_n (i := 0) rfl d_X12_joined_10 0 rfl ?_
    refine aw_iconst (v := (-1)) d_X12_joined_11 ic_m1 ?_
    refine aw_iconst (v := (-1)) d_X12_joined_12 ic_m1 ?_
    refine aw_Vi 1 [.int (-1), .int (-1)] [] d_X12_joined_13 (cV_X12_bestFrom (d + 1) 0 0) kc_12 (ws_1 w) tw_2570 rfl (rr0 (Nat.le_of_ble_eq_true rfl) (Nat.le_of_ble_eq_true rfl)) (Nat.le_of_ble_eq_true rfl) xs0 k (fun r6 h4 kk => ?_)
    obtain ⟨w5, k⟩ := kk
    refine aw_pop d_X12_joined_16 rfl ?_
    refine aw_iconst (v := 0) d_X12_joined_17 ic_0 ?_
    refine aw_istore_n (i := 2) rfl [(0, .ref 1), (1, .int x1), (2, .int 0)] d_X12_joined_18 (Nat.le_of_ble_eq_true rfl) rfl rfl ?_
    refine aw_iconst (v := (-1)) d_X12_joined_19 ic_m1 ?_
    refine aw_istore_n (i := 3) rfl [(0, .ref 1), (1, .int x1), (2, .int 0), (3, .int (-1))] d_X12_joined_20 (Nat.le_of_ble_eq_true rfl) rfl rfl ?_
    refine aw_iconst (v := 0) d_X12_joined_21 ic_0 ?_
    refine aw_istore [(0, .ref 1), (1, .int x1), (2, .int 0), (3, .int (-1)), (4, .int 0)] d_X12_joined_22 (Nat.le_of_ble_eq_true rfl) rfl rfl ?_
    exact k
  · have k := k.2 c3
    refine aw_iconst (v := (-1)) d_X12_joined_8 ic_m1 ?_
    exact aw_iret rfl d_X12_joined_9 ⟨Nat.le_refl _, Nat.le_refl _⟩ ⟨_, rfl, k⟩
theorem t_X12_joined_24 (d : Nat) (h : Hp_) (w : Wf h) (x1 : Int32) (x2 : Int32) (x3 : Int32) (x4 : Int32) (K : Int32 → Hp_ → Prop) (k : (x1 < x4 → K x3 h) ∧ (¬ x1 < x4 → AW (m_X12_joined (d + 2) 0 0) 0 0 40 [(0, .ref 1), (1, .int x1), (2, .int x2), (3, .int (-1)), (4, .int x4), (5, .int ((h_i h 1 102) - 1))] [] h (kI K))) : AW (m_X12_joined (d + 2) 0 0) 0 0 24 [(0, .ref 1), (1, .int x1), (2, .int x2), (3, .int x3), (4, .int x4)] [] h (kI K) := by
  refine aw_iload d_X12_joined_24 4 rfl ?_
  refine aw_iload_n (i := 1) rfl d_X12_joined_26 1 rfl ?_
  refine aw_icmp_gt (tgt := 156) d_X12_joined_27 rfl (fun c7 => ?_) (fun c7 => ?_)
  · have k := k.1 c7
    refine aw_iload_n (i := 3) rfl d_X12_joined_156 3 rfl ?_
    exact aw_iret rfl d_X12_joined_157 ⟨Nat.le_refl _, Nat.le_refl _⟩ ⟨_, rfl, k⟩
  · have k := k.2 c7
    refine aw_iconst (v := (-1)) d_X12_joined_30 ic_m1 ?_
    refine aw_istore_n (i := 3) rfl [(0, .ref 1), (1, .int x1), (2, .int x2), (3, .int (-1)), (4, .int x4)] d_X12_joined_31 (Nat.le_of_ble_eq_true rfl) rfl rfl ?_
    refine aw_aload_n (i := 0) rfl d_X12_joined_32 0 rfl ?_
    refine aw_geti (k0 := 102) kc_12 (ws_1 w) (Nat.le_of_ble_eq_true rfl) tw_1844 d_X12_joined_33 rfl ?_
    refine aw_iconst (v := 1) d_X12_joined_36 ic_1 ?_
    refine aw_isub d_X12_joined_37 ?_
    refine aw_istore [(0, .ref 1), (1, .int x1), (2, .int x2), (3, .int (-1)), (4, .int x4), (5, .int ((h_i h 1 102) - 1))] d_X12_joined_38 (Nat.le_of_ble_eq_true rfl) rfl rfl ?_
    exact k
theorem t_X12_joined_40 (d : Nat) (h : Hp_) (w : Wf h) (x1 : Int32) (x2 : Int32) (x3 : Int32) (x4 : Int32) (x5 : Int32) (K : Int32 → Hp_ → Prop) (k : (x5 < 0 → (¬ x3 = (-1) → AW (m_X12_joined (d + 2) 0 0) 0 0 24 [(0, .ref 1), (1, .int x1), (2, .int (x2 ||| ((1 : Int32) <<< (x3 &&& 31)))), (3, .int x3), (4, .int (x4 + 1))] [] h (kI K)) ∧ (x3 = (-1) → AW (m_X12_joined (d + 2) 0 0) 0 0 24 [(0, .ref 1), (1, .int x1), (2, .int (x2 ||| 0)), (3, .int x3), (4, .int (x4 + 1))] [] h (kI K))) ∧ (¬ x5 < 0 → (¬ ((x2 >>> (x5 &&& 31)) &&& 1) = 0 → AW (m_X12_joined (d + 2) 0 0) 0 0 40 [(0, .ref 1), (1, .int x1), (2, .int x2), (3, .int x3), (4, .int x4), (5, .int (x5 + (-1)))] [] h (kI K)) ∧ (((x2 >>> (x5 &&& 31)) &&& 1) = 0 → Ci (m_X12_like (d + 0) 0 0) [.ref 1, .int x4, .int x5] h (fun r14 h12 => Wf h12 ∧ ((r14 < (h_i h12 1 103) → AW (m_X12_joined (d + 2) 0 0) 0 0 40 [(0, .ref 1), (1, .int x1), (2, .int x2), (3, .int x3), (4, .int x4), (5, .int (x5 + (-1)))] [] h12 (kI K)) ∧ (¬ r14 < (h_i h12 1 103) → Ci (m_X12_like (d + 0) 0 0) [.ref 1, .int x4, .int x5] h12 (fun r20 h18 => Wf h18 ∧ (vp_in ((256 * (x4 + 1)) + (x2 ||| ((1 : Int32) <<< (x5 &&& 31)))) 2304 ∧ (vp_in ((256 * x4) + x2) 2304 ∧ ((¬ (r20 + (h_i h18 280 (((256 * (x4 + 1)) + (x2 ||| ((1 : Int32) <<< (x5 &&& 31)))) : Int32).toNatClampNeg)) = (h_i h18 280 (((256 * x4) + x2) : Int32).toNatClampNeg) → AW (m_X12_joined (d + 2) 0 0) 0 0 40 [(0, .ref 1), (1, .int x1), (2, .int x2), (3, .int x3), (4, .int x4), (5, .int (x5 + (-1)))] [] h18 (kI K)) ∧ ((r20 + (h_i h18 280 (((256 * (x4 + 1)) + (x2 ||| ((1 : Int32) <<< (x5 &&& 31)))) : Int32).toNatClampNeg)) = (h_i h18 280 (((256 * x4) + x2) : Int32).toNatClampNeg) → AW (m_X12_joined (d + 2) 0 0) 0 0 40 [(0, .ref 1), (1, .int x1), (2, .int x2), (3, .int x5), (4, .int x4), (5, .int (x5 + (-1)))] [] h18 (kI K)))))))))))) : AW (m_X12_joined (d + 2) 0 0) 0 0 40 [(0, .ref 1), (1, .int x1), (2, .int x2), (3, .int x3), (4, .int x4), (5, .int x5)] [] h (kI K) := by
  refine aw_iload d_X12_joined_40 5 rfl ?_
  refine aw_if_lt (tgt := 135) d_X12_joined_42 rfl (fun c8 => ?_) (fun c8 => ?_)
  · have k := k.1 c8
    refine aw_iload_n (i := 2) rfl d_X12_joined_135 2 rfl ?_
    refine aw_iload_n (i := 3) rfl d_X12_joined_136 3 rfl ?_
    refine aw_iconst (v := (-1)) d_X12_joined_137 ic_m1 ?_
    refine aw_icmp_ne (tgt := 145) d_X12_joined_138 rfl (fun c9 => ?_) (fun c9 => ?_)
    · have k := k.1 c9
      refine aw_iconst (v := 1) d_X12_joined_145 ic_1 ?_
      refine aw_iload_n (i := 3) rfl d_X12_joined_146 3 rfl ?_
      refine aw_ishl d_X12_joined_147 ?_
      refine aw_ior d_X12_joined_148 ?_
      refine aw_istore_n (i := 2) rfl [(0, .ref 1), (1, .int x1), (2, .int (x2 ||| ((1 : Int32) <<< (x3 &&& 31)))), (3, .int x3), (4, .int x4), (5, .int x5)] d_X12_joined_149 (Nat.le_of_ble_eq_true rfl) rfl rfl ?_
      refine aw_iinc (v := (x4 + 1)) [(0, .ref 1), (1, .int x1), (2, .int (x2 ||| ((1 : Int32) <<< (x3 &&& 31)))), (3, .int x3), (4, .int (x4 + 1)), (5, .int x5)] d_X12_joined_150 4 rfl rfl (Nat.le_of_ble_eq_true rfl) rfl rfl ?_
      refine aw_goto (tgt := 24) d_X12_joined_153 rfl ?_
      exact aw_lvp [0, 1, 2, 3, 4] [(0, .ref 1), (1, .int x1), (2, .int (x2 ||| ((1 : Int32) <<< (x3 &&& 31)))), (3, .int x3), (4, .int (x4 + 1))] rfl k
    · have k := k.2 c9
      refine aw_iconst (v := 0) d_X12_joined_141 ic_0 ?_
      refine aw_goto (tgt := 148) d_X12_joined_142 rfl ?_
      refine aw_ior d_X12_joined_148 ?_
      refine aw_istore_n (i := 2) rfl [(0, .ref 1), (1, .int x1), (2, .int (x2 ||| 0)), (3, .int x3), (4, .int x4), (5, .int x5)] d_X12_joined_149 (Nat.le_of_ble_eq_true rfl) rfl rfl ?_
      refine aw_iinc (v := (x4 + 1)) [(0, .ref 1), (1, .int x1), (2, .int (x2 ||| 0)), (3, .int x3), (4, .int (x4 + 1)), (5, .int x5)] d_X12_joined_150 4 rfl rfl (Nat.le_of_ble_eq_true rfl) rfl rfl ?_
      refine aw_goto (tgt := 24) d_X12_joined_153 rfl ?_
      exact aw_lvp [0, 1, 2, 3, 4] [(0, .ref 1), (1, .int x1), (2, .int (x2 ||| 0)), (3, .int x3), (4, .int (x4 + 1))] rfl k
  · have k := k.2 c8
    refine aw_iload_n (i := 2) rfl d_X12_joined_45 2 rfl ?_
    refine aw_iload d_X12_joined_46 5 rfl ?_
    refine aw_ishr d_X12_joined_48 ?_
    refine aw_iconst (v := 1) d_X12_joined_49 ic_1 ?_
    refine aw_iand d_X12_joined_50 ?_
    refine aw_if_ne (tgt := 73) d_X12_joined_51 rfl (fun c10 => ?_) (fun c10 => ?_)
    · have k := k.1 c10
      refine aw_iconst (v := 0) d_X12_joined_73 ic_0 ?_
      refine aw_istore [(0, .ref 1), (1, .int x1), (2, .int x2), (3, .int x3), (4, .int x4), (5, .int x5), (6, .int 0)] d_X12_joined_74 (Nat.le_of_ble_eq_true rfl) rfl rfl ?_
      refine aw_iload d_X12_joined_76 6 rfl ?_
      refine aw_if_eq (tgt := 129) d_X12_joined_78 rfl (fun _ => ?_) (fun c => absurd c (by decide))
      refine aw_iinc (v := (x5 + (-1))) [(0, .ref 1), (1, .int x1), (2, .int x2), (3, .int x3), (4, .int x4), (5, .int (x5 + (-1))), (6, .int 0)] d_X12_joined_129 5 rfl rfl (Nat.le_of_ble_eq_true rfl) rfl rfl ?_
      refine aw_goto (tgt := 40) d_X12_joined_132 rfl ?_
      exact aw_lvp [0, 1, 2, 3, 4, 5] [(0, .ref 1), (1, .int x1), (2, .int x2), (3, .int x3), (4, .int x4), (5, .int (x5 + (-1)))] rfl k
    · have k := k.2 c10
      refine aw_aload_n (i := 0) rfl d_X12_joined_54 0 rfl ?_
      refine aw_iload d_X12_joined_55 4 rfl ?_
      refine aw_iload d_X12_joined_57 5 rfl ?_
      refine aw_Vi 1 [.int x4, .int x5] [] d_X12_joined_59 (cV_X12_like (d + 0) 0 0) kc_12 (ws_1 w) tw_2574 rfl (rr0 (Nat.le_of_ble_eq_true rfl) (Nat.le_of_ble_eq_true rfl)) (Nat.le_of_ble_eq_true rfl) xs0 k (fun r14 h12 kk => ?_)
      obtain ⟨w13, k⟩ := kk
      refine aw_aload_n (i := 0) rfl d_X12_joined_62 0 rfl ?_
      refine aw_geti (k0 := 103) kc_12 (ws_1 w13) (Nat.le_of_ble_eq_true rfl) tw_1845 d_X12_joined_63 rfl ?_
      refine aw_icmp_lt (tgt := 73) d_X12_joined_66 rfl (fun c15 => ?_) (fun c15 => ?_)
      · have k := k.1 c15
        refine aw_iconst (v := 0) d_X12_joined_73 ic_0 ?_
        refine aw_istore [(0, .ref 1), (1, .int x1), (2, .int x2), (3, .int x3), (4, .int x4), (5, .int x5), (6, .int 0)] d_X12_joined_74 (Nat.le_of_ble_eq_true rfl) rfl rfl ?_
        refine aw_iload d_X12_joined_76 6 rfl ?_
        refine aw_if_eq (tgt := 129) d_X12_joined_78 rfl (fun _ => ?_) (fun c => absurd c (by decide))
        refine aw_iinc (v := (x5 + (-1))) [(0, .ref 1), (1, .int x1), (2, .int x2), (3, .int x3), (4, .int x4), (5, .int (x5 + (-1))), (6, .int 0)] d_X12_joined_129 5 rfl rfl (Nat.le_of_ble_eq_true rfl) rfl rfl ?_
        refine aw_goto (tgt := 40) d_X12_joined_132 rfl ?_
        exact aw_lvp [0, 1, 2, 3, 4, 5] [(0, .ref 1), (1, .int x1), (2, .int x2), (3, .int x3), (4, .int x4), (5, .int (x5 + (-1)))] rfl k
      · have k := k.2 c15
        refine aw_iconst (v := 1) d_X12_joined_69 ic_1 ?_
        refine aw_goto (tgt := 74) d_X12_joined_70 rfl ?_
        refine aw_istore [(0, .ref 1), (1, .int x1), (2, .int x2), (3, .int x3), (4, .int x4), (5, .int x5), (6, .int 1)] d_X12_joined_74 (Nat.le_of_ble_eq_true rfl) rfl rfl ?_
        refine aw_iload d_X12_joined_76 6 rfl ?_
        refine aw_if_eq (tgt := 129) d_X12_joined_78 rfl (fun c => absurd c (by decide)) (fun _ => ?_)
        refine aw_aload_n (i := 0) rfl d_X12_joined_81 0 rfl ?_
        refine aw_iload d_X12_joined_82 4 rfl ?_
        refine aw_iload d_X12_joined_84 5 rfl ?_
        refine aw_Vi 1 [.int x4, .int x5] [] d_X12_joined_86 (cV_X12_like (d + 0) 0 0) kc_12 (ws_1 w13) tw_2574 rfl (rr0 (Nat.le_of_ble_eq_true rfl) (Nat.le_of_ble_eq_true rfl)) (Nat.le_of_ble_eq_true rfl) xs0 k (fun r20 h18 kk => ?_)
        obtain ⟨w19, k⟩ := kk
        refine aw_aload_n (i := 0) rfl d_X12_joined_89 0 rfl ?_
        refine aw_getr (k0 := 104) kc_12 (ws_1 w19) (Nat.le_of_ble_eq_true rfl) tw_1846 d_X12_joined_90 rfl (wr_1_104 w19) ?_
        refine aw_sipush (v := 256) d_X12_joined_93 is_256 ?_
        refine aw_iload d_X12_joined_96 4 rfl ?_
        refine aw_iconst (v := 1) d_X12_joined_98 ic_1 ?_
        refine aw_iadd d_X12_joined_99 ?_
        refine aw_imul d_X12_joined_100 ?_
        refine aw_iload_n (i := 2) rfl d_X12_joined_101 2 rfl ?_
        refine aw_iconst (v := 1) d_X12_joined_102 ic_1 ?_
        refine aw_iload d_X12_joined_103 5 rfl ?_
        refine aw_ishl d_X12_joined_105 ?_
        refine aw_ior d_X12_joined_106 ?_
        refine aw_iadd d_X12_joined_107 ?_
        obtain ⟨b21, k⟩ := k
        refine aw_iald (ws_280 w19) b21 d_X12_joined_108 ?_
        refine aw_iadd d_X12_joined_109 ?_
        refine aw_aload_n (i := 0) rfl d_X12_joined_110 0 rfl ?_
        refine aw_getr (k0 := 104) kc_12 (ws_1 w19) (Nat.le_of_ble_eq_true rfl) tw_1846 d_X12_joined_111 rfl (wr_1_104 w19) ?_
        refine aw_sipush (v := 256) d_X12_joined_114 is_256 ?_
        refine aw_iload d_X12_joined_117 4 rfl ?_
        refine aw_imul d_X12_joined_119 ?_
        refine aw_iload_n (i := 2) rfl d_X12_joined_120 2 rfl ?_
        refine aw_iadd d_X12_joined_121 ?_
        obtain ⟨b22, k⟩ := k
        refine aw_iald (ws_280 w19) b22 d_X12_joined_122 ?_
        refine aw_icmp_ne (tgt := 129) d_X12_joined_123 rfl (fun c23 => ?_) (fun c23 => ?_)
        · have k := k.1 c23
          refine aw_iinc (v := (x5 + (-1))) [(0, .ref 1), (1, .int x1), (2, .int x2), (3, .int x3), (4, .int x4), (5, .int (x5 + (-1))), (6, .int 1)] d_X12_joined_129 5 rfl rfl (Nat.le_of_ble_eq_true rfl) rfl rfl ?_
          refine aw_goto (tgt := 40) d_X12_joined_132 rfl ?_
          exact aw_lvp [0, 1, 2, 3, 4, 5] [(0, .ref 1), (1, .int x1), (2, .int x2), (3, .int x3), (4, .int x4), (5, .int (x5 + (-1)))] rfl k
        · have k := k.2 c23
          refine aw_iload d_X12_joined_126 5 rfl ?_
          refine aw_istore_n (i := 3) rfl [(0, .ref 1), (1, .int x1), (2, .int x2), (3, .int x5), (4, .int x4), (5, .int x5), (6, .int 1)] d_X12_joined_128 (Nat.le_of_ble_eq_true rfl) rfl rfl ?_
          refine aw_iinc (v := (x5 + (-1))) [(0, .ref 1), (1, .int x1), (2, .int x2), (3, .int x5), (4, .int x4), (5, .int (x5 + (-1))), (6, .int 1)] d_X12_joined_129 5 rfl rfl (Nat.le_of_ble_eq_true rfl) rfl rfl ?_
          refine aw_goto (tgt := 40) d_X12_joined_132 rfl ?_
          exact aw_lvp [0, 1, 2, 3, 4, 5] [(0, .ref 1), (1, .int x1), (2, .int x2), (3, .int x5), (4, .int x4), (5, .int (x5 + (-1)))] rfl k
