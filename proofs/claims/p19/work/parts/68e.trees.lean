theorem t_X4_addFind (d : Nat) (h : Hp_) (w : Wf h) (x1 : Int32) (x2 : Int32) (x3 : Int32) (x4 : Int32) (x5 : Int32) (K : Int32 → Hp_ → Prop) (k : ((h_i h 17 7) < 80 → vp_in (h_i h 17 7) 80 ∧ (vp_in (h_i h 17 7) 80 ∧ (vp_in (h_i h 17 7) 80 ∧ (vp_in (h_i h 17 7) 80 ∧ (vp_in (h_i h 17 7) 80 ∧ (K (((h_i h 17 7) + 1) - 1) (h_im (h_im (h_im (h_im (h_im (h_im h 57 ((h_i h 17 7) : Int32).toNatClampNeg x1) 58 ((h_i h 17 7) : Int32).toNatClampNeg x2) 59 ((h_i h 17 7) : Int32).toNatClampNeg x3) 60 ((h_i h 17 7) : Int32).toNatClampNeg x4) 61 ((h_i h 17 7) : Int32).toNatClampNeg x5) 17 7 ((h_i h 17 7) + 1)))))))) ∧ (¬ (h_i h 17 7) < 80 → K (-1) h)) : Ci (m_X4_addFind (d + 0) 0 0) [.ref 17, .int x1, .int x2, .int x3, .int x4, .int x5] h K := by
  refine Ct.of (fun _ _ _ => trivial) rfl (Nat.le_of_ble_eq_true rfl) ?_
  show AW (m_X4_addFind (d + 0) 0 0) 0 0 0 [(0, .ref 17), (1, .int x1), (2, .int x2), (3, .int x3), (4, .int x4), (5, .int x5)] [] h (kI K)
  refine aw_aload_n (i := 0) rfl d_X4_addFind_0 0 rfl ?_
  refine aw_geti (k0 := 7) kc_4 (ws_17 w) (Nat.le_of_ble_eq_true rfl) tw_203 d_X4_addFind_1 rfl ?_
  refine aw_bipush (v := 80) d_X4_addFind_4 ib_80 ?_
  refine aw_icmp_lt (tgt := 11) d_X4_addFind_6 rfl (fun c1 => ?_) (fun c1 => ?_)
  · have k := k.1 c1
    refine aw_aload_n (i := 0) rfl d_X4_addFind_11 0 rfl ?_
    refine aw_getr (k0 := 0) kc_4 (ws_17 w) (Nat.le_of_ble_eq_true rfl) tw_196 d_X4_addFind_12 rfl (wr_17_0 w) ?_
    refine aw_aload_n (i := 0) rfl d_X4_addFind_15 0 rfl ?_
    refine aw_geti (k0 := 7) kc_4 (ws_17 w) (Nat.le_of_ble_eq_true rfl) tw_203 d_X4_addFind_16 rfl ?_
    refine aw_iload_n (i := 1) rfl d_X4_addFind_19 1 rfl ?_
    obtain ⟨b2, k⟩ := k
    refine aw_iast (ws_57 w) b2 d_X4_addFind_20 ?_
    refine aw_aload_n (i := 0) rfl d_X4_addFind_21 0 rfl ?_
    refine aw_getr (k0 := 1) kc_4 (ws_17 w) (Nat.le_of_ble_eq_true rfl) tw_197 d_X4_addFind_22 rfl (wr_17_1 w) ?_
    refine aw_aload_n (i := 0) rfl d_X4_addFind_25 0 rfl ?_
    refine aw_geti (k0 := 7) kc_4 (ws_17 w) (Nat.le_of_ble_eq_true rfl) tw_203 d_X4_addFind_26 rfl ?_
    refine aw_vi (v2 := (h_i h 17 7)) (rfl) ?_
    refine aw_iload_n (i := 2) rfl d_X4_addFind_29 2 rfl ?_
    obtain ⟨b3, k⟩ := k
    refine aw_iast (ws_58 w) b3 d_X4_addFind_30 ?_
    refine aw_aload_n (i := 0) rfl d_X4_addFind_31 0 rfl ?_
    refine aw_getr (k0 := 2) kc_4 (ws_17 w) (Nat.le_of_ble_eq_true rfl) tw_198 d_X4_addFind_32 rfl (wr_17_2 w) ?_
    refine aw_aload_n (i := 0) rfl d_X4_addFind_35 0 rfl ?_
    refine aw_geti (k0 := 7) kc_4 (ws_17 w) (Nat.le_of_ble_eq_true rfl) tw_203 d_X4_addFind_36 rfl ?_
    refine aw_vi (v2 := (h_i h 17 7)) (rfl) ?_
    refine aw_iload_n (i := 3) rfl d_X4_addFind_39 3 rfl ?_
    obtain ⟨b4, k⟩ := k
    refine aw_iast (ws_59 w) b4 d_X4_addFind_40 ?_
    refine aw_aload_n (i := 0) rfl d_X4_addFind_41 0 rfl ?_
    refine aw_getr (k0 := 3) kc_4 (ws_17 w) (Nat.le_of_ble_eq_true rfl) tw_199 d_X4_addFind_42 rfl (wr_17_3 w) ?_
    refine aw_aload_n (i := 0) rfl d_X4_addFind_45 0 rfl ?_
    refine aw_geti (k0 := 7) kc_4 (ws_17 w) (Nat.le_of_ble_eq_true rfl) tw_203 d_X4_addFind_46 rfl ?_
    refine aw_vi (v2 := (h_i h 17 7)) (rfl) ?_
    refine aw_iload d_X4_addFind_49 4 rfl ?_
    obtain ⟨b5, k⟩ := k
    refine aw_iast (ws_60 w) b5 d_X4_addFind_51 ?_
    refine aw_aload_n (i := 0) rfl d_X4_addFind_52 0 rfl ?_
    refine aw_getr (k0 := 4) kc_4 (ws_17 w) (Nat.le_of_ble_eq_true rfl) tw_200 d_X4_addFind_53 rfl (wr_17_4 w) ?_
    refine aw_aload_n (i := 0) rfl d_X4_addFind_56 0 rfl ?_
    refine aw_geti (k0 := 7) kc_4 (ws_17 w) (Nat.le_of_ble_eq_true rfl) tw_203 d_X4_addFind_57 rfl ?_
    refine aw_vi (v2 := (h_i h 17 7)) (rfl) ?_
    refine aw_iload d_X4_addFind_60 5 rfl ?_
    obtain ⟨b6, k⟩ := k
    refine aw_iast (ws_61 w) b6 d_X4_addFind_62 ?_
    refine aw_aload_n (i := 0) rfl d_X4_addFind_63 0 rfl ?_
    refine aw_dup d_X4_addFind_64 rfl ?_
    refine aw_geti (k0 := 7) kc_4 (ws_17 w) (Nat.le_of_ble_eq_true rfl) tw_203 d_X4_addFind_65 rfl ?_
    refine aw_vi (v2 := (h_i h 17 7)) (rfl) ?_
    refine aw_iconst (v := 1) d_X4_addFind_68 ic_1 ?_
    refine aw_iadd d_X4_addFind_69 ?_
    refine aw_puti (k0 := 7) kc_4 (ws_17 w) (Nat.le_of_ble_eq_true rfl) tw_203 d_X4_addFind_70 rfl rfl nf_i ?_
    refine aw_aload_n (i := 0) rfl d_X4_addFind_73 0 rfl ?_
    refine aw_geti (k0 := 7) kc_4 (ws_17 w) (Nat.le_of_ble_eq_true rfl) tw_203 d_X4_addFind_74 rfl ?_
    refine aw_vi (v2 := ((h_i h 17 7) + 1)) (rfl) ?_
    refine aw_iconst (v := 1) d_X4_addFind_77 ic_1 ?_
    refine aw_isub d_X4_addFind_78 ?_
    exact aw_iret rfl d_X4_addFind_79 ⟨Nat.le_refl _, Nat.le_refl _⟩ ⟨_, rfl, k⟩
  · have k := k.2 c1
    refine aw_iconst (v := (-1)) d_X4_addFind_9 ic_m1 ?_
    exact aw_iret rfl d_X4_addFind_10 ⟨Nat.le_refl _, Nat.le_refl _⟩ ⟨_, rfl, k⟩
theorem t_X12_find (d : Nat) (h : Hp_) (w : Wf h) (x1 : Int32) (x2 : Int32) (x3 : Int32) (x4 : Int32) (x5 : Int32) (K : Int32 → Hp_ → Prop) (k : (¬ (0 ≤ x1 ∧ x1 ≤ 9) → K (-1) h) ∧ ((0 ≤ x1 ∧ x1 ≤ 9) → (¬ (0 ≤ x2 ∧ x2 ≤ 15) → K (-1) h) ∧ ((0 ≤ x2 ∧ x2 ≤ 15) → (¬ (0 ≤ x3 ∧ x3 ≤ 20000) → K (-1) h) ∧ ((0 ≤ x3 ∧ x3 ≤ 20000) → (¬ (x3 ≤ x4 ∧ x4 ≤ 20000) → K (-1) h) ∧ ((x3 ≤ x4 ∧ x4 ≤ 20000) → (¬ (1 ≤ x5 ∧ x5 ≤ 9) → K (-1) h) ∧ ((1 ≤ x5 ∧ x5 ≤ 9) → (¬ (h_i h 1 79) = 80 → vp_in (h_i h 1 79) 80 ∧ (vp_in (h_i h 1 79) 80 ∧ (vp_in (h_i h 1 79) 80 ∧ (vp_in (h_i h 1 79) 80 ∧ (vp_in (h_i h 1 79) 80 ∧ (K (((h_i h 1 79) + 1) - 1) (h_im (h_im (h_im (h_im (h_im (h_im h 249 ((h_i h 1 79) : Int32).toNatClampNeg x1) 250 ((h_i h 1 79) : Int32).toNatClampNeg x2) 251 ((h_i h 1 79) : Int32).toNatClampNeg x3) 252 ((h_i h 1 79) : Int32).toNatClampNeg x4) 253 ((h_i h 1 79) : Int32).toNatClampNeg x5) 1 79 ((h_i h 1 79) + 1)))))))) ∧ ((h_i h 1 79) = 80 → K (-1) h))))))) : Ci (m_X12_find (d + 2) 0 0) [.ref 1, .int x1, .int x2, .int x3, .int x4, .int x5] h K := by
  refine Ct.of (fun _ _ _ => trivial) rfl (Nat.le_of_ble_eq_true rfl) ?_
  show AW (m_X12_find (d + 2) 0 0) 0 0 0 [(0, .ref 1), (1, .int x1), (2, .int x2), (3, .int x3), (4, .int x4), (5, .int x5)] [] h (kI K)
  refine aw_iload_n (i := 1) rfl d_X12_find_0 1 rfl ?_
  refine aw_iconst (v := 0) d_X12_find_1 ic_0 ?_
  refine aw_bipush (v := 9) d_X12_find_2 ib_9 ?_
  refine aw_Si [.int x1, .int 0, .int 9] [] d_X12_find_4 (cS_X12_in (d + 0) 0 0) tw_2143 rfl (rr0 (Nat.le_of_ble_eq_true rfl) (Nat.le_of_ble_eq_true rfl)) (Nat.le_of_ble_eq_true rfl) xs0 (s_X12_in _ _ x1 0 9) (fun _ _ kk => ?_)
  obtain ⟨e1, e2⟩ := kk
  rw [e1, e2]
  refine aw_ifb_eq (tgt := 60) d_X12_find_7 rfl (fun c3 => ?_) (fun c3 => ?_)
  · have k := k.1 c3
    refine aw_iconst (v := (-1)) d_X12_find_60 ic_m1 ?_
    exact aw_iret rfl d_X12_find_61 ⟨Nat.le_refl _, Nat.le_refl _⟩ ⟨_, rfl, k⟩
  · have k := k.2 c3
    refine aw_iload_n (i := 2) rfl d_X12_find_10 2 rfl ?_
    refine aw_Si [.int x2] [] d_X12_find_11 (cS_X12_isPlace (d + 1) 0 0) tw_2140 rfl (rr0 (Nat.le_of_ble_eq_true rfl) (Nat.le_of_ble_eq_true rfl)) (Nat.le_of_ble_eq_true rfl) xs0 (s_X12_isPlace _ _ x2) (fun _ _ kk => ?_)
    obtain ⟨e4, e5⟩ := kk
    rw [e4, e5]
    refine aw_ifb_eq (tgt := 60) d_X12_find_14 rfl (fun c6 => ?_) (fun c6 => ?_)
    · have k := k.1 c6
      refine aw_iconst (v := (-1)) d_X12_find_60 ic_m1 ?_
      exact aw_iret rfl d_X12_find_61 ⟨Nat.le_refl _, Nat.le_refl _⟩ ⟨_, rfl, k⟩
    · have k := k.2 c6
      refine aw_iload_n (i := 3) rfl d_X12_find_17 3 rfl ?_
      refine aw_iconst (v := 0) d_X12_find_18 ic_0 ?_
      refine aw_sipush (v := 20000) d_X12_find_19 is_20000 ?_
      refine aw_Si [.int x3, .int 0, .int 20000] [] d_X12_find_22 (cS_X12_in (d + 0) 0 0) tw_2143 rfl (rr0 (Nat.le_of_ble_eq_true rfl) (Nat.le_of_ble_eq_true rfl)) (Nat.le_of_ble_eq_true rfl) xs0 (s_X12_in _ _ x3 0 20000) (fun _ _ kk => ?_)
      obtain ⟨e7, e8⟩ := kk
      rw [e7, e8]
      refine aw_ifb_eq (tgt := 60) d_X12_find_25 rfl (fun c9 => ?_) (fun c9 => ?_)
      · have k := k.1 c9
        refine aw_iconst (v := (-1)) d_X12_find_60 ic_m1 ?_
        exact aw_iret rfl d_X12_find_61 ⟨Nat.le_refl _, Nat.le_refl _⟩ ⟨_, rfl, k⟩
      · have k := k.2 c9
        refine aw_iload d_X12_find_28 4 rfl ?_
        refine aw_iload_n (i := 3) rfl d_X12_find_30 3 rfl ?_
        refine aw_sipush (v := 20000) d_X12_find_31 is_20000 ?_
        refine aw_Si [.int x4, .int x3, .int 20000] [] d_X12_find_34 (cS_X12_in (d + 0) 0 0) tw_2143 rfl (rr0 (Nat.le_of_ble_eq_true rfl) (Nat.le_of_ble_eq_true rfl)) (Nat.le_of_ble_eq_true rfl) xs0 (s_X12_in _ _ x4 x3 20000) (fun _ _ kk => ?_)
        obtain ⟨e10, e11⟩ := kk
        rw [e10, e11]
        refine aw_ifb_eq (tgt := 60) d_X12_find_37 rfl (fun c12 => ?_) (fun c12 => ?_)
        · have k := k.1 c12
          refine aw_iconst (v := (-1)) d_X12_find_60 ic_m1 ?_
          exact aw_iret rfl d_X12_find_61 ⟨Nat.le_refl _, Nat.le_refl _⟩ ⟨_, rfl, k⟩
        · have k := k.2 c12
          refine aw_iload d_X12_find_40 5 rfl ?_
          refine aw_iconst (v := 1) d_X12_find_42 ic_1 ?_
          refine aw_bipush (v := 9) d_X12_find_43 ib_9 ?_
          refine aw_Si [.int x5, .int 1, .int 9] [] d_X12_find_45 (cS_X12_in (d + 0) 0 0) tw_2143 rfl (rr0 (Nat.le_of_ble_eq_true rfl) (Nat.le_of_ble_eq_true rfl)) (Nat.le_of_ble_eq_true rfl) xs0 (s_X12_in _ _ x5 1 9) (fun _ _ kk => ?_)
          obtain ⟨e13, e14⟩ := kk
          rw [e13, e14]
          refine aw_ifb_eq (tgt := 60) d_X12_find_48 rfl (fun c15 => ?_) (fun c15 => ?_)
          · have k := k.1 c15
            refine aw_iconst (v := (-1)) d_X12_find_60 ic_m1 ?_
            exact aw_iret rfl d_X12_find_61 ⟨Nat.le_refl _, Nat.le_refl _⟩ ⟨_, rfl, k⟩
          · have k := k.2 c15
            refine aw_aload_n (i := 0) rfl d_X12_find_51 0 rfl ?_
            refine aw_geti (k0 := 79) kc_12 (ws_1 w) (Nat.le_of_ble_eq_true rfl) tw_1821 d_X12_find_52 rfl ?_
            refine aw_bipush (v := 80) d_X12_find_55 ib_80 ?_
            refine aw_icmp_ne (tgt := 62) d_X12_find_57 rfl (fun c16 => ?_) (fun c16 => ?_)
            · have k := k.1 c16
              refine aw_aload_n (i := 0) rfl d_X12_find_62 0 rfl ?_
              refine aw_getr (k0 := 66) kc_12 (ws_1 w) (Nat.le_of_ble_eq_true rfl) tw_1808 d_X12_find_63 rfl (wr_1_66 w) ?_
              refine aw_aload_n (i := 0) rfl d_X12_find_66 0 rfl ?_
              refine aw_geti (k0 := 79) kc_12 (ws_1 w) (Nat.le_of_ble_eq_true rfl) tw_1821 d_X12_find_67 rfl ?_
              refine aw_iload_n (i := 1) rfl d_X12_find_70 1 rfl ?_
              obtain ⟨b17, k⟩ := k
              refine aw_iast (ws_249 w) b17 d_X12_find_71 ?_
              refine aw_aload_n (i := 0) rfl d_X12_find_72 0 rfl ?_
              refine aw_getr (k0 := 67) kc_12 (ws_1 w) (Nat.le_of_ble_eq_true rfl) tw_1809 d_X12_find_73 rfl (wr_1_67 w) ?_
              refine aw_aload_n (i := 0) rfl d_X12_find_76 0 rfl ?_
              refine aw_geti (k0 := 79) kc_12 (ws_1 w) (Nat.le_of_ble_eq_true rfl) tw_1821 d_X12_find_77 rfl ?_
              refine aw_vi (v2 := (h_i h 1 79)) (rfl) ?_
              refine aw_iload_n (i := 2) rfl d_X12_find_80 2 rfl ?_
              obtain ⟨b18, k⟩ := k
              refine aw_iast (ws_250 w) b18 d_X12_find_81 ?_
              refine aw_aload_n (i := 0) rfl d_X12_find_82 0 rfl ?_
              refine aw_getr (k0 := 68) kc_12 (ws_1 w) (Nat.le_of_ble_eq_true rfl) tw_1810 d_X12_find_83 rfl (wr_1_68 w) ?_
              refine aw_aload_n (i := 0) rfl d_X12_find_86 0 rfl ?_
              refine aw_geti (k0 := 79) kc_12 (ws_1 w) (Nat.le_of_ble_eq_true rfl) tw_1821 d_X12_find_87 rfl ?_
              refine aw_vi (v2 := (h_i h 1 79)) (rfl) ?_
              refine aw_iload_n (i := 3) rfl d_X12_find_90 3 rfl ?_
              obtain ⟨b19, k⟩ := k
              refine aw_iast (ws_251 w) b19 d_X12_find_91 ?_
              refine aw_aload_n (i := 0) rfl d_X12_find_92 0 rfl ?_
              refine aw_getr (k0 := 69) kc_12 (ws_1 w) (Nat.le_of_ble_eq_true rfl) tw_1811 d_X12_find_93 rfl (wr_1_69 w) ?_
              refine aw_aload_n (i := 0) rfl d_X12_find_96 0 rfl ?_
              refine aw_geti (k0 := 79) kc_12 (ws_1 w) (Nat.le_of_ble_eq_true rfl) tw_1821 d_X12_find_97 rfl ?_
              refine aw_vi (v2 := (h_i h 1 79)) (rfl) ?_
              refine aw_iload d_X12_find_100 4 rfl ?_
              obtain ⟨b20, k⟩ := k
              refine aw_iast (ws_252 w) b20 d_X12_find_102 ?_
              refine aw_aload_n (i := 0) rfl d_X12_find_103 0 rfl ?_
              refine aw_getr (k0 := 70) kc_12 (ws_1 w) (Nat.le_of_ble_eq_true rfl) tw_1812 d_X12_find_104 rfl (wr_1_70 w) ?_
              refine aw_aload_n (i := 0) rfl d_X12_find_107 0 rfl ?_
              refine aw_geti (k0 := 79) kc_12 (ws_1 w) (Nat.le_of_ble_eq_true rfl) tw_1821 d_X12_find_108 rfl ?_
              refine aw_vi (v2 := (h_i h 1 79)) (rfl) ?_
              refine aw_iload d_X12_find_111 5 rfl ?_
              obtain ⟨b21, k⟩ := k
              refine aw_iast (ws_253 w) b21 d_X12_find_113 ?_
              refine aw_aload_n (i := 0) rfl d_X12_find_114 0 rfl ?_
              refine aw_dup d_X12_find_115 rfl ?_
              refine aw_geti (k0 := 79) kc_12 (ws_1 w) (Nat.le_of_ble_eq_true rfl) tw_1821 d_X12_find_116 rfl ?_
              refine aw_vi (v2 := (h_i h 1 79)) (rfl) ?_
              refine aw_iconst (v := 1) d_X12_find_119 ic_1 ?_
              refine aw_iadd d_X12_find_120 ?_
              refine aw_puti (k0 := 79) kc_12 (ws_1 w) (Nat.le_of_ble_eq_true rfl) tw_1821 d_X12_find_121 rfl rfl nf_i ?_
              refine aw_aload_n (i := 0) rfl d_X12_find_124 0 rfl ?_
              refine aw_geti (k0 := 79) kc_12 (ws_1 w) (Nat.le_of_ble_eq_true rfl) tw_1821 d_X12_find_125 rfl ?_
              refine aw_vi (v2 := ((h_i h 1 79) + 1)) (rfl) ?_
              refine aw_iconst (v := 1) d_X12_find_128 ic_1 ?_
              refine aw_isub d_X12_find_129 ?_
              exact aw_iret rfl d_X12_find_130 ⟨Nat.le_refl _, Nat.le_refl _⟩ ⟨_, rfl, k⟩
            · have k := k.2 c16
              refine aw_iconst (v := (-1)) d_X12_find_60 ic_m1 ?_
              exact aw_iret rfl d_X12_find_61 ⟨Nat.le_refl _, Nat.le_refl _⟩ ⟨_, rfl, k⟩
theorem t_X11_find (d : Nat) (h : Hp_) (x1 : Int32) (x2 : Int32) (x3 : Int32) (x4 : Int32) (x5 : Int32) (K : Int32 → Hp_ → Prop) (k : (¬ (0 ≤ x1 ∧ x1 ≤ 9) → K (-1) h) ∧ ((0 ≤ x1 ∧ x1 ≤ 9) → Ci (m_X11_isPlace (d + 0) 0 0) [.int x2] h (fun r6 h4 => Wf h4 ∧ ((r6 = 0 → K (-1) h4) ∧ (¬ r6 = 0 → ((1 ≤ x5 ∧ x5 ≤ 9) → (¬ (0 ≤ x3 ∧ x3 ≤ 20000) → K (-1) h4) ∧ ((0 ≤ x3 ∧ x3 ≤ 20000) → ((x3 ≤ x4 ∧ x4 ≤ 20000) → Ci (m_X4_addFind (d + 0) 0 0) [.ref 17, .int x1, .int x2, .int x3, .int x4, .int x5] h4 (fun r19 h17 => Wf h17 ∧ (K r19 h17))) ∧ (¬ (x3 ≤ x4 ∧ x4 ≤ 20000) → K (-1) h4))) ∧ (¬ (1 ≤ x5 ∧ x5 ≤ 9) → K (-1) h4)))))) : Ci (m_X11_find (d + 1) 0 0) [.ref 0, .int x1, .int x2, .int x3, .int x4, .int x5] h K := by
  refine Ct.of (fun _ _ _ => trivial) rfl (Nat.le_of_ble_eq_true rfl) ?_
  show AW (m_X11_find (d + 1) 0 0) 0 0 0 [(0, .ref 0), (1, .int x1), (2, .int x2), (3, .int x3), (4, .int x4), (5, .int x5)] [] h (kI K)
  refine aw_iload_n (i := 1) rfl d_X11_find_0 1 rfl ?_
  refine aw_iconst (v := 0) d_X11_find_1 ic_0 ?_
  refine aw_bipush (v := 9) d_X11_find_2 ib_9 ?_
  refine aw_Si [.int x1, .int 0, .int 9] [] d_X11_find_4 (cS_X11_within (d + 0) 0 0) tw_543 rfl (rr0 (Nat.le_of_ble_eq_true rfl) (Nat.le_of_ble_eq_true rfl)) (Nat.le_of_ble_eq_true rfl) xs0 (s_X11_within _ _ x1 0 9) (fun _ _ kk => ?_)
  obtain ⟨e1, e2⟩ := kk
  rw [e1, e2]
  refine aw_ifb_eq (tgt := 28) d_X11_find_7 rfl (fun c3 => ?_) (fun c3 => ?_)
  · have k := k.1 c3
    refine aw_iconst (v := (-1)) d_X11_find_28 ic_m1 ?_
    exact aw_iret rfl d_X11_find_29 ⟨Nat.le_refl _, Nat.le_refl _⟩ ⟨_, rfl, k⟩
  · have k := k.2 c3
    refine aw_iload_n (i := 2) rfl d_X11_find_10 2 rfl ?_
    refine aw_Si [.int x2] [] d_X11_find_11 (cS_X11_isPlace (d + 0) 0 0) tw_540 rfl (rr0 (Nat.le_of_ble_eq_true rfl) (Nat.le_of_ble_eq_true rfl)) (Nat.le_of_ble_eq_true rfl) xs0 k (fun r6 h4 kk => ?_)
    obtain ⟨w5, k⟩ := kk
    refine aw_if_eq (tgt := 28) d_X11_find_14 rfl (fun c7 => ?_) (fun c7 => ?_)
    · have k := k.1 c7
      refine aw_iconst (v := (-1)) d_X11_find_28 ic_m1 ?_
      exact aw_iret rfl d_X11_find_29 ⟨Nat.le_refl _, Nat.le_refl _⟩ ⟨_, rfl, k⟩
    · have k := k.2 c7
      refine aw_iload d_X11_find_17 5 rfl ?_
      refine aw_iconst (v := 1) d_X11_find_19 ic_1 ?_
      refine aw_bipush (v := 9) d_X11_find_20 ib_9 ?_
      refine aw_Si [.int x5, .int 1, .int 9] [] d_X11_find_22 (cS_X11_within (d + 0) 0 0) tw_543 rfl (rr0 (Nat.le_of_ble_eq_true rfl) (Nat.le_of_ble_eq_true rfl)) (Nat.le_of_ble_eq_true rfl) xs0 (s_X11_within _ _ x5 1 9) (fun _ _ kk => ?_)
      obtain ⟨e8, e9⟩ := kk
      rw [e8, e9]
      refine aw_ifb_ne (tgt := 30) d_X11_find_25 rfl (fun c10 => ?_) (fun c10 => ?_)
      · have k := k.1 c10
        refine aw_iload_n (i := 3) rfl d_X11_find_30 3 rfl ?_
        refine aw_iconst (v := 0) d_X11_find_31 ic_0 ?_
        refine aw_sipush (v := 20000) d_X11_find_32 is_20000 ?_
        refine aw_Si [.int x3, .int 0, .int 20000] [] d_X11_find_35 (cS_X11_within (d + 0) 0 0) tw_543 rfl (rr0 (Nat.le_of_ble_eq_true rfl) (Nat.le_of_ble_eq_true rfl)) (Nat.le_of_ble_eq_true rfl) xs0 (s_X11_within _ _ x3 0 20000) (fun _ _ kk => ?_)
        obtain ⟨e11, e12⟩ := kk
        rw [e11, e12]
        refine aw_ifb_eq (tgt := 53) d_X11_find_38 rfl (fun c13 => ?_) (fun c13 => ?_)
        · have k := k.1 c13
          refine aw_iconst (v := (-1)) d_X11_find_53 ic_m1 ?_
          exact aw_iret rfl d_X11_find_54 ⟨Nat.le_refl _, Nat.le_refl _⟩ ⟨_, rfl, k⟩
        · have k := k.2 c13
          refine aw_iload d_X11_find_41 4 rfl ?_
          refine aw_iload_n (i := 3) rfl d_X11_find_43 3 rfl ?_
          refine aw_sipush (v := 20000) d_X11_find_44 is_20000 ?_
          refine aw_Si [.int x4, .int x3, .int 20000] [] d_X11_find_47 (cS_X11_within (d + 0) 0 0) tw_543 rfl (rr0 (Nat.le_of_ble_eq_true rfl) (Nat.le_of_ble_eq_true rfl)) (Nat.le_of_ble_eq_true rfl) xs0 (s_X11_within _ _ x4 x3 20000) (fun _ _ kk => ?_)
          obtain ⟨e14, e15⟩ := kk
          rw [e14, e15]
          refine aw_ifb_ne (tgt := 55) d_X11_find_50 rfl (fun c16 => ?_) (fun c16 => ?_)
          · have k := k.1 c16
            refine aw_aload_n (i := 0) rfl d_X11_find_55 0 rfl ?_
            refine aw_getr (k0 := 9) kc_11 (ws_0 w5) (Nat.le_of_ble_eq_true rfl) tw_496 d_X11_find_56 rfl (wr_0_9 w5) ?_
            refine aw_iload_n (i := 1) rfl d_X11_find_59 1 rfl ?_
            refine aw_iload_n (i := 2) rfl d_X11_find_60 2 rfl ?_
            refine aw_iload_n (i := 3) rfl d_X11_find_61 3 rfl ?_
            refine aw_iload d_X11_find_62 4 rfl ?_
            refine aw_iload d_X11_find_64 5 rfl ?_
            refine aw_Vi 17 [.int x1, .int x2, .int x3, .int x4, .int x5] [] d_X11_find_66 (cV_X4_addFind (d + 0) 0 0) kc_4 (ws_17 w5) tw_1151 rfl (rr0 (Nat.le_of_ble_eq_true rfl) (Nat.le_of_ble_eq_true rfl)) (Nat.le_of_ble_eq_true rfl) xs0 k (fun r19 h17 kk => ?_)
            obtain ⟨w18, k⟩ := kk
            exact aw_iret rfl d_X11_find_69 ⟨Nat.le_refl _, Nat.le_refl _⟩ ⟨_, rfl, k⟩
          · have k := k.2 c16
            refine aw_iconst (v := (-1)) d_X11_find_53 ic_m1 ?_
            exact aw_iret rfl d_X11_find_54 ⟨Nat.le_refl _, Nat.le_refl _⟩ ⟨_, rfl, k⟩
      · have k := k.2 c10
        refine aw_iconst (v := (-1)) d_X11_find_28 ic_m1 ?_
        exact aw_iret rfl d_X11_find_29 ⟨Nat.le_refl _, Nat.le_refl _⟩ ⟨_, rfl, k⟩
