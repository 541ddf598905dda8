theorem t_X4_setLetter (d : Nat) (h : Hp_) (w : Wf h) (x1 : Int32) (x2 : Int32) (x3 : Int32) (K : Hp_ → Prop) (k : Ci (m_X4_has (d + 0) 0 0) [.ref 17, .int x1] h (fun r3 h1 => Wf h1 ∧ ((r3 = 0 → K h1) ∧ (¬ r3 = 0 → (¬ (0 ≤ x2 ∧ x2 ≤ 8) → K h1) ∧ ((0 ≤ x2 ∧ x2 ≤ 8) → vp_in ((x1 * 9) + x2) 2700 ∧ (K (h_im h1 70 (((x1 * 9) + x2) : Int32).toNatClampNeg x3))))))) : Cv (m_X4_setLetter (d + 1) 0 0) [.ref 17, .int x1, .int x2, .int x3] h K := by
  refine Ct.of (fun _ _ _ => trivial) rfl (Nat.le_of_ble_eq_true rfl) ?_
  show AW (m_X4_setLetter (d + 1) 0 0) 0 0 0 [(0, .ref 17), (1, .int x1), (2, .int x2), (3, .int x3)] [] h (kV K)
  refine aw_aload_n (i := 0) rfl d_X4_setLetter_0 0 rfl ?_
  refine aw_iload_n (i := 1) rfl d_X4_setLetter_1 1 rfl ?_
  refine aw_Vi 17 [.int x1] [] d_X4_setLetter_2 (cV_X4_has (d + 0) 0 0) kc_4 (ws_17 w) tw_1049 rfl (rr0 (Nat.le_of_ble_eq_true rfl) (Nat.le_of_ble_eq_true rfl)) (Nat.le_of_ble_eq_true rfl) xs0 k (fun r3 h1 kk => ?_)
  obtain ⟨w2, k⟩ := kk
  refine aw_if_eq (tgt := 30) d_X4_setLetter_5 rfl (fun c4 => ?_) (fun c4 => ?_)
  · have k := k.1 c4
    exact aw_vret rfl d_X4_setLetter_30 ⟨Nat.le_refl _, Nat.le_refl _⟩ ⟨rfl, k⟩
  · have k := k.2 c4
    refine aw_iload_n (i := 2) rfl d_X4_setLetter_8 2 rfl ?_
    refine aw_iconst (v := 0) d_X4_setLetter_9 ic_0 ?_
    refine aw_bipush (v := 8) d_X4_setLetter_10 ib_8 ?_
    refine aw_SNi [.int x2, .int 0, .int 8] [] d_X4_setLetter_12 (cS_X11_within (d + 0) 0 0) (List.mem_of_getElem? (i := 9) rfl) rfl (rr0 (Nat.le_of_ble_eq_true rfl) (Nat.le_of_ble_eq_true rfl)) (Nat.le_of_ble_eq_true rfl) xs0 (s_X11_within _ _ x2 0 8) (fun _ _ kk => ?_)
    obtain ⟨e5, e6⟩ := kk
    rw [e5, e6]
    refine aw_ifb_eq (tgt := 30) d_X4_setLetter_15 rfl (fun c7 => ?_) (fun c7 => ?_)
    · have k := k.1 c7
      exact aw_vret rfl d_X4_setLetter_30 ⟨Nat.le_refl _, Nat.le_refl _⟩ ⟨rfl, k⟩
    · have k := k.2 c7
      refine aw_aload_n (i := 0) rfl d_X4_setLetter_18 0 rfl ?_
      refine aw_getr (k0 := 15) kc_4 (ws_17 w2) (Nat.le_of_ble_eq_true rfl) tw_213 d_X4_setLetter_19 rfl (wr_17_15 w2) ?_
      refine aw_iload_n (i := 1) rfl d_X4_setLetter_22 1 rfl ?_
      refine aw_bipush (v := 9) d_X4_setLetter_23 ib_9 ?_
      refine aw_imul d_X4_setLetter_25 ?_
      refine aw_iload_n (i := 2) rfl d_X4_setLetter_26 2 rfl ?_
      refine aw_iadd d_X4_setLetter_27 ?_
      refine aw_iload_n (i := 3) rfl d_X4_setLetter_28 3 rfl ?_
      obtain ⟨b8, k⟩ := k
      refine aw_iast (ws_70 w2) b8 d_X4_setLetter_29 ?_
      exact aw_vret rfl d_X4_setLetter_30 ⟨Nat.le_refl _, Nat.le_refl _⟩ ⟨rfl, k⟩
theorem t_X4_settle (d : Nat) (h : Hp_) (w : Wf h) (x1 : Int32) (x2 : Int32) (x3 : Int32) (x4 : Int32) (K : Hp_ → Prop) (k : Ci (m_X4_has (d + 0) 0 0) [.ref 17, .int x1] h (fun r3 h1 => Wf h1 ∧ ((¬ r3 = 0 → vp_in x1 300 ∧ (vp_in x1 300 ∧ ((x2 ≤ 1 → (¬ x2 = 3 → K (h_im (h_im h1 67 x1.toNatClampNeg x2) 68 x1.toNatClampNeg x3)) ∧ (x2 = 3 → vp_in x1 300 ∧ (vp_in (h_i h1 65 x1.toNatClampNeg) 80 ∧ (K (h_im (h_im (h_im (h_im h1 67 x1.toNatClampNeg x2) 68 x1.toNatClampNeg x3) 63 ((h_i h1 65 x1.toNatClampNeg) : Int32).toNatClampNeg (vp_nar .boolean 1)) 17 8 ((h_i h1 17 8) + 1)))))) ∧ (¬ x2 ≤ 1 → (x4 = (-1) → (¬ x2 = 3 → K (h_im (h_im h1 67 x1.toNatClampNeg x2) 68 x1.toNatClampNeg x3)) ∧ (x2 = 3 → vp_in x1 300 ∧ (vp_in (h_i h1 65 x1.toNatClampNeg) 80 ∧ (K (h_im (h_im (h_im (h_im h1 67 x1.toNatClampNeg x2) 68 x1.toNatClampNeg x3) 63 ((h_i h1 65 x1.toNatClampNeg) : Int32).toNatClampNeg (vp_nar .boolean 1)) 17 8 ((h_i h1 17 8) + 1)))))) ∧ (¬ x4 = (-1) → vp_in x1 300 ∧ (vp_in x1 300 ∧ ((¬ x2 = 3 → K (h_im (h_im (h_im h1 67 x1.toNatClampNeg x2) 68 x1.toNatClampNeg x3) 69 x1.toNatClampNeg ((h_i h1 66 x1.toNatClampNeg) + x4))) ∧ (x2 = 3 → vp_in x1 300 ∧ (vp_in (h_i h1 65 x1.toNatClampNeg) 80 ∧ (K (h_im (h_im (h_im (h_im (h_im h1 67 x1.toNatClampNeg x2) 68 x1.toNatClampNeg x3) 69 x1.toNatClampNeg ((h_i h1 66 x1.toNatClampNeg) + x4)) 63 ((h_i h1 65 x1.toNatClampNeg) : Int32).toNatClampNeg (vp_nar .boolean 1)) 17 8 ((h_i h1 17 8) + 1)))))))))))) ∧ (r3 = 0 → K h1)))) : Cv (m_X4_settle (d + 1) 0 0) [.ref 17, .int x1, .int x2, .int x3, .int x4] h K := by
  refine Ct.of (fun _ _ _ => trivial) rfl (Nat.le_of_ble_eq_true rfl) ?_
  show AW (m_X4_settle (d + 1) 0 0) 0 0 0 [(0, .ref 17), (1, .int x1), (2, .int x2), (3, .int x3), (4, .int x4)] [] h (kV K)
  refine aw_aload_n (i := 0) rfl d_X4_settle_0 0 rfl ?_
  refine aw_iload_n (i := 1) rfl d_X4_settle_1 1 rfl ?_
  refine aw_Vi 17 [.int x1] [] d_X4_settle_2 (cV_X4_has (d + 0) 0 0) kc_4 (ws_17 w) tw_1049 rfl (rr0 (Nat.le_of_ble_eq_true rfl) (Nat.le_of_ble_eq_true rfl)) (Nat.le_of_ble_eq_true rfl) xs0 k (fun r3 h1 kk => ?_)
  obtain ⟨w2, k⟩ := kk
  refine aw_if_ne (tgt := 9) d_X4_settle_5 rfl (fun c4 => ?_) (fun c4 => ?_)
  · have k := k.1 c4
    refine aw_aload_n (i := 0) rfl d_X4_settle_9 0 rfl ?_
    refine aw_getr (k0 := 12) kc_4 (ws_17 w2) (Nat.le_of_ble_eq_true rfl) tw_210 d_X4_settle_10 rfl (wr_17_12 w2) ?_
    refine aw_iload_n (i := 1) rfl d_X4_settle_13 1 rfl ?_
    refine aw_iload_n (i := 2) rfl d_X4_settle_14 2 rfl ?_
    obtain ⟨b5, k⟩ := k
    refine aw_iast (ws_67 w2) b5 d_X4_settle_15 ?_
    refine aw_aload_n (i := 0) rfl d_X4_settle_16 0 rfl ?_
    refine aw_getr (k0 := 13) kc_4 (ws_17 w2) (Nat.le_of_ble_eq_true rfl) tw_211 d_X4_settle_17 rfl (wr_17_13 w2) ?_
    refine aw_iload_n (i := 1) rfl d_X4_settle_20 1 rfl ?_
    refine aw_iload_n (i := 3) rfl d_X4_settle_21 3 rfl ?_
    obtain ⟨b6, k⟩ := k
    refine aw_iast (ws_68 w2) b6 d_X4_settle_22 ?_
    refine aw_iload_n (i := 2) rfl d_X4_settle_23 2 rfl ?_
    refine aw_iconst (v := 1) d_X4_settle_24 ic_1 ?_
    refine aw_icmp_le (tgt := 49) d_X4_settle_25 rfl (fun c7 => ?_) (fun c7 => ?_)
    · have k := k.1 c7
      refine aw_iload_n (i := 2) rfl d_X4_settle_49 2 rfl ?_
      refine aw_iconst (v := 3) d_X4_settle_50 ic_3 ?_
      refine aw_icmp_ne (tgt := 76) d_X4_settle_51 rfl (fun c8 => ?_) (fun c8 => ?_)
      · have k := k.1 c8
        exact aw_vret rfl d_X4_settle_76 ⟨Nat.le_refl _, Nat.le_refl _⟩ ⟨rfl, k⟩
      · have k := k.2 c8
        refine aw_aload_n (i := 0) rfl d_X4_settle_54 0 rfl ?_
        refine aw_getr (k0 := 6) kc_4 (ws_17 w2) (Nat.le_of_ble_eq_true rfl) tw_202 d_X4_settle_55 rfl (wr_17_6 w2) ?_
        refine aw_aload_n (i := 0) rfl d_X4_settle_58 0 rfl ?_
        refine aw_getr (k0 := 10) kc_4 (ws_17 w2) (Nat.le_of_ble_eq_true rfl) tw_208 d_X4_settle_59 rfl (wr_17_10 w2) ?_
        refine aw_iload_n (i := 1) rfl d_X4_settle_62 1 rfl ?_
        obtain ⟨b9, k⟩ := k
        refine aw_iald (ws_65 w2) b9 d_X4_settle_63 ?_
        refine aw_vi (v2 := (h_i h1 65 x1.toNatClampNeg)) (rfl) ?_
        refine aw_iconst (v := 1) d_X4_settle_64 ic_1 ?_
        obtain ⟨b10, k⟩ := k
        refine aw_zast (ws_63 w2) b10 d_X4_settle_65 ?_
        refine aw_aload_n (i := 0) rfl d_X4_settle_66 0 rfl ?_
        refine aw_dup d_X4_settle_67 rfl ?_
        refine aw_geti (k0 := 8) kc_4 (ws_17 w2) (Nat.le_of_ble_eq_true rfl) tw_205 d_X4_settle_68 rfl ?_
        refine aw_vi (v2 := (h_i h1 17 8)) (rfl) ?_
        refine aw_iconst (v := 1) d_X4_settle_71 ic_1 ?_
        refine aw_iadd d_X4_settle_72 ?_
        refine aw_puti (k0 := 8) kc_4 (ws_17 w2) (Nat.le_of_ble_eq_true rfl) tw_205 d_X4_settle_73 rfl rfl nf_i ?_
        exact aw_vret rfl d_X4_settle_76 ⟨Nat.le_refl _, Nat.le_refl _⟩ ⟨rfl, k⟩
    · have k := k.2 c7
      refine aw_iload d_X4_settle_28 4 rfl ?_
      refine aw_iconst (v := (-1)) d_X4_settle_30 ic_m1 ?_
      refine aw_icmp_eq (tgt := 49) d_X4_settle_31 rfl (fun c11 => ?_) (fun c11 => ?_)
      · have k := k.1 c11
        refine aw_iload_n (i := 2) rfl d_X4_settle_49 2 rfl ?_
        refine aw_iconst (v := 3) d_X4_settle_50 ic_3 ?_
        refine aw_icmp_ne (tgt := 76) d_X4_settle_51 rfl (fun c12 => ?_) (fun c12 => ?_)
        · have k := k.1 c12
          exact aw_vret rfl d_X4_settle_76 ⟨Nat.le_refl _, Nat.le_refl _⟩ ⟨rfl, k⟩
        · have k := k.2 c12
          refine aw_aload_n (i := 0) rfl d_X4_settle_54 0 rfl ?_
          refine aw_getr (k0 := 6) kc_4 (ws_17 w2) (Nat.le_of_ble_eq_true rfl) tw_202 d_X4_settle_55 rfl (wr_17_6 w2) ?_
          refine aw_aload_n (i := 0) rfl d_X4_settle_58 0 rfl ?_
          refine aw_getr (k0 := 10) kc_4 (ws_17 w2) (Nat.le_of_ble_eq_true rfl) tw_208 d_X4_settle_59 rfl (wr_17_10 w2) ?_
          refine aw_iload_n (i := 1) rfl d_X4_settle_62 1 rfl ?_
          obtain ⟨b13, k⟩ := k
          refine aw_iald (ws_65 w2) b13 d_X4_settle_63 ?_
          refine aw_vi (v2 := (h_i h1 65 x1.toNatClampNeg)) (rfl) ?_
          refine aw_iconst (v := 1) d_X4_settle_64 ic_1 ?_
          obtain ⟨b14, k⟩ := k
          refine aw_zast (ws_63 w2) b14 d_X4_settle_65 ?_
          refine aw_aload_n (i := 0) rfl d_X4_settle_66 0 rfl ?_
          refine aw_dup d_X4_settle_67 rfl ?_
          refine aw_geti (k0 := 8) kc_4 (ws_17 w2) (Nat.le_of_ble_eq_true rfl) tw_205 d_X4_settle_68 rfl ?_
          refine aw_vi (v2 := (h_i h1 17 8)) (rfl) ?_
          refine aw_iconst (v := 1) d_X4_settle_71 ic_1 ?_
          refine aw_iadd d_X4_settle_72 ?_
          refine aw_puti (k0 := 8) kc_4 (ws_17 w2) (Nat.le_of_ble_eq_true rfl) tw_205 d_X4_settle_73 rfl rfl nf_i ?_
          exact aw_vret rfl d_X4_settle_76 ⟨Nat.le_refl _, Nat.le_refl _⟩ ⟨rfl, k⟩
      · have k := k.2 c11
        refine aw_aload_n (i := 0) rfl d_X4_settle_34 0 rfl ?_
        refine aw_getr (k0 := 14) kc_4 (ws_17 w2) (Nat.le_of_ble_eq_true rfl) tw_212 d_X4_settle_35 rfl (wr_17_14 w2) ?_
        refine aw_iload_n (i := 1) rfl d_X4_settle_38 1 rfl ?_
        refine aw_aload_n (i := 0) rfl d_X4_settle_39 0 rfl ?_
        refine aw_getr (k0 := 11) kc_4 (ws_17 w2) (Nat.le_of_ble_eq_true rfl) tw_209 d_X4_settle_40 rfl (wr_17_11 w2) ?_
        refine aw_iload_n (i := 1) rfl d_X4_settle_43 1 rfl ?_
        obtain ⟨b15, k⟩ := k
        refine aw_iald (ws_66 w2) b15 d_X4_settle_44 ?_
        refine aw_vi (v2 := (h_i h1 66 x1.toNatClampNeg)) (rfl) ?_
        refine aw_iload d_X4_settle_45 4 rfl ?_
        refine aw_iadd d_X4_settle_47 ?_
        obtain ⟨b16, k⟩ := k
        refine aw_iast (ws_69 w2) b16 d_X4_settle_48 ?_
        refine aw_iload_n (i := 2) rfl d_X4_settle_49 2 rfl ?_
        refine aw_iconst (v := 3) d_X4_settle_50 ic_3 ?_
        refine aw_icmp_ne (tgt := 76) d_X4_settle_51 rfl (fun c17 => ?_) (fun c17 => ?_)
        · have k := k.1 c17
          exact aw_vret rfl d_X4_settle_76 ⟨Nat.le_refl _, Nat.le_refl _⟩ ⟨rfl, k⟩
        · have k := k.2 c17
          refine aw_aload_n (i := 0) rfl d_X4_settle_54 0 rfl ?_
          refine aw_getr (k0 := 6) kc_4 (ws_17 w2) (Nat.le_of_ble_eq_true rfl) tw_202 d_X4_settle_55 rfl (wr_17_6 w2) ?_
          refine aw_aload_n (i := 0) rfl d_X4_settle_58 0 rfl ?_
          refine aw_getr (k0 := 10) kc_4 (ws_17 w2) (Nat.le_of_ble_eq_true rfl) tw_208 d_X4_settle_59 rfl (wr_17_10 w2) ?_
          refine aw_iload_n (i := 1) rfl d_X4_settle_62 1 rfl ?_
          obtain ⟨b18, k⟩ := k
          refine aw_iald (ws_65 w2) b18 d_X4_settle_63 ?_
          refine aw_vi (v2 := (h_i h1 65 x1.toNatClampNeg)) (rfl) ?_
          refine aw_iconst (v := 1) d_X4_settle_64 ic_1 ?_
          obtain ⟨b19, k⟩ := k
          refine aw_zast (ws_63 w2) b19 d_X4_settle_65 ?_
          refine aw_aload_n (i := 0) rfl d_X4_settle_66 0 rfl ?_
          refine aw_dup d_X4_settle_67 rfl ?_
          refine aw_geti (k0 := 8) kc_4 (ws_17 w2) (Nat.le_of_ble_eq_true rfl) tw_205 d_X4_settle_68 rfl ?_
          refine aw_vi (v2 := (h_i h1 17 8)) (rfl) ?_
          refine aw_iconst (v := 1) d_X4_settle_71 ic_1 ?_
          refine aw_iadd d_X4_settle_72 ?_
          refine aw_puti (k0 := 8) kc_4 (ws_17 w2) (Nat.le_of_ble_eq_true rfl) tw_205 d_X4_settle_73 rfl rfl nf_i ?_
          exact aw_vret rfl d_X4_settle_76 ⟨Nat.le_refl _, Nat.le_refl _⟩ ⟨rfl, k⟩
  · have k := k.2 c4
    exact aw_vret rfl d_X4_settle_8 ⟨Nat.le_refl _, Nat.le_refl _⟩ ⟨rfl, k⟩
theorem t_X4_minuteOf (d : Nat) (h : Hp_) (w : Wf h) (x1 : Int32) (K : Int32 → Hp_ → Prop) (k : Ci (m_X4_has (d + 0) 0 0) [.ref 17, .int x1] h (fun r3 h1 => Wf h1 ∧ ((r3 = 0 → K (-1) h1) ∧ (¬ r3 = 0 → vp_in x1 300 ∧ (K (h_i h1 66 x1.toNatClampNeg) h1))))) : Ci (m_X4_minuteOf (d + 1) 0 0) [.ref 17, .int x1] h K := by
  refine Ct.of (fun _ _ _ => trivial) rfl (Nat.le_of_ble_eq_true rfl) ?_
  show AW (m_X4_minuteOf (d + 1) 0 0) 0 0 0 [(0, .ref 17), (1, .int x1)] [] h (kI K)
  refine aw_aload_n (i := 0) rfl d_X4_minuteOf_0 0 rfl ?_
  refine aw_iload_n (i := 1) rfl d_X4_minuteOf_1 1 rfl ?_
  refine aw_Vi 17 [.int x1] [] d_X4_minuteOf_2 (cV_X4_has (d + 0) 0 0) kc_4 (ws_17 w) tw_1049 rfl (rr0 (Nat.le_of_ble_eq_true rfl) (Nat.le_of_ble_eq_true rfl)) (Nat.le_of_ble_eq_true rfl) xs0 k (fun r3 h1 kk => ?_)
  obtain ⟨w2, k⟩ := kk
  refine aw_if_eq (tgt := 17) d_X4_minuteOf_5 rfl (fun c4 => ?_) (fun c4 => ?_)
  · have k := k.1 c4
    refine aw_iconst (v := (-1)) d_X4_minuteOf_17 ic_m1 ?_
    exact aw_iret rfl d_X4_minuteOf_18 ⟨Nat.le_refl _, Nat.le_refl _⟩ ⟨_, rfl, k⟩
  · have k := k.2 c4
    refine aw_aload_n (i := 0) rfl d_X4_minuteOf_8 0 rfl ?_
    refine aw_getr (k0 := 11) kc_4 (ws_17 w2) (Nat.le_of_ble_eq_true rfl) tw_209 d_X4_minuteOf_9 rfl (wr_17_11 w2) ?_
    refine aw_iload_n (i := 1) rfl d_X4_minuteOf_12 1 rfl ?_
    obtain ⟨b5, k⟩ := k
    refine aw_iald (ws_66 w2) b5 d_X4_minuteOf_13 ?_
    refine aw_goto (tgt := 18) d_X4_minuteOf_14 rfl ?_
    exact aw_iret rfl d_X4_minuteOf_18 ⟨Nat.le_refl _, Nat.le_refl _⟩ ⟨_, rfl, k⟩
theorem t_X4_tell (d : Nat) (h : Hp_) (w : Wf h) (x1 : Int32) (x2 : Int32) (K : Int32 → Hp_ → Prop) (k : Ci (m_X4_has (d + 0) 0 0) [.ref 17, .int x1] h (fun r3 h1 => Wf h1 ∧ ((¬ r3 = 0 → (x2 = 0 → vp_in x1 300 ∧ (K (h_i h1 64 x1.toNatClampNeg) h1)) ∧ ((x2 = 1 → vp_in x1 300 ∧ (K (h_i h1 65 x1.toNatClampNeg) h1)) ∧ ((x2 = 2 → vp_in x1 300 ∧ (K (h_i h1 66 x1.toNatClampNeg) h1)) ∧ ((x2 = 3 → vp_in x1 300 ∧ (K (h_i h1 67 x1.toNatClampNeg) h1)) ∧ ((x2 = 4 → vp_in x1 300 ∧ (K (h_i h1 68 x1.toNatClampNeg) h1)) ∧ ((x2 = 5 → vp_in x1 300 ∧ (K (h_i h1 69 x1.toNatClampNeg) h1)) ∧ ((¬ x2 = 0 ∧ ¬ x2 = 1 ∧ ¬ x2 = 2 ∧ ¬ x2 = 3 ∧ ¬ x2 = 4 ∧ ¬ x2 = 5 → K (-1) h1)))))))) ∧ (r3 = 0 → K (-1) h1)))) : Ci (m_X4_tell (d + 1) 0 0) [.ref 17, .int x1, .int x2] h K := by
  refine Ct.of (fun _ _ _ => trivial) rfl (Nat.le_of_ble_eq_true rfl) ?_
  show AW (m_X4_tell (d + 1) 0 0) 0 0 0 [(0, .ref 17), (1, .int x1), (2, .int x2)] [] h (kI K)
  refine aw_aload_n (i := 0) rfl d_X4_tell_0 0 rfl ?_
  refine aw_iload_n (i := 1) rfl d_X4_tell_1 1 rfl ?_
  refine aw_Vi 17 [.int x1] [] d_X4_tell_2 (cV_X4_has (d + 0) 0 0) kc_4 (ws_17 w) tw_1049 rfl (rr0 (Nat.le_of_ble_eq_true rfl) (Nat.le_of_ble_eq_true rfl)) (Nat.le_of_ble_eq_true rfl) xs0 k (fun r3 h1 kk => ?_)
  obtain ⟨w2, k⟩ := kk
  refine aw_if_ne (tgt := 10) d_X4_tell_5 rfl (fun c4 => ?_) (fun c4 => ?_)
  · have k := k.1 c4
    refine aw_iload_n (i := 2) rfl d_X4_tell_10 2 rfl ?_
    by_cases e5 : x2 = 0
    · refine aw_tableIn (off := 37) (tgt := 48) d_X4_tell_11 (by rw [e5]; decide) (by rw [e5]; decide) (by rw [e5]; decide) rfl ?_
      have k := k.1 e5
      refine aw_aload_n (i := 0) rfl d_X4_tell_48 0 rfl ?_
      refine aw_getr (k0 := 9) kc_4 (ws_17 w2) (Nat.le_of_ble_eq_true rfl) tw_207 d_X4_tell_49 rfl (wr_17_9 w2) ?_
      refine aw_iload_n (i := 1) rfl d_X4_tell_52 1 rfl ?_
      obtain ⟨b6, k⟩ := k
      refine aw_iald (ws_64 w2) b6 d_X4_tell_53 ?_
      exact aw_iret rfl d_X4_tell_54 ⟨Nat.le_refl _, Nat.le_refl _⟩ ⟨_, rfl, k⟩
    · have k := k.2
      by_cases e7 : x2 = 1
      · refine aw_tableIn (off := 44) (tgt := 55) d_X4_tell_11 (by rw [e7]; decide) (by rw [e7]; decide) (by rw [e7]; decide) rfl ?_
        have k := k.1 e7
        refine aw_aload_n (i := 0) rfl d_X4_tell_55 0 rfl ?_
        refine aw_getr (k0 := 10) kc_4 (ws_17 w2) (Nat.le_of_ble_eq_true rfl) tw_208 d_X4_tell_56 rfl (wr_17_10 w2) ?_
        refine aw_iload_n (i := 1) rfl d_X4_tell_59 1 rfl ?_
        obtain ⟨b8, k⟩ := k
        refine aw_iald (ws_65 w2) b8 d_X4_tell_60 ?_
        exact aw_iret rfl d_X4_tell_61 ⟨Nat.le_refl _, Nat.le_refl _⟩ ⟨_, rfl, k⟩
      · have k := k.2
        by_cases e9 : x2 = 2
        · refine aw_tableIn (off := 51) (tgt := 62) d_X4_tell_11 (by rw [e9]; decide) (by rw [e9]; decide) (by rw [e9]; decide) rfl ?_
          have k := k.1 e9
          refine aw_aload_n (i := 0) rfl d_X4_tell_62 0 rfl ?_
          refine aw_getr (k0 := 11) kc_4 (ws_17 w2) (Nat.le_of_ble_eq_true rfl) tw_209 d_X4_tell_63 rfl (wr_17_11 w2) ?_
          refine aw_iload_n (i := 1) rfl d_X4_tell_66 1 rfl ?_
          obtain ⟨b10, k⟩ := k
          refine aw_iald (ws_66 w2) b10 d_X4_tell_67 ?_
          exact aw_iret rfl d_X4_tell_68 ⟨Nat.le_refl _, Nat.le_refl _⟩ ⟨_, rfl, k⟩
        · have k := k.2
          by_cases e11 : x2 = 3
          · refine aw_tableIn (off := 58) (tgt := 69) d_X4_tell_11 (by rw [e11]; decide) (by rw [e11]; decide) (by rw [e11]; decide) rfl ?_
            have k := k.1 e11
            refine aw_aload_n (i := 0) rfl d_X4_tell_69 0 rfl ?_
            refine aw_getr (k0 := 12) kc_4 (ws_17 w2) (Nat.le_of_ble_eq_true rfl) tw_210 d_X4_tell_70 rfl (wr_17_12 w2) ?_
            refine aw_iload_n (i := 1) rfl d_X4_tell_73 1 rfl ?_
            obtain ⟨b12, k⟩ := k
            refine aw_iald (ws_67 w2) b12 d_X4_tell_74 ?_
            exact aw_iret rfl d_X4_tell_75 ⟨Nat.le_refl _, Nat.le_refl _⟩ ⟨_, rfl, k⟩
          · have k := k.2
            by_cases e13 : x2 = 4
            · refine aw_tableIn (off := 65) (tgt := 76) d_X4_tell_11 (by rw [e13]; decide) (by rw [e13]; decide) (by rw [e13]; decide) rfl ?_
              have k := k.1 e13
              refine aw_aload_n (i := 0) rfl d_X4_tell_76 0 rfl ?_
              refine aw_getr (k0 := 13) kc_4 (ws_17 w2) (Nat.le_of_ble_eq_true rfl) tw_211 d_X4_tell_77 rfl (wr_17_13 w2) ?_
              refine aw_iload_n (i := 1) rfl d_X4_tell_80 1 rfl ?_
              obtain ⟨b14, k⟩ := k
              refine aw_iald (ws_68 w2) b14 d_X4_tell_81 ?_
              exact aw_iret rfl d_X4_tell_82 ⟨Nat.le_refl _, Nat.le_refl _⟩ ⟨_, rfl, k⟩
            · have k := k.2
              by_cases e15 : x2 = 5
              · refine aw_tableIn (off := 72) (tgt := 83) d_X4_tell_11 (by rw [e15]; decide) (by rw [e15]; decide) (by rw [e15]; decide) rfl ?_
                have k := k.1 e15
                refine aw_aload_n (i := 0) rfl d_X4_tell_83 0 rfl ?_
                refine aw_getr (k0 := 14) kc_4 (ws_17 w2) (Nat.le_of_ble_eq_true rfl) tw_212 d_X4_tell_84 rfl (wr_17_14 w2) ?_
                refine aw_iload_n (i := 1) rfl d_X4_tell_87 1 rfl ?_
                obtain ⟨b16, k⟩ := k
                refine aw_iald (ws_69 w2) b16 d_X4_tell_88 ?_
                exact aw_iret rfl d_X4_tell_89 ⟨Nat.le_refl _, Nat.le_refl _⟩ ⟨_, rfl, k⟩
              · have k := k.2
                have k := k ⟨e5, e7, e9, e11, e13, e15⟩
                have n17 := sw_ne (0) (by decide) e5
                have n18 := sw_ne (1) (by decide) e7
                have n19 := sw_ne (2) (by decide) e9
                have n20 := sw_ne (3) (by decide) e11
                have n21 := sw_ne (4) (by decide) e13
                have n22 := sw_ne (5) (by decide) e15
                refine aw_tableOut (tgt := 90) d_X4_tell_11 (by omega) rfl ?_
                refine aw_iconst (v := (-1)) d_X4_tell_90 ic_m1 ?_
                exact aw_iret rfl d_X4_tell_91 ⟨Nat.le_refl _, Nat.le_refl _⟩ ⟨_, rfl, k⟩
  · have k := k.2 c4
    refine aw_iconst (v := (-1)) d_X4_tell_8 ic_m1 ?_
    exact aw_iret rfl d_X4_tell_9 ⟨Nat.le_refl _, Nat.le_refl _⟩ ⟨_, rfl, k⟩
theorem t_X5_classOf (d : Nat) (h : Hp_) (x1 : Nat) (hs_x1 : h_sh h x1 = some (12, 17)) (lb_x1 : 400 ≤ x1) (x2 : Int32) (x3 : Int32) (K : Int32 → Hp_ → Prop) (k : AW (m_X5_classOf (d + 1) 0 0) 0 0 12 [(0, .ref 21), (1, .ref x1), (2, .int x2), (3, .int x3), (4, .int (h_i h x1 1)), (5, .int (-1)), (6, .int 0)] [] h (kI K)) : Ci (m_X5_classOf (d + 1) 0 0) [.ref 21, .ref x1, .int x2, .int x3] h K := by
  refine Ct.of (fun _ _ _ => trivial) rfl (Nat.le_of_ble_eq_true rfl) ?_
  show AW (m_X5_classOf (d + 1) 0 0) 0 0 0 [(0, .ref 21), (1, .ref x1), (2, .int x2), (3, .int x3)] [] h (kI K)
  refine aw_aload_n (i := 1) rfl d_X5_classOf_0 1 rfl ?_
  refine aw_geti (k0 := 1) kc_2 (hs_x1) (Nat.le_of_ble_eq_true rfl) tw_575 d_X5_classOf_1 rfl ?_
  refine aw_istore [(0, .ref 21), (1, .ref x1), (2, .int x2), (3, .int x3), (4, .int (h_i h x1 1))] d_X5_classOf_4 (Nat.le_of_ble_eq_true rfl) rfl rfl ?_
  refine aw_iconst (v := (-1)) d_X5_classOf_6 ic_m1 ?_
  refine aw_istore [(0, .ref 21), (1, .ref x1), (2, .int x2), (3, .int x3), (4, .int (h_i h x1 1)), (5, .int (-1))] d_X5_classOf_7 (Nat.le_of_ble_eq_true rfl) rfl rfl ?_
  refine aw_iconst (v := 0) d_X5_classOf_9 ic_0 ?_
  refine aw_istore [(0, .ref 21), (1, .ref x1), (2, .int x2), (3, .int x3), (4, .int (h_i h x1 1)), (5, .int (-1)), (6, .int 0)] d_X5_classOf_10 (Nat.le_of_ble_eq_true rfl) rfl rfl ?_
  exact k
theorem t_X5_classOf_12 (d : Nat) (h : Hp_) (w : Wf h) (x1 : Nat) (hs_x1 : h_sh h x1 = some (12, 17)) (lb_x1 : 400 ≤ x1) (x2 : Int32) (x3 : Int32) (x4 : Int32) (x5 : Int32) (x6 : Int32) (K : Int32 → Hp_ → Prop) (k : ((h_i h 21 4) ≤ x6 → K x4 h) ∧ (¬ (h_i h 21 4) ≤ x6 → vp_in x6 40 ∧ ((¬ (h_i h 104 x6.toNatClampNeg) = (h_i h x1 0) → AW (m_X5_classOf (d + 1) 0 0) 0 0 12 [(0, .ref 21), (1, .ref x1), (2, .int x2), (3, .int x3), (4, .int x4), (5, .int x5), (6, .int (x6 + 1))] [] h (kI K)) ∧ ((h_i h 104 x6.toNatClampNeg) = (h_i h x1 0) → vp_in x6 40 ∧ ((x3 < (h_i h 107 x6.toNatClampNeg) → AW (m_X5_classOf (d + 1) 0 0) 0 0 12 [(0, .ref 21), (1, .ref x1), (2, .int x2), (3, .int x3), (4, .int x4), (5, .int x5), (6, .int (x6 + 1))] [] h (kI K)) ∧ (¬ x3 < (h_i h 107 x6.toNatClampNeg) → vp_in x6 40 ∧ ((¬ (x5 ≤ (h_i h 106 x6.toNatClampNeg) ∧ (h_i h 106 x6.toNatClampNeg) ≤ x2) → AW (m_X5_classOf (d + 1) 0 0) 0 0 12 [(0, .ref 21), (1, .ref x1), (2, .int x2), (3, .int x3), (4, .int x4), (5, .int x5), (6, .int (x6 + 1))] [] h (kI K)) ∧ ((x5 ≤ (h_i h 106 x6.toNatClampNeg) ∧ (h_i h 106 x6.toNatClampNeg) ≤ x2) → vp_in x6 40 ∧ (vp_in x6 40 ∧ (AW (m_X5_classOf (d + 1) 0 0) 0 0 12 [(0, .ref 21), (1, .ref x1), (2, .int x2), (3, .int x3), (4, .int (h_i h 105 x6.toNatClampNeg)), (5, .int (h_i h 106 x6.toNatClampNeg)), (6, .int (x6 + 1))] [] h (kI K))))))))))) : AW (m_X5_classOf (d + 1) 0 0) 0 0 12 [(0, .ref 21), (1, .ref x1), (2, .int x2), (3, .int x3), (4, .int x4), (5, .int x5), (6, .int x6)] [] h (kI K) := by
  refine aw_iload d_X5_classOf_12 6 rfl ?_
  refine aw_aload_n (i := 0) rfl d_X5_classOf_14 0 rfl ?_
  refine aw_geti (k0 := 4) kc_5 (ws_21 w) (Nat.le_of_ble_eq_true rfl) tw_438 d_X5_classOf_15 rfl ?_
  refine aw_icmp_ge (tgt := 86) d_X5_classOf_18 rfl (fun c1 => ?_) (fun c1 => ?_)
  · have k := k.1 c1
    refine aw_iload d_X5_classOf_86 4 rfl ?_
    exact aw_iret rfl d_X5_classOf_88 ⟨Nat.le_refl _, Nat.le_refl _⟩ ⟨_, rfl, k⟩
  · have k := k.2 c1
    refine aw_aload_n (i := 0) rfl d_X5_classOf_21 0 rfl ?_
    refine aw_getr (k0 := 0) kc_5 (ws_21 w) (Nat.le_of_ble_eq_true rfl) tw_434 d_X5_classOf_22 rfl (wr_21_0 w) ?_
    refine aw_iload d_X5_classOf_25 6 rfl ?_
    obtain ⟨b2, k⟩ := k
    refine aw_iald (ws_104 w) b2 d_X5_classOf_27 ?_
    refine aw_aload_n (i := 1) rfl d_X5_classOf_28 1 rfl ?_
    refine aw_geti (k0 := 0) kc_2 (hs_x1) (Nat.le_of_ble_eq_true rfl) tw_572 d_X5_classOf_29 rfl ?_
    refine aw_icmp_ne (tgt := 80) d_X5_classOf_32 rfl (fun c3 => ?_) (fun c3 => ?_)
    · have k := k.1 c3
      refine aw_iinc (v := (x6 + 1)) [(0, .ref 21), (1, .ref x1), (2, .int x2), (3, .int x3), (4, .int x4), (5, .int x5), (6, .int (x6 + 1))] d_X5_classOf_80 6 rfl rfl (Nat.le_of_ble_eq_true rfl) rfl rfl ?_
      refine aw_goto (tgt := 12) d_X5_classOf_83 rfl ?_
      exact k
    · have k := k.2 c3
      refine aw_aload_n (i := 0) rfl d_X5_classOf_35 0 rfl ?_
      refine aw_getr (k0 := 3) kc_5 (ws_21 w) (Nat.le_of_ble_eq_true rfl) tw_437 d_X5_classOf_36 rfl (wr_21_3 w) ?_
      refine aw_iload d_X5_classOf_39 6 rfl ?_
      obtain ⟨b4, k⟩ := k
      refine aw_iald (ws_107 w) b4 d_X5_classOf_41 ?_
      refine aw_iload_n (i := 3) rfl d_X5_classOf_42 3 rfl ?_
      refine aw_icmp_gt (tgt := 80) d_X5_classOf_43 rfl (fun c5 => ?_) (fun c5 => ?_)
      · have k := k.1 c5
        refine aw_iinc (v := (x6 + 1)) [(0, .ref 21), (1, .ref x1), (2, .int x2), (3, .int x3), (4, .int x4), (5, .int x5), (6, .int (x6 + 1))] d_X5_classOf_80 6 rfl rfl (Nat.le_of_ble_eq_true rfl) rfl rfl ?_
        refine aw_goto (tgt := 12) d_X5_classOf_83 rfl ?_
        exact k
      · have k := k.2 c5
        refine aw_aload_n (i := 0) rfl d_X5_classOf_46 0 rfl ?_
        refine aw_getr (k0 := 2) kc_5 (ws_21 w) (Nat.le_of_ble_eq_true rfl) tw_436 d_X5_classOf_47 rfl (wr_21_2 w) ?_
        refine aw_iload d_X5_classOf_50 6 rfl ?_
        obtain ⟨b6, k⟩ := k
        refine aw_iald (ws_106 w) b6 d_X5_classOf_52 ?_
        refine aw_iload d_X5_classOf_53 5 rfl ?_
        refine aw_iload_n (i := 2) rfl d_X5_classOf_55 2 rfl ?_
        refine aw_SNi [.int (h_i h 106 x6.toNatClampNeg), .int x5, .int x2] [] d_X5_classOf_56 (cS_X11_within (d + 0) 0 0) (List.mem_of_getElem? (i := 10) rfl) rfl (rr0 (Nat.le_of_ble_eq_true rfl) (Nat.le_of_ble_eq_true rfl)) (Nat.le_of_ble_eq_true rfl) xs0 (s_X11_within _ _ (h_i h 106 x6.toNatClampNeg) x5 x2) (fun _ _ kk => ?_)
        obtain ⟨e7, e8⟩ := kk
        rw [e7, e8]
        refine aw_ifb_eq (tgt := 80) d_X5_classOf_59 rfl (fun c9 => ?_) (fun c9 => ?_)
        · have k := k.1 c9
          refine aw_iinc (v := (x6 + 1)) [(0, .ref 21), (1, .ref x1), (2, .int x2), (3, .int x3), (4, .int x4), (5, .int x5), (6, .int (x6 + 1))] d_X5_classOf_80 6 rfl rfl (Nat.le_of_ble_eq_true rfl) rfl rfl ?_
          refine aw_goto (tgt := 12) d_X5_classOf_83 rfl ?_
          exact k
        · have k := k.2 c9
          refine aw_aload_n (i := 0) rfl d_X5_classOf_62 0 rfl ?_
          refine aw_getr (k0 := 1) kc_5 (ws_21 w) (Nat.le_of_ble_eq_true rfl) tw_435 d_X5_classOf_63 rfl (wr_21_1 w) ?_
          refine aw_iload d_X5_classOf_66 6 rfl ?_
          obtain ⟨b10, k⟩ := k
          refine aw_iald (ws_105 w) b10 d_X5_classOf_68 ?_
          refine aw_istore [(0, .ref 21), (1, .ref x1), (2, .int x2), (3, .int x3), (4, .int (h_i h 105 x6.toNatClampNeg)), (5, .int x5), (6, .int x6)] d_X5_classOf_69 (Nat.le_of_ble_eq_true rfl) rfl rfl ?_
          refine aw_aload_n (i := 0) rfl d_X5_classOf_71 0 rfl ?_
          refine aw_getr (k0 := 2) kc_5 (ws_21 w) (Nat.le_of_ble_eq_true rfl) tw_436 d_X5_classOf_72 rfl (wr_21_2 w) ?_
          refine aw_iload d_X5_classOf_75 6 rfl ?_
          obtain ⟨b11, k⟩ := k
          refine aw_iald (ws_106 w) b11 d_X5_classOf_77 ?_
          refine aw_istore [(0, .ref 21), (1, .ref x1), (2, .int x2), (3, .int x3), (4, .int (h_i h 105 x6.toNatClampNeg)), (5, .int (h_i h 106 x6.toNatClampNeg)), (6, .int x6)] d_X5_classOf_78 (Nat.le_of_ble_eq_true rfl) rfl rfl ?_
          refine aw_iinc (v := (x6 + 1)) [(0, .ref 21), (1, .ref x1), (2, .int x2), (3, .int x3), (4, .int (h_i h 105 x6.toNatClampNeg)), (5, .int (h_i h 106 x6.toNatClampNeg)), (6, .int (x6 + 1))] d_X5_classOf_80 6 rfl rfl (Nat.le_of_ble_eq_true rfl) rfl rfl ?_
          refine aw_goto (tgt := 12) d_X5_classOf_83 rfl ?_
          exact k
theorem t_X5_setWage (d : Nat) (h : Hp_) (w : Wf h) (x1 : Int32) (x2 : Int32) (x3 : Int32) (K : Hp_ → Prop) (k : (¬ (0 ≤ x1 ∧ x1 ≤ 11) → K h) ∧ ((0 ≤ x1 ∧ x1 ≤ 11) → (¬ (0 ≤ x2 ∧ x2 ≤ 13) → K h) ∧ ((0 ≤ x2 ∧ x2 ≤ 13) → vp_in ((x2 * 12) + x1) 168 ∧ (K (h_im h 109 (((x2 * 12) + x1) : Int32).toNatClampNeg x3))))) : Cv (m_X5_setWage (d + 1) 0 0) [.ref 21, .int x1, .int x2, .int x3] h K := by
  refine Ct.of (fun _ _ _ => trivial) rfl (Nat.le_of_ble_eq_true rfl) ?_
  show AW (m_X5_setWage (d + 1) 0 0) 0 0 0 [(0, .ref 21), (1, .int x1), (2, .int x2), (3, .int x3)] [] h (kV K)
  refine aw_iload_n (i := 1) rfl d_X5_setWage_0 1 rfl ?_
  refine aw_iconst (v := 0) d_X5_setWage_1 ic_0 ?_
  refine aw_bipush (v := 11) d_X5_setWage_2 ib_11 ?_
  refine aw_SNi [.int x1, .int 0, .int 11] [] d_X5_setWage_4 (cS_X11_within (d + 0) 0 0) (List.mem_of_getElem? (i := 10) rfl) rfl (rr0 (Nat.le_of_ble_eq_true rfl) (Nat.le_of_ble_eq_true rfl)) (Nat.le_of_ble_eq_true rfl) xs0 (s_X11_within _ _ x1 0 11) (fun _ _ kk => ?_)
  obtain ⟨e1, e2⟩ := kk
  rw [e1, e2]
  refine aw_ifb_eq (tgt := 32) d_X5_setWage_7 rfl (fun c3 => ?_) (fun c3 => ?_)
  · have k := k.1 c3
    exact aw_vret rfl d_X5_setWage_32 ⟨Nat.le_refl _, Nat.le_refl _⟩ ⟨rfl, k⟩
  · have k := k.2 c3
    refine aw_iload_n (i := 2) rfl d_X5_setWage_10 2 rfl ?_
    refine aw_iconst (v := 0) d_X5_setWage_11 ic_0 ?_
    refine aw_bipush (v := 13) d_X5_setWage_12 ib_13 ?_
    refine aw_SNi [.int x2, .int 0, .int 13] [] d_X5_setWage_14 (cS_X11_within (d + 0) 0 0) (List.mem_of_getElem? (i := 10) rfl) rfl (rr0 (Nat.le_of_ble_eq_true rfl) (Nat.le_of_ble_eq_true rfl)) (Nat.le_of_ble_eq_true rfl) xs0 (s_X11_within _ _ x2 0 13) (fun _ _ kk => ?_)
    obtain ⟨e4, e5⟩ := kk
    rw [e4, e5]
    refine aw_ifb_eq (tgt := 32) d_X5_setWage_17 rfl (fun c6 => ?_) (fun c6 => ?_)
    · have k := k.1 c6
      exact aw_vret rfl d_X5_setWage_32 ⟨Nat.le_refl _, Nat.le_refl _⟩ ⟨rfl, k⟩
    · have k := k.2 c6
      refine aw_aload_n (i := 0) rfl d_X5_setWage_20 0 rfl ?_
      refine aw_getr (k0 := 6) kc_5 (ws_21 w) (Nat.le_of_ble_eq_true rfl) tw_441 d_X5_setWage_21 rfl (wr_21_6 w) ?_
      refine aw_iload_n (i := 2) rfl d_X5_setWage_24 2 rfl ?_
      refine aw_bipush (v := 12) d_X5_setWage_25 ib_12 ?_
      refine aw_imul d_X5_setWage_27 ?_
      refine aw_iload_n (i := 1) rfl d_X5_setWage_28 1 rfl ?_
      refine aw_iadd d_X5_setWage_29 ?_
      refine aw_iload_n (i := 3) rfl d_X5_setWage_30 3 rfl ?_
      obtain ⟨b7, k⟩ := k
      refine aw_iast (ws_109 w) b7 d_X5_setWage_31 ?_
      exact aw_vret rfl d_X5_setWage_32 ⟨Nat.le_refl _, Nat.le_refl _⟩ ⟨rfl, k⟩
theorem t_X5_bookAll (d : Nat) (h : Hp_) (x1 : Int32) (x2 : Int32) (x3 : Int32) (K : Int32 → Hp_ → Prop) (k : Ci (m_J9_min_7cf53 (d + 0) 0 0) [.int x2, .int 14] h (fun r3 h1 => Wf h1 ∧ (AW (m_X5_bookAll (d + 1) 0 0) 0 0 17 [(0, .ref 21), (1, .int x1), (3, .int x3), (4, .int (r3 * 12)), (5, .int 0), (6, .int 0)] [] h1 (kI K)))) : Ci (m_X5_bookAll (d + 1) 0 0) [.ref 21, .int x1, .int x2, .int x3] h K := by
  refine Ct.of (fun _ _ _ => trivial) rfl (Nat.le_of_ble_eq_true rfl) ?_
  show AW (m_X5_bookAll (d + 1) 0 0) 0 0 0 [(0, .ref 21), (1, .int x1), (2, .int x2), (3, .int x3)] [] h (kI K)
  refine aw_iload_n (i := 2) rfl d_X5_bookAll_0 2 rfl ?_
  refine aw_bipush (v := 14) d_X5_bookAll_1 ib_14 ?_
  refine aw_Si [.int x2, .int 14] [] d_X5_bookAll_3 (cS_J9_min_7cf53 (d + 0) 0 0) tw_1614 rfl (rr0 (Nat.le_of_ble_eq_true rfl) (Nat.le_of_ble_eq_true rfl)) (Nat.le_of_ble_eq_true rfl) xs0 k (fun r3 h1 kk => ?_)
  obtain ⟨w2, k⟩ := kk
  refine aw_bipush (v := 12) d_X5_bookAll_6 ib_12 ?_
  refine aw_imul d_X5_bookAll_8 ?_
  refine aw_istore [(0, .ref 21), (1, .int x1), (2, .int x2), (3, .int x3), (4, .int (r3 * 12))] d_X5_bookAll_9 (Nat.le_of_ble_eq_true rfl) rfl rfl ?_
  refine aw_iconst (v := 0) d_X5_bookAll_11 ic_0 ?_
  refine aw_istore [(0, .ref 21), (1, .int x1), (2, .int x2), (3, .int x3), (4, .int (r3 * 12)), (5, .int 0)] d_X5_bookAll_12 (Nat.le_of_ble_eq_true rfl) rfl rfl ?_
  refine aw_iconst (v := 0) d_X5_bookAll_14 ic_0 ?_
  refine aw_istore [(0, .ref 21), (1, .int x1), (2, .int x2), (3, .int x3), (4, .int (r3 * 12)), (5, .int 0), (6, .int 0)] d_X5_bookAll_15 (Nat.le_of_ble_eq_true rfl) rfl rfl ?_
  exact aw_lvp [0, 1, 3, 4, 5, 6] [(0, .ref 21), (1, .int x1), (3, .int x3), (4, .int (r3 * 12)), (5, .int 0), (6, .int 0)] rfl k
theorem t_X5_bookAll_17 (d : Nat) (h : Hp_) (w : Wf h) (x1 : Int32) (x3 : Int32) (x4 : Int32) (x5 : Int32) (x6 : Int32) (K : Int32 → Hp_ → Prop) (k : (x4 ≤ x6 → (((h_i h 21 12) + x5) ≤ 600 → AW (m_X5_bookAll (d + 1) 0 0) 0 0 77 [(0, .ref 21), (1, .int x1), (3, .int x3), (4, .int x4), (5, .int x5), (6, .int 0)] [] h (kI K)) ∧ (¬ ((h_i h 21 12) + x5) ≤ 600 → K (-1) h)) ∧ (¬ x4 ≤ x6 → (x1 ≤ (x6 - x6 / 12 * 12) → AW (m_X5_bookAll (d + 1) 0 0) 0 0 17 [(0, .ref 21), (1, .int x1), (3, .int x3), (4, .int x4), (5, .int x5), (6, .int (x6 + 1))] [] h (kI K)) ∧ (¬ x1 ≤ (x6 - x6 / 12 * 12) → vp_in x6 168 ∧ (vp_in x6 168 ∧ (((h_i h 109 x6.toNatClampNeg) = (h_i h 110 x6.toNatClampNeg) → AW (m_X5_bookAll (d + 1) 0 0) 0 0 17 [(0, .ref 21), (1, .int x1), (3, .int x3), (4, .int x4), (5, .int x5), (6, .int (x6 + 1))] [] h (kI K)) ∧ (¬ (h_i h 109 x6.toNatClampNeg) = (h_i h 110 x6.toNatClampNeg) → AW (m_X5_bookAll (d + 1) 0 0) 0 0 17 [(0, .ref 21), (1, .int x1), (3, .int x3), (4, .int x4), (5, .int (x5 + 1)), (6, .int (x6 + 1))] [] h (kI K))))))) : AW (m_X5_bookAll (d + 1) 0 0) 0 0 17 [(0, .ref 21), (1, .int x1), (3, .int x3), (4, .int x4), (5, .int x5), (6, .int x6)] [] h (kI K) := by
  refine aw_iload d_X5_bookAll_17 5 rfl ?_
  refine aw_iload d_X5_bookAll_19 3 rfl ?_
  refine aw_icmp_ge (tgt := 59) d_X5_bookAll_21 rfl (fun c4 => ?_) (fun c4 => ?_)
  · have k := k.1 c4
    refine aw_aload_n (i := 0) rfl d_X5_bookAll_59 0 rfl ?_
    refine aw_geti (k0 := 12) kc_5 (ws_21 w) (Nat.le_of_ble_eq_true rfl) tw_447 d_X5_bookAll_60 rfl ?_
    refine aw_iload d_X5_bookAll_63 4 rfl ?_
    refine aw_iadd d_X5_bookAll_65 ?_
    refine aw_sipush (v := 600) d_X5_bookAll_66 is_600 ?_
    refine aw_icmp_le (tgt := 74) d_X5_bookAll_69 rfl (fun c5 => ?_) (fun c5 => ?_)
    · have k := k.1 c5
      refine aw_iconst (v := 0) d_X5_bookAll_74 ic_0 ?_
      refine aw_istore [(0, .ref 21), (1, .int x1), (3, .int x3), (4, .int x4), (5, .int x5), (6, .int 0)] d_X5_bookAll_75 (Nat.le_of_ble_eq_true rfl) rfl rfl ?_
      exact k
    · have k := k.2 c5
      refine aw_iconst (v := (-1)) d_X5_bookAll_72 ic_m1 ?_
      exact aw_iret rfl d_X5_bookAll_73 ⟨Nat.le_refl _, Nat.le_refl _⟩ ⟨_, rfl, k⟩
  · have k := k.2 c4
    refine aw_iload d_X5_bookAll_24 5 rfl ?_
    refine aw_bipush (v := 12) d_X5_bookAll_26 ib_12 ?_
    refine aw_irem d_X5_bookAll_28 (by decide) ?_
    refine aw_iload_n (i := 1) rfl d_X5_bookAll_29 1 rfl ?_
    refine aw_icmp_ge (tgt := 53) d_X5_bookAll_30 rfl (fun c6 => ?_) (fun c6 => ?_)
    · have k := k.1 c6
      refine aw_iinc (v := (x6 + 1)) [(0, .ref 21), (1, .int x1), (3, .int x3), (4, .int x4), (5, .int x5), (6, .int (x6 + 1))] d_X5_bookAll_53 5 rfl rfl (Nat.le_of_ble_eq_true rfl) rfl rfl ?_
      refine aw_goto (tgt := 17) d_X5_bookAll_56 rfl ?_
      exact k
    · have k := k.2 c6
      refine aw_aload_n (i := 0) rfl d_X5_bookAll_33 0 rfl ?_
      refine aw_getr (k0 := 6) kc_5 (ws_21 w) (Nat.le_of_ble_eq_true rfl) tw_441 d_X5_bookAll_34 rfl (wr_21_6 w) ?_
      refine aw_iload d_X5_bookAll_37 5 rfl ?_
      obtain ⟨b7, k⟩ := k
      refine aw_iald (ws_109 w) b7 d_X5_bookAll_39 ?_
      refine aw_aload_n (i := 0) rfl d_X5_bookAll_40 0 rfl ?_
      refine aw_getr (k0 := 7) kc_5 (ws_21 w) (Nat.le_of_ble_eq_true rfl) tw_442 d_X5_bookAll_41 rfl (wr_21_7 w) ?_
      refine aw_iload d_X5_bookAll_44 5 rfl ?_
      obtain ⟨b8, k⟩ := k
      refine aw_iald (ws_110 w) b8 d_X5_bookAll_46 ?_
      refine aw_icmp_eq (tgt := 53) d_X5_bookAll_47 rfl (fun c9 => ?_) (fun c9 => ?_)
      · have k := k.1 c9
        refine aw_iinc (v := (x6 + 1)) [(0, .ref 21), (1, .int x1), (3, .int x3), (4, .int x4), (5, .int x5), (6, .int (x6 + 1))] d_X5_bookAll_53 5 rfl rfl (Nat.le_of_ble_eq_true rfl) rfl rfl ?_
        refine aw_goto (tgt := 17) d_X5_bookAll_56 rfl ?_
        exact k
      · have k := k.2 c9
        refine aw_iinc (v := (x5 + 1)) [(0, .ref 21), (1, .int x1), (3, .int x3), (4, .int x4), (5, .int (x5 + 1)), (6, .int x6)] d_X5_bookAll_50 4 rfl rfl (Nat.le_of_ble_eq_true rfl) rfl rfl ?_
        refine aw_iinc (v := (x6 + 1)) [(0, .ref 21), (1, .int x1), (3, .int x3), (4, .int x4), (5, .int (x5 + 1)), (6, .int (x6 + 1))] d_X5_bookAll_53 5 rfl rfl (Nat.le_of_ble_eq_true rfl) rfl rfl ?_
        refine aw_goto (tgt := 17) d_X5_bookAll_56 rfl ?_
        exact k
theorem t_X5_bookAll_77 (d : Nat) (h : Hp_) (w : Wf h) (x1 : Int32) (x3 : Int32) (x4 : Int32) (x5 : Int32) (x6 : Int32) (K : Int32 → Hp_ → Prop) (k : (x4 ≤ x6 → K x5 h) ∧ (¬ x4 ≤ x6 → (x1 ≤ (x6 - x6 / 12 * 12) → AW (m_X5_bookAll (d + 1) 0 0) 0 0 77 [(0, .ref 21), (1, .int x1), (3, .int x3), (4, .int x4), (5, .int x5), (6, .int (x6 + 1))] [] h (kI K)) ∧ (¬ x1 ≤ (x6 - x6 / 12 * 12) → vp_in x6 168 ∧ (vp_in x6 168 ∧ (((h_i h 109 x6.toNatClampNeg) = (h_i h 110 x6.toNatClampNeg) → AW (m_X5_bookAll (d + 1) 0 0) 0 0 77 [(0, .ref 21), (1, .int x1), (3, .int x3), (4, .int x4), (5, .int x5), (6, .int (x6 + 1))] [] h (kI K)) ∧ (¬ (h_i h 109 x6.toNatClampNeg) = (h_i h 110 x6.toNatClampNeg) → Cv (m_X5_writeLine (d + 0) 0 0) [.ref 21, .int x6, .int x3] h (fun h15 => Wf h15 ∧ (AW (m_X5_bookAll (d + 1) 0 0) 0 0 77 [(0, .ref 21), (1, .int x1), (3, .int x3), (4, .int x4), (5, .int x5), (6, .int (x6 + 1))] [] h15 (kI K))))))))) : AW (m_X5_bookAll (d + 1) 0 0) 0 0 77 [(0, .ref 21), (1, .int x1), (3, .int x3), (4, .int x4), (5, .int x5), (6, .int x6)] [] h (kI K) := by
  refine aw_iload d_X5_bookAll_77 5 rfl ?_
  refine aw_iload d_X5_bookAll_79 3 rfl ?_
  refine aw_icmp_ge (tgt := 123) d_X5_bookAll_81 rfl (fun c10 => ?_) (fun c10 => ?_)
  · have k := k.1 c10
    refine aw_iload d_X5_bookAll_123 4 rfl ?_
    exact aw_iret rfl d_X5_bookAll_125 ⟨Nat.le_refl _, Nat.le_refl _⟩ ⟨_, rfl, k⟩
  · have k := k.2 c10
    refine aw_iload d_X5_bookAll_84 5 rfl ?_
    refine aw_bipush (v := 12) d_X5_bookAll_86 ib_12 ?_
    refine aw_irem d_X5_bookAll_88 (by decide) ?_
    refine aw_iload_n (i := 1) rfl d_X5_bookAll_89 1 rfl ?_
    refine aw_icmp_ge (tgt := 117) d_X5_bookAll_90 rfl (fun c11 => ?_) (fun c11 => ?_)
    · have k := k.1 c11
      refine aw_iinc (v := (x6 + 1)) [(0, .ref 21), (1, .int x1), (3, .int x3), (4, .int x4), (5, .int x5), (6, .int (x6 + 1))] d_X5_bookAll_117 5 rfl rfl (Nat.le_of_ble_eq_true rfl) rfl rfl ?_
      refine aw_goto (tgt := 77) d_X5_bookAll_120 rfl ?_
      exact k
    · have k := k.2 c11
      refine aw_aload_n (i := 0) rfl d_X5_bookAll_93 0 rfl ?_
      refine aw_getr (k0 := 6) kc_5 (ws_21 w) (Nat.le_of_ble_eq_true rfl) tw_441 d_X5_bookAll_94 rfl (wr_21_6 w) ?_
      refine aw_iload d_X5_bookAll_97 5 rfl ?_
      obtain ⟨b12, k⟩ := k
      refine aw_iald (ws_109 w) b12 d_X5_bookAll_99 ?_
      refine aw_aload_n (i := 0) rfl d_X5_bookAll_100 0 rfl ?_
      refine aw_getr (k0 := 7) kc_5 (ws_21 w) (Nat.le_of_ble_eq_true rfl) tw_442 d_X5_bookAll_101 rfl (wr_21_7 w) ?_
      refine aw_iload d_X5_bookAll_104 5 rfl ?_
      obtain ⟨b13, k⟩ := k
      refine aw_iald (ws_110 w) b13 d_X5_bookAll_106 ?_
      refine aw_icmp_eq (tgt := 117) d_X5_bookAll_107 rfl (fun c14 => ?_) (fun c14 => ?_)
      · have k := k.1 c14
        refine aw_iinc (v := (x6 + 1)) [(0, .ref 21), (1, .int x1), (3, .int x3), (4, .int x4), (5, .int x5), (6, .int (x6 + 1))] d_X5_bookAll_117 5 rfl rfl (Nat.le_of_ble_eq_true rfl) rfl rfl ?_
        refine aw_goto (tgt := 77) d_X5_bookAll_120 rfl ?_
        exact k
      · have k := k.2 c14
        refine aw_aload_n (i := 0) rfl d_X5_bookAll_110 0 rfl ?_
        refine aw_iload d_X5_bookAll_111 5 rfl ?_
        refine aw_iload_n (i := 3) rfl d_X5_bookAll_113 2 rfl ?_
        refine aw_Vv 21 [.int x6, .int x3] [] d_X5_bookAll_114 (cV_X5_writeLine (d + 0) 0 0) kc_5 (ws_21 w) tw_1615 rfl (rr0 (Nat.le_of_ble_eq_true rfl) (Nat.le_of_ble_eq_true rfl)) (Nat.le_of_ble_eq_true rfl) xs0 k (fun h15 kk => ?_)
        obtain ⟨w16, k⟩ := kk
        refine aw_iinc (v := (x6 + 1)) [(0, .ref 21), (1, .int x1), (3, .int x3), (4, .int x4), (5, .int x5), (6, .int (x6 + 1))] d_X5_bookAll_117 5 rfl rfl (Nat.le_of_ble_eq_true rfl) rfl rfl ?_
        refine aw_goto (tgt := 77) d_X5_bookAll_120 rfl ?_
        exact k
theorem t_X5_tellLine (d : Nat) (h : Hp_) (w : Wf h) (x1 : Int32) (x2 : Int32) (K : Int32 → Hp_ → Prop) (k : ((0 ≤ x1 ∧ x1 ≤ ((h_i h 21 12) - 1)) → (x2 = 0 → vp_in x1 600 ∧ (K (h_i h 111 x1.toNatClampNeg) h)) ∧ ((x2 = 1 → vp_in x1 600 ∧ (K (h_i h 112 x1.toNatClampNeg) h)) ∧ ((x2 = 2 → vp_in x1 600 ∧ (K (h_i h 113 x1.toNatClampNeg) h)) ∧ ((x2 = 3 → vp_in x1 600 ∧ (K (h_i h 114 x1.toNatClampNeg) h)) ∧ ((¬ x2 = 0 ∧ ¬ x2 = 1 ∧ ¬ x2 = 2 ∧ ¬ x2 = 3 → K (-1000000) h)))))) ∧ (¬ (0 ≤ x1 ∧ x1 ≤ ((h_i h 21 12) - 1)) → K (-1000000) h)) : Ci (m_X5_tellLine (d + 1) 0 0) [.ref 21, .int x1, .int x2] h K := by
  refine Ct.of (fun _ _ _ => trivial) rfl (Nat.le_of_ble_eq_true rfl) ?_
  show AW (m_X5_tellLine (d + 1) 0 0) 0 0 0 [(0, .ref 21), (1, .int x1), (2, .int x2)] [] h (kI K)
  refine aw_iload_n (i := 1) rfl d_X5_tellLine_0 1 rfl ?_
  refine aw_iconst (v := 0) d_X5_tellLine_1 ic_0 ?_
  refine aw_aload_n (i := 0) rfl d_X5_tellLine_2 0 rfl ?_
  refine aw_geti (k0 := 12) kc_5 (ws_21 w) (Nat.le_of_ble_eq_true rfl) tw_447 d_X5_tellLine_3 rfl ?_
  refine aw_iconst (v := 1) d_X5_tellLine_6 ic_1 ?_
  refine aw_isub d_X5_tellLine_7 ?_
  refine aw_SNi [.int x1, .int 0, .int ((h_i h 21 12) - 1)] [] d_X5_tellLine_8 (cS_X11_within (d + 0) 0 0) (List.mem_of_getElem? (i := 10) rfl) rfl (rr0 (Nat.le_of_ble_eq_true rfl) (Nat.le_of_ble_eq_true rfl)) (Nat.le_of_ble_eq_true rfl) xs0 (s_X11_within _ _ x1 0 ((h_i h 21 12) - 1)) (fun _ _ kk => ?_)
  obtain ⟨e1, e2⟩ := kk
  rw [e1, e2]
  refine aw_ifb_ne (tgt := 17) d_X5_tellLine_11 rfl (fun c3 => ?_) (fun c3 => ?_)
  · have k := k.1 c3
    refine aw_iload_n (i := 2) rfl d_X5_tellLine_17 2 rfl ?_
    by_cases e4 : x2 = 0
    · refine aw_tableIn (off := 30) (tgt := 48) d_X5_tellLine_18 (by rw [e4]; decide) (by rw [e4]; decide) (by rw [e4]; decide) rfl ?_
      have k := k.1 e4
      refine aw_aload_n (i := 0) rfl d_X5_tellLine_48 0 rfl ?_
      refine aw_getr (k0 := 8) kc_5 (ws_21 w) (Nat.le_of_ble_eq_true rfl) tw_443 d_X5_tellLine_49 rfl (wr_21_8 w) ?_
      refine aw_iload_n (i := 1) rfl d_X5_tellLine_52 1 rfl ?_
      obtain ⟨b5, k⟩ := k
      refine aw_iald (ws_111 w) b5 d_X5_tellLine_53 ?_
      exact aw_iret rfl d_X5_tellLine_54 ⟨Nat.le_refl _, Nat.le_refl _⟩ ⟨_, rfl, k⟩
    · have k := k.2
      by_cases e6 : x2 = 1
      · refine aw_tableIn (off := 37) (tgt := 55) d_X5_tellLine_18 (by rw [e6]; decide) (by rw [e6]; decide) (by rw [e6]; decide) rfl ?_
        have k := k.1 e6
        refine aw_aload_n (i := 0) rfl d_X5_tellLine_55 0 rfl ?_
        refine aw_getr (k0 := 9) kc_5 (ws_21 w) (Nat.le_of_ble_eq_true rfl) tw_444 d_X5_tellLine_56 rfl (wr_21_9 w) ?_
        refine aw_iload_n (i := 1) rfl d_X5_tellLine_59 1 rfl ?_
        obtain ⟨b7, k⟩ := k
        refine aw_iald (ws_112 w) b7 d_X5_tellLine_60 ?_
        exact aw_iret rfl d_X5_tellLine_61 ⟨Nat.le_refl _, Nat.le_refl _⟩ ⟨_, rfl, k⟩
      · have k := k.2
        by_cases e8 : x2 = 2
        · refine aw_tableIn (off := 44) (tgt := 62) d_X5_tellLine_18 (by rw [e8]; decide) (by rw [e8]; decide) (by rw [e8]; decide) rfl ?_
          have k := k.1 e8
          refine aw_aload_n (i := 0) rfl d_X5_tellLine_62 0 rfl ?_
          refine aw_getr (k0 := 10) kc_5 (ws_21 w) (Nat.le_of_ble_eq_true rfl) tw_445 d_X5_tellLine_63 rfl (wr_21_10 w) ?_
          refine aw_iload_n (i := 1) rfl d_X5_tellLine_66 1 rfl ?_
          obtain ⟨b9, k⟩ := k
          refine aw_iald (ws_113 w) b9 d_X5_tellLine_67 ?_
          exact aw_iret rfl d_X5_tellLine_68 ⟨Nat.le_refl _, Nat.le_refl _⟩ ⟨_, rfl, k⟩
        · have k := k.2
          by_cases e10 : x2 = 3
          · refine aw_tableIn (off := 51) (tgt := 69) d_X5_tellLine_18 (by rw [e10]; decide) (by rw [e10]; decide) (by rw [e10]; decide) rfl ?_
            have k := k.1 e10
            refine aw_aload_n (i := 0) rfl d_X5_tellLine_69 0 rfl ?_
            refine aw_getr (k0 := 11) kc_5 (ws_21 w) (Nat.le_of_ble_eq_true rfl) tw_446 d_X5_tellLine_70 rfl (wr_21_11 w) ?_
            refine aw_iload_n (i := 1) rfl d_X5_tellLine_73 1 rfl ?_
            obtain ⟨b11, k⟩ := k
            refine aw_iald (ws_114 w) b11 d_X5_tellLine_74 ?_
            exact aw_iret rfl d_X5_tellLine_75 ⟨Nat.le_refl _, Nat.le_refl _⟩ ⟨_, rfl, k⟩
          · have k := k.2
            have k := k ⟨e4, e6, e8, e10⟩
            have n12 := sw_ne (0) (by decide) e4
            have n13 := sw_ne (1) (by decide) e6
            have n14 := sw_ne (2) (by decide) e8
            have n15 := sw_ne (3) (by decide) e10
            refine aw_tableOut (tgt := 76) d_X5_tellLine_18 (by omega) rfl ?_
            refine aw_ldc (v := (-1000000)) d_X5_tellLine_76 tw_1627 ?_
            exact aw_iret rfl d_X5_tellLine_78 ⟨Nat.le_refl _, Nat.le_refl _⟩ ⟨_, rfl, k⟩
  · have k := k.2 c3
    refine aw_ldc (v := (-1000000)) d_X5_tellLine_14 tw_1627 ?_
    exact aw_iret rfl d_X5_tellLine_16 ⟨Nat.le_refl _, Nat.le_refl _⟩ ⟨_, rfl, k⟩
theorem t_X5_setMark (d : Nat) (h : Hp_) (w : Wf h) (x1 : Int32) (x2 : Int32) (x3 : Int32) (K : Hp_ → Prop) (k : (¬ (0 ≤ x1 ∧ x1 ≤ 3) → K h) ∧ ((0 ≤ x1 ∧ x1 ≤ 3) → (¬ (0 ≤ x2 ∧ x2 ≤ 11) → K h) ∧ ((0 ≤ x2 ∧ x2 ≤ 11) → vp_in ((x1 * 12) + x2) 48 ∧ (K (h_im h 115 (((x1 * 12) + x2) : Int32).toNatClampNeg x3))))) : Cv (m_X5_setMark (d + 1) 0 0) [.ref 21, .int x1, .int x2, .int x3] h K := by
  refine Ct.of (fun _ _ _ => trivial) rfl (Nat.le_of_ble_eq_true rfl) ?_
  show AW (m_X5_setMark (d + 1) 0 0) 0 0 0 [(0, .ref 21), (1, .int x1), (2, .int x2), (3, .int x3)] [] h (kV K)
  refine aw_iload_n (i := 1) rfl d_X5_setMark_0 1 rfl ?_
  refine aw_iconst (v := 0) d_X5_setMark_1 ic_0 ?_
  refine aw_iconst (v := 3) d_X5_setMark_2 ic_3 ?_
  refine aw_SNi [.int x1, .int 0, .int 3] [] d_X5_setMark_3 (cS_X11_within (d + 0) 0 0) (List.mem_of_getElem? (i := 10) rfl) rfl (rr0 (Nat.le_of_ble_eq_true rfl) (Nat.le_of_ble_eq_true rfl)) (Nat.le_of_ble_eq_true rfl) xs0 (s_X11_within _ _ x1 0 3) (fun _ _ kk => ?_)
  obtain ⟨e1, e2⟩ := kk
  rw [e1, e2]
  refine aw_ifb_eq (tgt := 31) d_X5_setMark_6 rfl (fun c3 => ?_) (fun c3 => ?_)
  · have k := k.1 c3
    exact aw_vret rfl d_X5_setMark_31 ⟨Nat.le_refl _, Nat.le_refl _⟩ ⟨rfl, k⟩
  · have k := k.2 c3
    refine aw_iload_n (i := 2) rfl d_X5_setMark_9 2 rfl ?_
    refine aw_iconst (v := 0) d_X5_setMark_10 ic_0 ?_
    refine aw_bipush (v := 11) d_X5_setMark_11 ib_11 ?_
    refine aw_SNi [.int x2, .int 0, .int 11] [] d_X5_setMark_13 (cS_X11_within (d + 0) 0 0) (List.mem_of_getElem? (i := 10) rfl) rfl (rr0 (Nat.le_of_ble_eq_true rfl) (Nat.le_of_ble_eq_true rfl)) (Nat.le_of_ble_eq_true rfl) xs0 (s_X11_within _ _ x2 0 11) (fun _ _ kk => ?_)
    obtain ⟨e4, e5⟩ := kk
    rw [e4, e5]
    refine aw_ifb_eq (tgt := 31) d_X5_setMark_16 rfl (fun c6 => ?_) (fun c6 => ?_)
    · have k := k.1 c6
      exact aw_vret rfl d_X5_setMark_31 ⟨Nat.le_refl _, Nat.le_refl _⟩ ⟨rfl, k⟩
    · have k := k.2 c6
      refine aw_aload_n (i := 0) rfl d_X5_setMark_19 0 rfl ?_
      refine aw_getr (k0 := 14) kc_5 (ws_21 w) (Nat.le_of_ble_eq_true rfl) tw_451 d_X5_setMark_20 rfl (wr_21_14 w) ?_
      refine aw_iload_n (i := 1) rfl d_X5_setMark_23 1 rfl ?_
      refine aw_bipush (v := 12) d_X5_setMark_24 ib_12 ?_
      refine aw_imul d_X5_setMark_26 ?_
      refine aw_iload_n (i := 2) rfl d_X5_setMark_27 2 rfl ?_
      refine aw_iadd d_X5_setMark_28 ?_
      refine aw_iload_n (i := 3) rfl d_X5_setMark_29 3 rfl ?_
      obtain ⟨b7, k⟩ := k
      refine aw_iast (ws_115 w) b7 d_X5_setMark_30 ?_
      exact aw_vret rfl d_X5_setMark_31 ⟨Nat.le_refl _, Nat.le_refl _⟩ ⟨rfl, k⟩
theorem t_X5_compare (d : Nat) (h : Hp_) (x1 : Int32) (x2 : Int32) (x3 : Int32) (K : Int32 → Hp_ → Prop) (k : AW (m_X5_compare (d + 1) 0 0) 0 0 9 [(0, .ref 21), (1, .int x1), (2, .int x2), (3, .int x3), (4, .int 0), (5, .int 0), (6, .int 0)] [] h (kI K)) : Ci (m_X5_compare (d + 1) 0 0) [.ref 21, .int x1, .int x2, .int x3] h K := by
  refine Ct.of (fun _ _ _ => trivial) rfl (Nat.le_of_ble_eq_true rfl) ?_
  show AW (m_X5_compare (d + 1) 0 0) 0 0 0 [(0, .ref 21), (1, .int x1), (2, .int x2), (3, .int x3)] [] h (kI K)
  refine aw_iconst (v := 0) d_X5_compare_0 ic_0 ?_
  refine aw_istore [(0, .ref 21), (1, .int x1), (2, .int x2), (3, .int x3), (4, .int 0)] d_X5_compare_1 (Nat.le_of_ble_eq_true rfl) rfl rfl ?_
  refine aw_iconst (v := 0) d_X5_compare_3 ic_0 ?_
  refine aw_istore [(0, .ref 21), (1, .int x1), (2, .int x2), (3, .int x3), (4, .int 0), (5, .int 0)] d_X5_compare_4 (Nat.le_of_ble_eq_true rfl) rfl rfl ?_
  refine aw_iconst (v := 0) d_X5_compare_6 ic_0 ?_
  refine aw_istore [(0, .ref 21), (1, .int x1), (2, .int x2), (3, .int x3), (4, .int 0), (5, .int 0), (6, .int 0)] d_X5_compare_7 (Nat.le_of_ble_eq_true rfl) rfl rfl ?_
  exact k
theorem t_X5_compare_9 (d : Nat) (h : Hp_) (x1 : Int32) (x2 : Int32) (x3 : Int32) (x4 : Int32) (x5 : Int32) (x6 : Int32) (K : Int32 → Hp_ → Prop) (k : Ci (m_J9_min_7cf53 (d + 0) 0 0) [.int x3, .int 12] h (fun r3 h1 => Wf h1 ∧ ((r3 ≤ x6 → (x4 < (h_i h1 21 15) → K (-1000000) h1) ∧ (¬ x4 < (h_i h1 21 15) → K x5 h1)) ∧ (¬ r3 ≤ x6 → vp_in ((x1 * 12) + x6) 48 ∧ (vp_in ((x2 * 12) + x6) 48 ∧ (((h_i h1 115 (((x1 * 12) + x6) : Int32).toNatClampNeg) = (-1) → AW (m_X5_compare (d + 1) 0 0) 0 0 9 [(0, .ref 21), (1, .int x1), (2, .int x2), (3, .int x3), (4, .int x4), (5, .int x5), (6, .int (x6 + 1))] [] h1 (kI K)) ∧ (¬ (h_i h1 115 (((x1 * 12) + x6) : Int32).toNatClampNeg) = (-1) → ((h_i h1 115 (((x2 * 12) + x6) : Int32).toNatClampNeg) = (-1) → AW (m_X5_compare (d + 1) 0 0) 0 0 9 [(0, .ref 21), (1, .int x1), (2, .int x2), (3, .int x3), (4, .int x4), (5, .int x5), (6, .int (x6 + 1))] [] h1 (kI K)) ∧ (¬ (h_i h1 115 (((x2 * 12) + x6) : Int32).toNatClampNeg) = (-1) → AW (m_X5_compare (d + 1) 0 0) 0 0 9 [(0, .ref 21), (1, .int x1), (2, .int x2), (3, .int x3), (4, .int (x4 + 1)), (5, .int (x5 + ((h_i h1 115 (((x1 * 12) + x6) : Int32).toNatClampNeg) - (h_i h1 115 (((x2 * 12) + x6) : Int32).toNatClampNeg)))), (6, .int (x6 + 1))] [] h1 (kI K))))))))) : AW (m_X5_compare (d + 1) 0 0) 0 0 9 [(0, .ref 21), (1, .int x1), (2, .int x2), (3, .int x3), (4, .int x4), (5, .int x5), (6, .int x6)] [] h (kI K) := by
  refine aw_iload d_X5_compare_9 6 rfl ?_
  refine aw_iload_n (i := 3) rfl d_X5_compare_11 3 rfl ?_
  refine aw_bipush (v := 12) d_X5_compare_12 ib_12 ?_
  refine aw_Si [.int x3, .int 12] [.int x6] d_X5_compare_14 (cS_J9_min_7cf53 (d + 0) 0 0) tw_1614 rfl (rr0 (Nat.le_of_ble_eq_true rfl) (Nat.le_of_ble_eq_true rfl)) (Nat.le_of_ble_eq_true rfl) xs0 k (fun r3 h1 kk => ?_)
  obtain ⟨w2, k⟩ := kk
  refine aw_icmp_ge (tgt := 79) d_X5_compare_17 rfl (fun c4 => ?_) (fun c4 => ?_)
  · have k := k.1 c4
    refine aw_iload d_X5_compare_79 4 rfl ?_
    refine aw_aload_n (i := 0) rfl d_X5_compare_81 0 rfl ?_
    refine aw_geti (k0 := 15) kc_5 (ws_21 w2) (Nat.le_of_ble_eq_true rfl) tw_452 d_X5_compare_82 rfl ?_
    refine aw_icmp_lt (tgt := 93) d_X5_compare_85 rfl (fun c5 => ?_) (fun c5 => ?_)
    · have k := k.1 c5
      refine aw_ldc (v := (-1000000)) d_X5_compare_93 tw_1627 ?_
      exact aw_iret rfl d_X5_compare_95 ⟨Nat.le_refl _, Nat.le_refl _⟩ ⟨_, rfl, k⟩
    · have k := k.2 c5
      refine aw_iload d_X5_compare_88 5 rfl ?_
      refine aw_goto (tgt := 95) d_X5_compare_90 rfl ?_
      exact aw_iret rfl d_X5_compare_95 ⟨Nat.le_refl _, Nat.le_refl _⟩ ⟨_, rfl, k⟩
  · have k := k.2 c4
    refine aw_aload_n (i := 0) rfl d_X5_compare_20 0 rfl ?_
    refine aw_getr (k0 := 14) kc_5 (ws_21 w2) (Nat.le_of_ble_eq_true rfl) tw_451 d_X5_compare_21 rfl (wr_21_14 w2) ?_
    refine aw_iload_n (i := 1) rfl d_X5_compare_24 1 rfl ?_
    refine aw_bipush (v := 12) d_X5_compare_25 ib_12 ?_
    refine aw_imul d_X5_compare_27 ?_
    refine aw_iload d_X5_compare_28 6 rfl ?_
    refine aw_iadd d_X5_compare_30 ?_
    obtain ⟨b6, k⟩ := k
    refine aw_iald (ws_115 w2) b6 d_X5_compare_31 ?_
    refine aw_istore [(0, .ref 21), (1, .int x1), (2, .int x2), (3, .int x3), (4, .int x4), (5, .int x5), (6, .int x6), (7, .int (h_i h1 115 (((x1 * 12) + x6) : Int32).toNatClampNeg))] d_X5_compare_32 (Nat.le_of_ble_eq_true rfl) rfl rfl ?_
    refine aw_aload_n (i := 0) rfl d_X5_compare_34 0 rfl ?_
    refine aw_getr (k0 := 14) kc_5 (ws_21 w2) (Nat.le_of_ble_eq_true rfl) tw_451 d_X5_compare_35 rfl (wr_21_14 w2) ?_
    refine aw_iload_n (i := 2) rfl d_X5_compare_38 2 rfl ?_
    refine aw_bipush (v := 12) d_X5_compare_39 ib_12 ?_
    refine aw_imul d_X5_compare_41 ?_
    refine aw_iload d_X5_compare_42 6 rfl ?_
    refine aw_iadd d_X5_compare_44 ?_
    obtain ⟨b7, k⟩ := k
    refine aw_iald (ws_115 w2) b7 d_X5_compare_45 ?_
    refine aw_istore [(0, .ref 21), (1, .int x1), (2, .int x2), (3, .int x3), (4, .int x4), (5, .int x5), (6, .int x6), (7, .int (h_i h1 115 (((x1 * 12) + x6) : Int32).toNatClampNeg)), (8, .int (h_i h1 115 (((x2 * 12) + x6) : Int32).toNatClampNeg))] d_X5_compare_46 (Nat.le_of_ble_eq_true rfl) rfl rfl ?_
    refine aw_iload d_X5_compare_48 7 rfl ?_
    refine aw_iconst (v := (-1)) d_X5_compare_50 ic_m1 ?_
    refine aw_icmp_eq (tgt := 73) d_X5_compare_51 rfl (fun c8 => ?_) (fun c8 => ?_)
    · have k := k.1 c8
      refine aw_iinc (v := (x6 + 1)) [(0, .ref 21), (1, .int x1), (2, .int x2), (3, .int x3), (4, .int x4), (5, .int x5), (6, .int (x6 + 1)), (7, .int (h_i h1 115 (((x1 * 12) + x6) : Int32).toNatClampNeg)), (8, .int (h_i h1 115 (((x2 * 12) + x6) : Int32).toNatClampNeg))] d_X5_compare_73 6 rfl rfl (Nat.le_of_ble_eq_true rfl) rfl rfl ?_
      refine aw_goto (tgt := 9) d_X5_compare_76 rfl ?_
      exact aw_lvp [0, 1, 2, 3, 4, 5, 6] [(0, .ref 21), (1, .int x1), (2, .int x2), (3, .int x3), (4, .int x4), (5, .int x5), (6, .int (x6 + 1))] rfl k
    · have k := k.2 c8
      refine aw_iload d_X5_compare_54 8 rfl ?_
      refine aw_iconst (v := (-1)) d_X5_compare_56 ic_m1 ?_
      refine aw_icmp_eq (tgt := 73) d_X5_compare_57 rfl (fun c9 => ?_) (fun c9 => ?_)
      · have k := k.1 c9
        refine aw_iinc (v := (x6 + 1)) [(0, .ref 21), (1, .int x1), (2, .int x2), (3, .int x3), (4, .int x4), (5, .int x5), (6, .int (x6 + 1)), (7, .int (h_i h1 115 (((x1 * 12) + x6) : Int32).toNatClampNeg)), (8, .int (h_i h1 115 (((x2 * 12) + x6) : Int32).toNatClampNeg))] d_X5_compare_73 6 rfl rfl (Nat.le_of_ble_eq_true rfl) rfl rfl ?_
        refine aw_goto (tgt := 9) d_X5_compare_76 rfl ?_
        exact aw_lvp [0, 1, 2, 3, 4, 5, 6] [(0, .ref 21), (1, .int x1), (2, .int x2), (3, .int x3), (4, .int x4), (5, .int x5), (6, .int (x6 + 1))] rfl k
      · have k := k.2 c9
        refine aw_iinc (v := (x4 + 1)) [(0, .ref 21), (1, .int x1), (2, .int x2), (3, .int x3), (4, .int (x4 + 1)), (5, .int x5), (6, .int x6), (7, .int (h_i h1 115 (((x1 * 12) + x6) : Int32).toNatClampNeg)), (8, .int (h_i h1 115 (((x2 * 12) + x6) : Int32).toNatClampNeg))] d_X5_compare_60 4 rfl rfl (Nat.le_of_ble_eq_true rfl) rfl rfl ?_
        refine aw_iload d_X5_compare_63 5 rfl ?_
        refine aw_iload d_X5_compare_65 7 rfl ?_
        refine aw_iload d_X5_compare_67 8 rfl ?_
        refine aw_isub d_X5_compare_69 ?_
        refine aw_iadd d_X5_compare_70 ?_
        refine aw_istore [(0, .ref 21), (1, .int x1), (2, .int x2), (3, .int x3), (4, .int (x4 + 1)), (5, .int (x5 + ((h_i h1 115 (((x1 * 12) + x6) : Int32).toNatClampNeg) - (h_i h1 115 (((x2 * 12) + x6) : Int32).toNatClampNeg)))), (6, .int x6), (7, .int (h_i h1 115 (((x1 * 12) + x6) : Int32).toNatClampNeg)), (8, .int (h_i h1 115 (((x2 * 12) + x6) : Int32).toNatClampNeg))] d_X5_compare_71 (Nat.le_of_ble_eq_true rfl) rfl rfl ?_
        refine aw_iinc (v := (x6 + 1)) [(0, .ref 21), (1, .int x1), (2, .int x2), (3, .int x3), (4, .int (x4 + 1)), (5, .int (x5 + ((h_i h1 115 (((x1 * 12) + x6) : Int32).toNatClampNeg) - (h_i h1 115 (((x2 * 12) + x6) : Int32).toNatClampNeg)))), (6, .int (x6 + 1)), (7, .int (h_i h1 115 (((x1 * 12) + x6) : Int32).toNatClampNeg)), (8, .int (h_i h1 115 (((x2 * 12) + x6) : Int32).toNatClampNeg))] d_X5_compare_73 6 rfl rfl (Nat.le_of_ble_eq_true rfl) rfl rfl ?_
        refine aw_goto (tgt := 9) d_X5_compare_76 rfl ?_
        exact aw_lvp [0, 1, 2, 3, 4, 5, 6] [(0, .ref 21), (1, .int x1), (2, .int x2), (3, .int x3), (4, .int (x4 + 1)), (5, .int (x5 + ((h_i h1 115 (((x1 * 12) + x6) : Int32).toNatClampNeg) - (h_i h1 115 (((x2 * 12) + x6) : Int32).toNatClampNeg)))), (6, .int (x6 + 1))] rfl k
theorem t_X6_placeOfFair (d : Nat) (h : Hp_) (w : Wf h) (x1 : Int32) (K : Int32 → Hp_ → Prop) (k : (¬ (0 ≤ x1 ∧ x1 ≤ ((h_i h 20 16) - 1)) → K (-1) h) ∧ ((0 ≤ x1 ∧ x1 ≤ ((h_i h 20 16) - 1)) → vp_in x1 4 ∧ (K (h_i h 98 x1.toNatClampNeg) h))) : Ci (m_X6_placeOfFair (d + 1) 0 0) [.ref 20, .int x1] h K := by
  refine Ct.of (fun _ _ _ => trivial) rfl (Nat.le_of_ble_eq_true rfl) ?_
  show AW (m_X6_placeOfFair (d + 1) 0 0) 0 0 0 [(0, .ref 20), (1, .int x1)] [] h (kI K)
  refine aw_iload_n (i := 1) rfl d_X6_placeOfFair_0 1 rfl ?_
  refine aw_iconst (v := 0) d_X6_placeOfFair_1 ic_0 ?_
  refine aw_aload_n (i := 0) rfl d_X6_placeOfFair_2 0 rfl ?_
  refine aw_geti (k0 := 16) kc_6 (ws_20 w) (Nat.le_of_ble_eq_true rfl) tw_380 d_X6_placeOfFair_3 rfl ?_
  refine aw_iconst (v := 1) d_X6_placeOfFair_6 ic_1 ?_
  refine aw_isub d_X6_placeOfFair_7 ?_
  refine aw_SNi [.int x1, .int 0, .int ((h_i h 20 16) - 1)] [] d_X6_placeOfFair_8 (cS_X11_within (d + 0) 0 0) (List.mem_of_getElem? (i := 14) rfl) rfl (rr0 (Nat.le_of_ble_eq_true rfl) (Nat.le_of_ble_eq_true rfl)) (Nat.le_of_ble_eq_true rfl) xs0 (s_X11_within _ _ x1 0 ((h_i h 20 16) - 1)) (fun _ _ kk => ?_)
  obtain ⟨e1, e2⟩ := kk
  rw [e1, e2]
  refine aw_ifb_eq (tgt := 23) d_X6_placeOfFair_11 rfl (fun c3 => ?_) (fun c3 => ?_)
  · have k := k.1 c3
    refine aw_iconst (v := (-1)) d_X6_placeOfFair_23 ic_m1 ?_
    exact aw_iret rfl d_X6_placeOfFair_24 ⟨Nat.le_refl _, Nat.le_refl _⟩ ⟨_, rfl, k⟩
  · have k := k.2 c3
    refine aw_aload_n (i := 0) rfl d_X6_placeOfFair_14 0 rfl ?_
    refine aw_getr (k0 := 13) kc_6 (ws_20 w) (Nat.le_of_ble_eq_true rfl) tw_377 d_X6_placeOfFair_15 rfl (wr_20_13 w) ?_
    refine aw_iload_n (i := 1) rfl d_X6_placeOfFair_18 1 rfl ?_
    obtain ⟨b4, k⟩ := k
    refine aw_iald (ws_98 w) b4 d_X6_placeOfFair_19 ?_
    refine aw_goto (tgt := 24) d_X6_placeOfFair_20 rfl ?_
    exact aw_iret rfl d_X6_placeOfFair_24 ⟨Nat.le_refl _, Nat.le_refl _⟩ ⟨_, rfl, k⟩
theorem t_X6_minuteOfFair (d : Nat) (h : Hp_) (w : Wf h) (x1 : Int32) (K : Int32 → Hp_ → Prop) (k : (¬ (0 ≤ x1 ∧ x1 ≤ ((h_i h 20 16) - 1)) → K (-1) h) ∧ ((0 ≤ x1 ∧ x1 ≤ ((h_i h 20 16) - 1)) → vp_in x1 4 ∧ (K (h_i h 99 x1.toNatClampNeg) h))) : Ci (m_X6_minuteOfFair (d + 1) 0 0) [.ref 20, .int x1] h K := by
  refine Ct.of (fun _ _ _ => trivial) rfl (Nat.le_of_ble_eq_true rfl) ?_
  show AW (m_X6_minuteOfFair (d + 1) 0 0) 0 0 0 [(0, .ref 20), (1, .int x1)] [] h (kI K)
  refine aw_iload_n (i := 1) rfl d_X6_minuteOfFair_0 1 rfl ?_
  refine aw_iconst (v := 0) d_X6_minuteOfFair_1 ic_0 ?_
  refine aw_aload_n (i := 0) rfl d_X6_minuteOfFair_2 0 rfl ?_
  refine aw_geti (k0 := 16) kc_6 (ws_20 w) (Nat.le_of_ble_eq_true rfl) tw_380 d_X6_minuteOfFair_3 rfl ?_
  refine aw_iconst (v := 1) d_X6_minuteOfFair_6 ic_1 ?_
  refine aw_isub d_X6_minuteOfFair_7 ?_
  refine aw_SNi [.int x1, .int 0, .int ((h_i h 20 16) - 1)] [] d_X6_minuteOfFair_8 (cS_X11_within (d + 0) 0 0) (List.mem_of_getElem? (i := 14) rfl) rfl (rr0 (Nat.le_of_ble_eq_true rfl) (Nat.le_of_ble_eq_true rfl)) (Nat.le_of_ble_eq_true rfl) xs0 (s_X11_within _ _ x1 0 ((h_i h 20 16) - 1)) (fun _ _ kk => ?_)
  obtain ⟨e1, e2⟩ := kk
  rw [e1, e2]
  refine aw_ifb_eq (tgt := 23) d_X6_minuteOfFair_11 rfl (fun c3 => ?_) (fun c3 => ?_)
  · have k := k.1 c3
    refine aw_iconst (v := (-1)) d_X6_minuteOfFair_23 ic_m1 ?_
    exact aw_iret rfl d_X6_minuteOfFair_24 ⟨Nat.le_refl _, Nat.le_refl _⟩ ⟨_, rfl, k⟩
  · have k := k.2 c3
    refine aw_aload_n (i := 0) rfl d_X6_minuteOfFair_14 0 rfl ?_
    refine aw_getr (k0 := 14) kc_6 (ws_20 w) (Nat.le_of_ble_eq_true rfl) tw_378 d_X6_minuteOfFair_15 rfl (wr_20_14 w) ?_
    refine aw_iload_n (i := 1) rfl d_X6_minuteOfFair_18 1 rfl ?_
    obtain ⟨b4, k⟩ := k
    refine aw_iald (ws_99 w) b4 d_X6_minuteOfFair_19 ?_
    refine aw_goto (tgt := 24) d_X6_minuteOfFair_20 rfl ?_
    exact aw_iret rfl d_X6_minuteOfFair_24 ⟨Nat.le_refl _, Nat.le_refl _⟩ ⟨_, rfl, k⟩
theorem t_X6_setPrice (d : Nat) (h : Hp_) (w : Wf h) (x1 : Int32) (x2 : Int32) (x3 : Int32) (K : Hp_ → Prop) (k : (¬ (0 ≤ x1 ∧ x1 ≤ 11) → K h) ∧ ((0 ≤ x1 ∧ x1 ≤ 11) → (¬ (0 ≤ x2 ∧ x2 ≤ 3) → K h) ∧ ((0 ≤ x2 ∧ x2 ≤ 3) → vp_in ((x1 * 4) + x2) 48 ∧ (K (h_im h 101 (((x1 * 4) + x2) : Int32).toNatClampNeg x3))))) : Cv (m_X6_setPrice (d + 1) 0 0) [.ref 20, .int x1, .int x2, .int x3] h K := by
  refine Ct.of (fun _ _ _ => trivial) rfl (Nat.le_of_ble_eq_true rfl) ?_
  show AW (m_X6_setPrice (d + 1) 0 0) 0 0 0 [(0, .ref 20), (1, .int x1), (2, .int x2), (3, .int x3)] [] h (kV K)
  refine aw_iload_n (i := 1) rfl d_X6_setPrice_0 1 rfl ?_
  refine aw_iconst (v := 0) d_X6_setPrice_1 ic_0 ?_
  refine aw_bipush (v := 11) d_X6_setPrice_2 ib_11 ?_
  refine aw_SNi [.int x1, .int 0, .int 11] [] d_X6_setPrice_4 (cS_X11_within (d + 0) 0 0) (List.mem_of_getElem? (i := 14) rfl) rfl (rr0 (Nat.le_of_ble_eq_true rfl) (Nat.le_of_ble_eq_true rfl)) (Nat.le_of_ble_eq_true rfl) xs0 (s_X11_within _ _ x1 0 11) (fun _ _ kk => ?_)
  obtain ⟨e1, e2⟩ := kk
  rw [e1, e2]
  refine aw_ifb_eq (tgt := 30) d_X6_setPrice_7 rfl (fun c3 => ?_) (fun c3 => ?_)
  · have k := k.1 c3
    exact aw_vret rfl d_X6_setPrice_30 ⟨Nat.le_refl _, Nat.le_refl _⟩ ⟨rfl, k⟩
  · have k := k.2 c3
    refine aw_iload_n (i := 2) rfl d_X6_setPrice_10 2 rfl ?_
    refine aw_iconst (v := 0) d_X6_setPrice_11 ic_0 ?_
    refine aw_iconst (v := 3) d_X6_setPrice_12 ic_3 ?_
    refine aw_SNi [.int x2, .int 0, .int 3] [] d_X6_setPrice_13 (cS_X11_within (d + 0) 0 0) (List.mem_of_getElem? (i := 14) rfl) rfl (rr0 (Nat.le_of_ble_eq_true rfl) (Nat.le_of_ble_eq_true rfl)) (Nat.le_of_ble_eq_true rfl) xs0 (s_X11_within _ _ x2 0 3) (fun _ _ kk => ?_)
    obtain ⟨e4, e5⟩ := kk
    rw [e4, e5]
    refine aw_ifb_eq (tgt := 30) d_X6_setPrice_16 rfl (fun c6 => ?_) (fun c6 => ?_)
    · have k := k.1 c6
      exact aw_vret rfl d_X6_setPrice_30 ⟨Nat.le_refl _, Nat.le_refl _⟩ ⟨rfl, k⟩
    · have k := k.2 c6
      refine aw_aload_n (i := 0) rfl d_X6_setPrice_19 0 rfl ?_
      refine aw_getr (k0 := 17) kc_6 (ws_20 w) (Nat.le_of_ble_eq_true rfl) tw_382 d_X6_setPrice_20 rfl (wr_20_17 w) ?_
      refine aw_iload_n (i := 1) rfl d_X6_setPrice_23 1 rfl ?_
      refine aw_iconst (v := 4) d_X6_setPrice_24 ic_4 ?_
      refine aw_imul d_X6_setPrice_25 ?_
      refine aw_iload_n (i := 2) rfl d_X6_setPrice_26 2 rfl ?_
      refine aw_iadd d_X6_setPrice_27 ?_
      refine aw_iload_n (i := 3) rfl d_X6_setPrice_28 3 rfl ?_
      obtain ⟨b7, k⟩ := k
      refine aw_iast (ws_101 w) b7 d_X6_setPrice_29 ?_
      exact aw_vret rfl d_X6_setPrice_30 ⟨Nat.le_refl _, Nat.le_refl _⟩ ⟨rfl, k⟩
theorem t_X6_costWith (d : Nat) (h : Hp_) (w : Wf h) (x1 : Int32) (x2 : Int32) (x3 : Int32) (K : Int32 → Hp_ → Prop) (k : vp_in ((x1 * 4) + x2) 48 ∧ ((((x3 >>> ((2 * x2) &&& 31)) &&& 3) = 0 → K 1000000000 h) ∧ (¬ ((x3 >>> ((2 * x2) &&& 31)) &&& 3) = 0 → (¬ (h_i h 101 (((x1 * 4) + x2) : Int32).toNatClampNeg) = (-1) → vp_in ((((x1 + 1) * 256) + x3) - ((1 : Int32) <<< ((2 * x2) &&& 31))) 3328 ∧ (Ci (m_J9_min_7cf53 (d + 0) 0 0) [.int 1000000000, .int ((h_i h 101 (((x1 * 4) + x2) : Int32).toNatClampNeg) + (h_i h 102 (((((x1 + 1) * 256) + x3) - ((1 : Int32) <<< ((2 * x2) &&& 31))) : Int32).toNatClampNeg))] h (fun r7 h5 => Wf h5 ∧ (K r7 h5)))) ∧ ((h_i h 101 (((x1 * 4) + x2) : Int32).toNatClampNeg) = (-1) → K 1000000000 h)))) : Ci (m_X6_costWith (d + 1) 0 0) [.ref 20, .int x1, .int x2, .int x3] h K := by
  refine Ct.of (fun _ _ _ => trivial) rfl (Nat.le_of_ble_eq_true rfl) ?_
  show AW (m_X6_costWith (d + 1) 0 0) 0 0 0 [(0, .ref 20), (1, .int x1), (2, .int x2), (3, .int x3)] [] h (kI K)
  refine aw_aload_n (i := 0) rfl d_X6_costWith_0 0 rfl ?_
  refine aw_getr (k0 := 17) kc_6 (ws_20 w) (Nat.le_of_ble_eq_true rfl) tw_382 d_X6_costWith_1 rfl (wr_20_17 w) ?_
  refine aw_iload_n (i := 1) rfl d_X6_costWith_4 1 rfl ?_
  refine aw_iconst (v := 4) d_X6_costWith_5 ic_4 ?_
  refine aw_imul d_X6_costWith_6 ?_
  refine aw_iload_n (i := 2) rfl d_X6_costWith_7 2 rfl ?_
  refine aw_iadd d_X6_costWith_8 ?_
  obtain ⟨b1, k⟩ := k
  refine aw_iald (ws_101 w) b1 d_X6_costWith_9 ?_
  refine aw_istore [(0, .ref 20), (1, .int x1), (2, .int x2), (3, .int x3), (4, .int (h_i h 101 (((x1 * 4) + x2) : Int32).toNatClampNeg))] d_X6_costWith_10 (Nat.le_of_ble_eq_true rfl) rfl rfl ?_
  refine aw_iload_n (i := 3) rfl d_X6_costWith_12 3 rfl ?_
  refine aw_iconst (v := 2) d_X6_costWith_13 ic_2 ?_
  refine aw_iload_n (i := 2) rfl d_X6_costWith_14 2 rfl ?_
  refine aw_imul d_X6_costWith_15 ?_
  refine aw_ishr d_X6_costWith_16 ?_
  refine aw_iconst (v := 3) d_X6_costWith_17 ic_3 ?_
  refine aw_iand d_X6_costWith_18 ?_
  refine aw_if_eq (tgt := 28) d_X6_costWith_19 rfl (fun c2 => ?_) (fun c2 => ?_)
  · have k := k.1 c2
    refine aw_ldc (v := 1000000000) d_X6_costWith_28 tw_1524 ?_
    exact aw_iret rfl d_X6_costWith_30 ⟨Nat.le_refl _, Nat.le_refl _⟩ ⟨_, rfl, k⟩
  · have k := k.2 c2
    refine aw_iload d_X6_costWith_22 4 rfl ?_
    refine aw_iconst (v := (-1)) d_X6_costWith_24 ic_m1 ?_
    refine aw_icmp_ne (tgt := 31) d_X6_costWith_25 rfl (fun c3 => ?_) (fun c3 => ?_)
    · have k := k.1 c3
      refine aw_ldc (v := 1000000000) d_X6_costWith_31 tw_1524 ?_
      refine aw_iload d_X6_costWith_33 4 rfl ?_
      refine aw_aload_n (i := 0) rfl d_X6_costWith_35 0 rfl ?_
      refine aw_getr (k0 := 18) kc_6 (ws_20 w) (Nat.le_of_ble_eq_true rfl) tw_383 d_X6_costWith_36 rfl (wr_20_18 w) ?_
      refine aw_iload_n (i := 1) rfl d_X6_costWith_39 1 rfl ?_
      refine aw_iconst (v := 1) d_X6_costWith_40 ic_1 ?_
      refine aw_iadd d_X6_costWith_41 ?_
      refine aw_sipush (v := 256) d_X6_costWith_42 is_256 ?_
      refine aw_imul d_X6_costWith_45 ?_
      refine aw_iload_n (i := 3) rfl d_X6_costWith_46 3 rfl ?_
      refine aw_iadd d_X6_costWith_47 ?_
      refine aw_iconst (v := 1) d_X6_costWith_48 ic_1 ?_
      refine aw_iconst (v := 2) d_X6_costWith_49 ic_2 ?_
      refine aw_iload_n (i := 2) rfl d_X6_costWith_50 2 rfl ?_
      refine aw_imul d_X6_costWith_51 ?_
      refine aw_ishl d_X6_costWith_52 ?_
      refine aw_isub d_X6_costWith_53 ?_
      obtain ⟨b4, k⟩ := k
      refine aw_iald (ws_102 w) b4 d_X6_costWith_54 ?_
      refine aw_iadd d_X6_costWith_55 ?_
      refine aw_Si [.int 1000000000, .int ((h_i h 101 (((x1 * 4) + x2) : Int32).toNatClampNeg) + (h_i h 102 (((((x1 + 1) * 256) + x3) - ((1 : Int32) <<< ((2 * x2) &&& 31))) : Int32).toNatClampNeg))] [] d_X6_costWith_56 (cS_J9_min_7cf53 (d + 0) 0 0) tw_1468 rfl (rr0 (Nat.le_of_ble_eq_true rfl) (Nat.le_of_ble_eq_true rfl)) (Nat.le_of_ble_eq_true rfl) xs0 k (fun r7 h5 kk => ?_)
      obtain ⟨w6, k⟩ := kk
      exact aw_iret rfl d_X6_costWith_59 ⟨Nat.le_refl _, Nat.le_refl _⟩ ⟨_, rfl, k⟩
    · have k := k.2 c3
      refine aw_ldc (v := 1000000000) d_X6_costWith_28 tw_1524 ?_
      exact aw_iret rfl d_X6_costWith_30 ⟨Nat.le_refl _, Nat.le_refl _⟩ ⟨_, rfl, k⟩
theorem t_X6_pointsLost (d : Nat) (h : Hp_) (w : Wf h)  (K : Int32 → Hp_ → Prop) (k : Ci (m_X6_allWanted (d + 0) 0 0) [.ref 20] h (fun r3 h1 => Wf h1 ∧ (vp_in r3 3328 ∧ (K ((h_i h1 102 r3.toNatClampNeg) / 100000) h1)))) : Ci (m_X6_pointsLost (d + 1) 0 0) [.ref 20] h K := by
  refine Ct.of (fun _ _ _ => trivial) rfl (Nat.le_of_ble_eq_true rfl) ?_
  show AW (m_X6_pointsLost (d + 1) 0 0) 0 0 0 [(0, .ref 20)] [] h (kI K)
  refine aw_aload_n (i := 0) rfl d_X6_pointsLost_0 0 rfl ?_
  refine aw_getr (k0 := 18) kc_6 (ws_20 w) (Nat.le_of_ble_eq_true rfl) tw_383 d_X6_pointsLost_1 rfl (wr_20_18 w) ?_
  refine aw_aload_n (i := 0) rfl d_X6_pointsLost_4 0 rfl ?_
  refine aw_Vi 20 [] [.ref 102] d_X6_pointsLost_5 (cV_X6_allWanted (d + 0) 0 0) kc_6 (ws_20 w) tw_1520 rfl (rr0 (Nat.le_of_ble_eq_true rfl) (Nat.le_of_ble_eq_true rfl)) (Nat.le_of_ble_eq_true rfl) xs0 k (fun r3 h1 kk => ?_)
  obtain ⟨w2, k⟩ := kk
  obtain ⟨b4, k⟩ := k
  refine aw_iald (ws_102 w2) b4 d_X6_pointsLost_8 ?_
  refine aw_ldc (v := 100000) d_X6_pointsLost_9 tw_1511 ?_
  refine aw_idiv d_X6_pointsLost_11 (by decide) ?_
  exact aw_iret rfl d_X6_pointsLost_12 ⟨Nat.le_refl _, Nat.le_refl _⟩ ⟨_, rfl, k⟩
theorem t_X6_minutesWalked (d : Nat) (h : Hp_) (w : Wf h)  (K : Int32 → Hp_ → Prop) (k : Ci (m_X6_allWanted (d + 0) 0 0) [.ref 20] h (fun r3 h1 => Wf h1 ∧ (vp_in r3 3328 ∧ (K ((h_i h1 102 r3.toNatClampNeg) - (h_i h1 102 r3.toNatClampNeg) / 100000 * 100000) h1)))) : Ci (m_X6_minutesWalked (d + 1) 0 0) [.ref 20] h K := by
  refine Ct.of (fun _ _ _ => trivial) rfl (Nat.le_of_ble_eq_true rfl) ?_
  show AW (m_X6_minutesWalked (d + 1) 0 0) 0 0 0 [(0, .ref 20)] [] h (kI K)
  refine aw_aload_n (i := 0) rfl d_X6_minutesWalked_0 0 rfl ?_
  refine aw_getr (k0 := 18) kc_6 (ws_20 w) (Nat.le_of_ble_eq_true rfl) tw_383 d_X6_minutesWalked_1 rfl (wr_20_18 w) ?_
  refine aw_aload_n (i := 0) rfl d_X6_minutesWalked_4 0 rfl ?_
  refine aw_Vi 20 [] [.ref 102] d_X6_minutesWalked_5 (cV_X6_allWanted (d + 0) 0 0) kc_6 (ws_20 w) tw_1520 rfl (rr0 (Nat.le_of_ble_eq_true rfl) (Nat.le_of_ble_eq_true rfl)) (Nat.le_of_ble_eq_true rfl) xs0 k (fun r3 h1 kk => ?_)
  obtain ⟨w2, k⟩ := kk
  obtain ⟨b4, k⟩ := k
  refine aw_iald (ws_102 w2) b4 d_X6_minutesWalked_8 ?_
  refine aw_ldc (v := 100000) d_X6_minutesWalked_9 tw_1511 ?_
  refine aw_irem d_X6_minutesWalked_11 (by decide) ?_
  exact aw_iret rfl d_X6_minutesWalked_12 ⟨Nat.le_refl _, Nat.le_refl _⟩ ⟨_, rfl, k⟩
theorem t_X6_fairOf (d : Nat) (h : Hp_) (w : Wf h) (x1 : Int32) (K : Int32 → Hp_ → Prop) (k : (¬ (0 ≤ x1 ∧ x1 ≤ 11) → K (-1) h) ∧ ((0 ≤ x1 ∧ x1 ≤ 11) → vp_in x1 12 ∧ (K (h_i h 103 x1.toNatClampNeg) h))) : Ci (m_X6_fairOf (d + 1) 0 0) [.ref 20, .int x1] h K := by
  refine Ct.of (fun _ _ _ => trivial) rfl (Nat.le_of_ble_eq_true rfl) ?_
  show AW (m_X6_fairOf (d + 1) 0 0) 0 0 0 [(0, .ref 20), (1, .int x1)] [] h (kI K)
  refine aw_iload_n (i := 1) rfl d_X6_fairOf_0 1 rfl ?_
  refine aw_iconst (v := 0) d_X6_fairOf_1 ic_0 ?_
  refine aw_bipush (v := 11) d_X6_fairOf_2 ib_11 ?_
  refine aw_SNi [.int x1, .int 0, .int 11] [] d_X6_fairOf_4 (cS_X11_within (d + 0) 0 0) (List.mem_of_getElem? (i := 14) rfl) rfl (rr0 (Nat.le_of_ble_eq_true rfl) (Nat.le_of_ble_eq_true rfl)) (Nat.le_of_ble_eq_true rfl) xs0 (s_X11_within _ _ x1 0 11) (fun _ _ kk => ?_)
  obtain ⟨e1, e2⟩ := kk
  rw [e1, e2]
  refine aw_ifb_eq (tgt := 19) d_X6_fairOf_7 rfl (fun c3 => ?_) (fun c3 => ?_)
  · have k := k.1 c3
    refine aw_iconst (v := (-1)) d_X6_fairOf_19 ic_m1 ?_
    exact aw_iret rfl d_X6_fairOf_20 ⟨Nat.le_refl _, Nat.le_refl _⟩ ⟨_, rfl, k⟩
  · have k := k.2 c3
    refine aw_aload_n (i := 0) rfl d_X6_fairOf_10 0 rfl ?_
    refine aw_getr (k0 := 19) kc_6 (ws_20 w) (Nat.le_of_ble_eq_true rfl) tw_384 d_X6_fairOf_11 rfl (wr_20_19 w) ?_
    refine aw_iload_n (i := 1) rfl d_X6_fairOf_14 1 rfl ?_
    obtain ⟨b4, k⟩ := k
    refine aw_iald (ws_103 w) b4 d_X6_fairOf_15 ?_
    refine aw_goto (tgt := 20) d_X6_fairOf_16 rfl ?_
    exact aw_iret rfl d_X6_fairOf_20 ⟨Nat.le_refl _, Nat.le_refl _⟩ ⟨_, rfl, k⟩
theorem t_X7_causeAt (d : Nat) (h : Hp_) (w : Wf h) (x1 : Int32) (x2 : Int32) (K : Int32 → Hp_ → Prop) (k : Ci (m_X7_outcomeAt (d + 0) 0 0) [.ref 16, .int x1, .int x2] h (fun r3 h1 => Wf h1 ∧ ((r3 = 2 → vp_in x1 400 ∧ (AW (m_X7_causeAt (d + 1) 0 0) 0 0 22 [(0, .ref 16), (1, .int x1), (2, .int x2), (3, .int (h_i h1 53 x1.toNatClampNeg)), (4, .int 0)] [] h1 (kI K))) ∧ (¬ r3 = 2 → K (-1) h1)))) : Ci (m_X7_causeAt (d + 1) 0 0) [.ref 16, .int x1, .int x2] h K := by
  refine Ct.of (fun _ _ _ => trivial) rfl (Nat.le_of_ble_eq_true rfl) ?_
  show AW (m_X7_causeAt (d + 1) 0 0) 0 0 0 [(0, .ref 16), (1, .int x1), (2, .int x2)] [] h (kI K)
  refine aw_aload_n (i := 0) rfl d_X7_causeAt_0 0 rfl ?_
  refine aw_iload_n (i := 1) rfl d_X7_causeAt_1 1 rfl ?_
  refine aw_iload_n (i := 2) rfl d_X7_causeAt_2 2 rfl ?_
  refine aw_Vi 16 [.int x1, .int x2] [] d_X7_causeAt_3 (cV_X7_outcomeAt (d + 0) 0 0) kc_7 (ws_16 w) tw_1123 rfl (rr0 (Nat.le_of_ble_eq_true rfl) (Nat.le_of_ble_eq_true rfl)) (Nat.le_of_ble_eq_true rfl) xs0 k (fun r3 h1 kk => ?_)
  obtain ⟨w2, k⟩ := kk
  refine aw_iconst (v := 2) d_X7_causeAt_6 ic_2 ?_
  refine aw_icmp_eq (tgt := 12) d_X7_causeAt_7 rfl (fun c4 => ?_) (fun c4 => ?_)
  · have k := k.1 c4
    refine aw_aload_n (i := 0) rfl d_X7_causeAt_12 0 rfl ?_
    refine aw_getr (k0 := 6) kc_7 (ws_16 w2) (Nat.le_of_ble_eq_true rfl) tw_158 d_X7_causeAt_13 rfl (wr_16_6 w2) ?_
    refine aw_iload_n (i := 1) rfl d_X7_causeAt_16 1 rfl ?_
    obtain ⟨b5, k⟩ := k
    refine aw_iald (ws_53 w2) b5 d_X7_causeAt_17 ?_
    refine aw_istore_n (i := 3) rfl [(0, .ref 16), (1, .int x1), (2, .int x2), (3, .int (h_i h1 53 x1.toNatClampNeg))] d_X7_causeAt_18 (Nat.le_of_ble_eq_true rfl) rfl rfl ?_
    refine aw_iconst (v := 0) d_X7_causeAt_19 ic_0 ?_
    refine aw_istore [(0, .ref 16), (1, .int x1), (2, .int x2), (3, .int (h_i h1 53 x1.toNatClampNeg)), (4, .int 0)] d_X7_causeAt_20 (Nat.le_of_ble_eq_true rfl) rfl rfl ?_
    exact k
  · have k := k.2 c4
    refine aw_iconst (v := (-1)) d_X7_causeAt_10 ic_m1 ?_
    exact aw_iret rfl d_X7_causeAt_11 ⟨Nat.le_refl _, Nat.le_refl _⟩ ⟨_, rfl, k⟩
theorem t_X7_causeAt_22 (d : Nat) (h : Hp_) (w : Wf h) (x1 : Int32) (x2 : Int32) (x3 : Int32) (x4 : Int32) (K : Int32 → Hp_ → Prop) (k : ((h_i h 16 11) ≤ x4 → K x3 h) ∧ (¬ (h_i h 16 11) ≤ x4 → vp_in x4 200 ∧ ((¬ (h_i h 54 x4.toNatClampNeg) = x1 → AW (m_X7_causeAt (d + 1) 0 0) 0 0 22 [(0, .ref 16), (1, .int x1), (2, .int x2), (3, .int x3), (4, .int (x4 + 1))] [] h (kI K)) ∧ ((h_i h 54 x4.toNatClampNeg) = x1 → vp_in x4 200 ∧ ((x2 < (h_i h 56 x4.toNatClampNeg) → AW (m_X7_causeAt (d + 1) 0 0) 0 0 22 [(0, .ref 16), (1, .int x1), (2, .int x2), (3, .int x3), (4, .int (x4 + 1))] [] h (kI K)) ∧ (¬ x2 < (h_i h 56 x4.toNatClampNeg) → vp_in x4 200 ∧ (AW (m_X7_causeAt (d + 1) 0 0) 0 0 22 [(0, .ref 16), (1, .int x1), (2, .int x2), (3, .int (h_i h 55 x4.toNatClampNeg)), (4, .int (x4 + 1))] [] h (kI K)))))))) : AW (m_X7_causeAt (d + 1) 0 0) 0 0 22 [(0, .ref 16), (1, .int x1), (2, .int x2), (3, .int x3), (4, .int x4)] [] h (kI K) := by
  refine aw_iload d_X7_causeAt_22 4 rfl ?_
  refine aw_aload_n (i := 0) rfl d_X7_causeAt_24 0 rfl ?_
  refine aw_geti (k0 := 11) kc_7 (ws_16 w) (Nat.le_of_ble_eq_true rfl) tw_164 d_X7_causeAt_25 rfl ?_
  refine aw_icmp_ge (tgt := 67) d_X7_causeAt_28 rfl (fun c6 => ?_) (fun c6 => ?_)
  · have k := k.1 c6
    refine aw_iload_n (i := 3) rfl d_X7_causeAt_67 3 rfl ?_
    exact aw_iret rfl d_X7_causeAt_68 ⟨Nat.le_refl _, Nat.le_refl _⟩ ⟨_, rfl, k⟩
  · have k := k.2 c6
    refine aw_aload_n (i := 0) rfl d_X7_causeAt_31 0 rfl ?_
    refine aw_getr (k0 := 8) kc_7 (ws_16 w) (Nat.le_of_ble_eq_true rfl) tw_161 d_X7_causeAt_32 rfl (wr_16_8 w) ?_
    refine aw_iload d_X7_causeAt_35 4 rfl ?_
    obtain ⟨b7, k⟩ := k
    refine aw_iald (ws_54 w) b7 d_X7_causeAt_37 ?_
    refine aw_iload_n (i := 1) rfl d_X7_causeAt_38 1 rfl ?_
    refine aw_icmp_ne (tgt := 61) d_X7_causeAt_39 rfl (fun c8 => ?_) (fun c8 => ?_)
    · have k := k.1 c8
      refine aw_iinc (v := (x4 + 1)) [(0, .ref 16), (1, .int x1), (2, .int x2), (3, .int x3), (4, .int (x4 + 1))] d_X7_causeAt_61 4 rfl rfl (Nat.le_of_ble_eq_true rfl) rfl rfl ?_
      refine aw_goto (tgt := 22) d_X7_causeAt_64 rfl ?_
      exact k
    · have k := k.2 c8
      refine aw_aload_n (i := 0) rfl d_X7_causeAt_42 0 rfl ?_
      refine aw_getr (k0 := 10) kc_7 (ws_16 w) (Nat.le_of_ble_eq_true rfl) tw_163 d_X7_causeAt_43 rfl (wr_16_10 w) ?_
      refine aw_iload d_X7_causeAt_46 4 rfl ?_
      obtain ⟨b9, k⟩ := k
      refine aw_iald (ws_56 w) b9 d_X7_causeAt_48 ?_
      refine aw_iload_n (i := 2) rfl d_X7_causeAt_49 2 rfl ?_
      refine aw_icmp_gt (tgt := 61) d_X7_causeAt_50 rfl (fun c10 => ?_) (fun c10 => ?_)
      · have k := k.1 c10
        refine aw_iinc (v := (x4 + 1)) [(0, .ref 16), (1, .int x1), (2, .int x2), (3, .int x3), (4, .int (x4 + 1))] d_X7_causeAt_61 4 rfl rfl (Nat.le_of_ble_eq_true rfl) rfl rfl ?_
        refine aw_goto (tgt := 22) d_X7_causeAt_64 rfl ?_
        exact k
      · have k := k.2 c10
        refine aw_aload_n (i := 0) rfl d_X7_causeAt_53 0 rfl ?_
        refine aw_getr (k0 := 9) kc_7 (ws_16 w) (Nat.le_of_ble_eq_true rfl) tw_162 d_X7_causeAt_54 rfl (wr_16_9 w) ?_
        refine aw_iload d_X7_causeAt_57 4 rfl ?_
        obtain ⟨b11, k⟩ := k
        refine aw_iald (ws_55 w) b11 d_X7_causeAt_59 ?_
        refine aw_istore_n (i := 3) rfl [(0, .ref 16), (1, .int x1), (2, .int x2), (3, .int (h_i h 55 x4.toNatClampNeg)), (4, .int x4)] d_X7_causeAt_60 (Nat.le_of_ble_eq_true rfl) rfl rfl ?_
        refine aw_iinc (v := (x4 + 1)) [(0, .ref 16), (1, .int x1), (2, .int x2), (3, .int (h_i h 55 x4.toNatClampNeg)), (4, .int (x4 + 1))] d_X7_causeAt_61 4 rfl rfl (Nat.le_of_ble_eq_true rfl) rfl rfl ?_
        refine aw_goto (tgt := 22) d_X7_causeAt_64 rfl ?_
        exact k
theorem t_X7_tellAnew (d : Nat) (h : Hp_) (w : Wf h) (x1 : Int32) (x2 : Int32) (x3 : Int32) (K : Int32 → Hp_ → Prop) (k : Ci (m_X7_has (d + 0) 0 0) [.ref 16, .int x1] h (fun r3 h1 => Wf h1 ∧ ((r3 = 0 → K 0 h1) ∧ (¬ r3 = 0 → vp_in x1 400 ∧ ((¬ (h_i h1 51 x1.toNatClampNeg) = 2 → K 0 h1) ∧ ((h_i h1 51 x1.toNatClampNeg) = 2 → ((h_i h1 16 11) < 200 → vp_in (h_i h1 16 11) 200 ∧ (vp_in (h_i h1 16 11) 200 ∧ (vp_in (h_i h1 16 11) 200 ∧ (K 1 (h_im (h_im (h_im (h_im h1 54 ((h_i h1 16 11) : Int32).toNatClampNeg x1) 55 ((h_i h1 16 11) : Int32).toNatClampNeg x2) 56 ((h_i h1 16 11) : Int32).toNatClampNeg x3) 16 11 ((h_i h1 16 11) + 1)))))) ∧ (¬ (h_i h1 16 11) < 200 → K 0 h1))))))) : Ci (m_X7_tellAnew (d + 1) 0 0) [.ref 16, .int x1, .int x2, .int x3] h K := by
  refine Ct.of (fun _ _ _ => trivial) rfl (Nat.le_of_ble_eq_true rfl) ?_
  show AW (m_X7_tellAnew (d + 1) 0 0) 0 0 0 [(0, .ref 16), (1, .int x1), (2, .int x2), (3, .int x3)] [] h (kI K)
  refine aw_aload_n (i := 0) rfl d_X7_tellAnew_0 0 rfl ?_
  refine aw_iload_n (i := 1) rfl d_X7_tellAnew_1 1 rfl ?_
  refine aw_Vi 16 [.int x1] [] d_X7_tellAnew_2 (cV_X7_has (d + 0) 0 0) kc_7 (ws_16 w) tw_1122 rfl (rr0 (Nat.le_of_ble_eq_true rfl) (Nat.le_of_ble_eq_true rfl)) (Nat.le_of_ble_eq_true rfl) xs0 k (fun r3 h1 kk => ?_)
  obtain ⟨w2, k⟩ := kk
  refine aw_if_eq (tgt := 28) d_X7_tellAnew_5 rfl (fun c4 => ?_) (fun c4 => ?_)
  · have k := k.1 c4
    refine aw_iconst (v := 0) d_X7_tellAnew_28 ic_0 ?_
    exact aw_zret rfl rfl d_X7_tellAnew_29 ⟨Nat.le_refl _, Nat.le_refl _⟩ ⟨_, rfl, k⟩
  · have k := k.2 c4
    refine aw_aload_n (i := 0) rfl d_X7_tellAnew_8 0 rfl ?_
    refine aw_getr (k0 := 4) kc_7 (ws_16 w2) (Nat.le_of_ble_eq_true rfl) tw_156 d_X7_tellAnew_9 rfl (wr_16_4 w2) ?_
    refine aw_iload_n (i := 1) rfl d_X7_tellAnew_12 1 rfl ?_
    obtain ⟨b5, k⟩ := k
    refine aw_iald (ws_51 w2) b5 d_X7_tellAnew_13 ?_
    refine aw_iconst (v := 2) d_X7_tellAnew_14 ic_2 ?_
    refine aw_icmp_ne (tgt := 28) d_X7_tellAnew_15 rfl (fun c6 => ?_) (fun c6 => ?_)
    · have k := k.1 c6
      refine aw_iconst (v := 0) d_X7_tellAnew_28 ic_0 ?_
      exact aw_zret rfl rfl d_X7_tellAnew_29 ⟨Nat.le_refl _, Nat.le_refl _⟩ ⟨_, rfl, k⟩
    · have k := k.2 c6
      refine aw_aload_n (i := 0) rfl d_X7_tellAnew_18 0 rfl ?_
      refine aw_geti (k0 := 11) kc_7 (ws_16 w2) (Nat.le_of_ble_eq_true rfl) tw_164 d_X7_tellAnew_19 rfl ?_
      refine aw_sipush (v := 200) d_X7_tellAnew_22 is_200 ?_
      refine aw_icmp_lt (tgt := 30) d_X7_tellAnew_25 rfl (fun c7 => ?_) (fun c7 => ?_)
      · have k := k.1 c7
        refine aw_aload_n (i := 0) rfl d_X7_tellAnew_30 0 rfl ?_
        refine aw_getr (k0 := 8) kc_7 (ws_16 w2) (Nat.le_of_ble_eq_true rfl) tw_161 d_X7_tellAnew_31 rfl (wr_16_8 w2) ?_
        refine aw_aload_n (i := 0) rfl d_X7_tellAnew_34 0 rfl ?_
        refine aw_geti (k0 := 11) kc_7 (ws_16 w2) (Nat.le_of_ble_eq_true rfl) tw_164 d_X7_tellAnew_35 rfl ?_
        refine aw_iload_n (i := 1) rfl d_X7_tellAnew_38 1 rfl ?_
        obtain ⟨b8, k⟩ := k
        refine aw_iast (ws_54 w2) b8 d_X7_tellAnew_39 ?_
        refine aw_aload_n (i := 0) rfl d_X7_tellAnew_40 0 rfl ?_
        refine aw_getr (k0 := 9) kc_7 (ws_16 w2) (Nat.le_of_ble_eq_true rfl) tw_162 d_X7_tellAnew_41 rfl (wr_16_9 w2) ?_
        refine aw_aload_n (i := 0) rfl d_X7_tellAnew_44 0 rfl ?_
        refine aw_geti (k0 := 11) kc_7 (ws_16 w2) (Nat.le_of_ble_eq_true rfl) tw_164 d_X7_tellAnew_45 rfl ?_
        refine aw_vi (v2 := (h_i h1 16 11)) (rfl) ?_
        refine aw_iload_n (i := 2) rfl d_X7_tellAnew_48 2 rfl ?_
        obtain ⟨b9, k⟩ := k
        refine aw_iast (ws_55 w2) b9 d_X7_tellAnew_49 ?_
        refine aw_aload_n (i := 0) rfl d_X7_tellAnew_50 0 rfl ?_
        refine aw_getr (k0 := 10) kc_7 (ws_16 w2) (Nat.le_of_ble_eq_true rfl) tw_163 d_X7_tellAnew_51 rfl (wr_16_10 w2) ?_
        refine aw_aload_n (i := 0) rfl d_X7_tellAnew_54 0 rfl ?_
        refine aw_geti (k0 := 11) kc_7 (ws_16 w2) (Nat.le_of_ble_eq_true rfl) tw_164 d_X7_tellAnew_55 rfl ?_
        refine aw_vi (v2 := (h_i h1 16 11)) (rfl) ?_
        refine aw_iload_n (i := 3) rfl d_X7_tellAnew_58 3 rfl ?_
        obtain ⟨b10, k⟩ := k
        refine aw_iast (ws_56 w2) b10 d_X7_tellAnew_59 ?_
        refine aw_aload_n (i := 0) rfl d_X7_tellAnew_60 0 rfl ?_
        refine aw_dup d_X7_tellAnew_61 rfl ?_
        refine aw_geti (k0 := 11) kc_7 (ws_16 w2) (Nat.le_of_ble_eq_true rfl) tw_164 d_X7_tellAnew_62 rfl ?_
        refine aw_vi (v2 := (h_i h1 16 11)) (rfl) ?_
        refine aw_iconst (v := 1) d_X7_tellAnew_65 ic_1 ?_
        refine aw_iadd d_X7_tellAnew_66 ?_
        refine aw_puti (k0 := 11) kc_7 (ws_16 w2) (Nat.le_of_ble_eq_true rfl) tw_164 d_X7_tellAnew_67 rfl rfl nf_i ?_
        refine aw_iconst (v := 1) d_X7_tellAnew_70 ic_1 ?_
        exact aw_zret rfl rfl d_X7_tellAnew_71 ⟨Nat.le_refl _, Nat.le_refl _⟩ ⟨_, rfl, k⟩
      · have k := k.2 c7
        refine aw_iconst (v := 0) d_X7_tellAnew_28 ic_0 ?_
        exact aw_zret rfl rfl d_X7_tellAnew_29 ⟨Nat.le_refl _, Nat.le_refl _⟩ ⟨_, rfl, k⟩
theorem t_X7_countMet (d : Nat) (h : Hp_) (x1 : Int32) (x2 : Int32) (x3 : Int32) (K : Int32 → Hp_ → Prop) (k : AW (m_X7_countMet (d + 1) 0 0) 0 0 6 [(0, .ref 16), (1, .int x1), (2, .int x2), (3, .int x3), (4, .int 0), (5, .int 0)] [] h (kI K)) : Ci (m_X7_countMet (d + 1) 0 0) [.ref 16, .int x1, .int x2, .int x3] h K := by
  refine Ct.of (fun _ _ _ => trivial) rfl (Nat.le_of_ble_eq_true rfl) ?_
  show AW (m_X7_countMet (d + 1) 0 0) 0 0 0 [(0, .ref 16), (1, .int x1), (2, .int x2), (3, .int x3)] [] h (kI K)
  refine aw_iconst (v := 0) d_X7_countMet_0 ic_0 ?_
  refine aw_istore [(0, .ref 16), (1, .int x1), (2, .int x2), (3, .int x3), (4, .int 0)] d_X7_countMet_1 (Nat.le_of_ble_eq_true rfl) rfl rfl ?_
  refine aw_iconst (v := 0) d_X7_countMet_3 ic_0 ?_
  refine aw_istore [(0, .ref 16), (1, .int x1), (2, .int x2), (3, .int x3), (4, .int 0), (5, .int 0)] d_X7_countMet_4 (Nat.le_of_ble_eq_true rfl) rfl rfl ?_
  exact k
theorem t_X7_countMet_6 (d : Nat) (h : Hp_) (w : Wf h) (x1 : Int32) (x2 : Int32) (x3 : Int32) (x4 : Int32) (x5 : Int32) (K : Int32 → Hp_ → Prop) (k : ((h_i h 16 7) ≤ x5 → K x4 h) ∧ (¬ (h_i h 16 7) ≤ x5 → Ci (m_X7_wasDue (d + 0) 0 0) [.ref 16, .int x5, .int x1, .int x2] h (fun r4 h2 => Wf h2 ∧ ((r4 = 0 → AW (m_X7_countMet (d + 1) 0 0) 0 0 6 [(0, .ref 16), (1, .int x1), (2, .int x2), (3, .int x3), (4, .int x4), (5, .int (x5 + 1))] [] h2 (kI K)) ∧ (¬ r4 = 0 → Ci (m_X7_outcomeAt (d + 0) 0 0) [.ref 16, .int x5, .int x3] h2 (fun r8 h6 => Wf h6 ∧ ((¬ r8 = 1 → AW (m_X7_countMet (d + 1) 0 0) 0 0 6 [(0, .ref 16), (1, .int x1), (2, .int x2), (3, .int x3), (4, .int x4), (5, .int (x5 + 1))] [] h6 (kI K)) ∧ (r8 = 1 → AW (m_X7_countMet (d + 1) 0 0) 0 0 6 [(0, .ref 16), (1, .int x1), (2, .int x2), (3, .int x3), (4, .int (x4 + 1)), (5, .int (x5 + 1))] [] h6 (kI K))))))))) : AW (m_X7_countMet (d + 1) 0 0) 0 0 6 [(0, .ref 16), (1, .int x1), (2, .int x2), (3, .int x3), (4, .int x4), (5, .int x5)] [] h (kI K) := by
  refine aw_iload d_X7_countMet_6 5 rfl ?_
  refine aw_aload_n (i := 0) rfl d_X7_countMet_8 0 rfl ?_
  refine aw_geti (k0 := 7) kc_7 (ws_16 w) (Nat.le_of_ble_eq_true rfl) tw_159 d_X7_countMet_9 rfl ?_
  refine aw_icmp_ge (tgt := 46) d_X7_countMet_12 rfl (fun c1 => ?_) (fun c1 => ?_)
  · have k := k.1 c1
    refine aw_iload d_X7_countMet_46 4 rfl ?_
    exact aw_iret rfl d_X7_countMet_48 ⟨Nat.le_refl _, Nat.le_refl _⟩ ⟨_, rfl, k⟩
  · have k := k.2 c1
    refine aw_aload_n (i := 0) rfl d_X7_countMet_15 0 rfl ?_
    refine aw_iload d_X7_countMet_16 5 rfl ?_
    refine aw_iload_n (i := 1) rfl d_X7_countMet_18 1 rfl ?_
    refine aw_iload_n (i := 2) rfl d_X7_countMet_19 2 rfl ?_
    refine aw_Vi 16 [.int x5, .int x1, .int x2] [] d_X7_countMet_20 (cV_X7_wasDue (d + 0) 0 0) kc_7 (ws_16 w) tw_1589 rfl (rr0 (Nat.le_of_ble_eq_true rfl) (Nat.le_of_ble_eq_true rfl)) (Nat.le_of_ble_eq_true rfl) xs0 k (fun r4 h2 kk => ?_)
    obtain ⟨w3, k⟩ := kk
    refine aw_if_eq (tgt := 40) d_X7_countMet_23 rfl (fun c5 => ?_) (fun c5 => ?_)
    · have k := k.1 c5
      refine aw_iinc (v := (x5 + 1)) [(0, .ref 16), (1, .int x1), (2, .int x2), (3, .int x3), (4, .int x4), (5, .int (x5 + 1))] d_X7_countMet_40 5 rfl rfl (Nat.le_of_ble_eq_true rfl) rfl rfl ?_
      refine aw_goto (tgt := 6) d_X7_countMet_43 rfl ?_
      exact k
    · have k := k.2 c5
      refine aw_aload_n (i := 0) rfl d_X7_countMet_26 0 rfl ?_
      refine aw_iload d_X7_countMet_27 5 rfl ?_
      refine aw_iload_n (i := 3) rfl d_X7_countMet_29 3 rfl ?_
      refine aw_Vi 16 [.int x5, .int x3] [] d_X7_countMet_30 (cV_X7_outcomeAt (d + 0) 0 0) kc_7 (ws_16 w3) tw_1123 rfl (rr0 (Nat.le_of_ble_eq_true rfl) (Nat.le_of_ble_eq_true rfl)) (Nat.le_of_ble_eq_true rfl) xs0 k (fun r8 h6 kk => ?_)
      obtain ⟨w7, k⟩ := kk
      refine aw_iconst (v := 1) d_X7_countMet_33 ic_1 ?_
      refine aw_icmp_ne (tgt := 40) d_X7_countMet_34 rfl (fun c9 => ?_) (fun c9 => ?_)
      · have k := k.1 c9
        refine aw_iinc (v := (x5 + 1)) [(0, .ref 16), (1, .int x1), (2, .int x2), (3, .int x3), (4, .int x4), (5, .int (x5 + 1))] d_X7_countMet_40 5 rfl rfl (Nat.le_of_ble_eq_true rfl) rfl rfl ?_
        refine aw_goto (tgt := 6) d_X7_countMet_43 rfl ?_
        exact k
      · have k := k.2 c9
        refine aw_iinc (v := (x4 + 1)) [(0, .ref 16), (1, .int x1), (2, .int x2), (3, .int x3), (4, .int (x4 + 1)), (5, .int x5)] d_X7_countMet_37 4 rfl rfl (Nat.le_of_ble_eq_true rfl) rfl rfl ?_
        refine aw_iinc (v := (x5 + 1)) [(0, .ref 16), (1, .int x1), (2, .int x2), (3, .int x3), (4, .int (x4 + 1)), (5, .int (x5 + 1))] d_X7_countMet_40 5 rfl rfl (Nat.le_of_ble_eq_true rfl) rfl rfl ?_
        refine aw_goto (tgt := 6) d_X7_countMet_43 rfl ?_
        exact k
theorem t_X8_takeIn (d : Nat) (h : Hp_) (x1 : Int32) (x2 : Int32) (x3 : Int32) (x4 : Int32) (x5 : Int32) (K : Int32 → Hp_ → Prop) (k : Ci (m_X8_signs (d + 0) 0 0) [.int x1] h (fun r3 h1 => Wf h1 ∧ (Ci (m_X8_signs (d + 0) 0 0) [.int x2] h1 (fun r6 h4 => Wf h4 ∧ (Ci (m_X8_signs (d + 0) 0 0) [.int x3] h4 (fun r9 h7 => Wf h7 ∧ (Ci (m_X8_signs (d + 0) 0 0) [.int x4] h7 (fun r12 h10 => Wf h10 ∧ (Ci (m_X8_signs (d + 0) 0 0) [.int x5] h10 (fun r15 h13 => Wf h13 ∧ ((((h_i h13 11 1) + ((((r3 + r6) + r9) + r12) + r15)) ≤ 160 → Cv (m_X8_append (d + 0) 0 0) [.ref 11, .int x1] h13 (fun h17 => Wf h17 ∧ (Cv (m_X8_append (d + 0) 0 0) [.ref 11, .int x2] h17 (fun h20 => Wf h20 ∧ (Cv (m_X8_append (d + 0) 0 0) [.ref 11, .int x3] h20 (fun h23 => Wf h23 ∧ (Cv (m_X8_append (d + 0) 0 0) [.ref 11, .int x4] h23 (fun h26 => Wf h26 ∧ (Cv (m_X8_append (d + 0) 0 0) [.ref 11, .int x5] h26 (fun h29 => Wf h29 ∧ (K (h_i h29 11 1) h29))))))))))) ∧ (¬ ((h_i h13 11 1) + ((((r3 + r6) + r9) + r12) + r15)) ≤ 160 → K (-1) h13)))))))))))) : Ci (m_X8_takeIn (d + 1) 0 0) [.ref 11, .int x1, .int x2, .int x3, .int x4, .int x5] h K := by
  refine Ct.of (fun _ _ _ => trivial) rfl (Nat.le_of_ble_eq_true rfl) ?_
  show AW (m_X8_takeIn (d + 1) 0 0) 0 0 0 [(0, .ref 11), (1, .int x1), (2, .int x2), (3, .int x3), (4, .int x4), (5, .int x5)] [] h (kI K)
  refine aw_iload_n (i := 1) rfl d_X8_takeIn_0 1 rfl ?_
  refine aw_Si [.int x1] [] d_X8_takeIn_1 (cS_X8_signs (d + 0) 0 0) tw_649 rfl (rr0 (Nat.le_of_ble_eq_true rfl) (Nat.le_of_ble_eq_true rfl)) (Nat.le_of_ble_eq_true rfl) xs0 k (fun r3 h1 kk => ?_)
  obtain ⟨w2, k⟩ := kk
  refine aw_iload_n (i := 2) rfl d_X8_takeIn_4 2 rfl ?_
  refine aw_Si [.int x2] [.int r3] d_X8_takeIn_5 (cS_X8_signs (d + 0) 0 0) tw_649 rfl (rr0 (Nat.le_of_ble_eq_true rfl) (Nat.le_of_ble_eq_true rfl)) (Nat.le_of_ble_eq_true rfl) xs0 k (fun r6 h4 kk => ?_)
  obtain ⟨w5, k⟩ := kk
  refine aw_iadd d_X8_takeIn_8 ?_
  refine aw_iload_n (i := 3) rfl d_X8_takeIn_9 3 rfl ?_
  refine aw_Si [.int x3] [.int (r3 + r6)] d_X8_takeIn_10 (cS_X8_signs (d + 0) 0 0) tw_649 rfl (rr0 (Nat.le_of_ble_eq_true rfl) (Nat.le_of_ble_eq_true rfl)) (Nat.le_of_ble_eq_true rfl) xs0 k (fun r9 h7 kk => ?_)
  obtain ⟨w8, k⟩ := kk
  refine aw_iadd d_X8_takeIn_13 ?_
  refine aw_iload d_X8_takeIn_14 4 rfl ?_
  refine aw_Si [.int x4] [.int ((r3 + r6) + r9)] d_X8_takeIn_16 (cS_X8_signs (d + 0) 0 0) tw_649 rfl (rr0 (Nat.le_of_ble_eq_true rfl) (Nat.le_of_ble_eq_true rfl)) (Nat.le_of_ble_eq_true rfl) xs0 k (fun r12 h10 kk => ?_)
  obtain ⟨w11, k⟩ := kk
  refine aw_iadd d_X8_takeIn_19 ?_
  refine aw_iload d_X8_takeIn_20 5 rfl ?_
  refine aw_Si [.int x5] [.int (((r3 + r6) + r9) + r12)] d_X8_takeIn_22 (cS_X8_signs (d + 0) 0 0) tw_649 rfl (rr0 (Nat.le_of_ble_eq_true rfl) (Nat.le_of_ble_eq_true rfl)) (Nat.le_of_ble_eq_true rfl) xs0 k (fun r15 h13 kk => ?_)
  obtain ⟨w14, k⟩ := kk
  refine aw_iadd d_X8_takeIn_25 ?_
  refine aw_istore [(0, .ref 11), (1, .int x1), (2, .int x2), (3, .int x3), (4, .int x4), (5, .int x5), (6, .int ((((r3 + r6) + r9) + r12) + r15))] d_X8_takeIn_26 (Nat.le_of_ble_eq_true rfl) rfl rfl ?_
  refine aw_aload_n (i := 0) rfl d_X8_takeIn_28 0 rfl ?_
  refine aw_geti (k0 := 1) kc_8 (ws_11 w14) (Nat.le_of_ble_eq_true rfl) tw_60 d_X8_takeIn_29 rfl ?_
  refine aw_iload d_X8_takeIn_32 6 rfl ?_
  refine aw_iadd d_X8_takeIn_34 ?_
  refine aw_sipush (v := 160) d_X8_takeIn_35 is_160 ?_
  refine aw_icmp_le (tgt := 43) d_X8_takeIn_38 rfl (fun c16 => ?_) (fun c16 => ?_)
  · have k := k.1 c16
    refine aw_aload_n (i := 0) rfl d_X8_takeIn_43 0 rfl ?_
    refine aw_iload_n (i := 1) rfl d_X8_takeIn_44 1 rfl ?_
    refine aw_Vv 11 [.int x1] [] d_X8_takeIn_45 (cV_X8_append (d + 0) 0 0) kc_8 (ws_11 w14) tw_652 rfl (rr0 (Nat.le_of_ble_eq_true rfl) (Nat.le_of_ble_eq_true rfl)) (Nat.le_of_ble_eq_true rfl) xs0 k (fun h17 kk => ?_)
    obtain ⟨w18, k⟩ := kk
    refine aw_aload_n (i := 0) rfl d_X8_takeIn_48 0 rfl ?_
    refine aw_iload_n (i := 2) rfl d_X8_takeIn_49 2 rfl ?_
    refine aw_Vv 11 [.int x2] [] d_X8_takeIn_50 (cV_X8_append (d + 0) 0 0) kc_8 (ws_11 w18) tw_652 rfl (rr0 (Nat.le_of_ble_eq_true rfl) (Nat.le_of_ble_eq_true rfl)) (Nat.le_of_ble_eq_true rfl) xs0 k (fun h20 kk => ?_)
    obtain ⟨w21, k⟩ := kk
    refine aw_aload_n (i := 0) rfl d_X8_takeIn_53 0 rfl ?_
    refine aw_iload_n (i := 3) rfl d_X8_takeIn_54 3 rfl ?_
    refine aw_Vv 11 [.int x3] [] d_X8_takeIn_55 (cV_X8_append (d + 0) 0 0) kc_8 (ws_11 w21) tw_652 rfl (rr0 (Nat.le_of_ble_eq_true rfl) (Nat.le_of_ble_eq_true rfl)) (Nat.le_of_ble_eq_true rfl) xs0 k (fun h23 kk => ?_)
    obtain ⟨w24, k⟩ := kk
    refine aw_aload_n (i := 0) rfl d_X8_takeIn_58 0 rfl ?_
    refine aw_iload d_X8_takeIn_59 4 rfl ?_
    refine aw_Vv 11 [.int x4] [] d_X8_takeIn_61 (cV_X8_append (d + 0) 0 0) kc_8 (ws_11 w24) tw_652 rfl (rr0 (Nat.le_of_ble_eq_true rfl) (Nat.le_of_ble_eq_true rfl)) (Nat.le_of_ble_eq_true rfl) xs0 k (fun h26 kk => ?_)
    obtain ⟨w27, k⟩ := kk
    refine aw_aload_n (i := 0) rfl d_X8_takeIn_64 0 rfl ?_
    refine aw_iload d_X8_takeIn_65 5 rfl ?_
    refine aw_Vv 11 [.int x5] [] d_X8_takeIn_67 (cV_X8_append (d + 0) 0 0) kc_8 (ws_11 w27) tw_652 rfl (rr0 (Nat.le_of_ble_eq_true rfl) (Nat.le_of_ble_eq_true rfl)) (Nat.le_of_ble_eq_true rfl) xs0 k (fun h29 kk => ?_)
    obtain ⟨w30, k⟩ := kk
    refine aw_aload_n (i := 0) rfl d_X8_takeIn_70 0 rfl ?_
    refine aw_geti (k0 := 1) kc_8 (ws_11 w30) (Nat.le_of_ble_eq_true rfl) tw_60 d_X8_takeIn_71 rfl ?_
    exact aw_iret rfl d_X8_takeIn_74 ⟨Nat.le_refl _, Nat.le_refl _⟩ ⟨_, rfl, k⟩
  · have k := k.2 c16
    refine aw_iconst (v := (-1)) d_X8_takeIn_41 ic_m1 ?_
    exact aw_iret rfl d_X8_takeIn_42 ⟨Nat.le_refl _, Nat.le_refl _⟩ ⟨_, rfl, k⟩
theorem t_X8_cut (d : Nat) (h : Hp_) (w : Wf h) (x1 : Int32) (K : Int32 → Hp_ → Prop) (k : ((0 ≤ x1 ∧ x1 ≤ (h_i h 11 1)) → K 1 (h_im h 11 1 x1)) ∧ (¬ (0 ≤ x1 ∧ x1 ≤ (h_i h 11 1)) → K 0 h)) : Ci (m_X8_cut (d + 1) 0 0) [.ref 11, .int x1] h K := by
  refine Ct.of (fun _ _ _ => trivial) rfl (Nat.le_of_ble_eq_true rfl) ?_
  show AW (m_X8_cut (d + 1) 0 0) 0 0 0 [(0, .ref 11), (1, .int x1)] [] h (kI K)
  refine aw_iload_n (i := 1) rfl d_X8_cut_0 1 rfl ?_
  refine aw_iconst (v := 0) d_X8_cut_1 ic_0 ?_
  refine aw_aload_n (i := 0) rfl d_X8_cut_2 0 rfl ?_
  refine aw_geti (k0 := 1) kc_8 (ws_11 w) (Nat.le_of_ble_eq_true rfl) tw_60 d_X8_cut_3 rfl ?_
  refine aw_SNi [.int x1, .int 0, .int (h_i h 11 1)] [] d_X8_cut_6 (cS_X11_within (d + 0) 0 0) (List.mem_of_getElem? (i := 8) rfl) rfl (rr0 (Nat.le_of_ble_eq_true rfl) (Nat.le_of_ble_eq_true rfl)) (Nat.le_of_ble_eq_true rfl) xs0 (s_X11_within _ _ x1 0 (h_i h 11 1)) (fun _ _ kk => ?_)
  obtain ⟨e1, e2⟩ := kk
  rw [e1, e2]
  refine aw_ifb_ne (tgt := 14) d_X8_cut_9 rfl (fun c3 => ?_) (fun c3 => ?_)
  · have k := k.1 c3
    refine aw_aload_n (i := 0) rfl d_X8_cut_14 0 rfl ?_
    refine aw_iload_n (i := 1) rfl d_X8_cut_15 1 rfl ?_
    refine aw_puti (k0 := 1) kc_8 (ws_11 w) (Nat.le_of_ble_eq_true rfl) tw_60 d_X8_cut_16 rfl rfl nf_i ?_
    refine aw_iconst (v := 1) d_X8_cut_19 ic_1 ?_
    exact aw_zret rfl rfl d_X8_cut_20 ⟨Nat.le_refl _, Nat.le_refl _⟩ ⟨_, rfl, k⟩
  · have k := k.2 c3
    refine aw_iconst (v := 0) d_X8_cut_12 ic_0 ?_
    exact aw_zret rfl rfl d_X8_cut_13 ⟨Nat.le_refl _, Nat.le_refl _⟩ ⟨_, rfl, k⟩
theorem t_X8_expect (d : Nat) (h : Hp_) (w : Wf h) (x1 : Int32) (K : Int32 → Hp_ → Prop) (k : Ci (m_X8_peek (d + 0) 0 0) [.ref 11] h (fun r3 h1 => Wf h1 ∧ ((r3 = x1 → K 1 (h_im h1 11 2 ((h_i h1 11 2) + 1))) ∧ (¬ r3 = x1 → Ci (m_X8_fail (d + 0) 0 0) [.ref 11] h1 (fun r7 h5 => Wf h5 ∧ ((r7 = 0 ∨ r7 = 1) ∧ (K r7 h5))))))) : Ci (m_X8_expect (d + 1) 0 0) [.ref 11, .int x1] h K := by
  refine Ct.of (fun _ _ _ => trivial) rfl (Nat.le_of_ble_eq_true rfl) ?_
  show AW (m_X8_expect (d + 1) 0 0) 0 0 0 [(0, .ref 11), (1, .int x1)] [] h (kI K)
  refine aw_aload_n (i := 0) rfl d_X8_expect_0 0 rfl ?_
  refine aw_Vi 11 [] [] d_X8_expect_1 (cV_X8_peek (d + 0) 0 0) kc_8 (ws_11 w) tw_685 rfl (rr0 (Nat.le_of_ble_eq_true rfl) (Nat.le_of_ble_eq_true rfl)) (Nat.le_of_ble_eq_true rfl) xs0 k (fun r3 h1 kk => ?_)
  obtain ⟨w2, k⟩ := kk
  refine aw_iload_n (i := 1) rfl d_X8_expect_4 1 rfl ?_
  refine aw_icmp_eq (tgt := 13) d_X8_expect_5 rfl (fun c4 => ?_) (fun c4 => ?_)
  · have k := k.1 c4
    refine aw_aload_n (i := 0) rfl d_X8_expect_13 0 rfl ?_
    refine aw_dup d_X8_expect_14 rfl ?_
    refine aw_geti (k0 := 2) kc_8 (ws_11 w2) (Nat.le_of_ble_eq_true rfl) tw_62 d_X8_expect_15 rfl ?_
    refine aw_iconst (v := 1) d_X8_expect_18 ic_1 ?_
    refine aw_iadd d_X8_expect_19 ?_
    refine aw_puti (k0 := 2) kc_8 (ws_11 w2) (Nat.le_of_ble_eq_true rfl) tw_62 d_X8_expect_20 rfl rfl nf_i ?_
    refine aw_iconst (v := 1) d_X8_expect_23 ic_1 ?_
    exact aw_zret rfl rfl d_X8_expect_24 ⟨Nat.le_refl _, Nat.le_refl _⟩ ⟨_, rfl, k⟩
  · have k := k.2 c4
    refine aw_aload_n (i := 0) rfl d_X8_expect_8 0 rfl ?_
    refine aw_Vi 11 [] [] d_X8_expect_9 (cV_X8_fail (d + 0) 0 0) kc_8 (ws_11 w2) tw_715 rfl (rr0 (Nat.le_of_ble_eq_true rfl) (Nat.le_of_ble_eq_true rfl)) (Nat.le_of_ble_eq_true rfl) xs0 k (fun r7 h5 kk => ?_)
    obtain ⟨w6, k⟩ := kk
    obtain ⟨z8, k⟩ := k
    exact aw_zret rfl (nf_z z8).1 d_X8_expect_12 ⟨Nat.le_refl _, Nat.le_refl _⟩ ⟨_, rfl, k⟩
theorem t_X8_readNumber (d : Nat) (h : Hp_) (w : Wf h) (x1 : Int32) (x2 : Int32) (K : Int32 → Hp_ → Prop) (k : Ci (m_X8_peek (d + 0) 0 0) [.ref 11] h (fun r3 h1 => Wf h1 ∧ (Ci (m_X8_isDigit (d + 0) 0 0) [.int r3] h1 (fun r6 h4 => Wf h4 ∧ (AW (m_X8_readNumber (d + 1) 0 0) 0 0 14 [(0, .ref 11), (1, .int x1), (2, .int x2), (3, .int 0), (4, .int 0), (5, .int r6)] [] h4 (kI K)))))) : Ci (m_X8_readNumber (d + 1) 0 0) [.ref 11, .int x1, .int x2] h K := by
  refine Ct.of (fun _ _ _ => trivial) rfl (Nat.le_of_ble_eq_true rfl) ?_
  show AW (m_X8_readNumber (d + 1) 0 0) 0 0 0 [(0, .ref 11), (1, .int x1), (2, .int x2)] [] h (kI K)
  refine aw_iconst (v := 0) d_X8_readNumber_0 ic_0 ?_
  refine aw_istore_n (i := 3) rfl [(0, .ref 11), (1, .int x1), (2, .int x2), (3, .int 0)] d_X8_readNumber_1 (Nat.le_of_ble_eq_true rfl) rfl rfl ?_
  refine aw_iconst (v := 0) d_X8_readNumber_2 ic_0 ?_
  refine aw_istore [(0, .ref 11), (1, .int x1), (2, .int x2), (3, .int 0), (4, .int 0)] d_X8_readNumber_3 (Nat.le_of_ble_eq_true rfl) rfl rfl ?_
  refine aw_aload_n (i := 0) rfl d_X8_readNumber_5 0 rfl ?_
  refine aw_Vi 11 [] [] d_X8_readNumber_6 (cV_X8_peek (d + 0) 0 0) kc_8 (ws_11 w) tw_685 rfl (rr0 (Nat.le_of_ble_eq_true rfl) (Nat.le_of_ble_eq_true rfl)) (Nat.le_of_ble_eq_true rfl) xs0 k (fun r3 h1 kk => ?_)
  obtain ⟨w2, k⟩ := kk
  refine aw_Si [.int r3] [] d_X8_readNumber_9 (cS_X8_isDigit (d + 0) 0 0) tw_693 rfl (rr0 (Nat.le_of_ble_eq_true rfl) (Nat.le_of_ble_eq_true rfl)) (Nat.le_of_ble_eq_true rfl) xs0 k (fun r6 h4 kk => ?_)
  obtain ⟨w5, k⟩ := kk
  refine aw_istore [(0, .ref 11), (1, .int x1), (2, .int x2), (3, .int 0), (4, .int 0), (5, .int r6)] d_X8_readNumber_12 (Nat.le_of_ble_eq_true rfl) rfl rfl ?_
  exact k
theorem t_X8_readNumber_14 (d : Nat) (h : Hp_) (w : Wf h) (x1 : Int32) (x2 : Int32) (x3 : Int32) (x4 : Int32) (x5 : Int32) (K : Int32 → Hp_ → Prop) (k : (x5 = 0 → (¬ x5 = 0 → ((x1 ≤ x3 ∧ x3 ≤ x2) → K x3 h) ∧ (¬ (x1 ≤ x3 ∧ x3 ≤ x2) → K (-1) (h_im h 11 3 ((h_i h 11 2) - 1)))) ∧ (x5 = 0 → K (-1) (h_im h 11 3 (h_i h 11 2)))) ∧ (¬ x5 = 0 → ((h_i h 11 1) ≤ (h_i h 11 2) → (¬ x5 = 0 → ((x1 ≤ x3 ∧ x3 ≤ x2) → K x3 h) ∧ (¬ (x1 ≤ x3 ∧ x3 ≤ x2) → K (-1) (h_im h 11 3 ((h_i h 11 2) - 1)))) ∧ (x5 = 0 → K (-1) (h_im h 11 3 (h_i h 11 2)))) ∧ (¬ (h_i h 11 1) ≤ (h_i h 11 2) → vp_in (h_i h 11 2) 160 ∧ (Ci (m_X8_isDigit (d + 0) 0 0) [.int (h_i h 31 ((h_i h 11 2) : Int32).toNatClampNeg)] h (fun r20 h18 => Wf h18 ∧ ((r20 = 0 → (¬ x5 = 0 → ((x1 ≤ x3 ∧ x3 ≤ x2) → K x3 h18) ∧ (¬ (x1 ≤ x3 ∧ x3 ≤ x2) → K (-1) (h_im h18 11 3 ((h_i h18 11 2) - 1)))) ∧ (x5 = 0 → K (-1) (h_im h18 11 3 (h_i h18 11 2)))) ∧ (¬ r20 = 0 → (¬ x4 = 4 → vp_in (h_i h18 11 2) 160 ∧ (AW (m_X8_readNumber (d + 1) 0 0) 0 0 14 [(0, .ref 11), (1, .int x1), (2, .int x2), (3, .int (((x3 * 10) + (h_i h18 31 ((h_i h18 11 2) : Int32).toNatClampNeg)) - 48)), (4, .int (x4 + 1)), (5, .int x5)] [] (h_im h18 11 2 ((h_i h18 11 2) + 1)) (kI K))) ∧ (x4 = 4 → K (-1) (h_im h18 11 3 (h_i h18 11 2)))))))))) : AW (m_X8_readNumber (d + 1) 0 0) 0 0 14 [(0, .ref 11), (1, .int x1), (2, .int x2), (3, .int x3), (4, .int x4), (5, .int x5)] [] h (kI K) := by
  refine aw_iload d_X8_readNumber_14 5 rfl ?_
  refine aw_if_eq (tgt := 95) d_X8_readNumber_16 rfl (fun c7 => ?_) (fun c7 => ?_)
  · have k := k.1 c7
    refine aw_iload d_X8_readNumber_95 5 rfl ?_
    refine aw_if_ne (tgt := 110) d_X8_readNumber_97 rfl (fun c8 => ?_) (fun c8 => ?_)
    · have k := k.1 c8
      refine aw_iload_n (i := 3) rfl d_X8_readNumber_110 3 rfl ?_
      refine aw_iload_n (i := 1) rfl d_X8_readNumber_111 1 rfl ?_
      refine aw_iload_n (i := 2) rfl d_X8_readNumber_112 2 rfl ?_
      refine aw_SNi [.int x3, .int x1, .int x2] [] d_X8_readNumber_113 (cS_X11_within (d + 0) 0 0) (List.mem_of_getElem? (i := 8) rfl) rfl (rr0 (Nat.le_of_ble_eq_true rfl) (Nat.le_of_ble_eq_true rfl)) (Nat.le_of_ble_eq_true rfl) xs0 (s_X11_within _ _ x3 x1 x2) (fun _ _ kk => ?_)
      obtain ⟨e9, e10⟩ := kk
      rw [e9, e10]
      refine aw_ifb_ne (tgt := 131) d_X8_readNumber_116 rfl (fun c11 => ?_) (fun c11 => ?_)
      · have k := k.1 c11
        refine aw_iload_n (i := 3) rfl d_X8_readNumber_131 3 rfl ?_
        exact aw_iret rfl d_X8_readNumber_132 ⟨Nat.le_refl _, Nat.le_refl _⟩ ⟨_, rfl, k⟩
      · have k := k.2 c11
        refine aw_aload_n (i := 0) rfl d_X8_readNumber_119 0 rfl ?_
        refine aw_aload_n (i := 0) rfl d_X8_readNumber_120 0 rfl ?_
        refine aw_geti (k0 := 2) kc_8 (ws_11 w) (Nat.le_of_ble_eq_true rfl) tw_62 d_X8_readNumber_121 rfl ?_
        refine aw_iconst (v := 1) d_X8_readNumber_124 ic_1 ?_
        refine aw_isub d_X8_readNumber_125 ?_
        refine aw_puti (k0 := 3) kc_8 (ws_11 w) (Nat.le_of_ble_eq_true rfl) tw_63 d_X8_readNumber_126 rfl rfl nf_i ?_
        refine aw_iconst (v := (-1)) d_X8_readNumber_129 ic_m1 ?_
        exact aw_iret rfl d_X8_readNumber_130 ⟨Nat.le_refl _, Nat.le_refl _⟩ ⟨_, rfl, k⟩
    · have k := k.2 c8
      refine aw_aload_n (i := 0) rfl d_X8_readNumber_100 0 rfl ?_
      refine aw_aload_n (i := 0) rfl d_X8_readNumber_101 0 rfl ?_
      refine aw_geti (k0 := 2) kc_8 (ws_11 w) (Nat.le_of_ble_eq_true rfl) tw_62 d_X8_readNumber_102 rfl ?_
      refine aw_puti (k0 := 3) kc_8 (ws_11 w) (Nat.le_of_ble_eq_true rfl) tw_63 d_X8_readNumber_105 rfl rfl nf_i ?_
      refine aw_iconst (v := (-1)) d_X8_readNumber_108 ic_m1 ?_
      exact aw_iret rfl d_X8_readNumber_109 ⟨Nat.le_refl _, Nat.le_refl _⟩ ⟨_, rfl, k⟩
  · have k := k.2 c7
    refine aw_aload_n (i := 0) rfl d_X8_readNumber_19 0 rfl ?_
    refine aw_geti (k0 := 2) kc_8 (ws_11 w) (Nat.le_of_ble_eq_true rfl) tw_62 d_X8_readNumber_20 rfl ?_
    refine aw_aload_n (i := 0) rfl d_X8_readNumber_23 0 rfl ?_
    refine aw_geti (k0 := 1) kc_8 (ws_11 w) (Nat.le_of_ble_eq_true rfl) tw_60 d_X8_readNumber_24 rfl ?_
    refine aw_icmp_ge (tgt := 95) d_X8_readNumber_27 rfl (fun c12 => ?_) (fun c12 => ?_)
    · have k := k.1 c12
      refine aw_iload d_X8_readNumber_95 5 rfl ?_
      refine aw_if_ne (tgt := 110) d_X8_readNumber_97 rfl (fun c13 => ?_) (fun c13 => ?_)
      · have k := k.1 c13
        refine aw_iload_n (i := 3) rfl d_X8_readNumber_110 3 rfl ?_
        refine aw_iload_n (i := 1) rfl d_X8_readNumber_111 1 rfl ?_
        refine aw_iload_n (i := 2) rfl d_X8_readNumber_112 2 rfl ?_
        refine aw_SNi [.int x3, .int x1, .int x2] [] d_X8_readNumber_113 (cS_X11_within (d + 0) 0 0) (List.mem_of_getElem? (i := 8) rfl) rfl (rr0 (Nat.le_of_ble_eq_true rfl) (Nat.le_of_ble_eq_true rfl)) (Nat.le_of_ble_eq_true rfl) xs0 (s_X11_within _ _ x3 x1 x2) (fun _ _ kk => ?_)
        obtain ⟨e14, e15⟩ := kk
        rw [e14, e15]
        refine aw_ifb_ne (tgt := 131) d_X8_readNumber_116 rfl (fun c16 => ?_) (fun c16 => ?_)
        · have k := k.1 c16
          refine aw_iload_n (i := 3) rfl d_X8_readNumber_131 3 rfl ?_
          exact aw_iret rfl d_X8_readNumber_132 ⟨Nat.le_refl _, Nat.le_refl _⟩ ⟨_, rfl, k⟩
        · have k := k.2 c16
          refine aw_aload_n (i := 0) rfl d_X8_readNumber_119 0 rfl ?_
          refine aw_aload_n (i := 0) rfl d_X8_readNumber_120 0 rfl ?_
          refine aw_geti (k0 := 2) kc_8 (ws_11 w) (Nat.le_of_ble_eq_true rfl) tw_62 d_X8_readNumber_121 rfl ?_
          refine aw_iconst (v := 1) d_X8_readNumber_124 ic_1 ?_
          refine aw_isub d_X8_readNumber_125 ?_
          refine aw_puti (k0 := 3) kc_8 (ws_11 w) (Nat.le_of_ble_eq_true rfl) tw_63 d_X8_readNumber_126 rfl rfl nf_i ?_
          refine aw_iconst (v := (-1)) d_X8_readNumber_129 ic_m1 ?_
          exact aw_iret rfl d_X8_readNumber_130 ⟨Nat.le_refl _, Nat.le_refl _⟩ ⟨_, rfl, k⟩
      · have k := k.2 c13
        refine aw_aload_n (i := 0) rfl d_X8_readNumber_100 0 rfl ?_
        refine aw_aload_n (i := 0) rfl d_X8_readNumber_101 0 rfl ?_
        refine aw_geti (k0 := 2) kc_8 (ws_11 w) (Nat.le_of_ble_eq_true rfl) tw_62 d_X8_readNumber_102 rfl ?_
        refine aw_puti (k0 := 3) kc_8 (ws_11 w) (Nat.le_of_ble_eq_true rfl) tw_63 d_X8_readNumber_105 rfl rfl nf_i ?_
        refine aw_iconst (v := (-1)) d_X8_readNumber_108 ic_m1 ?_
        exact aw_iret rfl d_X8_readNumber_109 ⟨Nat.le_refl _, Nat.le_refl _⟩ ⟨_, rfl, k⟩
    · have k := k.2 c12
      refine aw_aload_n (i := 0) rfl d_X8_readNumber_30 0 rfl ?_
      refine aw_getr (k0 := 0) kc_8 (ws_11 w) (Nat.le_of_ble_eq_true rfl) tw_59 d_X8_readNumber_31 rfl (wr_11_0 w) ?_
      refine aw_aload_n (i := 0) rfl d_X8_readNumber_34 0 rfl ?_
      refine aw_geti (k0 := 2) kc_8 (ws_11 w) (Nat.le_of_ble_eq_true rfl) tw_62 d_X8_readNumber_35 rfl ?_
      obtain ⟨b17, k⟩ := k
      refine aw_iald (ws_31 w) b17 d_X8_readNumber_38 ?_
      refine aw_Si [.int (h_i h 31 ((h_i h 11 2) : Int32).toNatClampNeg)] [] d_X8_readNumber_39 (cS_X8_isDigit (d + 0) 0 0) tw_693 rfl (rr0 (Nat.le_of_ble_eq_true rfl) (Nat.le_of_ble_eq_true rfl)) (Nat.le_of_ble_eq_true rfl) xs0 k (fun r20 h18 kk => ?_)
      obtain ⟨w19, k⟩ := kk
      refine aw_if_eq (tgt := 95) d_X8_readNumber_42 rfl (fun c21 => ?_) (fun c21 => ?_)
      · have k := k.1 c21
        refine aw_iload d_X8_readNumber_95 5 rfl ?_
        refine aw_if_ne (tgt := 110) d_X8_readNumber_97 rfl (fun c22 => ?_) (fun c22 => ?_)
        · have k := k.1 c22
          refine aw_iload_n (i := 3) rfl d_X8_readNumber_110 3 rfl ?_
          refine aw_iload_n (i := 1) rfl d_X8_readNumber_111 1 rfl ?_
          refine aw_iload_n (i := 2) rfl d_X8_readNumber_112 2 rfl ?_
          refine aw_SNi [.int x3, .int x1, .int x2] [] d_X8_readNumber_113 (cS_X11_within (d + 0) 0 0) (List.mem_of_getElem? (i := 8) rfl) rfl (rr0 (Nat.le_of_ble_eq_true rfl) (Nat.le_of_ble_eq_true rfl)) (Nat.le_of_ble_eq_true rfl) xs0 (s_X11_within _ _ x3 x1 x2) (fun _ _ kk => ?_)
          obtain ⟨e23, e24⟩ := kk
          rw [e23, e24]
          refine aw_ifb_ne (tgt := 131) d_X8_readNumber_116 rfl (fun c25 => ?_) (fun c25 => ?_)
          · have k := k.1 c25
            refine aw_iload_n (i := 3) rfl d_X8_readNumber_131 3 rfl ?_
            exact aw_iret rfl d_X8_readNumber_132 ⟨Nat.le_refl _, Nat.le_refl _⟩ ⟨_, rfl, k⟩
          · have k := k.2 c25
            refine aw_aload_n (i := 0) rfl d_X8_readNumber_119 0 rfl ?_
            refine aw_aload_n (i := 0) rfl d_X8_readNumber_120 0 rfl ?_
            refine aw_geti (k0 := 2) kc_8 (ws_11 w19) (Nat.le_of_ble_eq_true rfl) tw_62 d_X8_readNumber_121 rfl ?_
            refine aw_iconst (v := 1) d_X8_readNumber_124 ic_1 ?_
            refine aw_isub d_X8_readNumber_125 ?_
            refine aw_puti (k0 := 3) kc_8 (ws_11 w19) (Nat.le_of_ble_eq_true rfl) tw_63 d_X8_readNumber_126 rfl rfl nf_i ?_
            refine aw_iconst (v := (-1)) d_X8_readNumber_129 ic_m1 ?_
            exact aw_iret rfl d_X8_readNumber_130 ⟨Nat.le_refl _, Nat.le_refl _⟩ ⟨_, rfl, k⟩
        · have k := k.2 c22
          refine aw_aload_n (i := 0) rfl d_X8_readNumber_100 0 rfl ?_
          refine aw_aload_n (i := 0) rfl d_X8_readNumber_101 0 rfl ?_
          refine aw_geti (k0 := 2) kc_8 (ws_11 w19) (Nat.le_of_ble_eq_true rfl) tw_62 d_X8_readNumber_102 rfl ?_
          refine aw_puti (k0 := 3) kc_8 (ws_11 w19) (Nat.le_of_ble_eq_true rfl) tw_63 d_X8_readNumber_105 rfl rfl nf_i ?_
          refine aw_iconst (v := (-1)) d_X8_readNumber_108 ic_m1 ?_
          exact aw_iret rfl d_X8_readNumber_109 ⟨Nat.le_refl _, Nat.le_refl _⟩ ⟨_, rfl, k⟩
      · have k := k.2 c21
        refine aw_iload d_X8_readNumber_45 4 rfl ?_
        refine aw_iconst (v := 4) d_X8_readNumber_47 ic_4 ?_
        refine aw_icmp_ne (tgt := 61) d_X8_readNumber_48 rfl (fun c26 => ?_) (fun c26 => ?_)
        · have k := k.1 c26
          refine aw_iload_n (i := 3) rfl d_X8_readNumber_61 3 rfl ?_
          refine aw_bipush (v := 10) d_X8_readNumber_62 ib_10 ?_
          refine aw_imul d_X8_readNumber_64 ?_
          refine aw_aload_n (i := 0) rfl d_X8_readNumber_65 0 rfl ?_
          refine aw_getr (k0 := 0) kc_8 (ws_11 w19) (Nat.le_of_ble_eq_true rfl) tw_59 d_X8_readNumber_66 rfl (wr_11_0 w19) ?_
          refine aw_aload_n (i := 0) rfl d_X8_readNumber_69 0 rfl ?_
          refine aw_geti (k0 := 2) kc_8 (ws_11 w19) (Nat.le_of_ble_eq_true rfl) tw_62 d_X8_readNumber_70 rfl ?_
          obtain ⟨b27, k⟩ := k
          refine aw_iald (ws_31 w19) b27 d_X8_readNumber_73 ?_
          refine aw_iadd d_X8_readNumber_74 ?_
          refine aw_bipush (v := 48) d_X8_readNumber_75 ib_48 ?_
          refine aw_isub d_X8_readNumber_77 ?_
          refine aw_istore_n (i := 3) rfl [(0, .ref 11), (1, .int x1), (2, .int x2), (3, .int (((x3 * 10) + (h_i h18 31 ((h_i h18 11 2) : Int32).toNatClampNeg)) - 48)), (4, .int x4), (5, .int x5)] d_X8_readNumber_78 (Nat.le_of_ble_eq_true rfl) rfl rfl ?_
          refine aw_iinc (v := (x4 + 1)) [(0, .ref 11), (1, .int x1), (2, .int x2), (3, .int (((x3 * 10) + (h_i h18 31 ((h_i h18 11 2) : Int32).toNatClampNeg)) - 48)), (4, .int (x4 + 1)), (5, .int x5)] d_X8_readNumber_79 4 rfl rfl (Nat.le_of_ble_eq_true rfl) rfl rfl ?_
          refine aw_aload_n (i := 0) rfl d_X8_readNumber_82 0 rfl ?_
          refine aw_dup d_X8_readNumber_83 rfl ?_
          refine aw_geti (k0 := 2) kc_8 (ws_11 w19) (Nat.le_of_ble_eq_true rfl) tw_62 d_X8_readNumber_84 rfl ?_
          refine aw_iconst (v := 1) d_X8_readNumber_87 ic_1 ?_
          refine aw_iadd d_X8_readNumber_88 ?_
          refine aw_puti (k0 := 2) kc_8 (ws_11 w19) (Nat.le_of_ble_eq_true rfl) tw_62 d_X8_readNumber_89 rfl rfl nf_i ?_
          refine aw_goto (tgt := 14) d_X8_readNumber_92 rfl ?_
          exact k
        · have k := k.2 c26
          refine aw_aload_n (i := 0) rfl d_X8_readNumber_51 0 rfl ?_
          refine aw_aload_n (i := 0) rfl d_X8_readNumber_52 0 rfl ?_
          refine aw_geti (k0 := 2) kc_8 (ws_11 w19) (Nat.le_of_ble_eq_true rfl) tw_62 d_X8_readNumber_53 rfl ?_
          refine aw_puti (k0 := 3) kc_8 (ws_11 w19) (Nat.le_of_ble_eq_true rfl) tw_63 d_X8_readNumber_56 rfl rfl nf_i ?_
          refine aw_iconst (v := (-1)) d_X8_readNumber_59 ic_m1 ?_
          exact aw_iret rfl d_X8_readNumber_60 ⟨Nat.le_refl _, Nat.le_refl _⟩ ⟨_, rfl, k⟩
theorem t_X8_addStep (d : Nat) (h : Hp_) (x1 : Int32) (x2 : Int32) (x3 : Int32) (K : Int32 → Hp_ → Prop) (k : (x2 = (-1) → K 0 h) ∧ (¬ x2 = (-1) → (¬ x3 = (-1) → Ci (m_X0_pack (d + 0) 0 0) [.int x1, .int x2, .int x3] h (fun r5 h3 => Wf h3 ∧ (Cv (m_X8_appendStep (d + 0) 0 0) [.ref 11, .int r5] h3 (fun h6 => Wf h6 ∧ (K 1 h6))))) ∧ (x3 = (-1) → K 0 h))) : Ci (m_X8_addStep (d + 1) 0 0) [.ref 11, .int x1, .int x2, .int x3] h K := by
  refine Ct.of (fun _ _ _ => trivial) rfl (Nat.le_of_ble_eq_true rfl) ?_
  show AW (m_X8_addStep (d + 1) 0 0) 0 0 0 [(0, .ref 11), (1, .int x1), (2, .int x2), (3, .int x3)] [] h (kI K)
  refine aw_iload_n (i := 2) rfl d_X8_addStep_0 2 rfl ?_
  refine aw_iconst (v := (-1)) d_X8_addStep_1 ic_m1 ?_
  refine aw_icmp_eq (tgt := 10) d_X8_addStep_2 rfl (fun c1 => ?_) (fun c1 => ?_)
  · have k := k.1 c1
    refine aw_iconst (v := 0) d_X8_addStep_10 ic_0 ?_
    exact aw_zret rfl rfl d_X8_addStep_11 ⟨Nat.le_refl _, Nat.le_refl _⟩ ⟨_, rfl, k⟩
  · have k := k.2 c1
    refine aw_iload_n (i := 3) rfl d_X8_addStep_5 3 rfl ?_
    refine aw_iconst (v := (-1)) d_X8_addStep_6 ic_m1 ?_
    refine aw_icmp_ne (tgt := 12) d_X8_addStep_7 rfl (fun c2 => ?_) (fun c2 => ?_)
    · have k := k.1 c2
      refine aw_aload_n (i := 0) rfl d_X8_addStep_12 0 rfl ?_
      refine aw_iload_n (i := 1) rfl d_X8_addStep_13 1 rfl ?_
      refine aw_iload_n (i := 2) rfl d_X8_addStep_14 2 rfl ?_
      refine aw_iload_n (i := 3) rfl d_X8_addStep_15 3 rfl ?_
      refine aw_Si [.int x1, .int x2, .int x3] [.ref 11] d_X8_addStep_16 (cS_X0_pack (d + 0) 0 0) tw_700 rfl (rr0 (Nat.le_of_ble_eq_true rfl) (Nat.le_of_ble_eq_true rfl)) (Nat.le_of_ble_eq_true rfl) xs0 k (fun r5 h3 kk => ?_)
      obtain ⟨w4, k⟩ := kk
      refine aw_Vv 11 [.int r5] [] d_X8_addStep_19 (cV_X8_appendStep (d + 0) 0 0) kc_8 (ws_11 w4) tw_703 rfl (rr0 (Nat.le_of_ble_eq_true rfl) (Nat.le_of_ble_eq_true rfl)) (Nat.le_of_ble_eq_true rfl) xs0 k (fun h6 kk => ?_)
      obtain ⟨w7, k⟩ := kk
      refine aw_iconst (v := 1) d_X8_addStep_22 ic_1 ?_
      exact aw_zret rfl rfl d_X8_addStep_23 ⟨Nat.le_refl _, Nat.le_refl _⟩ ⟨_, rfl, k⟩
    · have k := k.2 c2
      refine aw_iconst (v := 0) d_X8_addStep_10 ic_0 ?_
      exact aw_zret rfl rfl d_X8_addStep_11 ⟨Nat.le_refl _, Nat.le_refl _⟩ ⟨_, rfl, k⟩
theorem t_X8_emit (d : Nat) (h : Hp_) (w : Wf h) (x1 : Int32) (x2 : Int32) (K : Int32 → Hp_ → Prop) (k : ((h_i h 11 9) < 164 → Ci (m_X10_pack (d + 0) 0 0) [.int x1, .int x2] h (fun r4 h2 => Wf h2 ∧ (vp_in (h_i h 11 9) 164 ∧ (K (((h_i h2 11 9) + 1) - 1) (h_im (h_im h2 33 ((h_i h 11 9) : Int32).toNatClampNeg r4) 11 9 ((h_i h2 11 9) + 1)))))) ∧ (¬ (h_i h 11 9) < 164 → K (-1) h)) : Ci (m_X8_emit (d + 1) 0 0) [.ref 11, .int x1, .int x2] h K := by
  refine Ct.of (fun _ _ _ => trivial) rfl (Nat.le_of_ble_eq_true rfl) ?_
  show AW (m_X8_emit (d + 1) 0 0) 0 0 0 [(0, .ref 11), (1, .int x1), (2, .int x2)] [] h (kI K)
  refine aw_aload_n (i := 0) rfl d_X8_emit_0 0 rfl ?_
  refine aw_geti (k0 := 9) kc_8 (ws_11 w) (Nat.le_of_ble_eq_true rfl) tw_74 d_X8_emit_1 rfl ?_
  refine aw_aload_n (i := 0) rfl d_X8_emit_4 0 rfl ?_
  refine aw_getr (k0 := 8) kc_8 (ws_11 w) (Nat.le_of_ble_eq_true rfl) tw_71 d_X8_emit_5 rfl (wr_11_8 w) ?_
  refine aw_alen (v := 164) (ws_33 w) (Nat.le_of_ble_eq_true rfl) rfl d_X8_emit_8 ?_
  refine aw_icmp_lt (tgt := 14) d_X8_emit_9 rfl (fun c1 => ?_) (fun c1 => ?_)
  · have k := k.1 c1
    refine aw_aload_n (i := 0) rfl d_X8_emit_14 0 rfl ?_
    refine aw_getr (k0 := 8) kc_8 (ws_11 w) (Nat.le_of_ble_eq_true rfl) tw_71 d_X8_emit_15 rfl (wr_11_8 w) ?_
    refine aw_aload_n (i := 0) rfl d_X8_emit_18 0 rfl ?_
    refine aw_geti (k0 := 9) kc_8 (ws_11 w) (Nat.le_of_ble_eq_true rfl) tw_74 d_X8_emit_19 rfl ?_
    refine aw_iload_n (i := 1) rfl d_X8_emit_22 1 rfl ?_
    refine aw_iload_n (i := 2) rfl d_X8_emit_23 2 rfl ?_
    refine aw_Si [.int x1, .int x2] [.int (h_i h 11 9), .ref 33] d_X8_emit_24 (cS_X10_pack (d + 0) 0 0) tw_757 rfl (rr0 (Nat.le_of_ble_eq_true rfl) (Nat.le_of_ble_eq_true rfl)) (Nat.le_of_ble_eq_true rfl) xs0 k (fun r4 h2 kk => ?_)
    obtain ⟨w3, k⟩ := kk
    obtain ⟨b5, k⟩ := k
    refine aw_iast (ws_33 w3) b5 d_X8_emit_27 ?_
    refine aw_aload_n (i := 0) rfl d_X8_emit_28 0 rfl ?_
    refine aw_dup d_X8_emit_29 rfl ?_
    refine aw_geti (k0 := 9) kc_8 (ws_11 w3) (Nat.le_of_ble_eq_true rfl) tw_74 d_X8_emit_30 rfl ?_
    refine aw_vi (v2 := (h_i h2 11 9)) (rfl) ?_
    refine aw_iconst (v := 1) d_X8_emit_33 ic_1 ?_
    refine aw_iadd d_X8_emit_34 ?_
    refine aw_puti (k0 := 9) kc_8 (ws_11 w3) (Nat.le_of_ble_eq_true rfl) tw_74 d_X8_emit_35 rfl rfl nf_i ?_
    refine aw_aload_n (i := 0) rfl d_X8_emit_38 0 rfl ?_
    refine aw_geti (k0 := 9) kc_8 (ws_11 w3) (Nat.le_of_ble_eq_true rfl) tw_74 d_X8_emit_39 rfl ?_
    refine aw_vi (v2 := ((h_i h2 11 9) + 1)) (rfl) ?_
    refine aw_iconst (v := 1) d_X8_emit_42 ic_1 ?_
    refine aw_isub d_X8_emit_43 ?_
    exact aw_iret rfl d_X8_emit_44 ⟨Nat.le_refl _, Nat.le_refl _⟩ ⟨_, rfl, k⟩
  · have k := k.2 c1
    refine aw_iconst (v := (-1)) d_X8_emit_12 ic_m1 ?_
    exact aw_iret rfl d_X8_emit_13 ⟨Nat.le_refl _, Nat.le_refl _⟩ ⟨_, rfl, k⟩
theorem t_X9_minutes (d : Nat) (h : Hp_) (w : Wf h) (x1 : Int32) (x2 : Int32) (K : Int32 → Hp_ → Prop) (k : (¬ (0 ≤ x1 ∧ x1 < 16) → K (-1) h) ∧ ((0 ≤ x1 ∧ x1 < 16) → ((0 ≤ x2 ∧ x2 < 16) → vp_in ((x1 * 16) + x2) 256 ∧ (((h_i h 30 (((x1 * 16) + x2) : Int32).toNatClampNeg) < 1000000 → K (h_i h 30 (((x1 * 16) + x2) : Int32).toNatClampNeg) h) ∧ (¬ (h_i h 30 (((x1 * 16) + x2) : Int32).toNatClampNeg) < 1000000 → K (-1) h))) ∧ (¬ (0 ≤ x2 ∧ x2 < 16) → K (-1) h))) : Ci (m_X9_minutes (d + 1) 0 0) [.ref 10, .int x1, .int x2] h K := by
  refine Ct.of (fun _ _ _ => trivial) rfl (Nat.le_of_ble_eq_true rfl) ?_
  show AW (m_X9_minutes (d + 1) 0 0) 0 0 0 [(0, .ref 10), (1, .int x1), (2, .int x2)] [] h (kI K)
  refine aw_iload_n (i := 1) rfl d_X9_minutes_0 1 rfl ?_
  refine aw_SNi [.int x1] [] d_X9_minutes_1 (cS_X11_isPlace (d + 0) 0 0) (List.mem_of_getElem? (i := 7) rfl) rfl (rr0 (Nat.le_of_ble_eq_true rfl) (Nat.le_of_ble_eq_true rfl)) (Nat.le_of_ble_eq_true rfl) xs0 (s_X11_isPlace _ _ x1) (fun _ _ kk => ?_)
  obtain ⟨e1, e2⟩ := kk
  rw [e1, e2]
  refine aw_ifb_eq (tgt := 14) d_X9_minutes_4 rfl (fun c3 => ?_) (fun c3 => ?_)
  · have k := k.1 c3
    refine aw_iconst (v := (-1)) d_X9_minutes_14 ic_m1 ?_
    exact aw_iret rfl d_X9_minutes_15 ⟨Nat.le_refl _, Nat.le_refl _⟩ ⟨_, rfl, k⟩
  · have k := k.2 c3
    refine aw_iload_n (i := 2) rfl d_X9_minutes_7 2 rfl ?_
    refine aw_SNi [.int x2] [] d_X9_minutes_8 (cS_X11_isPlace (d + 0) 0 0) (List.mem_of_getElem? (i := 7) rfl) rfl (rr0 (Nat.le_of_ble_eq_true rfl) (Nat.le_of_ble_eq_true rfl)) (Nat.le_of_ble_eq_true rfl) xs0 (s_X11_isPlace _ _ x2) (fun _ _ kk => ?_)
    obtain ⟨e4, e5⟩ := kk
    rw [e4, e5]
    refine aw_ifb_ne (tgt := 16) d_X9_minutes_11 rfl (fun c6 => ?_) (fun c6 => ?_)
    · have k := k.1 c6
      refine aw_aload_n (i := 0) rfl d_X9_minutes_16 0 rfl ?_
      refine aw_getr (k0 := 0) kc_9 (ws_10 w) (Nat.le_of_ble_eq_true rfl) tw_42 d_X9_minutes_17 rfl (wr_10_0 w) ?_
      refine aw_iload_n (i := 1) rfl d_X9_minutes_20 1 rfl ?_
      refine aw_bipush (v := 16) d_X9_minutes_21 ib_16 ?_
      refine aw_imul d_X9_minutes_23 ?_
      refine aw_iload_n (i := 2) rfl d_X9_minutes_24 2 rfl ?_
      refine aw_iadd d_X9_minutes_25 ?_
      obtain ⟨b7, k⟩ := k
      refine aw_iald (ws_30 w) b7 d_X9_minutes_26 ?_
      refine aw_istore_n (i := 3) rfl [(0, .ref 10), (1, .int x1), (2, .int x2), (3, .int (h_i h 30 (((x1 * 16) + x2) : Int32).toNatClampNeg))] d_X9_minutes_27 (Nat.le_of_ble_eq_true rfl) rfl rfl ?_
      refine aw_iload_n (i := 3) rfl d_X9_minutes_28 3 rfl ?_
      refine aw_ldc (v := 1000000) d_X9_minutes_29 tw_41 ?_
      refine aw_icmp_lt (tgt := 38) d_X9_minutes_31 rfl (fun c8 => ?_) (fun c8 => ?_)
      · have k := k.1 c8
        refine aw_iload_n (i := 3) rfl d_X9_minutes_38 3 rfl ?_
        exact aw_iret rfl d_X9_minutes_39 ⟨Nat.le_refl _, Nat.le_refl _⟩ ⟨_, rfl, k⟩
      · have k := k.2 c8
        refine aw_iconst (v := (-1)) d_X9_minutes_34 ic_m1 ?_
        refine aw_goto (tgt := 39) d_X9_minutes_35 rfl ?_
        exact aw_iret rfl d_X9_minutes_39 ⟨Nat.le_refl _, Nat.le_refl _⟩ ⟨_, rfl, k⟩
    · have k := k.2 c6
      refine aw_iconst (v := (-1)) d_X9_minutes_14 ic_m1 ?_
      exact aw_iret rfl d_X9_minutes_15 ⟨Nat.le_refl _, Nat.le_refl _⟩ ⟨_, rfl, k⟩
theorem t_X9_lay (d : Nat) (h : Hp_) (w : Wf h) (x1 : Int32) (x2 : Int32) (x3 : Int32) (K : Int32 → Hp_ → Prop) (k : ((h_i h 10 1) < 40 → AW (m_X9_lay (d + 1) 0 0) 0 0 14 [(0, .ref 10), (1, .int x1), (2, .int x2), (3, .int x3), (4, .int 0)] [] h (kI K)) ∧ (¬ (h_i h 10 1) < 40 → K (-1) h)) : Ci (m_X9_lay (d + 1) 0 0) [.ref 10, .int x1, .int x2, .int x3] h K := by
  refine Ct.of (fun _ _ _ => trivial) rfl (Nat.le_of_ble_eq_true rfl) ?_
  show AW (m_X9_lay (d + 1) 0 0) 0 0 0 [(0, .ref 10), (1, .int x1), (2, .int x2), (3, .int x3)] [] h (kI K)
  refine aw_aload_n (i := 0) rfl d_X9_lay_0 0 rfl ?_
  refine aw_geti (k0 := 1) kc_9 (ws_10 w) (Nat.le_of_ble_eq_true rfl) tw_43 d_X9_lay_1 rfl ?_
  refine aw_bipush (v := 40) d_X9_lay_4 ib_40 ?_
  refine aw_icmp_lt (tgt := 11) d_X9_lay_6 rfl (fun c1 => ?_) (fun c1 => ?_)
  · have k := k.1 c1
    refine aw_iconst (v := 0) d_X9_lay_11 ic_0 ?_
    refine aw_istore [(0, .ref 10), (1, .int x1), (2, .int x2), (3, .int x3), (4, .int 0)] d_X9_lay_12 (Nat.le_of_ble_eq_true rfl) rfl rfl ?_
    exact k
  · have k := k.2 c1
    refine aw_iconst (v := (-1)) d_X9_lay_9 ic_m1 ?_
    exact aw_iret rfl d_X9_lay_10 ⟨Nat.le_refl _, Nat.le_refl _⟩ ⟨_, rfl, k⟩
theorem t_X9_lay_14 (d : Nat) (h : Hp_) (w : Wf h) (x1 : Int32) (x2 : Int32) (x3 : Int32) (x4 : Int32) (K : Int32 → Hp_ → Prop) (k : (16 ≤ x4 → K (((h_i h 10 1) + 1) - 1) (h_im h 10 1 ((h_i h 10 1) + 1))) ∧ (¬ 16 ≤ x4 → AW (m_X9_lay (d + 1) 0 0) 0 0 24 [(0, .ref 10), (1, .int x1), (2, .int x2), (3, .int x3), (4, .int x4), (5, .int 0)] [] h (kI K))) : AW (m_X9_lay (d + 1) 0 0) 0 0 14 [(0, .ref 10), (1, .int x1), (2, .int x2), (3, .int x3), (4, .int x4)] [] h (kI K) := by
  refine aw_iload d_X9_lay_14 4 rfl ?_
  refine aw_bipush (v := 16) d_X9_lay_16 ib_16 ?_
  refine aw_icmp_ge (tgt := 135) d_X9_lay_18 rfl (fun c2 => ?_) (fun c2 => ?_)
  · have k := k.1 c2
    refine aw_aload_n (i := 0) rfl d_X9_lay_135 0 rfl ?_
    refine aw_dup d_X9_lay_136 rfl ?_
    refine aw_geti (k0 := 1) kc_9 (ws_10 w) (Nat.le_of_ble_eq_true rfl) tw_43 d_X9_lay_137 rfl ?_
    refine aw_iconst (v := 1) d_X9_lay_140 ic_1 ?_
    refine aw_iadd d_X9_lay_141 ?_
    refine aw_puti (k0 := 1) kc_9 (ws_10 w) (Nat.le_of_ble_eq_true rfl) tw_43 d_X9_lay_142 rfl rfl nf_i ?_
    refine aw_aload_n (i := 0) rfl d_X9_lay_145 0 rfl ?_
    refine aw_geti (k0 := 1) kc_9 (ws_10 w) (Nat.le_of_ble_eq_true rfl) tw_43 d_X9_lay_146 rfl ?_
    refine aw_vi (v2 := ((h_i h 10 1) + 1)) (rfl) ?_
    refine aw_iconst (v := 1) d_X9_lay_149 ic_1 ?_
    refine aw_isub d_X9_lay_150 ?_
    exact aw_iret rfl d_X9_lay_151 ⟨Nat.le_refl _, Nat.le_refl _⟩ ⟨_, rfl, k⟩
  · have k := k.2 c2
    refine aw_iconst (v := 0) d_X9_lay_21 ic_0 ?_
    refine aw_istore [(0, .ref 10), (1, .int x1), (2, .int x2), (3, .int x3), (4, .int x4), (5, .int 0)] d_X9_lay_22 (Nat.le_of_ble_eq_true rfl) rfl rfl ?_
    exact k
theorem t_X9_lay_24 (d : Nat) (h : Hp_) (w : Wf h) (x1 : Int32) (x2 : Int32) (x3 : Int32) (x4 : Int32) (x5 : Int32) (K : Int32 → Hp_ → Prop) (k : (16 ≤ x5 → AW (m_X9_lay (d + 1) 0 0) 0 0 14 [(0, .ref 10), (1, .int x1), (2, .int x2), (3, .int x3), (4, .int (x4 + 1))] [] h (kI K)) ∧ (¬ 16 ≤ x5 → vp_in ((x4 * 16) + x1) 256 ∧ (vp_in ((x2 * 16) + x5) 256 ∧ (vp_in ((x4 * 16) + x2) 256 ∧ (vp_in ((x1 * 16) + x5) 256 ∧ (vp_in ((x4 * 16) + x5) 256 ∧ (Ci (m_J9_min_7cf53 (d + 0) 0 0) [.int (((h_i h 30 (((x4 * 16) + x1) : Int32).toNatClampNeg) + x3) + (h_i h 30 (((x2 * 16) + x5) : Int32).toNatClampNeg)), .int (((h_i h 30 (((x4 * 16) + x2) : Int32).toNatClampNeg) + x3) + (h_i h 30 (((x1 * 16) + x5) : Int32).toNatClampNeg))] h (fun r11 h9 => Wf h9 ∧ (Ci (m_J9_min_7cf53 (d + 0) 0 0) [.int (h_i h 30 (((x4 * 16) + x5) : Int32).toNatClampNeg), .int r11] h9 (fun r14 h12 => Wf h12 ∧ (vp_in ((x4 * 16) + x5) 256 ∧ (AW (m_X9_lay (d + 1) 0 0) 0 0 24 [(0, .ref 10), (1, .int x1), (2, .int x2), (3, .int x3), (4, .int x4), (5, .int (x5 + 1))] [] (h_im h12 30 (((x4 * 16) + x5) : Int32).toNatClampNeg r14) (kI K))))))))))))) : AW (m_X9_lay (d + 1) 0 0) 0 0 24 [(0, .ref 10), (1, .int x1), (2, .int x2), (3, .int x3), (4, .int x4), (5, .int x5)] [] h (kI K) := by
  refine aw_iload d_X9_lay_24 5 rfl ?_
  refine aw_bipush (v := 16) d_X9_lay_26 ib_16 ?_
  refine aw_icmp_ge (tgt := 129) d_X9_lay_28 rfl (fun c3 => ?_) (fun c3 => ?_)
  · have k := k.1 c3
    refine aw_iinc (v := (x4 + 1)) [(0, .ref 10), (1, .int x1), (2, .int x2), (3, .int x3), (4, .int (x4 + 1)), (5, .int x5)] d_X9_lay_129 4 rfl rfl (Nat.le_of_ble_eq_true rfl) rfl rfl ?_
    refine aw_goto (tgt := 14) d_X9_lay_132 rfl ?_
    exact aw_lvp [0, 1, 2, 3, 4] [(0, .ref 10), (1, .int x1), (2, .int x2), (3, .int x3), (4, .int (x4 + 1))] rfl k
  · have k := k.2 c3
    refine aw_aload_n (i := 0) rfl d_X9_lay_31 0 rfl ?_
    refine aw_getr (k0 := 0) kc_9 (ws_10 w) (Nat.le_of_ble_eq_true rfl) tw_42 d_X9_lay_32 rfl (wr_10_0 w) ?_
    refine aw_iload d_X9_lay_35 4 rfl ?_
    refine aw_bipush (v := 16) d_X9_lay_37 ib_16 ?_
    refine aw_imul d_X9_lay_39 ?_
    refine aw_iload_n (i := 1) rfl d_X9_lay_40 1 rfl ?_
    refine aw_iadd d_X9_lay_41 ?_
    obtain ⟨b4, k⟩ := k
    refine aw_iald (ws_30 w) b4 d_X9_lay_42 ?_
    refine aw_iload_n (i := 3) rfl d_X9_lay_43 3 rfl ?_
    refine aw_iadd d_X9_lay_44 ?_
    refine aw_aload_n (i := 0) rfl d_X9_lay_45 0 rfl ?_
    refine aw_getr (k0 := 0) kc_9 (ws_10 w) (Nat.le_of_ble_eq_true rfl) tw_42 d_X9_lay_46 rfl (wr_10_0 w) ?_
    refine aw_iload_n (i := 2) rfl d_X9_lay_49 2 rfl ?_
    refine aw_bipush (v := 16) d_X9_lay_50 ib_16 ?_
    refine aw_imul d_X9_lay_52 ?_
    refine aw_iload d_X9_lay_53 5 rfl ?_
    refine aw_iadd d_X9_lay_55 ?_
    obtain ⟨b5, k⟩ := k
    refine aw_iald (ws_30 w) b5 d_X9_lay_56 ?_
    refine aw_iadd d_X9_lay_57 ?_
    refine aw_istore [(0, .ref 10), (1, .int x1), (2, .int x2), (3, .int x3), (4, .int x4), (5, .int x5), (6, .int (((h_i h 30 (((x4 * 16) + x1) : Int32).toNatClampNeg) + x3) + (h_i h 30 (((x2 * 16) + x5) : Int32).toNatClampNeg)))] d_X9_lay_58 (Nat.le_of_ble_eq_true rfl) rfl rfl ?_
    refine aw_aload_n (i := 0) rfl d_X9_lay_60 0 rfl ?_
    refine aw_getr (k0 := 0) kc_9 (ws_10 w) (Nat.le_of_ble_eq_true rfl) tw_42 d_X9_lay_61 rfl (wr_10_0 w) ?_
    refine aw_iload d_X9_lay_64 4 rfl ?_
    refine aw_bipush (v := 16) d_X9_lay_66 ib_16 ?_
    refine aw_imul d_X9_lay_68 ?_
    refine aw_iload_n (i := 2) rfl d_X9_lay_69 2 rfl ?_
    refine aw_iadd d_X9_lay_70 ?_
    obtain ⟨b6, k⟩ := k
    refine aw_iald (ws_30 w) b6 d_X9_lay_71 ?_
    refine aw_iload_n (i := 3) rfl d_X9_lay_72 3 rfl ?_
    refine aw_iadd d_X9_lay_73 ?_
    refine aw_aload_n (i := 0) rfl d_X9_lay_74 0 rfl ?_
    refine aw_getr (k0 := 0) kc_9 (ws_10 w) (Nat.le_of_ble_eq_true rfl) tw_42 d_X9_lay_75 rfl (wr_10_0 w) ?_
    refine aw_iload_n (i := 1) rfl d_X9_lay_78 1 rfl ?_
    refine aw_bipush (v := 16) d_X9_lay_79 ib_16 ?_
    refine aw_imul d_X9_lay_81 ?_
    refine aw_iload d_X9_lay_82 5 rfl ?_
    refine aw_iadd d_X9_lay_84 ?_
    obtain ⟨b7, k⟩ := k
    refine aw_iald (ws_30 w) b7 d_X9_lay_85 ?_
    refine aw_iadd d_X9_lay_86 ?_
    refine aw_istore [(0, .ref 10), (1, .int x1), (2, .int x2), (3, .int x3), (4, .int x4), (5, .int x5), (6, .int (((h_i h 30 (((x4 * 16) + x1) : Int32).toNatClampNeg) + x3) + (h_i h 30 (((x2 * 16) + x5) : Int32).toNatClampNeg))), (7, .int (((h_i h 30 (((x4 * 16) + x2) : Int32).toNatClampNeg) + x3) + (h_i h 30 (((x1 * 16) + x5) : Int32).toNatClampNeg)))] d_X9_lay_87 (Nat.le_of_ble_eq_true rfl) rfl rfl ?_
    refine aw_iload d_X9_lay_89 4 rfl ?_
    refine aw_bipush (v := 16) d_X9_lay_91 ib_16 ?_
    refine aw_imul d_X9_lay_93 ?_
    refine aw_iload d_X9_lay_94 5 rfl ?_
    refine aw_iadd d_X9_lay_96 ?_
    refine aw_istore [(0, .ref 10), (1, .int x1), (2, .int x2), (3, .int x3), (4, .int x4), (5, .int x5), (6, .int (((h_i h 30 (((x4 * 16) + x1) : Int32).toNatClampNeg) + x3) + (h_i h 30 (((x2 * 16) + x5) : Int32).toNatClampNeg))), (7, .int (((h_i h 30 (((x4 * 16) + x2) : Int32).toNatClampNeg) + x3) + (h_i h 30 (((x1 * 16) + x5) : Int32).toNatClampNeg))), (8, .int ((x4 * 16) + x5))] d_X9_lay_97 (Nat.le_of_ble_eq_true rfl) rfl rfl ?_
    refine aw_aload_n (i := 0) rfl d_X9_lay_99 0 rfl ?_
    refine aw_getr (k0 := 0) kc_9 (ws_10 w) (Nat.le_of_ble_eq_true rfl) tw_42 d_X9_lay_100 rfl (wr_10_0 w) ?_
    refine aw_iload d_X9_lay_103 8 rfl ?_
    refine aw_aload_n (i := 0) rfl d_X9_lay_105 0 rfl ?_
    refine aw_getr (k0 := 0) kc_9 (ws_10 w) (Nat.le_of_ble_eq_true rfl) tw_42 d_X9_lay_106 rfl (wr_10_0 w) ?_
    refine aw_iload d_X9_lay_109 8 rfl ?_
    obtain ⟨b8, k⟩ := k
    refine aw_iald (ws_30 w) b8 d_X9_lay_111 ?_
    refine aw_iload d_X9_lay_112 6 rfl ?_
    refine aw_iload d_X9_lay_114 7 rfl ?_
    refine aw_Si [.int (((h_i h 30 (((x4 * 16) + x1) : Int32).toNatClampNeg) + x3) + (h_i h 30 (((x2 * 16) + x5) : Int32).toNatClampNeg)), .int (((h_i h 30 (((x4 * 16) + x2) : Int32).toNatClampNeg) + x3) + (h_i h 30 (((x1 * 16) + x5) : Int32).toNatClampNeg))] [.int (h_i h 30 (((x4 * 16) + x5) : Int32).toNatClampNeg), .int ((x4 * 16) + x5), .ref 30] d_X9_lay_116 (cS_J9_min_7cf53 (d + 0) 0 0) tw_550 rfl (rr0 (Nat.le_of_ble_eq_true rfl) (Nat.le_of_ble_eq_true rfl)) (Nat.le_of_ble_eq_true rfl) xs0 k (fun r11 h9 kk => ?_)
    obtain ⟨w10, k⟩ := kk
    refine aw_Si [.int (h_i h 30 (((x4 * 16) + x5) : Int32).toNatClampNeg), .int r11] [.int ((x4 * 16) + x5), .ref 30] d_X9_lay_119 (cS_J9_min_7cf53 (d + 0) 0 0) tw_550 rfl (rr0 (Nat.le_of_ble_eq_true rfl) (Nat.le_of_ble_eq_true rfl)) (Nat.le_of_ble_eq_true rfl) xs0 k (fun r14 h12 kk => ?_)
    obtain ⟨w13, k⟩ := kk
    obtain ⟨b15, k⟩ := k
    refine aw_iast (ws_30 w13) b15 d_X9_lay_122 ?_
    refine aw_iinc (v := (x5 + 1)) [(0, .ref 10), (1, .int x1), (2, .int x2), (3, .int x3), (4, .int x4), (5, .int (x5 + 1)), (6, .int (((h_i h 30 (((x4 * 16) + x1) : Int32).toNatClampNeg) + x3) + (h_i h 30 (((x2 * 16) + x5) : Int32).toNatClampNeg))), (7, .int (((h_i h 30 (((x4 * 16) + x2) : Int32).toNatClampNeg) + x3) + (h_i h 30 (((x1 * 16) + x5) : Int32).toNatClampNeg))), (8, .int ((x4 * 16) + x5))] d_X9_lay_123 5 rfl rfl (Nat.le_of_ble_eq_true rfl) rfl rfl ?_
    refine aw_goto (tgt := 24) d_X9_lay_126 rfl ?_
    exact aw_lvp [0, 1, 2, 3, 4, 5] [(0, .ref 10), (1, .int x1), (2, .int x2), (3, .int x3), (4, .int x4), (5, .int (x5 + 1))] rfl k
theorem t_X10_valueOf_13 (d : Nat) (h : Hp_) (w : Wf h) (x1 : Int32) (K : Int32 → Hp_ → Prop) (k : (¬ (0 ≤ x1 ∧ x1 ≤ ((2700 : Int32) - 1)) → K 0 h) ∧ ((0 ≤ x1 ∧ x1 ≤ ((2700 : Int32) - 1)) → vp_in x1 2700 ∧ (K (h_i h 70 x1.toNatClampNeg) h))) : Ci (m_X10_valueOf (d + 1) 0 0) [.ref 70, .int x1] h K := by
  refine Ct.of (fun _ _ _ => trivial) rfl (Nat.le_of_ble_eq_true rfl) ?_
  show AW (m_X10_valueOf (d + 1) 0 0) 0 0 0 [(0, .ref 70), (1, .int x1)] [] h (kI K)
  refine aw_iload_n (i := 1) rfl d_X10_valueOf_0 1 rfl ?_
  refine aw_iconst (v := 0) d_X10_valueOf_1 ic_0 ?_
  refine aw_aload_n (i := 0) rfl d_X10_valueOf_2 0 rfl ?_
  refine aw_alen (v := 2700) (ws_70 w) (Nat.le_of_ble_eq_true rfl) rfl d_X10_valueOf_3 ?_
  refine aw_iconst (v := 1) d_X10_valueOf_4 ic_1 ?_
  refine aw_isub d_X10_valueOf_5 ?_
  refine aw_SNi [.int x1, .int 0, .int ((2700 : Int32) - 1)] [] d_X10_valueOf_6 (cS_X11_within (d + 0) 0 0) (List.mem_of_getElem? (i := 11) rfl) rfl (rr0 (Nat.le_of_ble_eq_true rfl) (Nat.le_of_ble_eq_true rfl)) (Nat.le_of_ble_eq_true rfl) xs0 (s_X11_within _ _ x1 0 ((2700 : Int32) - 1)) (fun _ _ kk => ?_)
  obtain ⟨e1, e2⟩ := kk
  rw [e1, e2]
  refine aw_ifb_eq (tgt := 18) d_X10_valueOf_9 rfl (fun c3 => ?_) (fun c3 => ?_)
  · have k := k.1 c3
    refine aw_iconst (v := 0) d_X10_valueOf_18 ic_0 ?_
    exact aw_iret rfl d_X10_valueOf_19 ⟨Nat.le_refl _, Nat.le_refl _⟩ ⟨_, rfl, k⟩
  · have k := k.2 c3
    refine aw_aload_n (i := 0) rfl d_X10_valueOf_12 0 rfl ?_
    refine aw_iload_n (i := 1) rfl d_X10_valueOf_13 1 rfl ?_
    obtain ⟨b4, k⟩ := k
    refine aw_iald (ws_70 w) b4 d_X10_valueOf_14 ?_
    refine aw_goto (tgt := 19) d_X10_valueOf_15 rfl ?_
    exact aw_iret rfl d_X10_valueOf_19 ⟨Nat.le_refl _, Nat.le_refl _⟩ ⟨_, rfl, k⟩
theorem t_X10_valueOf_14 (d : Nat) (h : Hp_) (w : Wf h) (x1 : Int32) (K : Int32 → Hp_ → Prop) (k : (¬ (0 ≤ x1 ∧ x1 ≤ ((6 : Int32) - 1)) → K 0 h) ∧ ((0 ≤ x1 ∧ x1 ≤ ((6 : Int32) - 1)) → vp_in x1 6 ∧ (K (h_i h 108 x1.toNatClampNeg) h))) : Ci (m_X10_valueOf (d + 1) 0 0) [.ref 108, .int x1] h K := by
  refine Ct.of (fun _ _ _ => trivial) rfl (Nat.le_of_ble_eq_true rfl) ?_
  show AW (m_X10_valueOf (d + 1) 0 0) 0 0 0 [(0, .ref 108), (1, .int x1)] [] h (kI K)
  refine aw_iload_n (i := 1) rfl d_X10_valueOf_0 1 rfl ?_
  refine aw_iconst (v := 0) d_X10_valueOf_1 ic_0 ?_
  refine aw_aload_n (i := 0) rfl d_X10_valueOf_2 0 rfl ?_
  refine aw_alen (v := 6) (ws_108 w) (Nat.le_of_ble_eq_true rfl) rfl d_X10_valueOf_3 ?_
  refine aw_iconst (v := 1) d_X10_valueOf_4 ic_1 ?_
  refine aw_isub d_X10_valueOf_5 ?_
  refine aw_SNi [.int x1, .int 0, .int ((6 : Int32) - 1)] [] d_X10_valueOf_6 (cS_X11_within (d + 0) 0 0) (List.mem_of_getElem? (i := 11) rfl) rfl (rr0 (Nat.le_of_ble_eq_true rfl) (Nat.le_of_ble_eq_true rfl)) (Nat.le_of_ble_eq_true rfl) xs0 (s_X11_within _ _ x1 0 ((6 : Int32) - 1)) (fun _ _ kk => ?_)
  obtain ⟨e1, e2⟩ := kk
  rw [e1, e2]
  refine aw_ifb_eq (tgt := 18) d_X10_valueOf_9 rfl (fun c3 => ?_) (fun c3 => ?_)
  · have k := k.1 c3
    refine aw_iconst (v := 0) d_X10_valueOf_18 ic_0 ?_
    exact aw_iret rfl d_X10_valueOf_19 ⟨Nat.le_refl _, Nat.le_refl _⟩ ⟨_, rfl, k⟩
  · have k := k.2 c3
    refine aw_aload_n (i := 0) rfl d_X10_valueOf_12 0 rfl ?_
    refine aw_iload_n (i := 1) rfl d_X10_valueOf_13 1 rfl ?_
    obtain ⟨b4, k⟩ := k
    refine aw_iald (ws_108 w) b4 d_X10_valueOf_14 ?_
    refine aw_goto (tgt := 19) d_X10_valueOf_15 rfl ?_
    exact aw_iret rfl d_X10_valueOf_19 ⟨Nat.le_refl _, Nat.le_refl _⟩ ⟨_, rfl, k⟩
theorem t_X10_combine (d : Nat) (h : Hp_) (x0 : Int32) (x1 : Int32) (x2 : Int32) (K : Int32 → Hp_ → Prop) (k : (x0 = 5 → Ci (m_X10_bounded (d + 0) 0 0) [.long (((x1 : Int32).toInt64) + ((x2 : Int32).toInt64))] h (fun r4 h2 => Wf h2 ∧ (K r4 h2))) ∧ ((x0 = 6 → Ci (m_X10_bounded (d + 0) 0 0) [.long (((x1 : Int32).toInt64) - ((x2 : Int32).toInt64))] h (fun r8 h6 => Wf h6 ∧ (K r8 h6))) ∧ ((x0 = 7 → Ci (m_X10_bounded (d + 0) 0 0) [.long (((x1 : Int32).toInt64) * ((x2 : Int32).toInt64))] h (fun r12 h10 => Wf h10 ∧ (K r12 h10))) ∧ ((x0 = 8 → (¬ x1 = x2 → K 0 h) ∧ (x1 = x2 → K 1 h)) ∧ ((x0 = 9 → (x2 ≤ x1 → K 0 h) ∧ (¬ x2 ≤ x1 → K 1 h)) ∧ ((x0 = 10 → (x1 ≤ x2 → K 0 h) ∧ (¬ x1 ≤ x2 → K 1 h)) ∧ ((x0 = 11 → K (x1 &&& x2) h) ∧ ((¬ x0 = 5 ∧ ¬ x0 = 6 ∧ ¬ x0 = 7 ∧ ¬ x0 = 8 ∧ ¬ x0 = 9 ∧ ¬ x0 = 10 ∧ ¬ x0 = 11 → K (x1 ||| x2) h))))))))) : Ci (m_X10_combine (d + 1) 0 0) [.int x0, .int x1, .int x2] h K := by
  refine Ct.of (fun _ _ _ => trivial) rfl (Nat.le_of_ble_eq_true rfl) ?_
  show AW (m_X10_combine (d + 1) 0 0) 0 0 0 [(0, .int x0), (1, .int x1), (2, .int x2)] [] h (kI K)
  refine aw_iload_n (i := 0) rfl d_X10_combine_0 0 rfl ?_
  by_cases e1 : x0 = 5
  · refine aw_tableIn (off := 43) (tgt := 44) d_X10_combine_1 (by rw [e1]; decide) (by rw [e1]; decide) (by rw [e1]; decide) rfl ?_
    have k := k.1 e1
    refine aw_iload_n (i := 1) rfl d_X10_combine_44 1 rfl ?_
    refine aw_i2l d_X10_combine_45 ?_
    refine aw_iload_n (i := 2) rfl d_X10_combine_46 2 rfl ?_
    refine aw_i2l d_X10_combine_47 ?_
    refine aw_ladd d_X10_combine_48 ?_
    refine aw_Si [.long (((x1 : Int32).toInt64) + ((x2 : Int32).toInt64))] [] d_X10_combine_49 (cS_X10_bounded (d + 0) 0 0) tw_1074 rfl (rr0 (Nat.le_of_ble_eq_true rfl) (Nat.le_of_ble_eq_true rfl)) (Nat.le_of_ble_eq_true rfl) xs0 k (fun r4 h2 kk => ?_)
    obtain ⟨w3, k⟩ := kk
    exact aw_iret rfl d_X10_combine_52 ⟨Nat.le_refl _, Nat.le_refl _⟩ ⟨_, rfl, k⟩
  · have k := k.2
    by_cases e5 : x0 = 6
    · refine aw_tableIn (off := 52) (tgt := 53) d_X10_combine_1 (by rw [e5]; decide) (by rw [e5]; decide) (by rw [e5]; decide) rfl ?_
      have k := k.1 e5
      refine aw_iload_n (i := 1) rfl d_X10_combine_53 1 rfl ?_
      refine aw_i2l d_X10_combine_54 ?_
      refine aw_iload_n (i := 2) rfl d_X10_combine_55 2 rfl ?_
      refine aw_i2l d_X10_combine_56 ?_
      refine aw_lsub d_X10_combine_57 ?_
      refine aw_Si [.long (((x1 : Int32).toInt64) - ((x2 : Int32).toInt64))] [] d_X10_combine_58 (cS_X10_bounded (d + 0) 0 0) tw_1074 rfl (rr0 (Nat.le_of_ble_eq_true rfl) (Nat.le_of_ble_eq_true rfl)) (Nat.le_of_ble_eq_true rfl) xs0 k (fun r8 h6 kk => ?_)
      obtain ⟨w7, k⟩ := kk
      exact aw_iret rfl d_X10_combine_61 ⟨Nat.le_refl _, Nat.le_refl _⟩ ⟨_, rfl, k⟩
    · have k := k.2
      by_cases e9 : x0 = 7
      · refine aw_tableIn (off := 61) (tgt := 62) d_X10_combine_1 (by rw [e9]; decide) (by rw [e9]; decide) (by rw [e9]; decide) rfl ?_
        have k := k.1 e9
        refine aw_iload_n (i := 1) rfl d_X10_combine_62 1 rfl ?_
        refine aw_i2l d_X10_combine_63 ?_
        refine aw_iload_n (i := 2) rfl d_X10_combine_64 2 rfl ?_
        refine aw_i2l d_X10_combine_65 ?_
        refine aw_lmul d_X10_combine_66 ?_
        refine aw_Si [.long (((x1 : Int32).toInt64) * ((x2 : Int32).toInt64))] [] d_X10_combine_67 (cS_X10_bounded (d + 0) 0 0) tw_1074 rfl (rr0 (Nat.le_of_ble_eq_true rfl) (Nat.le_of_ble_eq_true rfl)) (Nat.le_of_ble_eq_true rfl) xs0 k (fun r12 h10 kk => ?_)
        obtain ⟨w11, k⟩ := kk
        exact aw_iret rfl d_X10_combine_70 ⟨Nat.le_refl _, Nat.le_refl _⟩ ⟨_, rfl, k⟩
      · have k := k.2
        by_cases e13 : x0 = 8
        · refine aw_tableIn (off := 70) (tgt := 71) d_X10_combine_1 (by rw [e13]; decide) (by rw [e13]; decide) (by rw [e13]; decide) rfl ?_
          have k := k.1 e13
          refine aw_iload_n (i := 1) rfl d_X10_combine_71 1 rfl ?_
          refine aw_iload_n (i := 2) rfl d_X10_combine_72 2 rfl ?_
          refine aw_icmp_ne (tgt := 80) d_X10_combine_73 rfl (fun c14 => ?_) (fun c14 => ?_)
          · have k := k.1 c14
            refine aw_iconst (v := 0) d_X10_combine_80 ic_0 ?_
            exact aw_iret rfl d_X10_combine_81 ⟨Nat.le_refl _, Nat.le_refl _⟩ ⟨_, rfl, k⟩
          · have k := k.2 c14
            refine aw_iconst (v := 1) d_X10_combine_76 ic_1 ?_
            refine aw_goto (tgt := 81) d_X10_combine_77 rfl ?_
            exact aw_iret rfl d_X10_combine_81 ⟨Nat.le_refl _, Nat.le_refl _⟩ ⟨_, rfl, k⟩
        · have k := k.2
          by_cases e15 : x0 = 9
          · refine aw_tableIn (off := 81) (tgt := 82) d_X10_combine_1 (by rw [e15]; decide) (by rw [e15]; decide) (by rw [e15]; decide) rfl ?_
            have k := k.1 e15
            refine aw_iload_n (i := 1) rfl d_X10_combine_82 1 rfl ?_
            refine aw_iload_n (i := 2) rfl d_X10_combine_83 2 rfl ?_
            refine aw_icmp_ge (tgt := 91) d_X10_combine_84 rfl (fun c16 => ?_) (fun c16 => ?_)
            · have k := k.1 c16
              refine aw_iconst (v := 0) d_X10_combine_91 ic_0 ?_
              exact aw_iret rfl d_X10_combine_92 ⟨Nat.le_refl _, Nat.le_refl _⟩ ⟨_, rfl, k⟩
            · have k := k.2 c16
              refine aw_iconst (v := 1) d_X10_combine_87 ic_1 ?_
              refine aw_goto (tgt := 92) d_X10_combine_88 rfl ?_
              exact aw_iret rfl d_X10_combine_92 ⟨Nat.le_refl _, Nat.le_refl _⟩ ⟨_, rfl, k⟩
          · have k := k.2
            by_cases e17 : x0 = 10
            · refine aw_tableIn (off := 92) (tgt := 93) d_X10_combine_1 (by rw [e17]; decide) (by rw [e17]; decide) (by rw [e17]; decide) rfl ?_
              have k := k.1 e17
              refine aw_iload_n (i := 1) rfl d_X10_combine_93 1 rfl ?_
              refine aw_iload_n (i := 2) rfl d_X10_combine_94 2 rfl ?_
              refine aw_icmp_le (tgt := 102) d_X10_combine_95 rfl (fun c18 => ?_) (fun c18 => ?_)
              · have k := k.1 c18
                refine aw_iconst (v := 0) d_X10_combine_102 ic_0 ?_
                exact aw_iret rfl d_X10_combine_103 ⟨Nat.le_refl _, Nat.le_refl _⟩ ⟨_, rfl, k⟩
              · have k := k.2 c18
                refine aw_iconst (v := 1) d_X10_combine_98 ic_1 ?_
                refine aw_goto (tgt := 103) d_X10_combine_99 rfl ?_
                exact aw_iret rfl d_X10_combine_103 ⟨Nat.le_refl _, Nat.le_refl _⟩ ⟨_, rfl, k⟩
            · have k := k.2
              by_cases e19 : x0 = 11
              · refine aw_tableIn (off := 103) (tgt := 104) d_X10_combine_1 (by rw [e19]; decide) (by rw [e19]; decide) (by rw [e19]; decide) rfl ?_
                have k := k.1 e19
                refine aw_iload_n (i := 1) rfl d_X10_combine_104 1 rfl ?_
                refine aw_iload_n (i := 2) rfl d_X10_combine_105 2 rfl ?_
                refine aw_iand d_X10_combine_106 ?_
                exact aw_iret rfl d_X10_combine_107 ⟨Nat.le_refl _, Nat.le_refl _⟩ ⟨_, rfl, k⟩
              · have k := k.2
                have k := k ⟨e1, e5, e9, e13, e15, e17, e19⟩
                have n20 := sw_ne (5) (by decide) e1
                have n21 := sw_ne (6) (by decide) e5
                have n22 := sw_ne (7) (by decide) e9
                have n23 := sw_ne (8) (by decide) e13
                have n24 := sw_ne (9) (by decide) e15
                have n25 := sw_ne (10) (by decide) e17
                have n26 := sw_ne (11) (by decide) e19
                refine aw_tableOut (tgt := 108) d_X10_combine_1 (by omega) rfl ?_
                refine aw_iload_n (i := 1) rfl d_X10_combine_108 1 rfl ?_
                refine aw_iload_n (i := 2) rfl d_X10_combine_109 2 rfl ?_
                refine aw_ior d_X10_combine_110 ?_
                exact aw_iret rfl d_X10_combine_111 ⟨Nat.le_refl _, Nat.le_refl _⟩ ⟨_, rfl, k⟩
theorem t_X11_isKnown (d : Nat) (h : Hp_) (w : Wf h) (x1 : Int32) (K : Int32 → Hp_ → Prop) (k : K (bI (0 ≤ x1 ∧ x1 ≤ (h_i h 0 0))) h) : Ci (m_X11_isKnown (d + 1) 0 0) [.ref 0, .int x1] h K := by
  refine Ct.of (fun _ _ _ => trivial) rfl (Nat.le_of_ble_eq_true rfl) ?_
  show AW (m_X11_isKnown (d + 1) 0 0) 0 0 0 [(0, .ref 0), (1, .int x1)] [] h (kI K)
  refine aw_iload_n (i := 1) rfl d_X11_isKnown_0 1 rfl ?_
  refine aw_iconst (v := 0) d_X11_isKnown_1 ic_0 ?_
  refine aw_aload_n (i := 0) rfl d_X11_isKnown_2 0 rfl ?_
  refine aw_geti (k0 := 0) kc_11 (ws_0 w) (Nat.le_of_ble_eq_true rfl) tw_487 d_X11_isKnown_3 rfl ?_
  refine aw_Si [.int x1, .int 0, .int (h_i h 0 0)] [] d_X11_isKnown_6 (cS_X11_within (d + 0) 0 0) tw_543 rfl (rr0 (Nat.le_of_ble_eq_true rfl) (Nat.le_of_ble_eq_true rfl)) (Nat.le_of_ble_eq_true rfl) xs0 (s_X11_within _ _ x1 0 (h_i h 0 0)) (fun _ _ kk => ?_)
  obtain ⟨e1, e2⟩ := kk
  rw [e1, e2]
  exact aw_zret rfl (bI_nar _) d_X11_isKnown_9 ⟨Nat.le_refl _, Nat.le_refl _⟩ ⟨_, rfl, k⟩
theorem t_X11_manOf (d : Nat) (h : Hp_) (w : Wf h) (x1 : Int32) (K : Option Nat → Hp_ → Prop) (k : (¬ (0 ≤ x1 ∧ x1 ≤ ((h_i h 0 7) - 1)) → K none h) ∧ ((0 ≤ x1 ∧ x1 ≤ ((h_i h 0 7) - 1)) → vp_in x1 12 ∧ ((h_r h 15 x1.toNatClampNeg = none → K none h) ∧ (∀ b5, h_r h 15 x1.toNatClampNeg = some b5 → h_sh h b5 = some (12, 17) ∧ 400 ≤ b5 ∧ (K (some b5) h))))) : Cr (m_X11_manOf (d + 1) 0 0) [.ref 0, .int x1] h K := by
  refine Ct.of (fun _ _ _ => trivial) rfl (Nat.le_of_ble_eq_true rfl) ?_
  show AW (m_X11_manOf (d + 1) 0 0) 0 0 0 [(0, .ref 0), (1, .int x1)] [] h (kR K)
  refine aw_iload_n (i := 1) rfl d_X11_manOf_0 1 rfl ?_
  refine aw_iconst (v := 0) d_X11_manOf_1 ic_0 ?_
  refine aw_aload_n (i := 0) rfl d_X11_manOf_2 0 rfl ?_
  refine aw_geti (k0 := 7) kc_11 (ws_0 w) (Nat.le_of_ble_eq_true rfl) tw_494 d_X11_manOf_3 rfl ?_
  refine aw_iconst (v := 1) d_X11_manOf_6 ic_1 ?_
  refine aw_isub d_X11_manOf_7 ?_
  refine aw_Si [.int x1, .int 0, .int ((h_i h 0 7) - 1)] [] d_X11_manOf_8 (cS_X11_within (d + 0) 0 0) tw_543 rfl (rr0 (Nat.le_of_ble_eq_true rfl) (Nat.le_of_ble_eq_true rfl)) (Nat.le_of_ble_eq_true rfl) xs0 (s_X11_within _ _ x1 0 ((h_i h 0 7) - 1)) (fun _ _ kk => ?_)
  obtain ⟨e1, e2⟩ := kk
  rw [e1, e2]
  refine aw_ifb_eq (tgt := 23) d_X11_manOf_11 rfl (fun c3 => ?_) (fun c3 => ?_)
  · have k := k.1 c3
    refine aw_null d_X11_manOf_23 ?_
    exact aw_aretN rfl (Or.inl ⟨_, rfl⟩) d_X11_manOf_24 ⟨Nat.le_refl _, Nat.le_refl _⟩ ⟨none, rfl, k⟩
  · have k := k.2 c3
    refine aw_aload_n (i := 0) rfl d_X11_manOf_14 0 rfl ?_
    refine aw_getr (k0 := 6) kc_11 (ws_0 w) (Nat.le_of_ble_eq_true rfl) tw_493 d_X11_manOf_15 rfl (wr_0_6 w) ?_
    refine aw_iload_n (i := 1) rfl d_X11_manOf_18 1 rfl ?_
    obtain ⟨b4, k⟩ := k
    rcases e8 : h_r h 15 x1.toNatClampNeg with _ | b5
    · refine aw_aaldn (ws_15 w) b4 e8 d_X11_manOf_19 ?_
      have k := k.1 e8
      refine aw_goto (tgt := 24) d_X11_manOf_20 rfl ?_
      exact aw_aretN rfl (Or.inl ⟨_, rfl⟩) d_X11_manOf_24 ⟨Nat.le_refl _, Nat.le_refl _⟩ ⟨none, rfl, k⟩
    · refine aw_aaldr (ws_15 w) b4 e8 d_X11_manOf_19 ?_
      obtain ⟨q6, l7, k⟩ := k.2 b5 e8
      refine aw_goto (tgt := 24) d_X11_manOf_20 rfl ?_
      exact aw_aret rfl (Or.inl ⟨_, rfl⟩) d_X11_manOf_24 ⟨Nat.le_refl _, Nat.le_refl _⟩ ⟨some b5, rfl, k⟩
theorem t_X11_settleRow (d : Nat) (h : Hp_) (w : Wf h) (x1 : Nat) (hs_x1 : h_sh h x1 = some (12, 17)) (lb_x1 : 400 ≤ x1) (x2 : Int32) (x3 : Int32) (K : Hp_ → Prop) (k : ((h_i h x1 12) ≤ (h_i h x1 11) → K h) ∧ (¬ (h_i h x1 12) ≤ (h_i h x1 11) → Cv (m_X7_settle (d + 0) 0 0) [.ref 16, .int (h_i h x1 11), .int x2, .int x3, .int (h_i h 0 0)] h (fun h2 => Wf h2 ∧ h_sh h2 x1 = some (12, 17) ∧ ((¬ x2 = 1 → K (h_im (h_im h2 x1 11 ((h_i h2 x1 11) + 1)) x1 16 ((h_i h2 x1 16) + 1))) ∧ (x2 = 1 → K (h_im (h_im h2 x1 11 ((h_i h2 x1 11) + 1)) x1 15 ((h_i h2 x1 15) + 1))))))) : Cv (m_X11_settleRow (d + 1) 0 0) [.ref 0, .ref x1, .int x2, .int x3] h K := by
  refine Ct.of (fun _ _ _ => trivial) rfl (Nat.le_of_ble_eq_true rfl) ?_
  show AW (m_X11_settleRow (d + 1) 0 0) 0 0 0 [(0, .ref 0), (1, .ref x1), (2, .int x2), (3, .int x3)] [] h (kV K)
  refine aw_aload_n (i := 1) rfl d_X11_settleRow_0 1 rfl ?_
  refine aw_geti (k0 := 11) kc_2 (hs_x1) (Nat.le_of_ble_eq_true rfl) tw_592 d_X11_settleRow_1 rfl ?_
  refine aw_aload_n (i := 1) rfl d_X11_settleRow_4 1 rfl ?_
  refine aw_geti (k0 := 12) kc_2 (hs_x1) (Nat.le_of_ble_eq_true rfl) tw_594 d_X11_settleRow_5 rfl ?_
  refine aw_icmp_ge (tgt := 66) d_X11_settleRow_8 rfl (fun c1 => ?_) (fun c1 => ?_)
  · have k := k.1 c1
    exact aw_vret rfl d_X11_settleRow_66 ⟨Nat.le_refl _, Nat.le_refl _⟩ ⟨rfl, k⟩
  · have k := k.2 c1
    refine aw_aload_n (i := 0) rfl d_X11_settleRow_11 0 rfl ?_
    refine aw_getr (k0 := 8) kc_11 (ws_0 w) (Nat.le_of_ble_eq_true rfl) tw_495 d_X11_settleRow_12 rfl (wr_0_8 w) ?_
    refine aw_aload_n (i := 1) rfl d_X11_settleRow_15 1 rfl ?_
    refine aw_geti (k0 := 11) kc_2 (hs_x1) (Nat.le_of_ble_eq_true rfl) tw_592 d_X11_settleRow_16 rfl ?_
    refine aw_iload_n (i := 2) rfl d_X11_settleRow_19 2 rfl ?_
    refine aw_iload_n (i := 3) rfl d_X11_settleRow_20 3 rfl ?_
    refine aw_aload_n (i := 0) rfl d_X11_settleRow_21 0 rfl ?_
    refine aw_geti (k0 := 0) kc_11 (ws_0 w) (Nat.le_of_ble_eq_true rfl) tw_487 d_X11_settleRow_22 rfl ?_
    refine aw_Vv 16 [.int (h_i h x1 11), .int x2, .int x3, .int (h_i h 0 0)] [] d_X11_settleRow_25 (cV_X7_settle (d + 0) 0 0) kc_7 (ws_16 w) tw_947 rfl (rr0 (Nat.le_of_ble_eq_true rfl) (Nat.le_of_ble_eq_true rfl)) (Nat.le_of_ble_eq_true rfl) xs0 k (fun h2 kk => ?_)
    obtain ⟨w3, q5, k⟩ := kk
    refine aw_aload_n (i := 1) rfl d_X11_settleRow_28 1 rfl ?_
    refine aw_dup d_X11_settleRow_29 rfl ?_
    refine aw_geti (k0 := 11) kc_2 (q5) (Nat.le_of_ble_eq_true rfl) tw_592 d_X11_settleRow_30 rfl ?_
    refine aw_iconst (v := 1) d_X11_settleRow_33 ic_1 ?_
    refine aw_iadd d_X11_settleRow_34 ?_
    refine aw_puti (k0 := 11) kc_2 (q5) (Nat.le_of_ble_eq_true rfl) tw_592 d_X11_settleRow_35 rfl rfl nf_i ?_
    refine aw_iload_n (i := 2) rfl d_X11_settleRow_38 2 rfl ?_
    refine aw_iconst (v := 1) d_X11_settleRow_39 ic_1 ?_
    refine aw_icmp_ne (tgt := 56) d_X11_settleRow_40 rfl (fun c6 => ?_) (fun c6 => ?_)
    · have k := k.1 c6
      refine aw_aload_n (i := 1) rfl d_X11_settleRow_56 1 rfl ?_
      refine aw_dup d_X11_settleRow_57 rfl ?_
      refine aw_geti (k0 := 16) kc_2 (q5) (Nat.le_of_ble_eq_true rfl) tw_598 d_X11_settleRow_58 rfl ?_
      refine aw_vi (v2 := (h_i h2 x1 16)) ((hi_o h2 x1 11 ((h_i h2 x1 11) + 1) 16 (by decide)).trans (rfl)) ?_
      refine aw_iconst (v := 1) d_X11_settleRow_61 ic_1 ?_
      refine aw_iadd d_X11_settleRow_62 ?_
      refine aw_puti (k0 := 16) kc_2 (q5) (Nat.le_of_ble_eq_true rfl) tw_598 d_X11_settleRow_63 rfl rfl nf_i ?_
      exact aw_vret rfl d_X11_settleRow_66 ⟨Nat.le_refl _, Nat.le_refl _⟩ ⟨rfl, k⟩
    · have k := k.2 c6
      refine aw_aload_n (i := 1) rfl d_X11_settleRow_43 1 rfl ?_
      refine aw_dup d_X11_settleRow_44 rfl ?_
      refine aw_geti (k0 := 15) kc_2 (q5) (Nat.le_of_ble_eq_true rfl) tw_597 d_X11_settleRow_45 rfl ?_
      refine aw_vi (v2 := (h_i h2 x1 15)) ((hi_o h2 x1 11 ((h_i h2 x1 11) + 1) 15 (by decide)).trans (rfl)) ?_
      refine aw_iconst (v := 1) d_X11_settleRow_48 ic_1 ?_
      refine aw_iadd d_X11_settleRow_49 ?_
      refine aw_puti (k0 := 15) kc_2 (q5) (Nat.le_of_ble_eq_true rfl) tw_597 d_X11_settleRow_50 rfl rfl nf_i ?_
      refine aw_goto (tgt := 66) d_X11_settleRow_53 rfl ?_
      exact aw_vret rfl d_X11_settleRow_66 ⟨Nat.le_refl _, Nat.le_refl _⟩ ⟨rfl, k⟩
theorem t_X11_setFree (d : Nat) (h : Hp_) (w : Wf h) (x1 : Nat) (hs_x1 : h_sh h x1 = some (12, 17)) (lb_x1 : 400 ≤ x1) (K : Hp_ → Prop) (k : Cv (m_X4_tellNoted (d + 0) 0 0) [.ref 17, .int (h_i h x1 0), .int (h_i h 0 0)] (h_im (h_im h x1 4 0) x1 7 (-1)) (fun h1 => Wf h1 ∧ (K h1))) : Cv (m_X11_setFree (d + 1) 0 0) [.ref 0, .ref x1] h K := by
  refine Ct.of (fun _ _ _ => trivial) rfl (Nat.le_of_ble_eq_true rfl) ?_
  show AW (m_X11_setFree (d + 1) 0 0) 0 0 0 [(0, .ref 0), (1, .ref x1)] [] h (kV K)
  refine aw_aload_n (i := 1) rfl d_X11_setFree_0 1 rfl ?_
  refine aw_iconst (v := 0) d_X11_setFree_1 ic_0 ?_
  refine aw_puti (k0 := 4) kc_2 (hs_x1) (Nat.le_of_ble_eq_true rfl) tw_581 d_X11_setFree_2 rfl rfl nf_i ?_
  refine aw_aload_n (i := 1) rfl d_X11_setFree_5 1 rfl ?_
  refine aw_iconst (v := (-1)) d_X11_setFree_6 ic_m1 ?_
  refine aw_puti (k0 := 7) kc_2 (hs_x1) (Nat.le_of_ble_eq_true rfl) tw_587 d_X11_setFree_7 rfl rfl nf_i ?_
  refine aw_aload_n (i := 0) rfl d_X11_setFree_10 0 rfl ?_
  refine aw_getr (k0 := 9) kc_11 (ws_0 w) (Nat.le_of_ble_eq_true rfl) tw_496 d_X11_setFree_11 rfl (wr_0_9 w) ?_
  refine aw_aload_n (i := 1) rfl d_X11_setFree_14 1 rfl ?_
  refine aw_geti (k0 := 0) kc_2 (hs_x1) (Nat.le_of_ble_eq_true rfl) tw_573 d_X11_setFree_15 rfl ?_
  refine aw_vi (v2 := (h_i h x1 0)) ((hi_o (h_im h x1 4 0) x1 7 (-1) 0 (by decide)).trans ((hi_o h x1 4 0 0 (by decide)).trans (rfl))) ?_
  refine aw_aload_n (i := 0) rfl d_X11_setFree_18 0 rfl ?_
  refine aw_geti (k0 := 0) kc_11 (ws_0 w) (Nat.le_of_ble_eq_true rfl) tw_487 d_X11_setFree_19 rfl ?_
  refine aw_vi (v2 := (h_i h 0 0)) ((hi_n (h_im h x1 4 0) x1 7 (-1) 0 0 (by omega)).trans ((hi_n h x1 4 0 0 0 (by omega)).trans (rfl))) ?_
  refine aw_Vv 17 [.int (h_i h x1 0), .int (h_i h 0 0)] [] d_X11_setFree_22 (cV_X4_tellNoted (d + 0) 0 0) kc_4 (ws_17 w) tw_967 rfl (rr0 (Nat.le_of_ble_eq_true rfl) (Nat.le_of_ble_eq_true rfl)) (Nat.le_of_ble_eq_true rfl) xs0 k (fun h1 kk => ?_)
  obtain ⟨w2, k⟩ := kk
  exact aw_vret rfl d_X11_setFree_25 ⟨Nat.le_refl _, Nat.le_refl _⟩ ⟨rfl, k⟩
theorem t_X11_find (d : Nat) (h : Hp_) (w : Wf h) (x1 : Int32) (x2 : Int32) (x3 : Int32) (x4 : Int32) (x5 : Int32) (K : Int32 → Hp_ → Prop) (k : (¬ (0 ≤ x1 ∧ x1 ≤ 9) → K (-1) h) ∧ ((0 ≤ x1 ∧ x1 ≤ 9) → (¬ (0 ≤ x2 ∧ x2 < 16) → K (-1) h) ∧ ((0 ≤ x2 ∧ x2 < 16) → ((1 ≤ x5 ∧ x5 ≤ 9) → (¬ (0 ≤ x3 ∧ x3 ≤ 20000) → K (-1) h) ∧ ((0 ≤ x3 ∧ x3 ≤ 20000) → ((x3 ≤ x4 ∧ x4 ≤ 20000) → Ci (m_X4_addFind (d + 0) 0 0) [.ref 17, .int x1, .int x2, .int x3, .int x4, .int x5] h (fun r18 h16 => Wf h16 ∧ (K r18 h16))) ∧ (¬ (x3 ≤ x4 ∧ x4 ≤ 20000) → K (-1) h))) ∧ (¬ (1 ≤ x5 ∧ x5 ≤ 9) → K (-1) h)))) : Ci (m_X11_find (d + 1) 0 0) [.ref 0, .int x1, .int x2, .int x3, .int x4, .int x5] h K := by
  refine Ct.of (fun _ _ _ => trivial) rfl (Nat.le_of_ble_eq_true rfl) ?_
  show AW (m_X11_find (d + 1) 0 0) 0 0 0 [(0, .ref 0), (1, .int x1), (2, .int x2), (3, .int x3), (4, .int x4), (5, .int x5)] [] h (kI K)
  refine aw_iload_n (i := 1) rfl d_X11_find_0 1 rfl ?_
  refine aw_iconst (v := 0) d_X11_find_1 ic_0 ?_
  refine aw_bipush (v := 9) d_X11_find_2 ib_9 ?_
  refine aw_Si [.int x1, .int 0, .int 9] [] d_X11_find_4 (cS_X11_within (d + 0) 0 0) tw_543 rfl (rr0 (Nat.le_of_ble_eq_true rfl) (Nat.le_of_ble_eq_true rfl)) (Nat.le_of_ble_eq_true rfl) xs0 (s_X11_within _ _ x1 0 9) (fun _ _ kk => ?_)
  obtain ⟨e1, e2⟩ := kk
  rw [e1, e2]
  refine aw_ifb_eq (tgt := 28) d_X11_find_7 rfl (fun c3 => ?_) (fun c3 => ?_)
  · have k := k.1 c3
    refine aw_iconst (v := (-1)) d_X11_find_28 ic_m1 ?_
    exact aw_iret rfl d_X11_find_29 ⟨Nat.le_refl _, Nat.le_refl _⟩ ⟨_, rfl, k⟩
  · have k := k.2 c3
    refine aw_iload_n (i := 2) rfl d_X11_find_10 2 rfl ?_
    refine aw_Si [.int x2] [] d_X11_find_11 (cS_X11_isPlace (d + 0) 0 0) tw_540 rfl (rr0 (Nat.le_of_ble_eq_true rfl) (Nat.le_of_ble_eq_true rfl)) (Nat.le_of_ble_eq_true rfl) xs0 (s_X11_isPlace _ _ x2) (fun _ _ kk => ?_)
    obtain ⟨e4, e5⟩ := kk
    rw [e4, e5]
    refine aw_ifb_eq (tgt := 28) d_X11_find_14 rfl (fun c6 => ?_) (fun c6 => ?_)
    · have k := k.1 c6
      refine aw_iconst (v := (-1)) d_X11_find_28 ic_m1 ?_
      exact aw_iret rfl d_X11_find_29 ⟨Nat.le_refl _, Nat.le_refl _⟩ ⟨_, rfl, k⟩
    · have k := k.2 c6
      refine aw_iload d_X11_find_17 5 rfl ?_
      refine aw_iconst (v := 1) d_X11_find_19 ic_1 ?_
      refine aw_bipush (v := 9) d_X11_find_20 ib_9 ?_
      refine aw_Si [.int x5, .int 1, .int 9] [] d_X11_find_22 (cS_X11_within (d + 0) 0 0) tw_543 rfl (rr0 (Nat.le_of_ble_eq_true rfl) (Nat.le_of_ble_eq_true rfl)) (Nat.le_of_ble_eq_true rfl) xs0 (s_X11_within _ _ x5 1 9) (fun _ _ kk => ?_)
      obtain ⟨e7, e8⟩ := kk
      rw [e7, e8]
      refine aw_ifb_ne (tgt := 30) d_X11_find_25 rfl (fun c9 => ?_) (fun c9 => ?_)
      · have k := k.1 c9
        refine aw_iload_n (i := 3) rfl d_X11_find_30 3 rfl ?_
        refine aw_iconst (v := 0) d_X11_find_31 ic_0 ?_
        refine aw_sipush (v := 20000) d_X11_find_32 is_20000 ?_
        refine aw_Si [.int x3, .int 0, .int 20000] [] d_X11_find_35 (cS_X11_within (d + 0) 0 0) tw_543 rfl (rr0 (Nat.le_of_ble_eq_true rfl) (Nat.le_of_ble_eq_true rfl)) (Nat.le_of_ble_eq_true rfl) xs0 (s_X11_within _ _ x3 0 20000) (fun _ _ kk => ?_)
        obtain ⟨e10, e11⟩ := kk
        rw [e10, e11]
        refine aw_ifb_eq (tgt := 53) d_X11_find_38 rfl (fun c12 => ?_) (fun c12 => ?_)
        · have k := k.1 c12
          refine aw_iconst (v := (-1)) d_X11_find_53 ic_m1 ?_
          exact aw_iret rfl d_X11_find_54 ⟨Nat.le_refl _, Nat.le_refl _⟩ ⟨_, rfl, k⟩
        · have k := k.2 c12
          refine aw_iload d_X11_find_41 4 rfl ?_
          refine aw_iload_n (i := 3) rfl d_X11_find_43 3 rfl ?_
          refine aw_sipush (v := 20000) d_X11_find_44 is_20000 ?_
          refine aw_Si [.int x4, .int x3, .int 20000] [] d_X11_find_47 (cS_X11_within (d + 0) 0 0) tw_543 rfl (rr0 (Nat.le_of_ble_eq_true rfl) (Nat.le_of_ble_eq_true rfl)) (Nat.le_of_ble_eq_true rfl) xs0 (s_X11_within _ _ x4 x3 20000) (fun _ _ kk => ?_)
          obtain ⟨e13, e14⟩ := kk
          rw [e13, e14]
          refine aw_ifb_ne (tgt := 55) d_X11_find_50 rfl (fun c15 => ?_) (fun c15 => ?_)
          · have k := k.1 c15
            refine aw_aload_n (i := 0) rfl d_X11_find_55 0 rfl ?_
            refine aw_getr (k0 := 9) kc_11 (ws_0 w) (Nat.le_of_ble_eq_true rfl) tw_496 d_X11_find_56 rfl (wr_0_9 w) ?_
            refine aw_iload_n (i := 1) rfl d_X11_find_59 1 rfl ?_
            refine aw_iload_n (i := 2) rfl d_X11_find_60 2 rfl ?_
            refine aw_iload_n (i := 3) rfl d_X11_find_61 3 rfl ?_
            refine aw_iload d_X11_find_62 4 rfl ?_
            refine aw_iload d_X11_find_64 5 rfl ?_
            refine aw_Vi 17 [.int x1, .int x2, .int x3, .int x4, .int x5] [] d_X11_find_66 (cV_X4_addFind (d + 0) 0 0) kc_4 (ws_17 w) tw_1151 rfl (rr0 (Nat.le_of_ble_eq_true rfl) (Nat.le_of_ble_eq_true rfl)) (Nat.le_of_ble_eq_true rfl) xs0 k (fun r18 h16 kk => ?_)
            obtain ⟨w17, k⟩ := kk
            exact aw_iret rfl d_X11_find_69 ⟨Nat.le_refl _, Nat.le_refl _⟩ ⟨_, rfl, k⟩
          · have k := k.2 c15
            refine aw_iconst (v := (-1)) d_X11_find_53 ic_m1 ?_
            exact aw_iret rfl d_X11_find_54 ⟨Nat.le_refl _, Nat.le_refl _⟩ ⟨_, rfl, k⟩
      · have k := k.2 c9
        refine aw_iconst (v := (-1)) d_X11_find_28 ic_m1 ?_
        exact aw_iret rfl d_X11_find_29 ⟨Nat.le_refl _, Nat.le_refl _⟩ ⟨_, rfl, k⟩
theorem t_X11_open (d : Nat) (h : Hp_) (w : Wf h) (x1 : Int32) (K : Int32 → Hp_ → Prop) (k : (¬ (0 ≤ x1 ∧ x1 ≤ 9) → K (-1) h) ∧ ((0 ≤ x1 ∧ x1 ≤ 9) → Ci (m_X1_start (d + 0) 0 0) [.ref 18, .int x1, .int (h_i h 0 0)] h (fun r6 h4 => Wf h4 ∧ (K r6 h4)))) : Ci (m_X11_open (d + 1) 0 0) [.ref 0, .int x1] h K := by
  refine Ct.of (fun _ _ _ => trivial) rfl (Nat.le_of_ble_eq_true rfl) ?_
  show AW (m_X11_open (d + 1) 0 0) 0 0 0 [(0, .ref 0), (1, .int x1)] [] h (kI K)
  refine aw_iload_n (i := 1) rfl d_X11_open_0 1 rfl ?_
  refine aw_iconst (v := 0) d_X11_open_1 ic_0 ?_
  refine aw_bipush (v := 9) d_X11_open_2 ib_9 ?_
  refine aw_Si [.int x1, .int 0, .int 9] [] d_X11_open_4 (cS_X11_within (d + 0) 0 0) tw_543 rfl (rr0 (Nat.le_of_ble_eq_true rfl) (Nat.le_of_ble_eq_true rfl)) (Nat.le_of_ble_eq_true rfl) xs0 (s_X11_within _ _ x1 0 9) (fun _ _ kk => ?_)
  obtain ⟨e1, e2⟩ := kk
  rw [e1, e2]
  refine aw_ifb_eq (tgt := 25) d_X11_open_7 rfl (fun c3 => ?_) (fun c3 => ?_)
  · have k := k.1 c3
    refine aw_iconst (v := (-1)) d_X11_open_25 ic_m1 ?_
    exact aw_iret rfl d_X11_open_26 ⟨Nat.le_refl _, Nat.le_refl _⟩ ⟨_, rfl, k⟩
  · have k := k.2 c3
    refine aw_aload_n (i := 0) rfl d_X11_open_10 0 rfl ?_
    refine aw_getr (k0 := 10) kc_11 (ws_0 w) (Nat.le_of_ble_eq_true rfl) tw_497 d_X11_open_11 rfl (wr_0_10 w) ?_
    refine aw_iload_n (i := 1) rfl d_X11_open_14 1 rfl ?_
    refine aw_aload_n (i := 0) rfl d_X11_open_15 0 rfl ?_
    refine aw_geti (k0 := 0) kc_11 (ws_0 w) (Nat.le_of_ble_eq_true rfl) tw_487 d_X11_open_16 rfl ?_
    refine aw_Vi 18 [.int x1, .int (h_i h 0 0)] [] d_X11_open_19 (cV_X1_start (d + 0) 0 0) kc_1 (ws_18 w) tw_1086 rfl (rr0 (Nat.le_of_ble_eq_true rfl) (Nat.le_of_ble_eq_true rfl)) (Nat.le_of_ble_eq_true rfl) xs0 k (fun r6 h4 kk => ?_)
    obtain ⟨w5, k⟩ := kk
    refine aw_goto (tgt := 26) d_X11_open_22 rfl ?_
    exact aw_iret rfl d_X11_open_26 ⟨Nat.le_refl _, Nat.le_refl _⟩ ⟨_, rfl, k⟩
theorem t_X11_need (d : Nat) (h : Hp_) (w : Wf h) (x1 : Int32) (x2 : Int32) (K : Int32 → Hp_ → Prop) (k : (¬ (0 ≤ x1 ∧ x1 ≤ 9) → K 0 h) ∧ ((0 ≤ x1 ∧ x1 ≤ 9) → ((0 ≤ x2 ∧ x2 ≤ 255) → vp_in x1 10 ∧ (K 1 (h_im h 74 x1.toNatClampNeg x2))) ∧ (¬ (0 ≤ x2 ∧ x2 ≤ 255) → K 0 h))) : Ci (m_X11_need (d + 1) 0 0) [.ref 0, .int x1, .int x2] h K := by
  refine Ct.of (fun _ _ _ => trivial) rfl (Nat.le_of_ble_eq_true rfl) ?_
  show AW (m_X11_need (d + 1) 0 0) 0 0 0 [(0, .ref 0), (1, .int x1), (2, .int x2)] [] h (kI K)
  refine aw_iload_n (i := 1) rfl d_X11_need_0 1 rfl ?_
  refine aw_iconst (v := 0) d_X11_need_1 ic_0 ?_
  refine aw_bipush (v := 9) d_X11_need_2 ib_9 ?_
  refine aw_Si [.int x1, .int 0, .int 9] [] d_X11_need_4 (cS_X11_within (d + 0) 0 0) tw_543 rfl (rr0 (Nat.le_of_ble_eq_true rfl) (Nat.le_of_ble_eq_true rfl)) (Nat.le_of_ble_eq_true rfl) xs0 (s_X11_within _ _ x1 0 9) (fun _ _ kk => ?_)
  obtain ⟨e1, e2⟩ := kk
  rw [e1, e2]
  refine aw_ifb_eq (tgt := 21) d_X11_need_7 rfl (fun c3 => ?_) (fun c3 => ?_)
  · have k := k.1 c3
    refine aw_iconst (v := 0) d_X11_need_21 ic_0 ?_
    exact aw_zret rfl rfl d_X11_need_22 ⟨Nat.le_refl _, Nat.le_refl _⟩ ⟨_, rfl, k⟩
  · have k := k.2 c3
    refine aw_iload_n (i := 2) rfl d_X11_need_10 2 rfl ?_
    refine aw_iconst (v := 0) d_X11_need_11 ic_0 ?_
    refine aw_sipush (v := 255) d_X11_need_12 is_255 ?_
    refine aw_Si [.int x2, .int 0, .int 255] [] d_X11_need_15 (cS_X11_within (d + 0) 0 0) tw_543 rfl (rr0 (Nat.le_of_ble_eq_true rfl) (Nat.le_of_ble_eq_true rfl)) (Nat.le_of_ble_eq_true rfl) xs0 (s_X11_within _ _ x2 0 255) (fun _ _ kk => ?_)
    obtain ⟨e4, e5⟩ := kk
    rw [e4, e5]
    refine aw_ifb_ne (tgt := 23) d_X11_need_18 rfl (fun c6 => ?_) (fun c6 => ?_)
    · have k := k.1 c6
      refine aw_aload_n (i := 0) rfl d_X11_need_23 0 rfl ?_
      refine aw_getr (k0 := 10) kc_11 (ws_0 w) (Nat.le_of_ble_eq_true rfl) tw_497 d_X11_need_24 rfl (wr_0_10 w) ?_
      refine aw_getr (k0 := 4) kc_1 (ws_18 w) (Nat.le_of_ble_eq_true rfl) tw_268 d_X11_need_27 rfl (wr_18_4 w) ?_
      refine aw_iload_n (i := 1) rfl d_X11_need_30 1 rfl ?_
      refine aw_iload_n (i := 2) rfl d_X11_need_31 2 rfl ?_
      obtain ⟨b7, k⟩ := k
      refine aw_iast (ws_74 w) b7 d_X11_need_32 ?_
      refine aw_iconst (v := 1) d_X11_need_33 ic_1 ?_
      exact aw_zret rfl rfl d_X11_need_34 ⟨Nat.le_refl _, Nat.le_refl _⟩ ⟨_, rfl, k⟩
    · have k := k.2 c6
      refine aw_iconst (v := 0) d_X11_need_21 ic_0 ?_
      exact aw_zret rfl rfl d_X11_need_22 ⟨Nat.le_refl _, Nat.le_refl _⟩ ⟨_, rfl, k⟩
theorem t_X11_want (d : Nat) (h : Hp_) (w : Wf h) (x1 : Int32) (x2 : Int32) (K : Int32 → Hp_ → Prop) (k : (¬ (0 ≤ x1 ∧ x1 ≤ 7) → K 0 h) ∧ ((0 ≤ x1 ∧ x1 ≤ 7) → ((1 ≤ x2 ∧ x2 ≤ 3) → vp_in x1 8 ∧ (K 1 (h_im h 75 x1.toNatClampNeg x2))) ∧ (¬ (1 ≤ x2 ∧ x2 ≤ 3) → K 0 h))) : Ci (m_X11_want (d + 1) 0 0) [.ref 0, .int x1, .int x2] h K := by
  refine Ct.of (fun _ _ _ => trivial) rfl (Nat.le_of_ble_eq_true rfl) ?_
  show AW (m_X11_want (d + 1) 0 0) 0 0 0 [(0, .ref 0), (1, .int x1), (2, .int x2)] [] h (kI K)
  refine aw_iload_n (i := 1) rfl d_X11_want_0 1 rfl ?_
  refine aw_iconst (v := 0) d_X11_want_1 ic_0 ?_
  refine aw_bipush (v := 7) d_X11_want_2 ib_7 ?_
  refine aw_Si [.int x1, .int 0, .int 7] [] d_X11_want_4 (cS_X11_within (d + 0) 0 0) tw_543 rfl (rr0 (Nat.le_of_ble_eq_true rfl) (Nat.le_of_ble_eq_true rfl)) (Nat.le_of_ble_eq_true rfl) xs0 (s_X11_within _ _ x1 0 7) (fun _ _ kk => ?_)
  obtain ⟨e1, e2⟩ := kk
  rw [e1, e2]
  refine aw_ifb_eq (tgt := 19) d_X11_want_7 rfl (fun c3 => ?_) (fun c3 => ?_)
  · have k := k.1 c3
    refine aw_iconst (v := 0) d_X11_want_19 ic_0 ?_
    exact aw_zret rfl rfl d_X11_want_20 ⟨Nat.le_refl _, Nat.le_refl _⟩ ⟨_, rfl, k⟩
  · have k := k.2 c3
    refine aw_iload_n (i := 2) rfl d_X11_want_10 2 rfl ?_
    refine aw_iconst (v := 1) d_X11_want_11 ic_1 ?_
    refine aw_iconst (v := 3) d_X11_want_12 ic_3 ?_
    refine aw_Si [.int x2, .int 1, .int 3] [] d_X11_want_13 (cS_X11_within (d + 0) 0 0) tw_543 rfl (rr0 (Nat.le_of_ble_eq_true rfl) (Nat.le_of_ble_eq_true rfl)) (Nat.le_of_ble_eq_true rfl) xs0 (s_X11_within _ _ x2 1 3) (fun _ _ kk => ?_)
    obtain ⟨e4, e5⟩ := kk
    rw [e4, e5]
    refine aw_ifb_ne (tgt := 21) d_X11_want_16 rfl (fun c6 => ?_) (fun c6 => ?_)
    · have k := k.1 c6
      refine aw_aload_n (i := 0) rfl d_X11_want_21 0 rfl ?_
      refine aw_getr (k0 := 10) kc_11 (ws_0 w) (Nat.le_of_ble_eq_true rfl) tw_497 d_X11_want_22 rfl (wr_0_10 w) ?_
      refine aw_getr (k0 := 5) kc_1 (ws_18 w) (Nat.le_of_ble_eq_true rfl) tw_270 d_X11_want_25 rfl (wr_18_5 w) ?_
      refine aw_iload_n (i := 1) rfl d_X11_want_28 1 rfl ?_
      refine aw_iload_n (i := 2) rfl d_X11_want_29 2 rfl ?_
      obtain ⟨b7, k⟩ := k
      refine aw_iast (ws_75 w) b7 d_X11_want_30 ?_
      refine aw_iconst (v := 1) d_X11_want_31 ic_1 ?_
      exact aw_zret rfl rfl d_X11_want_32 ⟨Nat.le_refl _, Nat.le_refl _⟩ ⟨_, rfl, k⟩
    · have k := k.2 c6
      refine aw_iconst (v := 0) d_X11_want_19 ic_0 ?_
      exact aw_zret rfl rfl d_X11_want_20 ⟨Nat.le_refl _, Nat.le_refl _⟩ ⟨_, rfl, k⟩
theorem t_X11_good (d : Nat) (h : Hp_) (w : Wf h) (x1 : Int32) (x2 : Int32) (K : Int32 → Hp_ → Prop) (k : (¬ (0 ≤ x2 ∧ x2 ≤ 99999) → K (-1) h) ∧ ((0 ≤ x2 ∧ x2 ≤ 99999) → Ci (m_X3_add (d + 0) 0 0) [.ref 19, .int x1, .int x2] h (fun r6 h4 => Wf h4 ∧ (K r6 h4)))) : Ci (m_X11_good (d + 1) 0 0) [.ref 0, .int x1, .int x2] h K := by
  refine Ct.of (fun _ _ _ => trivial) rfl (Nat.le_of_ble_eq_true rfl) ?_
  show AW (m_X11_good (d + 1) 0 0) 0 0 0 [(0, .ref 0), (1, .int x1), (2, .int x2)] [] h (kI K)
  refine aw_iload_n (i := 2) rfl d_X11_good_0 2 rfl ?_
  refine aw_iconst (v := 0) d_X11_good_1 ic_0 ?_
  refine aw_ldcw (v := 99999) d_X11_good_2 tw_1318 ?_
  refine aw_Si [.int x2, .int 0, .int 99999] [] d_X11_good_5 (cS_X11_within (d + 0) 0 0) tw_543 rfl (rr0 (Nat.le_of_ble_eq_true rfl) (Nat.le_of_ble_eq_true rfl)) (Nat.le_of_ble_eq_true rfl) xs0 (s_X11_within _ _ x2 0 99999) (fun _ _ kk => ?_)
  obtain ⟨e1, e2⟩ := kk
  rw [e1, e2]
  refine aw_ifb_eq (tgt := 23) d_X11_good_8 rfl (fun c3 => ?_) (fun c3 => ?_)
  · have k := k.1 c3
    refine aw_iconst (v := (-1)) d_X11_good_23 ic_m1 ?_
    exact aw_iret rfl d_X11_good_24 ⟨Nat.le_refl _, Nat.le_refl _⟩ ⟨_, rfl, k⟩
  · have k := k.2 c3
    refine aw_aload_n (i := 0) rfl d_X11_good_11 0 rfl ?_
    refine aw_getr (k0 := 11) kc_11 (ws_0 w) (Nat.le_of_ble_eq_true rfl) tw_498 d_X11_good_12 rfl (wr_0_11 w) ?_
    refine aw_iload_n (i := 1) rfl d_X11_good_15 1 rfl ?_
    refine aw_iload_n (i := 2) rfl d_X11_good_16 2 rfl ?_
    refine aw_Vi 19 [.int x1, .int x2] [] d_X11_good_17 (cV_X3_add (d + 0) 0 0) kc_3 (ws_19 w) tw_1319 rfl (rr0 (Nat.le_of_ble_eq_true rfl) (Nat.le_of_ble_eq_true rfl)) (Nat.le_of_ble_eq_true rfl) xs0 k (fun r6 h4 kk => ?_)
    obtain ⟨w5, k⟩ := kk
    refine aw_goto (tgt := 24) d_X11_good_20 rfl ?_
    exact aw_iret rfl d_X11_good_24 ⟨Nat.le_refl _, Nat.le_refl _⟩ ⟨_, rfl, k⟩
theorem t_X11_least (d : Nat) (h : Hp_) (w : Wf h) (x1 : Int32) (K : Int32 → Hp_ → Prop) (k : (¬ (1 ≤ x1 ∧ x1 ≤ 5) → K 0 h) ∧ ((1 ≤ x1 ∧ x1 ≤ 5) → Ci (m_X3_setLeast (d + 0) 0 0) [.ref 19, .int x1] h (fun r6 h4 => Wf h4 ∧ ((r6 = 0 → K 0 h4) ∧ (¬ r6 = 0 → K 1 h4))))) : Ci (m_X11_least (d + 1) 0 0) [.ref 0, .int x1] h K := by
  refine Ct.of (fun _ _ _ => trivial) rfl (Nat.le_of_ble_eq_true rfl) ?_
  show AW (m_X11_least (d + 1) 0 0) 0 0 0 [(0, .ref 0), (1, .int x1)] [] h (kI K)
  refine aw_iload_n (i := 1) rfl d_X11_least_0 1 rfl ?_
  refine aw_iconst (v := 1) d_X11_least_1 ic_1 ?_
  refine aw_iconst (v := 5) d_X11_least_2 ic_5 ?_
  refine aw_Si [.int x1, .int 1, .int 5] [] d_X11_least_3 (cS_X11_within (d + 0) 0 0) tw_543 rfl (rr0 (Nat.le_of_ble_eq_true rfl) (Nat.le_of_ble_eq_true rfl)) (Nat.le_of_ble_eq_true rfl) xs0 (s_X11_within _ _ x1 1 5) (fun _ _ kk => ?_)
  obtain ⟨e1, e2⟩ := kk
  rw [e1, e2]
  refine aw_ifb_eq (tgt := 24) d_X11_least_6 rfl (fun c3 => ?_) (fun c3 => ?_)
  · have k := k.1 c3
    refine aw_iconst (v := 0) d_X11_least_24 ic_0 ?_
    exact aw_zret rfl rfl d_X11_least_25 ⟨Nat.le_refl _, Nat.le_refl _⟩ ⟨_, rfl, k⟩
  · have k := k.2 c3
    refine aw_aload_n (i := 0) rfl d_X11_least_9 0 rfl ?_
    refine aw_getr (k0 := 11) kc_11 (ws_0 w) (Nat.le_of_ble_eq_true rfl) tw_498 d_X11_least_10 rfl (wr_0_11 w) ?_
    refine aw_iload_n (i := 1) rfl d_X11_least_13 1 rfl ?_
    refine aw_Vi 19 [.int x1] [] d_X11_least_14 (cV_X3_setLeast (d + 0) 0 0) kc_3 (ws_19 w) tw_1327 rfl (rr0 (Nat.le_of_ble_eq_true rfl) (Nat.le_of_ble_eq_true rfl)) (Nat.le_of_ble_eq_true rfl) xs0 k (fun r6 h4 kk => ?_)
    obtain ⟨w5, k⟩ := kk
    refine aw_if_eq (tgt := 24) d_X11_least_17 rfl (fun c7 => ?_) (fun c7 => ?_)
    · have k := k.1 c7
      refine aw_iconst (v := 0) d_X11_least_24 ic_0 ?_
      exact aw_zret rfl rfl d_X11_least_25 ⟨Nat.le_refl _, Nat.le_refl _⟩ ⟨_, rfl, k⟩
    · have k := k.2 c7
      refine aw_iconst (v := 1) d_X11_least_20 ic_1 ?_
      refine aw_goto (tgt := 25) d_X11_least_21 rfl ?_
      exact aw_zret rfl rfl d_X11_least_25 ⟨Nat.le_refl _, Nat.le_refl _⟩ ⟨_, rfl, k⟩
theorem t_X11_watch (d : Nat) (h : Hp_) (w : Wf h) (x1 : Int32) (x2 : Int32) (x3 : Int32) (K : Int32 → Hp_ → Prop) (k : (¬ (0 ≤ x1 ∧ x1 < 16) → K (-1) h) ∧ ((0 ≤ x1 ∧ x1 < 16) → (¬ (0 ≤ x2 ∧ x2 ≤ 1440) → K (-1) h) ∧ ((0 ≤ x2 ∧ x2 ≤ 1440) → ((x2 ≤ x3 ∧ x3 ≤ 1440) → Ci (m_X6_addWatch (d + 0) 0 0) [.ref 20, .int x1, .int x2, .int x3] h (fun r12 h10 => Wf h10 ∧ (K r12 h10))) ∧ (¬ (x2 ≤ x3 ∧ x3 ≤ 1440) → K (-1) h)))) : Ci (m_X11_watch (d + 1) 0 0) [.ref 0, .int x1, .int x2, .int x3] h K := by
  refine Ct.of (fun _ _ _ => trivial) rfl (Nat.le_of_ble_eq_true rfl) ?_
  show AW (m_X11_watch (d + 1) 0 0) 0 0 0 [(0, .ref 0), (1, .int x1), (2, .int x2), (3, .int x3)] [] h (kI K)
  refine aw_iload_n (i := 1) rfl d_X11_watch_0 1 rfl ?_
  refine aw_Si [.int x1] [] d_X11_watch_1 (cS_X11_isPlace (d + 0) 0 0) tw_540 rfl (rr0 (Nat.le_of_ble_eq_true rfl) (Nat.le_of_ble_eq_true rfl)) (Nat.le_of_ble_eq_true rfl) xs0 (s_X11_isPlace _ _ x1) (fun _ _ kk => ?_)
  obtain ⟨e1, e2⟩ := kk
  rw [e1, e2]
  refine aw_ifb_eq (tgt := 29) d_X11_watch_4 rfl (fun c3 => ?_) (fun c3 => ?_)
  · have k := k.1 c3
    refine aw_iconst (v := (-1)) d_X11_watch_29 ic_m1 ?_
    exact aw_iret rfl d_X11_watch_30 ⟨Nat.le_refl _, Nat.le_refl _⟩ ⟨_, rfl, k⟩
  · have k := k.2 c3
    refine aw_iload_n (i := 2) rfl d_X11_watch_7 2 rfl ?_
    refine aw_iconst (v := 0) d_X11_watch_8 ic_0 ?_
    refine aw_sipush (v := 1440) d_X11_watch_9 is_1440 ?_
    refine aw_Si [.int x2, .int 0, .int 1440] [] d_X11_watch_12 (cS_X11_within (d + 0) 0 0) tw_543 rfl (rr0 (Nat.le_of_ble_eq_true rfl) (Nat.le_of_ble_eq_true rfl)) (Nat.le_of_ble_eq_true rfl) xs0 (s_X11_within _ _ x2 0 1440) (fun _ _ kk => ?_)
    obtain ⟨e4, e5⟩ := kk
    rw [e4, e5]
    refine aw_ifb_eq (tgt := 29) d_X11_watch_15 rfl (fun c6 => ?_) (fun c6 => ?_)
    · have k := k.1 c6
      refine aw_iconst (v := (-1)) d_X11_watch_29 ic_m1 ?_
      exact aw_iret rfl d_X11_watch_30 ⟨Nat.le_refl _, Nat.le_refl _⟩ ⟨_, rfl, k⟩
    · have k := k.2 c6
      refine aw_iload_n (i := 3) rfl d_X11_watch_18 3 rfl ?_
      refine aw_iload_n (i := 2) rfl d_X11_watch_19 2 rfl ?_
      refine aw_sipush (v := 1440) d_X11_watch_20 is_1440 ?_
      refine aw_Si [.int x3, .int x2, .int 1440] [] d_X11_watch_23 (cS_X11_within (d + 0) 0 0) tw_543 rfl (rr0 (Nat.le_of_ble_eq_true rfl) (Nat.le_of_ble_eq_true rfl)) (Nat.le_of_ble_eq_true rfl) xs0 (s_X11_within _ _ x3 x2 1440) (fun _ _ kk => ?_)
      obtain ⟨e7, e8⟩ := kk
      rw [e7, e8]
      refine aw_ifb_ne (tgt := 31) d_X11_watch_26 rfl (fun c9 => ?_) (fun c9 => ?_)
      · have k := k.1 c9
        refine aw_aload_n (i := 0) rfl d_X11_watch_31 0 rfl ?_
        refine aw_getr (k0 := 12) kc_11 (ws_0 w) (Nat.le_of_ble_eq_true rfl) tw_499 d_X11_watch_32 rfl (wr_0_12 w) ?_
        refine aw_iload_n (i := 1) rfl d_X11_watch_35 1 rfl ?_
        refine aw_iload_n (i := 2) rfl d_X11_watch_36 2 rfl ?_
        refine aw_iload_n (i := 3) rfl d_X11_watch_37 3 rfl ?_
        refine aw_Vi 20 [.int x1, .int x2, .int x3] [] d_X11_watch_38 (cV_X6_addWatch (d + 0) 0 0) kc_6 (ws_20 w) tw_1410 rfl (rr0 (Nat.le_of_ble_eq_true rfl) (Nat.le_of_ble_eq_true rfl)) (Nat.le_of_ble_eq_true rfl) xs0 k (fun r12 h10 kk => ?_)
        obtain ⟨w11, k⟩ := kk
        exact aw_iret rfl d_X11_watch_41 ⟨Nat.le_refl _, Nat.le_refl _⟩ ⟨_, rfl, k⟩
      · have k := k.2 c9
        refine aw_iconst (v := (-1)) d_X11_watch_29 ic_m1 ?_
        exact aw_iret rfl d_X11_watch_30 ⟨Nat.le_refl _, Nat.le_refl _⟩ ⟨_, rfl, k⟩
theorem t_X11_canShare (d : Nat) (h : Hp_) (w : Wf h) (x1 : Int32) (K : Int32 → Hp_ → Prop) (k : (x1 ≤ 0 → K 0 h) ∧ (¬ x1 ≤ 0 → (((1 : Int32) <<< ((h_i h 12 3) &&& 31)) ≤ x1 → K 0 h) ∧ (¬ ((1 : Int32) <<< ((h_i h 12 3) &&& 31)) ≤ x1 → Ci (m_J6_bitCount_0f7a4 (d + 0) 0 0) [.int x1] h (fun r5 h3 => Wf h3 ∧ ((5 < r5 → K 0 h3) ∧ (¬ 5 < r5 → K 1 h3)))))) : Ci (m_X11_canShare (d + 1) 0 0) [.ref 0, .int x1] h K := by
  refine Ct.of (fun _ _ _ => trivial) rfl (Nat.le_of_ble_eq_true rfl) ?_
  show AW (m_X11_canShare (d + 1) 0 0) 0 0 0 [(0, .ref 0), (1, .int x1)] [] h (kI K)
  refine aw_iload_n (i := 1) rfl d_X11_canShare_0 1 rfl ?_
  refine aw_if_le (tgt := 29) d_X11_canShare_1 rfl (fun c1 => ?_) (fun c1 => ?_)
  · have k := k.1 c1
    refine aw_iconst (v := 0) d_X11_canShare_29 ic_0 ?_
    exact aw_zret rfl rfl d_X11_canShare_30 ⟨Nat.le_refl _, Nat.le_refl _⟩ ⟨_, rfl, k⟩
  · have k := k.2 c1
    refine aw_iload_n (i := 1) rfl d_X11_canShare_4 1 rfl ?_
    refine aw_iconst (v := 1) d_X11_canShare_5 ic_1 ?_
    refine aw_aload_n (i := 0) rfl d_X11_canShare_6 0 rfl ?_
    refine aw_getr (k0 := 3) kc_11 (ws_0 w) (Nat.le_of_ble_eq_true rfl) tw_490 d_X11_canShare_7 rfl (wr_0_3 w) ?_
    refine aw_geti (k0 := 3) kc_0 (ws_12 w) (Nat.le_of_ble_eq_true rfl) tw_108 d_X11_canShare_10 rfl ?_
    refine aw_ishl d_X11_canShare_13 ?_
    refine aw_icmp_ge (tgt := 29) d_X11_canShare_14 rfl (fun c2 => ?_) (fun c2 => ?_)
    · have k := k.1 c2
      refine aw_iconst (v := 0) d_X11_canShare_29 ic_0 ?_
      exact aw_zret rfl rfl d_X11_canShare_30 ⟨Nat.le_refl _, Nat.le_refl _⟩ ⟨_, rfl, k⟩
    · have k := k.2 c2
      refine aw_iload_n (i := 1) rfl d_X11_canShare_17 1 rfl ?_
      refine aw_Si [.int x1] [] d_X11_canShare_18 (cS_J6_bitCount_0f7a4 (d + 0) 0 0) tw_1446 rfl (rr0 (Nat.le_of_ble_eq_true rfl) (Nat.le_of_ble_eq_true rfl)) (Nat.le_of_ble_eq_true rfl) xs0 k (fun r5 h3 kk => ?_)
      obtain ⟨w4, k⟩ := kk
      refine aw_iconst (v := 5) d_X11_canShare_21 ic_5 ?_
      refine aw_icmp_gt (tgt := 29) d_X11_canShare_22 rfl (fun c6 => ?_) (fun c6 => ?_)
      · have k := k.1 c6
        refine aw_iconst (v := 0) d_X11_canShare_29 ic_0 ?_
        exact aw_zret rfl rfl d_X11_canShare_30 ⟨Nat.le_refl _, Nat.le_refl _⟩ ⟨_, rfl, k⟩
      · have k := k.2 c6
        refine aw_iconst (v := 1) d_X11_canShare_25 ic_1 ?_
        refine aw_goto (tgt := 30) d_X11_canShare_26 rfl ?_
        exact aw_zret rfl rfl d_X11_canShare_30 ⟨Nat.le_refl _, Nat.le_refl _⟩ ⟨_, rfl, k⟩
theorem t_X11_fair (d : Nat) (h : Hp_) (w : Wf h) (x1 : Int32) (x2 : Int32) (x3 : Int32) (K : Int32 → Hp_ → Prop) (k : (¬ (0 ≤ x1 ∧ x1 < 16) → K (-1) h) ∧ ((0 ≤ x1 ∧ x1 < 16) → (¬ (0 ≤ x2 ∧ x2 ≤ 30000) → K (-1) h) ∧ ((0 ≤ x2 ∧ x2 ≤ 30000) → ((1 ≤ x3 ∧ x3 ≤ 3) → Ci (m_X6_addFair (d + 0) 0 0) [.ref 20, .int x1, .int x2, .int x3] h (fun r12 h10 => Wf h10 ∧ (K r12 h10))) ∧ (¬ (1 ≤ x3 ∧ x3 ≤ 3) → K (-1) h)))) : Ci (m_X11_fair (d + 1) 0 0) [.ref 0, .int x1, .int x2, .int x3] h K := by
  refine Ct.of (fun _ _ _ => trivial) rfl (Nat.le_of_ble_eq_true rfl) ?_
  show AW (m_X11_fair (d + 1) 0 0) 0 0 0 [(0, .ref 0), (1, .int x1), (2, .int x2), (3, .int x3)] [] h (kI K)
  refine aw_iload_n (i := 1) rfl d_X11_fair_0 1 rfl ?_
  refine aw_Si [.int x1] [] d_X11_fair_1 (cS_X11_isPlace (d + 0) 0 0) tw_540 rfl (rr0 (Nat.le_of_ble_eq_true rfl) (Nat.le_of_ble_eq_true rfl)) (Nat.le_of_ble_eq_true rfl) xs0 (s_X11_isPlace _ _ x1) (fun _ _ kk => ?_)
  obtain ⟨e1, e2⟩ := kk
  rw [e1, e2]
  refine aw_ifb_eq (tgt := 27) d_X11_fair_4 rfl (fun c3 => ?_) (fun c3 => ?_)
  · have k := k.1 c3
    refine aw_iconst (v := (-1)) d_X11_fair_27 ic_m1 ?_
    exact aw_iret rfl d_X11_fair_28 ⟨Nat.le_refl _, Nat.le_refl _⟩ ⟨_, rfl, k⟩
  · have k := k.2 c3
    refine aw_iload_n (i := 2) rfl d_X11_fair_7 2 rfl ?_
    refine aw_iconst (v := 0) d_X11_fair_8 ic_0 ?_
    refine aw_sipush (v := 30000) d_X11_fair_9 is_30000 ?_
    refine aw_Si [.int x2, .int 0, .int 30000] [] d_X11_fair_12 (cS_X11_within (d + 0) 0 0) tw_543 rfl (rr0 (Nat.le_of_ble_eq_true rfl) (Nat.le_of_ble_eq_true rfl)) (Nat.le_of_ble_eq_true rfl) xs0 (s_X11_within _ _ x2 0 30000) (fun _ _ kk => ?_)
    obtain ⟨e4, e5⟩ := kk
    rw [e4, e5]
    refine aw_ifb_eq (tgt := 27) d_X11_fair_15 rfl (fun c6 => ?_) (fun c6 => ?_)
    · have k := k.1 c6
      refine aw_iconst (v := (-1)) d_X11_fair_27 ic_m1 ?_
      exact aw_iret rfl d_X11_fair_28 ⟨Nat.le_refl _, Nat.le_refl _⟩ ⟨_, rfl, k⟩
    · have k := k.2 c6
      refine aw_iload_n (i := 3) rfl d_X11_fair_18 3 rfl ?_
      refine aw_iconst (v := 1) d_X11_fair_19 ic_1 ?_
      refine aw_iconst (v := 3) d_X11_fair_20 ic_3 ?_
      refine aw_Si [.int x3, .int 1, .int 3] [] d_X11_fair_21 (cS_X11_within (d + 0) 0 0) tw_543 rfl (rr0 (Nat.le_of_ble_eq_true rfl) (Nat.le_of_ble_eq_true rfl)) (Nat.le_of_ble_eq_true rfl) xs0 (s_X11_within _ _ x3 1 3) (fun _ _ kk => ?_)
      obtain ⟨e7, e8⟩ := kk
      rw [e7, e8]
      refine aw_ifb_ne (tgt := 29) d_X11_fair_24 rfl (fun c9 => ?_) (fun c9 => ?_)
      · have k := k.1 c9
        refine aw_aload_n (i := 0) rfl d_X11_fair_29 0 rfl ?_
        refine aw_getr (k0 := 12) kc_11 (ws_0 w) (Nat.le_of_ble_eq_true rfl) tw_499 d_X11_fair_30 rfl (wr_0_12 w) ?_
        refine aw_iload_n (i := 1) rfl d_X11_fair_33 1 rfl ?_
        refine aw_iload_n (i := 2) rfl d_X11_fair_34 2 rfl ?_
        refine aw_iload_n (i := 3) rfl d_X11_fair_35 3 rfl ?_
        refine aw_Vi 20 [.int x1, .int x2, .int x3] [] d_X11_fair_36 (cV_X6_addFair (d + 0) 0 0) kc_6 (ws_20 w) tw_1484 rfl (rr0 (Nat.le_of_ble_eq_true rfl) (Nat.le_of_ble_eq_true rfl)) (Nat.le_of_ble_eq_true rfl) xs0 k (fun r12 h10 kk => ?_)
        obtain ⟨w11, k⟩ := kk
        exact aw_iret rfl d_X11_fair_39 ⟨Nat.le_refl _, Nat.le_refl _⟩ ⟨_, rfl, k⟩
      · have k := k.2 c9
        refine aw_iconst (v := (-1)) d_X11_fair_27 ic_m1 ?_
        exact aw_iret rfl d_X11_fair_28 ⟨Nat.le_refl _, Nat.le_refl _⟩ ⟨_, rfl, k⟩
theorem t_X11_fairs (d : Nat) (h : Hp_) (w : Wf h)  (K : Hp_ → Prop) (k : Cv (m_X6_clearFairs (d + 0) 0 0) [.ref 20] h (fun h1 => Wf h1 ∧ (K h1))) : Cv (m_X11_fairs (d + 1) 0 0) [.ref 0] h K := by
  refine Ct.of (fun _ _ _ => trivial) rfl (Nat.le_of_ble_eq_true rfl) ?_
  show AW (m_X11_fairs (d + 1) 0 0) 0 0 0 [(0, .ref 0)] [] h (kV K)
  refine aw_aload_n (i := 0) rfl d_X11_fairs_0 0 rfl ?_
  refine aw_getr (k0 := 12) kc_11 (ws_0 w) (Nat.le_of_ble_eq_true rfl) tw_499 d_X11_fairs_1 rfl (wr_0_12 w) ?_
  refine aw_Vv 20 [] [] d_X11_fairs_4 (cV_X6_clearFairs (d + 0) 0 0) kc_6 (ws_20 w) tw_1557 rfl (rr0 (Nat.le_of_ble_eq_true rfl) (Nat.le_of_ble_eq_true rfl)) (Nat.le_of_ble_eq_true rfl) xs0 k (fun h1 kk => ?_)
  obtain ⟨w2, k⟩ := kk
  exact aw_vret rfl d_X11_fairs_7 ⟨Nat.le_refl _, Nat.le_refl _⟩ ⟨rfl, k⟩
theorem t_X11_size (d : Nat) (h : Hp_) (w : Wf h) (x1 : Int32) (K : Int32 → Hp_ → Prop) (k : ((1 ≤ x1 ∧ x1 ≤ 12) → K 1 (h_im h 21 15 x1)) ∧ (¬ (1 ≤ x1 ∧ x1 ≤ 12) → K 0 h)) : Ci (m_X11_size (d + 1) 0 0) [.ref 0, .int x1] h K := by
  refine Ct.of (fun _ _ _ => trivial) rfl (Nat.le_of_ble_eq_true rfl) ?_
  show AW (m_X11_size (d + 1) 0 0) 0 0 0 [(0, .ref 0), (1, .int x1)] [] h (kI K)
  refine aw_iload_n (i := 1) rfl d_X11_size_0 1 rfl ?_
  refine aw_iconst (v := 1) d_X11_size_1 ic_1 ?_
  refine aw_bipush (v := 12) d_X11_size_2 ib_12 ?_
  refine aw_Si [.int x1, .int 1, .int 12] [] d_X11_size_4 (cS_X11_within (d + 0) 0 0) tw_543 rfl (rr0 (Nat.le_of_ble_eq_true rfl) (Nat.le_of_ble_eq_true rfl)) (Nat.le_of_ble_eq_true rfl) xs0 (s_X11_within _ _ x1 1 12) (fun _ _ kk => ?_)
  obtain ⟨e1, e2⟩ := kk
  rw [e1, e2]
  refine aw_ifb_ne (tgt := 12) d_X11_size_7 rfl (fun c3 => ?_) (fun c3 => ?_)
  · have k := k.1 c3
    refine aw_aload_n (i := 0) rfl d_X11_size_12 0 rfl ?_
    refine aw_getr (k0 := 13) kc_11 (ws_0 w) (Nat.le_of_ble_eq_true rfl) tw_500 d_X11_size_13 rfl (wr_0_13 w) ?_
    refine aw_iload_n (i := 1) rfl d_X11_size_16 1 rfl ?_
    refine aw_puti (k0 := 15) kc_5 (ws_21 w) (Nat.le_of_ble_eq_true rfl) tw_453 d_X11_size_17 rfl rfl nf_i ?_
    refine aw_iconst (v := 1) d_X11_size_20 ic_1 ?_
    exact aw_zret rfl rfl d_X11_size_21 ⟨Nat.le_refl _, Nat.le_refl _⟩ ⟨_, rfl, k⟩
  · have k := k.2 c3
    refine aw_iconst (v := 0) d_X11_size_10 ic_0 ?_
    exact aw_zret rfl rfl d_X11_size_11 ⟨Nat.le_refl _, Nat.le_refl _⟩ ⟨_, rfl, k⟩
theorem t_X11_count (d : Nat) (h : Hp_) (w : Wf h) (x1 : Int32) (K : Int32 → Hp_ → Prop) (k : (x1 = 0 → K (h_i h 0 0) h) ∧ ((x1 = 1 → K (h_i h 10 1) h) ∧ ((x1 = 2 → K (h_i h 0 7) h) ∧ ((x1 = 3 → K (h_i h 12 3) h) ∧ ((x1 = 4 → K (h_i h 16 7) h) ∧ ((x1 = 5 → K (h_i h 17 7) h) ∧ ((x1 = 6 → K (h_i h 17 8) h) ∧ ((x1 = 7 → K (h_i h 13 5) h) ∧ ((x1 = 8 → K (h_i h 17 16) h) ∧ ((¬ x1 = 0 ∧ ¬ x1 = 1 ∧ ¬ x1 = 2 ∧ ¬ x1 = 3 ∧ ¬ x1 = 4 ∧ ¬ x1 = 5 ∧ ¬ x1 = 6 ∧ ¬ x1 = 7 ∧ ¬ x1 = 8 → Ci (m_X11_countMore (d + 0) 0 0) [.ref 0, .int x1] h (fun r12 h10 => Wf h10 ∧ (K r12 h10))))))))))))) : Ci (m_X11_count (d + 1) 0 0) [.ref 0, .int x1] h K := by
  refine Ct.of (fun _ _ _ => trivial) rfl (Nat.le_of_ble_eq_true rfl) ?_
  show AW (m_X11_count (d + 1) 0 0) 0 0 0 [(0, .ref 0), (1, .int x1)] [] h (kI K)
  refine aw_iload_n (i := 1) rfl d_X11_count_0 1 rfl ?_
  by_cases e1 : x1 = 0
  · refine aw_tableIn (off := 51) (tgt := 52) d_X11_count_1 (by rw [e1]; decide) (by rw [e1]; decide) (by rw [e1]; decide) rfl ?_
    have k := k.1 e1
    refine aw_aload_n (i := 0) rfl d_X11_count_52 0 rfl ?_
    refine aw_geti (k0 := 0) kc_11 (ws_0 w) (Nat.le_of_ble_eq_true rfl) tw_487 d_X11_count_53 rfl ?_
    exact aw_iret rfl d_X11_count_56 ⟨Nat.le_refl _, Nat.le_refl _⟩ ⟨_, rfl, k⟩
  · have k := k.2
    by_cases e2 : x1 = 1
    · refine aw_tableIn (off := 56) (tgt := 57) d_X11_count_1 (by rw [e2]; decide) (by rw [e2]; decide) (by rw [e2]; decide) rfl ?_
      have k := k.1 e2
      refine aw_aload_n (i := 0) rfl d_X11_count_57 0 rfl ?_
      refine aw_getr (k0 := 1) kc_11 (ws_0 w) (Nat.le_of_ble_eq_true rfl) tw_488 d_X11_count_58 rfl (wr_0_1 w) ?_
      refine aw_geti (k0 := 1) kc_9 (ws_10 w) (Nat.le_of_ble_eq_true rfl) tw_45 d_X11_count_61 rfl ?_
      exact aw_iret rfl d_X11_count_64 ⟨Nat.le_refl _, Nat.le_refl _⟩ ⟨_, rfl, k⟩
    · have k := k.2
      by_cases e3 : x1 = 2
      · refine aw_tableIn (off := 64) (tgt := 65) d_X11_count_1 (by rw [e3]; decide) (by rw [e3]; decide) (by rw [e3]; decide) rfl ?_
        have k := k.1 e3
        refine aw_aload_n (i := 0) rfl d_X11_count_65 0 rfl ?_
        refine aw_geti (k0 := 7) kc_11 (ws_0 w) (Nat.le_of_ble_eq_true rfl) tw_494 d_X11_count_66 rfl ?_
        exact aw_iret rfl d_X11_count_69 ⟨Nat.le_refl _, Nat.le_refl _⟩ ⟨_, rfl, k⟩
      · have k := k.2
        by_cases e4 : x1 = 3
        · refine aw_tableIn (off := 69) (tgt := 70) d_X11_count_1 (by rw [e4]; decide) (by rw [e4]; decide) (by rw [e4]; decide) rfl ?_
          have k := k.1 e4
          refine aw_aload_n (i := 0) rfl d_X11_count_70 0 rfl ?_
          refine aw_getr (k0 := 3) kc_11 (ws_0 w) (Nat.le_of_ble_eq_true rfl) tw_490 d_X11_count_71 rfl (wr_0_3 w) ?_
          refine aw_geti (k0 := 3) kc_0 (ws_12 w) (Nat.le_of_ble_eq_true rfl) tw_108 d_X11_count_74 rfl ?_
          exact aw_iret rfl d_X11_count_77 ⟨Nat.le_refl _, Nat.le_refl _⟩ ⟨_, rfl, k⟩
        · have k := k.2
          by_cases e5 : x1 = 4
          · refine aw_tableIn (off := 77) (tgt := 78) d_X11_count_1 (by rw [e5]; decide) (by rw [e5]; decide) (by rw [e5]; decide) rfl ?_
            have k := k.1 e5
            refine aw_aload_n (i := 0) rfl d_X11_count_78 0 rfl ?_
            refine aw_getr (k0 := 8) kc_11 (ws_0 w) (Nat.le_of_ble_eq_true rfl) tw_495 d_X11_count_79 rfl (wr_0_8 w) ?_
            refine aw_geti (k0 := 7) kc_7 (ws_16 w) (Nat.le_of_ble_eq_true rfl) tw_160 d_X11_count_82 rfl ?_
            exact aw_iret rfl d_X11_count_85 ⟨Nat.le_refl _, Nat.le_refl _⟩ ⟨_, rfl, k⟩
          · have k := k.2
            by_cases e6 : x1 = 5
            · refine aw_tableIn (off := 85) (tgt := 86) d_X11_count_1 (by rw [e6]; decide) (by rw [e6]; decide) (by rw [e6]; decide) rfl ?_
              have k := k.1 e6
              refine aw_aload_n (i := 0) rfl d_X11_count_86 0 rfl ?_
              refine aw_getr (k0 := 9) kc_11 (ws_0 w) (Nat.le_of_ble_eq_true rfl) tw_496 d_X11_count_87 rfl (wr_0_9 w) ?_
              refine aw_geti (k0 := 7) kc_4 (ws_17 w) (Nat.le_of_ble_eq_true rfl) tw_204 d_X11_count_90 rfl ?_
              exact aw_iret rfl d_X11_count_93 ⟨Nat.le_refl _, Nat.le_refl _⟩ ⟨_, rfl, k⟩
            · have k := k.2
              by_cases e7 : x1 = 6
              · refine aw_tableIn (off := 93) (tgt := 94) d_X11_count_1 (by rw [e7]; decide) (by rw [e7]; decide) (by rw [e7]; decide) rfl ?_
                have k := k.1 e7
                refine aw_aload_n (i := 0) rfl d_X11_count_94 0 rfl ?_
                refine aw_getr (k0 := 9) kc_11 (ws_0 w) (Nat.le_of_ble_eq_true rfl) tw_496 d_X11_count_95 rfl (wr_0_9 w) ?_
                refine aw_geti (k0 := 8) kc_4 (ws_17 w) (Nat.le_of_ble_eq_true rfl) tw_206 d_X11_count_98 rfl ?_
                exact aw_iret rfl d_X11_count_101 ⟨Nat.le_refl _, Nat.le_refl _⟩ ⟨_, rfl, k⟩
              · have k := k.2
                by_cases e8 : x1 = 7
                · refine aw_tableIn (off := 101) (tgt := 102) d_X11_count_1 (by rw [e8]; decide) (by rw [e8]; decide) (by rw [e8]; decide) rfl ?_
                  have k := k.1 e8
                  refine aw_aload_n (i := 0) rfl d_X11_count_102 0 rfl ?_
                  refine aw_getr (k0 := 4) kc_11 (ws_0 w) (Nat.le_of_ble_eq_true rfl) tw_491 d_X11_count_103 rfl (wr_0_4 w) ?_
                  refine aw_geti (k0 := 5) kc_10 (ws_13 w) (Nat.le_of_ble_eq_true rfl) tw_130 d_X11_count_106 rfl ?_
                  exact aw_iret rfl d_X11_count_109 ⟨Nat.le_refl _, Nat.le_refl _⟩ ⟨_, rfl, k⟩
                · have k := k.2
                  by_cases e9 : x1 = 8
                  · refine aw_tableIn (off := 109) (tgt := 110) d_X11_count_1 (by rw [e9]; decide) (by rw [e9]; decide) (by rw [e9]; decide) rfl ?_
                    have k := k.1 e9
                    refine aw_aload_n (i := 0) rfl d_X11_count_110 0 rfl ?_
                    refine aw_getr (k0 := 9) kc_11 (ws_0 w) (Nat.le_of_ble_eq_true rfl) tw_496 d_X11_count_111 rfl (wr_0_9 w) ?_
                    refine aw_geti (k0 := 16) kc_4 (ws_17 w) (Nat.le_of_ble_eq_true rfl) tw_216 d_X11_count_114 rfl ?_
                    exact aw_iret rfl d_X11_count_117 ⟨Nat.le_refl _, Nat.le_refl _⟩ ⟨_, rfl, k⟩
                  · have k := k.2
                    have k := k ⟨e1, e2, e3, e4, e5, e6, e7, e8, e9⟩
                    have n13 := sw_ne (0) (by decide) e1
                    have n14 := sw_ne (1) (by decide) e2
                    have n15 := sw_ne (2) (by decide) e3
                    have n16 := sw_ne (3) (by decide) e4
                    have n17 := sw_ne (4) (by decide) e5
                    have n18 := sw_ne (5) (by decide) e6
                    have n19 := sw_ne (6) (by decide) e7
                    have n20 := sw_ne (7) (by decide) e8
                    have n21 := sw_ne (8) (by decide) e9
                    refine aw_tableOut (tgt := 118) d_X11_count_1 (by omega) rfl ?_
                    refine aw_aload_n (i := 0) rfl d_X11_count_118 0 rfl ?_
                    refine aw_iload_n (i := 1) rfl d_X11_count_119 1 rfl ?_
                    refine aw_Vi 0 [.int x1] [] d_X11_count_120 (cV_X11_countMore (d + 0) 0 0) kc_11 (ws_0 w) tw_1657 rfl (rr0 (Nat.le_of_ble_eq_true rfl) (Nat.le_of_ble_eq_true rfl)) (Nat.le_of_ble_eq_true rfl) xs0 k (fun r12 h10 kk => ?_)
                    obtain ⟨w11, k⟩ := kk
                    exact aw_iret rfl d_X11_count_123 ⟨Nat.le_refl _, Nat.le_refl _⟩ ⟨_, rfl, k⟩
theorem t_X0_looksAt (d : Nat) (h : Hp_) (w : Wf h) (x1 : Int32) (x2 : Int32) (x3 : Int32) (x4 : Int32) (K : Int32 → Hp_ → Prop) (k : Ci (m_X0_stepsOf (d + 1) 0 0) [.ref 12, .int x1] h (fun r3 h1 => Wf h1 ∧ (AW (m_X0_looksAt (d + 2) 0 0) 0 0 16 [(0, .ref 12), (1, .int x1), (2, .int x2), (3, .int x3), (4, .int x4), (5, .ref 10), (6, .int 0), (7, .int 0), (8, .int r3), (9, .int 0)] [] h1 (kI K)))) : Ci (m_X0_looksAt (d + 2) 0 0) [.ref 12, .int x1, .int x2, .int x3, .int x4, .ref 10] h K := by
  refine Ct.of (fun _ _ _ => trivial) rfl (Nat.le_of_ble_eq_true rfl) ?_
  show AW (m_X0_looksAt (d + 2) 0 0) 0 0 0 [(0, .ref 12), (1, .int x1), (2, .int x2), (3, .int x3), (4, .int x4), (5, .ref 10)] [] h (kI K)
  refine aw_iconst (v := 0) d_X0_looksAt_0 ic_0 ?_
  refine aw_istore [(0, .ref 12), (1, .int x1), (2, .int x2), (3, .int x3), (4, .int x4), (5, .ref 10), (6, .int 0)] d_X0_looksAt_1 (Nat.le_of_ble_eq_true rfl) rfl rfl ?_
  refine aw_iconst (v := 0) d_X0_looksAt_3 ic_0 ?_
  refine aw_istore [(0, .ref 12), (1, .int x1), (2, .int x2), (3, .int x3), (4, .int x4), (5, .ref 10), (6, .int 0), (7, .int 0)] d_X0_looksAt_4 (Nat.le_of_ble_eq_true rfl) rfl rfl ?_
  refine aw_aload_n (i := 0) rfl d_X0_looksAt_6 0 rfl ?_
  refine aw_iload_n (i := 1) rfl d_X0_looksAt_7 1 rfl ?_
  refine aw_Vi 12 [.int x1] [] d_X0_looksAt_8 (cV_X0_stepsOf (d + 1) 0 0) kc_0 (ws_12 w) tw_1431 rfl (rr0 (Nat.le_of_ble_eq_true rfl) (Nat.le_of_ble_eq_true rfl)) (Nat.le_of_ble_eq_true rfl) xs0 k (fun r3 h1 kk => ?_)
  obtain ⟨w2, k⟩ := kk
  refine aw_istore [(0, .ref 12), (1, .int x1), (2, .int x2), (3, .int x3), (4, .int x4), (5, .ref 10), (6, .int 0), (7, .int 0), (8, .int r3)] d_X0_looksAt_11 (Nat.le_of_ble_eq_true rfl) rfl rfl ?_
  refine aw_iconst (v := 0) d_X0_looksAt_13 ic_0 ?_
  refine aw_istore [(0, .ref 12), (1, .int x1), (2, .int x2), (3, .int x3), (4, .int x4), (5, .ref 10), (6, .int 0), (7, .int 0), (8, .int r3), (9, .int 0)] d_X0_looksAt_14 (Nat.le_of_ble_eq_true rfl) rfl rfl ?_
  exact k
theorem t_X0_looksAt_16 (d : Nat) (h : Hp_) (w : Wf h) (x1 : Int32) (x2 : Int32) (x3 : Int32) (x4 : Int32) (x6 : Int32) (x7 : Int32) (x8 : Int32) (x9 : Int32) (K : Int32 → Hp_ → Prop) (k : (x8 ≤ x9 → K 0 h) ∧ (¬ x8 ≤ x9 → Ci (m_X0_stepAt (d + 0) 0 0) [.ref 12, .int x1, .int x9] h (fun r7 h5 => Wf h5 ∧ (Ci (m_X0_kindOf (d + 0) 0 0) [.int r7] h5 (fun r10 h8 => Wf h8 ∧ ((¬ r10 = 3 → (¬ r10 = 1 → Ci (m_X0_placeOf (d + 0) 0 0) [.int r7] h8 (fun r15 h13 => Wf h13 ∧ (Ci (m_X9_minutes (d + 1) 0 0) [.ref 10, .int x7, .int r15] h13 (fun r18 h16 => Wf h16 ∧ ((r18 = (-1) → AW (m_X0_looksAt (d + 2) 0 0) 0 0 16 [(0, .ref 12), (1, .int x1), (2, .int x2), (3, .int x3), (4, .int x4), (5, .ref 10), (6, .int x6), (7, .int x7), (8, .int x8), (9, .int (x9 + 1))] [] h16 (kI K)) ∧ (¬ r18 = (-1) → Ci (m_X0_placeOf (d + 0) 0 0) [.int r7] h16 (fun r22 h20 => Wf h20 ∧ ((¬ r10 = 2 → AW (m_X0_looksAt (d + 2) 0 0) 0 0 16 [(0, .ref 12), (1, .int x1), (2, .int x2), (3, .int x3), (4, .int x4), (5, .ref 10), (6, .int (x6 + r18)), (7, .int r22), (8, .int x8), (9, .int (x9 + 1))] [] h20 (kI K)) ∧ (r10 = 2 → Ci (m_X0_amountOf (d + 0) 0 0) [.int r7] h20 (fun r26 h24 => Wf h24 ∧ (Ci (m_J9_max_7cf53 (d + 0) 0 0) [.int (x6 + r18), .int r26] h24 (fun r29 h27 => Wf h27 ∧ (AW (m_X0_looksAt (d + 2) 0 0) 0 0 16 [(0, .ref 12), (1, .int x1), (2, .int x2), (3, .int x3), (4, .int x4), (5, .ref 10), (6, .int r29), (7, .int r22), (8, .int x8), (9, .int (x9 + 1))] [] h27 (kI K)))))))))))))) ∧ (r10 = 1 → Ci (m_X0_amountOf (d + 0) 0 0) [.int r7] h8 (fun r32 h30 => Wf h30 ∧ (AW (m_X0_looksAt (d + 2) 0 0) 0 0 16 [(0, .ref 12), (1, .int x1), (2, .int x2), (3, .int x3), (4, .int x4), (5, .ref 10), (6, .int (x6 + r32)), (7, .int x7), (8, .int x8), (9, .int (x9 + 1))] [] h30 (kI K))))) ∧ (r10 = 3 → (¬ x7 = x2 → AW (m_X0_looksAt (d + 2) 0 0) 0 0 16 [(0, .ref 12), (1, .int x1), (2, .int x2), (3, .int x3), (4, .int x4), (5, .ref 10), (6, .int (x6 + 1)), (7, .int x7), (8, .int x8), (9, .int (x9 + 1))] [] h8 (kI K)) ∧ (x7 = x2 → (¬ (x3 ≤ (x6 + 1) ∧ (x6 + 1) ≤ x4) → AW (m_X0_looksAt (d + 2) 0 0) 0 0 16 [(0, .ref 12), (1, .int x1), (2, .int x2), (3, .int x3), (4, .int x4), (5, .ref 10), (6, .int (x6 + 1)), (7, .int x7), (8, .int x8), (9, .int (x9 + 1))] [] h8 (kI K)) ∧ ((x3 ≤ (x6 + 1) ∧ (x6 + 1) ≤ x4) → K 1 h8))))))))) : AW (m_X0_looksAt (d + 2) 0 0) 0 0 16 [(0, .ref 12), (1, .int x1), (2, .int x2), (3, .int x3), (4, .int x4), (5, .ref 10), (6, .int x6), (7, .int x7), (8, .int x8), (9, .int x9)] [] h (kI K) := by
  refine aw_iload d_X0_looksAt_16 9 rfl ?_
  refine aw_iload d_X0_looksAt_18 8 rfl ?_
  refine aw_icmp_ge (tgt := 149) d_X0_looksAt_20 rfl (fun c4 => ?_) (fun c4 => ?_)
  · have k := k.1 c4
    refine aw_iconst (v := 0) d_X0_looksAt_149 ic_0 ?_
    exact aw_zret rfl rfl d_X0_looksAt_150 ⟨Nat.le_refl _, Nat.le_refl _⟩ ⟨_, rfl, k⟩
  · have k := k.2 c4
    refine aw_aload_n (i := 0) rfl d_X0_looksAt_23 0 rfl ?_
    refine aw_iload_n (i := 1) rfl d_X0_looksAt_24 1 rfl ?_
    refine aw_iload d_X0_looksAt_25 9 rfl ?_
    refine aw_Vi 12 [.int x1, .int x9] [] d_X0_looksAt_27 (cV_X0_stepAt (d + 0) 0 0) kc_0 (ws_12 w) tw_1432 rfl (rr0 (Nat.le_of_ble_eq_true rfl) (Nat.le_of_ble_eq_true rfl)) (Nat.le_of_ble_eq_true rfl) xs0 k (fun r7 h5 kk => ?_)
    obtain ⟨w6, k⟩ := kk
    refine aw_istore [(0, .ref 12), (1, .int x1), (2, .int x2), (3, .int x3), (4, .int x4), (5, .ref 10), (6, .int x6), (7, .int x7), (8, .int x8), (9, .int x9), (10, .int r7)] d_X0_looksAt_30 (Nat.le_of_ble_eq_true rfl) rfl rfl ?_
    refine aw_iload d_X0_looksAt_32 10 rfl ?_
    refine aw_Si [.int r7] [] d_X0_looksAt_34 (cS_X0_kindOf (d + 0) 0 0) tw_880 rfl (rr0 (Nat.le_of_ble_eq_true rfl) (Nat.le_of_ble_eq_true rfl)) (Nat.le_of_ble_eq_true rfl) xs0 k (fun r10 h8 kk => ?_)
    obtain ⟨w9, k⟩ := kk
    refine aw_istore [(0, .ref 12), (1, .int x1), (2, .int x2), (3, .int x3), (4, .int x4), (5, .ref 10), (6, .int x6), (7, .int x7), (8, .int x8), (9, .int x9), (10, .int r7), (11, .int r10)] d_X0_looksAt_37 (Nat.le_of_ble_eq_true rfl) rfl rfl ?_
    refine aw_iload d_X0_looksAt_39 11 rfl ?_
    refine aw_iconst (v := 3) d_X0_looksAt_41 ic_3 ?_
    refine aw_icmp_ne (tgt := 67) d_X0_looksAt_42 rfl (fun c11 => ?_) (fun c11 => ?_)
    · have k := k.1 c11
      refine aw_iload d_X0_looksAt_67 11 rfl ?_
      refine aw_iconst (v := 1) d_X0_looksAt_69 ic_1 ?_
      refine aw_icmp_ne (tgt := 86) d_X0_looksAt_70 rfl (fun c12 => ?_) (fun c12 => ?_)
      · have k := k.1 c12
        refine aw_aload d_X0_looksAt_86 5 rfl ?_
        refine aw_iload d_X0_looksAt_88 7 rfl ?_
        refine aw_iload d_X0_looksAt_90 10 rfl ?_
        refine aw_Si [.int r7] [.int x7, .ref 10] d_X0_looksAt_92 (cS_X0_placeOf (d + 0) 0 0) tw_1435 rfl (rr0 (Nat.le_of_ble_eq_true rfl) (Nat.le_of_ble_eq_true rfl)) (Nat.le_of_ble_eq_true rfl) xs0 k (fun r15 h13 kk => ?_)
        obtain ⟨w14, k⟩ := kk
        refine aw_Vi 10 [.int x7, .int r15] [] d_X0_looksAt_95 (cV_X9_minutes (d + 1) 0 0) kc_9 (ws_10 w14) tw_1436 rfl (rr0 (Nat.le_of_ble_eq_true rfl) (Nat.le_of_ble_eq_true rfl)) (Nat.le_of_ble_eq_true rfl) xs0 k (fun r18 h16 kk => ?_)
        obtain ⟨w17, k⟩ := kk
        refine aw_istore [(0, .ref 12), (1, .int x1), (2, .int x2), (3, .int x3), (4, .int x4), (5, .ref 10), (6, .int x6), (7, .int x7), (8, .int x8), (9, .int x9), (10, .int r7), (11, .int r10), (12, .int r18)] d_X0_looksAt_98 (Nat.le_of_ble_eq_true rfl) rfl rfl ?_
        refine aw_iload d_X0_looksAt_100 12 rfl ?_
        refine aw_iconst (v := (-1)) d_X0_looksAt_102 ic_m1 ?_
        refine aw_icmp_eq (tgt := 143) d_X0_looksAt_103 rfl (fun c19 => ?_) (fun c19 => ?_)
        · have k := k.1 c19
          refine aw_iinc (v := (x9 + 1)) [(0, .ref 12), (1, .int x1), (2, .int x2), (3, .int x3), (4, .int x4), (5, .ref 10), (6, .int x6), (7, .int x7), (8, .int x8), (9, .int (x9 + 1)), (10, .int r7), (11, .int r10), (12, .int r18)] d_X0_looksAt_143 9 rfl rfl (Nat.le_of_ble_eq_true rfl) rfl rfl ?_
          refine aw_goto (tgt := 16) d_X0_looksAt_146 rfl ?_
          exact aw_lvp [0, 1, 2, 3, 4, 5, 6, 7, 8, 9] [(0, .ref 12), (1, .int x1), (2, .int x2), (3, .int x3), (4, .int x4), (5, .ref 10), (6, .int x6), (7, .int x7), (8, .int x8), (9, .int (x9 + 1))] rfl k
        · have k := k.2 c19
          refine aw_iload d_X0_looksAt_106 10 rfl ?_
          refine aw_Si [.int r7] [] d_X0_looksAt_108 (cS_X0_placeOf (d + 0) 0 0) tw_1435 rfl (rr0 (Nat.le_of_ble_eq_true rfl) (Nat.le_of_ble_eq_true rfl)) (Nat.le_of_ble_eq_true rfl) xs0 k (fun r22 h20 kk => ?_)
          obtain ⟨w21, k⟩ := kk
          refine aw_istore [(0, .ref 12), (1, .int x1), (2, .int x2), (3, .int x3), (4, .int x4), (5, .ref 10), (6, .int x6), (7, .int r22), (8, .int x8), (9, .int x9), (10, .int r7), (11, .int r10), (12, .int r18)] d_X0_looksAt_111 (Nat.le_of_ble_eq_true rfl) rfl rfl ?_
          refine aw_iload d_X0_looksAt_113 6 rfl ?_
          refine aw_iload d_X0_looksAt_115 12 rfl ?_
          refine aw_iadd d_X0_looksAt_117 ?_
          refine aw_istore [(0, .ref 12), (1, .int x1), (2, .int x2), (3, .int x3), (4, .int x4), (5, .ref 10), (6, .int (x6 + r18)), (7, .int r22), (8, .int x8), (9, .int x9), (10, .int r7), (11, .int r10), (12, .int r18)] d_X0_looksAt_118 (Nat.le_of_ble_eq_true rfl) rfl rfl ?_
          refine aw_iload d_X0_looksAt_120 11 rfl ?_
          refine aw_iconst (v := 2) d_X0_looksAt_122 ic_2 ?_
          refine aw_icmp_ne (tgt := 139) d_X0_looksAt_123 rfl (fun c23 => ?_) (fun c23 => ?_)
          · have k := k.1 c23
            refine aw_iload d_X0_looksAt_139 6 rfl ?_
            refine aw_istore [(0, .ref 12), (1, .int x1), (2, .int x2), (3, .int x3), (4, .int x4), (5, .ref 10), (6, .int (x6 + r18)), (7, .int r22), (8, .int x8), (9, .int x9), (10, .int r7), (11, .int r10), (12, .int r18)] d_X0_looksAt_141 (Nat.le_of_ble_eq_true rfl) rfl rfl ?_
            refine aw_iinc (v := (x9 + 1)) [(0, .ref 12), (1, .int x1), (2, .int x2), (3, .int x3), (4, .int x4), (5, .ref 10), (6, .int (x6 + r18)), (7, .int r22), (8, .int x8), (9, .int (x9 + 1)), (10, .int r7), (11, .int r10), (12, .int r18)] d_X0_looksAt_143 9 rfl rfl (Nat.le_of_ble_eq_true rfl) rfl rfl ?_
            refine aw_goto (tgt := 16) d_X0_looksAt_146 rfl ?_
            exact aw_lvp [0, 1, 2, 3, 4, 5, 6, 7, 8, 9] [(0, .ref 12), (1, .int x1), (2, .int x2), (3, .int x3), (4, .int x4), (5, .ref 10), (6, .int (x6 + r18)), (7, .int r22), (8, .int x8), (9, .int (x9 + 1))] rfl k
          · have k := k.2 c23
            refine aw_iload d_X0_looksAt_126 6 rfl ?_
            refine aw_iload d_X0_looksAt_128 10 rfl ?_
            refine aw_Si [.int r7] [.int (x6 + r18)] d_X0_looksAt_130 (cS_X0_amountOf (d + 0) 0 0) tw_1434 rfl (rr0 (Nat.le_of_ble_eq_true rfl) (Nat.le_of_ble_eq_true rfl)) (Nat.le_of_ble_eq_true rfl) xs0 k (fun r26 h24 kk => ?_)
            obtain ⟨w25, k⟩ := kk
            refine aw_Si [.int (x6 + r18), .int r26] [] d_X0_looksAt_133 (cS_J9_max_7cf53 (d + 0) 0 0) tw_1437 rfl (rr0 (Nat.le_of_ble_eq_true rfl) (Nat.le_of_ble_eq_true rfl)) (Nat.le_of_ble_eq_true rfl) xs0 k (fun r29 h27 kk => ?_)
            obtain ⟨w28, k⟩ := kk
            refine aw_goto (tgt := 141) d_X0_looksAt_136 rfl ?_
            refine aw_istore [(0, .ref 12), (1, .int x1), (2, .int x2), (3, .int x3), (4, .int x4), (5, .ref 10), (6, .int r29), (7, .int r22), (8, .int x8), (9, .int x9), (10, .int r7), (11, .int r10), (12, .int r18)] d_X0_looksAt_141 (Nat.le_of_ble_eq_true rfl) rfl rfl ?_
            refine aw_iinc (v := (x9 + 1)) [(0, .ref 12), (1, .int x1), (2, .int x2), (3, .int x3), (4, .int x4), (5, .ref 10), (6, .int r29), (7, .int r22), (8, .int x8), (9, .int (x9 + 1)), (10, .int r7), (11, .int r10), (12, .int r18)] d_X0_looksAt_143 9 rfl rfl (Nat.le_of_ble_eq_true rfl) rfl rfl ?_
            refine aw_goto (tgt := 16) d_X0_looksAt_146 rfl ?_
            exact aw_lvp [0, 1, 2, 3, 4, 5, 6, 7, 8, 9] [(0, .ref 12), (1, .int x1), (2, .int x2), (3, .int x3), (4, .int x4), (5, .ref 10), (6, .int r29), (7, .int r22), (8, .int x8), (9, .int (x9 + 1))] rfl k
      · have k := k.2 c12
        refine aw_iload d_X0_looksAt_73 6 rfl ?_
        refine aw_iload d_X0_looksAt_75 10 rfl ?_
        refine aw_Si [.int r7] [.int x6] d_X0_looksAt_77 (cS_X0_amountOf (d + 0) 0 0) tw_1434 rfl (rr0 (Nat.le_of_ble_eq_true rfl) (Nat.le_of_ble_eq_true rfl)) (Nat.le_of_ble_eq_true rfl) xs0 k (fun r32 h30 kk => ?_)
        obtain ⟨w31, k⟩ := kk
        refine aw_iadd d_X0_looksAt_80 ?_
        refine aw_istore [(0, .ref 12), (1, .int x1), (2, .int x2), (3, .int x3), (4, .int x4), (5, .ref 10), (6, .int (x6 + r32)), (7, .int x7), (8, .int x8), (9, .int x9), (10, .int r7), (11, .int r10)] d_X0_looksAt_81 (Nat.le_of_ble_eq_true rfl) rfl rfl ?_
        refine aw_goto (tgt := 143) d_X0_looksAt_83 rfl ?_
        refine aw_iinc (v := (x9 + 1)) [(0, .ref 12), (1, .int x1), (2, .int x2), (3, .int x3), (4, .int x4), (5, .ref 10), (6, .int (x6 + r32)), (7, .int x7), (8, .int x8), (9, .int (x9 + 1)), (10, .int r7), (11, .int r10)] d_X0_looksAt_143 9 rfl rfl (Nat.le_of_ble_eq_true rfl) rfl rfl ?_
        refine aw_goto (tgt := 16) d_X0_looksAt_146 rfl ?_
        exact aw_lvp [0, 1, 2, 3, 4, 5, 6, 7, 8, 9] [(0, .ref 12), (1, .int x1), (2, .int x2), (3, .int x3), (4, .int x4), (5, .ref 10), (6, .int (x6 + r32)), (7, .int x7), (8, .int x8), (9, .int (x9 + 1))] rfl k
    · have k := k.2 c11
      refine aw_iinc (v := (x6 + 1)) [(0, .ref 12), (1, .int x1), (2, .int x2), (3, .int x3), (4, .int x4), (5, .ref 10), (6, .int (x6 + 1)), (7, .int x7), (8, .int x8), (9, .int x9), (10, .int r7), (11, .int r10)] d_X0_looksAt_45 6 rfl rfl (Nat.le_of_ble_eq_true rfl) rfl rfl ?_
      refine aw_iload d_X0_looksAt_48 7 rfl ?_
      refine aw_iload_n (i := 2) rfl d_X0_looksAt_50 2 rfl ?_
      refine aw_icmp_ne (tgt := 143) d_X0_looksAt_51 rfl (fun c33 => ?_) (fun c33 => ?_)
      · have k := k.1 c33
        refine aw_iinc (v := (x9 + 1)) [(0, .ref 12), (1, .int x1), (2, .int x2), (3, .int x3), (4, .int x4), (5, .ref 10), (6, .int (x6 + 1)), (7, .int x7), (8, .int x8), (9, .int (x9 + 1)), (10, .int r7), (11, .int r10)] d_X0_looksAt_143 9 rfl rfl (Nat.le_of_ble_eq_true rfl) rfl rfl ?_
        refine aw_goto (tgt := 16) d_X0_looksAt_146 rfl ?_
        exact aw_lvp [0, 1, 2, 3, 4, 5, 6, 7, 8, 9] [(0, .ref 12), (1, .int x1), (2, .int x2), (3, .int x3), (4, .int x4), (5, .ref 10), (6, .int (x6 + 1)), (7, .int x7), (8, .int x8), (9, .int (x9 + 1))] rfl k
      · have k := k.2 c33
        refine aw_iload d_X0_looksAt_54 6 rfl ?_
        refine aw_iload_n (i := 3) rfl d_X0_looksAt_56 3 rfl ?_
        refine aw_iload d_X0_looksAt_57 4 rfl ?_
        refine aw_SNi [.int (x6 + 1), .int x3, .int x4] [] d_X0_looksAt_59 (cS_X11_within (d + 0) 0 0) (List.mem_of_getElem? (i := 13) rfl) rfl (rr0 (Nat.le_of_ble_eq_true rfl) (Nat.le_of_ble_eq_true rfl)) (Nat.le_of_ble_eq_true rfl) xs0 (s_X11_within _ _ (x6 + 1) x3 x4) (fun _ _ kk => ?_)
        obtain ⟨e34, e35⟩ := kk
        rw [e34, e35]
        refine aw_ifb_eq (tgt := 143) d_X0_looksAt_62 rfl (fun c36 => ?_) (fun c36 => ?_)
        · have k := k.1 c36
          refine aw_iinc (v := (x9 + 1)) [(0, .ref 12), (1, .int x1), (2, .int x2), (3, .int x3), (4, .int x4), (5, .ref 10), (6, .int (x6 + 1)), (7, .int x7), (8, .int x8), (9, .int (x9 + 1)), (10, .int r7), (11, .int r10)] d_X0_looksAt_143 9 rfl rfl (Nat.le_of_ble_eq_true rfl) rfl rfl ?_
          refine aw_goto (tgt := 16) d_X0_looksAt_146 rfl ?_
          exact aw_lvp [0, 1, 2, 3, 4, 5, 6, 7, 8, 9] [(0, .ref 12), (1, .int x1), (2, .int x2), (3, .int x3), (4, .int x4), (5, .ref 10), (6, .int (x6 + 1)), (7, .int x7), (8, .int x8), (9, .int (x9 + 1))] rfl k
        · have k := k.2 c36
          refine aw_iconst (v := 1) d_X0_looksAt_65 ic_1 ?_
          exact aw_zret rfl rfl d_X0_looksAt_66 ⟨Nat.le_refl _, Nat.le_refl _⟩ ⟨_, rfl, k⟩
theorem t_X1_factsThatAre (d : Nat) (h : Hp_) (x1 : Int32) (K : Int32 → Hp_ → Prop) (k : AW (m_X1_factsThatAre (d + 2) 0 0) 0 0 4 [(0, .ref 18), (1, .int x1), (2, .int 0), (3, .int 0)] [] h (kI K)) : Ci (m_X1_factsThatAre (d + 2) 0 0) [.ref 18, .int x1] h K := by
  refine Ct.of (fun _ _ _ => trivial) rfl (Nat.le_of_ble_eq_true rfl) ?_
  show AW (m_X1_factsThatAre (d + 2) 0 0) 0 0 0 [(0, .ref 18), (1, .int x1)] [] h (kI K)
  refine aw_iconst (v := 0) d_X1_factsThatAre_0 ic_0 ?_
  refine aw_istore_n (i := 2) rfl [(0, .ref 18), (1, .int x1), (2, .int 0)] d_X1_factsThatAre_1 (Nat.le_of_ble_eq_true rfl) rfl rfl ?_
  refine aw_iconst (v := 0) d_X1_factsThatAre_2 ic_0 ?_
  refine aw_istore_n (i := 3) rfl [(0, .ref 18), (1, .int x1), (2, .int 0), (3, .int 0)] d_X1_factsThatAre_3 (Nat.le_of_ble_eq_true rfl) rfl rfl ?_
  exact k
theorem t_X1_factsThatAre_4 (d : Nat) (h : Hp_) (w : Wf h) (x1 : Int32) (x2 : Int32) (x3 : Int32) (K : Int32 → Hp_ → Prop) (k : (8 ≤ x3 → K x2 h) ∧ (¬ 8 ≤ x3 → Ci (m_X1_verdictOn (d + 1) 0 0) [.ref 18, .int x3] h (fun r4 h2 => Wf h2 ∧ ((¬ r4 = x1 → AW (m_X1_factsThatAre (d + 2) 0 0) 0 0 4 [(0, .ref 18), (1, .int x1), (2, .int x2), (3, .int (x3 + 1))] [] h2 (kI K)) ∧ (r4 = x1 → AW (m_X1_factsThatAre (d + 2) 0 0) 0 0 4 [(0, .ref 18), (1, .int x1), (2, .int (x2 ||| ((1 : Int32) <<< (x3 &&& 31)))), (3, .int (x3 + 1))] [] h2 (kI K)))))) : AW (m_X1_factsThatAre (d + 2) 0 0) 0 0 4 [(0, .ref 18), (1, .int x1), (2, .int x2), (3, .int x3)] [] h (kI K) := by
  refine aw_iload_n (i := 3) rfl d_X1_factsThatAre_4 3 rfl ?_
  refine aw_bipush (v := 8) d_X1_factsThatAre_5 ib_8 ?_
  refine aw_icmp_ge (tgt := 31) d_X1_factsThatAre_7 rfl (fun c1 => ?_) (fun c1 => ?_)
  · have k := k.1 c1
    refine aw_iload_n (i := 2) rfl d_X1_factsThatAre_31 2 rfl ?_
    exact aw_iret rfl d_X1_factsThatAre_32 ⟨Nat.le_refl _, Nat.le_refl _⟩ ⟨_, rfl, k⟩
  · have k := k.2 c1
    refine aw_aload_n (i := 0) rfl d_X1_factsThatAre_10 0 rfl ?_
    refine aw_iload_n (i := 3) rfl d_X1_factsThatAre_11 3 rfl ?_
    refine aw_Vi 18 [.int x3] [] d_X1_factsThatAre_12 (cV_X1_verdictOn (d + 1) 0 0) kc_1 (ws_18 w) tw_1261 rfl (rr0 (Nat.le_of_ble_eq_true rfl) (Nat.le_of_ble_eq_true rfl)) (Nat.le_of_ble_eq_true rfl) xs0 k (fun r4 h2 kk => ?_)
    obtain ⟨w3, k⟩ := kk
    refine aw_iload_n (i := 1) rfl d_X1_factsThatAre_15 1 rfl ?_
    refine aw_icmp_ne (tgt := 25) d_X1_factsThatAre_16 rfl (fun c5 => ?_) (fun c5 => ?_)
    · have k := k.1 c5
      refine aw_iinc (v := (x3 + 1)) [(0, .ref 18), (1, .int x1), (2, .int x2), (3, .int (x3 + 1))] d_X1_factsThatAre_25 3 rfl rfl (Nat.le_of_ble_eq_true rfl) rfl rfl ?_
      refine aw_goto (tgt := 4) d_X1_factsThatAre_28 rfl ?_
      exact k
    · have k := k.2 c5
      refine aw_iload_n (i := 2) rfl d_X1_factsThatAre_19 2 rfl ?_
      refine aw_iconst (v := 1) d_X1_factsThatAre_20 ic_1 ?_
      refine aw_iload_n (i := 3) rfl d_X1_factsThatAre_21 3 rfl ?_
      refine aw_ishl d_X1_factsThatAre_22 ?_
      refine aw_ior d_X1_factsThatAre_23 ?_
      refine aw_istore_n (i := 2) rfl [(0, .ref 18), (1, .int x1), (2, .int (x2 ||| ((1 : Int32) <<< (x3 &&& 31)))), (3, .int x3)] d_X1_factsThatAre_24 (Nat.le_of_ble_eq_true rfl) rfl rfl ?_
      refine aw_iinc (v := (x3 + 1)) [(0, .ref 18), (1, .int x1), (2, .int (x2 ||| ((1 : Int32) <<< (x3 &&& 31)))), (3, .int (x3 + 1))] d_X1_factsThatAre_25 3 rfl rfl (Nat.le_of_ble_eq_true rfl) rfl rfl ?_
      refine aw_goto (tgt := 4) d_X1_factsThatAre_28 rfl ?_
      exact k
theorem t_X3_fillChoices (d : Nat) (h : Hp_)  (K : Hp_ → Prop) (k : AW (m_X3_fillChoices (d + 2) 0 0) 0 0 2 [(0, .ref 19), (1, .int 0)] [] h (kV K)) : Cv (m_X3_fillChoices (d + 2) 0 0) [.ref 19] h K := by
  refine Ct.of (fun _ _ _ => trivial) rfl (Nat.le_of_ble_eq_true rfl) ?_
  show AW (m_X3_fillChoices (d + 2) 0 0) 0 0 0 [(0, .ref 19)] [] h (kV K)
  refine aw_iconst (v := 0) d_X3_fillChoices_0 ic_0 ?_
  refine aw_istore_n (i := 1) rfl [(0, .ref 19), (1, .int 0)] d_X3_fillChoices_1 (Nat.le_of_ble_eq_true rfl) rfl rfl ?_
  exact k
theorem t_X3_fillChoices_2 (d : Nat) (h : Hp_) (w : Wf h) (x1 : Int32) (K : Hp_ → Prop) (k : (2304 ≤ x1 → Cv (m_J7_fill_53178 (d + 0) 0 0) [.ref 90, .int 0] h (fun h2 => Wf h2 ∧ (vp_in 0 2304 ∧ (AW (m_X3_fillChoices (d + 2) 0 0) 0 0 48 [(0, .ref 19), (1, .int ((1 : Int32) <<< ((h_i h2 19 3) &&& 31))), (2, .int 0)] [] (h_im h2 89 (0 : Int32).toNatClampNeg (vp_nar .boolean 1)) (kV K))))) ∧ (¬ 2304 ≤ x1 → vp_in x1 2304 ∧ (AW (m_X3_fillChoices (d + 2) 0 0) 0 0 2 [(0, .ref 19), (1, .int (x1 + 1))] [] (h_im h 89 x1.toNatClampNeg (vp_nar .boolean 0)) (kV K)))) : AW (m_X3_fillChoices (d + 2) 0 0) 0 0 2 [(0, .ref 19), (1, .int x1)] [] h (kV K) := by
  refine aw_iload_n (i := 1) rfl d_X3_fillChoices_2 1 rfl ?_
  refine aw_aload_n (i := 0) rfl d_X3_fillChoices_3 0 rfl ?_
  refine aw_getr (k0 := 8) kc_3 (ws_19 w) (Nat.le_of_ble_eq_true rfl) tw_331 d_X3_fillChoices_4 rfl (wr_19_8 w) ?_
  refine aw_alen (v := 2304) (ws_89 w) (Nat.le_of_ble_eq_true rfl) rfl d_X3_fillChoices_7 ?_
  refine aw_icmp_ge (tgt := 24) d_X3_fillChoices_8 rfl (fun c1 => ?_) (fun c1 => ?_)
  · have k := k.1 c1
    refine aw_aload_n (i := 0) rfl d_X3_fillChoices_24 0 rfl ?_
    refine aw_getr (k0 := 9) kc_3 (ws_19 w) (Nat.le_of_ble_eq_true rfl) tw_332 d_X3_fillChoices_25 rfl (wr_19_9 w) ?_
    refine aw_iconst (v := 0) d_X3_fillChoices_28 ic_0 ?_
    refine aw_Sv [.ref 90, .int 0] [] d_X3_fillChoices_29 (cS_J7_fill_53178 (d + 0) 0 0) tw_1354 rfl (rr0 (Nat.le_of_ble_eq_true rfl) (Nat.le_of_ble_eq_true rfl)) (Nat.le_of_ble_eq_true rfl) xs0 k (fun h2 kk => ?_)
    obtain ⟨w3, k⟩ := kk
    refine aw_aload_n (i := 0) rfl d_X3_fillChoices_32 0 rfl ?_
    refine aw_getr (k0 := 8) kc_3 (ws_19 w3) (Nat.le_of_ble_eq_true rfl) tw_331 d_X3_fillChoices_33 rfl (wr_19_8 w3) ?_
    refine aw_iconst (v := 0) d_X3_fillChoices_36 ic_0 ?_
    refine aw_iconst (v := 1) d_X3_fillChoices_37 ic_1 ?_
    obtain ⟨b5, k⟩ := k
    refine aw_zast (ws_89 w3) b5 d_X3_fillChoices_38 ?_
    refine aw_iconst (v := 1) d_X3_fillChoices_39 ic_1 ?_
    refine aw_aload_n (i := 0) rfl d_X3_fillChoices_40 0 rfl ?_
    refine aw_geti (k0 := 3) kc_3 (ws_19 w3) (Nat.le_of_ble_eq_true rfl) tw_325 d_X3_fillChoices_41 rfl ?_
    refine aw_vi (v2 := (h_i h2 19 3)) (rfl) ?_
    refine aw_ishl d_X3_fillChoices_44 ?_
    refine aw_istore_n (i := 1) rfl [(0, .ref 19), (1, .int ((1 : Int32) <<< ((h_i h2 19 3) &&& 31)))] d_X3_fillChoices_45 (Nat.le_of_ble_eq_true rfl) rfl rfl ?_
    refine aw_iconst (v := 0) d_X3_fillChoices_46 ic_0 ?_
    refine aw_istore_n (i := 2) rfl [(0, .ref 19), (1, .int ((1 : Int32) <<< ((h_i h2 19 3) &&& 31))), (2, .int 0)] d_X3_fillChoices_47 (Nat.le_of_ble_eq_true rfl) rfl rfl ?_
    exact k
  · have k := k.2 c1
    refine aw_aload_n (i := 0) rfl d_X3_fillChoices_11 0 rfl ?_
    refine aw_getr (k0 := 8) kc_3 (ws_19 w) (Nat.le_of_ble_eq_true rfl) tw_331 d_X3_fillChoices_12 rfl (wr_19_8 w) ?_
    refine aw_iload_n (i := 1) rfl d_X3_fillChoices_15 1 rfl ?_
    refine aw_iconst (v := 0) d_X3_fillChoices_16 ic_0 ?_
    obtain ⟨b6, k⟩ := k
    refine aw_zast (ws_89 w) b6 d_X3_fillChoices_17 ?_
    refine aw_iinc (v := (x1 + 1)) [(0, .ref 19), (1, .int (x1 + 1))] d_X3_fillChoices_18 1 rfl rfl (Nat.le_of_ble_eq_true rfl) rfl rfl ?_
    refine aw_goto (tgt := 2) d_X3_fillChoices_21 rfl ?_
    exact k
theorem t_X3_fillChoices_48 (d : Nat) (h : Hp_) (w : Wf h) (x1 : Int32) (x2 : Int32) (K : Hp_ → Prop) (k : ((h_i h 19 2) ≤ x2 → K h) ∧ (¬ (h_i h 19 2) ≤ x2 → AW (m_X3_fillChoices (d + 2) 0 0) 0 0 58 [(0, .ref 19), (1, .int x1), (2, .int x2), (3, .int 0)] [] h (kV K))) : AW (m_X3_fillChoices (d + 2) 0 0) 0 0 48 [(0, .ref 19), (1, .int x1), (2, .int x2)] [] h (kV K) := by
  refine aw_iload_n (i := 2) rfl d_X3_fillChoices_48 2 rfl ?_
  refine aw_aload_n (i := 0) rfl d_X3_fillChoices_49 0 rfl ?_
  refine aw_geti (k0 := 2) kc_3 (ws_19 w) (Nat.le_of_ble_eq_true rfl) tw_323 d_X3_fillChoices_50 rfl ?_
  refine aw_icmp_ge (tgt := 96) d_X3_fillChoices_53 rfl (fun c7 => ?_) (fun c7 => ?_)
  · have k := k.1 c7
    exact aw_vret rfl d_X3_fillChoices_96 ⟨Nat.le_refl _, Nat.le_refl _⟩ ⟨rfl, k⟩
  · have k := k.2 c7
    refine aw_iconst (v := 0) d_X3_fillChoices_56 ic_0 ?_
    refine aw_istore_n (i := 3) rfl [(0, .ref 19), (1, .int x1), (2, .int x2), (3, .int 0)] d_X3_fillChoices_57 (Nat.le_of_ble_eq_true rfl) rfl rfl ?_
    exact k
theorem t_X3_fillChoices_58 (d : Nat) (h : Hp_) (w : Wf h) (x1 : Int32) (x2 : Int32) (x3 : Int32) (K : Hp_ → Prop) (k : (x1 ≤ x3 → AW (m_X3_fillChoices (d + 2) 0 0) 0 0 48 [(0, .ref 19), (1, .int x1), (2, .int (x2 + 1))] [] h (kV K)) ∧ (¬ x1 ≤ x3 → vp_in ((x2 * 256) + x3) 2304 ∧ (((h_i h 89 (((x2 * 256) + x3) : Int32).toNatClampNeg) = 0 → AW (m_X3_fillChoices (d + 2) 0 0) 0 0 58 [(0, .ref 19), (1, .int x1), (2, .int x2), (3, .int (x3 + 1))] [] h (kV K)) ∧ (¬ (h_i h 89 (((x2 * 256) + x3) : Int32).toNatClampNeg) = 0 → Cv (m_X3_spreadFrom (d + 1) 0 0) [.ref 19, .int x2, .int x3] h (fun h11 => Wf h11 ∧ (AW (m_X3_fillChoices (d + 2) 0 0) 0 0 58 [(0, .ref 19), (1, .int x1), (2, .int x2), (3, .int (x3 + 1))] [] h11 (kV K))))))) : AW (m_X3_fillChoices (d + 2) 0 0) 0 0 58 [(0, .ref 19), (1, .int x1), (2, .int x2), (3, .int x3)] [] h (kV K) := by
  refine aw_iload_n (i := 3) rfl d_X3_fillChoices_58 3 rfl ?_
  refine aw_iload_n (i := 1) rfl d_X3_fillChoices_59 1 rfl ?_
  refine aw_icmp_ge (tgt := 90) d_X3_fillChoices_60 rfl (fun c8 => ?_) (fun c8 => ?_)
  · have k := k.1 c8
    refine aw_iinc (v := (x2 + 1)) [(0, .ref 19), (1, .int x1), (2, .int (x2 + 1)), (3, .int x3)] d_X3_fillChoices_90 2 rfl rfl (Nat.le_of_ble_eq_true rfl) rfl rfl ?_
    refine aw_goto (tgt := 48) d_X3_fillChoices_93 rfl ?_
    exact aw_lvp [0, 1, 2] [(0, .ref 19), (1, .int x1), (2, .int (x2 + 1))] rfl k
  · have k := k.2 c8
    refine aw_aload_n (i := 0) rfl d_X3_fillChoices_63 0 rfl ?_
    refine aw_getr (k0 := 8) kc_3 (ws_19 w) (Nat.le_of_ble_eq_true rfl) tw_331 d_X3_fillChoices_64 rfl (wr_19_8 w) ?_
    refine aw_iload_n (i := 2) rfl d_X3_fillChoices_67 2 rfl ?_
    refine aw_sipush (v := 256) d_X3_fillChoices_68 is_256 ?_
    refine aw_imul d_X3_fillChoices_71 ?_
    refine aw_iload_n (i := 3) rfl d_X3_fillChoices_72 3 rfl ?_
    refine aw_iadd d_X3_fillChoices_73 ?_
    obtain ⟨b9, k⟩ := k
    refine aw_zald (ws_89 w) b9 d_X3_fillChoices_74 ?_
    refine aw_if_eq (tgt := 84) d_X3_fillChoices_75 rfl (fun c10 => ?_) (fun c10 => ?_)
    · have k := k.1 c10
      refine aw_iinc (v := (x3 + 1)) [(0, .ref 19), (1, .int x1), (2, .int x2), (3, .int (x3 + 1))] d_X3_fillChoices_84 3 rfl rfl (Nat.le_of_ble_eq_true rfl) rfl rfl ?_
      refine aw_goto (tgt := 58) d_X3_fillChoices_87 rfl ?_
      exact k
    · have k := k.2 c10
      refine aw_aload_n (i := 0) rfl d_X3_fillChoices_78 0 rfl ?_
      refine aw_iload_n (i := 2) rfl d_X3_fillChoices_79 2 rfl ?_
      refine aw_iload_n (i := 3) rfl d_X3_fillChoices_80 3 rfl ?_
      refine aw_Vv 19 [.int x2, .int x3] [] d_X3_fillChoices_81 (cV_X3_spreadFrom (d + 1) 0 0) kc_3 (ws_19 w) tw_1368 rfl (rr0 (Nat.le_of_ble_eq_true rfl) (Nat.le_of_ble_eq_true rfl)) (Nat.le_of_ble_eq_true rfl) xs0 k (fun h11 kk => ?_)
      obtain ⟨w12, k⟩ := kk
      refine aw_iinc (v := (x3 + 1)) [(0, .ref 19), (1, .int x1), (2, .int x2), (3, .int (x3 + 1))] d_X3_fillChoices_84 3 rfl rfl (Nat.le_of_ble_eq_true rfl) rfl rfl ?_
      refine aw_goto (tgt := 58) d_X3_fillChoices_87 rfl ?_
      exact k
theorem t_X6_leastCost (d : Nat) (h : Hp_) (w : Wf h) (x1 : Int32) (x2 : Int32) (K : Int32 → Hp_ → Prop) (k : vp_in (((x1 + 1) * 256) + x2) 3328 ∧ (AW (m_X6_leastCost (d + 2) 0 0) 0 0 18 [(0, .ref 20), (1, .int x1), (2, .int x2), (3, .int (h_i h 102 ((((x1 + 1) * 256) + x2) : Int32).toNatClampNeg)), (4, .int 0)] [] h (kI K))) : Ci (m_X6_leastCost (d + 2) 0 0) [.ref 20, .int x1, .int x2] h K := by
  refine Ct.of (fun _ _ _ => trivial) rfl (Nat.le_of_ble_eq_true rfl) ?_
  show AW (m_X6_leastCost (d + 2) 0 0) 0 0 0 [(0, .ref 20), (1, .int x1), (2, .int x2)] [] h (kI K)
  refine aw_aload_n (i := 0) rfl d_X6_leastCost_0 0 rfl ?_
  refine aw_getr (k0 := 18) kc_6 (ws_20 w) (Nat.le_of_ble_eq_true rfl) tw_383 d_X6_leastCost_1 rfl (wr_20_18 w) ?_
  refine aw_iload_n (i := 1) rfl d_X6_leastCost_4 1 rfl ?_
  refine aw_iconst (v := 1) d_X6_leastCost_5 ic_1 ?_
  refine aw_iadd d_X6_leastCost_6 ?_
  refine aw_sipush (v := 256) d_X6_leastCost_7 is_256 ?_
  refine aw_imul d_X6_leastCost_10 ?_
  refine aw_iload_n (i := 2) rfl d_X6_leastCost_11 2 rfl ?_
  refine aw_iadd d_X6_leastCost_12 ?_
  obtain ⟨b1, k⟩ := k
  refine aw_iald (ws_102 w) b1 d_X6_leastCost_13 ?_
  refine aw_istore_n (i := 3) rfl [(0, .ref 20), (1, .int x1), (2, .int x2), (3, .int (h_i h 102 ((((x1 + 1) * 256) + x2) : Int32).toNatClampNeg))] d_X6_leastCost_14 (Nat.le_of_ble_eq_true rfl) rfl rfl ?_
  refine aw_iconst (v := 0) d_X6_leastCost_15 ic_0 ?_
  refine aw_istore [(0, .ref 20), (1, .int x1), (2, .int x2), (3, .int (h_i h 102 ((((x1 + 1) * 256) + x2) : Int32).toNatClampNeg)), (4, .int 0)] d_X6_leastCost_16 (Nat.le_of_ble_eq_true rfl) rfl rfl ?_
  exact k
theorem t_X6_leastCost_18 (d : Nat) (h : Hp_) (w : Wf h) (x1 : Int32) (x2 : Int32) (x3 : Int32) (x4 : Int32) (K : Int32 → Hp_ → Prop) (k : ((h_i h 20 16) ≤ x4 → K x3 h) ∧ (¬ (h_i h 20 16) ≤ x4 → Ci (m_X6_costWith (d + 1) 0 0) [.ref 20, .int x1, .int x4, .int x2] h (fun r5 h3 => Wf h3 ∧ (Ci (m_J9_min_7cf53 (d + 0) 0 0) [.int x3, .int r5] h3 (fun r8 h6 => Wf h6 ∧ (AW (m_X6_leastCost (d + 2) 0 0) 0 0 18 [(0, .ref 20), (1, .int x1), (2, .int x2), (3, .int r8), (4, .int (x4 + 1))] [] h6 (kI K))))))) : AW (m_X6_leastCost (d + 2) 0 0) 0 0 18 [(0, .ref 20), (1, .int x1), (2, .int x2), (3, .int x3), (4, .int x4)] [] h (kI K) := by
  refine aw_iload d_X6_leastCost_18 4 rfl ?_
  refine aw_aload_n (i := 0) rfl d_X6_leastCost_20 0 rfl ?_
  refine aw_geti (k0 := 16) kc_6 (ws_20 w) (Nat.le_of_ble_eq_true rfl) tw_380 d_X6_leastCost_21 rfl ?_
  refine aw_icmp_ge (tgt := 46) d_X6_leastCost_24 rfl (fun c2 => ?_) (fun c2 => ?_)
  · have k := k.1 c2
    refine aw_iload_n (i := 3) rfl d_X6_leastCost_46 3 rfl ?_
    exact aw_iret rfl d_X6_leastCost_47 ⟨Nat.le_refl _, Nat.le_refl _⟩ ⟨_, rfl, k⟩
  · have k := k.2 c2
    refine aw_iload_n (i := 3) rfl d_X6_leastCost_27 3 rfl ?_
    refine aw_aload_n (i := 0) rfl d_X6_leastCost_28 0 rfl ?_
    refine aw_iload_n (i := 1) rfl d_X6_leastCost_29 1 rfl ?_
    refine aw_iload d_X6_leastCost_30 4 rfl ?_
    refine aw_iload_n (i := 2) rfl d_X6_leastCost_32 2 rfl ?_
    refine aw_Vi 20 [.int x1, .int x4, .int x2] [.int x3] d_X6_leastCost_33 (cV_X6_costWith (d + 1) 0 0) kc_6 (ws_20 w) tw_1529 rfl (rr0 (Nat.le_of_ble_eq_true rfl) (Nat.le_of_ble_eq_true rfl)) (Nat.le_of_ble_eq_true rfl) xs0 k (fun r5 h3 kk => ?_)
    obtain ⟨w4, k⟩ := kk
    refine aw_Si [.int x3, .int r5] [] d_X6_leastCost_36 (cS_J9_min_7cf53 (d + 0) 0 0) tw_1468 rfl (rr0 (Nat.le_of_ble_eq_true rfl) (Nat.le_of_ble_eq_true rfl)) (Nat.le_of_ble_eq_true rfl) xs0 k (fun r8 h6 kk => ?_)
    obtain ⟨w7, k⟩ := kk
    refine aw_istore_n (i := 3) rfl [(0, .ref 20), (1, .int x1), (2, .int x2), (3, .int r8), (4, .int x4)] d_X6_leastCost_39 (Nat.le_of_ble_eq_true rfl) rfl rfl ?_
    refine aw_iinc (v := (x4 + 1)) [(0, .ref 20), (1, .int x1), (2, .int x2), (3, .int r8), (4, .int (x4 + 1))] d_X6_leastCost_40 4 rfl rfl (Nat.le_of_ble_eq_true rfl) rfl rfl ?_
    refine aw_goto (tgt := 18) d_X6_leastCost_43 rfl ?_
    exact k
theorem t_X6_traceLending (d : Nat) (h : Hp_) (x1 : Int32) (x2 : Int32) (K : Hp_ → Prop) (k : AW (m_X6_traceLending (d + 2) 0 0) 0 0 5 [(0, .ref 20), (1, .int x1), (3, .int x2), (4, .int 0)] [] h (kV K)) : Cv (m_X6_traceLending (d + 2) 0 0) [.ref 20, .int x1, .int x2] h K := by
  refine Ct.of (fun _ _ _ => trivial) rfl (Nat.le_of_ble_eq_true rfl) ?_
  show AW (m_X6_traceLending (d + 2) 0 0) 0 0 0 [(0, .ref 20), (1, .int x1), (2, .int x2)] [] h (kV K)
  refine aw_iload_n (i := 2) rfl d_X6_traceLending_0 2 rfl ?_
  refine aw_istore_n (i := 3) rfl [(0, .ref 20), (1, .int x1), (2, .int x2), (3, .int x2)] d_X6_traceLending_1 (Nat.le_of_ble_eq_true rfl) rfl rfl ?_
  refine aw_iconst (v := 0) d_X6_traceLending_2 ic_0 ?_
  refine aw_istore [(0, .ref 20), (1, .int x1), (2, .int x2), (3, .int x2), (4, .int 0)] d_X6_traceLending_3 (Nat.le_of_ble_eq_true rfl) rfl rfl ?_
  exact aw_lvp [0, 1, 3, 4] [(0, .ref 20), (1, .int x1), (3, .int x2), (4, .int 0)] rfl k
theorem t_X6_traceLending_5 (d : Nat) (h : Hp_) (w : Wf h) (x1 : Int32) (x3 : Int32) (x4 : Int32) (K : Hp_ → Prop) (k : (x1 ≤ x4 → K h) ∧ (¬ x1 ≤ x4 → vp_in x4 12 ∧ (AW (m_X6_traceLending (d + 2) 0 0) 0 0 22 [(0, .ref 20), (1, .int x1), (3, .int x3), (4, .int x4), (5, .int 0)] [] (h_im h 103 x4.toNatClampNeg (-1)) (kV K)))) : AW (m_X6_traceLending (d + 2) 0 0) 0 0 5 [(0, .ref 20), (1, .int x1), (3, .int x3), (4, .int x4)] [] h (kV K) := by
  refine aw_iload d_X6_traceLending_5 3 rfl ?_
  refine aw_iload_n (i := 1) rfl d_X6_traceLending_7 1 rfl ?_
  refine aw_icmp_ge (tgt := 124) d_X6_traceLending_8 rfl (fun c1 => ?_) (fun c1 => ?_)
  · have k := k.1 c1
    exact aw_vret rfl d_X6_traceLending_124 ⟨Nat.le_refl _, Nat.le_refl _⟩ ⟨rfl, k⟩
  · have k := k.2 c1
    refine aw_aload_n (i := 0) rfl d_X6_traceLending_11 0 rfl ?_
    refine aw_getr (k0 := 19) kc_6 (ws_20 w) (Nat.le_of_ble_eq_true rfl) tw_384 d_X6_traceLending_12 rfl (wr_20_19 w) ?_
    refine aw_iload d_X6_traceLending_15 3 rfl ?_
    refine aw_iconst (v := (-1)) d_X6_traceLending_17 ic_m1 ?_
    obtain ⟨b2, k⟩ := k
    refine aw_iast (ws_103 w) b2 d_X6_traceLending_18 ?_
    refine aw_iconst (v := 0) d_X6_traceLending_19 ic_0 ?_
    refine aw_istore [(0, .ref 20), (1, .int x1), (3, .int x3), (4, .int x4), (5, .int 0)] d_X6_traceLending_20 (Nat.le_of_ble_eq_true rfl) rfl rfl ?_
    exact k
theorem t_X6_traceLending_22 (d : Nat) (h : Hp_) (w : Wf h) (x1 : Int32) (x3 : Int32) (x4 : Int32) (x5 : Int32) (K : Hp_ → Prop) (k : ((h_i h 20 16) ≤ x5 → vp_in x4 12 ∧ (((h_i h 103 x4.toNatClampNeg) = (-1) → AW (m_X6_traceLending (d + 2) 0 0) 0 0 5 [(0, .ref 20), (1, .int x1), (3, .int x3), (4, .int (x4 + 1))] [] h (kV K)) ∧ (¬ (h_i h 103 x4.toNatClampNeg) = (-1) → vp_in x4 12 ∧ (AW (m_X6_traceLending (d + 2) 0 0) 0 0 5 [(0, .ref 20), (1, .int x1), (3, .int (x3 - ((1 : Int32) <<< ((2 * (h_i h 103 x4.toNatClampNeg)) &&& 31)))), (4, .int (x4 + 1))] [] h (kV K))))) ∧ (¬ (h_i h 20 16) ≤ x5 → vp_in x4 12 ∧ ((¬ (h_i h 103 x4.toNatClampNeg) = (-1) → vp_in x4 12 ∧ (((h_i h 103 x4.toNatClampNeg) = (-1) → AW (m_X6_traceLending (d + 2) 0 0) 0 0 5 [(0, .ref 20), (1, .int x1), (3, .int x3), (4, .int (x4 + 1))] [] h (kV K)) ∧ (¬ (h_i h 103 x4.toNatClampNeg) = (-1) → vp_in x4 12 ∧ (AW (m_X6_traceLending (d + 2) 0 0) 0 0 5 [(0, .ref 20), (1, .int x1), (3, .int (x3 - ((1 : Int32) <<< ((2 * (h_i h 103 x4.toNatClampNeg)) &&& 31)))), (4, .int (x4 + 1))] [] h (kV K))))) ∧ ((h_i h 103 x4.toNatClampNeg) = (-1) → Ci (m_X6_costWith (d + 1) 0 0) [.ref 20, .int x4, .int x5, .int x3] h (fun r14 h12 => Wf h12 ∧ ((1000000000 ≤ r14 → AW (m_X6_traceLending (d + 2) 0 0) 0 0 22 [(0, .ref 20), (1, .int x1), (3, .int x3), (4, .int x4), (5, .int (x5 + 1))] [] h12 (kV K)) ∧ (¬ 1000000000 ≤ r14 → vp_in ((x4 * 256) + x3) 3328 ∧ ((¬ r14 = (h_i h12 102 (((x4 * 256) + x3) : Int32).toNatClampNeg) → AW (m_X6_traceLending (d + 2) 0 0) 0 0 22 [(0, .ref 20), (1, .int x1), (3, .int x3), (4, .int x4), (5, .int (x5 + 1))] [] h12 (kV K)) ∧ (r14 = (h_i h12 102 (((x4 * 256) + x3) : Int32).toNatClampNeg) → vp_in x4 12 ∧ (AW (m_X6_traceLending (d + 2) 0 0) 0 0 22 [(0, .ref 20), (1, .int x1), (3, .int x3), (4, .int x4), (5, .int (x5 + 1))] [] (h_im h12 103 x4.toNatClampNeg x5) (kV K))))))))))) : AW (m_X6_traceLending (d + 2) 0 0) 0 0 22 [(0, .ref 20), (1, .int x1), (3, .int x3), (4, .int x4), (5, .int x5)] [] h (kV K) := by
  refine aw_iload d_X6_traceLending_22 4 rfl ?_
  refine aw_aload_n (i := 0) rfl d_X6_traceLending_24 0 rfl ?_
  refine aw_geti (k0 := 16) kc_6 (ws_20 w) (Nat.le_of_ble_eq_true rfl) tw_380 d_X6_traceLending_25 rfl ?_
  refine aw_icmp_ge (tgt := 93) d_X6_traceLending_28 rfl (fun c3 => ?_) (fun c3 => ?_)
  · have k := k.1 c3
    refine aw_aload_n (i := 0) rfl d_X6_traceLending_93 0 rfl ?_
    refine aw_getr (k0 := 19) kc_6 (ws_20 w) (Nat.le_of_ble_eq_true rfl) tw_384 d_X6_traceLending_94 rfl (wr_20_19 w) ?_
    refine aw_iload d_X6_traceLending_97 3 rfl ?_
    obtain ⟨b4, k⟩ := k
    refine aw_iald (ws_103 w) b4 d_X6_traceLending_99 ?_
    refine aw_iconst (v := (-1)) d_X6_traceLending_100 ic_m1 ?_
    refine aw_icmp_eq (tgt := 118) d_X6_traceLending_101 rfl (fun c5 => ?_) (fun c5 => ?_)
    · have k := k.1 c5
      refine aw_iinc (v := (x4 + 1)) [(0, .ref 20), (1, .int x1), (3, .int x3), (4, .int (x4 + 1)), (5, .int x5)] d_X6_traceLending_118 3 rfl rfl (Nat.le_of_ble_eq_true rfl) rfl rfl ?_
      refine aw_goto (tgt := 5) d_X6_traceLending_121 rfl ?_
      exact aw_lvp [0, 1, 2, 3] [(0, .ref 20), (1, .int x1), (3, .int x3), (4, .int (x4 + 1))] rfl k
    · have k := k.2 c5
      refine aw_iload_n (i := 3) rfl d_X6_traceLending_104 2 rfl ?_
      refine aw_iconst (v := 1) d_X6_traceLending_105 ic_1 ?_
      refine aw_iconst (v := 2) d_X6_traceLending_106 ic_2 ?_
      refine aw_aload_n (i := 0) rfl d_X6_traceLending_107 0 rfl ?_
      refine aw_getr (k0 := 19) kc_6 (ws_20 w) (Nat.le_of_ble_eq_true rfl) tw_384 d_X6_traceLending_108 rfl (wr_20_19 w) ?_
      refine aw_iload d_X6_traceLending_111 3 rfl ?_
      obtain ⟨b6, k⟩ := k
      refine aw_iald (ws_103 w) b6 d_X6_traceLending_113 ?_
      refine aw_imul d_X6_traceLending_114 ?_
      refine aw_ishl d_X6_traceLending_115 ?_
      refine aw_isub d_X6_traceLending_116 ?_
      refine aw_istore_n (i := 3) rfl [(0, .ref 20), (1, .int x1), (3, .int (x3 - ((1 : Int32) <<< ((2 * (h_i h 103 x4.toNatClampNeg)) &&& 31)))), (4, .int x4), (5, .int x5)] d_X6_traceLending_117 (Nat.le_of_ble_eq_true rfl) rfl rfl ?_
      refine aw_iinc (v := (x4 + 1)) [(0, .ref 20), (1, .int x1), (3, .int (x3 - ((1 : Int32) <<< ((2 * (h_i h 103 x4.toNatClampNeg)) &&& 31)))), (4, .int (x4 + 1)), (5, .int x5)] d_X6_traceLending_118 3 rfl rfl (Nat.le_of_ble_eq_true rfl) rfl rfl ?_
      refine aw_goto (tgt := 5) d_X6_traceLending_121 rfl ?_
      exact aw_lvp [0, 1, 2, 3] [(0, .ref 20), (1, .int x1), (3, .int (x3 - ((1 : Int32) <<< ((2 * (h_i h 103 x4.toNatClampNeg)) &&& 31)))), (4, .int (x4 + 1))] rfl k
  · have k := k.2 c3
    refine aw_aload_n (i := 0) rfl d_X6_traceLending_31 0 rfl ?_
    refine aw_getr (k0 := 19) kc_6 (ws_20 w) (Nat.le_of_ble_eq_true rfl) tw_384 d_X6_traceLending_32 rfl (wr_20_19 w) ?_
    refine aw_iload d_X6_traceLending_35 3 rfl ?_
    obtain ⟨b7, k⟩ := k
    refine aw_iald (ws_103 w) b7 d_X6_traceLending_37 ?_
    refine aw_iconst (v := (-1)) d_X6_traceLending_38 ic_m1 ?_
    refine aw_icmp_ne (tgt := 93) d_X6_traceLending_39 rfl (fun c8 => ?_) (fun c8 => ?_)
    · have k := k.1 c8
      refine aw_aload_n (i := 0) rfl d_X6_traceLending_93 0 rfl ?_
      refine aw_getr (k0 := 19) kc_6 (ws_20 w) (Nat.le_of_ble_eq_true rfl) tw_384 d_X6_traceLending_94 rfl (wr_20_19 w) ?_
      refine aw_iload d_X6_traceLending_97 3 rfl ?_
      obtain ⟨b9, k⟩ := k
      refine aw_iald (ws_103 w) b9 d_X6_traceLending_99 ?_
      refine aw_iconst (v := (-1)) d_X6_traceLending_100 ic_m1 ?_
      refine aw_icmp_eq (tgt := 118) d_X6_traceLending_101 rfl (fun c10 => ?_) (fun c10 => ?_)
      · have k := k.1 c10
        refine aw_iinc (v := (x4 + 1)) [(0, .ref 20), (1, .int x1), (3, .int x3), (4, .int (x4 + 1)), (5, .int x5)] d_X6_traceLending_118 3 rfl rfl (Nat.le_of_ble_eq_true rfl) rfl rfl ?_
        refine aw_goto (tgt := 5) d_X6_traceLending_121 rfl ?_
        exact aw_lvp [0, 1, 2, 3] [(0, .ref 20), (1, .int x1), (3, .int x3), (4, .int (x4 + 1))] rfl k
      · have k := k.2 c10
        refine aw_iload_n (i := 3) rfl d_X6_traceLending_104 2 rfl ?_
        refine aw_iconst (v := 1) d_X6_traceLending_105 ic_1 ?_
        refine aw_iconst (v := 2) d_X6_traceLending_106 ic_2 ?_
        refine aw_aload_n (i := 0) rfl d_X6_traceLending_107 0 rfl ?_
        refine aw_getr (k0 := 19) kc_6 (ws_20 w) (Nat.le_of_ble_eq_true rfl) tw_384 d_X6_traceLending_108 rfl (wr_20_19 w) ?_
        refine aw_iload d_X6_traceLending_111 3 rfl ?_
        obtain ⟨b11, k⟩ := k
        refine aw_iald (ws_103 w) b11 d_X6_traceLending_113 ?_
        refine aw_imul d_X6_traceLending_114 ?_
        refine aw_ishl d_X6_traceLending_115 ?_
        refine aw_isub d_X6_traceLending_116 ?_
        refine aw_istore_n (i := 3) rfl [(0, .ref 20), (1, .int x1), (3, .int (x3 - ((1 : Int32) <<< ((2 * (h_i h 103 x4.toNatClampNeg)) &&& 31)))), (4, .int x4), (5, .int x5)] d_X6_traceLending_117 (Nat.le_of_ble_eq_true rfl) rfl rfl ?_
        refine aw_iinc (v := (x4 + 1)) [(0, .ref 20), (1, .int x1), (3, .int (x3 - ((1 : Int32) <<< ((2 * (h_i h 103 x4.toNatClampNeg)) &&& 31)))), (4, .int (x4 + 1)), (5, .int x5)] d_X6_traceLending_118 3 rfl rfl (Nat.le_of_ble_eq_true rfl) rfl rfl ?_
        refine aw_goto (tgt := 5) d_X6_traceLending_121 rfl ?_
        exact aw_lvp [0, 1, 2, 3] [(0, .ref 20), (1, .int x1), (3, .int (x3 - ((1 : Int32) <<< ((2 * (h_i h 103 x4.toNatClampNeg)) &&& 31)))), (4, .int (x4 + 1))] rfl k
    · have k := k.2 c8
      refine aw_aload_n (i := 0) rfl d_X6_traceLending_42 0 rfl ?_
      refine aw_iload d_X6_traceLending_43 3 rfl ?_
      refine aw_iload d_X6_traceLending_45 4 rfl ?_
      refine aw_iload_n (i := 3) rfl d_X6_traceLending_47 2 rfl ?_
      refine aw_Vi 20 [.int x4, .int x5, .int x3] [] d_X6_traceLending_48 (cV_X6_costWith (d + 1) 0 0) kc_6 (ws_20 w) tw_1529 rfl (rr0 (Nat.le_of_ble_eq_true rfl) (Nat.le_of_ble_eq_true rfl)) (Nat.le_of_ble_eq_true rfl) xs0 k (fun r14 h12 kk => ?_)
      obtain ⟨w13, k⟩ := kk
      refine aw_istore [(0, .ref 20), (1, .int x1), (3, .int x3), (4, .int x4), (5, .int x5), (6, .int r14)] d_X6_traceLending_51 (Nat.le_of_ble_eq_true rfl) rfl rfl ?_
      refine aw_iload d_X6_traceLending_53 5 rfl ?_
      refine aw_ldc (v := 1000000000) d_X6_traceLending_55 tw_1524 ?_
      refine aw_icmp_ge (tgt := 87) d_X6_traceLending_57 rfl (fun c15 => ?_) (fun c15 => ?_)
      · have k := k.1 c15
        refine aw_iinc (v := (x5 + 1)) [(0, .ref 20), (1, .int x1), (3, .int x3), (4, .int x4), (5, .int (x5 + 1)), (6, .int r14)] d_X6_traceLending_87 4 rfl rfl (Nat.le_of_ble_eq_true rfl) rfl rfl ?_
        refine aw_goto (tgt := 22) d_X6_traceLending_90 rfl ?_
        exact aw_lvp [0, 1, 2, 3, 4] [(0, .ref 20), (1, .int x1), (3, .int x3), (4, .int x4), (5, .int (x5 + 1))] rfl k
      · have k := k.2 c15
        refine aw_iload d_X6_traceLending_60 5 rfl ?_
        refine aw_aload_n (i := 0) rfl d_X6_traceLending_62 0 rfl ?_
        refine aw_getr (k0 := 18) kc_6 (ws_20 w13) (Nat.le_of_ble_eq_true rfl) tw_383 d_X6_traceLending_63 rfl (wr_20_18 w13) ?_
        refine aw_iload d_X6_traceLending_66 3 rfl ?_
        refine aw_sipush (v := 256) d_X6_traceLending_68 is_256 ?_
        refine aw_imul d_X6_traceLending_71 ?_
        refine aw_iload_n (i := 3) rfl d_X6_traceLending_72 2 rfl ?_
        refine aw_iadd d_X6_traceLending_73 ?_
        obtain ⟨b16, k⟩ := k
        refine aw_iald (ws_102 w13) b16 d_X6_traceLending_74 ?_
        refine aw_icmp_ne (tgt := 87) d_X6_traceLending_75 rfl (fun c17 => ?_) (fun c17 => ?_)
        · have k := k.1 c17
          refine aw_iinc (v := (x5 + 1)) [(0, .ref 20), (1, .int x1), (3, .int x3), (4, .int x4), (5, .int (x5 + 1)), (6, .int r14)] d_X6_traceLending_87 4 rfl rfl (Nat.le_of_ble_eq_true rfl) rfl rfl ?_
          refine aw_goto (tgt := 22) d_X6_traceLending_90 rfl ?_
          exact aw_lvp [0, 1, 2, 3, 4] [(0, .ref 20), (1, .int x1), (3, .int x3), (4, .int x4), (5, .int (x5 + 1))] rfl k
        · have k := k.2 c17
          refine aw_aload_n (i := 0) rfl d_X6_traceLending_78 0 rfl ?_
          refine aw_getr (k0 := 19) kc_6 (ws_20 w13) (Nat.le_of_ble_eq_true rfl) tw_384 d_X6_traceLending_79 rfl (wr_20_19 w13) ?_
          refine aw_iload d_X6_traceLending_82 3 rfl ?_
          refine aw_iload d_X6_traceLending_84 4 rfl ?_
          obtain ⟨b18, k⟩ := k
          refine aw_iast (ws_103 w13) b18 d_X6_traceLending_86 ?_
          refine aw_iinc (v := (x5 + 1)) [(0, .ref 20), (1, .int x1), (3, .int x3), (4, .int x4), (5, .int (x5 + 1)), (6, .int r14)] d_X6_traceLending_87 4 rfl rfl (Nat.le_of_ble_eq_true rfl) rfl rfl ?_
          refine aw_goto (tgt := 22) d_X6_traceLending_90 rfl ?_
          exact aw_lvp [0, 1, 2, 3, 4] [(0, .ref 20), (1, .int x1), (3, .int x3), (4, .int x4), (5, .int (x5 + 1))] rfl k
theorem t_X7_tell (d : Nat) (h : Hp_) (w : Wf h) (x1 : Int32) (x2 : Int32) (x3 : Int32) (K : Int32 → Hp_ → Prop) (k : Ci (m_X7_has (d + 0) 0 0) [.ref 16, .int x1] h (fun r3 h1 => Wf h1 ∧ ((r3 = 0 → K (-1) h1) ∧ (¬ r3 = 0 → vp_in x1 400 ∧ (((h_i h1 50 x1.toNatClampNeg) ≤ x2 → (x3 = 0 → vp_in x1 400 ∧ (K (h_i h1 47 x1.toNatClampNeg) h1)) ∧ ((x3 = 1 → vp_in x1 400 ∧ (K (h_i h1 48 x1.toNatClampNeg) h1)) ∧ ((x3 = 2 → vp_in x1 400 ∧ (K (h_i h1 49 x1.toNatClampNeg) h1)) ∧ ((x3 = 3 → Ci (m_X7_outcomeAt (d + 0) 0 0) [.ref 16, .int x1, .int x2] h1 (fun r16 h14 => Wf h14 ∧ (K r16 h14))) ∧ ((x3 = 4 → Ci (m_X7_causeAt (d + 1) 0 0) [.ref 16, .int x1, .int x2] h1 (fun r20 h18 => Wf h18 ∧ (K r20 h18))) ∧ ((¬ x3 = 0 ∧ ¬ x3 = 1 ∧ ¬ x3 = 2 ∧ ¬ x3 = 3 ∧ ¬ x3 = 4 → K (-1) h1))))))) ∧ (¬ (h_i h1 50 x1.toNatClampNeg) ≤ x2 → K (-1) h1)))))) : Ci (m_X7_tell (d + 2) 0 0) [.ref 16, .int x1, .int x2, .int x3] h K := by
  refine Ct.of (fun _ _ _ => trivial) rfl (Nat.le_of_ble_eq_true rfl) ?_
  show AW (m_X7_tell (d + 2) 0 0) 0 0 0 [(0, .ref 16), (1, .int x1), (2, .int x2), (3, .int x3)] [] h (kI K)
  refine aw_aload_n (i := 0) rfl d_X7_tell_0 0 rfl ?_
  refine aw_iload_n (i := 1) rfl d_X7_tell_1 1 rfl ?_
  refine aw_Vi 16 [.int x1] [] d_X7_tell_2 (cV_X7_has (d + 0) 0 0) kc_7 (ws_16 w) tw_1122 rfl (rr0 (Nat.le_of_ble_eq_true rfl) (Nat.le_of_ble_eq_true rfl)) (Nat.le_of_ble_eq_true rfl) xs0 k (fun r3 h1 kk => ?_)
  obtain ⟨w2, k⟩ := kk
  refine aw_if_eq (tgt := 18) d_X7_tell_5 rfl (fun c4 => ?_) (fun c4 => ?_)
  · have k := k.1 c4
    refine aw_iconst (v := (-1)) d_X7_tell_18 ic_m1 ?_
    exact aw_iret rfl d_X7_tell_19 ⟨Nat.le_refl _, Nat.le_refl _⟩ ⟨_, rfl, k⟩
  · have k := k.2 c4
    refine aw_aload_n (i := 0) rfl d_X7_tell_8 0 rfl ?_
    refine aw_getr (k0 := 3) kc_7 (ws_16 w2) (Nat.le_of_ble_eq_true rfl) tw_155 d_X7_tell_9 rfl (wr_16_3 w2) ?_
    refine aw_iload_n (i := 1) rfl d_X7_tell_12 1 rfl ?_
    obtain ⟨b5, k⟩ := k
    refine aw_iald (ws_50 w2) b5 d_X7_tell_13 ?_
    refine aw_iload_n (i := 2) rfl d_X7_tell_14 2 rfl ?_
    refine aw_icmp_le (tgt := 20) d_X7_tell_15 rfl (fun c6 => ?_) (fun c6 => ?_)
    · have k := k.1 c6
      refine aw_iload_n (i := 3) rfl d_X7_tell_20 3 rfl ?_
      by_cases e7 : x3 = 0
      · refine aw_tableIn (off := 35) (tgt := 56) d_X7_tell_21 (by rw [e7]; decide) (by rw [e7]; decide) (by rw [e7]; decide) rfl ?_
        have k := k.1 e7
        refine aw_aload_n (i := 0) rfl d_X7_tell_56 0 rfl ?_
        refine aw_getr (k0 := 0) kc_7 (ws_16 w2) (Nat.le_of_ble_eq_true rfl) tw_152 d_X7_tell_57 rfl (wr_16_0 w2) ?_
        refine aw_iload_n (i := 1) rfl d_X7_tell_60 1 rfl ?_
        obtain ⟨b8, k⟩ := k
        refine aw_iald (ws_47 w2) b8 d_X7_tell_61 ?_
        exact aw_iret rfl d_X7_tell_62 ⟨Nat.le_refl _, Nat.le_refl _⟩ ⟨_, rfl, k⟩
      · have k := k.2
        by_cases e9 : x3 = 1
        · refine aw_tableIn (off := 42) (tgt := 63) d_X7_tell_21 (by rw [e9]; decide) (by rw [e9]; decide) (by rw [e9]; decide) rfl ?_
          have k := k.1 e9
          refine aw_aload_n (i := 0) rfl d_X7_tell_63 0 rfl ?_
          refine aw_getr (k0 := 1) kc_7 (ws_16 w2) (Nat.le_of_ble_eq_true rfl) tw_153 d_X7_tell_64 rfl (wr_16_1 w2) ?_
          refine aw_iload_n (i := 1) rfl d_X7_tell_67 1 rfl ?_
          obtain ⟨b10, k⟩ := k
          refine aw_iald (ws_48 w2) b10 d_X7_tell_68 ?_
          exact aw_iret rfl d_X7_tell_69 ⟨Nat.le_refl _, Nat.le_refl _⟩ ⟨_, rfl, k⟩
        · have k := k.2
          by_cases e11 : x3 = 2
          · refine aw_tableIn (off := 49) (tgt := 70) d_X7_tell_21 (by rw [e11]; decide) (by rw [e11]; decide) (by rw [e11]; decide) rfl ?_
            have k := k.1 e11
            refine aw_aload_n (i := 0) rfl d_X7_tell_70 0 rfl ?_
            refine aw_getr (k0 := 2) kc_7 (ws_16 w2) (Nat.le_of_ble_eq_true rfl) tw_154 d_X7_tell_71 rfl (wr_16_2 w2) ?_
            refine aw_iload_n (i := 1) rfl d_X7_tell_74 1 rfl ?_
            obtain ⟨b12, k⟩ := k
            refine aw_iald (ws_49 w2) b12 d_X7_tell_75 ?_
            exact aw_iret rfl d_X7_tell_76 ⟨Nat.le_refl _, Nat.le_refl _⟩ ⟨_, rfl, k⟩
          · have k := k.2
            by_cases e13 : x3 = 3
            · refine aw_tableIn (off := 56) (tgt := 77) d_X7_tell_21 (by rw [e13]; decide) (by rw [e13]; decide) (by rw [e13]; decide) rfl ?_
              have k := k.1 e13
              refine aw_aload_n (i := 0) rfl d_X7_tell_77 0 rfl ?_
              refine aw_iload_n (i := 1) rfl d_X7_tell_78 1 rfl ?_
              refine aw_iload_n (i := 2) rfl d_X7_tell_79 2 rfl ?_
              refine aw_Vi 16 [.int x1, .int x2] [] d_X7_tell_80 (cV_X7_outcomeAt (d + 0) 0 0) kc_7 (ws_16 w2) tw_1123 rfl (rr0 (Nat.le_of_ble_eq_true rfl) (Nat.le_of_ble_eq_true rfl)) (Nat.le_of_ble_eq_true rfl) xs0 k (fun r16 h14 kk => ?_)
              obtain ⟨w15, k⟩ := kk
              exact aw_iret rfl d_X7_tell_83 ⟨Nat.le_refl _, Nat.le_refl _⟩ ⟨_, rfl, k⟩
            · have k := k.2
              by_cases e17 : x3 = 4
              · refine aw_tableIn (off := 63) (tgt := 84) d_X7_tell_21 (by rw [e17]; decide) (by rw [e17]; decide) (by rw [e17]; decide) rfl ?_
                have k := k.1 e17
                refine aw_aload_n (i := 0) rfl d_X7_tell_84 0 rfl ?_
                refine aw_iload_n (i := 1) rfl d_X7_tell_85 1 rfl ?_
                refine aw_iload_n (i := 2) rfl d_X7_tell_86 2 rfl ?_
                refine aw_Vi 16 [.int x1, .int x2] [] d_X7_tell_87 (cV_X7_causeAt (d + 1) 0 0) kc_7 (ws_16 w2) tw_1127 rfl (rr0 (Nat.le_of_ble_eq_true rfl) (Nat.le_of_ble_eq_true rfl)) (Nat.le_of_ble_eq_true rfl) xs0 k (fun r20 h18 kk => ?_)
                obtain ⟨w19, k⟩ := kk
                exact aw_iret rfl d_X7_tell_90 ⟨Nat.le_refl _, Nat.le_refl _⟩ ⟨_, rfl, k⟩
              · have k := k.2
                have k := k ⟨e7, e9, e11, e13, e17⟩
                have n21 := sw_ne (0) (by decide) e7
                have n22 := sw_ne (1) (by decide) e9
                have n23 := sw_ne (2) (by decide) e11
                have n24 := sw_ne (3) (by decide) e13
                have n25 := sw_ne (4) (by decide) e17
                refine aw_tableOut (tgt := 91) d_X7_tell_21 (by omega) rfl ?_
                refine aw_iconst (v := (-1)) d_X7_tell_91 ic_m1 ?_
                exact aw_iret rfl d_X7_tell_92 ⟨Nat.le_refl _, Nat.le_refl _⟩ ⟨_, rfl, k⟩
    · have k := k.2 c6
      refine aw_iconst (v := (-1)) d_X7_tell_18 ic_m1 ?_
      exact aw_iret rfl d_X7_tell_19 ⟨Nat.le_refl _, Nat.le_refl _⟩ ⟨_, rfl, k⟩
theorem t_X7_countCause (d : Nat) (h : Hp_) (x1 : Int32) (x2 : Int32) (K : Int32 → Hp_ → Prop) (k : AW (m_X7_countCause (d + 2) 0 0) 0 0 5 [(0, .ref 16), (1, .int x1), (2, .int x2), (3, .int 0), (4, .int 0)] [] h (kI K)) : Ci (m_X7_countCause (d + 2) 0 0) [.ref 16, .int x1, .int x2] h K := by
  refine Ct.of (fun _ _ _ => trivial) rfl (Nat.le_of_ble_eq_true rfl) ?_
  show AW (m_X7_countCause (d + 2) 0 0) 0 0 0 [(0, .ref 16), (1, .int x1), (2, .int x2)] [] h (kI K)
  refine aw_iconst (v := 0) d_X7_countCause_0 ic_0 ?_
  refine aw_istore_n (i := 3) rfl [(0, .ref 16), (1, .int x1), (2, .int x2), (3, .int 0)] d_X7_countCause_1 (Nat.le_of_ble_eq_true rfl) rfl rfl ?_
  refine aw_iconst (v := 0) d_X7_countCause_2 ic_0 ?_
  refine aw_istore [(0, .ref 16), (1, .int x1), (2, .int x2), (3, .int 0), (4, .int 0)] d_X7_countCause_3 (Nat.le_of_ble_eq_true rfl) rfl rfl ?_
  exact k
theorem t_X7_countCause_5 (d : Nat) (h : Hp_) (w : Wf h) (x1 : Int32) (x2 : Int32) (x3 : Int32) (x4 : Int32) (K : Int32 → Hp_ → Prop) (k : ((h_i h 16 7) ≤ x4 → K x3 h) ∧ (¬ (h_i h 16 7) ≤ x4 → Ci (m_X7_causeAt (d + 1) 0 0) [.ref 16, .int x4, .int x2] h (fun r4 h2 => Wf h2 ∧ ((¬ r4 = x1 → AW (m_X7_countCause (d + 2) 0 0) 0 0 5 [(0, .ref 16), (1, .int x1), (2, .int x2), (3, .int x3), (4, .int (x4 + 1))] [] h2 (kI K)) ∧ (r4 = x1 → AW (m_X7_countCause (d + 2) 0 0) 0 0 5 [(0, .ref 16), (1, .int x1), (2, .int x2), (3, .int (x3 + 1)), (4, .int (x4 + 1))] [] h2 (kI K)))))) : AW (m_X7_countCause (d + 2) 0 0) 0 0 5 [(0, .ref 16), (1, .int x1), (2, .int x2), (3, .int x3), (4, .int x4)] [] h (kI K) := by
  refine aw_iload d_X7_countCause_5 4 rfl ?_
  refine aw_aload_n (i := 0) rfl d_X7_countCause_7 0 rfl ?_
  refine aw_geti (k0 := 7) kc_7 (ws_16 w) (Nat.le_of_ble_eq_true rfl) tw_159 d_X7_countCause_8 rfl ?_
  refine aw_icmp_ge (tgt := 34) d_X7_countCause_11 rfl (fun c1 => ?_) (fun c1 => ?_)
  · have k := k.1 c1
    refine aw_iload_n (i := 3) rfl d_X7_countCause_34 3 rfl ?_
    exact aw_iret rfl d_X7_countCause_35 ⟨Nat.le_refl _, Nat.le_refl _⟩ ⟨_, rfl, k⟩
  · have k := k.2 c1
    refine aw_aload_n (i := 0) rfl d_X7_countCause_14 0 rfl ?_
    refine aw_iload d_X7_countCause_15 4 rfl ?_
    refine aw_iload_n (i := 2) rfl d_X7_countCause_17 2 rfl ?_
    refine aw_Vi 16 [.int x4, .int x2] [] d_X7_countCause_18 (cV_X7_causeAt (d + 1) 0 0) kc_7 (ws_16 w) tw_1127 rfl (rr0 (Nat.le_of_ble_eq_true rfl) (Nat.le_of_ble_eq_true rfl)) (Nat.le_of_ble_eq_true rfl) xs0 k (fun r4 h2 kk => ?_)
    obtain ⟨w3, k⟩ := kk
    refine aw_iload_n (i := 1) rfl d_X7_countCause_21 1 rfl ?_
    refine aw_icmp_ne (tgt := 28) d_X7_countCause_22 rfl (fun c5 => ?_) (fun c5 => ?_)
    · have k := k.1 c5
      refine aw_iinc (v := (x4 + 1)) [(0, .ref 16), (1, .int x1), (2, .int x2), (3, .int x3), (4, .int (x4 + 1))] d_X7_countCause_28 4 rfl rfl (Nat.le_of_ble_eq_true rfl) rfl rfl ?_
      refine aw_goto (tgt := 5) d_X7_countCause_31 rfl ?_
      exact k
    · have k := k.2 c5
      refine aw_iinc (v := (x3 + 1)) [(0, .ref 16), (1, .int x1), (2, .int x2), (3, .int (x3 + 1)), (4, .int x4)] d_X7_countCause_25 3 rfl rfl (Nat.le_of_ble_eq_true rfl) rfl rfl ?_
      refine aw_iinc (v := (x4 + 1)) [(0, .ref 16), (1, .int x1), (2, .int x2), (3, .int (x3 + 1)), (4, .int (x4 + 1))] d_X7_countCause_28 4 rfl rfl (Nat.le_of_ble_eq_true rfl) rfl rfl ?_
      refine aw_goto (tgt := 5) d_X7_countCause_31 rfl ?_
      exact k
theorem t_X7_countBlamed (d : Nat) (h : Hp_) (x1 : Int32) (x2 : Int32) (x3 : Int32) (K : Int32 → Hp_ → Prop) (k : AW (m_X7_countBlamed (d + 2) 0 0) 0 0 6 [(0, .ref 16), (1, .int x1), (2, .int x2), (3, .int x3), (4, .int 0), (5, .int 0)] [] h (kI K)) : Ci (m_X7_countBlamed (d + 2) 0 0) [.ref 16, .int x1, .int x2, .int x3] h K := by
  refine Ct.of (fun _ _ _ => trivial) rfl (Nat.le_of_ble_eq_true rfl) ?_
  show AW (m_X7_countBlamed (d + 2) 0 0) 0 0 0 [(0, .ref 16), (1, .int x1), (2, .int x2), (3, .int x3)] [] h (kI K)
  refine aw_iconst (v := 0) d_X7_countBlamed_0 ic_0 ?_
  refine aw_istore [(0, .ref 16), (1, .int x1), (2, .int x2), (3, .int x3), (4, .int 0)] d_X7_countBlamed_1 (Nat.le_of_ble_eq_true rfl) rfl rfl ?_
  refine aw_iconst (v := 0) d_X7_countBlamed_3 ic_0 ?_
  refine aw_istore [(0, .ref 16), (1, .int x1), (2, .int x2), (3, .int x3), (4, .int 0), (5, .int 0)] d_X7_countBlamed_4 (Nat.le_of_ble_eq_true rfl) rfl rfl ?_
  exact k
theorem t_X7_countBlamed_6 (d : Nat) (h : Hp_) (w : Wf h) (x1 : Int32) (x2 : Int32) (x3 : Int32) (x4 : Int32) (x5 : Int32) (K : Int32 → Hp_ → Prop) (k : ((h_i h 16 7) ≤ x5 → K x4 h) ∧ (¬ (h_i h 16 7) ≤ x5 → Ci (m_X7_wasDue (d + 0) 0 0) [.ref 16, .int x5, .int x1, .int x2] h (fun r4 h2 => Wf h2 ∧ ((r4 = 0 → AW (m_X7_countBlamed (d + 2) 0 0) 0 0 6 [(0, .ref 16), (1, .int x1), (2, .int x2), (3, .int x3), (4, .int x4), (5, .int (x5 + 1))] [] h2 (kI K)) ∧ (¬ r4 = 0 → Ci (m_X7_causeAt (d + 1) 0 0) [.ref 16, .int x5, .int x3] h2 (fun r8 h6 => Wf h6 ∧ ((r8 = 1 → AW (m_X7_countBlamed (d + 2) 0 0) 0 0 6 [(0, .ref 16), (1, .int x1), (2, .int x2), (3, .int x3), (4, .int (x4 + 1)), (5, .int (x5 + 1))] [] h6 (kI K)) ∧ (¬ r8 = 1 → (r8 < 5 → AW (m_X7_countBlamed (d + 2) 0 0) 0 0 6 [(0, .ref 16), (1, .int x1), (2, .int x2), (3, .int x3), (4, .int x4), (5, .int (x5 + 1))] [] h6 (kI K)) ∧ (¬ r8 < 5 → AW (m_X7_countBlamed (d + 2) 0 0) 0 0 6 [(0, .ref 16), (1, .int x1), (2, .int x2), (3, .int x3), (4, .int (x4 + 1)), (5, .int (x5 + 1))] [] h6 (kI K)))))))))) : AW (m_X7_countBlamed (d + 2) 0 0) 0 0 6 [(0, .ref 16), (1, .int x1), (2, .int x2), (3, .int x3), (4, .int x4), (5, .int x5)] [] h (kI K) := by
  refine aw_iload d_X7_countBlamed_6 5 rfl ?_
  refine aw_aload_n (i := 0) rfl d_X7_countBlamed_8 0 rfl ?_
  refine aw_geti (k0 := 7) kc_7 (ws_16 w) (Nat.le_of_ble_eq_true rfl) tw_159 d_X7_countBlamed_9 rfl ?_
  refine aw_icmp_ge (tgt := 56) d_X7_countBlamed_12 rfl (fun c1 => ?_) (fun c1 => ?_)
  · have k := k.1 c1
    refine aw_iload d_X7_countBlamed_56 4 rfl ?_
    exact aw_iret rfl d_X7_countBlamed_58 ⟨Nat.le_refl _, Nat.le_refl _⟩ ⟨_, rfl, k⟩
  · have k := k.2 c1
    refine aw_aload_n (i := 0) rfl d_X7_countBlamed_15 0 rfl ?_
    refine aw_iload d_X7_countBlamed_16 5 rfl ?_
    refine aw_iload_n (i := 1) rfl d_X7_countBlamed_18 1 rfl ?_
    refine aw_iload_n (i := 2) rfl d_X7_countBlamed_19 2 rfl ?_
    refine aw_Vi 16 [.int x5, .int x1, .int x2] [] d_X7_countBlamed_20 (cV_X7_wasDue (d + 0) 0 0) kc_7 (ws_16 w) tw_1589 rfl (rr0 (Nat.le_of_ble_eq_true rfl) (Nat.le_of_ble_eq_true rfl)) (Nat.le_of_ble_eq_true rfl) xs0 k (fun r4 h2 kk => ?_)
    obtain ⟨w3, k⟩ := kk
    refine aw_if_eq (tgt := 50) d_X7_countBlamed_23 rfl (fun c5 => ?_) (fun c5 => ?_)
    · have k := k.1 c5
      refine aw_iinc (v := (x5 + 1)) [(0, .ref 16), (1, .int x1), (2, .int x2), (3, .int x3), (4, .int x4), (5, .int (x5 + 1))] d_X7_countBlamed_50 5 rfl rfl (Nat.le_of_ble_eq_true rfl) rfl rfl ?_
      refine aw_goto (tgt := 6) d_X7_countBlamed_53 rfl ?_
      exact k
    · have k := k.2 c5
      refine aw_aload_n (i := 0) rfl d_X7_countBlamed_26 0 rfl ?_
      refine aw_iload d_X7_countBlamed_27 5 rfl ?_
      refine aw_iload_n (i := 3) rfl d_X7_countBlamed_29 3 rfl ?_
      refine aw_Vi 16 [.int x5, .int x3] [] d_X7_countBlamed_30 (cV_X7_causeAt (d + 1) 0 0) kc_7 (ws_16 w3) tw_1127 rfl (rr0 (Nat.le_of_ble_eq_true rfl) (Nat.le_of_ble_eq_true rfl)) (Nat.le_of_ble_eq_true rfl) xs0 k (fun r8 h6 kk => ?_)
      obtain ⟨w7, k⟩ := kk
      refine aw_istore [(0, .ref 16), (1, .int x1), (2, .int x2), (3, .int x3), (4, .int x4), (5, .int x5), (6, .int r8)] d_X7_countBlamed_33 (Nat.le_of_ble_eq_true rfl) rfl rfl ?_
      refine aw_iload d_X7_countBlamed_35 6 rfl ?_
      refine aw_iconst (v := 1) d_X7_countBlamed_37 ic_1 ?_
      refine aw_icmp_eq (tgt := 47) d_X7_countBlamed_38 rfl (fun c9 => ?_) (fun c9 => ?_)
      · have k := k.1 c9
        refine aw_iinc (v := (x4 + 1)) [(0, .ref 16), (1, .int x1), (2, .int x2), (3, .int x3), (4, .int (x4 + 1)), (5, .int x5), (6, .int r8)] d_X7_countBlamed_47 4 rfl rfl (Nat.le_of_ble_eq_true rfl) rfl rfl ?_
        refine aw_iinc (v := (x5 + 1)) [(0, .ref 16), (1, .int x1), (2, .int x2), (3, .int x3), (4, .int (x4 + 1)), (5, .int (x5 + 1)), (6, .int r8)] d_X7_countBlamed_50 5 rfl rfl (Nat.le_of_ble_eq_true rfl) rfl rfl ?_
        refine aw_goto (tgt := 6) d_X7_countBlamed_53 rfl ?_
        exact aw_lvp [0, 1, 2, 3, 4, 5] [(0, .ref 16), (1, .int x1), (2, .int x2), (3, .int x3), (4, .int (x4 + 1)), (5, .int (x5 + 1))] rfl k
      · have k := k.2 c9
        refine aw_iload d_X7_countBlamed_41 6 rfl ?_
        refine aw_iconst (v := 5) d_X7_countBlamed_43 ic_5 ?_
        refine aw_icmp_lt (tgt := 50) d_X7_countBlamed_44 rfl (fun c10 => ?_) (fun c10 => ?_)
        · have k := k.1 c10
          refine aw_iinc (v := (x5 + 1)) [(0, .ref 16), (1, .int x1), (2, .int x2), (3, .int x3), (4, .int x4), (5, .int (x5 + 1)), (6, .int r8)] d_X7_countBlamed_50 5 rfl rfl (Nat.le_of_ble_eq_true rfl) rfl rfl ?_
          refine aw_goto (tgt := 6) d_X7_countBlamed_53 rfl ?_
          exact aw_lvp [0, 1, 2, 3, 4, 5] [(0, .ref 16), (1, .int x1), (2, .int x2), (3, .int x3), (4, .int x4), (5, .int (x5 + 1))] rfl k
        · have k := k.2 c10
          refine aw_iinc (v := (x4 + 1)) [(0, .ref 16), (1, .int x1), (2, .int x2), (3, .int x3), (4, .int (x4 + 1)), (5, .int x5), (6, .int r8)] d_X7_countBlamed_47 4 rfl rfl (Nat.le_of_ble_eq_true rfl) rfl rfl ?_
          refine aw_iinc (v := (x5 + 1)) [(0, .ref 16), (1, .int x1), (2, .int x2), (3, .int x3), (4, .int (x4 + 1)), (5, .int (x5 + 1)), (6, .int r8)] d_X7_countBlamed_50 5 rfl rfl (Nat.le_of_ble_eq_true rfl) rfl rfl ?_
          refine aw_goto (tgt := 6) d_X7_countBlamed_53 rfl ?_
          exact aw_lvp [0, 1, 2, 3, 4, 5] [(0, .ref 16), (1, .int x1), (2, .int x2), (3, .int x3), (4, .int (x4 + 1)), (5, .int (x5 + 1))] rfl k
theorem t_X8_readPoint (d : Nat) (h : Hp_) (w : Wf h)  (K : Int32 → Hp_ → Prop) (k : Ci (m_X8_readNumber (d + 1) 0 0) [.ref 11, .int 0, .int 15] h (fun r3 h1 => Wf h1 ∧ ((r3 = (-1) → K 0 h1) ∧ (¬ r3 = (-1) → Ci (m_X8_readNumber (d + 1) 0 0) [.ref 11, .int 0, .int 1440] h1 (fun r7 h5 => Wf h5 ∧ (Ci (m_X8_addStep (d + 1) 0 0) [.ref 11, .int 2, .int r3, .int r7] h5 (fun r10 h8 => Wf h8 ∧ ((r10 = 0 → K 0 h8) ∧ (¬ r10 = 0 → K 1 h8))))))))) : Ci (m_X8_readPoint (d + 2) 0 0) [.ref 11] h K := by
  refine Ct.of (fun _ _ _ => trivial) rfl (Nat.le_of_ble_eq_true rfl) ?_
  show AW (m_X8_readPoint (d + 2) 0 0) 0 0 0 [(0, .ref 11)] [] h (kI K)
  refine aw_aload_n (i := 0) rfl d_X8_readPoint_0 0 rfl ?_
  refine aw_iconst (v := 0) d_X8_readPoint_1 ic_0 ?_
  refine aw_bipush (v := 15) d_X8_readPoint_2 ib_15 ?_
  refine aw_Vi 11 [.int 0, .int 15] [] d_X8_readPoint_4 (cV_X8_readNumber (d + 1) 0 0) kc_8 (ws_11 w) tw_689 rfl (rr0 (Nat.le_of_ble_eq_true rfl) (Nat.le_of_ble_eq_true rfl)) (Nat.le_of_ble_eq_true rfl) xs0 k (fun r3 h1 kk => ?_)
  obtain ⟨w2, k⟩ := kk
  refine aw_istore_n (i := 1) rfl [(0, .ref 11), (1, .int r3)] d_X8_readPoint_7 (Nat.le_of_ble_eq_true rfl) rfl rfl ?_
  refine aw_iload_n (i := 1) rfl d_X8_readPoint_8 1 rfl ?_
  refine aw_iconst (v := (-1)) d_X8_readPoint_9 ic_m1 ?_
  refine aw_icmp_eq (tgt := 34) d_X8_readPoint_10 rfl (fun c4 => ?_) (fun c4 => ?_)
  · have k := k.1 c4
    refine aw_iconst (v := 0) d_X8_readPoint_34 ic_0 ?_
    exact aw_zret rfl rfl d_X8_readPoint_35 ⟨Nat.le_refl _, Nat.le_refl _⟩ ⟨_, rfl, k⟩
  · have k := k.2 c4
    refine aw_aload_n (i := 0) rfl d_X8_readPoint_13 0 rfl ?_
    refine aw_iconst (v := 2) d_X8_readPoint_14 ic_2 ?_
    refine aw_iload_n (i := 1) rfl d_X8_readPoint_15 1 rfl ?_
    refine aw_aload_n (i := 0) rfl d_X8_readPoint_16 0 rfl ?_
    refine aw_iconst (v := 0) d_X8_readPoint_17 ic_0 ?_
    refine aw_sipush (v := 1440) d_X8_readPoint_18 is_1440 ?_
    refine aw_Vi 11 [.int 0, .int 1440] [.int r3, .int 2, .ref 11] d_X8_readPoint_21 (cV_X8_readNumber (d + 1) 0 0) kc_8 (ws_11 w2) tw_689 rfl (rr0 (Nat.le_of_ble_eq_true rfl) (Nat.le_of_ble_eq_true rfl)) (Nat.le_of_ble_eq_true rfl) xs0 k (fun r7 h5 kk => ?_)
    obtain ⟨w6, k⟩ := kk
    refine aw_Vi 11 [.int 2, .int r3, .int r7] [] d_X8_readPoint_24 (cV_X8_addStep (d + 1) 0 0) kc_8 (ws_11 w6) tw_696 rfl (rr0 (Nat.le_of_ble_eq_true rfl) (Nat.le_of_ble_eq_true rfl)) (Nat.le_of_ble_eq_true rfl) xs0 k (fun r10 h8 kk => ?_)
    obtain ⟨w9, k⟩ := kk
    refine aw_if_eq (tgt := 34) d_X8_readPoint_27 rfl (fun c11 => ?_) (fun c11 => ?_)
    · have k := k.1 c11
      refine aw_iconst (v := 0) d_X8_readPoint_34 ic_0 ?_
      exact aw_zret rfl rfl d_X8_readPoint_35 ⟨Nat.le_refl _, Nat.le_refl _⟩ ⟨_, rfl, k⟩
    · have k := k.2 c11
      refine aw_iconst (v := 1) d_X8_readPoint_30 ic_1 ?_
      refine aw_goto (tgt := 35) d_X8_readPoint_31 rfl ?_
      exact aw_zret rfl rfl d_X8_readPoint_35 ⟨Nat.le_refl _, Nat.le_refl _⟩ ⟨_, rfl, k⟩
theorem t_X8_endClause (d : Nat) (h : Hp_) (w : Wf h) (x1 : Int32) (K : Hp_ → Prop) (k : Ci (m_X8_emit (d + 1) 0 0) [.ref 11, .int 4, .int 0] h (fun r3 h1 => Wf h1 ∧ ((¬ (0 ≤ x1 ∧ x1 ≤ ((h_i h1 11 9) - 1)) → K h1) ∧ ((0 ≤ x1 ∧ x1 ≤ ((h_i h1 11 9) - 1)) → Ci (m_X10_pack (d + 0) 0 0) [.int 3, .int (h_i h1 11 9)] h1 (fun r9 h7 => Wf h7 ∧ (vp_in x1 164 ∧ (K (h_im h7 33 x1.toNatClampNeg r9)))))))) : Cv (m_X8_endClause (d + 2) 0 0) [.ref 11, .int x1] h K := by
  refine Ct.of (fun _ _ _ => trivial) rfl (Nat.le_of_ble_eq_true rfl) ?_
  show AW (m_X8_endClause (d + 2) 0 0) 0 0 0 [(0, .ref 11), (1, .int x1)] [] h (kV K)
  refine aw_aload_n (i := 0) rfl d_X8_endClause_0 0 rfl ?_
  refine aw_iconst (v := 4) d_X8_endClause_1 ic_4 ?_
  refine aw_iconst (v := 0) d_X8_endClause_2 ic_0 ?_
  refine aw_Vi 11 [.int 4, .int 0] [] d_X8_endClause_3 (cV_X8_emit (d + 1) 0 0) kc_8 (ws_11 w) tw_753 rfl (rr0 (Nat.le_of_ble_eq_true rfl) (Nat.le_of_ble_eq_true rfl)) (Nat.le_of_ble_eq_true rfl) xs0 k (fun r3 h1 kk => ?_)
  obtain ⟨w2, k⟩ := kk
  refine aw_pop d_X8_endClause_6 rfl ?_
  refine aw_iload_n (i := 1) rfl d_X8_endClause_7 1 rfl ?_
  refine aw_iconst (v := 0) d_X8_endClause_8 ic_0 ?_
  refine aw_aload_n (i := 0) rfl d_X8_endClause_9 0 rfl ?_
  refine aw_geti (k0 := 9) kc_8 (ws_11 w2) (Nat.le_of_ble_eq_true rfl) tw_74 d_X8_endClause_10 rfl ?_
  refine aw_iconst (v := 1) d_X8_endClause_13 ic_1 ?_
  refine aw_isub d_X8_endClause_14 ?_
  refine aw_SNi [.int x1, .int 0, .int ((h_i h1 11 9) - 1)] [] d_X8_endClause_15 (cS_X11_within (d + 0) 0 0) (List.mem_of_getElem? (i := 8) rfl) rfl (rr0 (Nat.le_of_ble_eq_true rfl) (Nat.le_of_ble_eq_true rfl)) (Nat.le_of_ble_eq_true rfl) xs0 (s_X11_within _ _ x1 0 ((h_i h1 11 9) - 1)) (fun _ _ kk => ?_)
  obtain ⟨e4, e5⟩ := kk
  rw [e4, e5]
  refine aw_ifb_eq (tgt := 35) d_X8_endClause_18 rfl (fun c6 => ?_) (fun c6 => ?_)
  · have k := k.1 c6
    exact aw_vret rfl d_X8_endClause_35 ⟨Nat.le_refl _, Nat.le_refl _⟩ ⟨rfl, k⟩
  · have k := k.2 c6
    refine aw_aload_n (i := 0) rfl d_X8_endClause_21 0 rfl ?_
    refine aw_getr (k0 := 8) kc_8 (ws_11 w2) (Nat.le_of_ble_eq_true rfl) tw_71 d_X8_endClause_22 rfl (wr_11_8 w2) ?_
    refine aw_iload_n (i := 1) rfl d_X8_endClause_25 1 rfl ?_
    refine aw_iconst (v := 3) d_X8_endClause_26 ic_3 ?_
    refine aw_aload_n (i := 0) rfl d_X8_endClause_27 0 rfl ?_
    refine aw_geti (k0 := 9) kc_8 (ws_11 w2) (Nat.le_of_ble_eq_true rfl) tw_74 d_X8_endClause_28 rfl ?_
    refine aw_Si [.int 3, .int (h_i h1 11 9)] [.int x1, .ref 33] d_X8_endClause_31 (cS_X10_pack (d + 0) 0 0) tw_757 rfl (rr0 (Nat.le_of_ble_eq_true rfl) (Nat.le_of_ble_eq_true rfl)) (Nat.le_of_ble_eq_true rfl) xs0 k (fun r9 h7 kk => ?_)
    obtain ⟨w8, k⟩ := kk
    obtain ⟨b10, k⟩ := k
    refine aw_iast (ws_33 w8) b10 d_X8_endClause_34 ?_
    exact aw_vret rfl d_X8_endClause_35 ⟨Nat.le_refl _, Nat.le_refl _⟩ ⟨rfl, k⟩
theorem t_X10_answer_13 (d : Nat) (h : Hp_) (w : Wf h) (x1 : Int32) (x3 : Int32) (K : Int32 → Hp_ → Prop) (k : ((0 ≤ x1 ∧ x1 ≤ ((h_i h 13 5) - 1)) → AW (m_X10_answer (d + 2) 0 0) 0 0 22 [(0, .ref 13), (1, .int x1), (2, .ref 70), (3, .int x3), (4, .int 0), (5, .int 0)] [] h (kI K)) ∧ (¬ (0 ≤ x1 ∧ x1 ≤ ((h_i h 13 5) - 1)) → K 0 h)) : Ci (m_X10_answer (d + 2) 0 0) [.ref 13, .int x1, .ref 70, .int x3] h K := by
  refine Ct.of (fun _ _ _ => trivial) rfl (Nat.le_of_ble_eq_true rfl) ?_
  show AW (m_X10_answer (d + 2) 0 0) 0 0 0 [(0, .ref 13), (1, .int x1), (2, .ref 70), (3, .int x3)] [] h (kI K)
  refine aw_iload_n (i := 1) rfl d_X10_answer_0 1 rfl ?_
  refine aw_iconst (v := 0) d_X10_answer_1 ic_0 ?_
  refine aw_aload_n (i := 0) rfl d_X10_answer_2 0 rfl ?_
  refine aw_geti (k0 := 5) kc_10 (ws_13 w) (Nat.le_of_ble_eq_true rfl) tw_129 d_X10_answer_3 rfl ?_
  refine aw_iconst (v := 1) d_X10_answer_6 ic_1 ?_
  refine aw_isub d_X10_answer_7 ?_
  refine aw_SNi [.int x1, .int 0, .int ((h_i h 13 5) - 1)] [] d_X10_answer_8 (cS_X11_within (d + 0) 0 0) (List.mem_of_getElem? (i := 11) rfl) rfl (rr0 (Nat.le_of_ble_eq_true rfl) (Nat.le_of_ble_eq_true rfl)) (Nat.le_of_ble_eq_true rfl) xs0 (s_X11_within _ _ x1 0 ((h_i h 13 5) - 1)) (fun _ _ kk => ?_)
  obtain ⟨e1, e2⟩ := kk
  rw [e1, e2]
  refine aw_ifb_ne (tgt := 16) d_X10_answer_11 rfl (fun c3 => ?_) (fun c3 => ?_)
  · have k := k.1 c3
    refine aw_iconst (v := 0) d_X10_answer_16 ic_0 ?_
    refine aw_istore [(0, .ref 13), (1, .int x1), (2, .ref 70), (3, .int x3), (4, .int 0)] d_X10_answer_17 (Nat.le_of_ble_eq_true rfl) rfl rfl ?_
    refine aw_iconst (v := 0) d_X10_answer_19 ic_0 ?_
    refine aw_istore [(0, .ref 13), (1, .int x1), (2, .ref 70), (3, .int x3), (4, .int 0), (5, .int 0)] d_X10_answer_20 (Nat.le_of_ble_eq_true rfl) rfl rfl ?_
    exact k
  · have k := k.2 c3
    refine aw_iconst (v := 0) d_X10_answer_14 ic_0 ?_
    exact aw_iret rfl d_X10_answer_15 ⟨Nat.le_refl _, Nat.le_refl _⟩ ⟨_, rfl, k⟩
theorem t_X10_answer_13_22 (d : Nat) (h : Hp_) (w : Wf h) (x1 : Int32) (x3 : Int32) (x4 : Int32) (x5 : Int32) (K : Int32 → Hp_ → Prop) (k : vp_in x1 20 ∧ (((h_i h 39 x1.toNatClampNeg) ≤ x5 → K 0 h) ∧ (¬ (h_i h 39 x1.toNatClampNeg) ≤ x5 → vp_in ((x1 * 164) + x5) 3280 ∧ (vp_in ((x1 * 164) + x5) 3280 ∧ ((((h_i h 40 (((x1 * 164) + x5) : Int32).toNatClampNeg) &&& 15) = 0 → (x4 < 164 → (¬ ((h_i h 40 (((x1 * 164) + x5) : Int32).toNatClampNeg) &&& 15) = 0 → Ci (m_X10_valueOf (d + 1) 0 0) [.ref 70, .int (x3 + ((h_i h 40 (((x1 * 164) + x5) : Int32).toNatClampNeg) >>> ((4 : Int32) &&& 31)))] h (fun r13 h11 => Wf h11 ∧ (vp_in x4 164 ∧ (AW (m_X10_answer (d + 2) 0 0) 0 0 22 [(0, .ref 13), (1, .int x1), (2, .ref 70), (3, .int x3), (4, .int (x4 + 1)), (5, .int (x5 + 1))] [] (h_im h11 41 x4.toNatClampNeg r13) (kI K))))) ∧ (((h_i h 40 (((x1 * 164) + x5) : Int32).toNatClampNeg) &&& 15) = 0 → vp_in x4 164 ∧ (AW (m_X10_answer (d + 2) 0 0) 0 0 22 [(0, .ref 13), (1, .int x1), (2, .ref 70), (3, .int x3), (4, .int (x4 + 1)), (5, .int (x5 + 1))] [] (h_im h 41 x4.toNatClampNeg ((h_i h 40 (((x1 * 164) + x5) : Int32).toNatClampNeg) >>> ((4 : Int32) &&& 31))) (kI K)))) ∧ (¬ x4 < 164 → K 0 h)) ∧ (¬ ((h_i h 40 (((x1 * 164) + x5) : Int32).toNatClampNeg) &&& 15) = 0 → (¬ ((h_i h 40 (((x1 * 164) + x5) : Int32).toNatClampNeg) &&& 15) = 1 → (((h_i h 40 (((x1 * 164) + x5) : Int32).toNatClampNeg) &&& 15) < 5 → (1 ≤ x4 → (¬ ((h_i h 40 (((x1 * 164) + x5) : Int32).toNatClampNeg) &&& 15) = 2 → (¬ ((h_i h 40 (((x1 * 164) + x5) : Int32).toNatClampNeg) &&& 15) = 4 → vp_in (x4 + (-1)) 164 ∧ ((¬ (h_i h 41 ((x4 + (-1)) : Int32).toNatClampNeg) = 0 → AW (m_X10_answer (d + 2) 0 0) 0 0 22 [(0, .ref 13), (1, .int x1), (2, .ref 70), (3, .int x3), (4, .int (x4 + (-1))), (5, .int (x5 + 1))] [] h (kI K)) ∧ ((h_i h 41 ((x4 + (-1)) : Int32).toNatClampNeg) = 0 → Ci (m_J9_max_7cf53 (d + 0) 0 0) [.int x5, .int (((h_i h 40 (((x1 * 164) + x5) : Int32).toNatClampNeg) >>> ((4 : Int32) &&& 31)) - 1)] h (fun r25 h23 => Wf h23 ∧ (AW (m_X10_answer (d + 2) 0 0) 0 0 22 [(0, .ref 13), (1, .int x1), (2, .ref 70), (3, .int x3), (4, .int (x4 + (-1))), (5, .int (r25 + 1))] [] h23 (kI K)))))) ∧ (((h_i h 40 (((x1 * 164) + x5) : Int32).toNatClampNeg) &&& 15) = 4 → vp_in (x4 - 1) 164 ∧ (K (h_i h 41 ((x4 - 1) : Int32).toNatClampNeg) h))) ∧ (((h_i h 40 (((x1 * 164) + x5) : Int32).toNatClampNeg) &&& 15) = 2 → vp_in (x4 - 1) 164 ∧ (vp_in (x4 - 1) 164 ∧ (AW (m_X10_answer (d + 2) 0 0) 0 0 22 [(0, .ref 13), (1, .int x1), (2, .ref 70), (3, .int x3), (4, .int x4), (5, .int (x5 + 1))] [] (h_im h 41 ((x4 - 1) : Int32).toNatClampNeg (1 - (h_i h 41 ((x4 - 1) : Int32).toNatClampNeg))) (kI K))))) ∧ (¬ 1 ≤ x4 → K 0 h)) ∧ (¬ ((h_i h 40 (((x1 * 164) + x5) : Int32).toNatClampNeg) &&& 15) < 5 → (2 ≤ x4 → vp_in ((x4 + (-1)) - 1) 164 ∧ (vp_in (x4 + (-1)) 164 ∧ (Ci (m_X10_combine (d + 1) 0 0) [.int ((h_i h 40 (((x1 * 164) + x5) : Int32).toNatClampNeg) &&& 15), .int (h_i h 41 (((x4 + (-1)) - 1) : Int32).toNatClampNeg), .int (h_i h 41 ((x4 + (-1)) : Int32).toNatClampNeg)] h (fun r34 h32 => Wf h32 ∧ (vp_in ((x4 + (-1)) - 1) 164 ∧ (AW (m_X10_answer (d + 2) 0 0) 0 0 22 [(0, .ref 13), (1, .int x1), (2, .ref 70), (3, .int x3), (4, .int (x4 + (-1))), (5, .int (x5 + 1))] [] (h_im h32 41 (((x4 + (-1)) - 1) : Int32).toNatClampNeg r34) (kI K))))))) ∧ (¬ 2 ≤ x4 → K 0 h))) ∧ (((h_i h 40 (((x1 * 164) + x5) : Int32).toNatClampNeg) &&& 15) = 1 → (x4 < 164 → (¬ ((h_i h 40 (((x1 * 164) + x5) : Int32).toNatClampNeg) &&& 15) = 0 → Ci (m_X10_valueOf (d + 1) 0 0) [.ref 70, .int (x3 + ((h_i h 40 (((x1 * 164) + x5) : Int32).toNatClampNeg) >>> ((4 : Int32) &&& 31)))] h (fun r40 h38 => Wf h38 ∧ (vp_in x4 164 ∧ (AW (m_X10_answer (d + 2) 0 0) 0 0 22 [(0, .ref 13), (1, .int x1), (2, .ref 70), (3, .int x3), (4, .int (x4 + 1)), (5, .int (x5 + 1))] [] (h_im h38 41 x4.toNatClampNeg r40) (kI K))))) ∧ (((h_i h 40 (((x1 * 164) + x5) : Int32).toNatClampNeg) &&& 15) = 0 → vp_in x4 164 ∧ (AW (m_X10_answer (d + 2) 0 0) 0 0 22 [(0, .ref 13), (1, .int x1), (2, .ref 70), (3, .int x3), (4, .int (x4 + 1)), (5, .int (x5 + 1))] [] (h_im h 41 x4.toNatClampNeg ((h_i h 40 (((x1 * 164) + x5) : Int32).toNatClampNeg) >>> ((4 : Int32) &&& 31))) (kI K)))) ∧ (¬ x4 < 164 → K 0 h)))))))) : AW (m_X10_answer (d + 2) 0 0) 0 0 22 [(0, .ref 13), (1, .int x1), (2, .ref 70), (3, .int x3), (4, .int x4), (5, .int x5)] [] h (kI K) := by
  refine aw_iload d_X10_answer_22 5 rfl ?_
  refine aw_aload_n (i := 0) rfl d_X10_answer_24 0 rfl ?_
  refine aw_getr (k0 := 2) kc_10 (ws_13 w) (Nat.le_of_ble_eq_true rfl) tw_126 d_X10_answer_25 rfl (wr_13_2 w) ?_
  refine aw_iload_n (i := 1) rfl d_X10_answer_28 1 rfl ?_
  obtain ⟨b4, k⟩ := k
  refine aw_iald (ws_39 w) b4 d_X10_answer_29 ?_
  refine aw_icmp_ge (tgt := 260) d_X10_answer_30 rfl (fun c5 => ?_) (fun c5 => ?_)
  · have k := k.1 c5
    refine aw_iconst (v := 0) d_X10_answer_260 ic_0 ?_
    exact aw_iret rfl d_X10_answer_261 ⟨Nat.le_refl _, Nat.le_refl _⟩ ⟨_, rfl, k⟩
  · have k := k.2 c5
    refine aw_aload_n (i := 0) rfl d_X10_answer_33 0 rfl ?_
    refine aw_getr (k0 := 3) kc_10 (ws_13 w) (Nat.le_of_ble_eq_true rfl) tw_127 d_X10_answer_34 rfl (wr_13_3 w) ?_
    refine aw_iload_n (i := 1) rfl d_X10_answer_37 1 rfl ?_
    refine aw_sipush (v := 164) d_X10_answer_38 is_164 ?_
    refine aw_imul d_X10_answer_41 ?_
    refine aw_iload d_X10_answer_42 5 rfl ?_
    refine aw_iadd d_X10_answer_44 ?_
    obtain ⟨b6, k⟩ := k
    refine aw_iald (ws_40 w) b6 d_X10_answer_45 ?_
    refine aw_bipush (v := 15) d_X10_answer_46 ib_15 ?_
    refine aw_iand d_X10_answer_48 ?_
    refine aw_istore [(0, .ref 13), (1, .int x1), (2, .ref 70), (3, .int x3), (4, .int x4), (5, .int x5), (6, .int ((h_i h 40 (((x1 * 164) + x5) : Int32).toNatClampNeg) &&& 15))] d_X10_answer_49 (Nat.le_of_ble_eq_true rfl) rfl rfl ?_
    refine aw_aload_n (i := 0) rfl d_X10_answer_51 0 rfl ?_
    refine aw_getr (k0 := 3) kc_10 (ws_13 w) (Nat.le_of_ble_eq_true rfl) tw_127 d_X10_answer_52 rfl (wr_13_3 w) ?_
    refine aw_iload_n (i := 1) rfl d_X10_answer_55 1 rfl ?_
    refine aw_sipush (v := 164) d_X10_answer_56 is_164 ?_
    refine aw_imul d_X10_answer_59 ?_
    refine aw_iload d_X10_answer_60 5 rfl ?_
    refine aw_iadd d_X10_answer_62 ?_
    obtain ⟨b7, k⟩ := k
    refine aw_iald (ws_40 w) b7 d_X10_answer_63 ?_
    refine aw_iconst (v := 4) d_X10_answer_64 ic_4 ?_
    refine aw_ishr d_X10_answer_65 ?_
    refine aw_istore [(0, .ref 13), (1, .int x1), (2, .ref 70), (3, .int x3), (4, .int x4), (5, .int x5), (6, .int ((h_i h 40 (((x1 * 164) + x5) : Int32).toNatClampNeg) &&& 15)), (7, .int ((h_i h 40 (((x1 * 164) + x5) : Int32).toNatClampNeg) >>> ((4 : Int32) &&& 31)))] d_X10_answer_66 (Nat.le_of_ble_eq_true rfl) rfl rfl ?_
    refine aw_iload d_X10_answer_68 6 rfl ?_
    refine aw_if_eq (tgt := 79) d_X10_answer_70 rfl (fun c8 => ?_) (fun c8 => ?_)
    · have k := k.1 c8
      refine aw_iload d_X10_answer_79 4 rfl ?_
      refine aw_aload_n (i := 0) rfl d_X10_answer_81 0 rfl ?_
      refine aw_getr (k0 := 4) kc_10 (ws_13 w) (Nat.le_of_ble_eq_true rfl) tw_128 d_X10_answer_82 rfl (wr_13_4 w) ?_
      refine aw_alen (v := 164) (ws_41 w) (Nat.le_of_ble_eq_true rfl) rfl d_X10_answer_85 ?_
      refine aw_icmp_lt (tgt := 91) d_X10_answer_86 rfl (fun c9 => ?_) (fun c9 => ?_)
      · have k := k.1 c9
        refine aw_aload_n (i := 0) rfl d_X10_answer_91 0 rfl ?_
        refine aw_getr (k0 := 4) kc_10 (ws_13 w) (Nat.le_of_ble_eq_true rfl) tw_128 d_X10_answer_92 rfl (wr_13_4 w) ?_
        refine aw_iload d_X10_answer_95 4 rfl ?_
        refine aw_iload d_X10_answer_97 6 rfl ?_
        refine aw_if_ne (tgt := 107) d_X10_answer_99 rfl (fun c10 => ?_) (fun c10 => ?_)
        · have k := k.1 c10
          refine aw_aload_n (i := 2) rfl d_X10_answer_107 2 rfl ?_
          refine aw_iload_n (i := 3) rfl d_X10_answer_108 3 rfl ?_
          refine aw_iload d_X10_answer_109 7 rfl ?_
          refine aw_iadd d_X10_answer_111 ?_
          refine aw_Si [.ref 70, .int (x3 + ((h_i h 40 (((x1 * 164) + x5) : Int32).toNatClampNeg) >>> ((4 : Int32) &&& 31)))] [.int x4, .ref 41] d_X10_answer_112 (cS_X10_valueOf (d + 1) 0 0) tw_1068 rfl (rr0 (Nat.le_of_ble_eq_true rfl) (Nat.le_of_ble_eq_true rfl)) (Nat.le_of_ble_eq_true rfl) xs0 k (fun r13 h11 kk => ?_)
          obtain ⟨w12, k⟩ := kk
          obtain ⟨b14, k⟩ := k
          refine aw_iast (ws_41 w12) b14 d_X10_answer_115 ?_
          refine aw_iinc (v := (x4 + 1)) [(0, .ref 13), (1, .int x1), (2, .ref 70), (3, .int x3), (4, .int (x4 + 1)), (5, .int x5), (6, .int ((h_i h 40 (((x1 * 164) + x5) : Int32).toNatClampNeg) &&& 15)), (7, .int ((h_i h 40 (((x1 * 164) + x5) : Int32).toNatClampNeg) >>> ((4 : Int32) &&& 31)))] d_X10_answer_116 4 rfl rfl (Nat.le_of_ble_eq_true rfl) rfl rfl ?_
          refine aw_goto (tgt := 254) d_X10_answer_119 rfl ?_
          refine aw_iinc (v := (x5 + 1)) [(0, .ref 13), (1, .int x1), (2, .ref 70), (3, .int x3), (4, .int (x4 + 1)), (5, .int (x5 + 1)), (6, .int ((h_i h 40 (((x1 * 164) + x5) : Int32).toNatClampNeg) &&& 15)), (7, .int ((h_i h 40 (((x1 * 164) + x5) : Int32).toNatClampNeg) >>> ((4 : Int32) &&& 31)))] d_X10_answer_254 5 rfl rfl (Nat.le_of_ble_eq_true rfl) rfl rfl ?_
          refine aw_goto (tgt := 22) d_X10_answer_257 rfl ?_
          exact aw_lvp [0, 1, 2, 3, 4, 5] [(0, .ref 13), (1, .int x1), (2, .ref 70), (3, .int x3), (4, .int (x4 + 1)), (5, .int (x5 + 1))] rfl k
        · have k := k.2 c10
          refine aw_iload d_X10_answer_102 7 rfl ?_
          refine aw_goto (tgt := 115) d_X10_answer_104 rfl ?_
          obtain ⟨b15, k⟩ := k
          refine aw_iast (ws_41 w) b15 d_X10_answer_115 ?_
          refine aw_iinc (v := (x4 + 1)) [(0, .ref 13), (1, .int x1), (2, .ref 70), (3, .int x3), (4, .int (x4 + 1)), (5, .int x5), (6, .int ((h_i h 40 (((x1 * 164) + x5) : Int32).toNatClampNeg) &&& 15)), (7, .int ((h_i h 40 (((x1 * 164) + x5) : Int32).toNatClampNeg) >>> ((4 : Int32) &&& 31)))] d_X10_answer_116 4 rfl rfl (Nat.le_of_ble_eq_true rfl) rfl rfl ?_
          refine aw_goto (tgt := 254) d_X10_answer_119 rfl ?_
          refine aw_iinc (v := (x5 + 1)) [(0, .ref 13), (1, .int x1), (2, .ref 70), (3, .int x3), (4, .int (x4 + 1)), (5, .int (x5 + 1)), (6, .int ((h_i h 40 (((x1 * 164) + x5) : Int32).toNatClampNeg) &&& 15)), (7, .int ((h_i h 40 (((x1 * 164) + x5) : Int32).toNatClampNeg) >>> ((4 : Int32) &&& 31)))] d_X10_answer_254 5 rfl rfl (Nat.le_of_ble_eq_true rfl) rfl rfl ?_
          refine aw_goto (tgt := 22) d_X10_answer_257 rfl ?_
          exact aw_lvp [0, 1, 2, 3, 4, 5] [(0, .ref 13), (1, .int x1), (2, .ref 70), (3, .int x3), (4, .int (x4 + 1)), (5, .int (x5 + 1))] rfl k
      · have k := k.2 c9
        refine aw_iconst (v := 0) d_X10_answer_89 ic_0 ?_
        exact aw_iret rfl d_X10_answer_90 ⟨Nat.le_refl _, Nat.le_refl _⟩ ⟨_, rfl, k⟩
    · have k := k.2 c8
      refine aw_iload d_X10_answer_73 6 rfl ?_
      refine aw_iconst (v := 1) d_X10_answer_75 ic_1 ?_
      refine aw_icmp_ne (tgt := 122) d_X10_answer_76 rfl (fun c16 => ?_) (fun c16 => ?_)
      · have k := k.1 c16
        refine aw_iload d_X10_answer_122 6 rfl ?_
        refine aw_iconst (v := 5) d_X10_answer_124 ic_5 ?_
        refine aw_icmp_lt (tgt := 172) d_X10_answer_125 rfl (fun c17 => ?_) (fun c17 => ?_)
        · have k := k.1 c17
          refine aw_iload d_X10_answer_172 4 rfl ?_
          refine aw_iconst (v := 1) d_X10_answer_174 ic_1 ?_
          refine aw_icmp_ge (tgt := 180) d_X10_answer_175 rfl (fun c18 => ?_) (fun c18 => ?_)
          · have k := k.1 c18
            refine aw_iload d_X10_answer_180 6 rfl ?_
            refine aw_iconst (v := 2) d_X10_answer_182 ic_2 ?_
            refine aw_icmp_ne (tgt := 209) d_X10_answer_183 rfl (fun c19 => ?_) (fun c19 => ?_)
            · have k := k.1 c19
              refine aw_iload d_X10_answer_209 6 rfl ?_
              refine aw_iconst (v := 4) d_X10_answer_211 ic_4 ?_
              refine aw_icmp_ne (tgt := 225) d_X10_answer_212 rfl (fun c20 => ?_) (fun c20 => ?_)
              · have k := k.1 c20
                refine aw_iinc (v := (x4 + (-1))) [(0, .ref 13), (1, .int x1), (2, .ref 70), (3, .int x3), (4, .int (x4 + (-1))), (5, .int x5), (6, .int ((h_i h 40 (((x1 * 164) + x5) : Int32).toNatClampNeg) &&& 15)), (7, .int ((h_i h 40 (((x1 * 164) + x5) : Int32).toNatClampNeg) >>> ((4 : Int32) &&& 31)))] d_X10_answer_225 4 rfl rfl (Nat.le_of_ble_eq_true rfl) rfl rfl ?_
                refine aw_aload_n (i := 0) rfl d_X10_answer_228 0 rfl ?_
                refine aw_getr (k0 := 4) kc_10 (ws_13 w) (Nat.le_of_ble_eq_true rfl) tw_128 d_X10_answer_229 rfl (wr_13_4 w) ?_
                refine aw_iload d_X10_answer_232 4 rfl ?_
                obtain ⟨b21, k⟩ := k
                refine aw_iald (ws_41 w) b21 d_X10_answer_234 ?_
                refine aw_if_ne (tgt := 250) d_X10_answer_235 rfl (fun c22 => ?_) (fun c22 => ?_)
                · have k := k.1 c22
                  refine aw_iload d_X10_answer_250 5 rfl ?_
                  refine aw_istore [(0, .ref 13), (1, .int x1), (2, .ref 70), (3, .int x3), (4, .int (x4 + (-1))), (5, .int x5), (6, .int ((h_i h 40 (((x1 * 164) + x5) : Int32).toNatClampNeg) &&& 15)), (7, .int ((h_i h 40 (((x1 * 164) + x5) : Int32).toNatClampNeg) >>> ((4 : Int32) &&& 31)))] d_X10_answer_252 (Nat.le_of_ble_eq_true rfl) rfl rfl ?_
                  refine aw_iinc (v := (x5 + 1)) [(0, .ref 13), (1, .int x1), (2, .ref 70), (3, .int x3), (4, .int (x4 + (-1))), (5, .int (x5 + 1)), (6, .int ((h_i h 40 (((x1 * 164) + x5) : Int32).toNatClampNeg) &&& 15)), (7, .int ((h_i h 40 (((x1 * 164) + x5) : Int32).toNatClampNeg) >>> ((4 : Int32) &&& 31)))] d_X10_answer_254 5 rfl rfl (Nat.le_of_ble_eq_true rfl) rfl rfl ?_
                  refine aw_goto (tgt := 22) d_X10_answer_257 rfl ?_
                  exact aw_lvp [0, 1, 2, 3, 4, 5] [(0, .ref 13), (1, .int x1), (2, .ref 70), (3, .int x3), (4, .int (x4 + (-1))), (5, .int (x5 + 1))] rfl k
                · have k := k.2 c22
                  refine aw_iload d_X10_answer_238 5 rfl ?_
                  refine aw_iload d_X10_answer_240 7 rfl ?_
                  refine aw_iconst (v := 1) d_X10_answer_242 ic_1 ?_
                  refine aw_isub d_X10_answer_243 ?_
                  refine aw_Si [.int x5, .int (((h_i h 40 (((x1 * 164) + x5) : Int32).toNatClampNeg) >>> ((4 : Int32) &&& 31)) - 1)] [] d_X10_answer_244 (cS_J9_max_7cf53 (d + 0) 0 0) tw_1081 rfl (rr0 (Nat.le_of_ble_eq_true rfl) (Nat.le_of_ble_eq_true rfl)) (Nat.le_of_ble_eq_true rfl) xs0 k (fun r25 h23 kk => ?_)
                  obtain ⟨w24, k⟩ := kk
                  refine aw_goto (tgt := 252) d_X10_answer_247 rfl ?_
                  refine aw_istore [(0, .ref 13), (1, .int x1), (2, .ref 70), (3, .int x3), (4, .int (x4 + (-1))), (5, .int r25), (6, .int ((h_i h 40 (((x1 * 164) + x5) : Int32).toNatClampNeg) &&& 15)), (7, .int ((h_i h 40 (((x1 * 164) + x5) : Int32).toNatClampNeg) >>> ((4 : Int32) &&& 31)))] d_X10_answer_252 (Nat.le_of_ble_eq_true rfl) rfl rfl ?_
                  refine aw_iinc (v := (r25 + 1)) [(0, .ref 13), (1, .int x1), (2, .ref 70), (3, .int x3), (4, .int (x4 + (-1))), (5, .int (r25 + 1)), (6, .int ((h_i h 40 (((x1 * 164) + x5) : Int32).toNatClampNeg) &&& 15)), (7, .int ((h_i h 40 (((x1 * 164) + x5) : Int32).toNatClampNeg) >>> ((4 : Int32) &&& 31)))] d_X10_answer_254 5 rfl rfl (Nat.le_of_ble_eq_true rfl) rfl rfl ?_
                  refine aw_goto (tgt := 22) d_X10_answer_257 rfl ?_
                  exact aw_lvp [0, 1, 2, 3, 4, 5] [(0, .ref 13), (1, .int x1), (2, .ref 70), (3, .int x3), (4, .int (x4 + (-1))), (5, .int (r25 + 1))] rfl k
              · have k := k.2 c20
                refine aw_aload_n (i := 0) rfl d_X10_answer_215 0 rfl ?_
                refine aw_getr (k0 := 4) kc_10 (ws_13 w) (Nat.le_of_ble_eq_true rfl) tw_128 d_X10_answer_216 rfl (wr_13_4 w) ?_
                refine aw_iload d_X10_answer_219 4 rfl ?_
                refine aw_iconst (v := 1) d_X10_answer_221 ic_1 ?_
                refine aw_isub d_X10_answer_222 ?_
                obtain ⟨b26, k⟩ := k
                refine aw_iald (ws_41 w) b26 d_X10_answer_223 ?_
                exact aw_iret rfl d_X10_answer_224 ⟨Nat.le_refl _, Nat.le_refl _⟩ ⟨_, rfl, k⟩
            · have k := k.2 c19
              refine aw_aload_n (i := 0) rfl d_X10_answer_186 0 rfl ?_
              refine aw_getr (k0 := 4) kc_10 (ws_13 w) (Nat.le_of_ble_eq_true rfl) tw_128 d_X10_answer_187 rfl (wr_13_4 w) ?_
              refine aw_iload d_X10_answer_190 4 rfl ?_
              refine aw_iconst (v := 1) d_X10_answer_192 ic_1 ?_
              refine aw_isub d_X10_answer_193 ?_
              refine aw_iconst (v := 1) d_X10_answer_194 ic_1 ?_
              refine aw_aload_n (i := 0) rfl d_X10_answer_195 0 rfl ?_
              refine aw_getr (k0 := 4) kc_10 (ws_13 w) (Nat.le_of_ble_eq_true rfl) tw_128 d_X10_answer_196 rfl (wr_13_4 w) ?_
              refine aw_iload d_X10_answer_199 4 rfl ?_
              refine aw_iconst (v := 1) d_X10_answer_201 ic_1 ?_
              refine aw_isub d_X10_answer_202 ?_
              obtain ⟨b27, k⟩ := k
              refine aw_iald (ws_41 w) b27 d_X10_answer_203 ?_
              refine aw_isub d_X10_answer_204 ?_
              obtain ⟨b28, k⟩ := k
              refine aw_iast (ws_41 w) b28 d_X10_answer_205 ?_
              refine aw_goto (tgt := 254) d_X10_answer_206 rfl ?_
              refine aw_iinc (v := (x5 + 1)) [(0, .ref 13), (1, .int x1), (2, .ref 70), (3, .int x3), (4, .int x4), (5, .int (x5 + 1)), (6, .int ((h_i h 40 (((x1 * 164) + x5) : Int32).toNatClampNeg) &&& 15)), (7, .int ((h_i h 40 (((x1 * 164) + x5) : Int32).toNatClampNeg) >>> ((4 : Int32) &&& 31)))] d_X10_answer_254 5 rfl rfl (Nat.le_of_ble_eq_true rfl) rfl rfl ?_
              refine aw_goto (tgt := 22) d_X10_answer_257 rfl ?_
              exact aw_lvp [0, 1, 2, 3, 4, 5] [(0, .ref 13), (1, .int x1), (2, .ref 70), (3, .int x3), (4, .int x4), (5, .int (x5 + 1))] rfl k
          · have k := k.2 c18
            refine aw_iconst (v := 0) d_X10_answer_178 ic_0 ?_
            exact aw_iret rfl d_X10_answer_179 ⟨Nat.le_refl _, Nat.le_refl _⟩ ⟨_, rfl, k⟩
        · have k := k.2 c17
          refine aw_iload d_X10_answer_128 4 rfl ?_
          refine aw_iconst (v := 2) d_X10_answer_130 ic_2 ?_
          refine aw_icmp_ge (tgt := 136) d_X10_answer_131 rfl (fun c29 => ?_) (fun c29 => ?_)
          · have k := k.1 c29
            refine aw_iinc (v := (x4 + (-1))) [(0, .ref 13), (1, .int x1), (2, .ref 70), (3, .int x3), (4, .int (x4 + (-1))), (5, .int x5), (6, .int ((h_i h 40 (((x1 * 164) + x5) : Int32).toNatClampNeg) &&& 15)), (7, .int ((h_i h 40 (((x1 * 164) + x5) : Int32).toNatClampNeg) >>> ((4 : Int32) &&& 31)))] d_X10_answer_136 4 rfl rfl (Nat.le_of_ble_eq_true rfl) rfl rfl ?_
            refine aw_aload_n (i := 0) rfl d_X10_answer_139 0 rfl ?_
            refine aw_getr (k0 := 4) kc_10 (ws_13 w) (Nat.le_of_ble_eq_true rfl) tw_128 d_X10_answer_140 rfl (wr_13_4 w) ?_
            refine aw_iload d_X10_answer_143 4 rfl ?_
            refine aw_iconst (v := 1) d_X10_answer_145 ic_1 ?_
            refine aw_isub d_X10_answer_146 ?_
            refine aw_iload d_X10_answer_147 6 rfl ?_
            refine aw_aload_n (i := 0) rfl d_X10_answer_149 0 rfl ?_
            refine aw_getr (k0 := 4) kc_10 (ws_13 w) (Nat.le_of_ble_eq_true rfl) tw_128 d_X10_answer_150 rfl (wr_13_4 w) ?_
            refine aw_iload d_X10_answer_153 4 rfl ?_
            refine aw_iconst (v := 1) d_X10_answer_155 ic_1 ?_
            refine aw_isub d_X10_answer_156 ?_
            obtain ⟨b30, k⟩ := k
            refine aw_iald (ws_41 w) b30 d_X10_answer_157 ?_
            refine aw_aload_n (i := 0) rfl d_X10_answer_158 0 rfl ?_
            refine aw_getr (k0 := 4) kc_10 (ws_13 w) (Nat.le_of_ble_eq_true rfl) tw_128 d_X10_answer_159 rfl (wr_13_4 w) ?_
            refine aw_iload d_X10_answer_162 4 rfl ?_
            obtain ⟨b31, k⟩ := k
            refine aw_iald (ws_41 w) b31 d_X10_answer_164 ?_
            refine aw_Si [.int ((h_i h 40 (((x1 * 164) + x5) : Int32).toNatClampNeg) &&& 15), .int (h_i h 41 (((x4 + (-1)) - 1) : Int32).toNatClampNeg), .int (h_i h 41 ((x4 + (-1)) : Int32).toNatClampNeg)] [.int ((x4 + (-1)) - 1), .ref 41] d_X10_answer_165 (cS_X10_combine (d + 1) 0 0) tw_1071 rfl (rr0 (Nat.le_of_ble_eq_true rfl) (Nat.le_of_ble_eq_true rfl)) (Nat.le_of_ble_eq_true rfl) xs0 k (fun r34 h32 kk => ?_)
            obtain ⟨w33, k⟩ := kk
            obtain ⟨b35, k⟩ := k
            refine aw_iast (ws_41 w33) b35 d_X10_answer_168 ?_
            refine aw_goto (tgt := 254) d_X10_answer_169 rfl ?_
            refine aw_iinc (v := (x5 + 1)) [(0, .ref 13), (1, .int x1), (2, .ref 70), (3, .int x3), (4, .int (x4 + (-1))), (5, .int (x5 + 1)), (6, .int ((h_i h 40 (((x1 * 164) + x5) : Int32).toNatClampNeg) &&& 15)), (7, .int ((h_i h 40 (((x1 * 164) + x5) : Int32).toNatClampNeg) >>> ((4 : Int32) &&& 31)))] d_X10_answer_254 5 rfl rfl (Nat.le_of_ble_eq_true rfl) rfl rfl ?_
            refine aw_goto (tgt := 22) d_X10_answer_257 rfl ?_
            exact aw_lvp [0, 1, 2, 3, 4, 5] [(0, .ref 13), (1, .int x1), (2, .ref 70), (3, .int x3), (4, .int (x4 + (-1))), (5, .int (x5 + 1))] rfl k
          · have k := k.2 c29
            refine aw_iconst (v := 0) d_X10_answer_134 ic_0 ?_
            exact aw_iret rfl d_X10_answer_135 ⟨Nat.le_refl _, Nat.le_refl _⟩ ⟨_, rfl, k⟩
      · have k := k.2 c16
        refine aw_iload d_X10_answer_79 4 rfl ?_
        refine aw_aload_n (i := 0) rfl d_X10_answer_81 0 rfl ?_
        refine aw_getr (k0 := 4) kc_10 (ws_13 w) (Nat.le_of_ble_eq_true rfl) tw_128 d_X10_answer_82 rfl (wr_13_4 w) ?_
        refine aw_alen (v := 164) (ws_41 w) (Nat.le_of_ble_eq_true rfl) rfl d_X10_answer_85 ?_
        refine aw_icmp_lt (tgt := 91) d_X10_answer_86 rfl (fun c36 => ?_) (fun c36 => ?_)
        · have k := k.1 c36
          refine aw_aload_n (i := 0) rfl d_X10_answer_91 0 rfl ?_
          refine aw_getr (k0 := 4) kc_10 (ws_13 w) (Nat.le_of_ble_eq_true rfl) tw_128 d_X10_answer_92 rfl (wr_13_4 w) ?_
          refine aw_iload d_X10_answer_95 4 rfl ?_
          refine aw_iload d_X10_answer_97 6 rfl ?_
          refine aw_if_ne (tgt := 107) d_X10_answer_99 rfl (fun c37 => ?_) (fun c37 => ?_)
          · have k := k.1 c37
            refine aw_aload_n (i := 2) rfl d_X10_answer_107 2 rfl ?_
            refine aw_iload_n (i := 3) rfl d_X10_answer_108 3 rfl ?_
            refine aw_iload d_X10_answer_109 7 rfl ?_
            refine aw_iadd d_X10_answer_111 ?_
            refine aw_Si [.ref 70, .int (x3 + ((h_i h 40 (((x1 * 164) + x5) : Int32).toNatClampNeg) >>> ((4 : Int32) &&& 31)))] [.int x4, .ref 41] d_X10_answer_112 (cS_X10_valueOf (d + 1) 0 0) tw_1068 rfl (rr0 (Nat.le_of_ble_eq_true rfl) (Nat.le_of_ble_eq_true rfl)) (Nat.le_of_ble_eq_true rfl) xs0 k (fun r40 h38 kk => ?_)
            obtain ⟨w39, k⟩ := kk
            obtain ⟨b41, k⟩ := k
            refine aw_iast (ws_41 w39) b41 d_X10_answer_115 ?_
            refine aw_iinc (v := (x4 + 1)) [(0, .ref 13), (1, .int x1), (2, .ref 70), (3, .int x3), (4, .int (x4 + 1)), (5, .int x5), (6, .int ((h_i h 40 (((x1 * 164) + x5) : Int32).toNatClampNeg) &&& 15)), (7, .int ((h_i h 40 (((x1 * 164) + x5) : Int32).toNatClampNeg) >>> ((4 : Int32) &&& 31)))] d_X10_answer_116 4 rfl rfl (Nat.le_of_ble_eq_true rfl) rfl rfl ?_
            refine aw_goto (tgt := 254) d_X10_answer_119 rfl ?_
            refine aw_iinc (v := (x5 + 1)) [(0, .ref 13), (1, .int x1), (2, .ref 70), (3, .int x3), (4, .int (x4 + 1)), (5, .int (x5 + 1)), (6, .int ((h_i h 40 (((x1 * 164) + x5) : Int32).toNatClampNeg) &&& 15)), (7, .int ((h_i h 40 (((x1 * 164) + x5) : Int32).toNatClampNeg) >>> ((4 : Int32) &&& 31)))] d_X10_answer_254 5 rfl rfl (Nat.le_of_ble_eq_true rfl) rfl rfl ?_
            refine aw_goto (tgt := 22) d_X10_answer_257 rfl ?_
            exact aw_lvp [0, 1, 2, 3, 4, 5] [(0, .ref 13), (1, .int x1), (2, .ref 70), (3, .int x3), (4, .int (x4 + 1)), (5, .int (x5 + 1))] rfl k
          · have k := k.2 c37
            refine aw_iload d_X10_answer_102 7 rfl ?_
            refine aw_goto (tgt := 115) d_X10_answer_104 rfl ?_
            obtain ⟨b42, k⟩ := k
            refine aw_iast (ws_41 w) b42 d_X10_answer_115 ?_
            refine aw_iinc (v := (x4 + 1)) [(0, .ref 13), (1, .int x1), (2, .ref 70), (3, .int x3), (4, .int (x4 + 1)), (5, .int x5), (6, .int ((h_i h 40 (((x1 * 164) + x5) : Int32).toNatClampNeg) &&& 15)), (7, .int ((h_i h 40 (((x1 * 164) + x5) : Int32).toNatClampNeg) >>> ((4 : Int32) &&& 31)))] d_X10_answer_116 4 rfl rfl (Nat.le_of_ble_eq_true rfl) rfl rfl ?_
            refine aw_goto (tgt := 254) d_X10_answer_119 rfl ?_
            refine aw_iinc (v := (x5 + 1)) [(0, .ref 13), (1, .int x1), (2, .ref 70), (3, .int x3), (4, .int (x4 + 1)), (5, .int (x5 + 1)), (6, .int ((h_i h 40 (((x1 * 164) + x5) : Int32).toNatClampNeg) &&& 15)), (7, .int ((h_i h 40 (((x1 * 164) + x5) : Int32).toNatClampNeg) >>> ((4 : Int32) &&& 31)))] d_X10_answer_254 5 rfl rfl (Nat.le_of_ble_eq_true rfl) rfl rfl ?_
            refine aw_goto (tgt := 22) d_X10_answer_257 rfl ?_
            exact aw_lvp [0, 1, 2, 3, 4, 5] [(0, .ref 13), (1, .int x1), (2, .ref 70), (3, .int x3), (4, .int (x4 + 1)), (5, .int (x5 + 1))] rfl k
        · have k := k.2 c36
          refine aw_iconst (v := 0) d_X10_answer_89 ic_0 ?_
          exact aw_iret rfl d_X10_answer_90 ⟨Nat.le_refl _, Nat.le_refl _⟩ ⟨_, rfl, k⟩
theorem t_X10_answer_14 (d : Nat) (h : Hp_) (w : Wf h) (x1 : Int32) (x3 : Int32) (K : Int32 → Hp_ → Prop) (k : ((0 ≤ x1 ∧ x1 ≤ ((h_i h 14 5) - 1)) → AW (m_X10_answer (d + 2) 0 0) 0 0 22 [(0, .ref 14), (1, .int x1), (2, .ref 108), (3, .int x3), (4, .int 0), (5, .int 0)] [] h (kI K)) ∧ (¬ (0 ≤ x1 ∧ x1 ≤ ((h_i h 14 5) - 1)) → K 0 h)) : Ci (m_X10_answer (d + 2) 0 0) [.ref 14, .int x1, .ref 108, .int x3] h K := by
  refine Ct.of (fun _ _ _ => trivial) rfl (Nat.le_of_ble_eq_true rfl) ?_
  show AW (m_X10_answer (d + 2) 0 0) 0 0 0 [(0, .ref 14), (1, .int x1), (2, .ref 108), (3, .int x3)] [] h (kI K)
  refine aw_iload_n (i := 1) rfl d_X10_answer_0 1 rfl ?_
  refine aw_iconst (v := 0) d_X10_answer_1 ic_0 ?_
  refine aw_aload_n (i := 0) rfl d_X10_answer_2 0 rfl ?_
  refine aw_geti (k0 := 5) kc_10 (ws_14 w) (Nat.le_of_ble_eq_true rfl) tw_129 d_X10_answer_3 rfl ?_
  refine aw_iconst (v := 1) d_X10_answer_6 ic_1 ?_
  refine aw_isub d_X10_answer_7 ?_
  refine aw_SNi [.int x1, .int 0, .int ((h_i h 14 5) - 1)] [] d_X10_answer_8 (cS_X11_within (d + 0) 0 0) (List.mem_of_getElem? (i := 11) rfl) rfl (rr0 (Nat.le_of_ble_eq_true rfl) (Nat.le_of_ble_eq_true rfl)) (Nat.le_of_ble_eq_true rfl) xs0 (s_X11_within _ _ x1 0 ((h_i h 14 5) - 1)) (fun _ _ kk => ?_)
  obtain ⟨e1, e2⟩ := kk
  rw [e1, e2]
  refine aw_ifb_ne (tgt := 16) d_X10_answer_11 rfl (fun c3 => ?_) (fun c3 => ?_)
  · have k := k.1 c3
    refine aw_iconst (v := 0) d_X10_answer_16 ic_0 ?_
    refine aw_istore [(0, .ref 14), (1, .int x1), (2, .ref 108), (3, .int x3), (4, .int 0)] d_X10_answer_17 (Nat.le_of_ble_eq_true rfl) rfl rfl ?_
    refine aw_iconst (v := 0) d_X10_answer_19 ic_0 ?_
    refine aw_istore [(0, .ref 14), (1, .int x1), (2, .ref 108), (3, .int x3), (4, .int 0), (5, .int 0)] d_X10_answer_20 (Nat.le_of_ble_eq_true rfl) rfl rfl ?_
    exact k
  · have k := k.2 c3
    refine aw_iconst (v := 0) d_X10_answer_14 ic_0 ?_
    exact aw_iret rfl d_X10_answer_15 ⟨Nat.le_refl _, Nat.le_refl _⟩ ⟨_, rfl, k⟩
theorem t_X10_answer_14_22 (d : Nat) (h : Hp_) (w : Wf h) (x1 : Int32) (x3 : Int32) (x4 : Int32) (x5 : Int32) (K : Int32 → Hp_ → Prop) (k : vp_in x1 20 ∧ (((h_i h 44 x1.toNatClampNeg) ≤ x5 → K 0 h) ∧ (¬ (h_i h 44 x1.toNatClampNeg) ≤ x5 → vp_in ((x1 * 164) + x5) 3280 ∧ (vp_in ((x1 * 164) + x5) 3280 ∧ ((((h_i h 45 (((x1 * 164) + x5) : Int32).toNatClampNeg) &&& 15) = 0 → (x4 < 164 → (¬ ((h_i h 45 (((x1 * 164) + x5) : Int32).toNatClampNeg) &&& 15) = 0 → Ci (m_X10_valueOf (d + 1) 0 0) [.ref 108, .int (x3 + ((h_i h 45 (((x1 * 164) + x5) : Int32).toNatClampNeg) >>> ((4 : Int32) &&& 31)))] h (fun r13 h11 => Wf h11 ∧ (vp_in x4 164 ∧ (AW (m_X10_answer (d + 2) 0 0) 0 0 22 [(0, .ref 14), (1, .int x1), (2, .ref 108), (3, .int x3), (4, .int (x4 + 1)), (5, .int (x5 + 1))] [] (h_im h11 46 x4.toNatClampNeg r13) (kI K))))) ∧ (((h_i h 45 (((x1 * 164) + x5) : Int32).toNatClampNeg) &&& 15) = 0 → vp_in x4 164 ∧ (AW (m_X10_answer (d + 2) 0 0) 0 0 22 [(0, .ref 14), (1, .int x1), (2, .ref 108), (3, .int x3), (4, .int (x4 + 1)), (5, .int (x5 + 1))] [] (h_im h 46 x4.toNatClampNeg ((h_i h 45 (((x1 * 164) + x5) : Int32).toNatClampNeg) >>> ((4 : Int32) &&& 31))) (kI K)))) ∧ (¬ x4 < 164 → K 0 h)) ∧ (¬ ((h_i h 45 (((x1 * 164) + x5) : Int32).toNatClampNeg) &&& 15) = 0 → (¬ ((h_i h 45 (((x1 * 164) + x5) : Int32).toNatClampNeg) &&& 15) = 1 → (((h_i h 45 (((x1 * 164) + x5) : Int32).toNatClampNeg) &&& 15) < 5 → (1 ≤ x4 → (¬ ((h_i h 45 (((x1 * 164) + x5) : Int32).toNatClampNeg) &&& 15) = 2 → (¬ ((h_i h 45 (((x1 * 164) + x5) : Int32).toNatClampNeg) &&& 15) = 4 → vp_in (x4 + (-1)) 164 ∧ ((¬ (h_i h 46 ((x4 + (-1)) : Int32).toNatClampNeg) = 0 → AW (m_X10_answer (d + 2) 0 0) 0 0 22 [(0, .ref 14), (1, .int x1), (2, .ref 108), (3, .int x3), (4, .int (x4 + (-1))), (5, .int (x5 + 1))] [] h (kI K)) ∧ ((h_i h 46 ((x4 + (-1)) : Int32).toNatClampNeg) = 0 → Ci (m_J9_max_7cf53 (d + 0) 0 0) [.int x5, .int (((h_i h 45 (((x1 * 164) + x5) : Int32).toNatClampNeg) >>> ((4 : Int32) &&& 31)) - 1)] h (fun r25 h23 => Wf h23 ∧ (AW (m_X10_answer (d + 2) 0 0) 0 0 22 [(0, .ref 14), (1, .int x1), (2, .ref 108), (3, .int x3), (4, .int (x4 + (-1))), (5, .int (r25 + 1))] [] h23 (kI K)))))) ∧ (((h_i h 45 (((x1 * 164) + x5) : Int32).toNatClampNeg) &&& 15) = 4 → vp_in (x4 - 1) 164 ∧ (K (h_i h 46 ((x4 - 1) : Int32).toNatClampNeg) h))) ∧ (((h_i h 45 (((x1 * 164) + x5) : Int32).toNatClampNeg) &&& 15) = 2 → vp_in (x4 - 1) 164 ∧ (vp_in (x4 - 1) 164 ∧ (AW (m_X10_answer (d + 2) 0 0) 0 0 22 [(0, .ref 14), (1, .int x1), (2, .ref 108), (3, .int x3), (4, .int x4), (5, .int (x5 + 1))] [] (h_im h 46 ((x4 - 1) : Int32).toNatClampNeg (1 - (h_i h 46 ((x4 - 1) : Int32).toNatClampNeg))) (kI K))))) ∧ (¬ 1 ≤ x4 → K 0 h)) ∧ (¬ ((h_i h 45 (((x1 * 164) + x5) : Int32).toNatClampNeg) &&& 15) < 5 → (2 ≤ x4 → vp_in ((x4 + (-1)) - 1) 164 ∧ (vp_in (x4 + (-1)) 164 ∧ (Ci (m_X10_combine (d + 1) 0 0) [.int ((h_i h 45 (((x1 * 164) + x5) : Int32).toNatClampNeg) &&& 15), .int (h_i h 46 (((x4 + (-1)) - 1) : Int32).toNatClampNeg), .int (h_i h 46 ((x4 + (-1)) : Int32).toNatClampNeg)] h (fun r34 h32 => Wf h32 ∧ (vp_in ((x4 + (-1)) - 1) 164 ∧ (AW (m_X10_answer (d + 2) 0 0) 0 0 22 [(0, .ref 14), (1, .int x1), (2, .ref 108), (3, .int x3), (4, .int (x4 + (-1))), (5, .int (x5 + 1))] [] (h_im h32 46 (((x4 + (-1)) - 1) : Int32).toNatClampNeg r34) (kI K))))))) ∧ (¬ 2 ≤ x4 → K 0 h))) ∧ (((h_i h 45 (((x1 * 164) + x5) : Int32).toNatClampNeg) &&& 15) = 1 → (x4 < 164 → (¬ ((h_i h 45 (((x1 * 164) + x5) : Int32).toNatClampNeg) &&& 15) = 0 → Ci (m_X10_valueOf (d + 1) 0 0) [.ref 108, .int (x3 + ((h_i h 45 (((x1 * 164) + x5) : Int32).toNatClampNeg) >>> ((4 : Int32) &&& 31)))] h (fun r40 h38 => Wf h38 ∧ (vp_in x4 164 ∧ (AW (m_X10_answer (d + 2) 0 0) 0 0 22 [(0, .ref 14), (1, .int x1), (2, .ref 108), (3, .int x3), (4, .int (x4 + 1)), (5, .int (x5 + 1))] [] (h_im h38 46 x4.toNatClampNeg r40) (kI K))))) ∧ (((h_i h 45 (((x1 * 164) + x5) : Int32).toNatClampNeg) &&& 15) = 0 → vp_in x4 164 ∧ (AW (m_X10_answer (d + 2) 0 0) 0 0 22 [(0, .ref 14), (1, .int x1), (2, .ref 108), (3, .int x3), (4, .int (x4 + 1)), (5, .int (x5 + 1))] [] (h_im h 46 x4.toNatClampNeg ((h_i h 45 (((x1 * 164) + x5) : Int32).toNatClampNeg) >>> ((4 : Int32) &&& 31))) (kI K)))) ∧ (¬ x4 < 164 → K 0 h)))))))) : AW (m_X10_answer (d + 2) 0 0) 0 0 22 [(0, .ref 14), (1, .int x1), (2, .ref 108), (3, .int x3), (4, .int x4), (5, .int x5)] [] h (kI K) := by
  refine aw_iload d_X10_answer_22 5 rfl ?_
  refine aw_aload_n (i := 0) rfl d_X10_answer_24 0 rfl ?_
  refine aw_getr (k0 := 2) kc_10 (ws_14 w) (Nat.le_of_ble_eq_true rfl) tw_126 d_X10_answer_25 rfl (wr_14_2 w) ?_
  refine aw_iload_n (i := 1) rfl d_X10_answer_28 1 rfl ?_
  obtain ⟨b4, k⟩ := k
  refine aw_iald (ws_44 w) b4 d_X10_answer_29 ?_
  refine aw_icmp_ge (tgt := 260) d_X10_answer_30 rfl (fun c5 => ?_) (fun c5 => ?_)
  · have k := k.1 c5
    refine aw_iconst (v := 0) d_X10_answer_260 ic_0 ?_
    exact aw_iret rfl d_X10_answer_261 ⟨Nat.le_refl _, Nat.le_refl _⟩ ⟨_, rfl, k⟩
  · have k := k.2 c5
    refine aw_aload_n (i := 0) rfl d_X10_answer_33 0 rfl ?_
    refine aw_getr (k0 := 3) kc_10 (ws_14 w) (Nat.le_of_ble_eq_true rfl) tw_127 d_X10_answer_34 rfl (wr_14_3 w) ?_
    refine aw_iload_n (i := 1) rfl d_X10_answer_37 1 rfl ?_
    refine aw_sipush (v := 164) d_X10_answer_38 is_164 ?_
    refine aw_imul d_X10_answer_41 ?_
    refine aw_iload d_X10_answer_42 5 rfl ?_
    refine aw_iadd d_X10_answer_44 ?_
    obtain ⟨b6, k⟩ := k
    refine aw_iald (ws_45 w) b6 d_X10_answer_45 ?_
    refine aw_bipush (v := 15) d_X10_answer_46 ib_15 ?_
    refine aw_iand d_X10_answer_48 ?_
    refine aw_istore [(0, .ref 14), (1, .int x1), (2, .ref 108), (3, .int x3), (4, .int x4), (5, .int x5), (6, .int ((h_i h 45 (((x1 * 164) + x5) : Int32).toNatClampNeg) &&& 15))] d_X10_answer_49 (Nat.le_of_ble_eq_true rfl) rfl rfl ?_
    refine aw_aload_n (i := 0) rfl d_X10_answer_51 0 rfl ?_
    refine aw_getr (k0 := 3) kc_10 (ws_14 w) (Nat.le_of_ble_eq_true rfl) tw_127 d_X10_answer_52 rfl (wr_14_3 w) ?_
    refine aw_iload_n (i := 1) rfl d_X10_answer_55 1 rfl ?_
    refine aw_sipush (v := 164) d_X10_answer_56 is_164 ?_
    refine aw_imul d_X10_answer_59 ?_
    refine aw_iload d_X10_answer_60 5 rfl ?_
    refine aw_iadd d_X10_answer_62 ?_
    obtain ⟨b7, k⟩ := k
    refine aw_iald (ws_45 w) b7 d_X10_answer_63 ?_
    refine aw_iconst (v := 4) d_X10_answer_64 ic_4 ?_
    refine aw_ishr d_X10_answer_65 ?_
    refine aw_istore [(0, .ref 14), (1, .int x1), (2, .ref 108), (3, .int x3), (4, .int x4), (5, .int x5), (6, .int ((h_i h 45 (((x1 * 164) + x5) : Int32).toNatClampNeg) &&& 15)), (7, .int ((h_i h 45 (((x1 * 164) + x5) : Int32).toNatClampNeg) >>> ((4 : Int32) &&& 31)))] d_X10_answer_66 (Nat.le_of_ble_eq_true rfl) rfl rfl ?_
    refine aw_iload d_X10_answer_68 6 rfl ?_
    refine aw_if_eq (tgt := 79) d_X10_answer_70 rfl (fun c8 => ?_) (fun c8 => ?_)
    · have k := k.1 c8
      refine aw_iload d_X10_answer_79 4 rfl ?_
      refine aw_aload_n (i := 0) rfl d_X10_answer_81 0 rfl ?_
      refine aw_getr (k0 := 4) kc_10 (ws_14 w) (Nat.le_of_ble_eq_true rfl) tw_128 d_X10_answer_82 rfl (wr_14_4 w) ?_
      refine aw_alen (v := 164) (ws_46 w) (Nat.le_of_ble_eq_true rfl) rfl d_X10_answer_85 ?_
      refine aw_icmp_lt (tgt := 91) d_X10_answer_86 rfl (fun c9 => ?_) (fun c9 => ?_)
      · have k := k.1 c9
        refine aw_aload_n (i := 0) rfl d_X10_answer_91 0 rfl ?_
        refine aw_getr (k0 := 4) kc_10 (ws_14 w) (Nat.le_of_ble_eq_true rfl) tw_128 d_X10_answer_92 rfl (wr_14_4 w) ?_
        refine aw_iload d_X10_answer_95 4 rfl ?_
        refine aw_iload d_X10_answer_97 6 rfl ?_
        refine aw_if_ne (tgt := 107) d_X10_answer_99 rfl (fun c10 => ?_) (fun c10 => ?_)
        · have k := k.1 c10
          refine aw_aload_n (i := 2) rfl d_X10_answer_107 2 rfl ?_
          refine aw_iload_n (i := 3) rfl d_X10_answer_108 3 rfl ?_
          refine aw_iload d_X10_answer_109 7 rfl ?_
          refine aw_iadd d_X10_answer_111 ?_
          refine aw_Si [.ref 108, .int (x3 + ((h_i h 45 (((x1 * 164) + x5) : Int32).toNatClampNeg) >>> ((4 : Int32) &&& 31)))] [.int x4, .ref 46] d_X10_answer_112 (cS_X10_valueOf (d + 1) 0 0) tw_1068 rfl (rr0 (Nat.le_of_ble_eq_true rfl) (Nat.le_of_ble_eq_true rfl)) (Nat.le_of_ble_eq_true rfl) xs0 k (fun r13 h11 kk => ?_)
          obtain ⟨w12, k⟩ := kk
          obtain ⟨b14, k⟩ := k
          refine aw_iast (ws_46 w12) b14 d_X10_answer_115 ?_
          refine aw_iinc (v := (x4 + 1)) [(0, .ref 14), (1, .int x1), (2, .ref 108), (3, .int x3), (4, .int (x4 + 1)), (5, .int x5), (6, .int ((h_i h 45 (((x1 * 164) + x5) : Int32).toNatClampNeg) &&& 15)), (7, .int ((h_i h 45 (((x1 * 164) + x5) : Int32).toNatClampNeg) >>> ((4 : Int32) &&& 31)))] d_X10_answer_116 4 rfl rfl (Nat.le_of_ble_eq_true rfl) rfl rfl ?_
          refine aw_goto (tgt := 254) d_X10_answer_119 rfl ?_
          refine aw_iinc (v := (x5 + 1)) [(0, .ref 14), (1, .int x1), (2, .ref 108), (3, .int x3), (4, .int (x4 + 1)), (5, .int (x5 + 1)), (6, .int ((h_i h 45 (((x1 * 164) + x5) : Int32).toNatClampNeg) &&& 15)), (7, .int ((h_i h 45 (((x1 * 164) + x5) : Int32).toNatClampNeg) >>> ((4 : Int32) &&& 31)))] d_X10_answer_254 5 rfl rfl (Nat.le_of_ble_eq_true rfl) rfl rfl ?_
          refine aw_goto (tgt := 22) d_X10_answer_257 rfl ?_
          exact aw_lvp [0, 1, 2, 3, 4, 5] [(0, .ref 14), (1, .int x1), (2, .ref 108), (3, .int x3), (4, .int (x4 + 1)), (5, .int (x5 + 1))] rfl k
        · have k := k.2 c10
          refine aw_iload d_X10_answer_102 7 rfl ?_
          refine aw_goto (tgt := 115) d_X10_answer_104 rfl ?_
          obtain ⟨b15, k⟩ := k
          refine aw_iast (ws_46 w) b15 d_X10_answer_115 ?_
          refine aw_iinc (v := (x4 + 1)) [(0, .ref 14), (1, .int x1), (2, .ref 108), (3, .int x3), (4, .int (x4 + 1)), (5, .int x5), (6, .int ((h_i h 45 (((x1 * 164) + x5) : Int32).toNatClampNeg) &&& 15)), (7, .int ((h_i h 45 (((x1 * 164) + x5) : Int32).toNatClampNeg) >>> ((4 : Int32) &&& 31)))] d_X10_answer_116 4 rfl rfl (Nat.le_of_ble_eq_true rfl) rfl rfl ?_
          refine aw_goto (tgt := 254) d_X10_answer_119 rfl ?_
          refine aw_iinc (v := (x5 + 1)) [(0, .ref 14), (1, .int x1), (2, .ref 108), (3, .int x3), (4, .int (x4 + 1)), (5, .int (x5 + 1)), (6, .int ((h_i h 45 (((x1 * 164) + x5) : Int32).toNatClampNeg) &&& 15)), (7, .int ((h_i h 45 (((x1 * 164) + x5) : Int32).toNatClampNeg) >>> ((4 : Int32) &&& 31)))] d_X10_answer_254 5 rfl rfl (Nat.le_of_ble_eq_true rfl) rfl rfl ?_
          refine aw_goto (tgt := 22) d_X10_answer_257 rfl ?_
          exact aw_lvp [0, 1, 2, 3, 4, 5] [(0, .ref 14), (1, .int x1), (2, .ref 108), (3, .int x3), (4, .int (x4 + 1)), (5, .int (x5 + 1))] rfl k
      · have k := k.2 c9
        refine aw_iconst (v := 0) d_X10_answer_89 ic_0 ?_
        exact aw_iret rfl d_X10_answer_90 ⟨Nat.le_refl _, Nat.le_refl _⟩ ⟨_, rfl, k⟩
    · have k := k.2 c8
      refine aw_iload d_X10_answer_73 6 rfl ?_
      refine aw_iconst (v := 1) d_X10_answer_75 ic_1 ?_
      refine aw_icmp_ne (tgt := 122) d_X10_answer_76 rfl (fun c16 => ?_) (fun c16 => ?_)
      · have k := k.1 c16
        refine aw_iload d_X10_answer_122 6 rfl ?_
        refine aw_iconst (v := 5) d_X10_answer_124 ic_5 ?_
        refine aw_icmp_lt (tgt := 172) d_X10_answer_125 rfl (fun c17 => ?_) (fun c17 => ?_)
        · have k := k.1 c17
          refine aw_iload d_X10_answer_172 4 rfl ?_
          refine aw_iconst (v := 1) d_X10_answer_174 ic_1 ?_
          refine aw_icmp_ge (tgt := 180) d_X10_answer_175 rfl (fun c18 => ?_) (fun c18 => ?_)
          · have k := k.1 c18
            refine aw_iload d_X10_answer_180 6 rfl ?_
            refine aw_iconst (v := 2) d_X10_answer_182 ic_2 ?_
            refine aw_icmp_ne (tgt := 209) d_X10_answer_183 rfl (fun c19 => ?_) (fun c19 => ?_)
            · have k := k.1 c19
              refine aw_iload d_X10_answer_209 6 rfl ?_
              refine aw_iconst (v := 4) d_X10_answer_211 ic_4 ?_
              refine aw_icmp_ne (tgt := 225) d_X10_answer_212 rfl (fun c20 => ?_) (fun c20 => ?_)
              · have k := k.1 c20
                refine aw_iinc (v := (x4 + (-1))) [(0, .ref 14), (1, .int x1), (2, .ref 108), (3, .int x3), (4, .int (x4 + (-1))), (5, .int x5), (6, .int ((h_i h 45 (((x1 * 164) + x5) : Int32).toNatClampNeg) &&& 15)), (7, .int ((h_i h 45 (((x1 * 164) + x5) : Int32).toNatClampNeg) >>> ((4 : Int32) &&& 31)))] d_X10_answer_225 4 rfl rfl (Nat.le_of_ble_eq_true rfl) rfl rfl ?_
                refine aw_aload_n (i := 0) rfl d_X10_answer_228 0 rfl ?_
                refine aw_getr (k0 := 4) kc_10 (ws_14 w) (Nat.le_of_ble_eq_true rfl) tw_128 d_X10_answer_229 rfl (wr_14_4 w) ?_
                refine aw_iload d_X10_answer_232 4 rfl ?_
                obtain ⟨b21, k⟩ := k
                refine aw_iald (ws_46 w) b21 d_X10_answer_234 ?_
                refine aw_if_ne (tgt := 250) d_X10_answer_235 rfl (fun c22 => ?_) (fun c22 => ?_)
                · have k := k.1 c22
                  refine aw_iload d_X10_answer_250 5 rfl ?_
                  refine aw_istore [(0, .ref 14), (1, .int x1), (2, .ref 108), (3, .int x3), (4, .int (x4 + (-1))), (5, .int x5), (6, .int ((h_i h 45 (((x1 * 164) + x5) : Int32).toNatClampNeg) &&& 15)), (7, .int ((h_i h 45 (((x1 * 164) + x5) : Int32).toNatClampNeg) >>> ((4 : Int32) &&& 31)))] d_X10_answer_252 (Nat.le_of_ble_eq_true rfl) rfl rfl ?_
                  refine aw_iinc (v := (x5 + 1)) [(0, .ref 14), (1, .int x1), (2, .ref 108), (3, .int x3), (4, .int (x4 + (-1))), (5, .int (x5 + 1)), (6, .int ((h_i h 45 (((x1 * 164) + x5) : Int32).toNatClampNeg) &&& 15)), (7, .int ((h_i h 45 (((x1 * 164) + x5) : Int32).toNatClampNeg) >>> ((4 : Int32) &&& 31)))] d_X10_answer_254 5 rfl rfl (Nat.le_of_ble_eq_true rfl) rfl rfl ?_
                  refine aw_goto (tgt := 22) d_X10_answer_257 rfl ?_
                  exact aw_lvp [0, 1, 2, 3, 4, 5] [(0, .ref 14), (1, .int x1), (2, .ref 108), (3, .int x3), (4, .int (x4 + (-1))), (5, .int (x5 + 1))] rfl k
                · have k := k.2 c22
                  refine aw_iload d_X10_answer_238 5 rfl ?_
                  refine aw_iload d_X10_answer_240 7 rfl ?_
                  refine aw_iconst (v := 1) d_X10_answer_242 ic_1 ?_
                  refine aw_isub d_X10_answer_243 ?_
                  refine aw_Si [.int x5, .int (((h_i h 45 (((x1 * 164) + x5) : Int32).toNatClampNeg) >>> ((4 : Int32) &&& 31)) - 1)] [] d_X10_answer_244 (cS_J9_max_7cf53 (d + 0) 0 0) tw_1081 rfl (rr0 (Nat.le_of_ble_eq_true rfl) (Nat.le_of_ble_eq_true rfl)) (Nat.le_of_ble_eq_true rfl) xs0 k (fun r25 h23 kk => ?_)
                  obtain ⟨w24, k⟩ := kk
                  refine aw_goto (tgt := 252) d_X10_answer_247 rfl ?_
                  refine aw_istore [(0, .ref 14), (1, .int x1), (2, .ref 108), (3, .int x3), (4, .int (x4 + (-1))), (5, .int r25), (6, .int ((h_i h 45 (((x1 * 164) + x5) : Int32).toNatClampNeg) &&& 15)), (7, .int ((h_i h 45 (((x1 * 164) + x5) : Int32).toNatClampNeg) >>> ((4 : Int32) &&& 31)))] d_X10_answer_252 (Nat.le_of_ble_eq_true rfl) rfl rfl ?_
                  refine aw_iinc (v := (r25 + 1)) [(0, .ref 14), (1, .int x1), (2, .ref 108), (3, .int x3), (4, .int (x4 + (-1))), (5, .int (r25 + 1)), (6, .int ((h_i h 45 (((x1 * 164) + x5) : Int32).toNatClampNeg) &&& 15)), (7, .int ((h_i h 45 (((x1 * 164) + x5) : Int32).toNatClampNeg) >>> ((4 : Int32) &&& 31)))] d_X10_answer_254 5 rfl rfl (Nat.le_of_ble_eq_true rfl) rfl rfl ?_
                  refine aw_goto (tgt := 22) d_X10_answer_257 rfl ?_
                  exact aw_lvp [0, 1, 2, 3, 4, 5] [(0, .ref 14), (1, .int x1), (2, .ref 108), (3, .int x3), (4, .int (x4 + (-1))), (5, .int (r25 + 1))] rfl k
              · have k := k.2 c20
                refine aw_aload_n (i := 0) rfl d_X10_answer_215 0 rfl ?_
                refine aw_getr (k0 := 4) kc_10 (ws_14 w) (Nat.le_of_ble_eq_true rfl) tw_128 d_X10_answer_216 rfl (wr_14_4 w) ?_
                refine aw_iload d_X10_answer_219 4 rfl ?_
                refine aw_iconst (v := 1) d_X10_answer_221 ic_1 ?_
                refine aw_isub d_X10_answer_222 ?_
                obtain ⟨b26, k⟩ := k
                refine aw_iald (ws_46 w) b26 d_X10_answer_223 ?_
                exact aw_iret rfl d_X10_answer_224 ⟨Nat.le_refl _, Nat.le_refl _⟩ ⟨_, rfl, k⟩
            · have k := k.2 c19
              refine aw_aload_n (i := 0) rfl d_X10_answer_186 0 rfl ?_
              refine aw_getr (k0 := 4) kc_10 (ws_14 w) (Nat.le_of_ble_eq_true rfl) tw_128 d_X10_answer_187 rfl (wr_14_4 w) ?_
              refine aw_iload d_X10_answer_190 4 rfl ?_
              refine aw_iconst (v := 1) d_X10_answer_192 ic_1 ?_
              refine aw_isub d_X10_answer_193 ?_
              refine aw_iconst (v := 1) d_X10_answer_194 ic_1 ?_
              refine aw_aload_n (i := 0) rfl d_X10_answer_195 0 rfl ?_
              refine aw_getr (k0 := 4) kc_10 (ws_14 w) (Nat.le_of_ble_eq_true rfl) tw_128 d_X10_answer_196 rfl (wr_14_4 w) ?_
              refine aw_iload d_X10_answer_199 4 rfl ?_
              refine aw_iconst (v := 1) d_X10_answer_201 ic_1 ?_
              refine aw_isub d_X10_answer_202 ?_
              obtain ⟨b27, k⟩ := k
              refine aw_iald (ws_46 w) b27 d_X10_answer_203 ?_
              refine aw_isub d_X10_answer_204 ?_
              obtain ⟨b28, k⟩ := k
              refine aw_iast (ws_46 w) b28 d_X10_answer_205 ?_
              refine aw_goto (tgt := 254) d_X10_answer_206 rfl ?_
              refine aw_iinc (v := (x5 + 1)) [(0, .ref 14), (1, .int x1), (2, .ref 108), (3, .int x3), (4, .int x4), (5, .int (x5 + 1)), (6, .int ((h_i h 45 (((x1 * 164) + x5) : Int32).toNatClampNeg) &&& 15)), (7, .int ((h_i h 45 (((x1 * 164) + x5) : Int32).toNatClampNeg) >>> ((4 : Int32) &&& 31)))] d_X10_answer_254 5 rfl rfl (Nat.le_of_ble_eq_true rfl) rfl rfl ?_
              refine aw_goto (tgt := 22) d_X10_answer_257 rfl ?_
              exact aw_lvp [0, 1, 2, 3, 4, 5] [(0, .ref 14), (1, .int x1), (2, .ref 108), (3, .int x3), (4, .int x4), (5, .int (x5 + 1))] rfl k
          · have k := k.2 c18
            refine aw_iconst (v := 0) d_X10_answer_178 ic_0 ?_
            exact aw_iret rfl d_X10_answer_179 ⟨Nat.le_refl _, Nat.le_refl _⟩ ⟨_, rfl, k⟩
        · have k := k.2 c17
          refine aw_iload d_X10_answer_128 4 rfl ?_
          refine aw_iconst (v := 2) d_X10_answer_130 ic_2 ?_
          refine aw_icmp_ge (tgt := 136) d_X10_answer_131 rfl (fun c29 => ?_) (fun c29 => ?_)
          · have k := k.1 c29
            refine aw_iinc (v := (x4 + (-1))) [(0, .ref 14), (1, .int x1), (2, .ref 108), (3, .int x3), (4, .int (x4 + (-1))), (5, .int x5), (6, .int ((h_i h 45 (((x1 * 164) + x5) : Int32).toNatClampNeg) &&& 15)), (7, .int ((h_i h 45 (((x1 * 164) + x5) : Int32).toNatClampNeg) >>> ((4 : Int32) &&& 31)))] d_X10_answer_136 4 rfl rfl (Nat.le_of_ble_eq_true rfl) rfl rfl ?_
            refine aw_aload_n (i := 0) rfl d_X10_answer_139 0 rfl ?_
            refine aw_getr (k0 := 4) kc_10 (ws_14 w) (Nat.le_of_ble_eq_true rfl) tw_128 d_X10_answer_140 rfl (wr_14_4 w) ?_
            refine aw_iload d_X10_answer_143 4 rfl ?_
            refine aw_iconst (v := 1) d_X10_answer_145 ic_1 ?_
            refine aw_isub d_X10_answer_146 ?_
            refine aw_iload d_X10_answer_147 6 rfl ?_
            refine aw_aload_n (i := 0) rfl d_X10_answer_149 0 rfl ?_
            refine aw_getr (k0 := 4) kc_10 (ws_14 w) (Nat.le_of_ble_eq_true rfl) tw_128 d_X10_answer_150 rfl (wr_14_4 w) ?_
            refine aw_iload d_X10_answer_153 4 rfl ?_
            refine aw_iconst (v := 1) d_X10_answer_155 ic_1 ?_
            refine aw_isub d_X10_answer_156 ?_
            obtain ⟨b30, k⟩ := k
            refine aw_iald (ws_46 w) b30 d_X10_answer_157 ?_
            refine aw_aload_n (i := 0) rfl d_X10_answer_158 0 rfl ?_
            refine aw_getr (k0 := 4) kc_10 (ws_14 w) (Nat.le_of_ble_eq_true rfl) tw_128 d_X10_answer_159 rfl (wr_14_4 w) ?_
            refine aw_iload d_X10_answer_162 4 rfl ?_
            obtain ⟨b31, k⟩ := k
            refine aw_iald (ws_46 w) b31 d_X10_answer_164 ?_
            refine aw_Si [.int ((h_i h 45 (((x1 * 164) + x5) : Int32).toNatClampNeg) &&& 15), .int (h_i h 46 (((x4 + (-1)) - 1) : Int32).toNatClampNeg), .int (h_i h 46 ((x4 + (-1)) : Int32).toNatClampNeg)] [.int ((x4 + (-1)) - 1), .ref 46] d_X10_answer_165 (cS_X10_combine (d + 1) 0 0) tw_1071 rfl (rr0 (Nat.le_of_ble_eq_true rfl) (Nat.le_of_ble_eq_true rfl)) (Nat.le_of_ble_eq_true rfl) xs0 k (fun r34 h32 kk => ?_)
            obtain ⟨w33, k⟩ := kk
            obtain ⟨b35, k⟩ := k
            refine aw_iast (ws_46 w33) b35 d_X10_answer_168 ?_
            refine aw_goto (tgt := 254) d_X10_answer_169 rfl ?_
            refine aw_iinc (v := (x5 + 1)) [(0, .ref 14), (1, .int x1), (2, .ref 108), (3, .int x3), (4, .int (x4 + (-1))), (5, .int (x5 + 1)), (6, .int ((h_i h 45 (((x1 * 164) + x5) : Int32).toNatClampNeg) &&& 15)), (7, .int ((h_i h 45 (((x1 * 164) + x5) : Int32).toNatClampNeg) >>> ((4 : Int32) &&& 31)))] d_X10_answer_254 5 rfl rfl (Nat.le_of_ble_eq_true rfl) rfl rfl ?_
            refine aw_goto (tgt := 22) d_X10_answer_257 rfl ?_
            exact aw_lvp [0, 1, 2, 3, 4, 5] [(0, .ref 14), (1, .int x1), (2, .ref 108), (3, .int x3), (4, .int (x4 + (-1))), (5, .int (x5 + 1))] rfl k
          · have k := k.2 c29
            refine aw_iconst (v := 0) d_X10_answer_134 ic_0 ?_
            exact aw_iret rfl d_X10_answer_135 ⟨Nat.le_refl _, Nat.le_refl _⟩ ⟨_, rfl, k⟩
      · have k := k.2 c16
        refine aw_iload d_X10_answer_79 4 rfl ?_
        refine aw_aload_n (i := 0) rfl d_X10_answer_81 0 rfl ?_
        refine aw_getr (k0 := 4) kc_10 (ws_14 w) (Nat.le_of_ble_eq_true rfl) tw_128 d_X10_answer_82 rfl (wr_14_4 w) ?_
        refine aw_alen (v := 164) (ws_46 w) (Nat.le_of_ble_eq_true rfl) rfl d_X10_answer_85 ?_
        refine aw_icmp_lt (tgt := 91) d_X10_answer_86 rfl (fun c36 => ?_) (fun c36 => ?_)
        · have k := k.1 c36
          refine aw_aload_n (i := 0) rfl d_X10_answer_91 0 rfl ?_
          refine aw_getr (k0 := 4) kc_10 (ws_14 w) (Nat.le_of_ble_eq_true rfl) tw_128 d_X10_answer_92 rfl (wr_14_4 w) ?_
          refine aw_iload d_X10_answer_95 4 rfl ?_
          refine aw_iload d_X10_answer_97 6 rfl ?_
          refine aw_if_ne (tgt := 107) d_X10_answer_99 rfl (fun c37 => ?_) (fun c37 => ?_)
          · have k := k.1 c37
            refine aw_aload_n (i := 2) rfl d_X10_answer_107 2 rfl ?_
            refine aw_iload_n (i := 3) rfl d_X10_answer_108 3 rfl ?_
            refine aw_iload d_X10_answer_109 7 rfl ?_
            refine aw_iadd d_X10_answer_111 ?_
            refine aw_Si [.ref 108, .int (x3 + ((h_i h 45 (((x1 * 164) + x5) : Int32).toNatClampNeg) >>> ((4 : Int32) &&& 31)))] [.int x4, .ref 46] d_X10_answer_112 (cS_X10_valueOf (d + 1) 0 0) tw_1068 rfl (rr0 (Nat.le_of_ble_eq_true rfl) (Nat.le_of_ble_eq_true rfl)) (Nat.le_of_ble_eq_true rfl) xs0 k (fun r40 h38 kk => ?_)
            obtain ⟨w39, k⟩ := kk
            obtain ⟨b41, k⟩ := k
            refine aw_iast (ws_46 w39) b41 d_X10_answer_115 ?_
            refine aw_iinc (v := (x4 + 1)) [(0, .ref 14), (1, .int x1), (2, .ref 108), (3, .int x3), (4, .int (x4 + 1)), (5, .int x5), (6, .int ((h_i h 45 (((x1 * 164) + x5) : Int32).toNatClampNeg) &&& 15)), (7, .int ((h_i h 45 (((x1 * 164) + x5) : Int32).toNatClampNeg) >>> ((4 : Int32) &&& 31)))] d_X10_answer_116 4 rfl rfl (Nat.le_of_ble_eq_true rfl) rfl rfl ?_
            refine aw_goto (tgt := 254) d_X10_answer_119 rfl ?_
            refine aw_iinc (v := (x5 + 1)) [(0, .ref 14), (1, .int x1), (2, .ref 108), (3, .int x3), (4, .int (x4 + 1)), (5, .int (x5 + 1)), (6, .int ((h_i h 45 (((x1 * 164) + x5) : Int32).toNatClampNeg) &&& 15)), (7, .int ((h_i h 45 (((x1 * 164) + x5) : Int32).toNatClampNeg) >>> ((4 : Int32) &&& 31)))] d_X10_answer_254 5 rfl rfl (Nat.le_of_ble_eq_true rfl) rfl rfl ?_
            refine aw_goto (tgt := 22) d_X10_answer_257 rfl ?_
            exact aw_lvp [0, 1, 2, 3, 4, 5] [(0, .ref 14), (1, .int x1), (2, .ref 108), (3, .int x3), (4, .int (x4 + 1)), (5, .int (x5 + 1))] rfl k
          · have k := k.2 c37
            refine aw_iload d_X10_answer_102 7 rfl ?_
            refine aw_goto (tgt := 115) d_X10_answer_104 rfl ?_
            obtain ⟨b42, k⟩ := k
            refine aw_iast (ws_46 w) b42 d_X10_answer_115 ?_
            refine aw_iinc (v := (x4 + 1)) [(0, .ref 14), (1, .int x1), (2, .ref 108), (3, .int x3), (4, .int (x4 + 1)), (5, .int x5), (6, .int ((h_i h 45 (((x1 * 164) + x5) : Int32).toNatClampNeg) &&& 15)), (7, .int ((h_i h 45 (((x1 * 164) + x5) : Int32).toNatClampNeg) >>> ((4 : Int32) &&& 31)))] d_X10_answer_116 4 rfl rfl (Nat.le_of_ble_eq_true rfl) rfl rfl ?_
            refine aw_goto (tgt := 254) d_X10_answer_119 rfl ?_
            refine aw_iinc (v := (x5 + 1)) [(0, .ref 14), (1, .int x1), (2, .ref 108), (3, .int x3), (4, .int (x4 + 1)), (5, .int (x5 + 1)), (6, .int ((h_i h 45 (((x1 * 164) + x5) : Int32).toNatClampNeg) &&& 15)), (7, .int ((h_i h 45 (((x1 * 164) + x5) : Int32).toNatClampNeg) >>> ((4 : Int32) &&& 31)))] d_X10_answer_254 5 rfl rfl (Nat.le_of_ble_eq_true rfl) rfl rfl ?_
            refine aw_goto (tgt := 22) d_X10_answer_257 rfl ?_
            exact aw_lvp [0, 1, 2, 3, 4, 5] [(0, .ref 14), (1, .int x1), (2, .ref 108), (3, .int x3), (4, .int (x4 + 1)), (5, .int (x5 + 1))] rfl k
        · have k := k.2 c36
          refine aw_iconst (v := 0) d_X10_answer_89 ic_0 ?_
          exact aw_iret rfl d_X10_answer_90 ⟨Nat.le_refl _, Nat.le_refl _⟩ ⟨_, rfl, k⟩
