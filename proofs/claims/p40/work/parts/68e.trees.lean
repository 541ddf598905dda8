theorem t_X6_addWatch (d : Nat) (h : Hp_) (w : Wf h) (x1 : Int32) (x2 : Int32) (x3 : Int32) (K : Int32 → Hp_ → Prop) (k : ((h_i h 20 3) < 8 → vp_in (h_i h 20 3) 8 ∧ (vp_in (h_i h 20 3) 8 ∧ (vp_in (h_i h 20 3) 8 ∧ (K (((h_i h 20 3) + 1) - 1) (h_im (h_im (h_im (h_im h 92 ((h_i h 20 3) : Int32).toNatClampNeg x1) 93 ((h_i h 20 3) : Int32).toNatClampNeg x2) 94 ((h_i h 20 3) : Int32).toNatClampNeg x3) 20 3 ((h_i h 20 3) + 1)))))) ∧ (¬ (h_i h 20 3) < 8 → K (-1) h)) : Ci (m_X6_addWatch (d + 0) 0 0) [.ref 20, .int x1, .int x2, .int x3] h K := by
  refine Ct.of (fun _ _ _ => trivial) rfl (Nat.le_of_ble_eq_true rfl) ?_
  show AW (m_X6_addWatch (d + 0) 0 0) 0 0 0 [(0, .ref 20), (1, .int x1), (2, .int x2), (3, .int x3)] [] h (kI K)
  refine aw_aload_n (i := 0) rfl d_X6_addWatch_0 0 rfl ?_
  refine aw_geti (k0 := 3) kc_6 (ws_20 w) (Nat.le_of_ble_eq_true rfl) tw_366 d_X6_addWatch_1 rfl ?_
  refine aw_bipush (v := 8) d_X6_addWatch_4 ib_8 ?_
  refine aw_icmp_lt (tgt := 11) d_X6_addWatch_6 rfl (fun c1 => ?_) (fun c1 => ?_)
  · have k := k.1 c1
    refine aw_aload_n (i := 0) rfl d_X6_addWatch_11 0 rfl ?_
    refine aw_getr (k0 := 0) kc_6 (ws_20 w) (Nat.le_of_ble_eq_true rfl) tw_363 d_X6_addWatch_12 rfl (wr_20_0 w) ?_
    refine aw_aload_n (i := 0) rfl d_X6_addWatch_15 0 rfl ?_
    refine aw_geti (k0 := 3) kc_6 (ws_20 w) (Nat.le_of_ble_eq_true rfl) tw_366 d_X6_addWatch_16 rfl ?_
    refine aw_iload_n (i := 1) rfl d_X6_addWatch_19 1 rfl ?_
    obtain ⟨b2, k⟩ := k
    refine aw_iast (ws_92 w) b2 d_X6_addWatch_20 ?_
    refine aw_aload_n (i := 0) rfl d_X6_addWatch_21 0 rfl ?_
    refine aw_getr (k0 := 1) kc_6 (ws_20 w) (Nat.le_of_ble_eq_true rfl) tw_364 d_X6_addWatch_22 rfl (wr_20_1 w) ?_
    refine aw_aload_n (i := 0) rfl d_X6_addWatch_25 0 rfl ?_
    refine aw_geti (k0 := 3) kc_6 (ws_20 w) (Nat.le_of_ble_eq_true rfl) tw_366 d_X6_addWatch_26 rfl ?_
    refine aw_vi (v2 := (h_i h 20 3)) (rfl) ?_
    refine aw_iload_n (i := 2) rfl d_X6_addWatch_29 2 rfl ?_
    obtain ⟨b3, k⟩ := k
    refine aw_iast (ws_93 w) b3 d_X6_addWatch_30 ?_
    refine aw_aload_n (i := 0) rfl d_X6_addWatch_31 0 rfl ?_
    refine aw_getr (k0 := 2) kc_6 (ws_20 w) (Nat.le_of_ble_eq_true rfl) tw_365 d_X6_addWatch_32 rfl (wr_20_2 w) ?_
    refine aw_aload_n (i := 0) rfl d_X6_addWatch_35 0 rfl ?_
    refine aw_geti (k0 := 3) kc_6 (ws_20 w) (Nat.le_of_ble_eq_true rfl) tw_366 d_X6_addWatch_36 rfl ?_
    refine aw_vi (v2 := (h_i h 20 3)) (rfl) ?_
    refine aw_iload_n (i := 3) rfl d_X6_addWatch_39 3 rfl ?_
    obtain ⟨b4, k⟩ := k
    refine aw_iast (ws_94 w) b4 d_X6_addWatch_40 ?_
    refine aw_aload_n (i := 0) rfl d_X6_addWatch_41 0 rfl ?_
    refine aw_dup d_X6_addWatch_42 rfl ?_
    refine aw_geti (k0 := 3) kc_6 (ws_20 w) (Nat.le_of_ble_eq_true rfl) tw_366 d_X6_addWatch_43 rfl ?_
    refine aw_vi (v2 := (h_i h 20 3)) (rfl) ?_
    refine aw_iconst (v := 1) d_X6_addWatch_46 ic_1 ?_
    refine aw_iadd d_X6_addWatch_47 ?_
    refine aw_puti (k0 := 3) kc_6 (ws_20 w) (Nat.le_of_ble_eq_true rfl) tw_366 d_X6_addWatch_48 rfl rfl nf_i ?_
    refine aw_aload_n (i := 0) rfl d_X6_addWatch_51 0 rfl ?_
    refine aw_geti (k0 := 3) kc_6 (ws_20 w) (Nat.le_of_ble_eq_true rfl) tw_366 d_X6_addWatch_52 rfl ?_
    refine aw_vi (v2 := ((h_i h 20 3) + 1)) (rfl) ?_
    refine aw_iconst (v := 1) d_X6_addWatch_55 ic_1 ?_
    refine aw_isub d_X6_addWatch_56 ?_
    exact aw_iret rfl d_X6_addWatch_57 ⟨Nat.le_refl _, Nat.le_refl _⟩ ⟨_, rfl, k⟩
  · have k := k.2 c1
    refine aw_iconst (v := (-1)) d_X6_addWatch_9 ic_m1 ?_
    exact aw_iret rfl d_X6_addWatch_10 ⟨Nat.le_refl _, Nat.le_refl _⟩ ⟨_, rfl, k⟩
theorem t_X12_watch (d : Nat) (h : Hp_) (w : Wf h) (x1 : Int32) (x2 : Int32) (x3 : Int32) (K : Int32 → Hp_ → Prop) (k : (¬ (0 ≤ x1 ∧ x1 ≤ 15) → K (-1) h) ∧ ((0 ≤ x1 ∧ x1 ≤ 15) → (¬ (0 ≤ x2 ∧ x2 ≤ 1440) → K (-1) h) ∧ ((0 ≤ x2 ∧ x2 ≤ 1440) → (¬ (x2 ≤ x3 ∧ x3 ≤ 1440) → K (-1) h) ∧ ((x2 ≤ x3 ∧ x3 ≤ 1440) → (¬ (h_i h 1 108) = 8 → vp_in (h_i h 1 108) 8 ∧ (vp_in (h_i h 1 108) 8 ∧ (vp_in (h_i h 1 108) 8 ∧ (K (((h_i h 1 108) + 1) - 1) (h_im (h_im (h_im (h_im h 281 ((h_i h 1 108) : Int32).toNatClampNeg x1) 282 ((h_i h 1 108) : Int32).toNatClampNeg x2) 283 ((h_i h 1 108) : Int32).toNatClampNeg x3) 1 108 ((h_i h 1 108) + 1)))))) ∧ ((h_i h 1 108) = 8 → K (-1) h))))) : Ci (m_X12_watch (d + 2) 0 0) [.ref 1, .int x1, .int x2, .int x3] h K := by
  refine Ct.of (fun _ _ _ => trivial) rfl (Nat.le_of_ble_eq_true rfl) ?_
  show AW (m_X12_watch (d + 2) 0 0) 0 0 0 [(0, .ref 1), (1, .int x1), (2, .int x2), (3, .int x3)] [] h (kI K)
  refine aw_iload_n (i := 1) rfl d_X12_watch_0 1 rfl ?_
  refine aw_Si [.int x1] [] d_X12_watch_1 (cS_X12_isPlace (d + 1) 0 0) tw_2140 rfl (rr0 (Nat.le_of_ble_eq_true rfl) (Nat.le_of_ble_eq_true rfl)) (Nat.le_of_ble_eq_true rfl) xs0 (s_X12_isPlace _ _ x1) (fun _ _ kk => ?_)
  obtain ⟨e1, e2⟩ := kk
  rw [e1, e2]
  refine aw_ifb_eq (tgt := 38) d_X12_watch_4 rfl (fun c3 => ?_) (fun c3 => ?_)
  · have k := k.1 c3
    refine aw_iconst (v := (-1)) d_X12_watch_38 ic_m1 ?_
    exact aw_iret rfl d_X12_watch_39 ⟨Nat.le_refl _, Nat.le_refl _⟩ ⟨_, rfl, k⟩
  · have k := k.2 c3
    refine aw_iload_n (i := 2) rfl d_X12_watch_7 2 rfl ?_
    refine aw_iconst (v := 0) d_X12_watch_8 ic_0 ?_
    refine aw_sipush (v := 1440) d_X12_watch_9 is_1440 ?_
    refine aw_Si [.int x2, .int 0, .int 1440] [] d_X12_watch_12 (cS_X12_in (d + 0) 0 0) tw_2143 rfl (rr0 (Nat.le_of_ble_eq_true rfl) (Nat.le_of_ble_eq_true rfl)) (Nat.le_of_ble_eq_true rfl) xs0 (s_X12_in _ _ x2 0 1440) (fun _ _ kk => ?_)
    obtain ⟨e4, e5⟩ := kk
    rw [e4, e5]
    refine aw_ifb_eq (tgt := 38) d_X12_watch_15 rfl (fun c6 => ?_) (fun c6 => ?_)
    · have k := k.1 c6
      refine aw_iconst (v := (-1)) d_X12_watch_38 ic_m1 ?_
      exact aw_iret rfl d_X12_watch_39 ⟨Nat.le_refl _, Nat.le_refl _⟩ ⟨_, rfl, k⟩
    · have k := k.2 c6
      refine aw_iload_n (i := 3) rfl d_X12_watch_18 3 rfl ?_
      refine aw_iload_n (i := 2) rfl d_X12_watch_19 2 rfl ?_
      refine aw_sipush (v := 1440) d_X12_watch_20 is_1440 ?_
      refine aw_Si [.int x3, .int x2, .int 1440] [] d_X12_watch_23 (cS_X12_in (d + 0) 0 0) tw_2143 rfl (rr0 (Nat.le_of_ble_eq_true rfl) (Nat.le_of_ble_eq_true rfl)) (Nat.le_of_ble_eq_true rfl) xs0 (s_X12_in _ _ x3 x2 1440) (fun _ _ kk => ?_)
      obtain ⟨e7, e8⟩ := kk
      rw [e7, e8]
      refine aw_ifb_eq (tgt := 38) d_X12_watch_26 rfl (fun c9 => ?_) (fun c9 => ?_)
      · have k := k.1 c9
        refine aw_iconst (v := (-1)) d_X12_watch_38 ic_m1 ?_
        exact aw_iret rfl d_X12_watch_39 ⟨Nat.le_refl _, Nat.le_refl _⟩ ⟨_, rfl, k⟩
      · have k := k.2 c9
        refine aw_aload_n (i := 0) rfl d_X12_watch_29 0 rfl ?_
        refine aw_geti (k0 := 108) kc_12 (ws_1 w) (Nat.le_of_ble_eq_true rfl) tw_1850 d_X12_watch_30 rfl ?_
        refine aw_bipush (v := 8) d_X12_watch_33 ib_8 ?_
        refine aw_icmp_ne (tgt := 40) d_X12_watch_35 rfl (fun c10 => ?_) (fun c10 => ?_)
        · have k := k.1 c10
          refine aw_aload_n (i := 0) rfl d_X12_watch_40 0 rfl ?_
          refine aw_getr (k0 := 105) kc_12 (ws_1 w) (Nat.le_of_ble_eq_true rfl) tw_1847 d_X12_watch_41 rfl (wr_1_105 w) ?_
          refine aw_aload_n (i := 0) rfl d_X12_watch_44 0 rfl ?_
          refine aw_geti (k0 := 108) kc_12 (ws_1 w) (Nat.le_of_ble_eq_true rfl) tw_1850 d_X12_watch_45 rfl ?_
          refine aw_iload_n (i := 1) rfl d_X12_watch_48 1 rfl ?_
          obtain ⟨b11, k⟩ := k
          refine aw_iast (ws_281 w) b11 d_X12_watch_49 ?_
          refine aw_aload_n (i := 0) rfl d_X12_watch_50 0 rfl ?_
          refine aw_getr (k0 := 106) kc_12 (ws_1 w) (Nat.le_of_ble_eq_true rfl) tw_1848 d_X12_watch_51 rfl (wr_1_106 w) ?_
          refine aw_aload_n (i := 0) rfl d_X12_watch_54 0 rfl ?_
          refine aw_geti (k0 := 108) kc_12 (ws_1 w) (Nat.le_of_ble_eq_true rfl) tw_1850 d_X12_watch_55 rfl ?_
          refine aw_vi (v2 := (h_i h 1 108)) (rfl) ?_
          refine aw_iload_n (i := 2) rfl d_X12_watch_58 2 rfl ?_
          obtain ⟨b12, k⟩ := k
          refine aw_iast (ws_282 w) b12 d_X12_watch_59 ?_
          refine aw_aload_n (i := 0) rfl d_X12_watch_60 0 rfl ?_
          refine aw_getr (k0 := 107) kc_12 (ws_1 w) (Nat.le_of_ble_eq_true rfl) tw_1849 d_X12_watch_61 rfl (wr_1_107 w) ?_
          refine aw_aload_n (i := 0) rfl d_X12_watch_64 0 rfl ?_
          refine aw_geti (k0 := 108) kc_12 (ws_1 w) (Nat.le_of_ble_eq_true rfl) tw_1850 d_X12_watch_65 rfl ?_
          refine aw_vi (v2 := (h_i h 1 108)) (rfl) ?_
          refine aw_iload_n (i := 3) rfl d_X12_watch_68 3 rfl ?_
          obtain ⟨b13, k⟩ := k
          refine aw_iast (ws_283 w) b13 d_X12_watch_69 ?_
          refine aw_aload_n (i := 0) rfl d_X12_watch_70 0 rfl ?_
          refine aw_dup d_X12_watch_71 rfl ?_
          refine aw_geti (k0 := 108) kc_12 (ws_1 w) (Nat.le_of_ble_eq_true rfl) tw_1850 d_X12_watch_72 rfl ?_
          refine aw_vi (v2 := (h_i h 1 108)) (rfl) ?_
          refine aw_iconst (v := 1) d_X12_watch_75 ic_1 ?_
          refine aw_iadd d_X12_watch_76 ?_
          refine aw_puti (k0 := 108) kc_12 (ws_1 w) (Nat.le_of_ble_eq_true rfl) tw_1850 d_X12_watch_77 rfl rfl nf_i ?_
          refine aw_aload_n (i := 0) rfl d_X12_watch_80 0 rfl ?_
          refine aw_geti (k0 := 108) kc_12 (ws_1 w) (Nat.le_of_ble_eq_true rfl) tw_1850 d_X12_watch_81 rfl ?_
          refine aw_vi (v2 := ((h_i h 1 108) + 1)) (rfl) ?_
          refine aw_iconst (v := 1) d_X12_watch_84 ic_1 ?_
          refine aw_isub d_X12_watch_85 ?_
          exact aw_iret rfl d_X12_watch_86 ⟨Nat.le_refl _, Nat.le_refl _⟩ ⟨_, rfl, k⟩
        · have k := k.2 c10
          refine aw_iconst (v := (-1)) d_X12_watch_38 ic_m1 ?_
          exact aw_iret rfl d_X12_watch_39 ⟨Nat.le_refl _, Nat.le_refl _⟩ ⟨_, rfl, k⟩
theorem t_X11_watch (d : Nat) (h : Hp_) (x1 : Int32) (x2 : Int32) (x3 : Int32) (K : Int32 → Hp_ → Prop) (k : Ci (m_X11_isPlace (d + 0) 0 0) [.int x1] h (fun r3 h1 => Wf h1 ∧ ((r3 = 0 → K (-1) h1) ∧ (¬ r3 = 0 → (¬ (0 ≤ x2 ∧ x2 ≤ 1440) → K (-1) h1) ∧ ((0 ≤ x2 ∧ x2 ≤ 1440) → ((x2 ≤ x3 ∧ x3 ≤ 1440) → Ci (m_X6_addWatch (d + 0) 0 0) [.ref 20, .int x1, .int x2, .int x3] h1 (fun r13 h11 => Wf h11 ∧ (K r13 h11))) ∧ (¬ (x2 ≤ x3 ∧ x3 ≤ 1440) → K (-1) h1)))))) : Ci (m_X11_watch (d + 1) 0 0) [.ref 0, .int x1, .int x2, .int x3] h K := by
  refine Ct.of (fun _ _ _ => trivial) rfl (Nat.le_of_ble_eq_true rfl) ?_
  show AW (m_X11_watch (d + 1) 0 0) 0 0 0 [(0, .ref 0), (1, .int x1), (2, .int x2), (3, .int x3)] [] h (kI K)
  refine aw_iload_n (i := 1) rfl d_X11_watch_0 1 rfl ?_
  refine aw_Si [.int x1] [] d_X11_watch_1 (cS_X11_isPlace (d + 0) 0 0) tw_540 rfl (rr0 (Nat.le_of_ble_eq_true rfl) (Nat.le_of_ble_eq_true rfl)) (Nat.le_of_ble_eq_true rfl) xs0 k (fun r3 h1 kk => ?_)
  obtain ⟨w2, k⟩ := kk
  refine aw_if_eq (tgt := 29) d_X11_watch_4 rfl (fun c4 => ?_) (fun c4 => ?_)
  · have k := k.1 c4
    refine aw_iconst (v := (-1)) d_X11_watch_29 ic_m1 ?_
    exact aw_iret rfl d_X11_watch_30 ⟨Nat.le_refl _, Nat.le_refl _⟩ ⟨_, rfl, k⟩
  · have k := k.2 c4
    refine aw_iload_n (i := 2) rfl d_X11_watch_7 2 rfl ?_
    refine aw_iconst (v := 0) d_X11_watch_8 ic_0 ?_
    refine aw_sipush (v := 1440) d_X11_watch_9 is_1440 ?_
    refine aw_Si [.int x2, .int 0, .int 1440] [] d_X11_watch_12 (cS_X11_within (d + 0) 0 0) tw_543 rfl (rr0 (Nat.le_of_ble_eq_true rfl) (Nat.le_of_ble_eq_true rfl)) (Nat.le_of_ble_eq_true rfl) xs0 (s_X11_within _ _ x2 0 1440) (fun _ _ kk => ?_)
    obtain ⟨e5, e6⟩ := kk
    rw [e5, e6]
    refine aw_ifb_eq (tgt := 29) d_X11_watch_15 rfl (fun c7 => ?_) (fun c7 => ?_)
    · have k := k.1 c7
      refine aw_iconst (v := (-1)) d_X11_watch_29 ic_m1 ?_
      exact aw_iret rfl d_X11_watch_30 ⟨Nat.le_refl _, Nat.le_refl _⟩ ⟨_, rfl, k⟩
    · have k := k.2 c7
      refine aw_iload_n (i := 3) rfl d_X11_watch_18 3 rfl ?_
      refine aw_iload_n (i := 2) rfl d_X11_watch_19 2 rfl ?_
      refine aw_sipush (v := 1440) d_X11_watch_20 is_1440 ?_
      refine aw_Si [.int x3, .int x2, .int 1440] [] d_X11_watch_23 (cS_X11_within (d + 0) 0 0) tw_543 rfl (rr0 (Nat.le_of_ble_eq_true rfl) (Nat.le_of_ble_eq_true rfl)) (Nat.le_of_ble_eq_true rfl) xs0 (s_X11_within _ _ x3 x2 1440) (fun _ _ kk => ?_)
      obtain ⟨e8, e9⟩ := kk
      rw [e8, e9]
      refine aw_ifb_ne (tgt := 31) d_X11_watch_26 rfl (fun c10 => ?_) (fun c10 => ?_)
      · have k := k.1 c10
        refine aw_aload_n (i := 0) rfl d_X11_watch_31 0 rfl ?_
        refine aw_getr (k0 := 12) kc_11 (ws_0 w2) (Nat.le_of_ble_eq_true rfl) tw_499 d_X11_watch_32 rfl (wr_0_12 w2) ?_
        refine aw_iload_n (i := 1) rfl d_X11_watch_35 1 rfl ?_
        refine aw_iload_n (i := 2) rfl d_X11_watch_36 2 rfl ?_
        refine aw_iload_n (i := 3) rfl d_X11_watch_37 3 rfl ?_
        refine aw_Vi 20 [.int x1, .int x2, .int x3] [] d_X11_watch_38 (cV_X6_addWatch (d + 0) 0 0) kc_6 (ws_20 w2) tw_1410 rfl (rr0 (Nat.le_of_ble_eq_true rfl) (Nat.le_of_ble_eq_true rfl)) (Nat.le_of_ble_eq_true rfl) xs0 k (fun r13 h11 kk => ?_)
        obtain ⟨w12, k⟩ := kk
        exact aw_iret rfl d_X11_watch_41 ⟨Nat.le_refl _, Nat.le_refl _⟩ ⟨_, rfl, k⟩
      · have k := k.2 c10
        refine aw_iconst (v := (-1)) d_X11_watch_29 ic_m1 ?_
        exact aw_iret rfl d_X11_watch_30 ⟨Nat.le_refl _, Nat.le_refl _⟩ ⟨_, rfl, k⟩
