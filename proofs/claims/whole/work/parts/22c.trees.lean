theorem t_X11_isMan (d : Nat) (h : Hp_) (w : Wf h) (x1 : Int32) (K : Int32 → Hp_ → Prop) (k : Cr (m_X11_manOf (d + 1) 0 0) [.ref 0, .int x1] h (fun o5 h1 => Wf h1 ∧ ((o5 = none → K 0 h1) ∧ (∀ b4, o5 = some b4 → h_sh h1 b4 = some (12, 17) ∧ 400 ≤ b4 ∧ (K 1 h1))))) : Ci (m_X11_isMan (d + 2) 0 0) [.ref 0, .int x1] h K := by
  refine Ct.of (fun _ _ _ => trivial) rfl (Nat.le_of_ble_eq_true rfl) ?_
  show AW (m_X11_isMan (d + 2) 0 0) 0 0 0 [(0, .ref 0), (1, .int x1)] [] h (kI K)
  refine aw_aload_n (i := 0) rfl d_X11_isMan_0 0 rfl ?_
  refine aw_iload_n (i := 1) rfl d_X11_isMan_1 1 rfl ?_
  refine aw_Vr 0 [.int x1] [] d_X11_isMan_2 (cV_X11_manOf (d + 1) 0 0) kc_11 (ws_0 w) tw_904 rfl (rr0 (Nat.le_of_ble_eq_true rfl) (Nat.le_of_ble_eq_true rfl)) (Nat.le_of_ble_eq_true rfl) xs0 k (fun h1 kk => ?_) (fun b4 h1 kk => ?_)
  · obtain ⟨w2, k⟩ := kk
    have k := k.1 rfl
    refine aw_ifnullN (tgt := 12) d_X11_isMan_5 rfl ?_
    refine aw_iconst (v := 0) d_X11_isMan_12 ic_0 ?_
    exact aw_zret rfl rfl d_X11_isMan_13 ⟨Nat.le_refl _, Nat.le_refl _⟩ ⟨_, rfl, k⟩
  · obtain ⟨w2, k⟩ := kk
    obtain ⟨q6, l7, k⟩ := k.2 b4 rfl
    refine aw_ifnull d_X11_isMan_5 ?_
    refine aw_iconst (v := 1) d_X11_isMan_8 ic_1 ?_
    refine aw_goto (tgt := 13) d_X11_isMan_9 rfl ?_
    exact aw_zret rfl rfl d_X11_isMan_13 ⟨Nat.le_refl _, Nat.le_refl _⟩ ⟨_, rfl, k⟩
theorem t_X11_path (d : Nat) (h : Hp_) (w : Wf h) (x1 : Int32) (x2 : Int32) (x3 : Int32) (K : Int32 → Hp_ → Prop) (k : (¬ (0 ≤ x1 ∧ x1 < 16) → K (-1) h) ∧ ((0 ≤ x1 ∧ x1 < 16) → (¬ (0 ≤ x2 ∧ x2 < 16) → K (-1) h) ∧ ((0 ≤ x2 ∧ x2 < 16) → (x1 = x2 → K (-1) h) ∧ (¬ x1 = x2 → ((1 ≤ x3 ∧ x3 ≤ 60) → Ci (m_X9_lay (d + 1) 0 0) [.ref 10, .int x1, .int x2, .int x3] h (fun r13 h11 => Wf h11 ∧ (K r13 h11))) ∧ (¬ (1 ≤ x3 ∧ x3 ≤ 60) → K (-1) h))))) : Ci (m_X11_path (d + 2) 0 0) [.ref 0, .int x1, .int x2, .int x3] h K := by
  refine Ct.of (fun _ _ _ => trivial) rfl (Nat.le_of_ble_eq_true rfl) ?_
  show AW (m_X11_path (d + 2) 0 0) 0 0 0 [(0, .ref 0), (1, .int x1), (2, .int x2), (3, .int x3)] [] h (kI K)
  refine aw_iload_n (i := 1) rfl d_X11_path_0 1 rfl ?_
  refine aw_Si [.int x1] [] d_X11_path_1 (cS_X11_isPlace (d + 0) 0 0) tw_540 rfl (rr0 (Nat.le_of_ble_eq_true rfl) (Nat.le_of_ble_eq_true rfl)) (Nat.le_of_ble_eq_true rfl) xs0 (s_X11_isPlace _ _ x1) (fun _ _ kk => ?_)
  obtain ⟨e1, e2⟩ := kk
  rw [e1, e2]
  refine aw_ifb_eq (tgt := 29) d_X11_path_4 rfl (fun c3 => ?_) (fun c3 => ?_)
  · have k := k.1 c3
    refine aw_iconst (v := (-1)) d_X11_path_29 ic_m1 ?_
    exact aw_iret rfl d_X11_path_30 ⟨Nat.le_refl _, Nat.le_refl _⟩ ⟨_, rfl, k⟩
  · have k := k.2 c3
    refine aw_iload_n (i := 2) rfl d_X11_path_7 2 rfl ?_
    refine aw_Si [.int x2] [] d_X11_path_8 (cS_X11_isPlace (d + 0) 0 0) tw_540 rfl (rr0 (Nat.le_of_ble_eq_true rfl) (Nat.le_of_ble_eq_true rfl)) (Nat.le_of_ble_eq_true rfl) xs0 (s_X11_isPlace _ _ x2) (fun _ _ kk => ?_)
    obtain ⟨e4, e5⟩ := kk
    rw [e4, e5]
    refine aw_ifb_eq (tgt := 29) d_X11_path_11 rfl (fun c6 => ?_) (fun c6 => ?_)
    · have k := k.1 c6
      refine aw_iconst (v := (-1)) d_X11_path_29 ic_m1 ?_
      exact aw_iret rfl d_X11_path_30 ⟨Nat.le_refl _, Nat.le_refl _⟩ ⟨_, rfl, k⟩
    · have k := k.2 c6
      refine aw_iload_n (i := 1) rfl d_X11_path_14 1 rfl ?_
      refine aw_iload_n (i := 2) rfl d_X11_path_15 2 rfl ?_
      refine aw_icmp_eq (tgt := 29) d_X11_path_16 rfl (fun c7 => ?_) (fun c7 => ?_)
      · have k := k.1 c7
        refine aw_iconst (v := (-1)) d_X11_path_29 ic_m1 ?_
        exact aw_iret rfl d_X11_path_30 ⟨Nat.le_refl _, Nat.le_refl _⟩ ⟨_, rfl, k⟩
      · have k := k.2 c7
        refine aw_iload_n (i := 3) rfl d_X11_path_19 3 rfl ?_
        refine aw_iconst (v := 1) d_X11_path_20 ic_1 ?_
        refine aw_bipush (v := 60) d_X11_path_21 ib_60 ?_
        refine aw_Si [.int x3, .int 1, .int 60] [] d_X11_path_23 (cS_X11_within (d + 0) 0 0) tw_543 rfl (rr0 (Nat.le_of_ble_eq_true rfl) (Nat.le_of_ble_eq_true rfl)) (Nat.le_of_ble_eq_true rfl) xs0 (s_X11_within _ _ x3 1 60) (fun _ _ kk => ?_)
        obtain ⟨e8, e9⟩ := kk
        rw [e8, e9]
        refine aw_ifb_ne (tgt := 31) d_X11_path_26 rfl (fun c10 => ?_) (fun c10 => ?_)
        · have k := k.1 c10
          refine aw_aload_n (i := 0) rfl d_X11_path_31 0 rfl ?_
          refine aw_getr (k0 := 1) kc_11 (ws_0 w) (Nat.le_of_ble_eq_true rfl) tw_488 d_X11_path_32 rfl (wr_0_1 w) ?_
          refine aw_iload_n (i := 1) rfl d_X11_path_35 1 rfl ?_
          refine aw_iload_n (i := 2) rfl d_X11_path_36 2 rfl ?_
          refine aw_iload_n (i := 3) rfl d_X11_path_37 3 rfl ?_
          refine aw_Vi 10 [.int x1, .int x2, .int x3] [] d_X11_path_38 (cV_X9_lay (d + 1) 0 0) kc_9 (ws_10 w) tw_546 rfl (rr0 (Nat.le_of_ble_eq_true rfl) (Nat.le_of_ble_eq_true rfl)) (Nat.le_of_ble_eq_true rfl) xs0 k (fun r13 h11 kk => ?_)
          obtain ⟨w12, k⟩ := kk
          exact aw_iret rfl d_X11_path_41 ⟨Nat.le_refl _, Nat.le_refl _⟩ ⟨_, rfl, k⟩
        · have k := k.2 c10
          refine aw_iconst (v := (-1)) d_X11_path_29 ic_m1 ?_
          exact aw_iret rfl d_X11_path_30 ⟨Nat.le_refl _, Nat.le_refl _⟩ ⟨_, rfl, k⟩
theorem t_X11_walk (d : Nat) (h : Hp_) (w : Wf h) (x1 : Int32) (x2 : Int32) (K : Int32 → Hp_ → Prop) (k : (¬ (0 ≤ x1 ∧ x1 < 16) → K (-1) h) ∧ ((0 ≤ x1 ∧ x1 < 16) → (¬ (0 ≤ x2 ∧ x2 < 16) → K (-1) h) ∧ ((0 ≤ x2 ∧ x2 < 16) → Ci (m_X9_minutes (d + 1) 0 0) [.ref 10, .int x1, .int x2] h (fun r9 h7 => Wf h7 ∧ (K r9 h7))))) : Ci (m_X11_walk (d + 2) 0 0) [.ref 0, .int x1, .int x2] h K := by
  refine Ct.of (fun _ _ _ => trivial) rfl (Nat.le_of_ble_eq_true rfl) ?_
  show AW (m_X11_walk (d + 2) 0 0) 0 0 0 [(0, .ref 0), (1, .int x1), (2, .int x2)] [] h (kI K)
  refine aw_iload_n (i := 1) rfl d_X11_walk_0 1 rfl ?_
  refine aw_Si [.int x1] [] d_X11_walk_1 (cS_X11_isPlace (d + 0) 0 0) tw_540 rfl (rr0 (Nat.le_of_ble_eq_true rfl) (Nat.le_of_ble_eq_true rfl)) (Nat.le_of_ble_eq_true rfl) xs0 (s_X11_isPlace _ _ x1) (fun _ _ kk => ?_)
  obtain ⟨e1, e2⟩ := kk
  rw [e1, e2]
  refine aw_ifb_eq (tgt := 26) d_X11_walk_4 rfl (fun c3 => ?_) (fun c3 => ?_)
  · have k := k.1 c3
    refine aw_iconst (v := (-1)) d_X11_walk_26 ic_m1 ?_
    exact aw_iret rfl d_X11_walk_27 ⟨Nat.le_refl _, Nat.le_refl _⟩ ⟨_, rfl, k⟩
  · have k := k.2 c3
    refine aw_iload_n (i := 2) rfl d_X11_walk_7 2 rfl ?_
    refine aw_Si [.int x2] [] d_X11_walk_8 (cS_X11_isPlace (d + 0) 0 0) tw_540 rfl (rr0 (Nat.le_of_ble_eq_true rfl) (Nat.le_of_ble_eq_true rfl)) (Nat.le_of_ble_eq_true rfl) xs0 (s_X11_isPlace _ _ x2) (fun _ _ kk => ?_)
    obtain ⟨e4, e5⟩ := kk
    rw [e4, e5]
    refine aw_ifb_eq (tgt := 26) d_X11_walk_11 rfl (fun c6 => ?_) (fun c6 => ?_)
    · have k := k.1 c6
      refine aw_iconst (v := (-1)) d_X11_walk_26 ic_m1 ?_
      exact aw_iret rfl d_X11_walk_27 ⟨Nat.le_refl _, Nat.le_refl _⟩ ⟨_, rfl, k⟩
    · have k := k.2 c6
      refine aw_aload_n (i := 0) rfl d_X11_walk_14 0 rfl ?_
      refine aw_getr (k0 := 1) kc_11 (ws_0 w) (Nat.le_of_ble_eq_true rfl) tw_488 d_X11_walk_15 rfl (wr_0_1 w) ?_
      refine aw_iload_n (i := 1) rfl d_X11_walk_18 1 rfl ?_
      refine aw_iload_n (i := 2) rfl d_X11_walk_19 2 rfl ?_
      refine aw_Vi 10 [.int x1, .int x2] [] d_X11_walk_20 (cV_X9_minutes (d + 1) 0 0) kc_9 (ws_10 w) tw_557 rfl (rr0 (Nat.le_of_ble_eq_true rfl) (Nat.le_of_ble_eq_true rfl)) (Nat.le_of_ble_eq_true rfl) xs0 k (fun r9 h7 kk => ?_)
      obtain ⟨w8, k⟩ := kk
      refine aw_goto (tgt := 27) d_X11_walk_23 rfl ?_
      exact aw_iret rfl d_X11_walk_27 ⟨Nat.le_refl _, Nat.le_refl _⟩ ⟨_, rfl, k⟩
theorem t_X11_feed (d : Nat) (h : Hp_) (w : Wf h) (x1 : Int32) (x2 : Int32) (x3 : Int32) (x4 : Int32) (x5 : Int32) (K : Int32 → Hp_ → Prop) (k : Ci (m_X8_takeIn (d + 1) 0 0) [.ref 11, .int x1, .int x2, .int x3, .int x4, .int x5] h (fun r3 h1 => Wf h1 ∧ (K r3 h1))) : Ci (m_X11_feed (d + 2) 0 0) [.ref 0, .int x1, .int x2, .int x3, .int x4, .int x5] h K := by
  refine Ct.of (fun _ _ _ => trivial) rfl (Nat.le_of_ble_eq_true rfl) ?_
  show AW (m_X11_feed (d + 2) 0 0) 0 0 0 [(0, .ref 0), (1, .int x1), (2, .int x2), (3, .int x3), (4, .int x4), (5, .int x5)] [] h (kI K)
  refine aw_aload_n (i := 0) rfl d_X11_feed_0 0 rfl ?_
  refine aw_getr (k0 := 2) kc_11 (ws_0 w) (Nat.le_of_ble_eq_true rfl) tw_489 d_X11_feed_1 rfl (wr_0_2 w) ?_
  refine aw_iload_n (i := 1) rfl d_X11_feed_4 1 rfl ?_
  refine aw_iload_n (i := 2) rfl d_X11_feed_5 2 rfl ?_
  refine aw_iload_n (i := 3) rfl d_X11_feed_6 3 rfl ?_
  refine aw_iload d_X11_feed_7 4 rfl ?_
  refine aw_iload d_X11_feed_9 5 rfl ?_
  refine aw_Vi 11 [.int x1, .int x2, .int x3, .int x4, .int x5] [] d_X11_feed_11 (cV_X8_takeIn (d + 1) 0 0) kc_8 (ws_11 w) tw_645 rfl (rr0 (Nat.le_of_ble_eq_true rfl) (Nat.le_of_ble_eq_true rfl)) (Nat.le_of_ble_eq_true rfl) xs0 k (fun r3 h1 kk => ?_)
  obtain ⟨w2, k⟩ := kk
  exact aw_iret rfl d_X11_feed_14 ⟨Nat.le_refl _, Nat.le_refl _⟩ ⟨_, rfl, k⟩
theorem t_X11_end (d : Nat) (h : Hp_) (w : Wf h) (x1 : Int32) (K : Int32 → Hp_ → Prop) (k : Ci (m_X8_cut (d + 1) 0 0) [.ref 11, .int x1] h (fun r3 h1 => Wf h1 ∧ ((r3 = 0 ∨ r3 = 1) ∧ (K r3 h1)))) : Ci (m_X11_end (d + 2) 0 0) [.ref 0, .int x1] h K := by
  refine Ct.of (fun _ _ _ => trivial) rfl (Nat.le_of_ble_eq_true rfl) ?_
  show AW (m_X11_end (d + 2) 0 0) 0 0 0 [(0, .ref 0), (1, .int x1)] [] h (kI K)
  refine aw_aload_n (i := 0) rfl d_X11_end_0 0 rfl ?_
  refine aw_getr (k0 := 2) kc_11 (ws_0 w) (Nat.le_of_ble_eq_true rfl) tw_489 d_X11_end_1 rfl (wr_0_2 w) ?_
  refine aw_iload_n (i := 1) rfl d_X11_end_4 1 rfl ?_
  refine aw_Vi 11 [.int x1] [] d_X11_end_5 (cV_X8_cut (d + 1) 0 0) kc_8 (ws_11 w) tw_660 rfl (rr0 (Nat.le_of_ble_eq_true rfl) (Nat.le_of_ble_eq_true rfl)) (Nat.le_of_ble_eq_true rfl) xs0 k (fun r3 h1 kk => ?_)
  obtain ⟨w2, k⟩ := kk
  obtain ⟨z4, k⟩ := k
  exact aw_zret rfl (nf_z z4).1 d_X11_end_8 ⟨Nat.le_refl _, Nat.le_refl _⟩ ⟨_, rfl, k⟩
theorem t_X11_beaten (d : Nat) (h : Hp_) (w : Wf h) (x1 : Int32) (x2 : Int32) (K : Int32 → Hp_ → Prop) (k : Ci (m_X0_has (d + 0) 0 0) [.ref 12, .int x1] h (fun r3 h1 => Wf h1 ∧ ((¬ r3 = 0 → (x2 = 0 → Ci (m_X0_stepsOf (d + 1) 0 0) [.ref 12, .int x1] h1 (fun r8 h6 => Wf h6 ∧ (K r8 h6))) ∧ ((x2 = 1 → Ci (m_X0_pointsOf (d + 1) 0 0) [.ref 12, .int x1] h1 (fun r12 h10 => Wf h10 ∧ (K r12 h10))) ∧ ((¬ x2 = 0 ∧ ¬ x2 = 1 → K (-1) h1)))) ∧ (r3 = 0 → K (-1) h1)))) : Ci (m_X11_beaten (d + 2) 0 0) [.ref 0, .int x1, .int x2] h K := by
  refine Ct.of (fun _ _ _ => trivial) rfl (Nat.le_of_ble_eq_true rfl) ?_
  show AW (m_X11_beaten (d + 2) 0 0) 0 0 0 [(0, .ref 0), (1, .int x1), (2, .int x2)] [] h (kI K)
  refine aw_aload_n (i := 0) rfl d_X11_beaten_0 0 rfl ?_
  refine aw_getr (k0 := 3) kc_11 (ws_0 w) (Nat.le_of_ble_eq_true rfl) tw_490 d_X11_beaten_1 rfl (wr_0_3 w) ?_
  refine aw_iload_n (i := 1) rfl d_X11_beaten_4 1 rfl ?_
  refine aw_Vi 12 [.int x1] [] d_X11_beaten_5 (cV_X0_has (d + 0) 0 0) kc_0 (ws_12 w) tw_887 rfl (rr0 (Nat.le_of_ble_eq_true rfl) (Nat.le_of_ble_eq_true rfl)) (Nat.le_of_ble_eq_true rfl) xs0 k (fun r3 h1 kk => ?_)
  obtain ⟨w2, k⟩ := kk
  refine aw_if_ne (tgt := 13) d_X11_beaten_8 rfl (fun c4 => ?_) (fun c4 => ?_)
  · have k := k.1 c4
    refine aw_iload_n (i := 2) rfl d_X11_beaten_13 2 rfl ?_
    by_cases e5 : x2 = 0
    · refine aw_lookup (off := 26) (tgt := 40) d_X11_beaten_14 (by decide) (by rw [e5]; decide) rfl ?_
      have k := k.1 e5
      refine aw_aload_n (i := 0) rfl d_X11_beaten_40 0 rfl ?_
      refine aw_getr (k0 := 3) kc_11 (ws_0 w2) (Nat.le_of_ble_eq_true rfl) tw_490 d_X11_beaten_41 rfl (wr_0_3 w2) ?_
      refine aw_iload_n (i := 1) rfl d_X11_beaten_44 1 rfl ?_
      refine aw_Vi 12 [.int x1] [] d_X11_beaten_45 (cV_X0_stepsOf (d + 1) 0 0) kc_0 (ws_12 w2) tw_891 rfl (rr0 (Nat.le_of_ble_eq_true rfl) (Nat.le_of_ble_eq_true rfl)) (Nat.le_of_ble_eq_true rfl) xs0 k (fun r8 h6 kk => ?_)
      obtain ⟨w7, k⟩ := kk
      exact aw_iret rfl d_X11_beaten_48 ⟨Nat.le_refl _, Nat.le_refl _⟩ ⟨_, rfl, k⟩
    · have k := k.2
      by_cases e9 : x2 = 1
      · refine aw_lookup (off := 35) (tgt := 49) d_X11_beaten_14 (by decide) (by rw [e9]; decide) rfl ?_
        have k := k.1 e9
        refine aw_aload_n (i := 0) rfl d_X11_beaten_49 0 rfl ?_
        refine aw_getr (k0 := 3) kc_11 (ws_0 w2) (Nat.le_of_ble_eq_true rfl) tw_490 d_X11_beaten_50 rfl (wr_0_3 w2) ?_
        refine aw_iload_n (i := 1) rfl d_X11_beaten_53 1 rfl ?_
        refine aw_Vi 12 [.int x1] [] d_X11_beaten_54 (cV_X0_pointsOf (d + 1) 0 0) kc_0 (ws_12 w2) tw_896 rfl (rr0 (Nat.le_of_ble_eq_true rfl) (Nat.le_of_ble_eq_true rfl)) (Nat.le_of_ble_eq_true rfl) xs0 k (fun r12 h10 kk => ?_)
        obtain ⟨w11, k⟩ := kk
        exact aw_iret rfl d_X11_beaten_57 ⟨Nat.le_refl _, Nat.le_refl _⟩ ⟨_, rfl, k⟩
      · have k := k.2
        have k := k ⟨e5, e9⟩
        have n13 := sw_ne (0) (by decide) e5
        have n14 := sw_ne (1) (by decide) e9
        refine aw_lookup (off := 44) (tgt := 58) d_X11_beaten_14 (by decide) (by simp [Op.lookupswitch.offset, n13, n14, Ne.symm n13, Ne.symm n14]) rfl ?_
        refine aw_iconst (v := (-1)) d_X11_beaten_58 ic_m1 ?_
        exact aw_iret rfl d_X11_beaten_59 ⟨Nat.le_refl _, Nat.le_refl _⟩ ⟨_, rfl, k⟩
  · have k := k.2 c4
    refine aw_iconst (v := (-1)) d_X11_beaten_11 ic_m1 ?_
    exact aw_iret rfl d_X11_beaten_12 ⟨Nat.le_refl _, Nat.le_refl _⟩ ⟨_, rfl, k⟩
theorem t_X11_writeRows (d : Nat) (h : Hp_) (w : Wf h) (x1 : Nat) (hs_x1 : h_sh h x1 = some (12, 17)) (lb_x1 : 400 ≤ x1) (K : Hp_ → Prop) (k : Ci (m_X0_stepsOf (d + 1) 0 0) [.ref 12, .int (h_i h x1 8)] h (fun r3 h1 => Wf h1 ∧ h_sh h1 x1 = some (12, 17) ∧ (AW (m_X11_writeRows (d + 2) 0 0) 0 0 14 [(0, .ref 0), (1, .ref x1), (2, .int r3), (3, .int 0)] [] h1 (kV K)))) : Cv (m_X11_writeRows (d + 2) 0 0) [.ref 0, .ref x1] h K := by
  refine Ct.of (fun _ _ _ => trivial) rfl (Nat.le_of_ble_eq_true rfl) ?_
  show AW (m_X11_writeRows (d + 2) 0 0) 0 0 0 [(0, .ref 0), (1, .ref x1)] [] h (kV K)
  refine aw_aload_n (i := 0) rfl d_X11_writeRows_0 0 rfl ?_
  refine aw_getr (k0 := 3) kc_11 (ws_0 w) (Nat.le_of_ble_eq_true rfl) tw_490 d_X11_writeRows_1 rfl (wr_0_3 w) ?_
  refine aw_aload_n (i := 1) rfl d_X11_writeRows_4 1 rfl ?_
  refine aw_geti (k0 := 8) kc_2 (hs_x1) (Nat.le_of_ble_eq_true rfl) tw_588 d_X11_writeRows_5 rfl ?_
  refine aw_Vi 12 [.int (h_i h x1 8)] [] d_X11_writeRows_8 (cV_X0_stepsOf (d + 1) 0 0) kc_0 (ws_12 w) tw_891 rfl (rr0 (Nat.le_of_ble_eq_true rfl) (Nat.le_of_ble_eq_true rfl)) (Nat.le_of_ble_eq_true rfl) xs0 k (fun r3 h1 kk => ?_)
  obtain ⟨w2, q4, k⟩ := kk
  refine aw_istore_n (i := 2) rfl [(0, .ref 0), (1, .ref x1), (2, .int r3)] d_X11_writeRows_11 (Nat.le_of_ble_eq_true rfl) rfl rfl ?_
  refine aw_iconst (v := 0) d_X11_writeRows_12 ic_0 ?_
  refine aw_istore_n (i := 3) rfl [(0, .ref 0), (1, .ref x1), (2, .int r3), (3, .int 0)] d_X11_writeRows_13 (Nat.le_of_ble_eq_true rfl) rfl rfl ?_
  exact k
theorem t_X11_writeRows_14 (d : Nat) (h : Hp_) (w : Wf h) (x1 : Nat) (hs_x1 : h_sh h x1 = some (12, 17)) (lb_x1 : 400 ≤ x1) (x2 : Int32) (x3 : Int32) (K : Hp_ → Prop) (k : (x2 ≤ x3 → K h) ∧ (¬ x2 ≤ x3 → Ci (m_X0_stepAt (d + 0) 0 0) [.ref 12, .int (h_i h x1 8), .int x3] h (fun r8 h6 => Wf h6 ∧ h_sh h6 x1 = some (12, 17) ∧ (Ci (m_X0_kindOf (d + 0) 0 0) [.int r8] h6 (fun r12 h10 => Wf h10 ∧ h_sh h10 x1 = some (12, 17) ∧ ((¬ r12 = 2 → AW (m_X11_writeRows (d + 2) 0 0) 0 0 14 [(0, .ref 0), (1, .ref x1), (2, .int x2), (3, .int (x3 + 1))] [] h10 (kV K)) ∧ (r12 = 2 → Ci (m_X0_placeOf (d + 0) 0 0) [.int r8] h10 (fun r17 h15 => Wf h15 ∧ h_sh h15 x1 = some (12, 17) ∧ (Ci (m_X0_amountOf (d + 0) 0 0) [.int r8] h15 (fun r21 h19 => Wf h19 ∧ h_sh h19 x1 = some (12, 17) ∧ (Cv (m_X7_write (d + 0) 0 0) [.ref 16, .int (h_i h10 x1 0), .int r17, .int ((h_i h15 0 0) + r21), .int (h_i h19 0 0)] h19 (fun h23 => Wf h23 ∧ h_sh h23 x1 = some (12, 17) ∧ (AW (m_X11_writeRows (d + 2) 0 0) 0 0 14 [(0, .ref 0), (1, .ref x1), (2, .int x2), (3, .int (x3 + 1))] [] h23 (kV K)))))))))))))) : AW (m_X11_writeRows (d + 2) 0 0) 0 0 14 [(0, .ref 0), (1, .ref x1), (2, .int x2), (3, .int x3)] [] h (kV K) := by
  refine aw_iload_n (i := 3) rfl d_X11_writeRows_14 3 rfl ?_
  refine aw_iload_n (i := 2) rfl d_X11_writeRows_15 2 rfl ?_
  refine aw_icmp_ge (tgt := 78) d_X11_writeRows_16 rfl (fun c5 => ?_) (fun c5 => ?_)
  · have k := k.1 c5
    exact aw_vret rfl d_X11_writeRows_78 ⟨Nat.le_refl _, Nat.le_refl _⟩ ⟨rfl, k⟩
  · have k := k.2 c5
    refine aw_aload_n (i := 0) rfl d_X11_writeRows_19 0 rfl ?_
    refine aw_getr (k0 := 3) kc_11 (ws_0 w) (Nat.le_of_ble_eq_true rfl) tw_490 d_X11_writeRows_20 rfl (wr_0_3 w) ?_
    refine aw_aload_n (i := 1) rfl d_X11_writeRows_23 1 rfl ?_
    refine aw_geti (k0 := 8) kc_2 (hs_x1) (Nat.le_of_ble_eq_true rfl) tw_588 d_X11_writeRows_24 rfl ?_
    refine aw_iload_n (i := 3) rfl d_X11_writeRows_27 3 rfl ?_
    refine aw_Vi 12 [.int (h_i h x1 8), .int x3] [] d_X11_writeRows_28 (cV_X0_stepAt (d + 0) 0 0) kc_0 (ws_12 w) tw_916 rfl (rr0 (Nat.le_of_ble_eq_true rfl) (Nat.le_of_ble_eq_true rfl)) (Nat.le_of_ble_eq_true rfl) xs0 k (fun r8 h6 kk => ?_)
    obtain ⟨w7, q9, k⟩ := kk
    refine aw_istore [(0, .ref 0), (1, .ref x1), (2, .int x2), (3, .int x3), (4, .int r8)] d_X11_writeRows_31 (Nat.le_of_ble_eq_true rfl) rfl rfl ?_
    refine aw_iload d_X11_writeRows_33 4 rfl ?_
    refine aw_Si [.int r8] [] d_X11_writeRows_35 (cS_X0_kindOf (d + 0) 0 0) tw_920 rfl (rr0 (Nat.le_of_ble_eq_true rfl) (Nat.le_of_ble_eq_true rfl)) (Nat.le_of_ble_eq_true rfl) xs0 k (fun r12 h10 kk => ?_)
    obtain ⟨w11, q13, k⟩ := kk
    refine aw_iconst (v := 2) d_X11_writeRows_38 ic_2 ?_
    refine aw_icmp_ne (tgt := 72) d_X11_writeRows_39 rfl (fun c14 => ?_) (fun c14 => ?_)
    · have k := k.1 c14
      refine aw_iinc (v := (x3 + 1)) [(0, .ref 0), (1, .ref x1), (2, .int x2), (3, .int (x3 + 1)), (4, .int r8)] d_X11_writeRows_72 3 rfl rfl (Nat.le_of_ble_eq_true rfl) rfl rfl ?_
      refine aw_goto (tgt := 14) d_X11_writeRows_75 rfl ?_
      exact aw_lvp [0, 1, 2, 3] [(0, .ref 0), (1, .ref x1), (2, .int x2), (3, .int (x3 + 1))] rfl k
    · have k := k.2 c14
      refine aw_aload_n (i := 0) rfl d_X11_writeRows_42 0 rfl ?_
      refine aw_getr (k0 := 8) kc_11 (ws_0 w11) (Nat.le_of_ble_eq_true rfl) tw_495 d_X11_writeRows_43 rfl (wr_0_8 w11) ?_
      refine aw_aload_n (i := 1) rfl d_X11_writeRows_46 1 rfl ?_
      refine aw_geti (k0 := 0) kc_2 (q13) (Nat.le_of_ble_eq_true rfl) tw_573 d_X11_writeRows_47 rfl ?_
      refine aw_iload d_X11_writeRows_50 4 rfl ?_
      refine aw_Si [.int r8] [.int (h_i h10 x1 0), .ref 16] d_X11_writeRows_52 (cS_X0_placeOf (d + 0) 0 0) tw_921 rfl (rr0 (Nat.le_of_ble_eq_true rfl) (Nat.le_of_ble_eq_true rfl)) (Nat.le_of_ble_eq_true rfl) xs0 k (fun r17 h15 kk => ?_)
      obtain ⟨w16, q18, k⟩ := kk
      refine aw_aload_n (i := 0) rfl d_X11_writeRows_55 0 rfl ?_
      refine aw_geti (k0 := 0) kc_11 (ws_0 w16) (Nat.le_of_ble_eq_true rfl) tw_487 d_X11_writeRows_56 rfl ?_
      refine aw_iload d_X11_writeRows_59 4 rfl ?_
      refine aw_Si [.int r8] [.int (h_i h15 0 0), .int r17, .int (h_i h10 x1 0), .ref 16] d_X11_writeRows_61 (cS_X0_amountOf (d + 0) 0 0) tw_924 rfl (rr0 (Nat.le_of_ble_eq_true rfl) (Nat.le_of_ble_eq_true rfl)) (Nat.le_of_ble_eq_true rfl) xs0 k (fun r21 h19 kk => ?_)
      obtain ⟨w20, q22, k⟩ := kk
      refine aw_iadd d_X11_writeRows_64 ?_
      refine aw_aload_n (i := 0) rfl d_X11_writeRows_65 0 rfl ?_
      refine aw_geti (k0 := 0) kc_11 (ws_0 w20) (Nat.le_of_ble_eq_true rfl) tw_487 d_X11_writeRows_66 rfl ?_
      refine aw_Vv 16 [.int (h_i h10 x1 0), .int r17, .int ((h_i h15 0 0) + r21), .int (h_i h19 0 0)] [] d_X11_writeRows_69 (cV_X7_write (d + 0) 0 0) kc_7 (ws_16 w20) tw_927 rfl (rr0 (Nat.le_of_ble_eq_true rfl) (Nat.le_of_ble_eq_true rfl)) (Nat.le_of_ble_eq_true rfl) xs0 k (fun h23 kk => ?_)
      obtain ⟨w24, q26, k⟩ := kk
      refine aw_iinc (v := (x3 + 1)) [(0, .ref 0), (1, .ref x1), (2, .int x2), (3, .int (x3 + 1)), (4, .int r8)] d_X11_writeRows_72 3 rfl rfl (Nat.le_of_ble_eq_true rfl) rfl rfl ?_
      refine aw_goto (tgt := 14) d_X11_writeRows_75 rfl ?_
      exact aw_lvp [0, 1, 2, 3] [(0, .ref 0), (1, .ref x1), (2, .int x2), (3, .int (x3 + 1))] rfl k
theorem t_X11_waitsAtPoint (d : Nat) (h : Hp_) (x1 : Nat) (hs_x1 : h_sh h x1 = some (12, 17)) (lb_x1 : 400 ≤ x1) (x2 : Int32) (K : Int32 → Hp_ → Prop) (k : Ci (m_X0_amountOf (d + 0) 0 0) [.int x2] h (fun r3 h1 => Wf h1 ∧ h_sh h1 x1 = some (12, 17) ∧ (((h_i h1 0 0) ≤ ((h_i h x1 10) + r3) → Cv (m_X11_settleRow (d + 1) 0 0) [.ref 0, .ref x1, .int 1, .int (-1)] h1 (fun h6 => Wf h6 ∧ h_sh h6 x1 = some (12, 17) ∧ ((((h_i h x1 10) + r3) ≤ (h_i h6 0 0) → K 0 h6) ∧ (¬ ((h_i h x1 10) + r3) ≤ (h_i h6 0 0) → K 1 (h_im h6 x1 7 ((h_i h x1 10) + r3)))))) ∧ (¬ (h_i h1 0 0) ≤ ((h_i h x1 10) + r3) → Cv (m_X11_settleRow (d + 1) 0 0) [.ref 0, .ref x1, .int 2, .int 1] h1 (fun h11 => Wf h11 ∧ (K 0 h11)))))) : Ci (m_X11_waitsAtPoint (d + 2) 0 0) [.ref 0, .ref x1, .int x2] h K := by
  refine Ct.of (fun _ _ _ => trivial) rfl (Nat.le_of_ble_eq_true rfl) ?_
  show AW (m_X11_waitsAtPoint (d + 2) 0 0) 0 0 0 [(0, .ref 0), (1, .ref x1), (2, .int x2)] [] h (kI K)
  refine aw_aload_n (i := 1) rfl d_X11_waitsAtPoint_0 1 rfl ?_
  refine aw_geti (k0 := 10) kc_2 (hs_x1) (Nat.le_of_ble_eq_true rfl) tw_590 d_X11_waitsAtPoint_1 rfl ?_
  refine aw_iload_n (i := 2) rfl d_X11_waitsAtPoint_4 2 rfl ?_
  refine aw_Si [.int x2] [.int (h_i h x1 10)] d_X11_waitsAtPoint_5 (cS_X0_amountOf (d + 0) 0 0) tw_924 rfl (rr0 (Nat.le_of_ble_eq_true rfl) (Nat.le_of_ble_eq_true rfl)) (Nat.le_of_ble_eq_true rfl) xs0 k (fun r3 h1 kk => ?_)
  obtain ⟨w2, q4, k⟩ := kk
  refine aw_iadd d_X11_waitsAtPoint_8 ?_
  refine aw_istore_n (i := 3) rfl [(0, .ref 0), (1, .ref x1), (2, .int x2), (3, .int ((h_i h x1 10) + r3))] d_X11_waitsAtPoint_9 (Nat.le_of_ble_eq_true rfl) rfl rfl ?_
  refine aw_aload_n (i := 0) rfl d_X11_waitsAtPoint_10 0 rfl ?_
  refine aw_geti (k0 := 0) kc_11 (ws_0 w2) (Nat.le_of_ble_eq_true rfl) tw_487 d_X11_waitsAtPoint_11 rfl ?_
  refine aw_iload_n (i := 3) rfl d_X11_waitsAtPoint_14 3 rfl ?_
  refine aw_icmp_le (tgt := 27) d_X11_waitsAtPoint_15 rfl (fun c5 => ?_) (fun c5 => ?_)
  · have k := k.1 c5
    refine aw_aload_n (i := 0) rfl d_X11_waitsAtPoint_27 0 rfl ?_
    refine aw_aload_n (i := 1) rfl d_X11_waitsAtPoint_28 1 rfl ?_
    refine aw_iconst (v := 1) d_X11_waitsAtPoint_29 ic_1 ?_
    refine aw_iconst (v := (-1)) d_X11_waitsAtPoint_30 ic_m1 ?_
    refine aw_Vv 0 [.ref x1, .int 1, .int (-1)] [] d_X11_waitsAtPoint_31 (cV_X11_settleRow (d + 1) 0 0) kc_11 (ws_0 w2) tw_943 rfl (rr0 (Nat.le_of_ble_eq_true rfl) (Nat.le_of_ble_eq_true rfl)) (Nat.le_of_ble_eq_true rfl) xs0 k (fun h6 kk => ?_)
    obtain ⟨w7, q9, k⟩ := kk
    refine aw_iload_n (i := 3) rfl d_X11_waitsAtPoint_34 3 rfl ?_
    refine aw_aload_n (i := 0) rfl d_X11_waitsAtPoint_35 0 rfl ?_
    refine aw_geti (k0 := 0) kc_11 (ws_0 w7) (Nat.le_of_ble_eq_true rfl) tw_487 d_X11_waitsAtPoint_36 rfl ?_
    refine aw_icmp_le (tgt := 49) d_X11_waitsAtPoint_39 rfl (fun c10 => ?_) (fun c10 => ?_)
    · have k := k.1 c10
      refine aw_iconst (v := 0) d_X11_waitsAtPoint_49 ic_0 ?_
      exact aw_zret rfl rfl d_X11_waitsAtPoint_50 ⟨Nat.le_refl _, Nat.le_refl _⟩ ⟨_, rfl, k⟩
    · have k := k.2 c10
      refine aw_aload_n (i := 1) rfl d_X11_waitsAtPoint_42 1 rfl ?_
      refine aw_iload_n (i := 3) rfl d_X11_waitsAtPoint_43 3 rfl ?_
      refine aw_puti (k0 := 7) kc_2 (q9) (Nat.le_of_ble_eq_true rfl) tw_587 d_X11_waitsAtPoint_44 rfl rfl nf_i ?_
      refine aw_iconst (v := 1) d_X11_waitsAtPoint_47 ic_1 ?_
      exact aw_zret rfl rfl d_X11_waitsAtPoint_48 ⟨Nat.le_refl _, Nat.le_refl _⟩ ⟨_, rfl, k⟩
  · have k := k.2 c5
    refine aw_aload_n (i := 0) rfl d_X11_waitsAtPoint_18 0 rfl ?_
    refine aw_aload_n (i := 1) rfl d_X11_waitsAtPoint_19 1 rfl ?_
    refine aw_iconst (v := 2) d_X11_waitsAtPoint_20 ic_2 ?_
    refine aw_iconst (v := 1) d_X11_waitsAtPoint_21 ic_1 ?_
    refine aw_Vv 0 [.ref x1, .int 2, .int 1] [] d_X11_waitsAtPoint_22 (cV_X11_settleRow (d + 1) 0 0) kc_11 (ws_0 w2) tw_943 rfl (rr0 (Nat.le_of_ble_eq_true rfl) (Nat.le_of_ble_eq_true rfl)) (Nat.le_of_ble_eq_true rfl) xs0 k (fun h11 kk => ?_)
    obtain ⟨w12, k⟩ := kk
    refine aw_iconst (v := 0) d_X11_waitsAtPoint_25 ic_0 ?_
    exact aw_zret rfl rfl d_X11_waitsAtPoint_26 ⟨Nat.le_refl _, Nat.le_refl _⟩ ⟨_, rfl, k⟩
theorem t_X11_setsOut (d : Nat) (h : Hp_) (w : Wf h) (x1 : Nat) (hs_x1 : h_sh h x1 = some (12, 17)) (lb_x1 : 400 ≤ x1) (x2 : Int32) (K : Int32 → Hp_ → Prop) (k : Ci (m_X9_minutes (d + 1) 0 0) [.ref 10, .int (h_i h x1 5), .int x2] h (fun r3 h1 => Wf h1 ∧ h_sh h1 x1 = some (12, 17) ∧ ((0 < r3 → Cv (m_X11_putAt (d + 0) 0 0) [.ref 0, .ref x1, .int (-1)] (h_im (h_im h1 x1 6 x2) x1 7 ((h_i h1 0 0) + r3)) (fun h6 => Wf h6 ∧ (K 1 h6))) ∧ (¬ 0 < r3 → K 0 h1)))) : Ci (m_X11_setsOut (d + 2) 0 0) [.ref 0, .ref x1, .int x2] h K := by
  refine Ct.of (fun _ _ _ => trivial) rfl (Nat.le_of_ble_eq_true rfl) ?_
  show AW (m_X11_setsOut (d + 2) 0 0) 0 0 0 [(0, .ref 0), (1, .ref x1), (2, .int x2)] [] h (kI K)
  refine aw_aload_n (i := 0) rfl d_X11_setsOut_0 0 rfl ?_
  refine aw_getr (k0 := 1) kc_11 (ws_0 w) (Nat.le_of_ble_eq_true rfl) tw_488 d_X11_setsOut_1 rfl (wr_0_1 w) ?_
  refine aw_aload_n (i := 1) rfl d_X11_setsOut_4 1 rfl ?_
  refine aw_geti (k0 := 5) kc_2 (hs_x1) (Nat.le_of_ble_eq_true rfl) tw_583 d_X11_setsOut_5 rfl ?_
  refine aw_iload_n (i := 2) rfl d_X11_setsOut_8 2 rfl ?_
  refine aw_Vi 10 [.int (h_i h x1 5), .int x2] [] d_X11_setsOut_9 (cV_X9_minutes (d + 1) 0 0) kc_9 (ws_10 w) tw_557 rfl (rr0 (Nat.le_of_ble_eq_true rfl) (Nat.le_of_ble_eq_true rfl)) (Nat.le_of_ble_eq_true rfl) xs0 k (fun r3 h1 kk => ?_)
  obtain ⟨w2, q4, k⟩ := kk
  refine aw_istore_n (i := 3) rfl [(0, .ref 0), (1, .ref x1), (2, .int x2), (3, .int r3)] d_X11_setsOut_12 (Nat.le_of_ble_eq_true rfl) rfl rfl ?_
  refine aw_iload_n (i := 3) rfl d_X11_setsOut_13 3 rfl ?_
  refine aw_if_gt (tgt := 19) d_X11_setsOut_14 rfl (fun c5 => ?_) (fun c5 => ?_)
  · have k := k.1 c5
    refine aw_aload_n (i := 1) rfl d_X11_setsOut_19 1 rfl ?_
    refine aw_iload_n (i := 2) rfl d_X11_setsOut_20 2 rfl ?_
    refine aw_puti (k0 := 6) kc_2 (q4) (Nat.le_of_ble_eq_true rfl) tw_585 d_X11_setsOut_21 rfl rfl nf_i ?_
    refine aw_aload_n (i := 1) rfl d_X11_setsOut_24 1 rfl ?_
    refine aw_aload_n (i := 0) rfl d_X11_setsOut_25 0 rfl ?_
    refine aw_geti (k0 := 0) kc_11 (ws_0 w2) (Nat.le_of_ble_eq_true rfl) tw_487 d_X11_setsOut_26 rfl ?_
    refine aw_vi (v2 := (h_i h1 0 0)) ((hi_n h1 x1 6 x2 0 0 (by omega)).trans (rfl)) ?_
    refine aw_iload_n (i := 3) rfl d_X11_setsOut_29 3 rfl ?_
    refine aw_iadd d_X11_setsOut_30 ?_
    refine aw_puti (k0 := 7) kc_2 (q4) (Nat.le_of_ble_eq_true rfl) tw_587 d_X11_setsOut_31 rfl rfl nf_i ?_
    refine aw_aload_n (i := 0) rfl d_X11_setsOut_34 0 rfl ?_
    refine aw_aload_n (i := 1) rfl d_X11_setsOut_35 1 rfl ?_
    refine aw_iconst (v := (-1)) d_X11_setsOut_36 ic_m1 ?_
    refine aw_Vv 0 [.ref x1, .int (-1)] [] d_X11_setsOut_37 (cV_X11_putAt (d + 0) 0 0) kc_11 (ws_0 w2) tw_634 rfl (rr0 (Nat.le_of_ble_eq_true rfl) (Nat.le_of_ble_eq_true rfl)) (Nat.le_of_ble_eq_true rfl) xs0 k (fun h6 kk => ?_)
    obtain ⟨w7, k⟩ := kk
    refine aw_iconst (v := 1) d_X11_setsOut_40 ic_1 ?_
    exact aw_zret rfl rfl d_X11_setsOut_41 ⟨Nat.le_refl _, Nat.le_refl _⟩ ⟨_, rfl, k⟩
  · have k := k.2 c5
    refine aw_iconst (v := 0) d_X11_setsOut_17 ic_0 ?_
    exact aw_zret rfl rfl d_X11_setsOut_18 ⟨Nat.le_refl _, Nat.le_refl _⟩ ⟨_, rfl, k⟩
theorem t_X11_drop (d : Nat) (h : Hp_) (x1 : Nat) (hs_x1 : h_sh h x1 = some (12, 17)) (lb_x1 : 400 ≤ x1) (x2 : Int32) (K : Hp_ → Prop) (k : (¬ (h_i h x1 4) = 1 → K h) ∧ ((h_i h x1 4) = 1 → Ci (m_X2_openPoints (d + 0) 0 0) [.ref x1] h (fun r4 h2 => Wf h2 ∧ h_sh h2 x1 = some (12, 17) ∧ (AW (m_X11_drop (d + 2) 0 0) 0 0 16 [(0, .ref 0), (1, .ref x1), (2, .int x2), (3, .int r4), (4, .int 0)] [] h2 (kV K))))) : Cv (m_X11_drop (d + 2) 0 0) [.ref 0, .ref x1, .int x2] h K := by
  refine Ct.of (fun _ _ _ => trivial) rfl (Nat.le_of_ble_eq_true rfl) ?_
  show AW (m_X11_drop (d + 2) 0 0) 0 0 0 [(0, .ref 0), (1, .ref x1), (2, .int x2)] [] h (kV K)
  refine aw_aload_n (i := 1) rfl d_X11_drop_0 1 rfl ?_
  refine aw_geti (k0 := 4) kc_2 (hs_x1) (Nat.le_of_ble_eq_true rfl) tw_581 d_X11_drop_1 rfl ?_
  refine aw_iconst (v := 1) d_X11_drop_4 ic_1 ?_
  refine aw_icmp_ne (tgt := 35) d_X11_drop_5 rfl (fun c1 => ?_) (fun c1 => ?_)
  · have k := k.1 c1
    exact aw_vret rfl d_X11_drop_35 ⟨Nat.le_refl _, Nat.le_refl _⟩ ⟨rfl, k⟩
  · have k := k.2 c1
    refine aw_aload_n (i := 1) rfl d_X11_drop_8 1 rfl ?_
    refine aw_Vi x1 [] [] d_X11_drop_9 (cV_X2_openPoints (d + 0) 0 0) kc_2 (hs_x1) tw_979 rfl (rr0 (Nat.le_of_ble_eq_true rfl) (Nat.le_of_ble_eq_true rfl)) (Nat.le_of_ble_eq_true rfl) xs0 k (fun r4 h2 kk => ?_)
    obtain ⟨w3, q5, k⟩ := kk
    refine aw_istore_n (i := 3) rfl [(0, .ref 0), (1, .ref x1), (2, .int x2), (3, .int r4)] d_X11_drop_12 (Nat.le_of_ble_eq_true rfl) rfl rfl ?_
    refine aw_iconst (v := 0) d_X11_drop_13 ic_0 ?_
    refine aw_istore [(0, .ref 0), (1, .ref x1), (2, .int x2), (3, .int r4), (4, .int 0)] d_X11_drop_14 (Nat.le_of_ble_eq_true rfl) rfl rfl ?_
    exact k
theorem t_X11_drop_16 (d : Nat) (h : Hp_) (w : Wf h) (x1 : Nat) (hs_x1 : h_sh h x1 = some (12, 17)) (lb_x1 : 400 ≤ x1) (x2 : Int32) (x3 : Int32) (x4 : Int32) (K : Hp_ → Prop) (k : (x3 ≤ x4 → K h) ∧ (¬ x3 ≤ x4 → Cv (m_X11_settleRow (d + 1) 0 0) [.ref 0, .ref x1, .int 2, .int x2] h (fun h7 => Wf h7 ∧ h_sh h7 x1 = some (12, 17) ∧ (AW (m_X11_drop (d + 2) 0 0) 0 0 16 [(0, .ref 0), (1, .ref x1), (2, .int x2), (3, .int x3), (4, .int (x4 + 1))] [] h7 (kV K))))) : AW (m_X11_drop (d + 2) 0 0) 0 0 16 [(0, .ref 0), (1, .ref x1), (2, .int x2), (3, .int x3), (4, .int x4)] [] h (kV K) := by
  refine aw_iload d_X11_drop_16 4 rfl ?_
  refine aw_iload_n (i := 3) rfl d_X11_drop_18 3 rfl ?_
  refine aw_icmp_ge (tgt := 35) d_X11_drop_19 rfl (fun c6 => ?_) (fun c6 => ?_)
  · have k := k.1 c6
    exact aw_vret rfl d_X11_drop_35 ⟨Nat.le_refl _, Nat.le_refl _⟩ ⟨rfl, k⟩
  · have k := k.2 c6
    refine aw_aload_n (i := 0) rfl d_X11_drop_22 0 rfl ?_
    refine aw_aload_n (i := 1) rfl d_X11_drop_23 1 rfl ?_
    refine aw_iconst (v := 2) d_X11_drop_24 ic_2 ?_
    refine aw_iload_n (i := 2) rfl d_X11_drop_25 2 rfl ?_
    refine aw_Vv 0 [.ref x1, .int 2, .int x2] [] d_X11_drop_26 (cV_X11_settleRow (d + 1) 0 0) kc_11 (ws_0 w) tw_943 rfl (rr0 (Nat.le_of_ble_eq_true rfl) (Nat.le_of_ble_eq_true rfl)) (Nat.le_of_ble_eq_true rfl) xs0 k (fun h7 kk => ?_)
    obtain ⟨w8, q10, k⟩ := kk
    refine aw_iinc (v := (x4 + 1)) [(0, .ref 0), (1, .ref x1), (2, .int x2), (3, .int x3), (4, .int (x4 + 1))] d_X11_drop_29 4 rfl rfl (Nat.le_of_ble_eq_true rfl) rfl rfl ?_
    refine aw_goto (tgt := 16) d_X11_drop_32 rfl ?_
    exact k
theorem t_X11_cause (d : Nat) (h : Hp_) (w : Wf h) (x1 : Int32) (x2 : Int32) (K : Int32 → Hp_ → Prop) (k : Ci (m_X7_has (d + 0) 0 0) [.ref 16, .int x1] h (fun r3 h1 => Wf h1 ∧ ((r3 = 0 → K 0 h1) ∧ (¬ r3 = 0 → (¬ (1 ≤ x2 ∧ x2 ≤ 9) → K 0 h1) ∧ ((1 ≤ x2 ∧ x2 ≤ 9) → Ci (m_X7_tellAnew (d + 1) 0 0) [.ref 16, .int x1, .int x2, .int (h_i h1 0 0)] h1 (fun r10 h8 => Wf h8 ∧ ((r10 = 0 → K 0 h8) ∧ (¬ r10 = 0 → K 1 h8)))))))) : Ci (m_X11_cause (d + 2) 0 0) [.ref 0, .int x1, .int x2] h K := by
  refine Ct.of (fun _ _ _ => trivial) rfl (Nat.le_of_ble_eq_true rfl) ?_
  show AW (m_X11_cause (d + 2) 0 0) 0 0 0 [(0, .ref 0), (1, .int x1), (2, .int x2)] [] h (kI K)
  refine aw_aload_n (i := 0) rfl d_X11_cause_0 0 rfl ?_
  refine aw_getr (k0 := 8) kc_11 (ws_0 w) (Nat.le_of_ble_eq_true rfl) tw_495 d_X11_cause_1 rfl (wr_0_8 w) ?_
  refine aw_iload_n (i := 1) rfl d_X11_cause_4 1 rfl ?_
  refine aw_Vi 16 [.int x1] [] d_X11_cause_5 (cV_X7_has (d + 0) 0 0) kc_7 (ws_16 w) tw_1114 rfl (rr0 (Nat.le_of_ble_eq_true rfl) (Nat.le_of_ble_eq_true rfl)) (Nat.le_of_ble_eq_true rfl) xs0 k (fun r3 h1 kk => ?_)
  obtain ⟨w2, k⟩ := kk
  refine aw_if_eq (tgt := 41) d_X11_cause_8 rfl (fun c4 => ?_) (fun c4 => ?_)
  · have k := k.1 c4
    refine aw_iconst (v := 0) d_X11_cause_41 ic_0 ?_
    exact aw_zret rfl rfl d_X11_cause_42 ⟨Nat.le_refl _, Nat.le_refl _⟩ ⟨_, rfl, k⟩
  · have k := k.2 c4
    refine aw_iload_n (i := 2) rfl d_X11_cause_11 2 rfl ?_
    refine aw_iconst (v := 1) d_X11_cause_12 ic_1 ?_
    refine aw_bipush (v := 9) d_X11_cause_13 ib_9 ?_
    refine aw_Si [.int x2, .int 1, .int 9] [] d_X11_cause_15 (cS_X11_within (d + 0) 0 0) tw_543 rfl (rr0 (Nat.le_of_ble_eq_true rfl) (Nat.le_of_ble_eq_true rfl)) (Nat.le_of_ble_eq_true rfl) xs0 (s_X11_within _ _ x2 1 9) (fun _ _ kk => ?_)
    obtain ⟨e5, e6⟩ := kk
    rw [e5, e6]
    refine aw_ifb_eq (tgt := 41) d_X11_cause_18 rfl (fun c7 => ?_) (fun c7 => ?_)
    · have k := k.1 c7
      refine aw_iconst (v := 0) d_X11_cause_41 ic_0 ?_
      exact aw_zret rfl rfl d_X11_cause_42 ⟨Nat.le_refl _, Nat.le_refl _⟩ ⟨_, rfl, k⟩
    · have k := k.2 c7
      refine aw_aload_n (i := 0) rfl d_X11_cause_21 0 rfl ?_
      refine aw_getr (k0 := 8) kc_11 (ws_0 w2) (Nat.le_of_ble_eq_true rfl) tw_495 d_X11_cause_22 rfl (wr_0_8 w2) ?_
      refine aw_iload_n (i := 1) rfl d_X11_cause_25 1 rfl ?_
      refine aw_iload_n (i := 2) rfl d_X11_cause_26 2 rfl ?_
      refine aw_aload_n (i := 0) rfl d_X11_cause_27 0 rfl ?_
      refine aw_geti (k0 := 0) kc_11 (ws_0 w2) (Nat.le_of_ble_eq_true rfl) tw_487 d_X11_cause_28 rfl ?_
      refine aw_Vi 16 [.int x1, .int x2, .int (h_i h1 0 0)] [] d_X11_cause_31 (cV_X7_tellAnew (d + 1) 0 0) kc_7 (ws_16 w2) tw_1135 rfl (rr0 (Nat.le_of_ble_eq_true rfl) (Nat.le_of_ble_eq_true rfl)) (Nat.le_of_ble_eq_true rfl) xs0 k (fun r10 h8 kk => ?_)
      obtain ⟨w9, k⟩ := kk
      refine aw_if_eq (tgt := 41) d_X11_cause_34 rfl (fun c11 => ?_) (fun c11 => ?_)
      · have k := k.1 c11
        refine aw_iconst (v := 0) d_X11_cause_41 ic_0 ?_
        exact aw_zret rfl rfl d_X11_cause_42 ⟨Nat.le_refl _, Nat.le_refl _⟩ ⟨_, rfl, k⟩
      · have k := k.2 c11
        refine aw_iconst (v := 1) d_X11_cause_37 ic_1 ?_
        refine aw_goto (tgt := 42) d_X11_cause_38 rfl ?_
        exact aw_zret rfl rfl d_X11_cause_42 ⟨Nat.le_refl _, Nat.le_refl _⟩ ⟨_, rfl, k⟩
theorem t_X11_keepRule_13 (d : Nat) (h : Hp_) (w : Wf h) (x2 : Int32) (K : Int32 → Hp_ → Prop) (k : Ci (m_X10_keep (d + 0) 0 0) [.ref 13, .int x2, .int (h_i h 0 0), .ref 11] h (fun r3 h1 => Wf h1 ∧ ((r3 = (-1) → K r3 h1) ∧ (¬ r3 = (-1) → Ci (m_X8_cut (d + 1) 0 0) [.ref 11, .int 0] h1 (fun r7 h5 => Wf h5 ∧ (K r3 h5)))))) : Ci (m_X11_keepRule (d + 2) 0 0) [.ref 0, .ref 13, .int x2] h K := by
  refine Ct.of (fun _ _ _ => trivial) rfl (Nat.le_of_ble_eq_true rfl) ?_
  show AW (m_X11_keepRule (d + 2) 0 0) 0 0 0 [(0, .ref 0), (1, .ref 13), (2, .int x2)] [] h (kI K)
  refine aw_aload_n (i := 1) rfl d_X11_keepRule_0 1 rfl ?_
  refine aw_iload_n (i := 2) rfl d_X11_keepRule_1 2 rfl ?_
  refine aw_aload_n (i := 0) rfl d_X11_keepRule_2 0 rfl ?_
  refine aw_geti (k0 := 0) kc_11 (ws_0 w) (Nat.le_of_ble_eq_true rfl) tw_487 d_X11_keepRule_3 rfl ?_
  refine aw_aload_n (i := 0) rfl d_X11_keepRule_6 0 rfl ?_
  refine aw_getr (k0 := 2) kc_11 (ws_0 w) (Nat.le_of_ble_eq_true rfl) tw_489 d_X11_keepRule_7 rfl (wr_0_2 w) ?_
  refine aw_Vi 13 [.int x2, .int (h_i h 0 0), .ref 11] [] d_X11_keepRule_10 (cV_X10_keep (d + 0) 0 0) kc_10 (ws_13 w) tw_1163 rfl (rr0 (Nat.le_of_ble_eq_true rfl) (Nat.le_of_ble_eq_true rfl)) (Nat.le_of_ble_eq_true rfl) xs0 k (fun r3 h1 kk => ?_)
  obtain ⟨w2, k⟩ := kk
  refine aw_istore_n (i := 3) rfl [(0, .ref 0), (1, .ref 13), (2, .int x2), (3, .int r3)] d_X11_keepRule_13 (Nat.le_of_ble_eq_true rfl) rfl rfl ?_
  refine aw_iload_n (i := 3) rfl d_X11_keepRule_14 3 rfl ?_
  refine aw_iconst (v := (-1)) d_X11_keepRule_15 ic_m1 ?_
  refine aw_icmp_eq (tgt := 28) d_X11_keepRule_16 rfl (fun c4 => ?_) (fun c4 => ?_)
  · have k := k.1 c4
    refine aw_iload_n (i := 3) rfl d_X11_keepRule_28 3 rfl ?_
    exact aw_iret rfl d_X11_keepRule_29 ⟨Nat.le_refl _, Nat.le_refl _⟩ ⟨_, rfl, k⟩
  · have k := k.2 c4
    refine aw_aload_n (i := 0) rfl d_X11_keepRule_19 0 rfl ?_
    refine aw_getr (k0 := 2) kc_11 (ws_0 w2) (Nat.le_of_ble_eq_true rfl) tw_489 d_X11_keepRule_20 rfl (wr_0_2 w2) ?_
    refine aw_iconst (v := 0) d_X11_keepRule_23 ic_0 ?_
    refine aw_Vi 11 [.int 0] [] d_X11_keepRule_24 (cV_X8_cut (d + 1) 0 0) kc_8 (ws_11 w2) tw_660 rfl (rr0 (Nat.le_of_ble_eq_true rfl) (Nat.le_of_ble_eq_true rfl)) (Nat.le_of_ble_eq_true rfl) xs0 k (fun r7 h5 kk => ?_)
    obtain ⟨w6, k⟩ := kk
    refine aw_pop d_X11_keepRule_27 rfl ?_
    refine aw_iload_n (i := 3) rfl d_X11_keepRule_28 3 rfl ?_
    exact aw_iret rfl d_X11_keepRule_29 ⟨Nat.le_refl _, Nat.le_refl _⟩ ⟨_, rfl, k⟩
theorem t_X11_keepRule_14 (d : Nat) (h : Hp_) (w : Wf h) (x2 : Int32) (K : Int32 → Hp_ → Prop) (k : Ci (m_X10_keep (d + 0) 0 0) [.ref 14, .int x2, .int (h_i h 0 0), .ref 11] h (fun r3 h1 => Wf h1 ∧ ((r3 = (-1) → K r3 h1) ∧ (¬ r3 = (-1) → Ci (m_X8_cut (d + 1) 0 0) [.ref 11, .int 0] h1 (fun r7 h5 => Wf h5 ∧ (K r3 h5)))))) : Ci (m_X11_keepRule (d + 2) 0 0) [.ref 0, .ref 14, .int x2] h K := by
  refine Ct.of (fun _ _ _ => trivial) rfl (Nat.le_of_ble_eq_true rfl) ?_
  show AW (m_X11_keepRule (d + 2) 0 0) 0 0 0 [(0, .ref 0), (1, .ref 14), (2, .int x2)] [] h (kI K)
  refine aw_aload_n (i := 1) rfl d_X11_keepRule_0 1 rfl ?_
  refine aw_iload_n (i := 2) rfl d_X11_keepRule_1 2 rfl ?_
  refine aw_aload_n (i := 0) rfl d_X11_keepRule_2 0 rfl ?_
  refine aw_geti (k0 := 0) kc_11 (ws_0 w) (Nat.le_of_ble_eq_true rfl) tw_487 d_X11_keepRule_3 rfl ?_
  refine aw_aload_n (i := 0) rfl d_X11_keepRule_6 0 rfl ?_
  refine aw_getr (k0 := 2) kc_11 (ws_0 w) (Nat.le_of_ble_eq_true rfl) tw_489 d_X11_keepRule_7 rfl (wr_0_2 w) ?_
  refine aw_Vi 14 [.int x2, .int (h_i h 0 0), .ref 11] [] d_X11_keepRule_10 (cV_X10_keep (d + 0) 0 0) kc_10 (ws_14 w) tw_1163 rfl (rr0 (Nat.le_of_ble_eq_true rfl) (Nat.le_of_ble_eq_true rfl)) (Nat.le_of_ble_eq_true rfl) xs0 k (fun r3 h1 kk => ?_)
  obtain ⟨w2, k⟩ := kk
  refine aw_istore_n (i := 3) rfl [(0, .ref 0), (1, .ref 14), (2, .int x2), (3, .int r3)] d_X11_keepRule_13 (Nat.le_of_ble_eq_true rfl) rfl rfl ?_
  refine aw_iload_n (i := 3) rfl d_X11_keepRule_14 3 rfl ?_
  refine aw_iconst (v := (-1)) d_X11_keepRule_15 ic_m1 ?_
  refine aw_icmp_eq (tgt := 28) d_X11_keepRule_16 rfl (fun c4 => ?_) (fun c4 => ?_)
  · have k := k.1 c4
    refine aw_iload_n (i := 3) rfl d_X11_keepRule_28 3 rfl ?_
    exact aw_iret rfl d_X11_keepRule_29 ⟨Nat.le_refl _, Nat.le_refl _⟩ ⟨_, rfl, k⟩
  · have k := k.2 c4
    refine aw_aload_n (i := 0) rfl d_X11_keepRule_19 0 rfl ?_
    refine aw_getr (k0 := 2) kc_11 (ws_0 w2) (Nat.le_of_ble_eq_true rfl) tw_489 d_X11_keepRule_20 rfl (wr_0_2 w2) ?_
    refine aw_iconst (v := 0) d_X11_keepRule_23 ic_0 ?_
    refine aw_Vi 11 [.int 0] [] d_X11_keepRule_24 (cV_X8_cut (d + 1) 0 0) kc_8 (ws_11 w2) tw_660 rfl (rr0 (Nat.le_of_ble_eq_true rfl) (Nat.le_of_ble_eq_true rfl)) (Nat.le_of_ble_eq_true rfl) xs0 k (fun r7 h5 kk => ?_)
    obtain ⟨w6, k⟩ := kk
    refine aw_pop d_X11_keepRule_27 rfl ?_
    refine aw_iload_n (i := 3) rfl d_X11_keepRule_28 3 rfl ?_
    exact aw_iret rfl d_X11_keepRule_29 ⟨Nat.le_refl _, Nat.le_refl _⟩ ⟨_, rfl, k⟩
theorem t_X11_force (d : Nat) (h : Hp_) (w : Wf h) (x1 : Int32) (x2 : Int32) (K : Int32 → Hp_ → Prop) (k : (¬ (0 ≤ x1 ∧ x1 ≤ 30) → K (-1) h) ∧ ((0 ≤ x1 ∧ x1 ≤ 30) → Ci (m_X11_isKnown (d + 1) 0 0) [.ref 0, .int x2] h (fun r6 h4 => Wf h4 ∧ ((r6 = 0 → K (-1) h4) ∧ (¬ r6 = 0 → Ci (m_X10_inForce (d + 0) 0 0) [.ref 13, .int x1, .int x2] h4 (fun r10 h8 => Wf h8 ∧ (K r10 h8))))))) : Ci (m_X11_force (d + 2) 0 0) [.ref 0, .int x1, .int x2] h K := by
  refine Ct.of (fun _ _ _ => trivial) rfl (Nat.le_of_ble_eq_true rfl) ?_
  show AW (m_X11_force (d + 2) 0 0) 0 0 0 [(0, .ref 0), (1, .int x1), (2, .int x2)] [] h (kI K)
  refine aw_iload_n (i := 1) rfl d_X11_force_0 1 rfl ?_
  refine aw_iconst (v := 0) d_X11_force_1 ic_0 ?_
  refine aw_bipush (v := 30) d_X11_force_2 ib_30 ?_
  refine aw_Si [.int x1, .int 0, .int 30] [] d_X11_force_4 (cS_X11_within (d + 0) 0 0) tw_543 rfl (rr0 (Nat.le_of_ble_eq_true rfl) (Nat.le_of_ble_eq_true rfl)) (Nat.le_of_ble_eq_true rfl) xs0 (s_X11_within _ _ x1 0 30) (fun _ _ kk => ?_)
  obtain ⟨e1, e2⟩ := kk
  rw [e1, e2]
  refine aw_ifb_eq (tgt := 30) d_X11_force_7 rfl (fun c3 => ?_) (fun c3 => ?_)
  · have k := k.1 c3
    refine aw_iconst (v := (-1)) d_X11_force_30 ic_m1 ?_
    exact aw_iret rfl d_X11_force_31 ⟨Nat.le_refl _, Nat.le_refl _⟩ ⟨_, rfl, k⟩
  · have k := k.2 c3
    refine aw_aload_n (i := 0) rfl d_X11_force_10 0 rfl ?_
    refine aw_iload_n (i := 2) rfl d_X11_force_11 2 rfl ?_
    refine aw_Vi 0 [.int x2] [] d_X11_force_12 (cV_X11_isKnown (d + 1) 0 0) kc_11 (ws_0 w) tw_1102 rfl (rr0 (Nat.le_of_ble_eq_true rfl) (Nat.le_of_ble_eq_true rfl)) (Nat.le_of_ble_eq_true rfl) xs0 k (fun r6 h4 kk => ?_)
    obtain ⟨w5, k⟩ := kk
    refine aw_if_eq (tgt := 30) d_X11_force_15 rfl (fun c7 => ?_) (fun c7 => ?_)
    · have k := k.1 c7
      refine aw_iconst (v := (-1)) d_X11_force_30 ic_m1 ?_
      exact aw_iret rfl d_X11_force_31 ⟨Nat.le_refl _, Nat.le_refl _⟩ ⟨_, rfl, k⟩
    · have k := k.2 c7
      refine aw_aload_n (i := 0) rfl d_X11_force_18 0 rfl ?_
      refine aw_getr (k0 := 4) kc_11 (ws_0 w5) (Nat.le_of_ble_eq_true rfl) tw_491 d_X11_force_19 rfl (wr_0_4 w5) ?_
      refine aw_iload_n (i := 1) rfl d_X11_force_22 1 rfl ?_
      refine aw_iload_n (i := 2) rfl d_X11_force_23 2 rfl ?_
      refine aw_Vi 13 [.int x1, .int x2] [] d_X11_force_24 (cV_X10_inForce (d + 0) 0 0) kc_10 (ws_13 w5) tw_1057 rfl (rr0 (Nat.le_of_ble_eq_true rfl) (Nat.le_of_ble_eq_true rfl)) (Nat.le_of_ble_eq_true rfl) xs0 k (fun r10 h8 kk => ?_)
      obtain ⟨w9, k⟩ := kk
      refine aw_goto (tgt := 31) d_X11_force_27 rfl ?_
      exact aw_iret rfl d_X11_force_31 ⟨Nat.le_refl _, Nat.le_refl _⟩ ⟨_, rfl, k⟩
theorem t_X11_sighting (d : Nat) (h : Hp_) (w : Wf h) (x1 : Int32) (x2 : Int32) (K : Int32 → Hp_ → Prop) (k : Ci (m_X4_has (d + 0) 0 0) [.ref 17, .int x1] h (fun r3 h1 => Wf h1 ∧ ((r3 = 0 → K (-1) h1) ∧ (¬ r3 = 0 → Ci (m_X4_tell (d + 1) 0 0) [.ref 17, .int x1, .int x2] h1 (fun r7 h5 => Wf h5 ∧ (K r7 h5)))))) : Ci (m_X11_sighting (d + 2) 0 0) [.ref 0, .int x1, .int x2] h K := by
  refine Ct.of (fun _ _ _ => trivial) rfl (Nat.le_of_ble_eq_true rfl) ?_
  show AW (m_X11_sighting (d + 2) 0 0) 0 0 0 [(0, .ref 0), (1, .int x1), (2, .int x2)] [] h (kI K)
  refine aw_aload_n (i := 0) rfl d_X11_sighting_0 0 rfl ?_
  refine aw_getr (k0 := 9) kc_11 (ws_0 w) (Nat.le_of_ble_eq_true rfl) tw_496 d_X11_sighting_1 rfl (wr_0_9 w) ?_
  refine aw_iload_n (i := 1) rfl d_X11_sighting_4 1 rfl ?_
  refine aw_Vi 17 [.int x1] [] d_X11_sighting_5 (cV_X4_has (d + 0) 0 0) kc_4 (ws_17 w) tw_1176 rfl (rr0 (Nat.le_of_ble_eq_true rfl) (Nat.le_of_ble_eq_true rfl)) (Nat.le_of_ble_eq_true rfl) xs0 k (fun r3 h1 kk => ?_)
  obtain ⟨w2, k⟩ := kk
  refine aw_if_eq (tgt := 23) d_X11_sighting_8 rfl (fun c4 => ?_) (fun c4 => ?_)
  · have k := k.1 c4
    refine aw_iconst (v := (-1)) d_X11_sighting_23 ic_m1 ?_
    exact aw_iret rfl d_X11_sighting_24 ⟨Nat.le_refl _, Nat.le_refl _⟩ ⟨_, rfl, k⟩
  · have k := k.2 c4
    refine aw_aload_n (i := 0) rfl d_X11_sighting_11 0 rfl ?_
    refine aw_getr (k0 := 9) kc_11 (ws_0 w2) (Nat.le_of_ble_eq_true rfl) tw_496 d_X11_sighting_12 rfl (wr_0_9 w2) ?_
    refine aw_iload_n (i := 1) rfl d_X11_sighting_15 1 rfl ?_
    refine aw_iload_n (i := 2) rfl d_X11_sighting_16 2 rfl ?_
    refine aw_Vi 17 [.int x1, .int x2] [] d_X11_sighting_17 (cV_X4_tell (d + 1) 0 0) kc_4 (ws_17 w2) tw_1177 rfl (rr0 (Nat.le_of_ble_eq_true rfl) (Nat.le_of_ble_eq_true rfl)) (Nat.le_of_ble_eq_true rfl) xs0 k (fun r7 h5 kk => ?_)
    obtain ⟨w6, k⟩ := kk
    refine aw_goto (tgt := 24) d_X11_sighting_20 rfl ?_
    exact aw_iret rfl d_X11_sighting_24 ⟨Nat.le_refl _, Nat.le_refl _⟩ ⟨_, rfl, k⟩
theorem t_X11_heard (d : Nat) (h : Hp_) (w : Wf h) (x1 : Int32) (K : Int32 → Hp_ → Prop) (k : Ci (m_X11_isKnown (d + 1) 0 0) [.ref 0, .int x1] h (fun r3 h1 => Wf h1 ∧ ((r3 = 0 → K (-1) h1) ∧ (¬ r3 = 0 → Ci (m_X4_countKnown (d + 0) 0 0) [.ref 17, .int x1] h1 (fun r7 h5 => Wf h5 ∧ (K r7 h5)))))) : Ci (m_X11_heard (d + 2) 0 0) [.ref 0, .int x1] h K := by
  refine Ct.of (fun _ _ _ => trivial) rfl (Nat.le_of_ble_eq_true rfl) ?_
  show AW (m_X11_heard (d + 2) 0 0) 0 0 0 [(0, .ref 0), (1, .int x1)] [] h (kI K)
  refine aw_aload_n (i := 0) rfl d_X11_heard_0 0 rfl ?_
  refine aw_iload_n (i := 1) rfl d_X11_heard_1 1 rfl ?_
  refine aw_Vi 0 [.int x1] [] d_X11_heard_2 (cV_X11_isKnown (d + 1) 0 0) kc_11 (ws_0 w) tw_1102 rfl (rr0 (Nat.le_of_ble_eq_true rfl) (Nat.le_of_ble_eq_true rfl)) (Nat.le_of_ble_eq_true rfl) xs0 k (fun r3 h1 kk => ?_)
  obtain ⟨w2, k⟩ := kk
  refine aw_if_eq (tgt := 19) d_X11_heard_5 rfl (fun c4 => ?_) (fun c4 => ?_)
  · have k := k.1 c4
    refine aw_iconst (v := (-1)) d_X11_heard_19 ic_m1 ?_
    exact aw_iret rfl d_X11_heard_20 ⟨Nat.le_refl _, Nat.le_refl _⟩ ⟨_, rfl, k⟩
  · have k := k.2 c4
    refine aw_aload_n (i := 0) rfl d_X11_heard_8 0 rfl ?_
    refine aw_getr (k0 := 9) kc_11 (ws_0 w2) (Nat.le_of_ble_eq_true rfl) tw_496 d_X11_heard_9 rfl (wr_0_9 w2) ?_
    refine aw_iload_n (i := 1) rfl d_X11_heard_12 1 rfl ?_
    refine aw_Vi 17 [.int x1] [] d_X11_heard_13 (cV_X4_countKnown (d + 0) 0 0) kc_4 (ws_17 w2) tw_1199 rfl (rr0 (Nat.le_of_ble_eq_true rfl) (Nat.le_of_ble_eq_true rfl)) (Nat.le_of_ble_eq_true rfl) xs0 k (fun r7 h5 kk => ?_)
    obtain ⟨w6, k⟩ := kk
    refine aw_goto (tgt := 20) d_X11_heard_16 rfl ?_
    exact aw_iret rfl d_X11_heard_20 ⟨Nat.le_refl _, Nat.le_refl _⟩ ⟨_, rfl, k⟩
theorem t_X11_state (d : Nat) (h : Hp_) (w : Wf h) (x1 : Int32) (x2 : Int32) (x3 : Int32) (x4 : Int32) (K : Int32 → Hp_ → Prop) (k : Ci (m_X1_has (d + 0) 0 0) [.ref 18, .int x1] h (fun r3 h1 => Wf h1 ∧ ((r3 = 0 → K (-1) h1) ∧ (¬ r3 = 0 → (¬ (0 ≤ x2 ∧ x2 ≤ 7) → K (-1) h1) ∧ ((0 ≤ x2 ∧ x2 ≤ 7) → ((0 ≤ x3 ∧ x3 ≤ 15) → Ci (m_X1_addStatement (d + 1) 0 0) [.ref 18, .int x1, .int x2, .int x3, .int x4, .int (h_i h1 0 0)] h1 (fun r13 h11 => Wf h11 ∧ (K r13 h11))) ∧ (¬ (0 ≤ x3 ∧ x3 ≤ 15) → K (-1) h1)))))) : Ci (m_X11_state (d + 2) 0 0) [.ref 0, .int x1, .int x2, .int x3, .int x4] h K := by
  refine Ct.of (fun _ _ _ => trivial) rfl (Nat.le_of_ble_eq_true rfl) ?_
  show AW (m_X11_state (d + 2) 0 0) 0 0 0 [(0, .ref 0), (1, .int x1), (2, .int x2), (3, .int x3), (4, .int x4)] [] h (kI K)
  refine aw_aload_n (i := 0) rfl d_X11_state_0 0 rfl ?_
  refine aw_getr (k0 := 10) kc_11 (ws_0 w) (Nat.le_of_ble_eq_true rfl) tw_497 d_X11_state_1 rfl (wr_0_10 w) ?_
  refine aw_iload_n (i := 1) rfl d_X11_state_4 1 rfl ?_
  refine aw_Vi 18 [.int x1] [] d_X11_state_5 (cV_X1_has (d + 0) 0 0) kc_1 (ws_18 w) tw_1219 rfl (rr0 (Nat.le_of_ble_eq_true rfl) (Nat.le_of_ble_eq_true rfl)) (Nat.le_of_ble_eq_true rfl) xs0 k (fun r3 h1 kk => ?_)
  obtain ⟨w2, k⟩ := kk
  refine aw_if_eq (tgt := 31) d_X11_state_8 rfl (fun c4 => ?_) (fun c4 => ?_)
  · have k := k.1 c4
    refine aw_iconst (v := (-1)) d_X11_state_31 ic_m1 ?_
    exact aw_iret rfl d_X11_state_32 ⟨Nat.le_refl _, Nat.le_refl _⟩ ⟨_, rfl, k⟩
  · have k := k.2 c4
    refine aw_iload_n (i := 2) rfl d_X11_state_11 2 rfl ?_
    refine aw_iconst (v := 0) d_X11_state_12 ic_0 ?_
    refine aw_bipush (v := 7) d_X11_state_13 ib_7 ?_
    refine aw_Si [.int x2, .int 0, .int 7] [] d_X11_state_15 (cS_X11_within (d + 0) 0 0) tw_543 rfl (rr0 (Nat.le_of_ble_eq_true rfl) (Nat.le_of_ble_eq_true rfl)) (Nat.le_of_ble_eq_true rfl) xs0 (s_X11_within _ _ x2 0 7) (fun _ _ kk => ?_)
    obtain ⟨e5, e6⟩ := kk
    rw [e5, e6]
    refine aw_ifb_eq (tgt := 31) d_X11_state_18 rfl (fun c7 => ?_) (fun c7 => ?_)
    · have k := k.1 c7
      refine aw_iconst (v := (-1)) d_X11_state_31 ic_m1 ?_
      exact aw_iret rfl d_X11_state_32 ⟨Nat.le_refl _, Nat.le_refl _⟩ ⟨_, rfl, k⟩
    · have k := k.2 c7
      refine aw_iload_n (i := 3) rfl d_X11_state_21 3 rfl ?_
      refine aw_iconst (v := 0) d_X11_state_22 ic_0 ?_
      refine aw_bipush (v := 15) d_X11_state_23 ib_15 ?_
      refine aw_Si [.int x3, .int 0, .int 15] [] d_X11_state_25 (cS_X11_within (d + 0) 0 0) tw_543 rfl (rr0 (Nat.le_of_ble_eq_true rfl) (Nat.le_of_ble_eq_true rfl)) (Nat.le_of_ble_eq_true rfl) xs0 (s_X11_within _ _ x3 0 15) (fun _ _ kk => ?_)
      obtain ⟨e8, e9⟩ := kk
      rw [e8, e9]
      refine aw_ifb_ne (tgt := 33) d_X11_state_28 rfl (fun c10 => ?_) (fun c10 => ?_)
      · have k := k.1 c10
        refine aw_aload_n (i := 0) rfl d_X11_state_33 0 rfl ?_
        refine aw_getr (k0 := 10) kc_11 (ws_0 w2) (Nat.le_of_ble_eq_true rfl) tw_497 d_X11_state_34 rfl (wr_0_10 w2) ?_
        refine aw_iload_n (i := 1) rfl d_X11_state_37 1 rfl ?_
        refine aw_iload_n (i := 2) rfl d_X11_state_38 2 rfl ?_
        refine aw_iload_n (i := 3) rfl d_X11_state_39 3 rfl ?_
        refine aw_iload d_X11_state_40 4 rfl ?_
        refine aw_aload_n (i := 0) rfl d_X11_state_42 0 rfl ?_
        refine aw_geti (k0 := 0) kc_11 (ws_0 w2) (Nat.le_of_ble_eq_true rfl) tw_487 d_X11_state_43 rfl ?_
        refine aw_Vi 18 [.int x1, .int x2, .int x3, .int x4, .int (h_i h1 0 0)] [] d_X11_state_46 (cV_X1_addStatement (d + 1) 0 0) kc_1 (ws_18 w2) tw_1223 rfl (rr0 (Nat.le_of_ble_eq_true rfl) (Nat.le_of_ble_eq_true rfl)) (Nat.le_of_ble_eq_true rfl) xs0 k (fun r13 h11 kk => ?_)
        obtain ⟨w12, k⟩ := kk
        exact aw_iret rfl d_X11_state_49 ⟨Nat.le_refl _, Nat.le_refl _⟩ ⟨_, rfl, k⟩
      · have k := k.2 c10
        refine aw_iconst (v := (-1)) d_X11_state_31 ic_m1 ?_
        exact aw_iret rfl d_X11_state_32 ⟨Nat.le_refl _, Nat.le_refl _⟩ ⟨_, rfl, k⟩
theorem t_X11_fact (d : Nat) (h : Hp_) (w : Wf h) (x1 : Int32) (x2 : Int32) (x3 : Int32) (K : Int32 → Hp_ → Prop) (k : (¬ (0 ≤ x2 ∧ x2 ≤ 7) → K (-1) h) ∧ ((0 ≤ x2 ∧ x2 ≤ 7) → Ci (m_X11_isKnown (d + 1) 0 0) [.ref 0, .int x3] h (fun r6 h4 => Wf h4 ∧ ((r6 = 0 → K (-1) h4) ∧ (¬ r6 = 0 → Ci (m_X1_wasOpen (d + 1) 0 0) [.ref 18, .int x1, .int x3] h4 (fun r10 h8 => Wf h8 ∧ ((¬ r10 = 0 → Cv (m_X1_weigh (d + 1) 0 0) [.ref 18, .int x1, .int x3] h8 (fun h12 => Wf h12 ∧ (Ci (m_X1_verdictOn (d + 1) 0 0) [.ref 18, .int x2] h12 (fun r17 h15 => Wf h15 ∧ (K r17 h15))))) ∧ (r10 = 0 → K (-1) h8)))))))) : Ci (m_X11_fact (d + 2) 0 0) [.ref 0, .int x1, .int x2, .int x3] h K := by
  refine Ct.of (fun _ _ _ => trivial) rfl (Nat.le_of_ble_eq_true rfl) ?_
  show AW (m_X11_fact (d + 2) 0 0) 0 0 0 [(0, .ref 0), (1, .int x1), (2, .int x2), (3, .int x3)] [] h (kI K)
  refine aw_iload_n (i := 2) rfl d_X11_fact_0 2 rfl ?_
  refine aw_iconst (v := 0) d_X11_fact_1 ic_0 ?_
  refine aw_bipush (v := 7) d_X11_fact_2 ib_7 ?_
  refine aw_Si [.int x2, .int 0, .int 7] [] d_X11_fact_4 (cS_X11_within (d + 0) 0 0) tw_543 rfl (rr0 (Nat.le_of_ble_eq_true rfl) (Nat.le_of_ble_eq_true rfl)) (Nat.le_of_ble_eq_true rfl) xs0 (s_X11_within _ _ x2 0 7) (fun _ _ kk => ?_)
  obtain ⟨e1, e2⟩ := kk
  rw [e1, e2]
  refine aw_ifb_eq (tgt := 30) d_X11_fact_7 rfl (fun c3 => ?_) (fun c3 => ?_)
  · have k := k.1 c3
    refine aw_iconst (v := (-1)) d_X11_fact_30 ic_m1 ?_
    exact aw_iret rfl d_X11_fact_31 ⟨Nat.le_refl _, Nat.le_refl _⟩ ⟨_, rfl, k⟩
  · have k := k.2 c3
    refine aw_aload_n (i := 0) rfl d_X11_fact_10 0 rfl ?_
    refine aw_iload_n (i := 3) rfl d_X11_fact_11 3 rfl ?_
    refine aw_Vi 0 [.int x3] [] d_X11_fact_12 (cV_X11_isKnown (d + 1) 0 0) kc_11 (ws_0 w) tw_1102 rfl (rr0 (Nat.le_of_ble_eq_true rfl) (Nat.le_of_ble_eq_true rfl)) (Nat.le_of_ble_eq_true rfl) xs0 k (fun r6 h4 kk => ?_)
    obtain ⟨w5, k⟩ := kk
    refine aw_if_eq (tgt := 30) d_X11_fact_15 rfl (fun c7 => ?_) (fun c7 => ?_)
    · have k := k.1 c7
      refine aw_iconst (v := (-1)) d_X11_fact_30 ic_m1 ?_
      exact aw_iret rfl d_X11_fact_31 ⟨Nat.le_refl _, Nat.le_refl _⟩ ⟨_, rfl, k⟩
    · have k := k.2 c7
      refine aw_aload_n (i := 0) rfl d_X11_fact_18 0 rfl ?_
      refine aw_getr (k0 := 10) kc_11 (ws_0 w5) (Nat.le_of_ble_eq_true rfl) tw_497 d_X11_fact_19 rfl (wr_0_10 w5) ?_
      refine aw_iload_n (i := 1) rfl d_X11_fact_22 1 rfl ?_
      refine aw_iload_n (i := 3) rfl d_X11_fact_23 3 rfl ?_
      refine aw_Vi 18 [.int x1, .int x3] [] d_X11_fact_24 (cV_X1_wasOpen (d + 1) 0 0) kc_1 (ws_18 w5) tw_1279 rfl (rr0 (Nat.le_of_ble_eq_true rfl) (Nat.le_of_ble_eq_true rfl)) (Nat.le_of_ble_eq_true rfl) xs0 k (fun r10 h8 kk => ?_)
      obtain ⟨w9, k⟩ := kk
      refine aw_if_ne (tgt := 32) d_X11_fact_27 rfl (fun c11 => ?_) (fun c11 => ?_)
      · have k := k.1 c11
        refine aw_aload_n (i := 0) rfl d_X11_fact_32 0 rfl ?_
        refine aw_getr (k0 := 10) kc_11 (ws_0 w9) (Nat.le_of_ble_eq_true rfl) tw_497 d_X11_fact_33 rfl (wr_0_10 w9) ?_
        refine aw_iload_n (i := 1) rfl d_X11_fact_36 1 rfl ?_
        refine aw_iload_n (i := 3) rfl d_X11_fact_37 3 rfl ?_
        refine aw_Vv 18 [.int x1, .int x3] [] d_X11_fact_38 (cV_X1_weigh (d + 1) 0 0) kc_1 (ws_18 w9) tw_1283 rfl (rr0 (Nat.le_of_ble_eq_true rfl) (Nat.le_of_ble_eq_true rfl)) (Nat.le_of_ble_eq_true rfl) xs0 k (fun h12 kk => ?_)
        obtain ⟨w13, k⟩ := kk
        refine aw_aload_n (i := 0) rfl d_X11_fact_41 0 rfl ?_
        refine aw_getr (k0 := 10) kc_11 (ws_0 w13) (Nat.le_of_ble_eq_true rfl) tw_497 d_X11_fact_42 rfl (wr_0_10 w13) ?_
        refine aw_iload_n (i := 2) rfl d_X11_fact_45 2 rfl ?_
        refine aw_Vi 18 [.int x2] [] d_X11_fact_46 (cV_X1_verdictOn (d + 1) 0 0) kc_1 (ws_18 w13) tw_1284 rfl (rr0 (Nat.le_of_ble_eq_true rfl) (Nat.le_of_ble_eq_true rfl)) (Nat.le_of_ble_eq_true rfl) xs0 k (fun r17 h15 kk => ?_)
        obtain ⟨w16, k⟩ := kk
        exact aw_iret rfl d_X11_fact_49 ⟨Nat.le_refl _, Nat.le_refl _⟩ ⟨_, rfl, k⟩
      · have k := k.2 c11
        refine aw_iconst (v := (-1)) d_X11_fact_30 ic_m1 ?_
        exact aw_iret rfl d_X11_fact_31 ⟨Nat.le_refl _, Nat.le_refl _⟩ ⟨_, rfl, k⟩
theorem t_X11_story (d : Nat) (h : Hp_) (w : Wf h) (x1 : Int32) (x2 : Int32) (x3 : Int32) (K : Int32 → Hp_ → Prop) (k : Ci (m_X1_has (d + 0) 0 0) [.ref 18, .int x1] h (fun r3 h1 => Wf h1 ∧ ((r3 = 0 → K (-1) h1) ∧ (¬ r3 = 0 → (¬ (0 ≤ x2 ∧ x2 ≤ 255) → K (-1) h1) ∧ ((0 ≤ x2 ∧ x2 ≤ 255) → (¬ (0 ≤ x3 ∧ x3 ≤ 255) → K (-1) h1) ∧ ((0 ≤ x3 ∧ x3 ≤ 255) → ((x2 &&& x3) = 0 → Ci (m_X1_addStory (d + 1) 0 0) [.ref 18, .int x1, .int x2, .int x3, .int (h_i h1 0 0)] h1 (fun r14 h12 => Wf h12 ∧ (K r14 h12))) ∧ (¬ (x2 &&& x3) = 0 → K (-1) h1))))))) : Ci (m_X11_story (d + 2) 0 0) [.ref 0, .int x1, .int x2, .int x3] h K := by
  refine Ct.of (fun _ _ _ => trivial) rfl (Nat.le_of_ble_eq_true rfl) ?_
  show AW (m_X11_story (d + 2) 0 0) 0 0 0 [(0, .ref 0), (1, .int x1), (2, .int x2), (3, .int x3)] [] h (kI K)
  refine aw_aload_n (i := 0) rfl d_X11_story_0 0 rfl ?_
  refine aw_getr (k0 := 10) kc_11 (ws_0 w) (Nat.le_of_ble_eq_true rfl) tw_497 d_X11_story_1 rfl (wr_0_10 w) ?_
  refine aw_iload_n (i := 1) rfl d_X11_story_4 1 rfl ?_
  refine aw_Vi 18 [.int x1] [] d_X11_story_5 (cV_X1_has (d + 0) 0 0) kc_1 (ws_18 w) tw_1219 rfl (rr0 (Nat.le_of_ble_eq_true rfl) (Nat.le_of_ble_eq_true rfl)) (Nat.le_of_ble_eq_true rfl) xs0 k (fun r3 h1 kk => ?_)
  obtain ⟨w2, k⟩ := kk
  refine aw_if_eq (tgt := 39) d_X11_story_8 rfl (fun c4 => ?_) (fun c4 => ?_)
  · have k := k.1 c4
    refine aw_iconst (v := (-1)) d_X11_story_39 ic_m1 ?_
    exact aw_iret rfl d_X11_story_40 ⟨Nat.le_refl _, Nat.le_refl _⟩ ⟨_, rfl, k⟩
  · have k := k.2 c4
    refine aw_iload_n (i := 2) rfl d_X11_story_11 2 rfl ?_
    refine aw_iconst (v := 0) d_X11_story_12 ic_0 ?_
    refine aw_sipush (v := 255) d_X11_story_13 is_255 ?_
    refine aw_Si [.int x2, .int 0, .int 255] [] d_X11_story_16 (cS_X11_within (d + 0) 0 0) tw_543 rfl (rr0 (Nat.le_of_ble_eq_true rfl) (Nat.le_of_ble_eq_true rfl)) (Nat.le_of_ble_eq_true rfl) xs0 (s_X11_within _ _ x2 0 255) (fun _ _ kk => ?_)
    obtain ⟨e5, e6⟩ := kk
    rw [e5, e6]
    refine aw_ifb_eq (tgt := 39) d_X11_story_19 rfl (fun c7 => ?_) (fun c7 => ?_)
    · have k := k.1 c7
      refine aw_iconst (v := (-1)) d_X11_story_39 ic_m1 ?_
      exact aw_iret rfl d_X11_story_40 ⟨Nat.le_refl _, Nat.le_refl _⟩ ⟨_, rfl, k⟩
    · have k := k.2 c7
      refine aw_iload_n (i := 3) rfl d_X11_story_22 3 rfl ?_
      refine aw_iconst (v := 0) d_X11_story_23 ic_0 ?_
      refine aw_sipush (v := 255) d_X11_story_24 is_255 ?_
      refine aw_Si [.int x3, .int 0, .int 255] [] d_X11_story_27 (cS_X11_within (d + 0) 0 0) tw_543 rfl (rr0 (Nat.le_of_ble_eq_true rfl) (Nat.le_of_ble_eq_true rfl)) (Nat.le_of_ble_eq_true rfl) xs0 (s_X11_within _ _ x3 0 255) (fun _ _ kk => ?_)
      obtain ⟨e8, e9⟩ := kk
      rw [e8, e9]
      refine aw_ifb_eq (tgt := 39) d_X11_story_30 rfl (fun c10 => ?_) (fun c10 => ?_)
      · have k := k.1 c10
        refine aw_iconst (v := (-1)) d_X11_story_39 ic_m1 ?_
        exact aw_iret rfl d_X11_story_40 ⟨Nat.le_refl _, Nat.le_refl _⟩ ⟨_, rfl, k⟩
      · have k := k.2 c10
        refine aw_iload_n (i := 2) rfl d_X11_story_33 2 rfl ?_
        refine aw_iload_n (i := 3) rfl d_X11_story_34 3 rfl ?_
        refine aw_iand d_X11_story_35 ?_
        refine aw_if_eq (tgt := 41) d_X11_story_36 rfl (fun c11 => ?_) (fun c11 => ?_)
        · have k := k.1 c11
          refine aw_aload_n (i := 0) rfl d_X11_story_41 0 rfl ?_
          refine aw_getr (k0 := 10) kc_11 (ws_0 w2) (Nat.le_of_ble_eq_true rfl) tw_497 d_X11_story_42 rfl (wr_0_10 w2) ?_
          refine aw_iload_n (i := 1) rfl d_X11_story_45 1 rfl ?_
          refine aw_iload_n (i := 2) rfl d_X11_story_46 2 rfl ?_
          refine aw_iload_n (i := 3) rfl d_X11_story_47 3 rfl ?_
          refine aw_aload_n (i := 0) rfl d_X11_story_48 0 rfl ?_
          refine aw_geti (k0 := 0) kc_11 (ws_0 w2) (Nat.le_of_ble_eq_true rfl) tw_487 d_X11_story_49 rfl ?_
          refine aw_Vi 18 [.int x1, .int x2, .int x3, .int (h_i h1 0 0)] [] d_X11_story_52 (cV_X1_addStory (d + 1) 0 0) kc_1 (ws_18 w2) tw_1301 rfl (rr0 (Nat.le_of_ble_eq_true rfl) (Nat.le_of_ble_eq_true rfl)) (Nat.le_of_ble_eq_true rfl) xs0 k (fun r14 h12 kk => ?_)
          obtain ⟨w13, k⟩ := kk
          exact aw_iret rfl d_X11_story_55 ⟨Nat.le_refl _, Nat.le_refl _⟩ ⟨_, rfl, k⟩
        · have k := k.2 c11
          refine aw_iconst (v := (-1)) d_X11_story_39 ic_m1 ?_
          exact aw_iret rfl d_X11_story_40 ⟨Nat.le_refl _, Nat.le_refl _⟩ ⟨_, rfl, k⟩
theorem t_X11_priceOf (d : Nat) (h : Hp_) (x1 : Nat) (hs_x1 : h_sh h x1 = some (12, 17)) (lb_x1 : 400 ≤ x1) (x2 : Int32) (x3 : Int32) (K : Int32 → Hp_ → Prop) (k : ((h_i h x1 4) = 0 → ((h_i h x1 6) = (-1) → AW (m_X11_priceOf (d + 2) 0 0) 0 0 34 [(0, .ref 0), (1, .ref x1), (2, .int x2), (3, .int x3)] [.int 0] h (kI K)) ∧ (¬ (h_i h x1 6) = (-1) → AW (m_X11_priceOf (d + 2) 0 0) 0 0 34 [(0, .ref 0), (1, .ref x1), (2, .int x2), (3, .int x3)] [.int 1] h (kI K))) ∧ (¬ (h_i h x1 4) = 0 → ((h_i h x1 4) = 1 → ((h_i h x1 6) = (-1) → AW (m_X11_priceOf (d + 2) 0 0) 0 0 34 [(0, .ref 0), (1, .ref x1), (2, .int x2), (3, .int x3)] [.int 0] h (kI K)) ∧ (¬ (h_i h x1 6) = (-1) → AW (m_X11_priceOf (d + 2) 0 0) 0 0 34 [(0, .ref 0), (1, .ref x1), (2, .int x2), (3, .int x3)] [.int 1] h (kI K))) ∧ (¬ (h_i h x1 4) = 1 → K (-1) h))) : Ci (m_X11_priceOf (d + 2) 0 0) [.ref 0, .ref x1, .int x2, .int x3] h K := by
  refine Ct.of (fun _ _ _ => trivial) rfl (Nat.le_of_ble_eq_true rfl) ?_
  show AW (m_X11_priceOf (d + 2) 0 0) 0 0 0 [(0, .ref 0), (1, .ref x1), (2, .int x2), (3, .int x3)] [] h (kI K)
  refine aw_aload_n (i := 1) rfl d_X11_priceOf_0 1 rfl ?_
  refine aw_ifnull d_X11_priceOf_1 ?_
  refine aw_aload_n (i := 1) rfl d_X11_priceOf_4 1 rfl ?_
  refine aw_geti (k0 := 4) kc_2 (hs_x1) (Nat.le_of_ble_eq_true rfl) tw_581 d_X11_priceOf_5 rfl ?_
  refine aw_if_eq (tgt := 21) d_X11_priceOf_8 rfl (fun c1 => ?_) (fun c1 => ?_)
  · have k := k.1 c1
    refine aw_aload_n (i := 1) rfl d_X11_priceOf_21 1 rfl ?_
    refine aw_geti (k0 := 6) kc_2 (hs_x1) (Nat.le_of_ble_eq_true rfl) tw_585 d_X11_priceOf_22 rfl ?_
    refine aw_iconst (v := (-1)) d_X11_priceOf_25 ic_m1 ?_
    refine aw_icmp_eq (tgt := 33) d_X11_priceOf_26 rfl (fun c2 => ?_) (fun c2 => ?_)
    · have k := k.1 c2
      refine aw_iconst (v := 0) d_X11_priceOf_33 ic_0 ?_
      exact k
    · have k := k.2 c2
      refine aw_iconst (v := 1) d_X11_priceOf_29 ic_1 ?_
      refine aw_goto (tgt := 34) d_X11_priceOf_30 rfl ?_
      exact k
  · have k := k.2 c1
    refine aw_aload_n (i := 1) rfl d_X11_priceOf_11 1 rfl ?_
    refine aw_geti (k0 := 4) kc_2 (hs_x1) (Nat.le_of_ble_eq_true rfl) tw_581 d_X11_priceOf_12 rfl ?_
    refine aw_iconst (v := 1) d_X11_priceOf_15 ic_1 ?_
    refine aw_icmp_eq (tgt := 21) d_X11_priceOf_16 rfl (fun c3 => ?_) (fun c3 => ?_)
    · have k := k.1 c3
      refine aw_aload_n (i := 1) rfl d_X11_priceOf_21 1 rfl ?_
      refine aw_geti (k0 := 6) kc_2 (hs_x1) (Nat.le_of_ble_eq_true rfl) tw_585 d_X11_priceOf_22 rfl ?_
      refine aw_iconst (v := (-1)) d_X11_priceOf_25 ic_m1 ?_
      refine aw_icmp_eq (tgt := 33) d_X11_priceOf_26 rfl (fun c4 => ?_) (fun c4 => ?_)
      · have k := k.1 c4
        refine aw_iconst (v := 0) d_X11_priceOf_33 ic_0 ?_
        exact k
      · have k := k.2 c4
        refine aw_iconst (v := 1) d_X11_priceOf_29 ic_1 ?_
        refine aw_goto (tgt := 34) d_X11_priceOf_30 rfl ?_
        exact k
    · have k := k.2 c3
      refine aw_iconst (v := (-1)) d_X11_priceOf_19 ic_m1 ?_
      exact aw_iret rfl d_X11_priceOf_20 ⟨Nat.le_refl _, Nat.le_refl _⟩ ⟨_, rfl, k⟩
theorem t_X11_priceOf_34 (d : Nat) (h : Hp_) (w : Wf h) (x1 : Nat) (hs_x1 : h_sh h x1 = some (12, 17)) (lb_x1 : 400 ≤ x1) (x2 : Int32) (x3 : Int32) (s0 : Int32) (K : Int32 → Hp_ → Prop) (k : (s0 = 0 → Ci (m_X9_minutes (d + 1) 0 0) [.ref 10, .int (h_i h x1 5), .int x2] h (fun r8 h6 => Wf h6 ∧ h_sh h6 x1 = some (12, 17) ∧ ((s0 = 0 → (r8 = (-1) → K (-1) h6) ∧ (¬ r8 = (-1) → (((h_i h6 0 0) + r8) ≤ x3 → (¬ (h_i h6 x1 4) = 1 → Ci (m_X6_price (d + 0) 0 0) [.int 0, .int r8] h6 (fun r16 h14 => Wf h14 ∧ (K r16 h14))) ∧ ((h_i h6 x1 4) = 1 → Ci (m_X2_openPoints (d + 0) 0 0) [.ref x1] h6 (fun r19 h17 => Wf h17 ∧ (Ci (m_X6_price (d + 0) 0 0) [.int r19, .int r8] h17 (fun r22 h20 => Wf h20 ∧ (K r22 h20)))))) ∧ (¬ ((h_i h6 0 0) + r8) ≤ x3 → K (-1) h6))) ∧ (¬ s0 = 0 → (r8 = (-1) → K (-1) h6) ∧ (¬ r8 = (-1) → (((h_i h6 x1 7) + r8) ≤ x3 → (¬ (h_i h6 x1 4) = 1 → Ci (m_X6_price (d + 0) 0 0) [.int 0, .int r8] h6 (fun r28 h26 => Wf h26 ∧ (K r28 h26))) ∧ ((h_i h6 x1 4) = 1 → Ci (m_X2_openPoints (d + 0) 0 0) [.ref x1] h6 (fun r31 h29 => Wf h29 ∧ (Ci (m_X6_price (d + 0) 0 0) [.int r31, .int r8] h29 (fun r34 h32 => Wf h32 ∧ (K r34 h32)))))) ∧ (¬ ((h_i h6 x1 7) + r8) ≤ x3 → K (-1) h6)))))) ∧ (¬ s0 = 0 → Ci (m_X9_minutes (d + 1) 0 0) [.ref 10, .int (h_i h x1 6), .int x2] h (fun r37 h35 => Wf h35 ∧ h_sh h35 x1 = some (12, 17) ∧ ((s0 = 0 → (r37 = (-1) → K (-1) h35) ∧ (¬ r37 = (-1) → (((h_i h35 0 0) + r37) ≤ x3 → (¬ (h_i h35 x1 4) = 1 → Ci (m_X6_price (d + 0) 0 0) [.int 0, .int r37] h35 (fun r45 h43 => Wf h43 ∧ (K r45 h43))) ∧ ((h_i h35 x1 4) = 1 → Ci (m_X2_openPoints (d + 0) 0 0) [.ref x1] h35 (fun r48 h46 => Wf h46 ∧ (Ci (m_X6_price (d + 0) 0 0) [.int r48, .int r37] h46 (fun r51 h49 => Wf h49 ∧ (K r51 h49)))))) ∧ (¬ ((h_i h35 0 0) + r37) ≤ x3 → K (-1) h35))) ∧ (¬ s0 = 0 → (r37 = (-1) → K (-1) h35) ∧ (¬ r37 = (-1) → (((h_i h35 x1 7) + r37) ≤ x3 → (¬ (h_i h35 x1 4) = 1 → Ci (m_X6_price (d + 0) 0 0) [.int 0, .int r37] h35 (fun r57 h55 => Wf h55 ∧ (K r57 h55))) ∧ ((h_i h35 x1 4) = 1 → Ci (m_X2_openPoints (d + 0) 0 0) [.ref x1] h35 (fun r60 h58 => Wf h58 ∧ (Ci (m_X6_price (d + 0) 0 0) [.int r60, .int r37] h58 (fun r63 h61 => Wf h61 ∧ (K r63 h61)))))) ∧ (¬ ((h_i h35 x1 7) + r37) ≤ x3 → K (-1) h35))))))) : AW (m_X11_priceOf (d + 2) 0 0) 0 0 34 [(0, .ref 0), (1, .ref x1), (2, .int x2), (3, .int x3)] [.int s0] h (kI K) := by
  refine aw_istore [(0, .ref 0), (1, .ref x1), (2, .int x2), (3, .int x3), (4, .int s0)] d_X11_priceOf_34 (Nat.le_of_ble_eq_true rfl) rfl rfl ?_
  refine aw_aload_n (i := 0) rfl d_X11_priceOf_36 0 rfl ?_
  refine aw_getr (k0 := 1) kc_11 (ws_0 w) (Nat.le_of_ble_eq_true rfl) tw_488 d_X11_priceOf_37 rfl (wr_0_1 w) ?_
  refine aw_iload d_X11_priceOf_40 4 rfl ?_
  refine aw_if_eq (tgt := 52) d_X11_priceOf_42 rfl (fun c5 => ?_) (fun c5 => ?_)
  · have k := k.1 c5
    refine aw_aload_n (i := 1) rfl d_X11_priceOf_52 1 rfl ?_
    refine aw_geti (k0 := 5) kc_2 (hs_x1) (Nat.le_of_ble_eq_true rfl) tw_583 d_X11_priceOf_53 rfl ?_
    refine aw_iload_n (i := 2) rfl d_X11_priceOf_56 2 rfl ?_
    refine aw_Vi 10 [.int (h_i h x1 5), .int x2] [] d_X11_priceOf_57 (cV_X9_minutes (d + 1) 0 0) kc_9 (ws_10 w) tw_557 rfl (rr0 (Nat.le_of_ble_eq_true rfl) (Nat.le_of_ble_eq_true rfl)) (Nat.le_of_ble_eq_true rfl) xs0 k (fun r8 h6 kk => ?_)
    obtain ⟨w7, q9, k⟩ := kk
    refine aw_istore [(0, .ref 0), (1, .ref x1), (2, .int x2), (3, .int x3), (4, .int s0), (5, .int r8)] d_X11_priceOf_60 (Nat.le_of_ble_eq_true rfl) rfl rfl ?_
    refine aw_iload d_X11_priceOf_62 4 rfl ?_
    refine aw_if_eq (tgt := 74) d_X11_priceOf_64 rfl (fun c10 => ?_) (fun c10 => ?_)
    · have k := k.1 c10
      refine aw_aload_n (i := 0) rfl d_X11_priceOf_74 0 rfl ?_
      refine aw_geti (k0 := 0) kc_11 (ws_0 w7) (Nat.le_of_ble_eq_true rfl) tw_487 d_X11_priceOf_75 rfl ?_
      refine aw_istore [(0, .ref 0), (1, .ref x1), (2, .int x2), (3, .int x3), (4, .int s0), (5, .int r8), (6, .int (h_i h6 0 0))] d_X11_priceOf_78 (Nat.le_of_ble_eq_true rfl) rfl rfl ?_
      refine aw_iload d_X11_priceOf_80 5 rfl ?_
      refine aw_iconst (v := (-1)) d_X11_priceOf_82 ic_m1 ?_
      refine aw_icmp_eq (tgt := 95) d_X11_priceOf_83 rfl (fun c11 => ?_) (fun c11 => ?_)
      · have k := k.1 c11
        refine aw_iconst (v := (-1)) d_X11_priceOf_95 ic_m1 ?_
        exact aw_iret rfl d_X11_priceOf_96 ⟨Nat.le_refl _, Nat.le_refl _⟩ ⟨_, rfl, k⟩
      · have k := k.2 c11
        refine aw_iload d_X11_priceOf_86 6 rfl ?_
        refine aw_iload d_X11_priceOf_88 5 rfl ?_
        refine aw_iadd d_X11_priceOf_90 ?_
        refine aw_iload_n (i := 3) rfl d_X11_priceOf_91 3 rfl ?_
        refine aw_icmp_le (tgt := 97) d_X11_priceOf_92 rfl (fun c12 => ?_) (fun c12 => ?_)
        · have k := k.1 c12
          refine aw_aload_n (i := 1) rfl d_X11_priceOf_97 1 rfl ?_
          refine aw_geti (k0 := 4) kc_2 (q9) (Nat.le_of_ble_eq_true rfl) tw_581 d_X11_priceOf_98 rfl ?_
          refine aw_iconst (v := 1) d_X11_priceOf_101 ic_1 ?_
          refine aw_icmp_ne (tgt := 112) d_X11_priceOf_102 rfl (fun c13 => ?_) (fun c13 => ?_)
          · have k := k.1 c13
            refine aw_iconst (v := 0) d_X11_priceOf_112 ic_0 ?_
            refine aw_istore [(0, .ref 0), (1, .ref x1), (2, .int x2), (3, .int x3), (4, .int s0), (5, .int r8), (6, .int (h_i h6 0 0)), (7, .int 0)] d_X11_priceOf_113 (Nat.le_of_ble_eq_true rfl) rfl rfl ?_
            refine aw_iload d_X11_priceOf_115 7 rfl ?_
            refine aw_iload d_X11_priceOf_117 5 rfl ?_
            refine aw_Si [.int 0, .int r8] [] d_X11_priceOf_119 (cS_X6_price (d + 0) 0 0) tw_1508 rfl (rr0 (Nat.le_of_ble_eq_true rfl) (Nat.le_of_ble_eq_true rfl)) (Nat.le_of_ble_eq_true rfl) xs0 k (fun r16 h14 kk => ?_)
            obtain ⟨w15, k⟩ := kk
            exact aw_iret rfl d_X11_priceOf_122 ⟨Nat.le_refl _, Nat.le_refl _⟩ ⟨_, rfl, k⟩
          · have k := k.2 c13
            refine aw_aload_n (i := 1) rfl d_X11_priceOf_105 1 rfl ?_
            refine aw_Vi x1 [] [] d_X11_priceOf_106 (cV_X2_openPoints (d + 0) 0 0) kc_2 (q9) tw_979 rfl (rr0 (Nat.le_of_ble_eq_true rfl) (Nat.le_of_ble_eq_true rfl)) (Nat.le_of_ble_eq_true rfl) xs0 k (fun r19 h17 kk => ?_)
            obtain ⟨w18, k⟩ := kk
            refine aw_goto (tgt := 113) d_X11_priceOf_109 rfl ?_
            refine aw_istore [(0, .ref 0), (1, .ref x1), (2, .int x2), (3, .int x3), (4, .int s0), (5, .int r8), (6, .int (h_i h6 0 0)), (7, .int r19)] d_X11_priceOf_113 (Nat.le_of_ble_eq_true rfl) rfl rfl ?_
            refine aw_iload d_X11_priceOf_115 7 rfl ?_
            refine aw_iload d_X11_priceOf_117 5 rfl ?_
            refine aw_Si [.int r19, .int r8] [] d_X11_priceOf_119 (cS_X6_price (d + 0) 0 0) tw_1508 rfl (rr0 (Nat.le_of_ble_eq_true rfl) (Nat.le_of_ble_eq_true rfl)) (Nat.le_of_ble_eq_true rfl) xs0 k (fun r22 h20 kk => ?_)
            obtain ⟨w21, k⟩ := kk
            exact aw_iret rfl d_X11_priceOf_122 ⟨Nat.le_refl _, Nat.le_refl _⟩ ⟨_, rfl, k⟩
        · have k := k.2 c12
          refine aw_iconst (v := (-1)) d_X11_priceOf_95 ic_m1 ?_
          exact aw_iret rfl d_X11_priceOf_96 ⟨Nat.le_refl _, Nat.le_refl _⟩ ⟨_, rfl, k⟩
    · have k := k.2 c10
      refine aw_aload_n (i := 1) rfl d_X11_priceOf_67 1 rfl ?_
      refine aw_geti (k0 := 7) kc_2 (q9) (Nat.le_of_ble_eq_true rfl) tw_587 d_X11_priceOf_68 rfl ?_
      refine aw_goto (tgt := 78) d_X11_priceOf_71 rfl ?_
      refine aw_istore [(0, .ref 0), (1, .ref x1), (2, .int x2), (3, .int x3), (4, .int s0), (5, .int r8), (6, .int (h_i h6 x1 7))] d_X11_priceOf_78 (Nat.le_of_ble_eq_true rfl) rfl rfl ?_
      refine aw_iload d_X11_priceOf_80 5 rfl ?_
      refine aw_iconst (v := (-1)) d_X11_priceOf_82 ic_m1 ?_
      refine aw_icmp_eq (tgt := 95) d_X11_priceOf_83 rfl (fun c23 => ?_) (fun c23 => ?_)
      · have k := k.1 c23
        refine aw_iconst (v := (-1)) d_X11_priceOf_95 ic_m1 ?_
        exact aw_iret rfl d_X11_priceOf_96 ⟨Nat.le_refl _, Nat.le_refl _⟩ ⟨_, rfl, k⟩
      · have k := k.2 c23
        refine aw_iload d_X11_priceOf_86 6 rfl ?_
        refine aw_iload d_X11_priceOf_88 5 rfl ?_
        refine aw_iadd d_X11_priceOf_90 ?_
        refine aw_iload_n (i := 3) rfl d_X11_priceOf_91 3 rfl ?_
        refine aw_icmp_le (tgt := 97) d_X11_priceOf_92 rfl (fun c24 => ?_) (fun c24 => ?_)
        · have k := k.1 c24
          refine aw_aload_n (i := 1) rfl d_X11_priceOf_97 1 rfl ?_
          refine aw_geti (k0 := 4) kc_2 (q9) (Nat.le_of_ble_eq_true rfl) tw_581 d_X11_priceOf_98 rfl ?_
          refine aw_iconst (v := 1) d_X11_priceOf_101 ic_1 ?_
          refine aw_icmp_ne (tgt := 112) d_X11_priceOf_102 rfl (fun c25 => ?_) (fun c25 => ?_)
          · have k := k.1 c25
            refine aw_iconst (v := 0) d_X11_priceOf_112 ic_0 ?_
            refine aw_istore [(0, .ref 0), (1, .ref x1), (2, .int x2), (3, .int x3), (4, .int s0), (5, .int r8), (6, .int (h_i h6 x1 7)), (7, .int 0)] d_X11_priceOf_113 (Nat.le_of_ble_eq_true rfl) rfl rfl ?_
            refine aw_iload d_X11_priceOf_115 7 rfl ?_
            refine aw_iload d_X11_priceOf_117 5 rfl ?_
            refine aw_Si [.int 0, .int r8] [] d_X11_priceOf_119 (cS_X6_price (d + 0) 0 0) tw_1508 rfl (rr0 (Nat.le_of_ble_eq_true rfl) (Nat.le_of_ble_eq_true rfl)) (Nat.le_of_ble_eq_true rfl) xs0 k (fun r28 h26 kk => ?_)
            obtain ⟨w27, k⟩ := kk
            exact aw_iret rfl d_X11_priceOf_122 ⟨Nat.le_refl _, Nat.le_refl _⟩ ⟨_, rfl, k⟩
          · have k := k.2 c25
            refine aw_aload_n (i := 1) rfl d_X11_priceOf_105 1 rfl ?_
            refine aw_Vi x1 [] [] d_X11_priceOf_106 (cV_X2_openPoints (d + 0) 0 0) kc_2 (q9) tw_979 rfl (rr0 (Nat.le_of_ble_eq_true rfl) (Nat.le_of_ble_eq_true rfl)) (Nat.le_of_ble_eq_true rfl) xs0 k (fun r31 h29 kk => ?_)
            obtain ⟨w30, k⟩ := kk
            refine aw_goto (tgt := 113) d_X11_priceOf_109 rfl ?_
            refine aw_istore [(0, .ref 0), (1, .ref x1), (2, .int x2), (3, .int x3), (4, .int s0), (5, .int r8), (6, .int (h_i h6 x1 7)), (7, .int r31)] d_X11_priceOf_113 (Nat.le_of_ble_eq_true rfl) rfl rfl ?_
            refine aw_iload d_X11_priceOf_115 7 rfl ?_
            refine aw_iload d_X11_priceOf_117 5 rfl ?_
            refine aw_Si [.int r31, .int r8] [] d_X11_priceOf_119 (cS_X6_price (d + 0) 0 0) tw_1508 rfl (rr0 (Nat.le_of_ble_eq_true rfl) (Nat.le_of_ble_eq_true rfl)) (Nat.le_of_ble_eq_true rfl) xs0 k (fun r34 h32 kk => ?_)
            obtain ⟨w33, k⟩ := kk
            exact aw_iret rfl d_X11_priceOf_122 ⟨Nat.le_refl _, Nat.le_refl _⟩ ⟨_, rfl, k⟩
        · have k := k.2 c24
          refine aw_iconst (v := (-1)) d_X11_priceOf_95 ic_m1 ?_
          exact aw_iret rfl d_X11_priceOf_96 ⟨Nat.le_refl _, Nat.le_refl _⟩ ⟨_, rfl, k⟩
  · have k := k.2 c5
    refine aw_aload_n (i := 1) rfl d_X11_priceOf_45 1 rfl ?_
    refine aw_geti (k0 := 6) kc_2 (hs_x1) (Nat.le_of_ble_eq_true rfl) tw_585 d_X11_priceOf_46 rfl ?_
    refine aw_goto (tgt := 56) d_X11_priceOf_49 rfl ?_
    refine aw_iload_n (i := 2) rfl d_X11_priceOf_56 2 rfl ?_
    refine aw_Vi 10 [.int (h_i h x1 6), .int x2] [] d_X11_priceOf_57 (cV_X9_minutes (d + 1) 0 0) kc_9 (ws_10 w) tw_557 rfl (rr0 (Nat.le_of_ble_eq_true rfl) (Nat.le_of_ble_eq_true rfl)) (Nat.le_of_ble_eq_true rfl) xs0 k (fun r37 h35 kk => ?_)
    obtain ⟨w36, q38, k⟩ := kk
    refine aw_istore [(0, .ref 0), (1, .ref x1), (2, .int x2), (3, .int x3), (4, .int s0), (5, .int r37)] d_X11_priceOf_60 (Nat.le_of_ble_eq_true rfl) rfl rfl ?_
    refine aw_iload d_X11_priceOf_62 4 rfl ?_
    refine aw_if_eq (tgt := 74) d_X11_priceOf_64 rfl (fun c39 => ?_) (fun c39 => ?_)
    · have k := k.1 c39
      refine aw_aload_n (i := 0) rfl d_X11_priceOf_74 0 rfl ?_
      refine aw_geti (k0 := 0) kc_11 (ws_0 w36) (Nat.le_of_ble_eq_true rfl) tw_487 d_X11_priceOf_75 rfl ?_
      refine aw_istore [(0, .ref 0), (1, .ref x1), (2, .int x2), (3, .int x3), (4, .int s0), (5, .int r37), (6, .int (h_i h35 0 0))] d_X11_priceOf_78 (Nat.le_of_ble_eq_true rfl) rfl rfl ?_
      refine aw_iload d_X11_priceOf_80 5 rfl ?_
      refine aw_iconst (v := (-1)) d_X11_priceOf_82 ic_m1 ?_
      refine aw_icmp_eq (tgt := 95) d_X11_priceOf_83 rfl (fun c40 => ?_) (fun c40 => ?_)
      · have k := k.1 c40
        refine aw_iconst (v := (-1)) d_X11_priceOf_95 ic_m1 ?_
        exact aw_iret rfl d_X11_priceOf_96 ⟨Nat.le_refl _, Nat.le_refl _⟩ ⟨_, rfl, k⟩
      · have k := k.2 c40
        refine aw_iload d_X11_priceOf_86 6 rfl ?_
        refine aw_iload d_X11_priceOf_88 5 rfl ?_
        refine aw_iadd d_X11_priceOf_90 ?_
        refine aw_iload_n (i := 3) rfl d_X11_priceOf_91 3 rfl ?_
        refine aw_icmp_le (tgt := 97) d_X11_priceOf_92 rfl (fun c41 => ?_) (fun c41 => ?_)
        · have k := k.1 c41
          refine aw_aload_n (i := 1) rfl d_X11_priceOf_97 1 rfl ?_
          refine aw_geti (k0 := 4) kc_2 (q38) (Nat.le_of_ble_eq_true rfl) tw_581 d_X11_priceOf_98 rfl ?_
          refine aw_iconst (v := 1) d_X11_priceOf_101 ic_1 ?_
          refine aw_icmp_ne (tgt := 112) d_X11_priceOf_102 rfl (fun c42 => ?_) (fun c42 => ?_)
          · have k := k.1 c42
            refine aw_iconst (v := 0) d_X11_priceOf_112 ic_0 ?_
            refine aw_istore [(0, .ref 0), (1, .ref x1), (2, .int x2), (3, .int x3), (4, .int s0), (5, .int r37), (6, .int (h_i h35 0 0)), (7, .int 0)] d_X11_priceOf_113 (Nat.le_of_ble_eq_true rfl) rfl rfl ?_
            refine aw_iload d_X11_priceOf_115 7 rfl ?_
            refine aw_iload d_X11_priceOf_117 5 rfl ?_
            refine aw_Si [.int 0, .int r37] [] d_X11_priceOf_119 (cS_X6_price (d + 0) 0 0) tw_1508 rfl (rr0 (Nat.le_of_ble_eq_true rfl) (Nat.le_of_ble_eq_true rfl)) (Nat.le_of_ble_eq_true rfl) xs0 k (fun r45 h43 kk => ?_)
            obtain ⟨w44, k⟩ := kk
            exact aw_iret rfl d_X11_priceOf_122 ⟨Nat.le_refl _, Nat.le_refl _⟩ ⟨_, rfl, k⟩
          · have k := k.2 c42
            refine aw_aload_n (i := 1) rfl d_X11_priceOf_105 1 rfl ?_
            refine aw_Vi x1 [] [] d_X11_priceOf_106 (cV_X2_openPoints (d + 0) 0 0) kc_2 (q38) tw_979 rfl (rr0 (Nat.le_of_ble_eq_true rfl) (Nat.le_of_ble_eq_true rfl)) (Nat.le_of_ble_eq_true rfl) xs0 k (fun r48 h46 kk => ?_)
            obtain ⟨w47, k⟩ := kk
            refine aw_goto (tgt := 113) d_X11_priceOf_109 rfl ?_
            refine aw_istore [(0, .ref 0), (1, .ref x1), (2, .int x2), (3, .int x3), (4, .int s0), (5, .int r37), (6, .int (h_i h35 0 0)), (7, .int r48)] d_X11_priceOf_113 (Nat.le_of_ble_eq_true rfl) rfl rfl ?_
            refine aw_iload d_X11_priceOf_115 7 rfl ?_
            refine aw_iload d_X11_priceOf_117 5 rfl ?_
            refine aw_Si [.int r48, .int r37] [] d_X11_priceOf_119 (cS_X6_price (d + 0) 0 0) tw_1508 rfl (rr0 (Nat.le_of_ble_eq_true rfl) (Nat.le_of_ble_eq_true rfl)) (Nat.le_of_ble_eq_true rfl) xs0 k (fun r51 h49 kk => ?_)
            obtain ⟨w50, k⟩ := kk
            exact aw_iret rfl d_X11_priceOf_122 ⟨Nat.le_refl _, Nat.le_refl _⟩ ⟨_, rfl, k⟩
        · have k := k.2 c41
          refine aw_iconst (v := (-1)) d_X11_priceOf_95 ic_m1 ?_
          exact aw_iret rfl d_X11_priceOf_96 ⟨Nat.le_refl _, Nat.le_refl _⟩ ⟨_, rfl, k⟩
    · have k := k.2 c39
      refine aw_aload_n (i := 1) rfl d_X11_priceOf_67 1 rfl ?_
      refine aw_geti (k0 := 7) kc_2 (q38) (Nat.le_of_ble_eq_true rfl) tw_587 d_X11_priceOf_68 rfl ?_
      refine aw_goto (tgt := 78) d_X11_priceOf_71 rfl ?_
      refine aw_istore [(0, .ref 0), (1, .ref x1), (2, .int x2), (3, .int x3), (4, .int s0), (5, .int r37), (6, .int (h_i h35 x1 7))] d_X11_priceOf_78 (Nat.le_of_ble_eq_true rfl) rfl rfl ?_
      refine aw_iload d_X11_priceOf_80 5 rfl ?_
      refine aw_iconst (v := (-1)) d_X11_priceOf_82 ic_m1 ?_
      refine aw_icmp_eq (tgt := 95) d_X11_priceOf_83 rfl (fun c52 => ?_) (fun c52 => ?_)
      · have k := k.1 c52
        refine aw_iconst (v := (-1)) d_X11_priceOf_95 ic_m1 ?_
        exact aw_iret rfl d_X11_priceOf_96 ⟨Nat.le_refl _, Nat.le_refl _⟩ ⟨_, rfl, k⟩
      · have k := k.2 c52
        refine aw_iload d_X11_priceOf_86 6 rfl ?_
        refine aw_iload d_X11_priceOf_88 5 rfl ?_
        refine aw_iadd d_X11_priceOf_90 ?_
        refine aw_iload_n (i := 3) rfl d_X11_priceOf_91 3 rfl ?_
        refine aw_icmp_le (tgt := 97) d_X11_priceOf_92 rfl (fun c53 => ?_) (fun c53 => ?_)
        · have k := k.1 c53
          refine aw_aload_n (i := 1) rfl d_X11_priceOf_97 1 rfl ?_
          refine aw_geti (k0 := 4) kc_2 (q38) (Nat.le_of_ble_eq_true rfl) tw_581 d_X11_priceOf_98 rfl ?_
          refine aw_iconst (v := 1) d_X11_priceOf_101 ic_1 ?_
          refine aw_icmp_ne (tgt := 112) d_X11_priceOf_102 rfl (fun c54 => ?_) (fun c54 => ?_)
          · have k := k.1 c54
            refine aw_iconst (v := 0) d_X11_priceOf_112 ic_0 ?_
            refine aw_istore [(0, .ref 0), (1, .ref x1), (2, .int x2), (3, .int x3), (4, .int s0), (5, .int r37), (6, .int (h_i h35 x1 7)), (7, .int 0)] d_X11_priceOf_113 (Nat.le_of_ble_eq_true rfl) rfl rfl ?_
            refine aw_iload d_X11_priceOf_115 7 rfl ?_
            refine aw_iload d_X11_priceOf_117 5 rfl ?_
            refine aw_Si [.int 0, .int r37] [] d_X11_priceOf_119 (cS_X6_price (d + 0) 0 0) tw_1508 rfl (rr0 (Nat.le_of_ble_eq_true rfl) (Nat.le_of_ble_eq_true rfl)) (Nat.le_of_ble_eq_true rfl) xs0 k (fun r57 h55 kk => ?_)
            obtain ⟨w56, k⟩ := kk
            exact aw_iret rfl d_X11_priceOf_122 ⟨Nat.le_refl _, Nat.le_refl _⟩ ⟨_, rfl, k⟩
          · have k := k.2 c54
            refine aw_aload_n (i := 1) rfl d_X11_priceOf_105 1 rfl ?_
            refine aw_Vi x1 [] [] d_X11_priceOf_106 (cV_X2_openPoints (d + 0) 0 0) kc_2 (q38) tw_979 rfl (rr0 (Nat.le_of_ble_eq_true rfl) (Nat.le_of_ble_eq_true rfl)) (Nat.le_of_ble_eq_true rfl) xs0 k (fun r60 h58 kk => ?_)
            obtain ⟨w59, k⟩ := kk
            refine aw_goto (tgt := 113) d_X11_priceOf_109 rfl ?_
            refine aw_istore [(0, .ref 0), (1, .ref x1), (2, .int x2), (3, .int x3), (4, .int s0), (5, .int r37), (6, .int (h_i h35 x1 7)), (7, .int r60)] d_X11_priceOf_113 (Nat.le_of_ble_eq_true rfl) rfl rfl ?_
            refine aw_iload d_X11_priceOf_115 7 rfl ?_
            refine aw_iload d_X11_priceOf_117 5 rfl ?_
            refine aw_Si [.int r60, .int r37] [] d_X11_priceOf_119 (cS_X6_price (d + 0) 0 0) tw_1508 rfl (rr0 (Nat.le_of_ble_eq_true rfl) (Nat.le_of_ble_eq_true rfl)) (Nat.le_of_ble_eq_true rfl) xs0 k (fun r63 h61 kk => ?_)
            obtain ⟨w62, k⟩ := kk
            exact aw_iret rfl d_X11_priceOf_122 ⟨Nat.le_refl _, Nat.le_refl _⟩ ⟨_, rfl, k⟩
        · have k := k.2 c53
          refine aw_iconst (v := (-1)) d_X11_priceOf_95 ic_m1 ?_
          exact aw_iret rfl d_X11_priceOf_96 ⟨Nat.le_refl _, Nat.le_refl _⟩ ⟨_, rfl, k⟩
theorem t_X11_ranked (d : Nat) (h : Hp_) (w : Wf h) (x1 : Int32) (x2 : Int32) (x3 : Int32) (K : Int32 → Hp_ → Prop) (k : Cr (m_X11_manOf (d + 1) 0 0) [.ref 0, .int x1] h (fun o5 h1 => Wf h1 ∧ ((o5 = none → K (-1) h1) ∧ (∀ b4, o5 = some b4 → h_sh h1 b4 = some (12, 17) ∧ 400 ≤ b4 ∧ ((¬ (0 ≤ x2 ∧ x2 ≤ 30) → K (-1) h1) ∧ ((0 ≤ x2 ∧ x2 ≤ 30) → Ci (m_X11_isKnown (d + 1) 0 0) [.ref 0, .int x3] h1 (fun r13 h11 => Wf h11 ∧ h_sh h11 b4 = some (12, 17) ∧ ((¬ r13 = 0 → Ci (m_X5_classOf (d + 1) 0 0) [.ref 21, .ref b4, .int x2, .int x3] h11 (fun r18 h16 => Wf h16 ∧ (K r18 h16))) ∧ (r13 = 0 → K (-1) h11))))))))) : Ci (m_X11_ranked (d + 2) 0 0) [.ref 0, .int x1, .int x2, .int x3] h K := by
  refine Ct.of (fun _ _ _ => trivial) rfl (Nat.le_of_ble_eq_true rfl) ?_
  show AW (m_X11_ranked (d + 2) 0 0) 0 0 0 [(0, .ref 0), (1, .int x1), (2, .int x2), (3, .int x3)] [] h (kI K)
  refine aw_aload_n (i := 0) rfl d_X11_ranked_0 0 rfl ?_
  refine aw_iload_n (i := 1) rfl d_X11_ranked_1 1 rfl ?_
  refine aw_Vr 0 [.int x1] [] d_X11_ranked_2 (cV_X11_manOf (d + 1) 0 0) kc_11 (ws_0 w) tw_904 rfl (rr0 (Nat.le_of_ble_eq_true rfl) (Nat.le_of_ble_eq_true rfl)) (Nat.le_of_ble_eq_true rfl) xs0 k (fun h1 kk => ?_) (fun b4 h1 kk => ?_)
  · obtain ⟨w2, k⟩ := kk
    have k := k.1 rfl
    refine aw_astoreN [(0, .ref 0), (1, .int x1), (2, .int x2), (3, .int x3), (4, .null)] d_X11_ranked_5 (Nat.le_of_ble_eq_true rfl) rfl rfl ?_
    refine aw_aloadN d_X11_ranked_7 4 rfl ?_
    refine aw_ifnullN (tgt := 30) d_X11_ranked_9 rfl ?_
    refine aw_iconst (v := (-1)) d_X11_ranked_30 ic_m1 ?_
    exact aw_iret rfl d_X11_ranked_31 ⟨Nat.le_refl _, Nat.le_refl _⟩ ⟨_, rfl, k⟩
  · obtain ⟨w2, k⟩ := kk
    obtain ⟨q6, l7, k⟩ := k.2 b4 rfl
    refine aw_astore [(0, .ref 0), (1, .int x1), (2, .int x2), (3, .int x3), (4, .ref b4)] d_X11_ranked_5 (Nat.le_of_ble_eq_true rfl) rfl rfl ?_
    refine aw_aload d_X11_ranked_7 4 rfl ?_
    refine aw_ifnull d_X11_ranked_9 ?_
    refine aw_iload_n (i := 2) rfl d_X11_ranked_12 2 rfl ?_
    refine aw_iconst (v := 0) d_X11_ranked_13 ic_0 ?_
    refine aw_bipush (v := 30) d_X11_ranked_14 ib_30 ?_
    refine aw_Si [.int x2, .int 0, .int 30] [] d_X11_ranked_16 (cS_X11_within (d + 0) 0 0) tw_543 rfl (rr0 (Nat.le_of_ble_eq_true rfl) (Nat.le_of_ble_eq_true rfl)) (Nat.le_of_ble_eq_true rfl) xs0 (s_X11_within _ _ x2 0 30) (fun _ _ kk => ?_)
    obtain ⟨e8, e9⟩ := kk
    rw [e8, e9]
    refine aw_ifb_eq (tgt := 30) d_X11_ranked_19 rfl (fun c10 => ?_) (fun c10 => ?_)
    · have k := k.1 c10
      refine aw_iconst (v := (-1)) d_X11_ranked_30 ic_m1 ?_
      exact aw_iret rfl d_X11_ranked_31 ⟨Nat.le_refl _, Nat.le_refl _⟩ ⟨_, rfl, k⟩
    · have k := k.2 c10
      refine aw_aload_n (i := 0) rfl d_X11_ranked_22 0 rfl ?_
      refine aw_iload_n (i := 3) rfl d_X11_ranked_23 3 rfl ?_
      refine aw_Vi 0 [.int x3] [] d_X11_ranked_24 (cV_X11_isKnown (d + 1) 0 0) kc_11 (ws_0 w2) tw_1102 rfl (rr0 (Nat.le_of_ble_eq_true rfl) (Nat.le_of_ble_eq_true rfl)) (Nat.le_of_ble_eq_true rfl) xs0 k (fun r13 h11 kk => ?_)
      obtain ⟨w12, q14, k⟩ := kk
      refine aw_if_ne (tgt := 32) d_X11_ranked_27 rfl (fun c15 => ?_) (fun c15 => ?_)
      · have k := k.1 c15
        refine aw_aload_n (i := 0) rfl d_X11_ranked_32 0 rfl ?_
        refine aw_getr (k0 := 13) kc_11 (ws_0 w12) (Nat.le_of_ble_eq_true rfl) tw_500 d_X11_ranked_33 rfl (wr_0_13 w12) ?_
        refine aw_aload d_X11_ranked_36 4 rfl ?_
        refine aw_iload_n (i := 2) rfl d_X11_ranked_38 2 rfl ?_
        refine aw_iload_n (i := 3) rfl d_X11_ranked_39 3 rfl ?_
        refine aw_Vi 21 [.ref b4, .int x2, .int x3] [] d_X11_ranked_40 (cV_X5_classOf (d + 1) 0 0) kc_5 (ws_21 w12) tw_1040 rfl (rr0 (Nat.le_of_ble_eq_true rfl) (Nat.le_of_ble_eq_true rfl)) (Nat.le_of_ble_eq_true rfl) xs0 k (fun r18 h16 kk => ?_)
        obtain ⟨w17, k⟩ := kk
        exact aw_iret rfl d_X11_ranked_43 ⟨Nat.le_refl _, Nat.le_refl _⟩ ⟨_, rfl, k⟩
      · have k := k.2 c15
        refine aw_iconst (v := (-1)) d_X11_ranked_30 ic_m1 ?_
        exact aw_iret rfl d_X11_ranked_31 ⟨Nat.le_refl _, Nat.le_refl _⟩ ⟨_, rfl, k⟩
theorem t_X11_line (d : Nat) (h : Hp_) (w : Wf h) (x1 : Int32) (x2 : Int32) (K : Int32 → Hp_ → Prop) (k : Ci (m_X5_tellLine (d + 1) 0 0) [.ref 21, .int x1, .int x2] h (fun r3 h1 => Wf h1 ∧ (K r3 h1))) : Ci (m_X11_line (d + 2) 0 0) [.ref 0, .int x1, .int x2] h K := by
  refine Ct.of (fun _ _ _ => trivial) rfl (Nat.le_of_ble_eq_true rfl) ?_
  show AW (m_X11_line (d + 2) 0 0) 0 0 0 [(0, .ref 0), (1, .int x1), (2, .int x2)] [] h (kI K)
  refine aw_aload_n (i := 0) rfl d_X11_line_0 0 rfl ?_
  refine aw_getr (k0 := 13) kc_11 (ws_0 w) (Nat.le_of_ble_eq_true rfl) tw_500 d_X11_line_1 rfl (wr_0_13 w) ?_
  refine aw_iload_n (i := 1) rfl d_X11_line_4 1 rfl ?_
  refine aw_iload_n (i := 2) rfl d_X11_line_5 2 rfl ?_
  refine aw_Vi 21 [.int x1, .int x2] [] d_X11_line_6 (cV_X5_tellLine (d + 1) 0 0) kc_5 (ws_21 w) tw_1623 rfl (rr0 (Nat.le_of_ble_eq_true rfl) (Nat.le_of_ble_eq_true rfl)) (Nat.le_of_ble_eq_true rfl) xs0 k (fun r3 h1 kk => ?_)
  obtain ⟨w2, k⟩ := kk
  exact aw_iret rfl d_X11_line_9 ⟨Nat.le_refl _, Nat.le_refl _⟩ ⟨_, rfl, k⟩
theorem t_X11_habit (d : Nat) (h : Hp_) (w : Wf h) (x1 : Int32) (x2 : Int32) (K : Int32 → Hp_ → Prop) (k : (¬ (0 ≤ x1 ∧ x1 ≤ 3) → K (-1000000) h) ∧ ((0 ≤ x1 ∧ x1 ≤ 3) → (¬ (0 ≤ x2 ∧ x2 ≤ 3) → K (-1000000) h) ∧ ((0 ≤ x2 ∧ x2 ≤ 3) → (¬ x1 = x2 → Ci (m_X5_compare (d + 1) 0 0) [.ref 21, .int x1, .int x2, .int (h_i h 0 7)] h (fun r10 h8 => Wf h8 ∧ (K r10 h8))) ∧ (x1 = x2 → K (-1000000) h)))) : Ci (m_X11_habit (d + 2) 0 0) [.ref 0, .int x1, .int x2] h K := by
  refine Ct.of (fun _ _ _ => trivial) rfl (Nat.le_of_ble_eq_true rfl) ?_
  show AW (m_X11_habit (d + 2) 0 0) 0 0 0 [(0, .ref 0), (1, .int x1), (2, .int x2)] [] h (kI K)
  refine aw_iload_n (i := 1) rfl d_X11_habit_0 1 rfl ?_
  refine aw_iconst (v := 0) d_X11_habit_1 ic_0 ?_
  refine aw_iconst (v := 3) d_X11_habit_2 ic_3 ?_
  refine aw_Si [.int x1, .int 0, .int 3] [] d_X11_habit_3 (cS_X11_within (d + 0) 0 0) tw_543 rfl (rr0 (Nat.le_of_ble_eq_true rfl) (Nat.le_of_ble_eq_true rfl)) (Nat.le_of_ble_eq_true rfl) xs0 (s_X11_within _ _ x1 0 3) (fun _ _ kk => ?_)
  obtain ⟨e1, e2⟩ := kk
  rw [e1, e2]
  refine aw_ifb_eq (tgt := 23) d_X11_habit_6 rfl (fun c3 => ?_) (fun c3 => ?_)
  · have k := k.1 c3
    refine aw_ldcw (v := (-1000000)) d_X11_habit_23 tw_1644 ?_
    exact aw_iret rfl d_X11_habit_26 ⟨Nat.le_refl _, Nat.le_refl _⟩ ⟨_, rfl, k⟩
  · have k := k.2 c3
    refine aw_iload_n (i := 2) rfl d_X11_habit_9 2 rfl ?_
    refine aw_iconst (v := 0) d_X11_habit_10 ic_0 ?_
    refine aw_iconst (v := 3) d_X11_habit_11 ic_3 ?_
    refine aw_Si [.int x2, .int 0, .int 3] [] d_X11_habit_12 (cS_X11_within (d + 0) 0 0) tw_543 rfl (rr0 (Nat.le_of_ble_eq_true rfl) (Nat.le_of_ble_eq_true rfl)) (Nat.le_of_ble_eq_true rfl) xs0 (s_X11_within _ _ x2 0 3) (fun _ _ kk => ?_)
    obtain ⟨e4, e5⟩ := kk
    rw [e4, e5]
    refine aw_ifb_eq (tgt := 23) d_X11_habit_15 rfl (fun c6 => ?_) (fun c6 => ?_)
    · have k := k.1 c6
      refine aw_ldcw (v := (-1000000)) d_X11_habit_23 tw_1644 ?_
      exact aw_iret rfl d_X11_habit_26 ⟨Nat.le_refl _, Nat.le_refl _⟩ ⟨_, rfl, k⟩
    · have k := k.2 c6
      refine aw_iload_n (i := 1) rfl d_X11_habit_18 1 rfl ?_
      refine aw_iload_n (i := 2) rfl d_X11_habit_19 2 rfl ?_
      refine aw_icmp_ne (tgt := 27) d_X11_habit_20 rfl (fun c7 => ?_) (fun c7 => ?_)
      · have k := k.1 c7
        refine aw_aload_n (i := 0) rfl d_X11_habit_27 0 rfl ?_
        refine aw_getr (k0 := 13) kc_11 (ws_0 w) (Nat.le_of_ble_eq_true rfl) tw_500 d_X11_habit_28 rfl (wr_0_13 w) ?_
        refine aw_iload_n (i := 1) rfl d_X11_habit_31 1 rfl ?_
        refine aw_iload_n (i := 2) rfl d_X11_habit_32 2 rfl ?_
        refine aw_aload_n (i := 0) rfl d_X11_habit_33 0 rfl ?_
        refine aw_geti (k0 := 7) kc_11 (ws_0 w) (Nat.le_of_ble_eq_true rfl) tw_494 d_X11_habit_34 rfl ?_
        refine aw_Vi 21 [.int x1, .int x2, .int (h_i h 0 7)] [] d_X11_habit_37 (cV_X5_compare (d + 1) 0 0) kc_5 (ws_21 w) tw_1645 rfl (rr0 (Nat.le_of_ble_eq_true rfl) (Nat.le_of_ble_eq_true rfl)) (Nat.le_of_ble_eq_true rfl) xs0 k (fun r10 h8 kk => ?_)
        obtain ⟨w9, k⟩ := kk
        exact aw_iret rfl d_X11_habit_40 ⟨Nat.le_refl _, Nat.le_refl _⟩ ⟨_, rfl, k⟩
      · have k := k.2 c7
        refine aw_ldcw (v := (-1000000)) d_X11_habit_23 tw_1644 ?_
        exact aw_iret rfl d_X11_habit_26 ⟨Nat.le_refl _, Nat.le_refl _⟩ ⟨_, rfl, k⟩
theorem t_X1_lacks (d : Nat) (h : Hp_) (w : Wf h) (x1 : Int32) (K : Int32 → Hp_ → Prop) (k : Ci (m_X1_needsOf (d + 1) 0 0) [.ref 18, .int x1] h (fun r3 h1 => Wf h1 ∧ (Ci (m_X1_factsThatAre (d + 2) 0 0) [.ref 18, .int 1] h1 (fun r6 h4 => Wf h4 ∧ (K (r3 &&& (r6 ^^^ (-1))) h4))))) : Ci (m_X1_lacks (d + 3) 0 0) [.ref 18, .int x1] h K := by
  refine Ct.of (fun _ _ _ => trivial) rfl (Nat.le_of_ble_eq_true rfl) ?_
  show AW (m_X1_lacks (d + 3) 0 0) 0 0 0 [(0, .ref 18), (1, .int x1)] [] h (kI K)
  refine aw_aload_n (i := 0) rfl d_X1_lacks_0 0 rfl ?_
  refine aw_iload_n (i := 1) rfl d_X1_lacks_1 1 rfl ?_
  refine aw_Vi 18 [.int x1] [] d_X1_lacks_2 (cV_X1_needsOf (d + 1) 0 0) kc_1 (ws_18 w) tw_1252 rfl (rr0 (Nat.le_of_ble_eq_true rfl) (Nat.le_of_ble_eq_true rfl)) (Nat.le_of_ble_eq_true rfl) xs0 k (fun r3 h1 kk => ?_)
  obtain ⟨w2, k⟩ := kk
  refine aw_aload_n (i := 0) rfl d_X1_lacks_5 0 rfl ?_
  refine aw_iconst (v := 1) d_X1_lacks_6 ic_1 ?_
  refine aw_Vi 18 [.int 1] [.int r3] d_X1_lacks_7 (cV_X1_factsThatAre (d + 2) 0 0) kc_1 (ws_18 w2) tw_1257 rfl (rr0 (Nat.le_of_ble_eq_true rfl) (Nat.le_of_ble_eq_true rfl)) (Nat.le_of_ble_eq_true rfl) xs0 k (fun r6 h4 kk => ?_)
  obtain ⟨w5, k⟩ := kk
  refine aw_iconst (v := (-1)) d_X1_lacks_10 ic_m1 ?_
  refine aw_ixor d_X1_lacks_11 ?_
  refine aw_iand d_X1_lacks_12 ?_
  exact aw_iret rfl d_X1_lacks_13 ⟨Nat.le_refl _, Nat.le_refl _⟩ ⟨_, rfl, k⟩
theorem t_X1_countStories (d : Nat) (h : Hp_) (w : Wf h) (x1 : Int32) (x2 : Int32) (x3 : Int32) (x4 : Int32) (K : Int32 → Hp_ → Prop) (k : Ci (m_X1_factsThatAre (d + 2) 0 0) [.ref 18, .int 2] h (fun r3 h1 => Wf h1 ∧ (Ci (m_X1_factsThatAre (d + 2) 0 0) [.ref 18, .int 1] h1 (fun r6 h4 => Wf h4 ∧ (AW (m_X1_countStories (d + 3) 0 0) 0 0 20 [(0, .ref 18), (1, .int x1), (2, .int x2), (3, .int x3), (4, .int x4), (5, .int r3), (6, .int r6), (7, .int 0), (8, .int 0)] [] h4 (kI K)))))) : Ci (m_X1_countStories (d + 3) 0 0) [.ref 18, .int x1, .int x2, .int x3, .int x4] h K := by
  refine Ct.of (fun _ _ _ => trivial) rfl (Nat.le_of_ble_eq_true rfl) ?_
  show AW (m_X1_countStories (d + 3) 0 0) 0 0 0 [(0, .ref 18), (1, .int x1), (2, .int x2), (3, .int x3), (4, .int x4)] [] h (kI K)
  refine aw_aload_n (i := 0) rfl d_X1_countStories_0 0 rfl ?_
  refine aw_iconst (v := 2) d_X1_countStories_1 ic_2 ?_
  refine aw_Vi 18 [.int 2] [] d_X1_countStories_2 (cV_X1_factsThatAre (d + 2) 0 0) kc_1 (ws_18 w) tw_1257 rfl (rr0 (Nat.le_of_ble_eq_true rfl) (Nat.le_of_ble_eq_true rfl)) (Nat.le_of_ble_eq_true rfl) xs0 k (fun r3 h1 kk => ?_)
  obtain ⟨w2, k⟩ := kk
  refine aw_istore [(0, .ref 18), (1, .int x1), (2, .int x2), (3, .int x3), (4, .int x4), (5, .int r3)] d_X1_countStories_5 (Nat.le_of_ble_eq_true rfl) rfl rfl ?_
  refine aw_aload_n (i := 0) rfl d_X1_countStories_7 0 rfl ?_
  refine aw_iconst (v := 1) d_X1_countStories_8 ic_1 ?_
  refine aw_Vi 18 [.int 1] [] d_X1_countStories_9 (cV_X1_factsThatAre (d + 2) 0 0) kc_1 (ws_18 w2) tw_1257 rfl (rr0 (Nat.le_of_ble_eq_true rfl) (Nat.le_of_ble_eq_true rfl)) (Nat.le_of_ble_eq_true rfl) xs0 k (fun r6 h4 kk => ?_)
  obtain ⟨w5, k⟩ := kk
  refine aw_istore [(0, .ref 18), (1, .int x1), (2, .int x2), (3, .int x3), (4, .int x4), (5, .int r3), (6, .int r6)] d_X1_countStories_12 (Nat.le_of_ble_eq_true rfl) rfl rfl ?_
  refine aw_iconst (v := 0) d_X1_countStories_14 ic_0 ?_
  refine aw_istore [(0, .ref 18), (1, .int x1), (2, .int x2), (3, .int x3), (4, .int x4), (5, .int r3), (6, .int r6), (7, .int 0)] d_X1_countStories_15 (Nat.le_of_ble_eq_true rfl) rfl rfl ?_
  refine aw_iconst (v := 0) d_X1_countStories_17 ic_0 ?_
  refine aw_istore [(0, .ref 18), (1, .int x1), (2, .int x2), (3, .int x3), (4, .int x4), (5, .int r3), (6, .int r6), (7, .int 0), (8, .int 0)] d_X1_countStories_18 (Nat.le_of_ble_eq_true rfl) rfl rfl ?_
  exact k
theorem t_X1_countStories_20 (d : Nat) (h : Hp_) (w : Wf h) (x1 : Int32) (x2 : Int32) (x3 : Int32) (x4 : Int32) (x5 : Int32) (x6 : Int32) (x7 : Int32) (x8 : Int32) (K : Int32 → Hp_ → Prop) (k : vp_in x1 30 ∧ (((h_i h 73 x1.toNatClampNeg) ≤ x8 → K x7 h) ∧ (¬ (h_i h 73 x1.toNatClampNeg) ≤ x8 → vp_in ((x1 * 6) + x8) 180 ∧ ((¬ ((h_i h 79 (((x1 * 6) + x8) : Int32).toNatClampNeg) &&& x5) = 0 → (x4 = 0 → vp_in ((x1 * 6) + x8) 180 ∧ (vp_in ((x1 * 6) + x8) 180 ∧ ((x2 < (h_i h 81 (((x1 * 6) + x8) : Int32).toNatClampNeg) → AW (m_X1_countStories (d + 3) 0 0) 0 0 20 [(0, .ref 18), (1, .int x1), (2, .int x2), (3, .int x3), (4, .int x4), (5, .int x5), (6, .int x6), (7, .int x7), (8, .int (x8 + 1))] [] h (kI K)) ∧ (¬ x2 < (h_i h 81 (((x1 * 6) + x8) : Int32).toNatClampNeg) → AW (m_X1_countStories (d + 3) 0 0) 0 0 20 [(0, .ref 18), (1, .int x1), (2, .int x2), (3, .int x3), (4, .int x4), (5, .int x5), (6, .int x6), (7, .int x7), (8, .int (x8 + 1))] [] h (kI K))))) ∧ (¬ x4 = 0 → vp_in ((x1 * 6) + x8) 180 ∧ (vp_in ((x1 * 6) + x8) 180 ∧ ((x2 < (h_i h 81 (((x1 * 6) + x8) : Int32).toNatClampNeg) → AW (m_X1_countStories (d + 3) 0 0) 0 0 20 [(0, .ref 18), (1, .int x1), (2, .int x2), (3, .int x3), (4, .int x4), (5, .int x5), (6, .int x6), (7, .int x7), (8, .int (x8 + 1))] [] h (kI K)) ∧ (¬ x2 < (h_i h 81 (((x1 * 6) + x8) : Int32).toNatClampNeg) → AW (m_X1_countStories (d + 3) 0 0) 0 0 20 [(0, .ref 18), (1, .int x1), (2, .int x2), (3, .int x3), (4, .int x4), (5, .int x5), (6, .int x6), (7, .int x7), (8, .int (x8 + 1))] [] h (kI K)))))) ∧ (((h_i h 79 (((x1 * 6) + x8) : Int32).toNatClampNeg) &&& x5) = 0 → vp_in ((x1 * 6) + x8) 180 ∧ ((¬ ((h_i h 80 (((x1 * 6) + x8) : Int32).toNatClampNeg) &&& x6) = 0 → (x4 = 0 → vp_in ((x1 * 6) + x8) 180 ∧ (vp_in ((x1 * 6) + x8) 180 ∧ ((x2 < (h_i h 81 (((x1 * 6) + x8) : Int32).toNatClampNeg) → AW (m_X1_countStories (d + 3) 0 0) 0 0 20 [(0, .ref 18), (1, .int x1), (2, .int x2), (3, .int x3), (4, .int x4), (5, .int x5), (6, .int x6), (7, .int x7), (8, .int (x8 + 1))] [] h (kI K)) ∧ (¬ x2 < (h_i h 81 (((x1 * 6) + x8) : Int32).toNatClampNeg) → AW (m_X1_countStories (d + 3) 0 0) 0 0 20 [(0, .ref 18), (1, .int x1), (2, .int x2), (3, .int x3), (4, .int x4), (5, .int x5), (6, .int x6), (7, .int x7), (8, .int (x8 + 1))] [] h (kI K))))) ∧ (¬ x4 = 0 → vp_in ((x1 * 6) + x8) 180 ∧ (vp_in ((x1 * 6) + x8) 180 ∧ ((x2 < (h_i h 81 (((x1 * 6) + x8) : Int32).toNatClampNeg) → AW (m_X1_countStories (d + 3) 0 0) 0 0 20 [(0, .ref 18), (1, .int x1), (2, .int x2), (3, .int x3), (4, .int x4), (5, .int x5), (6, .int x6), (7, .int x7), (8, .int (x8 + 1))] [] h (kI K)) ∧ (¬ x2 < (h_i h 81 (((x1 * 6) + x8) : Int32).toNatClampNeg) → AW (m_X1_countStories (d + 3) 0 0) 0 0 20 [(0, .ref 18), (1, .int x1), (2, .int x2), (3, .int x3), (4, .int x4), (5, .int x5), (6, .int x6), (7, .int x7), (8, .int (x8 + 1))] [] h (kI K)))))) ∧ (((h_i h 80 (((x1 * 6) + x8) : Int32).toNatClampNeg) &&& x6) = 0 → (x4 = 0 → vp_in ((x1 * 6) + x8) 180 ∧ (vp_in ((x1 * 6) + x8) 180 ∧ ((x2 < (h_i h 81 (((x1 * 6) + x8) : Int32).toNatClampNeg) → AW (m_X1_countStories (d + 3) 0 0) 0 0 20 [(0, .ref 18), (1, .int x1), (2, .int x2), (3, .int x3), (4, .int x4), (5, .int x5), (6, .int x6), (7, .int x7), (8, .int (x8 + 1))] [] h (kI K)) ∧ (¬ x2 < (h_i h 81 (((x1 * 6) + x8) : Int32).toNatClampNeg) → (¬ ((h_i h 80 (((x1 * 6) + x8) : Int32).toNatClampNeg) &&& x3) = x3 → AW (m_X1_countStories (d + 3) 0 0) 0 0 20 [(0, .ref 18), (1, .int x1), (2, .int x2), (3, .int x3), (4, .int x4), (5, .int x5), (6, .int x6), (7, .int x7), (8, .int (x8 + 1))] [] h (kI K)) ∧ (((h_i h 80 (((x1 * 6) + x8) : Int32).toNatClampNeg) &&& x3) = x3 → AW (m_X1_countStories (d + 3) 0 0) 0 0 20 [(0, .ref 18), (1, .int x1), (2, .int x2), (3, .int x3), (4, .int x4), (5, .int x5), (6, .int x6), (7, .int (x7 + 1)), (8, .int (x8 + 1))] [] h (kI K)))))) ∧ (¬ x4 = 0 → vp_in ((x1 * 6) + x8) 180 ∧ (vp_in ((x1 * 6) + x8) 180 ∧ ((x2 < (h_i h 81 (((x1 * 6) + x8) : Int32).toNatClampNeg) → AW (m_X1_countStories (d + 3) 0 0) 0 0 20 [(0, .ref 18), (1, .int x1), (2, .int x2), (3, .int x3), (4, .int x4), (5, .int x5), (6, .int x6), (7, .int x7), (8, .int (x8 + 1))] [] h (kI K)) ∧ (¬ x2 < (h_i h 81 (((x1 * 6) + x8) : Int32).toNatClampNeg) → (¬ ((h_i h 79 (((x1 * 6) + x8) : Int32).toNatClampNeg) &&& x3) = x3 → AW (m_X1_countStories (d + 3) 0 0) 0 0 20 [(0, .ref 18), (1, .int x1), (2, .int x2), (3, .int x3), (4, .int x4), (5, .int x5), (6, .int x6), (7, .int x7), (8, .int (x8 + 1))] [] h (kI K)) ∧ (((h_i h 79 (((x1 * 6) + x8) : Int32).toNatClampNeg) &&& x3) = x3 → AW (m_X1_countStories (d + 3) 0 0) 0 0 20 [(0, .ref 18), (1, .int x1), (2, .int x2), (3, .int x3), (4, .int x4), (5, .int x5), (6, .int x6), (7, .int (x7 + 1)), (8, .int (x8 + 1))] [] h (kI K))))))))))))) : AW (m_X1_countStories (d + 3) 0 0) 0 0 20 [(0, .ref 18), (1, .int x1), (2, .int x2), (3, .int x3), (4, .int x4), (5, .int x5), (6, .int x6), (7, .int x7), (8, .int x8)] [] h (kI K) := by
  refine aw_iload d_X1_countStories_20 8 rfl ?_
  refine aw_aload_n (i := 0) rfl d_X1_countStories_22 0 rfl ?_
  refine aw_getr (k0 := 2) kc_1 (ws_18 w) (Nat.le_of_ble_eq_true rfl) tw_264 d_X1_countStories_23 rfl (wr_18_2 w) ?_
  refine aw_iload_n (i := 1) rfl d_X1_countStories_26 1 rfl ?_
  obtain ⟨b7, k⟩ := k
  refine aw_iald (ws_73 w) b7 d_X1_countStories_27 ?_
  refine aw_icmp_ge (tgt := 130) d_X1_countStories_28 rfl (fun c8 => ?_) (fun c8 => ?_)
  · have k := k.1 c8
    refine aw_iload d_X1_countStories_130 7 rfl ?_
    exact aw_iret rfl d_X1_countStories_132 ⟨Nat.le_refl _, Nat.le_refl _⟩ ⟨_, rfl, k⟩
  · have k := k.2 c8
    refine aw_iload_n (i := 1) rfl d_X1_countStories_31 1 rfl ?_
    refine aw_bipush (v := 6) d_X1_countStories_32 ib_6 ?_
    refine aw_imul d_X1_countStories_34 ?_
    refine aw_iload d_X1_countStories_35 8 rfl ?_
    refine aw_iadd d_X1_countStories_37 ?_
    refine aw_istore [(0, .ref 18), (1, .int x1), (2, .int x2), (3, .int x3), (4, .int x4), (5, .int x5), (6, .int x6), (7, .int x7), (8, .int x8), (9, .int ((x1 * 6) + x8))] d_X1_countStories_38 (Nat.le_of_ble_eq_true rfl) rfl rfl ?_
    refine aw_aload_n (i := 0) rfl d_X1_countStories_40 0 rfl ?_
    refine aw_getr (k0 := 10) kc_1 (ws_18 w) (Nat.le_of_ble_eq_true rfl) tw_276 d_X1_countStories_41 rfl (wr_18_10 w) ?_
    refine aw_iload d_X1_countStories_44 9 rfl ?_
    obtain ⟨b9, k⟩ := k
    refine aw_iald (ws_79 w) b9 d_X1_countStories_46 ?_
    refine aw_iload d_X1_countStories_47 5 rfl ?_
    refine aw_iand d_X1_countStories_49 ?_
    refine aw_if_ne (tgt := 70) d_X1_countStories_50 rfl (fun c10 => ?_) (fun c10 => ?_)
    · have k := k.1 c10
      refine aw_iconst (v := 0) d_X1_countStories_70 ic_0 ?_
      refine aw_istore [(0, .ref 18), (1, .int x1), (2, .int x2), (3, .int x3), (4, .int x4), (5, .int x5), (6, .int x6), (7, .int x7), (8, .int x8), (9, .int ((x1 * 6) + x8)), (10, .int 0)] d_X1_countStories_71 (Nat.le_of_ble_eq_true rfl) rfl rfl ?_
      refine aw_iload d_X1_countStories_73 4 rfl ?_
      refine aw_if_eq (tgt := 88) d_X1_countStories_75 rfl (fun c11 => ?_) (fun c11 => ?_)
      · have k := k.1 c11
        refine aw_aload_n (i := 0) rfl d_X1_countStories_88 0 rfl ?_
        refine aw_getr (k0 := 11) kc_1 (ws_18 w) (Nat.le_of_ble_eq_true rfl) tw_277 d_X1_countStories_89 rfl (wr_18_11 w) ?_
        refine aw_iload d_X1_countStories_92 9 rfl ?_
        obtain ⟨b12, k⟩ := k
        refine aw_iald (ws_80 w) b12 d_X1_countStories_94 ?_
        refine aw_istore [(0, .ref 18), (1, .int x1), (2, .int x2), (3, .int x3), (4, .int x4), (5, .int x5), (6, .int x6), (7, .int x7), (8, .int x8), (9, .int ((x1 * 6) + x8)), (10, .int 0), (11, .int (h_i h 80 (((x1 * 6) + x8) : Int32).toNatClampNeg))] d_X1_countStories_95 (Nat.le_of_ble_eq_true rfl) rfl rfl ?_
        refine aw_aload_n (i := 0) rfl d_X1_countStories_97 0 rfl ?_
        refine aw_getr (k0 := 12) kc_1 (ws_18 w) (Nat.le_of_ble_eq_true rfl) tw_278 d_X1_countStories_98 rfl (wr_18_12 w) ?_
        refine aw_iload d_X1_countStories_101 9 rfl ?_
        obtain ⟨b13, k⟩ := k
        refine aw_iald (ws_81 w) b13 d_X1_countStories_103 ?_
        refine aw_iload_n (i := 2) rfl d_X1_countStories_104 2 rfl ?_
        refine aw_icmp_gt (tgt := 124) d_X1_countStories_105 rfl (fun c14 => ?_) (fun c14 => ?_)
        · have k := k.1 c14
          refine aw_iinc (v := (x8 + 1)) [(0, .ref 18), (1, .int x1), (2, .int x2), (3, .int x3), (4, .int x4), (5, .int x5), (6, .int x6), (7, .int x7), (8, .int (x8 + 1)), (9, .int ((x1 * 6) + x8)), (10, .int 0), (11, .int (h_i h 80 (((x1 * 6) + x8) : Int32).toNatClampNeg))] d_X1_countStories_124 8 rfl rfl (Nat.le_of_ble_eq_true rfl) rfl rfl ?_
          refine aw_goto (tgt := 20) d_X1_countStories_127 rfl ?_
          exact aw_lvp [0, 1, 2, 3, 4, 5, 6, 7, 8] [(0, .ref 18), (1, .int x1), (2, .int x2), (3, .int x3), (4, .int x4), (5, .int x5), (6, .int x6), (7, .int x7), (8, .int (x8 + 1))] rfl k
        · have k := k.2 c14
          refine aw_iload d_X1_countStories_108 10 rfl ?_
          refine aw_if_eq (tgt := 124) d_X1_countStories_110 rfl (fun _ => ?_) (fun c => absurd c (by decide))
          refine aw_iinc (v := (x8 + 1)) [(0, .ref 18), (1, .int x1), (2, .int x2), (3, .int x3), (4, .int x4), (5, .int x5), (6, .int x6), (7, .int x7), (8, .int (x8 + 1)), (9, .int ((x1 * 6) + x8)), (10, .int 0), (11, .int (h_i h 80 (((x1 * 6) + x8) : Int32).toNatClampNeg))] d_X1_countStories_124 8 rfl rfl (Nat.le_of_ble_eq_true rfl) rfl rfl ?_
          refine aw_goto (tgt := 20) d_X1_countStories_127 rfl ?_
          exact aw_lvp [0, 1, 2, 3, 4, 5, 6, 7, 8] [(0, .ref 18), (1, .int x1), (2, .int x2), (3, .int x3), (4, .int x4), (5, .int x5), (6, .int x6), (7, .int x7), (8, .int (x8 + 1))] rfl k
      · have k := k.2 c11
        refine aw_aload_n (i := 0) rfl d_X1_countStories_78 0 rfl ?_
        refine aw_getr (k0 := 10) kc_1 (ws_18 w) (Nat.le_of_ble_eq_true rfl) tw_276 d_X1_countStories_79 rfl (wr_18_10 w) ?_
        refine aw_iload d_X1_countStories_82 9 rfl ?_
        obtain ⟨b16, k⟩ := k
        refine aw_iald (ws_79 w) b16 d_X1_countStories_84 ?_
        refine aw_goto (tgt := 95) d_X1_countStories_85 rfl ?_
        refine aw_istore [(0, .ref 18), (1, .int x1), (2, .int x2), (3, .int x3), (4, .int x4), (5, .int x5), (6, .int x6), (7, .int x7), (8, .int x8), (9, .int ((x1 * 6) + x8)), (10, .int 0), (11, .int (h_i h 79 (((x1 * 6) + x8) : Int32).toNatClampNeg))] d_X1_countStories_95 (Nat.le_of_ble_eq_true rfl) rfl rfl ?_
        refine aw_aload_n (i := 0) rfl d_X1_countStories_97 0 rfl ?_
        refine aw_getr (k0 := 12) kc_1 (ws_18 w) (Nat.le_of_ble_eq_true rfl) tw_278 d_X1_countStories_98 rfl (wr_18_12 w) ?_
        refine aw_iload d_X1_countStories_101 9 rfl ?_
        obtain ⟨b17, k⟩ := k
        refine aw_iald (ws_81 w) b17 d_X1_countStories_103 ?_
        refine aw_iload_n (i := 2) rfl d_X1_countStories_104 2 rfl ?_
        refine aw_icmp_gt (tgt := 124) d_X1_countStories_105 rfl (fun c18 => ?_) (fun c18 => ?_)
        · have k := k.1 c18
          refine aw_iinc (v := (x8 + 1)) [(0, .ref 18), (1, .int x1), (2, .int x2), (3, .int x3), (4, .int x4), (5, .int x5), (6, .int x6), (7, .int x7), (8, .int (x8 + 1)), (9, .int ((x1 * 6) + x8)), (10, .int 0), (11, .int (h_i h 79 (((x1 * 6) + x8) : Int32).toNatClampNeg))] d_X1_countStories_124 8 rfl rfl (Nat.le_of_ble_eq_true rfl) rfl rfl ?_
          refine aw_goto (tgt := 20) d_X1_countStories_127 rfl ?_
          exact aw_lvp [0, 1, 2, 3, 4, 5, 6, 7, 8] [(0, .ref 18), (1, .int x1), (2, .int x2), (3, .int x3), (4, .int x4), (5, .int x5), (6, .int x6), (7, .int x7), (8, .int (x8 + 1))] rfl k
        · have k := k.2 c18
          refine aw_iload d_X1_countStories_108 10 rfl ?_
          refine aw_if_eq (tgt := 124) d_X1_countStories_110 rfl (fun _ => ?_) (fun c => absurd c (by decide))
          refine aw_iinc (v := (x8 + 1)) [(0, .ref 18), (1, .int x1), (2, .int x2), (3, .int x3), (4, .int x4), (5, .int x5), (6, .int x6), (7, .int x7), (8, .int (x8 + 1)), (9, .int ((x1 * 6) + x8)), (10, .int 0), (11, .int (h_i h 79 (((x1 * 6) + x8) : Int32).toNatClampNeg))] d_X1_countStories_124 8 rfl rfl (Nat.le_of_ble_eq_true rfl) rfl rfl ?_
          refine aw_goto (tgt := 20) d_X1_countStories_127 rfl ?_
          exact aw_lvp [0, 1, 2, 3, 4, 5, 6, 7, 8] [(0, .ref 18), (1, .int x1), (2, .int x2), (3, .int x3), (4, .int x4), (5, .int x5), (6, .int x6), (7, .int x7), (8, .int (x8 + 1))] rfl k
    · have k := k.2 c10
      refine aw_aload_n (i := 0) rfl d_X1_countStories_53 0 rfl ?_
      refine aw_getr (k0 := 11) kc_1 (ws_18 w) (Nat.le_of_ble_eq_true rfl) tw_277 d_X1_countStories_54 rfl (wr_18_11 w) ?_
      refine aw_iload d_X1_countStories_57 9 rfl ?_
      obtain ⟨b20, k⟩ := k
      refine aw_iald (ws_80 w) b20 d_X1_countStories_59 ?_
      refine aw_iload d_X1_countStories_60 6 rfl ?_
      refine aw_iand d_X1_countStories_62 ?_
      refine aw_if_ne (tgt := 70) d_X1_countStories_63 rfl (fun c21 => ?_) (fun c21 => ?_)
      · have k := k.1 c21
        refine aw_iconst (v := 0) d_X1_countStories_70 ic_0 ?_
        refine aw_istore [(0, .ref 18), (1, .int x1), (2, .int x2), (3, .int x3), (4, .int x4), (5, .int x5), (6, .int x6), (7, .int x7), (8, .int x8), (9, .int ((x1 * 6) + x8)), (10, .int 0)] d_X1_countStories_71 (Nat.le_of_ble_eq_true rfl) rfl rfl ?_
        refine aw_iload d_X1_countStories_73 4 rfl ?_
        refine aw_if_eq (tgt := 88) d_X1_countStories_75 rfl (fun c22 => ?_) (fun c22 => ?_)
        · have k := k.1 c22
          refine aw_aload_n (i := 0) rfl d_X1_countStories_88 0 rfl ?_
          refine aw_getr (k0 := 11) kc_1 (ws_18 w) (Nat.le_of_ble_eq_true rfl) tw_277 d_X1_countStories_89 rfl (wr_18_11 w) ?_
          refine aw_iload d_X1_countStories_92 9 rfl ?_
          obtain ⟨b23, k⟩ := k
          refine aw_iald (ws_80 w) b23 d_X1_countStories_94 ?_
          refine aw_istore [(0, .ref 18), (1, .int x1), (2, .int x2), (3, .int x3), (4, .int x4), (5, .int x5), (6, .int x6), (7, .int x7), (8, .int x8), (9, .int ((x1 * 6) + x8)), (10, .int 0), (11, .int (h_i h 80 (((x1 * 6) + x8) : Int32).toNatClampNeg))] d_X1_countStories_95 (Nat.le_of_ble_eq_true rfl) rfl rfl ?_
          refine aw_aload_n (i := 0) rfl d_X1_countStories_97 0 rfl ?_
          refine aw_getr (k0 := 12) kc_1 (ws_18 w) (Nat.le_of_ble_eq_true rfl) tw_278 d_X1_countStories_98 rfl (wr_18_12 w) ?_
          refine aw_iload d_X1_countStories_101 9 rfl ?_
          obtain ⟨b24, k⟩ := k
          refine aw_iald (ws_81 w) b24 d_X1_countStories_103 ?_
          refine aw_iload_n (i := 2) rfl d_X1_countStories_104 2 rfl ?_
          refine aw_icmp_gt (tgt := 124) d_X1_countStories_105 rfl (fun c25 => ?_) (fun c25 => ?_)
          · have k := k.1 c25
            refine aw_iinc (v := (x8 + 1)) [(0, .ref 18), (1, .int x1), (2, .int x2), (3, .int x3), (4, .int x4), (5, .int x5), (6, .int x6), (7, .int x7), (8, .int (x8 + 1)), (9, .int ((x1 * 6) + x8)), (10, .int 0), (11, .int (h_i h 80 (((x1 * 6) + x8) : Int32).toNatClampNeg))] d_X1_countStories_124 8 rfl rfl (Nat.le_of_ble_eq_true rfl) rfl rfl ?_
            refine aw_goto (tgt := 20) d_X1_countStories_127 rfl ?_
            exact aw_lvp [0, 1, 2, 3, 4, 5, 6, 7, 8] [(0, .ref 18), (1, .int x1), (2, .int x2), (3, .int x3), (4, .int x4), (5, .int x5), (6, .int x6), (7, .int x7), (8, .int (x8 + 1))] rfl k
          · have k := k.2 c25
            refine aw_iload d_X1_countStories_108 10 rfl ?_
            refine aw_if_eq (tgt := 124) d_X1_countStories_110 rfl (fun _ => ?_) (fun c => absurd c (by decide))
            refine aw_iinc (v := (x8 + 1)) [(0, .ref 18), (1, .int x1), (2, .int x2), (3, .int x3), (4, .int x4), (5, .int x5), (6, .int x6), (7, .int x7), (8, .int (x8 + 1)), (9, .int ((x1 * 6) + x8)), (10, .int 0), (11, .int (h_i h 80 (((x1 * 6) + x8) : Int32).toNatClampNeg))] d_X1_countStories_124 8 rfl rfl (Nat.le_of_ble_eq_true rfl) rfl rfl ?_
            refine aw_goto (tgt := 20) d_X1_countStories_127 rfl ?_
            exact aw_lvp [0, 1, 2, 3, 4, 5, 6, 7, 8] [(0, .ref 18), (1, .int x1), (2, .int x2), (3, .int x3), (4, .int x4), (5, .int x5), (6, .int x6), (7, .int x7), (8, .int (x8 + 1))] rfl k
        · have k := k.2 c22
          refine aw_aload_n (i := 0) rfl d_X1_countStories_78 0 rfl ?_
          refine aw_getr (k0 := 10) kc_1 (ws_18 w) (Nat.le_of_ble_eq_true rfl) tw_276 d_X1_countStories_79 rfl (wr_18_10 w) ?_
          refine aw_iload d_X1_countStories_82 9 rfl ?_
          obtain ⟨b27, k⟩ := k
          refine aw_iald (ws_79 w) b27 d_X1_countStories_84 ?_
          refine aw_goto (tgt := 95) d_X1_countStories_85 rfl ?_
          refine aw_istore [(0, .ref 18), (1, .int x1), (2, .int x2), (3, .int x3), (4, .int x4), (5, .int x5), (6, .int x6), (7, .int x7), (8, .int x8), (9, .int ((x1 * 6) + x8)), (10, .int 0), (11, .int (h_i h 79 (((x1 * 6) + x8) : Int32).toNatClampNeg))] d_X1_countStories_95 (Nat.le_of_ble_eq_true rfl) rfl rfl ?_
          refine aw_aload_n (i := 0) rfl d_X1_countStories_97 0 rfl ?_
          refine aw_getr (k0 := 12) kc_1 (ws_18 w) (Nat.le_of_ble_eq_true rfl) tw_278 d_X1_countStories_98 rfl (wr_18_12 w) ?_
          refine aw_iload d_X1_countStories_101 9 rfl ?_
          obtain ⟨b28, k⟩ := k
          refine aw_iald (ws_81 w) b28 d_X1_countStories_103 ?_
          refine aw_iload_n (i := 2) rfl d_X1_countStories_104 2 rfl ?_
          refine aw_icmp_gt (tgt := 124) d_X1_countStories_105 rfl (fun c29 => ?_) (fun c29 => ?_)
          · have k := k.1 c29
            refine aw_iinc (v := (x8 + 1)) [(0, .ref 18), (1, .int x1), (2, .int x2), (3, .int x3), (4, .int x4), (5, .int x5), (6, .int x6), (7, .int x7), (8, .int (x8 + 1)), (9, .int ((x1 * 6) + x8)), (10, .int 0), (11, .int (h_i h 79 (((x1 * 6) + x8) : Int32).toNatClampNeg))] d_X1_countStories_124 8 rfl rfl (Nat.le_of_ble_eq_true rfl) rfl rfl ?_
            refine aw_goto (tgt := 20) d_X1_countStories_127 rfl ?_
            exact aw_lvp [0, 1, 2, 3, 4, 5, 6, 7, 8] [(0, .ref 18), (1, .int x1), (2, .int x2), (3, .int x3), (4, .int x4), (5, .int x5), (6, .int x6), (7, .int x7), (8, .int (x8 + 1))] rfl k
          · have k := k.2 c29
            refine aw_iload d_X1_countStories_108 10 rfl ?_
            refine aw_if_eq (tgt := 124) d_X1_countStories_110 rfl (fun _ => ?_) (fun c => absurd c (by decide))
            refine aw_iinc (v := (x8 + 1)) [(0, .ref 18), (1, .int x1), (2, .int x2), (3, .int x3), (4, .int x4), (5, .int x5), (6, .int x6), (7, .int x7), (8, .int (x8 + 1)), (9, .int ((x1 * 6) + x8)), (10, .int 0), (11, .int (h_i h 79 (((x1 * 6) + x8) : Int32).toNatClampNeg))] d_X1_countStories_124 8 rfl rfl (Nat.le_of_ble_eq_true rfl) rfl rfl ?_
            refine aw_goto (tgt := 20) d_X1_countStories_127 rfl ?_
            exact aw_lvp [0, 1, 2, 3, 4, 5, 6, 7, 8] [(0, .ref 18), (1, .int x1), (2, .int x2), (3, .int x3), (4, .int x4), (5, .int x5), (6, .int x6), (7, .int x7), (8, .int (x8 + 1))] rfl k
      · have k := k.2 c21
        refine aw_iconst (v := 1) d_X1_countStories_66 ic_1 ?_
        refine aw_goto (tgt := 71) d_X1_countStories_67 rfl ?_
        refine aw_istore [(0, .ref 18), (1, .int x1), (2, .int x2), (3, .int x3), (4, .int x4), (5, .int x5), (6, .int x6), (7, .int x7), (8, .int x8), (9, .int ((x1 * 6) + x8)), (10, .int 1)] d_X1_countStories_71 (Nat.le_of_ble_eq_true rfl) rfl rfl ?_
        refine aw_iload d_X1_countStories_73 4 rfl ?_
        refine aw_if_eq (tgt := 88) d_X1_countStories_75 rfl (fun c31 => ?_) (fun c31 => ?_)
        · have k := k.1 c31
          refine aw_aload_n (i := 0) rfl d_X1_countStories_88 0 rfl ?_
          refine aw_getr (k0 := 11) kc_1 (ws_18 w) (Nat.le_of_ble_eq_true rfl) tw_277 d_X1_countStories_89 rfl (wr_18_11 w) ?_
          refine aw_iload d_X1_countStories_92 9 rfl ?_
          obtain ⟨b32, k⟩ := k
          refine aw_iald (ws_80 w) b32 d_X1_countStories_94 ?_
          refine aw_istore [(0, .ref 18), (1, .int x1), (2, .int x2), (3, .int x3), (4, .int x4), (5, .int x5), (6, .int x6), (7, .int x7), (8, .int x8), (9, .int ((x1 * 6) + x8)), (10, .int 1), (11, .int (h_i h 80 (((x1 * 6) + x8) : Int32).toNatClampNeg))] d_X1_countStories_95 (Nat.le_of_ble_eq_true rfl) rfl rfl ?_
          refine aw_aload_n (i := 0) rfl d_X1_countStories_97 0 rfl ?_
          refine aw_getr (k0 := 12) kc_1 (ws_18 w) (Nat.le_of_ble_eq_true rfl) tw_278 d_X1_countStories_98 rfl (wr_18_12 w) ?_
          refine aw_iload d_X1_countStories_101 9 rfl ?_
          obtain ⟨b33, k⟩ := k
          refine aw_iald (ws_81 w) b33 d_X1_countStories_103 ?_
          refine aw_iload_n (i := 2) rfl d_X1_countStories_104 2 rfl ?_
          refine aw_icmp_gt (tgt := 124) d_X1_countStories_105 rfl (fun c34 => ?_) (fun c34 => ?_)
          · have k := k.1 c34
            refine aw_iinc (v := (x8 + 1)) [(0, .ref 18), (1, .int x1), (2, .int x2), (3, .int x3), (4, .int x4), (5, .int x5), (6, .int x6), (7, .int x7), (8, .int (x8 + 1)), (9, .int ((x1 * 6) + x8)), (10, .int 1), (11, .int (h_i h 80 (((x1 * 6) + x8) : Int32).toNatClampNeg))] d_X1_countStories_124 8 rfl rfl (Nat.le_of_ble_eq_true rfl) rfl rfl ?_
            refine aw_goto (tgt := 20) d_X1_countStories_127 rfl ?_
            exact aw_lvp [0, 1, 2, 3, 4, 5, 6, 7, 8] [(0, .ref 18), (1, .int x1), (2, .int x2), (3, .int x3), (4, .int x4), (5, .int x5), (6, .int x6), (7, .int x7), (8, .int (x8 + 1))] rfl k
          · have k := k.2 c34
            refine aw_iload d_X1_countStories_108 10 rfl ?_
            refine aw_if_eq (tgt := 124) d_X1_countStories_110 rfl (fun c => absurd c (by decide)) (fun _ => ?_)
            refine aw_iload d_X1_countStories_113 11 rfl ?_
            refine aw_iload_n (i := 3) rfl d_X1_countStories_115 3 rfl ?_
            refine aw_iand d_X1_countStories_116 ?_
            refine aw_iload_n (i := 3) rfl d_X1_countStories_117 3 rfl ?_
            refine aw_icmp_ne (tgt := 124) d_X1_countStories_118 rfl (fun c36 => ?_) (fun c36 => ?_)
            · have k := k.1 c36
              refine aw_iinc (v := (x8 + 1)) [(0, .ref 18), (1, .int x1), (2, .int x2), (3, .int x3), (4, .int x4), (5, .int x5), (6, .int x6), (7, .int x7), (8, .int (x8 + 1)), (9, .int ((x1 * 6) + x8)), (10, .int 1), (11, .int (h_i h 80 (((x1 * 6) + x8) : Int32).toNatClampNeg))] d_X1_countStories_124 8 rfl rfl (Nat.le_of_ble_eq_true rfl) rfl rfl ?_
              refine aw_goto (tgt := 20) d_X1_countStories_127 rfl ?_
              exact aw_lvp [0, 1, 2, 3, 4, 5, 6, 7, 8] [(0, .ref 18), (1, .int x1), (2, .int x2), (3, .int x3), (4, .int x4), (5, .int x5), (6, .int x6), (7, .int x7), (8, .int (x8 + 1))] rfl k
            · have k := k.2 c36
              refine aw_iinc (v := (x7 + 1)) [(0, .ref 18), (1, .int x1), (2, .int x2), (3, .int x3), (4, .int x4), (5, .int x5), (6, .int x6), (7, .int (x7 + 1)), (8, .int x8), (9, .int ((x1 * 6) + x8)), (10, .int 1), (11, .int (h_i h 80 (((x1 * 6) + x8) : Int32).toNatClampNeg))] d_X1_countStories_121 7 rfl rfl (Nat.le_of_ble_eq_true rfl) rfl rfl ?_
              refine aw_iinc (v := (x8 + 1)) [(0, .ref 18), (1, .int x1), (2, .int x2), (3, .int x3), (4, .int x4), (5, .int x5), (6, .int x6), (7, .int (x7 + 1)), (8, .int (x8 + 1)), (9, .int ((x1 * 6) + x8)), (10, .int 1), (11, .int (h_i h 80 (((x1 * 6) + x8) : Int32).toNatClampNeg))] d_X1_countStories_124 8 rfl rfl (Nat.le_of_ble_eq_true rfl) rfl rfl ?_
              refine aw_goto (tgt := 20) d_X1_countStories_127 rfl ?_
              exact aw_lvp [0, 1, 2, 3, 4, 5, 6, 7, 8] [(0, .ref 18), (1, .int x1), (2, .int x2), (3, .int x3), (4, .int x4), (5, .int x5), (6, .int x6), (7, .int (x7 + 1)), (8, .int (x8 + 1))] rfl k
        · have k := k.2 c31
          refine aw_aload_n (i := 0) rfl d_X1_countStories_78 0 rfl ?_
          refine aw_getr (k0 := 10) kc_1 (ws_18 w) (Nat.le_of_ble_eq_true rfl) tw_276 d_X1_countStories_79 rfl (wr_18_10 w) ?_
          refine aw_iload d_X1_countStories_82 9 rfl ?_
          obtain ⟨b37, k⟩ := k
          refine aw_iald (ws_79 w) b37 d_X1_countStories_84 ?_
          refine aw_goto (tgt := 95) d_X1_countStories_85 rfl ?_
          refine aw_istore [(0, .ref 18), (1, .int x1), (2, .int x2), (3, .int x3), (4, .int x4), (5, .int x5), (6, .int x6), (7, .int x7), (8, .int x8), (9, .int ((x1 * 6) + x8)), (10, .int 1), (11, .int (h_i h 79 (((x1 * 6) + x8) : Int32).toNatClampNeg))] d_X1_countStories_95 (Nat.le_of_ble_eq_true rfl) rfl rfl ?_
          refine aw_aload_n (i := 0) rfl d_X1_countStories_97 0 rfl ?_
          refine aw_getr (k0 := 12) kc_1 (ws_18 w) (Nat.le_of_ble_eq_true rfl) tw_278 d_X1_countStories_98 rfl (wr_18_12 w) ?_
          refine aw_iload d_X1_countStories_101 9 rfl ?_
          obtain ⟨b38, k⟩ := k
          refine aw_iald (ws_81 w) b38 d_X1_countStories_103 ?_
          refine aw_iload_n (i := 2) rfl d_X1_countStories_104 2 rfl ?_
          refine aw_icmp_gt (tgt := 124) d_X1_countStories_105 rfl (fun c39 => ?_) (fun c39 => ?_)
          · have k := k.1 c39
            refine aw_iinc (v := (x8 + 1)) [(0, .ref 18), (1, .int x1), (2, .int x2), (3, .int x3), (4, .int x4), (5, .int x5), (6, .int x6), (7, .int x7), (8, .int (x8 + 1)), (9, .int ((x1 * 6) + x8)), (10, .int 1), (11, .int (h_i h 79 (((x1 * 6) + x8) : Int32).toNatClampNeg))] d_X1_countStories_124 8 rfl rfl (Nat.le_of_ble_eq_true rfl) rfl rfl ?_
            refine aw_goto (tgt := 20) d_X1_countStories_127 rfl ?_
            exact aw_lvp [0, 1, 2, 3, 4, 5, 6, 7, 8] [(0, .ref 18), (1, .int x1), (2, .int x2), (3, .int x3), (4, .int x4), (5, .int x5), (6, .int x6), (7, .int x7), (8, .int (x8 + 1))] rfl k
          · have k := k.2 c39
            refine aw_iload d_X1_countStories_108 10 rfl ?_
            refine aw_if_eq (tgt := 124) d_X1_countStories_110 rfl (fun c => absurd c (by decide)) (fun _ => ?_)
            refine aw_iload d_X1_countStories_113 11 rfl ?_
            refine aw_iload_n (i := 3) rfl d_X1_countStories_115 3 rfl ?_
            refine aw_iand d_X1_countStories_116 ?_
            refine aw_iload_n (i := 3) rfl d_X1_countStories_117 3 rfl ?_
            refine aw_icmp_ne (tgt := 124) d_X1_countStories_118 rfl (fun c41 => ?_) (fun c41 => ?_)
            · have k := k.1 c41
              refine aw_iinc (v := (x8 + 1)) [(0, .ref 18), (1, .int x1), (2, .int x2), (3, .int x3), (4, .int x4), (5, .int x5), (6, .int x6), (7, .int x7), (8, .int (x8 + 1)), (9, .int ((x1 * 6) + x8)), (10, .int 1), (11, .int (h_i h 79 (((x1 * 6) + x8) : Int32).toNatClampNeg))] d_X1_countStories_124 8 rfl rfl (Nat.le_of_ble_eq_true rfl) rfl rfl ?_
              refine aw_goto (tgt := 20) d_X1_countStories_127 rfl ?_
              exact aw_lvp [0, 1, 2, 3, 4, 5, 6, 7, 8] [(0, .ref 18), (1, .int x1), (2, .int x2), (3, .int x3), (4, .int x4), (5, .int x5), (6, .int x6), (7, .int x7), (8, .int (x8 + 1))] rfl k
            · have k := k.2 c41
              refine aw_iinc (v := (x7 + 1)) [(0, .ref 18), (1, .int x1), (2, .int x2), (3, .int x3), (4, .int x4), (5, .int x5), (6, .int x6), (7, .int (x7 + 1)), (8, .int x8), (9, .int ((x1 * 6) + x8)), (10, .int 1), (11, .int (h_i h 79 (((x1 * 6) + x8) : Int32).toNatClampNeg))] d_X1_countStories_121 7 rfl rfl (Nat.le_of_ble_eq_true rfl) rfl rfl ?_
              refine aw_iinc (v := (x8 + 1)) [(0, .ref 18), (1, .int x1), (2, .int x2), (3, .int x3), (4, .int x4), (5, .int x5), (6, .int x6), (7, .int (x7 + 1)), (8, .int (x8 + 1)), (9, .int ((x1 * 6) + x8)), (10, .int 1), (11, .int (h_i h 79 (((x1 * 6) + x8) : Int32).toNatClampNeg))] d_X1_countStories_124 8 rfl rfl (Nat.le_of_ble_eq_true rfl) rfl rfl ?_
              refine aw_goto (tgt := 20) d_X1_countStories_127 rfl ?_
              exact aw_lvp [0, 1, 2, 3, 4, 5, 6, 7, 8] [(0, .ref 18), (1, .int x1), (2, .int x2), (3, .int x3), (4, .int x4), (5, .int x5), (6, .int x6), (7, .int (x7 + 1)), (8, .int (x8 + 1))] rfl k
theorem t_X3_solve (d : Nat) (h : Hp_) (w : Wf h)  (K : Hp_ → Prop) (k : ((h_i h 19 5) = 0 → K h) ∧ (¬ (h_i h 19 5) = 0 → Cv (m_X3_fillGains (d + 1) 0 0) [.ref 19] h (fun h2 => Wf h2 ∧ (Cv (m_X3_fillBest (d + 1) 0 0) [.ref 19] h2 (fun h5 => Wf h5 ∧ (Cv (m_X3_fillChoices (d + 2) 0 0) [.ref 19] h5 (fun h8 => Wf h8 ∧ (Cv (m_X3_fillFirst (d + 1) 0 0) [.ref 19] h8 (fun h11 => Wf h11 ∧ (K (h_im h11 19 5 0))))))))))) : Cv (m_X3_solve (d + 3) 0 0) [.ref 19] h K := by
  refine Ct.of (fun _ _ _ => trivial) rfl (Nat.le_of_ble_eq_true rfl) ?_
  show AW (m_X3_solve (d + 3) 0 0) 0 0 0 [(0, .ref 19)] [] h (kV K)
  refine aw_aload_n (i := 0) rfl d_X3_solve_0 0 rfl ?_
  refine aw_geti (k0 := 5) kc_3 (ws_19 w) (Nat.le_of_ble_eq_true rfl) tw_328 d_X3_solve_1 rfl ?_
  refine aw_if_eq (tgt := 28) d_X3_solve_4 rfl (fun c1 => ?_) (fun c1 => ?_)
  · have k := k.1 c1
    exact aw_vret rfl d_X3_solve_28 ⟨Nat.le_refl _, Nat.le_refl _⟩ ⟨rfl, k⟩
  · have k := k.2 c1
    refine aw_aload_n (i := 0) rfl d_X3_solve_7 0 rfl ?_
    refine aw_Vv 19 [] [] d_X3_solve_8 (cV_X3_fillGains (d + 1) 0 0) kc_3 (ws_19 w) tw_1343 rfl (rr0 (Nat.le_of_ble_eq_true rfl) (Nat.le_of_ble_eq_true rfl)) (Nat.le_of_ble_eq_true rfl) xs0 k (fun h2 kk => ?_)
    obtain ⟨w3, k⟩ := kk
    refine aw_aload_n (i := 0) rfl d_X3_solve_11 0 rfl ?_
    refine aw_Vv 19 [] [] d_X3_solve_12 (cV_X3_fillBest (d + 1) 0 0) kc_3 (ws_19 w3) tw_1350 rfl (rr0 (Nat.le_of_ble_eq_true rfl) (Nat.le_of_ble_eq_true rfl)) (Nat.le_of_ble_eq_true rfl) xs0 k (fun h5 kk => ?_)
    obtain ⟨w6, k⟩ := kk
    refine aw_aload_n (i := 0) rfl d_X3_solve_15 0 rfl ?_
    refine aw_Vv 19 [] [] d_X3_solve_16 (cV_X3_fillChoices (d + 2) 0 0) kc_3 (ws_19 w6) tw_1364 rfl (rr0 (Nat.le_of_ble_eq_true rfl) (Nat.le_of_ble_eq_true rfl)) (Nat.le_of_ble_eq_true rfl) xs0 k (fun h8 kk => ?_)
    obtain ⟨w9, k⟩ := kk
    refine aw_aload_n (i := 0) rfl d_X3_solve_19 0 rfl ?_
    refine aw_Vv 19 [] [] d_X3_solve_20 (cV_X3_fillFirst (d + 1) 0 0) kc_3 (ws_19 w9) tw_1372 rfl (rr0 (Nat.le_of_ble_eq_true rfl) (Nat.le_of_ble_eq_true rfl)) (Nat.le_of_ble_eq_true rfl) xs0 k (fun h11 kk => ?_)
    obtain ⟨w12, k⟩ := kk
    refine aw_aload_n (i := 0) rfl d_X3_solve_23 0 rfl ?_
    refine aw_iconst (v := 0) d_X3_solve_24 ic_0 ?_
    refine aw_puti (k0 := 5) kc_3 (ws_19 w12) (Nat.le_of_ble_eq_true rfl) tw_328 d_X3_solve_25 rfl rfl ⟨rfl, rfl⟩ ?_
    exact aw_vret rfl d_X3_solve_28 ⟨Nat.le_refl _, Nat.le_refl _⟩ ⟨rfl, k⟩
theorem t_X4_due (d : Nat) (h : Hp_) (w : Wf h) (x1 : Int32) (x3 : Int32) (K : Int32 → Hp_ → Prop) (k : Ci (m_X4_has (d + 0) 0 0) [.ref 17, .int x1] h (fun r3 h1 => Wf h1 ∧ ((¬ r3 = 0 → vp_in x1 300 ∧ (Ci (m_X10_inForce (d + 0) 0 0) [.ref 13, .int ((h_i h1 66 x1.toNatClampNeg) / 1440), .int x3] h1 (fun r8 h6 => Wf h6 ∧ (Ci (m_X10_answer (d + 2) 0 0) [.ref 13, .int r8, .ref 70, .int (x1 * 9)] h6 (fun r11 h9 => Wf h9 ∧ (K r11 h9)))))) ∧ (r3 = 0 → K (-1) h1)))) : Ci (m_X4_due (d + 3) 0 0) [.ref 17, .int x1, .ref 13, .int x3] h K := by
  refine Ct.of (fun _ _ _ => trivial) rfl (Nat.le_of_ble_eq_true rfl) ?_
  show AW (m_X4_due (d + 3) 0 0) 0 0 0 [(0, .ref 17), (1, .int x1), (2, .ref 13), (3, .int x3)] [] h (kI K)
  refine aw_aload_n (i := 0) rfl d_X4_due_0 0 rfl ?_
  refine aw_iload_n (i := 1) rfl d_X4_due_1 1 rfl ?_
  refine aw_Vi 17 [.int x1] [] d_X4_due_2 (cV_X4_has (d + 0) 0 0) kc_4 (ws_17 w) tw_1049 rfl (rr0 (Nat.le_of_ble_eq_true rfl) (Nat.le_of_ble_eq_true rfl)) (Nat.le_of_ble_eq_true rfl) xs0 k (fun r3 h1 kk => ?_)
  obtain ⟨w2, k⟩ := kk
  refine aw_if_ne (tgt := 10) d_X4_due_5 rfl (fun c4 => ?_) (fun c4 => ?_)
  · have k := k.1 c4
    refine aw_aload_n (i := 2) rfl d_X4_due_10 2 rfl ?_
    refine aw_aload_n (i := 2) rfl d_X4_due_11 2 rfl ?_
    refine aw_aload_n (i := 0) rfl d_X4_due_12 0 rfl ?_
    refine aw_getr (k0 := 11) kc_4 (ws_17 w2) (Nat.le_of_ble_eq_true rfl) tw_209 d_X4_due_13 rfl (wr_17_11 w2) ?_
    refine aw_iload_n (i := 1) rfl d_X4_due_16 1 rfl ?_
    obtain ⟨b5, k⟩ := k
    refine aw_iald (ws_66 w2) b5 d_X4_due_17 ?_
    refine aw_sipush (v := 1440) d_X4_due_18 is_1440 ?_
    refine aw_idiv d_X4_due_21 (by decide) ?_
    refine aw_iload_n (i := 3) rfl d_X4_due_22 3 rfl ?_
    refine aw_Vi 13 [.int ((h_i h1 66 x1.toNatClampNeg) / 1440), .int x3] [.ref 13] d_X4_due_23 (cV_X10_inForce (d + 0) 0 0) kc_10 (ws_13 w2) tw_1193 rfl (rr0 (Nat.le_of_ble_eq_true rfl) (Nat.le_of_ble_eq_true rfl)) (Nat.le_of_ble_eq_true rfl) xs0 k (fun r8 h6 kk => ?_)
    obtain ⟨w7, k⟩ := kk
    refine aw_aload_n (i := 0) rfl d_X4_due_26 0 rfl ?_
    refine aw_getr (k0 := 15) kc_4 (ws_17 w7) (Nat.le_of_ble_eq_true rfl) tw_213 d_X4_due_27 rfl (wr_17_15 w7) ?_
    refine aw_iload_n (i := 1) rfl d_X4_due_30 1 rfl ?_
    refine aw_bipush (v := 9) d_X4_due_31 ib_9 ?_
    refine aw_imul d_X4_due_33 ?_
    refine aw_Vi 13 [.int r8, .ref 70, .int (x1 * 9)] [] d_X4_due_34 (cV_X10_answer (d + 2) 0 0) kc_10 (ws_13 w7) tw_1194 rfl (rr0 (Nat.le_of_ble_eq_true rfl) (Nat.le_of_ble_eq_true rfl)) (Nat.le_of_ble_eq_true rfl) xs0 k (fun r11 h9 kk => ?_)
    obtain ⟨w10, k⟩ := kk
    exact aw_iret rfl d_X4_due_37 ⟨Nat.le_refl _, Nat.le_refl _⟩ ⟨_, rfl, k⟩
  · have k := k.2 c4
    refine aw_iconst (v := (-1)) d_X4_due_8 ic_m1 ?_
    exact aw_iret rfl d_X4_due_9 ⟨Nat.le_refl _, Nat.le_refl _⟩ ⟨_, rfl, k⟩
theorem t_X6_isSeen (d : Nat) (h : Hp_) (w : Wf h) (x1 : Int32) (x2 : Int32) (K : Int32 → Hp_ → Prop) (k : Ci (m_X6_hasWatch (d + 0) 0 0) [.ref 20, .int x1] h (fun r3 h1 => Wf h1 ∧ ((r3 = 0 → K 0 h1) ∧ (¬ r3 = 0 → vp_in x1 8 ∧ (vp_in x1 8 ∧ (vp_in x1 8 ∧ (Ci (m_X0_looksAt (d + 2) 0 0) [.ref 12, .int x2, .int (h_i h1 92 x1.toNatClampNeg), .int (h_i h1 93 x1.toNatClampNeg), .int (h_i h1 94 x1.toNatClampNeg), .ref 10] h1 (fun r10 h8 => Wf h8 ∧ ((r10 = 0 → K 0 h8) ∧ (¬ r10 = 0 → K 1 h8)))))))))) : Ci (m_X6_isSeen (d + 3) 0 0) [.ref 20, .int x1, .int x2, .ref 12, .ref 10] h K := by
  refine Ct.of (fun _ _ _ => trivial) rfl (Nat.le_of_ble_eq_true rfl) ?_
  show AW (m_X6_isSeen (d + 3) 0 0) 0 0 0 [(0, .ref 20), (1, .int x1), (2, .int x2), (3, .ref 12), (4, .ref 10)] [] h (kI K)
  refine aw_aload_n (i := 0) rfl d_X6_isSeen_0 0 rfl ?_
  refine aw_iload_n (i := 1) rfl d_X6_isSeen_1 1 rfl ?_
  refine aw_Vi 20 [.int x1] [] d_X6_isSeen_2 (cV_X6_hasWatch (d + 0) 0 0) kc_6 (ws_20 w) tw_1426 rfl (rr0 (Nat.le_of_ble_eq_true rfl) (Nat.le_of_ble_eq_true rfl)) (Nat.le_of_ble_eq_true rfl) xs0 k (fun r3 h1 kk => ?_)
  obtain ⟨w2, k⟩ := kk
  refine aw_if_eq (tgt := 40) d_X6_isSeen_5 rfl (fun c4 => ?_) (fun c4 => ?_)
  · have k := k.1 c4
    refine aw_iconst (v := 0) d_X6_isSeen_40 ic_0 ?_
    exact aw_zret rfl rfl d_X6_isSeen_41 ⟨Nat.le_refl _, Nat.le_refl _⟩ ⟨_, rfl, k⟩
  · have k := k.2 c4
    refine aw_aload_n (i := 3) rfl d_X6_isSeen_8 3 rfl ?_
    refine aw_iload_n (i := 2) rfl d_X6_isSeen_9 2 rfl ?_
    refine aw_aload_n (i := 0) rfl d_X6_isSeen_10 0 rfl ?_
    refine aw_getr (k0 := 0) kc_6 (ws_20 w2) (Nat.le_of_ble_eq_true rfl) tw_363 d_X6_isSeen_11 rfl (wr_20_0 w2) ?_
    refine aw_iload_n (i := 1) rfl d_X6_isSeen_14 1 rfl ?_
    obtain ⟨b5, k⟩ := k
    refine aw_iald (ws_92 w2) b5 d_X6_isSeen_15 ?_
    refine aw_aload_n (i := 0) rfl d_X6_isSeen_16 0 rfl ?_
    refine aw_getr (k0 := 1) kc_6 (ws_20 w2) (Nat.le_of_ble_eq_true rfl) tw_364 d_X6_isSeen_17 rfl (wr_20_1 w2) ?_
    refine aw_iload_n (i := 1) rfl d_X6_isSeen_20 1 rfl ?_
    obtain ⟨b6, k⟩ := k
    refine aw_iald (ws_93 w2) b6 d_X6_isSeen_21 ?_
    refine aw_aload_n (i := 0) rfl d_X6_isSeen_22 0 rfl ?_
    refine aw_getr (k0 := 2) kc_6 (ws_20 w2) (Nat.le_of_ble_eq_true rfl) tw_365 d_X6_isSeen_23 rfl (wr_20_2 w2) ?_
    refine aw_iload_n (i := 1) rfl d_X6_isSeen_26 1 rfl ?_
    obtain ⟨b7, k⟩ := k
    refine aw_iald (ws_94 w2) b7 d_X6_isSeen_27 ?_
    refine aw_aload d_X6_isSeen_28 4 rfl ?_
    refine aw_Vi 12 [.int x2, .int (h_i h1 92 x1.toNatClampNeg), .int (h_i h1 93 x1.toNatClampNeg), .int (h_i h1 94 x1.toNatClampNeg), .ref 10] [] d_X6_isSeen_30 (cV_X0_looksAt (d + 2) 0 0) kc_0 (ws_12 w2) tw_1427 rfl (rr0 (Nat.le_of_ble_eq_true rfl) (Nat.le_of_ble_eq_true rfl)) (Nat.le_of_ble_eq_true rfl) xs0 k (fun r10 h8 kk => ?_)
    obtain ⟨w9, k⟩ := kk
    refine aw_if_eq (tgt := 40) d_X6_isSeen_33 rfl (fun c11 => ?_) (fun c11 => ?_)
    · have k := k.1 c11
      refine aw_iconst (v := 0) d_X6_isSeen_40 ic_0 ?_
      exact aw_zret rfl rfl d_X6_isSeen_41 ⟨Nat.le_refl _, Nat.le_refl _⟩ ⟨_, rfl, k⟩
    · have k := k.2 c11
      refine aw_iconst (v := 1) d_X6_isSeen_36 ic_1 ?_
      refine aw_goto (tgt := 41) d_X6_isSeen_37 rfl ?_
      exact aw_zret rfl rfl d_X6_isSeen_41 ⟨Nat.le_refl _, Nat.le_refl _⟩ ⟨_, rfl, k⟩
theorem t_X6_lend (d : Nat) (h : Hp_) (x1 : Int32) (K : Int32 → Hp_ → Prop) (k : Ci (m_J9_min_7cf53 (d + 0) 0 0) [.int x1, .int 12] h (fun r3 h1 => Wf h1 ∧ (Ci (m_X6_allWanted (d + 0) 0 0) [.ref 20] h1 (fun r6 h4 => Wf h4 ∧ (AW (m_X6_lend (d + 3) 0 0) 0 0 15 [(0, .ref 20), (2, .int r3), (3, .int r6), (4, .int 0)] [] h4 (kI K)))))) : Ci (m_X6_lend (d + 3) 0 0) [.ref 20, .int x1] h K := by
  refine Ct.of (fun _ _ _ => trivial) rfl (Nat.le_of_ble_eq_true rfl) ?_
  show AW (m_X6_lend (d + 3) 0 0) 0 0 0 [(0, .ref 20), (1, .int x1)] [] h (kI K)
  refine aw_iload_n (i := 1) rfl d_X6_lend_0 1 rfl ?_
  refine aw_bipush (v := 12) d_X6_lend_1 ib_12 ?_
  refine aw_Si [.int x1, .int 12] [] d_X6_lend_3 (cS_J9_min_7cf53 (d + 0) 0 0) tw_1468 rfl (rr0 (Nat.le_of_ble_eq_true rfl) (Nat.le_of_ble_eq_true rfl)) (Nat.le_of_ble_eq_true rfl) xs0 k (fun r3 h1 kk => ?_)
  obtain ⟨w2, k⟩ := kk
  refine aw_istore_n (i := 2) rfl [(0, .ref 20), (1, .int x1), (2, .int r3)] d_X6_lend_6 (Nat.le_of_ble_eq_true rfl) rfl rfl ?_
  refine aw_aload_n (i := 0) rfl d_X6_lend_7 0 rfl ?_
  refine aw_Vi 20 [] [] d_X6_lend_8 (cV_X6_allWanted (d + 0) 0 0) kc_6 (ws_20 w2) tw_1520 rfl (rr0 (Nat.le_of_ble_eq_true rfl) (Nat.le_of_ble_eq_true rfl)) (Nat.le_of_ble_eq_true rfl) xs0 k (fun r6 h4 kk => ?_)
  obtain ⟨w5, k⟩ := kk
  refine aw_istore_n (i := 3) rfl [(0, .ref 20), (1, .int x1), (2, .int r3), (3, .int r6)] d_X6_lend_11 (Nat.le_of_ble_eq_true rfl) rfl rfl ?_
  refine aw_iconst (v := 0) d_X6_lend_12 ic_0 ?_
  refine aw_istore [(0, .ref 20), (1, .int x1), (2, .int r3), (3, .int r6), (4, .int 0)] d_X6_lend_13 (Nat.le_of_ble_eq_true rfl) rfl rfl ?_
  exact aw_lvp [0, 2, 3, 4] [(0, .ref 20), (2, .int r3), (3, .int r6), (4, .int 0)] rfl k
theorem t_X6_lend_15 (d : Nat) (h : Hp_) (w : Wf h) (x2 : Int32) (x3 : Int32) (x4 : Int32) (K : Int32 → Hp_ → Prop) (k : (x3 < x4 → AW (m_X6_lend (d + 3) 0 0) 0 0 56 [(0, .ref 20), (2, .int x2), (3, .int x3), (4, .int (x2 - 1))] [] h (kI K)) ∧ (¬ x3 < x4 → (¬ x4 = 0 → vp_in ((x2 * 256) + x4) 3328 ∧ (AW (m_X6_lend (d + 3) 0 0) 0 0 15 [(0, .ref 20), (2, .int x2), (3, .int x3), (4, .int (x4 + 1))] [] (h_im h 102 (((x2 * 256) + x4) : Int32).toNatClampNeg 1000000000) (kI K))) ∧ (x4 = 0 → vp_in ((x2 * 256) + x4) 3328 ∧ (AW (m_X6_lend (d + 3) 0 0) 0 0 15 [(0, .ref 20), (2, .int x2), (3, .int x3), (4, .int (x4 + 1))] [] (h_im h 102 (((x2 * 256) + x4) : Int32).toNatClampNeg 0) (kI K))))) : AW (m_X6_lend (d + 3) 0 0) 0 0 15 [(0, .ref 20), (2, .int x2), (3, .int x3), (4, .int x4)] [] h (kI K) := by
  refine aw_iload d_X6_lend_15 3 rfl ?_
  refine aw_iload_n (i := 3) rfl d_X6_lend_17 2 rfl ?_
  refine aw_icmp_gt (tgt := 51) d_X6_lend_18 rfl (fun c7 => ?_) (fun c7 => ?_)
  · have k := k.1 c7
    refine aw_iload_n (i := 2) rfl d_X6_lend_51 1 rfl ?_
    refine aw_iconst (v := 1) d_X6_lend_52 ic_1 ?_
    refine aw_isub d_X6_lend_53 ?_
    refine aw_istore [(0, .ref 20), (2, .int x2), (3, .int x3), (4, .int (x2 - 1))] d_X6_lend_54 (Nat.le_of_ble_eq_true rfl) rfl rfl ?_
    exact k
  · have k := k.2 c7
    refine aw_aload_n (i := 0) rfl d_X6_lend_21 0 rfl ?_
    refine aw_getr (k0 := 18) kc_6 (ws_20 w) (Nat.le_of_ble_eq_true rfl) tw_383 d_X6_lend_22 rfl (wr_20_18 w) ?_
    refine aw_iload_n (i := 2) rfl d_X6_lend_25 1 rfl ?_
    refine aw_sipush (v := 256) d_X6_lend_26 is_256 ?_
    refine aw_imul d_X6_lend_29 ?_
    refine aw_iload d_X6_lend_30 3 rfl ?_
    refine aw_iadd d_X6_lend_32 ?_
    refine aw_iload d_X6_lend_33 3 rfl ?_
    refine aw_if_ne (tgt := 42) d_X6_lend_35 rfl (fun c8 => ?_) (fun c8 => ?_)
    · have k := k.1 c8
      refine aw_ldc (v := 1000000000) d_X6_lend_42 tw_1524 ?_
      obtain ⟨b9, k⟩ := k
      refine aw_iast (ws_102 w) b9 d_X6_lend_44 ?_
      refine aw_iinc (v := (x4 + 1)) [(0, .ref 20), (2, .int x2), (3, .int x3), (4, .int (x4 + 1))] d_X6_lend_45 3 rfl rfl (Nat.le_of_ble_eq_true rfl) rfl rfl ?_
      refine aw_goto (tgt := 15) d_X6_lend_48 rfl ?_
      exact k
    · have k := k.2 c8
      refine aw_iconst (v := 0) d_X6_lend_38 ic_0 ?_
      refine aw_goto (tgt := 44) d_X6_lend_39 rfl ?_
      obtain ⟨b10, k⟩ := k
      refine aw_iast (ws_102 w) b10 d_X6_lend_44 ?_
      refine aw_iinc (v := (x4 + 1)) [(0, .ref 20), (2, .int x2), (3, .int x3), (4, .int (x4 + 1))] d_X6_lend_45 3 rfl rfl (Nat.le_of_ble_eq_true rfl) rfl rfl ?_
      refine aw_goto (tgt := 15) d_X6_lend_48 rfl ?_
      exact k
theorem t_X6_lend_56 (d : Nat) (h : Hp_) (w : Wf h) (x2 : Int32) (x3 : Int32) (x4 : Int32) (K : Int32 → Hp_ → Prop) (k : (x4 < 0 → vp_in x3 3328 ∧ (((h_i h 102 x3.toNatClampNeg) < 1000000000 → Cv (m_X6_traceLending (d + 2) 0 0) [.ref 20, .int x2, .int x3] h (fun h14 => Wf h14 ∧ (K 1 h14))) ∧ (¬ (h_i h 102 x3.toNatClampNeg) < 1000000000 → K 0 h))) ∧ (¬ x4 < 0 → AW (m_X6_lend (d + 3) 0 0) 0 0 64 [(0, .ref 20), (2, .int x2), (3, .int x3), (4, .int x4), (5, .int 0)] [] h (kI K))) : AW (m_X6_lend (d + 3) 0 0) 0 0 56 [(0, .ref 20), (2, .int x2), (3, .int x3), (4, .int x4)] [] h (kI K) := by
  refine aw_iload d_X6_lend_56 3 rfl ?_
  refine aw_if_lt (tgt := 104) d_X6_lend_58 rfl (fun c11 => ?_) (fun c11 => ?_)
  · have k := k.1 c11
    refine aw_aload_n (i := 0) rfl d_X6_lend_104 0 rfl ?_
    refine aw_getr (k0 := 18) kc_6 (ws_20 w) (Nat.le_of_ble_eq_true rfl) tw_383 d_X6_lend_105 rfl (wr_20_18 w) ?_
    refine aw_iload_n (i := 3) rfl d_X6_lend_108 2 rfl ?_
    obtain ⟨b12, k⟩ := k
    refine aw_iald (ws_102 w) b12 d_X6_lend_109 ?_
    refine aw_ldc (v := 1000000000) d_X6_lend_110 tw_1524 ?_
    refine aw_icmp_lt (tgt := 117) d_X6_lend_112 rfl (fun c13 => ?_) (fun c13 => ?_)
    · have k := k.1 c13
      refine aw_aload_n (i := 0) rfl d_X6_lend_117 0 rfl ?_
      refine aw_iload_n (i := 2) rfl d_X6_lend_118 1 rfl ?_
      refine aw_iload_n (i := 3) rfl d_X6_lend_119 2 rfl ?_
      refine aw_Vv 20 [.int x2, .int x3] [] d_X6_lend_120 (cV_X6_traceLending (d + 2) 0 0) kc_6 (ws_20 w) tw_1533 rfl (rr0 (Nat.le_of_ble_eq_true rfl) (Nat.le_of_ble_eq_true rfl)) (Nat.le_of_ble_eq_true rfl) xs0 k (fun h14 kk => ?_)
      obtain ⟨w15, k⟩ := kk
      refine aw_iconst (v := 1) d_X6_lend_123 ic_1 ?_
      exact aw_zret rfl rfl d_X6_lend_124 ⟨Nat.le_refl _, Nat.le_refl _⟩ ⟨_, rfl, k⟩
    · have k := k.2 c13
      refine aw_iconst (v := 0) d_X6_lend_115 ic_0 ?_
      exact aw_zret rfl rfl d_X6_lend_116 ⟨Nat.le_refl _, Nat.le_refl _⟩ ⟨_, rfl, k⟩
  · have k := k.2 c11
    refine aw_iconst (v := 0) d_X6_lend_61 ic_0 ?_
    refine aw_istore [(0, .ref 20), (2, .int x2), (3, .int x3), (4, .int x4), (5, .int 0)] d_X6_lend_62 (Nat.le_of_ble_eq_true rfl) rfl rfl ?_
    exact k
theorem t_X6_lend_64 (d : Nat) (h : Hp_) (w : Wf h) (x2 : Int32) (x3 : Int32) (x4 : Int32) (x5 : Int32) (K : Int32 → Hp_ → Prop) (k : (x3 < x5 → AW (m_X6_lend (d + 3) 0 0) 0 0 56 [(0, .ref 20), (2, .int x2), (3, .int x3), (4, .int (x4 + (-1)))] [] h (kI K)) ∧ (¬ x3 < x5 → Ci (m_X6_leastCost (d + 2) 0 0) [.ref 20, .int x4, .int x5] h (fun r20 h18 => Wf h18 ∧ (vp_in ((x4 * 256) + x5) 3328 ∧ (AW (m_X6_lend (d + 3) 0 0) 0 0 64 [(0, .ref 20), (2, .int x2), (3, .int x3), (4, .int x4), (5, .int (x5 + 1))] [] (h_im h18 102 (((x4 * 256) + x5) : Int32).toNatClampNeg r20) (kI K)))))) : AW (m_X6_lend (d + 3) 0 0) 0 0 64 [(0, .ref 20), (2, .int x2), (3, .int x3), (4, .int x4), (5, .int x5)] [] h (kI K) := by
  refine aw_iload d_X6_lend_64 4 rfl ?_
  refine aw_iload_n (i := 3) rfl d_X6_lend_66 2 rfl ?_
  refine aw_icmp_gt (tgt := 98) d_X6_lend_67 rfl (fun c17 => ?_) (fun c17 => ?_)
  · have k := k.1 c17
    refine aw_iinc (v := (x4 + (-1))) [(0, .ref 20), (2, .int x2), (3, .int x3), (4, .int (x4 + (-1))), (5, .int x5)] d_X6_lend_98 3 rfl rfl (Nat.le_of_ble_eq_true rfl) rfl rfl ?_
    refine aw_goto (tgt := 56) d_X6_lend_101 rfl ?_
    exact aw_lvp [0, 1, 2, 3] [(0, .ref 20), (2, .int x2), (3, .int x3), (4, .int (x4 + (-1)))] rfl k
  · have k := k.2 c17
    refine aw_aload_n (i := 0) rfl d_X6_lend_70 0 rfl ?_
    refine aw_getr (k0 := 18) kc_6 (ws_20 w) (Nat.le_of_ble_eq_true rfl) tw_383 d_X6_lend_71 rfl (wr_20_18 w) ?_
    refine aw_iload d_X6_lend_74 3 rfl ?_
    refine aw_sipush (v := 256) d_X6_lend_76 is_256 ?_
    refine aw_imul d_X6_lend_79 ?_
    refine aw_iload d_X6_lend_80 4 rfl ?_
    refine aw_iadd d_X6_lend_82 ?_
    refine aw_aload_n (i := 0) rfl d_X6_lend_83 0 rfl ?_
    refine aw_iload d_X6_lend_84 3 rfl ?_
    refine aw_iload d_X6_lend_86 4 rfl ?_
    refine aw_Vi 20 [.int x4, .int x5] [.int ((x4 * 256) + x5), .ref 102] d_X6_lend_88 (cV_X6_leastCost (d + 2) 0 0) kc_6 (ws_20 w) tw_1525 rfl (rr0 (Nat.le_of_ble_eq_true rfl) (Nat.le_of_ble_eq_true rfl)) (Nat.le_of_ble_eq_true rfl) xs0 k (fun r20 h18 kk => ?_)
    obtain ⟨w19, k⟩ := kk
    obtain ⟨b21, k⟩ := k
    refine aw_iast (ws_102 w19) b21 d_X6_lend_91 ?_
    refine aw_iinc (v := (x5 + 1)) [(0, .ref 20), (2, .int x2), (3, .int x3), (4, .int x4), (5, .int (x5 + 1))] d_X6_lend_92 4 rfl rfl (Nat.le_of_ble_eq_true rfl) rfl rfl ?_
    refine aw_goto (tgt := 64) d_X6_lend_95 rfl ?_
    exact k
theorem t_X11_ill (d : Nat) (h : Hp_) (w : Wf h) (x1 : Int32) (x2 : Int32) (K : Int32 → Hp_ → Prop) (k : Cr (m_X11_manOf (d + 1) 0 0) [.ref 0, .int x1] h (fun o5 h1 => Wf h1 ∧ ((o5 = none → K 0 h1) ∧ (∀ b4, o5 = some b4 → h_sh h1 b4 = some (12, 17) ∧ 400 ≤ b4 ∧ ((¬ (h_i h1 b4 4) = 4 → (¬ x2 = 0 → (x2 = 0 → Cv (m_X11_setFree (d + 1) 0 0) [.ref 0, .ref b4] h1 (fun h11 => Wf h11 ∧ (K 1 h11))) ∧ (¬ x2 = 0 → Cv (m_X11_drop (d + 2) 0 0) [.ref 0, .ref b4, .int 4] h1 (fun h14 => Wf h14 ∧ h_sh h14 b4 = some (12, 17) ∧ (Cv (m_X11_putAt (d + 0) 0 0) [.ref 0, .ref b4, .int (h_i h14 b4 3)] (h_im (h_im (h_im h14 b4 4 4) b4 6 (-1)) b4 7 (-1)) (fun h18 => Wf h18 ∧ (K 1 h18)))))) ∧ (x2 = 0 → K 0 h1)) ∧ ((h_i h1 b4 4) = 4 → (¬ x2 = 1 → (x2 = 0 → Cv (m_X11_setFree (d + 1) 0 0) [.ref 0, .ref b4] h1 (fun h23 => Wf h23 ∧ (K 1 h23))) ∧ (¬ x2 = 0 → Cv (m_X11_drop (d + 2) 0 0) [.ref 0, .ref b4, .int 4] h1 (fun h26 => Wf h26 ∧ h_sh h26 b4 = some (12, 17) ∧ (Cv (m_X11_putAt (d + 0) 0 0) [.ref 0, .ref b4, .int (h_i h26 b4 3)] (h_im (h_im (h_im h26 b4 4 4) b4 6 (-1)) b4 7 (-1)) (fun h30 => Wf h30 ∧ (K 1 h30)))))) ∧ (x2 = 1 → K 0 h1))))))) : Ci (m_X11_ill (d + 3) 0 0) [.ref 0, .int x1, .int x2] h K := by
  refine Ct.of (fun _ _ _ => trivial) rfl (Nat.le_of_ble_eq_true rfl) ?_
  show AW (m_X11_ill (d + 3) 0 0) 0 0 0 [(0, .ref 0), (1, .int x1), (2, .int x2)] [] h (kI K)
  refine aw_aload_n (i := 0) rfl d_X11_ill_0 0 rfl ?_
  refine aw_iload_n (i := 1) rfl d_X11_ill_1 1 rfl ?_
  refine aw_Vr 0 [.int x1] [] d_X11_ill_2 (cV_X11_manOf (d + 1) 0 0) kc_11 (ws_0 w) tw_904 rfl (rr0 (Nat.le_of_ble_eq_true rfl) (Nat.le_of_ble_eq_true rfl)) (Nat.le_of_ble_eq_true rfl) xs0 k (fun h1 kk => ?_) (fun b4 h1 kk => ?_)
  · obtain ⟨w2, k⟩ := kk
    have k := k.1 rfl
    refine aw_astore_nN (i := 3) rfl [(0, .ref 0), (1, .int x1), (2, .int x2), (3, .null)] d_X11_ill_5 (Nat.le_of_ble_eq_true rfl) rfl rfl ?_
    refine aw_aload_nN (i := 3) rfl d_X11_ill_6 3 rfl ?_
    refine aw_ifnullN (tgt := 27) d_X11_ill_7 rfl ?_
    refine aw_iconst (v := 0) d_X11_ill_27 ic_0 ?_
    exact aw_zret rfl rfl d_X11_ill_28 ⟨Nat.le_refl _, Nat.le_refl _⟩ ⟨_, rfl, k⟩
  · obtain ⟨w2, k⟩ := kk
    obtain ⟨q6, l7, k⟩ := k.2 b4 rfl
    refine aw_astore_n (i := 3) rfl [(0, .ref 0), (1, .int x1), (2, .int x2), (3, .ref b4)] d_X11_ill_5 (Nat.le_of_ble_eq_true rfl) rfl rfl ?_
    refine aw_aload_n (i := 3) rfl d_X11_ill_6 3 rfl ?_
    refine aw_ifnull d_X11_ill_7 ?_
    refine aw_iload_n (i := 2) rfl d_X11_ill_10 2 rfl ?_
    refine aw_aload_n (i := 3) rfl d_X11_ill_11 3 rfl ?_
    refine aw_geti (k0 := 4) kc_2 (q6) (Nat.le_of_ble_eq_true rfl) tw_581 d_X11_ill_12 rfl ?_
    refine aw_iconst (v := 4) d_X11_ill_15 ic_4 ?_
    refine aw_icmp_ne (tgt := 23) d_X11_ill_16 rfl (fun c8 => ?_) (fun c8 => ?_)
    · have k := k.1 c8
      refine aw_iconst (v := 0) d_X11_ill_23 ic_0 ?_
      refine aw_icmp_ne (tgt := 29) d_X11_ill_24 rfl (fun c9 => ?_) (fun c9 => ?_)
      · have k := k.1 c9
        refine aw_iload_n (i := 2) rfl d_X11_ill_29 2 rfl ?_
        refine aw_if_eq (tgt := 66) d_X11_ill_30 rfl (fun c10 => ?_) (fun c10 => ?_)
        · have k := k.1 c10
          refine aw_aload_n (i := 0) rfl d_X11_ill_66 0 rfl ?_
          refine aw_aload_n (i := 3) rfl d_X11_ill_67 3 rfl ?_
          refine aw_Vv 0 [.ref b4] [] d_X11_ill_68 (cV_X11_setFree (d + 1) 0 0) kc_11 (ws_0 w2) tw_963 rfl (rr0 (Nat.le_of_ble_eq_true rfl) (Nat.le_of_ble_eq_true rfl)) (Nat.le_of_ble_eq_true rfl) xs0 k (fun h11 kk => ?_)
          obtain ⟨w12, k⟩ := kk
          refine aw_iconst (v := 1) d_X11_ill_71 ic_1 ?_
          exact aw_zret rfl rfl d_X11_ill_72 ⟨Nat.le_refl _, Nat.le_refl _⟩ ⟨_, rfl, k⟩
        · have k := k.2 c10
          refine aw_aload_n (i := 0) rfl d_X11_ill_33 0 rfl ?_
          refine aw_aload_n (i := 3) rfl d_X11_ill_34 3 rfl ?_
          refine aw_iconst (v := 4) d_X11_ill_35 ic_4 ?_
          refine aw_Vv 0 [.ref b4, .int 4] [] d_X11_ill_36 (cV_X11_drop (d + 2) 0 0) kc_11 (ws_0 w2) tw_975 rfl (rr0 (Nat.le_of_ble_eq_true rfl) (Nat.le_of_ble_eq_true rfl)) (Nat.le_of_ble_eq_true rfl) xs0 k (fun h14 kk => ?_)
          obtain ⟨w15, q17, k⟩ := kk
          refine aw_aload_n (i := 3) rfl d_X11_ill_39 3 rfl ?_
          refine aw_iconst (v := 4) d_X11_ill_40 ic_4 ?_
          refine aw_puti (k0 := 4) kc_2 (q17) (Nat.le_of_ble_eq_true rfl) tw_581 d_X11_ill_41 rfl rfl nf_i ?_
          refine aw_aload_n (i := 3) rfl d_X11_ill_44 3 rfl ?_
          refine aw_iconst (v := (-1)) d_X11_ill_45 ic_m1 ?_
          refine aw_puti (k0 := 6) kc_2 (q17) (Nat.le_of_ble_eq_true rfl) tw_585 d_X11_ill_46 rfl rfl nf_i ?_
          refine aw_aload_n (i := 3) rfl d_X11_ill_49 3 rfl ?_
          refine aw_iconst (v := (-1)) d_X11_ill_50 ic_m1 ?_
          refine aw_puti (k0 := 7) kc_2 (q17) (Nat.le_of_ble_eq_true rfl) tw_587 d_X11_ill_51 rfl rfl nf_i ?_
          refine aw_aload_n (i := 0) rfl d_X11_ill_54 0 rfl ?_
          refine aw_aload_n (i := 3) rfl d_X11_ill_55 3 rfl ?_
          refine aw_aload_n (i := 3) rfl d_X11_ill_56 3 rfl ?_
          refine aw_geti (k0 := 3) kc_2 (q17) (Nat.le_of_ble_eq_true rfl) tw_579 d_X11_ill_57 rfl ?_
          refine aw_vi (v2 := (h_i h14 b4 3)) ((hi_o (h_im (h_im h14 b4 4 4) b4 6 (-1)) b4 7 (-1) 3 (by decide)).trans ((hi_o (h_im h14 b4 4 4) b4 6 (-1) 3 (by decide)).trans ((hi_o h14 b4 4 4 3 (by decide)).trans (rfl)))) ?_
          refine aw_Vv 0 [.ref b4, .int (h_i h14 b4 3)] [] d_X11_ill_60 (cV_X11_putAt (d + 0) 0 0) kc_11 (ws_0 w15) tw_634 rfl (rr0 (Nat.le_of_ble_eq_true rfl) (Nat.le_of_ble_eq_true rfl)) (Nat.le_of_ble_eq_true rfl) xs0 k (fun h18 kk => ?_)
          obtain ⟨w19, k⟩ := kk
          refine aw_goto (tgt := 71) d_X11_ill_63 rfl ?_
          refine aw_iconst (v := 1) d_X11_ill_71 ic_1 ?_
          exact aw_zret rfl rfl d_X11_ill_72 ⟨Nat.le_refl _, Nat.le_refl _⟩ ⟨_, rfl, k⟩
      · have k := k.2 c9
        refine aw_iconst (v := 0) d_X11_ill_27 ic_0 ?_
        exact aw_zret rfl rfl d_X11_ill_28 ⟨Nat.le_refl _, Nat.le_refl _⟩ ⟨_, rfl, k⟩
    · have k := k.2 c8
      refine aw_iconst (v := 1) d_X11_ill_19 ic_1 ?_
      refine aw_goto (tgt := 24) d_X11_ill_20 rfl ?_
      refine aw_icmp_ne (tgt := 29) d_X11_ill_24 rfl (fun c21 => ?_) (fun c21 => ?_)
      · have k := k.1 c21
        refine aw_iload_n (i := 2) rfl d_X11_ill_29 2 rfl ?_
        refine aw_if_eq (tgt := 66) d_X11_ill_30 rfl (fun c22 => ?_) (fun c22 => ?_)
        · have k := k.1 c22
          refine aw_aload_n (i := 0) rfl d_X11_ill_66 0 rfl ?_
          refine aw_aload_n (i := 3) rfl d_X11_ill_67 3 rfl ?_
          refine aw_Vv 0 [.ref b4] [] d_X11_ill_68 (cV_X11_setFree (d + 1) 0 0) kc_11 (ws_0 w2) tw_963 rfl (rr0 (Nat.le_of_ble_eq_true rfl) (Nat.le_of_ble_eq_true rfl)) (Nat.le_of_ble_eq_true rfl) xs0 k (fun h23 kk => ?_)
          obtain ⟨w24, k⟩ := kk
          refine aw_iconst (v := 1) d_X11_ill_71 ic_1 ?_
          exact aw_zret rfl rfl d_X11_ill_72 ⟨Nat.le_refl _, Nat.le_refl _⟩ ⟨_, rfl, k⟩
        · have k := k.2 c22
          refine aw_aload_n (i := 0) rfl d_X11_ill_33 0 rfl ?_
          refine aw_aload_n (i := 3) rfl d_X11_ill_34 3 rfl ?_
          refine aw_iconst (v := 4) d_X11_ill_35 ic_4 ?_
          refine aw_Vv 0 [.ref b4, .int 4] [] d_X11_ill_36 (cV_X11_drop (d + 2) 0 0) kc_11 (ws_0 w2) tw_975 rfl (rr0 (Nat.le_of_ble_eq_true rfl) (Nat.le_of_ble_eq_true rfl)) (Nat.le_of_ble_eq_true rfl) xs0 k (fun h26 kk => ?_)
          obtain ⟨w27, q29, k⟩ := kk
          refine aw_aload_n (i := 3) rfl d_X11_ill_39 3 rfl ?_
          refine aw_iconst (v := 4) d_X11_ill_40 ic_4 ?_
          refine aw_puti (k0 := 4) kc_2 (q29) (Nat.le_of_ble_eq_true rfl) tw_581 d_X11_ill_41 rfl rfl nf_i ?_
          refine aw_aload_n (i := 3) rfl d_X11_ill_44 3 rfl ?_
          refine aw_iconst (v := (-1)) d_X11_ill_45 ic_m1 ?_
          refine aw_puti (k0 := 6) kc_2 (q29) (Nat.le_of_ble_eq_true rfl) tw_585 d_X11_ill_46 rfl rfl nf_i ?_
          refine aw_aload_n (i := 3) rfl d_X11_ill_49 3 rfl ?_
          refine aw_iconst (v := (-1)) d_X11_ill_50 ic_m1 ?_
          refine aw_puti (k0 := 7) kc_2 (q29) (Nat.le_of_ble_eq_true rfl) tw_587 d_X11_ill_51 rfl rfl nf_i ?_
          refine aw_aload_n (i := 0) rfl d_X11_ill_54 0 rfl ?_
          refine aw_aload_n (i := 3) rfl d_X11_ill_55 3 rfl ?_
          refine aw_aload_n (i := 3) rfl d_X11_ill_56 3 rfl ?_
          refine aw_geti (k0 := 3) kc_2 (q29) (Nat.le_of_ble_eq_true rfl) tw_579 d_X11_ill_57 rfl ?_
          refine aw_vi (v2 := (h_i h26 b4 3)) ((hi_o (h_im (h_im h26 b4 4 4) b4 6 (-1)) b4 7 (-1) 3 (by decide)).trans ((hi_o (h_im h26 b4 4 4) b4 6 (-1) 3 (by decide)).trans ((hi_o h26 b4 4 4 3 (by decide)).trans (rfl)))) ?_
          refine aw_Vv 0 [.ref b4, .int (h_i h26 b4 3)] [] d_X11_ill_60 (cV_X11_putAt (d + 0) 0 0) kc_11 (ws_0 w27) tw_634 rfl (rr0 (Nat.le_of_ble_eq_true rfl) (Nat.le_of_ble_eq_true rfl)) (Nat.le_of_ble_eq_true rfl) xs0 k (fun h30 kk => ?_)
          obtain ⟨w31, k⟩ := kk
          refine aw_goto (tgt := 71) d_X11_ill_63 rfl ?_
          refine aw_iconst (v := 1) d_X11_ill_71 ic_1 ?_
          exact aw_zret rfl rfl d_X11_ill_72 ⟨Nat.le_refl _, Nat.le_refl _⟩ ⟨_, rfl, k⟩
      · have k := k.2 c21
        refine aw_iconst (v := 0) d_X11_ill_27 ic_0 ?_
        exact aw_zret rfl rfl d_X11_ill_28 ⟨Nat.le_refl _, Nat.le_refl _⟩ ⟨_, rfl, k⟩
theorem t_X11_goesToMeet (d : Nat) (h : Hp_) (x1 : Nat) (hs_x1 : h_sh h x1 = some (12, 17)) (lb_x1 : 400 ≤ x1) (x2 : Int32) (K : Int32 → Hp_ → Prop) (k : Ci (m_X0_placeOf (d + 0) 0 0) [.int x2] h (fun r3 h1 => Wf h1 ∧ h_sh h1 x1 = some (12, 17) ∧ (Ci (m_X9_minutes (d + 1) 0 0) [.ref 10, .int (h_i h1 x1 5), .int r3] h1 (fun r7 h5 => Wf h5 ∧ h_sh h5 x1 = some (12, 17) ∧ ((¬ r7 = (-1) → Ci (m_X11_setsOut (d + 2) 0 0) [.ref 0, .ref x1, .int r3] h5 (fun r12 h10 => Wf h10 ∧ h_sh h10 x1 = some (12, 17) ∧ ((¬ r12 = 0 → K 1 h10) ∧ (r12 = 0 → Ci (m_X11_waitsAtPoint (d + 2) 0 0) [.ref 0, .ref x1, .int x2] h10 (fun r17 h15 => Wf h15 ∧ ((r17 = 0 → K 0 h15) ∧ (¬ r17 = 0 → K 1 h15))))))) ∧ (r7 = (-1) → Cv (m_X11_settleRow (d + 1) 0 0) [.ref 0, .ref x1, .int 2, .int 2] h5 (fun h19 => Wf h19 ∧ (K 0 h19)))))))) : Ci (m_X11_goesToMeet (d + 3) 0 0) [.ref 0, .ref x1, .int x2] h K := by
  refine Ct.of (fun _ _ _ => trivial) rfl (Nat.le_of_ble_eq_true rfl) ?_
  show AW (m_X11_goesToMeet (d + 3) 0 0) 0 0 0 [(0, .ref 0), (1, .ref x1), (2, .int x2)] [] h (kI K)
  refine aw_iload_n (i := 2) rfl d_X11_goesToMeet_0 2 rfl ?_
  refine aw_Si [.int x2] [] d_X11_goesToMeet_1 (cS_X0_placeOf (d + 0) 0 0) tw_921 rfl (rr0 (Nat.le_of_ble_eq_true rfl) (Nat.le_of_ble_eq_true rfl)) (Nat.le_of_ble_eq_true rfl) xs0 k (fun r3 h1 kk => ?_)
  obtain ⟨w2, q4, k⟩ := kk
  refine aw_istore_n (i := 3) rfl [(0, .ref 0), (1, .ref x1), (2, .int x2), (3, .int r3)] d_X11_goesToMeet_4 (Nat.le_of_ble_eq_true rfl) rfl rfl ?_
  refine aw_aload_n (i := 0) rfl d_X11_goesToMeet_5 0 rfl ?_
  refine aw_getr (k0 := 1) kc_11 (ws_0 w2) (Nat.le_of_ble_eq_true rfl) tw_488 d_X11_goesToMeet_6 rfl (wr_0_1 w2) ?_
  refine aw_aload_n (i := 1) rfl d_X11_goesToMeet_9 1 rfl ?_
  refine aw_geti (k0 := 5) kc_2 (q4) (Nat.le_of_ble_eq_true rfl) tw_583 d_X11_goesToMeet_10 rfl ?_
  refine aw_iload_n (i := 3) rfl d_X11_goesToMeet_13 3 rfl ?_
  refine aw_Vi 10 [.int (h_i h1 x1 5), .int r3] [] d_X11_goesToMeet_14 (cV_X9_minutes (d + 1) 0 0) kc_9 (ws_10 w2) tw_557 rfl (rr0 (Nat.le_of_ble_eq_true rfl) (Nat.le_of_ble_eq_true rfl)) (Nat.le_of_ble_eq_true rfl) xs0 k (fun r7 h5 kk => ?_)
  obtain ⟨w6, q8, k⟩ := kk
  refine aw_iconst (v := (-1)) d_X11_goesToMeet_17 ic_m1 ?_
  refine aw_icmp_ne (tgt := 30) d_X11_goesToMeet_18 rfl (fun c9 => ?_) (fun c9 => ?_)
  · have k := k.1 c9
    refine aw_aload_n (i := 0) rfl d_X11_goesToMeet_30 0 rfl ?_
    refine aw_aload_n (i := 1) rfl d_X11_goesToMeet_31 1 rfl ?_
    refine aw_iload_n (i := 3) rfl d_X11_goesToMeet_32 3 rfl ?_
    refine aw_Vi 0 [.ref x1, .int r3] [] d_X11_goesToMeet_33 (cV_X11_setsOut (d + 2) 0 0) kc_11 (ws_0 w6) tw_951 rfl (rr0 (Nat.le_of_ble_eq_true rfl) (Nat.le_of_ble_eq_true rfl)) (Nat.le_of_ble_eq_true rfl) xs0 k (fun r12 h10 kk => ?_)
    obtain ⟨w11, q13, k⟩ := kk
    refine aw_if_ne (tgt := 48) d_X11_goesToMeet_36 rfl (fun c14 => ?_) (fun c14 => ?_)
    · have k := k.1 c14
      refine aw_iconst (v := 1) d_X11_goesToMeet_48 ic_1 ?_
      refine aw_goto (tgt := 53) d_X11_goesToMeet_49 rfl ?_
      exact aw_zret rfl rfl d_X11_goesToMeet_53 ⟨Nat.le_refl _, Nat.le_refl _⟩ ⟨_, rfl, k⟩
    · have k := k.2 c14
      refine aw_aload_n (i := 0) rfl d_X11_goesToMeet_39 0 rfl ?_
      refine aw_aload_n (i := 1) rfl d_X11_goesToMeet_40 1 rfl ?_
      refine aw_iload_n (i := 2) rfl d_X11_goesToMeet_41 2 rfl ?_
      refine aw_Vi 0 [.ref x1, .int x2] [] d_X11_goesToMeet_42 (cV_X11_waitsAtPoint (d + 2) 0 0) kc_11 (ws_0 w11) tw_955 rfl (rr0 (Nat.le_of_ble_eq_true rfl) (Nat.le_of_ble_eq_true rfl)) (Nat.le_of_ble_eq_true rfl) xs0 k (fun r17 h15 kk => ?_)
      obtain ⟨w16, k⟩ := kk
      refine aw_if_eq (tgt := 52) d_X11_goesToMeet_45 rfl (fun c18 => ?_) (fun c18 => ?_)
      · have k := k.1 c18
        refine aw_iconst (v := 0) d_X11_goesToMeet_52 ic_0 ?_
        exact aw_zret rfl rfl d_X11_goesToMeet_53 ⟨Nat.le_refl _, Nat.le_refl _⟩ ⟨_, rfl, k⟩
      · have k := k.2 c18
        refine aw_iconst (v := 1) d_X11_goesToMeet_48 ic_1 ?_
        refine aw_goto (tgt := 53) d_X11_goesToMeet_49 rfl ?_
        exact aw_zret rfl rfl d_X11_goesToMeet_53 ⟨Nat.le_refl _, Nat.le_refl _⟩ ⟨_, rfl, k⟩
  · have k := k.2 c9
    refine aw_aload_n (i := 0) rfl d_X11_goesToMeet_21 0 rfl ?_
    refine aw_aload_n (i := 1) rfl d_X11_goesToMeet_22 1 rfl ?_
    refine aw_iconst (v := 2) d_X11_goesToMeet_23 ic_2 ?_
    refine aw_iconst (v := 2) d_X11_goesToMeet_24 ic_2 ?_
    refine aw_Vv 0 [.ref x1, .int 2, .int 2] [] d_X11_goesToMeet_25 (cV_X11_settleRow (d + 1) 0 0) kc_11 (ws_0 w6) tw_943 rfl (rr0 (Nat.le_of_ble_eq_true rfl) (Nat.le_of_ble_eq_true rfl)) (Nat.le_of_ble_eq_true rfl) xs0 k (fun h19 kk => ?_)
    obtain ⟨w20, k⟩ := kk
    refine aw_iconst (v := 0) d_X11_goesToMeet_28 ic_0 ?_
    exact aw_zret rfl rfl d_X11_goesToMeet_29 ⟨Nat.le_refl _, Nat.le_refl _⟩ ⟨_, rfl, k⟩
theorem t_X11_goHome (d : Nat) (h : Hp_) (w : Wf h) (x1 : Nat) (hs_x1 : h_sh h x1 = some (12, 17)) (lb_x1 : 400 ≤ x1) (K : Hp_ → Prop) (k : Ci (m_X11_setsOut (d + 2) 0 0) [.ref 0, .ref x1, .int (h_i h x1 3)] (h_im h x1 4 2) (fun r3 h1 => Wf h1 ∧ h_sh h1 x1 = some (12, 17) ∧ ((¬ r3 = 0 → K h1) ∧ (r3 = 0 → Cv (m_X11_putAt (d + 0) 0 0) [.ref 0, .ref x1, .int (h_i h1 x1 3)] h1 (fun h6 => Wf h6 ∧ h_sh h6 x1 = some (12, 17) ∧ (Cv (m_X11_setFree (d + 1) 0 0) [.ref 0, .ref x1] h6 (fun h10 => Wf h10 ∧ (K h10)))))))) : Cv (m_X11_goHome (d + 3) 0 0) [.ref 0, .ref x1] h K := by
  refine Ct.of (fun _ _ _ => trivial) rfl (Nat.le_of_ble_eq_true rfl) ?_
  show AW (m_X11_goHome (d + 3) 0 0) 0 0 0 [(0, .ref 0), (1, .ref x1)] [] h (kV K)
  refine aw_aload_n (i := 1) rfl d_X11_goHome_0 1 rfl ?_
  refine aw_iconst (v := 2) d_X11_goHome_1 ic_2 ?_
  refine aw_puti (k0 := 4) kc_2 (hs_x1) (Nat.le_of_ble_eq_true rfl) tw_581 d_X11_goHome_2 rfl rfl nf_i ?_
  refine aw_aload_n (i := 0) rfl d_X11_goHome_5 0 rfl ?_
  refine aw_aload_n (i := 1) rfl d_X11_goHome_6 1 rfl ?_
  refine aw_aload_n (i := 1) rfl d_X11_goHome_7 1 rfl ?_
  refine aw_geti (k0 := 3) kc_2 (hs_x1) (Nat.le_of_ble_eq_true rfl) tw_579 d_X11_goHome_8 rfl ?_
  refine aw_vi (v2 := (h_i h x1 3)) ((hi_o h x1 4 2 3 (by decide)).trans (rfl)) ?_
  refine aw_Vi 0 [.ref x1, .int (h_i h x1 3)] [] d_X11_goHome_11 (cV_X11_setsOut (d + 2) 0 0) kc_11 (ws_0 w) tw_951 rfl (rr0 (Nat.le_of_ble_eq_true rfl) (Nat.le_of_ble_eq_true rfl)) (Nat.le_of_ble_eq_true rfl) xs0 k (fun r3 h1 kk => ?_)
  obtain ⟨w2, q4, k⟩ := kk
  refine aw_if_ne (tgt := 31) d_X11_goHome_14 rfl (fun c5 => ?_) (fun c5 => ?_)
  · have k := k.1 c5
    exact aw_vret rfl d_X11_goHome_31 ⟨Nat.le_refl _, Nat.le_refl _⟩ ⟨rfl, k⟩
  · have k := k.2 c5
    refine aw_aload_n (i := 0) rfl d_X11_goHome_17 0 rfl ?_
    refine aw_aload_n (i := 1) rfl d_X11_goHome_18 1 rfl ?_
    refine aw_aload_n (i := 1) rfl d_X11_goHome_19 1 rfl ?_
    refine aw_geti (k0 := 3) kc_2 (q4) (Nat.le_of_ble_eq_true rfl) tw_579 d_X11_goHome_20 rfl ?_
    refine aw_Vv 0 [.ref x1, .int (h_i h1 x1 3)] [] d_X11_goHome_23 (cV_X11_putAt (d + 0) 0 0) kc_11 (ws_0 w2) tw_634 rfl (rr0 (Nat.le_of_ble_eq_true rfl) (Nat.le_of_ble_eq_true rfl)) (Nat.le_of_ble_eq_true rfl) xs0 k (fun h6 kk => ?_)
    obtain ⟨w7, q9, k⟩ := kk
    refine aw_aload_n (i := 0) rfl d_X11_goHome_26 0 rfl ?_
    refine aw_aload_n (i := 1) rfl d_X11_goHome_27 1 rfl ?_
    refine aw_Vv 0 [.ref x1] [] d_X11_goHome_28 (cV_X11_setFree (d + 1) 0 0) kc_11 (ws_0 w7) tw_963 rfl (rr0 (Nat.le_of_ble_eq_true rfl) (Nat.le_of_ble_eq_true rfl)) (Nat.le_of_ble_eq_true rfl) xs0 k (fun h10 kk => ?_)
    obtain ⟨w11, k⟩ := kk
    exact aw_vret rfl d_X11_goHome_31 ⟨Nat.le_refl _, Nat.le_refl _⟩ ⟨rfl, k⟩
theorem t_X11_was (d : Nat) (h : Hp_) (w : Wf h) (x1 : Int32) (x2 : Int32) (K : Int32 → Hp_ → Prop) (k : Ci (m_X11_isMan (d + 2) 0 0) [.ref 0, .int x1] h (fun r3 h1 => Wf h1 ∧ ((r3 = 0 → K (-1) h1) ∧ (¬ r3 = 0 → Ci (m_X11_isKnown (d + 1) 0 0) [.ref 0, .int x2] h1 (fun r7 h5 => Wf h5 ∧ ((¬ r7 = 0 → Ci (m_X11_placeSign (d + 0) 0 0) [.ref 0, .int x1, .int x2] h5 (fun r11 h9 => Wf h9 ∧ ((r11 = 0 → K (-1) h9) ∧ (¬ r11 = 0 → (¬ r11 = 17 → K (r11 - 1) h9) ∧ (r11 = 17 → K (-1) h9))))) ∧ (r7 = 0 → K (-1) h5))))))) : Ci (m_X11_was (d + 3) 0 0) [.ref 0, .int x1, .int x2] h K := by
  refine Ct.of (fun _ _ _ => trivial) rfl (Nat.le_of_ble_eq_true rfl) ?_
  show AW (m_X11_was (d + 3) 0 0) 0 0 0 [(0, .ref 0), (1, .int x1), (2, .int x2)] [] h (kI K)
  refine aw_aload_n (i := 0) rfl d_X11_was_0 0 rfl ?_
  refine aw_iload_n (i := 1) rfl d_X11_was_1 1 rfl ?_
  refine aw_Vi 0 [.int x1] [] d_X11_was_2 (cV_X11_isMan (d + 2) 0 0) kc_11 (ws_0 w) tw_1098 rfl (rr0 (Nat.le_of_ble_eq_true rfl) (Nat.le_of_ble_eq_true rfl)) (Nat.le_of_ble_eq_true rfl) xs0 k (fun r3 h1 kk => ?_)
  obtain ⟨w2, k⟩ := kk
  refine aw_if_eq (tgt := 16) d_X11_was_5 rfl (fun c4 => ?_) (fun c4 => ?_)
  · have k := k.1 c4
    refine aw_iconst (v := (-1)) d_X11_was_16 ic_m1 ?_
    exact aw_iret rfl d_X11_was_17 ⟨Nat.le_refl _, Nat.le_refl _⟩ ⟨_, rfl, k⟩
  · have k := k.2 c4
    refine aw_aload_n (i := 0) rfl d_X11_was_8 0 rfl ?_
    refine aw_iload_n (i := 2) rfl d_X11_was_9 2 rfl ?_
    refine aw_Vi 0 [.int x2] [] d_X11_was_10 (cV_X11_isKnown (d + 1) 0 0) kc_11 (ws_0 w2) tw_1102 rfl (rr0 (Nat.le_of_ble_eq_true rfl) (Nat.le_of_ble_eq_true rfl)) (Nat.le_of_ble_eq_true rfl) xs0 k (fun r7 h5 kk => ?_)
    obtain ⟨w6, k⟩ := kk
    refine aw_if_ne (tgt := 18) d_X11_was_13 rfl (fun c8 => ?_) (fun c8 => ?_)
    · have k := k.1 c8
      refine aw_aload_n (i := 0) rfl d_X11_was_18 0 rfl ?_
      refine aw_iload_n (i := 1) rfl d_X11_was_19 1 rfl ?_
      refine aw_iload_n (i := 2) rfl d_X11_was_20 2 rfl ?_
      refine aw_Vi 0 [.int x1, .int x2] [] d_X11_was_21 (cV_X11_placeSign (d + 0) 0 0) kc_11 (ws_0 w6) tw_1106 rfl (rr0 (Nat.le_of_ble_eq_true rfl) (Nat.le_of_ble_eq_true rfl)) (Nat.le_of_ble_eq_true rfl) xs0 k (fun r11 h9 kk => ?_)
      obtain ⟨w10, k⟩ := kk
      refine aw_istore_n (i := 3) rfl [(0, .ref 0), (1, .int x1), (2, .int x2), (3, .int r11)] d_X11_was_24 (Nat.le_of_ble_eq_true rfl) rfl rfl ?_
      refine aw_iload_n (i := 3) rfl d_X11_was_25 3 rfl ?_
      refine aw_if_eq (tgt := 35) d_X11_was_26 rfl (fun c12 => ?_) (fun c12 => ?_)
      · have k := k.1 c12
        refine aw_iconst (v := (-1)) d_X11_was_35 ic_m1 ?_
        refine aw_goto (tgt := 42) d_X11_was_36 rfl ?_
        exact aw_iret rfl d_X11_was_42 ⟨Nat.le_refl _, Nat.le_refl _⟩ ⟨_, rfl, k⟩
      · have k := k.2 c12
        refine aw_iload_n (i := 3) rfl d_X11_was_29 3 rfl ?_
        refine aw_bipush (v := 17) d_X11_was_30 ib_17 ?_
        refine aw_icmp_ne (tgt := 39) d_X11_was_32 rfl (fun c13 => ?_) (fun c13 => ?_)
        · have k := k.1 c13
          refine aw_iload_n (i := 3) rfl d_X11_was_39 3 rfl ?_
          refine aw_iconst (v := 1) d_X11_was_40 ic_1 ?_
          refine aw_isub d_X11_was_41 ?_
          exact aw_iret rfl d_X11_was_42 ⟨Nat.le_refl _, Nat.le_refl _⟩ ⟨_, rfl, k⟩
        · have k := k.2 c13
          refine aw_iconst (v := (-1)) d_X11_was_35 ic_m1 ?_
          refine aw_goto (tgt := 42) d_X11_was_36 rfl ?_
          exact aw_iret rfl d_X11_was_42 ⟨Nat.le_refl _, Nat.le_refl _⟩ ⟨_, rfl, k⟩
    · have k := k.2 c8
      refine aw_iconst (v := (-1)) d_X11_was_16 ic_m1 ?_
      exact aw_iret rfl d_X11_was_17 ⟨Nat.le_refl _, Nat.le_refl _⟩ ⟨_, rfl, k⟩
theorem t_X11_point (d : Nat) (h : Hp_) (w : Wf h) (x1 : Int32) (x2 : Int32) (x3 : Int32) (K : Int32 → Hp_ → Prop) (k : Ci (m_X11_isKnown (d + 1) 0 0) [.ref 0, .int x2] h (fun r3 h1 => Wf h1 ∧ ((r3 = 0 → K (-1) h1) ∧ (¬ r3 = 0 → Ci (m_X7_has (d + 0) 0 0) [.ref 16, .int x1] h1 (fun r7 h5 => Wf h5 ∧ ((r7 = 0 → K (-1) h5) ∧ (¬ r7 = 0 → Ci (m_X7_tell (d + 2) 0 0) [.ref 16, .int x1, .int x2, .int x3] h5 (fun r11 h9 => Wf h9 ∧ (K r11 h9))))))))) : Ci (m_X11_point (d + 3) 0 0) [.ref 0, .int x1, .int x2, .int x3] h K := by
  refine Ct.of (fun _ _ _ => trivial) rfl (Nat.le_of_ble_eq_true rfl) ?_
  show AW (m_X11_point (d + 3) 0 0) 0 0 0 [(0, .ref 0), (1, .int x1), (2, .int x2), (3, .int x3)] [] h (kI K)
  refine aw_aload_n (i := 0) rfl d_X11_point_0 0 rfl ?_
  refine aw_iload_n (i := 2) rfl d_X11_point_1 2 rfl ?_
  refine aw_Vi 0 [.int x2] [] d_X11_point_2 (cV_X11_isKnown (d + 1) 0 0) kc_11 (ws_0 w) tw_1102 rfl (rr0 (Nat.le_of_ble_eq_true rfl) (Nat.le_of_ble_eq_true rfl)) (Nat.le_of_ble_eq_true rfl) xs0 k (fun r3 h1 kk => ?_)
  obtain ⟨w2, k⟩ := kk
  refine aw_if_eq (tgt := 32) d_X11_point_5 rfl (fun c4 => ?_) (fun c4 => ?_)
  · have k := k.1 c4
    refine aw_iconst (v := (-1)) d_X11_point_32 ic_m1 ?_
    exact aw_iret rfl d_X11_point_33 ⟨Nat.le_refl _, Nat.le_refl _⟩ ⟨_, rfl, k⟩
  · have k := k.2 c4
    refine aw_aload_n (i := 0) rfl d_X11_point_8 0 rfl ?_
    refine aw_getr (k0 := 8) kc_11 (ws_0 w2) (Nat.le_of_ble_eq_true rfl) tw_495 d_X11_point_9 rfl (wr_0_8 w2) ?_
    refine aw_iload_n (i := 1) rfl d_X11_point_12 1 rfl ?_
    refine aw_Vi 16 [.int x1] [] d_X11_point_13 (cV_X7_has (d + 0) 0 0) kc_7 (ws_16 w2) tw_1114 rfl (rr0 (Nat.le_of_ble_eq_true rfl) (Nat.le_of_ble_eq_true rfl)) (Nat.le_of_ble_eq_true rfl) xs0 k (fun r7 h5 kk => ?_)
    obtain ⟨w6, k⟩ := kk
    refine aw_if_eq (tgt := 32) d_X11_point_16 rfl (fun c8 => ?_) (fun c8 => ?_)
    · have k := k.1 c8
      refine aw_iconst (v := (-1)) d_X11_point_32 ic_m1 ?_
      exact aw_iret rfl d_X11_point_33 ⟨Nat.le_refl _, Nat.le_refl _⟩ ⟨_, rfl, k⟩
    · have k := k.2 c8
      refine aw_aload_n (i := 0) rfl d_X11_point_19 0 rfl ?_
      refine aw_getr (k0 := 8) kc_11 (ws_0 w6) (Nat.le_of_ble_eq_true rfl) tw_495 d_X11_point_20 rfl (wr_0_8 w6) ?_
      refine aw_iload_n (i := 1) rfl d_X11_point_23 1 rfl ?_
      refine aw_iload_n (i := 2) rfl d_X11_point_24 2 rfl ?_
      refine aw_iload_n (i := 3) rfl d_X11_point_25 3 rfl ?_
      refine aw_Vi 16 [.int x1, .int x2, .int x3] [] d_X11_point_26 (cV_X7_tell (d + 2) 0 0) kc_7 (ws_16 w6) tw_1118 rfl (rr0 (Nat.le_of_ble_eq_true rfl) (Nat.le_of_ble_eq_true rfl)) (Nat.le_of_ble_eq_true rfl) xs0 k (fun r11 h9 kk => ?_)
      obtain ⟨w10, k⟩ := kk
      refine aw_goto (tgt := 33) d_X11_point_29 rfl ?_
      exact aw_iret rfl d_X11_point_33 ⟨Nat.le_refl _, Nat.le_refl _⟩ ⟨_, rfl, k⟩
theorem t_X11_causes (d : Nat) (h : Hp_) (w : Wf h) (x1 : Int32) (x2 : Int32) (K : Int32 → Hp_ → Prop) (k : (¬ (1 ≤ x1 ∧ x1 ≤ 9) → K (-1) h) ∧ ((1 ≤ x1 ∧ x1 ≤ 9) → Ci (m_X11_isKnown (d + 1) 0 0) [.ref 0, .int x2] h (fun r6 h4 => Wf h4 ∧ ((r6 = 0 → K (-1) h4) ∧ (¬ r6 = 0 → Ci (m_X7_countCause (d + 2) 0 0) [.ref 16, .int x1, .int x2] h4 (fun r10 h8 => Wf h8 ∧ (K r10 h8))))))) : Ci (m_X11_causes (d + 3) 0 0) [.ref 0, .int x1, .int x2] h K := by
  refine Ct.of (fun _ _ _ => trivial) rfl (Nat.le_of_ble_eq_true rfl) ?_
  show AW (m_X11_causes (d + 3) 0 0) 0 0 0 [(0, .ref 0), (1, .int x1), (2, .int x2)] [] h (kI K)
  refine aw_iload_n (i := 1) rfl d_X11_causes_0 1 rfl ?_
  refine aw_iconst (v := 1) d_X11_causes_1 ic_1 ?_
  refine aw_bipush (v := 9) d_X11_causes_2 ib_9 ?_
  refine aw_Si [.int x1, .int 1, .int 9] [] d_X11_causes_4 (cS_X11_within (d + 0) 0 0) tw_543 rfl (rr0 (Nat.le_of_ble_eq_true rfl) (Nat.le_of_ble_eq_true rfl)) (Nat.le_of_ble_eq_true rfl) xs0 (s_X11_within _ _ x1 1 9) (fun _ _ kk => ?_)
  obtain ⟨e1, e2⟩ := kk
  rw [e1, e2]
  refine aw_ifb_eq (tgt := 30) d_X11_causes_7 rfl (fun c3 => ?_) (fun c3 => ?_)
  · have k := k.1 c3
    refine aw_iconst (v := (-1)) d_X11_causes_30 ic_m1 ?_
    exact aw_iret rfl d_X11_causes_31 ⟨Nat.le_refl _, Nat.le_refl _⟩ ⟨_, rfl, k⟩
  · have k := k.2 c3
    refine aw_aload_n (i := 0) rfl d_X11_causes_10 0 rfl ?_
    refine aw_iload_n (i := 2) rfl d_X11_causes_11 2 rfl ?_
    refine aw_Vi 0 [.int x2] [] d_X11_causes_12 (cV_X11_isKnown (d + 1) 0 0) kc_11 (ws_0 w) tw_1102 rfl (rr0 (Nat.le_of_ble_eq_true rfl) (Nat.le_of_ble_eq_true rfl)) (Nat.le_of_ble_eq_true rfl) xs0 k (fun r6 h4 kk => ?_)
    obtain ⟨w5, k⟩ := kk
    refine aw_if_eq (tgt := 30) d_X11_causes_15 rfl (fun c7 => ?_) (fun c7 => ?_)
    · have k := k.1 c7
      refine aw_iconst (v := (-1)) d_X11_causes_30 ic_m1 ?_
      exact aw_iret rfl d_X11_causes_31 ⟨Nat.le_refl _, Nat.le_refl _⟩ ⟨_, rfl, k⟩
    · have k := k.2 c7
      refine aw_aload_n (i := 0) rfl d_X11_causes_18 0 rfl ?_
      refine aw_getr (k0 := 8) kc_11 (ws_0 w5) (Nat.le_of_ble_eq_true rfl) tw_495 d_X11_causes_19 rfl (wr_0_8 w5) ?_
      refine aw_iload_n (i := 1) rfl d_X11_causes_22 1 rfl ?_
      refine aw_iload_n (i := 2) rfl d_X11_causes_23 2 rfl ?_
      refine aw_Vi 16 [.int x1, .int x2] [] d_X11_causes_24 (cV_X7_countCause (d + 2) 0 0) kc_7 (ws_16 w5) tw_1143 rfl (rr0 (Nat.le_of_ble_eq_true rfl) (Nat.le_of_ble_eq_true rfl)) (Nat.le_of_ble_eq_true rfl) xs0 k (fun r10 h8 kk => ?_)
      obtain ⟨w9, k⟩ := kk
      refine aw_goto (tgt := 31) d_X11_causes_27 rfl ?_
      exact aw_iret rfl d_X11_causes_31 ⟨Nat.le_refl _, Nat.le_refl _⟩ ⟨_, rfl, k⟩
theorem t_X11_rank (d : Nat) (h : Hp_) (w : Wf h) (x1 : Int32) (x2 : Int32) (x3 : Int32) (K : Int32 → Hp_ → Prop) (k : Ci (m_X11_isMan (d + 2) 0 0) [.ref 0, .int x1] h (fun r3 h1 => Wf h1 ∧ ((r3 = 0 → K 0 h1) ∧ (¬ r3 = 0 → (¬ (1 ≤ x2 ∧ x2 ≤ 4) → K 0 h1) ∧ ((1 ≤ x2 ∧ x2 ≤ 4) → ((0 ≤ x3 ∧ x3 ≤ 30) → Ci (m_X5_addRank (d + 0) 0 0) [.ref 21, .int x1, .int x2, .int x3, .int (h_i h1 0 0)] h1 (fun r13 h11 => Wf h11 ∧ ((r13 = 0 ∨ r13 = 1) ∧ (K r13 h11)))) ∧ (¬ (0 ≤ x3 ∧ x3 ≤ 30) → K 0 h1)))))) : Ci (m_X11_rank (d + 3) 0 0) [.ref 0, .int x1, .int x2, .int x3] h K := by
  refine Ct.of (fun _ _ _ => trivial) rfl (Nat.le_of_ble_eq_true rfl) ?_
  show AW (m_X11_rank (d + 3) 0 0) 0 0 0 [(0, .ref 0), (1, .int x1), (2, .int x2), (3, .int x3)] [] h (kI K)
  refine aw_aload_n (i := 0) rfl d_X11_rank_0 0 rfl ?_
  refine aw_iload_n (i := 1) rfl d_X11_rank_1 1 rfl ?_
  refine aw_Vi 0 [.int x1] [] d_X11_rank_2 (cV_X11_isMan (d + 2) 0 0) kc_11 (ws_0 w) tw_1098 rfl (rr0 (Nat.le_of_ble_eq_true rfl) (Nat.le_of_ble_eq_true rfl)) (Nat.le_of_ble_eq_true rfl) xs0 k (fun r3 h1 kk => ?_)
  obtain ⟨w2, k⟩ := kk
  refine aw_if_eq (tgt := 27) d_X11_rank_5 rfl (fun c4 => ?_) (fun c4 => ?_)
  · have k := k.1 c4
    refine aw_iconst (v := 0) d_X11_rank_27 ic_0 ?_
    exact aw_zret rfl rfl d_X11_rank_28 ⟨Nat.le_refl _, Nat.le_refl _⟩ ⟨_, rfl, k⟩
  · have k := k.2 c4
    refine aw_iload_n (i := 2) rfl d_X11_rank_8 2 rfl ?_
    refine aw_iconst (v := 1) d_X11_rank_9 ic_1 ?_
    refine aw_iconst (v := 4) d_X11_rank_10 ic_4 ?_
    refine aw_Si [.int x2, .int 1, .int 4] [] d_X11_rank_11 (cS_X11_within (d + 0) 0 0) tw_543 rfl (rr0 (Nat.le_of_ble_eq_true rfl) (Nat.le_of_ble_eq_true rfl)) (Nat.le_of_ble_eq_true rfl) xs0 (s_X11_within _ _ x2 1 4) (fun _ _ kk => ?_)
    obtain ⟨e5, e6⟩ := kk
    rw [e5, e6]
    refine aw_ifb_eq (tgt := 27) d_X11_rank_14 rfl (fun c7 => ?_) (fun c7 => ?_)
    · have k := k.1 c7
      refine aw_iconst (v := 0) d_X11_rank_27 ic_0 ?_
      exact aw_zret rfl rfl d_X11_rank_28 ⟨Nat.le_refl _, Nat.le_refl _⟩ ⟨_, rfl, k⟩
    · have k := k.2 c7
      refine aw_iload_n (i := 3) rfl d_X11_rank_17 3 rfl ?_
      refine aw_iconst (v := 0) d_X11_rank_18 ic_0 ?_
      refine aw_bipush (v := 30) d_X11_rank_19 ib_30 ?_
      refine aw_Si [.int x3, .int 0, .int 30] [] d_X11_rank_21 (cS_X11_within (d + 0) 0 0) tw_543 rfl (rr0 (Nat.le_of_ble_eq_true rfl) (Nat.le_of_ble_eq_true rfl)) (Nat.le_of_ble_eq_true rfl) xs0 (s_X11_within _ _ x3 0 30) (fun _ _ kk => ?_)
      obtain ⟨e8, e9⟩ := kk
      rw [e8, e9]
      refine aw_ifb_ne (tgt := 29) d_X11_rank_24 rfl (fun c10 => ?_) (fun c10 => ?_)
      · have k := k.1 c10
        refine aw_aload_n (i := 0) rfl d_X11_rank_29 0 rfl ?_
        refine aw_getr (k0 := 13) kc_11 (ws_0 w2) (Nat.le_of_ble_eq_true rfl) tw_500 d_X11_rank_30 rfl (wr_0_13 w2) ?_
        refine aw_iload_n (i := 1) rfl d_X11_rank_33 1 rfl ?_
        refine aw_iload_n (i := 2) rfl d_X11_rank_34 2 rfl ?_
        refine aw_iload_n (i := 3) rfl d_X11_rank_35 3 rfl ?_
        refine aw_aload_n (i := 0) rfl d_X11_rank_36 0 rfl ?_
        refine aw_geti (k0 := 0) kc_11 (ws_0 w2) (Nat.le_of_ble_eq_true rfl) tw_487 d_X11_rank_37 rfl ?_
        refine aw_Vi 21 [.int x1, .int x2, .int x3, .int (h_i h1 0 0)] [] d_X11_rank_40 (cV_X5_addRank (d + 0) 0 0) kc_5 (ws_21 w2) tw_1569 rfl (rr0 (Nat.le_of_ble_eq_true rfl) (Nat.le_of_ble_eq_true rfl)) (Nat.le_of_ble_eq_true rfl) xs0 k (fun r13 h11 kk => ?_)
        obtain ⟨w12, k⟩ := kk
        obtain ⟨z14, k⟩ := k
        exact aw_zret rfl (nf_z z14).1 d_X11_rank_43 ⟨Nat.le_refl _, Nat.le_refl _⟩ ⟨_, rfl, k⟩
      · have k := k.2 c10
        refine aw_iconst (v := 0) d_X11_rank_27 ic_0 ?_
        exact aw_zret rfl rfl d_X11_rank_28 ⟨Nat.le_refl _, Nat.le_refl _⟩ ⟨_, rfl, k⟩
theorem t_X11_mark (d : Nat) (h : Hp_) (w : Wf h) (x1 : Int32) (x2 : Int32) (x3 : Int32) (K : Int32 → Hp_ → Prop) (k : (¬ (0 ≤ x1 ∧ x1 ≤ 3) → K 0 h) ∧ ((0 ≤ x1 ∧ x1 ≤ 3) → Ci (m_X11_isMan (d + 2) 0 0) [.ref 0, .int x2] h (fun r6 h4 => Wf h4 ∧ ((r6 = 0 → K 0 h4) ∧ (¬ r6 = 0 → ((0 ≤ x3 ∧ x3 ≤ 10) → Cv (m_X5_setMark (d + 1) 0 0) [.ref 21, .int x1, .int x2, .int x3] h4 (fun h11 => Wf h11 ∧ (K 1 h11))) ∧ (¬ (0 ≤ x3 ∧ x3 ≤ 10) → K 0 h4)))))) : Ci (m_X11_mark (d + 3) 0 0) [.ref 0, .int x1, .int x2, .int x3] h K := by
  refine Ct.of (fun _ _ _ => trivial) rfl (Nat.le_of_ble_eq_true rfl) ?_
  show AW (m_X11_mark (d + 3) 0 0) 0 0 0 [(0, .ref 0), (1, .int x1), (2, .int x2), (3, .int x3)] [] h (kI K)
  refine aw_iload_n (i := 1) rfl d_X11_mark_0 1 rfl ?_
  refine aw_iconst (v := 0) d_X11_mark_1 ic_0 ?_
  refine aw_iconst (v := 3) d_X11_mark_2 ic_3 ?_
  refine aw_Si [.int x1, .int 0, .int 3] [] d_X11_mark_3 (cS_X11_within (d + 0) 0 0) tw_543 rfl (rr0 (Nat.le_of_ble_eq_true rfl) (Nat.le_of_ble_eq_true rfl)) (Nat.le_of_ble_eq_true rfl) xs0 (s_X11_within _ _ x1 0 3) (fun _ _ kk => ?_)
  obtain ⟨e1, e2⟩ := kk
  rw [e1, e2]
  refine aw_ifb_eq (tgt := 27) d_X11_mark_6 rfl (fun c3 => ?_) (fun c3 => ?_)
  · have k := k.1 c3
    refine aw_iconst (v := 0) d_X11_mark_27 ic_0 ?_
    exact aw_zret rfl rfl d_X11_mark_28 ⟨Nat.le_refl _, Nat.le_refl _⟩ ⟨_, rfl, k⟩
  · have k := k.2 c3
    refine aw_aload_n (i := 0) rfl d_X11_mark_9 0 rfl ?_
    refine aw_iload_n (i := 2) rfl d_X11_mark_10 2 rfl ?_
    refine aw_Vi 0 [.int x2] [] d_X11_mark_11 (cV_X11_isMan (d + 2) 0 0) kc_11 (ws_0 w) tw_1098 rfl (rr0 (Nat.le_of_ble_eq_true rfl) (Nat.le_of_ble_eq_true rfl)) (Nat.le_of_ble_eq_true rfl) xs0 k (fun r6 h4 kk => ?_)
    obtain ⟨w5, k⟩ := kk
    refine aw_if_eq (tgt := 27) d_X11_mark_14 rfl (fun c7 => ?_) (fun c7 => ?_)
    · have k := k.1 c7
      refine aw_iconst (v := 0) d_X11_mark_27 ic_0 ?_
      exact aw_zret rfl rfl d_X11_mark_28 ⟨Nat.le_refl _, Nat.le_refl _⟩ ⟨_, rfl, k⟩
    · have k := k.2 c7
      refine aw_iload_n (i := 3) rfl d_X11_mark_17 3 rfl ?_
      refine aw_iconst (v := 0) d_X11_mark_18 ic_0 ?_
      refine aw_bipush (v := 10) d_X11_mark_19 ib_10 ?_
      refine aw_Si [.int x3, .int 0, .int 10] [] d_X11_mark_21 (cS_X11_within (d + 0) 0 0) tw_543 rfl (rr0 (Nat.le_of_ble_eq_true rfl) (Nat.le_of_ble_eq_true rfl)) (Nat.le_of_ble_eq_true rfl) xs0 (s_X11_within _ _ x3 0 10) (fun _ _ kk => ?_)
      obtain ⟨e8, e9⟩ := kk
      rw [e8, e9]
      refine aw_ifb_ne (tgt := 29) d_X11_mark_24 rfl (fun c10 => ?_) (fun c10 => ?_)
      · have k := k.1 c10
        refine aw_aload_n (i := 0) rfl d_X11_mark_29 0 rfl ?_
        refine aw_getr (k0 := 13) kc_11 (ws_0 w5) (Nat.le_of_ble_eq_true rfl) tw_500 d_X11_mark_30 rfl (wr_0_13 w5) ?_
        refine aw_iload_n (i := 1) rfl d_X11_mark_33 1 rfl ?_
        refine aw_iload_n (i := 2) rfl d_X11_mark_34 2 rfl ?_
        refine aw_iload_n (i := 3) rfl d_X11_mark_35 3 rfl ?_
        refine aw_Vv 21 [.int x1, .int x2, .int x3] [] d_X11_mark_36 (cV_X5_setMark (d + 1) 0 0) kc_5 (ws_21 w5) tw_1632 rfl (rr0 (Nat.le_of_ble_eq_true rfl) (Nat.le_of_ble_eq_true rfl)) (Nat.le_of_ble_eq_true rfl) xs0 k (fun h11 kk => ?_)
        obtain ⟨w12, k⟩ := kk
        refine aw_iconst (v := 1) d_X11_mark_39 ic_1 ?_
        exact aw_zret rfl rfl d_X11_mark_40 ⟨Nat.le_refl _, Nat.le_refl _⟩ ⟨_, rfl, k⟩
      · have k := k.2 c10
        refine aw_iconst (v := 0) d_X11_mark_27 ic_0 ?_
        exact aw_zret rfl rfl d_X11_mark_28 ⟨Nat.le_refl _, Nat.le_refl _⟩ ⟨_, rfl, k⟩
theorem t_X11_complain (d : Nat) (h : Hp_) (w : Wf h) (x1 : Int32) (x2 : Int32) (x3 : Int32) (x4 : Int32) (K : Int32 → Hp_ → Prop) (k : Ci (m_X11_isMan (d + 2) 0 0) [.ref 0, .int x1] h (fun r3 h1 => Wf h1 ∧ ((r3 = 0 → K (-1) h1) ∧ (¬ r3 = 0 → (¬ (0 ≤ x2 ∧ x2 < 16) → K (-1) h1) ∧ ((0 ≤ x2 ∧ x2 < 16) → Ci (m_X11_isKnown (d + 1) 0 0) [.ref 0, .int x3] h1 (fun r10 h8 => Wf h8 ∧ ((r10 = 0 → K (-1) h8) ∧ (¬ r10 = 0 → ((x3 ≤ x4 ∧ x4 ≤ (h_i h8 0 0)) → (((x4 - x3) + 1) ≤ 1440 → AW (m_X11_complain (d + 3) 0 0) 0 0 58 [(0, .ref 0), (1, .int x1), (2, .int x2), (4, .int x4), (5, .int 0), (6, .int x3)] [] h8 (kI K)) ∧ (¬ ((x4 - x3) + 1) ≤ 1440 → K (-1) h8)) ∧ (¬ (x3 ≤ x4 ∧ x4 ≤ (h_i h8 0 0)) → K (-1) h8))))))))) : Ci (m_X11_complain (d + 3) 0 0) [.ref 0, .int x1, .int x2, .int x3, .int x4] h K := by
  refine Ct.of (fun _ _ _ => trivial) rfl (Nat.le_of_ble_eq_true rfl) ?_
  show AW (m_X11_complain (d + 3) 0 0) 0 0 0 [(0, .ref 0), (1, .int x1), (2, .int x2), (3, .int x3), (4, .int x4)] [] h (kI K)
  refine aw_aload_n (i := 0) rfl d_X11_complain_0 0 rfl ?_
  refine aw_iload_n (i := 1) rfl d_X11_complain_1 1 rfl ?_
  refine aw_Vi 0 [.int x1] [] d_X11_complain_2 (cV_X11_isMan (d + 2) 0 0) kc_11 (ws_0 w) tw_1098 rfl (rr0 (Nat.le_of_ble_eq_true rfl) (Nat.le_of_ble_eq_true rfl)) (Nat.le_of_ble_eq_true rfl) xs0 k (fun r3 h1 kk => ?_)
  obtain ⟨w2, k⟩ := kk
  refine aw_if_eq (tgt := 36) d_X11_complain_5 rfl (fun c4 => ?_) (fun c4 => ?_)
  · have k := k.1 c4
    refine aw_iconst (v := (-1)) d_X11_complain_36 ic_m1 ?_
    exact aw_iret rfl d_X11_complain_37 ⟨Nat.le_refl _, Nat.le_refl _⟩ ⟨_, rfl, k⟩
  · have k := k.2 c4
    refine aw_iload_n (i := 2) rfl d_X11_complain_8 2 rfl ?_
    refine aw_Si [.int x2] [] d_X11_complain_9 (cS_X11_isPlace (d + 0) 0 0) tw_540 rfl (rr0 (Nat.le_of_ble_eq_true rfl) (Nat.le_of_ble_eq_true rfl)) (Nat.le_of_ble_eq_true rfl) xs0 (s_X11_isPlace _ _ x2) (fun _ _ kk => ?_)
    obtain ⟨e5, e6⟩ := kk
    rw [e5, e6]
    refine aw_ifb_eq (tgt := 36) d_X11_complain_12 rfl (fun c7 => ?_) (fun c7 => ?_)
    · have k := k.1 c7
      refine aw_iconst (v := (-1)) d_X11_complain_36 ic_m1 ?_
      exact aw_iret rfl d_X11_complain_37 ⟨Nat.le_refl _, Nat.le_refl _⟩ ⟨_, rfl, k⟩
    · have k := k.2 c7
      refine aw_aload_n (i := 0) rfl d_X11_complain_15 0 rfl ?_
      refine aw_iload_n (i := 3) rfl d_X11_complain_16 3 rfl ?_
      refine aw_Vi 0 [.int x3] [] d_X11_complain_17 (cV_X11_isKnown (d + 1) 0 0) kc_11 (ws_0 w2) tw_1102 rfl (rr0 (Nat.le_of_ble_eq_true rfl) (Nat.le_of_ble_eq_true rfl)) (Nat.le_of_ble_eq_true rfl) xs0 k (fun r10 h8 kk => ?_)
      obtain ⟨w9, k⟩ := kk
      refine aw_if_eq (tgt := 36) d_X11_complain_20 rfl (fun c11 => ?_) (fun c11 => ?_)
      · have k := k.1 c11
        refine aw_iconst (v := (-1)) d_X11_complain_36 ic_m1 ?_
        exact aw_iret rfl d_X11_complain_37 ⟨Nat.le_refl _, Nat.le_refl _⟩ ⟨_, rfl, k⟩
      · have k := k.2 c11
        refine aw_iload d_X11_complain_23 4 rfl ?_
        refine aw_iload_n (i := 3) rfl d_X11_complain_25 3 rfl ?_
        refine aw_aload_n (i := 0) rfl d_X11_complain_26 0 rfl ?_
        refine aw_geti (k0 := 0) kc_11 (ws_0 w9) (Nat.le_of_ble_eq_true rfl) tw_487 d_X11_complain_27 rfl ?_
        refine aw_Si [.int x4, .int x3, .int (h_i h8 0 0)] [] d_X11_complain_30 (cS_X11_within (d + 0) 0 0) tw_543 rfl (rr0 (Nat.le_of_ble_eq_true rfl) (Nat.le_of_ble_eq_true rfl)) (Nat.le_of_ble_eq_true rfl) xs0 (s_X11_within _ _ x4 x3 (h_i h8 0 0)) (fun _ _ kk => ?_)
        obtain ⟨e12, e13⟩ := kk
        rw [e12, e13]
        refine aw_ifb_ne (tgt := 38) d_X11_complain_33 rfl (fun c14 => ?_) (fun c14 => ?_)
        · have k := k.1 c14
          refine aw_iload d_X11_complain_38 4 rfl ?_
          refine aw_iload_n (i := 3) rfl d_X11_complain_40 3 rfl ?_
          refine aw_isub d_X11_complain_41 ?_
          refine aw_iconst (v := 1) d_X11_complain_42 ic_1 ?_
          refine aw_iadd d_X11_complain_43 ?_
          refine aw_sipush (v := 1440) d_X11_complain_44 is_1440 ?_
          refine aw_icmp_le (tgt := 52) d_X11_complain_47 rfl (fun c15 => ?_) (fun c15 => ?_)
          · have k := k.1 c15
            refine aw_iconst (v := 0) d_X11_complain_52 ic_0 ?_
            refine aw_istore [(0, .ref 0), (1, .int x1), (2, .int x2), (3, .int x3), (4, .int x4), (5, .int 0)] d_X11_complain_53 (Nat.le_of_ble_eq_true rfl) rfl rfl ?_
            refine aw_iload_n (i := 3) rfl d_X11_complain_55 3 rfl ?_
            refine aw_istore [(0, .ref 0), (1, .int x1), (2, .int x2), (3, .int x3), (4, .int x4), (5, .int 0), (6, .int x3)] d_X11_complain_56 (Nat.le_of_ble_eq_true rfl) rfl rfl ?_
            exact aw_lvp [0, 1, 2, 4, 5, 6] [(0, .ref 0), (1, .int x1), (2, .int x2), (4, .int x4), (5, .int 0), (6, .int x3)] rfl k
          · have k := k.2 c15
            refine aw_iconst (v := (-1)) d_X11_complain_50 ic_m1 ?_
            exact aw_iret rfl d_X11_complain_51 ⟨Nat.le_refl _, Nat.le_refl _⟩ ⟨_, rfl, k⟩
        · have k := k.2 c14
          refine aw_iconst (v := (-1)) d_X11_complain_36 ic_m1 ?_
          exact aw_iret rfl d_X11_complain_37 ⟨Nat.le_refl _, Nat.le_refl _⟩ ⟨_, rfl, k⟩
theorem t_X11_complain_58 (d : Nat) (h : Hp_) (w : Wf h) (x1 : Int32) (x2 : Int32) (x4 : Int32) (x5 : Int32) (x6 : Int32) (K : Int32 → Hp_ → Prop) (k : (x4 < x6 → K x5 h) ∧ (¬ x4 < x6 → Ci (m_X11_placeSign (d + 0) 0 0) [.ref 0, .int x1, .int x6] h (fun r19 h17 => Wf h17 ∧ ((¬ r19 = (x2 + 1) → (¬ r19 = 17 → AW (m_X11_complain (d + 3) 0 0) 0 0 58 [(0, .ref 0), (1, .int x1), (2, .int x2), (4, .int x4), (5, .int x5), (6, .int (x6 + 1))] [] h17 (kI K)) ∧ (r19 = 17 → AW (m_X11_complain (d + 3) 0 0) 0 0 58 [(0, .ref 0), (1, .int x1), (2, .int x2), (4, .int x4), (5, .int 2), (6, .int (x6 + 1))] [] h17 (kI K))) ∧ (r19 = (x2 + 1) → K 1 h17))))) : AW (m_X11_complain (d + 3) 0 0) 0 0 58 [(0, .ref 0), (1, .int x1), (2, .int x2), (4, .int x4), (5, .int x5), (6, .int x6)] [] h (kI K) := by
  refine aw_iload d_X11_complain_58 5 rfl ?_
  refine aw_iload d_X11_complain_60 3 rfl ?_
  refine aw_icmp_gt (tgt := 100) d_X11_complain_62 rfl (fun c16 => ?_) (fun c16 => ?_)
  · have k := k.1 c16
    refine aw_iload d_X11_complain_100 4 rfl ?_
    exact aw_iret rfl d_X11_complain_102 ⟨Nat.le_refl _, Nat.le_refl _⟩ ⟨_, rfl, k⟩
  · have k := k.2 c16
    refine aw_aload_n (i := 0) rfl d_X11_complain_65 0 rfl ?_
    refine aw_iload_n (i := 1) rfl d_X11_complain_66 1 rfl ?_
    refine aw_iload d_X11_complain_67 5 rfl ?_
    refine aw_Vi 0 [.int x1, .int x6] [] d_X11_complain_69 (cV_X11_placeSign (d + 0) 0 0) kc_11 (ws_0 w) tw_1106 rfl (rr0 (Nat.le_of_ble_eq_true rfl) (Nat.le_of_ble_eq_true rfl)) (Nat.le_of_ble_eq_true rfl) xs0 k (fun r19 h17 kk => ?_)
    obtain ⟨w18, k⟩ := kk
    refine aw_istore [(0, .ref 0), (1, .int x1), (2, .int x2), (4, .int x4), (5, .int x5), (6, .int x6), (7, .int r19)] d_X11_complain_72 (Nat.le_of_ble_eq_true rfl) rfl rfl ?_
    refine aw_iload d_X11_complain_74 6 rfl ?_
    refine aw_iload_n (i := 2) rfl d_X11_complain_76 2 rfl ?_
    refine aw_iconst (v := 1) d_X11_complain_77 ic_1 ?_
    refine aw_iadd d_X11_complain_78 ?_
    refine aw_icmp_ne (tgt := 84) d_X11_complain_79 rfl (fun c20 => ?_) (fun c20 => ?_)
    · have k := k.1 c20
      refine aw_iload d_X11_complain_84 6 rfl ?_
      refine aw_bipush (v := 17) d_X11_complain_86 ib_17 ?_
      refine aw_icmp_ne (tgt := 94) d_X11_complain_88 rfl (fun c21 => ?_) (fun c21 => ?_)
      · have k := k.1 c21
        refine aw_iinc (v := (x6 + 1)) [(0, .ref 0), (1, .int x1), (2, .int x2), (4, .int x4), (5, .int x5), (6, .int (x6 + 1)), (7, .int r19)] d_X11_complain_94 5 rfl rfl (Nat.le_of_ble_eq_true rfl) rfl rfl ?_
        refine aw_goto (tgt := 58) d_X11_complain_97 rfl ?_
        exact aw_lvp [0, 1, 2, 3, 4, 5] [(0, .ref 0), (1, .int x1), (2, .int x2), (4, .int x4), (5, .int x5), (6, .int (x6 + 1))] rfl k
      · have k := k.2 c21
        refine aw_iconst (v := 2) d_X11_complain_91 ic_2 ?_
        refine aw_istore [(0, .ref 0), (1, .int x1), (2, .int x2), (4, .int x4), (5, .int 2), (6, .int x6), (7, .int r19)] d_X11_complain_92 (Nat.le_of_ble_eq_true rfl) rfl rfl ?_
        refine aw_iinc (v := (x6 + 1)) [(0, .ref 0), (1, .int x1), (2, .int x2), (4, .int x4), (5, .int 2), (6, .int (x6 + 1)), (7, .int r19)] d_X11_complain_94 5 rfl rfl (Nat.le_of_ble_eq_true rfl) rfl rfl ?_
        refine aw_goto (tgt := 58) d_X11_complain_97 rfl ?_
        exact aw_lvp [0, 1, 2, 3, 4, 5] [(0, .ref 0), (1, .int x1), (2, .int x2), (4, .int x4), (5, .int 2), (6, .int (x6 + 1))] rfl k
    · have k := k.2 c20
      refine aw_iconst (v := 1) d_X11_complain_82 ic_1 ?_
      exact aw_iret rfl d_X11_complain_83 ⟨Nat.le_refl _, Nat.le_refl _⟩ ⟨_, rfl, k⟩
theorem t_X1_standing (d : Nat) (h : Hp_) (w : Wf h) (x1 : Int32) (K : Int32 → Hp_ → Prop) (k : Ci (m_X1_needsOf (d + 1) 0 0) [.ref 18, .int x1] h (fun r3 h1 => Wf h1 ∧ (Ci (m_X1_factsThatAre (d + 2) 0 0) [.ref 18, .int 2] h1 (fun r6 h4 => Wf h4 ∧ (((r3 &&& r6) = 0 → Ci (m_X1_lacks (d + 3) 0 0) [.ref 18, .int x1] h4 (fun r10 h8 => Wf h8 ∧ ((¬ r10 = 0 → K 0 h8) ∧ (r10 = 0 → K 1 h8)))) ∧ (¬ (r3 &&& r6) = 0 → K 2 h4)))))) : Ci (m_X1_standing (d + 4) 0 0) [.ref 18, .int x1] h K := by
  refine Ct.of (fun _ _ _ => trivial) rfl (Nat.le_of_ble_eq_true rfl) ?_
  show AW (m_X1_standing (d + 4) 0 0) 0 0 0 [(0, .ref 18), (1, .int x1)] [] h (kI K)
  refine aw_aload_n (i := 0) rfl d_X1_standing_0 0 rfl ?_
  refine aw_iload_n (i := 1) rfl d_X1_standing_1 1 rfl ?_
  refine aw_Vi 18 [.int x1] [] d_X1_standing_2 (cV_X1_needsOf (d + 1) 0 0) kc_1 (ws_18 w) tw_1252 rfl (rr0 (Nat.le_of_ble_eq_true rfl) (Nat.le_of_ble_eq_true rfl)) (Nat.le_of_ble_eq_true rfl) xs0 k (fun r3 h1 kk => ?_)
  obtain ⟨w2, k⟩ := kk
  refine aw_aload_n (i := 0) rfl d_X1_standing_5 0 rfl ?_
  refine aw_iconst (v := 2) d_X1_standing_6 ic_2 ?_
  refine aw_Vi 18 [.int 2] [.int r3] d_X1_standing_7 (cV_X1_factsThatAre (d + 2) 0 0) kc_1 (ws_18 w2) tw_1257 rfl (rr0 (Nat.le_of_ble_eq_true rfl) (Nat.le_of_ble_eq_true rfl)) (Nat.le_of_ble_eq_true rfl) xs0 k (fun r6 h4 kk => ?_)
  obtain ⟨w5, k⟩ := kk
  refine aw_iand d_X1_standing_10 ?_
  refine aw_if_eq (tgt := 16) d_X1_standing_11 rfl (fun c7 => ?_) (fun c7 => ?_)
  · have k := k.1 c7
    refine aw_aload_n (i := 0) rfl d_X1_standing_16 0 rfl ?_
    refine aw_iload_n (i := 1) rfl d_X1_standing_17 1 rfl ?_
    refine aw_Vi 18 [.int x1] [] d_X1_standing_18 (cV_X1_lacks (d + 3) 0 0) kc_1 (ws_18 w5) tw_1271 rfl (rr0 (Nat.le_of_ble_eq_true rfl) (Nat.le_of_ble_eq_true rfl)) (Nat.le_of_ble_eq_true rfl) xs0 k (fun r10 h8 kk => ?_)
    obtain ⟨w9, k⟩ := kk
    refine aw_if_ne (tgt := 28) d_X1_standing_21 rfl (fun c11 => ?_) (fun c11 => ?_)
    · have k := k.1 c11
      refine aw_iconst (v := 0) d_X1_standing_28 ic_0 ?_
      exact aw_iret rfl d_X1_standing_29 ⟨Nat.le_refl _, Nat.le_refl _⟩ ⟨_, rfl, k⟩
    · have k := k.2 c11
      refine aw_iconst (v := 1) d_X1_standing_24 ic_1 ?_
      refine aw_goto (tgt := 29) d_X1_standing_25 rfl ?_
      exact aw_iret rfl d_X1_standing_29 ⟨Nat.le_refl _, Nat.le_refl _⟩ ⟨_, rfl, k⟩
  · have k := k.2 c7
    refine aw_iconst (v := 2) d_X1_standing_14 ic_2 ?_
    exact aw_iret rfl d_X1_standing_15 ⟨Nat.le_refl _, Nat.le_refl _⟩ ⟨_, rfl, k⟩
theorem t_X1_bestParting (d : Nat) (h : Hp_) (w : Wf h) (x1 : Int32) (x2 : Int32) (K : Int32 → Hp_ → Prop) (k : Ci (m_X1_has (d + 0) 0 0) [.ref 18, .int x1] h (fun r3 h1 => Wf h1 ∧ ((¬ r3 = 0 → Cv (m_X1_weigh (d + 1) 0 0) [.ref 18, .int x1, .int x2] h1 (fun h5 => Wf h5 ∧ (AW (m_X1_bestParting (d + 4) 0 0) 0 0 27 [(0, .ref 18), (1, .int x1), (2, .int x2), (3, .int (-1)), (4, .int 0), (5, .int 0), (6, .int 0)] [] h5 (kI K)))) ∧ (r3 = 0 → K (-1) h1)))) : Ci (m_X1_bestParting (d + 4) 0 0) [.ref 18, .int x1, .int x2] h K := by
  refine Ct.of (fun _ _ _ => trivial) rfl (Nat.le_of_ble_eq_true rfl) ?_
  show AW (m_X1_bestParting (d + 4) 0 0) 0 0 0 [(0, .ref 18), (1, .int x1), (2, .int x2)] [] h (kI K)
  refine aw_aload_n (i := 0) rfl d_X1_bestParting_0 0 rfl ?_
  refine aw_iload_n (i := 1) rfl d_X1_bestParting_1 1 rfl ?_
  refine aw_Vi 18 [.int x1] [] d_X1_bestParting_2 (cV_X1_has (d + 0) 0 0) kc_1 (ws_18 w) tw_1256 rfl (rr0 (Nat.le_of_ble_eq_true rfl) (Nat.le_of_ble_eq_true rfl)) (Nat.le_of_ble_eq_true rfl) xs0 k (fun r3 h1 kk => ?_)
  obtain ⟨w2, k⟩ := kk
  refine aw_if_ne (tgt := 10) d_X1_bestParting_5 rfl (fun c4 => ?_) (fun c4 => ?_)
  · have k := k.1 c4
    refine aw_aload_n (i := 0) rfl d_X1_bestParting_10 0 rfl ?_
    refine aw_iload_n (i := 1) rfl d_X1_bestParting_11 1 rfl ?_
    refine aw_iload_n (i := 2) rfl d_X1_bestParting_12 2 rfl ?_
    refine aw_Vv 18 [.int x1, .int x2] [] d_X1_bestParting_13 (cV_X1_weigh (d + 1) 0 0) kc_1 (ws_18 w2) tw_1240 rfl (rr0 (Nat.le_of_ble_eq_true rfl) (Nat.le_of_ble_eq_true rfl)) (Nat.le_of_ble_eq_true rfl) xs0 k (fun h5 kk => ?_)
    obtain ⟨w6, k⟩ := kk
    refine aw_iconst (v := (-1)) d_X1_bestParting_16 ic_m1 ?_
    refine aw_istore_n (i := 3) rfl [(0, .ref 18), (1, .int x1), (2, .int x2), (3, .int (-1))] d_X1_bestParting_17 (Nat.le_of_ble_eq_true rfl) rfl rfl ?_
    refine aw_iconst (v := 0) d_X1_bestParting_18 ic_0 ?_
    refine aw_istore [(0, .ref 18), (1, .int x1), (2, .int x2), (3, .int (-1)), (4, .int 0)] d_X1_bestParting_19 (Nat.le_of_ble_eq_true rfl) rfl rfl ?_
    refine aw_iconst (v := 0) d_X1_bestParting_21 ic_0 ?_
    refine aw_istore [(0, .ref 18), (1, .int x1), (2, .int x2), (3, .int (-1)), (4, .int 0), (5, .int 0)] d_X1_bestParting_22 (Nat.le_of_ble_eq_true rfl) rfl rfl ?_
    refine aw_iconst (v := 0) d_X1_bestParting_24 ic_0 ?_
    refine aw_istore [(0, .ref 18), (1, .int x1), (2, .int x2), (3, .int (-1)), (4, .int 0), (5, .int 0), (6, .int 0)] d_X1_bestParting_25 (Nat.le_of_ble_eq_true rfl) rfl rfl ?_
    exact k
  · have k := k.2 c4
    refine aw_iconst (v := (-1)) d_X1_bestParting_8 ic_m1 ?_
    exact aw_iret rfl d_X1_bestParting_9 ⟨Nat.le_refl _, Nat.le_refl _⟩ ⟨_, rfl, k⟩
theorem t_X1_bestParting_27 (d : Nat) (h : Hp_) (w : Wf h) (x1 : Int32) (x2 : Int32) (x3 : Int32) (x4 : Int32) (x5 : Int32) (x6 : Int32) (K : Int32 → Hp_ → Prop) (k : (8 ≤ x6 → K x3 h) ∧ (¬ 8 ≤ x6 → Ci (m_X1_verdictOn (d + 1) 0 0) [.ref 18, .int x6] h (fun r11 h9 => Wf h9 ∧ ((r11 = 1 → AW (m_X1_bestParting (d + 4) 0 0) 0 0 27 [(0, .ref 18), (1, .int x1), (2, .int x2), (3, .int x3), (4, .int x4), (5, .int x5), (6, .int (x6 + 1))] [] h9 (kI K)) ∧ (¬ r11 = 1 → (¬ r11 = 2 → Ci (m_X1_countStories (d + 3) 0 0) [.ref 18, .int x1, .int x2, .int ((1 : Int32) <<< (x6 &&& 31)), .int 1] h9 (fun r16 h14 => Wf h14 ∧ (Ci (m_X1_countStories (d + 3) 0 0) [.ref 18, .int x1, .int x2, .int ((1 : Int32) <<< (x6 &&& 31)), .int 0] h14 (fun r19 h17 => Wf h17 ∧ (Ci (m_J9_min_7cf53 (d + 0) 0 0) [.int r16, .int r19] h17 (fun r22 h20 => Wf h20 ∧ ((x4 < r22 → AW (m_X1_bestParting (d + 4) 0 0) 0 0 27 [(0, .ref 18), (1, .int x1), (2, .int x2), (3, .int x6), (4, .int r22), (5, .int (r16 + r19)), (6, .int (x6 + 1))] [] h20 (kI K)) ∧ (¬ x4 < r22 → (r22 ≤ 0 → AW (m_X1_bestParting (d + 4) 0 0) 0 0 27 [(0, .ref 18), (1, .int x1), (2, .int x2), (3, .int x3), (4, .int x4), (5, .int x5), (6, .int (x6 + 1))] [] h20 (kI K)) ∧ (¬ r22 ≤ 0 → (¬ r22 = x4 → AW (m_X1_bestParting (d + 4) 0 0) 0 0 27 [(0, .ref 18), (1, .int x1), (2, .int x2), (3, .int x3), (4, .int x4), (5, .int x5), (6, .int (x6 + 1))] [] h20 (kI K)) ∧ (r22 = x4 → ((r16 + r19) ≤ x5 → AW (m_X1_bestParting (d + 4) 0 0) 0 0 27 [(0, .ref 18), (1, .int x1), (2, .int x2), (3, .int x3), (4, .int x4), (5, .int x5), (6, .int (x6 + 1))] [] h20 (kI K)) ∧ (¬ (r16 + r19) ≤ x5 → AW (m_X1_bestParting (d + 4) 0 0) 0 0 27 [(0, .ref 18), (1, .int x1), (2, .int x2), (3, .int x6), (4, .int r22), (5, .int (r16 + r19)), (6, .int (x6 + 1))] [] h20 (kI K)))))))))))) ∧ (r11 = 2 → AW (m_X1_bestParting (d + 4) 0 0) 0 0 27 [(0, .ref 18), (1, .int x1), (2, .int x2), (3, .int x3), (4, .int x4), (5, .int x5), (6, .int (x6 + 1))] [] h9 (kI K))))))) : AW (m_X1_bestParting (d + 4) 0 0) 0 0 27 [(0, .ref 18), (1, .int x1), (2, .int x2), (3, .int x3), (4, .int x4), (5, .int x5), (6, .int x6)] [] h (kI K) := by
  refine aw_iload d_X1_bestParting_27 6 rfl ?_
  refine aw_bipush (v := 8) d_X1_bestParting_29 ib_8 ?_
  refine aw_icmp_ge (tgt := 141) d_X1_bestParting_31 rfl (fun c8 => ?_) (fun c8 => ?_)
  · have k := k.1 c8
    refine aw_iload_n (i := 3) rfl d_X1_bestParting_141 3 rfl ?_
    exact aw_iret rfl d_X1_bestParting_142 ⟨Nat.le_refl _, Nat.le_refl _⟩ ⟨_, rfl, k⟩
  · have k := k.2 c8
    refine aw_aload_n (i := 0) rfl d_X1_bestParting_34 0 rfl ?_
    refine aw_iload d_X1_bestParting_35 6 rfl ?_
    refine aw_Vi 18 [.int x6] [] d_X1_bestParting_37 (cV_X1_verdictOn (d + 1) 0 0) kc_1 (ws_18 w) tw_1261 rfl (rr0 (Nat.le_of_ble_eq_true rfl) (Nat.le_of_ble_eq_true rfl)) (Nat.le_of_ble_eq_true rfl) xs0 k (fun r11 h9 kk => ?_)
    obtain ⟨w10, k⟩ := kk
    refine aw_istore [(0, .ref 18), (1, .int x1), (2, .int x2), (3, .int x3), (4, .int x4), (5, .int x5), (6, .int x6), (7, .int r11)] d_X1_bestParting_40 (Nat.le_of_ble_eq_true rfl) rfl rfl ?_
    refine aw_iload d_X1_bestParting_42 7 rfl ?_
    refine aw_iconst (v := 1) d_X1_bestParting_44 ic_1 ?_
    refine aw_icmp_eq (tgt := 135) d_X1_bestParting_45 rfl (fun c12 => ?_) (fun c12 => ?_)
    · have k := k.1 c12
      refine aw_iinc (v := (x6 + 1)) [(0, .ref 18), (1, .int x1), (2, .int x2), (3, .int x3), (4, .int x4), (5, .int x5), (6, .int (x6 + 1)), (7, .int r11)] d_X1_bestParting_135 6 rfl rfl (Nat.le_of_ble_eq_true rfl) rfl rfl ?_
      refine aw_goto (tgt := 27) d_X1_bestParting_138 rfl ?_
      exact aw_lvp [0, 1, 2, 3, 4, 5, 6] [(0, .ref 18), (1, .int x1), (2, .int x2), (3, .int x3), (4, .int x4), (5, .int x5), (6, .int (x6 + 1))] rfl k
    · have k := k.2 c12
      refine aw_iload d_X1_bestParting_48 7 rfl ?_
      refine aw_iconst (v := 2) d_X1_bestParting_50 ic_2 ?_
      refine aw_icmp_ne (tgt := 57) d_X1_bestParting_51 rfl (fun c13 => ?_) (fun c13 => ?_)
      · have k := k.1 c13
        refine aw_aload_n (i := 0) rfl d_X1_bestParting_57 0 rfl ?_
        refine aw_iload_n (i := 1) rfl d_X1_bestParting_58 1 rfl ?_
        refine aw_iload_n (i := 2) rfl d_X1_bestParting_59 2 rfl ?_
        refine aw_iconst (v := 1) d_X1_bestParting_60 ic_1 ?_
        refine aw_iload d_X1_bestParting_61 6 rfl ?_
        refine aw_ishl d_X1_bestParting_63 ?_
        refine aw_iconst (v := 1) d_X1_bestParting_64 ic_1 ?_
        refine aw_Vi 18 [.int x1, .int x2, .int ((1 : Int32) <<< (x6 &&& 31)), .int 1] [] d_X1_bestParting_65 (cV_X1_countStories (d + 3) 0 0) kc_1 (ws_18 w10) tw_1293 rfl (rr0 (Nat.le_of_ble_eq_true rfl) (Nat.le_of_ble_eq_true rfl)) (Nat.le_of_ble_eq_true rfl) xs0 k (fun r16 h14 kk => ?_)
        obtain ⟨w15, k⟩ := kk
        refine aw_istore [(0, .ref 18), (1, .int x1), (2, .int x2), (3, .int x3), (4, .int x4), (5, .int x5), (6, .int x6), (7, .int r11), (8, .int r16)] d_X1_bestParting_68 (Nat.le_of_ble_eq_true rfl) rfl rfl ?_
        refine aw_aload_n (i := 0) rfl d_X1_bestParting_70 0 rfl ?_
        refine aw_iload_n (i := 1) rfl d_X1_bestParting_71 1 rfl ?_
        refine aw_iload_n (i := 2) rfl d_X1_bestParting_72 2 rfl ?_
        refine aw_iconst (v := 1) d_X1_bestParting_73 ic_1 ?_
        refine aw_iload d_X1_bestParting_74 6 rfl ?_
        refine aw_ishl d_X1_bestParting_76 ?_
        refine aw_iconst (v := 0) d_X1_bestParting_77 ic_0 ?_
        refine aw_Vi 18 [.int x1, .int x2, .int ((1 : Int32) <<< (x6 &&& 31)), .int 0] [] d_X1_bestParting_78 (cV_X1_countStories (d + 3) 0 0) kc_1 (ws_18 w15) tw_1293 rfl (rr0 (Nat.le_of_ble_eq_true rfl) (Nat.le_of_ble_eq_true rfl)) (Nat.le_of_ble_eq_true rfl) xs0 k (fun r19 h17 kk => ?_)
        obtain ⟨w18, k⟩ := kk
        refine aw_istore [(0, .ref 18), (1, .int x1), (2, .int x2), (3, .int x3), (4, .int x4), (5, .int x5), (6, .int x6), (7, .int r11), (8, .int r16), (9, .int r19)] d_X1_bestParting_81 (Nat.le_of_ble_eq_true rfl) rfl rfl ?_
        refine aw_iload d_X1_bestParting_83 8 rfl ?_
        refine aw_iload d_X1_bestParting_85 9 rfl ?_
        refine aw_Si [.int r16, .int r19] [] d_X1_bestParting_87 (cS_J9_min_7cf53 (d + 0) 0 0) tw_1313 rfl (rr0 (Nat.le_of_ble_eq_true rfl) (Nat.le_of_ble_eq_true rfl)) (Nat.le_of_ble_eq_true rfl) xs0 k (fun r22 h20 kk => ?_)
        obtain ⟨w21, k⟩ := kk
        refine aw_istore [(0, .ref 18), (1, .int x1), (2, .int x2), (3, .int x3), (4, .int x4), (5, .int x5), (6, .int x6), (7, .int r11), (8, .int r16), (9, .int r19), (10, .int r22)] d_X1_bestParting_90 (Nat.le_of_ble_eq_true rfl) rfl rfl ?_
        refine aw_iload d_X1_bestParting_92 10 rfl ?_
        refine aw_iload d_X1_bestParting_94 4 rfl ?_
        refine aw_icmp_gt (tgt := 121) d_X1_bestParting_96 rfl (fun c23 => ?_) (fun c23 => ?_)
        · have k := k.1 c23
          refine aw_iload d_X1_bestParting_121 6 rfl ?_
          refine aw_istore_n (i := 3) rfl [(0, .ref 18), (1, .int x1), (2, .int x2), (3, .int x6), (4, .int x4), (5, .int x5), (6, .int x6), (7, .int r11), (8, .int r16), (9, .int r19), (10, .int r22)] d_X1_bestParting_123 (Nat.le_of_ble_eq_true rfl) rfl rfl ?_
          refine aw_iload d_X1_bestParting_124 10 rfl ?_
          refine aw_istore [(0, .ref 18), (1, .int x1), (2, .int x2), (3, .int x6), (4, .int r22), (5, .int x5), (6, .int x6), (7, .int r11), (8, .int r16), (9, .int r19), (10, .int r22)] d_X1_bestParting_126 (Nat.le_of_ble_eq_true rfl) rfl rfl ?_
          refine aw_iload d_X1_bestParting_128 8 rfl ?_
          refine aw_iload d_X1_bestParting_130 9 rfl ?_
          refine aw_iadd d_X1_bestParting_132 ?_
          refine aw_istore [(0, .ref 18), (1, .int x1), (2, .int x2), (3, .int x6), (4, .int r22), (5, .int (r16 + r19)), (6, .int x6), (7, .int r11), (8, .int r16), (9, .int r19), (10, .int r22)] d_X1_bestParting_133 (Nat.le_of_ble_eq_true rfl) rfl rfl ?_
          refine aw_iinc (v := (x6 + 1)) [(0, .ref 18), (1, .int x1), (2, .int x2), (3, .int x6), (4, .int r22), (5, .int (r16 + r19)), (6, .int (x6 + 1)), (7, .int r11), (8, .int r16), (9, .int r19), (10, .int r22)] d_X1_bestParting_135 6 rfl rfl (Nat.le_of_ble_eq_true rfl) rfl rfl ?_
          refine aw_goto (tgt := 27) d_X1_bestParting_138 rfl ?_
          exact aw_lvp [0, 1, 2, 3, 4, 5, 6] [(0, .ref 18), (1, .int x1), (2, .int x2), (3, .int x6), (4, .int r22), (5, .int (r16 + r19)), (6, .int (x6 + 1))] rfl k
        · have k := k.2 c23
          refine aw_iload d_X1_bestParting_99 10 rfl ?_
          refine aw_if_le (tgt := 135) d_X1_bestParting_101 rfl (fun c24 => ?_) (fun c24 => ?_)
          · have k := k.1 c24
            refine aw_iinc (v := (x6 + 1)) [(0, .ref 18), (1, .int x1), (2, .int x2), (3, .int x3), (4, .int x4), (5, .int x5), (6, .int (x6 + 1)), (7, .int r11), (8, .int r16), (9, .int r19), (10, .int r22)] d_X1_bestParting_135 6 rfl rfl (Nat.le_of_ble_eq_true rfl) rfl rfl ?_
            refine aw_goto (tgt := 27) d_X1_bestParting_138 rfl ?_
            exact aw_lvp [0, 1, 2, 3, 4, 5, 6] [(0, .ref 18), (1, .int x1), (2, .int x2), (3, .int x3), (4, .int x4), (5, .int x5), (6, .int (x6 + 1))] rfl k
          · have k := k.2 c24
            refine aw_iload d_X1_bestParting_104 10 rfl ?_
            refine aw_iload d_X1_bestParting_106 4 rfl ?_
            refine aw_icmp_ne (tgt := 135) d_X1_bestParting_108 rfl (fun c25 => ?_) (fun c25 => ?_)
            · have k := k.1 c25
              refine aw_iinc (v := (x6 + 1)) [(0, .ref 18), (1, .int x1), (2, .int x2), (3, .int x3), (4, .int x4), (5, .int x5), (6, .int (x6 + 1)), (7, .int r11), (8, .int r16), (9, .int r19), (10, .int r22)] d_X1_bestParting_135 6 rfl rfl (Nat.le_of_ble_eq_true rfl) rfl rfl ?_
              refine aw_goto (tgt := 27) d_X1_bestParting_138 rfl ?_
              exact aw_lvp [0, 1, 2, 3, 4, 5, 6] [(0, .ref 18), (1, .int x1), (2, .int x2), (3, .int x3), (4, .int x4), (5, .int x5), (6, .int (x6 + 1))] rfl k
            · have k := k.2 c25
              refine aw_iload d_X1_bestParting_111 8 rfl ?_
              refine aw_iload d_X1_bestParting_113 9 rfl ?_
              refine aw_iadd d_X1_bestParting_115 ?_
              refine aw_iload d_X1_bestParting_116 5 rfl ?_
              refine aw_icmp_le (tgt := 135) d_X1_bestParting_118 rfl (fun c26 => ?_) (fun c26 => ?_)
              · have k := k.1 c26
                refine aw_iinc (v := (x6 + 1)) [(0, .ref 18), (1, .int x1), (2, .int x2), (3, .int x3), (4, .int x4), (5, .int x5), (6, .int (x6 + 1)), (7, .int r11), (8, .int r16), (9, .int r19), (10, .int r22)] d_X1_bestParting_135 6 rfl rfl (Nat.le_of_ble_eq_true rfl) rfl rfl ?_
                refine aw_goto (tgt := 27) d_X1_bestParting_138 rfl ?_
                exact aw_lvp [0, 1, 2, 3, 4, 5, 6] [(0, .ref 18), (1, .int x1), (2, .int x2), (3, .int x3), (4, .int x4), (5, .int x5), (6, .int (x6 + 1))] rfl k
              · have k := k.2 c26
                refine aw_iload d_X1_bestParting_121 6 rfl ?_
                refine aw_istore_n (i := 3) rfl [(0, .ref 18), (1, .int x1), (2, .int x2), (3, .int x6), (4, .int x4), (5, .int x5), (6, .int x6), (7, .int r11), (8, .int r16), (9, .int r19), (10, .int r22)] d_X1_bestParting_123 (Nat.le_of_ble_eq_true rfl) rfl rfl ?_
                refine aw_iload d_X1_bestParting_124 10 rfl ?_
                refine aw_istore [(0, .ref 18), (1, .int x1), (2, .int x2), (3, .int x6), (4, .int r22), (5, .int x5), (6, .int x6), (7, .int r11), (8, .int r16), (9, .int r19), (10, .int r22)] d_X1_bestParting_126 (Nat.le_of_ble_eq_true rfl) rfl rfl ?_
                refine aw_iload d_X1_bestParting_128 8 rfl ?_
                refine aw_iload d_X1_bestParting_130 9 rfl ?_
                refine aw_iadd d_X1_bestParting_132 ?_
                refine aw_istore [(0, .ref 18), (1, .int x1), (2, .int x2), (3, .int x6), (4, .int r22), (5, .int (r16 + r19)), (6, .int x6), (7, .int r11), (8, .int r16), (9, .int r19), (10, .int r22)] d_X1_bestParting_133 (Nat.le_of_ble_eq_true rfl) rfl rfl ?_
                refine aw_iinc (v := (x6 + 1)) [(0, .ref 18), (1, .int x1), (2, .int x2), (3, .int x6), (4, .int r22), (5, .int (r16 + r19)), (6, .int (x6 + 1)), (7, .int r11), (8, .int r16), (9, .int r19), (10, .int r22)] d_X1_bestParting_135 6 rfl rfl (Nat.le_of_ble_eq_true rfl) rfl rfl ?_
                refine aw_goto (tgt := 27) d_X1_bestParting_138 rfl ?_
                exact aw_lvp [0, 1, 2, 3, 4, 5, 6] [(0, .ref 18), (1, .int x1), (2, .int x2), (3, .int x6), (4, .int r22), (5, .int (r16 + r19)), (6, .int (x6 + 1))] rfl k
      · have k := k.2 c13
        refine aw_goto (tgt := 135) d_X1_bestParting_54 rfl ?_
        refine aw_iinc (v := (x6 + 1)) [(0, .ref 18), (1, .int x1), (2, .int x2), (3, .int x3), (4, .int x4), (5, .int x5), (6, .int (x6 + 1)), (7, .int r11)] d_X1_bestParting_135 6 rfl rfl (Nat.le_of_ble_eq_true rfl) rfl rfl ?_
        refine aw_goto (tgt := 27) d_X1_bestParting_138 rfl ?_
        exact aw_lvp [0, 1, 2, 3, 4, 5, 6] [(0, .ref 18), (1, .int x1), (2, .int x2), (3, .int x3), (4, .int x4), (5, .int x5), (6, .int (x6 + 1))] rfl k
theorem t_X3_bestSum (d : Nat) (h : Hp_) (w : Wf h)  (K : Int32 → Hp_ → Prop) (k : Cv (m_X3_solve (d + 3) 0 0) [.ref 19] h (fun h1 => Wf h1 ∧ (vp_in 0 2304 ∧ (K (h_i h1 88 (0 : Int32).toNatClampNeg) h1)))) : Ci (m_X3_bestSum (d + 4) 0 0) [.ref 19] h K := by
  refine Ct.of (fun _ _ _ => trivial) rfl (Nat.le_of_ble_eq_true rfl) ?_
  show AW (m_X3_bestSum (d + 4) 0 0) 0 0 0 [(0, .ref 19)] [] h (kI K)
  refine aw_aload_n (i := 0) rfl d_X3_bestSum_0 0 rfl ?_
  refine aw_Vv 19 [] [] d_X3_bestSum_1 (cV_X3_solve (d + 3) 0 0) kc_3 (ws_19 w) tw_1339 rfl (rr0 (Nat.le_of_ble_eq_true rfl) (Nat.le_of_ble_eq_true rfl)) (Nat.le_of_ble_eq_true rfl) xs0 k (fun h1 kk => ?_)
  obtain ⟨w2, k⟩ := kk
  refine aw_aload_n (i := 0) rfl d_X3_bestSum_4 0 rfl ?_
  refine aw_getr (k0 := 7) kc_3 (ws_19 w2) (Nat.le_of_ble_eq_true rfl) tw_330 d_X3_bestSum_5 rfl (wr_19_7 w2) ?_
  refine aw_iconst (v := 0) d_X3_bestSum_8 ic_0 ?_
  obtain ⟨b4, k⟩ := k
  refine aw_iald (ws_88 w2) b4 d_X3_bestSum_9 ?_
  exact aw_iret rfl d_X3_bestSum_10 ⟨Nat.le_refl _, Nat.le_refl _⟩ ⟨_, rfl, k⟩
theorem t_X3_firstOf (d : Nat) (h : Hp_) (w : Wf h) (x1 : Int32) (K : Int32 → Hp_ → Prop) (k : Cv (m_X3_solve (d + 3) 0 0) [.ref 19] h (fun h1 => Wf h1 ∧ (Ci (m_X3_hasLost (d + 0) 0 0) [.ref 19, .int x1] h1 (fun r6 h4 => Wf h4 ∧ ((r6 = 0 → K (-1) h4) ∧ (¬ r6 = 0 → vp_in x1 8 ∧ (K (h_i h4 91 x1.toNatClampNeg) h4))))))) : Ci (m_X3_firstOf (d + 4) 0 0) [.ref 19, .int x1] h K := by
  refine Ct.of (fun _ _ _ => trivial) rfl (Nat.le_of_ble_eq_true rfl) ?_
  show AW (m_X3_firstOf (d + 4) 0 0) 0 0 0 [(0, .ref 19), (1, .int x1)] [] h (kI K)
  refine aw_aload_n (i := 0) rfl d_X3_firstOf_0 0 rfl ?_
  refine aw_Vv 19 [] [] d_X3_firstOf_1 (cV_X3_solve (d + 3) 0 0) kc_3 (ws_19 w) tw_1339 rfl (rr0 (Nat.le_of_ble_eq_true rfl) (Nat.le_of_ble_eq_true rfl)) (Nat.le_of_ble_eq_true rfl) xs0 k (fun h1 kk => ?_)
  obtain ⟨w2, k⟩ := kk
  refine aw_aload_n (i := 0) rfl d_X3_firstOf_4 0 rfl ?_
  refine aw_iload_n (i := 1) rfl d_X3_firstOf_5 1 rfl ?_
  refine aw_Vi 19 [.int x1] [] d_X3_firstOf_6 (cV_X3_hasLost (d + 0) 0 0) kc_3 (ws_19 w2) tw_1388 rfl (rr0 (Nat.le_of_ble_eq_true rfl) (Nat.le_of_ble_eq_true rfl)) (Nat.le_of_ble_eq_true rfl) xs0 k (fun r6 h4 kk => ?_)
  obtain ⟨w5, k⟩ := kk
  refine aw_if_eq (tgt := 21) d_X3_firstOf_9 rfl (fun c7 => ?_) (fun c7 => ?_)
  · have k := k.1 c7
    refine aw_iconst (v := (-1)) d_X3_firstOf_21 ic_m1 ?_
    exact aw_iret rfl d_X3_firstOf_22 ⟨Nat.le_refl _, Nat.le_refl _⟩ ⟨_, rfl, k⟩
  · have k := k.2 c7
    refine aw_aload_n (i := 0) rfl d_X3_firstOf_12 0 rfl ?_
    refine aw_getr (k0 := 10) kc_3 (ws_19 w5) (Nat.le_of_ble_eq_true rfl) tw_333 d_X3_firstOf_13 rfl (wr_19_10 w5) ?_
    refine aw_iload_n (i := 1) rfl d_X3_firstOf_16 1 rfl ?_
    obtain ⟨b8, k⟩ := k
    refine aw_iald (ws_91 w5) b8 d_X3_firstOf_17 ?_
    refine aw_goto (tgt := 22) d_X3_firstOf_18 rfl ?_
    exact aw_iret rfl d_X3_firstOf_22 ⟨Nat.le_refl _, Nat.le_refl _⟩ ⟨_, rfl, k⟩
theorem t_X3_foundFor (d : Nat) (h : Hp_) (w : Wf h) (x1 : Int32) (K : Int32 → Hp_ → Prop) (k : Cv (m_X3_solve (d + 3) 0 0) [.ref 19] h (fun h1 => Wf h1 ∧ (Ci (m_X3_hasLost (d + 0) 0 0) [.ref 19, .int x1] h1 (fun r6 h4 => Wf h4 ∧ ((r6 = 0 → K (-1) h4) ∧ (¬ r6 = 0 → vp_in x1 8 ∧ (K ((h_i h4 90 x1.toNatClampNeg) &&& (-257)) h4))))))) : Ci (m_X3_foundFor (d + 4) 0 0) [.ref 19, .int x1] h K := by
  refine Ct.of (fun _ _ _ => trivial) rfl (Nat.le_of_ble_eq_true rfl) ?_
  show AW (m_X3_foundFor (d + 4) 0 0) 0 0 0 [(0, .ref 19), (1, .int x1)] [] h (kI K)
  refine aw_aload_n (i := 0) rfl d_X3_foundFor_0 0 rfl ?_
  refine aw_Vv 19 [] [] d_X3_foundFor_1 (cV_X3_solve (d + 3) 0 0) kc_3 (ws_19 w) tw_1339 rfl (rr0 (Nat.le_of_ble_eq_true rfl) (Nat.le_of_ble_eq_true rfl)) (Nat.le_of_ble_eq_true rfl) xs0 k (fun h1 kk => ?_)
  obtain ⟨w2, k⟩ := kk
  refine aw_aload_n (i := 0) rfl d_X3_foundFor_4 0 rfl ?_
  refine aw_iload_n (i := 1) rfl d_X3_foundFor_5 1 rfl ?_
  refine aw_Vi 19 [.int x1] [] d_X3_foundFor_6 (cV_X3_hasLost (d + 0) 0 0) kc_3 (ws_19 w2) tw_1388 rfl (rr0 (Nat.le_of_ble_eq_true rfl) (Nat.le_of_ble_eq_true rfl)) (Nat.le_of_ble_eq_true rfl) xs0 k (fun r6 h4 kk => ?_)
  obtain ⟨w5, k⟩ := kk
  refine aw_if_eq (tgt := 25) d_X3_foundFor_9 rfl (fun c7 => ?_) (fun c7 => ?_)
  · have k := k.1 c7
    refine aw_iconst (v := (-1)) d_X3_foundFor_25 ic_m1 ?_
    exact aw_iret rfl d_X3_foundFor_26 ⟨Nat.le_refl _, Nat.le_refl _⟩ ⟨_, rfl, k⟩
  · have k := k.2 c7
    refine aw_aload_n (i := 0) rfl d_X3_foundFor_12 0 rfl ?_
    refine aw_getr (k0 := 9) kc_3 (ws_19 w5) (Nat.le_of_ble_eq_true rfl) tw_332 d_X3_foundFor_13 rfl (wr_19_9 w5) ?_
    refine aw_iload_n (i := 1) rfl d_X3_foundFor_16 1 rfl ?_
    obtain ⟨b8, k⟩ := k
    refine aw_iald (ws_90 w5) b8 d_X3_foundFor_17 ?_
    refine aw_sipush (v := (-257)) d_X3_foundFor_18 is_m257 ?_
    refine aw_iand d_X3_foundFor_21 ?_
    refine aw_goto (tgt := 26) d_X3_foundFor_22 rfl ?_
    exact aw_iret rfl d_X3_foundFor_26 ⟨Nat.le_refl _, Nat.le_refl _⟩ ⟨_, rfl, k⟩
theorem t_X3_isSure (d : Nat) (h : Hp_) (w : Wf h) (x1 : Int32) (K : Int32 → Hp_ → Prop) (k : Cv (m_X3_solve (d + 3) 0 0) [.ref 19] h (fun h1 => Wf h1 ∧ (Ci (m_X3_hasLost (d + 0) 0 0) [.ref 19, .int x1] h1 (fun r6 h4 => Wf h4 ∧ ((r6 = 0 → K 0 h4) ∧ (¬ r6 = 0 → vp_in x1 8 ∧ (Ci (m_J6_bitCount_0f7a4 (d + 0) 0 0) [.int (h_i h4 90 x1.toNatClampNeg)] h4 (fun r11 h9 => Wf h9 ∧ ((¬ r11 = 1 → K 0 h9) ∧ (r11 = 1 → K 1 h9)))))))))) : Ci (m_X3_isSure (d + 4) 0 0) [.ref 19, .int x1] h K := by
  refine Ct.of (fun _ _ _ => trivial) rfl (Nat.le_of_ble_eq_true rfl) ?_
  show AW (m_X3_isSure (d + 4) 0 0) 0 0 0 [(0, .ref 19), (1, .int x1)] [] h (kI K)
  refine aw_aload_n (i := 0) rfl d_X3_isSure_0 0 rfl ?_
  refine aw_Vv 19 [] [] d_X3_isSure_1 (cV_X3_solve (d + 3) 0 0) kc_3 (ws_19 w) tw_1339 rfl (rr0 (Nat.le_of_ble_eq_true rfl) (Nat.le_of_ble_eq_true rfl)) (Nat.le_of_ble_eq_true rfl) xs0 k (fun h1 kk => ?_)
  obtain ⟨w2, k⟩ := kk
  refine aw_aload_n (i := 0) rfl d_X3_isSure_4 0 rfl ?_
  refine aw_iload_n (i := 1) rfl d_X3_isSure_5 1 rfl ?_
  refine aw_Vi 19 [.int x1] [] d_X3_isSure_6 (cV_X3_hasLost (d + 0) 0 0) kc_3 (ws_19 w2) tw_1388 rfl (rr0 (Nat.le_of_ble_eq_true rfl) (Nat.le_of_ble_eq_true rfl)) (Nat.le_of_ble_eq_true rfl) xs0 k (fun r6 h4 kk => ?_)
  obtain ⟨w5, k⟩ := kk
  refine aw_if_eq (tgt := 29) d_X3_isSure_9 rfl (fun c7 => ?_) (fun c7 => ?_)
  · have k := k.1 c7
    refine aw_iconst (v := 0) d_X3_isSure_29 ic_0 ?_
    exact aw_zret rfl rfl d_X3_isSure_30 ⟨Nat.le_refl _, Nat.le_refl _⟩ ⟨_, rfl, k⟩
  · have k := k.2 c7
    refine aw_aload_n (i := 0) rfl d_X3_isSure_12 0 rfl ?_
    refine aw_getr (k0 := 9) kc_3 (ws_19 w5) (Nat.le_of_ble_eq_true rfl) tw_332 d_X3_isSure_13 rfl (wr_19_9 w5) ?_
    refine aw_iload_n (i := 1) rfl d_X3_isSure_16 1 rfl ?_
    obtain ⟨b8, k⟩ := k
    refine aw_iald (ws_90 w5) b8 d_X3_isSure_17 ?_
    refine aw_Si [.int (h_i h4 90 x1.toNatClampNeg)] [] d_X3_isSure_18 (cS_J6_bitCount_0f7a4 (d + 0) 0 0) tw_1405 rfl (rr0 (Nat.le_of_ble_eq_true rfl) (Nat.le_of_ble_eq_true rfl)) (Nat.le_of_ble_eq_true rfl) xs0 k (fun r11 h9 kk => ?_)
    obtain ⟨w10, k⟩ := kk
    refine aw_iconst (v := 1) d_X3_isSure_21 ic_1 ?_
    refine aw_icmp_ne (tgt := 29) d_X3_isSure_22 rfl (fun c12 => ?_) (fun c12 => ?_)
    · have k := k.1 c12
      refine aw_iconst (v := 0) d_X3_isSure_29 ic_0 ?_
      exact aw_zret rfl rfl d_X3_isSure_30 ⟨Nat.le_refl _, Nat.le_refl _⟩ ⟨_, rfl, k⟩
    · have k := k.2 c12
      refine aw_iconst (v := 1) d_X3_isSure_25 ic_1 ?_
      refine aw_goto (tgt := 30) d_X3_isSure_26 rfl ?_
      exact aw_zret rfl rfl d_X3_isSure_30 ⟨Nat.le_refl _, Nat.le_refl _⟩ ⟨_, rfl, k⟩
theorem t_X4_countTaken (d : Nat) (h : Hp_) (x1 : Int32) (x2 : Int32) (x4 : Int32) (x5 : Int32) (K : Int32 → Hp_ → Prop) (k : AW (m_X4_countTaken (d + 4) 0 0) 0 0 6 [(0, .ref 17), (1, .int x1), (2, .int x2), (3, .ref 13), (4, .int x4), (5, .int x5), (6, .int 0), (7, .int 0)] [] h (kI K)) : Ci (m_X4_countTaken (d + 4) 0 0) [.ref 17, .int x1, .int x2, .ref 13, .int x4, .int x5] h K := by
  refine Ct.of (fun _ _ _ => trivial) rfl (Nat.le_of_ble_eq_true rfl) ?_
  show AW (m_X4_countTaken (d + 4) 0 0) 0 0 0 [(0, .ref 17), (1, .int x1), (2, .int x2), (3, .ref 13), (4, .int x4), (5, .int x5)] [] h (kI K)
  refine aw_iconst (v := 0) d_X4_countTaken_0 ic_0 ?_
  refine aw_istore [(0, .ref 17), (1, .int x1), (2, .int x2), (3, .ref 13), (4, .int x4), (5, .int x5), (6, .int 0)] d_X4_countTaken_1 (Nat.le_of_ble_eq_true rfl) rfl rfl ?_
  refine aw_iconst (v := 0) d_X4_countTaken_3 ic_0 ?_
  refine aw_istore [(0, .ref 17), (1, .int x1), (2, .int x2), (3, .ref 13), (4, .int x4), (5, .int x5), (6, .int 0), (7, .int 0)] d_X4_countTaken_4 (Nat.le_of_ble_eq_true rfl) rfl rfl ?_
  exact k
theorem t_X4_countTaken_6 (d : Nat) (h : Hp_) (w : Wf h) (x1 : Int32) (x2 : Int32) (x4 : Int32) (x5 : Int32) (x6 : Int32) (x7 : Int32) (K : Int32 → Hp_ → Prop) (k : ((h_i h 17 16) ≤ x7 → K x6 h) ∧ (¬ (h_i h 17 16) ≤ x7 → vp_in x7 300 ∧ ((¬ (h_i h 64 x7.toNatClampNeg) = x1 → AW (m_X4_countTaken (d + 4) 0 0) 0 0 6 [(0, .ref 17), (1, .int x1), (2, .int x2), (3, .ref 13), (4, .int x4), (5, .int x5), (6, .int x6), (7, .int (x7 + 1))] [] h (kI K)) ∧ ((h_i h 64 x7.toNatClampNeg) = x1 → vp_in x7 300 ∧ ((¬ (h_i h 67 x7.toNatClampNeg) = 3 → AW (m_X4_countTaken (d + 4) 0 0) 0 0 6 [(0, .ref 17), (1, .int x1), (2, .int x2), (3, .ref 13), (4, .int x4), (5, .int x5), (6, .int x6), (7, .int (x7 + 1))] [] h (kI K)) ∧ ((h_i h 67 x7.toNatClampNeg) = 3 → vp_in x7 300 ∧ ((¬ ((h_i h 66 x7.toNatClampNeg) / 1440) = x2 → AW (m_X4_countTaken (d + 4) 0 0) 0 0 6 [(0, .ref 17), (1, .int x1), (2, .int x2), (3, .ref 13), (4, .int x4), (5, .int x5), (6, .int x6), (7, .int (x7 + 1))] [] h (kI K)) ∧ (((h_i h 66 x7.toNatClampNeg) / 1440) = x2 → Ci (m_X4_due (d + 3) 0 0) [.ref 17, .int x7, .ref 13, .int x4] h (fun r10 h8 => Wf h8 ∧ ((¬ r10 = 3 → (¬ 0 = x5 → AW (m_X4_countTaken (d + 4) 0 0) 0 0 6 [(0, .ref 17), (1, .int x1), (2, .int x2), (3, .ref 13), (4, .int x4), (5, .int x5), (6, .int x6), (7, .int (x7 + 1))] [] h8 (kI K)) ∧ (0 = x5 → AW (m_X4_countTaken (d + 4) 0 0) 0 0 6 [(0, .ref 17), (1, .int x1), (2, .int x2), (3, .ref 13), (4, .int x4), (5, .int x5), (6, .int (x6 + 1)), (7, .int (x7 + 1))] [] h8 (kI K))) ∧ (r10 = 3 → (¬ 1 = x5 → AW (m_X4_countTaken (d + 4) 0 0) 0 0 6 [(0, .ref 17), (1, .int x1), (2, .int x2), (3, .ref 13), (4, .int x4), (5, .int x5), (6, .int x6), (7, .int (x7 + 1))] [] h8 (kI K)) ∧ (1 = x5 → AW (m_X4_countTaken (d + 4) 0 0) 0 0 6 [(0, .ref 17), (1, .int x1), (2, .int x2), (3, .ref 13), (4, .int x4), (5, .int x5), (6, .int (x6 + 1)), (7, .int (x7 + 1))] [] h8 (kI K))))))))))))) : AW (m_X4_countTaken (d + 4) 0 0) 0 0 6 [(0, .ref 17), (1, .int x1), (2, .int x2), (3, .ref 13), (4, .int x4), (5, .int x5), (6, .int x6), (7, .int x7)] [] h (kI K) := by
  refine aw_iload d_X4_countTaken_6 7 rfl ?_
  refine aw_aload_n (i := 0) rfl d_X4_countTaken_8 0 rfl ?_
  refine aw_geti (k0 := 16) kc_4 (ws_17 w) (Nat.le_of_ble_eq_true rfl) tw_215 d_X4_countTaken_9 rfl ?_
  refine aw_icmp_ge (tgt := 84) d_X4_countTaken_12 rfl (fun c1 => ?_) (fun c1 => ?_)
  · have k := k.1 c1
    refine aw_iload d_X4_countTaken_84 6 rfl ?_
    exact aw_iret rfl d_X4_countTaken_86 ⟨Nat.le_refl _, Nat.le_refl _⟩ ⟨_, rfl, k⟩
  · have k := k.2 c1
    refine aw_aload_n (i := 0) rfl d_X4_countTaken_15 0 rfl ?_
    refine aw_getr (k0 := 9) kc_4 (ws_17 w) (Nat.le_of_ble_eq_true rfl) tw_207 d_X4_countTaken_16 rfl (wr_17_9 w) ?_
    refine aw_iload d_X4_countTaken_19 7 rfl ?_
    obtain ⟨b2, k⟩ := k
    refine aw_iald (ws_64 w) b2 d_X4_countTaken_21 ?_
    refine aw_iload_n (i := 1) rfl d_X4_countTaken_22 1 rfl ?_
    refine aw_icmp_ne (tgt := 78) d_X4_countTaken_23 rfl (fun c3 => ?_) (fun c3 => ?_)
    · have k := k.1 c3
      refine aw_iinc (v := (x7 + 1)) [(0, .ref 17), (1, .int x1), (2, .int x2), (3, .ref 13), (4, .int x4), (5, .int x5), (6, .int x6), (7, .int (x7 + 1))] d_X4_countTaken_78 7 rfl rfl (Nat.le_of_ble_eq_true rfl) rfl rfl ?_
      refine aw_goto (tgt := 6) d_X4_countTaken_81 rfl ?_
      exact k
    · have k := k.2 c3
      refine aw_aload_n (i := 0) rfl d_X4_countTaken_26 0 rfl ?_
      refine aw_getr (k0 := 12) kc_4 (ws_17 w) (Nat.le_of_ble_eq_true rfl) tw_210 d_X4_countTaken_27 rfl (wr_17_12 w) ?_
      refine aw_iload d_X4_countTaken_30 7 rfl ?_
      obtain ⟨b4, k⟩ := k
      refine aw_iald (ws_67 w) b4 d_X4_countTaken_32 ?_
      refine aw_iconst (v := 3) d_X4_countTaken_33 ic_3 ?_
      refine aw_icmp_ne (tgt := 78) d_X4_countTaken_34 rfl (fun c5 => ?_) (fun c5 => ?_)
      · have k := k.1 c5
        refine aw_iinc (v := (x7 + 1)) [(0, .ref 17), (1, .int x1), (2, .int x2), (3, .ref 13), (4, .int x4), (5, .int x5), (6, .int x6), (7, .int (x7 + 1))] d_X4_countTaken_78 7 rfl rfl (Nat.le_of_ble_eq_true rfl) rfl rfl ?_
        refine aw_goto (tgt := 6) d_X4_countTaken_81 rfl ?_
        exact k
      · have k := k.2 c5
        refine aw_aload_n (i := 0) rfl d_X4_countTaken_37 0 rfl ?_
        refine aw_getr (k0 := 11) kc_4 (ws_17 w) (Nat.le_of_ble_eq_true rfl) tw_209 d_X4_countTaken_38 rfl (wr_17_11 w) ?_
        refine aw_iload d_X4_countTaken_41 7 rfl ?_
        obtain ⟨b6, k⟩ := k
        refine aw_iald (ws_66 w) b6 d_X4_countTaken_43 ?_
        refine aw_sipush (v := 1440) d_X4_countTaken_44 is_1440 ?_
        refine aw_idiv d_X4_countTaken_47 (by decide) ?_
        refine aw_iload_n (i := 2) rfl d_X4_countTaken_48 2 rfl ?_
        refine aw_icmp_ne (tgt := 78) d_X4_countTaken_49 rfl (fun c7 => ?_) (fun c7 => ?_)
        · have k := k.1 c7
          refine aw_iinc (v := (x7 + 1)) [(0, .ref 17), (1, .int x1), (2, .int x2), (3, .ref 13), (4, .int x4), (5, .int x5), (6, .int x6), (7, .int (x7 + 1))] d_X4_countTaken_78 7 rfl rfl (Nat.le_of_ble_eq_true rfl) rfl rfl ?_
          refine aw_goto (tgt := 6) d_X4_countTaken_81 rfl ?_
          exact k
        · have k := k.2 c7
          refine aw_aload_n (i := 0) rfl d_X4_countTaken_52 0 rfl ?_
          refine aw_iload d_X4_countTaken_53 7 rfl ?_
          refine aw_aload_n (i := 3) rfl d_X4_countTaken_55 3 rfl ?_
          refine aw_iload d_X4_countTaken_56 4 rfl ?_
          refine aw_Vi 17 [.int x7, .ref 13, .int x4] [] d_X4_countTaken_58 (cV_X4_due (d + 3) 0 0) kc_4 (ws_17 w) tw_1601 rfl (rr0 (Nat.le_of_ble_eq_true rfl) (Nat.le_of_ble_eq_true rfl)) (Nat.le_of_ble_eq_true rfl) xs0 k (fun r10 h8 kk => ?_)
          obtain ⟨w9, k⟩ := kk
          refine aw_iconst (v := 3) d_X4_countTaken_61 ic_3 ?_
          refine aw_icmp_ne (tgt := 69) d_X4_countTaken_62 rfl (fun c11 => ?_) (fun c11 => ?_)
          · have k := k.1 c11
            refine aw_iconst (v := 0) d_X4_countTaken_69 ic_0 ?_
            refine aw_iload d_X4_countTaken_70 5 rfl ?_
            refine aw_icmp_ne (tgt := 78) d_X4_countTaken_72 rfl (fun c12 => ?_) (fun c12 => ?_)
            · have k := k.1 c12
              refine aw_iinc (v := (x7 + 1)) [(0, .ref 17), (1, .int x1), (2, .int x2), (3, .ref 13), (4, .int x4), (5, .int x5), (6, .int x6), (7, .int (x7 + 1))] d_X4_countTaken_78 7 rfl rfl (Nat.le_of_ble_eq_true rfl) rfl rfl ?_
              refine aw_goto (tgt := 6) d_X4_countTaken_81 rfl ?_
              exact k
            · have k := k.2 c12
              refine aw_iinc (v := (x6 + 1)) [(0, .ref 17), (1, .int x1), (2, .int x2), (3, .ref 13), (4, .int x4), (5, .int x5), (6, .int (x6 + 1)), (7, .int x7)] d_X4_countTaken_75 6 rfl rfl (Nat.le_of_ble_eq_true rfl) rfl rfl ?_
              refine aw_iinc (v := (x7 + 1)) [(0, .ref 17), (1, .int x1), (2, .int x2), (3, .ref 13), (4, .int x4), (5, .int x5), (6, .int (x6 + 1)), (7, .int (x7 + 1))] d_X4_countTaken_78 7 rfl rfl (Nat.le_of_ble_eq_true rfl) rfl rfl ?_
              refine aw_goto (tgt := 6) d_X4_countTaken_81 rfl ?_
              exact k
          · have k := k.2 c11
            refine aw_iconst (v := 1) d_X4_countTaken_65 ic_1 ?_
            refine aw_goto (tgt := 70) d_X4_countTaken_66 rfl ?_
            refine aw_iload d_X4_countTaken_70 5 rfl ?_
            refine aw_icmp_ne (tgt := 78) d_X4_countTaken_72 rfl (fun c13 => ?_) (fun c13 => ?_)
            · have k := k.1 c13
              refine aw_iinc (v := (x7 + 1)) [(0, .ref 17), (1, .int x1), (2, .int x2), (3, .ref 13), (4, .int x4), (5, .int x5), (6, .int x6), (7, .int (x7 + 1))] d_X4_countTaken_78 7 rfl rfl (Nat.le_of_ble_eq_true rfl) rfl rfl ?_
              refine aw_goto (tgt := 6) d_X4_countTaken_81 rfl ?_
              exact k
            · have k := k.2 c13
              refine aw_iinc (v := (x6 + 1)) [(0, .ref 17), (1, .int x1), (2, .int x2), (3, .ref 13), (4, .int x4), (5, .int x5), (6, .int (x6 + 1)), (7, .int x7)] d_X4_countTaken_75 6 rfl rfl (Nat.le_of_ble_eq_true rfl) rfl rfl ?_
              refine aw_iinc (v := (x7 + 1)) [(0, .ref 17), (1, .int x1), (2, .int x2), (3, .ref 13), (4, .int x4), (5, .int x5), (6, .int (x6 + 1)), (7, .int (x7 + 1))] d_X4_countTaken_78 7 rfl rfl (Nat.le_of_ble_eq_true rfl) rfl rfl ?_
              refine aw_goto (tgt := 6) d_X4_countTaken_81 rfl ?_
              exact k
theorem t_X6_sightOf (d : Nat) (h : Hp_) (x1 : Int32) (K : Int64 → Hp_ → Prop) (k : AW (m_X6_sightOf (d + 4) 0 0) 0 0 6 [(0, .ref 20), (1, .int x1), (2, .ref 12), (3, .ref 10), (4, .long (0 : Int64)), (6, .int 0)] [] h (kL K)) : Cl_ (m_X6_sightOf (d + 4) 0 0) [.ref 20, .int x1, .ref 12, .ref 10] h K := by
  refine Ct.of (fun _ _ _ => trivial) rfl (Nat.le_of_ble_eq_true rfl) ?_
  show AW (m_X6_sightOf (d + 4) 0 0) 0 0 0 [(0, .ref 20), (1, .int x1), (2, .ref 12), (3, .ref 10)] [] h (kL K)
  refine aw_lconst (v := 0) d_X6_sightOf_0 rfl ?_
  refine aw_lstore [(0, .ref 20), (1, .int x1), (2, .ref 12), (3, .ref 10), (4, .long (0 : Int64))] d_X6_sightOf_1 (Nat.le_of_ble_eq_true rfl) rfl rfl ?_
  refine aw_iconst (v := 0) d_X6_sightOf_3 ic_0 ?_
  refine aw_istore [(0, .ref 20), (1, .int x1), (2, .ref 12), (3, .ref 10), (4, .long (0 : Int64)), (6, .int 0)] d_X6_sightOf_4 (Nat.le_of_ble_eq_true rfl) rfl rfl ?_
  exact k
theorem t_X6_sightOf_6 (d : Nat) (h : Hp_) (w : Wf h) (x1 : Int32) (x4 : Int64) (x6 : Int32) (K : Int64 → Hp_ → Prop) (k : ((h_i h 20 3) ≤ x6 → K x4 h) ∧ (¬ (h_i h 20 3) ≤ x6 → Ci (m_X6_isSeen (d + 3) 0 0) [.ref 20, .int x6, .int x1, .ref 12, .ref 10] h (fun r4 h2 => Wf h2 ∧ ((r4 = 0 → AW (m_X6_sightOf (d + 4) 0 0) 0 0 6 [(0, .ref 20), (1, .int x1), (2, .ref 12), (3, .ref 10), (4, .long x4), (6, .int (x6 + 1))] [] h2 (kL K)) ∧ (¬ r4 = 0 → AW (m_X6_sightOf (d + 4) 0 0) 0 0 6 [(0, .ref 20), (1, .int x1), (2, .ref 12), (3, .ref 10), (4, .long (x4 ||| ((1 : Int64) <<< (((4 * x6) : Int32).toInt64 &&& 63)))), (6, .int (x6 + 1))] [] h2 (kL K)))))) : AW (m_X6_sightOf (d + 4) 0 0) 0 0 6 [(0, .ref 20), (1, .int x1), (2, .ref 12), (3, .ref 10), (4, .long x4), (6, .int x6)] [] h (kL K) := by
  refine aw_iload d_X6_sightOf_6 5 rfl ?_
  refine aw_aload_n (i := 0) rfl d_X6_sightOf_8 0 rfl ?_
  refine aw_geti (k0 := 3) kc_6 (ws_20 w) (Nat.le_of_ble_eq_true rfl) tw_366 d_X6_sightOf_9 rfl ?_
  refine aw_icmp_ge (tgt := 44) d_X6_sightOf_12 rfl (fun c1 => ?_) (fun c1 => ?_)
  · have k := k.1 c1
    refine aw_lload d_X6_sightOf_44 4 rfl ?_
    exact aw_lret rfl d_X6_sightOf_46 ⟨Nat.le_refl _, Nat.le_refl _⟩ ⟨_, rfl, k⟩
  · have k := k.2 c1
    refine aw_aload_n (i := 0) rfl d_X6_sightOf_15 0 rfl ?_
    refine aw_iload d_X6_sightOf_16 5 rfl ?_
    refine aw_iload_n (i := 1) rfl d_X6_sightOf_18 1 rfl ?_
    refine aw_aload_n (i := 2) rfl d_X6_sightOf_19 2 rfl ?_
    refine aw_aload_n (i := 3) rfl d_X6_sightOf_20 3 rfl ?_
    refine aw_Vi 20 [.int x6, .int x1, .ref 12, .ref 10] [] d_X6_sightOf_21 (cV_X6_isSeen (d + 3) 0 0) kc_6 (ws_20 w) tw_1459 rfl (rr0 (Nat.le_of_ble_eq_true rfl) (Nat.le_of_ble_eq_true rfl)) (Nat.le_of_ble_eq_true rfl) xs0 k (fun r4 h2 kk => ?_)
    obtain ⟨w3, k⟩ := kk
    refine aw_if_eq (tgt := 38) d_X6_sightOf_24 rfl (fun c5 => ?_) (fun c5 => ?_)
    · have k := k.1 c5
      refine aw_iinc (v := (x6 + 1)) [(0, .ref 20), (1, .int x1), (2, .ref 12), (3, .ref 10), (4, .long x4), (6, .int (x6 + 1))] d_X6_sightOf_38 5 rfl rfl (Nat.le_of_ble_eq_true rfl) rfl rfl ?_
      refine aw_goto (tgt := 6) d_X6_sightOf_41 rfl ?_
      exact k
    · have k := k.2 c5
      refine aw_lload d_X6_sightOf_27 4 rfl ?_
      refine aw_lconst (v := 1) d_X6_sightOf_29 rfl ?_
      refine aw_iconst (v := 4) d_X6_sightOf_30 ic_4 ?_
      refine aw_iload d_X6_sightOf_31 5 rfl ?_
      refine aw_imul d_X6_sightOf_33 ?_
      refine aw_lshl d_X6_sightOf_34 ?_
      refine aw_lor d_X6_sightOf_35 ?_
      refine aw_lstore [(0, .ref 20), (1, .int x1), (2, .ref 12), (3, .ref 10), (4, .long (x4 ||| ((1 : Int64) <<< (((4 * x6) : Int32).toInt64 &&& 63)))), (6, .int x6)] d_X6_sightOf_36 (Nat.le_of_ble_eq_true rfl) rfl rfl ?_
      refine aw_iinc (v := (x6 + 1)) [(0, .ref 20), (1, .int x1), (2, .ref 12), (3, .ref 10), (4, .long (x4 ||| ((1 : Int64) <<< (((4 * x6) : Int32).toInt64 &&& 63)))), (6, .int (x6 + 1))] d_X6_sightOf_38 5 rfl rfl (Nat.le_of_ble_eq_true rfl) rfl rfl ?_
      refine aw_goto (tgt := 6) d_X6_sightOf_41 rfl ?_
      exact k
theorem t_X11_takesTime (d : Nat) (h : Hp_) (w : Wf h) (x1 : Nat) (hs_x1 : h_sh h x1 = some (12, 17)) (lb_x1 : 400 ≤ x1) (K : Int32 → Hp_ → Prop) (k : Ci (m_X0_stepAt (d + 0) 0 0) [.ref 12, .int (h_i h x1 8), .int (h_i h x1 9)] h (fun r3 h1 => Wf h1 ∧ h_sh h1 x1 = some (12, 17) ∧ (Ci (m_X0_kindOf (d + 0) 0 0) [.int r3] h1 (fun r7 h5 => Wf h5 ∧ h_sh h5 x1 = some (12, 17) ∧ ((r7 = 1 → Ci (m_X0_amountOf (d + 0) 0 0) [.int r3] h5 (fun r12 h10 => Wf h10 ∧ h_sh h10 x1 = some (12, 17) ∧ (K 1 (h_im h10 x1 7 ((h_i h5 0 0) + r12))))) ∧ ((r7 = 2 → Ci (m_X11_goesToMeet (d + 3) 0 0) [.ref 0, .ref x1, .int r3] h5 (fun r17 h15 => Wf h15 ∧ ((r17 = 0 ∨ r17 = 1) ∧ (K r17 h15)))) ∧ ((r7 = 3 → K 1 (h_im h5 x1 7 ((h_i h5 0 0) + 1))) ∧ ((¬ r7 = 1 ∧ ¬ r7 = 2 ∧ ¬ r7 = 3 → Ci (m_X0_placeOf (d + 0) 0 0) [.int r3] h5 (fun r22 h20 => Wf h20 ∧ h_sh h20 x1 = some (12, 17) ∧ (Ci (m_X11_setsOut (d + 2) 0 0) [.ref 0, .ref x1, .int r22] h20 (fun r26 h24 => Wf h24 ∧ ((r26 = 0 ∨ r26 = 1) ∧ (K r26 h24)))))))))))))) : Ci (m_X11_takesTime (d + 4) 0 0) [.ref 0, .ref x1] h K := by
  refine Ct.of (fun _ _ _ => trivial) rfl (Nat.le_of_ble_eq_true rfl) ?_
  show AW (m_X11_takesTime (d + 4) 0 0) 0 0 0 [(0, .ref 0), (1, .ref x1)] [] h (kI K)
  refine aw_aload_n (i := 0) rfl d_X11_takesTime_0 0 rfl ?_
  refine aw_getr (k0 := 3) kc_11 (ws_0 w) (Nat.le_of_ble_eq_true rfl) tw_490 d_X11_takesTime_1 rfl (wr_0_3 w) ?_
  refine aw_aload_n (i := 1) rfl d_X11_takesTime_4 1 rfl ?_
  refine aw_geti (k0 := 8) kc_2 (hs_x1) (Nat.le_of_ble_eq_true rfl) tw_588 d_X11_takesTime_5 rfl ?_
  refine aw_aload_n (i := 1) rfl d_X11_takesTime_8 1 rfl ?_
  refine aw_geti (k0 := 9) kc_2 (hs_x1) (Nat.le_of_ble_eq_true rfl) tw_589 d_X11_takesTime_9 rfl ?_
  refine aw_Vi 12 [.int (h_i h x1 8), .int (h_i h x1 9)] [] d_X11_takesTime_12 (cV_X0_stepAt (d + 0) 0 0) kc_0 (ws_12 w) tw_916 rfl (rr0 (Nat.le_of_ble_eq_true rfl) (Nat.le_of_ble_eq_true rfl)) (Nat.le_of_ble_eq_true rfl) xs0 k (fun r3 h1 kk => ?_)
  obtain ⟨w2, q4, k⟩ := kk
  refine aw_istore_n (i := 2) rfl [(0, .ref 0), (1, .ref x1), (2, .int r3)] d_X11_takesTime_15 (Nat.le_of_ble_eq_true rfl) rfl rfl ?_
  refine aw_iload_n (i := 2) rfl d_X11_takesTime_16 2 rfl ?_
  refine aw_Si [.int r3] [] d_X11_takesTime_17 (cS_X0_kindOf (d + 0) 0 0) tw_920 rfl (rr0 (Nat.le_of_ble_eq_true rfl) (Nat.le_of_ble_eq_true rfl)) (Nat.le_of_ble_eq_true rfl) xs0 k (fun r7 h5 kk => ?_)
  obtain ⟨w6, q8, k⟩ := kk
  by_cases e9 : r7 = 1
  · refine aw_tableIn (off := 28) (tgt := 48) d_X11_takesTime_20 (by rw [e9]; decide) (by rw [e9]; decide) (by rw [e9]; decide) rfl ?_
    have k := k.1 e9
    refine aw_aload_n (i := 1) rfl d_X11_takesTime_48 1 rfl ?_
    refine aw_aload_n (i := 0) rfl d_X11_takesTime_49 0 rfl ?_
    refine aw_geti (k0 := 0) kc_11 (ws_0 w6) (Nat.le_of_ble_eq_true rfl) tw_487 d_X11_takesTime_50 rfl ?_
    refine aw_iload_n (i := 2) rfl d_X11_takesTime_53 2 rfl ?_
    refine aw_Si [.int r3] [.int (h_i h5 0 0), .ref x1] d_X11_takesTime_54 (cS_X0_amountOf (d + 0) 0 0) tw_924 rfl (rr0 (Nat.le_of_ble_eq_true rfl) (Nat.le_of_ble_eq_true rfl)) (Nat.le_of_ble_eq_true rfl) xs0 k (fun r12 h10 kk => ?_)
    obtain ⟨w11, q13, k⟩ := kk
    refine aw_iadd d_X11_takesTime_57 ?_
    refine aw_puti (k0 := 7) kc_2 (q13) (Nat.le_of_ble_eq_true rfl) tw_587 d_X11_takesTime_58 rfl rfl nf_i ?_
    refine aw_iconst (v := 1) d_X11_takesTime_61 ic_1 ?_
    exact aw_zret rfl rfl d_X11_takesTime_62 ⟨Nat.le_refl _, Nat.le_refl _⟩ ⟨_, rfl, k⟩
  · have k := k.2
    by_cases e14 : r7 = 2
    · refine aw_tableIn (off := 55) (tgt := 75) d_X11_takesTime_20 (by rw [e14]; decide) (by rw [e14]; decide) (by rw [e14]; decide) rfl ?_
      have k := k.1 e14
      refine aw_aload_n (i := 0) rfl d_X11_takesTime_75 0 rfl ?_
      refine aw_aload_n (i := 1) rfl d_X11_takesTime_76 1 rfl ?_
      refine aw_iload_n (i := 2) rfl d_X11_takesTime_77 2 rfl ?_
      refine aw_Vi 0 [.ref x1, .int r3] [] d_X11_takesTime_78 (cV_X11_goesToMeet (d + 3) 0 0) kc_11 (ws_0 w6) tw_939 rfl (rr0 (Nat.le_of_ble_eq_true rfl) (Nat.le_of_ble_eq_true rfl)) (Nat.le_of_ble_eq_true rfl) xs0 k (fun r17 h15 kk => ?_)
      obtain ⟨w16, k⟩ := kk
      obtain ⟨z18, k⟩ := k
      exact aw_zret rfl (nf_z z18).1 d_X11_takesTime_81 ⟨Nat.le_refl _, Nat.le_refl _⟩ ⟨_, rfl, k⟩
    · have k := k.2
      by_cases e19 : r7 = 3
      · refine aw_tableIn (off := 43) (tgt := 63) d_X11_takesTime_20 (by rw [e19]; decide) (by rw [e19]; decide) (by rw [e19]; decide) rfl ?_
        have k := k.1 e19
        refine aw_aload_n (i := 1) rfl d_X11_takesTime_63 1 rfl ?_
        refine aw_aload_n (i := 0) rfl d_X11_takesTime_64 0 rfl ?_
        refine aw_geti (k0 := 0) kc_11 (ws_0 w6) (Nat.le_of_ble_eq_true rfl) tw_487 d_X11_takesTime_65 rfl ?_
        refine aw_iconst (v := 1) d_X11_takesTime_68 ic_1 ?_
        refine aw_iadd d_X11_takesTime_69 ?_
        refine aw_puti (k0 := 7) kc_2 (q8) (Nat.le_of_ble_eq_true rfl) tw_587 d_X11_takesTime_70 rfl rfl nf_i ?_
        refine aw_iconst (v := 1) d_X11_takesTime_73 ic_1 ?_
        exact aw_zret rfl rfl d_X11_takesTime_74 ⟨Nat.le_refl _, Nat.le_refl _⟩ ⟨_, rfl, k⟩
      · have k := k.2
        have k := k ⟨e9, e14, e19⟩
        have n28 := sw_ne (1) (by decide) e9
        have n29 := sw_ne (2) (by decide) e14
        have n30 := sw_ne (3) (by decide) e19
        refine aw_tableOut (tgt := 82) d_X11_takesTime_20 (by omega) rfl ?_
        refine aw_aload_n (i := 0) rfl d_X11_takesTime_82 0 rfl ?_
        refine aw_aload_n (i := 1) rfl d_X11_takesTime_83 1 rfl ?_
        refine aw_iload_n (i := 2) rfl d_X11_takesTime_84 2 rfl ?_
        refine aw_Si [.int r3] [.ref x1, .ref 0] d_X11_takesTime_85 (cS_X0_placeOf (d + 0) 0 0) tw_921 rfl (rr0 (Nat.le_of_ble_eq_true rfl) (Nat.le_of_ble_eq_true rfl)) (Nat.le_of_ble_eq_true rfl) xs0 k (fun r22 h20 kk => ?_)
        obtain ⟨w21, q23, k⟩ := kk
        refine aw_Vi 0 [.ref x1, .int r22] [] d_X11_takesTime_88 (cV_X11_setsOut (d + 2) 0 0) kc_11 (ws_0 w21) tw_951 rfl (rr0 (Nat.le_of_ble_eq_true rfl) (Nat.le_of_ble_eq_true rfl)) (Nat.le_of_ble_eq_true rfl) xs0 k (fun r26 h24 kk => ?_)
        obtain ⟨w25, k⟩ := kk
        obtain ⟨z27, k⟩ := k
        exact aw_zret rfl (nf_z z27).1 d_X11_takesTime_91 ⟨Nat.le_refl _, Nat.le_refl _⟩ ⟨_, rfl, k⟩
theorem t_X11_serveDrawn (d : Nat) (h : Hp_) (w : Wf h) (x1 : Nat) (hs_x1 : h_sh h x1 = some (12, 17)) (lb_x1 : 400 ≤ x1) (K : Hp_ → Prop) (k : Ci (m_X11_setsOut (d + 2) 0 0) [.ref 0, .ref x1, .int (h_i h x1 13)] h (fun r3 h1 => Wf h1 ∧ h_sh h1 x1 = some (12, 17) ∧ ((r3 = 0 → (¬ (h_i h1 x1 5) = (h_i h1 x1 13) → Cv (m_X11_goHome (d + 3) 0 0) [.ref 0, .ref x1] h1 (fun h7 => Wf h7 ∧ (K h7))) ∧ ((h_i h1 x1 5) = (h_i h1 x1 13) → ((h_i h1 x1 14) ≤ (h_i h1 0 0) → Cv (m_X11_goHome (d + 3) 0 0) [.ref 0, .ref x1] h1 (fun h11 => Wf h11 ∧ (K h11))) ∧ (¬ (h_i h1 x1 14) ≤ (h_i h1 0 0) → K (h_im h1 x1 7 (h_i h1 x1 14))))) ∧ (¬ r3 = 0 → K h1)))) : Cv (m_X11_serveDrawn (d + 4) 0 0) [.ref 0, .ref x1] h K := by
  refine Ct.of (fun _ _ _ => trivial) rfl (Nat.le_of_ble_eq_true rfl) ?_
  show AW (m_X11_serveDrawn (d + 4) 0 0) 0 0 0 [(0, .ref 0), (1, .ref x1)] [] h (kV K)
  refine aw_aload_n (i := 0) rfl d_X11_serveDrawn_0 0 rfl ?_
  refine aw_aload_n (i := 1) rfl d_X11_serveDrawn_1 1 rfl ?_
  refine aw_aload_n (i := 1) rfl d_X11_serveDrawn_2 1 rfl ?_
  refine aw_geti (k0 := 13) kc_2 (hs_x1) (Nat.le_of_ble_eq_true rfl) tw_595 d_X11_serveDrawn_3 rfl ?_
  refine aw_Vi 0 [.ref x1, .int (h_i h x1 13)] [] d_X11_serveDrawn_6 (cV_X11_setsOut (d + 2) 0 0) kc_11 (ws_0 w) tw_951 rfl (rr0 (Nat.le_of_ble_eq_true rfl) (Nat.le_of_ble_eq_true rfl)) (Nat.le_of_ble_eq_true rfl) xs0 k (fun r3 h1 kk => ?_)
  obtain ⟨w2, q4, k⟩ := kk
  refine aw_if_eq (tgt := 13) d_X11_serveDrawn_9 rfl (fun c5 => ?_) (fun c5 => ?_)
  · have k := k.1 c5
    refine aw_aload_n (i := 1) rfl d_X11_serveDrawn_13 1 rfl ?_
    refine aw_geti (k0 := 5) kc_2 (q4) (Nat.le_of_ble_eq_true rfl) tw_583 d_X11_serveDrawn_14 rfl ?_
    refine aw_aload_n (i := 1) rfl d_X11_serveDrawn_17 1 rfl ?_
    refine aw_geti (k0 := 13) kc_2 (q4) (Nat.le_of_ble_eq_true rfl) tw_595 d_X11_serveDrawn_18 rfl ?_
    refine aw_icmp_ne (tgt := 46) d_X11_serveDrawn_21 rfl (fun c6 => ?_) (fun c6 => ?_)
    · have k := k.1 c6
      refine aw_aload_n (i := 0) rfl d_X11_serveDrawn_46 0 rfl ?_
      refine aw_aload_n (i := 1) rfl d_X11_serveDrawn_47 1 rfl ?_
      refine aw_Vv 0 [.ref x1] [] d_X11_serveDrawn_48 (cV_X11_goHome (d + 3) 0 0) kc_11 (ws_0 w2) tw_959 rfl (rr0 (Nat.le_of_ble_eq_true rfl) (Nat.le_of_ble_eq_true rfl)) (Nat.le_of_ble_eq_true rfl) xs0 k (fun h7 kk => ?_)
      obtain ⟨w8, k⟩ := kk
      exact aw_vret rfl d_X11_serveDrawn_51 ⟨Nat.le_refl _, Nat.le_refl _⟩ ⟨rfl, k⟩
    · have k := k.2 c6
      refine aw_aload_n (i := 1) rfl d_X11_serveDrawn_24 1 rfl ?_
      refine aw_geti (k0 := 14) kc_2 (q4) (Nat.le_of_ble_eq_true rfl) tw_596 d_X11_serveDrawn_25 rfl ?_
      refine aw_aload_n (i := 0) rfl d_X11_serveDrawn_28 0 rfl ?_
      refine aw_geti (k0 := 0) kc_11 (ws_0 w2) (Nat.le_of_ble_eq_true rfl) tw_487 d_X11_serveDrawn_29 rfl ?_
      refine aw_icmp_le (tgt := 46) d_X11_serveDrawn_32 rfl (fun c10 => ?_) (fun c10 => ?_)
      · have k := k.1 c10
        refine aw_aload_n (i := 0) rfl d_X11_serveDrawn_46 0 rfl ?_
        refine aw_aload_n (i := 1) rfl d_X11_serveDrawn_47 1 rfl ?_
        refine aw_Vv 0 [.ref x1] [] d_X11_serveDrawn_48 (cV_X11_goHome (d + 3) 0 0) kc_11 (ws_0 w2) tw_959 rfl (rr0 (Nat.le_of_ble_eq_true rfl) (Nat.le_of_ble_eq_true rfl)) (Nat.le_of_ble_eq_true rfl) xs0 k (fun h11 kk => ?_)
        obtain ⟨w12, k⟩ := kk
        exact aw_vret rfl d_X11_serveDrawn_51 ⟨Nat.le_refl _, Nat.le_refl _⟩ ⟨rfl, k⟩
      · have k := k.2 c10
        refine aw_aload_n (i := 1) rfl d_X11_serveDrawn_35 1 rfl ?_
        refine aw_aload_n (i := 1) rfl d_X11_serveDrawn_36 1 rfl ?_
        refine aw_geti (k0 := 14) kc_2 (q4) (Nat.le_of_ble_eq_true rfl) tw_596 d_X11_serveDrawn_37 rfl ?_
        refine aw_puti (k0 := 7) kc_2 (q4) (Nat.le_of_ble_eq_true rfl) tw_587 d_X11_serveDrawn_40 rfl rfl nf_i ?_
        refine aw_goto (tgt := 51) d_X11_serveDrawn_43 rfl ?_
        exact aw_vret rfl d_X11_serveDrawn_51 ⟨Nat.le_refl _, Nat.le_refl _⟩ ⟨rfl, k⟩
  · have k := k.2 c5
    exact aw_vret rfl d_X11_serveDrawn_12 ⟨Nat.le_refl _, Nat.le_refl _⟩ ⟨rfl, k⟩
theorem t_X11_look (d : Nat) (h : Hp_) (x1 : Nat) (hs_x1 : h_sh h x1 = some (12, 17)) (lb_x1 : 400 ≤ x1) (K : Hp_ → Prop) (k : AW (m_X11_look (d + 4) 0 0) 0 0 2 [(0, .ref 0), (1, .ref x1), (2, .int 0)] [] h (kV K)) : Cv (m_X11_look (d + 4) 0 0) [.ref 0, .ref x1] h K := by
  refine Ct.of (fun _ _ _ => trivial) rfl (Nat.le_of_ble_eq_true rfl) ?_
  show AW (m_X11_look (d + 4) 0 0) 0 0 0 [(0, .ref 0), (1, .ref x1)] [] h (kV K)
  refine aw_iconst (v := 0) d_X11_look_0 ic_0 ?_
  refine aw_istore_n (i := 2) rfl [(0, .ref 0), (1, .ref x1), (2, .int 0)] d_X11_look_1 (Nat.le_of_ble_eq_true rfl) rfl rfl ?_
  exact k
theorem t_X11_look_2 (d : Nat) (h : Hp_) (w : Wf h) (x1 : Nat) (hs_x1 : h_sh h x1 = some (12, 17)) (lb_x1 : 400 ≤ x1) (x2 : Int32) (K : Hp_ → Prop) (k : ((h_i h 17 7) ≤ x2 → K h) ∧ (¬ (h_i h 17 7) ≤ x2 → Ci (m_X4_canBeSeen (d + 1) 0 0) [.ref 17, .int x2, .int (h_i h x1 5), .int (h_i h 0 0)] h (fun r4 h2 => Wf h2 ∧ h_sh h2 x1 = some (12, 17) ∧ ((r4 = 0 → AW (m_X11_look (d + 4) 0 0) 0 0 2 [(0, .ref 0), (1, .ref x1), (2, .int (x2 + 1))] [] h2 (kV K)) ∧ (¬ r4 = 0 → Cv (m_X11_see (d + 3) 0 0) [.ref 0, .ref x1, .int x2] h2 (fun h7 => Wf h7 ∧ h_sh h7 x1 = some (12, 17) ∧ (AW (m_X11_look (d + 4) 0 0) 0 0 2 [(0, .ref 0), (1, .ref x1), (2, .int (x2 + 1))] [] h7 (kV K)))))))) : AW (m_X11_look (d + 4) 0 0) 0 0 2 [(0, .ref 0), (1, .ref x1), (2, .int x2)] [] h (kV K) := by
  refine aw_iload_n (i := 2) rfl d_X11_look_2 2 rfl ?_
  refine aw_aload_n (i := 0) rfl d_X11_look_3 0 rfl ?_
  refine aw_getr (k0 := 9) kc_11 (ws_0 w) (Nat.le_of_ble_eq_true rfl) tw_496 d_X11_look_4 rfl (wr_0_9 w) ?_
  refine aw_geti (k0 := 7) kc_4 (ws_17 w) (Nat.le_of_ble_eq_true rfl) tw_204 d_X11_look_7 rfl ?_
  refine aw_icmp_ge (tgt := 44) d_X11_look_10 rfl (fun c1 => ?_) (fun c1 => ?_)
  · have k := k.1 c1
    exact aw_vret rfl d_X11_look_44 ⟨Nat.le_refl _, Nat.le_refl _⟩ ⟨rfl, k⟩
  · have k := k.2 c1
    refine aw_aload_n (i := 0) rfl d_X11_look_13 0 rfl ?_
    refine aw_getr (k0 := 9) kc_11 (ws_0 w) (Nat.le_of_ble_eq_true rfl) tw_496 d_X11_look_14 rfl (wr_0_9 w) ?_
    refine aw_iload_n (i := 2) rfl d_X11_look_17 2 rfl ?_
    refine aw_aload_n (i := 1) rfl d_X11_look_18 1 rfl ?_
    refine aw_geti (k0 := 5) kc_2 (hs_x1) (Nat.le_of_ble_eq_true rfl) tw_583 d_X11_look_19 rfl ?_
    refine aw_aload_n (i := 0) rfl d_X11_look_22 0 rfl ?_
    refine aw_geti (k0 := 0) kc_11 (ws_0 w) (Nat.le_of_ble_eq_true rfl) tw_487 d_X11_look_23 rfl ?_
    refine aw_Vi 17 [.int x2, .int (h_i h x1 5), .int (h_i h 0 0)] [] d_X11_look_26 (cV_X4_canBeSeen (d + 1) 0 0) kc_4 (ws_17 w) tw_1027 rfl (rr0 (Nat.le_of_ble_eq_true rfl) (Nat.le_of_ble_eq_true rfl)) (Nat.le_of_ble_eq_true rfl) xs0 k (fun r4 h2 kk => ?_)
    obtain ⟨w3, q5, k⟩ := kk
    refine aw_if_eq (tgt := 38) d_X11_look_29 rfl (fun c6 => ?_) (fun c6 => ?_)
    · have k := k.1 c6
      refine aw_iinc (v := (x2 + 1)) [(0, .ref 0), (1, .ref x1), (2, .int (x2 + 1))] d_X11_look_38 2 rfl rfl (Nat.le_of_ble_eq_true rfl) rfl rfl ?_
      refine aw_goto (tgt := 2) d_X11_look_41 rfl ?_
      exact k
    · have k := k.2 c6
      refine aw_aload_n (i := 0) rfl d_X11_look_32 0 rfl ?_
      refine aw_aload_n (i := 1) rfl d_X11_look_33 1 rfl ?_
      refine aw_iload_n (i := 2) rfl d_X11_look_34 2 rfl ?_
      refine aw_Vv 0 [.ref x1, .int x2] [] d_X11_look_35 (cV_X11_see (d + 3) 0 0) kc_11 (ws_0 w3) tw_1032 rfl (rr0 (Nat.le_of_ble_eq_true rfl) (Nat.le_of_ble_eq_true rfl)) (Nat.le_of_ble_eq_true rfl) xs0 k (fun h7 kk => ?_)
      obtain ⟨w8, q10, k⟩ := kk
      refine aw_iinc (v := (x2 + 1)) [(0, .ref 0), (1, .ref x1), (2, .int (x2 + 1))] d_X11_look_38 2 rfl rfl (Nat.le_of_ble_eq_true rfl) rfl rfl ?_
      refine aw_goto (tgt := 2) d_X11_look_41 rfl ?_
      exact k
theorem t_X11_should (d : Nat) (h : Hp_) (w : Wf h) (x1 : Int32) (x2 : Int32) (K : Int32 → Hp_ → Prop) (k : Ci (m_X4_has (d + 0) 0 0) [.ref 17, .int x1] h (fun r3 h1 => Wf h1 ∧ ((r3 = 0 → K (-1) h1) ∧ (¬ r3 = 0 → Ci (m_X4_minuteOf (d + 1) 0 0) [.ref 17, .int x1] h1 (fun r7 h5 => Wf h5 ∧ (((r7 ≤ x2 ∧ x2 ≤ (h_i h5 0 0)) → Ci (m_X4_due (d + 3) 0 0) [.ref 17, .int x1, .ref 13, .int x2] h5 (fun r13 h11 => Wf h11 ∧ (K r13 h11))) ∧ (¬ (r7 ≤ x2 ∧ x2 ≤ (h_i h5 0 0)) → K (-1) h5))))))) : Ci (m_X11_should (d + 4) 0 0) [.ref 0, .int x1, .int x2] h K := by
  refine Ct.of (fun _ _ _ => trivial) rfl (Nat.le_of_ble_eq_true rfl) ?_
  show AW (m_X11_should (d + 4) 0 0) 0 0 0 [(0, .ref 0), (1, .int x1), (2, .int x2)] [] h (kI K)
  refine aw_aload_n (i := 0) rfl d_X11_should_0 0 rfl ?_
  refine aw_getr (k0 := 9) kc_11 (ws_0 w) (Nat.le_of_ble_eq_true rfl) tw_496 d_X11_should_1 rfl (wr_0_9 w) ?_
  refine aw_iload_n (i := 1) rfl d_X11_should_4 1 rfl ?_
  refine aw_Vi 17 [.int x1] [] d_X11_should_5 (cV_X4_has (d + 0) 0 0) kc_4 (ws_17 w) tw_1176 rfl (rr0 (Nat.le_of_ble_eq_true rfl) (Nat.le_of_ble_eq_true rfl)) (Nat.le_of_ble_eq_true rfl) xs0 k (fun r3 h1 kk => ?_)
  obtain ⟨w2, k⟩ := kk
  refine aw_if_eq (tgt := 30) d_X11_should_8 rfl (fun c4 => ?_) (fun c4 => ?_)
  · have k := k.1 c4
    refine aw_iconst (v := (-1)) d_X11_should_30 ic_m1 ?_
    exact aw_iret rfl d_X11_should_31 ⟨Nat.le_refl _, Nat.le_refl _⟩ ⟨_, rfl, k⟩
  · have k := k.2 c4
    refine aw_iload_n (i := 2) rfl d_X11_should_11 2 rfl ?_
    refine aw_aload_n (i := 0) rfl d_X11_should_12 0 rfl ?_
    refine aw_getr (k0 := 9) kc_11 (ws_0 w2) (Nat.le_of_ble_eq_true rfl) tw_496 d_X11_should_13 rfl (wr_0_9 w2) ?_
    refine aw_iload_n (i := 1) rfl d_X11_should_16 1 rfl ?_
    refine aw_Vi 17 [.int x1] [.int x2] d_X11_should_17 (cV_X4_minuteOf (d + 1) 0 0) kc_4 (ws_17 w2) tw_1185 rfl (rr0 (Nat.le_of_ble_eq_true rfl) (Nat.le_of_ble_eq_true rfl)) (Nat.le_of_ble_eq_true rfl) xs0 k (fun r7 h5 kk => ?_)
    obtain ⟨w6, k⟩ := kk
    refine aw_aload_n (i := 0) rfl d_X11_should_20 0 rfl ?_
    refine aw_geti (k0 := 0) kc_11 (ws_0 w6) (Nat.le_of_ble_eq_true rfl) tw_487 d_X11_should_21 rfl ?_
    refine aw_Si [.int x2, .int r7, .int (h_i h5 0 0)] [] d_X11_should_24 (cS_X11_within (d + 0) 0 0) tw_543 rfl (rr0 (Nat.le_of_ble_eq_true rfl) (Nat.le_of_ble_eq_true rfl)) (Nat.le_of_ble_eq_true rfl) xs0 (s_X11_within _ _ x2 r7 (h_i h5 0 0)) (fun _ _ kk => ?_)
    obtain ⟨e8, e9⟩ := kk
    rw [e8, e9]
    refine aw_ifb_ne (tgt := 32) d_X11_should_27 rfl (fun c10 => ?_) (fun c10 => ?_)
    · have k := k.1 c10
      refine aw_aload_n (i := 0) rfl d_X11_should_32 0 rfl ?_
      refine aw_getr (k0 := 9) kc_11 (ws_0 w6) (Nat.le_of_ble_eq_true rfl) tw_496 d_X11_should_33 rfl (wr_0_9 w6) ?_
      refine aw_iload_n (i := 1) rfl d_X11_should_36 1 rfl ?_
      refine aw_aload_n (i := 0) rfl d_X11_should_37 0 rfl ?_
      refine aw_getr (k0 := 4) kc_11 (ws_0 w6) (Nat.le_of_ble_eq_true rfl) tw_491 d_X11_should_38 rfl (wr_0_4 w6) ?_
      refine aw_iload_n (i := 2) rfl d_X11_should_41 2 rfl ?_
      refine aw_Vi 17 [.int x1, .ref 13, .int x2] [] d_X11_should_42 (cV_X4_due (d + 3) 0 0) kc_4 (ws_17 w6) tw_1189 rfl (rr0 (Nat.le_of_ble_eq_true rfl) (Nat.le_of_ble_eq_true rfl)) (Nat.le_of_ble_eq_true rfl) xs0 k (fun r13 h11 kk => ?_)
      obtain ⟨w12, k⟩ := kk
      exact aw_iret rfl d_X11_should_45 ⟨Nat.le_refl _, Nat.le_refl _⟩ ⟨_, rfl, k⟩
    · have k := k.2 c10
      refine aw_iconst (v := (-1)) d_X11_should_30 ic_m1 ?_
      exact aw_iret rfl d_X11_should_31 ⟨Nat.le_refl _, Nat.le_refl _⟩ ⟨_, rfl, k⟩
theorem t_X11_sees (d : Nat) (h : Hp_) (w : Wf h) (x1 : Int32) (x2 : Int32) (K : Int32 → Hp_ → Prop) (k : Ci (m_X0_has (d + 0) 0 0) [.ref 12, .int x1] h (fun r3 h1 => Wf h1 ∧ ((r3 = 0 → K (-1) h1) ∧ (¬ r3 = 0 → Ci (m_X6_hasWatch (d + 0) 0 0) [.ref 20, .int x2] h1 (fun r7 h5 => Wf h5 ∧ ((¬ r7 = 0 → Ci (m_X6_isSeen (d + 3) 0 0) [.ref 20, .int x2, .int x1, .ref 12, .ref 10] h5 (fun r11 h9 => Wf h9 ∧ ((r11 = 0 → K 0 h9) ∧ (¬ r11 = 0 → K 1 h9)))) ∧ (r7 = 0 → K (-1) h5))))))) : Ci (m_X11_sees (d + 4) 0 0) [.ref 0, .int x1, .int x2] h K := by
  refine Ct.of (fun _ _ _ => trivial) rfl (Nat.le_of_ble_eq_true rfl) ?_
  show AW (m_X11_sees (d + 4) 0 0) 0 0 0 [(0, .ref 0), (1, .int x1), (2, .int x2)] [] h (kI K)
  refine aw_aload_n (i := 0) rfl d_X11_sees_0 0 rfl ?_
  refine aw_getr (k0 := 3) kc_11 (ws_0 w) (Nat.le_of_ble_eq_true rfl) tw_490 d_X11_sees_1 rfl (wr_0_3 w) ?_
  refine aw_iload_n (i := 1) rfl d_X11_sees_4 1 rfl ?_
  refine aw_Vi 12 [.int x1] [] d_X11_sees_5 (cV_X0_has (d + 0) 0 0) kc_0 (ws_12 w) tw_887 rfl (rr0 (Nat.le_of_ble_eq_true rfl) (Nat.le_of_ble_eq_true rfl)) (Nat.le_of_ble_eq_true rfl) xs0 k (fun r3 h1 kk => ?_)
  obtain ⟨w2, k⟩ := kk
  refine aw_if_eq (tgt := 22) d_X11_sees_8 rfl (fun c4 => ?_) (fun c4 => ?_)
  · have k := k.1 c4
    refine aw_iconst (v := (-1)) d_X11_sees_22 ic_m1 ?_
    exact aw_iret rfl d_X11_sees_23 ⟨Nat.le_refl _, Nat.le_refl _⟩ ⟨_, rfl, k⟩
  · have k := k.2 c4
    refine aw_aload_n (i := 0) rfl d_X11_sees_11 0 rfl ?_
    refine aw_getr (k0 := 12) kc_11 (ws_0 w2) (Nat.le_of_ble_eq_true rfl) tw_499 d_X11_sees_12 rfl (wr_0_12 w2) ?_
    refine aw_iload_n (i := 2) rfl d_X11_sees_15 2 rfl ?_
    refine aw_Vi 20 [.int x2] [] d_X11_sees_16 (cV_X6_hasWatch (d + 0) 0 0) kc_6 (ws_20 w2) tw_1418 rfl (rr0 (Nat.le_of_ble_eq_true rfl) (Nat.le_of_ble_eq_true rfl)) (Nat.le_of_ble_eq_true rfl) xs0 k (fun r7 h5 kk => ?_)
    obtain ⟨w6, k⟩ := kk
    refine aw_if_ne (tgt := 24) d_X11_sees_19 rfl (fun c8 => ?_) (fun c8 => ?_)
    · have k := k.1 c8
      refine aw_aload_n (i := 0) rfl d_X11_sees_24 0 rfl ?_
      refine aw_getr (k0 := 12) kc_11 (ws_0 w6) (Nat.le_of_ble_eq_true rfl) tw_499 d_X11_sees_25 rfl (wr_0_12 w6) ?_
      refine aw_iload_n (i := 2) rfl d_X11_sees_28 2 rfl ?_
      refine aw_iload_n (i := 1) rfl d_X11_sees_29 1 rfl ?_
      refine aw_aload_n (i := 0) rfl d_X11_sees_30 0 rfl ?_
      refine aw_getr (k0 := 3) kc_11 (ws_0 w6) (Nat.le_of_ble_eq_true rfl) tw_490 d_X11_sees_31 rfl (wr_0_3 w6) ?_
      refine aw_aload_n (i := 0) rfl d_X11_sees_34 0 rfl ?_
      refine aw_getr (k0 := 1) kc_11 (ws_0 w6) (Nat.le_of_ble_eq_true rfl) tw_488 d_X11_sees_35 rfl (wr_0_1 w6) ?_
      refine aw_Vi 20 [.int x2, .int x1, .ref 12, .ref 10] [] d_X11_sees_38 (cV_X6_isSeen (d + 3) 0 0) kc_6 (ws_20 w6) tw_1422 rfl (rr0 (Nat.le_of_ble_eq_true rfl) (Nat.le_of_ble_eq_true rfl)) (Nat.le_of_ble_eq_true rfl) xs0 k (fun r11 h9 kk => ?_)
      obtain ⟨w10, k⟩ := kk
      refine aw_if_eq (tgt := 48) d_X11_sees_41 rfl (fun c12 => ?_) (fun c12 => ?_)
      · have k := k.1 c12
        refine aw_iconst (v := 0) d_X11_sees_48 ic_0 ?_
        exact aw_iret rfl d_X11_sees_49 ⟨Nat.le_refl _, Nat.le_refl _⟩ ⟨_, rfl, k⟩
      · have k := k.2 c12
        refine aw_iconst (v := 1) d_X11_sees_44 ic_1 ?_
        refine aw_goto (tgt := 49) d_X11_sees_45 rfl ?_
        exact aw_iret rfl d_X11_sees_49 ⟨Nat.le_refl _, Nat.le_refl _⟩ ⟨_, rfl, k⟩
    · have k := k.2 c8
      refine aw_iconst (v := (-1)) d_X11_sees_22 ic_m1 ?_
      exact aw_iret rfl d_X11_sees_23 ⟨Nat.le_refl _, Nat.le_refl _⟩ ⟨_, rfl, k⟩
theorem t_X11_findLending (d : Nat) (h : Hp_)  (K : Int32 → Hp_ → Prop) (k : AW (m_X11_findLending (d + 4) 0 0) 0 0 2 [(0, .ref 0), (1, .int 0)] [] h (kI K)) : Ci (m_X11_findLending (d + 4) 0 0) [.ref 0] h K := by
  refine Ct.of (fun _ _ _ => trivial) rfl (Nat.le_of_ble_eq_true rfl) ?_
  show AW (m_X11_findLending (d + 4) 0 0) 0 0 0 [(0, .ref 0)] [] h (kI K)
  refine aw_iconst (v := 0) d_X11_findLending_0 ic_0 ?_
  refine aw_istore_n (i := 1) rfl [(0, .ref 0), (1, .int 0)] d_X11_findLending_1 (Nat.le_of_ble_eq_true rfl) rfl rfl ?_
  exact k
theorem t_X11_findLending_2 (d : Nat) (h : Hp_) (w : Wf h) (x1 : Int32) (K : Int32 → Hp_ → Prop) (k : ((h_i h 0 7) ≤ x1 → Ci (m_X6_lend (d + 3) 0 0) [.ref 20, .int (h_i h 0 7)] h (fun r4 h2 => Wf h2 ∧ ((r4 = 0 ∨ r4 = 1) ∧ (K r4 h2)))) ∧ (¬ (h_i h 0 7) ≤ x1 → AW (m_X11_findLending (d + 4) 0 0) 0 0 12 [(0, .ref 0), (1, .int x1), (2, .int 0)] [] h (kI K))) : AW (m_X11_findLending (d + 4) 0 0) 0 0 2 [(0, .ref 0), (1, .int x1)] [] h (kI K) := by
  refine aw_iload_n (i := 1) rfl d_X11_findLending_2 1 rfl ?_
  refine aw_aload_n (i := 0) rfl d_X11_findLending_3 0 rfl ?_
  refine aw_geti (k0 := 7) kc_11 (ws_0 w) (Nat.le_of_ble_eq_true rfl) tw_494 d_X11_findLending_4 rfl ?_
  refine aw_icmp_ge (tgt := 70) d_X11_findLending_7 rfl (fun c1 => ?_) (fun c1 => ?_)
  · have k := k.1 c1
    refine aw_aload_n (i := 0) rfl d_X11_findLending_70 0 rfl ?_
    refine aw_getr (k0 := 12) kc_11 (ws_0 w) (Nat.le_of_ble_eq_true rfl) tw_499 d_X11_findLending_71 rfl (wr_0_12 w) ?_
    refine aw_aload_n (i := 0) rfl d_X11_findLending_74 0 rfl ?_
    refine aw_geti (k0 := 7) kc_11 (ws_0 w) (Nat.le_of_ble_eq_true rfl) tw_494 d_X11_findLending_75 rfl ?_
    refine aw_Vi 20 [.int (h_i h 0 7)] [] d_X11_findLending_78 (cV_X6_lend (d + 3) 0 0) kc_6 (ws_20 w) tw_1516 rfl (rr0 (Nat.le_of_ble_eq_true rfl) (Nat.le_of_ble_eq_true rfl)) (Nat.le_of_ble_eq_true rfl) xs0 k (fun r4 h2 kk => ?_)
    obtain ⟨w3, k⟩ := kk
    obtain ⟨z5, k⟩ := k
    exact aw_zret rfl (nf_z z5).1 d_X11_findLending_81 ⟨Nat.le_refl _, Nat.le_refl _⟩ ⟨_, rfl, k⟩
  · have k := k.2 c1
    refine aw_iconst (v := 0) d_X11_findLending_10 ic_0 ?_
    refine aw_istore_n (i := 2) rfl [(0, .ref 0), (1, .int x1), (2, .int 0)] d_X11_findLending_11 (Nat.le_of_ble_eq_true rfl) rfl rfl ?_
    exact k
theorem t_X11_findLending_12 (d : Nat) (h : Hp_) (w : Wf h) (x1 : Int32) (x2 : Int32) (K : Int32 → Hp_ → Prop) (k : ((h_i h 20 16) ≤ x2 → AW (m_X11_findLending (d + 4) 0 0) 0 0 2 [(0, .ref 0), (1, .int (x1 + 1))] [] h (kI K)) ∧ (¬ (h_i h 20 16) ≤ x2 → vp_in x1 12 ∧ ((h_r h 15 x1.toNatClampNeg = none → Ci (m_X6_placeOfFair (d + 1) 0 0) [.ref 20, .int x2] h (fun r14 h12 => Wf h12 ∧ (Ci (m_X6_minuteOfFair (d + 1) 0 0) [.ref 20, .int x2] h12 (fun r17 h15 => Wf h15 ∧ (Ci (m_X11_priceOf (d + 2) 0 0) [.ref 0, .null, .int r14, .int r17] h15 (fun r20 h18 => Wf h18 ∧ (Cv (m_X6_setPrice (d + 1) 0 0) [.ref 20, .int x1, .int x2, .int r20] h18 (fun h21 => Wf h21 ∧ (AW (m_X11_findLending (d + 4) 0 0) 0 0 12 [(0, .ref 0), (1, .int x1), (2, .int (x2 + 1))] [] h21 (kI K)))))))))) ∧ (∀ b8, h_r h 15 x1.toNatClampNeg = some b8 → h_sh h b8 = some (12, 17) ∧ 400 ≤ b8 ∧ (Ci (m_X6_placeOfFair (d + 1) 0 0) [.ref 20, .int x2] h (fun r26 h24 => Wf h24 ∧ h_sh h24 b8 = some (12, 17) ∧ (Ci (m_X6_minuteOfFair (d + 1) 0 0) [.ref 20, .int x2] h24 (fun r30 h28 => Wf h28 ∧ h_sh h28 b8 = some (12, 17) ∧ (Ci (m_X11_priceOf (d + 2) 0 0) [.ref 0, .ref b8, .int r26, .int r30] h28 (fun r34 h32 => Wf h32 ∧ (Cv (m_X6_setPrice (d + 1) 0 0) [.ref 20, .int x1, .int x2, .int r34] h32 (fun h35 => Wf h35 ∧ (AW (m_X11_findLending (d + 4) 0 0) 0 0 12 [(0, .ref 0), (1, .int x1), (2, .int (x2 + 1))] [] h35 (kI K)))))))))))))) : AW (m_X11_findLending (d + 4) 0 0) 0 0 12 [(0, .ref 0), (1, .int x1), (2, .int x2)] [] h (kI K) := by
  refine aw_iload_n (i := 2) rfl d_X11_findLending_12 2 rfl ?_
  refine aw_aload_n (i := 0) rfl d_X11_findLending_13 0 rfl ?_
  refine aw_getr (k0 := 12) kc_11 (ws_0 w) (Nat.le_of_ble_eq_true rfl) tw_499 d_X11_findLending_14 rfl (wr_0_12 w) ?_
  refine aw_geti (k0 := 16) kc_6 (ws_20 w) (Nat.le_of_ble_eq_true rfl) tw_381 d_X11_findLending_17 rfl ?_
  refine aw_icmp_ge (tgt := 64) d_X11_findLending_20 rfl (fun c6 => ?_) (fun c6 => ?_)
  · have k := k.1 c6
    refine aw_iinc (v := (x1 + 1)) [(0, .ref 0), (1, .int (x1 + 1)), (2, .int x2)] d_X11_findLending_64 1 rfl rfl (Nat.le_of_ble_eq_true rfl) rfl rfl ?_
    refine aw_goto (tgt := 2) d_X11_findLending_67 rfl ?_
    exact aw_lvp [0, 1] [(0, .ref 0), (1, .int (x1 + 1))] rfl k
  · have k := k.2 c6
    refine aw_aload_n (i := 0) rfl d_X11_findLending_23 0 rfl ?_
    refine aw_getr (k0 := 12) kc_11 (ws_0 w) (Nat.le_of_ble_eq_true rfl) tw_499 d_X11_findLending_24 rfl (wr_0_12 w) ?_
    refine aw_iload_n (i := 1) rfl d_X11_findLending_27 1 rfl ?_
    refine aw_iload_n (i := 2) rfl d_X11_findLending_28 2 rfl ?_
    refine aw_aload_n (i := 0) rfl d_X11_findLending_29 0 rfl ?_
    refine aw_aload_n (i := 0) rfl d_X11_findLending_30 0 rfl ?_
    refine aw_getr (k0 := 6) kc_11 (ws_0 w) (Nat.le_of_ble_eq_true rfl) tw_493 d_X11_findLending_31 rfl (wr_0_6 w) ?_
    refine aw_iload_n (i := 1) rfl d_X11_findLending_34 1 rfl ?_
    obtain ⟨b7, k⟩ := k
    rcases e11 : h_r h 15 x1.toNatClampNeg with _ | b8
    · refine aw_aaldn (ws_15 w) b7 e11 d_X11_findLending_35 ?_
      have k := k.1 e11
      refine aw_aload_n (i := 0) rfl d_X11_findLending_36 0 rfl ?_
      refine aw_getr (k0 := 12) kc_11 (ws_0 w) (Nat.le_of_ble_eq_true rfl) tw_499 d_X11_findLending_37 rfl (wr_0_12 w) ?_
      refine aw_iload_n (i := 2) rfl d_X11_findLending_40 2 rfl ?_
      refine aw_Vi 20 [.int x2] [.null, .ref 0, .int x2, .int x1, .ref 20] d_X11_findLending_41 (cV_X6_placeOfFair (d + 1) 0 0) kc_6 (ws_20 w) tw_1496 rfl (rr0 (Nat.le_of_ble_eq_true rfl) (Nat.le_of_ble_eq_true rfl)) (Nat.le_of_ble_eq_true rfl) xs0 k (fun r14 h12 kk => ?_)
      obtain ⟨w13, k⟩ := kk
      refine aw_aload_n (i := 0) rfl d_X11_findLending_44 0 rfl ?_
      refine aw_getr (k0 := 12) kc_11 (ws_0 w13) (Nat.le_of_ble_eq_true rfl) tw_499 d_X11_findLending_45 rfl (wr_0_12 w13) ?_
      refine aw_iload_n (i := 2) rfl d_X11_findLending_48 2 rfl ?_
      refine aw_Vi 20 [.int x2] [.int r14, .null, .ref 0, .int x2, .int x1, .ref 20] d_X11_findLending_49 (cV_X6_minuteOfFair (d + 1) 0 0) kc_6 (ws_20 w13) tw_1500 rfl (rr0 (Nat.le_of_ble_eq_true rfl) (Nat.le_of_ble_eq_true rfl)) (Nat.le_of_ble_eq_true rfl) xs0 k (fun r17 h15 kk => ?_)
      obtain ⟨w16, k⟩ := kk
      refine aw_Vi 0 [.null, .int r14, .int r17] [.int x2, .int x1, .ref 20] d_X11_findLending_52 (cV_X11_priceOf (d + 2) 0 0) kc_11 (ws_0 w16) tw_1504 rfl (rr0 (Nat.le_of_ble_eq_true rfl) (Nat.le_of_ble_eq_true rfl)) (Nat.le_of_ble_eq_true rfl) xs0 k (fun r20 h18 kk => ?_)
      obtain ⟨w19, k⟩ := kk
      refine aw_Vv 20 [.int x1, .int x2, .int r20] [] d_X11_findLending_55 (cV_X6_setPrice (d + 1) 0 0) kc_6 (ws_20 w19) tw_1512 rfl (rr0 (Nat.le_of_ble_eq_true rfl) (Nat.le_of_ble_eq_true rfl)) (Nat.le_of_ble_eq_true rfl) xs0 k (fun h21 kk => ?_)
      obtain ⟨w22, k⟩ := kk
      refine aw_iinc (v := (x2 + 1)) [(0, .ref 0), (1, .int x1), (2, .int (x2 + 1))] d_X11_findLending_58 2 rfl rfl (Nat.le_of_ble_eq_true rfl) rfl rfl ?_
      refine aw_goto (tgt := 12) d_X11_findLending_61 rfl ?_
      exact k
    · refine aw_aaldr (ws_15 w) b7 e11 d_X11_findLending_35 ?_
      obtain ⟨q9, l10, k⟩ := k.2 b8 e11
      refine aw_aload_n (i := 0) rfl d_X11_findLending_36 0 rfl ?_
      refine aw_getr (k0 := 12) kc_11 (ws_0 w) (Nat.le_of_ble_eq_true rfl) tw_499 d_X11_findLending_37 rfl (wr_0_12 w) ?_
      refine aw_iload_n (i := 2) rfl d_X11_findLending_40 2 rfl ?_
      refine aw_Vi 20 [.int x2] [.ref b8, .ref 0, .int x2, .int x1, .ref 20] d_X11_findLending_41 (cV_X6_placeOfFair (d + 1) 0 0) kc_6 (ws_20 w) tw_1496 rfl (rr0 (Nat.le_of_ble_eq_true rfl) (Nat.le_of_ble_eq_true rfl)) (Nat.le_of_ble_eq_true rfl) xs0 k (fun r26 h24 kk => ?_)
      obtain ⟨w25, q27, k⟩ := kk
      refine aw_aload_n (i := 0) rfl d_X11_findLending_44 0 rfl ?_
      refine aw_getr (k0 := 12) kc_11 (ws_0 w25) (Nat.le_of_ble_eq_true rfl) tw_499 d_X11_findLending_45 rfl (wr_0_12 w25) ?_
      refine aw_iload_n (i := 2) rfl d_X11_findLending_48 2 rfl ?_
      refine aw_Vi 20 [.int x2] [.int r26, .ref b8, .ref 0, .int x2, .int x1, .ref 20] d_X11_findLending_49 (cV_X6_minuteOfFair (d + 1) 0 0) kc_6 (ws_20 w25) tw_1500 rfl (rr0 (Nat.le_of_ble_eq_true rfl) (Nat.le_of_ble_eq_true rfl)) (Nat.le_of_ble_eq_true rfl) xs0 k (fun r30 h28 kk => ?_)
      obtain ⟨w29, q31, k⟩ := kk
      refine aw_Vi 0 [.ref b8, .int r26, .int r30] [.int x2, .int x1, .ref 20] d_X11_findLending_52 (cV_X11_priceOf (d + 2) 0 0) kc_11 (ws_0 w29) tw_1504 rfl (rr0 (Nat.le_of_ble_eq_true rfl) (Nat.le_of_ble_eq_true rfl)) (Nat.le_of_ble_eq_true rfl) xs0 k (fun r34 h32 kk => ?_)
      obtain ⟨w33, k⟩ := kk
      refine aw_Vv 20 [.int x1, .int x2, .int r34] [] d_X11_findLending_55 (cV_X6_setPrice (d + 1) 0 0) kc_6 (ws_20 w33) tw_1512 rfl (rr0 (Nat.le_of_ble_eq_true rfl) (Nat.le_of_ble_eq_true rfl)) (Nat.le_of_ble_eq_true rfl) xs0 k (fun h35 kk => ?_)
      obtain ⟨w36, k⟩ := kk
      refine aw_iinc (v := (x2 + 1)) [(0, .ref 0), (1, .int x1), (2, .int (x2 + 1))] d_X11_findLending_58 2 rfl rfl (Nat.le_of_ble_eq_true rfl) rfl rfl ?_
      refine aw_goto (tgt := 12) d_X11_findLending_61 rfl ?_
      exact k
theorem t_X1_tell (d : Nat) (h : Hp_) (w : Wf h) (x1 : Int32) (x2 : Int32) (x3 : Int32) (K : Int32 → Hp_ → Prop) (k : Ci (m_X1_has (d + 0) 0 0) [.ref 18, .int x1] h (fun r3 h1 => Wf h1 ∧ ((¬ r3 = 0 → Cv (m_X1_weigh (d + 1) 0 0) [.ref 18, .int x1, .int x2] h1 (fun h5 => Wf h5 ∧ ((x3 = 0 → Ci (m_X1_standing (d + 4) 0 0) [.ref 18, .int x1] h5 (fun r11 h9 => Wf h9 ∧ (K r11 h9))) ∧ ((x3 = 1 → Ci (m_X1_lacks (d + 3) 0 0) [.ref 18, .int x1] h5 (fun r15 h13 => Wf h13 ∧ (K r15 h13))) ∧ ((x3 = 2 → vp_in x1 30 ∧ (K (h_i h5 71 x1.toNatClampNeg) h5)) ∧ ((x3 = 3 → vp_in x1 30 ∧ (K (h_i h5 72 x1.toNatClampNeg) h5)) ∧ ((x3 = 4 → Ci (m_X1_countStories (d + 3) 0 0) [.ref 18, .int x1, .int x2, .int 0, .int 0] h5 (fun r23 h21 => Wf h21 ∧ (K r23 h21))) ∧ ((¬ x3 = 0 ∧ ¬ x3 = 1 ∧ ¬ x3 = 2 ∧ ¬ x3 = 3 ∧ ¬ x3 = 4 → K (-1) h5))))))))) ∧ (r3 = 0 → K (-1) h1)))) : Ci (m_X1_tell (d + 5) 0 0) [.ref 18, .int x1, .int x2, .int x3] h K := by
  refine Ct.of (fun _ _ _ => trivial) rfl (Nat.le_of_ble_eq_true rfl) ?_
  show AW (m_X1_tell (d + 5) 0 0) 0 0 0 [(0, .ref 18), (1, .int x1), (2, .int x2), (3, .int x3)] [] h (kI K)
  refine aw_aload_n (i := 0) rfl d_X1_tell_0 0 rfl ?_
  refine aw_iload_n (i := 1) rfl d_X1_tell_1 1 rfl ?_
  refine aw_Vi 18 [.int x1] [] d_X1_tell_2 (cV_X1_has (d + 0) 0 0) kc_1 (ws_18 w) tw_1256 rfl (rr0 (Nat.le_of_ble_eq_true rfl) (Nat.le_of_ble_eq_true rfl)) (Nat.le_of_ble_eq_true rfl) xs0 k (fun r3 h1 kk => ?_)
  obtain ⟨w2, k⟩ := kk
  refine aw_if_ne (tgt := 10) d_X1_tell_5 rfl (fun c4 => ?_) (fun c4 => ?_)
  · have k := k.1 c4
    refine aw_aload_n (i := 0) rfl d_X1_tell_10 0 rfl ?_
    refine aw_iload_n (i := 1) rfl d_X1_tell_11 1 rfl ?_
    refine aw_iload_n (i := 2) rfl d_X1_tell_12 2 rfl ?_
    refine aw_Vv 18 [.int x1, .int x2] [] d_X1_tell_13 (cV_X1_weigh (d + 1) 0 0) kc_1 (ws_18 w2) tw_1240 rfl (rr0 (Nat.le_of_ble_eq_true rfl) (Nat.le_of_ble_eq_true rfl)) (Nat.le_of_ble_eq_true rfl) xs0 k (fun h5 kk => ?_)
    obtain ⟨w6, k⟩ := kk
    refine aw_iload_n (i := 3) rfl d_X1_tell_16 3 rfl ?_
    by_cases e8 : x3 = 0
    · refine aw_tableIn (off := 35) (tgt := 52) d_X1_tell_17 (by rw [e8]; decide) (by rw [e8]; decide) (by rw [e8]; decide) rfl ?_
      have k := k.1 e8
      refine aw_aload_n (i := 0) rfl d_X1_tell_52 0 rfl ?_
      refine aw_iload_n (i := 1) rfl d_X1_tell_53 1 rfl ?_
      refine aw_Vi 18 [.int x1] [] d_X1_tell_54 (cV_X1_standing (d + 4) 0 0) kc_1 (ws_18 w6) tw_1248 rfl (rr0 (Nat.le_of_ble_eq_true rfl) (Nat.le_of_ble_eq_true rfl)) (Nat.le_of_ble_eq_true rfl) xs0 k (fun r11 h9 kk => ?_)
      obtain ⟨w10, k⟩ := kk
      exact aw_iret rfl d_X1_tell_57 ⟨Nat.le_refl _, Nat.le_refl _⟩ ⟨_, rfl, k⟩
    · have k := k.2
      by_cases e12 : x3 = 1
      · refine aw_tableIn (off := 41) (tgt := 58) d_X1_tell_17 (by rw [e12]; decide) (by rw [e12]; decide) (by rw [e12]; decide) rfl ?_
        have k := k.1 e12
        refine aw_aload_n (i := 0) rfl d_X1_tell_58 0 rfl ?_
        refine aw_iload_n (i := 1) rfl d_X1_tell_59 1 rfl ?_
        refine aw_Vi 18 [.int x1] [] d_X1_tell_60 (cV_X1_lacks (d + 3) 0 0) kc_1 (ws_18 w6) tw_1271 rfl (rr0 (Nat.le_of_ble_eq_true rfl) (Nat.le_of_ble_eq_true rfl)) (Nat.le_of_ble_eq_true rfl) xs0 k (fun r15 h13 kk => ?_)
        obtain ⟨w14, k⟩ := kk
        exact aw_iret rfl d_X1_tell_63 ⟨Nat.le_refl _, Nat.le_refl _⟩ ⟨_, rfl, k⟩
      · have k := k.2
        by_cases e16 : x3 = 2
        · refine aw_tableIn (off := 47) (tgt := 64) d_X1_tell_17 (by rw [e16]; decide) (by rw [e16]; decide) (by rw [e16]; decide) rfl ?_
          have k := k.1 e16
          refine aw_aload_n (i := 0) rfl d_X1_tell_64 0 rfl ?_
          refine aw_getr (k0 := 0) kc_1 (ws_18 w6) (Nat.le_of_ble_eq_true rfl) tw_262 d_X1_tell_65 rfl (wr_18_0 w6) ?_
          refine aw_iload_n (i := 1) rfl d_X1_tell_68 1 rfl ?_
          obtain ⟨b17, k⟩ := k
          refine aw_iald (ws_71 w6) b17 d_X1_tell_69 ?_
          exact aw_iret rfl d_X1_tell_70 ⟨Nat.le_refl _, Nat.le_refl _⟩ ⟨_, rfl, k⟩
        · have k := k.2
          by_cases e18 : x3 = 3
          · refine aw_tableIn (off := 54) (tgt := 71) d_X1_tell_17 (by rw [e18]; decide) (by rw [e18]; decide) (by rw [e18]; decide) rfl ?_
            have k := k.1 e18
            refine aw_aload_n (i := 0) rfl d_X1_tell_71 0 rfl ?_
            refine aw_getr (k0 := 1) kc_1 (ws_18 w6) (Nat.le_of_ble_eq_true rfl) tw_263 d_X1_tell_72 rfl (wr_18_1 w6) ?_
            refine aw_iload_n (i := 1) rfl d_X1_tell_75 1 rfl ?_
            obtain ⟨b19, k⟩ := k
            refine aw_iald (ws_72 w6) b19 d_X1_tell_76 ?_
            exact aw_iret rfl d_X1_tell_77 ⟨Nat.le_refl _, Nat.le_refl _⟩ ⟨_, rfl, k⟩
          · have k := k.2
            by_cases e20 : x3 = 4
            · refine aw_tableIn (off := 61) (tgt := 78) d_X1_tell_17 (by rw [e20]; decide) (by rw [e20]; decide) (by rw [e20]; decide) rfl ?_
              have k := k.1 e20
              refine aw_aload_n (i := 0) rfl d_X1_tell_78 0 rfl ?_
              refine aw_iload_n (i := 1) rfl d_X1_tell_79 1 rfl ?_
              refine aw_iload_n (i := 2) rfl d_X1_tell_80 2 rfl ?_
              refine aw_iconst (v := 0) d_X1_tell_81 ic_0 ?_
              refine aw_iconst (v := 0) d_X1_tell_82 ic_0 ?_
              refine aw_Vi 18 [.int x1, .int x2, .int 0, .int 0] [] d_X1_tell_83 (cV_X1_countStories (d + 3) 0 0) kc_1 (ws_18 w6) tw_1293 rfl (rr0 (Nat.le_of_ble_eq_true rfl) (Nat.le_of_ble_eq_true rfl)) (Nat.le_of_ble_eq_true rfl) xs0 k (fun r23 h21 kk => ?_)
              obtain ⟨w22, k⟩ := kk
              exact aw_iret rfl d_X1_tell_86 ⟨Nat.le_refl _, Nat.le_refl _⟩ ⟨_, rfl, k⟩
            · have k := k.2
              have k := k ⟨e8, e12, e16, e18, e20⟩
              have n24 := sw_ne (0) (by decide) e8
              have n25 := sw_ne (1) (by decide) e12
              have n26 := sw_ne (2) (by decide) e16
              have n27 := sw_ne (3) (by decide) e18
              have n28 := sw_ne (4) (by decide) e20
              refine aw_tableOut (tgt := 87) d_X1_tell_17 (by omega) rfl ?_
              refine aw_iconst (v := (-1)) d_X1_tell_87 ic_m1 ?_
              exact aw_iret rfl d_X1_tell_88 ⟨Nat.le_refl _, Nat.le_refl _⟩ ⟨_, rfl, k⟩
  · have k := k.2 c4
    refine aw_iconst (v := (-1)) d_X1_tell_8 ic_m1 ?_
    exact aw_iret rfl d_X1_tell_9 ⟨Nat.le_refl _, Nat.le_refl _⟩ ⟨_, rfl, k⟩
theorem t_X1_wholeStanding (d : Nat) (h : Hp_) (w : Wf h) (x1 : Int32) (x2 : Int32) (K : Int32 → Hp_ → Prop) (k : Cv (m_X1_weigh (d + 1) 0 0) [.ref 18, .int x1, .int x2] h (fun h1 => Wf h1 ∧ (Ci (m_X1_standing (d + 4) 0 0) [.ref 18, .int x1] h1 (fun r6 h4 => Wf h4 ∧ (Ci (m_X1_lacks (d + 3) 0 0) [.ref 18, .int x1] h4 (fun r9 h7 => Wf h7 ∧ (K ((r6 <<< ((8 : Int32) &&& 31)) ||| r9) h7))))))) : Ci (m_X1_wholeStanding (d + 5) 0 0) [.ref 18, .int x1, .int x2] h K := by
  refine Ct.of (fun _ _ _ => trivial) rfl (Nat.le_of_ble_eq_true rfl) ?_
  show AW (m_X1_wholeStanding (d + 5) 0 0) 0 0 0 [(0, .ref 18), (1, .int x1), (2, .int x2)] [] h (kI K)
  refine aw_aload_n (i := 0) rfl d_X1_wholeStanding_0 0 rfl ?_
  refine aw_iload_n (i := 1) rfl d_X1_wholeStanding_1 1 rfl ?_
  refine aw_iload_n (i := 2) rfl d_X1_wholeStanding_2 2 rfl ?_
  refine aw_Vv 18 [.int x1, .int x2] [] d_X1_wholeStanding_3 (cV_X1_weigh (d + 1) 0 0) kc_1 (ws_18 w) tw_1240 rfl (rr0 (Nat.le_of_ble_eq_true rfl) (Nat.le_of_ble_eq_true rfl)) (Nat.le_of_ble_eq_true rfl) xs0 k (fun h1 kk => ?_)
  obtain ⟨w2, k⟩ := kk
  refine aw_aload_n (i := 0) rfl d_X1_wholeStanding_6 0 rfl ?_
  refine aw_iload_n (i := 1) rfl d_X1_wholeStanding_7 1 rfl ?_
  refine aw_Vi 18 [.int x1] [] d_X1_wholeStanding_8 (cV_X1_standing (d + 4) 0 0) kc_1 (ws_18 w2) tw_1248 rfl (rr0 (Nat.le_of_ble_eq_true rfl) (Nat.le_of_ble_eq_true rfl)) (Nat.le_of_ble_eq_true rfl) xs0 k (fun r6 h4 kk => ?_)
  obtain ⟨w5, k⟩ := kk
  refine aw_bipush (v := 8) d_X1_wholeStanding_11 ib_8 ?_
  refine aw_ishl d_X1_wholeStanding_13 ?_
  refine aw_aload_n (i := 0) rfl d_X1_wholeStanding_14 0 rfl ?_
  refine aw_iload_n (i := 1) rfl d_X1_wholeStanding_15 1 rfl ?_
  refine aw_Vi 18 [.int x1] [.int (r6 <<< ((8 : Int32) &&& 31))] d_X1_wholeStanding_16 (cV_X1_lacks (d + 3) 0 0) kc_1 (ws_18 w5) tw_1271 rfl (rr0 (Nat.le_of_ble_eq_true rfl) (Nat.le_of_ble_eq_true rfl)) (Nat.le_of_ble_eq_true rfl) xs0 k (fun r9 h7 kk => ?_)
  obtain ⟨w8, k⟩ := kk
  refine aw_ior d_X1_wholeStanding_19 ?_
  exact aw_iret rfl d_X1_wholeStanding_20 ⟨Nat.le_refl _, Nat.le_refl _⟩ ⟨_, rfl, k⟩
theorem t_X6_findShares (d : Nat) (h : Hp_) (w : Wf h) (x1 : Int32) (K : Hp_ → Prop) (k : (¬ x1 = (h_i h 20 10) → AW (m_X6_findShares (d + 5) 0 0) 0 0 60 [(0, .ref 20), (1, .int x1), (2, .ref 12), (3, .ref 10), (4, .int 0)] [] (h_im (h_im (h_im (h_im h 20 10 x1) 20 11 (h_i h 10 1)) 20 12 (h_i h 20 3)) 20 7 0) (kV K)) ∧ (x1 = (h_i h 20 10) → (¬ (h_i h 10 1) = (h_i h 20 11) → AW (m_X6_findShares (d + 5) 0 0) 0 0 60 [(0, .ref 20), (1, .int x1), (2, .ref 12), (3, .ref 10), (4, .int 0)] [] (h_im (h_im (h_im (h_im h 20 10 x1) 20 11 (h_i h 10 1)) 20 12 (h_i h 20 3)) 20 7 0) (kV K)) ∧ ((h_i h 10 1) = (h_i h 20 11) → (¬ (h_i h 20 3) = (h_i h 20 12) → AW (m_X6_findShares (d + 5) 0 0) 0 0 60 [(0, .ref 20), (1, .int x1), (2, .ref 12), (3, .ref 10), (4, .int 0)] [] (h_im (h_im (h_im (h_im h 20 10 x1) 20 11 (h_i h 10 1)) 20 12 (h_i h 20 3)) 20 7 0) (kV K)) ∧ ((h_i h 20 3) = (h_i h 20 12) → K h)))) : Cv (m_X6_findShares (d + 5) 0 0) [.ref 20, .int x1, .ref 12, .ref 10] h K := by
  refine Ct.of (fun _ _ _ => trivial) rfl (Nat.le_of_ble_eq_true rfl) ?_
  show AW (m_X6_findShares (d + 5) 0 0) 0 0 0 [(0, .ref 20), (1, .int x1), (2, .ref 12), (3, .ref 10)] [] h (kV K)
  refine aw_iload_n (i := 1) rfl d_X6_findShares_0 1 rfl ?_
  refine aw_aload_n (i := 0) rfl d_X6_findShares_1 0 rfl ?_
  refine aw_geti (k0 := 10) kc_6 (ws_20 w) (Nat.le_of_ble_eq_true rfl) tw_374 d_X6_findShares_2 rfl ?_
  refine aw_icmp_ne (tgt := 31) d_X6_findShares_5 rfl (fun c1 => ?_) (fun c1 => ?_)
  · have k := k.1 c1
    refine aw_aload_n (i := 0) rfl d_X6_findShares_31 0 rfl ?_
    refine aw_iload_n (i := 1) rfl d_X6_findShares_32 1 rfl ?_
    refine aw_puti (k0 := 10) kc_6 (ws_20 w) (Nat.le_of_ble_eq_true rfl) tw_374 d_X6_findShares_33 rfl rfl nf_i ?_
    refine aw_aload_n (i := 0) rfl d_X6_findShares_36 0 rfl ?_
    refine aw_aload_n (i := 3) rfl d_X6_findShares_37 3 rfl ?_
    refine aw_geti (k0 := 1) kc_9 (ws_10 w) (Nat.le_of_ble_eq_true rfl) tw_44 d_X6_findShares_38 rfl ?_
    refine aw_vi (v2 := (h_i h 10 1)) (rfl) ?_
    refine aw_puti (k0 := 11) kc_6 (ws_20 w) (Nat.le_of_ble_eq_true rfl) tw_375 d_X6_findShares_41 rfl rfl nf_i ?_
    refine aw_aload_n (i := 0) rfl d_X6_findShares_44 0 rfl ?_
    refine aw_aload_n (i := 0) rfl d_X6_findShares_45 0 rfl ?_
    refine aw_geti (k0 := 3) kc_6 (ws_20 w) (Nat.le_of_ble_eq_true rfl) tw_366 d_X6_findShares_46 rfl ?_
    refine aw_vi (v2 := (h_i h 20 3)) (rfl) ?_
    refine aw_puti (k0 := 12) kc_6 (ws_20 w) (Nat.le_of_ble_eq_true rfl) tw_376 d_X6_findShares_49 rfl rfl nf_i ?_
    refine aw_aload_n (i := 0) rfl d_X6_findShares_52 0 rfl ?_
    refine aw_iconst (v := 0) d_X6_findShares_53 ic_0 ?_
    refine aw_puti (k0 := 7) kc_6 (ws_20 w) (Nat.le_of_ble_eq_true rfl) tw_371 d_X6_findShares_54 rfl rfl nf_i ?_
    refine aw_iconst (v := 0) d_X6_findShares_57 ic_0 ?_
    refine aw_istore [(0, .ref 20), (1, .int x1), (2, .ref 12), (3, .ref 10), (4, .int 0)] d_X6_findShares_58 (Nat.le_of_ble_eq_true rfl) rfl rfl ?_
    exact k
  · have k := k.2 c1
    refine aw_aload_n (i := 3) rfl d_X6_findShares_8 3 rfl ?_
    refine aw_geti (k0 := 1) kc_9 (ws_10 w) (Nat.le_of_ble_eq_true rfl) tw_44 d_X6_findShares_9 rfl ?_
    refine aw_aload_n (i := 0) rfl d_X6_findShares_12 0 rfl ?_
    refine aw_geti (k0 := 11) kc_6 (ws_20 w) (Nat.le_of_ble_eq_true rfl) tw_375 d_X6_findShares_13 rfl ?_
    refine aw_icmp_ne (tgt := 31) d_X6_findShares_16 rfl (fun c2 => ?_) (fun c2 => ?_)
    · have k := k.1 c2
      refine aw_aload_n (i := 0) rfl d_X6_findShares_31 0 rfl ?_
      refine aw_iload_n (i := 1) rfl d_X6_findShares_32 1 rfl ?_
      refine aw_puti (k0 := 10) kc_6 (ws_20 w) (Nat.le_of_ble_eq_true rfl) tw_374 d_X6_findShares_33 rfl rfl nf_i ?_
      refine aw_aload_n (i := 0) rfl d_X6_findShares_36 0 rfl ?_
      refine aw_aload_n (i := 3) rfl d_X6_findShares_37 3 rfl ?_
      refine aw_geti (k0 := 1) kc_9 (ws_10 w) (Nat.le_of_ble_eq_true rfl) tw_44 d_X6_findShares_38 rfl ?_
      refine aw_vi (v2 := (h_i h 10 1)) (rfl) ?_
      refine aw_puti (k0 := 11) kc_6 (ws_20 w) (Nat.le_of_ble_eq_true rfl) tw_375 d_X6_findShares_41 rfl rfl nf_i ?_
      refine aw_aload_n (i := 0) rfl d_X6_findShares_44 0 rfl ?_
      refine aw_aload_n (i := 0) rfl d_X6_findShares_45 0 rfl ?_
      refine aw_geti (k0 := 3) kc_6 (ws_20 w) (Nat.le_of_ble_eq_true rfl) tw_366 d_X6_findShares_46 rfl ?_
      refine aw_vi (v2 := (h_i h 20 3)) (rfl) ?_
      refine aw_puti (k0 := 12) kc_6 (ws_20 w) (Nat.le_of_ble_eq_true rfl) tw_376 d_X6_findShares_49 rfl rfl nf_i ?_
      refine aw_aload_n (i := 0) rfl d_X6_findShares_52 0 rfl ?_
      refine aw_iconst (v := 0) d_X6_findShares_53 ic_0 ?_
      refine aw_puti (k0 := 7) kc_6 (ws_20 w) (Nat.le_of_ble_eq_true rfl) tw_371 d_X6_findShares_54 rfl rfl nf_i ?_
      refine aw_iconst (v := 0) d_X6_findShares_57 ic_0 ?_
      refine aw_istore [(0, .ref 20), (1, .int x1), (2, .ref 12), (3, .ref 10), (4, .int 0)] d_X6_findShares_58 (Nat.le_of_ble_eq_true rfl) rfl rfl ?_
      exact k
    · have k := k.2 c2
      refine aw_aload_n (i := 0) rfl d_X6_findShares_19 0 rfl ?_
      refine aw_geti (k0 := 3) kc_6 (ws_20 w) (Nat.le_of_ble_eq_true rfl) tw_366 d_X6_findShares_20 rfl ?_
      refine aw_aload_n (i := 0) rfl d_X6_findShares_23 0 rfl ?_
      refine aw_geti (k0 := 12) kc_6 (ws_20 w) (Nat.le_of_ble_eq_true rfl) tw_376 d_X6_findShares_24 rfl ?_
      refine aw_icmp_ne (tgt := 31) d_X6_findShares_27 rfl (fun c3 => ?_) (fun c3 => ?_)
      · have k := k.1 c3
        refine aw_aload_n (i := 0) rfl d_X6_findShares_31 0 rfl ?_
        refine aw_iload_n (i := 1) rfl d_X6_findShares_32 1 rfl ?_
        refine aw_puti (k0 := 10) kc_6 (ws_20 w) (Nat.le_of_ble_eq_true rfl) tw_374 d_X6_findShares_33 rfl rfl nf_i ?_
        refine aw_aload_n (i := 0) rfl d_X6_findShares_36 0 rfl ?_
        refine aw_aload_n (i := 3) rfl d_X6_findShares_37 3 rfl ?_
        refine aw_geti (k0 := 1) kc_9 (ws_10 w) (Nat.le_of_ble_eq_true rfl) tw_44 d_X6_findShares_38 rfl ?_
        refine aw_vi (v2 := (h_i h 10 1)) (rfl) ?_
        refine aw_puti (k0 := 11) kc_6 (ws_20 w) (Nat.le_of_ble_eq_true rfl) tw_375 d_X6_findShares_41 rfl rfl nf_i ?_
        refine aw_aload_n (i := 0) rfl d_X6_findShares_44 0 rfl ?_
        refine aw_aload_n (i := 0) rfl d_X6_findShares_45 0 rfl ?_
        refine aw_geti (k0 := 3) kc_6 (ws_20 w) (Nat.le_of_ble_eq_true rfl) tw_366 d_X6_findShares_46 rfl ?_
        refine aw_vi (v2 := (h_i h 20 3)) (rfl) ?_
        refine aw_puti (k0 := 12) kc_6 (ws_20 w) (Nat.le_of_ble_eq_true rfl) tw_376 d_X6_findShares_49 rfl rfl nf_i ?_
        refine aw_aload_n (i := 0) rfl d_X6_findShares_52 0 rfl ?_
        refine aw_iconst (v := 0) d_X6_findShares_53 ic_0 ?_
        refine aw_puti (k0 := 7) kc_6 (ws_20 w) (Nat.le_of_ble_eq_true rfl) tw_371 d_X6_findShares_54 rfl rfl nf_i ?_
        refine aw_iconst (v := 0) d_X6_findShares_57 ic_0 ?_
        refine aw_istore [(0, .ref 20), (1, .int x1), (2, .ref 12), (3, .ref 10), (4, .int 0)] d_X6_findShares_58 (Nat.le_of_ble_eq_true rfl) rfl rfl ?_
        exact k
      · have k := k.2 c3
        exact aw_vret rfl d_X6_findShares_30 ⟨Nat.le_refl _, Nat.le_refl _⟩ ⟨rfl, k⟩
theorem t_X6_findShares_60 (d : Nat) (h : Hp_) (w : Wf h) (x1 : Int32) (x4 : Int32) (K : Hp_ → Prop) (k : ((h_i h 12 3) ≤ x4 → Cv (m_X6_deal (d + 2) 0 0) [.ref 20, .int 0, .int 12, .long (0 : Int64)] (h_im (h_im h 20 8 (-1)) 20 9 (-1)) (fun h5 => Wf h5 ∧ (K h5))) ∧ (¬ (h_i h 12 3) ≤ x4 → (¬ ((x1 >>> (x4 &&& 31)) &&& 1) = 1 → AW (m_X6_findShares (d + 5) 0 0) 0 0 60 [(0, .ref 20), (1, .int x1), (2, .ref 12), (3, .ref 10), (4, .int (x4 + 1))] [] h (kV K)) ∧ (((x1 >>> (x4 &&& 31)) &&& 1) = 1 → (5 ≤ (h_i h 20 7) → AW (m_X6_findShares (d + 5) 0 0) 0 0 60 [(0, .ref 20), (1, .int x1), (2, .ref 12), (3, .ref 10), (4, .int (x4 + 1))] [] h (kV K)) ∧ (¬ 5 ≤ (h_i h 20 7) → Cl_ (m_X6_sightOf (d + 4) 0 0) [.ref 20, .int x4, .ref 12, .ref 10] h (fun r12 h10 => Wf h10 ∧ (vp_in (h_i h 20 7) 5 ∧ (AW (m_X6_findShares (d + 5) 0 0) 0 0 60 [(0, .ref 20), (1, .int x1), (2, .ref 12), (3, .ref 10), (4, .int (x4 + 1))] [] (h_im (h_lm h10 95 ((h_i h 20 7) : Int32).toNatClampNeg r12) 20 7 ((h_i h10 20 7) + 1)) (kV K)))))))) : AW (m_X6_findShares (d + 5) 0 0) 0 0 60 [(0, .ref 20), (1, .int x1), (2, .ref 12), (3, .ref 10), (4, .int x4)] [] h (kV K) := by
  refine aw_iload d_X6_findShares_60 4 rfl ?_
  refine aw_aload_n (i := 2) rfl d_X6_findShares_62 2 rfl ?_
  refine aw_geti (k0 := 3) kc_0 (ws_12 w) (Nat.le_of_ble_eq_true rfl) tw_107 d_X6_findShares_63 rfl ?_
  refine aw_icmp_ge (tgt := 120) d_X6_findShares_66 rfl (fun c4 => ?_) (fun c4 => ?_)
  · have k := k.1 c4
    refine aw_aload_n (i := 0) rfl d_X6_findShares_120 0 rfl ?_
    refine aw_iconst (v := (-1)) d_X6_findShares_121 ic_m1 ?_
    refine aw_puti (k0 := 8) kc_6 (ws_20 w) (Nat.le_of_ble_eq_true rfl) tw_372 d_X6_findShares_122 rfl rfl nf_i ?_
    refine aw_aload_n (i := 0) rfl d_X6_findShares_125 0 rfl ?_
    refine aw_iconst (v := (-1)) d_X6_findShares_126 ic_m1 ?_
    refine aw_puti (k0 := 9) kc_6 (ws_20 w) (Nat.le_of_ble_eq_true rfl) tw_373 d_X6_findShares_127 rfl rfl nf_i ?_
    refine aw_aload_n (i := 0) rfl d_X6_findShares_130 0 rfl ?_
    refine aw_iconst (v := 0) d_X6_findShares_131 ic_0 ?_
    refine aw_bipush (v := 12) d_X6_findShares_132 ib_12 ?_
    refine aw_lconst (v := 0) d_X6_findShares_134 rfl ?_
    refine aw_Vv 20 [.int 0, .int 12, .long (0 : Int64)] [] d_X6_findShares_135 (cV_X6_deal (d + 2) 0 0) kc_6 (ws_20 w) tw_1460 rfl (rr0 (Nat.le_of_ble_eq_true rfl) (Nat.le_of_ble_eq_true rfl)) (Nat.le_of_ble_eq_true rfl) xs0 k (fun h5 kk => ?_)
    obtain ⟨w6, k⟩ := kk
    exact aw_vret rfl d_X6_findShares_138 ⟨Nat.le_refl _, Nat.le_refl _⟩ ⟨rfl, k⟩
  · have k := k.2 c4
    refine aw_iload_n (i := 1) rfl d_X6_findShares_69 1 rfl ?_
    refine aw_iload d_X6_findShares_70 4 rfl ?_
    refine aw_ishr d_X6_findShares_72 ?_
    refine aw_iconst (v := 1) d_X6_findShares_73 ic_1 ?_
    refine aw_iand d_X6_findShares_74 ?_
    refine aw_iconst (v := 1) d_X6_findShares_75 ic_1 ?_
    refine aw_icmp_ne (tgt := 114) d_X6_findShares_76 rfl (fun c8 => ?_) (fun c8 => ?_)
    · have k := k.1 c8
      refine aw_iinc (v := (x4 + 1)) [(0, .ref 20), (1, .int x1), (2, .ref 12), (3, .ref 10), (4, .int (x4 + 1))] d_X6_findShares_114 4 rfl rfl (Nat.le_of_ble_eq_true rfl) rfl rfl ?_
      refine aw_goto (tgt := 60) d_X6_findShares_117 rfl ?_
      exact k
    · have k := k.2 c8
      refine aw_aload_n (i := 0) rfl d_X6_findShares_79 0 rfl ?_
      refine aw_geti (k0 := 7) kc_6 (ws_20 w) (Nat.le_of_ble_eq_true rfl) tw_371 d_X6_findShares_80 rfl ?_
      refine aw_iconst (v := 5) d_X6_findShares_83 ic_5 ?_
      refine aw_icmp_ge (tgt := 114) d_X6_findShares_84 rfl (fun c9 => ?_) (fun c9 => ?_)
      · have k := k.1 c9
        refine aw_iinc (v := (x4 + 1)) [(0, .ref 20), (1, .int x1), (2, .ref 12), (3, .ref 10), (4, .int (x4 + 1))] d_X6_findShares_114 4 rfl rfl (Nat.le_of_ble_eq_true rfl) rfl rfl ?_
        refine aw_goto (tgt := 60) d_X6_findShares_117 rfl ?_
        exact k
      · have k := k.2 c9
        refine aw_aload_n (i := 0) rfl d_X6_findShares_87 0 rfl ?_
        refine aw_getr (k0 := 4) kc_6 (ws_20 w) (Nat.le_of_ble_eq_true rfl) tw_368 d_X6_findShares_88 rfl (wr_20_4 w) ?_
        refine aw_aload_n (i := 0) rfl d_X6_findShares_91 0 rfl ?_
        refine aw_geti (k0 := 7) kc_6 (ws_20 w) (Nat.le_of_ble_eq_true rfl) tw_371 d_X6_findShares_92 rfl ?_
        refine aw_aload_n (i := 0) rfl d_X6_findShares_95 0 rfl ?_
        refine aw_iload d_X6_findShares_96 4 rfl ?_
        refine aw_aload_n (i := 2) rfl d_X6_findShares_98 2 rfl ?_
        refine aw_aload_n (i := 3) rfl d_X6_findShares_99 3 rfl ?_
        refine aw_Vl 20 [.int x4, .ref 12, .ref 10] [.int (h_i h 20 7), .ref 95] d_X6_findShares_100 (cV_X6_sightOf (d + 4) 0 0) kc_6 (ws_20 w) tw_1455 rfl (rr0 (Nat.le_of_ble_eq_true rfl) (Nat.le_of_ble_eq_true rfl)) (Nat.le_of_ble_eq_true rfl) xs0 k (fun r12 h10 kk => ?_)
        obtain ⟨w11, k⟩ := kk
        obtain ⟨b13, k⟩ := k
        refine aw_last (ws_95 w11) b13 d_X6_findShares_103 ?_
        refine aw_aload_n (i := 0) rfl d_X6_findShares_104 0 rfl ?_
        refine aw_dup d_X6_findShares_105 rfl ?_
        refine aw_geti (k0 := 7) kc_6 (ws_20 w11) (Nat.le_of_ble_eq_true rfl) tw_371 d_X6_findShares_106 rfl ?_
        refine aw_vi (v2 := (h_i h10 20 7)) (rfl) ?_
        refine aw_iconst (v := 1) d_X6_findShares_109 ic_1 ?_
        refine aw_iadd d_X6_findShares_110 ?_
        refine aw_puti (k0 := 7) kc_6 (ws_20 w11) (Nat.le_of_ble_eq_true rfl) tw_371 d_X6_findShares_111 rfl rfl nf_i ?_
        refine aw_iinc (v := (x4 + 1)) [(0, .ref 20), (1, .int x1), (2, .ref 12), (3, .ref 10), (4, .int (x4 + 1))] d_X6_findShares_114 4 rfl rfl (Nat.le_of_ble_eq_true rfl) rfl rfl ?_
        refine aw_goto (tgt := 60) d_X6_findShares_117 rfl ?_
        exact k
theorem t_X11_draw (d : Nat) (h : Hp_) (w : Wf h) (x1 : Int32) (x2 : Int32) (x3 : Int32) (K : Int32 → Hp_ → Prop) (k : Cr (m_X11_manOf (d + 1) 0 0) [.ref 0, .int x1] h (fun o5 h1 => Wf h1 ∧ ((o5 = none → K 0 h1) ∧ (∀ b4, o5 = some b4 → h_sh h1 b4 = some (12, 17) ∧ 400 ≤ b4 ∧ ((¬ (0 ≤ x2 ∧ x2 < 16) → K 0 h1) ∧ ((0 ≤ x2 ∧ x2 < 16) → (((h_i h1 0 0) ≤ x3 ∧ x3 ≤ 30000) → Ci (m_X9_minutes (d + 1) 0 0) [.ref 10, .int (h_i h1 b4 3), .int x2] h1 (fun r16 h14 => Wf h14 ∧ h_sh h14 b4 = some (12, 17) ∧ ((r16 = (-1) → K 0 h14) ∧ (¬ r16 = (-1) → ((h_i h14 b4 4) = 3 → K 0 h14) ∧ (¬ (h_i h14 b4 4) = 3 → (¬ (h_i h14 b4 4) = 4 → Cv (m_X11_drop (d + 2) 0 0) [.ref 0, .ref b4, .int 3] h14 (fun h21 => Wf h21 ∧ h_sh h21 b4 = some (12, 17) ∧ ((¬ (h_i h21 b4 6) = (-1) → K 1 (h_im (h_im (h_im h21 b4 4 3) b4 13 x2) b4 14 x3)) ∧ ((h_i h21 b4 6) = (-1) → Cv (m_X11_serveDrawn (d + 4) 0 0) [.ref 0, .ref b4] (h_im (h_im (h_im (h_im h21 b4 4 3) b4 13 x2) b4 14 x3) b4 7 (-1)) (fun h26 => Wf h26 ∧ (K 1 h26)))))) ∧ ((h_i h14 b4 4) = 4 → K 0 h14)))))) ∧ (¬ ((h_i h1 0 0) ≤ x3 ∧ x3 ≤ 30000) → K 0 h1))))))) : Ci (m_X11_draw (d + 5) 0 0) [.ref 0, .int x1, .int x2, .int x3] h K := by
  refine Ct.of (fun _ _ _ => trivial) rfl (Nat.le_of_ble_eq_true rfl) ?_
  show AW (m_X11_draw (d + 5) 0 0) 0 0 0 [(0, .ref 0), (1, .int x1), (2, .int x2), (3, .int x3)] [] h (kI K)
  refine aw_aload_n (i := 0) rfl d_X11_draw_0 0 rfl ?_
  refine aw_iload_n (i := 1) rfl d_X11_draw_1 1 rfl ?_
  refine aw_Vr 0 [.int x1] [] d_X11_draw_2 (cV_X11_manOf (d + 1) 0 0) kc_11 (ws_0 w) tw_904 rfl (rr0 (Nat.le_of_ble_eq_true rfl) (Nat.le_of_ble_eq_true rfl)) (Nat.le_of_ble_eq_true rfl) xs0 k (fun h1 kk => ?_) (fun b4 h1 kk => ?_)
  · obtain ⟨w2, k⟩ := kk
    have k := k.1 rfl
    refine aw_astoreN [(0, .ref 0), (1, .int x1), (2, .int x2), (3, .int x3), (4, .null)] d_X11_draw_5 (Nat.le_of_ble_eq_true rfl) rfl rfl ?_
    refine aw_aloadN d_X11_draw_7 4 rfl ?_
    refine aw_ifnullN (tgt := 33) d_X11_draw_9 rfl ?_
    refine aw_iconst (v := 0) d_X11_draw_33 ic_0 ?_
    exact aw_zret rfl rfl d_X11_draw_34 ⟨Nat.le_refl _, Nat.le_refl _⟩ ⟨_, rfl, k⟩
  · obtain ⟨w2, k⟩ := kk
    obtain ⟨q6, l7, k⟩ := k.2 b4 rfl
    refine aw_astore [(0, .ref 0), (1, .int x1), (2, .int x2), (3, .int x3), (4, .ref b4)] d_X11_draw_5 (Nat.le_of_ble_eq_true rfl) rfl rfl ?_
    refine aw_aload d_X11_draw_7 4 rfl ?_
    refine aw_ifnull d_X11_draw_9 ?_
    refine aw_iload_n (i := 2) rfl d_X11_draw_12 2 rfl ?_
    refine aw_Si [.int x2] [] d_X11_draw_13 (cS_X11_isPlace (d + 0) 0 0) tw_540 rfl (rr0 (Nat.le_of_ble_eq_true rfl) (Nat.le_of_ble_eq_true rfl)) (Nat.le_of_ble_eq_true rfl) xs0 (s_X11_isPlace _ _ x2) (fun _ _ kk => ?_)
    obtain ⟨e8, e9⟩ := kk
    rw [e8, e9]
    refine aw_ifb_eq (tgt := 33) d_X11_draw_16 rfl (fun c10 => ?_) (fun c10 => ?_)
    · have k := k.1 c10
      refine aw_iconst (v := 0) d_X11_draw_33 ic_0 ?_
      exact aw_zret rfl rfl d_X11_draw_34 ⟨Nat.le_refl _, Nat.le_refl _⟩ ⟨_, rfl, k⟩
    · have k := k.2 c10
      refine aw_iload_n (i := 3) rfl d_X11_draw_19 3 rfl ?_
      refine aw_aload_n (i := 0) rfl d_X11_draw_20 0 rfl ?_
      refine aw_geti (k0 := 0) kc_11 (ws_0 w2) (Nat.le_of_ble_eq_true rfl) tw_487 d_X11_draw_21 rfl ?_
      refine aw_sipush (v := 30000) d_X11_draw_24 is_30000 ?_
      refine aw_Si [.int x3, .int (h_i h1 0 0), .int 30000] [] d_X11_draw_27 (cS_X11_within (d + 0) 0 0) tw_543 rfl (rr0 (Nat.le_of_ble_eq_true rfl) (Nat.le_of_ble_eq_true rfl)) (Nat.le_of_ble_eq_true rfl) xs0 (s_X11_within _ _ x3 (h_i h1 0 0) 30000) (fun _ _ kk => ?_)
      obtain ⟨e11, e12⟩ := kk
      rw [e11, e12]
      refine aw_ifb_ne (tgt := 35) d_X11_draw_30 rfl (fun c13 => ?_) (fun c13 => ?_)
      · have k := k.1 c13
        refine aw_aload_n (i := 0) rfl d_X11_draw_35 0 rfl ?_
        refine aw_getr (k0 := 1) kc_11 (ws_0 w2) (Nat.le_of_ble_eq_true rfl) tw_488 d_X11_draw_36 rfl (wr_0_1 w2) ?_
        refine aw_aload d_X11_draw_39 4 rfl ?_
        refine aw_geti (k0 := 3) kc_2 (q6) (Nat.le_of_ble_eq_true rfl) tw_579 d_X11_draw_41 rfl ?_
        refine aw_iload_n (i := 2) rfl d_X11_draw_44 2 rfl ?_
        refine aw_Vi 10 [.int (h_i h1 b4 3), .int x2] [] d_X11_draw_45 (cV_X9_minutes (d + 1) 0 0) kc_9 (ws_10 w2) tw_557 rfl (rr0 (Nat.le_of_ble_eq_true rfl) (Nat.le_of_ble_eq_true rfl)) (Nat.le_of_ble_eq_true rfl) xs0 k (fun r16 h14 kk => ?_)
        obtain ⟨w15, q17, k⟩ := kk
        refine aw_iconst (v := (-1)) d_X11_draw_48 ic_m1 ?_
        refine aw_icmp_eq (tgt := 70) d_X11_draw_49 rfl (fun c18 => ?_) (fun c18 => ?_)
        · have k := k.1 c18
          refine aw_iconst (v := 0) d_X11_draw_70 ic_0 ?_
          exact aw_zret rfl rfl d_X11_draw_71 ⟨Nat.le_refl _, Nat.le_refl _⟩ ⟨_, rfl, k⟩
        · have k := k.2 c18
          refine aw_aload d_X11_draw_52 4 rfl ?_
          refine aw_geti (k0 := 4) kc_2 (q17) (Nat.le_of_ble_eq_true rfl) tw_581 d_X11_draw_54 rfl ?_
          refine aw_iconst (v := 3) d_X11_draw_57 ic_3 ?_
          refine aw_icmp_eq (tgt := 70) d_X11_draw_58 rfl (fun c19 => ?_) (fun c19 => ?_)
          · have k := k.1 c19
            refine aw_iconst (v := 0) d_X11_draw_70 ic_0 ?_
            exact aw_zret rfl rfl d_X11_draw_71 ⟨Nat.le_refl _, Nat.le_refl _⟩ ⟨_, rfl, k⟩
          · have k := k.2 c19
            refine aw_aload d_X11_draw_61 4 rfl ?_
            refine aw_geti (k0 := 4) kc_2 (q17) (Nat.le_of_ble_eq_true rfl) tw_581 d_X11_draw_63 rfl ?_
            refine aw_iconst (v := 4) d_X11_draw_66 ic_4 ?_
            refine aw_icmp_ne (tgt := 72) d_X11_draw_67 rfl (fun c20 => ?_) (fun c20 => ?_)
            · have k := k.1 c20
              refine aw_aload_n (i := 0) rfl d_X11_draw_72 0 rfl ?_
              refine aw_aload d_X11_draw_73 4 rfl ?_
              refine aw_iconst (v := 3) d_X11_draw_75 ic_3 ?_
              refine aw_Vv 0 [.ref b4, .int 3] [] d_X11_draw_76 (cV_X11_drop (d + 2) 0 0) kc_11 (ws_0 w15) tw_975 rfl (rr0 (Nat.le_of_ble_eq_true rfl) (Nat.le_of_ble_eq_true rfl)) (Nat.le_of_ble_eq_true rfl) xs0 k (fun h21 kk => ?_)
              obtain ⟨w22, q24, k⟩ := kk
              refine aw_aload d_X11_draw_79 4 rfl ?_
              refine aw_iconst (v := 3) d_X11_draw_81 ic_3 ?_
              refine aw_puti (k0 := 4) kc_2 (q24) (Nat.le_of_ble_eq_true rfl) tw_581 d_X11_draw_82 rfl rfl nf_i ?_
              refine aw_aload d_X11_draw_85 4 rfl ?_
              refine aw_iload_n (i := 2) rfl d_X11_draw_87 2 rfl ?_
              refine aw_puti (k0 := 13) kc_2 (q24) (Nat.le_of_ble_eq_true rfl) tw_595 d_X11_draw_88 rfl rfl nf_i ?_
              refine aw_aload d_X11_draw_91 4 rfl ?_
              refine aw_iload_n (i := 3) rfl d_X11_draw_93 3 rfl ?_
              refine aw_puti (k0 := 14) kc_2 (q24) (Nat.le_of_ble_eq_true rfl) tw_596 d_X11_draw_94 rfl rfl nf_i ?_
              refine aw_aload d_X11_draw_97 4 rfl ?_
              refine aw_geti (k0 := 6) kc_2 (q24) (Nat.le_of_ble_eq_true rfl) tw_585 d_X11_draw_99 rfl ?_
              refine aw_vi (v2 := (h_i h21 b4 6)) ((hi_o (h_im (h_im h21 b4 4 3) b4 13 x2) b4 14 x3 6 (by decide)).trans ((hi_o (h_im h21 b4 4 3) b4 13 x2 6 (by decide)).trans ((hi_o h21 b4 4 3 6 (by decide)).trans (rfl)))) ?_
              refine aw_iconst (v := (-1)) d_X11_draw_102 ic_m1 ?_
              refine aw_icmp_ne (tgt := 118) d_X11_draw_103 rfl (fun c25 => ?_) (fun c25 => ?_)
              · have k := k.1 c25
                refine aw_iconst (v := 1) d_X11_draw_118 ic_1 ?_
                exact aw_zret rfl rfl d_X11_draw_119 ⟨Nat.le_refl _, Nat.le_refl _⟩ ⟨_, rfl, k⟩
              · have k := k.2 c25
                refine aw_aload d_X11_draw_106 4 rfl ?_
                refine aw_iconst (v := (-1)) d_X11_draw_108 ic_m1 ?_
                refine aw_puti (k0 := 7) kc_2 (q24) (Nat.le_of_ble_eq_true rfl) tw_587 d_X11_draw_109 rfl rfl nf_i ?_
                refine aw_aload_n (i := 0) rfl d_X11_draw_112 0 rfl ?_
                refine aw_aload d_X11_draw_113 4 rfl ?_
                refine aw_Vv 0 [.ref b4] [] d_X11_draw_115 (cV_X11_serveDrawn (d + 4) 0 0) kc_11 (ws_0 w22) tw_983 rfl (rr0 (Nat.le_of_ble_eq_true rfl) (Nat.le_of_ble_eq_true rfl)) (Nat.le_of_ble_eq_true rfl) xs0 k (fun h26 kk => ?_)
                obtain ⟨w27, k⟩ := kk
                refine aw_iconst (v := 1) d_X11_draw_118 ic_1 ?_
                exact aw_zret rfl rfl d_X11_draw_119 ⟨Nat.le_refl _, Nat.le_refl _⟩ ⟨_, rfl, k⟩
            · have k := k.2 c20
              refine aw_iconst (v := 0) d_X11_draw_70 ic_0 ?_
              exact aw_zret rfl rfl d_X11_draw_71 ⟨Nat.le_refl _, Nat.le_refl _⟩ ⟨_, rfl, k⟩
      · have k := k.2 c13
        refine aw_iconst (v := 0) d_X11_draw_33 ic_0 ?_
        exact aw_zret rfl rfl d_X11_draw_34 ⟨Nat.le_refl _, Nat.le_refl _⟩ ⟨_, rfl, k⟩
theorem t_X11_endsStep (d : Nat) (h : Hp_) (w : Wf h) (x1 : Nat) (hs_x1 : h_sh h x1 = some (12, 17)) (lb_x1 : 400 ≤ x1) (x2 : Int32) (K : Int32 → Hp_ → Prop) (k : Ci (m_X0_stepAt (d + 0) 0 0) [.ref 12, .int (h_i h x1 8), .int (h_i h x1 9)] h (fun r3 h1 => Wf h1 ∧ h_sh h1 x1 = some (12, 17) ∧ (Ci (m_X0_kindOf (d + 0) 0 0) [.int r3] h1 (fun r7 h5 => Wf h5 ∧ h_sh h5 x1 = some (12, 17) ∧ ((¬ r7 = 3 → (¬ r7 = 2 → K 1 h5) ∧ (r7 = 2 → (x2 = 0 → K 1 h5) ∧ (¬ x2 = 0 → Ci (m_X11_waitsAtPoint (d + 2) 0 0) [.ref 0, .ref x1, .int r3] h5 (fun r14 h12 => Wf h12 ∧ ((¬ r14 = 0 → K 0 h12) ∧ (r14 = 0 → K 1 h12)))))) ∧ (r7 = 3 → Cv (m_X11_look (d + 4) 0 0) [.ref 0, .ref x1] h5 (fun h16 => Wf h16 ∧ h_sh h16 x1 = some (12, 17) ∧ ((¬ r7 = 2 → K 1 h16) ∧ (r7 = 2 → (x2 = 0 → K 1 h16) ∧ (¬ x2 = 0 → Ci (m_X11_waitsAtPoint (d + 2) 0 0) [.ref 0, .ref x1, .int r3] h16 (fun r24 h22 => Wf h22 ∧ ((¬ r24 = 0 → K 0 h22) ∧ (r24 = 0 → K 1 h22))))))))))))) : Ci (m_X11_endsStep (d + 5) 0 0) [.ref 0, .ref x1, .int x2] h K := by
  refine Ct.of (fun _ _ _ => trivial) rfl (Nat.le_of_ble_eq_true rfl) ?_
  show AW (m_X11_endsStep (d + 5) 0 0) 0 0 0 [(0, .ref 0), (1, .ref x1), (2, .int x2)] [] h (kI K)
  refine aw_aload_n (i := 0) rfl d_X11_endsStep_0 0 rfl ?_
  refine aw_getr (k0 := 3) kc_11 (ws_0 w) (Nat.le_of_ble_eq_true rfl) tw_490 d_X11_endsStep_1 rfl (wr_0_3 w) ?_
  refine aw_aload_n (i := 1) rfl d_X11_endsStep_4 1 rfl ?_
  refine aw_geti (k0 := 8) kc_2 (hs_x1) (Nat.le_of_ble_eq_true rfl) tw_588 d_X11_endsStep_5 rfl ?_
  refine aw_aload_n (i := 1) rfl d_X11_endsStep_8 1 rfl ?_
  refine aw_geti (k0 := 9) kc_2 (hs_x1) (Nat.le_of_ble_eq_true rfl) tw_589 d_X11_endsStep_9 rfl ?_
  refine aw_Vi 12 [.int (h_i h x1 8), .int (h_i h x1 9)] [] d_X11_endsStep_12 (cV_X0_stepAt (d + 0) 0 0) kc_0 (ws_12 w) tw_916 rfl (rr0 (Nat.le_of_ble_eq_true rfl) (Nat.le_of_ble_eq_true rfl)) (Nat.le_of_ble_eq_true rfl) xs0 k (fun r3 h1 kk => ?_)
  obtain ⟨w2, q4, k⟩ := kk
  refine aw_istore_n (i := 3) rfl [(0, .ref 0), (1, .ref x1), (2, .int x2), (3, .int r3)] d_X11_endsStep_15 (Nat.le_of_ble_eq_true rfl) rfl rfl ?_
  refine aw_iload_n (i := 3) rfl d_X11_endsStep_16 3 rfl ?_
  refine aw_Si [.int r3] [] d_X11_endsStep_17 (cS_X0_kindOf (d + 0) 0 0) tw_920 rfl (rr0 (Nat.le_of_ble_eq_true rfl) (Nat.le_of_ble_eq_true rfl)) (Nat.le_of_ble_eq_true rfl) xs0 k (fun r7 h5 kk => ?_)
  obtain ⟨w6, q8, k⟩ := kk
  refine aw_istore [(0, .ref 0), (1, .ref x1), (2, .int x2), (3, .int r3), (4, .int r7)] d_X11_endsStep_20 (Nat.le_of_ble_eq_true rfl) rfl rfl ?_
  refine aw_iload d_X11_endsStep_22 4 rfl ?_
  refine aw_iconst (v := 3) d_X11_endsStep_24 ic_3 ?_
  refine aw_icmp_ne (tgt := 33) d_X11_endsStep_25 rfl (fun c9 => ?_) (fun c9 => ?_)
  · have k := k.1 c9
    refine aw_iload d_X11_endsStep_33 4 rfl ?_
    refine aw_iconst (v := 2) d_X11_endsStep_35 ic_2 ?_
    refine aw_icmp_ne (tgt := 52) d_X11_endsStep_36 rfl (fun c10 => ?_) (fun c10 => ?_)
    · have k := k.1 c10
      refine aw_iconst (v := 1) d_X11_endsStep_52 ic_1 ?_
      refine aw_goto (tgt := 57) d_X11_endsStep_53 rfl ?_
      exact aw_zret rfl rfl d_X11_endsStep_57 ⟨Nat.le_refl _, Nat.le_refl _⟩ ⟨_, rfl, k⟩
    · have k := k.2 c10
      refine aw_iload_n (i := 2) rfl d_X11_endsStep_39 2 rfl ?_
      refine aw_if_eq (tgt := 52) d_X11_endsStep_40 rfl (fun c11 => ?_) (fun c11 => ?_)
      · have k := k.1 c11
        refine aw_iconst (v := 1) d_X11_endsStep_52 ic_1 ?_
        refine aw_goto (tgt := 57) d_X11_endsStep_53 rfl ?_
        exact aw_zret rfl rfl d_X11_endsStep_57 ⟨Nat.le_refl _, Nat.le_refl _⟩ ⟨_, rfl, k⟩
      · have k := k.2 c11
        refine aw_aload_n (i := 0) rfl d_X11_endsStep_43 0 rfl ?_
        refine aw_aload_n (i := 1) rfl d_X11_endsStep_44 1 rfl ?_
        refine aw_iload_n (i := 3) rfl d_X11_endsStep_45 3 rfl ?_
        refine aw_Vi 0 [.ref x1, .int r3] [] d_X11_endsStep_46 (cV_X11_waitsAtPoint (d + 2) 0 0) kc_11 (ws_0 w6) tw_955 rfl (rr0 (Nat.le_of_ble_eq_true rfl) (Nat.le_of_ble_eq_true rfl)) (Nat.le_of_ble_eq_true rfl) xs0 k (fun r14 h12 kk => ?_)
        obtain ⟨w13, k⟩ := kk
        refine aw_if_ne (tgt := 56) d_X11_endsStep_49 rfl (fun c15 => ?_) (fun c15 => ?_)
        · have k := k.1 c15
          refine aw_iconst (v := 0) d_X11_endsStep_56 ic_0 ?_
          exact aw_zret rfl rfl d_X11_endsStep_57 ⟨Nat.le_refl _, Nat.le_refl _⟩ ⟨_, rfl, k⟩
        · have k := k.2 c15
          refine aw_iconst (v := 1) d_X11_endsStep_52 ic_1 ?_
          refine aw_goto (tgt := 57) d_X11_endsStep_53 rfl ?_
          exact aw_zret rfl rfl d_X11_endsStep_57 ⟨Nat.le_refl _, Nat.le_refl _⟩ ⟨_, rfl, k⟩
  · have k := k.2 c9
    refine aw_aload_n (i := 0) rfl d_X11_endsStep_28 0 rfl ?_
    refine aw_aload_n (i := 1) rfl d_X11_endsStep_29 1 rfl ?_
    refine aw_Vv 0 [.ref x1] [] d_X11_endsStep_30 (cV_X11_look (d + 4) 0 0) kc_11 (ws_0 w6) tw_1023 rfl (rr0 (Nat.le_of_ble_eq_true rfl) (Nat.le_of_ble_eq_true rfl)) (Nat.le_of_ble_eq_true rfl) xs0 k (fun h16 kk => ?_)
    obtain ⟨w17, q19, k⟩ := kk
    refine aw_iload d_X11_endsStep_33 4 rfl ?_
    refine aw_iconst (v := 2) d_X11_endsStep_35 ic_2 ?_
    refine aw_icmp_ne (tgt := 52) d_X11_endsStep_36 rfl (fun c20 => ?_) (fun c20 => ?_)
    · have k := k.1 c20
      refine aw_iconst (v := 1) d_X11_endsStep_52 ic_1 ?_
      refine aw_goto (tgt := 57) d_X11_endsStep_53 rfl ?_
      exact aw_zret rfl rfl d_X11_endsStep_57 ⟨Nat.le_refl _, Nat.le_refl _⟩ ⟨_, rfl, k⟩
    · have k := k.2 c20
      refine aw_iload_n (i := 2) rfl d_X11_endsStep_39 2 rfl ?_
      refine aw_if_eq (tgt := 52) d_X11_endsStep_40 rfl (fun c21 => ?_) (fun c21 => ?_)
      · have k := k.1 c21
        refine aw_iconst (v := 1) d_X11_endsStep_52 ic_1 ?_
        refine aw_goto (tgt := 57) d_X11_endsStep_53 rfl ?_
        exact aw_zret rfl rfl d_X11_endsStep_57 ⟨Nat.le_refl _, Nat.le_refl _⟩ ⟨_, rfl, k⟩
      · have k := k.2 c21
        refine aw_aload_n (i := 0) rfl d_X11_endsStep_43 0 rfl ?_
        refine aw_aload_n (i := 1) rfl d_X11_endsStep_44 1 rfl ?_
        refine aw_iload_n (i := 3) rfl d_X11_endsStep_45 3 rfl ?_
        refine aw_Vi 0 [.ref x1, .int r3] [] d_X11_endsStep_46 (cV_X11_waitsAtPoint (d + 2) 0 0) kc_11 (ws_0 w17) tw_955 rfl (rr0 (Nat.le_of_ble_eq_true rfl) (Nat.le_of_ble_eq_true rfl)) (Nat.le_of_ble_eq_true rfl) xs0 k (fun r24 h22 kk => ?_)
        obtain ⟨w23, k⟩ := kk
        refine aw_if_ne (tgt := 56) d_X11_endsStep_49 rfl (fun c25 => ?_) (fun c25 => ?_)
        · have k := k.1 c25
          refine aw_iconst (v := 0) d_X11_endsStep_56 ic_0 ?_
          exact aw_zret rfl rfl d_X11_endsStep_57 ⟨Nat.le_refl _, Nat.le_refl _⟩ ⟨_, rfl, k⟩
        · have k := k.2 c25
          refine aw_iconst (v := 1) d_X11_endsStep_52 ic_1 ?_
          refine aw_goto (tgt := 57) d_X11_endsStep_53 rfl ?_
          exact aw_zret rfl rfl d_X11_endsStep_57 ⟨Nat.le_refl _, Nat.le_refl _⟩ ⟨_, rfl, k⟩
theorem t_X11_doSteps (d : Nat) (h : Hp_) (w : Wf h) (x1 : Nat) (hs_x1 : h_sh h x1 = some (12, 17)) (lb_x1 : 400 ≤ x1) (K : Hp_ → Prop) (k : Ci (m_X0_stepsOf (d + 1) 0 0) [.ref 12, .int (h_i h x1 8)] h (fun r3 h1 => Wf h1 ∧ h_sh h1 x1 = some (12, 17) ∧ (AW (m_X11_doSteps (d + 5) 0 0) 0 0 12 [(0, .ref 0), (1, .ref x1), (2, .int r3)] [] h1 (kV K)))) : Cv (m_X11_doSteps (d + 5) 0 0) [.ref 0, .ref x1] h K := by
  refine Ct.of (fun _ _ _ => trivial) rfl (Nat.le_of_ble_eq_true rfl) ?_
  show AW (m_X11_doSteps (d + 5) 0 0) 0 0 0 [(0, .ref 0), (1, .ref x1)] [] h (kV K)
  refine aw_aload_n (i := 0) rfl d_X11_doSteps_0 0 rfl ?_
  refine aw_getr (k0 := 3) kc_11 (ws_0 w) (Nat.le_of_ble_eq_true rfl) tw_490 d_X11_doSteps_1 rfl (wr_0_3 w) ?_
  refine aw_aload_n (i := 1) rfl d_X11_doSteps_4 1 rfl ?_
  refine aw_geti (k0 := 8) kc_2 (hs_x1) (Nat.le_of_ble_eq_true rfl) tw_588 d_X11_doSteps_5 rfl ?_
  refine aw_Vi 12 [.int (h_i h x1 8)] [] d_X11_doSteps_8 (cV_X0_stepsOf (d + 1) 0 0) kc_0 (ws_12 w) tw_891 rfl (rr0 (Nat.le_of_ble_eq_true rfl) (Nat.le_of_ble_eq_true rfl)) (Nat.le_of_ble_eq_true rfl) xs0 k (fun r3 h1 kk => ?_)
  obtain ⟨w2, q4, k⟩ := kk
  refine aw_istore_n (i := 2) rfl [(0, .ref 0), (1, .ref x1), (2, .int r3)] d_X11_doSteps_11 (Nat.le_of_ble_eq_true rfl) rfl rfl ?_
  exact k
theorem t_X11_doSteps_12 (d : Nat) (h : Hp_) (w : Wf h) (x1 : Nat) (hs_x1 : h_sh h x1 = some (12, 17)) (lb_x1 : 400 ≤ x1) (x2 : Int32) (K : Hp_ → Prop) (k : (x2 ≤ (h_i h x1 9) → Cv (m_X11_goHome (d + 3) 0 0) [.ref 0, .ref x1] h (fun h6 => Wf h6 ∧ (K h6))) ∧ (¬ x2 ≤ (h_i h x1 9) → Ci (m_X11_takesTime (d + 4) 0 0) [.ref 0, .ref x1] h (fun r11 h9 => Wf h9 ∧ h_sh h9 x1 = some (12, 17) ∧ ((r11 = 0 → AW (m_X11_doSteps (d + 5) 0 0) 0 0 12 [(0, .ref 0), (1, .ref x1), (2, .int x2)] [] (h_im h9 x1 9 ((h_i h9 x1 9) + 1)) (kV K)) ∧ (¬ r11 = 0 → K h9))))) : AW (m_X11_doSteps (d + 5) 0 0) 0 0 12 [(0, .ref 0), (1, .ref x1), (2, .int x2)] [] h (kV K) := by
  refine aw_aload_n (i := 1) rfl d_X11_doSteps_12 1 rfl ?_
  refine aw_geti (k0 := 9) kc_2 (hs_x1) (Nat.le_of_ble_eq_true rfl) tw_589 d_X11_doSteps_13 rfl ?_
  refine aw_iload_n (i := 2) rfl d_X11_doSteps_16 2 rfl ?_
  refine aw_icmp_ge (tgt := 42) d_X11_doSteps_17 rfl (fun c5 => ?_) (fun c5 => ?_)
  · have k := k.1 c5
    refine aw_aload_n (i := 0) rfl d_X11_doSteps_42 0 rfl ?_
    refine aw_aload_n (i := 1) rfl d_X11_doSteps_43 1 rfl ?_
    refine aw_Vv 0 [.ref x1] [] d_X11_doSteps_44 (cV_X11_goHome (d + 3) 0 0) kc_11 (ws_0 w) tw_959 rfl (rr0 (Nat.le_of_ble_eq_true rfl) (Nat.le_of_ble_eq_true rfl)) (Nat.le_of_ble_eq_true rfl) xs0 k (fun h6 kk => ?_)
    obtain ⟨w7, k⟩ := kk
    exact aw_vret rfl d_X11_doSteps_47 ⟨Nat.le_refl _, Nat.le_refl _⟩ ⟨rfl, k⟩
  · have k := k.2 c5
    refine aw_aload_n (i := 0) rfl d_X11_doSteps_20 0 rfl ?_
    refine aw_aload_n (i := 1) rfl d_X11_doSteps_21 1 rfl ?_
    refine aw_Vi 0 [.ref x1] [] d_X11_doSteps_22 (cV_X11_takesTime (d + 4) 0 0) kc_11 (ws_0 w) tw_935 rfl (rr0 (Nat.le_of_ble_eq_true rfl) (Nat.le_of_ble_eq_true rfl)) (Nat.le_of_ble_eq_true rfl) xs0 k (fun r11 h9 kk => ?_)
    obtain ⟨w10, q12, k⟩ := kk
    refine aw_if_eq (tgt := 29) d_X11_doSteps_25 rfl (fun c13 => ?_) (fun c13 => ?_)
    · have k := k.1 c13
      refine aw_aload_n (i := 1) rfl d_X11_doSteps_29 1 rfl ?_
      refine aw_dup d_X11_doSteps_30 rfl ?_
      refine aw_geti (k0 := 9) kc_2 (q12) (Nat.le_of_ble_eq_true rfl) tw_589 d_X11_doSteps_31 rfl ?_
      refine aw_iconst (v := 1) d_X11_doSteps_34 ic_1 ?_
      refine aw_iadd d_X11_doSteps_35 ?_
      refine aw_puti (k0 := 9) kc_2 (q12) (Nat.le_of_ble_eq_true rfl) tw_589 d_X11_doSteps_36 rfl rfl nf_i ?_
      refine aw_goto (tgt := 12) d_X11_doSteps_39 rfl ?_
      exact k
    · have k := k.2 c13
      exact aw_vret rfl d_X11_doSteps_28 ⟨Nat.le_refl _, Nat.le_refl _⟩ ⟨rfl, k⟩
theorem t_X11_next (d : Nat) (h : Hp_) (w : Wf h) (x1 : Int32) (K : Int32 → Hp_ → Prop) (k : Ci (m_X1_has (d + 0) 0 0) [.ref 18, .int x1] h (fun r3 h1 => Wf h1 ∧ ((r3 = 0 → K (-1) h1) ∧ (¬ r3 = 0 → Ci (m_X1_bestParting (d + 4) 0 0) [.ref 18, .int x1, .int (h_i h1 0 0)] h1 (fun r7 h5 => Wf h5 ∧ (K r7 h5)))))) : Ci (m_X11_next (d + 5) 0 0) [.ref 0, .int x1] h K := by
  refine Ct.of (fun _ _ _ => trivial) rfl (Nat.le_of_ble_eq_true rfl) ?_
  show AW (m_X11_next (d + 5) 0 0) 0 0 0 [(0, .ref 0), (1, .int x1)] [] h (kI K)
  refine aw_aload_n (i := 0) rfl d_X11_next_0 0 rfl ?_
  refine aw_getr (k0 := 10) kc_11 (ws_0 w) (Nat.le_of_ble_eq_true rfl) tw_497 d_X11_next_1 rfl (wr_0_10 w) ?_
  refine aw_iload_n (i := 1) rfl d_X11_next_4 1 rfl ?_
  refine aw_Vi 18 [.int x1] [] d_X11_next_5 (cV_X1_has (d + 0) 0 0) kc_1 (ws_18 w) tw_1219 rfl (rr0 (Nat.le_of_ble_eq_true rfl) (Nat.le_of_ble_eq_true rfl)) (Nat.le_of_ble_eq_true rfl) xs0 k (fun r3 h1 kk => ?_)
  obtain ⟨w2, k⟩ := kk
  refine aw_if_eq (tgt := 26) d_X11_next_8 rfl (fun c4 => ?_) (fun c4 => ?_)
  · have k := k.1 c4
    refine aw_iconst (v := (-1)) d_X11_next_26 ic_m1 ?_
    exact aw_iret rfl d_X11_next_27 ⟨Nat.le_refl _, Nat.le_refl _⟩ ⟨_, rfl, k⟩
  · have k := k.2 c4
    refine aw_aload_n (i := 0) rfl d_X11_next_11 0 rfl ?_
    refine aw_getr (k0 := 10) kc_11 (ws_0 w2) (Nat.le_of_ble_eq_true rfl) tw_497 d_X11_next_12 rfl (wr_0_10 w2) ?_
    refine aw_iload_n (i := 1) rfl d_X11_next_15 1 rfl ?_
    refine aw_aload_n (i := 0) rfl d_X11_next_16 0 rfl ?_
    refine aw_geti (k0 := 0) kc_11 (ws_0 w2) (Nat.le_of_ble_eq_true rfl) tw_487 d_X11_next_17 rfl ?_
    refine aw_Vi 18 [.int x1, .int (h_i h1 0 0)] [] d_X11_next_20 (cV_X1_bestParting (d + 4) 0 0) kc_1 (ws_18 w2) tw_1309 rfl (rr0 (Nat.le_of_ble_eq_true rfl) (Nat.le_of_ble_eq_true rfl)) (Nat.le_of_ble_eq_true rfl) xs0 k (fun r7 h5 kk => ?_)
    obtain ⟨w6, k⟩ := kk
    refine aw_goto (tgt := 27) d_X11_next_23 rfl ?_
    exact aw_iret rfl d_X11_next_27 ⟨Nat.le_refl _, Nat.le_refl _⟩ ⟨_, rfl, k⟩
theorem t_X11_joining (d : Nat) (h : Hp_) (w : Wf h)  (K : Int32 → Hp_ → Prop) (k : Ci (m_X3_bestSum (d + 4) 0 0) [.ref 19] h (fun r3 h1 => Wf h1 ∧ (K r3 h1))) : Ci (m_X11_joining (d + 5) 0 0) [.ref 0] h K := by
  refine Ct.of (fun _ _ _ => trivial) rfl (Nat.le_of_ble_eq_true rfl) ?_
  show AW (m_X11_joining (d + 5) 0 0) 0 0 0 [(0, .ref 0)] [] h (kI K)
  refine aw_aload_n (i := 0) rfl d_X11_joining_0 0 rfl ?_
  refine aw_getr (k0 := 11) kc_11 (ws_0 w) (Nat.le_of_ble_eq_true rfl) tw_498 d_X11_joining_1 rfl (wr_0_11 w) ?_
  refine aw_Vi 19 [] [] d_X11_joining_4 (cV_X3_bestSum (d + 4) 0 0) kc_3 (ws_19 w) tw_1335 rfl (rr0 (Nat.le_of_ble_eq_true rfl) (Nat.le_of_ble_eq_true rfl)) (Nat.le_of_ble_eq_true rfl) xs0 k (fun r3 h1 kk => ?_)
  obtain ⟨w2, k⟩ := kk
  exact aw_iret rfl d_X11_joining_7 ⟨Nat.le_refl _, Nat.le_refl _⟩ ⟨_, rfl, k⟩
