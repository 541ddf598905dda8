theorem t_X12_watch (d : Nat) (h : Hp_) (w : Wf h) (x1 : Int32) (x2 : Int32) (x3 : Int32) (K : Int32 → Hp_ → Prop) (k : (¬ (0 ≤ x1 ∧ x1 ≤ 15) → K (-1) h) ∧ ((0 ≤ x1 ∧ x1 ≤ 15) → (¬ (0 ≤ x2 ∧ x2 ≤ 1440) → K (-1) h) ∧ ((0 ≤ x2 ∧ x2 ≤ 1440) → (¬ (x2 ≤ x3 ∧ x3 ≤ 1440) → K (-1) h) ∧ ((x2 ≤ x3 ∧ x3 ≤ 1440) → (¬ (h_i h 1 108) = 8 → vp_in (h_i h 1 108) 8 ∧ (vp_in (h_i h 1 108) 8 ∧ (vp_in (h_i h 1 108) 8 ∧ (K (((h_i h 1 108) + 1) - 1) (h_im (h_im (h_im (h_im h 281 ((h_i h 1 108) : Int32).toNatClampNeg x1) 282 ((h_i h 1 108) : Int32).toNatClampNeg x2) 283 ((h_i h 1 108) : Int32).toNatClampNeg x3) 1 108 ((h_i h 1 108) + 1)))))) ∧ ((h_i h 1 108) = 8 → K (-1) h))))) : Ci (m_X12_watch (d + 2) 0 0) [.ref 1, .int x1, .int x2, .int x3] h K := by
  refine Ct.of (fun _ _ _ => trivial) rfl (Nat.le_of_ble_eq_true rfl) ?_
  show AW (m_X12_watch (d + 2) 0 0) 0 0 0 [(0, .ref 1), (1, .int x1), (2, .int x2), (3, .int x3)] [] h (kI K)
  refine aw_iload_n (i := 1) rfl d_X12_watch_0 1 rfl ?_
  refine aw_Si [.int x1] [] d_X12_watch_1 (cS_X12_isPlace (d + 1) 0 0) tw_2144 rfl (rr0 (Nat.le_of_ble_eq_true rfl) (Nat.le_of_ble_eq_true rfl)) (Nat.le_of_ble_eq_true rfl) xs0 (s_X12_isPlace _ _ x1) (fun _ _ kk => ?_)
  obtain ⟨e1, e2⟩ := kk
  rw [e1, e2]
  refine aw_ifb_eq (tgt := 38) d_X12_watch_4 rfl (fun c3 => ?_) (fun c3 => ?_)
  · have k := k.1 c3
    refine aw_iconst (v := (-1)) d_X12_watch_38 ic_m1 ?_
    exact aw_iret rfl d_X12_watch_39 ⟨Nat.le_refl _, Nat.le_refl _⟩ ⟨_, rfl, k⟩
  · have k := k.2 c3
    refine aw_iload_n (i := 2) rfl d_X12_watch_7 2 rfl ?_
    refine aw_iconst (v := 0) d_X12_watch_8 ic_0 ?_
    refine aw_sipush (v := 1440) d_X12_watch_9 is_1440 ?_
    refine aw_Si [.int x2, .int 0, .int 1440] [] d_X12_watch_12 (cS_X12_in (d + 0) 0 0) tw_2147 rfl (rr0 (Nat.le_of_ble_eq_true rfl) (Nat.le_of_ble_eq_true rfl)) (Nat.le_of_ble_eq_true rfl) xs0 (s_X12_in _ _ x2 0 1440) (fun _ _ kk => ?_)
    obtain ⟨e4, e5⟩ := kk
    rw [e4, e5]
    refine aw_ifb_eq (tgt := 38) d_X12_watch_15 rfl (fun c6 => ?_) (fun c6 => ?_)
    · have k := k.1 c6
      refine aw_iconst (v := (-1)) d_X12_watch_38 ic_m1 ?_
      exact aw_iret rfl d_X12_watch_39 ⟨Nat.le_refl _, Nat.le_refl _⟩ ⟨_, rfl, k⟩
    · have k := k.2 c6
      refine aw_iload_n (i := 3) rfl d_X12_watch_18 3 rfl ?_
      refine aw_iload_n (i := 2) rfl d_X12_watch_19 2 rfl ?_
      refine aw_sipush (v := 1440) d_X12_watch_20 is_1440 ?_
      refine aw_Si [.int x3, .int x2, .int 1440] [] d_X12_watch_23 (cS_X12_in (d + 0) 0 0) tw_2147 rfl (rr0 (Nat.le_of_ble_eq_true rfl) (Nat.le_of_ble_eq_true rfl)) (Nat.le_of_ble_eq_true rfl) xs0 (s_X12_in _ _ x3 x2 1440) (fun _ _ kk => ?_)
      obtain ⟨e7, e8⟩ := kk
      rw [e7, e8]
      refine aw_ifb_eq (tgt := 38) d_X12_watch_26 rfl (fun c9 => ?_) (fun c9 => ?_)
      · have k := k.1 c9
        refine aw_iconst (v := (-1)) d_X12_watch_38 ic_m1 ?_
        exact aw_iret rfl d_X12_watch_39 ⟨Nat.le_refl _, Nat.le_refl _⟩ ⟨_, rfl, k⟩
      · have k := k.2 c9
        refine aw_aload_n (i := 0) rfl d_X12_watch_29 0 rfl ?_
        refine aw_geti (k0 := 108) kc_12 (ws_1 w) (Nat.le_of_ble_eq_true rfl) tw_1850 d_X12_watch_30 rfl ?_
        refine aw_bipush (v := 8) d_X12_watch_33 ib_8 ?_
        refine aw_icmp_ne (tgt := 40) d_X12_watch_35 rfl (fun c10 => ?_) (fun c10 => ?_)
        · have k := k.1 c10
          refine aw_aload_n (i := 0) rfl d_X12_watch_40 0 rfl ?_
          refine aw_getr (k0 := 105) kc_12 (ws_1 w) (Nat.le_of_ble_eq_true rfl) tw_1847 d_X12_watch_41 rfl (wr_1_105 w) ?_
          refine aw_aload_n (i := 0) rfl d_X12_watch_44 0 rfl ?_
          refine aw_geti (k0 := 108) kc_12 (ws_1 w) (Nat.le_of_ble_eq_true rfl) tw_1850 d_X12_watch_45 rfl ?_
          refine aw_iload_n (i := 1) rfl d_X12_watch_48 1 rfl ?_
          obtain ⟨b11, k⟩ := k
          refine aw_iast (ws_281 w) b11 d_X12_watch_49 ?_
          refine aw_aload_n (i := 0) rfl d_X12_watch_50 0 rfl ?_
          refine aw_getr (k0 := 106) kc_12 (ws_1 w) (Nat.le_of_ble_eq_true rfl) tw_1848 d_X12_watch_51 rfl (wr_1_106 w) ?_
          refine aw_aload_n (i := 0) rfl d_X12_watch_54 0 rfl ?_
          refine aw_geti (k0 := 108) kc_12 (ws_1 w) (Nat.le_of_ble_eq_true rfl) tw_1850 d_X12_watch_55 rfl ?_
          refine aw_vi (v2 := (h_i h 1 108)) (rfl) ?_
          refine aw_iload_n (i := 2) rfl d_X12_watch_58 2 rfl ?_
          obtain ⟨b12, k⟩ := k
          refine aw_iast (ws_282 w) b12 d_X12_watch_59 ?_
          refine aw_aload_n (i := 0) rfl d_X12_watch_60 0 rfl ?_
          refine aw_getr (k0 := 107) kc_12 (ws_1 w) (Nat.le_of_ble_eq_true rfl) tw_1849 d_X12_watch_61 rfl (wr_1_107 w) ?_
          refine aw_aload_n (i := 0) rfl d_X12_watch_64 0 rfl ?_
          refine aw_geti (k0 := 108) kc_12 (ws_1 w) (Nat.le_of_ble_eq_true rfl) tw_1850 d_X12_watch_65 rfl ?_
          refine aw_vi (v2 := (h_i h 1 108)) (rfl) ?_
          refine aw_iload_n (i := 3) rfl d_X12_watch_68 3 rfl ?_
          obtain ⟨b13, k⟩ := k
          refine aw_iast (ws_283 w) b13 d_X12_watch_69 ?_
          refine aw_aload_n (i := 0) rfl d_X12_watch_70 0 rfl ?_
          refine aw_dup d_X12_watch_71 rfl ?_
          refine aw_geti (k0 := 108) kc_12 (ws_1 w) (Nat.le_of_ble_eq_true rfl) tw_1850 d_X12_watch_72 rfl ?_
          refine aw_vi (v2 := (h_i h 1 108)) (rfl) ?_
          refine aw_iconst (v := 1) d_X12_watch_75 ic_1 ?_
          refine aw_iadd d_X12_watch_76 ?_
          refine aw_puti (k0 := 108) kc_12 (ws_1 w) (Nat.le_of_ble_eq_true rfl) tw_1850 d_X12_watch_77 rfl rfl nf_i ?_
          refine aw_aload_n (i := 0) rfl d_X12_watch_80 0 rfl ?_
          refine aw_geti (k0 := 108) kc_12 (ws_1 w) (Nat.le_of_ble_eq_true rfl) tw_1850 d_X12_watch_81 rfl ?_
          refine aw_vi (v2 := ((h_i h 1 108) + 1)) (rfl) ?_
          refine aw_iconst (v := 1) d_X12_watch_84 ic_1 ?_
          refine aw_isub d_X12_watch_85 ?_
          exact aw_iret rfl d_X12_watch_86 ⟨Nat.le_refl _, Nat.le_refl _⟩ ⟨_, rfl, k⟩
        · have k := k.2 c10
          refine aw_iconst (v := (-1)) d_X12_watch_38 ic_m1 ?_
          exact aw_iret rfl d_X12_watch_39 ⟨Nat.le_refl _, Nat.le_refl _⟩ ⟨_, rfl, k⟩
theorem t_X12_sees (d : Nat) (h : Hp_) (w : Wf h) (x1 : Int32) (x2 : Int32) (K : Int32 → Hp_ → Prop) (k : (¬ (0 ≤ x1 ∧ x1 ≤ ((h_i h 1 42) - 1)) → K (-1) h) ∧ ((0 ≤ x1 ∧ x1 ≤ ((h_i h 1 42) - 1)) → (¬ (0 ≤ x2 ∧ x2 ≤ ((h_i h 1 108) - 1)) → K (-1) h) ∧ ((0 ≤ x2 ∧ x2 ≤ ((h_i h 1 108) - 1)) → Ci (m_X12_doesSee (d + 1) 0 0) [.ref 1, .int x1, .int x2] h (fun r9 h7 => Wf h7 ∧ ((r9 = 0 → K 0 h7) ∧ (¬ r9 = 0 → K 1 h7)))))) : Ci (m_X12_sees (d + 2) 0 0) [.ref 1, .int x1, .int x2] h K := by
  refine Ct.of (fun _ _ _ => trivial) rfl (Nat.le_of_ble_eq_true rfl) ?_
  show AW (m_X12_sees (d + 2) 0 0) 0 0 0 [(0, .ref 1), (1, .int x1), (2, .int x2)] [] h (kI K)
  refine aw_iload_n (i := 1) rfl d_X12_sees_0 1 rfl ?_
  refine aw_iconst (v := 0) d_X12_sees_1 ic_0 ?_
  refine aw_aload_n (i := 0) rfl d_X12_sees_2 0 rfl ?_
  refine aw_geti (k0 := 42) kc_12 (ws_1 w) (Nat.le_of_ble_eq_true rfl) tw_1784 d_X12_sees_3 rfl ?_
  refine aw_iconst (v := 1) d_X12_sees_6 ic_1 ?_
  refine aw_isub d_X12_sees_7 ?_
  refine aw_Si [.int x1, .int 0, .int ((h_i h 1 42) - 1)] [] d_X12_sees_8 (cS_X12_in (d + 0) 0 0) tw_2147 rfl (rr0 (Nat.le_of_ble_eq_true rfl) (Nat.le_of_ble_eq_true rfl)) (Nat.le_of_ble_eq_true rfl) xs0 (s_X12_in _ _ x1 0 ((h_i h 1 42) - 1)) (fun _ _ kk => ?_)
  obtain ⟨e1, e2⟩ := kk
  rw [e1, e2]
  refine aw_ifb_eq (tgt := 45) d_X12_sees_11 rfl (fun c3 => ?_) (fun c3 => ?_)
  · have k := k.1 c3
    refine aw_iconst (v := (-1)) d_X12_sees_45 ic_m1 ?_
    exact aw_iret rfl d_X12_sees_46 ⟨Nat.le_refl _, Nat.le_refl _⟩ ⟨_, rfl, k⟩
  · have k := k.2 c3
    refine aw_iload_n (i := 2) rfl d_X12_sees_14 2 rfl ?_
    refine aw_iconst (v := 0) d_X12_sees_15 ic_0 ?_
    refine aw_aload_n (i := 0) rfl d_X12_sees_16 0 rfl ?_
    refine aw_geti (k0 := 108) kc_12 (ws_1 w) (Nat.le_of_ble_eq_true rfl) tw_1850 d_X12_sees_17 rfl ?_
    refine aw_iconst (v := 1) d_X12_sees_20 ic_1 ?_
    refine aw_isub d_X12_sees_21 ?_
    refine aw_Si [.int x2, .int 0, .int ((h_i h 1 108) - 1)] [] d_X12_sees_22 (cS_X12_in (d + 0) 0 0) tw_2147 rfl (rr0 (Nat.le_of_ble_eq_true rfl) (Nat.le_of_ble_eq_true rfl)) (Nat.le_of_ble_eq_true rfl) xs0 (s_X12_in _ _ x2 0 ((h_i h 1 108) - 1)) (fun _ _ kk => ?_)
    obtain ⟨e4, e5⟩ := kk
    rw [e4, e5]
    refine aw_ifb_eq (tgt := 45) d_X12_sees_25 rfl (fun c6 => ?_) (fun c6 => ?_)
    · have k := k.1 c6
      refine aw_iconst (v := (-1)) d_X12_sees_45 ic_m1 ?_
      exact aw_iret rfl d_X12_sees_46 ⟨Nat.le_refl _, Nat.le_refl _⟩ ⟨_, rfl, k⟩
    · have k := k.2 c6
      refine aw_aload_n (i := 0) rfl d_X12_sees_28 0 rfl ?_
      refine aw_iload_n (i := 1) rfl d_X12_sees_29 1 rfl ?_
      refine aw_iload_n (i := 2) rfl d_X12_sees_30 2 rfl ?_
      refine aw_Vi 1 [.int x1, .int x2] [] d_X12_sees_31 (cV_X12_doesSee (d + 1) 0 0) kc_12 (ws_1 w) tw_2607 rfl (rr0 (Nat.le_of_ble_eq_true rfl) (Nat.le_of_ble_eq_true rfl)) (Nat.le_of_ble_eq_true rfl) xs0 k (fun r9 h7 kk => ?_)
      obtain ⟨w8, k⟩ := kk
      refine aw_if_eq (tgt := 41) d_X12_sees_34 rfl (fun c10 => ?_) (fun c10 => ?_)
      · have k := k.1 c10
        refine aw_iconst (v := 0) d_X12_sees_41 ic_0 ?_
        refine aw_goto (tgt := 46) d_X12_sees_42 rfl ?_
        exact aw_iret rfl d_X12_sees_46 ⟨Nat.le_refl _, Nat.le_refl _⟩ ⟨_, rfl, k⟩
      · have k := k.2 c10
        refine aw_iconst (v := 1) d_X12_sees_37 ic_1 ?_
        refine aw_goto (tgt := 46) d_X12_sees_38 rfl ?_
        exact aw_iret rfl d_X12_sees_46 ⟨Nat.le_refl _, Nat.le_refl _⟩ ⟨_, rfl, k⟩
theorem t_X12_fair (d : Nat) (h : Hp_) (w : Wf h) (x1 : Int32) (x2 : Int32) (x3 : Int32) (K : Int32 → Hp_ → Prop) (k : (¬ (0 ≤ x1 ∧ x1 ≤ 15) → K (-1) h) ∧ ((0 ≤ x1 ∧ x1 ≤ 15) → (¬ (0 ≤ x2 ∧ x2 ≤ 30000) → K (-1) h) ∧ ((0 ≤ x2 ∧ x2 ≤ 30000) → (¬ (1 ≤ x3 ∧ x3 ≤ 3) → K (-1) h) ∧ ((1 ≤ x3 ∧ x3 ≤ 3) → (¬ (h_i h 1 119) = 4 → vp_in (h_i h 1 119) 4 ∧ (vp_in (h_i h 1 119) 4 ∧ (vp_in (h_i h 1 119) 4 ∧ (K (((h_i h 1 119) + 1) - 1) (h_im (h_im (h_im (h_im h 288 ((h_i h 1 119) : Int32).toNatClampNeg x1) 289 ((h_i h 1 119) : Int32).toNatClampNeg x2) 290 ((h_i h 1 119) : Int32).toNatClampNeg x3) 1 119 ((h_i h 1 119) + 1)))))) ∧ ((h_i h 1 119) = 4 → K (-1) h))))) : Ci (m_X12_fair (d + 2) 0 0) [.ref 1, .int x1, .int x2, .int x3] h K := by
  refine Ct.of (fun _ _ _ => trivial) rfl (Nat.le_of_ble_eq_true rfl) ?_
  show AW (m_X12_fair (d + 2) 0 0) 0 0 0 [(0, .ref 1), (1, .int x1), (2, .int x2), (3, .int x3)] [] h (kI K)
  refine aw_iload_n (i := 1) rfl d_X12_fair_0 1 rfl ?_
  refine aw_Si [.int x1] [] d_X12_fair_1 (cS_X12_isPlace (d + 1) 0 0) tw_2144 rfl (rr0 (Nat.le_of_ble_eq_true rfl) (Nat.le_of_ble_eq_true rfl)) (Nat.le_of_ble_eq_true rfl) xs0 (s_X12_isPlace _ _ x1) (fun _ _ kk => ?_)
  obtain ⟨e1, e2⟩ := kk
  rw [e1, e2]
  refine aw_ifb_eq (tgt := 35) d_X12_fair_4 rfl (fun c3 => ?_) (fun c3 => ?_)
  · have k := k.1 c3
    refine aw_iconst (v := (-1)) d_X12_fair_35 ic_m1 ?_
    exact aw_iret rfl d_X12_fair_36 ⟨Nat.le_refl _, Nat.le_refl _⟩ ⟨_, rfl, k⟩
  · have k := k.2 c3
    refine aw_iload_n (i := 2) rfl d_X12_fair_7 2 rfl ?_
    refine aw_iconst (v := 0) d_X12_fair_8 ic_0 ?_
    refine aw_sipush (v := 30000) d_X12_fair_9 is_30000 ?_
    refine aw_Si [.int x2, .int 0, .int 30000] [] d_X12_fair_12 (cS_X12_in (d + 0) 0 0) tw_2147 rfl (rr0 (Nat.le_of_ble_eq_true rfl) (Nat.le_of_ble_eq_true rfl)) (Nat.le_of_ble_eq_true rfl) xs0 (s_X12_in _ _ x2 0 30000) (fun _ _ kk => ?_)
    obtain ⟨e4, e5⟩ := kk
    rw [e4, e5]
    refine aw_ifb_eq (tgt := 35) d_X12_fair_15 rfl (fun c6 => ?_) (fun c6 => ?_)
    · have k := k.1 c6
      refine aw_iconst (v := (-1)) d_X12_fair_35 ic_m1 ?_
      exact aw_iret rfl d_X12_fair_36 ⟨Nat.le_refl _, Nat.le_refl _⟩ ⟨_, rfl, k⟩
    · have k := k.2 c6
      refine aw_iload_n (i := 3) rfl d_X12_fair_18 3 rfl ?_
      refine aw_iconst (v := 1) d_X12_fair_19 ic_1 ?_
      refine aw_iconst (v := 3) d_X12_fair_20 ic_3 ?_
      refine aw_Si [.int x3, .int 1, .int 3] [] d_X12_fair_21 (cS_X12_in (d + 0) 0 0) tw_2147 rfl (rr0 (Nat.le_of_ble_eq_true rfl) (Nat.le_of_ble_eq_true rfl)) (Nat.le_of_ble_eq_true rfl) xs0 (s_X12_in _ _ x3 1 3) (fun _ _ kk => ?_)
      obtain ⟨e7, e8⟩ := kk
      rw [e7, e8]
      refine aw_ifb_eq (tgt := 35) d_X12_fair_24 rfl (fun c9 => ?_) (fun c9 => ?_)
      · have k := k.1 c9
        refine aw_iconst (v := (-1)) d_X12_fair_35 ic_m1 ?_
        exact aw_iret rfl d_X12_fair_36 ⟨Nat.le_refl _, Nat.le_refl _⟩ ⟨_, rfl, k⟩
      · have k := k.2 c9
        refine aw_aload_n (i := 0) rfl d_X12_fair_27 0 rfl ?_
        refine aw_geti (k0 := 119) kc_12 (ws_1 w) (Nat.le_of_ble_eq_true rfl) tw_1861 d_X12_fair_28 rfl ?_
        refine aw_iconst (v := 4) d_X12_fair_31 ic_4 ?_
        refine aw_icmp_ne (tgt := 37) d_X12_fair_32 rfl (fun c10 => ?_) (fun c10 => ?_)
        · have k := k.1 c10
          refine aw_aload_n (i := 0) rfl d_X12_fair_37 0 rfl ?_
          refine aw_getr (k0 := 116) kc_12 (ws_1 w) (Nat.le_of_ble_eq_true rfl) tw_1858 d_X12_fair_38 rfl (wr_1_116 w) ?_
          refine aw_aload_n (i := 0) rfl d_X12_fair_41 0 rfl ?_
          refine aw_geti (k0 := 119) kc_12 (ws_1 w) (Nat.le_of_ble_eq_true rfl) tw_1861 d_X12_fair_42 rfl ?_
          refine aw_iload_n (i := 1) rfl d_X12_fair_45 1 rfl ?_
          obtain ⟨b11, k⟩ := k
          refine aw_iast (ws_288 w) b11 d_X12_fair_46 ?_
          refine aw_aload_n (i := 0) rfl d_X12_fair_47 0 rfl ?_
          refine aw_getr (k0 := 117) kc_12 (ws_1 w) (Nat.le_of_ble_eq_true rfl) tw_1859 d_X12_fair_48 rfl (wr_1_117 w) ?_
          refine aw_aload_n (i := 0) rfl d_X12_fair_51 0 rfl ?_
          refine aw_geti (k0 := 119) kc_12 (ws_1 w) (Nat.le_of_ble_eq_true rfl) tw_1861 d_X12_fair_52 rfl ?_
          refine aw_vi (v2 := (h_i h 1 119)) (rfl) ?_
          refine aw_iload_n (i := 2) rfl d_X12_fair_55 2 rfl ?_
          obtain ⟨b12, k⟩ := k
          refine aw_iast (ws_289 w) b12 d_X12_fair_56 ?_
          refine aw_aload_n (i := 0) rfl d_X12_fair_57 0 rfl ?_
          refine aw_getr (k0 := 118) kc_12 (ws_1 w) (Nat.le_of_ble_eq_true rfl) tw_1860 d_X12_fair_58 rfl (wr_1_118 w) ?_
          refine aw_aload_n (i := 0) rfl d_X12_fair_61 0 rfl ?_
          refine aw_geti (k0 := 119) kc_12 (ws_1 w) (Nat.le_of_ble_eq_true rfl) tw_1861 d_X12_fair_62 rfl ?_
          refine aw_vi (v2 := (h_i h 1 119)) (rfl) ?_
          refine aw_iload_n (i := 3) rfl d_X12_fair_65 3 rfl ?_
          obtain ⟨b13, k⟩ := k
          refine aw_iast (ws_290 w) b13 d_X12_fair_66 ?_
          refine aw_aload_n (i := 0) rfl d_X12_fair_67 0 rfl ?_
          refine aw_dup d_X12_fair_68 rfl ?_
          refine aw_geti (k0 := 119) kc_12 (ws_1 w) (Nat.le_of_ble_eq_true rfl) tw_1861 d_X12_fair_69 rfl ?_
          refine aw_vi (v2 := (h_i h 1 119)) (rfl) ?_
          refine aw_iconst (v := 1) d_X12_fair_72 ic_1 ?_
          refine aw_iadd d_X12_fair_73 ?_
          refine aw_puti (k0 := 119) kc_12 (ws_1 w) (Nat.le_of_ble_eq_true rfl) tw_1861 d_X12_fair_74 rfl rfl nf_i ?_
          refine aw_aload_n (i := 0) rfl d_X12_fair_77 0 rfl ?_
          refine aw_geti (k0 := 119) kc_12 (ws_1 w) (Nat.le_of_ble_eq_true rfl) tw_1861 d_X12_fair_78 rfl ?_
          refine aw_vi (v2 := ((h_i h 1 119) + 1)) (rfl) ?_
          refine aw_iconst (v := 1) d_X12_fair_81 ic_1 ?_
          refine aw_isub d_X12_fair_82 ?_
          exact aw_iret rfl d_X12_fair_83 ⟨Nat.le_refl _, Nat.le_refl _⟩ ⟨_, rfl, k⟩
        · have k := k.2 c10
          refine aw_iconst (v := (-1)) d_X12_fair_35 ic_m1 ?_
          exact aw_iret rfl d_X12_fair_36 ⟨Nat.le_refl _, Nat.le_refl _⟩ ⟨_, rfl, k⟩
theorem t_X12_findLending (d : Nat) (h : Hp_)  (K : Int32 → Hp_ → Prop) (k : AW (m_X12_findLending (d + 2) 0 0) 0 0 2 [(0, .ref 1), (1, .int 0)] [] h (kI K)) : Ci (m_X12_findLending (d + 2) 0 0) [.ref 1] h K := by
  refine Ct.of (fun _ _ _ => trivial) rfl (Nat.le_of_ble_eq_true rfl) ?_
  show AW (m_X12_findLending (d + 2) 0 0) 0 0 0 [(0, .ref 1)] [] h (kI K)
  refine aw_iconst (v := 0) d_X12_findLending_0 ic_0 ?_
  refine aw_istore_n (i := 1) rfl [(0, .ref 1), (1, .int 0)] d_X12_findLending_1 (Nat.le_of_ble_eq_true rfl) rfl rfl ?_
  exact k
theorem t_X12_findLending_2 (d : Nat) (h : Hp_) (w : Wf h) (x1 : Int32) (K : Int32 → Hp_ → Prop) (k : ((h_i h 1 7) ≤ x1 → AW (m_X12_findLending (d + 2) 0 0) 0 0 50 [(0, .ref 1), (1, .int 0)] [] h (kI K)) ∧ (¬ (h_i h 1 7) ≤ x1 → AW (m_X12_findLending (d + 2) 0 0) 0 0 12 [(0, .ref 1), (1, .int x1), (2, .int 0)] [] h (kI K))) : AW (m_X12_findLending (d + 2) 0 0) 0 0 2 [(0, .ref 1), (1, .int x1)] [] h (kI K) := by
  refine aw_iload_n (i := 1) rfl d_X12_findLending_2 1 rfl ?_
  refine aw_aload_n (i := 0) rfl d_X12_findLending_3 0 rfl ?_
  refine aw_geti (k0 := 7) kc_12 (ws_1 w) (Nat.le_of_ble_eq_true rfl) tw_1749 d_X12_findLending_4 rfl ?_
  refine aw_icmp_ge (tgt := 48) d_X12_findLending_7 rfl (fun c1 => ?_) (fun c1 => ?_)
  · have k := k.1 c1
    refine aw_iconst (v := 0) d_X12_findLending_48 ic_0 ?_
    refine aw_istore_n (i := 1) rfl [(0, .ref 1), (1, .int 0)] d_X12_findLending_49 (Nat.le_of_ble_eq_true rfl) rfl rfl ?_
    exact k
  · have k := k.2 c1
    refine aw_iconst (v := 0) d_X12_findLending_10 ic_0 ?_
    refine aw_istore_n (i := 2) rfl [(0, .ref 1), (1, .int x1), (2, .int 0)] d_X12_findLending_11 (Nat.le_of_ble_eq_true rfl) rfl rfl ?_
    exact k
theorem t_X12_findLending_50 (d : Nat) (h : Hp_) (w : Wf h) (x1 : Int32) (K : Int32 → Hp_ → Prop) (k : (256 ≤ x1 → AW (m_X12_findLending (d + 2) 0 0) 0 0 96 [(0, .ref 1), (1, .int ((h_i h 1 7) - 1))] [] h (kI K)) ∧ (¬ 256 ≤ x1 → (¬ x1 = 0 → vp_in ((256 * (h_i h 1 7)) + x1) 3328 ∧ (AW (m_X12_findLending (d + 2) 0 0) 0 0 50 [(0, .ref 1), (1, .int (x1 + 1))] [] (h_im h 291 (((256 * (h_i h 1 7)) + x1) : Int32).toNatClampNeg 1000000000) (kI K))) ∧ (x1 = 0 → vp_in ((256 * (h_i h 1 7)) + x1) 3328 ∧ (AW (m_X12_findLending (d + 2) 0 0) 0 0 50 [(0, .ref 1), (1, .int (x1 + 1))] [] (h_im h 291 (((256 * (h_i h 1 7)) + x1) : Int32).toNatClampNeg 0) (kI K))))) : AW (m_X12_findLending (d + 2) 0 0) 0 0 50 [(0, .ref 1), (1, .int x1)] [] h (kI K) := by
  refine aw_iload_n (i := 1) rfl d_X12_findLending_50 1 rfl ?_
  refine aw_sipush (v := 256) d_X12_findLending_51 is_256 ?_
  refine aw_icmp_ge (tgt := 89) d_X12_findLending_54 rfl (fun c2 => ?_) (fun c2 => ?_)
  · have k := k.1 c2
    refine aw_aload_n (i := 0) rfl d_X12_findLending_89 0 rfl ?_
    refine aw_geti (k0 := 7) kc_12 (ws_1 w) (Nat.le_of_ble_eq_true rfl) tw_1749 d_X12_findLending_90 rfl ?_
    refine aw_iconst (v := 1) d_X12_findLending_93 ic_1 ?_
    refine aw_isub d_X12_findLending_94 ?_
    refine aw_istore_n (i := 1) rfl [(0, .ref 1), (1, .int ((h_i h 1 7) - 1))] d_X12_findLending_95 (Nat.le_of_ble_eq_true rfl) rfl rfl ?_
    exact k
  · have k := k.2 c2
    refine aw_aload_n (i := 0) rfl d_X12_findLending_57 0 rfl ?_
    refine aw_getr (k0 := 120) kc_12 (ws_1 w) (Nat.le_of_ble_eq_true rfl) tw_1862 d_X12_findLending_58 rfl (wr_1_120 w) ?_
    refine aw_sipush (v := 256) d_X12_findLending_61 is_256 ?_
    refine aw_aload_n (i := 0) rfl d_X12_findLending_64 0 rfl ?_
    refine aw_geti (k0 := 7) kc_12 (ws_1 w) (Nat.le_of_ble_eq_true rfl) tw_1749 d_X12_findLending_65 rfl ?_
    refine aw_imul d_X12_findLending_68 ?_
    refine aw_iload_n (i := 1) rfl d_X12_findLending_69 1 rfl ?_
    refine aw_iadd d_X12_findLending_70 ?_
    refine aw_iload_n (i := 1) rfl d_X12_findLending_71 1 rfl ?_
    refine aw_if_ne (tgt := 79) d_X12_findLending_72 rfl (fun c3 => ?_) (fun c3 => ?_)
    · have k := k.1 c3
      refine aw_ldcw (v := 1000000000) d_X12_findLending_79 tw_2651 ?_
      obtain ⟨b4, k⟩ := k
      refine aw_iast (ws_291 w) b4 d_X12_findLending_82 ?_
      refine aw_iinc (v := (x1 + 1)) [(0, .ref 1), (1, .int (x1 + 1))] d_X12_findLending_83 1 rfl rfl (Nat.le_of_ble_eq_true rfl) rfl rfl ?_
      refine aw_goto (tgt := 50) d_X12_findLending_86 rfl ?_
      exact k
    · have k := k.2 c3
      refine aw_iconst (v := 0) d_X12_findLending_75 ic_0 ?_
      refine aw_goto (tgt := 82) d_X12_findLending_76 rfl ?_
      obtain ⟨b5, k⟩ := k
      refine aw_iast (ws_291 w) b5 d_X12_findLending_82 ?_
      refine aw_iinc (v := (x1 + 1)) [(0, .ref 1), (1, .int (x1 + 1))] d_X12_findLending_83 1 rfl rfl (Nat.le_of_ble_eq_true rfl) rfl rfl ?_
      refine aw_goto (tgt := 50) d_X12_findLending_86 rfl ?_
      exact k
theorem t_X12_findLending_12 (d : Nat) (h : Hp_) (w : Wf h) (x1 : Int32) (x2 : Int32) (K : Int32 → Hp_ → Prop) (k : ((h_i h 1 119) ≤ x2 → AW (m_X12_findLending (d + 2) 0 0) 0 0 2 [(0, .ref 1), (1, .int (x1 + 1))] [] h (kI K)) ∧ (¬ (h_i h 1 119) ≤ x2 → Ci (m_X12_costOf (d + 1) 0 0) [.ref 1, .int x1, .int x2] h (fun r9 h7 => Wf h7 ∧ (vp_in ((4 * x1) + x2) 48 ∧ (AW (m_X12_findLending (d + 2) 0 0) 0 0 12 [(0, .ref 1), (1, .int x1), (2, .int (x2 + 1))] [] (h_im h7 292 (((4 * x1) + x2) : Int32).toNatClampNeg r9) (kI K)))))) : AW (m_X12_findLending (d + 2) 0 0) 0 0 12 [(0, .ref 1), (1, .int x1), (2, .int x2)] [] h (kI K) := by
  refine aw_iload_n (i := 2) rfl d_X12_findLending_12 2 rfl ?_
  refine aw_aload_n (i := 0) rfl d_X12_findLending_13 0 rfl ?_
  refine aw_geti (k0 := 119) kc_12 (ws_1 w) (Nat.le_of_ble_eq_true rfl) tw_1861 d_X12_findLending_14 rfl ?_
  refine aw_icmp_ge (tgt := 42) d_X12_findLending_17 rfl (fun c6 => ?_) (fun c6 => ?_)
  · have k := k.1 c6
    refine aw_iinc (v := (x1 + 1)) [(0, .ref 1), (1, .int (x1 + 1)), (2, .int x2)] d_X12_findLending_42 1 rfl rfl (Nat.le_of_ble_eq_true rfl) rfl rfl ?_
    refine aw_goto (tgt := 2) d_X12_findLending_45 rfl ?_
    exact aw_lvp [0, 1] [(0, .ref 1), (1, .int (x1 + 1))] rfl k
  · have k := k.2 c6
    refine aw_aload_n (i := 0) rfl d_X12_findLending_20 0 rfl ?_
    refine aw_getr (k0 := 121) kc_12 (ws_1 w) (Nat.le_of_ble_eq_true rfl) tw_1863 d_X12_findLending_21 rfl (wr_1_121 w) ?_
    refine aw_iconst (v := 4) d_X12_findLending_24 ic_4 ?_
    refine aw_iload_n (i := 1) rfl d_X12_findLending_25 1 rfl ?_
    refine aw_imul d_X12_findLending_26 ?_
    refine aw_iload_n (i := 2) rfl d_X12_findLending_27 2 rfl ?_
    refine aw_iadd d_X12_findLending_28 ?_
    refine aw_aload_n (i := 0) rfl d_X12_findLending_29 0 rfl ?_
    refine aw_iload_n (i := 1) rfl d_X12_findLending_30 1 rfl ?_
    refine aw_iload_n (i := 2) rfl d_X12_findLending_31 2 rfl ?_
    refine aw_Vi 1 [.int x1, .int x2] [.int ((4 * x1) + x2), .ref 292] d_X12_findLending_32 (cV_X12_costOf (d + 1) 0 0) kc_12 (ws_1 w) tw_2647 rfl (rr0 (Nat.le_of_ble_eq_true rfl) (Nat.le_of_ble_eq_true rfl)) (Nat.le_of_ble_eq_true rfl) xs0 k (fun r9 h7 kk => ?_)
    obtain ⟨w8, k⟩ := kk
    obtain ⟨b10, k⟩ := k
    refine aw_iast (ws_292 w8) b10 d_X12_findLending_35 ?_
    refine aw_iinc (v := (x2 + 1)) [(0, .ref 1), (1, .int x1), (2, .int (x2 + 1))] d_X12_findLending_36 2 rfl rfl (Nat.le_of_ble_eq_true rfl) rfl rfl ?_
    refine aw_goto (tgt := 12) d_X12_findLending_39 rfl ?_
    exact k
theorem t_X12_findLending_96 (d : Nat) (h : Hp_) (w : Wf h) (x1 : Int32) (K : Int32 → Hp_ → Prop) (k : (x1 < 0 → Ci (m_X12_codeAll (d + 0) 0 0) [.ref 1] h (fun r14 h12 => Wf h12 ∧ (vp_in r14 3328 ∧ (K (h_i h12 291 r14.toNatClampNeg) h12)))) ∧ (¬ x1 < 0 → AW (m_X12_findLending (d + 2) 0 0) 0 0 102 [(0, .ref 1), (1, .int x1), (2, .int 0)] [] h (kI K))) : AW (m_X12_findLending (d + 2) 0 0) 0 0 96 [(0, .ref 1), (1, .int x1)] [] h (kI K) := by
  refine aw_iload_n (i := 1) rfl d_X12_findLending_96 1 rfl ?_
  refine aw_if_lt (tgt := 249) d_X12_findLending_97 rfl (fun c11 => ?_) (fun c11 => ?_)
  · have k := k.1 c11
    refine aw_aload_n (i := 0) rfl d_X12_findLending_249 0 rfl ?_
    refine aw_getr (k0 := 120) kc_12 (ws_1 w) (Nat.le_of_ble_eq_true rfl) tw_1862 d_X12_findLending_250 rfl (wr_1_120 w) ?_
    refine aw_aload_n (i := 0) rfl d_X12_findLending_253 0 rfl ?_
    refine aw_Vi 1 [] [.ref 291] d_X12_findLending_254 (cV_X12_codeAll (d + 0) 0 0) kc_12 (ws_1 w) tw_2656 rfl (rr0 (Nat.le_of_ble_eq_true rfl) (Nat.le_of_ble_eq_true rfl)) (Nat.le_of_ble_eq_true rfl) xs0 k (fun r14 h12 kk => ?_)
    obtain ⟨w13, k⟩ := kk
    obtain ⟨b15, k⟩ := k
    refine aw_iald (ws_291 w13) b15 d_X12_findLending_257 ?_
    exact aw_iret rfl d_X12_findLending_258 ⟨Nat.le_refl _, Nat.le_refl _⟩ ⟨_, rfl, k⟩
  · have k := k.2 c11
    refine aw_iconst (v := 0) d_X12_findLending_100 ic_0 ?_
    refine aw_istore_n (i := 2) rfl [(0, .ref 1), (1, .int x1), (2, .int 0)] d_X12_findLending_101 (Nat.le_of_ble_eq_true rfl) rfl rfl ?_
    exact k
theorem t_X12_findLending_102 (d : Nat) (h : Hp_) (w : Wf h) (x1 : Int32) (x2 : Int32) (K : Int32 → Hp_ → Prop) (k : (256 ≤ x2 → AW (m_X12_findLending (d + 2) 0 0) 0 0 96 [(0, .ref 1), (1, .int (x1 + (-1)))] [] h (kI K)) ∧ (¬ 256 ≤ x2 → vp_in ((256 * (x1 + 1)) + x2) 3328 ∧ (AW (m_X12_findLending (d + 2) 0 0) 0 0 127 [(0, .ref 1), (1, .int x1), (2, .int x2), (3, .int (h_i h 291 (((256 * (x1 + 1)) + x2) : Int32).toNatClampNeg)), (4, .int 0)] [] h (kI K)))) : AW (m_X12_findLending (d + 2) 0 0) 0 0 102 [(0, .ref 1), (1, .int x1), (2, .int x2)] [] h (kI K) := by
  refine aw_iload_n (i := 2) rfl d_X12_findLending_102 2 rfl ?_
  refine aw_sipush (v := 256) d_X12_findLending_103 is_256 ?_
  refine aw_icmp_ge (tgt := 243) d_X12_findLending_106 rfl (fun c16 => ?_) (fun c16 => ?_)
  · have k := k.1 c16
    refine aw_iinc (v := (x1 + (-1))) [(0, .ref 1), (1, .int (x1 + (-1))), (2, .int x2)] d_X12_findLending_243 1 rfl rfl (Nat.le_of_ble_eq_true rfl) rfl rfl ?_
    refine aw_goto (tgt := 96) d_X12_findLending_246 rfl ?_
    exact aw_lvp [0, 1] [(0, .ref 1), (1, .int (x1 + (-1)))] rfl k
  · have k := k.2 c16
    refine aw_aload_n (i := 0) rfl d_X12_findLending_109 0 rfl ?_
    refine aw_getr (k0 := 120) kc_12 (ws_1 w) (Nat.le_of_ble_eq_true rfl) tw_1862 d_X12_findLending_110 rfl (wr_1_120 w) ?_
    refine aw_sipush (v := 256) d_X12_findLending_113 is_256 ?_
    refine aw_iload_n (i := 1) rfl d_X12_findLending_116 1 rfl ?_
    refine aw_iconst (v := 1) d_X12_findLending_117 ic_1 ?_
    refine aw_iadd d_X12_findLending_118 ?_
    refine aw_imul d_X12_findLending_119 ?_
    refine aw_iload_n (i := 2) rfl d_X12_findLending_120 2 rfl ?_
    refine aw_iadd d_X12_findLending_121 ?_
    obtain ⟨b17, k⟩ := k
    refine aw_iald (ws_291 w) b17 d_X12_findLending_122 ?_
    refine aw_istore_n (i := 3) rfl [(0, .ref 1), (1, .int x1), (2, .int x2), (3, .int (h_i h 291 (((256 * (x1 + 1)) + x2) : Int32).toNatClampNeg))] d_X12_findLending_123 (Nat.le_of_ble_eq_true rfl) rfl rfl ?_
    refine aw_iconst (v := 0) d_X12_findLending_124 ic_0 ?_
    refine aw_istore [(0, .ref 1), (1, .int x1), (2, .int x2), (3, .int (h_i h 291 (((256 * (x1 + 1)) + x2) : Int32).toNatClampNeg)), (4, .int 0)] d_X12_findLending_125 (Nat.le_of_ble_eq_true rfl) rfl rfl ?_
    exact k
theorem t_X12_findLending_127 (d : Nat) (h : Hp_) (w : Wf h) (x1 : Int32) (x2 : Int32) (x3 : Int32) (x4 : Int32) (K : Int32 → Hp_ → Prop) (k : ((h_i h 1 119) ≤ x4 → vp_in ((256 * x1) + x2) 3328 ∧ (AW (m_X12_findLending (d + 2) 0 0) 0 0 102 [(0, .ref 1), (1, .int x1), (2, .int (x2 + 1))] [] (h_im h 291 (((256 * x1) + x2) : Int32).toNatClampNeg x3) (kI K))) ∧ (¬ (h_i h 1 119) ≤ x4 → Ci (m_X12_wanted (d + 0) 0 0) [.int x2, .int x4] h (fun r22 h20 => Wf h20 ∧ ((r22 ≤ 0 → AW (m_X12_findLending (d + 2) 0 0) 0 0 127 [(0, .ref 1), (1, .int x1), (2, .int x2), (3, .int x3), (4, .int (x4 + 1))] [] h20 (kI K)) ∧ (¬ r22 ≤ 0 → vp_in ((4 * x1) + x4) 48 ∧ ((1000000000 ≤ (h_i h20 292 (((4 * x1) + x4) : Int32).toNatClampNeg) → AW (m_X12_findLending (d + 2) 0 0) 0 0 127 [(0, .ref 1), (1, .int x1), (2, .int x2), (3, .int x3), (4, .int (x4 + 1))] [] h20 (kI K)) ∧ (¬ 1000000000 ≤ (h_i h20 292 (((4 * x1) + x4) : Int32).toNatClampNeg) → vp_in (((256 * (x1 + 1)) + x2) - ((1 : Int32) <<< ((2 * x4) &&& 31))) 3328 ∧ ((¬ (h_i h20 291 ((((256 * (x1 + 1)) + x2) - ((1 : Int32) <<< ((2 * x4) &&& 31))) : Int32).toNatClampNeg) = 1000000000 → vp_in ((4 * x1) + x4) 48 ∧ (Ci (m_J9_min_7cf53 (d + 0) 0 0) [.int x3, .int ((h_i h20 292 (((4 * x1) + x4) : Int32).toNatClampNeg) + (h_i h20 291 ((((256 * (x1 + 1)) + x2) - ((1 : Int32) <<< ((2 * x4) &&& 31))) : Int32).toNatClampNeg))] h20 (fun r31 h29 => Wf h29 ∧ (AW (m_X12_findLending (d + 2) 0 0) 0 0 127 [(0, .ref 1), (1, .int x1), (2, .int x2), (3, .int r31), (4, .int (x4 + 1))] [] h29 (kI K))))) ∧ ((h_i h20 291 ((((256 * (x1 + 1)) + x2) - ((1 : Int32) <<< ((2 * x4) &&& 31))) : Int32).toNatClampNeg) = 1000000000 → Ci (m_J9_min_7cf53 (d + 0) 0 0) [.int x3, .int 1000000000] h20 (fun r34 h32 => Wf h32 ∧ (AW (m_X12_findLending (d + 2) 0 0) 0 0 127 [(0, .ref 1), (1, .int x1), (2, .int x2), (3, .int r34), (4, .int (x4 + 1))] [] h32 (kI K)))))))))))) : AW (m_X12_findLending (d + 2) 0 0) 0 0 127 [(0, .ref 1), (1, .int x1), (2, .int x2), (3, .int x3), (4, .int x4)] [] h (kI K) := by
  refine aw_iload d_X12_findLending_127 4 rfl ?_
  refine aw_aload_n (i := 0) rfl d_X12_findLending_129 0 rfl ?_
  refine aw_geti (k0 := 119) kc_12 (ws_1 w) (Nat.le_of_ble_eq_true rfl) tw_1861 d_X12_findLending_130 rfl ?_
  refine aw_icmp_ge (tgt := 224) d_X12_findLending_133 rfl (fun c18 => ?_) (fun c18 => ?_)
  · have k := k.1 c18
    refine aw_aload_n (i := 0) rfl d_X12_findLending_224 0 rfl ?_
    refine aw_getr (k0 := 120) kc_12 (ws_1 w) (Nat.le_of_ble_eq_true rfl) tw_1862 d_X12_findLending_225 rfl (wr_1_120 w) ?_
    refine aw_sipush (v := 256) d_X12_findLending_228 is_256 ?_
    refine aw_iload_n (i := 1) rfl d_X12_findLending_231 1 rfl ?_
    refine aw_imul d_X12_findLending_232 ?_
    refine aw_iload_n (i := 2) rfl d_X12_findLending_233 2 rfl ?_
    refine aw_iadd d_X12_findLending_234 ?_
    refine aw_iload_n (i := 3) rfl d_X12_findLending_235 3 rfl ?_
    obtain ⟨b19, k⟩ := k
    refine aw_iast (ws_291 w) b19 d_X12_findLending_236 ?_
    refine aw_iinc (v := (x2 + 1)) [(0, .ref 1), (1, .int x1), (2, .int (x2 + 1)), (3, .int x3), (4, .int x4)] d_X12_findLending_237 2 rfl rfl (Nat.le_of_ble_eq_true rfl) rfl rfl ?_
    refine aw_goto (tgt := 102) d_X12_findLending_240 rfl ?_
    exact aw_lvp [0, 1, 2] [(0, .ref 1), (1, .int x1), (2, .int (x2 + 1))] rfl k
  · have k := k.2 c18
    refine aw_iload_n (i := 2) rfl d_X12_findLending_136 2 rfl ?_
    refine aw_iload d_X12_findLending_137 4 rfl ?_
    refine aw_Si [.int x2, .int x4] [] d_X12_findLending_139 (cS_X12_wanted (d + 0) 0 0) tw_2653 rfl (rr0 (Nat.le_of_ble_eq_true rfl) (Nat.le_of_ble_eq_true rfl)) (Nat.le_of_ble_eq_true rfl) xs0 k (fun r22 h20 kk => ?_)
    obtain ⟨w21, k⟩ := kk
    refine aw_if_le (tgt := 218) d_X12_findLending_142 rfl (fun c23 => ?_) (fun c23 => ?_)
    · have k := k.1 c23
      refine aw_iinc (v := (x4 + 1)) [(0, .ref 1), (1, .int x1), (2, .int x2), (3, .int x3), (4, .int (x4 + 1))] d_X12_findLending_218 4 rfl rfl (Nat.le_of_ble_eq_true rfl) rfl rfl ?_
      refine aw_goto (tgt := 127) d_X12_findLending_221 rfl ?_
      exact k
    · have k := k.2 c23
      refine aw_aload_n (i := 0) rfl d_X12_findLending_145 0 rfl ?_
      refine aw_getr (k0 := 121) kc_12 (ws_1 w21) (Nat.le_of_ble_eq_true rfl) tw_1863 d_X12_findLending_146 rfl (wr_1_121 w21) ?_
      refine aw_iconst (v := 4) d_X12_findLending_149 ic_4 ?_
      refine aw_iload_n (i := 1) rfl d_X12_findLending_150 1 rfl ?_
      refine aw_imul d_X12_findLending_151 ?_
      refine aw_iload d_X12_findLending_152 4 rfl ?_
      refine aw_iadd d_X12_findLending_154 ?_
      obtain ⟨b24, k⟩ := k
      refine aw_iald (ws_292 w21) b24 d_X12_findLending_155 ?_
      refine aw_ldcw (v := 1000000000) d_X12_findLending_156 tw_2651 ?_
      refine aw_icmp_ge (tgt := 218) d_X12_findLending_159 rfl (fun c25 => ?_) (fun c25 => ?_)
      · have k := k.1 c25
        refine aw_iinc (v := (x4 + 1)) [(0, .ref 1), (1, .int x1), (2, .int x2), (3, .int x3), (4, .int (x4 + 1))] d_X12_findLending_218 4 rfl rfl (Nat.le_of_ble_eq_true rfl) rfl rfl ?_
        refine aw_goto (tgt := 127) d_X12_findLending_221 rfl ?_
        exact k
      · have k := k.2 c25
        refine aw_aload_n (i := 0) rfl d_X12_findLending_162 0 rfl ?_
        refine aw_getr (k0 := 120) kc_12 (ws_1 w21) (Nat.le_of_ble_eq_true rfl) tw_1862 d_X12_findLending_163 rfl (wr_1_120 w21) ?_
        refine aw_sipush (v := 256) d_X12_findLending_166 is_256 ?_
        refine aw_iload_n (i := 1) rfl d_X12_findLending_169 1 rfl ?_
        refine aw_iconst (v := 1) d_X12_findLending_170 ic_1 ?_
        refine aw_iadd d_X12_findLending_171 ?_
        refine aw_imul d_X12_findLending_172 ?_
        refine aw_iload_n (i := 2) rfl d_X12_findLending_173 2 rfl ?_
        refine aw_iadd d_X12_findLending_174 ?_
        refine aw_iconst (v := 1) d_X12_findLending_175 ic_1 ?_
        refine aw_iconst (v := 2) d_X12_findLending_176 ic_2 ?_
        refine aw_iload d_X12_findLending_177 4 rfl ?_
        refine aw_imul d_X12_findLending_179 ?_
        refine aw_ishl d_X12_findLending_180 ?_
        refine aw_isub d_X12_findLending_181 ?_
        obtain ⟨b26, k⟩ := k
        refine aw_iald (ws_291 w21) b26 d_X12_findLending_182 ?_
        refine aw_istore [(0, .ref 1), (1, .int x1), (2, .int x2), (3, .int x3), (4, .int x4), (5, .int (h_i h20 291 ((((256 * (x1 + 1)) + x2) - ((1 : Int32) <<< ((2 * x4) &&& 31))) : Int32).toNatClampNeg))] d_X12_findLending_183 (Nat.le_of_ble_eq_true rfl) rfl rfl ?_
        refine aw_iload_n (i := 3) rfl d_X12_findLending_185 3 rfl ?_
        refine aw_iload d_X12_findLending_186 5 rfl ?_
        refine aw_ldcw (v := 1000000000) d_X12_findLending_188 tw_2651 ?_
        refine aw_icmp_ne (tgt := 200) d_X12_findLending_191 rfl (fun c27 => ?_) (fun c27 => ?_)
        · have k := k.1 c27
          refine aw_aload_n (i := 0) rfl d_X12_findLending_200 0 rfl ?_
          refine aw_getr (k0 := 121) kc_12 (ws_1 w21) (Nat.le_of_ble_eq_true rfl) tw_1863 d_X12_findLending_201 rfl (wr_1_121 w21) ?_
          refine aw_iconst (v := 4) d_X12_findLending_204 ic_4 ?_
          refine aw_iload_n (i := 1) rfl d_X12_findLending_205 1 rfl ?_
          refine aw_imul d_X12_findLending_206 ?_
          refine aw_iload d_X12_findLending_207 4 rfl ?_
          refine aw_iadd d_X12_findLending_209 ?_
          obtain ⟨b28, k⟩ := k
          refine aw_iald (ws_292 w21) b28 d_X12_findLending_210 ?_
          refine aw_iload d_X12_findLending_211 5 rfl ?_
          refine aw_iadd d_X12_findLending_213 ?_
          refine aw_Si [.int x3, .int ((h_i h20 292 (((4 * x1) + x4) : Int32).toNatClampNeg) + (h_i h20 291 ((((256 * (x1 + 1)) + x2) - ((1 : Int32) <<< ((2 * x4) &&& 31))) : Int32).toNatClampNeg))] [] d_X12_findLending_214 (cS_J9_min_7cf53 (d + 0) 0 0) tw_2556 rfl (rr0 (Nat.le_of_ble_eq_true rfl) (Nat.le_of_ble_eq_true rfl)) (Nat.le_of_ble_eq_true rfl) xs0 k (fun r31 h29 kk => ?_)
          obtain ⟨w30, k⟩ := kk
          refine aw_istore_n (i := 3) rfl [(0, .ref 1), (1, .int x1), (2, .int x2), (3, .int r31), (4, .int x4), (5, .int (h_i h20 291 ((((256 * (x1 + 1)) + x2) - ((1 : Int32) <<< ((2 * x4) &&& 31))) : Int32).toNatClampNeg))] d_X12_findLending_217 (Nat.le_of_ble_eq_true rfl) rfl rfl ?_
          refine aw_iinc (v := (x4 + 1)) [(0, .ref 1), (1, .int x1), (2, .int x2), (3, .int r31), (4, .int (x4 + 1)), (5, .int (h_i h20 291 ((((256 * (x1 + 1)) + x2) - ((1 : Int32) <<< ((2 * x4) &&& 31))) : Int32).toNatClampNeg))] d_X12_findLending_218 4 rfl rfl (Nat.le_of_ble_eq_true rfl) rfl rfl ?_
          refine aw_goto (tgt := 127) d_X12_findLending_221 rfl ?_
          exact aw_lvp [0, 1, 2, 3, 4] [(0, .ref 1), (1, .int x1), (2, .int x2), (3, .int r31), (4, .int (x4 + 1))] rfl k
        · have k := k.2 c27
          refine aw_ldcw (v := 1000000000) d_X12_findLending_194 tw_2651 ?_
          refine aw_goto (tgt := 214) d_X12_findLending_197 rfl ?_
          refine aw_Si [.int x3, .int 1000000000] [] d_X12_findLending_214 (cS_J9_min_7cf53 (d + 0) 0 0) tw_2556 rfl (rr0 (Nat.le_of_ble_eq_true rfl) (Nat.le_of_ble_eq_true rfl)) (Nat.le_of_ble_eq_true rfl) xs0 k (fun r34 h32 kk => ?_)
          obtain ⟨w33, k⟩ := kk
          refine aw_istore_n (i := 3) rfl [(0, .ref 1), (1, .int x1), (2, .int x2), (3, .int r34), (4, .int x4), (5, .int (h_i h20 291 ((((256 * (x1 + 1)) + x2) - ((1 : Int32) <<< ((2 * x4) &&& 31))) : Int32).toNatClampNeg))] d_X12_findLending_217 (Nat.le_of_ble_eq_true rfl) rfl rfl ?_
          refine aw_iinc (v := (x4 + 1)) [(0, .ref 1), (1, .int x1), (2, .int x2), (3, .int r34), (4, .int (x4 + 1)), (5, .int (h_i h20 291 ((((256 * (x1 + 1)) + x2) - ((1 : Int32) <<< ((2 * x4) &&& 31))) : Int32).toNatClampNeg))] d_X12_findLending_218 4 rfl rfl (Nat.le_of_ble_eq_true rfl) rfl rfl ?_
          refine aw_goto (tgt := 127) d_X12_findLending_221 rfl ?_
          exact aw_lvp [0, 1, 2, 3, 4] [(0, .ref 1), (1, .int x1), (2, .int x2), (3, .int r34), (4, .int (x4 + 1))] rfl k
theorem t_X12_mark (d : Nat) (h : Hp_) (w : Wf h) (x1 : Int32) (x2 : Int32) (x3 : Int32) (K : Int32 → Hp_ → Prop) (k : (¬ (0 ≤ x1 ∧ x1 ≤ 3) → K 0 h) ∧ ((0 ≤ x1 ∧ x1 ≤ 3) → (¬ (0 ≤ x2 ∧ x2 ≤ (h_i h 1 7) - 1) → K 0 h) ∧ ((0 ≤ x2 ∧ x2 ≤ (h_i h 1 7) - 1) → ((0 ≤ x3 ∧ x3 ≤ 10) → vp_in ((12 * x1) + x2) 48 ∧ (vp_in ((12 * x1) + x2) 48 ∧ (K 1 (h_im (h_im h 298 (((12 * x1) + x2) : Int32).toNatClampNeg x3) 299 (((12 * x1) + x2) : Int32).toNatClampNeg (vp_nar .boolean 1))))) ∧ (¬ (0 ≤ x3 ∧ x3 ≤ 10) → K 0 h)))) : Ci (m_X12_mark (d + 2) 0 0) [.ref 1, .int x1, .int x2, .int x3] h K := by
  refine Ct.of (fun _ _ _ => trivial) rfl (Nat.le_of_ble_eq_true rfl) ?_
  show AW (m_X12_mark (d + 2) 0 0) 0 0 0 [(0, .ref 1), (1, .int x1), (2, .int x2), (3, .int x3)] [] h (kI K)
  refine aw_iload_n (i := 1) rfl d_X12_mark_0 1 rfl ?_
  refine aw_iconst (v := 0) d_X12_mark_1 ic_0 ?_
  refine aw_iconst (v := 3) d_X12_mark_2 ic_3 ?_
  refine aw_Si [.int x1, .int 0, .int 3] [] d_X12_mark_3 (cS_X12_in (d + 0) 0 0) tw_2147 rfl (rr0 (Nat.le_of_ble_eq_true rfl) (Nat.le_of_ble_eq_true rfl)) (Nat.le_of_ble_eq_true rfl) xs0 (s_X12_in _ _ x1 0 3) (fun _ _ kk => ?_)
  obtain ⟨e1, e2⟩ := kk
  rw [e1, e2]
  refine aw_ifb_eq (tgt := 27) d_X12_mark_6 rfl (fun c3 => ?_) (fun c3 => ?_)
  · have k := k.1 c3
    refine aw_iconst (v := 0) d_X12_mark_27 ic_0 ?_
    exact aw_zret rfl rfl d_X12_mark_28 ⟨Nat.le_refl _, Nat.le_refl _⟩ ⟨_, rfl, k⟩
  · have k := k.2 c3
    refine aw_aload_n (i := 0) rfl d_X12_mark_9 0 rfl ?_
    refine aw_iload_n (i := 2) rfl d_X12_mark_10 2 rfl ?_
    refine aw_Vi 1 [.int x2] [] d_X12_mark_11 (cV_X12_isMan (d + 1) 0 0) kc_12 (ws_1 w) tw_2167 rfl (rr0 (Nat.le_of_ble_eq_true rfl) (Nat.le_of_ble_eq_true rfl)) (Nat.le_of_ble_eq_true rfl) xs0 (s_X12_isMan _ _ w x2) (fun _ _ kk => ?_)
    obtain ⟨e4, e5⟩ := kk
    rw [e4, e5]
    refine aw_ifb_eq (tgt := 27) d_X12_mark_14 rfl (fun c6 => ?_) (fun c6 => ?_)
    · have k := k.1 c6
      refine aw_iconst (v := 0) d_X12_mark_27 ic_0 ?_
      exact aw_zret rfl rfl d_X12_mark_28 ⟨Nat.le_refl _, Nat.le_refl _⟩ ⟨_, rfl, k⟩
    · have k := k.2 c6
      refine aw_iload_n (i := 3) rfl d_X12_mark_17 3 rfl ?_
      refine aw_iconst (v := 0) d_X12_mark_18 ic_0 ?_
      refine aw_bipush (v := 10) d_X12_mark_19 ib_10 ?_
      refine aw_Si [.int x3, .int 0, .int 10] [] d_X12_mark_21 (cS_X12_in (d + 0) 0 0) tw_2147 rfl (rr0 (Nat.le_of_ble_eq_true rfl) (Nat.le_of_ble_eq_true rfl)) (Nat.le_of_ble_eq_true rfl) xs0 (s_X12_in _ _ x3 0 10) (fun _ _ kk => ?_)
      obtain ⟨e7, e8⟩ := kk
      rw [e7, e8]
      refine aw_ifb_ne (tgt := 29) d_X12_mark_24 rfl (fun c9 => ?_) (fun c9 => ?_)
      · have k := k.1 c9
        refine aw_aload_n (i := 0) rfl d_X12_mark_29 0 rfl ?_
        refine aw_getr (k0 := 128) kc_12 (ws_1 w) (Nat.le_of_ble_eq_true rfl) tw_1870 d_X12_mark_30 rfl (wr_1_128 w) ?_
        refine aw_bipush (v := 12) d_X12_mark_33 ib_12 ?_
        refine aw_iload_n (i := 1) rfl d_X12_mark_35 1 rfl ?_
        refine aw_imul d_X12_mark_36 ?_
        refine aw_iload_n (i := 2) rfl d_X12_mark_37 2 rfl ?_
        refine aw_iadd d_X12_mark_38 ?_
        refine aw_iload_n (i := 3) rfl d_X12_mark_39 3 rfl ?_
        obtain ⟨b10, k⟩ := k
        refine aw_iast (ws_298 w) b10 d_X12_mark_40 ?_
        refine aw_aload_n (i := 0) rfl d_X12_mark_41 0 rfl ?_
        refine aw_getr (k0 := 129) kc_12 (ws_1 w) (Nat.le_of_ble_eq_true rfl) tw_1871 d_X12_mark_42 rfl (wr_1_129 w) ?_
        refine aw_bipush (v := 12) d_X12_mark_45 ib_12 ?_
        refine aw_iload_n (i := 1) rfl d_X12_mark_47 1 rfl ?_
        refine aw_imul d_X12_mark_48 ?_
        refine aw_iload_n (i := 2) rfl d_X12_mark_49 2 rfl ?_
        refine aw_iadd d_X12_mark_50 ?_
        refine aw_iconst (v := 1) d_X12_mark_51 ic_1 ?_
        obtain ⟨b11, k⟩ := k
        refine aw_zast (ws_299 w) b11 d_X12_mark_52 ?_
        refine aw_iconst (v := 1) d_X12_mark_53 ic_1 ?_
        exact aw_zret rfl rfl d_X12_mark_54 ⟨Nat.le_refl _, Nat.le_refl _⟩ ⟨_, rfl, k⟩
      · have k := k.2 c9
        refine aw_iconst (v := 0) d_X12_mark_27 ic_0 ?_
        exact aw_zret rfl rfl d_X12_mark_28 ⟨Nat.le_refl _, Nat.le_refl _⟩ ⟨_, rfl, k⟩
theorem t_X12_work (d : Nat) (h : Hp_)  (K : Int32 → Hp_ → Prop) (k : AW (m_X12_work (d + 3) 0 0) 0 0 2 [(0, .ref 1), (1, .int 0)] [] h (kI K)) : Ci (m_X12_work (d + 3) 0 0) [.ref 1] h K := by
  refine Ct.of (fun _ _ _ => trivial) rfl (Nat.le_of_ble_eq_true rfl) ?_
  show AW (m_X12_work (d + 3) 0 0) 0 0 0 [(0, .ref 1)] [] h (kI K)
  refine aw_iconst (v := 0) d_X12_work_0 ic_0 ?_
  refine aw_istore_n (i := 1) rfl [(0, .ref 1), (1, .int 0)] d_X12_work_1 (Nat.le_of_ble_eq_true rfl) rfl rfl ?_
  exact k
theorem t_X12_work_2 (d : Nat) (h : Hp_) (w : Wf h) (x1 : Int32) (K : Int32 → Hp_ → Prop) (k : vp_in (h_i h 1 52) 22400 ∧ (((h_i h 231 ((h_i h 1 52) : Int32).toNatClampNeg) = 2 → vp_in 0 200 ∧ (K (h_i h 237 (0 : Int32).toNatClampNeg) (h_im h 1 52 ((h_i h 1 52) + 1)))) ∧ (¬ (h_i h 231 ((h_i h 1 52) : Int32).toNatClampNeg) = 2 → vp_in (h_i h 1 52) 22400 ∧ (((h_i h 231 ((h_i h 1 52) : Int32).toNatClampNeg) = 3 → vp_in 0 200 ∧ (K (h_i h 237 (0 : Int32).toNatClampNeg) (h_im h 1 52 ((h_i h 1 52) + 1)))) ∧ (¬ (h_i h 231 ((h_i h 1 52) : Int32).toNatClampNeg) = 3 → vp_in (h_i h 1 52) 22400 ∧ (((h_i h 231 ((h_i h 1 52) : Int32).toNatClampNeg) = 0 → (¬ (h_i h 231 ((h_i h 1 52) : Int32).toNatClampNeg) = 0 → vp_in ((h_i h 1 52) + 1) 22400 ∧ (vp_in (h_i h 231 (((h_i h 1 52) + 1) : Int32).toNatClampNeg) 128 ∧ (vp_in x1 200 ∧ (AW (m_X12_work (d + 3) 0 0) 0 0 2 [(0, .ref 1), (1, .int (x1 + 1))] [] (h_im (h_im (h_im h 1 52 ((h_i h 1 52) + 1)) 237 x1.toNatClampNeg (h_i h 236 ((h_i h 231 (((h_i h 1 52) + 1) : Int32).toNatClampNeg) : Int32).toNatClampNeg)) 1 52 (((h_i h 1 52) + 1) + 1)) (kI K))))) ∧ ((h_i h 231 ((h_i h 1 52) : Int32).toNatClampNeg) = 0 → vp_in ((h_i h 1 52) + 1) 22400 ∧ (vp_in x1 200 ∧ (AW (m_X12_work (d + 3) 0 0) 0 0 2 [(0, .ref 1), (1, .int (x1 + 1))] [] (h_im (h_im (h_im h 1 52 ((h_i h 1 52) + 1)) 237 x1.toNatClampNeg (h_i h 231 (((h_i h 1 52) + 1) : Int32).toNatClampNeg)) 1 52 (((h_i h 1 52) + 1) + 1)) (kI K))))) ∧ (¬ (h_i h 231 ((h_i h 1 52) : Int32).toNatClampNeg) = 0 → (¬ (h_i h 231 ((h_i h 1 52) : Int32).toNatClampNeg) = 1 → (¬ (h_i h 231 ((h_i h 1 52) : Int32).toNatClampNeg) = 33 → vp_in ((x1 + (-1)) - 1) 200 ∧ (vp_in (x1 + (-1)) 200 ∧ (Ci (m_X12_both (d + 2) 0 0) [.int (h_i h 231 ((h_i h 1 52) : Int32).toNatClampNeg), .int (h_i h 237 (((x1 + (-1)) - 1) : Int32).toNatClampNeg), .int (h_i h 237 ((x1 + (-1)) : Int32).toNatClampNeg)] (h_im h 1 52 ((h_i h 1 52) + 1)) (fun r21 h19 => Wf h19 ∧ (vp_in ((x1 + (-1)) - 1) 200 ∧ (AW (m_X12_work (d + 3) 0 0) 0 0 2 [(0, .ref 1), (1, .int (x1 + (-1)))] [] (h_im h19 237 (((x1 + (-1)) - 1) : Int32).toNatClampNeg r21) (kI K))))))) ∧ ((h_i h 231 ((h_i h 1 52) : Int32).toNatClampNeg) = 33 → vp_in (x1 - 1) 200 ∧ ((¬ (h_i h 237 ((x1 - 1) : Int32).toNatClampNeg) = 0 → vp_in (x1 - 1) 200 ∧ (AW (m_X12_work (d + 3) 0 0) 0 0 2 [(0, .ref 1), (1, .int x1)] [] (h_im (h_im h 1 52 ((h_i h 1 52) + 1)) 237 ((x1 - 1) : Int32).toNatClampNeg 0) (kI K))) ∧ ((h_i h 237 ((x1 - 1) : Int32).toNatClampNeg) = 0 → vp_in (x1 - 1) 200 ∧ (AW (m_X12_work (d + 3) 0 0) 0 0 2 [(0, .ref 1), (1, .int x1)] [] (h_im (h_im h 1 52 ((h_i h 1 52) + 1)) 237 ((x1 - 1) : Int32).toNatClampNeg 1) (kI K)))))) ∧ ((h_i h 231 ((h_i h 1 52) : Int32).toNatClampNeg) = 1 → (¬ (h_i h 231 ((h_i h 1 52) : Int32).toNatClampNeg) = 0 → vp_in ((h_i h 1 52) + 1) 22400 ∧ (vp_in (h_i h 231 (((h_i h 1 52) + 1) : Int32).toNatClampNeg) 128 ∧ (vp_in x1 200 ∧ (AW (m_X12_work (d + 3) 0 0) 0 0 2 [(0, .ref 1), (1, .int (x1 + 1))] [] (h_im (h_im (h_im h 1 52 ((h_i h 1 52) + 1)) 237 x1.toNatClampNeg (h_i h 236 ((h_i h 231 (((h_i h 1 52) + 1) : Int32).toNatClampNeg) : Int32).toNatClampNeg)) 1 52 (((h_i h 1 52) + 1) + 1)) (kI K))))) ∧ ((h_i h 231 ((h_i h 1 52) : Int32).toNatClampNeg) = 0 → vp_in ((h_i h 1 52) + 1) 22400 ∧ (vp_in x1 200 ∧ (AW (m_X12_work (d + 3) 0 0) 0 0 2 [(0, .ref 1), (1, .int (x1 + 1))] [] (h_im (h_im (h_im h 1 52 ((h_i h 1 52) + 1)) 237 x1.toNatClampNeg (h_i h 231 (((h_i h 1 52) + 1) : Int32).toNatClampNeg)) 1 52 (((h_i h 1 52) + 1) + 1)) (kI K)))))))))))) : AW (m_X12_work (d + 3) 0 0) 0 0 2 [(0, .ref 1), (1, .int x1)] [] h (kI K) := by
  refine aw_aload_n (i := 0) rfl d_X12_work_2 0 rfl ?_
  refine aw_getr (k0 := 45) kc_12 (ws_1 w) (Nat.le_of_ble_eq_true rfl) tw_1787 d_X12_work_3 rfl (wr_1_45 w) ?_
  refine aw_aload_n (i := 0) rfl d_X12_work_6 0 rfl ?_
  refine aw_geti (k0 := 52) kc_12 (ws_1 w) (Nat.le_of_ble_eq_true rfl) tw_1794 d_X12_work_7 rfl ?_
  obtain ⟨b1, k⟩ := k
  refine aw_iald (ws_231 w) b1 d_X12_work_10 ?_
  refine aw_iconst (v := 2) d_X12_work_11 ic_2 ?_
  refine aw_icmp_eq (tgt := 174) d_X12_work_12 rfl (fun c2 => ?_) (fun c2 => ?_)
  · have k := k.1 c2
    refine aw_aload_n (i := 0) rfl d_X12_work_174 0 rfl ?_
    refine aw_dup d_X12_work_175 rfl ?_
    refine aw_geti (k0 := 52) kc_12 (ws_1 w) (Nat.le_of_ble_eq_true rfl) tw_1794 d_X12_work_176 rfl ?_
    refine aw_iconst (v := 1) d_X12_work_179 ic_1 ?_
    refine aw_iadd d_X12_work_180 ?_
    refine aw_puti (k0 := 52) kc_12 (ws_1 w) (Nat.le_of_ble_eq_true rfl) tw_1794 d_X12_work_181 rfl rfl nf_i ?_
    refine aw_aload_n (i := 0) rfl d_X12_work_184 0 rfl ?_
    refine aw_getr (k0 := 51) kc_12 (ws_1 w) (Nat.le_of_ble_eq_true rfl) tw_1793 d_X12_work_185 rfl (wr_1_51 w) ?_
    refine aw_iconst (v := 0) d_X12_work_188 ic_0 ?_
    obtain ⟨b3, k⟩ := k
    refine aw_iald (ws_237 w) b3 d_X12_work_189 ?_
    refine aw_vi (v2 := (h_i h 237 (0 : Int32).toNatClampNeg)) (rfl) ?_
    exact aw_iret rfl d_X12_work_190 ⟨Nat.le_refl _, Nat.le_refl _⟩ ⟨_, rfl, k⟩
  · have k := k.2 c2
    refine aw_aload_n (i := 0) rfl d_X12_work_15 0 rfl ?_
    refine aw_getr (k0 := 45) kc_12 (ws_1 w) (Nat.le_of_ble_eq_true rfl) tw_1787 d_X12_work_16 rfl (wr_1_45 w) ?_
    refine aw_aload_n (i := 0) rfl d_X12_work_19 0 rfl ?_
    refine aw_geti (k0 := 52) kc_12 (ws_1 w) (Nat.le_of_ble_eq_true rfl) tw_1794 d_X12_work_20 rfl ?_
    obtain ⟨b4, k⟩ := k
    refine aw_iald (ws_231 w) b4 d_X12_work_23 ?_
    refine aw_iconst (v := 3) d_X12_work_24 ic_3 ?_
    refine aw_icmp_eq (tgt := 174) d_X12_work_25 rfl (fun c5 => ?_) (fun c5 => ?_)
    · have k := k.1 c5
      refine aw_aload_n (i := 0) rfl d_X12_work_174 0 rfl ?_
      refine aw_dup d_X12_work_175 rfl ?_
      refine aw_geti (k0 := 52) kc_12 (ws_1 w) (Nat.le_of_ble_eq_true rfl) tw_1794 d_X12_work_176 rfl ?_
      refine aw_iconst (v := 1) d_X12_work_179 ic_1 ?_
      refine aw_iadd d_X12_work_180 ?_
      refine aw_puti (k0 := 52) kc_12 (ws_1 w) (Nat.le_of_ble_eq_true rfl) tw_1794 d_X12_work_181 rfl rfl nf_i ?_
      refine aw_aload_n (i := 0) rfl d_X12_work_184 0 rfl ?_
      refine aw_getr (k0 := 51) kc_12 (ws_1 w) (Nat.le_of_ble_eq_true rfl) tw_1793 d_X12_work_185 rfl (wr_1_51 w) ?_
      refine aw_iconst (v := 0) d_X12_work_188 ic_0 ?_
      obtain ⟨b6, k⟩ := k
      refine aw_iald (ws_237 w) b6 d_X12_work_189 ?_
      refine aw_vi (v2 := (h_i h 237 (0 : Int32).toNatClampNeg)) (rfl) ?_
      exact aw_iret rfl d_X12_work_190 ⟨Nat.le_refl _, Nat.le_refl _⟩ ⟨_, rfl, k⟩
    · have k := k.2 c5
      refine aw_aload_n (i := 0) rfl d_X12_work_28 0 rfl ?_
      refine aw_getr (k0 := 45) kc_12 (ws_1 w) (Nat.le_of_ble_eq_true rfl) tw_1787 d_X12_work_29 rfl (wr_1_45 w) ?_
      refine aw_aload_n (i := 0) rfl d_X12_work_32 0 rfl ?_
      refine aw_geti (k0 := 52) kc_12 (ws_1 w) (Nat.le_of_ble_eq_true rfl) tw_1794 d_X12_work_33 rfl ?_
      obtain ⟨b7, k⟩ := k
      refine aw_iald (ws_231 w) b7 d_X12_work_36 ?_
      refine aw_istore_n (i := 2) rfl [(0, .ref 1), (1, .int x1), (2, .int (h_i h 231 ((h_i h 1 52) : Int32).toNatClampNeg))] d_X12_work_37 (Nat.le_of_ble_eq_true rfl) rfl rfl ?_
      refine aw_aload_n (i := 0) rfl d_X12_work_38 0 rfl ?_
      refine aw_dup d_X12_work_39 rfl ?_
      refine aw_geti (k0 := 52) kc_12 (ws_1 w) (Nat.le_of_ble_eq_true rfl) tw_1794 d_X12_work_40 rfl ?_
      refine aw_iconst (v := 1) d_X12_work_43 ic_1 ?_
      refine aw_iadd d_X12_work_44 ?_
      refine aw_puti (k0 := 52) kc_12 (ws_1 w) (Nat.le_of_ble_eq_true rfl) tw_1794 d_X12_work_45 rfl rfl nf_i ?_
      refine aw_iload_n (i := 2) rfl d_X12_work_48 2 rfl ?_
      refine aw_if_eq (tgt := 57) d_X12_work_49 rfl (fun c8 => ?_) (fun c8 => ?_)
      · have k := k.1 c8
        refine aw_aload_n (i := 0) rfl d_X12_work_57 0 rfl ?_
        refine aw_getr (k0 := 51) kc_12 (ws_1 w) (Nat.le_of_ble_eq_true rfl) tw_1793 d_X12_work_58 rfl (wr_1_51 w) ?_
        refine aw_iload_n (i := 1) rfl d_X12_work_61 1 rfl ?_
        refine aw_iload_n (i := 2) rfl d_X12_work_62 2 rfl ?_
        refine aw_if_ne (tgt := 78) d_X12_work_63 rfl (fun c9 => ?_) (fun c9 => ?_)
        · have k := k.1 c9
          refine aw_aload_n (i := 0) rfl d_X12_work_78 0 rfl ?_
          refine aw_getr (k0 := 50) kc_12 (ws_1 w) (Nat.le_of_ble_eq_true rfl) tw_1792 d_X12_work_79 rfl (wr_1_50 w) ?_
          refine aw_aload_n (i := 0) rfl d_X12_work_82 0 rfl ?_
          refine aw_getr (k0 := 45) kc_12 (ws_1 w) (Nat.le_of_ble_eq_true rfl) tw_1787 d_X12_work_83 rfl (wr_1_45 w) ?_
          refine aw_aload_n (i := 0) rfl d_X12_work_86 0 rfl ?_
          refine aw_geti (k0 := 52) kc_12 (ws_1 w) (Nat.le_of_ble_eq_true rfl) tw_1794 d_X12_work_87 rfl ?_
          refine aw_vi (v2 := ((h_i h 1 52) + 1)) (rfl) ?_
          obtain ⟨b10, k⟩ := k
          refine aw_iald (ws_231 w) b10 d_X12_work_90 ?_
          refine aw_vi (v2 := (h_i h 231 (((h_i h 1 52) + 1) : Int32).toNatClampNeg)) (rfl) ?_
          obtain ⟨b11, k⟩ := k
          refine aw_iald (ws_236 w) b11 d_X12_work_91 ?_
          refine aw_vi (v2 := (h_i h 236 ((h_i h 231 (((h_i h 1 52) + 1) : Int32).toNatClampNeg) : Int32).toNatClampNeg)) (rfl) ?_
          obtain ⟨b12, k⟩ := k
          refine aw_iast (ws_237 w) b12 d_X12_work_92 ?_
          refine aw_aload_n (i := 0) rfl d_X12_work_93 0 rfl ?_
          refine aw_dup d_X12_work_94 rfl ?_
          refine aw_geti (k0 := 52) kc_12 (ws_1 w) (Nat.le_of_ble_eq_true rfl) tw_1794 d_X12_work_95 rfl ?_
          refine aw_vi (v2 := ((h_i h 1 52) + 1)) (rfl) ?_
          refine aw_iconst (v := 1) d_X12_work_98 ic_1 ?_
          refine aw_iadd d_X12_work_99 ?_
          refine aw_puti (k0 := 52) kc_12 (ws_1 w) (Nat.le_of_ble_eq_true rfl) tw_1794 d_X12_work_100 rfl rfl nf_i ?_
          refine aw_iinc (v := (x1 + 1)) [(0, .ref 1), (1, .int (x1 + 1)), (2, .int (h_i h 231 ((h_i h 1 52) : Int32).toNatClampNeg))] d_X12_work_103 1 rfl rfl (Nat.le_of_ble_eq_true rfl) rfl rfl ?_
          refine aw_goto (tgt := 171) d_X12_work_106 rfl ?_
          refine aw_goto (tgt := 2) d_X12_work_171 rfl ?_
          exact aw_lvp [0, 1] [(0, .ref 1), (1, .int (x1 + 1))] rfl k
        · have k := k.2 c9
          refine aw_aload_n (i := 0) rfl d_X12_work_66 0 rfl ?_
          refine aw_getr (k0 := 45) kc_12 (ws_1 w) (Nat.le_of_ble_eq_true rfl) tw_1787 d_X12_work_67 rfl (wr_1_45 w) ?_
          refine aw_aload_n (i := 0) rfl d_X12_work_70 0 rfl ?_
          refine aw_geti (k0 := 52) kc_12 (ws_1 w) (Nat.le_of_ble_eq_true rfl) tw_1794 d_X12_work_71 rfl ?_
          refine aw_vi (v2 := ((h_i h 1 52) + 1)) (rfl) ?_
          obtain ⟨b13, k⟩ := k
          refine aw_iald (ws_231 w) b13 d_X12_work_74 ?_
          refine aw_vi (v2 := (h_i h 231 (((h_i h 1 52) + 1) : Int32).toNatClampNeg)) (rfl) ?_
          refine aw_goto (tgt := 92) d_X12_work_75 rfl ?_
          obtain ⟨b14, k⟩ := k
          refine aw_iast (ws_237 w) b14 d_X12_work_92 ?_
          refine aw_aload_n (i := 0) rfl d_X12_work_93 0 rfl ?_
          refine aw_dup d_X12_work_94 rfl ?_
          refine aw_geti (k0 := 52) kc_12 (ws_1 w) (Nat.le_of_ble_eq_true rfl) tw_1794 d_X12_work_95 rfl ?_
          refine aw_vi (v2 := ((h_i h 1 52) + 1)) (rfl) ?_
          refine aw_iconst (v := 1) d_X12_work_98 ic_1 ?_
          refine aw_iadd d_X12_work_99 ?_
          refine aw_puti (k0 := 52) kc_12 (ws_1 w) (Nat.le_of_ble_eq_true rfl) tw_1794 d_X12_work_100 rfl rfl nf_i ?_
          refine aw_iinc (v := (x1 + 1)) [(0, .ref 1), (1, .int (x1 + 1)), (2, .int (h_i h 231 ((h_i h 1 52) : Int32).toNatClampNeg))] d_X12_work_103 1 rfl rfl (Nat.le_of_ble_eq_true rfl) rfl rfl ?_
          refine aw_goto (tgt := 171) d_X12_work_106 rfl ?_
          refine aw_goto (tgt := 2) d_X12_work_171 rfl ?_
          exact aw_lvp [0, 1] [(0, .ref 1), (1, .int (x1 + 1))] rfl k
      · have k := k.2 c8
        refine aw_iload_n (i := 2) rfl d_X12_work_52 2 rfl ?_
        refine aw_iconst (v := 1) d_X12_work_53 ic_1 ?_
        refine aw_icmp_ne (tgt := 109) d_X12_work_54 rfl (fun c15 => ?_) (fun c15 => ?_)
        · have k := k.1 c15
          refine aw_iload_n (i := 2) rfl d_X12_work_109 2 rfl ?_
          refine aw_bipush (v := 33) d_X12_work_110 ib_33 ?_
          refine aw_icmp_ne (tgt := 142) d_X12_work_112 rfl (fun c16 => ?_) (fun c16 => ?_)
          · have k := k.1 c16
            refine aw_iinc (v := (x1 + (-1))) [(0, .ref 1), (1, .int (x1 + (-1))), (2, .int (h_i h 231 ((h_i h 1 52) : Int32).toNatClampNeg))] d_X12_work_142 1 rfl rfl (Nat.le_of_ble_eq_true rfl) rfl rfl ?_
            refine aw_aload_n (i := 0) rfl d_X12_work_145 0 rfl ?_
            refine aw_getr (k0 := 51) kc_12 (ws_1 w) (Nat.le_of_ble_eq_true rfl) tw_1793 d_X12_work_146 rfl (wr_1_51 w) ?_
            refine aw_iload_n (i := 1) rfl d_X12_work_149 1 rfl ?_
            refine aw_iconst (v := 1) d_X12_work_150 ic_1 ?_
            refine aw_isub d_X12_work_151 ?_
            refine aw_iload_n (i := 2) rfl d_X12_work_152 2 rfl ?_
            refine aw_aload_n (i := 0) rfl d_X12_work_153 0 rfl ?_
            refine aw_getr (k0 := 51) kc_12 (ws_1 w) (Nat.le_of_ble_eq_true rfl) tw_1793 d_X12_work_154 rfl (wr_1_51 w) ?_
            refine aw_iload_n (i := 1) rfl d_X12_work_157 1 rfl ?_
            refine aw_iconst (v := 1) d_X12_work_158 ic_1 ?_
            refine aw_isub d_X12_work_159 ?_
            obtain ⟨b17, k⟩ := k
            refine aw_iald (ws_237 w) b17 d_X12_work_160 ?_
            refine aw_vi (v2 := (h_i h 237 (((x1 + (-1)) - 1) : Int32).toNatClampNeg)) (rfl) ?_
            refine aw_aload_n (i := 0) rfl d_X12_work_161 0 rfl ?_
            refine aw_getr (k0 := 51) kc_12 (ws_1 w) (Nat.le_of_ble_eq_true rfl) tw_1793 d_X12_work_162 rfl (wr_1_51 w) ?_
            refine aw_iload_n (i := 1) rfl d_X12_work_165 1 rfl ?_
            obtain ⟨b18, k⟩ := k
            refine aw_iald (ws_237 w) b18 d_X12_work_166 ?_
            refine aw_vi (v2 := (h_i h 237 ((x1 + (-1)) : Int32).toNatClampNeg)) (rfl) ?_
            refine aw_Si [.int (h_i h 231 ((h_i h 1 52) : Int32).toNatClampNeg), .int (h_i h 237 (((x1 + (-1)) - 1) : Int32).toNatClampNeg), .int (h_i h 237 ((x1 + (-1)) : Int32).toNatClampNeg)] [.int ((x1 + (-1)) - 1), .ref 237] d_X12_work_167 (cS_X12_both (d + 2) 0 0) tw_2436 rfl (rr0 (Nat.le_of_ble_eq_true rfl) (Nat.le_of_ble_eq_true rfl)) (Nat.le_of_ble_eq_true rfl) xs0 k (fun r21 h19 kk => ?_)
            obtain ⟨w20, k⟩ := kk
            obtain ⟨b22, k⟩ := k
            refine aw_iast (ws_237 w20) b22 d_X12_work_170 ?_
            refine aw_goto (tgt := 2) d_X12_work_171 rfl ?_
            exact aw_lvp [0, 1] [(0, .ref 1), (1, .int (x1 + (-1)))] rfl k
          · have k := k.2 c16
            refine aw_aload_n (i := 0) rfl d_X12_work_115 0 rfl ?_
            refine aw_getr (k0 := 51) kc_12 (ws_1 w) (Nat.le_of_ble_eq_true rfl) tw_1793 d_X12_work_116 rfl (wr_1_51 w) ?_
            refine aw_iload_n (i := 1) rfl d_X12_work_119 1 rfl ?_
            refine aw_iconst (v := 1) d_X12_work_120 ic_1 ?_
            refine aw_isub d_X12_work_121 ?_
            refine aw_aload_n (i := 0) rfl d_X12_work_122 0 rfl ?_
            refine aw_getr (k0 := 51) kc_12 (ws_1 w) (Nat.le_of_ble_eq_true rfl) tw_1793 d_X12_work_123 rfl (wr_1_51 w) ?_
            refine aw_iload_n (i := 1) rfl d_X12_work_126 1 rfl ?_
            refine aw_iconst (v := 1) d_X12_work_127 ic_1 ?_
            refine aw_isub d_X12_work_128 ?_
            obtain ⟨b23, k⟩ := k
            refine aw_iald (ws_237 w) b23 d_X12_work_129 ?_
            refine aw_vi (v2 := (h_i h 237 ((x1 - 1) : Int32).toNatClampNeg)) (rfl) ?_
            refine aw_if_ne (tgt := 137) d_X12_work_130 rfl (fun c24 => ?_) (fun c24 => ?_)
            · have k := k.1 c24
              refine aw_iconst (v := 0) d_X12_work_137 ic_0 ?_
              obtain ⟨b25, k⟩ := k
              refine aw_iast (ws_237 w) b25 d_X12_work_138 ?_
              refine aw_goto (tgt := 171) d_X12_work_139 rfl ?_
              refine aw_goto (tgt := 2) d_X12_work_171 rfl ?_
              exact aw_lvp [0, 1] [(0, .ref 1), (1, .int x1)] rfl k
            · have k := k.2 c24
              refine aw_iconst (v := 1) d_X12_work_133 ic_1 ?_
              refine aw_goto (tgt := 138) d_X12_work_134 rfl ?_
              obtain ⟨b26, k⟩ := k
              refine aw_iast (ws_237 w) b26 d_X12_work_138 ?_
              refine aw_goto (tgt := 171) d_X12_work_139 rfl ?_
              refine aw_goto (tgt := 2) d_X12_work_171 rfl ?_
              exact aw_lvp [0, 1] [(0, .ref 1), (1, .int x1)] rfl k
        · have k := k.2 c15
          refine aw_aload_n (i := 0) rfl d_X12_work_57 0 rfl ?_
          refine aw_getr (k0 := 51) kc_12 (ws_1 w) (Nat.le_of_ble_eq_true rfl) tw_1793 d_X12_work_58 rfl (wr_1_51 w) ?_
          refine aw_iload_n (i := 1) rfl d_X12_work_61 1 rfl ?_
          refine aw_iload_n (i := 2) rfl d_X12_work_62 2 rfl ?_
          refine aw_if_ne (tgt := 78) d_X12_work_63 rfl (fun c27 => ?_) (fun c27 => ?_)
          · have k := k.1 c27
            refine aw_aload_n (i := 0) rfl d_X12_work_78 0 rfl ?_
            refine aw_getr (k0 := 50) kc_12 (ws_1 w) (Nat.le_of_ble_eq_true rfl) tw_1792 d_X12_work_79 rfl (wr_1_50 w) ?_
            refine aw_aload_n (i := 0) rfl d_X12_work_82 0 rfl ?_
            refine aw_getr (k0 := 45) kc_12 (ws_1 w) (Nat.le_of_ble_eq_true rfl) tw_1787 d_X12_work_83 rfl (wr_1_45 w) ?_
            refine aw_aload_n (i := 0) rfl d_X12_work_86 0 rfl ?_
            refine aw_geti (k0 := 52) kc_12 (ws_1 w) (Nat.le_of_ble_eq_true rfl) tw_1794 d_X12_work_87 rfl ?_
            refine aw_vi (v2 := ((h_i h 1 52) + 1)) (rfl) ?_
            obtain ⟨b28, k⟩ := k
            refine aw_iald (ws_231 w) b28 d_X12_work_90 ?_
            refine aw_vi (v2 := (h_i h 231 (((h_i h 1 52) + 1) : Int32).toNatClampNeg)) (rfl) ?_
            obtain ⟨b29, k⟩ := k
            refine aw_iald (ws_236 w) b29 d_X12_work_91 ?_
            refine aw_vi (v2 := (h_i h 236 ((h_i h 231 (((h_i h 1 52) + 1) : Int32).toNatClampNeg) : Int32).toNatClampNeg)) (rfl) ?_
            obtain ⟨b30, k⟩ := k
            refine aw_iast (ws_237 w) b30 d_X12_work_92 ?_
            refine aw_aload_n (i := 0) rfl d_X12_work_93 0 rfl ?_
            refine aw_dup d_X12_work_94 rfl ?_
            refine aw_geti (k0 := 52) kc_12 (ws_1 w) (Nat.le_of_ble_eq_true rfl) tw_1794 d_X12_work_95 rfl ?_
            refine aw_vi (v2 := ((h_i h 1 52) + 1)) (rfl) ?_
            refine aw_iconst (v := 1) d_X12_work_98 ic_1 ?_
            refine aw_iadd d_X12_work_99 ?_
            refine aw_puti (k0 := 52) kc_12 (ws_1 w) (Nat.le_of_ble_eq_true rfl) tw_1794 d_X12_work_100 rfl rfl nf_i ?_
            refine aw_iinc (v := (x1 + 1)) [(0, .ref 1), (1, .int (x1 + 1)), (2, .int (h_i h 231 ((h_i h 1 52) : Int32).toNatClampNeg))] d_X12_work_103 1 rfl rfl (Nat.le_of_ble_eq_true rfl) rfl rfl ?_
            refine aw_goto (tgt := 171) d_X12_work_106 rfl ?_
            refine aw_goto (tgt := 2) d_X12_work_171 rfl ?_
            exact aw_lvp [0, 1] [(0, .ref 1), (1, .int (x1 + 1))] rfl k
          · have k := k.2 c27
            refine aw_aload_n (i := 0) rfl d_X12_work_66 0 rfl ?_
            refine aw_getr (k0 := 45) kc_12 (ws_1 w) (Nat.le_of_ble_eq_true rfl) tw_1787 d_X12_work_67 rfl (wr_1_45 w) ?_
            refine aw_aload_n (i := 0) rfl d_X12_work_70 0 rfl ?_
            refine aw_geti (k0 := 52) kc_12 (ws_1 w) (Nat.le_of_ble_eq_true rfl) tw_1794 d_X12_work_71 rfl ?_
            refine aw_vi (v2 := ((h_i h 1 52) + 1)) (rfl) ?_
            obtain ⟨b31, k⟩ := k
            refine aw_iald (ws_231 w) b31 d_X12_work_74 ?_
            refine aw_vi (v2 := (h_i h 231 (((h_i h 1 52) + 1) : Int32).toNatClampNeg)) (rfl) ?_
            refine aw_goto (tgt := 92) d_X12_work_75 rfl ?_
            obtain ⟨b32, k⟩ := k
            refine aw_iast (ws_237 w) b32 d_X12_work_92 ?_
            refine aw_aload_n (i := 0) rfl d_X12_work_93 0 rfl ?_
            refine aw_dup d_X12_work_94 rfl ?_
            refine aw_geti (k0 := 52) kc_12 (ws_1 w) (Nat.le_of_ble_eq_true rfl) tw_1794 d_X12_work_95 rfl ?_
            refine aw_vi (v2 := ((h_i h 1 52) + 1)) (rfl) ?_
            refine aw_iconst (v := 1) d_X12_work_98 ic_1 ?_
            refine aw_iadd d_X12_work_99 ?_
            refine aw_puti (k0 := 52) kc_12 (ws_1 w) (Nat.le_of_ble_eq_true rfl) tw_1794 d_X12_work_100 rfl rfl nf_i ?_
            refine aw_iinc (v := (x1 + 1)) [(0, .ref 1), (1, .int (x1 + 1)), (2, .int (h_i h 231 ((h_i h 1 52) : Int32).toNatClampNeg))] d_X12_work_103 1 rfl rfl (Nat.le_of_ble_eq_true rfl) rfl rfl ?_
            refine aw_goto (tgt := 171) d_X12_work_106 rfl ?_
            refine aw_goto (tgt := 2) d_X12_work_171 rfl ?_
            exact aw_lvp [0, 1] [(0, .ref 1), (1, .int (x1 + 1))] rfl k
theorem t_X12_stay (d : Nat) (h : Hp_) (w : Wf h) (x1 : Int32) (K : Hp_ → Prop) (k : vp_in x1 12 ∧ (((h_i h 1 0) < (h_i h 219 x1.toNatClampNeg) → vp_in x1 12 ∧ (vp_in x1 12 ∧ (K (h_im h 211 x1.toNatClampNeg (h_i h 219 x1.toNatClampNeg))))) ∧ (¬ (h_i h 1 0) < (h_i h 219 x1.toNatClampNeg) → Cv (m_X12_goHome (d + 2) 0 0) [.ref 1, .int x1] h (fun h5 => Wf h5 ∧ (K h5))))) : Cv (m_X12_stay (d + 3) 0 0) [.ref 1, .int x1] h K := by
  refine Ct.of (fun _ _ _ => trivial) rfl (Nat.le_of_ble_eq_true rfl) ?_
  show AW (m_X12_stay (d + 3) 0 0) 0 0 0 [(0, .ref 1), (1, .int x1)] [] h (kV K)
  refine aw_aload_n (i := 0) rfl d_X12_stay_0 0 rfl ?_
  refine aw_getr (k0 := 23) kc_12 (ws_1 w) (Nat.le_of_ble_eq_true rfl) tw_1765 d_X12_stay_1 rfl (wr_1_23 w) ?_
  refine aw_iload_n (i := 1) rfl d_X12_stay_4 1 rfl ?_
  obtain ⟨b1, k⟩ := k
  refine aw_iald (ws_219 w) b1 d_X12_stay_5 ?_
  refine aw_aload_n (i := 0) rfl d_X12_stay_6 0 rfl ?_
  refine aw_geti (k0 := 0) kc_12 (ws_1 w) (Nat.le_of_ble_eq_true rfl) tw_1742 d_X12_stay_7 rfl ?_
  refine aw_icmp_gt (tgt := 21) d_X12_stay_10 rfl (fun c2 => ?_) (fun c2 => ?_)
  · have k := k.1 c2
    refine aw_aload_n (i := 0) rfl d_X12_stay_21 0 rfl ?_
    refine aw_getr (k0 := 15) kc_12 (ws_1 w) (Nat.le_of_ble_eq_true rfl) tw_1757 d_X12_stay_22 rfl (wr_1_15 w) ?_
    refine aw_iload_n (i := 1) rfl d_X12_stay_25 1 rfl ?_
    refine aw_aload_n (i := 0) rfl d_X12_stay_26 0 rfl ?_
    refine aw_getr (k0 := 23) kc_12 (ws_1 w) (Nat.le_of_ble_eq_true rfl) tw_1765 d_X12_stay_27 rfl (wr_1_23 w) ?_
    refine aw_iload_n (i := 1) rfl d_X12_stay_30 1 rfl ?_
    obtain ⟨b3, k⟩ := k
    refine aw_iald (ws_219 w) b3 d_X12_stay_31 ?_
    obtain ⟨b4, k⟩ := k
    refine aw_iast (ws_211 w) b4 d_X12_stay_32 ?_
    exact aw_vret rfl d_X12_stay_33 ⟨Nat.le_refl _, Nat.le_refl _⟩ ⟨rfl, k⟩
  · have k := k.2 c2
    refine aw_aload_n (i := 0) rfl d_X12_stay_13 0 rfl ?_
    refine aw_iload_n (i := 1) rfl d_X12_stay_14 1 rfl ?_
    refine aw_Vv 1 [.int x1] [] d_X12_stay_15 (cV_X12_goHome (d + 2) 0 0) kc_12 (ws_1 w) tw_2344 rfl (rr0 (Nat.le_of_ble_eq_true rfl) (Nat.le_of_ble_eq_true rfl)) (Nat.le_of_ble_eq_true rfl) xs0 k (fun h5 kk => ?_)
    obtain ⟨w6, k⟩ := kk
    refine aw_goto (tgt := 33) d_X12_stay_18 rfl ?_
    exact aw_vret rfl d_X12_stay_33 ⟨Nat.le_refl _, Nat.le_refl _⟩ ⟨rfl, k⟩
theorem t_X12_goOn (d : Nat) (h : Hp_) (w : Wf h) (x1 : Int32) (K : Hp_ → Prop) (k : vp_in x1 12 ∧ ((¬ (h_i h 208 x1.toNatClampNeg) = 1 → K h) ∧ ((h_i h 208 x1.toNatClampNeg) = 1 → vp_in x1 12 ∧ (vp_in x1 12 ∧ (vp_in (h_i h 212 x1.toNatClampNeg) 12 ∧ ((¬ (h_i h 213 x1.toNatClampNeg) = (h_i h 227 ((h_i h 212 x1.toNatClampNeg) : Int32).toNatClampNeg) → vp_in x1 12 ∧ (vp_in x1 12 ∧ (vp_in ((150 * (h_i h 212 x1.toNatClampNeg)) + (h_i h 213 x1.toNatClampNeg)) 1800 ∧ (vp_in x1 12 ∧ (((h_i h 228 (((150 * (h_i h 212 x1.toNatClampNeg)) + (h_i h 213 x1.toNatClampNeg)) : Int32).toNatClampNeg) = 0 → vp_in x1 12 ∧ (vp_in ((150 * (h_i h 212 x1.toNatClampNeg)) + (h_i h 213 x1.toNatClampNeg)) 1800 ∧ (Ci (m_X12_walkOf (d + 0) 0 0) [.ref 1, .int (h_i h 209 x1.toNatClampNeg), .int (h_i h 229 (((150 * (h_i h 212 x1.toNatClampNeg)) + (h_i h 213 x1.toNatClampNeg)) : Int32).toNatClampNeg)] (h_im h 211 x1.toNatClampNeg (-1)) (fun r16 h14 => Wf h14 ∧ ((r16 ≤ 0 → (¬ (h_i h 228 (((150 * (h_i h 212 x1.toNatClampNeg)) + (h_i h 213 x1.toNatClampNeg)) : Int32).toNatClampNeg) = 2 → (¬ (h_i h 228 (((150 * (h_i h 212 x1.toNatClampNeg)) + (h_i h 213 x1.toNatClampNeg)) : Int32).toNatClampNeg) = 2 → vp_in x1 12 ∧ (vp_in x1 12 ∧ (AW (m_X12_goOn (d + 3) 0 0) 0 0 0 [(0, .ref 1), (1, .int x1)] [] (h_im h14 213 x1.toNatClampNeg ((h_i h14 213 x1.toNatClampNeg) + 1)) (kV K)))) ∧ ((h_i h 228 (((150 * (h_i h 212 x1.toNatClampNeg)) + (h_i h 213 x1.toNatClampNeg)) : Int32).toNatClampNeg) = 2 → vp_in ((150 * (h_i h 212 x1.toNatClampNeg)) + (h_i h 213 x1.toNatClampNeg)) 1800 ∧ (Ci (m_X12_comes (d + 1) 0 0) [.ref 1, .int x1, .int (h_i h14 230 (((150 * (h_i h 212 x1.toNatClampNeg)) + (h_i h 213 x1.toNatClampNeg)) : Int32).toNatClampNeg)] h14 (fun r25 h23 => Wf h23 ∧ ((r25 = 0 → vp_in x1 12 ∧ (vp_in x1 12 ∧ (AW (m_X12_goOn (d + 3) 0 0) 0 0 0 [(0, .ref 1), (1, .int x1)] [] (h_im h23 213 x1.toNatClampNeg ((h_i h23 213 x1.toNatClampNeg) + 1)) (kV K)))) ∧ (¬ r25 = 0 → K h23)))))) ∧ ((h_i h 228 (((150 * (h_i h 212 x1.toNatClampNeg)) + (h_i h 213 x1.toNatClampNeg)) : Int32).toNatClampNeg) = 2 → (¬ r16 = (-1) → (¬ (h_i h 228 (((150 * (h_i h 212 x1.toNatClampNeg)) + (h_i h 213 x1.toNatClampNeg)) : Int32).toNatClampNeg) = 2 → vp_in x1 12 ∧ (vp_in x1 12 ∧ (AW (m_X12_goOn (d + 3) 0 0) 0 0 0 [(0, .ref 1), (1, .int x1)] [] (h_im h14 213 x1.toNatClampNeg ((h_i h14 213 x1.toNatClampNeg) + 1)) (kV K)))) ∧ ((h_i h 228 (((150 * (h_i h 212 x1.toNatClampNeg)) + (h_i h 213 x1.toNatClampNeg)) : Int32).toNatClampNeg) = 2 → vp_in ((150 * (h_i h 212 x1.toNatClampNeg)) + (h_i h 213 x1.toNatClampNeg)) 1800 ∧ (Ci (m_X12_comes (d + 1) 0 0) [.ref 1, .int x1, .int (h_i h14 230 (((150 * (h_i h 212 x1.toNatClampNeg)) + (h_i h 213 x1.toNatClampNeg)) : Int32).toNatClampNeg)] h14 (fun r36 h34 => Wf h34 ∧ ((r36 = 0 → vp_in x1 12 ∧ (vp_in x1 12 ∧ (AW (m_X12_goOn (d + 3) 0 0) 0 0 0 [(0, .ref 1), (1, .int x1)] [] (h_im h34 213 x1.toNatClampNeg ((h_i h34 213 x1.toNatClampNeg) + 1)) (kV K)))) ∧ (¬ r36 = 0 → K h34)))))) ∧ (r16 = (-1) → vp_in x1 12 ∧ (Cv (m_X12_miss (d + 0) 0 0) [.ref 1, .int (h_i h14 216 x1.toNatClampNeg), .int 2] h14 (fun h41 => Wf h41 ∧ (vp_in x1 12 ∧ (vp_in x1 12 ∧ (vp_in x1 12 ∧ (vp_in x1 12 ∧ (AW (m_X12_goOn (d + 3) 0 0) 0 0 0 [(0, .ref 1), (1, .int x1)] [] (h_im (h_im h41 216 x1.toNatClampNeg ((h_i h41 216 x1.toNatClampNeg) + 1)) 213 x1.toNatClampNeg ((h_i h41 213 x1.toNatClampNeg) + 1)) (kV K))))))))))) ∧ (¬ r16 ≤ 0 → vp_in ((150 * (h_i h 212 x1.toNatClampNeg)) + (h_i h 213 x1.toNatClampNeg)) 1800 ∧ (Cv (m_X12_setOut (d + 1) 0 0) [.ref 1, .int x1, .int (h_i h14 229 (((150 * (h_i h 212 x1.toNatClampNeg)) + (h_i h 213 x1.toNatClampNeg)) : Int32).toNatClampNeg)] h14 (fun h49 => Wf h49 ∧ (K h49))))))))) ∧ (¬ (h_i h 228 (((150 * (h_i h 212 x1.toNatClampNeg)) + (h_i h 213 x1.toNatClampNeg)) : Int32).toNatClampNeg) = 0 → (¬ (h_i h 228 (((150 * (h_i h 212 x1.toNatClampNeg)) + (h_i h 213 x1.toNatClampNeg)) : Int32).toNatClampNeg) = 2 → (¬ (h_i h 228 (((150 * (h_i h 212 x1.toNatClampNeg)) + (h_i h 213 x1.toNatClampNeg)) : Int32).toNatClampNeg) = 1 → vp_in x1 12 ∧ (K (h_im (h_im h 211 x1.toNatClampNeg (-1)) 211 x1.toNatClampNeg ((h_i h 1 0) + 1)))) ∧ ((h_i h 228 (((150 * (h_i h 212 x1.toNatClampNeg)) + (h_i h 213 x1.toNatClampNeg)) : Int32).toNatClampNeg) = 1 → vp_in ((150 * (h_i h 212 x1.toNatClampNeg)) + (h_i h 213 x1.toNatClampNeg)) 1800 ∧ (vp_in x1 12 ∧ (K (h_im (h_im h 211 x1.toNatClampNeg (-1)) 211 x1.toNatClampNeg ((h_i h 1 0) + (h_i h 229 (((150 * (h_i h 212 x1.toNatClampNeg)) + (h_i h 213 x1.toNatClampNeg)) : Int32).toNatClampNeg))))))) ∧ ((h_i h 228 (((150 * (h_i h 212 x1.toNatClampNeg)) + (h_i h 213 x1.toNatClampNeg)) : Int32).toNatClampNeg) = 2 → vp_in x1 12 ∧ (vp_in ((150 * (h_i h 212 x1.toNatClampNeg)) + (h_i h 213 x1.toNatClampNeg)) 1800 ∧ (Ci (m_X12_walkOf (d + 0) 0 0) [.ref 1, .int (h_i h 209 x1.toNatClampNeg), .int (h_i h 229 (((150 * (h_i h 212 x1.toNatClampNeg)) + (h_i h 213 x1.toNatClampNeg)) : Int32).toNatClampNeg)] (h_im h 211 x1.toNatClampNeg (-1)) (fun r61 h59 => Wf h59 ∧ ((r61 ≤ 0 → (¬ (h_i h 228 (((150 * (h_i h 212 x1.toNatClampNeg)) + (h_i h 213 x1.toNatClampNeg)) : Int32).toNatClampNeg) = 2 → (¬ (h_i h 228 (((150 * (h_i h 212 x1.toNatClampNeg)) + (h_i h 213 x1.toNatClampNeg)) : Int32).toNatClampNeg) = 2 → vp_in x1 12 ∧ (vp_in x1 12 ∧ (AW (m_X12_goOn (d + 3) 0 0) 0 0 0 [(0, .ref 1), (1, .int x1)] [] (h_im h59 213 x1.toNatClampNeg ((h_i h59 213 x1.toNatClampNeg) + 1)) (kV K)))) ∧ ((h_i h 228 (((150 * (h_i h 212 x1.toNatClampNeg)) + (h_i h 213 x1.toNatClampNeg)) : Int32).toNatClampNeg) = 2 → vp_in ((150 * (h_i h 212 x1.toNatClampNeg)) + (h_i h 213 x1.toNatClampNeg)) 1800 ∧ (Ci (m_X12_comes (d + 1) 0 0) [.ref 1, .int x1, .int (h_i h59 230 (((150 * (h_i h 212 x1.toNatClampNeg)) + (h_i h 213 x1.toNatClampNeg)) : Int32).toNatClampNeg)] h59 (fun r70 h68 => Wf h68 ∧ ((r70 = 0 → vp_in x1 12 ∧ (vp_in x1 12 ∧ (AW (m_X12_goOn (d + 3) 0 0) 0 0 0 [(0, .ref 1), (1, .int x1)] [] (h_im h68 213 x1.toNatClampNeg ((h_i h68 213 x1.toNatClampNeg) + 1)) (kV K)))) ∧ (¬ r70 = 0 → K h68)))))) ∧ ((h_i h 228 (((150 * (h_i h 212 x1.toNatClampNeg)) + (h_i h 213 x1.toNatClampNeg)) : Int32).toNatClampNeg) = 2 → (¬ r61 = (-1) → (¬ (h_i h 228 (((150 * (h_i h 212 x1.toNatClampNeg)) + (h_i h 213 x1.toNatClampNeg)) : Int32).toNatClampNeg) = 2 → vp_in x1 12 ∧ (vp_in x1 12 ∧ (AW (m_X12_goOn (d + 3) 0 0) 0 0 0 [(0, .ref 1), (1, .int x1)] [] (h_im h59 213 x1.toNatClampNeg ((h_i h59 213 x1.toNatClampNeg) + 1)) (kV K)))) ∧ ((h_i h 228 (((150 * (h_i h 212 x1.toNatClampNeg)) + (h_i h 213 x1.toNatClampNeg)) : Int32).toNatClampNeg) = 2 → vp_in ((150 * (h_i h 212 x1.toNatClampNeg)) + (h_i h 213 x1.toNatClampNeg)) 1800 ∧ (Ci (m_X12_comes (d + 1) 0 0) [.ref 1, .int x1, .int (h_i h59 230 (((150 * (h_i h 212 x1.toNatClampNeg)) + (h_i h 213 x1.toNatClampNeg)) : Int32).toNatClampNeg)] h59 (fun r81 h79 => Wf h79 ∧ ((r81 = 0 → vp_in x1 12 ∧ (vp_in x1 12 ∧ (AW (m_X12_goOn (d + 3) 0 0) 0 0 0 [(0, .ref 1), (1, .int x1)] [] (h_im h79 213 x1.toNatClampNeg ((h_i h79 213 x1.toNatClampNeg) + 1)) (kV K)))) ∧ (¬ r81 = 0 → K h79)))))) ∧ (r61 = (-1) → vp_in x1 12 ∧ (Cv (m_X12_miss (d + 0) 0 0) [.ref 1, .int (h_i h59 216 x1.toNatClampNeg), .int 2] h59 (fun h86 => Wf h86 ∧ (vp_in x1 12 ∧ (vp_in x1 12 ∧ (vp_in x1 12 ∧ (vp_in x1 12 ∧ (AW (m_X12_goOn (d + 3) 0 0) 0 0 0 [(0, .ref 1), (1, .int x1)] [] (h_im (h_im h86 216 x1.toNatClampNeg ((h_i h86 216 x1.toNatClampNeg) + 1)) 213 x1.toNatClampNeg ((h_i h86 213 x1.toNatClampNeg) + 1)) (kV K))))))))))) ∧ (¬ r61 ≤ 0 → vp_in ((150 * (h_i h 212 x1.toNatClampNeg)) + (h_i h 213 x1.toNatClampNeg)) 1800 ∧ (Cv (m_X12_setOut (d + 1) 0 0) [.ref 1, .int x1, .int (h_i h59 229 (((150 * (h_i h 212 x1.toNatClampNeg)) + (h_i h 213 x1.toNatClampNeg)) : Int32).toNatClampNeg)] h59 (fun h94 => Wf h94 ∧ (K h94))))))))))))))) ∧ ((h_i h 213 x1.toNatClampNeg) = (h_i h 227 ((h_i h 212 x1.toNatClampNeg) : Int32).toNatClampNeg) → Cv (m_X12_goHome (d + 2) 0 0) [.ref 1, .int x1] h (fun h97 => Wf h97 ∧ (K h97))))))))) : Cv (m_X12_goOn (d + 3) 0 0) [.ref 1, .int x1] h K := by
  refine Ct.of (fun _ _ _ => trivial) rfl (Nat.le_of_ble_eq_true rfl) ?_
  show AW (m_X12_goOn (d + 3) 0 0) 0 0 0 [(0, .ref 1), (1, .int x1)] [] h (kV K)
  refine aw_aload_n (i := 0) rfl d_X12_goOn_0 0 rfl ?_
  refine aw_getr (k0 := 12) kc_12 (ws_1 w) (Nat.le_of_ble_eq_true rfl) tw_1754 d_X12_goOn_1 rfl (wr_1_12 w) ?_
  refine aw_iload_n (i := 1) rfl d_X12_goOn_4 1 rfl ?_
  obtain ⟨b1, k⟩ := k
  refine aw_iald (ws_208 w) b1 d_X12_goOn_5 ?_
  refine aw_iconst (v := 1) d_X12_goOn_6 ic_1 ?_
  refine aw_icmp_ne (tgt := 210) d_X12_goOn_7 rfl (fun c2 => ?_) (fun c2 => ?_)
  · have k := k.1 c2
    exact aw_vret rfl d_X12_goOn_210 ⟨Nat.le_refl _, Nat.le_refl _⟩ ⟨rfl, k⟩
  · have k := k.2 c2
    refine aw_aload_n (i := 0) rfl d_X12_goOn_10 0 rfl ?_
    refine aw_getr (k0 := 17) kc_12 (ws_1 w) (Nat.le_of_ble_eq_true rfl) tw_1759 d_X12_goOn_11 rfl (wr_1_17 w) ?_
    refine aw_iload_n (i := 1) rfl d_X12_goOn_14 1 rfl ?_
    obtain ⟨b3, k⟩ := k
    refine aw_iald (ws_213 w) b3 d_X12_goOn_15 ?_
    refine aw_aload_n (i := 0) rfl d_X12_goOn_16 0 rfl ?_
    refine aw_getr (k0 := 38) kc_12 (ws_1 w) (Nat.le_of_ble_eq_true rfl) tw_1780 d_X12_goOn_17 rfl (wr_1_38 w) ?_
    refine aw_aload_n (i := 0) rfl d_X12_goOn_20 0 rfl ?_
    refine aw_getr (k0 := 16) kc_12 (ws_1 w) (Nat.le_of_ble_eq_true rfl) tw_1758 d_X12_goOn_21 rfl (wr_1_16 w) ?_
    refine aw_iload_n (i := 1) rfl d_X12_goOn_24 1 rfl ?_
    obtain ⟨b4, k⟩ := k
    refine aw_iald (ws_212 w) b4 d_X12_goOn_25 ?_
    obtain ⟨b5, k⟩ := k
    refine aw_iald (ws_227 w) b5 d_X12_goOn_26 ?_
    refine aw_icmp_ne (tgt := 36) d_X12_goOn_27 rfl (fun c6 => ?_) (fun c6 => ?_)
    · have k := k.1 c6
      refine aw_sipush (v := 150) d_X12_goOn_36 is_150 ?_
      refine aw_aload_n (i := 0) rfl d_X12_goOn_39 0 rfl ?_
      refine aw_getr (k0 := 16) kc_12 (ws_1 w) (Nat.le_of_ble_eq_true rfl) tw_1758 d_X12_goOn_40 rfl (wr_1_16 w) ?_
      refine aw_iload_n (i := 1) rfl d_X12_goOn_43 1 rfl ?_
      obtain ⟨b7, k⟩ := k
      refine aw_iald (ws_212 w) b7 d_X12_goOn_44 ?_
      refine aw_imul d_X12_goOn_45 ?_
      refine aw_aload_n (i := 0) rfl d_X12_goOn_46 0 rfl ?_
      refine aw_getr (k0 := 17) kc_12 (ws_1 w) (Nat.le_of_ble_eq_true rfl) tw_1759 d_X12_goOn_47 rfl (wr_1_17 w) ?_
      refine aw_iload_n (i := 1) rfl d_X12_goOn_50 1 rfl ?_
      obtain ⟨b8, k⟩ := k
      refine aw_iald (ws_213 w) b8 d_X12_goOn_51 ?_
      refine aw_iadd d_X12_goOn_52 ?_
      refine aw_istore_n (i := 2) rfl [(0, .ref 1), (1, .int x1), (2, .int ((150 * (h_i h 212 x1.toNatClampNeg)) + (h_i h 213 x1.toNatClampNeg)))] d_X12_goOn_53 (Nat.le_of_ble_eq_true rfl) rfl rfl ?_
      refine aw_aload_n (i := 0) rfl d_X12_goOn_54 0 rfl ?_
      refine aw_getr (k0 := 39) kc_12 (ws_1 w) (Nat.le_of_ble_eq_true rfl) tw_1781 d_X12_goOn_55 rfl (wr_1_39 w) ?_
      refine aw_iload_n (i := 2) rfl d_X12_goOn_58 2 rfl ?_
      obtain ⟨b9, k⟩ := k
      refine aw_iald (ws_228 w) b9 d_X12_goOn_59 ?_
      refine aw_istore_n (i := 3) rfl [(0, .ref 1), (1, .int x1), (2, .int ((150 * (h_i h 212 x1.toNatClampNeg)) + (h_i h 213 x1.toNatClampNeg))), (3, .int (h_i h 228 (((150 * (h_i h 212 x1.toNatClampNeg)) + (h_i h 213 x1.toNatClampNeg)) : Int32).toNatClampNeg))] d_X12_goOn_60 (Nat.le_of_ble_eq_true rfl) rfl rfl ?_
      refine aw_aload_n (i := 0) rfl d_X12_goOn_61 0 rfl ?_
      refine aw_getr (k0 := 15) kc_12 (ws_1 w) (Nat.le_of_ble_eq_true rfl) tw_1757 d_X12_goOn_62 rfl (wr_1_15 w) ?_
      refine aw_iload_n (i := 1) rfl d_X12_goOn_65 1 rfl ?_
      refine aw_iconst (v := (-1)) d_X12_goOn_66 ic_m1 ?_
      obtain ⟨b10, k⟩ := k
      refine aw_iast (ws_211 w) b10 d_X12_goOn_67 ?_
      refine aw_iload_n (i := 3) rfl d_X12_goOn_68 3 rfl ?_
      refine aw_if_eq (tgt := 77) d_X12_goOn_69 rfl (fun c11 => ?_) (fun c11 => ?_)
      · have k := k.1 c11
        refine aw_aload_n (i := 0) rfl d_X12_goOn_77 0 rfl ?_
        refine aw_aload_n (i := 0) rfl d_X12_goOn_78 0 rfl ?_
        refine aw_getr (k0 := 13) kc_12 (ws_1 w) (Nat.le_of_ble_eq_true rfl) tw_1755 d_X12_goOn_79 rfl (wr_1_13 w) ?_
        refine aw_iload_n (i := 1) rfl d_X12_goOn_82 1 rfl ?_
        obtain ⟨b12, k⟩ := k
        refine aw_iald (ws_209 w) b12 d_X12_goOn_83 ?_
        refine aw_vi (v2 := (h_i h 209 x1.toNatClampNeg)) (rfl) ?_
        refine aw_aload_n (i := 0) rfl d_X12_goOn_84 0 rfl ?_
        refine aw_getr (k0 := 40) kc_12 (ws_1 w) (Nat.le_of_ble_eq_true rfl) tw_1782 d_X12_goOn_85 rfl (wr_1_40 w) ?_
        refine aw_iload_n (i := 2) rfl d_X12_goOn_88 2 rfl ?_
        obtain ⟨b13, k⟩ := k
        refine aw_iald (ws_229 w) b13 d_X12_goOn_89 ?_
        refine aw_vi (v2 := (h_i h 229 (((150 * (h_i h 212 x1.toNatClampNeg)) + (h_i h 213 x1.toNatClampNeg)) : Int32).toNatClampNeg)) (rfl) ?_
        refine aw_Vi 1 [.int (h_i h 209 x1.toNatClampNeg), .int (h_i h 229 (((150 * (h_i h 212 x1.toNatClampNeg)) + (h_i h 213 x1.toNatClampNeg)) : Int32).toNatClampNeg)] [] d_X12_goOn_90 (cV_X12_walkOf (d + 0) 0 0) kc_12 (ws_1 w) tw_2154 rfl (rr0 (Nat.le_of_ble_eq_true rfl) (Nat.le_of_ble_eq_true rfl)) (Nat.le_of_ble_eq_true rfl) xs0 k (fun r16 h14 kk => ?_)
        obtain ⟨w15, k⟩ := kk
        refine aw_istore [(0, .ref 1), (1, .int x1), (2, .int ((150 * (h_i h 212 x1.toNatClampNeg)) + (h_i h 213 x1.toNatClampNeg))), (3, .int (h_i h 228 (((150 * (h_i h 212 x1.toNatClampNeg)) + (h_i h 213 x1.toNatClampNeg)) : Int32).toNatClampNeg)), (4, .int r16)] d_X12_goOn_93 (Nat.le_of_ble_eq_true rfl) rfl rfl ?_
        refine aw_iload d_X12_goOn_95 4 rfl ?_
        refine aw_if_le (tgt := 112) d_X12_goOn_97 rfl (fun c17 => ?_) (fun c17 => ?_)
        · have k := k.1 c17
          refine aw_iload_n (i := 3) rfl d_X12_goOn_112 3 rfl ?_
          refine aw_iconst (v := 2) d_X12_goOn_113 ic_2 ?_
          refine aw_icmp_ne (tgt := 147) d_X12_goOn_114 rfl (fun c18 => ?_) (fun c18 => ?_)
          · have k := k.1 c18
            refine aw_iload_n (i := 3) rfl d_X12_goOn_147 3 rfl ?_
            refine aw_iconst (v := 2) d_X12_goOn_148 ic_2 ?_
            refine aw_icmp_ne (tgt := 167) d_X12_goOn_149 rfl (fun c19 => ?_) (fun c19 => ?_)
            · have k := k.1 c19
              refine aw_goto (tgt := 197) d_X12_goOn_167 rfl ?_
              refine aw_aload_n (i := 0) rfl d_X12_goOn_197 0 rfl ?_
              refine aw_getr (k0 := 17) kc_12 (ws_1 w15) (Nat.le_of_ble_eq_true rfl) tw_1759 d_X12_goOn_198 rfl (wr_1_17 w15) ?_
              refine aw_iload_n (i := 1) rfl d_X12_goOn_201 1 rfl ?_
              refine aw_dup2 d_X12_goOn_202 ⟨rfl, rfl⟩ ?_
              obtain ⟨b20, k⟩ := k
              refine aw_iald (ws_213 w15) b20 d_X12_goOn_203 ?_
              refine aw_iconst (v := 1) d_X12_goOn_204 ic_1 ?_
              refine aw_iadd d_X12_goOn_205 ?_
              obtain ⟨b21, k⟩ := k
              refine aw_iast (ws_213 w15) b21 d_X12_goOn_206 ?_
              refine aw_goto (tgt := 0) d_X12_goOn_207 rfl ?_
              exact aw_lvp [0, 1] [(0, .ref 1), (1, .int x1)] rfl k
            · have k := k.2 c19
              refine aw_aload_n (i := 0) rfl d_X12_goOn_152 0 rfl ?_
              refine aw_iload_n (i := 1) rfl d_X12_goOn_153 1 rfl ?_
              refine aw_aload_n (i := 0) rfl d_X12_goOn_154 0 rfl ?_
              refine aw_getr (k0 := 41) kc_12 (ws_1 w15) (Nat.le_of_ble_eq_true rfl) tw_1783 d_X12_goOn_155 rfl (wr_1_41 w15) ?_
              refine aw_iload_n (i := 2) rfl d_X12_goOn_158 2 rfl ?_
              obtain ⟨b22, k⟩ := k
              refine aw_iald (ws_230 w15) b22 d_X12_goOn_159 ?_
              refine aw_Vi 1 [.int x1, .int (h_i h14 230 (((150 * (h_i h 212 x1.toNatClampNeg)) + (h_i h 213 x1.toNatClampNeg)) : Int32).toNatClampNeg)] [] d_X12_goOn_160 (cV_X12_comes (d + 1) 0 0) kc_12 (ws_1 w15) tw_2360 rfl (rr0 (Nat.le_of_ble_eq_true rfl) (Nat.le_of_ble_eq_true rfl)) (Nat.le_of_ble_eq_true rfl) xs0 k (fun r25 h23 kk => ?_)
              obtain ⟨w24, k⟩ := kk
              refine aw_if_eq (tgt := 167) d_X12_goOn_163 rfl (fun c26 => ?_) (fun c26 => ?_)
              · have k := k.1 c26
                refine aw_goto (tgt := 197) d_X12_goOn_167 rfl ?_
                refine aw_aload_n (i := 0) rfl d_X12_goOn_197 0 rfl ?_
                refine aw_getr (k0 := 17) kc_12 (ws_1 w24) (Nat.le_of_ble_eq_true rfl) tw_1759 d_X12_goOn_198 rfl (wr_1_17 w24) ?_
                refine aw_iload_n (i := 1) rfl d_X12_goOn_201 1 rfl ?_
                refine aw_dup2 d_X12_goOn_202 ⟨rfl, rfl⟩ ?_
                obtain ⟨b27, k⟩ := k
                refine aw_iald (ws_213 w24) b27 d_X12_goOn_203 ?_
                refine aw_iconst (v := 1) d_X12_goOn_204 ic_1 ?_
                refine aw_iadd d_X12_goOn_205 ?_
                obtain ⟨b28, k⟩ := k
                refine aw_iast (ws_213 w24) b28 d_X12_goOn_206 ?_
                refine aw_goto (tgt := 0) d_X12_goOn_207 rfl ?_
                exact aw_lvp [0, 1] [(0, .ref 1), (1, .int x1)] rfl k
              · have k := k.2 c26
                exact aw_vret rfl d_X12_goOn_166 ⟨Nat.le_refl _, Nat.le_refl _⟩ ⟨rfl, k⟩
          · have k := k.2 c18
            refine aw_iload d_X12_goOn_117 4 rfl ?_
            refine aw_iconst (v := (-1)) d_X12_goOn_119 ic_m1 ?_
            refine aw_icmp_ne (tgt := 147) d_X12_goOn_120 rfl (fun c29 => ?_) (fun c29 => ?_)
            · have k := k.1 c29
              refine aw_iload_n (i := 3) rfl d_X12_goOn_147 3 rfl ?_
              refine aw_iconst (v := 2) d_X12_goOn_148 ic_2 ?_
              refine aw_icmp_ne (tgt := 167) d_X12_goOn_149 rfl (fun c30 => ?_) (fun c30 => ?_)
              · have k := k.1 c30
                refine aw_goto (tgt := 197) d_X12_goOn_167 rfl ?_
                refine aw_aload_n (i := 0) rfl d_X12_goOn_197 0 rfl ?_
                refine aw_getr (k0 := 17) kc_12 (ws_1 w15) (Nat.le_of_ble_eq_true rfl) tw_1759 d_X12_goOn_198 rfl (wr_1_17 w15) ?_
                refine aw_iload_n (i := 1) rfl d_X12_goOn_201 1 rfl ?_
                refine aw_dup2 d_X12_goOn_202 ⟨rfl, rfl⟩ ?_
                obtain ⟨b31, k⟩ := k
                refine aw_iald (ws_213 w15) b31 d_X12_goOn_203 ?_
                refine aw_iconst (v := 1) d_X12_goOn_204 ic_1 ?_
                refine aw_iadd d_X12_goOn_205 ?_
                obtain ⟨b32, k⟩ := k
                refine aw_iast (ws_213 w15) b32 d_X12_goOn_206 ?_
                refine aw_goto (tgt := 0) d_X12_goOn_207 rfl ?_
                exact aw_lvp [0, 1] [(0, .ref 1), (1, .int x1)] rfl k
              · have k := k.2 c30
                refine aw_aload_n (i := 0) rfl d_X12_goOn_152 0 rfl ?_
                refine aw_iload_n (i := 1) rfl d_X12_goOn_153 1 rfl ?_
                refine aw_aload_n (i := 0) rfl d_X12_goOn_154 0 rfl ?_
                refine aw_getr (k0 := 41) kc_12 (ws_1 w15) (Nat.le_of_ble_eq_true rfl) tw_1783 d_X12_goOn_155 rfl (wr_1_41 w15) ?_
                refine aw_iload_n (i := 2) rfl d_X12_goOn_158 2 rfl ?_
                obtain ⟨b33, k⟩ := k
                refine aw_iald (ws_230 w15) b33 d_X12_goOn_159 ?_
                refine aw_Vi 1 [.int x1, .int (h_i h14 230 (((150 * (h_i h 212 x1.toNatClampNeg)) + (h_i h 213 x1.toNatClampNeg)) : Int32).toNatClampNeg)] [] d_X12_goOn_160 (cV_X12_comes (d + 1) 0 0) kc_12 (ws_1 w15) tw_2360 rfl (rr0 (Nat.le_of_ble_eq_true rfl) (Nat.le_of_ble_eq_true rfl)) (Nat.le_of_ble_eq_true rfl) xs0 k (fun r36 h34 kk => ?_)
                obtain ⟨w35, k⟩ := kk
                refine aw_if_eq (tgt := 167) d_X12_goOn_163 rfl (fun c37 => ?_) (fun c37 => ?_)
                · have k := k.1 c37
                  refine aw_goto (tgt := 197) d_X12_goOn_167 rfl ?_
                  refine aw_aload_n (i := 0) rfl d_X12_goOn_197 0 rfl ?_
                  refine aw_getr (k0 := 17) kc_12 (ws_1 w35) (Nat.le_of_ble_eq_true rfl) tw_1759 d_X12_goOn_198 rfl (wr_1_17 w35) ?_
                  refine aw_iload_n (i := 1) rfl d_X12_goOn_201 1 rfl ?_
                  refine aw_dup2 d_X12_goOn_202 ⟨rfl, rfl⟩ ?_
                  obtain ⟨b38, k⟩ := k
                  refine aw_iald (ws_213 w35) b38 d_X12_goOn_203 ?_
                  refine aw_iconst (v := 1) d_X12_goOn_204 ic_1 ?_
                  refine aw_iadd d_X12_goOn_205 ?_
                  obtain ⟨b39, k⟩ := k
                  refine aw_iast (ws_213 w35) b39 d_X12_goOn_206 ?_
                  refine aw_goto (tgt := 0) d_X12_goOn_207 rfl ?_
                  exact aw_lvp [0, 1] [(0, .ref 1), (1, .int x1)] rfl k
                · have k := k.2 c37
                  exact aw_vret rfl d_X12_goOn_166 ⟨Nat.le_refl _, Nat.le_refl _⟩ ⟨rfl, k⟩
            · have k := k.2 c29
              refine aw_aload_n (i := 0) rfl d_X12_goOn_123 0 rfl ?_
              refine aw_aload_n (i := 0) rfl d_X12_goOn_124 0 rfl ?_
              refine aw_getr (k0 := 20) kc_12 (ws_1 w15) (Nat.le_of_ble_eq_true rfl) tw_1762 d_X12_goOn_125 rfl (wr_1_20 w15) ?_
              refine aw_iload_n (i := 1) rfl d_X12_goOn_128 1 rfl ?_
              obtain ⟨b40, k⟩ := k
              refine aw_iald (ws_216 w15) b40 d_X12_goOn_129 ?_
              refine aw_iconst (v := 2) d_X12_goOn_130 ic_2 ?_
              refine aw_Vv 1 [.int (h_i h14 216 x1.toNatClampNeg), .int 2] [] d_X12_goOn_131 (cV_X12_miss (d + 0) 0 0) kc_12 (ws_1 w15) tw_2356 rfl (rr0 (Nat.le_of_ble_eq_true rfl) (Nat.le_of_ble_eq_true rfl)) (Nat.le_of_ble_eq_true rfl) xs0 k (fun h41 kk => ?_)
              obtain ⟨w42, k⟩ := kk
              refine aw_aload_n (i := 0) rfl d_X12_goOn_134 0 rfl ?_
              refine aw_getr (k0 := 20) kc_12 (ws_1 w42) (Nat.le_of_ble_eq_true rfl) tw_1762 d_X12_goOn_135 rfl (wr_1_20 w42) ?_
              refine aw_iload_n (i := 1) rfl d_X12_goOn_138 1 rfl ?_
              refine aw_dup2 d_X12_goOn_139 ⟨rfl, rfl⟩ ?_
              obtain ⟨b44, k⟩ := k
              refine aw_iald (ws_216 w42) b44 d_X12_goOn_140 ?_
              refine aw_iconst (v := 1) d_X12_goOn_141 ic_1 ?_
              refine aw_iadd d_X12_goOn_142 ?_
              obtain ⟨b45, k⟩ := k
              refine aw_iast (ws_216 w42) b45 d_X12_goOn_143 ?_
              refine aw_goto (tgt := 167) d_X12_goOn_144 rfl ?_
              refine aw_goto (tgt := 197) d_X12_goOn_167 rfl ?_
              refine aw_aload_n (i := 0) rfl d_X12_goOn_197 0 rfl ?_
              refine aw_getr (k0 := 17) kc_12 (ws_1 w42) (Nat.le_of_ble_eq_true rfl) tw_1759 d_X12_goOn_198 rfl (wr_1_17 w42) ?_
              refine aw_iload_n (i := 1) rfl d_X12_goOn_201 1 rfl ?_
              refine aw_dup2 d_X12_goOn_202 ⟨rfl, rfl⟩ ?_
              obtain ⟨b46, k⟩ := k
              refine aw_iald (ws_213 w42) b46 d_X12_goOn_203 ?_
              refine aw_vi (v2 := (h_i h41 213 x1.toNatClampNeg)) (rfl) ?_
              refine aw_iconst (v := 1) d_X12_goOn_204 ic_1 ?_
              refine aw_iadd d_X12_goOn_205 ?_
              obtain ⟨b47, k⟩ := k
              refine aw_iast (ws_213 w42) b47 d_X12_goOn_206 ?_
              refine aw_goto (tgt := 0) d_X12_goOn_207 rfl ?_
              exact aw_lvp [0, 1] [(0, .ref 1), (1, .int x1)] rfl k
        · have k := k.2 c17
          refine aw_aload_n (i := 0) rfl d_X12_goOn_100 0 rfl ?_
          refine aw_iload_n (i := 1) rfl d_X12_goOn_101 1 rfl ?_
          refine aw_aload_n (i := 0) rfl d_X12_goOn_102 0 rfl ?_
          refine aw_getr (k0 := 40) kc_12 (ws_1 w15) (Nat.le_of_ble_eq_true rfl) tw_1782 d_X12_goOn_103 rfl (wr_1_40 w15) ?_
          refine aw_iload_n (i := 2) rfl d_X12_goOn_106 2 rfl ?_
          obtain ⟨b48, k⟩ := k
          refine aw_iald (ws_229 w15) b48 d_X12_goOn_107 ?_
          refine aw_Vv 1 [.int x1, .int (h_i h14 229 (((150 * (h_i h 212 x1.toNatClampNeg)) + (h_i h 213 x1.toNatClampNeg)) : Int32).toNatClampNeg)] [] d_X12_goOn_108 (cV_X12_setOut (d + 1) 0 0) kc_12 (ws_1 w15) tw_2352 rfl (rr0 (Nat.le_of_ble_eq_true rfl) (Nat.le_of_ble_eq_true rfl)) (Nat.le_of_ble_eq_true rfl) xs0 k (fun h49 kk => ?_)
          obtain ⟨w50, k⟩ := kk
          exact aw_vret rfl d_X12_goOn_111 ⟨Nat.le_refl _, Nat.le_refl _⟩ ⟨rfl, k⟩
      · have k := k.2 c11
        refine aw_iload_n (i := 3) rfl d_X12_goOn_72 3 rfl ?_
        refine aw_iconst (v := 2) d_X12_goOn_73 ic_2 ?_
        refine aw_icmp_ne (tgt := 170) d_X12_goOn_74 rfl (fun c52 => ?_) (fun c52 => ?_)
        · have k := k.1 c52
          refine aw_aload_n (i := 0) rfl d_X12_goOn_170 0 rfl ?_
          refine aw_getr (k0 := 15) kc_12 (ws_1 w) (Nat.le_of_ble_eq_true rfl) tw_1757 d_X12_goOn_171 rfl (wr_1_15 w) ?_
          refine aw_iload_n (i := 1) rfl d_X12_goOn_174 1 rfl ?_
          refine aw_aload_n (i := 0) rfl d_X12_goOn_175 0 rfl ?_
          refine aw_geti (k0 := 0) kc_12 (ws_1 w) (Nat.le_of_ble_eq_true rfl) tw_1742 d_X12_goOn_176 rfl ?_
          refine aw_vi (v2 := (h_i h 1 0)) (rfl) ?_
          refine aw_iload_n (i := 3) rfl d_X12_goOn_179 3 rfl ?_
          refine aw_iconst (v := 1) d_X12_goOn_180 ic_1 ?_
          refine aw_icmp_ne (tgt := 193) d_X12_goOn_181 rfl (fun c53 => ?_) (fun c53 => ?_)
          · have k := k.1 c53
            refine aw_iconst (v := 1) d_X12_goOn_193 ic_1 ?_
            refine aw_iadd d_X12_goOn_194 ?_
            obtain ⟨b54, k⟩ := k
            refine aw_iast (ws_211 w) b54 d_X12_goOn_195 ?_
            exact aw_vret rfl d_X12_goOn_196 ⟨Nat.le_refl _, Nat.le_refl _⟩ ⟨rfl, k⟩
          · have k := k.2 c53
            refine aw_aload_n (i := 0) rfl d_X12_goOn_184 0 rfl ?_
            refine aw_getr (k0 := 40) kc_12 (ws_1 w) (Nat.le_of_ble_eq_true rfl) tw_1782 d_X12_goOn_185 rfl (wr_1_40 w) ?_
            refine aw_iload_n (i := 2) rfl d_X12_goOn_188 2 rfl ?_
            obtain ⟨b55, k⟩ := k
            refine aw_iald (ws_229 w) b55 d_X12_goOn_189 ?_
            refine aw_vi (v2 := (h_i h 229 (((150 * (h_i h 212 x1.toNatClampNeg)) + (h_i h 213 x1.toNatClampNeg)) : Int32).toNatClampNeg)) (rfl) ?_
            refine aw_goto (tgt := 194) d_X12_goOn_190 rfl ?_
            refine aw_iadd d_X12_goOn_194 ?_
            obtain ⟨b56, k⟩ := k
            refine aw_iast (ws_211 w) b56 d_X12_goOn_195 ?_
            exact aw_vret rfl d_X12_goOn_196 ⟨Nat.le_refl _, Nat.le_refl _⟩ ⟨rfl, k⟩
        · have k := k.2 c52
          refine aw_aload_n (i := 0) rfl d_X12_goOn_77 0 rfl ?_
          refine aw_aload_n (i := 0) rfl d_X12_goOn_78 0 rfl ?_
          refine aw_getr (k0 := 13) kc_12 (ws_1 w) (Nat.le_of_ble_eq_true rfl) tw_1755 d_X12_goOn_79 rfl (wr_1_13 w) ?_
          refine aw_iload_n (i := 1) rfl d_X12_goOn_82 1 rfl ?_
          obtain ⟨b57, k⟩ := k
          refine aw_iald (ws_209 w) b57 d_X12_goOn_83 ?_
          refine aw_vi (v2 := (h_i h 209 x1.toNatClampNeg)) (rfl) ?_
          refine aw_aload_n (i := 0) rfl d_X12_goOn_84 0 rfl ?_
          refine aw_getr (k0 := 40) kc_12 (ws_1 w) (Nat.le_of_ble_eq_true rfl) tw_1782 d_X12_goOn_85 rfl (wr_1_40 w) ?_
          refine aw_iload_n (i := 2) rfl d_X12_goOn_88 2 rfl ?_
          obtain ⟨b58, k⟩ := k
          refine aw_iald (ws_229 w) b58 d_X12_goOn_89 ?_
          refine aw_vi (v2 := (h_i h 229 (((150 * (h_i h 212 x1.toNatClampNeg)) + (h_i h 213 x1.toNatClampNeg)) : Int32).toNatClampNeg)) (rfl) ?_
          refine aw_Vi 1 [.int (h_i h 209 x1.toNatClampNeg), .int (h_i h 229 (((150 * (h_i h 212 x1.toNatClampNeg)) + (h_i h 213 x1.toNatClampNeg)) : Int32).toNatClampNeg)] [] d_X12_goOn_90 (cV_X12_walkOf (d + 0) 0 0) kc_12 (ws_1 w) tw_2154 rfl (rr0 (Nat.le_of_ble_eq_true rfl) (Nat.le_of_ble_eq_true rfl)) (Nat.le_of_ble_eq_true rfl) xs0 k (fun r61 h59 kk => ?_)
          obtain ⟨w60, k⟩ := kk
          refine aw_istore [(0, .ref 1), (1, .int x1), (2, .int ((150 * (h_i h 212 x1.toNatClampNeg)) + (h_i h 213 x1.toNatClampNeg))), (3, .int (h_i h 228 (((150 * (h_i h 212 x1.toNatClampNeg)) + (h_i h 213 x1.toNatClampNeg)) : Int32).toNatClampNeg)), (4, .int r61)] d_X12_goOn_93 (Nat.le_of_ble_eq_true rfl) rfl rfl ?_
          refine aw_iload d_X12_goOn_95 4 rfl ?_
          refine aw_if_le (tgt := 112) d_X12_goOn_97 rfl (fun c62 => ?_) (fun c62 => ?_)
          · have k := k.1 c62
            refine aw_iload_n (i := 3) rfl d_X12_goOn_112 3 rfl ?_
            refine aw_iconst (v := 2) d_X12_goOn_113 ic_2 ?_
            refine aw_icmp_ne (tgt := 147) d_X12_goOn_114 rfl (fun c63 => ?_) (fun c63 => ?_)
            · have k := k.1 c63
              refine aw_iload_n (i := 3) rfl d_X12_goOn_147 3 rfl ?_
              refine aw_iconst (v := 2) d_X12_goOn_148 ic_2 ?_
              refine aw_icmp_ne (tgt := 167) d_X12_goOn_149 rfl (fun c64 => ?_) (fun c64 => ?_)
              · have k := k.1 c64
                refine aw_goto (tgt := 197) d_X12_goOn_167 rfl ?_
                refine aw_aload_n (i := 0) rfl d_X12_goOn_197 0 rfl ?_
                refine aw_getr (k0 := 17) kc_12 (ws_1 w60) (Nat.le_of_ble_eq_true rfl) tw_1759 d_X12_goOn_198 rfl (wr_1_17 w60) ?_
                refine aw_iload_n (i := 1) rfl d_X12_goOn_201 1 rfl ?_
                refine aw_dup2 d_X12_goOn_202 ⟨rfl, rfl⟩ ?_
                obtain ⟨b65, k⟩ := k
                refine aw_iald (ws_213 w60) b65 d_X12_goOn_203 ?_
                refine aw_iconst (v := 1) d_X12_goOn_204 ic_1 ?_
                refine aw_iadd d_X12_goOn_205 ?_
                obtain ⟨b66, k⟩ := k
                refine aw_iast (ws_213 w60) b66 d_X12_goOn_206 ?_
                refine aw_goto (tgt := 0) d_X12_goOn_207 rfl ?_
                exact aw_lvp [0, 1] [(0, .ref 1), (1, .int x1)] rfl k
              · have k := k.2 c64
                refine aw_aload_n (i := 0) rfl d_X12_goOn_152 0 rfl ?_
                refine aw_iload_n (i := 1) rfl d_X12_goOn_153 1 rfl ?_
                refine aw_aload_n (i := 0) rfl d_X12_goOn_154 0 rfl ?_
                refine aw_getr (k0 := 41) kc_12 (ws_1 w60) (Nat.le_of_ble_eq_true rfl) tw_1783 d_X12_goOn_155 rfl (wr_1_41 w60) ?_
                refine aw_iload_n (i := 2) rfl d_X12_goOn_158 2 rfl ?_
                obtain ⟨b67, k⟩ := k
                refine aw_iald (ws_230 w60) b67 d_X12_goOn_159 ?_
                refine aw_Vi 1 [.int x1, .int (h_i h59 230 (((150 * (h_i h 212 x1.toNatClampNeg)) + (h_i h 213 x1.toNatClampNeg)) : Int32).toNatClampNeg)] [] d_X12_goOn_160 (cV_X12_comes (d + 1) 0 0) kc_12 (ws_1 w60) tw_2360 rfl (rr0 (Nat.le_of_ble_eq_true rfl) (Nat.le_of_ble_eq_true rfl)) (Nat.le_of_ble_eq_true rfl) xs0 k (fun r70 h68 kk => ?_)
                obtain ⟨w69, k⟩ := kk
                refine aw_if_eq (tgt := 167) d_X12_goOn_163 rfl (fun c71 => ?_) (fun c71 => ?_)
                · have k := k.1 c71
                  refine aw_goto (tgt := 197) d_X12_goOn_167 rfl ?_
                  refine aw_aload_n (i := 0) rfl d_X12_goOn_197 0 rfl ?_
                  refine aw_getr (k0 := 17) kc_12 (ws_1 w69) (Nat.le_of_ble_eq_true rfl) tw_1759 d_X12_goOn_198 rfl (wr_1_17 w69) ?_
                  refine aw_iload_n (i := 1) rfl d_X12_goOn_201 1 rfl ?_
                  refine aw_dup2 d_X12_goOn_202 ⟨rfl, rfl⟩ ?_
                  obtain ⟨b72, k⟩ := k
                  refine aw_iald (ws_213 w69) b72 d_X12_goOn_203 ?_
                  refine aw_iconst (v := 1) d_X12_goOn_204 ic_1 ?_
                  refine aw_iadd d_X12_goOn_205 ?_
                  obtain ⟨b73, k⟩ := k
                  refine aw_iast (ws_213 w69) b73 d_X12_goOn_206 ?_
                  refine aw_goto (tgt := 0) d_X12_goOn_207 rfl ?_
                  exact aw_lvp [0, 1] [(0, .ref 1), (1, .int x1)] rfl k
                · have k := k.2 c71
                  exact aw_vret rfl d_X12_goOn_166 ⟨Nat.le_refl _, Nat.le_refl _⟩ ⟨rfl, k⟩
            · have k := k.2 c63
              refine aw_iload d_X12_goOn_117 4 rfl ?_
              refine aw_iconst (v := (-1)) d_X12_goOn_119 ic_m1 ?_
              refine aw_icmp_ne (tgt := 147) d_X12_goOn_120 rfl (fun c74 => ?_) (fun c74 => ?_)
              · have k := k.1 c74
                refine aw_iload_n (i := 3) rfl d_X12_goOn_147 3 rfl ?_
                refine aw_iconst (v := 2) d_X12_goOn_148 ic_2 ?_
                refine aw_icmp_ne (tgt := 167) d_X12_goOn_149 rfl (fun c75 => ?_) (fun c75 => ?_)
                · have k := k.1 c75
                  refine aw_goto (tgt := 197) d_X12_goOn_167 rfl ?_
                  refine aw_aload_n (i := 0) rfl d_X12_goOn_197 0 rfl ?_
                  refine aw_getr (k0 := 17) kc_12 (ws_1 w60) (Nat.le_of_ble_eq_true rfl) tw_1759 d_X12_goOn_198 rfl (wr_1_17 w60) ?_
                  refine aw_iload_n (i := 1) rfl d_X12_goOn_201 1 rfl ?_
                  refine aw_dup2 d_X12_goOn_202 ⟨rfl, rfl⟩ ?_
                  obtain ⟨b76, k⟩ := k
                  refine aw_iald (ws_213 w60) b76 d_X12_goOn_203 ?_
                  refine aw_iconst (v := 1) d_X12_goOn_204 ic_1 ?_
                  refine aw_iadd d_X12_goOn_205 ?_
                  obtain ⟨b77, k⟩ := k
                  refine aw_iast (ws_213 w60) b77 d_X12_goOn_206 ?_
                  refine aw_goto (tgt := 0) d_X12_goOn_207 rfl ?_
                  exact aw_lvp [0, 1] [(0, .ref 1), (1, .int x1)] rfl k
                · have k := k.2 c75
                  refine aw_aload_n (i := 0) rfl d_X12_goOn_152 0 rfl ?_
                  refine aw_iload_n (i := 1) rfl d_X12_goOn_153 1 rfl ?_
                  refine aw_aload_n (i := 0) rfl d_X12_goOn_154 0 rfl ?_
                  refine aw_getr (k0 := 41) kc_12 (ws_1 w60) (Nat.le_of_ble_eq_true rfl) tw_1783 d_X12_goOn_155 rfl (wr_1_41 w60) ?_
                  refine aw_iload_n (i := 2) rfl d_X12_goOn_158 2 rfl ?_
                  obtain ⟨b78, k⟩ := k
                  refine aw_iald (ws_230 w60) b78 d_X12_goOn_159 ?_
                  refine aw_Vi 1 [.int x1, .int (h_i h59 230 (((150 * (h_i h 212 x1.toNatClampNeg)) + (h_i h 213 x1.toNatClampNeg)) : Int32).toNatClampNeg)] [] d_X12_goOn_160 (cV_X12_comes (d + 1) 0 0) kc_12 (ws_1 w60) tw_2360 rfl (rr0 (Nat.le_of_ble_eq_true rfl) (Nat.le_of_ble_eq_true rfl)) (Nat.le_of_ble_eq_true rfl) xs0 k (fun r81 h79 kk => ?_)
                  obtain ⟨w80, k⟩ := kk
                  refine aw_if_eq (tgt := 167) d_X12_goOn_163 rfl (fun c82 => ?_) (fun c82 => ?_)
                  · have k := k.1 c82
                    refine aw_goto (tgt := 197) d_X12_goOn_167 rfl ?_
                    refine aw_aload_n (i := 0) rfl d_X12_goOn_197 0 rfl ?_
                    refine aw_getr (k0 := 17) kc_12 (ws_1 w80) (Nat.le_of_ble_eq_true rfl) tw_1759 d_X12_goOn_198 rfl (wr_1_17 w80) ?_
                    refine aw_iload_n (i := 1) rfl d_X12_goOn_201 1 rfl ?_
                    refine aw_dup2 d_X12_goOn_202 ⟨rfl, rfl⟩ ?_
                    obtain ⟨b83, k⟩ := k
                    refine aw_iald (ws_213 w80) b83 d_X12_goOn_203 ?_
                    refine aw_iconst (v := 1) d_X12_goOn_204 ic_1 ?_
                    refine aw_iadd d_X12_goOn_205 ?_
                    obtain ⟨b84, k⟩ := k
                    refine aw_iast (ws_213 w80) b84 d_X12_goOn_206 ?_
                    refine aw_goto (tgt := 0) d_X12_goOn_207 rfl ?_
                    exact aw_lvp [0, 1] [(0, .ref 1), (1, .int x1)] rfl k
                  · have k := k.2 c82
                    exact aw_vret rfl d_X12_goOn_166 ⟨Nat.le_refl _, Nat.le_refl _⟩ ⟨rfl, k⟩
              · have k := k.2 c74
                refine aw_aload_n (i := 0) rfl d_X12_goOn_123 0 rfl ?_
                refine aw_aload_n (i := 0) rfl d_X12_goOn_124 0 rfl ?_
                refine aw_getr (k0 := 20) kc_12 (ws_1 w60) (Nat.le_of_ble_eq_true rfl) tw_1762 d_X12_goOn_125 rfl (wr_1_20 w60) ?_
                refine aw_iload_n (i := 1) rfl d_X12_goOn_128 1 rfl ?_
                obtain ⟨b85, k⟩ := k
                refine aw_iald (ws_216 w60) b85 d_X12_goOn_129 ?_
                refine aw_iconst (v := 2) d_X12_goOn_130 ic_2 ?_
                refine aw_Vv 1 [.int (h_i h59 216 x1.toNatClampNeg), .int 2] [] d_X12_goOn_131 (cV_X12_miss (d + 0) 0 0) kc_12 (ws_1 w60) tw_2356 rfl (rr0 (Nat.le_of_ble_eq_true rfl) (Nat.le_of_ble_eq_true rfl)) (Nat.le_of_ble_eq_true rfl) xs0 k (fun h86 kk => ?_)
                obtain ⟨w87, k⟩ := kk
                refine aw_aload_n (i := 0) rfl d_X12_goOn_134 0 rfl ?_
                refine aw_getr (k0 := 20) kc_12 (ws_1 w87) (Nat.le_of_ble_eq_true rfl) tw_1762 d_X12_goOn_135 rfl (wr_1_20 w87) ?_
                refine aw_iload_n (i := 1) rfl d_X12_goOn_138 1 rfl ?_
                refine aw_dup2 d_X12_goOn_139 ⟨rfl, rfl⟩ ?_
                obtain ⟨b89, k⟩ := k
                refine aw_iald (ws_216 w87) b89 d_X12_goOn_140 ?_
                refine aw_iconst (v := 1) d_X12_goOn_141 ic_1 ?_
                refine aw_iadd d_X12_goOn_142 ?_
                obtain ⟨b90, k⟩ := k
                refine aw_iast (ws_216 w87) b90 d_X12_goOn_143 ?_
                refine aw_goto (tgt := 167) d_X12_goOn_144 rfl ?_
                refine aw_goto (tgt := 197) d_X12_goOn_167 rfl ?_
                refine aw_aload_n (i := 0) rfl d_X12_goOn_197 0 rfl ?_
                refine aw_getr (k0 := 17) kc_12 (ws_1 w87) (Nat.le_of_ble_eq_true rfl) tw_1759 d_X12_goOn_198 rfl (wr_1_17 w87) ?_
                refine aw_iload_n (i := 1) rfl d_X12_goOn_201 1 rfl ?_
                refine aw_dup2 d_X12_goOn_202 ⟨rfl, rfl⟩ ?_
                obtain ⟨b91, k⟩ := k
                refine aw_iald (ws_213 w87) b91 d_X12_goOn_203 ?_
                refine aw_vi (v2 := (h_i h86 213 x1.toNatClampNeg)) (rfl) ?_
                refine aw_iconst (v := 1) d_X12_goOn_204 ic_1 ?_
                refine aw_iadd d_X12_goOn_205 ?_
                obtain ⟨b92, k⟩ := k
                refine aw_iast (ws_213 w87) b92 d_X12_goOn_206 ?_
                refine aw_goto (tgt := 0) d_X12_goOn_207 rfl ?_
                exact aw_lvp [0, 1] [(0, .ref 1), (1, .int x1)] rfl k
          · have k := k.2 c62
            refine aw_aload_n (i := 0) rfl d_X12_goOn_100 0 rfl ?_
            refine aw_iload_n (i := 1) rfl d_X12_goOn_101 1 rfl ?_
            refine aw_aload_n (i := 0) rfl d_X12_goOn_102 0 rfl ?_
            refine aw_getr (k0 := 40) kc_12 (ws_1 w60) (Nat.le_of_ble_eq_true rfl) tw_1782 d_X12_goOn_103 rfl (wr_1_40 w60) ?_
            refine aw_iload_n (i := 2) rfl d_X12_goOn_106 2 rfl ?_
            obtain ⟨b93, k⟩ := k
            refine aw_iald (ws_229 w60) b93 d_X12_goOn_107 ?_
            refine aw_Vv 1 [.int x1, .int (h_i h59 229 (((150 * (h_i h 212 x1.toNatClampNeg)) + (h_i h 213 x1.toNatClampNeg)) : Int32).toNatClampNeg)] [] d_X12_goOn_108 (cV_X12_setOut (d + 1) 0 0) kc_12 (ws_1 w60) tw_2352 rfl (rr0 (Nat.le_of_ble_eq_true rfl) (Nat.le_of_ble_eq_true rfl)) (Nat.le_of_ble_eq_true rfl) xs0 k (fun h94 kk => ?_)
            obtain ⟨w95, k⟩ := kk
            exact aw_vret rfl d_X12_goOn_111 ⟨Nat.le_refl _, Nat.le_refl _⟩ ⟨rfl, k⟩
    · have k := k.2 c6
      refine aw_aload_n (i := 0) rfl d_X12_goOn_30 0 rfl ?_
      refine aw_iload_n (i := 1) rfl d_X12_goOn_31 1 rfl ?_
      refine aw_Vv 1 [.int x1] [] d_X12_goOn_32 (cV_X12_goHome (d + 2) 0 0) kc_12 (ws_1 w) tw_2344 rfl (rr0 (Nat.le_of_ble_eq_true rfl) (Nat.le_of_ble_eq_true rfl)) (Nat.le_of_ble_eq_true rfl) xs0 k (fun h97 kk => ?_)
      obtain ⟨w98, k⟩ := kk
      exact aw_vret rfl d_X12_goOn_35 ⟨Nat.le_refl _, Nat.le_refl _⟩ ⟨rfl, k⟩
theorem t_X12_goOn_0 (d : Nat) (h : Hp_) (w : Wf h) (x1 : Int32) (K : Hp_ → Prop) (k : vp_in x1 12 ∧ ((¬ (h_i h 208 x1.toNatClampNeg) = 1 → K h) ∧ ((h_i h 208 x1.toNatClampNeg) = 1 → vp_in x1 12 ∧ (vp_in x1 12 ∧ (vp_in (h_i h 212 x1.toNatClampNeg) 12 ∧ ((¬ (h_i h 213 x1.toNatClampNeg) = (h_i h 227 ((h_i h 212 x1.toNatClampNeg) : Int32).toNatClampNeg) → vp_in x1 12 ∧ (vp_in x1 12 ∧ (vp_in ((150 * (h_i h 212 x1.toNatClampNeg)) + (h_i h 213 x1.toNatClampNeg)) 1800 ∧ (vp_in x1 12 ∧ (((h_i h 228 (((150 * (h_i h 212 x1.toNatClampNeg)) + (h_i h 213 x1.toNatClampNeg)) : Int32).toNatClampNeg) = 0 → vp_in x1 12 ∧ (vp_in ((150 * (h_i h 212 x1.toNatClampNeg)) + (h_i h 213 x1.toNatClampNeg)) 1800 ∧ (Ci (m_X12_walkOf (d + 0) 0 0) [.ref 1, .int (h_i h 209 x1.toNatClampNeg), .int (h_i h 229 (((150 * (h_i h 212 x1.toNatClampNeg)) + (h_i h 213 x1.toNatClampNeg)) : Int32).toNatClampNeg)] (h_im h 211 x1.toNatClampNeg (-1)) (fun r115 h113 => Wf h113 ∧ ((r115 ≤ 0 → (¬ (h_i h 228 (((150 * (h_i h 212 x1.toNatClampNeg)) + (h_i h 213 x1.toNatClampNeg)) : Int32).toNatClampNeg) = 2 → (¬ (h_i h 228 (((150 * (h_i h 212 x1.toNatClampNeg)) + (h_i h 213 x1.toNatClampNeg)) : Int32).toNatClampNeg) = 2 → vp_in x1 12 ∧ (vp_in x1 12 ∧ (AW (m_X12_goOn (d + 3) 0 0) 0 0 0 [(0, .ref 1), (1, .int x1)] [] (h_im h113 213 x1.toNatClampNeg ((h_i h113 213 x1.toNatClampNeg) + 1)) (kV K)))) ∧ ((h_i h 228 (((150 * (h_i h 212 x1.toNatClampNeg)) + (h_i h 213 x1.toNatClampNeg)) : Int32).toNatClampNeg) = 2 → vp_in ((150 * (h_i h 212 x1.toNatClampNeg)) + (h_i h 213 x1.toNatClampNeg)) 1800 ∧ (Ci (m_X12_comes (d + 1) 0 0) [.ref 1, .int x1, .int (h_i h113 230 (((150 * (h_i h 212 x1.toNatClampNeg)) + (h_i h 213 x1.toNatClampNeg)) : Int32).toNatClampNeg)] h113 (fun r124 h122 => Wf h122 ∧ ((r124 = 0 → vp_in x1 12 ∧ (vp_in x1 12 ∧ (AW (m_X12_goOn (d + 3) 0 0) 0 0 0 [(0, .ref 1), (1, .int x1)] [] (h_im h122 213 x1.toNatClampNeg ((h_i h122 213 x1.toNatClampNeg) + 1)) (kV K)))) ∧ (¬ r124 = 0 → K h122)))))) ∧ ((h_i h 228 (((150 * (h_i h 212 x1.toNatClampNeg)) + (h_i h 213 x1.toNatClampNeg)) : Int32).toNatClampNeg) = 2 → (¬ r115 = (-1) → (¬ (h_i h 228 (((150 * (h_i h 212 x1.toNatClampNeg)) + (h_i h 213 x1.toNatClampNeg)) : Int32).toNatClampNeg) = 2 → vp_in x1 12 ∧ (vp_in x1 12 ∧ (AW (m_X12_goOn (d + 3) 0 0) 0 0 0 [(0, .ref 1), (1, .int x1)] [] (h_im h113 213 x1.toNatClampNeg ((h_i h113 213 x1.toNatClampNeg) + 1)) (kV K)))) ∧ ((h_i h 228 (((150 * (h_i h 212 x1.toNatClampNeg)) + (h_i h 213 x1.toNatClampNeg)) : Int32).toNatClampNeg) = 2 → vp_in ((150 * (h_i h 212 x1.toNatClampNeg)) + (h_i h 213 x1.toNatClampNeg)) 1800 ∧ (Ci (m_X12_comes (d + 1) 0 0) [.ref 1, .int x1, .int (h_i h113 230 (((150 * (h_i h 212 x1.toNatClampNeg)) + (h_i h 213 x1.toNatClampNeg)) : Int32).toNatClampNeg)] h113 (fun r135 h133 => Wf h133 ∧ ((r135 = 0 → vp_in x1 12 ∧ (vp_in x1 12 ∧ (AW (m_X12_goOn (d + 3) 0 0) 0 0 0 [(0, .ref 1), (1, .int x1)] [] (h_im h133 213 x1.toNatClampNeg ((h_i h133 213 x1.toNatClampNeg) + 1)) (kV K)))) ∧ (¬ r135 = 0 → K h133)))))) ∧ (r115 = (-1) → vp_in x1 12 ∧ (Cv (m_X12_miss (d + 0) 0 0) [.ref 1, .int (h_i h113 216 x1.toNatClampNeg), .int 2] h113 (fun h140 => Wf h140 ∧ (vp_in x1 12 ∧ (vp_in x1 12 ∧ (vp_in x1 12 ∧ (vp_in x1 12 ∧ (AW (m_X12_goOn (d + 3) 0 0) 0 0 0 [(0, .ref 1), (1, .int x1)] [] (h_im (h_im h140 216 x1.toNatClampNeg ((h_i h140 216 x1.toNatClampNeg) + 1)) 213 x1.toNatClampNeg ((h_i h140 213 x1.toNatClampNeg) + 1)) (kV K))))))))))) ∧ (¬ r115 ≤ 0 → vp_in ((150 * (h_i h 212 x1.toNatClampNeg)) + (h_i h 213 x1.toNatClampNeg)) 1800 ∧ (Cv (m_X12_setOut (d + 1) 0 0) [.ref 1, .int x1, .int (h_i h113 229 (((150 * (h_i h 212 x1.toNatClampNeg)) + (h_i h 213 x1.toNatClampNeg)) : Int32).toNatClampNeg)] h113 (fun h148 => Wf h148 ∧ (K h148))))))))) ∧ (¬ (h_i h 228 (((150 * (h_i h 212 x1.toNatClampNeg)) + (h_i h 213 x1.toNatClampNeg)) : Int32).toNatClampNeg) = 0 → (¬ (h_i h 228 (((150 * (h_i h 212 x1.toNatClampNeg)) + (h_i h 213 x1.toNatClampNeg)) : Int32).toNatClampNeg) = 2 → (¬ (h_i h 228 (((150 * (h_i h 212 x1.toNatClampNeg)) + (h_i h 213 x1.toNatClampNeg)) : Int32).toNatClampNeg) = 1 → vp_in x1 12 ∧ (K (h_im (h_im h 211 x1.toNatClampNeg (-1)) 211 x1.toNatClampNeg ((h_i h 1 0) + 1)))) ∧ ((h_i h 228 (((150 * (h_i h 212 x1.toNatClampNeg)) + (h_i h 213 x1.toNatClampNeg)) : Int32).toNatClampNeg) = 1 → vp_in ((150 * (h_i h 212 x1.toNatClampNeg)) + (h_i h 213 x1.toNatClampNeg)) 1800 ∧ (vp_in x1 12 ∧ (K (h_im (h_im h 211 x1.toNatClampNeg (-1)) 211 x1.toNatClampNeg ((h_i h 1 0) + (h_i h 229 (((150 * (h_i h 212 x1.toNatClampNeg)) + (h_i h 213 x1.toNatClampNeg)) : Int32).toNatClampNeg))))))) ∧ ((h_i h 228 (((150 * (h_i h 212 x1.toNatClampNeg)) + (h_i h 213 x1.toNatClampNeg)) : Int32).toNatClampNeg) = 2 → vp_in x1 12 ∧ (vp_in ((150 * (h_i h 212 x1.toNatClampNeg)) + (h_i h 213 x1.toNatClampNeg)) 1800 ∧ (Ci (m_X12_walkOf (d + 0) 0 0) [.ref 1, .int (h_i h 209 x1.toNatClampNeg), .int (h_i h 229 (((150 * (h_i h 212 x1.toNatClampNeg)) + (h_i h 213 x1.toNatClampNeg)) : Int32).toNatClampNeg)] (h_im h 211 x1.toNatClampNeg (-1)) (fun r160 h158 => Wf h158 ∧ ((r160 ≤ 0 → (¬ (h_i h 228 (((150 * (h_i h 212 x1.toNatClampNeg)) + (h_i h 213 x1.toNatClampNeg)) : Int32).toNatClampNeg) = 2 → (¬ (h_i h 228 (((150 * (h_i h 212 x1.toNatClampNeg)) + (h_i h 213 x1.toNatClampNeg)) : Int32).toNatClampNeg) = 2 → vp_in x1 12 ∧ (vp_in x1 12 ∧ (AW (m_X12_goOn (d + 3) 0 0) 0 0 0 [(0, .ref 1), (1, .int x1)] [] (h_im h158 213 x1.toNatClampNeg ((h_i h158 213 x1.toNatClampNeg) + 1)) (kV K)))) ∧ ((h_i h 228 (((150 * (h_i h 212 x1.toNatClampNeg)) + (h_i h 213 x1.toNatClampNeg)) : Int32).toNatClampNeg) = 2 → vp_in ((150 * (h_i h 212 x1.toNatClampNeg)) + (h_i h 213 x1.toNatClampNeg)) 1800 ∧ (Ci (m_X12_comes (d + 1) 0 0) [.ref 1, .int x1, .int (h_i h158 230 (((150 * (h_i h 212 x1.toNatClampNeg)) + (h_i h 213 x1.toNatClampNeg)) : Int32).toNatClampNeg)] h158 (fun r169 h167 => Wf h167 ∧ ((r169 = 0 → vp_in x1 12 ∧ (vp_in x1 12 ∧ (AW (m_X12_goOn (d + 3) 0 0) 0 0 0 [(0, .ref 1), (1, .int x1)] [] (h_im h167 213 x1.toNatClampNeg ((h_i h167 213 x1.toNatClampNeg) + 1)) (kV K)))) ∧ (¬ r169 = 0 → K h167)))))) ∧ ((h_i h 228 (((150 * (h_i h 212 x1.toNatClampNeg)) + (h_i h 213 x1.toNatClampNeg)) : Int32).toNatClampNeg) = 2 → (¬ r160 = (-1) → (¬ (h_i h 228 (((150 * (h_i h 212 x1.toNatClampNeg)) + (h_i h 213 x1.toNatClampNeg)) : Int32).toNatClampNeg) = 2 → vp_in x1 12 ∧ (vp_in x1 12 ∧ (AW (m_X12_goOn (d + 3) 0 0) 0 0 0 [(0, .ref 1), (1, .int x1)] [] (h_im h158 213 x1.toNatClampNeg ((h_i h158 213 x1.toNatClampNeg) + 1)) (kV K)))) ∧ ((h_i h 228 (((150 * (h_i h 212 x1.toNatClampNeg)) + (h_i h 213 x1.toNatClampNeg)) : Int32).toNatClampNeg) = 2 → vp_in ((150 * (h_i h 212 x1.toNatClampNeg)) + (h_i h 213 x1.toNatClampNeg)) 1800 ∧ (Ci (m_X12_comes (d + 1) 0 0) [.ref 1, .int x1, .int (h_i h158 230 (((150 * (h_i h 212 x1.toNatClampNeg)) + (h_i h 213 x1.toNatClampNeg)) : Int32).toNatClampNeg)] h158 (fun r180 h178 => Wf h178 ∧ ((r180 = 0 → vp_in x1 12 ∧ (vp_in x1 12 ∧ (AW (m_X12_goOn (d + 3) 0 0) 0 0 0 [(0, .ref 1), (1, .int x1)] [] (h_im h178 213 x1.toNatClampNeg ((h_i h178 213 x1.toNatClampNeg) + 1)) (kV K)))) ∧ (¬ r180 = 0 → K h178)))))) ∧ (r160 = (-1) → vp_in x1 12 ∧ (Cv (m_X12_miss (d + 0) 0 0) [.ref 1, .int (h_i h158 216 x1.toNatClampNeg), .int 2] h158 (fun h185 => Wf h185 ∧ (vp_in x1 12 ∧ (vp_in x1 12 ∧ (vp_in x1 12 ∧ (vp_in x1 12 ∧ (AW (m_X12_goOn (d + 3) 0 0) 0 0 0 [(0, .ref 1), (1, .int x1)] [] (h_im (h_im h185 216 x1.toNatClampNeg ((h_i h185 216 x1.toNatClampNeg) + 1)) 213 x1.toNatClampNeg ((h_i h185 213 x1.toNatClampNeg) + 1)) (kV K))))))))))) ∧ (¬ r160 ≤ 0 → vp_in ((150 * (h_i h 212 x1.toNatClampNeg)) + (h_i h 213 x1.toNatClampNeg)) 1800 ∧ (Cv (m_X12_setOut (d + 1) 0 0) [.ref 1, .int x1, .int (h_i h158 229 (((150 * (h_i h 212 x1.toNatClampNeg)) + (h_i h 213 x1.toNatClampNeg)) : Int32).toNatClampNeg)] h158 (fun h193 => Wf h193 ∧ (K h193))))))))))))))) ∧ ((h_i h 213 x1.toNatClampNeg) = (h_i h 227 ((h_i h 212 x1.toNatClampNeg) : Int32).toNatClampNeg) → Cv (m_X12_goHome (d + 2) 0 0) [.ref 1, .int x1] h (fun h196 => Wf h196 ∧ (K h196))))))))) : AW (m_X12_goOn (d + 3) 0 0) 0 0 0 [(0, .ref 1), (1, .int x1)] [] h (kV K) := by
  refine aw_aload_n (i := 0) rfl d_X12_goOn_0 0 rfl ?_
  refine aw_getr (k0 := 12) kc_12 (ws_1 w) (Nat.le_of_ble_eq_true rfl) tw_1754 d_X12_goOn_1 rfl (wr_1_12 w) ?_
  refine aw_iload_n (i := 1) rfl d_X12_goOn_4 1 rfl ?_
  obtain ⟨b100, k⟩ := k
  refine aw_iald (ws_208 w) b100 d_X12_goOn_5 ?_
  refine aw_iconst (v := 1) d_X12_goOn_6 ic_1 ?_
  refine aw_icmp_ne (tgt := 210) d_X12_goOn_7 rfl (fun c101 => ?_) (fun c101 => ?_)
  · have k := k.1 c101
    exact aw_vret rfl d_X12_goOn_210 ⟨Nat.le_refl _, Nat.le_refl _⟩ ⟨rfl, k⟩
  · have k := k.2 c101
    refine aw_aload_n (i := 0) rfl d_X12_goOn_10 0 rfl ?_
    refine aw_getr (k0 := 17) kc_12 (ws_1 w) (Nat.le_of_ble_eq_true rfl) tw_1759 d_X12_goOn_11 rfl (wr_1_17 w) ?_
    refine aw_iload_n (i := 1) rfl d_X12_goOn_14 1 rfl ?_
    obtain ⟨b102, k⟩ := k
    refine aw_iald (ws_213 w) b102 d_X12_goOn_15 ?_
    refine aw_aload_n (i := 0) rfl d_X12_goOn_16 0 rfl ?_
    refine aw_getr (k0 := 38) kc_12 (ws_1 w) (Nat.le_of_ble_eq_true rfl) tw_1780 d_X12_goOn_17 rfl (wr_1_38 w) ?_
    refine aw_aload_n (i := 0) rfl d_X12_goOn_20 0 rfl ?_
    refine aw_getr (k0 := 16) kc_12 (ws_1 w) (Nat.le_of_ble_eq_true rfl) tw_1758 d_X12_goOn_21 rfl (wr_1_16 w) ?_
    refine aw_iload_n (i := 1) rfl d_X12_goOn_24 1 rfl ?_
    obtain ⟨b103, k⟩ := k
    refine aw_iald (ws_212 w) b103 d_X12_goOn_25 ?_
    obtain ⟨b104, k⟩ := k
    refine aw_iald (ws_227 w) b104 d_X12_goOn_26 ?_
    refine aw_icmp_ne (tgt := 36) d_X12_goOn_27 rfl (fun c105 => ?_) (fun c105 => ?_)
    · have k := k.1 c105
      refine aw_sipush (v := 150) d_X12_goOn_36 is_150 ?_
      refine aw_aload_n (i := 0) rfl d_X12_goOn_39 0 rfl ?_
      refine aw_getr (k0 := 16) kc_12 (ws_1 w) (Nat.le_of_ble_eq_true rfl) tw_1758 d_X12_goOn_40 rfl (wr_1_16 w) ?_
      refine aw_iload_n (i := 1) rfl d_X12_goOn_43 1 rfl ?_
      obtain ⟨b106, k⟩ := k
      refine aw_iald (ws_212 w) b106 d_X12_goOn_44 ?_
      refine aw_imul d_X12_goOn_45 ?_
      refine aw_aload_n (i := 0) rfl d_X12_goOn_46 0 rfl ?_
      refine aw_getr (k0 := 17) kc_12 (ws_1 w) (Nat.le_of_ble_eq_true rfl) tw_1759 d_X12_goOn_47 rfl (wr_1_17 w) ?_
      refine aw_iload_n (i := 1) rfl d_X12_goOn_50 1 rfl ?_
      obtain ⟨b107, k⟩ := k
      refine aw_iald (ws_213 w) b107 d_X12_goOn_51 ?_
      refine aw_iadd d_X12_goOn_52 ?_
      refine aw_istore_n (i := 2) rfl [(0, .ref 1), (1, .int x1), (2, .int ((150 * (h_i h 212 x1.toNatClampNeg)) + (h_i h 213 x1.toNatClampNeg)))] d_X12_goOn_53 (Nat.le_of_ble_eq_true rfl) rfl rfl ?_
      refine aw_aload_n (i := 0) rfl d_X12_goOn_54 0 rfl ?_
      refine aw_getr (k0 := 39) kc_12 (ws_1 w) (Nat.le_of_ble_eq_true rfl) tw_1781 d_X12_goOn_55 rfl (wr_1_39 w) ?_
      refine aw_iload_n (i := 2) rfl d_X12_goOn_58 2 rfl ?_
      obtain ⟨b108, k⟩ := k
      refine aw_iald (ws_228 w) b108 d_X12_goOn_59 ?_
      refine aw_istore_n (i := 3) rfl [(0, .ref 1), (1, .int x1), (2, .int ((150 * (h_i h 212 x1.toNatClampNeg)) + (h_i h 213 x1.toNatClampNeg))), (3, .int (h_i h 228 (((150 * (h_i h 212 x1.toNatClampNeg)) + (h_i h 213 x1.toNatClampNeg)) : Int32).toNatClampNeg))] d_X12_goOn_60 (Nat.le_of_ble_eq_true rfl) rfl rfl ?_
      refine aw_aload_n (i := 0) rfl d_X12_goOn_61 0 rfl ?_
      refine aw_getr (k0 := 15) kc_12 (ws_1 w) (Nat.le_of_ble_eq_true rfl) tw_1757 d_X12_goOn_62 rfl (wr_1_15 w) ?_
      refine aw_iload_n (i := 1) rfl d_X12_goOn_65 1 rfl ?_
      refine aw_iconst (v := (-1)) d_X12_goOn_66 ic_m1 ?_
      obtain ⟨b109, k⟩ := k
      refine aw_iast (ws_211 w) b109 d_X12_goOn_67 ?_
      refine aw_iload_n (i := 3) rfl d_X12_goOn_68 3 rfl ?_
      refine aw_if_eq (tgt := 77) d_X12_goOn_69 rfl (fun c110 => ?_) (fun c110 => ?_)
      · have k := k.1 c110
        refine aw_aload_n (i := 0) rfl d_X12_goOn_77 0 rfl ?_
        refine aw_aload_n (i := 0) rfl d_X12_goOn_78 0 rfl ?_
        refine aw_getr (k0 := 13) kc_12 (ws_1 w) (Nat.le_of_ble_eq_true rfl) tw_1755 d_X12_goOn_79 rfl (wr_1_13 w) ?_
        refine aw_iload_n (i := 1) rfl d_X12_goOn_82 1 rfl ?_
        obtain ⟨b111, k⟩ := k
        refine aw_iald (ws_209 w) b111 d_X12_goOn_83 ?_
        refine aw_vi (v2 := (h_i h 209 x1.toNatClampNeg)) (rfl) ?_
        refine aw_aload_n (i := 0) rfl d_X12_goOn_84 0 rfl ?_
        refine aw_getr (k0 := 40) kc_12 (ws_1 w) (Nat.le_of_ble_eq_true rfl) tw_1782 d_X12_goOn_85 rfl (wr_1_40 w) ?_
        refine aw_iload_n (i := 2) rfl d_X12_goOn_88 2 rfl ?_
        obtain ⟨b112, k⟩ := k
        refine aw_iald (ws_229 w) b112 d_X12_goOn_89 ?_
        refine aw_vi (v2 := (h_i h 229 (((150 * (h_i h 212 x1.toNatClampNeg)) + (h_i h 213 x1.toNatClampNeg)) : Int32).toNatClampNeg)) (rfl) ?_
        refine aw_Vi 1 [.int (h_i h 209 x1.toNatClampNeg), .int (h_i h 229 (((150 * (h_i h 212 x1.toNatClampNeg)) + (h_i h 213 x1.toNatClampNeg)) : Int32).toNatClampNeg)] [] d_X12_goOn_90 (cV_X12_walkOf (d + 0) 0 0) kc_12 (ws_1 w) tw_2154 rfl (rr0 (Nat.le_of_ble_eq_true rfl) (Nat.le_of_ble_eq_true rfl)) (Nat.le_of_ble_eq_true rfl) xs0 k (fun r115 h113 kk => ?_)
        obtain ⟨w114, k⟩ := kk
        refine aw_istore [(0, .ref 1), (1, .int x1), (2, .int ((150 * (h_i h 212 x1.toNatClampNeg)) + (h_i h 213 x1.toNatClampNeg))), (3, .int (h_i h 228 (((150 * (h_i h 212 x1.toNatClampNeg)) + (h_i h 213 x1.toNatClampNeg)) : Int32).toNatClampNeg)), (4, .int r115)] d_X12_goOn_93 (Nat.le_of_ble_eq_true rfl) rfl rfl ?_
        refine aw_iload d_X12_goOn_95 4 rfl ?_
        refine aw_if_le (tgt := 112) d_X12_goOn_97 rfl (fun c116 => ?_) (fun c116 => ?_)
        · have k := k.1 c116
          refine aw_iload_n (i := 3) rfl d_X12_goOn_112 3 rfl ?_
          refine aw_iconst (v := 2) d_X12_goOn_113 ic_2 ?_
          refine aw_icmp_ne (tgt := 147) d_X12_goOn_114 rfl (fun c117 => ?_) (fun c117 => ?_)
          · have k := k.1 c117
            refine aw_iload_n (i := 3) rfl d_X12_goOn_147 3 rfl ?_
            refine aw_iconst (v := 2) d_X12_goOn_148 ic_2 ?_
            refine aw_icmp_ne (tgt := 167) d_X12_goOn_149 rfl (fun c118 => ?_) (fun c118 => ?_)
            · have k := k.1 c118
              refine aw_goto (tgt := 197) d_X12_goOn_167 rfl ?_
              refine aw_aload_n (i := 0) rfl d_X12_goOn_197 0 rfl ?_
              refine aw_getr (k0 := 17) kc_12 (ws_1 w114) (Nat.le_of_ble_eq_true rfl) tw_1759 d_X12_goOn_198 rfl (wr_1_17 w114) ?_
              refine aw_iload_n (i := 1) rfl d_X12_goOn_201 1 rfl ?_
              refine aw_dup2 d_X12_goOn_202 ⟨rfl, rfl⟩ ?_
              obtain ⟨b119, k⟩ := k
              refine aw_iald (ws_213 w114) b119 d_X12_goOn_203 ?_
              refine aw_iconst (v := 1) d_X12_goOn_204 ic_1 ?_
              refine aw_iadd d_X12_goOn_205 ?_
              obtain ⟨b120, k⟩ := k
              refine aw_iast (ws_213 w114) b120 d_X12_goOn_206 ?_
              refine aw_goto (tgt := 0) d_X12_goOn_207 rfl ?_
              exact aw_lvp [0, 1] [(0, .ref 1), (1, .int x1)] rfl k
            · have k := k.2 c118
              refine aw_aload_n (i := 0) rfl d_X12_goOn_152 0 rfl ?_
              refine aw_iload_n (i := 1) rfl d_X12_goOn_153 1 rfl ?_
              refine aw_aload_n (i := 0) rfl d_X12_goOn_154 0 rfl ?_
              refine aw_getr (k0 := 41) kc_12 (ws_1 w114) (Nat.le_of_ble_eq_true rfl) tw_1783 d_X12_goOn_155 rfl (wr_1_41 w114) ?_
              refine aw_iload_n (i := 2) rfl d_X12_goOn_158 2 rfl ?_
              obtain ⟨b121, k⟩ := k
              refine aw_iald (ws_230 w114) b121 d_X12_goOn_159 ?_
              refine aw_Vi 1 [.int x1, .int (h_i h113 230 (((150 * (h_i h 212 x1.toNatClampNeg)) + (h_i h 213 x1.toNatClampNeg)) : Int32).toNatClampNeg)] [] d_X12_goOn_160 (cV_X12_comes (d + 1) 0 0) kc_12 (ws_1 w114) tw_2360 rfl (rr0 (Nat.le_of_ble_eq_true rfl) (Nat.le_of_ble_eq_true rfl)) (Nat.le_of_ble_eq_true rfl) xs0 k (fun r124 h122 kk => ?_)
              obtain ⟨w123, k⟩ := kk
              refine aw_if_eq (tgt := 167) d_X12_goOn_163 rfl (fun c125 => ?_) (fun c125 => ?_)
              · have k := k.1 c125
                refine aw_goto (tgt := 197) d_X12_goOn_167 rfl ?_
                refine aw_aload_n (i := 0) rfl d_X12_goOn_197 0 rfl ?_
                refine aw_getr (k0 := 17) kc_12 (ws_1 w123) (Nat.le_of_ble_eq_true rfl) tw_1759 d_X12_goOn_198 rfl (wr_1_17 w123) ?_
                refine aw_iload_n (i := 1) rfl d_X12_goOn_201 1 rfl ?_
                refine aw_dup2 d_X12_goOn_202 ⟨rfl, rfl⟩ ?_
                obtain ⟨b126, k⟩ := k
                refine aw_iald (ws_213 w123) b126 d_X12_goOn_203 ?_
                refine aw_iconst (v := 1) d_X12_goOn_204 ic_1 ?_
                refine aw_iadd d_X12_goOn_205 ?_
                obtain ⟨b127, k⟩ := k
                refine aw_iast (ws_213 w123) b127 d_X12_goOn_206 ?_
                refine aw_goto (tgt := 0) d_X12_goOn_207 rfl ?_
                exact aw_lvp [0, 1] [(0, .ref 1), (1, .int x1)] rfl k
              · have k := k.2 c125
                exact aw_vret rfl d_X12_goOn_166 ⟨Nat.le_refl _, Nat.le_refl _⟩ ⟨rfl, k⟩
          · have k := k.2 c117
            refine aw_iload d_X12_goOn_117 4 rfl ?_
            refine aw_iconst (v := (-1)) d_X12_goOn_119 ic_m1 ?_
            refine aw_icmp_ne (tgt := 147) d_X12_goOn_120 rfl (fun c128 => ?_) (fun c128 => ?_)
            · have k := k.1 c128
              refine aw_iload_n (i := 3) rfl d_X12_goOn_147 3 rfl ?_
              refine aw_iconst (v := 2) d_X12_goOn_148 ic_2 ?_
              refine aw_icmp_ne (tgt := 167) d_X12_goOn_149 rfl (fun c129 => ?_) (fun c129 => ?_)
              · have k := k.1 c129
                refine aw_goto (tgt := 197) d_X12_goOn_167 rfl ?_
                refine aw_aload_n (i := 0) rfl d_X12_goOn_197 0 rfl ?_
                refine aw_getr (k0 := 17) kc_12 (ws_1 w114) (Nat.le_of_ble_eq_true rfl) tw_1759 d_X12_goOn_198 rfl (wr_1_17 w114) ?_
                refine aw_iload_n (i := 1) rfl d_X12_goOn_201 1 rfl ?_
                refine aw_dup2 d_X12_goOn_202 ⟨rfl, rfl⟩ ?_
                obtain ⟨b130, k⟩ := k
                refine aw_iald (ws_213 w114) b130 d_X12_goOn_203 ?_
                refine aw_iconst (v := 1) d_X12_goOn_204 ic_1 ?_
                refine aw_iadd d_X12_goOn_205 ?_
                obtain ⟨b131, k⟩ := k
                refine aw_iast (ws_213 w114) b131 d_X12_goOn_206 ?_
                refine aw_goto (tgt := 0) d_X12_goOn_207 rfl ?_
                exact aw_lvp [0, 1] [(0, .ref 1), (1, .int x1)] rfl k
              · have k := k.2 c129
                refine aw_aload_n (i := 0) rfl d_X12_goOn_152 0 rfl ?_
                refine aw_iload_n (i := 1) rfl d_X12_goOn_153 1 rfl ?_
                refine aw_aload_n (i := 0) rfl d_X12_goOn_154 0 rfl ?_
                refine aw_getr (k0 := 41) kc_12 (ws_1 w114) (Nat.le_of_ble_eq_true rfl) tw_1783 d_X12_goOn_155 rfl (wr_1_41 w114) ?_
                refine aw_iload_n (i := 2) rfl d_X12_goOn_158 2 rfl ?_
                obtain ⟨b132, k⟩ := k
                refine aw_iald (ws_230 w114) b132 d_X12_goOn_159 ?_
                refine aw_Vi 1 [.int x1, .int (h_i h113 230 (((150 * (h_i h 212 x1.toNatClampNeg)) + (h_i h 213 x1.toNatClampNeg)) : Int32).toNatClampNeg)] [] d_X12_goOn_160 (cV_X12_comes (d + 1) 0 0) kc_12 (ws_1 w114) tw_2360 rfl (rr0 (Nat.le_of_ble_eq_true rfl) (Nat.le_of_ble_eq_true rfl)) (Nat.le_of_ble_eq_true rfl) xs0 k (fun r135 h133 kk => ?_)
                obtain ⟨w134, k⟩ := kk
                refine aw_if_eq (tgt := 167) d_X12_goOn_163 rfl (fun c136 => ?_) (fun c136 => ?_)
                · have k := k.1 c136
                  refine aw_goto (tgt := 197) d_X12_goOn_167 rfl ?_
                  refine aw_aload_n (i := 0) rfl d_X12_goOn_197 0 rfl ?_
                  refine aw_getr (k0 := 17) kc_12 (ws_1 w134) (Nat.le_of_ble_eq_true rfl) tw_1759 d_X12_goOn_198 rfl (wr_1_17 w134) ?_
                  refine aw_iload_n (i := 1) rfl d_X12_goOn_201 1 rfl ?_
                  refine aw_dup2 d_X12_goOn_202 ⟨rfl, rfl⟩ ?_
                  obtain ⟨b137, k⟩ := k
                  refine aw_iald (ws_213 w134) b137 d_X12_goOn_203 ?_
                  refine aw_iconst (v := 1) d_X12_goOn_204 ic_1 ?_
                  refine aw_iadd d_X12_goOn_205 ?_
                  obtain ⟨b138, k⟩ := k
                  refine aw_iast (ws_213 w134) b138 d_X12_goOn_206 ?_
                  refine aw_goto (tgt := 0) d_X12_goOn_207 rfl ?_
                  exact aw_lvp [0, 1] [(0, .ref 1), (1, .int x1)] rfl k
                · have k := k.2 c136
                  exact aw_vret rfl d_X12_goOn_166 ⟨Nat.le_refl _, Nat.le_refl _⟩ ⟨rfl, k⟩
            · have k := k.2 c128
              refine aw_aload_n (i := 0) rfl d_X12_goOn_123 0 rfl ?_
              refine aw_aload_n (i := 0) rfl d_X12_goOn_124 0 rfl ?_
              refine aw_getr (k0 := 20) kc_12 (ws_1 w114) (Nat.le_of_ble_eq_true rfl) tw_1762 d_X12_goOn_125 rfl (wr_1_20 w114) ?_
              refine aw_iload_n (i := 1) rfl d_X12_goOn_128 1 rfl ?_
              obtain ⟨b139, k⟩ := k
              refine aw_iald (ws_216 w114) b139 d_X12_goOn_129 ?_
              refine aw_iconst (v := 2) d_X12_goOn_130 ic_2 ?_
              refine aw_Vv 1 [.int (h_i h113 216 x1.toNatClampNeg), .int 2] [] d_X12_goOn_131 (cV_X12_miss (d + 0) 0 0) kc_12 (ws_1 w114) tw_2356 rfl (rr0 (Nat.le_of_ble_eq_true rfl) (Nat.le_of_ble_eq_true rfl)) (Nat.le_of_ble_eq_true rfl) xs0 k (fun h140 kk => ?_)
              obtain ⟨w141, k⟩ := kk
              refine aw_aload_n (i := 0) rfl d_X12_goOn_134 0 rfl ?_
              refine aw_getr (k0 := 20) kc_12 (ws_1 w141) (Nat.le_of_ble_eq_true rfl) tw_1762 d_X12_goOn_135 rfl (wr_1_20 w141) ?_
              refine aw_iload_n (i := 1) rfl d_X12_goOn_138 1 rfl ?_
              refine aw_dup2 d_X12_goOn_139 ⟨rfl, rfl⟩ ?_
              obtain ⟨b143, k⟩ := k
              refine aw_iald (ws_216 w141) b143 d_X12_goOn_140 ?_
              refine aw_iconst (v := 1) d_X12_goOn_141 ic_1 ?_
              refine aw_iadd d_X12_goOn_142 ?_
              obtain ⟨b144, k⟩ := k
              refine aw_iast (ws_216 w141) b144 d_X12_goOn_143 ?_
              refine aw_goto (tgt := 167) d_X12_goOn_144 rfl ?_
              refine aw_goto (tgt := 197) d_X12_goOn_167 rfl ?_
              refine aw_aload_n (i := 0) rfl d_X12_goOn_197 0 rfl ?_
              refine aw_getr (k0 := 17) kc_12 (ws_1 w141) (Nat.le_of_ble_eq_true rfl) tw_1759 d_X12_goOn_198 rfl (wr_1_17 w141) ?_
              refine aw_iload_n (i := 1) rfl d_X12_goOn_201 1 rfl ?_
              refine aw_dup2 d_X12_goOn_202 ⟨rfl, rfl⟩ ?_
              obtain ⟨b145, k⟩ := k
              refine aw_iald (ws_213 w141) b145 d_X12_goOn_203 ?_
              refine aw_vi (v2 := (h_i h140 213 x1.toNatClampNeg)) (rfl) ?_
              refine aw_iconst (v := 1) d_X12_goOn_204 ic_1 ?_
              refine aw_iadd d_X12_goOn_205 ?_
              obtain ⟨b146, k⟩ := k
              refine aw_iast (ws_213 w141) b146 d_X12_goOn_206 ?_
              refine aw_goto (tgt := 0) d_X12_goOn_207 rfl ?_
              exact aw_lvp [0, 1] [(0, .ref 1), (1, .int x1)] rfl k
        · have k := k.2 c116
          refine aw_aload_n (i := 0) rfl d_X12_goOn_100 0 rfl ?_
          refine aw_iload_n (i := 1) rfl d_X12_goOn_101 1 rfl ?_
          refine aw_aload_n (i := 0) rfl d_X12_goOn_102 0 rfl ?_
          refine aw_getr (k0 := 40) kc_12 (ws_1 w114) (Nat.le_of_ble_eq_true rfl) tw_1782 d_X12_goOn_103 rfl (wr_1_40 w114) ?_
          refine aw_iload_n (i := 2) rfl d_X12_goOn_106 2 rfl ?_
          obtain ⟨b147, k⟩ := k
          refine aw_iald (ws_229 w114) b147 d_X12_goOn_107 ?_
          refine aw_Vv 1 [.int x1, .int (h_i h113 229 (((150 * (h_i h 212 x1.toNatClampNeg)) + (h_i h 213 x1.toNatClampNeg)) : Int32).toNatClampNeg)] [] d_X12_goOn_108 (cV_X12_setOut (d + 1) 0 0) kc_12 (ws_1 w114) tw_2352 rfl (rr0 (Nat.le_of_ble_eq_true rfl) (Nat.le_of_ble_eq_true rfl)) (Nat.le_of_ble_eq_true rfl) xs0 k (fun h148 kk => ?_)
          obtain ⟨w149, k⟩ := kk
          exact aw_vret rfl d_X12_goOn_111 ⟨Nat.le_refl _, Nat.le_refl _⟩ ⟨rfl, k⟩
      · have k := k.2 c110
        refine aw_iload_n (i := 3) rfl d_X12_goOn_72 3 rfl ?_
        refine aw_iconst (v := 2) d_X12_goOn_73 ic_2 ?_
        refine aw_icmp_ne (tgt := 170) d_X12_goOn_74 rfl (fun c151 => ?_) (fun c151 => ?_)
        · have k := k.1 c151
          refine aw_aload_n (i := 0) rfl d_X12_goOn_170 0 rfl ?_
          refine aw_getr (k0 := 15) kc_12 (ws_1 w) (Nat.le_of_ble_eq_true rfl) tw_1757 d_X12_goOn_171 rfl (wr_1_15 w) ?_
          refine aw_iload_n (i := 1) rfl d_X12_goOn_174 1 rfl ?_
          refine aw_aload_n (i := 0) rfl d_X12_goOn_175 0 rfl ?_
          refine aw_geti (k0 := 0) kc_12 (ws_1 w) (Nat.le_of_ble_eq_true rfl) tw_1742 d_X12_goOn_176 rfl ?_
          refine aw_vi (v2 := (h_i h 1 0)) (rfl) ?_
          refine aw_iload_n (i := 3) rfl d_X12_goOn_179 3 rfl ?_
          refine aw_iconst (v := 1) d_X12_goOn_180 ic_1 ?_
          refine aw_icmp_ne (tgt := 193) d_X12_goOn_181 rfl (fun c152 => ?_) (fun c152 => ?_)
          · have k := k.1 c152
            refine aw_iconst (v := 1) d_X12_goOn_193 ic_1 ?_
            refine aw_iadd d_X12_goOn_194 ?_
            obtain ⟨b153, k⟩ := k
            refine aw_iast (ws_211 w) b153 d_X12_goOn_195 ?_
            exact aw_vret rfl d_X12_goOn_196 ⟨Nat.le_refl _, Nat.le_refl _⟩ ⟨rfl, k⟩
          · have k := k.2 c152
            refine aw_aload_n (i := 0) rfl d_X12_goOn_184 0 rfl ?_
            refine aw_getr (k0 := 40) kc_12 (ws_1 w) (Nat.le_of_ble_eq_true rfl) tw_1782 d_X12_goOn_185 rfl (wr_1_40 w) ?_
            refine aw_iload_n (i := 2) rfl d_X12_goOn_188 2 rfl ?_
            obtain ⟨b154, k⟩ := k
            refine aw_iald (ws_229 w) b154 d_X12_goOn_189 ?_
            refine aw_vi (v2 := (h_i h 229 (((150 * (h_i h 212 x1.toNatClampNeg)) + (h_i h 213 x1.toNatClampNeg)) : Int32).toNatClampNeg)) (rfl) ?_
            refine aw_goto (tgt := 194) d_X12_goOn_190 rfl ?_
            refine aw_iadd d_X12_goOn_194 ?_
            obtain ⟨b155, k⟩ := k
            refine aw_iast (ws_211 w) b155 d_X12_goOn_195 ?_
            exact aw_vret rfl d_X12_goOn_196 ⟨Nat.le_refl _, Nat.le_refl _⟩ ⟨rfl, k⟩
        · have k := k.2 c151
          refine aw_aload_n (i := 0) rfl d_X12_goOn_77 0 rfl ?_
          refine aw_aload_n (i := 0) rfl d_X12_goOn_78 0 rfl ?_
          refine aw_getr (k0 := 13) kc_12 (ws_1 w) (Nat.le_of_ble_eq_true rfl) tw_1755 d_X12_goOn_79 rfl (wr_1_13 w) ?_
          refine aw_iload_n (i := 1) rfl d_X12_goOn_82 1 rfl ?_
          obtain ⟨b156, k⟩ := k
          refine aw_iald (ws_209 w) b156 d_X12_goOn_83 ?_
          refine aw_vi (v2 := (h_i h 209 x1.toNatClampNeg)) (rfl) ?_
          refine aw_aload_n (i := 0) rfl d_X12_goOn_84 0 rfl ?_
          refine aw_getr (k0 := 40) kc_12 (ws_1 w) (Nat.le_of_ble_eq_true rfl) tw_1782 d_X12_goOn_85 rfl (wr_1_40 w) ?_
          refine aw_iload_n (i := 2) rfl d_X12_goOn_88 2 rfl ?_
          obtain ⟨b157, k⟩ := k
          refine aw_iald (ws_229 w) b157 d_X12_goOn_89 ?_
          refine aw_vi (v2 := (h_i h 229 (((150 * (h_i h 212 x1.toNatClampNeg)) + (h_i h 213 x1.toNatClampNeg)) : Int32).toNatClampNeg)) (rfl) ?_
          refine aw_Vi 1 [.int (h_i h 209 x1.toNatClampNeg), .int (h_i h 229 (((150 * (h_i h 212 x1.toNatClampNeg)) + (h_i h 213 x1.toNatClampNeg)) : Int32).toNatClampNeg)] [] d_X12_goOn_90 (cV_X12_walkOf (d + 0) 0 0) kc_12 (ws_1 w) tw_2154 rfl (rr0 (Nat.le_of_ble_eq_true rfl) (Nat.le_of_ble_eq_true rfl)) (Nat.le_of_ble_eq_true rfl) xs0 k (fun r160 h158 kk => ?_)
          obtain ⟨w159, k⟩ := kk
          refine aw_istore [(0, .ref 1), (1, .int x1), (2, .int ((150 * (h_i h 212 x1.toNatClampNeg)) + (h_i h 213 x1.toNatClampNeg))), (3, .int (h_i h 228 (((150 * (h_i h 212 x1.toNatClampNeg)) + (h_i h 213 x1.toNatClampNeg)) : Int32).toNatClampNeg)), (4, .int r160)] d_X12_goOn_93 (Nat.le_of_ble_eq_true rfl) rfl rfl ?_
          refine aw_iload d_X12_goOn_95 4 rfl ?_
          refine aw_if_le (tgt := 112) d_X12_goOn_97 rfl (fun c161 => ?_) (fun c161 => ?_)
          · have k := k.1 c161
            refine aw_iload_n (i := 3) rfl d_X12_goOn_112 3 rfl ?_
            refine aw_iconst (v := 2) d_X12_goOn_113 ic_2 ?_
            refine aw_icmp_ne (tgt := 147) d_X12_goOn_114 rfl (fun c162 => ?_) (fun c162 => ?_)
            · have k := k.1 c162
              refine aw_iload_n (i := 3) rfl d_X12_goOn_147 3 rfl ?_
              refine aw_iconst (v := 2) d_X12_goOn_148 ic_2 ?_
              refine aw_icmp_ne (tgt := 167) d_X12_goOn_149 rfl (fun c163 => ?_) (fun c163 => ?_)
              · have k := k.1 c163
                refine aw_goto (tgt := 197) d_X12_goOn_167 rfl ?_
                refine aw_aload_n (i := 0) rfl d_X12_goOn_197 0 rfl ?_
                refine aw_getr (k0 := 17) kc_12 (ws_1 w159) (Nat.le_of_ble_eq_true rfl) tw_1759 d_X12_goOn_198 rfl (wr_1_17 w159) ?_
                refine aw_iload_n (i := 1) rfl d_X12_goOn_201 1 rfl ?_
                refine aw_dup2 d_X12_goOn_202 ⟨rfl, rfl⟩ ?_
                obtain ⟨b164, k⟩ := k
                refine aw_iald (ws_213 w159) b164 d_X12_goOn_203 ?_
                refine aw_iconst (v := 1) d_X12_goOn_204 ic_1 ?_
                refine aw_iadd d_X12_goOn_205 ?_
                obtain ⟨b165, k⟩ := k
                refine aw_iast (ws_213 w159) b165 d_X12_goOn_206 ?_
                refine aw_goto (tgt := 0) d_X12_goOn_207 rfl ?_
                exact aw_lvp [0, 1] [(0, .ref 1), (1, .int x1)] rfl k
              · have k := k.2 c163
                refine aw_aload_n (i := 0) rfl d_X12_goOn_152 0 rfl ?_
                refine aw_iload_n (i := 1) rfl d_X12_goOn_153 1 rfl ?_
                refine aw_aload_n (i := 0) rfl d_X12_goOn_154 0 rfl ?_
                refine aw_getr (k0 := 41) kc_12 (ws_1 w159) (Nat.le_of_ble_eq_true rfl) tw_1783 d_X12_goOn_155 rfl (wr_1_41 w159) ?_
                refine aw_iload_n (i := 2) rfl d_X12_goOn_158 2 rfl ?_
                obtain ⟨b166, k⟩ := k
                refine aw_iald (ws_230 w159) b166 d_X12_goOn_159 ?_
                refine aw_Vi 1 [.int x1, .int (h_i h158 230 (((150 * (h_i h 212 x1.toNatClampNeg)) + (h_i h 213 x1.toNatClampNeg)) : Int32).toNatClampNeg)] [] d_X12_goOn_160 (cV_X12_comes (d + 1) 0 0) kc_12 (ws_1 w159) tw_2360 rfl (rr0 (Nat.le_of_ble_eq_true rfl) (Nat.le_of_ble_eq_true rfl)) (Nat.le_of_ble_eq_true rfl) xs0 k (fun r169 h167 kk => ?_)
                obtain ⟨w168, k⟩ := kk
                refine aw_if_eq (tgt := 167) d_X12_goOn_163 rfl (fun c170 => ?_) (fun c170 => ?_)
                · have k := k.1 c170
                  refine aw_goto (tgt := 197) d_X12_goOn_167 rfl ?_
                  refine aw_aload_n (i := 0) rfl d_X12_goOn_197 0 rfl ?_
                  refine aw_getr (k0 := 17) kc_12 (ws_1 w168) (Nat.le_of_ble_eq_true rfl) tw_1759 d_X12_goOn_198 rfl (wr_1_17 w168) ?_
                  refine aw_iload_n (i := 1) rfl d_X12_goOn_201 1 rfl ?_
                  refine aw_dup2 d_X12_goOn_202 ⟨rfl, rfl⟩ ?_
                  obtain ⟨b171, k⟩ := k
                  refine aw_iald (ws_213 w168) b171 d_X12_goOn_203 ?_
                  refine aw_iconst (v := 1) d_X12_goOn_204 ic_1 ?_
                  refine aw_iadd d_X12_goOn_205 ?_
                  obtain ⟨b172, k⟩ := k
                  refine aw_iast (ws_213 w168) b172 d_X12_goOn_206 ?_
                  refine aw_goto (tgt := 0) d_X12_goOn_207 rfl ?_
                  exact aw_lvp [0, 1] [(0, .ref 1), (1, .int x1)] rfl k
                · have k := k.2 c170
                  exact aw_vret rfl d_X12_goOn_166 ⟨Nat.le_refl _, Nat.le_refl _⟩ ⟨rfl, k⟩
            · have k := k.2 c162
              refine aw_iload d_X12_goOn_117 4 rfl ?_
              refine aw_iconst (v := (-1)) d_X12_goOn_119 ic_m1 ?_
              refine aw_icmp_ne (tgt := 147) d_X12_goOn_120 rfl (fun c173 => ?_) (fun c173 => ?_)
              · have k := k.1 c173
                refine aw_iload_n (i := 3) rfl d_X12_goOn_147 3 rfl ?_
                refine aw_iconst (v := 2) d_X12_goOn_148 ic_2 ?_
                refine aw_icmp_ne (tgt := 167) d_X12_goOn_149 rfl (fun c174 => ?_) (fun c174 => ?_)
                · have k := k.1 c174
                  refine aw_goto (tgt := 197) d_X12_goOn_167 rfl ?_
                  refine aw_aload_n (i := 0) rfl d_X12_goOn_197 0 rfl ?_
                  refine aw_getr (k0 := 17) kc_12 (ws_1 w159) (Nat.le_of_ble_eq_true rfl) tw_1759 d_X12_goOn_198 rfl (wr_1_17 w159) ?_
                  refine aw_iload_n (i := 1) rfl d_X12_goOn_201 1 rfl ?_
                  refine aw_dup2 d_X12_goOn_202 ⟨rfl, rfl⟩ ?_
                  obtain ⟨b175, k⟩ := k
                  refine aw_iald (ws_213 w159) b175 d_X12_goOn_203 ?_
                  refine aw_iconst (v := 1) d_X12_goOn_204 ic_1 ?_
                  refine aw_iadd d_X12_goOn_205 ?_
                  obtain ⟨b176, k⟩ := k
                  refine aw_iast (ws_213 w159) b176 d_X12_goOn_206 ?_
                  refine aw_goto (tgt := 0) d_X12_goOn_207 rfl ?_
                  exact aw_lvp [0, 1] [(0, .ref 1), (1, .int x1)] rfl k
                · have k := k.2 c174
                  refine aw_aload_n (i := 0) rfl d_X12_goOn_152 0 rfl ?_
                  refine aw_iload_n (i := 1) rfl d_X12_goOn_153 1 rfl ?_
                  refine aw_aload_n (i := 0) rfl d_X12_goOn_154 0 rfl ?_
                  refine aw_getr (k0 := 41) kc_12 (ws_1 w159) (Nat.le_of_ble_eq_true rfl) tw_1783 d_X12_goOn_155 rfl (wr_1_41 w159) ?_
                  refine aw_iload_n (i := 2) rfl d_X12_goOn_158 2 rfl ?_
                  obtain ⟨b177, k⟩ := k
                  refine aw_iald (ws_230 w159) b177 d_X12_goOn_159 ?_
                  refine aw_Vi 1 [.int x1, .int (h_i h158 230 (((150 * (h_i h 212 x1.toNatClampNeg)) + (h_i h 213 x1.toNatClampNeg)) : Int32).toNatClampNeg)] [] d_X12_goOn_160 (cV_X12_comes (d + 1) 0 0) kc_12 (ws_1 w159) tw_2360 rfl (rr0 (Nat.le_of_ble_eq_true rfl) (Nat.le_of_ble_eq_true rfl)) (Nat.le_of_ble_eq_true rfl) xs0 k (fun r180 h178 kk => ?_)
                  obtain ⟨w179, k⟩ := kk
                  refine aw_if_eq (tgt := 167) d_X12_goOn_163 rfl (fun c181 => ?_) (fun c181 => ?_)
                  · have k := k.1 c181
                    refine aw_goto (tgt := 197) d_X12_goOn_167 rfl ?_
                    refine aw_aload_n (i := 0) rfl d_X12_goOn_197 0 rfl ?_
                    refine aw_getr (k0 := 17) kc_12 (ws_1 w179) (Nat.le_of_ble_eq_true rfl) tw_1759 d_X12_goOn_198 rfl (wr_1_17 w179) ?_
                    refine aw_iload_n (i := 1) rfl d_X12_goOn_201 1 rfl ?_
                    refine aw_dup2 d_X12_goOn_202 ⟨rfl, rfl⟩ ?_
                    obtain ⟨b182, k⟩ := k
                    refine aw_iald (ws_213 w179) b182 d_X12_goOn_203 ?_
                    refine aw_iconst (v := 1) d_X12_goOn_204 ic_1 ?_
                    refine aw_iadd d_X12_goOn_205 ?_
                    obtain ⟨b183, k⟩ := k
                    refine aw_iast (ws_213 w179) b183 d_X12_goOn_206 ?_
                    refine aw_goto (tgt := 0) d_X12_goOn_207 rfl ?_
                    exact aw_lvp [0, 1] [(0, .ref 1), (1, .int x1)] rfl k
                  · have k := k.2 c181
                    exact aw_vret rfl d_X12_goOn_166 ⟨Nat.le_refl _, Nat.le_refl _⟩ ⟨rfl, k⟩
              · have k := k.2 c173
                refine aw_aload_n (i := 0) rfl d_X12_goOn_123 0 rfl ?_
                refine aw_aload_n (i := 0) rfl d_X12_goOn_124 0 rfl ?_
                refine aw_getr (k0 := 20) kc_12 (ws_1 w159) (Nat.le_of_ble_eq_true rfl) tw_1762 d_X12_goOn_125 rfl (wr_1_20 w159) ?_
                refine aw_iload_n (i := 1) rfl d_X12_goOn_128 1 rfl ?_
                obtain ⟨b184, k⟩ := k
                refine aw_iald (ws_216 w159) b184 d_X12_goOn_129 ?_
                refine aw_iconst (v := 2) d_X12_goOn_130 ic_2 ?_
                refine aw_Vv 1 [.int (h_i h158 216 x1.toNatClampNeg), .int 2] [] d_X12_goOn_131 (cV_X12_miss (d + 0) 0 0) kc_12 (ws_1 w159) tw_2356 rfl (rr0 (Nat.le_of_ble_eq_true rfl) (Nat.le_of_ble_eq_true rfl)) (Nat.le_of_ble_eq_true rfl) xs0 k (fun h185 kk => ?_)
                obtain ⟨w186, k⟩ := kk
                refine aw_aload_n (i := 0) rfl d_X12_goOn_134 0 rfl ?_
                refine aw_getr (k0 := 20) kc_12 (ws_1 w186) (Nat.le_of_ble_eq_true rfl) tw_1762 d_X12_goOn_135 rfl (wr_1_20 w186) ?_
                refine aw_iload_n (i := 1) rfl d_X12_goOn_138 1 rfl ?_
                refine aw_dup2 d_X12_goOn_139 ⟨rfl, rfl⟩ ?_
                obtain ⟨b188, k⟩ := k
                refine aw_iald (ws_216 w186) b188 d_X12_goOn_140 ?_
                refine aw_iconst (v := 1) d_X12_goOn_141 ic_1 ?_
                refine aw_iadd d_X12_goOn_142 ?_
                obtain ⟨b189, k⟩ := k
                refine aw_iast (ws_216 w186) b189 d_X12_goOn_143 ?_
                refine aw_goto (tgt := 167) d_X12_goOn_144 rfl ?_
                refine aw_goto (tgt := 197) d_X12_goOn_167 rfl ?_
                refine aw_aload_n (i := 0) rfl d_X12_goOn_197 0 rfl ?_
                refine aw_getr (k0 := 17) kc_12 (ws_1 w186) (Nat.le_of_ble_eq_true rfl) tw_1759 d_X12_goOn_198 rfl (wr_1_17 w186) ?_
                refine aw_iload_n (i := 1) rfl d_X12_goOn_201 1 rfl ?_
                refine aw_dup2 d_X12_goOn_202 ⟨rfl, rfl⟩ ?_
                obtain ⟨b190, k⟩ := k
                refine aw_iald (ws_213 w186) b190 d_X12_goOn_203 ?_
                refine aw_vi (v2 := (h_i h185 213 x1.toNatClampNeg)) (rfl) ?_
                refine aw_iconst (v := 1) d_X12_goOn_204 ic_1 ?_
                refine aw_iadd d_X12_goOn_205 ?_
                obtain ⟨b191, k⟩ := k
                refine aw_iast (ws_213 w186) b191 d_X12_goOn_206 ?_
                refine aw_goto (tgt := 0) d_X12_goOn_207 rfl ?_
                exact aw_lvp [0, 1] [(0, .ref 1), (1, .int x1)] rfl k
          · have k := k.2 c161
            refine aw_aload_n (i := 0) rfl d_X12_goOn_100 0 rfl ?_
            refine aw_iload_n (i := 1) rfl d_X12_goOn_101 1 rfl ?_
            refine aw_aload_n (i := 0) rfl d_X12_goOn_102 0 rfl ?_
            refine aw_getr (k0 := 40) kc_12 (ws_1 w159) (Nat.le_of_ble_eq_true rfl) tw_1782 d_X12_goOn_103 rfl (wr_1_40 w159) ?_
            refine aw_iload_n (i := 2) rfl d_X12_goOn_106 2 rfl ?_
            obtain ⟨b192, k⟩ := k
            refine aw_iald (ws_229 w159) b192 d_X12_goOn_107 ?_
            refine aw_Vv 1 [.int x1, .int (h_i h158 229 (((150 * (h_i h 212 x1.toNatClampNeg)) + (h_i h 213 x1.toNatClampNeg)) : Int32).toNatClampNeg)] [] d_X12_goOn_108 (cV_X12_setOut (d + 1) 0 0) kc_12 (ws_1 w159) tw_2352 rfl (rr0 (Nat.le_of_ble_eq_true rfl) (Nat.le_of_ble_eq_true rfl)) (Nat.le_of_ble_eq_true rfl) xs0 k (fun h193 kk => ?_)
            obtain ⟨w194, k⟩ := kk
            exact aw_vret rfl d_X12_goOn_111 ⟨Nat.le_refl _, Nat.le_refl _⟩ ⟨rfl, k⟩
    · have k := k.2 c105
      refine aw_aload_n (i := 0) rfl d_X12_goOn_30 0 rfl ?_
      refine aw_iload_n (i := 1) rfl d_X12_goOn_31 1 rfl ?_
      refine aw_Vv 1 [.int x1] [] d_X12_goOn_32 (cV_X12_goHome (d + 2) 0 0) kc_12 (ws_1 w) tw_2344 rfl (rr0 (Nat.le_of_ble_eq_true rfl) (Nat.le_of_ble_eq_true rfl)) (Nat.le_of_ble_eq_true rfl) xs0 k (fun h196 kk => ?_)
      obtain ⟨w197, k⟩ := kk
      exact aw_vret rfl d_X12_goOn_35 ⟨Nat.le_refl _, Nat.le_refl _⟩ ⟨rfl, k⟩
theorem t_X12_fact (d : Nat) (h : Hp_) (w : Wf h) (x1 : Int32) (x2 : Int32) (x3 : Int32) (K : Int32 → Hp_ → Prop) (k : Ci (m_X12_isOpen (d + 2) 0 0) [.ref 1, .int x1, .int x3] h (fun r3 h1 => Wf h1 ∧ ((r3 = 0 → K (-1) h1) ∧ (¬ r3 = 0 → (¬ (0 ≤ x2 ∧ x2 ≤ 7) → K (-1) h1) ∧ ((0 ≤ x2 ∧ x2 ≤ 7) → Ci (m_X12_factOf (d + 0) 0 0) [.ref 1, .int x1, .int x2, .int x3] h1 (fun r10 h8 => Wf h8 ∧ (K r10 h8))))))) : Ci (m_X12_fact (d + 3) 0 0) [.ref 1, .int x1, .int x2, .int x3] h K := by
  refine Ct.of (fun _ _ _ => trivial) rfl (Nat.le_of_ble_eq_true rfl) ?_
  show AW (m_X12_fact (d + 3) 0 0) 0 0 0 [(0, .ref 1), (1, .int x1), (2, .int x2), (3, .int x3)] [] h (kI K)
  refine aw_aload_n (i := 0) rfl d_X12_fact_0 0 rfl ?_
  refine aw_iload_n (i := 1) rfl d_X12_fact_1 1 rfl ?_
  refine aw_iload_n (i := 3) rfl d_X12_fact_2 3 rfl ?_
  refine aw_Vi 1 [.int x1, .int x3] [] d_X12_fact_3 (cV_X12_isOpen (d + 2) 0 0) kc_12 (ws_1 w) tw_2515 rfl (rr0 (Nat.le_of_ble_eq_true rfl) (Nat.le_of_ble_eq_true rfl)) (Nat.le_of_ble_eq_true rfl) xs0 k (fun r3 h1 kk => ?_)
  obtain ⟨w2, k⟩ := kk
  refine aw_if_eq (tgt := 29) d_X12_fact_6 rfl (fun c4 => ?_) (fun c4 => ?_)
  · have k := k.1 c4
    refine aw_iconst (v := (-1)) d_X12_fact_29 ic_m1 ?_
    exact aw_iret rfl d_X12_fact_30 ⟨Nat.le_refl _, Nat.le_refl _⟩ ⟨_, rfl, k⟩
  · have k := k.2 c4
    refine aw_iload_n (i := 2) rfl d_X12_fact_9 2 rfl ?_
    refine aw_iconst (v := 0) d_X12_fact_10 ic_0 ?_
    refine aw_bipush (v := 7) d_X12_fact_11 ib_7 ?_
    refine aw_Si [.int x2, .int 0, .int 7] [] d_X12_fact_13 (cS_X12_in (d + 0) 0 0) tw_2147 rfl (rr0 (Nat.le_of_ble_eq_true rfl) (Nat.le_of_ble_eq_true rfl)) (Nat.le_of_ble_eq_true rfl) xs0 (s_X12_in _ _ x2 0 7) (fun _ _ kk => ?_)
    obtain ⟨e5, e6⟩ := kk
    rw [e5, e6]
    refine aw_ifb_eq (tgt := 29) d_X12_fact_16 rfl (fun c7 => ?_) (fun c7 => ?_)
    · have k := k.1 c7
      refine aw_iconst (v := (-1)) d_X12_fact_29 ic_m1 ?_
      exact aw_iret rfl d_X12_fact_30 ⟨Nat.le_refl _, Nat.le_refl _⟩ ⟨_, rfl, k⟩
    · have k := k.2 c7
      refine aw_aload_n (i := 0) rfl d_X12_fact_19 0 rfl ?_
      refine aw_iload_n (i := 1) rfl d_X12_fact_20 1 rfl ?_
      refine aw_iload_n (i := 2) rfl d_X12_fact_21 2 rfl ?_
      refine aw_iload_n (i := 3) rfl d_X12_fact_22 3 rfl ?_
      refine aw_Vi 1 [.int x1, .int x2, .int x3] [] d_X12_fact_23 (cV_X12_factOf (d + 0) 0 0) kc_12 (ws_1 w2) tw_2519 rfl (rr0 (Nat.le_of_ble_eq_true rfl) (Nat.le_of_ble_eq_true rfl)) (Nat.le_of_ble_eq_true rfl) xs0 k (fun r10 h8 kk => ?_)
      obtain ⟨w9, k⟩ := kk
      refine aw_goto (tgt := 30) d_X12_fact_26 rfl ?_
      exact aw_iret rfl d_X12_fact_30 ⟨Nat.le_refl _, Nat.le_refl _⟩ ⟨_, rfl, k⟩
theorem t_X12_whatIs (d : Nat) (h : Hp_) (w : Wf h) (x1 : Int32) (x2 : Int32) (K : Int32 → Hp_ → Prop) (k : vp_in x1 30 ∧ (vp_in (h_i h 262 x1.toNatClampNeg) 10 ∧ (Ci (m_X12_factsThat (d + 1) 0 0) [.ref 1, .int x1, .int 2, .int x2] h (fun r5 h3 => Wf h3 ∧ ((((h_i h 264 ((h_i h 262 x1.toNatClampNeg) : Int32).toNatClampNeg) &&& r5) = 0 → Ci (m_X12_lacks (d + 2) 0 0) [.ref 1, .int x1, .int x2] h3 (fun r9 h7 => Wf h7 ∧ ((¬ r9 = 0 → K 0 h7) ∧ (r9 = 0 → K 1 h7)))) ∧ (¬ ((h_i h 264 ((h_i h 262 x1.toNatClampNeg) : Int32).toNatClampNeg) &&& r5) = 0 → K 2 h3)))))) : Ci (m_X12_whatIs (d + 3) 0 0) [.ref 1, .int x1, .int x2] h K := by
  refine Ct.of (fun _ _ _ => trivial) rfl (Nat.le_of_ble_eq_true rfl) ?_
  show AW (m_X12_whatIs (d + 3) 0 0) 0 0 0 [(0, .ref 1), (1, .int x1), (2, .int x2)] [] h (kI K)
  refine aw_aload_n (i := 0) rfl d_X12_whatIs_0 0 rfl ?_
  refine aw_getr (k0 := 83) kc_12 (ws_1 w) (Nat.le_of_ble_eq_true rfl) tw_1825 d_X12_whatIs_1 rfl (wr_1_83 w) ?_
  refine aw_aload_n (i := 0) rfl d_X12_whatIs_4 0 rfl ?_
  refine aw_getr (k0 := 81) kc_12 (ws_1 w) (Nat.le_of_ble_eq_true rfl) tw_1823 d_X12_whatIs_5 rfl (wr_1_81 w) ?_
  refine aw_iload_n (i := 1) rfl d_X12_whatIs_8 1 rfl ?_
  obtain ⟨b1, k⟩ := k
  refine aw_iald (ws_262 w) b1 d_X12_whatIs_9 ?_
  obtain ⟨b2, k⟩ := k
  refine aw_iald (ws_264 w) b2 d_X12_whatIs_10 ?_
  refine aw_aload_n (i := 0) rfl d_X12_whatIs_11 0 rfl ?_
  refine aw_iload_n (i := 1) rfl d_X12_whatIs_12 1 rfl ?_
  refine aw_iconst (v := 2) d_X12_whatIs_13 ic_2 ?_
  refine aw_iload_n (i := 2) rfl d_X12_whatIs_14 2 rfl ?_
  refine aw_Vi 1 [.int x1, .int 2, .int x2] [.int (h_i h 264 ((h_i h 262 x1.toNatClampNeg) : Int32).toNatClampNeg)] d_X12_whatIs_15 (cV_X12_factsThat (d + 1) 0 0) kc_12 (ws_1 w) tw_2531 rfl (rr0 (Nat.le_of_ble_eq_true rfl) (Nat.le_of_ble_eq_true rfl)) (Nat.le_of_ble_eq_true rfl) xs0 k (fun r5 h3 kk => ?_)
  obtain ⟨w4, k⟩ := kk
  refine aw_iand d_X12_whatIs_18 ?_
  refine aw_if_eq (tgt := 24) d_X12_whatIs_19 rfl (fun c6 => ?_) (fun c6 => ?_)
  · have k := k.1 c6
    refine aw_aload_n (i := 0) rfl d_X12_whatIs_24 0 rfl ?_
    refine aw_iload_n (i := 1) rfl d_X12_whatIs_25 1 rfl ?_
    refine aw_iload_n (i := 2) rfl d_X12_whatIs_26 2 rfl ?_
    refine aw_Vi 1 [.int x1, .int x2] [] d_X12_whatIs_27 (cV_X12_lacks (d + 2) 0 0) kc_12 (ws_1 w4) tw_2535 rfl (rr0 (Nat.le_of_ble_eq_true rfl) (Nat.le_of_ble_eq_true rfl)) (Nat.le_of_ble_eq_true rfl) xs0 k (fun r9 h7 kk => ?_)
    obtain ⟨w8, k⟩ := kk
    refine aw_if_ne (tgt := 37) d_X12_whatIs_30 rfl (fun c10 => ?_) (fun c10 => ?_)
    · have k := k.1 c10
      refine aw_iconst (v := 0) d_X12_whatIs_37 ic_0 ?_
      exact aw_iret rfl d_X12_whatIs_38 ⟨Nat.le_refl _, Nat.le_refl _⟩ ⟨_, rfl, k⟩
    · have k := k.2 c10
      refine aw_iconst (v := 1) d_X12_whatIs_33 ic_1 ?_
      refine aw_goto (tgt := 38) d_X12_whatIs_34 rfl ?_
      exact aw_iret rfl d_X12_whatIs_38 ⟨Nat.le_refl _, Nat.le_refl _⟩ ⟨_, rfl, k⟩
  · have k := k.2 c6
    refine aw_iconst (v := 2) d_X12_whatIs_22 ic_2 ?_
    exact aw_iret rfl d_X12_whatIs_23 ⟨Nat.le_refl _, Nat.le_refl _⟩ ⟨_, rfl, k⟩
theorem t_X12_next (d : Nat) (h : Hp_) (w : Wf h) (x1 : Int32) (K : Int32 → Hp_ → Prop) (k : ((0 ≤ x1 ∧ x1 ≤ (h_i h 1 96) - 1) → Ci (m_X12_factsThat (d + 1) 0 0) [.ref 1, .int x1, .int 0, .int (h_i h 1 0)] h (fun r6 h4 => Wf h4 ∧ (Ci (m_X12_factsThat (d + 1) 0 0) [.ref 1, .int x1, .int 3, .int (h_i h4 1 0)] h4 (fun r9 h7 => Wf h7 ∧ (Ci (m_X12_standing (d + 2) 0 0) [.ref 1, .int x1, .int (h_i h7 1 0)] h7 (fun r12 h10 => Wf h10 ∧ (AW (m_X12_next (d + 3) 0 0) 0 0 54 [(0, .ref 1), (1, .int x1), (2, .int (r6 ||| r9)), (3, .int r12), (4, .int (-1)), (5, .int 0), (6, .int 0), (7, .int 0)] [] h10 (kI K)))))))) ∧ (¬ (0 ≤ x1 ∧ x1 ≤ (h_i h 1 96) - 1) → K (-1) h)) : Ci (m_X12_next (d + 3) 0 0) [.ref 1, .int x1] h K := by
  refine Ct.of (fun _ _ _ => trivial) rfl (Nat.le_of_ble_eq_true rfl) ?_
  show AW (m_X12_next (d + 3) 0 0) 0 0 0 [(0, .ref 1), (1, .int x1)] [] h (kI K)
  refine aw_aload_n (i := 0) rfl d_X12_next_0 0 rfl ?_
  refine aw_iload_n (i := 1) rfl d_X12_next_1 1 rfl ?_
  refine aw_Vi 1 [.int x1] [] d_X12_next_2 (cV_X12_isCase (d + 1) 0 0) kc_12 (ws_1 w) tw_2507 rfl (rr0 (Nat.le_of_ble_eq_true rfl) (Nat.le_of_ble_eq_true rfl)) (Nat.le_of_ble_eq_true rfl) xs0 (s_X12_isCase _ _ w x1) (fun _ _ kk => ?_)
  obtain ⟨e1, e2⟩ := kk
  rw [e1, e2]
  refine aw_ifb_ne (tgt := 10) d_X12_next_5 rfl (fun c3 => ?_) (fun c3 => ?_)
  · have k := k.1 c3
    refine aw_aload_n (i := 0) rfl d_X12_next_10 0 rfl ?_
    refine aw_iload_n (i := 1) rfl d_X12_next_11 1 rfl ?_
    refine aw_iconst (v := 0) d_X12_next_12 ic_0 ?_
    refine aw_aload_n (i := 0) rfl d_X12_next_13 0 rfl ?_
    refine aw_geti (k0 := 0) kc_12 (ws_1 w) (Nat.le_of_ble_eq_true rfl) tw_1742 d_X12_next_14 rfl ?_
    refine aw_Vi 1 [.int x1, .int 0, .int (h_i h 1 0)] [] d_X12_next_17 (cV_X12_factsThat (d + 1) 0 0) kc_12 (ws_1 w) tw_2531 rfl (rr0 (Nat.le_of_ble_eq_true rfl) (Nat.le_of_ble_eq_true rfl)) (Nat.le_of_ble_eq_true rfl) xs0 k (fun r6 h4 kk => ?_)
    obtain ⟨w5, k⟩ := kk
    refine aw_aload_n (i := 0) rfl d_X12_next_20 0 rfl ?_
    refine aw_iload_n (i := 1) rfl d_X12_next_21 1 rfl ?_
    refine aw_iconst (v := 3) d_X12_next_22 ic_3 ?_
    refine aw_aload_n (i := 0) rfl d_X12_next_23 0 rfl ?_
    refine aw_geti (k0 := 0) kc_12 (ws_1 w5) (Nat.le_of_ble_eq_true rfl) tw_1742 d_X12_next_24 rfl ?_
    refine aw_Vi 1 [.int x1, .int 3, .int (h_i h4 1 0)] [.int r6] d_X12_next_27 (cV_X12_factsThat (d + 1) 0 0) kc_12 (ws_1 w5) tw_2531 rfl (rr0 (Nat.le_of_ble_eq_true rfl) (Nat.le_of_ble_eq_true rfl)) (Nat.le_of_ble_eq_true rfl) xs0 k (fun r9 h7 kk => ?_)
    obtain ⟨w8, k⟩ := kk
    refine aw_ior d_X12_next_30 ?_
    refine aw_istore_n (i := 2) rfl [(0, .ref 1), (1, .int x1), (2, .int (r6 ||| r9))] d_X12_next_31 (Nat.le_of_ble_eq_true rfl) rfl rfl ?_
    refine aw_aload_n (i := 0) rfl d_X12_next_32 0 rfl ?_
    refine aw_iload_n (i := 1) rfl d_X12_next_33 1 rfl ?_
    refine aw_aload_n (i := 0) rfl d_X12_next_34 0 rfl ?_
    refine aw_geti (k0 := 0) kc_12 (ws_1 w8) (Nat.le_of_ble_eq_true rfl) tw_1742 d_X12_next_35 rfl ?_
    refine aw_Vi 1 [.int x1, .int (h_i h7 1 0)] [] d_X12_next_38 (cV_X12_standing (d + 2) 0 0) kc_12 (ws_1 w8) tw_2539 rfl (rr0 (Nat.le_of_ble_eq_true rfl) (Nat.le_of_ble_eq_true rfl)) (Nat.le_of_ble_eq_true rfl) xs0 k (fun r12 h10 kk => ?_)
    obtain ⟨w11, k⟩ := kk
    refine aw_istore_n (i := 3) rfl [(0, .ref 1), (1, .int x1), (2, .int (r6 ||| r9)), (3, .int r12)] d_X12_next_41 (Nat.le_of_ble_eq_true rfl) rfl rfl ?_
    refine aw_iconst (v := (-1)) d_X12_next_42 ic_m1 ?_
    refine aw_istore [(0, .ref 1), (1, .int x1), (2, .int (r6 ||| r9)), (3, .int r12), (4, .int (-1))] d_X12_next_43 (Nat.le_of_ble_eq_true rfl) rfl rfl ?_
    refine aw_iconst (v := 0) d_X12_next_45 ic_0 ?_
    refine aw_istore [(0, .ref 1), (1, .int x1), (2, .int (r6 ||| r9)), (3, .int r12), (4, .int (-1)), (5, .int 0)] d_X12_next_46 (Nat.le_of_ble_eq_true rfl) rfl rfl ?_
    refine aw_iconst (v := 0) d_X12_next_48 ic_0 ?_
    refine aw_istore [(0, .ref 1), (1, .int x1), (2, .int (r6 ||| r9)), (3, .int r12), (4, .int (-1)), (5, .int 0), (6, .int 0)] d_X12_next_49 (Nat.le_of_ble_eq_true rfl) rfl rfl ?_
    refine aw_iconst (v := 0) d_X12_next_51 ic_0 ?_
    refine aw_istore [(0, .ref 1), (1, .int x1), (2, .int (r6 ||| r9)), (3, .int r12), (4, .int (-1)), (5, .int 0), (6, .int 0), (7, .int 0)] d_X12_next_52 (Nat.le_of_ble_eq_true rfl) rfl rfl ?_
    exact k
  · have k := k.2 c3
    refine aw_iconst (v := (-1)) d_X12_next_8 ic_m1 ?_
    exact aw_iret rfl d_X12_next_9 ⟨Nat.le_refl _, Nat.le_refl _⟩ ⟨_, rfl, k⟩
theorem t_X12_next_54 (d : Nat) (h : Hp_) (x1 : Int32) (x2 : Int32) (x3 : Int32) (x4 : Int32) (x5 : Int32) (x6 : Int32) (x7 : Int32) (K : Int32 → Hp_ → Prop) (k : (8 ≤ x7 → K x4 h) ∧ (¬ 8 ≤ x7 → AW (m_X12_next (d + 3) 0 0) 0 0 70 [(0, .ref 1), (1, .int x1), (2, .int x2), (3, .int x3), (4, .int x4), (5, .int x5), (6, .int x6), (7, .int x7), (8, .int 0), (9, .int 0), (10, .int 0)] [] h (kI K))) : AW (m_X12_next (d + 3) 0 0) 0 0 54 [(0, .ref 1), (1, .int x1), (2, .int x2), (3, .int x3), (4, .int x4), (5, .int x5), (6, .int x6), (7, .int x7)] [] h (kI K) := by
  refine aw_iload d_X12_next_54 7 rfl ?_
  refine aw_bipush (v := 8) d_X12_next_56 ib_8 ?_
  refine aw_icmp_ge (tgt := 212) d_X12_next_58 rfl (fun c13 => ?_) (fun c13 => ?_)
  · have k := k.1 c13
    refine aw_iload d_X12_next_212 4 rfl ?_
    exact aw_iret rfl d_X12_next_214 ⟨Nat.le_refl _, Nat.le_refl _⟩ ⟨_, rfl, k⟩
  · have k := k.2 c13
    refine aw_iconst (v := 0) d_X12_next_61 ic_0 ?_
    refine aw_istore [(0, .ref 1), (1, .int x1), (2, .int x2), (3, .int x3), (4, .int x4), (5, .int x5), (6, .int x6), (7, .int x7), (8, .int 0)] d_X12_next_62 (Nat.le_of_ble_eq_true rfl) rfl rfl ?_
    refine aw_iconst (v := 0) d_X12_next_64 ic_0 ?_
    refine aw_istore [(0, .ref 1), (1, .int x1), (2, .int x2), (3, .int x3), (4, .int x4), (5, .int x5), (6, .int x6), (7, .int x7), (8, .int 0), (9, .int 0)] d_X12_next_65 (Nat.le_of_ble_eq_true rfl) rfl rfl ?_
    refine aw_iconst (v := 0) d_X12_next_67 ic_0 ?_
    refine aw_istore [(0, .ref 1), (1, .int x1), (2, .int x2), (3, .int x3), (4, .int x4), (5, .int x5), (6, .int x6), (7, .int x7), (8, .int 0), (9, .int 0), (10, .int 0)] d_X12_next_68 (Nat.le_of_ble_eq_true rfl) rfl rfl ?_
    exact k
theorem t_X12_next_70 (d : Nat) (h : Hp_) (w : Wf h) (x1 : Int32) (x2 : Int32) (x3 : Int32) (x4 : Int32) (x5 : Int32) (x6 : Int32) (x7 : Int32) (x8 : Int32) (x9 : Int32) (x10 : Int32) (K : Int32 → Hp_ → Prop) (k : vp_in x1 30 ∧ (((h_i h 276 x1.toNatClampNeg) ≤ x10 → Ci (m_J9_min_7cf53 (d + 0) 0 0) [.int x8, .int x9] h (fun r18 h16 => Wf h16 ∧ ((((x2 >>> (x7 &&& 31)) &&& 1) = 0 → AW (m_X12_next (d + 3) 0 0) 0 0 54 [(0, .ref 1), (1, .int x1), (2, .int x2), (3, .int x3), (4, .int x4), (5, .int x5), (6, .int x6), (7, .int (x7 + 1))] [] h16 (kI K)) ∧ (¬ ((x2 >>> (x7 &&& 31)) &&& 1) = 0 → (¬ r18 = 0 → (x5 < r18 → AW (m_X12_next (d + 3) 0 0) 0 0 54 [(0, .ref 1), (1, .int x1), (2, .int x2), (3, .int x3), (4, .int x7), (5, .int r18), (6, .int (x8 + x9)), (7, .int (x7 + 1))] [] h16 (kI K)) ∧ (¬ x5 < r18 → (¬ r18 = x5 → AW (m_X12_next (d + 3) 0 0) 0 0 54 [(0, .ref 1), (1, .int x1), (2, .int x2), (3, .int x3), (4, .int x4), (5, .int x5), (6, .int x6), (7, .int (x7 + 1))] [] h16 (kI K)) ∧ (r18 = x5 → ((x8 + x9) ≤ x6 → AW (m_X12_next (d + 3) 0 0) 0 0 54 [(0, .ref 1), (1, .int x1), (2, .int x2), (3, .int x3), (4, .int x4), (5, .int x5), (6, .int x6), (7, .int (x7 + 1))] [] h16 (kI K)) ∧ (¬ (x8 + x9) ≤ x6 → AW (m_X12_next (d + 3) 0 0) 0 0 54 [(0, .ref 1), (1, .int x1), (2, .int x2), (3, .int x3), (4, .int x7), (5, .int r18), (6, .int (x8 + x9)), (7, .int (x7 + 1))] [] h16 (kI K))))) ∧ (r18 = 0 → AW (m_X12_next (d + 3) 0 0) 0 0 54 [(0, .ref 1), (1, .int x1), (2, .int x2), (3, .int x3), (4, .int x4), (5, .int x5), (6, .int x6), (7, .int (x7 + 1))] [] h16 (kI K)))))) ∧ (¬ (h_i h 276 x1.toNatClampNeg) ≤ x10 → (¬ ((x3 >>> (x10 &&& 31)) &&& 1) = 1 → AW (m_X12_next (d + 3) 0 0) 0 0 70 [(0, .ref 1), (1, .int x1), (2, .int x2), (3, .int x3), (4, .int x4), (5, .int x5), (6, .int x6), (7, .int x7), (8, .int x8), (9, .int x9), (10, .int (x10 + 1))] [] h (kI K)) ∧ (((x3 >>> (x10 &&& 31)) &&& 1) = 1 → vp_in ((6 * x1) + x10) 180 ∧ (vp_in ((6 * x1) + x10) 180 ∧ (AW (m_X12_next (d + 3) 0 0) 0 0 70 [(0, .ref 1), (1, .int x1), (2, .int x2), (3, .int x3), (4, .int x4), (5, .int x5), (6, .int x6), (7, .int x7), (8, .int (x8 + (((h_i h 273 (((6 * x1) + x10) : Int32).toNatClampNeg) >>> (x7 &&& 31)) &&& 1))), (9, .int (x9 + (((h_i h 274 (((6 * x1) + x10) : Int32).toNatClampNeg) >>> (x7 &&& 31)) &&& 1))), (10, .int (x10 + 1))] [] h (kI K))))))) : AW (m_X12_next (d + 3) 0 0) 0 0 70 [(0, .ref 1), (1, .int x1), (2, .int x2), (3, .int x3), (4, .int x4), (5, .int x5), (6, .int x6), (7, .int x7), (8, .int x8), (9, .int x9), (10, .int x10)] [] h (kI K) := by
  refine aw_iload d_X12_next_70 10 rfl ?_
  refine aw_aload_n (i := 0) rfl d_X12_next_72 0 rfl ?_
  refine aw_getr (k0 := 95) kc_12 (ws_1 w) (Nat.le_of_ble_eq_true rfl) tw_1837 d_X12_next_73 rfl (wr_1_95 w) ?_
  refine aw_iload_n (i := 1) rfl d_X12_next_76 1 rfl ?_
  obtain ⟨b14, k⟩ := k
  refine aw_iald (ws_276 w) b14 d_X12_next_77 ?_
  refine aw_icmp_ge (tgt := 141) d_X12_next_78 rfl (fun c15 => ?_) (fun c15 => ?_)
  · have k := k.1 c15
    refine aw_iload d_X12_next_141 8 rfl ?_
    refine aw_iload d_X12_next_143 9 rfl ?_
    refine aw_Si [.int x8, .int x9] [] d_X12_next_145 (cS_J9_min_7cf53 (d + 0) 0 0) tw_2556 rfl (rr0 (Nat.le_of_ble_eq_true rfl) (Nat.le_of_ble_eq_true rfl)) (Nat.le_of_ble_eq_true rfl) xs0 k (fun r18 h16 kk => ?_)
    obtain ⟨w17, k⟩ := kk
    refine aw_istore [(0, .ref 1), (1, .int x1), (2, .int x2), (3, .int x3), (4, .int x4), (5, .int x5), (6, .int x6), (7, .int x7), (8, .int x8), (9, .int x9), (10, .int r18)] d_X12_next_148 (Nat.le_of_ble_eq_true rfl) rfl rfl ?_
    refine aw_iload_n (i := 2) rfl d_X12_next_150 2 rfl ?_
    refine aw_iload d_X12_next_151 7 rfl ?_
    refine aw_ishr d_X12_next_153 ?_
    refine aw_iconst (v := 1) d_X12_next_154 ic_1 ?_
    refine aw_iand d_X12_next_155 ?_
    refine aw_if_eq (tgt := 206) d_X12_next_156 rfl (fun c19 => ?_) (fun c19 => ?_)
    · have k := k.1 c19
      refine aw_iinc (v := (x7 + 1)) [(0, .ref 1), (1, .int x1), (2, .int x2), (3, .int x3), (4, .int x4), (5, .int x5), (6, .int x6), (7, .int (x7 + 1)), (8, .int x8), (9, .int x9), (10, .int r18)] d_X12_next_206 7 rfl rfl (Nat.le_of_ble_eq_true rfl) rfl rfl ?_
      refine aw_goto (tgt := 54) d_X12_next_209 rfl ?_
      exact aw_lvp [0, 1, 2, 3, 4, 5, 6, 7] [(0, .ref 1), (1, .int x1), (2, .int x2), (3, .int x3), (4, .int x4), (5, .int x5), (6, .int x6), (7, .int (x7 + 1))] rfl k
    · have k := k.2 c19
      refine aw_iload d_X12_next_159 10 rfl ?_
      refine aw_if_ne (tgt := 167) d_X12_next_161 rfl (fun c20 => ?_) (fun c20 => ?_)
      · have k := k.1 c20
        refine aw_iload d_X12_next_167 10 rfl ?_
        refine aw_iload d_X12_next_169 5 rfl ?_
        refine aw_icmp_gt (tgt := 191) d_X12_next_171 rfl (fun c21 => ?_) (fun c21 => ?_)
        · have k := k.1 c21
          refine aw_iload d_X12_next_191 7 rfl ?_
          refine aw_istore [(0, .ref 1), (1, .int x1), (2, .int x2), (3, .int x3), (4, .int x7), (5, .int x5), (6, .int x6), (7, .int x7), (8, .int x8), (9, .int x9), (10, .int r18)] d_X12_next_193 (Nat.le_of_ble_eq_true rfl) rfl rfl ?_
          refine aw_iload d_X12_next_195 10 rfl ?_
          refine aw_istore [(0, .ref 1), (1, .int x1), (2, .int x2), (3, .int x3), (4, .int x7), (5, .int r18), (6, .int x6), (7, .int x7), (8, .int x8), (9, .int x9), (10, .int r18)] d_X12_next_197 (Nat.le_of_ble_eq_true rfl) rfl rfl ?_
          refine aw_iload d_X12_next_199 8 rfl ?_
          refine aw_iload d_X12_next_201 9 rfl ?_
          refine aw_iadd d_X12_next_203 ?_
          refine aw_istore [(0, .ref 1), (1, .int x1), (2, .int x2), (3, .int x3), (4, .int x7), (5, .int r18), (6, .int (x8 + x9)), (7, .int x7), (8, .int x8), (9, .int x9), (10, .int r18)] d_X12_next_204 (Nat.le_of_ble_eq_true rfl) rfl rfl ?_
          refine aw_iinc (v := (x7 + 1)) [(0, .ref 1), (1, .int x1), (2, .int x2), (3, .int x3), (4, .int x7), (5, .int r18), (6, .int (x8 + x9)), (7, .int (x7 + 1)), (8, .int x8), (9, .int x9), (10, .int r18)] d_X12_next_206 7 rfl rfl (Nat.le_of_ble_eq_true rfl) rfl rfl ?_
          refine aw_goto (tgt := 54) d_X12_next_209 rfl ?_
          exact aw_lvp [0, 1, 2, 3, 4, 5, 6, 7] [(0, .ref 1), (1, .int x1), (2, .int x2), (3, .int x3), (4, .int x7), (5, .int r18), (6, .int (x8 + x9)), (7, .int (x7 + 1))] rfl k
        · have k := k.2 c21
          refine aw_iload d_X12_next_174 10 rfl ?_
          refine aw_iload d_X12_next_176 5 rfl ?_
          refine aw_icmp_ne (tgt := 206) d_X12_next_178 rfl (fun c22 => ?_) (fun c22 => ?_)
          · have k := k.1 c22
            refine aw_iinc (v := (x7 + 1)) [(0, .ref 1), (1, .int x1), (2, .int x2), (3, .int x3), (4, .int x4), (5, .int x5), (6, .int x6), (7, .int (x7 + 1)), (8, .int x8), (9, .int x9), (10, .int r18)] d_X12_next_206 7 rfl rfl (Nat.le_of_ble_eq_true rfl) rfl rfl ?_
            refine aw_goto (tgt := 54) d_X12_next_209 rfl ?_
            exact aw_lvp [0, 1, 2, 3, 4, 5, 6, 7] [(0, .ref 1), (1, .int x1), (2, .int x2), (3, .int x3), (4, .int x4), (5, .int x5), (6, .int x6), (7, .int (x7 + 1))] rfl k
          · have k := k.2 c22
            refine aw_iload d_X12_next_181 8 rfl ?_
            refine aw_iload d_X12_next_183 9 rfl ?_
            refine aw_iadd d_X12_next_185 ?_
            refine aw_iload d_X12_next_186 6 rfl ?_
            refine aw_icmp_le (tgt := 206) d_X12_next_188 rfl (fun c23 => ?_) (fun c23 => ?_)
            · have k := k.1 c23
              refine aw_iinc (v := (x7 + 1)) [(0, .ref 1), (1, .int x1), (2, .int x2), (3, .int x3), (4, .int x4), (5, .int x5), (6, .int x6), (7, .int (x7 + 1)), (8, .int x8), (9, .int x9), (10, .int r18)] d_X12_next_206 7 rfl rfl (Nat.le_of_ble_eq_true rfl) rfl rfl ?_
              refine aw_goto (tgt := 54) d_X12_next_209 rfl ?_
              exact aw_lvp [0, 1, 2, 3, 4, 5, 6, 7] [(0, .ref 1), (1, .int x1), (2, .int x2), (3, .int x3), (4, .int x4), (5, .int x5), (6, .int x6), (7, .int (x7 + 1))] rfl k
            · have k := k.2 c23
              refine aw_iload d_X12_next_191 7 rfl ?_
              refine aw_istore [(0, .ref 1), (1, .int x1), (2, .int x2), (3, .int x3), (4, .int x7), (5, .int x5), (6, .int x6), (7, .int x7), (8, .int x8), (9, .int x9), (10, .int r18)] d_X12_next_193 (Nat.le_of_ble_eq_true rfl) rfl rfl ?_
              refine aw_iload d_X12_next_195 10 rfl ?_
              refine aw_istore [(0, .ref 1), (1, .int x1), (2, .int x2), (3, .int x3), (4, .int x7), (5, .int r18), (6, .int x6), (7, .int x7), (8, .int x8), (9, .int x9), (10, .int r18)] d_X12_next_197 (Nat.le_of_ble_eq_true rfl) rfl rfl ?_
              refine aw_iload d_X12_next_199 8 rfl ?_
              refine aw_iload d_X12_next_201 9 rfl ?_
              refine aw_iadd d_X12_next_203 ?_
              refine aw_istore [(0, .ref 1), (1, .int x1), (2, .int x2), (3, .int x3), (4, .int x7), (5, .int r18), (6, .int (x8 + x9)), (7, .int x7), (8, .int x8), (9, .int x9), (10, .int r18)] d_X12_next_204 (Nat.le_of_ble_eq_true rfl) rfl rfl ?_
              refine aw_iinc (v := (x7 + 1)) [(0, .ref 1), (1, .int x1), (2, .int x2), (3, .int x3), (4, .int x7), (5, .int r18), (6, .int (x8 + x9)), (7, .int (x7 + 1)), (8, .int x8), (9, .int x9), (10, .int r18)] d_X12_next_206 7 rfl rfl (Nat.le_of_ble_eq_true rfl) rfl rfl ?_
              refine aw_goto (tgt := 54) d_X12_next_209 rfl ?_
              exact aw_lvp [0, 1, 2, 3, 4, 5, 6, 7] [(0, .ref 1), (1, .int x1), (2, .int x2), (3, .int x3), (4, .int x7), (5, .int r18), (6, .int (x8 + x9)), (7, .int (x7 + 1))] rfl k
      · have k := k.2 c20
        refine aw_goto (tgt := 206) d_X12_next_164 rfl ?_
        refine aw_iinc (v := (x7 + 1)) [(0, .ref 1), (1, .int x1), (2, .int x2), (3, .int x3), (4, .int x4), (5, .int x5), (6, .int x6), (7, .int (x7 + 1)), (8, .int x8), (9, .int x9), (10, .int r18)] d_X12_next_206 7 rfl rfl (Nat.le_of_ble_eq_true rfl) rfl rfl ?_
        refine aw_goto (tgt := 54) d_X12_next_209 rfl ?_
        exact aw_lvp [0, 1, 2, 3, 4, 5, 6, 7] [(0, .ref 1), (1, .int x1), (2, .int x2), (3, .int x3), (4, .int x4), (5, .int x5), (6, .int x6), (7, .int (x7 + 1))] rfl k
  · have k := k.2 c15
    refine aw_iload_n (i := 3) rfl d_X12_next_81 3 rfl ?_
    refine aw_iload d_X12_next_82 10 rfl ?_
    refine aw_ishr d_X12_next_84 ?_
    refine aw_iconst (v := 1) d_X12_next_85 ic_1 ?_
    refine aw_iand d_X12_next_86 ?_
    refine aw_iconst (v := 1) d_X12_next_87 ic_1 ?_
    refine aw_icmp_ne (tgt := 135) d_X12_next_88 rfl (fun c24 => ?_) (fun c24 => ?_)
    · have k := k.1 c24
      refine aw_iinc (v := (x10 + 1)) [(0, .ref 1), (1, .int x1), (2, .int x2), (3, .int x3), (4, .int x4), (5, .int x5), (6, .int x6), (7, .int x7), (8, .int x8), (9, .int x9), (10, .int (x10 + 1))] d_X12_next_135 10 rfl rfl (Nat.le_of_ble_eq_true rfl) rfl rfl ?_
      refine aw_goto (tgt := 70) d_X12_next_138 rfl ?_
      exact k
    · have k := k.2 c24
      refine aw_iload d_X12_next_91 8 rfl ?_
      refine aw_aload_n (i := 0) rfl d_X12_next_93 0 rfl ?_
      refine aw_getr (k0 := 92) kc_12 (ws_1 w) (Nat.le_of_ble_eq_true rfl) tw_1834 d_X12_next_94 rfl (wr_1_92 w) ?_
      refine aw_bipush (v := 6) d_X12_next_97 ib_6 ?_
      refine aw_iload_n (i := 1) rfl d_X12_next_99 1 rfl ?_
      refine aw_imul d_X12_next_100 ?_
      refine aw_iload d_X12_next_101 10 rfl ?_
      refine aw_iadd d_X12_next_103 ?_
      obtain ⟨b25, k⟩ := k
      refine aw_iald (ws_273 w) b25 d_X12_next_104 ?_
      refine aw_iload d_X12_next_105 7 rfl ?_
      refine aw_ishr d_X12_next_107 ?_
      refine aw_iconst (v := 1) d_X12_next_108 ic_1 ?_
      refine aw_iand d_X12_next_109 ?_
      refine aw_iadd d_X12_next_110 ?_
      refine aw_istore [(0, .ref 1), (1, .int x1), (2, .int x2), (3, .int x3), (4, .int x4), (5, .int x5), (6, .int x6), (7, .int x7), (8, .int (x8 + (((h_i h 273 (((6 * x1) + x10) : Int32).toNatClampNeg) >>> (x7 &&& 31)) &&& 1))), (9, .int x9), (10, .int x10)] d_X12_next_111 (Nat.le_of_ble_eq_true rfl) rfl rfl ?_
      refine aw_iload d_X12_next_113 9 rfl ?_
      refine aw_aload_n (i := 0) rfl d_X12_next_115 0 rfl ?_
      refine aw_getr (k0 := 93) kc_12 (ws_1 w) (Nat.le_of_ble_eq_true rfl) tw_1835 d_X12_next_116 rfl (wr_1_93 w) ?_
      refine aw_bipush (v := 6) d_X12_next_119 ib_6 ?_
      refine aw_iload_n (i := 1) rfl d_X12_next_121 1 rfl ?_
      refine aw_imul d_X12_next_122 ?_
      refine aw_iload d_X12_next_123 10 rfl ?_
      refine aw_iadd d_X12_next_125 ?_
      obtain ⟨b26, k⟩ := k
      refine aw_iald (ws_274 w) b26 d_X12_next_126 ?_
      refine aw_iload d_X12_next_127 7 rfl ?_
      refine aw_ishr d_X12_next_129 ?_
      refine aw_iconst (v := 1) d_X12_next_130 ic_1 ?_
      refine aw_iand d_X12_next_131 ?_
      refine aw_iadd d_X12_next_132 ?_
      refine aw_istore [(0, .ref 1), (1, .int x1), (2, .int x2), (3, .int x3), (4, .int x4), (5, .int x5), (6, .int x6), (7, .int x7), (8, .int (x8 + (((h_i h 273 (((6 * x1) + x10) : Int32).toNatClampNeg) >>> (x7 &&& 31)) &&& 1))), (9, .int (x9 + (((h_i h 274 (((6 * x1) + x10) : Int32).toNatClampNeg) >>> (x7 &&& 31)) &&& 1))), (10, .int x10)] d_X12_next_133 (Nat.le_of_ble_eq_true rfl) rfl rfl ?_
      refine aw_iinc (v := (x10 + 1)) [(0, .ref 1), (1, .int x1), (2, .int x2), (3, .int x3), (4, .int x4), (5, .int x5), (6, .int x6), (7, .int x7), (8, .int (x8 + (((h_i h 273 (((6 * x1) + x10) : Int32).toNatClampNeg) >>> (x7 &&& 31)) &&& 1))), (9, .int (x9 + (((h_i h 274 (((6 * x1) + x10) : Int32).toNatClampNeg) >>> (x7 &&& 31)) &&& 1))), (10, .int (x10 + 1))] d_X12_next_135 10 rfl rfl (Nat.le_of_ble_eq_true rfl) rfl rfl ?_
      refine aw_goto (tgt := 70) d_X12_next_138 rfl ?_
      exact k
theorem t_X12_rivalsOf (d : Nat) (h : Hp_) (w : Wf h) (x1 : Int32) (K : Int32 → Hp_ → Prop) (k : Ci (m_X12_joining (d + 2) 0 0) [.ref 1] h (fun r3 h1 => Wf h1 ∧ (AW (m_X12_rivalsOf (d + 3) 0 0) 0 0 10 [(0, .ref 1), (1, .int x1), (2, .int r3), (3, .int 0), (4, .int 0)] [] h1 (kI K)))) : Ci (m_X12_rivalsOf (d + 3) 0 0) [.ref 1, .int x1] h K := by
  refine Ct.of (fun _ _ _ => trivial) rfl (Nat.le_of_ble_eq_true rfl) ?_
  show AW (m_X12_rivalsOf (d + 3) 0 0) 0 0 0 [(0, .ref 1), (1, .int x1)] [] h (kI K)
  refine aw_aload_n (i := 0) rfl d_X12_rivalsOf_0 0 rfl ?_
  refine aw_Vi 1 [] [] d_X12_rivalsOf_1 (cV_X12_joining (d + 2) 0 0) kc_12 (ws_1 w) tw_2594 rfl (rr0 (Nat.le_of_ble_eq_true rfl) (Nat.le_of_ble_eq_true rfl)) (Nat.le_of_ble_eq_true rfl) xs0 k (fun r3 h1 kk => ?_)
  obtain ⟨w2, k⟩ := kk
  refine aw_istore_n (i := 2) rfl [(0, .ref 1), (1, .int x1), (2, .int r3)] d_X12_rivalsOf_4 (Nat.le_of_ble_eq_true rfl) rfl rfl ?_
  refine aw_iconst (v := 0) d_X12_rivalsOf_5 ic_0 ?_
  refine aw_istore_n (i := 3) rfl [(0, .ref 1), (1, .int x1), (2, .int r3), (3, .int 0)] d_X12_rivalsOf_6 (Nat.le_of_ble_eq_true rfl) rfl rfl ?_
  refine aw_iconst (v := 0) d_X12_rivalsOf_7 ic_0 ?_
  refine aw_istore [(0, .ref 1), (1, .int x1), (2, .int r3), (3, .int 0), (4, .int 0)] d_X12_rivalsOf_8 (Nat.le_of_ble_eq_true rfl) rfl rfl ?_
  exact k
theorem t_X12_rivalsOf_10 (d : Nat) (h : Hp_) (w : Wf h) (x1 : Int32) (x2 : Int32) (x3 : Int32) (x4 : Int32) (K : Int32 → Hp_ → Prop) (k : ((h_i h 1 102) ≤ x4 → K x3 h) ∧ (¬ (h_i h 1 102) ≤ x4 → Ci (m_X12_like (d + 0) 0 0) [.ref 1, .int x1, .int x4] h (fun r7 h5 => Wf h5 ∧ ((r7 < (h_i h5 1 103) → AW (m_X12_rivalsOf (d + 3) 0 0) 0 0 10 [(0, .ref 1), (1, .int x1), (2, .int x2), (3, .int (x3 ||| 0)), (4, .int (x4 + 1))] [] h5 (kI K)) ∧ (¬ r7 < (h_i h5 1 103) → Ci (m_X12_bestFrom (d + 1) 0 0) [.ref 1, .int x1, .int x4] h5 (fun r11 h9 => Wf h9 ∧ ((¬ r11 = x2 → AW (m_X12_rivalsOf (d + 3) 0 0) 0 0 10 [(0, .ref 1), (1, .int x1), (2, .int x2), (3, .int (x3 ||| 0)), (4, .int (x4 + 1))] [] h9 (kI K)) ∧ (r11 = x2 → AW (m_X12_rivalsOf (d + 3) 0 0) 0 0 10 [(0, .ref 1), (1, .int x1), (2, .int x2), (3, .int (x3 ||| ((1 : Int32) <<< (x4 &&& 31)))), (4, .int (x4 + 1))] [] h9 (kI K))))))))) : AW (m_X12_rivalsOf (d + 3) 0 0) 0 0 10 [(0, .ref 1), (1, .int x1), (2, .int x2), (3, .int x3), (4, .int x4)] [] h (kI K) := by
  refine aw_iload d_X12_rivalsOf_10 4 rfl ?_
  refine aw_aload_n (i := 0) rfl d_X12_rivalsOf_12 0 rfl ?_
  refine aw_geti (k0 := 102) kc_12 (ws_1 w) (Nat.le_of_ble_eq_true rfl) tw_1844 d_X12_rivalsOf_13 rfl ?_
  refine aw_icmp_ge (tgt := 61) d_X12_rivalsOf_16 rfl (fun c4 => ?_) (fun c4 => ?_)
  · have k := k.1 c4
    refine aw_iload_n (i := 3) rfl d_X12_rivalsOf_61 3 rfl ?_
    exact aw_iret rfl d_X12_rivalsOf_62 ⟨Nat.le_refl _, Nat.le_refl _⟩ ⟨_, rfl, k⟩
  · have k := k.2 c4
    refine aw_iload_n (i := 3) rfl d_X12_rivalsOf_19 3 rfl ?_
    refine aw_aload_n (i := 0) rfl d_X12_rivalsOf_20 0 rfl ?_
    refine aw_iload_n (i := 1) rfl d_X12_rivalsOf_21 1 rfl ?_
    refine aw_iload d_X12_rivalsOf_22 4 rfl ?_
    refine aw_Vi 1 [.int x1, .int x4] [.int x3] d_X12_rivalsOf_24 (cV_X12_like (d + 0) 0 0) kc_12 (ws_1 w) tw_2574 rfl (rr0 (Nat.le_of_ble_eq_true rfl) (Nat.le_of_ble_eq_true rfl)) (Nat.le_of_ble_eq_true rfl) xs0 k (fun r7 h5 kk => ?_)
    obtain ⟨w6, k⟩ := kk
    refine aw_aload_n (i := 0) rfl d_X12_rivalsOf_27 0 rfl ?_
    refine aw_geti (k0 := 103) kc_12 (ws_1 w6) (Nat.le_of_ble_eq_true rfl) tw_1845 d_X12_rivalsOf_28 rfl ?_
    refine aw_icmp_lt (tgt := 52) d_X12_rivalsOf_31 rfl (fun c8 => ?_) (fun c8 => ?_)
    · have k := k.1 c8
      refine aw_iconst (v := 0) d_X12_rivalsOf_52 ic_0 ?_
      refine aw_ior d_X12_rivalsOf_53 ?_
      refine aw_istore_n (i := 3) rfl [(0, .ref 1), (1, .int x1), (2, .int x2), (3, .int (x3 ||| 0)), (4, .int x4)] d_X12_rivalsOf_54 (Nat.le_of_ble_eq_true rfl) rfl rfl ?_
      refine aw_iinc (v := (x4 + 1)) [(0, .ref 1), (1, .int x1), (2, .int x2), (3, .int (x3 ||| 0)), (4, .int (x4 + 1))] d_X12_rivalsOf_55 4 rfl rfl (Nat.le_of_ble_eq_true rfl) rfl rfl ?_
      refine aw_goto (tgt := 10) d_X12_rivalsOf_58 rfl ?_
      exact k
    · have k := k.2 c8
      refine aw_aload_n (i := 0) rfl d_X12_rivalsOf_34 0 rfl ?_
      refine aw_iload_n (i := 1) rfl d_X12_rivalsOf_35 1 rfl ?_
      refine aw_iload d_X12_rivalsOf_36 4 rfl ?_
      refine aw_Vi 1 [.int x1, .int x4] [.int x3] d_X12_rivalsOf_38 (cV_X12_bestFrom (d + 1) 0 0) kc_12 (ws_1 w6) tw_2570 rfl (rr0 (Nat.le_of_ble_eq_true rfl) (Nat.le_of_ble_eq_true rfl)) (Nat.le_of_ble_eq_true rfl) xs0 k (fun r11 h9 kk => ?_)
      obtain ⟨w10, k⟩ := kk
      refine aw_iload_n (i := 2) rfl d_X12_rivalsOf_41 2 rfl ?_
      refine aw_icmp_ne (tgt := 52) d_X12_rivalsOf_42 rfl (fun c12 => ?_) (fun c12 => ?_)
      · have k := k.1 c12
        refine aw_iconst (v := 0) d_X12_rivalsOf_52 ic_0 ?_
        refine aw_ior d_X12_rivalsOf_53 ?_
        refine aw_istore_n (i := 3) rfl [(0, .ref 1), (1, .int x1), (2, .int x2), (3, .int (x3 ||| 0)), (4, .int x4)] d_X12_rivalsOf_54 (Nat.le_of_ble_eq_true rfl) rfl rfl ?_
        refine aw_iinc (v := (x4 + 1)) [(0, .ref 1), (1, .int x1), (2, .int x2), (3, .int (x3 ||| 0)), (4, .int (x4 + 1))] d_X12_rivalsOf_55 4 rfl rfl (Nat.le_of_ble_eq_true rfl) rfl rfl ?_
        refine aw_goto (tgt := 10) d_X12_rivalsOf_58 rfl ?_
        exact k
      · have k := k.2 c12
        refine aw_iconst (v := 1) d_X12_rivalsOf_45 ic_1 ?_
        refine aw_iload d_X12_rivalsOf_46 4 rfl ?_
        refine aw_ishl d_X12_rivalsOf_48 ?_
        refine aw_goto (tgt := 53) d_X12_rivalsOf_49 rfl ?_
        refine aw_ior d_X12_rivalsOf_53 ?_
        refine aw_istore_n (i := 3) rfl [(0, .ref 1), (1, .int x1), (2, .int x2), (3, .int (x3 ||| ((1 : Int32) <<< (x4 &&& 31)))), (4, .int x4)] d_X12_rivalsOf_54 (Nat.le_of_ble_eq_true rfl) rfl rfl ?_
        refine aw_iinc (v := (x4 + 1)) [(0, .ref 1), (1, .int x1), (2, .int x2), (3, .int (x3 ||| ((1 : Int32) <<< (x4 &&& 31)))), (4, .int (x4 + 1))] d_X12_rivalsOf_55 4 rfl rfl (Nat.le_of_ble_eq_true rfl) rfl rfl ?_
        refine aw_goto (tgt := 10) d_X12_rivalsOf_58 rfl ?_
        exact k
theorem t_X12_lending (d : Nat) (h : Hp_) (w : Wf h) (x1 : Int32) (K : Int32 → Hp_ → Prop) (k : (¬ (0 ≤ x1 ∧ x1 ≤ 1) → K (-1) h) ∧ ((0 ≤ x1 ∧ x1 ≤ 1) → Ci (m_X12_findLending (d + 2) 0 0) [.ref 1] h (fun r7 h5 => Wf h5 ∧ ((¬ r7 = 1000000000 → (¬ x1 = 0 → K (r7 - r7 / 1000000 * 1000000) h5) ∧ (x1 = 0 → K (r7 / 1000000) h5)) ∧ (r7 = 1000000000 → K (-1) h5))))) : Ci (m_X12_lending (d + 3) 0 0) [.ref 1, .int x1] h K := by
  refine Ct.of (fun _ _ _ => trivial) rfl (Nat.le_of_ble_eq_true rfl) ?_
  show AW (m_X12_lending (d + 3) 0 0) 0 0 0 [(0, .ref 1), (1, .int x1)] [] h (kI K)
  refine aw_iload_n (i := 1) rfl d_X12_lending_0 1 rfl ?_
  refine aw_iconst (v := 0) d_X12_lending_1 ic_0 ?_
  refine aw_iconst (v := 1) d_X12_lending_2 ic_1 ?_
  refine aw_Si [.int x1, .int 0, .int 1] [] d_X12_lending_3 (cS_X12_in (d + 0) 0 0) tw_2147 rfl (rr0 (Nat.le_of_ble_eq_true rfl) (Nat.le_of_ble_eq_true rfl)) (Nat.le_of_ble_eq_true rfl) xs0 (s_X12_in _ _ x1 0 1) (fun _ _ kk => ?_)
  obtain ⟨e1, e2⟩ := kk
  rw [e1, e2]
  refine aw_ifb_eq (tgt := 16) d_X12_lending_6 rfl (fun c3 => ?_) (fun c3 => ?_)
  · have k := k.1 c3
    refine aw_ldcw (v := 1000000000) d_X12_lending_16 tw_2651 ?_
    refine aw_istore_n (i := 2) rfl [(0, .ref 1), (1, .int x1), (2, .int 1000000000)] d_X12_lending_19 (Nat.le_of_ble_eq_true rfl) rfl rfl ?_
    refine aw_iload_n (i := 2) rfl d_X12_lending_20 2 rfl ?_
    refine aw_ldcw (v := 1000000000) d_X12_lending_21 tw_2651 ?_
    refine aw_icmp_ne (tgt := 31) d_X12_lending_24 rfl (fun c => absurd c (by decide)) (fun _ => ?_)
    refine aw_iconst (v := (-1)) d_X12_lending_27 ic_m1 ?_
    refine aw_goto (tgt := 48) d_X12_lending_28 rfl ?_
    exact aw_iret rfl d_X12_lending_48 ⟨Nat.le_refl _, Nat.le_refl _⟩ ⟨_, rfl, k⟩
  · have k := k.2 c3
    refine aw_aload_n (i := 0) rfl d_X12_lending_9 0 rfl ?_
    refine aw_Vi 1 [] [] d_X12_lending_10 (cV_X12_findLending (d + 2) 0 0) kc_12 (ws_1 w) tw_2643 rfl (rr0 (Nat.le_of_ble_eq_true rfl) (Nat.le_of_ble_eq_true rfl)) (Nat.le_of_ble_eq_true rfl) xs0 k (fun r7 h5 kk => ?_)
    obtain ⟨w6, k⟩ := kk
    refine aw_goto (tgt := 19) d_X12_lending_13 rfl ?_
    refine aw_istore_n (i := 2) rfl [(0, .ref 1), (1, .int x1), (2, .int r7)] d_X12_lending_19 (Nat.le_of_ble_eq_true rfl) rfl rfl ?_
    refine aw_iload_n (i := 2) rfl d_X12_lending_20 2 rfl ?_
    refine aw_ldcw (v := 1000000000) d_X12_lending_21 tw_2651 ?_
    refine aw_icmp_ne (tgt := 31) d_X12_lending_24 rfl (fun c8 => ?_) (fun c8 => ?_)
    · have k := k.1 c8
      refine aw_iload_n (i := 1) rfl d_X12_lending_31 1 rfl ?_
      refine aw_if_ne (tgt := 43) d_X12_lending_32 rfl (fun c9 => ?_) (fun c9 => ?_)
      · have k := k.1 c9
        refine aw_iload_n (i := 2) rfl d_X12_lending_43 2 rfl ?_
        refine aw_ldcw (v := 1000000) d_X12_lending_44 tw_2652 ?_
        refine aw_irem d_X12_lending_47 (by decide) ?_
        exact aw_iret rfl d_X12_lending_48 ⟨Nat.le_refl _, Nat.le_refl _⟩ ⟨_, rfl, k⟩
      · have k := k.2 c9
        refine aw_iload_n (i := 2) rfl d_X12_lending_35 2 rfl ?_
        refine aw_ldcw (v := 1000000) d_X12_lending_36 tw_2652 ?_
        refine aw_idiv d_X12_lending_39 (by decide) ?_
        refine aw_goto (tgt := 48) d_X12_lending_40 rfl ?_
        exact aw_iret rfl d_X12_lending_48 ⟨Nat.le_refl _, Nat.le_refl _⟩ ⟨_, rfl, k⟩
    · have k := k.2 c8
      refine aw_iconst (v := (-1)) d_X12_lending_27 ic_m1 ?_
      refine aw_goto (tgt := 48) d_X12_lending_28 rfl ?_
      exact aw_iret rfl d_X12_lending_48 ⟨Nat.le_refl _, Nat.le_refl _⟩ ⟨_, rfl, k⟩
theorem t_X12_lent (d : Nat) (h : Hp_) (w : Wf h) (x1 : Int32) (K : Int32 → Hp_ → Prop) (k : (¬ (0 ≤ x1 ∧ x1 ≤ (h_i h 1 7) - 1) → K (-1) h) ∧ ((0 ≤ x1 ∧ x1 ≤ (h_i h 1 7) - 1) → Ci (m_X12_findLending (d + 2) 0 0) [.ref 1] h (fun r6 h4 => Wf h4 ∧ ((¬ r6 = 1000000000 → Ci (m_X12_codeAll (d + 0) 0 0) [.ref 1] h4 (fun r10 h8 => Wf h8 ∧ (AW (m_X12_lent (d + 3) 0 0) 0 0 30 [(0, .ref 1), (1, .int x1), (2, .int r10), (3, .int (-1)), (4, .int 0)] [] h8 (kI K)))) ∧ (r6 = 1000000000 → K (-1) h4))))) : Ci (m_X12_lent (d + 3) 0 0) [.ref 1, .int x1] h K := by
  refine Ct.of (fun _ _ _ => trivial) rfl (Nat.le_of_ble_eq_true rfl) ?_
  show AW (m_X12_lent (d + 3) 0 0) 0 0 0 [(0, .ref 1), (1, .int x1)] [] h (kI K)
  refine aw_aload_n (i := 0) rfl d_X12_lent_0 0 rfl ?_
  refine aw_iload_n (i := 1) rfl d_X12_lent_1 1 rfl ?_
  refine aw_Vi 1 [.int x1] [] d_X12_lent_2 (cV_X12_isMan (d + 1) 0 0) kc_12 (ws_1 w) tw_2167 rfl (rr0 (Nat.le_of_ble_eq_true rfl) (Nat.le_of_ble_eq_true rfl)) (Nat.le_of_ble_eq_true rfl) xs0 (s_X12_isMan _ _ w x1) (fun _ _ kk => ?_)
  obtain ⟨e1, e2⟩ := kk
  rw [e1, e2]
  refine aw_ifb_eq (tgt := 18) d_X12_lent_5 rfl (fun c3 => ?_) (fun c3 => ?_)
  · have k := k.1 c3
    refine aw_iconst (v := (-1)) d_X12_lent_18 ic_m1 ?_
    exact aw_iret rfl d_X12_lent_19 ⟨Nat.le_refl _, Nat.le_refl _⟩ ⟨_, rfl, k⟩
  · have k := k.2 c3
    refine aw_aload_n (i := 0) rfl d_X12_lent_8 0 rfl ?_
    refine aw_Vi 1 [] [] d_X12_lent_9 (cV_X12_findLending (d + 2) 0 0) kc_12 (ws_1 w) tw_2643 rfl (rr0 (Nat.le_of_ble_eq_true rfl) (Nat.le_of_ble_eq_true rfl)) (Nat.le_of_ble_eq_true rfl) xs0 k (fun r6 h4 kk => ?_)
    obtain ⟨w5, k⟩ := kk
    refine aw_ldcw (v := 1000000000) d_X12_lent_12 tw_2651 ?_
    refine aw_icmp_ne (tgt := 20) d_X12_lent_15 rfl (fun c7 => ?_) (fun c7 => ?_)
    · have k := k.1 c7
      refine aw_aload_n (i := 0) rfl d_X12_lent_20 0 rfl ?_
      refine aw_Vi 1 [] [] d_X12_lent_21 (cV_X12_codeAll (d + 0) 0 0) kc_12 (ws_1 w5) tw_2656 rfl (rr0 (Nat.le_of_ble_eq_true rfl) (Nat.le_of_ble_eq_true rfl)) (Nat.le_of_ble_eq_true rfl) xs0 k (fun r10 h8 kk => ?_)
      obtain ⟨w9, k⟩ := kk
      refine aw_istore_n (i := 2) rfl [(0, .ref 1), (1, .int x1), (2, .int r10)] d_X12_lent_24 (Nat.le_of_ble_eq_true rfl) rfl rfl ?_
      refine aw_iconst (v := (-1)) d_X12_lent_25 ic_m1 ?_
      refine aw_istore_n (i := 3) rfl [(0, .ref 1), (1, .int x1), (2, .int r10), (3, .int (-1))] d_X12_lent_26 (Nat.le_of_ble_eq_true rfl) rfl rfl ?_
      refine aw_iconst (v := 0) d_X12_lent_27 ic_0 ?_
      refine aw_istore [(0, .ref 1), (1, .int x1), (2, .int r10), (3, .int (-1)), (4, .int 0)] d_X12_lent_28 (Nat.le_of_ble_eq_true rfl) rfl rfl ?_
      exact k
    · have k := k.2 c7
      refine aw_iconst (v := (-1)) d_X12_lent_18 ic_m1 ?_
      exact aw_iret rfl d_X12_lent_19 ⟨Nat.le_refl _, Nat.le_refl _⟩ ⟨_, rfl, k⟩
theorem t_X12_lent_30 (d : Nat) (h : Hp_) (w : Wf h) (x1 : Int32) (x2 : Int32) (x3 : Int32) (x4 : Int32) (K : Int32 → Hp_ → Prop) (k : (x1 < x4 → K x3 h) ∧ (¬ x1 < x4 → AW (m_X12_lent (d + 3) 0 0) 0 0 46 [(0, .ref 1), (1, .int x1), (2, .int x2), (3, .int (-1)), (4, .int x4), (5, .int ((h_i h 1 119) - 1))] [] h (kI K))) : AW (m_X12_lent (d + 3) 0 0) 0 0 30 [(0, .ref 1), (1, .int x1), (2, .int x2), (3, .int x3), (4, .int x4)] [] h (kI K) := by
  refine aw_iload d_X12_lent_30 4 rfl ?_
  refine aw_iload_n (i := 1) rfl d_X12_lent_32 1 rfl ?_
  refine aw_icmp_gt (tgt := 170) d_X12_lent_33 rfl (fun c11 => ?_) (fun c11 => ?_)
  · have k := k.1 c11
    refine aw_iload_n (i := 3) rfl d_X12_lent_170 3 rfl ?_
    exact aw_iret rfl d_X12_lent_171 ⟨Nat.le_refl _, Nat.le_refl _⟩ ⟨_, rfl, k⟩
  · have k := k.2 c11
    refine aw_iconst (v := (-1)) d_X12_lent_36 ic_m1 ?_
    refine aw_istore_n (i := 3) rfl [(0, .ref 1), (1, .int x1), (2, .int x2), (3, .int (-1)), (4, .int x4)] d_X12_lent_37 (Nat.le_of_ble_eq_true rfl) rfl rfl ?_
    refine aw_aload_n (i := 0) rfl d_X12_lent_38 0 rfl ?_
    refine aw_geti (k0 := 119) kc_12 (ws_1 w) (Nat.le_of_ble_eq_true rfl) tw_1861 d_X12_lent_39 rfl ?_
    refine aw_iconst (v := 1) d_X12_lent_42 ic_1 ?_
    refine aw_isub d_X12_lent_43 ?_
    refine aw_istore [(0, .ref 1), (1, .int x1), (2, .int x2), (3, .int (-1)), (4, .int x4), (5, .int ((h_i h 1 119) - 1))] d_X12_lent_44 (Nat.le_of_ble_eq_true rfl) rfl rfl ?_
    exact k
theorem t_X12_lent_46 (d : Nat) (h : Hp_) (w : Wf h) (x1 : Int32) (x2 : Int32) (x3 : Int32) (x4 : Int32) (x5 : Int32) (K : Int32 → Hp_ → Prop) (k : (x5 < 0 → (¬ x3 = (-1) → AW (m_X12_lent (d + 3) 0 0) 0 0 30 [(0, .ref 1), (1, .int x1), (2, .int (x2 - ((1 : Int32) <<< ((2 * x3) &&& 31)))), (3, .int x3), (4, .int (x4 + 1))] [] h (kI K)) ∧ (x3 = (-1) → AW (m_X12_lent (d + 3) 0 0) 0 0 30 [(0, .ref 1), (1, .int x1), (2, .int (x2 - 0)), (3, .int x3), (4, .int (x4 + 1))] [] h (kI K))) ∧ (¬ x5 < 0 → vp_in ((4 * x4) + x5) 48 ∧ (Ci (m_X12_wanted (d + 0) 0 0) [.int x2, .int x5] h (fun r17 h15 => Wf h15 ∧ ((r17 = 0 → AW (m_X12_lent (d + 3) 0 0) 0 0 46 [(0, .ref 1), (1, .int x1), (2, .int x2), (3, .int x3), (4, .int x4), (5, .int (x5 + (-1)))] [] h15 (kI K)) ∧ (¬ r17 = 0 → (¬ (h_i h 292 (((4 * x4) + x5) : Int32).toNatClampNeg) = 1000000000 → vp_in (((256 * (x4 + 1)) + x2) - ((1 : Int32) <<< ((2 * x5) &&& 31))) 3328 ∧ ((1000000000 ≤ (h_i h15 291 ((((256 * (x4 + 1)) + x2) - ((1 : Int32) <<< ((2 * x5) &&& 31))) : Int32).toNatClampNeg) → AW (m_X12_lent (d + 3) 0 0) 0 0 46 [(0, .ref 1), (1, .int x1), (2, .int x2), (3, .int x3), (4, .int x4), (5, .int (x5 + (-1)))] [] h15 (kI K)) ∧ (¬ 1000000000 ≤ (h_i h15 291 ((((256 * (x4 + 1)) + x2) - ((1 : Int32) <<< ((2 * x5) &&& 31))) : Int32).toNatClampNeg) → vp_in ((256 * x4) + x2) 3328 ∧ ((¬ ((h_i h 292 (((4 * x4) + x5) : Int32).toNatClampNeg) + (h_i h15 291 ((((256 * (x4 + 1)) + x2) - ((1 : Int32) <<< ((2 * x5) &&& 31))) : Int32).toNatClampNeg)) = (h_i h15 291 (((256 * x4) + x2) : Int32).toNatClampNeg) → AW (m_X12_lent (d + 3) 0 0) 0 0 46 [(0, .ref 1), (1, .int x1), (2, .int x2), (3, .int x3), (4, .int x4), (5, .int (x5 + (-1)))] [] h15 (kI K)) ∧ (((h_i h 292 (((4 * x4) + x5) : Int32).toNatClampNeg) + (h_i h15 291 ((((256 * (x4 + 1)) + x2) - ((1 : Int32) <<< ((2 * x5) &&& 31))) : Int32).toNatClampNeg)) = (h_i h15 291 (((256 * x4) + x2) : Int32).toNatClampNeg) → AW (m_X12_lent (d + 3) 0 0) 0 0 46 [(0, .ref 1), (1, .int x1), (2, .int x2), (3, .int x5), (4, .int x4), (5, .int (x5 + (-1)))] [] h15 (kI K)))))) ∧ ((h_i h 292 (((4 * x4) + x5) : Int32).toNatClampNeg) = 1000000000 → AW (m_X12_lent (d + 3) 0 0) 0 0 46 [(0, .ref 1), (1, .int x1), (2, .int x2), (3, .int x3), (4, .int x4), (5, .int (x5 + (-1)))] [] h15 (kI K)))))))) : AW (m_X12_lent (d + 3) 0 0) 0 0 46 [(0, .ref 1), (1, .int x1), (2, .int x2), (3, .int x3), (4, .int x4), (5, .int x5)] [] h (kI K) := by
  refine aw_iload d_X12_lent_46 5 rfl ?_
  refine aw_if_lt (tgt := 147) d_X12_lent_48 rfl (fun c12 => ?_) (fun c12 => ?_)
  · have k := k.1 c12
    refine aw_iload_n (i := 2) rfl d_X12_lent_147 2 rfl ?_
    refine aw_iload_n (i := 3) rfl d_X12_lent_148 3 rfl ?_
    refine aw_iconst (v := (-1)) d_X12_lent_149 ic_m1 ?_
    refine aw_icmp_ne (tgt := 157) d_X12_lent_150 rfl (fun c13 => ?_) (fun c13 => ?_)
    · have k := k.1 c13
      refine aw_iconst (v := 1) d_X12_lent_157 ic_1 ?_
      refine aw_iconst (v := 2) d_X12_lent_158 ic_2 ?_
      refine aw_iload_n (i := 3) rfl d_X12_lent_159 3 rfl ?_
      refine aw_imul d_X12_lent_160 ?_
      refine aw_ishl d_X12_lent_161 ?_
      refine aw_isub d_X12_lent_162 ?_
      refine aw_istore_n (i := 2) rfl [(0, .ref 1), (1, .int x1), (2, .int (x2 - ((1 : Int32) <<< ((2 * x3) &&& 31)))), (3, .int x3), (4, .int x4), (5, .int x5)] d_X12_lent_163 (Nat.le_of_ble_eq_true rfl) rfl rfl ?_
      refine aw_iinc (v := (x4 + 1)) [(0, .ref 1), (1, .int x1), (2, .int (x2 - ((1 : Int32) <<< ((2 * x3) &&& 31)))), (3, .int x3), (4, .int (x4 + 1)), (5, .int x5)] d_X12_lent_164 4 rfl rfl (Nat.le_of_ble_eq_true rfl) rfl rfl ?_
      refine aw_goto (tgt := 30) d_X12_lent_167 rfl ?_
      exact aw_lvp [0, 1, 2, 3, 4] [(0, .ref 1), (1, .int x1), (2, .int (x2 - ((1 : Int32) <<< ((2 * x3) &&& 31)))), (3, .int x3), (4, .int (x4 + 1))] rfl k
    · have k := k.2 c13
      refine aw_iconst (v := 0) d_X12_lent_153 ic_0 ?_
      refine aw_goto (tgt := 162) d_X12_lent_154 rfl ?_
      refine aw_isub d_X12_lent_162 ?_
      refine aw_istore_n (i := 2) rfl [(0, .ref 1), (1, .int x1), (2, .int (x2 - 0)), (3, .int x3), (4, .int x4), (5, .int x5)] d_X12_lent_163 (Nat.le_of_ble_eq_true rfl) rfl rfl ?_
      refine aw_iinc (v := (x4 + 1)) [(0, .ref 1), (1, .int x1), (2, .int (x2 - 0)), (3, .int x3), (4, .int (x4 + 1)), (5, .int x5)] d_X12_lent_164 4 rfl rfl (Nat.le_of_ble_eq_true rfl) rfl rfl ?_
      refine aw_goto (tgt := 30) d_X12_lent_167 rfl ?_
      exact aw_lvp [0, 1, 2, 3, 4] [(0, .ref 1), (1, .int x1), (2, .int (x2 - 0)), (3, .int x3), (4, .int (x4 + 1))] rfl k
  · have k := k.2 c12
    refine aw_aload_n (i := 0) rfl d_X12_lent_51 0 rfl ?_
    refine aw_getr (k0 := 121) kc_12 (ws_1 w) (Nat.le_of_ble_eq_true rfl) tw_1863 d_X12_lent_52 rfl (wr_1_121 w) ?_
    refine aw_iconst (v := 4) d_X12_lent_55 ic_4 ?_
    refine aw_iload d_X12_lent_56 4 rfl ?_
    refine aw_imul d_X12_lent_58 ?_
    refine aw_iload d_X12_lent_59 5 rfl ?_
    refine aw_iadd d_X12_lent_61 ?_
    obtain ⟨b14, k⟩ := k
    refine aw_iald (ws_292 w) b14 d_X12_lent_62 ?_
    refine aw_istore [(0, .ref 1), (1, .int x1), (2, .int x2), (3, .int x3), (4, .int x4), (5, .int x5), (6, .int (h_i h 292 (((4 * x4) + x5) : Int32).toNatClampNeg))] d_X12_lent_63 (Nat.le_of_ble_eq_true rfl) rfl rfl ?_
    refine aw_iload_n (i := 2) rfl d_X12_lent_65 2 rfl ?_
    refine aw_iload d_X12_lent_66 5 rfl ?_
    refine aw_Si [.int x2, .int x5] [] d_X12_lent_68 (cS_X12_wanted (d + 0) 0 0) tw_2653 rfl (rr0 (Nat.le_of_ble_eq_true rfl) (Nat.le_of_ble_eq_true rfl)) (Nat.le_of_ble_eq_true rfl) xs0 k (fun r17 h15 kk => ?_)
    obtain ⟨w16, k⟩ := kk
    refine aw_if_eq (tgt := 141) d_X12_lent_71 rfl (fun c18 => ?_) (fun c18 => ?_)
    · have k := k.1 c18
      refine aw_iinc (v := (x5 + (-1))) [(0, .ref 1), (1, .int x1), (2, .int x2), (3, .int x3), (4, .int x4), (5, .int (x5 + (-1))), (6, .int (h_i h 292 (((4 * x4) + x5) : Int32).toNatClampNeg))] d_X12_lent_141 5 rfl rfl (Nat.le_of_ble_eq_true rfl) rfl rfl ?_
      refine aw_goto (tgt := 46) d_X12_lent_144 rfl ?_
      exact aw_lvp [0, 1, 2, 3, 4, 5] [(0, .ref 1), (1, .int x1), (2, .int x2), (3, .int x3), (4, .int x4), (5, .int (x5 + (-1)))] rfl k
    · have k := k.2 c18
      refine aw_iload d_X12_lent_74 6 rfl ?_
      refine aw_ldcw (v := 1000000000) d_X12_lent_76 tw_2651 ?_
      refine aw_icmp_ne (tgt := 85) d_X12_lent_79 rfl (fun c19 => ?_) (fun c19 => ?_)
      · have k := k.1 c19
        refine aw_aload_n (i := 0) rfl d_X12_lent_85 0 rfl ?_
        refine aw_getr (k0 := 120) kc_12 (ws_1 w16) (Nat.le_of_ble_eq_true rfl) tw_1862 d_X12_lent_86 rfl (wr_1_120 w16) ?_
        refine aw_sipush (v := 256) d_X12_lent_89 is_256 ?_
        refine aw_iload d_X12_lent_92 4 rfl ?_
        refine aw_iconst (v := 1) d_X12_lent_94 ic_1 ?_
        refine aw_iadd d_X12_lent_95 ?_
        refine aw_imul d_X12_lent_96 ?_
        refine aw_iload_n (i := 2) rfl d_X12_lent_97 2 rfl ?_
        refine aw_iadd d_X12_lent_98 ?_
        refine aw_iconst (v := 1) d_X12_lent_99 ic_1 ?_
        refine aw_iconst (v := 2) d_X12_lent_100 ic_2 ?_
        refine aw_iload d_X12_lent_101 5 rfl ?_
        refine aw_imul d_X12_lent_103 ?_
        refine aw_ishl d_X12_lent_104 ?_
        refine aw_isub d_X12_lent_105 ?_
        obtain ⟨b20, k⟩ := k
        refine aw_iald (ws_291 w16) b20 d_X12_lent_106 ?_
        refine aw_istore [(0, .ref 1), (1, .int x1), (2, .int x2), (3, .int x3), (4, .int x4), (5, .int x5), (6, .int (h_i h 292 (((4 * x4) + x5) : Int32).toNatClampNeg)), (7, .int (h_i h15 291 ((((256 * (x4 + 1)) + x2) - ((1 : Int32) <<< ((2 * x5) &&& 31))) : Int32).toNatClampNeg))] d_X12_lent_107 (Nat.le_of_ble_eq_true rfl) rfl rfl ?_
        refine aw_iload d_X12_lent_109 7 rfl ?_
        refine aw_ldcw (v := 1000000000) d_X12_lent_111 tw_2651 ?_
        refine aw_icmp_ge (tgt := 141) d_X12_lent_114 rfl (fun c21 => ?_) (fun c21 => ?_)
        · have k := k.1 c21
          refine aw_iinc (v := (x5 + (-1))) [(0, .ref 1), (1, .int x1), (2, .int x2), (3, .int x3), (4, .int x4), (5, .int (x5 + (-1))), (6, .int (h_i h 292 (((4 * x4) + x5) : Int32).toNatClampNeg)), (7, .int (h_i h15 291 ((((256 * (x4 + 1)) + x2) - ((1 : Int32) <<< ((2 * x5) &&& 31))) : Int32).toNatClampNeg))] d_X12_lent_141 5 rfl rfl (Nat.le_of_ble_eq_true rfl) rfl rfl ?_
          refine aw_goto (tgt := 46) d_X12_lent_144 rfl ?_
          exact aw_lvp [0, 1, 2, 3, 4, 5] [(0, .ref 1), (1, .int x1), (2, .int x2), (3, .int x3), (4, .int x4), (5, .int (x5 + (-1)))] rfl k
        · have k := k.2 c21
          refine aw_iload d_X12_lent_117 6 rfl ?_
          refine aw_iload d_X12_lent_119 7 rfl ?_
          refine aw_iadd d_X12_lent_121 ?_
          refine aw_aload_n (i := 0) rfl d_X12_lent_122 0 rfl ?_
          refine aw_getr (k0 := 120) kc_12 (ws_1 w16) (Nat.le_of_ble_eq_true rfl) tw_1862 d_X12_lent_123 rfl (wr_1_120 w16) ?_
          refine aw_sipush (v := 256) d_X12_lent_126 is_256 ?_
          refine aw_iload d_X12_lent_129 4 rfl ?_
          refine aw_imul d_X12_lent_131 ?_
          refine aw_iload_n (i := 2) rfl d_X12_lent_132 2 rfl ?_
          refine aw_iadd d_X12_lent_133 ?_
          obtain ⟨b22, k⟩ := k
          refine aw_iald (ws_291 w16) b22 d_X12_lent_134 ?_
          refine aw_icmp_ne (tgt := 141) d_X12_lent_135 rfl (fun c23 => ?_) (fun c23 => ?_)
          · have k := k.1 c23
            refine aw_iinc (v := (x5 + (-1))) [(0, .ref 1), (1, .int x1), (2, .int x2), (3, .int x3), (4, .int x4), (5, .int (x5 + (-1))), (6, .int (h_i h 292 (((4 * x4) + x5) : Int32).toNatClampNeg)), (7, .int (h_i h15 291 ((((256 * (x4 + 1)) + x2) - ((1 : Int32) <<< ((2 * x5) &&& 31))) : Int32).toNatClampNeg))] d_X12_lent_141 5 rfl rfl (Nat.le_of_ble_eq_true rfl) rfl rfl ?_
            refine aw_goto (tgt := 46) d_X12_lent_144 rfl ?_
            exact aw_lvp [0, 1, 2, 3, 4, 5] [(0, .ref 1), (1, .int x1), (2, .int x2), (3, .int x3), (4, .int x4), (5, .int (x5 + (-1)))] rfl k
          · have k := k.2 c23
            refine aw_iload d_X12_lent_138 5 rfl ?_
            refine aw_istore_n (i := 3) rfl [(0, .ref 1), (1, .int x1), (2, .int x2), (3, .int x5), (4, .int x4), (5, .int x5), (6, .int (h_i h 292 (((4 * x4) + x5) : Int32).toNatClampNeg)), (7, .int (h_i h15 291 ((((256 * (x4 + 1)) + x2) - ((1 : Int32) <<< ((2 * x5) &&& 31))) : Int32).toNatClampNeg))] d_X12_lent_140 (Nat.le_of_ble_eq_true rfl) rfl rfl ?_
            refine aw_iinc (v := (x5 + (-1))) [(0, .ref 1), (1, .int x1), (2, .int x2), (3, .int x5), (4, .int x4), (5, .int (x5 + (-1))), (6, .int (h_i h 292 (((4 * x4) + x5) : Int32).toNatClampNeg)), (7, .int (h_i h15 291 ((((256 * (x4 + 1)) + x2) - ((1 : Int32) <<< ((2 * x5) &&& 31))) : Int32).toNatClampNeg))] d_X12_lent_141 5 rfl rfl (Nat.le_of_ble_eq_true rfl) rfl rfl ?_
            refine aw_goto (tgt := 46) d_X12_lent_144 rfl ?_
            exact aw_lvp [0, 1, 2, 3, 4, 5] [(0, .ref 1), (1, .int x1), (2, .int x2), (3, .int x5), (4, .int x4), (5, .int (x5 + (-1)))] rfl k
      · have k := k.2 c19
        refine aw_goto (tgt := 141) d_X12_lent_82 rfl ?_
        refine aw_iinc (v := (x5 + (-1))) [(0, .ref 1), (1, .int x1), (2, .int x2), (3, .int x3), (4, .int x4), (5, .int (x5 + (-1))), (6, .int (h_i h 292 (((4 * x4) + x5) : Int32).toNatClampNeg))] d_X12_lent_141 5 rfl rfl (Nat.le_of_ble_eq_true rfl) rfl rfl ?_
        refine aw_goto (tgt := 46) d_X12_lent_144 rfl ?_
        exact aw_lvp [0, 1, 2, 3, 4, 5] [(0, .ref 1), (1, .int x1), (2, .int x2), (3, .int x3), (4, .int x4), (5, .int (x5 + (-1)))] rfl k
theorem t_X12_tell (d : Nat) (h : Hp_) (w : Wf h) (x1 : Int32) (x2 : Int32) (K : Int32 → Hp_ → Prop) (k : (¬ x2 = (-1) → AW (m_X12_tell (d + 4) 0 0) 0 0 23 [(0, .ref 1), (3, .int ((20 * x1) + x2))] [] (h_im h 1 52 (560 * ((20 * x1) + x2))) (kI K)) ∧ (x2 = (-1) → K 0 h)) : Ci (m_X12_tell (d + 4) 0 0) [.ref 1, .int x1, .int x2] h K := by
  refine Ct.of (fun _ _ _ => trivial) rfl (Nat.le_of_ble_eq_true rfl) ?_
  show AW (m_X12_tell (d + 4) 0 0) 0 0 0 [(0, .ref 1), (1, .int x1), (2, .int x2)] [] h (kI K)
  refine aw_iload_n (i := 2) rfl d_X12_tell_0 2 rfl ?_
  refine aw_iconst (v := (-1)) d_X12_tell_1 ic_m1 ?_
  refine aw_icmp_ne (tgt := 7) d_X12_tell_2 rfl (fun c1 => ?_) (fun c1 => ?_)
  · have k := k.1 c1
    refine aw_bipush (v := 20) d_X12_tell_7 ib_20 ?_
    refine aw_iload_n (i := 1) rfl d_X12_tell_9 1 rfl ?_
    refine aw_imul d_X12_tell_10 ?_
    refine aw_iload_n (i := 2) rfl d_X12_tell_11 2 rfl ?_
    refine aw_iadd d_X12_tell_12 ?_
    refine aw_istore_n (i := 3) rfl [(0, .ref 1), (1, .int x1), (2, .int x2), (3, .int ((20 * x1) + x2))] d_X12_tell_13 (Nat.le_of_ble_eq_true rfl) rfl rfl ?_
    refine aw_aload_n (i := 0) rfl d_X12_tell_14 0 rfl ?_
    refine aw_sipush (v := 560) d_X12_tell_15 is_560 ?_
    refine aw_iload_n (i := 3) rfl d_X12_tell_18 3 rfl ?_
    refine aw_imul d_X12_tell_19 ?_
    refine aw_puti (k0 := 52) kc_12 (ws_1 w) (Nat.le_of_ble_eq_true rfl) tw_1794 d_X12_tell_20 rfl rfl nf_i ?_
    exact aw_lvp [0, 3] [(0, .ref 1), (3, .int ((20 * x1) + x2))] rfl k
  · have k := k.2 c1
    refine aw_iconst (v := 0) d_X12_tell_5 ic_0 ?_
    exact aw_iret rfl d_X12_tell_6 ⟨Nat.le_refl _, Nat.le_refl _⟩ ⟨_, rfl, k⟩
theorem t_X12_tell_23 (d : Nat) (h : Hp_) (w : Wf h) (x3 : Int32) (K : Int32 → Hp_ → Prop) (k : vp_in x3 40 ∧ ((((560 * x3) + (h_i h 232 x3.toNatClampNeg)) ≤ (h_i h 1 52) → K 0 h) ∧ (¬ ((560 * x3) + (h_i h 232 x3.toNatClampNeg)) ≤ (h_i h 1 52) → Ci (m_X12_work (d + 3) 0 0) [.ref 1] h (fun r6 h4 => Wf h4 ∧ ((r6 = 0 → Ci (m_X12_work (d + 3) 0 0) [.ref 1] h4 (fun r10 h8 => Wf h8 ∧ (AW (m_X12_tell (d + 4) 0 0) 0 0 23 [(0, .ref 1), (3, .int x3)] [] h8 (kI K)))) ∧ (¬ r6 = 0 → Ci (m_X12_work (d + 3) 0 0) [.ref 1] h4 (fun r14 h12 => Wf h12 ∧ (K r14 h12)))))))) : AW (m_X12_tell (d + 4) 0 0) 0 0 23 [(0, .ref 1), (3, .int x3)] [] h (kI K) := by
  refine aw_aload_n (i := 0) rfl d_X12_tell_23 0 rfl ?_
  refine aw_geti (k0 := 52) kc_12 (ws_1 w) (Nat.le_of_ble_eq_true rfl) tw_1794 d_X12_tell_24 rfl ?_
  refine aw_sipush (v := 560) d_X12_tell_27 is_560 ?_
  refine aw_iload_n (i := 3) rfl d_X12_tell_30 1 rfl ?_
  refine aw_imul d_X12_tell_31 ?_
  refine aw_aload_n (i := 0) rfl d_X12_tell_32 0 rfl ?_
  refine aw_getr (k0 := 46) kc_12 (ws_1 w) (Nat.le_of_ble_eq_true rfl) tw_1788 d_X12_tell_33 rfl (wr_1_46 w) ?_
  refine aw_iload_n (i := 3) rfl d_X12_tell_36 1 rfl ?_
  obtain ⟨b2, k⟩ := k
  refine aw_iald (ws_232 w) b2 d_X12_tell_37 ?_
  refine aw_iadd d_X12_tell_38 ?_
  refine aw_icmp_ge (tgt := 73) d_X12_tell_39 rfl (fun c3 => ?_) (fun c3 => ?_)
  · have k := k.1 c3
    refine aw_iconst (v := 0) d_X12_tell_73 ic_0 ?_
    exact aw_iret rfl d_X12_tell_74 ⟨Nat.le_refl _, Nat.le_refl _⟩ ⟨_, rfl, k⟩
  · have k := k.2 c3
    refine aw_aload_n (i := 0) rfl d_X12_tell_42 0 rfl ?_
    refine aw_Vi 1 [] [] d_X12_tell_43 (cV_X12_work (d + 3) 0 0) kc_12 (ws_1 w) tw_2432 rfl (rr0 (Nat.le_of_ble_eq_true rfl) (Nat.le_of_ble_eq_true rfl)) (Nat.le_of_ble_eq_true rfl) xs0 k (fun r6 h4 kk => ?_)
    obtain ⟨w5, k⟩ := kk
    refine aw_if_eq (tgt := 53) d_X12_tell_46 rfl (fun c7 => ?_) (fun c7 => ?_)
    · have k := k.1 c7
      refine aw_iconst (v := 0) d_X12_tell_53 ic_0 ?_
      refine aw_istore [(0, .ref 1), (3, .int x3), (4, .int 0)] d_X12_tell_54 (Nat.le_of_ble_eq_true rfl) rfl rfl ?_
      refine aw_aload_n (i := 0) rfl d_X12_tell_56 0 rfl ?_
      refine aw_Vi 1 [] [] d_X12_tell_57 (cV_X12_work (d + 3) 0 0) kc_12 (ws_1 w5) tw_2432 rfl (rr0 (Nat.le_of_ble_eq_true rfl) (Nat.le_of_ble_eq_true rfl)) (Nat.le_of_ble_eq_true rfl) xs0 k (fun r10 h8 kk => ?_)
      obtain ⟨w9, k⟩ := kk
      refine aw_istore [(0, .ref 1), (3, .int x3), (4, .int 0), (5, .int r10)] d_X12_tell_60 (Nat.le_of_ble_eq_true rfl) rfl rfl ?_
      refine aw_iload d_X12_tell_62 2 rfl ?_
      refine aw_if_eq (tgt := 70) d_X12_tell_64 rfl (fun _ => ?_) (fun c => absurd c (by decide))
      refine aw_goto (tgt := 23) d_X12_tell_70 rfl ?_
      exact aw_lvp [0, 1] [(0, .ref 1), (3, .int x3)] rfl k
    · have k := k.2 c7
      refine aw_iconst (v := 1) d_X12_tell_49 ic_1 ?_
      refine aw_goto (tgt := 54) d_X12_tell_50 rfl ?_
      refine aw_istore [(0, .ref 1), (3, .int x3), (4, .int 1)] d_X12_tell_54 (Nat.le_of_ble_eq_true rfl) rfl rfl ?_
      refine aw_aload_n (i := 0) rfl d_X12_tell_56 0 rfl ?_
      refine aw_Vi 1 [] [] d_X12_tell_57 (cV_X12_work (d + 3) 0 0) kc_12 (ws_1 w5) tw_2432 rfl (rr0 (Nat.le_of_ble_eq_true rfl) (Nat.le_of_ble_eq_true rfl)) (Nat.le_of_ble_eq_true rfl) xs0 k (fun r14 h12 kk => ?_)
      obtain ⟨w13, k⟩ := kk
      refine aw_istore [(0, .ref 1), (3, .int x3), (4, .int 1), (5, .int r14)] d_X12_tell_60 (Nat.le_of_ble_eq_true rfl) rfl rfl ?_
      refine aw_iload d_X12_tell_62 2 rfl ?_
      refine aw_if_eq (tgt := 70) d_X12_tell_64 rfl (fun c => absurd c (by decide)) (fun _ => ?_)
      refine aw_iload d_X12_tell_67 3 rfl ?_
      exact aw_iret rfl d_X12_tell_69 ⟨Nat.le_refl _, Nat.le_refl _⟩ ⟨_, rfl, k⟩
theorem t_X12_goDrawn (d : Nat) (h : Hp_) (w : Wf h) (x1 : Int32) (K : Hp_ → Prop) (k : vp_in x1 12 ∧ (vp_in x1 12 ∧ (Cv (m_X12_setOut (d + 1) 0 0) [.ref 1, .int x1, .int (h_i h 218 x1.toNatClampNeg)] (h_im h 211 x1.toNatClampNeg (-1)) (fun h3 => Wf h3 ∧ (vp_in x1 12 ∧ ((¬ (h_i h3 210 x1.toNatClampNeg) = (-1) → K h3) ∧ ((h_i h3 210 x1.toNatClampNeg) = (-1) → Cv (m_X12_stay (d + 3) 0 0) [.ref 1, .int x1] h3 (fun h8 => Wf h8 ∧ (K h8))))))))) : Cv (m_X12_goDrawn (d + 4) 0 0) [.ref 1, .int x1] h K := by
  refine Ct.of (fun _ _ _ => trivial) rfl (Nat.le_of_ble_eq_true rfl) ?_
  show AW (m_X12_goDrawn (d + 4) 0 0) 0 0 0 [(0, .ref 1), (1, .int x1)] [] h (kV K)
  refine aw_aload_n (i := 0) rfl d_X12_goDrawn_0 0 rfl ?_
  refine aw_getr (k0 := 15) kc_12 (ws_1 w) (Nat.le_of_ble_eq_true rfl) tw_1757 d_X12_goDrawn_1 rfl (wr_1_15 w) ?_
  refine aw_iload_n (i := 1) rfl d_X12_goDrawn_4 1 rfl ?_
  refine aw_iconst (v := (-1)) d_X12_goDrawn_5 ic_m1 ?_
  obtain ⟨b1, k⟩ := k
  refine aw_iast (ws_211 w) b1 d_X12_goDrawn_6 ?_
  refine aw_aload_n (i := 0) rfl d_X12_goDrawn_7 0 rfl ?_
  refine aw_iload_n (i := 1) rfl d_X12_goDrawn_8 1 rfl ?_
  refine aw_aload_n (i := 0) rfl d_X12_goDrawn_9 0 rfl ?_
  refine aw_getr (k0 := 22) kc_12 (ws_1 w) (Nat.le_of_ble_eq_true rfl) tw_1764 d_X12_goDrawn_10 rfl (wr_1_22 w) ?_
  refine aw_iload_n (i := 1) rfl d_X12_goDrawn_13 1 rfl ?_
  obtain ⟨b2, k⟩ := k
  refine aw_iald (ws_218 w) b2 d_X12_goDrawn_14 ?_
  refine aw_vi (v2 := (h_i h 218 x1.toNatClampNeg)) (rfl) ?_
  refine aw_Vv 1 [.int x1, .int (h_i h 218 x1.toNatClampNeg)] [] d_X12_goDrawn_15 (cV_X12_setOut (d + 1) 0 0) kc_12 (ws_1 w) tw_2352 rfl (rr0 (Nat.le_of_ble_eq_true rfl) (Nat.le_of_ble_eq_true rfl)) (Nat.le_of_ble_eq_true rfl) xs0 k (fun h3 kk => ?_)
  obtain ⟨w4, k⟩ := kk
  refine aw_aload_n (i := 0) rfl d_X12_goDrawn_18 0 rfl ?_
  refine aw_getr (k0 := 14) kc_12 (ws_1 w4) (Nat.le_of_ble_eq_true rfl) tw_1756 d_X12_goDrawn_19 rfl (wr_1_14 w4) ?_
  refine aw_iload_n (i := 1) rfl d_X12_goDrawn_22 1 rfl ?_
  obtain ⟨b6, k⟩ := k
  refine aw_iald (ws_210 w4) b6 d_X12_goDrawn_23 ?_
  refine aw_iconst (v := (-1)) d_X12_goDrawn_24 ic_m1 ?_
  refine aw_icmp_ne (tgt := 33) d_X12_goDrawn_25 rfl (fun c7 => ?_) (fun c7 => ?_)
  · have k := k.1 c7
    exact aw_vret rfl d_X12_goDrawn_33 ⟨Nat.le_refl _, Nat.le_refl _⟩ ⟨rfl, k⟩
  · have k := k.2 c7
    refine aw_aload_n (i := 0) rfl d_X12_goDrawn_28 0 rfl ?_
    refine aw_iload_n (i := 1) rfl d_X12_goDrawn_29 1 rfl ?_
    refine aw_Vv 1 [.int x1] [] d_X12_goDrawn_30 (cV_X12_stay (d + 3) 0 0) kc_12 (ws_1 w4) tw_2376 rfl (rr0 (Nat.le_of_ble_eq_true rfl) (Nat.le_of_ble_eq_true rfl)) (Nat.le_of_ble_eq_true rfl) xs0 k (fun h8 kk => ?_)
    obtain ⟨w9, k⟩ := kk
    exact aw_vret rfl d_X12_goDrawn_33 ⟨Nat.le_refl _, Nat.le_refl _⟩ ⟨rfl, k⟩
theorem t_X12_begin (d : Nat) (h : Hp_) (w : Wf h) (x1 : Int32) (x2 : Int32) (K : Int32 → Hp_ → Prop) (k : (¬ (0 ≤ x1 ∧ x1 ≤ (h_i h 1 7) - 1) → K 0 h) ∧ ((0 ≤ x1 ∧ x1 ≤ (h_i h 1 7) - 1) → (¬ (0 ≤ x2 ∧ x2 ≤ ((h_i h 1 42) - 1)) → K 0 h) ∧ ((0 ≤ x2 ∧ x2 ≤ ((h_i h 1 42) - 1)) → vp_in x1 12 ∧ ((¬ (h_i h 208 x1.toNatClampNeg) = 0 → K 0 h) ∧ ((h_i h 208 x1.toNatClampNeg) = 0 → Ci (m_X12_pointsOf (d + 0) 0 0) [.ref 1, .int x2] h (fun r11 h9 => Wf h9 ∧ ((((h_i h 1 63) + r11) ≤ 400 → vp_in x1 12 ∧ (vp_in x1 12 ∧ (vp_in x1 12 ∧ (vp_in x1 12 ∧ (vp_in x1 12 ∧ (vp_in x1 12 ∧ (AW (m_X12_begin (d + 4) 0 0) 0 0 106 [(0, .ref 1), (1, .int x1), (2, .int x2), (3, .int (150 * x2))] [] (h_im (h_im (h_im (h_im (h_im (h_im h9 208 x1.toNatClampNeg 1) 212 x1.toNatClampNeg x2) 213 x1.toNatClampNeg 0) 214 x1.toNatClampNeg (h_i h9 1 0)) 215 x1.toNatClampNeg (h_i h9 1 63)) 216 x1.toNatClampNeg (h_i h9 1 63)) (kI K)))))))) ∧ (¬ ((h_i h 1 63) + r11) ≤ 400 → K 0 h9)))))))) : Ci (m_X12_begin (d + 4) 0 0) [.ref 1, .int x1, .int x2] h K := by
  refine Ct.of (fun _ _ _ => trivial) rfl (Nat.le_of_ble_eq_true rfl) ?_
  show AW (m_X12_begin (d + 4) 0 0) 0 0 0 [(0, .ref 1), (1, .int x1), (2, .int x2)] [] h (kI K)
  refine aw_aload_n (i := 0) rfl d_X12_begin_0 0 rfl ?_
  refine aw_iload_n (i := 1) rfl d_X12_begin_1 1 rfl ?_
  refine aw_Vi 1 [.int x1] [] d_X12_begin_2 (cV_X12_isMan (d + 1) 0 0) kc_12 (ws_1 w) tw_2167 rfl (rr0 (Nat.le_of_ble_eq_true rfl) (Nat.le_of_ble_eq_true rfl)) (Nat.le_of_ble_eq_true rfl) xs0 (s_X12_isMan _ _ w x1) (fun _ _ kk => ?_)
  obtain ⟨e1, e2⟩ := kk
  rw [e1, e2]
  refine aw_ifb_eq (tgt := 47) d_X12_begin_5 rfl (fun c3 => ?_) (fun c3 => ?_)
  · have k := k.1 c3
    refine aw_iconst (v := 0) d_X12_begin_47 ic_0 ?_
    exact aw_zret rfl rfl d_X12_begin_48 ⟨Nat.le_refl _, Nat.le_refl _⟩ ⟨_, rfl, k⟩
  · have k := k.2 c3
    refine aw_iload_n (i := 2) rfl d_X12_begin_8 2 rfl ?_
    refine aw_iconst (v := 0) d_X12_begin_9 ic_0 ?_
    refine aw_aload_n (i := 0) rfl d_X12_begin_10 0 rfl ?_
    refine aw_geti (k0 := 42) kc_12 (ws_1 w) (Nat.le_of_ble_eq_true rfl) tw_1784 d_X12_begin_11 rfl ?_
    refine aw_iconst (v := 1) d_X12_begin_14 ic_1 ?_
    refine aw_isub d_X12_begin_15 ?_
    refine aw_Si [.int x2, .int 0, .int ((h_i h 1 42) - 1)] [] d_X12_begin_16 (cS_X12_in (d + 0) 0 0) tw_2147 rfl (rr0 (Nat.le_of_ble_eq_true rfl) (Nat.le_of_ble_eq_true rfl)) (Nat.le_of_ble_eq_true rfl) xs0 (s_X12_in _ _ x2 0 ((h_i h 1 42) - 1)) (fun _ _ kk => ?_)
    obtain ⟨e4, e5⟩ := kk
    rw [e4, e5]
    refine aw_ifb_eq (tgt := 47) d_X12_begin_19 rfl (fun c6 => ?_) (fun c6 => ?_)
    · have k := k.1 c6
      refine aw_iconst (v := 0) d_X12_begin_47 ic_0 ?_
      exact aw_zret rfl rfl d_X12_begin_48 ⟨Nat.le_refl _, Nat.le_refl _⟩ ⟨_, rfl, k⟩
    · have k := k.2 c6
      refine aw_aload_n (i := 0) rfl d_X12_begin_22 0 rfl ?_
      refine aw_getr (k0 := 12) kc_12 (ws_1 w) (Nat.le_of_ble_eq_true rfl) tw_1754 d_X12_begin_23 rfl (wr_1_12 w) ?_
      refine aw_iload_n (i := 1) rfl d_X12_begin_26 1 rfl ?_
      obtain ⟨b7, k⟩ := k
      refine aw_iald (ws_208 w) b7 d_X12_begin_27 ?_
      refine aw_if_ne (tgt := 47) d_X12_begin_28 rfl (fun c8 => ?_) (fun c8 => ?_)
      · have k := k.1 c8
        refine aw_iconst (v := 0) d_X12_begin_47 ic_0 ?_
        exact aw_zret rfl rfl d_X12_begin_48 ⟨Nat.le_refl _, Nat.le_refl _⟩ ⟨_, rfl, k⟩
      · have k := k.2 c8
        refine aw_aload_n (i := 0) rfl d_X12_begin_31 0 rfl ?_
        refine aw_geti (k0 := 63) kc_12 (ws_1 w) (Nat.le_of_ble_eq_true rfl) tw_1805 d_X12_begin_32 rfl ?_
        refine aw_aload_n (i := 0) rfl d_X12_begin_35 0 rfl ?_
        refine aw_iload_n (i := 2) rfl d_X12_begin_36 2 rfl ?_
        refine aw_Vi 1 [.int x2] [.int (h_i h 1 63)] d_X12_begin_37 (cV_X12_pointsOf (d + 0) 0 0) kc_12 (ws_1 w) tw_2291 rfl (rr0 (Nat.le_of_ble_eq_true rfl) (Nat.le_of_ble_eq_true rfl)) (Nat.le_of_ble_eq_true rfl) xs0 k (fun r11 h9 kk => ?_)
        obtain ⟨w10, k⟩ := kk
        refine aw_iadd d_X12_begin_40 ?_
        refine aw_sipush (v := 400) d_X12_begin_41 is_400 ?_
        refine aw_icmp_le (tgt := 49) d_X12_begin_44 rfl (fun c12 => ?_) (fun c12 => ?_)
        · have k := k.1 c12
          refine aw_aload_n (i := 0) rfl d_X12_begin_49 0 rfl ?_
          refine aw_getr (k0 := 12) kc_12 (ws_1 w10) (Nat.le_of_ble_eq_true rfl) tw_1754 d_X12_begin_50 rfl (wr_1_12 w10) ?_
          refine aw_iload_n (i := 1) rfl d_X12_begin_53 1 rfl ?_
          refine aw_iconst (v := 1) d_X12_begin_54 ic_1 ?_
          obtain ⟨b13, k⟩ := k
          refine aw_iast (ws_208 w10) b13 d_X12_begin_55 ?_
          refine aw_aload_n (i := 0) rfl d_X12_begin_56 0 rfl ?_
          refine aw_getr (k0 := 16) kc_12 (ws_1 w10) (Nat.le_of_ble_eq_true rfl) tw_1758 d_X12_begin_57 rfl (wr_1_16 w10) ?_
          refine aw_iload_n (i := 1) rfl d_X12_begin_60 1 rfl ?_
          refine aw_iload_n (i := 2) rfl d_X12_begin_61 2 rfl ?_
          obtain ⟨b14, k⟩ := k
          refine aw_iast (ws_212 w10) b14 d_X12_begin_62 ?_
          refine aw_aload_n (i := 0) rfl d_X12_begin_63 0 rfl ?_
          refine aw_getr (k0 := 17) kc_12 (ws_1 w10) (Nat.le_of_ble_eq_true rfl) tw_1759 d_X12_begin_64 rfl (wr_1_17 w10) ?_
          refine aw_iload_n (i := 1) rfl d_X12_begin_67 1 rfl ?_
          refine aw_iconst (v := 0) d_X12_begin_68 ic_0 ?_
          obtain ⟨b15, k⟩ := k
          refine aw_iast (ws_213 w10) b15 d_X12_begin_69 ?_
          refine aw_aload_n (i := 0) rfl d_X12_begin_70 0 rfl ?_
          refine aw_getr (k0 := 18) kc_12 (ws_1 w10) (Nat.le_of_ble_eq_true rfl) tw_1760 d_X12_begin_71 rfl (wr_1_18 w10) ?_
          refine aw_iload_n (i := 1) rfl d_X12_begin_74 1 rfl ?_
          refine aw_aload_n (i := 0) rfl d_X12_begin_75 0 rfl ?_
          refine aw_geti (k0 := 0) kc_12 (ws_1 w10) (Nat.le_of_ble_eq_true rfl) tw_1742 d_X12_begin_76 rfl ?_
          refine aw_vi (v2 := (h_i h9 1 0)) (rfl) ?_
          obtain ⟨b16, k⟩ := k
          refine aw_iast (ws_214 w10) b16 d_X12_begin_79 ?_
          refine aw_aload_n (i := 0) rfl d_X12_begin_80 0 rfl ?_
          refine aw_getr (k0 := 19) kc_12 (ws_1 w10) (Nat.le_of_ble_eq_true rfl) tw_1761 d_X12_begin_81 rfl (wr_1_19 w10) ?_
          refine aw_iload_n (i := 1) rfl d_X12_begin_84 1 rfl ?_
          refine aw_aload_n (i := 0) rfl d_X12_begin_85 0 rfl ?_
          refine aw_geti (k0 := 63) kc_12 (ws_1 w10) (Nat.le_of_ble_eq_true rfl) tw_1805 d_X12_begin_86 rfl ?_
          refine aw_vi (v2 := (h_i h9 1 63)) (rfl) ?_
          obtain ⟨b17, k⟩ := k
          refine aw_iast (ws_215 w10) b17 d_X12_begin_89 ?_
          refine aw_aload_n (i := 0) rfl d_X12_begin_90 0 rfl ?_
          refine aw_getr (k0 := 20) kc_12 (ws_1 w10) (Nat.le_of_ble_eq_true rfl) tw_1762 d_X12_begin_91 rfl (wr_1_20 w10) ?_
          refine aw_iload_n (i := 1) rfl d_X12_begin_94 1 rfl ?_
          refine aw_aload_n (i := 0) rfl d_X12_begin_95 0 rfl ?_
          refine aw_geti (k0 := 63) kc_12 (ws_1 w10) (Nat.le_of_ble_eq_true rfl) tw_1805 d_X12_begin_96 rfl ?_
          refine aw_vi (v2 := (h_i h9 1 63)) (rfl) ?_
          obtain ⟨b18, k⟩ := k
          refine aw_iast (ws_216 w10) b18 d_X12_begin_99 ?_
          refine aw_sipush (v := 150) d_X12_begin_100 is_150 ?_
          refine aw_iload_n (i := 2) rfl d_X12_begin_103 2 rfl ?_
          refine aw_imul d_X12_begin_104 ?_
          refine aw_istore_n (i := 3) rfl [(0, .ref 1), (1, .int x1), (2, .int x2), (3, .int (150 * x2))] d_X12_begin_105 (Nat.le_of_ble_eq_true rfl) rfl rfl ?_
          exact k
        · have k := k.2 c12
          refine aw_iconst (v := 0) d_X12_begin_47 ic_0 ?_
          exact aw_zret rfl rfl d_X12_begin_48 ⟨Nat.le_refl _, Nat.le_refl _⟩ ⟨_, rfl, k⟩
theorem t_X12_begin_106 (d : Nat) (h : Hp_) (w : Wf h) (x1 : Int32) (x2 : Int32) (x3 : Int32) (K : Int32 → Hp_ → Prop) (k : vp_in x2 12 ∧ ((((150 * x2) + (h_i h 227 x2.toNatClampNeg)) ≤ x3 → vp_in x1 12 ∧ (Cv (m_X12_goOn (d + 3) 0 0) [.ref 1, .int x1] (h_im h 217 x1.toNatClampNeg (h_i h 1 63)) (fun h22 => Wf h22 ∧ (K 1 h22)))) ∧ (¬ ((150 * x2) + (h_i h 227 x2.toNatClampNeg)) ≤ x3 → vp_in x3 1800 ∧ ((¬ (h_i h 228 x3.toNatClampNeg) = 2 → AW (m_X12_begin (d + 4) 0 0) 0 0 106 [(0, .ref 1), (1, .int x1), (2, .int x2), (3, .int (x3 + 1))] [] h (kI K)) ∧ ((h_i h 228 x3.toNatClampNeg) = 2 → vp_in (h_i h 1 63) 400 ∧ (vp_in x3 1800 ∧ (vp_in (h_i h 1 63) 400 ∧ (vp_in x3 1800 ∧ (vp_in (h_i h 1 63) 400 ∧ (vp_in (h_i h 1 63) 400 ∧ (vp_in (h_i h 1 63) 400 ∧ (vp_in (h_i h 1 63) 400 ∧ (AW (m_X12_begin (d + 4) 0 0) 0 0 106 [(0, .ref 1), (1, .int x1), (2, .int x2), (3, .int (x3 + 1))] [] (h_im (h_im (h_im (h_im (h_im (h_im (h_im h 238 ((h_i h 1 63) : Int32).toNatClampNeg x1) 239 ((h_i h 1 63) : Int32).toNatClampNeg (h_i h 229 x3.toNatClampNeg)) 240 ((h_i h 1 63) : Int32).toNatClampNeg ((h_i h 1 0) + (h_i h 230 x3.toNatClampNeg))) 241 ((h_i h 1 63) : Int32).toNatClampNeg (-1)) 242 ((h_i h 1 63) : Int32).toNatClampNeg (-1)) 244 ((h_i h 1 63) : Int32).toNatClampNeg (h_i h 1 0)) 1 63 ((h_i h 1 63) + 1)) (kI K)))))))))))))) : AW (m_X12_begin (d + 4) 0 0) 0 0 106 [(0, .ref 1), (1, .int x1), (2, .int x2), (3, .int x3)] [] h (kI K) := by
  refine aw_iload_n (i := 3) rfl d_X12_begin_106 3 rfl ?_
  refine aw_sipush (v := 150) d_X12_begin_107 is_150 ?_
  refine aw_iload_n (i := 2) rfl d_X12_begin_110 2 rfl ?_
  refine aw_imul d_X12_begin_111 ?_
  refine aw_aload_n (i := 0) rfl d_X12_begin_112 0 rfl ?_
  refine aw_getr (k0 := 38) kc_12 (ws_1 w) (Nat.le_of_ble_eq_true rfl) tw_1780 d_X12_begin_113 rfl (wr_1_38 w) ?_
  refine aw_iload_n (i := 2) rfl d_X12_begin_116 2 rfl ?_
  obtain ⟨b19, k⟩ := k
  refine aw_iald (ws_227 w) b19 d_X12_begin_117 ?_
  refine aw_iadd d_X12_begin_118 ?_
  refine aw_icmp_ge (tgt := 226) d_X12_begin_119 rfl (fun c20 => ?_) (fun c20 => ?_)
  · have k := k.1 c20
    refine aw_aload_n (i := 0) rfl d_X12_begin_226 0 rfl ?_
    refine aw_getr (k0 := 21) kc_12 (ws_1 w) (Nat.le_of_ble_eq_true rfl) tw_1763 d_X12_begin_227 rfl (wr_1_21 w) ?_
    refine aw_iload_n (i := 1) rfl d_X12_begin_230 1 rfl ?_
    refine aw_aload_n (i := 0) rfl d_X12_begin_231 0 rfl ?_
    refine aw_geti (k0 := 63) kc_12 (ws_1 w) (Nat.le_of_ble_eq_true rfl) tw_1805 d_X12_begin_232 rfl ?_
    obtain ⟨b21, k⟩ := k
    refine aw_iast (ws_217 w) b21 d_X12_begin_235 ?_
    refine aw_aload_n (i := 0) rfl d_X12_begin_236 0 rfl ?_
    refine aw_iload_n (i := 1) rfl d_X12_begin_237 1 rfl ?_
    refine aw_Vv 1 [.int x1] [] d_X12_begin_238 (cV_X12_goOn (d + 3) 0 0) kc_12 (ws_1 w) tw_2340 rfl (rr0 (Nat.le_of_ble_eq_true rfl) (Nat.le_of_ble_eq_true rfl)) (Nat.le_of_ble_eq_true rfl) xs0 k (fun h22 kk => ?_)
    obtain ⟨w23, k⟩ := kk
    refine aw_iconst (v := 1) d_X12_begin_241 ic_1 ?_
    exact aw_zret rfl rfl d_X12_begin_242 ⟨Nat.le_refl _, Nat.le_refl _⟩ ⟨_, rfl, k⟩
  · have k := k.2 c20
    refine aw_aload_n (i := 0) rfl d_X12_begin_122 0 rfl ?_
    refine aw_getr (k0 := 39) kc_12 (ws_1 w) (Nat.le_of_ble_eq_true rfl) tw_1781 d_X12_begin_123 rfl (wr_1_39 w) ?_
    refine aw_iload_n (i := 3) rfl d_X12_begin_126 3 rfl ?_
    obtain ⟨b25, k⟩ := k
    refine aw_iald (ws_228 w) b25 d_X12_begin_127 ?_
    refine aw_iconst (v := 2) d_X12_begin_128 ic_2 ?_
    refine aw_icmp_ne (tgt := 220) d_X12_begin_129 rfl (fun c26 => ?_) (fun c26 => ?_)
    · have k := k.1 c26
      refine aw_iinc (v := (x3 + 1)) [(0, .ref 1), (1, .int x1), (2, .int x2), (3, .int (x3 + 1))] d_X12_begin_220 3 rfl rfl (Nat.le_of_ble_eq_true rfl) rfl rfl ?_
      refine aw_goto (tgt := 106) d_X12_begin_223 rfl ?_
      exact k
    · have k := k.2 c26
      refine aw_aload_n (i := 0) rfl d_X12_begin_132 0 rfl ?_
      refine aw_getr (k0 := 53) kc_12 (ws_1 w) (Nat.le_of_ble_eq_true rfl) tw_1795 d_X12_begin_133 rfl (wr_1_53 w) ?_
      refine aw_aload_n (i := 0) rfl d_X12_begin_136 0 rfl ?_
      refine aw_geti (k0 := 63) kc_12 (ws_1 w) (Nat.le_of_ble_eq_true rfl) tw_1805 d_X12_begin_137 rfl ?_
      refine aw_iload_n (i := 1) rfl d_X12_begin_140 1 rfl ?_
      obtain ⟨b27, k⟩ := k
      refine aw_iast (ws_238 w) b27 d_X12_begin_141 ?_
      refine aw_aload_n (i := 0) rfl d_X12_begin_142 0 rfl ?_
      refine aw_getr (k0 := 54) kc_12 (ws_1 w) (Nat.le_of_ble_eq_true rfl) tw_1796 d_X12_begin_143 rfl (wr_1_54 w) ?_
      refine aw_aload_n (i := 0) rfl d_X12_begin_146 0 rfl ?_
      refine aw_geti (k0 := 63) kc_12 (ws_1 w) (Nat.le_of_ble_eq_true rfl) tw_1805 d_X12_begin_147 rfl ?_
      refine aw_vi (v2 := (h_i h 1 63)) (rfl) ?_
      refine aw_aload_n (i := 0) rfl d_X12_begin_150 0 rfl ?_
      refine aw_getr (k0 := 40) kc_12 (ws_1 w) (Nat.le_of_ble_eq_true rfl) tw_1782 d_X12_begin_151 rfl (wr_1_40 w) ?_
      refine aw_iload_n (i := 3) rfl d_X12_begin_154 3 rfl ?_
      obtain ⟨b28, k⟩ := k
      refine aw_iald (ws_229 w) b28 d_X12_begin_155 ?_
      refine aw_vi (v2 := (h_i h 229 x3.toNatClampNeg)) (rfl) ?_
      obtain ⟨b29, k⟩ := k
      refine aw_iast (ws_239 w) b29 d_X12_begin_156 ?_
      refine aw_aload_n (i := 0) rfl d_X12_begin_157 0 rfl ?_
      refine aw_getr (k0 := 55) kc_12 (ws_1 w) (Nat.le_of_ble_eq_true rfl) tw_1797 d_X12_begin_158 rfl (wr_1_55 w) ?_
      refine aw_aload_n (i := 0) rfl d_X12_begin_161 0 rfl ?_
      refine aw_geti (k0 := 63) kc_12 (ws_1 w) (Nat.le_of_ble_eq_true rfl) tw_1805 d_X12_begin_162 rfl ?_
      refine aw_vi (v2 := (h_i h 1 63)) (rfl) ?_
      refine aw_aload_n (i := 0) rfl d_X12_begin_165 0 rfl ?_
      refine aw_geti (k0 := 0) kc_12 (ws_1 w) (Nat.le_of_ble_eq_true rfl) tw_1742 d_X12_begin_166 rfl ?_
      refine aw_vi (v2 := (h_i h 1 0)) (rfl) ?_
      refine aw_aload_n (i := 0) rfl d_X12_begin_169 0 rfl ?_
      refine aw_getr (k0 := 41) kc_12 (ws_1 w) (Nat.le_of_ble_eq_true rfl) tw_1783 d_X12_begin_170 rfl (wr_1_41 w) ?_
      refine aw_iload_n (i := 3) rfl d_X12_begin_173 3 rfl ?_
      obtain ⟨b30, k⟩ := k
      refine aw_iald (ws_230 w) b30 d_X12_begin_174 ?_
      refine aw_vi (v2 := (h_i h 230 x3.toNatClampNeg)) (rfl) ?_
      refine aw_iadd d_X12_begin_175 ?_
      obtain ⟨b31, k⟩ := k
      refine aw_iast (ws_240 w) b31 d_X12_begin_176 ?_
      refine aw_aload_n (i := 0) rfl d_X12_begin_177 0 rfl ?_
      refine aw_getr (k0 := 56) kc_12 (ws_1 w) (Nat.le_of_ble_eq_true rfl) tw_1798 d_X12_begin_178 rfl (wr_1_56 w) ?_
      refine aw_aload_n (i := 0) rfl d_X12_begin_181 0 rfl ?_
      refine aw_geti (k0 := 63) kc_12 (ws_1 w) (Nat.le_of_ble_eq_true rfl) tw_1805 d_X12_begin_182 rfl ?_
      refine aw_vi (v2 := (h_i h 1 63)) (rfl) ?_
      refine aw_iconst (v := (-1)) d_X12_begin_185 ic_m1 ?_
      obtain ⟨b32, k⟩ := k
      refine aw_iast (ws_241 w) b32 d_X12_begin_186 ?_
      refine aw_aload_n (i := 0) rfl d_X12_begin_187 0 rfl ?_
      refine aw_getr (k0 := 57) kc_12 (ws_1 w) (Nat.le_of_ble_eq_true rfl) tw_1799 d_X12_begin_188 rfl (wr_1_57 w) ?_
      refine aw_aload_n (i := 0) rfl d_X12_begin_191 0 rfl ?_
      refine aw_geti (k0 := 63) kc_12 (ws_1 w) (Nat.le_of_ble_eq_true rfl) tw_1805 d_X12_begin_192 rfl ?_
      refine aw_vi (v2 := (h_i h 1 63)) (rfl) ?_
      refine aw_iconst (v := (-1)) d_X12_begin_195 ic_m1 ?_
      obtain ⟨b33, k⟩ := k
      refine aw_iast (ws_242 w) b33 d_X12_begin_196 ?_
      refine aw_aload_n (i := 0) rfl d_X12_begin_197 0 rfl ?_
      refine aw_getr (k0 := 59) kc_12 (ws_1 w) (Nat.le_of_ble_eq_true rfl) tw_1801 d_X12_begin_198 rfl (wr_1_59 w) ?_
      refine aw_aload_n (i := 0) rfl d_X12_begin_201 0 rfl ?_
      refine aw_geti (k0 := 63) kc_12 (ws_1 w) (Nat.le_of_ble_eq_true rfl) tw_1805 d_X12_begin_202 rfl ?_
      refine aw_vi (v2 := (h_i h 1 63)) (rfl) ?_
      refine aw_aload_n (i := 0) rfl d_X12_begin_205 0 rfl ?_
      refine aw_geti (k0 := 0) kc_12 (ws_1 w) (Nat.le_of_ble_eq_true rfl) tw_1742 d_X12_begin_206 rfl ?_
      refine aw_vi (v2 := (h_i h 1 0)) (rfl) ?_
      obtain ⟨b34, k⟩ := k
      refine aw_iast (ws_244 w) b34 d_X12_begin_209 ?_
      refine aw_aload_n (i := 0) rfl d_X12_begin_210 0 rfl ?_
      refine aw_dup d_X12_begin_211 rfl ?_
      refine aw_geti (k0 := 63) kc_12 (ws_1 w) (Nat.le_of_ble_eq_true rfl) tw_1805 d_X12_begin_212 rfl ?_
      refine aw_vi (v2 := (h_i h 1 63)) (rfl) ?_
      refine aw_iconst (v := 1) d_X12_begin_215 ic_1 ?_
      refine aw_iadd d_X12_begin_216 ?_
      refine aw_puti (k0 := 63) kc_12 (ws_1 w) (Nat.le_of_ble_eq_true rfl) tw_1805 d_X12_begin_217 rfl rfl nf_i ?_
      refine aw_iinc (v := (x3 + 1)) [(0, .ref 1), (1, .int x1), (2, .int x2), (3, .int (x3 + 1))] d_X12_begin_220 3 rfl rfl (Nat.le_of_ble_eq_true rfl) rfl rfl ?_
      refine aw_goto (tgt := 106) d_X12_begin_223 rfl ?_
      exact k
theorem t_X12_cased (d : Nat) (h : Hp_) (w : Wf h) (x1 : Int32) (x2 : Int32) (x3 : Int32) (K : Int32 → Hp_ → Prop) (k : Ci (m_X12_isOpen (d + 2) 0 0) [.ref 1, .int x1, .int x2] h (fun r3 h1 => Wf h1 ∧ ((¬ r3 = 0 → (x3 = 0 → Ci (m_X12_whatIs (d + 3) 0 0) [.ref 1, .int x1, .int x2] h1 (fun r8 h6 => Wf h6 ∧ (K r8 h6))) ∧ ((x3 = 1 → Ci (m_X12_lacks (d + 2) 0 0) [.ref 1, .int x1, .int x2] h1 (fun r12 h10 => Wf h10 ∧ (K r12 h10))) ∧ ((x3 = 2 → vp_in x1 30 ∧ (K (h_i h1 262 x1.toNatClampNeg) h1)) ∧ ((x3 = 3 → vp_in x1 30 ∧ (K (h_i h1 263 x1.toNatClampNeg) h1)) ∧ ((x3 = 4 → Ci (m_X12_standing (d + 2) 0 0) [.ref 1, .int x1, .int x2] h1 (fun r20 h18 => Wf h18 ∧ (Ci (m_J6_bitCount_0f7a4 (d + 0) 0 0) [.int r20] h18 (fun r23 h21 => Wf h21 ∧ (K r23 h21))))) ∧ ((¬ x3 = 0 ∧ ¬ x3 = 1 ∧ ¬ x3 = 2 ∧ ¬ x3 = 3 ∧ ¬ x3 = 4 → K (-1) h1))))))) ∧ (r3 = 0 → K (-1) h1)))) : Ci (m_X12_cased (d + 4) 0 0) [.ref 1, .int x1, .int x2, .int x3] h K := by
  refine Ct.of (fun _ _ _ => trivial) rfl (Nat.le_of_ble_eq_true rfl) ?_
  show AW (m_X12_cased (d + 4) 0 0) 0 0 0 [(0, .ref 1), (1, .int x1), (2, .int x2), (3, .int x3)] [] h (kI K)
  refine aw_aload_n (i := 0) rfl d_X12_cased_0 0 rfl ?_
  refine aw_iload_n (i := 1) rfl d_X12_cased_1 1 rfl ?_
  refine aw_iload_n (i := 2) rfl d_X12_cased_2 2 rfl ?_
  refine aw_Vi 1 [.int x1, .int x2] [] d_X12_cased_3 (cV_X12_isOpen (d + 2) 0 0) kc_12 (ws_1 w) tw_2515 rfl (rr0 (Nat.le_of_ble_eq_true rfl) (Nat.le_of_ble_eq_true rfl)) (Nat.le_of_ble_eq_true rfl) xs0 k (fun r3 h1 kk => ?_)
  obtain ⟨w2, k⟩ := kk
  refine aw_if_ne (tgt := 11) d_X12_cased_6 rfl (fun c4 => ?_) (fun c4 => ?_)
  · have k := k.1 c4
    refine aw_iload_n (i := 3) rfl d_X12_cased_11 3 rfl ?_
    by_cases e5 : x3 = 0
    · refine aw_tableIn (off := 36) (tgt := 48) d_X12_cased_12 (by rw [e5]; decide) (by rw [e5]; decide) (by rw [e5]; decide) rfl ?_
      have k := k.1 e5
      refine aw_aload_n (i := 0) rfl d_X12_cased_48 0 rfl ?_
      refine aw_iload_n (i := 1) rfl d_X12_cased_49 1 rfl ?_
      refine aw_iload_n (i := 2) rfl d_X12_cased_50 2 rfl ?_
      refine aw_Vi 1 [.int x1, .int x2] [] d_X12_cased_51 (cV_X12_whatIs (d + 3) 0 0) kc_12 (ws_1 w2) tw_2527 rfl (rr0 (Nat.le_of_ble_eq_true rfl) (Nat.le_of_ble_eq_true rfl)) (Nat.le_of_ble_eq_true rfl) xs0 k (fun r8 h6 kk => ?_)
      obtain ⟨w7, k⟩ := kk
      exact aw_iret rfl d_X12_cased_54 ⟨Nat.le_refl _, Nat.le_refl _⟩ ⟨_, rfl, k⟩
    · have k := k.2
      by_cases e9 : x3 = 1
      · refine aw_tableIn (off := 43) (tgt := 55) d_X12_cased_12 (by rw [e9]; decide) (by rw [e9]; decide) (by rw [e9]; decide) rfl ?_
        have k := k.1 e9
        refine aw_aload_n (i := 0) rfl d_X12_cased_55 0 rfl ?_
        refine aw_iload_n (i := 1) rfl d_X12_cased_56 1 rfl ?_
        refine aw_iload_n (i := 2) rfl d_X12_cased_57 2 rfl ?_
        refine aw_Vi 1 [.int x1, .int x2] [] d_X12_cased_58 (cV_X12_lacks (d + 2) 0 0) kc_12 (ws_1 w2) tw_2535 rfl (rr0 (Nat.le_of_ble_eq_true rfl) (Nat.le_of_ble_eq_true rfl)) (Nat.le_of_ble_eq_true rfl) xs0 k (fun r12 h10 kk => ?_)
        obtain ⟨w11, k⟩ := kk
        exact aw_iret rfl d_X12_cased_61 ⟨Nat.le_refl _, Nat.le_refl _⟩ ⟨_, rfl, k⟩
      · have k := k.2
        by_cases e13 : x3 = 2
        · refine aw_tableIn (off := 50) (tgt := 62) d_X12_cased_12 (by rw [e13]; decide) (by rw [e13]; decide) (by rw [e13]; decide) rfl ?_
          have k := k.1 e13
          refine aw_aload_n (i := 0) rfl d_X12_cased_62 0 rfl ?_
          refine aw_getr (k0 := 81) kc_12 (ws_1 w2) (Nat.le_of_ble_eq_true rfl) tw_1823 d_X12_cased_63 rfl (wr_1_81 w2) ?_
          refine aw_iload_n (i := 1) rfl d_X12_cased_66 1 rfl ?_
          obtain ⟨b14, k⟩ := k
          refine aw_iald (ws_262 w2) b14 d_X12_cased_67 ?_
          exact aw_iret rfl d_X12_cased_68 ⟨Nat.le_refl _, Nat.le_refl _⟩ ⟨_, rfl, k⟩
        · have k := k.2
          by_cases e15 : x3 = 3
          · refine aw_tableIn (off := 57) (tgt := 69) d_X12_cased_12 (by rw [e15]; decide) (by rw [e15]; decide) (by rw [e15]; decide) rfl ?_
            have k := k.1 e15
            refine aw_aload_n (i := 0) rfl d_X12_cased_69 0 rfl ?_
            refine aw_getr (k0 := 82) kc_12 (ws_1 w2) (Nat.le_of_ble_eq_true rfl) tw_1824 d_X12_cased_70 rfl (wr_1_82 w2) ?_
            refine aw_iload_n (i := 1) rfl d_X12_cased_73 1 rfl ?_
            obtain ⟨b16, k⟩ := k
            refine aw_iald (ws_263 w2) b16 d_X12_cased_74 ?_
            exact aw_iret rfl d_X12_cased_75 ⟨Nat.le_refl _, Nat.le_refl _⟩ ⟨_, rfl, k⟩
          · have k := k.2
            by_cases e17 : x3 = 4
            · refine aw_tableIn (off := 64) (tgt := 76) d_X12_cased_12 (by rw [e17]; decide) (by rw [e17]; decide) (by rw [e17]; decide) rfl ?_
              have k := k.1 e17
              refine aw_aload_n (i := 0) rfl d_X12_cased_76 0 rfl ?_
              refine aw_iload_n (i := 1) rfl d_X12_cased_77 1 rfl ?_
              refine aw_iload_n (i := 2) rfl d_X12_cased_78 2 rfl ?_
              refine aw_Vi 1 [.int x1, .int x2] [] d_X12_cased_79 (cV_X12_standing (d + 2) 0 0) kc_12 (ws_1 w2) tw_2539 rfl (rr0 (Nat.le_of_ble_eq_true rfl) (Nat.le_of_ble_eq_true rfl)) (Nat.le_of_ble_eq_true rfl) xs0 k (fun r20 h18 kk => ?_)
              obtain ⟨w19, k⟩ := kk
              refine aw_Si [.int r20] [] d_X12_cased_82 (cS_J6_bitCount_0f7a4 (d + 0) 0 0) tw_2543 rfl (rr0 (Nat.le_of_ble_eq_true rfl) (Nat.le_of_ble_eq_true rfl)) (Nat.le_of_ble_eq_true rfl) xs0 k (fun r23 h21 kk => ?_)
              obtain ⟨w22, k⟩ := kk
              exact aw_iret rfl d_X12_cased_85 ⟨Nat.le_refl _, Nat.le_refl _⟩ ⟨_, rfl, k⟩
            · have k := k.2
              have k := k ⟨e5, e9, e13, e15, e17⟩
              have n24 := sw_ne (0) (by decide) e5
              have n25 := sw_ne (1) (by decide) e9
              have n26 := sw_ne (2) (by decide) e13
              have n27 := sw_ne (3) (by decide) e15
              have n28 := sw_ne (4) (by decide) e17
              refine aw_tableOut (tgt := 86) d_X12_cased_12 (by omega) rfl ?_
              refine aw_iconst (v := (-1)) d_X12_cased_86 ic_m1 ?_
              exact aw_iret rfl d_X12_cased_87 ⟨Nat.le_refl _, Nat.le_refl _⟩ ⟨_, rfl, k⟩
  · have k := k.2 c4
    refine aw_iconst (v := (-1)) d_X12_cased_9 ic_m1 ?_
    exact aw_iret rfl d_X12_cased_10 ⟨Nat.le_refl _, Nat.le_refl _⟩ ⟨_, rfl, k⟩
theorem t_X12_withdraw (d : Nat) (h : Hp_) (w : Wf h) (x1 : Int32) (K : Int32 → Hp_ → Prop) (k : (¬ (0 ≤ x1 ∧ x1 ≤ 15) → K (-1) h) ∧ ((0 ≤ x1 ∧ x1 ≤ 15) → vp_in x1 16 ∧ (((h_i h 272 x1.toNatClampNeg) = 0 → AW (m_X12_withdraw (d + 4) 0 0) 0 0 23 [(0, .ref 1), (1, .int x1), (2, .int 0)] [] h (kI K)) ∧ (¬ (h_i h 272 x1.toNatClampNeg) = 0 → K (-1) h)))) : Ci (m_X12_withdraw (d + 4) 0 0) [.ref 1, .int x1] h K := by
  refine Ct.of (fun _ _ _ => trivial) rfl (Nat.le_of_ble_eq_true rfl) ?_
  show AW (m_X12_withdraw (d + 4) 0 0) 0 0 0 [(0, .ref 1), (1, .int x1)] [] h (kI K)
  refine aw_iload_n (i := 1) rfl d_X12_withdraw_0 1 rfl ?_
  refine aw_iconst (v := 0) d_X12_withdraw_1 ic_0 ?_
  refine aw_bipush (v := 15) d_X12_withdraw_2 ib_15 ?_
  refine aw_Si [.int x1, .int 0, .int 15] [] d_X12_withdraw_4 (cS_X12_in (d + 0) 0 0) tw_2147 rfl (rr0 (Nat.le_of_ble_eq_true rfl) (Nat.le_of_ble_eq_true rfl)) (Nat.le_of_ble_eq_true rfl) xs0 (s_X12_in _ _ x1 0 15) (fun _ _ kk => ?_)
  obtain ⟨e1, e2⟩ := kk
  rw [e1, e2]
  refine aw_ifb_eq (tgt := 19) d_X12_withdraw_7 rfl (fun c3 => ?_) (fun c3 => ?_)
  · have k := k.1 c3
    refine aw_iconst (v := (-1)) d_X12_withdraw_19 ic_m1 ?_
    exact aw_iret rfl d_X12_withdraw_20 ⟨Nat.le_refl _, Nat.le_refl _⟩ ⟨_, rfl, k⟩
  · have k := k.2 c3
    refine aw_aload_n (i := 0) rfl d_X12_withdraw_10 0 rfl ?_
    refine aw_getr (k0 := 91) kc_12 (ws_1 w) (Nat.le_of_ble_eq_true rfl) tw_1833 d_X12_withdraw_11 rfl (wr_1_91 w) ?_
    refine aw_iload_n (i := 1) rfl d_X12_withdraw_14 1 rfl ?_
    obtain ⟨b4, k⟩ := k
    refine aw_zald (ws_272 w) b4 d_X12_withdraw_15 ?_
    refine aw_if_eq (tgt := 21) d_X12_withdraw_16 rfl (fun c5 => ?_) (fun c5 => ?_)
    · have k := k.1 c5
      refine aw_iconst (v := 0) d_X12_withdraw_21 ic_0 ?_
      refine aw_istore_n (i := 2) rfl [(0, .ref 1), (1, .int x1), (2, .int 0)] d_X12_withdraw_22 (Nat.le_of_ble_eq_true rfl) rfl rfl ?_
      exact k
    · have k := k.2 c5
      refine aw_iconst (v := (-1)) d_X12_withdraw_19 ic_m1 ?_
      exact aw_iret rfl d_X12_withdraw_20 ⟨Nat.le_refl _, Nat.le_refl _⟩ ⟨_, rfl, k⟩
theorem t_X12_withdraw_23 (d : Nat) (h : Hp_) (w : Wf h) (x1 : Int32) (x2 : Int32) (K : Int32 → Hp_ → Prop) (k : ((h_i h 1 96) ≤ x2 → vp_in x1 16 ∧ (vp_in x1 16 ∧ (AW (m_X12_withdraw (d + 4) 0 0) 0 0 85 [(0, .ref 1), (2, .int 0), (3, .int 0)] [] (h_im (h_im h 272 x1.toNatClampNeg (vp_nar .boolean 1)) 271 x1.toNatClampNeg (h_i h 1 0)) (kI K)))) ∧ (¬ (h_i h 1 96) ≤ x2 → Ci (m_X12_lacks (d + 2) 0 0) [.ref 1, .int x2, .int (h_i h 1 0)] h (fun r11 h9 => Wf h9 ∧ (Ci (m_X12_whatIs (d + 3) 0 0) [.ref 1, .int x2, .int (h_i h9 1 0)] h9 (fun r14 h12 => Wf h12 ∧ (vp_in x2 30 ∧ (AW (m_X12_withdraw (d + 4) 0 0) 0 0 23 [(0, .ref 1), (1, .int x1), (2, .int (x2 + 1))] [] (h_im h12 277 x2.toNatClampNeg ((4 * r11) + r14)) (kI K)))))))) : AW (m_X12_withdraw (d + 4) 0 0) 0 0 23 [(0, .ref 1), (1, .int x1), (2, .int x2)] [] h (kI K) := by
  refine aw_iload_n (i := 2) rfl d_X12_withdraw_23 2 rfl ?_
  refine aw_aload_n (i := 0) rfl d_X12_withdraw_24 0 rfl ?_
  refine aw_geti (k0 := 96) kc_12 (ws_1 w) (Nat.le_of_ble_eq_true rfl) tw_1838 d_X12_withdraw_25 rfl ?_
  refine aw_icmp_ge (tgt := 64) d_X12_withdraw_28 rfl (fun c6 => ?_) (fun c6 => ?_)
  · have k := k.1 c6
    refine aw_aload_n (i := 0) rfl d_X12_withdraw_64 0 rfl ?_
    refine aw_getr (k0 := 91) kc_12 (ws_1 w) (Nat.le_of_ble_eq_true rfl) tw_1833 d_X12_withdraw_65 rfl (wr_1_91 w) ?_
    refine aw_iload_n (i := 1) rfl d_X12_withdraw_68 1 rfl ?_
    refine aw_iconst (v := 1) d_X12_withdraw_69 ic_1 ?_
    obtain ⟨b7, k⟩ := k
    refine aw_zast (ws_272 w) b7 d_X12_withdraw_70 ?_
    refine aw_aload_n (i := 0) rfl d_X12_withdraw_71 0 rfl ?_
    refine aw_getr (k0 := 90) kc_12 (ws_1 w) (Nat.le_of_ble_eq_true rfl) tw_1832 d_X12_withdraw_72 rfl (wr_1_90 w) ?_
    refine aw_iload_n (i := 1) rfl d_X12_withdraw_75 1 rfl ?_
    refine aw_aload_n (i := 0) rfl d_X12_withdraw_76 0 rfl ?_
    refine aw_geti (k0 := 0) kc_12 (ws_1 w) (Nat.le_of_ble_eq_true rfl) tw_1742 d_X12_withdraw_77 rfl ?_
    refine aw_vi (v2 := (h_i h 1 0)) (rfl) ?_
    obtain ⟨b8, k⟩ := k
    refine aw_iast (ws_271 w) b8 d_X12_withdraw_80 ?_
    refine aw_iconst (v := 0) d_X12_withdraw_81 ic_0 ?_
    refine aw_istore_n (i := 2) rfl [(0, .ref 1), (1, .int x1), (2, .int 0)] d_X12_withdraw_82 (Nat.le_of_ble_eq_true rfl) rfl rfl ?_
    refine aw_iconst (v := 0) d_X12_withdraw_83 ic_0 ?_
    refine aw_istore_n (i := 3) rfl [(0, .ref 1), (1, .int x1), (2, .int 0), (3, .int 0)] d_X12_withdraw_84 (Nat.le_of_ble_eq_true rfl) rfl rfl ?_
    exact aw_lvp [0, 2, 3] [(0, .ref 1), (2, .int 0), (3, .int 0)] rfl k
  · have k := k.2 c6
    refine aw_aload_n (i := 0) rfl d_X12_withdraw_31 0 rfl ?_
    refine aw_getr (k0 := 98) kc_12 (ws_1 w) (Nat.le_of_ble_eq_true rfl) tw_1840 d_X12_withdraw_32 rfl (wr_1_98 w) ?_
    refine aw_iload_n (i := 2) rfl d_X12_withdraw_35 2 rfl ?_
    refine aw_iconst (v := 4) d_X12_withdraw_36 ic_4 ?_
    refine aw_aload_n (i := 0) rfl d_X12_withdraw_37 0 rfl ?_
    refine aw_iload_n (i := 2) rfl d_X12_withdraw_38 2 rfl ?_
    refine aw_aload_n (i := 0) rfl d_X12_withdraw_39 0 rfl ?_
    refine aw_geti (k0 := 0) kc_12 (ws_1 w) (Nat.le_of_ble_eq_true rfl) tw_1742 d_X12_withdraw_40 rfl ?_
    refine aw_Vi 1 [.int x2, .int (h_i h 1 0)] [.int 4, .int x2, .ref 277] d_X12_withdraw_43 (cV_X12_lacks (d + 2) 0 0) kc_12 (ws_1 w) tw_2535 rfl (rr0 (Nat.le_of_ble_eq_true rfl) (Nat.le_of_ble_eq_true rfl)) (Nat.le_of_ble_eq_true rfl) xs0 k (fun r11 h9 kk => ?_)
    obtain ⟨w10, k⟩ := kk
    refine aw_imul d_X12_withdraw_46 ?_
    refine aw_aload_n (i := 0) rfl d_X12_withdraw_47 0 rfl ?_
    refine aw_iload_n (i := 2) rfl d_X12_withdraw_48 2 rfl ?_
    refine aw_aload_n (i := 0) rfl d_X12_withdraw_49 0 rfl ?_
    refine aw_geti (k0 := 0) kc_12 (ws_1 w10) (Nat.le_of_ble_eq_true rfl) tw_1742 d_X12_withdraw_50 rfl ?_
    refine aw_Vi 1 [.int x2, .int (h_i h9 1 0)] [.int (4 * r11), .int x2, .ref 277] d_X12_withdraw_53 (cV_X12_whatIs (d + 3) 0 0) kc_12 (ws_1 w10) tw_2527 rfl (rr0 (Nat.le_of_ble_eq_true rfl) (Nat.le_of_ble_eq_true rfl)) (Nat.le_of_ble_eq_true rfl) xs0 k (fun r14 h12 kk => ?_)
    obtain ⟨w13, k⟩ := kk
    refine aw_iadd d_X12_withdraw_56 ?_
    obtain ⟨b15, k⟩ := k
    refine aw_iast (ws_277 w13) b15 d_X12_withdraw_57 ?_
    refine aw_iinc (v := (x2 + 1)) [(0, .ref 1), (1, .int x1), (2, .int (x2 + 1))] d_X12_withdraw_58 2 rfl rfl (Nat.le_of_ble_eq_true rfl) rfl rfl ?_
    refine aw_goto (tgt := 23) d_X12_withdraw_61 rfl ?_
    exact k
theorem t_X12_withdraw_85 (d : Nat) (h : Hp_) (w : Wf h) (x2 : Int32) (x3 : Int32) (K : Int32 → Hp_ → Prop) (k : ((h_i h 1 96) ≤ x3 → K x2 h) ∧ (¬ (h_i h 1 96) ≤ x3 → vp_in x3 30 ∧ (Ci (m_X12_lacks (d + 2) 0 0) [.ref 1, .int x3, .int (h_i h 1 0)] h (fun r20 h18 => Wf h18 ∧ (Ci (m_X12_whatIs (d + 3) 0 0) [.ref 1, .int x3, .int (h_i h18 1 0)] h18 (fun r23 h21 => Wf h21 ∧ (((h_i h 277 x3.toNatClampNeg) = ((4 * r20) + r23) → AW (m_X12_withdraw (d + 4) 0 0) 0 0 85 [(0, .ref 1), (2, .int (x2 + 0)), (3, .int (x3 + 1))] [] h21 (kI K)) ∧ (¬ (h_i h 277 x3.toNatClampNeg) = ((4 * r20) + r23) → AW (m_X12_withdraw (d + 4) 0 0) 0 0 85 [(0, .ref 1), (2, .int (x2 + 1)), (3, .int (x3 + 1))] [] h21 (kI K))))))))) : AW (m_X12_withdraw (d + 4) 0 0) 0 0 85 [(0, .ref 1), (2, .int x2), (3, .int x3)] [] h (kI K) := by
  refine aw_iload_n (i := 3) rfl d_X12_withdraw_85 2 rfl ?_
  refine aw_aload_n (i := 0) rfl d_X12_withdraw_86 0 rfl ?_
  refine aw_geti (k0 := 96) kc_12 (ws_1 w) (Nat.le_of_ble_eq_true rfl) tw_1838 d_X12_withdraw_87 rfl ?_
  refine aw_icmp_ge (tgt := 137) d_X12_withdraw_90 rfl (fun c16 => ?_) (fun c16 => ?_)
  · have k := k.1 c16
    refine aw_iload_n (i := 2) rfl d_X12_withdraw_137 1 rfl ?_
    exact aw_iret rfl d_X12_withdraw_138 ⟨Nat.le_refl _, Nat.le_refl _⟩ ⟨_, rfl, k⟩
  · have k := k.2 c16
    refine aw_iload_n (i := 2) rfl d_X12_withdraw_93 1 rfl ?_
    refine aw_aload_n (i := 0) rfl d_X12_withdraw_94 0 rfl ?_
    refine aw_getr (k0 := 98) kc_12 (ws_1 w) (Nat.le_of_ble_eq_true rfl) tw_1840 d_X12_withdraw_95 rfl (wr_1_98 w) ?_
    refine aw_iload_n (i := 3) rfl d_X12_withdraw_98 2 rfl ?_
    obtain ⟨b17, k⟩ := k
    refine aw_iald (ws_277 w) b17 d_X12_withdraw_99 ?_
    refine aw_iconst (v := 4) d_X12_withdraw_100 ic_4 ?_
    refine aw_aload_n (i := 0) rfl d_X12_withdraw_101 0 rfl ?_
    refine aw_iload_n (i := 3) rfl d_X12_withdraw_102 2 rfl ?_
    refine aw_aload_n (i := 0) rfl d_X12_withdraw_103 0 rfl ?_
    refine aw_geti (k0 := 0) kc_12 (ws_1 w) (Nat.le_of_ble_eq_true rfl) tw_1742 d_X12_withdraw_104 rfl ?_
    refine aw_Vi 1 [.int x3, .int (h_i h 1 0)] [.int 4, .int (h_i h 277 x3.toNatClampNeg), .int x2] d_X12_withdraw_107 (cV_X12_lacks (d + 2) 0 0) kc_12 (ws_1 w) tw_2535 rfl (rr0 (Nat.le_of_ble_eq_true rfl) (Nat.le_of_ble_eq_true rfl)) (Nat.le_of_ble_eq_true rfl) xs0 k (fun r20 h18 kk => ?_)
    obtain ⟨w19, k⟩ := kk
    refine aw_imul d_X12_withdraw_110 ?_
    refine aw_aload_n (i := 0) rfl d_X12_withdraw_111 0 rfl ?_
    refine aw_iload_n (i := 3) rfl d_X12_withdraw_112 2 rfl ?_
    refine aw_aload_n (i := 0) rfl d_X12_withdraw_113 0 rfl ?_
    refine aw_geti (k0 := 0) kc_12 (ws_1 w19) (Nat.le_of_ble_eq_true rfl) tw_1742 d_X12_withdraw_114 rfl ?_
    refine aw_Vi 1 [.int x3, .int (h_i h18 1 0)] [.int (4 * r20), .int (h_i h 277 x3.toNatClampNeg), .int x2] d_X12_withdraw_117 (cV_X12_whatIs (d + 3) 0 0) kc_12 (ws_1 w19) tw_2527 rfl (rr0 (Nat.le_of_ble_eq_true rfl) (Nat.le_of_ble_eq_true rfl)) (Nat.le_of_ble_eq_true rfl) xs0 k (fun r23 h21 kk => ?_)
    obtain ⟨w22, k⟩ := kk
    refine aw_iadd d_X12_withdraw_120 ?_
    refine aw_icmp_eq (tgt := 128) d_X12_withdraw_121 rfl (fun c24 => ?_) (fun c24 => ?_)
    · have k := k.1 c24
      refine aw_iconst (v := 0) d_X12_withdraw_128 ic_0 ?_
      refine aw_iadd d_X12_withdraw_129 ?_
      refine aw_istore_n (i := 2) rfl [(0, .ref 1), (2, .int (x2 + 0)), (3, .int x3)] d_X12_withdraw_130 (Nat.le_of_ble_eq_true rfl) rfl rfl ?_
      refine aw_iinc (v := (x3 + 1)) [(0, .ref 1), (2, .int (x2 + 0)), (3, .int (x3 + 1))] d_X12_withdraw_131 2 rfl rfl (Nat.le_of_ble_eq_true rfl) rfl rfl ?_
      refine aw_goto (tgt := 85) d_X12_withdraw_134 rfl ?_
      exact k
    · have k := k.2 c24
      refine aw_iconst (v := 1) d_X12_withdraw_124 ic_1 ?_
      refine aw_goto (tgt := 129) d_X12_withdraw_125 rfl ?_
      refine aw_iadd d_X12_withdraw_129 ?_
      refine aw_istore_n (i := 2) rfl [(0, .ref 1), (2, .int (x2 + 1)), (3, .int x3)] d_X12_withdraw_130 (Nat.le_of_ble_eq_true rfl) rfl rfl ?_
      refine aw_iinc (v := (x3 + 1)) [(0, .ref 1), (2, .int (x2 + 1)), (3, .int (x3 + 1))] d_X12_withdraw_131 2 rfl rfl (Nat.le_of_ble_eq_true rfl) rfl rfl ?_
      refine aw_goto (tgt := 85) d_X12_withdraw_134 rfl ?_
      exact k
theorem t_X12_rivals (d : Nat) (h : Hp_) (w : Wf h) (x1 : Int32) (K : Int32 → Hp_ → Prop) (k : (¬ (0 ≤ x1 ∧ x1 ≤ (h_i h 1 101) - 1) → K (-1) h) ∧ ((0 ≤ x1 ∧ x1 ≤ (h_i h 1 101) - 1) → Ci (m_X12_rivalsOf (d + 3) 0 0) [.ref 1, .int x1] h (fun r6 h4 => Wf h4 ∧ (K r6 h4)))) : Ci (m_X12_rivals (d + 4) 0 0) [.ref 1, .int x1] h K := by
  refine Ct.of (fun _ _ _ => trivial) rfl (Nat.le_of_ble_eq_true rfl) ?_
  show AW (m_X12_rivals (d + 4) 0 0) 0 0 0 [(0, .ref 1), (1, .int x1)] [] h (kI K)
  refine aw_aload_n (i := 0) rfl d_X12_rivals_0 0 rfl ?_
  refine aw_iload_n (i := 1) rfl d_X12_rivals_1 1 rfl ?_
  refine aw_Vi 1 [.int x1] [] d_X12_rivals_2 (cV_X12_isLost (d + 1) 0 0) kc_12 (ws_1 w) tw_2582 rfl (rr0 (Nat.le_of_ble_eq_true rfl) (Nat.le_of_ble_eq_true rfl)) (Nat.le_of_ble_eq_true rfl) xs0 (s_X12_isLost _ _ w x1) (fun _ _ kk => ?_)
  obtain ⟨e1, e2⟩ := kk
  rw [e1, e2]
  refine aw_ifb_eq (tgt := 16) d_X12_rivals_5 rfl (fun c3 => ?_) (fun c3 => ?_)
  · have k := k.1 c3
    refine aw_iconst (v := (-1)) d_X12_rivals_16 ic_m1 ?_
    exact aw_iret rfl d_X12_rivals_17 ⟨Nat.le_refl _, Nat.le_refl _⟩ ⟨_, rfl, k⟩
  · have k := k.2 c3
    refine aw_aload_n (i := 0) rfl d_X12_rivals_8 0 rfl ?_
    refine aw_iload_n (i := 1) rfl d_X12_rivals_9 1 rfl ?_
    refine aw_Vi 1 [.int x1] [] d_X12_rivals_10 (cV_X12_rivalsOf (d + 3) 0 0) kc_12 (ws_1 w) tw_2590 rfl (rr0 (Nat.le_of_ble_eq_true rfl) (Nat.le_of_ble_eq_true rfl)) (Nat.le_of_ble_eq_true rfl) xs0 k (fun r6 h4 kk => ?_)
    obtain ⟨w5, k⟩ := kk
    refine aw_goto (tgt := 17) d_X12_rivals_13 rfl ?_
    exact aw_iret rfl d_X12_rivals_17 ⟨Nat.le_refl _, Nat.le_refl _⟩ ⟨_, rfl, k⟩
theorem t_X12_sure (d : Nat) (h : Hp_) (w : Wf h) (x1 : Int32) (K : Int32 → Hp_ → Prop) (k : ((0 ≤ x1 ∧ x1 ≤ (h_i h 1 101) - 1) → Ci (m_X12_joining (d + 2) 0 0) [.ref 1] h (fun r6 h4 => Wf h4 ∧ (Ci (m_X12_rivalsOf (d + 3) 0 0) [.ref 1, .int x1] h4 (fun r9 h7 => Wf h7 ∧ (Ci (m_J6_bitCount_0f7a4 (d + 0) 0 0) [.int r9] h7 (fun r12 h10 => Wf h10 ∧ (Ci (m_X12_bestFrom (d + 1) 0 0) [.ref 1, .int x1, .int (-1)] h10 (fun r15 h13 => Wf h13 ∧ ((¬ r15 = r6 → (¬ (r12 + 0) = 1 → K 0 h13) ∧ ((r12 + 0) = 1 → K 1 h13)) ∧ (r15 = r6 → (¬ (r12 + 1) = 1 → K 0 h13) ∧ ((r12 + 1) = 1 → K 1 h13))))))))))) ∧ (¬ (0 ≤ x1 ∧ x1 ≤ (h_i h 1 101) - 1) → K (-1) h)) : Ci (m_X12_sure (d + 4) 0 0) [.ref 1, .int x1] h K := by
  refine Ct.of (fun _ _ _ => trivial) rfl (Nat.le_of_ble_eq_true rfl) ?_
  show AW (m_X12_sure (d + 4) 0 0) 0 0 0 [(0, .ref 1), (1, .int x1)] [] h (kI K)
  refine aw_aload_n (i := 0) rfl d_X12_sure_0 0 rfl ?_
  refine aw_iload_n (i := 1) rfl d_X12_sure_1 1 rfl ?_
  refine aw_Vi 1 [.int x1] [] d_X12_sure_2 (cV_X12_isLost (d + 1) 0 0) kc_12 (ws_1 w) tw_2582 rfl (rr0 (Nat.le_of_ble_eq_true rfl) (Nat.le_of_ble_eq_true rfl)) (Nat.le_of_ble_eq_true rfl) xs0 (s_X12_isLost _ _ w x1) (fun _ _ kk => ?_)
  obtain ⟨e1, e2⟩ := kk
  rw [e1, e2]
  refine aw_ifb_ne (tgt := 10) d_X12_sure_5 rfl (fun c3 => ?_) (fun c3 => ?_)
  · have k := k.1 c3
    refine aw_aload_n (i := 0) rfl d_X12_sure_10 0 rfl ?_
    refine aw_Vi 1 [] [] d_X12_sure_11 (cV_X12_joining (d + 2) 0 0) kc_12 (ws_1 w) tw_2594 rfl (rr0 (Nat.le_of_ble_eq_true rfl) (Nat.le_of_ble_eq_true rfl)) (Nat.le_of_ble_eq_true rfl) xs0 k (fun r6 h4 kk => ?_)
    obtain ⟨w5, k⟩ := kk
    refine aw_istore_n (i := 2) rfl [(0, .ref 1), (1, .int x1), (2, .int r6)] d_X12_sure_14 (Nat.le_of_ble_eq_true rfl) rfl rfl ?_
    refine aw_aload_n (i := 0) rfl d_X12_sure_15 0 rfl ?_
    refine aw_iload_n (i := 1) rfl d_X12_sure_16 1 rfl ?_
    refine aw_Vi 1 [.int x1] [] d_X12_sure_17 (cV_X12_rivalsOf (d + 3) 0 0) kc_12 (ws_1 w5) tw_2590 rfl (rr0 (Nat.le_of_ble_eq_true rfl) (Nat.le_of_ble_eq_true rfl)) (Nat.le_of_ble_eq_true rfl) xs0 k (fun r9 h7 kk => ?_)
    obtain ⟨w8, k⟩ := kk
    refine aw_Si [.int r9] [] d_X12_sure_20 (cS_J6_bitCount_0f7a4 (d + 0) 0 0) tw_2543 rfl (rr0 (Nat.le_of_ble_eq_true rfl) (Nat.le_of_ble_eq_true rfl)) (Nat.le_of_ble_eq_true rfl) xs0 k (fun r12 h10 kk => ?_)
    obtain ⟨w11, k⟩ := kk
    refine aw_aload_n (i := 0) rfl d_X12_sure_23 0 rfl ?_
    refine aw_iload_n (i := 1) rfl d_X12_sure_24 1 rfl ?_
    refine aw_iconst (v := (-1)) d_X12_sure_25 ic_m1 ?_
    refine aw_Vi 1 [.int x1, .int (-1)] [.int r12] d_X12_sure_26 (cV_X12_bestFrom (d + 1) 0 0) kc_12 (ws_1 w11) tw_2570 rfl (rr0 (Nat.le_of_ble_eq_true rfl) (Nat.le_of_ble_eq_true rfl)) (Nat.le_of_ble_eq_true rfl) xs0 k (fun r15 h13 kk => ?_)
    obtain ⟨w14, k⟩ := kk
    refine aw_iload_n (i := 2) rfl d_X12_sure_29 2 rfl ?_
    refine aw_icmp_ne (tgt := 37) d_X12_sure_30 rfl (fun c16 => ?_) (fun c16 => ?_)
    · have k := k.1 c16
      refine aw_iconst (v := 0) d_X12_sure_37 ic_0 ?_
      refine aw_iadd d_X12_sure_38 ?_
      refine aw_istore_n (i := 3) rfl [(0, .ref 1), (1, .int x1), (2, .int r6), (3, .int (r12 + 0))] d_X12_sure_39 (Nat.le_of_ble_eq_true rfl) rfl rfl ?_
      refine aw_iload_n (i := 3) rfl d_X12_sure_40 3 rfl ?_
      refine aw_iconst (v := 1) d_X12_sure_41 ic_1 ?_
      refine aw_icmp_ne (tgt := 49) d_X12_sure_42 rfl (fun c17 => ?_) (fun c17 => ?_)
      · have k := k.1 c17
        refine aw_iconst (v := 0) d_X12_sure_49 ic_0 ?_
        exact aw_iret rfl d_X12_sure_50 ⟨Nat.le_refl _, Nat.le_refl _⟩ ⟨_, rfl, k⟩
      · have k := k.2 c17
        refine aw_iconst (v := 1) d_X12_sure_45 ic_1 ?_
        refine aw_goto (tgt := 50) d_X12_sure_46 rfl ?_
        exact aw_iret rfl d_X12_sure_50 ⟨Nat.le_refl _, Nat.le_refl _⟩ ⟨_, rfl, k⟩
    · have k := k.2 c16
      refine aw_iconst (v := 1) d_X12_sure_33 ic_1 ?_
      refine aw_goto (tgt := 38) d_X12_sure_34 rfl ?_
      refine aw_iadd d_X12_sure_38 ?_
      refine aw_istore_n (i := 3) rfl [(0, .ref 1), (1, .int x1), (2, .int r6), (3, .int (r12 + 1))] d_X12_sure_39 (Nat.le_of_ble_eq_true rfl) rfl rfl ?_
      refine aw_iload_n (i := 3) rfl d_X12_sure_40 3 rfl ?_
      refine aw_iconst (v := 1) d_X12_sure_41 ic_1 ?_
      refine aw_icmp_ne (tgt := 49) d_X12_sure_42 rfl (fun c18 => ?_) (fun c18 => ?_)
      · have k := k.1 c18
        refine aw_iconst (v := 0) d_X12_sure_49 ic_0 ?_
        exact aw_iret rfl d_X12_sure_50 ⟨Nat.le_refl _, Nat.le_refl _⟩ ⟨_, rfl, k⟩
      · have k := k.2 c18
        refine aw_iconst (v := 1) d_X12_sure_45 ic_1 ?_
        refine aw_goto (tgt := 50) d_X12_sure_46 rfl ?_
        exact aw_iret rfl d_X12_sure_50 ⟨Nat.le_refl _, Nat.le_refl _⟩ ⟨_, rfl, k⟩
  · have k := k.2 c3
    refine aw_iconst (v := (-1)) d_X12_sure_8 ic_m1 ?_
    exact aw_iret rfl d_X12_sure_9 ⟨Nat.le_refl _, Nat.le_refl _⟩ ⟨_, rfl, k⟩
theorem t_X12_draw (d : Nat) (h : Hp_) (w : Wf h) (x1 : Int32) (x2 : Int32) (x3 : Int32) (K : Int32 → Hp_ → Prop) (k : (¬ (0 ≤ x1 ∧ x1 ≤ (h_i h 1 7) - 1) → K 0 h) ∧ ((0 ≤ x1 ∧ x1 ≤ (h_i h 1 7) - 1) → (¬ (0 ≤ x2 ∧ x2 ≤ 15) → K 0 h) ∧ ((0 ≤ x2 ∧ x2 ≤ 15) → (¬ ((h_i h 1 0) ≤ x3 ∧ x3 ≤ 30000) → K 0 h) ∧ (((h_i h 1 0) ≤ x3 ∧ x3 ≤ 30000) → vp_in x1 12 ∧ (Ci (m_X12_walkOf (d + 0) 0 0) [.ref 1, .int (h_i h 206 x1.toNatClampNeg), .int x2] h (fun r13 h11 => Wf h11 ∧ ((r13 = (-1) → K 0 h11) ∧ (¬ r13 = (-1) → vp_in x1 12 ∧ (((h_i h11 208 x1.toNatClampNeg) = 3 → K 0 h11) ∧ (¬ (h_i h11 208 x1.toNatClampNeg) = 3 → vp_in x1 12 ∧ ((¬ (h_i h11 208 x1.toNatClampNeg) = 4 → vp_in x1 12 ∧ ((¬ (h_i h11 208 x1.toNatClampNeg) = 1 → vp_in x1 12 ∧ (vp_in x1 12 ∧ (vp_in x1 12 ∧ (vp_in x1 12 ∧ (vp_in x1 12 ∧ ((¬ (h_i h11 210 x1.toNatClampNeg) = (-1) → vp_in x1 12 ∧ (vp_in x1 12 ∧ ((¬ (h_i h11 210 x1.toNatClampNeg) = (-1) → K 1 (h_im (h_im (h_im (h_im (h_im h11 213 x1.toNatClampNeg (-1)) 208 x1.toNatClampNeg 3) 218 x1.toNatClampNeg x2) 219 x1.toNatClampNeg x3) 248 x1.toNatClampNeg (vp_nar .boolean 0))) ∧ ((h_i h11 210 x1.toNatClampNeg) = (-1) → Cv (m_X12_goDrawn (d + 4) 0 0) [.ref 1, .int x1] (h_im (h_im (h_im (h_im (h_im h11 213 x1.toNatClampNeg (-1)) 208 x1.toNatClampNeg 3) 218 x1.toNatClampNeg x2) 219 x1.toNatClampNeg x3) 248 x1.toNatClampNeg (vp_nar .boolean 0)) (fun h30 => Wf h30 ∧ (K 1 h30)))))) ∧ ((h_i h11 210 x1.toNatClampNeg) = (-1) → vp_in x1 12 ∧ (vp_in x1 12 ∧ ((¬ (h_i h11 210 x1.toNatClampNeg) = (-1) → K 1 (h_im (h_im (h_im (h_im (h_im h11 213 x1.toNatClampNeg (-1)) 208 x1.toNatClampNeg 3) 218 x1.toNatClampNeg x2) 219 x1.toNatClampNeg x3) 248 x1.toNatClampNeg (vp_nar .boolean 1))) ∧ ((h_i h11 210 x1.toNatClampNeg) = (-1) → Cv (m_X12_goDrawn (d + 4) 0 0) [.ref 1, .int x1] (h_im (h_im (h_im (h_im (h_im h11 213 x1.toNatClampNeg (-1)) 208 x1.toNatClampNeg 3) 218 x1.toNatClampNeg x2) 219 x1.toNatClampNeg x3) 248 x1.toNatClampNeg (vp_nar .boolean 1)) (fun h36 => Wf h36 ∧ (K 1 h36)))))))))))) ∧ ((h_i h11 208 x1.toNatClampNeg) = 1 → Cv (m_X12_drop (d + 1) 0 0) [.ref 1, .int x1, .int 3] h11 (fun h39 => Wf h39 ∧ (vp_in x1 12 ∧ (vp_in x1 12 ∧ (vp_in x1 12 ∧ (vp_in x1 12 ∧ (vp_in x1 12 ∧ ((¬ (h_i h39 210 x1.toNatClampNeg) = (-1) → vp_in x1 12 ∧ (vp_in x1 12 ∧ ((¬ (h_i h39 210 x1.toNatClampNeg) = (-1) → K 1 (h_im (h_im (h_im (h_im (h_im h39 213 x1.toNatClampNeg (-1)) 208 x1.toNatClampNeg 3) 218 x1.toNatClampNeg x2) 219 x1.toNatClampNeg x3) 248 x1.toNatClampNeg (vp_nar .boolean 0))) ∧ ((h_i h39 210 x1.toNatClampNeg) = (-1) → Cv (m_X12_goDrawn (d + 4) 0 0) [.ref 1, .int x1] (h_im (h_im (h_im (h_im (h_im h39 213 x1.toNatClampNeg (-1)) 208 x1.toNatClampNeg 3) 218 x1.toNatClampNeg x2) 219 x1.toNatClampNeg x3) 248 x1.toNatClampNeg (vp_nar .boolean 0)) (fun h51 => Wf h51 ∧ (K 1 h51)))))) ∧ ((h_i h39 210 x1.toNatClampNeg) = (-1) → vp_in x1 12 ∧ (vp_in x1 12 ∧ ((¬ (h_i h39 210 x1.toNatClampNeg) = (-1) → K 1 (h_im (h_im (h_im (h_im (h_im h39 213 x1.toNatClampNeg (-1)) 208 x1.toNatClampNeg 3) 218 x1.toNatClampNeg x2) 219 x1.toNatClampNeg x3) 248 x1.toNatClampNeg (vp_nar .boolean 1))) ∧ ((h_i h39 210 x1.toNatClampNeg) = (-1) → Cv (m_X12_goDrawn (d + 4) 0 0) [.ref 1, .int x1] (h_im (h_im (h_im (h_im (h_im h39 213 x1.toNatClampNeg (-1)) 208 x1.toNatClampNeg 3) 218 x1.toNatClampNeg x2) 219 x1.toNatClampNeg x3) 248 x1.toNatClampNeg (vp_nar .boolean 1)) (fun h57 => Wf h57 ∧ (K 1 h57)))))))))))))))) ∧ ((h_i h11 208 x1.toNatClampNeg) = 4 → K 0 h11)))))))))))) : Ci (m_X12_draw (d + 5) 0 0) [.ref 1, .int x1, .int x2, .int x3] h K := by
  refine Ct.of (fun _ _ _ => trivial) rfl (Nat.le_of_ble_eq_true rfl) ?_
  show AW (m_X12_draw (d + 5) 0 0) 0 0 0 [(0, .ref 1), (1, .int x1), (2, .int x2), (3, .int x3)] [] h (kI K)
  refine aw_aload_n (i := 0) rfl d_X12_draw_0 0 rfl ?_
  refine aw_iload_n (i := 1) rfl d_X12_draw_1 1 rfl ?_
  refine aw_Vi 1 [.int x1] [] d_X12_draw_2 (cV_X12_isMan (d + 1) 0 0) kc_12 (ws_1 w) tw_2167 rfl (rr0 (Nat.le_of_ble_eq_true rfl) (Nat.le_of_ble_eq_true rfl)) (Nat.le_of_ble_eq_true rfl) xs0 (s_X12_isMan _ _ w x1) (fun _ _ kk => ?_)
  obtain ⟨e1, e2⟩ := kk
  rw [e1, e2]
  refine aw_ifb_eq (tgt := 64) d_X12_draw_5 rfl (fun c3 => ?_) (fun c3 => ?_)
  · have k := k.1 c3
    refine aw_iconst (v := 0) d_X12_draw_64 ic_0 ?_
    exact aw_zret rfl rfl d_X12_draw_65 ⟨Nat.le_refl _, Nat.le_refl _⟩ ⟨_, rfl, k⟩
  · have k := k.2 c3
    refine aw_iload_n (i := 2) rfl d_X12_draw_8 2 rfl ?_
    refine aw_Si [.int x2] [] d_X12_draw_9 (cS_X12_isPlace (d + 1) 0 0) tw_2144 rfl (rr0 (Nat.le_of_ble_eq_true rfl) (Nat.le_of_ble_eq_true rfl)) (Nat.le_of_ble_eq_true rfl) xs0 (s_X12_isPlace _ _ x2) (fun _ _ kk => ?_)
    obtain ⟨e4, e5⟩ := kk
    rw [e4, e5]
    refine aw_ifb_eq (tgt := 64) d_X12_draw_12 rfl (fun c6 => ?_) (fun c6 => ?_)
    · have k := k.1 c6
      refine aw_iconst (v := 0) d_X12_draw_64 ic_0 ?_
      exact aw_zret rfl rfl d_X12_draw_65 ⟨Nat.le_refl _, Nat.le_refl _⟩ ⟨_, rfl, k⟩
    · have k := k.2 c6
      refine aw_iload_n (i := 3) rfl d_X12_draw_15 3 rfl ?_
      refine aw_aload_n (i := 0) rfl d_X12_draw_16 0 rfl ?_
      refine aw_geti (k0 := 0) kc_12 (ws_1 w) (Nat.le_of_ble_eq_true rfl) tw_1742 d_X12_draw_17 rfl ?_
      refine aw_sipush (v := 30000) d_X12_draw_20 is_30000 ?_
      refine aw_Si [.int x3, .int (h_i h 1 0), .int 30000] [] d_X12_draw_23 (cS_X12_in (d + 0) 0 0) tw_2147 rfl (rr0 (Nat.le_of_ble_eq_true rfl) (Nat.le_of_ble_eq_true rfl)) (Nat.le_of_ble_eq_true rfl) xs0 (s_X12_in _ _ x3 (h_i h 1 0) 30000) (fun _ _ kk => ?_)
      obtain ⟨e7, e8⟩ := kk
      rw [e7, e8]
      refine aw_ifb_eq (tgt := 64) d_X12_draw_26 rfl (fun c9 => ?_) (fun c9 => ?_)
      · have k := k.1 c9
        refine aw_iconst (v := 0) d_X12_draw_64 ic_0 ?_
        exact aw_zret rfl rfl d_X12_draw_65 ⟨Nat.le_refl _, Nat.le_refl _⟩ ⟨_, rfl, k⟩
      · have k := k.2 c9
        refine aw_aload_n (i := 0) rfl d_X12_draw_29 0 rfl ?_
        refine aw_aload_n (i := 0) rfl d_X12_draw_30 0 rfl ?_
        refine aw_getr (k0 := 10) kc_12 (ws_1 w) (Nat.le_of_ble_eq_true rfl) tw_1752 d_X12_draw_31 rfl (wr_1_10 w) ?_
        refine aw_iload_n (i := 1) rfl d_X12_draw_34 1 rfl ?_
        obtain ⟨b10, k⟩ := k
        refine aw_iald (ws_206 w) b10 d_X12_draw_35 ?_
        refine aw_iload_n (i := 2) rfl d_X12_draw_36 2 rfl ?_
        refine aw_Vi 1 [.int (h_i h 206 x1.toNatClampNeg), .int x2] [] d_X12_draw_37 (cV_X12_walkOf (d + 0) 0 0) kc_12 (ws_1 w) tw_2154 rfl (rr0 (Nat.le_of_ble_eq_true rfl) (Nat.le_of_ble_eq_true rfl)) (Nat.le_of_ble_eq_true rfl) xs0 k (fun r13 h11 kk => ?_)
        obtain ⟨w12, k⟩ := kk
        refine aw_iconst (v := (-1)) d_X12_draw_40 ic_m1 ?_
        refine aw_icmp_eq (tgt := 64) d_X12_draw_41 rfl (fun c14 => ?_) (fun c14 => ?_)
        · have k := k.1 c14
          refine aw_iconst (v := 0) d_X12_draw_64 ic_0 ?_
          exact aw_zret rfl rfl d_X12_draw_65 ⟨Nat.le_refl _, Nat.le_refl _⟩ ⟨_, rfl, k⟩
        · have k := k.2 c14
          refine aw_aload_n (i := 0) rfl d_X12_draw_44 0 rfl ?_
          refine aw_getr (k0 := 12) kc_12 (ws_1 w12) (Nat.le_of_ble_eq_true rfl) tw_1754 d_X12_draw_45 rfl (wr_1_12 w12) ?_
          refine aw_iload_n (i := 1) rfl d_X12_draw_48 1 rfl ?_
          obtain ⟨b15, k⟩ := k
          refine aw_iald (ws_208 w12) b15 d_X12_draw_49 ?_
          refine aw_iconst (v := 3) d_X12_draw_50 ic_3 ?_
          refine aw_icmp_eq (tgt := 64) d_X12_draw_51 rfl (fun c16 => ?_) (fun c16 => ?_)
          · have k := k.1 c16
            refine aw_iconst (v := 0) d_X12_draw_64 ic_0 ?_
            exact aw_zret rfl rfl d_X12_draw_65 ⟨Nat.le_refl _, Nat.le_refl _⟩ ⟨_, rfl, k⟩
          · have k := k.2 c16
            refine aw_aload_n (i := 0) rfl d_X12_draw_54 0 rfl ?_
            refine aw_getr (k0 := 12) kc_12 (ws_1 w12) (Nat.le_of_ble_eq_true rfl) tw_1754 d_X12_draw_55 rfl (wr_1_12 w12) ?_
            refine aw_iload_n (i := 1) rfl d_X12_draw_58 1 rfl ?_
            obtain ⟨b17, k⟩ := k
            refine aw_iald (ws_208 w12) b17 d_X12_draw_59 ?_
            refine aw_iconst (v := 4) d_X12_draw_60 ic_4 ?_
            refine aw_icmp_ne (tgt := 66) d_X12_draw_61 rfl (fun c18 => ?_) (fun c18 => ?_)
            · have k := k.1 c18
              refine aw_aload_n (i := 0) rfl d_X12_draw_66 0 rfl ?_
              refine aw_getr (k0 := 12) kc_12 (ws_1 w12) (Nat.le_of_ble_eq_true rfl) tw_1754 d_X12_draw_67 rfl (wr_1_12 w12) ?_
              refine aw_iload_n (i := 1) rfl d_X12_draw_70 1 rfl ?_
              obtain ⟨b19, k⟩ := k
              refine aw_iald (ws_208 w12) b19 d_X12_draw_71 ?_
              refine aw_iconst (v := 1) d_X12_draw_72 ic_1 ?_
              refine aw_icmp_ne (tgt := 82) d_X12_draw_73 rfl (fun c20 => ?_) (fun c20 => ?_)
              · have k := k.1 c20
                refine aw_aload_n (i := 0) rfl d_X12_draw_82 0 rfl ?_
                refine aw_getr (k0 := 17) kc_12 (ws_1 w12) (Nat.le_of_ble_eq_true rfl) tw_1759 d_X12_draw_83 rfl (wr_1_17 w12) ?_
                refine aw_iload_n (i := 1) rfl d_X12_draw_86 1 rfl ?_
                refine aw_iconst (v := (-1)) d_X12_draw_87 ic_m1 ?_
                obtain ⟨b21, k⟩ := k
                refine aw_iast (ws_213 w12) b21 d_X12_draw_88 ?_
                refine aw_aload_n (i := 0) rfl d_X12_draw_89 0 rfl ?_
                refine aw_getr (k0 := 12) kc_12 (ws_1 w12) (Nat.le_of_ble_eq_true rfl) tw_1754 d_X12_draw_90 rfl (wr_1_12 w12) ?_
                refine aw_iload_n (i := 1) rfl d_X12_draw_93 1 rfl ?_
                refine aw_iconst (v := 3) d_X12_draw_94 ic_3 ?_
                obtain ⟨b22, k⟩ := k
                refine aw_iast (ws_208 w12) b22 d_X12_draw_95 ?_
                refine aw_aload_n (i := 0) rfl d_X12_draw_96 0 rfl ?_
                refine aw_getr (k0 := 22) kc_12 (ws_1 w12) (Nat.le_of_ble_eq_true rfl) tw_1764 d_X12_draw_97 rfl (wr_1_22 w12) ?_
                refine aw_iload_n (i := 1) rfl d_X12_draw_100 1 rfl ?_
                refine aw_iload_n (i := 2) rfl d_X12_draw_101 2 rfl ?_
                obtain ⟨b23, k⟩ := k
                refine aw_iast (ws_218 w12) b23 d_X12_draw_102 ?_
                refine aw_aload_n (i := 0) rfl d_X12_draw_103 0 rfl ?_
                refine aw_getr (k0 := 23) kc_12 (ws_1 w12) (Nat.le_of_ble_eq_true rfl) tw_1765 d_X12_draw_104 rfl (wr_1_23 w12) ?_
                refine aw_iload_n (i := 1) rfl d_X12_draw_107 1 rfl ?_
                refine aw_iload_n (i := 3) rfl d_X12_draw_108 3 rfl ?_
                obtain ⟨b24, k⟩ := k
                refine aw_iast (ws_219 w12) b24 d_X12_draw_109 ?_
                refine aw_aload_n (i := 0) rfl d_X12_draw_110 0 rfl ?_
                refine aw_getr (k0 := 65) kc_12 (ws_1 w12) (Nat.le_of_ble_eq_true rfl) tw_1807 d_X12_draw_111 rfl (wr_1_65 w12) ?_
                refine aw_iload_n (i := 1) rfl d_X12_draw_114 1 rfl ?_
                refine aw_aload_n (i := 0) rfl d_X12_draw_115 0 rfl ?_
                refine aw_getr (k0 := 14) kc_12 (ws_1 w12) (Nat.le_of_ble_eq_true rfl) tw_1756 d_X12_draw_116 rfl (wr_1_14 w12) ?_
                refine aw_iload_n (i := 1) rfl d_X12_draw_119 1 rfl ?_
                obtain ⟨b25, k⟩ := k
                refine aw_iald (ws_210 w12) b25 d_X12_draw_120 ?_
                refine aw_vi (v2 := (h_i h11 210 x1.toNatClampNeg)) (rfl) ?_
                refine aw_iconst (v := (-1)) d_X12_draw_121 ic_m1 ?_
                refine aw_icmp_ne (tgt := 129) d_X12_draw_122 rfl (fun c26 => ?_) (fun c26 => ?_)
                · have k := k.1 c26
                  refine aw_iconst (v := 0) d_X12_draw_129 ic_0 ?_
                  obtain ⟨b27, k⟩ := k
                  refine aw_zast (ws_248 w12) b27 d_X12_draw_130 ?_
                  refine aw_aload_n (i := 0) rfl d_X12_draw_131 0 rfl ?_
                  refine aw_getr (k0 := 14) kc_12 (ws_1 w12) (Nat.le_of_ble_eq_true rfl) tw_1756 d_X12_draw_132 rfl (wr_1_14 w12) ?_
                  refine aw_iload_n (i := 1) rfl d_X12_draw_135 1 rfl ?_
                  obtain ⟨b28, k⟩ := k
                  refine aw_iald (ws_210 w12) b28 d_X12_draw_136 ?_
                  refine aw_vi (v2 := (h_i h11 210 x1.toNatClampNeg)) (rfl) ?_
                  refine aw_iconst (v := (-1)) d_X12_draw_137 ic_m1 ?_
                  refine aw_icmp_ne (tgt := 146) d_X12_draw_138 rfl (fun c29 => ?_) (fun c29 => ?_)
                  · have k := k.1 c29
                    refine aw_iconst (v := 1) d_X12_draw_146 ic_1 ?_
                    exact aw_zret rfl rfl d_X12_draw_147 ⟨Nat.le_refl _, Nat.le_refl _⟩ ⟨_, rfl, k⟩
                  · have k := k.2 c29
                    refine aw_aload_n (i := 0) rfl d_X12_draw_141 0 rfl ?_
                    refine aw_iload_n (i := 1) rfl d_X12_draw_142 1 rfl ?_
                    refine aw_Vv 1 [.int x1] [] d_X12_draw_143 (cV_X12_goDrawn (d + 4) 0 0) kc_12 (ws_1 w12) tw_2372 rfl (rr0 (Nat.le_of_ble_eq_true rfl) (Nat.le_of_ble_eq_true rfl)) (Nat.le_of_ble_eq_true rfl) xs0 k (fun h30 kk => ?_)
                    obtain ⟨w31, k⟩ := kk
                    refine aw_iconst (v := 1) d_X12_draw_146 ic_1 ?_
                    exact aw_zret rfl rfl d_X12_draw_147 ⟨Nat.le_refl _, Nat.le_refl _⟩ ⟨_, rfl, k⟩
                · have k := k.2 c26
                  refine aw_iconst (v := 1) d_X12_draw_125 ic_1 ?_
                  refine aw_goto (tgt := 130) d_X12_draw_126 rfl ?_
                  obtain ⟨b33, k⟩ := k
                  refine aw_zast (ws_248 w12) b33 d_X12_draw_130 ?_
                  refine aw_aload_n (i := 0) rfl d_X12_draw_131 0 rfl ?_
                  refine aw_getr (k0 := 14) kc_12 (ws_1 w12) (Nat.le_of_ble_eq_true rfl) tw_1756 d_X12_draw_132 rfl (wr_1_14 w12) ?_
                  refine aw_iload_n (i := 1) rfl d_X12_draw_135 1 rfl ?_
                  obtain ⟨b34, k⟩ := k
                  refine aw_iald (ws_210 w12) b34 d_X12_draw_136 ?_
                  refine aw_vi (v2 := (h_i h11 210 x1.toNatClampNeg)) (rfl) ?_
                  refine aw_iconst (v := (-1)) d_X12_draw_137 ic_m1 ?_
                  refine aw_icmp_ne (tgt := 146) d_X12_draw_138 rfl (fun c35 => ?_) (fun c35 => ?_)
                  · have k := k.1 c35
                    refine aw_iconst (v := 1) d_X12_draw_146 ic_1 ?_
                    exact aw_zret rfl rfl d_X12_draw_147 ⟨Nat.le_refl _, Nat.le_refl _⟩ ⟨_, rfl, k⟩
                  · have k := k.2 c35
                    refine aw_aload_n (i := 0) rfl d_X12_draw_141 0 rfl ?_
                    refine aw_iload_n (i := 1) rfl d_X12_draw_142 1 rfl ?_
                    refine aw_Vv 1 [.int x1] [] d_X12_draw_143 (cV_X12_goDrawn (d + 4) 0 0) kc_12 (ws_1 w12) tw_2372 rfl (rr0 (Nat.le_of_ble_eq_true rfl) (Nat.le_of_ble_eq_true rfl)) (Nat.le_of_ble_eq_true rfl) xs0 k (fun h36 kk => ?_)
                    obtain ⟨w37, k⟩ := kk
                    refine aw_iconst (v := 1) d_X12_draw_146 ic_1 ?_
                    exact aw_zret rfl rfl d_X12_draw_147 ⟨Nat.le_refl _, Nat.le_refl _⟩ ⟨_, rfl, k⟩
              · have k := k.2 c20
                refine aw_aload_n (i := 0) rfl d_X12_draw_76 0 rfl ?_
                refine aw_iload_n (i := 1) rfl d_X12_draw_77 1 rfl ?_
                refine aw_iconst (v := 3) d_X12_draw_78 ic_3 ?_
                refine aw_Vv 1 [.int x1, .int 3] [] d_X12_draw_79 (cV_X12_drop (d + 1) 0 0) kc_12 (ws_1 w12) tw_2368 rfl (rr0 (Nat.le_of_ble_eq_true rfl) (Nat.le_of_ble_eq_true rfl)) (Nat.le_of_ble_eq_true rfl) xs0 k (fun h39 kk => ?_)
                obtain ⟨w40, k⟩ := kk
                refine aw_aload_n (i := 0) rfl d_X12_draw_82 0 rfl ?_
                refine aw_getr (k0 := 17) kc_12 (ws_1 w40) (Nat.le_of_ble_eq_true rfl) tw_1759 d_X12_draw_83 rfl (wr_1_17 w40) ?_
                refine aw_iload_n (i := 1) rfl d_X12_draw_86 1 rfl ?_
                refine aw_iconst (v := (-1)) d_X12_draw_87 ic_m1 ?_
                obtain ⟨b42, k⟩ := k
                refine aw_iast (ws_213 w40) b42 d_X12_draw_88 ?_
                refine aw_aload_n (i := 0) rfl d_X12_draw_89 0 rfl ?_
                refine aw_getr (k0 := 12) kc_12 (ws_1 w40) (Nat.le_of_ble_eq_true rfl) tw_1754 d_X12_draw_90 rfl (wr_1_12 w40) ?_
                refine aw_iload_n (i := 1) rfl d_X12_draw_93 1 rfl ?_
                refine aw_iconst (v := 3) d_X12_draw_94 ic_3 ?_
                obtain ⟨b43, k⟩ := k
                refine aw_iast (ws_208 w40) b43 d_X12_draw_95 ?_
                refine aw_aload_n (i := 0) rfl d_X12_draw_96 0 rfl ?_
                refine aw_getr (k0 := 22) kc_12 (ws_1 w40) (Nat.le_of_ble_eq_true rfl) tw_1764 d_X12_draw_97 rfl (wr_1_22 w40) ?_
                refine aw_iload_n (i := 1) rfl d_X12_draw_100 1 rfl ?_
                refine aw_iload_n (i := 2) rfl d_X12_draw_101 2 rfl ?_
                obtain ⟨b44, k⟩ := k
                refine aw_iast (ws_218 w40) b44 d_X12_draw_102 ?_
                refine aw_aload_n (i := 0) rfl d_X12_draw_103 0 rfl ?_
                refine aw_getr (k0 := 23) kc_12 (ws_1 w40) (Nat.le_of_ble_eq_true rfl) tw_1765 d_X12_draw_104 rfl (wr_1_23 w40) ?_
                refine aw_iload_n (i := 1) rfl d_X12_draw_107 1 rfl ?_
                refine aw_iload_n (i := 3) rfl d_X12_draw_108 3 rfl ?_
                obtain ⟨b45, k⟩ := k
                refine aw_iast (ws_219 w40) b45 d_X12_draw_109 ?_
                refine aw_aload_n (i := 0) rfl d_X12_draw_110 0 rfl ?_
                refine aw_getr (k0 := 65) kc_12 (ws_1 w40) (Nat.le_of_ble_eq_true rfl) tw_1807 d_X12_draw_111 rfl (wr_1_65 w40) ?_
                refine aw_iload_n (i := 1) rfl d_X12_draw_114 1 rfl ?_
                refine aw_aload_n (i := 0) rfl d_X12_draw_115 0 rfl ?_
                refine aw_getr (k0 := 14) kc_12 (ws_1 w40) (Nat.le_of_ble_eq_true rfl) tw_1756 d_X12_draw_116 rfl (wr_1_14 w40) ?_
                refine aw_iload_n (i := 1) rfl d_X12_draw_119 1 rfl ?_
                obtain ⟨b46, k⟩ := k
                refine aw_iald (ws_210 w40) b46 d_X12_draw_120 ?_
                refine aw_vi (v2 := (h_i h39 210 x1.toNatClampNeg)) (rfl) ?_
                refine aw_iconst (v := (-1)) d_X12_draw_121 ic_m1 ?_
                refine aw_icmp_ne (tgt := 129) d_X12_draw_122 rfl (fun c47 => ?_) (fun c47 => ?_)
                · have k := k.1 c47
                  refine aw_iconst (v := 0) d_X12_draw_129 ic_0 ?_
                  obtain ⟨b48, k⟩ := k
                  refine aw_zast (ws_248 w40) b48 d_X12_draw_130 ?_
                  refine aw_aload_n (i := 0) rfl d_X12_draw_131 0 rfl ?_
                  refine aw_getr (k0 := 14) kc_12 (ws_1 w40) (Nat.le_of_ble_eq_true rfl) tw_1756 d_X12_draw_132 rfl (wr_1_14 w40) ?_
                  refine aw_iload_n (i := 1) rfl d_X12_draw_135 1 rfl ?_
                  obtain ⟨b49, k⟩ := k
                  refine aw_iald (ws_210 w40) b49 d_X12_draw_136 ?_
                  refine aw_vi (v2 := (h_i h39 210 x1.toNatClampNeg)) (rfl) ?_
                  refine aw_iconst (v := (-1)) d_X12_draw_137 ic_m1 ?_
                  refine aw_icmp_ne (tgt := 146) d_X12_draw_138 rfl (fun c50 => ?_) (fun c50 => ?_)
                  · have k := k.1 c50
                    refine aw_iconst (v := 1) d_X12_draw_146 ic_1 ?_
                    exact aw_zret rfl rfl d_X12_draw_147 ⟨Nat.le_refl _, Nat.le_refl _⟩ ⟨_, rfl, k⟩
                  · have k := k.2 c50
                    refine aw_aload_n (i := 0) rfl d_X12_draw_141 0 rfl ?_
                    refine aw_iload_n (i := 1) rfl d_X12_draw_142 1 rfl ?_
                    refine aw_Vv 1 [.int x1] [] d_X12_draw_143 (cV_X12_goDrawn (d + 4) 0 0) kc_12 (ws_1 w40) tw_2372 rfl (rr0 (Nat.le_of_ble_eq_true rfl) (Nat.le_of_ble_eq_true rfl)) (Nat.le_of_ble_eq_true rfl) xs0 k (fun h51 kk => ?_)
                    obtain ⟨w52, k⟩ := kk
                    refine aw_iconst (v := 1) d_X12_draw_146 ic_1 ?_
                    exact aw_zret rfl rfl d_X12_draw_147 ⟨Nat.le_refl _, Nat.le_refl _⟩ ⟨_, rfl, k⟩
                · have k := k.2 c47
                  refine aw_iconst (v := 1) d_X12_draw_125 ic_1 ?_
                  refine aw_goto (tgt := 130) d_X12_draw_126 rfl ?_
                  obtain ⟨b54, k⟩ := k
                  refine aw_zast (ws_248 w40) b54 d_X12_draw_130 ?_
                  refine aw_aload_n (i := 0) rfl d_X12_draw_131 0 rfl ?_
                  refine aw_getr (k0 := 14) kc_12 (ws_1 w40) (Nat.le_of_ble_eq_true rfl) tw_1756 d_X12_draw_132 rfl (wr_1_14 w40) ?_
                  refine aw_iload_n (i := 1) rfl d_X12_draw_135 1 rfl ?_
                  obtain ⟨b55, k⟩ := k
                  refine aw_iald (ws_210 w40) b55 d_X12_draw_136 ?_
                  refine aw_vi (v2 := (h_i h39 210 x1.toNatClampNeg)) (rfl) ?_
                  refine aw_iconst (v := (-1)) d_X12_draw_137 ic_m1 ?_
                  refine aw_icmp_ne (tgt := 146) d_X12_draw_138 rfl (fun c56 => ?_) (fun c56 => ?_)
                  · have k := k.1 c56
                    refine aw_iconst (v := 1) d_X12_draw_146 ic_1 ?_
                    exact aw_zret rfl rfl d_X12_draw_147 ⟨Nat.le_refl _, Nat.le_refl _⟩ ⟨_, rfl, k⟩
                  · have k := k.2 c56
                    refine aw_aload_n (i := 0) rfl d_X12_draw_141 0 rfl ?_
                    refine aw_iload_n (i := 1) rfl d_X12_draw_142 1 rfl ?_
                    refine aw_Vv 1 [.int x1] [] d_X12_draw_143 (cV_X12_goDrawn (d + 4) 0 0) kc_12 (ws_1 w40) tw_2372 rfl (rr0 (Nat.le_of_ble_eq_true rfl) (Nat.le_of_ble_eq_true rfl)) (Nat.le_of_ble_eq_true rfl) xs0 k (fun h57 kk => ?_)
                    obtain ⟨w58, k⟩ := kk
                    refine aw_iconst (v := 1) d_X12_draw_146 ic_1 ?_
                    exact aw_zret rfl rfl d_X12_draw_147 ⟨Nat.le_refl _, Nat.le_refl _⟩ ⟨_, rfl, k⟩
            · have k := k.2 c18
              refine aw_iconst (v := 0) d_X12_draw_64 ic_0 ?_
              exact aw_zret rfl rfl d_X12_draw_65 ⟨Nat.le_refl _, Nat.le_refl _⟩ ⟨_, rfl, k⟩
theorem t_X12_lets (d : Nat) (h : Hp_) (x1 : Int32) (x2 : Int32) (K : Int32 → Hp_ → Prop) (k : AW (m_X12_lets (d + 6) 0 0) 0 0 2 [(0, .ref 1), (1, .int x1), (2, .int x2), (3, .int 0)] [] h (kI K)) : Ci (m_X12_lets (d + 6) 0 0) [.ref 1, .int x1, .int x2] h K := by
  refine Ct.of (fun _ _ _ => trivial) rfl (Nat.le_of_ble_eq_true rfl) ?_
  show AW (m_X12_lets (d + 6) 0 0) 0 0 0 [(0, .ref 1), (1, .int x1), (2, .int x2)] [] h (kI K)
  refine aw_iconst (v := 0) d_X12_lets_0 ic_0 ?_
  refine aw_istore_n (i := 3) rfl [(0, .ref 1), (1, .int x1), (2, .int x2), (3, .int 0)] d_X12_lets_1 (Nat.le_of_ble_eq_true rfl) rfl rfl ?_
  exact k
theorem t_X12_lets_2 (d : Nat) (h : Hp_) (w : Wf h) (x1 : Int32) (x2 : Int32) (x3 : Int32) (K : Int32 → Hp_ → Prop) (k : (9 ≤ x3 → vp_in x1 300 ∧ (Ci (m_X12_forceOf (d + 0) 0 0) [.ref 1, .int 0, .int ((h_i h 257 x1.toNatClampNeg) / 1440), .int x2] h (fun r5 h3 => Wf h3 ∧ (Ci (m_X12_tell (d + 4) 0 0) [.ref 1, .int 0, .int r5] h3 (fun r8 h6 => Wf h6 ∧ (K r8 h6)))))) ∧ (¬ 9 ≤ x3 → Ci (m_X12_letterFor (d + 5) 0 0) [.int x3] h (fun r11 h9 => Wf h9 ∧ (vp_in ((9 * x1) + x3) 2700 ∧ (vp_in r11 128 ∧ (AW (m_X12_lets (d + 6) 0 0) 0 0 2 [(0, .ref 1), (1, .int x1), (2, .int x2), (3, .int (x3 + 1))] [] (h_im h9 236 r11.toNatClampNeg (h_i h9 261 (((9 * x1) + x3) : Int32).toNatClampNeg)) (kI K))))))) : AW (m_X12_lets (d + 6) 0 0) 0 0 2 [(0, .ref 1), (1, .int x1), (2, .int x2), (3, .int x3)] [] h (kI K) := by
  refine aw_iload_n (i := 3) rfl d_X12_lets_2 3 rfl ?_
  refine aw_bipush (v := 9) d_X12_lets_3 ib_9 ?_
  refine aw_icmp_ge (tgt := 34) d_X12_lets_5 rfl (fun c1 => ?_) (fun c1 => ?_)
  · have k := k.1 c1
    refine aw_aload_n (i := 0) rfl d_X12_lets_34 0 rfl ?_
    refine aw_iconst (v := 0) d_X12_lets_35 ic_0 ?_
    refine aw_aload_n (i := 0) rfl d_X12_lets_36 0 rfl ?_
    refine aw_iconst (v := 0) d_X12_lets_37 ic_0 ?_
    refine aw_aload_n (i := 0) rfl d_X12_lets_38 0 rfl ?_
    refine aw_getr (k0 := 74) kc_12 (ws_1 w) (Nat.le_of_ble_eq_true rfl) tw_1816 d_X12_lets_39 rfl (wr_1_74 w) ?_
    refine aw_iload_n (i := 1) rfl d_X12_lets_42 1 rfl ?_
    obtain ⟨b2, k⟩ := k
    refine aw_iald (ws_257 w) b2 d_X12_lets_43 ?_
    refine aw_sipush (v := 1440) d_X12_lets_44 is_1440 ?_
    refine aw_idiv d_X12_lets_47 (by decide) ?_
    refine aw_iload_n (i := 2) rfl d_X12_lets_48 2 rfl ?_
    refine aw_Vi 1 [.int 0, .int ((h_i h 257 x1.toNatClampNeg) / 1440), .int x2] [.int 0, .ref 1] d_X12_lets_49 (cV_X12_forceOf (d + 0) 0 0) kc_12 (ws_1 w) tw_2312 rfl (rr0 (Nat.le_of_ble_eq_true rfl) (Nat.le_of_ble_eq_true rfl)) (Nat.le_of_ble_eq_true rfl) xs0 k (fun r5 h3 kk => ?_)
    obtain ⟨w4, k⟩ := kk
    refine aw_Vi 1 [.int 0, .int r5] [] d_X12_lets_52 (cV_X12_tell (d + 4) 0 0) kc_12 (ws_1 w4) tw_2428 rfl (rr0 (Nat.le_of_ble_eq_true rfl) (Nat.le_of_ble_eq_true rfl)) (Nat.le_of_ble_eq_true rfl) xs0 k (fun r8 h6 kk => ?_)
    obtain ⟨w7, k⟩ := kk
    exact aw_iret rfl d_X12_lets_55 ⟨Nat.le_refl _, Nat.le_refl _⟩ ⟨_, rfl, k⟩
  · have k := k.2 c1
    refine aw_aload_n (i := 0) rfl d_X12_lets_8 0 rfl ?_
    refine aw_getr (k0 := 50) kc_12 (ws_1 w) (Nat.le_of_ble_eq_true rfl) tw_1792 d_X12_lets_9 rfl (wr_1_50 w) ?_
    refine aw_iload_n (i := 3) rfl d_X12_lets_12 3 rfl ?_
    refine aw_Si [.int x3] [.ref 236] d_X12_lets_13 (cS_X12_letterFor (d + 5) 0 0) tw_2404 rfl (rr0 (Nat.le_of_ble_eq_true rfl) (Nat.le_of_ble_eq_true rfl)) (Nat.le_of_ble_eq_true rfl) xs0 k (fun r11 h9 kk => ?_)
    obtain ⟨w10, k⟩ := kk
    refine aw_aload_n (i := 0) rfl d_X12_lets_16 0 rfl ?_
    refine aw_getr (k0 := 78) kc_12 (ws_1 w10) (Nat.le_of_ble_eq_true rfl) tw_1820 d_X12_lets_17 rfl (wr_1_78 w10) ?_
    refine aw_bipush (v := 9) d_X12_lets_20 ib_9 ?_
    refine aw_iload_n (i := 1) rfl d_X12_lets_22 1 rfl ?_
    refine aw_imul d_X12_lets_23 ?_
    refine aw_iload_n (i := 3) rfl d_X12_lets_24 3 rfl ?_
    refine aw_iadd d_X12_lets_25 ?_
    obtain ⟨b12, k⟩ := k
    refine aw_iald (ws_261 w10) b12 d_X12_lets_26 ?_
    obtain ⟨b13, k⟩ := k
    refine aw_iast (ws_236 w10) b13 d_X12_lets_27 ?_
    refine aw_iinc (v := (x3 + 1)) [(0, .ref 1), (1, .int x1), (2, .int x2), (3, .int (x3 + 1))] d_X12_lets_28 3 rfl rfl (Nat.le_of_ble_eq_true rfl) rfl rfl ?_
    refine aw_goto (tgt := 2) d_X12_lets_31 rfl ?_
    exact k
theorem t_X12_see (d : Nat) (h : Hp_) (x1 : Int32) (K : Hp_ → Prop) (k : AW (m_X12_see (d + 7) 0 0) 0 0 4 [(0, .ref 1), (1, .int x1), (2, .int 0), (3, .int 0)] [] h (kV K)) : Cv (m_X12_see (d + 7) 0 0) [.ref 1, .int x1] h K := by
  refine Ct.of (fun _ _ _ => trivial) rfl (Nat.le_of_ble_eq_true rfl) ?_
  show AW (m_X12_see (d + 7) 0 0) 0 0 0 [(0, .ref 1), (1, .int x1)] [] h (kV K)
  refine aw_iconst (v := 0) d_X12_see_0 ic_0 ?_
  refine aw_istore_n (i := 2) rfl [(0, .ref 1), (1, .int x1), (2, .int 0)] d_X12_see_1 (Nat.le_of_ble_eq_true rfl) rfl rfl ?_
  refine aw_iconst (v := 0) d_X12_see_2 ic_0 ?_
  refine aw_istore_n (i := 3) rfl [(0, .ref 1), (1, .int x1), (2, .int 0), (3, .int 0)] d_X12_see_3 (Nat.le_of_ble_eq_true rfl) rfl rfl ?_
  exact k
theorem t_X12_see_4 (d : Nat) (h : Hp_) (w : Wf h) (x1 : Int32) (x2 : Int32) (x3 : Int32) (K : Hp_ → Prop) (k : ((h_i h 1 7) ≤ x3 → AW (m_X12_see (d + 7) 0 0) 0 0 43 [(0, .ref 1), (1, .int x1), (2, .int x2), (3, .int 0)] [] h (kV K)) ∧ (¬ (h_i h 1 7) ≤ x3 → vp_in x3 12 ∧ (vp_in x1 12 ∧ ((¬ (h_i h 209 x3.toNatClampNeg) = (h_i h 209 x1.toNatClampNeg) → AW (m_X12_see (d + 7) 0 0) 0 0 4 [(0, .ref 1), (1, .int x1), (2, .int (x2 + 0)), (3, .int (x3 + 1))] [] h (kV K)) ∧ ((h_i h 209 x3.toNatClampNeg) = (h_i h 209 x1.toNatClampNeg) → AW (m_X12_see (d + 7) 0 0) 0 0 4 [(0, .ref 1), (1, .int x1), (2, .int (x2 + 1)), (3, .int (x3 + 1))] [] h (kV K)))))) : AW (m_X12_see (d + 7) 0 0) 0 0 4 [(0, .ref 1), (1, .int x1), (2, .int x2), (3, .int x3)] [] h (kV K) := by
  refine aw_iload_n (i := 3) rfl d_X12_see_4 3 rfl ?_
  refine aw_aload_n (i := 0) rfl d_X12_see_5 0 rfl ?_
  refine aw_geti (k0 := 7) kc_12 (ws_1 w) (Nat.le_of_ble_eq_true rfl) tw_1749 d_X12_see_6 rfl ?_
  refine aw_icmp_ge (tgt := 41) d_X12_see_9 rfl (fun c1 => ?_) (fun c1 => ?_)
  · have k := k.1 c1
    refine aw_iconst (v := 0) d_X12_see_41 ic_0 ?_
    refine aw_istore_n (i := 3) rfl [(0, .ref 1), (1, .int x1), (2, .int x2), (3, .int 0)] d_X12_see_42 (Nat.le_of_ble_eq_true rfl) rfl rfl ?_
    exact k
  · have k := k.2 c1
    refine aw_iload_n (i := 2) rfl d_X12_see_12 2 rfl ?_
    refine aw_aload_n (i := 0) rfl d_X12_see_13 0 rfl ?_
    refine aw_getr (k0 := 13) kc_12 (ws_1 w) (Nat.le_of_ble_eq_true rfl) tw_1755 d_X12_see_14 rfl (wr_1_13 w) ?_
    refine aw_iload_n (i := 3) rfl d_X12_see_17 3 rfl ?_
    obtain ⟨b2, k⟩ := k
    refine aw_iald (ws_209 w) b2 d_X12_see_18 ?_
    refine aw_aload_n (i := 0) rfl d_X12_see_19 0 rfl ?_
    refine aw_getr (k0 := 13) kc_12 (ws_1 w) (Nat.le_of_ble_eq_true rfl) tw_1755 d_X12_see_20 rfl (wr_1_13 w) ?_
    refine aw_iload_n (i := 1) rfl d_X12_see_23 1 rfl ?_
    obtain ⟨b3, k⟩ := k
    refine aw_iald (ws_209 w) b3 d_X12_see_24 ?_
    refine aw_icmp_ne (tgt := 32) d_X12_see_25 rfl (fun c4 => ?_) (fun c4 => ?_)
    · have k := k.1 c4
      refine aw_iconst (v := 0) d_X12_see_32 ic_0 ?_
      refine aw_iadd d_X12_see_33 ?_
      refine aw_istore_n (i := 2) rfl [(0, .ref 1), (1, .int x1), (2, .int (x2 + 0)), (3, .int x3)] d_X12_see_34 (Nat.le_of_ble_eq_true rfl) rfl rfl ?_
      refine aw_iinc (v := (x3 + 1)) [(0, .ref 1), (1, .int x1), (2, .int (x2 + 0)), (3, .int (x3 + 1))] d_X12_see_35 3 rfl rfl (Nat.le_of_ble_eq_true rfl) rfl rfl ?_
      refine aw_goto (tgt := 4) d_X12_see_38 rfl ?_
      exact k
    · have k := k.2 c4
      refine aw_iconst (v := 1) d_X12_see_28 ic_1 ?_
      refine aw_goto (tgt := 33) d_X12_see_29 rfl ?_
      refine aw_iadd d_X12_see_33 ?_
      refine aw_istore_n (i := 2) rfl [(0, .ref 1), (1, .int x1), (2, .int (x2 + 1)), (3, .int x3)] d_X12_see_34 (Nat.le_of_ble_eq_true rfl) rfl rfl ?_
      refine aw_iinc (v := (x3 + 1)) [(0, .ref 1), (1, .int x1), (2, .int (x2 + 1)), (3, .int (x3 + 1))] d_X12_see_35 3 rfl rfl (Nat.le_of_ble_eq_true rfl) rfl rfl ?_
      refine aw_goto (tgt := 4) d_X12_see_38 rfl ?_
      exact k
theorem t_X12_see_43 (d : Nat) (h : Hp_) (w : Wf h) (x1 : Int32) (x2 : Int32) (x3 : Int32) (K : Hp_ → Prop) (k : ((h_i h 1 79) ≤ x3 → K h) ∧ (¬ (h_i h 1 79) ≤ x3 → vp_in x3 80 ∧ (vp_in x1 12 ∧ ((¬ (h_i h 250 x3.toNatClampNeg) = (h_i h 209 x1.toNatClampNeg) → AW (m_X12_see (d + 7) 0 0) 0 0 43 [(0, .ref 1), (1, .int x1), (2, .int x2), (3, .int (x3 + 1))] [] h (kV K)) ∧ ((h_i h 250 x3.toNatClampNeg) = (h_i h 209 x1.toNatClampNeg) → vp_in x3 80 ∧ (vp_in x3 80 ∧ ((¬ ((h_i h 251 x3.toNatClampNeg) ≤ (h_i h 1 0) ∧ (h_i h 1 0) ≤ (h_i h 252 x3.toNatClampNeg)) → AW (m_X12_see (d + 7) 0 0) 0 0 43 [(0, .ref 1), (1, .int x1), (2, .int x2), (3, .int (x3 + 1))] [] h (kV K)) ∧ (((h_i h 251 x3.toNatClampNeg) ≤ (h_i h 1 0) ∧ (h_i h 1 0) ≤ (h_i h 252 x3.toNatClampNeg)) → vp_in x3 80 ∧ ((¬ (h_i h 254 x3.toNatClampNeg) = 0 → AW (m_X12_see (d + 7) 0 0) 0 0 43 [(0, .ref 1), (1, .int x1), (2, .int x2), (3, .int (x3 + 1))] [] h (kV K)) ∧ ((h_i h 254 x3.toNatClampNeg) = 0 → (¬ (h_i h 1 80) = 300 → AW (m_X12_see (d + 7) 0 0) 0 0 116 [(0, .ref 1), (1, .int x1), (2, .int x2), (3, .int x3), (4, .int 0), (5, .int 0)] [] h (kV K)) ∧ ((h_i h 1 80) = 300 → AW (m_X12_see (d + 7) 0 0) 0 0 43 [(0, .ref 1), (1, .int x1), (2, .int x2), (3, .int (x3 + 1))] [] h (kV K)))))))))))) : AW (m_X12_see (d + 7) 0 0) 0 0 43 [(0, .ref 1), (1, .int x1), (2, .int x2), (3, .int x3)] [] h (kV K) := by
  refine aw_iload_n (i := 3) rfl d_X12_see_43 3 rfl ?_
  refine aw_aload_n (i := 0) rfl d_X12_see_44 0 rfl ?_
  refine aw_geti (k0 := 79) kc_12 (ws_1 w) (Nat.le_of_ble_eq_true rfl) tw_1821 d_X12_see_45 rfl ?_
  refine aw_icmp_ge (tgt := 482) d_X12_see_48 rfl (fun c5 => ?_) (fun c5 => ?_)
  · have k := k.1 c5
    exact aw_vret rfl d_X12_see_482 ⟨Nat.le_refl _, Nat.le_refl _⟩ ⟨rfl, k⟩
  · have k := k.2 c5
    refine aw_aload_n (i := 0) rfl d_X12_see_51 0 rfl ?_
    refine aw_getr (k0 := 67) kc_12 (ws_1 w) (Nat.le_of_ble_eq_true rfl) tw_1809 d_X12_see_52 rfl (wr_1_67 w) ?_
    refine aw_iload_n (i := 3) rfl d_X12_see_55 3 rfl ?_
    obtain ⟨b6, k⟩ := k
    refine aw_iald (ws_250 w) b6 d_X12_see_56 ?_
    refine aw_aload_n (i := 0) rfl d_X12_see_57 0 rfl ?_
    refine aw_getr (k0 := 13) kc_12 (ws_1 w) (Nat.le_of_ble_eq_true rfl) tw_1755 d_X12_see_58 rfl (wr_1_13 w) ?_
    refine aw_iload_n (i := 1) rfl d_X12_see_61 1 rfl ?_
    obtain ⟨b7, k⟩ := k
    refine aw_iald (ws_209 w) b7 d_X12_see_62 ?_
    refine aw_icmp_ne (tgt := 476) d_X12_see_63 rfl (fun c8 => ?_) (fun c8 => ?_)
    · have k := k.1 c8
      refine aw_iinc (v := (x3 + 1)) [(0, .ref 1), (1, .int x1), (2, .int x2), (3, .int (x3 + 1))] d_X12_see_476 3 rfl rfl (Nat.le_of_ble_eq_true rfl) rfl rfl ?_
      refine aw_goto (tgt := 43) d_X12_see_479 rfl ?_
      exact k
    · have k := k.2 c8
      refine aw_aload_n (i := 0) rfl d_X12_see_66 0 rfl ?_
      refine aw_geti (k0 := 0) kc_12 (ws_1 w) (Nat.le_of_ble_eq_true rfl) tw_1742 d_X12_see_67 rfl ?_
      refine aw_aload_n (i := 0) rfl d_X12_see_70 0 rfl ?_
      refine aw_getr (k0 := 68) kc_12 (ws_1 w) (Nat.le_of_ble_eq_true rfl) tw_1810 d_X12_see_71 rfl (wr_1_68 w) ?_
      refine aw_iload_n (i := 3) rfl d_X12_see_74 3 rfl ?_
      obtain ⟨b9, k⟩ := k
      refine aw_iald (ws_251 w) b9 d_X12_see_75 ?_
      refine aw_aload_n (i := 0) rfl d_X12_see_76 0 rfl ?_
      refine aw_getr (k0 := 69) kc_12 (ws_1 w) (Nat.le_of_ble_eq_true rfl) tw_1811 d_X12_see_77 rfl (wr_1_69 w) ?_
      refine aw_iload_n (i := 3) rfl d_X12_see_80 3 rfl ?_
      obtain ⟨b10, k⟩ := k
      refine aw_iald (ws_252 w) b10 d_X12_see_81 ?_
      refine aw_Si [.int (h_i h 1 0), .int (h_i h 251 x3.toNatClampNeg), .int (h_i h 252 x3.toNatClampNeg)] [] d_X12_see_82 (cS_X12_in (d + 0) 0 0) tw_2147 rfl (rr0 (Nat.le_of_ble_eq_true rfl) (Nat.le_of_ble_eq_true rfl)) (Nat.le_of_ble_eq_true rfl) xs0 (s_X12_in _ _ (h_i h 1 0) (h_i h 251 x3.toNatClampNeg) (h_i h 252 x3.toNatClampNeg)) (fun _ _ kk => ?_)
      obtain ⟨e11, e12⟩ := kk
      rw [e11, e12]
      refine aw_ifb_eq (tgt := 476) d_X12_see_85 rfl (fun c13 => ?_) (fun c13 => ?_)
      · have k := k.1 c13
        refine aw_iinc (v := (x3 + 1)) [(0, .ref 1), (1, .int x1), (2, .int x2), (3, .int (x3 + 1))] d_X12_see_476 3 rfl rfl (Nat.le_of_ble_eq_true rfl) rfl rfl ?_
        refine aw_goto (tgt := 43) d_X12_see_479 rfl ?_
        exact k
      · have k := k.2 c13
        refine aw_aload_n (i := 0) rfl d_X12_see_88 0 rfl ?_
        refine aw_getr (k0 := 71) kc_12 (ws_1 w) (Nat.le_of_ble_eq_true rfl) tw_1813 d_X12_see_89 rfl (wr_1_71 w) ?_
        refine aw_iload_n (i := 3) rfl d_X12_see_92 3 rfl ?_
        obtain ⟨b14, k⟩ := k
        refine aw_zald (ws_254 w) b14 d_X12_see_93 ?_
        refine aw_if_ne (tgt := 476) d_X12_see_94 rfl (fun c15 => ?_) (fun c15 => ?_)
        · have k := k.1 c15
          refine aw_iinc (v := (x3 + 1)) [(0, .ref 1), (1, .int x1), (2, .int x2), (3, .int (x3 + 1))] d_X12_see_476 3 rfl rfl (Nat.le_of_ble_eq_true rfl) rfl rfl ?_
          refine aw_goto (tgt := 43) d_X12_see_479 rfl ?_
          exact k
        · have k := k.2 c15
          refine aw_aload_n (i := 0) rfl d_X12_see_97 0 rfl ?_
          refine aw_geti (k0 := 80) kc_12 (ws_1 w) (Nat.le_of_ble_eq_true rfl) tw_1822 d_X12_see_98 rfl ?_
          refine aw_sipush (v := 300) d_X12_see_101 is_300 ?_
          refine aw_icmp_ne (tgt := 110) d_X12_see_104 rfl (fun c16 => ?_) (fun c16 => ?_)
          · have k := k.1 c16
            refine aw_iconst (v := 0) d_X12_see_110 ic_0 ?_
            refine aw_istore [(0, .ref 1), (1, .int x1), (2, .int x2), (3, .int x3), (4, .int 0)] d_X12_see_111 (Nat.le_of_ble_eq_true rfl) rfl rfl ?_
            refine aw_iconst (v := 0) d_X12_see_113 ic_0 ?_
            refine aw_istore [(0, .ref 1), (1, .int x1), (2, .int x2), (3, .int x3), (4, .int 0), (5, .int 0)] d_X12_see_114 (Nat.le_of_ble_eq_true rfl) rfl rfl ?_
            exact k
          · have k := k.2 c16
            refine aw_goto (tgt := 476) d_X12_see_107 rfl ?_
            refine aw_iinc (v := (x3 + 1)) [(0, .ref 1), (1, .int x1), (2, .int x2), (3, .int (x3 + 1))] d_X12_see_476 3 rfl rfl (Nat.le_of_ble_eq_true rfl) rfl rfl ?_
            refine aw_goto (tgt := 43) d_X12_see_479 rfl ?_
            exact k
theorem t_X12_see_116 (d : Nat) (h : Hp_) (w : Wf h) (x1 : Int32) (x2 : Int32) (x3 : Int32) (x4 : Int32) (x5 : Int32) (K : Hp_ → Prop) (k : ((h_i h 1 80) ≤ x5 → vp_in (h_i h 1 80) 300 ∧ (vp_in (h_i h 1 80) 300 ∧ (vp_in (h_i h 1 80) 300 ∧ (vp_in x3 80 ∧ (vp_in (9 * (h_i h 1 80)) 2700 ∧ (vp_in x3 80 ∧ (vp_in ((9 * (h_i h 1 80)) + 1) 2700 ∧ (vp_in x3 80 ∧ (vp_in ((9 * (h_i h 1 80)) + 2) 2700 ∧ (vp_in ((9 * (h_i h 1 80)) + 3) 2700 ∧ (vp_in ((9 * (h_i h 1 80)) + 4) 2700 ∧ (Ci (m_X12_rankOn (d + 0) 0 0) [.ref 1, .int x1, .int ((h_i h 1 0) / 1440), .int (h_i h 1 0)] (h_im (h_im (h_im (h_im (h_im (h_im (h_im (h_im h 255 ((h_i h 1 80) : Int32).toNatClampNeg x1) 256 ((h_i h 1 80) : Int32).toNatClampNeg x3) 257 ((h_i h 1 80) : Int32).toNatClampNeg (h_i h 1 0)) 261 ((9 * (h_i h 1 80)) : Int32).toNatClampNeg (h_i h 249 x3.toNatClampNeg)) 261 (((9 * (h_i h 1 80)) + 1) : Int32).toNatClampNeg (h_i h 253 x3.toNatClampNeg)) 261 (((9 * (h_i h 1 80)) + 2) : Int32).toNatClampNeg (h_i h 250 x3.toNatClampNeg)) 261 (((9 * (h_i h 1 80)) + 3) : Int32).toNatClampNeg (((h_i h 1 0) / 60) - ((h_i h 1 0) / 60) / 24 * 24)) 261 (((9 * (h_i h 1 80)) + 4) : Int32).toNatClampNeg ((h_i h 1 0) / 1440)) (fun r31 h29 => Wf h29 ∧ (vp_in ((9 * (h_i h 1 80)) + 5) 2700 ∧ (vp_in ((9 * (h_i h 1 80)) + 6) 2700 ∧ (vp_in ((9 * (h_i h 1 80)) + 7) 2700 ∧ (vp_in x3 80 ∧ (vp_in ((9 * (h_i h 1 80)) + 8) 2700 ∧ (Ci (m_X12_lets (d + 6) 0 0) [.ref 1, .int (h_i h 1 80), .int (h_i h29 1 0)] (h_im (h_im (h_im (h_im h29 261 (((9 * (h_i h 1 80)) + 5) : Int32).toNatClampNeg r31) 261 (((9 * (h_i h 1 80)) + 6) : Int32).toNatClampNeg x2) 261 (((9 * (h_i h 1 80)) + 7) : Int32).toNatClampNeg x4) 261 (((9 * (h_i h 1 80)) + 8) : Int32).toNatClampNeg ((h_i h29 1 0) - (h_i h29 251 x3.toNatClampNeg))) (fun r39 h37 => Wf h37 ∧ (vp_in (h_i h 1 80) 300 ∧ (vp_in (h_i h 1 80) 300 ∧ (vp_in (h_i h 1 80) 300 ∧ (vp_in (h_i h 1 80) 300 ∧ ((r39 ≤ 1 → vp_in (h_i h 1 80) 300 ∧ ((¬ r39 = 3 → AW (m_X12_see (d + 7) 0 0) 0 0 43 [(0, .ref 1), (1, .int x1), (2, .int x2), (3, .int (x3 + 1))] [] (h_im (h_im (h_im (h_im h37 258 ((h_i h 1 80) : Int32).toNatClampNeg r39) 259 ((h_i h 1 80) : Int32).toNatClampNeg (-1)) 260 ((h_i h 1 80) : Int32).toNatClampNeg (-1)) 1 80 ((h_i h37 1 80) + 1)) (kV K)) ∧ (r39 = 3 → vp_in x3 80 ∧ ((30 ≤ (h_i h37 1 96) → AW (m_X12_see (d + 7) 0 0) 0 0 43 [(0, .ref 1), (1, .int x1), (2, .int x2), (3, .int (x3 + 1))] [] (h_im (h_im (h_im (h_im (h_im h37 258 ((h_i h 1 80) : Int32).toNatClampNeg r39) 259 ((h_i h 1 80) : Int32).toNatClampNeg (-1)) 260 ((h_i h 1 80) : Int32).toNatClampNeg (-1)) 254 x3.toNatClampNeg (vp_nar .boolean 1)) 1 80 ((h_i h37 1 80) + 1)) (kV K)) ∧ (¬ 30 ≤ (h_i h37 1 96) → vp_in x3 80 ∧ (Ci (m_X12_opened (d + 0) 0 0) [.ref 1, .int (h_i h37 249 x3.toNatClampNeg)] (h_im (h_im (h_im (h_im h37 258 ((h_i h 1 80) : Int32).toNatClampNeg r39) 259 ((h_i h 1 80) : Int32).toNatClampNeg (-1)) 260 ((h_i h 1 80) : Int32).toNatClampNeg (-1)) 254 x3.toNatClampNeg (vp_nar .boolean 1)) (fun r52 h50 => Wf h50 ∧ (vp_in (h_i h 1 80) 300 ∧ (AW (m_X12_see (d + 7) 0 0) 0 0 43 [(0, .ref 1), (1, .int x1), (2, .int x2), (3, .int (x3 + 1))] [] (h_im (h_im h50 259 ((h_i h 1 80) : Int32).toNatClampNeg r52) 1 80 ((h_i h50 1 80) + 1)) (kV K)))))))))) ∧ (¬ r39 ≤ 1 → vp_in x1 12 ∧ (Ci (m_X12_walkOf (d + 0) 0 0) [.ref 1, .int (h_i h37 209 x1.toNatClampNeg), .int 0] (h_im (h_im (h_im h37 258 ((h_i h 1 80) : Int32).toNatClampNeg r39) 259 ((h_i h 1 80) : Int32).toNatClampNeg (-1)) 260 ((h_i h 1 80) : Int32).toNatClampNeg (-1)) (fun r57 h55 => Wf h55 ∧ ((¬ r57 = (-1) → vp_in (h_i h 1 80) 300 ∧ (vp_in (h_i h 1 80) 300 ∧ ((¬ (h_i h55 258 ((h_i h 1 80) : Int32).toNatClampNeg) = 3 → AW (m_X12_see (d + 7) 0 0) 0 0 43 [(0, .ref 1), (1, .int x1), (2, .int x2), (3, .int (x3 + 1))] [] (h_im (h_im h55 260 ((h_i h 1 80) : Int32).toNatClampNeg ((h_i h55 1 0) + r57)) 1 80 ((h_i h55 1 80) + 1)) (kV K)) ∧ ((h_i h55 258 ((h_i h 1 80) : Int32).toNatClampNeg) = 3 → vp_in x3 80 ∧ ((30 ≤ (h_i h55 1 96) → AW (m_X12_see (d + 7) 0 0) 0 0 43 [(0, .ref 1), (1, .int x1), (2, .int x2), (3, .int (x3 + 1))] [] (h_im (h_im (h_im h55 260 ((h_i h 1 80) : Int32).toNatClampNeg ((h_i h55 1 0) + r57)) 254 x3.toNatClampNeg (vp_nar .boolean 1)) 1 80 ((h_i h55 1 80) + 1)) (kV K)) ∧ (¬ 30 ≤ (h_i h55 1 96) → vp_in x3 80 ∧ (Ci (m_X12_opened (d + 0) 0 0) [.ref 1, .int (h_i h55 249 x3.toNatClampNeg)] (h_im (h_im h55 260 ((h_i h 1 80) : Int32).toNatClampNeg ((h_i h55 1 0) + r57)) 254 x3.toNatClampNeg (vp_nar .boolean 1)) (fun r67 h65 => Wf h65 ∧ (vp_in (h_i h 1 80) 300 ∧ (AW (m_X12_see (d + 7) 0 0) 0 0 43 [(0, .ref 1), (1, .int x1), (2, .int x2), (3, .int (x3 + 1))] [] (h_im (h_im h65 259 ((h_i h 1 80) : Int32).toNatClampNeg r67) 1 80 ((h_i h65 1 80) + 1)) (kV K))))))))))) ∧ (r57 = (-1) → vp_in (h_i h 1 80) 300 ∧ (vp_in (h_i h 1 80) 300 ∧ ((¬ (h_i h55 258 ((h_i h 1 80) : Int32).toNatClampNeg) = 3 → AW (m_X12_see (d + 7) 0 0) 0 0 43 [(0, .ref 1), (1, .int x1), (2, .int x2), (3, .int (x3 + 1))] [] (h_im (h_im h55 260 ((h_i h 1 80) : Int32).toNatClampNeg (-1)) 1 80 ((h_i h55 1 80) + 1)) (kV K)) ∧ ((h_i h55 258 ((h_i h 1 80) : Int32).toNatClampNeg) = 3 → vp_in x3 80 ∧ ((30 ≤ (h_i h55 1 96) → AW (m_X12_see (d + 7) 0 0) 0 0 43 [(0, .ref 1), (1, .int x1), (2, .int x2), (3, .int (x3 + 1))] [] (h_im (h_im (h_im h55 260 ((h_i h 1 80) : Int32).toNatClampNeg (-1)) 254 x3.toNatClampNeg (vp_nar .boolean 1)) 1 80 ((h_i h55 1 80) + 1)) (kV K)) ∧ (¬ 30 ≤ (h_i h55 1 96) → vp_in x3 80 ∧ (Ci (m_X12_opened (d + 0) 0 0) [.ref 1, .int (h_i h55 249 x3.toNatClampNeg)] (h_im (h_im h55 260 ((h_i h 1 80) : Int32).toNatClampNeg (-1)) 254 x3.toNatClampNeg (vp_nar .boolean 1)) (fun r77 h75 => Wf h75 ∧ (vp_in (h_i h 1 80) 300 ∧ (AW (m_X12_see (d + 7) 0 0) 0 0 43 [(0, .ref 1), (1, .int x1), (2, .int x2), (3, .int (x3 + 1))] [] (h_im (h_im h75 259 ((h_i h 1 80) : Int32).toNatClampNeg r77) 1 80 ((h_i h75 1 80) + 1)) (kV K)))))))))))))))))))))))))))))))))))))))) ∧ (¬ (h_i h 1 80) ≤ x5 → vp_in x5 300 ∧ ((¬ (h_i h 256 x5.toNatClampNeg) = x3 → AW (m_X12_see (d + 7) 0 0) 0 0 116 [(0, .ref 1), (1, .int x1), (2, .int x2), (3, .int x3), (4, .int (x4 + 0)), (5, .int (x5 + 1))] [] h (kV K)) ∧ ((h_i h 256 x5.toNatClampNeg) = x3 → AW (m_X12_see (d + 7) 0 0) 0 0 116 [(0, .ref 1), (1, .int x1), (2, .int x2), (3, .int x3), (4, .int (x4 + 1)), (5, .int (x5 + 1))] [] h (kV K))))) : AW (m_X12_see (d + 7) 0 0) 0 0 116 [(0, .ref 1), (1, .int x1), (2, .int x2), (3, .int x3), (4, .int x4), (5, .int x5)] [] h (kV K) := by
  refine aw_iload d_X12_see_116 5 rfl ?_
  refine aw_aload_n (i := 0) rfl d_X12_see_118 0 rfl ?_
  refine aw_geti (k0 := 80) kc_12 (ws_1 w) (Nat.le_of_ble_eq_true rfl) tw_1822 d_X12_see_119 rfl ?_
  refine aw_icmp_ge (tgt := 152) d_X12_see_122 rfl (fun c17 => ?_) (fun c17 => ?_)
  · have k := k.1 c17
    refine aw_aload_n (i := 0) rfl d_X12_see_152 0 rfl ?_
    refine aw_geti (k0 := 80) kc_12 (ws_1 w) (Nat.le_of_ble_eq_true rfl) tw_1822 d_X12_see_153 rfl ?_
    refine aw_istore [(0, .ref 1), (1, .int x1), (2, .int x2), (3, .int x3), (4, .int x4), (5, .int (h_i h 1 80))] d_X12_see_156 (Nat.le_of_ble_eq_true rfl) rfl rfl ?_
    refine aw_aload_n (i := 0) rfl d_X12_see_158 0 rfl ?_
    refine aw_getr (k0 := 72) kc_12 (ws_1 w) (Nat.le_of_ble_eq_true rfl) tw_1814 d_X12_see_159 rfl (wr_1_72 w) ?_
    refine aw_iload d_X12_see_162 5 rfl ?_
    refine aw_iload_n (i := 1) rfl d_X12_see_164 1 rfl ?_
    obtain ⟨b18, k⟩ := k
    refine aw_iast (ws_255 w) b18 d_X12_see_165 ?_
    refine aw_aload_n (i := 0) rfl d_X12_see_166 0 rfl ?_
    refine aw_getr (k0 := 73) kc_12 (ws_1 w) (Nat.le_of_ble_eq_true rfl) tw_1815 d_X12_see_167 rfl (wr_1_73 w) ?_
    refine aw_iload d_X12_see_170 5 rfl ?_
    refine aw_iload_n (i := 3) rfl d_X12_see_172 3 rfl ?_
    obtain ⟨b19, k⟩ := k
    refine aw_iast (ws_256 w) b19 d_X12_see_173 ?_
    refine aw_aload_n (i := 0) rfl d_X12_see_174 0 rfl ?_
    refine aw_getr (k0 := 74) kc_12 (ws_1 w) (Nat.le_of_ble_eq_true rfl) tw_1816 d_X12_see_175 rfl (wr_1_74 w) ?_
    refine aw_iload d_X12_see_178 5 rfl ?_
    refine aw_aload_n (i := 0) rfl d_X12_see_180 0 rfl ?_
    refine aw_geti (k0 := 0) kc_12 (ws_1 w) (Nat.le_of_ble_eq_true rfl) tw_1742 d_X12_see_181 rfl ?_
    refine aw_vi (v2 := (h_i h 1 0)) (rfl) ?_
    obtain ⟨b20, k⟩ := k
    refine aw_iast (ws_257 w) b20 d_X12_see_184 ?_
    refine aw_bipush (v := 9) d_X12_see_185 ib_9 ?_
    refine aw_iload d_X12_see_187 5 rfl ?_
    refine aw_imul d_X12_see_189 ?_
    refine aw_istore [(0, .ref 1), (1, .int x1), (2, .int x2), (3, .int x3), (4, .int x4), (5, .int (h_i h 1 80)), (6, .int (9 * (h_i h 1 80)))] d_X12_see_190 (Nat.le_of_ble_eq_true rfl) rfl rfl ?_
    refine aw_aload_n (i := 0) rfl d_X12_see_192 0 rfl ?_
    refine aw_getr (k0 := 78) kc_12 (ws_1 w) (Nat.le_of_ble_eq_true rfl) tw_1820 d_X12_see_193 rfl (wr_1_78 w) ?_
    refine aw_iload d_X12_see_196 6 rfl ?_
    refine aw_aload_n (i := 0) rfl d_X12_see_198 0 rfl ?_
    refine aw_getr (k0 := 66) kc_12 (ws_1 w) (Nat.le_of_ble_eq_true rfl) tw_1808 d_X12_see_199 rfl (wr_1_66 w) ?_
    refine aw_iload_n (i := 3) rfl d_X12_see_202 3 rfl ?_
    obtain ⟨b21, k⟩ := k
    refine aw_iald (ws_249 w) b21 d_X12_see_203 ?_
    refine aw_vi (v2 := (h_i h 249 x3.toNatClampNeg)) (rfl) ?_
    obtain ⟨b22, k⟩ := k
    refine aw_iast (ws_261 w) b22 d_X12_see_204 ?_
    refine aw_aload_n (i := 0) rfl d_X12_see_205 0 rfl ?_
    refine aw_getr (k0 := 78) kc_12 (ws_1 w) (Nat.le_of_ble_eq_true rfl) tw_1820 d_X12_see_206 rfl (wr_1_78 w) ?_
    refine aw_iload d_X12_see_209 6 rfl ?_
    refine aw_iconst (v := 1) d_X12_see_211 ic_1 ?_
    refine aw_iadd d_X12_see_212 ?_
    refine aw_aload_n (i := 0) rfl d_X12_see_213 0 rfl ?_
    refine aw_getr (k0 := 70) kc_12 (ws_1 w) (Nat.le_of_ble_eq_true rfl) tw_1812 d_X12_see_214 rfl (wr_1_70 w) ?_
    refine aw_iload_n (i := 3) rfl d_X12_see_217 3 rfl ?_
    obtain ⟨b23, k⟩ := k
    refine aw_iald (ws_253 w) b23 d_X12_see_218 ?_
    refine aw_vi (v2 := (h_i h 253 x3.toNatClampNeg)) (rfl) ?_
    obtain ⟨b24, k⟩ := k
    refine aw_iast (ws_261 w) b24 d_X12_see_219 ?_
    refine aw_aload_n (i := 0) rfl d_X12_see_220 0 rfl ?_
    refine aw_getr (k0 := 78) kc_12 (ws_1 w) (Nat.le_of_ble_eq_true rfl) tw_1820 d_X12_see_221 rfl (wr_1_78 w) ?_
    refine aw_iload d_X12_see_224 6 rfl ?_
    refine aw_iconst (v := 2) d_X12_see_226 ic_2 ?_
    refine aw_iadd d_X12_see_227 ?_
    refine aw_aload_n (i := 0) rfl d_X12_see_228 0 rfl ?_
    refine aw_getr (k0 := 67) kc_12 (ws_1 w) (Nat.le_of_ble_eq_true rfl) tw_1809 d_X12_see_229 rfl (wr_1_67 w) ?_
    refine aw_iload_n (i := 3) rfl d_X12_see_232 3 rfl ?_
    obtain ⟨b25, k⟩ := k
    refine aw_iald (ws_250 w) b25 d_X12_see_233 ?_
    refine aw_vi (v2 := (h_i h 250 x3.toNatClampNeg)) (rfl) ?_
    obtain ⟨b26, k⟩ := k
    refine aw_iast (ws_261 w) b26 d_X12_see_234 ?_
    refine aw_aload_n (i := 0) rfl d_X12_see_235 0 rfl ?_
    refine aw_getr (k0 := 78) kc_12 (ws_1 w) (Nat.le_of_ble_eq_true rfl) tw_1820 d_X12_see_236 rfl (wr_1_78 w) ?_
    refine aw_iload d_X12_see_239 6 rfl ?_
    refine aw_iconst (v := 3) d_X12_see_241 ic_3 ?_
    refine aw_iadd d_X12_see_242 ?_
    refine aw_aload_n (i := 0) rfl d_X12_see_243 0 rfl ?_
    refine aw_geti (k0 := 0) kc_12 (ws_1 w) (Nat.le_of_ble_eq_true rfl) tw_1742 d_X12_see_244 rfl ?_
    refine aw_vi (v2 := (h_i h 1 0)) (rfl) ?_
    refine aw_bipush (v := 60) d_X12_see_247 ib_60 ?_
    refine aw_idiv d_X12_see_249 (by decide) ?_
    refine aw_bipush (v := 24) d_X12_see_250 ib_24 ?_
    refine aw_irem d_X12_see_252 (by decide) ?_
    obtain ⟨b27, k⟩ := k
    refine aw_iast (ws_261 w) b27 d_X12_see_253 ?_
    refine aw_aload_n (i := 0) rfl d_X12_see_254 0 rfl ?_
    refine aw_getr (k0 := 78) kc_12 (ws_1 w) (Nat.le_of_ble_eq_true rfl) tw_1820 d_X12_see_255 rfl (wr_1_78 w) ?_
    refine aw_iload d_X12_see_258 6 rfl ?_
    refine aw_iconst (v := 4) d_X12_see_260 ic_4 ?_
    refine aw_iadd d_X12_see_261 ?_
    refine aw_aload_n (i := 0) rfl d_X12_see_262 0 rfl ?_
    refine aw_geti (k0 := 0) kc_12 (ws_1 w) (Nat.le_of_ble_eq_true rfl) tw_1742 d_X12_see_263 rfl ?_
    refine aw_vi (v2 := (h_i h 1 0)) (rfl) ?_
    refine aw_sipush (v := 1440) d_X12_see_266 is_1440 ?_
    refine aw_idiv d_X12_see_269 (by decide) ?_
    obtain ⟨b28, k⟩ := k
    refine aw_iast (ws_261 w) b28 d_X12_see_270 ?_
    refine aw_aload_n (i := 0) rfl d_X12_see_271 0 rfl ?_
    refine aw_getr (k0 := 78) kc_12 (ws_1 w) (Nat.le_of_ble_eq_true rfl) tw_1820 d_X12_see_272 rfl (wr_1_78 w) ?_
    refine aw_iload d_X12_see_275 6 rfl ?_
    refine aw_iconst (v := 5) d_X12_see_277 ic_5 ?_
    refine aw_iadd d_X12_see_278 ?_
    refine aw_aload_n (i := 0) rfl d_X12_see_279 0 rfl ?_
    refine aw_iload_n (i := 1) rfl d_X12_see_280 1 rfl ?_
    refine aw_aload_n (i := 0) rfl d_X12_see_281 0 rfl ?_
    refine aw_geti (k0 := 0) kc_12 (ws_1 w) (Nat.le_of_ble_eq_true rfl) tw_1742 d_X12_see_282 rfl ?_
    refine aw_vi (v2 := (h_i h 1 0)) (rfl) ?_
    refine aw_sipush (v := 1440) d_X12_see_285 is_1440 ?_
    refine aw_idiv d_X12_see_288 (by decide) ?_
    refine aw_aload_n (i := 0) rfl d_X12_see_289 0 rfl ?_
    refine aw_geti (k0 := 0) kc_12 (ws_1 w) (Nat.le_of_ble_eq_true rfl) tw_1742 d_X12_see_290 rfl ?_
    refine aw_vi (v2 := (h_i h 1 0)) (rfl) ?_
    refine aw_Vi 1 [.int x1, .int ((h_i h 1 0) / 1440), .int (h_i h 1 0)] [.int ((9 * (h_i h 1 80)) + 5), .ref 261] d_X12_see_293 (cV_X12_rankOn (d + 0) 0 0) kc_12 (ws_1 w) tw_2179 rfl (rr0 (Nat.le_of_ble_eq_true rfl) (Nat.le_of_ble_eq_true rfl)) (Nat.le_of_ble_eq_true rfl) xs0 k (fun r31 h29 kk => ?_)
    obtain ⟨w30, k⟩ := kk
    obtain ⟨b32, k⟩ := k
    refine aw_iast (ws_261 w30) b32 d_X12_see_296 ?_
    refine aw_aload_n (i := 0) rfl d_X12_see_297 0 rfl ?_
    refine aw_getr (k0 := 78) kc_12 (ws_1 w30) (Nat.le_of_ble_eq_true rfl) tw_1820 d_X12_see_298 rfl (wr_1_78 w30) ?_
    refine aw_iload d_X12_see_301 6 rfl ?_
    refine aw_bipush (v := 6) d_X12_see_303 ib_6 ?_
    refine aw_iadd d_X12_see_305 ?_
    refine aw_iload_n (i := 2) rfl d_X12_see_306 2 rfl ?_
    obtain ⟨b33, k⟩ := k
    refine aw_iast (ws_261 w30) b33 d_X12_see_307 ?_
    refine aw_aload_n (i := 0) rfl d_X12_see_308 0 rfl ?_
    refine aw_getr (k0 := 78) kc_12 (ws_1 w30) (Nat.le_of_ble_eq_true rfl) tw_1820 d_X12_see_309 rfl (wr_1_78 w30) ?_
    refine aw_iload d_X12_see_312 6 rfl ?_
    refine aw_bipush (v := 7) d_X12_see_314 ib_7 ?_
    refine aw_iadd d_X12_see_316 ?_
    refine aw_iload d_X12_see_317 4 rfl ?_
    obtain ⟨b34, k⟩ := k
    refine aw_iast (ws_261 w30) b34 d_X12_see_319 ?_
    refine aw_aload_n (i := 0) rfl d_X12_see_320 0 rfl ?_
    refine aw_getr (k0 := 78) kc_12 (ws_1 w30) (Nat.le_of_ble_eq_true rfl) tw_1820 d_X12_see_321 rfl (wr_1_78 w30) ?_
    refine aw_iload d_X12_see_324 6 rfl ?_
    refine aw_bipush (v := 8) d_X12_see_326 ib_8 ?_
    refine aw_iadd d_X12_see_328 ?_
    refine aw_aload_n (i := 0) rfl d_X12_see_329 0 rfl ?_
    refine aw_geti (k0 := 0) kc_12 (ws_1 w30) (Nat.le_of_ble_eq_true rfl) tw_1742 d_X12_see_330 rfl ?_
    refine aw_vi (v2 := (h_i h29 1 0)) (rfl) ?_
    refine aw_aload_n (i := 0) rfl d_X12_see_333 0 rfl ?_
    refine aw_getr (k0 := 68) kc_12 (ws_1 w30) (Nat.le_of_ble_eq_true rfl) tw_1810 d_X12_see_334 rfl (wr_1_68 w30) ?_
    refine aw_iload_n (i := 3) rfl d_X12_see_337 3 rfl ?_
    obtain ⟨b35, k⟩ := k
    refine aw_iald (ws_251 w30) b35 d_X12_see_338 ?_
    refine aw_vi (v2 := (h_i h29 251 x3.toNatClampNeg)) (rfl) ?_
    refine aw_isub d_X12_see_339 ?_
    obtain ⟨b36, k⟩ := k
    refine aw_iast (ws_261 w30) b36 d_X12_see_340 ?_
    refine aw_aload_n (i := 0) rfl d_X12_see_341 0 rfl ?_
    refine aw_getr (k0 := 75) kc_12 (ws_1 w30) (Nat.le_of_ble_eq_true rfl) tw_1817 d_X12_see_342 rfl (wr_1_75 w30) ?_
    refine aw_iload d_X12_see_345 5 rfl ?_
    refine aw_aload_n (i := 0) rfl d_X12_see_347 0 rfl ?_
    refine aw_iload d_X12_see_348 5 rfl ?_
    refine aw_aload_n (i := 0) rfl d_X12_see_350 0 rfl ?_
    refine aw_geti (k0 := 0) kc_12 (ws_1 w30) (Nat.le_of_ble_eq_true rfl) tw_1742 d_X12_see_351 rfl ?_
    refine aw_vi (v2 := (h_i h29 1 0)) (rfl) ?_
    refine aw_Vi 1 [.int (h_i h 1 80), .int (h_i h29 1 0)] [.int (h_i h 1 80), .ref 258] d_X12_see_354 (cV_X12_lets (d + 6) 0 0) kc_12 (ws_1 w30) tw_2400 rfl (rr0 (Nat.le_of_ble_eq_true rfl) (Nat.le_of_ble_eq_true rfl)) (Nat.le_of_ble_eq_true rfl) xs0 k (fun r39 h37 kk => ?_)
    obtain ⟨w38, k⟩ := kk
    obtain ⟨b40, k⟩ := k
    refine aw_iast (ws_258 w38) b40 d_X12_see_357 ?_
    refine aw_aload_n (i := 0) rfl d_X12_see_358 0 rfl ?_
    refine aw_getr (k0 := 76) kc_12 (ws_1 w38) (Nat.le_of_ble_eq_true rfl) tw_1818 d_X12_see_359 rfl (wr_1_76 w38) ?_
    refine aw_iload d_X12_see_362 5 rfl ?_
    refine aw_iconst (v := (-1)) d_X12_see_364 ic_m1 ?_
    obtain ⟨b41, k⟩ := k
    refine aw_iast (ws_259 w38) b41 d_X12_see_365 ?_
    refine aw_aload_n (i := 0) rfl d_X12_see_366 0 rfl ?_
    refine aw_getr (k0 := 77) kc_12 (ws_1 w38) (Nat.le_of_ble_eq_true rfl) tw_1819 d_X12_see_367 rfl (wr_1_77 w38) ?_
    refine aw_iload d_X12_see_370 5 rfl ?_
    refine aw_iconst (v := (-1)) d_X12_see_372 ic_m1 ?_
    obtain ⟨b42, k⟩ := k
    refine aw_iast (ws_260 w38) b42 d_X12_see_373 ?_
    refine aw_aload_n (i := 0) rfl d_X12_see_374 0 rfl ?_
    refine aw_getr (k0 := 75) kc_12 (ws_1 w38) (Nat.le_of_ble_eq_true rfl) tw_1817 d_X12_see_375 rfl (wr_1_75 w38) ?_
    refine aw_iload d_X12_see_378 5 rfl ?_
    obtain ⟨b43, k⟩ := k
    refine aw_iald (ws_258 w38) b43 d_X12_see_380 ?_
    refine aw_vi (v2 := r39) (hi_s h37 258 ((h_i h 1 80) : Int32).toNatClampNeg r39) ?_
    refine aw_iconst (v := 1) d_X12_see_381 ic_1 ?_
    refine aw_icmp_le (tgt := 422) d_X12_see_382 rfl (fun c44 => ?_) (fun c44 => ?_)
    · have k := k.1 c44
      refine aw_aload_n (i := 0) rfl d_X12_see_422 0 rfl ?_
      refine aw_getr (k0 := 75) kc_12 (ws_1 w38) (Nat.le_of_ble_eq_true rfl) tw_1817 d_X12_see_423 rfl (wr_1_75 w38) ?_
      refine aw_iload d_X12_see_426 5 rfl ?_
      obtain ⟨b45, k⟩ := k
      refine aw_iald (ws_258 w38) b45 d_X12_see_428 ?_
      refine aw_vi (v2 := r39) (hi_s h37 258 ((h_i h 1 80) : Int32).toNatClampNeg r39) ?_
      refine aw_iconst (v := 3) d_X12_see_429 ic_3 ?_
      refine aw_icmp_ne (tgt := 466) d_X12_see_430 rfl (fun c46 => ?_) (fun c46 => ?_)
      · have k := k.1 c46
        refine aw_aload_n (i := 0) rfl d_X12_see_466 0 rfl ?_
        refine aw_dup d_X12_see_467 rfl ?_
        refine aw_geti (k0 := 80) kc_12 (ws_1 w38) (Nat.le_of_ble_eq_true rfl) tw_1822 d_X12_see_468 rfl ?_
        refine aw_vi (v2 := (h_i h37 1 80)) (rfl) ?_
        refine aw_iconst (v := 1) d_X12_see_471 ic_1 ?_
        refine aw_iadd d_X12_see_472 ?_
        refine aw_puti (k0 := 80) kc_12 (ws_1 w38) (Nat.le_of_ble_eq_true rfl) tw_1822 d_X12_see_473 rfl rfl nf_i ?_
        refine aw_iinc (v := (x3 + 1)) [(0, .ref 1), (1, .int x1), (2, .int x2), (3, .int (x3 + 1)), (4, .int x4), (5, .int (h_i h 1 80)), (6, .int (9 * (h_i h 1 80)))] d_X12_see_476 3 rfl rfl (Nat.le_of_ble_eq_true rfl) rfl rfl ?_
        refine aw_goto (tgt := 43) d_X12_see_479 rfl ?_
        exact aw_lvp [0, 1, 2, 3] [(0, .ref 1), (1, .int x1), (2, .int x2), (3, .int (x3 + 1))] rfl k
      · have k := k.2 c46
        refine aw_aload_n (i := 0) rfl d_X12_see_433 0 rfl ?_
        refine aw_getr (k0 := 71) kc_12 (ws_1 w38) (Nat.le_of_ble_eq_true rfl) tw_1813 d_X12_see_434 rfl (wr_1_71 w38) ?_
        refine aw_iload_n (i := 3) rfl d_X12_see_437 3 rfl ?_
        refine aw_iconst (v := 1) d_X12_see_438 ic_1 ?_
        obtain ⟨b47, k⟩ := k
        refine aw_zast (ws_254 w38) b47 d_X12_see_439 ?_
        refine aw_aload_n (i := 0) rfl d_X12_see_440 0 rfl ?_
        refine aw_geti (k0 := 96) kc_12 (ws_1 w38) (Nat.le_of_ble_eq_true rfl) tw_1838 d_X12_see_441 rfl ?_
        refine aw_vi (v2 := (h_i h37 1 96)) (rfl) ?_
        refine aw_bipush (v := 30) d_X12_see_444 ib_30 ?_
        refine aw_icmp_ge (tgt := 466) d_X12_see_446 rfl (fun c48 => ?_) (fun c48 => ?_)
        · have k := k.1 c48
          refine aw_aload_n (i := 0) rfl d_X12_see_466 0 rfl ?_
          refine aw_dup d_X12_see_467 rfl ?_
          refine aw_geti (k0 := 80) kc_12 (ws_1 w38) (Nat.le_of_ble_eq_true rfl) tw_1822 d_X12_see_468 rfl ?_
          refine aw_vi (v2 := (h_i h37 1 80)) (rfl) ?_
          refine aw_iconst (v := 1) d_X12_see_471 ic_1 ?_
          refine aw_iadd d_X12_see_472 ?_
          refine aw_puti (k0 := 80) kc_12 (ws_1 w38) (Nat.le_of_ble_eq_true rfl) tw_1822 d_X12_see_473 rfl rfl nf_i ?_
          refine aw_iinc (v := (x3 + 1)) [(0, .ref 1), (1, .int x1), (2, .int x2), (3, .int (x3 + 1)), (4, .int x4), (5, .int (h_i h 1 80)), (6, .int (9 * (h_i h 1 80)))] d_X12_see_476 3 rfl rfl (Nat.le_of_ble_eq_true rfl) rfl rfl ?_
          refine aw_goto (tgt := 43) d_X12_see_479 rfl ?_
          exact aw_lvp [0, 1, 2, 3] [(0, .ref 1), (1, .int x1), (2, .int x2), (3, .int (x3 + 1))] rfl k
        · have k := k.2 c48
          refine aw_aload_n (i := 0) rfl d_X12_see_449 0 rfl ?_
          refine aw_getr (k0 := 76) kc_12 (ws_1 w38) (Nat.le_of_ble_eq_true rfl) tw_1818 d_X12_see_450 rfl (wr_1_76 w38) ?_
          refine aw_iload d_X12_see_453 5 rfl ?_
          refine aw_aload_n (i := 0) rfl d_X12_see_455 0 rfl ?_
          refine aw_aload_n (i := 0) rfl d_X12_see_456 0 rfl ?_
          refine aw_getr (k0 := 66) kc_12 (ws_1 w38) (Nat.le_of_ble_eq_true rfl) tw_1808 d_X12_see_457 rfl (wr_1_66 w38) ?_
          refine aw_iload_n (i := 3) rfl d_X12_see_460 3 rfl ?_
          obtain ⟨b49, k⟩ := k
          refine aw_iald (ws_249 w38) b49 d_X12_see_461 ?_
          refine aw_vi (v2 := (h_i h37 249 x3.toNatClampNeg)) (rfl) ?_
          refine aw_Vi 1 [.int (h_i h37 249 x3.toNatClampNeg)] [.int (h_i h 1 80), .ref 259] d_X12_see_462 (cV_X12_opened (d + 0) 0 0) kc_12 (ws_1 w38) tw_2450 rfl (rr0 (Nat.le_of_ble_eq_true rfl) (Nat.le_of_ble_eq_true rfl)) (Nat.le_of_ble_eq_true rfl) xs0 k (fun r52 h50 kk => ?_)
          obtain ⟨w51, k⟩ := kk
          obtain ⟨b53, k⟩ := k
          refine aw_iast (ws_259 w51) b53 d_X12_see_465 ?_
          refine aw_aload_n (i := 0) rfl d_X12_see_466 0 rfl ?_
          refine aw_dup d_X12_see_467 rfl ?_
          refine aw_geti (k0 := 80) kc_12 (ws_1 w51) (Nat.le_of_ble_eq_true rfl) tw_1822 d_X12_see_468 rfl ?_
          refine aw_vi (v2 := (h_i h50 1 80)) (rfl) ?_
          refine aw_iconst (v := 1) d_X12_see_471 ic_1 ?_
          refine aw_iadd d_X12_see_472 ?_
          refine aw_puti (k0 := 80) kc_12 (ws_1 w51) (Nat.le_of_ble_eq_true rfl) tw_1822 d_X12_see_473 rfl rfl nf_i ?_
          refine aw_iinc (v := (x3 + 1)) [(0, .ref 1), (1, .int x1), (2, .int x2), (3, .int (x3 + 1)), (4, .int x4), (5, .int (h_i h 1 80)), (6, .int (9 * (h_i h 1 80)))] d_X12_see_476 3 rfl rfl (Nat.le_of_ble_eq_true rfl) rfl rfl ?_
          refine aw_goto (tgt := 43) d_X12_see_479 rfl ?_
          exact aw_lvp [0, 1, 2, 3] [(0, .ref 1), (1, .int x1), (2, .int x2), (3, .int (x3 + 1))] rfl k
    · have k := k.2 c44
      refine aw_aload_n (i := 0) rfl d_X12_see_385 0 rfl ?_
      refine aw_aload_n (i := 0) rfl d_X12_see_386 0 rfl ?_
      refine aw_getr (k0 := 13) kc_12 (ws_1 w38) (Nat.le_of_ble_eq_true rfl) tw_1755 d_X12_see_387 rfl (wr_1_13 w38) ?_
      refine aw_iload_n (i := 1) rfl d_X12_see_390 1 rfl ?_
      obtain ⟨b54, k⟩ := k
      refine aw_iald (ws_209 w38) b54 d_X12_see_391 ?_
      refine aw_vi (v2 := (h_i h37 209 x1.toNatClampNeg)) (rfl) ?_
      refine aw_iconst (v := 0) d_X12_see_392 ic_0 ?_
      refine aw_Vi 1 [.int (h_i h37 209 x1.toNatClampNeg), .int 0] [] d_X12_see_393 (cV_X12_walkOf (d + 0) 0 0) kc_12 (ws_1 w38) tw_2154 rfl (rr0 (Nat.le_of_ble_eq_true rfl) (Nat.le_of_ble_eq_true rfl)) (Nat.le_of_ble_eq_true rfl) xs0 k (fun r57 h55 kk => ?_)
      obtain ⟨w56, k⟩ := kk
      refine aw_istore [(0, .ref 1), (1, .int x1), (2, .int x2), (3, .int x3), (4, .int x4), (5, .int (h_i h 1 80)), (6, .int (9 * (h_i h 1 80))), (7, .int r57)] d_X12_see_396 (Nat.le_of_ble_eq_true rfl) rfl rfl ?_
      refine aw_aload_n (i := 0) rfl d_X12_see_398 0 rfl ?_
      refine aw_getr (k0 := 77) kc_12 (ws_1 w56) (Nat.le_of_ble_eq_true rfl) tw_1819 d_X12_see_399 rfl (wr_1_77 w56) ?_
      refine aw_iload d_X12_see_402 5 rfl ?_
      refine aw_iload d_X12_see_404 7 rfl ?_
      refine aw_iconst (v := (-1)) d_X12_see_406 ic_m1 ?_
      refine aw_icmp_ne (tgt := 414) d_X12_see_407 rfl (fun c58 => ?_) (fun c58 => ?_)
      · have k := k.1 c58
        refine aw_aload_n (i := 0) rfl d_X12_see_414 0 rfl ?_
        refine aw_geti (k0 := 0) kc_12 (ws_1 w56) (Nat.le_of_ble_eq_true rfl) tw_1742 d_X12_see_415 rfl ?_
        refine aw_iload d_X12_see_418 7 rfl ?_
        refine aw_iadd d_X12_see_420 ?_
        obtain ⟨b59, k⟩ := k
        refine aw_iast (ws_260 w56) b59 d_X12_see_421 ?_
        refine aw_aload_n (i := 0) rfl d_X12_see_422 0 rfl ?_
        refine aw_getr (k0 := 75) kc_12 (ws_1 w56) (Nat.le_of_ble_eq_true rfl) tw_1817 d_X12_see_423 rfl (wr_1_75 w56) ?_
        refine aw_iload d_X12_see_426 5 rfl ?_
        obtain ⟨b60, k⟩ := k
        refine aw_iald (ws_258 w56) b60 d_X12_see_428 ?_
        refine aw_vi (v2 := (h_i h55 258 ((h_i h 1 80) : Int32).toNatClampNeg)) (rfl) ?_
        refine aw_iconst (v := 3) d_X12_see_429 ic_3 ?_
        refine aw_icmp_ne (tgt := 466) d_X12_see_430 rfl (fun c61 => ?_) (fun c61 => ?_)
        · have k := k.1 c61
          refine aw_aload_n (i := 0) rfl d_X12_see_466 0 rfl ?_
          refine aw_dup d_X12_see_467 rfl ?_
          refine aw_geti (k0 := 80) kc_12 (ws_1 w56) (Nat.le_of_ble_eq_true rfl) tw_1822 d_X12_see_468 rfl ?_
          refine aw_vi (v2 := (h_i h55 1 80)) (rfl) ?_
          refine aw_iconst (v := 1) d_X12_see_471 ic_1 ?_
          refine aw_iadd d_X12_see_472 ?_
          refine aw_puti (k0 := 80) kc_12 (ws_1 w56) (Nat.le_of_ble_eq_true rfl) tw_1822 d_X12_see_473 rfl rfl nf_i ?_
          refine aw_iinc (v := (x3 + 1)) [(0, .ref 1), (1, .int x1), (2, .int x2), (3, .int (x3 + 1)), (4, .int x4), (5, .int (h_i h 1 80)), (6, .int (9 * (h_i h 1 80))), (7, .int r57)] d_X12_see_476 3 rfl rfl (Nat.le_of_ble_eq_true rfl) rfl rfl ?_
          refine aw_goto (tgt := 43) d_X12_see_479 rfl ?_
          exact aw_lvp [0, 1, 2, 3] [(0, .ref 1), (1, .int x1), (2, .int x2), (3, .int (x3 + 1))] rfl k
        · have k := k.2 c61
          refine aw_aload_n (i := 0) rfl d_X12_see_433 0 rfl ?_
          refine aw_getr (k0 := 71) kc_12 (ws_1 w56) (Nat.le_of_ble_eq_true rfl) tw_1813 d_X12_see_434 rfl (wr_1_71 w56) ?_
          refine aw_iload_n (i := 3) rfl d_X12_see_437 3 rfl ?_
          refine aw_iconst (v := 1) d_X12_see_438 ic_1 ?_
          obtain ⟨b62, k⟩ := k
          refine aw_zast (ws_254 w56) b62 d_X12_see_439 ?_
          refine aw_aload_n (i := 0) rfl d_X12_see_440 0 rfl ?_
          refine aw_geti (k0 := 96) kc_12 (ws_1 w56) (Nat.le_of_ble_eq_true rfl) tw_1838 d_X12_see_441 rfl ?_
          refine aw_vi (v2 := (h_i h55 1 96)) (rfl) ?_
          refine aw_bipush (v := 30) d_X12_see_444 ib_30 ?_
          refine aw_icmp_ge (tgt := 466) d_X12_see_446 rfl (fun c63 => ?_) (fun c63 => ?_)
          · have k := k.1 c63
            refine aw_aload_n (i := 0) rfl d_X12_see_466 0 rfl ?_
            refine aw_dup d_X12_see_467 rfl ?_
            refine aw_geti (k0 := 80) kc_12 (ws_1 w56) (Nat.le_of_ble_eq_true rfl) tw_1822 d_X12_see_468 rfl ?_
            refine aw_vi (v2 := (h_i h55 1 80)) (rfl) ?_
            refine aw_iconst (v := 1) d_X12_see_471 ic_1 ?_
            refine aw_iadd d_X12_see_472 ?_
            refine aw_puti (k0 := 80) kc_12 (ws_1 w56) (Nat.le_of_ble_eq_true rfl) tw_1822 d_X12_see_473 rfl rfl nf_i ?_
            refine aw_iinc (v := (x3 + 1)) [(0, .ref 1), (1, .int x1), (2, .int x2), (3, .int (x3 + 1)), (4, .int x4), (5, .int (h_i h 1 80)), (6, .int (9 * (h_i h 1 80))), (7, .int r57)] d_X12_see_476 3 rfl rfl (Nat.le_of_ble_eq_true rfl) rfl rfl ?_
            refine aw_goto (tgt := 43) d_X12_see_479 rfl ?_
            exact aw_lvp [0, 1, 2, 3] [(0, .ref 1), (1, .int x1), (2, .int x2), (3, .int (x3 + 1))] rfl k
          · have k := k.2 c63
            refine aw_aload_n (i := 0) rfl d_X12_see_449 0 rfl ?_
            refine aw_getr (k0 := 76) kc_12 (ws_1 w56) (Nat.le_of_ble_eq_true rfl) tw_1818 d_X12_see_450 rfl (wr_1_76 w56) ?_
            refine aw_iload d_X12_see_453 5 rfl ?_
            refine aw_aload_n (i := 0) rfl d_X12_see_455 0 rfl ?_
            refine aw_aload_n (i := 0) rfl d_X12_see_456 0 rfl ?_
            refine aw_getr (k0 := 66) kc_12 (ws_1 w56) (Nat.le_of_ble_eq_true rfl) tw_1808 d_X12_see_457 rfl (wr_1_66 w56) ?_
            refine aw_iload_n (i := 3) rfl d_X12_see_460 3 rfl ?_
            obtain ⟨b64, k⟩ := k
            refine aw_iald (ws_249 w56) b64 d_X12_see_461 ?_
            refine aw_vi (v2 := (h_i h55 249 x3.toNatClampNeg)) (rfl) ?_
            refine aw_Vi 1 [.int (h_i h55 249 x3.toNatClampNeg)] [.int (h_i h 1 80), .ref 259] d_X12_see_462 (cV_X12_opened (d + 0) 0 0) kc_12 (ws_1 w56) tw_2450 rfl (rr0 (Nat.le_of_ble_eq_true rfl) (Nat.le_of_ble_eq_true rfl)) (Nat.le_of_ble_eq_true rfl) xs0 k (fun r67 h65 kk => ?_)
            obtain ⟨w66, k⟩ := kk
            obtain ⟨b68, k⟩ := k
            refine aw_iast (ws_259 w66) b68 d_X12_see_465 ?_
            refine aw_aload_n (i := 0) rfl d_X12_see_466 0 rfl ?_
            refine aw_dup d_X12_see_467 rfl ?_
            refine aw_geti (k0 := 80) kc_12 (ws_1 w66) (Nat.le_of_ble_eq_true rfl) tw_1822 d_X12_see_468 rfl ?_
            refine aw_vi (v2 := (h_i h65 1 80)) (rfl) ?_
            refine aw_iconst (v := 1) d_X12_see_471 ic_1 ?_
            refine aw_iadd d_X12_see_472 ?_
            refine aw_puti (k0 := 80) kc_12 (ws_1 w66) (Nat.le_of_ble_eq_true rfl) tw_1822 d_X12_see_473 rfl rfl nf_i ?_
            refine aw_iinc (v := (x3 + 1)) [(0, .ref 1), (1, .int x1), (2, .int x2), (3, .int (x3 + 1)), (4, .int x4), (5, .int (h_i h 1 80)), (6, .int (9 * (h_i h 1 80))), (7, .int r57)] d_X12_see_476 3 rfl rfl (Nat.le_of_ble_eq_true rfl) rfl rfl ?_
            refine aw_goto (tgt := 43) d_X12_see_479 rfl ?_
            exact aw_lvp [0, 1, 2, 3] [(0, .ref 1), (1, .int x1), (2, .int x2), (3, .int (x3 + 1))] rfl k
      · have k := k.2 c58
        refine aw_iconst (v := (-1)) d_X12_see_410 ic_m1 ?_
        refine aw_goto (tgt := 421) d_X12_see_411 rfl ?_
        obtain ⟨b69, k⟩ := k
        refine aw_iast (ws_260 w56) b69 d_X12_see_421 ?_
        refine aw_aload_n (i := 0) rfl d_X12_see_422 0 rfl ?_
        refine aw_getr (k0 := 75) kc_12 (ws_1 w56) (Nat.le_of_ble_eq_true rfl) tw_1817 d_X12_see_423 rfl (wr_1_75 w56) ?_
        refine aw_iload d_X12_see_426 5 rfl ?_
        obtain ⟨b70, k⟩ := k
        refine aw_iald (ws_258 w56) b70 d_X12_see_428 ?_
        refine aw_vi (v2 := (h_i h55 258 ((h_i h 1 80) : Int32).toNatClampNeg)) (rfl) ?_
        refine aw_iconst (v := 3) d_X12_see_429 ic_3 ?_
        refine aw_icmp_ne (tgt := 466) d_X12_see_430 rfl (fun c71 => ?_) (fun c71 => ?_)
        · have k := k.1 c71
          refine aw_aload_n (i := 0) rfl d_X12_see_466 0 rfl ?_
          refine aw_dup d_X12_see_467 rfl ?_
          refine aw_geti (k0 := 80) kc_12 (ws_1 w56) (Nat.le_of_ble_eq_true rfl) tw_1822 d_X12_see_468 rfl ?_
          refine aw_vi (v2 := (h_i h55 1 80)) (rfl) ?_
          refine aw_iconst (v := 1) d_X12_see_471 ic_1 ?_
          refine aw_iadd d_X12_see_472 ?_
          refine aw_puti (k0 := 80) kc_12 (ws_1 w56) (Nat.le_of_ble_eq_true rfl) tw_1822 d_X12_see_473 rfl rfl nf_i ?_
          refine aw_iinc (v := (x3 + 1)) [(0, .ref 1), (1, .int x1), (2, .int x2), (3, .int (x3 + 1)), (4, .int x4), (5, .int (h_i h 1 80)), (6, .int (9 * (h_i h 1 80))), (7, .int r57)] d_X12_see_476 3 rfl rfl (Nat.le_of_ble_eq_true rfl) rfl rfl ?_
          refine aw_goto (tgt := 43) d_X12_see_479 rfl ?_
          exact aw_lvp [0, 1, 2, 3] [(0, .ref 1), (1, .int x1), (2, .int x2), (3, .int (x3 + 1))] rfl k
        · have k := k.2 c71
          refine aw_aload_n (i := 0) rfl d_X12_see_433 0 rfl ?_
          refine aw_getr (k0 := 71) kc_12 (ws_1 w56) (Nat.le_of_ble_eq_true rfl) tw_1813 d_X12_see_434 rfl (wr_1_71 w56) ?_
          refine aw_iload_n (i := 3) rfl d_X12_see_437 3 rfl ?_
          refine aw_iconst (v := 1) d_X12_see_438 ic_1 ?_
          obtain ⟨b72, k⟩ := k
          refine aw_zast (ws_254 w56) b72 d_X12_see_439 ?_
          refine aw_aload_n (i := 0) rfl d_X12_see_440 0 rfl ?_
          refine aw_geti (k0 := 96) kc_12 (ws_1 w56) (Nat.le_of_ble_eq_true rfl) tw_1838 d_X12_see_441 rfl ?_
          refine aw_vi (v2 := (h_i h55 1 96)) (rfl) ?_
          refine aw_bipush (v := 30) d_X12_see_444 ib_30 ?_
          refine aw_icmp_ge (tgt := 466) d_X12_see_446 rfl (fun c73 => ?_) (fun c73 => ?_)
          · have k := k.1 c73
            refine aw_aload_n (i := 0) rfl d_X12_see_466 0 rfl ?_
            refine aw_dup d_X12_see_467 rfl ?_
            refine aw_geti (k0 := 80) kc_12 (ws_1 w56) (Nat.le_of_ble_eq_true rfl) tw_1822 d_X12_see_468 rfl ?_
            refine aw_vi (v2 := (h_i h55 1 80)) (rfl) ?_
            refine aw_iconst (v := 1) d_X12_see_471 ic_1 ?_
            refine aw_iadd d_X12_see_472 ?_
            refine aw_puti (k0 := 80) kc_12 (ws_1 w56) (Nat.le_of_ble_eq_true rfl) tw_1822 d_X12_see_473 rfl rfl nf_i ?_
            refine aw_iinc (v := (x3 + 1)) [(0, .ref 1), (1, .int x1), (2, .int x2), (3, .int (x3 + 1)), (4, .int x4), (5, .int (h_i h 1 80)), (6, .int (9 * (h_i h 1 80))), (7, .int r57)] d_X12_see_476 3 rfl rfl (Nat.le_of_ble_eq_true rfl) rfl rfl ?_
            refine aw_goto (tgt := 43) d_X12_see_479 rfl ?_
            exact aw_lvp [0, 1, 2, 3] [(0, .ref 1), (1, .int x1), (2, .int x2), (3, .int (x3 + 1))] rfl k
          · have k := k.2 c73
            refine aw_aload_n (i := 0) rfl d_X12_see_449 0 rfl ?_
            refine aw_getr (k0 := 76) kc_12 (ws_1 w56) (Nat.le_of_ble_eq_true rfl) tw_1818 d_X12_see_450 rfl (wr_1_76 w56) ?_
            refine aw_iload d_X12_see_453 5 rfl ?_
            refine aw_aload_n (i := 0) rfl d_X12_see_455 0 rfl ?_
            refine aw_aload_n (i := 0) rfl d_X12_see_456 0 rfl ?_
            refine aw_getr (k0 := 66) kc_12 (ws_1 w56) (Nat.le_of_ble_eq_true rfl) tw_1808 d_X12_see_457 rfl (wr_1_66 w56) ?_
            refine aw_iload_n (i := 3) rfl d_X12_see_460 3 rfl ?_
            obtain ⟨b74, k⟩ := k
            refine aw_iald (ws_249 w56) b74 d_X12_see_461 ?_
            refine aw_vi (v2 := (h_i h55 249 x3.toNatClampNeg)) (rfl) ?_
            refine aw_Vi 1 [.int (h_i h55 249 x3.toNatClampNeg)] [.int (h_i h 1 80), .ref 259] d_X12_see_462 (cV_X12_opened (d + 0) 0 0) kc_12 (ws_1 w56) tw_2450 rfl (rr0 (Nat.le_of_ble_eq_true rfl) (Nat.le_of_ble_eq_true rfl)) (Nat.le_of_ble_eq_true rfl) xs0 k (fun r77 h75 kk => ?_)
            obtain ⟨w76, k⟩ := kk
            obtain ⟨b78, k⟩ := k
            refine aw_iast (ws_259 w76) b78 d_X12_see_465 ?_
            refine aw_aload_n (i := 0) rfl d_X12_see_466 0 rfl ?_
            refine aw_dup d_X12_see_467 rfl ?_
            refine aw_geti (k0 := 80) kc_12 (ws_1 w76) (Nat.le_of_ble_eq_true rfl) tw_1822 d_X12_see_468 rfl ?_
            refine aw_vi (v2 := (h_i h75 1 80)) (rfl) ?_
            refine aw_iconst (v := 1) d_X12_see_471 ic_1 ?_
            refine aw_iadd d_X12_see_472 ?_
            refine aw_puti (k0 := 80) kc_12 (ws_1 w76) (Nat.le_of_ble_eq_true rfl) tw_1822 d_X12_see_473 rfl rfl nf_i ?_
            refine aw_iinc (v := (x3 + 1)) [(0, .ref 1), (1, .int x1), (2, .int x2), (3, .int (x3 + 1)), (4, .int x4), (5, .int (h_i h 1 80)), (6, .int (9 * (h_i h 1 80))), (7, .int r57)] d_X12_see_476 3 rfl rfl (Nat.le_of_ble_eq_true rfl) rfl rfl ?_
            refine aw_goto (tgt := 43) d_X12_see_479 rfl ?_
            exact aw_lvp [0, 1, 2, 3] [(0, .ref 1), (1, .int x1), (2, .int x2), (3, .int (x3 + 1))] rfl k
  · have k := k.2 c17
    refine aw_iload d_X12_see_125 4 rfl ?_
    refine aw_aload_n (i := 0) rfl d_X12_see_127 0 rfl ?_
    refine aw_getr (k0 := 73) kc_12 (ws_1 w) (Nat.le_of_ble_eq_true rfl) tw_1815 d_X12_see_128 rfl (wr_1_73 w) ?_
    refine aw_iload d_X12_see_131 5 rfl ?_
    obtain ⟨b79, k⟩ := k
    refine aw_iald (ws_256 w) b79 d_X12_see_133 ?_
    refine aw_iload_n (i := 3) rfl d_X12_see_134 3 rfl ?_
    refine aw_icmp_ne (tgt := 142) d_X12_see_135 rfl (fun c80 => ?_) (fun c80 => ?_)
    · have k := k.1 c80
      refine aw_iconst (v := 0) d_X12_see_142 ic_0 ?_
      refine aw_iadd d_X12_see_143 ?_
      refine aw_istore [(0, .ref 1), (1, .int x1), (2, .int x2), (3, .int x3), (4, .int (x4 + 0)), (5, .int x5)] d_X12_see_144 (Nat.le_of_ble_eq_true rfl) rfl rfl ?_
      refine aw_iinc (v := (x5 + 1)) [(0, .ref 1), (1, .int x1), (2, .int x2), (3, .int x3), (4, .int (x4 + 0)), (5, .int (x5 + 1))] d_X12_see_146 5 rfl rfl (Nat.le_of_ble_eq_true rfl) rfl rfl ?_
      refine aw_goto (tgt := 116) d_X12_see_149 rfl ?_
      exact k
    · have k := k.2 c80
      refine aw_iconst (v := 1) d_X12_see_138 ic_1 ?_
      refine aw_goto (tgt := 143) d_X12_see_139 rfl ?_
      refine aw_iadd d_X12_see_143 ?_
      refine aw_istore [(0, .ref 1), (1, .int x1), (2, .int x2), (3, .int x3), (4, .int (x4 + 1)), (5, .int x5)] d_X12_see_144 (Nat.le_of_ble_eq_true rfl) rfl rfl ?_
      refine aw_iinc (v := (x5 + 1)) [(0, .ref 1), (1, .int x1), (2, .int x2), (3, .int x3), (4, .int (x4 + 1)), (5, .int (x5 + 1))] d_X12_see_146 5 rfl rfl (Nat.le_of_ble_eq_true rfl) rfl rfl ?_
      refine aw_goto (tgt := 116) d_X12_see_149 rfl ?_
      exact k
