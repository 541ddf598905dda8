theorem t_X6_addFair (d : Nat) (h : Hp_) (w : Wf h) (x1 : Int32) (x2 : Int32) (x3 : Int32) (K : Int32 → Hp_ → Prop) (k : ((h_i h 20 16) < 4 → vp_in (h_i h 20 16) 4 ∧ (vp_in (h_i h 20 16) 4 ∧ (vp_in (h_i h 20 16) 4 ∧ (K (((h_i h 20 16) + 1) - 1) (h_im (h_im (h_im (h_im h 98 ((h_i h 20 16) : Int32).toNatClampNeg x1) 99 ((h_i h 20 16) : Int32).toNatClampNeg x2) 100 ((h_i h 20 16) : Int32).toNatClampNeg x3) 20 16 ((h_i h 20 16) + 1)))))) ∧ (¬ (h_i h 20 16) < 4 → K (-1) h)) : Ci (m_X6_addFair (d + 0) 0 0) [.ref 20, .int x1, .int x2, .int x3] h K := by
  refine Ct.of (fun _ _ _ => trivial) rfl (Nat.le_of_ble_eq_true rfl) ?_
  show AW (m_X6_addFair (d + 0) 0 0) 0 0 0 [(0, .ref 20), (1, .int x1), (2, .int x2), (3, .int x3)] [] h (kI K)
  refine aw_aload_n (i := 0) rfl d_X6_addFair_0 0 rfl ?_
  refine aw_geti (k0 := 16) kc_6 (ws_20 w) (Nat.le_of_ble_eq_true rfl) tw_380 d_X6_addFair_1 rfl ?_
  refine aw_iconst (v := 4) d_X6_addFair_4 ic_4 ?_
  refine aw_icmp_lt (tgt := 10) d_X6_addFair_5 rfl (fun c1 => ?_) (fun c1 => ?_)
  · have k := k.1 c1
    refine aw_aload_n (i := 0) rfl d_X6_addFair_10 0 rfl ?_
    refine aw_getr (k0 := 13) kc_6 (ws_20 w) (Nat.le_of_ble_eq_true rfl) tw_377 d_X6_addFair_11 rfl (wr_20_13 w) ?_
    refine aw_aload_n (i := 0) rfl d_X6_addFair_14 0 rfl ?_
    refine aw_geti (k0 := 16) kc_6 (ws_20 w) (Nat.le_of_ble_eq_true rfl) tw_380 d_X6_addFair_15 rfl ?_
    refine aw_iload_n (i := 1) rfl d_X6_addFair_18 1 rfl ?_
    obtain ⟨b2, k⟩ := k
    refine aw_iast (ws_98 w) b2 d_X6_addFair_19 ?_
    refine aw_aload_n (i := 0) rfl d_X6_addFair_20 0 rfl ?_
    refine aw_getr (k0 := 14) kc_6 (ws_20 w) (Nat.le_of_ble_eq_true rfl) tw_378 d_X6_addFair_21 rfl (wr_20_14 w) ?_
    refine aw_aload_n (i := 0) rfl d_X6_addFair_24 0 rfl ?_
    refine aw_geti (k0 := 16) kc_6 (ws_20 w) (Nat.le_of_ble_eq_true rfl) tw_380 d_X6_addFair_25 rfl ?_
    refine aw_vi (v2 := (h_i h 20 16)) (rfl) ?_
    refine aw_iload_n (i := 2) rfl d_X6_addFair_28 2 rfl ?_
    obtain ⟨b3, k⟩ := k
    refine aw_iast (ws_99 w) b3 d_X6_addFair_29 ?_
    refine aw_aload_n (i := 0) rfl d_X6_addFair_30 0 rfl ?_
    refine aw_getr (k0 := 15) kc_6 (ws_20 w) (Nat.le_of_ble_eq_true rfl) tw_379 d_X6_addFair_31 rfl (wr_20_15 w) ?_
    refine aw_aload_n (i := 0) rfl d_X6_addFair_34 0 rfl ?_
    refine aw_geti (k0 := 16) kc_6 (ws_20 w) (Nat.le_of_ble_eq_true rfl) tw_380 d_X6_addFair_35 rfl ?_
    refine aw_vi (v2 := (h_i h 20 16)) (rfl) ?_
    refine aw_iload_n (i := 3) rfl d_X6_addFair_38 3 rfl ?_
    obtain ⟨b4, k⟩ := k
    refine aw_iast (ws_100 w) b4 d_X6_addFair_39 ?_
    refine aw_aload_n (i := 0) rfl d_X6_addFair_40 0 rfl ?_
    refine aw_dup d_X6_addFair_41 rfl ?_
    refine aw_geti (k0 := 16) kc_6 (ws_20 w) (Nat.le_of_ble_eq_true rfl) tw_380 d_X6_addFair_42 rfl ?_
    refine aw_vi (v2 := (h_i h 20 16)) (rfl) ?_
    refine aw_iconst (v := 1) d_X6_addFair_45 ic_1 ?_
    refine aw_iadd d_X6_addFair_46 ?_
    refine aw_puti (k0 := 16) kc_6 (ws_20 w) (Nat.le_of_ble_eq_true rfl) tw_380 d_X6_addFair_47 rfl rfl nf_i ?_
    refine aw_aload_n (i := 0) rfl d_X6_addFair_50 0 rfl ?_
    refine aw_geti (k0 := 16) kc_6 (ws_20 w) (Nat.le_of_ble_eq_true rfl) tw_380 d_X6_addFair_51 rfl ?_
    refine aw_vi (v2 := ((h_i h 20 16) + 1)) (rfl) ?_
    refine aw_iconst (v := 1) d_X6_addFair_54 ic_1 ?_
    refine aw_isub d_X6_addFair_55 ?_
    exact aw_iret rfl d_X6_addFair_56 ⟨Nat.le_refl _, Nat.le_refl _⟩ ⟨_, rfl, k⟩
  · have k := k.2 c1
    refine aw_iconst (v := (-1)) d_X6_addFair_8 ic_m1 ?_
    exact aw_iret rfl d_X6_addFair_9 ⟨Nat.le_refl _, Nat.le_refl _⟩ ⟨_, rfl, k⟩
theorem t_X12_fair (d : Nat) (h : Hp_) (w : Wf h) (x1 : Int32) (x2 : Int32) (x3 : Int32) (K : Int32 → Hp_ → Prop) (k : (¬ (0 ≤ x1 ∧ x1 ≤ 15) → K (-1) h) ∧ ((0 ≤ x1 ∧ x1 ≤ 15) → (¬ (0 ≤ x2 ∧ x2 ≤ 30000) → K (-1) h) ∧ ((0 ≤ x2 ∧ x2 ≤ 30000) → (¬ (1 ≤ x3 ∧ x3 ≤ 3) → K (-1) h) ∧ ((1 ≤ x3 ∧ x3 ≤ 3) → (¬ (h_i h 1 119) = 4 → vp_in (h_i h 1 119) 4 ∧ (vp_in (h_i h 1 119) 4 ∧ (vp_in (h_i h 1 119) 4 ∧ (K (((h_i h 1 119) + 1) - 1) (h_im (h_im (h_im (h_im h 288 ((h_i h 1 119) : Int32).toNatClampNeg x1) 289 ((h_i h 1 119) : Int32).toNatClampNeg x2) 290 ((h_i h 1 119) : Int32).toNatClampNeg x3) 1 119 ((h_i h 1 119) + 1)))))) ∧ ((h_i h 1 119) = 4 → K (-1) h))))) : Ci (m_X12_fair (d + 2) 0 0) [.ref 1, .int x1, .int x2, .int x3] h K := by
  refine Ct.of (fun _ _ _ => trivial) rfl (Nat.le_of_ble_eq_true rfl) ?_
  show AW (m_X12_fair (d + 2) 0 0) 0 0 0 [(0, .ref 1), (1, .int x1), (2, .int x2), (3, .int x3)] [] h (kI K)
  refine aw_iload_n (i := 1) rfl d_X12_fair_0 1 rfl ?_
  refine aw_Si [.int x1] [] d_X12_fair_1 (cS_X12_isPlace (d + 1) 0 0) tw_2140 rfl (rr0 (Nat.le_of_ble_eq_true rfl) (Nat.le_of_ble_eq_true rfl)) (Nat.le_of_ble_eq_true rfl) xs0 (s_X12_isPlace _ _ x1) (fun _ _ kk => ?_)
  obtain ⟨e1, e2⟩ := kk
  rw [e1, e2]
  refine aw_ifb_eq (tgt := 35) d_X12_fair_4 rfl (fun c3 => ?_) (fun c3 => ?_)
  · have k := k.1 c3
    refine aw_iconst (v := (-1)) d_X12_fair_35 ic_m1 ?_
    exact aw_iret rfl d_X12_fair_36 ⟨Nat.le_refl _, Nat.le_refl _⟩ ⟨_, rfl, k⟩
  · have k := k.2 c3
    refine aw_iload_n (i := 2) rfl d_X12_fair_7 2 rfl ?_
    refine aw_iconst (v := 0) d_X12_fair_8 ic_0 ?_
    refine aw_sipush (v := 30000) d_X12_fair_9 is_30000 ?_
    refine aw_Si [.int x2, .int 0, .int 30000] [] d_X12_fair_12 (cS_X12_in (d + 0) 0 0) tw_2143 rfl (rr0 (Nat.le_of_ble_eq_true rfl) (Nat.le_of_ble_eq_true rfl)) (Nat.le_of_ble_eq_true rfl) xs0 (s_X12_in _ _ x2 0 30000) (fun _ _ kk => ?_)
    obtain ⟨e4, e5⟩ := kk
    rw [e4, e5]
    refine aw_ifb_eq (tgt := 35) d_X12_fair_15 rfl (fun c6 => ?_) (fun c6 => ?_)
    · have k := k.1 c6
      refine aw_iconst (v := (-1)) d_X12_fair_35 ic_m1 ?_
      exact aw_iret rfl d_X12_fair_36 ⟨Nat.le_refl _, Nat.le_refl _⟩ ⟨_, rfl, k⟩
    · have k := k.2 c6
      refine aw_iload_n (i := 3) rfl d_X12_fair_18 3 rfl ?_
      refine aw_iconst (v := 1) d_X12_fair_19 ic_1 ?_
      refine aw_iconst (v := 3) d_X12_fair_20 ic_3 ?_
      refine aw_Si [.int x3, .int 1, .int 3] [] d_X12_fair_21 (cS_X12_in (d + 0) 0 0) tw_2143 rfl (rr0 (Nat.le_of_ble_eq_true rfl) (Nat.le_of_ble_eq_true rfl)) (Nat.le_of_ble_eq_true rfl) xs0 (s_X12_in _ _ x3 1 3) (fun _ _ kk => ?_)
      obtain ⟨e7, e8⟩ := kk
      rw [e7, e8]
      refine aw_ifb_eq (tgt := 35) d_X12_fair_24 rfl (fun c9 => ?_) (fun c9 => ?_)
      · have k := k.1 c9
        refine aw_iconst (v := (-1)) d_X12_fair_35 ic_m1 ?_
        exact aw_iret rfl d_X12_fair_36 ⟨Nat.le_refl _, Nat.le_refl _⟩ ⟨_, rfl, k⟩
      · have k := k.2 c9
        refine aw_aload_n (i := 0) rfl d_X12_fair_27 0 rfl ?_
        refine aw_geti (k0 := 119) kc_12 (ws_1 w) (Nat.le_of_ble_eq_true rfl) tw_1861 d_X12_fair_28 rfl ?_
        refine aw_iconst (v := 4) d_X12_fair_31 ic_4 ?_
        refine aw_icmp_ne (tgt := 37) d_X12_fair_32 rfl (fun c10 => ?_) (fun c10 => ?_)
        · have k := k.1 c10
          refine aw_aload_n (i := 0) rfl d_X12_fair_37 0 rfl ?_
          refine aw_getr (k0 := 116) kc_12 (ws_1 w) (Nat.le_of_ble_eq_true rfl) tw_1858 d_X12_fair_38 rfl (wr_1_116 w) ?_
          refine aw_aload_n (i := 0) rfl d_X12_fair_41 0 rfl ?_
          refine aw_geti (k0 := 119) kc_12 (ws_1 w) (Nat.le_of_ble_eq_true rfl) tw_1861 d_X12_fair_42 rfl ?_
          refine aw_iload_n (i := 1) rfl d_X12_fair_45 1 rfl ?_
          obtain ⟨b11, k⟩ := k
          refine aw_iast (ws_288 w) b11 d_X12_fair_46 ?_
          refine aw_aload_n (i := 0) rfl d_X12_fair_47 0 rfl ?_
          refine aw_getr (k0 := 117) kc_12 (ws_1 w) (Nat.le_of_ble_eq_true rfl) tw_1859 d_X12_fair_48 rfl (wr_1_117 w) ?_
          refine aw_aload_n (i := 0) rfl d_X12_fair_51 0 rfl ?_
          refine aw_geti (k0 := 119) kc_12 (ws_1 w) (Nat.le_of_ble_eq_true rfl) tw_1861 d_X12_fair_52 rfl ?_
          refine aw_vi (v2 := (h_i h 1 119)) (rfl) ?_
          refine aw_iload_n (i := 2) rfl d_X12_fair_55 2 rfl ?_
          obtain ⟨b12, k⟩ := k
          refine aw_iast (ws_289 w) b12 d_X12_fair_56 ?_
          refine aw_aload_n (i := 0) rfl d_X12_fair_57 0 rfl ?_
          refine aw_getr (k0 := 118) kc_12 (ws_1 w) (Nat.le_of_ble_eq_true rfl) tw_1860 d_X12_fair_58 rfl (wr_1_118 w) ?_
          refine aw_aload_n (i := 0) rfl d_X12_fair_61 0 rfl ?_
          refine aw_geti (k0 := 119) kc_12 (ws_1 w) (Nat.le_of_ble_eq_true rfl) tw_1861 d_X12_fair_62 rfl ?_
          refine aw_vi (v2 := (h_i h 1 119)) (rfl) ?_
          refine aw_iload_n (i := 3) rfl d_X12_fair_65 3 rfl ?_
          obtain ⟨b13, k⟩ := k
          refine aw_iast (ws_290 w) b13 d_X12_fair_66 ?_
          refine aw_aload_n (i := 0) rfl d_X12_fair_67 0 rfl ?_
          refine aw_dup d_X12_fair_68 rfl ?_
          refine aw_geti (k0 := 119) kc_12 (ws_1 w) (Nat.le_of_ble_eq_true rfl) tw_1861 d_X12_fair_69 rfl ?_
          refine aw_vi (v2 := (h_i h 1 119)) (rfl) ?_
          refine aw_iconst (v := 1) d_X12_fair_72 ic_1 ?_
          refine aw_iadd d_X12_fair_73 ?_
          refine aw_puti (k0 := 119) kc_12 (ws_1 w) (Nat.le_of_ble_eq_true rfl) tw_1861 d_X12_fair_74 rfl rfl nf_i ?_
          refine aw_aload_n (i := 0) rfl d_X12_fair_77 0 rfl ?_
          refine aw_geti (k0 := 119) kc_12 (ws_1 w) (Nat.le_of_ble_eq_true rfl) tw_1861 d_X12_fair_78 rfl ?_
          refine aw_vi (v2 := ((h_i h 1 119) + 1)) (rfl) ?_
          refine aw_iconst (v := 1) d_X12_fair_81 ic_1 ?_
          refine aw_isub d_X12_fair_82 ?_
          exact aw_iret rfl d_X12_fair_83 ⟨Nat.le_refl _, Nat.le_refl _⟩ ⟨_, rfl, k⟩
        · have k := k.2 c10
          refine aw_iconst (v := (-1)) d_X12_fair_35 ic_m1 ?_
          exact aw_iret rfl d_X12_fair_36 ⟨Nat.le_refl _, Nat.le_refl _⟩ ⟨_, rfl, k⟩
theorem t_X11_fair (d : Nat) (h : Hp_) (x1 : Int32) (x2 : Int32) (x3 : Int32) (K : Int32 → Hp_ → Prop) (k : Ci (m_X11_isPlace (d + 0) 0 0) [.int x1] h (fun r3 h1 => Wf h1 ∧ ((r3 = 0 → K (-1) h1) ∧ (¬ r3 = 0 → (¬ (0 ≤ x2 ∧ x2 ≤ 30000) → K (-1) h1) ∧ ((0 ≤ x2 ∧ x2 ≤ 30000) → ((1 ≤ x3 ∧ x3 ≤ 3) → Ci (m_X6_addFair (d + 0) 0 0) [.ref 20, .int x1, .int x2, .int x3] h1 (fun r13 h11 => Wf h11 ∧ (K r13 h11))) ∧ (¬ (1 ≤ x3 ∧ x3 ≤ 3) → K (-1) h1)))))) : Ci (m_X11_fair (d + 1) 0 0) [.ref 0, .int x1, .int x2, .int x3] h K := by
  refine Ct.of (fun _ _ _ => trivial) rfl (Nat.le_of_ble_eq_true rfl) ?_
  show AW (m_X11_fair (d + 1) 0 0) 0 0 0 [(0, .ref 0), (1, .int x1), (2, .int x2), (3, .int x3)] [] h (kI K)
  refine aw_iload_n (i := 1) rfl d_X11_fair_0 1 rfl ?_
  refine aw_Si [.int x1] [] d_X11_fair_1 (cS_X11_isPlace (d + 0) 0 0) tw_540 rfl (rr0 (Nat.le_of_ble_eq_true rfl) (Nat.le_of_ble_eq_true rfl)) (Nat.le_of_ble_eq_true rfl) xs0 k (fun r3 h1 kk => ?_)
  obtain ⟨w2, k⟩ := kk
  refine aw_if_eq (tgt := 27) d_X11_fair_4 rfl (fun c4 => ?_) (fun c4 => ?_)
  · have k := k.1 c4
    refine aw_iconst (v := (-1)) d_X11_fair_27 ic_m1 ?_
    exact aw_iret rfl d_X11_fair_28 ⟨Nat.le_refl _, Nat.le_refl _⟩ ⟨_, rfl, k⟩
  · have k := k.2 c4
    refine aw_iload_n (i := 2) rfl d_X11_fair_7 2 rfl ?_
    refine aw_iconst (v := 0) d_X11_fair_8 ic_0 ?_
    refine aw_sipush (v := 30000) d_X11_fair_9 is_30000 ?_
    refine aw_Si [.int x2, .int 0, .int 30000] [] d_X11_fair_12 (cS_X11_within (d + 0) 0 0) tw_543 rfl (rr0 (Nat.le_of_ble_eq_true rfl) (Nat.le_of_ble_eq_true rfl)) (Nat.le_of_ble_eq_true rfl) xs0 (s_X11_within _ _ x2 0 30000) (fun _ _ kk => ?_)
    obtain ⟨e5, e6⟩ := kk
    rw [e5, e6]
    refine aw_ifb_eq (tgt := 27) d_X11_fair_15 rfl (fun c7 => ?_) (fun c7 => ?_)
    · have k := k.1 c7
      refine aw_iconst (v := (-1)) d_X11_fair_27 ic_m1 ?_
      exact aw_iret rfl d_X11_fair_28 ⟨Nat.le_refl _, Nat.le_refl _⟩ ⟨_, rfl, k⟩
    · have k := k.2 c7
      refine aw_iload_n (i := 3) rfl d_X11_fair_18 3 rfl ?_
      refine aw_iconst (v := 1) d_X11_fair_19 ic_1 ?_
      refine aw_iconst (v := 3) d_X11_fair_20 ic_3 ?_
      refine aw_Si [.int x3, .int 1, .int 3] [] d_X11_fair_21 (cS_X11_within (d + 0) 0 0) tw_543 rfl (rr0 (Nat.le_of_ble_eq_true rfl) (Nat.le_of_ble_eq_true rfl)) (Nat.le_of_ble_eq_true rfl) xs0 (s_X11_within _ _ x3 1 3) (fun _ _ kk => ?_)
      obtain ⟨e8, e9⟩ := kk
      rw [e8, e9]
      refine aw_ifb_ne (tgt := 29) d_X11_fair_24 rfl (fun c10 => ?_) (fun c10 => ?_)
      · have k := k.1 c10
        refine aw_aload_n (i := 0) rfl d_X11_fair_29 0 rfl ?_
        refine aw_getr (k0 := 12) kc_11 (ws_0 w2) (Nat.le_of_ble_eq_true rfl) tw_499 d_X11_fair_30 rfl (wr_0_12 w2) ?_
        refine aw_iload_n (i := 1) rfl d_X11_fair_33 1 rfl ?_
        refine aw_iload_n (i := 2) rfl d_X11_fair_34 2 rfl ?_
        refine aw_iload_n (i := 3) rfl d_X11_fair_35 3 rfl ?_
        refine aw_Vi 20 [.int x1, .int x2, .int x3] [] d_X11_fair_36 (cV_X6_addFair (d + 0) 0 0) kc_6 (ws_20 w2) tw_1484 rfl (rr0 (Nat.le_of_ble_eq_true rfl) (Nat.le_of_ble_eq_true rfl)) (Nat.le_of_ble_eq_true rfl) xs0 k (fun r13 h11 kk => ?_)
        obtain ⟨w12, k⟩ := kk
        exact aw_iret rfl d_X11_fair_39 ⟨Nat.le_refl _, Nat.le_refl _⟩ ⟨_, rfl, k⟩
      · have k := k.2 c10
        refine aw_iconst (v := (-1)) d_X11_fair_27 ic_m1 ?_
        exact aw_iret rfl d_X11_fair_28 ⟨Nat.le_refl _, Nat.le_refl _⟩ ⟨_, rfl, k⟩
theorem t_X6_clearFairs (d : Nat) (h : Hp_) (w : Wf h)  (K : Hp_ → Prop) (k : K (h_im h 20 16 0)) : Cv (m_X6_clearFairs (d + 0) 0 0) [.ref 20] h K := by
  refine Ct.of (fun _ _ _ => trivial) rfl (Nat.le_of_ble_eq_true rfl) ?_
  show AW (m_X6_clearFairs (d + 0) 0 0) 0 0 0 [(0, .ref 20)] [] h (kV K)
  refine aw_aload_n (i := 0) rfl d_X6_clearFairs_0 0 rfl ?_
  refine aw_iconst (v := 0) d_X6_clearFairs_1 ic_0 ?_
  refine aw_puti (k0 := 16) kc_6 (ws_20 w) (Nat.le_of_ble_eq_true rfl) tw_380 d_X6_clearFairs_2 rfl rfl nf_i ?_
  exact aw_vret rfl d_X6_clearFairs_5 ⟨Nat.le_refl _, Nat.le_refl _⟩ ⟨rfl, k⟩
theorem t_X11_fairs (d : Nat) (h : Hp_) (w : Wf h)  (K : Hp_ → Prop) (k : Cv (m_X6_clearFairs (d + 0) 0 0) [.ref 20] h (fun h1 => Wf h1 ∧ (K h1))) : Cv (m_X11_fairs (d + 1) 0 0) [.ref 0] h K := by
  refine Ct.of (fun _ _ _ => trivial) rfl (Nat.le_of_ble_eq_true rfl) ?_
  show AW (m_X11_fairs (d + 1) 0 0) 0 0 0 [(0, .ref 0)] [] h (kV K)
  refine aw_aload_n (i := 0) rfl d_X11_fairs_0 0 rfl ?_
  refine aw_getr (k0 := 12) kc_11 (ws_0 w) (Nat.le_of_ble_eq_true rfl) tw_499 d_X11_fairs_1 rfl (wr_0_12 w) ?_
  refine aw_Vv 20 [] [] d_X11_fairs_4 (cV_X6_clearFairs (d + 0) 0 0) kc_6 (ws_20 w) tw_1557 rfl (rr0 (Nat.le_of_ble_eq_true rfl) (Nat.le_of_ble_eq_true rfl)) (Nat.le_of_ble_eq_true rfl) xs0 k (fun h1 kk => ?_)
  obtain ⟨w2, k⟩ := kk
  exact aw_vret rfl d_X11_fairs_7 ⟨Nat.le_refl _, Nat.le_refl _⟩ ⟨rfl, k⟩
theorem t_X12_fairs (d : Nat) (h : Hp_) (w : Wf h)  (K : Hp_ → Prop) (k : K (h_im h 1 119 0)) : Cv (m_X12_fairs (d + 0) 0 0) [.ref 1] h K := by
  refine Ct.of (fun _ _ _ => trivial) rfl (Nat.le_of_ble_eq_true rfl) ?_
  show AW (m_X12_fairs (d + 0) 0 0) 0 0 0 [(0, .ref 1)] [] h (kV K)
  refine aw_aload_n (i := 0) rfl d_X12_fairs_0 0 rfl ?_
  refine aw_iconst (v := 0) d_X12_fairs_1 ic_0 ?_
  refine aw_puti (k0 := 119) kc_12 (ws_1 w) (Nat.le_of_ble_eq_true rfl) tw_1861 d_X12_fairs_2 rfl rfl nf_i ?_
  exact aw_vret rfl d_X12_fairs_5 ⟨Nat.le_refl _, Nat.le_refl _⟩ ⟨rfl, k⟩
