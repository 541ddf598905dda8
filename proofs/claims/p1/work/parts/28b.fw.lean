theorem f_X11_cased (d : Nat) (h : Hp_) (w : Wf h) (e_0_0 : h_i h 0 0 = 0) (e_18_3 : h_i h 18 3 = 0)  (x1 : Int32) (x2 : Int32) (x3 : Int32) : Ci (m_X11_cased (d + 2) 0 0) [.ref 0, .int x1, .int x2, .int x3] h (fun r h' => (¬ (0 ≤ x2 ∧ x2 ≤ 0) ∧ r = (-1) ∧ h' = h) ∨ ((0 ≤ x2 ∧ x2 ≤ 0) ∧ x1 < 0 ∧ r = (-1) ∧ h' = h) ∨ ((0 ≤ x2 ∧ x2 ≤ 0) ∧ ¬ x1 < 0 ∧ r = (-1) ∧ h' = h)) := by
  refine Ct.of (fun _ _ _ => trivial) rfl (Nat.le_of_ble_eq_true rfl) ?_
  show AW (m_X11_cased (d + 2) 0 0) 0 0 0 [(0, .ref 0), (1, .int x1), (2, .int x2), (3, .int x3)] [] h (kI (fun r h' => (¬ (0 ≤ x2 ∧ x2 ≤ 0) ∧ r = (-1) ∧ h' = h) ∨ ((0 ≤ x2 ∧ x2 ≤ 0) ∧ x1 < 0 ∧ r = (-1) ∧ h' = h) ∨ ((0 ≤ x2 ∧ x2 ≤ 0) ∧ ¬ x1 < 0 ∧ r = (-1) ∧ h' = h)))
  refine aw_aload_n (i := 0) rfl d_X11_cased_0 0 rfl ?_
  refine aw_iload_n (i := 2) rfl d_X11_cased_1 2 rfl ?_
  refine aw_Vi 0 [.int x2] [] d_X11_cased_2 (cV_X11_isKnown (d + 1) 0 0) kc_11 (ws_0 w) tw_1102 rfl (rr0 (Nat.le_of_ble_eq_true rfl) (Nat.le_of_ble_eq_true rfl)) (Nat.le_of_ble_eq_true rfl) xs0 (f_X11_isKnown_33 d h w e_0_0 x2) (fun r1 h2 kk => ?_)
  obtain ⟨ez8, ez9⟩ := kk
  obtain rfl := ez8.symm
  obtain rfl := ez9.symm
  refine aw_ifb_eq (tgt := 33) d_X11_cased_5 rfl (fun c3 => ?_) (fun c3 => ?_)
  · refine aw_iconst (v := (-1)) d_X11_cased_33 ic_m1 ?_
    exact aw_iret rfl d_X11_cased_34 ⟨Nat.le_refl _, Nat.le_refl _⟩ ⟨_, rfl, (Or.inl ⟨c3, rfl, rfl⟩)⟩
  · refine aw_aload_n (i := 0) rfl d_X11_cased_8 0 rfl ?_
    refine aw_getr (k0 := 10) kc_11 (ws_0 w) (Nat.le_of_ble_eq_true rfl) tw_497 d_X11_cased_9 rfl (wr_0_10 w) ?_
    refine aw_iload_n (i := 1) rfl d_X11_cased_12 1 rfl ?_
    refine aw_iload_n (i := 2) rfl d_X11_cased_13 2 rfl ?_
    refine aw_Vi 18 [.int x1, .int x2] [] d_X11_cased_14 (cV_X1_wasOpen (d + 1) 0 0) kc_1 (ws_18 w) tw_1279 rfl (rr0 (Nat.le_of_ble_eq_true rfl) (Nat.le_of_ble_eq_true rfl)) (Nat.le_of_ble_eq_true rfl) xs0 (f_X1_wasOpen_57 d h w e_18_3 x1 x2) (fun r4 h5 kk => ?_)
    rcases kk with ⟨c6, ez8, ez9⟩ | ⟨c7, ez8, ez9⟩
    · obtain rfl := ez8.symm
      obtain rfl := ez9.symm
      refine aw_if_eq (tgt := 33) d_X11_cased_17 rfl (fun _ => ?_) (fun c => absurd c (by decide))
      refine aw_iconst (v := (-1)) d_X11_cased_33 ic_m1 ?_
      exact aw_iret rfl d_X11_cased_34 ⟨Nat.le_refl _, Nat.le_refl _⟩ ⟨_, rfl, (Or.inr (Or.inl ⟨c3, c6, rfl, rfl⟩))⟩
    · obtain rfl := ez8.symm
      obtain rfl := ez9.symm
      refine aw_if_eq (tgt := 33) d_X11_cased_17 rfl (fun _ => ?_) (fun c => absurd c (by decide))
      refine aw_iconst (v := (-1)) d_X11_cased_33 ic_m1 ?_
      exact aw_iret rfl d_X11_cased_34 ⟨Nat.le_refl _, Nat.le_refl _⟩ ⟨_, rfl, (Or.inr (Or.inr ⟨c3, c7, rfl, rfl⟩))⟩
theorem f_X11_story (d : Nat) (h : Hp_) (w : Wf h) (e_18_3 : h_i h 18 3 = 0)  (x1 : Int32) (x2 : Int32) (x3 : Int32) : Ci (m_X11_story (d + 1) 0 0) [.ref 0, .int x1, .int x2, .int x3] h (fun r h' => (x1 < 0 ∧ r = (-1) ∧ h' = h) ∨ (¬ x1 < 0 ∧ r = (-1) ∧ h' = h)) := by
  refine Ct.of (fun _ _ _ => trivial) rfl (Nat.le_of_ble_eq_true rfl) ?_
  show AW (m_X11_story (d + 1) 0 0) 0 0 0 [(0, .ref 0), (1, .int x1), (2, .int x2), (3, .int x3)] [] h (kI (fun r h' => (x1 < 0 ∧ r = (-1) ∧ h' = h) ∨ (¬ x1 < 0 ∧ r = (-1) ∧ h' = h)))
  refine aw_aload_n (i := 0) rfl d_X11_story_0 0 rfl ?_
  refine aw_getr (k0 := 10) kc_11 (ws_0 w) (Nat.le_of_ble_eq_true rfl) tw_497 d_X11_story_1 rfl (wr_0_10 w) ?_
  refine aw_iload_n (i := 1) rfl d_X11_story_4 1 rfl ?_
  refine aw_Vi 18 [.int x1] [] d_X11_story_5 (cV_X1_has (d + 0) 0 0) kc_1 (ws_18 w) tw_1219 rfl (rr0 (Nat.le_of_ble_eq_true rfl) (Nat.le_of_ble_eq_true rfl)) (Nat.le_of_ble_eq_true rfl) xs0 (f_X1_has_53 d h w e_18_3 x1) (fun r1 h2 kk => ?_)
  rcases kk with ⟨c3, ez8, ez9⟩ | ⟨c4, ez8, ez9⟩
  · obtain rfl := ez8.symm
    obtain rfl := ez9.symm
    refine aw_if_eq (tgt := 39) d_X11_story_8 rfl (fun _ => ?_) (fun c => absurd c (by decide))
    refine aw_iconst (v := (-1)) d_X11_story_39 ic_m1 ?_
    exact aw_iret rfl d_X11_story_40 ⟨Nat.le_refl _, Nat.le_refl _⟩ ⟨_, rfl, (Or.inl ⟨c3, rfl, rfl⟩)⟩
  · obtain rfl := ez8.symm
    obtain rfl := ez9.symm
    refine aw_if_eq (tgt := 39) d_X11_story_8 rfl (fun _ => ?_) (fun c => absurd c (by decide))
    refine aw_iconst (v := (-1)) d_X11_story_39 ic_m1 ?_
    exact aw_iret rfl d_X11_story_40 ⟨Nat.le_refl _, Nat.le_refl _⟩ ⟨_, rfl, (Or.inr ⟨c4, rfl, rfl⟩)⟩
theorem f_X11_next (d : Nat) (h : Hp_) (w : Wf h) (e_18_3 : h_i h 18 3 = 0)  (x1 : Int32) : Ci (m_X11_next (d + 1) 0 0) [.ref 0, .int x1] h (fun r h' => (x1 < 0 ∧ r = (-1) ∧ h' = h) ∨ (¬ x1 < 0 ∧ r = (-1) ∧ h' = h)) := by
  refine Ct.of (fun _ _ _ => trivial) rfl (Nat.le_of_ble_eq_true rfl) ?_
  show AW (m_X11_next (d + 1) 0 0) 0 0 0 [(0, .ref 0), (1, .int x1)] [] h (kI (fun r h' => (x1 < 0 ∧ r = (-1) ∧ h' = h) ∨ (¬ x1 < 0 ∧ r = (-1) ∧ h' = h)))
  refine aw_aload_n (i := 0) rfl d_X11_next_0 0 rfl ?_
  refine aw_getr (k0 := 10) kc_11 (ws_0 w) (Nat.le_of_ble_eq_true rfl) tw_497 d_X11_next_1 rfl (wr_0_10 w) ?_
  refine aw_iload_n (i := 1) rfl d_X11_next_4 1 rfl ?_
  refine aw_Vi 18 [.int x1] [] d_X11_next_5 (cV_X1_has (d + 0) 0 0) kc_1 (ws_18 w) tw_1219 rfl (rr0 (Nat.le_of_ble_eq_true rfl) (Nat.le_of_ble_eq_true rfl)) (Nat.le_of_ble_eq_true rfl) xs0 (f_X1_has_53 d h w e_18_3 x1) (fun r1 h2 kk => ?_)
  rcases kk with ⟨c3, ez8, ez9⟩ | ⟨c4, ez8, ez9⟩
  · obtain rfl := ez8.symm
    obtain rfl := ez9.symm
    refine aw_if_eq (tgt := 26) d_X11_next_8 rfl (fun _ => ?_) (fun c => absurd c (by decide))
    refine aw_iconst (v := (-1)) d_X11_next_26 ic_m1 ?_
    exact aw_iret rfl d_X11_next_27 ⟨Nat.le_refl _, Nat.le_refl _⟩ ⟨_, rfl, (Or.inl ⟨c3, rfl, rfl⟩)⟩
  · obtain rfl := ez8.symm
    obtain rfl := ez9.symm
    refine aw_if_eq (tgt := 26) d_X11_next_8 rfl (fun _ => ?_) (fun c => absurd c (by decide))
    refine aw_iconst (v := (-1)) d_X11_next_26 ic_m1 ?_
    exact aw_iret rfl d_X11_next_27 ⟨Nat.le_refl _, Nat.le_refl _⟩ ⟨_, rfl, (Or.inr ⟨c4, rfl, rfl⟩)⟩
theorem f_X3_add_62 (d : Nat) (h : Hp_) (w : Wf h) (e_19_2 : h_i h 19 2 = 0) (e_19_3 : h_i h 19 3 = 0)  (x1 : Int32) (x2 : Int32) : Ci (m_X3_add (d + 0) 0 0) [.ref 19, .int x1, .int x2] h (fun r h' => (x1 = 0 ∧ r = 0 ∧ h' = h_im (h_im (h_im h 19 5 1) 86 (0 : Int32).toNatClampNeg x2) 19 3 1) ∨ (¬ x1 = 0 ∧ r = 0 ∧ h' = h_im (h_im (h_im h 19 5 1) 85 (0 : Int32).toNatClampNeg x2) 19 2 1)) := by
  refine Ct.of (fun _ _ _ => trivial) rfl (Nat.le_of_ble_eq_true rfl) ?_
  show AW (m_X3_add (d + 0) 0 0) 0 0 0 [(0, .ref 19), (1, .int x1), (2, .int x2)] [] h (kI (fun r h' => (x1 = 0 ∧ r = 0 ∧ h' = h_im (h_im (h_im h 19 5 1) 86 (0 : Int32).toNatClampNeg x2) 19 3 1) ∨ (¬ x1 = 0 ∧ r = 0 ∧ h' = h_im (h_im (h_im h 19 5 1) 85 (0 : Int32).toNatClampNeg x2) 19 2 1)))
  refine aw_iload_n (i := 1) rfl d_X3_add_0 1 rfl ?_
  refine aw_if_eq (tgt := 11) d_X3_add_1 rfl (fun c1 => ?_) (fun c1 => ?_)
  · refine aw_aload_n (i := 0) rfl d_X3_add_11 0 rfl ?_
    refine aw_geti (k0 := 3) kc_3 (ws_19 w) (Nat.le_of_ble_eq_true rfl) tw_325 d_X3_add_12 rfl ?_
    refine aw_vi (v2 := 0) e_19_3 ?_
    refine aw_istore_n (i := 3) rfl [(0, .ref 19), (1, .int x1), (2, .int x2), (3, .int 0)] d_X3_add_15 (Nat.le_of_ble_eq_true rfl) rfl rfl ?_
    refine aw_iload_n (i := 3) rfl d_X3_add_16 3 rfl ?_
    refine aw_bipush (v := 8) d_X3_add_17 ib_8 ?_
    refine aw_icmp_lt (tgt := 24) d_X3_add_19 rfl (fun _ => ?_) (fun c => absurd c (by decide))
    refine aw_aload_n (i := 0) rfl d_X3_add_24 0 rfl ?_
    refine aw_iconst (v := 1) d_X3_add_25 ic_1 ?_
    refine aw_puti (k0 := 5) kc_3 (ws_19 w) (Nat.le_of_ble_eq_true rfl) tw_328 d_X3_add_26 rfl rfl ⟨rfl, rfl⟩ ?_
    refine aw_iload_n (i := 1) rfl d_X3_add_29 1 rfl ?_
    refine aw_if_eq (tgt := 53) d_X3_add_30 rfl (fun c3 => ?_) (fun c3 => (by exfalso; grind))
    refine aw_aload_n (i := 0) rfl d_X3_add_53 0 rfl ?_
    refine aw_getr (k0 := 1) kc_3 (ws_19 w) (Nat.le_of_ble_eq_true rfl) tw_322 d_X3_add_54 rfl (wr_19_1 w) ?_
    refine aw_iload_n (i := 3) rfl d_X3_add_57 3 rfl ?_
    refine aw_iload_n (i := 2) rfl d_X3_add_58 2 rfl ?_
    refine aw_iast (ws_86 w) (vin_c (by decide)) d_X3_add_59 ?_
    refine aw_aload_n (i := 0) rfl d_X3_add_60 0 rfl ?_
    refine aw_dup d_X3_add_61 rfl ?_
    refine aw_geti (k0 := 3) kc_3 (ws_19 w) (Nat.le_of_ble_eq_true rfl) tw_325 d_X3_add_62 rfl ?_
    refine aw_vi (v2 := 0) e_19_3 ?_
    refine aw_iconst (v := 1) d_X3_add_65 ic_1 ?_
    refine aw_iadd d_X3_add_66 ?_
    refine aw_vi (v2 := 1) (by decide) ?_
    refine aw_puti (k0 := 3) kc_3 (ws_19 w) (Nat.le_of_ble_eq_true rfl) tw_325 d_X3_add_67 rfl rfl nf_i ?_
    refine aw_iload_n (i := 3) rfl d_X3_add_70 3 rfl ?_
    exact aw_iret rfl d_X3_add_71 ⟨Nat.le_refl _, Nat.le_refl _⟩ ⟨_, rfl, (Or.inl ⟨c1, rfl, rfl⟩)⟩
  · refine aw_aload_n (i := 0) rfl d_X3_add_4 0 rfl ?_
    refine aw_geti (k0 := 2) kc_3 (ws_19 w) (Nat.le_of_ble_eq_true rfl) tw_323 d_X3_add_5 rfl ?_
    refine aw_vi (v2 := 0) e_19_2 ?_
    refine aw_goto (tgt := 15) d_X3_add_8 rfl ?_
    refine aw_istore_n (i := 3) rfl [(0, .ref 19), (1, .int x1), (2, .int x2), (3, .int 0)] d_X3_add_15 (Nat.le_of_ble_eq_true rfl) rfl rfl ?_
    refine aw_iload_n (i := 3) rfl d_X3_add_16 3 rfl ?_
    refine aw_bipush (v := 8) d_X3_add_17 ib_8 ?_
    refine aw_icmp_lt (tgt := 24) d_X3_add_19 rfl (fun _ => ?_) (fun c => absurd c (by decide))
    refine aw_aload_n (i := 0) rfl d_X3_add_24 0 rfl ?_
    refine aw_iconst (v := 1) d_X3_add_25 ic_1 ?_
    refine aw_puti (k0 := 5) kc_3 (ws_19 w) (Nat.le_of_ble_eq_true rfl) tw_328 d_X3_add_26 rfl rfl ⟨rfl, rfl⟩ ?_
    refine aw_iload_n (i := 1) rfl d_X3_add_29 1 rfl ?_
    refine aw_if_eq (tgt := 53) d_X3_add_30 rfl (fun c5 => (by exfalso; grind)) (fun c5 => ?_)
    refine aw_aload_n (i := 0) rfl d_X3_add_33 0 rfl ?_
    refine aw_getr (k0 := 0) kc_3 (ws_19 w) (Nat.le_of_ble_eq_true rfl) tw_321 d_X3_add_34 rfl (wr_19_0 w) ?_
    refine aw_iload_n (i := 3) rfl d_X3_add_37 3 rfl ?_
    refine aw_iload_n (i := 2) rfl d_X3_add_38 2 rfl ?_
    refine aw_iast (ws_85 w) (vin_c (by decide)) d_X3_add_39 ?_
    refine aw_aload_n (i := 0) rfl d_X3_add_40 0 rfl ?_
    refine aw_dup d_X3_add_41 rfl ?_
    refine aw_geti (k0 := 2) kc_3 (ws_19 w) (Nat.le_of_ble_eq_true rfl) tw_323 d_X3_add_42 rfl ?_
    refine aw_vi (v2 := 0) e_19_2 ?_
    refine aw_iconst (v := 1) d_X3_add_45 ic_1 ?_
    refine aw_iadd d_X3_add_46 ?_
    refine aw_vi (v2 := 1) (by decide) ?_
    refine aw_puti (k0 := 2) kc_3 (ws_19 w) (Nat.le_of_ble_eq_true rfl) tw_323 d_X3_add_47 rfl rfl nf_i ?_
    refine aw_goto (tgt := 70) d_X3_add_50 rfl ?_
    refine aw_iload_n (i := 3) rfl d_X3_add_70 3 rfl ?_
    exact aw_iret rfl d_X3_add_71 ⟨Nat.le_refl _, Nat.le_refl _⟩ ⟨_, rfl, (Or.inr ⟨c1, rfl, rfl⟩)⟩
theorem f_X11_good (d : Nat) (h : Hp_) (w : Wf h) (e_19_2 : h_i h 19 2 = 0) (e_19_3 : h_i h 19 3 = 0)  (x1 : Int32) (x2 : Int32) : Ci (m_X11_good (d + 1) 0 0) [.ref 0, .int x1, .int x2] h (fun r h' => (¬ (0 ≤ x2 ∧ x2 ≤ 99999) ∧ r = (-1) ∧ h' = h) ∨ ((0 ≤ x2 ∧ x2 ≤ 99999) ∧ x1 = 0 ∧ r = 0 ∧ h' = h_im (h_im (h_im h 19 5 1) 86 (0 : Int32).toNatClampNeg x2) 19 3 1) ∨ ((0 ≤ x2 ∧ x2 ≤ 99999) ∧ ¬ x1 = 0 ∧ r = 0 ∧ h' = h_im (h_im (h_im h 19 5 1) 85 (0 : Int32).toNatClampNeg x2) 19 2 1)) := by
  refine Ct.of (fun _ _ _ => trivial) rfl (Nat.le_of_ble_eq_true rfl) ?_
  show AW (m_X11_good (d + 1) 0 0) 0 0 0 [(0, .ref 0), (1, .int x1), (2, .int x2)] [] h (kI (fun r h' => (¬ (0 ≤ x2 ∧ x2 ≤ 99999) ∧ r = (-1) ∧ h' = h) ∨ ((0 ≤ x2 ∧ x2 ≤ 99999) ∧ x1 = 0 ∧ r = 0 ∧ h' = h_im (h_im (h_im h 19 5 1) 86 (0 : Int32).toNatClampNeg x2) 19 3 1) ∨ ((0 ≤ x2 ∧ x2 ≤ 99999) ∧ ¬ x1 = 0 ∧ r = 0 ∧ h' = h_im (h_im (h_im h 19 5 1) 85 (0 : Int32).toNatClampNeg x2) 19 2 1)))
  refine aw_iload_n (i := 2) rfl d_X11_good_0 2 rfl ?_
  refine aw_iconst (v := 0) d_X11_good_1 ic_0 ?_
  refine aw_ldcw (v := 99999) d_X11_good_2 tw_1318 ?_
  refine aw_Si [.int x2, .int 0, .int 99999] [] d_X11_good_5 (cS_X11_within (d + 0) 0 0) tw_543 rfl (rr0 (Nat.le_of_ble_eq_true rfl) (Nat.le_of_ble_eq_true rfl)) (Nat.le_of_ble_eq_true rfl) xs0 (s_X11_within _ _ x2 0 99999) (fun _ _ kk => ?_)
  obtain ⟨e1, e2⟩ := kk
  rw [e1, e2]
  refine aw_ifb_eq (tgt := 23) d_X11_good_8 rfl (fun c3 => ?_) (fun c3 => ?_)
  · refine aw_iconst (v := (-1)) d_X11_good_23 ic_m1 ?_
    exact aw_iret rfl d_X11_good_24 ⟨Nat.le_refl _, Nat.le_refl _⟩ ⟨_, rfl, (Or.inl ⟨c3, rfl, rfl⟩)⟩
  · refine aw_aload_n (i := 0) rfl d_X11_good_11 0 rfl ?_
    refine aw_getr (k0 := 11) kc_11 (ws_0 w) (Nat.le_of_ble_eq_true rfl) tw_498 d_X11_good_12 rfl (wr_0_11 w) ?_
    refine aw_iload_n (i := 1) rfl d_X11_good_15 1 rfl ?_
    refine aw_iload_n (i := 2) rfl d_X11_good_16 2 rfl ?_
    refine aw_Vi 19 [.int x1, .int x2] [] d_X11_good_17 (cV_X3_add (d + 0) 0 0) kc_3 (ws_19 w) tw_1319 rfl (rr0 (Nat.le_of_ble_eq_true rfl) (Nat.le_of_ble_eq_true rfl)) (Nat.le_of_ble_eq_true rfl) xs0 (f_X3_add_62 d h w e_19_2 e_19_3 x1 x2) (fun r4 h5 kk => ?_)
    rcases kk with ⟨c6, ez8, ez9⟩ | ⟨c7, ez8, ez9⟩
    · obtain rfl := ez8.symm
      obtain rfl := ez9.symm
      refine aw_goto (tgt := 24) d_X11_good_20 rfl ?_
      exact aw_iret rfl d_X11_good_24 ⟨Nat.le_refl _, Nat.le_refl _⟩ ⟨_, rfl, (Or.inr (Or.inl ⟨c3, c6, rfl, rfl⟩))⟩
    · obtain rfl := ez8.symm
      obtain rfl := ez9.symm
      refine aw_goto (tgt := 24) d_X11_good_20 rfl ?_
      exact aw_iret rfl d_X11_good_24 ⟨Nat.le_refl _, Nat.le_refl _⟩ ⟨_, rfl, (Or.inr (Or.inr ⟨c3, c7, rfl, rfl⟩))⟩
theorem f_X3_setLeast_64 (d : Nat) (h : Hp_) (w : Wf h)   (x1 : Int32) : Ci (m_X3_setLeast (d + 0) 0 0) [.ref 19, .int x1] h (fun r h' => (r = 1 ∧ h' = h_im (h_im h 19 4 x1) 19 5 1)) := by
  refine Ct.of (fun _ _ _ => trivial) rfl (Nat.le_of_ble_eq_true rfl) ?_
  show AW (m_X3_setLeast (d + 0) 0 0) 0 0 0 [(0, .ref 19), (1, .int x1)] [] h (kI (fun r h' => (r = 1 ∧ h' = h_im (h_im h 19 4 x1) 19 5 1)))
  refine aw_aload_n (i := 0) rfl d_X3_setLeast_0 0 rfl ?_
  refine aw_iload_n (i := 1) rfl d_X3_setLeast_1 1 rfl ?_
  refine aw_puti (k0 := 4) kc_3 (ws_19 w) (Nat.le_of_ble_eq_true rfl) tw_327 d_X3_setLeast_2 rfl rfl nf_i ?_
  refine aw_aload_n (i := 0) rfl d_X3_setLeast_5 0 rfl ?_
  refine aw_iconst (v := 1) d_X3_setLeast_6 ic_1 ?_
  refine aw_puti (k0 := 5) kc_3 (ws_19 w) (Nat.le_of_ble_eq_true rfl) tw_328 d_X3_setLeast_7 rfl rfl ⟨rfl, rfl⟩ ?_
  refine aw_iconst (v := 1) d_X3_setLeast_10 ic_1 ?_
  exact aw_zret rfl rfl d_X3_setLeast_11 ⟨Nat.le_refl _, Nat.le_refl _⟩ ⟨_, rfl, ⟨rfl, rfl⟩⟩
theorem f_X11_least (d : Nat) (h : Hp_) (w : Wf h)   (x1 : Int32) : Ci (m_X11_least (d + 1) 0 0) [.ref 0, .int x1] h (fun r h' => (¬ (1 ≤ x1 ∧ x1 ≤ 5) ∧ r = 0 ∧ h' = h) ∨ ((1 ≤ x1 ∧ x1 ≤ 5) ∧ r = 1 ∧ h' = h_im (h_im h 19 4 x1) 19 5 1)) := by
  refine Ct.of (fun _ _ _ => trivial) rfl (Nat.le_of_ble_eq_true rfl) ?_
  show AW (m_X11_least (d + 1) 0 0) 0 0 0 [(0, .ref 0), (1, .int x1)] [] h (kI (fun r h' => (¬ (1 ≤ x1 ∧ x1 ≤ 5) ∧ r = 0 ∧ h' = h) ∨ ((1 ≤ x1 ∧ x1 ≤ 5) ∧ r = 1 ∧ h' = h_im (h_im h 19 4 x1) 19 5 1)))
  refine aw_iload_n (i := 1) rfl d_X11_least_0 1 rfl ?_
  refine aw_iconst (v := 1) d_X11_least_1 ic_1 ?_
  refine aw_iconst (v := 5) d_X11_least_2 ic_5 ?_
  refine aw_Si [.int x1, .int 1, .int 5] [] d_X11_least_3 (cS_X11_within (d + 0) 0 0) tw_543 rfl (rr0 (Nat.le_of_ble_eq_true rfl) (Nat.le_of_ble_eq_true rfl)) (Nat.le_of_ble_eq_true rfl) xs0 (s_X11_within _ _ x1 1 5) (fun _ _ kk => ?_)
  obtain ⟨e1, e2⟩ := kk
  rw [e1, e2]
  refine aw_ifb_eq (tgt := 24) d_X11_least_6 rfl (fun c3 => ?_) (fun c3 => ?_)
  · refine aw_iconst (v := 0) d_X11_least_24 ic_0 ?_
    exact aw_zret rfl rfl d_X11_least_25 ⟨Nat.le_refl _, Nat.le_refl _⟩ ⟨_, rfl, (Or.inl ⟨c3, rfl, rfl⟩)⟩
  · refine aw_aload_n (i := 0) rfl d_X11_least_9 0 rfl ?_
    refine aw_getr (k0 := 11) kc_11 (ws_0 w) (Nat.le_of_ble_eq_true rfl) tw_498 d_X11_least_10 rfl (wr_0_11 w) ?_
    refine aw_iload_n (i := 1) rfl d_X11_least_13 1 rfl ?_
    refine aw_Vi 19 [.int x1] [] d_X11_least_14 (cV_X3_setLeast (d + 0) 0 0) kc_3 (ws_19 w) tw_1327 rfl (rr0 (Nat.le_of_ble_eq_true rfl) (Nat.le_of_ble_eq_true rfl)) (Nat.le_of_ble_eq_true rfl) xs0 (f_X3_setLeast_64 d h w  x1) (fun r4 h5 kk => ?_)
    obtain ⟨ez8, ez9⟩ := kk
    obtain rfl := ez8.symm
    obtain rfl := ez9.symm
    refine aw_if_eq (tgt := 24) d_X11_least_17 rfl (fun c => absurd c (by decide)) (fun _ => ?_)
    refine aw_iconst (v := 1) d_X11_least_20 ic_1 ?_
    refine aw_goto (tgt := 25) d_X11_least_21 rfl ?_
    exact aw_zret rfl rfl d_X11_least_25 ⟨Nat.le_refl _, Nat.le_refl _⟩ ⟨_, rfl, (Or.inr ⟨c3, rfl, rfl⟩)⟩
theorem f_X3_fillGains_66 (d : Nat) (h : Hp_) (w : Wf h) (e_19_2 : h_i h 19 2 = 0)   : Cv (m_X3_fillGains (d + 0) 0 0) [.ref 19] h (fun h' => (h' = h)) := by
  refine Ct.of (fun _ _ _ => trivial) rfl (Nat.le_of_ble_eq_true rfl) ?_
  show AW (m_X3_fillGains (d + 0) 0 0) 0 0 0 [(0, .ref 19)] [] h (kV (fun h' => (h' = h)))
  refine aw_iconst (v := 0) d_X3_fillGains_0 ic_0 ?_
  refine aw_istore_n (i := 1) rfl [(0, .ref 19), (1, .int 0)] d_X3_fillGains_1 (Nat.le_of_ble_eq_true rfl) rfl rfl ?_
  refine aw_iload_n (i := 1) rfl d_X3_fillGains_2 1 rfl ?_
  refine aw_aload_n (i := 0) rfl d_X3_fillGains_3 0 rfl ?_
  refine aw_geti (k0 := 2) kc_3 (ws_19 w) (Nat.le_of_ble_eq_true rfl) tw_323 d_X3_fillGains_4 rfl ?_
  refine aw_vi (v2 := 0) e_19_2 ?_
  refine aw_icmp_ge (tgt := 72) d_X3_fillGains_7 rfl (fun _ => ?_) (fun c => absurd c (by decide))
  exact aw_vret rfl d_X3_fillGains_72 ⟨Nat.le_refl _, Nat.le_refl _⟩ ⟨rfl, rfl⟩
theorem f_X3_fillBest_67 (d : Nat) (h : Hp_) (w : Wf h) (e_19_2 : h_i h 19 2 = 0) (e_19_3 : h_i h 19 3 = 0)   : Cv (m_X3_fillBest (d + 1) 0 0) [.ref 19] h (fun h' => (h' = h_iw h 88 (fl_ (fun _ => 0) (h_i h 88) 2304))) := by
  refine Ct.of (fun _ _ _ => trivial) rfl (Nat.le_of_ble_eq_true rfl) ?_
  show AW (m_X3_fillBest (d + 1) 0 0) 0 0 0 [(0, .ref 19)] [] h (kV (fun h' => (h' = h_iw h 88 (fl_ (fun _ => 0) (h_i h 88) 2304))))
  refine aw_aload_n (i := 0) rfl d_X3_fillBest_0 0 rfl ?_
  refine aw_getr (k0 := 7) kc_3 (ws_19 w) (Nat.le_of_ble_eq_true rfl) tw_330 d_X3_fillBest_1 rfl (wr_19_7 w) ?_
  refine aw_iconst (v := 0) d_X3_fillBest_4 ic_0 ?_
  refine aw_Sv [.ref 88, .int 0] [] d_X3_fillBest_5 (cS_J7_fill_53178 (d + 0) 0 0) tw_1354 rfl (rr0 (Nat.le_of_ble_eq_true rfl) (Nat.le_of_ble_eq_true rfl)) (Nat.le_of_ble_eq_true rfl) xs0 (s_J7_fill d h 88 2304 0 (ws_88 w) (by decide)) (fun h9 kk => ?_)
  subst kk
  refine aw_iconst (v := 1) d_X3_fillBest_8 ic_1 ?_
  refine aw_aload_n (i := 0) rfl d_X3_fillBest_9 0 rfl ?_
  refine aw_geti (k0 := 3) kc_3 (ws_19 w) (Nat.le_of_ble_eq_true rfl) tw_325 d_X3_fillBest_10 rfl ?_
  refine aw_vi (v2 := 0) e_19_3 ?_
  refine aw_ishl d_X3_fillBest_13 ?_
  refine aw_vi (v2 := 1) (by decide) ?_
  refine aw_istore_n (i := 1) rfl [(0, .ref 19), (1, .int 1)] d_X3_fillBest_14 (Nat.le_of_ble_eq_true rfl) rfl rfl ?_
  refine aw_aload_n (i := 0) rfl d_X3_fillBest_15 0 rfl ?_
  refine aw_geti (k0 := 2) kc_3 (ws_19 w) (Nat.le_of_ble_eq_true rfl) tw_323 d_X3_fillBest_16 rfl ?_
  refine aw_vi (v2 := 0) e_19_2 ?_
  refine aw_iconst (v := 1) d_X3_fillBest_19 ic_1 ?_
  refine aw_isub d_X3_fillBest_20 ?_
  refine aw_vi (v2 := (-1)) (by decide) ?_
  refine aw_istore_n (i := 2) rfl [(0, .ref 19), (1, .int 1), (2, .int (-1))] d_X3_fillBest_21 (Nat.le_of_ble_eq_true rfl) rfl rfl ?_
  refine aw_iload_n (i := 2) rfl d_X3_fillBest_22 2 rfl ?_
  refine aw_if_lt (tgt := 119) d_X3_fillBest_23 rfl (fun _ => ?_) (fun c => absurd c (by decide))
  exact aw_vret rfl d_X3_fillBest_119 ⟨Nat.le_refl _, Nat.le_refl _⟩ ⟨rfl, rfl⟩
theorem f_X3_fillFirst_68 (d : Nat) (h : Hp_) (w : Wf h) (e_19_2 : h_i h 19 2 = 0)   : Cv (m_X3_fillFirst (d + 0) 0 0) [.ref 19] h (fun h' => (h' = h)) := by
  refine Ct.of (fun _ _ _ => trivial) rfl (Nat.le_of_ble_eq_true rfl) ?_
  show AW (m_X3_fillFirst (d + 0) 0 0) 0 0 0 [(0, .ref 19)] [] h (kV (fun h' => (h' = h)))
  refine aw_iconst (v := 0) d_X3_fillFirst_0 ic_0 ?_
  refine aw_istore_n (i := 1) rfl [(0, .ref 19), (1, .int 0)] d_X3_fillFirst_1 (Nat.le_of_ble_eq_true rfl) rfl rfl ?_
  refine aw_iconst (v := 0) d_X3_fillFirst_2 ic_0 ?_
  refine aw_istore_n (i := 2) rfl [(0, .ref 19), (1, .int 0), (2, .int 0)] d_X3_fillFirst_3 (Nat.le_of_ble_eq_true rfl) rfl rfl ?_
  refine aw_iload_n (i := 2) rfl d_X3_fillFirst_4 2 rfl ?_
  refine aw_aload_n (i := 0) rfl d_X3_fillFirst_5 0 rfl ?_
  refine aw_geti (k0 := 2) kc_3 (ws_19 w) (Nat.le_of_ble_eq_true rfl) tw_323 d_X3_fillFirst_6 rfl ?_
  refine aw_vi (v2 := 0) e_19_2 ?_
  refine aw_icmp_ge (tgt := 111) d_X3_fillFirst_9 rfl (fun _ => ?_) (fun c => absurd c (by decide))
  exact aw_vret rfl d_X3_fillFirst_111 ⟨Nat.le_refl _, Nat.le_refl _⟩ ⟨rfl, rfl⟩
theorem f_X3_solve_69 (d : Nat) (h : Hp_) (w : Wf h) (e_19_2 : h_i h 19 2 = 0) (e_19_3 : h_i h 19 3 = 0) (e_19_5 : h_i h 19 5 = 1)   : Cv (m_X3_solve (d + 3) 0 0) [.ref 19] h (fun h' => (h' = h_im (h_im (h_iw (h_iw (h_iw h 88 (fl_ (fun _ => 0) (h_i h 88) 2304)) 89 (fl_ (fun _ => 0) (h_i (h_iw h 88 (fl_ (fun _ => 0) (h_i h 88) 2304)) 89) 2304)) 90 (fl_ (fun _ => 0) (h_i (h_iw (h_iw h 88 (fl_ (fun _ => 0) (h_i h 88) 2304)) 89 (fl_ (fun _ => 0) (h_i (h_iw h 88 (fl_ (fun _ => 0) (h_i h 88) 2304)) 89) 2304)) 90) 8)) 89 (0 : Int32).toNatClampNeg (vp_nar .boolean 1)) 19 5 0)) := by
  refine Ct.of (fun _ _ _ => trivial) rfl (Nat.le_of_ble_eq_true rfl) ?_
  show AW (m_X3_solve (d + 3) 0 0) 0 0 0 [(0, .ref 19)] [] h (kV (fun h' => (h' = h_im (h_im (h_iw (h_iw (h_iw h 88 (fl_ (fun _ => 0) (h_i h 88) 2304)) 89 (fl_ (fun _ => 0) (h_i (h_iw h 88 (fl_ (fun _ => 0) (h_i h 88) 2304)) 89) 2304)) 90 (fl_ (fun _ => 0) (h_i (h_iw (h_iw h 88 (fl_ (fun _ => 0) (h_i h 88) 2304)) 89 (fl_ (fun _ => 0) (h_i (h_iw h 88 (fl_ (fun _ => 0) (h_i h 88) 2304)) 89) 2304)) 90) 8)) 89 (0 : Int32).toNatClampNeg (vp_nar .boolean 1)) 19 5 0)))
  refine aw_aload_n (i := 0) rfl d_X3_solve_0 0 rfl ?_
  refine aw_geti (k0 := 5) kc_3 (ws_19 w) (Nat.le_of_ble_eq_true rfl) tw_328 d_X3_solve_1 rfl ?_
  refine aw_vi (v2 := 1) e_19_5 ?_
  refine aw_if_eq (tgt := 28) d_X3_solve_4 rfl (fun c => absurd c (by decide)) (fun _ => ?_)
  refine aw_aload_n (i := 0) rfl d_X3_solve_7 0 rfl ?_
  refine aw_Vv 19 [] [] d_X3_solve_8 (cV_X3_fillGains (d + 0) 0 0) kc_3 (ws_19 w) tw_1343 rfl (rr0 (Nat.le_of_ble_eq_true rfl) (Nat.le_of_ble_eq_true rfl)) (Nat.le_of_ble_eq_true rfl) xs0 (f_X3_fillGains_66 d h w e_19_2 ) (fun h3 kk => ?_)
  have ez9 := kk
  obtain rfl := ez9.symm
  refine aw_aload_n (i := 0) rfl d_X3_solve_11 0 rfl ?_
  refine aw_Vv 19 [] [] d_X3_solve_12 (cV_X3_fillBest (d + 1) 0 0) kc_3 (ws_19 w) tw_1350 rfl (rr0 (Nat.le_of_ble_eq_true rfl) (Nat.le_of_ble_eq_true rfl)) (Nat.le_of_ble_eq_true rfl) xs0 (f_X3_fillBest_67 d h w e_19_2 e_19_3 ) (fun h5 kk => ?_)
  have ez9 := kk
  obtain rfl := ez9.symm
  refine aw_aload_n (i := 0) rfl d_X3_solve_15 0 rfl ?_
  refine aw_Vv 19 [] [] d_X3_solve_16 (cV_X3_fillChoices (d + 2) 0 0) kc_3 (ws_19 w) tw_1364 rfl (rr0 (Nat.le_of_ble_eq_true rfl) (Nat.le_of_ble_eq_true rfl)) (Nat.le_of_ble_eq_true rfl) xs0 (s_X3_fillChoices d (h_iw h 88 (fl_ (fun _ => 0) (h_i h 88) 2304)) w e_19_2 e_19_3 ) (fun h7 kk => ?_)
  have ez9 := kk
  obtain rfl := ez9.symm
  refine aw_aload_n (i := 0) rfl d_X3_solve_19 0 rfl ?_
  refine aw_Vv 19 [] [] d_X3_solve_20 (cV_X3_fillFirst (d + 0) 0 0) kc_3 (ws_19 w) tw_1372 rfl (rr0 (Nat.le_of_ble_eq_true rfl) (Nat.le_of_ble_eq_true rfl)) (Nat.le_of_ble_eq_true rfl) xs0 (f_X3_fillFirst_68 d (h_im (h_iw (h_iw (h_iw h 88 (fl_ (fun _ => 0) (h_i h 88) 2304)) 89 (fl_ (fun _ => 0) (h_i (h_iw h 88 (fl_ (fun _ => 0) (h_i h 88) 2304)) 89) 2304)) 90 (fl_ (fun _ => 0) (h_i (h_iw (h_iw h 88 (fl_ (fun _ => 0) (h_i h 88) 2304)) 89 (fl_ (fun _ => 0) (h_i (h_iw h 88 (fl_ (fun _ => 0) (h_i h 88) 2304)) 89) 2304)) 90) 8)) 89 (0 : Int32).toNatClampNeg (vp_nar .boolean 1)) w e_19_2 ) (fun h9 kk => ?_)
  have ez9 := kk
  obtain rfl := ez9.symm
  refine aw_aload_n (i := 0) rfl d_X3_solve_23 0 rfl ?_
  refine aw_iconst (v := 0) d_X3_solve_24 ic_0 ?_
  refine aw_puti (k0 := 5) kc_3 (ws_19 w) (Nat.le_of_ble_eq_true rfl) tw_328 d_X3_solve_25 rfl rfl ⟨rfl, rfl⟩ ?_
  exact aw_vret rfl d_X3_solve_28 ⟨Nat.le_refl _, Nat.le_refl _⟩ ⟨rfl, rfl⟩
theorem f_X3_bestSum_70 (d : Nat) (h : Hp_) (w : Wf h) (e_19_2 : h_i h 19 2 = 0) (e_19_3 : h_i h 19 3 = 0) (e_19_5 : h_i h 19 5 = 1)   : Ci (m_X3_bestSum (d + 4) 0 0) [.ref 19] h (fun r h' => (r = 0 ∧ h' = h_im (h_im (h_iw (h_iw (h_iw h 88 (fl_ (fun _ => 0) (h_i h 88) 2304)) 89 (fl_ (fun _ => 0) (h_i (h_iw h 88 (fl_ (fun _ => 0) (h_i h 88) 2304)) 89) 2304)) 90 (fl_ (fun _ => 0) (h_i (h_iw (h_iw h 88 (fl_ (fun _ => 0) (h_i h 88) 2304)) 89 (fl_ (fun _ => 0) (h_i (h_iw h 88 (fl_ (fun _ => 0) (h_i h 88) 2304)) 89) 2304)) 90) 8)) 89 (0 : Int32).toNatClampNeg (vp_nar .boolean 1)) 19 5 0)) := by
  refine Ct.of (fun _ _ _ => trivial) rfl (Nat.le_of_ble_eq_true rfl) ?_
  show AW (m_X3_bestSum (d + 4) 0 0) 0 0 0 [(0, .ref 19)] [] h (kI (fun r h' => (r = 0 ∧ h' = h_im (h_im (h_iw (h_iw (h_iw h 88 (fl_ (fun _ => 0) (h_i h 88) 2304)) 89 (fl_ (fun _ => 0) (h_i (h_iw h 88 (fl_ (fun _ => 0) (h_i h 88) 2304)) 89) 2304)) 90 (fl_ (fun _ => 0) (h_i (h_iw (h_iw h 88 (fl_ (fun _ => 0) (h_i h 88) 2304)) 89 (fl_ (fun _ => 0) (h_i (h_iw h 88 (fl_ (fun _ => 0) (h_i h 88) 2304)) 89) 2304)) 90) 8)) 89 (0 : Int32).toNatClampNeg (vp_nar .boolean 1)) 19 5 0)))
  refine aw_aload_n (i := 0) rfl d_X3_bestSum_0 0 rfl ?_
  refine aw_Vv 19 [] [] d_X3_bestSum_1 (cV_X3_solve (d + 3) 0 0) kc_3 (ws_19 w) tw_1339 rfl (rr0 (Nat.le_of_ble_eq_true rfl) (Nat.le_of_ble_eq_true rfl)) (Nat.le_of_ble_eq_true rfl) xs0 (f_X3_solve_69 d h w e_19_2 e_19_3 e_19_5 ) (fun h2 kk => ?_)
  have ez9 := kk
  obtain rfl := ez9.symm
  refine aw_aload_n (i := 0) rfl d_X3_bestSum_4 0 rfl ?_
  refine aw_getr (k0 := 7) kc_3 (ws_19 w) (Nat.le_of_ble_eq_true rfl) tw_330 d_X3_bestSum_5 rfl (wr_19_7 w) ?_
  refine aw_iconst (v := 0) d_X3_bestSum_8 ic_0 ?_
  refine aw_iald (ws_88 w) (vin_c (by decide)) d_X3_bestSum_9 ?_
  refine aw_vi (v2 := 0) rfl ?_
  exact aw_iret rfl d_X3_bestSum_10 ⟨Nat.le_refl _, Nat.le_refl _⟩ ⟨_, rfl, ⟨rfl, rfl⟩⟩
theorem f_X11_joining (d : Nat) (h : Hp_) (w : Wf h) (e_19_2 : h_i h 19 2 = 0) (e_19_3 : h_i h 19 3 = 0) (e_19_5 : h_i h 19 5 = 1)   : Ci (m_X11_joining (d + 5) 0 0) [.ref 0] h (fun r h' => (r = 0 ∧ h' = h_im (h_im (h_iw (h_iw (h_iw h 88 (fl_ (fun _ => 0) (h_i h 88) 2304)) 89 (fl_ (fun _ => 0) (h_i (h_iw h 88 (fl_ (fun _ => 0) (h_i h 88) 2304)) 89) 2304)) 90 (fl_ (fun _ => 0) (h_i (h_iw (h_iw h 88 (fl_ (fun _ => 0) (h_i h 88) 2304)) 89 (fl_ (fun _ => 0) (h_i (h_iw h 88 (fl_ (fun _ => 0) (h_i h 88) 2304)) 89) 2304)) 90) 8)) 89 (0 : Int32).toNatClampNeg (vp_nar .boolean 1)) 19 5 0)) := by
  refine Ct.of (fun _ _ _ => trivial) rfl (Nat.le_of_ble_eq_true rfl) ?_
  show AW (m_X11_joining (d + 5) 0 0) 0 0 0 [(0, .ref 0)] [] h (kI (fun r h' => (r = 0 ∧ h' = h_im (h_im (h_iw (h_iw (h_iw h 88 (fl_ (fun _ => 0) (h_i h 88) 2304)) 89 (fl_ (fun _ => 0) (h_i (h_iw h 88 (fl_ (fun _ => 0) (h_i h 88) 2304)) 89) 2304)) 90 (fl_ (fun _ => 0) (h_i (h_iw (h_iw h 88 (fl_ (fun _ => 0) (h_i h 88) 2304)) 89 (fl_ (fun _ => 0) (h_i (h_iw h 88 (fl_ (fun _ => 0) (h_i h 88) 2304)) 89) 2304)) 90) 8)) 89 (0 : Int32).toNatClampNeg (vp_nar .boolean 1)) 19 5 0)))
  refine aw_aload_n (i := 0) rfl d_X11_joining_0 0 rfl ?_
  refine aw_getr (k0 := 11) kc_11 (ws_0 w) (Nat.le_of_ble_eq_true rfl) tw_498 d_X11_joining_1 rfl (wr_0_11 w) ?_
  refine aw_Vi 19 [] [] d_X11_joining_4 (cV_X3_bestSum (d + 4) 0 0) kc_3 (ws_19 w) tw_1335 rfl (rr0 (Nat.le_of_ble_eq_true rfl) (Nat.le_of_ble_eq_true rfl)) (Nat.le_of_ble_eq_true rfl) xs0 (f_X3_bestSum_70 d h w e_19_2 e_19_3 e_19_5 ) (fun r1 h2 kk => ?_)
  obtain ⟨ez8, ez9⟩ := kk
  obtain rfl := ez8.symm
  obtain rfl := ez9.symm
  exact aw_iret rfl d_X11_joining_7 ⟨Nat.le_refl _, Nat.le_refl _⟩ ⟨_, rfl, ⟨rfl, rfl⟩⟩
theorem f_X3_hasLost_72 (d : Nat) (h : Hp_) (w : Wf h) (e_19_2 : h_i h 19 2 = 0)  (x1 : Int32) : Ci (m_X3_hasLost (d + 0) 0 0) [.ref 19, .int x1] h (fun r h' => (x1 < 0 ∧ r = 0 ∧ h' = h) ∨ (¬ x1 < 0 ∧ r = 0 ∧ h' = h)) := by
  refine Ct.of (fun _ _ _ => trivial) rfl (Nat.le_of_ble_eq_true rfl) ?_
  show AW (m_X3_hasLost (d + 0) 0 0) 0 0 0 [(0, .ref 19), (1, .int x1)] [] h (kI (fun r h' => (x1 < 0 ∧ r = 0 ∧ h' = h) ∨ (¬ x1 < 0 ∧ r = 0 ∧ h' = h)))
  refine aw_iload_n (i := 1) rfl d_X3_hasLost_0 1 rfl ?_
  refine aw_if_lt (tgt := 16) d_X3_hasLost_1 rfl (fun c1 => ?_) (fun c1 => ?_)
  · refine aw_iconst (v := 0) d_X3_hasLost_16 ic_0 ?_
    exact aw_zret rfl rfl d_X3_hasLost_17 ⟨Nat.le_refl _, Nat.le_refl _⟩ ⟨_, rfl, (Or.inl ⟨c1, rfl, rfl⟩)⟩
  · refine aw_iload_n (i := 1) rfl d_X3_hasLost_4 1 rfl ?_
    refine aw_aload_n (i := 0) rfl d_X3_hasLost_5 0 rfl ?_
    refine aw_geti (k0 := 2) kc_3 (ws_19 w) (Nat.le_of_ble_eq_true rfl) tw_323 d_X3_hasLost_6 rfl ?_
    refine aw_vi (v2 := 0) e_19_2 ?_
    refine aw_icmp_ge (tgt := 16) d_X3_hasLost_9 rfl (fun c2 => ?_) (fun c2 => (by exfalso; grind))
    refine aw_iconst (v := 0) d_X3_hasLost_16 ic_0 ?_
    exact aw_zret rfl rfl d_X3_hasLost_17 ⟨Nat.le_refl _, Nat.le_refl _⟩ ⟨_, rfl, (Or.inr ⟨c1, rfl, rfl⟩)⟩
theorem f_X11_joined (d : Nat) (h : Hp_) (w : Wf h) (e_19_2 : h_i h 19 2 = 0)  (x1 : Int32) : Ci (m_X11_joined (d + 1) 0 0) [.ref 0, .int x1] h (fun r h' => (x1 < 0 ∧ r = (-1) ∧ h' = h) ∨ (¬ x1 < 0 ∧ r = (-1) ∧ h' = h)) := by
  refine Ct.of (fun _ _ _ => trivial) rfl (Nat.le_of_ble_eq_true rfl) ?_
  show AW (m_X11_joined (d + 1) 0 0) 0 0 0 [(0, .ref 0), (1, .int x1)] [] h (kI (fun r h' => (x1 < 0 ∧ r = (-1) ∧ h' = h) ∨ (¬ x1 < 0 ∧ r = (-1) ∧ h' = h)))
  refine aw_aload_n (i := 0) rfl d_X11_joined_0 0 rfl ?_
  refine aw_getr (k0 := 11) kc_11 (ws_0 w) (Nat.le_of_ble_eq_true rfl) tw_498 d_X11_joined_1 rfl (wr_0_11 w) ?_
  refine aw_iload_n (i := 1) rfl d_X11_joined_4 1 rfl ?_
  refine aw_Vi 19 [.int x1] [] d_X11_joined_5 (cV_X3_hasLost (d + 0) 0 0) kc_3 (ws_19 w) tw_1380 rfl (rr0 (Nat.le_of_ble_eq_true rfl) (Nat.le_of_ble_eq_true rfl)) (Nat.le_of_ble_eq_true rfl) xs0 (f_X3_hasLost_72 d h w e_19_2 x1) (fun r1 h2 kk => ?_)
  rcases kk with ⟨c3, ez8, ez9⟩ | ⟨c4, ez8, ez9⟩
  · obtain rfl := ez8.symm
    obtain rfl := ez9.symm
    refine aw_if_eq (tgt := 22) d_X11_joined_8 rfl (fun _ => ?_) (fun c => absurd c (by decide))
    refine aw_iconst (v := (-1)) d_X11_joined_22 ic_m1 ?_
    exact aw_iret rfl d_X11_joined_23 ⟨Nat.le_refl _, Nat.le_refl _⟩ ⟨_, rfl, (Or.inl ⟨c3, rfl, rfl⟩)⟩
  · obtain rfl := ez8.symm
    obtain rfl := ez9.symm
    refine aw_if_eq (tgt := 22) d_X11_joined_8 rfl (fun _ => ?_) (fun c => absurd c (by decide))
    refine aw_iconst (v := (-1)) d_X11_joined_22 ic_m1 ?_
    exact aw_iret rfl d_X11_joined_23 ⟨Nat.le_refl _, Nat.le_refl _⟩ ⟨_, rfl, (Or.inr ⟨c4, rfl, rfl⟩)⟩
theorem f_X11_rivals (d : Nat) (h : Hp_) (w : Wf h) (e_19_2 : h_i h 19 2 = 0)  (x1 : Int32) : Ci (m_X11_rivals (d + 1) 0 0) [.ref 0, .int x1] h (fun r h' => (x1 < 0 ∧ r = (-1) ∧ h' = h) ∨ (¬ x1 < 0 ∧ r = (-1) ∧ h' = h)) := by
  refine Ct.of (fun _ _ _ => trivial) rfl (Nat.le_of_ble_eq_true rfl) ?_
  show AW (m_X11_rivals (d + 1) 0 0) 0 0 0 [(0, .ref 0), (1, .int x1)] [] h (kI (fun r h' => (x1 < 0 ∧ r = (-1) ∧ h' = h) ∨ (¬ x1 < 0 ∧ r = (-1) ∧ h' = h)))
  refine aw_aload_n (i := 0) rfl d_X11_rivals_0 0 rfl ?_
  refine aw_getr (k0 := 11) kc_11 (ws_0 w) (Nat.le_of_ble_eq_true rfl) tw_498 d_X11_rivals_1 rfl (wr_0_11 w) ?_
  refine aw_iload_n (i := 1) rfl d_X11_rivals_4 1 rfl ?_
  refine aw_Vi 19 [.int x1] [] d_X11_rivals_5 (cV_X3_hasLost (d + 0) 0 0) kc_3 (ws_19 w) tw_1380 rfl (rr0 (Nat.le_of_ble_eq_true rfl) (Nat.le_of_ble_eq_true rfl)) (Nat.le_of_ble_eq_true rfl) xs0 (f_X3_hasLost_72 d h w e_19_2 x1) (fun r1 h2 kk => ?_)
  rcases kk with ⟨c3, ez8, ez9⟩ | ⟨c4, ez8, ez9⟩
  · obtain rfl := ez8.symm
    obtain rfl := ez9.symm
    refine aw_if_eq (tgt := 22) d_X11_rivals_8 rfl (fun _ => ?_) (fun c => absurd c (by decide))
    refine aw_iconst (v := (-1)) d_X11_rivals_22 ic_m1 ?_
    exact aw_iret rfl d_X11_rivals_23 ⟨Nat.le_refl _, Nat.le_refl _⟩ ⟨_, rfl, (Or.inl ⟨c3, rfl, rfl⟩)⟩
  · obtain rfl := ez8.symm
    obtain rfl := ez9.symm
    refine aw_if_eq (tgt := 22) d_X11_rivals_8 rfl (fun _ => ?_) (fun c => absurd c (by decide))
    refine aw_iconst (v := (-1)) d_X11_rivals_22 ic_m1 ?_
    exact aw_iret rfl d_X11_rivals_23 ⟨Nat.le_refl _, Nat.le_refl _⟩ ⟨_, rfl, (Or.inr ⟨c4, rfl, rfl⟩)⟩
theorem f_X11_sure (d : Nat) (h : Hp_) (w : Wf h) (e_19_2 : h_i h 19 2 = 0)  (x1 : Int32) : Ci (m_X11_sure (d + 1) 0 0) [.ref 0, .int x1] h (fun r h' => (x1 < 0 ∧ r = (-1) ∧ h' = h) ∨ (¬ x1 < 0 ∧ r = (-1) ∧ h' = h)) := by
  refine Ct.of (fun _ _ _ => trivial) rfl (Nat.le_of_ble_eq_true rfl) ?_
  show AW (m_X11_sure (d + 1) 0 0) 0 0 0 [(0, .ref 0), (1, .int x1)] [] h (kI (fun r h' => (x1 < 0 ∧ r = (-1) ∧ h' = h) ∨ (¬ x1 < 0 ∧ r = (-1) ∧ h' = h)))
  refine aw_aload_n (i := 0) rfl d_X11_sure_0 0 rfl ?_
  refine aw_getr (k0 := 11) kc_11 (ws_0 w) (Nat.le_of_ble_eq_true rfl) tw_498 d_X11_sure_1 rfl (wr_0_11 w) ?_
  refine aw_iload_n (i := 1) rfl d_X11_sure_4 1 rfl ?_
  refine aw_Vi 19 [.int x1] [] d_X11_sure_5 (cV_X3_hasLost (d + 0) 0 0) kc_3 (ws_19 w) tw_1380 rfl (rr0 (Nat.le_of_ble_eq_true rfl) (Nat.le_of_ble_eq_true rfl)) (Nat.le_of_ble_eq_true rfl) xs0 (f_X3_hasLost_72 d h w e_19_2 x1) (fun r1 h2 kk => ?_)
  rcases kk with ⟨c3, ez8, ez9⟩ | ⟨c4, ez8, ez9⟩
  · obtain rfl := ez8.symm
    obtain rfl := ez9.symm
    refine aw_if_ne (tgt := 13) d_X11_sure_8 rfl (fun c => absurd c (by decide)) (fun _ => ?_)
    refine aw_iconst (v := (-1)) d_X11_sure_11 ic_m1 ?_
    exact aw_iret rfl d_X11_sure_12 ⟨Nat.le_refl _, Nat.le_refl _⟩ ⟨_, rfl, (Or.inl ⟨c3, rfl, rfl⟩)⟩
  · obtain rfl := ez8.symm
    obtain rfl := ez9.symm
    refine aw_if_ne (tgt := 13) d_X11_sure_8 rfl (fun c => absurd c (by decide)) (fun _ => ?_)
    refine aw_iconst (v := (-1)) d_X11_sure_11 ic_m1 ?_
    exact aw_iret rfl d_X11_sure_12 ⟨Nat.le_refl _, Nat.le_refl _⟩ ⟨_, rfl, (Or.inr ⟨c4, rfl, rfl⟩)⟩
theorem f_X6_addWatch_76 (d : Nat) (h : Hp_) (w : Wf h) (e_20_3 : h_i h 20 3 = 0)  (x1 : Int32) (x2 : Int32) (x3 : Int32) : Ci (m_X6_addWatch (d + 0) 0 0) [.ref 20, .int x1, .int x2, .int x3] h (fun r h' => (r = 0 ∧ h' = h_im (h_im (h_im (h_im h 92 (0 : Int32).toNatClampNeg x1) 93 (0 : Int32).toNatClampNeg x2) 94 (0 : Int32).toNatClampNeg x3) 20 3 1)) := by
  refine Ct.of (fun _ _ _ => trivial) rfl (Nat.le_of_ble_eq_true rfl) ?_
  show AW (m_X6_addWatch (d + 0) 0 0) 0 0 0 [(0, .ref 20), (1, .int x1), (2, .int x2), (3, .int x3)] [] h (kI (fun r h' => (r = 0 ∧ h' = h_im (h_im (h_im (h_im h 92 (0 : Int32).toNatClampNeg x1) 93 (0 : Int32).toNatClampNeg x2) 94 (0 : Int32).toNatClampNeg x3) 20 3 1)))
  refine aw_aload_n (i := 0) rfl d_X6_addWatch_0 0 rfl ?_
  refine aw_geti (k0 := 3) kc_6 (ws_20 w) (Nat.le_of_ble_eq_true rfl) tw_366 d_X6_addWatch_1 rfl ?_
  refine aw_vi (v2 := 0) e_20_3 ?_
  refine aw_bipush (v := 8) d_X6_addWatch_4 ib_8 ?_
  refine aw_icmp_lt (tgt := 11) d_X6_addWatch_6 rfl (fun _ => ?_) (fun c => absurd c (by decide))
  refine aw_aload_n (i := 0) rfl d_X6_addWatch_11 0 rfl ?_
  refine aw_getr (k0 := 0) kc_6 (ws_20 w) (Nat.le_of_ble_eq_true rfl) tw_363 d_X6_addWatch_12 rfl (wr_20_0 w) ?_
  refine aw_aload_n (i := 0) rfl d_X6_addWatch_15 0 rfl ?_
  refine aw_geti (k0 := 3) kc_6 (ws_20 w) (Nat.le_of_ble_eq_true rfl) tw_366 d_X6_addWatch_16 rfl ?_
  refine aw_vi (v2 := 0) e_20_3 ?_
  refine aw_iload_n (i := 1) rfl d_X6_addWatch_19 1 rfl ?_
  refine aw_iast (ws_92 w) (vin_c (by decide)) d_X6_addWatch_20 ?_
  refine aw_aload_n (i := 0) rfl d_X6_addWatch_21 0 rfl ?_
  refine aw_getr (k0 := 1) kc_6 (ws_20 w) (Nat.le_of_ble_eq_true rfl) tw_364 d_X6_addWatch_22 rfl (wr_20_1 w) ?_
  refine aw_aload_n (i := 0) rfl d_X6_addWatch_25 0 rfl ?_
  refine aw_geti (k0 := 3) kc_6 (ws_20 w) (Nat.le_of_ble_eq_true rfl) tw_366 d_X6_addWatch_26 rfl ?_
  refine aw_vi (v2 := 0) e_20_3 ?_
  refine aw_iload_n (i := 2) rfl d_X6_addWatch_29 2 rfl ?_
  refine aw_iast (ws_93 w) (vin_c (by decide)) d_X6_addWatch_30 ?_
  refine aw_aload_n (i := 0) rfl d_X6_addWatch_31 0 rfl ?_
  refine aw_getr (k0 := 2) kc_6 (ws_20 w) (Nat.le_of_ble_eq_true rfl) tw_365 d_X6_addWatch_32 rfl (wr_20_2 w) ?_
  refine aw_aload_n (i := 0) rfl d_X6_addWatch_35 0 rfl ?_
  refine aw_geti (k0 := 3) kc_6 (ws_20 w) (Nat.le_of_ble_eq_true rfl) tw_366 d_X6_addWatch_36 rfl ?_
  refine aw_vi (v2 := 0) e_20_3 ?_
  refine aw_iload_n (i := 3) rfl d_X6_addWatch_39 3 rfl ?_
  refine aw_iast (ws_94 w) (vin_c (by decide)) d_X6_addWatch_40 ?_
  refine aw_aload_n (i := 0) rfl d_X6_addWatch_41 0 rfl ?_
  refine aw_dup d_X6_addWatch_42 rfl ?_
  refine aw_geti (k0 := 3) kc_6 (ws_20 w) (Nat.le_of_ble_eq_true rfl) tw_366 d_X6_addWatch_43 rfl ?_
  refine aw_vi (v2 := 0) e_20_3 ?_
  refine aw_iconst (v := 1) d_X6_addWatch_46 ic_1 ?_
  refine aw_iadd d_X6_addWatch_47 ?_
  refine aw_vi (v2 := 1) (by decide) ?_
  refine aw_puti (k0 := 3) kc_6 (ws_20 w) (Nat.le_of_ble_eq_true rfl) tw_366 d_X6_addWatch_48 rfl rfl nf_i ?_
  refine aw_aload_n (i := 0) rfl d_X6_addWatch_51 0 rfl ?_
  refine aw_geti (k0 := 3) kc_6 (ws_20 w) (Nat.le_of_ble_eq_true rfl) tw_366 d_X6_addWatch_52 rfl ?_
  refine aw_vi (v2 := 1) rfl ?_
  refine aw_iconst (v := 1) d_X6_addWatch_55 ic_1 ?_
  refine aw_isub d_X6_addWatch_56 ?_
  refine aw_vi (v2 := 0) (by decide) ?_
  exact aw_iret rfl d_X6_addWatch_57 ⟨Nat.le_refl _, Nat.le_refl _⟩ ⟨_, rfl, ⟨rfl, rfl⟩⟩
theorem f_X11_watch (d : Nat) (h : Hp_) (w : Wf h) (e_20_3 : h_i h 20 3 = 0)  (x1 : Int32) (x2 : Int32) (x3 : Int32) : Ci (m_X11_watch (d + 1) 0 0) [.ref 0, .int x1, .int x2, .int x3] h (fun r h' => (¬ (0 ≤ x1 ∧ x1 < 16) ∧ r = (-1) ∧ h' = h) ∨ ((0 ≤ x1 ∧ x1 < 16) ∧ ¬ (0 ≤ x2 ∧ x2 ≤ 1440) ∧ r = (-1) ∧ h' = h) ∨ ((0 ≤ x1 ∧ x1 < 16) ∧ (0 ≤ x2 ∧ x2 ≤ 1440) ∧ (x2 ≤ x3 ∧ x3 ≤ 1440) ∧ r = 0 ∧ h' = h_im (h_im (h_im (h_im h 92 (0 : Int32).toNatClampNeg x1) 93 (0 : Int32).toNatClampNeg x2) 94 (0 : Int32).toNatClampNeg x3) 20 3 1) ∨ ((0 ≤ x1 ∧ x1 < 16) ∧ (0 ≤ x2 ∧ x2 ≤ 1440) ∧ ¬ (x2 ≤ x3 ∧ x3 ≤ 1440) ∧ r = (-1) ∧ h' = h)) := by
  refine Ct.of (fun _ _ _ => trivial) rfl (Nat.le_of_ble_eq_true rfl) ?_
  show AW (m_X11_watch (d + 1) 0 0) 0 0 0 [(0, .ref 0), (1, .int x1), (2, .int x2), (3, .int x3)] [] h (kI (fun r h' => (¬ (0 ≤ x1 ∧ x1 < 16) ∧ r = (-1) ∧ h' = h) ∨ ((0 ≤ x1 ∧ x1 < 16) ∧ ¬ (0 ≤ x2 ∧ x2 ≤ 1440) ∧ r = (-1) ∧ h' = h) ∨ ((0 ≤ x1 ∧ x1 < 16) ∧ (0 ≤ x2 ∧ x2 ≤ 1440) ∧ (x2 ≤ x3 ∧ x3 ≤ 1440) ∧ r = 0 ∧ h' = h_im (h_im (h_im (h_im h 92 (0 : Int32).toNatClampNeg x1) 93 (0 : Int32).toNatClampNeg x2) 94 (0 : Int32).toNatClampNeg x3) 20 3 1) ∨ ((0 ≤ x1 ∧ x1 < 16) ∧ (0 ≤ x2 ∧ x2 ≤ 1440) ∧ ¬ (x2 ≤ x3 ∧ x3 ≤ 1440) ∧ r = (-1) ∧ h' = h)))
  refine aw_iload_n (i := 1) rfl d_X11_watch_0 1 rfl ?_
  refine aw_Si [.int x1] [] d_X11_watch_1 (cS_X11_isPlace (d + 0) 0 0) tw_540 rfl (rr0 (Nat.le_of_ble_eq_true rfl) (Nat.le_of_ble_eq_true rfl)) (Nat.le_of_ble_eq_true rfl) xs0 (s_X11_isPlace _ _ x1) (fun _ _ kk => ?_)
  obtain ⟨e1, e2⟩ := kk
  rw [e1, e2]
  refine aw_ifb_eq (tgt := 29) d_X11_watch_4 rfl (fun c3 => ?_) (fun c3 => ?_)
  · refine aw_iconst (v := (-1)) d_X11_watch_29 ic_m1 ?_
    exact aw_iret rfl d_X11_watch_30 ⟨Nat.le_refl _, Nat.le_refl _⟩ ⟨_, rfl, (Or.inl ⟨c3, rfl, rfl⟩)⟩
  · refine aw_iload_n (i := 2) rfl d_X11_watch_7 2 rfl ?_
    refine aw_iconst (v := 0) d_X11_watch_8 ic_0 ?_
    refine aw_sipush (v := 1440) d_X11_watch_9 is_1440 ?_
    refine aw_Si [.int x2, .int 0, .int 1440] [] d_X11_watch_12 (cS_X11_within (d + 0) 0 0) tw_543 rfl (rr0 (Nat.le_of_ble_eq_true rfl) (Nat.le_of_ble_eq_true rfl)) (Nat.le_of_ble_eq_true rfl) xs0 (s_X11_within _ _ x2 0 1440) (fun _ _ kk => ?_)
    obtain ⟨e4, e5⟩ := kk
    rw [e4, e5]
    refine aw_ifb_eq (tgt := 29) d_X11_watch_15 rfl (fun c6 => ?_) (fun c6 => ?_)
    · refine aw_iconst (v := (-1)) d_X11_watch_29 ic_m1 ?_
      exact aw_iret rfl d_X11_watch_30 ⟨Nat.le_refl _, Nat.le_refl _⟩ ⟨_, rfl, (Or.inr (Or.inl ⟨c3, c6, rfl, rfl⟩))⟩
    · refine aw_iload_n (i := 3) rfl d_X11_watch_18 3 rfl ?_
      refine aw_iload_n (i := 2) rfl d_X11_watch_19 2 rfl ?_
      refine aw_sipush (v := 1440) d_X11_watch_20 is_1440 ?_
      refine aw_Si [.int x3, .int x2, .int 1440] [] d_X11_watch_23 (cS_X11_within (d + 0) 0 0) tw_543 rfl (rr0 (Nat.le_of_ble_eq_true rfl) (Nat.le_of_ble_eq_true rfl)) (Nat.le_of_ble_eq_true rfl) xs0 (s_X11_within _ _ x3 x2 1440) (fun _ _ kk => ?_)
      obtain ⟨e7, e8⟩ := kk
      rw [e7, e8]
      refine aw_ifb_ne (tgt := 31) d_X11_watch_26 rfl (fun c9 => ?_) (fun c9 => ?_)
      · refine aw_aload_n (i := 0) rfl d_X11_watch_31 0 rfl ?_
        refine aw_getr (k0 := 12) kc_11 (ws_0 w) (Nat.le_of_ble_eq_true rfl) tw_499 d_X11_watch_32 rfl (wr_0_12 w) ?_
        refine aw_iload_n (i := 1) rfl d_X11_watch_35 1 rfl ?_
        refine aw_iload_n (i := 2) rfl d_X11_watch_36 2 rfl ?_
        refine aw_iload_n (i := 3) rfl d_X11_watch_37 3 rfl ?_
        refine aw_Vi 20 [.int x1, .int x2, .int x3] [] d_X11_watch_38 (cV_X6_addWatch (d + 0) 0 0) kc_6 (ws_20 w) tw_1410 rfl (rr0 (Nat.le_of_ble_eq_true rfl) (Nat.le_of_ble_eq_true rfl)) (Nat.le_of_ble_eq_true rfl) xs0 (f_X6_addWatch_76 d h w e_20_3 x1 x2 x3) (fun r10 h11 kk => ?_)
        obtain ⟨ez8, ez9⟩ := kk
        obtain rfl := ez8.symm
        obtain rfl := ez9.symm
        exact aw_iret rfl d_X11_watch_41 ⟨Nat.le_refl _, Nat.le_refl _⟩ ⟨_, rfl, (Or.inr (Or.inr (Or.inl ⟨c3, c6, c9, rfl, rfl⟩)))⟩
      · refine aw_iconst (v := (-1)) d_X11_watch_29 ic_m1 ?_
        exact aw_iret rfl d_X11_watch_30 ⟨Nat.le_refl _, Nat.le_refl _⟩ ⟨_, rfl, (Or.inr (Or.inr (Or.inr ⟨c3, c6, c9, rfl, rfl⟩)))⟩
theorem f_X11_sees (d : Nat) (h : Hp_) (w : Wf h) (e_12_3 : h_i h 12 3 = 0)  (x1 : Int32) (x2 : Int32) : Ci (m_X11_sees (d + 1) 0 0) [.ref 0, .int x1, .int x2] h (fun r h' => (x1 < 0 ∧ r = (-1) ∧ h' = h) ∨ (¬ x1 < 0 ∧ r = (-1) ∧ h' = h)) := by
  refine Ct.of (fun _ _ _ => trivial) rfl (Nat.le_of_ble_eq_true rfl) ?_
  show AW (m_X11_sees (d + 1) 0 0) 0 0 0 [(0, .ref 0), (1, .int x1), (2, .int x2)] [] h (kI (fun r h' => (x1 < 0 ∧ r = (-1) ∧ h' = h) ∨ (¬ x1 < 0 ∧ r = (-1) ∧ h' = h)))
  refine aw_aload_n (i := 0) rfl d_X11_sees_0 0 rfl ?_
  refine aw_getr (k0 := 3) kc_11 (ws_0 w) (Nat.le_of_ble_eq_true rfl) tw_490 d_X11_sees_1 rfl (wr_0_3 w) ?_
  refine aw_iload_n (i := 1) rfl d_X11_sees_4 1 rfl ?_
  refine aw_Vi 12 [.int x1] [] d_X11_sees_5 (cV_X0_has (d + 0) 0 0) kc_0 (ws_12 w) tw_887 rfl (rr0 (Nat.le_of_ble_eq_true rfl) (Nat.le_of_ble_eq_true rfl)) (Nat.le_of_ble_eq_true rfl) xs0 (f_X0_has_25 d h w e_12_3 x1) (fun r1 h2 kk => ?_)
  rcases kk with ⟨c3, ez8, ez9⟩ | ⟨c4, ez8, ez9⟩
  · obtain rfl := ez8.symm
    obtain rfl := ez9.symm
    refine aw_if_eq (tgt := 22) d_X11_sees_8 rfl (fun _ => ?_) (fun c => absurd c (by decide))
    refine aw_iconst (v := (-1)) d_X11_sees_22 ic_m1 ?_
    exact aw_iret rfl d_X11_sees_23 ⟨Nat.le_refl _, Nat.le_refl _⟩ ⟨_, rfl, (Or.inl ⟨c3, rfl, rfl⟩)⟩
  · obtain rfl := ez8.symm
    obtain rfl := ez9.symm
    refine aw_if_eq (tgt := 22) d_X11_sees_8 rfl (fun _ => ?_) (fun c => absurd c (by decide))
    refine aw_iconst (v := (-1)) d_X11_sees_22 ic_m1 ?_
    exact aw_iret rfl d_X11_sees_23 ⟨Nat.le_refl _, Nat.le_refl _⟩ ⟨_, rfl, (Or.inr ⟨c4, rfl, rfl⟩)⟩
theorem f_X11_canShare_79 (d : Nat) (h : Hp_) (w : Wf h) (e_12_3 : h_i h 12 3 = 0)  (x1 : Int32) : Ci (m_X11_canShare (d + 0) 0 0) [.ref 0, .int x1] h (fun r h' => (x1 ≤ 0 ∧ r = 0 ∧ h' = h) ∨ (¬ x1 ≤ 0 ∧ r = 0 ∧ h' = h)) := by
  refine Ct.of (fun _ _ _ => trivial) rfl (Nat.le_of_ble_eq_true rfl) ?_
  show AW (m_X11_canShare (d + 0) 0 0) 0 0 0 [(0, .ref 0), (1, .int x1)] [] h (kI (fun r h' => (x1 ≤ 0 ∧ r = 0 ∧ h' = h) ∨ (¬ x1 ≤ 0 ∧ r = 0 ∧ h' = h)))
  refine aw_iload_n (i := 1) rfl d_X11_canShare_0 1 rfl ?_
  refine aw_if_le (tgt := 29) d_X11_canShare_1 rfl (fun c1 => ?_) (fun c1 => ?_)
  · refine aw_iconst (v := 0) d_X11_canShare_29 ic_0 ?_
    exact aw_zret rfl rfl d_X11_canShare_30 ⟨Nat.le_refl _, Nat.le_refl _⟩ ⟨_, rfl, (Or.inl ⟨c1, rfl, rfl⟩)⟩
  · refine aw_iload_n (i := 1) rfl d_X11_canShare_4 1 rfl ?_
    refine aw_iconst (v := 1) d_X11_canShare_5 ic_1 ?_
    refine aw_aload_n (i := 0) rfl d_X11_canShare_6 0 rfl ?_
    refine aw_getr (k0 := 3) kc_11 (ws_0 w) (Nat.le_of_ble_eq_true rfl) tw_490 d_X11_canShare_7 rfl (wr_0_3 w) ?_
    refine aw_geti (k0 := 3) kc_0 (ws_12 w) (Nat.le_of_ble_eq_true rfl) tw_108 d_X11_canShare_10 rfl ?_
    refine aw_vi (v2 := 0) e_12_3 ?_
    refine aw_ishl d_X11_canShare_13 ?_
    refine aw_vi (v2 := 1) (by decide) ?_
    refine aw_icmp_ge (tgt := 29) d_X11_canShare_14 rfl (fun c2 => ?_) (fun c2 => (by exfalso; grind))
    refine aw_iconst (v := 0) d_X11_canShare_29 ic_0 ?_
    exact aw_zret rfl rfl d_X11_canShare_30 ⟨Nat.le_refl _, Nat.le_refl _⟩ ⟨_, rfl, (Or.inr ⟨c1, rfl, rfl⟩)⟩
theorem f_X11_safe (d : Nat) (h : Hp_) (w : Wf h) (e_12_3 : h_i h 12 3 = 0)  (x1 : Int32) : Ci (m_X11_safe (d + 1) 0 0) [.ref 0, .int x1] h (fun r h' => (x1 ≤ 0 ∧ r = (-1) ∧ h' = h) ∨ (¬ x1 ≤ 0 ∧ r = (-1) ∧ h' = h)) := by
  refine Ct.of (fun _ _ _ => trivial) rfl (Nat.le_of_ble_eq_true rfl) ?_
  show AW (m_X11_safe (d + 1) 0 0) 0 0 0 [(0, .ref 0), (1, .int x1)] [] h (kI (fun r h' => (x1 ≤ 0 ∧ r = (-1) ∧ h' = h) ∨ (¬ x1 ≤ 0 ∧ r = (-1) ∧ h' = h)))
  refine aw_aload_n (i := 0) rfl d_X11_safe_0 0 rfl ?_
  refine aw_iload_n (i := 1) rfl d_X11_safe_1 1 rfl ?_
  refine aw_Vi 0 [.int x1] [] d_X11_safe_2 (cV_X11_canShare (d + 0) 0 0) kc_11 (ws_0 w) tw_1442 rfl (rr0 (Nat.le_of_ble_eq_true rfl) (Nat.le_of_ble_eq_true rfl)) (Nat.le_of_ble_eq_true rfl) xs0 (f_X11_canShare_79 d h w e_12_3 x1) (fun r1 h2 kk => ?_)
  rcases kk with ⟨c3, ez8, ez9⟩ | ⟨c4, ez8, ez9⟩
  · obtain rfl := ez8.symm
    obtain rfl := ez9.symm
    refine aw_if_eq (tgt := 27) d_X11_safe_5 rfl (fun _ => ?_) (fun c => absurd c (by decide))
    refine aw_iconst (v := (-1)) d_X11_safe_27 ic_m1 ?_
    exact aw_iret rfl d_X11_safe_28 ⟨Nat.le_refl _, Nat.le_refl _⟩ ⟨_, rfl, (Or.inl ⟨c3, rfl, rfl⟩)⟩
  · obtain rfl := ez8.symm
    obtain rfl := ez9.symm
    refine aw_if_eq (tgt := 27) d_X11_safe_5 rfl (fun _ => ?_) (fun c => absurd c (by decide))
    refine aw_iconst (v := (-1)) d_X11_safe_27 ic_m1 ?_
    exact aw_iret rfl d_X11_safe_28 ⟨Nat.le_refl _, Nat.le_refl _⟩ ⟨_, rfl, (Or.inr ⟨c4, rfl, rfl⟩)⟩
theorem f_X11_share (d : Nat) (h : Hp_) (w : Wf h) (e_12_3 : h_i h 12 3 = 0)  (x1 : Int32) (x2 : Int32) : Ci (m_X11_share (d + 1) 0 0) [.ref 0, .int x1, .int x2] h (fun r h' => (x1 ≤ 0 ∧ r = (-1) ∧ h' = h) ∨ (¬ x1 ≤ 0 ∧ r = (-1) ∧ h' = h)) := by
  refine Ct.of (fun _ _ _ => trivial) rfl (Nat.le_of_ble_eq_true rfl) ?_
  show AW (m_X11_share (d + 1) 0 0) 0 0 0 [(0, .ref 0), (1, .int x1), (2, .int x2)] [] h (kI (fun r h' => (x1 ≤ 0 ∧ r = (-1) ∧ h' = h) ∨ (¬ x1 ≤ 0 ∧ r = (-1) ∧ h' = h)))
  refine aw_aload_n (i := 0) rfl d_X11_share_0 0 rfl ?_
  refine aw_iload_n (i := 1) rfl d_X11_share_1 1 rfl ?_
  refine aw_Vi 0 [.int x1] [] d_X11_share_2 (cV_X11_canShare (d + 0) 0 0) kc_11 (ws_0 w) tw_1442 rfl (rr0 (Nat.le_of_ble_eq_true rfl) (Nat.le_of_ble_eq_true rfl)) (Nat.le_of_ble_eq_true rfl) xs0 (f_X11_canShare_79 d h w e_12_3 x1) (fun r1 h2 kk => ?_)
  rcases kk with ⟨c3, ez8, ez9⟩ | ⟨c4, ez8, ez9⟩
  · obtain rfl := ez8.symm
    obtain rfl := ez9.symm
    refine aw_if_eq (tgt := 27) d_X11_share_5 rfl (fun _ => ?_) (fun c => absurd c (by decide))
    refine aw_iconst (v := (-1)) d_X11_share_27 ic_m1 ?_
    exact aw_iret rfl d_X11_share_28 ⟨Nat.le_refl _, Nat.le_refl _⟩ ⟨_, rfl, (Or.inl ⟨c3, rfl, rfl⟩)⟩
  · obtain rfl := ez8.symm
    obtain rfl := ez9.symm
    refine aw_if_eq (tgt := 27) d_X11_share_5 rfl (fun _ => ?_) (fun c => absurd c (by decide))
    refine aw_iconst (v := (-1)) d_X11_share_27 ic_m1 ?_
    exact aw_iret rfl d_X11_share_28 ⟨Nat.le_refl _, Nat.le_refl _⟩ ⟨_, rfl, (Or.inr ⟨c4, rfl, rfl⟩)⟩
theorem f_X6_addFair_82 (d : Nat) (h : Hp_) (w : Wf h) (e_20_16 : h_i h 20 16 = 0)  (x1 : Int32) (x2 : Int32) (x3 : Int32) : Ci (m_X6_addFair (d + 0) 0 0) [.ref 20, .int x1, .int x2, .int x3] h (fun r h' => (r = 0 ∧ h' = h_im (h_im (h_im (h_im h 98 (0 : Int32).toNatClampNeg x1) 99 (0 : Int32).toNatClampNeg x2) 100 (0 : Int32).toNatClampNeg x3) 20 16 1)) := by
  refine Ct.of (fun _ _ _ => trivial) rfl (Nat.le_of_ble_eq_true rfl) ?_
  show AW (m_X6_addFair (d + 0) 0 0) 0 0 0 [(0, .ref 20), (1, .int x1), (2, .int x2), (3, .int x3)] [] h (kI (fun r h' => (r = 0 ∧ h' = h_im (h_im (h_im (h_im h 98 (0 : Int32).toNatClampNeg x1) 99 (0 : Int32).toNatClampNeg x2) 100 (0 : Int32).toNatClampNeg x3) 20 16 1)))
  refine aw_aload_n (i := 0) rfl d_X6_addFair_0 0 rfl ?_
  refine aw_geti (k0 := 16) kc_6 (ws_20 w) (Nat.le_of_ble_eq_true rfl) tw_380 d_X6_addFair_1 rfl ?_
  refine aw_vi (v2 := 0) e_20_16 ?_
  refine aw_iconst (v := 4) d_X6_addFair_4 ic_4 ?_
  refine aw_icmp_lt (tgt := 10) d_X6_addFair_5 rfl (fun _ => ?_) (fun c => absurd c (by decide))
  refine aw_aload_n (i := 0) rfl d_X6_addFair_10 0 rfl ?_
  refine aw_getr (k0 := 13) kc_6 (ws_20 w) (Nat.le_of_ble_eq_true rfl) tw_377 d_X6_addFair_11 rfl (wr_20_13 w) ?_
  refine aw_aload_n (i := 0) rfl d_X6_addFair_14 0 rfl ?_
  refine aw_geti (k0 := 16) kc_6 (ws_20 w) (Nat.le_of_ble_eq_true rfl) tw_380 d_X6_addFair_15 rfl ?_
  refine aw_vi (v2 := 0) e_20_16 ?_
  refine aw_iload_n (i := 1) rfl d_X6_addFair_18 1 rfl ?_
  refine aw_iast (ws_98 w) (vin_c (by decide)) d_X6_addFair_19 ?_
  refine aw_aload_n (i := 0) rfl d_X6_addFair_20 0 rfl ?_
  refine aw_getr (k0 := 14) kc_6 (ws_20 w) (Nat.le_of_ble_eq_true rfl) tw_378 d_X6_addFair_21 rfl (wr_20_14 w) ?_
  refine aw_aload_n (i := 0) rfl d_X6_addFair_24 0 rfl ?_
  refine aw_geti (k0 := 16) kc_6 (ws_20 w) (Nat.le_of_ble_eq_true rfl) tw_380 d_X6_addFair_25 rfl ?_
  refine aw_vi (v2 := 0) e_20_16 ?_
  refine aw_iload_n (i := 2) rfl d_X6_addFair_28 2 rfl ?_
  refine aw_iast (ws_99 w) (vin_c (by decide)) d_X6_addFair_29 ?_
  refine aw_aload_n (i := 0) rfl d_X6_addFair_30 0 rfl ?_
  refine aw_getr (k0 := 15) kc_6 (ws_20 w) (Nat.le_of_ble_eq_true rfl) tw_379 d_X6_addFair_31 rfl (wr_20_15 w) ?_
  refine aw_aload_n (i := 0) rfl d_X6_addFair_34 0 rfl ?_
  refine aw_geti (k0 := 16) kc_6 (ws_20 w) (Nat.le_of_ble_eq_true rfl) tw_380 d_X6_addFair_35 rfl ?_
  refine aw_vi (v2 := 0) e_20_16 ?_
  refine aw_iload_n (i := 3) rfl d_X6_addFair_38 3 rfl ?_
  refine aw_iast (ws_100 w) (vin_c (by decide)) d_X6_addFair_39 ?_
  refine aw_aload_n (i := 0) rfl d_X6_addFair_40 0 rfl ?_
  refine aw_dup d_X6_addFair_41 rfl ?_
  refine aw_geti (k0 := 16) kc_6 (ws_20 w) (Nat.le_of_ble_eq_true rfl) tw_380 d_X6_addFair_42 rfl ?_
  refine aw_vi (v2 := 0) e_20_16 ?_
  refine aw_iconst (v := 1) d_X6_addFair_45 ic_1 ?_
  refine aw_iadd d_X6_addFair_46 ?_
  refine aw_vi (v2 := 1) (by decide) ?_
  refine aw_puti (k0 := 16) kc_6 (ws_20 w) (Nat.le_of_ble_eq_true rfl) tw_380 d_X6_addFair_47 rfl rfl nf_i ?_
  refine aw_aload_n (i := 0) rfl d_X6_addFair_50 0 rfl ?_
  refine aw_geti (k0 := 16) kc_6 (ws_20 w) (Nat.le_of_ble_eq_true rfl) tw_380 d_X6_addFair_51 rfl ?_
  refine aw_vi (v2 := 1) rfl ?_
  refine aw_iconst (v := 1) d_X6_addFair_54 ic_1 ?_
  refine aw_isub d_X6_addFair_55 ?_
  refine aw_vi (v2 := 0) (by decide) ?_
  exact aw_iret rfl d_X6_addFair_56 ⟨Nat.le_refl _, Nat.le_refl _⟩ ⟨_, rfl, ⟨rfl, rfl⟩⟩
theorem f_X11_fair (d : Nat) (h : Hp_) (w : Wf h) (e_20_16 : h_i h 20 16 = 0)  (x1 : Int32) (x2 : Int32) (x3 : Int32) : Ci (m_X11_fair (d + 1) 0 0) [.ref 0, .int x1, .int x2, .int x3] h (fun r h' => (¬ (0 ≤ x1 ∧ x1 < 16) ∧ r = (-1) ∧ h' = h) ∨ ((0 ≤ x1 ∧ x1 < 16) ∧ ¬ (0 ≤ x2 ∧ x2 ≤ 30000) ∧ r = (-1) ∧ h' = h) ∨ ((0 ≤ x1 ∧ x1 < 16) ∧ (0 ≤ x2 ∧ x2 ≤ 30000) ∧ (1 ≤ x3 ∧ x3 ≤ 3) ∧ r = 0 ∧ h' = h_im (h_im (h_im (h_im h 98 (0 : Int32).toNatClampNeg x1) 99 (0 : Int32).toNatClampNeg x2) 100 (0 : Int32).toNatClampNeg x3) 20 16 1) ∨ ((0 ≤ x1 ∧ x1 < 16) ∧ (0 ≤ x2 ∧ x2 ≤ 30000) ∧ ¬ (1 ≤ x3 ∧ x3 ≤ 3) ∧ r = (-1) ∧ h' = h)) := by
  refine Ct.of (fun _ _ _ => trivial) rfl (Nat.le_of_ble_eq_true rfl) ?_
  show AW (m_X11_fair (d + 1) 0 0) 0 0 0 [(0, .ref 0), (1, .int x1), (2, .int x2), (3, .int x3)] [] h (kI (fun r h' => (¬ (0 ≤ x1 ∧ x1 < 16) ∧ r = (-1) ∧ h' = h) ∨ ((0 ≤ x1 ∧ x1 < 16) ∧ ¬ (0 ≤ x2 ∧ x2 ≤ 30000) ∧ r = (-1) ∧ h' = h) ∨ ((0 ≤ x1 ∧ x1 < 16) ∧ (0 ≤ x2 ∧ x2 ≤ 30000) ∧ (1 ≤ x3 ∧ x3 ≤ 3) ∧ r = 0 ∧ h' = h_im (h_im (h_im (h_im h 98 (0 : Int32).toNatClampNeg x1) 99 (0 : Int32).toNatClampNeg x2) 100 (0 : Int32).toNatClampNeg x3) 20 16 1) ∨ ((0 ≤ x1 ∧ x1 < 16) ∧ (0 ≤ x2 ∧ x2 ≤ 30000) ∧ ¬ (1 ≤ x3 ∧ x3 ≤ 3) ∧ r = (-1) ∧ h' = h)))
  refine aw_iload_n (i := 1) rfl d_X11_fair_0 1 rfl ?_
  refine aw_Si [.int x1] [] d_X11_fair_1 (cS_X11_isPlace (d + 0) 0 0) tw_540 rfl (rr0 (Nat.le_of_ble_eq_true rfl) (Nat.le_of_ble_eq_true rfl)) (Nat.le_of_ble_eq_true rfl) xs0 (s_X11_isPlace _ _ x1) (fun _ _ kk => ?_)
  obtain ⟨e1, e2⟩ := kk
  rw [e1, e2]
  refine aw_ifb_eq (tgt := 27) d_X11_fair_4 rfl (fun c3 => ?_) (fun c3 => ?_)
  · refine aw_iconst (v := (-1)) d_X11_fair_27 ic_m1 ?_
    exact aw_iret rfl d_X11_fair_28 ⟨Nat.le_refl _, Nat.le_refl _⟩ ⟨_, rfl, (Or.inl ⟨c3, rfl, rfl⟩)⟩
  · refine aw_iload_n (i := 2) rfl d_X11_fair_7 2 rfl ?_
    refine aw_iconst (v := 0) d_X11_fair_8 ic_0 ?_
    refine aw_sipush (v := 30000) d_X11_fair_9 is_30000 ?_
    refine aw_Si [.int x2, .int 0, .int 30000] [] d_X11_fair_12 (cS_X11_within (d + 0) 0 0) tw_543 rfl (rr0 (Nat.le_of_ble_eq_true rfl) (Nat.le_of_ble_eq_true rfl)) (Nat.le_of_ble_eq_true rfl) xs0 (s_X11_within _ _ x2 0 30000) (fun _ _ kk => ?_)
    obtain ⟨e4, e5⟩ := kk
    rw [e4, e5]
    refine aw_ifb_eq (tgt := 27) d_X11_fair_15 rfl (fun c6 => ?_) (fun c6 => ?_)
    · refine aw_iconst (v := (-1)) d_X11_fair_27 ic_m1 ?_
      exact aw_iret rfl d_X11_fair_28 ⟨Nat.le_refl _, Nat.le_refl _⟩ ⟨_, rfl, (Or.inr (Or.inl ⟨c3, c6, rfl, rfl⟩))⟩
    · refine aw_iload_n (i := 3) rfl d_X11_fair_18 3 rfl ?_
      refine aw_iconst (v := 1) d_X11_fair_19 ic_1 ?_
      refine aw_iconst (v := 3) d_X11_fair_20 ic_3 ?_
      refine aw_Si [.int x3, .int 1, .int 3] [] d_X11_fair_21 (cS_X11_within (d + 0) 0 0) tw_543 rfl (rr0 (Nat.le_of_ble_eq_true rfl) (Nat.le_of_ble_eq_true rfl)) (Nat.le_of_ble_eq_true rfl) xs0 (s_X11_within _ _ x3 1 3) (fun _ _ kk => ?_)
      obtain ⟨e7, e8⟩ := kk
      rw [e7, e8]
      refine aw_ifb_ne (tgt := 29) d_X11_fair_24 rfl (fun c9 => ?_) (fun c9 => ?_)
      · refine aw_aload_n (i := 0) rfl d_X11_fair_29 0 rfl ?_
        refine aw_getr (k0 := 12) kc_11 (ws_0 w) (Nat.le_of_ble_eq_true rfl) tw_499 d_X11_fair_30 rfl (wr_0_12 w) ?_
        refine aw_iload_n (i := 1) rfl d_X11_fair_33 1 rfl ?_
        refine aw_iload_n (i := 2) rfl d_X11_fair_34 2 rfl ?_
        refine aw_iload_n (i := 3) rfl d_X11_fair_35 3 rfl ?_
        refine aw_Vi 20 [.int x1, .int x2, .int x3] [] d_X11_fair_36 (cV_X6_addFair (d + 0) 0 0) kc_6 (ws_20 w) tw_1484 rfl (rr0 (Nat.le_of_ble_eq_true rfl) (Nat.le_of_ble_eq_true rfl)) (Nat.le_of_ble_eq_true rfl) xs0 (f_X6_addFair_82 d h w e_20_16 x1 x2 x3) (fun r10 h11 kk => ?_)
        obtain ⟨ez8, ez9⟩ := kk
        obtain rfl := ez8.symm
        obtain rfl := ez9.symm
        exact aw_iret rfl d_X11_fair_39 ⟨Nat.le_refl _, Nat.le_refl _⟩ ⟨_, rfl, (Or.inr (Or.inr (Or.inl ⟨c3, c6, c9, rfl, rfl⟩)))⟩
      · refine aw_iconst (v := (-1)) d_X11_fair_27 ic_m1 ?_
        exact aw_iret rfl d_X11_fair_28 ⟨Nat.le_refl _, Nat.le_refl _⟩ ⟨_, rfl, (Or.inr (Or.inr (Or.inr ⟨c3, c6, c9, rfl, rfl⟩)))⟩
theorem f_X6_allWanted_84 (d : Nat) (h : Hp_) (w : Wf h) (e_20_16 : h_i h 20 16 = 0)   : Ci (m_X6_allWanted (d + 0) 0 0) [.ref 20] h (fun r h' => (r = 0 ∧ h' = h)) := by
  refine Ct.of (fun _ _ _ => trivial) rfl (Nat.le_of_ble_eq_true rfl) ?_
  show AW (m_X6_allWanted (d + 0) 0 0) 0 0 0 [(0, .ref 20)] [] h (kI (fun r h' => (r = 0 ∧ h' = h)))
  refine aw_iconst (v := 0) d_X6_allWanted_0 ic_0 ?_
  refine aw_istore_n (i := 1) rfl [(0, .ref 20), (1, .int 0)] d_X6_allWanted_1 (Nat.le_of_ble_eq_true rfl) rfl rfl ?_
  refine aw_iconst (v := 0) d_X6_allWanted_2 ic_0 ?_
  refine aw_istore_n (i := 2) rfl [(0, .ref 20), (1, .int 0), (2, .int 0)] d_X6_allWanted_3 (Nat.le_of_ble_eq_true rfl) rfl rfl ?_
  refine aw_iload_n (i := 2) rfl d_X6_allWanted_4 2 rfl ?_
  refine aw_aload_n (i := 0) rfl d_X6_allWanted_5 0 rfl ?_
  refine aw_geti (k0 := 16) kc_6 (ws_20 w) (Nat.le_of_ble_eq_true rfl) tw_380 d_X6_allWanted_6 rfl ?_
  refine aw_vi (v2 := 0) e_20_16 ?_
  refine aw_icmp_ge (tgt := 31) d_X6_allWanted_9 rfl (fun _ => ?_) (fun c => absurd c (by decide))
  refine aw_iload_n (i := 1) rfl d_X6_allWanted_31 1 rfl ?_
  exact aw_iret rfl d_X6_allWanted_32 ⟨Nat.le_refl _, Nat.le_refl _⟩ ⟨_, rfl, ⟨rfl, rfl⟩⟩
theorem f_X6_traceLending_85 (d : Nat) (h : Hp_)    : Cv (m_X6_traceLending (d + 0) 0 0) [.ref 20, .int 0, .int 0] h (fun h' => (h' = h)) := by
  refine Ct.of (fun _ _ _ => trivial) rfl (Nat.le_of_ble_eq_true rfl) ?_
  show AW (m_X6_traceLending (d + 0) 0 0) 0 0 0 [(0, .ref 20), (1, .int 0), (2, .int 0)] [] h (kV (fun h' => (h' = h)))
  refine aw_iload_n (i := 2) rfl d_X6_traceLending_0 2 rfl ?_
  refine aw_istore_n (i := 3) rfl [(0, .ref 20), (1, .int 0), (2, .int 0), (3, .int 0)] d_X6_traceLending_1 (Nat.le_of_ble_eq_true rfl) rfl rfl ?_
  refine aw_iconst (v := 0) d_X6_traceLending_2 ic_0 ?_
  refine aw_istore [(0, .ref 20), (1, .int 0), (2, .int 0), (3, .int 0), (4, .int 0)] d_X6_traceLending_3 (Nat.le_of_ble_eq_true rfl) rfl rfl ?_
  refine aw_iload d_X6_traceLending_5 4 rfl ?_
  refine aw_iload_n (i := 1) rfl d_X6_traceLending_7 1 rfl ?_
  refine aw_icmp_ge (tgt := 124) d_X6_traceLending_8 rfl (fun _ => ?_) (fun c => absurd c (by decide))
  exact aw_vret rfl d_X6_traceLending_124 ⟨Nat.le_refl _, Nat.le_refl _⟩ ⟨rfl, rfl⟩
theorem f_X6_lend_86 (d : Nat) (h : Hp_) (w : Wf h) (e_20_16 : h_i h 20 16 = 0)   : Ci (m_X6_lend (d + 1) 0 0) [.ref 20, .int 0] h (fun r h' => (r = 1 ∧ h' = h_im h 102 (0 : Int32).toNatClampNeg 0)) := by
  refine Ct.of (fun _ _ _ => trivial) rfl (Nat.le_of_ble_eq_true rfl) ?_
  show AW (m_X6_lend (d + 1) 0 0) 0 0 0 [(0, .ref 20), (1, .int 0)] [] h (kI (fun r h' => (r = 1 ∧ h' = h_im h 102 (0 : Int32).toNatClampNeg 0)))
  refine aw_iload_n (i := 1) rfl d_X6_lend_0 1 rfl ?_
  refine aw_bipush (v := 12) d_X6_lend_1 ib_12 ?_
  refine aw_mmin d_X6_lend_3 tw_1468 (show 1 ≤ d + 1 by omega) (Nat.le_trans (Nat.le_of_ble_eq_true rfl) (show 100 ≤ 100 * (d + 1) by omega)) ⟨Nat.le_refl _, Nat.le_refl _⟩ ?_
  refine aw_vi (v2 := 0) (by decide) ?_
  refine aw_istore_n (i := 2) rfl [(0, .ref 20), (1, .int 0), (2, .int 0)] d_X6_lend_6 (Nat.le_of_ble_eq_true rfl) rfl rfl ?_
  refine aw_aload_n (i := 0) rfl d_X6_lend_7 0 rfl ?_
  refine aw_Vi 20 [] [] d_X6_lend_8 (cV_X6_allWanted (d + 0) 0 0) kc_6 (ws_20 w) tw_1520 rfl (rr0 (Nat.le_of_ble_eq_true rfl) (Nat.le_of_ble_eq_true rfl)) (Nat.le_of_ble_eq_true rfl) xs0 (f_X6_allWanted_84 d h w e_20_16 ) (fun r1 h2 kk => ?_)
  obtain ⟨ez8, ez9⟩ := kk
  obtain rfl := ez8.symm
  obtain rfl := ez9.symm
  refine aw_istore_n (i := 3) rfl [(0, .ref 20), (1, .int 0), (2, .int 0), (3, .int 0)] d_X6_lend_11 (Nat.le_of_ble_eq_true rfl) rfl rfl ?_
  refine aw_iconst (v := 0) d_X6_lend_12 ic_0 ?_
  refine aw_istore [(0, .ref 20), (1, .int 0), (2, .int 0), (3, .int 0), (4, .int 0)] d_X6_lend_13 (Nat.le_of_ble_eq_true rfl) rfl rfl ?_
  refine aw_iload d_X6_lend_15 4 rfl ?_
  refine aw_iload_n (i := 3) rfl d_X6_lend_17 3 rfl ?_
  refine aw_icmp_gt (tgt := 51) d_X6_lend_18 rfl (fun c => absurd c (by decide)) (fun _ => ?_)
  refine aw_aload_n (i := 0) rfl d_X6_lend_21 0 rfl ?_
  refine aw_getr (k0 := 18) kc_6 (ws_20 w) (Nat.le_of_ble_eq_true rfl) tw_383 d_X6_lend_22 rfl (wr_20_18 w) ?_
  refine aw_iload_n (i := 2) rfl d_X6_lend_25 2 rfl ?_
  refine aw_sipush (v := 256) d_X6_lend_26 is_256 ?_
  refine aw_imul d_X6_lend_29 ?_
  refine aw_vi (v2 := 0) (by decide) ?_
  refine aw_iload d_X6_lend_30 4 rfl ?_
  refine aw_iadd d_X6_lend_32 ?_
  refine aw_vi (v2 := 0) (by decide) ?_
  refine aw_iload d_X6_lend_33 4 rfl ?_
  refine aw_if_ne (tgt := 42) d_X6_lend_35 rfl (fun c => absurd c (by decide)) (fun _ => ?_)
  refine aw_iconst (v := 0) d_X6_lend_38 ic_0 ?_
  refine aw_goto (tgt := 44) d_X6_lend_39 rfl ?_
  refine aw_iast (ws_102 w) (vin_c (by decide)) d_X6_lend_44 ?_
  refine aw_iinc (v := 1) [(0, .ref 20), (1, .int 0), (2, .int 0), (3, .int 0), (4, .int 1)] d_X6_lend_45 4 rfl (by decide) (Nat.le_of_ble_eq_true rfl) rfl rfl ?_
  refine aw_goto (tgt := 15) d_X6_lend_48 rfl ?_
  refine aw_iload d_X6_lend_15 4 rfl ?_
  refine aw_iload_n (i := 3) rfl d_X6_lend_17 3 rfl ?_
  refine aw_icmp_gt (tgt := 51) d_X6_lend_18 rfl (fun _ => ?_) (fun c => absurd c (by decide))
  refine aw_iload_n (i := 2) rfl d_X6_lend_51 2 rfl ?_
  refine aw_iconst (v := 1) d_X6_lend_52 ic_1 ?_
  refine aw_isub d_X6_lend_53 ?_
  refine aw_vi (v2 := (-1)) (by decide) ?_
  refine aw_istore [(0, .ref 20), (1, .int 0), (2, .int 0), (3, .int 0), (4, .int (-1))] d_X6_lend_54 (Nat.le_of_ble_eq_true rfl) rfl rfl ?_
  refine aw_iload d_X6_lend_56 4 rfl ?_
  refine aw_if_lt (tgt := 104) d_X6_lend_58 rfl (fun _ => ?_) (fun c => absurd c (by decide))
  refine aw_aload_n (i := 0) rfl d_X6_lend_104 0 rfl ?_
  refine aw_getr (k0 := 18) kc_6 (ws_20 w) (Nat.le_of_ble_eq_true rfl) tw_383 d_X6_lend_105 rfl (wr_20_18 w) ?_
  refine aw_iload_n (i := 3) rfl d_X6_lend_108 3 rfl ?_
  refine aw_iald (ws_102 w) (vin_c (by decide)) d_X6_lend_109 ?_
  refine aw_vi (v2 := 0) rfl ?_
  refine aw_ldc (v := 1000000000) d_X6_lend_110 tw_1524 ?_
  refine aw_icmp_lt (tgt := 117) d_X6_lend_112 rfl (fun _ => ?_) (fun c => absurd c (by decide))
  refine aw_aload_n (i := 0) rfl d_X6_lend_117 0 rfl ?_
  refine aw_iload_n (i := 2) rfl d_X6_lend_118 2 rfl ?_
  refine aw_iload_n (i := 3) rfl d_X6_lend_119 3 rfl ?_
  refine aw_Vv 20 [.int 0, .int 0] [] d_X6_lend_120 (cV_X6_traceLending (d + 0) 0 0) kc_6 (ws_20 w) tw_1533 rfl (rr0 (Nat.le_of_ble_eq_true rfl) (Nat.le_of_ble_eq_true rfl)) (Nat.le_of_ble_eq_true rfl) xs0 (f_X6_traceLending_85 d _  ) (fun h9 kk => ?_)
  have ez9 := kk
  obtain rfl := ez9.symm
  refine aw_iconst (v := 1) d_X6_lend_123 ic_1 ?_
  exact aw_zret rfl rfl d_X6_lend_124 ⟨Nat.le_refl _, Nat.le_refl _⟩ ⟨_, rfl, ⟨rfl, rfl⟩⟩
theorem f_X11_findLending_87 (d : Nat) (h : Hp_) (w : Wf h) (e_0_7 : h_i h 0 7 = 0) (e_20_16 : h_i h 20 16 = 0)   : Ci (m_X11_findLending (d + 2) 0 0) [.ref 0] h (fun r h' => (r = 1 ∧ h' = h_im h 102 (0 : Int32).toNatClampNeg 0)) := by
  refine Ct.of (fun _ _ _ => trivial) rfl (Nat.le_of_ble_eq_true rfl) ?_
  show AW (m_X11_findLending (d + 2) 0 0) 0 0 0 [(0, .ref 0)] [] h (kI (fun r h' => (r = 1 ∧ h' = h_im h 102 (0 : Int32).toNatClampNeg 0)))
  refine aw_iconst (v := 0) d_X11_findLending_0 ic_0 ?_
  refine aw_istore_n (i := 1) rfl [(0, .ref 0), (1, .int 0)] d_X11_findLending_1 (Nat.le_of_ble_eq_true rfl) rfl rfl ?_
  refine aw_iload_n (i := 1) rfl d_X11_findLending_2 1 rfl ?_
  refine aw_aload_n (i := 0) rfl d_X11_findLending_3 0 rfl ?_
  refine aw_geti (k0 := 7) kc_11 (ws_0 w) (Nat.le_of_ble_eq_true rfl) tw_494 d_X11_findLending_4 rfl ?_
  refine aw_vi (v2 := 0) e_0_7 ?_
  refine aw_icmp_ge (tgt := 70) d_X11_findLending_7 rfl (fun _ => ?_) (fun c => absurd c (by decide))
  refine aw_aload_n (i := 0) rfl d_X11_findLending_70 0 rfl ?_
  refine aw_getr (k0 := 12) kc_11 (ws_0 w) (Nat.le_of_ble_eq_true rfl) tw_499 d_X11_findLending_71 rfl (wr_0_12 w) ?_
  refine aw_aload_n (i := 0) rfl d_X11_findLending_74 0 rfl ?_
  refine aw_geti (k0 := 7) kc_11 (ws_0 w) (Nat.le_of_ble_eq_true rfl) tw_494 d_X11_findLending_75 rfl ?_
  refine aw_vi (v2 := 0) e_0_7 ?_
  refine aw_Vi 20 [.int 0] [] d_X11_findLending_78 (cV_X6_lend (d + 1) 0 0) kc_6 (ws_20 w) tw_1516 rfl (rr0 (Nat.le_of_ble_eq_true rfl) (Nat.le_of_ble_eq_true rfl)) (Nat.le_of_ble_eq_true rfl) xs0 (f_X6_lend_86 d h w e_20_16 ) (fun r2 h3 kk => ?_)
  obtain ⟨ez8, ez9⟩ := kk
  obtain rfl := ez8.symm
  obtain rfl := ez9.symm
  exact aw_zret rfl rfl d_X11_findLending_81 ⟨Nat.le_refl _, Nat.le_refl _⟩ ⟨_, rfl, ⟨rfl, rfl⟩⟩
theorem f_X6_minutesWalked_88 (d : Nat) (h : Hp_) (w : Wf h) (e_20_16 : h_i h 20 16 = 0) (e_102_0 : h_i h 102 0 = 0)   : Ci (m_X6_minutesWalked (d + 1) 0 0) [.ref 20] h (fun r h' => (r = 0 ∧ h' = h)) := by
  refine Ct.of (fun _ _ _ => trivial) rfl (Nat.le_of_ble_eq_true rfl) ?_
  show AW (m_X6_minutesWalked (d + 1) 0 0) 0 0 0 [(0, .ref 20)] [] h (kI (fun r h' => (r = 0 ∧ h' = h)))
  refine aw_aload_n (i := 0) rfl d_X6_minutesWalked_0 0 rfl ?_
  refine aw_getr (k0 := 18) kc_6 (ws_20 w) (Nat.le_of_ble_eq_true rfl) tw_383 d_X6_minutesWalked_1 rfl (wr_20_18 w) ?_
  refine aw_aload_n (i := 0) rfl d_X6_minutesWalked_4 0 rfl ?_
  refine aw_Vi 20 [] [.ref 102] d_X6_minutesWalked_5 (cV_X6_allWanted (d + 0) 0 0) kc_6 (ws_20 w) tw_1520 rfl (rr0 (Nat.le_of_ble_eq_true rfl) (Nat.le_of_ble_eq_true rfl)) (Nat.le_of_ble_eq_true rfl) xs0 (f_X6_allWanted_84 d h w e_20_16 ) (fun r1 h2 kk => ?_)
  obtain ⟨ez8, ez9⟩ := kk
  obtain rfl := ez8.symm
  obtain rfl := ez9.symm
  refine aw_iald (ws_102 w) (vin_c (by decide)) d_X6_minutesWalked_8 ?_
  refine aw_vi (v2 := 0) e_102_0 ?_
  refine aw_ldc (v := 100000) d_X6_minutesWalked_9 tw_1511 ?_
  refine aw_irem d_X6_minutesWalked_11 (by decide) ?_
  refine aw_vi (v2 := 0) (by decide) ?_
  exact aw_iret rfl d_X6_minutesWalked_12 ⟨Nat.le_refl _, Nat.le_refl _⟩ ⟨_, rfl, ⟨rfl, rfl⟩⟩
theorem f_X6_pointsLost_89 (d : Nat) (h : Hp_) (w : Wf h) (e_20_16 : h_i h 20 16 = 0) (e_102_0 : h_i h 102 0 = 0)   : Ci (m_X6_pointsLost (d + 1) 0 0) [.ref 20] h (fun r h' => (r = 0 ∧ h' = h)) := by
  refine Ct.of (fun _ _ _ => trivial) rfl (Nat.le_of_ble_eq_true rfl) ?_
  show AW (m_X6_pointsLost (d + 1) 0 0) 0 0 0 [(0, .ref 20)] [] h (kI (fun r h' => (r = 0 ∧ h' = h)))
  refine aw_aload_n (i := 0) rfl d_X6_pointsLost_0 0 rfl ?_
  refine aw_getr (k0 := 18) kc_6 (ws_20 w) (Nat.le_of_ble_eq_true rfl) tw_383 d_X6_pointsLost_1 rfl (wr_20_18 w) ?_
  refine aw_aload_n (i := 0) rfl d_X6_pointsLost_4 0 rfl ?_
  refine aw_Vi 20 [] [.ref 102] d_X6_pointsLost_5 (cV_X6_allWanted (d + 0) 0 0) kc_6 (ws_20 w) tw_1520 rfl (rr0 (Nat.le_of_ble_eq_true rfl) (Nat.le_of_ble_eq_true rfl)) (Nat.le_of_ble_eq_true rfl) xs0 (f_X6_allWanted_84 d h w e_20_16 ) (fun r1 h2 kk => ?_)
  obtain ⟨ez8, ez9⟩ := kk
  obtain rfl := ez8.symm
  obtain rfl := ez9.symm
  refine aw_iald (ws_102 w) (vin_c (by decide)) d_X6_pointsLost_8 ?_
  refine aw_vi (v2 := 0) e_102_0 ?_
  refine aw_ldc (v := 100000) d_X6_pointsLost_9 tw_1511 ?_
  refine aw_idiv d_X6_pointsLost_11 (by decide) ?_
  refine aw_vi (v2 := 0) (by decide) ?_
  exact aw_iret rfl d_X6_pointsLost_12 ⟨Nat.le_refl _, Nat.le_refl _⟩ ⟨_, rfl, ⟨rfl, rfl⟩⟩
theorem f_X11_lending (d : Nat) (h : Hp_) (w : Wf h) (e_0_7 : h_i h 0 7 = 0) (e_20_16 : h_i h 20 16 = 0)  (x1 : Int32) : Ci (m_X11_lending (d + 3) 0 0) [.ref 0, .int x1] h (fun r h' => (¬ (0 ≤ x1 ∧ x1 ≤ 1) ∧ r = (-1) ∧ h' = h) ∨ ((0 ≤ x1 ∧ x1 ≤ 1) ∧ ¬ x1 = 0 ∧ r = 0 ∧ h' = h_im h 102 (0 : Int32).toNatClampNeg 0) ∨ ((0 ≤ x1 ∧ x1 ≤ 1) ∧ x1 = 0 ∧ r = 0 ∧ h' = h_im h 102 (0 : Int32).toNatClampNeg 0)) := by
  refine Ct.of (fun _ _ _ => trivial) rfl (Nat.le_of_ble_eq_true rfl) ?_
  show AW (m_X11_lending (d + 3) 0 0) 0 0 0 [(0, .ref 0), (1, .int x1)] [] h (kI (fun r h' => (¬ (0 ≤ x1 ∧ x1 ≤ 1) ∧ r = (-1) ∧ h' = h) ∨ ((0 ≤ x1 ∧ x1 ≤ 1) ∧ ¬ x1 = 0 ∧ r = 0 ∧ h' = h_im h 102 (0 : Int32).toNatClampNeg 0) ∨ ((0 ≤ x1 ∧ x1 ≤ 1) ∧ x1 = 0 ∧ r = 0 ∧ h' = h_im h 102 (0 : Int32).toNatClampNeg 0)))
  refine aw_iload_n (i := 1) rfl d_X11_lending_0 1 rfl ?_
  refine aw_iconst (v := 0) d_X11_lending_1 ic_0 ?_
  refine aw_iconst (v := 1) d_X11_lending_2 ic_1 ?_
  refine aw_Si [.int x1, .int 0, .int 1] [] d_X11_lending_3 (cS_X11_within (d + 0) 0 0) tw_543 rfl (rr0 (Nat.le_of_ble_eq_true rfl) (Nat.le_of_ble_eq_true rfl)) (Nat.le_of_ble_eq_true rfl) xs0 (s_X11_within _ _ x1 0 1) (fun _ _ kk => ?_)
  obtain ⟨e1, e2⟩ := kk
  rw [e1, e2]
  refine aw_ifb_eq (tgt := 16) d_X11_lending_6 rfl (fun c3 => ?_) (fun c3 => ?_)
  · refine aw_iconst (v := (-1)) d_X11_lending_16 ic_m1 ?_
    exact aw_iret rfl d_X11_lending_17 ⟨Nat.le_refl _, Nat.le_refl _⟩ ⟨_, rfl, (Or.inl ⟨c3, rfl, rfl⟩)⟩
  · refine aw_aload_n (i := 0) rfl d_X11_lending_9 0 rfl ?_
    refine aw_Vi 0 [] [] d_X11_lending_10 (cV_X11_findLending (d + 2) 0 0) kc_11 (ws_0 w) tw_1492 rfl (rr0 (Nat.le_of_ble_eq_true rfl) (Nat.le_of_ble_eq_true rfl)) (Nat.le_of_ble_eq_true rfl) xs0 (f_X11_findLending_87 d h w e_0_7 e_20_16 ) (fun r4 h5 kk => ?_)
    obtain ⟨ez8, ez9⟩ := kk
    obtain rfl := ez8.symm
    obtain rfl := ez9.symm
    refine aw_if_ne (tgt := 18) d_X11_lending_13 rfl (fun _ => ?_) (fun c => absurd c (by decide))
    refine aw_iload_n (i := 1) rfl d_X11_lending_18 1 rfl ?_
    refine aw_if_ne (tgt := 32) d_X11_lending_19 rfl (fun c7 => ?_) (fun c7 => ?_)
    · refine aw_aload_n (i := 0) rfl d_X11_lending_32 0 rfl ?_
      refine aw_getr (k0 := 12) kc_11 (ws_0 w) (Nat.le_of_ble_eq_true rfl) tw_499 d_X11_lending_33 rfl (wr_0_12 w) ?_
      refine aw_Vi 20 [] [] d_X11_lending_36 (cV_X6_minutesWalked (d + 1) 0 0) kc_6 (ws_20 w) tw_1541 rfl (rr0 (Nat.le_of_ble_eq_true rfl) (Nat.le_of_ble_eq_true rfl)) (Nat.le_of_ble_eq_true rfl) xs0 (f_X6_minutesWalked_88 d (h_im h 102 (0 : Int32).toNatClampNeg 0) w e_20_16 rfl ) (fun r8 h9 kk => ?_)
      obtain ⟨ez8, ez9⟩ := kk
      obtain rfl := ez8.symm
      obtain rfl := ez9.symm
      exact aw_iret rfl d_X11_lending_39 ⟨Nat.le_refl _, Nat.le_refl _⟩ ⟨_, rfl, (Or.inr (Or.inl ⟨c3, c7, rfl, rfl⟩))⟩
    · refine aw_aload_n (i := 0) rfl d_X11_lending_22 0 rfl ?_
      refine aw_getr (k0 := 12) kc_11 (ws_0 w) (Nat.le_of_ble_eq_true rfl) tw_499 d_X11_lending_23 rfl (wr_0_12 w) ?_
      refine aw_Vi 20 [] [] d_X11_lending_26 (cV_X6_pointsLost (d + 1) 0 0) kc_6 (ws_20 w) tw_1537 rfl (rr0 (Nat.le_of_ble_eq_true rfl) (Nat.le_of_ble_eq_true rfl)) (Nat.le_of_ble_eq_true rfl) xs0 (f_X6_pointsLost_89 d (h_im h 102 (0 : Int32).toNatClampNeg 0) w e_20_16 rfl ) (fun r10 h11 kk => ?_)
      obtain ⟨ez8, ez9⟩ := kk
      obtain rfl := ez8.symm
      obtain rfl := ez9.symm
      refine aw_goto (tgt := 39) d_X11_lending_29 rfl ?_
      exact aw_iret rfl d_X11_lending_39 ⟨Nat.le_refl _, Nat.le_refl _⟩ ⟨_, rfl, (Or.inr (Or.inr ⟨c3, c7, rfl, rfl⟩))⟩
theorem f_X11_lent (d : Nat) (h : Hp_) (w : Wf h) (e_0_7 : h_i h 0 7 = 0)  (x1 : Int32) : Ci (m_X11_lent (d + 3) 0 0) [.ref 0, .int x1] h (fun r h' => (r = (-1) ∧ h' = h)) := by
  refine Ct.of (fun _ _ _ => trivial) rfl (Nat.le_of_ble_eq_true rfl) ?_
  show AW (m_X11_lent (d + 3) 0 0) 0 0 0 [(0, .ref 0), (1, .int x1)] [] h (kI (fun r h' => (r = (-1) ∧ h' = h)))
  refine aw_aload_n (i := 0) rfl d_X11_lent_0 0 rfl ?_
  refine aw_iload_n (i := 1) rfl d_X11_lent_1 1 rfl ?_
  refine aw_Vi 0 [.int x1] [] d_X11_lent_2 (cV_X11_isMan (d + 2) 0 0) kc_11 (ws_0 w) tw_1098 rfl (rr0 (Nat.le_of_ble_eq_true rfl) (Nat.le_of_ble_eq_true rfl)) (Nat.le_of_ble_eq_true rfl) xs0 (f_X11_isMan_31 d h w e_0_7 x1) (fun r1 h2 kk => ?_)
  obtain ⟨ez8, ez9⟩ := kk
  obtain rfl := ez8.symm
  obtain rfl := ez9.symm
  refine aw_if_eq (tgt := 26) d_X11_lent_5 rfl (fun _ => ?_) (fun c => absurd c (by decide))
  refine aw_iconst (v := (-1)) d_X11_lent_26 ic_m1 ?_
  exact aw_iret rfl d_X11_lent_27 ⟨Nat.le_refl _, Nat.le_refl _⟩ ⟨_, rfl, ⟨rfl, rfl⟩⟩
theorem f_X6_clearFairs_92 (d : Nat) (h : Hp_) (w : Wf h)    : Cv (m_X6_clearFairs (d + 0) 0 0) [.ref 20] h (fun h' => (h' = h_im h 20 16 0)) := by
  refine Ct.of (fun _ _ _ => trivial) rfl (Nat.le_of_ble_eq_true rfl) ?_
  show AW (m_X6_clearFairs (d + 0) 0 0) 0 0 0 [(0, .ref 20)] [] h (kV (fun h' => (h' = h_im h 20 16 0)))
  refine aw_aload_n (i := 0) rfl d_X6_clearFairs_0 0 rfl ?_
  refine aw_iconst (v := 0) d_X6_clearFairs_1 ic_0 ?_
  refine aw_puti (k0 := 16) kc_6 (ws_20 w) (Nat.le_of_ble_eq_true rfl) tw_380 d_X6_clearFairs_2 rfl rfl nf_i ?_
  exact aw_vret rfl d_X6_clearFairs_5 ⟨Nat.le_refl _, Nat.le_refl _⟩ ⟨rfl, rfl⟩
theorem f_X11_fairs (d : Nat) (h : Hp_) (w : Wf h)    : Cv (m_X11_fairs (d + 1) 0 0) [.ref 0] h (fun h' => (h' = h_im h 20 16 0)) := by
  refine Ct.of (fun _ _ _ => trivial) rfl (Nat.le_of_ble_eq_true rfl) ?_
  show AW (m_X11_fairs (d + 1) 0 0) 0 0 0 [(0, .ref 0)] [] h (kV (fun h' => (h' = h_im h 20 16 0)))
  refine aw_aload_n (i := 0) rfl d_X11_fairs_0 0 rfl ?_
  refine aw_getr (k0 := 12) kc_11 (ws_0 w) (Nat.le_of_ble_eq_true rfl) tw_499 d_X11_fairs_1 rfl (wr_0_12 w) ?_
  refine aw_Vv 20 [] [] d_X11_fairs_4 (cV_X6_clearFairs (d + 0) 0 0) kc_6 (ws_20 w) tw_1557 rfl (rr0 (Nat.le_of_ble_eq_true rfl) (Nat.le_of_ble_eq_true rfl)) (Nat.le_of_ble_eq_true rfl) xs0 (f_X6_clearFairs_92 d h w  ) (fun h2 kk => ?_)
  have ez9 := kk
  obtain rfl := ez9.symm
  exact aw_vret rfl d_X11_fairs_7 ⟨Nat.le_refl _, Nat.le_refl _⟩ ⟨rfl, rfl⟩
theorem f_X11_pay (d : Nat) (h : Hp_) (w : Wf h) (e_11_1 : h_i h 11 1 = 0)  (x1 : Int32) : Ci (m_X11_pay (d + 6) 0 0) [.ref 0, .int x1] h (fun r h' => (¬ (0 ≤ x1 ∧ x1 ≤ 30) ∧ r = (-1) ∧ h' = h) ∨ ((0 ≤ x1 ∧ x1 ≤ 30) ∧ r = (-1) ∧ h' = h_im (h_im (h_im (h_im (h_rm (h_im (h_im h 11 2 0) 11 3 (-1)) 11 4 (some 1002)) 11 6 0) 11 7 0) 11 9 0) 11 3 0)) := by
  refine Ct.of (fun _ _ _ => trivial) rfl (Nat.le_of_ble_eq_true rfl) ?_
  show AW (m_X11_pay (d + 6) 0 0) 0 0 0 [(0, .ref 0), (1, .int x1)] [] h (kI (fun r h' => (¬ (0 ≤ x1 ∧ x1 ≤ 30) ∧ r = (-1) ∧ h' = h) ∨ ((0 ≤ x1 ∧ x1 ≤ 30) ∧ r = (-1) ∧ h' = h_im (h_im (h_im (h_im (h_rm (h_im (h_im h 11 2 0) 11 3 (-1)) 11 4 (some 1002)) 11 6 0) 11 7 0) 11 9 0) 11 3 0)))
  refine aw_iload_n (i := 1) rfl d_X11_pay_0 1 rfl ?_
  refine aw_iconst (v := 0) d_X11_pay_1 ic_0 ?_
  refine aw_bipush (v := 30) d_X11_pay_2 ib_30 ?_
  refine aw_Si [.int x1, .int 0, .int 30] [] d_X11_pay_4 (cS_X11_within (d + 0) 0 0) tw_543 rfl (rr0 (Nat.le_of_ble_eq_true rfl) (Nat.le_of_ble_eq_true rfl)) (Nat.le_of_ble_eq_true rfl) xs0 (s_X11_within _ _ x1 0 30) (fun _ _ kk => ?_)
  obtain ⟨e1, e2⟩ := kk
  rw [e1, e2]
  refine aw_ifb_eq (tgt := 22) d_X11_pay_7 rfl (fun c3 => ?_) (fun c3 => ?_)
  · refine aw_iconst (v := (-1)) d_X11_pay_22 ic_m1 ?_
    exact aw_iret rfl d_X11_pay_23 ⟨Nat.le_refl _, Nat.le_refl _⟩ ⟨_, rfl, (Or.inl ⟨c3, rfl, rfl⟩)⟩
  · refine aw_aload_n (i := 0) rfl d_X11_pay_10 0 rfl ?_
    refine aw_getr (k0 := 2) kc_11 (ws_0 w) (Nat.le_of_ble_eq_true rfl) tw_489 d_X11_pay_11 rfl (wr_0_2 w) ?_
    refine aw_iconst (v := 0) d_X11_pay_14 ic_0 ?_
    refine aw_Vi 11 [.int 0] [] d_X11_pay_15 (cV_X8_readRule (d + 5) 0 0) kc_8 (ws_11 w) tw_723 rfl (rr0 (Nat.le_of_ble_eq_true rfl) (Nat.le_of_ble_eq_true rfl)) (Nat.le_of_ble_eq_true rfl) xs0 (f_X8_readRule_22 d h w e_11_1 ) (fun r4 h5 kk => ?_)
    obtain ⟨ez8, ez9⟩ := kk
    obtain rfl := ez8.symm
    obtain rfl := ez9.symm
    have w6 : Wf (h_rm (h_im (h_im h 11 2 0) 11 3 (-1)) 11 4 (some 1002)) := Wf_rm (h := (h_im (h_im h 11 2 0) 11 3 (-1))) w (by decide +kernel)
    refine aw_iconst (v := (-1)) d_X11_pay_18 ic_m1 ?_
    refine aw_icmp_eq (tgt := 24) d_X11_pay_19 rfl (fun c => absurd c (by decide)) (fun _ => ?_)
    refine aw_iconst (v := (-1)) d_X11_pay_22 ic_m1 ?_
    exact aw_iret rfl d_X11_pay_23 ⟨Nat.le_refl _, Nat.le_refl _⟩ ⟨_, rfl, (Or.inr ⟨c3, rfl, rfl⟩)⟩
theorem f_X11_rank (d : Nat) (h : Hp_) (w : Wf h) (e_0_7 : h_i h 0 7 = 0)  (x1 : Int32) (x2 : Int32) (x3 : Int32) : Ci (m_X11_rank (d + 3) 0 0) [.ref 0, .int x1, .int x2, .int x3] h (fun r h' => (r = 0 ∧ h' = h)) := by
  refine Ct.of (fun _ _ _ => trivial) rfl (Nat.le_of_ble_eq_true rfl) ?_
  show AW (m_X11_rank (d + 3) 0 0) 0 0 0 [(0, .ref 0), (1, .int x1), (2, .int x2), (3, .int x3)] [] h (kI (fun r h' => (r = 0 ∧ h' = h)))
  refine aw_aload_n (i := 0) rfl d_X11_rank_0 0 rfl ?_
  refine aw_iload_n (i := 1) rfl d_X11_rank_1 1 rfl ?_
  refine aw_Vi 0 [.int x1] [] d_X11_rank_2 (cV_X11_isMan (d + 2) 0 0) kc_11 (ws_0 w) tw_1098 rfl (rr0 (Nat.le_of_ble_eq_true rfl) (Nat.le_of_ble_eq_true rfl)) (Nat.le_of_ble_eq_true rfl) xs0 (f_X11_isMan_31 d h w e_0_7 x1) (fun r1 h2 kk => ?_)
  obtain ⟨ez8, ez9⟩ := kk
  obtain rfl := ez8.symm
  obtain rfl := ez9.symm
  refine aw_if_eq (tgt := 27) d_X11_rank_5 rfl (fun _ => ?_) (fun c => absurd c (by decide))
  refine aw_iconst (v := 0) d_X11_rank_27 ic_0 ?_
  exact aw_zret rfl rfl d_X11_rank_28 ⟨Nat.le_refl _, Nat.le_refl _⟩ ⟨_, rfl, ⟨rfl, rfl⟩⟩
theorem f_X11_ranked (d : Nat) (h : Hp_) (w : Wf h) (e_0_7 : h_i h 0 7 = 0)  (x1 : Int32) (x2 : Int32) (x3 : Int32) : Ci (m_X11_ranked (d + 2) 0 0) [.ref 0, .int x1, .int x2, .int x3] h (fun r h' => (r = (-1) ∧ h' = h)) := by
  refine Ct.of (fun _ _ _ => trivial) rfl (Nat.le_of_ble_eq_true rfl) ?_
  show AW (m_X11_ranked (d + 2) 0 0) 0 0 0 [(0, .ref 0), (1, .int x1), (2, .int x2), (3, .int x3)] [] h (kI (fun r h' => (r = (-1) ∧ h' = h)))
  refine aw_aload_n (i := 0) rfl d_X11_ranked_0 0 rfl ?_
  refine aw_iload_n (i := 1) rfl d_X11_ranked_1 1 rfl ?_
  refine aw_Vr 0 [.int x1] [] d_X11_ranked_2 (cV_X11_manOf (d + 1) 0 0) kc_11 (ws_0 w) tw_904 rfl (rr0 (Nat.le_of_ble_eq_true rfl) (Nat.le_of_ble_eq_true rfl)) (Nat.le_of_ble_eq_true rfl) xs0 (f_X11_manOf_27 d h w e_0_7 x1) (fun h2 kk => ?_) (fun b9 h2 kk => ?_)
  rotate_left
  · exact absurd kk (by simp)
  obtain ⟨_, ez9⟩ := kk
  obtain rfl := ez9.symm
  refine aw_astoreN [(0, .ref 0), (1, .int x1), (2, .int x2), (3, .int x3), (4, .null)] d_X11_ranked_5 (Nat.le_of_ble_eq_true rfl) rfl rfl ?_
  refine aw_aloadN d_X11_ranked_7 4 rfl ?_
  refine aw_ifnullN (tgt := 30) d_X11_ranked_9 rfl ?_
  refine aw_iconst (v := (-1)) d_X11_ranked_30 ic_m1 ?_
  exact aw_iret rfl d_X11_ranked_31 ⟨Nat.le_refl _, Nat.le_refl _⟩ ⟨_, rfl, ⟨rfl, rfl⟩⟩
theorem f_X11_paid (d : Nat) (h : Hp_) (w : Wf h) (e_0_7 : h_i h 0 7 = 0)  (x1 : Int32) (x2 : Int32) (x3 : Int32) : Ci (m_X11_paid (d + 2) 0 0) [.ref 0, .int x1, .int x2, .int x3] h (fun r h' => (r = (-1) ∧ h' = h)) := by
  refine Ct.of (fun _ _ _ => trivial) rfl (Nat.le_of_ble_eq_true rfl) ?_
  show AW (m_X11_paid (d + 2) 0 0) 0 0 0 [(0, .ref 0), (1, .int x1), (2, .int x2), (3, .int x3)] [] h (kI (fun r h' => (r = (-1) ∧ h' = h)))
  refine aw_aload_n (i := 0) rfl d_X11_paid_0 0 rfl ?_
  refine aw_iload_n (i := 1) rfl d_X11_paid_1 1 rfl ?_
  refine aw_Vr 0 [.int x1] [] d_X11_paid_2 (cV_X11_manOf (d + 1) 0 0) kc_11 (ws_0 w) tw_904 rfl (rr0 (Nat.le_of_ble_eq_true rfl) (Nat.le_of_ble_eq_true rfl)) (Nat.le_of_ble_eq_true rfl) xs0 (f_X11_manOf_27 d h w e_0_7 x1) (fun h2 kk => ?_) (fun b9 h2 kk => ?_)
  rotate_left
  · exact absurd kk (by simp)
  obtain ⟨_, ez9⟩ := kk
  obtain rfl := ez9.symm
  refine aw_astoreN [(0, .ref 0), (1, .int x1), (2, .int x2), (3, .int x3), (4, .null)] d_X11_paid_5 (Nat.le_of_ble_eq_true rfl) rfl rfl ?_
  refine aw_aloadN d_X11_paid_7 4 rfl ?_
  refine aw_ifnullN (tgt := 35) d_X11_paid_9 rfl ?_
  refine aw_iconst (v := (-1)) d_X11_paid_35 ic_m1 ?_
  exact aw_iret rfl d_X11_paid_36 ⟨Nat.le_refl _, Nat.le_refl _⟩ ⟨_, rfl, ⟨rfl, rfl⟩⟩
theorem f_X5_bookAll_98 (d : Nat) (h : Hp_) (w : Wf h) (e_21_12 : h_i h 21 12 = 0)   : Ci (m_X5_bookAll (d + 1) 0 0) [.ref 21, .int 0, .int 0, .int 0] h (fun r h' => (r = 0 ∧ h' = h)) := by
  refine Ct.of (fun _ _ _ => trivial) rfl (Nat.le_of_ble_eq_true rfl) ?_
  show AW (m_X5_bookAll (d + 1) 0 0) 0 0 0 [(0, .ref 21), (1, .int 0), (2, .int 0), (3, .int 0)] [] h (kI (fun r h' => (r = 0 ∧ h' = h)))
  refine aw_iload_n (i := 2) rfl d_X5_bookAll_0 2 rfl ?_
  refine aw_bipush (v := 14) d_X5_bookAll_1 ib_14 ?_
  refine aw_mmin d_X5_bookAll_3 tw_1614 (show 1 ≤ d + 1 by omega) (Nat.le_trans (Nat.le_of_ble_eq_true rfl) (show 100 ≤ 100 * (d + 1) by omega)) ⟨Nat.le_refl _, Nat.le_refl _⟩ ?_
  refine aw_vi (v2 := 0) (by decide) ?_
  refine aw_bipush (v := 12) d_X5_bookAll_6 ib_12 ?_
  refine aw_imul d_X5_bookAll_8 ?_
  refine aw_vi (v2 := 0) (by decide) ?_
  refine aw_istore [(0, .ref 21), (1, .int 0), (2, .int 0), (3, .int 0), (4, .int 0)] d_X5_bookAll_9 (Nat.le_of_ble_eq_true rfl) rfl rfl ?_
  refine aw_iconst (v := 0) d_X5_bookAll_11 ic_0 ?_
  refine aw_istore [(0, .ref 21), (1, .int 0), (2, .int 0), (3, .int 0), (4, .int 0), (5, .int 0)] d_X5_bookAll_12 (Nat.le_of_ble_eq_true rfl) rfl rfl ?_
  refine aw_iconst (v := 0) d_X5_bookAll_14 ic_0 ?_
  refine aw_istore [(0, .ref 21), (1, .int 0), (2, .int 0), (3, .int 0), (4, .int 0), (5, .int 0), (6, .int 0)] d_X5_bookAll_15 (Nat.le_of_ble_eq_true rfl) rfl rfl ?_
  refine aw_iload d_X5_bookAll_17 6 rfl ?_
  refine aw_iload d_X5_bookAll_19 4 rfl ?_
  refine aw_icmp_ge (tgt := 59) d_X5_bookAll_21 rfl (fun _ => ?_) (fun c => absurd c (by decide))
  refine aw_aload_n (i := 0) rfl d_X5_bookAll_59 0 rfl ?_
  refine aw_geti (k0 := 12) kc_5 (ws_21 w) (Nat.le_of_ble_eq_true rfl) tw_447 d_X5_bookAll_60 rfl ?_
  refine aw_vi (v2 := 0) e_21_12 ?_
  refine aw_iload d_X5_bookAll_63 5 rfl ?_
  refine aw_iadd d_X5_bookAll_65 ?_
  refine aw_vi (v2 := 0) (by decide) ?_
  refine aw_sipush (v := 600) d_X5_bookAll_66 is_600 ?_
  refine aw_icmp_le (tgt := 74) d_X5_bookAll_69 rfl (fun _ => ?_) (fun c => absurd c (by decide))
  refine aw_iconst (v := 0) d_X5_bookAll_74 ic_0 ?_
  refine aw_istore [(0, .ref 21), (1, .int 0), (2, .int 0), (3, .int 0), (4, .int 0), (5, .int 0), (6, .int 0)] d_X5_bookAll_75 (Nat.le_of_ble_eq_true rfl) rfl rfl ?_
  refine aw_iload d_X5_bookAll_77 6 rfl ?_
  refine aw_iload d_X5_bookAll_79 4 rfl ?_
  refine aw_icmp_ge (tgt := 123) d_X5_bookAll_81 rfl (fun _ => ?_) (fun c => absurd c (by decide))
  refine aw_iload d_X5_bookAll_123 5 rfl ?_
  exact aw_iret rfl d_X5_bookAll_125 ⟨Nat.le_refl _, Nat.le_refl _⟩ ⟨_, rfl, ⟨rfl, rfl⟩⟩
theorem f_X11_book (d : Nat) (h : Hp_) (w : Wf h) (e_0_0 : h_i h 0 0 = 0) (e_0_7 : h_i h 0 7 = 0) (e_21_12 : h_i h 21 12 = 0)   : Ci (m_X11_book (d + 2) 0 0) [.ref 0] h (fun r h' => (r = 0 ∧ h' = h)) := by
  refine Ct.of (fun _ _ _ => trivial) rfl (Nat.le_of_ble_eq_true rfl) ?_
  show AW (m_X11_book (d + 2) 0 0) 0 0 0 [(0, .ref 0)] [] h (kI (fun r h' => (r = 0 ∧ h' = h)))
  refine aw_aload_n (i := 0) rfl d_X11_book_0 0 rfl ?_
  refine aw_geti (k0 := 0) kc_11 (ws_0 w) (Nat.le_of_ble_eq_true rfl) tw_487 d_X11_book_1 rfl ?_
  refine aw_vi (v2 := 0) e_0_0 ?_
  refine aw_sipush (v := 1440) d_X11_book_4 is_1440 ?_
  refine aw_idiv d_X11_book_7 (by decide) ?_
  refine aw_vi (v2 := 0) (by decide) ?_
  refine aw_istore_n (i := 1) rfl [(0, .ref 0), (1, .int 0)] d_X11_book_8 (Nat.le_of_ble_eq_true rfl) rfl rfl ?_
  refine aw_iconst (v := 0) d_X11_book_9 ic_0 ?_
  refine aw_istore_n (i := 2) rfl [(0, .ref 0), (1, .int 0), (2, .int 0)] d_X11_book_10 (Nat.le_of_ble_eq_true rfl) rfl rfl ?_
  refine aw_iload_n (i := 2) rfl d_X11_book_11 2 rfl ?_
  refine aw_iload_n (i := 1) rfl d_X11_book_12 1 rfl ?_
  refine aw_icmp_ge (tgt := 62) d_X11_book_13 rfl (fun _ => ?_) (fun c => absurd c (by decide))
  refine aw_aload_n (i := 0) rfl d_X11_book_62 0 rfl ?_
  refine aw_getr (k0 := 13) kc_11 (ws_0 w) (Nat.le_of_ble_eq_true rfl) tw_500 d_X11_book_63 rfl (wr_0_13 w) ?_
  refine aw_aload_n (i := 0) rfl d_X11_book_66 0 rfl ?_
  refine aw_geti (k0 := 7) kc_11 (ws_0 w) (Nat.le_of_ble_eq_true rfl) tw_494 d_X11_book_67 rfl ?_
  refine aw_vi (v2 := 0) e_0_7 ?_
  refine aw_iload_n (i := 1) rfl d_X11_book_70 1 rfl ?_
  refine aw_aload_n (i := 0) rfl d_X11_book_71 0 rfl ?_
  refine aw_geti (k0 := 0) kc_11 (ws_0 w) (Nat.le_of_ble_eq_true rfl) tw_487 d_X11_book_72 rfl ?_
  refine aw_vi (v2 := 0) e_0_0 ?_
  refine aw_Vi 21 [.int 0, .int 0, .int 0] [] d_X11_book_75 (cV_X5_bookAll (d + 1) 0 0) kc_5 (ws_21 w) tw_1610 rfl (rr0 (Nat.le_of_ble_eq_true rfl) (Nat.le_of_ble_eq_true rfl)) (Nat.le_of_ble_eq_true rfl) xs0 (f_X5_bookAll_98 d h w e_21_12 ) (fun r2 h3 kk => ?_)
  obtain ⟨ez8, ez9⟩ := kk
  obtain rfl := ez8.symm
  obtain rfl := ez9.symm
  exact aw_iret rfl d_X11_book_78 ⟨Nat.le_refl _, Nat.le_refl _⟩ ⟨_, rfl, ⟨rfl, rfl⟩⟩
theorem f_X5_tellLine_100 (d : Nat) (h : Hp_) (w : Wf h) (e_21_12 : h_i h 21 12 = 0)  (x1 : Int32) (x2 : Int32) : Ci (m_X5_tellLine (d + 1) 0 0) [.ref 21, .int x1, .int x2] h (fun r h' => (r = (-1000000) ∧ h' = h)) := by
  refine Ct.of (fun _ _ _ => trivial) rfl (Nat.le_of_ble_eq_true rfl) ?_
  show AW (m_X5_tellLine (d + 1) 0 0) 0 0 0 [(0, .ref 21), (1, .int x1), (2, .int x2)] [] h (kI (fun r h' => (r = (-1000000) ∧ h' = h)))
  refine aw_iload_n (i := 1) rfl d_X5_tellLine_0 1 rfl ?_
  refine aw_iconst (v := 0) d_X5_tellLine_1 ic_0 ?_
  refine aw_aload_n (i := 0) rfl d_X5_tellLine_2 0 rfl ?_
  refine aw_geti (k0 := 12) kc_5 (ws_21 w) (Nat.le_of_ble_eq_true rfl) tw_447 d_X5_tellLine_3 rfl ?_
  refine aw_vi (v2 := 0) e_21_12 ?_
  refine aw_iconst (v := 1) d_X5_tellLine_6 ic_1 ?_
  refine aw_isub d_X5_tellLine_7 ?_
  refine aw_vi (v2 := (-1)) (by decide) ?_
  refine aw_SNi [.int x1, .int 0, .int (-1)] [] d_X5_tellLine_8 (cS_X11_within (d + 0) 0 0) (List.mem_of_getElem? (i := 10) rfl) rfl (rr0 (Nat.le_of_ble_eq_true rfl) (Nat.le_of_ble_eq_true rfl)) (Nat.le_of_ble_eq_true rfl) xs0 (s_X11_within _ _ x1 0 (-1)) (fun _ _ kk => ?_)
  obtain ⟨e1, e2⟩ := kk
  rw [e1, e2]
  have c3 : ¬ (0 ≤ x1 ∧ x1 ≤ (-1)) := (by intro c3; grind)
  refine aw_vi (v2 := 0) (bI_0.mpr c3) ?_
  refine aw_if_ne (tgt := 17) d_X5_tellLine_11 rfl (fun c => absurd c (by decide)) (fun _ => ?_)
  refine aw_ldc (v := (-1000000)) d_X5_tellLine_14 tw_1627 ?_
  exact aw_iret rfl d_X5_tellLine_16 ⟨Nat.le_refl _, Nat.le_refl _⟩ ⟨_, rfl, ⟨rfl, rfl⟩⟩
theorem f_X11_line (d : Nat) (h : Hp_) (w : Wf h) (e_21_12 : h_i h 21 12 = 0)  (x1 : Int32) (x2 : Int32) : Ci (m_X11_line (d + 2) 0 0) [.ref 0, .int x1, .int x2] h (fun r h' => (r = (-1000000) ∧ h' = h)) := by
  refine Ct.of (fun _ _ _ => trivial) rfl (Nat.le_of_ble_eq_true rfl) ?_
  show AW (m_X11_line (d + 2) 0 0) 0 0 0 [(0, .ref 0), (1, .int x1), (2, .int x2)] [] h (kI (fun r h' => (r = (-1000000) ∧ h' = h)))
  refine aw_aload_n (i := 0) rfl d_X11_line_0 0 rfl ?_
  refine aw_getr (k0 := 13) kc_11 (ws_0 w) (Nat.le_of_ble_eq_true rfl) tw_500 d_X11_line_1 rfl (wr_0_13 w) ?_
  refine aw_iload_n (i := 1) rfl d_X11_line_4 1 rfl ?_
  refine aw_iload_n (i := 2) rfl d_X11_line_5 2 rfl ?_
  refine aw_Vi 21 [.int x1, .int x2] [] d_X11_line_6 (cV_X5_tellLine (d + 1) 0 0) kc_5 (ws_21 w) tw_1623 rfl (rr0 (Nat.le_of_ble_eq_true rfl) (Nat.le_of_ble_eq_true rfl)) (Nat.le_of_ble_eq_true rfl) xs0 (f_X5_tellLine_100 d h w e_21_12 x1 x2) (fun r1 h2 kk => ?_)
  obtain ⟨ez8, ez9⟩ := kk
  obtain rfl := ez8.symm
  obtain rfl := ez9.symm
  exact aw_iret rfl d_X11_line_9 ⟨Nat.le_refl _, Nat.le_refl _⟩ ⟨_, rfl, ⟨rfl, rfl⟩⟩
theorem f_X11_mark (d : Nat) (h : Hp_) (w : Wf h) (e_0_7 : h_i h 0 7 = 0)  (x1 : Int32) (x2 : Int32) (x3 : Int32) : Ci (m_X11_mark (d + 3) 0 0) [.ref 0, .int x1, .int x2, .int x3] h (fun r h' => (¬ (0 ≤ x1 ∧ x1 ≤ 3) ∧ r = 0 ∧ h' = h) ∨ ((0 ≤ x1 ∧ x1 ≤ 3) ∧ r = 0 ∧ h' = h)) := by
  refine Ct.of (fun _ _ _ => trivial) rfl (Nat.le_of_ble_eq_true rfl) ?_
  show AW (m_X11_mark (d + 3) 0 0) 0 0 0 [(0, .ref 0), (1, .int x1), (2, .int x2), (3, .int x3)] [] h (kI (fun r h' => (¬ (0 ≤ x1 ∧ x1 ≤ 3) ∧ r = 0 ∧ h' = h) ∨ ((0 ≤ x1 ∧ x1 ≤ 3) ∧ r = 0 ∧ h' = h)))
  refine aw_iload_n (i := 1) rfl d_X11_mark_0 1 rfl ?_
  refine aw_iconst (v := 0) d_X11_mark_1 ic_0 ?_
  refine aw_iconst (v := 3) d_X11_mark_2 ic_3 ?_
  refine aw_Si [.int x1, .int 0, .int 3] [] d_X11_mark_3 (cS_X11_within (d + 0) 0 0) tw_543 rfl (rr0 (Nat.le_of_ble_eq_true rfl) (Nat.le_of_ble_eq_true rfl)) (Nat.le_of_ble_eq_true rfl) xs0 (s_X11_within _ _ x1 0 3) (fun _ _ kk => ?_)
  obtain ⟨e1, e2⟩ := kk
  rw [e1, e2]
  refine aw_ifb_eq (tgt := 27) d_X11_mark_6 rfl (fun c3 => ?_) (fun c3 => ?_)
  · refine aw_iconst (v := 0) d_X11_mark_27 ic_0 ?_
    exact aw_zret rfl rfl d_X11_mark_28 ⟨Nat.le_refl _, Nat.le_refl _⟩ ⟨_, rfl, (Or.inl ⟨c3, rfl, rfl⟩)⟩
  · refine aw_aload_n (i := 0) rfl d_X11_mark_9 0 rfl ?_
    refine aw_iload_n (i := 2) rfl d_X11_mark_10 2 rfl ?_
    refine aw_Vi 0 [.int x2] [] d_X11_mark_11 (cV_X11_isMan (d + 2) 0 0) kc_11 (ws_0 w) tw_1098 rfl (rr0 (Nat.le_of_ble_eq_true rfl) (Nat.le_of_ble_eq_true rfl)) (Nat.le_of_ble_eq_true rfl) xs0 (f_X11_isMan_31 d h w e_0_7 x2) (fun r4 h5 kk => ?_)
    obtain ⟨ez8, ez9⟩ := kk
    obtain rfl := ez8.symm
    obtain rfl := ez9.symm
    refine aw_if_eq (tgt := 27) d_X11_mark_14 rfl (fun _ => ?_) (fun c => absurd c (by decide))
    refine aw_iconst (v := 0) d_X11_mark_27 ic_0 ?_
    exact aw_zret rfl rfl d_X11_mark_28 ⟨Nat.le_refl _, Nat.le_refl _⟩ ⟨_, rfl, (Or.inr ⟨c3, rfl, rfl⟩)⟩
theorem f_X11_size (d : Nat) (h : Hp_) (w : Wf h)   (x1 : Int32) : Ci (m_X11_size (d + 1) 0 0) [.ref 0, .int x1] h (fun r h' => ((1 ≤ x1 ∧ x1 ≤ 12) ∧ r = 1 ∧ h' = h_im h 21 15 x1) ∨ (¬ (1 ≤ x1 ∧ x1 ≤ 12) ∧ r = 0 ∧ h' = h)) := by
  refine Ct.of (fun _ _ _ => trivial) rfl (Nat.le_of_ble_eq_true rfl) ?_
  show AW (m_X11_size (d + 1) 0 0) 0 0 0 [(0, .ref 0), (1, .int x1)] [] h (kI (fun r h' => ((1 ≤ x1 ∧ x1 ≤ 12) ∧ r = 1 ∧ h' = h_im h 21 15 x1) ∨ (¬ (1 ≤ x1 ∧ x1 ≤ 12) ∧ r = 0 ∧ h' = h)))
  refine aw_iload_n (i := 1) rfl d_X11_size_0 1 rfl ?_
  refine aw_iconst (v := 1) d_X11_size_1 ic_1 ?_
  refine aw_bipush (v := 12) d_X11_size_2 ib_12 ?_
  refine aw_Si [.int x1, .int 1, .int 12] [] d_X11_size_4 (cS_X11_within (d + 0) 0 0) tw_543 rfl (rr0 (Nat.le_of_ble_eq_true rfl) (Nat.le_of_ble_eq_true rfl)) (Nat.le_of_ble_eq_true rfl) xs0 (s_X11_within _ _ x1 1 12) (fun _ _ kk => ?_)
  obtain ⟨e1, e2⟩ := kk
  rw [e1, e2]
  refine aw_ifb_ne (tgt := 12) d_X11_size_7 rfl (fun c3 => ?_) (fun c3 => ?_)
  · refine aw_aload_n (i := 0) rfl d_X11_size_12 0 rfl ?_
    refine aw_getr (k0 := 13) kc_11 (ws_0 w) (Nat.le_of_ble_eq_true rfl) tw_500 d_X11_size_13 rfl (wr_0_13 w) ?_
    refine aw_iload_n (i := 1) rfl d_X11_size_16 1 rfl ?_
    refine aw_puti (k0 := 15) kc_5 (ws_21 w) (Nat.le_of_ble_eq_true rfl) tw_453 d_X11_size_17 rfl rfl nf_i ?_
    refine aw_iconst (v := 1) d_X11_size_20 ic_1 ?_
    exact aw_zret rfl rfl d_X11_size_21 ⟨Nat.le_refl _, Nat.le_refl _⟩ ⟨_, rfl, (Or.inl ⟨c3, rfl, rfl⟩)⟩
  · refine aw_iconst (v := 0) d_X11_size_10 ic_0 ?_
    exact aw_zret rfl rfl d_X11_size_11 ⟨Nat.le_refl _, Nat.le_refl _⟩ ⟨_, rfl, (Or.inr ⟨c3, rfl, rfl⟩)⟩
theorem f_X5_compare_104 (d : Nat) (h : Hp_) (w : Wf h) (e_21_15 : h_i h 21 15 = 3)  (x1 : Int32) (x2 : Int32) : Ci (m_X5_compare (d + 1) 0 0) [.ref 21, .int x1, .int x2, .int 0] h (fun r h' => (r = (-1000000) ∧ h' = h)) := by
  refine Ct.of (fun _ _ _ => trivial) rfl (Nat.le_of_ble_eq_true rfl) ?_
  show AW (m_X5_compare (d + 1) 0 0) 0 0 0 [(0, .ref 21), (1, .int x1), (2, .int x2), (3, .int 0)] [] h (kI (fun r h' => (r = (-1000000) ∧ h' = h)))
  refine aw_iconst (v := 0) d_X5_compare_0 ic_0 ?_
  refine aw_istore [(0, .ref 21), (1, .int x1), (2, .int x2), (3, .int 0), (4, .int 0)] d_X5_compare_1 (Nat.le_of_ble_eq_true rfl) rfl rfl ?_
  refine aw_iconst (v := 0) d_X5_compare_3 ic_0 ?_
  refine aw_istore [(0, .ref 21), (1, .int x1), (2, .int x2), (3, .int 0), (4, .int 0), (5, .int 0)] d_X5_compare_4 (Nat.le_of_ble_eq_true rfl) rfl rfl ?_
  refine aw_iconst (v := 0) d_X5_compare_6 ic_0 ?_
  refine aw_istore [(0, .ref 21), (1, .int x1), (2, .int x2), (3, .int 0), (4, .int 0), (5, .int 0), (6, .int 0)] d_X5_compare_7 (Nat.le_of_ble_eq_true rfl) rfl rfl ?_
  refine aw_iload d_X5_compare_9 6 rfl ?_
  refine aw_iload_n (i := 3) rfl d_X5_compare_11 3 rfl ?_
  refine aw_bipush (v := 12) d_X5_compare_12 ib_12 ?_
  refine aw_mmin d_X5_compare_14 tw_1614 (show 1 ≤ d + 1 by omega) (Nat.le_trans (Nat.le_of_ble_eq_true rfl) (show 100 ≤ 100 * (d + 1) by omega)) ⟨Nat.le_refl _, Nat.le_refl _⟩ ?_
  refine aw_vi (v2 := 0) (by decide) ?_
  refine aw_icmp_ge (tgt := 79) d_X5_compare_17 rfl (fun _ => ?_) (fun c => absurd c (by decide))
  refine aw_iload d_X5_compare_79 4 rfl ?_
  refine aw_aload_n (i := 0) rfl d_X5_compare_81 0 rfl ?_
  refine aw_geti (k0 := 15) kc_5 (ws_21 w) (Nat.le_of_ble_eq_true rfl) tw_452 d_X5_compare_82 rfl ?_
  refine aw_vi (v2 := 3) e_21_15 ?_
  refine aw_icmp_lt (tgt := 93) d_X5_compare_85 rfl (fun _ => ?_) (fun c => absurd c (by decide))
  refine aw_ldc (v := (-1000000)) d_X5_compare_93 tw_1627 ?_
  exact aw_iret rfl d_X5_compare_95 ⟨Nat.le_refl _, Nat.le_refl _⟩ ⟨_, rfl, ⟨rfl, rfl⟩⟩
theorem f_X11_habit (d : Nat) (h : Hp_) (w : Wf h) (e_0_7 : h_i h 0 7 = 0) (e_21_15 : h_i h 21 15 = 3)  (x1 : Int32) (x2 : Int32) : Ci (m_X11_habit (d + 2) 0 0) [.ref 0, .int x1, .int x2] h (fun r h' => (¬ (0 ≤ x1 ∧ x1 ≤ 3) ∧ r = (-1000000) ∧ h' = h) ∨ ((0 ≤ x1 ∧ x1 ≤ 3) ∧ ¬ (0 ≤ x2 ∧ x2 ≤ 3) ∧ r = (-1000000) ∧ h' = h) ∨ ((0 ≤ x1 ∧ x1 ≤ 3) ∧ (0 ≤ x2 ∧ x2 ≤ 3) ∧ ¬ x1 = x2 ∧ r = (-1000000) ∧ h' = h) ∨ ((0 ≤ x1 ∧ x1 ≤ 3) ∧ (0 ≤ x2 ∧ x2 ≤ 3) ∧ x1 = x2 ∧ r = (-1000000) ∧ h' = h)) := by
  refine Ct.of (fun _ _ _ => trivial) rfl (Nat.le_of_ble_eq_true rfl) ?_
  show AW (m_X11_habit (d + 2) 0 0) 0 0 0 [(0, .ref 0), (1, .int x1), (2, .int x2)] [] h (kI (fun r h' => (¬ (0 ≤ x1 ∧ x1 ≤ 3) ∧ r = (-1000000) ∧ h' = h) ∨ ((0 ≤ x1 ∧ x1 ≤ 3) ∧ ¬ (0 ≤ x2 ∧ x2 ≤ 3) ∧ r = (-1000000) ∧ h' = h) ∨ ((0 ≤ x1 ∧ x1 ≤ 3) ∧ (0 ≤ x2 ∧ x2 ≤ 3) ∧ ¬ x1 = x2 ∧ r = (-1000000) ∧ h' = h) ∨ ((0 ≤ x1 ∧ x1 ≤ 3) ∧ (0 ≤ x2 ∧ x2 ≤ 3) ∧ x1 = x2 ∧ r = (-1000000) ∧ h' = h)))
  refine aw_iload_n (i := 1) rfl d_X11_habit_0 1 rfl ?_
  refine aw_iconst (v := 0) d_X11_habit_1 ic_0 ?_
  refine aw_iconst (v := 3) d_X11_habit_2 ic_3 ?_
  refine aw_Si [.int x1, .int 0, .int 3] [] d_X11_habit_3 (cS_X11_within (d + 0) 0 0) tw_543 rfl (rr0 (Nat.le_of_ble_eq_true rfl) (Nat.le_of_ble_eq_true rfl)) (Nat.le_of_ble_eq_true rfl) xs0 (s_X11_within _ _ x1 0 3) (fun _ _ kk => ?_)
  obtain ⟨e1, e2⟩ := kk
  rw [e1, e2]
  refine aw_ifb_eq (tgt := 23) d_X11_habit_6 rfl (fun c3 => ?_) (fun c3 => ?_)
  · refine aw_ldcw (v := (-1000000)) d_X11_habit_23 tw_1644 ?_
    exact aw_iret rfl d_X11_habit_26 ⟨Nat.le_refl _, Nat.le_refl _⟩ ⟨_, rfl, (Or.inl ⟨c3, rfl, rfl⟩)⟩
  · refine aw_iload_n (i := 2) rfl d_X11_habit_9 2 rfl ?_
    refine aw_iconst (v := 0) d_X11_habit_10 ic_0 ?_
    refine aw_iconst (v := 3) d_X11_habit_11 ic_3 ?_
    refine aw_Si [.int x2, .int 0, .int 3] [] d_X11_habit_12 (cS_X11_within (d + 0) 0 0) tw_543 rfl (rr0 (Nat.le_of_ble_eq_true rfl) (Nat.le_of_ble_eq_true rfl)) (Nat.le_of_ble_eq_true rfl) xs0 (s_X11_within _ _ x2 0 3) (fun _ _ kk => ?_)
    obtain ⟨e4, e5⟩ := kk
    rw [e4, e5]
    refine aw_ifb_eq (tgt := 23) d_X11_habit_15 rfl (fun c6 => ?_) (fun c6 => ?_)
    · refine aw_ldcw (v := (-1000000)) d_X11_habit_23 tw_1644 ?_
      exact aw_iret rfl d_X11_habit_26 ⟨Nat.le_refl _, Nat.le_refl _⟩ ⟨_, rfl, (Or.inr (Or.inl ⟨c3, c6, rfl, rfl⟩))⟩
    · refine aw_iload_n (i := 1) rfl d_X11_habit_18 1 rfl ?_
      refine aw_iload_n (i := 2) rfl d_X11_habit_19 2 rfl ?_
      refine aw_icmp_ne (tgt := 27) d_X11_habit_20 rfl (fun c7 => ?_) (fun c7 => ?_)
      · refine aw_aload_n (i := 0) rfl d_X11_habit_27 0 rfl ?_
        refine aw_getr (k0 := 13) kc_11 (ws_0 w) (Nat.le_of_ble_eq_true rfl) tw_500 d_X11_habit_28 rfl (wr_0_13 w) ?_
        refine aw_iload_n (i := 1) rfl d_X11_habit_31 1 rfl ?_
        refine aw_iload_n (i := 2) rfl d_X11_habit_32 2 rfl ?_
        refine aw_aload_n (i := 0) rfl d_X11_habit_33 0 rfl ?_
        refine aw_geti (k0 := 7) kc_11 (ws_0 w) (Nat.le_of_ble_eq_true rfl) tw_494 d_X11_habit_34 rfl ?_
        refine aw_vi (v2 := 0) e_0_7 ?_
        refine aw_Vi 21 [.int x1, .int x2, .int 0] [] d_X11_habit_37 (cV_X5_compare (d + 1) 0 0) kc_5 (ws_21 w) tw_1645 rfl (rr0 (Nat.le_of_ble_eq_true rfl) (Nat.le_of_ble_eq_true rfl)) (Nat.le_of_ble_eq_true rfl) xs0 (f_X5_compare_104 d h w e_21_15 x1 x2) (fun r8 h9 kk => ?_)
        obtain ⟨ez8, ez9⟩ := kk
        obtain rfl := ez8.symm
        obtain rfl := ez9.symm
        exact aw_iret rfl d_X11_habit_40 ⟨Nat.le_refl _, Nat.le_refl _⟩ ⟨_, rfl, (Or.inr (Or.inr (Or.inl ⟨c3, c6, c7, rfl, rfl⟩)))⟩
      · refine aw_ldcw (v := (-1000000)) d_X11_habit_23 tw_1644 ?_
        exact aw_iret rfl d_X11_habit_26 ⟨Nat.le_refl _, Nat.le_refl _⟩ ⟨_, rfl, (Or.inr (Or.inr (Or.inr ⟨c3, c6, c7, rfl, rfl⟩)))⟩
theorem f_X11_complain (d : Nat) (h : Hp_) (w : Wf h) (e_0_7 : h_i h 0 7 = 0)  (x1 : Int32) (x2 : Int32) (x3 : Int32) (x4 : Int32) : Ci (m_X11_complain (d + 3) 0 0) [.ref 0, .int x1, .int x2, .int x3, .int x4] h (fun r h' => (r = (-1) ∧ h' = h)) := by
  refine Ct.of (fun _ _ _ => trivial) rfl (Nat.le_of_ble_eq_true rfl) ?_
  show AW (m_X11_complain (d + 3) 0 0) 0 0 0 [(0, .ref 0), (1, .int x1), (2, .int x2), (3, .int x3), (4, .int x4)] [] h (kI (fun r h' => (r = (-1) ∧ h' = h)))
  refine aw_aload_n (i := 0) rfl d_X11_complain_0 0 rfl ?_
  refine aw_iload_n (i := 1) rfl d_X11_complain_1 1 rfl ?_
  refine aw_Vi 0 [.int x1] [] d_X11_complain_2 (cV_X11_isMan (d + 2) 0 0) kc_11 (ws_0 w) tw_1098 rfl (rr0 (Nat.le_of_ble_eq_true rfl) (Nat.le_of_ble_eq_true rfl)) (Nat.le_of_ble_eq_true rfl) xs0 (f_X11_isMan_31 d h w e_0_7 x1) (fun r1 h2 kk => ?_)
  obtain ⟨ez8, ez9⟩ := kk
  obtain rfl := ez8.symm
  obtain rfl := ez9.symm
  refine aw_if_eq (tgt := 36) d_X11_complain_5 rfl (fun _ => ?_) (fun c => absurd c (by decide))
  refine aw_iconst (v := (-1)) d_X11_complain_36 ic_m1 ?_
  exact aw_iret rfl d_X11_complain_37 ⟨Nat.le_refl _, Nat.le_refl _⟩ ⟨_, rfl, ⟨rfl, rfl⟩⟩
theorem f_X11_countMore_107 (d : Nat) (h : Hp_) (w : Wf h) (e_11_1 : h_i h 11 1 = 0) (e_14_5 : h_i h 14 5 = 0) (e_18_3 : h_i h 18 3 = 0) (e_18_8 : h_i h 18 8 = 0) (e_19_2 : h_i h 19 2 = 0) (e_19_3 : h_i h 19 3 = 0) (e_20_3 : h_i h 20 3 = 0) (e_20_16 : h_i h 20 16 = 0) (e_21_12 : h_i h 21 12 = 0) (e_21_13 : h_i h 21 13 = 0)  (x1 : Int32) : Ci (m_X11_countMore (d + 0) 0 0) [.ref 0, .int x1] h (fun r h' => (x1 = 9 ∧ r = 0 ∧ h' = h) ∨ (x1 = 10 ∧ r = 0 ∧ h' = h) ∨ (x1 = 11 ∧ r = 0 ∧ h' = h) ∨ (x1 = 12 ∧ r = 0 ∧ h' = h) ∨ (x1 = 13 ∧ r = 0 ∧ h' = h) ∨ (x1 = 14 ∧ r = 0 ∧ h' = h) ∨ (x1 = 15 ∧ r = 0 ∧ h' = h) ∨ (x1 = 16 ∧ r = 0 ∧ h' = h) ∨ (x1 = 17 ∧ r = 0 ∧ h' = h) ∨ (x1 = 18 ∧ r = 0 ∧ h' = h) ∨ (¬ x1 = 9 ∧ ¬ x1 = 10 ∧ ¬ x1 = 11 ∧ ¬ x1 = 12 ∧ ¬ x1 = 13 ∧ ¬ x1 = 14 ∧ ¬ x1 = 15 ∧ ¬ x1 = 16 ∧ ¬ x1 = 17 ∧ ¬ x1 = 18 ∧ r = (-1) ∧ h' = h)) := by
  refine Ct.of (fun _ _ _ => trivial) rfl (Nat.le_of_ble_eq_true rfl) ?_
  show AW (m_X11_countMore (d + 0) 0 0) 0 0 0 [(0, .ref 0), (1, .int x1)] [] h (kI (fun r h' => (x1 = 9 ∧ r = 0 ∧ h' = h) ∨ (x1 = 10 ∧ r = 0 ∧ h' = h) ∨ (x1 = 11 ∧ r = 0 ∧ h' = h) ∨ (x1 = 12 ∧ r = 0 ∧ h' = h) ∨ (x1 = 13 ∧ r = 0 ∧ h' = h) ∨ (x1 = 14 ∧ r = 0 ∧ h' = h) ∨ (x1 = 15 ∧ r = 0 ∧ h' = h) ∨ (x1 = 16 ∧ r = 0 ∧ h' = h) ∨ (x1 = 17 ∧ r = 0 ∧ h' = h) ∨ (x1 = 18 ∧ r = 0 ∧ h' = h) ∨ (¬ x1 = 9 ∧ ¬ x1 = 10 ∧ ¬ x1 = 11 ∧ ¬ x1 = 12 ∧ ¬ x1 = 13 ∧ ¬ x1 = 14 ∧ ¬ x1 = 15 ∧ ¬ x1 = 16 ∧ ¬ x1 = 17 ∧ ¬ x1 = 18 ∧ r = (-1) ∧ h' = h)))
  refine aw_iload_n (i := 1) rfl d_X11_countMore_0 1 rfl ?_
  by_cases e1 : x1 = 9
  · refine aw_tableIn (off := 55) (tgt := 56) d_X11_countMore_1 (by rw [e1]; decide) (by rw [e1]; decide) (by rw [e1]; decide) rfl ?_
    refine aw_aload_n (i := 0) rfl d_X11_countMore_56 0 rfl ?_
    refine aw_getr (k0 := 10) kc_11 (ws_0 w) (Nat.le_of_ble_eq_true rfl) tw_497 d_X11_countMore_57 rfl (wr_0_10 w) ?_
    refine aw_geti (k0 := 3) kc_1 (ws_18 w) (Nat.le_of_ble_eq_true rfl) tw_266 d_X11_countMore_60 rfl ?_
    refine aw_vi (v2 := 0) e_18_3 ?_
    exact aw_iret rfl d_X11_countMore_63 ⟨Nat.le_refl _, Nat.le_refl _⟩ ⟨_, rfl, (Or.inl ⟨e1, rfl, rfl⟩)⟩
  by_cases e2 : x1 = 10
  · refine aw_tableIn (off := 63) (tgt := 64) d_X11_countMore_1 (by rw [e2]; decide) (by rw [e2]; decide) (by rw [e2]; decide) rfl ?_
    refine aw_aload_n (i := 0) rfl d_X11_countMore_64 0 rfl ?_
    refine aw_getr (k0 := 10) kc_11 (ws_0 w) (Nat.le_of_ble_eq_true rfl) tw_497 d_X11_countMore_65 rfl (wr_0_10 w) ?_
    refine aw_geti (k0 := 8) kc_1 (ws_18 w) (Nat.le_of_ble_eq_true rfl) tw_274 d_X11_countMore_68 rfl ?_
    refine aw_vi (v2 := 0) e_18_8 ?_
    exact aw_iret rfl d_X11_countMore_71 ⟨Nat.le_refl _, Nat.le_refl _⟩ ⟨_, rfl, (Or.inr (Or.inl ⟨e2, rfl, rfl⟩))⟩
  by_cases e3 : x1 = 11
  · refine aw_tableIn (off := 71) (tgt := 72) d_X11_countMore_1 (by rw [e3]; decide) (by rw [e3]; decide) (by rw [e3]; decide) rfl ?_
    refine aw_aload_n (i := 0) rfl d_X11_countMore_72 0 rfl ?_
    refine aw_getr (k0 := 11) kc_11 (ws_0 w) (Nat.le_of_ble_eq_true rfl) tw_498 d_X11_countMore_73 rfl (wr_0_11 w) ?_
    refine aw_geti (k0 := 2) kc_3 (ws_19 w) (Nat.le_of_ble_eq_true rfl) tw_324 d_X11_countMore_76 rfl ?_
    refine aw_vi (v2 := 0) e_19_2 ?_
    exact aw_iret rfl d_X11_countMore_79 ⟨Nat.le_refl _, Nat.le_refl _⟩ ⟨_, rfl, (Or.inr (Or.inr (Or.inl ⟨e3, rfl, rfl⟩)))⟩
  by_cases e4 : x1 = 12
  · refine aw_tableIn (off := 79) (tgt := 80) d_X11_countMore_1 (by rw [e4]; decide) (by rw [e4]; decide) (by rw [e4]; decide) rfl ?_
    refine aw_aload_n (i := 0) rfl d_X11_countMore_80 0 rfl ?_
    refine aw_getr (k0 := 11) kc_11 (ws_0 w) (Nat.le_of_ble_eq_true rfl) tw_498 d_X11_countMore_81 rfl (wr_0_11 w) ?_
    refine aw_geti (k0 := 3) kc_3 (ws_19 w) (Nat.le_of_ble_eq_true rfl) tw_326 d_X11_countMore_84 rfl ?_
    refine aw_vi (v2 := 0) e_19_3 ?_
    exact aw_iret rfl d_X11_countMore_87 ⟨Nat.le_refl _, Nat.le_refl _⟩ ⟨_, rfl, (Or.inr (Or.inr (Or.inr (Or.inl ⟨e4, rfl, rfl⟩))))⟩
  by_cases e5 : x1 = 13
  · refine aw_tableIn (off := 87) (tgt := 88) d_X11_countMore_1 (by rw [e5]; decide) (by rw [e5]; decide) (by rw [e5]; decide) rfl ?_
    refine aw_aload_n (i := 0) rfl d_X11_countMore_88 0 rfl ?_
    refine aw_getr (k0 := 12) kc_11 (ws_0 w) (Nat.le_of_ble_eq_true rfl) tw_499 d_X11_countMore_89 rfl (wr_0_12 w) ?_
    refine aw_geti (k0 := 3) kc_6 (ws_20 w) (Nat.le_of_ble_eq_true rfl) tw_367 d_X11_countMore_92 rfl ?_
    refine aw_vi (v2 := 0) e_20_3 ?_
    exact aw_iret rfl d_X11_countMore_95 ⟨Nat.le_refl _, Nat.le_refl _⟩ ⟨_, rfl, (Or.inr (Or.inr (Or.inr (Or.inr (Or.inl ⟨e5, rfl, rfl⟩)))))⟩
  by_cases e6 : x1 = 14
  · refine aw_tableIn (off := 95) (tgt := 96) d_X11_countMore_1 (by rw [e6]; decide) (by rw [e6]; decide) (by rw [e6]; decide) rfl ?_
    refine aw_aload_n (i := 0) rfl d_X11_countMore_96 0 rfl ?_
    refine aw_getr (k0 := 12) kc_11 (ws_0 w) (Nat.le_of_ble_eq_true rfl) tw_499 d_X11_countMore_97 rfl (wr_0_12 w) ?_
    refine aw_geti (k0 := 16) kc_6 (ws_20 w) (Nat.le_of_ble_eq_true rfl) tw_381 d_X11_countMore_100 rfl ?_
    refine aw_vi (v2 := 0) e_20_16 ?_
    exact aw_iret rfl d_X11_countMore_103 ⟨Nat.le_refl _, Nat.le_refl _⟩ ⟨_, rfl, (Or.inr (Or.inr (Or.inr (Or.inr (Or.inr (Or.inl ⟨e6, rfl, rfl⟩))))))⟩
  by_cases e7 : x1 = 15
  · refine aw_tableIn (off := 103) (tgt := 104) d_X11_countMore_1 (by rw [e7]; decide) (by rw [e7]; decide) (by rw [e7]; decide) rfl ?_
    refine aw_aload_n (i := 0) rfl d_X11_countMore_104 0 rfl ?_
    refine aw_getr (k0 := 5) kc_11 (ws_0 w) (Nat.le_of_ble_eq_true rfl) tw_492 d_X11_countMore_105 rfl (wr_0_5 w) ?_
    refine aw_geti (k0 := 5) kc_10 (ws_14 w) (Nat.le_of_ble_eq_true rfl) tw_130 d_X11_countMore_108 rfl ?_
    refine aw_vi (v2 := 0) e_14_5 ?_
    exact aw_iret rfl d_X11_countMore_111 ⟨Nat.le_refl _, Nat.le_refl _⟩ ⟨_, rfl, (Or.inr (Or.inr (Or.inr (Or.inr (Or.inr (Or.inr (Or.inl ⟨e7, rfl, rfl⟩)))))))⟩
  by_cases e8 : x1 = 16
  · refine aw_tableIn (off := 111) (tgt := 112) d_X11_countMore_1 (by rw [e8]; decide) (by rw [e8]; decide) (by rw [e8]; decide) rfl ?_
    refine aw_aload_n (i := 0) rfl d_X11_countMore_112 0 rfl ?_
    refine aw_getr (k0 := 13) kc_11 (ws_0 w) (Nat.le_of_ble_eq_true rfl) tw_500 d_X11_countMore_113 rfl (wr_0_13 w) ?_
    refine aw_geti (k0 := 12) kc_5 (ws_21 w) (Nat.le_of_ble_eq_true rfl) tw_448 d_X11_countMore_116 rfl ?_
    refine aw_vi (v2 := 0) e_21_12 ?_
    exact aw_iret rfl d_X11_countMore_119 ⟨Nat.le_refl _, Nat.le_refl _⟩ ⟨_, rfl, (Or.inr (Or.inr (Or.inr (Or.inr (Or.inr (Or.inr (Or.inr (Or.inl ⟨e8, rfl, rfl⟩))))))))⟩
  by_cases e9 : x1 = 17
  · refine aw_tableIn (off := 119) (tgt := 120) d_X11_countMore_1 (by rw [e9]; decide) (by rw [e9]; decide) (by rw [e9]; decide) rfl ?_
    refine aw_aload_n (i := 0) rfl d_X11_countMore_120 0 rfl ?_
    refine aw_getr (k0 := 13) kc_11 (ws_0 w) (Nat.le_of_ble_eq_true rfl) tw_500 d_X11_countMore_121 rfl (wr_0_13 w) ?_
    refine aw_geti (k0 := 13) kc_5 (ws_21 w) (Nat.le_of_ble_eq_true rfl) tw_450 d_X11_countMore_124 rfl ?_
    refine aw_vi (v2 := 0) e_21_13 ?_
    exact aw_iret rfl d_X11_countMore_127 ⟨Nat.le_refl _, Nat.le_refl _⟩ ⟨_, rfl, (Or.inr (Or.inr (Or.inr (Or.inr (Or.inr (Or.inr (Or.inr (Or.inr (Or.inl ⟨e9, rfl, rfl⟩)))))))))⟩
  by_cases e10 : x1 = 18
  · refine aw_tableIn (off := 127) (tgt := 128) d_X11_countMore_1 (by rw [e10]; decide) (by rw [e10]; decide) (by rw [e10]; decide) rfl ?_
    refine aw_aload_n (i := 0) rfl d_X11_countMore_128 0 rfl ?_
    refine aw_getr (k0 := 2) kc_11 (ws_0 w) (Nat.le_of_ble_eq_true rfl) tw_489 d_X11_countMore_129 rfl (wr_0_2 w) ?_
    refine aw_geti (k0 := 1) kc_8 (ws_11 w) (Nat.le_of_ble_eq_true rfl) tw_61 d_X11_countMore_132 rfl ?_
    refine aw_vi (v2 := 0) e_11_1 ?_
    exact aw_iret rfl d_X11_countMore_135 ⟨Nat.le_refl _, Nat.le_refl _⟩ ⟨_, rfl, (Or.inr (Or.inr (Or.inr (Or.inr (Or.inr (Or.inr (Or.inr (Or.inr (Or.inr (Or.inl ⟨e10, rfl, rfl⟩))))))))))⟩
  have n11 := sw_ne (9) (by decide) e1
  have n12 := sw_ne (10) (by decide) e2
  have n13 := sw_ne (11) (by decide) e3
  have n14 := sw_ne (12) (by decide) e4
  have n15 := sw_ne (13) (by decide) e5
  have n16 := sw_ne (14) (by decide) e6
  have n17 := sw_ne (15) (by decide) e7
  have n18 := sw_ne (16) (by decide) e8
  have n19 := sw_ne (17) (by decide) e9
  have n20 := sw_ne (18) (by decide) e10
  refine aw_tableOut (tgt := 136) d_X11_countMore_1 (by omega) rfl ?_
  refine aw_iconst (v := (-1)) d_X11_countMore_136 ic_m1 ?_
  exact aw_iret rfl d_X11_countMore_137 ⟨Nat.le_refl _, Nat.le_refl _⟩ ⟨_, rfl, (Or.inr (Or.inr (Or.inr (Or.inr (Or.inr (Or.inr (Or.inr (Or.inr (Or.inr (Or.inr ⟨e1, e2, e3, e4, e5, e6, e7, e8, e9, e10, rfl, rfl⟩))))))))))⟩
theorem f_X11_count (d : Nat) (h : Hp_) (w : Wf h) (e_0_0 : h_i h 0 0 = 0) (e_0_7 : h_i h 0 7 = 0) (e_10_1 : h_i h 10 1 = 0) (e_11_1 : h_i h 11 1 = 0) (e_12_3 : h_i h 12 3 = 0) (e_13_5 : h_i h 13 5 = 0) (e_14_5 : h_i h 14 5 = 0) (e_16_7 : h_i h 16 7 = 0) (e_17_7 : h_i h 17 7 = 0) (e_17_8 : h_i h 17 8 = 0) (e_17_16 : h_i h 17 16 = 0) (e_18_3 : h_i h 18 3 = 0) (e_18_8 : h_i h 18 8 = 0) (e_19_2 : h_i h 19 2 = 0) (e_19_3 : h_i h 19 3 = 0) (e_20_3 : h_i h 20 3 = 0) (e_20_16 : h_i h 20 16 = 0) (e_21_12 : h_i h 21 12 = 0) (e_21_13 : h_i h 21 13 = 0)  (x1 : Int32) : Ci (m_X11_count (d + 1) 0 0) [.ref 0, .int x1] h (fun r h' => (x1 = 0 ∧ r = 0 ∧ h' = h) ∨ (x1 = 1 ∧ r = 0 ∧ h' = h) ∨ (x1 = 2 ∧ r = 0 ∧ h' = h) ∨ (x1 = 3 ∧ r = 0 ∧ h' = h) ∨ (x1 = 4 ∧ r = 0 ∧ h' = h) ∨ (x1 = 5 ∧ r = 0 ∧ h' = h) ∨ (x1 = 6 ∧ r = 0 ∧ h' = h) ∨ (x1 = 7 ∧ r = 0 ∧ h' = h) ∨ (x1 = 8 ∧ r = 0 ∧ h' = h) ∨ (¬ x1 = 0 ∧ ¬ x1 = 1 ∧ ¬ x1 = 2 ∧ ¬ x1 = 3 ∧ ¬ x1 = 4 ∧ ¬ x1 = 5 ∧ ¬ x1 = 6 ∧ ¬ x1 = 7 ∧ ¬ x1 = 8 ∧ x1 = 9 ∧ r = 0 ∧ h' = h) ∨ (¬ x1 = 0 ∧ ¬ x1 = 1 ∧ ¬ x1 = 2 ∧ ¬ x1 = 3 ∧ ¬ x1 = 4 ∧ ¬ x1 = 5 ∧ ¬ x1 = 6 ∧ ¬ x1 = 7 ∧ ¬ x1 = 8 ∧ x1 = 10 ∧ r = 0 ∧ h' = h) ∨ (¬ x1 = 0 ∧ ¬ x1 = 1 ∧ ¬ x1 = 2 ∧ ¬ x1 = 3 ∧ ¬ x1 = 4 ∧ ¬ x1 = 5 ∧ ¬ x1 = 6 ∧ ¬ x1 = 7 ∧ ¬ x1 = 8 ∧ x1 = 11 ∧ r = 0 ∧ h' = h) ∨ (¬ x1 = 0 ∧ ¬ x1 = 1 ∧ ¬ x1 = 2 ∧ ¬ x1 = 3 ∧ ¬ x1 = 4 ∧ ¬ x1 = 5 ∧ ¬ x1 = 6 ∧ ¬ x1 = 7 ∧ ¬ x1 = 8 ∧ x1 = 12 ∧ r = 0 ∧ h' = h) ∨ (¬ x1 = 0 ∧ ¬ x1 = 1 ∧ ¬ x1 = 2 ∧ ¬ x1 = 3 ∧ ¬ x1 = 4 ∧ ¬ x1 = 5 ∧ ¬ x1 = 6 ∧ ¬ x1 = 7 ∧ ¬ x1 = 8 ∧ x1 = 13 ∧ r = 0 ∧ h' = h) ∨ (¬ x1 = 0 ∧ ¬ x1 = 1 ∧ ¬ x1 = 2 ∧ ¬ x1 = 3 ∧ ¬ x1 = 4 ∧ ¬ x1 = 5 ∧ ¬ x1 = 6 ∧ ¬ x1 = 7 ∧ ¬ x1 = 8 ∧ x1 = 14 ∧ r = 0 ∧ h' = h) ∨ (¬ x1 = 0 ∧ ¬ x1 = 1 ∧ ¬ x1 = 2 ∧ ¬ x1 = 3 ∧ ¬ x1 = 4 ∧ ¬ x1 = 5 ∧ ¬ x1 = 6 ∧ ¬ x1 = 7 ∧ ¬ x1 = 8 ∧ x1 = 15 ∧ r = 0 ∧ h' = h) ∨ (¬ x1 = 0 ∧ ¬ x1 = 1 ∧ ¬ x1 = 2 ∧ ¬ x1 = 3 ∧ ¬ x1 = 4 ∧ ¬ x1 = 5 ∧ ¬ x1 = 6 ∧ ¬ x1 = 7 ∧ ¬ x1 = 8 ∧ x1 = 16 ∧ r = 0 ∧ h' = h) ∨ (¬ x1 = 0 ∧ ¬ x1 = 1 ∧ ¬ x1 = 2 ∧ ¬ x1 = 3 ∧ ¬ x1 = 4 ∧ ¬ x1 = 5 ∧ ¬ x1 = 6 ∧ ¬ x1 = 7 ∧ ¬ x1 = 8 ∧ x1 = 17 ∧ r = 0 ∧ h' = h) ∨ (¬ x1 = 0 ∧ ¬ x1 = 1 ∧ ¬ x1 = 2 ∧ ¬ x1 = 3 ∧ ¬ x1 = 4 ∧ ¬ x1 = 5 ∧ ¬ x1 = 6 ∧ ¬ x1 = 7 ∧ ¬ x1 = 8 ∧ x1 = 18 ∧ r = 0 ∧ h' = h) ∨ (¬ x1 = 0 ∧ ¬ x1 = 1 ∧ ¬ x1 = 2 ∧ ¬ x1 = 3 ∧ ¬ x1 = 4 ∧ ¬ x1 = 5 ∧ ¬ x1 = 6 ∧ ¬ x1 = 7 ∧ ¬ x1 = 8 ∧ ¬ x1 = 9 ∧ ¬ x1 = 10 ∧ ¬ x1 = 11 ∧ ¬ x1 = 12 ∧ ¬ x1 = 13 ∧ ¬ x1 = 14 ∧ ¬ x1 = 15 ∧ ¬ x1 = 16 ∧ ¬ x1 = 17 ∧ ¬ x1 = 18 ∧ r = (-1) ∧ h' = h)) := by
  refine Ct.of (fun _ _ _ => trivial) rfl (Nat.le_of_ble_eq_true rfl) ?_
  show AW (m_X11_count (d + 1) 0 0) 0 0 0 [(0, .ref 0), (1, .int x1)] [] h (kI (fun r h' => (x1 = 0 ∧ r = 0 ∧ h' = h) ∨ (x1 = 1 ∧ r = 0 ∧ h' = h) ∨ (x1 = 2 ∧ r = 0 ∧ h' = h) ∨ (x1 = 3 ∧ r = 0 ∧ h' = h) ∨ (x1 = 4 ∧ r = 0 ∧ h' = h) ∨ (x1 = 5 ∧ r = 0 ∧ h' = h) ∨ (x1 = 6 ∧ r = 0 ∧ h' = h) ∨ (x1 = 7 ∧ r = 0 ∧ h' = h) ∨ (x1 = 8 ∧ r = 0 ∧ h' = h) ∨ (¬ x1 = 0 ∧ ¬ x1 = 1 ∧ ¬ x1 = 2 ∧ ¬ x1 = 3 ∧ ¬ x1 = 4 ∧ ¬ x1 = 5 ∧ ¬ x1 = 6 ∧ ¬ x1 = 7 ∧ ¬ x1 = 8 ∧ x1 = 9 ∧ r = 0 ∧ h' = h) ∨ (¬ x1 = 0 ∧ ¬ x1 = 1 ∧ ¬ x1 = 2 ∧ ¬ x1 = 3 ∧ ¬ x1 = 4 ∧ ¬ x1 = 5 ∧ ¬ x1 = 6 ∧ ¬ x1 = 7 ∧ ¬ x1 = 8 ∧ x1 = 10 ∧ r = 0 ∧ h' = h) ∨ (¬ x1 = 0 ∧ ¬ x1 = 1 ∧ ¬ x1 = 2 ∧ ¬ x1 = 3 ∧ ¬ x1 = 4 ∧ ¬ x1 = 5 ∧ ¬ x1 = 6 ∧ ¬ x1 = 7 ∧ ¬ x1 = 8 ∧ x1 = 11 ∧ r = 0 ∧ h' = h) ∨ (¬ x1 = 0 ∧ ¬ x1 = 1 ∧ ¬ x1 = 2 ∧ ¬ x1 = 3 ∧ ¬ x1 = 4 ∧ ¬ x1 = 5 ∧ ¬ x1 = 6 ∧ ¬ x1 = 7 ∧ ¬ x1 = 8 ∧ x1 = 12 ∧ r = 0 ∧ h' = h) ∨ (¬ x1 = 0 ∧ ¬ x1 = 1 ∧ ¬ x1 = 2 ∧ ¬ x1 = 3 ∧ ¬ x1 = 4 ∧ ¬ x1 = 5 ∧ ¬ x1 = 6 ∧ ¬ x1 = 7 ∧ ¬ x1 = 8 ∧ x1 = 13 ∧ r = 0 ∧ h' = h) ∨ (¬ x1 = 0 ∧ ¬ x1 = 1 ∧ ¬ x1 = 2 ∧ ¬ x1 = 3 ∧ ¬ x1 = 4 ∧ ¬ x1 = 5 ∧ ¬ x1 = 6 ∧ ¬ x1 = 7 ∧ ¬ x1 = 8 ∧ x1 = 14 ∧ r = 0 ∧ h' = h) ∨ (¬ x1 = 0 ∧ ¬ x1 = 1 ∧ ¬ x1 = 2 ∧ ¬ x1 = 3 ∧ ¬ x1 = 4 ∧ ¬ x1 = 5 ∧ ¬ x1 = 6 ∧ ¬ x1 = 7 ∧ ¬ x1 = 8 ∧ x1 = 15 ∧ r = 0 ∧ h' = h) ∨ (¬ x1 = 0 ∧ ¬ x1 = 1 ∧ ¬ x1 = 2 ∧ ¬ x1 = 3 ∧ ¬ x1 = 4 ∧ ¬ x1 = 5 ∧ ¬ x1 = 6 ∧ ¬ x1 = 7 ∧ ¬ x1 = 8 ∧ x1 = 16 ∧ r = 0 ∧ h' = h) ∨ (¬ x1 = 0 ∧ ¬ x1 = 1 ∧ ¬ x1 = 2 ∧ ¬ x1 = 3 ∧ ¬ x1 = 4 ∧ ¬ x1 = 5 ∧ ¬ x1 = 6 ∧ ¬ x1 = 7 ∧ ¬ x1 = 8 ∧ x1 = 17 ∧ r = 0 ∧ h' = h) ∨ (¬ x1 = 0 ∧ ¬ x1 = 1 ∧ ¬ x1 = 2 ∧ ¬ x1 = 3 ∧ ¬ x1 = 4 ∧ ¬ x1 = 5 ∧ ¬ x1 = 6 ∧ ¬ x1 = 7 ∧ ¬ x1 = 8 ∧ x1 = 18 ∧ r = 0 ∧ h' = h) ∨ (¬ x1 = 0 ∧ ¬ x1 = 1 ∧ ¬ x1 = 2 ∧ ¬ x1 = 3 ∧ ¬ x1 = 4 ∧ ¬ x1 = 5 ∧ ¬ x1 = 6 ∧ ¬ x1 = 7 ∧ ¬ x1 = 8 ∧ ¬ x1 = 9 ∧ ¬ x1 = 10 ∧ ¬ x1 = 11 ∧ ¬ x1 = 12 ∧ ¬ x1 = 13 ∧ ¬ x1 = 14 ∧ ¬ x1 = 15 ∧ ¬ x1 = 16 ∧ ¬ x1 = 17 ∧ ¬ x1 = 18 ∧ r = (-1) ∧ h' = h)))
  refine aw_iload_n (i := 1) rfl d_X11_count_0 1 rfl ?_
  by_cases e1 : x1 = 0
  · refine aw_tableIn (off := 51) (tgt := 52) d_X11_count_1 (by rw [e1]; decide) (by rw [e1]; decide) (by rw [e1]; decide) rfl ?_
    refine aw_aload_n (i := 0) rfl d_X11_count_52 0 rfl ?_
    refine aw_geti (k0 := 0) kc_11 (ws_0 w) (Nat.le_of_ble_eq_true rfl) tw_487 d_X11_count_53 rfl ?_
    refine aw_vi (v2 := 0) e_0_0 ?_
    exact aw_iret rfl d_X11_count_56 ⟨Nat.le_refl _, Nat.le_refl _⟩ ⟨_, rfl, (Or.inl ⟨e1, rfl, rfl⟩)⟩
  by_cases e2 : x1 = 1
  · refine aw_tableIn (off := 56) (tgt := 57) d_X11_count_1 (by rw [e2]; decide) (by rw [e2]; decide) (by rw [e2]; decide) rfl ?_
    refine aw_aload_n (i := 0) rfl d_X11_count_57 0 rfl ?_
    refine aw_getr (k0 := 1) kc_11 (ws_0 w) (Nat.le_of_ble_eq_true rfl) tw_488 d_X11_count_58 rfl (wr_0_1 w) ?_
    refine aw_geti (k0 := 1) kc_9 (ws_10 w) (Nat.le_of_ble_eq_true rfl) tw_45 d_X11_count_61 rfl ?_
    refine aw_vi (v2 := 0) e_10_1 ?_
    exact aw_iret rfl d_X11_count_64 ⟨Nat.le_refl _, Nat.le_refl _⟩ ⟨_, rfl, (Or.inr (Or.inl ⟨e2, rfl, rfl⟩))⟩
  by_cases e3 : x1 = 2
  · refine aw_tableIn (off := 64) (tgt := 65) d_X11_count_1 (by rw [e3]; decide) (by rw [e3]; decide) (by rw [e3]; decide) rfl ?_
    refine aw_aload_n (i := 0) rfl d_X11_count_65 0 rfl ?_
    refine aw_geti (k0 := 7) kc_11 (ws_0 w) (Nat.le_of_ble_eq_true rfl) tw_494 d_X11_count_66 rfl ?_
    refine aw_vi (v2 := 0) e_0_7 ?_
    exact aw_iret rfl d_X11_count_69 ⟨Nat.le_refl _, Nat.le_refl _⟩ ⟨_, rfl, (Or.inr (Or.inr (Or.inl ⟨e3, rfl, rfl⟩)))⟩
  by_cases e4 : x1 = 3
  · refine aw_tableIn (off := 69) (tgt := 70) d_X11_count_1 (by rw [e4]; decide) (by rw [e4]; decide) (by rw [e4]; decide) rfl ?_
    refine aw_aload_n (i := 0) rfl d_X11_count_70 0 rfl ?_
    refine aw_getr (k0 := 3) kc_11 (ws_0 w) (Nat.le_of_ble_eq_true rfl) tw_490 d_X11_count_71 rfl (wr_0_3 w) ?_
    refine aw_geti (k0 := 3) kc_0 (ws_12 w) (Nat.le_of_ble_eq_true rfl) tw_108 d_X11_count_74 rfl ?_
    refine aw_vi (v2 := 0) e_12_3 ?_
    exact aw_iret rfl d_X11_count_77 ⟨Nat.le_refl _, Nat.le_refl _⟩ ⟨_, rfl, (Or.inr (Or.inr (Or.inr (Or.inl ⟨e4, rfl, rfl⟩))))⟩
  by_cases e5 : x1 = 4
  · refine aw_tableIn (off := 77) (tgt := 78) d_X11_count_1 (by rw [e5]; decide) (by rw [e5]; decide) (by rw [e5]; decide) rfl ?_
    refine aw_aload_n (i := 0) rfl d_X11_count_78 0 rfl ?_
    refine aw_getr (k0 := 8) kc_11 (ws_0 w) (Nat.le_of_ble_eq_true rfl) tw_495 d_X11_count_79 rfl (wr_0_8 w) ?_
    refine aw_geti (k0 := 7) kc_7 (ws_16 w) (Nat.le_of_ble_eq_true rfl) tw_160 d_X11_count_82 rfl ?_
    refine aw_vi (v2 := 0) e_16_7 ?_
    exact aw_iret rfl d_X11_count_85 ⟨Nat.le_refl _, Nat.le_refl _⟩ ⟨_, rfl, (Or.inr (Or.inr (Or.inr (Or.inr (Or.inl ⟨e5, rfl, rfl⟩)))))⟩
  by_cases e6 : x1 = 5
  · refine aw_tableIn (off := 85) (tgt := 86) d_X11_count_1 (by rw [e6]; decide) (by rw [e6]; decide) (by rw [e6]; decide) rfl ?_
    refine aw_aload_n (i := 0) rfl d_X11_count_86 0 rfl ?_
    refine aw_getr (k0 := 9) kc_11 (ws_0 w) (Nat.le_of_ble_eq_true rfl) tw_496 d_X11_count_87 rfl (wr_0_9 w) ?_
    refine aw_geti (k0 := 7) kc_4 (ws_17 w) (Nat.le_of_ble_eq_true rfl) tw_204 d_X11_count_90 rfl ?_
    refine aw_vi (v2 := 0) e_17_7 ?_
    exact aw_iret rfl d_X11_count_93 ⟨Nat.le_refl _, Nat.le_refl _⟩ ⟨_, rfl, (Or.inr (Or.inr (Or.inr (Or.inr (Or.inr (Or.inl ⟨e6, rfl, rfl⟩))))))⟩
  by_cases e7 : x1 = 6
  · refine aw_tableIn (off := 93) (tgt := 94) d_X11_count_1 (by rw [e7]; decide) (by rw [e7]; decide) (by rw [e7]; decide) rfl ?_
    refine aw_aload_n (i := 0) rfl d_X11_count_94 0 rfl ?_
    refine aw_getr (k0 := 9) kc_11 (ws_0 w) (Nat.le_of_ble_eq_true rfl) tw_496 d_X11_count_95 rfl (wr_0_9 w) ?_
    refine aw_geti (k0 := 8) kc_4 (ws_17 w) (Nat.le_of_ble_eq_true rfl) tw_206 d_X11_count_98 rfl ?_
    refine aw_vi (v2 := 0) e_17_8 ?_
    exact aw_iret rfl d_X11_count_101 ⟨Nat.le_refl _, Nat.le_refl _⟩ ⟨_, rfl, (Or.inr (Or.inr (Or.inr (Or.inr (Or.inr (Or.inr (Or.inl ⟨e7, rfl, rfl⟩)))))))⟩
  by_cases e8 : x1 = 7
  · refine aw_tableIn (off := 101) (tgt := 102) d_X11_count_1 (by rw [e8]; decide) (by rw [e8]; decide) (by rw [e8]; decide) rfl ?_
    refine aw_aload_n (i := 0) rfl d_X11_count_102 0 rfl ?_
    refine aw_getr (k0 := 4) kc_11 (ws_0 w) (Nat.le_of_ble_eq_true rfl) tw_491 d_X11_count_103 rfl (wr_0_4 w) ?_
    refine aw_geti (k0 := 5) kc_10 (ws_13 w) (Nat.le_of_ble_eq_true rfl) tw_130 d_X11_count_106 rfl ?_
    refine aw_vi (v2 := 0) e_13_5 ?_
    exact aw_iret rfl d_X11_count_109 ⟨Nat.le_refl _, Nat.le_refl _⟩ ⟨_, rfl, (Or.inr (Or.inr (Or.inr (Or.inr (Or.inr (Or.inr (Or.inr (Or.inl ⟨e8, rfl, rfl⟩))))))))⟩
  by_cases e9 : x1 = 8
  · refine aw_tableIn (off := 109) (tgt := 110) d_X11_count_1 (by rw [e9]; decide) (by rw [e9]; decide) (by rw [e9]; decide) rfl ?_
    refine aw_aload_n (i := 0) rfl d_X11_count_110 0 rfl ?_
    refine aw_getr (k0 := 9) kc_11 (ws_0 w) (Nat.le_of_ble_eq_true rfl) tw_496 d_X11_count_111 rfl (wr_0_9 w) ?_
    refine aw_geti (k0 := 16) kc_4 (ws_17 w) (Nat.le_of_ble_eq_true rfl) tw_216 d_X11_count_114 rfl ?_
    refine aw_vi (v2 := 0) e_17_16 ?_
    exact aw_iret rfl d_X11_count_117 ⟨Nat.le_refl _, Nat.le_refl _⟩ ⟨_, rfl, (Or.inr (Or.inr (Or.inr (Or.inr (Or.inr (Or.inr (Or.inr (Or.inr (Or.inl ⟨e9, rfl, rfl⟩)))))))))⟩
  have n32 := sw_ne (0) (by decide) e1
  have n33 := sw_ne (1) (by decide) e2
  have n34 := sw_ne (2) (by decide) e3
  have n35 := sw_ne (3) (by decide) e4
  have n36 := sw_ne (4) (by decide) e5
  have n37 := sw_ne (5) (by decide) e6
  have n38 := sw_ne (6) (by decide) e7
  have n39 := sw_ne (7) (by decide) e8
  have n40 := sw_ne (8) (by decide) e9
  refine aw_tableOut (tgt := 118) d_X11_count_1 (by omega) rfl ?_
  refine aw_aload_n (i := 0) rfl d_X11_count_118 0 rfl ?_
  refine aw_iload_n (i := 1) rfl d_X11_count_119 1 rfl ?_
  refine aw_Vi 0 [.int x1] [] d_X11_count_120 (cV_X11_countMore (d + 0) 0 0) kc_11 (ws_0 w) tw_1657 rfl (rr0 (Nat.le_of_ble_eq_true rfl) (Nat.le_of_ble_eq_true rfl)) (Nat.le_of_ble_eq_true rfl) xs0 (f_X11_countMore_107 d h w e_11_1 e_14_5 e_18_3 e_18_8 e_19_2 e_19_3 e_20_3 e_20_16 e_21_12 e_21_13 x1) (fun r10 h11 kk => ?_)
  rcases kk with ⟨c12, ez8, ez9⟩ | ⟨c13, ez8, ez9⟩ | ⟨c14, ez8, ez9⟩ | ⟨c15, ez8, ez9⟩ | ⟨c16, ez8, ez9⟩ | ⟨c17, ez8, ez9⟩ | ⟨c18, ez8, ez9⟩ | ⟨c19, ez8, ez9⟩ | ⟨c20, ez8, ez9⟩ | ⟨c21, ez8, ez9⟩ | ⟨c22, c23, c24, c25, c26, c27, c28, c29, c30, c31, ez8, ez9⟩
  · obtain rfl := ez8.symm
    obtain rfl := ez9.symm
    exact aw_iret rfl d_X11_count_123 ⟨Nat.le_refl _, Nat.le_refl _⟩ ⟨_, rfl, (Or.inr (Or.inr (Or.inr (Or.inr (Or.inr (Or.inr (Or.inr (Or.inr (Or.inr (Or.inl ⟨e1, e2, e3, e4, e5, e6, e7, e8, e9, c12, rfl, rfl⟩))))))))))⟩
  · obtain rfl := ez8.symm
    obtain rfl := ez9.symm
    exact aw_iret rfl d_X11_count_123 ⟨Nat.le_refl _, Nat.le_refl _⟩ ⟨_, rfl, (Or.inr (Or.inr (Or.inr (Or.inr (Or.inr (Or.inr (Or.inr (Or.inr (Or.inr (Or.inr (Or.inl ⟨e1, e2, e3, e4, e5, e6, e7, e8, e9, c13, rfl, rfl⟩)))))))))))⟩
  · obtain rfl := ez8.symm
    obtain rfl := ez9.symm
    exact aw_iret rfl d_X11_count_123 ⟨Nat.le_refl _, Nat.le_refl _⟩ ⟨_, rfl, (Or.inr (Or.inr (Or.inr (Or.inr (Or.inr (Or.inr (Or.inr (Or.inr (Or.inr (Or.inr (Or.inr (Or.inl ⟨e1, e2, e3, e4, e5, e6, e7, e8, e9, c14, rfl, rfl⟩))))))))))))⟩
  · obtain rfl := ez8.symm
    obtain rfl := ez9.symm
    exact aw_iret rfl d_X11_count_123 ⟨Nat.le_refl _, Nat.le_refl _⟩ ⟨_, rfl, (Or.inr (Or.inr (Or.inr (Or.inr (Or.inr (Or.inr (Or.inr (Or.inr (Or.inr (Or.inr (Or.inr (Or.inr (Or.inl ⟨e1, e2, e3, e4, e5, e6, e7, e8, e9, c15, rfl, rfl⟩)))))))))))))⟩
  · obtain rfl := ez8.symm
    obtain rfl := ez9.symm
    exact aw_iret rfl d_X11_count_123 ⟨Nat.le_refl _, Nat.le_refl _⟩ ⟨_, rfl, (Or.inr (Or.inr (Or.inr (Or.inr (Or.inr (Or.inr (Or.inr (Or.inr (Or.inr (Or.inr (Or.inr (Or.inr (Or.inr (Or.inl ⟨e1, e2, e3, e4, e5, e6, e7, e8, e9, c16, rfl, rfl⟩))))))))))))))⟩
  · obtain rfl := ez8.symm
    obtain rfl := ez9.symm
    exact aw_iret rfl d_X11_count_123 ⟨Nat.le_refl _, Nat.le_refl _⟩ ⟨_, rfl, (Or.inr (Or.inr (Or.inr (Or.inr (Or.inr (Or.inr (Or.inr (Or.inr (Or.inr (Or.inr (Or.inr (Or.inr (Or.inr (Or.inr (Or.inl ⟨e1, e2, e3, e4, e5, e6, e7, e8, e9, c17, rfl, rfl⟩)))))))))))))))⟩
  · obtain rfl := ez8.symm
    obtain rfl := ez9.symm
    exact aw_iret rfl d_X11_count_123 ⟨Nat.le_refl _, Nat.le_refl _⟩ ⟨_, rfl, (Or.inr (Or.inr (Or.inr (Or.inr (Or.inr (Or.inr (Or.inr (Or.inr (Or.inr (Or.inr (Or.inr (Or.inr (Or.inr (Or.inr (Or.inr (Or.inl ⟨e1, e2, e3, e4, e5, e6, e7, e8, e9, c18, rfl, rfl⟩))))))))))))))))⟩
  · obtain rfl := ez8.symm
    obtain rfl := ez9.symm
    exact aw_iret rfl d_X11_count_123 ⟨Nat.le_refl _, Nat.le_refl _⟩ ⟨_, rfl, (Or.inr (Or.inr (Or.inr (Or.inr (Or.inr (Or.inr (Or.inr (Or.inr (Or.inr (Or.inr (Or.inr (Or.inr (Or.inr (Or.inr (Or.inr (Or.inr (Or.inl ⟨e1, e2, e3, e4, e5, e6, e7, e8, e9, c19, rfl, rfl⟩)))))))))))))))))⟩
  · obtain rfl := ez8.symm
    obtain rfl := ez9.symm
    exact aw_iret rfl d_X11_count_123 ⟨Nat.le_refl _, Nat.le_refl _⟩ ⟨_, rfl, (Or.inr (Or.inr (Or.inr (Or.inr (Or.inr (Or.inr (Or.inr (Or.inr (Or.inr (Or.inr (Or.inr (Or.inr (Or.inr (Or.inr (Or.inr (Or.inr (Or.inr (Or.inl ⟨e1, e2, e3, e4, e5, e6, e7, e8, e9, c20, rfl, rfl⟩))))))))))))))))))⟩
  · obtain rfl := ez8.symm
    obtain rfl := ez9.symm
    exact aw_iret rfl d_X11_count_123 ⟨Nat.le_refl _, Nat.le_refl _⟩ ⟨_, rfl, (Or.inr (Or.inr (Or.inr (Or.inr (Or.inr (Or.inr (Or.inr (Or.inr (Or.inr (Or.inr (Or.inr (Or.inr (Or.inr (Or.inr (Or.inr (Or.inr (Or.inr (Or.inr (Or.inl ⟨e1, e2, e3, e4, e5, e6, e7, e8, e9, c21, rfl, rfl⟩)))))))))))))))))))⟩
  · obtain rfl := ez8.symm
    obtain rfl := ez9.symm
    exact aw_iret rfl d_X11_count_123 ⟨Nat.le_refl _, Nat.le_refl _⟩ ⟨_, rfl, (Or.inr (Or.inr (Or.inr (Or.inr (Or.inr (Or.inr (Or.inr (Or.inr (Or.inr (Or.inr (Or.inr (Or.inr (Or.inr (Or.inr (Or.inr (Or.inr (Or.inr (Or.inr (Or.inr ⟨e1, e2, e3, e4, e5, e6, e7, e8, e9, c22, c23, c24, c25, c26, c27, c28, c29, c30, c31, rfl, rfl⟩)))))))))))))))))))⟩
