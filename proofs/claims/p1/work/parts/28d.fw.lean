theorem f_X12_isCase_159 (d : Nat) (h : Hp_) (w : Wf h) (e_1_96 : h_i h 1 96 = 0)  (x1 : Int32) : Ci (m_X12_isCase (d + 1) 0 0) [.ref 1, .int x1] h (fun r h' => (r = 0 ∧ h' = h)) := by
  refine Ct.of (fun _ _ _ => trivial) rfl (Nat.le_of_ble_eq_true rfl) ?_
  show AW (m_X12_isCase (d + 1) 0 0) 0 0 0 [(0, .ref 1), (1, .int x1)] [] h (kI (fun r h' => (r = 0 ∧ h' = h)))
  refine aw_iload_n (i := 1) rfl d_X12_isCase_0 1 rfl ?_
  refine aw_iconst (v := 0) d_X12_isCase_1 ic_0 ?_
  refine aw_aload_n (i := 0) rfl d_X12_isCase_2 0 rfl ?_
  refine aw_geti (k0 := 96) kc_12 (ws_1 w) (Nat.le_of_ble_eq_true rfl) tw_1838 d_X12_isCase_3 rfl ?_
  refine aw_vi (v2 := 0) e_1_96 ?_
  refine aw_iconst (v := 1) d_X12_isCase_6 ic_1 ?_
  refine aw_isub d_X12_isCase_7 ?_
  refine aw_vi (v2 := (-1)) (by decide) ?_
  refine aw_Si [.int x1, .int 0, .int (-1)] [] d_X12_isCase_8 (cS_X12_in (d + 0) 0 0) tw_2147 rfl (rr0 (Nat.le_of_ble_eq_true rfl) (Nat.le_of_ble_eq_true rfl)) (Nat.le_of_ble_eq_true rfl) xs0 (s_X12_in _ _ x1 0 (-1)) (fun _ _ kk => ?_)
  obtain ⟨e1, e2⟩ := kk
  rw [e1, e2]
  have c3 : ¬ (0 ≤ x1 ∧ x1 ≤ (-1)) := (by intro c3; grind)
  refine aw_vi (v2 := 0) (bI_0.mpr c3) ?_
  exact aw_zret rfl rfl d_X12_isCase_11 ⟨Nat.le_refl _, Nat.le_refl _⟩ ⟨_, rfl, ⟨rfl, rfl⟩⟩
theorem f_X12_state (d : Nat) (h : Hp_) (w : Wf h) (e_1_96 : h_i h 1 96 = 0)  (x1 : Int32) (x2 : Int32) (x3 : Int32) (x4 : Int32) : Ci (m_X12_state (d + 2) 0 0) [.ref 1, .int x1, .int x2, .int x3, .int x4] h (fun r h' => (r = (-1) ∧ h' = h)) := by
  refine Ct.of (fun _ _ _ => trivial) rfl (Nat.le_of_ble_eq_true rfl) ?_
  show AW (m_X12_state (d + 2) 0 0) 0 0 0 [(0, .ref 1), (1, .int x1), (2, .int x2), (3, .int x3), (4, .int x4)] [] h (kI (fun r h' => (r = (-1) ∧ h' = h)))
  refine aw_aload_n (i := 0) rfl d_X12_state_0 0 rfl ?_
  refine aw_iload_n (i := 1) rfl d_X12_state_1 1 rfl ?_
  refine aw_Vi 1 [.int x1] [] d_X12_state_2 (cV_X12_isCase (d + 1) 0 0) kc_12 (ws_1 w) tw_2507 rfl (rr0 (Nat.le_of_ble_eq_true rfl) (Nat.le_of_ble_eq_true rfl)) (Nat.le_of_ble_eq_true rfl) xs0 (f_X12_isCase_159 d h w e_1_96 x1) (fun r1 h2 kk => ?_)
  obtain ⟨ez8, ez9⟩ := kk
  obtain rfl := ez8.symm
  obtain rfl := ez9.symm
  refine aw_if_eq (tgt := 47) d_X12_state_5 rfl (fun _ => ?_) (fun c => absurd c (by decide))
  refine aw_iconst (v := (-1)) d_X12_state_47 ic_m1 ?_
  exact aw_iret rfl d_X12_state_48 ⟨Nat.le_refl _, Nat.le_refl _⟩ ⟨_, rfl, ⟨rfl, rfl⟩⟩
theorem f_X12_withdraw (d : Nat) (h : Hp_) (w : Wf h) (e_1_0 : h_i h 1 0 = 0) (e_1_96 : h_i h 1 96 = 0) (ea_272 : ∀ k, k < 16 → h_i h 272 k = 0) (x1 : Int32) : Ci (m_X12_withdraw (d + 1) 0 0) [.ref 1, .int x1] h (fun r h' => (¬ (0 ≤ x1 ∧ x1 ≤ 15) ∧ r = (-1) ∧ h' = h) ∨ ((0 ≤ x1 ∧ x1 ≤ 15) ∧ r = 0 ∧ h' = h_im (h_im h 272 x1.toNatClampNeg (vp_nar .boolean 1)) 271 x1.toNatClampNeg 0)) := by
  refine Ct.of (fun _ _ _ => trivial) rfl (Nat.le_of_ble_eq_true rfl) ?_
  show AW (m_X12_withdraw (d + 1) 0 0) 0 0 0 [(0, .ref 1), (1, .int x1)] [] h (kI (fun r h' => (¬ (0 ≤ x1 ∧ x1 ≤ 15) ∧ r = (-1) ∧ h' = h) ∨ ((0 ≤ x1 ∧ x1 ≤ 15) ∧ r = 0 ∧ h' = h_im (h_im h 272 x1.toNatClampNeg (vp_nar .boolean 1)) 271 x1.toNatClampNeg 0)))
  refine aw_iload_n (i := 1) rfl d_X12_withdraw_0 1 rfl ?_
  refine aw_iconst (v := 0) d_X12_withdraw_1 ic_0 ?_
  refine aw_bipush (v := 15) d_X12_withdraw_2 ib_15 ?_
  refine aw_Si [.int x1, .int 0, .int 15] [] d_X12_withdraw_4 (cS_X12_in (d + 0) 0 0) tw_2147 rfl (rr0 (Nat.le_of_ble_eq_true rfl) (Nat.le_of_ble_eq_true rfl)) (Nat.le_of_ble_eq_true rfl) xs0 (s_X12_in _ _ x1 0 15) (fun _ _ kk => ?_)
  obtain ⟨e1, e2⟩ := kk
  rw [e1, e2]
  refine aw_ifb_eq (tgt := 19) d_X12_withdraw_7 rfl (fun c3 => ?_) (fun c3 => ?_)
  · refine aw_iconst (v := (-1)) d_X12_withdraw_19 ic_m1 ?_
    exact aw_iret rfl d_X12_withdraw_20 ⟨Nat.le_refl _, Nat.le_refl _⟩ ⟨_, rfl, (Or.inl ⟨c3, rfl, rfl⟩)⟩
  · refine aw_aload_n (i := 0) rfl d_X12_withdraw_10 0 rfl ?_
    refine aw_getr (k0 := 91) kc_12 (ws_1 w) (Nat.le_of_ble_eq_true rfl) tw_1833 d_X12_withdraw_11 rfl (wr_1_91 w) ?_
    refine aw_iload_n (i := 1) rfl d_X12_withdraw_14 1 rfl ?_
    refine aw_zald (ws_272 w) (vin_of c3 (by decide) (by decide)) d_X12_withdraw_15 ?_
    refine aw_vi (v2 := 0) (ea_272 _ (vin_lt (n := 16) (vin_of c3 (by decide) (by decide)))) ?_
    refine aw_if_eq (tgt := 21) d_X12_withdraw_16 rfl (fun _ => ?_) (fun c => absurd c (by decide))
    refine aw_iconst (v := 0) d_X12_withdraw_21 ic_0 ?_
    refine aw_istore_n (i := 2) rfl [(0, .ref 1), (1, .int x1), (2, .int 0)] d_X12_withdraw_22 (Nat.le_of_ble_eq_true rfl) rfl rfl ?_
    refine aw_iload_n (i := 2) rfl d_X12_withdraw_23 2 rfl ?_
    refine aw_aload_n (i := 0) rfl d_X12_withdraw_24 0 rfl ?_
    refine aw_geti (k0 := 96) kc_12 (ws_1 w) (Nat.le_of_ble_eq_true rfl) tw_1838 d_X12_withdraw_25 rfl ?_
    refine aw_vi (v2 := 0) e_1_96 ?_
    refine aw_icmp_ge (tgt := 64) d_X12_withdraw_28 rfl (fun _ => ?_) (fun c => absurd c (by decide))
    refine aw_aload_n (i := 0) rfl d_X12_withdraw_64 0 rfl ?_
    refine aw_getr (k0 := 91) kc_12 (ws_1 w) (Nat.le_of_ble_eq_true rfl) tw_1833 d_X12_withdraw_65 rfl (wr_1_91 w) ?_
    refine aw_iload_n (i := 1) rfl d_X12_withdraw_68 1 rfl ?_
    refine aw_iconst (v := 1) d_X12_withdraw_69 ic_1 ?_
    refine aw_zast (ws_272 w) (vin_of c3 (by decide) (by decide)) d_X12_withdraw_70 ?_
    refine aw_aload_n (i := 0) rfl d_X12_withdraw_71 0 rfl ?_
    refine aw_getr (k0 := 90) kc_12 (ws_1 w) (Nat.le_of_ble_eq_true rfl) tw_1832 d_X12_withdraw_72 rfl (wr_1_90 w) ?_
    refine aw_iload_n (i := 1) rfl d_X12_withdraw_75 1 rfl ?_
    refine aw_aload_n (i := 0) rfl d_X12_withdraw_76 0 rfl ?_
    refine aw_geti (k0 := 0) kc_12 (ws_1 w) (Nat.le_of_ble_eq_true rfl) tw_1742 d_X12_withdraw_77 rfl ?_
    refine aw_vi (v2 := 0) e_1_0 ?_
    refine aw_iast (ws_271 w) (vin_of c3 (by decide) (by decide)) d_X12_withdraw_80 ?_
    refine aw_iconst (v := 0) d_X12_withdraw_81 ic_0 ?_
    refine aw_istore_n (i := 2) rfl [(0, .ref 1), (1, .int x1), (2, .int 0)] d_X12_withdraw_82 (Nat.le_of_ble_eq_true rfl) rfl rfl ?_
    refine aw_iconst (v := 0) d_X12_withdraw_83 ic_0 ?_
    refine aw_istore_n (i := 3) rfl [(0, .ref 1), (1, .int x1), (2, .int 0), (3, .int 0)] d_X12_withdraw_84 (Nat.le_of_ble_eq_true rfl) rfl rfl ?_
    refine aw_iload_n (i := 3) rfl d_X12_withdraw_85 3 rfl ?_
    refine aw_aload_n (i := 0) rfl d_X12_withdraw_86 0 rfl ?_
    refine aw_geti (k0 := 96) kc_12 (ws_1 w) (Nat.le_of_ble_eq_true rfl) tw_1838 d_X12_withdraw_87 rfl ?_
    refine aw_vi (v2 := 0) e_1_96 ?_
    refine aw_icmp_ge (tgt := 137) d_X12_withdraw_90 rfl (fun _ => ?_) (fun c => absurd c (by decide))
    refine aw_iload_n (i := 2) rfl d_X12_withdraw_137 2 rfl ?_
    exact aw_iret rfl d_X12_withdraw_138 ⟨Nat.le_refl _, Nat.le_refl _⟩ ⟨_, rfl, (Or.inr ⟨c3, rfl, rfl⟩)⟩
theorem f_X12_isOpen_162 (d : Nat) (h : Hp_) (w : Wf h) (e_1_96 : h_i h 1 96 = 0)  (x1 : Int32) (x2 : Int32) : Ci (m_X12_isOpen (d + 2) 0 0) [.ref 1, .int x1, .int x2] h (fun r h' => (r = 0 ∧ h' = h)) := by
  refine Ct.of (fun _ _ _ => trivial) rfl (Nat.le_of_ble_eq_true rfl) ?_
  show AW (m_X12_isOpen (d + 2) 0 0) 0 0 0 [(0, .ref 1), (1, .int x1), (2, .int x2)] [] h (kI (fun r h' => (r = 0 ∧ h' = h)))
  refine aw_aload_n (i := 0) rfl d_X12_isOpen_0 0 rfl ?_
  refine aw_iload_n (i := 1) rfl d_X12_isOpen_1 1 rfl ?_
  refine aw_Vi 1 [.int x1] [] d_X12_isOpen_2 (cV_X12_isCase (d + 1) 0 0) kc_12 (ws_1 w) tw_2507 rfl (rr0 (Nat.le_of_ble_eq_true rfl) (Nat.le_of_ble_eq_true rfl)) (Nat.le_of_ble_eq_true rfl) xs0 (f_X12_isCase_159 d h w e_1_96 x1) (fun r1 h2 kk => ?_)
  obtain ⟨ez8, ez9⟩ := kk
  obtain rfl := ez8.symm
  obtain rfl := ez9.symm
  refine aw_if_eq (tgt := 30) d_X12_isOpen_5 rfl (fun _ => ?_) (fun c => absurd c (by decide))
  refine aw_iconst (v := 0) d_X12_isOpen_30 ic_0 ?_
  exact aw_zret rfl rfl d_X12_isOpen_31 ⟨Nat.le_refl _, Nat.le_refl _⟩ ⟨_, rfl, ⟨rfl, rfl⟩⟩
theorem f_X12_fact (d : Nat) (h : Hp_) (w : Wf h) (e_1_96 : h_i h 1 96 = 0)  (x1 : Int32) (x2 : Int32) (x3 : Int32) : Ci (m_X12_fact (d + 3) 0 0) [.ref 1, .int x1, .int x2, .int x3] h (fun r h' => (r = (-1) ∧ h' = h)) := by
  refine Ct.of (fun _ _ _ => trivial) rfl (Nat.le_of_ble_eq_true rfl) ?_
  show AW (m_X12_fact (d + 3) 0 0) 0 0 0 [(0, .ref 1), (1, .int x1), (2, .int x2), (3, .int x3)] [] h (kI (fun r h' => (r = (-1) ∧ h' = h)))
  refine aw_aload_n (i := 0) rfl d_X12_fact_0 0 rfl ?_
  refine aw_iload_n (i := 1) rfl d_X12_fact_1 1 rfl ?_
  refine aw_iload_n (i := 3) rfl d_X12_fact_2 3 rfl ?_
  refine aw_Vi 1 [.int x1, .int x3] [] d_X12_fact_3 (cV_X12_isOpen (d + 2) 0 0) kc_12 (ws_1 w) tw_2515 rfl (rr0 (Nat.le_of_ble_eq_true rfl) (Nat.le_of_ble_eq_true rfl)) (Nat.le_of_ble_eq_true rfl) xs0 (f_X12_isOpen_162 d h w e_1_96 x1 x3) (fun r1 h2 kk => ?_)
  obtain ⟨ez8, ez9⟩ := kk
  obtain rfl := ez8.symm
  obtain rfl := ez9.symm
  refine aw_if_eq (tgt := 29) d_X12_fact_6 rfl (fun _ => ?_) (fun c => absurd c (by decide))
  refine aw_iconst (v := (-1)) d_X12_fact_29 ic_m1 ?_
  exact aw_iret rfl d_X12_fact_30 ⟨Nat.le_refl _, Nat.le_refl _⟩ ⟨_, rfl, ⟨rfl, rfl⟩⟩
theorem f_X12_cased (d : Nat) (h : Hp_) (w : Wf h) (e_1_96 : h_i h 1 96 = 0)  (x1 : Int32) (x2 : Int32) (x3 : Int32) : Ci (m_X12_cased (d + 3) 0 0) [.ref 1, .int x1, .int x2, .int x3] h (fun r h' => (r = (-1) ∧ h' = h)) := by
  refine Ct.of (fun _ _ _ => trivial) rfl (Nat.le_of_ble_eq_true rfl) ?_
  show AW (m_X12_cased (d + 3) 0 0) 0 0 0 [(0, .ref 1), (1, .int x1), (2, .int x2), (3, .int x3)] [] h (kI (fun r h' => (r = (-1) ∧ h' = h)))
  refine aw_aload_n (i := 0) rfl d_X12_cased_0 0 rfl ?_
  refine aw_iload_n (i := 1) rfl d_X12_cased_1 1 rfl ?_
  refine aw_iload_n (i := 2) rfl d_X12_cased_2 2 rfl ?_
  refine aw_Vi 1 [.int x1, .int x2] [] d_X12_cased_3 (cV_X12_isOpen (d + 2) 0 0) kc_12 (ws_1 w) tw_2515 rfl (rr0 (Nat.le_of_ble_eq_true rfl) (Nat.le_of_ble_eq_true rfl)) (Nat.le_of_ble_eq_true rfl) xs0 (f_X12_isOpen_162 d h w e_1_96 x1 x2) (fun r1 h2 kk => ?_)
  obtain ⟨ez8, ez9⟩ := kk
  obtain rfl := ez8.symm
  obtain rfl := ez9.symm
  refine aw_if_ne (tgt := 11) d_X12_cased_6 rfl (fun c => absurd c (by decide)) (fun _ => ?_)
  refine aw_iconst (v := (-1)) d_X12_cased_9 ic_m1 ?_
  exact aw_iret rfl d_X12_cased_10 ⟨Nat.le_refl _, Nat.le_refl _⟩ ⟨_, rfl, ⟨rfl, rfl⟩⟩
theorem f_X12_story (d : Nat) (h : Hp_) (w : Wf h) (e_1_96 : h_i h 1 96 = 0)  (x1 : Int32) (x2 : Int32) (x3 : Int32) : Ci (m_X12_story (d + 2) 0 0) [.ref 1, .int x1, .int x2, .int x3] h (fun r h' => (r = (-1) ∧ h' = h)) := by
  refine Ct.of (fun _ _ _ => trivial) rfl (Nat.le_of_ble_eq_true rfl) ?_
  show AW (m_X12_story (d + 2) 0 0) 0 0 0 [(0, .ref 1), (1, .int x1), (2, .int x2), (3, .int x3)] [] h (kI (fun r h' => (r = (-1) ∧ h' = h)))
  refine aw_aload_n (i := 0) rfl d_X12_story_0 0 rfl ?_
  refine aw_iload_n (i := 1) rfl d_X12_story_1 1 rfl ?_
  refine aw_Vi 1 [.int x1] [] d_X12_story_2 (cV_X12_isCase (d + 1) 0 0) kc_12 (ws_1 w) tw_2507 rfl (rr0 (Nat.le_of_ble_eq_true rfl) (Nat.le_of_ble_eq_true rfl)) (Nat.le_of_ble_eq_true rfl) xs0 (f_X12_isCase_159 d h w e_1_96 x1) (fun r1 h2 kk => ?_)
  obtain ⟨ez8, ez9⟩ := kk
  obtain rfl := ez8.symm
  obtain rfl := ez9.symm
  refine aw_if_eq (tgt := 47) d_X12_story_5 rfl (fun _ => ?_) (fun c => absurd c (by decide))
  refine aw_iconst (v := (-1)) d_X12_story_47 ic_m1 ?_
  exact aw_iret rfl d_X12_story_48 ⟨Nat.le_refl _, Nat.le_refl _⟩ ⟨_, rfl, ⟨rfl, rfl⟩⟩
theorem f_X12_next (d : Nat) (h : Hp_) (w : Wf h) (e_1_96 : h_i h 1 96 = 0)  (x1 : Int32) : Ci (m_X12_next (d + 2) 0 0) [.ref 1, .int x1] h (fun r h' => (r = (-1) ∧ h' = h)) := by
  refine Ct.of (fun _ _ _ => trivial) rfl (Nat.le_of_ble_eq_true rfl) ?_
  show AW (m_X12_next (d + 2) 0 0) 0 0 0 [(0, .ref 1), (1, .int x1)] [] h (kI (fun r h' => (r = (-1) ∧ h' = h)))
  refine aw_aload_n (i := 0) rfl d_X12_next_0 0 rfl ?_
  refine aw_iload_n (i := 1) rfl d_X12_next_1 1 rfl ?_
  refine aw_Vi 1 [.int x1] [] d_X12_next_2 (cV_X12_isCase (d + 1) 0 0) kc_12 (ws_1 w) tw_2507 rfl (rr0 (Nat.le_of_ble_eq_true rfl) (Nat.le_of_ble_eq_true rfl)) (Nat.le_of_ble_eq_true rfl) xs0 (f_X12_isCase_159 d h w e_1_96 x1) (fun r1 h2 kk => ?_)
  obtain ⟨ez8, ez9⟩ := kk
  obtain rfl := ez8.symm
  obtain rfl := ez9.symm
  refine aw_if_ne (tgt := 10) d_X12_next_5 rfl (fun c => absurd c (by decide)) (fun _ => ?_)
  refine aw_iconst (v := (-1)) d_X12_next_8 ic_m1 ?_
  exact aw_iret rfl d_X12_next_9 ⟨Nat.le_refl _, Nat.le_refl _⟩ ⟨_, rfl, ⟨rfl, rfl⟩⟩
theorem f_X12_good (d : Nat) (h : Hp_) (w : Wf h) (e_1_101 : h_i h 1 101 = 0) (e_1_102 : h_i h 1 102 = 0)  (x1 : Int32) (x2 : Int32) : Ci (m_X12_good (d + 1) 0 0) [.ref 1, .int x1, .int x2] h (fun r h' => (¬ (0 ≤ x2 ∧ x2 ≤ 99999) ∧ r = (-1) ∧ h' = h) ∨ ((0 ≤ x2 ∧ x2 ≤ 99999) ∧ x1 = 0 ∧ r = 0 ∧ h' = h_im (h_im h 279 (0 : Int32).toNatClampNeg x2) 1 102 1) ∨ ((0 ≤ x2 ∧ x2 ≤ 99999) ∧ ¬ x1 = 0 ∧ r = 0 ∧ h' = h_im (h_im h 278 (0 : Int32).toNatClampNeg x2) 1 101 1)) := by
  refine Ct.of (fun _ _ _ => trivial) rfl (Nat.le_of_ble_eq_true rfl) ?_
  show AW (m_X12_good (d + 1) 0 0) 0 0 0 [(0, .ref 1), (1, .int x1), (2, .int x2)] [] h (kI (fun r h' => (¬ (0 ≤ x2 ∧ x2 ≤ 99999) ∧ r = (-1) ∧ h' = h) ∨ ((0 ≤ x2 ∧ x2 ≤ 99999) ∧ x1 = 0 ∧ r = 0 ∧ h' = h_im (h_im h 279 (0 : Int32).toNatClampNeg x2) 1 102 1) ∨ ((0 ≤ x2 ∧ x2 ≤ 99999) ∧ ¬ x1 = 0 ∧ r = 0 ∧ h' = h_im (h_im h 278 (0 : Int32).toNatClampNeg x2) 1 101 1)))
  refine aw_iload_n (i := 2) rfl d_X12_good_0 2 rfl ?_
  refine aw_iconst (v := 0) d_X12_good_1 ic_0 ?_
  refine aw_ldcw (v := 99999) d_X12_good_2 tw_2561 ?_
  refine aw_Si [.int x2, .int 0, .int 99999] [] d_X12_good_5 (cS_X12_in (d + 0) 0 0) tw_2147 rfl (rr0 (Nat.le_of_ble_eq_true rfl) (Nat.le_of_ble_eq_true rfl)) (Nat.le_of_ble_eq_true rfl) xs0 (s_X12_in _ _ x2 0 99999) (fun _ _ kk => ?_)
  obtain ⟨e1, e2⟩ := kk
  rw [e1, e2]
  refine aw_ifb_eq (tgt := 31) d_X12_good_8 rfl (fun c3 => ?_) (fun c3 => ?_)
  · refine aw_iconst (v := (-1)) d_X12_good_31 ic_m1 ?_
    exact aw_iret rfl d_X12_good_32 ⟨Nat.le_refl _, Nat.le_refl _⟩ ⟨_, rfl, (Or.inl ⟨c3, rfl, rfl⟩)⟩
  · refine aw_iload_n (i := 1) rfl d_X12_good_11 1 rfl ?_
    refine aw_if_eq (tgt := 22) d_X12_good_12 rfl (fun c4 => ?_) (fun c4 => ?_)
    · refine aw_aload_n (i := 0) rfl d_X12_good_22 0 rfl ?_
      refine aw_geti (k0 := 102) kc_12 (ws_1 w) (Nat.le_of_ble_eq_true rfl) tw_1844 d_X12_good_23 rfl ?_
      refine aw_vi (v2 := 0) e_1_102 ?_
      refine aw_bipush (v := 8) d_X12_good_26 ib_8 ?_
      refine aw_icmp_ne (tgt := 33) d_X12_good_28 rfl (fun _ => ?_) (fun c => absurd c (by decide))
      refine aw_iload_n (i := 1) rfl d_X12_good_33 1 rfl ?_
      refine aw_if_eq (tgt := 64) d_X12_good_34 rfl (fun c6 => ?_) (fun c6 => (by exfalso; grind))
      refine aw_aload_n (i := 0) rfl d_X12_good_64 0 rfl ?_
      refine aw_getr (k0 := 100) kc_12 (ws_1 w) (Nat.le_of_ble_eq_true rfl) tw_1842 d_X12_good_65 rfl (wr_1_100 w) ?_
      refine aw_aload_n (i := 0) rfl d_X12_good_68 0 rfl ?_
      refine aw_geti (k0 := 102) kc_12 (ws_1 w) (Nat.le_of_ble_eq_true rfl) tw_1844 d_X12_good_69 rfl ?_
      refine aw_vi (v2 := 0) e_1_102 ?_
      refine aw_iload_n (i := 2) rfl d_X12_good_72 2 rfl ?_
      refine aw_iast (ws_279 w) (vin_c (by decide)) d_X12_good_73 ?_
      refine aw_aload_n (i := 0) rfl d_X12_good_74 0 rfl ?_
      refine aw_dup d_X12_good_75 rfl ?_
      refine aw_geti (k0 := 102) kc_12 (ws_1 w) (Nat.le_of_ble_eq_true rfl) tw_1844 d_X12_good_76 rfl ?_
      refine aw_vi (v2 := 0) e_1_102 ?_
      refine aw_iconst (v := 1) d_X12_good_79 ic_1 ?_
      refine aw_iadd d_X12_good_80 ?_
      refine aw_vi (v2 := 1) (by decide) ?_
      refine aw_puti (k0 := 102) kc_12 (ws_1 w) (Nat.le_of_ble_eq_true rfl) tw_1844 d_X12_good_81 rfl rfl nf_i ?_
      refine aw_aload_n (i := 0) rfl d_X12_good_84 0 rfl ?_
      refine aw_geti (k0 := 102) kc_12 (ws_1 w) (Nat.le_of_ble_eq_true rfl) tw_1844 d_X12_good_85 rfl ?_
      refine aw_vi (v2 := 1) rfl ?_
      refine aw_iconst (v := 1) d_X12_good_88 ic_1 ?_
      refine aw_isub d_X12_good_89 ?_
      refine aw_vi (v2 := 0) (by decide) ?_
      exact aw_iret rfl d_X12_good_90 ⟨Nat.le_refl _, Nat.le_refl _⟩ ⟨_, rfl, (Or.inr (Or.inl ⟨c3, c4, rfl, rfl⟩))⟩
    · refine aw_aload_n (i := 0) rfl d_X12_good_15 0 rfl ?_
      refine aw_geti (k0 := 101) kc_12 (ws_1 w) (Nat.le_of_ble_eq_true rfl) tw_1843 d_X12_good_16 rfl ?_
      refine aw_vi (v2 := 0) e_1_101 ?_
      refine aw_goto (tgt := 26) d_X12_good_19 rfl ?_
      refine aw_bipush (v := 8) d_X12_good_26 ib_8 ?_
      refine aw_icmp_ne (tgt := 33) d_X12_good_28 rfl (fun _ => ?_) (fun c => absurd c (by decide))
      refine aw_iload_n (i := 1) rfl d_X12_good_33 1 rfl ?_
      refine aw_if_eq (tgt := 64) d_X12_good_34 rfl (fun c8 => (by exfalso; grind)) (fun c8 => ?_)
      refine aw_aload_n (i := 0) rfl d_X12_good_37 0 rfl ?_
      refine aw_getr (k0 := 99) kc_12 (ws_1 w) (Nat.le_of_ble_eq_true rfl) tw_1841 d_X12_good_38 rfl (wr_1_99 w) ?_
      refine aw_aload_n (i := 0) rfl d_X12_good_41 0 rfl ?_
      refine aw_geti (k0 := 101) kc_12 (ws_1 w) (Nat.le_of_ble_eq_true rfl) tw_1843 d_X12_good_42 rfl ?_
      refine aw_vi (v2 := 0) e_1_101 ?_
      refine aw_iload_n (i := 2) rfl d_X12_good_45 2 rfl ?_
      refine aw_iast (ws_278 w) (vin_c (by decide)) d_X12_good_46 ?_
      refine aw_aload_n (i := 0) rfl d_X12_good_47 0 rfl ?_
      refine aw_dup d_X12_good_48 rfl ?_
      refine aw_geti (k0 := 101) kc_12 (ws_1 w) (Nat.le_of_ble_eq_true rfl) tw_1843 d_X12_good_49 rfl ?_
      refine aw_vi (v2 := 0) e_1_101 ?_
      refine aw_iconst (v := 1) d_X12_good_52 ic_1 ?_
      refine aw_iadd d_X12_good_53 ?_
      refine aw_vi (v2 := 1) (by decide) ?_
      refine aw_puti (k0 := 101) kc_12 (ws_1 w) (Nat.le_of_ble_eq_true rfl) tw_1843 d_X12_good_54 rfl rfl nf_i ?_
      refine aw_aload_n (i := 0) rfl d_X12_good_57 0 rfl ?_
      refine aw_geti (k0 := 101) kc_12 (ws_1 w) (Nat.le_of_ble_eq_true rfl) tw_1843 d_X12_good_58 rfl ?_
      refine aw_vi (v2 := 1) rfl ?_
      refine aw_iconst (v := 1) d_X12_good_61 ic_1 ?_
      refine aw_isub d_X12_good_62 ?_
      refine aw_vi (v2 := 0) (by decide) ?_
      exact aw_iret rfl d_X12_good_63 ⟨Nat.le_refl _, Nat.le_refl _⟩ ⟨_, rfl, (Or.inr (Or.inr ⟨c3, c4, rfl, rfl⟩))⟩
theorem f_X12_least (d : Nat) (h : Hp_) (w : Wf h)   (x1 : Int32) : Ci (m_X12_least (d + 1) 0 0) [.ref 1, .int x1] h (fun r h' => ((1 ≤ x1 ∧ x1 ≤ 5) ∧ r = 1 ∧ h' = h_im h 1 103 x1) ∨ (¬ (1 ≤ x1 ∧ x1 ≤ 5) ∧ r = 0 ∧ h' = h)) := by
  refine Ct.of (fun _ _ _ => trivial) rfl (Nat.le_of_ble_eq_true rfl) ?_
  show AW (m_X12_least (d + 1) 0 0) 0 0 0 [(0, .ref 1), (1, .int x1)] [] h (kI (fun r h' => ((1 ≤ x1 ∧ x1 ≤ 5) ∧ r = 1 ∧ h' = h_im h 1 103 x1) ∨ (¬ (1 ≤ x1 ∧ x1 ≤ 5) ∧ r = 0 ∧ h' = h)))
  refine aw_iload_n (i := 1) rfl d_X12_least_0 1 rfl ?_
  refine aw_iconst (v := 1) d_X12_least_1 ic_1 ?_
  refine aw_iconst (v := 5) d_X12_least_2 ic_5 ?_
  refine aw_Si [.int x1, .int 1, .int 5] [] d_X12_least_3 (cS_X12_in (d + 0) 0 0) tw_2147 rfl (rr0 (Nat.le_of_ble_eq_true rfl) (Nat.le_of_ble_eq_true rfl)) (Nat.le_of_ble_eq_true rfl) xs0 (s_X12_in _ _ x1 1 5) (fun _ _ kk => ?_)
  obtain ⟨e1, e2⟩ := kk
  rw [e1, e2]
  refine aw_ifb_ne (tgt := 11) d_X12_least_6 rfl (fun c3 => ?_) (fun c3 => ?_)
  · refine aw_aload_n (i := 0) rfl d_X12_least_11 0 rfl ?_
    refine aw_iload_n (i := 1) rfl d_X12_least_12 1 rfl ?_
    refine aw_puti (k0 := 103) kc_12 (ws_1 w) (Nat.le_of_ble_eq_true rfl) tw_1845 d_X12_least_13 rfl rfl nf_i ?_
    refine aw_iconst (v := 1) d_X12_least_16 ic_1 ?_
    exact aw_zret rfl rfl d_X12_least_17 ⟨Nat.le_refl _, Nat.le_refl _⟩ ⟨_, rfl, (Or.inl ⟨c3, rfl, rfl⟩)⟩
  · refine aw_iconst (v := 0) d_X12_least_9 ic_0 ?_
    exact aw_zret rfl rfl d_X12_least_10 ⟨Nat.le_refl _, Nat.le_refl _⟩ ⟨_, rfl, (Or.inr ⟨c3, rfl, rfl⟩)⟩
theorem f_X12_isLost_169 (d : Nat) (h : Hp_) (w : Wf h) (e_1_101 : h_i h 1 101 = 0)  (x1 : Int32) : Ci (m_X12_isLost (d + 1) 0 0) [.ref 1, .int x1] h (fun r h' => (r = 0 ∧ h' = h)) := by
  refine Ct.of (fun _ _ _ => trivial) rfl (Nat.le_of_ble_eq_true rfl) ?_
  show AW (m_X12_isLost (d + 1) 0 0) 0 0 0 [(0, .ref 1), (1, .int x1)] [] h (kI (fun r h' => (r = 0 ∧ h' = h)))
  refine aw_iload_n (i := 1) rfl d_X12_isLost_0 1 rfl ?_
  refine aw_iconst (v := 0) d_X12_isLost_1 ic_0 ?_
  refine aw_aload_n (i := 0) rfl d_X12_isLost_2 0 rfl ?_
  refine aw_geti (k0 := 101) kc_12 (ws_1 w) (Nat.le_of_ble_eq_true rfl) tw_1843 d_X12_isLost_3 rfl ?_
  refine aw_vi (v2 := 0) e_1_101 ?_
  refine aw_iconst (v := 1) d_X12_isLost_6 ic_1 ?_
  refine aw_isub d_X12_isLost_7 ?_
  refine aw_vi (v2 := (-1)) (by decide) ?_
  refine aw_Si [.int x1, .int 0, .int (-1)] [] d_X12_isLost_8 (cS_X12_in (d + 0) 0 0) tw_2147 rfl (rr0 (Nat.le_of_ble_eq_true rfl) (Nat.le_of_ble_eq_true rfl)) (Nat.le_of_ble_eq_true rfl) xs0 (s_X12_in _ _ x1 0 (-1)) (fun _ _ kk => ?_)
  obtain ⟨e1, e2⟩ := kk
  rw [e1, e2]
  have c3 : ¬ (0 ≤ x1 ∧ x1 ≤ (-1)) := (by intro c3; grind)
  refine aw_vi (v2 := 0) (bI_0.mpr c3) ?_
  exact aw_zret rfl rfl d_X12_isLost_11 ⟨Nat.le_refl _, Nat.le_refl _⟩ ⟨_, rfl, ⟨rfl, rfl⟩⟩
theorem f_X12_joined (d : Nat) (h : Hp_) (w : Wf h) (e_1_101 : h_i h 1 101 = 0)  (x1 : Int32) : Ci (m_X12_joined (d + 2) 0 0) [.ref 1, .int x1] h (fun r h' => (r = (-1) ∧ h' = h)) := by
  refine Ct.of (fun _ _ _ => trivial) rfl (Nat.le_of_ble_eq_true rfl) ?_
  show AW (m_X12_joined (d + 2) 0 0) 0 0 0 [(0, .ref 1), (1, .int x1)] [] h (kI (fun r h' => (r = (-1) ∧ h' = h)))
  refine aw_aload_n (i := 0) rfl d_X12_joined_0 0 rfl ?_
  refine aw_iload_n (i := 1) rfl d_X12_joined_1 1 rfl ?_
  refine aw_Vi 1 [.int x1] [] d_X12_joined_2 (cV_X12_isLost (d + 1) 0 0) kc_12 (ws_1 w) tw_2582 rfl (rr0 (Nat.le_of_ble_eq_true rfl) (Nat.le_of_ble_eq_true rfl)) (Nat.le_of_ble_eq_true rfl) xs0 (f_X12_isLost_169 d h w e_1_101 x1) (fun r1 h2 kk => ?_)
  obtain ⟨ez8, ez9⟩ := kk
  obtain rfl := ez8.symm
  obtain rfl := ez9.symm
  refine aw_if_ne (tgt := 10) d_X12_joined_5 rfl (fun c => absurd c (by decide)) (fun _ => ?_)
  refine aw_iconst (v := (-1)) d_X12_joined_8 ic_m1 ?_
  exact aw_iret rfl d_X12_joined_9 ⟨Nat.le_refl _, Nat.le_refl _⟩ ⟨_, rfl, ⟨rfl, rfl⟩⟩
theorem f_X12_rivals (d : Nat) (h : Hp_) (w : Wf h) (e_1_101 : h_i h 1 101 = 0)  (x1 : Int32) : Ci (m_X12_rivals (d + 2) 0 0) [.ref 1, .int x1] h (fun r h' => (r = (-1) ∧ h' = h)) := by
  refine Ct.of (fun _ _ _ => trivial) rfl (Nat.le_of_ble_eq_true rfl) ?_
  show AW (m_X12_rivals (d + 2) 0 0) 0 0 0 [(0, .ref 1), (1, .int x1)] [] h (kI (fun r h' => (r = (-1) ∧ h' = h)))
  refine aw_aload_n (i := 0) rfl d_X12_rivals_0 0 rfl ?_
  refine aw_iload_n (i := 1) rfl d_X12_rivals_1 1 rfl ?_
  refine aw_Vi 1 [.int x1] [] d_X12_rivals_2 (cV_X12_isLost (d + 1) 0 0) kc_12 (ws_1 w) tw_2582 rfl (rr0 (Nat.le_of_ble_eq_true rfl) (Nat.le_of_ble_eq_true rfl)) (Nat.le_of_ble_eq_true rfl) xs0 (f_X12_isLost_169 d h w e_1_101 x1) (fun r1 h2 kk => ?_)
  obtain ⟨ez8, ez9⟩ := kk
  obtain rfl := ez8.symm
  obtain rfl := ez9.symm
  refine aw_if_eq (tgt := 16) d_X12_rivals_5 rfl (fun _ => ?_) (fun c => absurd c (by decide))
  refine aw_iconst (v := (-1)) d_X12_rivals_16 ic_m1 ?_
  exact aw_iret rfl d_X12_rivals_17 ⟨Nat.le_refl _, Nat.le_refl _⟩ ⟨_, rfl, ⟨rfl, rfl⟩⟩
theorem f_X12_sure (d : Nat) (h : Hp_) (w : Wf h) (e_1_101 : h_i h 1 101 = 0)  (x1 : Int32) : Ci (m_X12_sure (d + 2) 0 0) [.ref 1, .int x1] h (fun r h' => (r = (-1) ∧ h' = h)) := by
  refine Ct.of (fun _ _ _ => trivial) rfl (Nat.le_of_ble_eq_true rfl) ?_
  show AW (m_X12_sure (d + 2) 0 0) 0 0 0 [(0, .ref 1), (1, .int x1)] [] h (kI (fun r h' => (r = (-1) ∧ h' = h)))
  refine aw_aload_n (i := 0) rfl d_X12_sure_0 0 rfl ?_
  refine aw_iload_n (i := 1) rfl d_X12_sure_1 1 rfl ?_
  refine aw_Vi 1 [.int x1] [] d_X12_sure_2 (cV_X12_isLost (d + 1) 0 0) kc_12 (ws_1 w) tw_2582 rfl (rr0 (Nat.le_of_ble_eq_true rfl) (Nat.le_of_ble_eq_true rfl)) (Nat.le_of_ble_eq_true rfl) xs0 (f_X12_isLost_169 d h w e_1_101 x1) (fun r1 h2 kk => ?_)
  obtain ⟨ez8, ez9⟩ := kk
  obtain rfl := ez8.symm
  obtain rfl := ez9.symm
  refine aw_if_ne (tgt := 10) d_X12_sure_5 rfl (fun c => absurd c (by decide)) (fun _ => ?_)
  refine aw_iconst (v := (-1)) d_X12_sure_8 ic_m1 ?_
  exact aw_iret rfl d_X12_sure_9 ⟨Nat.le_refl _, Nat.le_refl _⟩ ⟨_, rfl, ⟨rfl, rfl⟩⟩
theorem f_X12_watch (d : Nat) (h : Hp_) (w : Wf h) (e_1_108 : h_i h 1 108 = 0)  (x1 : Int32) (x2 : Int32) (x3 : Int32) : Ci (m_X12_watch (d + 2) 0 0) [.ref 1, .int x1, .int x2, .int x3] h (fun r h' => (¬ (0 ≤ x1 ∧ x1 ≤ 15) ∧ r = (-1) ∧ h' = h) ∨ ((0 ≤ x1 ∧ x1 ≤ 15) ∧ ¬ (0 ≤ x2 ∧ x2 ≤ 1440) ∧ r = (-1) ∧ h' = h) ∨ ((0 ≤ x1 ∧ x1 ≤ 15) ∧ (0 ≤ x2 ∧ x2 ≤ 1440) ∧ ¬ (x2 ≤ x3 ∧ x3 ≤ 1440) ∧ r = (-1) ∧ h' = h) ∨ ((0 ≤ x1 ∧ x1 ≤ 15) ∧ (0 ≤ x2 ∧ x2 ≤ 1440) ∧ (x2 ≤ x3 ∧ x3 ≤ 1440) ∧ r = 0 ∧ h' = h_im (h_im (h_im (h_im h 281 (0 : Int32).toNatClampNeg x1) 282 (0 : Int32).toNatClampNeg x2) 283 (0 : Int32).toNatClampNeg x3) 1 108 1)) := by
  refine Ct.of (fun _ _ _ => trivial) rfl (Nat.le_of_ble_eq_true rfl) ?_
  show AW (m_X12_watch (d + 2) 0 0) 0 0 0 [(0, .ref 1), (1, .int x1), (2, .int x2), (3, .int x3)] [] h (kI (fun r h' => (¬ (0 ≤ x1 ∧ x1 ≤ 15) ∧ r = (-1) ∧ h' = h) ∨ ((0 ≤ x1 ∧ x1 ≤ 15) ∧ ¬ (0 ≤ x2 ∧ x2 ≤ 1440) ∧ r = (-1) ∧ h' = h) ∨ ((0 ≤ x1 ∧ x1 ≤ 15) ∧ (0 ≤ x2 ∧ x2 ≤ 1440) ∧ ¬ (x2 ≤ x3 ∧ x3 ≤ 1440) ∧ r = (-1) ∧ h' = h) ∨ ((0 ≤ x1 ∧ x1 ≤ 15) ∧ (0 ≤ x2 ∧ x2 ≤ 1440) ∧ (x2 ≤ x3 ∧ x3 ≤ 1440) ∧ r = 0 ∧ h' = h_im (h_im (h_im (h_im h 281 (0 : Int32).toNatClampNeg x1) 282 (0 : Int32).toNatClampNeg x2) 283 (0 : Int32).toNatClampNeg x3) 1 108 1)))
  refine aw_iload_n (i := 1) rfl d_X12_watch_0 1 rfl ?_
  refine aw_Si [.int x1] [] d_X12_watch_1 (cS_X12_isPlace (d + 1) 0 0) tw_2144 rfl (rr0 (Nat.le_of_ble_eq_true rfl) (Nat.le_of_ble_eq_true rfl)) (Nat.le_of_ble_eq_true rfl) xs0 (s_X12_isPlace _ _ x1) (fun _ _ kk => ?_)
  obtain ⟨e1, e2⟩ := kk
  rw [e1, e2]
  refine aw_ifb_eq (tgt := 38) d_X12_watch_4 rfl (fun c3 => ?_) (fun c3 => ?_)
  · refine aw_iconst (v := (-1)) d_X12_watch_38 ic_m1 ?_
    exact aw_iret rfl d_X12_watch_39 ⟨Nat.le_refl _, Nat.le_refl _⟩ ⟨_, rfl, (Or.inl ⟨c3, rfl, rfl⟩)⟩
  · refine aw_iload_n (i := 2) rfl d_X12_watch_7 2 rfl ?_
    refine aw_iconst (v := 0) d_X12_watch_8 ic_0 ?_
    refine aw_sipush (v := 1440) d_X12_watch_9 is_1440 ?_
    refine aw_Si [.int x2, .int 0, .int 1440] [] d_X12_watch_12 (cS_X12_in (d + 0) 0 0) tw_2147 rfl (rr0 (Nat.le_of_ble_eq_true rfl) (Nat.le_of_ble_eq_true rfl)) (Nat.le_of_ble_eq_true rfl) xs0 (s_X12_in _ _ x2 0 1440) (fun _ _ kk => ?_)
    obtain ⟨e4, e5⟩ := kk
    rw [e4, e5]
    refine aw_ifb_eq (tgt := 38) d_X12_watch_15 rfl (fun c6 => ?_) (fun c6 => ?_)
    · refine aw_iconst (v := (-1)) d_X12_watch_38 ic_m1 ?_
      exact aw_iret rfl d_X12_watch_39 ⟨Nat.le_refl _, Nat.le_refl _⟩ ⟨_, rfl, (Or.inr (Or.inl ⟨c3, c6, rfl, rfl⟩))⟩
    · refine aw_iload_n (i := 3) rfl d_X12_watch_18 3 rfl ?_
      refine aw_iload_n (i := 2) rfl d_X12_watch_19 2 rfl ?_
      refine aw_sipush (v := 1440) d_X12_watch_20 is_1440 ?_
      refine aw_Si [.int x3, .int x2, .int 1440] [] d_X12_watch_23 (cS_X12_in (d + 0) 0 0) tw_2147 rfl (rr0 (Nat.le_of_ble_eq_true rfl) (Nat.le_of_ble_eq_true rfl)) (Nat.le_of_ble_eq_true rfl) xs0 (s_X12_in _ _ x3 x2 1440) (fun _ _ kk => ?_)
      obtain ⟨e7, e8⟩ := kk
      rw [e7, e8]
      refine aw_ifb_eq (tgt := 38) d_X12_watch_26 rfl (fun c9 => ?_) (fun c9 => ?_)
      · refine aw_iconst (v := (-1)) d_X12_watch_38 ic_m1 ?_
        exact aw_iret rfl d_X12_watch_39 ⟨Nat.le_refl _, Nat.le_refl _⟩ ⟨_, rfl, (Or.inr (Or.inr (Or.inl ⟨c3, c6, c9, rfl, rfl⟩)))⟩
      · refine aw_aload_n (i := 0) rfl d_X12_watch_29 0 rfl ?_
        refine aw_geti (k0 := 108) kc_12 (ws_1 w) (Nat.le_of_ble_eq_true rfl) tw_1850 d_X12_watch_30 rfl ?_
        refine aw_vi (v2 := 0) e_1_108 ?_
        refine aw_bipush (v := 8) d_X12_watch_33 ib_8 ?_
        refine aw_icmp_ne (tgt := 40) d_X12_watch_35 rfl (fun _ => ?_) (fun c => absurd c (by decide))
        refine aw_aload_n (i := 0) rfl d_X12_watch_40 0 rfl ?_
        refine aw_getr (k0 := 105) kc_12 (ws_1 w) (Nat.le_of_ble_eq_true rfl) tw_1847 d_X12_watch_41 rfl (wr_1_105 w) ?_
        refine aw_aload_n (i := 0) rfl d_X12_watch_44 0 rfl ?_
        refine aw_geti (k0 := 108) kc_12 (ws_1 w) (Nat.le_of_ble_eq_true rfl) tw_1850 d_X12_watch_45 rfl ?_
        refine aw_vi (v2 := 0) e_1_108 ?_
        refine aw_iload_n (i := 1) rfl d_X12_watch_48 1 rfl ?_
        refine aw_iast (ws_281 w) (vin_c (by decide)) d_X12_watch_49 ?_
        refine aw_aload_n (i := 0) rfl d_X12_watch_50 0 rfl ?_
        refine aw_getr (k0 := 106) kc_12 (ws_1 w) (Nat.le_of_ble_eq_true rfl) tw_1848 d_X12_watch_51 rfl (wr_1_106 w) ?_
        refine aw_aload_n (i := 0) rfl d_X12_watch_54 0 rfl ?_
        refine aw_geti (k0 := 108) kc_12 (ws_1 w) (Nat.le_of_ble_eq_true rfl) tw_1850 d_X12_watch_55 rfl ?_
        refine aw_vi (v2 := 0) e_1_108 ?_
        refine aw_iload_n (i := 2) rfl d_X12_watch_58 2 rfl ?_
        refine aw_iast (ws_282 w) (vin_c (by decide)) d_X12_watch_59 ?_
        refine aw_aload_n (i := 0) rfl d_X12_watch_60 0 rfl ?_
        refine aw_getr (k0 := 107) kc_12 (ws_1 w) (Nat.le_of_ble_eq_true rfl) tw_1849 d_X12_watch_61 rfl (wr_1_107 w) ?_
        refine aw_aload_n (i := 0) rfl d_X12_watch_64 0 rfl ?_
        refine aw_geti (k0 := 108) kc_12 (ws_1 w) (Nat.le_of_ble_eq_true rfl) tw_1850 d_X12_watch_65 rfl ?_
        refine aw_vi (v2 := 0) e_1_108 ?_
        refine aw_iload_n (i := 3) rfl d_X12_watch_68 3 rfl ?_
        refine aw_iast (ws_283 w) (vin_c (by decide)) d_X12_watch_69 ?_
        refine aw_aload_n (i := 0) rfl d_X12_watch_70 0 rfl ?_
        refine aw_dup d_X12_watch_71 rfl ?_
        refine aw_geti (k0 := 108) kc_12 (ws_1 w) (Nat.le_of_ble_eq_true rfl) tw_1850 d_X12_watch_72 rfl ?_
        refine aw_vi (v2 := 0) e_1_108 ?_
        refine aw_iconst (v := 1) d_X12_watch_75 ic_1 ?_
        refine aw_iadd d_X12_watch_76 ?_
        refine aw_vi (v2 := 1) (by decide) ?_
        refine aw_puti (k0 := 108) kc_12 (ws_1 w) (Nat.le_of_ble_eq_true rfl) tw_1850 d_X12_watch_77 rfl rfl nf_i ?_
        refine aw_aload_n (i := 0) rfl d_X12_watch_80 0 rfl ?_
        refine aw_geti (k0 := 108) kc_12 (ws_1 w) (Nat.le_of_ble_eq_true rfl) tw_1850 d_X12_watch_81 rfl ?_
        refine aw_vi (v2 := 1) rfl ?_
        refine aw_iconst (v := 1) d_X12_watch_84 ic_1 ?_
        refine aw_isub d_X12_watch_85 ?_
        refine aw_vi (v2 := 0) (by decide) ?_
        exact aw_iret rfl d_X12_watch_86 ⟨Nat.le_refl _, Nat.le_refl _⟩ ⟨_, rfl, (Or.inr (Or.inr (Or.inr ⟨c3, c6, c9, rfl, rfl⟩)))⟩
theorem f_X12_sees (d : Nat) (h : Hp_) (w : Wf h) (e_1_42 : h_i h 1 42 = 0)  (x1 : Int32) (x2 : Int32) : Ci (m_X12_sees (d + 1) 0 0) [.ref 1, .int x1, .int x2] h (fun r h' => (r = (-1) ∧ h' = h)) := by
  refine Ct.of (fun _ _ _ => trivial) rfl (Nat.le_of_ble_eq_true rfl) ?_
  show AW (m_X12_sees (d + 1) 0 0) 0 0 0 [(0, .ref 1), (1, .int x1), (2, .int x2)] [] h (kI (fun r h' => (r = (-1) ∧ h' = h)))
  refine aw_iload_n (i := 1) rfl d_X12_sees_0 1 rfl ?_
  refine aw_iconst (v := 0) d_X12_sees_1 ic_0 ?_
  refine aw_aload_n (i := 0) rfl d_X12_sees_2 0 rfl ?_
  refine aw_geti (k0 := 42) kc_12 (ws_1 w) (Nat.le_of_ble_eq_true rfl) tw_1784 d_X12_sees_3 rfl ?_
  refine aw_vi (v2 := 0) e_1_42 ?_
  refine aw_iconst (v := 1) d_X12_sees_6 ic_1 ?_
  refine aw_isub d_X12_sees_7 ?_
  refine aw_vi (v2 := (-1)) (by decide) ?_
  refine aw_Si [.int x1, .int 0, .int (-1)] [] d_X12_sees_8 (cS_X12_in (d + 0) 0 0) tw_2147 rfl (rr0 (Nat.le_of_ble_eq_true rfl) (Nat.le_of_ble_eq_true rfl)) (Nat.le_of_ble_eq_true rfl) xs0 (s_X12_in _ _ x1 0 (-1)) (fun _ _ kk => ?_)
  obtain ⟨e1, e2⟩ := kk
  rw [e1, e2]
  have c3 : ¬ (0 ≤ x1 ∧ x1 ≤ (-1)) := (by intro c3; grind)
  refine aw_vi (v2 := 0) (bI_0.mpr c3) ?_
  refine aw_if_eq (tgt := 45) d_X12_sees_11 rfl (fun _ => ?_) (fun c => absurd c (by decide))
  refine aw_iconst (v := (-1)) d_X12_sees_45 ic_m1 ?_
  exact aw_iret rfl d_X12_sees_46 ⟨Nat.le_refl _, Nat.le_refl _⟩ ⟨_, rfl, ⟨rfl, rfl⟩⟩
theorem f_X12_findShares_175 (d : Nat) (h : Hp_) (w : Wf h) (e_1_42 : h_i h 1 42 = 0)  (x1 : Int32) : Ci (m_X12_findShares (d + 1) 0 0) [.ref 1, .int x1] h (fun r h' => (r = 0 ∧ h' = h)) := by
  refine Ct.of (fun _ _ _ => trivial) rfl (Nat.le_of_ble_eq_true rfl) ?_
  show AW (m_X12_findShares (d + 1) 0 0) 0 0 0 [(0, .ref 1), (1, .int x1)] [] h (kI (fun r h' => (r = 0 ∧ h' = h)))
  refine aw_iload_n (i := 1) rfl d_X12_findShares_0 1 rfl ?_
  refine aw_iconst (v := 1) d_X12_findShares_1 ic_1 ?_
  refine aw_iconst (v := 1) d_X12_findShares_2 ic_1 ?_
  refine aw_aload_n (i := 0) rfl d_X12_findShares_3 0 rfl ?_
  refine aw_geti (k0 := 42) kc_12 (ws_1 w) (Nat.le_of_ble_eq_true rfl) tw_1784 d_X12_findShares_4 rfl ?_
  refine aw_vi (v2 := 0) e_1_42 ?_
  refine aw_ishl d_X12_findShares_7 ?_
  refine aw_vi (v2 := 1) (by decide) ?_
  refine aw_iconst (v := 1) d_X12_findShares_8 ic_1 ?_
  refine aw_isub d_X12_findShares_9 ?_
  refine aw_vi (v2 := 0) (by decide) ?_
  refine aw_Si [.int x1, .int 1, .int 0] [] d_X12_findShares_10 (cS_X12_in (d + 0) 0 0) tw_2147 rfl (rr0 (Nat.le_of_ble_eq_true rfl) (Nat.le_of_ble_eq_true rfl)) (Nat.le_of_ble_eq_true rfl) xs0 (s_X12_in _ _ x1 1 0) (fun _ _ kk => ?_)
  obtain ⟨e1, e2⟩ := kk
  rw [e1, e2]
  have c3 : ¬ (1 ≤ x1 ∧ x1 ≤ 0) := (by intro c3; grind)
  refine aw_vi (v2 := 0) (bI_0.mpr c3) ?_
  refine aw_if_eq (tgt := 23) d_X12_findShares_13 rfl (fun _ => ?_) (fun c => absurd c (by decide))
  refine aw_iconst (v := 0) d_X12_findShares_23 ic_0 ?_
  refine aw_istore_n (i := 2) rfl [(0, .ref 1), (1, .int x1), (2, .int 0)] d_X12_findShares_24 (Nat.le_of_ble_eq_true rfl) rfl rfl ?_
  refine aw_iload_n (i := 2) rfl d_X12_findShares_25 2 rfl ?_
  refine aw_iconst (v := 1) d_X12_findShares_26 ic_1 ?_
  refine aw_iconst (v := 5) d_X12_findShares_27 ic_5 ?_
  refine aw_Si [.int 0, .int 1, .int 5] [] d_X12_findShares_28 (cS_X12_in (d + 0) 0 0) tw_2147 rfl (rr0 (Nat.le_of_ble_eq_true rfl) (Nat.le_of_ble_eq_true rfl)) (Nat.le_of_ble_eq_true rfl) xs0 (s_X12_in _ _ 0 1 5) (fun _ _ kk => ?_)
  obtain ⟨e5, e6⟩ := kk
  rw [e5, e6]
  refine aw_vi (v2 := 0) (by decide) ?_
  refine aw_if_ne (tgt := 36) d_X12_findShares_31 rfl (fun c => absurd c (by decide)) (fun _ => ?_)
  refine aw_iconst (v := 0) d_X12_findShares_34 ic_0 ?_
  exact aw_zret rfl rfl d_X12_findShares_35 ⟨Nat.le_refl _, Nat.le_refl _⟩ ⟨_, rfl, ⟨rfl, rfl⟩⟩
theorem f_X12_safe (d : Nat) (h : Hp_) (w : Wf h) (e_1_42 : h_i h 1 42 = 0)  (x1 : Int32) : Ci (m_X12_safe (d + 2) 0 0) [.ref 1, .int x1] h (fun r h' => (r = (-1) ∧ h' = h)) := by
  refine Ct.of (fun _ _ _ => trivial) rfl (Nat.le_of_ble_eq_true rfl) ?_
  show AW (m_X12_safe (d + 2) 0 0) 0 0 0 [(0, .ref 1), (1, .int x1)] [] h (kI (fun r h' => (r = (-1) ∧ h' = h)))
  refine aw_aload_n (i := 0) rfl d_X12_safe_0 0 rfl ?_
  refine aw_iload_n (i := 1) rfl d_X12_safe_1 1 rfl ?_
  refine aw_Vi 1 [.int x1] [] d_X12_safe_2 (cV_X12_findShares (d + 1) 0 0) kc_12 (ws_1 w) tw_2615 rfl (rr0 (Nat.le_of_ble_eq_true rfl) (Nat.le_of_ble_eq_true rfl)) (Nat.le_of_ble_eq_true rfl) xs0 (f_X12_findShares_175 d h w e_1_42 x1) (fun r1 h2 kk => ?_)
  obtain ⟨ez8, ez9⟩ := kk
  obtain rfl := ez8.symm
  obtain rfl := ez9.symm
  refine aw_if_eq (tgt := 15) d_X12_safe_5 rfl (fun _ => ?_) (fun c => absurd c (by decide))
  refine aw_iconst (v := (-1)) d_X12_safe_15 ic_m1 ?_
  exact aw_iret rfl d_X12_safe_16 ⟨Nat.le_refl _, Nat.le_refl _⟩ ⟨_, rfl, ⟨rfl, rfl⟩⟩
theorem f_X12_share (d : Nat) (h : Hp_) (w : Wf h) (e_1_42 : h_i h 1 42 = 0)  (x1 : Int32) (x2 : Int32) : Ci (m_X12_share (d + 2) 0 0) [.ref 1, .int x1, .int x2] h (fun r h' => (r = (-1) ∧ h' = h)) := by
  refine Ct.of (fun _ _ _ => trivial) rfl (Nat.le_of_ble_eq_true rfl) ?_
  show AW (m_X12_share (d + 2) 0 0) 0 0 0 [(0, .ref 1), (1, .int x1), (2, .int x2)] [] h (kI (fun r h' => (r = (-1) ∧ h' = h)))
  refine aw_aload_n (i := 0) rfl d_X12_share_0 0 rfl ?_
  refine aw_iload_n (i := 1) rfl d_X12_share_1 1 rfl ?_
  refine aw_Vi 1 [.int x1] [] d_X12_share_2 (cV_X12_findShares (d + 1) 0 0) kc_12 (ws_1 w) tw_2615 rfl (rr0 (Nat.le_of_ble_eq_true rfl) (Nat.le_of_ble_eq_true rfl)) (Nat.le_of_ble_eq_true rfl) xs0 (f_X12_findShares_175 d h w e_1_42 x1) (fun r1 h2 kk => ?_)
  obtain ⟨ez8, ez9⟩ := kk
  obtain rfl := ez8.symm
  obtain rfl := ez9.symm
  refine aw_if_ne (tgt := 10) d_X12_share_5 rfl (fun c => absurd c (by decide)) (fun _ => ?_)
  refine aw_iconst (v := (-1)) d_X12_share_8 ic_m1 ?_
  exact aw_iret rfl d_X12_share_9 ⟨Nat.le_refl _, Nat.le_refl _⟩ ⟨_, rfl, ⟨rfl, rfl⟩⟩
theorem f_X12_fair (d : Nat) (h : Hp_) (w : Wf h) (e_1_119 : h_i h 1 119 = 0)  (x1 : Int32) (x2 : Int32) (x3 : Int32) : Ci (m_X12_fair (d + 2) 0 0) [.ref 1, .int x1, .int x2, .int x3] h (fun r h' => (¬ (0 ≤ x1 ∧ x1 ≤ 15) ∧ r = (-1) ∧ h' = h) ∨ ((0 ≤ x1 ∧ x1 ≤ 15) ∧ ¬ (0 ≤ x2 ∧ x2 ≤ 30000) ∧ r = (-1) ∧ h' = h) ∨ ((0 ≤ x1 ∧ x1 ≤ 15) ∧ (0 ≤ x2 ∧ x2 ≤ 30000) ∧ ¬ (1 ≤ x3 ∧ x3 ≤ 3) ∧ r = (-1) ∧ h' = h) ∨ ((0 ≤ x1 ∧ x1 ≤ 15) ∧ (0 ≤ x2 ∧ x2 ≤ 30000) ∧ (1 ≤ x3 ∧ x3 ≤ 3) ∧ r = 0 ∧ h' = h_im (h_im (h_im (h_im h 288 (0 : Int32).toNatClampNeg x1) 289 (0 : Int32).toNatClampNeg x2) 290 (0 : Int32).toNatClampNeg x3) 1 119 1)) := by
  refine Ct.of (fun _ _ _ => trivial) rfl (Nat.le_of_ble_eq_true rfl) ?_
  show AW (m_X12_fair (d + 2) 0 0) 0 0 0 [(0, .ref 1), (1, .int x1), (2, .int x2), (3, .int x3)] [] h (kI (fun r h' => (¬ (0 ≤ x1 ∧ x1 ≤ 15) ∧ r = (-1) ∧ h' = h) ∨ ((0 ≤ x1 ∧ x1 ≤ 15) ∧ ¬ (0 ≤ x2 ∧ x2 ≤ 30000) ∧ r = (-1) ∧ h' = h) ∨ ((0 ≤ x1 ∧ x1 ≤ 15) ∧ (0 ≤ x2 ∧ x2 ≤ 30000) ∧ ¬ (1 ≤ x3 ∧ x3 ≤ 3) ∧ r = (-1) ∧ h' = h) ∨ ((0 ≤ x1 ∧ x1 ≤ 15) ∧ (0 ≤ x2 ∧ x2 ≤ 30000) ∧ (1 ≤ x3 ∧ x3 ≤ 3) ∧ r = 0 ∧ h' = h_im (h_im (h_im (h_im h 288 (0 : Int32).toNatClampNeg x1) 289 (0 : Int32).toNatClampNeg x2) 290 (0 : Int32).toNatClampNeg x3) 1 119 1)))
  refine aw_iload_n (i := 1) rfl d_X12_fair_0 1 rfl ?_
  refine aw_Si [.int x1] [] d_X12_fair_1 (cS_X12_isPlace (d + 1) 0 0) tw_2144 rfl (rr0 (Nat.le_of_ble_eq_true rfl) (Nat.le_of_ble_eq_true rfl)) (Nat.le_of_ble_eq_true rfl) xs0 (s_X12_isPlace _ _ x1) (fun _ _ kk => ?_)
  obtain ⟨e1, e2⟩ := kk
  rw [e1, e2]
  refine aw_ifb_eq (tgt := 35) d_X12_fair_4 rfl (fun c3 => ?_) (fun c3 => ?_)
  · refine aw_iconst (v := (-1)) d_X12_fair_35 ic_m1 ?_
    exact aw_iret rfl d_X12_fair_36 ⟨Nat.le_refl _, Nat.le_refl _⟩ ⟨_, rfl, (Or.inl ⟨c3, rfl, rfl⟩)⟩
  · refine aw_iload_n (i := 2) rfl d_X12_fair_7 2 rfl ?_
    refine aw_iconst (v := 0) d_X12_fair_8 ic_0 ?_
    refine aw_sipush (v := 30000) d_X12_fair_9 is_30000 ?_
    refine aw_Si [.int x2, .int 0, .int 30000] [] d_X12_fair_12 (cS_X12_in (d + 0) 0 0) tw_2147 rfl (rr0 (Nat.le_of_ble_eq_true rfl) (Nat.le_of_ble_eq_true rfl)) (Nat.le_of_ble_eq_true rfl) xs0 (s_X12_in _ _ x2 0 30000) (fun _ _ kk => ?_)
    obtain ⟨e4, e5⟩ := kk
    rw [e4, e5]
    refine aw_ifb_eq (tgt := 35) d_X12_fair_15 rfl (fun c6 => ?_) (fun c6 => ?_)
    · refine aw_iconst (v := (-1)) d_X12_fair_35 ic_m1 ?_
      exact aw_iret rfl d_X12_fair_36 ⟨Nat.le_refl _, Nat.le_refl _⟩ ⟨_, rfl, (Or.inr (Or.inl ⟨c3, c6, rfl, rfl⟩))⟩
    · refine aw_iload_n (i := 3) rfl d_X12_fair_18 3 rfl ?_
      refine aw_iconst (v := 1) d_X12_fair_19 ic_1 ?_
      refine aw_iconst (v := 3) d_X12_fair_20 ic_3 ?_
      refine aw_Si [.int x3, .int 1, .int 3] [] d_X12_fair_21 (cS_X12_in (d + 0) 0 0) tw_2147 rfl (rr0 (Nat.le_of_ble_eq_true rfl) (Nat.le_of_ble_eq_true rfl)) (Nat.le_of_ble_eq_true rfl) xs0 (s_X12_in _ _ x3 1 3) (fun _ _ kk => ?_)
      obtain ⟨e7, e8⟩ := kk
      rw [e7, e8]
      refine aw_ifb_eq (tgt := 35) d_X12_fair_24 rfl (fun c9 => ?_) (fun c9 => ?_)
      · refine aw_iconst (v := (-1)) d_X12_fair_35 ic_m1 ?_
        exact aw_iret rfl d_X12_fair_36 ⟨Nat.le_refl _, Nat.le_refl _⟩ ⟨_, rfl, (Or.inr (Or.inr (Or.inl ⟨c3, c6, c9, rfl, rfl⟩)))⟩
      · refine aw_aload_n (i := 0) rfl d_X12_fair_27 0 rfl ?_
        refine aw_geti (k0 := 119) kc_12 (ws_1 w) (Nat.le_of_ble_eq_true rfl) tw_1861 d_X12_fair_28 rfl ?_
        refine aw_vi (v2 := 0) e_1_119 ?_
        refine aw_iconst (v := 4) d_X12_fair_31 ic_4 ?_
        refine aw_icmp_ne (tgt := 37) d_X12_fair_32 rfl (fun _ => ?_) (fun c => absurd c (by decide))
        refine aw_aload_n (i := 0) rfl d_X12_fair_37 0 rfl ?_
        refine aw_getr (k0 := 116) kc_12 (ws_1 w) (Nat.le_of_ble_eq_true rfl) tw_1858 d_X12_fair_38 rfl (wr_1_116 w) ?_
        refine aw_aload_n (i := 0) rfl d_X12_fair_41 0 rfl ?_
        refine aw_geti (k0 := 119) kc_12 (ws_1 w) (Nat.le_of_ble_eq_true rfl) tw_1861 d_X12_fair_42 rfl ?_
        refine aw_vi (v2 := 0) e_1_119 ?_
        refine aw_iload_n (i := 1) rfl d_X12_fair_45 1 rfl ?_
        refine aw_iast (ws_288 w) (vin_c (by decide)) d_X12_fair_46 ?_
        refine aw_aload_n (i := 0) rfl d_X12_fair_47 0 rfl ?_
        refine aw_getr (k0 := 117) kc_12 (ws_1 w) (Nat.le_of_ble_eq_true rfl) tw_1859 d_X12_fair_48 rfl (wr_1_117 w) ?_
        refine aw_aload_n (i := 0) rfl d_X12_fair_51 0 rfl ?_
        refine aw_geti (k0 := 119) kc_12 (ws_1 w) (Nat.le_of_ble_eq_true rfl) tw_1861 d_X12_fair_52 rfl ?_
        refine aw_vi (v2 := 0) e_1_119 ?_
        refine aw_iload_n (i := 2) rfl d_X12_fair_55 2 rfl ?_
        refine aw_iast (ws_289 w) (vin_c (by decide)) d_X12_fair_56 ?_
        refine aw_aload_n (i := 0) rfl d_X12_fair_57 0 rfl ?_
        refine aw_getr (k0 := 118) kc_12 (ws_1 w) (Nat.le_of_ble_eq_true rfl) tw_1860 d_X12_fair_58 rfl (wr_1_118 w) ?_
        refine aw_aload_n (i := 0) rfl d_X12_fair_61 0 rfl ?_
        refine aw_geti (k0 := 119) kc_12 (ws_1 w) (Nat.le_of_ble_eq_true rfl) tw_1861 d_X12_fair_62 rfl ?_
        refine aw_vi (v2 := 0) e_1_119 ?_
        refine aw_iload_n (i := 3) rfl d_X12_fair_65 3 rfl ?_
        refine aw_iast (ws_290 w) (vin_c (by decide)) d_X12_fair_66 ?_
        refine aw_aload_n (i := 0) rfl d_X12_fair_67 0 rfl ?_
        refine aw_dup d_X12_fair_68 rfl ?_
        refine aw_geti (k0 := 119) kc_12 (ws_1 w) (Nat.le_of_ble_eq_true rfl) tw_1861 d_X12_fair_69 rfl ?_
        refine aw_vi (v2 := 0) e_1_119 ?_
        refine aw_iconst (v := 1) d_X12_fair_72 ic_1 ?_
        refine aw_iadd d_X12_fair_73 ?_
        refine aw_vi (v2 := 1) (by decide) ?_
        refine aw_puti (k0 := 119) kc_12 (ws_1 w) (Nat.le_of_ble_eq_true rfl) tw_1861 d_X12_fair_74 rfl rfl nf_i ?_
        refine aw_aload_n (i := 0) rfl d_X12_fair_77 0 rfl ?_
        refine aw_geti (k0 := 119) kc_12 (ws_1 w) (Nat.le_of_ble_eq_true rfl) tw_1861 d_X12_fair_78 rfl ?_
        refine aw_vi (v2 := 1) rfl ?_
        refine aw_iconst (v := 1) d_X12_fair_81 ic_1 ?_
        refine aw_isub d_X12_fair_82 ?_
        refine aw_vi (v2 := 0) (by decide) ?_
        exact aw_iret rfl d_X12_fair_83 ⟨Nat.le_refl _, Nat.le_refl _⟩ ⟨_, rfl, (Or.inr (Or.inr (Or.inr ⟨c3, c6, c9, rfl, rfl⟩)))⟩
theorem f_X12_lent (d : Nat) (h : Hp_) (w : Wf h) (e_1_7 : h_i h 1 7 = 0)  (x1 : Int32) : Ci (m_X12_lent (d + 2) 0 0) [.ref 1, .int x1] h (fun r h' => (r = (-1) ∧ h' = h)) := by
  refine Ct.of (fun _ _ _ => trivial) rfl (Nat.le_of_ble_eq_true rfl) ?_
  show AW (m_X12_lent (d + 2) 0 0) 0 0 0 [(0, .ref 1), (1, .int x1)] [] h (kI (fun r h' => (r = (-1) ∧ h' = h)))
  refine aw_aload_n (i := 0) rfl d_X12_lent_0 0 rfl ?_
  refine aw_iload_n (i := 1) rfl d_X12_lent_1 1 rfl ?_
  refine aw_Vi 1 [.int x1] [] d_X12_lent_2 (cV_X12_isMan (d + 1) 0 0) kc_12 (ws_1 w) tw_2167 rfl (rr0 (Nat.le_of_ble_eq_true rfl) (Nat.le_of_ble_eq_true rfl)) (Nat.le_of_ble_eq_true rfl) xs0 (f_X12_isMan_119 d h w e_1_7 x1) (fun r1 h2 kk => ?_)
  obtain ⟨ez8, ez9⟩ := kk
  obtain rfl := ez8.symm
  obtain rfl := ez9.symm
  refine aw_if_eq (tgt := 18) d_X12_lent_5 rfl (fun _ => ?_) (fun c => absurd c (by decide))
  refine aw_iconst (v := (-1)) d_X12_lent_18 ic_m1 ?_
  exact aw_iret rfl d_X12_lent_19 ⟨Nat.le_refl _, Nat.le_refl _⟩ ⟨_, rfl, ⟨rfl, rfl⟩⟩
theorem f_X12_fairs (d : Nat) (h : Hp_) (w : Wf h)    : Cv (m_X12_fairs (d + 0) 0 0) [.ref 1] h (fun h' => (h' = h_im h 1 119 0)) := by
  refine Ct.of (fun _ _ _ => trivial) rfl (Nat.le_of_ble_eq_true rfl) ?_
  show AW (m_X12_fairs (d + 0) 0 0) 0 0 0 [(0, .ref 1)] [] h (kV (fun h' => (h' = h_im h 1 119 0)))
  refine aw_aload_n (i := 0) rfl d_X12_fairs_0 0 rfl ?_
  refine aw_iconst (v := 0) d_X12_fairs_1 ic_0 ?_
  refine aw_puti (k0 := 119) kc_12 (ws_1 w) (Nat.le_of_ble_eq_true rfl) tw_1861 d_X12_fairs_2 rfl rfl nf_i ?_
  exact aw_vret rfl d_X12_fairs_5 ⟨Nat.le_refl _, Nat.le_refl _⟩ ⟨rfl, rfl⟩
theorem f_X12_isLetter_181 (d : Nat) (h : Hp_)    : Ci (m_X12_isLetter (d + 0) 0 0) [.int (-1), .int 2] h (fun r h' => (r = 0 ∧ h' = h)) := by
  refine Ct.of (fun _ _ _ => trivial) rfl (Nat.le_of_ble_eq_true rfl) ?_
  show AW (m_X12_isLetter (d + 0) 0 0) 0 0 0 [(0, .int (-1)), (1, .int 2)] [] h (kI (fun r h' => (r = 0 ∧ h' = h)))
  refine aw_iload_n (i := 0) rfl d_X12_isLetter_0 0 rfl ?_
  refine aw_tableOut (tgt := 140) d_X12_isLetter_1 (by decide) rfl ?_
  refine aw_iconst (v := 0) d_X12_isLetter_140 ic_0 ?_
  exact aw_zret rfl rfl d_X12_isLetter_141 ⟨Nat.le_refl _, Nat.le_refl _⟩ ⟨_, rfl, ⟨rfl, rfl⟩⟩
theorem f_X12_atom_182 (d : Nat) (h : Hp_) (w : Wf h) (e_1_32 : h_i h 1 32 = 0) (e_1_33 : h_i h 1 33 = 0) (e_1_34 : h_i h 1 34 = (-1)) (e_1_36 : h_i h 1 36 = 0) (e_1_37 : h_i h 1 37 = 2)   : Cv (m_X12_atom (d + 2) 0 0) [.ref 1] h (fun h' => (h' = h_im (h_im (h_im (h_im (h_im h 1 34 0) 226 (0 : Int32).toNatClampNeg 0) 1 36 1) 226 (1 : Int32).toNatClampNeg (-1)) 1 36 2)) := by
  refine Ct.of (fun _ _ _ => trivial) rfl (Nat.le_of_ble_eq_true rfl) ?_
  show AW (m_X12_atom (d + 2) 0 0) 0 0 0 [(0, .ref 1)] [] h (kV (fun h' => (h' = h_im (h_im (h_im (h_im (h_im h 1 34 0) 226 (0 : Int32).toNatClampNeg 0) 1 36 1) 226 (1 : Int32).toNatClampNeg (-1)) 1 36 2)))
  refine aw_aload_n (i := 0) rfl d_X12_atom_0 0 rfl ?_
  refine aw_Vi 1 [] [] d_X12_atom_1 (cV_X12_look (d + 0) 0 0) kc_12 (ws_1 w) tw_2210 rfl (rr0 (Nat.le_of_ble_eq_true rfl) (Nat.le_of_ble_eq_true rfl)) (Nat.le_of_ble_eq_true rfl) xs0 (f_X12_look_112 d h w e_1_32 e_1_33 ) (fun r1 h2 kk => ?_)
  obtain ⟨ez8, ez9⟩ := kk
  obtain rfl := ez8.symm
  obtain rfl := ez9.symm
  refine aw_istore_n (i := 1) rfl [(0, .ref 1), (1, .int (-1))] d_X12_atom_4 (Nat.le_of_ble_eq_true rfl) rfl rfl ?_
  refine aw_iload_n (i := 1) rfl d_X12_atom_5 1 rfl ?_
  refine aw_bipush (v := 91) d_X12_atom_6 ib_91 ?_
  refine aw_icmp_ne (tgt := 31) d_X12_atom_8 rfl (fun _ => ?_) (fun c => absurd c (by decide))
  refine aw_iload_n (i := 1) rfl d_X12_atom_31 1 rfl ?_
  refine aw_aload_n (i := 0) rfl d_X12_atom_32 0 rfl ?_
  refine aw_geti (k0 := 37) kc_12 (ws_1 w) (Nat.le_of_ble_eq_true rfl) tw_1779 d_X12_atom_33 rfl ?_
  refine aw_vi (v2 := 2) e_1_37 ?_
  refine aw_Si [.int (-1), .int 2] [] d_X12_atom_36 (cS_X12_isLetter (d + 0) 0 0) tw_2272 rfl (rr0 (Nat.le_of_ble_eq_true rfl) (Nat.le_of_ble_eq_true rfl)) (Nat.le_of_ble_eq_true rfl) xs0 (f_X12_isLetter_181 d _  ) (fun r4 h5 kk => ?_)
  obtain ⟨ez8, ez9⟩ := kk
  obtain rfl := ez8.symm
  obtain rfl := ez9.symm
  refine aw_if_eq (tgt := 65) d_X12_atom_39 rfl (fun _ => ?_) (fun c => absurd c (by decide))
  refine aw_aload_n (i := 0) rfl d_X12_atom_65 0 rfl ?_
  refine aw_Vi 1 [] [] d_X12_atom_66 (cV_X12_number (d + 1) 0 0) kc_12 (ws_1 w) tw_2222 rfl (rr0 (Nat.le_of_ble_eq_true rfl) (Nat.le_of_ble_eq_true rfl)) (Nat.le_of_ble_eq_true rfl) xs0 (f_X12_number_132 d h w e_1_32 e_1_33 e_1_34 ) (fun r7 h8 kk => ?_)
  obtain ⟨ez8, ez9⟩ := kk
  obtain rfl := ez8.symm
  obtain rfl := ez9.symm
  refine aw_istore_n (i := 2) rfl [(0, .ref 1), (1, .int (-1)), (2, .int (-1))] d_X12_atom_69 (Nat.le_of_ble_eq_true rfl) rfl rfl ?_
  refine aw_aload_n (i := 0) rfl d_X12_atom_70 0 rfl ?_
  refine aw_iconst (v := 0) d_X12_atom_71 ic_0 ?_
  refine aw_Vv 1 [.int 0] [] d_X12_atom_72 (cV_X12_say (d + 0) 0 0) kc_12 (ws_1 w) tw_2214 rfl (rr0 (Nat.le_of_ble_eq_true rfl) (Nat.le_of_ble_eq_true rfl)) (Nat.le_of_ble_eq_true rfl) xs0 (f_X12_say_133 d (h_im h 1 34 0) w e_1_36 ) (fun h10 kk => ?_)
  have ez9 := kk
  obtain rfl := ez9.symm
  refine aw_aload_n (i := 0) rfl d_X12_atom_75 0 rfl ?_
  refine aw_iload_n (i := 2) rfl d_X12_atom_76 2 rfl ?_
  refine aw_Vv 1 [.int (-1)] [] d_X12_atom_77 (cV_X12_say (d + 0) 0 0) kc_12 (ws_1 w) tw_2214 rfl (rr0 (Nat.le_of_ble_eq_true rfl) (Nat.le_of_ble_eq_true rfl)) (Nat.le_of_ble_eq_true rfl) xs0 (f_X12_say_134 d (h_im (h_im (h_im h 1 34 0) 226 (0 : Int32).toNatClampNeg 0) 1 36 1) w rfl ) (fun h12 kk => ?_)
  have ez9 := kk
  obtain rfl := ez9.symm
  exact aw_vret rfl d_X12_atom_80 ⟨Nat.le_refl _, Nat.le_refl _⟩ ⟨rfl, rfl⟩
theorem f_X12_term_183 (d : Nat) (h : Hp_) (w : Wf h) (e_1_32 : h_i h 1 32 = 0) (e_1_33 : h_i h 1 33 = 0) (e_1_34 : h_i h 1 34 = (-1)) (e_1_36 : h_i h 1 36 = 0) (e_1_37 : h_i h 1 37 = 2)   : Cv (m_X12_term (d + 3) 0 0) [.ref 1] h (fun h' => (h' = h_im (h_im (h_im (h_im (h_im h 1 34 0) 226 (0 : Int32).toNatClampNeg 0) 1 36 1) 226 (1 : Int32).toNatClampNeg (-1)) 1 36 2)) := by
  refine Ct.of (fun _ _ _ => trivial) rfl (Nat.le_of_ble_eq_true rfl) ?_
  show AW (m_X12_term (d + 3) 0 0) 0 0 0 [(0, .ref 1)] [] h (kV (fun h' => (h' = h_im (h_im (h_im (h_im (h_im h 1 34 0) 226 (0 : Int32).toNatClampNeg 0) 1 36 1) 226 (1 : Int32).toNatClampNeg (-1)) 1 36 2)))
  refine aw_aload_n (i := 0) rfl d_X12_term_0 0 rfl ?_
  refine aw_Vv 1 [] [] d_X12_term_1 (cV_X12_atom (d + 2) 0 0) kc_12 (ws_1 w) tw_2260 rfl (rr0 (Nat.le_of_ble_eq_true rfl) (Nat.le_of_ble_eq_true rfl)) (Nat.le_of_ble_eq_true rfl) xs0 (f_X12_atom_182 d h w e_1_32 e_1_33 e_1_34 e_1_36 e_1_37 ) (fun h2 kk => ?_)
  have ez9 := kk
  obtain rfl := ez9.symm
  refine aw_aload_n (i := 0) rfl d_X12_term_4 0 rfl ?_
  refine aw_geti (k0 := 34) kc_12 (ws_1 w) (Nat.le_of_ble_eq_true rfl) tw_1776 d_X12_term_5 rfl ?_
  refine aw_vi (v2 := 0) rfl ?_
  refine aw_iconst (v := (-1)) d_X12_term_8 ic_m1 ?_
  refine aw_icmp_ne (tgt := 44) d_X12_term_9 rfl (fun _ => ?_) (fun c => absurd c (by decide))
  exact aw_vret rfl d_X12_term_44 ⟨Nat.le_refl _, Nat.le_refl _⟩ ⟨rfl, rfl⟩
theorem f_X12_sum_184 (d : Nat) (h : Hp_) (w : Wf h) (e_1_32 : h_i h 1 32 = 0) (e_1_33 : h_i h 1 33 = 0) (e_1_34 : h_i h 1 34 = (-1)) (e_1_36 : h_i h 1 36 = 0) (e_1_37 : h_i h 1 37 = 2)   : Cv (m_X12_sum (d + 4) 0 0) [.ref 1] h (fun h' => (h' = h_im (h_im (h_im (h_im (h_im h 1 34 0) 226 (0 : Int32).toNatClampNeg 0) 1 36 1) 226 (1 : Int32).toNatClampNeg (-1)) 1 36 2)) := by
  refine Ct.of (fun _ _ _ => trivial) rfl (Nat.le_of_ble_eq_true rfl) ?_
  show AW (m_X12_sum (d + 4) 0 0) 0 0 0 [(0, .ref 1)] [] h (kV (fun h' => (h' = h_im (h_im (h_im (h_im (h_im h 1 34 0) 226 (0 : Int32).toNatClampNeg 0) 1 36 1) 226 (1 : Int32).toNatClampNeg (-1)) 1 36 2)))
  refine aw_aload_n (i := 0) rfl d_X12_sum_0 0 rfl ?_
  refine aw_Vv 1 [] [] d_X12_sum_1 (cV_X12_term (d + 3) 0 0) kc_12 (ws_1 w) tw_2256 rfl (rr0 (Nat.le_of_ble_eq_true rfl) (Nat.le_of_ble_eq_true rfl)) (Nat.le_of_ble_eq_true rfl) xs0 (f_X12_term_183 d h w e_1_32 e_1_33 e_1_34 e_1_36 e_1_37 ) (fun h2 kk => ?_)
  have ez9 := kk
  obtain rfl := ez9.symm
  refine aw_aload_n (i := 0) rfl d_X12_sum_4 0 rfl ?_
  refine aw_Vi 1 [] [] d_X12_sum_5 (cV_X12_look (d + 0) 0 0) kc_12 (ws_1 w) tw_2210 rfl (rr0 (Nat.le_of_ble_eq_true rfl) (Nat.le_of_ble_eq_true rfl)) (Nat.le_of_ble_eq_true rfl) xs0 (f_X12_look_112 d (h_im (h_im (h_im (h_im (h_im h 1 34 0) 226 (0 : Int32).toNatClampNeg 0) 1 36 1) 226 (1 : Int32).toNatClampNeg (-1)) 1 36 2) w e_1_32 e_1_33 ) (fun r3 h4 kk => ?_)
  obtain ⟨ez8, ez9⟩ := kk
  obtain rfl := ez8.symm
  obtain rfl := ez9.symm
  refine aw_istore_n (i := 1) rfl [(0, .ref 1), (1, .int (-1))] d_X12_sum_8 (Nat.le_of_ble_eq_true rfl) rfl rfl ?_
  refine aw_aload_n (i := 0) rfl d_X12_sum_9 0 rfl ?_
  refine aw_geti (k0 := 34) kc_12 (ws_1 w) (Nat.le_of_ble_eq_true rfl) tw_1776 d_X12_sum_10 rfl ?_
  refine aw_vi (v2 := 0) rfl ?_
  refine aw_iconst (v := (-1)) d_X12_sum_13 ic_m1 ?_
  refine aw_icmp_ne (tgt := 56) d_X12_sum_14 rfl (fun _ => ?_) (fun c => absurd c (by decide))
  exact aw_vret rfl d_X12_sum_56 ⟨Nat.le_refl _, Nat.le_refl _⟩ ⟨rfl, rfl⟩
theorem f_X12_clause_185 (d : Nat) (h : Hp_) (w : Wf h) (e_1_32 : h_i h 1 32 = 0) (e_1_33 : h_i h 1 33 = 0) (e_1_34 : h_i h 1 34 = (-1)) (e_1_36 : h_i h 1 36 = 0) (e_1_37 : h_i h 1 37 = 2)   : Cv (m_X12_clause (d + 5) 0 0) [.ref 1] h (fun h' => (h' = h_im (h_im (h_im (h_im (h_im h 1 34 0) 226 (0 : Int32).toNatClampNeg 0) 1 36 1) 226 (1 : Int32).toNatClampNeg (-1)) 1 36 2)) := by
  refine Ct.of (fun _ _ _ => trivial) rfl (Nat.le_of_ble_eq_true rfl) ?_
  show AW (m_X12_clause (d + 5) 0 0) 0 0 0 [(0, .ref 1)] [] h (kV (fun h' => (h' = h_im (h_im (h_im (h_im (h_im h 1 34 0) 226 (0 : Int32).toNatClampNeg 0) 1 36 1) 226 (1 : Int32).toNatClampNeg (-1)) 1 36 2)))
  refine aw_aload_n (i := 0) rfl d_X12_clause_0 0 rfl ?_
  refine aw_Vi 1 [] [] d_X12_clause_1 (cV_X12_look (d + 0) 0 0) kc_12 (ws_1 w) tw_2210 rfl (rr0 (Nat.le_of_ble_eq_true rfl) (Nat.le_of_ble_eq_true rfl)) (Nat.le_of_ble_eq_true rfl) xs0 (f_X12_look_112 d h w e_1_32 e_1_33 ) (fun r1 h2 kk => ?_)
  obtain ⟨ez8, ez9⟩ := kk
  obtain rfl := ez8.symm
  obtain rfl := ez9.symm
  refine aw_istore_n (i := 1) rfl [(0, .ref 1), (1, .int (-1))] d_X12_clause_4 (Nat.le_of_ble_eq_true rfl) rfl rfl ?_
  refine aw_aload_n (i := 0) rfl d_X12_clause_5 0 rfl ?_
  refine aw_geti (k0 := 37) kc_12 (ws_1 w) (Nat.le_of_ble_eq_true rfl) tw_1779 d_X12_clause_6 rfl ?_
  refine aw_vi (v2 := 2) e_1_37 ?_
  refine aw_iconst (v := 1) d_X12_clause_9 ic_1 ?_
  refine aw_icmp_ne (tgt := 121) d_X12_clause_10 rfl (fun _ => ?_) (fun c => absurd c (by decide))
  refine aw_iload_n (i := 1) rfl d_X12_clause_121 1 rfl ?_
  refine aw_bipush (v := 33) d_X12_clause_122 ib_33 ?_
  refine aw_icmp_eq (tgt := 137) d_X12_clause_124 rfl (fun c => absurd c (by decide)) (fun _ => ?_)
  refine aw_iload_n (i := 1) rfl d_X12_clause_127 1 rfl ?_
  refine aw_bipush (v := 40) d_X12_clause_128 ib_40 ?_
  refine aw_icmp_eq (tgt := 137) d_X12_clause_130 rfl (fun c => absurd c (by decide)) (fun _ => ?_)
  refine aw_iconst (v := 1) d_X12_clause_133 ic_1 ?_
  refine aw_goto (tgt := 138) d_X12_clause_134 rfl ?_
  refine aw_istore_n (i := 2) rfl [(0, .ref 1), (1, .int (-1)), (2, .int 1)] d_X12_clause_138 (Nat.le_of_ble_eq_true rfl) rfl rfl ?_
  refine aw_iload_n (i := 2) rfl d_X12_clause_139 2 rfl ?_
  refine aw_if_eq (tgt := 248) d_X12_clause_140 rfl (fun c => absurd c (by decide)) (fun _ => ?_)
  refine aw_aload_n (i := 0) rfl d_X12_clause_143 0 rfl ?_
  refine aw_geti (k0 := 36) kc_12 (ws_1 w) (Nat.le_of_ble_eq_true rfl) tw_1778 d_X12_clause_144 rfl ?_
  refine aw_vi (v2 := 0) e_1_36 ?_
  refine aw_istore_n (i := 3) rfl [(0, .ref 1), (1, .int (-1)), (2, .int 1), (3, .int 0)] d_X12_clause_147 (Nat.le_of_ble_eq_true rfl) rfl rfl ?_
  refine aw_aload_n (i := 0) rfl d_X12_clause_148 0 rfl ?_
  refine aw_Vv 1 [] [] d_X12_clause_149 (cV_X12_sum (d + 4) 0 0) kc_12 (ws_1 w) tw_2252 rfl (rr0 (Nat.le_of_ble_eq_true rfl) (Nat.le_of_ble_eq_true rfl)) (Nat.le_of_ble_eq_true rfl) xs0 (f_X12_sum_184 d h w e_1_32 e_1_33 e_1_34 e_1_36 e_1_37 ) (fun h8 kk => ?_)
  have ez9 := kk
  obtain rfl := ez9.symm
  refine aw_aload_n (i := 0) rfl d_X12_clause_152 0 rfl ?_
  refine aw_geti (k0 := 34) kc_12 (ws_1 w) (Nat.le_of_ble_eq_true rfl) tw_1776 d_X12_clause_153 rfl ?_
  refine aw_vi (v2 := 0) rfl ?_
  refine aw_iconst (v := (-1)) d_X12_clause_156 ic_m1 ?_
  refine aw_icmp_eq (tgt := 161) d_X12_clause_157 rfl (fun c => absurd c (by decide)) (fun _ => ?_)
  exact aw_vret rfl d_X12_clause_160 ⟨Nat.le_refl _, Nat.le_refl _⟩ ⟨rfl, rfl⟩
theorem f_X12_fault_186 (d : Nat) (h : Hp_) (w : Wf h) (e_1_32 : h_i h 1 32 = 0)   : Ci (m_X12_fault (d + 6) 0 0) [.ref 1, .int 2] h (fun r h' => (r = 0 ∧ h' = h_im (h_im (h_im (h_im (h_im (h_im (h_im (h_im (h_im (h_im h 1 37 2) 1 33 0) 1 34 (-1)) 1 35 0) 1 36 0) 1 34 0) 226 (0 : Int32).toNatClampNeg 0) 1 36 1) 226 (1 : Int32).toNatClampNeg (-1)) 1 36 2)) := by
  refine Ct.of (fun _ _ _ => trivial) rfl (Nat.le_of_ble_eq_true rfl) ?_
  show AW (m_X12_fault (d + 6) 0 0) 0 0 0 [(0, .ref 1), (1, .int 2)] [] h (kI (fun r h' => (r = 0 ∧ h' = h_im (h_im (h_im (h_im (h_im (h_im (h_im (h_im (h_im (h_im h 1 37 2) 1 33 0) 1 34 (-1)) 1 35 0) 1 36 0) 1 34 0) 226 (0 : Int32).toNatClampNeg 0) 1 36 1) 226 (1 : Int32).toNatClampNeg (-1)) 1 36 2)))
  refine aw_iload_n (i := 1) rfl d_X12_fault_0 1 rfl ?_
  refine aw_iconst (v := 0) d_X12_fault_1 ic_0 ?_
  refine aw_iconst (v := 2) d_X12_fault_2 ic_2 ?_
  refine aw_Si [.int 2, .int 0, .int 2] [] d_X12_fault_3 (cS_X12_in (d + 0) 0 0) tw_2147 rfl (rr0 (Nat.le_of_ble_eq_true rfl) (Nat.le_of_ble_eq_true rfl)) (Nat.le_of_ble_eq_true rfl) xs0 (s_X12_in _ _ 2 0 2) (fun _ _ kk => ?_)
  obtain ⟨e1, e2⟩ := kk
  rw [e1, e2]
  refine aw_vi (v2 := 1) (by decide) ?_
  refine aw_if_ne (tgt := 12) d_X12_fault_6 rfl (fun _ => ?_) (fun c => absurd c (by decide))
  refine aw_aload_n (i := 0) rfl d_X12_fault_12 0 rfl ?_
  refine aw_iload_n (i := 1) rfl d_X12_fault_13 1 rfl ?_
  refine aw_puti (k0 := 37) kc_12 (ws_1 w) (Nat.le_of_ble_eq_true rfl) tw_1779 d_X12_fault_14 rfl rfl nf_i ?_
  refine aw_aload_n (i := 0) rfl d_X12_fault_17 0 rfl ?_
  refine aw_iconst (v := 0) d_X12_fault_18 ic_0 ?_
  refine aw_puti (k0 := 33) kc_12 (ws_1 w) (Nat.le_of_ble_eq_true rfl) tw_1775 d_X12_fault_19 rfl rfl nf_i ?_
  refine aw_aload_n (i := 0) rfl d_X12_fault_22 0 rfl ?_
  refine aw_iconst (v := (-1)) d_X12_fault_23 ic_m1 ?_
  refine aw_puti (k0 := 34) kc_12 (ws_1 w) (Nat.le_of_ble_eq_true rfl) tw_1776 d_X12_fault_24 rfl rfl nf_i ?_
  refine aw_aload_n (i := 0) rfl d_X12_fault_27 0 rfl ?_
  refine aw_iconst (v := 0) d_X12_fault_28 ic_0 ?_
  refine aw_puti (k0 := 35) kc_12 (ws_1 w) (Nat.le_of_ble_eq_true rfl) tw_1777 d_X12_fault_29 rfl rfl nf_i ?_
  refine aw_aload_n (i := 0) rfl d_X12_fault_32 0 rfl ?_
  refine aw_iconst (v := 0) d_X12_fault_33 ic_0 ?_
  refine aw_puti (k0 := 36) kc_12 (ws_1 w) (Nat.le_of_ble_eq_true rfl) tw_1778 d_X12_fault_34 rfl rfl nf_i ?_
  refine aw_iload_n (i := 1) rfl d_X12_fault_37 1 rfl ?_
  refine aw_if_ne (tgt := 48) d_X12_fault_38 rfl (fun _ => ?_) (fun c => absurd c (by decide))
  refine aw_aload_n (i := 0) rfl d_X12_fault_48 0 rfl ?_
  refine aw_Vv 1 [] [] d_X12_fault_49 (cV_X12_clause (d + 5) 0 0) kc_12 (ws_1 w) tw_2233 rfl (rr0 (Nat.le_of_ble_eq_true rfl) (Nat.le_of_ble_eq_true rfl)) (Nat.le_of_ble_eq_true rfl) xs0 (f_X12_clause_185 d (h_im (h_im (h_im (h_im (h_im h 1 37 2) 1 33 0) 1 34 (-1)) 1 35 0) 1 36 0) w e_1_32 rfl rfl rfl rfl ) (fun h6 kk => ?_)
  have ez9 := kk
  obtain rfl := ez9.symm
  refine aw_aload_n (i := 0) rfl d_X12_fault_52 0 rfl ?_
  refine aw_geti (k0 := 34) kc_12 (ws_1 w) (Nat.le_of_ble_eq_true rfl) tw_1776 d_X12_fault_53 rfl ?_
  refine aw_vi (v2 := 0) rfl ?_
  refine aw_iconst (v := (-1)) d_X12_fault_56 ic_m1 ?_
  refine aw_icmp_ne (tgt := 86) d_X12_fault_57 rfl (fun _ => ?_) (fun c => absurd c (by decide))
  refine aw_aload_n (i := 0) rfl d_X12_fault_86 0 rfl ?_
  refine aw_geti (k0 := 34) kc_12 (ws_1 w) (Nat.le_of_ble_eq_true rfl) tw_1776 d_X12_fault_87 rfl ?_
  refine aw_vi (v2 := 0) rfl ?_
  refine aw_iconst (v := (-1)) d_X12_fault_90 ic_m1 ?_
  refine aw_icmp_ne (tgt := 106) d_X12_fault_91 rfl (fun _ => ?_) (fun c => absurd c (by decide))
  refine aw_aload_n (i := 0) rfl d_X12_fault_106 0 rfl ?_
  refine aw_geti (k0 := 34) kc_12 (ws_1 w) (Nat.le_of_ble_eq_true rfl) tw_1776 d_X12_fault_107 rfl ?_
  refine aw_vi (v2 := 0) rfl ?_
  exact aw_iret rfl d_X12_fault_110 ⟨Nat.le_refl _, Nat.le_refl _⟩ ⟨_, rfl, ⟨rfl, rfl⟩⟩
theorem f_X12_text_187 (d : Nat) (h : Hp_) (w : Wf h) (e_1_32 : h_i h 1 32 = 0) (e_235_1 : h_i h 235 1 = 0)  (x2 : Int32) : Ci (m_X12_text (d + 7) 0 0) [.ref 1, .int 1, .int x2] h (fun r h' => (¬ (0 ≤ x2 ∧ x2 ≤ 30) ∧ r = (-1) ∧ h' = h) ∨ ((0 ≤ x2 ∧ x2 ≤ 30) ∧ r = (-1) ∧ h' = h_im (h_im (h_im (h_im (h_im (h_im (h_im (h_im (h_im (h_im h 1 37 2) 1 33 0) 1 34 (-1)) 1 35 0) 1 36 0) 1 34 0) 226 (0 : Int32).toNatClampNeg 0) 1 36 1) 226 (1 : Int32).toNatClampNeg (-1)) 1 36 2)) := by
  refine Ct.of (fun _ _ _ => trivial) rfl (Nat.le_of_ble_eq_true rfl) ?_
  show AW (m_X12_text (d + 7) 0 0) 0 0 0 [(0, .ref 1), (1, .int 1), (2, .int x2)] [] h (kI (fun r h' => (¬ (0 ≤ x2 ∧ x2 ≤ 30) ∧ r = (-1) ∧ h' = h) ∨ ((0 ≤ x2 ∧ x2 ≤ 30) ∧ r = (-1) ∧ h' = h_im (h_im (h_im (h_im (h_im (h_im (h_im (h_im (h_im (h_im h 1 37 2) 1 33 0) 1 34 (-1)) 1 35 0) 1 36 0) 1 34 0) 226 (0 : Int32).toNatClampNeg 0) 1 36 1) 226 (1 : Int32).toNatClampNeg (-1)) 1 36 2)))
  refine aw_iload_n (i := 2) rfl d_X12_text_0 2 rfl ?_
  refine aw_iconst (v := 0) d_X12_text_1 ic_0 ?_
  refine aw_bipush (v := 30) d_X12_text_2 ib_30 ?_
  refine aw_Si [.int x2, .int 0, .int 30] [] d_X12_text_4 (cS_X12_in (d + 0) 0 0) tw_2147 rfl (rr0 (Nat.le_of_ble_eq_true rfl) (Nat.le_of_ble_eq_true rfl)) (Nat.le_of_ble_eq_true rfl) xs0 (s_X12_in _ _ x2 0 30) (fun _ _ kk => ?_)
  obtain ⟨e1, e2⟩ := kk
  rw [e1, e2]
  refine aw_ifb_eq (tgt := 32) d_X12_text_7 rfl (fun c3 => ?_) (fun c3 => ?_)
  · refine aw_iconst (v := (-1)) d_X12_text_32 ic_m1 ?_
    exact aw_iret rfl d_X12_text_33 ⟨Nat.le_refl _, Nat.le_refl _⟩ ⟨_, rfl, (Or.inl ⟨c3, rfl, rfl⟩)⟩
  · refine aw_aload_n (i := 0) rfl d_X12_text_10 0 rfl ?_
    refine aw_getr (k0 := 49) kc_12 (ws_1 w) (Nat.le_of_ble_eq_true rfl) tw_1791 d_X12_text_11 rfl (wr_1_49 w) ?_
    refine aw_iload_n (i := 1) rfl d_X12_text_14 1 rfl ?_
    refine aw_iald (ws_235 w) (vin_c (by decide)) d_X12_text_15 ?_
    refine aw_vi (v2 := 0) e_235_1 ?_
    refine aw_bipush (v := 20) d_X12_text_16 ib_20 ?_
    refine aw_icmp_eq (tgt := 32) d_X12_text_18 rfl (fun c => absurd c (by decide)) (fun _ => ?_)
    refine aw_aload_n (i := 0) rfl d_X12_text_21 0 rfl ?_
    refine aw_iload_n (i := 1) rfl d_X12_text_22 1 rfl ?_
    refine aw_iconst (v := 1) d_X12_text_23 ic_1 ?_
    refine aw_iadd d_X12_text_24 ?_
    refine aw_vi (v2 := 2) (by decide) ?_
    refine aw_Vi 1 [.int 2] [] d_X12_text_25 (cV_X12_fault (d + 6) 0 0) kc_12 (ws_1 w) tw_2198 rfl (rr0 (Nat.le_of_ble_eq_true rfl) (Nat.le_of_ble_eq_true rfl)) (Nat.le_of_ble_eq_true rfl) xs0 (f_X12_fault_186 d h w e_1_32 ) (fun r5 h6 kk => ?_)
    obtain ⟨ez8, ez9⟩ := kk
    obtain rfl := ez8.symm
    obtain rfl := ez9.symm
    refine aw_iconst (v := (-1)) d_X12_text_28 ic_m1 ?_
    refine aw_icmp_eq (tgt := 34) d_X12_text_29 rfl (fun c => absurd c (by decide)) (fun _ => ?_)
    refine aw_iconst (v := (-1)) d_X12_text_32 ic_m1 ?_
    exact aw_iret rfl d_X12_text_33 ⟨Nat.le_refl _, Nat.le_refl _⟩ ⟨_, rfl, (Or.inr ⟨c3, rfl, rfl⟩)⟩
theorem f_X12_pay (d : Nat) (h : Hp_) (w : Wf h) (e_1_32 : h_i h 1 32 = 0) (e_235_1 : h_i h 235 1 = 0)  (x1 : Int32) : Ci (m_X12_pay (d + 8) 0 0) [.ref 1, .int x1] h (fun r h' => (¬ (0 ≤ x1 ∧ x1 ≤ 30) ∧ r = (-1) ∧ h' = h) ∨ ((0 ≤ x1 ∧ x1 ≤ 30) ∧ r = (-1) ∧ h' = h_im (h_im (h_im (h_im (h_im (h_im (h_im (h_im (h_im (h_im h 1 37 2) 1 33 0) 1 34 (-1)) 1 35 0) 1 36 0) 1 34 0) 226 (0 : Int32).toNatClampNeg 0) 1 36 1) 226 (1 : Int32).toNatClampNeg (-1)) 1 36 2)) := by
  refine Ct.of (fun _ _ _ => trivial) rfl (Nat.le_of_ble_eq_true rfl) ?_
  show AW (m_X12_pay (d + 8) 0 0) 0 0 0 [(0, .ref 1), (1, .int x1)] [] h (kI (fun r h' => (¬ (0 ≤ x1 ∧ x1 ≤ 30) ∧ r = (-1) ∧ h' = h) ∨ ((0 ≤ x1 ∧ x1 ≤ 30) ∧ r = (-1) ∧ h' = h_im (h_im (h_im (h_im (h_im (h_im (h_im (h_im (h_im (h_im h 1 37 2) 1 33 0) 1 34 (-1)) 1 35 0) 1 36 0) 1 34 0) 226 (0 : Int32).toNatClampNeg 0) 1 36 1) 226 (1 : Int32).toNatClampNeg (-1)) 1 36 2)))
  refine aw_aload_n (i := 0) rfl d_X12_pay_0 0 rfl ?_
  refine aw_iconst (v := 1) d_X12_pay_1 ic_1 ?_
  refine aw_iload_n (i := 1) rfl d_X12_pay_2 1 rfl ?_
  refine aw_Vi 1 [.int 1, .int x1] [] d_X12_pay_3 (cV_X12_text (d + 7) 0 0) kc_12 (ws_1 w) tw_2300 rfl (rr0 (Nat.le_of_ble_eq_true rfl) (Nat.le_of_ble_eq_true rfl)) (Nat.le_of_ble_eq_true rfl) xs0 (f_X12_text_187 d h w e_1_32 e_235_1 x1) (fun r1 h2 kk => ?_)
  rcases kk with ⟨c3, ez8, ez9⟩ | ⟨c4, ez8, ez9⟩
  · obtain rfl := ez8.symm
    obtain rfl := ez9.symm
    exact aw_iret rfl d_X12_pay_6 ⟨Nat.le_refl _, Nat.le_refl _⟩ ⟨_, rfl, (Or.inl ⟨c3, rfl, rfl⟩)⟩
  · obtain rfl := ez8.symm
    obtain rfl := ez9.symm
    exact aw_iret rfl d_X12_pay_6 ⟨Nat.le_refl _, Nat.le_refl _⟩ ⟨_, rfl, (Or.inr ⟨c4, rfl, rfl⟩)⟩
theorem f_X12_rank (d : Nat) (h : Hp_) (w : Wf h) (e_1_7 : h_i h 1 7 = 0)  (x1 : Int32) (x2 : Int32) (x3 : Int32) : Ci (m_X12_rank (d + 2) 0 0) [.ref 1, .int x1, .int x2, .int x3] h (fun r h' => (r = 0 ∧ h' = h)) := by
  refine Ct.of (fun _ _ _ => trivial) rfl (Nat.le_of_ble_eq_true rfl) ?_
  show AW (m_X12_rank (d + 2) 0 0) 0 0 0 [(0, .ref 1), (1, .int x1), (2, .int x2), (3, .int x3)] [] h (kI (fun r h' => (r = 0 ∧ h' = h)))
  refine aw_aload_n (i := 0) rfl d_X12_rank_0 0 rfl ?_
  refine aw_iload_n (i := 1) rfl d_X12_rank_1 1 rfl ?_
  refine aw_Vi 1 [.int x1] [] d_X12_rank_2 (cV_X12_isMan (d + 1) 0 0) kc_12 (ws_1 w) tw_2167 rfl (rr0 (Nat.le_of_ble_eq_true rfl) (Nat.le_of_ble_eq_true rfl)) (Nat.le_of_ble_eq_true rfl) xs0 (f_X12_isMan_119 d h w e_1_7 x1) (fun r1 h2 kk => ?_)
  obtain ⟨ez8, ez9⟩ := kk
  obtain rfl := ez8.symm
  obtain rfl := ez9.symm
  refine aw_if_eq (tgt := 36) d_X12_rank_5 rfl (fun _ => ?_) (fun c => absurd c (by decide))
  refine aw_iconst (v := 0) d_X12_rank_36 ic_0 ?_
  exact aw_zret rfl rfl d_X12_rank_37 ⟨Nat.le_refl _, Nat.le_refl _⟩ ⟨_, rfl, ⟨rfl, rfl⟩⟩
theorem f_X12_ranked (d : Nat) (h : Hp_) (w : Wf h) (e_1_7 : h_i h 1 7 = 0)  (x1 : Int32) (x2 : Int32) (x3 : Int32) : Ci (m_X12_ranked (d + 2) 0 0) [.ref 1, .int x1, .int x2, .int x3] h (fun r h' => (r = (-1) ∧ h' = h)) := by
  refine Ct.of (fun _ _ _ => trivial) rfl (Nat.le_of_ble_eq_true rfl) ?_
  show AW (m_X12_ranked (d + 2) 0 0) 0 0 0 [(0, .ref 1), (1, .int x1), (2, .int x2), (3, .int x3)] [] h (kI (fun r h' => (r = (-1) ∧ h' = h)))
  refine aw_aload_n (i := 0) rfl d_X12_ranked_0 0 rfl ?_
  refine aw_iload_n (i := 1) rfl d_X12_ranked_1 1 rfl ?_
  refine aw_Vi 1 [.int x1] [] d_X12_ranked_2 (cV_X12_isMan (d + 1) 0 0) kc_12 (ws_1 w) tw_2167 rfl (rr0 (Nat.le_of_ble_eq_true rfl) (Nat.le_of_ble_eq_true rfl)) (Nat.le_of_ble_eq_true rfl) xs0 (f_X12_isMan_119 d h w e_1_7 x1) (fun r1 h2 kk => ?_)
  obtain ⟨ez8, ez9⟩ := kk
  obtain rfl := ez8.symm
  obtain rfl := ez9.symm
  refine aw_if_eq (tgt := 36) d_X12_ranked_5 rfl (fun _ => ?_) (fun c => absurd c (by decide))
  refine aw_iconst (v := (-1)) d_X12_ranked_36 ic_m1 ?_
  exact aw_iret rfl d_X12_ranked_37 ⟨Nat.le_refl _, Nat.le_refl _⟩ ⟨_, rfl, ⟨rfl, rfl⟩⟩
theorem f_X12_paid (d : Nat) (h : Hp_) (w : Wf h) (e_1_7 : h_i h 1 7 = 0)  (x1 : Int32) (x2 : Int32) (x3 : Int32) : Ci (m_X12_paid (d + 2) 0 0) [.ref 1, .int x1, .int x2, .int x3] h (fun r h' => (r = (-1) ∧ h' = h)) := by
  refine Ct.of (fun _ _ _ => trivial) rfl (Nat.le_of_ble_eq_true rfl) ?_
  show AW (m_X12_paid (d + 2) 0 0) 0 0 0 [(0, .ref 1), (1, .int x1), (2, .int x2), (3, .int x3)] [] h (kI (fun r h' => (r = (-1) ∧ h' = h)))
  refine aw_aload_n (i := 0) rfl d_X12_paid_0 0 rfl ?_
  refine aw_iload_n (i := 1) rfl d_X12_paid_1 1 rfl ?_
  refine aw_Vi 1 [.int x1] [] d_X12_paid_2 (cV_X12_isMan (d + 1) 0 0) kc_12 (ws_1 w) tw_2167 rfl (rr0 (Nat.le_of_ble_eq_true rfl) (Nat.le_of_ble_eq_true rfl)) (Nat.le_of_ble_eq_true rfl) xs0 (f_X12_isMan_119 d h w e_1_7 x1) (fun r1 h2 kk => ?_)
  obtain ⟨ez8, ez9⟩ := kk
  obtain rfl := ez8.symm
  obtain rfl := ez9.symm
  refine aw_if_eq (tgt := 41) d_X12_paid_5 rfl (fun _ => ?_) (fun c => absurd c (by decide))
  refine aw_iconst (v := (-1)) d_X12_paid_41 ic_m1 ?_
  exact aw_iret rfl d_X12_paid_42 ⟨Nat.le_refl _, Nat.le_refl _⟩ ⟨_, rfl, ⟨rfl, rfl⟩⟩
theorem f_X12_book (d : Nat) (h : Hp_) (w : Wf h) (e_1_0 : h_i h 1 0 = 0) (e_1_127 : h_i h 1 127 = 0)   : Ci (m_X12_book (d + 0) 0 0) [.ref 1] h (fun r h' => (r = 0 ∧ h' = h)) := by
  refine Ct.of (fun _ _ _ => trivial) rfl (Nat.le_of_ble_eq_true rfl) ?_
  show AW (m_X12_book (d + 0) 0 0) 0 0 0 [(0, .ref 1)] [] h (kI (fun r h' => (r = 0 ∧ h' = h)))
  refine aw_iconst (v := 0) d_X12_book_0 ic_0 ?_
  refine aw_istore_n (i := 1) rfl [(0, .ref 1), (1, .int 0)] d_X12_book_1 (Nat.le_of_ble_eq_true rfl) rfl rfl ?_
  refine aw_iconst (v := 0) d_X12_book_2 ic_0 ?_
  refine aw_istore_n (i := 2) rfl [(0, .ref 1), (1, .int 0), (2, .int 0)] d_X12_book_3 (Nat.le_of_ble_eq_true rfl) rfl rfl ?_
  refine aw_iload_n (i := 2) rfl d_X12_book_4 2 rfl ?_
  refine aw_aload_n (i := 0) rfl d_X12_book_5 0 rfl ?_
  refine aw_geti (k0 := 0) kc_12 (ws_1 w) (Nat.le_of_ble_eq_true rfl) tw_1742 d_X12_book_6 rfl ?_
  refine aw_vi (v2 := 0) e_1_0 ?_
  refine aw_sipush (v := 1440) d_X12_book_9 is_1440 ?_
  refine aw_idiv d_X12_book_12 (by decide) ?_
  refine aw_vi (v2 := 0) (by decide) ?_
  refine aw_icmp_ge (tgt := 70) d_X12_book_13 rfl (fun _ => ?_) (fun c => absurd c (by decide))
  refine aw_aload_n (i := 0) rfl d_X12_book_70 0 rfl ?_
  refine aw_geti (k0 := 127) kc_12 (ws_1 w) (Nat.le_of_ble_eq_true rfl) tw_1869 d_X12_book_71 rfl ?_
  refine aw_vi (v2 := 0) e_1_127 ?_
  refine aw_iload_n (i := 1) rfl d_X12_book_74 1 rfl ?_
  refine aw_iadd d_X12_book_75 ?_
  refine aw_vi (v2 := 0) (by decide) ?_
  refine aw_sipush (v := 600) d_X12_book_76 is_600 ?_
  refine aw_icmp_le (tgt := 84) d_X12_book_79 rfl (fun _ => ?_) (fun c => absurd c (by decide))
  refine aw_iconst (v := 0) d_X12_book_84 ic_0 ?_
  refine aw_istore_n (i := 2) rfl [(0, .ref 1), (1, .int 0), (2, .int 0)] d_X12_book_85 (Nat.le_of_ble_eq_true rfl) rfl rfl ?_
  refine aw_iload_n (i := 2) rfl d_X12_book_86 2 rfl ?_
  refine aw_aload_n (i := 0) rfl d_X12_book_87 0 rfl ?_
  refine aw_geti (k0 := 0) kc_12 (ws_1 w) (Nat.le_of_ble_eq_true rfl) tw_1742 d_X12_book_88 rfl ?_
  refine aw_vi (v2 := 0) e_1_0 ?_
  refine aw_sipush (v := 1440) d_X12_book_91 is_1440 ?_
  refine aw_idiv d_X12_book_94 (by decide) ?_
  refine aw_vi (v2 := 0) (by decide) ?_
  refine aw_icmp_ge (tgt := 227) d_X12_book_95 rfl (fun _ => ?_) (fun c => absurd c (by decide))
  refine aw_iload_n (i := 1) rfl d_X12_book_227 1 rfl ?_
  exact aw_iret rfl d_X12_book_228 ⟨Nat.le_refl _, Nat.le_refl _⟩ ⟨_, rfl, ⟨rfl, rfl⟩⟩
theorem f_X12_line (d : Nat) (h : Hp_) (w : Wf h) (e_1_127 : h_i h 1 127 = 0)  (x1 : Int32) (x2 : Int32) : Ci (m_X12_line (d + 1) 0 0) [.ref 1, .int x1, .int x2] h (fun r h' => (r = (-1000000) ∧ h' = h)) := by
  refine Ct.of (fun _ _ _ => trivial) rfl (Nat.le_of_ble_eq_true rfl) ?_
  show AW (m_X12_line (d + 1) 0 0) 0 0 0 [(0, .ref 1), (1, .int x1), (2, .int x2)] [] h (kI (fun r h' => (r = (-1000000) ∧ h' = h)))
  refine aw_iload_n (i := 1) rfl d_X12_line_0 1 rfl ?_
  refine aw_iconst (v := 0) d_X12_line_1 ic_0 ?_
  refine aw_aload_n (i := 0) rfl d_X12_line_2 0 rfl ?_
  refine aw_geti (k0 := 127) kc_12 (ws_1 w) (Nat.le_of_ble_eq_true rfl) tw_1869 d_X12_line_3 rfl ?_
  refine aw_vi (v2 := 0) e_1_127 ?_
  refine aw_iconst (v := 1) d_X12_line_6 ic_1 ?_
  refine aw_isub d_X12_line_7 ?_
  refine aw_vi (v2 := (-1)) (by decide) ?_
  refine aw_Si [.int x1, .int 0, .int (-1)] [] d_X12_line_8 (cS_X12_in (d + 0) 0 0) tw_2147 rfl (rr0 (Nat.le_of_ble_eq_true rfl) (Nat.le_of_ble_eq_true rfl)) (Nat.le_of_ble_eq_true rfl) xs0 (s_X12_in _ _ x1 0 (-1)) (fun _ _ kk => ?_)
  obtain ⟨e1, e2⟩ := kk
  rw [e1, e2]
  have c3 : ¬ (0 ≤ x1 ∧ x1 ≤ (-1)) := (by intro c3; grind)
  refine aw_vi (v2 := 0) (bI_0.mpr c3) ?_
  refine aw_if_ne (tgt := 18) d_X12_line_11 rfl (fun c => absurd c (by decide)) (fun _ => ?_)
  refine aw_ldcw (v := (-1000000)) d_X12_line_14 tw_2680 ?_
  exact aw_iret rfl d_X12_line_17 ⟨Nat.le_refl _, Nat.le_refl _⟩ ⟨_, rfl, ⟨rfl, rfl⟩⟩
theorem f_X12_mark (d : Nat) (h : Hp_) (w : Wf h) (e_1_7 : h_i h 1 7 = 0)  (x1 : Int32) (x2 : Int32) (x3 : Int32) : Ci (m_X12_mark (d + 2) 0 0) [.ref 1, .int x1, .int x2, .int x3] h (fun r h' => (¬ (0 ≤ x1 ∧ x1 ≤ 3) ∧ r = 0 ∧ h' = h) ∨ ((0 ≤ x1 ∧ x1 ≤ 3) ∧ r = 0 ∧ h' = h)) := by
  refine Ct.of (fun _ _ _ => trivial) rfl (Nat.le_of_ble_eq_true rfl) ?_
  show AW (m_X12_mark (d + 2) 0 0) 0 0 0 [(0, .ref 1), (1, .int x1), (2, .int x2), (3, .int x3)] [] h (kI (fun r h' => (¬ (0 ≤ x1 ∧ x1 ≤ 3) ∧ r = 0 ∧ h' = h) ∨ ((0 ≤ x1 ∧ x1 ≤ 3) ∧ r = 0 ∧ h' = h)))
  refine aw_iload_n (i := 1) rfl d_X12_mark_0 1 rfl ?_
  refine aw_iconst (v := 0) d_X12_mark_1 ic_0 ?_
  refine aw_iconst (v := 3) d_X12_mark_2 ic_3 ?_
  refine aw_Si [.int x1, .int 0, .int 3] [] d_X12_mark_3 (cS_X12_in (d + 0) 0 0) tw_2147 rfl (rr0 (Nat.le_of_ble_eq_true rfl) (Nat.le_of_ble_eq_true rfl)) (Nat.le_of_ble_eq_true rfl) xs0 (s_X12_in _ _ x1 0 3) (fun _ _ kk => ?_)
  obtain ⟨e1, e2⟩ := kk
  rw [e1, e2]
  refine aw_ifb_eq (tgt := 27) d_X12_mark_6 rfl (fun c3 => ?_) (fun c3 => ?_)
  · refine aw_iconst (v := 0) d_X12_mark_27 ic_0 ?_
    exact aw_zret rfl rfl d_X12_mark_28 ⟨Nat.le_refl _, Nat.le_refl _⟩ ⟨_, rfl, (Or.inl ⟨c3, rfl, rfl⟩)⟩
  · refine aw_aload_n (i := 0) rfl d_X12_mark_9 0 rfl ?_
    refine aw_iload_n (i := 2) rfl d_X12_mark_10 2 rfl ?_
    refine aw_Vi 1 [.int x2] [] d_X12_mark_11 (cV_X12_isMan (d + 1) 0 0) kc_12 (ws_1 w) tw_2167 rfl (rr0 (Nat.le_of_ble_eq_true rfl) (Nat.le_of_ble_eq_true rfl)) (Nat.le_of_ble_eq_true rfl) xs0 (f_X12_isMan_119 d h w e_1_7 x2) (fun r4 h5 kk => ?_)
    obtain ⟨ez8, ez9⟩ := kk
    obtain rfl := ez8.symm
    obtain rfl := ez9.symm
    refine aw_if_eq (tgt := 27) d_X12_mark_14 rfl (fun _ => ?_) (fun c => absurd c (by decide))
    refine aw_iconst (v := 0) d_X12_mark_27 ic_0 ?_
    exact aw_zret rfl rfl d_X12_mark_28 ⟨Nat.le_refl _, Nat.le_refl _⟩ ⟨_, rfl, (Or.inr ⟨c3, rfl, rfl⟩)⟩
theorem f_X12_size (d : Nat) (h : Hp_) (w : Wf h)   (x1 : Int32) : Ci (m_X12_size (d + 1) 0 0) [.ref 1, .int x1] h (fun r h' => ((1 ≤ x1 ∧ x1 ≤ 12) ∧ r = 1 ∧ h' = h_im h 1 130 x1) ∨ (¬ (1 ≤ x1 ∧ x1 ≤ 12) ∧ r = 0 ∧ h' = h)) := by
  refine Ct.of (fun _ _ _ => trivial) rfl (Nat.le_of_ble_eq_true rfl) ?_
  show AW (m_X12_size (d + 1) 0 0) 0 0 0 [(0, .ref 1), (1, .int x1)] [] h (kI (fun r h' => ((1 ≤ x1 ∧ x1 ≤ 12) ∧ r = 1 ∧ h' = h_im h 1 130 x1) ∨ (¬ (1 ≤ x1 ∧ x1 ≤ 12) ∧ r = 0 ∧ h' = h)))
  refine aw_iload_n (i := 1) rfl d_X12_size_0 1 rfl ?_
  refine aw_iconst (v := 1) d_X12_size_1 ic_1 ?_
  refine aw_bipush (v := 12) d_X12_size_2 ib_12 ?_
  refine aw_Si [.int x1, .int 1, .int 12] [] d_X12_size_4 (cS_X12_in (d + 0) 0 0) tw_2147 rfl (rr0 (Nat.le_of_ble_eq_true rfl) (Nat.le_of_ble_eq_true rfl)) (Nat.le_of_ble_eq_true rfl) xs0 (s_X12_in _ _ x1 1 12) (fun _ _ kk => ?_)
  obtain ⟨e1, e2⟩ := kk
  rw [e1, e2]
  refine aw_ifb_ne (tgt := 12) d_X12_size_7 rfl (fun c3 => ?_) (fun c3 => ?_)
  · refine aw_aload_n (i := 0) rfl d_X12_size_12 0 rfl ?_
    refine aw_iload_n (i := 1) rfl d_X12_size_13 1 rfl ?_
    refine aw_puti (k0 := 130) kc_12 (ws_1 w) (Nat.le_of_ble_eq_true rfl) tw_1872 d_X12_size_14 rfl rfl nf_i ?_
    refine aw_iconst (v := 1) d_X12_size_17 ic_1 ?_
    exact aw_zret rfl rfl d_X12_size_18 ⟨Nat.le_refl _, Nat.le_refl _⟩ ⟨_, rfl, (Or.inl ⟨c3, rfl, rfl⟩)⟩
  · refine aw_iconst (v := 0) d_X12_size_10 ic_0 ?_
    exact aw_zret rfl rfl d_X12_size_11 ⟨Nat.le_refl _, Nat.le_refl _⟩ ⟨_, rfl, (Or.inr ⟨c3, rfl, rfl⟩)⟩
theorem f_X12_habit (d : Nat) (h : Hp_) (w : Wf h) (e_1_7 : h_i h 1 7 = 0) (e_1_130 : h_i h 1 130 = 3)  (x1 : Int32) (x2 : Int32) : Ci (m_X12_habit (d + 1) 0 0) [.ref 1, .int x1, .int x2] h (fun r h' => (¬ (0 ≤ x1 ∧ x1 ≤ 3) ∧ r = (-1000000) ∧ h' = h) ∨ ((0 ≤ x1 ∧ x1 ≤ 3) ∧ ¬ (0 ≤ x2 ∧ x2 ≤ 3) ∧ r = (-1000000) ∧ h' = h) ∨ ((0 ≤ x1 ∧ x1 ≤ 3) ∧ (0 ≤ x2 ∧ x2 ≤ 3) ∧ ¬ x1 = x2 ∧ r = (-1000000) ∧ h' = h) ∨ ((0 ≤ x1 ∧ x1 ≤ 3) ∧ (0 ≤ x2 ∧ x2 ≤ 3) ∧ x1 = x2 ∧ r = (-1000000) ∧ h' = h)) := by
  refine Ct.of (fun _ _ _ => trivial) rfl (Nat.le_of_ble_eq_true rfl) ?_
  show AW (m_X12_habit (d + 1) 0 0) 0 0 0 [(0, .ref 1), (1, .int x1), (2, .int x2)] [] h (kI (fun r h' => (¬ (0 ≤ x1 ∧ x1 ≤ 3) ∧ r = (-1000000) ∧ h' = h) ∨ ((0 ≤ x1 ∧ x1 ≤ 3) ∧ ¬ (0 ≤ x2 ∧ x2 ≤ 3) ∧ r = (-1000000) ∧ h' = h) ∨ ((0 ≤ x1 ∧ x1 ≤ 3) ∧ (0 ≤ x2 ∧ x2 ≤ 3) ∧ ¬ x1 = x2 ∧ r = (-1000000) ∧ h' = h) ∨ ((0 ≤ x1 ∧ x1 ≤ 3) ∧ (0 ≤ x2 ∧ x2 ≤ 3) ∧ x1 = x2 ∧ r = (-1000000) ∧ h' = h)))
  refine aw_iload_n (i := 1) rfl d_X12_habit_0 1 rfl ?_
  refine aw_iconst (v := 0) d_X12_habit_1 ic_0 ?_
  refine aw_iconst (v := 3) d_X12_habit_2 ic_3 ?_
  refine aw_Si [.int x1, .int 0, .int 3] [] d_X12_habit_3 (cS_X12_in (d + 0) 0 0) tw_2147 rfl (rr0 (Nat.le_of_ble_eq_true rfl) (Nat.le_of_ble_eq_true rfl)) (Nat.le_of_ble_eq_true rfl) xs0 (s_X12_in _ _ x1 0 3) (fun _ _ kk => ?_)
  obtain ⟨e1, e2⟩ := kk
  rw [e1, e2]
  refine aw_ifb_eq (tgt := 23) d_X12_habit_6 rfl (fun c3 => ?_) (fun c3 => ?_)
  · refine aw_ldcw (v := (-1000000)) d_X12_habit_23 tw_2680 ?_
    exact aw_iret rfl d_X12_habit_26 ⟨Nat.le_refl _, Nat.le_refl _⟩ ⟨_, rfl, (Or.inl ⟨c3, rfl, rfl⟩)⟩
  · refine aw_iload_n (i := 2) rfl d_X12_habit_9 2 rfl ?_
    refine aw_iconst (v := 0) d_X12_habit_10 ic_0 ?_
    refine aw_iconst (v := 3) d_X12_habit_11 ic_3 ?_
    refine aw_Si [.int x2, .int 0, .int 3] [] d_X12_habit_12 (cS_X12_in (d + 0) 0 0) tw_2147 rfl (rr0 (Nat.le_of_ble_eq_true rfl) (Nat.le_of_ble_eq_true rfl)) (Nat.le_of_ble_eq_true rfl) xs0 (s_X12_in _ _ x2 0 3) (fun _ _ kk => ?_)
    obtain ⟨e4, e5⟩ := kk
    rw [e4, e5]
    refine aw_ifb_eq (tgt := 23) d_X12_habit_15 rfl (fun c6 => ?_) (fun c6 => ?_)
    · refine aw_ldcw (v := (-1000000)) d_X12_habit_23 tw_2680 ?_
      exact aw_iret rfl d_X12_habit_26 ⟨Nat.le_refl _, Nat.le_refl _⟩ ⟨_, rfl, (Or.inr (Or.inl ⟨c3, c6, rfl, rfl⟩))⟩
    · refine aw_iload_n (i := 1) rfl d_X12_habit_18 1 rfl ?_
      refine aw_iload_n (i := 2) rfl d_X12_habit_19 2 rfl ?_
      refine aw_icmp_ne (tgt := 27) d_X12_habit_20 rfl (fun c7 => ?_) (fun c7 => ?_)
      · refine aw_iconst (v := 0) d_X12_habit_27 ic_0 ?_
        refine aw_istore_n (i := 3) rfl [(0, .ref 1), (1, .int x1), (2, .int x2), (3, .int 0)] d_X12_habit_28 (Nat.le_of_ble_eq_true rfl) rfl rfl ?_
        refine aw_iconst (v := 0) d_X12_habit_29 ic_0 ?_
        refine aw_istore [(0, .ref 1), (1, .int x1), (2, .int x2), (3, .int 0), (4, .int 0)] d_X12_habit_30 (Nat.le_of_ble_eq_true rfl) rfl rfl ?_
        refine aw_iconst (v := 0) d_X12_habit_32 ic_0 ?_
        refine aw_istore [(0, .ref 1), (1, .int x1), (2, .int x2), (3, .int 0), (4, .int 0), (5, .int 0)] d_X12_habit_33 (Nat.le_of_ble_eq_true rfl) rfl rfl ?_
        refine aw_iload d_X12_habit_35 5 rfl ?_
        refine aw_aload_n (i := 0) rfl d_X12_habit_37 0 rfl ?_
        refine aw_geti (k0 := 7) kc_12 (ws_1 w) (Nat.le_of_ble_eq_true rfl) tw_1749 d_X12_habit_38 rfl ?_
        refine aw_vi (v2 := 0) e_1_7 ?_
        refine aw_icmp_ge (tgt := 113) d_X12_habit_41 rfl (fun _ => ?_) (fun c => absurd c (by decide))
        refine aw_iload_n (i := 3) rfl d_X12_habit_113 3 rfl ?_
        refine aw_aload_n (i := 0) rfl d_X12_habit_114 0 rfl ?_
        refine aw_geti (k0 := 130) kc_12 (ws_1 w) (Nat.le_of_ble_eq_true rfl) tw_1872 d_X12_habit_115 rfl ?_
        refine aw_vi (v2 := 3) e_1_130 ?_
        refine aw_icmp_ge (tgt := 127) d_X12_habit_118 rfl (fun c => absurd c (by decide)) (fun _ => ?_)
        refine aw_ldcw (v := (-1000000)) d_X12_habit_121 tw_2680 ?_
        refine aw_goto (tgt := 129) d_X12_habit_124 rfl ?_
        exact aw_iret rfl d_X12_habit_129 ⟨Nat.le_refl _, Nat.le_refl _⟩ ⟨_, rfl, (Or.inr (Or.inr (Or.inl ⟨c3, c6, c7, rfl, rfl⟩)))⟩
      · refine aw_ldcw (v := (-1000000)) d_X12_habit_23 tw_2680 ?_
        exact aw_iret rfl d_X12_habit_26 ⟨Nat.le_refl _, Nat.le_refl _⟩ ⟨_, rfl, (Or.inr (Or.inr (Or.inr ⟨c3, c6, c7, rfl, rfl⟩)))⟩
theorem f_X12_complain (d : Nat) (h : Hp_) (w : Wf h) (e_1_7 : h_i h 1 7 = 0)  (x1 : Int32) (x2 : Int32) (x3 : Int32) (x4 : Int32) : Ci (m_X12_complain (d + 2) 0 0) [.ref 1, .int x1, .int x2, .int x3, .int x4] h (fun r h' => (r = (-1) ∧ h' = h)) := by
  refine Ct.of (fun _ _ _ => trivial) rfl (Nat.le_of_ble_eq_true rfl) ?_
  show AW (m_X12_complain (d + 2) 0 0) 0 0 0 [(0, .ref 1), (1, .int x1), (2, .int x2), (3, .int x3), (4, .int x4)] [] h (kI (fun r h' => (r = (-1) ∧ h' = h)))
  refine aw_aload_n (i := 0) rfl d_X12_complain_0 0 rfl ?_
  refine aw_iload_n (i := 1) rfl d_X12_complain_1 1 rfl ?_
  refine aw_Vi 1 [.int x1] [] d_X12_complain_2 (cV_X12_isMan (d + 1) 0 0) kc_12 (ws_1 w) tw_2167 rfl (rr0 (Nat.le_of_ble_eq_true rfl) (Nat.le_of_ble_eq_true rfl)) (Nat.le_of_ble_eq_true rfl) xs0 (f_X12_isMan_119 d h w e_1_7 x1) (fun r1 h2 kk => ?_)
  obtain ⟨ez8, ez9⟩ := kk
  obtain rfl := ez8.symm
  obtain rfl := ez9.symm
  refine aw_if_eq (tgt := 50) d_X12_complain_5 rfl (fun _ => ?_) (fun c => absurd c (by decide))
  refine aw_iconst (v := (-1)) d_X12_complain_50 ic_m1 ?_
  exact aw_iret rfl d_X12_complain_51 ⟨Nat.le_refl _, Nat.le_refl _⟩ ⟨_, rfl, ⟨rfl, rfl⟩⟩
theorem f_X12_count (d : Nat) (h : Hp_) (w : Wf h) (e_1_0 : h_i h 1 0 = 0) (e_1_6 : h_i h 1 6 = 0) (e_1_7 : h_i h 1 7 = 0) (e_1_32 : h_i h 1 32 = 0) (e_1_42 : h_i h 1 42 = 0) (e_1_63 : h_i h 1 63 = 0) (e_1_79 : h_i h 1 79 = 0) (e_1_80 : h_i h 1 80 = 0) (e_1_96 : h_i h 1 96 = 0) (e_1_97 : h_i h 1 97 = 0) (e_1_101 : h_i h 1 101 = 0) (e_1_102 : h_i h 1 102 = 0) (e_1_108 : h_i h 1 108 = 0) (e_1_119 : h_i h 1 119 = 0) (e_1_127 : h_i h 1 127 = 0) (e_235_0 : h_i h 235 0 = 0) (e_235_1 : h_i h 235 1 = 0)  (x1 : Int32) : Ci (m_X12_count (d + 0) 0 0) [.ref 1, .int x1] h (fun r h' => (x1 = 0 ∧ r = 0 ∧ h' = h) ∨ (x1 = 1 ∧ r = 0 ∧ h' = h) ∨ (x1 = 2 ∧ r = 0 ∧ h' = h) ∨ (x1 = 3 ∧ r = 0 ∧ h' = h) ∨ (x1 = 4 ∧ r = 0 ∧ h' = h) ∨ (x1 = 5 ∧ r = 0 ∧ h' = h) ∨ (x1 = 6 ∧ r = 0 ∧ h' = h) ∨ (x1 = 7 ∧ r = 0 ∧ h' = h) ∨ (x1 = 8 ∧ r = 0 ∧ h' = h) ∨ (x1 = 9 ∧ r = 0 ∧ h' = h) ∨ (x1 = 10 ∧ r = 0 ∧ h' = h) ∨ (x1 = 11 ∧ r = 0 ∧ h' = h) ∨ (x1 = 12 ∧ r = 0 ∧ h' = h) ∨ (x1 = 13 ∧ r = 0 ∧ h' = h) ∨ (x1 = 14 ∧ r = 0 ∧ h' = h) ∨ (x1 = 15 ∧ r = 0 ∧ h' = h) ∨ (x1 = 16 ∧ r = 0 ∧ h' = h) ∨ (x1 = 17 ∧ r = 0 ∧ h' = h) ∨ (x1 = 18 ∧ r = 0 ∧ h' = h) ∨ (¬ x1 = 0 ∧ ¬ x1 = 1 ∧ ¬ x1 = 2 ∧ ¬ x1 = 3 ∧ ¬ x1 = 4 ∧ ¬ x1 = 5 ∧ ¬ x1 = 6 ∧ ¬ x1 = 7 ∧ ¬ x1 = 8 ∧ ¬ x1 = 9 ∧ ¬ x1 = 10 ∧ ¬ x1 = 11 ∧ ¬ x1 = 12 ∧ ¬ x1 = 13 ∧ ¬ x1 = 14 ∧ ¬ x1 = 15 ∧ ¬ x1 = 16 ∧ ¬ x1 = 17 ∧ ¬ x1 = 18 ∧ r = (-1) ∧ h' = h)) := by
  refine Ct.of (fun _ _ _ => trivial) rfl (Nat.le_of_ble_eq_true rfl) ?_
  show AW (m_X12_count (d + 0) 0 0) 0 0 0 [(0, .ref 1), (1, .int x1)] [] h (kI (fun r h' => (x1 = 0 ∧ r = 0 ∧ h' = h) ∨ (x1 = 1 ∧ r = 0 ∧ h' = h) ∨ (x1 = 2 ∧ r = 0 ∧ h' = h) ∨ (x1 = 3 ∧ r = 0 ∧ h' = h) ∨ (x1 = 4 ∧ r = 0 ∧ h' = h) ∨ (x1 = 5 ∧ r = 0 ∧ h' = h) ∨ (x1 = 6 ∧ r = 0 ∧ h' = h) ∨ (x1 = 7 ∧ r = 0 ∧ h' = h) ∨ (x1 = 8 ∧ r = 0 ∧ h' = h) ∨ (x1 = 9 ∧ r = 0 ∧ h' = h) ∨ (x1 = 10 ∧ r = 0 ∧ h' = h) ∨ (x1 = 11 ∧ r = 0 ∧ h' = h) ∨ (x1 = 12 ∧ r = 0 ∧ h' = h) ∨ (x1 = 13 ∧ r = 0 ∧ h' = h) ∨ (x1 = 14 ∧ r = 0 ∧ h' = h) ∨ (x1 = 15 ∧ r = 0 ∧ h' = h) ∨ (x1 = 16 ∧ r = 0 ∧ h' = h) ∨ (x1 = 17 ∧ r = 0 ∧ h' = h) ∨ (x1 = 18 ∧ r = 0 ∧ h' = h) ∨ (¬ x1 = 0 ∧ ¬ x1 = 1 ∧ ¬ x1 = 2 ∧ ¬ x1 = 3 ∧ ¬ x1 = 4 ∧ ¬ x1 = 5 ∧ ¬ x1 = 6 ∧ ¬ x1 = 7 ∧ ¬ x1 = 8 ∧ ¬ x1 = 9 ∧ ¬ x1 = 10 ∧ ¬ x1 = 11 ∧ ¬ x1 = 12 ∧ ¬ x1 = 13 ∧ ¬ x1 = 14 ∧ ¬ x1 = 15 ∧ ¬ x1 = 16 ∧ ¬ x1 = 17 ∧ ¬ x1 = 18 ∧ r = (-1) ∧ h' = h)))
  refine aw_iconst (v := 0) d_X12_count_0 ic_0 ?_
  refine aw_istore_n (i := 2) rfl [(0, .ref 1), (1, .int x1), (2, .int 0)] d_X12_count_1 (Nat.le_of_ble_eq_true rfl) rfl rfl ?_
  refine aw_iconst (v := 0) d_X12_count_2 ic_0 ?_
  refine aw_istore_n (i := 3) rfl [(0, .ref 1), (1, .int x1), (2, .int 0), (3, .int 0)] d_X12_count_3 (Nat.le_of_ble_eq_true rfl) rfl rfl ?_
  refine aw_iconst (v := 0) d_X12_count_4 ic_0 ?_
  refine aw_istore [(0, .ref 1), (1, .int x1), (2, .int 0), (3, .int 0), (4, .int 0)] d_X12_count_5 (Nat.le_of_ble_eq_true rfl) rfl rfl ?_
  refine aw_iload d_X12_count_7 4 rfl ?_
  refine aw_aload_n (i := 0) rfl d_X12_count_9 0 rfl ?_
  refine aw_geti (k0 := 79) kc_12 (ws_1 w) (Nat.le_of_ble_eq_true rfl) tw_1821 d_X12_count_10 rfl ?_
  refine aw_vi (v2 := 0) e_1_79 ?_
  refine aw_icmp_ge (tgt := 40) d_X12_count_13 rfl (fun _ => ?_) (fun c => absurd c (by decide))
  refine aw_iconst (v := 0) d_X12_count_40 ic_0 ?_
  refine aw_istore [(0, .ref 1), (1, .int x1), (2, .int 0), (3, .int 0), (4, .int 0)] d_X12_count_41 (Nat.le_of_ble_eq_true rfl) rfl rfl ?_
  refine aw_iload d_X12_count_43 4 rfl ?_
  refine aw_aload_n (i := 0) rfl d_X12_count_45 0 rfl ?_
  refine aw_geti (k0 := 127) kc_12 (ws_1 w) (Nat.le_of_ble_eq_true rfl) tw_1869 d_X12_count_46 rfl ?_
  refine aw_vi (v2 := 0) e_1_127 ?_
  refine aw_icmp_ge (tgt := 68) d_X12_count_49 rfl (fun _ => ?_) (fun c => absurd c (by decide))
  refine aw_iload_n (i := 1) rfl d_X12_count_68 1 rfl ?_
  by_cases e3 : x1 = 0
  · refine aw_tableIn (off := 91) (tgt := 160) d_X12_count_69 (by rw [e3]; decide) (by rw [e3]; decide) (by rw [e3]; decide) rfl ?_
    refine aw_aload_n (i := 0) rfl d_X12_count_160 0 rfl ?_
    refine aw_geti (k0 := 0) kc_12 (ws_1 w) (Nat.le_of_ble_eq_true rfl) tw_1742 d_X12_count_161 rfl ?_
    refine aw_vi (v2 := 0) e_1_0 ?_
    exact aw_iret rfl d_X12_count_164 ⟨Nat.le_refl _, Nat.le_refl _⟩ ⟨_, rfl, (Or.inl ⟨e3, rfl, rfl⟩)⟩
  by_cases e4 : x1 = 1
  · refine aw_tableIn (off := 96) (tgt := 165) d_X12_count_69 (by rw [e4]; decide) (by rw [e4]; decide) (by rw [e4]; decide) rfl ?_
    refine aw_aload_n (i := 0) rfl d_X12_count_165 0 rfl ?_
    refine aw_geti (k0 := 6) kc_12 (ws_1 w) (Nat.le_of_ble_eq_true rfl) tw_1748 d_X12_count_166 rfl ?_
    refine aw_vi (v2 := 0) e_1_6 ?_
    exact aw_iret rfl d_X12_count_169 ⟨Nat.le_refl _, Nat.le_refl _⟩ ⟨_, rfl, (Or.inr (Or.inl ⟨e4, rfl, rfl⟩))⟩
  by_cases e5 : x1 = 2
  · refine aw_tableIn (off := 101) (tgt := 170) d_X12_count_69 (by rw [e5]; decide) (by rw [e5]; decide) (by rw [e5]; decide) rfl ?_
    refine aw_aload_n (i := 0) rfl d_X12_count_170 0 rfl ?_
    refine aw_geti (k0 := 7) kc_12 (ws_1 w) (Nat.le_of_ble_eq_true rfl) tw_1749 d_X12_count_171 rfl ?_
    refine aw_vi (v2 := 0) e_1_7 ?_
    exact aw_iret rfl d_X12_count_174 ⟨Nat.le_refl _, Nat.le_refl _⟩ ⟨_, rfl, (Or.inr (Or.inr (Or.inl ⟨e5, rfl, rfl⟩)))⟩
  by_cases e6 : x1 = 3
  · refine aw_tableIn (off := 106) (tgt := 175) d_X12_count_69 (by rw [e6]; decide) (by rw [e6]; decide) (by rw [e6]; decide) rfl ?_
    refine aw_aload_n (i := 0) rfl d_X12_count_175 0 rfl ?_
    refine aw_geti (k0 := 42) kc_12 (ws_1 w) (Nat.le_of_ble_eq_true rfl) tw_1784 d_X12_count_176 rfl ?_
    refine aw_vi (v2 := 0) e_1_42 ?_
    exact aw_iret rfl d_X12_count_179 ⟨Nat.le_refl _, Nat.le_refl _⟩ ⟨_, rfl, (Or.inr (Or.inr (Or.inr (Or.inl ⟨e6, rfl, rfl⟩))))⟩
  by_cases e7 : x1 = 4
  · refine aw_tableIn (off := 111) (tgt := 180) d_X12_count_69 (by rw [e7]; decide) (by rw [e7]; decide) (by rw [e7]; decide) rfl ?_
    refine aw_aload_n (i := 0) rfl d_X12_count_180 0 rfl ?_
    refine aw_geti (k0 := 63) kc_12 (ws_1 w) (Nat.le_of_ble_eq_true rfl) tw_1805 d_X12_count_181 rfl ?_
    refine aw_vi (v2 := 0) e_1_63 ?_
    exact aw_iret rfl d_X12_count_184 ⟨Nat.le_refl _, Nat.le_refl _⟩ ⟨_, rfl, (Or.inr (Or.inr (Or.inr (Or.inr (Or.inl ⟨e7, rfl, rfl⟩)))))⟩
  by_cases e8 : x1 = 5
  · refine aw_tableIn (off := 116) (tgt := 185) d_X12_count_69 (by rw [e8]; decide) (by rw [e8]; decide) (by rw [e8]; decide) rfl ?_
    refine aw_aload_n (i := 0) rfl d_X12_count_185 0 rfl ?_
    refine aw_geti (k0 := 79) kc_12 (ws_1 w) (Nat.le_of_ble_eq_true rfl) tw_1821 d_X12_count_186 rfl ?_
    refine aw_vi (v2 := 0) e_1_79 ?_
    exact aw_iret rfl d_X12_count_189 ⟨Nat.le_refl _, Nat.le_refl _⟩ ⟨_, rfl, (Or.inr (Or.inr (Or.inr (Or.inr (Or.inr (Or.inl ⟨e8, rfl, rfl⟩))))))⟩
  by_cases e9 : x1 = 6
  · refine aw_tableIn (off := 121) (tgt := 190) d_X12_count_69 (by rw [e9]; decide) (by rw [e9]; decide) (by rw [e9]; decide) rfl ?_
    refine aw_iload_n (i := 2) rfl d_X12_count_190 2 rfl ?_
    exact aw_iret rfl d_X12_count_191 ⟨Nat.le_refl _, Nat.le_refl _⟩ ⟨_, rfl, (Or.inr (Or.inr (Or.inr (Or.inr (Or.inr (Or.inr (Or.inl ⟨e9, rfl, rfl⟩)))))))⟩
  by_cases e10 : x1 = 7
  · refine aw_tableIn (off := 123) (tgt := 192) d_X12_count_69 (by rw [e10]; decide) (by rw [e10]; decide) (by rw [e10]; decide) rfl ?_
    refine aw_aload_n (i := 0) rfl d_X12_count_192 0 rfl ?_
    refine aw_getr (k0 := 49) kc_12 (ws_1 w) (Nat.le_of_ble_eq_true rfl) tw_1791 d_X12_count_193 rfl (wr_1_49 w) ?_
    refine aw_iconst (v := 0) d_X12_count_196 ic_0 ?_
    refine aw_iald (ws_235 w) (vin_c (by decide)) d_X12_count_197 ?_
    refine aw_vi (v2 := 0) e_235_0 ?_
    exact aw_iret rfl d_X12_count_198 ⟨Nat.le_refl _, Nat.le_refl _⟩ ⟨_, rfl, (Or.inr (Or.inr (Or.inr (Or.inr (Or.inr (Or.inr (Or.inr (Or.inl ⟨e10, rfl, rfl⟩))))))))⟩
  by_cases e11 : x1 = 8
  · refine aw_tableIn (off := 130) (tgt := 199) d_X12_count_69 (by rw [e11]; decide) (by rw [e11]; decide) (by rw [e11]; decide) rfl ?_
    refine aw_aload_n (i := 0) rfl d_X12_count_199 0 rfl ?_
    refine aw_geti (k0 := 80) kc_12 (ws_1 w) (Nat.le_of_ble_eq_true rfl) tw_1822 d_X12_count_200 rfl ?_
    refine aw_vi (v2 := 0) e_1_80 ?_
    exact aw_iret rfl d_X12_count_203 ⟨Nat.le_refl _, Nat.le_refl _⟩ ⟨_, rfl, (Or.inr (Or.inr (Or.inr (Or.inr (Or.inr (Or.inr (Or.inr (Or.inr (Or.inl ⟨e11, rfl, rfl⟩)))))))))⟩
  by_cases e12 : x1 = 9
  · refine aw_tableIn (off := 135) (tgt := 204) d_X12_count_69 (by rw [e12]; decide) (by rw [e12]; decide) (by rw [e12]; decide) rfl ?_
    refine aw_aload_n (i := 0) rfl d_X12_count_204 0 rfl ?_
    refine aw_geti (k0 := 96) kc_12 (ws_1 w) (Nat.le_of_ble_eq_true rfl) tw_1838 d_X12_count_205 rfl ?_
    refine aw_vi (v2 := 0) e_1_96 ?_
    exact aw_iret rfl d_X12_count_208 ⟨Nat.le_refl _, Nat.le_refl _⟩ ⟨_, rfl, (Or.inr (Or.inr (Or.inr (Or.inr (Or.inr (Or.inr (Or.inr (Or.inr (Or.inr (Or.inl ⟨e12, rfl, rfl⟩))))))))))⟩
  by_cases e13 : x1 = 10
  · refine aw_tableIn (off := 140) (tgt := 209) d_X12_count_69 (by rw [e13]; decide) (by rw [e13]; decide) (by rw [e13]; decide) rfl ?_
    refine aw_aload_n (i := 0) rfl d_X12_count_209 0 rfl ?_
    refine aw_geti (k0 := 97) kc_12 (ws_1 w) (Nat.le_of_ble_eq_true rfl) tw_1839 d_X12_count_210 rfl ?_
    refine aw_vi (v2 := 0) e_1_97 ?_
    exact aw_iret rfl d_X12_count_213 ⟨Nat.le_refl _, Nat.le_refl _⟩ ⟨_, rfl, (Or.inr (Or.inr (Or.inr (Or.inr (Or.inr (Or.inr (Or.inr (Or.inr (Or.inr (Or.inr (Or.inl ⟨e13, rfl, rfl⟩)))))))))))⟩
  by_cases e14 : x1 = 11
  · refine aw_tableIn (off := 145) (tgt := 214) d_X12_count_69 (by rw [e14]; decide) (by rw [e14]; decide) (by rw [e14]; decide) rfl ?_
    refine aw_aload_n (i := 0) rfl d_X12_count_214 0 rfl ?_
    refine aw_geti (k0 := 101) kc_12 (ws_1 w) (Nat.le_of_ble_eq_true rfl) tw_1843 d_X12_count_215 rfl ?_
    refine aw_vi (v2 := 0) e_1_101 ?_
    exact aw_iret rfl d_X12_count_218 ⟨Nat.le_refl _, Nat.le_refl _⟩ ⟨_, rfl, (Or.inr (Or.inr (Or.inr (Or.inr (Or.inr (Or.inr (Or.inr (Or.inr (Or.inr (Or.inr (Or.inr (Or.inl ⟨e14, rfl, rfl⟩))))))))))))⟩
  by_cases e15 : x1 = 12
  · refine aw_tableIn (off := 150) (tgt := 219) d_X12_count_69 (by rw [e15]; decide) (by rw [e15]; decide) (by rw [e15]; decide) rfl ?_
    refine aw_aload_n (i := 0) rfl d_X12_count_219 0 rfl ?_
    refine aw_geti (k0 := 102) kc_12 (ws_1 w) (Nat.le_of_ble_eq_true rfl) tw_1844 d_X12_count_220 rfl ?_
    refine aw_vi (v2 := 0) e_1_102 ?_
    exact aw_iret rfl d_X12_count_223 ⟨Nat.le_refl _, Nat.le_refl _⟩ ⟨_, rfl, (Or.inr (Or.inr (Or.inr (Or.inr (Or.inr (Or.inr (Or.inr (Or.inr (Or.inr (Or.inr (Or.inr (Or.inr (Or.inl ⟨e15, rfl, rfl⟩)))))))))))))⟩
  by_cases e16 : x1 = 13
  · refine aw_tableIn (off := 155) (tgt := 224) d_X12_count_69 (by rw [e16]; decide) (by rw [e16]; decide) (by rw [e16]; decide) rfl ?_
    refine aw_aload_n (i := 0) rfl d_X12_count_224 0 rfl ?_
    refine aw_geti (k0 := 108) kc_12 (ws_1 w) (Nat.le_of_ble_eq_true rfl) tw_1850 d_X12_count_225 rfl ?_
    refine aw_vi (v2 := 0) e_1_108 ?_
    exact aw_iret rfl d_X12_count_228 ⟨Nat.le_refl _, Nat.le_refl _⟩ ⟨_, rfl, (Or.inr (Or.inr (Or.inr (Or.inr (Or.inr (Or.inr (Or.inr (Or.inr (Or.inr (Or.inr (Or.inr (Or.inr (Or.inr (Or.inl ⟨e16, rfl, rfl⟩))))))))))))))⟩
  by_cases e17 : x1 = 14
  · refine aw_tableIn (off := 160) (tgt := 229) d_X12_count_69 (by rw [e17]; decide) (by rw [e17]; decide) (by rw [e17]; decide) rfl ?_
    refine aw_aload_n (i := 0) rfl d_X12_count_229 0 rfl ?_
    refine aw_geti (k0 := 119) kc_12 (ws_1 w) (Nat.le_of_ble_eq_true rfl) tw_1861 d_X12_count_230 rfl ?_
    refine aw_vi (v2 := 0) e_1_119 ?_
    exact aw_iret rfl d_X12_count_233 ⟨Nat.le_refl _, Nat.le_refl _⟩ ⟨_, rfl, (Or.inr (Or.inr (Or.inr (Or.inr (Or.inr (Or.inr (Or.inr (Or.inr (Or.inr (Or.inr (Or.inr (Or.inr (Or.inr (Or.inr (Or.inl ⟨e17, rfl, rfl⟩)))))))))))))))⟩
  by_cases e18 : x1 = 15
  · refine aw_tableIn (off := 165) (tgt := 234) d_X12_count_69 (by rw [e18]; decide) (by rw [e18]; decide) (by rw [e18]; decide) rfl ?_
    refine aw_aload_n (i := 0) rfl d_X12_count_234 0 rfl ?_
    refine aw_getr (k0 := 49) kc_12 (ws_1 w) (Nat.le_of_ble_eq_true rfl) tw_1791 d_X12_count_235 rfl (wr_1_49 w) ?_
    refine aw_iconst (v := 1) d_X12_count_238 ic_1 ?_
    refine aw_iald (ws_235 w) (vin_c (by decide)) d_X12_count_239 ?_
    refine aw_vi (v2 := 0) e_235_1 ?_
    exact aw_iret rfl d_X12_count_240 ⟨Nat.le_refl _, Nat.le_refl _⟩ ⟨_, rfl, (Or.inr (Or.inr (Or.inr (Or.inr (Or.inr (Or.inr (Or.inr (Or.inr (Or.inr (Or.inr (Or.inr (Or.inr (Or.inr (Or.inr (Or.inr (Or.inl ⟨e18, rfl, rfl⟩))))))))))))))))⟩
  by_cases e19 : x1 = 16
  · refine aw_tableIn (off := 172) (tgt := 241) d_X12_count_69 (by rw [e19]; decide) (by rw [e19]; decide) (by rw [e19]; decide) rfl ?_
    refine aw_aload_n (i := 0) rfl d_X12_count_241 0 rfl ?_
    refine aw_geti (k0 := 127) kc_12 (ws_1 w) (Nat.le_of_ble_eq_true rfl) tw_1869 d_X12_count_242 rfl ?_
    refine aw_vi (v2 := 0) e_1_127 ?_
    exact aw_iret rfl d_X12_count_245 ⟨Nat.le_refl _, Nat.le_refl _⟩ ⟨_, rfl, (Or.inr (Or.inr (Or.inr (Or.inr (Or.inr (Or.inr (Or.inr (Or.inr (Or.inr (Or.inr (Or.inr (Or.inr (Or.inr (Or.inr (Or.inr (Or.inr (Or.inl ⟨e19, rfl, rfl⟩)))))))))))))))))⟩
  by_cases e20 : x1 = 17
  · refine aw_tableIn (off := 177) (tgt := 246) d_X12_count_69 (by rw [e20]; decide) (by rw [e20]; decide) (by rw [e20]; decide) rfl ?_
    refine aw_iload_n (i := 3) rfl d_X12_count_246 3 rfl ?_
    exact aw_iret rfl d_X12_count_247 ⟨Nat.le_refl _, Nat.le_refl _⟩ ⟨_, rfl, (Or.inr (Or.inr (Or.inr (Or.inr (Or.inr (Or.inr (Or.inr (Or.inr (Or.inr (Or.inr (Or.inr (Or.inr (Or.inr (Or.inr (Or.inr (Or.inr (Or.inr (Or.inl ⟨e20, rfl, rfl⟩))))))))))))))))))⟩
  by_cases e21 : x1 = 18
  · refine aw_tableIn (off := 179) (tgt := 248) d_X12_count_69 (by rw [e21]; decide) (by rw [e21]; decide) (by rw [e21]; decide) rfl ?_
    refine aw_aload_n (i := 0) rfl d_X12_count_248 0 rfl ?_
    refine aw_geti (k0 := 32) kc_12 (ws_1 w) (Nat.le_of_ble_eq_true rfl) tw_1774 d_X12_count_249 rfl ?_
    refine aw_vi (v2 := 0) e_1_32 ?_
    exact aw_iret rfl d_X12_count_252 ⟨Nat.le_refl _, Nat.le_refl _⟩ ⟨_, rfl, (Or.inr (Or.inr (Or.inr (Or.inr (Or.inr (Or.inr (Or.inr (Or.inr (Or.inr (Or.inr (Or.inr (Or.inr (Or.inr (Or.inr (Or.inr (Or.inr (Or.inr (Or.inr (Or.inl ⟨e21, rfl, rfl⟩)))))))))))))))))))⟩
  have n22 := sw_ne (0) (by decide) e3
  have n23 := sw_ne (1) (by decide) e4
  have n24 := sw_ne (2) (by decide) e5
  have n25 := sw_ne (3) (by decide) e6
  have n26 := sw_ne (4) (by decide) e7
  have n27 := sw_ne (5) (by decide) e8
  have n28 := sw_ne (6) (by decide) e9
  have n29 := sw_ne (7) (by decide) e10
  have n30 := sw_ne (8) (by decide) e11
  have n31 := sw_ne (9) (by decide) e12
  have n32 := sw_ne (10) (by decide) e13
  have n33 := sw_ne (11) (by decide) e14
  have n34 := sw_ne (12) (by decide) e15
  have n35 := sw_ne (13) (by decide) e16
  have n36 := sw_ne (14) (by decide) e17
  have n37 := sw_ne (15) (by decide) e18
  have n38 := sw_ne (16) (by decide) e19
  have n39 := sw_ne (17) (by decide) e20
  have n40 := sw_ne (18) (by decide) e21
  refine aw_tableOut (tgt := 253) d_X12_count_69 (by omega) rfl ?_
  refine aw_iconst (v := (-1)) d_X12_count_253 ic_m1 ?_
  exact aw_iret rfl d_X12_count_254 ⟨Nat.le_refl _, Nat.le_refl _⟩ ⟨_, rfl, (Or.inr (Or.inr (Or.inr (Or.inr (Or.inr (Or.inr (Or.inr (Or.inr (Or.inr (Or.inr (Or.inr (Or.inr (Or.inr (Or.inr (Or.inr (Or.inr (Or.inr (Or.inr (Or.inr ⟨e3, e4, e5, e6, e7, e8, e9, e10, e11, e12, e13, e14, e15, e16, e17, e18, e19, e20, e21, rfl, rfl⟩)))))))))))))))))))⟩
theorem f_X12_fault_c0 (d : Nat) (h : Hp_) (w : Wf h) (e_1_32 : h_i h 1 32 = 0)   : Ci (m_X12_fault (d + 3) 0 0) [.ref 1, .int 0] h (fun r h' => (r = 0 ∧ h' = h_im (h_im (h_im (h_im (h_im (h_im h 1 37 0) 1 33 0) 1 34 (-1)) 1 35 0) 1 36 0) 1 34 0)) := by
  refine Ct.of (fun _ _ _ => trivial) rfl (Nat.le_of_ble_eq_true rfl) ?_
  show AW (m_X12_fault (d + 3) 0 0) 0 0 0 [(0, .ref 1), (1, .int 0)] [] h (kI (fun r h' => (r = 0 ∧ h' = h_im (h_im (h_im (h_im (h_im (h_im h 1 37 0) 1 33 0) 1 34 (-1)) 1 35 0) 1 36 0) 1 34 0)))
  refine aw_iload_n (i := 1) rfl d_X12_fault_0 1 rfl ?_
  refine aw_iconst (v := 0) d_X12_fault_1 ic_0 ?_
  refine aw_iconst (v := 2) d_X12_fault_2 ic_2 ?_
  refine aw_Si [.int 0, .int 0, .int 2] [] d_X12_fault_3 (cS_X12_in (d + 0) 0 0) tw_2147 rfl (rr0 (Nat.le_of_ble_eq_true rfl) (Nat.le_of_ble_eq_true rfl)) (Nat.le_of_ble_eq_true rfl) xs0 (s_X12_in _ _ 0 0 2) (fun _ _ kk => ?_)
  obtain ⟨e1, e2⟩ := kk
  rw [e1, e2]
  refine aw_vi (v2 := 1) (by decide) ?_
  refine aw_if_ne (tgt := 12) d_X12_fault_6 rfl (fun _ => ?_) (fun c => absurd c (by decide))
  refine aw_aload_n (i := 0) rfl d_X12_fault_12 0 rfl ?_
  refine aw_iload_n (i := 1) rfl d_X12_fault_13 1 rfl ?_
  refine aw_puti (k0 := 37) kc_12 (ws_1 w) (Nat.le_of_ble_eq_true rfl) tw_1779 d_X12_fault_14 rfl rfl nf_i ?_
  refine aw_aload_n (i := 0) rfl d_X12_fault_17 0 rfl ?_
  refine aw_iconst (v := 0) d_X12_fault_18 ic_0 ?_
  refine aw_puti (k0 := 33) kc_12 (ws_1 w) (Nat.le_of_ble_eq_true rfl) tw_1775 d_X12_fault_19 rfl rfl nf_i ?_
  refine aw_aload_n (i := 0) rfl d_X12_fault_22 0 rfl ?_
  refine aw_iconst (v := (-1)) d_X12_fault_23 ic_m1 ?_
  refine aw_puti (k0 := 34) kc_12 (ws_1 w) (Nat.le_of_ble_eq_true rfl) tw_1776 d_X12_fault_24 rfl rfl nf_i ?_
  refine aw_aload_n (i := 0) rfl d_X12_fault_27 0 rfl ?_
  refine aw_iconst (v := 0) d_X12_fault_28 ic_0 ?_
  refine aw_puti (k0 := 35) kc_12 (ws_1 w) (Nat.le_of_ble_eq_true rfl) tw_1777 d_X12_fault_29 rfl rfl nf_i ?_
  refine aw_aload_n (i := 0) rfl d_X12_fault_32 0 rfl ?_
  refine aw_iconst (v := 0) d_X12_fault_33 ic_0 ?_
  refine aw_puti (k0 := 36) kc_12 (ws_1 w) (Nat.le_of_ble_eq_true rfl) tw_1778 d_X12_fault_34 rfl rfl nf_i ?_
  refine aw_iload_n (i := 1) rfl d_X12_fault_37 1 rfl ?_
  refine aw_if_ne (tgt := 48) d_X12_fault_38 rfl (fun c => absurd c (by decide)) (fun _ => ?_)
  refine aw_aload_n (i := 0) rfl d_X12_fault_41 0 rfl ?_
  refine aw_Vv 1 [] [] d_X12_fault_42 (cV_X12_stepsRead (d + 2) 0 0) kc_12 (ws_1 w) tw_2202 rfl (rr0 (Nat.le_of_ble_eq_true rfl) (Nat.le_of_ble_eq_true rfl)) (Nat.le_of_ble_eq_true rfl) xs0 (f_X12_stepsRead_115 d (h_im (h_im (h_im (h_im (h_im h 1 37 0) 1 33 0) 1 34 (-1)) 1 35 0) 1 36 0) w e_1_32 rfl rfl ) (fun h6 kk => ?_)
  have ez9 := kk
  obtain rfl := ez9.symm
  refine aw_goto (tgt := 86) d_X12_fault_45 rfl ?_
  refine aw_aload_n (i := 0) rfl d_X12_fault_86 0 rfl ?_
  refine aw_geti (k0 := 34) kc_12 (ws_1 w) (Nat.le_of_ble_eq_true rfl) tw_1776 d_X12_fault_87 rfl ?_
  refine aw_vi (v2 := 0) rfl ?_
  refine aw_iconst (v := (-1)) d_X12_fault_90 ic_m1 ?_
  refine aw_icmp_ne (tgt := 106) d_X12_fault_91 rfl (fun _ => ?_) (fun c => absurd c (by decide))
  refine aw_aload_n (i := 0) rfl d_X12_fault_106 0 rfl ?_
  refine aw_geti (k0 := 34) kc_12 (ws_1 w) (Nat.le_of_ble_eq_true rfl) tw_1776 d_X12_fault_107 rfl ?_
  refine aw_vi (v2 := 0) rfl ?_
  exact aw_iret rfl d_X12_fault_110 ⟨Nat.le_refl _, Nat.le_refl _⟩ ⟨_, rfl, ⟨rfl, rfl⟩⟩
theorem f_X12_fault_c1 (d : Nat) (h : Hp_) (w : Wf h) (e_1_32 : h_i h 1 32 = 0)   : Ci (m_X12_fault (d + 9) 0 0) [.ref 1, .int 1] h (fun r h' => (r = 0 ∧ h' = h_im (h_im (h_im (h_im (h_im (h_im (h_im (h_im (h_im (h_im (h_im (h_im (h_im (h_im h 1 37 1) 1 33 0) 1 34 (-1)) 1 35 0) 1 36 0) 1 34 0) 226 (0 : Int32).toNatClampNeg 0) 1 36 1) 226 (1 : Int32).toNatClampNeg (-1)) 1 36 2) 1 34 0) 1 33 1) 226 (2 : Int32).toNatClampNeg 2) 1 36 3)) := by
  refine Ct.of (fun _ _ _ => trivial) rfl (Nat.le_of_ble_eq_true rfl) ?_
  show AW (m_X12_fault (d + 9) 0 0) 0 0 0 [(0, .ref 1), (1, .int 1)] [] h (kI (fun r h' => (r = 0 ∧ h' = h_im (h_im (h_im (h_im (h_im (h_im (h_im (h_im (h_im (h_im (h_im (h_im (h_im (h_im h 1 37 1) 1 33 0) 1 34 (-1)) 1 35 0) 1 36 0) 1 34 0) 226 (0 : Int32).toNatClampNeg 0) 1 36 1) 226 (1 : Int32).toNatClampNeg (-1)) 1 36 2) 1 34 0) 1 33 1) 226 (2 : Int32).toNatClampNeg 2) 1 36 3)))
  refine aw_iload_n (i := 1) rfl d_X12_fault_0 1 rfl ?_
  refine aw_iconst (v := 0) d_X12_fault_1 ic_0 ?_
  refine aw_iconst (v := 2) d_X12_fault_2 ic_2 ?_
  refine aw_Si [.int 1, .int 0, .int 2] [] d_X12_fault_3 (cS_X12_in (d + 0) 0 0) tw_2147 rfl (rr0 (Nat.le_of_ble_eq_true rfl) (Nat.le_of_ble_eq_true rfl)) (Nat.le_of_ble_eq_true rfl) xs0 (s_X12_in _ _ 1 0 2) (fun _ _ kk => ?_)
  obtain ⟨e1, e2⟩ := kk
  rw [e1, e2]
  refine aw_vi (v2 := 1) (by decide) ?_
  refine aw_if_ne (tgt := 12) d_X12_fault_6 rfl (fun _ => ?_) (fun c => absurd c (by decide))
  refine aw_aload_n (i := 0) rfl d_X12_fault_12 0 rfl ?_
  refine aw_iload_n (i := 1) rfl d_X12_fault_13 1 rfl ?_
  refine aw_puti (k0 := 37) kc_12 (ws_1 w) (Nat.le_of_ble_eq_true rfl) tw_1779 d_X12_fault_14 rfl rfl nf_i ?_
  refine aw_aload_n (i := 0) rfl d_X12_fault_17 0 rfl ?_
  refine aw_iconst (v := 0) d_X12_fault_18 ic_0 ?_
  refine aw_puti (k0 := 33) kc_12 (ws_1 w) (Nat.le_of_ble_eq_true rfl) tw_1775 d_X12_fault_19 rfl rfl nf_i ?_
  refine aw_aload_n (i := 0) rfl d_X12_fault_22 0 rfl ?_
  refine aw_iconst (v := (-1)) d_X12_fault_23 ic_m1 ?_
  refine aw_puti (k0 := 34) kc_12 (ws_1 w) (Nat.le_of_ble_eq_true rfl) tw_1776 d_X12_fault_24 rfl rfl nf_i ?_
  refine aw_aload_n (i := 0) rfl d_X12_fault_27 0 rfl ?_
  refine aw_iconst (v := 0) d_X12_fault_28 ic_0 ?_
  refine aw_puti (k0 := 35) kc_12 (ws_1 w) (Nat.le_of_ble_eq_true rfl) tw_1777 d_X12_fault_29 rfl rfl nf_i ?_
  refine aw_aload_n (i := 0) rfl d_X12_fault_32 0 rfl ?_
  refine aw_iconst (v := 0) d_X12_fault_33 ic_0 ?_
  refine aw_puti (k0 := 36) kc_12 (ws_1 w) (Nat.le_of_ble_eq_true rfl) tw_1778 d_X12_fault_34 rfl rfl nf_i ?_
  refine aw_iload_n (i := 1) rfl d_X12_fault_37 1 rfl ?_
  refine aw_if_ne (tgt := 48) d_X12_fault_38 rfl (fun _ => ?_) (fun c => absurd c (by decide))
  refine aw_aload_n (i := 0) rfl d_X12_fault_48 0 rfl ?_
  refine aw_Vv 1 [] [] d_X12_fault_49 (cV_X12_clause (d + 8) 0 0) kc_12 (ws_1 w) tw_2233 rfl (rr0 (Nat.le_of_ble_eq_true rfl) (Nat.le_of_ble_eq_true rfl)) (Nat.le_of_ble_eq_true rfl) xs0 (f_X12_clause_146 d (h_im (h_im (h_im (h_im (h_im h 1 37 1) 1 33 0) 1 34 (-1)) 1 35 0) 1 36 0) w e_1_32 rfl rfl rfl rfl ) (fun h6 kk => ?_)
  have ez9 := kk
  obtain rfl := ez9.symm
  refine aw_aload_n (i := 0) rfl d_X12_fault_52 0 rfl ?_
  refine aw_geti (k0 := 34) kc_12 (ws_1 w) (Nat.le_of_ble_eq_true rfl) tw_1776 d_X12_fault_53 rfl ?_
  refine aw_vi (v2 := 0) rfl ?_
  refine aw_iconst (v := (-1)) d_X12_fault_56 ic_m1 ?_
  refine aw_icmp_ne (tgt := 86) d_X12_fault_57 rfl (fun _ => ?_) (fun c => absurd c (by decide))
  refine aw_aload_n (i := 0) rfl d_X12_fault_86 0 rfl ?_
  refine aw_geti (k0 := 34) kc_12 (ws_1 w) (Nat.le_of_ble_eq_true rfl) tw_1776 d_X12_fault_87 rfl ?_
  refine aw_vi (v2 := 0) rfl ?_
  refine aw_iconst (v := (-1)) d_X12_fault_90 ic_m1 ?_
  refine aw_icmp_ne (tgt := 106) d_X12_fault_91 rfl (fun _ => ?_) (fun c => absurd c (by decide))
  refine aw_aload_n (i := 0) rfl d_X12_fault_106 0 rfl ?_
  refine aw_geti (k0 := 34) kc_12 (ws_1 w) (Nat.le_of_ble_eq_true rfl) tw_1776 d_X12_fault_107 rfl ?_
  refine aw_vi (v2 := 0) rfl ?_
  exact aw_iret rfl d_X12_fault_110 ⟨Nat.le_refl _, Nat.le_refl _⟩ ⟨_, rfl, ⟨rfl, rfl⟩⟩
theorem f_X12_fault_c2 (d : Nat) (h : Hp_) (w : Wf h) (e_1_32 : h_i h 1 32 = 0)   : Ci (m_X12_fault (d + 6) 0 0) [.ref 1, .int 2] h (fun r h' => (r = 0 ∧ h' = h_im (h_im (h_im (h_im (h_im (h_im (h_im (h_im (h_im (h_im h 1 37 2) 1 33 0) 1 34 (-1)) 1 35 0) 1 36 0) 1 34 0) 226 (0 : Int32).toNatClampNeg 0) 1 36 1) 226 (1 : Int32).toNatClampNeg (-1)) 1 36 2)) := by
  refine Ct.of (fun _ _ _ => trivial) rfl (Nat.le_of_ble_eq_true rfl) ?_
  show AW (m_X12_fault (d + 6) 0 0) 0 0 0 [(0, .ref 1), (1, .int 2)] [] h (kI (fun r h' => (r = 0 ∧ h' = h_im (h_im (h_im (h_im (h_im (h_im (h_im (h_im (h_im (h_im h 1 37 2) 1 33 0) 1 34 (-1)) 1 35 0) 1 36 0) 1 34 0) 226 (0 : Int32).toNatClampNeg 0) 1 36 1) 226 (1 : Int32).toNatClampNeg (-1)) 1 36 2)))
  refine aw_iload_n (i := 1) rfl d_X12_fault_0 1 rfl ?_
  refine aw_iconst (v := 0) d_X12_fault_1 ic_0 ?_
  refine aw_iconst (v := 2) d_X12_fault_2 ic_2 ?_
  refine aw_Si [.int 2, .int 0, .int 2] [] d_X12_fault_3 (cS_X12_in (d + 0) 0 0) tw_2147 rfl (rr0 (Nat.le_of_ble_eq_true rfl) (Nat.le_of_ble_eq_true rfl)) (Nat.le_of_ble_eq_true rfl) xs0 (s_X12_in _ _ 2 0 2) (fun _ _ kk => ?_)
  obtain ⟨e1, e2⟩ := kk
  rw [e1, e2]
  refine aw_vi (v2 := 1) (by decide) ?_
  refine aw_if_ne (tgt := 12) d_X12_fault_6 rfl (fun _ => ?_) (fun c => absurd c (by decide))
  refine aw_aload_n (i := 0) rfl d_X12_fault_12 0 rfl ?_
  refine aw_iload_n (i := 1) rfl d_X12_fault_13 1 rfl ?_
  refine aw_puti (k0 := 37) kc_12 (ws_1 w) (Nat.le_of_ble_eq_true rfl) tw_1779 d_X12_fault_14 rfl rfl nf_i ?_
  refine aw_aload_n (i := 0) rfl d_X12_fault_17 0 rfl ?_
  refine aw_iconst (v := 0) d_X12_fault_18 ic_0 ?_
  refine aw_puti (k0 := 33) kc_12 (ws_1 w) (Nat.le_of_ble_eq_true rfl) tw_1775 d_X12_fault_19 rfl rfl nf_i ?_
  refine aw_aload_n (i := 0) rfl d_X12_fault_22 0 rfl ?_
  refine aw_iconst (v := (-1)) d_X12_fault_23 ic_m1 ?_
  refine aw_puti (k0 := 34) kc_12 (ws_1 w) (Nat.le_of_ble_eq_true rfl) tw_1776 d_X12_fault_24 rfl rfl nf_i ?_
  refine aw_aload_n (i := 0) rfl d_X12_fault_27 0 rfl ?_
  refine aw_iconst (v := 0) d_X12_fault_28 ic_0 ?_
  refine aw_puti (k0 := 35) kc_12 (ws_1 w) (Nat.le_of_ble_eq_true rfl) tw_1777 d_X12_fault_29 rfl rfl nf_i ?_
  refine aw_aload_n (i := 0) rfl d_X12_fault_32 0 rfl ?_
  refine aw_iconst (v := 0) d_X12_fault_33 ic_0 ?_
  refine aw_puti (k0 := 36) kc_12 (ws_1 w) (Nat.le_of_ble_eq_true rfl) tw_1778 d_X12_fault_34 rfl rfl nf_i ?_
  refine aw_iload_n (i := 1) rfl d_X12_fault_37 1 rfl ?_
  refine aw_if_ne (tgt := 48) d_X12_fault_38 rfl (fun _ => ?_) (fun c => absurd c (by decide))
  refine aw_aload_n (i := 0) rfl d_X12_fault_48 0 rfl ?_
  refine aw_Vv 1 [] [] d_X12_fault_49 (cV_X12_clause (d + 5) 0 0) kc_12 (ws_1 w) tw_2233 rfl (rr0 (Nat.le_of_ble_eq_true rfl) (Nat.le_of_ble_eq_true rfl)) (Nat.le_of_ble_eq_true rfl) xs0 (f_X12_clause_185 d (h_im (h_im (h_im (h_im (h_im h 1 37 2) 1 33 0) 1 34 (-1)) 1 35 0) 1 36 0) w e_1_32 rfl rfl rfl rfl ) (fun h6 kk => ?_)
  have ez9 := kk
  obtain rfl := ez9.symm
  refine aw_aload_n (i := 0) rfl d_X12_fault_52 0 rfl ?_
  refine aw_geti (k0 := 34) kc_12 (ws_1 w) (Nat.le_of_ble_eq_true rfl) tw_1776 d_X12_fault_53 rfl ?_
  refine aw_vi (v2 := 0) rfl ?_
  refine aw_iconst (v := (-1)) d_X12_fault_56 ic_m1 ?_
  refine aw_icmp_ne (tgt := 86) d_X12_fault_57 rfl (fun _ => ?_) (fun c => absurd c (by decide))
  refine aw_aload_n (i := 0) rfl d_X12_fault_86 0 rfl ?_
  refine aw_geti (k0 := 34) kc_12 (ws_1 w) (Nat.le_of_ble_eq_true rfl) tw_1776 d_X12_fault_87 rfl ?_
  refine aw_vi (v2 := 0) rfl ?_
  refine aw_iconst (v := (-1)) d_X12_fault_90 ic_m1 ?_
  refine aw_icmp_ne (tgt := 106) d_X12_fault_91 rfl (fun _ => ?_) (fun c => absurd c (by decide))
  refine aw_aload_n (i := 0) rfl d_X12_fault_106 0 rfl ?_
  refine aw_geti (k0 := 34) kc_12 (ws_1 w) (Nat.le_of_ble_eq_true rfl) tw_1776 d_X12_fault_107 rfl ?_
  refine aw_vi (v2 := 0) rfl ?_
  exact aw_iret rfl d_X12_fault_110 ⟨Nat.le_refl _, Nat.le_refl _⟩ ⟨_, rfl, ⟨rfl, rfl⟩⟩
theorem f_X12_fault_n (d : Nat) (h : Hp_)   (x1 : Int32) (p0 : ¬ (0 ≤ x1 ∧ x1 ≤ 2)) : Ci (m_X12_fault (d + 1) 0 0) [.ref 1, .int x1] h (fun r h' => (r = (-2) ∧ h' = h)) := by
  refine Ct.of (fun _ _ _ => trivial) rfl (Nat.le_of_ble_eq_true rfl) ?_
  show AW (m_X12_fault (d + 1) 0 0) 0 0 0 [(0, .ref 1), (1, .int x1)] [] h (kI (fun r h' => (r = (-2) ∧ h' = h)))
  refine aw_iload_n (i := 1) rfl d_X12_fault_0 1 rfl ?_
  refine aw_iconst (v := 0) d_X12_fault_1 ic_0 ?_
  refine aw_iconst (v := 2) d_X12_fault_2 ic_2 ?_
  refine aw_Si [.int x1, .int 0, .int 2] [] d_X12_fault_3 (cS_X12_in (d + 0) 0 0) tw_2147 rfl (rr0 (Nat.le_of_ble_eq_true rfl) (Nat.le_of_ble_eq_true rfl)) (Nat.le_of_ble_eq_true rfl) xs0 (s_X12_in _ _ x1 0 2) (fun _ _ kk => ?_)
  obtain ⟨e1, e2⟩ := kk
  rw [e1, e2]
  have c3 : ¬ (0 ≤ x1 ∧ x1 ≤ 2) := (by intro c3; grind)
  refine aw_vi (v2 := 0) (bI_0.mpr c3) ?_
  refine aw_if_ne (tgt := 12) d_X12_fault_6 rfl (fun c => absurd c (by decide)) (fun _ => ?_)
  refine aw_bipush (v := (-2)) d_X12_fault_9 ib_m2 ?_
  exact aw_iret rfl d_X12_fault_11 ⟨Nat.le_refl _, Nat.le_refl _⟩ ⟨_, rfl, ⟨rfl, rfl⟩⟩
