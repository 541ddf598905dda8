theorem f_X11_manOf (d : Nat) (h : Hp_) (w : Wf h) (e_0_7 : h_i h 0 7 = 0)  (x1 : Int32) : Cr (m_X11_manOf (d + 1) 0 0) [.ref 0, .int x1] h (fun r h' => (r = none ∧ h' = h)) := by
  refine Ct.of (fun _ _ _ => trivial) rfl (Nat.le_of_ble_eq_true rfl) ?_
  show AW (m_X11_manOf (d + 1) 0 0) 0 0 0 [(0, .ref 0), (1, .int x1)] [] h (kR (fun r h' => (r = none ∧ h' = h)))
  refine aw_iload_n (i := 1) rfl d_X11_manOf_0 1 rfl ?_
  refine aw_iconst (v := 0) d_X11_manOf_1 ic_0 ?_
  refine aw_aload_n (i := 0) rfl d_X11_manOf_2 0 rfl ?_
  refine aw_geti (k0 := 7) kc_11 (ws_0 w) (Nat.le_of_ble_eq_true rfl) tw_494 d_X11_manOf_3 rfl ?_
  refine aw_vi (v2 := 0) e_0_7 ?_
  refine aw_iconst (v := 1) d_X11_manOf_6 ic_1 ?_
  refine aw_isub d_X11_manOf_7 ?_
  refine aw_vi (v2 := (-1)) (by decide) ?_
  refine aw_Si [.int x1, .int 0, .int (-1)] [] d_X11_manOf_8 (cS_X11_within (d + 0) 0 0) tw_543 rfl (rr0 (Nat.le_of_ble_eq_true rfl) (Nat.le_of_ble_eq_true rfl)) (Nat.le_of_ble_eq_true rfl) xs0 (s_X11_within _ _ x1 0 (-1)) (fun _ _ kk => ?_)
  obtain ⟨e1, e2⟩ := kk
  rw [e1, e2]
  have c3 : ¬ (0 ≤ x1 ∧ x1 ≤ (-1)) := (by intro c3; grind)
  refine aw_vi (v2 := 0) (bI_0.mpr c3) ?_
  refine aw_if_eq (tgt := 23) d_X11_manOf_11 rfl (fun _ => ?_) (fun c => absurd c (by decide))
  refine aw_null d_X11_manOf_23 ?_
  exact aw_aretN rfl (Or.inl ⟨_, rfl⟩) d_X11_manOf_24 ⟨Nat.le_refl _, Nat.le_refl _⟩ ⟨none, rfl, ⟨rfl, rfl⟩⟩
theorem f_X12_thrown1 (d : Nat) (h : Hp_) (w : Wf h) (e_1_1 : h_i h 1 1 = 1)   : Ci (m_X12_thrown (d + 0) 0 0) [.ref 1] h (fun r h' => (r = 1 ∧ h' = h)) := by
  refine Ct.of (fun _ _ _ => trivial) rfl (Nat.le_of_ble_eq_true rfl) ?_
  show AW (m_X12_thrown (d + 0) 0 0) 0 0 0 [(0, .ref 1)] [] h (kI (fun r h' => (r = 1 ∧ h' = h)))
  refine aw_aload_n (i := 0) rfl d_X12_thrown_0 0 rfl ?_
  refine aw_geti (k0 := 1) kc_12 (ws_1 w) (Nat.le_of_ble_eq_true rfl) tw_1743 d_X12_thrown_1 rfl ?_
  refine aw_vi (v2 := 1) e_1_1 ?_
  exact aw_iret rfl d_X12_thrown_4 ⟨Nat.le_refl _, Nat.le_refl _⟩ ⟨_, rfl, ⟨rfl, rfl⟩⟩
theorem f_X8_cut_3 (d : Nat) (h : Hp_) (w : Wf h) (e_11_1 : h_i h 11 1 = 0)  (x1 : Int32) : Ci (m_X8_cut (d + 1) 0 0) [.ref 11, .int x1] h (fun r h' => ((0 ≤ x1 ∧ x1 ≤ 0) ∧ r = 1 ∧ h' = h_im h 11 1 x1) ∨ (¬ (0 ≤ x1 ∧ x1 ≤ 0) ∧ r = 0 ∧ h' = h)) := by
  refine Ct.of (fun _ _ _ => trivial) rfl (Nat.le_of_ble_eq_true rfl) ?_
  show AW (m_X8_cut (d + 1) 0 0) 0 0 0 [(0, .ref 11), (1, .int x1)] [] h (kI (fun r h' => ((0 ≤ x1 ∧ x1 ≤ 0) ∧ r = 1 ∧ h' = h_im h 11 1 x1) ∨ (¬ (0 ≤ x1 ∧ x1 ≤ 0) ∧ r = 0 ∧ h' = h)))
  refine aw_iload_n (i := 1) rfl d_X8_cut_0 1 rfl ?_
  refine aw_iconst (v := 0) d_X8_cut_1 ic_0 ?_
  refine aw_aload_n (i := 0) rfl d_X8_cut_2 0 rfl ?_
  refine aw_geti (k0 := 1) kc_8 (ws_11 w) (Nat.le_of_ble_eq_true rfl) tw_60 d_X8_cut_3 rfl ?_
  refine aw_vi (v2 := 0) e_11_1 ?_
  refine aw_SNi [.int x1, .int 0, .int 0] [] d_X8_cut_6 (cS_X11_within (d + 0) 0 0) (List.mem_of_getElem? (i := 8) rfl) rfl (rr0 (Nat.le_of_ble_eq_true rfl) (Nat.le_of_ble_eq_true rfl)) (Nat.le_of_ble_eq_true rfl) xs0 (s_X11_within _ _ x1 0 0) (fun _ _ kk => ?_)
  obtain ⟨e1, e2⟩ := kk
  rw [e1, e2]
  refine aw_ifb_ne (tgt := 14) d_X8_cut_9 rfl (fun c3 => ?_) (fun c3 => ?_)
  · refine aw_aload_n (i := 0) rfl d_X8_cut_14 0 rfl ?_
    refine aw_iload_n (i := 1) rfl d_X8_cut_15 1 rfl ?_
    refine aw_puti (k0 := 1) kc_8 (ws_11 w) (Nat.le_of_ble_eq_true rfl) tw_60 d_X8_cut_16 rfl rfl nf_i ?_
    refine aw_iconst (v := 1) d_X8_cut_19 ic_1 ?_
    exact aw_zret rfl rfl d_X8_cut_20 ⟨Nat.le_refl _, Nat.le_refl _⟩ ⟨_, rfl, (Or.inl ⟨c3, rfl, rfl⟩)⟩
  · refine aw_iconst (v := 0) d_X8_cut_12 ic_0 ?_
    exact aw_zret rfl rfl d_X8_cut_13 ⟨Nat.le_refl _, Nat.le_refl _⟩ ⟨_, rfl, (Or.inr ⟨c3, rfl, rfl⟩)⟩
theorem f_X11_end (d : Nat) (h : Hp_) (w : Wf h) (e_11_1 : h_i h 11 1 = 0)  (x1 : Int32) : Ci (m_X11_end (d + 2) 0 0) [.ref 0, .int x1] h (fun r h' => ((0 ≤ x1 ∧ x1 ≤ 0) ∧ r = 1 ∧ h' = h_im h 11 1 x1) ∨ (¬ (0 ≤ x1 ∧ x1 ≤ 0) ∧ r = 0 ∧ h' = h)) := by
  refine Ct.of (fun _ _ _ => trivial) rfl (Nat.le_of_ble_eq_true rfl) ?_
  show AW (m_X11_end (d + 2) 0 0) 0 0 0 [(0, .ref 0), (1, .int x1)] [] h (kI (fun r h' => ((0 ≤ x1 ∧ x1 ≤ 0) ∧ r = 1 ∧ h' = h_im h 11 1 x1) ∨ (¬ (0 ≤ x1 ∧ x1 ≤ 0) ∧ r = 0 ∧ h' = h)))
  refine aw_aload_n (i := 0) rfl d_X11_end_0 0 rfl ?_
  refine aw_getr (k0 := 2) kc_11 (ws_0 w) (Nat.le_of_ble_eq_true rfl) tw_489 d_X11_end_1 rfl (wr_0_2 w) ?_
  refine aw_iload_n (i := 1) rfl d_X11_end_4 1 rfl ?_
  refine aw_Vi 11 [.int x1] [] d_X11_end_5 (cV_X8_cut (d + 1) 0 0) kc_8 (ws_11 w) tw_660 rfl (rr0 (Nat.le_of_ble_eq_true rfl) (Nat.le_of_ble_eq_true rfl)) (Nat.le_of_ble_eq_true rfl) xs0 (f_X8_cut_3 d h w e_11_1 x1) (fun r1 h2 kk => ?_)
  rcases kk with ⟨c3, ez8, ez9⟩ | ⟨c4, ez8, ez9⟩
  · obtain rfl := ez8.symm
    obtain rfl := ez9.symm
    exact aw_zret rfl rfl d_X11_end_8 ⟨Nat.le_refl _, Nat.le_refl _⟩ ⟨_, rfl, (Or.inl ⟨c3, rfl, rfl⟩)⟩
  · obtain rfl := ez8.symm
    obtain rfl := ez9.symm
    exact aw_zret rfl rfl d_X11_end_8 ⟨Nat.le_refl _, Nat.le_refl _⟩ ⟨_, rfl, (Or.inr ⟨c4, rfl, rfl⟩)⟩
theorem f_X8_restart_5 (d : Nat) (h : Hp_) (w : Wf h)    : Cv (m_X8_restart (d + 0) 0 0) [.ref 11, .ref 1000] h (fun h' => (h' = h_im (h_im (h_im (h_rm (h_im (h_im h 11 2 0) 11 3 (-1)) 11 4 (some 1000)) 11 6 0) 11 7 0) 11 9 0)) := by
  refine Ct.of (fun _ _ _ => trivial) rfl (Nat.le_of_ble_eq_true rfl) ?_
  show AW (m_X8_restart (d + 0) 0 0) 0 0 0 [(0, .ref 11), (1, .ref 1000)] [] h (kV (fun h' => (h' = h_im (h_im (h_im (h_rm (h_im (h_im h 11 2 0) 11 3 (-1)) 11 4 (some 1000)) 11 6 0) 11 7 0) 11 9 0)))
  refine aw_aload_n (i := 0) rfl d_X8_restart_0 0 rfl ?_
  refine aw_iconst (v := 0) d_X8_restart_1 ic_0 ?_
  refine aw_puti (k0 := 2) kc_8 (ws_11 w) (Nat.le_of_ble_eq_true rfl) tw_62 d_X8_restart_2 rfl rfl nf_i ?_
  refine aw_aload_n (i := 0) rfl d_X8_restart_5 0 rfl ?_
  refine aw_iconst (v := (-1)) d_X8_restart_6 ic_m1 ?_
  refine aw_puti (k0 := 3) kc_8 (ws_11 w) (Nat.le_of_ble_eq_true rfl) tw_63 d_X8_restart_7 rfl rfl nf_i ?_
  refine aw_aload_n (i := 0) rfl d_X8_restart_10 0 rfl ?_
  refine aw_aload_n (i := 1) rfl d_X8_restart_11 1 rfl ?_
  refine aw_putr (k0 := 4) kc_8 (ws_11 w) (Nat.le_of_ble_eq_true rfl) tw_64 d_X8_restart_12 rfl rfl ?_
  have w1 : Wf (h_rm (h_im (h_im h 11 2 0) 11 3 (-1)) 11 4 (some 1000)) := Wf_rm (h := (h_im (h_im h 11 2 0) 11 3 (-1))) w (by decide +kernel)
  refine aw_aload_n (i := 0) rfl d_X8_restart_15 0 rfl ?_
  refine aw_iconst (v := 0) d_X8_restart_16 ic_0 ?_
  refine aw_puti (k0 := 6) kc_8 (ws_11 w1) (Nat.le_of_ble_eq_true rfl) tw_68 d_X8_restart_17 rfl rfl nf_i ?_
  refine aw_aload_n (i := 0) rfl d_X8_restart_20 0 rfl ?_
  refine aw_iconst (v := 0) d_X8_restart_21 ic_0 ?_
  refine aw_puti (k0 := 7) kc_8 (ws_11 w1) (Nat.le_of_ble_eq_true rfl) tw_70 d_X8_restart_22 rfl rfl ⟨rfl, rfl⟩ ?_
  refine aw_aload_n (i := 0) rfl d_X8_restart_25 0 rfl ?_
  refine aw_iconst (v := 0) d_X8_restart_26 ic_0 ?_
  refine aw_puti (k0 := 9) kc_8 (ws_11 w1) (Nat.le_of_ble_eq_true rfl) tw_74 d_X8_restart_27 rfl rfl nf_i ?_
  exact aw_vret rfl d_X8_restart_30 ⟨Nat.le_refl _, Nat.le_refl _⟩ ⟨rfl, rfl⟩
theorem f_X8_peek_6 (d : Nat) (h : Hp_) (w : Wf h) (e_11_1 : h_i h 11 1 = 0) (e_11_2 : h_i h 11 2 = 0)   : Ci (m_X8_peek (d + 0) 0 0) [.ref 11] h (fun r h' => (r = (-1) ∧ h' = h)) := by
  refine Ct.of (fun _ _ _ => trivial) rfl (Nat.le_of_ble_eq_true rfl) ?_
  show AW (m_X8_peek (d + 0) 0 0) 0 0 0 [(0, .ref 11)] [] h (kI (fun r h' => (r = (-1) ∧ h' = h)))
  refine aw_aload_n (i := 0) rfl d_X8_peek_0 0 rfl ?_
  refine aw_geti (k0 := 2) kc_8 (ws_11 w) (Nat.le_of_ble_eq_true rfl) tw_62 d_X8_peek_1 rfl ?_
  refine aw_vi (v2 := 0) e_11_2 ?_
  refine aw_aload_n (i := 0) rfl d_X8_peek_4 0 rfl ?_
  refine aw_geti (k0 := 1) kc_8 (ws_11 w) (Nat.le_of_ble_eq_true rfl) tw_60 d_X8_peek_5 rfl ?_
  refine aw_vi (v2 := 0) e_11_1 ?_
  refine aw_icmp_ge (tgt := 38) d_X8_peek_8 rfl (fun _ => ?_) (fun c => absurd c (by decide))
  refine aw_aload_n (i := 0) rfl d_X8_peek_38 0 rfl ?_
  refine aw_geti (k0 := 2) kc_8 (ws_11 w) (Nat.le_of_ble_eq_true rfl) tw_62 d_X8_peek_39 rfl ?_
  refine aw_vi (v2 := 0) e_11_2 ?_
  refine aw_aload_n (i := 0) rfl d_X8_peek_42 0 rfl ?_
  refine aw_geti (k0 := 1) kc_8 (ws_11 w) (Nat.le_of_ble_eq_true rfl) tw_60 d_X8_peek_43 rfl ?_
  refine aw_vi (v2 := 0) e_11_1 ?_
  refine aw_icmp_ge (tgt := 61) d_X8_peek_46 rfl (fun _ => ?_) (fun c => absurd c (by decide))
  refine aw_iconst (v := (-1)) d_X8_peek_61 ic_m1 ?_
  exact aw_iret rfl d_X8_peek_62 ⟨Nat.le_refl _, Nat.le_refl _⟩ ⟨_, rfl, ⟨rfl, rfl⟩⟩
theorem f_X8_fail_7 (d : Nat) (h : Hp_) (w : Wf h) (e_11_2 : h_i h 11 2 = 0)   : Ci (m_X8_fail (d + 0) 0 0) [.ref 11] h (fun r h' => (r = 0 ∧ h' = h_im h 11 3 0)) := by
  refine Ct.of (fun _ _ _ => trivial) rfl (Nat.le_of_ble_eq_true rfl) ?_
  show AW (m_X8_fail (d + 0) 0 0) 0 0 0 [(0, .ref 11)] [] h (kI (fun r h' => (r = 0 ∧ h' = h_im h 11 3 0)))
  refine aw_aload_n (i := 0) rfl d_X8_fail_0 0 rfl ?_
  refine aw_aload_n (i := 0) rfl d_X8_fail_1 0 rfl ?_
  refine aw_geti (k0 := 2) kc_8 (ws_11 w) (Nat.le_of_ble_eq_true rfl) tw_62 d_X8_fail_2 rfl ?_
  refine aw_vi (v2 := 0) e_11_2 ?_
  refine aw_puti (k0 := 3) kc_8 (ws_11 w) (Nat.le_of_ble_eq_true rfl) tw_63 d_X8_fail_5 rfl rfl nf_i ?_
  refine aw_iconst (v := 0) d_X8_fail_8 ic_0 ?_
  exact aw_zret rfl rfl d_X8_fail_9 ⟨Nat.le_refl _, Nat.le_refl _⟩ ⟨_, rfl, ⟨rfl, rfl⟩⟩
theorem f_X8_readStep_8 (d : Nat) (h : Hp_) (w : Wf h) (e_11_1 : h_i h 11 1 = 0) (e_11_2 : h_i h 11 2 = 0)   : Ci (m_X8_readStep (d + 1) 0 0) [.ref 11, .int 0] h (fun r h' => (r = 0 ∧ h' = h_im h 11 3 0)) := by
  refine Ct.of (fun _ _ _ => trivial) rfl (Nat.le_of_ble_eq_true rfl) ?_
  show AW (m_X8_readStep (d + 1) 0 0) 0 0 0 [(0, .ref 11), (1, .int 0)] [] h (kI (fun r h' => (r = 0 ∧ h' = h_im h 11 3 0)))
  refine aw_aload_n (i := 0) rfl d_X8_readStep_0 0 rfl ?_
  refine aw_Vi 11 [] [] d_X8_readStep_1 (cV_X8_peek (d + 0) 0 0) kc_8 (ws_11 w) tw_685 rfl (rr0 (Nat.le_of_ble_eq_true rfl) (Nat.le_of_ble_eq_true rfl)) (Nat.le_of_ble_eq_true rfl) xs0 (f_X8_peek_6 d h w e_11_1 e_11_2 ) (fun r1 h2 kk => ?_)
  obtain ⟨ez8, ez9⟩ := kk
  obtain rfl := ez8.symm
  obtain rfl := ez9.symm
  refine aw_lookup (off := 140) (tgt := 144) d_X8_readStep_4 (by decide) (by decide) rfl ?_
  refine aw_aload_n (i := 0) rfl d_X8_readStep_144 0 rfl ?_
  refine aw_Vi 11 [] [] d_X8_readStep_145 (cV_X8_fail (d + 0) 0 0) kc_8 (ws_11 w) tw_715 rfl (rr0 (Nat.le_of_ble_eq_true rfl) (Nat.le_of_ble_eq_true rfl)) (Nat.le_of_ble_eq_true rfl) xs0 (f_X8_fail_7 d h w e_11_2 ) (fun r3 h4 kk => ?_)
  obtain ⟨ez8, ez9⟩ := kk
  obtain rfl := ez8.symm
  obtain rfl := ez9.symm
  exact aw_zret rfl rfl d_X8_readStep_148 ⟨Nat.le_refl _, Nat.le_refl _⟩ ⟨_, rfl, ⟨rfl, rfl⟩⟩
theorem f_X8_readSteps_9 (d : Nat) (h : Hp_) (w : Wf h) (e_11_1 : h_i h 11 1 = 0) (e_11_2 : h_i h 11 2 = 0)   : Ci (m_X8_readSteps (d + 2) 0 0) [.ref 11, .int 0] h (fun r h' => (r = 0 ∧ h' = h_im h 11 3 0)) := by
  refine Ct.of (fun _ _ _ => trivial) rfl (Nat.le_of_ble_eq_true rfl) ?_
  show AW (m_X8_readSteps (d + 2) 0 0) 0 0 0 [(0, .ref 11), (1, .int 0)] [] h (kI (fun r h' => (r = 0 ∧ h' = h_im h 11 3 0)))
  refine aw_aload_n (i := 0) rfl d_X8_readSteps_0 0 rfl ?_
  refine aw_iload_n (i := 1) rfl d_X8_readSteps_1 1 rfl ?_
  refine aw_Vi 11 [.int 0] [] d_X8_readSteps_2 (cV_X8_readStep (d + 1) 0 0) kc_8 (ws_11 w) tw_681 rfl (rr0 (Nat.le_of_ble_eq_true rfl) (Nat.le_of_ble_eq_true rfl)) (Nat.le_of_ble_eq_true rfl) xs0 (f_X8_readStep_8 d h w e_11_1 e_11_2 ) (fun r1 h2 kk => ?_)
  obtain ⟨ez8, ez9⟩ := kk
  obtain rfl := ez8.symm
  obtain rfl := ez9.symm
  refine aw_istore_n (i := 2) rfl [(0, .ref 11), (1, .int 0), (2, .int 0)] d_X8_readSteps_5 (Nat.le_of_ble_eq_true rfl) rfl rfl ?_
  refine aw_iconst (v := 0) d_X8_readSteps_6 ic_0 ?_
  refine aw_istore_n (i := 3) rfl [(0, .ref 11), (1, .int 0), (2, .int 0), (3, .int 0)] d_X8_readSteps_7 (Nat.le_of_ble_eq_true rfl) rfl rfl ?_
  refine aw_iload_n (i := 3) rfl d_X8_readSteps_8 3 rfl ?_
  refine aw_sipush (v := 160) d_X8_readSteps_9 is_160 ?_
  refine aw_icmp_ge (tgt := 50) d_X8_readSteps_12 rfl (fun c => absurd c (by decide)) (fun _ => ?_)
  refine aw_iload_n (i := 2) rfl d_X8_readSteps_15 2 rfl ?_
  refine aw_if_eq (tgt := 50) d_X8_readSteps_16 rfl (fun _ => ?_) (fun c => absurd c (by decide))
  refine aw_iload_n (i := 2) rfl d_X8_readSteps_50 2 rfl ?_
  exact aw_zret rfl rfl d_X8_readSteps_51 ⟨Nat.le_refl _, Nat.le_refl _⟩ ⟨_, rfl, ⟨rfl, rfl⟩⟩
theorem f_X8_readBeat_10 (d : Nat) (h : Hp_) (w : Wf h) (e_11_1 : h_i h 11 1 = 0)   : Ci (m_X8_readBeat (d + 3) 0 0) [.ref 11] h (fun r h' => (r = 0 ∧ h' = h_im (h_im (h_im (h_im (h_rm (h_im (h_im h 11 2 0) 11 3 (-1)) 11 4 (some 1000)) 11 6 0) 11 7 0) 11 9 0) 11 3 0)) := by
  refine Ct.of (fun _ _ _ => trivial) rfl (Nat.le_of_ble_eq_true rfl) ?_
  show AW (m_X8_readBeat (d + 3) 0 0) 0 0 0 [(0, .ref 11)] [] h (kI (fun r h' => (r = 0 ∧ h' = h_im (h_im (h_im (h_im (h_rm (h_im (h_im h 11 2 0) 11 3 (-1)) 11 4 (some 1000)) 11 6 0) 11 7 0) 11 9 0) 11 3 0)))
  refine aw_aload_n (i := 0) rfl d_X8_readBeat_0 0 rfl ?_
  refine aw_ldcT (row := 0) (n := 0) (q := 1000) d_X8_readBeat_1 rfl rfl ?_
  refine aw_Vv 11 [.ref 1000] [] d_X8_readBeat_3 (cV_X8_restart (d + 0) 0 0) kc_8 (ws_11 w) tw_673 rfl (rr0 (Nat.le_of_ble_eq_true rfl) (Nat.le_of_ble_eq_true rfl)) (Nat.le_of_ble_eq_true rfl) xs0 (f_X8_restart_5 d h w  ) (fun h2 kk => ?_)
  have ez9 := kk
  obtain rfl := ez9.symm
  have w3 : Wf (h_rm (h_im (h_im h 11 2 0) 11 3 (-1)) 11 4 (some 1000)) := Wf_rm (h := (h_im (h_im h 11 2 0) 11 3 (-1))) w (by decide +kernel)
  refine aw_aload_n (i := 0) rfl d_X8_readBeat_6 0 rfl ?_
  refine aw_iconst (v := 0) d_X8_readBeat_7 ic_0 ?_
  refine aw_Vi 11 [.int 0] [] d_X8_readBeat_8 (cV_X8_readSteps (d + 2) 0 0) kc_8 (ws_11 w3) tw_677 rfl (rr0 (Nat.le_of_ble_eq_true rfl) (Nat.le_of_ble_eq_true rfl)) (Nat.le_of_ble_eq_true rfl) xs0 (f_X8_readSteps_9 d (h_im (h_im (h_im (h_rm (h_im (h_im h 11 2 0) 11 3 (-1)) 11 4 (some 1000)) 11 6 0) 11 7 0) 11 9 0) w3 e_11_1 rfl ) (fun r4 h5 kk => ?_)
  obtain ⟨ez8, ez9⟩ := kk
  obtain rfl := ez8.symm
  obtain rfl := ez9.symm
  refine aw_if_eq (tgt := 27) d_X8_readBeat_11 rfl (fun _ => ?_) (fun c => absurd c (by decide))
  refine aw_aload_n (i := 0) rfl d_X8_readBeat_27 0 rfl ?_
  refine aw_geti (k0 := 3) kc_8 (ws_11 w3) (Nat.le_of_ble_eq_true rfl) tw_63 d_X8_readBeat_28 rfl ?_
  refine aw_vi (v2 := 0) rfl ?_
  exact aw_iret rfl d_X8_readBeat_31 ⟨Nat.le_refl _, Nat.le_refl _⟩ ⟨_, rfl, ⟨rfl, rfl⟩⟩
theorem f_X8_restart_11 (d : Nat) (h : Hp_) (w : Wf h)    : Cv (m_X8_restart (d + 0) 0 0) [.ref 11, .ref 1001] h (fun h' => (h' = h_im (h_im (h_im (h_rm (h_im (h_im h 11 2 0) 11 3 (-1)) 11 4 (some 1001)) 11 6 0) 11 7 0) 11 9 0)) := by
  refine Ct.of (fun _ _ _ => trivial) rfl (Nat.le_of_ble_eq_true rfl) ?_
  show AW (m_X8_restart (d + 0) 0 0) 0 0 0 [(0, .ref 11), (1, .ref 1001)] [] h (kV (fun h' => (h' = h_im (h_im (h_im (h_rm (h_im (h_im h 11 2 0) 11 3 (-1)) 11 4 (some 1001)) 11 6 0) 11 7 0) 11 9 0)))
  refine aw_aload_n (i := 0) rfl d_X8_restart_0 0 rfl ?_
  refine aw_iconst (v := 0) d_X8_restart_1 ic_0 ?_
  refine aw_puti (k0 := 2) kc_8 (ws_11 w) (Nat.le_of_ble_eq_true rfl) tw_62 d_X8_restart_2 rfl rfl nf_i ?_
  refine aw_aload_n (i := 0) rfl d_X8_restart_5 0 rfl ?_
  refine aw_iconst (v := (-1)) d_X8_restart_6 ic_m1 ?_
  refine aw_puti (k0 := 3) kc_8 (ws_11 w) (Nat.le_of_ble_eq_true rfl) tw_63 d_X8_restart_7 rfl rfl nf_i ?_
  refine aw_aload_n (i := 0) rfl d_X8_restart_10 0 rfl ?_
  refine aw_aload_n (i := 1) rfl d_X8_restart_11 1 rfl ?_
  refine aw_putr (k0 := 4) kc_8 (ws_11 w) (Nat.le_of_ble_eq_true rfl) tw_64 d_X8_restart_12 rfl rfl ?_
  have w1 : Wf (h_rm (h_im (h_im h 11 2 0) 11 3 (-1)) 11 4 (some 1001)) := Wf_rm (h := (h_im (h_im h 11 2 0) 11 3 (-1))) w (by decide +kernel)
  refine aw_aload_n (i := 0) rfl d_X8_restart_15 0 rfl ?_
  refine aw_iconst (v := 0) d_X8_restart_16 ic_0 ?_
  refine aw_puti (k0 := 6) kc_8 (ws_11 w1) (Nat.le_of_ble_eq_true rfl) tw_68 d_X8_restart_17 rfl rfl nf_i ?_
  refine aw_aload_n (i := 0) rfl d_X8_restart_20 0 rfl ?_
  refine aw_iconst (v := 0) d_X8_restart_21 ic_0 ?_
  refine aw_puti (k0 := 7) kc_8 (ws_11 w1) (Nat.le_of_ble_eq_true rfl) tw_70 d_X8_restart_22 rfl rfl ⟨rfl, rfl⟩ ?_
  refine aw_aload_n (i := 0) rfl d_X8_restart_25 0 rfl ?_
  refine aw_iconst (v := 0) d_X8_restart_26 ic_0 ?_
  refine aw_puti (k0 := 9) kc_8 (ws_11 w1) (Nat.le_of_ble_eq_true rfl) tw_74 d_X8_restart_27 rfl rfl nf_i ?_
  exact aw_vret rfl d_X8_restart_30 ⟨Nat.le_refl _, Nat.le_refl _⟩ ⟨rfl, rfl⟩
theorem f_X8_isDigit_12 (d : Nat) (h : Hp_)    : Ci (m_X8_isDigit (d + 0) 0 0) [.int (-1)] h (fun r h' => (r = 0 ∧ h' = h)) := by
  refine Ct.of (fun _ _ _ => trivial) rfl (Nat.le_of_ble_eq_true rfl) ?_
  show AW (m_X8_isDigit (d + 0) 0 0) 0 0 0 [(0, .int (-1))] [] h (kI (fun r h' => (r = 0 ∧ h' = h)))
  refine aw_iload_n (i := 0) rfl d_X8_isDigit_0 0 rfl ?_
  refine aw_bipush (v := 48) d_X8_isDigit_1 ib_48 ?_
  refine aw_icmp_lt (tgt := 16) d_X8_isDigit_3 rfl (fun _ => ?_) (fun c => absurd c (by decide))
  refine aw_iconst (v := 0) d_X8_isDigit_16 ic_0 ?_
  exact aw_zret rfl rfl d_X8_isDigit_17 ⟨Nat.le_refl _, Nat.le_refl _⟩ ⟨_, rfl, ⟨rfl, rfl⟩⟩
theorem f_X8_readAtom_13 (d : Nat) (h : Hp_) (w : Wf h) (e_11_1 : h_i h 11 1 = 0) (e_11_2 : h_i h 11 2 = 0)   : Ci (m_X8_readAtom (d + 1) 0 0) [.ref 11, .int 0] h (fun r h' => (r = 0 ∧ h' = h_im h 11 3 0)) := by
  refine Ct.of (fun _ _ _ => trivial) rfl (Nat.le_of_ble_eq_true rfl) ?_
  show AW (m_X8_readAtom (d + 1) 0 0) 0 0 0 [(0, .ref 11), (1, .int 0)] [] h (kI (fun r h' => (r = 0 ∧ h' = h_im h 11 3 0)))
  refine aw_aload_n (i := 0) rfl d_X8_readAtom_0 0 rfl ?_
  refine aw_Vi 11 [] [] d_X8_readAtom_1 (cV_X8_peek (d + 0) 0 0) kc_8 (ws_11 w) tw_685 rfl (rr0 (Nat.le_of_ble_eq_true rfl) (Nat.le_of_ble_eq_true rfl)) (Nat.le_of_ble_eq_true rfl) xs0 (f_X8_peek_6 d h w e_11_1 e_11_2 ) (fun r1 h2 kk => ?_)
  obtain ⟨ez8, ez9⟩ := kk
  obtain rfl := ez8.symm
  obtain rfl := ez9.symm
  refine aw_istore_n (i := 2) rfl [(0, .ref 11), (1, .int 0), (2, .int (-1))] d_X8_readAtom_4 (Nat.le_of_ble_eq_true rfl) rfl rfl ?_
  refine aw_iload_n (i := 2) rfl d_X8_readAtom_5 2 rfl ?_
  refine aw_Si [.int (-1)] [] d_X8_readAtom_6 (cS_X8_isDigit (d + 0) 0 0) tw_693 rfl (rr0 (Nat.le_of_ble_eq_true rfl) (Nat.le_of_ble_eq_true rfl)) (Nat.le_of_ble_eq_true rfl) xs0 (f_X8_isDigit_12 d _  ) (fun r3 h4 kk => ?_)
  obtain ⟨ez8, ez9⟩ := kk
  obtain rfl := ez8.symm
  obtain rfl := ez9.symm
  refine aw_if_eq (tgt := 39) d_X8_readAtom_9 rfl (fun _ => ?_) (fun c => absurd c (by decide))
  refine aw_iload_n (i := 2) rfl d_X8_readAtom_39 2 rfl ?_
  refine aw_bipush (v := 91) d_X8_readAtom_40 ib_91 ?_
  refine aw_icmp_ne (tgt := 91) d_X8_readAtom_42 rfl (fun _ => ?_) (fun c => absurd c (by decide))
  refine aw_iload_n (i := 2) rfl d_X8_readAtom_91 2 rfl ?_
  refine aw_iconst (v := (-1)) d_X8_readAtom_92 ic_m1 ?_
  refine aw_icmp_ne (tgt := 100) d_X8_readAtom_93 rfl (fun c => absurd c (by decide)) (fun _ => ?_)
  refine aw_iconst (v := (-1)) d_X8_readAtom_96 ic_m1 ?_
  refine aw_goto (tgt := 109) d_X8_readAtom_97 rfl ?_
  refine aw_istore_n (i := 3) rfl [(0, .ref 11), (1, .int 0), (2, .int (-1)), (3, .int (-1))] d_X8_readAtom_109 (Nat.le_of_ble_eq_true rfl) rfl rfl ?_
  refine aw_iload_n (i := 3) rfl d_X8_readAtom_110 3 rfl ?_
  refine aw_if_ge (tgt := 119) d_X8_readAtom_111 rfl (fun c => absurd c (by decide)) (fun _ => ?_)
  refine aw_aload_n (i := 0) rfl d_X8_readAtom_114 0 rfl ?_
  refine aw_Vi 11 [] [] d_X8_readAtom_115 (cV_X8_fail (d + 0) 0 0) kc_8 (ws_11 w) tw_715 rfl (rr0 (Nat.le_of_ble_eq_true rfl) (Nat.le_of_ble_eq_true rfl)) (Nat.le_of_ble_eq_true rfl) xs0 (f_X8_fail_7 d h w e_11_2 ) (fun r9 h10 kk => ?_)
  obtain ⟨ez8, ez9⟩ := kk
  obtain rfl := ez8.symm
  obtain rfl := ez9.symm
  exact aw_zret rfl rfl d_X8_readAtom_118 ⟨Nat.le_refl _, Nat.le_refl _⟩ ⟨_, rfl, ⟨rfl, rfl⟩⟩
theorem f_X8_readTerm_14 (d : Nat) (h : Hp_) (w : Wf h) (e_11_1 : h_i h 11 1 = 0) (e_11_2 : h_i h 11 2 = 0)   : Ci (m_X8_readTerm (d + 2) 0 0) [.ref 11, .int 0] h (fun r h' => (r = 0 ∧ h' = h_im h 11 3 0)) := by
  refine Ct.of (fun _ _ _ => trivial) rfl (Nat.le_of_ble_eq_true rfl) ?_
  show AW (m_X8_readTerm (d + 2) 0 0) 0 0 0 [(0, .ref 11), (1, .int 0)] [] h (kI (fun r h' => (r = 0 ∧ h' = h_im h 11 3 0)))
  refine aw_aload_n (i := 0) rfl d_X8_readTerm_0 0 rfl ?_
  refine aw_iload_n (i := 1) rfl d_X8_readTerm_1 1 rfl ?_
  refine aw_Vi 11 [.int 0] [] d_X8_readTerm_2 (cV_X8_readAtom (d + 1) 0 0) kc_8 (ws_11 w) tw_749 rfl (rr0 (Nat.le_of_ble_eq_true rfl) (Nat.le_of_ble_eq_true rfl)) (Nat.le_of_ble_eq_true rfl) xs0 (f_X8_readAtom_13 d h w e_11_1 e_11_2 ) (fun r1 h2 kk => ?_)
  obtain ⟨ez8, ez9⟩ := kk
  obtain rfl := ez8.symm
  obtain rfl := ez9.symm
  refine aw_istore_n (i := 2) rfl [(0, .ref 11), (1, .int 0), (2, .int 0)] d_X8_readTerm_5 (Nat.le_of_ble_eq_true rfl) rfl rfl ?_
  refine aw_iconst (v := 0) d_X8_readTerm_6 ic_0 ?_
  refine aw_istore_n (i := 3) rfl [(0, .ref 11), (1, .int 0), (2, .int 0), (3, .int 0)] d_X8_readTerm_7 (Nat.le_of_ble_eq_true rfl) rfl rfl ?_
  refine aw_iload_n (i := 3) rfl d_X8_readTerm_8 3 rfl ?_
  refine aw_sipush (v := 160) d_X8_readTerm_9 is_160 ?_
  refine aw_icmp_ge (tgt := 58) d_X8_readTerm_12 rfl (fun c => absurd c (by decide)) (fun _ => ?_)
  refine aw_iload_n (i := 2) rfl d_X8_readTerm_15 2 rfl ?_
  refine aw_if_eq (tgt := 58) d_X8_readTerm_16 rfl (fun _ => ?_) (fun c => absurd c (by decide))
  refine aw_iload_n (i := 2) rfl d_X8_readTerm_58 2 rfl ?_
  exact aw_zret rfl rfl d_X8_readTerm_59 ⟨Nat.le_refl _, Nat.le_refl _⟩ ⟨_, rfl, ⟨rfl, rfl⟩⟩
theorem f_X8_readSum_15 (d : Nat) (h : Hp_) (w : Wf h) (e_11_1 : h_i h 11 1 = 0) (e_11_2 : h_i h 11 2 = 0)   : Ci (m_X8_readSum (d + 3) 0 0) [.ref 11, .int 0] h (fun r h' => (r = 0 ∧ h' = h_im h 11 3 0)) := by
  refine Ct.of (fun _ _ _ => trivial) rfl (Nat.le_of_ble_eq_true rfl) ?_
  show AW (m_X8_readSum (d + 3) 0 0) 0 0 0 [(0, .ref 11), (1, .int 0)] [] h (kI (fun r h' => (r = 0 ∧ h' = h_im h 11 3 0)))
  refine aw_aload_n (i := 0) rfl d_X8_readSum_0 0 rfl ?_
  refine aw_iload_n (i := 1) rfl d_X8_readSum_1 1 rfl ?_
  refine aw_Vi 11 [.int 0] [] d_X8_readSum_2 (cV_X8_readTerm (d + 2) 0 0) kc_8 (ws_11 w) tw_745 rfl (rr0 (Nat.le_of_ble_eq_true rfl) (Nat.le_of_ble_eq_true rfl)) (Nat.le_of_ble_eq_true rfl) xs0 (f_X8_readTerm_14 d h w e_11_1 e_11_2 ) (fun r1 h2 kk => ?_)
  obtain ⟨ez8, ez9⟩ := kk
  obtain rfl := ez8.symm
  obtain rfl := ez9.symm
  refine aw_istore_n (i := 2) rfl [(0, .ref 11), (1, .int 0), (2, .int 0)] d_X8_readSum_5 (Nat.le_of_ble_eq_true rfl) rfl rfl ?_
  refine aw_iconst (v := 0) d_X8_readSum_6 ic_0 ?_
  refine aw_istore_n (i := 3) rfl [(0, .ref 11), (1, .int 0), (2, .int 0), (3, .int 0)] d_X8_readSum_7 (Nat.le_of_ble_eq_true rfl) rfl rfl ?_
  refine aw_iload_n (i := 3) rfl d_X8_readSum_8 3 rfl ?_
  refine aw_sipush (v := 160) d_X8_readSum_9 is_160 ?_
  refine aw_icmp_ge (tgt := 84) d_X8_readSum_12 rfl (fun c => absurd c (by decide)) (fun _ => ?_)
  refine aw_iload_n (i := 2) rfl d_X8_readSum_15 2 rfl ?_
  refine aw_if_eq (tgt := 84) d_X8_readSum_16 rfl (fun _ => ?_) (fun c => absurd c (by decide))
  refine aw_iload_n (i := 2) rfl d_X8_readSum_84 2 rfl ?_
  exact aw_zret rfl rfl d_X8_readSum_85 ⟨Nat.le_refl _, Nat.le_refl _⟩ ⟨_, rfl, ⟨rfl, rfl⟩⟩
theorem f_X8_readUnit_16 (d : Nat) (h : Hp_) (w : Wf h) (e_11_1 : h_i h 11 1 = 0) (e_11_2 : h_i h 11 2 = 0)   : Ci (m_X8_readUnit (d + 4) 0 0) [.ref 11, .int 0] h (fun r h' => (r = 0 ∧ h' = h_im h 11 3 0)) := by
  refine Ct.of (fun _ _ _ => trivial) rfl (Nat.le_of_ble_eq_true rfl) ?_
  show AW (m_X8_readUnit (d + 4) 0 0) 0 0 0 [(0, .ref 11), (1, .int 0)] [] h (kI (fun r h' => (r = 0 ∧ h' = h_im h 11 3 0)))
  refine aw_aload_n (i := 0) rfl d_X8_readUnit_0 0 rfl ?_
  refine aw_Vi 11 [] [] d_X8_readUnit_1 (cV_X8_peek (d + 0) 0 0) kc_8 (ws_11 w) tw_685 rfl (rr0 (Nat.le_of_ble_eq_true rfl) (Nat.le_of_ble_eq_true rfl)) (Nat.le_of_ble_eq_true rfl) xs0 (f_X8_peek_6 d h w e_11_1 e_11_2 ) (fun r1 h2 kk => ?_)
  obtain ⟨ez8, ez9⟩ := kk
  obtain rfl := ez8.symm
  obtain rfl := ez9.symm
  refine aw_istore_n (i := 2) rfl [(0, .ref 11), (1, .int 0), (2, .int (-1))] d_X8_readUnit_4 (Nat.le_of_ble_eq_true rfl) rfl rfl ?_
  refine aw_iload_n (i := 2) rfl d_X8_readUnit_5 2 rfl ?_
  refine aw_bipush (v := 33) d_X8_readUnit_6 ib_33 ?_
  refine aw_icmp_eq (tgt := 39) d_X8_readUnit_8 rfl (fun c => absurd c (by decide)) (fun _ => ?_)
  refine aw_iload_n (i := 2) rfl d_X8_readUnit_11 2 rfl ?_
  refine aw_bipush (v := 40) d_X8_readUnit_12 ib_40 ?_
  refine aw_icmp_eq (tgt := 39) d_X8_readUnit_14 rfl (fun c => absurd c (by decide)) (fun _ => ?_)
  refine aw_aload_n (i := 0) rfl d_X8_readUnit_17 0 rfl ?_
  refine aw_iload_n (i := 1) rfl d_X8_readUnit_18 1 rfl ?_
  refine aw_Vi 11 [.int 0] [] d_X8_readUnit_19 (cV_X8_readSum (d + 3) 0 0) kc_8 (ws_11 w) tw_741 rfl (rr0 (Nat.le_of_ble_eq_true rfl) (Nat.le_of_ble_eq_true rfl)) (Nat.le_of_ble_eq_true rfl) xs0 (f_X8_readSum_15 d h w e_11_1 e_11_2 ) (fun r5 h6 kk => ?_)
  obtain ⟨ez8, ez9⟩ := kk
  obtain rfl := ez8.symm
  obtain rfl := ez9.symm
  refine aw_if_eq (tgt := 37) d_X8_readUnit_22 rfl (fun _ => ?_) (fun c => absurd c (by decide))
  refine aw_iconst (v := 0) d_X8_readUnit_37 ic_0 ?_
  exact aw_zret rfl rfl d_X8_readUnit_38 ⟨Nat.le_refl _, Nat.le_refl _⟩ ⟨_, rfl, ⟨rfl, rfl⟩⟩
theorem f_X8_readCondition_17 (d : Nat) (h : Hp_) (w : Wf h) (e_11_1 : h_i h 11 1 = 0) (e_11_2 : h_i h 11 2 = 0)   : Ci (m_X8_readCondition (d + 5) 0 0) [.ref 11, .int 0] h (fun r h' => (r = 0 ∧ h' = h_im h 11 3 0)) := by
  refine Ct.of (fun _ _ _ => trivial) rfl (Nat.le_of_ble_eq_true rfl) ?_
  show AW (m_X8_readCondition (d + 5) 0 0) 0 0 0 [(0, .ref 11), (1, .int 0)] [] h (kI (fun r h' => (r = 0 ∧ h' = h_im h 11 3 0)))
  refine aw_aload_n (i := 0) rfl d_X8_readCondition_0 0 rfl ?_
  refine aw_iload_n (i := 1) rfl d_X8_readCondition_1 1 rfl ?_
  refine aw_Vi 11 [.int 0] [] d_X8_readCondition_2 (cV_X8_readUnit (d + 4) 0 0) kc_8 (ws_11 w) tw_737 rfl (rr0 (Nat.le_of_ble_eq_true rfl) (Nat.le_of_ble_eq_true rfl)) (Nat.le_of_ble_eq_true rfl) xs0 (f_X8_readUnit_16 d h w e_11_1 e_11_2 ) (fun r1 h2 kk => ?_)
  obtain ⟨ez8, ez9⟩ := kk
  obtain rfl := ez8.symm
  obtain rfl := ez9.symm
  refine aw_if_eq (tgt := 20) d_X8_readCondition_5 rfl (fun _ => ?_) (fun c => absurd c (by decide))
  refine aw_iconst (v := 0) d_X8_readCondition_20 ic_0 ?_
  exact aw_zret rfl rfl d_X8_readCondition_21 ⟨Nat.le_refl _, Nat.le_refl _⟩ ⟨_, rfl, ⟨rfl, rfl⟩⟩
theorem f_X8_readActClause_18 (d : Nat) (h : Hp_) (w : Wf h) (e_11_1 : h_i h 11 1 = 0) (e_11_2 : h_i h 11 2 = 0)   : Ci (m_X8_readActClause (d + 6) 0 0) [.ref 11] h (fun r h' => (r = 0 ∧ h' = h_im h 11 3 0)) := by
  refine Ct.of (fun _ _ _ => trivial) rfl (Nat.le_of_ble_eq_true rfl) ?_
  show AW (m_X8_readActClause (d + 6) 0 0) 0 0 0 [(0, .ref 11)] [] h (kI (fun r h' => (r = 0 ∧ h' = h_im h 11 3 0)))
  refine aw_aload_n (i := 0) rfl d_X8_readActClause_0 0 rfl ?_
  refine aw_iconst (v := 0) d_X8_readActClause_1 ic_0 ?_
  refine aw_Vi 11 [.int 0] [] d_X8_readActClause_2 (cV_X8_readCondition (d + 5) 0 0) kc_8 (ws_11 w) tw_733 rfl (rr0 (Nat.le_of_ble_eq_true rfl) (Nat.le_of_ble_eq_true rfl)) (Nat.le_of_ble_eq_true rfl) xs0 (f_X8_readCondition_17 d h w e_11_1 e_11_2 ) (fun r1 h2 kk => ?_)
  obtain ⟨ez8, ez9⟩ := kk
  obtain rfl := ez8.symm
  obtain rfl := ez9.symm
  refine aw_if_eq (tgt := 17) d_X8_readActClause_5 rfl (fun _ => ?_) (fun c => absurd c (by decide))
  refine aw_iconst (v := 0) d_X8_readActClause_17 ic_0 ?_
  exact aw_zret rfl rfl d_X8_readActClause_18 ⟨Nat.le_refl _, Nat.le_refl _⟩ ⟨_, rfl, ⟨rfl, rfl⟩⟩
theorem f_X8_readRule_19 (d : Nat) (h : Hp_) (w : Wf h) (e_11_1 : h_i h 11 1 = 0)   : Ci (m_X8_readRule (d + 7) 0 0) [.ref 11, .int 1] h (fun r h' => (r = 0 ∧ h' = h_im (h_im (h_im (h_im (h_rm (h_im (h_im h 11 2 0) 11 3 (-1)) 11 4 (some 1001)) 11 6 0) 11 7 0) 11 9 0) 11 3 0)) := by
  refine Ct.of (fun _ _ _ => trivial) rfl (Nat.le_of_ble_eq_true rfl) ?_
  show AW (m_X8_readRule (d + 7) 0 0) 0 0 0 [(0, .ref 11), (1, .int 1)] [] h (kI (fun r h' => (r = 0 ∧ h' = h_im (h_im (h_im (h_im (h_rm (h_im (h_im h 11 2 0) 11 3 (-1)) 11 4 (some 1001)) 11 6 0) 11 7 0) 11 9 0) 11 3 0)))
  refine aw_aload_n (i := 0) rfl d_X8_readRule_0 0 rfl ?_
  refine aw_iload_n (i := 1) rfl d_X8_readRule_1 1 rfl ?_
  refine aw_if_eq (tgt := 10) d_X8_readRule_2 rfl (fun c => absurd c (by decide)) (fun _ => ?_)
  refine aw_ldcT (row := 1) (n := 1) (q := 1001) d_X8_readRule_5 rfl rfl ?_
  refine aw_goto (tgt := 12) d_X8_readRule_7 rfl ?_
  refine aw_Vv 11 [.ref 1001] [] d_X8_readRule_12 (cV_X8_restart (d + 0) 0 0) kc_8 (ws_11 w) tw_673 rfl (rr0 (Nat.le_of_ble_eq_true rfl) (Nat.le_of_ble_eq_true rfl)) (Nat.le_of_ble_eq_true rfl) xs0 (f_X8_restart_11 d h w  ) (fun h3 kk => ?_)
  have ez9 := kk
  obtain rfl := ez9.symm
  have w4 : Wf (h_rm (h_im (h_im h 11 2 0) 11 3 (-1)) 11 4 (some 1001)) := Wf_rm (h := (h_im (h_im h 11 2 0) 11 3 (-1))) w (by decide +kernel)
  refine aw_iload_n (i := 1) rfl d_X8_readRule_15 1 rfl ?_
  refine aw_if_eq (tgt := 26) d_X8_readRule_16 rfl (fun c => absurd c (by decide)) (fun _ => ?_)
  refine aw_aload_n (i := 0) rfl d_X8_readRule_19 0 rfl ?_
  refine aw_Vi 11 [] [] d_X8_readRule_20 (cV_X8_readActClause (d + 6) 0 0) kc_8 (ws_11 w4) tw_729 rfl (rr0 (Nat.le_of_ble_eq_true rfl) (Nat.le_of_ble_eq_true rfl)) (Nat.le_of_ble_eq_true rfl) xs0 (f_X8_readActClause_18 d (h_im (h_im (h_im (h_rm (h_im (h_im h 11 2 0) 11 3 (-1)) 11 4 (some 1001)) 11 6 0) 11 7 0) 11 9 0) w4 e_11_1 rfl ) (fun r6 h7 kk => ?_)
  obtain ⟨ez8, ez9⟩ := kk
  obtain rfl := ez8.symm
  obtain rfl := ez9.symm
  refine aw_goto (tgt := 30) d_X8_readRule_23 rfl ?_
  refine aw_istore_n (i := 2) rfl [(0, .ref 11), (1, .int 1), (2, .int 0)] d_X8_readRule_30 (Nat.le_of_ble_eq_true rfl) rfl rfl ?_
  refine aw_iconst (v := 0) d_X8_readRule_31 ic_0 ?_
  refine aw_istore_n (i := 3) rfl [(0, .ref 11), (1, .int 1), (2, .int 0), (3, .int 0)] d_X8_readRule_32 (Nat.le_of_ble_eq_true rfl) rfl rfl ?_
  refine aw_iload_n (i := 3) rfl d_X8_readRule_33 3 rfl ?_
  refine aw_sipush (v := 160) d_X8_readRule_34 is_160 ?_
  refine aw_icmp_ge (tgt := 85) d_X8_readRule_37 rfl (fun c => absurd c (by decide)) (fun _ => ?_)
  refine aw_iload_n (i := 2) rfl d_X8_readRule_40 2 rfl ?_
  refine aw_if_eq (tgt := 85) d_X8_readRule_41 rfl (fun _ => ?_) (fun c => absurd c (by decide))
  refine aw_iload_n (i := 2) rfl d_X8_readRule_85 2 rfl ?_
  refine aw_if_eq (tgt := 102) d_X8_readRule_86 rfl (fun _ => ?_) (fun c => absurd c (by decide))
  refine aw_aload_n (i := 0) rfl d_X8_readRule_102 0 rfl ?_
  refine aw_geti (k0 := 3) kc_8 (ws_11 w4) (Nat.le_of_ble_eq_true rfl) tw_63 d_X8_readRule_103 rfl ?_
  refine aw_vi (v2 := 0) rfl ?_
  exact aw_iret rfl d_X8_readRule_106 ⟨Nat.le_refl _, Nat.le_refl _⟩ ⟨_, rfl, ⟨rfl, rfl⟩⟩
theorem f_X8_restart_20 (d : Nat) (h : Hp_) (w : Wf h)    : Cv (m_X8_restart (d + 0) 0 0) [.ref 11, .ref 1002] h (fun h' => (h' = h_im (h_im (h_im (h_rm (h_im (h_im h 11 2 0) 11 3 (-1)) 11 4 (some 1002)) 11 6 0) 11 7 0) 11 9 0)) := by
  refine Ct.of (fun _ _ _ => trivial) rfl (Nat.le_of_ble_eq_true rfl) ?_
  show AW (m_X8_restart (d + 0) 0 0) 0 0 0 [(0, .ref 11), (1, .ref 1002)] [] h (kV (fun h' => (h' = h_im (h_im (h_im (h_rm (h_im (h_im h 11 2 0) 11 3 (-1)) 11 4 (some 1002)) 11 6 0) 11 7 0) 11 9 0)))
  refine aw_aload_n (i := 0) rfl d_X8_restart_0 0 rfl ?_
  refine aw_iconst (v := 0) d_X8_restart_1 ic_0 ?_
  refine aw_puti (k0 := 2) kc_8 (ws_11 w) (Nat.le_of_ble_eq_true rfl) tw_62 d_X8_restart_2 rfl rfl nf_i ?_
  refine aw_aload_n (i := 0) rfl d_X8_restart_5 0 rfl ?_
  refine aw_iconst (v := (-1)) d_X8_restart_6 ic_m1 ?_
  refine aw_puti (k0 := 3) kc_8 (ws_11 w) (Nat.le_of_ble_eq_true rfl) tw_63 d_X8_restart_7 rfl rfl nf_i ?_
  refine aw_aload_n (i := 0) rfl d_X8_restart_10 0 rfl ?_
  refine aw_aload_n (i := 1) rfl d_X8_restart_11 1 rfl ?_
  refine aw_putr (k0 := 4) kc_8 (ws_11 w) (Nat.le_of_ble_eq_true rfl) tw_64 d_X8_restart_12 rfl rfl ?_
  have w1 : Wf (h_rm (h_im (h_im h 11 2 0) 11 3 (-1)) 11 4 (some 1002)) := Wf_rm (h := (h_im (h_im h 11 2 0) 11 3 (-1))) w (by decide +kernel)
  refine aw_aload_n (i := 0) rfl d_X8_restart_15 0 rfl ?_
  refine aw_iconst (v := 0) d_X8_restart_16 ic_0 ?_
  refine aw_puti (k0 := 6) kc_8 (ws_11 w1) (Nat.le_of_ble_eq_true rfl) tw_68 d_X8_restart_17 rfl rfl nf_i ?_
  refine aw_aload_n (i := 0) rfl d_X8_restart_20 0 rfl ?_
  refine aw_iconst (v := 0) d_X8_restart_21 ic_0 ?_
  refine aw_puti (k0 := 7) kc_8 (ws_11 w1) (Nat.le_of_ble_eq_true rfl) tw_70 d_X8_restart_22 rfl rfl ⟨rfl, rfl⟩ ?_
  refine aw_aload_n (i := 0) rfl d_X8_restart_25 0 rfl ?_
  refine aw_iconst (v := 0) d_X8_restart_26 ic_0 ?_
  refine aw_puti (k0 := 9) kc_8 (ws_11 w1) (Nat.le_of_ble_eq_true rfl) tw_74 d_X8_restart_27 rfl rfl nf_i ?_
  exact aw_vret rfl d_X8_restart_30 ⟨Nat.le_refl _, Nat.le_refl _⟩ ⟨rfl, rfl⟩
theorem f_X8_readPayClause_21 (d : Nat) (h : Hp_) (w : Wf h) (e_11_1 : h_i h 11 1 = 0) (e_11_2 : h_i h 11 2 = 0)   : Ci (m_X8_readPayClause (d + 4) 0 0) [.ref 11] h (fun r h' => (r = 0 ∧ h' = h_im h 11 3 0)) := by
  refine Ct.of (fun _ _ _ => trivial) rfl (Nat.le_of_ble_eq_true rfl) ?_
  show AW (m_X8_readPayClause (d + 4) 0 0) 0 0 0 [(0, .ref 11)] [] h (kI (fun r h' => (r = 0 ∧ h' = h_im h 11 3 0)))
  refine aw_aload_n (i := 0) rfl d_X8_readPayClause_0 0 rfl ?_
  refine aw_Vi 11 [] [] d_X8_readPayClause_1 (cV_X8_peek (d + 0) 0 0) kc_8 (ws_11 w) tw_685 rfl (rr0 (Nat.le_of_ble_eq_true rfl) (Nat.le_of_ble_eq_true rfl)) (Nat.le_of_ble_eq_true rfl) xs0 (f_X8_peek_6 d h w e_11_1 e_11_2 ) (fun r1 h2 kk => ?_)
  obtain ⟨ez8, ez9⟩ := kk
  obtain rfl := ez8.symm
  obtain rfl := ez9.symm
  refine aw_istore_n (i := 1) rfl [(0, .ref 11), (1, .int (-1))] d_X8_readPayClause_4 (Nat.le_of_ble_eq_true rfl) rfl rfl ?_
  refine aw_iload_n (i := 1) rfl d_X8_readPayClause_5 1 rfl ?_
  refine aw_bipush (v := 33) d_X8_readPayClause_6 ib_33 ?_
  refine aw_icmp_eq (tgt := 17) d_X8_readPayClause_8 rfl (fun c => absurd c (by decide)) (fun _ => ?_)
  refine aw_iload_n (i := 1) rfl d_X8_readPayClause_11 1 rfl ?_
  refine aw_bipush (v := 40) d_X8_readPayClause_12 ib_40 ?_
  refine aw_icmp_ne (tgt := 38) d_X8_readPayClause_14 rfl (fun _ => ?_) (fun c => absurd c (by decide))
  refine aw_aload_n (i := 0) rfl d_X8_readPayClause_38 0 rfl ?_
  refine aw_iconst (v := 0) d_X8_readPayClause_39 ic_0 ?_
  refine aw_Vi 11 [.int 0] [] d_X8_readPayClause_40 (cV_X8_readSum (d + 3) 0 0) kc_8 (ws_11 w) tw_741 rfl (rr0 (Nat.le_of_ble_eq_true rfl) (Nat.le_of_ble_eq_true rfl)) (Nat.le_of_ble_eq_true rfl) xs0 (f_X8_readSum_15 d h w e_11_1 e_11_2 ) (fun r5 h6 kk => ?_)
  obtain ⟨ez8, ez9⟩ := kk
  obtain rfl := ez8.symm
  obtain rfl := ez9.symm
  refine aw_if_ne (tgt := 48) d_X8_readPayClause_43 rfl (fun c => absurd c (by decide)) (fun _ => ?_)
  refine aw_iconst (v := 0) d_X8_readPayClause_46 ic_0 ?_
  exact aw_zret rfl rfl d_X8_readPayClause_47 ⟨Nat.le_refl _, Nat.le_refl _⟩ ⟨_, rfl, ⟨rfl, rfl⟩⟩
theorem f_X8_readRule_22 (d : Nat) (h : Hp_) (w : Wf h) (e_11_1 : h_i h 11 1 = 0)   : Ci (m_X8_readRule (d + 5) 0 0) [.ref 11, .int 0] h (fun r h' => (r = 0 ∧ h' = h_im (h_im (h_im (h_im (h_rm (h_im (h_im h 11 2 0) 11 3 (-1)) 11 4 (some 1002)) 11 6 0) 11 7 0) 11 9 0) 11 3 0)) := by
  refine Ct.of (fun _ _ _ => trivial) rfl (Nat.le_of_ble_eq_true rfl) ?_
  show AW (m_X8_readRule (d + 5) 0 0) 0 0 0 [(0, .ref 11), (1, .int 0)] [] h (kI (fun r h' => (r = 0 ∧ h' = h_im (h_im (h_im (h_im (h_rm (h_im (h_im h 11 2 0) 11 3 (-1)) 11 4 (some 1002)) 11 6 0) 11 7 0) 11 9 0) 11 3 0)))
  refine aw_aload_n (i := 0) rfl d_X8_readRule_0 0 rfl ?_
  refine aw_iload_n (i := 1) rfl d_X8_readRule_1 1 rfl ?_
  refine aw_if_eq (tgt := 10) d_X8_readRule_2 rfl (fun _ => ?_) (fun c => absurd c (by decide))
  refine aw_ldcT (row := 2) (n := 2) (q := 1002) d_X8_readRule_10 rfl rfl ?_
  refine aw_Vv 11 [.ref 1002] [] d_X8_readRule_12 (cV_X8_restart (d + 0) 0 0) kc_8 (ws_11 w) tw_673 rfl (rr0 (Nat.le_of_ble_eq_true rfl) (Nat.le_of_ble_eq_true rfl)) (Nat.le_of_ble_eq_true rfl) xs0 (f_X8_restart_20 d h w  ) (fun h3 kk => ?_)
  have ez9 := kk
  obtain rfl := ez9.symm
  have w4 : Wf (h_rm (h_im (h_im h 11 2 0) 11 3 (-1)) 11 4 (some 1002)) := Wf_rm (h := (h_im (h_im h 11 2 0) 11 3 (-1))) w (by decide +kernel)
  refine aw_iload_n (i := 1) rfl d_X8_readRule_15 1 rfl ?_
  refine aw_if_eq (tgt := 26) d_X8_readRule_16 rfl (fun _ => ?_) (fun c => absurd c (by decide))
  refine aw_aload_n (i := 0) rfl d_X8_readRule_26 0 rfl ?_
  refine aw_Vi 11 [] [] d_X8_readRule_27 (cV_X8_readPayClause (d + 4) 0 0) kc_8 (ws_11 w4) tw_864 rfl (rr0 (Nat.le_of_ble_eq_true rfl) (Nat.le_of_ble_eq_true rfl)) (Nat.le_of_ble_eq_true rfl) xs0 (f_X8_readPayClause_21 d (h_im (h_im (h_im (h_rm (h_im (h_im h 11 2 0) 11 3 (-1)) 11 4 (some 1002)) 11 6 0) 11 7 0) 11 9 0) w4 e_11_1 rfl ) (fun r6 h7 kk => ?_)
  obtain ⟨ez8, ez9⟩ := kk
  obtain rfl := ez8.symm
  obtain rfl := ez9.symm
  refine aw_istore_n (i := 2) rfl [(0, .ref 11), (1, .int 0), (2, .int 0)] d_X8_readRule_30 (Nat.le_of_ble_eq_true rfl) rfl rfl ?_
  refine aw_iconst (v := 0) d_X8_readRule_31 ic_0 ?_
  refine aw_istore_n (i := 3) rfl [(0, .ref 11), (1, .int 0), (2, .int 0), (3, .int 0)] d_X8_readRule_32 (Nat.le_of_ble_eq_true rfl) rfl rfl ?_
  refine aw_iload_n (i := 3) rfl d_X8_readRule_33 3 rfl ?_
  refine aw_sipush (v := 160) d_X8_readRule_34 is_160 ?_
  refine aw_icmp_ge (tgt := 85) d_X8_readRule_37 rfl (fun c => absurd c (by decide)) (fun _ => ?_)
  refine aw_iload_n (i := 2) rfl d_X8_readRule_40 2 rfl ?_
  refine aw_if_eq (tgt := 85) d_X8_readRule_41 rfl (fun _ => ?_) (fun c => absurd c (by decide))
  refine aw_iload_n (i := 2) rfl d_X8_readRule_85 2 rfl ?_
  refine aw_if_eq (tgt := 102) d_X8_readRule_86 rfl (fun _ => ?_) (fun c => absurd c (by decide))
  refine aw_aload_n (i := 0) rfl d_X8_readRule_102 0 rfl ?_
  refine aw_geti (k0 := 3) kc_8 (ws_11 w4) (Nat.le_of_ble_eq_true rfl) tw_63 d_X8_readRule_103 rfl ?_
  refine aw_vi (v2 := 0) rfl ?_
  exact aw_iret rfl d_X8_readRule_106 ⟨Nat.le_refl _, Nat.le_refl _⟩ ⟨_, rfl, ⟨rfl, rfl⟩⟩
theorem f_X11_fault (d : Nat) (h : Hp_) (w : Wf h) (e_11_1 : h_i h 11 1 = 0)  (x1 : Int32) : Ci (m_X11_fault (d + 8) 0 0) [.ref 0, .int x1] h (fun r h' => (x1 = 0 ∧ r = 0 ∧ h' = h_im (h_im (h_im (h_im (h_rm (h_im (h_im h 11 2 0) 11 3 (-1)) 11 4 (some 1000)) 11 6 0) 11 7 0) 11 9 0) 11 3 0) ∨ (x1 = 1 ∧ r = 0 ∧ h' = h_im (h_im (h_im (h_im (h_rm (h_im (h_im h 11 2 0) 11 3 (-1)) 11 4 (some 1001)) 11 6 0) 11 7 0) 11 9 0) 11 3 0) ∨ (x1 = 2 ∧ r = 0 ∧ h' = h_im (h_im (h_im (h_im (h_rm (h_im (h_im h 11 2 0) 11 3 (-1)) 11 4 (some 1002)) 11 6 0) 11 7 0) 11 9 0) 11 3 0) ∨ (¬ x1 = 0 ∧ ¬ x1 = 1 ∧ ¬ x1 = 2 ∧ r = (-2) ∧ h' = h)) := by
  refine Ct.of (fun _ _ _ => trivial) rfl (Nat.le_of_ble_eq_true rfl) ?_
  show AW (m_X11_fault (d + 8) 0 0) 0 0 0 [(0, .ref 0), (1, .int x1)] [] h (kI (fun r h' => (x1 = 0 ∧ r = 0 ∧ h' = h_im (h_im (h_im (h_im (h_rm (h_im (h_im h 11 2 0) 11 3 (-1)) 11 4 (some 1000)) 11 6 0) 11 7 0) 11 9 0) 11 3 0) ∨ (x1 = 1 ∧ r = 0 ∧ h' = h_im (h_im (h_im (h_im (h_rm (h_im (h_im h 11 2 0) 11 3 (-1)) 11 4 (some 1001)) 11 6 0) 11 7 0) 11 9 0) 11 3 0) ∨ (x1 = 2 ∧ r = 0 ∧ h' = h_im (h_im (h_im (h_im (h_rm (h_im (h_im h 11 2 0) 11 3 (-1)) 11 4 (some 1002)) 11 6 0) 11 7 0) 11 9 0) 11 3 0) ∨ (¬ x1 = 0 ∧ ¬ x1 = 1 ∧ ¬ x1 = 2 ∧ r = (-2) ∧ h' = h)))
  refine aw_iload_n (i := 1) rfl d_X11_fault_0 1 rfl ?_
  by_cases e1 : x1 = 0
  · refine aw_tableIn (off := 27) (tgt := 28) d_X11_fault_1 (by rw [e1]; decide) (by rw [e1]; decide) (by rw [e1]; decide) rfl ?_
    refine aw_aload_n (i := 0) rfl d_X11_fault_28 0 rfl ?_
    refine aw_getr (k0 := 2) kc_11 (ws_0 w) (Nat.le_of_ble_eq_true rfl) tw_489 d_X11_fault_29 rfl (wr_0_2 w) ?_
    refine aw_Vi 11 [] [] d_X11_fault_32 (cV_X8_readBeat (d + 3) 0 0) kc_8 (ws_11 w) tw_669 rfl (rr0 (Nat.le_of_ble_eq_true rfl) (Nat.le_of_ble_eq_true rfl)) (Nat.le_of_ble_eq_true rfl) xs0 (f_X8_readBeat_10 d h w e_11_1 ) (fun r2 h3 kk => ?_)
    obtain ⟨ez8, ez9⟩ := kk
    obtain rfl := ez8.symm
    obtain rfl := ez9.symm
    have w4 : Wf (h_rm (h_im (h_im h 11 2 0) 11 3 (-1)) 11 4 (some 1000)) := Wf_rm (h := (h_im (h_im h 11 2 0) 11 3 (-1))) w (by decide +kernel)
    exact aw_iret rfl d_X11_fault_35 ⟨Nat.le_refl _, Nat.le_refl _⟩ ⟨_, rfl, (Or.inl ⟨e1, rfl, rfl⟩)⟩
  by_cases e5 : x1 = 1
  · refine aw_tableIn (off := 35) (tgt := 36) d_X11_fault_1 (by rw [e5]; decide) (by rw [e5]; decide) (by rw [e5]; decide) rfl ?_
    refine aw_aload_n (i := 0) rfl d_X11_fault_36 0 rfl ?_
    refine aw_getr (k0 := 2) kc_11 (ws_0 w) (Nat.le_of_ble_eq_true rfl) tw_489 d_X11_fault_37 rfl (wr_0_2 w) ?_
    refine aw_iconst (v := 1) d_X11_fault_40 ic_1 ?_
    refine aw_Vi 11 [.int 1] [] d_X11_fault_41 (cV_X8_readRule (d + 7) 0 0) kc_8 (ws_11 w) tw_723 rfl (rr0 (Nat.le_of_ble_eq_true rfl) (Nat.le_of_ble_eq_true rfl)) (Nat.le_of_ble_eq_true rfl) xs0 (f_X8_readRule_19 d h w e_11_1 ) (fun r6 h7 kk => ?_)
    obtain ⟨ez8, ez9⟩ := kk
    obtain rfl := ez8.symm
    obtain rfl := ez9.symm
    have w8 : Wf (h_rm (h_im (h_im h 11 2 0) 11 3 (-1)) 11 4 (some 1001)) := Wf_rm (h := (h_im (h_im h 11 2 0) 11 3 (-1))) w (by decide +kernel)
    exact aw_iret rfl d_X11_fault_44 ⟨Nat.le_refl _, Nat.le_refl _⟩ ⟨_, rfl, (Or.inr (Or.inl ⟨e5, rfl, rfl⟩))⟩
  by_cases e9 : x1 = 2
  · refine aw_tableIn (off := 44) (tgt := 45) d_X11_fault_1 (by rw [e9]; decide) (by rw [e9]; decide) (by rw [e9]; decide) rfl ?_
    refine aw_aload_n (i := 0) rfl d_X11_fault_45 0 rfl ?_
    refine aw_getr (k0 := 2) kc_11 (ws_0 w) (Nat.le_of_ble_eq_true rfl) tw_489 d_X11_fault_46 rfl (wr_0_2 w) ?_
    refine aw_iconst (v := 0) d_X11_fault_49 ic_0 ?_
    refine aw_Vi 11 [.int 0] [] d_X11_fault_50 (cV_X8_readRule (d + 5) 0 0) kc_8 (ws_11 w) tw_723 rfl (rr0 (Nat.le_of_ble_eq_true rfl) (Nat.le_of_ble_eq_true rfl)) (Nat.le_of_ble_eq_true rfl) xs0 (f_X8_readRule_22 d h w e_11_1 ) (fun r10 h11 kk => ?_)
    obtain ⟨ez8, ez9⟩ := kk
    obtain rfl := ez8.symm
    obtain rfl := ez9.symm
    have w12 : Wf (h_rm (h_im (h_im h 11 2 0) 11 3 (-1)) 11 4 (some 1002)) := Wf_rm (h := (h_im (h_im h 11 2 0) 11 3 (-1))) w (by decide +kernel)
    exact aw_iret rfl d_X11_fault_53 ⟨Nat.le_refl _, Nat.le_refl _⟩ ⟨_, rfl, (Or.inr (Or.inr (Or.inl ⟨e9, rfl, rfl⟩)))⟩
  have n13 := sw_ne (0) (by decide) e1
  have n14 := sw_ne (1) (by decide) e5
  have n15 := sw_ne (2) (by decide) e9
  refine aw_tableOut (tgt := 54) d_X11_fault_1 (by omega) rfl ?_
  refine aw_bipush (v := (-2)) d_X11_fault_54 ib_m2 ?_
  exact aw_iret rfl d_X11_fault_56 ⟨Nat.le_refl _, Nat.le_refl _⟩ ⟨_, rfl, (Or.inr (Or.inr (Or.inr ⟨e1, e5, e9, rfl, rfl⟩)))⟩
theorem f_X11_beat (d : Nat) (h : Hp_) (w : Wf h) (e_11_1 : h_i h 11 1 = 0)   : Ci (m_X11_beat (d + 4) 0 0) [.ref 0] h (fun r h' => (r = (-1) ∧ h' = h_im (h_im (h_im (h_im (h_rm (h_im (h_im h 11 2 0) 11 3 (-1)) 11 4 (some 1000)) 11 6 0) 11 7 0) 11 9 0) 11 3 0)) := by
  refine Ct.of (fun _ _ _ => trivial) rfl (Nat.le_of_ble_eq_true rfl) ?_
  show AW (m_X11_beat (d + 4) 0 0) 0 0 0 [(0, .ref 0)] [] h (kI (fun r h' => (r = (-1) ∧ h' = h_im (h_im (h_im (h_im (h_rm (h_im (h_im h 11 2 0) 11 3 (-1)) 11 4 (some 1000)) 11 6 0) 11 7 0) 11 9 0) 11 3 0)))
  refine aw_aload_n (i := 0) rfl d_X11_beat_0 0 rfl ?_
  refine aw_getr (k0 := 2) kc_11 (ws_0 w) (Nat.le_of_ble_eq_true rfl) tw_489 d_X11_beat_1 rfl (wr_0_2 w) ?_
  refine aw_Vi 11 [] [] d_X11_beat_4 (cV_X8_readBeat (d + 3) 0 0) kc_8 (ws_11 w) tw_669 rfl (rr0 (Nat.le_of_ble_eq_true rfl) (Nat.le_of_ble_eq_true rfl)) (Nat.le_of_ble_eq_true rfl) xs0 (f_X8_readBeat_10 d h w e_11_1 ) (fun r1 h2 kk => ?_)
  obtain ⟨ez8, ez9⟩ := kk
  obtain rfl := ez8.symm
  obtain rfl := ez9.symm
  have w3 : Wf (h_rm (h_im (h_im h 11 2 0) 11 3 (-1)) 11 4 (some 1000)) := Wf_rm (h := (h_im (h_im h 11 2 0) 11 3 (-1))) w (by decide +kernel)
  refine aw_iconst (v := (-1)) d_X11_beat_7 ic_m1 ?_
  refine aw_icmp_eq (tgt := 13) d_X11_beat_8 rfl (fun c => absurd c (by decide)) (fun _ => ?_)
  refine aw_iconst (v := (-1)) d_X11_beat_11 ic_m1 ?_
  exact aw_iret rfl d_X11_beat_12 ⟨Nat.le_refl _, Nat.le_refl _⟩ ⟨_, rfl, ⟨rfl, rfl⟩⟩
theorem f_X0_has_25 (d : Nat) (h : Hp_) (w : Wf h) (e_12_3 : h_i h 12 3 = 0)  (x1 : Int32) : Ci (m_X0_has (d + 0) 0 0) [.ref 12, .int x1] h (fun r h' => (x1 < 0 ∧ r = 0 ∧ h' = h) ∨ (¬ x1 < 0 ∧ r = 0 ∧ h' = h)) := by
  refine Ct.of (fun _ _ _ => trivial) rfl (Nat.le_of_ble_eq_true rfl) ?_
  show AW (m_X0_has (d + 0) 0 0) 0 0 0 [(0, .ref 12), (1, .int x1)] [] h (kI (fun r h' => (x1 < 0 ∧ r = 0 ∧ h' = h) ∨ (¬ x1 < 0 ∧ r = 0 ∧ h' = h)))
  refine aw_iload_n (i := 1) rfl d_X0_has_0 1 rfl ?_
  refine aw_if_lt (tgt := 16) d_X0_has_1 rfl (fun c1 => ?_) (fun c1 => ?_)
  · refine aw_iconst (v := 0) d_X0_has_16 ic_0 ?_
    exact aw_zret rfl rfl d_X0_has_17 ⟨Nat.le_refl _, Nat.le_refl _⟩ ⟨_, rfl, (Or.inl ⟨c1, rfl, rfl⟩)⟩
  · refine aw_iload_n (i := 1) rfl d_X0_has_4 1 rfl ?_
    refine aw_aload_n (i := 0) rfl d_X0_has_5 0 rfl ?_
    refine aw_geti (k0 := 3) kc_0 (ws_12 w) (Nat.le_of_ble_eq_true rfl) tw_106 d_X0_has_6 rfl ?_
    refine aw_vi (v2 := 0) e_12_3 ?_
    refine aw_icmp_ge (tgt := 16) d_X0_has_9 rfl (fun c2 => ?_) (fun c2 => (by exfalso; grind))
    refine aw_iconst (v := 0) d_X0_has_16 ic_0 ?_
    exact aw_zret rfl rfl d_X0_has_17 ⟨Nat.le_refl _, Nat.le_refl _⟩ ⟨_, rfl, (Or.inr ⟨c1, rfl, rfl⟩)⟩
theorem f_X11_beaten (d : Nat) (h : Hp_) (w : Wf h) (e_12_3 : h_i h 12 3 = 0)  (x1 : Int32) (x2 : Int32) : Ci (m_X11_beaten (d + 1) 0 0) [.ref 0, .int x1, .int x2] h (fun r h' => (x1 < 0 ∧ r = (-1) ∧ h' = h) ∨ (¬ x1 < 0 ∧ r = (-1) ∧ h' = h)) := by
  refine Ct.of (fun _ _ _ => trivial) rfl (Nat.le_of_ble_eq_true rfl) ?_
  show AW (m_X11_beaten (d + 1) 0 0) 0 0 0 [(0, .ref 0), (1, .int x1), (2, .int x2)] [] h (kI (fun r h' => (x1 < 0 ∧ r = (-1) ∧ h' = h) ∨ (¬ x1 < 0 ∧ r = (-1) ∧ h' = h)))
  refine aw_aload_n (i := 0) rfl d_X11_beaten_0 0 rfl ?_
  refine aw_getr (k0 := 3) kc_11 (ws_0 w) (Nat.le_of_ble_eq_true rfl) tw_490 d_X11_beaten_1 rfl (wr_0_3 w) ?_
  refine aw_iload_n (i := 1) rfl d_X11_beaten_4 1 rfl ?_
  refine aw_Vi 12 [.int x1] [] d_X11_beaten_5 (cV_X0_has (d + 0) 0 0) kc_0 (ws_12 w) tw_887 rfl (rr0 (Nat.le_of_ble_eq_true rfl) (Nat.le_of_ble_eq_true rfl)) (Nat.le_of_ble_eq_true rfl) xs0 (f_X0_has_25 d h w e_12_3 x1) (fun r1 h2 kk => ?_)
  rcases kk with ⟨c3, ez8, ez9⟩ | ⟨c4, ez8, ez9⟩
  · obtain rfl := ez8.symm
    obtain rfl := ez9.symm
    refine aw_if_ne (tgt := 13) d_X11_beaten_8 rfl (fun c => absurd c (by decide)) (fun _ => ?_)
    refine aw_iconst (v := (-1)) d_X11_beaten_11 ic_m1 ?_
    exact aw_iret rfl d_X11_beaten_12 ⟨Nat.le_refl _, Nat.le_refl _⟩ ⟨_, rfl, (Or.inl ⟨c3, rfl, rfl⟩)⟩
  · obtain rfl := ez8.symm
    obtain rfl := ez9.symm
    refine aw_if_ne (tgt := 13) d_X11_beaten_8 rfl (fun c => absurd c (by decide)) (fun _ => ?_)
    refine aw_iconst (v := (-1)) d_X11_beaten_11 ic_m1 ?_
    exact aw_iret rfl d_X11_beaten_12 ⟨Nat.le_refl _, Nat.le_refl _⟩ ⟨_, rfl, (Or.inr ⟨c4, rfl, rfl⟩)⟩
theorem f_X11_manOf_27 (d : Nat) (h : Hp_) (w : Wf h) (e_0_7 : h_i h 0 7 = 0)  (x1 : Int32) : Cr (m_X11_manOf (d + 1) 0 0) [.ref 0, .int x1] h (fun r h' => (r = none ∧ h' = h)) := by
  refine Ct.of (fun _ _ _ => trivial) rfl (Nat.le_of_ble_eq_true rfl) ?_
  show AW (m_X11_manOf (d + 1) 0 0) 0 0 0 [(0, .ref 0), (1, .int x1)] [] h (kR (fun r h' => (r = none ∧ h' = h)))
  refine aw_iload_n (i := 1) rfl d_X11_manOf_0 1 rfl ?_
  refine aw_iconst (v := 0) d_X11_manOf_1 ic_0 ?_
  refine aw_aload_n (i := 0) rfl d_X11_manOf_2 0 rfl ?_
  refine aw_geti (k0 := 7) kc_11 (ws_0 w) (Nat.le_of_ble_eq_true rfl) tw_494 d_X11_manOf_3 rfl ?_
  refine aw_vi (v2 := 0) e_0_7 ?_
  refine aw_iconst (v := 1) d_X11_manOf_6 ic_1 ?_
  refine aw_isub d_X11_manOf_7 ?_
  refine aw_vi (v2 := (-1)) (by decide) ?_
  refine aw_Si [.int x1, .int 0, .int (-1)] [] d_X11_manOf_8 (cS_X11_within (d + 0) 0 0) tw_543 rfl (rr0 (Nat.le_of_ble_eq_true rfl) (Nat.le_of_ble_eq_true rfl)) (Nat.le_of_ble_eq_true rfl) xs0 (s_X11_within _ _ x1 0 (-1)) (fun _ _ kk => ?_)
  obtain ⟨e1, e2⟩ := kk
  rw [e1, e2]
  have c3 : ¬ (0 ≤ x1 ∧ x1 ≤ (-1)) := (by intro c3; grind)
  refine aw_vi (v2 := 0) (bI_0.mpr c3) ?_
  refine aw_if_eq (tgt := 23) d_X11_manOf_11 rfl (fun _ => ?_) (fun c => absurd c (by decide))
  refine aw_null d_X11_manOf_23 ?_
  exact aw_aretN rfl (Or.inl ⟨_, rfl⟩) d_X11_manOf_24 ⟨Nat.le_refl _, Nat.le_refl _⟩ ⟨none, rfl, ⟨rfl, rfl⟩⟩
theorem f_X11_begin (d : Nat) (h : Hp_) (w : Wf h) (e_0_7 : h_i h 0 7 = 0)  (x1 : Int32) (x2 : Int32) : Ci (m_X11_begin (d + 2) 0 0) [.ref 0, .int x1, .int x2] h (fun r h' => (r = 0 ∧ h' = h)) := by
  refine Ct.of (fun _ _ _ => trivial) rfl (Nat.le_of_ble_eq_true rfl) ?_
  show AW (m_X11_begin (d + 2) 0 0) 0 0 0 [(0, .ref 0), (1, .int x1), (2, .int x2)] [] h (kI (fun r h' => (r = 0 ∧ h' = h)))
  refine aw_aload_n (i := 0) rfl d_X11_begin_0 0 rfl ?_
  refine aw_iload_n (i := 1) rfl d_X11_begin_1 1 rfl ?_
  refine aw_Vr 0 [.int x1] [] d_X11_begin_2 (cV_X11_manOf (d + 1) 0 0) kc_11 (ws_0 w) tw_904 rfl (rr0 (Nat.le_of_ble_eq_true rfl) (Nat.le_of_ble_eq_true rfl)) (Nat.le_of_ble_eq_true rfl) xs0 (f_X11_manOf_27 d h w e_0_7 x1) (fun h2 kk => ?_) (fun b9 h2 kk => ?_)
  rotate_left
  · exact absurd kk (by simp)
  obtain ⟨_, ez9⟩ := kk
  obtain rfl := ez9.symm
  refine aw_astore_nN (i := 3) rfl [(0, .ref 0), (1, .int x1), (2, .int x2), (3, .null)] d_X11_begin_5 (Nat.le_of_ble_eq_true rfl) rfl rfl ?_
  refine aw_aload_nN (i := 3) rfl d_X11_begin_6 3 rfl ?_
  refine aw_ifnullN (tgt := 46) d_X11_begin_7 rfl ?_
  refine aw_iconst (v := 0) d_X11_begin_46 ic_0 ?_
  exact aw_zret rfl rfl d_X11_begin_47 ⟨Nat.le_refl _, Nat.le_refl _⟩ ⟨_, rfl, ⟨rfl, rfl⟩⟩
theorem f_X11_draw (d : Nat) (h : Hp_) (w : Wf h) (e_0_7 : h_i h 0 7 = 0)  (x1 : Int32) (x2 : Int32) (x3 : Int32) : Ci (m_X11_draw (d + 2) 0 0) [.ref 0, .int x1, .int x2, .int x3] h (fun r h' => (r = 0 ∧ h' = h)) := by
  refine Ct.of (fun _ _ _ => trivial) rfl (Nat.le_of_ble_eq_true rfl) ?_
  show AW (m_X11_draw (d + 2) 0 0) 0 0 0 [(0, .ref 0), (1, .int x1), (2, .int x2), (3, .int x3)] [] h (kI (fun r h' => (r = 0 ∧ h' = h)))
  refine aw_aload_n (i := 0) rfl d_X11_draw_0 0 rfl ?_
  refine aw_iload_n (i := 1) rfl d_X11_draw_1 1 rfl ?_
  refine aw_Vr 0 [.int x1] [] d_X11_draw_2 (cV_X11_manOf (d + 1) 0 0) kc_11 (ws_0 w) tw_904 rfl (rr0 (Nat.le_of_ble_eq_true rfl) (Nat.le_of_ble_eq_true rfl)) (Nat.le_of_ble_eq_true rfl) xs0 (f_X11_manOf_27 d h w e_0_7 x1) (fun h2 kk => ?_) (fun b9 h2 kk => ?_)
  rotate_left
  · exact absurd kk (by simp)
  obtain ⟨_, ez9⟩ := kk
  obtain rfl := ez9.symm
  refine aw_astoreN [(0, .ref 0), (1, .int x1), (2, .int x2), (3, .int x3), (4, .null)] d_X11_draw_5 (Nat.le_of_ble_eq_true rfl) rfl rfl ?_
  refine aw_aloadN d_X11_draw_7 4 rfl ?_
  refine aw_ifnullN (tgt := 33) d_X11_draw_9 rfl ?_
  refine aw_iconst (v := 0) d_X11_draw_33 ic_0 ?_
  exact aw_zret rfl rfl d_X11_draw_34 ⟨Nat.le_refl _, Nat.le_refl _⟩ ⟨_, rfl, ⟨rfl, rfl⟩⟩
theorem f_X11_ill (d : Nat) (h : Hp_) (w : Wf h) (e_0_7 : h_i h 0 7 = 0)  (x1 : Int32) (x2 : Int32) : Ci (m_X11_ill (d + 2) 0 0) [.ref 0, .int x1, .int x2] h (fun r h' => (r = 0 ∧ h' = h)) := by
  refine Ct.of (fun _ _ _ => trivial) rfl (Nat.le_of_ble_eq_true rfl) ?_
  show AW (m_X11_ill (d + 2) 0 0) 0 0 0 [(0, .ref 0), (1, .int x1), (2, .int x2)] [] h (kI (fun r h' => (r = 0 ∧ h' = h)))
  refine aw_aload_n (i := 0) rfl d_X11_ill_0 0 rfl ?_
  refine aw_iload_n (i := 1) rfl d_X11_ill_1 1 rfl ?_
  refine aw_Vr 0 [.int x1] [] d_X11_ill_2 (cV_X11_manOf (d + 1) 0 0) kc_11 (ws_0 w) tw_904 rfl (rr0 (Nat.le_of_ble_eq_true rfl) (Nat.le_of_ble_eq_true rfl)) (Nat.le_of_ble_eq_true rfl) xs0 (f_X11_manOf_27 d h w e_0_7 x1) (fun h2 kk => ?_) (fun b9 h2 kk => ?_)
  rotate_left
  · exact absurd kk (by simp)
  obtain ⟨_, ez9⟩ := kk
  obtain rfl := ez9.symm
  refine aw_astore_nN (i := 3) rfl [(0, .ref 0), (1, .int x1), (2, .int x2), (3, .null)] d_X11_ill_5 (Nat.le_of_ble_eq_true rfl) rfl rfl ?_
  refine aw_aload_nN (i := 3) rfl d_X11_ill_6 3 rfl ?_
  refine aw_ifnullN (tgt := 27) d_X11_ill_7 rfl ?_
  refine aw_iconst (v := 0) d_X11_ill_27 ic_0 ?_
  exact aw_zret rfl rfl d_X11_ill_28 ⟨Nat.le_refl _, Nat.le_refl _⟩ ⟨_, rfl, ⟨rfl, rfl⟩⟩
theorem f_X11_isMan_31 (d : Nat) (h : Hp_) (w : Wf h) (e_0_7 : h_i h 0 7 = 0)  (x1 : Int32) : Ci (m_X11_isMan (d + 2) 0 0) [.ref 0, .int x1] h (fun r h' => (r = 0 ∧ h' = h)) := by
  refine Ct.of (fun _ _ _ => trivial) rfl (Nat.le_of_ble_eq_true rfl) ?_
  show AW (m_X11_isMan (d + 2) 0 0) 0 0 0 [(0, .ref 0), (1, .int x1)] [] h (kI (fun r h' => (r = 0 ∧ h' = h)))
  refine aw_aload_n (i := 0) rfl d_X11_isMan_0 0 rfl ?_
  refine aw_iload_n (i := 1) rfl d_X11_isMan_1 1 rfl ?_
  refine aw_Vr 0 [.int x1] [] d_X11_isMan_2 (cV_X11_manOf (d + 1) 0 0) kc_11 (ws_0 w) tw_904 rfl (rr0 (Nat.le_of_ble_eq_true rfl) (Nat.le_of_ble_eq_true rfl)) (Nat.le_of_ble_eq_true rfl) xs0 (f_X11_manOf_27 d h w e_0_7 x1) (fun h2 kk => ?_) (fun b9 h2 kk => ?_)
  rotate_left
  · exact absurd kk (by simp)
  obtain ⟨_, ez9⟩ := kk
  obtain rfl := ez9.symm
  refine aw_ifnullN (tgt := 12) d_X11_isMan_5 rfl ?_
  refine aw_iconst (v := 0) d_X11_isMan_12 ic_0 ?_
  exact aw_zret rfl rfl d_X11_isMan_13 ⟨Nat.le_refl _, Nat.le_refl _⟩ ⟨_, rfl, ⟨rfl, rfl⟩⟩
theorem f_X11_was (d : Nat) (h : Hp_) (w : Wf h) (e_0_7 : h_i h 0 7 = 0)  (x1 : Int32) (x2 : Int32) : Ci (m_X11_was (d + 3) 0 0) [.ref 0, .int x1, .int x2] h (fun r h' => (r = (-1) ∧ h' = h)) := by
  refine Ct.of (fun _ _ _ => trivial) rfl (Nat.le_of_ble_eq_true rfl) ?_
  show AW (m_X11_was (d + 3) 0 0) 0 0 0 [(0, .ref 0), (1, .int x1), (2, .int x2)] [] h (kI (fun r h' => (r = (-1) ∧ h' = h)))
  refine aw_aload_n (i := 0) rfl d_X11_was_0 0 rfl ?_
  refine aw_iload_n (i := 1) rfl d_X11_was_1 1 rfl ?_
  refine aw_Vi 0 [.int x1] [] d_X11_was_2 (cV_X11_isMan (d + 2) 0 0) kc_11 (ws_0 w) tw_1098 rfl (rr0 (Nat.le_of_ble_eq_true rfl) (Nat.le_of_ble_eq_true rfl)) (Nat.le_of_ble_eq_true rfl) xs0 (f_X11_isMan_31 d h w e_0_7 x1) (fun r1 h2 kk => ?_)
  obtain ⟨ez8, ez9⟩ := kk
  obtain rfl := ez8.symm
  obtain rfl := ez9.symm
  refine aw_if_eq (tgt := 16) d_X11_was_5 rfl (fun _ => ?_) (fun c => absurd c (by decide))
  refine aw_iconst (v := (-1)) d_X11_was_16 ic_m1 ?_
  exact aw_iret rfl d_X11_was_17 ⟨Nat.le_refl _, Nat.le_refl _⟩ ⟨_, rfl, ⟨rfl, rfl⟩⟩
theorem f_X11_isKnown_33 (d : Nat) (h : Hp_) (w : Wf h) (e_0_0 : h_i h 0 0 = 0)  (x1 : Int32) : Ci (m_X11_isKnown (d + 1) 0 0) [.ref 0, .int x1] h (fun r h' => (r = (bI (0 ≤ x1 ∧ x1 ≤ 0)) ∧ h' = h)) := by
  refine Ct.of (fun _ _ _ => trivial) rfl (Nat.le_of_ble_eq_true rfl) ?_
  show AW (m_X11_isKnown (d + 1) 0 0) 0 0 0 [(0, .ref 0), (1, .int x1)] [] h (kI (fun r h' => (r = (bI (0 ≤ x1 ∧ x1 ≤ 0)) ∧ h' = h)))
  refine aw_iload_n (i := 1) rfl d_X11_isKnown_0 1 rfl ?_
  refine aw_iconst (v := 0) d_X11_isKnown_1 ic_0 ?_
  refine aw_aload_n (i := 0) rfl d_X11_isKnown_2 0 rfl ?_
  refine aw_geti (k0 := 0) kc_11 (ws_0 w) (Nat.le_of_ble_eq_true rfl) tw_487 d_X11_isKnown_3 rfl ?_
  refine aw_vi (v2 := 0) e_0_0 ?_
  refine aw_Si [.int x1, .int 0, .int 0] [] d_X11_isKnown_6 (cS_X11_within (d + 0) 0 0) tw_543 rfl (rr0 (Nat.le_of_ble_eq_true rfl) (Nat.le_of_ble_eq_true rfl)) (Nat.le_of_ble_eq_true rfl) xs0 (s_X11_within _ _ x1 0 0) (fun _ _ kk => ?_)
  obtain ⟨e1, e2⟩ := kk
  rw [e1, e2]
  exact aw_zret rfl (bI_nar _) d_X11_isKnown_9 ⟨Nat.le_refl _, Nat.le_refl _⟩ ⟨_, rfl, ⟨rfl, rfl⟩⟩
theorem f_X7_has_34 (d : Nat) (h : Hp_) (w : Wf h) (e_16_7 : h_i h 16 7 = 0)  (x1 : Int32) : Ci (m_X7_has (d + 0) 0 0) [.ref 16, .int x1] h (fun r h' => (x1 < 0 ∧ r = 0 ∧ h' = h) ∨ (¬ x1 < 0 ∧ r = 0 ∧ h' = h)) := by
  refine Ct.of (fun _ _ _ => trivial) rfl (Nat.le_of_ble_eq_true rfl) ?_
  show AW (m_X7_has (d + 0) 0 0) 0 0 0 [(0, .ref 16), (1, .int x1)] [] h (kI (fun r h' => (x1 < 0 ∧ r = 0 ∧ h' = h) ∨ (¬ x1 < 0 ∧ r = 0 ∧ h' = h)))
  refine aw_iload_n (i := 1) rfl d_X7_has_0 1 rfl ?_
  refine aw_if_lt (tgt := 16) d_X7_has_1 rfl (fun c1 => ?_) (fun c1 => ?_)
  · refine aw_iconst (v := 0) d_X7_has_16 ic_0 ?_
    exact aw_zret rfl rfl d_X7_has_17 ⟨Nat.le_refl _, Nat.le_refl _⟩ ⟨_, rfl, (Or.inl ⟨c1, rfl, rfl⟩)⟩
  · refine aw_iload_n (i := 1) rfl d_X7_has_4 1 rfl ?_
    refine aw_aload_n (i := 0) rfl d_X7_has_5 0 rfl ?_
    refine aw_geti (k0 := 7) kc_7 (ws_16 w) (Nat.le_of_ble_eq_true rfl) tw_159 d_X7_has_6 rfl ?_
    refine aw_vi (v2 := 0) e_16_7 ?_
    refine aw_icmp_ge (tgt := 16) d_X7_has_9 rfl (fun c2 => ?_) (fun c2 => (by exfalso; grind))
    refine aw_iconst (v := 0) d_X7_has_16 ic_0 ?_
    exact aw_zret rfl rfl d_X7_has_17 ⟨Nat.le_refl _, Nat.le_refl _⟩ ⟨_, rfl, (Or.inr ⟨c1, rfl, rfl⟩)⟩
theorem f_X11_point (d : Nat) (h : Hp_) (w : Wf h) (e_0_0 : h_i h 0 0 = 0) (e_16_7 : h_i h 16 7 = 0)  (x1 : Int32) (x2 : Int32) (x3 : Int32) : Ci (m_X11_point (d + 2) 0 0) [.ref 0, .int x1, .int x2, .int x3] h (fun r h' => (¬ (0 ≤ x2 ∧ x2 ≤ 0) ∧ r = (-1) ∧ h' = h) ∨ ((0 ≤ x2 ∧ x2 ≤ 0) ∧ x1 < 0 ∧ r = (-1) ∧ h' = h) ∨ ((0 ≤ x2 ∧ x2 ≤ 0) ∧ ¬ x1 < 0 ∧ r = (-1) ∧ h' = h)) := by
  refine Ct.of (fun _ _ _ => trivial) rfl (Nat.le_of_ble_eq_true rfl) ?_
  show AW (m_X11_point (d + 2) 0 0) 0 0 0 [(0, .ref 0), (1, .int x1), (2, .int x2), (3, .int x3)] [] h (kI (fun r h' => (¬ (0 ≤ x2 ∧ x2 ≤ 0) ∧ r = (-1) ∧ h' = h) ∨ ((0 ≤ x2 ∧ x2 ≤ 0) ∧ x1 < 0 ∧ r = (-1) ∧ h' = h) ∨ ((0 ≤ x2 ∧ x2 ≤ 0) ∧ ¬ x1 < 0 ∧ r = (-1) ∧ h' = h)))
  refine aw_aload_n (i := 0) rfl d_X11_point_0 0 rfl ?_
  refine aw_iload_n (i := 2) rfl d_X11_point_1 2 rfl ?_
  refine aw_Vi 0 [.int x2] [] d_X11_point_2 (cV_X11_isKnown (d + 1) 0 0) kc_11 (ws_0 w) tw_1102 rfl (rr0 (Nat.le_of_ble_eq_true rfl) (Nat.le_of_ble_eq_true rfl)) (Nat.le_of_ble_eq_true rfl) xs0 (f_X11_isKnown_33 d h w e_0_0 x2) (fun r1 h2 kk => ?_)
  obtain ⟨ez8, ez9⟩ := kk
  obtain rfl := ez8.symm
  obtain rfl := ez9.symm
  refine aw_ifb_eq (tgt := 32) d_X11_point_5 rfl (fun c3 => ?_) (fun c3 => ?_)
  · refine aw_iconst (v := (-1)) d_X11_point_32 ic_m1 ?_
    exact aw_iret rfl d_X11_point_33 ⟨Nat.le_refl _, Nat.le_refl _⟩ ⟨_, rfl, (Or.inl ⟨c3, rfl, rfl⟩)⟩
  · refine aw_aload_n (i := 0) rfl d_X11_point_8 0 rfl ?_
    refine aw_getr (k0 := 8) kc_11 (ws_0 w) (Nat.le_of_ble_eq_true rfl) tw_495 d_X11_point_9 rfl (wr_0_8 w) ?_
    refine aw_iload_n (i := 1) rfl d_X11_point_12 1 rfl ?_
    refine aw_Vi 16 [.int x1] [] d_X11_point_13 (cV_X7_has (d + 0) 0 0) kc_7 (ws_16 w) tw_1114 rfl (rr0 (Nat.le_of_ble_eq_true rfl) (Nat.le_of_ble_eq_true rfl)) (Nat.le_of_ble_eq_true rfl) xs0 (f_X7_has_34 d h w e_16_7 x1) (fun r4 h5 kk => ?_)
    rcases kk with ⟨c6, ez8, ez9⟩ | ⟨c7, ez8, ez9⟩
    · obtain rfl := ez8.symm
      obtain rfl := ez9.symm
      refine aw_if_eq (tgt := 32) d_X11_point_16 rfl (fun _ => ?_) (fun c => absurd c (by decide))
      refine aw_iconst (v := (-1)) d_X11_point_32 ic_m1 ?_
      exact aw_iret rfl d_X11_point_33 ⟨Nat.le_refl _, Nat.le_refl _⟩ ⟨_, rfl, (Or.inr (Or.inl ⟨c3, c6, rfl, rfl⟩))⟩
    · obtain rfl := ez8.symm
      obtain rfl := ez9.symm
      refine aw_if_eq (tgt := 32) d_X11_point_16 rfl (fun _ => ?_) (fun c => absurd c (by decide))
      refine aw_iconst (v := (-1)) d_X11_point_32 ic_m1 ?_
      exact aw_iret rfl d_X11_point_33 ⟨Nat.le_refl _, Nat.le_refl _⟩ ⟨_, rfl, (Or.inr (Or.inr ⟨c3, c7, rfl, rfl⟩))⟩
theorem f_X11_cause (d : Nat) (h : Hp_) (w : Wf h) (e_16_7 : h_i h 16 7 = 0)  (x1 : Int32) (x2 : Int32) : Ci (m_X11_cause (d + 1) 0 0) [.ref 0, .int x1, .int x2] h (fun r h' => (x1 < 0 ∧ r = 0 ∧ h' = h) ∨ (¬ x1 < 0 ∧ r = 0 ∧ h' = h)) := by
  refine Ct.of (fun _ _ _ => trivial) rfl (Nat.le_of_ble_eq_true rfl) ?_
  show AW (m_X11_cause (d + 1) 0 0) 0 0 0 [(0, .ref 0), (1, .int x1), (2, .int x2)] [] h (kI (fun r h' => (x1 < 0 ∧ r = 0 ∧ h' = h) ∨ (¬ x1 < 0 ∧ r = 0 ∧ h' = h)))
  refine aw_aload_n (i := 0) rfl d_X11_cause_0 0 rfl ?_
  refine aw_getr (k0 := 8) kc_11 (ws_0 w) (Nat.le_of_ble_eq_true rfl) tw_495 d_X11_cause_1 rfl (wr_0_8 w) ?_
  refine aw_iload_n (i := 1) rfl d_X11_cause_4 1 rfl ?_
  refine aw_Vi 16 [.int x1] [] d_X11_cause_5 (cV_X7_has (d + 0) 0 0) kc_7 (ws_16 w) tw_1114 rfl (rr0 (Nat.le_of_ble_eq_true rfl) (Nat.le_of_ble_eq_true rfl)) (Nat.le_of_ble_eq_true rfl) xs0 (f_X7_has_34 d h w e_16_7 x1) (fun r1 h2 kk => ?_)
  rcases kk with ⟨c3, ez8, ez9⟩ | ⟨c4, ez8, ez9⟩
  · obtain rfl := ez8.symm
    obtain rfl := ez9.symm
    refine aw_if_eq (tgt := 41) d_X11_cause_8 rfl (fun _ => ?_) (fun c => absurd c (by decide))
    refine aw_iconst (v := 0) d_X11_cause_41 ic_0 ?_
    exact aw_zret rfl rfl d_X11_cause_42 ⟨Nat.le_refl _, Nat.le_refl _⟩ ⟨_, rfl, (Or.inl ⟨c3, rfl, rfl⟩)⟩
  · obtain rfl := ez8.symm
    obtain rfl := ez9.symm
    refine aw_if_eq (tgt := 41) d_X11_cause_8 rfl (fun _ => ?_) (fun c => absurd c (by decide))
    refine aw_iconst (v := 0) d_X11_cause_41 ic_0 ?_
    exact aw_zret rfl rfl d_X11_cause_42 ⟨Nat.le_refl _, Nat.le_refl _⟩ ⟨_, rfl, (Or.inr ⟨c4, rfl, rfl⟩)⟩
theorem f_X7_countCause_37 (d : Nat) (h : Hp_) (w : Wf h) (e_16_7 : h_i h 16 7 = 0)  (x1 : Int32) (x2 : Int32) : Ci (m_X7_countCause (d + 0) 0 0) [.ref 16, .int x1, .int x2] h (fun r h' => (r = 0 ∧ h' = h)) := by
  refine Ct.of (fun _ _ _ => trivial) rfl (Nat.le_of_ble_eq_true rfl) ?_
  show AW (m_X7_countCause (d + 0) 0 0) 0 0 0 [(0, .ref 16), (1, .int x1), (2, .int x2)] [] h (kI (fun r h' => (r = 0 ∧ h' = h)))
  refine aw_iconst (v := 0) d_X7_countCause_0 ic_0 ?_
  refine aw_istore_n (i := 3) rfl [(0, .ref 16), (1, .int x1), (2, .int x2), (3, .int 0)] d_X7_countCause_1 (Nat.le_of_ble_eq_true rfl) rfl rfl ?_
  refine aw_iconst (v := 0) d_X7_countCause_2 ic_0 ?_
  refine aw_istore [(0, .ref 16), (1, .int x1), (2, .int x2), (3, .int 0), (4, .int 0)] d_X7_countCause_3 (Nat.le_of_ble_eq_true rfl) rfl rfl ?_
  refine aw_iload d_X7_countCause_5 4 rfl ?_
  refine aw_aload_n (i := 0) rfl d_X7_countCause_7 0 rfl ?_
  refine aw_geti (k0 := 7) kc_7 (ws_16 w) (Nat.le_of_ble_eq_true rfl) tw_159 d_X7_countCause_8 rfl ?_
  refine aw_vi (v2 := 0) e_16_7 ?_
  refine aw_icmp_ge (tgt := 34) d_X7_countCause_11 rfl (fun _ => ?_) (fun c => absurd c (by decide))
  refine aw_iload_n (i := 3) rfl d_X7_countCause_34 3 rfl ?_
  exact aw_iret rfl d_X7_countCause_35 ⟨Nat.le_refl _, Nat.le_refl _⟩ ⟨_, rfl, ⟨rfl, rfl⟩⟩
theorem f_X11_causes (d : Nat) (h : Hp_) (w : Wf h) (e_0_0 : h_i h 0 0 = 0) (e_16_7 : h_i h 16 7 = 0)  (x1 : Int32) (x2 : Int32) : Ci (m_X11_causes (d + 2) 0 0) [.ref 0, .int x1, .int x2] h (fun r h' => (¬ (1 ≤ x1 ∧ x1 ≤ 9) ∧ r = (-1) ∧ h' = h) ∨ ((1 ≤ x1 ∧ x1 ≤ 9) ∧ ¬ (0 ≤ x2 ∧ x2 ≤ 0) ∧ r = (-1) ∧ h' = h) ∨ ((1 ≤ x1 ∧ x1 ≤ 9) ∧ (0 ≤ x2 ∧ x2 ≤ 0) ∧ r = 0 ∧ h' = h)) := by
  refine Ct.of (fun _ _ _ => trivial) rfl (Nat.le_of_ble_eq_true rfl) ?_
  show AW (m_X11_causes (d + 2) 0 0) 0 0 0 [(0, .ref 0), (1, .int x1), (2, .int x2)] [] h (kI (fun r h' => (¬ (1 ≤ x1 ∧ x1 ≤ 9) ∧ r = (-1) ∧ h' = h) ∨ ((1 ≤ x1 ∧ x1 ≤ 9) ∧ ¬ (0 ≤ x2 ∧ x2 ≤ 0) ∧ r = (-1) ∧ h' = h) ∨ ((1 ≤ x1 ∧ x1 ≤ 9) ∧ (0 ≤ x2 ∧ x2 ≤ 0) ∧ r = 0 ∧ h' = h)))
  refine aw_iload_n (i := 1) rfl d_X11_causes_0 1 rfl ?_
  refine aw_iconst (v := 1) d_X11_causes_1 ic_1 ?_
  refine aw_bipush (v := 9) d_X11_causes_2 ib_9 ?_
  refine aw_Si [.int x1, .int 1, .int 9] [] d_X11_causes_4 (cS_X11_within (d + 0) 0 0) tw_543 rfl (rr0 (Nat.le_of_ble_eq_true rfl) (Nat.le_of_ble_eq_true rfl)) (Nat.le_of_ble_eq_true rfl) xs0 (s_X11_within _ _ x1 1 9) (fun _ _ kk => ?_)
  obtain ⟨e1, e2⟩ := kk
  rw [e1, e2]
  refine aw_ifb_eq (tgt := 30) d_X11_causes_7 rfl (fun c3 => ?_) (fun c3 => ?_)
  · refine aw_iconst (v := (-1)) d_X11_causes_30 ic_m1 ?_
    exact aw_iret rfl d_X11_causes_31 ⟨Nat.le_refl _, Nat.le_refl _⟩ ⟨_, rfl, (Or.inl ⟨c3, rfl, rfl⟩)⟩
  · refine aw_aload_n (i := 0) rfl d_X11_causes_10 0 rfl ?_
    refine aw_iload_n (i := 2) rfl d_X11_causes_11 2 rfl ?_
    refine aw_Vi 0 [.int x2] [] d_X11_causes_12 (cV_X11_isKnown (d + 1) 0 0) kc_11 (ws_0 w) tw_1102 rfl (rr0 (Nat.le_of_ble_eq_true rfl) (Nat.le_of_ble_eq_true rfl)) (Nat.le_of_ble_eq_true rfl) xs0 (f_X11_isKnown_33 d h w e_0_0 x2) (fun r4 h5 kk => ?_)
    obtain ⟨ez8, ez9⟩ := kk
    obtain rfl := ez8.symm
    obtain rfl := ez9.symm
    refine aw_ifb_eq (tgt := 30) d_X11_causes_15 rfl (fun c6 => ?_) (fun c6 => ?_)
    · refine aw_iconst (v := (-1)) d_X11_causes_30 ic_m1 ?_
      exact aw_iret rfl d_X11_causes_31 ⟨Nat.le_refl _, Nat.le_refl _⟩ ⟨_, rfl, (Or.inr (Or.inl ⟨c3, c6, rfl, rfl⟩))⟩
    · refine aw_aload_n (i := 0) rfl d_X11_causes_18 0 rfl ?_
      refine aw_getr (k0 := 8) kc_11 (ws_0 w) (Nat.le_of_ble_eq_true rfl) tw_495 d_X11_causes_19 rfl (wr_0_8 w) ?_
      refine aw_iload_n (i := 1) rfl d_X11_causes_22 1 rfl ?_
      refine aw_iload_n (i := 2) rfl d_X11_causes_23 2 rfl ?_
      refine aw_Vi 16 [.int x1, .int x2] [] d_X11_causes_24 (cV_X7_countCause (d + 0) 0 0) kc_7 (ws_16 w) tw_1143 rfl (rr0 (Nat.le_of_ble_eq_true rfl) (Nat.le_of_ble_eq_true rfl)) (Nat.le_of_ble_eq_true rfl) xs0 (f_X7_countCause_37 d h w e_16_7 x1 x2) (fun r7 h8 kk => ?_)
      obtain ⟨ez8, ez9⟩ := kk
      obtain rfl := ez8.symm
      obtain rfl := ez9.symm
      refine aw_goto (tgt := 31) d_X11_causes_27 rfl ?_
      exact aw_iret rfl d_X11_causes_31 ⟨Nat.le_refl _, Nat.le_refl _⟩ ⟨_, rfl, (Or.inr (Or.inr ⟨c3, c6, rfl, rfl⟩))⟩
theorem f_X4_addFind_39 (d : Nat) (h : Hp_) (w : Wf h) (e_17_7 : h_i h 17 7 = 0)  (x1 : Int32) (x2 : Int32) (x3 : Int32) (x4 : Int32) (x5 : Int32) : Ci (m_X4_addFind (d + 0) 0 0) [.ref 17, .int x1, .int x2, .int x3, .int x4, .int x5] h (fun r h' => (r = 0 ∧ h' = h_im (h_im (h_im (h_im (h_im (h_im h 57 (0 : Int32).toNatClampNeg x1) 58 (0 : Int32).toNatClampNeg x2) 59 (0 : Int32).toNatClampNeg x3) 60 (0 : Int32).toNatClampNeg x4) 61 (0 : Int32).toNatClampNeg x5) 17 7 1)) := by
  refine Ct.of (fun _ _ _ => trivial) rfl (Nat.le_of_ble_eq_true rfl) ?_
  show AW (m_X4_addFind (d + 0) 0 0) 0 0 0 [(0, .ref 17), (1, .int x1), (2, .int x2), (3, .int x3), (4, .int x4), (5, .int x5)] [] h (kI (fun r h' => (r = 0 ∧ h' = h_im (h_im (h_im (h_im (h_im (h_im h 57 (0 : Int32).toNatClampNeg x1) 58 (0 : Int32).toNatClampNeg x2) 59 (0 : Int32).toNatClampNeg x3) 60 (0 : Int32).toNatClampNeg x4) 61 (0 : Int32).toNatClampNeg x5) 17 7 1)))
  refine aw_aload_n (i := 0) rfl d_X4_addFind_0 0 rfl ?_
  refine aw_geti (k0 := 7) kc_4 (ws_17 w) (Nat.le_of_ble_eq_true rfl) tw_203 d_X4_addFind_1 rfl ?_
  refine aw_vi (v2 := 0) e_17_7 ?_
  refine aw_bipush (v := 80) d_X4_addFind_4 ib_80 ?_
  refine aw_icmp_lt (tgt := 11) d_X4_addFind_6 rfl (fun _ => ?_) (fun c => absurd c (by decide))
  refine aw_aload_n (i := 0) rfl d_X4_addFind_11 0 rfl ?_
  refine aw_getr (k0 := 0) kc_4 (ws_17 w) (Nat.le_of_ble_eq_true rfl) tw_196 d_X4_addFind_12 rfl (wr_17_0 w) ?_
  refine aw_aload_n (i := 0) rfl d_X4_addFind_15 0 rfl ?_
  refine aw_geti (k0 := 7) kc_4 (ws_17 w) (Nat.le_of_ble_eq_true rfl) tw_203 d_X4_addFind_16 rfl ?_
  refine aw_vi (v2 := 0) e_17_7 ?_
  refine aw_iload_n (i := 1) rfl d_X4_addFind_19 1 rfl ?_
  refine aw_iast (ws_57 w) (vin_c (by decide)) d_X4_addFind_20 ?_
  refine aw_aload_n (i := 0) rfl d_X4_addFind_21 0 rfl ?_
  refine aw_getr (k0 := 1) kc_4 (ws_17 w) (Nat.le_of_ble_eq_true rfl) tw_197 d_X4_addFind_22 rfl (wr_17_1 w) ?_
  refine aw_aload_n (i := 0) rfl d_X4_addFind_25 0 rfl ?_
  refine aw_geti (k0 := 7) kc_4 (ws_17 w) (Nat.le_of_ble_eq_true rfl) tw_203 d_X4_addFind_26 rfl ?_
  refine aw_vi (v2 := 0) e_17_7 ?_
  refine aw_iload_n (i := 2) rfl d_X4_addFind_29 2 rfl ?_
  refine aw_iast (ws_58 w) (vin_c (by decide)) d_X4_addFind_30 ?_
  refine aw_aload_n (i := 0) rfl d_X4_addFind_31 0 rfl ?_
  refine aw_getr (k0 := 2) kc_4 (ws_17 w) (Nat.le_of_ble_eq_true rfl) tw_198 d_X4_addFind_32 rfl (wr_17_2 w) ?_
  refine aw_aload_n (i := 0) rfl d_X4_addFind_35 0 rfl ?_
  refine aw_geti (k0 := 7) kc_4 (ws_17 w) (Nat.le_of_ble_eq_true rfl) tw_203 d_X4_addFind_36 rfl ?_
  refine aw_vi (v2 := 0) e_17_7 ?_
  refine aw_iload_n (i := 3) rfl d_X4_addFind_39 3 rfl ?_
  refine aw_iast (ws_59 w) (vin_c (by decide)) d_X4_addFind_40 ?_
  refine aw_aload_n (i := 0) rfl d_X4_addFind_41 0 rfl ?_
  refine aw_getr (k0 := 3) kc_4 (ws_17 w) (Nat.le_of_ble_eq_true rfl) tw_199 d_X4_addFind_42 rfl (wr_17_3 w) ?_
  refine aw_aload_n (i := 0) rfl d_X4_addFind_45 0 rfl ?_
  refine aw_geti (k0 := 7) kc_4 (ws_17 w) (Nat.le_of_ble_eq_true rfl) tw_203 d_X4_addFind_46 rfl ?_
  refine aw_vi (v2 := 0) e_17_7 ?_
  refine aw_iload d_X4_addFind_49 4 rfl ?_
  refine aw_iast (ws_60 w) (vin_c (by decide)) d_X4_addFind_51 ?_
  refine aw_aload_n (i := 0) rfl d_X4_addFind_52 0 rfl ?_
  refine aw_getr (k0 := 4) kc_4 (ws_17 w) (Nat.le_of_ble_eq_true rfl) tw_200 d_X4_addFind_53 rfl (wr_17_4 w) ?_
  refine aw_aload_n (i := 0) rfl d_X4_addFind_56 0 rfl ?_
  refine aw_geti (k0 := 7) kc_4 (ws_17 w) (Nat.le_of_ble_eq_true rfl) tw_203 d_X4_addFind_57 rfl ?_
  refine aw_vi (v2 := 0) e_17_7 ?_
  refine aw_iload d_X4_addFind_60 5 rfl ?_
  refine aw_iast (ws_61 w) (vin_c (by decide)) d_X4_addFind_62 ?_
  refine aw_aload_n (i := 0) rfl d_X4_addFind_63 0 rfl ?_
  refine aw_dup d_X4_addFind_64 rfl ?_
  refine aw_geti (k0 := 7) kc_4 (ws_17 w) (Nat.le_of_ble_eq_true rfl) tw_203 d_X4_addFind_65 rfl ?_
  refine aw_vi (v2 := 0) e_17_7 ?_
  refine aw_iconst (v := 1) d_X4_addFind_68 ic_1 ?_
  refine aw_iadd d_X4_addFind_69 ?_
  refine aw_vi (v2 := 1) (by decide) ?_
  refine aw_puti (k0 := 7) kc_4 (ws_17 w) (Nat.le_of_ble_eq_true rfl) tw_203 d_X4_addFind_70 rfl rfl nf_i ?_
  refine aw_aload_n (i := 0) rfl d_X4_addFind_73 0 rfl ?_
  refine aw_geti (k0 := 7) kc_4 (ws_17 w) (Nat.le_of_ble_eq_true rfl) tw_203 d_X4_addFind_74 rfl ?_
  refine aw_vi (v2 := 1) rfl ?_
  refine aw_iconst (v := 1) d_X4_addFind_77 ic_1 ?_
  refine aw_isub d_X4_addFind_78 ?_
  refine aw_vi (v2 := 0) (by decide) ?_
  exact aw_iret rfl d_X4_addFind_79 ⟨Nat.le_refl _, Nat.le_refl _⟩ ⟨_, rfl, ⟨rfl, rfl⟩⟩
theorem f_X11_find (d : Nat) (h : Hp_) (w : Wf h) (e_17_7 : h_i h 17 7 = 0)  (x1 : Int32) (x2 : Int32) (x3 : Int32) (x4 : Int32) (x5 : Int32) : Ci (m_X11_find (d + 1) 0 0) [.ref 0, .int x1, .int x2, .int x3, .int x4, .int x5] h (fun r h' => (¬ (0 ≤ x1 ∧ x1 ≤ 9) ∧ r = (-1) ∧ h' = h) ∨ ((0 ≤ x1 ∧ x1 ≤ 9) ∧ ¬ (0 ≤ x2 ∧ x2 < 16) ∧ r = (-1) ∧ h' = h) ∨ ((0 ≤ x1 ∧ x1 ≤ 9) ∧ (0 ≤ x2 ∧ x2 < 16) ∧ (1 ≤ x5 ∧ x5 ≤ 9) ∧ ¬ (0 ≤ x3 ∧ x3 ≤ 20000) ∧ r = (-1) ∧ h' = h) ∨ ((0 ≤ x1 ∧ x1 ≤ 9) ∧ (0 ≤ x2 ∧ x2 < 16) ∧ (1 ≤ x5 ∧ x5 ≤ 9) ∧ (0 ≤ x3 ∧ x3 ≤ 20000) ∧ (x3 ≤ x4 ∧ x4 ≤ 20000) ∧ r = 0 ∧ h' = h_im (h_im (h_im (h_im (h_im (h_im h 57 (0 : Int32).toNatClampNeg x1) 58 (0 : Int32).toNatClampNeg x2) 59 (0 : Int32).toNatClampNeg x3) 60 (0 : Int32).toNatClampNeg x4) 61 (0 : Int32).toNatClampNeg x5) 17 7 1) ∨ ((0 ≤ x1 ∧ x1 ≤ 9) ∧ (0 ≤ x2 ∧ x2 < 16) ∧ (1 ≤ x5 ∧ x5 ≤ 9) ∧ (0 ≤ x3 ∧ x3 ≤ 20000) ∧ ¬ (x3 ≤ x4 ∧ x4 ≤ 20000) ∧ r = (-1) ∧ h' = h) ∨ ((0 ≤ x1 ∧ x1 ≤ 9) ∧ (0 ≤ x2 ∧ x2 < 16) ∧ ¬ (1 ≤ x5 ∧ x5 ≤ 9) ∧ r = (-1) ∧ h' = h)) := by
  refine Ct.of (fun _ _ _ => trivial) rfl (Nat.le_of_ble_eq_true rfl) ?_
  show AW (m_X11_find (d + 1) 0 0) 0 0 0 [(0, .ref 0), (1, .int x1), (2, .int x2), (3, .int x3), (4, .int x4), (5, .int x5)] [] h (kI (fun r h' => (¬ (0 ≤ x1 ∧ x1 ≤ 9) ∧ r = (-1) ∧ h' = h) ∨ ((0 ≤ x1 ∧ x1 ≤ 9) ∧ ¬ (0 ≤ x2 ∧ x2 < 16) ∧ r = (-1) ∧ h' = h) ∨ ((0 ≤ x1 ∧ x1 ≤ 9) ∧ (0 ≤ x2 ∧ x2 < 16) ∧ (1 ≤ x5 ∧ x5 ≤ 9) ∧ ¬ (0 ≤ x3 ∧ x3 ≤ 20000) ∧ r = (-1) ∧ h' = h) ∨ ((0 ≤ x1 ∧ x1 ≤ 9) ∧ (0 ≤ x2 ∧ x2 < 16) ∧ (1 ≤ x5 ∧ x5 ≤ 9) ∧ (0 ≤ x3 ∧ x3 ≤ 20000) ∧ (x3 ≤ x4 ∧ x4 ≤ 20000) ∧ r = 0 ∧ h' = h_im (h_im (h_im (h_im (h_im (h_im h 57 (0 : Int32).toNatClampNeg x1) 58 (0 : Int32).toNatClampNeg x2) 59 (0 : Int32).toNatClampNeg x3) 60 (0 : Int32).toNatClampNeg x4) 61 (0 : Int32).toNatClampNeg x5) 17 7 1) ∨ ((0 ≤ x1 ∧ x1 ≤ 9) ∧ (0 ≤ x2 ∧ x2 < 16) ∧ (1 ≤ x5 ∧ x5 ≤ 9) ∧ (0 ≤ x3 ∧ x3 ≤ 20000) ∧ ¬ (x3 ≤ x4 ∧ x4 ≤ 20000) ∧ r = (-1) ∧ h' = h) ∨ ((0 ≤ x1 ∧ x1 ≤ 9) ∧ (0 ≤ x2 ∧ x2 < 16) ∧ ¬ (1 ≤ x5 ∧ x5 ≤ 9) ∧ r = (-1) ∧ h' = h)))
  refine aw_iload_n (i := 1) rfl d_X11_find_0 1 rfl ?_
  refine aw_iconst (v := 0) d_X11_find_1 ic_0 ?_
  refine aw_bipush (v := 9) d_X11_find_2 ib_9 ?_
  refine aw_Si [.int x1, .int 0, .int 9] [] d_X11_find_4 (cS_X11_within (d + 0) 0 0) tw_543 rfl (rr0 (Nat.le_of_ble_eq_true rfl) (Nat.le_of_ble_eq_true rfl)) (Nat.le_of_ble_eq_true rfl) xs0 (s_X11_within _ _ x1 0 9) (fun _ _ kk => ?_)
  obtain ⟨e1, e2⟩ := kk
  rw [e1, e2]
  refine aw_ifb_eq (tgt := 28) d_X11_find_7 rfl (fun c3 => ?_) (fun c3 => ?_)
  · refine aw_iconst (v := (-1)) d_X11_find_28 ic_m1 ?_
    exact aw_iret rfl d_X11_find_29 ⟨Nat.le_refl _, Nat.le_refl _⟩ ⟨_, rfl, (Or.inl ⟨c3, rfl, rfl⟩)⟩
  · refine aw_iload_n (i := 2) rfl d_X11_find_10 2 rfl ?_
    refine aw_Si [.int x2] [] d_X11_find_11 (cS_X11_isPlace (d + 0) 0 0) tw_540 rfl (rr0 (Nat.le_of_ble_eq_true rfl) (Nat.le_of_ble_eq_true rfl)) (Nat.le_of_ble_eq_true rfl) xs0 (s_X11_isPlace _ _ x2) (fun _ _ kk => ?_)
    obtain ⟨e4, e5⟩ := kk
    rw [e4, e5]
    refine aw_ifb_eq (tgt := 28) d_X11_find_14 rfl (fun c6 => ?_) (fun c6 => ?_)
    · refine aw_iconst (v := (-1)) d_X11_find_28 ic_m1 ?_
      exact aw_iret rfl d_X11_find_29 ⟨Nat.le_refl _, Nat.le_refl _⟩ ⟨_, rfl, (Or.inr (Or.inl ⟨c3, c6, rfl, rfl⟩))⟩
    · refine aw_iload d_X11_find_17 5 rfl ?_
      refine aw_iconst (v := 1) d_X11_find_19 ic_1 ?_
      refine aw_bipush (v := 9) d_X11_find_20 ib_9 ?_
      refine aw_Si [.int x5, .int 1, .int 9] [] d_X11_find_22 (cS_X11_within (d + 0) 0 0) tw_543 rfl (rr0 (Nat.le_of_ble_eq_true rfl) (Nat.le_of_ble_eq_true rfl)) (Nat.le_of_ble_eq_true rfl) xs0 (s_X11_within _ _ x5 1 9) (fun _ _ kk => ?_)
      obtain ⟨e7, e8⟩ := kk
      rw [e7, e8]
      refine aw_ifb_ne (tgt := 30) d_X11_find_25 rfl (fun c9 => ?_) (fun c9 => ?_)
      · refine aw_iload_n (i := 3) rfl d_X11_find_30 3 rfl ?_
        refine aw_iconst (v := 0) d_X11_find_31 ic_0 ?_
        refine aw_sipush (v := 20000) d_X11_find_32 is_20000 ?_
        refine aw_Si [.int x3, .int 0, .int 20000] [] d_X11_find_35 (cS_X11_within (d + 0) 0 0) tw_543 rfl (rr0 (Nat.le_of_ble_eq_true rfl) (Nat.le_of_ble_eq_true rfl)) (Nat.le_of_ble_eq_true rfl) xs0 (s_X11_within _ _ x3 0 20000) (fun _ _ kk => ?_)
        obtain ⟨e10, e11⟩ := kk
        rw [e10, e11]
        refine aw_ifb_eq (tgt := 53) d_X11_find_38 rfl (fun c12 => ?_) (fun c12 => ?_)
        · refine aw_iconst (v := (-1)) d_X11_find_53 ic_m1 ?_
          exact aw_iret rfl d_X11_find_54 ⟨Nat.le_refl _, Nat.le_refl _⟩ ⟨_, rfl, (Or.inr (Or.inr (Or.inl ⟨c3, c6, c9, c12, rfl, rfl⟩)))⟩
        · refine aw_iload d_X11_find_41 4 rfl ?_
          refine aw_iload_n (i := 3) rfl d_X11_find_43 3 rfl ?_
          refine aw_sipush (v := 20000) d_X11_find_44 is_20000 ?_
          refine aw_Si [.int x4, .int x3, .int 20000] [] d_X11_find_47 (cS_X11_within (d + 0) 0 0) tw_543 rfl (rr0 (Nat.le_of_ble_eq_true rfl) (Nat.le_of_ble_eq_true rfl)) (Nat.le_of_ble_eq_true rfl) xs0 (s_X11_within _ _ x4 x3 20000) (fun _ _ kk => ?_)
          obtain ⟨e13, e14⟩ := kk
          rw [e13, e14]
          refine aw_ifb_ne (tgt := 55) d_X11_find_50 rfl (fun c15 => ?_) (fun c15 => ?_)
          · refine aw_aload_n (i := 0) rfl d_X11_find_55 0 rfl ?_
            refine aw_getr (k0 := 9) kc_11 (ws_0 w) (Nat.le_of_ble_eq_true rfl) tw_496 d_X11_find_56 rfl (wr_0_9 w) ?_
            refine aw_iload_n (i := 1) rfl d_X11_find_59 1 rfl ?_
            refine aw_iload_n (i := 2) rfl d_X11_find_60 2 rfl ?_
            refine aw_iload_n (i := 3) rfl d_X11_find_61 3 rfl ?_
            refine aw_iload d_X11_find_62 4 rfl ?_
            refine aw_iload d_X11_find_64 5 rfl ?_
            refine aw_Vi 17 [.int x1, .int x2, .int x3, .int x4, .int x5] [] d_X11_find_66 (cV_X4_addFind (d + 0) 0 0) kc_4 (ws_17 w) tw_1151 rfl (rr0 (Nat.le_of_ble_eq_true rfl) (Nat.le_of_ble_eq_true rfl)) (Nat.le_of_ble_eq_true rfl) xs0 (f_X4_addFind_39 d h w e_17_7 x1 x2 x3 x4 x5) (fun r16 h17 kk => ?_)
            obtain ⟨ez8, ez9⟩ := kk
            obtain rfl := ez8.symm
            obtain rfl := ez9.symm
            exact aw_iret rfl d_X11_find_69 ⟨Nat.le_refl _, Nat.le_refl _⟩ ⟨_, rfl, (Or.inr (Or.inr (Or.inr (Or.inl ⟨c3, c6, c9, c12, c15, rfl, rfl⟩))))⟩
          · refine aw_iconst (v := (-1)) d_X11_find_53 ic_m1 ?_
            exact aw_iret rfl d_X11_find_54 ⟨Nat.le_refl _, Nat.le_refl _⟩ ⟨_, rfl, (Or.inr (Or.inr (Or.inr (Or.inr (Or.inl ⟨c3, c6, c9, c12, c15, rfl, rfl⟩)))))⟩
      · refine aw_iconst (v := (-1)) d_X11_find_28 ic_m1 ?_
        exact aw_iret rfl d_X11_find_29 ⟨Nat.le_refl _, Nat.le_refl _⟩ ⟨_, rfl, (Or.inr (Or.inr (Or.inr (Or.inr (Or.inr ⟨c3, c6, c9, rfl, rfl⟩)))))⟩
theorem f_X11_act (d : Nat) (h : Hp_) (w : Wf h) (e_11_1 : h_i h 11 1 = 0)  (x1 : Int32) : Ci (m_X11_act (d + 8) 0 0) [.ref 0, .int x1] h (fun r h' => (¬ (0 ≤ x1 ∧ x1 ≤ 30) ∧ r = (-1) ∧ h' = h) ∨ ((0 ≤ x1 ∧ x1 ≤ 30) ∧ r = (-1) ∧ h' = h_im (h_im (h_im (h_im (h_rm (h_im (h_im h 11 2 0) 11 3 (-1)) 11 4 (some 1001)) 11 6 0) 11 7 0) 11 9 0) 11 3 0)) := by
  refine Ct.of (fun _ _ _ => trivial) rfl (Nat.le_of_ble_eq_true rfl) ?_
  show AW (m_X11_act (d + 8) 0 0) 0 0 0 [(0, .ref 0), (1, .int x1)] [] h (kI (fun r h' => (¬ (0 ≤ x1 ∧ x1 ≤ 30) ∧ r = (-1) ∧ h' = h) ∨ ((0 ≤ x1 ∧ x1 ≤ 30) ∧ r = (-1) ∧ h' = h_im (h_im (h_im (h_im (h_rm (h_im (h_im h 11 2 0) 11 3 (-1)) 11 4 (some 1001)) 11 6 0) 11 7 0) 11 9 0) 11 3 0)))
  refine aw_iload_n (i := 1) rfl d_X11_act_0 1 rfl ?_
  refine aw_iconst (v := 0) d_X11_act_1 ic_0 ?_
  refine aw_bipush (v := 30) d_X11_act_2 ib_30 ?_
  refine aw_Si [.int x1, .int 0, .int 30] [] d_X11_act_4 (cS_X11_within (d + 0) 0 0) tw_543 rfl (rr0 (Nat.le_of_ble_eq_true rfl) (Nat.le_of_ble_eq_true rfl)) (Nat.le_of_ble_eq_true rfl) xs0 (s_X11_within _ _ x1 0 30) (fun _ _ kk => ?_)
  obtain ⟨e1, e2⟩ := kk
  rw [e1, e2]
  refine aw_ifb_eq (tgt := 22) d_X11_act_7 rfl (fun c3 => ?_) (fun c3 => ?_)
  · refine aw_iconst (v := (-1)) d_X11_act_22 ic_m1 ?_
    exact aw_iret rfl d_X11_act_23 ⟨Nat.le_refl _, Nat.le_refl _⟩ ⟨_, rfl, (Or.inl ⟨c3, rfl, rfl⟩)⟩
  · refine aw_aload_n (i := 0) rfl d_X11_act_10 0 rfl ?_
    refine aw_getr (k0 := 2) kc_11 (ws_0 w) (Nat.le_of_ble_eq_true rfl) tw_489 d_X11_act_11 rfl (wr_0_2 w) ?_
    refine aw_iconst (v := 1) d_X11_act_14 ic_1 ?_
    refine aw_Vi 11 [.int 1] [] d_X11_act_15 (cV_X8_readRule (d + 7) 0 0) kc_8 (ws_11 w) tw_723 rfl (rr0 (Nat.le_of_ble_eq_true rfl) (Nat.le_of_ble_eq_true rfl)) (Nat.le_of_ble_eq_true rfl) xs0 (f_X8_readRule_19 d h w e_11_1 ) (fun r4 h5 kk => ?_)
    obtain ⟨ez8, ez9⟩ := kk
    obtain rfl := ez8.symm
    obtain rfl := ez9.symm
    have w6 : Wf (h_rm (h_im (h_im h 11 2 0) 11 3 (-1)) 11 4 (some 1001)) := Wf_rm (h := (h_im (h_im h 11 2 0) 11 3 (-1))) w (by decide +kernel)
    refine aw_iconst (v := (-1)) d_X11_act_18 ic_m1 ?_
    refine aw_icmp_eq (tgt := 24) d_X11_act_19 rfl (fun c => absurd c (by decide)) (fun _ => ?_)
    refine aw_iconst (v := (-1)) d_X11_act_22 ic_m1 ?_
    exact aw_iret rfl d_X11_act_23 ⟨Nat.le_refl _, Nat.le_refl _⟩ ⟨_, rfl, (Or.inr ⟨c3, rfl, rfl⟩)⟩
theorem f_X10_inForce_42 (d : Nat) (h : Hp_) (w : Wf h) (e_13_5 : h_i h 13 5 = 0)  (x1 : Int32) (x2 : Int32) : Ci (m_X10_inForce (d + 0) 0 0) [.ref 13, .int x1, .int x2] h (fun r h' => (r = (-1) ∧ h' = h)) := by
  refine Ct.of (fun _ _ _ => trivial) rfl (Nat.le_of_ble_eq_true rfl) ?_
  show AW (m_X10_inForce (d + 0) 0 0) 0 0 0 [(0, .ref 13), (1, .int x1), (2, .int x2)] [] h (kI (fun r h' => (r = (-1) ∧ h' = h)))
  refine aw_iconst (v := (-1)) d_X10_inForce_0 ic_m1 ?_
  refine aw_istore_n (i := 3) rfl [(0, .ref 13), (1, .int x1), (2, .int x2), (3, .int (-1))] d_X10_inForce_1 (Nat.le_of_ble_eq_true rfl) rfl rfl ?_
  refine aw_iconst (v := 0) d_X10_inForce_2 ic_0 ?_
  refine aw_istore [(0, .ref 13), (1, .int x1), (2, .int x2), (3, .int (-1)), (4, .int 0)] d_X10_inForce_3 (Nat.le_of_ble_eq_true rfl) rfl rfl ?_
  refine aw_iload d_X10_inForce_5 4 rfl ?_
  refine aw_aload_n (i := 0) rfl d_X10_inForce_7 0 rfl ?_
  refine aw_geti (k0 := 5) kc_10 (ws_13 w) (Nat.le_of_ble_eq_true rfl) tw_129 d_X10_inForce_8 rfl ?_
  refine aw_vi (v2 := 0) e_13_5 ?_
  refine aw_icmp_ge (tgt := 66) d_X10_inForce_11 rfl (fun _ => ?_) (fun c => absurd c (by decide))
  refine aw_iload_n (i := 3) rfl d_X10_inForce_66 3 rfl ?_
  exact aw_iret rfl d_X10_inForce_67 ⟨Nat.le_refl _, Nat.le_refl _⟩ ⟨_, rfl, ⟨rfl, rfl⟩⟩
theorem f_X11_force (d : Nat) (h : Hp_) (w : Wf h) (e_0_0 : h_i h 0 0 = 0) (e_13_5 : h_i h 13 5 = 0)  (x1 : Int32) (x2 : Int32) : Ci (m_X11_force (d + 2) 0 0) [.ref 0, .int x1, .int x2] h (fun r h' => (¬ (0 ≤ x1 ∧ x1 ≤ 30) ∧ r = (-1) ∧ h' = h) ∨ ((0 ≤ x1 ∧ x1 ≤ 30) ∧ ¬ (0 ≤ x2 ∧ x2 ≤ 0) ∧ r = (-1) ∧ h' = h) ∨ ((0 ≤ x1 ∧ x1 ≤ 30) ∧ (0 ≤ x2 ∧ x2 ≤ 0) ∧ r = (-1) ∧ h' = h)) := by
  refine Ct.of (fun _ _ _ => trivial) rfl (Nat.le_of_ble_eq_true rfl) ?_
  show AW (m_X11_force (d + 2) 0 0) 0 0 0 [(0, .ref 0), (1, .int x1), (2, .int x2)] [] h (kI (fun r h' => (¬ (0 ≤ x1 ∧ x1 ≤ 30) ∧ r = (-1) ∧ h' = h) ∨ ((0 ≤ x1 ∧ x1 ≤ 30) ∧ ¬ (0 ≤ x2 ∧ x2 ≤ 0) ∧ r = (-1) ∧ h' = h) ∨ ((0 ≤ x1 ∧ x1 ≤ 30) ∧ (0 ≤ x2 ∧ x2 ≤ 0) ∧ r = (-1) ∧ h' = h)))
  refine aw_iload_n (i := 1) rfl d_X11_force_0 1 rfl ?_
  refine aw_iconst (v := 0) d_X11_force_1 ic_0 ?_
  refine aw_bipush (v := 30) d_X11_force_2 ib_30 ?_
  refine aw_Si [.int x1, .int 0, .int 30] [] d_X11_force_4 (cS_X11_within (d + 0) 0 0) tw_543 rfl (rr0 (Nat.le_of_ble_eq_true rfl) (Nat.le_of_ble_eq_true rfl)) (Nat.le_of_ble_eq_true rfl) xs0 (s_X11_within _ _ x1 0 30) (fun _ _ kk => ?_)
  obtain ⟨e1, e2⟩ := kk
  rw [e1, e2]
  refine aw_ifb_eq (tgt := 30) d_X11_force_7 rfl (fun c3 => ?_) (fun c3 => ?_)
  · refine aw_iconst (v := (-1)) d_X11_force_30 ic_m1 ?_
    exact aw_iret rfl d_X11_force_31 ⟨Nat.le_refl _, Nat.le_refl _⟩ ⟨_, rfl, (Or.inl ⟨c3, rfl, rfl⟩)⟩
  · refine aw_aload_n (i := 0) rfl d_X11_force_10 0 rfl ?_
    refine aw_iload_n (i := 2) rfl d_X11_force_11 2 rfl ?_
    refine aw_Vi 0 [.int x2] [] d_X11_force_12 (cV_X11_isKnown (d + 1) 0 0) kc_11 (ws_0 w) tw_1102 rfl (rr0 (Nat.le_of_ble_eq_true rfl) (Nat.le_of_ble_eq_true rfl)) (Nat.le_of_ble_eq_true rfl) xs0 (f_X11_isKnown_33 d h w e_0_0 x2) (fun r4 h5 kk => ?_)
    obtain ⟨ez8, ez9⟩ := kk
    obtain rfl := ez8.symm
    obtain rfl := ez9.symm
    refine aw_ifb_eq (tgt := 30) d_X11_force_15 rfl (fun c6 => ?_) (fun c6 => ?_)
    · refine aw_iconst (v := (-1)) d_X11_force_30 ic_m1 ?_
      exact aw_iret rfl d_X11_force_31 ⟨Nat.le_refl _, Nat.le_refl _⟩ ⟨_, rfl, (Or.inr (Or.inl ⟨c3, c6, rfl, rfl⟩))⟩
    · refine aw_aload_n (i := 0) rfl d_X11_force_18 0 rfl ?_
      refine aw_getr (k0 := 4) kc_11 (ws_0 w) (Nat.le_of_ble_eq_true rfl) tw_491 d_X11_force_19 rfl (wr_0_4 w) ?_
      refine aw_iload_n (i := 1) rfl d_X11_force_22 1 rfl ?_
      refine aw_iload_n (i := 2) rfl d_X11_force_23 2 rfl ?_
      refine aw_Vi 13 [.int x1, .int x2] [] d_X11_force_24 (cV_X10_inForce (d + 0) 0 0) kc_10 (ws_13 w) tw_1057 rfl (rr0 (Nat.le_of_ble_eq_true rfl) (Nat.le_of_ble_eq_true rfl)) (Nat.le_of_ble_eq_true rfl) xs0 (f_X10_inForce_42 d h w e_13_5 x1 x2) (fun r7 h8 kk => ?_)
      obtain ⟨ez8, ez9⟩ := kk
      obtain rfl := ez8.symm
      obtain rfl := ez9.symm
      refine aw_goto (tgt := 31) d_X11_force_27 rfl ?_
      exact aw_iret rfl d_X11_force_31 ⟨Nat.le_refl _, Nat.le_refl _⟩ ⟨_, rfl, (Or.inr (Or.inr ⟨c3, c6, rfl, rfl⟩))⟩
theorem f_X4_has_44 (d : Nat) (h : Hp_) (w : Wf h) (e_17_16 : h_i h 17 16 = 0)  (x1 : Int32) : Ci (m_X4_has (d + 0) 0 0) [.ref 17, .int x1] h (fun r h' => (x1 < 0 ∧ r = 0 ∧ h' = h) ∨ (¬ x1 < 0 ∧ r = 0 ∧ h' = h)) := by
  refine Ct.of (fun _ _ _ => trivial) rfl (Nat.le_of_ble_eq_true rfl) ?_
  show AW (m_X4_has (d + 0) 0 0) 0 0 0 [(0, .ref 17), (1, .int x1)] [] h (kI (fun r h' => (x1 < 0 ∧ r = 0 ∧ h' = h) ∨ (¬ x1 < 0 ∧ r = 0 ∧ h' = h)))
  refine aw_iload_n (i := 1) rfl d_X4_has_0 1 rfl ?_
  refine aw_if_lt (tgt := 16) d_X4_has_1 rfl (fun c1 => ?_) (fun c1 => ?_)
  · refine aw_iconst (v := 0) d_X4_has_16 ic_0 ?_
    exact aw_zret rfl rfl d_X4_has_17 ⟨Nat.le_refl _, Nat.le_refl _⟩ ⟨_, rfl, (Or.inl ⟨c1, rfl, rfl⟩)⟩
  · refine aw_iload_n (i := 1) rfl d_X4_has_4 1 rfl ?_
    refine aw_aload_n (i := 0) rfl d_X4_has_5 0 rfl ?_
    refine aw_geti (k0 := 16) kc_4 (ws_17 w) (Nat.le_of_ble_eq_true rfl) tw_215 d_X4_has_6 rfl ?_
    refine aw_vi (v2 := 0) e_17_16 ?_
    refine aw_icmp_ge (tgt := 16) d_X4_has_9 rfl (fun c2 => ?_) (fun c2 => (by exfalso; grind))
    refine aw_iconst (v := 0) d_X4_has_16 ic_0 ?_
    exact aw_zret rfl rfl d_X4_has_17 ⟨Nat.le_refl _, Nat.le_refl _⟩ ⟨_, rfl, (Or.inr ⟨c1, rfl, rfl⟩)⟩
theorem f_X11_sighting (d : Nat) (h : Hp_) (w : Wf h) (e_17_16 : h_i h 17 16 = 0)  (x1 : Int32) (x2 : Int32) : Ci (m_X11_sighting (d + 1) 0 0) [.ref 0, .int x1, .int x2] h (fun r h' => (x1 < 0 ∧ r = (-1) ∧ h' = h) ∨ (¬ x1 < 0 ∧ r = (-1) ∧ h' = h)) := by
  refine Ct.of (fun _ _ _ => trivial) rfl (Nat.le_of_ble_eq_true rfl) ?_
  show AW (m_X11_sighting (d + 1) 0 0) 0 0 0 [(0, .ref 0), (1, .int x1), (2, .int x2)] [] h (kI (fun r h' => (x1 < 0 ∧ r = (-1) ∧ h' = h) ∨ (¬ x1 < 0 ∧ r = (-1) ∧ h' = h)))
  refine aw_aload_n (i := 0) rfl d_X11_sighting_0 0 rfl ?_
  refine aw_getr (k0 := 9) kc_11 (ws_0 w) (Nat.le_of_ble_eq_true rfl) tw_496 d_X11_sighting_1 rfl (wr_0_9 w) ?_
  refine aw_iload_n (i := 1) rfl d_X11_sighting_4 1 rfl ?_
  refine aw_Vi 17 [.int x1] [] d_X11_sighting_5 (cV_X4_has (d + 0) 0 0) kc_4 (ws_17 w) tw_1176 rfl (rr0 (Nat.le_of_ble_eq_true rfl) (Nat.le_of_ble_eq_true rfl)) (Nat.le_of_ble_eq_true rfl) xs0 (f_X4_has_44 d h w e_17_16 x1) (fun r1 h2 kk => ?_)
  rcases kk with ⟨c3, ez8, ez9⟩ | ⟨c4, ez8, ez9⟩
  · obtain rfl := ez8.symm
    obtain rfl := ez9.symm
    refine aw_if_eq (tgt := 23) d_X11_sighting_8 rfl (fun _ => ?_) (fun c => absurd c (by decide))
    refine aw_iconst (v := (-1)) d_X11_sighting_23 ic_m1 ?_
    exact aw_iret rfl d_X11_sighting_24 ⟨Nat.le_refl _, Nat.le_refl _⟩ ⟨_, rfl, (Or.inl ⟨c3, rfl, rfl⟩)⟩
  · obtain rfl := ez8.symm
    obtain rfl := ez9.symm
    refine aw_if_eq (tgt := 23) d_X11_sighting_8 rfl (fun _ => ?_) (fun c => absurd c (by decide))
    refine aw_iconst (v := (-1)) d_X11_sighting_23 ic_m1 ?_
    exact aw_iret rfl d_X11_sighting_24 ⟨Nat.le_refl _, Nat.le_refl _⟩ ⟨_, rfl, (Or.inr ⟨c4, rfl, rfl⟩)⟩
theorem f_X11_should (d : Nat) (h : Hp_) (w : Wf h) (e_17_16 : h_i h 17 16 = 0)  (x1 : Int32) (x2 : Int32) : Ci (m_X11_should (d + 1) 0 0) [.ref 0, .int x1, .int x2] h (fun r h' => (x1 < 0 ∧ r = (-1) ∧ h' = h) ∨ (¬ x1 < 0 ∧ r = (-1) ∧ h' = h)) := by
  refine Ct.of (fun _ _ _ => trivial) rfl (Nat.le_of_ble_eq_true rfl) ?_
  show AW (m_X11_should (d + 1) 0 0) 0 0 0 [(0, .ref 0), (1, .int x1), (2, .int x2)] [] h (kI (fun r h' => (x1 < 0 ∧ r = (-1) ∧ h' = h) ∨ (¬ x1 < 0 ∧ r = (-1) ∧ h' = h)))
  refine aw_aload_n (i := 0) rfl d_X11_should_0 0 rfl ?_
  refine aw_getr (k0 := 9) kc_11 (ws_0 w) (Nat.le_of_ble_eq_true rfl) tw_496 d_X11_should_1 rfl (wr_0_9 w) ?_
  refine aw_iload_n (i := 1) rfl d_X11_should_4 1 rfl ?_
  refine aw_Vi 17 [.int x1] [] d_X11_should_5 (cV_X4_has (d + 0) 0 0) kc_4 (ws_17 w) tw_1176 rfl (rr0 (Nat.le_of_ble_eq_true rfl) (Nat.le_of_ble_eq_true rfl)) (Nat.le_of_ble_eq_true rfl) xs0 (f_X4_has_44 d h w e_17_16 x1) (fun r1 h2 kk => ?_)
  rcases kk with ⟨c3, ez8, ez9⟩ | ⟨c4, ez8, ez9⟩
  · obtain rfl := ez8.symm
    obtain rfl := ez9.symm
    refine aw_if_eq (tgt := 30) d_X11_should_8 rfl (fun _ => ?_) (fun c => absurd c (by decide))
    refine aw_iconst (v := (-1)) d_X11_should_30 ic_m1 ?_
    exact aw_iret rfl d_X11_should_31 ⟨Nat.le_refl _, Nat.le_refl _⟩ ⟨_, rfl, (Or.inl ⟨c3, rfl, rfl⟩)⟩
  · obtain rfl := ez8.symm
    obtain rfl := ez9.symm
    refine aw_if_eq (tgt := 30) d_X11_should_8 rfl (fun _ => ?_) (fun c => absurd c (by decide))
    refine aw_iconst (v := (-1)) d_X11_should_30 ic_m1 ?_
    exact aw_iret rfl d_X11_should_31 ⟨Nat.le_refl _, Nat.le_refl _⟩ ⟨_, rfl, (Or.inr ⟨c4, rfl, rfl⟩)⟩
theorem f_X4_countKnown_47 (d : Nat) (h : Hp_) (w : Wf h) (e_17_16 : h_i h 17 16 = 0)  (x1 : Int32) : Ci (m_X4_countKnown (d + 0) 0 0) [.ref 17, .int x1] h (fun r h' => (r = 0 ∧ h' = h)) := by
  refine Ct.of (fun _ _ _ => trivial) rfl (Nat.le_of_ble_eq_true rfl) ?_
  show AW (m_X4_countKnown (d + 0) 0 0) 0 0 0 [(0, .ref 17), (1, .int x1)] [] h (kI (fun r h' => (r = 0 ∧ h' = h)))
  refine aw_iconst (v := 0) d_X4_countKnown_0 ic_0 ?_
  refine aw_istore_n (i := 2) rfl [(0, .ref 17), (1, .int x1), (2, .int 0)] d_X4_countKnown_1 (Nat.le_of_ble_eq_true rfl) rfl rfl ?_
  refine aw_iconst (v := 0) d_X4_countKnown_2 ic_0 ?_
  refine aw_istore_n (i := 3) rfl [(0, .ref 17), (1, .int x1), (2, .int 0), (3, .int 0)] d_X4_countKnown_3 (Nat.le_of_ble_eq_true rfl) rfl rfl ?_
  refine aw_iload_n (i := 3) rfl d_X4_countKnown_4 3 rfl ?_
  refine aw_aload_n (i := 0) rfl d_X4_countKnown_5 0 rfl ?_
  refine aw_geti (k0 := 16) kc_4 (ws_17 w) (Nat.le_of_ble_eq_true rfl) tw_215 d_X4_countKnown_6 rfl ?_
  refine aw_vi (v2 := 0) e_17_16 ?_
  refine aw_icmp_ge (tgt := 41) d_X4_countKnown_9 rfl (fun _ => ?_) (fun c => absurd c (by decide))
  refine aw_iload_n (i := 2) rfl d_X4_countKnown_41 2 rfl ?_
  exact aw_iret rfl d_X4_countKnown_42 ⟨Nat.le_refl _, Nat.le_refl _⟩ ⟨_, rfl, ⟨rfl, rfl⟩⟩
theorem f_X11_heard (d : Nat) (h : Hp_) (w : Wf h) (e_0_0 : h_i h 0 0 = 0) (e_17_16 : h_i h 17 16 = 0)  (x1 : Int32) : Ci (m_X11_heard (d + 2) 0 0) [.ref 0, .int x1] h (fun r h' => (¬ (0 ≤ x1 ∧ x1 ≤ 0) ∧ r = (-1) ∧ h' = h) ∨ ((0 ≤ x1 ∧ x1 ≤ 0) ∧ r = 0 ∧ h' = h)) := by
  refine Ct.of (fun _ _ _ => trivial) rfl (Nat.le_of_ble_eq_true rfl) ?_
  show AW (m_X11_heard (d + 2) 0 0) 0 0 0 [(0, .ref 0), (1, .int x1)] [] h (kI (fun r h' => (¬ (0 ≤ x1 ∧ x1 ≤ 0) ∧ r = (-1) ∧ h' = h) ∨ ((0 ≤ x1 ∧ x1 ≤ 0) ∧ r = 0 ∧ h' = h)))
  refine aw_aload_n (i := 0) rfl d_X11_heard_0 0 rfl ?_
  refine aw_iload_n (i := 1) rfl d_X11_heard_1 1 rfl ?_
  refine aw_Vi 0 [.int x1] [] d_X11_heard_2 (cV_X11_isKnown (d + 1) 0 0) kc_11 (ws_0 w) tw_1102 rfl (rr0 (Nat.le_of_ble_eq_true rfl) (Nat.le_of_ble_eq_true rfl)) (Nat.le_of_ble_eq_true rfl) xs0 (f_X11_isKnown_33 d h w e_0_0 x1) (fun r1 h2 kk => ?_)
  obtain ⟨ez8, ez9⟩ := kk
  obtain rfl := ez8.symm
  obtain rfl := ez9.symm
  refine aw_ifb_eq (tgt := 19) d_X11_heard_5 rfl (fun c3 => ?_) (fun c3 => ?_)
  · refine aw_iconst (v := (-1)) d_X11_heard_19 ic_m1 ?_
    exact aw_iret rfl d_X11_heard_20 ⟨Nat.le_refl _, Nat.le_refl _⟩ ⟨_, rfl, (Or.inl ⟨c3, rfl, rfl⟩)⟩
  · refine aw_aload_n (i := 0) rfl d_X11_heard_8 0 rfl ?_
    refine aw_getr (k0 := 9) kc_11 (ws_0 w) (Nat.le_of_ble_eq_true rfl) tw_496 d_X11_heard_9 rfl (wr_0_9 w) ?_
    refine aw_iload_n (i := 1) rfl d_X11_heard_12 1 rfl ?_
    refine aw_Vi 17 [.int x1] [] d_X11_heard_13 (cV_X4_countKnown (d + 0) 0 0) kc_4 (ws_17 w) tw_1199 rfl (rr0 (Nat.le_of_ble_eq_true rfl) (Nat.le_of_ble_eq_true rfl)) (Nat.le_of_ble_eq_true rfl) xs0 (f_X4_countKnown_47 d h w e_17_16 x1) (fun r4 h5 kk => ?_)
    obtain ⟨ez8, ez9⟩ := kk
    obtain rfl := ez8.symm
    obtain rfl := ez9.symm
    refine aw_goto (tgt := 20) d_X11_heard_16 rfl ?_
    exact aw_iret rfl d_X11_heard_20 ⟨Nat.le_refl _, Nat.le_refl _⟩ ⟨_, rfl, (Or.inr ⟨c3, rfl, rfl⟩)⟩
theorem f_X1_start_49 (d : Nat) (h : Hp_) (w : Wf h) (e_18_3 : h_i h 18 3 = 0)  (x1 : Int32) : Ci (m_X1_start (d + 0) 0 0) [.ref 18, .int x1, .int 0] h (fun r h' => (r = 0 ∧ h' = h_im (h_im (h_im h 71 (0 : Int32).toNatClampNeg x1) 72 (0 : Int32).toNatClampNeg 0) 18 3 1)) := by
  refine Ct.of (fun _ _ _ => trivial) rfl (Nat.le_of_ble_eq_true rfl) ?_
  show AW (m_X1_start (d + 0) 0 0) 0 0 0 [(0, .ref 18), (1, .int x1), (2, .int 0)] [] h (kI (fun r h' => (r = 0 ∧ h' = h_im (h_im (h_im h 71 (0 : Int32).toNatClampNeg x1) 72 (0 : Int32).toNatClampNeg 0) 18 3 1)))
  refine aw_aload_n (i := 0) rfl d_X1_start_0 0 rfl ?_
  refine aw_geti (k0 := 3) kc_1 (ws_18 w) (Nat.le_of_ble_eq_true rfl) tw_265 d_X1_start_1 rfl ?_
  refine aw_vi (v2 := 0) e_18_3 ?_
  refine aw_bipush (v := 30) d_X1_start_4 ib_30 ?_
  refine aw_icmp_lt (tgt := 11) d_X1_start_6 rfl (fun _ => ?_) (fun c => absurd c (by decide))
  refine aw_aload_n (i := 0) rfl d_X1_start_11 0 rfl ?_
  refine aw_getr (k0 := 0) kc_1 (ws_18 w) (Nat.le_of_ble_eq_true rfl) tw_262 d_X1_start_12 rfl (wr_18_0 w) ?_
  refine aw_aload_n (i := 0) rfl d_X1_start_15 0 rfl ?_
  refine aw_geti (k0 := 3) kc_1 (ws_18 w) (Nat.le_of_ble_eq_true rfl) tw_265 d_X1_start_16 rfl ?_
  refine aw_vi (v2 := 0) e_18_3 ?_
  refine aw_iload_n (i := 1) rfl d_X1_start_19 1 rfl ?_
  refine aw_iast (ws_71 w) (vin_c (by decide)) d_X1_start_20 ?_
  refine aw_aload_n (i := 0) rfl d_X1_start_21 0 rfl ?_
  refine aw_getr (k0 := 1) kc_1 (ws_18 w) (Nat.le_of_ble_eq_true rfl) tw_263 d_X1_start_22 rfl (wr_18_1 w) ?_
  refine aw_aload_n (i := 0) rfl d_X1_start_25 0 rfl ?_
  refine aw_geti (k0 := 3) kc_1 (ws_18 w) (Nat.le_of_ble_eq_true rfl) tw_265 d_X1_start_26 rfl ?_
  refine aw_vi (v2 := 0) e_18_3 ?_
  refine aw_iload_n (i := 2) rfl d_X1_start_29 2 rfl ?_
  refine aw_iast (ws_72 w) (vin_c (by decide)) d_X1_start_30 ?_
  refine aw_aload_n (i := 0) rfl d_X1_start_31 0 rfl ?_
  refine aw_dup d_X1_start_32 rfl ?_
  refine aw_geti (k0 := 3) kc_1 (ws_18 w) (Nat.le_of_ble_eq_true rfl) tw_265 d_X1_start_33 rfl ?_
  refine aw_vi (v2 := 0) e_18_3 ?_
  refine aw_iconst (v := 1) d_X1_start_36 ic_1 ?_
  refine aw_iadd d_X1_start_37 ?_
  refine aw_vi (v2 := 1) (by decide) ?_
  refine aw_puti (k0 := 3) kc_1 (ws_18 w) (Nat.le_of_ble_eq_true rfl) tw_265 d_X1_start_38 rfl rfl nf_i ?_
  refine aw_aload_n (i := 0) rfl d_X1_start_41 0 rfl ?_
  refine aw_geti (k0 := 3) kc_1 (ws_18 w) (Nat.le_of_ble_eq_true rfl) tw_265 d_X1_start_42 rfl ?_
  refine aw_vi (v2 := 1) rfl ?_
  refine aw_iconst (v := 1) d_X1_start_45 ic_1 ?_
  refine aw_isub d_X1_start_46 ?_
  refine aw_vi (v2 := 0) (by decide) ?_
  exact aw_iret rfl d_X1_start_47 ⟨Nat.le_refl _, Nat.le_refl _⟩ ⟨_, rfl, ⟨rfl, rfl⟩⟩
theorem f_X11_open (d : Nat) (h : Hp_) (w : Wf h) (e_0_0 : h_i h 0 0 = 0) (e_18_3 : h_i h 18 3 = 0)  (x1 : Int32) : Ci (m_X11_open (d + 1) 0 0) [.ref 0, .int x1] h (fun r h' => (¬ (0 ≤ x1 ∧ x1 ≤ 9) ∧ r = (-1) ∧ h' = h) ∨ ((0 ≤ x1 ∧ x1 ≤ 9) ∧ r = 0 ∧ h' = h_im (h_im (h_im h 71 (0 : Int32).toNatClampNeg x1) 72 (0 : Int32).toNatClampNeg 0) 18 3 1)) := by
  refine Ct.of (fun _ _ _ => trivial) rfl (Nat.le_of_ble_eq_true rfl) ?_
  show AW (m_X11_open (d + 1) 0 0) 0 0 0 [(0, .ref 0), (1, .int x1)] [] h (kI (fun r h' => (¬ (0 ≤ x1 ∧ x1 ≤ 9) ∧ r = (-1) ∧ h' = h) ∨ ((0 ≤ x1 ∧ x1 ≤ 9) ∧ r = 0 ∧ h' = h_im (h_im (h_im h 71 (0 : Int32).toNatClampNeg x1) 72 (0 : Int32).toNatClampNeg 0) 18 3 1)))
  refine aw_iload_n (i := 1) rfl d_X11_open_0 1 rfl ?_
  refine aw_iconst (v := 0) d_X11_open_1 ic_0 ?_
  refine aw_bipush (v := 9) d_X11_open_2 ib_9 ?_
  refine aw_Si [.int x1, .int 0, .int 9] [] d_X11_open_4 (cS_X11_within (d + 0) 0 0) tw_543 rfl (rr0 (Nat.le_of_ble_eq_true rfl) (Nat.le_of_ble_eq_true rfl)) (Nat.le_of_ble_eq_true rfl) xs0 (s_X11_within _ _ x1 0 9) (fun _ _ kk => ?_)
  obtain ⟨e1, e2⟩ := kk
  rw [e1, e2]
  refine aw_ifb_eq (tgt := 25) d_X11_open_7 rfl (fun c3 => ?_) (fun c3 => ?_)
  · refine aw_iconst (v := (-1)) d_X11_open_25 ic_m1 ?_
    exact aw_iret rfl d_X11_open_26 ⟨Nat.le_refl _, Nat.le_refl _⟩ ⟨_, rfl, (Or.inl ⟨c3, rfl, rfl⟩)⟩
  · refine aw_aload_n (i := 0) rfl d_X11_open_10 0 rfl ?_
    refine aw_getr (k0 := 10) kc_11 (ws_0 w) (Nat.le_of_ble_eq_true rfl) tw_497 d_X11_open_11 rfl (wr_0_10 w) ?_
    refine aw_iload_n (i := 1) rfl d_X11_open_14 1 rfl ?_
    refine aw_aload_n (i := 0) rfl d_X11_open_15 0 rfl ?_
    refine aw_geti (k0 := 0) kc_11 (ws_0 w) (Nat.le_of_ble_eq_true rfl) tw_487 d_X11_open_16 rfl ?_
    refine aw_vi (v2 := 0) e_0_0 ?_
    refine aw_Vi 18 [.int x1, .int 0] [] d_X11_open_19 (cV_X1_start (d + 0) 0 0) kc_1 (ws_18 w) tw_1086 rfl (rr0 (Nat.le_of_ble_eq_true rfl) (Nat.le_of_ble_eq_true rfl)) (Nat.le_of_ble_eq_true rfl) xs0 (f_X1_start_49 d h w e_18_3 x1) (fun r4 h5 kk => ?_)
    obtain ⟨ez8, ez9⟩ := kk
    obtain rfl := ez8.symm
    obtain rfl := ez9.symm
    refine aw_goto (tgt := 26) d_X11_open_22 rfl ?_
    exact aw_iret rfl d_X11_open_26 ⟨Nat.le_refl _, Nat.le_refl _⟩ ⟨_, rfl, (Or.inr ⟨c3, rfl, rfl⟩)⟩
theorem f_X11_need (d : Nat) (h : Hp_) (w : Wf h)   (x1 : Int32) (x2 : Int32) : Ci (m_X11_need (d + 1) 0 0) [.ref 0, .int x1, .int x2] h (fun r h' => (¬ (0 ≤ x1 ∧ x1 ≤ 9) ∧ r = 0 ∧ h' = h) ∨ ((0 ≤ x1 ∧ x1 ≤ 9) ∧ (0 ≤ x2 ∧ x2 ≤ 255) ∧ r = 1 ∧ h' = h_im h 74 x1.toNatClampNeg x2) ∨ ((0 ≤ x1 ∧ x1 ≤ 9) ∧ ¬ (0 ≤ x2 ∧ x2 ≤ 255) ∧ r = 0 ∧ h' = h)) := by
  refine Ct.of (fun _ _ _ => trivial) rfl (Nat.le_of_ble_eq_true rfl) ?_
  show AW (m_X11_need (d + 1) 0 0) 0 0 0 [(0, .ref 0), (1, .int x1), (2, .int x2)] [] h (kI (fun r h' => (¬ (0 ≤ x1 ∧ x1 ≤ 9) ∧ r = 0 ∧ h' = h) ∨ ((0 ≤ x1 ∧ x1 ≤ 9) ∧ (0 ≤ x2 ∧ x2 ≤ 255) ∧ r = 1 ∧ h' = h_im h 74 x1.toNatClampNeg x2) ∨ ((0 ≤ x1 ∧ x1 ≤ 9) ∧ ¬ (0 ≤ x2 ∧ x2 ≤ 255) ∧ r = 0 ∧ h' = h)))
  refine aw_iload_n (i := 1) rfl d_X11_need_0 1 rfl ?_
  refine aw_iconst (v := 0) d_X11_need_1 ic_0 ?_
  refine aw_bipush (v := 9) d_X11_need_2 ib_9 ?_
  refine aw_Si [.int x1, .int 0, .int 9] [] d_X11_need_4 (cS_X11_within (d + 0) 0 0) tw_543 rfl (rr0 (Nat.le_of_ble_eq_true rfl) (Nat.le_of_ble_eq_true rfl)) (Nat.le_of_ble_eq_true rfl) xs0 (s_X11_within _ _ x1 0 9) (fun _ _ kk => ?_)
  obtain ⟨e1, e2⟩ := kk
  rw [e1, e2]
  refine aw_ifb_eq (tgt := 21) d_X11_need_7 rfl (fun c3 => ?_) (fun c3 => ?_)
  · refine aw_iconst (v := 0) d_X11_need_21 ic_0 ?_
    exact aw_zret rfl rfl d_X11_need_22 ⟨Nat.le_refl _, Nat.le_refl _⟩ ⟨_, rfl, (Or.inl ⟨c3, rfl, rfl⟩)⟩
  · refine aw_iload_n (i := 2) rfl d_X11_need_10 2 rfl ?_
    refine aw_iconst (v := 0) d_X11_need_11 ic_0 ?_
    refine aw_sipush (v := 255) d_X11_need_12 is_255 ?_
    refine aw_Si [.int x2, .int 0, .int 255] [] d_X11_need_15 (cS_X11_within (d + 0) 0 0) tw_543 rfl (rr0 (Nat.le_of_ble_eq_true rfl) (Nat.le_of_ble_eq_true rfl)) (Nat.le_of_ble_eq_true rfl) xs0 (s_X11_within _ _ x2 0 255) (fun _ _ kk => ?_)
    obtain ⟨e4, e5⟩ := kk
    rw [e4, e5]
    refine aw_ifb_ne (tgt := 23) d_X11_need_18 rfl (fun c6 => ?_) (fun c6 => ?_)
    · refine aw_aload_n (i := 0) rfl d_X11_need_23 0 rfl ?_
      refine aw_getr (k0 := 10) kc_11 (ws_0 w) (Nat.le_of_ble_eq_true rfl) tw_497 d_X11_need_24 rfl (wr_0_10 w) ?_
      refine aw_getr (k0 := 4) kc_1 (ws_18 w) (Nat.le_of_ble_eq_true rfl) tw_268 d_X11_need_27 rfl (wr_18_4 w) ?_
      refine aw_iload_n (i := 1) rfl d_X11_need_30 1 rfl ?_
      refine aw_iload_n (i := 2) rfl d_X11_need_31 2 rfl ?_
      refine aw_iast (ws_74 w) (vin_of c3 (by decide) (by decide)) d_X11_need_32 ?_
      refine aw_iconst (v := 1) d_X11_need_33 ic_1 ?_
      exact aw_zret rfl rfl d_X11_need_34 ⟨Nat.le_refl _, Nat.le_refl _⟩ ⟨_, rfl, (Or.inr (Or.inl ⟨c3, c6, rfl, rfl⟩))⟩
    · refine aw_iconst (v := 0) d_X11_need_21 ic_0 ?_
      exact aw_zret rfl rfl d_X11_need_22 ⟨Nat.le_refl _, Nat.le_refl _⟩ ⟨_, rfl, (Or.inr (Or.inr ⟨c3, c6, rfl, rfl⟩))⟩
theorem f_X11_want (d : Nat) (h : Hp_) (w : Wf h)   (x1 : Int32) (x2 : Int32) : Ci (m_X11_want (d + 1) 0 0) [.ref 0, .int x1, .int x2] h (fun r h' => (¬ (0 ≤ x1 ∧ x1 ≤ 7) ∧ r = 0 ∧ h' = h) ∨ ((0 ≤ x1 ∧ x1 ≤ 7) ∧ (1 ≤ x2 ∧ x2 ≤ 3) ∧ r = 1 ∧ h' = h_im h 75 x1.toNatClampNeg x2) ∨ ((0 ≤ x1 ∧ x1 ≤ 7) ∧ ¬ (1 ≤ x2 ∧ x2 ≤ 3) ∧ r = 0 ∧ h' = h)) := by
  refine Ct.of (fun _ _ _ => trivial) rfl (Nat.le_of_ble_eq_true rfl) ?_
  show AW (m_X11_want (d + 1) 0 0) 0 0 0 [(0, .ref 0), (1, .int x1), (2, .int x2)] [] h (kI (fun r h' => (¬ (0 ≤ x1 ∧ x1 ≤ 7) ∧ r = 0 ∧ h' = h) ∨ ((0 ≤ x1 ∧ x1 ≤ 7) ∧ (1 ≤ x2 ∧ x2 ≤ 3) ∧ r = 1 ∧ h' = h_im h 75 x1.toNatClampNeg x2) ∨ ((0 ≤ x1 ∧ x1 ≤ 7) ∧ ¬ (1 ≤ x2 ∧ x2 ≤ 3) ∧ r = 0 ∧ h' = h)))
  refine aw_iload_n (i := 1) rfl d_X11_want_0 1 rfl ?_
  refine aw_iconst (v := 0) d_X11_want_1 ic_0 ?_
  refine aw_bipush (v := 7) d_X11_want_2 ib_7 ?_
  refine aw_Si [.int x1, .int 0, .int 7] [] d_X11_want_4 (cS_X11_within (d + 0) 0 0) tw_543 rfl (rr0 (Nat.le_of_ble_eq_true rfl) (Nat.le_of_ble_eq_true rfl)) (Nat.le_of_ble_eq_true rfl) xs0 (s_X11_within _ _ x1 0 7) (fun _ _ kk => ?_)
  obtain ⟨e1, e2⟩ := kk
  rw [e1, e2]
  refine aw_ifb_eq (tgt := 19) d_X11_want_7 rfl (fun c3 => ?_) (fun c3 => ?_)
  · refine aw_iconst (v := 0) d_X11_want_19 ic_0 ?_
    exact aw_zret rfl rfl d_X11_want_20 ⟨Nat.le_refl _, Nat.le_refl _⟩ ⟨_, rfl, (Or.inl ⟨c3, rfl, rfl⟩)⟩
  · refine aw_iload_n (i := 2) rfl d_X11_want_10 2 rfl ?_
    refine aw_iconst (v := 1) d_X11_want_11 ic_1 ?_
    refine aw_iconst (v := 3) d_X11_want_12 ic_3 ?_
    refine aw_Si [.int x2, .int 1, .int 3] [] d_X11_want_13 (cS_X11_within (d + 0) 0 0) tw_543 rfl (rr0 (Nat.le_of_ble_eq_true rfl) (Nat.le_of_ble_eq_true rfl)) (Nat.le_of_ble_eq_true rfl) xs0 (s_X11_within _ _ x2 1 3) (fun _ _ kk => ?_)
    obtain ⟨e4, e5⟩ := kk
    rw [e4, e5]
    refine aw_ifb_ne (tgt := 21) d_X11_want_16 rfl (fun c6 => ?_) (fun c6 => ?_)
    · refine aw_aload_n (i := 0) rfl d_X11_want_21 0 rfl ?_
      refine aw_getr (k0 := 10) kc_11 (ws_0 w) (Nat.le_of_ble_eq_true rfl) tw_497 d_X11_want_22 rfl (wr_0_10 w) ?_
      refine aw_getr (k0 := 5) kc_1 (ws_18 w) (Nat.le_of_ble_eq_true rfl) tw_270 d_X11_want_25 rfl (wr_18_5 w) ?_
      refine aw_iload_n (i := 1) rfl d_X11_want_28 1 rfl ?_
      refine aw_iload_n (i := 2) rfl d_X11_want_29 2 rfl ?_
      refine aw_iast (ws_75 w) (vin_of c3 (by decide) (by decide)) d_X11_want_30 ?_
      refine aw_iconst (v := 1) d_X11_want_31 ic_1 ?_
      exact aw_zret rfl rfl d_X11_want_32 ⟨Nat.le_refl _, Nat.le_refl _⟩ ⟨_, rfl, (Or.inr (Or.inl ⟨c3, c6, rfl, rfl⟩))⟩
    · refine aw_iconst (v := 0) d_X11_want_19 ic_0 ?_
      exact aw_zret rfl rfl d_X11_want_20 ⟨Nat.le_refl _, Nat.le_refl _⟩ ⟨_, rfl, (Or.inr (Or.inr ⟨c3, c6, rfl, rfl⟩))⟩
theorem f_X1_has_53 (d : Nat) (h : Hp_) (w : Wf h) (e_18_3 : h_i h 18 3 = 0)  (x1 : Int32) : Ci (m_X1_has (d + 0) 0 0) [.ref 18, .int x1] h (fun r h' => (x1 < 0 ∧ r = 0 ∧ h' = h) ∨ (¬ x1 < 0 ∧ r = 0 ∧ h' = h)) := by
  refine Ct.of (fun _ _ _ => trivial) rfl (Nat.le_of_ble_eq_true rfl) ?_
  show AW (m_X1_has (d + 0) 0 0) 0 0 0 [(0, .ref 18), (1, .int x1)] [] h (kI (fun r h' => (x1 < 0 ∧ r = 0 ∧ h' = h) ∨ (¬ x1 < 0 ∧ r = 0 ∧ h' = h)))
  refine aw_iload_n (i := 1) rfl d_X1_has_0 1 rfl ?_
  refine aw_if_lt (tgt := 16) d_X1_has_1 rfl (fun c1 => ?_) (fun c1 => ?_)
  · refine aw_iconst (v := 0) d_X1_has_16 ic_0 ?_
    exact aw_zret rfl rfl d_X1_has_17 ⟨Nat.le_refl _, Nat.le_refl _⟩ ⟨_, rfl, (Or.inl ⟨c1, rfl, rfl⟩)⟩
  · refine aw_iload_n (i := 1) rfl d_X1_has_4 1 rfl ?_
    refine aw_aload_n (i := 0) rfl d_X1_has_5 0 rfl ?_
    refine aw_geti (k0 := 3) kc_1 (ws_18 w) (Nat.le_of_ble_eq_true rfl) tw_265 d_X1_has_6 rfl ?_
    refine aw_vi (v2 := 0) e_18_3 ?_
    refine aw_icmp_ge (tgt := 16) d_X1_has_9 rfl (fun c2 => ?_) (fun c2 => (by exfalso; grind))
    refine aw_iconst (v := 0) d_X1_has_16 ic_0 ?_
    exact aw_zret rfl rfl d_X1_has_17 ⟨Nat.le_refl _, Nat.le_refl _⟩ ⟨_, rfl, (Or.inr ⟨c1, rfl, rfl⟩)⟩
theorem f_X11_state (d : Nat) (h : Hp_) (w : Wf h) (e_18_3 : h_i h 18 3 = 0)  (x1 : Int32) (x2 : Int32) (x3 : Int32) (x4 : Int32) : Ci (m_X11_state (d + 1) 0 0) [.ref 0, .int x1, .int x2, .int x3, .int x4] h (fun r h' => (x1 < 0 ∧ r = (-1) ∧ h' = h) ∨ (¬ x1 < 0 ∧ r = (-1) ∧ h' = h)) := by
  refine Ct.of (fun _ _ _ => trivial) rfl (Nat.le_of_ble_eq_true rfl) ?_
  show AW (m_X11_state (d + 1) 0 0) 0 0 0 [(0, .ref 0), (1, .int x1), (2, .int x2), (3, .int x3), (4, .int x4)] [] h (kI (fun r h' => (x1 < 0 ∧ r = (-1) ∧ h' = h) ∨ (¬ x1 < 0 ∧ r = (-1) ∧ h' = h)))
  refine aw_aload_n (i := 0) rfl d_X11_state_0 0 rfl ?_
  refine aw_getr (k0 := 10) kc_11 (ws_0 w) (Nat.le_of_ble_eq_true rfl) tw_497 d_X11_state_1 rfl (wr_0_10 w) ?_
  refine aw_iload_n (i := 1) rfl d_X11_state_4 1 rfl ?_
  refine aw_Vi 18 [.int x1] [] d_X11_state_5 (cV_X1_has (d + 0) 0 0) kc_1 (ws_18 w) tw_1219 rfl (rr0 (Nat.le_of_ble_eq_true rfl) (Nat.le_of_ble_eq_true rfl)) (Nat.le_of_ble_eq_true rfl) xs0 (f_X1_has_53 d h w e_18_3 x1) (fun r1 h2 kk => ?_)
  rcases kk with ⟨c3, ez8, ez9⟩ | ⟨c4, ez8, ez9⟩
  · obtain rfl := ez8.symm
    obtain rfl := ez9.symm
    refine aw_if_eq (tgt := 31) d_X11_state_8 rfl (fun _ => ?_) (fun c => absurd c (by decide))
    refine aw_iconst (v := (-1)) d_X11_state_31 ic_m1 ?_
    exact aw_iret rfl d_X11_state_32 ⟨Nat.le_refl _, Nat.le_refl _⟩ ⟨_, rfl, (Or.inl ⟨c3, rfl, rfl⟩)⟩
  · obtain rfl := ez8.symm
    obtain rfl := ez9.symm
    refine aw_if_eq (tgt := 31) d_X11_state_8 rfl (fun _ => ?_) (fun c => absurd c (by decide))
    refine aw_iconst (v := (-1)) d_X11_state_31 ic_m1 ?_
    exact aw_iret rfl d_X11_state_32 ⟨Nat.le_refl _, Nat.le_refl _⟩ ⟨_, rfl, (Or.inr ⟨c4, rfl, rfl⟩)⟩
theorem f_X1_strike_55 (d : Nat) (h : Hp_) (w : Wf h) (e_18_3 : h_i h 18 3 = 0) (ea_78 : ∀ k, k < 16 → h_i h 78 k = (-1)) (x1 : Int32) : Ci (m_X1_strike (d + 1) 0 0) [.ref 18, .int x1, .int 0] h (fun r h' => (¬ (0 ≤ x1 ∧ x1 ≤ 15) ∧ r = (-1) ∧ h' = h) ∨ ((0 ≤ x1 ∧ x1 ≤ 15) ∧ r = 0 ∧ h' = h_im h 78 x1.toNatClampNeg 0)) := by
  refine Ct.of (fun _ _ _ => trivial) rfl (Nat.le_of_ble_eq_true rfl) ?_
  show AW (m_X1_strike (d + 1) 0 0) 0 0 0 [(0, .ref 18), (1, .int x1), (2, .int 0)] [] h (kI (fun r h' => (¬ (0 ≤ x1 ∧ x1 ≤ 15) ∧ r = (-1) ∧ h' = h) ∨ ((0 ≤ x1 ∧ x1 ≤ 15) ∧ r = 0 ∧ h' = h_im h 78 x1.toNatClampNeg 0)))
  refine aw_iload_n (i := 1) rfl d_X1_strike_0 1 rfl ?_
  refine aw_iconst (v := 0) d_X1_strike_1 ic_0 ?_
  refine aw_bipush (v := 15) d_X1_strike_2 ib_15 ?_
  refine aw_SNi [.int x1, .int 0, .int 15] [] d_X1_strike_4 (cS_X11_within (d + 0) 0 0) (List.mem_of_getElem? (i := 12) rfl) rfl (rr0 (Nat.le_of_ble_eq_true rfl) (Nat.le_of_ble_eq_true rfl)) (Nat.le_of_ble_eq_true rfl) xs0 (s_X11_within _ _ x1 0 15) (fun _ _ kk => ?_)
  obtain ⟨e1, e2⟩ := kk
  rw [e1, e2]
  refine aw_ifb_eq (tgt := 20) d_X1_strike_7 rfl (fun c3 => ?_) (fun c3 => ?_)
  · refine aw_iconst (v := (-1)) d_X1_strike_20 ic_m1 ?_
    exact aw_iret rfl d_X1_strike_21 ⟨Nat.le_refl _, Nat.le_refl _⟩ ⟨_, rfl, (Or.inl ⟨c3, rfl, rfl⟩)⟩
  · refine aw_aload_n (i := 0) rfl d_X1_strike_10 0 rfl ?_
    refine aw_getr (k0 := 9) kc_1 (ws_18 w) (Nat.le_of_ble_eq_true rfl) tw_275 d_X1_strike_11 rfl (wr_18_9 w) ?_
    refine aw_iload_n (i := 1) rfl d_X1_strike_14 1 rfl ?_
    refine aw_iald (ws_78 w) (vin_of c3 (by decide) (by decide)) d_X1_strike_15 ?_
    refine aw_vi (v2 := (-1)) (ea_78 _ (vin_lt (n := 16) (vin_of c3 (by decide) (by decide)))) ?_
    refine aw_iconst (v := (-1)) d_X1_strike_16 ic_m1 ?_
    refine aw_icmp_eq (tgt := 22) d_X1_strike_17 rfl (fun _ => ?_) (fun c => absurd c (by decide))
    refine aw_iconst (v := 0) d_X1_strike_22 ic_0 ?_
    refine aw_istore_n (i := 3) rfl [(0, .ref 18), (1, .int x1), (2, .int 0), (3, .int 0)] d_X1_strike_23 (Nat.le_of_ble_eq_true rfl) rfl rfl ?_
    refine aw_iload_n (i := 3) rfl d_X1_strike_24 3 rfl ?_
    refine aw_aload_n (i := 0) rfl d_X1_strike_25 0 rfl ?_
    refine aw_geti (k0 := 3) kc_1 (ws_18 w) (Nat.le_of_ble_eq_true rfl) tw_265 d_X1_strike_26 rfl ?_
    refine aw_vi (v2 := 0) e_18_3 ?_
    refine aw_icmp_ge (tgt := 50) d_X1_strike_29 rfl (fun _ => ?_) (fun c => absurd c (by decide))
    refine aw_aload_n (i := 0) rfl d_X1_strike_50 0 rfl ?_
    refine aw_getr (k0 := 9) kc_1 (ws_18 w) (Nat.le_of_ble_eq_true rfl) tw_275 d_X1_strike_51 rfl (wr_18_9 w) ?_
    refine aw_iload_n (i := 1) rfl d_X1_strike_54 1 rfl ?_
    refine aw_iload_n (i := 2) rfl d_X1_strike_55 2 rfl ?_
    refine aw_iast (ws_78 w) (vin_of c3 (by decide) (by decide)) d_X1_strike_56 ?_
    refine aw_iconst (v := 0) d_X1_strike_57 ic_0 ?_
    refine aw_istore_n (i := 3) rfl [(0, .ref 18), (1, .int x1), (2, .int 0), (3, .int 0)] d_X1_strike_58 (Nat.le_of_ble_eq_true rfl) rfl rfl ?_
    refine aw_iconst (v := 0) d_X1_strike_59 ic_0 ?_
    refine aw_istore [(0, .ref 18), (1, .int x1), (2, .int 0), (3, .int 0), (4, .int 0)] d_X1_strike_60 (Nat.le_of_ble_eq_true rfl) rfl rfl ?_
    refine aw_iload d_X1_strike_62 4 rfl ?_
    refine aw_aload_n (i := 0) rfl d_X1_strike_64 0 rfl ?_
    refine aw_geti (k0 := 3) kc_1 (ws_18 w) (Nat.le_of_ble_eq_true rfl) tw_265 d_X1_strike_65 rfl ?_
    refine aw_vi (v2 := 0) e_18_3 ?_
    refine aw_icmp_ge (tgt := 97) d_X1_strike_68 rfl (fun _ => ?_) (fun c => absurd c (by decide))
    refine aw_iload_n (i := 3) rfl d_X1_strike_97 3 rfl ?_
    exact aw_iret rfl d_X1_strike_98 ⟨Nat.le_refl _, Nat.le_refl _⟩ ⟨_, rfl, (Or.inr ⟨c3, rfl, rfl⟩)⟩
theorem f_X11_withdraw (d : Nat) (h : Hp_) (w : Wf h) (e_0_0 : h_i h 0 0 = 0) (e_18_3 : h_i h 18 3 = 0) (ea_78 : ∀ k, k < 16 → h_i h 78 k = (-1)) (x1 : Int32) : Ci (m_X11_withdraw (d + 2) 0 0) [.ref 0, .int x1] h (fun r h' => (¬ (0 ≤ x1 ∧ x1 ≤ 15) ∧ r = (-1) ∧ h' = h) ∨ ((0 ≤ x1 ∧ x1 ≤ 15) ∧ (0 ≤ x1 ∧ x1 ≤ 15) ∧ r = 0 ∧ h' = h_im h 78 x1.toNatClampNeg 0)) := by
  refine Ct.of (fun _ _ _ => trivial) rfl (Nat.le_of_ble_eq_true rfl) ?_
  show AW (m_X11_withdraw (d + 2) 0 0) 0 0 0 [(0, .ref 0), (1, .int x1)] [] h (kI (fun r h' => (¬ (0 ≤ x1 ∧ x1 ≤ 15) ∧ r = (-1) ∧ h' = h) ∨ ((0 ≤ x1 ∧ x1 ≤ 15) ∧ (0 ≤ x1 ∧ x1 ≤ 15) ∧ r = 0 ∧ h' = h_im h 78 x1.toNatClampNeg 0)))
  refine aw_iload_n (i := 1) rfl d_X11_withdraw_0 1 rfl ?_
  refine aw_iconst (v := 0) d_X11_withdraw_1 ic_0 ?_
  refine aw_bipush (v := 15) d_X11_withdraw_2 ib_15 ?_
  refine aw_Si [.int x1, .int 0, .int 15] [] d_X11_withdraw_4 (cS_X11_within (d + 0) 0 0) tw_543 rfl (rr0 (Nat.le_of_ble_eq_true rfl) (Nat.le_of_ble_eq_true rfl)) (Nat.le_of_ble_eq_true rfl) xs0 (s_X11_within _ _ x1 0 15) (fun _ _ kk => ?_)
  obtain ⟨e1, e2⟩ := kk
  rw [e1, e2]
  refine aw_ifb_eq (tgt := 25) d_X11_withdraw_7 rfl (fun c3 => ?_) (fun c3 => ?_)
  · refine aw_iconst (v := (-1)) d_X11_withdraw_25 ic_m1 ?_
    exact aw_iret rfl d_X11_withdraw_26 ⟨Nat.le_refl _, Nat.le_refl _⟩ ⟨_, rfl, (Or.inl ⟨c3, rfl, rfl⟩)⟩
  · refine aw_aload_n (i := 0) rfl d_X11_withdraw_10 0 rfl ?_
    refine aw_getr (k0 := 10) kc_11 (ws_0 w) (Nat.le_of_ble_eq_true rfl) tw_497 d_X11_withdraw_11 rfl (wr_0_10 w) ?_
    refine aw_iload_n (i := 1) rfl d_X11_withdraw_14 1 rfl ?_
    refine aw_aload_n (i := 0) rfl d_X11_withdraw_15 0 rfl ?_
    refine aw_geti (k0 := 0) kc_11 (ws_0 w) (Nat.le_of_ble_eq_true rfl) tw_487 d_X11_withdraw_16 rfl ?_
    refine aw_vi (v2 := 0) e_0_0 ?_
    refine aw_Vi 18 [.int x1, .int 0] [] d_X11_withdraw_19 (cV_X1_strike (d + 1) 0 0) kc_1 (ws_18 w) tw_1232 rfl (rr0 (Nat.le_of_ble_eq_true rfl) (Nat.le_of_ble_eq_true rfl)) (Nat.le_of_ble_eq_true rfl) xs0 (f_X1_strike_55 d h w e_18_3 ea_78 x1) (fun r4 h5 kk => ?_)
    rcases kk with ⟨c6, ez8, ez9⟩ | ⟨c7, ez8, ez9⟩
    · exfalso; grind
    · obtain rfl := ez8.symm
      obtain rfl := ez9.symm
      refine aw_goto (tgt := 26) d_X11_withdraw_22 rfl ?_
      exact aw_iret rfl d_X11_withdraw_26 ⟨Nat.le_refl _, Nat.le_refl _⟩ ⟨_, rfl, (Or.inr ⟨c3, c7, rfl, rfl⟩)⟩
theorem f_X1_wasOpen_57 (d : Nat) (h : Hp_) (w : Wf h) (e_18_3 : h_i h 18 3 = 0)  (x1 : Int32) (x2 : Int32) : Ci (m_X1_wasOpen (d + 1) 0 0) [.ref 18, .int x1, .int x2] h (fun r h' => (x1 < 0 ∧ r = 0 ∧ h' = h) ∨ (¬ x1 < 0 ∧ r = 0 ∧ h' = h)) := by
  refine Ct.of (fun _ _ _ => trivial) rfl (Nat.le_of_ble_eq_true rfl) ?_
  show AW (m_X1_wasOpen (d + 1) 0 0) 0 0 0 [(0, .ref 18), (1, .int x1), (2, .int x2)] [] h (kI (fun r h' => (x1 < 0 ∧ r = 0 ∧ h' = h) ∨ (¬ x1 < 0 ∧ r = 0 ∧ h' = h)))
  refine aw_aload_n (i := 0) rfl d_X1_wasOpen_0 0 rfl ?_
  refine aw_iload_n (i := 1) rfl d_X1_wasOpen_1 1 rfl ?_
  refine aw_Vi 18 [.int x1] [] d_X1_wasOpen_2 (cV_X1_has (d + 0) 0 0) kc_1 (ws_18 w) tw_1256 rfl (rr0 (Nat.le_of_ble_eq_true rfl) (Nat.le_of_ble_eq_true rfl)) (Nat.le_of_ble_eq_true rfl) xs0 (f_X1_has_53 d h w e_18_3 x1) (fun r1 h2 kk => ?_)
  rcases kk with ⟨c3, ez8, ez9⟩ | ⟨c4, ez8, ez9⟩
  · obtain rfl := ez8.symm
    obtain rfl := ez9.symm
    refine aw_if_eq (tgt := 22) d_X1_wasOpen_5 rfl (fun _ => ?_) (fun c => absurd c (by decide))
    refine aw_iconst (v := 0) d_X1_wasOpen_22 ic_0 ?_
    exact aw_zret rfl rfl d_X1_wasOpen_23 ⟨Nat.le_refl _, Nat.le_refl _⟩ ⟨_, rfl, (Or.inl ⟨c3, rfl, rfl⟩)⟩
  · obtain rfl := ez8.symm
    obtain rfl := ez9.symm
    refine aw_if_eq (tgt := 22) d_X1_wasOpen_5 rfl (fun _ => ?_) (fun c => absurd c (by decide))
    refine aw_iconst (v := 0) d_X1_wasOpen_22 ic_0 ?_
    exact aw_zret rfl rfl d_X1_wasOpen_23 ⟨Nat.le_refl _, Nat.le_refl _⟩ ⟨_, rfl, (Or.inr ⟨c4, rfl, rfl⟩)⟩
theorem f_X11_fact (d : Nat) (h : Hp_) (w : Wf h) (e_0_0 : h_i h 0 0 = 0) (e_18_3 : h_i h 18 3 = 0)  (x1 : Int32) (x2 : Int32) (x3 : Int32) : Ci (m_X11_fact (d + 2) 0 0) [.ref 0, .int x1, .int x2, .int x3] h (fun r h' => (¬ (0 ≤ x2 ∧ x2 ≤ 7) ∧ r = (-1) ∧ h' = h) ∨ ((0 ≤ x2 ∧ x2 ≤ 7) ∧ ¬ (0 ≤ x3 ∧ x3 ≤ 0) ∧ r = (-1) ∧ h' = h) ∨ ((0 ≤ x2 ∧ x2 ≤ 7) ∧ (0 ≤ x3 ∧ x3 ≤ 0) ∧ x1 < 0 ∧ r = (-1) ∧ h' = h) ∨ ((0 ≤ x2 ∧ x2 ≤ 7) ∧ (0 ≤ x3 ∧ x3 ≤ 0) ∧ ¬ x1 < 0 ∧ r = (-1) ∧ h' = h)) := by
  refine Ct.of (fun _ _ _ => trivial) rfl (Nat.le_of_ble_eq_true rfl) ?_
  show AW (m_X11_fact (d + 2) 0 0) 0 0 0 [(0, .ref 0), (1, .int x1), (2, .int x2), (3, .int x3)] [] h (kI (fun r h' => (¬ (0 ≤ x2 ∧ x2 ≤ 7) ∧ r = (-1) ∧ h' = h) ∨ ((0 ≤ x2 ∧ x2 ≤ 7) ∧ ¬ (0 ≤ x3 ∧ x3 ≤ 0) ∧ r = (-1) ∧ h' = h) ∨ ((0 ≤ x2 ∧ x2 ≤ 7) ∧ (0 ≤ x3 ∧ x3 ≤ 0) ∧ x1 < 0 ∧ r = (-1) ∧ h' = h) ∨ ((0 ≤ x2 ∧ x2 ≤ 7) ∧ (0 ≤ x3 ∧ x3 ≤ 0) ∧ ¬ x1 < 0 ∧ r = (-1) ∧ h' = h)))
  refine aw_iload_n (i := 2) rfl d_X11_fact_0 2 rfl ?_
  refine aw_iconst (v := 0) d_X11_fact_1 ic_0 ?_
  refine aw_bipush (v := 7) d_X11_fact_2 ib_7 ?_
  refine aw_Si [.int x2, .int 0, .int 7] [] d_X11_fact_4 (cS_X11_within (d + 0) 0 0) tw_543 rfl (rr0 (Nat.le_of_ble_eq_true rfl) (Nat.le_of_ble_eq_true rfl)) (Nat.le_of_ble_eq_true rfl) xs0 (s_X11_within _ _ x2 0 7) (fun _ _ kk => ?_)
  obtain ⟨e1, e2⟩ := kk
  rw [e1, e2]
  refine aw_ifb_eq (tgt := 30) d_X11_fact_7 rfl (fun c3 => ?_) (fun c3 => ?_)
  · refine aw_iconst (v := (-1)) d_X11_fact_30 ic_m1 ?_
    exact aw_iret rfl d_X11_fact_31 ⟨Nat.le_refl _, Nat.le_refl _⟩ ⟨_, rfl, (Or.inl ⟨c3, rfl, rfl⟩)⟩
  · refine aw_aload_n (i := 0) rfl d_X11_fact_10 0 rfl ?_
    refine aw_iload_n (i := 3) rfl d_X11_fact_11 3 rfl ?_
    refine aw_Vi 0 [.int x3] [] d_X11_fact_12 (cV_X11_isKnown (d + 1) 0 0) kc_11 (ws_0 w) tw_1102 rfl (rr0 (Nat.le_of_ble_eq_true rfl) (Nat.le_of_ble_eq_true rfl)) (Nat.le_of_ble_eq_true rfl) xs0 (f_X11_isKnown_33 d h w e_0_0 x3) (fun r4 h5 kk => ?_)
    obtain ⟨ez8, ez9⟩ := kk
    obtain rfl := ez8.symm
    obtain rfl := ez9.symm
    refine aw_ifb_eq (tgt := 30) d_X11_fact_15 rfl (fun c6 => ?_) (fun c6 => ?_)
    · refine aw_iconst (v := (-1)) d_X11_fact_30 ic_m1 ?_
      exact aw_iret rfl d_X11_fact_31 ⟨Nat.le_refl _, Nat.le_refl _⟩ ⟨_, rfl, (Or.inr (Or.inl ⟨c3, c6, rfl, rfl⟩))⟩
    · refine aw_aload_n (i := 0) rfl d_X11_fact_18 0 rfl ?_
      refine aw_getr (k0 := 10) kc_11 (ws_0 w) (Nat.le_of_ble_eq_true rfl) tw_497 d_X11_fact_19 rfl (wr_0_10 w) ?_
      refine aw_iload_n (i := 1) rfl d_X11_fact_22 1 rfl ?_
      refine aw_iload_n (i := 3) rfl d_X11_fact_23 3 rfl ?_
      refine aw_Vi 18 [.int x1, .int x3] [] d_X11_fact_24 (cV_X1_wasOpen (d + 1) 0 0) kc_1 (ws_18 w) tw_1279 rfl (rr0 (Nat.le_of_ble_eq_true rfl) (Nat.le_of_ble_eq_true rfl)) (Nat.le_of_ble_eq_true rfl) xs0 (f_X1_wasOpen_57 d h w e_18_3 x1 x3) (fun r7 h8 kk => ?_)
      rcases kk with ⟨c9, ez8, ez9⟩ | ⟨c10, ez8, ez9⟩
      · obtain rfl := ez8.symm
        obtain rfl := ez9.symm
        refine aw_if_ne (tgt := 32) d_X11_fact_27 rfl (fun c => absurd c (by decide)) (fun _ => ?_)
        refine aw_iconst (v := (-1)) d_X11_fact_30 ic_m1 ?_
        exact aw_iret rfl d_X11_fact_31 ⟨Nat.le_refl _, Nat.le_refl _⟩ ⟨_, rfl, (Or.inr (Or.inr (Or.inl ⟨c3, c6, c9, rfl, rfl⟩)))⟩
      · obtain rfl := ez8.symm
        obtain rfl := ez9.symm
        refine aw_if_ne (tgt := 32) d_X11_fact_27 rfl (fun c => absurd c (by decide)) (fun _ => ?_)
        refine aw_iconst (v := (-1)) d_X11_fact_30 ic_m1 ?_
        exact aw_iret rfl d_X11_fact_31 ⟨Nat.le_refl _, Nat.le_refl _⟩ ⟨_, rfl, (Or.inr (Or.inr (Or.inr ⟨c3, c6, c10, rfl, rfl⟩)))⟩
