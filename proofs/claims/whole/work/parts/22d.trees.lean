theorem t_X11_joined (d : Nat) (h : Hp_) (w : Wf h) (x1 : Int32) (K : Int32 → Hp_ → Prop) (k : Ci (m_X3_hasLost (d + 0) 0 0) [.ref 19, .int x1] h (fun r3 h1 => Wf h1 ∧ ((r3 = 0 → K (-1) h1) ∧ (¬ r3 = 0 → Ci (m_X3_firstOf (d + 4) 0 0) [.ref 19, .int x1] h1 (fun r7 h5 => Wf h5 ∧ (K r7 h5)))))) : Ci (m_X11_joined (d + 5) 0 0) [.ref 0, .int x1] h K := by
  refine Ct.of (fun _ _ _ => trivial) rfl (Nat.le_of_ble_eq_true rfl) ?_
  show AW (m_X11_joined (d + 5) 0 0) 0 0 0 [(0, .ref 0), (1, .int x1)] [] h (kI K)
  refine aw_aload_n (i := 0) rfl d_X11_joined_0 0 rfl ?_
  refine aw_getr (k0 := 11) kc_11 (ws_0 w) (Nat.le_of_ble_eq_true rfl) tw_498 d_X11_joined_1 rfl (wr_0_11 w) ?_
  refine aw_iload_n (i := 1) rfl d_X11_joined_4 1 rfl ?_
  refine aw_Vi 19 [.int x1] [] d_X11_joined_5 (cV_X3_hasLost (d + 0) 0 0) kc_3 (ws_19 w) tw_1380 rfl (rr0 (Nat.le_of_ble_eq_true rfl) (Nat.le_of_ble_eq_true rfl)) (Nat.le_of_ble_eq_true rfl) xs0 k (fun r3 h1 kk => ?_)
  obtain ⟨w2, k⟩ := kk
  refine aw_if_eq (tgt := 22) d_X11_joined_8 rfl (fun c4 => ?_) (fun c4 => ?_)
  · have k := k.1 c4
    refine aw_iconst (v := (-1)) d_X11_joined_22 ic_m1 ?_
    exact aw_iret rfl d_X11_joined_23 ⟨Nat.le_refl _, Nat.le_refl _⟩ ⟨_, rfl, k⟩
  · have k := k.2 c4
    refine aw_aload_n (i := 0) rfl d_X11_joined_11 0 rfl ?_
    refine aw_getr (k0 := 11) kc_11 (ws_0 w2) (Nat.le_of_ble_eq_true rfl) tw_498 d_X11_joined_12 rfl (wr_0_11 w2) ?_
    refine aw_iload_n (i := 1) rfl d_X11_joined_15 1 rfl ?_
    refine aw_Vi 19 [.int x1] [] d_X11_joined_16 (cV_X3_firstOf (d + 4) 0 0) kc_3 (ws_19 w2) tw_1384 rfl (rr0 (Nat.le_of_ble_eq_true rfl) (Nat.le_of_ble_eq_true rfl)) (Nat.le_of_ble_eq_true rfl) xs0 k (fun r7 h5 kk => ?_)
    obtain ⟨w6, k⟩ := kk
    refine aw_goto (tgt := 23) d_X11_joined_19 rfl ?_
    exact aw_iret rfl d_X11_joined_23 ⟨Nat.le_refl _, Nat.le_refl _⟩ ⟨_, rfl, k⟩
theorem t_X11_rivals (d : Nat) (h : Hp_) (w : Wf h) (x1 : Int32) (K : Int32 → Hp_ → Prop) (k : Ci (m_X3_hasLost (d + 0) 0 0) [.ref 19, .int x1] h (fun r3 h1 => Wf h1 ∧ ((r3 = 0 → K (-1) h1) ∧ (¬ r3 = 0 → Ci (m_X3_foundFor (d + 4) 0 0) [.ref 19, .int x1] h1 (fun r7 h5 => Wf h5 ∧ (K r7 h5)))))) : Ci (m_X11_rivals (d + 5) 0 0) [.ref 0, .int x1] h K := by
  refine Ct.of (fun _ _ _ => trivial) rfl (Nat.le_of_ble_eq_true rfl) ?_
  show AW (m_X11_rivals (d + 5) 0 0) 0 0 0 [(0, .ref 0), (1, .int x1)] [] h (kI K)
  refine aw_aload_n (i := 0) rfl d_X11_rivals_0 0 rfl ?_
  refine aw_getr (k0 := 11) kc_11 (ws_0 w) (Nat.le_of_ble_eq_true rfl) tw_498 d_X11_rivals_1 rfl (wr_0_11 w) ?_
  refine aw_iload_n (i := 1) rfl d_X11_rivals_4 1 rfl ?_
  refine aw_Vi 19 [.int x1] [] d_X11_rivals_5 (cV_X3_hasLost (d + 0) 0 0) kc_3 (ws_19 w) tw_1380 rfl (rr0 (Nat.le_of_ble_eq_true rfl) (Nat.le_of_ble_eq_true rfl)) (Nat.le_of_ble_eq_true rfl) xs0 k (fun r3 h1 kk => ?_)
  obtain ⟨w2, k⟩ := kk
  refine aw_if_eq (tgt := 22) d_X11_rivals_8 rfl (fun c4 => ?_) (fun c4 => ?_)
  · have k := k.1 c4
    refine aw_iconst (v := (-1)) d_X11_rivals_22 ic_m1 ?_
    exact aw_iret rfl d_X11_rivals_23 ⟨Nat.le_refl _, Nat.le_refl _⟩ ⟨_, rfl, k⟩
  · have k := k.2 c4
    refine aw_aload_n (i := 0) rfl d_X11_rivals_11 0 rfl ?_
    refine aw_getr (k0 := 11) kc_11 (ws_0 w2) (Nat.le_of_ble_eq_true rfl) tw_498 d_X11_rivals_12 rfl (wr_0_11 w2) ?_
    refine aw_iload_n (i := 1) rfl d_X11_rivals_15 1 rfl ?_
    refine aw_Vi 19 [.int x1] [] d_X11_rivals_16 (cV_X3_foundFor (d + 4) 0 0) kc_3 (ws_19 w2) tw_1393 rfl (rr0 (Nat.le_of_ble_eq_true rfl) (Nat.le_of_ble_eq_true rfl)) (Nat.le_of_ble_eq_true rfl) xs0 k (fun r7 h5 kk => ?_)
    obtain ⟨w6, k⟩ := kk
    refine aw_goto (tgt := 23) d_X11_rivals_19 rfl ?_
    exact aw_iret rfl d_X11_rivals_23 ⟨Nat.le_refl _, Nat.le_refl _⟩ ⟨_, rfl, k⟩
theorem t_X11_sure (d : Nat) (h : Hp_) (w : Wf h) (x1 : Int32) (K : Int32 → Hp_ → Prop) (k : Ci (m_X3_hasLost (d + 0) 0 0) [.ref 19, .int x1] h (fun r3 h1 => Wf h1 ∧ ((¬ r3 = 0 → Ci (m_X3_isSure (d + 4) 0 0) [.ref 19, .int x1] h1 (fun r7 h5 => Wf h5 ∧ ((r7 = 0 → K 0 h5) ∧ (¬ r7 = 0 → K 1 h5)))) ∧ (r3 = 0 → K (-1) h1)))) : Ci (m_X11_sure (d + 5) 0 0) [.ref 0, .int x1] h K := by
  refine Ct.of (fun _ _ _ => trivial) rfl (Nat.le_of_ble_eq_true rfl) ?_
  show AW (m_X11_sure (d + 5) 0 0) 0 0 0 [(0, .ref 0), (1, .int x1)] [] h (kI K)
  refine aw_aload_n (i := 0) rfl d_X11_sure_0 0 rfl ?_
  refine aw_getr (k0 := 11) kc_11 (ws_0 w) (Nat.le_of_ble_eq_true rfl) tw_498 d_X11_sure_1 rfl (wr_0_11 w) ?_
  refine aw_iload_n (i := 1) rfl d_X11_sure_4 1 rfl ?_
  refine aw_Vi 19 [.int x1] [] d_X11_sure_5 (cV_X3_hasLost (d + 0) 0 0) kc_3 (ws_19 w) tw_1380 rfl (rr0 (Nat.le_of_ble_eq_true rfl) (Nat.le_of_ble_eq_true rfl)) (Nat.le_of_ble_eq_true rfl) xs0 k (fun r3 h1 kk => ?_)
  obtain ⟨w2, k⟩ := kk
  refine aw_if_ne (tgt := 13) d_X11_sure_8 rfl (fun c4 => ?_) (fun c4 => ?_)
  · have k := k.1 c4
    refine aw_aload_n (i := 0) rfl d_X11_sure_13 0 rfl ?_
    refine aw_getr (k0 := 11) kc_11 (ws_0 w2) (Nat.le_of_ble_eq_true rfl) tw_498 d_X11_sure_14 rfl (wr_0_11 w2) ?_
    refine aw_iload_n (i := 1) rfl d_X11_sure_17 1 rfl ?_
    refine aw_Vi 19 [.int x1] [] d_X11_sure_18 (cV_X3_isSure (d + 4) 0 0) kc_3 (ws_19 w2) tw_1401 rfl (rr0 (Nat.le_of_ble_eq_true rfl) (Nat.le_of_ble_eq_true rfl)) (Nat.le_of_ble_eq_true rfl) xs0 k (fun r7 h5 kk => ?_)
    obtain ⟨w6, k⟩ := kk
    refine aw_if_eq (tgt := 28) d_X11_sure_21 rfl (fun c8 => ?_) (fun c8 => ?_)
    · have k := k.1 c8
      refine aw_iconst (v := 0) d_X11_sure_28 ic_0 ?_
      exact aw_iret rfl d_X11_sure_29 ⟨Nat.le_refl _, Nat.le_refl _⟩ ⟨_, rfl, k⟩
    · have k := k.2 c8
      refine aw_iconst (v := 1) d_X11_sure_24 ic_1 ?_
      refine aw_goto (tgt := 29) d_X11_sure_25 rfl ?_
      exact aw_iret rfl d_X11_sure_29 ⟨Nat.le_refl _, Nat.le_refl _⟩ ⟨_, rfl, k⟩
  · have k := k.2 c4
    refine aw_iconst (v := (-1)) d_X11_sure_11 ic_m1 ?_
    exact aw_iret rfl d_X11_sure_12 ⟨Nat.le_refl _, Nat.le_refl _⟩ ⟨_, rfl, k⟩
theorem t_X11_lending (d : Nat) (h : Hp_) (w : Wf h) (x1 : Int32) (K : Int32 → Hp_ → Prop) (k : (¬ (0 ≤ x1 ∧ x1 ≤ 1) → K (-1) h) ∧ ((0 ≤ x1 ∧ x1 ≤ 1) → Ci (m_X11_findLending (d + 4) 0 0) [.ref 0] h (fun r6 h4 => Wf h4 ∧ ((¬ r6 = 0 → (¬ x1 = 0 → Ci (m_X6_minutesWalked (d + 1) 0 0) [.ref 20] h4 (fun r11 h9 => Wf h9 ∧ (K r11 h9))) ∧ (x1 = 0 → Ci (m_X6_pointsLost (d + 1) 0 0) [.ref 20] h4 (fun r14 h12 => Wf h12 ∧ (K r14 h12)))) ∧ (r6 = 0 → K (-1) h4))))) : Ci (m_X11_lending (d + 5) 0 0) [.ref 0, .int x1] h K := by
  refine Ct.of (fun _ _ _ => trivial) rfl (Nat.le_of_ble_eq_true rfl) ?_
  show AW (m_X11_lending (d + 5) 0 0) 0 0 0 [(0, .ref 0), (1, .int x1)] [] h (kI K)
  refine aw_iload_n (i := 1) rfl d_X11_lending_0 1 rfl ?_
  refine aw_iconst (v := 0) d_X11_lending_1 ic_0 ?_
  refine aw_iconst (v := 1) d_X11_lending_2 ic_1 ?_
  refine aw_Si [.int x1, .int 0, .int 1] [] d_X11_lending_3 (cS_X11_within (d + 0) 0 0) tw_543 rfl (rr0 (Nat.le_of_ble_eq_true rfl) (Nat.le_of_ble_eq_true rfl)) (Nat.le_of_ble_eq_true rfl) xs0 (s_X11_within _ _ x1 0 1) (fun _ _ kk => ?_)
  obtain ⟨e1, e2⟩ := kk
  rw [e1, e2]
  refine aw_ifb_eq (tgt := 16) d_X11_lending_6 rfl (fun c3 => ?_) (fun c3 => ?_)
  · have k := k.1 c3
    refine aw_iconst (v := (-1)) d_X11_lending_16 ic_m1 ?_
    exact aw_iret rfl d_X11_lending_17 ⟨Nat.le_refl _, Nat.le_refl _⟩ ⟨_, rfl, k⟩
  · have k := k.2 c3
    refine aw_aload_n (i := 0) rfl d_X11_lending_9 0 rfl ?_
    refine aw_Vi 0 [] [] d_X11_lending_10 (cV_X11_findLending (d + 4) 0 0) kc_11 (ws_0 w) tw_1492 rfl (rr0 (Nat.le_of_ble_eq_true rfl) (Nat.le_of_ble_eq_true rfl)) (Nat.le_of_ble_eq_true rfl) xs0 k (fun r6 h4 kk => ?_)
    obtain ⟨w5, k⟩ := kk
    refine aw_if_ne (tgt := 18) d_X11_lending_13 rfl (fun c7 => ?_) (fun c7 => ?_)
    · have k := k.1 c7
      refine aw_iload_n (i := 1) rfl d_X11_lending_18 1 rfl ?_
      refine aw_if_ne (tgt := 32) d_X11_lending_19 rfl (fun c8 => ?_) (fun c8 => ?_)
      · have k := k.1 c8
        refine aw_aload_n (i := 0) rfl d_X11_lending_32 0 rfl ?_
        refine aw_getr (k0 := 12) kc_11 (ws_0 w5) (Nat.le_of_ble_eq_true rfl) tw_499 d_X11_lending_33 rfl (wr_0_12 w5) ?_
        refine aw_Vi 20 [] [] d_X11_lending_36 (cV_X6_minutesWalked (d + 1) 0 0) kc_6 (ws_20 w5) tw_1541 rfl (rr0 (Nat.le_of_ble_eq_true rfl) (Nat.le_of_ble_eq_true rfl)) (Nat.le_of_ble_eq_true rfl) xs0 k (fun r11 h9 kk => ?_)
        obtain ⟨w10, k⟩ := kk
        exact aw_iret rfl d_X11_lending_39 ⟨Nat.le_refl _, Nat.le_refl _⟩ ⟨_, rfl, k⟩
      · have k := k.2 c8
        refine aw_aload_n (i := 0) rfl d_X11_lending_22 0 rfl ?_
        refine aw_getr (k0 := 12) kc_11 (ws_0 w5) (Nat.le_of_ble_eq_true rfl) tw_499 d_X11_lending_23 rfl (wr_0_12 w5) ?_
        refine aw_Vi 20 [] [] d_X11_lending_26 (cV_X6_pointsLost (d + 1) 0 0) kc_6 (ws_20 w5) tw_1537 rfl (rr0 (Nat.le_of_ble_eq_true rfl) (Nat.le_of_ble_eq_true rfl)) (Nat.le_of_ble_eq_true rfl) xs0 k (fun r14 h12 kk => ?_)
        obtain ⟨w13, k⟩ := kk
        refine aw_goto (tgt := 39) d_X11_lending_29 rfl ?_
        exact aw_iret rfl d_X11_lending_39 ⟨Nat.le_refl _, Nat.le_refl _⟩ ⟨_, rfl, k⟩
    · have k := k.2 c7
      refine aw_iconst (v := (-1)) d_X11_lending_16 ic_m1 ?_
      exact aw_iret rfl d_X11_lending_17 ⟨Nat.le_refl _, Nat.le_refl _⟩ ⟨_, rfl, k⟩
theorem t_X11_lent (d : Nat) (h : Hp_) (w : Wf h) (x1 : Int32) (K : Int32 → Hp_ → Prop) (k : Ci (m_X11_isMan (d + 2) 0 0) [.ref 0, .int x1] h (fun r3 h1 => Wf h1 ∧ ((r3 = 0 → K (-1) h1) ∧ (¬ r3 = 0 → Ci (m_X11_findLending (d + 4) 0 0) [.ref 0] h1 (fun r7 h5 => Wf h5 ∧ ((r7 = 0 → K (-1) h5) ∧ (¬ r7 = 0 → Ci (m_X6_fairOf (d + 1) 0 0) [.ref 20, .int x1] h5 (fun r11 h9 => Wf h9 ∧ (K r11 h9))))))))) : Ci (m_X11_lent (d + 5) 0 0) [.ref 0, .int x1] h K := by
  refine Ct.of (fun _ _ _ => trivial) rfl (Nat.le_of_ble_eq_true rfl) ?_
  show AW (m_X11_lent (d + 5) 0 0) 0 0 0 [(0, .ref 0), (1, .int x1)] [] h (kI K)
  refine aw_aload_n (i := 0) rfl d_X11_lent_0 0 rfl ?_
  refine aw_iload_n (i := 1) rfl d_X11_lent_1 1 rfl ?_
  refine aw_Vi 0 [.int x1] [] d_X11_lent_2 (cV_X11_isMan (d + 2) 0 0) kc_11 (ws_0 w) tw_1098 rfl (rr0 (Nat.le_of_ble_eq_true rfl) (Nat.le_of_ble_eq_true rfl)) (Nat.le_of_ble_eq_true rfl) xs0 k (fun r3 h1 kk => ?_)
  obtain ⟨w2, k⟩ := kk
  refine aw_if_eq (tgt := 26) d_X11_lent_5 rfl (fun c4 => ?_) (fun c4 => ?_)
  · have k := k.1 c4
    refine aw_iconst (v := (-1)) d_X11_lent_26 ic_m1 ?_
    exact aw_iret rfl d_X11_lent_27 ⟨Nat.le_refl _, Nat.le_refl _⟩ ⟨_, rfl, k⟩
  · have k := k.2 c4
    refine aw_aload_n (i := 0) rfl d_X11_lent_8 0 rfl ?_
    refine aw_Vi 0 [] [] d_X11_lent_9 (cV_X11_findLending (d + 4) 0 0) kc_11 (ws_0 w2) tw_1492 rfl (rr0 (Nat.le_of_ble_eq_true rfl) (Nat.le_of_ble_eq_true rfl)) (Nat.le_of_ble_eq_true rfl) xs0 k (fun r7 h5 kk => ?_)
    obtain ⟨w6, k⟩ := kk
    refine aw_if_eq (tgt := 26) d_X11_lent_12 rfl (fun c8 => ?_) (fun c8 => ?_)
    · have k := k.1 c8
      refine aw_iconst (v := (-1)) d_X11_lent_26 ic_m1 ?_
      exact aw_iret rfl d_X11_lent_27 ⟨Nat.le_refl _, Nat.le_refl _⟩ ⟨_, rfl, k⟩
    · have k := k.2 c8
      refine aw_aload_n (i := 0) rfl d_X11_lent_15 0 rfl ?_
      refine aw_getr (k0 := 12) kc_11 (ws_0 w6) (Nat.le_of_ble_eq_true rfl) tw_499 d_X11_lent_16 rfl (wr_0_12 w6) ?_
      refine aw_iload_n (i := 1) rfl d_X11_lent_19 1 rfl ?_
      refine aw_Vi 20 [.int x1] [] d_X11_lent_20 (cV_X6_fairOf (d + 1) 0 0) kc_6 (ws_20 w6) tw_1549 rfl (rr0 (Nat.le_of_ble_eq_true rfl) (Nat.le_of_ble_eq_true rfl)) (Nat.le_of_ble_eq_true rfl) xs0 k (fun r11 h9 kk => ?_)
      obtain ⟨w10, k⟩ := kk
      refine aw_goto (tgt := 27) d_X11_lent_23 rfl ?_
      exact aw_iret rfl d_X11_lent_27 ⟨Nat.le_refl _, Nat.le_refl _⟩ ⟨_, rfl, k⟩
theorem t_X11_wageOf (d : Nat) (h : Hp_) (w : Wf h) (x1 : Nat) (hs_x1 : h_sh h x1 = some (12, 17)) (lb_x1 : 400 ≤ x1) (x2 : Int32) (x3 : Int32) (K : Int32 → Hp_ → Prop) (k : Ci (m_X5_classOf (d + 1) 0 0) [.ref 21, .ref x1, .int x2, .int x3] h (fun r3 h1 => Wf h1 ∧ h_sh h1 x1 = some (12, 17) ∧ (vp_in 0 6 ∧ (vp_in 1 6 ∧ (Ci (m_X7_countMet (d + 1) 0 0) [.ref 16, .int (h_i h1 x1 0), .int x2, .int x3] (h_im (h_im h1 108 (0 : Int32).toNatClampNeg r3) 108 (1 : Int32).toNatClampNeg (h_i h1 x1 2)) (fun r9 h7 => Wf h7 ∧ h_sh h7 x1 = some (12, 17) ∧ (vp_in 2 6 ∧ (Ci (m_X7_countBlamed (d + 2) 0 0) [.ref 16, .int (h_i h7 x1 0), .int x2, .int x3] (h_im h7 108 (2 : Int32).toNatClampNeg r9) (fun r14 h12 => Wf h12 ∧ h_sh h12 x1 = some (12, 17) ∧ (vp_in 3 6 ∧ (Ci (m_X4_countTaken (d + 4) 0 0) [.ref 17, .int (h_i h12 x1 0), .int x2, .ref 13, .int x3, .int 1] (h_im h12 108 (3 : Int32).toNatClampNeg r14) (fun r19 h17 => Wf h17 ∧ h_sh h17 x1 = some (12, 17) ∧ (vp_in 4 6 ∧ (Ci (m_X4_countTaken (d + 4) 0 0) [.ref 17, .int (h_i h17 x1 0), .int x2, .ref 13, .int x3, .int 0] (h_im h17 108 (4 : Int32).toNatClampNeg r19) (fun r24 h22 => Wf h22 ∧ (vp_in 5 6 ∧ (Ci (m_X10_inForce (d + 0) 0 0) [.ref 14, .int x2, .int x3] (h_im h22 108 (5 : Int32).toNatClampNeg r24) (fun r28 h26 => Wf h26 ∧ (Ci (m_X10_answer (d + 2) 0 0) [.ref 14, .int r28, .ref 108, .int 0] h26 (fun r31 h29 => Wf h29 ∧ (Ci (m_J9_min_7cf53 (d + 0) 0 0) [.int r31, .int 10000] h29 (fun r34 h32 => Wf h32 ∧ (Ci (m_J9_max_7cf53 (d + 0) 0 0) [.int 0, .int r34] h32 (fun r37 h35 => Wf h35 ∧ (K r37 h35))))))))))))))))))))))))) : Ci (m_X11_wageOf (d + 5) 0 0) [.ref 0, .ref x1, .int x2, .int x3] h K := by
  refine Ct.of (fun _ _ _ => trivial) rfl (Nat.le_of_ble_eq_true rfl) ?_
  show AW (m_X11_wageOf (d + 5) 0 0) 0 0 0 [(0, .ref 0), (1, .ref x1), (2, .int x2), (3, .int x3)] [] h (kI K)
  refine aw_aload_n (i := 1) rfl d_X11_wageOf_0 1 rfl ?_
  refine aw_ifnonnull (tgt := 6) d_X11_wageOf_1 rfl ?_
  refine aw_aload_n (i := 0) rfl d_X11_wageOf_6 0 rfl ?_
  refine aw_getr (k0 := 13) kc_11 (ws_0 w) (Nat.le_of_ble_eq_true rfl) tw_500 d_X11_wageOf_7 rfl (wr_0_13 w) ?_
  refine aw_getr (k0 := 5) kc_5 (ws_21 w) (Nat.le_of_ble_eq_true rfl) tw_440 d_X11_wageOf_10 rfl (wr_21_5 w) ?_
  refine aw_astore [(0, .ref 0), (1, .ref x1), (2, .int x2), (3, .int x3), (4, .ref 108)] d_X11_wageOf_13 (Nat.le_of_ble_eq_true rfl) rfl rfl ?_
  refine aw_aload d_X11_wageOf_15 4 rfl ?_
  refine aw_iconst (v := 0) d_X11_wageOf_17 ic_0 ?_
  refine aw_aload_n (i := 0) rfl d_X11_wageOf_18 0 rfl ?_
  refine aw_getr (k0 := 13) kc_11 (ws_0 w) (Nat.le_of_ble_eq_true rfl) tw_500 d_X11_wageOf_19 rfl (wr_0_13 w) ?_
  refine aw_aload_n (i := 1) rfl d_X11_wageOf_22 1 rfl ?_
  refine aw_iload_n (i := 2) rfl d_X11_wageOf_23 2 rfl ?_
  refine aw_iload_n (i := 3) rfl d_X11_wageOf_24 3 rfl ?_
  refine aw_Vi 21 [.ref x1, .int x2, .int x3] [.int 0, .ref 108] d_X11_wageOf_25 (cV_X5_classOf (d + 1) 0 0) kc_5 (ws_21 w) tw_1040 rfl (rr0 (Nat.le_of_ble_eq_true rfl) (Nat.le_of_ble_eq_true rfl)) (Nat.le_of_ble_eq_true rfl) xs0 k (fun r3 h1 kk => ?_)
  obtain ⟨w2, q4, k⟩ := kk
  obtain ⟨b5, k⟩ := k
  refine aw_iast (ws_108 w2) b5 d_X11_wageOf_28 ?_
  refine aw_aload d_X11_wageOf_29 4 rfl ?_
  refine aw_iconst (v := 1) d_X11_wageOf_31 ic_1 ?_
  refine aw_aload_n (i := 1) rfl d_X11_wageOf_32 1 rfl ?_
  refine aw_geti (k0 := 2) kc_2 (q4) (Nat.le_of_ble_eq_true rfl) tw_577 d_X11_wageOf_33 rfl ?_
  refine aw_vi (v2 := (h_i h1 x1 2)) ((hi_n h1 108 (0 : Int32).toNatClampNeg r3 x1 2 (by omega)).trans (rfl)) ?_
  obtain ⟨b6, k⟩ := k
  refine aw_iast (ws_108 w2) b6 d_X11_wageOf_36 ?_
  refine aw_aload d_X11_wageOf_37 4 rfl ?_
  refine aw_iconst (v := 2) d_X11_wageOf_39 ic_2 ?_
  refine aw_aload_n (i := 0) rfl d_X11_wageOf_40 0 rfl ?_
  refine aw_getr (k0 := 8) kc_11 (ws_0 w2) (Nat.le_of_ble_eq_true rfl) tw_495 d_X11_wageOf_41 rfl (wr_0_8 w2) ?_
  refine aw_aload_n (i := 1) rfl d_X11_wageOf_44 1 rfl ?_
  refine aw_geti (k0 := 0) kc_2 (q4) (Nat.le_of_ble_eq_true rfl) tw_573 d_X11_wageOf_45 rfl ?_
  refine aw_vi (v2 := (h_i h1 x1 0)) ((hi_n (h_im h1 108 (0 : Int32).toNatClampNeg r3) 108 (1 : Int32).toNatClampNeg (h_i h1 x1 2) x1 0 (by omega)).trans ((hi_n h1 108 (0 : Int32).toNatClampNeg r3 x1 0 (by omega)).trans (rfl))) ?_
  refine aw_iload_n (i := 2) rfl d_X11_wageOf_48 2 rfl ?_
  refine aw_iload_n (i := 3) rfl d_X11_wageOf_49 3 rfl ?_
  refine aw_Vi 16 [.int (h_i h1 x1 0), .int x2, .int x3] [.int 2, .ref 108] d_X11_wageOf_50 (cV_X7_countMet (d + 1) 0 0) kc_7 (ws_16 w2) tw_1585 rfl (rr0 (Nat.le_of_ble_eq_true rfl) (Nat.le_of_ble_eq_true rfl)) (Nat.le_of_ble_eq_true rfl) xs0 k (fun r9 h7 kk => ?_)
  obtain ⟨w8, q10, k⟩ := kk
  obtain ⟨b11, k⟩ := k
  refine aw_iast (ws_108 w8) b11 d_X11_wageOf_53 ?_
  refine aw_aload d_X11_wageOf_54 4 rfl ?_
  refine aw_iconst (v := 3) d_X11_wageOf_56 ic_3 ?_
  refine aw_aload_n (i := 0) rfl d_X11_wageOf_57 0 rfl ?_
  refine aw_getr (k0 := 8) kc_11 (ws_0 w8) (Nat.le_of_ble_eq_true rfl) tw_495 d_X11_wageOf_58 rfl (wr_0_8 w8) ?_
  refine aw_aload_n (i := 1) rfl d_X11_wageOf_61 1 rfl ?_
  refine aw_geti (k0 := 0) kc_2 (q10) (Nat.le_of_ble_eq_true rfl) tw_573 d_X11_wageOf_62 rfl ?_
  refine aw_vi (v2 := (h_i h7 x1 0)) ((hi_n h7 108 (2 : Int32).toNatClampNeg r9 x1 0 (by omega)).trans (rfl)) ?_
  refine aw_iload_n (i := 2) rfl d_X11_wageOf_65 2 rfl ?_
  refine aw_iload_n (i := 3) rfl d_X11_wageOf_66 3 rfl ?_
  refine aw_Vi 16 [.int (h_i h7 x1 0), .int x2, .int x3] [.int 3, .ref 108] d_X11_wageOf_67 (cV_X7_countBlamed (d + 2) 0 0) kc_7 (ws_16 w8) tw_1593 rfl (rr0 (Nat.le_of_ble_eq_true rfl) (Nat.le_of_ble_eq_true rfl)) (Nat.le_of_ble_eq_true rfl) xs0 k (fun r14 h12 kk => ?_)
  obtain ⟨w13, q15, k⟩ := kk
  obtain ⟨b16, k⟩ := k
  refine aw_iast (ws_108 w13) b16 d_X11_wageOf_70 ?_
  refine aw_aload d_X11_wageOf_71 4 rfl ?_
  refine aw_iconst (v := 4) d_X11_wageOf_73 ic_4 ?_
  refine aw_aload_n (i := 0) rfl d_X11_wageOf_74 0 rfl ?_
  refine aw_getr (k0 := 9) kc_11 (ws_0 w13) (Nat.le_of_ble_eq_true rfl) tw_496 d_X11_wageOf_75 rfl (wr_0_9 w13) ?_
  refine aw_aload_n (i := 1) rfl d_X11_wageOf_78 1 rfl ?_
  refine aw_geti (k0 := 0) kc_2 (q15) (Nat.le_of_ble_eq_true rfl) tw_573 d_X11_wageOf_79 rfl ?_
  refine aw_vi (v2 := (h_i h12 x1 0)) ((hi_n h12 108 (3 : Int32).toNatClampNeg r14 x1 0 (by omega)).trans (rfl)) ?_
  refine aw_iload_n (i := 2) rfl d_X11_wageOf_82 2 rfl ?_
  refine aw_aload_n (i := 0) rfl d_X11_wageOf_83 0 rfl ?_
  refine aw_getr (k0 := 4) kc_11 (ws_0 w13) (Nat.le_of_ble_eq_true rfl) tw_491 d_X11_wageOf_84 rfl (wr_0_4 w13) ?_
  refine aw_iload_n (i := 3) rfl d_X11_wageOf_87 3 rfl ?_
  refine aw_iconst (v := 1) d_X11_wageOf_88 ic_1 ?_
  refine aw_Vi 17 [.int (h_i h12 x1 0), .int x2, .ref 13, .int x3, .int 1] [.int 4, .ref 108] d_X11_wageOf_89 (cV_X4_countTaken (d + 4) 0 0) kc_4 (ws_17 w13) tw_1597 rfl (rr0 (Nat.le_of_ble_eq_true rfl) (Nat.le_of_ble_eq_true rfl)) (Nat.le_of_ble_eq_true rfl) xs0 k (fun r19 h17 kk => ?_)
  obtain ⟨w18, q20, k⟩ := kk
  obtain ⟨b21, k⟩ := k
  refine aw_iast (ws_108 w18) b21 d_X11_wageOf_92 ?_
  refine aw_aload d_X11_wageOf_93 4 rfl ?_
  refine aw_iconst (v := 5) d_X11_wageOf_95 ic_5 ?_
  refine aw_aload_n (i := 0) rfl d_X11_wageOf_96 0 rfl ?_
  refine aw_getr (k0 := 9) kc_11 (ws_0 w18) (Nat.le_of_ble_eq_true rfl) tw_496 d_X11_wageOf_97 rfl (wr_0_9 w18) ?_
  refine aw_aload_n (i := 1) rfl d_X11_wageOf_100 1 rfl ?_
  refine aw_geti (k0 := 0) kc_2 (q20) (Nat.le_of_ble_eq_true rfl) tw_573 d_X11_wageOf_101 rfl ?_
  refine aw_vi (v2 := (h_i h17 x1 0)) ((hi_n h17 108 (4 : Int32).toNatClampNeg r19 x1 0 (by omega)).trans (rfl)) ?_
  refine aw_iload_n (i := 2) rfl d_X11_wageOf_104 2 rfl ?_
  refine aw_aload_n (i := 0) rfl d_X11_wageOf_105 0 rfl ?_
  refine aw_getr (k0 := 4) kc_11 (ws_0 w18) (Nat.le_of_ble_eq_true rfl) tw_491 d_X11_wageOf_106 rfl (wr_0_4 w18) ?_
  refine aw_iload_n (i := 3) rfl d_X11_wageOf_109 3 rfl ?_
  refine aw_iconst (v := 0) d_X11_wageOf_110 ic_0 ?_
  refine aw_Vi 17 [.int (h_i h17 x1 0), .int x2, .ref 13, .int x3, .int 0] [.int 5, .ref 108] d_X11_wageOf_111 (cV_X4_countTaken (d + 4) 0 0) kc_4 (ws_17 w18) tw_1597 rfl (rr0 (Nat.le_of_ble_eq_true rfl) (Nat.le_of_ble_eq_true rfl)) (Nat.le_of_ble_eq_true rfl) xs0 k (fun r24 h22 kk => ?_)
  obtain ⟨w23, k⟩ := kk
  obtain ⟨b25, k⟩ := k
  refine aw_iast (ws_108 w23) b25 d_X11_wageOf_114 ?_
  refine aw_aload_n (i := 0) rfl d_X11_wageOf_115 0 rfl ?_
  refine aw_getr (k0 := 5) kc_11 (ws_0 w23) (Nat.le_of_ble_eq_true rfl) tw_492 d_X11_wageOf_116 rfl (wr_0_5 w23) ?_
  refine aw_aload_n (i := 0) rfl d_X11_wageOf_119 0 rfl ?_
  refine aw_getr (k0 := 5) kc_11 (ws_0 w23) (Nat.le_of_ble_eq_true rfl) tw_492 d_X11_wageOf_120 rfl (wr_0_5 w23) ?_
  refine aw_iload_n (i := 2) rfl d_X11_wageOf_123 2 rfl ?_
  refine aw_iload_n (i := 3) rfl d_X11_wageOf_124 3 rfl ?_
  refine aw_Vi 14 [.int x2, .int x3] [.ref 14] d_X11_wageOf_125 (cV_X10_inForce (d + 0) 0 0) kc_10 (ws_14 w23) tw_1057 rfl (rr0 (Nat.le_of_ble_eq_true rfl) (Nat.le_of_ble_eq_true rfl)) (Nat.le_of_ble_eq_true rfl) xs0 k (fun r28 h26 kk => ?_)
  obtain ⟨w27, k⟩ := kk
  refine aw_aload d_X11_wageOf_128 4 rfl ?_
  refine aw_iconst (v := 0) d_X11_wageOf_130 ic_0 ?_
  refine aw_Vi 14 [.int r28, .ref 108, .int 0] [] d_X11_wageOf_131 (cV_X10_answer (d + 2) 0 0) kc_10 (ws_14 w27) tw_1063 rfl (rr0 (Nat.le_of_ble_eq_true rfl) (Nat.le_of_ble_eq_true rfl)) (Nat.le_of_ble_eq_true rfl) xs0 k (fun r31 h29 kk => ?_)
  obtain ⟨w30, k⟩ := kk
  refine aw_istore [(0, .ref 0), (1, .ref x1), (2, .int x2), (3, .int x3), (4, .ref 108), (5, .int r31)] d_X11_wageOf_134 (Nat.le_of_ble_eq_true rfl) rfl rfl ?_
  refine aw_iconst (v := 0) d_X11_wageOf_136 ic_0 ?_
  refine aw_iload d_X11_wageOf_137 5 rfl ?_
  refine aw_sipush (v := 10000) d_X11_wageOf_139 is_10000 ?_
  refine aw_Si [.int r31, .int 10000] [.int 0] d_X11_wageOf_142 (cS_J9_min_7cf53 (d + 0) 0 0) tw_999 rfl (rr0 (Nat.le_of_ble_eq_true rfl) (Nat.le_of_ble_eq_true rfl)) (Nat.le_of_ble_eq_true rfl) xs0 k (fun r34 h32 kk => ?_)
  obtain ⟨w33, k⟩ := kk
  refine aw_Si [.int 0, .int r34] [] d_X11_wageOf_145 (cS_J9_max_7cf53 (d + 0) 0 0) tw_1000 rfl (rr0 (Nat.le_of_ble_eq_true rfl) (Nat.le_of_ble_eq_true rfl)) (Nat.le_of_ble_eq_true rfl) xs0 k (fun r37 h35 kk => ?_)
  obtain ⟨w36, k⟩ := kk
  exact aw_iret rfl d_X11_wageOf_148 ⟨Nat.le_refl _, Nat.le_refl _⟩ ⟨_, rfl, k⟩
theorem t_X1_strike (d : Nat) (h : Hp_) (w : Wf h) (x1 : Int32) (x2 : Int32) (K : Int32 → Hp_ → Prop) (k : (¬ (0 ≤ x1 ∧ x1 ≤ 15) → K (-1) h) ∧ ((0 ≤ x1 ∧ x1 ≤ 15) → vp_in x1 16 ∧ (((h_i h 78 x1.toNatClampNeg) = (-1) → AW (m_X1_strike (d + 6) 0 0) 0 0 24 [(0, .ref 18), (1, .int x1), (2, .int x2), (3, .int 0)] [] h (kI K)) ∧ (¬ (h_i h 78 x1.toNatClampNeg) = (-1) → K (-1) h)))) : Ci (m_X1_strike (d + 6) 0 0) [.ref 18, .int x1, .int x2] h K := by
  refine Ct.of (fun _ _ _ => trivial) rfl (Nat.le_of_ble_eq_true rfl) ?_
  show AW (m_X1_strike (d + 6) 0 0) 0 0 0 [(0, .ref 18), (1, .int x1), (2, .int x2)] [] h (kI K)
  refine aw_iload_n (i := 1) rfl d_X1_strike_0 1 rfl ?_
  refine aw_iconst (v := 0) d_X1_strike_1 ic_0 ?_
  refine aw_bipush (v := 15) d_X1_strike_2 ib_15 ?_
  refine aw_SNi [.int x1, .int 0, .int 15] [] d_X1_strike_4 (cS_X11_within (d + 0) 0 0) (List.mem_of_getElem? (i := 12) rfl) rfl (rr0 (Nat.le_of_ble_eq_true rfl) (Nat.le_of_ble_eq_true rfl)) (Nat.le_of_ble_eq_true rfl) xs0 (s_X11_within _ _ x1 0 15) (fun _ _ kk => ?_)
  obtain ⟨e1, e2⟩ := kk
  rw [e1, e2]
  refine aw_ifb_eq (tgt := 20) d_X1_strike_7 rfl (fun c3 => ?_) (fun c3 => ?_)
  · have k := k.1 c3
    refine aw_iconst (v := (-1)) d_X1_strike_20 ic_m1 ?_
    exact aw_iret rfl d_X1_strike_21 ⟨Nat.le_refl _, Nat.le_refl _⟩ ⟨_, rfl, k⟩
  · have k := k.2 c3
    refine aw_aload_n (i := 0) rfl d_X1_strike_10 0 rfl ?_
    refine aw_getr (k0 := 9) kc_1 (ws_18 w) (Nat.le_of_ble_eq_true rfl) tw_275 d_X1_strike_11 rfl (wr_18_9 w) ?_
    refine aw_iload_n (i := 1) rfl d_X1_strike_14 1 rfl ?_
    obtain ⟨b4, k⟩ := k
    refine aw_iald (ws_78 w) b4 d_X1_strike_15 ?_
    refine aw_iconst (v := (-1)) d_X1_strike_16 ic_m1 ?_
    refine aw_icmp_eq (tgt := 22) d_X1_strike_17 rfl (fun c5 => ?_) (fun c5 => ?_)
    · have k := k.1 c5
      refine aw_iconst (v := 0) d_X1_strike_22 ic_0 ?_
      refine aw_istore_n (i := 3) rfl [(0, .ref 18), (1, .int x1), (2, .int x2), (3, .int 0)] d_X1_strike_23 (Nat.le_of_ble_eq_true rfl) rfl rfl ?_
      exact k
    · have k := k.2 c5
      refine aw_iconst (v := (-1)) d_X1_strike_20 ic_m1 ?_
      exact aw_iret rfl d_X1_strike_21 ⟨Nat.le_refl _, Nat.le_refl _⟩ ⟨_, rfl, k⟩
theorem t_X1_strike_24 (d : Nat) (h : Hp_) (w : Wf h) (x1 : Int32) (x2 : Int32) (x3 : Int32) (K : Int32 → Hp_ → Prop) (k : ((h_i h 18 3) ≤ x3 → vp_in x1 16 ∧ (AW (m_X1_strike (d + 6) 0 0) 0 0 62 [(0, .ref 18), (2, .int x2), (3, .int 0), (4, .int 0)] [] (h_im h 78 x1.toNatClampNeg x2) (kI K))) ∧ (¬ (h_i h 18 3) ≤ x3 → Ci (m_X1_wholeStanding (d + 5) 0 0) [.ref 18, .int x3, .int x2] h (fun r10 h8 => Wf h8 ∧ (vp_in x3 30 ∧ (AW (m_X1_strike (d + 6) 0 0) 0 0 24 [(0, .ref 18), (1, .int x1), (2, .int x2), (3, .int (x3 + 1))] [] (h_im h8 84 x3.toNatClampNeg r10) (kI K)))))) : AW (m_X1_strike (d + 6) 0 0) 0 0 24 [(0, .ref 18), (1, .int x1), (2, .int x2), (3, .int x3)] [] h (kI K) := by
  refine aw_iload_n (i := 3) rfl d_X1_strike_24 3 rfl ?_
  refine aw_aload_n (i := 0) rfl d_X1_strike_25 0 rfl ?_
  refine aw_geti (k0 := 3) kc_1 (ws_18 w) (Nat.le_of_ble_eq_true rfl) tw_265 d_X1_strike_26 rfl ?_
  refine aw_icmp_ge (tgt := 50) d_X1_strike_29 rfl (fun c6 => ?_) (fun c6 => ?_)
  · have k := k.1 c6
    refine aw_aload_n (i := 0) rfl d_X1_strike_50 0 rfl ?_
    refine aw_getr (k0 := 9) kc_1 (ws_18 w) (Nat.le_of_ble_eq_true rfl) tw_275 d_X1_strike_51 rfl (wr_18_9 w) ?_
    refine aw_iload_n (i := 1) rfl d_X1_strike_54 1 rfl ?_
    refine aw_iload_n (i := 2) rfl d_X1_strike_55 2 rfl ?_
    obtain ⟨b7, k⟩ := k
    refine aw_iast (ws_78 w) b7 d_X1_strike_56 ?_
    refine aw_iconst (v := 0) d_X1_strike_57 ic_0 ?_
    refine aw_istore_n (i := 3) rfl [(0, .ref 18), (1, .int x1), (2, .int x2), (3, .int 0)] d_X1_strike_58 (Nat.le_of_ble_eq_true rfl) rfl rfl ?_
    refine aw_iconst (v := 0) d_X1_strike_59 ic_0 ?_
    refine aw_istore [(0, .ref 18), (1, .int x1), (2, .int x2), (3, .int 0), (4, .int 0)] d_X1_strike_60 (Nat.le_of_ble_eq_true rfl) rfl rfl ?_
    exact aw_lvp [0, 2, 3, 4] [(0, .ref 18), (2, .int x2), (3, .int 0), (4, .int 0)] rfl k
  · have k := k.2 c6
    refine aw_aload_n (i := 0) rfl d_X1_strike_32 0 rfl ?_
    refine aw_getr (k0 := 15) kc_1 (ws_18 w) (Nat.le_of_ble_eq_true rfl) tw_281 d_X1_strike_33 rfl (wr_18_15 w) ?_
    refine aw_iload_n (i := 3) rfl d_X1_strike_36 3 rfl ?_
    refine aw_aload_n (i := 0) rfl d_X1_strike_37 0 rfl ?_
    refine aw_iload_n (i := 3) rfl d_X1_strike_38 3 rfl ?_
    refine aw_iload_n (i := 2) rfl d_X1_strike_39 2 rfl ?_
    refine aw_Vi 18 [.int x3, .int x2] [.int x3, .ref 84] d_X1_strike_40 (cV_X1_wholeStanding (d + 5) 0 0) kc_1 (ws_18 w) tw_1236 rfl (rr0 (Nat.le_of_ble_eq_true rfl) (Nat.le_of_ble_eq_true rfl)) (Nat.le_of_ble_eq_true rfl) xs0 k (fun r10 h8 kk => ?_)
    obtain ⟨w9, k⟩ := kk
    obtain ⟨b11, k⟩ := k
    refine aw_iast (ws_84 w9) b11 d_X1_strike_43 ?_
    refine aw_iinc (v := (x3 + 1)) [(0, .ref 18), (1, .int x1), (2, .int x2), (3, .int (x3 + 1))] d_X1_strike_44 3 rfl rfl (Nat.le_of_ble_eq_true rfl) rfl rfl ?_
    refine aw_goto (tgt := 24) d_X1_strike_47 rfl ?_
    exact k
theorem t_X1_strike_62 (d : Nat) (h : Hp_) (w : Wf h) (x2 : Int32) (x3 : Int32) (x4 : Int32) (K : Int32 → Hp_ → Prop) (k : ((h_i h 18 3) ≤ x4 → K x3 h) ∧ (¬ (h_i h 18 3) ≤ x4 → vp_in x4 30 ∧ (Ci (m_X1_wholeStanding (d + 5) 0 0) [.ref 18, .int x4, .int x2] h (fun r16 h14 => Wf h14 ∧ (((h_i h 84 x4.toNatClampNeg) = r16 → AW (m_X1_strike (d + 6) 0 0) 0 0 62 [(0, .ref 18), (2, .int x2), (3, .int x3), (4, .int (x4 + 1))] [] h14 (kI K)) ∧ (¬ (h_i h 84 x4.toNatClampNeg) = r16 → AW (m_X1_strike (d + 6) 0 0) 0 0 62 [(0, .ref 18), (2, .int x2), (3, .int (x3 + 1)), (4, .int (x4 + 1))] [] h14 (kI K))))))) : AW (m_X1_strike (d + 6) 0 0) 0 0 62 [(0, .ref 18), (2, .int x2), (3, .int x3), (4, .int x4)] [] h (kI K) := by
  refine aw_iload d_X1_strike_62 3 rfl ?_
  refine aw_aload_n (i := 0) rfl d_X1_strike_64 0 rfl ?_
  refine aw_geti (k0 := 3) kc_1 (ws_18 w) (Nat.le_of_ble_eq_true rfl) tw_265 d_X1_strike_65 rfl ?_
  refine aw_icmp_ge (tgt := 97) d_X1_strike_68 rfl (fun c12 => ?_) (fun c12 => ?_)
  · have k := k.1 c12
    refine aw_iload_n (i := 3) rfl d_X1_strike_97 2 rfl ?_
    exact aw_iret rfl d_X1_strike_98 ⟨Nat.le_refl _, Nat.le_refl _⟩ ⟨_, rfl, k⟩
  · have k := k.2 c12
    refine aw_aload_n (i := 0) rfl d_X1_strike_71 0 rfl ?_
    refine aw_getr (k0 := 15) kc_1 (ws_18 w) (Nat.le_of_ble_eq_true rfl) tw_281 d_X1_strike_72 rfl (wr_18_15 w) ?_
    refine aw_iload d_X1_strike_75 3 rfl ?_
    obtain ⟨b13, k⟩ := k
    refine aw_iald (ws_84 w) b13 d_X1_strike_77 ?_
    refine aw_aload_n (i := 0) rfl d_X1_strike_78 0 rfl ?_
    refine aw_iload d_X1_strike_79 3 rfl ?_
    refine aw_iload_n (i := 2) rfl d_X1_strike_81 1 rfl ?_
    refine aw_Vi 18 [.int x4, .int x2] [.int (h_i h 84 x4.toNatClampNeg)] d_X1_strike_82 (cV_X1_wholeStanding (d + 5) 0 0) kc_1 (ws_18 w) tw_1236 rfl (rr0 (Nat.le_of_ble_eq_true rfl) (Nat.le_of_ble_eq_true rfl)) (Nat.le_of_ble_eq_true rfl) xs0 k (fun r16 h14 kk => ?_)
    obtain ⟨w15, k⟩ := kk
    refine aw_icmp_eq (tgt := 91) d_X1_strike_85 rfl (fun c17 => ?_) (fun c17 => ?_)
    · have k := k.1 c17
      refine aw_iinc (v := (x4 + 1)) [(0, .ref 18), (2, .int x2), (3, .int x3), (4, .int (x4 + 1))] d_X1_strike_91 3 rfl rfl (Nat.le_of_ble_eq_true rfl) rfl rfl ?_
      refine aw_goto (tgt := 62) d_X1_strike_94 rfl ?_
      exact k
    · have k := k.2 c17
      refine aw_iinc (v := (x3 + 1)) [(0, .ref 18), (2, .int x2), (3, .int (x3 + 1)), (4, .int x4)] d_X1_strike_88 2 rfl rfl (Nat.le_of_ble_eq_true rfl) rfl rfl ?_
      refine aw_iinc (v := (x4 + 1)) [(0, .ref 18), (2, .int x2), (3, .int (x3 + 1)), (4, .int (x4 + 1))] d_X1_strike_91 3 rfl rfl (Nat.le_of_ble_eq_true rfl) rfl rfl ?_
      refine aw_goto (tgt := 62) d_X1_strike_94 rfl ?_
      exact k
theorem t_X6_safety (d : Nat) (h : Hp_) (w : Wf h) (x1 : Int32) (K : Int32 → Hp_ → Prop) (k : Cv (m_X6_findShares (d + 5) 0 0) [.ref 20, .int x1, .ref 12, .ref 10] h (fun h1 => Wf h1 ∧ (K (h_i h1 20 8) h1))) : Ci (m_X6_safety (d + 6) 0 0) [.ref 20, .int x1, .ref 12, .ref 10] h K := by
  refine Ct.of (fun _ _ _ => trivial) rfl (Nat.le_of_ble_eq_true rfl) ?_
  show AW (m_X6_safety (d + 6) 0 0) 0 0 0 [(0, .ref 20), (1, .int x1), (2, .ref 12), (3, .ref 10)] [] h (kI K)
  refine aw_aload_n (i := 0) rfl d_X6_safety_0 0 rfl ?_
  refine aw_iload_n (i := 1) rfl d_X6_safety_1 1 rfl ?_
  refine aw_aload_n (i := 2) rfl d_X6_safety_2 2 rfl ?_
  refine aw_aload_n (i := 3) rfl d_X6_safety_3 3 rfl ?_
  refine aw_Vv 20 [.int x1, .ref 12, .ref 10] [] d_X6_safety_4 (cV_X6_findShares (d + 5) 0 0) kc_6 (ws_20 w) tw_1451 rfl (rr0 (Nat.le_of_ble_eq_true rfl) (Nat.le_of_ble_eq_true rfl)) (Nat.le_of_ble_eq_true rfl) xs0 k (fun h1 kk => ?_)
  obtain ⟨w2, k⟩ := kk
  refine aw_aload_n (i := 0) rfl d_X6_safety_7 0 rfl ?_
  refine aw_geti (k0 := 8) kc_6 (ws_20 w2) (Nat.le_of_ble_eq_true rfl) tw_372 d_X6_safety_8 rfl ?_
  exact aw_iret rfl d_X6_safety_11 ⟨Nat.le_refl _, Nat.le_refl _⟩ ⟨_, rfl, k⟩
theorem t_X6_sharesOf (d : Nat) (h : Hp_) (w : Wf h) (x1 : Int32) (x2 : Int32) (K : Int32 → Hp_ → Prop) (k : Cv (m_X6_findShares (d + 5) 0 0) [.ref 20, .int x1, .ref 12, .ref 10] h (fun h1 => Wf h1 ∧ (Ci (m_J6_bitCount_0f7a4 (d + 0) 0 0) [.int (x1 &&& (((1 : Int32) <<< (x2 &&& 31)) - 1))] h1 (fun r6 h4 => Wf h4 ∧ ((¬ (0 ≤ r6 ∧ r6 ≤ ((h_i h4 20 7) - 1)) → K (-1) h4) ∧ ((0 ≤ r6 ∧ r6 ≤ ((h_i h4 20 7) - 1)) → vp_in r6 5 ∧ (K (h_i h4 97 r6.toNatClampNeg) h4))))))) : Ci (m_X6_sharesOf (d + 6) 0 0) [.ref 20, .int x1, .int x2, .ref 12, .ref 10] h K := by
  refine Ct.of (fun _ _ _ => trivial) rfl (Nat.le_of_ble_eq_true rfl) ?_
  show AW (m_X6_sharesOf (d + 6) 0 0) 0 0 0 [(0, .ref 20), (1, .int x1), (2, .int x2), (3, .ref 12), (4, .ref 10)] [] h (kI K)
  refine aw_aload_n (i := 0) rfl d_X6_sharesOf_0 0 rfl ?_
  refine aw_iload_n (i := 1) rfl d_X6_sharesOf_1 1 rfl ?_
  refine aw_aload_n (i := 3) rfl d_X6_sharesOf_2 3 rfl ?_
  refine aw_aload d_X6_sharesOf_3 4 rfl ?_
  refine aw_Vv 20 [.int x1, .ref 12, .ref 10] [] d_X6_sharesOf_5 (cV_X6_findShares (d + 5) 0 0) kc_6 (ws_20 w) tw_1451 rfl (rr0 (Nat.le_of_ble_eq_true rfl) (Nat.le_of_ble_eq_true rfl)) (Nat.le_of_ble_eq_true rfl) xs0 k (fun h1 kk => ?_)
  obtain ⟨w2, k⟩ := kk
  refine aw_iload_n (i := 1) rfl d_X6_sharesOf_8 1 rfl ?_
  refine aw_iconst (v := 1) d_X6_sharesOf_9 ic_1 ?_
  refine aw_iload_n (i := 2) rfl d_X6_sharesOf_10 2 rfl ?_
  refine aw_ishl d_X6_sharesOf_11 ?_
  refine aw_iconst (v := 1) d_X6_sharesOf_12 ic_1 ?_
  refine aw_isub d_X6_sharesOf_13 ?_
  refine aw_iand d_X6_sharesOf_14 ?_
  refine aw_Si [.int (x1 &&& (((1 : Int32) <<< (x2 &&& 31)) - 1))] [] d_X6_sharesOf_15 (cS_J6_bitCount_0f7a4 (d + 0) 0 0) tw_1478 rfl (rr0 (Nat.le_of_ble_eq_true rfl) (Nat.le_of_ble_eq_true rfl)) (Nat.le_of_ble_eq_true rfl) xs0 k (fun r6 h4 kk => ?_)
  obtain ⟨w5, k⟩ := kk
  refine aw_istore [(0, .ref 20), (1, .int x1), (2, .int x2), (3, .ref 12), (4, .ref 10), (5, .int r6)] d_X6_sharesOf_18 (Nat.le_of_ble_eq_true rfl) rfl rfl ?_
  refine aw_iload d_X6_sharesOf_20 5 rfl ?_
  refine aw_iconst (v := 0) d_X6_sharesOf_22 ic_0 ?_
  refine aw_aload_n (i := 0) rfl d_X6_sharesOf_23 0 rfl ?_
  refine aw_geti (k0 := 7) kc_6 (ws_20 w5) (Nat.le_of_ble_eq_true rfl) tw_371 d_X6_sharesOf_24 rfl ?_
  refine aw_iconst (v := 1) d_X6_sharesOf_27 ic_1 ?_
  refine aw_isub d_X6_sharesOf_28 ?_
  refine aw_SNi [.int r6, .int 0, .int ((h_i h4 20 7) - 1)] [] d_X6_sharesOf_29 (cS_X11_within (d + 0) 0 0) (List.mem_of_getElem? (i := 14) rfl) rfl (rr0 (Nat.le_of_ble_eq_true rfl) (Nat.le_of_ble_eq_true rfl)) (Nat.le_of_ble_eq_true rfl) xs0 (s_X11_within _ _ r6 0 ((h_i h4 20 7) - 1)) (fun _ _ kk => ?_)
  obtain ⟨e7, e8⟩ := kk
  rw [e7, e8]
  refine aw_ifb_eq (tgt := 45) d_X6_sharesOf_32 rfl (fun c9 => ?_) (fun c9 => ?_)
  · have k := k.1 c9
    refine aw_iconst (v := (-1)) d_X6_sharesOf_45 ic_m1 ?_
    exact aw_iret rfl d_X6_sharesOf_46 ⟨Nat.le_refl _, Nat.le_refl _⟩ ⟨_, rfl, k⟩
  · have k := k.2 c9
    refine aw_aload_n (i := 0) rfl d_X6_sharesOf_35 0 rfl ?_
    refine aw_getr (k0 := 6) kc_6 (ws_20 w5) (Nat.le_of_ble_eq_true rfl) tw_370 d_X6_sharesOf_36 rfl (wr_20_6 w5) ?_
    refine aw_iload d_X6_sharesOf_39 5 rfl ?_
    obtain ⟨b10, k⟩ := k
    refine aw_iald (ws_97 w5) b10 d_X6_sharesOf_41 ?_
    refine aw_goto (tgt := 46) d_X6_sharesOf_42 rfl ?_
    exact aw_iret rfl d_X6_sharesOf_46 ⟨Nat.le_refl _, Nat.le_refl _⟩ ⟨_, rfl, k⟩
theorem t_X11_begin (d : Nat) (h : Hp_) (w : Wf h) (x1 : Int32) (x2 : Int32) (K : Int32 → Hp_ → Prop) (k : Cr (m_X11_manOf (d + 1) 0 0) [.ref 0, .int x1] h (fun o5 h1 => Wf h1 ∧ ((o5 = none → K 0 h1) ∧ (∀ b4, o5 = some b4 → h_sh h1 b4 = some (12, 17) ∧ 400 ≤ b4 ∧ (Ci (m_X0_has (d + 0) 0 0) [.ref 12, .int x2] h1 (fun r10 h8 => Wf h8 ∧ h_sh h8 b4 = some (12, 17) ∧ ((r10 = 0 → K 0 h8) ∧ (¬ r10 = 0 → (¬ (h_i h8 b4 4) = 0 → K 0 h8) ∧ ((h_i h8 b4 4) = 0 → Ci (m_X0_pointsOf (d + 1) 0 0) [.ref 12, .int x2] h8 (fun r16 h14 => Wf h14 ∧ h_sh h14 b4 = some (12, 17) ∧ (Ci (m_X7_hasRoom (d + 0) 0 0) [.ref 16, .int r16] h14 (fun r20 h18 => Wf h18 ∧ h_sh h18 b4 = some (12, 17) ∧ ((¬ r20 = 0 → Cv (m_X11_writeRows (d + 2) 0 0) [.ref 0, .ref b4] (h_im (h_im (h_im (h_im (h_im h18 b4 4 1) b4 8 x2) b4 9 0) b4 10 (h_i h18 0 0)) b4 11 (h_i h18 16 7)) (fun h23 => Wf h23 ∧ h_sh h23 b4 = some (12, 17) ∧ (Cv (m_X11_doSteps (d + 5) 0 0) [.ref 0, .ref b4] (h_im h23 b4 12 (h_i h23 16 7)) (fun h27 => Wf h27 ∧ (K 1 h27))))) ∧ (r20 = 0 → K 0 h18)))))))))))))) : Ci (m_X11_begin (d + 6) 0 0) [.ref 0, .int x1, .int x2] h K := by
  refine Ct.of (fun _ _ _ => trivial) rfl (Nat.le_of_ble_eq_true rfl) ?_
  show AW (m_X11_begin (d + 6) 0 0) 0 0 0 [(0, .ref 0), (1, .int x1), (2, .int x2)] [] h (kI K)
  refine aw_aload_n (i := 0) rfl d_X11_begin_0 0 rfl ?_
  refine aw_iload_n (i := 1) rfl d_X11_begin_1 1 rfl ?_
  refine aw_Vr 0 [.int x1] [] d_X11_begin_2 (cV_X11_manOf (d + 1) 0 0) kc_11 (ws_0 w) tw_904 rfl (rr0 (Nat.le_of_ble_eq_true rfl) (Nat.le_of_ble_eq_true rfl)) (Nat.le_of_ble_eq_true rfl) xs0 k (fun h1 kk => ?_) (fun b4 h1 kk => ?_)
  · obtain ⟨w2, k⟩ := kk
    have k := k.1 rfl
    refine aw_astore_nN (i := 3) rfl [(0, .ref 0), (1, .int x1), (2, .int x2), (3, .null)] d_X11_begin_5 (Nat.le_of_ble_eq_true rfl) rfl rfl ?_
    refine aw_aload_nN (i := 3) rfl d_X11_begin_6 3 rfl ?_
    refine aw_ifnullN (tgt := 46) d_X11_begin_7 rfl ?_
    refine aw_iconst (v := 0) d_X11_begin_46 ic_0 ?_
    exact aw_zret rfl rfl d_X11_begin_47 ⟨Nat.le_refl _, Nat.le_refl _⟩ ⟨_, rfl, k⟩
  · obtain ⟨w2, k⟩ := kk
    obtain ⟨q6, l7, k⟩ := k.2 b4 rfl
    refine aw_astore_n (i := 3) rfl [(0, .ref 0), (1, .int x1), (2, .int x2), (3, .ref b4)] d_X11_begin_5 (Nat.le_of_ble_eq_true rfl) rfl rfl ?_
    refine aw_aload_n (i := 3) rfl d_X11_begin_6 3 rfl ?_
    refine aw_ifnull d_X11_begin_7 ?_
    refine aw_aload_n (i := 0) rfl d_X11_begin_10 0 rfl ?_
    refine aw_getr (k0 := 3) kc_11 (ws_0 w2) (Nat.le_of_ble_eq_true rfl) tw_490 d_X11_begin_11 rfl (wr_0_3 w2) ?_
    refine aw_iload_n (i := 2) rfl d_X11_begin_14 2 rfl ?_
    refine aw_Vi 12 [.int x2] [] d_X11_begin_15 (cV_X0_has (d + 0) 0 0) kc_0 (ws_12 w2) tw_887 rfl (rr0 (Nat.le_of_ble_eq_true rfl) (Nat.le_of_ble_eq_true rfl)) (Nat.le_of_ble_eq_true rfl) xs0 k (fun r10 h8 kk => ?_)
    obtain ⟨w9, q11, k⟩ := kk
    refine aw_if_eq (tgt := 46) d_X11_begin_18 rfl (fun c12 => ?_) (fun c12 => ?_)
    · have k := k.1 c12
      refine aw_iconst (v := 0) d_X11_begin_46 ic_0 ?_
      exact aw_zret rfl rfl d_X11_begin_47 ⟨Nat.le_refl _, Nat.le_refl _⟩ ⟨_, rfl, k⟩
    · have k := k.2 c12
      refine aw_aload_n (i := 3) rfl d_X11_begin_21 3 rfl ?_
      refine aw_geti (k0 := 4) kc_2 (q11) (Nat.le_of_ble_eq_true rfl) tw_581 d_X11_begin_22 rfl ?_
      refine aw_if_ne (tgt := 46) d_X11_begin_25 rfl (fun c13 => ?_) (fun c13 => ?_)
      · have k := k.1 c13
        refine aw_iconst (v := 0) d_X11_begin_46 ic_0 ?_
        exact aw_zret rfl rfl d_X11_begin_47 ⟨Nat.le_refl _, Nat.le_refl _⟩ ⟨_, rfl, k⟩
      · have k := k.2 c13
        refine aw_aload_n (i := 0) rfl d_X11_begin_28 0 rfl ?_
        refine aw_getr (k0 := 8) kc_11 (ws_0 w9) (Nat.le_of_ble_eq_true rfl) tw_495 d_X11_begin_29 rfl (wr_0_8 w9) ?_
        refine aw_aload_n (i := 0) rfl d_X11_begin_32 0 rfl ?_
        refine aw_getr (k0 := 3) kc_11 (ws_0 w9) (Nat.le_of_ble_eq_true rfl) tw_490 d_X11_begin_33 rfl (wr_0_3 w9) ?_
        refine aw_iload_n (i := 2) rfl d_X11_begin_36 2 rfl ?_
        refine aw_Vi 12 [.int x2] [.ref 16] d_X11_begin_37 (cV_X0_pointsOf (d + 1) 0 0) kc_0 (ws_12 w9) tw_896 rfl (rr0 (Nat.le_of_ble_eq_true rfl) (Nat.le_of_ble_eq_true rfl)) (Nat.le_of_ble_eq_true rfl) xs0 k (fun r16 h14 kk => ?_)
        obtain ⟨w15, q17, k⟩ := kk
        refine aw_Vi 16 [.int r16] [] d_X11_begin_40 (cV_X7_hasRoom (d + 0) 0 0) kc_7 (ws_16 w15) tw_908 rfl (rr0 (Nat.le_of_ble_eq_true rfl) (Nat.le_of_ble_eq_true rfl)) (Nat.le_of_ble_eq_true rfl) xs0 k (fun r20 h18 kk => ?_)
        obtain ⟨w19, q21, k⟩ := kk
        refine aw_if_ne (tgt := 48) d_X11_begin_43 rfl (fun c22 => ?_) (fun c22 => ?_)
        · have k := k.1 c22
          refine aw_aload_n (i := 3) rfl d_X11_begin_48 3 rfl ?_
          refine aw_iconst (v := 1) d_X11_begin_49 ic_1 ?_
          refine aw_puti (k0 := 4) kc_2 (q21) (Nat.le_of_ble_eq_true rfl) tw_581 d_X11_begin_50 rfl rfl nf_i ?_
          refine aw_aload_n (i := 3) rfl d_X11_begin_53 3 rfl ?_
          refine aw_iload_n (i := 2) rfl d_X11_begin_54 2 rfl ?_
          refine aw_puti (k0 := 8) kc_2 (q21) (Nat.le_of_ble_eq_true rfl) tw_588 d_X11_begin_55 rfl rfl nf_i ?_
          refine aw_aload_n (i := 3) rfl d_X11_begin_58 3 rfl ?_
          refine aw_iconst (v := 0) d_X11_begin_59 ic_0 ?_
          refine aw_puti (k0 := 9) kc_2 (q21) (Nat.le_of_ble_eq_true rfl) tw_589 d_X11_begin_60 rfl rfl nf_i ?_
          refine aw_aload_n (i := 3) rfl d_X11_begin_63 3 rfl ?_
          refine aw_aload_n (i := 0) rfl d_X11_begin_64 0 rfl ?_
          refine aw_geti (k0 := 0) kc_11 (ws_0 w19) (Nat.le_of_ble_eq_true rfl) tw_487 d_X11_begin_65 rfl ?_
          refine aw_vi (v2 := (h_i h18 0 0)) ((hi_n (h_im (h_im h18 b4 4 1) b4 8 x2) b4 9 0 0 0 (by omega)).trans ((hi_n (h_im h18 b4 4 1) b4 8 x2 0 0 (by omega)).trans ((hi_n h18 b4 4 1 0 0 (by omega)).trans (rfl)))) ?_
          refine aw_puti (k0 := 10) kc_2 (q21) (Nat.le_of_ble_eq_true rfl) tw_590 d_X11_begin_68 rfl rfl nf_i ?_
          refine aw_aload_n (i := 3) rfl d_X11_begin_71 3 rfl ?_
          refine aw_aload_n (i := 0) rfl d_X11_begin_72 0 rfl ?_
          refine aw_getr (k0 := 8) kc_11 (ws_0 w19) (Nat.le_of_ble_eq_true rfl) tw_495 d_X11_begin_73 rfl (wr_0_8 w19) ?_
          refine aw_geti (k0 := 7) kc_7 (ws_16 w19) (Nat.le_of_ble_eq_true rfl) tw_160 d_X11_begin_76 rfl ?_
          refine aw_vi (v2 := (h_i h18 16 7)) ((hi_n (h_im (h_im (h_im h18 b4 4 1) b4 8 x2) b4 9 0) b4 10 (h_i h18 0 0) 16 7 (by omega)).trans ((hi_n (h_im (h_im h18 b4 4 1) b4 8 x2) b4 9 0 16 7 (by omega)).trans ((hi_n (h_im h18 b4 4 1) b4 8 x2 16 7 (by omega)).trans ((hi_n h18 b4 4 1 16 7 (by omega)).trans (rfl))))) ?_
          refine aw_puti (k0 := 11) kc_2 (q21) (Nat.le_of_ble_eq_true rfl) tw_592 d_X11_begin_79 rfl rfl nf_i ?_
          refine aw_aload_n (i := 0) rfl d_X11_begin_82 0 rfl ?_
          refine aw_aload_n (i := 3) rfl d_X11_begin_83 3 rfl ?_
          refine aw_Vv 0 [.ref b4] [] d_X11_begin_84 (cV_X11_writeRows (d + 2) 0 0) kc_11 (ws_0 w19) tw_912 rfl (rr0 (Nat.le_of_ble_eq_true rfl) (Nat.le_of_ble_eq_true rfl)) (Nat.le_of_ble_eq_true rfl) xs0 k (fun h23 kk => ?_)
          obtain ⟨w24, q26, k⟩ := kk
          refine aw_aload_n (i := 3) rfl d_X11_begin_87 3 rfl ?_
          refine aw_aload_n (i := 0) rfl d_X11_begin_88 0 rfl ?_
          refine aw_getr (k0 := 8) kc_11 (ws_0 w24) (Nat.le_of_ble_eq_true rfl) tw_495 d_X11_begin_89 rfl (wr_0_8 w24) ?_
          refine aw_geti (k0 := 7) kc_7 (ws_16 w24) (Nat.le_of_ble_eq_true rfl) tw_160 d_X11_begin_92 rfl ?_
          refine aw_puti (k0 := 12) kc_2 (q26) (Nat.le_of_ble_eq_true rfl) tw_594 d_X11_begin_95 rfl rfl nf_i ?_
          refine aw_aload_n (i := 0) rfl d_X11_begin_98 0 rfl ?_
          refine aw_aload_n (i := 3) rfl d_X11_begin_99 3 rfl ?_
          refine aw_Vv 0 [.ref b4] [] d_X11_begin_100 (cV_X11_doSteps (d + 5) 0 0) kc_11 (ws_0 w24) tw_931 rfl (rr0 (Nat.le_of_ble_eq_true rfl) (Nat.le_of_ble_eq_true rfl)) (Nat.le_of_ble_eq_true rfl) xs0 k (fun h27 kk => ?_)
          obtain ⟨w28, k⟩ := kk
          refine aw_iconst (v := 1) d_X11_begin_103 ic_1 ?_
          exact aw_zret rfl rfl d_X11_begin_104 ⟨Nat.le_refl _, Nat.le_refl _⟩ ⟨_, rfl, k⟩
        · have k := k.2 c22
          refine aw_iconst (v := 0) d_X11_begin_46 ic_0 ?_
          exact aw_zret rfl rfl d_X11_begin_47 ⟨Nat.le_refl _, Nat.le_refl _⟩ ⟨_, rfl, k⟩
theorem t_X11_goOn (d : Nat) (h : Hp_) (w : Wf h) (x1 : Nat) (hs_x1 : h_sh h x1 = some (12, 17)) (lb_x1 : 400 ≤ x1) (K : Hp_ → Prop) (k : ((h_i h x1 6) = (-1) → (¬ (h_i h x1 4) = 1 → (¬ (h_i h x1 4) = 2 → (¬ (h_i h x1 4) = 3 → K (h_im h x1 7 (-1))) ∧ ((h_i h x1 4) = 3 → Cv (m_X11_serveDrawn (d + 4) 0 0) [.ref 0, .ref x1] (h_im h x1 7 (-1)) (fun h6 => Wf h6 ∧ (K h6)))) ∧ ((h_i h x1 4) = 2 → Cv (m_X11_setFree (d + 1) 0 0) [.ref 0, .ref x1] (h_im h x1 7 (-1)) (fun h9 => Wf h9 ∧ (K h9)))) ∧ ((h_i h x1 4) = 1 → Ci (m_X11_endsStep (d + 5) 0 0) [.ref 0, .ref x1, .int 0] (h_im h x1 7 (-1)) (fun r14 h12 => Wf h12 ∧ h_sh h12 x1 = some (12, 17) ∧ ((r14 = 0 → K h12) ∧ (¬ r14 = 0 → Cv (m_X11_doSteps (d + 5) 0 0) [.ref 0, .ref x1] (h_im h12 x1 9 ((h_i h12 x1 9) + 1)) (fun h17 => Wf h17 ∧ (K h17))))))) ∧ (¬ (h_i h x1 6) = (-1) → Cv (m_X11_putAt (d + 0) 0 0) [.ref 0, .ref x1, .int (h_i h x1 6)] (h_im h x1 6 (-1)) (fun h21 => Wf h21 ∧ h_sh h21 x1 = some (12, 17) ∧ ((¬ (h_i h21 x1 4) = 1 → (¬ (h_i h21 x1 4) = 2 → (¬ (h_i h21 x1 4) = 3 → K (h_im h21 x1 7 (-1))) ∧ ((h_i h21 x1 4) = 3 → Cv (m_X11_serveDrawn (d + 4) 0 0) [.ref 0, .ref x1] (h_im h21 x1 7 (-1)) (fun h28 => Wf h28 ∧ (K h28)))) ∧ ((h_i h21 x1 4) = 2 → Cv (m_X11_setFree (d + 1) 0 0) [.ref 0, .ref x1] (h_im h21 x1 7 (-1)) (fun h31 => Wf h31 ∧ (K h31)))) ∧ ((h_i h21 x1 4) = 1 → Ci (m_X11_endsStep (d + 5) 0 0) [.ref 0, .ref x1, .int 1] (h_im h21 x1 7 (-1)) (fun r36 h34 => Wf h34 ∧ h_sh h34 x1 = some (12, 17) ∧ ((r36 = 0 → K h34) ∧ (¬ r36 = 0 → Cv (m_X11_doSteps (d + 5) 0 0) [.ref 0, .ref x1] (h_im h34 x1 9 ((h_i h34 x1 9) + 1)) (fun h39 => Wf h39 ∧ (K h39)))))))))) : Cv (m_X11_goOn (d + 6) 0 0) [.ref 0, .ref x1] h K := by
  refine Ct.of (fun _ _ _ => trivial) rfl (Nat.le_of_ble_eq_true rfl) ?_
  show AW (m_X11_goOn (d + 6) 0 0) 0 0 0 [(0, .ref 0), (1, .ref x1)] [] h (kV K)
  refine aw_aload_n (i := 1) rfl d_X11_goOn_0 1 rfl ?_
  refine aw_geti (k0 := 6) kc_2 (hs_x1) (Nat.le_of_ble_eq_true rfl) tw_585 d_X11_goOn_1 rfl ?_
  refine aw_iconst (v := (-1)) d_X11_goOn_4 ic_m1 ?_
  refine aw_icmp_eq (tgt := 12) d_X11_goOn_5 rfl (fun c1 => ?_) (fun c1 => ?_)
  · have k := k.1 c1
    refine aw_iconst (v := 0) d_X11_goOn_12 ic_0 ?_
    refine aw_istore_n (i := 2) rfl [(0, .ref 0), (1, .ref x1), (2, .int 0)] d_X11_goOn_13 (Nat.le_of_ble_eq_true rfl) rfl rfl ?_
    refine aw_iload_n (i := 2) rfl d_X11_goOn_14 2 rfl ?_
    refine aw_if_eq (tgt := 34) d_X11_goOn_15 rfl (fun _ => ?_) (fun c => absurd c (by decide))
    refine aw_aload_n (i := 1) rfl d_X11_goOn_34 1 rfl ?_
    refine aw_iconst (v := (-1)) d_X11_goOn_35 ic_m1 ?_
    refine aw_puti (k0 := 7) kc_2 (hs_x1) (Nat.le_of_ble_eq_true rfl) tw_587 d_X11_goOn_36 rfl rfl nf_i ?_
    refine aw_aload_n (i := 1) rfl d_X11_goOn_39 1 rfl ?_
    refine aw_geti (k0 := 4) kc_2 (hs_x1) (Nat.le_of_ble_eq_true rfl) tw_581 d_X11_goOn_40 rfl ?_
    refine aw_vi (v2 := (h_i h x1 4)) ((hi_o h x1 7 (-1) 4 (by decide)).trans (rfl)) ?_
    refine aw_iconst (v := 1) d_X11_goOn_43 ic_1 ?_
    refine aw_icmp_ne (tgt := 74) d_X11_goOn_44 rfl (fun c3 => ?_) (fun c3 => ?_)
    · have k := k.1 c3
      refine aw_aload_n (i := 1) rfl d_X11_goOn_74 1 rfl ?_
      refine aw_geti (k0 := 4) kc_2 (hs_x1) (Nat.le_of_ble_eq_true rfl) tw_581 d_X11_goOn_75 rfl ?_
      refine aw_vi (v2 := (h_i h x1 4)) ((hi_o h x1 7 (-1) 4 (by decide)).trans (rfl)) ?_
      refine aw_iconst (v := 2) d_X11_goOn_78 ic_2 ?_
      refine aw_icmp_ne (tgt := 90) d_X11_goOn_79 rfl (fun c4 => ?_) (fun c4 => ?_)
      · have k := k.1 c4
        refine aw_aload_n (i := 1) rfl d_X11_goOn_90 1 rfl ?_
        refine aw_geti (k0 := 4) kc_2 (hs_x1) (Nat.le_of_ble_eq_true rfl) tw_581 d_X11_goOn_91 rfl ?_
        refine aw_vi (v2 := (h_i h x1 4)) ((hi_o h x1 7 (-1) 4 (by decide)).trans (rfl)) ?_
        refine aw_iconst (v := 3) d_X11_goOn_94 ic_3 ?_
        refine aw_icmp_ne (tgt := 103) d_X11_goOn_95 rfl (fun c5 => ?_) (fun c5 => ?_)
        · have k := k.1 c5
          exact aw_vret rfl d_X11_goOn_103 ⟨Nat.le_refl _, Nat.le_refl _⟩ ⟨rfl, k⟩
        · have k := k.2 c5
          refine aw_aload_n (i := 0) rfl d_X11_goOn_98 0 rfl ?_
          refine aw_aload_n (i := 1) rfl d_X11_goOn_99 1 rfl ?_
          refine aw_Vv 0 [.ref x1] [] d_X11_goOn_100 (cV_X11_serveDrawn (d + 4) 0 0) kc_11 (ws_0 w) tw_983 rfl (rr0 (Nat.le_of_ble_eq_true rfl) (Nat.le_of_ble_eq_true rfl)) (Nat.le_of_ble_eq_true rfl) xs0 k (fun h6 kk => ?_)
          obtain ⟨w7, k⟩ := kk
          exact aw_vret rfl d_X11_goOn_103 ⟨Nat.le_refl _, Nat.le_refl _⟩ ⟨rfl, k⟩
      · have k := k.2 c4
        refine aw_aload_n (i := 0) rfl d_X11_goOn_82 0 rfl ?_
        refine aw_aload_n (i := 1) rfl d_X11_goOn_83 1 rfl ?_
        refine aw_Vv 0 [.ref x1] [] d_X11_goOn_84 (cV_X11_setFree (d + 1) 0 0) kc_11 (ws_0 w) tw_963 rfl (rr0 (Nat.le_of_ble_eq_true rfl) (Nat.le_of_ble_eq_true rfl)) (Nat.le_of_ble_eq_true rfl) xs0 k (fun h9 kk => ?_)
        obtain ⟨w10, k⟩ := kk
        refine aw_goto (tgt := 103) d_X11_goOn_87 rfl ?_
        exact aw_vret rfl d_X11_goOn_103 ⟨Nat.le_refl _, Nat.le_refl _⟩ ⟨rfl, k⟩
    · have k := k.2 c3
      refine aw_aload_n (i := 0) rfl d_X11_goOn_47 0 rfl ?_
      refine aw_aload_n (i := 1) rfl d_X11_goOn_48 1 rfl ?_
      refine aw_iload_n (i := 2) rfl d_X11_goOn_49 2 rfl ?_
      refine aw_Vi 0 [.ref x1, .int 0] [] d_X11_goOn_50 (cV_X11_endsStep (d + 5) 0 0) kc_11 (ws_0 w) tw_1019 rfl (rr0 (Nat.le_of_ble_eq_true rfl) (Nat.le_of_ble_eq_true rfl)) (Nat.le_of_ble_eq_true rfl) xs0 k (fun r14 h12 kk => ?_)
      obtain ⟨w13, q15, k⟩ := kk
      refine aw_if_eq (tgt := 103) d_X11_goOn_53 rfl (fun c16 => ?_) (fun c16 => ?_)
      · have k := k.1 c16
        exact aw_vret rfl d_X11_goOn_103 ⟨Nat.le_refl _, Nat.le_refl _⟩ ⟨rfl, k⟩
      · have k := k.2 c16
        refine aw_aload_n (i := 1) rfl d_X11_goOn_56 1 rfl ?_
        refine aw_dup d_X11_goOn_57 rfl ?_
        refine aw_geti (k0 := 9) kc_2 (q15) (Nat.le_of_ble_eq_true rfl) tw_589 d_X11_goOn_58 rfl ?_
        refine aw_iconst (v := 1) d_X11_goOn_61 ic_1 ?_
        refine aw_iadd d_X11_goOn_62 ?_
        refine aw_puti (k0 := 9) kc_2 (q15) (Nat.le_of_ble_eq_true rfl) tw_589 d_X11_goOn_63 rfl rfl nf_i ?_
        refine aw_aload_n (i := 0) rfl d_X11_goOn_66 0 rfl ?_
        refine aw_aload_n (i := 1) rfl d_X11_goOn_67 1 rfl ?_
        refine aw_Vv 0 [.ref x1] [] d_X11_goOn_68 (cV_X11_doSteps (d + 5) 0 0) kc_11 (ws_0 w13) tw_931 rfl (rr0 (Nat.le_of_ble_eq_true rfl) (Nat.le_of_ble_eq_true rfl)) (Nat.le_of_ble_eq_true rfl) xs0 k (fun h17 kk => ?_)
        obtain ⟨w18, k⟩ := kk
        refine aw_goto (tgt := 103) d_X11_goOn_71 rfl ?_
        exact aw_vret rfl d_X11_goOn_103 ⟨Nat.le_refl _, Nat.le_refl _⟩ ⟨rfl, k⟩
  · have k := k.2 c1
    refine aw_iconst (v := 1) d_X11_goOn_8 ic_1 ?_
    refine aw_goto (tgt := 13) d_X11_goOn_9 rfl ?_
    refine aw_istore_n (i := 2) rfl [(0, .ref 0), (1, .ref x1), (2, .int 1)] d_X11_goOn_13 (Nat.le_of_ble_eq_true rfl) rfl rfl ?_
    refine aw_iload_n (i := 2) rfl d_X11_goOn_14 2 rfl ?_
    refine aw_if_eq (tgt := 34) d_X11_goOn_15 rfl (fun c => absurd c (by decide)) (fun _ => ?_)
    refine aw_aload_n (i := 1) rfl d_X11_goOn_18 1 rfl ?_
    refine aw_geti (k0 := 6) kc_2 (hs_x1) (Nat.le_of_ble_eq_true rfl) tw_585 d_X11_goOn_19 rfl ?_
    refine aw_istore_n (i := 3) rfl [(0, .ref 0), (1, .ref x1), (2, .int 1), (3, .int (h_i h x1 6))] d_X11_goOn_22 (Nat.le_of_ble_eq_true rfl) rfl rfl ?_
    refine aw_aload_n (i := 1) rfl d_X11_goOn_23 1 rfl ?_
    refine aw_iconst (v := (-1)) d_X11_goOn_24 ic_m1 ?_
    refine aw_puti (k0 := 6) kc_2 (hs_x1) (Nat.le_of_ble_eq_true rfl) tw_585 d_X11_goOn_25 rfl rfl nf_i ?_
    refine aw_aload_n (i := 0) rfl d_X11_goOn_28 0 rfl ?_
    refine aw_aload_n (i := 1) rfl d_X11_goOn_29 1 rfl ?_
    refine aw_iload_n (i := 3) rfl d_X11_goOn_30 3 rfl ?_
    refine aw_Vv 0 [.ref x1, .int (h_i h x1 6)] [] d_X11_goOn_31 (cV_X11_putAt (d + 0) 0 0) kc_11 (ws_0 w) tw_634 rfl (rr0 (Nat.le_of_ble_eq_true rfl) (Nat.le_of_ble_eq_true rfl)) (Nat.le_of_ble_eq_true rfl) xs0 k (fun h21 kk => ?_)
    obtain ⟨w22, q24, k⟩ := kk
    refine aw_aload_n (i := 1) rfl d_X11_goOn_34 1 rfl ?_
    refine aw_iconst (v := (-1)) d_X11_goOn_35 ic_m1 ?_
    refine aw_puti (k0 := 7) kc_2 (q24) (Nat.le_of_ble_eq_true rfl) tw_587 d_X11_goOn_36 rfl rfl nf_i ?_
    refine aw_aload_n (i := 1) rfl d_X11_goOn_39 1 rfl ?_
    refine aw_geti (k0 := 4) kc_2 (q24) (Nat.le_of_ble_eq_true rfl) tw_581 d_X11_goOn_40 rfl ?_
    refine aw_vi (v2 := (h_i h21 x1 4)) ((hi_o h21 x1 7 (-1) 4 (by decide)).trans (rfl)) ?_
    refine aw_iconst (v := 1) d_X11_goOn_43 ic_1 ?_
    refine aw_icmp_ne (tgt := 74) d_X11_goOn_44 rfl (fun c25 => ?_) (fun c25 => ?_)
    · have k := k.1 c25
      refine aw_aload_n (i := 1) rfl d_X11_goOn_74 1 rfl ?_
      refine aw_geti (k0 := 4) kc_2 (q24) (Nat.le_of_ble_eq_true rfl) tw_581 d_X11_goOn_75 rfl ?_
      refine aw_vi (v2 := (h_i h21 x1 4)) ((hi_o h21 x1 7 (-1) 4 (by decide)).trans (rfl)) ?_
      refine aw_iconst (v := 2) d_X11_goOn_78 ic_2 ?_
      refine aw_icmp_ne (tgt := 90) d_X11_goOn_79 rfl (fun c26 => ?_) (fun c26 => ?_)
      · have k := k.1 c26
        refine aw_aload_n (i := 1) rfl d_X11_goOn_90 1 rfl ?_
        refine aw_geti (k0 := 4) kc_2 (q24) (Nat.le_of_ble_eq_true rfl) tw_581 d_X11_goOn_91 rfl ?_
        refine aw_vi (v2 := (h_i h21 x1 4)) ((hi_o h21 x1 7 (-1) 4 (by decide)).trans (rfl)) ?_
        refine aw_iconst (v := 3) d_X11_goOn_94 ic_3 ?_
        refine aw_icmp_ne (tgt := 103) d_X11_goOn_95 rfl (fun c27 => ?_) (fun c27 => ?_)
        · have k := k.1 c27
          exact aw_vret rfl d_X11_goOn_103 ⟨Nat.le_refl _, Nat.le_refl _⟩ ⟨rfl, k⟩
        · have k := k.2 c27
          refine aw_aload_n (i := 0) rfl d_X11_goOn_98 0 rfl ?_
          refine aw_aload_n (i := 1) rfl d_X11_goOn_99 1 rfl ?_
          refine aw_Vv 0 [.ref x1] [] d_X11_goOn_100 (cV_X11_serveDrawn (d + 4) 0 0) kc_11 (ws_0 w22) tw_983 rfl (rr0 (Nat.le_of_ble_eq_true rfl) (Nat.le_of_ble_eq_true rfl)) (Nat.le_of_ble_eq_true rfl) xs0 k (fun h28 kk => ?_)
          obtain ⟨w29, k⟩ := kk
          exact aw_vret rfl d_X11_goOn_103 ⟨Nat.le_refl _, Nat.le_refl _⟩ ⟨rfl, k⟩
      · have k := k.2 c26
        refine aw_aload_n (i := 0) rfl d_X11_goOn_82 0 rfl ?_
        refine aw_aload_n (i := 1) rfl d_X11_goOn_83 1 rfl ?_
        refine aw_Vv 0 [.ref x1] [] d_X11_goOn_84 (cV_X11_setFree (d + 1) 0 0) kc_11 (ws_0 w22) tw_963 rfl (rr0 (Nat.le_of_ble_eq_true rfl) (Nat.le_of_ble_eq_true rfl)) (Nat.le_of_ble_eq_true rfl) xs0 k (fun h31 kk => ?_)
        obtain ⟨w32, k⟩ := kk
        refine aw_goto (tgt := 103) d_X11_goOn_87 rfl ?_
        exact aw_vret rfl d_X11_goOn_103 ⟨Nat.le_refl _, Nat.le_refl _⟩ ⟨rfl, k⟩
    · have k := k.2 c25
      refine aw_aload_n (i := 0) rfl d_X11_goOn_47 0 rfl ?_
      refine aw_aload_n (i := 1) rfl d_X11_goOn_48 1 rfl ?_
      refine aw_iload_n (i := 2) rfl d_X11_goOn_49 2 rfl ?_
      refine aw_Vi 0 [.ref x1, .int 1] [] d_X11_goOn_50 (cV_X11_endsStep (d + 5) 0 0) kc_11 (ws_0 w22) tw_1019 rfl (rr0 (Nat.le_of_ble_eq_true rfl) (Nat.le_of_ble_eq_true rfl)) (Nat.le_of_ble_eq_true rfl) xs0 k (fun r36 h34 kk => ?_)
      obtain ⟨w35, q37, k⟩ := kk
      refine aw_if_eq (tgt := 103) d_X11_goOn_53 rfl (fun c38 => ?_) (fun c38 => ?_)
      · have k := k.1 c38
        exact aw_vret rfl d_X11_goOn_103 ⟨Nat.le_refl _, Nat.le_refl _⟩ ⟨rfl, k⟩
      · have k := k.2 c38
        refine aw_aload_n (i := 1) rfl d_X11_goOn_56 1 rfl ?_
        refine aw_dup d_X11_goOn_57 rfl ?_
        refine aw_geti (k0 := 9) kc_2 (q37) (Nat.le_of_ble_eq_true rfl) tw_589 d_X11_goOn_58 rfl ?_
        refine aw_iconst (v := 1) d_X11_goOn_61 ic_1 ?_
        refine aw_iadd d_X11_goOn_62 ?_
        refine aw_puti (k0 := 9) kc_2 (q37) (Nat.le_of_ble_eq_true rfl) tw_589 d_X11_goOn_63 rfl rfl nf_i ?_
        refine aw_aload_n (i := 0) rfl d_X11_goOn_66 0 rfl ?_
        refine aw_aload_n (i := 1) rfl d_X11_goOn_67 1 rfl ?_
        refine aw_Vv 0 [.ref x1] [] d_X11_goOn_68 (cV_X11_doSteps (d + 5) 0 0) kc_11 (ws_0 w35) tw_931 rfl (rr0 (Nat.le_of_ble_eq_true rfl) (Nat.le_of_ble_eq_true rfl)) (Nat.le_of_ble_eq_true rfl) xs0 k (fun h39 kk => ?_)
        obtain ⟨w40, k⟩ := kk
        refine aw_goto (tgt := 103) d_X11_goOn_71 rfl ?_
        exact aw_vret rfl d_X11_goOn_103 ⟨Nat.le_refl _, Nat.le_refl _⟩ ⟨rfl, k⟩
theorem t_X11_cased (d : Nat) (h : Hp_) (w : Wf h) (x1 : Int32) (x2 : Int32) (x3 : Int32) (K : Int32 → Hp_ → Prop) (k : Ci (m_X11_isKnown (d + 1) 0 0) [.ref 0, .int x2] h (fun r3 h1 => Wf h1 ∧ ((r3 = 0 → K (-1) h1) ∧ (¬ r3 = 0 → Ci (m_X1_wasOpen (d + 1) 0 0) [.ref 18, .int x1, .int x2] h1 (fun r7 h5 => Wf h5 ∧ ((r7 = 0 → K (-1) h5) ∧ (¬ r7 = 0 → Ci (m_X1_tell (d + 5) 0 0) [.ref 18, .int x1, .int x2, .int x3] h5 (fun r11 h9 => Wf h9 ∧ (K r11 h9))))))))) : Ci (m_X11_cased (d + 6) 0 0) [.ref 0, .int x1, .int x2, .int x3] h K := by
  refine Ct.of (fun _ _ _ => trivial) rfl (Nat.le_of_ble_eq_true rfl) ?_
  show AW (m_X11_cased (d + 6) 0 0) 0 0 0 [(0, .ref 0), (1, .int x1), (2, .int x2), (3, .int x3)] [] h (kI K)
  refine aw_aload_n (i := 0) rfl d_X11_cased_0 0 rfl ?_
  refine aw_iload_n (i := 2) rfl d_X11_cased_1 2 rfl ?_
  refine aw_Vi 0 [.int x2] [] d_X11_cased_2 (cV_X11_isKnown (d + 1) 0 0) kc_11 (ws_0 w) tw_1102 rfl (rr0 (Nat.le_of_ble_eq_true rfl) (Nat.le_of_ble_eq_true rfl)) (Nat.le_of_ble_eq_true rfl) xs0 k (fun r3 h1 kk => ?_)
  obtain ⟨w2, k⟩ := kk
  refine aw_if_eq (tgt := 33) d_X11_cased_5 rfl (fun c4 => ?_) (fun c4 => ?_)
  · have k := k.1 c4
    refine aw_iconst (v := (-1)) d_X11_cased_33 ic_m1 ?_
    exact aw_iret rfl d_X11_cased_34 ⟨Nat.le_refl _, Nat.le_refl _⟩ ⟨_, rfl, k⟩
  · have k := k.2 c4
    refine aw_aload_n (i := 0) rfl d_X11_cased_8 0 rfl ?_
    refine aw_getr (k0 := 10) kc_11 (ws_0 w2) (Nat.le_of_ble_eq_true rfl) tw_497 d_X11_cased_9 rfl (wr_0_10 w2) ?_
    refine aw_iload_n (i := 1) rfl d_X11_cased_12 1 rfl ?_
    refine aw_iload_n (i := 2) rfl d_X11_cased_13 2 rfl ?_
    refine aw_Vi 18 [.int x1, .int x2] [] d_X11_cased_14 (cV_X1_wasOpen (d + 1) 0 0) kc_1 (ws_18 w2) tw_1279 rfl (rr0 (Nat.le_of_ble_eq_true rfl) (Nat.le_of_ble_eq_true rfl)) (Nat.le_of_ble_eq_true rfl) xs0 k (fun r7 h5 kk => ?_)
    obtain ⟨w6, k⟩ := kk
    refine aw_if_eq (tgt := 33) d_X11_cased_17 rfl (fun c8 => ?_) (fun c8 => ?_)
    · have k := k.1 c8
      refine aw_iconst (v := (-1)) d_X11_cased_33 ic_m1 ?_
      exact aw_iret rfl d_X11_cased_34 ⟨Nat.le_refl _, Nat.le_refl _⟩ ⟨_, rfl, k⟩
    · have k := k.2 c8
      refine aw_aload_n (i := 0) rfl d_X11_cased_20 0 rfl ?_
      refine aw_getr (k0 := 10) kc_11 (ws_0 w6) (Nat.le_of_ble_eq_true rfl) tw_497 d_X11_cased_21 rfl (wr_0_10 w6) ?_
      refine aw_iload_n (i := 1) rfl d_X11_cased_24 1 rfl ?_
      refine aw_iload_n (i := 2) rfl d_X11_cased_25 2 rfl ?_
      refine aw_iload_n (i := 3) rfl d_X11_cased_26 3 rfl ?_
      refine aw_Vi 18 [.int x1, .int x2, .int x3] [] d_X11_cased_27 (cV_X1_tell (d + 5) 0 0) kc_1 (ws_18 w6) tw_1289 rfl (rr0 (Nat.le_of_ble_eq_true rfl) (Nat.le_of_ble_eq_true rfl)) (Nat.le_of_ble_eq_true rfl) xs0 k (fun r11 h9 kk => ?_)
      obtain ⟨w10, k⟩ := kk
      refine aw_goto (tgt := 34) d_X11_cased_30 rfl ?_
      exact aw_iret rfl d_X11_cased_34 ⟨Nat.le_refl _, Nat.le_refl _⟩ ⟨_, rfl, k⟩
theorem t_X11_paid (d : Nat) (h : Hp_) (w : Wf h) (x1 : Int32) (x2 : Int32) (x3 : Int32) (K : Int32 → Hp_ → Prop) (k : Cr (m_X11_manOf (d + 1) 0 0) [.ref 0, .int x1] h (fun o5 h1 => Wf h1 ∧ ((o5 = none → K (-1) h1) ∧ (∀ b4, o5 = some b4 → h_sh h1 b4 = some (12, 17) ∧ 400 ≤ b4 ∧ (Ci (m_X11_isKnown (d + 1) 0 0) [.ref 0, .int x3] h1 (fun r10 h8 => Wf h8 ∧ h_sh h8 b4 = some (12, 17) ∧ ((r10 = 0 → K (-1) h8) ∧ (¬ r10 = 0 → ((0 ≤ x2 ∧ x2 ≤ ((x3 / 1440) - 1)) → Ci (m_X11_wageOf (d + 5) 0 0) [.ref 0, .ref b4, .int x2, .int x3] h8 (fun r18 h16 => Wf h16 ∧ (K r18 h16))) ∧ (¬ (0 ≤ x2 ∧ x2 ≤ ((x3 / 1440) - 1)) → K (-1) h8))))))))) : Ci (m_X11_paid (d + 6) 0 0) [.ref 0, .int x1, .int x2, .int x3] h K := by
  refine Ct.of (fun _ _ _ => trivial) rfl (Nat.le_of_ble_eq_true rfl) ?_
  show AW (m_X11_paid (d + 6) 0 0) 0 0 0 [(0, .ref 0), (1, .int x1), (2, .int x2), (3, .int x3)] [] h (kI K)
  refine aw_aload_n (i := 0) rfl d_X11_paid_0 0 rfl ?_
  refine aw_iload_n (i := 1) rfl d_X11_paid_1 1 rfl ?_
  refine aw_Vr 0 [.int x1] [] d_X11_paid_2 (cV_X11_manOf (d + 1) 0 0) kc_11 (ws_0 w) tw_904 rfl (rr0 (Nat.le_of_ble_eq_true rfl) (Nat.le_of_ble_eq_true rfl)) (Nat.le_of_ble_eq_true rfl) xs0 k (fun h1 kk => ?_) (fun b4 h1 kk => ?_)
  · obtain ⟨w2, k⟩ := kk
    have k := k.1 rfl
    refine aw_astoreN [(0, .ref 0), (1, .int x1), (2, .int x2), (3, .int x3), (4, .null)] d_X11_paid_5 (Nat.le_of_ble_eq_true rfl) rfl rfl ?_
    refine aw_aloadN d_X11_paid_7 4 rfl ?_
    refine aw_ifnullN (tgt := 35) d_X11_paid_9 rfl ?_
    refine aw_iconst (v := (-1)) d_X11_paid_35 ic_m1 ?_
    exact aw_iret rfl d_X11_paid_36 ⟨Nat.le_refl _, Nat.le_refl _⟩ ⟨_, rfl, k⟩
  · obtain ⟨w2, k⟩ := kk
    obtain ⟨q6, l7, k⟩ := k.2 b4 rfl
    refine aw_astore [(0, .ref 0), (1, .int x1), (2, .int x2), (3, .int x3), (4, .ref b4)] d_X11_paid_5 (Nat.le_of_ble_eq_true rfl) rfl rfl ?_
    refine aw_aload d_X11_paid_7 4 rfl ?_
    refine aw_ifnull d_X11_paid_9 ?_
    refine aw_aload_n (i := 0) rfl d_X11_paid_12 0 rfl ?_
    refine aw_iload_n (i := 3) rfl d_X11_paid_13 3 rfl ?_
    refine aw_Vi 0 [.int x3] [] d_X11_paid_14 (cV_X11_isKnown (d + 1) 0 0) kc_11 (ws_0 w2) tw_1102 rfl (rr0 (Nat.le_of_ble_eq_true rfl) (Nat.le_of_ble_eq_true rfl)) (Nat.le_of_ble_eq_true rfl) xs0 k (fun r10 h8 kk => ?_)
    obtain ⟨w9, q11, k⟩ := kk
    refine aw_if_eq (tgt := 35) d_X11_paid_17 rfl (fun c12 => ?_) (fun c12 => ?_)
    · have k := k.1 c12
      refine aw_iconst (v := (-1)) d_X11_paid_35 ic_m1 ?_
      exact aw_iret rfl d_X11_paid_36 ⟨Nat.le_refl _, Nat.le_refl _⟩ ⟨_, rfl, k⟩
    · have k := k.2 c12
      refine aw_iload_n (i := 2) rfl d_X11_paid_20 2 rfl ?_
      refine aw_iconst (v := 0) d_X11_paid_21 ic_0 ?_
      refine aw_iload_n (i := 3) rfl d_X11_paid_22 3 rfl ?_
      refine aw_sipush (v := 1440) d_X11_paid_23 is_1440 ?_
      refine aw_idiv d_X11_paid_26 (by decide) ?_
      refine aw_iconst (v := 1) d_X11_paid_27 ic_1 ?_
      refine aw_isub d_X11_paid_28 ?_
      refine aw_Si [.int x2, .int 0, .int ((x3 / 1440) - 1)] [] d_X11_paid_29 (cS_X11_within (d + 0) 0 0) tw_543 rfl (rr0 (Nat.le_of_ble_eq_true rfl) (Nat.le_of_ble_eq_true rfl)) (Nat.le_of_ble_eq_true rfl) xs0 (s_X11_within _ _ x2 0 ((x3 / 1440) - 1)) (fun _ _ kk => ?_)
      obtain ⟨e13, e14⟩ := kk
      rw [e13, e14]
      refine aw_ifb_ne (tgt := 37) d_X11_paid_32 rfl (fun c15 => ?_) (fun c15 => ?_)
      · have k := k.1 c15
        refine aw_aload_n (i := 0) rfl d_X11_paid_37 0 rfl ?_
        refine aw_aload d_X11_paid_38 4 rfl ?_
        refine aw_iload_n (i := 2) rfl d_X11_paid_40 2 rfl ?_
        refine aw_iload_n (i := 3) rfl d_X11_paid_41 3 rfl ?_
        refine aw_Vi 0 [.ref b4, .int x2, .int x3] [] d_X11_paid_42 (cV_X11_wageOf (d + 5) 0 0) kc_11 (ws_0 w9) tw_1581 rfl (rr0 (Nat.le_of_ble_eq_true rfl) (Nat.le_of_ble_eq_true rfl)) (Nat.le_of_ble_eq_true rfl) xs0 k (fun r18 h16 kk => ?_)
        obtain ⟨w17, k⟩ := kk
        exact aw_iret rfl d_X11_paid_45 ⟨Nat.le_refl _, Nat.le_refl _⟩ ⟨_, rfl, k⟩
      · have k := k.2 c15
        refine aw_iconst (v := (-1)) d_X11_paid_35 ic_m1 ?_
        exact aw_iret rfl d_X11_paid_36 ⟨Nat.le_refl _, Nat.le_refl _⟩ ⟨_, rfl, k⟩
theorem t_X11_book (d : Nat) (h : Hp_) (w : Wf h)  (K : Int32 → Hp_ → Prop) (k : AW (m_X11_book (d + 6) 0 0) 0 0 11 [(0, .ref 0), (1, .int ((h_i h 0 0) / 1440)), (2, .int 0)] [] h (kI K)) : Ci (m_X11_book (d + 6) 0 0) [.ref 0] h K := by
  refine Ct.of (fun _ _ _ => trivial) rfl (Nat.le_of_ble_eq_true rfl) ?_
  show AW (m_X11_book (d + 6) 0 0) 0 0 0 [(0, .ref 0)] [] h (kI K)
  refine aw_aload_n (i := 0) rfl d_X11_book_0 0 rfl ?_
  refine aw_geti (k0 := 0) kc_11 (ws_0 w) (Nat.le_of_ble_eq_true rfl) tw_487 d_X11_book_1 rfl ?_
  refine aw_sipush (v := 1440) d_X11_book_4 is_1440 ?_
  refine aw_idiv d_X11_book_7 (by decide) ?_
  refine aw_istore_n (i := 1) rfl [(0, .ref 0), (1, .int ((h_i h 0 0) / 1440))] d_X11_book_8 (Nat.le_of_ble_eq_true rfl) rfl rfl ?_
  refine aw_iconst (v := 0) d_X11_book_9 ic_0 ?_
  refine aw_istore_n (i := 2) rfl [(0, .ref 0), (1, .int ((h_i h 0 0) / 1440)), (2, .int 0)] d_X11_book_10 (Nat.le_of_ble_eq_true rfl) rfl rfl ?_
  exact k
theorem t_X11_book_11 (d : Nat) (h : Hp_) (w : Wf h) (x1 : Int32) (x2 : Int32) (K : Int32 → Hp_ → Prop) (k : (x1 ≤ x2 → Ci (m_X5_bookAll (d + 1) 0 0) [.ref 21, .int (h_i h 0 7), .int x1, .int (h_i h 0 0)] h (fun r4 h2 => Wf h2 ∧ (K r4 h2))) ∧ (¬ x1 ≤ x2 → AW (m_X11_book (d + 6) 0 0) 0 0 18 [(0, .ref 0), (1, .int x1), (2, .int x2), (3, .int 0)] [] h (kI K))) : AW (m_X11_book (d + 6) 0 0) 0 0 11 [(0, .ref 0), (1, .int x1), (2, .int x2)] [] h (kI K) := by
  refine aw_iload_n (i := 2) rfl d_X11_book_11 2 rfl ?_
  refine aw_iload_n (i := 1) rfl d_X11_book_12 1 rfl ?_
  refine aw_icmp_ge (tgt := 62) d_X11_book_13 rfl (fun c1 => ?_) (fun c1 => ?_)
  · have k := k.1 c1
    refine aw_aload_n (i := 0) rfl d_X11_book_62 0 rfl ?_
    refine aw_getr (k0 := 13) kc_11 (ws_0 w) (Nat.le_of_ble_eq_true rfl) tw_500 d_X11_book_63 rfl (wr_0_13 w) ?_
    refine aw_aload_n (i := 0) rfl d_X11_book_66 0 rfl ?_
    refine aw_geti (k0 := 7) kc_11 (ws_0 w) (Nat.le_of_ble_eq_true rfl) tw_494 d_X11_book_67 rfl ?_
    refine aw_iload_n (i := 1) rfl d_X11_book_70 1 rfl ?_
    refine aw_aload_n (i := 0) rfl d_X11_book_71 0 rfl ?_
    refine aw_geti (k0 := 0) kc_11 (ws_0 w) (Nat.le_of_ble_eq_true rfl) tw_487 d_X11_book_72 rfl ?_
    refine aw_Vi 21 [.int (h_i h 0 7), .int x1, .int (h_i h 0 0)] [] d_X11_book_75 (cV_X5_bookAll (d + 1) 0 0) kc_5 (ws_21 w) tw_1610 rfl (rr0 (Nat.le_of_ble_eq_true rfl) (Nat.le_of_ble_eq_true rfl)) (Nat.le_of_ble_eq_true rfl) xs0 k (fun r4 h2 kk => ?_)
    obtain ⟨w3, k⟩ := kk
    exact aw_iret rfl d_X11_book_78 ⟨Nat.le_refl _, Nat.le_refl _⟩ ⟨_, rfl, k⟩
  · have k := k.2 c1
    refine aw_iconst (v := 0) d_X11_book_16 ic_0 ?_
    refine aw_istore_n (i := 3) rfl [(0, .ref 0), (1, .int x1), (2, .int x2), (3, .int 0)] d_X11_book_17 (Nat.le_of_ble_eq_true rfl) rfl rfl ?_
    exact k
theorem t_X11_book_18 (d : Nat) (h : Hp_) (w : Wf h) (x1 : Int32) (x2 : Int32) (x3 : Int32) (K : Int32 → Hp_ → Prop) (k : ((h_i h 0 7) ≤ x3 → AW (m_X11_book (d + 6) 0 0) 0 0 11 [(0, .ref 0), (1, .int x1), (2, .int (x2 + 1))] [] h (kI K)) ∧ (¬ (h_i h 0 7) ≤ x3 → vp_in x3 12 ∧ ((h_r h 15 x3.toNatClampNeg = none → Ci (m_X11_wageOf (d + 5) 0 0) [.ref 0, .null, .int x2, .int (h_i h 0 0)] h (fun r13 h11 => Wf h11 ∧ (Cv (m_X5_setWage (d + 1) 0 0) [.ref 21, .int x3, .int x2, .int r13] h11 (fun h14 => Wf h14 ∧ (AW (m_X11_book (d + 6) 0 0) 0 0 18 [(0, .ref 0), (1, .int x1), (2, .int x2), (3, .int (x3 + 1))] [] h14 (kI K)))))) ∧ (∀ b7, h_r h 15 x3.toNatClampNeg = some b7 → h_sh h b7 = some (12, 17) ∧ 400 ≤ b7 ∧ (Ci (m_X11_wageOf (d + 5) 0 0) [.ref 0, .ref b7, .int x2, .int (h_i h 0 0)] h (fun r19 h17 => Wf h17 ∧ (Cv (m_X5_setWage (d + 1) 0 0) [.ref 21, .int x3, .int x2, .int r19] h17 (fun h20 => Wf h20 ∧ (AW (m_X11_book (d + 6) 0 0) 0 0 18 [(0, .ref 0), (1, .int x1), (2, .int x2), (3, .int (x3 + 1))] [] h20 (kI K)))))))))) : AW (m_X11_book (d + 6) 0 0) 0 0 18 [(0, .ref 0), (1, .int x1), (2, .int x2), (3, .int x3)] [] h (kI K) := by
  refine aw_iload_n (i := 3) rfl d_X11_book_18 3 rfl ?_
  refine aw_aload_n (i := 0) rfl d_X11_book_19 0 rfl ?_
  refine aw_geti (k0 := 7) kc_11 (ws_0 w) (Nat.le_of_ble_eq_true rfl) tw_494 d_X11_book_20 rfl ?_
  refine aw_icmp_ge (tgt := 56) d_X11_book_23 rfl (fun c5 => ?_) (fun c5 => ?_)
  · have k := k.1 c5
    refine aw_iinc (v := (x2 + 1)) [(0, .ref 0), (1, .int x1), (2, .int (x2 + 1)), (3, .int x3)] d_X11_book_56 2 rfl rfl (Nat.le_of_ble_eq_true rfl) rfl rfl ?_
    refine aw_goto (tgt := 11) d_X11_book_59 rfl ?_
    exact aw_lvp [0, 1, 2] [(0, .ref 0), (1, .int x1), (2, .int (x2 + 1))] rfl k
  · have k := k.2 c5
    refine aw_aload_n (i := 0) rfl d_X11_book_26 0 rfl ?_
    refine aw_getr (k0 := 13) kc_11 (ws_0 w) (Nat.le_of_ble_eq_true rfl) tw_500 d_X11_book_27 rfl (wr_0_13 w) ?_
    refine aw_iload_n (i := 3) rfl d_X11_book_30 3 rfl ?_
    refine aw_iload_n (i := 2) rfl d_X11_book_31 2 rfl ?_
    refine aw_aload_n (i := 0) rfl d_X11_book_32 0 rfl ?_
    refine aw_aload_n (i := 0) rfl d_X11_book_33 0 rfl ?_
    refine aw_getr (k0 := 6) kc_11 (ws_0 w) (Nat.le_of_ble_eq_true rfl) tw_493 d_X11_book_34 rfl (wr_0_6 w) ?_
    refine aw_iload_n (i := 3) rfl d_X11_book_37 3 rfl ?_
    obtain ⟨b6, k⟩ := k
    rcases e10 : h_r h 15 x3.toNatClampNeg with _ | b7
    · refine aw_aaldn (ws_15 w) b6 e10 d_X11_book_38 ?_
      have k := k.1 e10
      refine aw_iload_n (i := 2) rfl d_X11_book_39 2 rfl ?_
      refine aw_aload_n (i := 0) rfl d_X11_book_40 0 rfl ?_
      refine aw_geti (k0 := 0) kc_11 (ws_0 w) (Nat.le_of_ble_eq_true rfl) tw_487 d_X11_book_41 rfl ?_
      refine aw_Vi 0 [.null, .int x2, .int (h_i h 0 0)] [.int x2, .int x3, .ref 21] d_X11_book_44 (cV_X11_wageOf (d + 5) 0 0) kc_11 (ws_0 w) tw_1581 rfl (rr0 (Nat.le_of_ble_eq_true rfl) (Nat.le_of_ble_eq_true rfl)) (Nat.le_of_ble_eq_true rfl) xs0 k (fun r13 h11 kk => ?_)
      obtain ⟨w12, k⟩ := kk
      refine aw_Vv 21 [.int x3, .int x2, .int r13] [] d_X11_book_47 (cV_X5_setWage (d + 1) 0 0) kc_5 (ws_21 w12) tw_1606 rfl (rr0 (Nat.le_of_ble_eq_true rfl) (Nat.le_of_ble_eq_true rfl)) (Nat.le_of_ble_eq_true rfl) xs0 k (fun h14 kk => ?_)
      obtain ⟨w15, k⟩ := kk
      refine aw_iinc (v := (x3 + 1)) [(0, .ref 0), (1, .int x1), (2, .int x2), (3, .int (x3 + 1))] d_X11_book_50 3 rfl rfl (Nat.le_of_ble_eq_true rfl) rfl rfl ?_
      refine aw_goto (tgt := 18) d_X11_book_53 rfl ?_
      exact k
    · refine aw_aaldr (ws_15 w) b6 e10 d_X11_book_38 ?_
      obtain ⟨q8, l9, k⟩ := k.2 b7 e10
      refine aw_iload_n (i := 2) rfl d_X11_book_39 2 rfl ?_
      refine aw_aload_n (i := 0) rfl d_X11_book_40 0 rfl ?_
      refine aw_geti (k0 := 0) kc_11 (ws_0 w) (Nat.le_of_ble_eq_true rfl) tw_487 d_X11_book_41 rfl ?_
      refine aw_Vi 0 [.ref b7, .int x2, .int (h_i h 0 0)] [.int x2, .int x3, .ref 21] d_X11_book_44 (cV_X11_wageOf (d + 5) 0 0) kc_11 (ws_0 w) tw_1581 rfl (rr0 (Nat.le_of_ble_eq_true rfl) (Nat.le_of_ble_eq_true rfl)) (Nat.le_of_ble_eq_true rfl) xs0 k (fun r19 h17 kk => ?_)
      obtain ⟨w18, k⟩ := kk
      refine aw_Vv 21 [.int x3, .int x2, .int r19] [] d_X11_book_47 (cV_X5_setWage (d + 1) 0 0) kc_5 (ws_21 w18) tw_1606 rfl (rr0 (Nat.le_of_ble_eq_true rfl) (Nat.le_of_ble_eq_true rfl)) (Nat.le_of_ble_eq_true rfl) xs0 k (fun h20 kk => ?_)
      obtain ⟨w21, k⟩ := kk
      refine aw_iinc (v := (x3 + 1)) [(0, .ref 0), (1, .int x1), (2, .int x2), (3, .int (x3 + 1))] d_X11_book_50 3 rfl rfl (Nat.le_of_ble_eq_true rfl) rfl rfl ?_
      refine aw_goto (tgt := 18) d_X11_book_53 rfl ?_
      exact k
theorem t_X11_tick (d : Nat) (h : Hp_) (w : Wf h) (x1 : Int32) (K : Int32 → Hp_ → Prop) (k : (¬ (0 ≤ x1 ∧ x1 ≤ 1500) → K (-1) h) ∧ ((0 ≤ x1 ∧ x1 ≤ 1500) → (((h_i h 0 0) + x1) ≤ 20000 → Cv (m_X11_makeHistory (d + 2) 0 0) [.ref 0, .int ((h_i h 0 0) + x1)] h (fun h5 => Wf h5 ∧ (AW (m_X11_tick (d + 7) 0 0) 0 0 37 [(0, .ref 0), (1, .int x1), (2, .int 0)] [] h5 (kI K)))) ∧ (¬ ((h_i h 0 0) + x1) ≤ 20000 → K (-1) h))) : Ci (m_X11_tick (d + 7) 0 0) [.ref 0, .int x1] h K := by
  refine Ct.of (fun _ _ _ => trivial) rfl (Nat.le_of_ble_eq_true rfl) ?_
  show AW (m_X11_tick (d + 7) 0 0) 0 0 0 [(0, .ref 0), (1, .int x1)] [] h (kI K)
  refine aw_iload_n (i := 1) rfl d_X11_tick_0 1 rfl ?_
  refine aw_iconst (v := 0) d_X11_tick_1 ic_0 ?_
  refine aw_sipush (v := 1500) d_X11_tick_2 is_1500 ?_
  refine aw_Si [.int x1, .int 0, .int 1500] [] d_X11_tick_5 (cS_X11_within (d + 0) 0 0) tw_543 rfl (rr0 (Nat.le_of_ble_eq_true rfl) (Nat.le_of_ble_eq_true rfl)) (Nat.le_of_ble_eq_true rfl) xs0 (s_X11_within _ _ x1 0 1500) (fun _ _ kk => ?_)
  obtain ⟨e1, e2⟩ := kk
  rw [e1, e2]
  refine aw_ifb_eq (tgt := 23) d_X11_tick_8 rfl (fun c3 => ?_) (fun c3 => ?_)
  · have k := k.1 c3
    refine aw_iconst (v := (-1)) d_X11_tick_23 ic_m1 ?_
    exact aw_iret rfl d_X11_tick_24 ⟨Nat.le_refl _, Nat.le_refl _⟩ ⟨_, rfl, k⟩
  · have k := k.2 c3
    refine aw_aload_n (i := 0) rfl d_X11_tick_11 0 rfl ?_
    refine aw_geti (k0 := 0) kc_11 (ws_0 w) (Nat.le_of_ble_eq_true rfl) tw_487 d_X11_tick_12 rfl ?_
    refine aw_iload_n (i := 1) rfl d_X11_tick_15 1 rfl ?_
    refine aw_iadd d_X11_tick_16 ?_
    refine aw_sipush (v := 20000) d_X11_tick_17 is_20000 ?_
    refine aw_icmp_le (tgt := 25) d_X11_tick_20 rfl (fun c4 => ?_) (fun c4 => ?_)
    · have k := k.1 c4
      refine aw_aload_n (i := 0) rfl d_X11_tick_25 0 rfl ?_
      refine aw_aload_n (i := 0) rfl d_X11_tick_26 0 rfl ?_
      refine aw_geti (k0 := 0) kc_11 (ws_0 w) (Nat.le_of_ble_eq_true rfl) tw_487 d_X11_tick_27 rfl ?_
      refine aw_iload_n (i := 1) rfl d_X11_tick_30 1 rfl ?_
      refine aw_iadd d_X11_tick_31 ?_
      refine aw_Vv 0 [.int ((h_i h 0 0) + x1)] [] d_X11_tick_32 (cV_X11_makeHistory (d + 2) 0 0) kc_11 (ws_0 w) tw_995 rfl (rr0 (Nat.le_of_ble_eq_true rfl) (Nat.le_of_ble_eq_true rfl)) (Nat.le_of_ble_eq_true rfl) xs0 k (fun h5 kk => ?_)
      obtain ⟨w6, k⟩ := kk
      refine aw_iconst (v := 0) d_X11_tick_35 ic_0 ?_
      refine aw_istore_n (i := 2) rfl [(0, .ref 0), (1, .int x1), (2, .int 0)] d_X11_tick_36 (Nat.le_of_ble_eq_true rfl) rfl rfl ?_
      exact k
    · have k := k.2 c4
      refine aw_iconst (v := (-1)) d_X11_tick_23 ic_m1 ?_
      exact aw_iret rfl d_X11_tick_24 ⟨Nat.le_refl _, Nat.le_refl _⟩ ⟨_, rfl, k⟩
theorem t_X11_tick_37 (d : Nat) (h : Hp_) (w : Wf h) (x1 : Int32) (x2 : Int32) (K : Int32 → Hp_ → Prop) (k : (x1 ≤ x2 → K (h_i h 0 0) h) ∧ (¬ x1 ≤ x2 → ∃ b9 n10 : Nat, h_r h 0 15 = some b9 ∧ h_sh h b9 = some (3, n10) ∧ 400 ≤ b9 ∧ (vp_in (h_i h 0 0) n10 ∧ (AW (m_X11_tick (d + 7) 0 0) 0 0 67 [(0, .ref 0), (1, .int x1), (2, .int x2), (3, .int 0)] [] (h_im (h_lm h b9 ((h_i h 0 0) : Int32).toNatClampNeg (h_l h 0 14)) 0 0 ((h_i h 0 0) + 1)) (kI K))))) : AW (m_X11_tick (d + 7) 0 0) 0 0 37 [(0, .ref 0), (1, .int x1), (2, .int x2)] [] h (kI K) := by
  refine aw_iload_n (i := 2) rfl d_X11_tick_37 2 rfl ?_
  refine aw_iload_n (i := 1) rfl d_X11_tick_38 1 rfl ?_
  refine aw_icmp_ge (tgt := 118) d_X11_tick_39 rfl (fun c8 => ?_) (fun c8 => ?_)
  · have k := k.1 c8
    refine aw_aload_n (i := 0) rfl d_X11_tick_118 0 rfl ?_
    refine aw_geti (k0 := 0) kc_11 (ws_0 w) (Nat.le_of_ble_eq_true rfl) tw_487 d_X11_tick_119 rfl ?_
    exact aw_iret rfl d_X11_tick_122 ⟨Nat.le_refl _, Nat.le_refl _⟩ ⟨_, rfl, k⟩
  · have k := k.2 c8
    refine aw_aload_n (i := 0) rfl d_X11_tick_42 0 rfl ?_
    obtain ⟨b9, n10, q11, q12, l13, k⟩ := k
    refine aw_getr (k0 := 15) kc_11 (ws_0 w) (Nat.le_of_ble_eq_true rfl) tw_502 d_X11_tick_43 rfl q11 ?_
    refine aw_aload_n (i := 0) rfl d_X11_tick_46 0 rfl ?_
    refine aw_geti (k0 := 0) kc_11 (ws_0 w) (Nat.le_of_ble_eq_true rfl) tw_487 d_X11_tick_47 rfl ?_
    refine aw_aload_n (i := 0) rfl d_X11_tick_50 0 rfl ?_
    refine aw_getl (k0 := 14) kc_11 (ws_0 w) (Nat.le_of_ble_eq_true rfl) tw_501 d_X11_tick_51 rfl ?_
    obtain ⟨b14, k⟩ := k
    refine aw_last (q12) b14 d_X11_tick_54 ?_
    refine aw_aload_n (i := 0) rfl d_X11_tick_55 0 rfl ?_
    refine aw_dup d_X11_tick_56 rfl ?_
    refine aw_geti (k0 := 0) kc_11 (ws_0 w) (Nat.le_of_ble_eq_true rfl) tw_487 d_X11_tick_57 rfl ?_
    refine aw_vi (v2 := (h_i h 0 0)) (rfl) ?_
    refine aw_iconst (v := 1) d_X11_tick_60 ic_1 ?_
    refine aw_iadd d_X11_tick_61 ?_
    refine aw_puti (k0 := 0) kc_11 (ws_0 w) (Nat.le_of_ble_eq_true rfl) tw_487 d_X11_tick_62 rfl rfl nf_i ?_
    refine aw_iconst (v := 0) d_X11_tick_65 ic_0 ?_
    refine aw_istore_n (i := 3) rfl [(0, .ref 0), (1, .int x1), (2, .int x2), (3, .int 0)] d_X11_tick_66 (Nat.le_of_ble_eq_true rfl) rfl rfl ?_
    exact k
theorem t_X11_tick_67 (d : Nat) (h : Hp_) (w : Wf h) (x1 : Int32) (x2 : Int32) (x3 : Int32) (K : Int32 → Hp_ → Prop) (k : ((h_i h 0 7) ≤ x3 → AW (m_X11_tick (d + 7) 0 0) 0 0 37 [(0, .ref 0), (1, .int x1), (2, .int (x2 + 1))] [] h (kI K)) ∧ (¬ (h_i h 0 7) ≤ x3 → vp_in x3 12 ∧ ((h_r h 15 x3.toNatClampNeg = none → AW (m_X11_tick (d + 7) 0 0) 0 0 67 [(0, .ref 0), (1, .int x1), (2, .int x2), (3, .int (x3 + 1))] [] h (kI K)) ∧ (∀ b17, h_r h 15 x3.toNatClampNeg = some b17 → h_sh h b17 = some (12, 17) ∧ 400 ≤ b17 ∧ ((¬ (h_i h b17 7) = (h_i h 0 0) → AW (m_X11_tick (d + 7) 0 0) 0 0 67 [(0, .ref 0), (1, .int x1), (2, .int x2), (3, .int (x3 + 1))] [] h (kI K)) ∧ ((h_i h b17 7) = (h_i h 0 0) → Cv (m_X11_goOn (d + 6) 0 0) [.ref 0, .ref b17] h (fun h22 => Wf h22 ∧ (AW (m_X11_tick (d + 7) 0 0) 0 0 67 [(0, .ref 0), (1, .int x1), (2, .int x2), (3, .int (x3 + 1))] [] h22 (kI K))))))))) : AW (m_X11_tick (d + 7) 0 0) 0 0 67 [(0, .ref 0), (1, .int x1), (2, .int x2), (3, .int x3)] [] h (kI K) := by
  refine aw_iload_n (i := 3) rfl d_X11_tick_67 3 rfl ?_
  refine aw_aload_n (i := 0) rfl d_X11_tick_68 0 rfl ?_
  refine aw_geti (k0 := 7) kc_11 (ws_0 w) (Nat.le_of_ble_eq_true rfl) tw_494 d_X11_tick_69 rfl ?_
  refine aw_icmp_ge (tgt := 112) d_X11_tick_72 rfl (fun c15 => ?_) (fun c15 => ?_)
  · have k := k.1 c15
    refine aw_iinc (v := (x2 + 1)) [(0, .ref 0), (1, .int x1), (2, .int (x2 + 1)), (3, .int x3)] d_X11_tick_112 2 rfl rfl (Nat.le_of_ble_eq_true rfl) rfl rfl ?_
    refine aw_goto (tgt := 37) d_X11_tick_115 rfl ?_
    exact aw_lvp [0, 1, 2] [(0, .ref 0), (1, .int x1), (2, .int (x2 + 1))] rfl k
  · have k := k.2 c15
    refine aw_aload_n (i := 0) rfl d_X11_tick_75 0 rfl ?_
    refine aw_getr (k0 := 6) kc_11 (ws_0 w) (Nat.le_of_ble_eq_true rfl) tw_493 d_X11_tick_76 rfl (wr_0_6 w) ?_
    refine aw_iload_n (i := 3) rfl d_X11_tick_79 3 rfl ?_
    obtain ⟨b16, k⟩ := k
    rcases e20 : h_r h 15 x3.toNatClampNeg with _ | b17
    · refine aw_aaldn (ws_15 w) b16 e20 d_X11_tick_80 ?_
      have k := k.1 e20
      refine aw_astoreN [(0, .ref 0), (1, .int x1), (2, .int x2), (3, .int x3), (4, .null)] d_X11_tick_81 (Nat.le_of_ble_eq_true rfl) rfl rfl ?_
      refine aw_aloadN d_X11_tick_83 4 rfl ?_
      refine aw_ifnullN (tgt := 106) d_X11_tick_85 rfl ?_
      refine aw_iinc (v := (x3 + 1)) [(0, .ref 0), (1, .int x1), (2, .int x2), (3, .int (x3 + 1)), (4, .null)] d_X11_tick_106 3 rfl rfl (Nat.le_of_ble_eq_true rfl) rfl rfl ?_
      refine aw_goto (tgt := 67) d_X11_tick_109 rfl ?_
      exact aw_lvp [0, 1, 2, 3] [(0, .ref 0), (1, .int x1), (2, .int x2), (3, .int (x3 + 1))] rfl k
    · refine aw_aaldr (ws_15 w) b16 e20 d_X11_tick_80 ?_
      obtain ⟨q18, l19, k⟩ := k.2 b17 e20
      refine aw_astore [(0, .ref 0), (1, .int x1), (2, .int x2), (3, .int x3), (4, .ref b17)] d_X11_tick_81 (Nat.le_of_ble_eq_true rfl) rfl rfl ?_
      refine aw_aload d_X11_tick_83 4 rfl ?_
      refine aw_ifnull d_X11_tick_85 ?_
      refine aw_aload d_X11_tick_88 4 rfl ?_
      refine aw_geti (k0 := 7) kc_2 (q18) (Nat.le_of_ble_eq_true rfl) tw_587 d_X11_tick_90 rfl ?_
      refine aw_aload_n (i := 0) rfl d_X11_tick_93 0 rfl ?_
      refine aw_geti (k0 := 0) kc_11 (ws_0 w) (Nat.le_of_ble_eq_true rfl) tw_487 d_X11_tick_94 rfl ?_
      refine aw_icmp_ne (tgt := 106) d_X11_tick_97 rfl (fun c21 => ?_) (fun c21 => ?_)
      · have k := k.1 c21
        refine aw_iinc (v := (x3 + 1)) [(0, .ref 0), (1, .int x1), (2, .int x2), (3, .int (x3 + 1)), (4, .ref b17)] d_X11_tick_106 3 rfl rfl (Nat.le_of_ble_eq_true rfl) rfl rfl ?_
        refine aw_goto (tgt := 67) d_X11_tick_109 rfl ?_
        exact aw_lvp [0, 1, 2, 3] [(0, .ref 0), (1, .int x1), (2, .int x2), (3, .int (x3 + 1))] rfl k
      · have k := k.2 c21
        refine aw_aload_n (i := 0) rfl d_X11_tick_100 0 rfl ?_
        refine aw_aload d_X11_tick_101 4 rfl ?_
        refine aw_Vv 0 [.ref b17] [] d_X11_tick_103 (cV_X11_goOn (d + 6) 0 0) kc_11 (ws_0 w) tw_1015 rfl (rr0 (Nat.le_of_ble_eq_true rfl) (Nat.le_of_ble_eq_true rfl)) (Nat.le_of_ble_eq_true rfl) xs0 k (fun h22 kk => ?_)
        obtain ⟨w23, k⟩ := kk
        refine aw_iinc (v := (x3 + 1)) [(0, .ref 0), (1, .int x1), (2, .int x2), (3, .int (x3 + 1)), (4, .ref b17)] d_X11_tick_106 3 rfl rfl (Nat.le_of_ble_eq_true rfl) rfl rfl ?_
        refine aw_goto (tgt := 67) d_X11_tick_109 rfl ?_
        exact aw_lvp [0, 1, 2, 3] [(0, .ref 0), (1, .int x1), (2, .int x2), (3, .int (x3 + 1))] rfl k
theorem t_X11_withdraw (d : Nat) (h : Hp_) (w : Wf h) (x1 : Int32) (K : Int32 → Hp_ → Prop) (k : (¬ (0 ≤ x1 ∧ x1 ≤ 15) → K (-1) h) ∧ ((0 ≤ x1 ∧ x1 ≤ 15) → Ci (m_X1_strike (d + 6) 0 0) [.ref 18, .int x1, .int (h_i h 0 0)] h (fun r6 h4 => Wf h4 ∧ (K r6 h4)))) : Ci (m_X11_withdraw (d + 7) 0 0) [.ref 0, .int x1] h K := by
  refine Ct.of (fun _ _ _ => trivial) rfl (Nat.le_of_ble_eq_true rfl) ?_
  show AW (m_X11_withdraw (d + 7) 0 0) 0 0 0 [(0, .ref 0), (1, .int x1)] [] h (kI K)
  refine aw_iload_n (i := 1) rfl d_X11_withdraw_0 1 rfl ?_
  refine aw_iconst (v := 0) d_X11_withdraw_1 ic_0 ?_
  refine aw_bipush (v := 15) d_X11_withdraw_2 ib_15 ?_
  refine aw_Si [.int x1, .int 0, .int 15] [] d_X11_withdraw_4 (cS_X11_within (d + 0) 0 0) tw_543 rfl (rr0 (Nat.le_of_ble_eq_true rfl) (Nat.le_of_ble_eq_true rfl)) (Nat.le_of_ble_eq_true rfl) xs0 (s_X11_within _ _ x1 0 15) (fun _ _ kk => ?_)
  obtain ⟨e1, e2⟩ := kk
  rw [e1, e2]
  refine aw_ifb_eq (tgt := 25) d_X11_withdraw_7 rfl (fun c3 => ?_) (fun c3 => ?_)
  · have k := k.1 c3
    refine aw_iconst (v := (-1)) d_X11_withdraw_25 ic_m1 ?_
    exact aw_iret rfl d_X11_withdraw_26 ⟨Nat.le_refl _, Nat.le_refl _⟩ ⟨_, rfl, k⟩
  · have k := k.2 c3
    refine aw_aload_n (i := 0) rfl d_X11_withdraw_10 0 rfl ?_
    refine aw_getr (k0 := 10) kc_11 (ws_0 w) (Nat.le_of_ble_eq_true rfl) tw_497 d_X11_withdraw_11 rfl (wr_0_10 w) ?_
    refine aw_iload_n (i := 1) rfl d_X11_withdraw_14 1 rfl ?_
    refine aw_aload_n (i := 0) rfl d_X11_withdraw_15 0 rfl ?_
    refine aw_geti (k0 := 0) kc_11 (ws_0 w) (Nat.le_of_ble_eq_true rfl) tw_487 d_X11_withdraw_16 rfl ?_
    refine aw_Vi 18 [.int x1, .int (h_i h 0 0)] [] d_X11_withdraw_19 (cV_X1_strike (d + 6) 0 0) kc_1 (ws_18 w) tw_1232 rfl (rr0 (Nat.le_of_ble_eq_true rfl) (Nat.le_of_ble_eq_true rfl)) (Nat.le_of_ble_eq_true rfl) xs0 k (fun r6 h4 kk => ?_)
    obtain ⟨w5, k⟩ := kk
    refine aw_goto (tgt := 26) d_X11_withdraw_22 rfl ?_
    exact aw_iret rfl d_X11_withdraw_26 ⟨Nat.le_refl _, Nat.le_refl _⟩ ⟨_, rfl, k⟩
theorem t_X11_safe (d : Nat) (h : Hp_) (w : Wf h) (x1 : Int32) (K : Int32 → Hp_ → Prop) (k : Ci (m_X11_canShare (d + 1) 0 0) [.ref 0, .int x1] h (fun r3 h1 => Wf h1 ∧ ((r3 = 0 → K (-1) h1) ∧ (¬ r3 = 0 → Ci (m_X6_safety (d + 6) 0 0) [.ref 20, .int x1, .ref 12, .ref 10] h1 (fun r7 h5 => Wf h5 ∧ (K r7 h5)))))) : Ci (m_X11_safe (d + 7) 0 0) [.ref 0, .int x1] h K := by
  refine Ct.of (fun _ _ _ => trivial) rfl (Nat.le_of_ble_eq_true rfl) ?_
  show AW (m_X11_safe (d + 7) 0 0) 0 0 0 [(0, .ref 0), (1, .int x1)] [] h (kI K)
  refine aw_aload_n (i := 0) rfl d_X11_safe_0 0 rfl ?_
  refine aw_iload_n (i := 1) rfl d_X11_safe_1 1 rfl ?_
  refine aw_Vi 0 [.int x1] [] d_X11_safe_2 (cV_X11_canShare (d + 1) 0 0) kc_11 (ws_0 w) tw_1442 rfl (rr0 (Nat.le_of_ble_eq_true rfl) (Nat.le_of_ble_eq_true rfl)) (Nat.le_of_ble_eq_true rfl) xs0 k (fun r3 h1 kk => ?_)
  obtain ⟨w2, k⟩ := kk
  refine aw_if_eq (tgt := 27) d_X11_safe_5 rfl (fun c4 => ?_) (fun c4 => ?_)
  · have k := k.1 c4
    refine aw_iconst (v := (-1)) d_X11_safe_27 ic_m1 ?_
    exact aw_iret rfl d_X11_safe_28 ⟨Nat.le_refl _, Nat.le_refl _⟩ ⟨_, rfl, k⟩
  · have k := k.2 c4
    refine aw_aload_n (i := 0) rfl d_X11_safe_8 0 rfl ?_
    refine aw_getr (k0 := 12) kc_11 (ws_0 w2) (Nat.le_of_ble_eq_true rfl) tw_499 d_X11_safe_9 rfl (wr_0_12 w2) ?_
    refine aw_iload_n (i := 1) rfl d_X11_safe_12 1 rfl ?_
    refine aw_aload_n (i := 0) rfl d_X11_safe_13 0 rfl ?_
    refine aw_getr (k0 := 3) kc_11 (ws_0 w2) (Nat.le_of_ble_eq_true rfl) tw_490 d_X11_safe_14 rfl (wr_0_3 w2) ?_
    refine aw_aload_n (i := 0) rfl d_X11_safe_17 0 rfl ?_
    refine aw_getr (k0 := 1) kc_11 (ws_0 w2) (Nat.le_of_ble_eq_true rfl) tw_488 d_X11_safe_18 rfl (wr_0_1 w2) ?_
    refine aw_Vi 20 [.int x1, .ref 12, .ref 10] [] d_X11_safe_21 (cV_X6_safety (d + 6) 0 0) kc_6 (ws_20 w2) tw_1447 rfl (rr0 (Nat.le_of_ble_eq_true rfl) (Nat.le_of_ble_eq_true rfl)) (Nat.le_of_ble_eq_true rfl) xs0 k (fun r7 h5 kk => ?_)
    obtain ⟨w6, k⟩ := kk
    refine aw_goto (tgt := 28) d_X11_safe_24 rfl ?_
    exact aw_iret rfl d_X11_safe_28 ⟨Nat.le_refl _, Nat.le_refl _⟩ ⟨_, rfl, k⟩
theorem t_X11_share (d : Nat) (h : Hp_) (w : Wf h) (x1 : Int32) (x2 : Int32) (K : Int32 → Hp_ → Prop) (k : Ci (m_X11_canShare (d + 1) 0 0) [.ref 0, .int x1] h (fun r3 h1 => Wf h1 ∧ ((r3 = 0 → K (-1) h1) ∧ (¬ r3 = 0 → Ci (m_X0_has (d + 0) 0 0) [.ref 12, .int x2] h1 (fun r7 h5 => Wf h5 ∧ ((r7 = 0 → K (-1) h5) ∧ (¬ r7 = 0 → (¬ ((x1 >>> (x2 &&& 31)) &&& 1) = 0 → Ci (m_X6_sharesOf (d + 6) 0 0) [.ref 20, .int x1, .int x2, .ref 12, .ref 10] h5 (fun r12 h10 => Wf h10 ∧ (K r12 h10))) ∧ (((x1 >>> (x2 &&& 31)) &&& 1) = 0 → K (-1) h5)))))))) : Ci (m_X11_share (d + 7) 0 0) [.ref 0, .int x1, .int x2] h K := by
  refine Ct.of (fun _ _ _ => trivial) rfl (Nat.le_of_ble_eq_true rfl) ?_
  show AW (m_X11_share (d + 7) 0 0) 0 0 0 [(0, .ref 0), (1, .int x1), (2, .int x2)] [] h (kI K)
  refine aw_aload_n (i := 0) rfl d_X11_share_0 0 rfl ?_
  refine aw_iload_n (i := 1) rfl d_X11_share_1 1 rfl ?_
  refine aw_Vi 0 [.int x1] [] d_X11_share_2 (cV_X11_canShare (d + 1) 0 0) kc_11 (ws_0 w) tw_1442 rfl (rr0 (Nat.le_of_ble_eq_true rfl) (Nat.le_of_ble_eq_true rfl)) (Nat.le_of_ble_eq_true rfl) xs0 k (fun r3 h1 kk => ?_)
  obtain ⟨w2, k⟩ := kk
  refine aw_if_eq (tgt := 27) d_X11_share_5 rfl (fun c4 => ?_) (fun c4 => ?_)
  · have k := k.1 c4
    refine aw_iconst (v := (-1)) d_X11_share_27 ic_m1 ?_
    exact aw_iret rfl d_X11_share_28 ⟨Nat.le_refl _, Nat.le_refl _⟩ ⟨_, rfl, k⟩
  · have k := k.2 c4
    refine aw_aload_n (i := 0) rfl d_X11_share_8 0 rfl ?_
    refine aw_getr (k0 := 3) kc_11 (ws_0 w2) (Nat.le_of_ble_eq_true rfl) tw_490 d_X11_share_9 rfl (wr_0_3 w2) ?_
    refine aw_iload_n (i := 2) rfl d_X11_share_12 2 rfl ?_
    refine aw_Vi 12 [.int x2] [] d_X11_share_13 (cV_X0_has (d + 0) 0 0) kc_0 (ws_12 w2) tw_887 rfl (rr0 (Nat.le_of_ble_eq_true rfl) (Nat.le_of_ble_eq_true rfl)) (Nat.le_of_ble_eq_true rfl) xs0 k (fun r7 h5 kk => ?_)
    obtain ⟨w6, k⟩ := kk
    refine aw_if_eq (tgt := 27) d_X11_share_16 rfl (fun c8 => ?_) (fun c8 => ?_)
    · have k := k.1 c8
      refine aw_iconst (v := (-1)) d_X11_share_27 ic_m1 ?_
      exact aw_iret rfl d_X11_share_28 ⟨Nat.le_refl _, Nat.le_refl _⟩ ⟨_, rfl, k⟩
    · have k := k.2 c8
      refine aw_iload_n (i := 1) rfl d_X11_share_19 1 rfl ?_
      refine aw_iload_n (i := 2) rfl d_X11_share_20 2 rfl ?_
      refine aw_ishr d_X11_share_21 ?_
      refine aw_iconst (v := 1) d_X11_share_22 ic_1 ?_
      refine aw_iand d_X11_share_23 ?_
      refine aw_if_ne (tgt := 29) d_X11_share_24 rfl (fun c9 => ?_) (fun c9 => ?_)
      · have k := k.1 c9
        refine aw_aload_n (i := 0) rfl d_X11_share_29 0 rfl ?_
        refine aw_getr (k0 := 12) kc_11 (ws_0 w6) (Nat.le_of_ble_eq_true rfl) tw_499 d_X11_share_30 rfl (wr_0_12 w6) ?_
        refine aw_iload_n (i := 1) rfl d_X11_share_33 1 rfl ?_
        refine aw_iload_n (i := 2) rfl d_X11_share_34 2 rfl ?_
        refine aw_aload_n (i := 0) rfl d_X11_share_35 0 rfl ?_
        refine aw_getr (k0 := 3) kc_11 (ws_0 w6) (Nat.le_of_ble_eq_true rfl) tw_490 d_X11_share_36 rfl (wr_0_3 w6) ?_
        refine aw_aload_n (i := 0) rfl d_X11_share_39 0 rfl ?_
        refine aw_getr (k0 := 1) kc_11 (ws_0 w6) (Nat.le_of_ble_eq_true rfl) tw_488 d_X11_share_40 rfl (wr_0_1 w6) ?_
        refine aw_Vi 20 [.int x1, .int x2, .ref 12, .ref 10] [] d_X11_share_43 (cV_X6_sharesOf (d + 6) 0 0) kc_6 (ws_20 w6) tw_1474 rfl (rr0 (Nat.le_of_ble_eq_true rfl) (Nat.le_of_ble_eq_true rfl)) (Nat.le_of_ble_eq_true rfl) xs0 k (fun r12 h10 kk => ?_)
        obtain ⟨w11, k⟩ := kk
        exact aw_iret rfl d_X11_share_46 ⟨Nat.le_refl _, Nat.le_refl _⟩ ⟨_, rfl, k⟩
      · have k := k.2 c9
        refine aw_iconst (v := (-1)) d_X11_share_27 ic_m1 ?_
        exact aw_iret rfl d_X11_share_28 ⟨Nat.le_refl _, Nat.le_refl _⟩ ⟨_, rfl, k⟩
