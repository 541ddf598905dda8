theorem t_X8_peek_0 (d : Nat) (h : Hp_) (w : Wf h)  (K : Int32 → Hp_ → Prop) (k : ((h_i h 11 1) ≤ (h_i h 11 2) → ((h_i h 11 1) ≤ (h_i h 11 2) → K (-1) h) ∧ (¬ (h_i h 11 1) ≤ (h_i h 11 2) → vp_in (h_i h 11 2) 160 ∧ (K (h_i h 31 ((h_i h 11 2) : Int32).toNatClampNeg) h))) ∧ (¬ (h_i h 11 1) ≤ (h_i h 11 2) → vp_in (h_i h 11 2) 160 ∧ ((¬ (h_i h 31 ((h_i h 11 2) : Int32).toNatClampNeg) = 32 → ((h_i h 11 1) ≤ (h_i h 11 2) → K (-1) h) ∧ (¬ (h_i h 11 1) ≤ (h_i h 11 2) → vp_in (h_i h 11 2) 160 ∧ (K (h_i h 31 ((h_i h 11 2) : Int32).toNatClampNeg) h))) ∧ ((h_i h 31 ((h_i h 11 2) : Int32).toNatClampNeg) = 32 → AW (m_X8_peek (d + 0) 0 0) 0 0 0 [(0, .ref 11)] [] (h_im h 11 2 ((h_i h 11 2) + 1)) (kI K))))) : AW (m_X8_peek (d + 0) 0 0) 0 0 0 [(0, .ref 11)] [] h (kI K) := by
  refine aw_aload_n (i := 0) rfl d_X8_peek_0 0 rfl ?_
  refine aw_geti (k0 := 2) kc_8 (ws_11 w) (Nat.le_of_ble_eq_true rfl) tw_62 d_X8_peek_1 rfl ?_
  refine aw_aload_n (i := 0) rfl d_X8_peek_4 0 rfl ?_
  refine aw_geti (k0 := 1) kc_8 (ws_11 w) (Nat.le_of_ble_eq_true rfl) tw_60 d_X8_peek_5 rfl ?_
  refine aw_icmp_ge (tgt := 38) d_X8_peek_8 rfl (fun c8 => ?_) (fun c8 => ?_)
  · have k := k.1 c8
    refine aw_aload_n (i := 0) rfl d_X8_peek_38 0 rfl ?_
    refine aw_geti (k0 := 2) kc_8 (ws_11 w) (Nat.le_of_ble_eq_true rfl) tw_62 d_X8_peek_39 rfl ?_
    refine aw_aload_n (i := 0) rfl d_X8_peek_42 0 rfl ?_
    refine aw_geti (k0 := 1) kc_8 (ws_11 w) (Nat.le_of_ble_eq_true rfl) tw_60 d_X8_peek_43 rfl ?_
    refine aw_icmp_ge (tgt := 61) d_X8_peek_46 rfl (fun c9 => ?_) (fun c9 => ?_)
    · have k := k.1 c9
      refine aw_iconst (v := (-1)) d_X8_peek_61 ic_m1 ?_
      exact aw_iret rfl d_X8_peek_62 ⟨Nat.le_refl _, Nat.le_refl _⟩ ⟨_, rfl, k⟩
    · have k := k.2 c9
      refine aw_aload_n (i := 0) rfl d_X8_peek_49 0 rfl ?_
      refine aw_getr (k0 := 0) kc_8 (ws_11 w) (Nat.le_of_ble_eq_true rfl) tw_59 d_X8_peek_50 rfl (wr_11_0 w) ?_
      refine aw_aload_n (i := 0) rfl d_X8_peek_53 0 rfl ?_
      refine aw_geti (k0 := 2) kc_8 (ws_11 w) (Nat.le_of_ble_eq_true rfl) tw_62 d_X8_peek_54 rfl ?_
      obtain ⟨b10, k⟩ := k
      refine aw_iald (ws_31 w) b10 d_X8_peek_57 ?_
      refine aw_goto (tgt := 62) d_X8_peek_58 rfl ?_
      exact aw_iret rfl d_X8_peek_62 ⟨Nat.le_refl _, Nat.le_refl _⟩ ⟨_, rfl, k⟩
  · have k := k.2 c8
    refine aw_aload_n (i := 0) rfl d_X8_peek_11 0 rfl ?_
    refine aw_getr (k0 := 0) kc_8 (ws_11 w) (Nat.le_of_ble_eq_true rfl) tw_59 d_X8_peek_12 rfl (wr_11_0 w) ?_
    refine aw_aload_n (i := 0) rfl d_X8_peek_15 0 rfl ?_
    refine aw_geti (k0 := 2) kc_8 (ws_11 w) (Nat.le_of_ble_eq_true rfl) tw_62 d_X8_peek_16 rfl ?_
    obtain ⟨b11, k⟩ := k
    refine aw_iald (ws_31 w) b11 d_X8_peek_19 ?_
    refine aw_bipush (v := 32) d_X8_peek_20 ib_32 ?_
    refine aw_icmp_ne (tgt := 38) d_X8_peek_22 rfl (fun c12 => ?_) (fun c12 => ?_)
    · have k := k.1 c12
      refine aw_aload_n (i := 0) rfl d_X8_peek_38 0 rfl ?_
      refine aw_geti (k0 := 2) kc_8 (ws_11 w) (Nat.le_of_ble_eq_true rfl) tw_62 d_X8_peek_39 rfl ?_
      refine aw_aload_n (i := 0) rfl d_X8_peek_42 0 rfl ?_
      refine aw_geti (k0 := 1) kc_8 (ws_11 w) (Nat.le_of_ble_eq_true rfl) tw_60 d_X8_peek_43 rfl ?_
      refine aw_icmp_ge (tgt := 61) d_X8_peek_46 rfl (fun c13 => ?_) (fun c13 => ?_)
      · have k := k.1 c13
        refine aw_iconst (v := (-1)) d_X8_peek_61 ic_m1 ?_
        exact aw_iret rfl d_X8_peek_62 ⟨Nat.le_refl _, Nat.le_refl _⟩ ⟨_, rfl, k⟩
      · have k := k.2 c13
        refine aw_aload_n (i := 0) rfl d_X8_peek_49 0 rfl ?_
        refine aw_getr (k0 := 0) kc_8 (ws_11 w) (Nat.le_of_ble_eq_true rfl) tw_59 d_X8_peek_50 rfl (wr_11_0 w) ?_
        refine aw_aload_n (i := 0) rfl d_X8_peek_53 0 rfl ?_
        refine aw_geti (k0 := 2) kc_8 (ws_11 w) (Nat.le_of_ble_eq_true rfl) tw_62 d_X8_peek_54 rfl ?_
        obtain ⟨b14, k⟩ := k
        refine aw_iald (ws_31 w) b14 d_X8_peek_57 ?_
        refine aw_goto (tgt := 62) d_X8_peek_58 rfl ?_
        exact aw_iret rfl d_X8_peek_62 ⟨Nat.le_refl _, Nat.le_refl _⟩ ⟨_, rfl, k⟩
    · have k := k.2 c12
      refine aw_aload_n (i := 0) rfl d_X8_peek_25 0 rfl ?_
      refine aw_dup d_X8_peek_26 rfl ?_
      refine aw_geti (k0 := 2) kc_8 (ws_11 w) (Nat.le_of_ble_eq_true rfl) tw_62 d_X8_peek_27 rfl ?_
      refine aw_iconst (v := 1) d_X8_peek_30 ic_1 ?_
      refine aw_iadd d_X8_peek_31 ?_
      refine aw_puti (k0 := 2) kc_8 (ws_11 w) (Nat.le_of_ble_eq_true rfl) tw_62 d_X8_peek_32 rfl rfl nf_i ?_
      refine aw_goto (tgt := 0) d_X8_peek_35 rfl ?_
      exact k
theorem t_X8_fail (d : Nat) (h : Hp_) (w : Wf h)  (K : Int32 → Hp_ → Prop) (k : K 0 (h_im h 11 3 (h_i h 11 2))) : Ci (m_X8_fail (d + 0) 0 0) [.ref 11] h K := by
  refine Ct.of (fun _ _ _ => trivial) pn_X8 (Nat.le_of_ble_eq_true rfl) ?_
  show AW (m_X8_fail (d + 0) 0 0) 0 0 0 [(0, .ref 11)] [] h (kI K)
  refine aw_aload_n (i := 0) rfl d_X8_fail_0 0 rfl ?_
  refine aw_aload_n (i := 0) rfl d_X8_fail_1 0 rfl ?_
  refine aw_geti (k0 := 2) kc_8 (ws_11 w) (Nat.le_of_ble_eq_true rfl) tw_62 d_X8_fail_2 rfl ?_
  refine aw_puti (k0 := 3) kc_8 (ws_11 w) (Nat.le_of_ble_eq_true rfl) tw_63 d_X8_fail_5 rfl rfl nf_i ?_
  refine aw_iconst (v := 0) d_X8_fail_8 ic_0 ?_
  exact aw_zret rfl rfl d_X8_fail_9 ⟨Nat.le_refl _, Nat.le_refl _⟩ ⟨_, rfl, k⟩
theorem t_X8_expect (d : Nat) (h : Hp_) (w : Wf h) (x1 : Int32) (K : Int32 → Hp_ → Prop) (k : Ci (m_X8_peek (d + 0) 0 0) [.ref 11] h (fun r3 h1 => Wf h1 ∧ ((r3 = x1 → K 1 (h_im h1 11 2 ((h_i h1 11 2) + 1))) ∧ (¬ r3 = x1 → Ci (m_X8_fail (d + 0) 0 0) [.ref 11] h1 (fun r7 h5 => Wf h5 ∧ ((r7 = 0 ∨ r7 = 1) ∧ (K r7 h5))))))) : Ci (m_X8_expect (d + 1) 0 0) [.ref 11, .int x1] h K := by
  refine Ct.of (fun _ _ _ => trivial) pn_X8 (Nat.le_of_ble_eq_true rfl) ?_
  show AW (m_X8_expect (d + 1) 0 0) 0 0 0 [(0, .ref 11), (1, .int x1)] [] h (kI K)
  refine aw_aload_n (i := 0) rfl d_X8_expect_0 0 rfl ?_
  refine aw_Vi 11 [] [] d_X8_expect_1 (cV_X8_peek (d + 0) 0 0) kc_8 (ws_11 w) tw_685 rfl (rr0 (Nat.le_of_ble_eq_true rfl) (Nat.le_of_ble_eq_true rfl)) (Nat.le_of_ble_eq_true rfl) xs0 k (fun r3 h1 kk => ?_)
  obtain ⟨w2, k⟩ := kk
  refine aw_iload_n (i := 1) rfl d_X8_expect_4 1 rfl ?_
  refine aw_icmp_eq (tgt := 13) d_X8_expect_5 rfl (fun c4 => ?_) (fun c4 => ?_)
  · have k := k.1 c4
    refine aw_aload_n (i := 0) rfl d_X8_expect_13 0 rfl ?_
    refine aw_dup d_X8_expect_14 rfl ?_
    refine aw_geti (k0 := 2) kc_8 (ws_11 w2) (Nat.le_of_ble_eq_true rfl) tw_62 d_X8_expect_15 rfl ?_
    refine aw_iconst (v := 1) d_X8_expect_18 ic_1 ?_
    refine aw_iadd d_X8_expect_19 ?_
    refine aw_puti (k0 := 2) kc_8 (ws_11 w2) (Nat.le_of_ble_eq_true rfl) tw_62 d_X8_expect_20 rfl rfl nf_i ?_
    refine aw_iconst (v := 1) d_X8_expect_23 ic_1 ?_
    exact aw_zret rfl rfl d_X8_expect_24 ⟨Nat.le_refl _, Nat.le_refl _⟩ ⟨_, rfl, k⟩
  · have k := k.2 c4
    refine aw_aload_n (i := 0) rfl d_X8_expect_8 0 rfl ?_
    refine aw_Vi 11 [] [] d_X8_expect_9 (cV_X8_fail (d + 0) 0 0) kc_8 (ws_11 w2) tw_715 rfl (rr0 (Nat.le_of_ble_eq_true rfl) (Nat.le_of_ble_eq_true rfl)) (Nat.le_of_ble_eq_true rfl) xs0 k (fun r7 h5 kk => ?_)
    obtain ⟨w6, k⟩ := kk
    obtain ⟨z8, k⟩ := k
    exact aw_zret rfl (nf_z z8).1 d_X8_expect_12 ⟨Nat.le_refl _, Nat.le_refl _⟩ ⟨_, rfl, k⟩
theorem t_X8_isDigit (d : Nat) (h : Hp_) (x0 : Int32) (K : Int32 → Hp_ → Prop) (k : (x0 < 48 → K 0 h) ∧ (¬ x0 < 48 → (57 < x0 → K 0 h) ∧ (¬ 57 < x0 → K 1 h))) : Ci (m_X8_isDigit (d + 0) 0 0) [.int x0] h K := by
  refine Ct.of (fun _ _ _ => trivial) pn_X8 (Nat.le_of_ble_eq_true rfl) ?_
  show AW (m_X8_isDigit (d + 0) 0 0) 0 0 0 [(0, .int x0)] [] h (kI K)
  refine aw_iload_n (i := 0) rfl d_X8_isDigit_0 0 rfl ?_
  refine aw_bipush (v := 48) d_X8_isDigit_1 ib_48 ?_
  refine aw_icmp_lt (tgt := 16) d_X8_isDigit_3 rfl (fun c1 => ?_) (fun c1 => ?_)
  · have k := k.1 c1
    refine aw_iconst (v := 0) d_X8_isDigit_16 ic_0 ?_
    exact aw_zret rfl rfl d_X8_isDigit_17 ⟨Nat.le_refl _, Nat.le_refl _⟩ ⟨_, rfl, k⟩
  · have k := k.2 c1
    refine aw_iload_n (i := 0) rfl d_X8_isDigit_6 0 rfl ?_
    refine aw_bipush (v := 57) d_X8_isDigit_7 ib_57 ?_
    refine aw_icmp_gt (tgt := 16) d_X8_isDigit_9 rfl (fun c2 => ?_) (fun c2 => ?_)
    · have k := k.1 c2
      refine aw_iconst (v := 0) d_X8_isDigit_16 ic_0 ?_
      exact aw_zret rfl rfl d_X8_isDigit_17 ⟨Nat.le_refl _, Nat.le_refl _⟩ ⟨_, rfl, k⟩
    · have k := k.2 c2
      refine aw_iconst (v := 1) d_X8_isDigit_12 ic_1 ?_
      refine aw_goto (tgt := 17) d_X8_isDigit_13 rfl ?_
      exact aw_zret rfl rfl d_X8_isDigit_17 ⟨Nat.le_refl _, Nat.le_refl _⟩ ⟨_, rfl, k⟩
theorem t_X8_isComparison (d : Nat) (h : Hp_) (x0 : Int32) (K : Int32 → Hp_ → Prop) (k : (x0 = 61 → K 1 h) ∧ (¬ x0 = 61 → (x0 = 60 → K 1 h) ∧ (¬ x0 = 60 → (¬ x0 = 62 → K 0 h) ∧ (x0 = 62 → K 1 h)))) : Ci (m_X8_isComparison (d + 0) 0 0) [.int x0] h K := by
  refine Ct.of (fun _ _ _ => trivial) pn_X8 (Nat.le_of_ble_eq_true rfl) ?_
  show AW (m_X8_isComparison (d + 0) 0 0) 0 0 0 [(0, .int x0)] [] h (kI K)
  refine aw_iload_n (i := 0) rfl d_X8_isComparison_0 0 rfl ?_
  refine aw_bipush (v := 61) d_X8_isComparison_1 ib_61 ?_
  refine aw_icmp_eq (tgt := 18) d_X8_isComparison_3 rfl (fun c1 => ?_) (fun c1 => ?_)
  · have k := k.1 c1
    refine aw_iconst (v := 1) d_X8_isComparison_18 ic_1 ?_
    refine aw_goto (tgt := 23) d_X8_isComparison_19 rfl ?_
    exact aw_zret rfl rfl d_X8_isComparison_23 ⟨Nat.le_refl _, Nat.le_refl _⟩ ⟨_, rfl, k⟩
  · have k := k.2 c1
    refine aw_iload_n (i := 0) rfl d_X8_isComparison_6 0 rfl ?_
    refine aw_bipush (v := 60) d_X8_isComparison_7 ib_60 ?_
    refine aw_icmp_eq (tgt := 18) d_X8_isComparison_9 rfl (fun c2 => ?_) (fun c2 => ?_)
    · have k := k.1 c2
      refine aw_iconst (v := 1) d_X8_isComparison_18 ic_1 ?_
      refine aw_goto (tgt := 23) d_X8_isComparison_19 rfl ?_
      exact aw_zret rfl rfl d_X8_isComparison_23 ⟨Nat.le_refl _, Nat.le_refl _⟩ ⟨_, rfl, k⟩
    · have k := k.2 c2
      refine aw_iload_n (i := 0) rfl d_X8_isComparison_12 0 rfl ?_
      refine aw_bipush (v := 62) d_X8_isComparison_13 ib_62 ?_
      refine aw_icmp_ne (tgt := 22) d_X8_isComparison_15 rfl (fun c3 => ?_) (fun c3 => ?_)
      · have k := k.1 c3
        refine aw_iconst (v := 0) d_X8_isComparison_22 ic_0 ?_
        exact aw_zret rfl rfl d_X8_isComparison_23 ⟨Nat.le_refl _, Nat.le_refl _⟩ ⟨_, rfl, k⟩
      · have k := k.2 c3
        refine aw_iconst (v := 1) d_X8_isComparison_18 ic_1 ?_
        refine aw_goto (tgt := 23) d_X8_isComparison_19 rfl ?_
        exact aw_zret rfl rfl d_X8_isComparison_23 ⟨Nat.le_refl _, Nat.le_refl _⟩ ⟨_, rfl, k⟩
theorem t_X8_readNumber (d : Nat) (h : Hp_) (w : Wf h) (x1 : Int32) (x2 : Int32) (K : Int32 → Hp_ → Prop) (k : Ci (m_X8_peek (d + 0) 0 0) [.ref 11] h (fun r3 h1 => Wf h1 ∧ (Ci (m_X8_isDigit (d + 0) 0 0) [.int r3] h1 (fun r6 h4 => Wf h4 ∧ (AW (m_X8_readNumber (d + 1) 0 0) 0 0 14 [(0, .ref 11), (1, .int x1), (2, .int x2), (3, .int 0), (4, .int 0), (5, .int r6)] [] h4 (kI K)))))) : Ci (m_X8_readNumber (d + 1) 0 0) [.ref 11, .int x1, .int x2] h K := by
  refine Ct.of (fun _ _ _ => trivial) pn_X8 (Nat.le_of_ble_eq_true rfl) ?_
  show AW (m_X8_readNumber (d + 1) 0 0) 0 0 0 [(0, .ref 11), (1, .int x1), (2, .int x2)] [] h (kI K)
  refine aw_iconst (v := 0) d_X8_readNumber_0 ic_0 ?_
  refine aw_istore_n (i := 3) rfl [(0, .ref 11), (1, .int x1), (2, .int x2), (3, .int 0)] d_X8_readNumber_1 (Nat.le_of_ble_eq_true rfl) rfl rfl ?_
  refine aw_iconst (v := 0) d_X8_readNumber_2 ic_0 ?_
  refine aw_istore [(0, .ref 11), (1, .int x1), (2, .int x2), (3, .int 0), (4, .int 0)] d_X8_readNumber_3 (Nat.le_of_ble_eq_true rfl) rfl rfl ?_
  refine aw_aload_n (i := 0) rfl d_X8_readNumber_5 0 rfl ?_
  refine aw_Vi 11 [] [] d_X8_readNumber_6 (cV_X8_peek (d + 0) 0 0) kc_8 (ws_11 w) tw_685 rfl (rr0 (Nat.le_of_ble_eq_true rfl) (Nat.le_of_ble_eq_true rfl)) (Nat.le_of_ble_eq_true rfl) xs0 k (fun r3 h1 kk => ?_)
  obtain ⟨w2, k⟩ := kk
  refine aw_Si [.int r3] [] d_X8_readNumber_9 (cS_X8_isDigit (d + 0) 0 0) tw_693 rfl (rr0 (Nat.le_of_ble_eq_true rfl) (Nat.le_of_ble_eq_true rfl)) (Nat.le_of_ble_eq_true rfl) xs0 k (fun r6 h4 kk => ?_)
  obtain ⟨w5, k⟩ := kk
  refine aw_istore [(0, .ref 11), (1, .int x1), (2, .int x2), (3, .int 0), (4, .int 0), (5, .int r6)] d_X8_readNumber_12 (Nat.le_of_ble_eq_true rfl) rfl rfl ?_
  exact k
theorem t_X8_readNumber_14 (d : Nat) (h : Hp_) (w : Wf h) (x1 : Int32) (x2 : Int32) (x3 : Int32) (x4 : Int32) (x5 : Int32) (K : Int32 → Hp_ → Prop) (k : (x5 = 0 → (¬ x5 = 0 → ((x1 ≤ x3 ∧ x3 ≤ x2) → K x3 h) ∧ (¬ (x1 ≤ x3 ∧ x3 ≤ x2) → K (-1) (h_im h 11 3 ((h_i h 11 2) - 1)))) ∧ (x5 = 0 → K (-1) (h_im h 11 3 (h_i h 11 2)))) ∧ (¬ x5 = 0 → ((h_i h 11 1) ≤ (h_i h 11 2) → (¬ x5 = 0 → ((x1 ≤ x3 ∧ x3 ≤ x2) → K x3 h) ∧ (¬ (x1 ≤ x3 ∧ x3 ≤ x2) → K (-1) (h_im h 11 3 ((h_i h 11 2) - 1)))) ∧ (x5 = 0 → K (-1) (h_im h 11 3 (h_i h 11 2)))) ∧ (¬ (h_i h 11 1) ≤ (h_i h 11 2) → vp_in (h_i h 11 2) 160 ∧ (Ci (m_X8_isDigit (d + 0) 0 0) [.int (h_i h 31 ((h_i h 11 2) : Int32).toNatClampNeg)] h (fun r20 h18 => Wf h18 ∧ ((r20 = 0 → (¬ x5 = 0 → ((x1 ≤ x3 ∧ x3 ≤ x2) → K x3 h18) ∧ (¬ (x1 ≤ x3 ∧ x3 ≤ x2) → K (-1) (h_im h18 11 3 ((h_i h18 11 2) - 1)))) ∧ (x5 = 0 → K (-1) (h_im h18 11 3 (h_i h18 11 2)))) ∧ (¬ r20 = 0 → (¬ x4 = 4 → vp_in (h_i h18 11 2) 160 ∧ (AW (m_X8_readNumber (d + 1) 0 0) 0 0 14 [(0, .ref 11), (1, .int x1), (2, .int x2), (3, .int (((x3 * 10) + (h_i h18 31 ((h_i h18 11 2) : Int32).toNatClampNeg)) - 48)), (4, .int (x4 + 1)), (5, .int x5)] [] (h_im h18 11 2 ((h_i h18 11 2) + 1)) (kI K))) ∧ (x4 = 4 → K (-1) (h_im h18 11 3 (h_i h18 11 2)))))))))) : AW (m_X8_readNumber (d + 1) 0 0) 0 0 14 [(0, .ref 11), (1, .int x1), (2, .int x2), (3, .int x3), (4, .int x4), (5, .int x5)] [] h (kI K) := by
  refine aw_iload d_X8_readNumber_14 5 rfl ?_
  refine aw_if_eq (tgt := 95) d_X8_readNumber_16 rfl (fun c7 => ?_) (fun c7 => ?_)
  · have k := k.1 c7
    refine aw_iload d_X8_readNumber_95 5 rfl ?_
    refine aw_if_ne (tgt := 110) d_X8_readNumber_97 rfl (fun c8 => ?_) (fun c8 => ?_)
    · have k := k.1 c8
      refine aw_iload_n (i := 3) rfl d_X8_readNumber_110 3 rfl ?_
      refine aw_iload_n (i := 1) rfl d_X8_readNumber_111 1 rfl ?_
      refine aw_iload_n (i := 2) rfl d_X8_readNumber_112 2 rfl ?_
      refine aw_SNi [.int x3, .int x1, .int x2] [] d_X8_readNumber_113 (cS_X11_within (d + 0) 0 0) (List.mem_of_getElem? (i := 8) rfl) rfl (rr0 (Nat.le_of_ble_eq_true rfl) (Nat.le_of_ble_eq_true rfl)) (Nat.le_of_ble_eq_true rfl) xs0 (s_X11_within _ _ x3 x1 x2) (fun _ _ kk => ?_)
      obtain ⟨e9, e10⟩ := kk
      rw [e9, e10]
      refine aw_ifb_ne (tgt := 131) d_X8_readNumber_116 rfl (fun c11 => ?_) (fun c11 => ?_)
      · have k := k.1 c11
        refine aw_iload_n (i := 3) rfl d_X8_readNumber_131 3 rfl ?_
        exact aw_iret rfl d_X8_readNumber_132 ⟨Nat.le_refl _, Nat.le_refl _⟩ ⟨_, rfl, k⟩
      · have k := k.2 c11
        refine aw_aload_n (i := 0) rfl d_X8_readNumber_119 0 rfl ?_
        refine aw_aload_n (i := 0) rfl d_X8_readNumber_120 0 rfl ?_
        refine aw_geti (k0 := 2) kc_8 (ws_11 w) (Nat.le_of_ble_eq_true rfl) tw_62 d_X8_readNumber_121 rfl ?_
        refine aw_iconst (v := 1) d_X8_readNumber_124 ic_1 ?_
        refine aw_isub d_X8_readNumber_125 ?_
        refine aw_puti (k0 := 3) kc_8 (ws_11 w) (Nat.le_of_ble_eq_true rfl) tw_63 d_X8_readNumber_126 rfl rfl nf_i ?_
        refine aw_iconst (v := (-1)) d_X8_readNumber_129 ic_m1 ?_
        exact aw_iret rfl d_X8_readNumber_130 ⟨Nat.le_refl _, Nat.le_refl _⟩ ⟨_, rfl, k⟩
    · have k := k.2 c8
      refine aw_aload_n (i := 0) rfl d_X8_readNumber_100 0 rfl ?_
      refine aw_aload_n (i := 0) rfl d_X8_readNumber_101 0 rfl ?_
      refine aw_geti (k0 := 2) kc_8 (ws_11 w) (Nat.le_of_ble_eq_true rfl) tw_62 d_X8_readNumber_102 rfl ?_
      refine aw_puti (k0 := 3) kc_8 (ws_11 w) (Nat.le_of_ble_eq_true rfl) tw_63 d_X8_readNumber_105 rfl rfl nf_i ?_
      refine aw_iconst (v := (-1)) d_X8_readNumber_108 ic_m1 ?_
      exact aw_iret rfl d_X8_readNumber_109 ⟨Nat.le_refl _, Nat.le_refl _⟩ ⟨_, rfl, k⟩
  · have k := k.2 c7
    refine aw_aload_n (i := 0) rfl d_X8_readNumber_19 0 rfl ?_
    refine aw_geti (k0 := 2) kc_8 (ws_11 w) (Nat.le_of_ble_eq_true rfl) tw_62 d_X8_readNumber_20 rfl ?_
    refine aw_aload_n (i := 0) rfl d_X8_readNumber_23 0 rfl ?_
    refine aw_geti (k0 := 1) kc_8 (ws_11 w) (Nat.le_of_ble_eq_true rfl) tw_60 d_X8_readNumber_24 rfl ?_
    refine aw_icmp_ge (tgt := 95) d_X8_readNumber_27 rfl (fun c12 => ?_) (fun c12 => ?_)
    · have k := k.1 c12
      refine aw_iload d_X8_readNumber_95 5 rfl ?_
      refine aw_if_ne (tgt := 110) d_X8_readNumber_97 rfl (fun c13 => ?_) (fun c13 => ?_)
      · have k := k.1 c13
        refine aw_iload_n (i := 3) rfl d_X8_readNumber_110 3 rfl ?_
        refine aw_iload_n (i := 1) rfl d_X8_readNumber_111 1 rfl ?_
        refine aw_iload_n (i := 2) rfl d_X8_readNumber_112 2 rfl ?_
        refine aw_SNi [.int x3, .int x1, .int x2] [] d_X8_readNumber_113 (cS_X11_within (d + 0) 0 0) (List.mem_of_getElem? (i := 8) rfl) rfl (rr0 (Nat.le_of_ble_eq_true rfl) (Nat.le_of_ble_eq_true rfl)) (Nat.le_of_ble_eq_true rfl) xs0 (s_X11_within _ _ x3 x1 x2) (fun _ _ kk => ?_)
        obtain ⟨e14, e15⟩ := kk
        rw [e14, e15]
        refine aw_ifb_ne (tgt := 131) d_X8_readNumber_116 rfl (fun c16 => ?_) (fun c16 => ?_)
        · have k := k.1 c16
          refine aw_iload_n (i := 3) rfl d_X8_readNumber_131 3 rfl ?_
          exact aw_iret rfl d_X8_readNumber_132 ⟨Nat.le_refl _, Nat.le_refl _⟩ ⟨_, rfl, k⟩
        · have k := k.2 c16
          refine aw_aload_n (i := 0) rfl d_X8_readNumber_119 0 rfl ?_
          refine aw_aload_n (i := 0) rfl d_X8_readNumber_120 0 rfl ?_
          refine aw_geti (k0 := 2) kc_8 (ws_11 w) (Nat.le_of_ble_eq_true rfl) tw_62 d_X8_readNumber_121 rfl ?_
          refine aw_iconst (v := 1) d_X8_readNumber_124 ic_1 ?_
          refine aw_isub d_X8_readNumber_125 ?_
          refine aw_puti (k0 := 3) kc_8 (ws_11 w) (Nat.le_of_ble_eq_true rfl) tw_63 d_X8_readNumber_126 rfl rfl nf_i ?_
          refine aw_iconst (v := (-1)) d_X8_readNumber_129 ic_m1 ?_
          exact aw_iret rfl d_X8_readNumber_130 ⟨Nat.le_refl _, Nat.le_refl _⟩ ⟨_, rfl, k⟩
      · have k := k.2 c13
        refine aw_aload_n (i := 0) rfl d_X8_readNumber_100 0 rfl ?_
        refine aw_aload_n (i := 0) rfl d_X8_readNumber_101 0 rfl ?_
        refine aw_geti (k0 := 2) kc_8 (ws_11 w) (Nat.le_of_ble_eq_true rfl) tw_62 d_X8_readNumber_102 rfl ?_
        refine aw_puti (k0 := 3) kc_8 (ws_11 w) (Nat.le_of_ble_eq_true rfl) tw_63 d_X8_readNumber_105 rfl rfl nf_i ?_
        refine aw_iconst (v := (-1)) d_X8_readNumber_108 ic_m1 ?_
        exact aw_iret rfl d_X8_readNumber_109 ⟨Nat.le_refl _, Nat.le_refl _⟩ ⟨_, rfl, k⟩
    · have k := k.2 c12
      refine aw_aload_n (i := 0) rfl d_X8_readNumber_30 0 rfl ?_
      refine aw_getr (k0 := 0) kc_8 (ws_11 w) (Nat.le_of_ble_eq_true rfl) tw_59 d_X8_readNumber_31 rfl (wr_11_0 w) ?_
      refine aw_aload_n (i := 0) rfl d_X8_readNumber_34 0 rfl ?_
      refine aw_geti (k0 := 2) kc_8 (ws_11 w) (Nat.le_of_ble_eq_true rfl) tw_62 d_X8_readNumber_35 rfl ?_
      obtain ⟨b17, k⟩ := k
      refine aw_iald (ws_31 w) b17 d_X8_readNumber_38 ?_
      refine aw_Si [.int (h_i h 31 ((h_i h 11 2) : Int32).toNatClampNeg)] [] d_X8_readNumber_39 (cS_X8_isDigit (d + 0) 0 0) tw_693 rfl (rr0 (Nat.le_of_ble_eq_true rfl) (Nat.le_of_ble_eq_true rfl)) (Nat.le_of_ble_eq_true rfl) xs0 k (fun r20 h18 kk => ?_)
      obtain ⟨w19, k⟩ := kk
      refine aw_if_eq (tgt := 95) d_X8_readNumber_42 rfl (fun c21 => ?_) (fun c21 => ?_)
      · have k := k.1 c21
        refine aw_iload d_X8_readNumber_95 5 rfl ?_
        refine aw_if_ne (tgt := 110) d_X8_readNumber_97 rfl (fun c22 => ?_) (fun c22 => ?_)
        · have k := k.1 c22
          refine aw_iload_n (i := 3) rfl d_X8_readNumber_110 3 rfl ?_
          refine aw_iload_n (i := 1) rfl d_X8_readNumber_111 1 rfl ?_
          refine aw_iload_n (i := 2) rfl d_X8_readNumber_112 2 rfl ?_
          refine aw_SNi [.int x3, .int x1, .int x2] [] d_X8_readNumber_113 (cS_X11_within (d + 0) 0 0) (List.mem_of_getElem? (i := 8) rfl) rfl (rr0 (Nat.le_of_ble_eq_true rfl) (Nat.le_of_ble_eq_true rfl)) (Nat.le_of_ble_eq_true rfl) xs0 (s_X11_within _ _ x3 x1 x2) (fun _ _ kk => ?_)
          obtain ⟨e23, e24⟩ := kk
          rw [e23, e24]
          refine aw_ifb_ne (tgt := 131) d_X8_readNumber_116 rfl (fun c25 => ?_) (fun c25 => ?_)
          · have k := k.1 c25
            refine aw_iload_n (i := 3) rfl d_X8_readNumber_131 3 rfl ?_
            exact aw_iret rfl d_X8_readNumber_132 ⟨Nat.le_refl _, Nat.le_refl _⟩ ⟨_, rfl, k⟩
          · have k := k.2 c25
            refine aw_aload_n (i := 0) rfl d_X8_readNumber_119 0 rfl ?_
            refine aw_aload_n (i := 0) rfl d_X8_readNumber_120 0 rfl ?_
            refine aw_geti (k0 := 2) kc_8 (ws_11 w19) (Nat.le_of_ble_eq_true rfl) tw_62 d_X8_readNumber_121 rfl ?_
            refine aw_iconst (v := 1) d_X8_readNumber_124 ic_1 ?_
            refine aw_isub d_X8_readNumber_125 ?_
            refine aw_puti (k0 := 3) kc_8 (ws_11 w19) (Nat.le_of_ble_eq_true rfl) tw_63 d_X8_readNumber_126 rfl rfl nf_i ?_
            refine aw_iconst (v := (-1)) d_X8_readNumber_129 ic_m1 ?_
            exact aw_iret rfl d_X8_readNumber_130 ⟨Nat.le_refl _, Nat.le_refl _⟩ ⟨_, rfl, k⟩
        · have k := k.2 c22
          refine aw_aload_n (i := 0) rfl d_X8_readNumber_100 0 rfl ?_
          refine aw_aload_n (i := 0) rfl d_X8_readNumber_101 0 rfl ?_
          refine aw_geti (k0 := 2) kc_8 (ws_11 w19) (Nat.le_of_ble_eq_true rfl) tw_62 d_X8_readNumber_102 rfl ?_
          refine aw_puti (k0 := 3) kc_8 (ws_11 w19) (Nat.le_of_ble_eq_true rfl) tw_63 d_X8_readNumber_105 rfl rfl nf_i ?_
          refine aw_iconst (v := (-1)) d_X8_readNumber_108 ic_m1 ?_
          exact aw_iret rfl d_X8_readNumber_109 ⟨Nat.le_refl _, Nat.le_refl _⟩ ⟨_, rfl, k⟩
      · have k := k.2 c21
        refine aw_iload d_X8_readNumber_45 4 rfl ?_
        refine aw_iconst (v := 4) d_X8_readNumber_47 ic_4 ?_
        refine aw_icmp_ne (tgt := 61) d_X8_readNumber_48 rfl (fun c26 => ?_) (fun c26 => ?_)
        · have k := k.1 c26
          refine aw_iload_n (i := 3) rfl d_X8_readNumber_61 3 rfl ?_
          refine aw_bipush (v := 10) d_X8_readNumber_62 ib_10 ?_
          refine aw_imul d_X8_readNumber_64 ?_
          refine aw_aload_n (i := 0) rfl d_X8_readNumber_65 0 rfl ?_
          refine aw_getr (k0 := 0) kc_8 (ws_11 w19) (Nat.le_of_ble_eq_true rfl) tw_59 d_X8_readNumber_66 rfl (wr_11_0 w19) ?_
          refine aw_aload_n (i := 0) rfl d_X8_readNumber_69 0 rfl ?_
          refine aw_geti (k0 := 2) kc_8 (ws_11 w19) (Nat.le_of_ble_eq_true rfl) tw_62 d_X8_readNumber_70 rfl ?_
          obtain ⟨b27, k⟩ := k
          refine aw_iald (ws_31 w19) b27 d_X8_readNumber_73 ?_
          refine aw_iadd d_X8_readNumber_74 ?_
          refine aw_bipush (v := 48) d_X8_readNumber_75 ib_48 ?_
          refine aw_isub d_X8_readNumber_77 ?_
          refine aw_istore_n (i := 3) rfl [(0, .ref 11), (1, .int x1), (2, .int x2), (3, .int (((x3 * 10) + (h_i h18 31 ((h_i h18 11 2) : Int32).toNatClampNeg)) - 48)), (4, .int x4), (5, .int x5)] d_X8_readNumber_78 (Nat.le_of_ble_eq_true rfl) rfl rfl ?_
          refine aw_iinc (v := (x4 + 1)) [(0, .ref 11), (1, .int x1), (2, .int x2), (3, .int (((x3 * 10) + (h_i h18 31 ((h_i h18 11 2) : Int32).toNatClampNeg)) - 48)), (4, .int (x4 + 1)), (5, .int x5)] d_X8_readNumber_79 4 rfl rfl (Nat.le_of_ble_eq_true rfl) rfl rfl ?_
          refine aw_aload_n (i := 0) rfl d_X8_readNumber_82 0 rfl ?_
          refine aw_dup d_X8_readNumber_83 rfl ?_
          refine aw_geti (k0 := 2) kc_8 (ws_11 w19) (Nat.le_of_ble_eq_true rfl) tw_62 d_X8_readNumber_84 rfl ?_
          refine aw_iconst (v := 1) d_X8_readNumber_87 ic_1 ?_
          refine aw_iadd d_X8_readNumber_88 ?_
          refine aw_puti (k0 := 2) kc_8 (ws_11 w19) (Nat.le_of_ble_eq_true rfl) tw_62 d_X8_readNumber_89 rfl rfl nf_i ?_
          refine aw_goto (tgt := 14) d_X8_readNumber_92 rfl ?_
          exact k
        · have k := k.2 c26
          refine aw_aload_n (i := 0) rfl d_X8_readNumber_51 0 rfl ?_
          refine aw_aload_n (i := 0) rfl d_X8_readNumber_52 0 rfl ?_
          refine aw_geti (k0 := 2) kc_8 (ws_11 w19) (Nat.le_of_ble_eq_true rfl) tw_62 d_X8_readNumber_53 rfl ?_
          refine aw_puti (k0 := 3) kc_8 (ws_11 w19) (Nat.le_of_ble_eq_true rfl) tw_63 d_X8_readNumber_56 rfl rfl nf_i ?_
          refine aw_iconst (v := (-1)) d_X8_readNumber_59 ic_m1 ?_
          exact aw_iret rfl d_X8_readNumber_60 ⟨Nat.le_refl _, Nat.le_refl _⟩ ⟨_, rfl, k⟩
theorem t_X8_readAtom (d : Nat) (h : Hp_) (w : Wf h) (x1 : Int32) (K : Int32 → Hp_ → Prop) (k : Ci (m_X8_peek (d + 0) 0 0) [.ref 11] h (fun r3 h1 => Wf h1 ∧ (Ci (m_X8_isDigit (d + 0) 0 0) [.int r3] h1 (fun r6 h4 => Wf h4 ∧ ((r6 = 0 → (¬ r3 = 91 → (¬ r3 = (-1) → ∃ i10 : Nat, i10 < 4 ∧ h_r h4 11 4 = some (1000 + i10) ∧ (Ci (m_J0_indexOf_0f7a4 (d + 3) 0 0) [.ref (1000 + i10), .int (((r3 : Int32).toUInt32 % 65536).toInt32)] h4 (fun r15 h13 => Wf h13 ∧ ((0 ≤ r15 → Ci (m_X8_emit (d + 1) 0 0) [.ref 11, .int 1, .int r15] (h_im h13 11 2 ((h_i h13 11 2) + 1)) (fun r19 h17 => Wf h17 ∧ (K 1 h17))) ∧ (¬ 0 ≤ r15 → Ci (m_X8_fail (d + 0) 0 0) [.ref 11] h13 (fun r22 h20 => Wf h20 ∧ ((r22 = 0 ∨ r22 = 1) ∧ (K r22 h20)))))))) ∧ (r3 = (-1) → Ci (m_X8_fail (d + 0) 0 0) [.ref 11] h4 (fun r27 h25 => Wf h25 ∧ ((r27 = 0 ∨ r27 = 1) ∧ (K r27 h25))))) ∧ (r3 = 91 → (x1 < 6 → Ci (m_X8_readSum (d + 53) 0 0) [.ref 11, .int (x1 + 1)] (h_im h4 11 2 ((h_i h4 11 2) + 1)) (fun r32 h30 => Wf h30 ∧ ((r32 = 0 → K 0 h30) ∧ (¬ r32 = 0 → Ci (m_X8_expect (d + 1) 0 0) [.ref 11, .int 93] h30 (fun r36 h34 => Wf h34 ∧ ((r36 = 0 → K 0 h34) ∧ (¬ r36 = 0 → K 1 h34))))))) ∧ (¬ x1 < 6 → Ci (m_X8_fail (d + 0) 0 0) [.ref 11] h4 (fun r40 h38 => Wf h38 ∧ ((r40 = 0 ∨ r40 = 1) ∧ (K r40 h38)))))) ∧ (¬ r6 = 0 → Ci (m_X8_readNumber (d + 1) 0 0) [.ref 11, .int 0, .int 9999] h4 (fun r44 h42 => Wf h42 ∧ (Ci (m_X8_emit (d + 1) 0 0) [.ref 11, .int 0, .int r44] h42 (fun r47 h45 => Wf h45 ∧ ((r44 = (-1) → K 0 h45) ∧ (¬ r44 = (-1) → K 1 h45))))))))))) : Ci (m_X8_readAtom (d + 61) 0 0) [.ref 11, .int x1] h K := by
  refine Ct.of (fun _ _ _ => trivial) pn_X8 (Nat.le_of_ble_eq_true rfl) ?_
  show AW (m_X8_readAtom (d + 61) 0 0) 0 0 0 [(0, .ref 11), (1, .int x1)] [] h (kI K)
  refine aw_aload_n (i := 0) rfl d_X8_readAtom_0 0 rfl ?_
  refine aw_Vi 11 [] [] d_X8_readAtom_1 (cV_X8_peek (d + 0) 0 0) kc_8 (ws_11 w) tw_685 rfl (rr0 (Nat.le_of_ble_eq_true rfl) (Nat.le_of_ble_eq_true rfl)) (Nat.le_of_ble_eq_true rfl) xs0 k (fun r3 h1 kk => ?_)
  obtain ⟨w2, k⟩ := kk
  refine aw_istore_n (i := 2) rfl [(0, .ref 11), (1, .int x1), (2, .int r3)] d_X8_readAtom_4 (Nat.le_of_ble_eq_true rfl) rfl rfl ?_
  refine aw_iload_n (i := 2) rfl d_X8_readAtom_5 2 rfl ?_
  refine aw_Si [.int r3] [] d_X8_readAtom_6 (cS_X8_isDigit (d + 0) 0 0) tw_693 rfl (rr0 (Nat.le_of_ble_eq_true rfl) (Nat.le_of_ble_eq_true rfl)) (Nat.le_of_ble_eq_true rfl) xs0 k (fun r6 h4 kk => ?_)
  obtain ⟨w5, k⟩ := kk
  refine aw_if_eq (tgt := 39) d_X8_readAtom_9 rfl (fun c7 => ?_) (fun c7 => ?_)
  · have k := k.1 c7
    refine aw_iload_n (i := 2) rfl d_X8_readAtom_39 2 rfl ?_
    refine aw_bipush (v := 91) d_X8_readAtom_40 ib_91 ?_
    refine aw_icmp_ne (tgt := 91) d_X8_readAtom_42 rfl (fun c8 => ?_) (fun c8 => ?_)
    · have k := k.1 c8
      refine aw_iload_n (i := 2) rfl d_X8_readAtom_91 2 rfl ?_
      refine aw_iconst (v := (-1)) d_X8_readAtom_92 ic_m1 ?_
      refine aw_icmp_ne (tgt := 100) d_X8_readAtom_93 rfl (fun c9 => ?_) (fun c9 => ?_)
      · have k := k.1 c9
        refine aw_aload_n (i := 0) rfl d_X8_readAtom_100 0 rfl ?_
        obtain ⟨i10, q11, q12, k⟩ := k
        refine aw_getr (k0 := 4) kc_8 (ws_11 w5) (Nat.le_of_ble_eq_true rfl) tw_64 d_X8_readAtom_101 rfl q12 ?_
        refine aw_iload_n (i := 2) rfl d_X8_readAtom_104 2 rfl ?_
        refine aw_i2c d_X8_readAtom_105 ?_
        refine aw_Ti (i := i10) [.int (((r3 : Int32).toUInt32 % 65536).toInt32)] [] q11 d_X8_readAtom_106 rfl (cV_J0_indexOf_0f7a4 (d + 3) 0 0) tw_760 rfl (rr0 (Nat.le_of_ble_eq_true rfl) (Nat.le_of_ble_eq_true rfl)) (Nat.le_of_ble_eq_true rfl) xs0 k (fun r15 h13 kk => ?_)
        obtain ⟨w14, k⟩ := kk
        refine aw_istore_n (i := 3) rfl [(0, .ref 11), (1, .int x1), (2, .int r3), (3, .int r15)] d_X8_readAtom_109 (Nat.le_of_ble_eq_true rfl) rfl rfl ?_
        refine aw_iload_n (i := 3) rfl d_X8_readAtom_110 3 rfl ?_
        refine aw_if_ge (tgt := 119) d_X8_readAtom_111 rfl (fun c16 => ?_) (fun c16 => ?_)
        · have k := k.1 c16
          refine aw_aload_n (i := 0) rfl d_X8_readAtom_119 0 rfl ?_
          refine aw_dup d_X8_readAtom_120 rfl ?_
          refine aw_geti (k0 := 2) kc_8 (ws_11 w14) (Nat.le_of_ble_eq_true rfl) tw_62 d_X8_readAtom_121 rfl ?_
          refine aw_iconst (v := 1) d_X8_readAtom_124 ic_1 ?_
          refine aw_iadd d_X8_readAtom_125 ?_
          refine aw_puti (k0 := 2) kc_8 (ws_11 w14) (Nat.le_of_ble_eq_true rfl) tw_62 d_X8_readAtom_126 rfl rfl nf_i ?_
          refine aw_aload_n (i := 0) rfl d_X8_readAtom_129 0 rfl ?_
          refine aw_iconst (v := 1) d_X8_readAtom_130 ic_1 ?_
          refine aw_iload_n (i := 3) rfl d_X8_readAtom_131 3 rfl ?_
          refine aw_Vi 11 [.int 1, .int r15] [] d_X8_readAtom_132 (cV_X8_emit (d + 1) 0 0) kc_8 (ws_11 w14) tw_753 rfl (rr0 (Nat.le_of_ble_eq_true rfl) (Nat.le_of_ble_eq_true rfl)) (Nat.le_of_ble_eq_true rfl) xs0 k (fun r19 h17 kk => ?_)
          obtain ⟨w18, k⟩ := kk
          refine aw_pop d_X8_readAtom_135 rfl ?_
          refine aw_iconst (v := 1) d_X8_readAtom_136 ic_1 ?_
          exact aw_zret rfl rfl d_X8_readAtom_137 ⟨Nat.le_refl _, Nat.le_refl _⟩ ⟨_, rfl, k⟩
        · have k := k.2 c16
          refine aw_aload_n (i := 0) rfl d_X8_readAtom_114 0 rfl ?_
          refine aw_Vi 11 [] [] d_X8_readAtom_115 (cV_X8_fail (d + 0) 0 0) kc_8 (ws_11 w14) tw_715 rfl (rr0 (Nat.le_of_ble_eq_true rfl) (Nat.le_of_ble_eq_true rfl)) (Nat.le_of_ble_eq_true rfl) xs0 k (fun r22 h20 kk => ?_)
          obtain ⟨w21, k⟩ := kk
          obtain ⟨z23, k⟩ := k
          exact aw_zret rfl (nf_z z23).1 d_X8_readAtom_118 ⟨Nat.le_refl _, Nat.le_refl _⟩ ⟨_, rfl, k⟩
      · have k := k.2 c9
        refine aw_iconst (v := (-1)) d_X8_readAtom_96 ic_m1 ?_
        refine aw_goto (tgt := 109) d_X8_readAtom_97 rfl ?_
        refine aw_istore_n (i := 3) rfl [(0, .ref 11), (1, .int x1), (2, .int r3), (3, .int (-1))] d_X8_readAtom_109 (Nat.le_of_ble_eq_true rfl) rfl rfl ?_
        refine aw_iload_n (i := 3) rfl d_X8_readAtom_110 3 rfl ?_
        refine aw_if_ge (tgt := 119) d_X8_readAtom_111 rfl (fun c => absurd c (by decide)) (fun _ => ?_)
        refine aw_aload_n (i := 0) rfl d_X8_readAtom_114 0 rfl ?_
        refine aw_Vi 11 [] [] d_X8_readAtom_115 (cV_X8_fail (d + 0) 0 0) kc_8 (ws_11 w5) tw_715 rfl (rr0 (Nat.le_of_ble_eq_true rfl) (Nat.le_of_ble_eq_true rfl)) (Nat.le_of_ble_eq_true rfl) xs0 k (fun r27 h25 kk => ?_)
        obtain ⟨w26, k⟩ := kk
        obtain ⟨z28, k⟩ := k
        exact aw_zret rfl (nf_z z28).1 d_X8_readAtom_118 ⟨Nat.le_refl _, Nat.le_refl _⟩ ⟨_, rfl, k⟩
    · have k := k.2 c8
      refine aw_iload_n (i := 1) rfl d_X8_readAtom_45 1 rfl ?_
      refine aw_bipush (v := 6) d_X8_readAtom_46 ib_6 ?_
      refine aw_icmp_lt (tgt := 56) d_X8_readAtom_48 rfl (fun c29 => ?_) (fun c29 => ?_)
      · have k := k.1 c29
        refine aw_aload_n (i := 0) rfl d_X8_readAtom_56 0 rfl ?_
        refine aw_dup d_X8_readAtom_57 rfl ?_
        refine aw_geti (k0 := 2) kc_8 (ws_11 w5) (Nat.le_of_ble_eq_true rfl) tw_62 d_X8_readAtom_58 rfl ?_
        refine aw_iconst (v := 1) d_X8_readAtom_61 ic_1 ?_
        refine aw_iadd d_X8_readAtom_62 ?_
        refine aw_puti (k0 := 2) kc_8 (ws_11 w5) (Nat.le_of_ble_eq_true rfl) tw_62 d_X8_readAtom_63 rfl rfl nf_i ?_
        refine aw_aload_n (i := 0) rfl d_X8_readAtom_66 0 rfl ?_
        refine aw_iload_n (i := 1) rfl d_X8_readAtom_67 1 rfl ?_
        refine aw_iconst (v := 1) d_X8_readAtom_68 ic_1 ?_
        refine aw_iadd d_X8_readAtom_69 ?_
        refine aw_Vi 11 [.int (x1 + 1)] [] d_X8_readAtom_70 (cV_X8_readSum (d + 53) 0 0) kc_8 (ws_11 w5) tw_741 rfl (rr0 (Nat.le_of_ble_eq_true rfl) (Nat.le_of_ble_eq_true rfl)) (Nat.le_of_ble_eq_true rfl) xs0 k (fun r32 h30 kk => ?_)
        obtain ⟨w31, k⟩ := kk
        refine aw_if_eq (tgt := 89) d_X8_readAtom_73 rfl (fun c33 => ?_) (fun c33 => ?_)
        · have k := k.1 c33
          refine aw_iconst (v := 0) d_X8_readAtom_89 ic_0 ?_
          exact aw_zret rfl rfl d_X8_readAtom_90 ⟨Nat.le_refl _, Nat.le_refl _⟩ ⟨_, rfl, k⟩
        · have k := k.2 c33
          refine aw_aload_n (i := 0) rfl d_X8_readAtom_76 0 rfl ?_
          refine aw_bipush (v := 93) d_X8_readAtom_77 ib_93 ?_
          refine aw_Vi 11 [.int 93] [] d_X8_readAtom_79 (cV_X8_expect (d + 1) 0 0) kc_8 (ws_11 w31) tw_719 rfl (rr0 (Nat.le_of_ble_eq_true rfl) (Nat.le_of_ble_eq_true rfl)) (Nat.le_of_ble_eq_true rfl) xs0 k (fun r36 h34 kk => ?_)
          obtain ⟨w35, k⟩ := kk
          refine aw_if_eq (tgt := 89) d_X8_readAtom_82 rfl (fun c37 => ?_) (fun c37 => ?_)
          · have k := k.1 c37
            refine aw_iconst (v := 0) d_X8_readAtom_89 ic_0 ?_
            exact aw_zret rfl rfl d_X8_readAtom_90 ⟨Nat.le_refl _, Nat.le_refl _⟩ ⟨_, rfl, k⟩
          · have k := k.2 c37
            refine aw_iconst (v := 1) d_X8_readAtom_85 ic_1 ?_
            refine aw_goto (tgt := 90) d_X8_readAtom_86 rfl ?_
            exact aw_zret rfl rfl d_X8_readAtom_90 ⟨Nat.le_refl _, Nat.le_refl _⟩ ⟨_, rfl, k⟩
      · have k := k.2 c29
        refine aw_aload_n (i := 0) rfl d_X8_readAtom_51 0 rfl ?_
        refine aw_Vi 11 [] [] d_X8_readAtom_52 (cV_X8_fail (d + 0) 0 0) kc_8 (ws_11 w5) tw_715 rfl (rr0 (Nat.le_of_ble_eq_true rfl) (Nat.le_of_ble_eq_true rfl)) (Nat.le_of_ble_eq_true rfl) xs0 k (fun r40 h38 kk => ?_)
        obtain ⟨w39, k⟩ := kk
        obtain ⟨z41, k⟩ := k
        exact aw_zret rfl (nf_z z41).1 d_X8_readAtom_55 ⟨Nat.le_refl _, Nat.le_refl _⟩ ⟨_, rfl, k⟩
  · have k := k.2 c7
    refine aw_aload_n (i := 0) rfl d_X8_readAtom_12 0 rfl ?_
    refine aw_iconst (v := 0) d_X8_readAtom_13 ic_0 ?_
    refine aw_sipush (v := 9999) d_X8_readAtom_14 is_9999 ?_
    refine aw_Vi 11 [.int 0, .int 9999] [] d_X8_readAtom_17 (cV_X8_readNumber (d + 1) 0 0) kc_8 (ws_11 w5) tw_689 rfl (rr0 (Nat.le_of_ble_eq_true rfl) (Nat.le_of_ble_eq_true rfl)) (Nat.le_of_ble_eq_true rfl) xs0 k (fun r44 h42 kk => ?_)
    obtain ⟨w43, k⟩ := kk
    refine aw_istore_n (i := 3) rfl [(0, .ref 11), (1, .int x1), (2, .int r3), (3, .int r44)] d_X8_readAtom_20 (Nat.le_of_ble_eq_true rfl) rfl rfl ?_
    refine aw_aload_n (i := 0) rfl d_X8_readAtom_21 0 rfl ?_
    refine aw_iconst (v := 0) d_X8_readAtom_22 ic_0 ?_
    refine aw_iload_n (i := 3) rfl d_X8_readAtom_23 3 rfl ?_
    refine aw_Vi 11 [.int 0, .int r44] [] d_X8_readAtom_24 (cV_X8_emit (d + 1) 0 0) kc_8 (ws_11 w43) tw_753 rfl (rr0 (Nat.le_of_ble_eq_true rfl) (Nat.le_of_ble_eq_true rfl)) (Nat.le_of_ble_eq_true rfl) xs0 k (fun r47 h45 kk => ?_)
    obtain ⟨w46, k⟩ := kk
    refine aw_pop d_X8_readAtom_27 rfl ?_
    refine aw_iload_n (i := 3) rfl d_X8_readAtom_28 3 rfl ?_
    refine aw_iconst (v := (-1)) d_X8_readAtom_29 ic_m1 ?_
    refine aw_icmp_eq (tgt := 37) d_X8_readAtom_30 rfl (fun c48 => ?_) (fun c48 => ?_)
    · have k := k.1 c48
      refine aw_iconst (v := 0) d_X8_readAtom_37 ic_0 ?_
      exact aw_zret rfl rfl d_X8_readAtom_38 ⟨Nat.le_refl _, Nat.le_refl _⟩ ⟨_, rfl, k⟩
    · have k := k.2 c48
      refine aw_iconst (v := 1) d_X8_readAtom_33 ic_1 ?_
      refine aw_goto (tgt := 38) d_X8_readAtom_34 rfl ?_
      exact aw_zret rfl rfl d_X8_readAtom_38 ⟨Nat.le_refl _, Nat.le_refl _⟩ ⟨_, rfl, k⟩
theorem t_X8_readTerm (d : Nat) (h : Hp_) (w : Wf h) (x1 : Int32) (K : Int32 → Hp_ → Prop) (k : Ci (m_X8_readAtom (d + 51) 0 0) [.ref 11, .int x1] h (fun r3 h1 => Wf h1 ∧ (AW (m_X8_readTerm (d + 52) 0 0) 0 0 8 [(0, .ref 11), (1, .int x1), (2, .int r3), (3, .int 0)] [] h1 (kI K)))) : Ci (m_X8_readTerm (d + 52) 0 0) [.ref 11, .int x1] h K := by
  refine Ct.of (fun _ _ _ => trivial) pn_X8 (Nat.le_of_ble_eq_true rfl) ?_
  show AW (m_X8_readTerm (d + 52) 0 0) 0 0 0 [(0, .ref 11), (1, .int x1)] [] h (kI K)
  refine aw_aload_n (i := 0) rfl d_X8_readTerm_0 0 rfl ?_
  refine aw_iload_n (i := 1) rfl d_X8_readTerm_1 1 rfl ?_
  refine aw_Vi 11 [.int x1] [] d_X8_readTerm_2 (cV_X8_readAtom (d + 51) 0 0) kc_8 (ws_11 w) tw_749 rfl (rr0 (Nat.le_of_ble_eq_true rfl) (Nat.le_of_ble_eq_true rfl)) (Nat.le_of_ble_eq_true rfl) xs0 k (fun r3 h1 kk => ?_)
  obtain ⟨w2, k⟩ := kk
  refine aw_istore_n (i := 2) rfl [(0, .ref 11), (1, .int x1), (2, .int r3)] d_X8_readTerm_5 (Nat.le_of_ble_eq_true rfl) rfl rfl ?_
  refine aw_iconst (v := 0) d_X8_readTerm_6 ic_0 ?_
  refine aw_istore_n (i := 3) rfl [(0, .ref 11), (1, .int x1), (2, .int r3), (3, .int 0)] d_X8_readTerm_7 (Nat.le_of_ble_eq_true rfl) rfl rfl ?_
  exact k
theorem t_X8_readTerm_8 (d : Nat) (h : Hp_) (w : Wf h) (x1 : Int32) (x2 : Int32) (x3 : Int32) (K : Int32 → Hp_ → Prop) (k : (160 ≤ x3 → (x2 = 0 ∨ x2 = 1) ∧ (K x2 h)) ∧ (¬ 160 ≤ x3 → (x2 = 0 → (x2 = 0 ∨ x2 = 1) ∧ (K x2 h)) ∧ (¬ x2 = 0 → Ci (m_X8_peek (d + 0) 0 0) [.ref 11] h (fun r10 h8 => Wf h8 ∧ ((¬ r10 = 42 → (x2 = 0 ∨ x2 = 1) ∧ (K x2 h8)) ∧ (r10 = 42 → Ci (m_X8_readAtom (d + 51) 0 0) [.ref 11, .int x1] (h_im h8 11 2 ((h_i h8 11 2) + 1)) (fun r15 h13 => Wf h13 ∧ (Ci (m_X8_emit (d + 1) 0 0) [.ref 11, .int 7, .int 0] h13 (fun r18 h16 => Wf h16 ∧ (AW (m_X8_readTerm (d + 52) 0 0) 0 0 8 [(0, .ref 11), (1, .int x1), (2, .int r15), (3, .int (x3 + 1))] [] h16 (kI K))))))))))) : AW (m_X8_readTerm (d + 52) 0 0) 0 0 8 [(0, .ref 11), (1, .int x1), (2, .int x2), (3, .int x3)] [] h (kI K) := by
  refine aw_iload_n (i := 3) rfl d_X8_readTerm_8 3 rfl ?_
  refine aw_sipush (v := 160) d_X8_readTerm_9 is_160 ?_
  refine aw_icmp_ge (tgt := 58) d_X8_readTerm_12 rfl (fun c4 => ?_) (fun c4 => ?_)
  · have k := k.1 c4
    refine aw_iload_n (i := 2) rfl d_X8_readTerm_58 2 rfl ?_
    obtain ⟨z5, k⟩ := k
    exact aw_zret rfl (nf_z z5).1 d_X8_readTerm_59 ⟨Nat.le_refl _, Nat.le_refl _⟩ ⟨_, rfl, k⟩
  · have k := k.2 c4
    refine aw_iload_n (i := 2) rfl d_X8_readTerm_15 2 rfl ?_
    refine aw_if_eq (tgt := 58) d_X8_readTerm_16 rfl (fun c6 => ?_) (fun c6 => ?_)
    · have k := k.1 c6
      refine aw_iload_n (i := 2) rfl d_X8_readTerm_58 2 rfl ?_
      obtain ⟨z7, k⟩ := k
      exact aw_zret rfl (nf_z z7).1 d_X8_readTerm_59 ⟨Nat.le_refl _, Nat.le_refl _⟩ ⟨_, rfl, k⟩
    · have k := k.2 c6
      refine aw_aload_n (i := 0) rfl d_X8_readTerm_19 0 rfl ?_
      refine aw_Vi 11 [] [] d_X8_readTerm_20 (cV_X8_peek (d + 0) 0 0) kc_8 (ws_11 w) tw_685 rfl (rr0 (Nat.le_of_ble_eq_true rfl) (Nat.le_of_ble_eq_true rfl)) (Nat.le_of_ble_eq_true rfl) xs0 k (fun r10 h8 kk => ?_)
      obtain ⟨w9, k⟩ := kk
      refine aw_bipush (v := 42) d_X8_readTerm_23 ib_42 ?_
      refine aw_icmp_ne (tgt := 58) d_X8_readTerm_25 rfl (fun c11 => ?_) (fun c11 => ?_)
      · have k := k.1 c11
        refine aw_iload_n (i := 2) rfl d_X8_readTerm_58 2 rfl ?_
        obtain ⟨z12, k⟩ := k
        exact aw_zret rfl (nf_z z12).1 d_X8_readTerm_59 ⟨Nat.le_refl _, Nat.le_refl _⟩ ⟨_, rfl, k⟩
      · have k := k.2 c11
        refine aw_aload_n (i := 0) rfl d_X8_readTerm_28 0 rfl ?_
        refine aw_dup d_X8_readTerm_29 rfl ?_
        refine aw_geti (k0 := 2) kc_8 (ws_11 w9) (Nat.le_of_ble_eq_true rfl) tw_62 d_X8_readTerm_30 rfl ?_
        refine aw_iconst (v := 1) d_X8_readTerm_33 ic_1 ?_
        refine aw_iadd d_X8_readTerm_34 ?_
        refine aw_puti (k0 := 2) kc_8 (ws_11 w9) (Nat.le_of_ble_eq_true rfl) tw_62 d_X8_readTerm_35 rfl rfl nf_i ?_
        refine aw_aload_n (i := 0) rfl d_X8_readTerm_38 0 rfl ?_
        refine aw_iload_n (i := 1) rfl d_X8_readTerm_39 1 rfl ?_
        refine aw_Vi 11 [.int x1] [] d_X8_readTerm_40 (cV_X8_readAtom (d + 51) 0 0) kc_8 (ws_11 w9) tw_749 rfl (rr0 (Nat.le_of_ble_eq_true rfl) (Nat.le_of_ble_eq_true rfl)) (Nat.le_of_ble_eq_true rfl) xs0 k (fun r15 h13 kk => ?_)
        obtain ⟨w14, k⟩ := kk
        refine aw_istore_n (i := 2) rfl [(0, .ref 11), (1, .int x1), (2, .int r15), (3, .int x3)] d_X8_readTerm_43 (Nat.le_of_ble_eq_true rfl) rfl rfl ?_
        refine aw_aload_n (i := 0) rfl d_X8_readTerm_44 0 rfl ?_
        refine aw_bipush (v := 7) d_X8_readTerm_45 ib_7 ?_
        refine aw_iconst (v := 0) d_X8_readTerm_47 ic_0 ?_
        refine aw_Vi 11 [.int 7, .int 0] [] d_X8_readTerm_48 (cV_X8_emit (d + 1) 0 0) kc_8 (ws_11 w14) tw_753 rfl (rr0 (Nat.le_of_ble_eq_true rfl) (Nat.le_of_ble_eq_true rfl)) (Nat.le_of_ble_eq_true rfl) xs0 k (fun r18 h16 kk => ?_)
        obtain ⟨w17, k⟩ := kk
        refine aw_pop d_X8_readTerm_51 rfl ?_
        refine aw_iinc (v := (x3 + 1)) [(0, .ref 11), (1, .int x1), (2, .int r15), (3, .int (x3 + 1))] d_X8_readTerm_52 3 rfl rfl (Nat.le_of_ble_eq_true rfl) rfl rfl ?_
        refine aw_goto (tgt := 8) d_X8_readTerm_55 rfl ?_
        exact k
theorem t_X8_readSum (d : Nat) (h : Hp_) (w : Wf h) (x1 : Int32) (K : Int32 → Hp_ → Prop) (k : Ci (m_X8_readTerm (d + 52) 0 0) [.ref 11, .int x1] h (fun r3 h1 => Wf h1 ∧ (AW (m_X8_readSum (d + 53) 0 0) 0 0 8 [(0, .ref 11), (1, .int x1), (2, .int r3), (3, .int 0)] [] h1 (kI K)))) : Ci (m_X8_readSum (d + 53) 0 0) [.ref 11, .int x1] h K := by
  refine Ct.of (fun _ _ _ => trivial) pn_X8 (Nat.le_of_ble_eq_true rfl) ?_
  show AW (m_X8_readSum (d + 53) 0 0) 0 0 0 [(0, .ref 11), (1, .int x1)] [] h (kI K)
  refine aw_aload_n (i := 0) rfl d_X8_readSum_0 0 rfl ?_
  refine aw_iload_n (i := 1) rfl d_X8_readSum_1 1 rfl ?_
  refine aw_Vi 11 [.int x1] [] d_X8_readSum_2 (cV_X8_readTerm (d + 52) 0 0) kc_8 (ws_11 w) tw_745 rfl (rr0 (Nat.le_of_ble_eq_true rfl) (Nat.le_of_ble_eq_true rfl)) (Nat.le_of_ble_eq_true rfl) xs0 k (fun r3 h1 kk => ?_)
  obtain ⟨w2, k⟩ := kk
  refine aw_istore_n (i := 2) rfl [(0, .ref 11), (1, .int x1), (2, .int r3)] d_X8_readSum_5 (Nat.le_of_ble_eq_true rfl) rfl rfl ?_
  refine aw_iconst (v := 0) d_X8_readSum_6 ic_0 ?_
  refine aw_istore_n (i := 3) rfl [(0, .ref 11), (1, .int x1), (2, .int r3), (3, .int 0)] d_X8_readSum_7 (Nat.le_of_ble_eq_true rfl) rfl rfl ?_
  exact k
theorem t_X8_readSum_8 (d : Nat) (h : Hp_) (w : Wf h) (x1 : Int32) (x2 : Int32) (x3 : Int32) (K : Int32 → Hp_ → Prop) (k : (160 ≤ x3 → (x2 = 0 ∨ x2 = 1) ∧ (K x2 h)) ∧ (¬ 160 ≤ x3 → (x2 = 0 → (x2 = 0 ∨ x2 = 1) ∧ (K x2 h)) ∧ (¬ x2 = 0 → Ci (m_X8_peek (d + 0) 0 0) [.ref 11] h (fun r10 h8 => Wf h8 ∧ ((r10 = 43 → Ci (m_X8_peek (d + 0) 0 0) [.ref 11] h8 (fun r14 h12 => Wf h12 ∧ ((¬ r14 = 43 → Ci (m_X8_readTerm (d + 52) 0 0) [.ref 11, .int x1] (h_im h12 11 2 ((h_i h12 11 2) + 1)) (fun r18 h16 => Wf h16 ∧ (Ci (m_X8_emit (d + 1) 0 0) [.ref 11, .int 6, .int 0] h16 (fun r21 h19 => Wf h19 ∧ (AW (m_X8_readSum (d + 53) 0 0) 0 0 8 [(0, .ref 11), (1, .int x1), (2, .int r18), (3, .int (x3 + 1))] [] h19 (kI K)))))) ∧ (r14 = 43 → Ci (m_X8_readTerm (d + 52) 0 0) [.ref 11, .int x1] (h_im h12 11 2 ((h_i h12 11 2) + 1)) (fun r24 h22 => Wf h22 ∧ (Ci (m_X8_emit (d + 1) 0 0) [.ref 11, .int 5, .int 0] h22 (fun r27 h25 => Wf h25 ∧ (AW (m_X8_readSum (d + 53) 0 0) 0 0 8 [(0, .ref 11), (1, .int x1), (2, .int r24), (3, .int (x3 + 1))] [] h25 (kI K))))))))) ∧ (¬ r10 = 43 → Ci (m_X8_peek (d + 0) 0 0) [.ref 11] h8 (fun r30 h28 => Wf h28 ∧ ((¬ r30 = 45 → (x2 = 0 ∨ x2 = 1) ∧ (K x2 h28)) ∧ (r30 = 45 → Ci (m_X8_peek (d + 0) 0 0) [.ref 11] h28 (fun r35 h33 => Wf h33 ∧ ((¬ r35 = 43 → Ci (m_X8_readTerm (d + 52) 0 0) [.ref 11, .int x1] (h_im h33 11 2 ((h_i h33 11 2) + 1)) (fun r39 h37 => Wf h37 ∧ (Ci (m_X8_emit (d + 1) 0 0) [.ref 11, .int 6, .int 0] h37 (fun r42 h40 => Wf h40 ∧ (AW (m_X8_readSum (d + 53) 0 0) 0 0 8 [(0, .ref 11), (1, .int x1), (2, .int r39), (3, .int (x3 + 1))] [] h40 (kI K)))))) ∧ (r35 = 43 → Ci (m_X8_readTerm (d + 52) 0 0) [.ref 11, .int x1] (h_im h33 11 2 ((h_i h33 11 2) + 1)) (fun r45 h43 => Wf h43 ∧ (Ci (m_X8_emit (d + 1) 0 0) [.ref 11, .int 5, .int 0] h43 (fun r48 h46 => Wf h46 ∧ (AW (m_X8_readSum (d + 53) 0 0) 0 0 8 [(0, .ref 11), (1, .int x1), (2, .int r45), (3, .int (x3 + 1))] [] h46 (kI K))))))))))))))))) : AW (m_X8_readSum (d + 53) 0 0) 0 0 8 [(0, .ref 11), (1, .int x1), (2, .int x2), (3, .int x3)] [] h (kI K) := by
  refine aw_iload_n (i := 3) rfl d_X8_readSum_8 3 rfl ?_
  refine aw_sipush (v := 160) d_X8_readSum_9 is_160 ?_
  refine aw_icmp_ge (tgt := 84) d_X8_readSum_12 rfl (fun c4 => ?_) (fun c4 => ?_)
  · have k := k.1 c4
    refine aw_iload_n (i := 2) rfl d_X8_readSum_84 2 rfl ?_
    obtain ⟨z5, k⟩ := k
    exact aw_zret rfl (nf_z z5).1 d_X8_readSum_85 ⟨Nat.le_refl _, Nat.le_refl _⟩ ⟨_, rfl, k⟩
  · have k := k.2 c4
    refine aw_iload_n (i := 2) rfl d_X8_readSum_15 2 rfl ?_
    refine aw_if_eq (tgt := 84) d_X8_readSum_16 rfl (fun c6 => ?_) (fun c6 => ?_)
    · have k := k.1 c6
      refine aw_iload_n (i := 2) rfl d_X8_readSum_84 2 rfl ?_
      obtain ⟨z7, k⟩ := k
      exact aw_zret rfl (nf_z z7).1 d_X8_readSum_85 ⟨Nat.le_refl _, Nat.le_refl _⟩ ⟨_, rfl, k⟩
    · have k := k.2 c6
      refine aw_aload_n (i := 0) rfl d_X8_readSum_19 0 rfl ?_
      refine aw_Vi 11 [] [] d_X8_readSum_20 (cV_X8_peek (d + 0) 0 0) kc_8 (ws_11 w) tw_685 rfl (rr0 (Nat.le_of_ble_eq_true rfl) (Nat.le_of_ble_eq_true rfl)) (Nat.le_of_ble_eq_true rfl) xs0 k (fun r10 h8 kk => ?_)
      obtain ⟨w9, k⟩ := kk
      refine aw_bipush (v := 43) d_X8_readSum_23 ib_43 ?_
      refine aw_icmp_eq (tgt := 37) d_X8_readSum_25 rfl (fun c11 => ?_) (fun c11 => ?_)
      · have k := k.1 c11
        refine aw_aload_n (i := 0) rfl d_X8_readSum_37 0 rfl ?_
        refine aw_Vi 11 [] [] d_X8_readSum_38 (cV_X8_peek (d + 0) 0 0) kc_8 (ws_11 w9) tw_685 rfl (rr0 (Nat.le_of_ble_eq_true rfl) (Nat.le_of_ble_eq_true rfl)) (Nat.le_of_ble_eq_true rfl) xs0 k (fun r14 h12 kk => ?_)
        obtain ⟨w13, k⟩ := kk
        refine aw_bipush (v := 43) d_X8_readSum_41 ib_43 ?_
        refine aw_icmp_ne (tgt := 50) d_X8_readSum_43 rfl (fun c15 => ?_) (fun c15 => ?_)
        · have k := k.1 c15
          refine aw_bipush (v := 6) d_X8_readSum_50 ib_6 ?_
          refine aw_istore [(0, .ref 11), (1, .int x1), (2, .int x2), (3, .int x3), (4, .int 6)] d_X8_readSum_52 (Nat.le_of_ble_eq_true rfl) rfl rfl ?_
          refine aw_aload_n (i := 0) rfl d_X8_readSum_54 0 rfl ?_
          refine aw_dup d_X8_readSum_55 rfl ?_
          refine aw_geti (k0 := 2) kc_8 (ws_11 w13) (Nat.le_of_ble_eq_true rfl) tw_62 d_X8_readSum_56 rfl ?_
          refine aw_iconst (v := 1) d_X8_readSum_59 ic_1 ?_
          refine aw_iadd d_X8_readSum_60 ?_
          refine aw_puti (k0 := 2) kc_8 (ws_11 w13) (Nat.le_of_ble_eq_true rfl) tw_62 d_X8_readSum_61 rfl rfl nf_i ?_
          refine aw_aload_n (i := 0) rfl d_X8_readSum_64 0 rfl ?_
          refine aw_iload_n (i := 1) rfl d_X8_readSum_65 1 rfl ?_
          refine aw_Vi 11 [.int x1] [] d_X8_readSum_66 (cV_X8_readTerm (d + 52) 0 0) kc_8 (ws_11 w13) tw_745 rfl (rr0 (Nat.le_of_ble_eq_true rfl) (Nat.le_of_ble_eq_true rfl)) (Nat.le_of_ble_eq_true rfl) xs0 k (fun r18 h16 kk => ?_)
          obtain ⟨w17, k⟩ := kk
          refine aw_istore_n (i := 2) rfl [(0, .ref 11), (1, .int x1), (2, .int r18), (3, .int x3), (4, .int 6)] d_X8_readSum_69 (Nat.le_of_ble_eq_true rfl) rfl rfl ?_
          refine aw_aload_n (i := 0) rfl d_X8_readSum_70 0 rfl ?_
          refine aw_iload d_X8_readSum_71 4 rfl ?_
          refine aw_iconst (v := 0) d_X8_readSum_73 ic_0 ?_
          refine aw_Vi 11 [.int 6, .int 0] [] d_X8_readSum_74 (cV_X8_emit (d + 1) 0 0) kc_8 (ws_11 w17) tw_753 rfl (rr0 (Nat.le_of_ble_eq_true rfl) (Nat.le_of_ble_eq_true rfl)) (Nat.le_of_ble_eq_true rfl) xs0 k (fun r21 h19 kk => ?_)
          obtain ⟨w20, k⟩ := kk
          refine aw_pop d_X8_readSum_77 rfl ?_
          refine aw_iinc (v := (x3 + 1)) [(0, .ref 11), (1, .int x1), (2, .int r18), (3, .int (x3 + 1)), (4, .int 6)] d_X8_readSum_78 3 rfl rfl (Nat.le_of_ble_eq_true rfl) rfl rfl ?_
          refine aw_goto (tgt := 8) d_X8_readSum_81 rfl ?_
          exact aw_lvp [0, 1, 2, 3] [(0, .ref 11), (1, .int x1), (2, .int r18), (3, .int (x3 + 1))] rfl k
        · have k := k.2 c15
          refine aw_iconst (v := 5) d_X8_readSum_46 ic_5 ?_
          refine aw_goto (tgt := 52) d_X8_readSum_47 rfl ?_
          refine aw_istore [(0, .ref 11), (1, .int x1), (2, .int x2), (3, .int x3), (4, .int 5)] d_X8_readSum_52 (Nat.le_of_ble_eq_true rfl) rfl rfl ?_
          refine aw_aload_n (i := 0) rfl d_X8_readSum_54 0 rfl ?_
          refine aw_dup d_X8_readSum_55 rfl ?_
          refine aw_geti (k0 := 2) kc_8 (ws_11 w13) (Nat.le_of_ble_eq_true rfl) tw_62 d_X8_readSum_56 rfl ?_
          refine aw_iconst (v := 1) d_X8_readSum_59 ic_1 ?_
          refine aw_iadd d_X8_readSum_60 ?_
          refine aw_puti (k0 := 2) kc_8 (ws_11 w13) (Nat.le_of_ble_eq_true rfl) tw_62 d_X8_readSum_61 rfl rfl nf_i ?_
          refine aw_aload_n (i := 0) rfl d_X8_readSum_64 0 rfl ?_
          refine aw_iload_n (i := 1) rfl d_X8_readSum_65 1 rfl ?_
          refine aw_Vi 11 [.int x1] [] d_X8_readSum_66 (cV_X8_readTerm (d + 52) 0 0) kc_8 (ws_11 w13) tw_745 rfl (rr0 (Nat.le_of_ble_eq_true rfl) (Nat.le_of_ble_eq_true rfl)) (Nat.le_of_ble_eq_true rfl) xs0 k (fun r24 h22 kk => ?_)
          obtain ⟨w23, k⟩ := kk
          refine aw_istore_n (i := 2) rfl [(0, .ref 11), (1, .int x1), (2, .int r24), (3, .int x3), (4, .int 5)] d_X8_readSum_69 (Nat.le_of_ble_eq_true rfl) rfl rfl ?_
          refine aw_aload_n (i := 0) rfl d_X8_readSum_70 0 rfl ?_
          refine aw_iload d_X8_readSum_71 4 rfl ?_
          refine aw_iconst (v := 0) d_X8_readSum_73 ic_0 ?_
          refine aw_Vi 11 [.int 5, .int 0] [] d_X8_readSum_74 (cV_X8_emit (d + 1) 0 0) kc_8 (ws_11 w23) tw_753 rfl (rr0 (Nat.le_of_ble_eq_true rfl) (Nat.le_of_ble_eq_true rfl)) (Nat.le_of_ble_eq_true rfl) xs0 k (fun r27 h25 kk => ?_)
          obtain ⟨w26, k⟩ := kk
          refine aw_pop d_X8_readSum_77 rfl ?_
          refine aw_iinc (v := (x3 + 1)) [(0, .ref 11), (1, .int x1), (2, .int r24), (3, .int (x3 + 1)), (4, .int 5)] d_X8_readSum_78 3 rfl rfl (Nat.le_of_ble_eq_true rfl) rfl rfl ?_
          refine aw_goto (tgt := 8) d_X8_readSum_81 rfl ?_
          exact aw_lvp [0, 1, 2, 3] [(0, .ref 11), (1, .int x1), (2, .int r24), (3, .int (x3 + 1))] rfl k
      · have k := k.2 c11
        refine aw_aload_n (i := 0) rfl d_X8_readSum_28 0 rfl ?_
        refine aw_Vi 11 [] [] d_X8_readSum_29 (cV_X8_peek (d + 0) 0 0) kc_8 (ws_11 w9) tw_685 rfl (rr0 (Nat.le_of_ble_eq_true rfl) (Nat.le_of_ble_eq_true rfl)) (Nat.le_of_ble_eq_true rfl) xs0 k (fun r30 h28 kk => ?_)
        obtain ⟨w29, k⟩ := kk
        refine aw_bipush (v := 45) d_X8_readSum_32 ib_45 ?_
        refine aw_icmp_ne (tgt := 84) d_X8_readSum_34 rfl (fun c31 => ?_) (fun c31 => ?_)
        · have k := k.1 c31
          refine aw_iload_n (i := 2) rfl d_X8_readSum_84 2 rfl ?_
          obtain ⟨z32, k⟩ := k
          exact aw_zret rfl (nf_z z32).1 d_X8_readSum_85 ⟨Nat.le_refl _, Nat.le_refl _⟩ ⟨_, rfl, k⟩
        · have k := k.2 c31
          refine aw_aload_n (i := 0) rfl d_X8_readSum_37 0 rfl ?_
          refine aw_Vi 11 [] [] d_X8_readSum_38 (cV_X8_peek (d + 0) 0 0) kc_8 (ws_11 w29) tw_685 rfl (rr0 (Nat.le_of_ble_eq_true rfl) (Nat.le_of_ble_eq_true rfl)) (Nat.le_of_ble_eq_true rfl) xs0 k (fun r35 h33 kk => ?_)
          obtain ⟨w34, k⟩ := kk
          refine aw_bipush (v := 43) d_X8_readSum_41 ib_43 ?_
          refine aw_icmp_ne (tgt := 50) d_X8_readSum_43 rfl (fun c36 => ?_) (fun c36 => ?_)
          · have k := k.1 c36
            refine aw_bipush (v := 6) d_X8_readSum_50 ib_6 ?_
            refine aw_istore [(0, .ref 11), (1, .int x1), (2, .int x2), (3, .int x3), (4, .int 6)] d_X8_readSum_52 (Nat.le_of_ble_eq_true rfl) rfl rfl ?_
            refine aw_aload_n (i := 0) rfl d_X8_readSum_54 0 rfl ?_
            refine aw_dup d_X8_readSum_55 rfl ?_
            refine aw_geti (k0 := 2) kc_8 (ws_11 w34) (Nat.le_of_ble_eq_true rfl) tw_62 d_X8_readSum_56 rfl ?_
            refine aw_iconst (v := 1) d_X8_readSum_59 ic_1 ?_
            refine aw_iadd d_X8_readSum_60 ?_
            refine aw_puti (k0 := 2) kc_8 (ws_11 w34) (Nat.le_of_ble_eq_true rfl) tw_62 d_X8_readSum_61 rfl rfl nf_i ?_
            refine aw_aload_n (i := 0) rfl d_X8_readSum_64 0 rfl ?_
            refine aw_iload_n (i := 1) rfl d_X8_readSum_65 1 rfl ?_
            refine aw_Vi 11 [.int x1] [] d_X8_readSum_66 (cV_X8_readTerm (d + 52) 0 0) kc_8 (ws_11 w34) tw_745 rfl (rr0 (Nat.le_of_ble_eq_true rfl) (Nat.le_of_ble_eq_true rfl)) (Nat.le_of_ble_eq_true rfl) xs0 k (fun r39 h37 kk => ?_)
            obtain ⟨w38, k⟩ := kk
            refine aw_istore_n (i := 2) rfl [(0, .ref 11), (1, .int x1), (2, .int r39), (3, .int x3), (4, .int 6)] d_X8_readSum_69 (Nat.le_of_ble_eq_true rfl) rfl rfl ?_
            refine aw_aload_n (i := 0) rfl d_X8_readSum_70 0 rfl ?_
            refine aw_iload d_X8_readSum_71 4 rfl ?_
            refine aw_iconst (v := 0) d_X8_readSum_73 ic_0 ?_
            refine aw_Vi 11 [.int 6, .int 0] [] d_X8_readSum_74 (cV_X8_emit (d + 1) 0 0) kc_8 (ws_11 w38) tw_753 rfl (rr0 (Nat.le_of_ble_eq_true rfl) (Nat.le_of_ble_eq_true rfl)) (Nat.le_of_ble_eq_true rfl) xs0 k (fun r42 h40 kk => ?_)
            obtain ⟨w41, k⟩ := kk
            refine aw_pop d_X8_readSum_77 rfl ?_
            refine aw_iinc (v := (x3 + 1)) [(0, .ref 11), (1, .int x1), (2, .int r39), (3, .int (x3 + 1)), (4, .int 6)] d_X8_readSum_78 3 rfl rfl (Nat.le_of_ble_eq_true rfl) rfl rfl ?_
            refine aw_goto (tgt := 8) d_X8_readSum_81 rfl ?_
            exact aw_lvp [0, 1, 2, 3] [(0, .ref 11), (1, .int x1), (2, .int r39), (3, .int (x3 + 1))] rfl k
          · have k := k.2 c36
            refine aw_iconst (v := 5) d_X8_readSum_46 ic_5 ?_
            refine aw_goto (tgt := 52) d_X8_readSum_47 rfl ?_
            refine aw_istore [(0, .ref 11), (1, .int x1), (2, .int x2), (3, .int x3), (4, .int 5)] d_X8_readSum_52 (Nat.le_of_ble_eq_true rfl) rfl rfl ?_
            refine aw_aload_n (i := 0) rfl d_X8_readSum_54 0 rfl ?_
            refine aw_dup d_X8_readSum_55 rfl ?_
            refine aw_geti (k0 := 2) kc_8 (ws_11 w34) (Nat.le_of_ble_eq_true rfl) tw_62 d_X8_readSum_56 rfl ?_
            refine aw_iconst (v := 1) d_X8_readSum_59 ic_1 ?_
            refine aw_iadd d_X8_readSum_60 ?_
            refine aw_puti (k0 := 2) kc_8 (ws_11 w34) (Nat.le_of_ble_eq_true rfl) tw_62 d_X8_readSum_61 rfl rfl nf_i ?_
            refine aw_aload_n (i := 0) rfl d_X8_readSum_64 0 rfl ?_
            refine aw_iload_n (i := 1) rfl d_X8_readSum_65 1 rfl ?_
            refine aw_Vi 11 [.int x1] [] d_X8_readSum_66 (cV_X8_readTerm (d + 52) 0 0) kc_8 (ws_11 w34) tw_745 rfl (rr0 (Nat.le_of_ble_eq_true rfl) (Nat.le_of_ble_eq_true rfl)) (Nat.le_of_ble_eq_true rfl) xs0 k (fun r45 h43 kk => ?_)
            obtain ⟨w44, k⟩ := kk
            refine aw_istore_n (i := 2) rfl [(0, .ref 11), (1, .int x1), (2, .int r45), (3, .int x3), (4, .int 5)] d_X8_readSum_69 (Nat.le_of_ble_eq_true rfl) rfl rfl ?_
            refine aw_aload_n (i := 0) rfl d_X8_readSum_70 0 rfl ?_
            refine aw_iload d_X8_readSum_71 4 rfl ?_
            refine aw_iconst (v := 0) d_X8_readSum_73 ic_0 ?_
            refine aw_Vi 11 [.int 5, .int 0] [] d_X8_readSum_74 (cV_X8_emit (d + 1) 0 0) kc_8 (ws_11 w44) tw_753 rfl (rr0 (Nat.le_of_ble_eq_true rfl) (Nat.le_of_ble_eq_true rfl)) (Nat.le_of_ble_eq_true rfl) xs0 k (fun r48 h46 kk => ?_)
            obtain ⟨w47, k⟩ := kk
            refine aw_pop d_X8_readSum_77 rfl ?_
            refine aw_iinc (v := (x3 + 1)) [(0, .ref 11), (1, .int x1), (2, .int r45), (3, .int (x3 + 1)), (4, .int 5)] d_X8_readSum_78 3 rfl rfl (Nat.le_of_ble_eq_true rfl) rfl rfl ?_
            refine aw_goto (tgt := 8) d_X8_readSum_81 rfl ?_
            exact aw_lvp [0, 1, 2, 3] [(0, .ref 11), (1, .int x1), (2, .int r45), (3, .int (x3 + 1))] rfl k
theorem t_X8_readComparison (d : Nat) (h : Hp_) (w : Wf h) (x1 : Int32) (K : Int32 → Hp_ → Prop) (k : Ci (m_X8_peek (d + 0) 0 0) [.ref 11] h (fun r3 h1 => Wf h1 ∧ (Ci (m_X8_isComparison (d + 0) 0 0) [.int r3] h1 (fun r6 h4 => Wf h4 ∧ ((¬ r6 = 0 → Ci (m_X8_readSum (d + 53) 0 0) [.ref 11, .int x1] (h_im h4 11 2 ((h_i h4 11 2) + 1)) (fun r10 h8 => Wf h8 ∧ ((¬ r3 = 61 → (¬ r3 = 60 → Ci (m_X8_emit (d + 1) 0 0) [.ref 11, .int 10, .int 0] h8 (fun r15 h13 => Wf h13 ∧ ((r10 = 0 ∨ r10 = 1) ∧ (K r10 h13)))) ∧ (r3 = 60 → Ci (m_X8_emit (d + 1) 0 0) [.ref 11, .int 9, .int 0] h8 (fun r19 h17 => Wf h17 ∧ ((r10 = 0 ∨ r10 = 1) ∧ (K r10 h17))))) ∧ (r3 = 61 → Ci (m_X8_emit (d + 1) 0 0) [.ref 11, .int 8, .int 0] h8 (fun r23 h21 => Wf h21 ∧ ((r10 = 0 ∨ r10 = 1) ∧ (K r10 h21))))))) ∧ (r6 = 0 → Ci (m_X8_fail (d + 0) 0 0) [.ref 11] h4 (fun r27 h25 => Wf h25 ∧ ((r27 = 0 ∨ r27 = 1) ∧ (K r27 h25))))))))) : Ci (m_X8_readComparison (d + 54) 0 0) [.ref 11, .int x1] h K := by
  refine Ct.of (fun _ _ _ => trivial) pn_X8 (Nat.le_of_ble_eq_true rfl) ?_
  show AW (m_X8_readComparison (d + 54) 0 0) 0 0 0 [(0, .ref 11), (1, .int x1)] [] h (kI K)
  refine aw_aload_n (i := 0) rfl d_X8_readComparison_0 0 rfl ?_
  refine aw_Vi 11 [] [] d_X8_readComparison_1 (cV_X8_peek (d + 0) 0 0) kc_8 (ws_11 w) tw_685 rfl (rr0 (Nat.le_of_ble_eq_true rfl) (Nat.le_of_ble_eq_true rfl)) (Nat.le_of_ble_eq_true rfl) xs0 k (fun r3 h1 kk => ?_)
  obtain ⟨w2, k⟩ := kk
  refine aw_istore_n (i := 2) rfl [(0, .ref 11), (1, .int x1), (2, .int r3)] d_X8_readComparison_4 (Nat.le_of_ble_eq_true rfl) rfl rfl ?_
  refine aw_iload_n (i := 2) rfl d_X8_readComparison_5 2 rfl ?_
  refine aw_Si [.int r3] [] d_X8_readComparison_6 (cS_X8_isComparison (d + 0) 0 0) tw_848 rfl (rr0 (Nat.le_of_ble_eq_true rfl) (Nat.le_of_ble_eq_true rfl)) (Nat.le_of_ble_eq_true rfl) xs0 k (fun r6 h4 kk => ?_)
  obtain ⟨w5, k⟩ := kk
  refine aw_if_ne (tgt := 17) d_X8_readComparison_9 rfl (fun c7 => ?_) (fun c7 => ?_)
  · have k := k.1 c7
    refine aw_aload_n (i := 0) rfl d_X8_readComparison_17 0 rfl ?_
    refine aw_dup d_X8_readComparison_18 rfl ?_
    refine aw_geti (k0 := 2) kc_8 (ws_11 w5) (Nat.le_of_ble_eq_true rfl) tw_62 d_X8_readComparison_19 rfl ?_
    refine aw_iconst (v := 1) d_X8_readComparison_22 ic_1 ?_
    refine aw_iadd d_X8_readComparison_23 ?_
    refine aw_puti (k0 := 2) kc_8 (ws_11 w5) (Nat.le_of_ble_eq_true rfl) tw_62 d_X8_readComparison_24 rfl rfl nf_i ?_
    refine aw_aload_n (i := 0) rfl d_X8_readComparison_27 0 rfl ?_
    refine aw_iload_n (i := 1) rfl d_X8_readComparison_28 1 rfl ?_
    refine aw_Vi 11 [.int x1] [] d_X8_readComparison_29 (cV_X8_readSum (d + 53) 0 0) kc_8 (ws_11 w5) tw_741 rfl (rr0 (Nat.le_of_ble_eq_true rfl) (Nat.le_of_ble_eq_true rfl)) (Nat.le_of_ble_eq_true rfl) xs0 k (fun r10 h8 kk => ?_)
    obtain ⟨w9, k⟩ := kk
    refine aw_istore_n (i := 3) rfl [(0, .ref 11), (1, .int x1), (2, .int r3), (3, .int r10)] d_X8_readComparison_32 (Nat.le_of_ble_eq_true rfl) rfl rfl ?_
    refine aw_aload_n (i := 0) rfl d_X8_readComparison_33 0 rfl ?_
    refine aw_iload_n (i := 2) rfl d_X8_readComparison_34 2 rfl ?_
    refine aw_bipush (v := 61) d_X8_readComparison_35 ib_61 ?_
    refine aw_icmp_ne (tgt := 45) d_X8_readComparison_37 rfl (fun c11 => ?_) (fun c11 => ?_)
    · have k := k.1 c11
      refine aw_iload_n (i := 2) rfl d_X8_readComparison_45 2 rfl ?_
      refine aw_bipush (v := 60) d_X8_readComparison_46 ib_60 ?_
      refine aw_icmp_ne (tgt := 56) d_X8_readComparison_48 rfl (fun c12 => ?_) (fun c12 => ?_)
      · have k := k.1 c12
        refine aw_bipush (v := 10) d_X8_readComparison_56 ib_10 ?_
        refine aw_iconst (v := 0) d_X8_readComparison_58 ic_0 ?_
        refine aw_Vi 11 [.int 10, .int 0] [] d_X8_readComparison_59 (cV_X8_emit (d + 1) 0 0) kc_8 (ws_11 w9) tw_753 rfl (rr0 (Nat.le_of_ble_eq_true rfl) (Nat.le_of_ble_eq_true rfl)) (Nat.le_of_ble_eq_true rfl) xs0 k (fun r15 h13 kk => ?_)
        obtain ⟨w14, k⟩ := kk
        refine aw_pop d_X8_readComparison_62 rfl ?_
        refine aw_iload_n (i := 3) rfl d_X8_readComparison_63 3 rfl ?_
        obtain ⟨z16, k⟩ := k
        exact aw_zret rfl (nf_z z16).1 d_X8_readComparison_64 ⟨Nat.le_refl _, Nat.le_refl _⟩ ⟨_, rfl, k⟩
      · have k := k.2 c12
        refine aw_bipush (v := 9) d_X8_readComparison_51 ib_9 ?_
        refine aw_goto (tgt := 58) d_X8_readComparison_53 rfl ?_
        refine aw_iconst (v := 0) d_X8_readComparison_58 ic_0 ?_
        refine aw_Vi 11 [.int 9, .int 0] [] d_X8_readComparison_59 (cV_X8_emit (d + 1) 0 0) kc_8 (ws_11 w9) tw_753 rfl (rr0 (Nat.le_of_ble_eq_true rfl) (Nat.le_of_ble_eq_true rfl)) (Nat.le_of_ble_eq_true rfl) xs0 k (fun r19 h17 kk => ?_)
        obtain ⟨w18, k⟩ := kk
        refine aw_pop d_X8_readComparison_62 rfl ?_
        refine aw_iload_n (i := 3) rfl d_X8_readComparison_63 3 rfl ?_
        obtain ⟨z20, k⟩ := k
        exact aw_zret rfl (nf_z z20).1 d_X8_readComparison_64 ⟨Nat.le_refl _, Nat.le_refl _⟩ ⟨_, rfl, k⟩
    · have k := k.2 c11
      refine aw_bipush (v := 8) d_X8_readComparison_40 ib_8 ?_
      refine aw_goto (tgt := 58) d_X8_readComparison_42 rfl ?_
      refine aw_iconst (v := 0) d_X8_readComparison_58 ic_0 ?_
      refine aw_Vi 11 [.int 8, .int 0] [] d_X8_readComparison_59 (cV_X8_emit (d + 1) 0 0) kc_8 (ws_11 w9) tw_753 rfl (rr0 (Nat.le_of_ble_eq_true rfl) (Nat.le_of_ble_eq_true rfl)) (Nat.le_of_ble_eq_true rfl) xs0 k (fun r23 h21 kk => ?_)
      obtain ⟨w22, k⟩ := kk
      refine aw_pop d_X8_readComparison_62 rfl ?_
      refine aw_iload_n (i := 3) rfl d_X8_readComparison_63 3 rfl ?_
      obtain ⟨z24, k⟩ := k
      exact aw_zret rfl (nf_z z24).1 d_X8_readComparison_64 ⟨Nat.le_refl _, Nat.le_refl _⟩ ⟨_, rfl, k⟩
  · have k := k.2 c7
    refine aw_aload_n (i := 0) rfl d_X8_readComparison_12 0 rfl ?_
    refine aw_Vi 11 [] [] d_X8_readComparison_13 (cV_X8_fail (d + 0) 0 0) kc_8 (ws_11 w5) tw_715 rfl (rr0 (Nat.le_of_ble_eq_true rfl) (Nat.le_of_ble_eq_true rfl)) (Nat.le_of_ble_eq_true rfl) xs0 k (fun r27 h25 kk => ?_)
    obtain ⟨w26, k⟩ := kk
    obtain ⟨z28, k⟩ := k
    exact aw_zret rfl (nf_z z28).1 d_X8_readComparison_16 ⟨Nat.le_refl _, Nat.le_refl _⟩ ⟨_, rfl, k⟩
theorem t_X8_readUnit (d : Nat) (h : Hp_) (w : Wf h) (x1 : Int32) (K : Int32 → Hp_ → Prop) (k : Ci (m_X8_peek (d + 0) 0 0) [.ref 11] h (fun r3 h1 => Wf h1 ∧ ((r3 = 33 → (x1 < 6 → (¬ r3 = 40 → Ci (m_X8_readUnit (d + 55) 0 0) [.ref 11, .int (x1 + 1)] (h_im h1 11 2 ((h_i h1 11 2) + 1)) (fun r9 h7 => Wf h7 ∧ (Ci (m_X8_emit (d + 1) 0 0) [.ref 11, .int 2, .int 0] h7 (fun r12 h10 => Wf h10 ∧ ((r9 = 0 ∨ r9 = 1) ∧ (K r9 h10)))))) ∧ (r3 = 40 → Ci (m_X8_readCondition (d + 58) 0 0) [.ref 11, .int (x1 + 1)] (h_im h1 11 2 ((h_i h1 11 2) + 1)) (fun r16 h14 => Wf h14 ∧ ((r16 = 0 → K 0 h14) ∧ (¬ r16 = 0 → Ci (m_X8_expect (d + 1) 0 0) [.ref 11, .int 41] h14 (fun r20 h18 => Wf h18 ∧ ((r20 = 0 → K 0 h18) ∧ (¬ r20 = 0 → K 1 h18)))))))) ∧ (¬ x1 < 6 → Ci (m_X8_fail (d + 0) 0 0) [.ref 11] h1 (fun r24 h22 => Wf h22 ∧ ((r24 = 0 ∨ r24 = 1) ∧ (K r24 h22))))) ∧ (¬ r3 = 33 → (r3 = 40 → (x1 < 6 → (¬ r3 = 40 → Ci (m_X8_readUnit (d + 55) 0 0) [.ref 11, .int (x1 + 1)] (h_im h1 11 2 ((h_i h1 11 2) + 1)) (fun r31 h29 => Wf h29 ∧ (Ci (m_X8_emit (d + 1) 0 0) [.ref 11, .int 2, .int 0] h29 (fun r34 h32 => Wf h32 ∧ ((r31 = 0 ∨ r31 = 1) ∧ (K r31 h32)))))) ∧ (r3 = 40 → Ci (m_X8_readCondition (d + 58) 0 0) [.ref 11, .int (x1 + 1)] (h_im h1 11 2 ((h_i h1 11 2) + 1)) (fun r38 h36 => Wf h36 ∧ ((r38 = 0 → K 0 h36) ∧ (¬ r38 = 0 → Ci (m_X8_expect (d + 1) 0 0) [.ref 11, .int 41] h36 (fun r42 h40 => Wf h40 ∧ ((r42 = 0 → K 0 h40) ∧ (¬ r42 = 0 → K 1 h40)))))))) ∧ (¬ x1 < 6 → Ci (m_X8_fail (d + 0) 0 0) [.ref 11] h1 (fun r46 h44 => Wf h44 ∧ ((r46 = 0 ∨ r46 = 1) ∧ (K r46 h44))))) ∧ (¬ r3 = 40 → Ci (m_X8_readSum (d + 53) 0 0) [.ref 11, .int x1] h1 (fun r50 h48 => Wf h48 ∧ ((r50 = 0 → K 0 h48) ∧ (¬ r50 = 0 → Ci (m_X8_readComparison (d + 54) 0 0) [.ref 11, .int x1] h48 (fun r54 h52 => Wf h52 ∧ ((r54 = 0 → K 0 h52) ∧ (¬ r54 = 0 → K 1 h52))))))))))) : Ci (m_X8_readUnit (d + 65) 0 0) [.ref 11, .int x1] h K := by
  refine Ct.of (fun _ _ _ => trivial) pn_X8 (Nat.le_of_ble_eq_true rfl) ?_
  show AW (m_X8_readUnit (d + 65) 0 0) 0 0 0 [(0, .ref 11), (1, .int x1)] [] h (kI K)
  refine aw_aload_n (i := 0) rfl d_X8_readUnit_0 0 rfl ?_
  refine aw_Vi 11 [] [] d_X8_readUnit_1 (cV_X8_peek (d + 0) 0 0) kc_8 (ws_11 w) tw_685 rfl (rr0 (Nat.le_of_ble_eq_true rfl) (Nat.le_of_ble_eq_true rfl)) (Nat.le_of_ble_eq_true rfl) xs0 k (fun r3 h1 kk => ?_)
  obtain ⟨w2, k⟩ := kk
  refine aw_istore_n (i := 2) rfl [(0, .ref 11), (1, .int x1), (2, .int r3)] d_X8_readUnit_4 (Nat.le_of_ble_eq_true rfl) rfl rfl ?_
  refine aw_iload_n (i := 2) rfl d_X8_readUnit_5 2 rfl ?_
  refine aw_bipush (v := 33) d_X8_readUnit_6 ib_33 ?_
  refine aw_icmp_eq (tgt := 39) d_X8_readUnit_8 rfl (fun c4 => ?_) (fun c4 => ?_)
  · have k := k.1 c4
    refine aw_iload_n (i := 1) rfl d_X8_readUnit_39 1 rfl ?_
    refine aw_bipush (v := 6) d_X8_readUnit_40 ib_6 ?_
    refine aw_icmp_lt (tgt := 50) d_X8_readUnit_42 rfl (fun c5 => ?_) (fun c5 => ?_)
    · have k := k.1 c5
      refine aw_aload_n (i := 0) rfl d_X8_readUnit_50 0 rfl ?_
      refine aw_dup d_X8_readUnit_51 rfl ?_
      refine aw_geti (k0 := 2) kc_8 (ws_11 w2) (Nat.le_of_ble_eq_true rfl) tw_62 d_X8_readUnit_52 rfl ?_
      refine aw_iconst (v := 1) d_X8_readUnit_55 ic_1 ?_
      refine aw_iadd d_X8_readUnit_56 ?_
      refine aw_puti (k0 := 2) kc_8 (ws_11 w2) (Nat.le_of_ble_eq_true rfl) tw_62 d_X8_readUnit_57 rfl rfl nf_i ?_
      refine aw_iload_n (i := 2) rfl d_X8_readUnit_60 2 rfl ?_
      refine aw_bipush (v := 40) d_X8_readUnit_61 ib_40 ?_
      refine aw_icmp_ne (tgt := 91) d_X8_readUnit_63 rfl (fun c6 => ?_) (fun c6 => ?_)
      · have k := k.1 c6
        refine aw_aload_n (i := 0) rfl d_X8_readUnit_91 0 rfl ?_
        refine aw_iload_n (i := 1) rfl d_X8_readUnit_92 1 rfl ?_
        refine aw_iconst (v := 1) d_X8_readUnit_93 ic_1 ?_
        refine aw_iadd d_X8_readUnit_94 ?_
        refine aw_Vi 11 [.int (x1 + 1)] [] d_X8_readUnit_95 (cV_X8_readUnit (d + 55) 0 0) kc_8 (ws_11 w2) tw_737 rfl (rr0 (Nat.le_of_ble_eq_true rfl) (Nat.le_of_ble_eq_true rfl)) (Nat.le_of_ble_eq_true rfl) xs0 k (fun r9 h7 kk => ?_)
        obtain ⟨w8, k⟩ := kk
        refine aw_istore_n (i := 3) rfl [(0, .ref 11), (1, .int x1), (2, .int r3), (3, .int r9)] d_X8_readUnit_98 (Nat.le_of_ble_eq_true rfl) rfl rfl ?_
        refine aw_aload_n (i := 0) rfl d_X8_readUnit_99 0 rfl ?_
        refine aw_iconst (v := 2) d_X8_readUnit_100 ic_2 ?_
        refine aw_iconst (v := 0) d_X8_readUnit_101 ic_0 ?_
        refine aw_Vi 11 [.int 2, .int 0] [] d_X8_readUnit_102 (cV_X8_emit (d + 1) 0 0) kc_8 (ws_11 w8) tw_753 rfl (rr0 (Nat.le_of_ble_eq_true rfl) (Nat.le_of_ble_eq_true rfl)) (Nat.le_of_ble_eq_true rfl) xs0 k (fun r12 h10 kk => ?_)
        obtain ⟨w11, k⟩ := kk
        refine aw_pop d_X8_readUnit_105 rfl ?_
        refine aw_iload_n (i := 3) rfl d_X8_readUnit_106 3 rfl ?_
        obtain ⟨z13, k⟩ := k
        exact aw_zret rfl (nf_z z13).1 d_X8_readUnit_107 ⟨Nat.le_refl _, Nat.le_refl _⟩ ⟨_, rfl, k⟩
      · have k := k.2 c6
        refine aw_aload_n (i := 0) rfl d_X8_readUnit_66 0 rfl ?_
        refine aw_iload_n (i := 1) rfl d_X8_readUnit_67 1 rfl ?_
        refine aw_iconst (v := 1) d_X8_readUnit_68 ic_1 ?_
        refine aw_iadd d_X8_readUnit_69 ?_
        refine aw_Vi 11 [.int (x1 + 1)] [] d_X8_readUnit_70 (cV_X8_readCondition (d + 58) 0 0) kc_8 (ws_11 w2) tw_733 rfl (rr0 (Nat.le_of_ble_eq_true rfl) (Nat.le_of_ble_eq_true rfl)) (Nat.le_of_ble_eq_true rfl) xs0 k (fun r16 h14 kk => ?_)
        obtain ⟨w15, k⟩ := kk
        refine aw_if_eq (tgt := 89) d_X8_readUnit_73 rfl (fun c17 => ?_) (fun c17 => ?_)
        · have k := k.1 c17
          refine aw_iconst (v := 0) d_X8_readUnit_89 ic_0 ?_
          exact aw_zret rfl rfl d_X8_readUnit_90 ⟨Nat.le_refl _, Nat.le_refl _⟩ ⟨_, rfl, k⟩
        · have k := k.2 c17
          refine aw_aload_n (i := 0) rfl d_X8_readUnit_76 0 rfl ?_
          refine aw_bipush (v := 41) d_X8_readUnit_77 ib_41 ?_
          refine aw_Vi 11 [.int 41] [] d_X8_readUnit_79 (cV_X8_expect (d + 1) 0 0) kc_8 (ws_11 w15) tw_719 rfl (rr0 (Nat.le_of_ble_eq_true rfl) (Nat.le_of_ble_eq_true rfl)) (Nat.le_of_ble_eq_true rfl) xs0 k (fun r20 h18 kk => ?_)
          obtain ⟨w19, k⟩ := kk
          refine aw_if_eq (tgt := 89) d_X8_readUnit_82 rfl (fun c21 => ?_) (fun c21 => ?_)
          · have k := k.1 c21
            refine aw_iconst (v := 0) d_X8_readUnit_89 ic_0 ?_
            exact aw_zret rfl rfl d_X8_readUnit_90 ⟨Nat.le_refl _, Nat.le_refl _⟩ ⟨_, rfl, k⟩
          · have k := k.2 c21
            refine aw_iconst (v := 1) d_X8_readUnit_85 ic_1 ?_
            refine aw_goto (tgt := 90) d_X8_readUnit_86 rfl ?_
            exact aw_zret rfl rfl d_X8_readUnit_90 ⟨Nat.le_refl _, Nat.le_refl _⟩ ⟨_, rfl, k⟩
    · have k := k.2 c5
      refine aw_aload_n (i := 0) rfl d_X8_readUnit_45 0 rfl ?_
      refine aw_Vi 11 [] [] d_X8_readUnit_46 (cV_X8_fail (d + 0) 0 0) kc_8 (ws_11 w2) tw_715 rfl (rr0 (Nat.le_of_ble_eq_true rfl) (Nat.le_of_ble_eq_true rfl)) (Nat.le_of_ble_eq_true rfl) xs0 k (fun r24 h22 kk => ?_)
      obtain ⟨w23, k⟩ := kk
      obtain ⟨z25, k⟩ := k
      exact aw_zret rfl (nf_z z25).1 d_X8_readUnit_49 ⟨Nat.le_refl _, Nat.le_refl _⟩ ⟨_, rfl, k⟩
  · have k := k.2 c4
    refine aw_iload_n (i := 2) rfl d_X8_readUnit_11 2 rfl ?_
    refine aw_bipush (v := 40) d_X8_readUnit_12 ib_40 ?_
    refine aw_icmp_eq (tgt := 39) d_X8_readUnit_14 rfl (fun c26 => ?_) (fun c26 => ?_)
    · have k := k.1 c26
      refine aw_iload_n (i := 1) rfl d_X8_readUnit_39 1 rfl ?_
      refine aw_bipush (v := 6) d_X8_readUnit_40 ib_6 ?_
      refine aw_icmp_lt (tgt := 50) d_X8_readUnit_42 rfl (fun c27 => ?_) (fun c27 => ?_)
      · have k := k.1 c27
        refine aw_aload_n (i := 0) rfl d_X8_readUnit_50 0 rfl ?_
        refine aw_dup d_X8_readUnit_51 rfl ?_
        refine aw_geti (k0 := 2) kc_8 (ws_11 w2) (Nat.le_of_ble_eq_true rfl) tw_62 d_X8_readUnit_52 rfl ?_
        refine aw_iconst (v := 1) d_X8_readUnit_55 ic_1 ?_
        refine aw_iadd d_X8_readUnit_56 ?_
        refine aw_puti (k0 := 2) kc_8 (ws_11 w2) (Nat.le_of_ble_eq_true rfl) tw_62 d_X8_readUnit_57 rfl rfl nf_i ?_
        refine aw_iload_n (i := 2) rfl d_X8_readUnit_60 2 rfl ?_
        refine aw_bipush (v := 40) d_X8_readUnit_61 ib_40 ?_
        refine aw_icmp_ne (tgt := 91) d_X8_readUnit_63 rfl (fun c28 => ?_) (fun c28 => ?_)
        · have k := k.1 c28
          refine aw_aload_n (i := 0) rfl d_X8_readUnit_91 0 rfl ?_
          refine aw_iload_n (i := 1) rfl d_X8_readUnit_92 1 rfl ?_
          refine aw_iconst (v := 1) d_X8_readUnit_93 ic_1 ?_
          refine aw_iadd d_X8_readUnit_94 ?_
          refine aw_Vi 11 [.int (x1 + 1)] [] d_X8_readUnit_95 (cV_X8_readUnit (d + 55) 0 0) kc_8 (ws_11 w2) tw_737 rfl (rr0 (Nat.le_of_ble_eq_true rfl) (Nat.le_of_ble_eq_true rfl)) (Nat.le_of_ble_eq_true rfl) xs0 k (fun r31 h29 kk => ?_)
          obtain ⟨w30, k⟩ := kk
          refine aw_istore_n (i := 3) rfl [(0, .ref 11), (1, .int x1), (2, .int r3), (3, .int r31)] d_X8_readUnit_98 (Nat.le_of_ble_eq_true rfl) rfl rfl ?_
          refine aw_aload_n (i := 0) rfl d_X8_readUnit_99 0 rfl ?_
          refine aw_iconst (v := 2) d_X8_readUnit_100 ic_2 ?_
          refine aw_iconst (v := 0) d_X8_readUnit_101 ic_0 ?_
          refine aw_Vi 11 [.int 2, .int 0] [] d_X8_readUnit_102 (cV_X8_emit (d + 1) 0 0) kc_8 (ws_11 w30) tw_753 rfl (rr0 (Nat.le_of_ble_eq_true rfl) (Nat.le_of_ble_eq_true rfl)) (Nat.le_of_ble_eq_true rfl) xs0 k (fun r34 h32 kk => ?_)
          obtain ⟨w33, k⟩ := kk
          refine aw_pop d_X8_readUnit_105 rfl ?_
          refine aw_iload_n (i := 3) rfl d_X8_readUnit_106 3 rfl ?_
          obtain ⟨z35, k⟩ := k
          exact aw_zret rfl (nf_z z35).1 d_X8_readUnit_107 ⟨Nat.le_refl _, Nat.le_refl _⟩ ⟨_, rfl, k⟩
        · have k := k.2 c28
          refine aw_aload_n (i := 0) rfl d_X8_readUnit_66 0 rfl ?_
          refine aw_iload_n (i := 1) rfl d_X8_readUnit_67 1 rfl ?_
          refine aw_iconst (v := 1) d_X8_readUnit_68 ic_1 ?_
          refine aw_iadd d_X8_readUnit_69 ?_
          refine aw_Vi 11 [.int (x1 + 1)] [] d_X8_readUnit_70 (cV_X8_readCondition (d + 58) 0 0) kc_8 (ws_11 w2) tw_733 rfl (rr0 (Nat.le_of_ble_eq_true rfl) (Nat.le_of_ble_eq_true rfl)) (Nat.le_of_ble_eq_true rfl) xs0 k (fun r38 h36 kk => ?_)
          obtain ⟨w37, k⟩ := kk
          refine aw_if_eq (tgt := 89) d_X8_readUnit_73 rfl (fun c39 => ?_) (fun c39 => ?_)
          · have k := k.1 c39
            refine aw_iconst (v := 0) d_X8_readUnit_89 ic_0 ?_
            exact aw_zret rfl rfl d_X8_readUnit_90 ⟨Nat.le_refl _, Nat.le_refl _⟩ ⟨_, rfl, k⟩
          · have k := k.2 c39
            refine aw_aload_n (i := 0) rfl d_X8_readUnit_76 0 rfl ?_
            refine aw_bipush (v := 41) d_X8_readUnit_77 ib_41 ?_
            refine aw_Vi 11 [.int 41] [] d_X8_readUnit_79 (cV_X8_expect (d + 1) 0 0) kc_8 (ws_11 w37) tw_719 rfl (rr0 (Nat.le_of_ble_eq_true rfl) (Nat.le_of_ble_eq_true rfl)) (Nat.le_of_ble_eq_true rfl) xs0 k (fun r42 h40 kk => ?_)
            obtain ⟨w41, k⟩ := kk
            refine aw_if_eq (tgt := 89) d_X8_readUnit_82 rfl (fun c43 => ?_) (fun c43 => ?_)
            · have k := k.1 c43
              refine aw_iconst (v := 0) d_X8_readUnit_89 ic_0 ?_
              exact aw_zret rfl rfl d_X8_readUnit_90 ⟨Nat.le_refl _, Nat.le_refl _⟩ ⟨_, rfl, k⟩
            · have k := k.2 c43
              refine aw_iconst (v := 1) d_X8_readUnit_85 ic_1 ?_
              refine aw_goto (tgt := 90) d_X8_readUnit_86 rfl ?_
              exact aw_zret rfl rfl d_X8_readUnit_90 ⟨Nat.le_refl _, Nat.le_refl _⟩ ⟨_, rfl, k⟩
      · have k := k.2 c27
        refine aw_aload_n (i := 0) rfl d_X8_readUnit_45 0 rfl ?_
        refine aw_Vi 11 [] [] d_X8_readUnit_46 (cV_X8_fail (d + 0) 0 0) kc_8 (ws_11 w2) tw_715 rfl (rr0 (Nat.le_of_ble_eq_true rfl) (Nat.le_of_ble_eq_true rfl)) (Nat.le_of_ble_eq_true rfl) xs0 k (fun r46 h44 kk => ?_)
        obtain ⟨w45, k⟩ := kk
        obtain ⟨z47, k⟩ := k
        exact aw_zret rfl (nf_z z47).1 d_X8_readUnit_49 ⟨Nat.le_refl _, Nat.le_refl _⟩ ⟨_, rfl, k⟩
    · have k := k.2 c26
      refine aw_aload_n (i := 0) rfl d_X8_readUnit_17 0 rfl ?_
      refine aw_iload_n (i := 1) rfl d_X8_readUnit_18 1 rfl ?_
      refine aw_Vi 11 [.int x1] [] d_X8_readUnit_19 (cV_X8_readSum (d + 53) 0 0) kc_8 (ws_11 w2) tw_741 rfl (rr0 (Nat.le_of_ble_eq_true rfl) (Nat.le_of_ble_eq_true rfl)) (Nat.le_of_ble_eq_true rfl) xs0 k (fun r50 h48 kk => ?_)
      obtain ⟨w49, k⟩ := kk
      refine aw_if_eq (tgt := 37) d_X8_readUnit_22 rfl (fun c51 => ?_) (fun c51 => ?_)
      · have k := k.1 c51
        refine aw_iconst (v := 0) d_X8_readUnit_37 ic_0 ?_
        exact aw_zret rfl rfl d_X8_readUnit_38 ⟨Nat.le_refl _, Nat.le_refl _⟩ ⟨_, rfl, k⟩
      · have k := k.2 c51
        refine aw_aload_n (i := 0) rfl d_X8_readUnit_25 0 rfl ?_
        refine aw_iload_n (i := 1) rfl d_X8_readUnit_26 1 rfl ?_
        refine aw_Vi 11 [.int x1] [] d_X8_readUnit_27 (cV_X8_readComparison (d + 54) 0 0) kc_8 (ws_11 w49) tw_844 rfl (rr0 (Nat.le_of_ble_eq_true rfl) (Nat.le_of_ble_eq_true rfl)) (Nat.le_of_ble_eq_true rfl) xs0 k (fun r54 h52 kk => ?_)
        obtain ⟨w53, k⟩ := kk
        refine aw_if_eq (tgt := 37) d_X8_readUnit_30 rfl (fun c55 => ?_) (fun c55 => ?_)
        · have k := k.1 c55
          refine aw_iconst (v := 0) d_X8_readUnit_37 ic_0 ?_
          exact aw_zret rfl rfl d_X8_readUnit_38 ⟨Nat.le_refl _, Nat.le_refl _⟩ ⟨_, rfl, k⟩
        · have k := k.2 c55
          refine aw_iconst (v := 1) d_X8_readUnit_33 ic_1 ?_
          refine aw_goto (tgt := 38) d_X8_readUnit_34 rfl ?_
          exact aw_zret rfl rfl d_X8_readUnit_38 ⟨Nat.le_refl _, Nat.le_refl _⟩ ⟨_, rfl, k⟩
theorem t_X8_readMoreUnits (d : Nat) (h : Hp_) (x1 : Int32) (K : Int32 → Hp_ → Prop) (k : AW (m_X8_readMoreUnits (d + 56) 0 0) 0 0 4 [(0, .ref 11), (1, .int x1), (2, .int 1), (3, .int 0)] [] h (kI K)) : Ci (m_X8_readMoreUnits (d + 56) 0 0) [.ref 11, .int x1] h K := by
  refine Ct.of (fun _ _ _ => trivial) pn_X8 (Nat.le_of_ble_eq_true rfl) ?_
  show AW (m_X8_readMoreUnits (d + 56) 0 0) 0 0 0 [(0, .ref 11), (1, .int x1)] [] h (kI K)
  refine aw_iconst (v := 1) d_X8_readMoreUnits_0 ic_1 ?_
  refine aw_istore_n (i := 2) rfl [(0, .ref 11), (1, .int x1), (2, .int 1)] d_X8_readMoreUnits_1 (Nat.le_of_ble_eq_true rfl) rfl rfl ?_
  refine aw_iconst (v := 0) d_X8_readMoreUnits_2 ic_0 ?_
  refine aw_istore_n (i := 3) rfl [(0, .ref 11), (1, .int x1), (2, .int 1), (3, .int 0)] d_X8_readMoreUnits_3 (Nat.le_of_ble_eq_true rfl) rfl rfl ?_
  exact k
theorem t_X8_readMoreUnits_4 (d : Nat) (h : Hp_) (w : Wf h) (x1 : Int32) (x2 : Int32) (x3 : Int32) (K : Int32 → Hp_ → Prop) (k : (160 ≤ x3 → (x2 = 0 ∨ x2 = 1) ∧ (K x2 h)) ∧ (¬ 160 ≤ x3 → (x2 = 0 → (x2 = 0 ∨ x2 = 1) ∧ (K x2 h)) ∧ (¬ x2 = 0 → Ci (m_X8_peek (d + 0) 0 0) [.ref 11] h (fun r7 h5 => Wf h5 ∧ ((¬ r7 = 38 → (x2 = 0 ∨ x2 = 1) ∧ (K x2 h5)) ∧ (r7 = 38 → Ci (m_X8_readUnit (d + 55) 0 0) [.ref 11, .int x1] (h_im h5 11 2 ((h_i h5 11 2) + 1)) (fun r12 h10 => Wf h10 ∧ (Ci (m_X8_emit (d + 1) 0 0) [.ref 11, .int 11, .int 0] h10 (fun r15 h13 => Wf h13 ∧ (AW (m_X8_readMoreUnits (d + 56) 0 0) 0 0 4 [(0, .ref 11), (1, .int x1), (2, .int r12), (3, .int (x3 + 1))] [] h13 (kI K))))))))))) : AW (m_X8_readMoreUnits (d + 56) 0 0) 0 0 4 [(0, .ref 11), (1, .int x1), (2, .int x2), (3, .int x3)] [] h (kI K) := by
  refine aw_iload_n (i := 3) rfl d_X8_readMoreUnits_4 3 rfl ?_
  refine aw_sipush (v := 160) d_X8_readMoreUnits_5 is_160 ?_
  refine aw_icmp_ge (tgt := 54) d_X8_readMoreUnits_8 rfl (fun c1 => ?_) (fun c1 => ?_)
  · have k := k.1 c1
    refine aw_iload_n (i := 2) rfl d_X8_readMoreUnits_54 2 rfl ?_
    obtain ⟨z2, k⟩ := k
    exact aw_zret rfl (nf_z z2).1 d_X8_readMoreUnits_55 ⟨Nat.le_refl _, Nat.le_refl _⟩ ⟨_, rfl, k⟩
  · have k := k.2 c1
    refine aw_iload_n (i := 2) rfl d_X8_readMoreUnits_11 2 rfl ?_
    refine aw_if_eq (tgt := 54) d_X8_readMoreUnits_12 rfl (fun c3 => ?_) (fun c3 => ?_)
    · have k := k.1 c3
      refine aw_iload_n (i := 2) rfl d_X8_readMoreUnits_54 2 rfl ?_
      obtain ⟨z4, k⟩ := k
      exact aw_zret rfl (nf_z z4).1 d_X8_readMoreUnits_55 ⟨Nat.le_refl _, Nat.le_refl _⟩ ⟨_, rfl, k⟩
    · have k := k.2 c3
      refine aw_aload_n (i := 0) rfl d_X8_readMoreUnits_15 0 rfl ?_
      refine aw_Vi 11 [] [] d_X8_readMoreUnits_16 (cV_X8_peek (d + 0) 0 0) kc_8 (ws_11 w) tw_685 rfl (rr0 (Nat.le_of_ble_eq_true rfl) (Nat.le_of_ble_eq_true rfl)) (Nat.le_of_ble_eq_true rfl) xs0 k (fun r7 h5 kk => ?_)
      obtain ⟨w6, k⟩ := kk
      refine aw_bipush (v := 38) d_X8_readMoreUnits_19 ib_38 ?_
      refine aw_icmp_ne (tgt := 54) d_X8_readMoreUnits_21 rfl (fun c8 => ?_) (fun c8 => ?_)
      · have k := k.1 c8
        refine aw_iload_n (i := 2) rfl d_X8_readMoreUnits_54 2 rfl ?_
        obtain ⟨z9, k⟩ := k
        exact aw_zret rfl (nf_z z9).1 d_X8_readMoreUnits_55 ⟨Nat.le_refl _, Nat.le_refl _⟩ ⟨_, rfl, k⟩
      · have k := k.2 c8
        refine aw_aload_n (i := 0) rfl d_X8_readMoreUnits_24 0 rfl ?_
        refine aw_dup d_X8_readMoreUnits_25 rfl ?_
        refine aw_geti (k0 := 2) kc_8 (ws_11 w6) (Nat.le_of_ble_eq_true rfl) tw_62 d_X8_readMoreUnits_26 rfl ?_
        refine aw_iconst (v := 1) d_X8_readMoreUnits_29 ic_1 ?_
        refine aw_iadd d_X8_readMoreUnits_30 ?_
        refine aw_puti (k0 := 2) kc_8 (ws_11 w6) (Nat.le_of_ble_eq_true rfl) tw_62 d_X8_readMoreUnits_31 rfl rfl nf_i ?_
        refine aw_aload_n (i := 0) rfl d_X8_readMoreUnits_34 0 rfl ?_
        refine aw_iload_n (i := 1) rfl d_X8_readMoreUnits_35 1 rfl ?_
        refine aw_Vi 11 [.int x1] [] d_X8_readMoreUnits_36 (cV_X8_readUnit (d + 55) 0 0) kc_8 (ws_11 w6) tw_737 rfl (rr0 (Nat.le_of_ble_eq_true rfl) (Nat.le_of_ble_eq_true rfl)) (Nat.le_of_ble_eq_true rfl) xs0 k (fun r12 h10 kk => ?_)
        obtain ⟨w11, k⟩ := kk
        refine aw_istore_n (i := 2) rfl [(0, .ref 11), (1, .int x1), (2, .int r12), (3, .int x3)] d_X8_readMoreUnits_39 (Nat.le_of_ble_eq_true rfl) rfl rfl ?_
        refine aw_aload_n (i := 0) rfl d_X8_readMoreUnits_40 0 rfl ?_
        refine aw_bipush (v := 11) d_X8_readMoreUnits_41 ib_11 ?_
        refine aw_iconst (v := 0) d_X8_readMoreUnits_43 ic_0 ?_
        refine aw_Vi 11 [.int 11, .int 0] [] d_X8_readMoreUnits_44 (cV_X8_emit (d + 1) 0 0) kc_8 (ws_11 w11) tw_753 rfl (rr0 (Nat.le_of_ble_eq_true rfl) (Nat.le_of_ble_eq_true rfl)) (Nat.le_of_ble_eq_true rfl) xs0 k (fun r15 h13 kk => ?_)
        obtain ⟨w14, k⟩ := kk
        refine aw_pop d_X8_readMoreUnits_47 rfl ?_
        refine aw_iinc (v := (x3 + 1)) [(0, .ref 11), (1, .int x1), (2, .int r12), (3, .int (x3 + 1))] d_X8_readMoreUnits_48 3 rfl rfl (Nat.le_of_ble_eq_true rfl) rfl rfl ?_
        refine aw_goto (tgt := 4) d_X8_readMoreUnits_51 rfl ?_
        exact k
theorem t_X8_readMoreParts (d : Nat) (h : Hp_) (w : Wf h) (x1 : Int32) (K : Int32 → Hp_ → Prop) (k : Ci (m_X8_readMoreUnits (d + 56) 0 0) [.ref 11, .int x1] h (fun r3 h1 => Wf h1 ∧ (AW (m_X8_readMoreParts (d + 57) 0 0) 0 0 8 [(0, .ref 11), (1, .int x1), (2, .int r3), (3, .int 0)] [] h1 (kI K)))) : Ci (m_X8_readMoreParts (d + 57) 0 0) [.ref 11, .int x1] h K := by
  refine Ct.of (fun _ _ _ => trivial) pn_X8 (Nat.le_of_ble_eq_true rfl) ?_
  show AW (m_X8_readMoreParts (d + 57) 0 0) 0 0 0 [(0, .ref 11), (1, .int x1)] [] h (kI K)
  refine aw_aload_n (i := 0) rfl d_X8_readMoreParts_0 0 rfl ?_
  refine aw_iload_n (i := 1) rfl d_X8_readMoreParts_1 1 rfl ?_
  refine aw_Vi 11 [.int x1] [] d_X8_readMoreParts_2 (cV_X8_readMoreUnits (d + 56) 0 0) kc_8 (ws_11 w) tw_855 rfl (rr0 (Nat.le_of_ble_eq_true rfl) (Nat.le_of_ble_eq_true rfl)) (Nat.le_of_ble_eq_true rfl) xs0 k (fun r3 h1 kk => ?_)
  obtain ⟨w2, k⟩ := kk
  refine aw_istore_n (i := 2) rfl [(0, .ref 11), (1, .int x1), (2, .int r3)] d_X8_readMoreParts_5 (Nat.le_of_ble_eq_true rfl) rfl rfl ?_
  refine aw_iconst (v := 0) d_X8_readMoreParts_6 ic_0 ?_
  refine aw_istore_n (i := 3) rfl [(0, .ref 11), (1, .int x1), (2, .int r3), (3, .int 0)] d_X8_readMoreParts_7 (Nat.le_of_ble_eq_true rfl) rfl rfl ?_
  exact k
theorem t_X8_readMoreParts_8 (d : Nat) (h : Hp_) (w : Wf h) (x1 : Int32) (x2 : Int32) (x3 : Int32) (K : Int32 → Hp_ → Prop) (k : (160 ≤ x3 → (x2 = 0 ∨ x2 = 1) ∧ (K x2 h)) ∧ (¬ 160 ≤ x3 → (x2 = 0 → (x2 = 0 ∨ x2 = 1) ∧ (K x2 h)) ∧ (¬ x2 = 0 → Ci (m_X8_peek (d + 0) 0 0) [.ref 11] h (fun r10 h8 => Wf h8 ∧ ((¬ r10 = 124 → (x2 = 0 ∨ x2 = 1) ∧ (K x2 h8)) ∧ (r10 = 124 → Ci (m_X8_readUnit (d + 55) 0 0) [.ref 11, .int x1] (h_im h8 11 2 ((h_i h8 11 2) + 1)) (fun r15 h13 => Wf h13 ∧ ((r15 = 0 → Ci (m_X8_emit (d + 1) 0 0) [.ref 11, .int 12, .int 0] h13 (fun r19 h17 => Wf h17 ∧ (AW (m_X8_readMoreParts (d + 57) 0 0) 0 0 8 [(0, .ref 11), (1, .int x1), (2, .int 0), (3, .int (x3 + 1))] [] h17 (kI K)))) ∧ (¬ r15 = 0 → Ci (m_X8_readMoreUnits (d + 56) 0 0) [.ref 11, .int x1] h13 (fun r22 h20 => Wf h20 ∧ ((r22 = 0 → Ci (m_X8_emit (d + 1) 0 0) [.ref 11, .int 12, .int 0] h20 (fun r26 h24 => Wf h24 ∧ (AW (m_X8_readMoreParts (d + 57) 0 0) 0 0 8 [(0, .ref 11), (1, .int x1), (2, .int 0), (3, .int (x3 + 1))] [] h24 (kI K)))) ∧ (¬ r22 = 0 → Ci (m_X8_emit (d + 1) 0 0) [.ref 11, .int 12, .int 0] h20 (fun r29 h27 => Wf h27 ∧ (AW (m_X8_readMoreParts (d + 57) 0 0) 0 0 8 [(0, .ref 11), (1, .int x1), (2, .int 1), (3, .int (x3 + 1))] [] h27 (kI K))))))))))))))) : AW (m_X8_readMoreParts (d + 57) 0 0) 0 0 8 [(0, .ref 11), (1, .int x1), (2, .int x2), (3, .int x3)] [] h (kI K) := by
  refine aw_iload_n (i := 3) rfl d_X8_readMoreParts_8 3 rfl ?_
  refine aw_sipush (v := 160) d_X8_readMoreParts_9 is_160 ?_
  refine aw_icmp_ge (tgt := 74) d_X8_readMoreParts_12 rfl (fun c4 => ?_) (fun c4 => ?_)
  · have k := k.1 c4
    refine aw_iload_n (i := 2) rfl d_X8_readMoreParts_74 2 rfl ?_
    obtain ⟨z5, k⟩ := k
    exact aw_zret rfl (nf_z z5).1 d_X8_readMoreParts_75 ⟨Nat.le_refl _, Nat.le_refl _⟩ ⟨_, rfl, k⟩
  · have k := k.2 c4
    refine aw_iload_n (i := 2) rfl d_X8_readMoreParts_15 2 rfl ?_
    refine aw_if_eq (tgt := 74) d_X8_readMoreParts_16 rfl (fun c6 => ?_) (fun c6 => ?_)
    · have k := k.1 c6
      refine aw_iload_n (i := 2) rfl d_X8_readMoreParts_74 2 rfl ?_
      obtain ⟨z7, k⟩ := k
      exact aw_zret rfl (nf_z z7).1 d_X8_readMoreParts_75 ⟨Nat.le_refl _, Nat.le_refl _⟩ ⟨_, rfl, k⟩
    · have k := k.2 c6
      refine aw_aload_n (i := 0) rfl d_X8_readMoreParts_19 0 rfl ?_
      refine aw_Vi 11 [] [] d_X8_readMoreParts_20 (cV_X8_peek (d + 0) 0 0) kc_8 (ws_11 w) tw_685 rfl (rr0 (Nat.le_of_ble_eq_true rfl) (Nat.le_of_ble_eq_true rfl)) (Nat.le_of_ble_eq_true rfl) xs0 k (fun r10 h8 kk => ?_)
      obtain ⟨w9, k⟩ := kk
      refine aw_bipush (v := 124) d_X8_readMoreParts_23 ib_124 ?_
      refine aw_icmp_ne (tgt := 74) d_X8_readMoreParts_25 rfl (fun c11 => ?_) (fun c11 => ?_)
      · have k := k.1 c11
        refine aw_iload_n (i := 2) rfl d_X8_readMoreParts_74 2 rfl ?_
        obtain ⟨z12, k⟩ := k
        exact aw_zret rfl (nf_z z12).1 d_X8_readMoreParts_75 ⟨Nat.le_refl _, Nat.le_refl _⟩ ⟨_, rfl, k⟩
      · have k := k.2 c11
        refine aw_aload_n (i := 0) rfl d_X8_readMoreParts_28 0 rfl ?_
        refine aw_dup d_X8_readMoreParts_29 rfl ?_
        refine aw_geti (k0 := 2) kc_8 (ws_11 w9) (Nat.le_of_ble_eq_true rfl) tw_62 d_X8_readMoreParts_30 rfl ?_
        refine aw_iconst (v := 1) d_X8_readMoreParts_33 ic_1 ?_
        refine aw_iadd d_X8_readMoreParts_34 ?_
        refine aw_puti (k0 := 2) kc_8 (ws_11 w9) (Nat.le_of_ble_eq_true rfl) tw_62 d_X8_readMoreParts_35 rfl rfl nf_i ?_
        refine aw_aload_n (i := 0) rfl d_X8_readMoreParts_38 0 rfl ?_
        refine aw_iload_n (i := 1) rfl d_X8_readMoreParts_39 1 rfl ?_
        refine aw_Vi 11 [.int x1] [] d_X8_readMoreParts_40 (cV_X8_readUnit (d + 55) 0 0) kc_8 (ws_11 w9) tw_737 rfl (rr0 (Nat.le_of_ble_eq_true rfl) (Nat.le_of_ble_eq_true rfl)) (Nat.le_of_ble_eq_true rfl) xs0 k (fun r15 h13 kk => ?_)
        obtain ⟨w14, k⟩ := kk
        refine aw_if_eq (tgt := 58) d_X8_readMoreParts_43 rfl (fun c16 => ?_) (fun c16 => ?_)
        · have k := k.1 c16
          refine aw_iconst (v := 0) d_X8_readMoreParts_58 ic_0 ?_
          refine aw_istore_n (i := 2) rfl [(0, .ref 11), (1, .int x1), (2, .int 0), (3, .int x3)] d_X8_readMoreParts_59 (Nat.le_of_ble_eq_true rfl) rfl rfl ?_
          refine aw_aload_n (i := 0) rfl d_X8_readMoreParts_60 0 rfl ?_
          refine aw_bipush (v := 12) d_X8_readMoreParts_61 ib_12 ?_
          refine aw_iconst (v := 0) d_X8_readMoreParts_63 ic_0 ?_
          refine aw_Vi 11 [.int 12, .int 0] [] d_X8_readMoreParts_64 (cV_X8_emit (d + 1) 0 0) kc_8 (ws_11 w14) tw_753 rfl (rr0 (Nat.le_of_ble_eq_true rfl) (Nat.le_of_ble_eq_true rfl)) (Nat.le_of_ble_eq_true rfl) xs0 k (fun r19 h17 kk => ?_)
          obtain ⟨w18, k⟩ := kk
          refine aw_pop d_X8_readMoreParts_67 rfl ?_
          refine aw_iinc (v := (x3 + 1)) [(0, .ref 11), (1, .int x1), (2, .int 0), (3, .int (x3 + 1))] d_X8_readMoreParts_68 3 rfl rfl (Nat.le_of_ble_eq_true rfl) rfl rfl ?_
          refine aw_goto (tgt := 8) d_X8_readMoreParts_71 rfl ?_
          exact k
        · have k := k.2 c16
          refine aw_aload_n (i := 0) rfl d_X8_readMoreParts_46 0 rfl ?_
          refine aw_iload_n (i := 1) rfl d_X8_readMoreParts_47 1 rfl ?_
          refine aw_Vi 11 [.int x1] [] d_X8_readMoreParts_48 (cV_X8_readMoreUnits (d + 56) 0 0) kc_8 (ws_11 w14) tw_855 rfl (rr0 (Nat.le_of_ble_eq_true rfl) (Nat.le_of_ble_eq_true rfl)) (Nat.le_of_ble_eq_true rfl) xs0 k (fun r22 h20 kk => ?_)
          obtain ⟨w21, k⟩ := kk
          refine aw_if_eq (tgt := 58) d_X8_readMoreParts_51 rfl (fun c23 => ?_) (fun c23 => ?_)
          · have k := k.1 c23
            refine aw_iconst (v := 0) d_X8_readMoreParts_58 ic_0 ?_
            refine aw_istore_n (i := 2) rfl [(0, .ref 11), (1, .int x1), (2, .int 0), (3, .int x3)] d_X8_readMoreParts_59 (Nat.le_of_ble_eq_true rfl) rfl rfl ?_
            refine aw_aload_n (i := 0) rfl d_X8_readMoreParts_60 0 rfl ?_
            refine aw_bipush (v := 12) d_X8_readMoreParts_61 ib_12 ?_
            refine aw_iconst (v := 0) d_X8_readMoreParts_63 ic_0 ?_
            refine aw_Vi 11 [.int 12, .int 0] [] d_X8_readMoreParts_64 (cV_X8_emit (d + 1) 0 0) kc_8 (ws_11 w21) tw_753 rfl (rr0 (Nat.le_of_ble_eq_true rfl) (Nat.le_of_ble_eq_true rfl)) (Nat.le_of_ble_eq_true rfl) xs0 k (fun r26 h24 kk => ?_)
            obtain ⟨w25, k⟩ := kk
            refine aw_pop d_X8_readMoreParts_67 rfl ?_
            refine aw_iinc (v := (x3 + 1)) [(0, .ref 11), (1, .int x1), (2, .int 0), (3, .int (x3 + 1))] d_X8_readMoreParts_68 3 rfl rfl (Nat.le_of_ble_eq_true rfl) rfl rfl ?_
            refine aw_goto (tgt := 8) d_X8_readMoreParts_71 rfl ?_
            exact k
          · have k := k.2 c23
            refine aw_iconst (v := 1) d_X8_readMoreParts_54 ic_1 ?_
            refine aw_goto (tgt := 59) d_X8_readMoreParts_55 rfl ?_
            refine aw_istore_n (i := 2) rfl [(0, .ref 11), (1, .int x1), (2, .int 1), (3, .int x3)] d_X8_readMoreParts_59 (Nat.le_of_ble_eq_true rfl) rfl rfl ?_
            refine aw_aload_n (i := 0) rfl d_X8_readMoreParts_60 0 rfl ?_
            refine aw_bipush (v := 12) d_X8_readMoreParts_61 ib_12 ?_
            refine aw_iconst (v := 0) d_X8_readMoreParts_63 ic_0 ?_
            refine aw_Vi 11 [.int 12, .int 0] [] d_X8_readMoreParts_64 (cV_X8_emit (d + 1) 0 0) kc_8 (ws_11 w21) tw_753 rfl (rr0 (Nat.le_of_ble_eq_true rfl) (Nat.le_of_ble_eq_true rfl)) (Nat.le_of_ble_eq_true rfl) xs0 k (fun r29 h27 kk => ?_)
            obtain ⟨w28, k⟩ := kk
            refine aw_pop d_X8_readMoreParts_67 rfl ?_
            refine aw_iinc (v := (x3 + 1)) [(0, .ref 11), (1, .int x1), (2, .int 1), (3, .int (x3 + 1))] d_X8_readMoreParts_68 3 rfl rfl (Nat.le_of_ble_eq_true rfl) rfl rfl ?_
            refine aw_goto (tgt := 8) d_X8_readMoreParts_71 rfl ?_
            exact k
theorem t_X8_readCondition (d : Nat) (h : Hp_) (w : Wf h) (x1 : Int32) (K : Int32 → Hp_ → Prop) (k : Ci (m_X8_readUnit (d + 55) 0 0) [.ref 11, .int x1] h (fun r3 h1 => Wf h1 ∧ ((r3 = 0 → K 0 h1) ∧ (¬ r3 = 0 → Ci (m_X8_readMoreParts (d + 57) 0 0) [.ref 11, .int x1] h1 (fun r7 h5 => Wf h5 ∧ ((r7 = 0 → K 0 h5) ∧ (¬ r7 = 0 → K 1 h5))))))) : Ci (m_X8_readCondition (d + 58) 0 0) [.ref 11, .int x1] h K := by
  refine Ct.of (fun _ _ _ => trivial) pn_X8 (Nat.le_of_ble_eq_true rfl) ?_
  show AW (m_X8_readCondition (d + 58) 0 0) 0 0 0 [(0, .ref 11), (1, .int x1)] [] h (kI K)
  refine aw_aload_n (i := 0) rfl d_X8_readCondition_0 0 rfl ?_
  refine aw_iload_n (i := 1) rfl d_X8_readCondition_1 1 rfl ?_
  refine aw_Vi 11 [.int x1] [] d_X8_readCondition_2 (cV_X8_readUnit (d + 55) 0 0) kc_8 (ws_11 w) tw_737 rfl (rr0 (Nat.le_of_ble_eq_true rfl) (Nat.le_of_ble_eq_true rfl)) (Nat.le_of_ble_eq_true rfl) xs0 k (fun r3 h1 kk => ?_)
  obtain ⟨w2, k⟩ := kk
  refine aw_if_eq (tgt := 20) d_X8_readCondition_5 rfl (fun c4 => ?_) (fun c4 => ?_)
  · have k := k.1 c4
    refine aw_iconst (v := 0) d_X8_readCondition_20 ic_0 ?_
    exact aw_zret rfl rfl d_X8_readCondition_21 ⟨Nat.le_refl _, Nat.le_refl _⟩ ⟨_, rfl, k⟩
  · have k := k.2 c4
    refine aw_aload_n (i := 0) rfl d_X8_readCondition_8 0 rfl ?_
    refine aw_iload_n (i := 1) rfl d_X8_readCondition_9 1 rfl ?_
    refine aw_Vi 11 [.int x1] [] d_X8_readCondition_10 (cV_X8_readMoreParts (d + 57) 0 0) kc_8 (ws_11 w2) tw_851 rfl (rr0 (Nat.le_of_ble_eq_true rfl) (Nat.le_of_ble_eq_true rfl)) (Nat.le_of_ble_eq_true rfl) xs0 k (fun r7 h5 kk => ?_)
    obtain ⟨w6, k⟩ := kk
    refine aw_if_eq (tgt := 20) d_X8_readCondition_13 rfl (fun c8 => ?_) (fun c8 => ?_)
    · have k := k.1 c8
      refine aw_iconst (v := 0) d_X8_readCondition_20 ic_0 ?_
      exact aw_zret rfl rfl d_X8_readCondition_21 ⟨Nat.le_refl _, Nat.le_refl _⟩ ⟨_, rfl, k⟩
    · have k := k.2 c8
      refine aw_iconst (v := 1) d_X8_readCondition_16 ic_1 ?_
      refine aw_goto (tgt := 21) d_X8_readCondition_17 rfl ?_
      exact aw_zret rfl rfl d_X8_readCondition_21 ⟨Nat.le_refl _, Nat.le_refl _⟩ ⟨_, rfl, k⟩
theorem t_X8_readPayAnswer (d : Nat) (h : Hp_) (w : Wf h)  (K : Int32 → Hp_ → Prop) (k : Ci (m_X8_expect (d + 1) 0 0) [.ref 11, .int 63] h (fun r3 h1 => Wf h1 ∧ ((¬ r3 = 0 → Ci (m_X8_emit (d + 1) 0 0) [.ref 11, .int 3, .int 0] h1 (fun r7 h5 => Wf h5 ∧ (Ci (m_X8_readSum (d + 53) 0 0) [.ref 11, .int 0] h5 (fun r10 h8 => Wf h8 ∧ ((¬ r10 = 0 → Cv (m_X8_endClause (d + 2) 0 0) [.ref 11, .int r7] h8 (fun h12 => Wf h12 ∧ (K 1 h12))) ∧ (r10 = 0 → K 0 h8)))))) ∧ (r3 = 0 → K 0 h1)))) : Ci (m_X8_readPayAnswer (d + 54) 0 0) [.ref 11] h K := by
  refine Ct.of (fun _ _ _ => trivial) pn_X8 (Nat.le_of_ble_eq_true rfl) ?_
  show AW (m_X8_readPayAnswer (d + 54) 0 0) 0 0 0 [(0, .ref 11)] [] h (kI K)
  refine aw_aload_n (i := 0) rfl d_X8_readPayAnswer_0 0 rfl ?_
  refine aw_bipush (v := 63) d_X8_readPayAnswer_1 ib_63 ?_
  refine aw_Vi 11 [.int 63] [] d_X8_readPayAnswer_3 (cV_X8_expect (d + 1) 0 0) kc_8 (ws_11 w) tw_719 rfl (rr0 (Nat.le_of_ble_eq_true rfl) (Nat.le_of_ble_eq_true rfl)) (Nat.le_of_ble_eq_true rfl) xs0 k (fun r3 h1 kk => ?_)
  obtain ⟨w2, k⟩ := kk
  refine aw_if_ne (tgt := 11) d_X8_readPayAnswer_6 rfl (fun c4 => ?_) (fun c4 => ?_)
  · have k := k.1 c4
    refine aw_aload_n (i := 0) rfl d_X8_readPayAnswer_11 0 rfl ?_
    refine aw_iconst (v := 3) d_X8_readPayAnswer_12 ic_3 ?_
    refine aw_iconst (v := 0) d_X8_readPayAnswer_13 ic_0 ?_
    refine aw_Vi 11 [.int 3, .int 0] [] d_X8_readPayAnswer_14 (cV_X8_emit (d + 1) 0 0) kc_8 (ws_11 w2) tw_753 rfl (rr0 (Nat.le_of_ble_eq_true rfl) (Nat.le_of_ble_eq_true rfl)) (Nat.le_of_ble_eq_true rfl) xs0 k (fun r7 h5 kk => ?_)
    obtain ⟨w6, k⟩ := kk
    refine aw_istore_n (i := 1) rfl [(0, .ref 11), (1, .int r7)] d_X8_readPayAnswer_17 (Nat.le_of_ble_eq_true rfl) rfl rfl ?_
    refine aw_aload_n (i := 0) rfl d_X8_readPayAnswer_18 0 rfl ?_
    refine aw_iconst (v := 0) d_X8_readPayAnswer_19 ic_0 ?_
    refine aw_Vi 11 [.int 0] [] d_X8_readPayAnswer_20 (cV_X8_readSum (d + 53) 0 0) kc_8 (ws_11 w6) tw_741 rfl (rr0 (Nat.le_of_ble_eq_true rfl) (Nat.le_of_ble_eq_true rfl)) (Nat.le_of_ble_eq_true rfl) xs0 k (fun r10 h8 kk => ?_)
    obtain ⟨w9, k⟩ := kk
    refine aw_if_ne (tgt := 28) d_X8_readPayAnswer_23 rfl (fun c11 => ?_) (fun c11 => ?_)
    · have k := k.1 c11
      refine aw_aload_n (i := 0) rfl d_X8_readPayAnswer_28 0 rfl ?_
      refine aw_iload_n (i := 1) rfl d_X8_readPayAnswer_29 1 rfl ?_
      refine aw_Vv 11 [.int r7] [] d_X8_readPayAnswer_30 (cV_X8_endClause (d + 2) 0 0) kc_8 (ws_11 w9) tw_860 rfl (rr0 (Nat.le_of_ble_eq_true rfl) (Nat.le_of_ble_eq_true rfl)) (Nat.le_of_ble_eq_true rfl) xs0 k (fun h12 kk => ?_)
      obtain ⟨w13, k⟩ := kk
      refine aw_iconst (v := 1) d_X8_readPayAnswer_33 ic_1 ?_
      exact aw_zret rfl rfl d_X8_readPayAnswer_34 ⟨Nat.le_refl _, Nat.le_refl _⟩ ⟨_, rfl, k⟩
    · have k := k.2 c11
      refine aw_iconst (v := 0) d_X8_readPayAnswer_26 ic_0 ?_
      exact aw_zret rfl rfl d_X8_readPayAnswer_27 ⟨Nat.le_refl _, Nat.le_refl _⟩ ⟨_, rfl, k⟩
  · have k := k.2 c4
    refine aw_iconst (v := 0) d_X8_readPayAnswer_9 ic_0 ?_
    exact aw_zret rfl rfl d_X8_readPayAnswer_10 ⟨Nat.le_refl _, Nat.le_refl _⟩ ⟨_, rfl, k⟩
theorem t_X8_readPayClause (d : Nat) (h : Hp_) (w : Wf h)  (K : Int32 → Hp_ → Prop) (k : Ci (m_X8_peek (d + 0) 0 0) [.ref 11] h (fun r3 h1 => Wf h1 ∧ ((r3 = 33 → Ci (m_X8_readCondition (d + 58) 0 0) [.ref 11, .int 0] h1 (fun r7 h5 => Wf h5 ∧ ((r7 = 0 → K 0 h5) ∧ (¬ r7 = 0 → Ci (m_X8_readPayAnswer (d + 54) 0 0) [.ref 11] h5 (fun r11 h9 => Wf h9 ∧ ((r11 = 0 → K 0 h9) ∧ (¬ r11 = 0 → K 1 h9))))))) ∧ (¬ r3 = 33 → (¬ r3 = 40 → Ci (m_X8_readSum (d + 53) 0 0) [.ref 11, .int 0] h1 (fun r16 h14 => Wf h14 ∧ ((¬ r16 = 0 → Ci (m_X8_peek (d + 0) 0 0) [.ref 11] h14 (fun r20 h18 => Wf h18 ∧ (Ci (m_X8_isComparison (d + 0) 0 0) [.int r20] h18 (fun r23 h21 => Wf h21 ∧ ((r23 = 0 → Cv (m_X8_endClause (d + 2) 0 0) [.ref 11, .int (-1)] h21 (fun h25 => Wf h25 ∧ (K 1 h25))) ∧ (¬ r23 = 0 → Ci (m_X8_readComparison (d + 54) 0 0) [.ref 11, .int 0] h21 (fun r30 h28 => Wf h28 ∧ ((r30 = 0 → K 0 h28) ∧ (¬ r30 = 0 → Ci (m_X8_readMoreParts (d + 57) 0 0) [.ref 11, .int 0] h28 (fun r34 h32 => Wf h32 ∧ ((r34 = 0 → K 0 h32) ∧ (¬ r34 = 0 → Ci (m_X8_readPayAnswer (d + 54) 0 0) [.ref 11] h32 (fun r38 h36 => Wf h36 ∧ ((r38 = 0 → K 0 h36) ∧ (¬ r38 = 0 → K 1 h36))))))))))))))) ∧ (r16 = 0 → K 0 h14)))) ∧ (r3 = 40 → Ci (m_X8_readCondition (d + 58) 0 0) [.ref 11, .int 0] h1 (fun r42 h40 => Wf h40 ∧ ((r42 = 0 → K 0 h40) ∧ (¬ r42 = 0 → Ci (m_X8_readPayAnswer (d + 54) 0 0) [.ref 11] h40 (fun r46 h44 => Wf h44 ∧ ((r46 = 0 → K 0 h44) ∧ (¬ r46 = 0 → K 1 h44))))))))))) : Ci (m_X8_readPayClause (d + 59) 0 0) [.ref 11] h K := by
  refine Ct.of (fun _ _ _ => trivial) pn_X8 (Nat.le_of_ble_eq_true rfl) ?_
  show AW (m_X8_readPayClause (d + 59) 0 0) 0 0 0 [(0, .ref 11)] [] h (kI K)
  refine aw_aload_n (i := 0) rfl d_X8_readPayClause_0 0 rfl ?_
  refine aw_Vi 11 [] [] d_X8_readPayClause_1 (cV_X8_peek (d + 0) 0 0) kc_8 (ws_11 w) tw_685 rfl (rr0 (Nat.le_of_ble_eq_true rfl) (Nat.le_of_ble_eq_true rfl)) (Nat.le_of_ble_eq_true rfl) xs0 k (fun r3 h1 kk => ?_)
  obtain ⟨w2, k⟩ := kk
  refine aw_istore_n (i := 1) rfl [(0, .ref 11), (1, .int r3)] d_X8_readPayClause_4 (Nat.le_of_ble_eq_true rfl) rfl rfl ?_
  refine aw_iload_n (i := 1) rfl d_X8_readPayClause_5 1 rfl ?_
  refine aw_bipush (v := 33) d_X8_readPayClause_6 ib_33 ?_
  refine aw_icmp_eq (tgt := 17) d_X8_readPayClause_8 rfl (fun c4 => ?_) (fun c4 => ?_)
  · have k := k.1 c4
    refine aw_aload_n (i := 0) rfl d_X8_readPayClause_17 0 rfl ?_
    refine aw_iconst (v := 0) d_X8_readPayClause_18 ic_0 ?_
    refine aw_Vi 11 [.int 0] [] d_X8_readPayClause_19 (cV_X8_readCondition (d + 58) 0 0) kc_8 (ws_11 w2) tw_733 rfl (rr0 (Nat.le_of_ble_eq_true rfl) (Nat.le_of_ble_eq_true rfl)) (Nat.le_of_ble_eq_true rfl) xs0 k (fun r7 h5 kk => ?_)
    obtain ⟨w6, k⟩ := kk
    refine aw_if_eq (tgt := 36) d_X8_readPayClause_22 rfl (fun c8 => ?_) (fun c8 => ?_)
    · have k := k.1 c8
      refine aw_iconst (v := 0) d_X8_readPayClause_36 ic_0 ?_
      exact aw_zret rfl rfl d_X8_readPayClause_37 ⟨Nat.le_refl _, Nat.le_refl _⟩ ⟨_, rfl, k⟩
    · have k := k.2 c8
      refine aw_aload_n (i := 0) rfl d_X8_readPayClause_25 0 rfl ?_
      refine aw_Vi 11 [] [] d_X8_readPayClause_26 (cV_X8_readPayAnswer (d + 54) 0 0) kc_8 (ws_11 w6) tw_868 rfl (rr0 (Nat.le_of_ble_eq_true rfl) (Nat.le_of_ble_eq_true rfl)) (Nat.le_of_ble_eq_true rfl) xs0 k (fun r11 h9 kk => ?_)
      obtain ⟨w10, k⟩ := kk
      refine aw_if_eq (tgt := 36) d_X8_readPayClause_29 rfl (fun c12 => ?_) (fun c12 => ?_)
      · have k := k.1 c12
        refine aw_iconst (v := 0) d_X8_readPayClause_36 ic_0 ?_
        exact aw_zret rfl rfl d_X8_readPayClause_37 ⟨Nat.le_refl _, Nat.le_refl _⟩ ⟨_, rfl, k⟩
      · have k := k.2 c12
        refine aw_iconst (v := 1) d_X8_readPayClause_32 ic_1 ?_
        refine aw_goto (tgt := 37) d_X8_readPayClause_33 rfl ?_
        exact aw_zret rfl rfl d_X8_readPayClause_37 ⟨Nat.le_refl _, Nat.le_refl _⟩ ⟨_, rfl, k⟩
  · have k := k.2 c4
    refine aw_iload_n (i := 1) rfl d_X8_readPayClause_11 1 rfl ?_
    refine aw_bipush (v := 40) d_X8_readPayClause_12 ib_40 ?_
    refine aw_icmp_ne (tgt := 38) d_X8_readPayClause_14 rfl (fun c13 => ?_) (fun c13 => ?_)
    · have k := k.1 c13
      refine aw_aload_n (i := 0) rfl d_X8_readPayClause_38 0 rfl ?_
      refine aw_iconst (v := 0) d_X8_readPayClause_39 ic_0 ?_
      refine aw_Vi 11 [.int 0] [] d_X8_readPayClause_40 (cV_X8_readSum (d + 53) 0 0) kc_8 (ws_11 w2) tw_741 rfl (rr0 (Nat.le_of_ble_eq_true rfl) (Nat.le_of_ble_eq_true rfl)) (Nat.le_of_ble_eq_true rfl) xs0 k (fun r16 h14 kk => ?_)
      obtain ⟨w15, k⟩ := kk
      refine aw_if_ne (tgt := 48) d_X8_readPayClause_43 rfl (fun c17 => ?_) (fun c17 => ?_)
      · have k := k.1 c17
        refine aw_aload_n (i := 0) rfl d_X8_readPayClause_48 0 rfl ?_
        refine aw_Vi 11 [] [] d_X8_readPayClause_49 (cV_X8_peek (d + 0) 0 0) kc_8 (ws_11 w15) tw_685 rfl (rr0 (Nat.le_of_ble_eq_true rfl) (Nat.le_of_ble_eq_true rfl)) (Nat.le_of_ble_eq_true rfl) xs0 k (fun r20 h18 kk => ?_)
        obtain ⟨w19, k⟩ := kk
        refine aw_Si [.int r20] [] d_X8_readPayClause_52 (cS_X8_isComparison (d + 0) 0 0) tw_848 rfl (rr0 (Nat.le_of_ble_eq_true rfl) (Nat.le_of_ble_eq_true rfl)) (Nat.le_of_ble_eq_true rfl) xs0 k (fun r23 h21 kk => ?_)
        obtain ⟨w22, k⟩ := kk
        refine aw_if_eq (tgt := 87) d_X8_readPayClause_55 rfl (fun c24 => ?_) (fun c24 => ?_)
        · have k := k.1 c24
          refine aw_aload_n (i := 0) rfl d_X8_readPayClause_87 0 rfl ?_
          refine aw_iconst (v := (-1)) d_X8_readPayClause_88 ic_m1 ?_
          refine aw_Vv 11 [.int (-1)] [] d_X8_readPayClause_89 (cV_X8_endClause (d + 2) 0 0) kc_8 (ws_11 w22) tw_860 rfl (rr0 (Nat.le_of_ble_eq_true rfl) (Nat.le_of_ble_eq_true rfl)) (Nat.le_of_ble_eq_true rfl) xs0 k (fun h25 kk => ?_)
          obtain ⟨w26, k⟩ := kk
          refine aw_iconst (v := 1) d_X8_readPayClause_92 ic_1 ?_
          exact aw_zret rfl rfl d_X8_readPayClause_93 ⟨Nat.le_refl _, Nat.le_refl _⟩ ⟨_, rfl, k⟩
        · have k := k.2 c24
          refine aw_aload_n (i := 0) rfl d_X8_readPayClause_58 0 rfl ?_
          refine aw_iconst (v := 0) d_X8_readPayClause_59 ic_0 ?_
          refine aw_Vi 11 [.int 0] [] d_X8_readPayClause_60 (cV_X8_readComparison (d + 54) 0 0) kc_8 (ws_11 w22) tw_844 rfl (rr0 (Nat.le_of_ble_eq_true rfl) (Nat.le_of_ble_eq_true rfl)) (Nat.le_of_ble_eq_true rfl) xs0 k (fun r30 h28 kk => ?_)
          obtain ⟨w29, k⟩ := kk
          refine aw_if_eq (tgt := 85) d_X8_readPayClause_63 rfl (fun c31 => ?_) (fun c31 => ?_)
          · have k := k.1 c31
            refine aw_iconst (v := 0) d_X8_readPayClause_85 ic_0 ?_
            exact aw_zret rfl rfl d_X8_readPayClause_86 ⟨Nat.le_refl _, Nat.le_refl _⟩ ⟨_, rfl, k⟩
          · have k := k.2 c31
            refine aw_aload_n (i := 0) rfl d_X8_readPayClause_66 0 rfl ?_
            refine aw_iconst (v := 0) d_X8_readPayClause_67 ic_0 ?_
            refine aw_Vi 11 [.int 0] [] d_X8_readPayClause_68 (cV_X8_readMoreParts (d + 57) 0 0) kc_8 (ws_11 w29) tw_851 rfl (rr0 (Nat.le_of_ble_eq_true rfl) (Nat.le_of_ble_eq_true rfl)) (Nat.le_of_ble_eq_true rfl) xs0 k (fun r34 h32 kk => ?_)
            obtain ⟨w33, k⟩ := kk
            refine aw_if_eq (tgt := 85) d_X8_readPayClause_71 rfl (fun c35 => ?_) (fun c35 => ?_)
            · have k := k.1 c35
              refine aw_iconst (v := 0) d_X8_readPayClause_85 ic_0 ?_
              exact aw_zret rfl rfl d_X8_readPayClause_86 ⟨Nat.le_refl _, Nat.le_refl _⟩ ⟨_, rfl, k⟩
            · have k := k.2 c35
              refine aw_aload_n (i := 0) rfl d_X8_readPayClause_74 0 rfl ?_
              refine aw_Vi 11 [] [] d_X8_readPayClause_75 (cV_X8_readPayAnswer (d + 54) 0 0) kc_8 (ws_11 w33) tw_868 rfl (rr0 (Nat.le_of_ble_eq_true rfl) (Nat.le_of_ble_eq_true rfl)) (Nat.le_of_ble_eq_true rfl) xs0 k (fun r38 h36 kk => ?_)
              obtain ⟨w37, k⟩ := kk
              refine aw_if_eq (tgt := 85) d_X8_readPayClause_78 rfl (fun c39 => ?_) (fun c39 => ?_)
              · have k := k.1 c39
                refine aw_iconst (v := 0) d_X8_readPayClause_85 ic_0 ?_
                exact aw_zret rfl rfl d_X8_readPayClause_86 ⟨Nat.le_refl _, Nat.le_refl _⟩ ⟨_, rfl, k⟩
              · have k := k.2 c39
                refine aw_iconst (v := 1) d_X8_readPayClause_81 ic_1 ?_
                refine aw_goto (tgt := 86) d_X8_readPayClause_82 rfl ?_
                exact aw_zret rfl rfl d_X8_readPayClause_86 ⟨Nat.le_refl _, Nat.le_refl _⟩ ⟨_, rfl, k⟩
      · have k := k.2 c17
        refine aw_iconst (v := 0) d_X8_readPayClause_46 ic_0 ?_
        exact aw_zret rfl rfl d_X8_readPayClause_47 ⟨Nat.le_refl _, Nat.le_refl _⟩ ⟨_, rfl, k⟩
    · have k := k.2 c13
      refine aw_aload_n (i := 0) rfl d_X8_readPayClause_17 0 rfl ?_
      refine aw_iconst (v := 0) d_X8_readPayClause_18 ic_0 ?_
      refine aw_Vi 11 [.int 0] [] d_X8_readPayClause_19 (cV_X8_readCondition (d + 58) 0 0) kc_8 (ws_11 w2) tw_733 rfl (rr0 (Nat.le_of_ble_eq_true rfl) (Nat.le_of_ble_eq_true rfl)) (Nat.le_of_ble_eq_true rfl) xs0 k (fun r42 h40 kk => ?_)
      obtain ⟨w41, k⟩ := kk
      refine aw_if_eq (tgt := 36) d_X8_readPayClause_22 rfl (fun c43 => ?_) (fun c43 => ?_)
      · have k := k.1 c43
        refine aw_iconst (v := 0) d_X8_readPayClause_36 ic_0 ?_
        exact aw_zret rfl rfl d_X8_readPayClause_37 ⟨Nat.le_refl _, Nat.le_refl _⟩ ⟨_, rfl, k⟩
      · have k := k.2 c43
        refine aw_aload_n (i := 0) rfl d_X8_readPayClause_25 0 rfl ?_
        refine aw_Vi 11 [] [] d_X8_readPayClause_26 (cV_X8_readPayAnswer (d + 54) 0 0) kc_8 (ws_11 w41) tw_868 rfl (rr0 (Nat.le_of_ble_eq_true rfl) (Nat.le_of_ble_eq_true rfl)) (Nat.le_of_ble_eq_true rfl) xs0 k (fun r46 h44 kk => ?_)
        obtain ⟨w45, k⟩ := kk
        refine aw_if_eq (tgt := 36) d_X8_readPayClause_29 rfl (fun c47 => ?_) (fun c47 => ?_)
        · have k := k.1 c47
          refine aw_iconst (v := 0) d_X8_readPayClause_36 ic_0 ?_
          exact aw_zret rfl rfl d_X8_readPayClause_37 ⟨Nat.le_refl _, Nat.le_refl _⟩ ⟨_, rfl, k⟩
        · have k := k.2 c47
          refine aw_iconst (v := 1) d_X8_readPayClause_32 ic_1 ?_
          refine aw_goto (tgt := 37) d_X8_readPayClause_33 rfl ?_
          exact aw_zret rfl rfl d_X8_readPayClause_37 ⟨Nat.le_refl _, Nat.le_refl _⟩ ⟨_, rfl, k⟩
theorem t_X8_readActClause (d : Nat) (h : Hp_) (w : Wf h)  (K : Int32 → Hp_ → Prop) (k : Ci (m_X8_readCondition (d + 58) 0 0) [.ref 11, .int 0] h (fun r3 h1 => Wf h1 ∧ ((r3 = 0 → K 0 h1) ∧ (¬ r3 = 0 → Ci (m_X8_expect (d + 1) 0 0) [.ref 11, .int 63] h1 (fun r7 h5 => Wf h5 ∧ ((¬ r7 = 0 → Ci (m_X8_emit (d + 1) 0 0) [.ref 11, .int 3, .int 0] h5 (fun r11 h9 => Wf h9 ∧ (Ci (m_X8_peek (d + 0) 0 0) [.ref 11] h9 (fun r14 h12 => Wf h12 ∧ ((¬ r14 = (-1) → Ci (m_J0_indexOf_0f7a4 (d + 3) 0 0) [.ref 1003, .int (((r14 : Int32).toUInt32 % 65536).toInt32)] h12 (fun r18 h16 => Wf h16 ∧ ((0 ≤ r18 → Ci (m_X8_emit (d + 1) 0 0) [.ref 11, .int 0, .int r18] (h_im h16 11 2 ((h_i h16 11 2) + 1)) (fun r22 h20 => Wf h20 ∧ (Cv (m_X8_endClause (d + 2) 0 0) [.ref 11, .int r11] h20 (fun h23 => Wf h23 ∧ (K 1 h23))))) ∧ (¬ 0 ≤ r18 → Ci (m_X8_fail (d + 0) 0 0) [.ref 11] h16 (fun r28 h26 => Wf h26 ∧ ((r28 = 0 ∨ r28 = 1) ∧ (K r28 h26))))))) ∧ (r14 = (-1) → Ci (m_X8_fail (d + 0) 0 0) [.ref 11] h12 (fun r33 h31 => Wf h31 ∧ ((r33 = 0 ∨ r33 = 1) ∧ (K r33 h31))))))))) ∧ (r7 = 0 → K 0 h5))))))) : Ci (m_X8_readActClause (d + 59) 0 0) [.ref 11] h K := by
  refine Ct.of (fun _ _ _ => trivial) pn_X8 (Nat.le_of_ble_eq_true rfl) ?_
  show AW (m_X8_readActClause (d + 59) 0 0) 0 0 0 [(0, .ref 11)] [] h (kI K)
  refine aw_aload_n (i := 0) rfl d_X8_readActClause_0 0 rfl ?_
  refine aw_iconst (v := 0) d_X8_readActClause_1 ic_0 ?_
  refine aw_Vi 11 [.int 0] [] d_X8_readActClause_2 (cV_X8_readCondition (d + 58) 0 0) kc_8 (ws_11 w) tw_733 rfl (rr0 (Nat.le_of_ble_eq_true rfl) (Nat.le_of_ble_eq_true rfl)) (Nat.le_of_ble_eq_true rfl) xs0 k (fun r3 h1 kk => ?_)
  obtain ⟨w2, k⟩ := kk
  refine aw_if_eq (tgt := 17) d_X8_readActClause_5 rfl (fun c4 => ?_) (fun c4 => ?_)
  · have k := k.1 c4
    refine aw_iconst (v := 0) d_X8_readActClause_17 ic_0 ?_
    exact aw_zret rfl rfl d_X8_readActClause_18 ⟨Nat.le_refl _, Nat.le_refl _⟩ ⟨_, rfl, k⟩
  · have k := k.2 c4
    refine aw_aload_n (i := 0) rfl d_X8_readActClause_8 0 rfl ?_
    refine aw_bipush (v := 63) d_X8_readActClause_9 ib_63 ?_
    refine aw_Vi 11 [.int 63] [] d_X8_readActClause_11 (cV_X8_expect (d + 1) 0 0) kc_8 (ws_11 w2) tw_719 rfl (rr0 (Nat.le_of_ble_eq_true rfl) (Nat.le_of_ble_eq_true rfl)) (Nat.le_of_ble_eq_true rfl) xs0 k (fun r7 h5 kk => ?_)
    obtain ⟨w6, k⟩ := kk
    refine aw_if_ne (tgt := 19) d_X8_readActClause_14 rfl (fun c8 => ?_) (fun c8 => ?_)
    · have k := k.1 c8
      refine aw_aload_n (i := 0) rfl d_X8_readActClause_19 0 rfl ?_
      refine aw_iconst (v := 3) d_X8_readActClause_20 ic_3 ?_
      refine aw_iconst (v := 0) d_X8_readActClause_21 ic_0 ?_
      refine aw_Vi 11 [.int 3, .int 0] [] d_X8_readActClause_22 (cV_X8_emit (d + 1) 0 0) kc_8 (ws_11 w6) tw_753 rfl (rr0 (Nat.le_of_ble_eq_true rfl) (Nat.le_of_ble_eq_true rfl)) (Nat.le_of_ble_eq_true rfl) xs0 k (fun r11 h9 kk => ?_)
      obtain ⟨w10, k⟩ := kk
      refine aw_istore_n (i := 1) rfl [(0, .ref 11), (1, .int r11)] d_X8_readActClause_25 (Nat.le_of_ble_eq_true rfl) rfl rfl ?_
      refine aw_aload_n (i := 0) rfl d_X8_readActClause_26 0 rfl ?_
      refine aw_Vi 11 [] [] d_X8_readActClause_27 (cV_X8_peek (d + 0) 0 0) kc_8 (ws_11 w10) tw_685 rfl (rr0 (Nat.le_of_ble_eq_true rfl) (Nat.le_of_ble_eq_true rfl)) (Nat.le_of_ble_eq_true rfl) xs0 k (fun r14 h12 kk => ?_)
      obtain ⟨w13, k⟩ := kk
      refine aw_istore_n (i := 2) rfl [(0, .ref 11), (1, .int r11), (2, .int r14)] d_X8_readActClause_30 (Nat.le_of_ble_eq_true rfl) rfl rfl ?_
      refine aw_iload_n (i := 2) rfl d_X8_readActClause_31 2 rfl ?_
      refine aw_iconst (v := (-1)) d_X8_readActClause_32 ic_m1 ?_
      refine aw_icmp_ne (tgt := 40) d_X8_readActClause_33 rfl (fun c15 => ?_) (fun c15 => ?_)
      · have k := k.1 c15
        refine aw_ldcT (row := 3) (n := 3) (q := 1003) d_X8_readActClause_40 rfl rfl ?_
        refine aw_iload_n (i := 2) rfl d_X8_readActClause_42 2 rfl ?_
        refine aw_i2c d_X8_readActClause_43 ?_
        refine aw_Ti (i := 3) [.int (((r14 : Int32).toUInt32 % 65536).toInt32)] [] (show 3 < 4 by decide) d_X8_readActClause_44 rfl (cV_J0_indexOf_0f7a4 (d + 3) 0 0) tw_760 rfl (rr0 (Nat.le_of_ble_eq_true rfl) (Nat.le_of_ble_eq_true rfl)) (Nat.le_of_ble_eq_true rfl) xs0 k (fun r18 h16 kk => ?_)
        obtain ⟨w17, k⟩ := kk
        refine aw_istore_n (i := 3) rfl [(0, .ref 11), (1, .int r11), (2, .int r14), (3, .int r18)] d_X8_readActClause_47 (Nat.le_of_ble_eq_true rfl) rfl rfl ?_
        refine aw_iload_n (i := 3) rfl d_X8_readActClause_48 3 rfl ?_
        refine aw_if_ge (tgt := 57) d_X8_readActClause_49 rfl (fun c19 => ?_) (fun c19 => ?_)
        · have k := k.1 c19
          refine aw_aload_n (i := 0) rfl d_X8_readActClause_57 0 rfl ?_
          refine aw_dup d_X8_readActClause_58 rfl ?_
          refine aw_geti (k0 := 2) kc_8 (ws_11 w17) (Nat.le_of_ble_eq_true rfl) tw_62 d_X8_readActClause_59 rfl ?_
          refine aw_iconst (v := 1) d_X8_readActClause_62 ic_1 ?_
          refine aw_iadd d_X8_readActClause_63 ?_
          refine aw_puti (k0 := 2) kc_8 (ws_11 w17) (Nat.le_of_ble_eq_true rfl) tw_62 d_X8_readActClause_64 rfl rfl nf_i ?_
          refine aw_aload_n (i := 0) rfl d_X8_readActClause_67 0 rfl ?_
          refine aw_iconst (v := 0) d_X8_readActClause_68 ic_0 ?_
          refine aw_iload_n (i := 3) rfl d_X8_readActClause_69 3 rfl ?_
          refine aw_Vi 11 [.int 0, .int r18] [] d_X8_readActClause_70 (cV_X8_emit (d + 1) 0 0) kc_8 (ws_11 w17) tw_753 rfl (rr0 (Nat.le_of_ble_eq_true rfl) (Nat.le_of_ble_eq_true rfl)) (Nat.le_of_ble_eq_true rfl) xs0 k (fun r22 h20 kk => ?_)
          obtain ⟨w21, k⟩ := kk
          refine aw_pop d_X8_readActClause_73 rfl ?_
          refine aw_aload_n (i := 0) rfl d_X8_readActClause_74 0 rfl ?_
          refine aw_iload_n (i := 1) rfl d_X8_readActClause_75 1 rfl ?_
          refine aw_Vv 11 [.int r11] [] d_X8_readActClause_76 (cV_X8_endClause (d + 2) 0 0) kc_8 (ws_11 w21) tw_860 rfl (rr0 (Nat.le_of_ble_eq_true rfl) (Nat.le_of_ble_eq_true rfl)) (Nat.le_of_ble_eq_true rfl) xs0 k (fun h23 kk => ?_)
          obtain ⟨w24, k⟩ := kk
          refine aw_iconst (v := 1) d_X8_readActClause_79 ic_1 ?_
          exact aw_zret rfl rfl d_X8_readActClause_80 ⟨Nat.le_refl _, Nat.le_refl _⟩ ⟨_, rfl, k⟩
        · have k := k.2 c19
          refine aw_aload_n (i := 0) rfl d_X8_readActClause_52 0 rfl ?_
          refine aw_Vi 11 [] [] d_X8_readActClause_53 (cV_X8_fail (d + 0) 0 0) kc_8 (ws_11 w17) tw_715 rfl (rr0 (Nat.le_of_ble_eq_true rfl) (Nat.le_of_ble_eq_true rfl)) (Nat.le_of_ble_eq_true rfl) xs0 k (fun r28 h26 kk => ?_)
          obtain ⟨w27, k⟩ := kk
          obtain ⟨z29, k⟩ := k
          exact aw_zret rfl (nf_z z29).1 d_X8_readActClause_56 ⟨Nat.le_refl _, Nat.le_refl _⟩ ⟨_, rfl, k⟩
      · have k := k.2 c15
        refine aw_iconst (v := (-1)) d_X8_readActClause_36 ic_m1 ?_
        refine aw_goto (tgt := 47) d_X8_readActClause_37 rfl ?_
        refine aw_istore_n (i := 3) rfl [(0, .ref 11), (1, .int r11), (2, .int r14), (3, .int (-1))] d_X8_readActClause_47 (Nat.le_of_ble_eq_true rfl) rfl rfl ?_
        refine aw_iload_n (i := 3) rfl d_X8_readActClause_48 3 rfl ?_
        refine aw_if_ge (tgt := 57) d_X8_readActClause_49 rfl (fun c => absurd c (by decide)) (fun _ => ?_)
        refine aw_aload_n (i := 0) rfl d_X8_readActClause_52 0 rfl ?_
        refine aw_Vi 11 [] [] d_X8_readActClause_53 (cV_X8_fail (d + 0) 0 0) kc_8 (ws_11 w13) tw_715 rfl (rr0 (Nat.le_of_ble_eq_true rfl) (Nat.le_of_ble_eq_true rfl)) (Nat.le_of_ble_eq_true rfl) xs0 k (fun r33 h31 kk => ?_)
        obtain ⟨w32, k⟩ := kk
        obtain ⟨z34, k⟩ := k
        exact aw_zret rfl (nf_z z34).1 d_X8_readActClause_56 ⟨Nat.le_refl _, Nat.le_refl _⟩ ⟨_, rfl, k⟩
    · have k := k.2 c8
      refine aw_iconst (v := 0) d_X8_readActClause_17 ic_0 ?_
      exact aw_zret rfl rfl d_X8_readActClause_18 ⟨Nat.le_refl _, Nat.le_refl _⟩ ⟨_, rfl, k⟩
theorem t_X8_readRule (d : Nat) (h : Hp_) (w : Wf h) (x1 : Int32) (K : Int32 → Hp_ → Prop) (k : (x1 = 0 → Cv (m_X8_restart (d + 0) 0 0) [.ref 11, .ref 1002] h (fun h2 => Wf h2 ∧ ((x1 = 0 → Ci (m_X8_readPayClause (d + 59) 0 0) [.ref 11] h2 (fun r8 h6 => Wf h6 ∧ (AW (m_X8_readRule (d + 60) 0 0) 0 0 33 [(0, .ref 11), (1, .int x1), (2, .int r8), (3, .int 0)] [] h6 (kI K)))) ∧ (¬ x1 = 0 → Ci (m_X8_readActClause (d + 59) 0 0) [.ref 11] h2 (fun r11 h9 => Wf h9 ∧ (AW (m_X8_readRule (d + 60) 0 0) 0 0 33 [(0, .ref 11), (1, .int x1), (2, .int r11), (3, .int 0)] [] h9 (kI K))))))) ∧ (¬ x1 = 0 → Cv (m_X8_restart (d + 0) 0 0) [.ref 11, .ref 1001] h (fun h12 => Wf h12 ∧ ((x1 = 0 → Ci (m_X8_readPayClause (d + 59) 0 0) [.ref 11] h12 (fun r18 h16 => Wf h16 ∧ (AW (m_X8_readRule (d + 60) 0 0) 0 0 33 [(0, .ref 11), (1, .int x1), (2, .int r18), (3, .int 0)] [] h16 (kI K)))) ∧ (¬ x1 = 0 → Ci (m_X8_readActClause (d + 59) 0 0) [.ref 11] h12 (fun r21 h19 => Wf h19 ∧ (AW (m_X8_readRule (d + 60) 0 0) 0 0 33 [(0, .ref 11), (1, .int x1), (2, .int r21), (3, .int 0)] [] h19 (kI K)))))))) : Ci (m_X8_readRule (d + 60) 0 0) [.ref 11, .int x1] h K := by
  refine Ct.of (fun _ _ _ => trivial) pn_X8 (Nat.le_of_ble_eq_true rfl) ?_
  show AW (m_X8_readRule (d + 60) 0 0) 0 0 0 [(0, .ref 11), (1, .int x1)] [] h (kI K)
  refine aw_aload_n (i := 0) rfl d_X8_readRule_0 0 rfl ?_
  refine aw_iload_n (i := 1) rfl d_X8_readRule_1 1 rfl ?_
  refine aw_if_eq (tgt := 10) d_X8_readRule_2 rfl (fun c1 => ?_) (fun c1 => ?_)
  · have k := k.1 c1
    refine aw_ldcT (row := 2) (n := 2) (q := 1002) d_X8_readRule_10 rfl rfl ?_
    refine aw_Vv 11 [.ref 1002] [] d_X8_readRule_12 (cV_X8_restart (d + 0) 0 0) kc_8 (ws_11 w) tw_673 rfl (rr0 (Nat.le_of_ble_eq_true rfl) (Nat.le_of_ble_eq_true rfl)) (Nat.le_of_ble_eq_true rfl) xs0 k (fun h2 kk => ?_)
    obtain ⟨w3, k⟩ := kk
    refine aw_iload_n (i := 1) rfl d_X8_readRule_15 1 rfl ?_
    refine aw_if_eq (tgt := 26) d_X8_readRule_16 rfl (fun c5 => ?_) (fun c5 => ?_)
    · have k := k.1 c5
      refine aw_aload_n (i := 0) rfl d_X8_readRule_26 0 rfl ?_
      refine aw_Vi 11 [] [] d_X8_readRule_27 (cV_X8_readPayClause (d + 59) 0 0) kc_8 (ws_11 w3) tw_864 rfl (rr0 (Nat.le_of_ble_eq_true rfl) (Nat.le_of_ble_eq_true rfl)) (Nat.le_of_ble_eq_true rfl) xs0 k (fun r8 h6 kk => ?_)
      obtain ⟨w7, k⟩ := kk
      refine aw_istore_n (i := 2) rfl [(0, .ref 11), (1, .int x1), (2, .int r8)] d_X8_readRule_30 (Nat.le_of_ble_eq_true rfl) rfl rfl ?_
      refine aw_iconst (v := 0) d_X8_readRule_31 ic_0 ?_
      refine aw_istore_n (i := 3) rfl [(0, .ref 11), (1, .int x1), (2, .int r8), (3, .int 0)] d_X8_readRule_32 (Nat.le_of_ble_eq_true rfl) rfl rfl ?_
      exact k
    · have k := k.2 c5
      refine aw_aload_n (i := 0) rfl d_X8_readRule_19 0 rfl ?_
      refine aw_Vi 11 [] [] d_X8_readRule_20 (cV_X8_readActClause (d + 59) 0 0) kc_8 (ws_11 w3) tw_729 rfl (rr0 (Nat.le_of_ble_eq_true rfl) (Nat.le_of_ble_eq_true rfl)) (Nat.le_of_ble_eq_true rfl) xs0 k (fun r11 h9 kk => ?_)
      obtain ⟨w10, k⟩ := kk
      refine aw_goto (tgt := 30) d_X8_readRule_23 rfl ?_
      refine aw_istore_n (i := 2) rfl [(0, .ref 11), (1, .int x1), (2, .int r11)] d_X8_readRule_30 (Nat.le_of_ble_eq_true rfl) rfl rfl ?_
      refine aw_iconst (v := 0) d_X8_readRule_31 ic_0 ?_
      refine aw_istore_n (i := 3) rfl [(0, .ref 11), (1, .int x1), (2, .int r11), (3, .int 0)] d_X8_readRule_32 (Nat.le_of_ble_eq_true rfl) rfl rfl ?_
      exact k
  · have k := k.2 c1
    refine aw_ldcT (row := 1) (n := 1) (q := 1001) d_X8_readRule_5 rfl rfl ?_
    refine aw_goto (tgt := 12) d_X8_readRule_7 rfl ?_
    refine aw_Vv 11 [.ref 1001] [] d_X8_readRule_12 (cV_X8_restart (d + 0) 0 0) kc_8 (ws_11 w) tw_673 rfl (rr0 (Nat.le_of_ble_eq_true rfl) (Nat.le_of_ble_eq_true rfl)) (Nat.le_of_ble_eq_true rfl) xs0 k (fun h12 kk => ?_)
    obtain ⟨w13, k⟩ := kk
    refine aw_iload_n (i := 1) rfl d_X8_readRule_15 1 rfl ?_
    refine aw_if_eq (tgt := 26) d_X8_readRule_16 rfl (fun c15 => ?_) (fun c15 => ?_)
    · have k := k.1 c15
      refine aw_aload_n (i := 0) rfl d_X8_readRule_26 0 rfl ?_
      refine aw_Vi 11 [] [] d_X8_readRule_27 (cV_X8_readPayClause (d + 59) 0 0) kc_8 (ws_11 w13) tw_864 rfl (rr0 (Nat.le_of_ble_eq_true rfl) (Nat.le_of_ble_eq_true rfl)) (Nat.le_of_ble_eq_true rfl) xs0 k (fun r18 h16 kk => ?_)
      obtain ⟨w17, k⟩ := kk
      refine aw_istore_n (i := 2) rfl [(0, .ref 11), (1, .int x1), (2, .int r18)] d_X8_readRule_30 (Nat.le_of_ble_eq_true rfl) rfl rfl ?_
      refine aw_iconst (v := 0) d_X8_readRule_31 ic_0 ?_
      refine aw_istore_n (i := 3) rfl [(0, .ref 11), (1, .int x1), (2, .int r18), (3, .int 0)] d_X8_readRule_32 (Nat.le_of_ble_eq_true rfl) rfl rfl ?_
      exact k
    · have k := k.2 c15
      refine aw_aload_n (i := 0) rfl d_X8_readRule_19 0 rfl ?_
      refine aw_Vi 11 [] [] d_X8_readRule_20 (cV_X8_readActClause (d + 59) 0 0) kc_8 (ws_11 w13) tw_729 rfl (rr0 (Nat.le_of_ble_eq_true rfl) (Nat.le_of_ble_eq_true rfl)) (Nat.le_of_ble_eq_true rfl) xs0 k (fun r21 h19 kk => ?_)
      obtain ⟨w20, k⟩ := kk
      refine aw_goto (tgt := 30) d_X8_readRule_23 rfl ?_
      refine aw_istore_n (i := 2) rfl [(0, .ref 11), (1, .int x1), (2, .int r21)] d_X8_readRule_30 (Nat.le_of_ble_eq_true rfl) rfl rfl ?_
      refine aw_iconst (v := 0) d_X8_readRule_31 ic_0 ?_
      refine aw_istore_n (i := 3) rfl [(0, .ref 11), (1, .int x1), (2, .int r21), (3, .int 0)] d_X8_readRule_32 (Nat.le_of_ble_eq_true rfl) rfl rfl ?_
      exact k
theorem t_X8_readRule_33 (d : Nat) (h : Hp_) (w : Wf h) (x1 : Int32) (x2 : Int32) (x3 : Int32) (K : Int32 → Hp_ → Prop) (k : (160 ≤ x3 → (x2 = 0 → K (h_i h 11 3) h) ∧ (¬ x2 = 0 → Ci (m_X8_peek (d + 0) 0 0) [.ref 11] h (fun r26 h24 => Wf h24 ∧ ((r26 = (-1) → K (h_i h24 11 3) h24) ∧ (¬ r26 = (-1) → Ci (m_X8_fail (d + 0) 0 0) [.ref 11] h24 (fun r30 h28 => Wf h28 ∧ (K (h_i h28 11 3) h28))))))) ∧ (¬ 160 ≤ x3 → (x2 = 0 → (x2 = 0 → K (h_i h 11 3) h) ∧ (¬ x2 = 0 → Ci (m_X8_peek (d + 0) 0 0) [.ref 11] h (fun r35 h33 => Wf h33 ∧ ((r35 = (-1) → K (h_i h33 11 3) h33) ∧ (¬ r35 = (-1) → Ci (m_X8_fail (d + 0) 0 0) [.ref 11] h33 (fun r39 h37 => Wf h37 ∧ (K (h_i h37 11 3) h37))))))) ∧ (¬ x2 = 0 → Ci (m_X8_peek (d + 0) 0 0) [.ref 11] h (fun r42 h40 => Wf h40 ∧ ((¬ r42 = 59 → (x2 = 0 → K (h_i h40 11 3) h40) ∧ (¬ x2 = 0 → Ci (m_X8_peek (d + 0) 0 0) [.ref 11] h40 (fun r47 h45 => Wf h45 ∧ ((r47 = (-1) → K (h_i h45 11 3) h45) ∧ (¬ r47 = (-1) → Ci (m_X8_fail (d + 0) 0 0) [.ref 11] h45 (fun r51 h49 => Wf h49 ∧ (K (h_i h49 11 3) h49))))))) ∧ (r42 = 59 → (x1 = 0 → Ci (m_X8_readPayClause (d + 59) 0 0) [.ref 11] (h_im h40 11 2 ((h_i h40 11 2) + 1)) (fun r55 h53 => Wf h53 ∧ (AW (m_X8_readRule (d + 60) 0 0) 0 0 33 [(0, .ref 11), (1, .int x1), (2, .int r55), (3, .int (x3 + 1))] [] h53 (kI K)))) ∧ (¬ x1 = 0 → Ci (m_X8_readActClause (d + 59) 0 0) [.ref 11] (h_im h40 11 2 ((h_i h40 11 2) + 1)) (fun r58 h56 => Wf h56 ∧ (AW (m_X8_readRule (d + 60) 0 0) 0 0 33 [(0, .ref 11), (1, .int x1), (2, .int r58), (3, .int (x3 + 1))] [] h56 (kI K)))))))))) : AW (m_X8_readRule (d + 60) 0 0) 0 0 33 [(0, .ref 11), (1, .int x1), (2, .int x2), (3, .int x3)] [] h (kI K) := by
  refine aw_iload_n (i := 3) rfl d_X8_readRule_33 3 rfl ?_
  refine aw_sipush (v := 160) d_X8_readRule_34 is_160 ?_
  refine aw_icmp_ge (tgt := 85) d_X8_readRule_37 rfl (fun c22 => ?_) (fun c22 => ?_)
  · have k := k.1 c22
    refine aw_iload_n (i := 2) rfl d_X8_readRule_85 2 rfl ?_
    refine aw_if_eq (tgt := 102) d_X8_readRule_86 rfl (fun c23 => ?_) (fun c23 => ?_)
    · have k := k.1 c23
      refine aw_aload_n (i := 0) rfl d_X8_readRule_102 0 rfl ?_
      refine aw_geti (k0 := 3) kc_8 (ws_11 w) (Nat.le_of_ble_eq_true rfl) tw_63 d_X8_readRule_103 rfl ?_
      exact aw_iret rfl d_X8_readRule_106 ⟨Nat.le_refl _, Nat.le_refl _⟩ ⟨_, rfl, k⟩
    · have k := k.2 c23
      refine aw_aload_n (i := 0) rfl d_X8_readRule_89 0 rfl ?_
      refine aw_Vi 11 [] [] d_X8_readRule_90 (cV_X8_peek (d + 0) 0 0) kc_8 (ws_11 w) tw_685 rfl (rr0 (Nat.le_of_ble_eq_true rfl) (Nat.le_of_ble_eq_true rfl)) (Nat.le_of_ble_eq_true rfl) xs0 k (fun r26 h24 kk => ?_)
      obtain ⟨w25, k⟩ := kk
      refine aw_iconst (v := (-1)) d_X8_readRule_93 ic_m1 ?_
      refine aw_icmp_eq (tgt := 102) d_X8_readRule_94 rfl (fun c27 => ?_) (fun c27 => ?_)
      · have k := k.1 c27
        refine aw_aload_n (i := 0) rfl d_X8_readRule_102 0 rfl ?_
        refine aw_geti (k0 := 3) kc_8 (ws_11 w25) (Nat.le_of_ble_eq_true rfl) tw_63 d_X8_readRule_103 rfl ?_
        exact aw_iret rfl d_X8_readRule_106 ⟨Nat.le_refl _, Nat.le_refl _⟩ ⟨_, rfl, k⟩
      · have k := k.2 c27
        refine aw_aload_n (i := 0) rfl d_X8_readRule_97 0 rfl ?_
        refine aw_Vi 11 [] [] d_X8_readRule_98 (cV_X8_fail (d + 0) 0 0) kc_8 (ws_11 w25) tw_715 rfl (rr0 (Nat.le_of_ble_eq_true rfl) (Nat.le_of_ble_eq_true rfl)) (Nat.le_of_ble_eq_true rfl) xs0 k (fun r30 h28 kk => ?_)
        obtain ⟨w29, k⟩ := kk
        refine aw_pop d_X8_readRule_101 rfl ?_
        refine aw_aload_n (i := 0) rfl d_X8_readRule_102 0 rfl ?_
        refine aw_geti (k0 := 3) kc_8 (ws_11 w29) (Nat.le_of_ble_eq_true rfl) tw_63 d_X8_readRule_103 rfl ?_
        exact aw_iret rfl d_X8_readRule_106 ⟨Nat.le_refl _, Nat.le_refl _⟩ ⟨_, rfl, k⟩
  · have k := k.2 c22
    refine aw_iload_n (i := 2) rfl d_X8_readRule_40 2 rfl ?_
    refine aw_if_eq (tgt := 85) d_X8_readRule_41 rfl (fun c31 => ?_) (fun c31 => ?_)
    · have k := k.1 c31
      refine aw_iload_n (i := 2) rfl d_X8_readRule_85 2 rfl ?_
      refine aw_if_eq (tgt := 102) d_X8_readRule_86 rfl (fun c32 => ?_) (fun c32 => ?_)
      · have k := k.1 c32
        refine aw_aload_n (i := 0) rfl d_X8_readRule_102 0 rfl ?_
        refine aw_geti (k0 := 3) kc_8 (ws_11 w) (Nat.le_of_ble_eq_true rfl) tw_63 d_X8_readRule_103 rfl ?_
        exact aw_iret rfl d_X8_readRule_106 ⟨Nat.le_refl _, Nat.le_refl _⟩ ⟨_, rfl, k⟩
      · have k := k.2 c32
        refine aw_aload_n (i := 0) rfl d_X8_readRule_89 0 rfl ?_
        refine aw_Vi 11 [] [] d_X8_readRule_90 (cV_X8_peek (d + 0) 0 0) kc_8 (ws_11 w) tw_685 rfl (rr0 (Nat.le_of_ble_eq_true rfl) (Nat.le_of_ble_eq_true rfl)) (Nat.le_of_ble_eq_true rfl) xs0 k (fun r35 h33 kk => ?_)
        obtain ⟨w34, k⟩ := kk
        refine aw_iconst (v := (-1)) d_X8_readRule_93 ic_m1 ?_
        refine aw_icmp_eq (tgt := 102) d_X8_readRule_94 rfl (fun c36 => ?_) (fun c36 => ?_)
        · have k := k.1 c36
          refine aw_aload_n (i := 0) rfl d_X8_readRule_102 0 rfl ?_
          refine aw_geti (k0 := 3) kc_8 (ws_11 w34) (Nat.le_of_ble_eq_true rfl) tw_63 d_X8_readRule_103 rfl ?_
          exact aw_iret rfl d_X8_readRule_106 ⟨Nat.le_refl _, Nat.le_refl _⟩ ⟨_, rfl, k⟩
        · have k := k.2 c36
          refine aw_aload_n (i := 0) rfl d_X8_readRule_97 0 rfl ?_
          refine aw_Vi 11 [] [] d_X8_readRule_98 (cV_X8_fail (d + 0) 0 0) kc_8 (ws_11 w34) tw_715 rfl (rr0 (Nat.le_of_ble_eq_true rfl) (Nat.le_of_ble_eq_true rfl)) (Nat.le_of_ble_eq_true rfl) xs0 k (fun r39 h37 kk => ?_)
          obtain ⟨w38, k⟩ := kk
          refine aw_pop d_X8_readRule_101 rfl ?_
          refine aw_aload_n (i := 0) rfl d_X8_readRule_102 0 rfl ?_
          refine aw_geti (k0 := 3) kc_8 (ws_11 w38) (Nat.le_of_ble_eq_true rfl) tw_63 d_X8_readRule_103 rfl ?_
          exact aw_iret rfl d_X8_readRule_106 ⟨Nat.le_refl _, Nat.le_refl _⟩ ⟨_, rfl, k⟩
    · have k := k.2 c31
      refine aw_aload_n (i := 0) rfl d_X8_readRule_44 0 rfl ?_
      refine aw_Vi 11 [] [] d_X8_readRule_45 (cV_X8_peek (d + 0) 0 0) kc_8 (ws_11 w) tw_685 rfl (rr0 (Nat.le_of_ble_eq_true rfl) (Nat.le_of_ble_eq_true rfl)) (Nat.le_of_ble_eq_true rfl) xs0 k (fun r42 h40 kk => ?_)
      obtain ⟨w41, k⟩ := kk
      refine aw_bipush (v := 59) d_X8_readRule_48 ib_59 ?_
      refine aw_icmp_ne (tgt := 85) d_X8_readRule_50 rfl (fun c43 => ?_) (fun c43 => ?_)
      · have k := k.1 c43
        refine aw_iload_n (i := 2) rfl d_X8_readRule_85 2 rfl ?_
        refine aw_if_eq (tgt := 102) d_X8_readRule_86 rfl (fun c44 => ?_) (fun c44 => ?_)
        · have k := k.1 c44
          refine aw_aload_n (i := 0) rfl d_X8_readRule_102 0 rfl ?_
          refine aw_geti (k0 := 3) kc_8 (ws_11 w41) (Nat.le_of_ble_eq_true rfl) tw_63 d_X8_readRule_103 rfl ?_
          exact aw_iret rfl d_X8_readRule_106 ⟨Nat.le_refl _, Nat.le_refl _⟩ ⟨_, rfl, k⟩
        · have k := k.2 c44
          refine aw_aload_n (i := 0) rfl d_X8_readRule_89 0 rfl ?_
          refine aw_Vi 11 [] [] d_X8_readRule_90 (cV_X8_peek (d + 0) 0 0) kc_8 (ws_11 w41) tw_685 rfl (rr0 (Nat.le_of_ble_eq_true rfl) (Nat.le_of_ble_eq_true rfl)) (Nat.le_of_ble_eq_true rfl) xs0 k (fun r47 h45 kk => ?_)
          obtain ⟨w46, k⟩ := kk
          refine aw_iconst (v := (-1)) d_X8_readRule_93 ic_m1 ?_
          refine aw_icmp_eq (tgt := 102) d_X8_readRule_94 rfl (fun c48 => ?_) (fun c48 => ?_)
          · have k := k.1 c48
            refine aw_aload_n (i := 0) rfl d_X8_readRule_102 0 rfl ?_
            refine aw_geti (k0 := 3) kc_8 (ws_11 w46) (Nat.le_of_ble_eq_true rfl) tw_63 d_X8_readRule_103 rfl ?_
            exact aw_iret rfl d_X8_readRule_106 ⟨Nat.le_refl _, Nat.le_refl _⟩ ⟨_, rfl, k⟩
          · have k := k.2 c48
            refine aw_aload_n (i := 0) rfl d_X8_readRule_97 0 rfl ?_
            refine aw_Vi 11 [] [] d_X8_readRule_98 (cV_X8_fail (d + 0) 0 0) kc_8 (ws_11 w46) tw_715 rfl (rr0 (Nat.le_of_ble_eq_true rfl) (Nat.le_of_ble_eq_true rfl)) (Nat.le_of_ble_eq_true rfl) xs0 k (fun r51 h49 kk => ?_)
            obtain ⟨w50, k⟩ := kk
            refine aw_pop d_X8_readRule_101 rfl ?_
            refine aw_aload_n (i := 0) rfl d_X8_readRule_102 0 rfl ?_
            refine aw_geti (k0 := 3) kc_8 (ws_11 w50) (Nat.le_of_ble_eq_true rfl) tw_63 d_X8_readRule_103 rfl ?_
            exact aw_iret rfl d_X8_readRule_106 ⟨Nat.le_refl _, Nat.le_refl _⟩ ⟨_, rfl, k⟩
      · have k := k.2 c43
        refine aw_aload_n (i := 0) rfl d_X8_readRule_53 0 rfl ?_
        refine aw_dup d_X8_readRule_54 rfl ?_
        refine aw_geti (k0 := 2) kc_8 (ws_11 w41) (Nat.le_of_ble_eq_true rfl) tw_62 d_X8_readRule_55 rfl ?_
        refine aw_iconst (v := 1) d_X8_readRule_58 ic_1 ?_
        refine aw_iadd d_X8_readRule_59 ?_
        refine aw_puti (k0 := 2) kc_8 (ws_11 w41) (Nat.le_of_ble_eq_true rfl) tw_62 d_X8_readRule_60 rfl rfl nf_i ?_
        refine aw_iload_n (i := 1) rfl d_X8_readRule_63 1 rfl ?_
        refine aw_if_eq (tgt := 74) d_X8_readRule_64 rfl (fun c52 => ?_) (fun c52 => ?_)
        · have k := k.1 c52
          refine aw_aload_n (i := 0) rfl d_X8_readRule_74 0 rfl ?_
          refine aw_Vi 11 [] [] d_X8_readRule_75 (cV_X8_readPayClause (d + 59) 0 0) kc_8 (ws_11 w41) tw_864 rfl (rr0 (Nat.le_of_ble_eq_true rfl) (Nat.le_of_ble_eq_true rfl)) (Nat.le_of_ble_eq_true rfl) xs0 k (fun r55 h53 kk => ?_)
          obtain ⟨w54, k⟩ := kk
          refine aw_istore_n (i := 2) rfl [(0, .ref 11), (1, .int x1), (2, .int r55), (3, .int x3)] d_X8_readRule_78 (Nat.le_of_ble_eq_true rfl) rfl rfl ?_
          refine aw_iinc (v := (x3 + 1)) [(0, .ref 11), (1, .int x1), (2, .int r55), (3, .int (x3 + 1))] d_X8_readRule_79 3 rfl rfl (Nat.le_of_ble_eq_true rfl) rfl rfl ?_
          refine aw_goto (tgt := 33) d_X8_readRule_82 rfl ?_
          exact k
        · have k := k.2 c52
          refine aw_aload_n (i := 0) rfl d_X8_readRule_67 0 rfl ?_
          refine aw_Vi 11 [] [] d_X8_readRule_68 (cV_X8_readActClause (d + 59) 0 0) kc_8 (ws_11 w41) tw_729 rfl (rr0 (Nat.le_of_ble_eq_true rfl) (Nat.le_of_ble_eq_true rfl)) (Nat.le_of_ble_eq_true rfl) xs0 k (fun r58 h56 kk => ?_)
          obtain ⟨w57, k⟩ := kk
          refine aw_goto (tgt := 78) d_X8_readRule_71 rfl ?_
          refine aw_istore_n (i := 2) rfl [(0, .ref 11), (1, .int x1), (2, .int r58), (3, .int x3)] d_X8_readRule_78 (Nat.le_of_ble_eq_true rfl) rfl rfl ?_
          refine aw_iinc (v := (x3 + 1)) [(0, .ref 11), (1, .int x1), (2, .int r58), (3, .int (x3 + 1))] d_X8_readRule_79 3 rfl rfl (Nat.le_of_ble_eq_true rfl) rfl rfl ?_
          refine aw_goto (tgt := 33) d_X8_readRule_82 rfl ?_
          exact k
theorem t_X8_readBeat (d : Nat) (h : Hp_) (w : Wf h)  (K : Int32 → Hp_ → Prop) (k : Cv (m_X8_restart (d + 0) 0 0) [.ref 11, .ref 1000] h (fun h1 => Wf h1 ∧ (Ci (m_X8_readSteps (d + 53) 0 0) [.ref 11, .int 0] h1 (fun r6 h4 => Wf h4 ∧ ((r6 = 0 → K (h_i h4 11 3) h4) ∧ (¬ r6 = 0 → Ci (m_X8_peek (d + 0) 0 0) [.ref 11] h4 (fun r10 h8 => Wf h8 ∧ ((r10 = (-1) → K (h_i h8 11 3) h8) ∧ (¬ r10 = (-1) → Ci (m_X8_fail (d + 0) 0 0) [.ref 11] h8 (fun r14 h12 => Wf h12 ∧ (K (h_i h12 11 3) h12))))))))))) : Ci (m_X8_readBeat (d + 54) 0 0) [.ref 11] h K := by
  refine Ct.of (fun _ _ _ => trivial) pn_X8 (Nat.le_of_ble_eq_true rfl) ?_
  show AW (m_X8_readBeat (d + 54) 0 0) 0 0 0 [(0, .ref 11)] [] h (kI K)
  refine aw_aload_n (i := 0) rfl d_X8_readBeat_0 0 rfl ?_
  refine aw_ldcT (row := 0) (n := 0) (q := 1000) d_X8_readBeat_1 rfl rfl ?_
  refine aw_Vv 11 [.ref 1000] [] d_X8_readBeat_3 (cV_X8_restart (d + 0) 0 0) kc_8 (ws_11 w) tw_673 rfl (rr0 (Nat.le_of_ble_eq_true rfl) (Nat.le_of_ble_eq_true rfl)) (Nat.le_of_ble_eq_true rfl) xs0 k (fun h1 kk => ?_)
  obtain ⟨w2, k⟩ := kk
  refine aw_aload_n (i := 0) rfl d_X8_readBeat_6 0 rfl ?_
  refine aw_iconst (v := 0) d_X8_readBeat_7 ic_0 ?_
  refine aw_Vi 11 [.int 0] [] d_X8_readBeat_8 (cV_X8_readSteps (d + 53) 0 0) kc_8 (ws_11 w2) tw_677 rfl (rr0 (Nat.le_of_ble_eq_true rfl) (Nat.le_of_ble_eq_true rfl)) (Nat.le_of_ble_eq_true rfl) xs0 k (fun r6 h4 kk => ?_)
  obtain ⟨w5, k⟩ := kk
  refine aw_if_eq (tgt := 27) d_X8_readBeat_11 rfl (fun c7 => ?_) (fun c7 => ?_)
  · have k := k.1 c7
    refine aw_aload_n (i := 0) rfl d_X8_readBeat_27 0 rfl ?_
    refine aw_geti (k0 := 3) kc_8 (ws_11 w5) (Nat.le_of_ble_eq_true rfl) tw_63 d_X8_readBeat_28 rfl ?_
    exact aw_iret rfl d_X8_readBeat_31 ⟨Nat.le_refl _, Nat.le_refl _⟩ ⟨_, rfl, k⟩
  · have k := k.2 c7
    refine aw_aload_n (i := 0) rfl d_X8_readBeat_14 0 rfl ?_
    refine aw_Vi 11 [] [] d_X8_readBeat_15 (cV_X8_peek (d + 0) 0 0) kc_8 (ws_11 w5) tw_685 rfl (rr0 (Nat.le_of_ble_eq_true rfl) (Nat.le_of_ble_eq_true rfl)) (Nat.le_of_ble_eq_true rfl) xs0 k (fun r10 h8 kk => ?_)
    obtain ⟨w9, k⟩ := kk
    refine aw_iconst (v := (-1)) d_X8_readBeat_18 ic_m1 ?_
    refine aw_icmp_eq (tgt := 27) d_X8_readBeat_19 rfl (fun c11 => ?_) (fun c11 => ?_)
    · have k := k.1 c11
      refine aw_aload_n (i := 0) rfl d_X8_readBeat_27 0 rfl ?_
      refine aw_geti (k0 := 3) kc_8 (ws_11 w9) (Nat.le_of_ble_eq_true rfl) tw_63 d_X8_readBeat_28 rfl ?_
      exact aw_iret rfl d_X8_readBeat_31 ⟨Nat.le_refl _, Nat.le_refl _⟩ ⟨_, rfl, k⟩
    · have k := k.2 c11
      refine aw_aload_n (i := 0) rfl d_X8_readBeat_22 0 rfl ?_
      refine aw_Vi 11 [] [] d_X8_readBeat_23 (cV_X8_fail (d + 0) 0 0) kc_8 (ws_11 w9) tw_715 rfl (rr0 (Nat.le_of_ble_eq_true rfl) (Nat.le_of_ble_eq_true rfl)) (Nat.le_of_ble_eq_true rfl) xs0 k (fun r14 h12 kk => ?_)
      obtain ⟨w13, k⟩ := kk
      refine aw_pop d_X8_readBeat_26 rfl ?_
      refine aw_aload_n (i := 0) rfl d_X8_readBeat_27 0 rfl ?_
      refine aw_geti (k0 := 3) kc_8 (ws_11 w13) (Nat.le_of_ble_eq_true rfl) tw_63 d_X8_readBeat_28 rfl ?_
      exact aw_iret rfl d_X8_readBeat_31 ⟨Nat.le_refl _, Nat.le_refl _⟩ ⟨_, rfl, k⟩
theorem t_X8_readStep (d : Nat) (h : Hp_) (w : Wf h) (x1 : Int32) (K : Int32 → Hp_ → Prop) (k : Ci (m_X8_peek (d + 0) 0 0) [.ref 11] h (fun r3 h1 => Wf h1 ∧ ((r3 = 40 → Ci (m_X8_readGroup (d + 51) 0 0) [.ref 11, .int x1] h1 (fun r7 h5 => Wf h5 ∧ ((r7 = 0 ∨ r7 = 1) ∧ (K r7 h5)))) ∧ ((r3 = 103 → Ci (m_X8_readNumber (d + 1) 0 0) [.ref 11, .int 0, .int 15] (h_im h1 11 2 ((h_i h1 11 2) + 1)) (fun r12 h10 => Wf h10 ∧ (Ci (m_X8_addStep (d + 1) 0 0) [.ref 11, .int 0, .int r12, .int 0] h10 (fun r15 h13 => Wf h13 ∧ ((r15 = 0 ∨ r15 = 1) ∧ (K r15 h13)))))) ∧ ((r3 = 108 → Ci (m_X8_addStep (d + 1) 0 0) [.ref 11, .int 3, .int 0, .int 0] (h_im h1 11 2 ((h_i h1 11 2) + 1)) (fun r20 h18 => Wf h18 ∧ ((r20 = 0 ∨ r20 = 1) ∧ (K r20 h18)))) ∧ ((r3 = 112 → Ci (m_X8_readPoint (d + 2) 0 0) [.ref 11] (h_im h1 11 2 ((h_i h1 11 2) + 1)) (fun r25 h23 => Wf h23 ∧ ((r25 = 0 ∨ r25 = 1) ∧ (K r25 h23)))) ∧ ((r3 = 119 → Ci (m_X8_readNumber (d + 1) 0 0) [.ref 11, .int 1, .int 240] (h_im h1 11 2 ((h_i h1 11 2) + 1)) (fun r30 h28 => Wf h28 ∧ (Ci (m_X8_addStep (d + 1) 0 0) [.ref 11, .int 1, .int 0, .int r30] h28 (fun r33 h31 => Wf h31 ∧ ((r33 = 0 ∨ r33 = 1) ∧ (K r33 h31)))))) ∧ ((¬ r3 = 40 ∧ ¬ r3 = 103 ∧ ¬ r3 = 108 ∧ ¬ r3 = 112 ∧ ¬ r3 = 119 → Ci (m_X8_fail (d + 0) 0 0) [.ref 11] h1 (fun r37 h35 => Wf h35 ∧ ((r37 = 0 ∨ r37 = 1) ∧ (K r37 h35)))))))))))) : Ci (m_X8_readStep (d + 52) 0 0) [.ref 11, .int x1] h K := by
  refine Ct.of (fun _ _ _ => trivial) pn_X8 (Nat.le_of_ble_eq_true rfl) ?_
  show AW (m_X8_readStep (d + 52) 0 0) 0 0 0 [(0, .ref 11), (1, .int x1)] [] h (kI K)
  refine aw_aload_n (i := 0) rfl d_X8_readStep_0 0 rfl ?_
  refine aw_Vi 11 [] [] d_X8_readStep_1 (cV_X8_peek (d + 0) 0 0) kc_8 (ws_11 w) tw_685 rfl (rr0 (Nat.le_of_ble_eq_true rfl) (Nat.le_of_ble_eq_true rfl)) (Nat.le_of_ble_eq_true rfl) xs0 k (fun r3 h1 kk => ?_)
  obtain ⟨w2, k⟩ := kk
  by_cases e4 : r3 = 40
  · refine aw_lookup (off := 134) (tgt := 138) d_X8_readStep_4 (by decide) (by rw [e4]; decide) rfl ?_
    have k := k.1 e4
    refine aw_aload_n (i := 0) rfl d_X8_readStep_138 0 rfl ?_
    refine aw_iload_n (i := 1) rfl d_X8_readStep_139 1 rfl ?_
    refine aw_Vi 11 [.int x1] [] d_X8_readStep_140 (cV_X8_readGroup (d + 51) 0 0) kc_8 (ws_11 w2) tw_711 rfl (rr0 (Nat.le_of_ble_eq_true rfl) (Nat.le_of_ble_eq_true rfl)) (Nat.le_of_ble_eq_true rfl) xs0 k (fun r7 h5 kk => ?_)
    obtain ⟨w6, k⟩ := kk
    obtain ⟨z8, k⟩ := k
    exact aw_zret rfl (nf_z z8).1 d_X8_readStep_143 ⟨Nat.le_refl _, Nat.le_refl _⟩ ⟨_, rfl, k⟩
  · have k := k.2
    by_cases e9 : r3 = 103
    · refine aw_lookup (off := 52) (tgt := 56) d_X8_readStep_4 (by decide) (by rw [e9]; decide) rfl ?_
      have k := k.1 e9
      refine aw_aload_n (i := 0) rfl d_X8_readStep_56 0 rfl ?_
      refine aw_dup d_X8_readStep_57 rfl ?_
      refine aw_geti (k0 := 2) kc_8 (ws_11 w2) (Nat.le_of_ble_eq_true rfl) tw_62 d_X8_readStep_58 rfl ?_
      refine aw_iconst (v := 1) d_X8_readStep_61 ic_1 ?_
      refine aw_iadd d_X8_readStep_62 ?_
      refine aw_puti (k0 := 2) kc_8 (ws_11 w2) (Nat.le_of_ble_eq_true rfl) tw_62 d_X8_readStep_63 rfl rfl nf_i ?_
      refine aw_aload_n (i := 0) rfl d_X8_readStep_66 0 rfl ?_
      refine aw_iconst (v := 0) d_X8_readStep_67 ic_0 ?_
      refine aw_aload_n (i := 0) rfl d_X8_readStep_68 0 rfl ?_
      refine aw_iconst (v := 0) d_X8_readStep_69 ic_0 ?_
      refine aw_bipush (v := 15) d_X8_readStep_70 ib_15 ?_
      refine aw_Vi 11 [.int 0, .int 15] [.int 0, .ref 11] d_X8_readStep_72 (cV_X8_readNumber (d + 1) 0 0) kc_8 (ws_11 w2) tw_689 rfl (rr0 (Nat.le_of_ble_eq_true rfl) (Nat.le_of_ble_eq_true rfl)) (Nat.le_of_ble_eq_true rfl) xs0 k (fun r12 h10 kk => ?_)
      obtain ⟨w11, k⟩ := kk
      refine aw_iconst (v := 0) d_X8_readStep_75 ic_0 ?_
      refine aw_Vi 11 [.int 0, .int r12, .int 0] [] d_X8_readStep_76 (cV_X8_addStep (d + 1) 0 0) kc_8 (ws_11 w11) tw_696 rfl (rr0 (Nat.le_of_ble_eq_true rfl) (Nat.le_of_ble_eq_true rfl)) (Nat.le_of_ble_eq_true rfl) xs0 k (fun r15 h13 kk => ?_)
      obtain ⟨w14, k⟩ := kk
      obtain ⟨z16, k⟩ := k
      exact aw_zret rfl (nf_z z16).1 d_X8_readStep_79 ⟨Nat.le_refl _, Nat.le_refl _⟩ ⟨_, rfl, k⟩
    · have k := k.2
      by_cases e17 : r3 = 108
      · refine aw_lookup (off := 116) (tgt := 120) d_X8_readStep_4 (by decide) (by rw [e17]; decide) rfl ?_
        have k := k.1 e17
        refine aw_aload_n (i := 0) rfl d_X8_readStep_120 0 rfl ?_
        refine aw_dup d_X8_readStep_121 rfl ?_
        refine aw_geti (k0 := 2) kc_8 (ws_11 w2) (Nat.le_of_ble_eq_true rfl) tw_62 d_X8_readStep_122 rfl ?_
        refine aw_iconst (v := 1) d_X8_readStep_125 ic_1 ?_
        refine aw_iadd d_X8_readStep_126 ?_
        refine aw_puti (k0 := 2) kc_8 (ws_11 w2) (Nat.le_of_ble_eq_true rfl) tw_62 d_X8_readStep_127 rfl rfl nf_i ?_
        refine aw_aload_n (i := 0) rfl d_X8_readStep_130 0 rfl ?_
        refine aw_iconst (v := 3) d_X8_readStep_131 ic_3 ?_
        refine aw_iconst (v := 0) d_X8_readStep_132 ic_0 ?_
        refine aw_iconst (v := 0) d_X8_readStep_133 ic_0 ?_
        refine aw_Vi 11 [.int 3, .int 0, .int 0] [] d_X8_readStep_134 (cV_X8_addStep (d + 1) 0 0) kc_8 (ws_11 w2) tw_696 rfl (rr0 (Nat.le_of_ble_eq_true rfl) (Nat.le_of_ble_eq_true rfl)) (Nat.le_of_ble_eq_true rfl) xs0 k (fun r20 h18 kk => ?_)
        obtain ⟨w19, k⟩ := kk
        obtain ⟨z21, k⟩ := k
        exact aw_zret rfl (nf_z z21).1 d_X8_readStep_137 ⟨Nat.le_refl _, Nat.le_refl _⟩ ⟨_, rfl, k⟩
      · have k := k.2
        by_cases e22 : r3 = 112
        · refine aw_lookup (off := 101) (tgt := 105) d_X8_readStep_4 (by decide) (by rw [e22]; decide) rfl ?_
          have k := k.1 e22
          refine aw_aload_n (i := 0) rfl d_X8_readStep_105 0 rfl ?_
          refine aw_dup d_X8_readStep_106 rfl ?_
          refine aw_geti (k0 := 2) kc_8 (ws_11 w2) (Nat.le_of_ble_eq_true rfl) tw_62 d_X8_readStep_107 rfl ?_
          refine aw_iconst (v := 1) d_X8_readStep_110 ic_1 ?_
          refine aw_iadd d_X8_readStep_111 ?_
          refine aw_puti (k0 := 2) kc_8 (ws_11 w2) (Nat.le_of_ble_eq_true rfl) tw_62 d_X8_readStep_112 rfl rfl nf_i ?_
          refine aw_aload_n (i := 0) rfl d_X8_readStep_115 0 rfl ?_
          refine aw_Vi 11 [] [] d_X8_readStep_116 (cV_X8_readPoint (d + 2) 0 0) kc_8 (ws_11 w2) tw_707 rfl (rr0 (Nat.le_of_ble_eq_true rfl) (Nat.le_of_ble_eq_true rfl)) (Nat.le_of_ble_eq_true rfl) xs0 k (fun r25 h23 kk => ?_)
          obtain ⟨w24, k⟩ := kk
          obtain ⟨z26, k⟩ := k
          exact aw_zret rfl (nf_z z26).1 d_X8_readStep_119 ⟨Nat.le_refl _, Nat.le_refl _⟩ ⟨_, rfl, k⟩
        · have k := k.2
          by_cases e27 : r3 = 119
          · refine aw_lookup (off := 76) (tgt := 80) d_X8_readStep_4 (by decide) (by rw [e27]; decide) rfl ?_
            have k := k.1 e27
            refine aw_aload_n (i := 0) rfl d_X8_readStep_80 0 rfl ?_
            refine aw_dup d_X8_readStep_81 rfl ?_
            refine aw_geti (k0 := 2) kc_8 (ws_11 w2) (Nat.le_of_ble_eq_true rfl) tw_62 d_X8_readStep_82 rfl ?_
            refine aw_iconst (v := 1) d_X8_readStep_85 ic_1 ?_
            refine aw_iadd d_X8_readStep_86 ?_
            refine aw_puti (k0 := 2) kc_8 (ws_11 w2) (Nat.le_of_ble_eq_true rfl) tw_62 d_X8_readStep_87 rfl rfl nf_i ?_
            refine aw_aload_n (i := 0) rfl d_X8_readStep_90 0 rfl ?_
            refine aw_iconst (v := 1) d_X8_readStep_91 ic_1 ?_
            refine aw_iconst (v := 0) d_X8_readStep_92 ic_0 ?_
            refine aw_aload_n (i := 0) rfl d_X8_readStep_93 0 rfl ?_
            refine aw_iconst (v := 1) d_X8_readStep_94 ic_1 ?_
            refine aw_sipush (v := 240) d_X8_readStep_95 is_240 ?_
            refine aw_Vi 11 [.int 1, .int 240] [.int 0, .int 1, .ref 11] d_X8_readStep_98 (cV_X8_readNumber (d + 1) 0 0) kc_8 (ws_11 w2) tw_689 rfl (rr0 (Nat.le_of_ble_eq_true rfl) (Nat.le_of_ble_eq_true rfl)) (Nat.le_of_ble_eq_true rfl) xs0 k (fun r30 h28 kk => ?_)
            obtain ⟨w29, k⟩ := kk
            refine aw_Vi 11 [.int 1, .int 0, .int r30] [] d_X8_readStep_101 (cV_X8_addStep (d + 1) 0 0) kc_8 (ws_11 w29) tw_696 rfl (rr0 (Nat.le_of_ble_eq_true rfl) (Nat.le_of_ble_eq_true rfl)) (Nat.le_of_ble_eq_true rfl) xs0 k (fun r33 h31 kk => ?_)
            obtain ⟨w32, k⟩ := kk
            obtain ⟨z34, k⟩ := k
            exact aw_zret rfl (nf_z z34).1 d_X8_readStep_104 ⟨Nat.le_refl _, Nat.le_refl _⟩ ⟨_, rfl, k⟩
          · have k := k.2
            have k := k ⟨e4, e9, e17, e22, e27⟩
            have n39 := sw_ne (40) (by decide) e4
            have n40 := sw_ne (103) (by decide) e9
            have n41 := sw_ne (108) (by decide) e17
            have n42 := sw_ne (112) (by decide) e22
            have n43 := sw_ne (119) (by decide) e27
            refine aw_lookup (off := 140) (tgt := 144) d_X8_readStep_4 (by decide) (by simp [Op.lookupswitch.offset, n39, n40, n41, n42, n43, Ne.symm n39, Ne.symm n40, Ne.symm n41, Ne.symm n42, Ne.symm n43]) rfl ?_
            refine aw_aload_n (i := 0) rfl d_X8_readStep_144 0 rfl ?_
            refine aw_Vi 11 [] [] d_X8_readStep_145 (cV_X8_fail (d + 0) 0 0) kc_8 (ws_11 w2) tw_715 rfl (rr0 (Nat.le_of_ble_eq_true rfl) (Nat.le_of_ble_eq_true rfl)) (Nat.le_of_ble_eq_true rfl) xs0 k (fun r37 h35 kk => ?_)
            obtain ⟨w36, k⟩ := kk
            obtain ⟨z38, k⟩ := k
            exact aw_zret rfl (nf_z z38).1 d_X8_readStep_148 ⟨Nat.le_refl _, Nat.le_refl _⟩ ⟨_, rfl, k⟩
theorem t_X8_readSteps (d : Nat) (h : Hp_) (w : Wf h) (x1 : Int32) (K : Int32 → Hp_ → Prop) (k : Ci (m_X8_readStep (d + 52) 0 0) [.ref 11, .int x1] h (fun r3 h1 => Wf h1 ∧ (AW (m_X8_readSteps (d + 53) 0 0) 0 0 8 [(0, .ref 11), (1, .int x1), (2, .int r3), (3, .int 0)] [] h1 (kI K)))) : Ci (m_X8_readSteps (d + 53) 0 0) [.ref 11, .int x1] h K := by
  refine Ct.of (fun _ _ _ => trivial) pn_X8 (Nat.le_of_ble_eq_true rfl) ?_
  show AW (m_X8_readSteps (d + 53) 0 0) 0 0 0 [(0, .ref 11), (1, .int x1)] [] h (kI K)
  refine aw_aload_n (i := 0) rfl d_X8_readSteps_0 0 rfl ?_
  refine aw_iload_n (i := 1) rfl d_X8_readSteps_1 1 rfl ?_
  refine aw_Vi 11 [.int x1] [] d_X8_readSteps_2 (cV_X8_readStep (d + 52) 0 0) kc_8 (ws_11 w) tw_681 rfl (rr0 (Nat.le_of_ble_eq_true rfl) (Nat.le_of_ble_eq_true rfl)) (Nat.le_of_ble_eq_true rfl) xs0 k (fun r3 h1 kk => ?_)
  obtain ⟨w2, k⟩ := kk
  refine aw_istore_n (i := 2) rfl [(0, .ref 11), (1, .int x1), (2, .int r3)] d_X8_readSteps_5 (Nat.le_of_ble_eq_true rfl) rfl rfl ?_
  refine aw_iconst (v := 0) d_X8_readSteps_6 ic_0 ?_
  refine aw_istore_n (i := 3) rfl [(0, .ref 11), (1, .int x1), (2, .int r3), (3, .int 0)] d_X8_readSteps_7 (Nat.le_of_ble_eq_true rfl) rfl rfl ?_
  exact k
theorem t_X8_readSteps_8 (d : Nat) (h : Hp_) (w : Wf h) (x1 : Int32) (x2 : Int32) (x3 : Int32) (K : Int32 → Hp_ → Prop) (k : (160 ≤ x3 → (x2 = 0 ∨ x2 = 1) ∧ (K x2 h)) ∧ (¬ 160 ≤ x3 → (x2 = 0 → (x2 = 0 ∨ x2 = 1) ∧ (K x2 h)) ∧ (¬ x2 = 0 → Ci (m_X8_peek (d + 0) 0 0) [.ref 11] h (fun r10 h8 => Wf h8 ∧ ((¬ r10 = 59 → (x2 = 0 ∨ x2 = 1) ∧ (K x2 h8)) ∧ (r10 = 59 → Ci (m_X8_readStep (d + 52) 0 0) [.ref 11, .int x1] (h_im h8 11 2 ((h_i h8 11 2) + 1)) (fun r15 h13 => Wf h13 ∧ (AW (m_X8_readSteps (d + 53) 0 0) 0 0 8 [(0, .ref 11), (1, .int x1), (2, .int r15), (3, .int (x3 + 1))] [] h13 (kI K))))))))) : AW (m_X8_readSteps (d + 53) 0 0) 0 0 8 [(0, .ref 11), (1, .int x1), (2, .int x2), (3, .int x3)] [] h (kI K) := by
  refine aw_iload_n (i := 3) rfl d_X8_readSteps_8 3 rfl ?_
  refine aw_sipush (v := 160) d_X8_readSteps_9 is_160 ?_
  refine aw_icmp_ge (tgt := 50) d_X8_readSteps_12 rfl (fun c4 => ?_) (fun c4 => ?_)
  · have k := k.1 c4
    refine aw_iload_n (i := 2) rfl d_X8_readSteps_50 2 rfl ?_
    obtain ⟨z5, k⟩ := k
    exact aw_zret rfl (nf_z z5).1 d_X8_readSteps_51 ⟨Nat.le_refl _, Nat.le_refl _⟩ ⟨_, rfl, k⟩
  · have k := k.2 c4
    refine aw_iload_n (i := 2) rfl d_X8_readSteps_15 2 rfl ?_
    refine aw_if_eq (tgt := 50) d_X8_readSteps_16 rfl (fun c6 => ?_) (fun c6 => ?_)
    · have k := k.1 c6
      refine aw_iload_n (i := 2) rfl d_X8_readSteps_50 2 rfl ?_
      obtain ⟨z7, k⟩ := k
      exact aw_zret rfl (nf_z z7).1 d_X8_readSteps_51 ⟨Nat.le_refl _, Nat.le_refl _⟩ ⟨_, rfl, k⟩
    · have k := k.2 c6
      refine aw_aload_n (i := 0) rfl d_X8_readSteps_19 0 rfl ?_
      refine aw_Vi 11 [] [] d_X8_readSteps_20 (cV_X8_peek (d + 0) 0 0) kc_8 (ws_11 w) tw_685 rfl (rr0 (Nat.le_of_ble_eq_true rfl) (Nat.le_of_ble_eq_true rfl)) (Nat.le_of_ble_eq_true rfl) xs0 k (fun r10 h8 kk => ?_)
      obtain ⟨w9, k⟩ := kk
      refine aw_bipush (v := 59) d_X8_readSteps_23 ib_59 ?_
      refine aw_icmp_ne (tgt := 50) d_X8_readSteps_25 rfl (fun c11 => ?_) (fun c11 => ?_)
      · have k := k.1 c11
        refine aw_iload_n (i := 2) rfl d_X8_readSteps_50 2 rfl ?_
        obtain ⟨z12, k⟩ := k
        exact aw_zret rfl (nf_z z12).1 d_X8_readSteps_51 ⟨Nat.le_refl _, Nat.le_refl _⟩ ⟨_, rfl, k⟩
      · have k := k.2 c11
        refine aw_aload_n (i := 0) rfl d_X8_readSteps_28 0 rfl ?_
        refine aw_dup d_X8_readSteps_29 rfl ?_
        refine aw_geti (k0 := 2) kc_8 (ws_11 w9) (Nat.le_of_ble_eq_true rfl) tw_62 d_X8_readSteps_30 rfl ?_
        refine aw_iconst (v := 1) d_X8_readSteps_33 ic_1 ?_
        refine aw_iadd d_X8_readSteps_34 ?_
        refine aw_puti (k0 := 2) kc_8 (ws_11 w9) (Nat.le_of_ble_eq_true rfl) tw_62 d_X8_readSteps_35 rfl rfl nf_i ?_
        refine aw_aload_n (i := 0) rfl d_X8_readSteps_38 0 rfl ?_
        refine aw_iload_n (i := 1) rfl d_X8_readSteps_39 1 rfl ?_
        refine aw_Vi 11 [.int x1] [] d_X8_readSteps_40 (cV_X8_readStep (d + 52) 0 0) kc_8 (ws_11 w9) tw_681 rfl (rr0 (Nat.le_of_ble_eq_true rfl) (Nat.le_of_ble_eq_true rfl)) (Nat.le_of_ble_eq_true rfl) xs0 k (fun r15 h13 kk => ?_)
        obtain ⟨w14, k⟩ := kk
        refine aw_istore_n (i := 2) rfl [(0, .ref 11), (1, .int x1), (2, .int r15), (3, .int x3)] d_X8_readSteps_43 (Nat.le_of_ble_eq_true rfl) rfl rfl ?_
        refine aw_iinc (v := (x3 + 1)) [(0, .ref 11), (1, .int x1), (2, .int r15), (3, .int (x3 + 1))] d_X8_readSteps_44 3 rfl rfl (Nat.le_of_ble_eq_true rfl) rfl rfl ?_
        refine aw_goto (tgt := 8) d_X8_readSteps_47 rfl ?_
        exact k
theorem t_X8_readPoint (d : Nat) (h : Hp_) (w : Wf h)  (K : Int32 → Hp_ → Prop) (k : Ci (m_X8_readNumber (d + 1) 0 0) [.ref 11, .int 0, .int 15] h (fun r3 h1 => Wf h1 ∧ ((r3 = (-1) → K 0 h1) ∧ (¬ r3 = (-1) → Ci (m_X8_readNumber (d + 1) 0 0) [.ref 11, .int 0, .int 1440] h1 (fun r7 h5 => Wf h5 ∧ (Ci (m_X8_addStep (d + 1) 0 0) [.ref 11, .int 2, .int r3, .int r7] h5 (fun r10 h8 => Wf h8 ∧ ((r10 = 0 → K 0 h8) ∧ (¬ r10 = 0 → K 1 h8))))))))) : Ci (m_X8_readPoint (d + 2) 0 0) [.ref 11] h K := by
  refine Ct.of (fun _ _ _ => trivial) pn_X8 (Nat.le_of_ble_eq_true rfl) ?_
  show AW (m_X8_readPoint (d + 2) 0 0) 0 0 0 [(0, .ref 11)] [] h (kI K)
  refine aw_aload_n (i := 0) rfl d_X8_readPoint_0 0 rfl ?_
  refine aw_iconst (v := 0) d_X8_readPoint_1 ic_0 ?_
  refine aw_bipush (v := 15) d_X8_readPoint_2 ib_15 ?_
  refine aw_Vi 11 [.int 0, .int 15] [] d_X8_readPoint_4 (cV_X8_readNumber (d + 1) 0 0) kc_8 (ws_11 w) tw_689 rfl (rr0 (Nat.le_of_ble_eq_true rfl) (Nat.le_of_ble_eq_true rfl)) (Nat.le_of_ble_eq_true rfl) xs0 k (fun r3 h1 kk => ?_)
  obtain ⟨w2, k⟩ := kk
  refine aw_istore_n (i := 1) rfl [(0, .ref 11), (1, .int r3)] d_X8_readPoint_7 (Nat.le_of_ble_eq_true rfl) rfl rfl ?_
  refine aw_iload_n (i := 1) rfl d_X8_readPoint_8 1 rfl ?_
  refine aw_iconst (v := (-1)) d_X8_readPoint_9 ic_m1 ?_
  refine aw_icmp_eq (tgt := 34) d_X8_readPoint_10 rfl (fun c4 => ?_) (fun c4 => ?_)
  · have k := k.1 c4
    refine aw_iconst (v := 0) d_X8_readPoint_34 ic_0 ?_
    exact aw_zret rfl rfl d_X8_readPoint_35 ⟨Nat.le_refl _, Nat.le_refl _⟩ ⟨_, rfl, k⟩
  · have k := k.2 c4
    refine aw_aload_n (i := 0) rfl d_X8_readPoint_13 0 rfl ?_
    refine aw_iconst (v := 2) d_X8_readPoint_14 ic_2 ?_
    refine aw_iload_n (i := 1) rfl d_X8_readPoint_15 1 rfl ?_
    refine aw_aload_n (i := 0) rfl d_X8_readPoint_16 0 rfl ?_
    refine aw_iconst (v := 0) d_X8_readPoint_17 ic_0 ?_
    refine aw_sipush (v := 1440) d_X8_readPoint_18 is_1440 ?_
    refine aw_Vi 11 [.int 0, .int 1440] [.int r3, .int 2, .ref 11] d_X8_readPoint_21 (cV_X8_readNumber (d + 1) 0 0) kc_8 (ws_11 w2) tw_689 rfl (rr0 (Nat.le_of_ble_eq_true rfl) (Nat.le_of_ble_eq_true rfl)) (Nat.le_of_ble_eq_true rfl) xs0 k (fun r7 h5 kk => ?_)
    obtain ⟨w6, k⟩ := kk
    refine aw_Vi 11 [.int 2, .int r3, .int r7] [] d_X8_readPoint_24 (cV_X8_addStep (d + 1) 0 0) kc_8 (ws_11 w6) tw_696 rfl (rr0 (Nat.le_of_ble_eq_true rfl) (Nat.le_of_ble_eq_true rfl)) (Nat.le_of_ble_eq_true rfl) xs0 k (fun r10 h8 kk => ?_)
    obtain ⟨w9, k⟩ := kk
    refine aw_if_eq (tgt := 34) d_X8_readPoint_27 rfl (fun c11 => ?_) (fun c11 => ?_)
    · have k := k.1 c11
      refine aw_iconst (v := 0) d_X8_readPoint_34 ic_0 ?_
      exact aw_zret rfl rfl d_X8_readPoint_35 ⟨Nat.le_refl _, Nat.le_refl _⟩ ⟨_, rfl, k⟩
    · have k := k.2 c11
      refine aw_iconst (v := 1) d_X8_readPoint_30 ic_1 ?_
      refine aw_goto (tgt := 35) d_X8_readPoint_31 rfl ?_
      exact aw_zret rfl rfl d_X8_readPoint_35 ⟨Nat.le_refl _, Nat.le_refl _⟩ ⟨_, rfl, k⟩
theorem t_X8_readGroup (d : Nat) (h : Hp_) (w : Wf h) (x1 : Int32) (K : Int32 → Hp_ → Prop) (k : (x1 < 4 → Ci (m_X8_readSteps (d + 53) 0 0) [.ref 11, .int (x1 + 1)] (h_im h 11 2 ((h_i h 11 2) + 1)) (fun r4 h2 => Wf h2 ∧ ((r4 = 0 → K 0 h2) ∧ (¬ r4 = 0 → Ci (m_X8_expect (d + 1) 0 0) [.ref 11, .int 41] h2 (fun r8 h6 => Wf h6 ∧ ((¬ r8 = 0 → Ci (m_X8_readNumber (d + 1) 0 0) [.ref 11, .int 1, .int 20] h6 (fun r12 h10 => Wf h10 ∧ ((¬ r12 = (-1) → AW (m_X8_readGroup (d + 61) 0 0) 0 0 70 [(0, .ref 11), (2, .int (h_i h 11 6)), (3, .int r12), (4, .int (h_i h10 11 6)), (5, .int 1)] [] h10 (kI K)) ∧ (r12 = (-1) → K 0 h10)))) ∧ (r8 = 0 → K 0 h6))))))) ∧ (¬ x1 < 4 → Ci (m_X8_fail (d + 0) 0 0) [.ref 11] h (fun r16 h14 => Wf h14 ∧ ((r16 = 0 ∨ r16 = 1) ∧ (K r16 h14))))) : Ci (m_X8_readGroup (d + 61) 0 0) [.ref 11, .int x1] h K := by
  refine Ct.of (fun _ _ _ => trivial) pn_X8 (Nat.le_of_ble_eq_true rfl) ?_
  show AW (m_X8_readGroup (d + 61) 0 0) 0 0 0 [(0, .ref 11), (1, .int x1)] [] h (kI K)
  refine aw_iload_n (i := 1) rfl d_X8_readGroup_0 1 rfl ?_
  refine aw_iconst (v := 4) d_X8_readGroup_1 ic_4 ?_
  refine aw_icmp_lt (tgt := 10) d_X8_readGroup_2 rfl (fun c1 => ?_) (fun c1 => ?_)
  · have k := k.1 c1
    refine aw_aload_n (i := 0) rfl d_X8_readGroup_10 0 rfl ?_
    refine aw_dup d_X8_readGroup_11 rfl ?_
    refine aw_geti (k0 := 2) kc_8 (ws_11 w) (Nat.le_of_ble_eq_true rfl) tw_62 d_X8_readGroup_12 rfl ?_
    refine aw_iconst (v := 1) d_X8_readGroup_15 ic_1 ?_
    refine aw_iadd d_X8_readGroup_16 ?_
    refine aw_puti (k0 := 2) kc_8 (ws_11 w) (Nat.le_of_ble_eq_true rfl) tw_62 d_X8_readGroup_17 rfl rfl nf_i ?_
    refine aw_aload_n (i := 0) rfl d_X8_readGroup_20 0 rfl ?_
    refine aw_geti (k0 := 6) kc_8 (ws_11 w) (Nat.le_of_ble_eq_true rfl) tw_68 d_X8_readGroup_21 rfl ?_
    refine aw_vi (v2 := (h_i h 11 6)) (rfl) ?_
    refine aw_istore_n (i := 2) rfl [(0, .ref 11), (1, .int x1), (2, .int (h_i h 11 6))] d_X8_readGroup_24 (Nat.le_of_ble_eq_true rfl) rfl rfl ?_
    refine aw_aload_n (i := 0) rfl d_X8_readGroup_25 0 rfl ?_
    refine aw_iload_n (i := 1) rfl d_X8_readGroup_26 1 rfl ?_
    refine aw_iconst (v := 1) d_X8_readGroup_27 ic_1 ?_
    refine aw_iadd d_X8_readGroup_28 ?_
    refine aw_Vi 11 [.int (x1 + 1)] [] d_X8_readGroup_29 (cV_X8_readSteps (d + 53) 0 0) kc_8 (ws_11 w) tw_677 rfl (rr0 (Nat.le_of_ble_eq_true rfl) (Nat.le_of_ble_eq_true rfl)) (Nat.le_of_ble_eq_true rfl) xs0 k (fun r4 h2 kk => ?_)
    obtain ⟨w3, k⟩ := kk
    refine aw_if_eq (tgt := 44) d_X8_readGroup_32 rfl (fun c5 => ?_) (fun c5 => ?_)
    · have k := k.1 c5
      refine aw_iconst (v := 0) d_X8_readGroup_44 ic_0 ?_
      exact aw_zret rfl rfl d_X8_readGroup_45 ⟨Nat.le_refl _, Nat.le_refl _⟩ ⟨_, rfl, k⟩
    · have k := k.2 c5
      refine aw_aload_n (i := 0) rfl d_X8_readGroup_35 0 rfl ?_
      refine aw_bipush (v := 41) d_X8_readGroup_36 ib_41 ?_
      refine aw_Vi 11 [.int 41] [] d_X8_readGroup_38 (cV_X8_expect (d + 1) 0 0) kc_8 (ws_11 w3) tw_719 rfl (rr0 (Nat.le_of_ble_eq_true rfl) (Nat.le_of_ble_eq_true rfl)) (Nat.le_of_ble_eq_true rfl) xs0 k (fun r8 h6 kk => ?_)
      obtain ⟨w7, k⟩ := kk
      refine aw_if_ne (tgt := 46) d_X8_readGroup_41 rfl (fun c9 => ?_) (fun c9 => ?_)
      · have k := k.1 c9
        refine aw_aload_n (i := 0) rfl d_X8_readGroup_46 0 rfl ?_
        refine aw_iconst (v := 1) d_X8_readGroup_47 ic_1 ?_
        refine aw_bipush (v := 20) d_X8_readGroup_48 ib_20 ?_
        refine aw_Vi 11 [.int 1, .int 20] [] d_X8_readGroup_50 (cV_X8_readNumber (d + 1) 0 0) kc_8 (ws_11 w7) tw_689 rfl (rr0 (Nat.le_of_ble_eq_true rfl) (Nat.le_of_ble_eq_true rfl)) (Nat.le_of_ble_eq_true rfl) xs0 k (fun r12 h10 kk => ?_)
        obtain ⟨w11, k⟩ := kk
        refine aw_istore_n (i := 3) rfl [(0, .ref 11), (1, .int x1), (2, .int (h_i h 11 6)), (3, .int r12)] d_X8_readGroup_53 (Nat.le_of_ble_eq_true rfl) rfl rfl ?_
        refine aw_iload_n (i := 3) rfl d_X8_readGroup_54 3 rfl ?_
        refine aw_iconst (v := (-1)) d_X8_readGroup_55 ic_m1 ?_
        refine aw_icmp_ne (tgt := 61) d_X8_readGroup_56 rfl (fun c13 => ?_) (fun c13 => ?_)
        · have k := k.1 c13
          refine aw_aload_n (i := 0) rfl d_X8_readGroup_61 0 rfl ?_
          refine aw_geti (k0 := 6) kc_8 (ws_11 w11) (Nat.le_of_ble_eq_true rfl) tw_68 d_X8_readGroup_62 rfl ?_
          refine aw_istore [(0, .ref 11), (1, .int x1), (2, .int (h_i h 11 6)), (3, .int r12), (4, .int (h_i h10 11 6))] d_X8_readGroup_65 (Nat.le_of_ble_eq_true rfl) rfl rfl ?_
          refine aw_iconst (v := 1) d_X8_readGroup_67 ic_1 ?_
          refine aw_istore [(0, .ref 11), (1, .int x1), (2, .int (h_i h 11 6)), (3, .int r12), (4, .int (h_i h10 11 6)), (5, .int 1)] d_X8_readGroup_68 (Nat.le_of_ble_eq_true rfl) rfl rfl ?_
          exact aw_lvp [0, 2, 3, 4, 5] [(0, .ref 11), (2, .int (h_i h 11 6)), (3, .int r12), (4, .int (h_i h10 11 6)), (5, .int 1)] rfl k
        · have k := k.2 c13
          refine aw_iconst (v := 0) d_X8_readGroup_59 ic_0 ?_
          exact aw_zret rfl rfl d_X8_readGroup_60 ⟨Nat.le_refl _, Nat.le_refl _⟩ ⟨_, rfl, k⟩
      · have k := k.2 c9
        refine aw_iconst (v := 0) d_X8_readGroup_44 ic_0 ?_
        exact aw_zret rfl rfl d_X8_readGroup_45 ⟨Nat.le_refl _, Nat.le_refl _⟩ ⟨_, rfl, k⟩
  · have k := k.2 c1
    refine aw_aload_n (i := 0) rfl d_X8_readGroup_5 0 rfl ?_
    refine aw_Vi 11 [] [] d_X8_readGroup_6 (cV_X8_fail (d + 0) 0 0) kc_8 (ws_11 w) tw_715 rfl (rr0 (Nat.le_of_ble_eq_true rfl) (Nat.le_of_ble_eq_true rfl)) (Nat.le_of_ble_eq_true rfl) xs0 k (fun r16 h14 kk => ?_)
    obtain ⟨w15, k⟩ := kk
    obtain ⟨z17, k⟩ := k
    exact aw_zret rfl (nf_z z17).1 d_X8_readGroup_9 ⟨Nat.le_refl _, Nat.le_refl _⟩ ⟨_, rfl, k⟩
theorem t_X8_readGroup_70 (d : Nat) (h : Hp_) (w : Wf h) (x2 : Int32) (x3 : Int32) (x4 : Int32) (x5 : Int32) (K : Int32 → Hp_ → Prop) (k : (x3 ≤ x5 → K 1 h) ∧ (¬ x3 ≤ x5 → (¬ (h_i h 11 7) = 0 → K 1 h) ∧ ((h_i h 11 7) = 0 → AW (m_X8_readGroup (d + 61) 0 0) 0 0 86 [(0, .ref 11), (2, .int x2), (3, .int x3), (4, .int x4), (5, .int x5), (6, .int x2)] [] h (kI K)))) : AW (m_X8_readGroup (d + 61) 0 0) 0 0 70 [(0, .ref 11), (2, .int x2), (3, .int x3), (4, .int x4), (5, .int x5)] [] h (kI K) := by
  refine aw_iload d_X8_readGroup_70 4 rfl ?_
  refine aw_iload_n (i := 3) rfl d_X8_readGroup_72 2 rfl ?_
  refine aw_icmp_ge (tgt := 116) d_X8_readGroup_73 rfl (fun c18 => ?_) (fun c18 => ?_)
  · have k := k.1 c18
    refine aw_iconst (v := 1) d_X8_readGroup_116 ic_1 ?_
    exact aw_zret rfl rfl d_X8_readGroup_117 ⟨Nat.le_refl _, Nat.le_refl _⟩ ⟨_, rfl, k⟩
  · have k := k.2 c18
    refine aw_aload_n (i := 0) rfl d_X8_readGroup_76 0 rfl ?_
    refine aw_geti (k0 := 7) kc_8 (ws_11 w) (Nat.le_of_ble_eq_true rfl) tw_70 d_X8_readGroup_77 rfl ?_
    refine aw_if_ne (tgt := 116) d_X8_readGroup_80 rfl (fun c19 => ?_) (fun c19 => ?_)
    · have k := k.1 c19
      refine aw_iconst (v := 1) d_X8_readGroup_116 ic_1 ?_
      exact aw_zret rfl rfl d_X8_readGroup_117 ⟨Nat.le_refl _, Nat.le_refl _⟩ ⟨_, rfl, k⟩
    · have k := k.2 c19
      refine aw_iload_n (i := 2) rfl d_X8_readGroup_83 1 rfl ?_
      refine aw_istore [(0, .ref 11), (2, .int x2), (3, .int x3), (4, .int x4), (5, .int x5), (6, .int x2)] d_X8_readGroup_84 (Nat.le_of_ble_eq_true rfl) rfl rfl ?_
      exact k
theorem t_X8_readGroup_86 (d : Nat) (h : Hp_) (w : Wf h) (x2 : Int32) (x3 : Int32) (x4 : Int32) (x5 : Int32) (x6 : Int32) (K : Int32 → Hp_ → Prop) (k : (x4 ≤ x6 → AW (m_X8_readGroup (d + 61) 0 0) 0 0 70 [(0, .ref 11), (2, .int x2), (3, .int x3), (4, .int x4), (5, .int (x5 + 1))] [] h (kI K)) ∧ (¬ x4 ≤ x6 → vp_in x6 150 ∧ (Cv (m_X8_appendStep (d + 0) 0 0) [.ref 11, .int (h_i h 32 x6.toNatClampNeg)] h (fun h22 => Wf h22 ∧ (AW (m_X8_readGroup (d + 61) 0 0) 0 0 86 [(0, .ref 11), (2, .int x2), (3, .int x3), (4, .int x4), (5, .int x5), (6, .int (x6 + 1))] [] h22 (kI K)))))) : AW (m_X8_readGroup (d + 61) 0 0) 0 0 86 [(0, .ref 11), (2, .int x2), (3, .int x3), (4, .int x4), (5, .int x5), (6, .int x6)] [] h (kI K) := by
  refine aw_iload d_X8_readGroup_86 5 rfl ?_
  refine aw_iload d_X8_readGroup_88 3 rfl ?_
  refine aw_icmp_ge (tgt := 110) d_X8_readGroup_90 rfl (fun c20 => ?_) (fun c20 => ?_)
  · have k := k.1 c20
    refine aw_iinc (v := (x5 + 1)) [(0, .ref 11), (2, .int x2), (3, .int x3), (4, .int x4), (5, .int (x5 + 1)), (6, .int x6)] d_X8_readGroup_110 4 rfl rfl (Nat.le_of_ble_eq_true rfl) rfl rfl ?_
    refine aw_goto (tgt := 70) d_X8_readGroup_113 rfl ?_
    exact aw_lvp [0, 1, 2, 3, 4] [(0, .ref 11), (2, .int x2), (3, .int x3), (4, .int x4), (5, .int (x5 + 1))] rfl k
  · have k := k.2 c20
    refine aw_aload_n (i := 0) rfl d_X8_readGroup_93 0 rfl ?_
    refine aw_aload_n (i := 0) rfl d_X8_readGroup_94 0 rfl ?_
    refine aw_getr (k0 := 5) kc_8 (ws_11 w) (Nat.le_of_ble_eq_true rfl) tw_65 d_X8_readGroup_95 rfl (wr_11_5 w) ?_
    refine aw_iload d_X8_readGroup_98 5 rfl ?_
    obtain ⟨b21, k⟩ := k
    refine aw_iald (ws_32 w) b21 d_X8_readGroup_100 ?_
    refine aw_Vv 11 [.int (h_i h 32 x6.toNatClampNeg)] [] d_X8_readGroup_101 (cV_X8_appendStep (d + 0) 0 0) kc_8 (ws_11 w) tw_703 rfl (rr0 (Nat.le_of_ble_eq_true rfl) (Nat.le_of_ble_eq_true rfl)) (Nat.le_of_ble_eq_true rfl) xs0 k (fun h22 kk => ?_)
    obtain ⟨w23, k⟩ := kk
    refine aw_iinc (v := (x6 + 1)) [(0, .ref 11), (2, .int x2), (3, .int x3), (4, .int x4), (5, .int x5), (6, .int (x6 + 1))] d_X8_readGroup_104 5 rfl rfl (Nat.le_of_ble_eq_true rfl) rfl rfl ?_
    refine aw_goto (tgt := 86) d_X8_readGroup_107 rfl ?_
    exact k
theorem t_X8_addStep (d : Nat) (h : Hp_) (x1 : Int32) (x2 : Int32) (x3 : Int32) (K : Int32 → Hp_ → Prop) (k : (x2 = (-1) → K 0 h) ∧ (¬ x2 = (-1) → (¬ x3 = (-1) → Ci (m_X0_pack (d + 0) 0 0) [.int x1, .int x2, .int x3] h (fun r5 h3 => Wf h3 ∧ (Cv (m_X8_appendStep (d + 0) 0 0) [.ref 11, .int r5] h3 (fun h6 => Wf h6 ∧ (K 1 h6))))) ∧ (x3 = (-1) → K 0 h))) : Ci (m_X8_addStep (d + 1) 0 0) [.ref 11, .int x1, .int x2, .int x3] h K := by
  refine Ct.of (fun _ _ _ => trivial) pn_X8 (Nat.le_of_ble_eq_true rfl) ?_
  show AW (m_X8_addStep (d + 1) 0 0) 0 0 0 [(0, .ref 11), (1, .int x1), (2, .int x2), (3, .int x3)] [] h (kI K)
  refine aw_iload_n (i := 2) rfl d_X8_addStep_0 2 rfl ?_
  refine aw_iconst (v := (-1)) d_X8_addStep_1 ic_m1 ?_
  refine aw_icmp_eq (tgt := 10) d_X8_addStep_2 rfl (fun c1 => ?_) (fun c1 => ?_)
  · have k := k.1 c1
    refine aw_iconst (v := 0) d_X8_addStep_10 ic_0 ?_
    exact aw_zret rfl rfl d_X8_addStep_11 ⟨Nat.le_refl _, Nat.le_refl _⟩ ⟨_, rfl, k⟩
  · have k := k.2 c1
    refine aw_iload_n (i := 3) rfl d_X8_addStep_5 3 rfl ?_
    refine aw_iconst (v := (-1)) d_X8_addStep_6 ic_m1 ?_
    refine aw_icmp_ne (tgt := 12) d_X8_addStep_7 rfl (fun c2 => ?_) (fun c2 => ?_)
    · have k := k.1 c2
      refine aw_aload_n (i := 0) rfl d_X8_addStep_12 0 rfl ?_
      refine aw_iload_n (i := 1) rfl d_X8_addStep_13 1 rfl ?_
      refine aw_iload_n (i := 2) rfl d_X8_addStep_14 2 rfl ?_
      refine aw_iload_n (i := 3) rfl d_X8_addStep_15 3 rfl ?_
      refine aw_Si [.int x1, .int x2, .int x3] [.ref 11] d_X8_addStep_16 (cS_X0_pack (d + 0) 0 0) tw_700 rfl (rr0 (Nat.le_of_ble_eq_true rfl) (Nat.le_of_ble_eq_true rfl)) (Nat.le_of_ble_eq_true rfl) xs0 k (fun r5 h3 kk => ?_)
      obtain ⟨w4, k⟩ := kk
      refine aw_Vv 11 [.int r5] [] d_X8_addStep_19 (cV_X8_appendStep (d + 0) 0 0) kc_8 (ws_11 w4) tw_703 rfl (rr0 (Nat.le_of_ble_eq_true rfl) (Nat.le_of_ble_eq_true rfl)) (Nat.le_of_ble_eq_true rfl) xs0 k (fun h6 kk => ?_)
      obtain ⟨w7, k⟩ := kk
      refine aw_iconst (v := 1) d_X8_addStep_22 ic_1 ?_
      exact aw_zret rfl rfl d_X8_addStep_23 ⟨Nat.le_refl _, Nat.le_refl _⟩ ⟨_, rfl, k⟩
    · have k := k.2 c2
      refine aw_iconst (v := 0) d_X8_addStep_10 ic_0 ?_
      exact aw_zret rfl rfl d_X8_addStep_11 ⟨Nat.le_refl _, Nat.le_refl _⟩ ⟨_, rfl, k⟩
theorem t_X8_appendStep (d : Nat) (h : Hp_) (w : Wf h) (x1 : Int32) (K : Hp_ → Prop) (k : (150 ≤ (h_i h 11 6) → K (h_im h 11 7 1)) ∧ (¬ 150 ≤ (h_i h 11 6) → vp_in (h_i h 11 6) 150 ∧ (K (h_im (h_im h 32 ((h_i h 11 6) : Int32).toNatClampNeg x1) 11 6 ((h_i h 11 6) + 1))))) : Cv (m_X8_appendStep (d + 0) 0 0) [.ref 11, .int x1] h K := by
  refine Ct.of (fun _ _ _ => trivial) pn_X8 (Nat.le_of_ble_eq_true rfl) ?_
  show AW (m_X8_appendStep (d + 0) 0 0) 0 0 0 [(0, .ref 11), (1, .int x1)] [] h (kV K)
  refine aw_aload_n (i := 0) rfl d_X8_appendStep_0 0 rfl ?_
  refine aw_geti (k0 := 6) kc_8 (ws_11 w) (Nat.le_of_ble_eq_true rfl) tw_68 d_X8_appendStep_1 rfl ?_
  refine aw_aload_n (i := 0) rfl d_X8_appendStep_4 0 rfl ?_
  refine aw_getr (k0 := 5) kc_8 (ws_11 w) (Nat.le_of_ble_eq_true rfl) tw_65 d_X8_appendStep_5 rfl (wr_11_5 w) ?_
  refine aw_alen (v := 150) (ws_32 w) (Nat.le_of_ble_eq_true rfl) rfl d_X8_appendStep_8 ?_
  refine aw_icmp_ge (tgt := 35) d_X8_appendStep_9 rfl (fun c1 => ?_) (fun c1 => ?_)
  · have k := k.1 c1
    refine aw_aload_n (i := 0) rfl d_X8_appendStep_35 0 rfl ?_
    refine aw_iconst (v := 1) d_X8_appendStep_36 ic_1 ?_
    refine aw_puti (k0 := 7) kc_8 (ws_11 w) (Nat.le_of_ble_eq_true rfl) tw_70 d_X8_appendStep_37 rfl rfl ⟨rfl, rfl⟩ ?_
    exact aw_vret rfl d_X8_appendStep_40 ⟨Nat.le_refl _, Nat.le_refl _⟩ ⟨rfl, k⟩
  · have k := k.2 c1
    refine aw_aload_n (i := 0) rfl d_X8_appendStep_12 0 rfl ?_
    refine aw_getr (k0 := 5) kc_8 (ws_11 w) (Nat.le_of_ble_eq_true rfl) tw_65 d_X8_appendStep_13 rfl (wr_11_5 w) ?_
    refine aw_aload_n (i := 0) rfl d_X8_appendStep_16 0 rfl ?_
    refine aw_geti (k0 := 6) kc_8 (ws_11 w) (Nat.le_of_ble_eq_true rfl) tw_68 d_X8_appendStep_17 rfl ?_
    refine aw_iload_n (i := 1) rfl d_X8_appendStep_20 1 rfl ?_
    obtain ⟨b2, k⟩ := k
    refine aw_iast (ws_32 w) b2 d_X8_appendStep_21 ?_
    refine aw_aload_n (i := 0) rfl d_X8_appendStep_22 0 rfl ?_
    refine aw_dup d_X8_appendStep_23 rfl ?_
    refine aw_geti (k0 := 6) kc_8 (ws_11 w) (Nat.le_of_ble_eq_true rfl) tw_68 d_X8_appendStep_24 rfl ?_
    refine aw_vi (v2 := (h_i h 11 6)) (rfl) ?_
    refine aw_iconst (v := 1) d_X8_appendStep_27 ic_1 ?_
    refine aw_iadd d_X8_appendStep_28 ?_
    refine aw_puti (k0 := 6) kc_8 (ws_11 w) (Nat.le_of_ble_eq_true rfl) tw_68 d_X8_appendStep_29 rfl rfl nf_i ?_
    refine aw_goto (tgt := 40) d_X8_appendStep_32 rfl ?_
    exact aw_vret rfl d_X8_appendStep_40 ⟨Nat.le_refl _, Nat.le_refl _⟩ ⟨rfl, k⟩
theorem t_X0_pack (d : Nat) (h : Hp_) (x0 : Int32) (x1 : Int32) (x2 : Int32) (K : Int32 → Hp_ → Prop) (k : K ((x0 ||| (x1 <<< ((2 : Int32) &&& 31))) ||| (x2 <<< ((6 : Int32) &&& 31))) h) : Ci (m_X0_pack (d + 0) 0 0) [.int x0, .int x1, .int x2] h K := by
  refine Ct.of (fun _ _ _ => trivial) pn_X0 (Nat.le_of_ble_eq_true rfl) ?_
  show AW (m_X0_pack (d + 0) 0 0) 0 0 0 [(0, .int x0), (1, .int x1), (2, .int x2)] [] h (kI K)
  refine aw_iload_n (i := 0) rfl d_X0_pack_0 0 rfl ?_
  refine aw_iload_n (i := 1) rfl d_X0_pack_1 1 rfl ?_
  refine aw_iconst (v := 2) d_X0_pack_2 ic_2 ?_
  refine aw_ishl d_X0_pack_3 ?_
  refine aw_ior d_X0_pack_4 ?_
  refine aw_iload_n (i := 2) rfl d_X0_pack_5 2 rfl ?_
  refine aw_bipush (v := 6) d_X0_pack_6 ib_6 ?_
  refine aw_ishl d_X0_pack_8 ?_
  refine aw_ior d_X0_pack_9 ?_
  exact aw_iret rfl d_X0_pack_10 ⟨Nat.le_refl _, Nat.le_refl _⟩ ⟨_, rfl, k⟩
theorem t_X0_keep (d : Nat) (h : Hp_) (w : Wf h)  (K : Int32 → Hp_ → Prop) (k : (12 ≤ (h_i h 12 3) → K (-1) h) ∧ (¬ 12 ≤ (h_i h 12 3) → ((h_i h 11 7) = 0 → AW (m_X0_keep (d + 1) 0 0) 0 0 22 [(0, .ref 12), (1, .ref 11), (2, .int 0), (3, .int 0)] [] h (kI K)) ∧ (¬ (h_i h 11 7) = 0 → K (-1) h))) : Ci (m_X0_keep (d + 1) 0 0) [.ref 12, .ref 11] h K := by
  refine Ct.of (fun _ _ _ => trivial) pn_X0 (Nat.le_of_ble_eq_true rfl) ?_
  show AW (m_X0_keep (d + 1) 0 0) 0 0 0 [(0, .ref 12), (1, .ref 11)] [] h (kI K)
  refine aw_aload_n (i := 0) rfl d_X0_keep_0 0 rfl ?_
  refine aw_geti (k0 := 3) kc_0 (ws_12 w) (Nat.le_of_ble_eq_true rfl) tw_106 d_X0_keep_1 rfl ?_
  refine aw_bipush (v := 12) d_X0_keep_4 ib_12 ?_
  refine aw_icmp_ge (tgt := 16) d_X0_keep_6 rfl (fun c1 => ?_) (fun c1 => ?_)
  · have k := k.1 c1
    refine aw_iconst (v := (-1)) d_X0_keep_16 ic_m1 ?_
    exact aw_iret rfl d_X0_keep_17 ⟨Nat.le_refl _, Nat.le_refl _⟩ ⟨_, rfl, k⟩
  · have k := k.2 c1
    refine aw_aload_n (i := 1) rfl d_X0_keep_9 1 rfl ?_
    refine aw_geti (k0 := 7) kc_8 (ws_11 w) (Nat.le_of_ble_eq_true rfl) tw_69 d_X0_keep_10 rfl ?_
    refine aw_if_eq (tgt := 18) d_X0_keep_13 rfl (fun c2 => ?_) (fun c2 => ?_)
    · have k := k.1 c2
      refine aw_iconst (v := 0) d_X0_keep_18 ic_0 ?_
      refine aw_istore_n (i := 2) rfl [(0, .ref 12), (1, .ref 11), (2, .int 0)] d_X0_keep_19 (Nat.le_of_ble_eq_true rfl) rfl rfl ?_
      refine aw_iconst (v := 0) d_X0_keep_20 ic_0 ?_
      refine aw_istore_n (i := 3) rfl [(0, .ref 12), (1, .ref 11), (2, .int 0), (3, .int 0)] d_X0_keep_21 (Nat.le_of_ble_eq_true rfl) rfl rfl ?_
      exact k
    · have k := k.2 c2
      refine aw_iconst (v := (-1)) d_X0_keep_16 ic_m1 ?_
      exact aw_iret rfl d_X0_keep_17 ⟨Nat.le_refl _, Nat.le_refl _⟩ ⟨_, rfl, k⟩
theorem t_X0_keep_22 (d : Nat) (h : Hp_) (w : Wf h) (x2 : Int32) (x3 : Int32) (K : Int32 → Hp_ → Prop) (k : ((h_i h 11 6) ≤ x3 → vp_in (h_i h 12 3) 12 ∧ (vp_in (h_i h 12 3) 12 ∧ (K (((h_i h 12 3) + 1) - 1) (h_im (h_im (h_im h 35 ((h_i h 12 3) : Int32).toNatClampNeg (h_i h 11 6)) 36 ((h_i h 12 3) : Int32).toNatClampNeg x2) 12 3 ((h_i h 12 3) + 1))))) ∧ (¬ (h_i h 11 6) ≤ x3 → vp_in x3 150 ∧ (vp_in (((h_i h 12 3) * 150) + x3) 1800 ∧ (vp_in x3 150 ∧ (Ci (m_X0_kindOf (d + 0) 0 0) [.int (h_i h 32 x3.toNatClampNeg)] (h_im h 34 ((((h_i h 12 3) * 150) + x3) : Int32).toNatClampNeg (h_i h 32 x3.toNatClampNeg)) (fun r11 h9 => Wf h9 ∧ ((¬ r11 = 2 → AW (m_X0_keep (d + 1) 0 0) 0 0 22 [(0, .ref 12), (1, .ref 11), (2, .int x2), (3, .int (x3 + 1))] [] h9 (kI K)) ∧ (r11 = 2 → AW (m_X0_keep (d + 1) 0 0) 0 0 22 [(0, .ref 12), (1, .ref 11), (2, .int (x2 + 1)), (3, .int (x3 + 1))] [] h9 (kI K))))))))) : AW (m_X0_keep (d + 1) 0 0) 0 0 22 [(0, .ref 12), (1, .ref 11), (2, .int x2), (3, .int x3)] [] h (kI K) := by
  refine aw_iload_n (i := 3) rfl d_X0_keep_22 3 rfl ?_
  refine aw_aload_n (i := 1) rfl d_X0_keep_23 1 rfl ?_
  refine aw_geti (k0 := 6) kc_8 (ws_11 w) (Nat.le_of_ble_eq_true rfl) tw_67 d_X0_keep_24 rfl ?_
  refine aw_icmp_ge (tgt := 73) d_X0_keep_27 rfl (fun c3 => ?_) (fun c3 => ?_)
  · have k := k.1 c3
    refine aw_aload_n (i := 0) rfl d_X0_keep_73 0 rfl ?_
    refine aw_getr (k0 := 1) kc_0 (ws_12 w) (Nat.le_of_ble_eq_true rfl) tw_104 d_X0_keep_74 rfl (wr_12_1 w) ?_
    refine aw_aload_n (i := 0) rfl d_X0_keep_77 0 rfl ?_
    refine aw_geti (k0 := 3) kc_0 (ws_12 w) (Nat.le_of_ble_eq_true rfl) tw_106 d_X0_keep_78 rfl ?_
    refine aw_aload_n (i := 1) rfl d_X0_keep_81 1 rfl ?_
    refine aw_geti (k0 := 6) kc_8 (ws_11 w) (Nat.le_of_ble_eq_true rfl) tw_67 d_X0_keep_82 rfl ?_
    obtain ⟨b4, k⟩ := k
    refine aw_iast (ws_35 w) b4 d_X0_keep_85 ?_
    refine aw_aload_n (i := 0) rfl d_X0_keep_86 0 rfl ?_
    refine aw_getr (k0 := 2) kc_0 (ws_12 w) (Nat.le_of_ble_eq_true rfl) tw_105 d_X0_keep_87 rfl (wr_12_2 w) ?_
    refine aw_aload_n (i := 0) rfl d_X0_keep_90 0 rfl ?_
    refine aw_geti (k0 := 3) kc_0 (ws_12 w) (Nat.le_of_ble_eq_true rfl) tw_106 d_X0_keep_91 rfl ?_
    refine aw_vi (v2 := (h_i h 12 3)) (rfl) ?_
    refine aw_iload_n (i := 2) rfl d_X0_keep_94 2 rfl ?_
    obtain ⟨b5, k⟩ := k
    refine aw_iast (ws_36 w) b5 d_X0_keep_95 ?_
    refine aw_aload_n (i := 0) rfl d_X0_keep_96 0 rfl ?_
    refine aw_dup d_X0_keep_97 rfl ?_
    refine aw_geti (k0 := 3) kc_0 (ws_12 w) (Nat.le_of_ble_eq_true rfl) tw_106 d_X0_keep_98 rfl ?_
    refine aw_vi (v2 := (h_i h 12 3)) (rfl) ?_
    refine aw_iconst (v := 1) d_X0_keep_101 ic_1 ?_
    refine aw_iadd d_X0_keep_102 ?_
    refine aw_puti (k0 := 3) kc_0 (ws_12 w) (Nat.le_of_ble_eq_true rfl) tw_106 d_X0_keep_103 rfl rfl nf_i ?_
    refine aw_aload_n (i := 0) rfl d_X0_keep_106 0 rfl ?_
    refine aw_geti (k0 := 3) kc_0 (ws_12 w) (Nat.le_of_ble_eq_true rfl) tw_106 d_X0_keep_107 rfl ?_
    refine aw_vi (v2 := ((h_i h 12 3) + 1)) (rfl) ?_
    refine aw_iconst (v := 1) d_X0_keep_110 ic_1 ?_
    refine aw_isub d_X0_keep_111 ?_
    exact aw_iret rfl d_X0_keep_112 ⟨Nat.le_refl _, Nat.le_refl _⟩ ⟨_, rfl, k⟩
  · have k := k.2 c3
    refine aw_aload_n (i := 0) rfl d_X0_keep_30 0 rfl ?_
    refine aw_getr (k0 := 0) kc_0 (ws_12 w) (Nat.le_of_ble_eq_true rfl) tw_103 d_X0_keep_31 rfl (wr_12_0 w) ?_
    refine aw_aload_n (i := 0) rfl d_X0_keep_34 0 rfl ?_
    refine aw_geti (k0 := 3) kc_0 (ws_12 w) (Nat.le_of_ble_eq_true rfl) tw_106 d_X0_keep_35 rfl ?_
    refine aw_sipush (v := 150) d_X0_keep_38 is_150 ?_
    refine aw_imul d_X0_keep_41 ?_
    refine aw_iload_n (i := 3) rfl d_X0_keep_42 3 rfl ?_
    refine aw_iadd d_X0_keep_43 ?_
    refine aw_aload_n (i := 1) rfl d_X0_keep_44 1 rfl ?_
    refine aw_getr (k0 := 5) kc_8 (ws_11 w) (Nat.le_of_ble_eq_true rfl) tw_66 d_X0_keep_45 rfl (wr_11_5 w) ?_
    refine aw_iload_n (i := 3) rfl d_X0_keep_48 3 rfl ?_
    obtain ⟨b6, k⟩ := k
    refine aw_iald (ws_32 w) b6 d_X0_keep_49 ?_
    obtain ⟨b7, k⟩ := k
    refine aw_iast (ws_34 w) b7 d_X0_keep_50 ?_
    refine aw_aload_n (i := 1) rfl d_X0_keep_51 1 rfl ?_
    refine aw_getr (k0 := 5) kc_8 (ws_11 w) (Nat.le_of_ble_eq_true rfl) tw_66 d_X0_keep_52 rfl (wr_11_5 w) ?_
    refine aw_iload_n (i := 3) rfl d_X0_keep_55 3 rfl ?_
    obtain ⟨b8, k⟩ := k
    refine aw_iald (ws_32 w) b8 d_X0_keep_56 ?_
    refine aw_vi (v2 := (h_i h 32 x3.toNatClampNeg)) (rfl) ?_
    refine aw_Si [.int (h_i h 32 x3.toNatClampNeg)] [] d_X0_keep_57 (cS_X0_kindOf (d + 0) 0 0) tw_880 rfl (rr0 (Nat.le_of_ble_eq_true rfl) (Nat.le_of_ble_eq_true rfl)) (Nat.le_of_ble_eq_true rfl) xs0 k (fun r11 h9 kk => ?_)
    obtain ⟨w10, k⟩ := kk
    refine aw_iconst (v := 2) d_X0_keep_60 ic_2 ?_
    refine aw_icmp_ne (tgt := 67) d_X0_keep_61 rfl (fun c12 => ?_) (fun c12 => ?_)
    · have k := k.1 c12
      refine aw_iinc (v := (x3 + 1)) [(0, .ref 12), (1, .ref 11), (2, .int x2), (3, .int (x3 + 1))] d_X0_keep_67 3 rfl rfl (Nat.le_of_ble_eq_true rfl) rfl rfl ?_
      refine aw_goto (tgt := 22) d_X0_keep_70 rfl ?_
      exact k
    · have k := k.2 c12
      refine aw_iinc (v := (x2 + 1)) [(0, .ref 12), (1, .ref 11), (2, .int (x2 + 1)), (3, .int x3)] d_X0_keep_64 2 rfl rfl (Nat.le_of_ble_eq_true rfl) rfl rfl ?_
      refine aw_iinc (v := (x3 + 1)) [(0, .ref 12), (1, .ref 11), (2, .int (x2 + 1)), (3, .int (x3 + 1))] d_X0_keep_67 3 rfl rfl (Nat.le_of_ble_eq_true rfl) rfl rfl ?_
      refine aw_goto (tgt := 22) d_X0_keep_70 rfl ?_
      exact k
theorem t_X0_kindOf (d : Nat) (h : Hp_) (x0 : Int32) (K : Int32 → Hp_ → Prop) (k : K (x0 &&& 3) h) : Ci (m_X0_kindOf (d + 0) 0 0) [.int x0] h K := by
  refine Ct.of (fun _ _ _ => trivial) pn_X0 (Nat.le_of_ble_eq_true rfl) ?_
  show AW (m_X0_kindOf (d + 0) 0 0) 0 0 0 [(0, .int x0)] [] h (kI K)
  refine aw_iload_n (i := 0) rfl d_X0_kindOf_0 0 rfl ?_
  refine aw_iconst (v := 3) d_X0_kindOf_1 ic_3 ?_
  refine aw_iand d_X0_kindOf_2 ?_
  exact aw_iret rfl d_X0_kindOf_3 ⟨Nat.le_refl _, Nat.le_refl _⟩ ⟨_, rfl, k⟩
theorem t_X11_beat (d : Nat) (h : Hp_) (w : Wf h)  (K : Int32 → Hp_ → Prop) (k : Ci (m_X8_readBeat (d + 104) 0 0) [.ref 11] h (fun r3 h1 => Wf h1 ∧ ((r3 = (-1) → Ci (m_X0_keep (d + 1) 0 0) [.ref 12, .ref 11] h1 (fun r7 h5 => Wf h5 ∧ ((r7 = (-1) → K r7 h5) ∧ (¬ r7 = (-1) → Ci (m_X8_cut (d + 1) 0 0) [.ref 11, .int 0] h5 (fun r11 h9 => Wf h9 ∧ (K r7 h9)))))) ∧ (¬ r3 = (-1) → K (-1) h1)))) : Ci (m_X11_beat (d + 105) 0 0) [.ref 0] h K := by
  refine Ct.of (fun _ _ _ => trivial) pn_X11 (Nat.le_of_ble_eq_true rfl) ?_
  show AW (m_X11_beat (d + 105) 0 0) 0 0 0 [(0, .ref 0)] [] h (kI K)
  refine aw_aload_n (i := 0) rfl d_X11_beat_0 0 rfl ?_
  refine aw_getr (k0 := 2) kc_11 (ws_0 w) (Nat.le_of_ble_eq_true rfl) tw_489 d_X11_beat_1 rfl (wr_0_2 w) ?_
  refine aw_Vi 11 [] [] d_X11_beat_4 (cV_X8_readBeat (d + 104) 0 0) kc_8 (ws_11 w) tw_669 rfl (rr0 (Nat.le_of_ble_eq_true rfl) (Nat.le_of_ble_eq_true rfl)) (Nat.le_of_ble_eq_true rfl) xs0 k (fun r3 h1 kk => ?_)
  obtain ⟨w2, k⟩ := kk
  refine aw_iconst (v := (-1)) d_X11_beat_7 ic_m1 ?_
  refine aw_icmp_eq (tgt := 13) d_X11_beat_8 rfl (fun c4 => ?_) (fun c4 => ?_)
  · have k := k.1 c4
    refine aw_aload_n (i := 0) rfl d_X11_beat_13 0 rfl ?_
    refine aw_getr (k0 := 3) kc_11 (ws_0 w2) (Nat.le_of_ble_eq_true rfl) tw_490 d_X11_beat_14 rfl (wr_0_3 w2) ?_
    refine aw_aload_n (i := 0) rfl d_X11_beat_17 0 rfl ?_
    refine aw_getr (k0 := 2) kc_11 (ws_0 w2) (Nat.le_of_ble_eq_true rfl) tw_489 d_X11_beat_18 rfl (wr_0_2 w2) ?_
    refine aw_Vi 12 [.ref 11] [] d_X11_beat_21 (cV_X0_keep (d + 1) 0 0) kc_0 (ws_12 w2) tw_876 rfl (rr0 (Nat.le_of_ble_eq_true rfl) (Nat.le_of_ble_eq_true rfl)) (Nat.le_of_ble_eq_true rfl) xs0 k (fun r7 h5 kk => ?_)
    obtain ⟨w6, k⟩ := kk
    refine aw_istore_n (i := 1) rfl [(0, .ref 0), (1, .int r7)] d_X11_beat_24 (Nat.le_of_ble_eq_true rfl) rfl rfl ?_
    refine aw_iload_n (i := 1) rfl d_X11_beat_25 1 rfl ?_
    refine aw_iconst (v := (-1)) d_X11_beat_26 ic_m1 ?_
    refine aw_icmp_eq (tgt := 39) d_X11_beat_27 rfl (fun c8 => ?_) (fun c8 => ?_)
    · have k := k.1 c8
      refine aw_iload_n (i := 1) rfl d_X11_beat_39 1 rfl ?_
      exact aw_iret rfl d_X11_beat_40 ⟨Nat.le_refl _, Nat.le_refl _⟩ ⟨_, rfl, k⟩
    · have k := k.2 c8
      refine aw_aload_n (i := 0) rfl d_X11_beat_30 0 rfl ?_
      refine aw_getr (k0 := 2) kc_11 (ws_0 w6) (Nat.le_of_ble_eq_true rfl) tw_489 d_X11_beat_31 rfl (wr_0_2 w6) ?_
      refine aw_iconst (v := 0) d_X11_beat_34 ic_0 ?_
      refine aw_Vi 11 [.int 0] [] d_X11_beat_35 (cV_X8_cut (d + 1) 0 0) kc_8 (ws_11 w6) tw_660 rfl (rr0 (Nat.le_of_ble_eq_true rfl) (Nat.le_of_ble_eq_true rfl)) (Nat.le_of_ble_eq_true rfl) xs0 k (fun r11 h9 kk => ?_)
      obtain ⟨w10, k⟩ := kk
      refine aw_pop d_X11_beat_38 rfl ?_
      refine aw_iload_n (i := 1) rfl d_X11_beat_39 1 rfl ?_
      exact aw_iret rfl d_X11_beat_40 ⟨Nat.le_refl _, Nat.le_refl _⟩ ⟨_, rfl, k⟩
  · have k := k.2 c4
    refine aw_iconst (v := (-1)) d_X11_beat_11 ic_m1 ?_
    exact aw_iret rfl d_X11_beat_12 ⟨Nat.le_refl _, Nat.le_refl _⟩ ⟨_, rfl, k⟩
theorem t_X8_cut (d : Nat) (h : Hp_) (w : Wf h) (x1 : Int32) (K : Int32 → Hp_ → Prop) (k : ((0 ≤ x1 ∧ x1 ≤ (h_i h 11 1)) → K 1 (h_im h 11 1 x1)) ∧ (¬ (0 ≤ x1 ∧ x1 ≤ (h_i h 11 1)) → K 0 h)) : Ci (m_X8_cut (d + 1) 0 0) [.ref 11, .int x1] h K := by
  refine Ct.of (fun _ _ _ => trivial) pn_X8 (Nat.le_of_ble_eq_true rfl) ?_
  show AW (m_X8_cut (d + 1) 0 0) 0 0 0 [(0, .ref 11), (1, .int x1)] [] h (kI K)
  refine aw_iload_n (i := 1) rfl d_X8_cut_0 1 rfl ?_
  refine aw_iconst (v := 0) d_X8_cut_1 ic_0 ?_
  refine aw_aload_n (i := 0) rfl d_X8_cut_2 0 rfl ?_
  refine aw_geti (k0 := 1) kc_8 (ws_11 w) (Nat.le_of_ble_eq_true rfl) tw_60 d_X8_cut_3 rfl ?_
  refine aw_SNi [.int x1, .int 0, .int (h_i h 11 1)] [] d_X8_cut_6 (cS_X11_within (d + 0) 0 0) (List.mem_of_getElem? (i := 8) rfl) rfl (rr0 (Nat.le_of_ble_eq_true rfl) (Nat.le_of_ble_eq_true rfl)) (Nat.le_of_ble_eq_true rfl) xs0 (s_X11_within _ _ x1 0 (h_i h 11 1)) (fun _ _ kk => ?_)
  obtain ⟨e1, e2⟩ := kk
  rw [e1, e2]
  refine aw_ifb_ne (tgt := 14) d_X8_cut_9 rfl (fun c3 => ?_) (fun c3 => ?_)
  · have k := k.1 c3
    refine aw_aload_n (i := 0) rfl d_X8_cut_14 0 rfl ?_
    refine aw_iload_n (i := 1) rfl d_X8_cut_15 1 rfl ?_
    refine aw_puti (k0 := 1) kc_8 (ws_11 w) (Nat.le_of_ble_eq_true rfl) tw_60 d_X8_cut_16 rfl rfl nf_i ?_
    refine aw_iconst (v := 1) d_X8_cut_19 ic_1 ?_
    exact aw_zret rfl rfl d_X8_cut_20 ⟨Nat.le_refl _, Nat.le_refl _⟩ ⟨_, rfl, k⟩
  · have k := k.2 c3
    refine aw_iconst (v := 0) d_X8_cut_12 ic_0 ?_
    exact aw_zret rfl rfl d_X8_cut_13 ⟨Nat.le_refl _, Nat.le_refl _⟩ ⟨_, rfl, k⟩
theorem t_X10_keep_13 (d : Nat) (h : Hp_) (w : Wf h) (x1 : Int32) (x2 : Int32) (K : Int32 → Hp_ → Prop) (k : ((h_i h 13 5) < 20 → vp_in (h_i h 13 5) 20 ∧ (vp_in (h_i h 13 5) 20 ∧ (vp_in (h_i h 13 5) 20 ∧ ((¬ (0 : Int32) < 0 ∧ ¬ ((h_i h 13 5) * 164) < 0 ∧ ¬ (h_i h 11 9) < 0 ∧ (0 : Int32).toNatClampNeg + (h_i h 11 9).toNatClampNeg ≤ 164 ∧ ((h_i h 13 5) * 164).toNatClampNeg + (h_i h 11 9).toNatClampNeg ≤ 3280) ∧ (AW (m_X10_keep (d + 1) 0 0) 0 0 68 [(0, .ref 13)] [] (h_iw (h_im (h_im (h_im h 37 ((h_i h 13 5) : Int32).toNatClampNeg x1) 38 ((h_i h 13 5) : Int32).toNatClampNeg x2) 39 ((h_i h 13 5) : Int32).toNatClampNeg (h_i h 11 9)) 40 (va_cpy (h_i (h_im (h_im (h_im h 37 ((h_i h 13 5) : Int32).toNatClampNeg x1) 38 ((h_i h 13 5) : Int32).toNatClampNeg x2) 39 ((h_i h 13 5) : Int32).toNatClampNeg (h_i h 11 9)) 33) (h_i (h_im (h_im (h_im h 37 ((h_i h 13 5) : Int32).toNatClampNeg x1) 38 ((h_i h 13 5) : Int32).toNatClampNeg x2) 39 ((h_i h 13 5) : Int32).toNatClampNeg (h_i h 11 9)) 40) (0 : Int32).toNatClampNeg ((h_i h 13 5) * 164).toNatClampNeg (h_i h 11 9).toNatClampNeg)) (kI K)))))) ∧ (¬ (h_i h 13 5) < 20 → K (-1) h)) : Ci (m_X10_keep (d + 1) 0 0) [.ref 13, .int x1, .int x2, .ref 11] h K := by
  refine Ct.of (fun _ _ _ => trivial) pn_X10 (Nat.le_of_ble_eq_true rfl) ?_
  show AW (m_X10_keep (d + 1) 0 0) 0 0 0 [(0, .ref 13), (1, .int x1), (2, .int x2), (3, .ref 11)] [] h (kI K)
  refine aw_aload_n (i := 0) rfl d_X10_keep_0 0 rfl ?_
  refine aw_geti (k0 := 5) kc_10 (ws_13 w) (Nat.le_of_ble_eq_true rfl) tw_129 d_X10_keep_1 rfl ?_
  refine aw_bipush (v := 20) d_X10_keep_4 ib_20 ?_
  refine aw_icmp_lt (tgt := 11) d_X10_keep_6 rfl (fun c1 => ?_) (fun c1 => ?_)
  · have k := k.1 c1
    refine aw_aload_n (i := 0) rfl d_X10_keep_11 0 rfl ?_
    refine aw_getr (k0 := 0) kc_10 (ws_13 w) (Nat.le_of_ble_eq_true rfl) tw_124 d_X10_keep_12 rfl (wr_13_0 w) ?_
    refine aw_aload_n (i := 0) rfl d_X10_keep_15 0 rfl ?_
    refine aw_geti (k0 := 5) kc_10 (ws_13 w) (Nat.le_of_ble_eq_true rfl) tw_129 d_X10_keep_16 rfl ?_
    refine aw_iload_n (i := 1) rfl d_X10_keep_19 1 rfl ?_
    obtain ⟨b2, k⟩ := k
    refine aw_iast (ws_37 w) b2 d_X10_keep_20 ?_
    refine aw_aload_n (i := 0) rfl d_X10_keep_21 0 rfl ?_
    refine aw_getr (k0 := 1) kc_10 (ws_13 w) (Nat.le_of_ble_eq_true rfl) tw_125 d_X10_keep_22 rfl (wr_13_1 w) ?_
    refine aw_aload_n (i := 0) rfl d_X10_keep_25 0 rfl ?_
    refine aw_geti (k0 := 5) kc_10 (ws_13 w) (Nat.le_of_ble_eq_true rfl) tw_129 d_X10_keep_26 rfl ?_
    refine aw_vi (v2 := (h_i h 13 5)) (rfl) ?_
    refine aw_iload_n (i := 2) rfl d_X10_keep_29 2 rfl ?_
    obtain ⟨b3, k⟩ := k
    refine aw_iast (ws_38 w) b3 d_X10_keep_30 ?_
    refine aw_aload_n (i := 0) rfl d_X10_keep_31 0 rfl ?_
    refine aw_getr (k0 := 2) kc_10 (ws_13 w) (Nat.le_of_ble_eq_true rfl) tw_126 d_X10_keep_32 rfl (wr_13_2 w) ?_
    refine aw_aload_n (i := 0) rfl d_X10_keep_35 0 rfl ?_
    refine aw_geti (k0 := 5) kc_10 (ws_13 w) (Nat.le_of_ble_eq_true rfl) tw_129 d_X10_keep_36 rfl ?_
    refine aw_vi (v2 := (h_i h 13 5)) (rfl) ?_
    refine aw_aload_n (i := 3) rfl d_X10_keep_39 3 rfl ?_
    refine aw_geti (k0 := 9) kc_8 (ws_11 w) (Nat.le_of_ble_eq_true rfl) tw_73 d_X10_keep_40 rfl ?_
    refine aw_vi (v2 := (h_i h 11 9)) (rfl) ?_
    obtain ⟨b4, k⟩ := k
    refine aw_iast (ws_39 w) b4 d_X10_keep_43 ?_
    refine aw_aload_n (i := 3) rfl d_X10_keep_44 3 rfl ?_
    refine aw_getr (k0 := 8) kc_8 (ws_11 w) (Nat.le_of_ble_eq_true rfl) tw_72 d_X10_keep_45 rfl (wr_11_8 w) ?_
    refine aw_iconst (v := 0) d_X10_keep_48 ic_0 ?_
    refine aw_aload_n (i := 0) rfl d_X10_keep_49 0 rfl ?_
    refine aw_getr (k0 := 3) kc_10 (ws_13 w) (Nat.le_of_ble_eq_true rfl) tw_127 d_X10_keep_50 rfl (wr_13_3 w) ?_
    refine aw_aload_n (i := 0) rfl d_X10_keep_53 0 rfl ?_
    refine aw_geti (k0 := 5) kc_10 (ws_13 w) (Nat.le_of_ble_eq_true rfl) tw_129 d_X10_keep_54 rfl ?_
    refine aw_vi (v2 := (h_i h 13 5)) (rfl) ?_
    refine aw_sipush (v := 164) d_X10_keep_57 is_164 ?_
    refine aw_imul d_X10_keep_60 ?_
    refine aw_aload_n (i := 3) rfl d_X10_keep_61 3 rfl ?_
    refine aw_geti (k0 := 9) kc_8 (ws_11 w) (Nat.le_of_ble_eq_true rfl) tw_73 d_X10_keep_62 rfl ?_
    refine aw_vi (v2 := (h_i h 11 9)) (rfl) ?_
    obtain ⟨b5, k⟩ := k
    refine aw_copyi (ws_33 w) (ws_40 w) b5.1 b5.2.1 b5.2.2.1 b5.2.2.2.1 b5.2.2.2.2 tw_1167 (show 1 ≤ (d + 1) by omega) (Nat.le_trans (Nat.le_of_ble_eq_true rfl) (show 100 ≤ 100 * (d + 1) by omega)) d_X10_keep_65 ?_
    exact aw_lvp [0] [(0, .ref 13)] rfl k
  · have k := k.2 c1
    refine aw_iconst (v := (-1)) d_X10_keep_9 ic_m1 ?_
    exact aw_iret rfl d_X10_keep_10 ⟨Nat.le_refl _, Nat.le_refl _⟩ ⟨_, rfl, k⟩
theorem t_X10_keep_13_68 (d : Nat) (h : Hp_) (w : Wf h)  (K : Int32 → Hp_ → Prop) (k : K (((h_i h 13 5) + 1) - 1) (h_im h 13 5 ((h_i h 13 5) + 1))) : AW (m_X10_keep (d + 1) 0 0) 0 0 68 [(0, .ref 13)] [] h (kI K) := by
  refine aw_aload_n (i := 0) rfl d_X10_keep_68 0 rfl ?_
  refine aw_dup d_X10_keep_69 rfl ?_
  refine aw_geti (k0 := 5) kc_10 (ws_13 w) (Nat.le_of_ble_eq_true rfl) tw_129 d_X10_keep_70 rfl ?_
  refine aw_iconst (v := 1) d_X10_keep_73 ic_1 ?_
  refine aw_iadd d_X10_keep_74 ?_
  refine aw_puti (k0 := 5) kc_10 (ws_13 w) (Nat.le_of_ble_eq_true rfl) tw_129 d_X10_keep_75 rfl rfl nf_i ?_
  refine aw_aload_n (i := 0) rfl d_X10_keep_78 0 rfl ?_
  refine aw_geti (k0 := 5) kc_10 (ws_13 w) (Nat.le_of_ble_eq_true rfl) tw_129 d_X10_keep_79 rfl ?_
  refine aw_vi (v2 := ((h_i h 13 5) + 1)) (rfl) ?_
  refine aw_iconst (v := 1) d_X10_keep_82 ic_1 ?_
  refine aw_isub d_X10_keep_83 ?_
  exact aw_iret rfl d_X10_keep_84 ⟨Nat.le_refl _, Nat.le_refl _⟩ ⟨_, rfl, k⟩
theorem t_X10_keep_14 (d : Nat) (h : Hp_) (w : Wf h) (x1 : Int32) (x2 : Int32) (K : Int32 → Hp_ → Prop) (k : ((h_i h 14 5) < 20 → vp_in (h_i h 14 5) 20 ∧ (vp_in (h_i h 14 5) 20 ∧ (vp_in (h_i h 14 5) 20 ∧ ((¬ (0 : Int32) < 0 ∧ ¬ ((h_i h 14 5) * 164) < 0 ∧ ¬ (h_i h 11 9) < 0 ∧ (0 : Int32).toNatClampNeg + (h_i h 11 9).toNatClampNeg ≤ 164 ∧ ((h_i h 14 5) * 164).toNatClampNeg + (h_i h 11 9).toNatClampNeg ≤ 3280) ∧ (AW (m_X10_keep (d + 1) 0 0) 0 0 68 [(0, .ref 14)] [] (h_iw (h_im (h_im (h_im h 42 ((h_i h 14 5) : Int32).toNatClampNeg x1) 43 ((h_i h 14 5) : Int32).toNatClampNeg x2) 44 ((h_i h 14 5) : Int32).toNatClampNeg (h_i h 11 9)) 45 (va_cpy (h_i (h_im (h_im (h_im h 42 ((h_i h 14 5) : Int32).toNatClampNeg x1) 43 ((h_i h 14 5) : Int32).toNatClampNeg x2) 44 ((h_i h 14 5) : Int32).toNatClampNeg (h_i h 11 9)) 33) (h_i (h_im (h_im (h_im h 42 ((h_i h 14 5) : Int32).toNatClampNeg x1) 43 ((h_i h 14 5) : Int32).toNatClampNeg x2) 44 ((h_i h 14 5) : Int32).toNatClampNeg (h_i h 11 9)) 45) (0 : Int32).toNatClampNeg ((h_i h 14 5) * 164).toNatClampNeg (h_i h 11 9).toNatClampNeg)) (kI K)))))) ∧ (¬ (h_i h 14 5) < 20 → K (-1) h)) : Ci (m_X10_keep (d + 1) 0 0) [.ref 14, .int x1, .int x2, .ref 11] h K := by
  refine Ct.of (fun _ _ _ => trivial) pn_X10 (Nat.le_of_ble_eq_true rfl) ?_
  show AW (m_X10_keep (d + 1) 0 0) 0 0 0 [(0, .ref 14), (1, .int x1), (2, .int x2), (3, .ref 11)] [] h (kI K)
  refine aw_aload_n (i := 0) rfl d_X10_keep_0 0 rfl ?_
  refine aw_geti (k0 := 5) kc_10 (ws_14 w) (Nat.le_of_ble_eq_true rfl) tw_129 d_X10_keep_1 rfl ?_
  refine aw_bipush (v := 20) d_X10_keep_4 ib_20 ?_
  refine aw_icmp_lt (tgt := 11) d_X10_keep_6 rfl (fun c1 => ?_) (fun c1 => ?_)
  · have k := k.1 c1
    refine aw_aload_n (i := 0) rfl d_X10_keep_11 0 rfl ?_
    refine aw_getr (k0 := 0) kc_10 (ws_14 w) (Nat.le_of_ble_eq_true rfl) tw_124 d_X10_keep_12 rfl (wr_14_0 w) ?_
    refine aw_aload_n (i := 0) rfl d_X10_keep_15 0 rfl ?_
    refine aw_geti (k0 := 5) kc_10 (ws_14 w) (Nat.le_of_ble_eq_true rfl) tw_129 d_X10_keep_16 rfl ?_
    refine aw_iload_n (i := 1) rfl d_X10_keep_19 1 rfl ?_
    obtain ⟨b2, k⟩ := k
    refine aw_iast (ws_42 w) b2 d_X10_keep_20 ?_
    refine aw_aload_n (i := 0) rfl d_X10_keep_21 0 rfl ?_
    refine aw_getr (k0 := 1) kc_10 (ws_14 w) (Nat.le_of_ble_eq_true rfl) tw_125 d_X10_keep_22 rfl (wr_14_1 w) ?_
    refine aw_aload_n (i := 0) rfl d_X10_keep_25 0 rfl ?_
    refine aw_geti (k0 := 5) kc_10 (ws_14 w) (Nat.le_of_ble_eq_true rfl) tw_129 d_X10_keep_26 rfl ?_
    refine aw_vi (v2 := (h_i h 14 5)) (rfl) ?_
    refine aw_iload_n (i := 2) rfl d_X10_keep_29 2 rfl ?_
    obtain ⟨b3, k⟩ := k
    refine aw_iast (ws_43 w) b3 d_X10_keep_30 ?_
    refine aw_aload_n (i := 0) rfl d_X10_keep_31 0 rfl ?_
    refine aw_getr (k0 := 2) kc_10 (ws_14 w) (Nat.le_of_ble_eq_true rfl) tw_126 d_X10_keep_32 rfl (wr_14_2 w) ?_
    refine aw_aload_n (i := 0) rfl d_X10_keep_35 0 rfl ?_
    refine aw_geti (k0 := 5) kc_10 (ws_14 w) (Nat.le_of_ble_eq_true rfl) tw_129 d_X10_keep_36 rfl ?_
    refine aw_vi (v2 := (h_i h 14 5)) (rfl) ?_
    refine aw_aload_n (i := 3) rfl d_X10_keep_39 3 rfl ?_
    refine aw_geti (k0 := 9) kc_8 (ws_11 w) (Nat.le_of_ble_eq_true rfl) tw_73 d_X10_keep_40 rfl ?_
    refine aw_vi (v2 := (h_i h 11 9)) (rfl) ?_
    obtain ⟨b4, k⟩ := k
    refine aw_iast (ws_44 w) b4 d_X10_keep_43 ?_
    refine aw_aload_n (i := 3) rfl d_X10_keep_44 3 rfl ?_
    refine aw_getr (k0 := 8) kc_8 (ws_11 w) (Nat.le_of_ble_eq_true rfl) tw_72 d_X10_keep_45 rfl (wr_11_8 w) ?_
    refine aw_iconst (v := 0) d_X10_keep_48 ic_0 ?_
    refine aw_aload_n (i := 0) rfl d_X10_keep_49 0 rfl ?_
    refine aw_getr (k0 := 3) kc_10 (ws_14 w) (Nat.le_of_ble_eq_true rfl) tw_127 d_X10_keep_50 rfl (wr_14_3 w) ?_
    refine aw_aload_n (i := 0) rfl d_X10_keep_53 0 rfl ?_
    refine aw_geti (k0 := 5) kc_10 (ws_14 w) (Nat.le_of_ble_eq_true rfl) tw_129 d_X10_keep_54 rfl ?_
    refine aw_vi (v2 := (h_i h 14 5)) (rfl) ?_
    refine aw_sipush (v := 164) d_X10_keep_57 is_164 ?_
    refine aw_imul d_X10_keep_60 ?_
    refine aw_aload_n (i := 3) rfl d_X10_keep_61 3 rfl ?_
    refine aw_geti (k0 := 9) kc_8 (ws_11 w) (Nat.le_of_ble_eq_true rfl) tw_73 d_X10_keep_62 rfl ?_
    refine aw_vi (v2 := (h_i h 11 9)) (rfl) ?_
    obtain ⟨b5, k⟩ := k
    refine aw_copyi (ws_33 w) (ws_45 w) b5.1 b5.2.1 b5.2.2.1 b5.2.2.2.1 b5.2.2.2.2 tw_1167 (show 1 ≤ (d + 1) by omega) (Nat.le_trans (Nat.le_of_ble_eq_true rfl) (show 100 ≤ 100 * (d + 1) by omega)) d_X10_keep_65 ?_
    exact aw_lvp [0] [(0, .ref 14)] rfl k
  · have k := k.2 c1
    refine aw_iconst (v := (-1)) d_X10_keep_9 ic_m1 ?_
    exact aw_iret rfl d_X10_keep_10 ⟨Nat.le_refl _, Nat.le_refl _⟩ ⟨_, rfl, k⟩
theorem t_X10_keep_14_68 (d : Nat) (h : Hp_) (w : Wf h)  (K : Int32 → Hp_ → Prop) (k : K (((h_i h 14 5) + 1) - 1) (h_im h 14 5 ((h_i h 14 5) + 1))) : AW (m_X10_keep (d + 1) 0 0) 0 0 68 [(0, .ref 14)] [] h (kI K) := by
  refine aw_aload_n (i := 0) rfl d_X10_keep_68 0 rfl ?_
  refine aw_dup d_X10_keep_69 rfl ?_
  refine aw_geti (k0 := 5) kc_10 (ws_14 w) (Nat.le_of_ble_eq_true rfl) tw_129 d_X10_keep_70 rfl ?_
  refine aw_iconst (v := 1) d_X10_keep_73 ic_1 ?_
  refine aw_iadd d_X10_keep_74 ?_
  refine aw_puti (k0 := 5) kc_10 (ws_14 w) (Nat.le_of_ble_eq_true rfl) tw_129 d_X10_keep_75 rfl rfl nf_i ?_
  refine aw_aload_n (i := 0) rfl d_X10_keep_78 0 rfl ?_
  refine aw_geti (k0 := 5) kc_10 (ws_14 w) (Nat.le_of_ble_eq_true rfl) tw_129 d_X10_keep_79 rfl ?_
  refine aw_vi (v2 := ((h_i h 14 5) + 1)) (rfl) ?_
  refine aw_iconst (v := 1) d_X10_keep_82 ic_1 ?_
  refine aw_isub d_X10_keep_83 ?_
  exact aw_iret rfl d_X10_keep_84 ⟨Nat.le_refl _, Nat.le_refl _⟩ ⟨_, rfl, k⟩
theorem t_X11_keepRule_13 (d : Nat) (h : Hp_) (w : Wf h) (x2 : Int32) (K : Int32 → Hp_ → Prop) (k : Ci (m_X10_keep (d + 1) 0 0) [.ref 13, .int x2, .int (h_i h 0 0), .ref 11] h (fun r3 h1 => Wf h1 ∧ ((r3 = (-1) → K r3 h1) ∧ (¬ r3 = (-1) → Ci (m_X8_cut (d + 1) 0 0) [.ref 11, .int 0] h1 (fun r7 h5 => Wf h5 ∧ (K r3 h5)))))) : Ci (m_X11_keepRule (d + 3) 0 0) [.ref 0, .ref 13, .int x2] h K := by
  refine Ct.of (fun _ _ _ => trivial) pn_X11 (Nat.le_of_ble_eq_true rfl) ?_
  show AW (m_X11_keepRule (d + 3) 0 0) 0 0 0 [(0, .ref 0), (1, .ref 13), (2, .int x2)] [] h (kI K)
  refine aw_aload_n (i := 1) rfl d_X11_keepRule_0 1 rfl ?_
  refine aw_iload_n (i := 2) rfl d_X11_keepRule_1 2 rfl ?_
  refine aw_aload_n (i := 0) rfl d_X11_keepRule_2 0 rfl ?_
  refine aw_geti (k0 := 0) kc_11 (ws_0 w) (Nat.le_of_ble_eq_true rfl) tw_487 d_X11_keepRule_3 rfl ?_
  refine aw_aload_n (i := 0) rfl d_X11_keepRule_6 0 rfl ?_
  refine aw_getr (k0 := 2) kc_11 (ws_0 w) (Nat.le_of_ble_eq_true rfl) tw_489 d_X11_keepRule_7 rfl (wr_0_2 w) ?_
  refine aw_Vi 13 [.int x2, .int (h_i h 0 0), .ref 11] [] d_X11_keepRule_10 (cV_X10_keep (d + 1) 0 0) kc_10 (ws_13 w) tw_1163 rfl (rr0 (Nat.le_of_ble_eq_true rfl) (Nat.le_of_ble_eq_true rfl)) (Nat.le_of_ble_eq_true rfl) xs0 k (fun r3 h1 kk => ?_)
  obtain ⟨w2, k⟩ := kk
  refine aw_istore_n (i := 3) rfl [(0, .ref 0), (1, .ref 13), (2, .int x2), (3, .int r3)] d_X11_keepRule_13 (Nat.le_of_ble_eq_true rfl) rfl rfl ?_
  refine aw_iload_n (i := 3) rfl d_X11_keepRule_14 3 rfl ?_
  refine aw_iconst (v := (-1)) d_X11_keepRule_15 ic_m1 ?_
  refine aw_icmp_eq (tgt := 28) d_X11_keepRule_16 rfl (fun c4 => ?_) (fun c4 => ?_)
  · have k := k.1 c4
    refine aw_iload_n (i := 3) rfl d_X11_keepRule_28 3 rfl ?_
    exact aw_iret rfl d_X11_keepRule_29 ⟨Nat.le_refl _, Nat.le_refl _⟩ ⟨_, rfl, k⟩
  · have k := k.2 c4
    refine aw_aload_n (i := 0) rfl d_X11_keepRule_19 0 rfl ?_
    refine aw_getr (k0 := 2) kc_11 (ws_0 w2) (Nat.le_of_ble_eq_true rfl) tw_489 d_X11_keepRule_20 rfl (wr_0_2 w2) ?_
    refine aw_iconst (v := 0) d_X11_keepRule_23 ic_0 ?_
    refine aw_Vi 11 [.int 0] [] d_X11_keepRule_24 (cV_X8_cut (d + 1) 0 0) kc_8 (ws_11 w2) tw_660 rfl (rr0 (Nat.le_of_ble_eq_true rfl) (Nat.le_of_ble_eq_true rfl)) (Nat.le_of_ble_eq_true rfl) xs0 k (fun r7 h5 kk => ?_)
    obtain ⟨w6, k⟩ := kk
    refine aw_pop d_X11_keepRule_27 rfl ?_
    refine aw_iload_n (i := 3) rfl d_X11_keepRule_28 3 rfl ?_
    exact aw_iret rfl d_X11_keepRule_29 ⟨Nat.le_refl _, Nat.le_refl _⟩ ⟨_, rfl, k⟩
theorem t_X11_keepRule_14 (d : Nat) (h : Hp_) (w : Wf h) (x2 : Int32) (K : Int32 → Hp_ → Prop) (k : Ci (m_X10_keep (d + 1) 0 0) [.ref 14, .int x2, .int (h_i h 0 0), .ref 11] h (fun r3 h1 => Wf h1 ∧ ((r3 = (-1) → K r3 h1) ∧ (¬ r3 = (-1) → Ci (m_X8_cut (d + 1) 0 0) [.ref 11, .int 0] h1 (fun r7 h5 => Wf h5 ∧ (K r3 h5)))))) : Ci (m_X11_keepRule (d + 3) 0 0) [.ref 0, .ref 14, .int x2] h K := by
  refine Ct.of (fun _ _ _ => trivial) pn_X11 (Nat.le_of_ble_eq_true rfl) ?_
  show AW (m_X11_keepRule (d + 3) 0 0) 0 0 0 [(0, .ref 0), (1, .ref 14), (2, .int x2)] [] h (kI K)
  refine aw_aload_n (i := 1) rfl d_X11_keepRule_0 1 rfl ?_
  refine aw_iload_n (i := 2) rfl d_X11_keepRule_1 2 rfl ?_
  refine aw_aload_n (i := 0) rfl d_X11_keepRule_2 0 rfl ?_
  refine aw_geti (k0 := 0) kc_11 (ws_0 w) (Nat.le_of_ble_eq_true rfl) tw_487 d_X11_keepRule_3 rfl ?_
  refine aw_aload_n (i := 0) rfl d_X11_keepRule_6 0 rfl ?_
  refine aw_getr (k0 := 2) kc_11 (ws_0 w) (Nat.le_of_ble_eq_true rfl) tw_489 d_X11_keepRule_7 rfl (wr_0_2 w) ?_
  refine aw_Vi 14 [.int x2, .int (h_i h 0 0), .ref 11] [] d_X11_keepRule_10 (cV_X10_keep (d + 1) 0 0) kc_10 (ws_14 w) tw_1163 rfl (rr0 (Nat.le_of_ble_eq_true rfl) (Nat.le_of_ble_eq_true rfl)) (Nat.le_of_ble_eq_true rfl) xs0 k (fun r3 h1 kk => ?_)
  obtain ⟨w2, k⟩ := kk
  refine aw_istore_n (i := 3) rfl [(0, .ref 0), (1, .ref 14), (2, .int x2), (3, .int r3)] d_X11_keepRule_13 (Nat.le_of_ble_eq_true rfl) rfl rfl ?_
  refine aw_iload_n (i := 3) rfl d_X11_keepRule_14 3 rfl ?_
  refine aw_iconst (v := (-1)) d_X11_keepRule_15 ic_m1 ?_
  refine aw_icmp_eq (tgt := 28) d_X11_keepRule_16 rfl (fun c4 => ?_) (fun c4 => ?_)
  · have k := k.1 c4
    refine aw_iload_n (i := 3) rfl d_X11_keepRule_28 3 rfl ?_
    exact aw_iret rfl d_X11_keepRule_29 ⟨Nat.le_refl _, Nat.le_refl _⟩ ⟨_, rfl, k⟩
  · have k := k.2 c4
    refine aw_aload_n (i := 0) rfl d_X11_keepRule_19 0 rfl ?_
    refine aw_getr (k0 := 2) kc_11 (ws_0 w2) (Nat.le_of_ble_eq_true rfl) tw_489 d_X11_keepRule_20 rfl (wr_0_2 w2) ?_
    refine aw_iconst (v := 0) d_X11_keepRule_23 ic_0 ?_
    refine aw_Vi 11 [.int 0] [] d_X11_keepRule_24 (cV_X8_cut (d + 1) 0 0) kc_8 (ws_11 w2) tw_660 rfl (rr0 (Nat.le_of_ble_eq_true rfl) (Nat.le_of_ble_eq_true rfl)) (Nat.le_of_ble_eq_true rfl) xs0 k (fun r7 h5 kk => ?_)
    obtain ⟨w6, k⟩ := kk
    refine aw_pop d_X11_keepRule_27 rfl ?_
    refine aw_iload_n (i := 3) rfl d_X11_keepRule_28 3 rfl ?_
    exact aw_iret rfl d_X11_keepRule_29 ⟨Nat.le_refl _, Nat.le_refl _⟩ ⟨_, rfl, k⟩
theorem t_X11_act (d : Nat) (h : Hp_) (w : Wf h) (x1 : Int32) (K : Int32 → Hp_ → Prop) (k : (¬ (0 ≤ x1 ∧ x1 ≤ 30) → K (-1) h) ∧ ((0 ≤ x1 ∧ x1 ≤ 30) → Ci (m_X8_readRule (d + 140) 0 0) [.ref 11, .int 1] h (fun r6 h4 => Wf h4 ∧ ((r6 = (-1) → Ci (m_X11_keepRule (d + 3) 0 0) [.ref 0, .ref 13, .int x1] h4 (fun r10 h8 => Wf h8 ∧ (K r10 h8))) ∧ (¬ r6 = (-1) → K (-1) h4))))) : Ci (m_X11_act (d + 141) 0 0) [.ref 0, .int x1] h K := by
  refine Ct.of (fun _ _ _ => trivial) pn_X11 (Nat.le_of_ble_eq_true rfl) ?_
  show AW (m_X11_act (d + 141) 0 0) 0 0 0 [(0, .ref 0), (1, .int x1)] [] h (kI K)
  refine aw_iload_n (i := 1) rfl d_X11_act_0 1 rfl ?_
  refine aw_iconst (v := 0) d_X11_act_1 ic_0 ?_
  refine aw_bipush (v := 30) d_X11_act_2 ib_30 ?_
  refine aw_Si [.int x1, .int 0, .int 30] [] d_X11_act_4 (cS_X11_within (d + 0) 0 0) tw_543 rfl (rr0 (Nat.le_of_ble_eq_true rfl) (Nat.le_of_ble_eq_true rfl)) (Nat.le_of_ble_eq_true rfl) xs0 (s_X11_within _ _ x1 0 30) (fun _ _ kk => ?_)
  obtain ⟨e1, e2⟩ := kk
  rw [e1, e2]
  refine aw_ifb_eq (tgt := 22) d_X11_act_7 rfl (fun c3 => ?_) (fun c3 => ?_)
  · have k := k.1 c3
    refine aw_iconst (v := (-1)) d_X11_act_22 ic_m1 ?_
    exact aw_iret rfl d_X11_act_23 ⟨Nat.le_refl _, Nat.le_refl _⟩ ⟨_, rfl, k⟩
  · have k := k.2 c3
    refine aw_aload_n (i := 0) rfl d_X11_act_10 0 rfl ?_
    refine aw_getr (k0 := 2) kc_11 (ws_0 w) (Nat.le_of_ble_eq_true rfl) tw_489 d_X11_act_11 rfl (wr_0_2 w) ?_
    refine aw_iconst (v := 1) d_X11_act_14 ic_1 ?_
    refine aw_Vi 11 [.int 1] [] d_X11_act_15 (cV_X8_readRule (d + 140) 0 0) kc_8 (ws_11 w) tw_723 rfl (rr0 (Nat.le_of_ble_eq_true rfl) (Nat.le_of_ble_eq_true rfl)) (Nat.le_of_ble_eq_true rfl) xs0 k (fun r6 h4 kk => ?_)
    obtain ⟨w5, k⟩ := kk
    refine aw_iconst (v := (-1)) d_X11_act_18 ic_m1 ?_
    refine aw_icmp_eq (tgt := 24) d_X11_act_19 rfl (fun c7 => ?_) (fun c7 => ?_)
    · have k := k.1 c7
      refine aw_aload_n (i := 0) rfl d_X11_act_24 0 rfl ?_
      refine aw_aload_n (i := 0) rfl d_X11_act_25 0 rfl ?_
      refine aw_getr (k0 := 4) kc_11 (ws_0 w5) (Nat.le_of_ble_eq_true rfl) tw_491 d_X11_act_26 rfl (wr_0_4 w5) ?_
      refine aw_iload_n (i := 1) rfl d_X11_act_29 1 rfl ?_
      refine aw_Vi 0 [.ref 13, .int x1] [] d_X11_act_30 (cV_X11_keepRule (d + 3) 0 0) kc_11 (ws_0 w5) tw_1159 rfl (rr0 (Nat.le_of_ble_eq_true rfl) (Nat.le_of_ble_eq_true rfl)) (Nat.le_of_ble_eq_true rfl) xs0 k (fun r10 h8 kk => ?_)
      obtain ⟨w9, k⟩ := kk
      exact aw_iret rfl d_X11_act_33 ⟨Nat.le_refl _, Nat.le_refl _⟩ ⟨_, rfl, k⟩
    · have k := k.2 c7
      refine aw_iconst (v := (-1)) d_X11_act_22 ic_m1 ?_
      exact aw_iret rfl d_X11_act_23 ⟨Nat.le_refl _, Nat.le_refl _⟩ ⟨_, rfl, k⟩
theorem t_X11_pay (d : Nat) (h : Hp_) (w : Wf h) (x1 : Int32) (K : Int32 → Hp_ → Prop) (k : (¬ (0 ≤ x1 ∧ x1 ≤ 30) → K (-1) h) ∧ ((0 ≤ x1 ∧ x1 ≤ 30) → Ci (m_X8_readRule (d + 140) 0 0) [.ref 11, .int 0] h (fun r6 h4 => Wf h4 ∧ ((r6 = (-1) → Ci (m_X11_keepRule (d + 3) 0 0) [.ref 0, .ref 14, .int x1] h4 (fun r10 h8 => Wf h8 ∧ (K r10 h8))) ∧ (¬ r6 = (-1) → K (-1) h4))))) : Ci (m_X11_pay (d + 141) 0 0) [.ref 0, .int x1] h K := by
  refine Ct.of (fun _ _ _ => trivial) pn_X11 (Nat.le_of_ble_eq_true rfl) ?_
  show AW (m_X11_pay (d + 141) 0 0) 0 0 0 [(0, .ref 0), (1, .int x1)] [] h (kI K)
  refine aw_iload_n (i := 1) rfl d_X11_pay_0 1 rfl ?_
  refine aw_iconst (v := 0) d_X11_pay_1 ic_0 ?_
  refine aw_bipush (v := 30) d_X11_pay_2 ib_30 ?_
  refine aw_Si [.int x1, .int 0, .int 30] [] d_X11_pay_4 (cS_X11_within (d + 0) 0 0) tw_543 rfl (rr0 (Nat.le_of_ble_eq_true rfl) (Nat.le_of_ble_eq_true rfl)) (Nat.le_of_ble_eq_true rfl) xs0 (s_X11_within _ _ x1 0 30) (fun _ _ kk => ?_)
  obtain ⟨e1, e2⟩ := kk
  rw [e1, e2]
  refine aw_ifb_eq (tgt := 22) d_X11_pay_7 rfl (fun c3 => ?_) (fun c3 => ?_)
  · have k := k.1 c3
    refine aw_iconst (v := (-1)) d_X11_pay_22 ic_m1 ?_
    exact aw_iret rfl d_X11_pay_23 ⟨Nat.le_refl _, Nat.le_refl _⟩ ⟨_, rfl, k⟩
  · have k := k.2 c3
    refine aw_aload_n (i := 0) rfl d_X11_pay_10 0 rfl ?_
    refine aw_getr (k0 := 2) kc_11 (ws_0 w) (Nat.le_of_ble_eq_true rfl) tw_489 d_X11_pay_11 rfl (wr_0_2 w) ?_
    refine aw_iconst (v := 0) d_X11_pay_14 ic_0 ?_
    refine aw_Vi 11 [.int 0] [] d_X11_pay_15 (cV_X8_readRule (d + 140) 0 0) kc_8 (ws_11 w) tw_723 rfl (rr0 (Nat.le_of_ble_eq_true rfl) (Nat.le_of_ble_eq_true rfl)) (Nat.le_of_ble_eq_true rfl) xs0 k (fun r6 h4 kk => ?_)
    obtain ⟨w5, k⟩ := kk
    refine aw_iconst (v := (-1)) d_X11_pay_18 ic_m1 ?_
    refine aw_icmp_eq (tgt := 24) d_X11_pay_19 rfl (fun c7 => ?_) (fun c7 => ?_)
    · have k := k.1 c7
      refine aw_aload_n (i := 0) rfl d_X11_pay_24 0 rfl ?_
      refine aw_aload_n (i := 0) rfl d_X11_pay_25 0 rfl ?_
      refine aw_getr (k0 := 5) kc_11 (ws_0 w5) (Nat.le_of_ble_eq_true rfl) tw_492 d_X11_pay_26 rfl (wr_0_5 w5) ?_
      refine aw_iload_n (i := 1) rfl d_X11_pay_29 1 rfl ?_
      refine aw_Vi 0 [.ref 14, .int x1] [] d_X11_pay_30 (cV_X11_keepRule (d + 3) 0 0) kc_11 (ws_0 w5) tw_1159 rfl (rr0 (Nat.le_of_ble_eq_true rfl) (Nat.le_of_ble_eq_true rfl)) (Nat.le_of_ble_eq_true rfl) xs0 k (fun r10 h8 kk => ?_)
      obtain ⟨w9, k⟩ := kk
      exact aw_iret rfl d_X11_pay_33 ⟨Nat.le_refl _, Nat.le_refl _⟩ ⟨_, rfl, k⟩
    · have k := k.2 c7
      refine aw_iconst (v := (-1)) d_X11_pay_22 ic_m1 ?_
      exact aw_iret rfl d_X11_pay_23 ⟨Nat.le_refl _, Nat.le_refl _⟩ ⟨_, rfl, k⟩
theorem t_X11_feed (d : Nat) (h : Hp_) (w : Wf h) (x1 : Int32) (x2 : Int32) (x3 : Int32) (x4 : Int32) (x5 : Int32) (K : Int32 → Hp_ → Prop) (k : Ci (m_X8_takeIn (d + 1) 0 0) [.ref 11, .int x1, .int x2, .int x3, .int x4, .int x5] h (fun r3 h1 => Wf h1 ∧ (K r3 h1))) : Ci (m_X11_feed (d + 2) 0 0) [.ref 0, .int x1, .int x2, .int x3, .int x4, .int x5] h K := by
  refine Ct.of (fun _ _ _ => trivial) pn_X11 (Nat.le_of_ble_eq_true rfl) ?_
  show AW (m_X11_feed (d + 2) 0 0) 0 0 0 [(0, .ref 0), (1, .int x1), (2, .int x2), (3, .int x3), (4, .int x4), (5, .int x5)] [] h (kI K)
  refine aw_aload_n (i := 0) rfl d_X11_feed_0 0 rfl ?_
  refine aw_getr (k0 := 2) kc_11 (ws_0 w) (Nat.le_of_ble_eq_true rfl) tw_489 d_X11_feed_1 rfl (wr_0_2 w) ?_
  refine aw_iload_n (i := 1) rfl d_X11_feed_4 1 rfl ?_
  refine aw_iload_n (i := 2) rfl d_X11_feed_5 2 rfl ?_
  refine aw_iload_n (i := 3) rfl d_X11_feed_6 3 rfl ?_
  refine aw_iload d_X11_feed_7 4 rfl ?_
  refine aw_iload d_X11_feed_9 5 rfl ?_
  refine aw_Vi 11 [.int x1, .int x2, .int x3, .int x4, .int x5] [] d_X11_feed_11 (cV_X8_takeIn (d + 1) 0 0) kc_8 (ws_11 w) tw_645 rfl (rr0 (Nat.le_of_ble_eq_true rfl) (Nat.le_of_ble_eq_true rfl)) (Nat.le_of_ble_eq_true rfl) xs0 k (fun r3 h1 kk => ?_)
  obtain ⟨w2, k⟩ := kk
  exact aw_iret rfl d_X11_feed_14 ⟨Nat.le_refl _, Nat.le_refl _⟩ ⟨_, rfl, k⟩
theorem t_X8_takeIn (d : Nat) (h : Hp_) (x1 : Int32) (x2 : Int32) (x3 : Int32) (x4 : Int32) (x5 : Int32) (K : Int32 → Hp_ → Prop) (k : Ci (m_X8_signs (d + 0) 0 0) [.int x1] h (fun r3 h1 => Wf h1 ∧ (Ci (m_X8_signs (d + 0) 0 0) [.int x2] h1 (fun r6 h4 => Wf h4 ∧ (Ci (m_X8_signs (d + 0) 0 0) [.int x3] h4 (fun r9 h7 => Wf h7 ∧ (Ci (m_X8_signs (d + 0) 0 0) [.int x4] h7 (fun r12 h10 => Wf h10 ∧ (Ci (m_X8_signs (d + 0) 0 0) [.int x5] h10 (fun r15 h13 => Wf h13 ∧ ((((h_i h13 11 1) + ((((r3 + r6) + r9) + r12) + r15)) ≤ 160 → Cv (m_X8_append (d + 0) 0 0) [.ref 11, .int x1] h13 (fun h17 => Wf h17 ∧ (Cv (m_X8_append (d + 0) 0 0) [.ref 11, .int x2] h17 (fun h20 => Wf h20 ∧ (Cv (m_X8_append (d + 0) 0 0) [.ref 11, .int x3] h20 (fun h23 => Wf h23 ∧ (Cv (m_X8_append (d + 0) 0 0) [.ref 11, .int x4] h23 (fun h26 => Wf h26 ∧ (Cv (m_X8_append (d + 0) 0 0) [.ref 11, .int x5] h26 (fun h29 => Wf h29 ∧ (K (h_i h29 11 1) h29))))))))))) ∧ (¬ ((h_i h13 11 1) + ((((r3 + r6) + r9) + r12) + r15)) ≤ 160 → K (-1) h13)))))))))))) : Ci (m_X8_takeIn (d + 1) 0 0) [.ref 11, .int x1, .int x2, .int x3, .int x4, .int x5] h K := by
  refine Ct.of (fun _ _ _ => trivial) pn_X8 (Nat.le_of_ble_eq_true rfl) ?_
  show AW (m_X8_takeIn (d + 1) 0 0) 0 0 0 [(0, .ref 11), (1, .int x1), (2, .int x2), (3, .int x3), (4, .int x4), (5, .int x5)] [] h (kI K)
  refine aw_iload_n (i := 1) rfl d_X8_takeIn_0 1 rfl ?_
  refine aw_Si [.int x1] [] d_X8_takeIn_1 (cS_X8_signs (d + 0) 0 0) tw_649 rfl (rr0 (Nat.le_of_ble_eq_true rfl) (Nat.le_of_ble_eq_true rfl)) (Nat.le_of_ble_eq_true rfl) xs0 k (fun r3 h1 kk => ?_)
  obtain ⟨w2, k⟩ := kk
  refine aw_iload_n (i := 2) rfl d_X8_takeIn_4 2 rfl ?_
  refine aw_Si [.int x2] [.int r3] d_X8_takeIn_5 (cS_X8_signs (d + 0) 0 0) tw_649 rfl (rr0 (Nat.le_of_ble_eq_true rfl) (Nat.le_of_ble_eq_true rfl)) (Nat.le_of_ble_eq_true rfl) xs0 k (fun r6 h4 kk => ?_)
  obtain ⟨w5, k⟩ := kk
  refine aw_iadd d_X8_takeIn_8 ?_
  refine aw_iload_n (i := 3) rfl d_X8_takeIn_9 3 rfl ?_
  refine aw_Si [.int x3] [.int (r3 + r6)] d_X8_takeIn_10 (cS_X8_signs (d + 0) 0 0) tw_649 rfl (rr0 (Nat.le_of_ble_eq_true rfl) (Nat.le_of_ble_eq_true rfl)) (Nat.le_of_ble_eq_true rfl) xs0 k (fun r9 h7 kk => ?_)
  obtain ⟨w8, k⟩ := kk
  refine aw_iadd d_X8_takeIn_13 ?_
  refine aw_iload d_X8_takeIn_14 4 rfl ?_
  refine aw_Si [.int x4] [.int ((r3 + r6) + r9)] d_X8_takeIn_16 (cS_X8_signs (d + 0) 0 0) tw_649 rfl (rr0 (Nat.le_of_ble_eq_true rfl) (Nat.le_of_ble_eq_true rfl)) (Nat.le_of_ble_eq_true rfl) xs0 k (fun r12 h10 kk => ?_)
  obtain ⟨w11, k⟩ := kk
  refine aw_iadd d_X8_takeIn_19 ?_
  refine aw_iload d_X8_takeIn_20 5 rfl ?_
  refine aw_Si [.int x5] [.int (((r3 + r6) + r9) + r12)] d_X8_takeIn_22 (cS_X8_signs (d + 0) 0 0) tw_649 rfl (rr0 (Nat.le_of_ble_eq_true rfl) (Nat.le_of_ble_eq_true rfl)) (Nat.le_of_ble_eq_true rfl) xs0 k (fun r15 h13 kk => ?_)
  obtain ⟨w14, k⟩ := kk
  refine aw_iadd d_X8_takeIn_25 ?_
  refine aw_istore [(0, .ref 11), (1, .int x1), (2, .int x2), (3, .int x3), (4, .int x4), (5, .int x5), (6, .int ((((r3 + r6) + r9) + r12) + r15))] d_X8_takeIn_26 (Nat.le_of_ble_eq_true rfl) rfl rfl ?_
  refine aw_aload_n (i := 0) rfl d_X8_takeIn_28 0 rfl ?_
  refine aw_geti (k0 := 1) kc_8 (ws_11 w14) (Nat.le_of_ble_eq_true rfl) tw_60 d_X8_takeIn_29 rfl ?_
  refine aw_iload d_X8_takeIn_32 6 rfl ?_
  refine aw_iadd d_X8_takeIn_34 ?_
  refine aw_sipush (v := 160) d_X8_takeIn_35 is_160 ?_
  refine aw_icmp_le (tgt := 43) d_X8_takeIn_38 rfl (fun c16 => ?_) (fun c16 => ?_)
  · have k := k.1 c16
    refine aw_aload_n (i := 0) rfl d_X8_takeIn_43 0 rfl ?_
    refine aw_iload_n (i := 1) rfl d_X8_takeIn_44 1 rfl ?_
    refine aw_Vv 11 [.int x1] [] d_X8_takeIn_45 (cV_X8_append (d + 0) 0 0) kc_8 (ws_11 w14) tw_652 rfl (rr0 (Nat.le_of_ble_eq_true rfl) (Nat.le_of_ble_eq_true rfl)) (Nat.le_of_ble_eq_true rfl) xs0 k (fun h17 kk => ?_)
    obtain ⟨w18, k⟩ := kk
    refine aw_aload_n (i := 0) rfl d_X8_takeIn_48 0 rfl ?_
    refine aw_iload_n (i := 2) rfl d_X8_takeIn_49 2 rfl ?_
    refine aw_Vv 11 [.int x2] [] d_X8_takeIn_50 (cV_X8_append (d + 0) 0 0) kc_8 (ws_11 w18) tw_652 rfl (rr0 (Nat.le_of_ble_eq_true rfl) (Nat.le_of_ble_eq_true rfl)) (Nat.le_of_ble_eq_true rfl) xs0 k (fun h20 kk => ?_)
    obtain ⟨w21, k⟩ := kk
    refine aw_aload_n (i := 0) rfl d_X8_takeIn_53 0 rfl ?_
    refine aw_iload_n (i := 3) rfl d_X8_takeIn_54 3 rfl ?_
    refine aw_Vv 11 [.int x3] [] d_X8_takeIn_55 (cV_X8_append (d + 0) 0 0) kc_8 (ws_11 w21) tw_652 rfl (rr0 (Nat.le_of_ble_eq_true rfl) (Nat.le_of_ble_eq_true rfl)) (Nat.le_of_ble_eq_true rfl) xs0 k (fun h23 kk => ?_)
    obtain ⟨w24, k⟩ := kk
    refine aw_aload_n (i := 0) rfl d_X8_takeIn_58 0 rfl ?_
    refine aw_iload d_X8_takeIn_59 4 rfl ?_
    refine aw_Vv 11 [.int x4] [] d_X8_takeIn_61 (cV_X8_append (d + 0) 0 0) kc_8 (ws_11 w24) tw_652 rfl (rr0 (Nat.le_of_ble_eq_true rfl) (Nat.le_of_ble_eq_true rfl)) (Nat.le_of_ble_eq_true rfl) xs0 k (fun h26 kk => ?_)
    obtain ⟨w27, k⟩ := kk
    refine aw_aload_n (i := 0) rfl d_X8_takeIn_64 0 rfl ?_
    refine aw_iload d_X8_takeIn_65 5 rfl ?_
    refine aw_Vv 11 [.int x5] [] d_X8_takeIn_67 (cV_X8_append (d + 0) 0 0) kc_8 (ws_11 w27) tw_652 rfl (rr0 (Nat.le_of_ble_eq_true rfl) (Nat.le_of_ble_eq_true rfl)) (Nat.le_of_ble_eq_true rfl) xs0 k (fun h29 kk => ?_)
    obtain ⟨w30, k⟩ := kk
    refine aw_aload_n (i := 0) rfl d_X8_takeIn_70 0 rfl ?_
    refine aw_geti (k0 := 1) kc_8 (ws_11 w30) (Nat.le_of_ble_eq_true rfl) tw_60 d_X8_takeIn_71 rfl ?_
    exact aw_iret rfl d_X8_takeIn_74 ⟨Nat.le_refl _, Nat.le_refl _⟩ ⟨_, rfl, k⟩
  · have k := k.2 c16
    refine aw_iconst (v := (-1)) d_X8_takeIn_41 ic_m1 ?_
    exact aw_iret rfl d_X8_takeIn_42 ⟨Nat.le_refl _, Nat.le_refl _⟩ ⟨_, rfl, k⟩
theorem t_X8_append (d : Nat) (h : Hp_) (x1 : Int32) (K : Hp_ → Prop) (k : AW (m_X8_append (d + 0) 0 0) 0 0 3 [(0, .ref 11), (1, .int x1), (2, .int 24)] [] h (kV K)) : Cv (m_X8_append (d + 0) 0 0) [.ref 11, .int x1] h K := by
  refine Ct.of (fun _ _ _ => trivial) pn_X8 (Nat.le_of_ble_eq_true rfl) ?_
  show AW (m_X8_append (d + 0) 0 0) 0 0 0 [(0, .ref 11), (1, .int x1)] [] h (kV K)
  refine aw_bipush (v := 24) d_X8_append_0 ib_24 ?_
  refine aw_istore_n (i := 2) rfl [(0, .ref 11), (1, .int x1), (2, .int 24)] d_X8_append_2 (Nat.le_of_ble_eq_true rfl) rfl rfl ?_
  exact k
theorem t_X8_append_3 (d : Nat) (h : Hp_) (w : Wf h) (x1 : Int32) (x2 : Int32) (K : Hp_ → Prop) (k : (x2 < 0 → K h) ∧ (¬ x2 < 0 → (((x1 >>> (x2 &&& 31)) &&& 255) = 0 → AW (m_X8_append (d + 0) 0 0) 0 0 3 [(0, .ref 11), (1, .int x1), (2, .int (x2 + (-8)))] [] h (kV K)) ∧ (¬ ((x1 >>> (x2 &&& 31)) &&& 255) = 0 → (160 ≤ (h_i h 11 1) → AW (m_X8_append (d + 0) 0 0) 0 0 3 [(0, .ref 11), (1, .int x1), (2, .int (x2 + (-8)))] [] h (kV K)) ∧ (¬ 160 ≤ (h_i h 11 1) → vp_in (h_i h 11 1) 160 ∧ (AW (m_X8_append (d + 0) 0 0) 0 0 3 [(0, .ref 11), (1, .int x1), (2, .int (x2 + (-8)))] [] (h_im (h_im h 31 ((h_i h 11 1) : Int32).toNatClampNeg ((x1 >>> (x2 &&& 31)) &&& 255)) 11 1 ((h_i h 11 1) + 1)) (kV K)))))) : AW (m_X8_append (d + 0) 0 0) 0 0 3 [(0, .ref 11), (1, .int x1), (2, .int x2)] [] h (kV K) := by
  refine aw_iload_n (i := 2) rfl d_X8_append_3 2 rfl ?_
  refine aw_if_lt (tgt := 55) d_X8_append_4 rfl (fun c1 => ?_) (fun c1 => ?_)
  · have k := k.1 c1
    exact aw_vret rfl d_X8_append_55 ⟨Nat.le_refl _, Nat.le_refl _⟩ ⟨rfl, k⟩
  · have k := k.2 c1
    refine aw_iload_n (i := 1) rfl d_X8_append_7 1 rfl ?_
    refine aw_iload_n (i := 2) rfl d_X8_append_8 2 rfl ?_
    refine aw_ishr d_X8_append_9 ?_
    refine aw_sipush (v := 255) d_X8_append_10 is_255 ?_
    refine aw_iand d_X8_append_13 ?_
    refine aw_istore_n (i := 3) rfl [(0, .ref 11), (1, .int x1), (2, .int x2), (3, .int ((x1 >>> (x2 &&& 31)) &&& 255))] d_X8_append_14 (Nat.le_of_ble_eq_true rfl) rfl rfl ?_
    refine aw_iload_n (i := 3) rfl d_X8_append_15 3 rfl ?_
    refine aw_if_eq (tgt := 49) d_X8_append_16 rfl (fun c2 => ?_) (fun c2 => ?_)
    · have k := k.1 c2
      refine aw_iinc (v := (x2 + (-8))) [(0, .ref 11), (1, .int x1), (2, .int (x2 + (-8))), (3, .int ((x1 >>> (x2 &&& 31)) &&& 255))] d_X8_append_49 2 rfl rfl (Nat.le_of_ble_eq_true rfl) rfl rfl ?_
      refine aw_goto (tgt := 3) d_X8_append_52 rfl ?_
      exact aw_lvp [0, 1, 2] [(0, .ref 11), (1, .int x1), (2, .int (x2 + (-8)))] rfl k
    · have k := k.2 c2
      refine aw_aload_n (i := 0) rfl d_X8_append_19 0 rfl ?_
      refine aw_geti (k0 := 1) kc_8 (ws_11 w) (Nat.le_of_ble_eq_true rfl) tw_60 d_X8_append_20 rfl ?_
      refine aw_sipush (v := 160) d_X8_append_23 is_160 ?_
      refine aw_icmp_ge (tgt := 49) d_X8_append_26 rfl (fun c3 => ?_) (fun c3 => ?_)
      · have k := k.1 c3
        refine aw_iinc (v := (x2 + (-8))) [(0, .ref 11), (1, .int x1), (2, .int (x2 + (-8))), (3, .int ((x1 >>> (x2 &&& 31)) &&& 255))] d_X8_append_49 2 rfl rfl (Nat.le_of_ble_eq_true rfl) rfl rfl ?_
        refine aw_goto (tgt := 3) d_X8_append_52 rfl ?_
        exact aw_lvp [0, 1, 2] [(0, .ref 11), (1, .int x1), (2, .int (x2 + (-8)))] rfl k
      · have k := k.2 c3
        refine aw_aload_n (i := 0) rfl d_X8_append_29 0 rfl ?_
        refine aw_getr (k0 := 0) kc_8 (ws_11 w) (Nat.le_of_ble_eq_true rfl) tw_59 d_X8_append_30 rfl (wr_11_0 w) ?_
        refine aw_aload_n (i := 0) rfl d_X8_append_33 0 rfl ?_
        refine aw_geti (k0 := 1) kc_8 (ws_11 w) (Nat.le_of_ble_eq_true rfl) tw_60 d_X8_append_34 rfl ?_
        refine aw_iload_n (i := 3) rfl d_X8_append_37 3 rfl ?_
        obtain ⟨b4, k⟩ := k
        refine aw_iast (ws_31 w) b4 d_X8_append_38 ?_
        refine aw_aload_n (i := 0) rfl d_X8_append_39 0 rfl ?_
        refine aw_dup d_X8_append_40 rfl ?_
        refine aw_geti (k0 := 1) kc_8 (ws_11 w) (Nat.le_of_ble_eq_true rfl) tw_60 d_X8_append_41 rfl ?_
        refine aw_vi (v2 := (h_i h 11 1)) (rfl) ?_
        refine aw_iconst (v := 1) d_X8_append_44 ic_1 ?_
        refine aw_iadd d_X8_append_45 ?_
        refine aw_puti (k0 := 1) kc_8 (ws_11 w) (Nat.le_of_ble_eq_true rfl) tw_60 d_X8_append_46 rfl rfl nf_i ?_
        refine aw_iinc (v := (x2 + (-8))) [(0, .ref 11), (1, .int x1), (2, .int (x2 + (-8))), (3, .int ((x1 >>> (x2 &&& 31)) &&& 255))] d_X8_append_49 2 rfl rfl (Nat.le_of_ble_eq_true rfl) rfl rfl ?_
        refine aw_goto (tgt := 3) d_X8_append_52 rfl ?_
        exact aw_lvp [0, 1, 2] [(0, .ref 11), (1, .int x1), (2, .int (x2 + (-8)))] rfl k
theorem t_X8_signs (d : Nat) (h : Hp_) (x0 : Int32) (K : Int32 → Hp_ → Prop) (k : AW (m_X8_signs (d + 0) 0 0) 0 0 5 [(0, .int x0), (1, .int 0), (2, .int 24)] [] h (kI K)) : Ci (m_X8_signs (d + 0) 0 0) [.int x0] h K := by
  refine Ct.of (fun _ _ _ => trivial) pn_X8 (Nat.le_of_ble_eq_true rfl) ?_
  show AW (m_X8_signs (d + 0) 0 0) 0 0 0 [(0, .int x0)] [] h (kI K)
  refine aw_iconst (v := 0) d_X8_signs_0 ic_0 ?_
  refine aw_istore_n (i := 1) rfl [(0, .int x0), (1, .int 0)] d_X8_signs_1 (Nat.le_of_ble_eq_true rfl) rfl rfl ?_
  refine aw_bipush (v := 24) d_X8_signs_2 ib_24 ?_
  refine aw_istore_n (i := 2) rfl [(0, .int x0), (1, .int 0), (2, .int 24)] d_X8_signs_4 (Nat.le_of_ble_eq_true rfl) rfl rfl ?_
  exact k
theorem t_X8_signs_5 (d : Nat) (h : Hp_) (x0 : Int32) (x1 : Int32) (x2 : Int32) (K : Int32 → Hp_ → Prop) (k : (x2 < 0 → K x1 h) ∧ (¬ x2 < 0 → (((x0 >>> (x2 &&& 31)) &&& 255) = 0 → AW (m_X8_signs (d + 0) 0 0) 0 0 5 [(0, .int x0), (1, .int x1), (2, .int (x2 + (-8)))] [] h (kI K)) ∧ (¬ ((x0 >>> (x2 &&& 31)) &&& 255) = 0 → AW (m_X8_signs (d + 0) 0 0) 0 0 5 [(0, .int x0), (1, .int (x1 + 1)), (2, .int (x2 + (-8)))] [] h (kI K)))) : AW (m_X8_signs (d + 0) 0 0) 0 0 5 [(0, .int x0), (1, .int x1), (2, .int x2)] [] h (kI K) := by
  refine aw_iload_n (i := 2) rfl d_X8_signs_5 2 rfl ?_
  refine aw_if_lt (tgt := 28) d_X8_signs_6 rfl (fun c1 => ?_) (fun c1 => ?_)
  · have k := k.1 c1
    refine aw_iload_n (i := 1) rfl d_X8_signs_28 1 rfl ?_
    exact aw_iret rfl d_X8_signs_29 ⟨Nat.le_refl _, Nat.le_refl _⟩ ⟨_, rfl, k⟩
  · have k := k.2 c1
    refine aw_iload_n (i := 0) rfl d_X8_signs_9 0 rfl ?_
    refine aw_iload_n (i := 2) rfl d_X8_signs_10 2 rfl ?_
    refine aw_ishr d_X8_signs_11 ?_
    refine aw_sipush (v := 255) d_X8_signs_12 is_255 ?_
    refine aw_iand d_X8_signs_15 ?_
    refine aw_if_eq (tgt := 22) d_X8_signs_16 rfl (fun c2 => ?_) (fun c2 => ?_)
    · have k := k.1 c2
      refine aw_iinc (v := (x2 + (-8))) [(0, .int x0), (1, .int x1), (2, .int (x2 + (-8)))] d_X8_signs_22 2 rfl rfl (Nat.le_of_ble_eq_true rfl) rfl rfl ?_
      refine aw_goto (tgt := 5) d_X8_signs_25 rfl ?_
      exact k
    · have k := k.2 c2
      refine aw_iinc (v := (x1 + 1)) [(0, .int x0), (1, .int (x1 + 1)), (2, .int x2)] d_X8_signs_19 1 rfl rfl (Nat.le_of_ble_eq_true rfl) rfl rfl ?_
      refine aw_iinc (v := (x2 + (-8))) [(0, .int x0), (1, .int (x1 + 1)), (2, .int (x2 + (-8)))] d_X8_signs_22 2 rfl rfl (Nat.le_of_ble_eq_true rfl) rfl rfl ?_
      refine aw_goto (tgt := 5) d_X8_signs_25 rfl ?_
      exact k
theorem t_X11_end (d : Nat) (h : Hp_) (w : Wf h) (x1 : Int32) (K : Int32 → Hp_ → Prop) (k : Ci (m_X8_cut (d + 1) 0 0) [.ref 11, .int x1] h (fun r3 h1 => Wf h1 ∧ ((r3 = 0 ∨ r3 = 1) ∧ (K r3 h1)))) : Ci (m_X11_end (d + 2) 0 0) [.ref 0, .int x1] h K := by
  refine Ct.of (fun _ _ _ => trivial) pn_X11 (Nat.le_of_ble_eq_true rfl) ?_
  show AW (m_X11_end (d + 2) 0 0) 0 0 0 [(0, .ref 0), (1, .int x1)] [] h (kI K)
  refine aw_aload_n (i := 0) rfl d_X11_end_0 0 rfl ?_
  refine aw_getr (k0 := 2) kc_11 (ws_0 w) (Nat.le_of_ble_eq_true rfl) tw_489 d_X11_end_1 rfl (wr_0_2 w) ?_
  refine aw_iload_n (i := 1) rfl d_X11_end_4 1 rfl ?_
  refine aw_Vi 11 [.int x1] [] d_X11_end_5 (cV_X8_cut (d + 1) 0 0) kc_8 (ws_11 w) tw_660 rfl (rr0 (Nat.le_of_ble_eq_true rfl) (Nat.le_of_ble_eq_true rfl)) (Nat.le_of_ble_eq_true rfl) xs0 k (fun r3 h1 kk => ?_)
  obtain ⟨w2, k⟩ := kk
  obtain ⟨z4, k⟩ := k
  exact aw_zret rfl (nf_z z4).1 d_X11_end_8 ⟨Nat.le_refl _, Nat.le_refl _⟩ ⟨_, rfl, k⟩
theorem t_X12_end (d : Nat) (h : Hp_) (w : Wf h) (x1 : Int32) (K : Int32 → Hp_ → Prop) (k : (x1 < 0 → K 0 h) ∧ (¬ x1 < 0 → (x1 ≤ (h_i h 1 32) → K 1 (h_im h 1 32 x1)) ∧ (¬ x1 ≤ (h_i h 1 32) → K 0 h))) : Ci (m_X12_end (d + 0) 0 0) [.ref 1, .int x1] h K := by
  refine Ct.of (fun _ _ _ => trivial) pn_X12 (Nat.le_of_ble_eq_true rfl) ?_
  show AW (m_X12_end (d + 0) 0 0) 0 0 0 [(0, .ref 1), (1, .int x1)] [] h (kI K)
  refine aw_iload_n (i := 1) rfl d_X12_end_0 1 rfl ?_
  refine aw_if_lt (tgt := 12) d_X12_end_1 rfl (fun c1 => ?_) (fun c1 => ?_)
  · have k := k.1 c1
    refine aw_iconst (v := 0) d_X12_end_12 ic_0 ?_
    exact aw_zret rfl rfl d_X12_end_13 ⟨Nat.le_refl _, Nat.le_refl _⟩ ⟨_, rfl, k⟩
  · have k := k.2 c1
    refine aw_iload_n (i := 1) rfl d_X12_end_4 1 rfl ?_
    refine aw_aload_n (i := 0) rfl d_X12_end_5 0 rfl ?_
    refine aw_geti (k0 := 32) kc_12 (ws_1 w) (Nat.le_of_ble_eq_true rfl) tw_1774 d_X12_end_6 rfl ?_
    refine aw_icmp_le (tgt := 14) d_X12_end_9 rfl (fun c2 => ?_) (fun c2 => ?_)
    · have k := k.1 c2
      refine aw_aload_n (i := 0) rfl d_X12_end_14 0 rfl ?_
      refine aw_iload_n (i := 1) rfl d_X12_end_15 1 rfl ?_
      refine aw_puti (k0 := 32) kc_12 (ws_1 w) (Nat.le_of_ble_eq_true rfl) tw_1774 d_X12_end_16 rfl rfl nf_i ?_
      refine aw_iconst (v := 1) d_X12_end_19 ic_1 ?_
      exact aw_zret rfl rfl d_X12_end_20 ⟨Nat.le_refl _, Nat.le_refl _⟩ ⟨_, rfl, k⟩
    · have k := k.2 c2
      refine aw_iconst (v := 0) d_X12_end_12 ic_0 ?_
      exact aw_zret rfl rfl d_X12_end_13 ⟨Nat.le_refl _, Nat.le_refl _⟩ ⟨_, rfl, k⟩
theorem t_X0_has (d : Nat) (h : Hp_) (w : Wf h) (x1 : Int32) (K : Int32 → Hp_ → Prop) (k : (x1 < 0 → K 0 h) ∧ (¬ x1 < 0 → ((h_i h 12 3) ≤ x1 → K 0 h) ∧ (¬ (h_i h 12 3) ≤ x1 → K 1 h))) : Ci (m_X0_has (d + 0) 0 0) [.ref 12, .int x1] h K := by
  refine Ct.of (fun _ _ _ => trivial) pn_X0 (Nat.le_of_ble_eq_true rfl) ?_
  show AW (m_X0_has (d + 0) 0 0) 0 0 0 [(0, .ref 12), (1, .int x1)] [] h (kI K)
  refine aw_iload_n (i := 1) rfl d_X0_has_0 1 rfl ?_
  refine aw_if_lt (tgt := 16) d_X0_has_1 rfl (fun c1 => ?_) (fun c1 => ?_)
  · have k := k.1 c1
    refine aw_iconst (v := 0) d_X0_has_16 ic_0 ?_
    exact aw_zret rfl rfl d_X0_has_17 ⟨Nat.le_refl _, Nat.le_refl _⟩ ⟨_, rfl, k⟩
  · have k := k.2 c1
    refine aw_iload_n (i := 1) rfl d_X0_has_4 1 rfl ?_
    refine aw_aload_n (i := 0) rfl d_X0_has_5 0 rfl ?_
    refine aw_geti (k0 := 3) kc_0 (ws_12 w) (Nat.le_of_ble_eq_true rfl) tw_106 d_X0_has_6 rfl ?_
    refine aw_icmp_ge (tgt := 16) d_X0_has_9 rfl (fun c2 => ?_) (fun c2 => ?_)
    · have k := k.1 c2
      refine aw_iconst (v := 0) d_X0_has_16 ic_0 ?_
      exact aw_zret rfl rfl d_X0_has_17 ⟨Nat.le_refl _, Nat.le_refl _⟩ ⟨_, rfl, k⟩
    · have k := k.2 c2
      refine aw_iconst (v := 1) d_X0_has_12 ic_1 ?_
      refine aw_goto (tgt := 17) d_X0_has_13 rfl ?_
      exact aw_zret rfl rfl d_X0_has_17 ⟨Nat.le_refl _, Nat.le_refl _⟩ ⟨_, rfl, k⟩
theorem t_X0_stepsOf (d : Nat) (h : Hp_) (w : Wf h) (x1 : Int32) (K : Int32 → Hp_ → Prop) (k : Ci (m_X0_has (d + 0) 0 0) [.ref 12, .int x1] h (fun r3 h1 => Wf h1 ∧ ((r3 = 0 → K 0 h1) ∧ (¬ r3 = 0 → vp_in x1 12 ∧ (K (h_i h1 35 x1.toNatClampNeg) h1))))) : Ci (m_X0_stepsOf (d + 1) 0 0) [.ref 12, .int x1] h K := by
  refine Ct.of (fun _ _ _ => trivial) pn_X0 (Nat.le_of_ble_eq_true rfl) ?_
  show AW (m_X0_stepsOf (d + 1) 0 0) 0 0 0 [(0, .ref 12), (1, .int x1)] [] h (kI K)
  refine aw_aload_n (i := 0) rfl d_X0_stepsOf_0 0 rfl ?_
  refine aw_iload_n (i := 1) rfl d_X0_stepsOf_1 1 rfl ?_
  refine aw_Vi 12 [.int x1] [] d_X0_stepsOf_2 (cV_X0_has (d + 0) 0 0) kc_0 (ws_12 w) tw_895 rfl (rr0 (Nat.le_of_ble_eq_true rfl) (Nat.le_of_ble_eq_true rfl)) (Nat.le_of_ble_eq_true rfl) xs0 k (fun r3 h1 kk => ?_)
  obtain ⟨w2, k⟩ := kk
  refine aw_if_eq (tgt := 17) d_X0_stepsOf_5 rfl (fun c4 => ?_) (fun c4 => ?_)
  · have k := k.1 c4
    refine aw_iconst (v := 0) d_X0_stepsOf_17 ic_0 ?_
    exact aw_iret rfl d_X0_stepsOf_18 ⟨Nat.le_refl _, Nat.le_refl _⟩ ⟨_, rfl, k⟩
  · have k := k.2 c4
    refine aw_aload_n (i := 0) rfl d_X0_stepsOf_8 0 rfl ?_
    refine aw_getr (k0 := 1) kc_0 (ws_12 w2) (Nat.le_of_ble_eq_true rfl) tw_104 d_X0_stepsOf_9 rfl (wr_12_1 w2) ?_
    refine aw_iload_n (i := 1) rfl d_X0_stepsOf_12 1 rfl ?_
    obtain ⟨b5, k⟩ := k
    refine aw_iald (ws_35 w2) b5 d_X0_stepsOf_13 ?_
    refine aw_goto (tgt := 18) d_X0_stepsOf_14 rfl ?_
    exact aw_iret rfl d_X0_stepsOf_18 ⟨Nat.le_refl _, Nat.le_refl _⟩ ⟨_, rfl, k⟩
theorem t_X0_pointsOf (d : Nat) (h : Hp_) (w : Wf h) (x1 : Int32) (K : Int32 → Hp_ → Prop) (k : Ci (m_X0_has (d + 0) 0 0) [.ref 12, .int x1] h (fun r3 h1 => Wf h1 ∧ ((r3 = 0 → K 0 h1) ∧ (¬ r3 = 0 → vp_in x1 12 ∧ (K (h_i h1 36 x1.toNatClampNeg) h1))))) : Ci (m_X0_pointsOf (d + 1) 0 0) [.ref 12, .int x1] h K := by
  refine Ct.of (fun _ _ _ => trivial) pn_X0 (Nat.le_of_ble_eq_true rfl) ?_
  show AW (m_X0_pointsOf (d + 1) 0 0) 0 0 0 [(0, .ref 12), (1, .int x1)] [] h (kI K)
  refine aw_aload_n (i := 0) rfl d_X0_pointsOf_0 0 rfl ?_
  refine aw_iload_n (i := 1) rfl d_X0_pointsOf_1 1 rfl ?_
  refine aw_Vi 12 [.int x1] [] d_X0_pointsOf_2 (cV_X0_has (d + 0) 0 0) kc_0 (ws_12 w) tw_895 rfl (rr0 (Nat.le_of_ble_eq_true rfl) (Nat.le_of_ble_eq_true rfl)) (Nat.le_of_ble_eq_true rfl) xs0 k (fun r3 h1 kk => ?_)
  obtain ⟨w2, k⟩ := kk
  refine aw_if_eq (tgt := 17) d_X0_pointsOf_5 rfl (fun c4 => ?_) (fun c4 => ?_)
  · have k := k.1 c4
    refine aw_iconst (v := 0) d_X0_pointsOf_17 ic_0 ?_
    exact aw_iret rfl d_X0_pointsOf_18 ⟨Nat.le_refl _, Nat.le_refl _⟩ ⟨_, rfl, k⟩
  · have k := k.2 c4
    refine aw_aload_n (i := 0) rfl d_X0_pointsOf_8 0 rfl ?_
    refine aw_getr (k0 := 2) kc_0 (ws_12 w2) (Nat.le_of_ble_eq_true rfl) tw_105 d_X0_pointsOf_9 rfl (wr_12_2 w2) ?_
    refine aw_iload_n (i := 1) rfl d_X0_pointsOf_12 1 rfl ?_
    obtain ⟨b5, k⟩ := k
    refine aw_iald (ws_36 w2) b5 d_X0_pointsOf_13 ?_
    refine aw_goto (tgt := 18) d_X0_pointsOf_14 rfl ?_
    exact aw_iret rfl d_X0_pointsOf_18 ⟨Nat.le_refl _, Nat.le_refl _⟩ ⟨_, rfl, k⟩
theorem t_X11_isKnown (d : Nat) (h : Hp_) (w : Wf h) (x1 : Int32) (K : Int32 → Hp_ → Prop) (k : K (bI (0 ≤ x1 ∧ x1 ≤ (h_i h 0 0))) h) : Ci (m_X11_isKnown (d + 1) 0 0) [.ref 0, .int x1] h K := by
  refine Ct.of (fun _ _ _ => trivial) pn_X11 (Nat.le_of_ble_eq_true rfl) ?_
  show AW (m_X11_isKnown (d + 1) 0 0) 0 0 0 [(0, .ref 0), (1, .int x1)] [] h (kI K)
  refine aw_iload_n (i := 1) rfl d_X11_isKnown_0 1 rfl ?_
  refine aw_iconst (v := 0) d_X11_isKnown_1 ic_0 ?_
  refine aw_aload_n (i := 0) rfl d_X11_isKnown_2 0 rfl ?_
  refine aw_geti (k0 := 0) kc_11 (ws_0 w) (Nat.le_of_ble_eq_true rfl) tw_487 d_X11_isKnown_3 rfl ?_
  refine aw_Si [.int x1, .int 0, .int (h_i h 0 0)] [] d_X11_isKnown_6 (cS_X11_within (d + 0) 0 0) tw_543 rfl (rr0 (Nat.le_of_ble_eq_true rfl) (Nat.le_of_ble_eq_true rfl)) (Nat.le_of_ble_eq_true rfl) xs0 (s_X11_within _ _ x1 0 (h_i h 0 0)) (fun _ _ kk => ?_)
  obtain ⟨e1, e2⟩ := kk
  rw [e1, e2]
  exact aw_zret rfl (bI_nar _) d_X11_isKnown_9 ⟨Nat.le_refl _, Nat.le_refl _⟩ ⟨_, rfl, k⟩
theorem t_X10_inForce_13 (d : Nat) (h : Hp_) (x1 : Int32) (x2 : Int32) (K : Int32 → Hp_ → Prop) (k : AW (m_X10_inForce (d + 0) 0 0) 0 0 5 [(0, .ref 13), (1, .int x1), (2, .int x2), (3, .int (-1)), (4, .int 0)] [] h (kI K)) : Ci (m_X10_inForce (d + 0) 0 0) [.ref 13, .int x1, .int x2] h K := by
  refine Ct.of (fun _ _ _ => trivial) pn_X10 (Nat.le_of_ble_eq_true rfl) ?_
  show AW (m_X10_inForce (d + 0) 0 0) 0 0 0 [(0, .ref 13), (1, .int x1), (2, .int x2)] [] h (kI K)
  refine aw_iconst (v := (-1)) d_X10_inForce_0 ic_m1 ?_
  refine aw_istore_n (i := 3) rfl [(0, .ref 13), (1, .int x1), (2, .int x2), (3, .int (-1))] d_X10_inForce_1 (Nat.le_of_ble_eq_true rfl) rfl rfl ?_
  refine aw_iconst (v := 0) d_X10_inForce_2 ic_0 ?_
  refine aw_istore [(0, .ref 13), (1, .int x1), (2, .int x2), (3, .int (-1)), (4, .int 0)] d_X10_inForce_3 (Nat.le_of_ble_eq_true rfl) rfl rfl ?_
  exact k
theorem t_X10_inForce_13_5 (d : Nat) (h : Hp_) (w : Wf h) (x1 : Int32) (x2 : Int32) (x3 : Int32) (x4 : Int32) (K : Int32 → Hp_ → Prop) (k : ((h_i h 13 5) ≤ x4 → K x3 h) ∧ (¬ (h_i h 13 5) ≤ x4 → vp_in x4 20 ∧ ((x2 < (h_i h 38 x4.toNatClampNeg) → AW (m_X10_inForce (d + 0) 0 0) 0 0 5 [(0, .ref 13), (1, .int x1), (2, .int x2), (3, .int x3), (4, .int (x4 + 1))] [] h (kI K)) ∧ (¬ x2 < (h_i h 38 x4.toNatClampNeg) → vp_in x4 20 ∧ ((x1 < (h_i h 37 x4.toNatClampNeg) → AW (m_X10_inForce (d + 0) 0 0) 0 0 5 [(0, .ref 13), (1, .int x1), (2, .int x2), (3, .int x3), (4, .int (x4 + 1))] [] h (kI K)) ∧ (¬ x1 < (h_i h 37 x4.toNatClampNeg) → (x3 = (-1) → AW (m_X10_inForce (d + 0) 0 0) 0 0 5 [(0, .ref 13), (1, .int x1), (2, .int x2), (3, .int x4), (4, .int (x4 + 1))] [] h (kI K)) ∧ (¬ x3 = (-1) → vp_in x4 20 ∧ (vp_in x3 20 ∧ (((h_i h 37 x4.toNatClampNeg) < (h_i h 37 x3.toNatClampNeg) → AW (m_X10_inForce (d + 0) 0 0) 0 0 5 [(0, .ref 13), (1, .int x1), (2, .int x2), (3, .int x3), (4, .int (x4 + 1))] [] h (kI K)) ∧ (¬ (h_i h 37 x4.toNatClampNeg) < (h_i h 37 x3.toNatClampNeg) → AW (m_X10_inForce (d + 0) 0 0) 0 0 5 [(0, .ref 13), (1, .int x1), (2, .int x2), (3, .int x4), (4, .int (x4 + 1))] [] h (kI K))))))))))) : AW (m_X10_inForce (d + 0) 0 0) 0 0 5 [(0, .ref 13), (1, .int x1), (2, .int x2), (3, .int x3), (4, .int x4)] [] h (kI K) := by
  refine aw_iload d_X10_inForce_5 4 rfl ?_
  refine aw_aload_n (i := 0) rfl d_X10_inForce_7 0 rfl ?_
  refine aw_geti (k0 := 5) kc_10 (ws_13 w) (Nat.le_of_ble_eq_true rfl) tw_129 d_X10_inForce_8 rfl ?_
  refine aw_icmp_ge (tgt := 66) d_X10_inForce_11 rfl (fun c1 => ?_) (fun c1 => ?_)
  · have k := k.1 c1
    refine aw_iload_n (i := 3) rfl d_X10_inForce_66 3 rfl ?_
    exact aw_iret rfl d_X10_inForce_67 ⟨Nat.le_refl _, Nat.le_refl _⟩ ⟨_, rfl, k⟩
  · have k := k.2 c1
    refine aw_aload_n (i := 0) rfl d_X10_inForce_14 0 rfl ?_
    refine aw_getr (k0 := 1) kc_10 (ws_13 w) (Nat.le_of_ble_eq_true rfl) tw_125 d_X10_inForce_15 rfl (wr_13_1 w) ?_
    refine aw_iload d_X10_inForce_18 4 rfl ?_
    obtain ⟨b2, k⟩ := k
    refine aw_iald (ws_38 w) b2 d_X10_inForce_20 ?_
    refine aw_iload_n (i := 2) rfl d_X10_inForce_21 2 rfl ?_
    refine aw_icmp_gt (tgt := 60) d_X10_inForce_22 rfl (fun c3 => ?_) (fun c3 => ?_)
    · have k := k.1 c3
      refine aw_iinc (v := (x4 + 1)) [(0, .ref 13), (1, .int x1), (2, .int x2), (3, .int x3), (4, .int (x4 + 1))] d_X10_inForce_60 4 rfl rfl (Nat.le_of_ble_eq_true rfl) rfl rfl ?_
      refine aw_goto (tgt := 5) d_X10_inForce_63 rfl ?_
      exact k
    · have k := k.2 c3
      refine aw_aload_n (i := 0) rfl d_X10_inForce_25 0 rfl ?_
      refine aw_getr (k0 := 0) kc_10 (ws_13 w) (Nat.le_of_ble_eq_true rfl) tw_124 d_X10_inForce_26 rfl (wr_13_0 w) ?_
      refine aw_iload d_X10_inForce_29 4 rfl ?_
      obtain ⟨b4, k⟩ := k
      refine aw_iald (ws_37 w) b4 d_X10_inForce_31 ?_
      refine aw_iload_n (i := 1) rfl d_X10_inForce_32 1 rfl ?_
      refine aw_icmp_gt (tgt := 60) d_X10_inForce_33 rfl (fun c5 => ?_) (fun c5 => ?_)
      · have k := k.1 c5
        refine aw_iinc (v := (x4 + 1)) [(0, .ref 13), (1, .int x1), (2, .int x2), (3, .int x3), (4, .int (x4 + 1))] d_X10_inForce_60 4 rfl rfl (Nat.le_of_ble_eq_true rfl) rfl rfl ?_
        refine aw_goto (tgt := 5) d_X10_inForce_63 rfl ?_
        exact k
      · have k := k.2 c5
        refine aw_iload_n (i := 3) rfl d_X10_inForce_36 3 rfl ?_
        refine aw_iconst (v := (-1)) d_X10_inForce_37 ic_m1 ?_
        refine aw_icmp_eq (tgt := 57) d_X10_inForce_38 rfl (fun c6 => ?_) (fun c6 => ?_)
        · have k := k.1 c6
          refine aw_iload d_X10_inForce_57 4 rfl ?_
          refine aw_istore_n (i := 3) rfl [(0, .ref 13), (1, .int x1), (2, .int x2), (3, .int x4), (4, .int x4)] d_X10_inForce_59 (Nat.le_of_ble_eq_true rfl) rfl rfl ?_
          refine aw_iinc (v := (x4 + 1)) [(0, .ref 13), (1, .int x1), (2, .int x2), (3, .int x4), (4, .int (x4 + 1))] d_X10_inForce_60 4 rfl rfl (Nat.le_of_ble_eq_true rfl) rfl rfl ?_
          refine aw_goto (tgt := 5) d_X10_inForce_63 rfl ?_
          exact k
        · have k := k.2 c6
          refine aw_aload_n (i := 0) rfl d_X10_inForce_41 0 rfl ?_
          refine aw_getr (k0 := 0) kc_10 (ws_13 w) (Nat.le_of_ble_eq_true rfl) tw_124 d_X10_inForce_42 rfl (wr_13_0 w) ?_
          refine aw_iload d_X10_inForce_45 4 rfl ?_
          obtain ⟨b7, k⟩ := k
          refine aw_iald (ws_37 w) b7 d_X10_inForce_47 ?_
          refine aw_aload_n (i := 0) rfl d_X10_inForce_48 0 rfl ?_
          refine aw_getr (k0 := 0) kc_10 (ws_13 w) (Nat.le_of_ble_eq_true rfl) tw_124 d_X10_inForce_49 rfl (wr_13_0 w) ?_
          refine aw_iload_n (i := 3) rfl d_X10_inForce_52 3 rfl ?_
          obtain ⟨b8, k⟩ := k
          refine aw_iald (ws_37 w) b8 d_X10_inForce_53 ?_
          refine aw_icmp_lt (tgt := 60) d_X10_inForce_54 rfl (fun c9 => ?_) (fun c9 => ?_)
          · have k := k.1 c9
            refine aw_iinc (v := (x4 + 1)) [(0, .ref 13), (1, .int x1), (2, .int x2), (3, .int x3), (4, .int (x4 + 1))] d_X10_inForce_60 4 rfl rfl (Nat.le_of_ble_eq_true rfl) rfl rfl ?_
            refine aw_goto (tgt := 5) d_X10_inForce_63 rfl ?_
            exact k
          · have k := k.2 c9
            refine aw_iload d_X10_inForce_57 4 rfl ?_
            refine aw_istore_n (i := 3) rfl [(0, .ref 13), (1, .int x1), (2, .int x2), (3, .int x4), (4, .int x4)] d_X10_inForce_59 (Nat.le_of_ble_eq_true rfl) rfl rfl ?_
            refine aw_iinc (v := (x4 + 1)) [(0, .ref 13), (1, .int x1), (2, .int x2), (3, .int x4), (4, .int (x4 + 1))] d_X10_inForce_60 4 rfl rfl (Nat.le_of_ble_eq_true rfl) rfl rfl ?_
            refine aw_goto (tgt := 5) d_X10_inForce_63 rfl ?_
            exact k
theorem t_X0_placeOf (d : Nat) (h : Hp_) (x0 : Int32) (K : Int32 → Hp_ → Prop) (k : K ((x0 >>> ((2 : Int32) &&& 31)) &&& 15) h) : Ci (m_X0_placeOf (d + 0) 0 0) [.int x0] h K := by
  refine Ct.of (fun _ _ _ => trivial) pn_X0 (Nat.le_of_ble_eq_true rfl) ?_
  show AW (m_X0_placeOf (d + 0) 0 0) 0 0 0 [(0, .int x0)] [] h (kI K)
  refine aw_iload_n (i := 0) rfl d_X0_placeOf_0 0 rfl ?_
  refine aw_iconst (v := 2) d_X0_placeOf_1 ic_2 ?_
  refine aw_ishr d_X0_placeOf_2 ?_
  refine aw_bipush (v := 15) d_X0_placeOf_3 ib_15 ?_
  refine aw_iand d_X0_placeOf_5 ?_
  exact aw_iret rfl d_X0_placeOf_6 ⟨Nat.le_refl _, Nat.le_refl _⟩ ⟨_, rfl, k⟩
theorem t_X0_amountOf (d : Nat) (h : Hp_) (x0 : Int32) (K : Int32 → Hp_ → Prop) (k : K (x0 >>> ((6 : Int32) &&& 31)) h) : Ci (m_X0_amountOf (d + 0) 0 0) [.int x0] h K := by
  refine Ct.of (fun _ _ _ => trivial) pn_X0 (Nat.le_of_ble_eq_true rfl) ?_
  show AW (m_X0_amountOf (d + 0) 0 0) 0 0 0 [(0, .int x0)] [] h (kI K)
  refine aw_iload_n (i := 0) rfl d_X0_amountOf_0 0 rfl ?_
  refine aw_bipush (v := 6) d_X0_amountOf_1 ib_6 ?_
  refine aw_ishr d_X0_amountOf_3 ?_
  exact aw_iret rfl d_X0_amountOf_4 ⟨Nat.le_refl _, Nat.le_refl _⟩ ⟨_, rfl, k⟩
theorem t_X0_stepAt (d : Nat) (h : Hp_) (w : Wf h) (x1 : Int32) (x2 : Int32) (K : Int32 → Hp_ → Prop) (k : (((x1 * 150) + x2) < 0 → K 0 h) ∧ (¬ ((x1 * 150) + x2) < 0 → (1800 ≤ ((x1 * 150) + x2) → K 0 h) ∧ (¬ 1800 ≤ ((x1 * 150) + x2) → vp_in ((x1 * 150) + x2) 1800 ∧ (K (h_i h 34 (((x1 * 150) + x2) : Int32).toNatClampNeg) h)))) : Ci (m_X0_stepAt (d + 0) 0 0) [.ref 12, .int x1, .int x2] h K := by
  refine Ct.of (fun _ _ _ => trivial) pn_X0 (Nat.le_of_ble_eq_true rfl) ?_
  show AW (m_X0_stepAt (d + 0) 0 0) 0 0 0 [(0, .ref 12), (1, .int x1), (2, .int x2)] [] h (kI K)
  refine aw_iload_n (i := 1) rfl d_X0_stepAt_0 1 rfl ?_
  refine aw_sipush (v := 150) d_X0_stepAt_1 is_150 ?_
  refine aw_imul d_X0_stepAt_4 ?_
  refine aw_iload_n (i := 2) rfl d_X0_stepAt_5 2 rfl ?_
  refine aw_iadd d_X0_stepAt_6 ?_
  refine aw_istore_n (i := 3) rfl [(0, .ref 12), (1, .int x1), (2, .int x2), (3, .int ((x1 * 150) + x2))] d_X0_stepAt_7 (Nat.le_of_ble_eq_true rfl) rfl rfl ?_
  refine aw_iload_n (i := 3) rfl d_X0_stepAt_8 3 rfl ?_
  refine aw_if_lt (tgt := 30) d_X0_stepAt_9 rfl (fun c1 => ?_) (fun c1 => ?_)
  · have k := k.1 c1
    refine aw_iconst (v := 0) d_X0_stepAt_30 ic_0 ?_
    exact aw_iret rfl d_X0_stepAt_31 ⟨Nat.le_refl _, Nat.le_refl _⟩ ⟨_, rfl, k⟩
  · have k := k.2 c1
    refine aw_iload_n (i := 3) rfl d_X0_stepAt_12 3 rfl ?_
    refine aw_aload_n (i := 0) rfl d_X0_stepAt_13 0 rfl ?_
    refine aw_getr (k0 := 0) kc_0 (ws_12 w) (Nat.le_of_ble_eq_true rfl) tw_103 d_X0_stepAt_14 rfl (wr_12_0 w) ?_
    refine aw_alen (v := 1800) (ws_34 w) (Nat.le_of_ble_eq_true rfl) rfl d_X0_stepAt_17 ?_
    refine aw_icmp_ge (tgt := 30) d_X0_stepAt_18 rfl (fun c2 => ?_) (fun c2 => ?_)
    · have k := k.1 c2
      refine aw_iconst (v := 0) d_X0_stepAt_30 ic_0 ?_
      exact aw_iret rfl d_X0_stepAt_31 ⟨Nat.le_refl _, Nat.le_refl _⟩ ⟨_, rfl, k⟩
    · have k := k.2 c2
      refine aw_aload_n (i := 0) rfl d_X0_stepAt_21 0 rfl ?_
      refine aw_getr (k0 := 0) kc_0 (ws_12 w) (Nat.le_of_ble_eq_true rfl) tw_103 d_X0_stepAt_22 rfl (wr_12_0 w) ?_
      refine aw_iload_n (i := 3) rfl d_X0_stepAt_25 3 rfl ?_
      obtain ⟨b3, k⟩ := k
      refine aw_iald (ws_34 w) b3 d_X0_stepAt_26 ?_
      refine aw_goto (tgt := 31) d_X0_stepAt_27 rfl ?_
      exact aw_iret rfl d_X0_stepAt_31 ⟨Nat.le_refl _, Nat.le_refl _⟩ ⟨_, rfl, k⟩
theorem t_X9_lay (d : Nat) (h : Hp_) (w : Wf h) (x1 : Int32) (x2 : Int32) (x3 : Int32) (K : Int32 → Hp_ → Prop) (k : ((h_i h 10 1) < 40 → AW (m_X9_lay (d + 1) 0 0) 0 0 14 [(0, .ref 10), (1, .int x1), (2, .int x2), (3, .int x3), (4, .int 0)] [] h (kI K)) ∧ (¬ (h_i h 10 1) < 40 → K (-1) h)) : Ci (m_X9_lay (d + 1) 0 0) [.ref 10, .int x1, .int x2, .int x3] h K := by
  refine Ct.of (fun _ _ _ => trivial) pn_X9 (Nat.le_of_ble_eq_true rfl) ?_
  show AW (m_X9_lay (d + 1) 0 0) 0 0 0 [(0, .ref 10), (1, .int x1), (2, .int x2), (3, .int x3)] [] h (kI K)
  refine aw_aload_n (i := 0) rfl d_X9_lay_0 0 rfl ?_
  refine aw_geti (k0 := 1) kc_9 (ws_10 w) (Nat.le_of_ble_eq_true rfl) tw_43 d_X9_lay_1 rfl ?_
  refine aw_bipush (v := 40) d_X9_lay_4 ib_40 ?_
  refine aw_icmp_lt (tgt := 11) d_X9_lay_6 rfl (fun c1 => ?_) (fun c1 => ?_)
  · have k := k.1 c1
    refine aw_iconst (v := 0) d_X9_lay_11 ic_0 ?_
    refine aw_istore [(0, .ref 10), (1, .int x1), (2, .int x2), (3, .int x3), (4, .int 0)] d_X9_lay_12 (Nat.le_of_ble_eq_true rfl) rfl rfl ?_
    exact k
  · have k := k.2 c1
    refine aw_iconst (v := (-1)) d_X9_lay_9 ic_m1 ?_
    exact aw_iret rfl d_X9_lay_10 ⟨Nat.le_refl _, Nat.le_refl _⟩ ⟨_, rfl, k⟩
theorem t_X9_lay_14 (d : Nat) (h : Hp_) (w : Wf h) (x1 : Int32) (x2 : Int32) (x3 : Int32) (x4 : Int32) (K : Int32 → Hp_ → Prop) (k : (16 ≤ x4 → K (((h_i h 10 1) + 1) - 1) (h_im h 10 1 ((h_i h 10 1) + 1))) ∧ (¬ 16 ≤ x4 → AW (m_X9_lay (d + 1) 0 0) 0 0 24 [(0, .ref 10), (1, .int x1), (2, .int x2), (3, .int x3), (4, .int x4), (5, .int 0)] [] h (kI K))) : AW (m_X9_lay (d + 1) 0 0) 0 0 14 [(0, .ref 10), (1, .int x1), (2, .int x2), (3, .int x3), (4, .int x4)] [] h (kI K) := by
  refine aw_iload d_X9_lay_14 4 rfl ?_
  refine aw_bipush (v := 16) d_X9_lay_16 ib_16 ?_
  refine aw_icmp_ge (tgt := 135) d_X9_lay_18 rfl (fun c2 => ?_) (fun c2 => ?_)
  · have k := k.1 c2
    refine aw_aload_n (i := 0) rfl d_X9_lay_135 0 rfl ?_
    refine aw_dup d_X9_lay_136 rfl ?_
    refine aw_geti (k0 := 1) kc_9 (ws_10 w) (Nat.le_of_ble_eq_true rfl) tw_43 d_X9_lay_137 rfl ?_
    refine aw_iconst (v := 1) d_X9_lay_140 ic_1 ?_
    refine aw_iadd d_X9_lay_141 ?_
    refine aw_puti (k0 := 1) kc_9 (ws_10 w) (Nat.le_of_ble_eq_true rfl) tw_43 d_X9_lay_142 rfl rfl nf_i ?_
    refine aw_aload_n (i := 0) rfl d_X9_lay_145 0 rfl ?_
    refine aw_geti (k0 := 1) kc_9 (ws_10 w) (Nat.le_of_ble_eq_true rfl) tw_43 d_X9_lay_146 rfl ?_
    refine aw_vi (v2 := ((h_i h 10 1) + 1)) (rfl) ?_
    refine aw_iconst (v := 1) d_X9_lay_149 ic_1 ?_
    refine aw_isub d_X9_lay_150 ?_
    exact aw_iret rfl d_X9_lay_151 ⟨Nat.le_refl _, Nat.le_refl _⟩ ⟨_, rfl, k⟩
  · have k := k.2 c2
    refine aw_iconst (v := 0) d_X9_lay_21 ic_0 ?_
    refine aw_istore [(0, .ref 10), (1, .int x1), (2, .int x2), (3, .int x3), (4, .int x4), (5, .int 0)] d_X9_lay_22 (Nat.le_of_ble_eq_true rfl) rfl rfl ?_
    exact k
theorem t_X9_lay_24 (d : Nat) (h : Hp_) (w : Wf h) (x1 : Int32) (x2 : Int32) (x3 : Int32) (x4 : Int32) (x5 : Int32) (K : Int32 → Hp_ → Prop) (k : (16 ≤ x5 → AW (m_X9_lay (d + 1) 0 0) 0 0 14 [(0, .ref 10), (1, .int x1), (2, .int x2), (3, .int x3), (4, .int (x4 + 1))] [] h (kI K)) ∧ (¬ 16 ≤ x5 → vp_in ((x4 * 16) + x1) 256 ∧ (vp_in ((x2 * 16) + x5) 256 ∧ (vp_in ((x4 * 16) + x2) 256 ∧ (vp_in ((x1 * 16) + x5) 256 ∧ (vp_in ((x4 * 16) + x5) 256 ∧ (vp_in ((x4 * 16) + x5) 256 ∧ (AW (m_X9_lay (d + 1) 0 0) 0 0 24 [(0, .ref 10), (1, .int x1), (2, .int x2), (3, .int x3), (4, .int x4), (5, .int (x5 + 1))] [] (h_im h 30 (((x4 * 16) + x5) : Int32).toNatClampNeg (if (if (((h_i h 30 (((x4 * 16) + x2) : Int32).toNatClampNeg) + x3) + (h_i h 30 (((x1 * 16) + x5) : Int32).toNatClampNeg)) < (((h_i h 30 (((x4 * 16) + x1) : Int32).toNatClampNeg) + x3) + (h_i h 30 (((x2 * 16) + x5) : Int32).toNatClampNeg)) then (((h_i h 30 (((x4 * 16) + x2) : Int32).toNatClampNeg) + x3) + (h_i h 30 (((x1 * 16) + x5) : Int32).toNatClampNeg)) else (((h_i h 30 (((x4 * 16) + x1) : Int32).toNatClampNeg) + x3) + (h_i h 30 (((x2 * 16) + x5) : Int32).toNatClampNeg))) < (h_i h 30 (((x4 * 16) + x5) : Int32).toNatClampNeg) then (if (((h_i h 30 (((x4 * 16) + x2) : Int32).toNatClampNeg) + x3) + (h_i h 30 (((x1 * 16) + x5) : Int32).toNatClampNeg)) < (((h_i h 30 (((x4 * 16) + x1) : Int32).toNatClampNeg) + x3) + (h_i h 30 (((x2 * 16) + x5) : Int32).toNatClampNeg)) then (((h_i h 30 (((x4 * 16) + x2) : Int32).toNatClampNeg) + x3) + (h_i h 30 (((x1 * 16) + x5) : Int32).toNatClampNeg)) else (((h_i h 30 (((x4 * 16) + x1) : Int32).toNatClampNeg) + x3) + (h_i h 30 (((x2 * 16) + x5) : Int32).toNatClampNeg))) else (h_i h 30 (((x4 * 16) + x5) : Int32).toNatClampNeg))) (kI K))))))))) : AW (m_X9_lay (d + 1) 0 0) 0 0 24 [(0, .ref 10), (1, .int x1), (2, .int x2), (3, .int x3), (4, .int x4), (5, .int x5)] [] h (kI K) := by
  refine aw_iload d_X9_lay_24 5 rfl ?_
  refine aw_bipush (v := 16) d_X9_lay_26 ib_16 ?_
  refine aw_icmp_ge (tgt := 129) d_X9_lay_28 rfl (fun c3 => ?_) (fun c3 => ?_)
  · have k := k.1 c3
    refine aw_iinc (v := (x4 + 1)) [(0, .ref 10), (1, .int x1), (2, .int x2), (3, .int x3), (4, .int (x4 + 1)), (5, .int x5)] d_X9_lay_129 4 rfl rfl (Nat.le_of_ble_eq_true rfl) rfl rfl ?_
    refine aw_goto (tgt := 14) d_X9_lay_132 rfl ?_
    exact aw_lvp [0, 1, 2, 3, 4] [(0, .ref 10), (1, .int x1), (2, .int x2), (3, .int x3), (4, .int (x4 + 1))] rfl k
  · have k := k.2 c3
    refine aw_aload_n (i := 0) rfl d_X9_lay_31 0 rfl ?_
    refine aw_getr (k0 := 0) kc_9 (ws_10 w) (Nat.le_of_ble_eq_true rfl) tw_42 d_X9_lay_32 rfl (wr_10_0 w) ?_
    refine aw_iload d_X9_lay_35 4 rfl ?_
    refine aw_bipush (v := 16) d_X9_lay_37 ib_16 ?_
    refine aw_imul d_X9_lay_39 ?_
    refine aw_iload_n (i := 1) rfl d_X9_lay_40 1 rfl ?_
    refine aw_iadd d_X9_lay_41 ?_
    obtain ⟨b4, k⟩ := k
    refine aw_iald (ws_30 w) b4 d_X9_lay_42 ?_
    refine aw_iload_n (i := 3) rfl d_X9_lay_43 3 rfl ?_
    refine aw_iadd d_X9_lay_44 ?_
    refine aw_aload_n (i := 0) rfl d_X9_lay_45 0 rfl ?_
    refine aw_getr (k0 := 0) kc_9 (ws_10 w) (Nat.le_of_ble_eq_true rfl) tw_42 d_X9_lay_46 rfl (wr_10_0 w) ?_
    refine aw_iload_n (i := 2) rfl d_X9_lay_49 2 rfl ?_
    refine aw_bipush (v := 16) d_X9_lay_50 ib_16 ?_
    refine aw_imul d_X9_lay_52 ?_
    refine aw_iload d_X9_lay_53 5 rfl ?_
    refine aw_iadd d_X9_lay_55 ?_
    obtain ⟨b5, k⟩ := k
    refine aw_iald (ws_30 w) b5 d_X9_lay_56 ?_
    refine aw_iadd d_X9_lay_57 ?_
    refine aw_istore [(0, .ref 10), (1, .int x1), (2, .int x2), (3, .int x3), (4, .int x4), (5, .int x5), (6, .int (((h_i h 30 (((x4 * 16) + x1) : Int32).toNatClampNeg) + x3) + (h_i h 30 (((x2 * 16) + x5) : Int32).toNatClampNeg)))] d_X9_lay_58 (Nat.le_of_ble_eq_true rfl) rfl rfl ?_
    refine aw_aload_n (i := 0) rfl d_X9_lay_60 0 rfl ?_
    refine aw_getr (k0 := 0) kc_9 (ws_10 w) (Nat.le_of_ble_eq_true rfl) tw_42 d_X9_lay_61 rfl (wr_10_0 w) ?_
    refine aw_iload d_X9_lay_64 4 rfl ?_
    refine aw_bipush (v := 16) d_X9_lay_66 ib_16 ?_
    refine aw_imul d_X9_lay_68 ?_
    refine aw_iload_n (i := 2) rfl d_X9_lay_69 2 rfl ?_
    refine aw_iadd d_X9_lay_70 ?_
    obtain ⟨b6, k⟩ := k
    refine aw_iald (ws_30 w) b6 d_X9_lay_71 ?_
    refine aw_iload_n (i := 3) rfl d_X9_lay_72 3 rfl ?_
    refine aw_iadd d_X9_lay_73 ?_
    refine aw_aload_n (i := 0) rfl d_X9_lay_74 0 rfl ?_
    refine aw_getr (k0 := 0) kc_9 (ws_10 w) (Nat.le_of_ble_eq_true rfl) tw_42 d_X9_lay_75 rfl (wr_10_0 w) ?_
    refine aw_iload_n (i := 1) rfl d_X9_lay_78 1 rfl ?_
    refine aw_bipush (v := 16) d_X9_lay_79 ib_16 ?_
    refine aw_imul d_X9_lay_81 ?_
    refine aw_iload d_X9_lay_82 5 rfl ?_
    refine aw_iadd d_X9_lay_84 ?_
    obtain ⟨b7, k⟩ := k
    refine aw_iald (ws_30 w) b7 d_X9_lay_85 ?_
    refine aw_iadd d_X9_lay_86 ?_
    refine aw_istore [(0, .ref 10), (1, .int x1), (2, .int x2), (3, .int x3), (4, .int x4), (5, .int x5), (6, .int (((h_i h 30 (((x4 * 16) + x1) : Int32).toNatClampNeg) + x3) + (h_i h 30 (((x2 * 16) + x5) : Int32).toNatClampNeg))), (7, .int (((h_i h 30 (((x4 * 16) + x2) : Int32).toNatClampNeg) + x3) + (h_i h 30 (((x1 * 16) + x5) : Int32).toNatClampNeg)))] d_X9_lay_87 (Nat.le_of_ble_eq_true rfl) rfl rfl ?_
    refine aw_iload d_X9_lay_89 4 rfl ?_
    refine aw_bipush (v := 16) d_X9_lay_91 ib_16 ?_
    refine aw_imul d_X9_lay_93 ?_
    refine aw_iload d_X9_lay_94 5 rfl ?_
    refine aw_iadd d_X9_lay_96 ?_
    refine aw_istore [(0, .ref 10), (1, .int x1), (2, .int x2), (3, .int x3), (4, .int x4), (5, .int x5), (6, .int (((h_i h 30 (((x4 * 16) + x1) : Int32).toNatClampNeg) + x3) + (h_i h 30 (((x2 * 16) + x5) : Int32).toNatClampNeg))), (7, .int (((h_i h 30 (((x4 * 16) + x2) : Int32).toNatClampNeg) + x3) + (h_i h 30 (((x1 * 16) + x5) : Int32).toNatClampNeg))), (8, .int ((x4 * 16) + x5))] d_X9_lay_97 (Nat.le_of_ble_eq_true rfl) rfl rfl ?_
    refine aw_aload_n (i := 0) rfl d_X9_lay_99 0 rfl ?_
    refine aw_getr (k0 := 0) kc_9 (ws_10 w) (Nat.le_of_ble_eq_true rfl) tw_42 d_X9_lay_100 rfl (wr_10_0 w) ?_
    refine aw_iload d_X9_lay_103 8 rfl ?_
    refine aw_aload_n (i := 0) rfl d_X9_lay_105 0 rfl ?_
    refine aw_getr (k0 := 0) kc_9 (ws_10 w) (Nat.le_of_ble_eq_true rfl) tw_42 d_X9_lay_106 rfl (wr_10_0 w) ?_
    refine aw_iload d_X9_lay_109 8 rfl ?_
    obtain ⟨b8, k⟩ := k
    refine aw_iald (ws_30 w) b8 d_X9_lay_111 ?_
    refine aw_iload d_X9_lay_112 6 rfl ?_
    refine aw_iload d_X9_lay_114 7 rfl ?_
    refine aw_mmin d_X9_lay_116 tw_550 (show 1 ≤ (d + 1) by omega) (Nat.le_trans (Nat.le_of_ble_eq_true rfl) (show 100 ≤ 100 * (d + 1) by omega)) ⟨Nat.le_refl _, Nat.le_refl _⟩ ?_
    refine aw_mmin d_X9_lay_119 tw_550 (show 1 ≤ (d + 1) by omega) (Nat.le_trans (Nat.le_of_ble_eq_true rfl) (show 100 ≤ 100 * (d + 1) by omega)) ⟨Nat.le_refl _, Nat.le_refl _⟩ ?_
    obtain ⟨b9, k⟩ := k
    refine aw_iast (ws_30 w) b9 d_X9_lay_122 ?_
    refine aw_iinc (v := (x5 + 1)) [(0, .ref 10), (1, .int x1), (2, .int x2), (3, .int x3), (4, .int x4), (5, .int (x5 + 1)), (6, .int (((h_i h 30 (((x4 * 16) + x1) : Int32).toNatClampNeg) + x3) + (h_i h 30 (((x2 * 16) + x5) : Int32).toNatClampNeg))), (7, .int (((h_i h 30 (((x4 * 16) + x2) : Int32).toNatClampNeg) + x3) + (h_i h 30 (((x1 * 16) + x5) : Int32).toNatClampNeg))), (8, .int ((x4 * 16) + x5))] d_X9_lay_123 5 rfl rfl (Nat.le_of_ble_eq_true rfl) rfl rfl ?_
    refine aw_goto (tgt := 24) d_X9_lay_126 rfl ?_
    exact aw_lvp [0, 1, 2, 3, 4, 5] [(0, .ref 10), (1, .int x1), (2, .int x2), (3, .int x3), (4, .int x4), (5, .int (x5 + 1))] rfl k
theorem t_X12_path (d : Nat) (h : Hp_) (w : Wf h) (x1 : Int32) (x2 : Int32) (x3 : Int32) (K : Int32 → Hp_ → Prop) (k : (¬ (0 ≤ x1 ∧ x1 ≤ 15) → K (-1) h) ∧ ((0 ≤ x1 ∧ x1 ≤ 15) → (¬ (0 ≤ x2 ∧ x2 ≤ 15) → K (-1) h) ∧ ((0 ≤ x2 ∧ x2 ≤ 15) → (x1 = x2 → K (-1) h) ∧ (¬ x1 = x2 → (¬ (1 ≤ x3 ∧ x3 ≤ 60) → K (-1) h) ∧ ((1 ≤ x3 ∧ x3 ≤ 60) → (¬ (h_i h 1 6) = 40 → vp_in (h_i h 1 6) 40 ∧ (vp_in (h_i h 1 6) 40 ∧ (vp_in (h_i h 1 6) 40 ∧ (K (((h_i h 1 6) + 1) - 1) (h_im (h_im (h_im (h_im h 200 ((h_i h 1 6) : Int32).toNatClampNeg x1) 201 ((h_i h 1 6) : Int32).toNatClampNeg x2) 202 ((h_i h 1 6) : Int32).toNatClampNeg x3) 1 6 ((h_i h 1 6) + 1)))))) ∧ ((h_i h 1 6) = 40 → K (-1) h)))))) : Ci (m_X12_path (d + 2) 0 0) [.ref 1, .int x1, .int x2, .int x3] h K := by
  refine Ct.of (fun _ _ _ => trivial) pn_X12 (Nat.le_of_ble_eq_true rfl) ?_
  show AW (m_X12_path (d + 2) 0 0) 0 0 0 [(0, .ref 1), (1, .int x1), (2, .int x2), (3, .int x3)] [] h (kI K)
  refine aw_iload_n (i := 1) rfl d_X12_path_0 1 rfl ?_
  refine aw_Si [.int x1] [] d_X12_path_1 (cS_X12_isPlace (d + 1) 0 0) tw_2140 rfl (rr0 (Nat.le_of_ble_eq_true rfl) (Nat.le_of_ble_eq_true rfl)) (Nat.le_of_ble_eq_true rfl) xs0 (s_X12_isPlace _ _ x1) (fun _ _ kk => ?_)
  obtain ⟨e1, e2⟩ := kk
  rw [e1, e2]
  refine aw_ifb_eq (tgt := 38) d_X12_path_4 rfl (fun c3 => ?_) (fun c3 => ?_)
  · have k := k.1 c3
    refine aw_iconst (v := (-1)) d_X12_path_38 ic_m1 ?_
    exact aw_iret rfl d_X12_path_39 ⟨Nat.le_refl _, Nat.le_refl _⟩ ⟨_, rfl, k⟩
  · have k := k.2 c3
    refine aw_iload_n (i := 2) rfl d_X12_path_7 2 rfl ?_
    refine aw_Si [.int x2] [] d_X12_path_8 (cS_X12_isPlace (d + 1) 0 0) tw_2140 rfl (rr0 (Nat.le_of_ble_eq_true rfl) (Nat.le_of_ble_eq_true rfl)) (Nat.le_of_ble_eq_true rfl) xs0 (s_X12_isPlace _ _ x2) (fun _ _ kk => ?_)
    obtain ⟨e4, e5⟩ := kk
    rw [e4, e5]
    refine aw_ifb_eq (tgt := 38) d_X12_path_11 rfl (fun c6 => ?_) (fun c6 => ?_)
    · have k := k.1 c6
      refine aw_iconst (v := (-1)) d_X12_path_38 ic_m1 ?_
      exact aw_iret rfl d_X12_path_39 ⟨Nat.le_refl _, Nat.le_refl _⟩ ⟨_, rfl, k⟩
    · have k := k.2 c6
      refine aw_iload_n (i := 1) rfl d_X12_path_14 1 rfl ?_
      refine aw_iload_n (i := 2) rfl d_X12_path_15 2 rfl ?_
      refine aw_icmp_eq (tgt := 38) d_X12_path_16 rfl (fun c7 => ?_) (fun c7 => ?_)
      · have k := k.1 c7
        refine aw_iconst (v := (-1)) d_X12_path_38 ic_m1 ?_
        exact aw_iret rfl d_X12_path_39 ⟨Nat.le_refl _, Nat.le_refl _⟩ ⟨_, rfl, k⟩
      · have k := k.2 c7
        refine aw_iload_n (i := 3) rfl d_X12_path_19 3 rfl ?_
        refine aw_iconst (v := 1) d_X12_path_20 ic_1 ?_
        refine aw_bipush (v := 60) d_X12_path_21 ib_60 ?_
        refine aw_Si [.int x3, .int 1, .int 60] [] d_X12_path_23 (cS_X12_in (d + 0) 0 0) tw_2143 rfl (rr0 (Nat.le_of_ble_eq_true rfl) (Nat.le_of_ble_eq_true rfl)) (Nat.le_of_ble_eq_true rfl) xs0 (s_X12_in _ _ x3 1 60) (fun _ _ kk => ?_)
        obtain ⟨e8, e9⟩ := kk
        rw [e8, e9]
        refine aw_ifb_eq (tgt := 38) d_X12_path_26 rfl (fun c10 => ?_) (fun c10 => ?_)
        · have k := k.1 c10
          refine aw_iconst (v := (-1)) d_X12_path_38 ic_m1 ?_
          exact aw_iret rfl d_X12_path_39 ⟨Nat.le_refl _, Nat.le_refl _⟩ ⟨_, rfl, k⟩
        · have k := k.2 c10
          refine aw_aload_n (i := 0) rfl d_X12_path_29 0 rfl ?_
          refine aw_geti (k0 := 6) kc_12 (ws_1 w) (Nat.le_of_ble_eq_true rfl) tw_1748 d_X12_path_30 rfl ?_
          refine aw_bipush (v := 40) d_X12_path_33 ib_40 ?_
          refine aw_icmp_ne (tgt := 40) d_X12_path_35 rfl (fun c11 => ?_) (fun c11 => ?_)
          · have k := k.1 c11
            refine aw_aload_n (i := 0) rfl d_X12_path_40 0 rfl ?_
            refine aw_getr (k0 := 2) kc_12 (ws_1 w) (Nat.le_of_ble_eq_true rfl) tw_1744 d_X12_path_41 rfl (wr_1_2 w) ?_
            refine aw_aload_n (i := 0) rfl d_X12_path_44 0 rfl ?_
            refine aw_geti (k0 := 6) kc_12 (ws_1 w) (Nat.le_of_ble_eq_true rfl) tw_1748 d_X12_path_45 rfl ?_
            refine aw_iload_n (i := 1) rfl d_X12_path_48 1 rfl ?_
            obtain ⟨b12, k⟩ := k
            refine aw_iast (ws_200 w) b12 d_X12_path_49 ?_
            refine aw_aload_n (i := 0) rfl d_X12_path_50 0 rfl ?_
            refine aw_getr (k0 := 3) kc_12 (ws_1 w) (Nat.le_of_ble_eq_true rfl) tw_1745 d_X12_path_51 rfl (wr_1_3 w) ?_
            refine aw_aload_n (i := 0) rfl d_X12_path_54 0 rfl ?_
            refine aw_geti (k0 := 6) kc_12 (ws_1 w) (Nat.le_of_ble_eq_true rfl) tw_1748 d_X12_path_55 rfl ?_
            refine aw_vi (v2 := (h_i h 1 6)) (rfl) ?_
            refine aw_iload_n (i := 2) rfl d_X12_path_58 2 rfl ?_
            obtain ⟨b13, k⟩ := k
            refine aw_iast (ws_201 w) b13 d_X12_path_59 ?_
            refine aw_aload_n (i := 0) rfl d_X12_path_60 0 rfl ?_
            refine aw_getr (k0 := 4) kc_12 (ws_1 w) (Nat.le_of_ble_eq_true rfl) tw_1746 d_X12_path_61 rfl (wr_1_4 w) ?_
            refine aw_aload_n (i := 0) rfl d_X12_path_64 0 rfl ?_
            refine aw_geti (k0 := 6) kc_12 (ws_1 w) (Nat.le_of_ble_eq_true rfl) tw_1748 d_X12_path_65 rfl ?_
            refine aw_vi (v2 := (h_i h 1 6)) (rfl) ?_
            refine aw_iload_n (i := 3) rfl d_X12_path_68 3 rfl ?_
            obtain ⟨b14, k⟩ := k
            refine aw_iast (ws_202 w) b14 d_X12_path_69 ?_
            refine aw_aload_n (i := 0) rfl d_X12_path_70 0 rfl ?_
            refine aw_dup d_X12_path_71 rfl ?_
            refine aw_geti (k0 := 6) kc_12 (ws_1 w) (Nat.le_of_ble_eq_true rfl) tw_1748 d_X12_path_72 rfl ?_
            refine aw_vi (v2 := (h_i h 1 6)) (rfl) ?_
            refine aw_iconst (v := 1) d_X12_path_75 ic_1 ?_
            refine aw_iadd d_X12_path_76 ?_
            refine aw_puti (k0 := 6) kc_12 (ws_1 w) (Nat.le_of_ble_eq_true rfl) tw_1748 d_X12_path_77 rfl rfl nf_i ?_
            refine aw_aload_n (i := 0) rfl d_X12_path_80 0 rfl ?_
            refine aw_geti (k0 := 6) kc_12 (ws_1 w) (Nat.le_of_ble_eq_true rfl) tw_1748 d_X12_path_81 rfl ?_
            refine aw_vi (v2 := ((h_i h 1 6) + 1)) (rfl) ?_
            refine aw_iconst (v := 1) d_X12_path_84 ic_1 ?_
            refine aw_isub d_X12_path_85 ?_
            exact aw_iret rfl d_X12_path_86 ⟨Nat.le_refl _, Nat.le_refl _⟩ ⟨_, rfl, k⟩
          · have k := k.2 c11
            refine aw_iconst (v := (-1)) d_X12_path_38 ic_m1 ?_
            exact aw_iret rfl d_X12_path_39 ⟨Nat.le_refl _, Nat.le_refl _⟩ ⟨_, rfl, k⟩
theorem t_X11_path (d : Nat) (h : Hp_) (x1 : Int32) (x2 : Int32) (x3 : Int32) (K : Int32 → Hp_ → Prop) (k : Ci (m_X11_isPlace (d + 0) 0 0) [.int x1] h (fun r3 h1 => Wf h1 ∧ ((r3 = 0 → K (-1) h1) ∧ (¬ r3 = 0 → Ci (m_X11_isPlace (d + 0) 0 0) [.int x2] h1 (fun r7 h5 => Wf h5 ∧ ((r7 = 0 → K (-1) h5) ∧ (¬ r7 = 0 → (x1 = x2 → K (-1) h5) ∧ (¬ x1 = x2 → ((1 ≤ x3 ∧ x3 ≤ 60) → Ci (m_X9_lay (d + 1) 0 0) [.ref 10, .int x1, .int x2, .int x3] h5 (fun r15 h13 => Wf h13 ∧ (K r15 h13))) ∧ (¬ (1 ≤ x3 ∧ x3 ≤ 60) → K (-1) h5))))))))) : Ci (m_X11_path (d + 2) 0 0) [.ref 0, .int x1, .int x2, .int x3] h K := by
  refine Ct.of (fun _ _ _ => trivial) pn_X11 (Nat.le_of_ble_eq_true rfl) ?_
  show AW (m_X11_path (d + 2) 0 0) 0 0 0 [(0, .ref 0), (1, .int x1), (2, .int x2), (3, .int x3)] [] h (kI K)
  refine aw_iload_n (i := 1) rfl d_X11_path_0 1 rfl ?_
  refine aw_Si [.int x1] [] d_X11_path_1 (cS_X11_isPlace (d + 0) 0 0) tw_540 rfl (rr0 (Nat.le_of_ble_eq_true rfl) (Nat.le_of_ble_eq_true rfl)) (Nat.le_of_ble_eq_true rfl) xs0 k (fun r3 h1 kk => ?_)
  obtain ⟨w2, k⟩ := kk
  refine aw_if_eq (tgt := 29) d_X11_path_4 rfl (fun c4 => ?_) (fun c4 => ?_)
  · have k := k.1 c4
    refine aw_iconst (v := (-1)) d_X11_path_29 ic_m1 ?_
    exact aw_iret rfl d_X11_path_30 ⟨Nat.le_refl _, Nat.le_refl _⟩ ⟨_, rfl, k⟩
  · have k := k.2 c4
    refine aw_iload_n (i := 2) rfl d_X11_path_7 2 rfl ?_
    refine aw_Si [.int x2] [] d_X11_path_8 (cS_X11_isPlace (d + 0) 0 0) tw_540 rfl (rr0 (Nat.le_of_ble_eq_true rfl) (Nat.le_of_ble_eq_true rfl)) (Nat.le_of_ble_eq_true rfl) xs0 k (fun r7 h5 kk => ?_)
    obtain ⟨w6, k⟩ := kk
    refine aw_if_eq (tgt := 29) d_X11_path_11 rfl (fun c8 => ?_) (fun c8 => ?_)
    · have k := k.1 c8
      refine aw_iconst (v := (-1)) d_X11_path_29 ic_m1 ?_
      exact aw_iret rfl d_X11_path_30 ⟨Nat.le_refl _, Nat.le_refl _⟩ ⟨_, rfl, k⟩
    · have k := k.2 c8
      refine aw_iload_n (i := 1) rfl d_X11_path_14 1 rfl ?_
      refine aw_iload_n (i := 2) rfl d_X11_path_15 2 rfl ?_
      refine aw_icmp_eq (tgt := 29) d_X11_path_16 rfl (fun c9 => ?_) (fun c9 => ?_)
      · have k := k.1 c9
        refine aw_iconst (v := (-1)) d_X11_path_29 ic_m1 ?_
        exact aw_iret rfl d_X11_path_30 ⟨Nat.le_refl _, Nat.le_refl _⟩ ⟨_, rfl, k⟩
      · have k := k.2 c9
        refine aw_iload_n (i := 3) rfl d_X11_path_19 3 rfl ?_
        refine aw_iconst (v := 1) d_X11_path_20 ic_1 ?_
        refine aw_bipush (v := 60) d_X11_path_21 ib_60 ?_
        refine aw_Si [.int x3, .int 1, .int 60] [] d_X11_path_23 (cS_X11_within (d + 0) 0 0) tw_543 rfl (rr0 (Nat.le_of_ble_eq_true rfl) (Nat.le_of_ble_eq_true rfl)) (Nat.le_of_ble_eq_true rfl) xs0 (s_X11_within _ _ x3 1 60) (fun _ _ kk => ?_)
        obtain ⟨e10, e11⟩ := kk
        rw [e10, e11]
        refine aw_ifb_ne (tgt := 31) d_X11_path_26 rfl (fun c12 => ?_) (fun c12 => ?_)
        · have k := k.1 c12
          refine aw_aload_n (i := 0) rfl d_X11_path_31 0 rfl ?_
          refine aw_getr (k0 := 1) kc_11 (ws_0 w6) (Nat.le_of_ble_eq_true rfl) tw_488 d_X11_path_32 rfl (wr_0_1 w6) ?_
          refine aw_iload_n (i := 1) rfl d_X11_path_35 1 rfl ?_
          refine aw_iload_n (i := 2) rfl d_X11_path_36 2 rfl ?_
          refine aw_iload_n (i := 3) rfl d_X11_path_37 3 rfl ?_
          refine aw_Vi 10 [.int x1, .int x2, .int x3] [] d_X11_path_38 (cV_X9_lay (d + 1) 0 0) kc_9 (ws_10 w6) tw_546 rfl (rr0 (Nat.le_of_ble_eq_true rfl) (Nat.le_of_ble_eq_true rfl)) (Nat.le_of_ble_eq_true rfl) xs0 k (fun r15 h13 kk => ?_)
          obtain ⟨w14, k⟩ := kk
          exact aw_iret rfl d_X11_path_41 ⟨Nat.le_refl _, Nat.le_refl _⟩ ⟨_, rfl, k⟩
        · have k := k.2 c12
          refine aw_iconst (v := (-1)) d_X11_path_29 ic_m1 ?_
          exact aw_iret rfl d_X11_path_30 ⟨Nat.le_refl _, Nat.le_refl _⟩ ⟨_, rfl, k⟩
theorem t_X9_minutes (d : Nat) (h : Hp_) (x1 : Int32) (x2 : Int32) (K : Int32 → Hp_ → Prop) (k : Ci (m_X11_isPlace (d + 0) 0 0) [.int x1] h (fun r3 h1 => Wf h1 ∧ ((r3 = 0 → K (-1) h1) ∧ (¬ r3 = 0 → Ci (m_X11_isPlace (d + 0) 0 0) [.int x2] h1 (fun r7 h5 => Wf h5 ∧ ((¬ r7 = 0 → vp_in ((x1 * 16) + x2) 256 ∧ (((h_i h5 30 (((x1 * 16) + x2) : Int32).toNatClampNeg) < 1000000 → K (h_i h5 30 (((x1 * 16) + x2) : Int32).toNatClampNeg) h5) ∧ (¬ (h_i h5 30 (((x1 * 16) + x2) : Int32).toNatClampNeg) < 1000000 → K (-1) h5))) ∧ (r7 = 0 → K (-1) h5))))))) : Ci (m_X9_minutes (d + 1) 0 0) [.ref 10, .int x1, .int x2] h K := by
  refine Ct.of (fun _ _ _ => trivial) pn_X9 (Nat.le_of_ble_eq_true rfl) ?_
  show AW (m_X9_minutes (d + 1) 0 0) 0 0 0 [(0, .ref 10), (1, .int x1), (2, .int x2)] [] h (kI K)
  refine aw_iload_n (i := 1) rfl d_X9_minutes_0 1 rfl ?_
  refine aw_SNi [.int x1] [] d_X9_minutes_1 (cS_X11_isPlace (d + 0) 0 0) (List.mem_of_getElem? (i := 7) rfl) rfl (rr0 (Nat.le_of_ble_eq_true rfl) (Nat.le_of_ble_eq_true rfl)) (Nat.le_of_ble_eq_true rfl) xs0 k (fun r3 h1 kk => ?_)
  obtain ⟨w2, k⟩ := kk
  refine aw_if_eq (tgt := 14) d_X9_minutes_4 rfl (fun c4 => ?_) (fun c4 => ?_)
  · have k := k.1 c4
    refine aw_iconst (v := (-1)) d_X9_minutes_14 ic_m1 ?_
    exact aw_iret rfl d_X9_minutes_15 ⟨Nat.le_refl _, Nat.le_refl _⟩ ⟨_, rfl, k⟩
  · have k := k.2 c4
    refine aw_iload_n (i := 2) rfl d_X9_minutes_7 2 rfl ?_
    refine aw_SNi [.int x2] [] d_X9_minutes_8 (cS_X11_isPlace (d + 0) 0 0) (List.mem_of_getElem? (i := 7) rfl) rfl (rr0 (Nat.le_of_ble_eq_true rfl) (Nat.le_of_ble_eq_true rfl)) (Nat.le_of_ble_eq_true rfl) xs0 k (fun r7 h5 kk => ?_)
    obtain ⟨w6, k⟩ := kk
    refine aw_if_ne (tgt := 16) d_X9_minutes_11 rfl (fun c8 => ?_) (fun c8 => ?_)
    · have k := k.1 c8
      refine aw_aload_n (i := 0) rfl d_X9_minutes_16 0 rfl ?_
      refine aw_getr (k0 := 0) kc_9 (ws_10 w6) (Nat.le_of_ble_eq_true rfl) tw_42 d_X9_minutes_17 rfl (wr_10_0 w6) ?_
      refine aw_iload_n (i := 1) rfl d_X9_minutes_20 1 rfl ?_
      refine aw_bipush (v := 16) d_X9_minutes_21 ib_16 ?_
      refine aw_imul d_X9_minutes_23 ?_
      refine aw_iload_n (i := 2) rfl d_X9_minutes_24 2 rfl ?_
      refine aw_iadd d_X9_minutes_25 ?_
      obtain ⟨b9, k⟩ := k
      refine aw_iald (ws_30 w6) b9 d_X9_minutes_26 ?_
      refine aw_istore_n (i := 3) rfl [(0, .ref 10), (1, .int x1), (2, .int x2), (3, .int (h_i h5 30 (((x1 * 16) + x2) : Int32).toNatClampNeg))] d_X9_minutes_27 (Nat.le_of_ble_eq_true rfl) rfl rfl ?_
      refine aw_iload_n (i := 3) rfl d_X9_minutes_28 3 rfl ?_
      refine aw_ldc (v := 1000000) d_X9_minutes_29 tw_41 ?_
      refine aw_icmp_lt (tgt := 38) d_X9_minutes_31 rfl (fun c10 => ?_) (fun c10 => ?_)
      · have k := k.1 c10
        refine aw_iload_n (i := 3) rfl d_X9_minutes_38 3 rfl ?_
        exact aw_iret rfl d_X9_minutes_39 ⟨Nat.le_refl _, Nat.le_refl _⟩ ⟨_, rfl, k⟩
      · have k := k.2 c10
        refine aw_iconst (v := (-1)) d_X9_minutes_34 ic_m1 ?_
        refine aw_goto (tgt := 39) d_X9_minutes_35 rfl ?_
        exact aw_iret rfl d_X9_minutes_39 ⟨Nat.le_refl _, Nat.le_refl _⟩ ⟨_, rfl, k⟩
    · have k := k.2 c8
      refine aw_iconst (v := (-1)) d_X9_minutes_14 ic_m1 ?_
      exact aw_iret rfl d_X9_minutes_15 ⟨Nat.le_refl _, Nat.le_refl _⟩ ⟨_, rfl, k⟩
theorem t_X11_manOf (d : Nat) (h : Hp_) (w : Wf h) (x1 : Int32) (K : Option Nat → Hp_ → Prop) (k : (¬ (0 ≤ x1 ∧ x1 ≤ ((h_i h 0 7) - 1)) → K none h) ∧ ((0 ≤ x1 ∧ x1 ≤ ((h_i h 0 7) - 1)) → vp_in x1 12 ∧ ((h_r h 15 x1.toNatClampNeg = none → K none h) ∧ (∀ b5, h_r h 15 x1.toNatClampNeg = some b5 → h_sh h b5 = some (12, 17) ∧ 400 ≤ b5 ∧ (K (some b5) h))))) : Cr (m_X11_manOf (d + 1) 0 0) [.ref 0, .int x1] h K := by
  refine Ct.of (fun _ _ _ => trivial) pn_X11 (Nat.le_of_ble_eq_true rfl) ?_
  show AW (m_X11_manOf (d + 1) 0 0) 0 0 0 [(0, .ref 0), (1, .int x1)] [] h (kR K)
  refine aw_iload_n (i := 1) rfl d_X11_manOf_0 1 rfl ?_
  refine aw_iconst (v := 0) d_X11_manOf_1 ic_0 ?_
  refine aw_aload_n (i := 0) rfl d_X11_manOf_2 0 rfl ?_
  refine aw_geti (k0 := 7) kc_11 (ws_0 w) (Nat.le_of_ble_eq_true rfl) tw_494 d_X11_manOf_3 rfl ?_
  refine aw_iconst (v := 1) d_X11_manOf_6 ic_1 ?_
  refine aw_isub d_X11_manOf_7 ?_
  refine aw_Si [.int x1, .int 0, .int ((h_i h 0 7) - 1)] [] d_X11_manOf_8 (cS_X11_within (d + 0) 0 0) tw_543 rfl (rr0 (Nat.le_of_ble_eq_true rfl) (Nat.le_of_ble_eq_true rfl)) (Nat.le_of_ble_eq_true rfl) xs0 (s_X11_within _ _ x1 0 ((h_i h 0 7) - 1)) (fun _ _ kk => ?_)
  obtain ⟨e1, e2⟩ := kk
  rw [e1, e2]
  refine aw_ifb_eq (tgt := 23) d_X11_manOf_11 rfl (fun c3 => ?_) (fun c3 => ?_)
  · have k := k.1 c3
    refine aw_null d_X11_manOf_23 ?_
    exact aw_aretN rfl (Or.inl ⟨_, rfl⟩) d_X11_manOf_24 ⟨Nat.le_refl _, Nat.le_refl _⟩ ⟨none, rfl, k⟩
  · have k := k.2 c3
    refine aw_aload_n (i := 0) rfl d_X11_manOf_14 0 rfl ?_
    refine aw_getr (k0 := 6) kc_11 (ws_0 w) (Nat.le_of_ble_eq_true rfl) tw_493 d_X11_manOf_15 rfl (wr_0_6 w) ?_
    refine aw_iload_n (i := 1) rfl d_X11_manOf_18 1 rfl ?_
    obtain ⟨b4, k⟩ := k
    rcases e8 : h_r h 15 x1.toNatClampNeg with _ | b5
    · refine aw_aaldn (ws_15 w) b4 e8 d_X11_manOf_19 ?_
      have k := k.1 e8
      refine aw_goto (tgt := 24) d_X11_manOf_20 rfl ?_
      exact aw_aretN rfl (Or.inl ⟨_, rfl⟩) d_X11_manOf_24 ⟨Nat.le_refl _, Nat.le_refl _⟩ ⟨none, rfl, k⟩
    · refine aw_aaldr (ws_15 w) b4 e8 d_X11_manOf_19 ?_
      obtain ⟨q6, l7, k⟩ := k.2 b5 e8
      refine aw_goto (tgt := 24) d_X11_manOf_20 rfl ?_
      exact aw_aret rfl (Or.inl ⟨_, rfl⟩) d_X11_manOf_24 ⟨Nat.le_refl _, Nat.le_refl _⟩ ⟨some b5, rfl, k⟩
theorem t_X11_putAt (d : Nat) (h : Hp_) (w : Wf h) (x1 : Nat) (hs_x1 : h_sh h x1 = some (12, 17)) (lb_x1 : 400 ≤ x1) (x2 : Int32) (K : Hp_ → Prop) (k : (¬ x2 = (-1) → K (h_lm (h_im h x1 5 x2) 0 14 (((h_l h 0 14) &&& (((31 : Int64) <<< (((5 * (h_i h x1 0)) : Int32).toInt64 &&& 63)) ^^^ (-1 : Int64))) ||| ((((x2 + 1) : Int32).toInt64) <<< (((5 * (h_i h x1 0)) : Int32).toInt64 &&& 63))))) ∧ (x2 = (-1) → K (h_lm (h_im h x1 5 x2) 0 14 (((h_l h 0 14) &&& (((31 : Int64) <<< (((5 * (h_i h x1 0)) : Int32).toInt64 &&& 63)) ^^^ (-1 : Int64))) ||| ((17 : Int64) <<< (((5 * (h_i h x1 0)) : Int32).toInt64 &&& 63)))))) : Cv (m_X11_putAt (d + 0) 0 0) [.ref 0, .ref x1, .int x2] h K := by
  refine Ct.of (fun _ _ _ => trivial) pn_X11 (Nat.le_of_ble_eq_true rfl) ?_
  show AW (m_X11_putAt (d + 0) 0 0) 0 0 0 [(0, .ref 0), (1, .ref x1), (2, .int x2)] [] h (kV K)
  refine aw_aload_n (i := 1) rfl d_X11_putAt_0 1 rfl ?_
  refine aw_iload_n (i := 2) rfl d_X11_putAt_1 2 rfl ?_
  refine aw_puti (k0 := 5) kc_2 (hs_x1) (Nat.le_of_ble_eq_true rfl) tw_583 d_X11_putAt_2 rfl rfl nf_i ?_
  refine aw_iconst (v := 5) d_X11_putAt_5 ic_5 ?_
  refine aw_aload_n (i := 1) rfl d_X11_putAt_6 1 rfl ?_
  refine aw_geti (k0 := 0) kc_2 (hs_x1) (Nat.le_of_ble_eq_true rfl) tw_573 d_X11_putAt_7 rfl ?_
  refine aw_vi (v2 := (h_i h x1 0)) ((hi_o h x1 5 x2 0 (by decide)).trans (rfl)) ?_
  refine aw_imul d_X11_putAt_10 ?_
  refine aw_istore_n (i := 3) rfl [(0, .ref 0), (1, .ref x1), (2, .int x2), (3, .int (5 * (h_i h x1 0)))] d_X11_putAt_11 (Nat.le_of_ble_eq_true rfl) rfl rfl ?_
  refine aw_iload_n (i := 2) rfl d_X11_putAt_12 2 rfl ?_
  refine aw_iconst (v := (-1)) d_X11_putAt_13 ic_m1 ?_
  refine aw_icmp_ne (tgt := 23) d_X11_putAt_14 rfl (fun c1 => ?_) (fun c1 => ?_)
  · have k := k.1 c1
    refine aw_iload_n (i := 2) rfl d_X11_putAt_23 2 rfl ?_
    refine aw_iconst (v := 1) d_X11_putAt_24 ic_1 ?_
    refine aw_iadd d_X11_putAt_25 ?_
    refine aw_i2l d_X11_putAt_26 ?_
    refine aw_lstore [(0, .ref 0), (1, .ref x1), (2, .int x2), (3, .int (5 * (h_i h x1 0))), (4, .long (((x2 + 1) : Int32).toInt64))] d_X11_putAt_27 (Nat.le_of_ble_eq_true rfl) rfl rfl ?_
    refine aw_aload_n (i := 0) rfl d_X11_putAt_29 0 rfl ?_
    refine aw_aload_n (i := 0) rfl d_X11_putAt_30 0 rfl ?_
    refine aw_getl (k0 := 14) kc_11 (ws_0 w) (Nat.le_of_ble_eq_true rfl) tw_501 d_X11_putAt_31 rfl ?_
    refine aw_vl (v2 := (h_l h 0 14)) (rfl) ?_
    refine aw_ldc2 (v := 31) d_X11_putAt_34 tw_639 ?_
    refine aw_iload_n (i := 3) rfl d_X11_putAt_37 3 rfl ?_
    refine aw_lshl d_X11_putAt_38 ?_
    refine aw_ldc2 (v := (-1)) d_X11_putAt_39 tw_640 ?_
    refine aw_lxor d_X11_putAt_42 ?_
    refine aw_land d_X11_putAt_43 ?_
    refine aw_lload d_X11_putAt_44 4 rfl ?_
    refine aw_iload_n (i := 3) rfl d_X11_putAt_46 3 rfl ?_
    refine aw_lshl d_X11_putAt_47 ?_
    refine aw_lor d_X11_putAt_48 ?_
    refine aw_putl (k0 := 14) kc_11 (ws_0 w) (Nat.le_of_ble_eq_true rfl) tw_501 d_X11_putAt_49 rfl rfl ?_
    exact aw_vret rfl d_X11_putAt_52 ⟨Nat.le_refl _, Nat.le_refl _⟩ ⟨rfl, k⟩
  · have k := k.2 c1
    refine aw_ldc2 (v := 17) d_X11_putAt_17 tw_638 ?_
    refine aw_goto (tgt := 27) d_X11_putAt_20 rfl ?_
    refine aw_lstore [(0, .ref 0), (1, .ref x1), (2, .int x2), (3, .int (5 * (h_i h x1 0))), (4, .long (17 : Int64))] d_X11_putAt_27 (Nat.le_of_ble_eq_true rfl) rfl rfl ?_
    refine aw_aload_n (i := 0) rfl d_X11_putAt_29 0 rfl ?_
    refine aw_aload_n (i := 0) rfl d_X11_putAt_30 0 rfl ?_
    refine aw_getl (k0 := 14) kc_11 (ws_0 w) (Nat.le_of_ble_eq_true rfl) tw_501 d_X11_putAt_31 rfl ?_
    refine aw_vl (v2 := (h_l h 0 14)) (rfl) ?_
    refine aw_ldc2 (v := 31) d_X11_putAt_34 tw_639 ?_
    refine aw_iload_n (i := 3) rfl d_X11_putAt_37 3 rfl ?_
    refine aw_lshl d_X11_putAt_38 ?_
    refine aw_ldc2 (v := (-1)) d_X11_putAt_39 tw_640 ?_
    refine aw_lxor d_X11_putAt_42 ?_
    refine aw_land d_X11_putAt_43 ?_
    refine aw_lload d_X11_putAt_44 4 rfl ?_
    refine aw_iload_n (i := 3) rfl d_X11_putAt_46 3 rfl ?_
    refine aw_lshl d_X11_putAt_47 ?_
    refine aw_lor d_X11_putAt_48 ?_
    refine aw_putl (k0 := 14) kc_11 (ws_0 w) (Nat.le_of_ble_eq_true rfl) tw_501 d_X11_putAt_49 rfl rfl ?_
    exact aw_vret rfl d_X11_putAt_52 ⟨Nat.le_refl _, Nat.le_refl _⟩ ⟨rfl, k⟩
theorem t_X11_setsOut (d : Nat) (h : Hp_) (w : Wf h) (x1 : Nat) (hs_x1 : h_sh h x1 = some (12, 17)) (lb_x1 : 400 ≤ x1) (x2 : Int32) (K : Int32 → Hp_ → Prop) (k : Ci (m_X9_minutes (d + 1) 0 0) [.ref 10, .int (h_i h x1 5), .int x2] h (fun r3 h1 => Wf h1 ∧ h_sh h1 x1 = some (12, 17) ∧ ((0 < r3 → Cv (m_X11_putAt (d + 0) 0 0) [.ref 0, .ref x1, .int (-1)] (h_im (h_im h1 x1 6 x2) x1 7 ((h_i h1 0 0) + r3)) (fun h6 => Wf h6 ∧ (K 1 h6))) ∧ (¬ 0 < r3 → K 0 h1)))) : Ci (m_X11_setsOut (d + 2) 0 0) [.ref 0, .ref x1, .int x2] h K := by
  refine Ct.of (fun _ _ _ => trivial) pn_X11 (Nat.le_of_ble_eq_true rfl) ?_
  show AW (m_X11_setsOut (d + 2) 0 0) 0 0 0 [(0, .ref 0), (1, .ref x1), (2, .int x2)] [] h (kI K)
  refine aw_aload_n (i := 0) rfl d_X11_setsOut_0 0 rfl ?_
  refine aw_getr (k0 := 1) kc_11 (ws_0 w) (Nat.le_of_ble_eq_true rfl) tw_488 d_X11_setsOut_1 rfl (wr_0_1 w) ?_
  refine aw_aload_n (i := 1) rfl d_X11_setsOut_4 1 rfl ?_
  refine aw_geti (k0 := 5) kc_2 (hs_x1) (Nat.le_of_ble_eq_true rfl) tw_583 d_X11_setsOut_5 rfl ?_
  refine aw_iload_n (i := 2) rfl d_X11_setsOut_8 2 rfl ?_
  refine aw_Vi 10 [.int (h_i h x1 5), .int x2] [] d_X11_setsOut_9 (cV_X9_minutes (d + 1) 0 0) kc_9 (ws_10 w) tw_557 rfl (rr0 (Nat.le_of_ble_eq_true rfl) (Nat.le_of_ble_eq_true rfl)) (Nat.le_of_ble_eq_true rfl) xs0 k (fun r3 h1 kk => ?_)
  obtain ⟨w2, q4, k⟩ := kk
  refine aw_istore_n (i := 3) rfl [(0, .ref 0), (1, .ref x1), (2, .int x2), (3, .int r3)] d_X11_setsOut_12 (Nat.le_of_ble_eq_true rfl) rfl rfl ?_
  refine aw_iload_n (i := 3) rfl d_X11_setsOut_13 3 rfl ?_
  refine aw_if_gt (tgt := 19) d_X11_setsOut_14 rfl (fun c5 => ?_) (fun c5 => ?_)
  · have k := k.1 c5
    refine aw_aload_n (i := 1) rfl d_X11_setsOut_19 1 rfl ?_
    refine aw_iload_n (i := 2) rfl d_X11_setsOut_20 2 rfl ?_
    refine aw_puti (k0 := 6) kc_2 (q4) (Nat.le_of_ble_eq_true rfl) tw_585 d_X11_setsOut_21 rfl rfl nf_i ?_
    refine aw_aload_n (i := 1) rfl d_X11_setsOut_24 1 rfl ?_
    refine aw_aload_n (i := 0) rfl d_X11_setsOut_25 0 rfl ?_
    refine aw_geti (k0 := 0) kc_11 (ws_0 w2) (Nat.le_of_ble_eq_true rfl) tw_487 d_X11_setsOut_26 rfl ?_
    refine aw_vi (v2 := (h_i h1 0 0)) ((hi_n h1 x1 6 x2 0 0 (by omega)).trans (rfl)) ?_
    refine aw_iload_n (i := 3) rfl d_X11_setsOut_29 3 rfl ?_
    refine aw_iadd d_X11_setsOut_30 ?_
    refine aw_puti (k0 := 7) kc_2 (q4) (Nat.le_of_ble_eq_true rfl) tw_587 d_X11_setsOut_31 rfl rfl nf_i ?_
    refine aw_aload_n (i := 0) rfl d_X11_setsOut_34 0 rfl ?_
    refine aw_aload_n (i := 1) rfl d_X11_setsOut_35 1 rfl ?_
    refine aw_iconst (v := (-1)) d_X11_setsOut_36 ic_m1 ?_
    refine aw_Vv 0 [.ref x1, .int (-1)] [] d_X11_setsOut_37 (cV_X11_putAt (d + 0) 0 0) kc_11 (ws_0 w2) tw_634 rfl (rr0 (Nat.le_of_ble_eq_true rfl) (Nat.le_of_ble_eq_true rfl)) (Nat.le_of_ble_eq_true rfl) xs0 k (fun h6 kk => ?_)
    obtain ⟨w7, k⟩ := kk
    refine aw_iconst (v := 1) d_X11_setsOut_40 ic_1 ?_
    exact aw_zret rfl rfl d_X11_setsOut_41 ⟨Nat.le_refl _, Nat.le_refl _⟩ ⟨_, rfl, k⟩
  · have k := k.2 c5
    refine aw_iconst (v := 0) d_X11_setsOut_17 ic_0 ?_
    exact aw_zret rfl rfl d_X11_setsOut_18 ⟨Nat.le_refl _, Nat.le_refl _⟩ ⟨_, rfl, k⟩
theorem t_X11_settleRow (d : Nat) (h : Hp_) (w : Wf h) (x1 : Nat) (hs_x1 : h_sh h x1 = some (12, 17)) (lb_x1 : 400 ≤ x1) (x2 : Int32) (x3 : Int32) (K : Hp_ → Prop) (k : ((h_i h x1 12) ≤ (h_i h x1 11) → K h) ∧ (¬ (h_i h x1 12) ≤ (h_i h x1 11) → Cv (m_X7_settle (d + 0) 0 0) [.ref 16, .int (h_i h x1 11), .int x2, .int x3, .int (h_i h 0 0)] h (fun h2 => Wf h2 ∧ h_sh h2 x1 = some (12, 17) ∧ ((¬ x2 = 1 → K (h_im (h_im h2 x1 11 ((h_i h2 x1 11) + 1)) x1 16 ((h_i h2 x1 16) + 1))) ∧ (x2 = 1 → K (h_im (h_im h2 x1 11 ((h_i h2 x1 11) + 1)) x1 15 ((h_i h2 x1 15) + 1))))))) : Cv (m_X11_settleRow (d + 1) 0 0) [.ref 0, .ref x1, .int x2, .int x3] h K := by
  refine Ct.of (fun _ _ _ => trivial) pn_X11 (Nat.le_of_ble_eq_true rfl) ?_
  show AW (m_X11_settleRow (d + 1) 0 0) 0 0 0 [(0, .ref 0), (1, .ref x1), (2, .int x2), (3, .int x3)] [] h (kV K)
  refine aw_aload_n (i := 1) rfl d_X11_settleRow_0 1 rfl ?_
  refine aw_geti (k0 := 11) kc_2 (hs_x1) (Nat.le_of_ble_eq_true rfl) tw_592 d_X11_settleRow_1 rfl ?_
  refine aw_aload_n (i := 1) rfl d_X11_settleRow_4 1 rfl ?_
  refine aw_geti (k0 := 12) kc_2 (hs_x1) (Nat.le_of_ble_eq_true rfl) tw_594 d_X11_settleRow_5 rfl ?_
  refine aw_icmp_ge (tgt := 66) d_X11_settleRow_8 rfl (fun c1 => ?_) (fun c1 => ?_)
  · have k := k.1 c1
    exact aw_vret rfl d_X11_settleRow_66 ⟨Nat.le_refl _, Nat.le_refl _⟩ ⟨rfl, k⟩
  · have k := k.2 c1
    refine aw_aload_n (i := 0) rfl d_X11_settleRow_11 0 rfl ?_
    refine aw_getr (k0 := 8) kc_11 (ws_0 w) (Nat.le_of_ble_eq_true rfl) tw_495 d_X11_settleRow_12 rfl (wr_0_8 w) ?_
    refine aw_aload_n (i := 1) rfl d_X11_settleRow_15 1 rfl ?_
    refine aw_geti (k0 := 11) kc_2 (hs_x1) (Nat.le_of_ble_eq_true rfl) tw_592 d_X11_settleRow_16 rfl ?_
    refine aw_iload_n (i := 2) rfl d_X11_settleRow_19 2 rfl ?_
    refine aw_iload_n (i := 3) rfl d_X11_settleRow_20 3 rfl ?_
    refine aw_aload_n (i := 0) rfl d_X11_settleRow_21 0 rfl ?_
    refine aw_geti (k0 := 0) kc_11 (ws_0 w) (Nat.le_of_ble_eq_true rfl) tw_487 d_X11_settleRow_22 rfl ?_
    refine aw_Vv 16 [.int (h_i h x1 11), .int x2, .int x3, .int (h_i h 0 0)] [] d_X11_settleRow_25 (cV_X7_settle (d + 0) 0 0) kc_7 (ws_16 w) tw_947 rfl (rr0 (Nat.le_of_ble_eq_true rfl) (Nat.le_of_ble_eq_true rfl)) (Nat.le_of_ble_eq_true rfl) xs0 k (fun h2 kk => ?_)
    obtain ⟨w3, q5, k⟩ := kk
    refine aw_aload_n (i := 1) rfl d_X11_settleRow_28 1 rfl ?_
    refine aw_dup d_X11_settleRow_29 rfl ?_
    refine aw_geti (k0 := 11) kc_2 (q5) (Nat.le_of_ble_eq_true rfl) tw_592 d_X11_settleRow_30 rfl ?_
    refine aw_iconst (v := 1) d_X11_settleRow_33 ic_1 ?_
    refine aw_iadd d_X11_settleRow_34 ?_
    refine aw_puti (k0 := 11) kc_2 (q5) (Nat.le_of_ble_eq_true rfl) tw_592 d_X11_settleRow_35 rfl rfl nf_i ?_
    refine aw_iload_n (i := 2) rfl d_X11_settleRow_38 2 rfl ?_
    refine aw_iconst (v := 1) d_X11_settleRow_39 ic_1 ?_
    refine aw_icmp_ne (tgt := 56) d_X11_settleRow_40 rfl (fun c6 => ?_) (fun c6 => ?_)
    · have k := k.1 c6
      refine aw_aload_n (i := 1) rfl d_X11_settleRow_56 1 rfl ?_
      refine aw_dup d_X11_settleRow_57 rfl ?_
      refine aw_geti (k0 := 16) kc_2 (q5) (Nat.le_of_ble_eq_true rfl) tw_598 d_X11_settleRow_58 rfl ?_
      refine aw_vi (v2 := (h_i h2 x1 16)) ((hi_o h2 x1 11 ((h_i h2 x1 11) + 1) 16 (by decide)).trans (rfl)) ?_
      refine aw_iconst (v := 1) d_X11_settleRow_61 ic_1 ?_
      refine aw_iadd d_X11_settleRow_62 ?_
      refine aw_puti (k0 := 16) kc_2 (q5) (Nat.le_of_ble_eq_true rfl) tw_598 d_X11_settleRow_63 rfl rfl nf_i ?_
      exact aw_vret rfl d_X11_settleRow_66 ⟨Nat.le_refl _, Nat.le_refl _⟩ ⟨rfl, k⟩
    · have k := k.2 c6
      refine aw_aload_n (i := 1) rfl d_X11_settleRow_43 1 rfl ?_
      refine aw_dup d_X11_settleRow_44 rfl ?_
      refine aw_geti (k0 := 15) kc_2 (q5) (Nat.le_of_ble_eq_true rfl) tw_597 d_X11_settleRow_45 rfl ?_
      refine aw_vi (v2 := (h_i h2 x1 15)) ((hi_o h2 x1 11 ((h_i h2 x1 11) + 1) 15 (by decide)).trans (rfl)) ?_
      refine aw_iconst (v := 1) d_X11_settleRow_48 ic_1 ?_
      refine aw_iadd d_X11_settleRow_49 ?_
      refine aw_puti (k0 := 15) kc_2 (q5) (Nat.le_of_ble_eq_true rfl) tw_597 d_X11_settleRow_50 rfl rfl nf_i ?_
      refine aw_goto (tgt := 66) d_X11_settleRow_53 rfl ?_
      exact aw_vret rfl d_X11_settleRow_66 ⟨Nat.le_refl _, Nat.le_refl _⟩ ⟨rfl, k⟩
theorem t_X7_settle (d : Nat) (h : Hp_) (w : Wf h) (x1 : Int32) (x2 : Int32) (x3 : Int32) (x4 : Int32) (K : Hp_ → Prop) (k : (x1 < 0 → K h) ∧ (¬ x1 < 0 → ((h_i h 16 7) ≤ x1 → K h) ∧ (¬ (h_i h 16 7) ≤ x1 → vp_in x1 400 ∧ (vp_in x1 400 ∧ (vp_in x1 400 ∧ (K (h_im (h_im (h_im h 51 x1.toNatClampNeg x2) 53 x1.toNatClampNeg x3) 52 x1.toNatClampNeg x4))))))) : Cv (m_X7_settle (d + 0) 0 0) [.ref 16, .int x1, .int x2, .int x3, .int x4] h K := by
  refine Ct.of (fun _ _ _ => trivial) pn_X7 (Nat.le_of_ble_eq_true rfl) ?_
  show AW (m_X7_settle (d + 0) 0 0) 0 0 0 [(0, .ref 16), (1, .int x1), (2, .int x2), (3, .int x3), (4, .int x4)] [] h (kV K)
  refine aw_iload_n (i := 1) rfl d_X7_settle_0 1 rfl ?_
  refine aw_if_lt (tgt := 34) d_X7_settle_1 rfl (fun c1 => ?_) (fun c1 => ?_)
  · have k := k.1 c1
    exact aw_vret rfl d_X7_settle_34 ⟨Nat.le_refl _, Nat.le_refl _⟩ ⟨rfl, k⟩
  · have k := k.2 c1
    refine aw_iload_n (i := 1) rfl d_X7_settle_4 1 rfl ?_
    refine aw_aload_n (i := 0) rfl d_X7_settle_5 0 rfl ?_
    refine aw_geti (k0 := 7) kc_7 (ws_16 w) (Nat.le_of_ble_eq_true rfl) tw_159 d_X7_settle_6 rfl ?_
    refine aw_icmp_ge (tgt := 34) d_X7_settle_9 rfl (fun c2 => ?_) (fun c2 => ?_)
    · have k := k.1 c2
      exact aw_vret rfl d_X7_settle_34 ⟨Nat.le_refl _, Nat.le_refl _⟩ ⟨rfl, k⟩
    · have k := k.2 c2
      refine aw_aload_n (i := 0) rfl d_X7_settle_12 0 rfl ?_
      refine aw_getr (k0 := 4) kc_7 (ws_16 w) (Nat.le_of_ble_eq_true rfl) tw_156 d_X7_settle_13 rfl (wr_16_4 w) ?_
      refine aw_iload_n (i := 1) rfl d_X7_settle_16 1 rfl ?_
      refine aw_iload_n (i := 2) rfl d_X7_settle_17 2 rfl ?_
      obtain ⟨b3, k⟩ := k
      refine aw_iast (ws_51 w) b3 d_X7_settle_18 ?_
      refine aw_aload_n (i := 0) rfl d_X7_settle_19 0 rfl ?_
      refine aw_getr (k0 := 6) kc_7 (ws_16 w) (Nat.le_of_ble_eq_true rfl) tw_158 d_X7_settle_20 rfl (wr_16_6 w) ?_
      refine aw_iload_n (i := 1) rfl d_X7_settle_23 1 rfl ?_
      refine aw_iload_n (i := 3) rfl d_X7_settle_24 3 rfl ?_
      obtain ⟨b4, k⟩ := k
      refine aw_iast (ws_53 w) b4 d_X7_settle_25 ?_
      refine aw_aload_n (i := 0) rfl d_X7_settle_26 0 rfl ?_
      refine aw_getr (k0 := 5) kc_7 (ws_16 w) (Nat.le_of_ble_eq_true rfl) tw_157 d_X7_settle_27 rfl (wr_16_5 w) ?_
      refine aw_iload_n (i := 1) rfl d_X7_settle_30 1 rfl ?_
      refine aw_iload d_X7_settle_31 4 rfl ?_
      obtain ⟨b5, k⟩ := k
      refine aw_iast (ws_52 w) b5 d_X7_settle_33 ?_
      exact aw_vret rfl d_X7_settle_34 ⟨Nat.le_refl _, Nat.le_refl _⟩ ⟨rfl, k⟩
theorem t_X11_waitsAtPoint (d : Nat) (h : Hp_) (x1 : Nat) (hs_x1 : h_sh h x1 = some (12, 17)) (lb_x1 : 400 ≤ x1) (x2 : Int32) (K : Int32 → Hp_ → Prop) (k : Ci (m_X0_amountOf (d + 0) 0 0) [.int x2] h (fun r3 h1 => Wf h1 ∧ h_sh h1 x1 = some (12, 17) ∧ (((h_i h1 0 0) ≤ ((h_i h x1 10) + r3) → Cv (m_X11_settleRow (d + 1) 0 0) [.ref 0, .ref x1, .int 1, .int (-1)] h1 (fun h6 => Wf h6 ∧ h_sh h6 x1 = some (12, 17) ∧ ((((h_i h x1 10) + r3) ≤ (h_i h6 0 0) → K 0 h6) ∧ (¬ ((h_i h x1 10) + r3) ≤ (h_i h6 0 0) → K 1 (h_im h6 x1 7 ((h_i h x1 10) + r3)))))) ∧ (¬ (h_i h1 0 0) ≤ ((h_i h x1 10) + r3) → Cv (m_X11_settleRow (d + 1) 0 0) [.ref 0, .ref x1, .int 2, .int 1] h1 (fun h11 => Wf h11 ∧ (K 0 h11)))))) : Ci (m_X11_waitsAtPoint (d + 2) 0 0) [.ref 0, .ref x1, .int x2] h K := by
  refine Ct.of (fun _ _ _ => trivial) pn_X11 (Nat.le_of_ble_eq_true rfl) ?_
  show AW (m_X11_waitsAtPoint (d + 2) 0 0) 0 0 0 [(0, .ref 0), (1, .ref x1), (2, .int x2)] [] h (kI K)
  refine aw_aload_n (i := 1) rfl d_X11_waitsAtPoint_0 1 rfl ?_
  refine aw_geti (k0 := 10) kc_2 (hs_x1) (Nat.le_of_ble_eq_true rfl) tw_590 d_X11_waitsAtPoint_1 rfl ?_
  refine aw_iload_n (i := 2) rfl d_X11_waitsAtPoint_4 2 rfl ?_
  refine aw_Si [.int x2] [.int (h_i h x1 10)] d_X11_waitsAtPoint_5 (cS_X0_amountOf (d + 0) 0 0) tw_924 rfl (rr0 (Nat.le_of_ble_eq_true rfl) (Nat.le_of_ble_eq_true rfl)) (Nat.le_of_ble_eq_true rfl) xs0 k (fun r3 h1 kk => ?_)
  obtain ⟨w2, q4, k⟩ := kk
  refine aw_iadd d_X11_waitsAtPoint_8 ?_
  refine aw_istore_n (i := 3) rfl [(0, .ref 0), (1, .ref x1), (2, .int x2), (3, .int ((h_i h x1 10) + r3))] d_X11_waitsAtPoint_9 (Nat.le_of_ble_eq_true rfl) rfl rfl ?_
  refine aw_aload_n (i := 0) rfl d_X11_waitsAtPoint_10 0 rfl ?_
  refine aw_geti (k0 := 0) kc_11 (ws_0 w2) (Nat.le_of_ble_eq_true rfl) tw_487 d_X11_waitsAtPoint_11 rfl ?_
  refine aw_iload_n (i := 3) rfl d_X11_waitsAtPoint_14 3 rfl ?_
  refine aw_icmp_le (tgt := 27) d_X11_waitsAtPoint_15 rfl (fun c5 => ?_) (fun c5 => ?_)
  · have k := k.1 c5
    refine aw_aload_n (i := 0) rfl d_X11_waitsAtPoint_27 0 rfl ?_
    refine aw_aload_n (i := 1) rfl d_X11_waitsAtPoint_28 1 rfl ?_
    refine aw_iconst (v := 1) d_X11_waitsAtPoint_29 ic_1 ?_
    refine aw_iconst (v := (-1)) d_X11_waitsAtPoint_30 ic_m1 ?_
    refine aw_Vv 0 [.ref x1, .int 1, .int (-1)] [] d_X11_waitsAtPoint_31 (cV_X11_settleRow (d + 1) 0 0) kc_11 (ws_0 w2) tw_943 rfl (rr0 (Nat.le_of_ble_eq_true rfl) (Nat.le_of_ble_eq_true rfl)) (Nat.le_of_ble_eq_true rfl) xs0 k (fun h6 kk => ?_)
    obtain ⟨w7, q9, k⟩ := kk
    refine aw_iload_n (i := 3) rfl d_X11_waitsAtPoint_34 3 rfl ?_
    refine aw_aload_n (i := 0) rfl d_X11_waitsAtPoint_35 0 rfl ?_
    refine aw_geti (k0 := 0) kc_11 (ws_0 w7) (Nat.le_of_ble_eq_true rfl) tw_487 d_X11_waitsAtPoint_36 rfl ?_
    refine aw_icmp_le (tgt := 49) d_X11_waitsAtPoint_39 rfl (fun c10 => ?_) (fun c10 => ?_)
    · have k := k.1 c10
      refine aw_iconst (v := 0) d_X11_waitsAtPoint_49 ic_0 ?_
      exact aw_zret rfl rfl d_X11_waitsAtPoint_50 ⟨Nat.le_refl _, Nat.le_refl _⟩ ⟨_, rfl, k⟩
    · have k := k.2 c10
      refine aw_aload_n (i := 1) rfl d_X11_waitsAtPoint_42 1 rfl ?_
      refine aw_iload_n (i := 3) rfl d_X11_waitsAtPoint_43 3 rfl ?_
      refine aw_puti (k0 := 7) kc_2 (q9) (Nat.le_of_ble_eq_true rfl) tw_587 d_X11_waitsAtPoint_44 rfl rfl nf_i ?_
      refine aw_iconst (v := 1) d_X11_waitsAtPoint_47 ic_1 ?_
      exact aw_zret rfl rfl d_X11_waitsAtPoint_48 ⟨Nat.le_refl _, Nat.le_refl _⟩ ⟨_, rfl, k⟩
  · have k := k.2 c5
    refine aw_aload_n (i := 0) rfl d_X11_waitsAtPoint_18 0 rfl ?_
    refine aw_aload_n (i := 1) rfl d_X11_waitsAtPoint_19 1 rfl ?_
    refine aw_iconst (v := 2) d_X11_waitsAtPoint_20 ic_2 ?_
    refine aw_iconst (v := 1) d_X11_waitsAtPoint_21 ic_1 ?_
    refine aw_Vv 0 [.ref x1, .int 2, .int 1] [] d_X11_waitsAtPoint_22 (cV_X11_settleRow (d + 1) 0 0) kc_11 (ws_0 w2) tw_943 rfl (rr0 (Nat.le_of_ble_eq_true rfl) (Nat.le_of_ble_eq_true rfl)) (Nat.le_of_ble_eq_true rfl) xs0 k (fun h11 kk => ?_)
    obtain ⟨w12, k⟩ := kk
    refine aw_iconst (v := 0) d_X11_waitsAtPoint_25 ic_0 ?_
    exact aw_zret rfl rfl d_X11_waitsAtPoint_26 ⟨Nat.le_refl _, Nat.le_refl _⟩ ⟨_, rfl, k⟩
theorem t_X11_goesToMeet (d : Nat) (h : Hp_) (x1 : Nat) (hs_x1 : h_sh h x1 = some (12, 17)) (lb_x1 : 400 ≤ x1) (x2 : Int32) (K : Int32 → Hp_ → Prop) (k : Ci (m_X0_placeOf (d + 0) 0 0) [.int x2] h (fun r3 h1 => Wf h1 ∧ h_sh h1 x1 = some (12, 17) ∧ (Ci (m_X9_minutes (d + 1) 0 0) [.ref 10, .int (h_i h1 x1 5), .int r3] h1 (fun r7 h5 => Wf h5 ∧ h_sh h5 x1 = some (12, 17) ∧ ((¬ r7 = (-1) → Ci (m_X11_setsOut (d + 2) 0 0) [.ref 0, .ref x1, .int r3] h5 (fun r12 h10 => Wf h10 ∧ h_sh h10 x1 = some (12, 17) ∧ ((¬ r12 = 0 → K 1 h10) ∧ (r12 = 0 → Ci (m_X11_waitsAtPoint (d + 2) 0 0) [.ref 0, .ref x1, .int x2] h10 (fun r17 h15 => Wf h15 ∧ ((r17 = 0 → K 0 h15) ∧ (¬ r17 = 0 → K 1 h15))))))) ∧ (r7 = (-1) → Cv (m_X11_settleRow (d + 1) 0 0) [.ref 0, .ref x1, .int 2, .int 2] h5 (fun h19 => Wf h19 ∧ (K 0 h19)))))))) : Ci (m_X11_goesToMeet (d + 3) 0 0) [.ref 0, .ref x1, .int x2] h K := by
  refine Ct.of (fun _ _ _ => trivial) pn_X11 (Nat.le_of_ble_eq_true rfl) ?_
  show AW (m_X11_goesToMeet (d + 3) 0 0) 0 0 0 [(0, .ref 0), (1, .ref x1), (2, .int x2)] [] h (kI K)
  refine aw_iload_n (i := 2) rfl d_X11_goesToMeet_0 2 rfl ?_
  refine aw_Si [.int x2] [] d_X11_goesToMeet_1 (cS_X0_placeOf (d + 0) 0 0) tw_921 rfl (rr0 (Nat.le_of_ble_eq_true rfl) (Nat.le_of_ble_eq_true rfl)) (Nat.le_of_ble_eq_true rfl) xs0 k (fun r3 h1 kk => ?_)
  obtain ⟨w2, q4, k⟩ := kk
  refine aw_istore_n (i := 3) rfl [(0, .ref 0), (1, .ref x1), (2, .int x2), (3, .int r3)] d_X11_goesToMeet_4 (Nat.le_of_ble_eq_true rfl) rfl rfl ?_
  refine aw_aload_n (i := 0) rfl d_X11_goesToMeet_5 0 rfl ?_
  refine aw_getr (k0 := 1) kc_11 (ws_0 w2) (Nat.le_of_ble_eq_true rfl) tw_488 d_X11_goesToMeet_6 rfl (wr_0_1 w2) ?_
  refine aw_aload_n (i := 1) rfl d_X11_goesToMeet_9 1 rfl ?_
  refine aw_geti (k0 := 5) kc_2 (q4) (Nat.le_of_ble_eq_true rfl) tw_583 d_X11_goesToMeet_10 rfl ?_
  refine aw_iload_n (i := 3) rfl d_X11_goesToMeet_13 3 rfl ?_
  refine aw_Vi 10 [.int (h_i h1 x1 5), .int r3] [] d_X11_goesToMeet_14 (cV_X9_minutes (d + 1) 0 0) kc_9 (ws_10 w2) tw_557 rfl (rr0 (Nat.le_of_ble_eq_true rfl) (Nat.le_of_ble_eq_true rfl)) (Nat.le_of_ble_eq_true rfl) xs0 k (fun r7 h5 kk => ?_)
  obtain ⟨w6, q8, k⟩ := kk
  refine aw_iconst (v := (-1)) d_X11_goesToMeet_17 ic_m1 ?_
  refine aw_icmp_ne (tgt := 30) d_X11_goesToMeet_18 rfl (fun c9 => ?_) (fun c9 => ?_)
  · have k := k.1 c9
    refine aw_aload_n (i := 0) rfl d_X11_goesToMeet_30 0 rfl ?_
    refine aw_aload_n (i := 1) rfl d_X11_goesToMeet_31 1 rfl ?_
    refine aw_iload_n (i := 3) rfl d_X11_goesToMeet_32 3 rfl ?_
    refine aw_Vi 0 [.ref x1, .int r3] [] d_X11_goesToMeet_33 (cV_X11_setsOut (d + 2) 0 0) kc_11 (ws_0 w6) tw_951 rfl (rr0 (Nat.le_of_ble_eq_true rfl) (Nat.le_of_ble_eq_true rfl)) (Nat.le_of_ble_eq_true rfl) xs0 k (fun r12 h10 kk => ?_)
    obtain ⟨w11, q13, k⟩ := kk
    refine aw_if_ne (tgt := 48) d_X11_goesToMeet_36 rfl (fun c14 => ?_) (fun c14 => ?_)
    · have k := k.1 c14
      refine aw_iconst (v := 1) d_X11_goesToMeet_48 ic_1 ?_
      refine aw_goto (tgt := 53) d_X11_goesToMeet_49 rfl ?_
      exact aw_zret rfl rfl d_X11_goesToMeet_53 ⟨Nat.le_refl _, Nat.le_refl _⟩ ⟨_, rfl, k⟩
    · have k := k.2 c14
      refine aw_aload_n (i := 0) rfl d_X11_goesToMeet_39 0 rfl ?_
      refine aw_aload_n (i := 1) rfl d_X11_goesToMeet_40 1 rfl ?_
      refine aw_iload_n (i := 2) rfl d_X11_goesToMeet_41 2 rfl ?_
      refine aw_Vi 0 [.ref x1, .int x2] [] d_X11_goesToMeet_42 (cV_X11_waitsAtPoint (d + 2) 0 0) kc_11 (ws_0 w11) tw_955 rfl (rr0 (Nat.le_of_ble_eq_true rfl) (Nat.le_of_ble_eq_true rfl)) (Nat.le_of_ble_eq_true rfl) xs0 k (fun r17 h15 kk => ?_)
      obtain ⟨w16, k⟩ := kk
      refine aw_if_eq (tgt := 52) d_X11_goesToMeet_45 rfl (fun c18 => ?_) (fun c18 => ?_)
      · have k := k.1 c18
        refine aw_iconst (v := 0) d_X11_goesToMeet_52 ic_0 ?_
        exact aw_zret rfl rfl d_X11_goesToMeet_53 ⟨Nat.le_refl _, Nat.le_refl _⟩ ⟨_, rfl, k⟩
      · have k := k.2 c18
        refine aw_iconst (v := 1) d_X11_goesToMeet_48 ic_1 ?_
        refine aw_goto (tgt := 53) d_X11_goesToMeet_49 rfl ?_
        exact aw_zret rfl rfl d_X11_goesToMeet_53 ⟨Nat.le_refl _, Nat.le_refl _⟩ ⟨_, rfl, k⟩
  · have k := k.2 c9
    refine aw_aload_n (i := 0) rfl d_X11_goesToMeet_21 0 rfl ?_
    refine aw_aload_n (i := 1) rfl d_X11_goesToMeet_22 1 rfl ?_
    refine aw_iconst (v := 2) d_X11_goesToMeet_23 ic_2 ?_
    refine aw_iconst (v := 2) d_X11_goesToMeet_24 ic_2 ?_
    refine aw_Vv 0 [.ref x1, .int 2, .int 2] [] d_X11_goesToMeet_25 (cV_X11_settleRow (d + 1) 0 0) kc_11 (ws_0 w6) tw_943 rfl (rr0 (Nat.le_of_ble_eq_true rfl) (Nat.le_of_ble_eq_true rfl)) (Nat.le_of_ble_eq_true rfl) xs0 k (fun h19 kk => ?_)
    obtain ⟨w20, k⟩ := kk
    refine aw_iconst (v := 0) d_X11_goesToMeet_28 ic_0 ?_
    exact aw_zret rfl rfl d_X11_goesToMeet_29 ⟨Nat.le_refl _, Nat.le_refl _⟩ ⟨_, rfl, k⟩
theorem t_X11_takesTime (d : Nat) (h : Hp_) (w : Wf h) (x1 : Nat) (hs_x1 : h_sh h x1 = some (12, 17)) (lb_x1 : 400 ≤ x1) (K : Int32 → Hp_ → Prop) (k : Ci (m_X0_stepAt (d + 0) 0 0) [.ref 12, .int (h_i h x1 8), .int (h_i h x1 9)] h (fun r3 h1 => Wf h1 ∧ h_sh h1 x1 = some (12, 17) ∧ (Ci (m_X0_kindOf (d + 0) 0 0) [.int r3] h1 (fun r7 h5 => Wf h5 ∧ h_sh h5 x1 = some (12, 17) ∧ ((r7 = 1 → Ci (m_X0_amountOf (d + 0) 0 0) [.int r3] h5 (fun r12 h10 => Wf h10 ∧ h_sh h10 x1 = some (12, 17) ∧ (K 1 (h_im h10 x1 7 ((h_i h5 0 0) + r12))))) ∧ ((r7 = 2 → Ci (m_X11_goesToMeet (d + 3) 0 0) [.ref 0, .ref x1, .int r3] h5 (fun r17 h15 => Wf h15 ∧ ((r17 = 0 ∨ r17 = 1) ∧ (K r17 h15)))) ∧ ((r7 = 3 → K 1 (h_im h5 x1 7 ((h_i h5 0 0) + 1))) ∧ ((¬ r7 = 1 ∧ ¬ r7 = 2 ∧ ¬ r7 = 3 → Ci (m_X0_placeOf (d + 0) 0 0) [.int r3] h5 (fun r22 h20 => Wf h20 ∧ h_sh h20 x1 = some (12, 17) ∧ (Ci (m_X11_setsOut (d + 2) 0 0) [.ref 0, .ref x1, .int r22] h20 (fun r26 h24 => Wf h24 ∧ ((r26 = 0 ∨ r26 = 1) ∧ (K r26 h24)))))))))))))) : Ci (m_X11_takesTime (d + 4) 0 0) [.ref 0, .ref x1] h K := by
  refine Ct.of (fun _ _ _ => trivial) pn_X11 (Nat.le_of_ble_eq_true rfl) ?_
  show AW (m_X11_takesTime (d + 4) 0 0) 0 0 0 [(0, .ref 0), (1, .ref x1)] [] h (kI K)
  refine aw_aload_n (i := 0) rfl d_X11_takesTime_0 0 rfl ?_
  refine aw_getr (k0 := 3) kc_11 (ws_0 w) (Nat.le_of_ble_eq_true rfl) tw_490 d_X11_takesTime_1 rfl (wr_0_3 w) ?_
  refine aw_aload_n (i := 1) rfl d_X11_takesTime_4 1 rfl ?_
  refine aw_geti (k0 := 8) kc_2 (hs_x1) (Nat.le_of_ble_eq_true rfl) tw_588 d_X11_takesTime_5 rfl ?_
  refine aw_aload_n (i := 1) rfl d_X11_takesTime_8 1 rfl ?_
  refine aw_geti (k0 := 9) kc_2 (hs_x1) (Nat.le_of_ble_eq_true rfl) tw_589 d_X11_takesTime_9 rfl ?_
  refine aw_Vi 12 [.int (h_i h x1 8), .int (h_i h x1 9)] [] d_X11_takesTime_12 (cV_X0_stepAt (d + 0) 0 0) kc_0 (ws_12 w) tw_916 rfl (rr0 (Nat.le_of_ble_eq_true rfl) (Nat.le_of_ble_eq_true rfl)) (Nat.le_of_ble_eq_true rfl) xs0 k (fun r3 h1 kk => ?_)
  obtain ⟨w2, q4, k⟩ := kk
  refine aw_istore_n (i := 2) rfl [(0, .ref 0), (1, .ref x1), (2, .int r3)] d_X11_takesTime_15 (Nat.le_of_ble_eq_true rfl) rfl rfl ?_
  refine aw_iload_n (i := 2) rfl d_X11_takesTime_16 2 rfl ?_
  refine aw_Si [.int r3] [] d_X11_takesTime_17 (cS_X0_kindOf (d + 0) 0 0) tw_920 rfl (rr0 (Nat.le_of_ble_eq_true rfl) (Nat.le_of_ble_eq_true rfl)) (Nat.le_of_ble_eq_true rfl) xs0 k (fun r7 h5 kk => ?_)
  obtain ⟨w6, q8, k⟩ := kk
  by_cases e9 : r7 = 1
  · refine aw_tableIn (off := 28) (tgt := 48) d_X11_takesTime_20 (by rw [e9]; decide) (by rw [e9]; decide) (by rw [e9]; decide) rfl ?_
    have k := k.1 e9
    refine aw_aload_n (i := 1) rfl d_X11_takesTime_48 1 rfl ?_
    refine aw_aload_n (i := 0) rfl d_X11_takesTime_49 0 rfl ?_
    refine aw_geti (k0 := 0) kc_11 (ws_0 w6) (Nat.le_of_ble_eq_true rfl) tw_487 d_X11_takesTime_50 rfl ?_
    refine aw_iload_n (i := 2) rfl d_X11_takesTime_53 2 rfl ?_
    refine aw_Si [.int r3] [.int (h_i h5 0 0), .ref x1] d_X11_takesTime_54 (cS_X0_amountOf (d + 0) 0 0) tw_924 rfl (rr0 (Nat.le_of_ble_eq_true rfl) (Nat.le_of_ble_eq_true rfl)) (Nat.le_of_ble_eq_true rfl) xs0 k (fun r12 h10 kk => ?_)
    obtain ⟨w11, q13, k⟩ := kk
    refine aw_iadd d_X11_takesTime_57 ?_
    refine aw_puti (k0 := 7) kc_2 (q13) (Nat.le_of_ble_eq_true rfl) tw_587 d_X11_takesTime_58 rfl rfl nf_i ?_
    refine aw_iconst (v := 1) d_X11_takesTime_61 ic_1 ?_
    exact aw_zret rfl rfl d_X11_takesTime_62 ⟨Nat.le_refl _, Nat.le_refl _⟩ ⟨_, rfl, k⟩
  · have k := k.2
    by_cases e14 : r7 = 2
    · refine aw_tableIn (off := 55) (tgt := 75) d_X11_takesTime_20 (by rw [e14]; decide) (by rw [e14]; decide) (by rw [e14]; decide) rfl ?_
      have k := k.1 e14
      refine aw_aload_n (i := 0) rfl d_X11_takesTime_75 0 rfl ?_
      refine aw_aload_n (i := 1) rfl d_X11_takesTime_76 1 rfl ?_
      refine aw_iload_n (i := 2) rfl d_X11_takesTime_77 2 rfl ?_
      refine aw_Vi 0 [.ref x1, .int r3] [] d_X11_takesTime_78 (cV_X11_goesToMeet (d + 3) 0 0) kc_11 (ws_0 w6) tw_939 rfl (rr0 (Nat.le_of_ble_eq_true rfl) (Nat.le_of_ble_eq_true rfl)) (Nat.le_of_ble_eq_true rfl) xs0 k (fun r17 h15 kk => ?_)
      obtain ⟨w16, k⟩ := kk
      obtain ⟨z18, k⟩ := k
      exact aw_zret rfl (nf_z z18).1 d_X11_takesTime_81 ⟨Nat.le_refl _, Nat.le_refl _⟩ ⟨_, rfl, k⟩
    · have k := k.2
      by_cases e19 : r7 = 3
      · refine aw_tableIn (off := 43) (tgt := 63) d_X11_takesTime_20 (by rw [e19]; decide) (by rw [e19]; decide) (by rw [e19]; decide) rfl ?_
        have k := k.1 e19
        refine aw_aload_n (i := 1) rfl d_X11_takesTime_63 1 rfl ?_
        refine aw_aload_n (i := 0) rfl d_X11_takesTime_64 0 rfl ?_
        refine aw_geti (k0 := 0) kc_11 (ws_0 w6) (Nat.le_of_ble_eq_true rfl) tw_487 d_X11_takesTime_65 rfl ?_
        refine aw_iconst (v := 1) d_X11_takesTime_68 ic_1 ?_
        refine aw_iadd d_X11_takesTime_69 ?_
        refine aw_puti (k0 := 7) kc_2 (q8) (Nat.le_of_ble_eq_true rfl) tw_587 d_X11_takesTime_70 rfl rfl nf_i ?_
        refine aw_iconst (v := 1) d_X11_takesTime_73 ic_1 ?_
        exact aw_zret rfl rfl d_X11_takesTime_74 ⟨Nat.le_refl _, Nat.le_refl _⟩ ⟨_, rfl, k⟩
      · have k := k.2
        have k := k ⟨e9, e14, e19⟩
        have n28 := sw_ne (1) (by decide) e9
        have n29 := sw_ne (2) (by decide) e14
        have n30 := sw_ne (3) (by decide) e19
        refine aw_tableOut (tgt := 82) d_X11_takesTime_20 (by omega) rfl ?_
        refine aw_aload_n (i := 0) rfl d_X11_takesTime_82 0 rfl ?_
        refine aw_aload_n (i := 1) rfl d_X11_takesTime_83 1 rfl ?_
        refine aw_iload_n (i := 2) rfl d_X11_takesTime_84 2 rfl ?_
        refine aw_Si [.int r3] [.ref x1, .ref 0] d_X11_takesTime_85 (cS_X0_placeOf (d + 0) 0 0) tw_921 rfl (rr0 (Nat.le_of_ble_eq_true rfl) (Nat.le_of_ble_eq_true rfl)) (Nat.le_of_ble_eq_true rfl) xs0 k (fun r22 h20 kk => ?_)
        obtain ⟨w21, q23, k⟩ := kk
        refine aw_Vi 0 [.ref x1, .int r22] [] d_X11_takesTime_88 (cV_X11_setsOut (d + 2) 0 0) kc_11 (ws_0 w21) tw_951 rfl (rr0 (Nat.le_of_ble_eq_true rfl) (Nat.le_of_ble_eq_true rfl)) (Nat.le_of_ble_eq_true rfl) xs0 k (fun r26 h24 kk => ?_)
        obtain ⟨w25, k⟩ := kk
        obtain ⟨z27, k⟩ := k
        exact aw_zret rfl (nf_z z27).1 d_X11_takesTime_91 ⟨Nat.le_refl _, Nat.le_refl _⟩ ⟨_, rfl, k⟩
theorem t_X11_doSteps (d : Nat) (h : Hp_) (w : Wf h) (x1 : Nat) (hs_x1 : h_sh h x1 = some (12, 17)) (lb_x1 : 400 ≤ x1) (K : Hp_ → Prop) (k : Ci (m_X0_stepsOf (d + 1) 0 0) [.ref 12, .int (h_i h x1 8)] h (fun r3 h1 => Wf h1 ∧ h_sh h1 x1 = some (12, 17) ∧ (AW (m_X11_doSteps (d + 5) 0 0) 0 0 12 [(0, .ref 0), (1, .ref x1), (2, .int r3)] [] h1 (kV K)))) : Cv (m_X11_doSteps (d + 5) 0 0) [.ref 0, .ref x1] h K := by
  refine Ct.of (fun _ _ _ => trivial) pn_X11 (Nat.le_of_ble_eq_true rfl) ?_
  show AW (m_X11_doSteps (d + 5) 0 0) 0 0 0 [(0, .ref 0), (1, .ref x1)] [] h (kV K)
  refine aw_aload_n (i := 0) rfl d_X11_doSteps_0 0 rfl ?_
  refine aw_getr (k0 := 3) kc_11 (ws_0 w) (Nat.le_of_ble_eq_true rfl) tw_490 d_X11_doSteps_1 rfl (wr_0_3 w) ?_
  refine aw_aload_n (i := 1) rfl d_X11_doSteps_4 1 rfl ?_
  refine aw_geti (k0 := 8) kc_2 (hs_x1) (Nat.le_of_ble_eq_true rfl) tw_588 d_X11_doSteps_5 rfl ?_
  refine aw_Vi 12 [.int (h_i h x1 8)] [] d_X11_doSteps_8 (cV_X0_stepsOf (d + 1) 0 0) kc_0 (ws_12 w) tw_891 rfl (rr0 (Nat.le_of_ble_eq_true rfl) (Nat.le_of_ble_eq_true rfl)) (Nat.le_of_ble_eq_true rfl) xs0 k (fun r3 h1 kk => ?_)
  obtain ⟨w2, q4, k⟩ := kk
  refine aw_istore_n (i := 2) rfl [(0, .ref 0), (1, .ref x1), (2, .int r3)] d_X11_doSteps_11 (Nat.le_of_ble_eq_true rfl) rfl rfl ?_
  exact k
theorem t_X11_doSteps_12 (d : Nat) (h : Hp_) (w : Wf h) (x1 : Nat) (hs_x1 : h_sh h x1 = some (12, 17)) (lb_x1 : 400 ≤ x1) (x2 : Int32) (K : Hp_ → Prop) (k : (x2 ≤ (h_i h x1 9) → Cv (m_X11_goHome (d + 3) 0 0) [.ref 0, .ref x1] h (fun h6 => Wf h6 ∧ (K h6))) ∧ (¬ x2 ≤ (h_i h x1 9) → Ci (m_X11_takesTime (d + 4) 0 0) [.ref 0, .ref x1] h (fun r11 h9 => Wf h9 ∧ h_sh h9 x1 = some (12, 17) ∧ ((r11 = 0 → AW (m_X11_doSteps (d + 5) 0 0) 0 0 12 [(0, .ref 0), (1, .ref x1), (2, .int x2)] [] (h_im h9 x1 9 ((h_i h9 x1 9) + 1)) (kV K)) ∧ (¬ r11 = 0 → K h9))))) : AW (m_X11_doSteps (d + 5) 0 0) 0 0 12 [(0, .ref 0), (1, .ref x1), (2, .int x2)] [] h (kV K) := by
  refine aw_aload_n (i := 1) rfl d_X11_doSteps_12 1 rfl ?_
  refine aw_geti (k0 := 9) kc_2 (hs_x1) (Nat.le_of_ble_eq_true rfl) tw_589 d_X11_doSteps_13 rfl ?_
  refine aw_iload_n (i := 2) rfl d_X11_doSteps_16 2 rfl ?_
  refine aw_icmp_ge (tgt := 42) d_X11_doSteps_17 rfl (fun c5 => ?_) (fun c5 => ?_)
  · have k := k.1 c5
    refine aw_aload_n (i := 0) rfl d_X11_doSteps_42 0 rfl ?_
    refine aw_aload_n (i := 1) rfl d_X11_doSteps_43 1 rfl ?_
    refine aw_Vv 0 [.ref x1] [] d_X11_doSteps_44 (cV_X11_goHome (d + 3) 0 0) kc_11 (ws_0 w) tw_959 rfl (rr0 (Nat.le_of_ble_eq_true rfl) (Nat.le_of_ble_eq_true rfl)) (Nat.le_of_ble_eq_true rfl) xs0 k (fun h6 kk => ?_)
    obtain ⟨w7, k⟩ := kk
    exact aw_vret rfl d_X11_doSteps_47 ⟨Nat.le_refl _, Nat.le_refl _⟩ ⟨rfl, k⟩
  · have k := k.2 c5
    refine aw_aload_n (i := 0) rfl d_X11_doSteps_20 0 rfl ?_
    refine aw_aload_n (i := 1) rfl d_X11_doSteps_21 1 rfl ?_
    refine aw_Vi 0 [.ref x1] [] d_X11_doSteps_22 (cV_X11_takesTime (d + 4) 0 0) kc_11 (ws_0 w) tw_935 rfl (rr0 (Nat.le_of_ble_eq_true rfl) (Nat.le_of_ble_eq_true rfl)) (Nat.le_of_ble_eq_true rfl) xs0 k (fun r11 h9 kk => ?_)
    obtain ⟨w10, q12, k⟩ := kk
    refine aw_if_eq (tgt := 29) d_X11_doSteps_25 rfl (fun c13 => ?_) (fun c13 => ?_)
    · have k := k.1 c13
      refine aw_aload_n (i := 1) rfl d_X11_doSteps_29 1 rfl ?_
      refine aw_dup d_X11_doSteps_30 rfl ?_
      refine aw_geti (k0 := 9) kc_2 (q12) (Nat.le_of_ble_eq_true rfl) tw_589 d_X11_doSteps_31 rfl ?_
      refine aw_iconst (v := 1) d_X11_doSteps_34 ic_1 ?_
      refine aw_iadd d_X11_doSteps_35 ?_
      refine aw_puti (k0 := 9) kc_2 (q12) (Nat.le_of_ble_eq_true rfl) tw_589 d_X11_doSteps_36 rfl rfl nf_i ?_
      refine aw_goto (tgt := 12) d_X11_doSteps_39 rfl ?_
      exact k
    · have k := k.2 c13
      exact aw_vret rfl d_X11_doSteps_28 ⟨Nat.le_refl _, Nat.le_refl _⟩ ⟨rfl, k⟩
theorem t_X11_goHome (d : Nat) (h : Hp_) (w : Wf h) (x1 : Nat) (hs_x1 : h_sh h x1 = some (12, 17)) (lb_x1 : 400 ≤ x1) (K : Hp_ → Prop) (k : Ci (m_X11_setsOut (d + 2) 0 0) [.ref 0, .ref x1, .int (h_i h x1 3)] (h_im h x1 4 2) (fun r3 h1 => Wf h1 ∧ h_sh h1 x1 = some (12, 17) ∧ ((¬ r3 = 0 → K h1) ∧ (r3 = 0 → Cv (m_X11_putAt (d + 0) 0 0) [.ref 0, .ref x1, .int (h_i h1 x1 3)] h1 (fun h6 => Wf h6 ∧ h_sh h6 x1 = some (12, 17) ∧ (Cv (m_X11_setFree (d + 1) 0 0) [.ref 0, .ref x1] h6 (fun h10 => Wf h10 ∧ (K h10)))))))) : Cv (m_X11_goHome (d + 3) 0 0) [.ref 0, .ref x1] h K := by
  refine Ct.of (fun _ _ _ => trivial) pn_X11 (Nat.le_of_ble_eq_true rfl) ?_
  show AW (m_X11_goHome (d + 3) 0 0) 0 0 0 [(0, .ref 0), (1, .ref x1)] [] h (kV K)
  refine aw_aload_n (i := 1) rfl d_X11_goHome_0 1 rfl ?_
  refine aw_iconst (v := 2) d_X11_goHome_1 ic_2 ?_
  refine aw_puti (k0 := 4) kc_2 (hs_x1) (Nat.le_of_ble_eq_true rfl) tw_581 d_X11_goHome_2 rfl rfl nf_i ?_
  refine aw_aload_n (i := 0) rfl d_X11_goHome_5 0 rfl ?_
  refine aw_aload_n (i := 1) rfl d_X11_goHome_6 1 rfl ?_
  refine aw_aload_n (i := 1) rfl d_X11_goHome_7 1 rfl ?_
  refine aw_geti (k0 := 3) kc_2 (hs_x1) (Nat.le_of_ble_eq_true rfl) tw_579 d_X11_goHome_8 rfl ?_
  refine aw_vi (v2 := (h_i h x1 3)) ((hi_o h x1 4 2 3 (by decide)).trans (rfl)) ?_
  refine aw_Vi 0 [.ref x1, .int (h_i h x1 3)] [] d_X11_goHome_11 (cV_X11_setsOut (d + 2) 0 0) kc_11 (ws_0 w) tw_951 rfl (rr0 (Nat.le_of_ble_eq_true rfl) (Nat.le_of_ble_eq_true rfl)) (Nat.le_of_ble_eq_true rfl) xs0 k (fun r3 h1 kk => ?_)
  obtain ⟨w2, q4, k⟩ := kk
  refine aw_if_ne (tgt := 31) d_X11_goHome_14 rfl (fun c5 => ?_) (fun c5 => ?_)
  · have k := k.1 c5
    exact aw_vret rfl d_X11_goHome_31 ⟨Nat.le_refl _, Nat.le_refl _⟩ ⟨rfl, k⟩
  · have k := k.2 c5
    refine aw_aload_n (i := 0) rfl d_X11_goHome_17 0 rfl ?_
    refine aw_aload_n (i := 1) rfl d_X11_goHome_18 1 rfl ?_
    refine aw_aload_n (i := 1) rfl d_X11_goHome_19 1 rfl ?_
    refine aw_geti (k0 := 3) kc_2 (q4) (Nat.le_of_ble_eq_true rfl) tw_579 d_X11_goHome_20 rfl ?_
    refine aw_Vv 0 [.ref x1, .int (h_i h1 x1 3)] [] d_X11_goHome_23 (cV_X11_putAt (d + 0) 0 0) kc_11 (ws_0 w2) tw_634 rfl (rr0 (Nat.le_of_ble_eq_true rfl) (Nat.le_of_ble_eq_true rfl)) (Nat.le_of_ble_eq_true rfl) xs0 k (fun h6 kk => ?_)
    obtain ⟨w7, q9, k⟩ := kk
    refine aw_aload_n (i := 0) rfl d_X11_goHome_26 0 rfl ?_
    refine aw_aload_n (i := 1) rfl d_X11_goHome_27 1 rfl ?_
    refine aw_Vv 0 [.ref x1] [] d_X11_goHome_28 (cV_X11_setFree (d + 1) 0 0) kc_11 (ws_0 w7) tw_963 rfl (rr0 (Nat.le_of_ble_eq_true rfl) (Nat.le_of_ble_eq_true rfl)) (Nat.le_of_ble_eq_true rfl) xs0 k (fun h10 kk => ?_)
    obtain ⟨w11, k⟩ := kk
    exact aw_vret rfl d_X11_goHome_31 ⟨Nat.le_refl _, Nat.le_refl _⟩ ⟨rfl, k⟩
theorem t_X11_setFree (d : Nat) (h : Hp_) (w : Wf h) (x1 : Nat) (hs_x1 : h_sh h x1 = some (12, 17)) (lb_x1 : 400 ≤ x1) (K : Hp_ → Prop) (k : Cv (m_X4_tellNoted (d + 0) 0 0) [.ref 17, .int (h_i h x1 0), .int (h_i h 0 0)] (h_im (h_im h x1 4 0) x1 7 (-1)) (fun h1 => Wf h1 ∧ (K h1))) : Cv (m_X11_setFree (d + 1) 0 0) [.ref 0, .ref x1] h K := by
  refine Ct.of (fun _ _ _ => trivial) pn_X11 (Nat.le_of_ble_eq_true rfl) ?_
  show AW (m_X11_setFree (d + 1) 0 0) 0 0 0 [(0, .ref 0), (1, .ref x1)] [] h (kV K)
  refine aw_aload_n (i := 1) rfl d_X11_setFree_0 1 rfl ?_
  refine aw_iconst (v := 0) d_X11_setFree_1 ic_0 ?_
  refine aw_puti (k0 := 4) kc_2 (hs_x1) (Nat.le_of_ble_eq_true rfl) tw_581 d_X11_setFree_2 rfl rfl nf_i ?_
  refine aw_aload_n (i := 1) rfl d_X11_setFree_5 1 rfl ?_
  refine aw_iconst (v := (-1)) d_X11_setFree_6 ic_m1 ?_
  refine aw_puti (k0 := 7) kc_2 (hs_x1) (Nat.le_of_ble_eq_true rfl) tw_587 d_X11_setFree_7 rfl rfl nf_i ?_
  refine aw_aload_n (i := 0) rfl d_X11_setFree_10 0 rfl ?_
  refine aw_getr (k0 := 9) kc_11 (ws_0 w) (Nat.le_of_ble_eq_true rfl) tw_496 d_X11_setFree_11 rfl (wr_0_9 w) ?_
  refine aw_aload_n (i := 1) rfl d_X11_setFree_14 1 rfl ?_
  refine aw_geti (k0 := 0) kc_2 (hs_x1) (Nat.le_of_ble_eq_true rfl) tw_573 d_X11_setFree_15 rfl ?_
  refine aw_vi (v2 := (h_i h x1 0)) ((hi_o (h_im h x1 4 0) x1 7 (-1) 0 (by decide)).trans ((hi_o h x1 4 0 0 (by decide)).trans (rfl))) ?_
  refine aw_aload_n (i := 0) rfl d_X11_setFree_18 0 rfl ?_
  refine aw_geti (k0 := 0) kc_11 (ws_0 w) (Nat.le_of_ble_eq_true rfl) tw_487 d_X11_setFree_19 rfl ?_
  refine aw_vi (v2 := (h_i h 0 0)) ((hi_n (h_im h x1 4 0) x1 7 (-1) 0 0 (by omega)).trans ((hi_n h x1 4 0 0 0 (by omega)).trans (rfl))) ?_
  refine aw_Vv 17 [.int (h_i h x1 0), .int (h_i h 0 0)] [] d_X11_setFree_22 (cV_X4_tellNoted (d + 0) 0 0) kc_4 (ws_17 w) tw_967 rfl (rr0 (Nat.le_of_ble_eq_true rfl) (Nat.le_of_ble_eq_true rfl)) (Nat.le_of_ble_eq_true rfl) xs0 k (fun h1 kk => ?_)
  obtain ⟨w2, k⟩ := kk
  exact aw_vret rfl d_X11_setFree_25 ⟨Nat.le_refl _, Nat.le_refl _⟩ ⟨rfl, k⟩
theorem t_X11_serveDrawn (d : Nat) (h : Hp_) (w : Wf h) (x1 : Nat) (hs_x1 : h_sh h x1 = some (12, 17)) (lb_x1 : 400 ≤ x1) (K : Hp_ → Prop) (k : Ci (m_X11_setsOut (d + 2) 0 0) [.ref 0, .ref x1, .int (h_i h x1 13)] h (fun r3 h1 => Wf h1 ∧ h_sh h1 x1 = some (12, 17) ∧ ((r3 = 0 → (¬ (h_i h1 x1 5) = (h_i h1 x1 13) → Cv (m_X11_goHome (d + 3) 0 0) [.ref 0, .ref x1] h1 (fun h7 => Wf h7 ∧ (K h7))) ∧ ((h_i h1 x1 5) = (h_i h1 x1 13) → ((h_i h1 x1 14) ≤ (h_i h1 0 0) → Cv (m_X11_goHome (d + 3) 0 0) [.ref 0, .ref x1] h1 (fun h11 => Wf h11 ∧ (K h11))) ∧ (¬ (h_i h1 x1 14) ≤ (h_i h1 0 0) → K (h_im h1 x1 7 (h_i h1 x1 14))))) ∧ (¬ r3 = 0 → K h1)))) : Cv (m_X11_serveDrawn (d + 4) 0 0) [.ref 0, .ref x1] h K := by
  refine Ct.of (fun _ _ _ => trivial) pn_X11 (Nat.le_of_ble_eq_true rfl) ?_
  show AW (m_X11_serveDrawn (d + 4) 0 0) 0 0 0 [(0, .ref 0), (1, .ref x1)] [] h (kV K)
  refine aw_aload_n (i := 0) rfl d_X11_serveDrawn_0 0 rfl ?_
  refine aw_aload_n (i := 1) rfl d_X11_serveDrawn_1 1 rfl ?_
  refine aw_aload_n (i := 1) rfl d_X11_serveDrawn_2 1 rfl ?_
  refine aw_geti (k0 := 13) kc_2 (hs_x1) (Nat.le_of_ble_eq_true rfl) tw_595 d_X11_serveDrawn_3 rfl ?_
  refine aw_Vi 0 [.ref x1, .int (h_i h x1 13)] [] d_X11_serveDrawn_6 (cV_X11_setsOut (d + 2) 0 0) kc_11 (ws_0 w) tw_951 rfl (rr0 (Nat.le_of_ble_eq_true rfl) (Nat.le_of_ble_eq_true rfl)) (Nat.le_of_ble_eq_true rfl) xs0 k (fun r3 h1 kk => ?_)
  obtain ⟨w2, q4, k⟩ := kk
  refine aw_if_eq (tgt := 13) d_X11_serveDrawn_9 rfl (fun c5 => ?_) (fun c5 => ?_)
  · have k := k.1 c5
    refine aw_aload_n (i := 1) rfl d_X11_serveDrawn_13 1 rfl ?_
    refine aw_geti (k0 := 5) kc_2 (q4) (Nat.le_of_ble_eq_true rfl) tw_583 d_X11_serveDrawn_14 rfl ?_
    refine aw_aload_n (i := 1) rfl d_X11_serveDrawn_17 1 rfl ?_
    refine aw_geti (k0 := 13) kc_2 (q4) (Nat.le_of_ble_eq_true rfl) tw_595 d_X11_serveDrawn_18 rfl ?_
    refine aw_icmp_ne (tgt := 46) d_X11_serveDrawn_21 rfl (fun c6 => ?_) (fun c6 => ?_)
    · have k := k.1 c6
      refine aw_aload_n (i := 0) rfl d_X11_serveDrawn_46 0 rfl ?_
      refine aw_aload_n (i := 1) rfl d_X11_serveDrawn_47 1 rfl ?_
      refine aw_Vv 0 [.ref x1] [] d_X11_serveDrawn_48 (cV_X11_goHome (d + 3) 0 0) kc_11 (ws_0 w2) tw_959 rfl (rr0 (Nat.le_of_ble_eq_true rfl) (Nat.le_of_ble_eq_true rfl)) (Nat.le_of_ble_eq_true rfl) xs0 k (fun h7 kk => ?_)
      obtain ⟨w8, k⟩ := kk
      exact aw_vret rfl d_X11_serveDrawn_51 ⟨Nat.le_refl _, Nat.le_refl _⟩ ⟨rfl, k⟩
    · have k := k.2 c6
      refine aw_aload_n (i := 1) rfl d_X11_serveDrawn_24 1 rfl ?_
      refine aw_geti (k0 := 14) kc_2 (q4) (Nat.le_of_ble_eq_true rfl) tw_596 d_X11_serveDrawn_25 rfl ?_
      refine aw_aload_n (i := 0) rfl d_X11_serveDrawn_28 0 rfl ?_
      refine aw_geti (k0 := 0) kc_11 (ws_0 w2) (Nat.le_of_ble_eq_true rfl) tw_487 d_X11_serveDrawn_29 rfl ?_
      refine aw_icmp_le (tgt := 46) d_X11_serveDrawn_32 rfl (fun c10 => ?_) (fun c10 => ?_)
      · have k := k.1 c10
        refine aw_aload_n (i := 0) rfl d_X11_serveDrawn_46 0 rfl ?_
        refine aw_aload_n (i := 1) rfl d_X11_serveDrawn_47 1 rfl ?_
        refine aw_Vv 0 [.ref x1] [] d_X11_serveDrawn_48 (cV_X11_goHome (d + 3) 0 0) kc_11 (ws_0 w2) tw_959 rfl (rr0 (Nat.le_of_ble_eq_true rfl) (Nat.le_of_ble_eq_true rfl)) (Nat.le_of_ble_eq_true rfl) xs0 k (fun h11 kk => ?_)
        obtain ⟨w12, k⟩ := kk
        exact aw_vret rfl d_X11_serveDrawn_51 ⟨Nat.le_refl _, Nat.le_refl _⟩ ⟨rfl, k⟩
      · have k := k.2 c10
        refine aw_aload_n (i := 1) rfl d_X11_serveDrawn_35 1 rfl ?_
        refine aw_aload_n (i := 1) rfl d_X11_serveDrawn_36 1 rfl ?_
        refine aw_geti (k0 := 14) kc_2 (q4) (Nat.le_of_ble_eq_true rfl) tw_596 d_X11_serveDrawn_37 rfl ?_
        refine aw_puti (k0 := 7) kc_2 (q4) (Nat.le_of_ble_eq_true rfl) tw_587 d_X11_serveDrawn_40 rfl rfl nf_i ?_
        refine aw_goto (tgt := 51) d_X11_serveDrawn_43 rfl ?_
        exact aw_vret rfl d_X11_serveDrawn_51 ⟨Nat.le_refl _, Nat.le_refl _⟩ ⟨rfl, k⟩
  · have k := k.2 c5
    exact aw_vret rfl d_X11_serveDrawn_12 ⟨Nat.le_refl _, Nat.le_refl _⟩ ⟨rfl, k⟩
theorem t_X11_endsStep (d : Nat) (h : Hp_) (w : Wf h) (x1 : Nat) (hs_x1 : h_sh h x1 = some (12, 17)) (lb_x1 : 400 ≤ x1) (x2 : Int32) (K : Int32 → Hp_ → Prop) (k : Ci (m_X0_stepAt (d + 0) 0 0) [.ref 12, .int (h_i h x1 8), .int (h_i h x1 9)] h (fun r3 h1 => Wf h1 ∧ h_sh h1 x1 = some (12, 17) ∧ (Ci (m_X0_kindOf (d + 0) 0 0) [.int r3] h1 (fun r7 h5 => Wf h5 ∧ h_sh h5 x1 = some (12, 17) ∧ ((¬ r7 = 3 → (¬ r7 = 2 → K 1 h5) ∧ (r7 = 2 → (x2 = 0 → K 1 h5) ∧ (¬ x2 = 0 → Ci (m_X11_waitsAtPoint (d + 2) 0 0) [.ref 0, .ref x1, .int r3] h5 (fun r14 h12 => Wf h12 ∧ ((¬ r14 = 0 → K 0 h12) ∧ (r14 = 0 → K 1 h12)))))) ∧ (r7 = 3 → Cv (m_X11_look (d + 4) 0 0) [.ref 0, .ref x1] h5 (fun h16 => Wf h16 ∧ h_sh h16 x1 = some (12, 17) ∧ ((¬ r7 = 2 → K 1 h16) ∧ (r7 = 2 → (x2 = 0 → K 1 h16) ∧ (¬ x2 = 0 → Ci (m_X11_waitsAtPoint (d + 2) 0 0) [.ref 0, .ref x1, .int r3] h16 (fun r24 h22 => Wf h22 ∧ ((¬ r24 = 0 → K 0 h22) ∧ (r24 = 0 → K 1 h22))))))))))))) : Ci (m_X11_endsStep (d + 5) 0 0) [.ref 0, .ref x1, .int x2] h K := by
  refine Ct.of (fun _ _ _ => trivial) pn_X11 (Nat.le_of_ble_eq_true rfl) ?_
  show AW (m_X11_endsStep (d + 5) 0 0) 0 0 0 [(0, .ref 0), (1, .ref x1), (2, .int x2)] [] h (kI K)
  refine aw_aload_n (i := 0) rfl d_X11_endsStep_0 0 rfl ?_
  refine aw_getr (k0 := 3) kc_11 (ws_0 w) (Nat.le_of_ble_eq_true rfl) tw_490 d_X11_endsStep_1 rfl (wr_0_3 w) ?_
  refine aw_aload_n (i := 1) rfl d_X11_endsStep_4 1 rfl ?_
  refine aw_geti (k0 := 8) kc_2 (hs_x1) (Nat.le_of_ble_eq_true rfl) tw_588 d_X11_endsStep_5 rfl ?_
  refine aw_aload_n (i := 1) rfl d_X11_endsStep_8 1 rfl ?_
  refine aw_geti (k0 := 9) kc_2 (hs_x1) (Nat.le_of_ble_eq_true rfl) tw_589 d_X11_endsStep_9 rfl ?_
  refine aw_Vi 12 [.int (h_i h x1 8), .int (h_i h x1 9)] [] d_X11_endsStep_12 (cV_X0_stepAt (d + 0) 0 0) kc_0 (ws_12 w) tw_916 rfl (rr0 (Nat.le_of_ble_eq_true rfl) (Nat.le_of_ble_eq_true rfl)) (Nat.le_of_ble_eq_true rfl) xs0 k (fun r3 h1 kk => ?_)
  obtain ⟨w2, q4, k⟩ := kk
  refine aw_istore_n (i := 3) rfl [(0, .ref 0), (1, .ref x1), (2, .int x2), (3, .int r3)] d_X11_endsStep_15 (Nat.le_of_ble_eq_true rfl) rfl rfl ?_
  refine aw_iload_n (i := 3) rfl d_X11_endsStep_16 3 rfl ?_
  refine aw_Si [.int r3] [] d_X11_endsStep_17 (cS_X0_kindOf (d + 0) 0 0) tw_920 rfl (rr0 (Nat.le_of_ble_eq_true rfl) (Nat.le_of_ble_eq_true rfl)) (Nat.le_of_ble_eq_true rfl) xs0 k (fun r7 h5 kk => ?_)
  obtain ⟨w6, q8, k⟩ := kk
  refine aw_istore [(0, .ref 0), (1, .ref x1), (2, .int x2), (3, .int r3), (4, .int r7)] d_X11_endsStep_20 (Nat.le_of_ble_eq_true rfl) rfl rfl ?_
  refine aw_iload d_X11_endsStep_22 4 rfl ?_
  refine aw_iconst (v := 3) d_X11_endsStep_24 ic_3 ?_
  refine aw_icmp_ne (tgt := 33) d_X11_endsStep_25 rfl (fun c9 => ?_) (fun c9 => ?_)
  · have k := k.1 c9
    refine aw_iload d_X11_endsStep_33 4 rfl ?_
    refine aw_iconst (v := 2) d_X11_endsStep_35 ic_2 ?_
    refine aw_icmp_ne (tgt := 52) d_X11_endsStep_36 rfl (fun c10 => ?_) (fun c10 => ?_)
    · have k := k.1 c10
      refine aw_iconst (v := 1) d_X11_endsStep_52 ic_1 ?_
      refine aw_goto (tgt := 57) d_X11_endsStep_53 rfl ?_
      exact aw_zret rfl rfl d_X11_endsStep_57 ⟨Nat.le_refl _, Nat.le_refl _⟩ ⟨_, rfl, k⟩
    · have k := k.2 c10
      refine aw_iload_n (i := 2) rfl d_X11_endsStep_39 2 rfl ?_
      refine aw_if_eq (tgt := 52) d_X11_endsStep_40 rfl (fun c11 => ?_) (fun c11 => ?_)
      · have k := k.1 c11
        refine aw_iconst (v := 1) d_X11_endsStep_52 ic_1 ?_
        refine aw_goto (tgt := 57) d_X11_endsStep_53 rfl ?_
        exact aw_zret rfl rfl d_X11_endsStep_57 ⟨Nat.le_refl _, Nat.le_refl _⟩ ⟨_, rfl, k⟩
      · have k := k.2 c11
        refine aw_aload_n (i := 0) rfl d_X11_endsStep_43 0 rfl ?_
        refine aw_aload_n (i := 1) rfl d_X11_endsStep_44 1 rfl ?_
        refine aw_iload_n (i := 3) rfl d_X11_endsStep_45 3 rfl ?_
        refine aw_Vi 0 [.ref x1, .int r3] [] d_X11_endsStep_46 (cV_X11_waitsAtPoint (d + 2) 0 0) kc_11 (ws_0 w6) tw_955 rfl (rr0 (Nat.le_of_ble_eq_true rfl) (Nat.le_of_ble_eq_true rfl)) (Nat.le_of_ble_eq_true rfl) xs0 k (fun r14 h12 kk => ?_)
        obtain ⟨w13, k⟩ := kk
        refine aw_if_ne (tgt := 56) d_X11_endsStep_49 rfl (fun c15 => ?_) (fun c15 => ?_)
        · have k := k.1 c15
          refine aw_iconst (v := 0) d_X11_endsStep_56 ic_0 ?_
          exact aw_zret rfl rfl d_X11_endsStep_57 ⟨Nat.le_refl _, Nat.le_refl _⟩ ⟨_, rfl, k⟩
        · have k := k.2 c15
          refine aw_iconst (v := 1) d_X11_endsStep_52 ic_1 ?_
          refine aw_goto (tgt := 57) d_X11_endsStep_53 rfl ?_
          exact aw_zret rfl rfl d_X11_endsStep_57 ⟨Nat.le_refl _, Nat.le_refl _⟩ ⟨_, rfl, k⟩
  · have k := k.2 c9
    refine aw_aload_n (i := 0) rfl d_X11_endsStep_28 0 rfl ?_
    refine aw_aload_n (i := 1) rfl d_X11_endsStep_29 1 rfl ?_
    refine aw_Vv 0 [.ref x1] [] d_X11_endsStep_30 (cV_X11_look (d + 4) 0 0) kc_11 (ws_0 w6) tw_1023 rfl (rr0 (Nat.le_of_ble_eq_true rfl) (Nat.le_of_ble_eq_true rfl)) (Nat.le_of_ble_eq_true rfl) xs0 k (fun h16 kk => ?_)
    obtain ⟨w17, q19, k⟩ := kk
    refine aw_iload d_X11_endsStep_33 4 rfl ?_
    refine aw_iconst (v := 2) d_X11_endsStep_35 ic_2 ?_
    refine aw_icmp_ne (tgt := 52) d_X11_endsStep_36 rfl (fun c20 => ?_) (fun c20 => ?_)
    · have k := k.1 c20
      refine aw_iconst (v := 1) d_X11_endsStep_52 ic_1 ?_
      refine aw_goto (tgt := 57) d_X11_endsStep_53 rfl ?_
      exact aw_zret rfl rfl d_X11_endsStep_57 ⟨Nat.le_refl _, Nat.le_refl _⟩ ⟨_, rfl, k⟩
    · have k := k.2 c20
      refine aw_iload_n (i := 2) rfl d_X11_endsStep_39 2 rfl ?_
      refine aw_if_eq (tgt := 52) d_X11_endsStep_40 rfl (fun c21 => ?_) (fun c21 => ?_)
      · have k := k.1 c21
        refine aw_iconst (v := 1) d_X11_endsStep_52 ic_1 ?_
        refine aw_goto (tgt := 57) d_X11_endsStep_53 rfl ?_
        exact aw_zret rfl rfl d_X11_endsStep_57 ⟨Nat.le_refl _, Nat.le_refl _⟩ ⟨_, rfl, k⟩
      · have k := k.2 c21
        refine aw_aload_n (i := 0) rfl d_X11_endsStep_43 0 rfl ?_
        refine aw_aload_n (i := 1) rfl d_X11_endsStep_44 1 rfl ?_
        refine aw_iload_n (i := 3) rfl d_X11_endsStep_45 3 rfl ?_
        refine aw_Vi 0 [.ref x1, .int r3] [] d_X11_endsStep_46 (cV_X11_waitsAtPoint (d + 2) 0 0) kc_11 (ws_0 w17) tw_955 rfl (rr0 (Nat.le_of_ble_eq_true rfl) (Nat.le_of_ble_eq_true rfl)) (Nat.le_of_ble_eq_true rfl) xs0 k (fun r24 h22 kk => ?_)
        obtain ⟨w23, k⟩ := kk
        refine aw_if_ne (tgt := 56) d_X11_endsStep_49 rfl (fun c25 => ?_) (fun c25 => ?_)
        · have k := k.1 c25
          refine aw_iconst (v := 0) d_X11_endsStep_56 ic_0 ?_
          exact aw_zret rfl rfl d_X11_endsStep_57 ⟨Nat.le_refl _, Nat.le_refl _⟩ ⟨_, rfl, k⟩
        · have k := k.2 c25
          refine aw_iconst (v := 1) d_X11_endsStep_52 ic_1 ?_
          refine aw_goto (tgt := 57) d_X11_endsStep_53 rfl ?_
          exact aw_zret rfl rfl d_X11_endsStep_57 ⟨Nat.le_refl _, Nat.le_refl _⟩ ⟨_, rfl, k⟩
theorem t_X11_goOn (d : Nat) (h : Hp_) (w : Wf h) (x1 : Nat) (hs_x1 : h_sh h x1 = some (12, 17)) (lb_x1 : 400 ≤ x1) (K : Hp_ → Prop) (k : ((h_i h x1 6) = (-1) → (¬ (h_i h x1 4) = 1 → (¬ (h_i h x1 4) = 2 → (¬ (h_i h x1 4) = 3 → K (h_im h x1 7 (-1))) ∧ ((h_i h x1 4) = 3 → Cv (m_X11_serveDrawn (d + 4) 0 0) [.ref 0, .ref x1] (h_im h x1 7 (-1)) (fun h6 => Wf h6 ∧ (K h6)))) ∧ ((h_i h x1 4) = 2 → Cv (m_X11_setFree (d + 1) 0 0) [.ref 0, .ref x1] (h_im h x1 7 (-1)) (fun h9 => Wf h9 ∧ (K h9)))) ∧ ((h_i h x1 4) = 1 → Ci (m_X11_endsStep (d + 5) 0 0) [.ref 0, .ref x1, .int 0] (h_im h x1 7 (-1)) (fun r14 h12 => Wf h12 ∧ h_sh h12 x1 = some (12, 17) ∧ ((r14 = 0 → K h12) ∧ (¬ r14 = 0 → Cv (m_X11_doSteps (d + 5) 0 0) [.ref 0, .ref x1] (h_im h12 x1 9 ((h_i h12 x1 9) + 1)) (fun h17 => Wf h17 ∧ (K h17))))))) ∧ (¬ (h_i h x1 6) = (-1) → Cv (m_X11_putAt (d + 0) 0 0) [.ref 0, .ref x1, .int (h_i h x1 6)] (h_im h x1 6 (-1)) (fun h21 => Wf h21 ∧ h_sh h21 x1 = some (12, 17) ∧ ((¬ (h_i h21 x1 4) = 1 → (¬ (h_i h21 x1 4) = 2 → (¬ (h_i h21 x1 4) = 3 → K (h_im h21 x1 7 (-1))) ∧ ((h_i h21 x1 4) = 3 → Cv (m_X11_serveDrawn (d + 4) 0 0) [.ref 0, .ref x1] (h_im h21 x1 7 (-1)) (fun h28 => Wf h28 ∧ (K h28)))) ∧ ((h_i h21 x1 4) = 2 → Cv (m_X11_setFree (d + 1) 0 0) [.ref 0, .ref x1] (h_im h21 x1 7 (-1)) (fun h31 => Wf h31 ∧ (K h31)))) ∧ ((h_i h21 x1 4) = 1 → Ci (m_X11_endsStep (d + 5) 0 0) [.ref 0, .ref x1, .int 1] (h_im h21 x1 7 (-1)) (fun r36 h34 => Wf h34 ∧ h_sh h34 x1 = some (12, 17) ∧ ((r36 = 0 → K h34) ∧ (¬ r36 = 0 → Cv (m_X11_doSteps (d + 5) 0 0) [.ref 0, .ref x1] (h_im h34 x1 9 ((h_i h34 x1 9) + 1)) (fun h39 => Wf h39 ∧ (K h39)))))))))) : Cv (m_X11_goOn (d + 6) 0 0) [.ref 0, .ref x1] h K := by
  refine Ct.of (fun _ _ _ => trivial) pn_X11 (Nat.le_of_ble_eq_true rfl) ?_
  show AW (m_X11_goOn (d + 6) 0 0) 0 0 0 [(0, .ref 0), (1, .ref x1)] [] h (kV K)
  refine aw_aload_n (i := 1) rfl d_X11_goOn_0 1 rfl ?_
  refine aw_geti (k0 := 6) kc_2 (hs_x1) (Nat.le_of_ble_eq_true rfl) tw_585 d_X11_goOn_1 rfl ?_
  refine aw_iconst (v := (-1)) d_X11_goOn_4 ic_m1 ?_
  refine aw_icmp_eq (tgt := 12) d_X11_goOn_5 rfl (fun c1 => ?_) (fun c1 => ?_)
  · have k := k.1 c1
    refine aw_iconst (v := 0) d_X11_goOn_12 ic_0 ?_
    refine aw_istore_n (i := 2) rfl [(0, .ref 0), (1, .ref x1), (2, .int 0)] d_X11_goOn_13 (Nat.le_of_ble_eq_true rfl) rfl rfl ?_
    refine aw_iload_n (i := 2) rfl d_X11_goOn_14 2 rfl ?_
    refine aw_if_eq (tgt := 34) d_X11_goOn_15 rfl (fun _ => ?_) (fun c => absurd c (by decide))
    refine aw_aload_n (i := 1) rfl d_X11_goOn_34 1 rfl ?_
    refine aw_iconst (v := (-1)) d_X11_goOn_35 ic_m1 ?_
    refine aw_puti (k0 := 7) kc_2 (hs_x1) (Nat.le_of_ble_eq_true rfl) tw_587 d_X11_goOn_36 rfl rfl nf_i ?_
    refine aw_aload_n (i := 1) rfl d_X11_goOn_39 1 rfl ?_
    refine aw_geti (k0 := 4) kc_2 (hs_x1) (Nat.le_of_ble_eq_true rfl) tw_581 d_X11_goOn_40 rfl ?_
    refine aw_vi (v2 := (h_i h x1 4)) ((hi_o h x1 7 (-1) 4 (by decide)).trans (rfl)) ?_
    refine aw_iconst (v := 1) d_X11_goOn_43 ic_1 ?_
    refine aw_icmp_ne (tgt := 74) d_X11_goOn_44 rfl (fun c3 => ?_) (fun c3 => ?_)
    · have k := k.1 c3
      refine aw_aload_n (i := 1) rfl d_X11_goOn_74 1 rfl ?_
      refine aw_geti (k0 := 4) kc_2 (hs_x1) (Nat.le_of_ble_eq_true rfl) tw_581 d_X11_goOn_75 rfl ?_
      refine aw_vi (v2 := (h_i h x1 4)) ((hi_o h x1 7 (-1) 4 (by decide)).trans (rfl)) ?_
      refine aw_iconst (v := 2) d_X11_goOn_78 ic_2 ?_
      refine aw_icmp_ne (tgt := 90) d_X11_goOn_79 rfl (fun c4 => ?_) (fun c4 => ?_)
      · have k := k.1 c4
        refine aw_aload_n (i := 1) rfl d_X11_goOn_90 1 rfl ?_
        refine aw_geti (k0 := 4) kc_2 (hs_x1) (Nat.le_of_ble_eq_true rfl) tw_581 d_X11_goOn_91 rfl ?_
        refine aw_vi (v2 := (h_i h x1 4)) ((hi_o h x1 7 (-1) 4 (by decide)).trans (rfl)) ?_
        refine aw_iconst (v := 3) d_X11_goOn_94 ic_3 ?_
        refine aw_icmp_ne (tgt := 103) d_X11_goOn_95 rfl (fun c5 => ?_) (fun c5 => ?_)
        · have k := k.1 c5
          exact aw_vret rfl d_X11_goOn_103 ⟨Nat.le_refl _, Nat.le_refl _⟩ ⟨rfl, k⟩
        · have k := k.2 c5
          refine aw_aload_n (i := 0) rfl d_X11_goOn_98 0 rfl ?_
          refine aw_aload_n (i := 1) rfl d_X11_goOn_99 1 rfl ?_
          refine aw_Vv 0 [.ref x1] [] d_X11_goOn_100 (cV_X11_serveDrawn (d + 4) 0 0) kc_11 (ws_0 w) tw_983 rfl (rr0 (Nat.le_of_ble_eq_true rfl) (Nat.le_of_ble_eq_true rfl)) (Nat.le_of_ble_eq_true rfl) xs0 k (fun h6 kk => ?_)
          obtain ⟨w7, k⟩ := kk
          exact aw_vret rfl d_X11_goOn_103 ⟨Nat.le_refl _, Nat.le_refl _⟩ ⟨rfl, k⟩
      · have k := k.2 c4
        refine aw_aload_n (i := 0) rfl d_X11_goOn_82 0 rfl ?_
        refine aw_aload_n (i := 1) rfl d_X11_goOn_83 1 rfl ?_
        refine aw_Vv 0 [.ref x1] [] d_X11_goOn_84 (cV_X11_setFree (d + 1) 0 0) kc_11 (ws_0 w) tw_963 rfl (rr0 (Nat.le_of_ble_eq_true rfl) (Nat.le_of_ble_eq_true rfl)) (Nat.le_of_ble_eq_true rfl) xs0 k (fun h9 kk => ?_)
        obtain ⟨w10, k⟩ := kk
        refine aw_goto (tgt := 103) d_X11_goOn_87 rfl ?_
        exact aw_vret rfl d_X11_goOn_103 ⟨Nat.le_refl _, Nat.le_refl _⟩ ⟨rfl, k⟩
    · have k := k.2 c3
      refine aw_aload_n (i := 0) rfl d_X11_goOn_47 0 rfl ?_
      refine aw_aload_n (i := 1) rfl d_X11_goOn_48 1 rfl ?_
      refine aw_iload_n (i := 2) rfl d_X11_goOn_49 2 rfl ?_
      refine aw_Vi 0 [.ref x1, .int 0] [] d_X11_goOn_50 (cV_X11_endsStep (d + 5) 0 0) kc_11 (ws_0 w) tw_1019 rfl (rr0 (Nat.le_of_ble_eq_true rfl) (Nat.le_of_ble_eq_true rfl)) (Nat.le_of_ble_eq_true rfl) xs0 k (fun r14 h12 kk => ?_)
      obtain ⟨w13, q15, k⟩ := kk
      refine aw_if_eq (tgt := 103) d_X11_goOn_53 rfl (fun c16 => ?_) (fun c16 => ?_)
      · have k := k.1 c16
        exact aw_vret rfl d_X11_goOn_103 ⟨Nat.le_refl _, Nat.le_refl _⟩ ⟨rfl, k⟩
      · have k := k.2 c16
        refine aw_aload_n (i := 1) rfl d_X11_goOn_56 1 rfl ?_
        refine aw_dup d_X11_goOn_57 rfl ?_
        refine aw_geti (k0 := 9) kc_2 (q15) (Nat.le_of_ble_eq_true rfl) tw_589 d_X11_goOn_58 rfl ?_
        refine aw_iconst (v := 1) d_X11_goOn_61 ic_1 ?_
        refine aw_iadd d_X11_goOn_62 ?_
        refine aw_puti (k0 := 9) kc_2 (q15) (Nat.le_of_ble_eq_true rfl) tw_589 d_X11_goOn_63 rfl rfl nf_i ?_
        refine aw_aload_n (i := 0) rfl d_X11_goOn_66 0 rfl ?_
        refine aw_aload_n (i := 1) rfl d_X11_goOn_67 1 rfl ?_
        refine aw_Vv 0 [.ref x1] [] d_X11_goOn_68 (cV_X11_doSteps (d + 5) 0 0) kc_11 (ws_0 w13) tw_931 rfl (rr0 (Nat.le_of_ble_eq_true rfl) (Nat.le_of_ble_eq_true rfl)) (Nat.le_of_ble_eq_true rfl) xs0 k (fun h17 kk => ?_)
        obtain ⟨w18, k⟩ := kk
        refine aw_goto (tgt := 103) d_X11_goOn_71 rfl ?_
        exact aw_vret rfl d_X11_goOn_103 ⟨Nat.le_refl _, Nat.le_refl _⟩ ⟨rfl, k⟩
  · have k := k.2 c1
    refine aw_iconst (v := 1) d_X11_goOn_8 ic_1 ?_
    refine aw_goto (tgt := 13) d_X11_goOn_9 rfl ?_
    refine aw_istore_n (i := 2) rfl [(0, .ref 0), (1, .ref x1), (2, .int 1)] d_X11_goOn_13 (Nat.le_of_ble_eq_true rfl) rfl rfl ?_
    refine aw_iload_n (i := 2) rfl d_X11_goOn_14 2 rfl ?_
    refine aw_if_eq (tgt := 34) d_X11_goOn_15 rfl (fun c => absurd c (by decide)) (fun _ => ?_)
    refine aw_aload_n (i := 1) rfl d_X11_goOn_18 1 rfl ?_
    refine aw_geti (k0 := 6) kc_2 (hs_x1) (Nat.le_of_ble_eq_true rfl) tw_585 d_X11_goOn_19 rfl ?_
    refine aw_istore_n (i := 3) rfl [(0, .ref 0), (1, .ref x1), (2, .int 1), (3, .int (h_i h x1 6))] d_X11_goOn_22 (Nat.le_of_ble_eq_true rfl) rfl rfl ?_
    refine aw_aload_n (i := 1) rfl d_X11_goOn_23 1 rfl ?_
    refine aw_iconst (v := (-1)) d_X11_goOn_24 ic_m1 ?_
    refine aw_puti (k0 := 6) kc_2 (hs_x1) (Nat.le_of_ble_eq_true rfl) tw_585 d_X11_goOn_25 rfl rfl nf_i ?_
    refine aw_aload_n (i := 0) rfl d_X11_goOn_28 0 rfl ?_
    refine aw_aload_n (i := 1) rfl d_X11_goOn_29 1 rfl ?_
    refine aw_iload_n (i := 3) rfl d_X11_goOn_30 3 rfl ?_
    refine aw_Vv 0 [.ref x1, .int (h_i h x1 6)] [] d_X11_goOn_31 (cV_X11_putAt (d + 0) 0 0) kc_11 (ws_0 w) tw_634 rfl (rr0 (Nat.le_of_ble_eq_true rfl) (Nat.le_of_ble_eq_true rfl)) (Nat.le_of_ble_eq_true rfl) xs0 k (fun h21 kk => ?_)
    obtain ⟨w22, q24, k⟩ := kk
    refine aw_aload_n (i := 1) rfl d_X11_goOn_34 1 rfl ?_
    refine aw_iconst (v := (-1)) d_X11_goOn_35 ic_m1 ?_
    refine aw_puti (k0 := 7) kc_2 (q24) (Nat.le_of_ble_eq_true rfl) tw_587 d_X11_goOn_36 rfl rfl nf_i ?_
    refine aw_aload_n (i := 1) rfl d_X11_goOn_39 1 rfl ?_
    refine aw_geti (k0 := 4) kc_2 (q24) (Nat.le_of_ble_eq_true rfl) tw_581 d_X11_goOn_40 rfl ?_
    refine aw_vi (v2 := (h_i h21 x1 4)) ((hi_o h21 x1 7 (-1) 4 (by decide)).trans (rfl)) ?_
    refine aw_iconst (v := 1) d_X11_goOn_43 ic_1 ?_
    refine aw_icmp_ne (tgt := 74) d_X11_goOn_44 rfl (fun c25 => ?_) (fun c25 => ?_)
    · have k := k.1 c25
      refine aw_aload_n (i := 1) rfl d_X11_goOn_74 1 rfl ?_
      refine aw_geti (k0 := 4) kc_2 (q24) (Nat.le_of_ble_eq_true rfl) tw_581 d_X11_goOn_75 rfl ?_
      refine aw_vi (v2 := (h_i h21 x1 4)) ((hi_o h21 x1 7 (-1) 4 (by decide)).trans (rfl)) ?_
      refine aw_iconst (v := 2) d_X11_goOn_78 ic_2 ?_
      refine aw_icmp_ne (tgt := 90) d_X11_goOn_79 rfl (fun c26 => ?_) (fun c26 => ?_)
      · have k := k.1 c26
        refine aw_aload_n (i := 1) rfl d_X11_goOn_90 1 rfl ?_
        refine aw_geti (k0 := 4) kc_2 (q24) (Nat.le_of_ble_eq_true rfl) tw_581 d_X11_goOn_91 rfl ?_
        refine aw_vi (v2 := (h_i h21 x1 4)) ((hi_o h21 x1 7 (-1) 4 (by decide)).trans (rfl)) ?_
        refine aw_iconst (v := 3) d_X11_goOn_94 ic_3 ?_
        refine aw_icmp_ne (tgt := 103) d_X11_goOn_95 rfl (fun c27 => ?_) (fun c27 => ?_)
        · have k := k.1 c27
          exact aw_vret rfl d_X11_goOn_103 ⟨Nat.le_refl _, Nat.le_refl _⟩ ⟨rfl, k⟩
        · have k := k.2 c27
          refine aw_aload_n (i := 0) rfl d_X11_goOn_98 0 rfl ?_
          refine aw_aload_n (i := 1) rfl d_X11_goOn_99 1 rfl ?_
          refine aw_Vv 0 [.ref x1] [] d_X11_goOn_100 (cV_X11_serveDrawn (d + 4) 0 0) kc_11 (ws_0 w22) tw_983 rfl (rr0 (Nat.le_of_ble_eq_true rfl) (Nat.le_of_ble_eq_true rfl)) (Nat.le_of_ble_eq_true rfl) xs0 k (fun h28 kk => ?_)
          obtain ⟨w29, k⟩ := kk
          exact aw_vret rfl d_X11_goOn_103 ⟨Nat.le_refl _, Nat.le_refl _⟩ ⟨rfl, k⟩
      · have k := k.2 c26
        refine aw_aload_n (i := 0) rfl d_X11_goOn_82 0 rfl ?_
        refine aw_aload_n (i := 1) rfl d_X11_goOn_83 1 rfl ?_
        refine aw_Vv 0 [.ref x1] [] d_X11_goOn_84 (cV_X11_setFree (d + 1) 0 0) kc_11 (ws_0 w22) tw_963 rfl (rr0 (Nat.le_of_ble_eq_true rfl) (Nat.le_of_ble_eq_true rfl)) (Nat.le_of_ble_eq_true rfl) xs0 k (fun h31 kk => ?_)
        obtain ⟨w32, k⟩ := kk
        refine aw_goto (tgt := 103) d_X11_goOn_87 rfl ?_
        exact aw_vret rfl d_X11_goOn_103 ⟨Nat.le_refl _, Nat.le_refl _⟩ ⟨rfl, k⟩
    · have k := k.2 c25
      refine aw_aload_n (i := 0) rfl d_X11_goOn_47 0 rfl ?_
      refine aw_aload_n (i := 1) rfl d_X11_goOn_48 1 rfl ?_
      refine aw_iload_n (i := 2) rfl d_X11_goOn_49 2 rfl ?_
      refine aw_Vi 0 [.ref x1, .int 1] [] d_X11_goOn_50 (cV_X11_endsStep (d + 5) 0 0) kc_11 (ws_0 w22) tw_1019 rfl (rr0 (Nat.le_of_ble_eq_true rfl) (Nat.le_of_ble_eq_true rfl)) (Nat.le_of_ble_eq_true rfl) xs0 k (fun r36 h34 kk => ?_)
      obtain ⟨w35, q37, k⟩ := kk
      refine aw_if_eq (tgt := 103) d_X11_goOn_53 rfl (fun c38 => ?_) (fun c38 => ?_)
      · have k := k.1 c38
        exact aw_vret rfl d_X11_goOn_103 ⟨Nat.le_refl _, Nat.le_refl _⟩ ⟨rfl, k⟩
      · have k := k.2 c38
        refine aw_aload_n (i := 1) rfl d_X11_goOn_56 1 rfl ?_
        refine aw_dup d_X11_goOn_57 rfl ?_
        refine aw_geti (k0 := 9) kc_2 (q37) (Nat.le_of_ble_eq_true rfl) tw_589 d_X11_goOn_58 rfl ?_
        refine aw_iconst (v := 1) d_X11_goOn_61 ic_1 ?_
        refine aw_iadd d_X11_goOn_62 ?_
        refine aw_puti (k0 := 9) kc_2 (q37) (Nat.le_of_ble_eq_true rfl) tw_589 d_X11_goOn_63 rfl rfl nf_i ?_
        refine aw_aload_n (i := 0) rfl d_X11_goOn_66 0 rfl ?_
        refine aw_aload_n (i := 1) rfl d_X11_goOn_67 1 rfl ?_
        refine aw_Vv 0 [.ref x1] [] d_X11_goOn_68 (cV_X11_doSteps (d + 5) 0 0) kc_11 (ws_0 w35) tw_931 rfl (rr0 (Nat.le_of_ble_eq_true rfl) (Nat.le_of_ble_eq_true rfl)) (Nat.le_of_ble_eq_true rfl) xs0 k (fun h39 kk => ?_)
        obtain ⟨w40, k⟩ := kk
        refine aw_goto (tgt := 103) d_X11_goOn_71 rfl ?_
        exact aw_vret rfl d_X11_goOn_103 ⟨Nat.le_refl _, Nat.le_refl _⟩ ⟨rfl, k⟩
theorem t_X2_openPoints (d : Nat) (h : Hp_) (x0 : Nat) (hs_x0 : h_sh h x0 = some (12, 17)) (lb_x0 : 400 ≤ x0) (K : Int32 → Hp_ → Prop) (k : K ((h_i h x0 12) - (h_i h x0 11)) h) : Ci (m_X2_openPoints (d + 0) 0 0) [.ref x0] h K := by
  refine Ct.of (fun _ _ _ => trivial) pn_X2 (Nat.le_of_ble_eq_true rfl) ?_
  show AW (m_X2_openPoints (d + 0) 0 0) 0 0 0 [(0, .ref x0)] [] h (kI K)
  refine aw_aload_n (i := 0) rfl d_X2_openPoints_0 0 rfl ?_
  refine aw_geti (k0 := 12) kc_2 (hs_x0) (Nat.le_of_ble_eq_true rfl) tw_593 d_X2_openPoints_1 rfl ?_
  refine aw_aload_n (i := 0) rfl d_X2_openPoints_4 0 rfl ?_
  refine aw_geti (k0 := 11) kc_2 (hs_x0) (Nat.le_of_ble_eq_true rfl) tw_591 d_X2_openPoints_5 rfl ?_
  refine aw_isub d_X2_openPoints_8 ?_
  exact aw_iret rfl d_X2_openPoints_9 ⟨Nat.le_refl _, Nat.le_refl _⟩ ⟨_, rfl, k⟩
theorem t_X11_drop (d : Nat) (h : Hp_) (x1 : Nat) (hs_x1 : h_sh h x1 = some (12, 17)) (lb_x1 : 400 ≤ x1) (x2 : Int32) (K : Hp_ → Prop) (k : (¬ (h_i h x1 4) = 1 → K h) ∧ ((h_i h x1 4) = 1 → Ci (m_X2_openPoints (d + 0) 0 0) [.ref x1] h (fun r4 h2 => Wf h2 ∧ h_sh h2 x1 = some (12, 17) ∧ (AW (m_X11_drop (d + 2) 0 0) 0 0 16 [(0, .ref 0), (1, .ref x1), (2, .int x2), (3, .int r4), (4, .int 0)] [] h2 (kV K))))) : Cv (m_X11_drop (d + 2) 0 0) [.ref 0, .ref x1, .int x2] h K := by
  refine Ct.of (fun _ _ _ => trivial) pn_X11 (Nat.le_of_ble_eq_true rfl) ?_
  show AW (m_X11_drop (d + 2) 0 0) 0 0 0 [(0, .ref 0), (1, .ref x1), (2, .int x2)] [] h (kV K)
  refine aw_aload_n (i := 1) rfl d_X11_drop_0 1 rfl ?_
  refine aw_geti (k0 := 4) kc_2 (hs_x1) (Nat.le_of_ble_eq_true rfl) tw_581 d_X11_drop_1 rfl ?_
  refine aw_iconst (v := 1) d_X11_drop_4 ic_1 ?_
  refine aw_icmp_ne (tgt := 35) d_X11_drop_5 rfl (fun c1 => ?_) (fun c1 => ?_)
  · have k := k.1 c1
    exact aw_vret rfl d_X11_drop_35 ⟨Nat.le_refl _, Nat.le_refl _⟩ ⟨rfl, k⟩
  · have k := k.2 c1
    refine aw_aload_n (i := 1) rfl d_X11_drop_8 1 rfl ?_
    refine aw_Vi x1 [] [] d_X11_drop_9 (cV_X2_openPoints (d + 0) 0 0) kc_2 (hs_x1) tw_979 rfl (rr0 (Nat.le_of_ble_eq_true rfl) (Nat.le_of_ble_eq_true rfl)) (Nat.le_of_ble_eq_true rfl) xs0 k (fun r4 h2 kk => ?_)
    obtain ⟨w3, q5, k⟩ := kk
    refine aw_istore_n (i := 3) rfl [(0, .ref 0), (1, .ref x1), (2, .int x2), (3, .int r4)] d_X11_drop_12 (Nat.le_of_ble_eq_true rfl) rfl rfl ?_
    refine aw_iconst (v := 0) d_X11_drop_13 ic_0 ?_
    refine aw_istore [(0, .ref 0), (1, .ref x1), (2, .int x2), (3, .int r4), (4, .int 0)] d_X11_drop_14 (Nat.le_of_ble_eq_true rfl) rfl rfl ?_
    exact k
theorem t_X11_drop_16 (d : Nat) (h : Hp_) (w : Wf h) (x1 : Nat) (hs_x1 : h_sh h x1 = some (12, 17)) (lb_x1 : 400 ≤ x1) (x2 : Int32) (x3 : Int32) (x4 : Int32) (K : Hp_ → Prop) (k : (x3 ≤ x4 → K h) ∧ (¬ x3 ≤ x4 → Cv (m_X11_settleRow (d + 1) 0 0) [.ref 0, .ref x1, .int 2, .int x2] h (fun h7 => Wf h7 ∧ h_sh h7 x1 = some (12, 17) ∧ (AW (m_X11_drop (d + 2) 0 0) 0 0 16 [(0, .ref 0), (1, .ref x1), (2, .int x2), (3, .int x3), (4, .int (x4 + 1))] [] h7 (kV K))))) : AW (m_X11_drop (d + 2) 0 0) 0 0 16 [(0, .ref 0), (1, .ref x1), (2, .int x2), (3, .int x3), (4, .int x4)] [] h (kV K) := by
  refine aw_iload d_X11_drop_16 4 rfl ?_
  refine aw_iload_n (i := 3) rfl d_X11_drop_18 3 rfl ?_
  refine aw_icmp_ge (tgt := 35) d_X11_drop_19 rfl (fun c6 => ?_) (fun c6 => ?_)
  · have k := k.1 c6
    exact aw_vret rfl d_X11_drop_35 ⟨Nat.le_refl _, Nat.le_refl _⟩ ⟨rfl, k⟩
  · have k := k.2 c6
    refine aw_aload_n (i := 0) rfl d_X11_drop_22 0 rfl ?_
    refine aw_aload_n (i := 1) rfl d_X11_drop_23 1 rfl ?_
    refine aw_iconst (v := 2) d_X11_drop_24 ic_2 ?_
    refine aw_iload_n (i := 2) rfl d_X11_drop_25 2 rfl ?_
    refine aw_Vv 0 [.ref x1, .int 2, .int x2] [] d_X11_drop_26 (cV_X11_settleRow (d + 1) 0 0) kc_11 (ws_0 w) tw_943 rfl (rr0 (Nat.le_of_ble_eq_true rfl) (Nat.le_of_ble_eq_true rfl)) (Nat.le_of_ble_eq_true rfl) xs0 k (fun h7 kk => ?_)
    obtain ⟨w8, q10, k⟩ := kk
    refine aw_iinc (v := (x4 + 1)) [(0, .ref 0), (1, .ref x1), (2, .int x2), (3, .int x3), (4, .int (x4 + 1))] d_X11_drop_29 4 rfl rfl (Nat.le_of_ble_eq_true rfl) rfl rfl ?_
    refine aw_goto (tgt := 16) d_X11_drop_32 rfl ?_
    exact k
theorem t_X11_writeRows (d : Nat) (h : Hp_) (w : Wf h) (x1 : Nat) (hs_x1 : h_sh h x1 = some (12, 17)) (lb_x1 : 400 ≤ x1) (K : Hp_ → Prop) (k : Ci (m_X0_stepsOf (d + 1) 0 0) [.ref 12, .int (h_i h x1 8)] h (fun r3 h1 => Wf h1 ∧ h_sh h1 x1 = some (12, 17) ∧ (AW (m_X11_writeRows (d + 2) 0 0) 0 0 14 [(0, .ref 0), (1, .ref x1), (2, .int r3), (3, .int 0)] [] h1 (kV K)))) : Cv (m_X11_writeRows (d + 2) 0 0) [.ref 0, .ref x1] h K := by
  refine Ct.of (fun _ _ _ => trivial) pn_X11 (Nat.le_of_ble_eq_true rfl) ?_
  show AW (m_X11_writeRows (d + 2) 0 0) 0 0 0 [(0, .ref 0), (1, .ref x1)] [] h (kV K)
  refine aw_aload_n (i := 0) rfl d_X11_writeRows_0 0 rfl ?_
  refine aw_getr (k0 := 3) kc_11 (ws_0 w) (Nat.le_of_ble_eq_true rfl) tw_490 d_X11_writeRows_1 rfl (wr_0_3 w) ?_
  refine aw_aload_n (i := 1) rfl d_X11_writeRows_4 1 rfl ?_
  refine aw_geti (k0 := 8) kc_2 (hs_x1) (Nat.le_of_ble_eq_true rfl) tw_588 d_X11_writeRows_5 rfl ?_
  refine aw_Vi 12 [.int (h_i h x1 8)] [] d_X11_writeRows_8 (cV_X0_stepsOf (d + 1) 0 0) kc_0 (ws_12 w) tw_891 rfl (rr0 (Nat.le_of_ble_eq_true rfl) (Nat.le_of_ble_eq_true rfl)) (Nat.le_of_ble_eq_true rfl) xs0 k (fun r3 h1 kk => ?_)
  obtain ⟨w2, q4, k⟩ := kk
  refine aw_istore_n (i := 2) rfl [(0, .ref 0), (1, .ref x1), (2, .int r3)] d_X11_writeRows_11 (Nat.le_of_ble_eq_true rfl) rfl rfl ?_
  refine aw_iconst (v := 0) d_X11_writeRows_12 ic_0 ?_
  refine aw_istore_n (i := 3) rfl [(0, .ref 0), (1, .ref x1), (2, .int r3), (3, .int 0)] d_X11_writeRows_13 (Nat.le_of_ble_eq_true rfl) rfl rfl ?_
  exact k
theorem t_X11_writeRows_14 (d : Nat) (h : Hp_) (w : Wf h) (x1 : Nat) (hs_x1 : h_sh h x1 = some (12, 17)) (lb_x1 : 400 ≤ x1) (x2 : Int32) (x3 : Int32) (K : Hp_ → Prop) (k : (x2 ≤ x3 → K h) ∧ (¬ x2 ≤ x3 → Ci (m_X0_stepAt (d + 0) 0 0) [.ref 12, .int (h_i h x1 8), .int x3] h (fun r8 h6 => Wf h6 ∧ h_sh h6 x1 = some (12, 17) ∧ (Ci (m_X0_kindOf (d + 0) 0 0) [.int r8] h6 (fun r12 h10 => Wf h10 ∧ h_sh h10 x1 = some (12, 17) ∧ ((¬ r12 = 2 → AW (m_X11_writeRows (d + 2) 0 0) 0 0 14 [(0, .ref 0), (1, .ref x1), (2, .int x2), (3, .int (x3 + 1))] [] h10 (kV K)) ∧ (r12 = 2 → Ci (m_X0_placeOf (d + 0) 0 0) [.int r8] h10 (fun r17 h15 => Wf h15 ∧ h_sh h15 x1 = some (12, 17) ∧ (Ci (m_X0_amountOf (d + 0) 0 0) [.int r8] h15 (fun r21 h19 => Wf h19 ∧ h_sh h19 x1 = some (12, 17) ∧ (Cv (m_X7_write (d + 0) 0 0) [.ref 16, .int (h_i h10 x1 0), .int r17, .int ((h_i h15 0 0) + r21), .int (h_i h19 0 0)] h19 (fun h23 => Wf h23 ∧ h_sh h23 x1 = some (12, 17) ∧ (AW (m_X11_writeRows (d + 2) 0 0) 0 0 14 [(0, .ref 0), (1, .ref x1), (2, .int x2), (3, .int (x3 + 1))] [] h23 (kV K)))))))))))))) : AW (m_X11_writeRows (d + 2) 0 0) 0 0 14 [(0, .ref 0), (1, .ref x1), (2, .int x2), (3, .int x3)] [] h (kV K) := by
  refine aw_iload_n (i := 3) rfl d_X11_writeRows_14 3 rfl ?_
  refine aw_iload_n (i := 2) rfl d_X11_writeRows_15 2 rfl ?_
  refine aw_icmp_ge (tgt := 78) d_X11_writeRows_16 rfl (fun c5 => ?_) (fun c5 => ?_)
  · have k := k.1 c5
    exact aw_vret rfl d_X11_writeRows_78 ⟨Nat.le_refl _, Nat.le_refl _⟩ ⟨rfl, k⟩
  · have k := k.2 c5
    refine aw_aload_n (i := 0) rfl d_X11_writeRows_19 0 rfl ?_
    refine aw_getr (k0 := 3) kc_11 (ws_0 w) (Nat.le_of_ble_eq_true rfl) tw_490 d_X11_writeRows_20 rfl (wr_0_3 w) ?_
    refine aw_aload_n (i := 1) rfl d_X11_writeRows_23 1 rfl ?_
    refine aw_geti (k0 := 8) kc_2 (hs_x1) (Nat.le_of_ble_eq_true rfl) tw_588 d_X11_writeRows_24 rfl ?_
    refine aw_iload_n (i := 3) rfl d_X11_writeRows_27 3 rfl ?_
    refine aw_Vi 12 [.int (h_i h x1 8), .int x3] [] d_X11_writeRows_28 (cV_X0_stepAt (d + 0) 0 0) kc_0 (ws_12 w) tw_916 rfl (rr0 (Nat.le_of_ble_eq_true rfl) (Nat.le_of_ble_eq_true rfl)) (Nat.le_of_ble_eq_true rfl) xs0 k (fun r8 h6 kk => ?_)
    obtain ⟨w7, q9, k⟩ := kk
    refine aw_istore [(0, .ref 0), (1, .ref x1), (2, .int x2), (3, .int x3), (4, .int r8)] d_X11_writeRows_31 (Nat.le_of_ble_eq_true rfl) rfl rfl ?_
    refine aw_iload d_X11_writeRows_33 4 rfl ?_
    refine aw_Si [.int r8] [] d_X11_writeRows_35 (cS_X0_kindOf (d + 0) 0 0) tw_920 rfl (rr0 (Nat.le_of_ble_eq_true rfl) (Nat.le_of_ble_eq_true rfl)) (Nat.le_of_ble_eq_true rfl) xs0 k (fun r12 h10 kk => ?_)
    obtain ⟨w11, q13, k⟩ := kk
    refine aw_iconst (v := 2) d_X11_writeRows_38 ic_2 ?_
    refine aw_icmp_ne (tgt := 72) d_X11_writeRows_39 rfl (fun c14 => ?_) (fun c14 => ?_)
    · have k := k.1 c14
      refine aw_iinc (v := (x3 + 1)) [(0, .ref 0), (1, .ref x1), (2, .int x2), (3, .int (x3 + 1)), (4, .int r8)] d_X11_writeRows_72 3 rfl rfl (Nat.le_of_ble_eq_true rfl) rfl rfl ?_
      refine aw_goto (tgt := 14) d_X11_writeRows_75 rfl ?_
      exact aw_lvp [0, 1, 2, 3] [(0, .ref 0), (1, .ref x1), (2, .int x2), (3, .int (x3 + 1))] rfl k
    · have k := k.2 c14
      refine aw_aload_n (i := 0) rfl d_X11_writeRows_42 0 rfl ?_
      refine aw_getr (k0 := 8) kc_11 (ws_0 w11) (Nat.le_of_ble_eq_true rfl) tw_495 d_X11_writeRows_43 rfl (wr_0_8 w11) ?_
      refine aw_aload_n (i := 1) rfl d_X11_writeRows_46 1 rfl ?_
      refine aw_geti (k0 := 0) kc_2 (q13) (Nat.le_of_ble_eq_true rfl) tw_573 d_X11_writeRows_47 rfl ?_
      refine aw_iload d_X11_writeRows_50 4 rfl ?_
      refine aw_Si [.int r8] [.int (h_i h10 x1 0), .ref 16] d_X11_writeRows_52 (cS_X0_placeOf (d + 0) 0 0) tw_921 rfl (rr0 (Nat.le_of_ble_eq_true rfl) (Nat.le_of_ble_eq_true rfl)) (Nat.le_of_ble_eq_true rfl) xs0 k (fun r17 h15 kk => ?_)
      obtain ⟨w16, q18, k⟩ := kk
      refine aw_aload_n (i := 0) rfl d_X11_writeRows_55 0 rfl ?_
      refine aw_geti (k0 := 0) kc_11 (ws_0 w16) (Nat.le_of_ble_eq_true rfl) tw_487 d_X11_writeRows_56 rfl ?_
      refine aw_iload d_X11_writeRows_59 4 rfl ?_
      refine aw_Si [.int r8] [.int (h_i h15 0 0), .int r17, .int (h_i h10 x1 0), .ref 16] d_X11_writeRows_61 (cS_X0_amountOf (d + 0) 0 0) tw_924 rfl (rr0 (Nat.le_of_ble_eq_true rfl) (Nat.le_of_ble_eq_true rfl)) (Nat.le_of_ble_eq_true rfl) xs0 k (fun r21 h19 kk => ?_)
      obtain ⟨w20, q22, k⟩ := kk
      refine aw_iadd d_X11_writeRows_64 ?_
      refine aw_aload_n (i := 0) rfl d_X11_writeRows_65 0 rfl ?_
      refine aw_geti (k0 := 0) kc_11 (ws_0 w20) (Nat.le_of_ble_eq_true rfl) tw_487 d_X11_writeRows_66 rfl ?_
      refine aw_Vv 16 [.int (h_i h10 x1 0), .int r17, .int ((h_i h15 0 0) + r21), .int (h_i h19 0 0)] [] d_X11_writeRows_69 (cV_X7_write (d + 0) 0 0) kc_7 (ws_16 w20) tw_927 rfl (rr0 (Nat.le_of_ble_eq_true rfl) (Nat.le_of_ble_eq_true rfl)) (Nat.le_of_ble_eq_true rfl) xs0 k (fun h23 kk => ?_)
      obtain ⟨w24, q26, k⟩ := kk
      refine aw_iinc (v := (x3 + 1)) [(0, .ref 0), (1, .ref x1), (2, .int x2), (3, .int (x3 + 1)), (4, .int r8)] d_X11_writeRows_72 3 rfl rfl (Nat.le_of_ble_eq_true rfl) rfl rfl ?_
      refine aw_goto (tgt := 14) d_X11_writeRows_75 rfl ?_
      exact aw_lvp [0, 1, 2, 3] [(0, .ref 0), (1, .ref x1), (2, .int x2), (3, .int (x3 + 1))] rfl k
theorem t_X7_write (d : Nat) (h : Hp_) (w : Wf h) (x1 : Int32) (x2 : Int32) (x3 : Int32) (x4 : Int32) (K : Hp_ → Prop) (k : (400 ≤ (h_i h 16 7) → K h) ∧ (¬ 400 ≤ (h_i h 16 7) → vp_in (h_i h 16 7) 400 ∧ (vp_in (h_i h 16 7) 400 ∧ (vp_in (h_i h 16 7) 400 ∧ (vp_in (h_i h 16 7) 400 ∧ (K (h_im (h_im (h_im (h_im (h_im h 47 ((h_i h 16 7) : Int32).toNatClampNeg x1) 48 ((h_i h 16 7) : Int32).toNatClampNeg x2) 49 ((h_i h 16 7) : Int32).toNatClampNeg x3) 50 ((h_i h 16 7) : Int32).toNatClampNeg x4) 16 7 ((h_i h 16 7) + 1)))))))) : Cv (m_X7_write (d + 0) 0 0) [.ref 16, .int x1, .int x2, .int x3, .int x4] h K := by
  refine Ct.of (fun _ _ _ => trivial) pn_X7 (Nat.le_of_ble_eq_true rfl) ?_
  show AW (m_X7_write (d + 0) 0 0) 0 0 0 [(0, .ref 16), (1, .int x1), (2, .int x2), (3, .int x3), (4, .int x4)] [] h (kV K)
  refine aw_aload_n (i := 0) rfl d_X7_write_0 0 rfl ?_
  refine aw_geti (k0 := 7) kc_7 (ws_16 w) (Nat.le_of_ble_eq_true rfl) tw_159 d_X7_write_1 rfl ?_
  refine aw_sipush (v := 400) d_X7_write_4 is_400 ?_
  refine aw_icmp_ge (tgt := 61) d_X7_write_7 rfl (fun c1 => ?_) (fun c1 => ?_)
  · have k := k.1 c1
    exact aw_vret rfl d_X7_write_61 ⟨Nat.le_refl _, Nat.le_refl _⟩ ⟨rfl, k⟩
  · have k := k.2 c1
    refine aw_aload_n (i := 0) rfl d_X7_write_10 0 rfl ?_
    refine aw_getr (k0 := 0) kc_7 (ws_16 w) (Nat.le_of_ble_eq_true rfl) tw_152 d_X7_write_11 rfl (wr_16_0 w) ?_
    refine aw_aload_n (i := 0) rfl d_X7_write_14 0 rfl ?_
    refine aw_geti (k0 := 7) kc_7 (ws_16 w) (Nat.le_of_ble_eq_true rfl) tw_159 d_X7_write_15 rfl ?_
    refine aw_iload_n (i := 1) rfl d_X7_write_18 1 rfl ?_
    obtain ⟨b2, k⟩ := k
    refine aw_iast (ws_47 w) b2 d_X7_write_19 ?_
    refine aw_aload_n (i := 0) rfl d_X7_write_20 0 rfl ?_
    refine aw_getr (k0 := 1) kc_7 (ws_16 w) (Nat.le_of_ble_eq_true rfl) tw_153 d_X7_write_21 rfl (wr_16_1 w) ?_
    refine aw_aload_n (i := 0) rfl d_X7_write_24 0 rfl ?_
    refine aw_geti (k0 := 7) kc_7 (ws_16 w) (Nat.le_of_ble_eq_true rfl) tw_159 d_X7_write_25 rfl ?_
    refine aw_vi (v2 := (h_i h 16 7)) (rfl) ?_
    refine aw_iload_n (i := 2) rfl d_X7_write_28 2 rfl ?_
    obtain ⟨b3, k⟩ := k
    refine aw_iast (ws_48 w) b3 d_X7_write_29 ?_
    refine aw_aload_n (i := 0) rfl d_X7_write_30 0 rfl ?_
    refine aw_getr (k0 := 2) kc_7 (ws_16 w) (Nat.le_of_ble_eq_true rfl) tw_154 d_X7_write_31 rfl (wr_16_2 w) ?_
    refine aw_aload_n (i := 0) rfl d_X7_write_34 0 rfl ?_
    refine aw_geti (k0 := 7) kc_7 (ws_16 w) (Nat.le_of_ble_eq_true rfl) tw_159 d_X7_write_35 rfl ?_
    refine aw_vi (v2 := (h_i h 16 7)) (rfl) ?_
    refine aw_iload_n (i := 3) rfl d_X7_write_38 3 rfl ?_
    obtain ⟨b4, k⟩ := k
    refine aw_iast (ws_49 w) b4 d_X7_write_39 ?_
    refine aw_aload_n (i := 0) rfl d_X7_write_40 0 rfl ?_
    refine aw_getr (k0 := 3) kc_7 (ws_16 w) (Nat.le_of_ble_eq_true rfl) tw_155 d_X7_write_41 rfl (wr_16_3 w) ?_
    refine aw_aload_n (i := 0) rfl d_X7_write_44 0 rfl ?_
    refine aw_geti (k0 := 7) kc_7 (ws_16 w) (Nat.le_of_ble_eq_true rfl) tw_159 d_X7_write_45 rfl ?_
    refine aw_vi (v2 := (h_i h 16 7)) (rfl) ?_
    refine aw_iload d_X7_write_48 4 rfl ?_
    obtain ⟨b5, k⟩ := k
    refine aw_iast (ws_50 w) b5 d_X7_write_50 ?_
    refine aw_aload_n (i := 0) rfl d_X7_write_51 0 rfl ?_
    refine aw_dup d_X7_write_52 rfl ?_
    refine aw_geti (k0 := 7) kc_7 (ws_16 w) (Nat.le_of_ble_eq_true rfl) tw_159 d_X7_write_53 rfl ?_
    refine aw_vi (v2 := (h_i h 16 7)) (rfl) ?_
    refine aw_iconst (v := 1) d_X7_write_56 ic_1 ?_
    refine aw_iadd d_X7_write_57 ?_
    refine aw_puti (k0 := 7) kc_7 (ws_16 w) (Nat.le_of_ble_eq_true rfl) tw_159 d_X7_write_58 rfl rfl nf_i ?_
    exact aw_vret rfl d_X7_write_61 ⟨Nat.le_refl _, Nat.le_refl _⟩ ⟨rfl, k⟩
theorem t_X7_hasRoom (d : Nat) (h : Hp_) (w : Wf h) (x1 : Int32) (K : Int32 → Hp_ → Prop) (k : (400 < ((h_i h 16 7) + x1) → K 0 h) ∧ (¬ 400 < ((h_i h 16 7) + x1) → K 1 h)) : Ci (m_X7_hasRoom (d + 0) 0 0) [.ref 16, .int x1] h K := by
  refine Ct.of (fun _ _ _ => trivial) pn_X7 (Nat.le_of_ble_eq_true rfl) ?_
  show AW (m_X7_hasRoom (d + 0) 0 0) 0 0 0 [(0, .ref 16), (1, .int x1)] [] h (kI K)
  refine aw_aload_n (i := 0) rfl d_X7_hasRoom_0 0 rfl ?_
  refine aw_geti (k0 := 7) kc_7 (ws_16 w) (Nat.le_of_ble_eq_true rfl) tw_159 d_X7_hasRoom_1 rfl ?_
  refine aw_iload_n (i := 1) rfl d_X7_hasRoom_4 1 rfl ?_
  refine aw_iadd d_X7_hasRoom_5 ?_
  refine aw_sipush (v := 400) d_X7_hasRoom_6 is_400 ?_
  refine aw_icmp_gt (tgt := 16) d_X7_hasRoom_9 rfl (fun c1 => ?_) (fun c1 => ?_)
  · have k := k.1 c1
    refine aw_iconst (v := 0) d_X7_hasRoom_16 ic_0 ?_
    exact aw_zret rfl rfl d_X7_hasRoom_17 ⟨Nat.le_refl _, Nat.le_refl _⟩ ⟨_, rfl, k⟩
  · have k := k.2 c1
    refine aw_iconst (v := 1) d_X7_hasRoom_12 ic_1 ?_
    refine aw_goto (tgt := 17) d_X7_hasRoom_13 rfl ?_
    exact aw_zret rfl rfl d_X7_hasRoom_17 ⟨Nat.le_refl _, Nat.le_refl _⟩ ⟨_, rfl, k⟩
theorem t_X11_begin (d : Nat) (h : Hp_) (w : Wf h) (x1 : Int32) (x2 : Int32) (K : Int32 → Hp_ → Prop) (k : Cr (m_X11_manOf (d + 1) 0 0) [.ref 0, .int x1] h (fun o5 h1 => Wf h1 ∧ ((o5 = none → K 0 h1) ∧ (∀ b4, o5 = some b4 → h_sh h1 b4 = some (12, 17) ∧ 400 ≤ b4 ∧ (Ci (m_X0_has (d + 0) 0 0) [.ref 12, .int x2] h1 (fun r10 h8 => Wf h8 ∧ h_sh h8 b4 = some (12, 17) ∧ ((r10 = 0 → K 0 h8) ∧ (¬ r10 = 0 → (¬ (h_i h8 b4 4) = 0 → K 0 h8) ∧ ((h_i h8 b4 4) = 0 → Ci (m_X0_pointsOf (d + 1) 0 0) [.ref 12, .int x2] h8 (fun r16 h14 => Wf h14 ∧ h_sh h14 b4 = some (12, 17) ∧ (Ci (m_X7_hasRoom (d + 0) 0 0) [.ref 16, .int r16] h14 (fun r20 h18 => Wf h18 ∧ h_sh h18 b4 = some (12, 17) ∧ ((¬ r20 = 0 → Cv (m_X11_writeRows (d + 2) 0 0) [.ref 0, .ref b4] (h_im (h_im (h_im (h_im (h_im h18 b4 4 1) b4 8 x2) b4 9 0) b4 10 (h_i h18 0 0)) b4 11 (h_i h18 16 7)) (fun h23 => Wf h23 ∧ h_sh h23 b4 = some (12, 17) ∧ (Cv (m_X11_doSteps (d + 5) 0 0) [.ref 0, .ref b4] (h_im h23 b4 12 (h_i h23 16 7)) (fun h27 => Wf h27 ∧ (K 1 h27))))) ∧ (r20 = 0 → K 0 h18)))))))))))))) : Ci (m_X11_begin (d + 6) 0 0) [.ref 0, .int x1, .int x2] h K := by
  refine Ct.of (fun _ _ _ => trivial) pn_X11 (Nat.le_of_ble_eq_true rfl) ?_
  show AW (m_X11_begin (d + 6) 0 0) 0 0 0 [(0, .ref 0), (1, .int x1), (2, .int x2)] [] h (kI K)
  refine aw_aload_n (i := 0) rfl d_X11_begin_0 0 rfl ?_
  refine aw_iload_n (i := 1) rfl d_X11_begin_1 1 rfl ?_
  refine aw_Vr 0 [.int x1] [] d_X11_begin_2 (cV_X11_manOf (d + 1) 0 0) kc_11 (ws_0 w) tw_904 rfl (rr0 (Nat.le_of_ble_eq_true rfl) (Nat.le_of_ble_eq_true rfl)) (Nat.le_of_ble_eq_true rfl) xs0 k (fun h1 kk => ?_) (fun b4 h1 kk => ?_)
  · obtain ⟨w2, k⟩ := kk
    have k := k.1 rfl
    refine aw_astore_nN (i := 3) rfl [(0, .ref 0), (1, .int x1), (2, .int x2), (3, .null)] d_X11_begin_5 (Nat.le_of_ble_eq_true rfl) rfl rfl ?_
    refine aw_aload_nN (i := 3) rfl d_X11_begin_6 3 rfl ?_
    refine aw_ifnullN (tgt := 46) d_X11_begin_7 rfl ?_
    refine aw_iconst (v := 0) d_X11_begin_46 ic_0 ?_
    exact aw_zret rfl rfl d_X11_begin_47 ⟨Nat.le_refl _, Nat.le_refl _⟩ ⟨_, rfl, k⟩
  · obtain ⟨w2, k⟩ := kk
    obtain ⟨q6, l7, k⟩ := k.2 b4 rfl
    refine aw_astore_n (i := 3) rfl [(0, .ref 0), (1, .int x1), (2, .int x2), (3, .ref b4)] d_X11_begin_5 (Nat.le_of_ble_eq_true rfl) rfl rfl ?_
    refine aw_aload_n (i := 3) rfl d_X11_begin_6 3 rfl ?_
    refine aw_ifnull d_X11_begin_7 ?_
    refine aw_aload_n (i := 0) rfl d_X11_begin_10 0 rfl ?_
    refine aw_getr (k0 := 3) kc_11 (ws_0 w2) (Nat.le_of_ble_eq_true rfl) tw_490 d_X11_begin_11 rfl (wr_0_3 w2) ?_
    refine aw_iload_n (i := 2) rfl d_X11_begin_14 2 rfl ?_
    refine aw_Vi 12 [.int x2] [] d_X11_begin_15 (cV_X0_has (d + 0) 0 0) kc_0 (ws_12 w2) tw_887 rfl (rr0 (Nat.le_of_ble_eq_true rfl) (Nat.le_of_ble_eq_true rfl)) (Nat.le_of_ble_eq_true rfl) xs0 k (fun r10 h8 kk => ?_)
    obtain ⟨w9, q11, k⟩ := kk
    refine aw_if_eq (tgt := 46) d_X11_begin_18 rfl (fun c12 => ?_) (fun c12 => ?_)
    · have k := k.1 c12
      refine aw_iconst (v := 0) d_X11_begin_46 ic_0 ?_
      exact aw_zret rfl rfl d_X11_begin_47 ⟨Nat.le_refl _, Nat.le_refl _⟩ ⟨_, rfl, k⟩
    · have k := k.2 c12
      refine aw_aload_n (i := 3) rfl d_X11_begin_21 3 rfl ?_
      refine aw_geti (k0 := 4) kc_2 (q11) (Nat.le_of_ble_eq_true rfl) tw_581 d_X11_begin_22 rfl ?_
      refine aw_if_ne (tgt := 46) d_X11_begin_25 rfl (fun c13 => ?_) (fun c13 => ?_)
      · have k := k.1 c13
        refine aw_iconst (v := 0) d_X11_begin_46 ic_0 ?_
        exact aw_zret rfl rfl d_X11_begin_47 ⟨Nat.le_refl _, Nat.le_refl _⟩ ⟨_, rfl, k⟩
      · have k := k.2 c13
        refine aw_aload_n (i := 0) rfl d_X11_begin_28 0 rfl ?_
        refine aw_getr (k0 := 8) kc_11 (ws_0 w9) (Nat.le_of_ble_eq_true rfl) tw_495 d_X11_begin_29 rfl (wr_0_8 w9) ?_
        refine aw_aload_n (i := 0) rfl d_X11_begin_32 0 rfl ?_
        refine aw_getr (k0 := 3) kc_11 (ws_0 w9) (Nat.le_of_ble_eq_true rfl) tw_490 d_X11_begin_33 rfl (wr_0_3 w9) ?_
        refine aw_iload_n (i := 2) rfl d_X11_begin_36 2 rfl ?_
        refine aw_Vi 12 [.int x2] [.ref 16] d_X11_begin_37 (cV_X0_pointsOf (d + 1) 0 0) kc_0 (ws_12 w9) tw_896 rfl (rr0 (Nat.le_of_ble_eq_true rfl) (Nat.le_of_ble_eq_true rfl)) (Nat.le_of_ble_eq_true rfl) xs0 k (fun r16 h14 kk => ?_)
        obtain ⟨w15, q17, k⟩ := kk
        refine aw_Vi 16 [.int r16] [] d_X11_begin_40 (cV_X7_hasRoom (d + 0) 0 0) kc_7 (ws_16 w15) tw_908 rfl (rr0 (Nat.le_of_ble_eq_true rfl) (Nat.le_of_ble_eq_true rfl)) (Nat.le_of_ble_eq_true rfl) xs0 k (fun r20 h18 kk => ?_)
        obtain ⟨w19, q21, k⟩ := kk
        refine aw_if_ne (tgt := 48) d_X11_begin_43 rfl (fun c22 => ?_) (fun c22 => ?_)
        · have k := k.1 c22
          refine aw_aload_n (i := 3) rfl d_X11_begin_48 3 rfl ?_
          refine aw_iconst (v := 1) d_X11_begin_49 ic_1 ?_
          refine aw_puti (k0 := 4) kc_2 (q21) (Nat.le_of_ble_eq_true rfl) tw_581 d_X11_begin_50 rfl rfl nf_i ?_
          refine aw_aload_n (i := 3) rfl d_X11_begin_53 3 rfl ?_
          refine aw_iload_n (i := 2) rfl d_X11_begin_54 2 rfl ?_
          refine aw_puti (k0 := 8) kc_2 (q21) (Nat.le_of_ble_eq_true rfl) tw_588 d_X11_begin_55 rfl rfl nf_i ?_
          refine aw_aload_n (i := 3) rfl d_X11_begin_58 3 rfl ?_
          refine aw_iconst (v := 0) d_X11_begin_59 ic_0 ?_
          refine aw_puti (k0 := 9) kc_2 (q21) (Nat.le_of_ble_eq_true rfl) tw_589 d_X11_begin_60 rfl rfl nf_i ?_
          refine aw_aload_n (i := 3) rfl d_X11_begin_63 3 rfl ?_
          refine aw_aload_n (i := 0) rfl d_X11_begin_64 0 rfl ?_
          refine aw_geti (k0 := 0) kc_11 (ws_0 w19) (Nat.le_of_ble_eq_true rfl) tw_487 d_X11_begin_65 rfl ?_
          refine aw_vi (v2 := (h_i h18 0 0)) ((hi_n (h_im (h_im h18 b4 4 1) b4 8 x2) b4 9 0 0 0 (by omega)).trans ((hi_n (h_im h18 b4 4 1) b4 8 x2 0 0 (by omega)).trans ((hi_n h18 b4 4 1 0 0 (by omega)).trans (rfl)))) ?_
          refine aw_puti (k0 := 10) kc_2 (q21) (Nat.le_of_ble_eq_true rfl) tw_590 d_X11_begin_68 rfl rfl nf_i ?_
          refine aw_aload_n (i := 3) rfl d_X11_begin_71 3 rfl ?_
          refine aw_aload_n (i := 0) rfl d_X11_begin_72 0 rfl ?_
          refine aw_getr (k0 := 8) kc_11 (ws_0 w19) (Nat.le_of_ble_eq_true rfl) tw_495 d_X11_begin_73 rfl (wr_0_8 w19) ?_
          refine aw_geti (k0 := 7) kc_7 (ws_16 w19) (Nat.le_of_ble_eq_true rfl) tw_160 d_X11_begin_76 rfl ?_
          refine aw_vi (v2 := (h_i h18 16 7)) ((hi_n (h_im (h_im (h_im h18 b4 4 1) b4 8 x2) b4 9 0) b4 10 (h_i h18 0 0) 16 7 (by omega)).trans ((hi_n (h_im (h_im h18 b4 4 1) b4 8 x2) b4 9 0 16 7 (by omega)).trans ((hi_n (h_im h18 b4 4 1) b4 8 x2 16 7 (by omega)).trans ((hi_n h18 b4 4 1 16 7 (by omega)).trans (rfl))))) ?_
          refine aw_puti (k0 := 11) kc_2 (q21) (Nat.le_of_ble_eq_true rfl) tw_592 d_X11_begin_79 rfl rfl nf_i ?_
          refine aw_aload_n (i := 0) rfl d_X11_begin_82 0 rfl ?_
          refine aw_aload_n (i := 3) rfl d_X11_begin_83 3 rfl ?_
          refine aw_Vv 0 [.ref b4] [] d_X11_begin_84 (cV_X11_writeRows (d + 2) 0 0) kc_11 (ws_0 w19) tw_912 rfl (rr0 (Nat.le_of_ble_eq_true rfl) (Nat.le_of_ble_eq_true rfl)) (Nat.le_of_ble_eq_true rfl) xs0 k (fun h23 kk => ?_)
          obtain ⟨w24, q26, k⟩ := kk
          refine aw_aload_n (i := 3) rfl d_X11_begin_87 3 rfl ?_
          refine aw_aload_n (i := 0) rfl d_X11_begin_88 0 rfl ?_
          refine aw_getr (k0 := 8) kc_11 (ws_0 w24) (Nat.le_of_ble_eq_true rfl) tw_495 d_X11_begin_89 rfl (wr_0_8 w24) ?_
          refine aw_geti (k0 := 7) kc_7 (ws_16 w24) (Nat.le_of_ble_eq_true rfl) tw_160 d_X11_begin_92 rfl ?_
          refine aw_puti (k0 := 12) kc_2 (q26) (Nat.le_of_ble_eq_true rfl) tw_594 d_X11_begin_95 rfl rfl nf_i ?_
          refine aw_aload_n (i := 0) rfl d_X11_begin_98 0 rfl ?_
          refine aw_aload_n (i := 3) rfl d_X11_begin_99 3 rfl ?_
          refine aw_Vv 0 [.ref b4] [] d_X11_begin_100 (cV_X11_doSteps (d + 5) 0 0) kc_11 (ws_0 w24) tw_931 rfl (rr0 (Nat.le_of_ble_eq_true rfl) (Nat.le_of_ble_eq_true rfl)) (Nat.le_of_ble_eq_true rfl) xs0 k (fun h27 kk => ?_)
          obtain ⟨w28, k⟩ := kk
          refine aw_iconst (v := 1) d_X11_begin_103 ic_1 ?_
          exact aw_zret rfl rfl d_X11_begin_104 ⟨Nat.le_refl _, Nat.le_refl _⟩ ⟨_, rfl, k⟩
        · have k := k.2 c22
          refine aw_iconst (v := 0) d_X11_begin_46 ic_0 ?_
          exact aw_zret rfl rfl d_X11_begin_47 ⟨Nat.le_refl _, Nat.le_refl _⟩ ⟨_, rfl, k⟩
theorem t_X11_draw (d : Nat) (h : Hp_) (w : Wf h) (x1 : Int32) (x2 : Int32) (x3 : Int32) (K : Int32 → Hp_ → Prop) (k : Cr (m_X11_manOf (d + 1) 0 0) [.ref 0, .int x1] h (fun o5 h1 => Wf h1 ∧ ((o5 = none → K 0 h1) ∧ (∀ b4, o5 = some b4 → h_sh h1 b4 = some (12, 17) ∧ 400 ≤ b4 ∧ (Ci (m_X11_isPlace (d + 0) 0 0) [.int x2] h1 (fun r10 h8 => Wf h8 ∧ h_sh h8 b4 = some (12, 17) ∧ ((r10 = 0 → K 0 h8) ∧ (¬ r10 = 0 → (((h_i h8 0 0) ≤ x3 ∧ x3 ≤ 30000) → Ci (m_X9_minutes (d + 1) 0 0) [.ref 10, .int (h_i h8 b4 3), .int x2] h8 (fun r18 h16 => Wf h16 ∧ h_sh h16 b4 = some (12, 17) ∧ ((r18 = (-1) → K 0 h16) ∧ (¬ r18 = (-1) → ((h_i h16 b4 4) = 3 → K 0 h16) ∧ (¬ (h_i h16 b4 4) = 3 → (¬ (h_i h16 b4 4) = 4 → Cv (m_X11_drop (d + 2) 0 0) [.ref 0, .ref b4, .int 3] h16 (fun h23 => Wf h23 ∧ h_sh h23 b4 = some (12, 17) ∧ ((¬ (h_i h23 b4 6) = (-1) → K 1 (h_im (h_im (h_im h23 b4 4 3) b4 13 x2) b4 14 x3)) ∧ ((h_i h23 b4 6) = (-1) → Cv (m_X11_serveDrawn (d + 4) 0 0) [.ref 0, .ref b4] (h_im (h_im (h_im (h_im h23 b4 4 3) b4 13 x2) b4 14 x3) b4 7 (-1)) (fun h28 => Wf h28 ∧ (K 1 h28)))))) ∧ ((h_i h16 b4 4) = 4 → K 0 h16)))))) ∧ (¬ ((h_i h8 0 0) ≤ x3 ∧ x3 ≤ 30000) → K 0 h8))))))))) : Ci (m_X11_draw (d + 5) 0 0) [.ref 0, .int x1, .int x2, .int x3] h K := by
  refine Ct.of (fun _ _ _ => trivial) pn_X11 (Nat.le_of_ble_eq_true rfl) ?_
  show AW (m_X11_draw (d + 5) 0 0) 0 0 0 [(0, .ref 0), (1, .int x1), (2, .int x2), (3, .int x3)] [] h (kI K)
  refine aw_aload_n (i := 0) rfl d_X11_draw_0 0 rfl ?_
  refine aw_iload_n (i := 1) rfl d_X11_draw_1 1 rfl ?_
  refine aw_Vr 0 [.int x1] [] d_X11_draw_2 (cV_X11_manOf (d + 1) 0 0) kc_11 (ws_0 w) tw_904 rfl (rr0 (Nat.le_of_ble_eq_true rfl) (Nat.le_of_ble_eq_true rfl)) (Nat.le_of_ble_eq_true rfl) xs0 k (fun h1 kk => ?_) (fun b4 h1 kk => ?_)
  · obtain ⟨w2, k⟩ := kk
    have k := k.1 rfl
    refine aw_astoreN [(0, .ref 0), (1, .int x1), (2, .int x2), (3, .int x3), (4, .null)] d_X11_draw_5 (Nat.le_of_ble_eq_true rfl) rfl rfl ?_
    refine aw_aloadN d_X11_draw_7 4 rfl ?_
    refine aw_ifnullN (tgt := 33) d_X11_draw_9 rfl ?_
    refine aw_iconst (v := 0) d_X11_draw_33 ic_0 ?_
    exact aw_zret rfl rfl d_X11_draw_34 ⟨Nat.le_refl _, Nat.le_refl _⟩ ⟨_, rfl, k⟩
  · obtain ⟨w2, k⟩ := kk
    obtain ⟨q6, l7, k⟩ := k.2 b4 rfl
    refine aw_astore [(0, .ref 0), (1, .int x1), (2, .int x2), (3, .int x3), (4, .ref b4)] d_X11_draw_5 (Nat.le_of_ble_eq_true rfl) rfl rfl ?_
    refine aw_aload d_X11_draw_7 4 rfl ?_
    refine aw_ifnull d_X11_draw_9 ?_
    refine aw_iload_n (i := 2) rfl d_X11_draw_12 2 rfl ?_
    refine aw_Si [.int x2] [] d_X11_draw_13 (cS_X11_isPlace (d + 0) 0 0) tw_540 rfl (rr0 (Nat.le_of_ble_eq_true rfl) (Nat.le_of_ble_eq_true rfl)) (Nat.le_of_ble_eq_true rfl) xs0 k (fun r10 h8 kk => ?_)
    obtain ⟨w9, q11, k⟩ := kk
    refine aw_if_eq (tgt := 33) d_X11_draw_16 rfl (fun c12 => ?_) (fun c12 => ?_)
    · have k := k.1 c12
      refine aw_iconst (v := 0) d_X11_draw_33 ic_0 ?_
      exact aw_zret rfl rfl d_X11_draw_34 ⟨Nat.le_refl _, Nat.le_refl _⟩ ⟨_, rfl, k⟩
    · have k := k.2 c12
      refine aw_iload_n (i := 3) rfl d_X11_draw_19 3 rfl ?_
      refine aw_aload_n (i := 0) rfl d_X11_draw_20 0 rfl ?_
      refine aw_geti (k0 := 0) kc_11 (ws_0 w9) (Nat.le_of_ble_eq_true rfl) tw_487 d_X11_draw_21 rfl ?_
      refine aw_sipush (v := 30000) d_X11_draw_24 is_30000 ?_
      refine aw_Si [.int x3, .int (h_i h8 0 0), .int 30000] [] d_X11_draw_27 (cS_X11_within (d + 0) 0 0) tw_543 rfl (rr0 (Nat.le_of_ble_eq_true rfl) (Nat.le_of_ble_eq_true rfl)) (Nat.le_of_ble_eq_true rfl) xs0 (s_X11_within _ _ x3 (h_i h8 0 0) 30000) (fun _ _ kk => ?_)
      obtain ⟨e13, e14⟩ := kk
      rw [e13, e14]
      refine aw_ifb_ne (tgt := 35) d_X11_draw_30 rfl (fun c15 => ?_) (fun c15 => ?_)
      · have k := k.1 c15
        refine aw_aload_n (i := 0) rfl d_X11_draw_35 0 rfl ?_
        refine aw_getr (k0 := 1) kc_11 (ws_0 w9) (Nat.le_of_ble_eq_true rfl) tw_488 d_X11_draw_36 rfl (wr_0_1 w9) ?_
        refine aw_aload d_X11_draw_39 4 rfl ?_
        refine aw_geti (k0 := 3) kc_2 (q11) (Nat.le_of_ble_eq_true rfl) tw_579 d_X11_draw_41 rfl ?_
        refine aw_iload_n (i := 2) rfl d_X11_draw_44 2 rfl ?_
        refine aw_Vi 10 [.int (h_i h8 b4 3), .int x2] [] d_X11_draw_45 (cV_X9_minutes (d + 1) 0 0) kc_9 (ws_10 w9) tw_557 rfl (rr0 (Nat.le_of_ble_eq_true rfl) (Nat.le_of_ble_eq_true rfl)) (Nat.le_of_ble_eq_true rfl) xs0 k (fun r18 h16 kk => ?_)
        obtain ⟨w17, q19, k⟩ := kk
        refine aw_iconst (v := (-1)) d_X11_draw_48 ic_m1 ?_
        refine aw_icmp_eq (tgt := 70) d_X11_draw_49 rfl (fun c20 => ?_) (fun c20 => ?_)
        · have k := k.1 c20
          refine aw_iconst (v := 0) d_X11_draw_70 ic_0 ?_
          exact aw_zret rfl rfl d_X11_draw_71 ⟨Nat.le_refl _, Nat.le_refl _⟩ ⟨_, rfl, k⟩
        · have k := k.2 c20
          refine aw_aload d_X11_draw_52 4 rfl ?_
          refine aw_geti (k0 := 4) kc_2 (q19) (Nat.le_of_ble_eq_true rfl) tw_581 d_X11_draw_54 rfl ?_
          refine aw_iconst (v := 3) d_X11_draw_57 ic_3 ?_
          refine aw_icmp_eq (tgt := 70) d_X11_draw_58 rfl (fun c21 => ?_) (fun c21 => ?_)
          · have k := k.1 c21
            refine aw_iconst (v := 0) d_X11_draw_70 ic_0 ?_
            exact aw_zret rfl rfl d_X11_draw_71 ⟨Nat.le_refl _, Nat.le_refl _⟩ ⟨_, rfl, k⟩
          · have k := k.2 c21
            refine aw_aload d_X11_draw_61 4 rfl ?_
            refine aw_geti (k0 := 4) kc_2 (q19) (Nat.le_of_ble_eq_true rfl) tw_581 d_X11_draw_63 rfl ?_
            refine aw_iconst (v := 4) d_X11_draw_66 ic_4 ?_
            refine aw_icmp_ne (tgt := 72) d_X11_draw_67 rfl (fun c22 => ?_) (fun c22 => ?_)
            · have k := k.1 c22
              refine aw_aload_n (i := 0) rfl d_X11_draw_72 0 rfl ?_
              refine aw_aload d_X11_draw_73 4 rfl ?_
              refine aw_iconst (v := 3) d_X11_draw_75 ic_3 ?_
              refine aw_Vv 0 [.ref b4, .int 3] [] d_X11_draw_76 (cV_X11_drop (d + 2) 0 0) kc_11 (ws_0 w17) tw_975 rfl (rr0 (Nat.le_of_ble_eq_true rfl) (Nat.le_of_ble_eq_true rfl)) (Nat.le_of_ble_eq_true rfl) xs0 k (fun h23 kk => ?_)
              obtain ⟨w24, q26, k⟩ := kk
              refine aw_aload d_X11_draw_79 4 rfl ?_
              refine aw_iconst (v := 3) d_X11_draw_81 ic_3 ?_
              refine aw_puti (k0 := 4) kc_2 (q26) (Nat.le_of_ble_eq_true rfl) tw_581 d_X11_draw_82 rfl rfl nf_i ?_
              refine aw_aload d_X11_draw_85 4 rfl ?_
              refine aw_iload_n (i := 2) rfl d_X11_draw_87 2 rfl ?_
              refine aw_puti (k0 := 13) kc_2 (q26) (Nat.le_of_ble_eq_true rfl) tw_595 d_X11_draw_88 rfl rfl nf_i ?_
              refine aw_aload d_X11_draw_91 4 rfl ?_
              refine aw_iload_n (i := 3) rfl d_X11_draw_93 3 rfl ?_
              refine aw_puti (k0 := 14) kc_2 (q26) (Nat.le_of_ble_eq_true rfl) tw_596 d_X11_draw_94 rfl rfl nf_i ?_
              refine aw_aload d_X11_draw_97 4 rfl ?_
              refine aw_geti (k0 := 6) kc_2 (q26) (Nat.le_of_ble_eq_true rfl) tw_585 d_X11_draw_99 rfl ?_
              refine aw_vi (v2 := (h_i h23 b4 6)) ((hi_o (h_im (h_im h23 b4 4 3) b4 13 x2) b4 14 x3 6 (by decide)).trans ((hi_o (h_im h23 b4 4 3) b4 13 x2 6 (by decide)).trans ((hi_o h23 b4 4 3 6 (by decide)).trans (rfl)))) ?_
              refine aw_iconst (v := (-1)) d_X11_draw_102 ic_m1 ?_
              refine aw_icmp_ne (tgt := 118) d_X11_draw_103 rfl (fun c27 => ?_) (fun c27 => ?_)
              · have k := k.1 c27
                refine aw_iconst (v := 1) d_X11_draw_118 ic_1 ?_
                exact aw_zret rfl rfl d_X11_draw_119 ⟨Nat.le_refl _, Nat.le_refl _⟩ ⟨_, rfl, k⟩
              · have k := k.2 c27
                refine aw_aload d_X11_draw_106 4 rfl ?_
                refine aw_iconst (v := (-1)) d_X11_draw_108 ic_m1 ?_
                refine aw_puti (k0 := 7) kc_2 (q26) (Nat.le_of_ble_eq_true rfl) tw_587 d_X11_draw_109 rfl rfl nf_i ?_
                refine aw_aload_n (i := 0) rfl d_X11_draw_112 0 rfl ?_
                refine aw_aload d_X11_draw_113 4 rfl ?_
                refine aw_Vv 0 [.ref b4] [] d_X11_draw_115 (cV_X11_serveDrawn (d + 4) 0 0) kc_11 (ws_0 w24) tw_983 rfl (rr0 (Nat.le_of_ble_eq_true rfl) (Nat.le_of_ble_eq_true rfl)) (Nat.le_of_ble_eq_true rfl) xs0 k (fun h28 kk => ?_)
                obtain ⟨w29, k⟩ := kk
                refine aw_iconst (v := 1) d_X11_draw_118 ic_1 ?_
                exact aw_zret rfl rfl d_X11_draw_119 ⟨Nat.le_refl _, Nat.le_refl _⟩ ⟨_, rfl, k⟩
            · have k := k.2 c22
              refine aw_iconst (v := 0) d_X11_draw_70 ic_0 ?_
              exact aw_zret rfl rfl d_X11_draw_71 ⟨Nat.le_refl _, Nat.le_refl _⟩ ⟨_, rfl, k⟩
      · have k := k.2 c15
        refine aw_iconst (v := 0) d_X11_draw_33 ic_0 ?_
        exact aw_zret rfl rfl d_X11_draw_34 ⟨Nat.le_refl _, Nat.le_refl _⟩ ⟨_, rfl, k⟩
theorem t_X11_ill (d : Nat) (h : Hp_) (w : Wf h) (x1 : Int32) (x2 : Int32) (K : Int32 → Hp_ → Prop) (k : Cr (m_X11_manOf (d + 1) 0 0) [.ref 0, .int x1] h (fun o5 h1 => Wf h1 ∧ ((o5 = none → K 0 h1) ∧ (∀ b4, o5 = some b4 → h_sh h1 b4 = some (12, 17) ∧ 400 ≤ b4 ∧ ((¬ (h_i h1 b4 4) = 4 → (¬ x2 = 0 → (x2 = 0 → Cv (m_X11_setFree (d + 1) 0 0) [.ref 0, .ref b4] h1 (fun h11 => Wf h11 ∧ (K 1 h11))) ∧ (¬ x2 = 0 → Cv (m_X11_drop (d + 2) 0 0) [.ref 0, .ref b4, .int 4] h1 (fun h14 => Wf h14 ∧ h_sh h14 b4 = some (12, 17) ∧ (Cv (m_X11_putAt (d + 0) 0 0) [.ref 0, .ref b4, .int (h_i h14 b4 3)] (h_im (h_im (h_im h14 b4 4 4) b4 6 (-1)) b4 7 (-1)) (fun h18 => Wf h18 ∧ (K 1 h18)))))) ∧ (x2 = 0 → K 0 h1)) ∧ ((h_i h1 b4 4) = 4 → (¬ x2 = 1 → (x2 = 0 → Cv (m_X11_setFree (d + 1) 0 0) [.ref 0, .ref b4] h1 (fun h23 => Wf h23 ∧ (K 1 h23))) ∧ (¬ x2 = 0 → Cv (m_X11_drop (d + 2) 0 0) [.ref 0, .ref b4, .int 4] h1 (fun h26 => Wf h26 ∧ h_sh h26 b4 = some (12, 17) ∧ (Cv (m_X11_putAt (d + 0) 0 0) [.ref 0, .ref b4, .int (h_i h26 b4 3)] (h_im (h_im (h_im h26 b4 4 4) b4 6 (-1)) b4 7 (-1)) (fun h30 => Wf h30 ∧ (K 1 h30)))))) ∧ (x2 = 1 → K 0 h1))))))) : Ci (m_X11_ill (d + 3) 0 0) [.ref 0, .int x1, .int x2] h K := by
  refine Ct.of (fun _ _ _ => trivial) pn_X11 (Nat.le_of_ble_eq_true rfl) ?_
  show AW (m_X11_ill (d + 3) 0 0) 0 0 0 [(0, .ref 0), (1, .int x1), (2, .int x2)] [] h (kI K)
  refine aw_aload_n (i := 0) rfl d_X11_ill_0 0 rfl ?_
  refine aw_iload_n (i := 1) rfl d_X11_ill_1 1 rfl ?_
  refine aw_Vr 0 [.int x1] [] d_X11_ill_2 (cV_X11_manOf (d + 1) 0 0) kc_11 (ws_0 w) tw_904 rfl (rr0 (Nat.le_of_ble_eq_true rfl) (Nat.le_of_ble_eq_true rfl)) (Nat.le_of_ble_eq_true rfl) xs0 k (fun h1 kk => ?_) (fun b4 h1 kk => ?_)
  · obtain ⟨w2, k⟩ := kk
    have k := k.1 rfl
    refine aw_astore_nN (i := 3) rfl [(0, .ref 0), (1, .int x1), (2, .int x2), (3, .null)] d_X11_ill_5 (Nat.le_of_ble_eq_true rfl) rfl rfl ?_
    refine aw_aload_nN (i := 3) rfl d_X11_ill_6 3 rfl ?_
    refine aw_ifnullN (tgt := 27) d_X11_ill_7 rfl ?_
    refine aw_iconst (v := 0) d_X11_ill_27 ic_0 ?_
    exact aw_zret rfl rfl d_X11_ill_28 ⟨Nat.le_refl _, Nat.le_refl _⟩ ⟨_, rfl, k⟩
  · obtain ⟨w2, k⟩ := kk
    obtain ⟨q6, l7, k⟩ := k.2 b4 rfl
    refine aw_astore_n (i := 3) rfl [(0, .ref 0), (1, .int x1), (2, .int x2), (3, .ref b4)] d_X11_ill_5 (Nat.le_of_ble_eq_true rfl) rfl rfl ?_
    refine aw_aload_n (i := 3) rfl d_X11_ill_6 3 rfl ?_
    refine aw_ifnull d_X11_ill_7 ?_
    refine aw_iload_n (i := 2) rfl d_X11_ill_10 2 rfl ?_
    refine aw_aload_n (i := 3) rfl d_X11_ill_11 3 rfl ?_
    refine aw_geti (k0 := 4) kc_2 (q6) (Nat.le_of_ble_eq_true rfl) tw_581 d_X11_ill_12 rfl ?_
    refine aw_iconst (v := 4) d_X11_ill_15 ic_4 ?_
    refine aw_icmp_ne (tgt := 23) d_X11_ill_16 rfl (fun c8 => ?_) (fun c8 => ?_)
    · have k := k.1 c8
      refine aw_iconst (v := 0) d_X11_ill_23 ic_0 ?_
      refine aw_icmp_ne (tgt := 29) d_X11_ill_24 rfl (fun c9 => ?_) (fun c9 => ?_)
      · have k := k.1 c9
        refine aw_iload_n (i := 2) rfl d_X11_ill_29 2 rfl ?_
        refine aw_if_eq (tgt := 66) d_X11_ill_30 rfl (fun c10 => ?_) (fun c10 => ?_)
        · have k := k.1 c10
          refine aw_aload_n (i := 0) rfl d_X11_ill_66 0 rfl ?_
          refine aw_aload_n (i := 3) rfl d_X11_ill_67 3 rfl ?_
          refine aw_Vv 0 [.ref b4] [] d_X11_ill_68 (cV_X11_setFree (d + 1) 0 0) kc_11 (ws_0 w2) tw_963 rfl (rr0 (Nat.le_of_ble_eq_true rfl) (Nat.le_of_ble_eq_true rfl)) (Nat.le_of_ble_eq_true rfl) xs0 k (fun h11 kk => ?_)
          obtain ⟨w12, k⟩ := kk
          refine aw_iconst (v := 1) d_X11_ill_71 ic_1 ?_
          exact aw_zret rfl rfl d_X11_ill_72 ⟨Nat.le_refl _, Nat.le_refl _⟩ ⟨_, rfl, k⟩
        · have k := k.2 c10
          refine aw_aload_n (i := 0) rfl d_X11_ill_33 0 rfl ?_
          refine aw_aload_n (i := 3) rfl d_X11_ill_34 3 rfl ?_
          refine aw_iconst (v := 4) d_X11_ill_35 ic_4 ?_
          refine aw_Vv 0 [.ref b4, .int 4] [] d_X11_ill_36 (cV_X11_drop (d + 2) 0 0) kc_11 (ws_0 w2) tw_975 rfl (rr0 (Nat.le_of_ble_eq_true rfl) (Nat.le_of_ble_eq_true rfl)) (Nat.le_of_ble_eq_true rfl) xs0 k (fun h14 kk => ?_)
          obtain ⟨w15, q17, k⟩ := kk
          refine aw_aload_n (i := 3) rfl d_X11_ill_39 3 rfl ?_
          refine aw_iconst (v := 4) d_X11_ill_40 ic_4 ?_
          refine aw_puti (k0 := 4) kc_2 (q17) (Nat.le_of_ble_eq_true rfl) tw_581 d_X11_ill_41 rfl rfl nf_i ?_
          refine aw_aload_n (i := 3) rfl d_X11_ill_44 3 rfl ?_
          refine aw_iconst (v := (-1)) d_X11_ill_45 ic_m1 ?_
          refine aw_puti (k0 := 6) kc_2 (q17) (Nat.le_of_ble_eq_true rfl) tw_585 d_X11_ill_46 rfl rfl nf_i ?_
          refine aw_aload_n (i := 3) rfl d_X11_ill_49 3 rfl ?_
          refine aw_iconst (v := (-1)) d_X11_ill_50 ic_m1 ?_
          refine aw_puti (k0 := 7) kc_2 (q17) (Nat.le_of_ble_eq_true rfl) tw_587 d_X11_ill_51 rfl rfl nf_i ?_
          refine aw_aload_n (i := 0) rfl d_X11_ill_54 0 rfl ?_
          refine aw_aload_n (i := 3) rfl d_X11_ill_55 3 rfl ?_
          refine aw_aload_n (i := 3) rfl d_X11_ill_56 3 rfl ?_
          refine aw_geti (k0 := 3) kc_2 (q17) (Nat.le_of_ble_eq_true rfl) tw_579 d_X11_ill_57 rfl ?_
          refine aw_vi (v2 := (h_i h14 b4 3)) ((hi_o (h_im (h_im h14 b4 4 4) b4 6 (-1)) b4 7 (-1) 3 (by decide)).trans ((hi_o (h_im h14 b4 4 4) b4 6 (-1) 3 (by decide)).trans ((hi_o h14 b4 4 4 3 (by decide)).trans (rfl)))) ?_
          refine aw_Vv 0 [.ref b4, .int (h_i h14 b4 3)] [] d_X11_ill_60 (cV_X11_putAt (d + 0) 0 0) kc_11 (ws_0 w15) tw_634 rfl (rr0 (Nat.le_of_ble_eq_true rfl) (Nat.le_of_ble_eq_true rfl)) (Nat.le_of_ble_eq_true rfl) xs0 k (fun h18 kk => ?_)
          obtain ⟨w19, k⟩ := kk
          refine aw_goto (tgt := 71) d_X11_ill_63 rfl ?_
          refine aw_iconst (v := 1) d_X11_ill_71 ic_1 ?_
          exact aw_zret rfl rfl d_X11_ill_72 ⟨Nat.le_refl _, Nat.le_refl _⟩ ⟨_, rfl, k⟩
      · have k := k.2 c9
        refine aw_iconst (v := 0) d_X11_ill_27 ic_0 ?_
        exact aw_zret rfl rfl d_X11_ill_28 ⟨Nat.le_refl _, Nat.le_refl _⟩ ⟨_, rfl, k⟩
    · have k := k.2 c8
      refine aw_iconst (v := 1) d_X11_ill_19 ic_1 ?_
      refine aw_goto (tgt := 24) d_X11_ill_20 rfl ?_
      refine aw_icmp_ne (tgt := 29) d_X11_ill_24 rfl (fun c21 => ?_) (fun c21 => ?_)
      · have k := k.1 c21
        refine aw_iload_n (i := 2) rfl d_X11_ill_29 2 rfl ?_
        refine aw_if_eq (tgt := 66) d_X11_ill_30 rfl (fun c22 => ?_) (fun c22 => ?_)
        · have k := k.1 c22
          refine aw_aload_n (i := 0) rfl d_X11_ill_66 0 rfl ?_
          refine aw_aload_n (i := 3) rfl d_X11_ill_67 3 rfl ?_
          refine aw_Vv 0 [.ref b4] [] d_X11_ill_68 (cV_X11_setFree (d + 1) 0 0) kc_11 (ws_0 w2) tw_963 rfl (rr0 (Nat.le_of_ble_eq_true rfl) (Nat.le_of_ble_eq_true rfl)) (Nat.le_of_ble_eq_true rfl) xs0 k (fun h23 kk => ?_)
          obtain ⟨w24, k⟩ := kk
          refine aw_iconst (v := 1) d_X11_ill_71 ic_1 ?_
          exact aw_zret rfl rfl d_X11_ill_72 ⟨Nat.le_refl _, Nat.le_refl _⟩ ⟨_, rfl, k⟩
        · have k := k.2 c22
          refine aw_aload_n (i := 0) rfl d_X11_ill_33 0 rfl ?_
          refine aw_aload_n (i := 3) rfl d_X11_ill_34 3 rfl ?_
          refine aw_iconst (v := 4) d_X11_ill_35 ic_4 ?_
          refine aw_Vv 0 [.ref b4, .int 4] [] d_X11_ill_36 (cV_X11_drop (d + 2) 0 0) kc_11 (ws_0 w2) tw_975 rfl (rr0 (Nat.le_of_ble_eq_true rfl) (Nat.le_of_ble_eq_true rfl)) (Nat.le_of_ble_eq_true rfl) xs0 k (fun h26 kk => ?_)
          obtain ⟨w27, q29, k⟩ := kk
          refine aw_aload_n (i := 3) rfl d_X11_ill_39 3 rfl ?_
          refine aw_iconst (v := 4) d_X11_ill_40 ic_4 ?_
          refine aw_puti (k0 := 4) kc_2 (q29) (Nat.le_of_ble_eq_true rfl) tw_581 d_X11_ill_41 rfl rfl nf_i ?_
          refine aw_aload_n (i := 3) rfl d_X11_ill_44 3 rfl ?_
          refine aw_iconst (v := (-1)) d_X11_ill_45 ic_m1 ?_
          refine aw_puti (k0 := 6) kc_2 (q29) (Nat.le_of_ble_eq_true rfl) tw_585 d_X11_ill_46 rfl rfl nf_i ?_
          refine aw_aload_n (i := 3) rfl d_X11_ill_49 3 rfl ?_
          refine aw_iconst (v := (-1)) d_X11_ill_50 ic_m1 ?_
          refine aw_puti (k0 := 7) kc_2 (q29) (Nat.le_of_ble_eq_true rfl) tw_587 d_X11_ill_51 rfl rfl nf_i ?_
          refine aw_aload_n (i := 0) rfl d_X11_ill_54 0 rfl ?_
          refine aw_aload_n (i := 3) rfl d_X11_ill_55 3 rfl ?_
          refine aw_aload_n (i := 3) rfl d_X11_ill_56 3 rfl ?_
          refine aw_geti (k0 := 3) kc_2 (q29) (Nat.le_of_ble_eq_true rfl) tw_579 d_X11_ill_57 rfl ?_
          refine aw_vi (v2 := (h_i h26 b4 3)) ((hi_o (h_im (h_im h26 b4 4 4) b4 6 (-1)) b4 7 (-1) 3 (by decide)).trans ((hi_o (h_im h26 b4 4 4) b4 6 (-1) 3 (by decide)).trans ((hi_o h26 b4 4 4 3 (by decide)).trans (rfl)))) ?_
          refine aw_Vv 0 [.ref b4, .int (h_i h26 b4 3)] [] d_X11_ill_60 (cV_X11_putAt (d + 0) 0 0) kc_11 (ws_0 w27) tw_634 rfl (rr0 (Nat.le_of_ble_eq_true rfl) (Nat.le_of_ble_eq_true rfl)) (Nat.le_of_ble_eq_true rfl) xs0 k (fun h30 kk => ?_)
          obtain ⟨w31, k⟩ := kk
          refine aw_goto (tgt := 71) d_X11_ill_63 rfl ?_
          refine aw_iconst (v := 1) d_X11_ill_71 ic_1 ?_
          exact aw_zret rfl rfl d_X11_ill_72 ⟨Nat.le_refl _, Nat.le_refl _⟩ ⟨_, rfl, k⟩
      · have k := k.2 c21
        refine aw_iconst (v := 0) d_X11_ill_27 ic_0 ?_
        exact aw_zret rfl rfl d_X11_ill_28 ⟨Nat.le_refl _, Nat.le_refl _⟩ ⟨_, rfl, k⟩
theorem t_X8_emit (d : Nat) (h : Hp_) (w : Wf h) (x1 : Int32) (x2 : Int32) (K : Int32 → Hp_ → Prop) (k : ((h_i h 11 9) < 164 → Ci (m_X10_pack (d + 0) 0 0) [.int x1, .int x2] h (fun r4 h2 => Wf h2 ∧ (vp_in (h_i h 11 9) 164 ∧ (K (((h_i h2 11 9) + 1) - 1) (h_im (h_im h2 33 ((h_i h 11 9) : Int32).toNatClampNeg r4) 11 9 ((h_i h2 11 9) + 1)))))) ∧ (¬ (h_i h 11 9) < 164 → K (-1) h)) : Ci (m_X8_emit (d + 1) 0 0) [.ref 11, .int x1, .int x2] h K := by
  refine Ct.of (fun _ _ _ => trivial) pn_X8 (Nat.le_of_ble_eq_true rfl) ?_
  show AW (m_X8_emit (d + 1) 0 0) 0 0 0 [(0, .ref 11), (1, .int x1), (2, .int x2)] [] h (kI K)
  refine aw_aload_n (i := 0) rfl d_X8_emit_0 0 rfl ?_
  refine aw_geti (k0 := 9) kc_8 (ws_11 w) (Nat.le_of_ble_eq_true rfl) tw_74 d_X8_emit_1 rfl ?_
  refine aw_aload_n (i := 0) rfl d_X8_emit_4 0 rfl ?_
  refine aw_getr (k0 := 8) kc_8 (ws_11 w) (Nat.le_of_ble_eq_true rfl) tw_71 d_X8_emit_5 rfl (wr_11_8 w) ?_
  refine aw_alen (v := 164) (ws_33 w) (Nat.le_of_ble_eq_true rfl) rfl d_X8_emit_8 ?_
  refine aw_icmp_lt (tgt := 14) d_X8_emit_9 rfl (fun c1 => ?_) (fun c1 => ?_)
  · have k := k.1 c1
    refine aw_aload_n (i := 0) rfl d_X8_emit_14 0 rfl ?_
    refine aw_getr (k0 := 8) kc_8 (ws_11 w) (Nat.le_of_ble_eq_true rfl) tw_71 d_X8_emit_15 rfl (wr_11_8 w) ?_
    refine aw_aload_n (i := 0) rfl d_X8_emit_18 0 rfl ?_
    refine aw_geti (k0 := 9) kc_8 (ws_11 w) (Nat.le_of_ble_eq_true rfl) tw_74 d_X8_emit_19 rfl ?_
    refine aw_iload_n (i := 1) rfl d_X8_emit_22 1 rfl ?_
    refine aw_iload_n (i := 2) rfl d_X8_emit_23 2 rfl ?_
    refine aw_Si [.int x1, .int x2] [.int (h_i h 11 9), .ref 33] d_X8_emit_24 (cS_X10_pack (d + 0) 0 0) tw_757 rfl (rr0 (Nat.le_of_ble_eq_true rfl) (Nat.le_of_ble_eq_true rfl)) (Nat.le_of_ble_eq_true rfl) xs0 k (fun r4 h2 kk => ?_)
    obtain ⟨w3, k⟩ := kk
    obtain ⟨b5, k⟩ := k
    refine aw_iast (ws_33 w3) b5 d_X8_emit_27 ?_
    refine aw_aload_n (i := 0) rfl d_X8_emit_28 0 rfl ?_
    refine aw_dup d_X8_emit_29 rfl ?_
    refine aw_geti (k0 := 9) kc_8 (ws_11 w3) (Nat.le_of_ble_eq_true rfl) tw_74 d_X8_emit_30 rfl ?_
    refine aw_vi (v2 := (h_i h2 11 9)) (rfl) ?_
    refine aw_iconst (v := 1) d_X8_emit_33 ic_1 ?_
    refine aw_iadd d_X8_emit_34 ?_
    refine aw_puti (k0 := 9) kc_8 (ws_11 w3) (Nat.le_of_ble_eq_true rfl) tw_74 d_X8_emit_35 rfl rfl nf_i ?_
    refine aw_aload_n (i := 0) rfl d_X8_emit_38 0 rfl ?_
    refine aw_geti (k0 := 9) kc_8 (ws_11 w3) (Nat.le_of_ble_eq_true rfl) tw_74 d_X8_emit_39 rfl ?_
    refine aw_vi (v2 := ((h_i h2 11 9) + 1)) (rfl) ?_
    refine aw_iconst (v := 1) d_X8_emit_42 ic_1 ?_
    refine aw_isub d_X8_emit_43 ?_
    exact aw_iret rfl d_X8_emit_44 ⟨Nat.le_refl _, Nat.le_refl _⟩ ⟨_, rfl, k⟩
  · have k := k.2 c1
    refine aw_iconst (v := (-1)) d_X8_emit_12 ic_m1 ?_
    exact aw_iret rfl d_X8_emit_13 ⟨Nat.le_refl _, Nat.le_refl _⟩ ⟨_, rfl, k⟩
theorem t_X8_endClause (d : Nat) (h : Hp_) (w : Wf h) (x1 : Int32) (K : Hp_ → Prop) (k : Ci (m_X8_emit (d + 1) 0 0) [.ref 11, .int 4, .int 0] h (fun r3 h1 => Wf h1 ∧ ((¬ (0 ≤ x1 ∧ x1 ≤ ((h_i h1 11 9) - 1)) → K h1) ∧ ((0 ≤ x1 ∧ x1 ≤ ((h_i h1 11 9) - 1)) → Ci (m_X10_pack (d + 0) 0 0) [.int 3, .int (h_i h1 11 9)] h1 (fun r9 h7 => Wf h7 ∧ (vp_in x1 164 ∧ (K (h_im h7 33 x1.toNatClampNeg r9)))))))) : Cv (m_X8_endClause (d + 2) 0 0) [.ref 11, .int x1] h K := by
  refine Ct.of (fun _ _ _ => trivial) pn_X8 (Nat.le_of_ble_eq_true rfl) ?_
  show AW (m_X8_endClause (d + 2) 0 0) 0 0 0 [(0, .ref 11), (1, .int x1)] [] h (kV K)
  refine aw_aload_n (i := 0) rfl d_X8_endClause_0 0 rfl ?_
  refine aw_iconst (v := 4) d_X8_endClause_1 ic_4 ?_
  refine aw_iconst (v := 0) d_X8_endClause_2 ic_0 ?_
  refine aw_Vi 11 [.int 4, .int 0] [] d_X8_endClause_3 (cV_X8_emit (d + 1) 0 0) kc_8 (ws_11 w) tw_753 rfl (rr0 (Nat.le_of_ble_eq_true rfl) (Nat.le_of_ble_eq_true rfl)) (Nat.le_of_ble_eq_true rfl) xs0 k (fun r3 h1 kk => ?_)
  obtain ⟨w2, k⟩ := kk
  refine aw_pop d_X8_endClause_6 rfl ?_
  refine aw_iload_n (i := 1) rfl d_X8_endClause_7 1 rfl ?_
  refine aw_iconst (v := 0) d_X8_endClause_8 ic_0 ?_
  refine aw_aload_n (i := 0) rfl d_X8_endClause_9 0 rfl ?_
  refine aw_geti (k0 := 9) kc_8 (ws_11 w2) (Nat.le_of_ble_eq_true rfl) tw_74 d_X8_endClause_10 rfl ?_
  refine aw_iconst (v := 1) d_X8_endClause_13 ic_1 ?_
  refine aw_isub d_X8_endClause_14 ?_
  refine aw_SNi [.int x1, .int 0, .int ((h_i h1 11 9) - 1)] [] d_X8_endClause_15 (cS_X11_within (d + 0) 0 0) (List.mem_of_getElem? (i := 8) rfl) rfl (rr0 (Nat.le_of_ble_eq_true rfl) (Nat.le_of_ble_eq_true rfl)) (Nat.le_of_ble_eq_true rfl) xs0 (s_X11_within _ _ x1 0 ((h_i h1 11 9) - 1)) (fun _ _ kk => ?_)
  obtain ⟨e4, e5⟩ := kk
  rw [e4, e5]
  refine aw_ifb_eq (tgt := 35) d_X8_endClause_18 rfl (fun c6 => ?_) (fun c6 => ?_)
  · have k := k.1 c6
    exact aw_vret rfl d_X8_endClause_35 ⟨Nat.le_refl _, Nat.le_refl _⟩ ⟨rfl, k⟩
  · have k := k.2 c6
    refine aw_aload_n (i := 0) rfl d_X8_endClause_21 0 rfl ?_
    refine aw_getr (k0 := 8) kc_8 (ws_11 w2) (Nat.le_of_ble_eq_true rfl) tw_71 d_X8_endClause_22 rfl (wr_11_8 w2) ?_
    refine aw_iload_n (i := 1) rfl d_X8_endClause_25 1 rfl ?_
    refine aw_iconst (v := 3) d_X8_endClause_26 ic_3 ?_
    refine aw_aload_n (i := 0) rfl d_X8_endClause_27 0 rfl ?_
    refine aw_geti (k0 := 9) kc_8 (ws_11 w2) (Nat.le_of_ble_eq_true rfl) tw_74 d_X8_endClause_28 rfl ?_
    refine aw_Si [.int 3, .int (h_i h1 11 9)] [.int x1, .ref 33] d_X8_endClause_31 (cS_X10_pack (d + 0) 0 0) tw_757 rfl (rr0 (Nat.le_of_ble_eq_true rfl) (Nat.le_of_ble_eq_true rfl)) (Nat.le_of_ble_eq_true rfl) xs0 k (fun r9 h7 kk => ?_)
    obtain ⟨w8, k⟩ := kk
    obtain ⟨b10, k⟩ := k
    refine aw_iast (ws_33 w8) b10 d_X8_endClause_34 ?_
    exact aw_vret rfl d_X8_endClause_35 ⟨Nat.le_refl _, Nat.le_refl _⟩ ⟨rfl, k⟩
theorem t_X10_pack (d : Nat) (h : Hp_) (x0 : Int32) (x1 : Int32) (K : Int32 → Hp_ → Prop) (k : K (x0 ||| (x1 <<< ((4 : Int32) &&& 31))) h) : Ci (m_X10_pack (d + 0) 0 0) [.int x0, .int x1] h K := by
  refine Ct.of (fun _ _ _ => trivial) pn_X10 (Nat.le_of_ble_eq_true rfl) ?_
  show AW (m_X10_pack (d + 0) 0 0) 0 0 0 [(0, .int x0), (1, .int x1)] [] h (kI K)
  refine aw_iload_n (i := 0) rfl d_X10_pack_0 0 rfl ?_
  refine aw_iload_n (i := 1) rfl d_X10_pack_1 1 rfl ?_
  refine aw_iconst (v := 4) d_X10_pack_2 ic_4 ?_
  refine aw_ishl d_X10_pack_3 ?_
  refine aw_ior d_X10_pack_4 ?_
  exact aw_iret rfl d_X10_pack_5 ⟨Nat.le_refl _, Nat.le_refl _⟩ ⟨_, rfl, k⟩
theorem t_X10_bounded (d : Nat) (h : Hp_) (x0 : Int64) (K : Int32 → Hp_ → Prop) (k : ((lg_cmp x0 (1000000 : Int64)) ≤ 0 → (0 ≤ (lg_cmp x0 (-1000000 : Int64)) → K ((x0 : Int64).toInt32) h) ∧ (¬ 0 ≤ (lg_cmp x0 (-1000000 : Int64)) → K (-1000000) h)) ∧ (¬ (lg_cmp x0 (1000000 : Int64)) ≤ 0 → K 1000000 h)) : Ci (m_X10_bounded (d + 0) 0 0) [.long x0] h K := by
  refine Ct.of (fun _ _ _ => trivial) pn_X10 (Nat.le_of_ble_eq_true rfl) ?_
  show AW (m_X10_bounded (d + 0) 0 0) 0 0 0 [(0, .long x0)] [] h (kI K)
  refine aw_lload_n (i := 0) rfl d_X10_bounded_0 0 rfl ?_
  refine aw_ldc2 (v := 1000000) d_X10_bounded_1 tw_1077 ?_
  refine aw_lcmp d_X10_bounded_4 ?_
  refine aw_if_le (tgt := 13) d_X10_bounded_5 rfl (fun c1 => ?_) (fun c1 => ?_)
  · have k := k.1 c1
    refine aw_lload_n (i := 0) rfl d_X10_bounded_13 0 rfl ?_
    refine aw_ldc2 (v := (-1000000)) d_X10_bounded_14 tw_1079 ?_
    refine aw_lcmp d_X10_bounded_17 ?_
    refine aw_if_ge (tgt := 26) d_X10_bounded_18 rfl (fun c2 => ?_) (fun c2 => ?_)
    · have k := k.1 c2
      refine aw_lload_n (i := 0) rfl d_X10_bounded_26 0 rfl ?_
      refine aw_l2i d_X10_bounded_27 ?_
      exact aw_iret rfl d_X10_bounded_28 ⟨Nat.le_refl _, Nat.le_refl _⟩ ⟨_, rfl, k⟩
    · have k := k.2 c2
      refine aw_ldc (v := (-1000000)) d_X10_bounded_21 tw_1080 ?_
      refine aw_goto (tgt := 28) d_X10_bounded_23 rfl ?_
      exact aw_iret rfl d_X10_bounded_28 ⟨Nat.le_refl _, Nat.le_refl _⟩ ⟨_, rfl, k⟩
  · have k := k.2 c1
    refine aw_ldc (v := 1000000) d_X10_bounded_8 tw_1078 ?_
    refine aw_goto (tgt := 28) d_X10_bounded_10 rfl ?_
    exact aw_iret rfl d_X10_bounded_28 ⟨Nat.le_refl _, Nat.le_refl _⟩ ⟨_, rfl, k⟩
theorem t_X10_combine (d : Nat) (h : Hp_) (x0 : Int32) (x1 : Int32) (x2 : Int32) (K : Int32 → Hp_ → Prop) (k : (x0 = 5 → Ci (m_X10_bounded (d + 0) 0 0) [.long (((x1 : Int32).toInt64) + ((x2 : Int32).toInt64))] h (fun r4 h2 => Wf h2 ∧ (K r4 h2))) ∧ ((x0 = 6 → Ci (m_X10_bounded (d + 0) 0 0) [.long (((x1 : Int32).toInt64) - ((x2 : Int32).toInt64))] h (fun r8 h6 => Wf h6 ∧ (K r8 h6))) ∧ ((x0 = 7 → Ci (m_X10_bounded (d + 0) 0 0) [.long (((x1 : Int32).toInt64) * ((x2 : Int32).toInt64))] h (fun r12 h10 => Wf h10 ∧ (K r12 h10))) ∧ ((x0 = 8 → (¬ x1 = x2 → K 0 h) ∧ (x1 = x2 → K 1 h)) ∧ ((x0 = 9 → (x2 ≤ x1 → K 0 h) ∧ (¬ x2 ≤ x1 → K 1 h)) ∧ ((x0 = 10 → (x1 ≤ x2 → K 0 h) ∧ (¬ x1 ≤ x2 → K 1 h)) ∧ ((x0 = 11 → K (x1 &&& x2) h) ∧ ((¬ x0 = 5 ∧ ¬ x0 = 6 ∧ ¬ x0 = 7 ∧ ¬ x0 = 8 ∧ ¬ x0 = 9 ∧ ¬ x0 = 10 ∧ ¬ x0 = 11 → K (x1 ||| x2) h))))))))) : Ci (m_X10_combine (d + 1) 0 0) [.int x0, .int x1, .int x2] h K := by
  refine Ct.of (fun _ _ _ => trivial) pn_X10 (Nat.le_of_ble_eq_true rfl) ?_
  show AW (m_X10_combine (d + 1) 0 0) 0 0 0 [(0, .int x0), (1, .int x1), (2, .int x2)] [] h (kI K)
  refine aw_iload_n (i := 0) rfl d_X10_combine_0 0 rfl ?_
  by_cases e1 : x0 = 5
  · refine aw_tableIn (off := 43) (tgt := 44) d_X10_combine_1 (by rw [e1]; decide) (by rw [e1]; decide) (by rw [e1]; decide) rfl ?_
    have k := k.1 e1
    refine aw_iload_n (i := 1) rfl d_X10_combine_44 1 rfl ?_
    refine aw_i2l d_X10_combine_45 ?_
    refine aw_iload_n (i := 2) rfl d_X10_combine_46 2 rfl ?_
    refine aw_i2l d_X10_combine_47 ?_
    refine aw_ladd d_X10_combine_48 ?_
    refine aw_Si [.long (((x1 : Int32).toInt64) + ((x2 : Int32).toInt64))] [] d_X10_combine_49 (cS_X10_bounded (d + 0) 0 0) tw_1074 rfl (rr0 (Nat.le_of_ble_eq_true rfl) (Nat.le_of_ble_eq_true rfl)) (Nat.le_of_ble_eq_true rfl) xs0 k (fun r4 h2 kk => ?_)
    obtain ⟨w3, k⟩ := kk
    exact aw_iret rfl d_X10_combine_52 ⟨Nat.le_refl _, Nat.le_refl _⟩ ⟨_, rfl, k⟩
  · have k := k.2
    by_cases e5 : x0 = 6
    · refine aw_tableIn (off := 52) (tgt := 53) d_X10_combine_1 (by rw [e5]; decide) (by rw [e5]; decide) (by rw [e5]; decide) rfl ?_
      have k := k.1 e5
      refine aw_iload_n (i := 1) rfl d_X10_combine_53 1 rfl ?_
      refine aw_i2l d_X10_combine_54 ?_
      refine aw_iload_n (i := 2) rfl d_X10_combine_55 2 rfl ?_
      refine aw_i2l d_X10_combine_56 ?_
      refine aw_lsub d_X10_combine_57 ?_
      refine aw_Si [.long (((x1 : Int32).toInt64) - ((x2 : Int32).toInt64))] [] d_X10_combine_58 (cS_X10_bounded (d + 0) 0 0) tw_1074 rfl (rr0 (Nat.le_of_ble_eq_true rfl) (Nat.le_of_ble_eq_true rfl)) (Nat.le_of_ble_eq_true rfl) xs0 k (fun r8 h6 kk => ?_)
      obtain ⟨w7, k⟩ := kk
      exact aw_iret rfl d_X10_combine_61 ⟨Nat.le_refl _, Nat.le_refl _⟩ ⟨_, rfl, k⟩
    · have k := k.2
      by_cases e9 : x0 = 7
      · refine aw_tableIn (off := 61) (tgt := 62) d_X10_combine_1 (by rw [e9]; decide) (by rw [e9]; decide) (by rw [e9]; decide) rfl ?_
        have k := k.1 e9
        refine aw_iload_n (i := 1) rfl d_X10_combine_62 1 rfl ?_
        refine aw_i2l d_X10_combine_63 ?_
        refine aw_iload_n (i := 2) rfl d_X10_combine_64 2 rfl ?_
        refine aw_i2l d_X10_combine_65 ?_
        refine aw_lmul d_X10_combine_66 ?_
        refine aw_Si [.long (((x1 : Int32).toInt64) * ((x2 : Int32).toInt64))] [] d_X10_combine_67 (cS_X10_bounded (d + 0) 0 0) tw_1074 rfl (rr0 (Nat.le_of_ble_eq_true rfl) (Nat.le_of_ble_eq_true rfl)) (Nat.le_of_ble_eq_true rfl) xs0 k (fun r12 h10 kk => ?_)
        obtain ⟨w11, k⟩ := kk
        exact aw_iret rfl d_X10_combine_70 ⟨Nat.le_refl _, Nat.le_refl _⟩ ⟨_, rfl, k⟩
      · have k := k.2
        by_cases e13 : x0 = 8
        · refine aw_tableIn (off := 70) (tgt := 71) d_X10_combine_1 (by rw [e13]; decide) (by rw [e13]; decide) (by rw [e13]; decide) rfl ?_
          have k := k.1 e13
          refine aw_iload_n (i := 1) rfl d_X10_combine_71 1 rfl ?_
          refine aw_iload_n (i := 2) rfl d_X10_combine_72 2 rfl ?_
          refine aw_icmp_ne (tgt := 80) d_X10_combine_73 rfl (fun c14 => ?_) (fun c14 => ?_)
          · have k := k.1 c14
            refine aw_iconst (v := 0) d_X10_combine_80 ic_0 ?_
            exact aw_iret rfl d_X10_combine_81 ⟨Nat.le_refl _, Nat.le_refl _⟩ ⟨_, rfl, k⟩
          · have k := k.2 c14
            refine aw_iconst (v := 1) d_X10_combine_76 ic_1 ?_
            refine aw_goto (tgt := 81) d_X10_combine_77 rfl ?_
            exact aw_iret rfl d_X10_combine_81 ⟨Nat.le_refl _, Nat.le_refl _⟩ ⟨_, rfl, k⟩
        · have k := k.2
          by_cases e15 : x0 = 9
          · refine aw_tableIn (off := 81) (tgt := 82) d_X10_combine_1 (by rw [e15]; decide) (by rw [e15]; decide) (by rw [e15]; decide) rfl ?_
            have k := k.1 e15
            refine aw_iload_n (i := 1) rfl d_X10_combine_82 1 rfl ?_
            refine aw_iload_n (i := 2) rfl d_X10_combine_83 2 rfl ?_
            refine aw_icmp_ge (tgt := 91) d_X10_combine_84 rfl (fun c16 => ?_) (fun c16 => ?_)
            · have k := k.1 c16
              refine aw_iconst (v := 0) d_X10_combine_91 ic_0 ?_
              exact aw_iret rfl d_X10_combine_92 ⟨Nat.le_refl _, Nat.le_refl _⟩ ⟨_, rfl, k⟩
            · have k := k.2 c16
              refine aw_iconst (v := 1) d_X10_combine_87 ic_1 ?_
              refine aw_goto (tgt := 92) d_X10_combine_88 rfl ?_
              exact aw_iret rfl d_X10_combine_92 ⟨Nat.le_refl _, Nat.le_refl _⟩ ⟨_, rfl, k⟩
          · have k := k.2
            by_cases e17 : x0 = 10
            · refine aw_tableIn (off := 92) (tgt := 93) d_X10_combine_1 (by rw [e17]; decide) (by rw [e17]; decide) (by rw [e17]; decide) rfl ?_
              have k := k.1 e17
              refine aw_iload_n (i := 1) rfl d_X10_combine_93 1 rfl ?_
              refine aw_iload_n (i := 2) rfl d_X10_combine_94 2 rfl ?_
              refine aw_icmp_le (tgt := 102) d_X10_combine_95 rfl (fun c18 => ?_) (fun c18 => ?_)
              · have k := k.1 c18
                refine aw_iconst (v := 0) d_X10_combine_102 ic_0 ?_
                exact aw_iret rfl d_X10_combine_103 ⟨Nat.le_refl _, Nat.le_refl _⟩ ⟨_, rfl, k⟩
              · have k := k.2 c18
                refine aw_iconst (v := 1) d_X10_combine_98 ic_1 ?_
                refine aw_goto (tgt := 103) d_X10_combine_99 rfl ?_
                exact aw_iret rfl d_X10_combine_103 ⟨Nat.le_refl _, Nat.le_refl _⟩ ⟨_, rfl, k⟩
            · have k := k.2
              by_cases e19 : x0 = 11
              · refine aw_tableIn (off := 103) (tgt := 104) d_X10_combine_1 (by rw [e19]; decide) (by rw [e19]; decide) (by rw [e19]; decide) rfl ?_
                have k := k.1 e19
                refine aw_iload_n (i := 1) rfl d_X10_combine_104 1 rfl ?_
                refine aw_iload_n (i := 2) rfl d_X10_combine_105 2 rfl ?_
                refine aw_iand d_X10_combine_106 ?_
                exact aw_iret rfl d_X10_combine_107 ⟨Nat.le_refl _, Nat.le_refl _⟩ ⟨_, rfl, k⟩
              · have k := k.2
                have k := k ⟨e1, e5, e9, e13, e15, e17, e19⟩
                have n20 := sw_ne (5) (by decide) e1
                have n21 := sw_ne (6) (by decide) e5
                have n22 := sw_ne (7) (by decide) e9
                have n23 := sw_ne (8) (by decide) e13
                have n24 := sw_ne (9) (by decide) e15
                have n25 := sw_ne (10) (by decide) e17
                have n26 := sw_ne (11) (by decide) e19
                refine aw_tableOut (tgt := 108) d_X10_combine_1 (by omega) rfl ?_
                refine aw_iload_n (i := 1) rfl d_X10_combine_108 1 rfl ?_
                refine aw_iload_n (i := 2) rfl d_X10_combine_109 2 rfl ?_
                refine aw_ior d_X10_combine_110 ?_
                exact aw_iret rfl d_X10_combine_111 ⟨Nat.le_refl _, Nat.le_refl _⟩ ⟨_, rfl, k⟩
theorem t_X10_valueOf_70 (d : Nat) (h : Hp_) (w : Wf h) (x1 : Int32) (K : Int32 → Hp_ → Prop) (k : (¬ (0 ≤ x1 ∧ x1 ≤ ((2700 : Int32) - 1)) → K 0 h) ∧ ((0 ≤ x1 ∧ x1 ≤ ((2700 : Int32) - 1)) → vp_in x1 2700 ∧ (K (h_i h 70 x1.toNatClampNeg) h))) : Ci (m_X10_valueOf (d + 1) 0 0) [.ref 70, .int x1] h K := by
  refine Ct.of (fun _ _ _ => trivial) pn_X10 (Nat.le_of_ble_eq_true rfl) ?_
  show AW (m_X10_valueOf (d + 1) 0 0) 0 0 0 [(0, .ref 70), (1, .int x1)] [] h (kI K)
  refine aw_iload_n (i := 1) rfl d_X10_valueOf_0 1 rfl ?_
  refine aw_iconst (v := 0) d_X10_valueOf_1 ic_0 ?_
  refine aw_aload_n (i := 0) rfl d_X10_valueOf_2 0 rfl ?_
  refine aw_alen (v := 2700) (ws_70 w) (Nat.le_of_ble_eq_true rfl) rfl d_X10_valueOf_3 ?_
  refine aw_iconst (v := 1) d_X10_valueOf_4 ic_1 ?_
  refine aw_isub d_X10_valueOf_5 ?_
  refine aw_SNi [.int x1, .int 0, .int ((2700 : Int32) - 1)] [] d_X10_valueOf_6 (cS_X11_within (d + 0) 0 0) (List.mem_of_getElem? (i := 11) rfl) rfl (rr0 (Nat.le_of_ble_eq_true rfl) (Nat.le_of_ble_eq_true rfl)) (Nat.le_of_ble_eq_true rfl) xs0 (s_X11_within _ _ x1 0 ((2700 : Int32) - 1)) (fun _ _ kk => ?_)
  obtain ⟨e1, e2⟩ := kk
  rw [e1, e2]
  refine aw_ifb_eq (tgt := 18) d_X10_valueOf_9 rfl (fun c3 => ?_) (fun c3 => ?_)
  · have k := k.1 c3
    refine aw_iconst (v := 0) d_X10_valueOf_18 ic_0 ?_
    exact aw_iret rfl d_X10_valueOf_19 ⟨Nat.le_refl _, Nat.le_refl _⟩ ⟨_, rfl, k⟩
  · have k := k.2 c3
    refine aw_aload_n (i := 0) rfl d_X10_valueOf_12 0 rfl ?_
    refine aw_iload_n (i := 1) rfl d_X10_valueOf_13 1 rfl ?_
    obtain ⟨b4, k⟩ := k
    refine aw_iald (ws_70 w) b4 d_X10_valueOf_14 ?_
    refine aw_goto (tgt := 19) d_X10_valueOf_15 rfl ?_
    exact aw_iret rfl d_X10_valueOf_19 ⟨Nat.le_refl _, Nat.le_refl _⟩ ⟨_, rfl, k⟩
theorem t_X10_answer_13 (d : Nat) (h : Hp_) (w : Wf h) (x1 : Int32) (x3 : Int32) (K : Int32 → Hp_ → Prop) (k : ((0 ≤ x1 ∧ x1 ≤ ((h_i h 13 5) - 1)) → AW (m_X10_answer (d + 2) 0 0) 0 0 22 [(0, .ref 13), (1, .int x1), (2, .ref 70), (3, .int x3), (4, .int 0), (5, .int 0)] [] h (kI K)) ∧ (¬ (0 ≤ x1 ∧ x1 ≤ ((h_i h 13 5) - 1)) → K 0 h)) : Ci (m_X10_answer (d + 2) 0 0) [.ref 13, .int x1, .ref 70, .int x3] h K := by
  refine Ct.of (fun _ _ _ => trivial) pn_X10 (Nat.le_of_ble_eq_true rfl) ?_
  show AW (m_X10_answer (d + 2) 0 0) 0 0 0 [(0, .ref 13), (1, .int x1), (2, .ref 70), (3, .int x3)] [] h (kI K)
  refine aw_iload_n (i := 1) rfl d_X10_answer_0 1 rfl ?_
  refine aw_iconst (v := 0) d_X10_answer_1 ic_0 ?_
  refine aw_aload_n (i := 0) rfl d_X10_answer_2 0 rfl ?_
  refine aw_geti (k0 := 5) kc_10 (ws_13 w) (Nat.le_of_ble_eq_true rfl) tw_129 d_X10_answer_3 rfl ?_
  refine aw_iconst (v := 1) d_X10_answer_6 ic_1 ?_
  refine aw_isub d_X10_answer_7 ?_
  refine aw_SNi [.int x1, .int 0, .int ((h_i h 13 5) - 1)] [] d_X10_answer_8 (cS_X11_within (d + 0) 0 0) (List.mem_of_getElem? (i := 11) rfl) rfl (rr0 (Nat.le_of_ble_eq_true rfl) (Nat.le_of_ble_eq_true rfl)) (Nat.le_of_ble_eq_true rfl) xs0 (s_X11_within _ _ x1 0 ((h_i h 13 5) - 1)) (fun _ _ kk => ?_)
  obtain ⟨e1, e2⟩ := kk
  rw [e1, e2]
  refine aw_ifb_ne (tgt := 16) d_X10_answer_11 rfl (fun c3 => ?_) (fun c3 => ?_)
  · have k := k.1 c3
    refine aw_iconst (v := 0) d_X10_answer_16 ic_0 ?_
    refine aw_istore [(0, .ref 13), (1, .int x1), (2, .ref 70), (3, .int x3), (4, .int 0)] d_X10_answer_17 (Nat.le_of_ble_eq_true rfl) rfl rfl ?_
    refine aw_iconst (v := 0) d_X10_answer_19 ic_0 ?_
    refine aw_istore [(0, .ref 13), (1, .int x1), (2, .ref 70), (3, .int x3), (4, .int 0), (5, .int 0)] d_X10_answer_20 (Nat.le_of_ble_eq_true rfl) rfl rfl ?_
    exact k
  · have k := k.2 c3
    refine aw_iconst (v := 0) d_X10_answer_14 ic_0 ?_
    exact aw_iret rfl d_X10_answer_15 ⟨Nat.le_refl _, Nat.le_refl _⟩ ⟨_, rfl, k⟩
theorem t_X10_answer_13_22 (d : Nat) (h : Hp_) (w : Wf h) (x1 : Int32) (x3 : Int32) (x4 : Int32) (x5 : Int32) (K : Int32 → Hp_ → Prop) (k : vp_in x1 20 ∧ (((h_i h 39 x1.toNatClampNeg) ≤ x5 → K 0 h) ∧ (¬ (h_i h 39 x1.toNatClampNeg) ≤ x5 → vp_in ((x1 * 164) + x5) 3280 ∧ (vp_in ((x1 * 164) + x5) 3280 ∧ ((((h_i h 40 (((x1 * 164) + x5) : Int32).toNatClampNeg) &&& 15) = 0 → (x4 < 164 → (¬ ((h_i h 40 (((x1 * 164) + x5) : Int32).toNatClampNeg) &&& 15) = 0 → Ci (m_X10_valueOf (d + 1) 0 0) [.ref 70, .int (x3 + ((h_i h 40 (((x1 * 164) + x5) : Int32).toNatClampNeg) >>> ((4 : Int32) &&& 31)))] h (fun r13 h11 => Wf h11 ∧ (vp_in x4 164 ∧ (AW (m_X10_answer (d + 2) 0 0) 0 0 22 [(0, .ref 13), (1, .int x1), (2, .ref 70), (3, .int x3), (4, .int (x4 + 1)), (5, .int (x5 + 1))] [] (h_im h11 41 x4.toNatClampNeg r13) (kI K))))) ∧ (((h_i h 40 (((x1 * 164) + x5) : Int32).toNatClampNeg) &&& 15) = 0 → vp_in x4 164 ∧ (AW (m_X10_answer (d + 2) 0 0) 0 0 22 [(0, .ref 13), (1, .int x1), (2, .ref 70), (3, .int x3), (4, .int (x4 + 1)), (5, .int (x5 + 1))] [] (h_im h 41 x4.toNatClampNeg ((h_i h 40 (((x1 * 164) + x5) : Int32).toNatClampNeg) >>> ((4 : Int32) &&& 31))) (kI K)))) ∧ (¬ x4 < 164 → K 0 h)) ∧ (¬ ((h_i h 40 (((x1 * 164) + x5) : Int32).toNatClampNeg) &&& 15) = 0 → (¬ ((h_i h 40 (((x1 * 164) + x5) : Int32).toNatClampNeg) &&& 15) = 1 → (((h_i h 40 (((x1 * 164) + x5) : Int32).toNatClampNeg) &&& 15) < 5 → (1 ≤ x4 → (¬ ((h_i h 40 (((x1 * 164) + x5) : Int32).toNatClampNeg) &&& 15) = 2 → (¬ ((h_i h 40 (((x1 * 164) + x5) : Int32).toNatClampNeg) &&& 15) = 4 → vp_in (x4 + (-1)) 164 ∧ ((¬ (h_i h 41 ((x4 + (-1)) : Int32).toNatClampNeg) = 0 → AW (m_X10_answer (d + 2) 0 0) 0 0 22 [(0, .ref 13), (1, .int x1), (2, .ref 70), (3, .int x3), (4, .int (x4 + (-1))), (5, .int (x5 + 1))] [] h (kI K)) ∧ ((h_i h 41 ((x4 + (-1)) : Int32).toNatClampNeg) = 0 → AW (m_X10_answer (d + 2) 0 0) 0 0 22 [(0, .ref 13), (1, .int x1), (2, .ref 70), (3, .int x3), (4, .int (x4 + (-1))), (5, .int ((if x5 < (((h_i h 40 (((x1 * 164) + x5) : Int32).toNatClampNeg) >>> ((4 : Int32) &&& 31)) - 1) then (((h_i h 40 (((x1 * 164) + x5) : Int32).toNatClampNeg) >>> ((4 : Int32) &&& 31)) - 1) else x5) + 1))] [] h (kI K)))) ∧ (((h_i h 40 (((x1 * 164) + x5) : Int32).toNatClampNeg) &&& 15) = 4 → vp_in (x4 - 1) 164 ∧ (K (h_i h 41 ((x4 - 1) : Int32).toNatClampNeg) h))) ∧ (((h_i h 40 (((x1 * 164) + x5) : Int32).toNatClampNeg) &&& 15) = 2 → vp_in (x4 - 1) 164 ∧ (vp_in (x4 - 1) 164 ∧ (AW (m_X10_answer (d + 2) 0 0) 0 0 22 [(0, .ref 13), (1, .int x1), (2, .ref 70), (3, .int x3), (4, .int x4), (5, .int (x5 + 1))] [] (h_im h 41 ((x4 - 1) : Int32).toNatClampNeg (1 - (h_i h 41 ((x4 - 1) : Int32).toNatClampNeg))) (kI K))))) ∧ (¬ 1 ≤ x4 → K 0 h)) ∧ (¬ ((h_i h 40 (((x1 * 164) + x5) : Int32).toNatClampNeg) &&& 15) < 5 → (2 ≤ x4 → vp_in ((x4 + (-1)) - 1) 164 ∧ (vp_in (x4 + (-1)) 164 ∧ (Ci (m_X10_combine (d + 1) 0 0) [.int ((h_i h 40 (((x1 * 164) + x5) : Int32).toNatClampNeg) &&& 15), .int (h_i h 41 (((x4 + (-1)) - 1) : Int32).toNatClampNeg), .int (h_i h 41 ((x4 + (-1)) : Int32).toNatClampNeg)] h (fun r31 h29 => Wf h29 ∧ (vp_in ((x4 + (-1)) - 1) 164 ∧ (AW (m_X10_answer (d + 2) 0 0) 0 0 22 [(0, .ref 13), (1, .int x1), (2, .ref 70), (3, .int x3), (4, .int (x4 + (-1))), (5, .int (x5 + 1))] [] (h_im h29 41 (((x4 + (-1)) - 1) : Int32).toNatClampNeg r31) (kI K))))))) ∧ (¬ 2 ≤ x4 → K 0 h))) ∧ (((h_i h 40 (((x1 * 164) + x5) : Int32).toNatClampNeg) &&& 15) = 1 → (x4 < 164 → (¬ ((h_i h 40 (((x1 * 164) + x5) : Int32).toNatClampNeg) &&& 15) = 0 → Ci (m_X10_valueOf (d + 1) 0 0) [.ref 70, .int (x3 + ((h_i h 40 (((x1 * 164) + x5) : Int32).toNatClampNeg) >>> ((4 : Int32) &&& 31)))] h (fun r37 h35 => Wf h35 ∧ (vp_in x4 164 ∧ (AW (m_X10_answer (d + 2) 0 0) 0 0 22 [(0, .ref 13), (1, .int x1), (2, .ref 70), (3, .int x3), (4, .int (x4 + 1)), (5, .int (x5 + 1))] [] (h_im h35 41 x4.toNatClampNeg r37) (kI K))))) ∧ (((h_i h 40 (((x1 * 164) + x5) : Int32).toNatClampNeg) &&& 15) = 0 → vp_in x4 164 ∧ (AW (m_X10_answer (d + 2) 0 0) 0 0 22 [(0, .ref 13), (1, .int x1), (2, .ref 70), (3, .int x3), (4, .int (x4 + 1)), (5, .int (x5 + 1))] [] (h_im h 41 x4.toNatClampNeg ((h_i h 40 (((x1 * 164) + x5) : Int32).toNatClampNeg) >>> ((4 : Int32) &&& 31))) (kI K)))) ∧ (¬ x4 < 164 → K 0 h)))))))) : AW (m_X10_answer (d + 2) 0 0) 0 0 22 [(0, .ref 13), (1, .int x1), (2, .ref 70), (3, .int x3), (4, .int x4), (5, .int x5)] [] h (kI K) := by
  refine aw_iload d_X10_answer_22 5 rfl ?_
  refine aw_aload_n (i := 0) rfl d_X10_answer_24 0 rfl ?_
  refine aw_getr (k0 := 2) kc_10 (ws_13 w) (Nat.le_of_ble_eq_true rfl) tw_126 d_X10_answer_25 rfl (wr_13_2 w) ?_
  refine aw_iload_n (i := 1) rfl d_X10_answer_28 1 rfl ?_
  obtain ⟨b4, k⟩ := k
  refine aw_iald (ws_39 w) b4 d_X10_answer_29 ?_
  refine aw_icmp_ge (tgt := 260) d_X10_answer_30 rfl (fun c5 => ?_) (fun c5 => ?_)
  · have k := k.1 c5
    refine aw_iconst (v := 0) d_X10_answer_260 ic_0 ?_
    exact aw_iret rfl d_X10_answer_261 ⟨Nat.le_refl _, Nat.le_refl _⟩ ⟨_, rfl, k⟩
  · have k := k.2 c5
    refine aw_aload_n (i := 0) rfl d_X10_answer_33 0 rfl ?_
    refine aw_getr (k0 := 3) kc_10 (ws_13 w) (Nat.le_of_ble_eq_true rfl) tw_127 d_X10_answer_34 rfl (wr_13_3 w) ?_
    refine aw_iload_n (i := 1) rfl d_X10_answer_37 1 rfl ?_
    refine aw_sipush (v := 164) d_X10_answer_38 is_164 ?_
    refine aw_imul d_X10_answer_41 ?_
    refine aw_iload d_X10_answer_42 5 rfl ?_
    refine aw_iadd d_X10_answer_44 ?_
    obtain ⟨b6, k⟩ := k
    refine aw_iald (ws_40 w) b6 d_X10_answer_45 ?_
    refine aw_bipush (v := 15) d_X10_answer_46 ib_15 ?_
    refine aw_iand d_X10_answer_48 ?_
    refine aw_istore [(0, .ref 13), (1, .int x1), (2, .ref 70), (3, .int x3), (4, .int x4), (5, .int x5), (6, .int ((h_i h 40 (((x1 * 164) + x5) : Int32).toNatClampNeg) &&& 15))] d_X10_answer_49 (Nat.le_of_ble_eq_true rfl) rfl rfl ?_
    refine aw_aload_n (i := 0) rfl d_X10_answer_51 0 rfl ?_
    refine aw_getr (k0 := 3) kc_10 (ws_13 w) (Nat.le_of_ble_eq_true rfl) tw_127 d_X10_answer_52 rfl (wr_13_3 w) ?_
    refine aw_iload_n (i := 1) rfl d_X10_answer_55 1 rfl ?_
    refine aw_sipush (v := 164) d_X10_answer_56 is_164 ?_
    refine aw_imul d_X10_answer_59 ?_
    refine aw_iload d_X10_answer_60 5 rfl ?_
    refine aw_iadd d_X10_answer_62 ?_
    obtain ⟨b7, k⟩ := k
    refine aw_iald (ws_40 w) b7 d_X10_answer_63 ?_
    refine aw_iconst (v := 4) d_X10_answer_64 ic_4 ?_
    refine aw_ishr d_X10_answer_65 ?_
    refine aw_istore [(0, .ref 13), (1, .int x1), (2, .ref 70), (3, .int x3), (4, .int x4), (5, .int x5), (6, .int ((h_i h 40 (((x1 * 164) + x5) : Int32).toNatClampNeg) &&& 15)), (7, .int ((h_i h 40 (((x1 * 164) + x5) : Int32).toNatClampNeg) >>> ((4 : Int32) &&& 31)))] d_X10_answer_66 (Nat.le_of_ble_eq_true rfl) rfl rfl ?_
    refine aw_iload d_X10_answer_68 6 rfl ?_
    refine aw_if_eq (tgt := 79) d_X10_answer_70 rfl (fun c8 => ?_) (fun c8 => ?_)
    · have k := k.1 c8
      refine aw_iload d_X10_answer_79 4 rfl ?_
      refine aw_aload_n (i := 0) rfl d_X10_answer_81 0 rfl ?_
      refine aw_getr (k0 := 4) kc_10 (ws_13 w) (Nat.le_of_ble_eq_true rfl) tw_128 d_X10_answer_82 rfl (wr_13_4 w) ?_
      refine aw_alen (v := 164) (ws_41 w) (Nat.le_of_ble_eq_true rfl) rfl d_X10_answer_85 ?_
      refine aw_icmp_lt (tgt := 91) d_X10_answer_86 rfl (fun c9 => ?_) (fun c9 => ?_)
      · have k := k.1 c9
        refine aw_aload_n (i := 0) rfl d_X10_answer_91 0 rfl ?_
        refine aw_getr (k0 := 4) kc_10 (ws_13 w) (Nat.le_of_ble_eq_true rfl) tw_128 d_X10_answer_92 rfl (wr_13_4 w) ?_
        refine aw_iload d_X10_answer_95 4 rfl ?_
        refine aw_iload d_X10_answer_97 6 rfl ?_
        refine aw_if_ne (tgt := 107) d_X10_answer_99 rfl (fun c10 => ?_) (fun c10 => ?_)
        · have k := k.1 c10
          refine aw_aload_n (i := 2) rfl d_X10_answer_107 2 rfl ?_
          refine aw_iload_n (i := 3) rfl d_X10_answer_108 3 rfl ?_
          refine aw_iload d_X10_answer_109 7 rfl ?_
          refine aw_iadd d_X10_answer_111 ?_
          refine aw_Si [.ref 70, .int (x3 + ((h_i h 40 (((x1 * 164) + x5) : Int32).toNatClampNeg) >>> ((4 : Int32) &&& 31)))] [.int x4, .ref 41] d_X10_answer_112 (cS_X10_valueOf (d + 1) 0 0) tw_1068 rfl (rr0 (Nat.le_of_ble_eq_true rfl) (Nat.le_of_ble_eq_true rfl)) (Nat.le_of_ble_eq_true rfl) xs0 k (fun r13 h11 kk => ?_)
          obtain ⟨w12, k⟩ := kk
          obtain ⟨b14, k⟩ := k
          refine aw_iast (ws_41 w12) b14 d_X10_answer_115 ?_
          refine aw_iinc (v := (x4 + 1)) [(0, .ref 13), (1, .int x1), (2, .ref 70), (3, .int x3), (4, .int (x4 + 1)), (5, .int x5), (6, .int ((h_i h 40 (((x1 * 164) + x5) : Int32).toNatClampNeg) &&& 15)), (7, .int ((h_i h 40 (((x1 * 164) + x5) : Int32).toNatClampNeg) >>> ((4 : Int32) &&& 31)))] d_X10_answer_116 4 rfl rfl (Nat.le_of_ble_eq_true rfl) rfl rfl ?_
          refine aw_goto (tgt := 254) d_X10_answer_119 rfl ?_
          refine aw_iinc (v := (x5 + 1)) [(0, .ref 13), (1, .int x1), (2, .ref 70), (3, .int x3), (4, .int (x4 + 1)), (5, .int (x5 + 1)), (6, .int ((h_i h 40 (((x1 * 164) + x5) : Int32).toNatClampNeg) &&& 15)), (7, .int ((h_i h 40 (((x1 * 164) + x5) : Int32).toNatClampNeg) >>> ((4 : Int32) &&& 31)))] d_X10_answer_254 5 rfl rfl (Nat.le_of_ble_eq_true rfl) rfl rfl ?_
          refine aw_goto (tgt := 22) d_X10_answer_257 rfl ?_
          exact aw_lvp [0, 1, 2, 3, 4, 5] [(0, .ref 13), (1, .int x1), (2, .ref 70), (3, .int x3), (4, .int (x4 + 1)), (5, .int (x5 + 1))] rfl k
        · have k := k.2 c10
          refine aw_iload d_X10_answer_102 7 rfl ?_
          refine aw_goto (tgt := 115) d_X10_answer_104 rfl ?_
          obtain ⟨b15, k⟩ := k
          refine aw_iast (ws_41 w) b15 d_X10_answer_115 ?_
          refine aw_iinc (v := (x4 + 1)) [(0, .ref 13), (1, .int x1), (2, .ref 70), (3, .int x3), (4, .int (x4 + 1)), (5, .int x5), (6, .int ((h_i h 40 (((x1 * 164) + x5) : Int32).toNatClampNeg) &&& 15)), (7, .int ((h_i h 40 (((x1 * 164) + x5) : Int32).toNatClampNeg) >>> ((4 : Int32) &&& 31)))] d_X10_answer_116 4 rfl rfl (Nat.le_of_ble_eq_true rfl) rfl rfl ?_
          refine aw_goto (tgt := 254) d_X10_answer_119 rfl ?_
          refine aw_iinc (v := (x5 + 1)) [(0, .ref 13), (1, .int x1), (2, .ref 70), (3, .int x3), (4, .int (x4 + 1)), (5, .int (x5 + 1)), (6, .int ((h_i h 40 (((x1 * 164) + x5) : Int32).toNatClampNeg) &&& 15)), (7, .int ((h_i h 40 (((x1 * 164) + x5) : Int32).toNatClampNeg) >>> ((4 : Int32) &&& 31)))] d_X10_answer_254 5 rfl rfl (Nat.le_of_ble_eq_true rfl) rfl rfl ?_
          refine aw_goto (tgt := 22) d_X10_answer_257 rfl ?_
          exact aw_lvp [0, 1, 2, 3, 4, 5] [(0, .ref 13), (1, .int x1), (2, .ref 70), (3, .int x3), (4, .int (x4 + 1)), (5, .int (x5 + 1))] rfl k
      · have k := k.2 c9
        refine aw_iconst (v := 0) d_X10_answer_89 ic_0 ?_
        exact aw_iret rfl d_X10_answer_90 ⟨Nat.le_refl _, Nat.le_refl _⟩ ⟨_, rfl, k⟩
    · have k := k.2 c8
      refine aw_iload d_X10_answer_73 6 rfl ?_
      refine aw_iconst (v := 1) d_X10_answer_75 ic_1 ?_
      refine aw_icmp_ne (tgt := 122) d_X10_answer_76 rfl (fun c16 => ?_) (fun c16 => ?_)
      · have k := k.1 c16
        refine aw_iload d_X10_answer_122 6 rfl ?_
        refine aw_iconst (v := 5) d_X10_answer_124 ic_5 ?_
        refine aw_icmp_lt (tgt := 172) d_X10_answer_125 rfl (fun c17 => ?_) (fun c17 => ?_)
        · have k := k.1 c17
          refine aw_iload d_X10_answer_172 4 rfl ?_
          refine aw_iconst (v := 1) d_X10_answer_174 ic_1 ?_
          refine aw_icmp_ge (tgt := 180) d_X10_answer_175 rfl (fun c18 => ?_) (fun c18 => ?_)
          · have k := k.1 c18
            refine aw_iload d_X10_answer_180 6 rfl ?_
            refine aw_iconst (v := 2) d_X10_answer_182 ic_2 ?_
            refine aw_icmp_ne (tgt := 209) d_X10_answer_183 rfl (fun c19 => ?_) (fun c19 => ?_)
            · have k := k.1 c19
              refine aw_iload d_X10_answer_209 6 rfl ?_
              refine aw_iconst (v := 4) d_X10_answer_211 ic_4 ?_
              refine aw_icmp_ne (tgt := 225) d_X10_answer_212 rfl (fun c20 => ?_) (fun c20 => ?_)
              · have k := k.1 c20
                refine aw_iinc (v := (x4 + (-1))) [(0, .ref 13), (1, .int x1), (2, .ref 70), (3, .int x3), (4, .int (x4 + (-1))), (5, .int x5), (6, .int ((h_i h 40 (((x1 * 164) + x5) : Int32).toNatClampNeg) &&& 15)), (7, .int ((h_i h 40 (((x1 * 164) + x5) : Int32).toNatClampNeg) >>> ((4 : Int32) &&& 31)))] d_X10_answer_225 4 rfl rfl (Nat.le_of_ble_eq_true rfl) rfl rfl ?_
                refine aw_aload_n (i := 0) rfl d_X10_answer_228 0 rfl ?_
                refine aw_getr (k0 := 4) kc_10 (ws_13 w) (Nat.le_of_ble_eq_true rfl) tw_128 d_X10_answer_229 rfl (wr_13_4 w) ?_
                refine aw_iload d_X10_answer_232 4 rfl ?_
                obtain ⟨b21, k⟩ := k
                refine aw_iald (ws_41 w) b21 d_X10_answer_234 ?_
                refine aw_if_ne (tgt := 250) d_X10_answer_235 rfl (fun c22 => ?_) (fun c22 => ?_)
                · have k := k.1 c22
                  refine aw_iload d_X10_answer_250 5 rfl ?_
                  refine aw_istore [(0, .ref 13), (1, .int x1), (2, .ref 70), (3, .int x3), (4, .int (x4 + (-1))), (5, .int x5), (6, .int ((h_i h 40 (((x1 * 164) + x5) : Int32).toNatClampNeg) &&& 15)), (7, .int ((h_i h 40 (((x1 * 164) + x5) : Int32).toNatClampNeg) >>> ((4 : Int32) &&& 31)))] d_X10_answer_252 (Nat.le_of_ble_eq_true rfl) rfl rfl ?_
                  refine aw_iinc (v := (x5 + 1)) [(0, .ref 13), (1, .int x1), (2, .ref 70), (3, .int x3), (4, .int (x4 + (-1))), (5, .int (x5 + 1)), (6, .int ((h_i h 40 (((x1 * 164) + x5) : Int32).toNatClampNeg) &&& 15)), (7, .int ((h_i h 40 (((x1 * 164) + x5) : Int32).toNatClampNeg) >>> ((4 : Int32) &&& 31)))] d_X10_answer_254 5 rfl rfl (Nat.le_of_ble_eq_true rfl) rfl rfl ?_
                  refine aw_goto (tgt := 22) d_X10_answer_257 rfl ?_
                  exact aw_lvp [0, 1, 2, 3, 4, 5] [(0, .ref 13), (1, .int x1), (2, .ref 70), (3, .int x3), (4, .int (x4 + (-1))), (5, .int (x5 + 1))] rfl k
                · have k := k.2 c22
                  refine aw_iload d_X10_answer_238 5 rfl ?_
                  refine aw_iload d_X10_answer_240 7 rfl ?_
                  refine aw_iconst (v := 1) d_X10_answer_242 ic_1 ?_
                  refine aw_isub d_X10_answer_243 ?_
                  refine aw_mmax d_X10_answer_244 tw_1081 (show 1 ≤ (d + 2) by omega) (Nat.le_trans (Nat.le_of_ble_eq_true rfl) (show 100 ≤ 100 * (d + 2) by omega)) ⟨Nat.le_refl _, Nat.le_refl _⟩ ?_
                  refine aw_goto (tgt := 252) d_X10_answer_247 rfl ?_
                  refine aw_istore [(0, .ref 13), (1, .int x1), (2, .ref 70), (3, .int x3), (4, .int (x4 + (-1))), (5, .int (if x5 < (((h_i h 40 (((x1 * 164) + x5) : Int32).toNatClampNeg) >>> ((4 : Int32) &&& 31)) - 1) then (((h_i h 40 (((x1 * 164) + x5) : Int32).toNatClampNeg) >>> ((4 : Int32) &&& 31)) - 1) else x5)), (6, .int ((h_i h 40 (((x1 * 164) + x5) : Int32).toNatClampNeg) &&& 15)), (7, .int ((h_i h 40 (((x1 * 164) + x5) : Int32).toNatClampNeg) >>> ((4 : Int32) &&& 31)))] d_X10_answer_252 (Nat.le_of_ble_eq_true rfl) rfl rfl ?_
                  refine aw_iinc (v := ((if x5 < (((h_i h 40 (((x1 * 164) + x5) : Int32).toNatClampNeg) >>> ((4 : Int32) &&& 31)) - 1) then (((h_i h 40 (((x1 * 164) + x5) : Int32).toNatClampNeg) >>> ((4 : Int32) &&& 31)) - 1) else x5) + 1)) [(0, .ref 13), (1, .int x1), (2, .ref 70), (3, .int x3), (4, .int (x4 + (-1))), (5, .int ((if x5 < (((h_i h 40 (((x1 * 164) + x5) : Int32).toNatClampNeg) >>> ((4 : Int32) &&& 31)) - 1) then (((h_i h 40 (((x1 * 164) + x5) : Int32).toNatClampNeg) >>> ((4 : Int32) &&& 31)) - 1) else x5) + 1)), (6, .int ((h_i h 40 (((x1 * 164) + x5) : Int32).toNatClampNeg) &&& 15)), (7, .int ((h_i h 40 (((x1 * 164) + x5) : Int32).toNatClampNeg) >>> ((4 : Int32) &&& 31)))] d_X10_answer_254 5 rfl rfl (Nat.le_of_ble_eq_true rfl) rfl rfl ?_
                  refine aw_goto (tgt := 22) d_X10_answer_257 rfl ?_
                  exact aw_lvp [0, 1, 2, 3, 4, 5] [(0, .ref 13), (1, .int x1), (2, .ref 70), (3, .int x3), (4, .int (x4 + (-1))), (5, .int ((if x5 < (((h_i h 40 (((x1 * 164) + x5) : Int32).toNatClampNeg) >>> ((4 : Int32) &&& 31)) - 1) then (((h_i h 40 (((x1 * 164) + x5) : Int32).toNatClampNeg) >>> ((4 : Int32) &&& 31)) - 1) else x5) + 1))] rfl k
              · have k := k.2 c20
                refine aw_aload_n (i := 0) rfl d_X10_answer_215 0 rfl ?_
                refine aw_getr (k0 := 4) kc_10 (ws_13 w) (Nat.le_of_ble_eq_true rfl) tw_128 d_X10_answer_216 rfl (wr_13_4 w) ?_
                refine aw_iload d_X10_answer_219 4 rfl ?_
                refine aw_iconst (v := 1) d_X10_answer_221 ic_1 ?_
                refine aw_isub d_X10_answer_222 ?_
                obtain ⟨b23, k⟩ := k
                refine aw_iald (ws_41 w) b23 d_X10_answer_223 ?_
                exact aw_iret rfl d_X10_answer_224 ⟨Nat.le_refl _, Nat.le_refl _⟩ ⟨_, rfl, k⟩
            · have k := k.2 c19
              refine aw_aload_n (i := 0) rfl d_X10_answer_186 0 rfl ?_
              refine aw_getr (k0 := 4) kc_10 (ws_13 w) (Nat.le_of_ble_eq_true rfl) tw_128 d_X10_answer_187 rfl (wr_13_4 w) ?_
              refine aw_iload d_X10_answer_190 4 rfl ?_
              refine aw_iconst (v := 1) d_X10_answer_192 ic_1 ?_
              refine aw_isub d_X10_answer_193 ?_
              refine aw_iconst (v := 1) d_X10_answer_194 ic_1 ?_
              refine aw_aload_n (i := 0) rfl d_X10_answer_195 0 rfl ?_
              refine aw_getr (k0 := 4) kc_10 (ws_13 w) (Nat.le_of_ble_eq_true rfl) tw_128 d_X10_answer_196 rfl (wr_13_4 w) ?_
              refine aw_iload d_X10_answer_199 4 rfl ?_
              refine aw_iconst (v := 1) d_X10_answer_201 ic_1 ?_
              refine aw_isub d_X10_answer_202 ?_
              obtain ⟨b24, k⟩ := k
              refine aw_iald (ws_41 w) b24 d_X10_answer_203 ?_
              refine aw_isub d_X10_answer_204 ?_
              obtain ⟨b25, k⟩ := k
              refine aw_iast (ws_41 w) b25 d_X10_answer_205 ?_
              refine aw_goto (tgt := 254) d_X10_answer_206 rfl ?_
              refine aw_iinc (v := (x5 + 1)) [(0, .ref 13), (1, .int x1), (2, .ref 70), (3, .int x3), (4, .int x4), (5, .int (x5 + 1)), (6, .int ((h_i h 40 (((x1 * 164) + x5) : Int32).toNatClampNeg) &&& 15)), (7, .int ((h_i h 40 (((x1 * 164) + x5) : Int32).toNatClampNeg) >>> ((4 : Int32) &&& 31)))] d_X10_answer_254 5 rfl rfl (Nat.le_of_ble_eq_true rfl) rfl rfl ?_
              refine aw_goto (tgt := 22) d_X10_answer_257 rfl ?_
              exact aw_lvp [0, 1, 2, 3, 4, 5] [(0, .ref 13), (1, .int x1), (2, .ref 70), (3, .int x3), (4, .int x4), (5, .int (x5 + 1))] rfl k
          · have k := k.2 c18
            refine aw_iconst (v := 0) d_X10_answer_178 ic_0 ?_
            exact aw_iret rfl d_X10_answer_179 ⟨Nat.le_refl _, Nat.le_refl _⟩ ⟨_, rfl, k⟩
        · have k := k.2 c17
          refine aw_iload d_X10_answer_128 4 rfl ?_
          refine aw_iconst (v := 2) d_X10_answer_130 ic_2 ?_
          refine aw_icmp_ge (tgt := 136) d_X10_answer_131 rfl (fun c26 => ?_) (fun c26 => ?_)
          · have k := k.1 c26
            refine aw_iinc (v := (x4 + (-1))) [(0, .ref 13), (1, .int x1), (2, .ref 70), (3, .int x3), (4, .int (x4 + (-1))), (5, .int x5), (6, .int ((h_i h 40 (((x1 * 164) + x5) : Int32).toNatClampNeg) &&& 15)), (7, .int ((h_i h 40 (((x1 * 164) + x5) : Int32).toNatClampNeg) >>> ((4 : Int32) &&& 31)))] d_X10_answer_136 4 rfl rfl (Nat.le_of_ble_eq_true rfl) rfl rfl ?_
            refine aw_aload_n (i := 0) rfl d_X10_answer_139 0 rfl ?_
            refine aw_getr (k0 := 4) kc_10 (ws_13 w) (Nat.le_of_ble_eq_true rfl) tw_128 d_X10_answer_140 rfl (wr_13_4 w) ?_
            refine aw_iload d_X10_answer_143 4 rfl ?_
            refine aw_iconst (v := 1) d_X10_answer_145 ic_1 ?_
            refine aw_isub d_X10_answer_146 ?_
            refine aw_iload d_X10_answer_147 6 rfl ?_
            refine aw_aload_n (i := 0) rfl d_X10_answer_149 0 rfl ?_
            refine aw_getr (k0 := 4) kc_10 (ws_13 w) (Nat.le_of_ble_eq_true rfl) tw_128 d_X10_answer_150 rfl (wr_13_4 w) ?_
            refine aw_iload d_X10_answer_153 4 rfl ?_
            refine aw_iconst (v := 1) d_X10_answer_155 ic_1 ?_
            refine aw_isub d_X10_answer_156 ?_
            obtain ⟨b27, k⟩ := k
            refine aw_iald (ws_41 w) b27 d_X10_answer_157 ?_
            refine aw_aload_n (i := 0) rfl d_X10_answer_158 0 rfl ?_
            refine aw_getr (k0 := 4) kc_10 (ws_13 w) (Nat.le_of_ble_eq_true rfl) tw_128 d_X10_answer_159 rfl (wr_13_4 w) ?_
            refine aw_iload d_X10_answer_162 4 rfl ?_
            obtain ⟨b28, k⟩ := k
            refine aw_iald (ws_41 w) b28 d_X10_answer_164 ?_
            refine aw_Si [.int ((h_i h 40 (((x1 * 164) + x5) : Int32).toNatClampNeg) &&& 15), .int (h_i h 41 (((x4 + (-1)) - 1) : Int32).toNatClampNeg), .int (h_i h 41 ((x4 + (-1)) : Int32).toNatClampNeg)] [.int ((x4 + (-1)) - 1), .ref 41] d_X10_answer_165 (cS_X10_combine (d + 1) 0 0) tw_1071 rfl (rr0 (Nat.le_of_ble_eq_true rfl) (Nat.le_of_ble_eq_true rfl)) (Nat.le_of_ble_eq_true rfl) xs0 k (fun r31 h29 kk => ?_)
            obtain ⟨w30, k⟩ := kk
            obtain ⟨b32, k⟩ := k
            refine aw_iast (ws_41 w30) b32 d_X10_answer_168 ?_
            refine aw_goto (tgt := 254) d_X10_answer_169 rfl ?_
            refine aw_iinc (v := (x5 + 1)) [(0, .ref 13), (1, .int x1), (2, .ref 70), (3, .int x3), (4, .int (x4 + (-1))), (5, .int (x5 + 1)), (6, .int ((h_i h 40 (((x1 * 164) + x5) : Int32).toNatClampNeg) &&& 15)), (7, .int ((h_i h 40 (((x1 * 164) + x5) : Int32).toNatClampNeg) >>> ((4 : Int32) &&& 31)))] d_X10_answer_254 5 rfl rfl (Nat.le_of_ble_eq_true rfl) rfl rfl ?_
            refine aw_goto (tgt := 22) d_X10_answer_257 rfl ?_
            exact aw_lvp [0, 1, 2, 3, 4, 5] [(0, .ref 13), (1, .int x1), (2, .ref 70), (3, .int x3), (4, .int (x4 + (-1))), (5, .int (x5 + 1))] rfl k
          · have k := k.2 c26
            refine aw_iconst (v := 0) d_X10_answer_134 ic_0 ?_
            exact aw_iret rfl d_X10_answer_135 ⟨Nat.le_refl _, Nat.le_refl _⟩ ⟨_, rfl, k⟩
      · have k := k.2 c16
        refine aw_iload d_X10_answer_79 4 rfl ?_
        refine aw_aload_n (i := 0) rfl d_X10_answer_81 0 rfl ?_
        refine aw_getr (k0 := 4) kc_10 (ws_13 w) (Nat.le_of_ble_eq_true rfl) tw_128 d_X10_answer_82 rfl (wr_13_4 w) ?_
        refine aw_alen (v := 164) (ws_41 w) (Nat.le_of_ble_eq_true rfl) rfl d_X10_answer_85 ?_
        refine aw_icmp_lt (tgt := 91) d_X10_answer_86 rfl (fun c33 => ?_) (fun c33 => ?_)
        · have k := k.1 c33
          refine aw_aload_n (i := 0) rfl d_X10_answer_91 0 rfl ?_
          refine aw_getr (k0 := 4) kc_10 (ws_13 w) (Nat.le_of_ble_eq_true rfl) tw_128 d_X10_answer_92 rfl (wr_13_4 w) ?_
          refine aw_iload d_X10_answer_95 4 rfl ?_
          refine aw_iload d_X10_answer_97 6 rfl ?_
          refine aw_if_ne (tgt := 107) d_X10_answer_99 rfl (fun c34 => ?_) (fun c34 => ?_)
          · have k := k.1 c34
            refine aw_aload_n (i := 2) rfl d_X10_answer_107 2 rfl ?_
            refine aw_iload_n (i := 3) rfl d_X10_answer_108 3 rfl ?_
            refine aw_iload d_X10_answer_109 7 rfl ?_
            refine aw_iadd d_X10_answer_111 ?_
            refine aw_Si [.ref 70, .int (x3 + ((h_i h 40 (((x1 * 164) + x5) : Int32).toNatClampNeg) >>> ((4 : Int32) &&& 31)))] [.int x4, .ref 41] d_X10_answer_112 (cS_X10_valueOf (d + 1) 0 0) tw_1068 rfl (rr0 (Nat.le_of_ble_eq_true rfl) (Nat.le_of_ble_eq_true rfl)) (Nat.le_of_ble_eq_true rfl) xs0 k (fun r37 h35 kk => ?_)
            obtain ⟨w36, k⟩ := kk
            obtain ⟨b38, k⟩ := k
            refine aw_iast (ws_41 w36) b38 d_X10_answer_115 ?_
            refine aw_iinc (v := (x4 + 1)) [(0, .ref 13), (1, .int x1), (2, .ref 70), (3, .int x3), (4, .int (x4 + 1)), (5, .int x5), (6, .int ((h_i h 40 (((x1 * 164) + x5) : Int32).toNatClampNeg) &&& 15)), (7, .int ((h_i h 40 (((x1 * 164) + x5) : Int32).toNatClampNeg) >>> ((4 : Int32) &&& 31)))] d_X10_answer_116 4 rfl rfl (Nat.le_of_ble_eq_true rfl) rfl rfl ?_
            refine aw_goto (tgt := 254) d_X10_answer_119 rfl ?_
            refine aw_iinc (v := (x5 + 1)) [(0, .ref 13), (1, .int x1), (2, .ref 70), (3, .int x3), (4, .int (x4 + 1)), (5, .int (x5 + 1)), (6, .int ((h_i h 40 (((x1 * 164) + x5) : Int32).toNatClampNeg) &&& 15)), (7, .int ((h_i h 40 (((x1 * 164) + x5) : Int32).toNatClampNeg) >>> ((4 : Int32) &&& 31)))] d_X10_answer_254 5 rfl rfl (Nat.le_of_ble_eq_true rfl) rfl rfl ?_
            refine aw_goto (tgt := 22) d_X10_answer_257 rfl ?_
            exact aw_lvp [0, 1, 2, 3, 4, 5] [(0, .ref 13), (1, .int x1), (2, .ref 70), (3, .int x3), (4, .int (x4 + 1)), (5, .int (x5 + 1))] rfl k
          · have k := k.2 c34
            refine aw_iload d_X10_answer_102 7 rfl ?_
            refine aw_goto (tgt := 115) d_X10_answer_104 rfl ?_
            obtain ⟨b39, k⟩ := k
            refine aw_iast (ws_41 w) b39 d_X10_answer_115 ?_
            refine aw_iinc (v := (x4 + 1)) [(0, .ref 13), (1, .int x1), (2, .ref 70), (3, .int x3), (4, .int (x4 + 1)), (5, .int x5), (6, .int ((h_i h 40 (((x1 * 164) + x5) : Int32).toNatClampNeg) &&& 15)), (7, .int ((h_i h 40 (((x1 * 164) + x5) : Int32).toNatClampNeg) >>> ((4 : Int32) &&& 31)))] d_X10_answer_116 4 rfl rfl (Nat.le_of_ble_eq_true rfl) rfl rfl ?_
            refine aw_goto (tgt := 254) d_X10_answer_119 rfl ?_
            refine aw_iinc (v := (x5 + 1)) [(0, .ref 13), (1, .int x1), (2, .ref 70), (3, .int x3), (4, .int (x4 + 1)), (5, .int (x5 + 1)), (6, .int ((h_i h 40 (((x1 * 164) + x5) : Int32).toNatClampNeg) &&& 15)), (7, .int ((h_i h 40 (((x1 * 164) + x5) : Int32).toNatClampNeg) >>> ((4 : Int32) &&& 31)))] d_X10_answer_254 5 rfl rfl (Nat.le_of_ble_eq_true rfl) rfl rfl ?_
            refine aw_goto (tgt := 22) d_X10_answer_257 rfl ?_
            exact aw_lvp [0, 1, 2, 3, 4, 5] [(0, .ref 13), (1, .int x1), (2, .ref 70), (3, .int x3), (4, .int (x4 + 1)), (5, .int (x5 + 1))] rfl k
        · have k := k.2 c33
          refine aw_iconst (v := 0) d_X10_answer_89 ic_0 ?_
          exact aw_iret rfl d_X10_answer_90 ⟨Nat.le_refl _, Nat.le_refl _⟩ ⟨_, rfl, k⟩
theorem t_X11_look (d : Nat) (h : Hp_) (x1 : Nat) (hs_x1 : h_sh h x1 = some (12, 17)) (lb_x1 : 400 ≤ x1) (K : Hp_ → Prop) (k : AW (m_X11_look (d + 5) 0 0) 0 0 2 [(0, .ref 0), (1, .ref x1), (2, .int 0)] [] h (kV K)) : Cv (m_X11_look (d + 5) 0 0) [.ref 0, .ref x1] h K := by
  refine Ct.of (fun _ _ _ => trivial) pn_X11 (Nat.le_of_ble_eq_true rfl) ?_
  show AW (m_X11_look (d + 5) 0 0) 0 0 0 [(0, .ref 0), (1, .ref x1)] [] h (kV K)
  refine aw_iconst (v := 0) d_X11_look_0 ic_0 ?_
  refine aw_istore_n (i := 2) rfl [(0, .ref 0), (1, .ref x1), (2, .int 0)] d_X11_look_1 (Nat.le_of_ble_eq_true rfl) rfl rfl ?_
  exact k
theorem t_X11_look_2 (d : Nat) (h : Hp_) (w : Wf h) (x1 : Nat) (hs_x1 : h_sh h x1 = some (12, 17)) (lb_x1 : 400 ≤ x1) (x2 : Int32) (K : Hp_ → Prop) (k : ((h_i h 17 7) ≤ x2 → K h) ∧ (¬ (h_i h 17 7) ≤ x2 → Ci (m_X4_canBeSeen (d + 1) 0 0) [.ref 17, .int x2, .int (h_i h x1 5), .int (h_i h 0 0)] h (fun r4 h2 => Wf h2 ∧ h_sh h2 x1 = some (12, 17) ∧ ((r4 = 0 → AW (m_X11_look (d + 5) 0 0) 0 0 2 [(0, .ref 0), (1, .ref x1), (2, .int (x2 + 1))] [] h2 (kV K)) ∧ (¬ r4 = 0 → Cv (m_X11_see (d + 4) 0 0) [.ref 0, .ref x1, .int x2] h2 (fun h7 => Wf h7 ∧ h_sh h7 x1 = some (12, 17) ∧ (AW (m_X11_look (d + 5) 0 0) 0 0 2 [(0, .ref 0), (1, .ref x1), (2, .int (x2 + 1))] [] h7 (kV K)))))))) : AW (m_X11_look (d + 5) 0 0) 0 0 2 [(0, .ref 0), (1, .ref x1), (2, .int x2)] [] h (kV K) := by
  refine aw_iload_n (i := 2) rfl d_X11_look_2 2 rfl ?_
  refine aw_aload_n (i := 0) rfl d_X11_look_3 0 rfl ?_
  refine aw_getr (k0 := 9) kc_11 (ws_0 w) (Nat.le_of_ble_eq_true rfl) tw_496 d_X11_look_4 rfl (wr_0_9 w) ?_
  refine aw_geti (k0 := 7) kc_4 (ws_17 w) (Nat.le_of_ble_eq_true rfl) tw_204 d_X11_look_7 rfl ?_
  refine aw_icmp_ge (tgt := 44) d_X11_look_10 rfl (fun c1 => ?_) (fun c1 => ?_)
  · have k := k.1 c1
    exact aw_vret rfl d_X11_look_44 ⟨Nat.le_refl _, Nat.le_refl _⟩ ⟨rfl, k⟩
  · have k := k.2 c1
    refine aw_aload_n (i := 0) rfl d_X11_look_13 0 rfl ?_
    refine aw_getr (k0 := 9) kc_11 (ws_0 w) (Nat.le_of_ble_eq_true rfl) tw_496 d_X11_look_14 rfl (wr_0_9 w) ?_
    refine aw_iload_n (i := 2) rfl d_X11_look_17 2 rfl ?_
    refine aw_aload_n (i := 1) rfl d_X11_look_18 1 rfl ?_
    refine aw_geti (k0 := 5) kc_2 (hs_x1) (Nat.le_of_ble_eq_true rfl) tw_583 d_X11_look_19 rfl ?_
    refine aw_aload_n (i := 0) rfl d_X11_look_22 0 rfl ?_
    refine aw_geti (k0 := 0) kc_11 (ws_0 w) (Nat.le_of_ble_eq_true rfl) tw_487 d_X11_look_23 rfl ?_
    refine aw_Vi 17 [.int x2, .int (h_i h x1 5), .int (h_i h 0 0)] [] d_X11_look_26 (cV_X4_canBeSeen (d + 1) 0 0) kc_4 (ws_17 w) tw_1027 rfl (rr0 (Nat.le_of_ble_eq_true rfl) (Nat.le_of_ble_eq_true rfl)) (Nat.le_of_ble_eq_true rfl) xs0 k (fun r4 h2 kk => ?_)
    obtain ⟨w3, q5, k⟩ := kk
    refine aw_if_eq (tgt := 38) d_X11_look_29 rfl (fun c6 => ?_) (fun c6 => ?_)
    · have k := k.1 c6
      refine aw_iinc (v := (x2 + 1)) [(0, .ref 0), (1, .ref x1), (2, .int (x2 + 1))] d_X11_look_38 2 rfl rfl (Nat.le_of_ble_eq_true rfl) rfl rfl ?_
      refine aw_goto (tgt := 2) d_X11_look_41 rfl ?_
      exact k
    · have k := k.2 c6
      refine aw_aload_n (i := 0) rfl d_X11_look_32 0 rfl ?_
      refine aw_aload_n (i := 1) rfl d_X11_look_33 1 rfl ?_
      refine aw_iload_n (i := 2) rfl d_X11_look_34 2 rfl ?_
      refine aw_Vv 0 [.ref x1, .int x2] [] d_X11_look_35 (cV_X11_see (d + 4) 0 0) kc_11 (ws_0 w3) tw_1032 rfl (rr0 (Nat.le_of_ble_eq_true rfl) (Nat.le_of_ble_eq_true rfl)) (Nat.le_of_ble_eq_true rfl) xs0 k (fun h7 kk => ?_)
      obtain ⟨w8, q10, k⟩ := kk
      refine aw_iinc (v := (x2 + 1)) [(0, .ref 0), (1, .ref x1), (2, .int (x2 + 1))] d_X11_look_38 2 rfl rfl (Nat.le_of_ble_eq_true rfl) rfl rfl ?_
      refine aw_goto (tgt := 2) d_X11_look_41 rfl ?_
      exact k
theorem t_X11_see (d : Nat) (h : Hp_) (w : Wf h) (x1 : Nat) (hs_x1 : h_sh h x1 = some (12, 17)) (lb_x1 : 400 ≤ x1) (x2 : Int32) (K : Hp_ → Prop) (k : Ci (m_X4_write (d + 1) 0 0) [.ref 17, .int (h_i h x1 0), .int x2, .int (h_i h 0 0)] h (fun r3 h1 => Wf h1 ∧ h_sh h1 x1 = some (12, 17) ∧ (Ci (m_X5_classOf (d + 1) 0 0) [.ref 21, .ref x1, .int ((h_i h 0 0) / 1440), .int (h_i h1 0 0)] h1 (fun r7 h5 => Wf h5 ∧ h_sh h5 x1 = some (12, 17) ∧ (Cv (m_X4_setLetter (d + 1) 0 0) [.ref 17, .int r3, .int 5, .int r7] h5 (fun h9 => Wf h9 ∧ h_sh h9 x1 = some (12, 17) ∧ (Ci (m_X11_countMenAt (d + 0) 0 0) [.ref 0, .int (h_i h9 x1 5)] h9 (fun r15 h13 => Wf h13 ∧ h_sh h13 x1 = some (12, 17) ∧ (Cv (m_X4_setLetter (d + 1) 0 0) [.ref 17, .int r3, .int 6, .int r15] h13 (fun h17 => Wf h17 ∧ h_sh h17 x1 = some (12, 17) ∧ (Ci (m_X10_inForce (d + 0) 0 0) [.ref 13, .int ((h_i h 0 0) / 1440), .int (h_i h17 0 0)] h17 (fun r23 h21 => Wf h21 ∧ h_sh h21 x1 = some (12, 17) ∧ (Ci (m_J0_length_8abf5 (d + 1) 0 0) [.ref 1001] h21 (fun r27 h25 => Wf h25 ∧ h_sh h25 x1 = some (12, 17) ∧ (Ci (m_X10_answer (d + 2) 0 0) [.ref 13, .int r23, .ref 70, .int (r3 * r27)] h25 (fun r31 h29 => Wf h29 ∧ h_sh h29 x1 = some (12, 17) ∧ ((¬ r31 = 3 → Ci (m_X9_minutes (d + 1) 0 0) [.ref 10, .int (h_i h29 x1 5), .int 0] h29 (fun r36 h34 => Wf h34 ∧ (Cv (m_X4_settle (d + 1) 0 0) [.ref 17, .int r3, .int r31, .int (-1), .int r36] h34 (fun h37 => Wf h37 ∧ (K h37))))) ∧ (r31 = 3 → Ci (m_X4_kindOf (d + 1) 0 0) [.ref 17, .int x2] h29 (fun r42 h40 => Wf h40 ∧ h_sh h40 x1 = some (12, 17) ∧ (Ci (m_X1_start (d + 0) 0 0) [.ref 18, .int r42, .int (h_i h40 0 0)] h40 (fun r46 h44 => Wf h44 ∧ h_sh h44 x1 = some (12, 17) ∧ (Ci (m_X9_minutes (d + 1) 0 0) [.ref 10, .int (h_i h44 x1 5), .int 0] h44 (fun r50 h48 => Wf h48 ∧ (Cv (m_X4_settle (d + 1) 0 0) [.ref 17, .int r3, .int r31, .int r46, .int r50] h48 (fun h51 => Wf h51 ∧ (K h51)))))))))))))))))))))))))) : Cv (m_X11_see (d + 4) 0 0) [.ref 0, .ref x1, .int x2] h K := by
  refine Ct.of (fun _ _ _ => trivial) pn_X11 (Nat.le_of_ble_eq_true rfl) ?_
  show AW (m_X11_see (d + 4) 0 0) 0 0 0 [(0, .ref 0), (1, .ref x1), (2, .int x2)] [] h (kV K)
  refine aw_aload_n (i := 0) rfl d_X11_see_0 0 rfl ?_
  refine aw_geti (k0 := 0) kc_11 (ws_0 w) (Nat.le_of_ble_eq_true rfl) tw_487 d_X11_see_1 rfl ?_
  refine aw_sipush (v := 1440) d_X11_see_4 is_1440 ?_
  refine aw_idiv d_X11_see_7 (by decide) ?_
  refine aw_istore_n (i := 3) rfl [(0, .ref 0), (1, .ref x1), (2, .int x2), (3, .int ((h_i h 0 0) / 1440))] d_X11_see_8 (Nat.le_of_ble_eq_true rfl) rfl rfl ?_
  refine aw_aload_n (i := 0) rfl d_X11_see_9 0 rfl ?_
  refine aw_getr (k0 := 9) kc_11 (ws_0 w) (Nat.le_of_ble_eq_true rfl) tw_496 d_X11_see_10 rfl (wr_0_9 w) ?_
  refine aw_aload_n (i := 1) rfl d_X11_see_13 1 rfl ?_
  refine aw_geti (k0 := 0) kc_2 (hs_x1) (Nat.le_of_ble_eq_true rfl) tw_573 d_X11_see_14 rfl ?_
  refine aw_iload_n (i := 2) rfl d_X11_see_17 2 rfl ?_
  refine aw_aload_n (i := 0) rfl d_X11_see_18 0 rfl ?_
  refine aw_geti (k0 := 0) kc_11 (ws_0 w) (Nat.le_of_ble_eq_true rfl) tw_487 d_X11_see_19 rfl ?_
  refine aw_Vi 17 [.int (h_i h x1 0), .int x2, .int (h_i h 0 0)] [] d_X11_see_22 (cV_X4_write (d + 1) 0 0) kc_4 (ws_17 w) tw_1036 rfl (rr0 (Nat.le_of_ble_eq_true rfl) (Nat.le_of_ble_eq_true rfl)) (Nat.le_of_ble_eq_true rfl) xs0 k (fun r3 h1 kk => ?_)
  obtain ⟨w2, q4, k⟩ := kk
  refine aw_istore [(0, .ref 0), (1, .ref x1), (2, .int x2), (3, .int ((h_i h 0 0) / 1440)), (4, .int r3)] d_X11_see_25 (Nat.le_of_ble_eq_true rfl) rfl rfl ?_
  refine aw_aload_n (i := 0) rfl d_X11_see_27 0 rfl ?_
  refine aw_getr (k0 := 9) kc_11 (ws_0 w2) (Nat.le_of_ble_eq_true rfl) tw_496 d_X11_see_28 rfl (wr_0_9 w2) ?_
  refine aw_iload d_X11_see_31 4 rfl ?_
  refine aw_iconst (v := 5) d_X11_see_33 ic_5 ?_
  refine aw_aload_n (i := 0) rfl d_X11_see_34 0 rfl ?_
  refine aw_getr (k0 := 13) kc_11 (ws_0 w2) (Nat.le_of_ble_eq_true rfl) tw_500 d_X11_see_35 rfl (wr_0_13 w2) ?_
  refine aw_aload_n (i := 1) rfl d_X11_see_38 1 rfl ?_
  refine aw_iload_n (i := 3) rfl d_X11_see_39 3 rfl ?_
  refine aw_aload_n (i := 0) rfl d_X11_see_40 0 rfl ?_
  refine aw_geti (k0 := 0) kc_11 (ws_0 w2) (Nat.le_of_ble_eq_true rfl) tw_487 d_X11_see_41 rfl ?_
  refine aw_Vi 21 [.ref x1, .int ((h_i h 0 0) / 1440), .int (h_i h1 0 0)] [.int 5, .int r3, .ref 17] d_X11_see_44 (cV_X5_classOf (d + 1) 0 0) kc_5 (ws_21 w2) tw_1040 rfl (rr0 (Nat.le_of_ble_eq_true rfl) (Nat.le_of_ble_eq_true rfl)) (Nat.le_of_ble_eq_true rfl) xs0 k (fun r7 h5 kk => ?_)
  obtain ⟨w6, q8, k⟩ := kk
  refine aw_Vv 17 [.int r3, .int 5, .int r7] [] d_X11_see_47 (cV_X4_setLetter (d + 1) 0 0) kc_4 (ws_17 w6) tw_1045 rfl (rr0 (Nat.le_of_ble_eq_true rfl) (Nat.le_of_ble_eq_true rfl)) (Nat.le_of_ble_eq_true rfl) xs0 k (fun h9 kk => ?_)
  obtain ⟨w10, q12, k⟩ := kk
  refine aw_aload_n (i := 0) rfl d_X11_see_50 0 rfl ?_
  refine aw_getr (k0 := 9) kc_11 (ws_0 w10) (Nat.le_of_ble_eq_true rfl) tw_496 d_X11_see_51 rfl (wr_0_9 w10) ?_
  refine aw_iload d_X11_see_54 4 rfl ?_
  refine aw_bipush (v := 6) d_X11_see_56 ib_6 ?_
  refine aw_aload_n (i := 0) rfl d_X11_see_58 0 rfl ?_
  refine aw_aload_n (i := 1) rfl d_X11_see_59 1 rfl ?_
  refine aw_geti (k0 := 5) kc_2 (q12) (Nat.le_of_ble_eq_true rfl) tw_583 d_X11_see_60 rfl ?_
  refine aw_Vi 0 [.int (h_i h9 x1 5)] [.int 6, .int r3, .ref 17] d_X11_see_63 (cV_X11_countMenAt (d + 0) 0 0) kc_11 (ws_0 w10) tw_1053 rfl (rr0 (Nat.le_of_ble_eq_true rfl) (Nat.le_of_ble_eq_true rfl)) (Nat.le_of_ble_eq_true rfl) xs0 k (fun r15 h13 kk => ?_)
  obtain ⟨w14, q16, k⟩ := kk
  refine aw_Vv 17 [.int r3, .int 6, .int r15] [] d_X11_see_66 (cV_X4_setLetter (d + 1) 0 0) kc_4 (ws_17 w14) tw_1045 rfl (rr0 (Nat.le_of_ble_eq_true rfl) (Nat.le_of_ble_eq_true rfl)) (Nat.le_of_ble_eq_true rfl) xs0 k (fun h17 kk => ?_)
  obtain ⟨w18, q20, k⟩ := kk
  refine aw_aload_n (i := 0) rfl d_X11_see_69 0 rfl ?_
  refine aw_getr (k0 := 4) kc_11 (ws_0 w18) (Nat.le_of_ble_eq_true rfl) tw_491 d_X11_see_70 rfl (wr_0_4 w18) ?_
  refine aw_aload_n (i := 0) rfl d_X11_see_73 0 rfl ?_
  refine aw_getr (k0 := 4) kc_11 (ws_0 w18) (Nat.le_of_ble_eq_true rfl) tw_491 d_X11_see_74 rfl (wr_0_4 w18) ?_
  refine aw_iload_n (i := 3) rfl d_X11_see_77 3 rfl ?_
  refine aw_aload_n (i := 0) rfl d_X11_see_78 0 rfl ?_
  refine aw_geti (k0 := 0) kc_11 (ws_0 w18) (Nat.le_of_ble_eq_true rfl) tw_487 d_X11_see_79 rfl ?_
  refine aw_Vi 13 [.int ((h_i h 0 0) / 1440), .int (h_i h17 0 0)] [.ref 13] d_X11_see_82 (cV_X10_inForce (d + 0) 0 0) kc_10 (ws_13 w18) tw_1057 rfl (rr0 (Nat.le_of_ble_eq_true rfl) (Nat.le_of_ble_eq_true rfl)) (Nat.le_of_ble_eq_true rfl) xs0 k (fun r23 h21 kk => ?_)
  obtain ⟨w22, q24, k⟩ := kk
  refine aw_aload_n (i := 0) rfl d_X11_see_85 0 rfl ?_
  refine aw_getr (k0 := 9) kc_11 (ws_0 w22) (Nat.le_of_ble_eq_true rfl) tw_496 d_X11_see_86 rfl (wr_0_9 w22) ?_
  refine aw_getr (k0 := 15) kc_4 (ws_17 w22) (Nat.le_of_ble_eq_true rfl) tw_214 d_X11_see_89 rfl (wr_17_15 w22) ?_
  refine aw_iload d_X11_see_92 4 rfl ?_
  refine aw_ldcwT (row := 4) (n := 1) (q := 1001) d_X11_see_94 rfl rfl ?_
  refine aw_Ti (i := 1) [] [.int r3, .ref 70, .int r23, .ref 13] (show 1 < 4 by decide) d_X11_see_97 rfl (cV_J0_length_8abf5 (d + 1) 0 0) tw_1062 rfl (rr0 (Nat.le_of_ble_eq_true rfl) (Nat.le_of_ble_eq_true rfl)) (Nat.le_of_ble_eq_true rfl) xs0 k (fun r27 h25 kk => ?_)
  obtain ⟨w26, q28, k⟩ := kk
  refine aw_imul d_X11_see_100 ?_
  refine aw_Vi 13 [.int r23, .ref 70, .int (r3 * r27)] [] d_X11_see_101 (cV_X10_answer (d + 2) 0 0) kc_10 (ws_13 w26) tw_1063 rfl (rr0 (Nat.le_of_ble_eq_true rfl) (Nat.le_of_ble_eq_true rfl)) (Nat.le_of_ble_eq_true rfl) xs0 k (fun r31 h29 kk => ?_)
  obtain ⟨w30, q32, k⟩ := kk
  refine aw_istore [(0, .ref 0), (1, .ref x1), (2, .int x2), (3, .int ((h_i h 0 0) / 1440)), (4, .int r3), (5, .int r31)] d_X11_see_104 (Nat.le_of_ble_eq_true rfl) rfl rfl ?_
  refine aw_iload d_X11_see_106 5 rfl ?_
  refine aw_iconst (v := 3) d_X11_see_108 ic_3 ?_
  refine aw_icmp_ne (tgt := 134) d_X11_see_109 rfl (fun c33 => ?_) (fun c33 => ?_)
  · have k := k.1 c33
    refine aw_iconst (v := (-1)) d_X11_see_134 ic_m1 ?_
    refine aw_istore [(0, .ref 0), (1, .ref x1), (2, .int x2), (3, .int ((h_i h 0 0) / 1440)), (4, .int r3), (5, .int r31), (6, .int (-1))] d_X11_see_135 (Nat.le_of_ble_eq_true rfl) rfl rfl ?_
    refine aw_aload_n (i := 0) rfl d_X11_see_137 0 rfl ?_
    refine aw_getr (k0 := 9) kc_11 (ws_0 w30) (Nat.le_of_ble_eq_true rfl) tw_496 d_X11_see_138 rfl (wr_0_9 w30) ?_
    refine aw_iload d_X11_see_141 4 rfl ?_
    refine aw_iload d_X11_see_143 5 rfl ?_
    refine aw_iload d_X11_see_145 6 rfl ?_
    refine aw_aload_n (i := 0) rfl d_X11_see_147 0 rfl ?_
    refine aw_getr (k0 := 1) kc_11 (ws_0 w30) (Nat.le_of_ble_eq_true rfl) tw_488 d_X11_see_148 rfl (wr_0_1 w30) ?_
    refine aw_aload_n (i := 1) rfl d_X11_see_151 1 rfl ?_
    refine aw_geti (k0 := 5) kc_2 (q32) (Nat.le_of_ble_eq_true rfl) tw_583 d_X11_see_152 rfl ?_
    refine aw_iconst (v := 0) d_X11_see_155 ic_0 ?_
    refine aw_Vi 10 [.int (h_i h29 x1 5), .int 0] [.int (-1), .int r31, .int r3, .ref 17] d_X11_see_156 (cV_X9_minutes (d + 1) 0 0) kc_9 (ws_10 w30) tw_557 rfl (rr0 (Nat.le_of_ble_eq_true rfl) (Nat.le_of_ble_eq_true rfl)) (Nat.le_of_ble_eq_true rfl) xs0 k (fun r36 h34 kk => ?_)
    obtain ⟨w35, k⟩ := kk
    refine aw_Vv 17 [.int r3, .int r31, .int (-1), .int r36] [] d_X11_see_159 (cV_X4_settle (d + 1) 0 0) kc_4 (ws_17 w35) tw_1090 rfl (rr0 (Nat.le_of_ble_eq_true rfl) (Nat.le_of_ble_eq_true rfl)) (Nat.le_of_ble_eq_true rfl) xs0 k (fun h37 kk => ?_)
    obtain ⟨w38, k⟩ := kk
    exact aw_vret rfl d_X11_see_162 ⟨Nat.le_refl _, Nat.le_refl _⟩ ⟨rfl, k⟩
  · have k := k.2 c33
    refine aw_aload_n (i := 0) rfl d_X11_see_112 0 rfl ?_
    refine aw_getr (k0 := 10) kc_11 (ws_0 w30) (Nat.le_of_ble_eq_true rfl) tw_497 d_X11_see_113 rfl (wr_0_10 w30) ?_
    refine aw_aload_n (i := 0) rfl d_X11_see_116 0 rfl ?_
    refine aw_getr (k0 := 9) kc_11 (ws_0 w30) (Nat.le_of_ble_eq_true rfl) tw_496 d_X11_see_117 rfl (wr_0_9 w30) ?_
    refine aw_iload_n (i := 2) rfl d_X11_see_120 2 rfl ?_
    refine aw_Vi 17 [.int x2] [.ref 18] d_X11_see_121 (cV_X4_kindOf (d + 1) 0 0) kc_4 (ws_17 w30) tw_1082 rfl (rr0 (Nat.le_of_ble_eq_true rfl) (Nat.le_of_ble_eq_true rfl)) (Nat.le_of_ble_eq_true rfl) xs0 k (fun r42 h40 kk => ?_)
    obtain ⟨w41, q43, k⟩ := kk
    refine aw_aload_n (i := 0) rfl d_X11_see_124 0 rfl ?_
    refine aw_geti (k0 := 0) kc_11 (ws_0 w41) (Nat.le_of_ble_eq_true rfl) tw_487 d_X11_see_125 rfl ?_
    refine aw_Vi 18 [.int r42, .int (h_i h40 0 0)] [] d_X11_see_128 (cV_X1_start (d + 0) 0 0) kc_1 (ws_18 w41) tw_1086 rfl (rr0 (Nat.le_of_ble_eq_true rfl) (Nat.le_of_ble_eq_true rfl)) (Nat.le_of_ble_eq_true rfl) xs0 k (fun r46 h44 kk => ?_)
    obtain ⟨w45, q47, k⟩ := kk
    refine aw_goto (tgt := 135) d_X11_see_131 rfl ?_
    refine aw_istore [(0, .ref 0), (1, .ref x1), (2, .int x2), (3, .int ((h_i h 0 0) / 1440)), (4, .int r3), (5, .int r31), (6, .int r46)] d_X11_see_135 (Nat.le_of_ble_eq_true rfl) rfl rfl ?_
    refine aw_aload_n (i := 0) rfl d_X11_see_137 0 rfl ?_
    refine aw_getr (k0 := 9) kc_11 (ws_0 w45) (Nat.le_of_ble_eq_true rfl) tw_496 d_X11_see_138 rfl (wr_0_9 w45) ?_
    refine aw_iload d_X11_see_141 4 rfl ?_
    refine aw_iload d_X11_see_143 5 rfl ?_
    refine aw_iload d_X11_see_145 6 rfl ?_
    refine aw_aload_n (i := 0) rfl d_X11_see_147 0 rfl ?_
    refine aw_getr (k0 := 1) kc_11 (ws_0 w45) (Nat.le_of_ble_eq_true rfl) tw_488 d_X11_see_148 rfl (wr_0_1 w45) ?_
    refine aw_aload_n (i := 1) rfl d_X11_see_151 1 rfl ?_
    refine aw_geti (k0 := 5) kc_2 (q47) (Nat.le_of_ble_eq_true rfl) tw_583 d_X11_see_152 rfl ?_
    refine aw_iconst (v := 0) d_X11_see_155 ic_0 ?_
    refine aw_Vi 10 [.int (h_i h44 x1 5), .int 0] [.int r46, .int r31, .int r3, .ref 17] d_X11_see_156 (cV_X9_minutes (d + 1) 0 0) kc_9 (ws_10 w45) tw_557 rfl (rr0 (Nat.le_of_ble_eq_true rfl) (Nat.le_of_ble_eq_true rfl)) (Nat.le_of_ble_eq_true rfl) xs0 k (fun r50 h48 kk => ?_)
    obtain ⟨w49, k⟩ := kk
    refine aw_Vv 17 [.int r3, .int r31, .int r46, .int r50] [] d_X11_see_159 (cV_X4_settle (d + 1) 0 0) kc_4 (ws_17 w49) tw_1090 rfl (rr0 (Nat.le_of_ble_eq_true rfl) (Nat.le_of_ble_eq_true rfl)) (Nat.le_of_ble_eq_true rfl) xs0 k (fun h51 kk => ?_)
    obtain ⟨w52, k⟩ := kk
    exact aw_vret rfl d_X11_see_162 ⟨Nat.le_refl _, Nat.le_refl _⟩ ⟨rfl, k⟩
theorem t_X4_canBeSeen (d : Nat) (h : Hp_) (w : Wf h) (x1 : Int32) (x2 : Int32) (x3 : Int32) (K : Int32 → Hp_ → Prop) (k : (¬ (0 ≤ x1 ∧ x1 ≤ ((h_i h 17 7) - 1)) → K 0 h) ∧ ((0 ≤ x1 ∧ x1 ≤ ((h_i h 17 7) - 1)) → (300 ≤ (h_i h 17 16) → K 0 h) ∧ (¬ 300 ≤ (h_i h 17 16) → vp_in x1 80 ∧ ((¬ (h_i h 63 x1.toNatClampNeg) = 0 → K 0 h) ∧ ((h_i h 63 x1.toNatClampNeg) = 0 → vp_in x1 80 ∧ ((¬ (h_i h 58 x1.toNatClampNeg) = x2 → K 0 h) ∧ ((h_i h 58 x1.toNatClampNeg) = x2 → vp_in x1 80 ∧ (vp_in x1 80 ∧ ((¬ ((h_i h 59 x1.toNatClampNeg) ≤ x3 ∧ x3 ≤ (h_i h 60 x1.toNatClampNeg)) → K 0 h) ∧ (((h_i h 59 x1.toNatClampNeg) ≤ x3 ∧ x3 ≤ (h_i h 60 x1.toNatClampNeg)) → K 1 h)))))))))) : Ci (m_X4_canBeSeen (d + 1) 0 0) [.ref 17, .int x1, .int x2, .int x3] h K := by
  refine Ct.of (fun _ _ _ => trivial) pn_X4 (Nat.le_of_ble_eq_true rfl) ?_
  show AW (m_X4_canBeSeen (d + 1) 0 0) 0 0 0 [(0, .ref 17), (1, .int x1), (2, .int x2), (3, .int x3)] [] h (kI K)
  refine aw_iload_n (i := 1) rfl d_X4_canBeSeen_0 1 rfl ?_
  refine aw_iconst (v := 0) d_X4_canBeSeen_1 ic_0 ?_
  refine aw_aload_n (i := 0) rfl d_X4_canBeSeen_2 0 rfl ?_
  refine aw_geti (k0 := 7) kc_4 (ws_17 w) (Nat.le_of_ble_eq_true rfl) tw_203 d_X4_canBeSeen_3 rfl ?_
  refine aw_iconst (v := 1) d_X4_canBeSeen_6 ic_1 ?_
  refine aw_isub d_X4_canBeSeen_7 ?_
  refine aw_SNi [.int x1, .int 0, .int ((h_i h 17 7) - 1)] [] d_X4_canBeSeen_8 (cS_X11_within (d + 0) 0 0) (List.mem_of_getElem? (i := 9) rfl) rfl (rr0 (Nat.le_of_ble_eq_true rfl) (Nat.le_of_ble_eq_true rfl)) (Nat.le_of_ble_eq_true rfl) xs0 (s_X11_within _ _ x1 0 ((h_i h 17 7) - 1)) (fun _ _ kk => ?_)
  obtain ⟨e1, e2⟩ := kk
  rw [e1, e2]
  refine aw_ifb_eq (tgt := 37) d_X4_canBeSeen_11 rfl (fun c3 => ?_) (fun c3 => ?_)
  · have k := k.1 c3
    refine aw_iconst (v := 0) d_X4_canBeSeen_37 ic_0 ?_
    refine aw_istore [(0, .ref 17), (1, .int x1), (2, .int x2), (3, .int x3), (4, .int 0)] d_X4_canBeSeen_38 (Nat.le_of_ble_eq_true rfl) rfl rfl ?_
    refine aw_iload d_X4_canBeSeen_40 4 rfl ?_
    refine aw_if_eq (tgt := 78) d_X4_canBeSeen_42 rfl (fun _ => ?_) (fun c => absurd c (by decide))
    refine aw_iconst (v := 0) d_X4_canBeSeen_78 ic_0 ?_
    exact aw_zret rfl rfl d_X4_canBeSeen_79 ⟨Nat.le_refl _, Nat.le_refl _⟩ ⟨_, rfl, k⟩
  · have k := k.2 c3
    refine aw_aload_n (i := 0) rfl d_X4_canBeSeen_14 0 rfl ?_
    refine aw_geti (k0 := 16) kc_4 (ws_17 w) (Nat.le_of_ble_eq_true rfl) tw_215 d_X4_canBeSeen_15 rfl ?_
    refine aw_sipush (v := 300) d_X4_canBeSeen_18 is_300 ?_
    refine aw_icmp_ge (tgt := 37) d_X4_canBeSeen_21 rfl (fun c5 => ?_) (fun c5 => ?_)
    · have k := k.1 c5
      refine aw_iconst (v := 0) d_X4_canBeSeen_37 ic_0 ?_
      refine aw_istore [(0, .ref 17), (1, .int x1), (2, .int x2), (3, .int x3), (4, .int 0)] d_X4_canBeSeen_38 (Nat.le_of_ble_eq_true rfl) rfl rfl ?_
      refine aw_iload d_X4_canBeSeen_40 4 rfl ?_
      refine aw_if_eq (tgt := 78) d_X4_canBeSeen_42 rfl (fun _ => ?_) (fun c => absurd c (by decide))
      refine aw_iconst (v := 0) d_X4_canBeSeen_78 ic_0 ?_
      exact aw_zret rfl rfl d_X4_canBeSeen_79 ⟨Nat.le_refl _, Nat.le_refl _⟩ ⟨_, rfl, k⟩
    · have k := k.2 c5
      refine aw_aload_n (i := 0) rfl d_X4_canBeSeen_24 0 rfl ?_
      refine aw_getr (k0 := 6) kc_4 (ws_17 w) (Nat.le_of_ble_eq_true rfl) tw_202 d_X4_canBeSeen_25 rfl (wr_17_6 w) ?_
      refine aw_iload_n (i := 1) rfl d_X4_canBeSeen_28 1 rfl ?_
      obtain ⟨b7, k⟩ := k
      refine aw_zald (ws_63 w) b7 d_X4_canBeSeen_29 ?_
      refine aw_if_ne (tgt := 37) d_X4_canBeSeen_30 rfl (fun c8 => ?_) (fun c8 => ?_)
      · have k := k.1 c8
        refine aw_iconst (v := 0) d_X4_canBeSeen_37 ic_0 ?_
        refine aw_istore [(0, .ref 17), (1, .int x1), (2, .int x2), (3, .int x3), (4, .int 0)] d_X4_canBeSeen_38 (Nat.le_of_ble_eq_true rfl) rfl rfl ?_
        refine aw_iload d_X4_canBeSeen_40 4 rfl ?_
        refine aw_if_eq (tgt := 78) d_X4_canBeSeen_42 rfl (fun _ => ?_) (fun c => absurd c (by decide))
        refine aw_iconst (v := 0) d_X4_canBeSeen_78 ic_0 ?_
        exact aw_zret rfl rfl d_X4_canBeSeen_79 ⟨Nat.le_refl _, Nat.le_refl _⟩ ⟨_, rfl, k⟩
      · have k := k.2 c8
        refine aw_iconst (v := 1) d_X4_canBeSeen_33 ic_1 ?_
        refine aw_goto (tgt := 38) d_X4_canBeSeen_34 rfl ?_
        refine aw_istore [(0, .ref 17), (1, .int x1), (2, .int x2), (3, .int x3), (4, .int 1)] d_X4_canBeSeen_38 (Nat.le_of_ble_eq_true rfl) rfl rfl ?_
        refine aw_iload d_X4_canBeSeen_40 4 rfl ?_
        refine aw_if_eq (tgt := 78) d_X4_canBeSeen_42 rfl (fun c => absurd c (by decide)) (fun _ => ?_)
        refine aw_aload_n (i := 0) rfl d_X4_canBeSeen_45 0 rfl ?_
        refine aw_getr (k0 := 1) kc_4 (ws_17 w) (Nat.le_of_ble_eq_true rfl) tw_197 d_X4_canBeSeen_46 rfl (wr_17_1 w) ?_
        refine aw_iload_n (i := 1) rfl d_X4_canBeSeen_49 1 rfl ?_
        obtain ⟨b11, k⟩ := k
        refine aw_iald (ws_58 w) b11 d_X4_canBeSeen_50 ?_
        refine aw_iload_n (i := 2) rfl d_X4_canBeSeen_51 2 rfl ?_
        refine aw_icmp_ne (tgt := 78) d_X4_canBeSeen_52 rfl (fun c12 => ?_) (fun c12 => ?_)
        · have k := k.1 c12
          refine aw_iconst (v := 0) d_X4_canBeSeen_78 ic_0 ?_
          exact aw_zret rfl rfl d_X4_canBeSeen_79 ⟨Nat.le_refl _, Nat.le_refl _⟩ ⟨_, rfl, k⟩
        · have k := k.2 c12
          refine aw_iload_n (i := 3) rfl d_X4_canBeSeen_55 3 rfl ?_
          refine aw_aload_n (i := 0) rfl d_X4_canBeSeen_56 0 rfl ?_
          refine aw_getr (k0 := 2) kc_4 (ws_17 w) (Nat.le_of_ble_eq_true rfl) tw_198 d_X4_canBeSeen_57 rfl (wr_17_2 w) ?_
          refine aw_iload_n (i := 1) rfl d_X4_canBeSeen_60 1 rfl ?_
          obtain ⟨b13, k⟩ := k
          refine aw_iald (ws_59 w) b13 d_X4_canBeSeen_61 ?_
          refine aw_aload_n (i := 0) rfl d_X4_canBeSeen_62 0 rfl ?_
          refine aw_getr (k0 := 3) kc_4 (ws_17 w) (Nat.le_of_ble_eq_true rfl) tw_199 d_X4_canBeSeen_63 rfl (wr_17_3 w) ?_
          refine aw_iload_n (i := 1) rfl d_X4_canBeSeen_66 1 rfl ?_
          obtain ⟨b14, k⟩ := k
          refine aw_iald (ws_60 w) b14 d_X4_canBeSeen_67 ?_
          refine aw_SNi [.int x3, .int (h_i h 59 x1.toNatClampNeg), .int (h_i h 60 x1.toNatClampNeg)] [] d_X4_canBeSeen_68 (cS_X11_within (d + 0) 0 0) (List.mem_of_getElem? (i := 9) rfl) rfl (rr0 (Nat.le_of_ble_eq_true rfl) (Nat.le_of_ble_eq_true rfl)) (Nat.le_of_ble_eq_true rfl) xs0 (s_X11_within _ _ x3 (h_i h 59 x1.toNatClampNeg) (h_i h 60 x1.toNatClampNeg)) (fun _ _ kk => ?_)
          obtain ⟨e15, e16⟩ := kk
          rw [e15, e16]
          refine aw_ifb_eq (tgt := 78) d_X4_canBeSeen_71 rfl (fun c17 => ?_) (fun c17 => ?_)
          · have k := k.1 c17
            refine aw_iconst (v := 0) d_X4_canBeSeen_78 ic_0 ?_
            exact aw_zret rfl rfl d_X4_canBeSeen_79 ⟨Nat.le_refl _, Nat.le_refl _⟩ ⟨_, rfl, k⟩
          · have k := k.2 c17
            refine aw_iconst (v := 1) d_X4_canBeSeen_74 ic_1 ?_
            refine aw_goto (tgt := 79) d_X4_canBeSeen_75 rfl ?_
            exact aw_zret rfl rfl d_X4_canBeSeen_79 ⟨Nat.le_refl _, Nat.le_refl _⟩ ⟨_, rfl, k⟩
theorem imx {h : Hp_} {a b k j : Nat} {x r : Int32} (n : Nat.beq b a = false) (e : h_i h b j = r) : h_i (h_im h a k x) b j = r := by
  rw [h_i_im, if_neg (fun q => Nat.ne_of_beq_eq_false n q.1)]
  exact e
theorem t_X4_write (d : Nat) (h : Hp_) (w : Wf h) (x1 : Int32) (x2 : Int32) (x3 : Int32) (K : Int32 → Hp_ → Prop) (k : (300 ≤ (h_i h 17 16) → K (-1) h) ∧ (¬ 300 ≤ (h_i h 17 16) → ((0 ≤ x2 ∧ x2 ≤ ((h_i h 17 7) - 1)) → vp_in (h_i h 17 16) 300 ∧ (vp_in (h_i h 17 16) 300 ∧ (vp_in (h_i h 17 16) 300 ∧ (vp_in (h_i h 17 16) 300 ∧ (vp_in (h_i h 17 16) 300 ∧ (vp_in (h_i h 17 16) 300 ∧ (vp_in x2 80 ∧ (vp_in ((h_i h 17 16) * 9) 2700 ∧ (vp_in x2 80 ∧ (vp_in (((h_i h 17 16) * 9) + 1) 2700 ∧ (vp_in x2 80 ∧ (vp_in (((h_i h 17 16) * 9) + 2) 2700 ∧ (vp_in (((h_i h 17 16) * 9) + 3) 2700 ∧ (vp_in (((h_i h 17 16) * 9) + 4) 2700 ∧ (vp_in x2 80 ∧ (vp_in (((h_i h 17 16) * 9) + 7) 2700 ∧ (vp_in x2 80 ∧ (vp_in (((h_i h 17 16) * 9) + 8) 2700 ∧ (vp_in x2 80 ∧ (vp_in x2 80 ∧ (K (h_i h 17 16) (h_im (h_im (h_im (h_im (h_im (h_im (h_im (h_im (h_im (h_im (h_im (h_im (h_im (h_im (h_im h 64 ((h_i h 17 16) : Int32).toNatClampNeg x1) 65 ((h_i h 17 16) : Int32).toNatClampNeg x2) 66 ((h_i h 17 16) : Int32).toNatClampNeg x3) 67 ((h_i h 17 16) : Int32).toNatClampNeg 0) 68 ((h_i h 17 16) : Int32).toNatClampNeg (-1)) 69 ((h_i h 17 16) : Int32).toNatClampNeg (-1)) 17 16 ((h_i h 17 16) + 1)) 70 (((h_i h 17 16) * 9) : Int32).toNatClampNeg (h_i h 57 x2.toNatClampNeg)) 70 ((((h_i h 17 16) * 9) + 1) : Int32).toNatClampNeg (h_i h 61 x2.toNatClampNeg)) 70 ((((h_i h 17 16) * 9) + 2) : Int32).toNatClampNeg (h_i h 58 x2.toNatClampNeg)) 70 ((((h_i h 17 16) * 9) + 3) : Int32).toNatClampNeg ((x3 - x3 / 1440 * 1440) / 60)) 70 ((((h_i h 17 16) * 9) + 4) : Int32).toNatClampNeg (x3 / 1440)) 70 ((((h_i h 17 16) * 9) + 7) : Int32).toNatClampNeg (h_i h 62 x2.toNatClampNeg)) 70 ((((h_i h 17 16) * 9) + 8) : Int32).toNatClampNeg (x3 - (h_i h 59 x2.toNatClampNeg))) 62 x2.toNatClampNeg ((h_i h 62 x2.toNatClampNeg) + 1))))))))))))))))))))))) ∧ (¬ (0 ≤ x2 ∧ x2 ≤ ((h_i h 17 7) - 1)) → K (-1) h))) : Ci (m_X4_write (d + 1) 0 0) [.ref 17, .int x1, .int x2, .int x3] h K := by
  refine Ct.of (fun _ _ _ => trivial) pn_X4 (Nat.le_of_ble_eq_true rfl) ?_
  show AW (m_X4_write (d + 1) 0 0) 0 0 0 [(0, .ref 17), (1, .int x1), (2, .int x2), (3, .int x3)] [] h (kI K)
  refine aw_aload_n (i := 0) rfl d_X4_write_0 0 rfl ?_
  refine aw_geti (k0 := 16) kc_4 (ws_17 w) (Nat.le_of_ble_eq_true rfl) tw_215 d_X4_write_1 rfl ?_
  refine aw_sipush (v := 300) d_X4_write_4 is_300 ?_
  refine aw_icmp_ge (tgt := 24) d_X4_write_7 rfl (fun c1 => ?_) (fun c1 => ?_)
  · have k := k.1 c1
    refine aw_iconst (v := (-1)) d_X4_write_24 ic_m1 ?_
    exact aw_iret rfl d_X4_write_25 ⟨Nat.le_refl _, Nat.le_refl _⟩ ⟨_, rfl, k⟩
  · have k := k.2 c1
    refine aw_iload_n (i := 2) rfl d_X4_write_10 2 rfl ?_
    refine aw_iconst (v := 0) d_X4_write_11 ic_0 ?_
    refine aw_aload_n (i := 0) rfl d_X4_write_12 0 rfl ?_
    refine aw_geti (k0 := 7) kc_4 (ws_17 w) (Nat.le_of_ble_eq_true rfl) tw_203 d_X4_write_13 rfl ?_
    refine aw_iconst (v := 1) d_X4_write_16 ic_1 ?_
    refine aw_isub d_X4_write_17 ?_
    refine aw_SNi [.int x2, .int 0, .int ((h_i h 17 7) - 1)] [] d_X4_write_18 (cS_X11_within (d + 0) 0 0) (List.mem_of_getElem? (i := 9) rfl) rfl (rr0 (Nat.le_of_ble_eq_true rfl) (Nat.le_of_ble_eq_true rfl)) (Nat.le_of_ble_eq_true rfl) xs0 (s_X11_within _ _ x2 0 ((h_i h 17 7) - 1)) (fun _ _ kk => ?_)
    obtain ⟨e2, e3⟩ := kk
    rw [e2, e3]
    refine aw_ifb_ne (tgt := 26) d_X4_write_21 rfl (fun c4 => ?_) (fun c4 => ?_)
    · have k := k.1 c4
      refine aw_aload_n (i := 0) rfl d_X4_write_26 0 rfl ?_
      refine aw_geti (k0 := 16) kc_4 (ws_17 w) (Nat.le_of_ble_eq_true rfl) tw_215 d_X4_write_27 rfl ?_
      refine aw_istore [(0, .ref 17), (1, .int x1), (2, .int x2), (3, .int x3), (4, .int (h_i h 17 16))] d_X4_write_30 (Nat.le_of_ble_eq_true rfl) rfl rfl ?_
      refine aw_aload_n (i := 0) rfl d_X4_write_32 0 rfl ?_
      refine aw_getr (k0 := 9) kc_4 (ws_17 w) (Nat.le_of_ble_eq_true rfl) tw_207 d_X4_write_33 rfl (wr_17_9 w) ?_
      refine aw_iload d_X4_write_36 4 rfl ?_
      refine aw_iload_n (i := 1) rfl d_X4_write_38 1 rfl ?_
      obtain ⟨b5, k⟩ := k
      refine aw_iast (ws_64 w) b5 d_X4_write_39 ?_
      refine aw_aload_n (i := 0) rfl d_X4_write_40 0 rfl ?_
      refine aw_getr (k0 := 10) kc_4 (ws_17 (w.im _ _ _)) (Nat.le_of_ble_eq_true rfl) tw_208 d_X4_write_41 rfl (wr_17_10 (w.im _ _ _)) ?_
      refine aw_iload d_X4_write_44 4 rfl ?_
      refine aw_iload_n (i := 2) rfl d_X4_write_46 2 rfl ?_
      obtain ⟨b6, k⟩ := k
      refine aw_iast (ws_65 (w.im _ _ _)) b6 d_X4_write_47 ?_
      refine aw_aload_n (i := 0) rfl d_X4_write_48 0 rfl ?_
      refine aw_getr (k0 := 11) kc_4 (ws_17 ((w.im _ _ _).im _ _ _)) (Nat.le_of_ble_eq_true rfl) tw_209 d_X4_write_49 rfl (wr_17_11 ((w.im _ _ _).im _ _ _)) ?_
      refine aw_iload d_X4_write_52 4 rfl ?_
      refine aw_iload_n (i := 3) rfl d_X4_write_54 3 rfl ?_
      obtain ⟨b7, k⟩ := k
      refine aw_iast (ws_66 ((w.im _ _ _).im _ _ _)) b7 d_X4_write_55 ?_
      refine aw_aload_n (i := 0) rfl d_X4_write_56 0 rfl ?_
      refine aw_getr (k0 := 12) kc_4 (ws_17 (((w.im _ _ _).im _ _ _).im _ _ _)) (Nat.le_of_ble_eq_true rfl) tw_210 d_X4_write_57 rfl (wr_17_12 (((w.im _ _ _).im _ _ _).im _ _ _)) ?_
      refine aw_iload d_X4_write_60 4 rfl ?_
      refine aw_iconst (v := 0) d_X4_write_62 ic_0 ?_
      obtain ⟨b8, k⟩ := k
      refine aw_iast (ws_67 (((w.im _ _ _).im _ _ _).im _ _ _)) b8 d_X4_write_63 ?_
      refine aw_aload_n (i := 0) rfl d_X4_write_64 0 rfl ?_
      refine aw_getr (k0 := 13) kc_4 (ws_17 ((((w.im _ _ _).im _ _ _).im _ _ _).im _ _ _)) (Nat.le_of_ble_eq_true rfl) tw_211 d_X4_write_65 rfl (wr_17_13 ((((w.im _ _ _).im _ _ _).im _ _ _).im _ _ _)) ?_
      refine aw_iload d_X4_write_68 4 rfl ?_
      refine aw_iconst (v := (-1)) d_X4_write_70 ic_m1 ?_
      obtain ⟨b9, k⟩ := k
      refine aw_iast (ws_68 ((((w.im _ _ _).im _ _ _).im _ _ _).im _ _ _)) b9 d_X4_write_71 ?_
      refine aw_aload_n (i := 0) rfl d_X4_write_72 0 rfl ?_
      refine aw_getr (k0 := 14) kc_4 (ws_17 (((((w.im _ _ _).im _ _ _).im _ _ _).im _ _ _).im _ _ _)) (Nat.le_of_ble_eq_true rfl) tw_212 d_X4_write_73 rfl (wr_17_14 (((((w.im _ _ _).im _ _ _).im _ _ _).im _ _ _).im _ _ _)) ?_
      refine aw_iload d_X4_write_76 4 rfl ?_
      refine aw_iconst (v := (-1)) d_X4_write_78 ic_m1 ?_
      obtain ⟨b10, k⟩ := k
      refine aw_iast (ws_69 (((((w.im _ _ _).im _ _ _).im _ _ _).im _ _ _).im _ _ _)) b10 d_X4_write_79 ?_
      refine aw_aload_n (i := 0) rfl d_X4_write_80 0 rfl ?_
      refine aw_dup d_X4_write_81 rfl ?_
      refine aw_geti (k0 := 16) kc_4 (ws_17 ((((((w.im _ _ _).im _ _ _).im _ _ _).im _ _ _).im _ _ _).im _ _ _)) (Nat.le_of_ble_eq_true rfl) tw_215 d_X4_write_82 rfl ?_
      refine aw_vi (v2 := (h_i h 17 16)) (imx rfl (imx rfl (imx rfl (imx rfl (imx rfl (imx rfl rfl)))))) ?_
      refine aw_iconst (v := 1) d_X4_write_85 ic_1 ?_
      refine aw_iadd d_X4_write_86 ?_
      refine aw_puti (k0 := 16) kc_4 (ws_17 ((((((w.im _ _ _).im _ _ _).im _ _ _).im _ _ _).im _ _ _).im _ _ _)) (Nat.le_of_ble_eq_true rfl) tw_215 d_X4_write_87 rfl rfl nf_i ?_
      refine aw_iload d_X4_write_90 4 rfl ?_
      refine aw_bipush (v := 9) d_X4_write_92 ib_9 ?_
      refine aw_imul d_X4_write_94 ?_
      refine aw_istore [(0, .ref 17), (1, .int x1), (2, .int x2), (3, .int x3), (4, .int (h_i h 17 16)), (5, .int ((h_i h 17 16) * 9))] d_X4_write_95 (Nat.le_of_ble_eq_true rfl) rfl rfl ?_
      refine aw_aload_n (i := 0) rfl d_X4_write_97 0 rfl ?_
      refine aw_getr (k0 := 15) kc_4 (ws_17 (((((((w.im _ _ _).im _ _ _).im _ _ _).im _ _ _).im _ _ _).im _ _ _).im _ _ _)) (Nat.le_of_ble_eq_true rfl) tw_213 d_X4_write_98 rfl (wr_17_15 (((((((w.im _ _ _).im _ _ _).im _ _ _).im _ _ _).im _ _ _).im _ _ _).im _ _ _)) ?_
      refine aw_iload d_X4_write_101 5 rfl ?_
      refine aw_aload_n (i := 0) rfl d_X4_write_103 0 rfl ?_
      refine aw_getr (k0 := 0) kc_4 (ws_17 (((((((w.im _ _ _).im _ _ _).im _ _ _).im _ _ _).im _ _ _).im _ _ _).im _ _ _)) (Nat.le_of_ble_eq_true rfl) tw_196 d_X4_write_104 rfl (wr_17_0 (((((((w.im _ _ _).im _ _ _).im _ _ _).im _ _ _).im _ _ _).im _ _ _).im _ _ _)) ?_
      refine aw_iload_n (i := 2) rfl d_X4_write_107 2 rfl ?_
      obtain ⟨b11, k⟩ := k
      refine aw_iald (ws_57 (((((((w.im _ _ _).im _ _ _).im _ _ _).im _ _ _).im _ _ _).im _ _ _).im _ _ _)) b11 d_X4_write_108 ?_
      refine aw_vi (v2 := (h_i h 57 x2.toNatClampNeg)) (imx rfl (imx rfl (imx rfl (imx rfl (imx rfl (imx rfl (imx rfl rfl))))))) ?_
      obtain ⟨b12, k⟩ := k
      refine aw_iast (ws_70 (((((((w.im _ _ _).im _ _ _).im _ _ _).im _ _ _).im _ _ _).im _ _ _).im _ _ _)) b12 d_X4_write_109 ?_
      refine aw_aload_n (i := 0) rfl d_X4_write_110 0 rfl ?_
      refine aw_getr (k0 := 15) kc_4 (ws_17 ((((((((w.im _ _ _).im _ _ _).im _ _ _).im _ _ _).im _ _ _).im _ _ _).im _ _ _).im _ _ _)) (Nat.le_of_ble_eq_true rfl) tw_213 d_X4_write_111 rfl (wr_17_15 ((((((((w.im _ _ _).im _ _ _).im _ _ _).im _ _ _).im _ _ _).im _ _ _).im _ _ _).im _ _ _)) ?_
      refine aw_iload d_X4_write_114 5 rfl ?_
      refine aw_iconst (v := 1) d_X4_write_116 ic_1 ?_
      refine aw_iadd d_X4_write_117 ?_
      refine aw_aload_n (i := 0) rfl d_X4_write_118 0 rfl ?_
      refine aw_getr (k0 := 4) kc_4 (ws_17 ((((((((w.im _ _ _).im _ _ _).im _ _ _).im _ _ _).im _ _ _).im _ _ _).im _ _ _).im _ _ _)) (Nat.le_of_ble_eq_true rfl) tw_200 d_X4_write_119 rfl (wr_17_4 ((((((((w.im _ _ _).im _ _ _).im _ _ _).im _ _ _).im _ _ _).im _ _ _).im _ _ _).im _ _ _)) ?_
      refine aw_iload_n (i := 2) rfl d_X4_write_122 2 rfl ?_
      obtain ⟨b13, k⟩ := k
      refine aw_iald (ws_61 ((((((((w.im _ _ _).im _ _ _).im _ _ _).im _ _ _).im _ _ _).im _ _ _).im _ _ _).im _ _ _)) b13 d_X4_write_123 ?_
      refine aw_vi (v2 := (h_i h 61 x2.toNatClampNeg)) (imx rfl (imx rfl (imx rfl (imx rfl (imx rfl (imx rfl (imx rfl (imx rfl rfl)))))))) ?_
      obtain ⟨b14, k⟩ := k
      refine aw_iast (ws_70 ((((((((w.im _ _ _).im _ _ _).im _ _ _).im _ _ _).im _ _ _).im _ _ _).im _ _ _).im _ _ _)) b14 d_X4_write_124 ?_
      refine aw_aload_n (i := 0) rfl d_X4_write_125 0 rfl ?_
      refine aw_getr (k0 := 15) kc_4 (ws_17 (((((((((w.im _ _ _).im _ _ _).im _ _ _).im _ _ _).im _ _ _).im _ _ _).im _ _ _).im _ _ _).im _ _ _)) (Nat.le_of_ble_eq_true rfl) tw_213 d_X4_write_126 rfl (wr_17_15 (((((((((w.im _ _ _).im _ _ _).im _ _ _).im _ _ _).im _ _ _).im _ _ _).im _ _ _).im _ _ _).im _ _ _)) ?_
      refine aw_iload d_X4_write_129 5 rfl ?_
      refine aw_iconst (v := 2) d_X4_write_131 ic_2 ?_
      refine aw_iadd d_X4_write_132 ?_
      refine aw_aload_n (i := 0) rfl d_X4_write_133 0 rfl ?_
      refine aw_getr (k0 := 1) kc_4 (ws_17 (((((((((w.im _ _ _).im _ _ _).im _ _ _).im _ _ _).im _ _ _).im _ _ _).im _ _ _).im _ _ _).im _ _ _)) (Nat.le_of_ble_eq_true rfl) tw_197 d_X4_write_134 rfl (wr_17_1 (((((((((w.im _ _ _).im _ _ _).im _ _ _).im _ _ _).im _ _ _).im _ _ _).im _ _ _).im _ _ _).im _ _ _)) ?_
      refine aw_iload_n (i := 2) rfl d_X4_write_137 2 rfl ?_
      obtain ⟨b15, k⟩ := k
      refine aw_iald (ws_58 (((((((((w.im _ _ _).im _ _ _).im _ _ _).im _ _ _).im _ _ _).im _ _ _).im _ _ _).im _ _ _).im _ _ _)) b15 d_X4_write_138 ?_
      refine aw_vi (v2 := (h_i h 58 x2.toNatClampNeg)) (imx rfl (imx rfl (imx rfl (imx rfl (imx rfl (imx rfl (imx rfl (imx rfl (imx rfl rfl))))))))) ?_
      obtain ⟨b16, k⟩ := k
      refine aw_iast (ws_70 (((((((((w.im _ _ _).im _ _ _).im _ _ _).im _ _ _).im _ _ _).im _ _ _).im _ _ _).im _ _ _).im _ _ _)) b16 d_X4_write_139 ?_
      refine aw_aload_n (i := 0) rfl d_X4_write_140 0 rfl ?_
      refine aw_getr (k0 := 15) kc_4 (ws_17 ((((((((((w.im _ _ _).im _ _ _).im _ _ _).im _ _ _).im _ _ _).im _ _ _).im _ _ _).im _ _ _).im _ _ _).im _ _ _)) (Nat.le_of_ble_eq_true rfl) tw_213 d_X4_write_141 rfl (wr_17_15 ((((((((((w.im _ _ _).im _ _ _).im _ _ _).im _ _ _).im _ _ _).im _ _ _).im _ _ _).im _ _ _).im _ _ _).im _ _ _)) ?_
      refine aw_iload d_X4_write_144 5 rfl ?_
      refine aw_iconst (v := 3) d_X4_write_146 ic_3 ?_
      refine aw_iadd d_X4_write_147 ?_
      refine aw_iload_n (i := 3) rfl d_X4_write_148 3 rfl ?_
      refine aw_sipush (v := 1440) d_X4_write_149 is_1440 ?_
      refine aw_irem d_X4_write_152 (by decide) ?_
      refine aw_bipush (v := 60) d_X4_write_153 ib_60 ?_
      refine aw_idiv d_X4_write_155 (by decide) ?_
      obtain ⟨b17, k⟩ := k
      refine aw_iast (ws_70 ((((((((((w.im _ _ _).im _ _ _).im _ _ _).im _ _ _).im _ _ _).im _ _ _).im _ _ _).im _ _ _).im _ _ _).im _ _ _)) b17 d_X4_write_156 ?_
      refine aw_aload_n (i := 0) rfl d_X4_write_157 0 rfl ?_
      refine aw_getr (k0 := 15) kc_4 (ws_17 (((((((((((w.im _ _ _).im _ _ _).im _ _ _).im _ _ _).im _ _ _).im _ _ _).im _ _ _).im _ _ _).im _ _ _).im _ _ _).im _ _ _)) (Nat.le_of_ble_eq_true rfl) tw_213 d_X4_write_158 rfl (wr_17_15 (((((((((((w.im _ _ _).im _ _ _).im _ _ _).im _ _ _).im _ _ _).im _ _ _).im _ _ _).im _ _ _).im _ _ _).im _ _ _).im _ _ _)) ?_
      refine aw_iload d_X4_write_161 5 rfl ?_
      refine aw_iconst (v := 4) d_X4_write_163 ic_4 ?_
      refine aw_iadd d_X4_write_164 ?_
      refine aw_iload_n (i := 3) rfl d_X4_write_165 3 rfl ?_
      refine aw_sipush (v := 1440) d_X4_write_166 is_1440 ?_
      refine aw_idiv d_X4_write_169 (by decide) ?_
      obtain ⟨b18, k⟩ := k
      refine aw_iast (ws_70 (((((((((((w.im _ _ _).im _ _ _).im _ _ _).im _ _ _).im _ _ _).im _ _ _).im _ _ _).im _ _ _).im _ _ _).im _ _ _).im _ _ _)) b18 d_X4_write_170 ?_
      refine aw_aload_n (i := 0) rfl d_X4_write_171 0 rfl ?_
      refine aw_getr (k0 := 15) kc_4 (ws_17 ((((((((((((w.im _ _ _).im _ _ _).im _ _ _).im _ _ _).im _ _ _).im _ _ _).im _ _ _).im _ _ _).im _ _ _).im _ _ _).im _ _ _).im _ _ _)) (Nat.le_of_ble_eq_true rfl) tw_213 d_X4_write_172 rfl (wr_17_15 ((((((((((((w.im _ _ _).im _ _ _).im _ _ _).im _ _ _).im _ _ _).im _ _ _).im _ _ _).im _ _ _).im _ _ _).im _ _ _).im _ _ _).im _ _ _)) ?_
      refine aw_iload d_X4_write_175 5 rfl ?_
      refine aw_bipush (v := 7) d_X4_write_177 ib_7 ?_
      refine aw_iadd d_X4_write_179 ?_
      refine aw_aload_n (i := 0) rfl d_X4_write_180 0 rfl ?_
      refine aw_getr (k0 := 5) kc_4 (ws_17 ((((((((((((w.im _ _ _).im _ _ _).im _ _ _).im _ _ _).im _ _ _).im _ _ _).im _ _ _).im _ _ _).im _ _ _).im _ _ _).im _ _ _).im _ _ _)) (Nat.le_of_ble_eq_true rfl) tw_201 d_X4_write_181 rfl (wr_17_5 ((((((((((((w.im _ _ _).im _ _ _).im _ _ _).im _ _ _).im _ _ _).im _ _ _).im _ _ _).im _ _ _).im _ _ _).im _ _ _).im _ _ _).im _ _ _)) ?_
      refine aw_iload_n (i := 2) rfl d_X4_write_184 2 rfl ?_
      obtain ⟨b19, k⟩ := k
      refine aw_iald (ws_62 ((((((((((((w.im _ _ _).im _ _ _).im _ _ _).im _ _ _).im _ _ _).im _ _ _).im _ _ _).im _ _ _).im _ _ _).im _ _ _).im _ _ _).im _ _ _)) b19 d_X4_write_185 ?_
      refine aw_vi (v2 := (h_i h 62 x2.toNatClampNeg)) (imx rfl (imx rfl (imx rfl (imx rfl (imx rfl (imx rfl (imx rfl (imx rfl (imx rfl (imx rfl (imx rfl (imx rfl rfl)))))))))))) ?_
      obtain ⟨b20, k⟩ := k
      refine aw_iast (ws_70 ((((((((((((w.im _ _ _).im _ _ _).im _ _ _).im _ _ _).im _ _ _).im _ _ _).im _ _ _).im _ _ _).im _ _ _).im _ _ _).im _ _ _).im _ _ _)) b20 d_X4_write_186 ?_
      refine aw_aload_n (i := 0) rfl d_X4_write_187 0 rfl ?_
      refine aw_getr (k0 := 15) kc_4 (ws_17 (((((((((((((w.im _ _ _).im _ _ _).im _ _ _).im _ _ _).im _ _ _).im _ _ _).im _ _ _).im _ _ _).im _ _ _).im _ _ _).im _ _ _).im _ _ _).im _ _ _)) (Nat.le_of_ble_eq_true rfl) tw_213 d_X4_write_188 rfl (wr_17_15 (((((((((((((w.im _ _ _).im _ _ _).im _ _ _).im _ _ _).im _ _ _).im _ _ _).im _ _ _).im _ _ _).im _ _ _).im _ _ _).im _ _ _).im _ _ _).im _ _ _)) ?_
      refine aw_iload d_X4_write_191 5 rfl ?_
      refine aw_bipush (v := 8) d_X4_write_193 ib_8 ?_
      refine aw_iadd d_X4_write_195 ?_
      refine aw_iload_n (i := 3) rfl d_X4_write_196 3 rfl ?_
      refine aw_aload_n (i := 0) rfl d_X4_write_197 0 rfl ?_
      refine aw_getr (k0 := 2) kc_4 (ws_17 (((((((((((((w.im _ _ _).im _ _ _).im _ _ _).im _ _ _).im _ _ _).im _ _ _).im _ _ _).im _ _ _).im _ _ _).im _ _ _).im _ _ _).im _ _ _).im _ _ _)) (Nat.le_of_ble_eq_true rfl) tw_198 d_X4_write_198 rfl (wr_17_2 (((((((((((((w.im _ _ _).im _ _ _).im _ _ _).im _ _ _).im _ _ _).im _ _ _).im _ _ _).im _ _ _).im _ _ _).im _ _ _).im _ _ _).im _ _ _).im _ _ _)) ?_
      refine aw_iload_n (i := 2) rfl d_X4_write_201 2 rfl ?_
      obtain ⟨b21, k⟩ := k
      refine aw_iald (ws_59 (((((((((((((w.im _ _ _).im _ _ _).im _ _ _).im _ _ _).im _ _ _).im _ _ _).im _ _ _).im _ _ _).im _ _ _).im _ _ _).im _ _ _).im _ _ _).im _ _ _)) b21 d_X4_write_202 ?_
      refine aw_vi (v2 := (h_i h 59 x2.toNatClampNeg)) (imx rfl (imx rfl (imx rfl (imx rfl (imx rfl (imx rfl (imx rfl (imx rfl (imx rfl (imx rfl (imx rfl (imx rfl (imx rfl rfl))))))))))))) ?_
      refine aw_isub d_X4_write_203 ?_
      obtain ⟨b22, k⟩ := k
      refine aw_iast (ws_70 (((((((((((((w.im _ _ _).im _ _ _).im _ _ _).im _ _ _).im _ _ _).im _ _ _).im _ _ _).im _ _ _).im _ _ _).im _ _ _).im _ _ _).im _ _ _).im _ _ _)) b22 d_X4_write_204 ?_
      refine aw_aload_n (i := 0) rfl d_X4_write_205 0 rfl ?_
      refine aw_getr (k0 := 5) kc_4 (ws_17 ((((((((((((((w.im _ _ _).im _ _ _).im _ _ _).im _ _ _).im _ _ _).im _ _ _).im _ _ _).im _ _ _).im _ _ _).im _ _ _).im _ _ _).im _ _ _).im _ _ _).im _ _ _)) (Nat.le_of_ble_eq_true rfl) tw_201 d_X4_write_206 rfl (wr_17_5 ((((((((((((((w.im _ _ _).im _ _ _).im _ _ _).im _ _ _).im _ _ _).im _ _ _).im _ _ _).im _ _ _).im _ _ _).im _ _ _).im _ _ _).im _ _ _).im _ _ _).im _ _ _)) ?_
      refine aw_iload_n (i := 2) rfl d_X4_write_209 2 rfl ?_
      refine aw_dup2 d_X4_write_210 ⟨rfl, rfl⟩ ?_
      obtain ⟨b23, k⟩ := k
      refine aw_iald (ws_62 ((((((((((((((w.im _ _ _).im _ _ _).im _ _ _).im _ _ _).im _ _ _).im _ _ _).im _ _ _).im _ _ _).im _ _ _).im _ _ _).im _ _ _).im _ _ _).im _ _ _).im _ _ _)) b23 d_X4_write_211 ?_
      refine aw_vi (v2 := (h_i h 62 x2.toNatClampNeg)) (imx rfl (imx rfl (imx rfl (imx rfl (imx rfl (imx rfl (imx rfl (imx rfl (imx rfl (imx rfl (imx rfl (imx rfl (imx rfl (imx rfl rfl)))))))))))))) ?_
      refine aw_iconst (v := 1) d_X4_write_212 ic_1 ?_
      refine aw_iadd d_X4_write_213 ?_
      obtain ⟨b24, k⟩ := k
      refine aw_iast (ws_62 ((((((((((((((w.im _ _ _).im _ _ _).im _ _ _).im _ _ _).im _ _ _).im _ _ _).im _ _ _).im _ _ _).im _ _ _).im _ _ _).im _ _ _).im _ _ _).im _ _ _).im _ _ _)) b24 d_X4_write_214 ?_
      refine aw_iload d_X4_write_215 4 rfl ?_
      exact aw_iret rfl d_X4_write_217 ⟨Nat.le_refl _, Nat.le_refl _⟩ ⟨_, rfl, k⟩
    · have k := k.2 c4
      refine aw_iconst (v := (-1)) d_X4_write_24 ic_m1 ?_
      exact aw_iret rfl d_X4_write_25 ⟨Nat.le_refl _, Nat.le_refl _⟩ ⟨_, rfl, k⟩
theorem t_X4_setLetter (d : Nat) (h : Hp_) (w : Wf h) (x1 : Int32) (x2 : Int32) (x3 : Int32) (K : Hp_ → Prop) (k : Ci (m_X4_has (d + 0) 0 0) [.ref 17, .int x1] h (fun r3 h1 => Wf h1 ∧ ((r3 = 0 → K h1) ∧ (¬ r3 = 0 → (¬ (0 ≤ x2 ∧ x2 ≤ 8) → K h1) ∧ ((0 ≤ x2 ∧ x2 ≤ 8) → vp_in ((x1 * 9) + x2) 2700 ∧ (K (h_im h1 70 (((x1 * 9) + x2) : Int32).toNatClampNeg x3))))))) : Cv (m_X4_setLetter (d + 1) 0 0) [.ref 17, .int x1, .int x2, .int x3] h K := by
  refine Ct.of (fun _ _ _ => trivial) pn_X4 (Nat.le_of_ble_eq_true rfl) ?_
  show AW (m_X4_setLetter (d + 1) 0 0) 0 0 0 [(0, .ref 17), (1, .int x1), (2, .int x2), (3, .int x3)] [] h (kV K)
  refine aw_aload_n (i := 0) rfl d_X4_setLetter_0 0 rfl ?_
  refine aw_iload_n (i := 1) rfl d_X4_setLetter_1 1 rfl ?_
  refine aw_Vi 17 [.int x1] [] d_X4_setLetter_2 (cV_X4_has (d + 0) 0 0) kc_4 (ws_17 w) tw_1049 rfl (rr0 (Nat.le_of_ble_eq_true rfl) (Nat.le_of_ble_eq_true rfl)) (Nat.le_of_ble_eq_true rfl) xs0 k (fun r3 h1 kk => ?_)
  obtain ⟨w2, k⟩ := kk
  refine aw_if_eq (tgt := 30) d_X4_setLetter_5 rfl (fun c4 => ?_) (fun c4 => ?_)
  · have k := k.1 c4
    exact aw_vret rfl d_X4_setLetter_30 ⟨Nat.le_refl _, Nat.le_refl _⟩ ⟨rfl, k⟩
  · have k := k.2 c4
    refine aw_iload_n (i := 2) rfl d_X4_setLetter_8 2 rfl ?_
    refine aw_iconst (v := 0) d_X4_setLetter_9 ic_0 ?_
    refine aw_bipush (v := 8) d_X4_setLetter_10 ib_8 ?_
    refine aw_SNi [.int x2, .int 0, .int 8] [] d_X4_setLetter_12 (cS_X11_within (d + 0) 0 0) (List.mem_of_getElem? (i := 9) rfl) rfl (rr0 (Nat.le_of_ble_eq_true rfl) (Nat.le_of_ble_eq_true rfl)) (Nat.le_of_ble_eq_true rfl) xs0 (s_X11_within _ _ x2 0 8) (fun _ _ kk => ?_)
    obtain ⟨e5, e6⟩ := kk
    rw [e5, e6]
    refine aw_ifb_eq (tgt := 30) d_X4_setLetter_15 rfl (fun c7 => ?_) (fun c7 => ?_)
    · have k := k.1 c7
      exact aw_vret rfl d_X4_setLetter_30 ⟨Nat.le_refl _, Nat.le_refl _⟩ ⟨rfl, k⟩
    · have k := k.2 c7
      refine aw_aload_n (i := 0) rfl d_X4_setLetter_18 0 rfl ?_
      refine aw_getr (k0 := 15) kc_4 (ws_17 w2) (Nat.le_of_ble_eq_true rfl) tw_213 d_X4_setLetter_19 rfl (wr_17_15 w2) ?_
      refine aw_iload_n (i := 1) rfl d_X4_setLetter_22 1 rfl ?_
      refine aw_bipush (v := 9) d_X4_setLetter_23 ib_9 ?_
      refine aw_imul d_X4_setLetter_25 ?_
      refine aw_iload_n (i := 2) rfl d_X4_setLetter_26 2 rfl ?_
      refine aw_iadd d_X4_setLetter_27 ?_
      refine aw_iload_n (i := 3) rfl d_X4_setLetter_28 3 rfl ?_
      obtain ⟨b8, k⟩ := k
      refine aw_iast (ws_70 w2) b8 d_X4_setLetter_29 ?_
      exact aw_vret rfl d_X4_setLetter_30 ⟨Nat.le_refl _, Nat.le_refl _⟩ ⟨rfl, k⟩
theorem t_X4_settle (d : Nat) (h : Hp_) (w : Wf h) (x1 : Int32) (x2 : Int32) (x3 : Int32) (x4 : Int32) (K : Hp_ → Prop) (k : Ci (m_X4_has (d + 0) 0 0) [.ref 17, .int x1] h (fun r3 h1 => Wf h1 ∧ ((¬ r3 = 0 → vp_in x1 300 ∧ (vp_in x1 300 ∧ ((x2 ≤ 1 → (¬ x2 = 3 → K (h_im (h_im h1 67 x1.toNatClampNeg x2) 68 x1.toNatClampNeg x3)) ∧ (x2 = 3 → vp_in x1 300 ∧ (vp_in (h_i h1 65 x1.toNatClampNeg) 80 ∧ (K (h_im (h_im (h_im (h_im h1 67 x1.toNatClampNeg x2) 68 x1.toNatClampNeg x3) 63 ((h_i h1 65 x1.toNatClampNeg) : Int32).toNatClampNeg (vp_nar .boolean 1)) 17 8 ((h_i h1 17 8) + 1)))))) ∧ (¬ x2 ≤ 1 → (x4 = (-1) → (¬ x2 = 3 → K (h_im (h_im h1 67 x1.toNatClampNeg x2) 68 x1.toNatClampNeg x3)) ∧ (x2 = 3 → vp_in x1 300 ∧ (vp_in (h_i h1 65 x1.toNatClampNeg) 80 ∧ (K (h_im (h_im (h_im (h_im h1 67 x1.toNatClampNeg x2) 68 x1.toNatClampNeg x3) 63 ((h_i h1 65 x1.toNatClampNeg) : Int32).toNatClampNeg (vp_nar .boolean 1)) 17 8 ((h_i h1 17 8) + 1)))))) ∧ (¬ x4 = (-1) → vp_in x1 300 ∧ (vp_in x1 300 ∧ ((¬ x2 = 3 → K (h_im (h_im (h_im h1 67 x1.toNatClampNeg x2) 68 x1.toNatClampNeg x3) 69 x1.toNatClampNeg ((h_i h1 66 x1.toNatClampNeg) + x4))) ∧ (x2 = 3 → vp_in x1 300 ∧ (vp_in (h_i h1 65 x1.toNatClampNeg) 80 ∧ (K (h_im (h_im (h_im (h_im (h_im h1 67 x1.toNatClampNeg x2) 68 x1.toNatClampNeg x3) 69 x1.toNatClampNeg ((h_i h1 66 x1.toNatClampNeg) + x4)) 63 ((h_i h1 65 x1.toNatClampNeg) : Int32).toNatClampNeg (vp_nar .boolean 1)) 17 8 ((h_i h1 17 8) + 1)))))))))))) ∧ (r3 = 0 → K h1)))) : Cv (m_X4_settle (d + 1) 0 0) [.ref 17, .int x1, .int x2, .int x3, .int x4] h K := by
  refine Ct.of (fun _ _ _ => trivial) pn_X4 (Nat.le_of_ble_eq_true rfl) ?_
  show AW (m_X4_settle (d + 1) 0 0) 0 0 0 [(0, .ref 17), (1, .int x1), (2, .int x2), (3, .int x3), (4, .int x4)] [] h (kV K)
  refine aw_aload_n (i := 0) rfl d_X4_settle_0 0 rfl ?_
  refine aw_iload_n (i := 1) rfl d_X4_settle_1 1 rfl ?_
  refine aw_Vi 17 [.int x1] [] d_X4_settle_2 (cV_X4_has (d + 0) 0 0) kc_4 (ws_17 w) tw_1049 rfl (rr0 (Nat.le_of_ble_eq_true rfl) (Nat.le_of_ble_eq_true rfl)) (Nat.le_of_ble_eq_true rfl) xs0 k (fun r3 h1 kk => ?_)
  obtain ⟨w2, k⟩ := kk
  refine aw_if_ne (tgt := 9) d_X4_settle_5 rfl (fun c4 => ?_) (fun c4 => ?_)
  · have k := k.1 c4
    refine aw_aload_n (i := 0) rfl d_X4_settle_9 0 rfl ?_
    refine aw_getr (k0 := 12) kc_4 (ws_17 w2) (Nat.le_of_ble_eq_true rfl) tw_210 d_X4_settle_10 rfl (wr_17_12 w2) ?_
    refine aw_iload_n (i := 1) rfl d_X4_settle_13 1 rfl ?_
    refine aw_iload_n (i := 2) rfl d_X4_settle_14 2 rfl ?_
    obtain ⟨b5, k⟩ := k
    refine aw_iast (ws_67 w2) b5 d_X4_settle_15 ?_
    refine aw_aload_n (i := 0) rfl d_X4_settle_16 0 rfl ?_
    refine aw_getr (k0 := 13) kc_4 (ws_17 w2) (Nat.le_of_ble_eq_true rfl) tw_211 d_X4_settle_17 rfl (wr_17_13 w2) ?_
    refine aw_iload_n (i := 1) rfl d_X4_settle_20 1 rfl ?_
    refine aw_iload_n (i := 3) rfl d_X4_settle_21 3 rfl ?_
    obtain ⟨b6, k⟩ := k
    refine aw_iast (ws_68 w2) b6 d_X4_settle_22 ?_
    refine aw_iload_n (i := 2) rfl d_X4_settle_23 2 rfl ?_
    refine aw_iconst (v := 1) d_X4_settle_24 ic_1 ?_
    refine aw_icmp_le (tgt := 49) d_X4_settle_25 rfl (fun c7 => ?_) (fun c7 => ?_)
    · have k := k.1 c7
      refine aw_iload_n (i := 2) rfl d_X4_settle_49 2 rfl ?_
      refine aw_iconst (v := 3) d_X4_settle_50 ic_3 ?_
      refine aw_icmp_ne (tgt := 76) d_X4_settle_51 rfl (fun c8 => ?_) (fun c8 => ?_)
      · have k := k.1 c8
        exact aw_vret rfl d_X4_settle_76 ⟨Nat.le_refl _, Nat.le_refl _⟩ ⟨rfl, k⟩
      · have k := k.2 c8
        refine aw_aload_n (i := 0) rfl d_X4_settle_54 0 rfl ?_
        refine aw_getr (k0 := 6) kc_4 (ws_17 w2) (Nat.le_of_ble_eq_true rfl) tw_202 d_X4_settle_55 rfl (wr_17_6 w2) ?_
        refine aw_aload_n (i := 0) rfl d_X4_settle_58 0 rfl ?_
        refine aw_getr (k0 := 10) kc_4 (ws_17 w2) (Nat.le_of_ble_eq_true rfl) tw_208 d_X4_settle_59 rfl (wr_17_10 w2) ?_
        refine aw_iload_n (i := 1) rfl d_X4_settle_62 1 rfl ?_
        obtain ⟨b9, k⟩ := k
        refine aw_iald (ws_65 w2) b9 d_X4_settle_63 ?_
        refine aw_vi (v2 := (h_i h1 65 x1.toNatClampNeg)) (rfl) ?_
        refine aw_iconst (v := 1) d_X4_settle_64 ic_1 ?_
        obtain ⟨b10, k⟩ := k
        refine aw_zast (ws_63 w2) b10 d_X4_settle_65 ?_
        refine aw_aload_n (i := 0) rfl d_X4_settle_66 0 rfl ?_
        refine aw_dup d_X4_settle_67 rfl ?_
        refine aw_geti (k0 := 8) kc_4 (ws_17 w2) (Nat.le_of_ble_eq_true rfl) tw_205 d_X4_settle_68 rfl ?_
        refine aw_vi (v2 := (h_i h1 17 8)) (rfl) ?_
        refine aw_iconst (v := 1) d_X4_settle_71 ic_1 ?_
        refine aw_iadd d_X4_settle_72 ?_
        refine aw_puti (k0 := 8) kc_4 (ws_17 w2) (Nat.le_of_ble_eq_true rfl) tw_205 d_X4_settle_73 rfl rfl nf_i ?_
        exact aw_vret rfl d_X4_settle_76 ⟨Nat.le_refl _, Nat.le_refl _⟩ ⟨rfl, k⟩
    · have k := k.2 c7
      refine aw_iload d_X4_settle_28 4 rfl ?_
      refine aw_iconst (v := (-1)) d_X4_settle_30 ic_m1 ?_
      refine aw_icmp_eq (tgt := 49) d_X4_settle_31 rfl (fun c11 => ?_) (fun c11 => ?_)
      · have k := k.1 c11
        refine aw_iload_n (i := 2) rfl d_X4_settle_49 2 rfl ?_
        refine aw_iconst (v := 3) d_X4_settle_50 ic_3 ?_
        refine aw_icmp_ne (tgt := 76) d_X4_settle_51 rfl (fun c12 => ?_) (fun c12 => ?_)
        · have k := k.1 c12
          exact aw_vret rfl d_X4_settle_76 ⟨Nat.le_refl _, Nat.le_refl _⟩ ⟨rfl, k⟩
        · have k := k.2 c12
          refine aw_aload_n (i := 0) rfl d_X4_settle_54 0 rfl ?_
          refine aw_getr (k0 := 6) kc_4 (ws_17 w2) (Nat.le_of_ble_eq_true rfl) tw_202 d_X4_settle_55 rfl (wr_17_6 w2) ?_
          refine aw_aload_n (i := 0) rfl d_X4_settle_58 0 rfl ?_
          refine aw_getr (k0 := 10) kc_4 (ws_17 w2) (Nat.le_of_ble_eq_true rfl) tw_208 d_X4_settle_59 rfl (wr_17_10 w2) ?_
          refine aw_iload_n (i := 1) rfl d_X4_settle_62 1 rfl ?_
          obtain ⟨b13, k⟩ := k
          refine aw_iald (ws_65 w2) b13 d_X4_settle_63 ?_
          refine aw_vi (v2 := (h_i h1 65 x1.toNatClampNeg)) (rfl) ?_
          refine aw_iconst (v := 1) d_X4_settle_64 ic_1 ?_
          obtain ⟨b14, k⟩ := k
          refine aw_zast (ws_63 w2) b14 d_X4_settle_65 ?_
          refine aw_aload_n (i := 0) rfl d_X4_settle_66 0 rfl ?_
          refine aw_dup d_X4_settle_67 rfl ?_
          refine aw_geti (k0 := 8) kc_4 (ws_17 w2) (Nat.le_of_ble_eq_true rfl) tw_205 d_X4_settle_68 rfl ?_
          refine aw_vi (v2 := (h_i h1 17 8)) (rfl) ?_
          refine aw_iconst (v := 1) d_X4_settle_71 ic_1 ?_
          refine aw_iadd d_X4_settle_72 ?_
          refine aw_puti (k0 := 8) kc_4 (ws_17 w2) (Nat.le_of_ble_eq_true rfl) tw_205 d_X4_settle_73 rfl rfl nf_i ?_
          exact aw_vret rfl d_X4_settle_76 ⟨Nat.le_refl _, Nat.le_refl _⟩ ⟨rfl, k⟩
      · have k := k.2 c11
        refine aw_aload_n (i := 0) rfl d_X4_settle_34 0 rfl ?_
        refine aw_getr (k0 := 14) kc_4 (ws_17 w2) (Nat.le_of_ble_eq_true rfl) tw_212 d_X4_settle_35 rfl (wr_17_14 w2) ?_
        refine aw_iload_n (i := 1) rfl d_X4_settle_38 1 rfl ?_
        refine aw_aload_n (i := 0) rfl d_X4_settle_39 0 rfl ?_
        refine aw_getr (k0 := 11) kc_4 (ws_17 w2) (Nat.le_of_ble_eq_true rfl) tw_209 d_X4_settle_40 rfl (wr_17_11 w2) ?_
        refine aw_iload_n (i := 1) rfl d_X4_settle_43 1 rfl ?_
        obtain ⟨b15, k⟩ := k
        refine aw_iald (ws_66 w2) b15 d_X4_settle_44 ?_
        refine aw_vi (v2 := (h_i h1 66 x1.toNatClampNeg)) (rfl) ?_
        refine aw_iload d_X4_settle_45 4 rfl ?_
        refine aw_iadd d_X4_settle_47 ?_
        obtain ⟨b16, k⟩ := k
        refine aw_iast (ws_69 w2) b16 d_X4_settle_48 ?_
        refine aw_iload_n (i := 2) rfl d_X4_settle_49 2 rfl ?_
        refine aw_iconst (v := 3) d_X4_settle_50 ic_3 ?_
        refine aw_icmp_ne (tgt := 76) d_X4_settle_51 rfl (fun c17 => ?_) (fun c17 => ?_)
        · have k := k.1 c17
          exact aw_vret rfl d_X4_settle_76 ⟨Nat.le_refl _, Nat.le_refl _⟩ ⟨rfl, k⟩
        · have k := k.2 c17
          refine aw_aload_n (i := 0) rfl d_X4_settle_54 0 rfl ?_
          refine aw_getr (k0 := 6) kc_4 (ws_17 w2) (Nat.le_of_ble_eq_true rfl) tw_202 d_X4_settle_55 rfl (wr_17_6 w2) ?_
          refine aw_aload_n (i := 0) rfl d_X4_settle_58 0 rfl ?_
          refine aw_getr (k0 := 10) kc_4 (ws_17 w2) (Nat.le_of_ble_eq_true rfl) tw_208 d_X4_settle_59 rfl (wr_17_10 w2) ?_
          refine aw_iload_n (i := 1) rfl d_X4_settle_62 1 rfl ?_
          obtain ⟨b18, k⟩ := k
          refine aw_iald (ws_65 w2) b18 d_X4_settle_63 ?_
          refine aw_vi (v2 := (h_i h1 65 x1.toNatClampNeg)) (rfl) ?_
          refine aw_iconst (v := 1) d_X4_settle_64 ic_1 ?_
          obtain ⟨b19, k⟩ := k
          refine aw_zast (ws_63 w2) b19 d_X4_settle_65 ?_
          refine aw_aload_n (i := 0) rfl d_X4_settle_66 0 rfl ?_
          refine aw_dup d_X4_settle_67 rfl ?_
          refine aw_geti (k0 := 8) kc_4 (ws_17 w2) (Nat.le_of_ble_eq_true rfl) tw_205 d_X4_settle_68 rfl ?_
          refine aw_vi (v2 := (h_i h1 17 8)) (rfl) ?_
          refine aw_iconst (v := 1) d_X4_settle_71 ic_1 ?_
          refine aw_iadd d_X4_settle_72 ?_
          refine aw_puti (k0 := 8) kc_4 (ws_17 w2) (Nat.le_of_ble_eq_true rfl) tw_205 d_X4_settle_73 rfl rfl nf_i ?_
          exact aw_vret rfl d_X4_settle_76 ⟨Nat.le_refl _, Nat.le_refl _⟩ ⟨rfl, k⟩
  · have k := k.2 c4
    exact aw_vret rfl d_X4_settle_8 ⟨Nat.le_refl _, Nat.le_refl _⟩ ⟨rfl, k⟩
theorem t_X4_kindOf (d : Nat) (h : Hp_) (w : Wf h) (x1 : Int32) (K : Int32 → Hp_ → Prop) (k : (¬ (0 ≤ x1 ∧ x1 ≤ ((h_i h 17 7) - 1)) → K 0 h) ∧ ((0 ≤ x1 ∧ x1 ≤ ((h_i h 17 7) - 1)) → vp_in x1 80 ∧ (K (h_i h 57 x1.toNatClampNeg) h))) : Ci (m_X4_kindOf (d + 1) 0 0) [.ref 17, .int x1] h K := by
  refine Ct.of (fun _ _ _ => trivial) pn_X4 (Nat.le_of_ble_eq_true rfl) ?_
  show AW (m_X4_kindOf (d + 1) 0 0) 0 0 0 [(0, .ref 17), (1, .int x1)] [] h (kI K)
  refine aw_iload_n (i := 1) rfl d_X4_kindOf_0 1 rfl ?_
  refine aw_iconst (v := 0) d_X4_kindOf_1 ic_0 ?_
  refine aw_aload_n (i := 0) rfl d_X4_kindOf_2 0 rfl ?_
  refine aw_geti (k0 := 7) kc_4 (ws_17 w) (Nat.le_of_ble_eq_true rfl) tw_203 d_X4_kindOf_3 rfl ?_
  refine aw_iconst (v := 1) d_X4_kindOf_6 ic_1 ?_
  refine aw_isub d_X4_kindOf_7 ?_
  refine aw_SNi [.int x1, .int 0, .int ((h_i h 17 7) - 1)] [] d_X4_kindOf_8 (cS_X11_within (d + 0) 0 0) (List.mem_of_getElem? (i := 9) rfl) rfl (rr0 (Nat.le_of_ble_eq_true rfl) (Nat.le_of_ble_eq_true rfl)) (Nat.le_of_ble_eq_true rfl) xs0 (s_X11_within _ _ x1 0 ((h_i h 17 7) - 1)) (fun _ _ kk => ?_)
  obtain ⟨e1, e2⟩ := kk
  rw [e1, e2]
  refine aw_ifb_eq (tgt := 23) d_X4_kindOf_11 rfl (fun c3 => ?_) (fun c3 => ?_)
  · have k := k.1 c3
    refine aw_iconst (v := 0) d_X4_kindOf_23 ic_0 ?_
    exact aw_iret rfl d_X4_kindOf_24 ⟨Nat.le_refl _, Nat.le_refl _⟩ ⟨_, rfl, k⟩
  · have k := k.2 c3
    refine aw_aload_n (i := 0) rfl d_X4_kindOf_14 0 rfl ?_
    refine aw_getr (k0 := 0) kc_4 (ws_17 w) (Nat.le_of_ble_eq_true rfl) tw_196 d_X4_kindOf_15 rfl (wr_17_0 w) ?_
    refine aw_iload_n (i := 1) rfl d_X4_kindOf_18 1 rfl ?_
    obtain ⟨b4, k⟩ := k
    refine aw_iald (ws_57 w) b4 d_X4_kindOf_19 ?_
    refine aw_goto (tgt := 24) d_X4_kindOf_20 rfl ?_
    exact aw_iret rfl d_X4_kindOf_24 ⟨Nat.le_refl _, Nat.le_refl _⟩ ⟨_, rfl, k⟩
theorem t_X11_countMenAt (d : Nat) (h : Hp_) (x1 : Int32) (K : Int32 → Hp_ → Prop) (k : AW (m_X11_countMenAt (d + 0) 0 0) 0 0 4 [(0, .ref 0), (1, .int x1), (2, .int 0), (3, .int 0)] [] h (kI K)) : Ci (m_X11_countMenAt (d + 0) 0 0) [.ref 0, .int x1] h K := by
  refine Ct.of (fun _ _ _ => trivial) pn_X11 (Nat.le_of_ble_eq_true rfl) ?_
  show AW (m_X11_countMenAt (d + 0) 0 0) 0 0 0 [(0, .ref 0), (1, .int x1)] [] h (kI K)
  refine aw_iconst (v := 0) d_X11_countMenAt_0 ic_0 ?_
  refine aw_istore_n (i := 2) rfl [(0, .ref 0), (1, .int x1), (2, .int 0)] d_X11_countMenAt_1 (Nat.le_of_ble_eq_true rfl) rfl rfl ?_
  refine aw_iconst (v := 0) d_X11_countMenAt_2 ic_0 ?_
  refine aw_istore_n (i := 3) rfl [(0, .ref 0), (1, .int x1), (2, .int 0), (3, .int 0)] d_X11_countMenAt_3 (Nat.le_of_ble_eq_true rfl) rfl rfl ?_
  exact k
theorem t_X11_countMenAt_4 (d : Nat) (h : Hp_) (w : Wf h) (x1 : Int32) (x2 : Int32) (x3 : Int32) (K : Int32 → Hp_ → Prop) (k : ((h_i h 0 7) ≤ x3 → K x2 h) ∧ (¬ (h_i h 0 7) ≤ x3 → vp_in x3 12 ∧ ((h_r h 15 x3.toNatClampNeg = none → AW (m_X11_countMenAt (d + 0) 0 0) 0 0 4 [(0, .ref 0), (1, .int x1), (2, .int x2), (3, .int (x3 + 1))] [] h (kI K)) ∧ (∀ b3, h_r h 15 x3.toNatClampNeg = some b3 → h_sh h b3 = some (12, 17) ∧ 400 ≤ b3 ∧ (vp_in x3 12 ∧ ((¬ (h_i h b3 5) = x1 → AW (m_X11_countMenAt (d + 0) 0 0) 0 0 4 [(0, .ref 0), (1, .int x1), (2, .int x2), (3, .int (x3 + 1))] [] h (kI K)) ∧ ((h_i h b3 5) = x1 → AW (m_X11_countMenAt (d + 0) 0 0) 0 0 4 [(0, .ref 0), (1, .int x1), (2, .int (x2 + 1)), (3, .int (x3 + 1))] [] h (kI K)))))))) : AW (m_X11_countMenAt (d + 0) 0 0) 0 0 4 [(0, .ref 0), (1, .int x1), (2, .int x2), (3, .int x3)] [] h (kI K) := by
  refine aw_iload_n (i := 3) rfl d_X11_countMenAt_4 3 rfl ?_
  refine aw_aload_n (i := 0) rfl d_X11_countMenAt_5 0 rfl ?_
  refine aw_geti (k0 := 7) kc_11 (ws_0 w) (Nat.le_of_ble_eq_true rfl) tw_494 d_X11_countMenAt_6 rfl ?_
  refine aw_icmp_ge (tgt := 43) d_X11_countMenAt_9 rfl (fun c1 => ?_) (fun c1 => ?_)
  · have k := k.1 c1
    refine aw_iload_n (i := 2) rfl d_X11_countMenAt_43 2 rfl ?_
    exact aw_iret rfl d_X11_countMenAt_44 ⟨Nat.le_refl _, Nat.le_refl _⟩ ⟨_, rfl, k⟩
  · have k := k.2 c1
    refine aw_aload_n (i := 0) rfl d_X11_countMenAt_12 0 rfl ?_
    refine aw_getr (k0 := 6) kc_11 (ws_0 w) (Nat.le_of_ble_eq_true rfl) tw_493 d_X11_countMenAt_13 rfl (wr_0_6 w) ?_
    refine aw_iload_n (i := 3) rfl d_X11_countMenAt_16 3 rfl ?_
    obtain ⟨b2, k⟩ := k
    rcases e6 : h_r h 15 x3.toNatClampNeg with _ | b3
    · refine aw_aaldn (ws_15 w) b2 e6 d_X11_countMenAt_17 ?_
      have k := k.1 e6
      refine aw_ifnullN (tgt := 37) d_X11_countMenAt_18 rfl ?_
      refine aw_iinc (v := (x3 + 1)) [(0, .ref 0), (1, .int x1), (2, .int x2), (3, .int (x3 + 1))] d_X11_countMenAt_37 3 rfl rfl (Nat.le_of_ble_eq_true rfl) rfl rfl ?_
      refine aw_goto (tgt := 4) d_X11_countMenAt_40 rfl ?_
      exact k
    · refine aw_aaldr (ws_15 w) b2 e6 d_X11_countMenAt_17 ?_
      obtain ⟨q4, l5, k⟩ := k.2 b3 e6
      refine aw_ifnull d_X11_countMenAt_18 ?_
      refine aw_aload_n (i := 0) rfl d_X11_countMenAt_21 0 rfl ?_
      refine aw_getr (k0 := 6) kc_11 (ws_0 w) (Nat.le_of_ble_eq_true rfl) tw_493 d_X11_countMenAt_22 rfl (wr_0_6 w) ?_
      refine aw_iload_n (i := 3) rfl d_X11_countMenAt_25 3 rfl ?_
      obtain ⟨b7, k⟩ := k
      refine aw_aaldr (ws_15 w) b7 e6 d_X11_countMenAt_26 ?_
      refine aw_geti (k0 := 5) kc_2 (q4) (Nat.le_of_ble_eq_true rfl) tw_583 d_X11_countMenAt_27 rfl ?_
      refine aw_iload_n (i := 1) rfl d_X11_countMenAt_30 1 rfl ?_
      refine aw_icmp_ne (tgt := 37) d_X11_countMenAt_31 rfl (fun c12 => ?_) (fun c12 => ?_)
      · have k := k.1 c12
        refine aw_iinc (v := (x3 + 1)) [(0, .ref 0), (1, .int x1), (2, .int x2), (3, .int (x3 + 1))] d_X11_countMenAt_37 3 rfl rfl (Nat.le_of_ble_eq_true rfl) rfl rfl ?_
        refine aw_goto (tgt := 4) d_X11_countMenAt_40 rfl ?_
        exact k
      · have k := k.2 c12
        refine aw_iinc (v := (x2 + 1)) [(0, .ref 0), (1, .int x1), (2, .int (x2 + 1)), (3, .int x3)] d_X11_countMenAt_34 2 rfl rfl (Nat.le_of_ble_eq_true rfl) rfl rfl ?_
        refine aw_iinc (v := (x3 + 1)) [(0, .ref 0), (1, .int x1), (2, .int (x2 + 1)), (3, .int (x3 + 1))] d_X11_countMenAt_37 3 rfl rfl (Nat.le_of_ble_eq_true rfl) rfl rfl ?_
        refine aw_goto (tgt := 4) d_X11_countMenAt_40 rfl ?_
        exact k
theorem t_X1_start (d : Nat) (h : Hp_) (w : Wf h) (x1 : Int32) (x2 : Int32) (K : Int32 → Hp_ → Prop) (k : ((h_i h 18 3) < 30 → vp_in (h_i h 18 3) 30 ∧ (vp_in (h_i h 18 3) 30 ∧ (K (((h_i h 18 3) + 1) - 1) (h_im (h_im (h_im h 71 ((h_i h 18 3) : Int32).toNatClampNeg x1) 72 ((h_i h 18 3) : Int32).toNatClampNeg x2) 18 3 ((h_i h 18 3) + 1))))) ∧ (¬ (h_i h 18 3) < 30 → K (-1) h)) : Ci (m_X1_start (d + 0) 0 0) [.ref 18, .int x1, .int x2] h K := by
  refine Ct.of (fun _ _ _ => trivial) pn_X1 (Nat.le_of_ble_eq_true rfl) ?_
  show AW (m_X1_start (d + 0) 0 0) 0 0 0 [(0, .ref 18), (1, .int x1), (2, .int x2)] [] h (kI K)
  refine aw_aload_n (i := 0) rfl d_X1_start_0 0 rfl ?_
  refine aw_geti (k0 := 3) kc_1 (ws_18 w) (Nat.le_of_ble_eq_true rfl) tw_265 d_X1_start_1 rfl ?_
  refine aw_bipush (v := 30) d_X1_start_4 ib_30 ?_
  refine aw_icmp_lt (tgt := 11) d_X1_start_6 rfl (fun c1 => ?_) (fun c1 => ?_)
  · have k := k.1 c1
    refine aw_aload_n (i := 0) rfl d_X1_start_11 0 rfl ?_
    refine aw_getr (k0 := 0) kc_1 (ws_18 w) (Nat.le_of_ble_eq_true rfl) tw_262 d_X1_start_12 rfl (wr_18_0 w) ?_
    refine aw_aload_n (i := 0) rfl d_X1_start_15 0 rfl ?_
    refine aw_geti (k0 := 3) kc_1 (ws_18 w) (Nat.le_of_ble_eq_true rfl) tw_265 d_X1_start_16 rfl ?_
    refine aw_iload_n (i := 1) rfl d_X1_start_19 1 rfl ?_
    obtain ⟨b2, k⟩ := k
    refine aw_iast (ws_71 w) b2 d_X1_start_20 ?_
    refine aw_aload_n (i := 0) rfl d_X1_start_21 0 rfl ?_
    refine aw_getr (k0 := 1) kc_1 (ws_18 w) (Nat.le_of_ble_eq_true rfl) tw_263 d_X1_start_22 rfl (wr_18_1 w) ?_
    refine aw_aload_n (i := 0) rfl d_X1_start_25 0 rfl ?_
    refine aw_geti (k0 := 3) kc_1 (ws_18 w) (Nat.le_of_ble_eq_true rfl) tw_265 d_X1_start_26 rfl ?_
    refine aw_vi (v2 := (h_i h 18 3)) (rfl) ?_
    refine aw_iload_n (i := 2) rfl d_X1_start_29 2 rfl ?_
    obtain ⟨b3, k⟩ := k
    refine aw_iast (ws_72 w) b3 d_X1_start_30 ?_
    refine aw_aload_n (i := 0) rfl d_X1_start_31 0 rfl ?_
    refine aw_dup d_X1_start_32 rfl ?_
    refine aw_geti (k0 := 3) kc_1 (ws_18 w) (Nat.le_of_ble_eq_true rfl) tw_265 d_X1_start_33 rfl ?_
    refine aw_vi (v2 := (h_i h 18 3)) (rfl) ?_
    refine aw_iconst (v := 1) d_X1_start_36 ic_1 ?_
    refine aw_iadd d_X1_start_37 ?_
    refine aw_puti (k0 := 3) kc_1 (ws_18 w) (Nat.le_of_ble_eq_true rfl) tw_265 d_X1_start_38 rfl rfl nf_i ?_
    refine aw_aload_n (i := 0) rfl d_X1_start_41 0 rfl ?_
    refine aw_geti (k0 := 3) kc_1 (ws_18 w) (Nat.le_of_ble_eq_true rfl) tw_265 d_X1_start_42 rfl ?_
    refine aw_vi (v2 := ((h_i h 18 3) + 1)) (rfl) ?_
    refine aw_iconst (v := 1) d_X1_start_45 ic_1 ?_
    refine aw_isub d_X1_start_46 ?_
    exact aw_iret rfl d_X1_start_47 ⟨Nat.le_refl _, Nat.le_refl _⟩ ⟨_, rfl, k⟩
  · have k := k.2 c1
    refine aw_iconst (v := (-1)) d_X1_start_9 ic_m1 ?_
    exact aw_iret rfl d_X1_start_10 ⟨Nat.le_refl _, Nat.le_refl _⟩ ⟨_, rfl, k⟩
theorem t_X4_has (d : Nat) (h : Hp_) (w : Wf h) (x1 : Int32) (K : Int32 → Hp_ → Prop) (k : (x1 < 0 → K 0 h) ∧ (¬ x1 < 0 → ((h_i h 17 16) ≤ x1 → K 0 h) ∧ (¬ (h_i h 17 16) ≤ x1 → K 1 h))) : Ci (m_X4_has (d + 0) 0 0) [.ref 17, .int x1] h K := by
  refine Ct.of (fun _ _ _ => trivial) pn_X4 (Nat.le_of_ble_eq_true rfl) ?_
  show AW (m_X4_has (d + 0) 0 0) 0 0 0 [(0, .ref 17), (1, .int x1)] [] h (kI K)
  refine aw_iload_n (i := 1) rfl d_X4_has_0 1 rfl ?_
  refine aw_if_lt (tgt := 16) d_X4_has_1 rfl (fun c1 => ?_) (fun c1 => ?_)
  · have k := k.1 c1
    refine aw_iconst (v := 0) d_X4_has_16 ic_0 ?_
    exact aw_zret rfl rfl d_X4_has_17 ⟨Nat.le_refl _, Nat.le_refl _⟩ ⟨_, rfl, k⟩
  · have k := k.2 c1
    refine aw_iload_n (i := 1) rfl d_X4_has_4 1 rfl ?_
    refine aw_aload_n (i := 0) rfl d_X4_has_5 0 rfl ?_
    refine aw_geti (k0 := 16) kc_4 (ws_17 w) (Nat.le_of_ble_eq_true rfl) tw_215 d_X4_has_6 rfl ?_
    refine aw_icmp_ge (tgt := 16) d_X4_has_9 rfl (fun c2 => ?_) (fun c2 => ?_)
    · have k := k.1 c2
      refine aw_iconst (v := 0) d_X4_has_16 ic_0 ?_
      exact aw_zret rfl rfl d_X4_has_17 ⟨Nat.le_refl _, Nat.le_refl _⟩ ⟨_, rfl, k⟩
    · have k := k.2 c2
      refine aw_iconst (v := 1) d_X4_has_12 ic_1 ?_
      refine aw_goto (tgt := 17) d_X4_has_13 rfl ?_
      exact aw_zret rfl rfl d_X4_has_17 ⟨Nat.le_refl _, Nat.le_refl _⟩ ⟨_, rfl, k⟩
theorem t_X4_tellNoted (d : Nat) (h : Hp_) (x1 : Int32) (x2 : Int32) (K : Hp_ → Prop) (k : AW (m_X4_tellNoted (d + 0) 0 0) 0 0 2 [(0, .ref 17), (1, .int x1), (2, .int x2), (3, .int 0)] [] h (kV K)) : Cv (m_X4_tellNoted (d + 0) 0 0) [.ref 17, .int x1, .int x2] h K := by
  refine Ct.of (fun _ _ _ => trivial) pn_X4 (Nat.le_of_ble_eq_true rfl) ?_
  show AW (m_X4_tellNoted (d + 0) 0 0) 0 0 0 [(0, .ref 17), (1, .int x1), (2, .int x2)] [] h (kV K)
  refine aw_iconst (v := 0) d_X4_tellNoted_0 ic_0 ?_
  refine aw_istore_n (i := 3) rfl [(0, .ref 17), (1, .int x1), (2, .int x2), (3, .int 0)] d_X4_tellNoted_1 (Nat.le_of_ble_eq_true rfl) rfl rfl ?_
  exact k
theorem t_X4_tellNoted_2 (d : Nat) (h : Hp_) (w : Wf h) (x1 : Int32) (x2 : Int32) (x3 : Int32) (K : Hp_ → Prop) (k : ((h_i h 17 16) ≤ x3 → K h) ∧ (¬ (h_i h 17 16) ≤ x3 → vp_in x3 300 ∧ ((¬ (h_i h 64 x3.toNatClampNeg) = x1 → AW (m_X4_tellNoted (d + 0) 0 0) 0 0 2 [(0, .ref 17), (1, .int x1), (2, .int x2), (3, .int (x3 + 1))] [] h (kV K)) ∧ ((h_i h 64 x3.toNatClampNeg) = x1 → vp_in x3 300 ∧ ((¬ (h_i h 67 x3.toNatClampNeg) = 1 → AW (m_X4_tellNoted (d + 0) 0 0) 0 0 2 [(0, .ref 17), (1, .int x1), (2, .int x2), (3, .int (x3 + 1))] [] h (kV K)) ∧ ((h_i h 67 x3.toNatClampNeg) = 1 → vp_in x3 300 ∧ ((¬ (h_i h 69 x3.toNatClampNeg) = (-1) → AW (m_X4_tellNoted (d + 0) 0 0) 0 0 2 [(0, .ref 17), (1, .int x1), (2, .int x2), (3, .int (x3 + 1))] [] h (kV K)) ∧ ((h_i h 69 x3.toNatClampNeg) = (-1) → vp_in x3 300 ∧ (AW (m_X4_tellNoted (d + 0) 0 0) 0 0 2 [(0, .ref 17), (1, .int x1), (2, .int x2), (3, .int (x3 + 1))] [] (h_im h 69 x3.toNatClampNeg x2) (kV K)))))))))) : AW (m_X4_tellNoted (d + 0) 0 0) 0 0 2 [(0, .ref 17), (1, .int x1), (2, .int x2), (3, .int x3)] [] h (kV K) := by
  refine aw_iload_n (i := 3) rfl d_X4_tellNoted_2 3 rfl ?_
  refine aw_aload_n (i := 0) rfl d_X4_tellNoted_3 0 rfl ?_
  refine aw_geti (k0 := 16) kc_4 (ws_17 w) (Nat.le_of_ble_eq_true rfl) tw_215 d_X4_tellNoted_4 rfl ?_
  refine aw_icmp_ge (tgt := 53) d_X4_tellNoted_7 rfl (fun c1 => ?_) (fun c1 => ?_)
  · have k := k.1 c1
    exact aw_vret rfl d_X4_tellNoted_53 ⟨Nat.le_refl _, Nat.le_refl _⟩ ⟨rfl, k⟩
  · have k := k.2 c1
    refine aw_aload_n (i := 0) rfl d_X4_tellNoted_10 0 rfl ?_
    refine aw_getr (k0 := 9) kc_4 (ws_17 w) (Nat.le_of_ble_eq_true rfl) tw_207 d_X4_tellNoted_11 rfl (wr_17_9 w) ?_
    refine aw_iload_n (i := 3) rfl d_X4_tellNoted_14 3 rfl ?_
    obtain ⟨b2, k⟩ := k
    refine aw_iald (ws_64 w) b2 d_X4_tellNoted_15 ?_
    refine aw_iload_n (i := 1) rfl d_X4_tellNoted_16 1 rfl ?_
    refine aw_icmp_ne (tgt := 47) d_X4_tellNoted_17 rfl (fun c3 => ?_) (fun c3 => ?_)
    · have k := k.1 c3
      refine aw_iinc (v := (x3 + 1)) [(0, .ref 17), (1, .int x1), (2, .int x2), (3, .int (x3 + 1))] d_X4_tellNoted_47 3 rfl rfl (Nat.le_of_ble_eq_true rfl) rfl rfl ?_
      refine aw_goto (tgt := 2) d_X4_tellNoted_50 rfl ?_
      exact k
    · have k := k.2 c3
      refine aw_aload_n (i := 0) rfl d_X4_tellNoted_20 0 rfl ?_
      refine aw_getr (k0 := 12) kc_4 (ws_17 w) (Nat.le_of_ble_eq_true rfl) tw_210 d_X4_tellNoted_21 rfl (wr_17_12 w) ?_
      refine aw_iload_n (i := 3) rfl d_X4_tellNoted_24 3 rfl ?_
      obtain ⟨b4, k⟩ := k
      refine aw_iald (ws_67 w) b4 d_X4_tellNoted_25 ?_
      refine aw_iconst (v := 1) d_X4_tellNoted_26 ic_1 ?_
      refine aw_icmp_ne (tgt := 47) d_X4_tellNoted_27 rfl (fun c5 => ?_) (fun c5 => ?_)
      · have k := k.1 c5
        refine aw_iinc (v := (x3 + 1)) [(0, .ref 17), (1, .int x1), (2, .int x2), (3, .int (x3 + 1))] d_X4_tellNoted_47 3 rfl rfl (Nat.le_of_ble_eq_true rfl) rfl rfl ?_
        refine aw_goto (tgt := 2) d_X4_tellNoted_50 rfl ?_
        exact k
      · have k := k.2 c5
        refine aw_aload_n (i := 0) rfl d_X4_tellNoted_30 0 rfl ?_
        refine aw_getr (k0 := 14) kc_4 (ws_17 w) (Nat.le_of_ble_eq_true rfl) tw_212 d_X4_tellNoted_31 rfl (wr_17_14 w) ?_
        refine aw_iload_n (i := 3) rfl d_X4_tellNoted_34 3 rfl ?_
        obtain ⟨b6, k⟩ := k
        refine aw_iald (ws_69 w) b6 d_X4_tellNoted_35 ?_
        refine aw_iconst (v := (-1)) d_X4_tellNoted_36 ic_m1 ?_
        refine aw_icmp_ne (tgt := 47) d_X4_tellNoted_37 rfl (fun c7 => ?_) (fun c7 => ?_)
        · have k := k.1 c7
          refine aw_iinc (v := (x3 + 1)) [(0, .ref 17), (1, .int x1), (2, .int x2), (3, .int (x3 + 1))] d_X4_tellNoted_47 3 rfl rfl (Nat.le_of_ble_eq_true rfl) rfl rfl ?_
          refine aw_goto (tgt := 2) d_X4_tellNoted_50 rfl ?_
          exact k
        · have k := k.2 c7
          refine aw_aload_n (i := 0) rfl d_X4_tellNoted_40 0 rfl ?_
          refine aw_getr (k0 := 14) kc_4 (ws_17 w) (Nat.le_of_ble_eq_true rfl) tw_212 d_X4_tellNoted_41 rfl (wr_17_14 w) ?_
          refine aw_iload_n (i := 3) rfl d_X4_tellNoted_44 3 rfl ?_
          refine aw_iload_n (i := 2) rfl d_X4_tellNoted_45 2 rfl ?_
          obtain ⟨b8, k⟩ := k
          refine aw_iast (ws_69 w) b8 d_X4_tellNoted_46 ?_
          refine aw_iinc (v := (x3 + 1)) [(0, .ref 17), (1, .int x1), (2, .int x2), (3, .int (x3 + 1))] d_X4_tellNoted_47 3 rfl rfl (Nat.le_of_ble_eq_true rfl) rfl rfl ?_
          refine aw_goto (tgt := 2) d_X4_tellNoted_50 rfl ?_
          exact k
theorem t_X5_classOf (d : Nat) (h : Hp_) (x1 : Nat) (hs_x1 : h_sh h x1 = some (12, 17)) (lb_x1 : 400 ≤ x1) (x2 : Int32) (x3 : Int32) (K : Int32 → Hp_ → Prop) (k : AW (m_X5_classOf (d + 1) 0 0) 0 0 12 [(0, .ref 21), (1, .ref x1), (2, .int x2), (3, .int x3), (4, .int (h_i h x1 1)), (5, .int (-1)), (6, .int 0)] [] h (kI K)) : Ci (m_X5_classOf (d + 1) 0 0) [.ref 21, .ref x1, .int x2, .int x3] h K := by
  refine Ct.of (fun _ _ _ => trivial) pn_X5 (Nat.le_of_ble_eq_true rfl) ?_
  show AW (m_X5_classOf (d + 1) 0 0) 0 0 0 [(0, .ref 21), (1, .ref x1), (2, .int x2), (3, .int x3)] [] h (kI K)
  refine aw_aload_n (i := 1) rfl d_X5_classOf_0 1 rfl ?_
  refine aw_geti (k0 := 1) kc_2 (hs_x1) (Nat.le_of_ble_eq_true rfl) tw_575 d_X5_classOf_1 rfl ?_
  refine aw_istore [(0, .ref 21), (1, .ref x1), (2, .int x2), (3, .int x3), (4, .int (h_i h x1 1))] d_X5_classOf_4 (Nat.le_of_ble_eq_true rfl) rfl rfl ?_
  refine aw_iconst (v := (-1)) d_X5_classOf_6 ic_m1 ?_
  refine aw_istore [(0, .ref 21), (1, .ref x1), (2, .int x2), (3, .int x3), (4, .int (h_i h x1 1)), (5, .int (-1))] d_X5_classOf_7 (Nat.le_of_ble_eq_true rfl) rfl rfl ?_
  refine aw_iconst (v := 0) d_X5_classOf_9 ic_0 ?_
  refine aw_istore [(0, .ref 21), (1, .ref x1), (2, .int x2), (3, .int x3), (4, .int (h_i h x1 1)), (5, .int (-1)), (6, .int 0)] d_X5_classOf_10 (Nat.le_of_ble_eq_true rfl) rfl rfl ?_
  exact k
theorem t_X5_classOf_12 (d : Nat) (h : Hp_) (w : Wf h) (x1 : Nat) (hs_x1 : h_sh h x1 = some (12, 17)) (lb_x1 : 400 ≤ x1) (x2 : Int32) (x3 : Int32) (x4 : Int32) (x5 : Int32) (x6 : Int32) (K : Int32 → Hp_ → Prop) (k : ((h_i h 21 4) ≤ x6 → K x4 h) ∧ (¬ (h_i h 21 4) ≤ x6 → vp_in x6 40 ∧ ((¬ (h_i h 104 x6.toNatClampNeg) = (h_i h x1 0) → AW (m_X5_classOf (d + 1) 0 0) 0 0 12 [(0, .ref 21), (1, .ref x1), (2, .int x2), (3, .int x3), (4, .int x4), (5, .int x5), (6, .int (x6 + 1))] [] h (kI K)) ∧ ((h_i h 104 x6.toNatClampNeg) = (h_i h x1 0) → vp_in x6 40 ∧ ((x3 < (h_i h 107 x6.toNatClampNeg) → AW (m_X5_classOf (d + 1) 0 0) 0 0 12 [(0, .ref 21), (1, .ref x1), (2, .int x2), (3, .int x3), (4, .int x4), (5, .int x5), (6, .int (x6 + 1))] [] h (kI K)) ∧ (¬ x3 < (h_i h 107 x6.toNatClampNeg) → vp_in x6 40 ∧ ((¬ (x5 ≤ (h_i h 106 x6.toNatClampNeg) ∧ (h_i h 106 x6.toNatClampNeg) ≤ x2) → AW (m_X5_classOf (d + 1) 0 0) 0 0 12 [(0, .ref 21), (1, .ref x1), (2, .int x2), (3, .int x3), (4, .int x4), (5, .int x5), (6, .int (x6 + 1))] [] h (kI K)) ∧ ((x5 ≤ (h_i h 106 x6.toNatClampNeg) ∧ (h_i h 106 x6.toNatClampNeg) ≤ x2) → vp_in x6 40 ∧ (vp_in x6 40 ∧ (AW (m_X5_classOf (d + 1) 0 0) 0 0 12 [(0, .ref 21), (1, .ref x1), (2, .int x2), (3, .int x3), (4, .int (h_i h 105 x6.toNatClampNeg)), (5, .int (h_i h 106 x6.toNatClampNeg)), (6, .int (x6 + 1))] [] h (kI K))))))))))) : AW (m_X5_classOf (d + 1) 0 0) 0 0 12 [(0, .ref 21), (1, .ref x1), (2, .int x2), (3, .int x3), (4, .int x4), (5, .int x5), (6, .int x6)] [] h (kI K) := by
  refine aw_iload d_X5_classOf_12 6 rfl ?_
  refine aw_aload_n (i := 0) rfl d_X5_classOf_14 0 rfl ?_
  refine aw_geti (k0 := 4) kc_5 (ws_21 w) (Nat.le_of_ble_eq_true rfl) tw_438 d_X5_classOf_15 rfl ?_
  refine aw_icmp_ge (tgt := 86) d_X5_classOf_18 rfl (fun c1 => ?_) (fun c1 => ?_)
  · have k := k.1 c1
    refine aw_iload d_X5_classOf_86 4 rfl ?_
    exact aw_iret rfl d_X5_classOf_88 ⟨Nat.le_refl _, Nat.le_refl _⟩ ⟨_, rfl, k⟩
  · have k := k.2 c1
    refine aw_aload_n (i := 0) rfl d_X5_classOf_21 0 rfl ?_
    refine aw_getr (k0 := 0) kc_5 (ws_21 w) (Nat.le_of_ble_eq_true rfl) tw_434 d_X5_classOf_22 rfl (wr_21_0 w) ?_
    refine aw_iload d_X5_classOf_25 6 rfl ?_
    obtain ⟨b2, k⟩ := k
    refine aw_iald (ws_104 w) b2 d_X5_classOf_27 ?_
    refine aw_aload_n (i := 1) rfl d_X5_classOf_28 1 rfl ?_
    refine aw_geti (k0 := 0) kc_2 (hs_x1) (Nat.le_of_ble_eq_true rfl) tw_572 d_X5_classOf_29 rfl ?_
    refine aw_icmp_ne (tgt := 80) d_X5_classOf_32 rfl (fun c3 => ?_) (fun c3 => ?_)
    · have k := k.1 c3
      refine aw_iinc (v := (x6 + 1)) [(0, .ref 21), (1, .ref x1), (2, .int x2), (3, .int x3), (4, .int x4), (5, .int x5), (6, .int (x6 + 1))] d_X5_classOf_80 6 rfl rfl (Nat.le_of_ble_eq_true rfl) rfl rfl ?_
      refine aw_goto (tgt := 12) d_X5_classOf_83 rfl ?_
      exact k
    · have k := k.2 c3
      refine aw_aload_n (i := 0) rfl d_X5_classOf_35 0 rfl ?_
      refine aw_getr (k0 := 3) kc_5 (ws_21 w) (Nat.le_of_ble_eq_true rfl) tw_437 d_X5_classOf_36 rfl (wr_21_3 w) ?_
      refine aw_iload d_X5_classOf_39 6 rfl ?_
      obtain ⟨b4, k⟩ := k
      refine aw_iald (ws_107 w) b4 d_X5_classOf_41 ?_
      refine aw_iload_n (i := 3) rfl d_X5_classOf_42 3 rfl ?_
      refine aw_icmp_gt (tgt := 80) d_X5_classOf_43 rfl (fun c5 => ?_) (fun c5 => ?_)
      · have k := k.1 c5
        refine aw_iinc (v := (x6 + 1)) [(0, .ref 21), (1, .ref x1), (2, .int x2), (3, .int x3), (4, .int x4), (5, .int x5), (6, .int (x6 + 1))] d_X5_classOf_80 6 rfl rfl (Nat.le_of_ble_eq_true rfl) rfl rfl ?_
        refine aw_goto (tgt := 12) d_X5_classOf_83 rfl ?_
        exact k
      · have k := k.2 c5
        refine aw_aload_n (i := 0) rfl d_X5_classOf_46 0 rfl ?_
        refine aw_getr (k0 := 2) kc_5 (ws_21 w) (Nat.le_of_ble_eq_true rfl) tw_436 d_X5_classOf_47 rfl (wr_21_2 w) ?_
        refine aw_iload d_X5_classOf_50 6 rfl ?_
        obtain ⟨b6, k⟩ := k
        refine aw_iald (ws_106 w) b6 d_X5_classOf_52 ?_
        refine aw_iload d_X5_classOf_53 5 rfl ?_
        refine aw_iload_n (i := 2) rfl d_X5_classOf_55 2 rfl ?_
        refine aw_SNi [.int (h_i h 106 x6.toNatClampNeg), .int x5, .int x2] [] d_X5_classOf_56 (cS_X11_within (d + 0) 0 0) (List.mem_of_getElem? (i := 10) rfl) rfl (rr0 (Nat.le_of_ble_eq_true rfl) (Nat.le_of_ble_eq_true rfl)) (Nat.le_of_ble_eq_true rfl) xs0 (s_X11_within _ _ (h_i h 106 x6.toNatClampNeg) x5 x2) (fun _ _ kk => ?_)
        obtain ⟨e7, e8⟩ := kk
        rw [e7, e8]
        refine aw_ifb_eq (tgt := 80) d_X5_classOf_59 rfl (fun c9 => ?_) (fun c9 => ?_)
        · have k := k.1 c9
          refine aw_iinc (v := (x6 + 1)) [(0, .ref 21), (1, .ref x1), (2, .int x2), (3, .int x3), (4, .int x4), (5, .int x5), (6, .int (x6 + 1))] d_X5_classOf_80 6 rfl rfl (Nat.le_of_ble_eq_true rfl) rfl rfl ?_
          refine aw_goto (tgt := 12) d_X5_classOf_83 rfl ?_
          exact k
        · have k := k.2 c9
          refine aw_aload_n (i := 0) rfl d_X5_classOf_62 0 rfl ?_
          refine aw_getr (k0 := 1) kc_5 (ws_21 w) (Nat.le_of_ble_eq_true rfl) tw_435 d_X5_classOf_63 rfl (wr_21_1 w) ?_
          refine aw_iload d_X5_classOf_66 6 rfl ?_
          obtain ⟨b10, k⟩ := k
          refine aw_iald (ws_105 w) b10 d_X5_classOf_68 ?_
          refine aw_istore [(0, .ref 21), (1, .ref x1), (2, .int x2), (3, .int x3), (4, .int (h_i h 105 x6.toNatClampNeg)), (5, .int x5), (6, .int x6)] d_X5_classOf_69 (Nat.le_of_ble_eq_true rfl) rfl rfl ?_
          refine aw_aload_n (i := 0) rfl d_X5_classOf_71 0 rfl ?_
          refine aw_getr (k0 := 2) kc_5 (ws_21 w) (Nat.le_of_ble_eq_true rfl) tw_436 d_X5_classOf_72 rfl (wr_21_2 w) ?_
          refine aw_iload d_X5_classOf_75 6 rfl ?_
          obtain ⟨b11, k⟩ := k
          refine aw_iald (ws_106 w) b11 d_X5_classOf_77 ?_
          refine aw_istore [(0, .ref 21), (1, .ref x1), (2, .int x2), (3, .int x3), (4, .int (h_i h 105 x6.toNatClampNeg)), (5, .int (h_i h 106 x6.toNatClampNeg)), (6, .int x6)] d_X5_classOf_78 (Nat.le_of_ble_eq_true rfl) rfl rfl ?_
          refine aw_iinc (v := (x6 + 1)) [(0, .ref 21), (1, .ref x1), (2, .int x2), (3, .int x3), (4, .int (h_i h 105 x6.toNatClampNeg)), (5, .int (h_i h 106 x6.toNatClampNeg)), (6, .int (x6 + 1))] d_X5_classOf_80 6 rfl rfl (Nat.le_of_ble_eq_true rfl) rfl rfl ?_
          refine aw_goto (tgt := 12) d_X5_classOf_83 rfl ?_
          exact k
theorem t_X12_see (d : Nat) (h : Hp_) (x1 : Int32) (K : Hp_ → Prop) (k : AW (m_X12_see (d + 7) 0 0) 0 0 4 [(0, .ref 1), (1, .int x1), (2, .int 0), (3, .int 0)] [] h (kV K)) : Cv (m_X12_see (d + 7) 0 0) [.ref 1, .int x1] h K := by
  refine Ct.of (fun _ _ _ => trivial) pn_X12 (Nat.le_of_ble_eq_true rfl) ?_
  show AW (m_X12_see (d + 7) 0 0) 0 0 0 [(0, .ref 1), (1, .int x1)] [] h (kV K)
  refine aw_iconst (v := 0) d_X12_see_0 ic_0 ?_
  refine aw_istore_n (i := 2) rfl [(0, .ref 1), (1, .int x1), (2, .int 0)] d_X12_see_1 (Nat.le_of_ble_eq_true rfl) rfl rfl ?_
  refine aw_iconst (v := 0) d_X12_see_2 ic_0 ?_
  refine aw_istore_n (i := 3) rfl [(0, .ref 1), (1, .int x1), (2, .int 0), (3, .int 0)] d_X12_see_3 (Nat.le_of_ble_eq_true rfl) rfl rfl ?_
  exact k
theorem t_X12_see_4 (d : Nat) (h : Hp_) (w : Wf h) (x1 : Int32) (x2 : Int32) (x3 : Int32) (K : Hp_ → Prop) (k : ((h_i h 1 7) ≤ x3 → AW (m_X12_see (d + 7) 0 0) 0 0 43 [(0, .ref 1), (1, .int x1), (2, .int x2), (3, .int 0)] [] h (kV K)) ∧ (¬ (h_i h 1 7) ≤ x3 → vp_in x3 12 ∧ (vp_in x1 12 ∧ ((¬ (h_i h 209 x3.toNatClampNeg) = (h_i h 209 x1.toNatClampNeg) → AW (m_X12_see (d + 7) 0 0) 0 0 4 [(0, .ref 1), (1, .int x1), (2, .int (x2 + 0)), (3, .int (x3 + 1))] [] h (kV K)) ∧ ((h_i h 209 x3.toNatClampNeg) = (h_i h 209 x1.toNatClampNeg) → AW (m_X12_see (d + 7) 0 0) 0 0 4 [(0, .ref 1), (1, .int x1), (2, .int (x2 + 1)), (3, .int (x3 + 1))] [] h (kV K)))))) : AW (m_X12_see (d + 7) 0 0) 0 0 4 [(0, .ref 1), (1, .int x1), (2, .int x2), (3, .int x3)] [] h (kV K) := by
  refine aw_iload_n (i := 3) rfl d_X12_see_4 3 rfl ?_
  refine aw_aload_n (i := 0) rfl d_X12_see_5 0 rfl ?_
  refine aw_geti (k0 := 7) kc_12 (ws_1 w) (Nat.le_of_ble_eq_true rfl) tw_1749 d_X12_see_6 rfl ?_
  refine aw_icmp_ge (tgt := 41) d_X12_see_9 rfl (fun c1 => ?_) (fun c1 => ?_)
  · have k := k.1 c1
    refine aw_iconst (v := 0) d_X12_see_41 ic_0 ?_
    refine aw_istore_n (i := 3) rfl [(0, .ref 1), (1, .int x1), (2, .int x2), (3, .int 0)] d_X12_see_42 (Nat.le_of_ble_eq_true rfl) rfl rfl ?_
    exact k
  · have k := k.2 c1
    refine aw_iload_n (i := 2) rfl d_X12_see_12 2 rfl ?_
    refine aw_aload_n (i := 0) rfl d_X12_see_13 0 rfl ?_
    refine aw_getr (k0 := 13) kc_12 (ws_1 w) (Nat.le_of_ble_eq_true rfl) tw_1755 d_X12_see_14 rfl (wr_1_13 w) ?_
    refine aw_iload_n (i := 3) rfl d_X12_see_17 3 rfl ?_
    obtain ⟨b2, k⟩ := k
    refine aw_iald (ws_209 w) b2 d_X12_see_18 ?_
    refine aw_aload_n (i := 0) rfl d_X12_see_19 0 rfl ?_
    refine aw_getr (k0 := 13) kc_12 (ws_1 w) (Nat.le_of_ble_eq_true rfl) tw_1755 d_X12_see_20 rfl (wr_1_13 w) ?_
    refine aw_iload_n (i := 1) rfl d_X12_see_23 1 rfl ?_
    obtain ⟨b3, k⟩ := k
    refine aw_iald (ws_209 w) b3 d_X12_see_24 ?_
    refine aw_icmp_ne (tgt := 32) d_X12_see_25 rfl (fun c4 => ?_) (fun c4 => ?_)
    · have k := k.1 c4
      refine aw_iconst (v := 0) d_X12_see_32 ic_0 ?_
      refine aw_iadd d_X12_see_33 ?_
      refine aw_istore_n (i := 2) rfl [(0, .ref 1), (1, .int x1), (2, .int (x2 + 0)), (3, .int x3)] d_X12_see_34 (Nat.le_of_ble_eq_true rfl) rfl rfl ?_
      refine aw_iinc (v := (x3 + 1)) [(0, .ref 1), (1, .int x1), (2, .int (x2 + 0)), (3, .int (x3 + 1))] d_X12_see_35 3 rfl rfl (Nat.le_of_ble_eq_true rfl) rfl rfl ?_
      refine aw_goto (tgt := 4) d_X12_see_38 rfl ?_
      exact k
    · have k := k.2 c4
      refine aw_iconst (v := 1) d_X12_see_28 ic_1 ?_
      refine aw_goto (tgt := 33) d_X12_see_29 rfl ?_
      refine aw_iadd d_X12_see_33 ?_
      refine aw_istore_n (i := 2) rfl [(0, .ref 1), (1, .int x1), (2, .int (x2 + 1)), (3, .int x3)] d_X12_see_34 (Nat.le_of_ble_eq_true rfl) rfl rfl ?_
      refine aw_iinc (v := (x3 + 1)) [(0, .ref 1), (1, .int x1), (2, .int (x2 + 1)), (3, .int (x3 + 1))] d_X12_see_35 3 rfl rfl (Nat.le_of_ble_eq_true rfl) rfl rfl ?_
      refine aw_goto (tgt := 4) d_X12_see_38 rfl ?_
      exact k
theorem t_X12_see_43 (d : Nat) (h : Hp_) (w : Wf h) (x1 : Int32) (x2 : Int32) (x3 : Int32) (K : Hp_ → Prop) (k : ((h_i h 1 79) ≤ x3 → K h) ∧ (¬ (h_i h 1 79) ≤ x3 → vp_in x3 80 ∧ (vp_in x1 12 ∧ ((¬ (h_i h 250 x3.toNatClampNeg) = (h_i h 209 x1.toNatClampNeg) → AW (m_X12_see (d + 7) 0 0) 0 0 43 [(0, .ref 1), (1, .int x1), (2, .int x2), (3, .int (x3 + 1))] [] h (kV K)) ∧ ((h_i h 250 x3.toNatClampNeg) = (h_i h 209 x1.toNatClampNeg) → vp_in x3 80 ∧ (vp_in x3 80 ∧ ((¬ ((h_i h 251 x3.toNatClampNeg) ≤ (h_i h 1 0) ∧ (h_i h 1 0) ≤ (h_i h 252 x3.toNatClampNeg)) → AW (m_X12_see (d + 7) 0 0) 0 0 43 [(0, .ref 1), (1, .int x1), (2, .int x2), (3, .int (x3 + 1))] [] h (kV K)) ∧ (((h_i h 251 x3.toNatClampNeg) ≤ (h_i h 1 0) ∧ (h_i h 1 0) ≤ (h_i h 252 x3.toNatClampNeg)) → vp_in x3 80 ∧ ((¬ (h_i h 254 x3.toNatClampNeg) = 0 → AW (m_X12_see (d + 7) 0 0) 0 0 43 [(0, .ref 1), (1, .int x1), (2, .int x2), (3, .int (x3 + 1))] [] h (kV K)) ∧ ((h_i h 254 x3.toNatClampNeg) = 0 → (¬ (h_i h 1 80) = 300 → AW (m_X12_see (d + 7) 0 0) 0 0 116 [(0, .ref 1), (1, .int x1), (2, .int x2), (3, .int x3), (4, .int 0), (5, .int 0)] [] h (kV K)) ∧ ((h_i h 1 80) = 300 → AW (m_X12_see (d + 7) 0 0) 0 0 43 [(0, .ref 1), (1, .int x1), (2, .int x2), (3, .int (x3 + 1))] [] h (kV K)))))))))))) : AW (m_X12_see (d + 7) 0 0) 0 0 43 [(0, .ref 1), (1, .int x1), (2, .int x2), (3, .int x3)] [] h (kV K) := by
  refine aw_iload_n (i := 3) rfl d_X12_see_43 3 rfl ?_
  refine aw_aload_n (i := 0) rfl d_X12_see_44 0 rfl ?_
  refine aw_geti (k0 := 79) kc_12 (ws_1 w) (Nat.le_of_ble_eq_true rfl) tw_1821 d_X12_see_45 rfl ?_
  refine aw_icmp_ge (tgt := 482) d_X12_see_48 rfl (fun c5 => ?_) (fun c5 => ?_)
  · have k := k.1 c5
    exact aw_vret rfl d_X12_see_482 ⟨Nat.le_refl _, Nat.le_refl _⟩ ⟨rfl, k⟩
  · have k := k.2 c5
    refine aw_aload_n (i := 0) rfl d_X12_see_51 0 rfl ?_
    refine aw_getr (k0 := 67) kc_12 (ws_1 w) (Nat.le_of_ble_eq_true rfl) tw_1809 d_X12_see_52 rfl (wr_1_67 w) ?_
    refine aw_iload_n (i := 3) rfl d_X12_see_55 3 rfl ?_
    obtain ⟨b6, k⟩ := k
    refine aw_iald (ws_250 w) b6 d_X12_see_56 ?_
    refine aw_aload_n (i := 0) rfl d_X12_see_57 0 rfl ?_
    refine aw_getr (k0 := 13) kc_12 (ws_1 w) (Nat.le_of_ble_eq_true rfl) tw_1755 d_X12_see_58 rfl (wr_1_13 w) ?_
    refine aw_iload_n (i := 1) rfl d_X12_see_61 1 rfl ?_
    obtain ⟨b7, k⟩ := k
    refine aw_iald (ws_209 w) b7 d_X12_see_62 ?_
    refine aw_icmp_ne (tgt := 476) d_X12_see_63 rfl (fun c8 => ?_) (fun c8 => ?_)
    · have k := k.1 c8
      refine aw_iinc (v := (x3 + 1)) [(0, .ref 1), (1, .int x1), (2, .int x2), (3, .int (x3 + 1))] d_X12_see_476 3 rfl rfl (Nat.le_of_ble_eq_true rfl) rfl rfl ?_
      refine aw_goto (tgt := 43) d_X12_see_479 rfl ?_
      exact k
    · have k := k.2 c8
      refine aw_aload_n (i := 0) rfl d_X12_see_66 0 rfl ?_
      refine aw_geti (k0 := 0) kc_12 (ws_1 w) (Nat.le_of_ble_eq_true rfl) tw_1742 d_X12_see_67 rfl ?_
      refine aw_aload_n (i := 0) rfl d_X12_see_70 0 rfl ?_
      refine aw_getr (k0 := 68) kc_12 (ws_1 w) (Nat.le_of_ble_eq_true rfl) tw_1810 d_X12_see_71 rfl (wr_1_68 w) ?_
      refine aw_iload_n (i := 3) rfl d_X12_see_74 3 rfl ?_
      obtain ⟨b9, k⟩ := k
      refine aw_iald (ws_251 w) b9 d_X12_see_75 ?_
      refine aw_aload_n (i := 0) rfl d_X12_see_76 0 rfl ?_
      refine aw_getr (k0 := 69) kc_12 (ws_1 w) (Nat.le_of_ble_eq_true rfl) tw_1811 d_X12_see_77 rfl (wr_1_69 w) ?_
      refine aw_iload_n (i := 3) rfl d_X12_see_80 3 rfl ?_
      obtain ⟨b10, k⟩ := k
      refine aw_iald (ws_252 w) b10 d_X12_see_81 ?_
      refine aw_Si [.int (h_i h 1 0), .int (h_i h 251 x3.toNatClampNeg), .int (h_i h 252 x3.toNatClampNeg)] [] d_X12_see_82 (cS_X12_in (d + 0) 0 0) tw_2143 rfl (rr0 (Nat.le_of_ble_eq_true rfl) (Nat.le_of_ble_eq_true rfl)) (Nat.le_of_ble_eq_true rfl) xs0 (s_X12_in _ _ (h_i h 1 0) (h_i h 251 x3.toNatClampNeg) (h_i h 252 x3.toNatClampNeg)) (fun _ _ kk => ?_)
      obtain ⟨e11, e12⟩ := kk
      rw [e11, e12]
      refine aw_ifb_eq (tgt := 476) d_X12_see_85 rfl (fun c13 => ?_) (fun c13 => ?_)
      · have k := k.1 c13
        refine aw_iinc (v := (x3 + 1)) [(0, .ref 1), (1, .int x1), (2, .int x2), (3, .int (x3 + 1))] d_X12_see_476 3 rfl rfl (Nat.le_of_ble_eq_true rfl) rfl rfl ?_
        refine aw_goto (tgt := 43) d_X12_see_479 rfl ?_
        exact k
      · have k := k.2 c13
        refine aw_aload_n (i := 0) rfl d_X12_see_88 0 rfl ?_
        refine aw_getr (k0 := 71) kc_12 (ws_1 w) (Nat.le_of_ble_eq_true rfl) tw_1813 d_X12_see_89 rfl (wr_1_71 w) ?_
        refine aw_iload_n (i := 3) rfl d_X12_see_92 3 rfl ?_
        obtain ⟨b14, k⟩ := k
        refine aw_zald (ws_254 w) b14 d_X12_see_93 ?_
        refine aw_if_ne (tgt := 476) d_X12_see_94 rfl (fun c15 => ?_) (fun c15 => ?_)
        · have k := k.1 c15
          refine aw_iinc (v := (x3 + 1)) [(0, .ref 1), (1, .int x1), (2, .int x2), (3, .int (x3 + 1))] d_X12_see_476 3 rfl rfl (Nat.le_of_ble_eq_true rfl) rfl rfl ?_
          refine aw_goto (tgt := 43) d_X12_see_479 rfl ?_
          exact k
        · have k := k.2 c15
          refine aw_aload_n (i := 0) rfl d_X12_see_97 0 rfl ?_
          refine aw_geti (k0 := 80) kc_12 (ws_1 w) (Nat.le_of_ble_eq_true rfl) tw_1822 d_X12_see_98 rfl ?_
          refine aw_sipush (v := 300) d_X12_see_101 is_300 ?_
          refine aw_icmp_ne (tgt := 110) d_X12_see_104 rfl (fun c16 => ?_) (fun c16 => ?_)
          · have k := k.1 c16
            refine aw_iconst (v := 0) d_X12_see_110 ic_0 ?_
            refine aw_istore [(0, .ref 1), (1, .int x1), (2, .int x2), (3, .int x3), (4, .int 0)] d_X12_see_111 (Nat.le_of_ble_eq_true rfl) rfl rfl ?_
            refine aw_iconst (v := 0) d_X12_see_113 ic_0 ?_
            refine aw_istore [(0, .ref 1), (1, .int x1), (2, .int x2), (3, .int x3), (4, .int 0), (5, .int 0)] d_X12_see_114 (Nat.le_of_ble_eq_true rfl) rfl rfl ?_
            exact k
          · have k := k.2 c16
            refine aw_goto (tgt := 476) d_X12_see_107 rfl ?_
            refine aw_iinc (v := (x3 + 1)) [(0, .ref 1), (1, .int x1), (2, .int x2), (3, .int (x3 + 1))] d_X12_see_476 3 rfl rfl (Nat.le_of_ble_eq_true rfl) rfl rfl ?_
            refine aw_goto (tgt := 43) d_X12_see_479 rfl ?_
            exact k
theorem t_X12_see_116 (d : Nat) (h : Hp_) (w : Wf h) (x1 : Int32) (x2 : Int32) (x3 : Int32) (x4 : Int32) (x5 : Int32) (K : Hp_ → Prop) (k : ((h_i h 1 80) ≤ x5 → vp_in (h_i h 1 80) 300 ∧ (vp_in (h_i h 1 80) 300 ∧ (vp_in (h_i h 1 80) 300 ∧ (vp_in x3 80 ∧ (vp_in (9 * (h_i h 1 80)) 2700 ∧ (vp_in x3 80 ∧ (vp_in ((9 * (h_i h 1 80)) + 1) 2700 ∧ (vp_in x3 80 ∧ (vp_in ((9 * (h_i h 1 80)) + 2) 2700 ∧ (vp_in ((9 * (h_i h 1 80)) + 3) 2700 ∧ (vp_in ((9 * (h_i h 1 80)) + 4) 2700 ∧ (Ci (m_X12_rankOn (d + 0) 0 0) [.ref 1, .int x1, .int ((h_i h 1 0) / 1440), .int (h_i h 1 0)] (h_im (h_im (h_im (h_im (h_im (h_im (h_im (h_im h 255 ((h_i h 1 80) : Int32).toNatClampNeg x1) 256 ((h_i h 1 80) : Int32).toNatClampNeg x3) 257 ((h_i h 1 80) : Int32).toNatClampNeg (h_i h 1 0)) 261 ((9 * (h_i h 1 80)) : Int32).toNatClampNeg (h_i h 249 x3.toNatClampNeg)) 261 (((9 * (h_i h 1 80)) + 1) : Int32).toNatClampNeg (h_i h 253 x3.toNatClampNeg)) 261 (((9 * (h_i h 1 80)) + 2) : Int32).toNatClampNeg (h_i h 250 x3.toNatClampNeg)) 261 (((9 * (h_i h 1 80)) + 3) : Int32).toNatClampNeg (((h_i h 1 0) / 60) - ((h_i h 1 0) / 60) / 24 * 24)) 261 (((9 * (h_i h 1 80)) + 4) : Int32).toNatClampNeg ((h_i h 1 0) / 1440)) (fun r31 h29 => Wf h29 ∧ (vp_in ((9 * (h_i h 1 80)) + 5) 2700 ∧ (vp_in ((9 * (h_i h 1 80)) + 6) 2700 ∧ (vp_in ((9 * (h_i h 1 80)) + 7) 2700 ∧ (vp_in x3 80 ∧ (vp_in ((9 * (h_i h 1 80)) + 8) 2700 ∧ (Ci (m_X12_lets (d + 6) 0 0) [.ref 1, .int (h_i h 1 80), .int (h_i h29 1 0)] (h_im (h_im (h_im (h_im h29 261 (((9 * (h_i h 1 80)) + 5) : Int32).toNatClampNeg r31) 261 (((9 * (h_i h 1 80)) + 6) : Int32).toNatClampNeg x2) 261 (((9 * (h_i h 1 80)) + 7) : Int32).toNatClampNeg x4) 261 (((9 * (h_i h 1 80)) + 8) : Int32).toNatClampNeg ((h_i h29 1 0) - (h_i h29 251 x3.toNatClampNeg))) (fun r39 h37 => Wf h37 ∧ (vp_in (h_i h 1 80) 300 ∧ (vp_in (h_i h 1 80) 300 ∧ (vp_in (h_i h 1 80) 300 ∧ (vp_in (h_i h 1 80) 300 ∧ ((r39 ≤ 1 → vp_in (h_i h 1 80) 300 ∧ ((¬ r39 = 3 → AW (m_X12_see (d + 7) 0 0) 0 0 43 [(0, .ref 1), (1, .int x1), (2, .int x2), (3, .int (x3 + 1))] [] (h_im (h_im (h_im (h_im h37 258 ((h_i h 1 80) : Int32).toNatClampNeg r39) 259 ((h_i h 1 80) : Int32).toNatClampNeg (-1)) 260 ((h_i h 1 80) : Int32).toNatClampNeg (-1)) 1 80 ((h_i h37 1 80) + 1)) (kV K)) ∧ (r39 = 3 → vp_in x3 80 ∧ ((30 ≤ (h_i h37 1 96) → AW (m_X12_see (d + 7) 0 0) 0 0 43 [(0, .ref 1), (1, .int x1), (2, .int x2), (3, .int (x3 + 1))] [] (h_im (h_im (h_im (h_im (h_im h37 258 ((h_i h 1 80) : Int32).toNatClampNeg r39) 259 ((h_i h 1 80) : Int32).toNatClampNeg (-1)) 260 ((h_i h 1 80) : Int32).toNatClampNeg (-1)) 254 x3.toNatClampNeg (vp_nar .boolean 1)) 1 80 ((h_i h37 1 80) + 1)) (kV K)) ∧ (¬ 30 ≤ (h_i h37 1 96) → vp_in x3 80 ∧ (Ci (m_X12_opened (d + 0) 0 0) [.ref 1, .int (h_i h37 249 x3.toNatClampNeg)] (h_im (h_im (h_im (h_im h37 258 ((h_i h 1 80) : Int32).toNatClampNeg r39) 259 ((h_i h 1 80) : Int32).toNatClampNeg (-1)) 260 ((h_i h 1 80) : Int32).toNatClampNeg (-1)) 254 x3.toNatClampNeg (vp_nar .boolean 1)) (fun r52 h50 => Wf h50 ∧ (vp_in (h_i h 1 80) 300 ∧ (AW (m_X12_see (d + 7) 0 0) 0 0 43 [(0, .ref 1), (1, .int x1), (2, .int x2), (3, .int (x3 + 1))] [] (h_im (h_im h50 259 ((h_i h 1 80) : Int32).toNatClampNeg r52) 1 80 ((h_i h50 1 80) + 1)) (kV K)))))))))) ∧ (¬ r39 ≤ 1 → vp_in x1 12 ∧ (Ci (m_X12_walkOf (d + 0) 0 0) [.ref 1, .int (h_i h37 209 x1.toNatClampNeg), .int 0] (h_im (h_im (h_im h37 258 ((h_i h 1 80) : Int32).toNatClampNeg r39) 259 ((h_i h 1 80) : Int32).toNatClampNeg (-1)) 260 ((h_i h 1 80) : Int32).toNatClampNeg (-1)) (fun r57 h55 => Wf h55 ∧ ((¬ r57 = (-1) → vp_in (h_i h 1 80) 300 ∧ (vp_in (h_i h 1 80) 300 ∧ ((¬ (h_i h55 258 ((h_i h 1 80) : Int32).toNatClampNeg) = 3 → AW (m_X12_see (d + 7) 0 0) 0 0 43 [(0, .ref 1), (1, .int x1), (2, .int x2), (3, .int (x3 + 1))] [] (h_im (h_im h55 260 ((h_i h 1 80) : Int32).toNatClampNeg ((h_i h55 1 0) + r57)) 1 80 ((h_i h55 1 80) + 1)) (kV K)) ∧ ((h_i h55 258 ((h_i h 1 80) : Int32).toNatClampNeg) = 3 → vp_in x3 80 ∧ ((30 ≤ (h_i h55 1 96) → AW (m_X12_see (d + 7) 0 0) 0 0 43 [(0, .ref 1), (1, .int x1), (2, .int x2), (3, .int (x3 + 1))] [] (h_im (h_im (h_im h55 260 ((h_i h 1 80) : Int32).toNatClampNeg ((h_i h55 1 0) + r57)) 254 x3.toNatClampNeg (vp_nar .boolean 1)) 1 80 ((h_i h55 1 80) + 1)) (kV K)) ∧ (¬ 30 ≤ (h_i h55 1 96) → vp_in x3 80 ∧ (Ci (m_X12_opened (d + 0) 0 0) [.ref 1, .int (h_i h55 249 x3.toNatClampNeg)] (h_im (h_im h55 260 ((h_i h 1 80) : Int32).toNatClampNeg ((h_i h55 1 0) + r57)) 254 x3.toNatClampNeg (vp_nar .boolean 1)) (fun r67 h65 => Wf h65 ∧ (vp_in (h_i h 1 80) 300 ∧ (AW (m_X12_see (d + 7) 0 0) 0 0 43 [(0, .ref 1), (1, .int x1), (2, .int x2), (3, .int (x3 + 1))] [] (h_im (h_im h65 259 ((h_i h 1 80) : Int32).toNatClampNeg r67) 1 80 ((h_i h65 1 80) + 1)) (kV K))))))))))) ∧ (r57 = (-1) → vp_in (h_i h 1 80) 300 ∧ (vp_in (h_i h 1 80) 300 ∧ ((¬ (h_i h55 258 ((h_i h 1 80) : Int32).toNatClampNeg) = 3 → AW (m_X12_see (d + 7) 0 0) 0 0 43 [(0, .ref 1), (1, .int x1), (2, .int x2), (3, .int (x3 + 1))] [] (h_im (h_im h55 260 ((h_i h 1 80) : Int32).toNatClampNeg (-1)) 1 80 ((h_i h55 1 80) + 1)) (kV K)) ∧ ((h_i h55 258 ((h_i h 1 80) : Int32).toNatClampNeg) = 3 → vp_in x3 80 ∧ ((30 ≤ (h_i h55 1 96) → AW (m_X12_see (d + 7) 0 0) 0 0 43 [(0, .ref 1), (1, .int x1), (2, .int x2), (3, .int (x3 + 1))] [] (h_im (h_im (h_im h55 260 ((h_i h 1 80) : Int32).toNatClampNeg (-1)) 254 x3.toNatClampNeg (vp_nar .boolean 1)) 1 80 ((h_i h55 1 80) + 1)) (kV K)) ∧ (¬ 30 ≤ (h_i h55 1 96) → vp_in x3 80 ∧ (Ci (m_X12_opened (d + 0) 0 0) [.ref 1, .int (h_i h55 249 x3.toNatClampNeg)] (h_im (h_im h55 260 ((h_i h 1 80) : Int32).toNatClampNeg (-1)) 254 x3.toNatClampNeg (vp_nar .boolean 1)) (fun r77 h75 => Wf h75 ∧ (vp_in (h_i h 1 80) 300 ∧ (AW (m_X12_see (d + 7) 0 0) 0 0 43 [(0, .ref 1), (1, .int x1), (2, .int x2), (3, .int (x3 + 1))] [] (h_im (h_im h75 259 ((h_i h 1 80) : Int32).toNatClampNeg r77) 1 80 ((h_i h75 1 80) + 1)) (kV K)))))))))))))))))))))))))))))))))))))))) ∧ (¬ (h_i h 1 80) ≤ x5 → vp_in x5 300 ∧ ((¬ (h_i h 256 x5.toNatClampNeg) = x3 → AW (m_X12_see (d + 7) 0 0) 0 0 116 [(0, .ref 1), (1, .int x1), (2, .int x2), (3, .int x3), (4, .int (x4 + 0)), (5, .int (x5 + 1))] [] h (kV K)) ∧ ((h_i h 256 x5.toNatClampNeg) = x3 → AW (m_X12_see (d + 7) 0 0) 0 0 116 [(0, .ref 1), (1, .int x1), (2, .int x2), (3, .int x3), (4, .int (x4 + 1)), (5, .int (x5 + 1))] [] h (kV K))))) : AW (m_X12_see (d + 7) 0 0) 0 0 116 [(0, .ref 1), (1, .int x1), (2, .int x2), (3, .int x3), (4, .int x4), (5, .int x5)] [] h (kV K) := by
  refine aw_iload d_X12_see_116 5 rfl ?_
  refine aw_aload_n (i := 0) rfl d_X12_see_118 0 rfl ?_
  refine aw_geti (k0 := 80) kc_12 (ws_1 w) (Nat.le_of_ble_eq_true rfl) tw_1822 d_X12_see_119 rfl ?_
  refine aw_icmp_ge (tgt := 152) d_X12_see_122 rfl (fun c17 => ?_) (fun c17 => ?_)
  · have k := k.1 c17
    refine aw_aload_n (i := 0) rfl d_X12_see_152 0 rfl ?_
    refine aw_geti (k0 := 80) kc_12 (ws_1 w) (Nat.le_of_ble_eq_true rfl) tw_1822 d_X12_see_153 rfl ?_
    refine aw_istore [(0, .ref 1), (1, .int x1), (2, .int x2), (3, .int x3), (4, .int x4), (5, .int (h_i h 1 80))] d_X12_see_156 (Nat.le_of_ble_eq_true rfl) rfl rfl ?_
    refine aw_aload_n (i := 0) rfl d_X12_see_158 0 rfl ?_
    refine aw_getr (k0 := 72) kc_12 (ws_1 w) (Nat.le_of_ble_eq_true rfl) tw_1814 d_X12_see_159 rfl (wr_1_72 w) ?_
    refine aw_iload d_X12_see_162 5 rfl ?_
    refine aw_iload_n (i := 1) rfl d_X12_see_164 1 rfl ?_
    obtain ⟨b18, k⟩ := k
    refine aw_iast (ws_255 w) b18 d_X12_see_165 ?_
    refine aw_aload_n (i := 0) rfl d_X12_see_166 0 rfl ?_
    refine aw_getr (k0 := 73) kc_12 (ws_1 w) (Nat.le_of_ble_eq_true rfl) tw_1815 d_X12_see_167 rfl (wr_1_73 w) ?_
    refine aw_iload d_X12_see_170 5 rfl ?_
    refine aw_iload_n (i := 3) rfl d_X12_see_172 3 rfl ?_
    obtain ⟨b19, k⟩ := k
    refine aw_iast (ws_256 w) b19 d_X12_see_173 ?_
    refine aw_aload_n (i := 0) rfl d_X12_see_174 0 rfl ?_
    refine aw_getr (k0 := 74) kc_12 (ws_1 w) (Nat.le_of_ble_eq_true rfl) tw_1816 d_X12_see_175 rfl (wr_1_74 w) ?_
    refine aw_iload d_X12_see_178 5 rfl ?_
    refine aw_aload_n (i := 0) rfl d_X12_see_180 0 rfl ?_
    refine aw_geti (k0 := 0) kc_12 (ws_1 w) (Nat.le_of_ble_eq_true rfl) tw_1742 d_X12_see_181 rfl ?_
    refine aw_vi (v2 := (h_i h 1 0)) (rfl) ?_
    obtain ⟨b20, k⟩ := k
    refine aw_iast (ws_257 w) b20 d_X12_see_184 ?_
    refine aw_bipush (v := 9) d_X12_see_185 ib_9 ?_
    refine aw_iload d_X12_see_187 5 rfl ?_
    refine aw_imul d_X12_see_189 ?_
    refine aw_istore [(0, .ref 1), (1, .int x1), (2, .int x2), (3, .int x3), (4, .int x4), (5, .int (h_i h 1 80)), (6, .int (9 * (h_i h 1 80)))] d_X12_see_190 (Nat.le_of_ble_eq_true rfl) rfl rfl ?_
    refine aw_aload_n (i := 0) rfl d_X12_see_192 0 rfl ?_
    refine aw_getr (k0 := 78) kc_12 (ws_1 w) (Nat.le_of_ble_eq_true rfl) tw_1820 d_X12_see_193 rfl (wr_1_78 w) ?_
    refine aw_iload d_X12_see_196 6 rfl ?_
    refine aw_aload_n (i := 0) rfl d_X12_see_198 0 rfl ?_
    refine aw_getr (k0 := 66) kc_12 (ws_1 w) (Nat.le_of_ble_eq_true rfl) tw_1808 d_X12_see_199 rfl (wr_1_66 w) ?_
    refine aw_iload_n (i := 3) rfl d_X12_see_202 3 rfl ?_
    obtain ⟨b21, k⟩ := k
    refine aw_iald (ws_249 w) b21 d_X12_see_203 ?_
    refine aw_vi (v2 := (h_i h 249 x3.toNatClampNeg)) (rfl) ?_
    obtain ⟨b22, k⟩ := k
    refine aw_iast (ws_261 w) b22 d_X12_see_204 ?_
    refine aw_aload_n (i := 0) rfl d_X12_see_205 0 rfl ?_
    refine aw_getr (k0 := 78) kc_12 (ws_1 w) (Nat.le_of_ble_eq_true rfl) tw_1820 d_X12_see_206 rfl (wr_1_78 w) ?_
    refine aw_iload d_X12_see_209 6 rfl ?_
    refine aw_iconst (v := 1) d_X12_see_211 ic_1 ?_
    refine aw_iadd d_X12_see_212 ?_
    refine aw_aload_n (i := 0) rfl d_X12_see_213 0 rfl ?_
    refine aw_getr (k0 := 70) kc_12 (ws_1 w) (Nat.le_of_ble_eq_true rfl) tw_1812 d_X12_see_214 rfl (wr_1_70 w) ?_
    refine aw_iload_n (i := 3) rfl d_X12_see_217 3 rfl ?_
    obtain ⟨b23, k⟩ := k
    refine aw_iald (ws_253 w) b23 d_X12_see_218 ?_
    refine aw_vi (v2 := (h_i h 253 x3.toNatClampNeg)) (rfl) ?_
    obtain ⟨b24, k⟩ := k
    refine aw_iast (ws_261 w) b24 d_X12_see_219 ?_
    refine aw_aload_n (i := 0) rfl d_X12_see_220 0 rfl ?_
    refine aw_getr (k0 := 78) kc_12 (ws_1 w) (Nat.le_of_ble_eq_true rfl) tw_1820 d_X12_see_221 rfl (wr_1_78 w) ?_
    refine aw_iload d_X12_see_224 6 rfl ?_
    refine aw_iconst (v := 2) d_X12_see_226 ic_2 ?_
    refine aw_iadd d_X12_see_227 ?_
    refine aw_aload_n (i := 0) rfl d_X12_see_228 0 rfl ?_
    refine aw_getr (k0 := 67) kc_12 (ws_1 w) (Nat.le_of_ble_eq_true rfl) tw_1809 d_X12_see_229 rfl (wr_1_67 w) ?_
    refine aw_iload_n (i := 3) rfl d_X12_see_232 3 rfl ?_
    obtain ⟨b25, k⟩ := k
    refine aw_iald (ws_250 w) b25 d_X12_see_233 ?_
    refine aw_vi (v2 := (h_i h 250 x3.toNatClampNeg)) (rfl) ?_
    obtain ⟨b26, k⟩ := k
    refine aw_iast (ws_261 w) b26 d_X12_see_234 ?_
    refine aw_aload_n (i := 0) rfl d_X12_see_235 0 rfl ?_
    refine aw_getr (k0 := 78) kc_12 (ws_1 w) (Nat.le_of_ble_eq_true rfl) tw_1820 d_X12_see_236 rfl (wr_1_78 w) ?_
    refine aw_iload d_X12_see_239 6 rfl ?_
    refine aw_iconst (v := 3) d_X12_see_241 ic_3 ?_
    refine aw_iadd d_X12_see_242 ?_
    refine aw_aload_n (i := 0) rfl d_X12_see_243 0 rfl ?_
    refine aw_geti (k0 := 0) kc_12 (ws_1 w) (Nat.le_of_ble_eq_true rfl) tw_1742 d_X12_see_244 rfl ?_
    refine aw_vi (v2 := (h_i h 1 0)) (rfl) ?_
    refine aw_bipush (v := 60) d_X12_see_247 ib_60 ?_
    refine aw_idiv d_X12_see_249 (by decide) ?_
    refine aw_bipush (v := 24) d_X12_see_250 ib_24 ?_
    refine aw_irem d_X12_see_252 (by decide) ?_
    obtain ⟨b27, k⟩ := k
    refine aw_iast (ws_261 w) b27 d_X12_see_253 ?_
    refine aw_aload_n (i := 0) rfl d_X12_see_254 0 rfl ?_
    refine aw_getr (k0 := 78) kc_12 (ws_1 w) (Nat.le_of_ble_eq_true rfl) tw_1820 d_X12_see_255 rfl (wr_1_78 w) ?_
    refine aw_iload d_X12_see_258 6 rfl ?_
    refine aw_iconst (v := 4) d_X12_see_260 ic_4 ?_
    refine aw_iadd d_X12_see_261 ?_
    refine aw_aload_n (i := 0) rfl d_X12_see_262 0 rfl ?_
    refine aw_geti (k0 := 0) kc_12 (ws_1 w) (Nat.le_of_ble_eq_true rfl) tw_1742 d_X12_see_263 rfl ?_
    refine aw_vi (v2 := (h_i h 1 0)) (rfl) ?_
    refine aw_sipush (v := 1440) d_X12_see_266 is_1440 ?_
    refine aw_idiv d_X12_see_269 (by decide) ?_
    obtain ⟨b28, k⟩ := k
    refine aw_iast (ws_261 w) b28 d_X12_see_270 ?_
    refine aw_aload_n (i := 0) rfl d_X12_see_271 0 rfl ?_
    refine aw_getr (k0 := 78) kc_12 (ws_1 w) (Nat.le_of_ble_eq_true rfl) tw_1820 d_X12_see_272 rfl (wr_1_78 w) ?_
    refine aw_iload d_X12_see_275 6 rfl ?_
    refine aw_iconst (v := 5) d_X12_see_277 ic_5 ?_
    refine aw_iadd d_X12_see_278 ?_
    refine aw_aload_n (i := 0) rfl d_X12_see_279 0 rfl ?_
    refine aw_iload_n (i := 1) rfl d_X12_see_280 1 rfl ?_
    refine aw_aload_n (i := 0) rfl d_X12_see_281 0 rfl ?_
    refine aw_geti (k0 := 0) kc_12 (ws_1 w) (Nat.le_of_ble_eq_true rfl) tw_1742 d_X12_see_282 rfl ?_
    refine aw_vi (v2 := (h_i h 1 0)) (rfl) ?_
    refine aw_sipush (v := 1440) d_X12_see_285 is_1440 ?_
    refine aw_idiv d_X12_see_288 (by decide) ?_
    refine aw_aload_n (i := 0) rfl d_X12_see_289 0 rfl ?_
    refine aw_geti (k0 := 0) kc_12 (ws_1 w) (Nat.le_of_ble_eq_true rfl) tw_1742 d_X12_see_290 rfl ?_
    refine aw_vi (v2 := (h_i h 1 0)) (rfl) ?_
    refine aw_Vi 1 [.int x1, .int ((h_i h 1 0) / 1440), .int (h_i h 1 0)] [.int ((9 * (h_i h 1 80)) + 5), .ref 261] d_X12_see_293 (cV_X12_rankOn (d + 0) 0 0) kc_12 (ws_1 w) tw_2175 rfl (rr0 (Nat.le_of_ble_eq_true rfl) (Nat.le_of_ble_eq_true rfl)) (Nat.le_of_ble_eq_true rfl) xs0 k (fun r31 h29 kk => ?_)
    obtain ⟨w30, k⟩ := kk
    obtain ⟨b32, k⟩ := k
    refine aw_iast (ws_261 w30) b32 d_X12_see_296 ?_
    refine aw_aload_n (i := 0) rfl d_X12_see_297 0 rfl ?_
    refine aw_getr (k0 := 78) kc_12 (ws_1 w30) (Nat.le_of_ble_eq_true rfl) tw_1820 d_X12_see_298 rfl (wr_1_78 w30) ?_
    refine aw_iload d_X12_see_301 6 rfl ?_
    refine aw_bipush (v := 6) d_X12_see_303 ib_6 ?_
    refine aw_iadd d_X12_see_305 ?_
    refine aw_iload_n (i := 2) rfl d_X12_see_306 2 rfl ?_
    obtain ⟨b33, k⟩ := k
    refine aw_iast (ws_261 w30) b33 d_X12_see_307 ?_
    refine aw_aload_n (i := 0) rfl d_X12_see_308 0 rfl ?_
    refine aw_getr (k0 := 78) kc_12 (ws_1 w30) (Nat.le_of_ble_eq_true rfl) tw_1820 d_X12_see_309 rfl (wr_1_78 w30) ?_
    refine aw_iload d_X12_see_312 6 rfl ?_
    refine aw_bipush (v := 7) d_X12_see_314 ib_7 ?_
    refine aw_iadd d_X12_see_316 ?_
    refine aw_iload d_X12_see_317 4 rfl ?_
    obtain ⟨b34, k⟩ := k
    refine aw_iast (ws_261 w30) b34 d_X12_see_319 ?_
    refine aw_aload_n (i := 0) rfl d_X12_see_320 0 rfl ?_
    refine aw_getr (k0 := 78) kc_12 (ws_1 w30) (Nat.le_of_ble_eq_true rfl) tw_1820 d_X12_see_321 rfl (wr_1_78 w30) ?_
    refine aw_iload d_X12_see_324 6 rfl ?_
    refine aw_bipush (v := 8) d_X12_see_326 ib_8 ?_
    refine aw_iadd d_X12_see_328 ?_
    refine aw_aload_n (i := 0) rfl d_X12_see_329 0 rfl ?_
    refine aw_geti (k0 := 0) kc_12 (ws_1 w30) (Nat.le_of_ble_eq_true rfl) tw_1742 d_X12_see_330 rfl ?_
    refine aw_vi (v2 := (h_i h29 1 0)) (rfl) ?_
    refine aw_aload_n (i := 0) rfl d_X12_see_333 0 rfl ?_
    refine aw_getr (k0 := 68) kc_12 (ws_1 w30) (Nat.le_of_ble_eq_true rfl) tw_1810 d_X12_see_334 rfl (wr_1_68 w30) ?_
    refine aw_iload_n (i := 3) rfl d_X12_see_337 3 rfl ?_
    obtain ⟨b35, k⟩ := k
    refine aw_iald (ws_251 w30) b35 d_X12_see_338 ?_
    refine aw_vi (v2 := (h_i h29 251 x3.toNatClampNeg)) (rfl) ?_
    refine aw_isub d_X12_see_339 ?_
    obtain ⟨b36, k⟩ := k
    refine aw_iast (ws_261 w30) b36 d_X12_see_340 ?_
    refine aw_aload_n (i := 0) rfl d_X12_see_341 0 rfl ?_
    refine aw_getr (k0 := 75) kc_12 (ws_1 w30) (Nat.le_of_ble_eq_true rfl) tw_1817 d_X12_see_342 rfl (wr_1_75 w30) ?_
    refine aw_iload d_X12_see_345 5 rfl ?_
    refine aw_aload_n (i := 0) rfl d_X12_see_347 0 rfl ?_
    refine aw_iload d_X12_see_348 5 rfl ?_
    refine aw_aload_n (i := 0) rfl d_X12_see_350 0 rfl ?_
    refine aw_geti (k0 := 0) kc_12 (ws_1 w30) (Nat.le_of_ble_eq_true rfl) tw_1742 d_X12_see_351 rfl ?_
    refine aw_vi (v2 := (h_i h29 1 0)) (rfl) ?_
    refine aw_Vi 1 [.int (h_i h 1 80), .int (h_i h29 1 0)] [.int (h_i h 1 80), .ref 258] d_X12_see_354 (cV_X12_lets (d + 6) 0 0) kc_12 (ws_1 w30) tw_2396 rfl (rr0 (Nat.le_of_ble_eq_true rfl) (Nat.le_of_ble_eq_true rfl)) (Nat.le_of_ble_eq_true rfl) xs0 k (fun r39 h37 kk => ?_)
    obtain ⟨w38, k⟩ := kk
    obtain ⟨b40, k⟩ := k
    refine aw_iast (ws_258 w38) b40 d_X12_see_357 ?_
    refine aw_aload_n (i := 0) rfl d_X12_see_358 0 rfl ?_
    refine aw_getr (k0 := 76) kc_12 (ws_1 w38) (Nat.le_of_ble_eq_true rfl) tw_1818 d_X12_see_359 rfl (wr_1_76 w38) ?_
    refine aw_iload d_X12_see_362 5 rfl ?_
    refine aw_iconst (v := (-1)) d_X12_see_364 ic_m1 ?_
    obtain ⟨b41, k⟩ := k
    refine aw_iast (ws_259 w38) b41 d_X12_see_365 ?_
    refine aw_aload_n (i := 0) rfl d_X12_see_366 0 rfl ?_
    refine aw_getr (k0 := 77) kc_12 (ws_1 w38) (Nat.le_of_ble_eq_true rfl) tw_1819 d_X12_see_367 rfl (wr_1_77 w38) ?_
    refine aw_iload d_X12_see_370 5 rfl ?_
    refine aw_iconst (v := (-1)) d_X12_see_372 ic_m1 ?_
    obtain ⟨b42, k⟩ := k
    refine aw_iast (ws_260 w38) b42 d_X12_see_373 ?_
    refine aw_aload_n (i := 0) rfl d_X12_see_374 0 rfl ?_
    refine aw_getr (k0 := 75) kc_12 (ws_1 w38) (Nat.le_of_ble_eq_true rfl) tw_1817 d_X12_see_375 rfl (wr_1_75 w38) ?_
    refine aw_iload d_X12_see_378 5 rfl ?_
    obtain ⟨b43, k⟩ := k
    refine aw_iald (ws_258 w38) b43 d_X12_see_380 ?_
    refine aw_vi (v2 := r39) (hi_s h37 258 ((h_i h 1 80) : Int32).toNatClampNeg r39) ?_
    refine aw_iconst (v := 1) d_X12_see_381 ic_1 ?_
    refine aw_icmp_le (tgt := 422) d_X12_see_382 rfl (fun c44 => ?_) (fun c44 => ?_)
    · have k := k.1 c44
      refine aw_aload_n (i := 0) rfl d_X12_see_422 0 rfl ?_
      refine aw_getr (k0 := 75) kc_12 (ws_1 w38) (Nat.le_of_ble_eq_true rfl) tw_1817 d_X12_see_423 rfl (wr_1_75 w38) ?_
      refine aw_iload d_X12_see_426 5 rfl ?_
      obtain ⟨b45, k⟩ := k
      refine aw_iald (ws_258 w38) b45 d_X12_see_428 ?_
      refine aw_vi (v2 := r39) (hi_s h37 258 ((h_i h 1 80) : Int32).toNatClampNeg r39) ?_
      refine aw_iconst (v := 3) d_X12_see_429 ic_3 ?_
      refine aw_icmp_ne (tgt := 466) d_X12_see_430 rfl (fun c46 => ?_) (fun c46 => ?_)
      · have k := k.1 c46
        refine aw_aload_n (i := 0) rfl d_X12_see_466 0 rfl ?_
        refine aw_dup d_X12_see_467 rfl ?_
        refine aw_geti (k0 := 80) kc_12 (ws_1 w38) (Nat.le_of_ble_eq_true rfl) tw_1822 d_X12_see_468 rfl ?_
        refine aw_vi (v2 := (h_i h37 1 80)) (rfl) ?_
        refine aw_iconst (v := 1) d_X12_see_471 ic_1 ?_
        refine aw_iadd d_X12_see_472 ?_
        refine aw_puti (k0 := 80) kc_12 (ws_1 w38) (Nat.le_of_ble_eq_true rfl) tw_1822 d_X12_see_473 rfl rfl nf_i ?_
        refine aw_iinc (v := (x3 + 1)) [(0, .ref 1), (1, .int x1), (2, .int x2), (3, .int (x3 + 1)), (4, .int x4), (5, .int (h_i h 1 80)), (6, .int (9 * (h_i h 1 80)))] d_X12_see_476 3 rfl rfl (Nat.le_of_ble_eq_true rfl) rfl rfl ?_
        refine aw_goto (tgt := 43) d_X12_see_479 rfl ?_
        exact aw_lvp [0, 1, 2, 3] [(0, .ref 1), (1, .int x1), (2, .int x2), (3, .int (x3 + 1))] rfl k
      · have k := k.2 c46
        refine aw_aload_n (i := 0) rfl d_X12_see_433 0 rfl ?_
        refine aw_getr (k0 := 71) kc_12 (ws_1 w38) (Nat.le_of_ble_eq_true rfl) tw_1813 d_X12_see_434 rfl (wr_1_71 w38) ?_
        refine aw_iload_n (i := 3) rfl d_X12_see_437 3 rfl ?_
        refine aw_iconst (v := 1) d_X12_see_438 ic_1 ?_
        obtain ⟨b47, k⟩ := k
        refine aw_zast (ws_254 w38) b47 d_X12_see_439 ?_
        refine aw_aload_n (i := 0) rfl d_X12_see_440 0 rfl ?_
        refine aw_geti (k0 := 96) kc_12 (ws_1 w38) (Nat.le_of_ble_eq_true rfl) tw_1838 d_X12_see_441 rfl ?_
        refine aw_vi (v2 := (h_i h37 1 96)) (rfl) ?_
        refine aw_bipush (v := 30) d_X12_see_444 ib_30 ?_
        refine aw_icmp_ge (tgt := 466) d_X12_see_446 rfl (fun c48 => ?_) (fun c48 => ?_)
        · have k := k.1 c48
          refine aw_aload_n (i := 0) rfl d_X12_see_466 0 rfl ?_
          refine aw_dup d_X12_see_467 rfl ?_
          refine aw_geti (k0 := 80) kc_12 (ws_1 w38) (Nat.le_of_ble_eq_true rfl) tw_1822 d_X12_see_468 rfl ?_
          refine aw_vi (v2 := (h_i h37 1 80)) (rfl) ?_
          refine aw_iconst (v := 1) d_X12_see_471 ic_1 ?_
          refine aw_iadd d_X12_see_472 ?_
          refine aw_puti (k0 := 80) kc_12 (ws_1 w38) (Nat.le_of_ble_eq_true rfl) tw_1822 d_X12_see_473 rfl rfl nf_i ?_
          refine aw_iinc (v := (x3 + 1)) [(0, .ref 1), (1, .int x1), (2, .int x2), (3, .int (x3 + 1)), (4, .int x4), (5, .int (h_i h 1 80)), (6, .int (9 * (h_i h 1 80)))] d_X12_see_476 3 rfl rfl (Nat.le_of_ble_eq_true rfl) rfl rfl ?_
          refine aw_goto (tgt := 43) d_X12_see_479 rfl ?_
          exact aw_lvp [0, 1, 2, 3] [(0, .ref 1), (1, .int x1), (2, .int x2), (3, .int (x3 + 1))] rfl k
        · have k := k.2 c48
          refine aw_aload_n (i := 0) rfl d_X12_see_449 0 rfl ?_
          refine aw_getr (k0 := 76) kc_12 (ws_1 w38) (Nat.le_of_ble_eq_true rfl) tw_1818 d_X12_see_450 rfl (wr_1_76 w38) ?_
          refine aw_iload d_X12_see_453 5 rfl ?_
          refine aw_aload_n (i := 0) rfl d_X12_see_455 0 rfl ?_
          refine aw_aload_n (i := 0) rfl d_X12_see_456 0 rfl ?_
          refine aw_getr (k0 := 66) kc_12 (ws_1 w38) (Nat.le_of_ble_eq_true rfl) tw_1808 d_X12_see_457 rfl (wr_1_66 w38) ?_
          refine aw_iload_n (i := 3) rfl d_X12_see_460 3 rfl ?_
          obtain ⟨b49, k⟩ := k
          refine aw_iald (ws_249 w38) b49 d_X12_see_461 ?_
          refine aw_vi (v2 := (h_i h37 249 x3.toNatClampNeg)) (rfl) ?_
          refine aw_Vi 1 [.int (h_i h37 249 x3.toNatClampNeg)] [.int (h_i h 1 80), .ref 259] d_X12_see_462 (cV_X12_opened (d + 0) 0 0) kc_12 (ws_1 w38) tw_2446 rfl (rr0 (Nat.le_of_ble_eq_true rfl) (Nat.le_of_ble_eq_true rfl)) (Nat.le_of_ble_eq_true rfl) xs0 k (fun r52 h50 kk => ?_)
          obtain ⟨w51, k⟩ := kk
          obtain ⟨b53, k⟩ := k
          refine aw_iast (ws_259 w51) b53 d_X12_see_465 ?_
          refine aw_aload_n (i := 0) rfl d_X12_see_466 0 rfl ?_
          refine aw_dup d_X12_see_467 rfl ?_
          refine aw_geti (k0 := 80) kc_12 (ws_1 w51) (Nat.le_of_ble_eq_true rfl) tw_1822 d_X12_see_468 rfl ?_
          refine aw_vi (v2 := (h_i h50 1 80)) (rfl) ?_
          refine aw_iconst (v := 1) d_X12_see_471 ic_1 ?_
          refine aw_iadd d_X12_see_472 ?_
          refine aw_puti (k0 := 80) kc_12 (ws_1 w51) (Nat.le_of_ble_eq_true rfl) tw_1822 d_X12_see_473 rfl rfl nf_i ?_
          refine aw_iinc (v := (x3 + 1)) [(0, .ref 1), (1, .int x1), (2, .int x2), (3, .int (x3 + 1)), (4, .int x4), (5, .int (h_i h 1 80)), (6, .int (9 * (h_i h 1 80)))] d_X12_see_476 3 rfl rfl (Nat.le_of_ble_eq_true rfl) rfl rfl ?_
          refine aw_goto (tgt := 43) d_X12_see_479 rfl ?_
          exact aw_lvp [0, 1, 2, 3] [(0, .ref 1), (1, .int x1), (2, .int x2), (3, .int (x3 + 1))] rfl k
    · have k := k.2 c44
      refine aw_aload_n (i := 0) rfl d_X12_see_385 0 rfl ?_
      refine aw_aload_n (i := 0) rfl d_X12_see_386 0 rfl ?_
      refine aw_getr (k0 := 13) kc_12 (ws_1 w38) (Nat.le_of_ble_eq_true rfl) tw_1755 d_X12_see_387 rfl (wr_1_13 w38) ?_
      refine aw_iload_n (i := 1) rfl d_X12_see_390 1 rfl ?_
      obtain ⟨b54, k⟩ := k
      refine aw_iald (ws_209 w38) b54 d_X12_see_391 ?_
      refine aw_vi (v2 := (h_i h37 209 x1.toNatClampNeg)) (rfl) ?_
      refine aw_iconst (v := 0) d_X12_see_392 ic_0 ?_
      refine aw_Vi 1 [.int (h_i h37 209 x1.toNatClampNeg), .int 0] [] d_X12_see_393 (cV_X12_walkOf (d + 0) 0 0) kc_12 (ws_1 w38) tw_2150 rfl (rr0 (Nat.le_of_ble_eq_true rfl) (Nat.le_of_ble_eq_true rfl)) (Nat.le_of_ble_eq_true rfl) xs0 k (fun r57 h55 kk => ?_)
      obtain ⟨w56, k⟩ := kk
      refine aw_istore [(0, .ref 1), (1, .int x1), (2, .int x2), (3, .int x3), (4, .int x4), (5, .int (h_i h 1 80)), (6, .int (9 * (h_i h 1 80))), (7, .int r57)] d_X12_see_396 (Nat.le_of_ble_eq_true rfl) rfl rfl ?_
      refine aw_aload_n (i := 0) rfl d_X12_see_398 0 rfl ?_
      refine aw_getr (k0 := 77) kc_12 (ws_1 w56) (Nat.le_of_ble_eq_true rfl) tw_1819 d_X12_see_399 rfl (wr_1_77 w56) ?_
      refine aw_iload d_X12_see_402 5 rfl ?_
      refine aw_iload d_X12_see_404 7 rfl ?_
      refine aw_iconst (v := (-1)) d_X12_see_406 ic_m1 ?_
      refine aw_icmp_ne (tgt := 414) d_X12_see_407 rfl (fun c58 => ?_) (fun c58 => ?_)
      · have k := k.1 c58
        refine aw_aload_n (i := 0) rfl d_X12_see_414 0 rfl ?_
        refine aw_geti (k0 := 0) kc_12 (ws_1 w56) (Nat.le_of_ble_eq_true rfl) tw_1742 d_X12_see_415 rfl ?_
        refine aw_iload d_X12_see_418 7 rfl ?_
        refine aw_iadd d_X12_see_420 ?_
        obtain ⟨b59, k⟩ := k
        refine aw_iast (ws_260 w56) b59 d_X12_see_421 ?_
        refine aw_aload_n (i := 0) rfl d_X12_see_422 0 rfl ?_
        refine aw_getr (k0 := 75) kc_12 (ws_1 w56) (Nat.le_of_ble_eq_true rfl) tw_1817 d_X12_see_423 rfl (wr_1_75 w56) ?_
        refine aw_iload d_X12_see_426 5 rfl ?_
        obtain ⟨b60, k⟩ := k
        refine aw_iald (ws_258 w56) b60 d_X12_see_428 ?_
        refine aw_vi (v2 := (h_i h55 258 ((h_i h 1 80) : Int32).toNatClampNeg)) (rfl) ?_
        refine aw_iconst (v := 3) d_X12_see_429 ic_3 ?_
        refine aw_icmp_ne (tgt := 466) d_X12_see_430 rfl (fun c61 => ?_) (fun c61 => ?_)
        · have k := k.1 c61
          refine aw_aload_n (i := 0) rfl d_X12_see_466 0 rfl ?_
          refine aw_dup d_X12_see_467 rfl ?_
          refine aw_geti (k0 := 80) kc_12 (ws_1 w56) (Nat.le_of_ble_eq_true rfl) tw_1822 d_X12_see_468 rfl ?_
          refine aw_vi (v2 := (h_i h55 1 80)) (rfl) ?_
          refine aw_iconst (v := 1) d_X12_see_471 ic_1 ?_
          refine aw_iadd d_X12_see_472 ?_
          refine aw_puti (k0 := 80) kc_12 (ws_1 w56) (Nat.le_of_ble_eq_true rfl) tw_1822 d_X12_see_473 rfl rfl nf_i ?_
          refine aw_iinc (v := (x3 + 1)) [(0, .ref 1), (1, .int x1), (2, .int x2), (3, .int (x3 + 1)), (4, .int x4), (5, .int (h_i h 1 80)), (6, .int (9 * (h_i h 1 80))), (7, .int r57)] d_X12_see_476 3 rfl rfl (Nat.le_of_ble_eq_true rfl) rfl rfl ?_
          refine aw_goto (tgt := 43) d_X12_see_479 rfl ?_
          exact aw_lvp [0, 1, 2, 3] [(0, .ref 1), (1, .int x1), (2, .int x2), (3, .int (x3 + 1))] rfl k
        · have k := k.2 c61
          refine aw_aload_n (i := 0) rfl d_X12_see_433 0 rfl ?_
          refine aw_getr (k0 := 71) kc_12 (ws_1 w56) (Nat.le_of_ble_eq_true rfl) tw_1813 d_X12_see_434 rfl (wr_1_71 w56) ?_
          refine aw_iload_n (i := 3) rfl d_X12_see_437 3 rfl ?_
          refine aw_iconst (v := 1) d_X12_see_438 ic_1 ?_
          obtain ⟨b62, k⟩ := k
          refine aw_zast (ws_254 w56) b62 d_X12_see_439 ?_
          refine aw_aload_n (i := 0) rfl d_X12_see_440 0 rfl ?_
          refine aw_geti (k0 := 96) kc_12 (ws_1 w56) (Nat.le_of_ble_eq_true rfl) tw_1838 d_X12_see_441 rfl ?_
          refine aw_vi (v2 := (h_i h55 1 96)) (rfl) ?_
          refine aw_bipush (v := 30) d_X12_see_444 ib_30 ?_
          refine aw_icmp_ge (tgt := 466) d_X12_see_446 rfl (fun c63 => ?_) (fun c63 => ?_)
          · have k := k.1 c63
            refine aw_aload_n (i := 0) rfl d_X12_see_466 0 rfl ?_
            refine aw_dup d_X12_see_467 rfl ?_
            refine aw_geti (k0 := 80) kc_12 (ws_1 w56) (Nat.le_of_ble_eq_true rfl) tw_1822 d_X12_see_468 rfl ?_
            refine aw_vi (v2 := (h_i h55 1 80)) (rfl) ?_
            refine aw_iconst (v := 1) d_X12_see_471 ic_1 ?_
            refine aw_iadd d_X12_see_472 ?_
            refine aw_puti (k0 := 80) kc_12 (ws_1 w56) (Nat.le_of_ble_eq_true rfl) tw_1822 d_X12_see_473 rfl rfl nf_i ?_
            refine aw_iinc (v := (x3 + 1)) [(0, .ref 1), (1, .int x1), (2, .int x2), (3, .int (x3 + 1)), (4, .int x4), (5, .int (h_i h 1 80)), (6, .int (9 * (h_i h 1 80))), (7, .int r57)] d_X12_see_476 3 rfl rfl (Nat.le_of_ble_eq_true rfl) rfl rfl ?_
            refine aw_goto (tgt := 43) d_X12_see_479 rfl ?_
            exact aw_lvp [0, 1, 2, 3] [(0, .ref 1), (1, .int x1), (2, .int x2), (3, .int (x3 + 1))] rfl k
          · have k := k.2 c63
            refine aw_aload_n (i := 0) rfl d_X12_see_449 0 rfl ?_
            refine aw_getr (k0 := 76) kc_12 (ws_1 w56) (Nat.le_of_ble_eq_true rfl) tw_1818 d_X12_see_450 rfl (wr_1_76 w56) ?_
            refine aw_iload d_X12_see_453 5 rfl ?_
            refine aw_aload_n (i := 0) rfl d_X12_see_455 0 rfl ?_
            refine aw_aload_n (i := 0) rfl d_X12_see_456 0 rfl ?_
            refine aw_getr (k0 := 66) kc_12 (ws_1 w56) (Nat.le_of_ble_eq_true rfl) tw_1808 d_X12_see_457 rfl (wr_1_66 w56) ?_
            refine aw_iload_n (i := 3) rfl d_X12_see_460 3 rfl ?_
            obtain ⟨b64, k⟩ := k
            refine aw_iald (ws_249 w56) b64 d_X12_see_461 ?_
            refine aw_vi (v2 := (h_i h55 249 x3.toNatClampNeg)) (rfl) ?_
            refine aw_Vi 1 [.int (h_i h55 249 x3.toNatClampNeg)] [.int (h_i h 1 80), .ref 259] d_X12_see_462 (cV_X12_opened (d + 0) 0 0) kc_12 (ws_1 w56) tw_2446 rfl (rr0 (Nat.le_of_ble_eq_true rfl) (Nat.le_of_ble_eq_true rfl)) (Nat.le_of_ble_eq_true rfl) xs0 k (fun r67 h65 kk => ?_)
            obtain ⟨w66, k⟩ := kk
            obtain ⟨b68, k⟩ := k
            refine aw_iast (ws_259 w66) b68 d_X12_see_465 ?_
            refine aw_aload_n (i := 0) rfl d_X12_see_466 0 rfl ?_
            refine aw_dup d_X12_see_467 rfl ?_
            refine aw_geti (k0 := 80) kc_12 (ws_1 w66) (Nat.le_of_ble_eq_true rfl) tw_1822 d_X12_see_468 rfl ?_
            refine aw_vi (v2 := (h_i h65 1 80)) (rfl) ?_
            refine aw_iconst (v := 1) d_X12_see_471 ic_1 ?_
            refine aw_iadd d_X12_see_472 ?_
            refine aw_puti (k0 := 80) kc_12 (ws_1 w66) (Nat.le_of_ble_eq_true rfl) tw_1822 d_X12_see_473 rfl rfl nf_i ?_
            refine aw_iinc (v := (x3 + 1)) [(0, .ref 1), (1, .int x1), (2, .int x2), (3, .int (x3 + 1)), (4, .int x4), (5, .int (h_i h 1 80)), (6, .int (9 * (h_i h 1 80))), (7, .int r57)] d_X12_see_476 3 rfl rfl (Nat.le_of_ble_eq_true rfl) rfl rfl ?_
            refine aw_goto (tgt := 43) d_X12_see_479 rfl ?_
            exact aw_lvp [0, 1, 2, 3] [(0, .ref 1), (1, .int x1), (2, .int x2), (3, .int (x3 + 1))] rfl k
      · have k := k.2 c58
        refine aw_iconst (v := (-1)) d_X12_see_410 ic_m1 ?_
        refine aw_goto (tgt := 421) d_X12_see_411 rfl ?_
        obtain ⟨b69, k⟩ := k
        refine aw_iast (ws_260 w56) b69 d_X12_see_421 ?_
        refine aw_aload_n (i := 0) rfl d_X12_see_422 0 rfl ?_
        refine aw_getr (k0 := 75) kc_12 (ws_1 w56) (Nat.le_of_ble_eq_true rfl) tw_1817 d_X12_see_423 rfl (wr_1_75 w56) ?_
        refine aw_iload d_X12_see_426 5 rfl ?_
        obtain ⟨b70, k⟩ := k
        refine aw_iald (ws_258 w56) b70 d_X12_see_428 ?_
        refine aw_vi (v2 := (h_i h55 258 ((h_i h 1 80) : Int32).toNatClampNeg)) (rfl) ?_
        refine aw_iconst (v := 3) d_X12_see_429 ic_3 ?_
        refine aw_icmp_ne (tgt := 466) d_X12_see_430 rfl (fun c71 => ?_) (fun c71 => ?_)
        · have k := k.1 c71
          refine aw_aload_n (i := 0) rfl d_X12_see_466 0 rfl ?_
          refine aw_dup d_X12_see_467 rfl ?_
          refine aw_geti (k0 := 80) kc_12 (ws_1 w56) (Nat.le_of_ble_eq_true rfl) tw_1822 d_X12_see_468 rfl ?_
          refine aw_vi (v2 := (h_i h55 1 80)) (rfl) ?_
          refine aw_iconst (v := 1) d_X12_see_471 ic_1 ?_
          refine aw_iadd d_X12_see_472 ?_
          refine aw_puti (k0 := 80) kc_12 (ws_1 w56) (Nat.le_of_ble_eq_true rfl) tw_1822 d_X12_see_473 rfl rfl nf_i ?_
          refine aw_iinc (v := (x3 + 1)) [(0, .ref 1), (1, .int x1), (2, .int x2), (3, .int (x3 + 1)), (4, .int x4), (5, .int (h_i h 1 80)), (6, .int (9 * (h_i h 1 80))), (7, .int r57)] d_X12_see_476 3 rfl rfl (Nat.le_of_ble_eq_true rfl) rfl rfl ?_
          refine aw_goto (tgt := 43) d_X12_see_479 rfl ?_
          exact aw_lvp [0, 1, 2, 3] [(0, .ref 1), (1, .int x1), (2, .int x2), (3, .int (x3 + 1))] rfl k
        · have k := k.2 c71
          refine aw_aload_n (i := 0) rfl d_X12_see_433 0 rfl ?_
          refine aw_getr (k0 := 71) kc_12 (ws_1 w56) (Nat.le_of_ble_eq_true rfl) tw_1813 d_X12_see_434 rfl (wr_1_71 w56) ?_
          refine aw_iload_n (i := 3) rfl d_X12_see_437 3 rfl ?_
          refine aw_iconst (v := 1) d_X12_see_438 ic_1 ?_
          obtain ⟨b72, k⟩ := k
          refine aw_zast (ws_254 w56) b72 d_X12_see_439 ?_
          refine aw_aload_n (i := 0) rfl d_X12_see_440 0 rfl ?_
          refine aw_geti (k0 := 96) kc_12 (ws_1 w56) (Nat.le_of_ble_eq_true rfl) tw_1838 d_X12_see_441 rfl ?_
          refine aw_vi (v2 := (h_i h55 1 96)) (rfl) ?_
          refine aw_bipush (v := 30) d_X12_see_444 ib_30 ?_
          refine aw_icmp_ge (tgt := 466) d_X12_see_446 rfl (fun c73 => ?_) (fun c73 => ?_)
          · have k := k.1 c73
            refine aw_aload_n (i := 0) rfl d_X12_see_466 0 rfl ?_
            refine aw_dup d_X12_see_467 rfl ?_
            refine aw_geti (k0 := 80) kc_12 (ws_1 w56) (Nat.le_of_ble_eq_true rfl) tw_1822 d_X12_see_468 rfl ?_
            refine aw_vi (v2 := (h_i h55 1 80)) (rfl) ?_
            refine aw_iconst (v := 1) d_X12_see_471 ic_1 ?_
            refine aw_iadd d_X12_see_472 ?_
            refine aw_puti (k0 := 80) kc_12 (ws_1 w56) (Nat.le_of_ble_eq_true rfl) tw_1822 d_X12_see_473 rfl rfl nf_i ?_
            refine aw_iinc (v := (x3 + 1)) [(0, .ref 1), (1, .int x1), (2, .int x2), (3, .int (x3 + 1)), (4, .int x4), (5, .int (h_i h 1 80)), (6, .int (9 * (h_i h 1 80))), (7, .int r57)] d_X12_see_476 3 rfl rfl (Nat.le_of_ble_eq_true rfl) rfl rfl ?_
            refine aw_goto (tgt := 43) d_X12_see_479 rfl ?_
            exact aw_lvp [0, 1, 2, 3] [(0, .ref 1), (1, .int x1), (2, .int x2), (3, .int (x3 + 1))] rfl k
          · have k := k.2 c73
            refine aw_aload_n (i := 0) rfl d_X12_see_449 0 rfl ?_
            refine aw_getr (k0 := 76) kc_12 (ws_1 w56) (Nat.le_of_ble_eq_true rfl) tw_1818 d_X12_see_450 rfl (wr_1_76 w56) ?_
            refine aw_iload d_X12_see_453 5 rfl ?_
            refine aw_aload_n (i := 0) rfl d_X12_see_455 0 rfl ?_
            refine aw_aload_n (i := 0) rfl d_X12_see_456 0 rfl ?_
            refine aw_getr (k0 := 66) kc_12 (ws_1 w56) (Nat.le_of_ble_eq_true rfl) tw_1808 d_X12_see_457 rfl (wr_1_66 w56) ?_
            refine aw_iload_n (i := 3) rfl d_X12_see_460 3 rfl ?_
            obtain ⟨b74, k⟩ := k
            refine aw_iald (ws_249 w56) b74 d_X12_see_461 ?_
            refine aw_vi (v2 := (h_i h55 249 x3.toNatClampNeg)) (rfl) ?_
            refine aw_Vi 1 [.int (h_i h55 249 x3.toNatClampNeg)] [.int (h_i h 1 80), .ref 259] d_X12_see_462 (cV_X12_opened (d + 0) 0 0) kc_12 (ws_1 w56) tw_2446 rfl (rr0 (Nat.le_of_ble_eq_true rfl) (Nat.le_of_ble_eq_true rfl)) (Nat.le_of_ble_eq_true rfl) xs0 k (fun r77 h75 kk => ?_)
            obtain ⟨w76, k⟩ := kk
            obtain ⟨b78, k⟩ := k
            refine aw_iast (ws_259 w76) b78 d_X12_see_465 ?_
            refine aw_aload_n (i := 0) rfl d_X12_see_466 0 rfl ?_
            refine aw_dup d_X12_see_467 rfl ?_
            refine aw_geti (k0 := 80) kc_12 (ws_1 w76) (Nat.le_of_ble_eq_true rfl) tw_1822 d_X12_see_468 rfl ?_
            refine aw_vi (v2 := (h_i h75 1 80)) (rfl) ?_
            refine aw_iconst (v := 1) d_X12_see_471 ic_1 ?_
            refine aw_iadd d_X12_see_472 ?_
            refine aw_puti (k0 := 80) kc_12 (ws_1 w76) (Nat.le_of_ble_eq_true rfl) tw_1822 d_X12_see_473 rfl rfl nf_i ?_
            refine aw_iinc (v := (x3 + 1)) [(0, .ref 1), (1, .int x1), (2, .int x2), (3, .int (x3 + 1)), (4, .int x4), (5, .int (h_i h 1 80)), (6, .int (9 * (h_i h 1 80))), (7, .int r57)] d_X12_see_476 3 rfl rfl (Nat.le_of_ble_eq_true rfl) rfl rfl ?_
            refine aw_goto (tgt := 43) d_X12_see_479 rfl ?_
            exact aw_lvp [0, 1, 2, 3] [(0, .ref 1), (1, .int x1), (2, .int x2), (3, .int (x3 + 1))] rfl k
  · have k := k.2 c17
    refine aw_iload d_X12_see_125 4 rfl ?_
    refine aw_aload_n (i := 0) rfl d_X12_see_127 0 rfl ?_
    refine aw_getr (k0 := 73) kc_12 (ws_1 w) (Nat.le_of_ble_eq_true rfl) tw_1815 d_X12_see_128 rfl (wr_1_73 w) ?_
    refine aw_iload d_X12_see_131 5 rfl ?_
    obtain ⟨b79, k⟩ := k
    refine aw_iald (ws_256 w) b79 d_X12_see_133 ?_
    refine aw_iload_n (i := 3) rfl d_X12_see_134 3 rfl ?_
    refine aw_icmp_ne (tgt := 142) d_X12_see_135 rfl (fun c80 => ?_) (fun c80 => ?_)
    · have k := k.1 c80
      refine aw_iconst (v := 0) d_X12_see_142 ic_0 ?_
      refine aw_iadd d_X12_see_143 ?_
      refine aw_istore [(0, .ref 1), (1, .int x1), (2, .int x2), (3, .int x3), (4, .int (x4 + 0)), (5, .int x5)] d_X12_see_144 (Nat.le_of_ble_eq_true rfl) rfl rfl ?_
      refine aw_iinc (v := (x5 + 1)) [(0, .ref 1), (1, .int x1), (2, .int x2), (3, .int x3), (4, .int (x4 + 0)), (5, .int (x5 + 1))] d_X12_see_146 5 rfl rfl (Nat.le_of_ble_eq_true rfl) rfl rfl ?_
      refine aw_goto (tgt := 116) d_X12_see_149 rfl ?_
      exact k
    · have k := k.2 c80
      refine aw_iconst (v := 1) d_X12_see_138 ic_1 ?_
      refine aw_goto (tgt := 143) d_X12_see_139 rfl ?_
      refine aw_iadd d_X12_see_143 ?_
      refine aw_istore [(0, .ref 1), (1, .int x1), (2, .int x2), (3, .int x3), (4, .int (x4 + 1)), (5, .int x5)] d_X12_see_144 (Nat.le_of_ble_eq_true rfl) rfl rfl ?_
      refine aw_iinc (v := (x5 + 1)) [(0, .ref 1), (1, .int x1), (2, .int x2), (3, .int x3), (4, .int (x4 + 1)), (5, .int (x5 + 1))] d_X12_see_146 5 rfl rfl (Nat.le_of_ble_eq_true rfl) rfl rfl ?_
      refine aw_goto (tgt := 116) d_X12_see_149 rfl ?_
      exact k
theorem t_X12_opened (d : Nat) (h : Hp_) (w : Wf h) (x1 : Int32) (K : Int32 → Hp_ → Prop) (k : vp_in (h_i h 1 96) 30 ∧ (vp_in (h_i h 1 96) 30 ∧ (K (((h_i h 1 96) + 1) - 1) (h_im (h_im (h_im h 262 ((h_i h 1 96) : Int32).toNatClampNeg x1) 263 ((h_i h 1 96) : Int32).toNatClampNeg (h_i h 1 0)) 1 96 ((h_i h 1 96) + 1))))) : Ci (m_X12_opened (d + 0) 0 0) [.ref 1, .int x1] h K := by
  refine Ct.of (fun _ _ _ => trivial) pn_X12 (Nat.le_of_ble_eq_true rfl) ?_
  show AW (m_X12_opened (d + 0) 0 0) 0 0 0 [(0, .ref 1), (1, .int x1)] [] h (kI K)
  refine aw_aload_n (i := 0) rfl d_X12_opened_0 0 rfl ?_
  refine aw_getr (k0 := 81) kc_12 (ws_1 w) (Nat.le_of_ble_eq_true rfl) tw_1823 d_X12_opened_1 rfl (wr_1_81 w) ?_
  refine aw_aload_n (i := 0) rfl d_X12_opened_4 0 rfl ?_
  refine aw_geti (k0 := 96) kc_12 (ws_1 w) (Nat.le_of_ble_eq_true rfl) tw_1838 d_X12_opened_5 rfl ?_
  refine aw_iload_n (i := 1) rfl d_X12_opened_8 1 rfl ?_
  obtain ⟨b1, k⟩ := k
  refine aw_iast (ws_262 w) b1 d_X12_opened_9 ?_
  refine aw_aload_n (i := 0) rfl d_X12_opened_10 0 rfl ?_
  refine aw_getr (k0 := 82) kc_12 (ws_1 w) (Nat.le_of_ble_eq_true rfl) tw_1824 d_X12_opened_11 rfl (wr_1_82 w) ?_
  refine aw_aload_n (i := 0) rfl d_X12_opened_14 0 rfl ?_
  refine aw_geti (k0 := 96) kc_12 (ws_1 w) (Nat.le_of_ble_eq_true rfl) tw_1838 d_X12_opened_15 rfl ?_
  refine aw_vi (v2 := (h_i h 1 96)) (rfl) ?_
  refine aw_aload_n (i := 0) rfl d_X12_opened_18 0 rfl ?_
  refine aw_geti (k0 := 0) kc_12 (ws_1 w) (Nat.le_of_ble_eq_true rfl) tw_1742 d_X12_opened_19 rfl ?_
  refine aw_vi (v2 := (h_i h 1 0)) (rfl) ?_
  obtain ⟨b2, k⟩ := k
  refine aw_iast (ws_263 w) b2 d_X12_opened_22 ?_
  refine aw_aload_n (i := 0) rfl d_X12_opened_23 0 rfl ?_
  refine aw_dup d_X12_opened_24 rfl ?_
  refine aw_geti (k0 := 96) kc_12 (ws_1 w) (Nat.le_of_ble_eq_true rfl) tw_1838 d_X12_opened_25 rfl ?_
  refine aw_vi (v2 := (h_i h 1 96)) (rfl) ?_
  refine aw_iconst (v := 1) d_X12_opened_28 ic_1 ?_
  refine aw_iadd d_X12_opened_29 ?_
  refine aw_puti (k0 := 96) kc_12 (ws_1 w) (Nat.le_of_ble_eq_true rfl) tw_1838 d_X12_opened_30 rfl rfl nf_i ?_
  refine aw_aload_n (i := 0) rfl d_X12_opened_33 0 rfl ?_
  refine aw_geti (k0 := 96) kc_12 (ws_1 w) (Nat.le_of_ble_eq_true rfl) tw_1838 d_X12_opened_34 rfl ?_
  refine aw_vi (v2 := ((h_i h 1 96) + 1)) (rfl) ?_
  refine aw_iconst (v := 1) d_X12_opened_37 ic_1 ?_
  refine aw_isub d_X12_opened_38 ?_
  exact aw_iret rfl d_X12_opened_39 ⟨Nat.le_refl _, Nat.le_refl _⟩ ⟨_, rfl, k⟩
theorem t_X12_find (d : Nat) (h : Hp_) (w : Wf h) (x1 : Int32) (x2 : Int32) (x3 : Int32) (x4 : Int32) (x5 : Int32) (K : Int32 → Hp_ → Prop) (k : (¬ (0 ≤ x1 ∧ x1 ≤ 9) → K (-1) h) ∧ ((0 ≤ x1 ∧ x1 ≤ 9) → (¬ (0 ≤ x2 ∧ x2 ≤ 15) → K (-1) h) ∧ ((0 ≤ x2 ∧ x2 ≤ 15) → (¬ (0 ≤ x3 ∧ x3 ≤ 20000) → K (-1) h) ∧ ((0 ≤ x3 ∧ x3 ≤ 20000) → (¬ (x3 ≤ x4 ∧ x4 ≤ 20000) → K (-1) h) ∧ ((x3 ≤ x4 ∧ x4 ≤ 20000) → (¬ (1 ≤ x5 ∧ x5 ≤ 9) → K (-1) h) ∧ ((1 ≤ x5 ∧ x5 ≤ 9) → (¬ (h_i h 1 79) = 80 → vp_in (h_i h 1 79) 80 ∧ (vp_in (h_i h 1 79) 80 ∧ (vp_in (h_i h 1 79) 80 ∧ (vp_in (h_i h 1 79) 80 ∧ (vp_in (h_i h 1 79) 80 ∧ (K (((h_i h 1 79) + 1) - 1) (h_im (h_im (h_im (h_im (h_im (h_im h 249 ((h_i h 1 79) : Int32).toNatClampNeg x1) 250 ((h_i h 1 79) : Int32).toNatClampNeg x2) 251 ((h_i h 1 79) : Int32).toNatClampNeg x3) 252 ((h_i h 1 79) : Int32).toNatClampNeg x4) 253 ((h_i h 1 79) : Int32).toNatClampNeg x5) 1 79 ((h_i h 1 79) + 1)))))))) ∧ ((h_i h 1 79) = 80 → K (-1) h))))))) : Ci (m_X12_find (d + 2) 0 0) [.ref 1, .int x1, .int x2, .int x3, .int x4, .int x5] h K := by
  refine Ct.of (fun _ _ _ => trivial) pn_X12 (Nat.le_of_ble_eq_true rfl) ?_
  show AW (m_X12_find (d + 2) 0 0) 0 0 0 [(0, .ref 1), (1, .int x1), (2, .int x2), (3, .int x3), (4, .int x4), (5, .int x5)] [] h (kI K)
  refine aw_iload_n (i := 1) rfl d_X12_find_0 1 rfl ?_
  refine aw_iconst (v := 0) d_X12_find_1 ic_0 ?_
  refine aw_bipush (v := 9) d_X12_find_2 ib_9 ?_
  refine aw_Si [.int x1, .int 0, .int 9] [] d_X12_find_4 (cS_X12_in (d + 0) 0 0) tw_2143 rfl (rr0 (Nat.le_of_ble_eq_true rfl) (Nat.le_of_ble_eq_true rfl)) (Nat.le_of_ble_eq_true rfl) xs0 (s_X12_in _ _ x1 0 9) (fun _ _ kk => ?_)
  obtain ⟨e1, e2⟩ := kk
  rw [e1, e2]
  refine aw_ifb_eq (tgt := 60) d_X12_find_7 rfl (fun c3 => ?_) (fun c3 => ?_)
  · have k := k.1 c3
    refine aw_iconst (v := (-1)) d_X12_find_60 ic_m1 ?_
    exact aw_iret rfl d_X12_find_61 ⟨Nat.le_refl _, Nat.le_refl _⟩ ⟨_, rfl, k⟩
  · have k := k.2 c3
    refine aw_iload_n (i := 2) rfl d_X12_find_10 2 rfl ?_
    refine aw_Si [.int x2] [] d_X12_find_11 (cS_X12_isPlace (d + 1) 0 0) tw_2140 rfl (rr0 (Nat.le_of_ble_eq_true rfl) (Nat.le_of_ble_eq_true rfl)) (Nat.le_of_ble_eq_true rfl) xs0 (s_X12_isPlace _ _ x2) (fun _ _ kk => ?_)
    obtain ⟨e4, e5⟩ := kk
    rw [e4, e5]
    refine aw_ifb_eq (tgt := 60) d_X12_find_14 rfl (fun c6 => ?_) (fun c6 => ?_)
    · have k := k.1 c6
      refine aw_iconst (v := (-1)) d_X12_find_60 ic_m1 ?_
      exact aw_iret rfl d_X12_find_61 ⟨Nat.le_refl _, Nat.le_refl _⟩ ⟨_, rfl, k⟩
    · have k := k.2 c6
      refine aw_iload_n (i := 3) rfl d_X12_find_17 3 rfl ?_
      refine aw_iconst (v := 0) d_X12_find_18 ic_0 ?_
      refine aw_sipush (v := 20000) d_X12_find_19 is_20000 ?_
      refine aw_Si [.int x3, .int 0, .int 20000] [] d_X12_find_22 (cS_X12_in (d + 0) 0 0) tw_2143 rfl (rr0 (Nat.le_of_ble_eq_true rfl) (Nat.le_of_ble_eq_true rfl)) (Nat.le_of_ble_eq_true rfl) xs0 (s_X12_in _ _ x3 0 20000) (fun _ _ kk => ?_)
      obtain ⟨e7, e8⟩ := kk
      rw [e7, e8]
      refine aw_ifb_eq (tgt := 60) d_X12_find_25 rfl (fun c9 => ?_) (fun c9 => ?_)
      · have k := k.1 c9
        refine aw_iconst (v := (-1)) d_X12_find_60 ic_m1 ?_
        exact aw_iret rfl d_X12_find_61 ⟨Nat.le_refl _, Nat.le_refl _⟩ ⟨_, rfl, k⟩
      · have k := k.2 c9
        refine aw_iload d_X12_find_28 4 rfl ?_
        refine aw_iload_n (i := 3) rfl d_X12_find_30 3 rfl ?_
        refine aw_sipush (v := 20000) d_X12_find_31 is_20000 ?_
        refine aw_Si [.int x4, .int x3, .int 20000] [] d_X12_find_34 (cS_X12_in (d + 0) 0 0) tw_2143 rfl (rr0 (Nat.le_of_ble_eq_true rfl) (Nat.le_of_ble_eq_true rfl)) (Nat.le_of_ble_eq_true rfl) xs0 (s_X12_in _ _ x4 x3 20000) (fun _ _ kk => ?_)
        obtain ⟨e10, e11⟩ := kk
        rw [e10, e11]
        refine aw_ifb_eq (tgt := 60) d_X12_find_37 rfl (fun c12 => ?_) (fun c12 => ?_)
        · have k := k.1 c12
          refine aw_iconst (v := (-1)) d_X12_find_60 ic_m1 ?_
          exact aw_iret rfl d_X12_find_61 ⟨Nat.le_refl _, Nat.le_refl _⟩ ⟨_, rfl, k⟩
        · have k := k.2 c12
          refine aw_iload d_X12_find_40 5 rfl ?_
          refine aw_iconst (v := 1) d_X12_find_42 ic_1 ?_
          refine aw_bipush (v := 9) d_X12_find_43 ib_9 ?_
          refine aw_Si [.int x5, .int 1, .int 9] [] d_X12_find_45 (cS_X12_in (d + 0) 0 0) tw_2143 rfl (rr0 (Nat.le_of_ble_eq_true rfl) (Nat.le_of_ble_eq_true rfl)) (Nat.le_of_ble_eq_true rfl) xs0 (s_X12_in _ _ x5 1 9) (fun _ _ kk => ?_)
          obtain ⟨e13, e14⟩ := kk
          rw [e13, e14]
          refine aw_ifb_eq (tgt := 60) d_X12_find_48 rfl (fun c15 => ?_) (fun c15 => ?_)
          · have k := k.1 c15
            refine aw_iconst (v := (-1)) d_X12_find_60 ic_m1 ?_
            exact aw_iret rfl d_X12_find_61 ⟨Nat.le_refl _, Nat.le_refl _⟩ ⟨_, rfl, k⟩
          · have k := k.2 c15
            refine aw_aload_n (i := 0) rfl d_X12_find_51 0 rfl ?_
            refine aw_geti (k0 := 79) kc_12 (ws_1 w) (Nat.le_of_ble_eq_true rfl) tw_1821 d_X12_find_52 rfl ?_
            refine aw_bipush (v := 80) d_X12_find_55 ib_80 ?_
            refine aw_icmp_ne (tgt := 62) d_X12_find_57 rfl (fun c16 => ?_) (fun c16 => ?_)
            · have k := k.1 c16
              refine aw_aload_n (i := 0) rfl d_X12_find_62 0 rfl ?_
              refine aw_getr (k0 := 66) kc_12 (ws_1 w) (Nat.le_of_ble_eq_true rfl) tw_1808 d_X12_find_63 rfl (wr_1_66 w) ?_
              refine aw_aload_n (i := 0) rfl d_X12_find_66 0 rfl ?_
              refine aw_geti (k0 := 79) kc_12 (ws_1 w) (Nat.le_of_ble_eq_true rfl) tw_1821 d_X12_find_67 rfl ?_
              refine aw_iload_n (i := 1) rfl d_X12_find_70 1 rfl ?_
              obtain ⟨b17, k⟩ := k
              refine aw_iast (ws_249 w) b17 d_X12_find_71 ?_
              refine aw_aload_n (i := 0) rfl d_X12_find_72 0 rfl ?_
              refine aw_getr (k0 := 67) kc_12 (ws_1 w) (Nat.le_of_ble_eq_true rfl) tw_1809 d_X12_find_73 rfl (wr_1_67 w) ?_
              refine aw_aload_n (i := 0) rfl d_X12_find_76 0 rfl ?_
              refine aw_geti (k0 := 79) kc_12 (ws_1 w) (Nat.le_of_ble_eq_true rfl) tw_1821 d_X12_find_77 rfl ?_
              refine aw_vi (v2 := (h_i h 1 79)) (rfl) ?_
              refine aw_iload_n (i := 2) rfl d_X12_find_80 2 rfl ?_
              obtain ⟨b18, k⟩ := k
              refine aw_iast (ws_250 w) b18 d_X12_find_81 ?_
              refine aw_aload_n (i := 0) rfl d_X12_find_82 0 rfl ?_
              refine aw_getr (k0 := 68) kc_12 (ws_1 w) (Nat.le_of_ble_eq_true rfl) tw_1810 d_X12_find_83 rfl (wr_1_68 w) ?_
              refine aw_aload_n (i := 0) rfl d_X12_find_86 0 rfl ?_
              refine aw_geti (k0 := 79) kc_12 (ws_1 w) (Nat.le_of_ble_eq_true rfl) tw_1821 d_X12_find_87 rfl ?_
              refine aw_vi (v2 := (h_i h 1 79)) (rfl) ?_
              refine aw_iload_n (i := 3) rfl d_X12_find_90 3 rfl ?_
              obtain ⟨b19, k⟩ := k
              refine aw_iast (ws_251 w) b19 d_X12_find_91 ?_
              refine aw_aload_n (i := 0) rfl d_X12_find_92 0 rfl ?_
              refine aw_getr (k0 := 69) kc_12 (ws_1 w) (Nat.le_of_ble_eq_true rfl) tw_1811 d_X12_find_93 rfl (wr_1_69 w) ?_
              refine aw_aload_n (i := 0) rfl d_X12_find_96 0 rfl ?_
              refine aw_geti (k0 := 79) kc_12 (ws_1 w) (Nat.le_of_ble_eq_true rfl) tw_1821 d_X12_find_97 rfl ?_
              refine aw_vi (v2 := (h_i h 1 79)) (rfl) ?_
              refine aw_iload d_X12_find_100 4 rfl ?_
              obtain ⟨b20, k⟩ := k
              refine aw_iast (ws_252 w) b20 d_X12_find_102 ?_
              refine aw_aload_n (i := 0) rfl d_X12_find_103 0 rfl ?_
              refine aw_getr (k0 := 70) kc_12 (ws_1 w) (Nat.le_of_ble_eq_true rfl) tw_1812 d_X12_find_104 rfl (wr_1_70 w) ?_
              refine aw_aload_n (i := 0) rfl d_X12_find_107 0 rfl ?_
              refine aw_geti (k0 := 79) kc_12 (ws_1 w) (Nat.le_of_ble_eq_true rfl) tw_1821 d_X12_find_108 rfl ?_
              refine aw_vi (v2 := (h_i h 1 79)) (rfl) ?_
              refine aw_iload d_X12_find_111 5 rfl ?_
              obtain ⟨b21, k⟩ := k
              refine aw_iast (ws_253 w) b21 d_X12_find_113 ?_
              refine aw_aload_n (i := 0) rfl d_X12_find_114 0 rfl ?_
              refine aw_dup d_X12_find_115 rfl ?_
              refine aw_geti (k0 := 79) kc_12 (ws_1 w) (Nat.le_of_ble_eq_true rfl) tw_1821 d_X12_find_116 rfl ?_
              refine aw_vi (v2 := (h_i h 1 79)) (rfl) ?_
              refine aw_iconst (v := 1) d_X12_find_119 ic_1 ?_
              refine aw_iadd d_X12_find_120 ?_
              refine aw_puti (k0 := 79) kc_12 (ws_1 w) (Nat.le_of_ble_eq_true rfl) tw_1821 d_X12_find_121 rfl rfl nf_i ?_
              refine aw_aload_n (i := 0) rfl d_X12_find_124 0 rfl ?_
              refine aw_geti (k0 := 79) kc_12 (ws_1 w) (Nat.le_of_ble_eq_true rfl) tw_1821 d_X12_find_125 rfl ?_
              refine aw_vi (v2 := ((h_i h 1 79) + 1)) (rfl) ?_
              refine aw_iconst (v := 1) d_X12_find_128 ic_1 ?_
              refine aw_isub d_X12_find_129 ?_
              exact aw_iret rfl d_X12_find_130 ⟨Nat.le_refl _, Nat.le_refl _⟩ ⟨_, rfl, k⟩
            · have k := k.2 c16
              refine aw_iconst (v := (-1)) d_X12_find_60 ic_m1 ?_
              exact aw_iret rfl d_X12_find_61 ⟨Nat.le_refl _, Nat.le_refl _⟩ ⟨_, rfl, k⟩
theorem t_X11_find (d : Nat) (h : Hp_) (x1 : Int32) (x2 : Int32) (x3 : Int32) (x4 : Int32) (x5 : Int32) (K : Int32 → Hp_ → Prop) (k : (¬ (0 ≤ x1 ∧ x1 ≤ 9) → K (-1) h) ∧ ((0 ≤ x1 ∧ x1 ≤ 9) → Ci (m_X11_isPlace (d + 0) 0 0) [.int x2] h (fun r6 h4 => Wf h4 ∧ ((r6 = 0 → K (-1) h4) ∧ (¬ r6 = 0 → ((1 ≤ x5 ∧ x5 ≤ 9) → (¬ (0 ≤ x3 ∧ x3 ≤ 20000) → K (-1) h4) ∧ ((0 ≤ x3 ∧ x3 ≤ 20000) → ((x3 ≤ x4 ∧ x4 ≤ 20000) → Ci (m_X4_addFind (d + 0) 0 0) [.ref 17, .int x1, .int x2, .int x3, .int x4, .int x5] h4 (fun r19 h17 => Wf h17 ∧ (K r19 h17))) ∧ (¬ (x3 ≤ x4 ∧ x4 ≤ 20000) → K (-1) h4))) ∧ (¬ (1 ≤ x5 ∧ x5 ≤ 9) → K (-1) h4)))))) : Ci (m_X11_find (d + 1) 0 0) [.ref 0, .int x1, .int x2, .int x3, .int x4, .int x5] h K := by
  refine Ct.of (fun _ _ _ => trivial) pn_X11 (Nat.le_of_ble_eq_true rfl) ?_
  show AW (m_X11_find (d + 1) 0 0) 0 0 0 [(0, .ref 0), (1, .int x1), (2, .int x2), (3, .int x3), (4, .int x4), (5, .int x5)] [] h (kI K)
  refine aw_iload_n (i := 1) rfl d_X11_find_0 1 rfl ?_
  refine aw_iconst (v := 0) d_X11_find_1 ic_0 ?_
  refine aw_bipush (v := 9) d_X11_find_2 ib_9 ?_
  refine aw_Si [.int x1, .int 0, .int 9] [] d_X11_find_4 (cS_X11_within (d + 0) 0 0) tw_543 rfl (rr0 (Nat.le_of_ble_eq_true rfl) (Nat.le_of_ble_eq_true rfl)) (Nat.le_of_ble_eq_true rfl) xs0 (s_X11_within _ _ x1 0 9) (fun _ _ kk => ?_)
  obtain ⟨e1, e2⟩ := kk
  rw [e1, e2]
  refine aw_ifb_eq (tgt := 28) d_X11_find_7 rfl (fun c3 => ?_) (fun c3 => ?_)
  · have k := k.1 c3
    refine aw_iconst (v := (-1)) d_X11_find_28 ic_m1 ?_
    exact aw_iret rfl d_X11_find_29 ⟨Nat.le_refl _, Nat.le_refl _⟩ ⟨_, rfl, k⟩
  · have k := k.2 c3
    refine aw_iload_n (i := 2) rfl d_X11_find_10 2 rfl ?_
    refine aw_Si [.int x2] [] d_X11_find_11 (cS_X11_isPlace (d + 0) 0 0) tw_540 rfl (rr0 (Nat.le_of_ble_eq_true rfl) (Nat.le_of_ble_eq_true rfl)) (Nat.le_of_ble_eq_true rfl) xs0 k (fun r6 h4 kk => ?_)
    obtain ⟨w5, k⟩ := kk
    refine aw_if_eq (tgt := 28) d_X11_find_14 rfl (fun c7 => ?_) (fun c7 => ?_)
    · have k := k.1 c7
      refine aw_iconst (v := (-1)) d_X11_find_28 ic_m1 ?_
      exact aw_iret rfl d_X11_find_29 ⟨Nat.le_refl _, Nat.le_refl _⟩ ⟨_, rfl, k⟩
    · have k := k.2 c7
      refine aw_iload d_X11_find_17 5 rfl ?_
      refine aw_iconst (v := 1) d_X11_find_19 ic_1 ?_
      refine aw_bipush (v := 9) d_X11_find_20 ib_9 ?_
      refine aw_Si [.int x5, .int 1, .int 9] [] d_X11_find_22 (cS_X11_within (d + 0) 0 0) tw_543 rfl (rr0 (Nat.le_of_ble_eq_true rfl) (Nat.le_of_ble_eq_true rfl)) (Nat.le_of_ble_eq_true rfl) xs0 (s_X11_within _ _ x5 1 9) (fun _ _ kk => ?_)
      obtain ⟨e8, e9⟩ := kk
      rw [e8, e9]
      refine aw_ifb_ne (tgt := 30) d_X11_find_25 rfl (fun c10 => ?_) (fun c10 => ?_)
      · have k := k.1 c10
        refine aw_iload_n (i := 3) rfl d_X11_find_30 3 rfl ?_
        refine aw_iconst (v := 0) d_X11_find_31 ic_0 ?_
        refine aw_sipush (v := 20000) d_X11_find_32 is_20000 ?_
        refine aw_Si [.int x3, .int 0, .int 20000] [] d_X11_find_35 (cS_X11_within (d + 0) 0 0) tw_543 rfl (rr0 (Nat.le_of_ble_eq_true rfl) (Nat.le_of_ble_eq_true rfl)) (Nat.le_of_ble_eq_true rfl) xs0 (s_X11_within _ _ x3 0 20000) (fun _ _ kk => ?_)
        obtain ⟨e11, e12⟩ := kk
        rw [e11, e12]
        refine aw_ifb_eq (tgt := 53) d_X11_find_38 rfl (fun c13 => ?_) (fun c13 => ?_)
        · have k := k.1 c13
          refine aw_iconst (v := (-1)) d_X11_find_53 ic_m1 ?_
          exact aw_iret rfl d_X11_find_54 ⟨Nat.le_refl _, Nat.le_refl _⟩ ⟨_, rfl, k⟩
        · have k := k.2 c13
          refine aw_iload d_X11_find_41 4 rfl ?_
          refine aw_iload_n (i := 3) rfl d_X11_find_43 3 rfl ?_
          refine aw_sipush (v := 20000) d_X11_find_44 is_20000 ?_
          refine aw_Si [.int x4, .int x3, .int 20000] [] d_X11_find_47 (cS_X11_within (d + 0) 0 0) tw_543 rfl (rr0 (Nat.le_of_ble_eq_true rfl) (Nat.le_of_ble_eq_true rfl)) (Nat.le_of_ble_eq_true rfl) xs0 (s_X11_within _ _ x4 x3 20000) (fun _ _ kk => ?_)
          obtain ⟨e14, e15⟩ := kk
          rw [e14, e15]
          refine aw_ifb_ne (tgt := 55) d_X11_find_50 rfl (fun c16 => ?_) (fun c16 => ?_)
          · have k := k.1 c16
            refine aw_aload_n (i := 0) rfl d_X11_find_55 0 rfl ?_
            refine aw_getr (k0 := 9) kc_11 (ws_0 w5) (Nat.le_of_ble_eq_true rfl) tw_496 d_X11_find_56 rfl (wr_0_9 w5) ?_
            refine aw_iload_n (i := 1) rfl d_X11_find_59 1 rfl ?_
            refine aw_iload_n (i := 2) rfl d_X11_find_60 2 rfl ?_
            refine aw_iload_n (i := 3) rfl d_X11_find_61 3 rfl ?_
            refine aw_iload d_X11_find_62 4 rfl ?_
            refine aw_iload d_X11_find_64 5 rfl ?_
            refine aw_Vi 17 [.int x1, .int x2, .int x3, .int x4, .int x5] [] d_X11_find_66 (cV_X4_addFind (d + 0) 0 0) kc_4 (ws_17 w5) tw_1151 rfl (rr0 (Nat.le_of_ble_eq_true rfl) (Nat.le_of_ble_eq_true rfl)) (Nat.le_of_ble_eq_true rfl) xs0 k (fun r19 h17 kk => ?_)
            obtain ⟨w18, k⟩ := kk
            exact aw_iret rfl d_X11_find_69 ⟨Nat.le_refl _, Nat.le_refl _⟩ ⟨_, rfl, k⟩
          · have k := k.2 c16
            refine aw_iconst (v := (-1)) d_X11_find_53 ic_m1 ?_
            exact aw_iret rfl d_X11_find_54 ⟨Nat.le_refl _, Nat.le_refl _⟩ ⟨_, rfl, k⟩
      · have k := k.2 c10
        refine aw_iconst (v := (-1)) d_X11_find_28 ic_m1 ?_
        exact aw_iret rfl d_X11_find_29 ⟨Nat.le_refl _, Nat.le_refl _⟩ ⟨_, rfl, k⟩
theorem t_X4_addFind (d : Nat) (h : Hp_) (w : Wf h) (x1 : Int32) (x2 : Int32) (x3 : Int32) (x4 : Int32) (x5 : Int32) (K : Int32 → Hp_ → Prop) (k : ((h_i h 17 7) < 80 → vp_in (h_i h 17 7) 80 ∧ (vp_in (h_i h 17 7) 80 ∧ (vp_in (h_i h 17 7) 80 ∧ (vp_in (h_i h 17 7) 80 ∧ (vp_in (h_i h 17 7) 80 ∧ (K (((h_i h 17 7) + 1) - 1) (h_im (h_im (h_im (h_im (h_im (h_im h 57 ((h_i h 17 7) : Int32).toNatClampNeg x1) 58 ((h_i h 17 7) : Int32).toNatClampNeg x2) 59 ((h_i h 17 7) : Int32).toNatClampNeg x3) 60 ((h_i h 17 7) : Int32).toNatClampNeg x4) 61 ((h_i h 17 7) : Int32).toNatClampNeg x5) 17 7 ((h_i h 17 7) + 1)))))))) ∧ (¬ (h_i h 17 7) < 80 → K (-1) h)) : Ci (m_X4_addFind (d + 0) 0 0) [.ref 17, .int x1, .int x2, .int x3, .int x4, .int x5] h K := by
  refine Ct.of (fun _ _ _ => trivial) pn_X4 (Nat.le_of_ble_eq_true rfl) ?_
  show AW (m_X4_addFind (d + 0) 0 0) 0 0 0 [(0, .ref 17), (1, .int x1), (2, .int x2), (3, .int x3), (4, .int x4), (5, .int x5)] [] h (kI K)
  refine aw_aload_n (i := 0) rfl d_X4_addFind_0 0 rfl ?_
  refine aw_geti (k0 := 7) kc_4 (ws_17 w) (Nat.le_of_ble_eq_true rfl) tw_203 d_X4_addFind_1 rfl ?_
  refine aw_bipush (v := 80) d_X4_addFind_4 ib_80 ?_
  refine aw_icmp_lt (tgt := 11) d_X4_addFind_6 rfl (fun c1 => ?_) (fun c1 => ?_)
  · have k := k.1 c1
    refine aw_aload_n (i := 0) rfl d_X4_addFind_11 0 rfl ?_
    refine aw_getr (k0 := 0) kc_4 (ws_17 w) (Nat.le_of_ble_eq_true rfl) tw_196 d_X4_addFind_12 rfl (wr_17_0 w) ?_
    refine aw_aload_n (i := 0) rfl d_X4_addFind_15 0 rfl ?_
    refine aw_geti (k0 := 7) kc_4 (ws_17 w) (Nat.le_of_ble_eq_true rfl) tw_203 d_X4_addFind_16 rfl ?_
    refine aw_iload_n (i := 1) rfl d_X4_addFind_19 1 rfl ?_
    obtain ⟨b2, k⟩ := k
    refine aw_iast (ws_57 w) b2 d_X4_addFind_20 ?_
    refine aw_aload_n (i := 0) rfl d_X4_addFind_21 0 rfl ?_
    refine aw_getr (k0 := 1) kc_4 (ws_17 w) (Nat.le_of_ble_eq_true rfl) tw_197 d_X4_addFind_22 rfl (wr_17_1 w) ?_
    refine aw_aload_n (i := 0) rfl d_X4_addFind_25 0 rfl ?_
    refine aw_geti (k0 := 7) kc_4 (ws_17 w) (Nat.le_of_ble_eq_true rfl) tw_203 d_X4_addFind_26 rfl ?_
    refine aw_vi (v2 := (h_i h 17 7)) (rfl) ?_
    refine aw_iload_n (i := 2) rfl d_X4_addFind_29 2 rfl ?_
    obtain ⟨b3, k⟩ := k
    refine aw_iast (ws_58 w) b3 d_X4_addFind_30 ?_
    refine aw_aload_n (i := 0) rfl d_X4_addFind_31 0 rfl ?_
    refine aw_getr (k0 := 2) kc_4 (ws_17 w) (Nat.le_of_ble_eq_true rfl) tw_198 d_X4_addFind_32 rfl (wr_17_2 w) ?_
    refine aw_aload_n (i := 0) rfl d_X4_addFind_35 0 rfl ?_
    refine aw_geti (k0 := 7) kc_4 (ws_17 w) (Nat.le_of_ble_eq_true rfl) tw_203 d_X4_addFind_36 rfl ?_
    refine aw_vi (v2 := (h_i h 17 7)) (rfl) ?_
    refine aw_iload_n (i := 3) rfl d_X4_addFind_39 3 rfl ?_
    obtain ⟨b4, k⟩ := k
    refine aw_iast (ws_59 w) b4 d_X4_addFind_40 ?_
    refine aw_aload_n (i := 0) rfl d_X4_addFind_41 0 rfl ?_
    refine aw_getr (k0 := 3) kc_4 (ws_17 w) (Nat.le_of_ble_eq_true rfl) tw_199 d_X4_addFind_42 rfl (wr_17_3 w) ?_
    refine aw_aload_n (i := 0) rfl d_X4_addFind_45 0 rfl ?_
    refine aw_geti (k0 := 7) kc_4 (ws_17 w) (Nat.le_of_ble_eq_true rfl) tw_203 d_X4_addFind_46 rfl ?_
    refine aw_vi (v2 := (h_i h 17 7)) (rfl) ?_
    refine aw_iload d_X4_addFind_49 4 rfl ?_
    obtain ⟨b5, k⟩ := k
    refine aw_iast (ws_60 w) b5 d_X4_addFind_51 ?_
    refine aw_aload_n (i := 0) rfl d_X4_addFind_52 0 rfl ?_
    refine aw_getr (k0 := 4) kc_4 (ws_17 w) (Nat.le_of_ble_eq_true rfl) tw_200 d_X4_addFind_53 rfl (wr_17_4 w) ?_
    refine aw_aload_n (i := 0) rfl d_X4_addFind_56 0 rfl ?_
    refine aw_geti (k0 := 7) kc_4 (ws_17 w) (Nat.le_of_ble_eq_true rfl) tw_203 d_X4_addFind_57 rfl ?_
    refine aw_vi (v2 := (h_i h 17 7)) (rfl) ?_
    refine aw_iload d_X4_addFind_60 5 rfl ?_
    obtain ⟨b6, k⟩ := k
    refine aw_iast (ws_61 w) b6 d_X4_addFind_62 ?_
    refine aw_aload_n (i := 0) rfl d_X4_addFind_63 0 rfl ?_
    refine aw_dup d_X4_addFind_64 rfl ?_
    refine aw_geti (k0 := 7) kc_4 (ws_17 w) (Nat.le_of_ble_eq_true rfl) tw_203 d_X4_addFind_65 rfl ?_
    refine aw_vi (v2 := (h_i h 17 7)) (rfl) ?_
    refine aw_iconst (v := 1) d_X4_addFind_68 ic_1 ?_
    refine aw_iadd d_X4_addFind_69 ?_
    refine aw_puti (k0 := 7) kc_4 (ws_17 w) (Nat.le_of_ble_eq_true rfl) tw_203 d_X4_addFind_70 rfl rfl nf_i ?_
    refine aw_aload_n (i := 0) rfl d_X4_addFind_73 0 rfl ?_
    refine aw_geti (k0 := 7) kc_4 (ws_17 w) (Nat.le_of_ble_eq_true rfl) tw_203 d_X4_addFind_74 rfl ?_
    refine aw_vi (v2 := ((h_i h 17 7) + 1)) (rfl) ?_
    refine aw_iconst (v := 1) d_X4_addFind_77 ic_1 ?_
    refine aw_isub d_X4_addFind_78 ?_
    exact aw_iret rfl d_X4_addFind_79 ⟨Nat.le_refl _, Nat.le_refl _⟩ ⟨_, rfl, k⟩
  · have k := k.2 c1
    refine aw_iconst (v := (-1)) d_X4_addFind_9 ic_m1 ?_
    exact aw_iret rfl d_X4_addFind_10 ⟨Nat.le_refl _, Nat.le_refl _⟩ ⟨_, rfl, k⟩
theorem t_X11_isMan (d : Nat) (h : Hp_) (w : Wf h) (x1 : Int32) (K : Int32 → Hp_ → Prop) (k : Cr (m_X11_manOf (d + 1) 0 0) [.ref 0, .int x1] h (fun o5 h1 => Wf h1 ∧ ((o5 = none → K 0 h1) ∧ (∀ b4, o5 = some b4 → h_sh h1 b4 = some (12, 17) ∧ 400 ≤ b4 ∧ (K 1 h1))))) : Ci (m_X11_isMan (d + 2) 0 0) [.ref 0, .int x1] h K := by
  refine Ct.of (fun _ _ _ => trivial) pn_X11 (Nat.le_of_ble_eq_true rfl) ?_
  show AW (m_X11_isMan (d + 2) 0 0) 0 0 0 [(0, .ref 0), (1, .int x1)] [] h (kI K)
  refine aw_aload_n (i := 0) rfl d_X11_isMan_0 0 rfl ?_
  refine aw_iload_n (i := 1) rfl d_X11_isMan_1 1 rfl ?_
  refine aw_Vr 0 [.int x1] [] d_X11_isMan_2 (cV_X11_manOf (d + 1) 0 0) kc_11 (ws_0 w) tw_904 rfl (rr0 (Nat.le_of_ble_eq_true rfl) (Nat.le_of_ble_eq_true rfl)) (Nat.le_of_ble_eq_true rfl) xs0 k (fun h1 kk => ?_) (fun b4 h1 kk => ?_)
  · obtain ⟨w2, k⟩ := kk
    have k := k.1 rfl
    refine aw_ifnullN (tgt := 12) d_X11_isMan_5 rfl ?_
    refine aw_iconst (v := 0) d_X11_isMan_12 ic_0 ?_
    exact aw_zret rfl rfl d_X11_isMan_13 ⟨Nat.le_refl _, Nat.le_refl _⟩ ⟨_, rfl, k⟩
  · obtain ⟨w2, k⟩ := kk
    obtain ⟨q6, l7, k⟩ := k.2 b4 rfl
    refine aw_ifnull d_X11_isMan_5 ?_
    refine aw_iconst (v := 1) d_X11_isMan_8 ic_1 ?_
    refine aw_goto (tgt := 13) d_X11_isMan_9 rfl ?_
    exact aw_zret rfl rfl d_X11_isMan_13 ⟨Nat.le_refl _, Nat.le_refl _⟩ ⟨_, rfl, k⟩
theorem t_X5_addRank (d : Nat) (h : Hp_) (w : Wf h) (x1 : Int32) (x2 : Int32) (x3 : Int32) (x4 : Int32) (K : Int32 → Hp_ → Prop) (k : ((h_i h 21 4) < 40 → vp_in (h_i h 21 4) 40 ∧ (vp_in (h_i h 21 4) 40 ∧ (vp_in (h_i h 21 4) 40 ∧ (vp_in (h_i h 21 4) 40 ∧ (K 1 (h_im (h_im (h_im (h_im (h_im h 104 ((h_i h 21 4) : Int32).toNatClampNeg x1) 105 ((h_i h 21 4) : Int32).toNatClampNeg x2) 106 ((h_i h 21 4) : Int32).toNatClampNeg x3) 107 ((h_i h 21 4) : Int32).toNatClampNeg x4) 21 4 ((h_i h 21 4) + 1))))))) ∧ (¬ (h_i h 21 4) < 40 → K 0 h)) : Ci (m_X5_addRank (d + 0) 0 0) [.ref 21, .int x1, .int x2, .int x3, .int x4] h K := by
  refine Ct.of (fun _ _ _ => trivial) pn_X5 (Nat.le_of_ble_eq_true rfl) ?_
  show AW (m_X5_addRank (d + 0) 0 0) 0 0 0 [(0, .ref 21), (1, .int x1), (2, .int x2), (3, .int x3), (4, .int x4)] [] h (kI K)
  refine aw_aload_n (i := 0) rfl d_X5_addRank_0 0 rfl ?_
  refine aw_geti (k0 := 4) kc_5 (ws_21 w) (Nat.le_of_ble_eq_true rfl) tw_438 d_X5_addRank_1 rfl ?_
  refine aw_bipush (v := 40) d_X5_addRank_4 ib_40 ?_
  refine aw_icmp_lt (tgt := 11) d_X5_addRank_6 rfl (fun c1 => ?_) (fun c1 => ?_)
  · have k := k.1 c1
    refine aw_aload_n (i := 0) rfl d_X5_addRank_11 0 rfl ?_
    refine aw_getr (k0 := 0) kc_5 (ws_21 w) (Nat.le_of_ble_eq_true rfl) tw_434 d_X5_addRank_12 rfl (wr_21_0 w) ?_
    refine aw_aload_n (i := 0) rfl d_X5_addRank_15 0 rfl ?_
    refine aw_geti (k0 := 4) kc_5 (ws_21 w) (Nat.le_of_ble_eq_true rfl) tw_438 d_X5_addRank_16 rfl ?_
    refine aw_iload_n (i := 1) rfl d_X5_addRank_19 1 rfl ?_
    obtain ⟨b2, k⟩ := k
    refine aw_iast (ws_104 w) b2 d_X5_addRank_20 ?_
    refine aw_aload_n (i := 0) rfl d_X5_addRank_21 0 rfl ?_
    refine aw_getr (k0 := 1) kc_5 (ws_21 w) (Nat.le_of_ble_eq_true rfl) tw_435 d_X5_addRank_22 rfl (wr_21_1 w) ?_
    refine aw_aload_n (i := 0) rfl d_X5_addRank_25 0 rfl ?_
    refine aw_geti (k0 := 4) kc_5 (ws_21 w) (Nat.le_of_ble_eq_true rfl) tw_438 d_X5_addRank_26 rfl ?_
    refine aw_vi (v2 := (h_i h 21 4)) (rfl) ?_
    refine aw_iload_n (i := 2) rfl d_X5_addRank_29 2 rfl ?_
    obtain ⟨b3, k⟩ := k
    refine aw_iast (ws_105 w) b3 d_X5_addRank_30 ?_
    refine aw_aload_n (i := 0) rfl d_X5_addRank_31 0 rfl ?_
    refine aw_getr (k0 := 2) kc_5 (ws_21 w) (Nat.le_of_ble_eq_true rfl) tw_436 d_X5_addRank_32 rfl (wr_21_2 w) ?_
    refine aw_aload_n (i := 0) rfl d_X5_addRank_35 0 rfl ?_
    refine aw_geti (k0 := 4) kc_5 (ws_21 w) (Nat.le_of_ble_eq_true rfl) tw_438 d_X5_addRank_36 rfl ?_
    refine aw_vi (v2 := (h_i h 21 4)) (rfl) ?_
    refine aw_iload_n (i := 3) rfl d_X5_addRank_39 3 rfl ?_
    obtain ⟨b4, k⟩ := k
    refine aw_iast (ws_106 w) b4 d_X5_addRank_40 ?_
    refine aw_aload_n (i := 0) rfl d_X5_addRank_41 0 rfl ?_
    refine aw_getr (k0 := 3) kc_5 (ws_21 w) (Nat.le_of_ble_eq_true rfl) tw_437 d_X5_addRank_42 rfl (wr_21_3 w) ?_
    refine aw_aload_n (i := 0) rfl d_X5_addRank_45 0 rfl ?_
    refine aw_geti (k0 := 4) kc_5 (ws_21 w) (Nat.le_of_ble_eq_true rfl) tw_438 d_X5_addRank_46 rfl ?_
    refine aw_vi (v2 := (h_i h 21 4)) (rfl) ?_
    refine aw_iload d_X5_addRank_49 4 rfl ?_
    obtain ⟨b5, k⟩ := k
    refine aw_iast (ws_107 w) b5 d_X5_addRank_51 ?_
    refine aw_aload_n (i := 0) rfl d_X5_addRank_52 0 rfl ?_
    refine aw_dup d_X5_addRank_53 rfl ?_
    refine aw_geti (k0 := 4) kc_5 (ws_21 w) (Nat.le_of_ble_eq_true rfl) tw_438 d_X5_addRank_54 rfl ?_
    refine aw_vi (v2 := (h_i h 21 4)) (rfl) ?_
    refine aw_iconst (v := 1) d_X5_addRank_57 ic_1 ?_
    refine aw_iadd d_X5_addRank_58 ?_
    refine aw_puti (k0 := 4) kc_5 (ws_21 w) (Nat.le_of_ble_eq_true rfl) tw_438 d_X5_addRank_59 rfl rfl nf_i ?_
    refine aw_iconst (v := 1) d_X5_addRank_62 ic_1 ?_
    exact aw_zret rfl rfl d_X5_addRank_63 ⟨Nat.le_refl _, Nat.le_refl _⟩ ⟨_, rfl, k⟩
  · have k := k.2 c1
    refine aw_iconst (v := 0) d_X5_addRank_9 ic_0 ?_
    exact aw_zret rfl rfl d_X5_addRank_10 ⟨Nat.le_refl _, Nat.le_refl _⟩ ⟨_, rfl, k⟩
theorem t_X12_rank (d : Nat) (h : Hp_) (w : Wf h) (x1 : Int32) (x2 : Int32) (x3 : Int32) (K : Int32 → Hp_ → Prop) (k : (¬ (0 ≤ x1 ∧ x1 ≤ (h_i h 1 7) - 1) → K 0 h) ∧ ((0 ≤ x1 ∧ x1 ≤ (h_i h 1 7) - 1) → (¬ (1 ≤ x2 ∧ x2 ≤ 4) → K 0 h) ∧ ((1 ≤ x2 ∧ x2 ≤ 4) → (¬ (0 ≤ x3 ∧ x3 ≤ 30) → K 0 h) ∧ ((0 ≤ x3 ∧ x3 ≤ 30) → (¬ (h_i h 1 29) = 40 → vp_in (h_i h 1 29) 40 ∧ (vp_in (h_i h 1 29) 40 ∧ (vp_in (h_i h 1 29) 40 ∧ (vp_in (h_i h 1 29) 40 ∧ (K 1 (h_im (h_im (h_im (h_im (h_im h 221 ((h_i h 1 29) : Int32).toNatClampNeg x1) 222 ((h_i h 1 29) : Int32).toNatClampNeg x2) 223 ((h_i h 1 29) : Int32).toNatClampNeg x3) 224 ((h_i h 1 29) : Int32).toNatClampNeg (h_i h 1 0)) 1 29 ((h_i h 1 29) + 1))))))) ∧ ((h_i h 1 29) = 40 → K 0 h))))) : Ci (m_X12_rank (d + 2) 0 0) [.ref 1, .int x1, .int x2, .int x3] h K := by
  refine Ct.of (fun _ _ _ => trivial) pn_X12 (Nat.le_of_ble_eq_true rfl) ?_
  show AW (m_X12_rank (d + 2) 0 0) 0 0 0 [(0, .ref 1), (1, .int x1), (2, .int x2), (3, .int x3)] [] h (kI K)
  refine aw_aload_n (i := 0) rfl d_X12_rank_0 0 rfl ?_
  refine aw_iload_n (i := 1) rfl d_X12_rank_1 1 rfl ?_
  refine aw_Vi 1 [.int x1] [] d_X12_rank_2 (cV_X12_isMan (d + 1) 0 0) kc_12 (ws_1 w) tw_2163 rfl (rr0 (Nat.le_of_ble_eq_true rfl) (Nat.le_of_ble_eq_true rfl)) (Nat.le_of_ble_eq_true rfl) xs0 (s_X12_isMan _ _ w x1) (fun _ _ kk => ?_)
  obtain ⟨e1, e2⟩ := kk
  rw [e1, e2]
  refine aw_ifb_eq (tgt := 36) d_X12_rank_5 rfl (fun c3 => ?_) (fun c3 => ?_)
  · have k := k.1 c3
    refine aw_iconst (v := 0) d_X12_rank_36 ic_0 ?_
    exact aw_zret rfl rfl d_X12_rank_37 ⟨Nat.le_refl _, Nat.le_refl _⟩ ⟨_, rfl, k⟩
  · have k := k.2 c3
    refine aw_iload_n (i := 2) rfl d_X12_rank_8 2 rfl ?_
    refine aw_iconst (v := 1) d_X12_rank_9 ic_1 ?_
    refine aw_iconst (v := 4) d_X12_rank_10 ic_4 ?_
    refine aw_Si [.int x2, .int 1, .int 4] [] d_X12_rank_11 (cS_X12_in (d + 0) 0 0) tw_2143 rfl (rr0 (Nat.le_of_ble_eq_true rfl) (Nat.le_of_ble_eq_true rfl)) (Nat.le_of_ble_eq_true rfl) xs0 (s_X12_in _ _ x2 1 4) (fun _ _ kk => ?_)
    obtain ⟨e4, e5⟩ := kk
    rw [e4, e5]
    refine aw_ifb_eq (tgt := 36) d_X12_rank_14 rfl (fun c6 => ?_) (fun c6 => ?_)
    · have k := k.1 c6
      refine aw_iconst (v := 0) d_X12_rank_36 ic_0 ?_
      exact aw_zret rfl rfl d_X12_rank_37 ⟨Nat.le_refl _, Nat.le_refl _⟩ ⟨_, rfl, k⟩
    · have k := k.2 c6
      refine aw_iload_n (i := 3) rfl d_X12_rank_17 3 rfl ?_
      refine aw_iconst (v := 0) d_X12_rank_18 ic_0 ?_
      refine aw_bipush (v := 30) d_X12_rank_19 ib_30 ?_
      refine aw_Si [.int x3, .int 0, .int 30] [] d_X12_rank_21 (cS_X12_in (d + 0) 0 0) tw_2143 rfl (rr0 (Nat.le_of_ble_eq_true rfl) (Nat.le_of_ble_eq_true rfl)) (Nat.le_of_ble_eq_true rfl) xs0 (s_X12_in _ _ x3 0 30) (fun _ _ kk => ?_)
      obtain ⟨e7, e8⟩ := kk
      rw [e7, e8]
      refine aw_ifb_eq (tgt := 36) d_X12_rank_24 rfl (fun c9 => ?_) (fun c9 => ?_)
      · have k := k.1 c9
        refine aw_iconst (v := 0) d_X12_rank_36 ic_0 ?_
        exact aw_zret rfl rfl d_X12_rank_37 ⟨Nat.le_refl _, Nat.le_refl _⟩ ⟨_, rfl, k⟩
      · have k := k.2 c9
        refine aw_aload_n (i := 0) rfl d_X12_rank_27 0 rfl ?_
        refine aw_geti (k0 := 29) kc_12 (ws_1 w) (Nat.le_of_ble_eq_true rfl) tw_1771 d_X12_rank_28 rfl ?_
        refine aw_bipush (v := 40) d_X12_rank_31 ib_40 ?_
        refine aw_icmp_ne (tgt := 38) d_X12_rank_33 rfl (fun c10 => ?_) (fun c10 => ?_)
        · have k := k.1 c10
          refine aw_aload_n (i := 0) rfl d_X12_rank_38 0 rfl ?_
          refine aw_getr (k0 := 25) kc_12 (ws_1 w) (Nat.le_of_ble_eq_true rfl) tw_1767 d_X12_rank_39 rfl (wr_1_25 w) ?_
          refine aw_aload_n (i := 0) rfl d_X12_rank_42 0 rfl ?_
          refine aw_geti (k0 := 29) kc_12 (ws_1 w) (Nat.le_of_ble_eq_true rfl) tw_1771 d_X12_rank_43 rfl ?_
          refine aw_iload_n (i := 1) rfl d_X12_rank_46 1 rfl ?_
          obtain ⟨b11, k⟩ := k
          refine aw_iast (ws_221 w) b11 d_X12_rank_47 ?_
          refine aw_aload_n (i := 0) rfl d_X12_rank_48 0 rfl ?_
          refine aw_getr (k0 := 26) kc_12 (ws_1 w) (Nat.le_of_ble_eq_true rfl) tw_1768 d_X12_rank_49 rfl (wr_1_26 w) ?_
          refine aw_aload_n (i := 0) rfl d_X12_rank_52 0 rfl ?_
          refine aw_geti (k0 := 29) kc_12 (ws_1 w) (Nat.le_of_ble_eq_true rfl) tw_1771 d_X12_rank_53 rfl ?_
          refine aw_vi (v2 := (h_i h 1 29)) (rfl) ?_
          refine aw_iload_n (i := 2) rfl d_X12_rank_56 2 rfl ?_
          obtain ⟨b12, k⟩ := k
          refine aw_iast (ws_222 w) b12 d_X12_rank_57 ?_
          refine aw_aload_n (i := 0) rfl d_X12_rank_58 0 rfl ?_
          refine aw_getr (k0 := 27) kc_12 (ws_1 w) (Nat.le_of_ble_eq_true rfl) tw_1769 d_X12_rank_59 rfl (wr_1_27 w) ?_
          refine aw_aload_n (i := 0) rfl d_X12_rank_62 0 rfl ?_
          refine aw_geti (k0 := 29) kc_12 (ws_1 w) (Nat.le_of_ble_eq_true rfl) tw_1771 d_X12_rank_63 rfl ?_
          refine aw_vi (v2 := (h_i h 1 29)) (rfl) ?_
          refine aw_iload_n (i := 3) rfl d_X12_rank_66 3 rfl ?_
          obtain ⟨b13, k⟩ := k
          refine aw_iast (ws_223 w) b13 d_X12_rank_67 ?_
          refine aw_aload_n (i := 0) rfl d_X12_rank_68 0 rfl ?_
          refine aw_getr (k0 := 28) kc_12 (ws_1 w) (Nat.le_of_ble_eq_true rfl) tw_1770 d_X12_rank_69 rfl (wr_1_28 w) ?_
          refine aw_aload_n (i := 0) rfl d_X12_rank_72 0 rfl ?_
          refine aw_geti (k0 := 29) kc_12 (ws_1 w) (Nat.le_of_ble_eq_true rfl) tw_1771 d_X12_rank_73 rfl ?_
          refine aw_vi (v2 := (h_i h 1 29)) (rfl) ?_
          refine aw_aload_n (i := 0) rfl d_X12_rank_76 0 rfl ?_
          refine aw_geti (k0 := 0) kc_12 (ws_1 w) (Nat.le_of_ble_eq_true rfl) tw_1742 d_X12_rank_77 rfl ?_
          refine aw_vi (v2 := (h_i h 1 0)) (rfl) ?_
          obtain ⟨b14, k⟩ := k
          refine aw_iast (ws_224 w) b14 d_X12_rank_80 ?_
          refine aw_aload_n (i := 0) rfl d_X12_rank_81 0 rfl ?_
          refine aw_dup d_X12_rank_82 rfl ?_
          refine aw_geti (k0 := 29) kc_12 (ws_1 w) (Nat.le_of_ble_eq_true rfl) tw_1771 d_X12_rank_83 rfl ?_
          refine aw_vi (v2 := (h_i h 1 29)) (rfl) ?_
          refine aw_iconst (v := 1) d_X12_rank_86 ic_1 ?_
          refine aw_iadd d_X12_rank_87 ?_
          refine aw_puti (k0 := 29) kc_12 (ws_1 w) (Nat.le_of_ble_eq_true rfl) tw_1771 d_X12_rank_88 rfl rfl nf_i ?_
          refine aw_iconst (v := 1) d_X12_rank_91 ic_1 ?_
          exact aw_zret rfl rfl d_X12_rank_92 ⟨Nat.le_refl _, Nat.le_refl _⟩ ⟨_, rfl, k⟩
        · have k := k.2 c10
          refine aw_iconst (v := 0) d_X12_rank_36 ic_0 ?_
          exact aw_zret rfl rfl d_X12_rank_37 ⟨Nat.le_refl _, Nat.le_refl _⟩ ⟨_, rfl, k⟩
theorem t_X11_rank (d : Nat) (h : Hp_) (w : Wf h) (x1 : Int32) (x2 : Int32) (x3 : Int32) (K : Int32 → Hp_ → Prop) (k : Ci (m_X11_isMan (d + 2) 0 0) [.ref 0, .int x1] h (fun r3 h1 => Wf h1 ∧ ((r3 = 0 → K 0 h1) ∧ (¬ r3 = 0 → (¬ (1 ≤ x2 ∧ x2 ≤ 4) → K 0 h1) ∧ ((1 ≤ x2 ∧ x2 ≤ 4) → ((0 ≤ x3 ∧ x3 ≤ 30) → Ci (m_X5_addRank (d + 0) 0 0) [.ref 21, .int x1, .int x2, .int x3, .int (h_i h1 0 0)] h1 (fun r13 h11 => Wf h11 ∧ ((r13 = 0 ∨ r13 = 1) ∧ (K r13 h11)))) ∧ (¬ (0 ≤ x3 ∧ x3 ≤ 30) → K 0 h1)))))) : Ci (m_X11_rank (d + 3) 0 0) [.ref 0, .int x1, .int x2, .int x3] h K := by
  refine Ct.of (fun _ _ _ => trivial) pn_X11 (Nat.le_of_ble_eq_true rfl) ?_
  show AW (m_X11_rank (d + 3) 0 0) 0 0 0 [(0, .ref 0), (1, .int x1), (2, .int x2), (3, .int x3)] [] h (kI K)
  refine aw_aload_n (i := 0) rfl d_X11_rank_0 0 rfl ?_
  refine aw_iload_n (i := 1) rfl d_X11_rank_1 1 rfl ?_
  refine aw_Vi 0 [.int x1] [] d_X11_rank_2 (cV_X11_isMan (d + 2) 0 0) kc_11 (ws_0 w) tw_1098 rfl (rr0 (Nat.le_of_ble_eq_true rfl) (Nat.le_of_ble_eq_true rfl)) (Nat.le_of_ble_eq_true rfl) xs0 k (fun r3 h1 kk => ?_)
  obtain ⟨w2, k⟩ := kk
  refine aw_if_eq (tgt := 27) d_X11_rank_5 rfl (fun c4 => ?_) (fun c4 => ?_)
  · have k := k.1 c4
    refine aw_iconst (v := 0) d_X11_rank_27 ic_0 ?_
    exact aw_zret rfl rfl d_X11_rank_28 ⟨Nat.le_refl _, Nat.le_refl _⟩ ⟨_, rfl, k⟩
  · have k := k.2 c4
    refine aw_iload_n (i := 2) rfl d_X11_rank_8 2 rfl ?_
    refine aw_iconst (v := 1) d_X11_rank_9 ic_1 ?_
    refine aw_iconst (v := 4) d_X11_rank_10 ic_4 ?_
    refine aw_Si [.int x2, .int 1, .int 4] [] d_X11_rank_11 (cS_X11_within (d + 0) 0 0) tw_543 rfl (rr0 (Nat.le_of_ble_eq_true rfl) (Nat.le_of_ble_eq_true rfl)) (Nat.le_of_ble_eq_true rfl) xs0 (s_X11_within _ _ x2 1 4) (fun _ _ kk => ?_)
    obtain ⟨e5, e6⟩ := kk
    rw [e5, e6]
    refine aw_ifb_eq (tgt := 27) d_X11_rank_14 rfl (fun c7 => ?_) (fun c7 => ?_)
    · have k := k.1 c7
      refine aw_iconst (v := 0) d_X11_rank_27 ic_0 ?_
      exact aw_zret rfl rfl d_X11_rank_28 ⟨Nat.le_refl _, Nat.le_refl _⟩ ⟨_, rfl, k⟩
    · have k := k.2 c7
      refine aw_iload_n (i := 3) rfl d_X11_rank_17 3 rfl ?_
      refine aw_iconst (v := 0) d_X11_rank_18 ic_0 ?_
      refine aw_bipush (v := 30) d_X11_rank_19 ib_30 ?_
      refine aw_Si [.int x3, .int 0, .int 30] [] d_X11_rank_21 (cS_X11_within (d + 0) 0 0) tw_543 rfl (rr0 (Nat.le_of_ble_eq_true rfl) (Nat.le_of_ble_eq_true rfl)) (Nat.le_of_ble_eq_true rfl) xs0 (s_X11_within _ _ x3 0 30) (fun _ _ kk => ?_)
      obtain ⟨e8, e9⟩ := kk
      rw [e8, e9]
      refine aw_ifb_ne (tgt := 29) d_X11_rank_24 rfl (fun c10 => ?_) (fun c10 => ?_)
      · have k := k.1 c10
        refine aw_aload_n (i := 0) rfl d_X11_rank_29 0 rfl ?_
        refine aw_getr (k0 := 13) kc_11 (ws_0 w2) (Nat.le_of_ble_eq_true rfl) tw_500 d_X11_rank_30 rfl (wr_0_13 w2) ?_
        refine aw_iload_n (i := 1) rfl d_X11_rank_33 1 rfl ?_
        refine aw_iload_n (i := 2) rfl d_X11_rank_34 2 rfl ?_
        refine aw_iload_n (i := 3) rfl d_X11_rank_35 3 rfl ?_
        refine aw_aload_n (i := 0) rfl d_X11_rank_36 0 rfl ?_
        refine aw_geti (k0 := 0) kc_11 (ws_0 w2) (Nat.le_of_ble_eq_true rfl) tw_487 d_X11_rank_37 rfl ?_
        refine aw_Vi 21 [.int x1, .int x2, .int x3, .int (h_i h1 0 0)] [] d_X11_rank_40 (cV_X5_addRank (d + 0) 0 0) kc_5 (ws_21 w2) tw_1569 rfl (rr0 (Nat.le_of_ble_eq_true rfl) (Nat.le_of_ble_eq_true rfl)) (Nat.le_of_ble_eq_true rfl) xs0 k (fun r13 h11 kk => ?_)
        obtain ⟨w12, k⟩ := kk
        obtain ⟨z14, k⟩ := k
        exact aw_zret rfl (nf_z z14).1 d_X11_rank_43 ⟨Nat.le_refl _, Nat.le_refl _⟩ ⟨_, rfl, k⟩
      · have k := k.2 c10
        refine aw_iconst (v := 0) d_X11_rank_27 ic_0 ?_
        exact aw_zret rfl rfl d_X11_rank_28 ⟨Nat.le_refl _, Nat.le_refl _⟩ ⟨_, rfl, k⟩
theorem t_X11_open (d : Nat) (h : Hp_) (w : Wf h) (x1 : Int32) (K : Int32 → Hp_ → Prop) (k : (¬ (0 ≤ x1 ∧ x1 ≤ 9) → K (-1) h) ∧ ((0 ≤ x1 ∧ x1 ≤ 9) → Ci (m_X1_start (d + 0) 0 0) [.ref 18, .int x1, .int (h_i h 0 0)] h (fun r6 h4 => Wf h4 ∧ (K r6 h4)))) : Ci (m_X11_open (d + 1) 0 0) [.ref 0, .int x1] h K := by
  refine Ct.of (fun _ _ _ => trivial) pn_X11 (Nat.le_of_ble_eq_true rfl) ?_
  show AW (m_X11_open (d + 1) 0 0) 0 0 0 [(0, .ref 0), (1, .int x1)] [] h (kI K)
  refine aw_iload_n (i := 1) rfl d_X11_open_0 1 rfl ?_
  refine aw_iconst (v := 0) d_X11_open_1 ic_0 ?_
  refine aw_bipush (v := 9) d_X11_open_2 ib_9 ?_
  refine aw_Si [.int x1, .int 0, .int 9] [] d_X11_open_4 (cS_X11_within (d + 0) 0 0) tw_543 rfl (rr0 (Nat.le_of_ble_eq_true rfl) (Nat.le_of_ble_eq_true rfl)) (Nat.le_of_ble_eq_true rfl) xs0 (s_X11_within _ _ x1 0 9) (fun _ _ kk => ?_)
  obtain ⟨e1, e2⟩ := kk
  rw [e1, e2]
  refine aw_ifb_eq (tgt := 25) d_X11_open_7 rfl (fun c3 => ?_) (fun c3 => ?_)
  · have k := k.1 c3
    refine aw_iconst (v := (-1)) d_X11_open_25 ic_m1 ?_
    exact aw_iret rfl d_X11_open_26 ⟨Nat.le_refl _, Nat.le_refl _⟩ ⟨_, rfl, k⟩
  · have k := k.2 c3
    refine aw_aload_n (i := 0) rfl d_X11_open_10 0 rfl ?_
    refine aw_getr (k0 := 10) kc_11 (ws_0 w) (Nat.le_of_ble_eq_true rfl) tw_497 d_X11_open_11 rfl (wr_0_10 w) ?_
    refine aw_iload_n (i := 1) rfl d_X11_open_14 1 rfl ?_
    refine aw_aload_n (i := 0) rfl d_X11_open_15 0 rfl ?_
    refine aw_geti (k0 := 0) kc_11 (ws_0 w) (Nat.le_of_ble_eq_true rfl) tw_487 d_X11_open_16 rfl ?_
    refine aw_Vi 18 [.int x1, .int (h_i h 0 0)] [] d_X11_open_19 (cV_X1_start (d + 0) 0 0) kc_1 (ws_18 w) tw_1086 rfl (rr0 (Nat.le_of_ble_eq_true rfl) (Nat.le_of_ble_eq_true rfl)) (Nat.le_of_ble_eq_true rfl) xs0 k (fun r6 h4 kk => ?_)
    obtain ⟨w5, k⟩ := kk
    refine aw_goto (tgt := 26) d_X11_open_22 rfl ?_
    exact aw_iret rfl d_X11_open_26 ⟨Nat.le_refl _, Nat.le_refl _⟩ ⟨_, rfl, k⟩
theorem t_X12_open (d : Nat) (h : Hp_) (w : Wf h) (x1 : Int32) (K : Int32 → Hp_ → Prop) (k : (¬ (0 ≤ x1 ∧ x1 ≤ 9) → K (-1) h) ∧ ((0 ≤ x1 ∧ x1 ≤ 9) → (30 ≤ (h_i h 1 96) → K (-1) h) ∧ (¬ 30 ≤ (h_i h 1 96) → Ci (m_X12_opened (d + 0) 0 0) [.ref 1, .int x1] h (fun r7 h5 => Wf h5 ∧ (K r7 h5))))) : Ci (m_X12_open (d + 1) 0 0) [.ref 1, .int x1] h K := by
  refine Ct.of (fun _ _ _ => trivial) pn_X12 (Nat.le_of_ble_eq_true rfl) ?_
  show AW (m_X12_open (d + 1) 0 0) 0 0 0 [(0, .ref 1), (1, .int x1)] [] h (kI K)
  refine aw_iload_n (i := 1) rfl d_X12_open_0 1 rfl ?_
  refine aw_iconst (v := 0) d_X12_open_1 ic_0 ?_
  refine aw_bipush (v := 9) d_X12_open_2 ib_9 ?_
  refine aw_Si [.int x1, .int 0, .int 9] [] d_X12_open_4 (cS_X12_in (d + 0) 0 0) tw_2143 rfl (rr0 (Nat.le_of_ble_eq_true rfl) (Nat.le_of_ble_eq_true rfl)) (Nat.le_of_ble_eq_true rfl) xs0 (s_X12_in _ _ x1 0 9) (fun _ _ kk => ?_)
  obtain ⟨e1, e2⟩ := kk
  rw [e1, e2]
  refine aw_ifb_eq (tgt := 27) d_X12_open_7 rfl (fun c3 => ?_) (fun c3 => ?_)
  · have k := k.1 c3
    refine aw_iconst (v := (-1)) d_X12_open_27 ic_m1 ?_
    exact aw_iret rfl d_X12_open_28 ⟨Nat.le_refl _, Nat.le_refl _⟩ ⟨_, rfl, k⟩
  · have k := k.2 c3
    refine aw_aload_n (i := 0) rfl d_X12_open_10 0 rfl ?_
    refine aw_geti (k0 := 96) kc_12 (ws_1 w) (Nat.le_of_ble_eq_true rfl) tw_1838 d_X12_open_11 rfl ?_
    refine aw_bipush (v := 30) d_X12_open_14 ib_30 ?_
    refine aw_icmp_ge (tgt := 27) d_X12_open_16 rfl (fun c4 => ?_) (fun c4 => ?_)
    · have k := k.1 c4
      refine aw_iconst (v := (-1)) d_X12_open_27 ic_m1 ?_
      exact aw_iret rfl d_X12_open_28 ⟨Nat.le_refl _, Nat.le_refl _⟩ ⟨_, rfl, k⟩
    · have k := k.2 c4
      refine aw_aload_n (i := 0) rfl d_X12_open_19 0 rfl ?_
      refine aw_iload_n (i := 1) rfl d_X12_open_20 1 rfl ?_
      refine aw_Vi 1 [.int x1] [] d_X12_open_21 (cV_X12_opened (d + 0) 0 0) kc_12 (ws_1 w) tw_2446 rfl (rr0 (Nat.le_of_ble_eq_true rfl) (Nat.le_of_ble_eq_true rfl)) (Nat.le_of_ble_eq_true rfl) xs0 k (fun r7 h5 kk => ?_)
      obtain ⟨w6, k⟩ := kk
      refine aw_goto (tgt := 28) d_X12_open_24 rfl ?_
      exact aw_iret rfl d_X12_open_28 ⟨Nat.le_refl _, Nat.le_refl _⟩ ⟨_, rfl, k⟩
theorem t_X4_countKnown (d : Nat) (h : Hp_) (x1 : Int32) (K : Int32 → Hp_ → Prop) (k : AW (m_X4_countKnown (d + 1) 0 0) 0 0 4 [(0, .ref 17), (1, .int x1), (2, .int 0), (3, .int 0)] [] h (kI K)) : Ci (m_X4_countKnown (d + 1) 0 0) [.ref 17, .int x1] h K := by
  refine Ct.of (fun _ _ _ => trivial) pn_X4 (Nat.le_of_ble_eq_true rfl) ?_
  show AW (m_X4_countKnown (d + 1) 0 0) 0 0 0 [(0, .ref 17), (1, .int x1)] [] h (kI K)
  refine aw_iconst (v := 0) d_X4_countKnown_0 ic_0 ?_
  refine aw_istore_n (i := 2) rfl [(0, .ref 17), (1, .int x1), (2, .int 0)] d_X4_countKnown_1 (Nat.le_of_ble_eq_true rfl) rfl rfl ?_
  refine aw_iconst (v := 0) d_X4_countKnown_2 ic_0 ?_
  refine aw_istore_n (i := 3) rfl [(0, .ref 17), (1, .int x1), (2, .int 0), (3, .int 0)] d_X4_countKnown_3 (Nat.le_of_ble_eq_true rfl) rfl rfl ?_
  exact k
theorem t_X4_countKnown_4 (d : Nat) (h : Hp_) (w : Wf h) (x1 : Int32) (x2 : Int32) (x3 : Int32) (K : Int32 → Hp_ → Prop) (k : ((h_i h 17 16) ≤ x3 → K x2 h) ∧ (¬ (h_i h 17 16) ≤ x3 → vp_in x3 300 ∧ (((h_i h 69 x3.toNatClampNeg) = (-1) → AW (m_X4_countKnown (d + 1) 0 0) 0 0 4 [(0, .ref 17), (1, .int x1), (2, .int x2), (3, .int (x3 + 1))] [] h (kI K)) ∧ (¬ (h_i h 69 x3.toNatClampNeg) = (-1) → vp_in x3 300 ∧ ((x1 < (h_i h 69 x3.toNatClampNeg) → AW (m_X4_countKnown (d + 1) 0 0) 0 0 4 [(0, .ref 17), (1, .int x1), (2, .int x2), (3, .int (x3 + 1))] [] h (kI K)) ∧ (¬ x1 < (h_i h 69 x3.toNatClampNeg) → AW (m_X4_countKnown (d + 1) 0 0) 0 0 4 [(0, .ref 17), (1, .int x1), (2, .int (x2 + 1)), (3, .int (x3 + 1))] [] h (kI K))))))) : AW (m_X4_countKnown (d + 1) 0 0) 0 0 4 [(0, .ref 17), (1, .int x1), (2, .int x2), (3, .int x3)] [] h (kI K) := by
  refine aw_iload_n (i := 3) rfl d_X4_countKnown_4 3 rfl ?_
  refine aw_aload_n (i := 0) rfl d_X4_countKnown_5 0 rfl ?_
  refine aw_geti (k0 := 16) kc_4 (ws_17 w) (Nat.le_of_ble_eq_true rfl) tw_215 d_X4_countKnown_6 rfl ?_
  refine aw_icmp_ge (tgt := 41) d_X4_countKnown_9 rfl (fun c1 => ?_) (fun c1 => ?_)
  · have k := k.1 c1
    refine aw_iload_n (i := 2) rfl d_X4_countKnown_41 2 rfl ?_
    exact aw_iret rfl d_X4_countKnown_42 ⟨Nat.le_refl _, Nat.le_refl _⟩ ⟨_, rfl, k⟩
  · have k := k.2 c1
    refine aw_aload_n (i := 0) rfl d_X4_countKnown_12 0 rfl ?_
    refine aw_getr (k0 := 14) kc_4 (ws_17 w) (Nat.le_of_ble_eq_true rfl) tw_212 d_X4_countKnown_13 rfl (wr_17_14 w) ?_
    refine aw_iload_n (i := 3) rfl d_X4_countKnown_16 3 rfl ?_
    obtain ⟨b2, k⟩ := k
    refine aw_iald (ws_69 w) b2 d_X4_countKnown_17 ?_
    refine aw_iconst (v := (-1)) d_X4_countKnown_18 ic_m1 ?_
    refine aw_icmp_eq (tgt := 35) d_X4_countKnown_19 rfl (fun c3 => ?_) (fun c3 => ?_)
    · have k := k.1 c3
      refine aw_iinc (v := (x3 + 1)) [(0, .ref 17), (1, .int x1), (2, .int x2), (3, .int (x3 + 1))] d_X4_countKnown_35 3 rfl rfl (Nat.le_of_ble_eq_true rfl) rfl rfl ?_
      refine aw_goto (tgt := 4) d_X4_countKnown_38 rfl ?_
      exact k
    · have k := k.2 c3
      refine aw_aload_n (i := 0) rfl d_X4_countKnown_22 0 rfl ?_
      refine aw_getr (k0 := 14) kc_4 (ws_17 w) (Nat.le_of_ble_eq_true rfl) tw_212 d_X4_countKnown_23 rfl (wr_17_14 w) ?_
      refine aw_iload_n (i := 3) rfl d_X4_countKnown_26 3 rfl ?_
      obtain ⟨b4, k⟩ := k
      refine aw_iald (ws_69 w) b4 d_X4_countKnown_27 ?_
      refine aw_iload_n (i := 1) rfl d_X4_countKnown_28 1 rfl ?_
      refine aw_icmp_gt (tgt := 35) d_X4_countKnown_29 rfl (fun c5 => ?_) (fun c5 => ?_)
      · have k := k.1 c5
        refine aw_iinc (v := (x3 + 1)) [(0, .ref 17), (1, .int x1), (2, .int x2), (3, .int (x3 + 1))] d_X4_countKnown_35 3 rfl rfl (Nat.le_of_ble_eq_true rfl) rfl rfl ?_
        refine aw_goto (tgt := 4) d_X4_countKnown_38 rfl ?_
        exact k
      · have k := k.2 c5
        refine aw_iinc (v := (x2 + 1)) [(0, .ref 17), (1, .int x1), (2, .int (x2 + 1)), (3, .int x3)] d_X4_countKnown_32 2 rfl rfl (Nat.le_of_ble_eq_true rfl) rfl rfl ?_
        refine aw_iinc (v := (x3 + 1)) [(0, .ref 17), (1, .int x1), (2, .int (x2 + 1)), (3, .int (x3 + 1))] d_X4_countKnown_35 3 rfl rfl (Nat.le_of_ble_eq_true rfl) rfl rfl ?_
        refine aw_goto (tgt := 4) d_X4_countKnown_38 rfl ?_
        exact k
theorem t_X11_heard (d : Nat) (h : Hp_) (w : Wf h) (x1 : Int32) (K : Int32 → Hp_ → Prop) (k : Ci (m_X11_isKnown (d + 1) 0 0) [.ref 0, .int x1] h (fun r3 h1 => Wf h1 ∧ ((r3 = 0 → K (-1) h1) ∧ (¬ r3 = 0 → Ci (m_X4_countKnown (d + 1) 0 0) [.ref 17, .int x1] h1 (fun r7 h5 => Wf h5 ∧ (K r7 h5)))))) : Ci (m_X11_heard (d + 2) 0 0) [.ref 0, .int x1] h K := by
  refine Ct.of (fun _ _ _ => trivial) pn_X11 (Nat.le_of_ble_eq_true rfl) ?_
  show AW (m_X11_heard (d + 2) 0 0) 0 0 0 [(0, .ref 0), (1, .int x1)] [] h (kI K)
  refine aw_aload_n (i := 0) rfl d_X11_heard_0 0 rfl ?_
  refine aw_iload_n (i := 1) rfl d_X11_heard_1 1 rfl ?_
  refine aw_Vi 0 [.int x1] [] d_X11_heard_2 (cV_X11_isKnown (d + 1) 0 0) kc_11 (ws_0 w) tw_1102 rfl (rr0 (Nat.le_of_ble_eq_true rfl) (Nat.le_of_ble_eq_true rfl)) (Nat.le_of_ble_eq_true rfl) xs0 k (fun r3 h1 kk => ?_)
  obtain ⟨w2, k⟩ := kk
  refine aw_if_eq (tgt := 19) d_X11_heard_5 rfl (fun c4 => ?_) (fun c4 => ?_)
  · have k := k.1 c4
    refine aw_iconst (v := (-1)) d_X11_heard_19 ic_m1 ?_
    exact aw_iret rfl d_X11_heard_20 ⟨Nat.le_refl _, Nat.le_refl _⟩ ⟨_, rfl, k⟩
  · have k := k.2 c4
    refine aw_aload_n (i := 0) rfl d_X11_heard_8 0 rfl ?_
    refine aw_getr (k0 := 9) kc_11 (ws_0 w2) (Nat.le_of_ble_eq_true rfl) tw_496 d_X11_heard_9 rfl (wr_0_9 w2) ?_
    refine aw_iload_n (i := 1) rfl d_X11_heard_12 1 rfl ?_
    refine aw_Vi 17 [.int x1] [] d_X11_heard_13 (cV_X4_countKnown (d + 1) 0 0) kc_4 (ws_17 w2) tw_1199 rfl (rr0 (Nat.le_of_ble_eq_true rfl) (Nat.le_of_ble_eq_true rfl)) (Nat.le_of_ble_eq_true rfl) xs0 k (fun r7 h5 kk => ?_)
    obtain ⟨w6, k⟩ := kk
    refine aw_goto (tgt := 20) d_X11_heard_16 rfl ?_
    exact aw_iret rfl d_X11_heard_20 ⟨Nat.le_refl _, Nat.le_refl _⟩ ⟨_, rfl, k⟩
theorem t_X12_heard (d : Nat) (h : Hp_) (w : Wf h) (x1 : Int32) (K : Int32 → Hp_ → Prop) (k : ((0 ≤ x1 ∧ x1 ≤ (h_i h 1 0)) → AW (m_X12_heard (d + 2) 0 0) 0 0 14 [(0, .ref 1), (1, .int x1), (2, .int 0), (3, .int 0)] [] h (kI K)) ∧ (¬ (0 ≤ x1 ∧ x1 ≤ (h_i h 1 0)) → K (-1) h)) : Ci (m_X12_heard (d + 2) 0 0) [.ref 1, .int x1] h K := by
  refine Ct.of (fun _ _ _ => trivial) pn_X12 (Nat.le_of_ble_eq_true rfl) ?_
  show AW (m_X12_heard (d + 2) 0 0) 0 0 0 [(0, .ref 1), (1, .int x1)] [] h (kI K)
  refine aw_aload_n (i := 0) rfl d_X12_heard_0 0 rfl ?_
  refine aw_iload_n (i := 1) rfl d_X12_heard_1 1 rfl ?_
  refine aw_Vi 1 [.int x1] [] d_X12_heard_2 (cV_X12_isKnowing (d + 1) 0 0) kc_12 (ws_1 w) tw_2171 rfl (rr0 (Nat.le_of_ble_eq_true rfl) (Nat.le_of_ble_eq_true rfl)) (Nat.le_of_ble_eq_true rfl) xs0 (s_X12_isKnowing _ _ w x1) (fun _ _ kk => ?_)
  obtain ⟨e1, e2⟩ := kk
  rw [e1, e2]
  refine aw_ifb_ne (tgt := 10) d_X12_heard_5 rfl (fun c3 => ?_) (fun c3 => ?_)
  · have k := k.1 c3
    refine aw_iconst (v := 0) d_X12_heard_10 ic_0 ?_
    refine aw_istore_n (i := 2) rfl [(0, .ref 1), (1, .int x1), (2, .int 0)] d_X12_heard_11 (Nat.le_of_ble_eq_true rfl) rfl rfl ?_
    refine aw_iconst (v := 0) d_X12_heard_12 ic_0 ?_
    refine aw_istore_n (i := 3) rfl [(0, .ref 1), (1, .int x1), (2, .int 0), (3, .int 0)] d_X12_heard_13 (Nat.le_of_ble_eq_true rfl) rfl rfl ?_
    exact k
  · have k := k.2 c3
    refine aw_iconst (v := (-1)) d_X12_heard_8 ic_m1 ?_
    exact aw_iret rfl d_X12_heard_9 ⟨Nat.le_refl _, Nat.le_refl _⟩ ⟨_, rfl, k⟩
theorem t_X12_heard_14 (d : Nat) (h : Hp_) (w : Wf h) (x1 : Int32) (x2 : Int32) (x3 : Int32) (K : Int32 → Hp_ → Prop) (k : ((h_i h 1 80) ≤ x3 → K x2 h) ∧ (¬ (h_i h 1 80) ≤ x3 → vp_in x3 300 ∧ (((h_i h 260 x3.toNatClampNeg) = (-1) → AW (m_X12_heard (d + 2) 0 0) 0 0 14 [(0, .ref 1), (1, .int x1), (2, .int (x2 + 0)), (3, .int (x3 + 1))] [] h (kI K)) ∧ (¬ (h_i h 260 x3.toNatClampNeg) = (-1) → vp_in x3 300 ∧ ((x1 < (h_i h 260 x3.toNatClampNeg) → AW (m_X12_heard (d + 2) 0 0) 0 0 14 [(0, .ref 1), (1, .int x1), (2, .int (x2 + 0)), (3, .int (x3 + 1))] [] h (kI K)) ∧ (¬ x1 < (h_i h 260 x3.toNatClampNeg) → AW (m_X12_heard (d + 2) 0 0) 0 0 14 [(0, .ref 1), (1, .int x1), (2, .int (x2 + 1)), (3, .int (x3 + 1))] [] h (kI K))))))) : AW (m_X12_heard (d + 2) 0 0) 0 0 14 [(0, .ref 1), (1, .int x1), (2, .int x2), (3, .int x3)] [] h (kI K) := by
  refine aw_iload_n (i := 3) rfl d_X12_heard_14 3 rfl ?_
  refine aw_aload_n (i := 0) rfl d_X12_heard_15 0 rfl ?_
  refine aw_geti (k0 := 80) kc_12 (ws_1 w) (Nat.le_of_ble_eq_true rfl) tw_1822 d_X12_heard_16 rfl ?_
  refine aw_icmp_ge (tgt := 56) d_X12_heard_19 rfl (fun c4 => ?_) (fun c4 => ?_)
  · have k := k.1 c4
    refine aw_iload_n (i := 2) rfl d_X12_heard_56 2 rfl ?_
    exact aw_iret rfl d_X12_heard_57 ⟨Nat.le_refl _, Nat.le_refl _⟩ ⟨_, rfl, k⟩
  · have k := k.2 c4
    refine aw_iload_n (i := 2) rfl d_X12_heard_22 2 rfl ?_
    refine aw_aload_n (i := 0) rfl d_X12_heard_23 0 rfl ?_
    refine aw_getr (k0 := 77) kc_12 (ws_1 w) (Nat.le_of_ble_eq_true rfl) tw_1819 d_X12_heard_24 rfl (wr_1_77 w) ?_
    refine aw_iload_n (i := 3) rfl d_X12_heard_27 3 rfl ?_
    obtain ⟨b5, k⟩ := k
    refine aw_iald (ws_260 w) b5 d_X12_heard_28 ?_
    refine aw_iconst (v := (-1)) d_X12_heard_29 ic_m1 ?_
    refine aw_icmp_eq (tgt := 47) d_X12_heard_30 rfl (fun c6 => ?_) (fun c6 => ?_)
    · have k := k.1 c6
      refine aw_iconst (v := 0) d_X12_heard_47 ic_0 ?_
      refine aw_iadd d_X12_heard_48 ?_
      refine aw_istore_n (i := 2) rfl [(0, .ref 1), (1, .int x1), (2, .int (x2 + 0)), (3, .int x3)] d_X12_heard_49 (Nat.le_of_ble_eq_true rfl) rfl rfl ?_
      refine aw_iinc (v := (x3 + 1)) [(0, .ref 1), (1, .int x1), (2, .int (x2 + 0)), (3, .int (x3 + 1))] d_X12_heard_50 3 rfl rfl (Nat.le_of_ble_eq_true rfl) rfl rfl ?_
      refine aw_goto (tgt := 14) d_X12_heard_53 rfl ?_
      exact k
    · have k := k.2 c6
      refine aw_aload_n (i := 0) rfl d_X12_heard_33 0 rfl ?_
      refine aw_getr (k0 := 77) kc_12 (ws_1 w) (Nat.le_of_ble_eq_true rfl) tw_1819 d_X12_heard_34 rfl (wr_1_77 w) ?_
      refine aw_iload_n (i := 3) rfl d_X12_heard_37 3 rfl ?_
      obtain ⟨b7, k⟩ := k
      refine aw_iald (ws_260 w) b7 d_X12_heard_38 ?_
      refine aw_iload_n (i := 1) rfl d_X12_heard_39 1 rfl ?_
      refine aw_icmp_gt (tgt := 47) d_X12_heard_40 rfl (fun c8 => ?_) (fun c8 => ?_)
      · have k := k.1 c8
        refine aw_iconst (v := 0) d_X12_heard_47 ic_0 ?_
        refine aw_iadd d_X12_heard_48 ?_
        refine aw_istore_n (i := 2) rfl [(0, .ref 1), (1, .int x1), (2, .int (x2 + 0)), (3, .int x3)] d_X12_heard_49 (Nat.le_of_ble_eq_true rfl) rfl rfl ?_
        refine aw_iinc (v := (x3 + 1)) [(0, .ref 1), (1, .int x1), (2, .int (x2 + 0)), (3, .int (x3 + 1))] d_X12_heard_50 3 rfl rfl (Nat.le_of_ble_eq_true rfl) rfl rfl ?_
        refine aw_goto (tgt := 14) d_X12_heard_53 rfl ?_
        exact k
      · have k := k.2 c8
        refine aw_iconst (v := 1) d_X12_heard_43 ic_1 ?_
        refine aw_goto (tgt := 48) d_X12_heard_44 rfl ?_
        refine aw_iadd d_X12_heard_48 ?_
        refine aw_istore_n (i := 2) rfl [(0, .ref 1), (1, .int x1), (2, .int (x2 + 1)), (3, .int x3)] d_X12_heard_49 (Nat.le_of_ble_eq_true rfl) rfl rfl ?_
        refine aw_iinc (v := (x3 + 1)) [(0, .ref 1), (1, .int x1), (2, .int (x2 + 1)), (3, .int (x3 + 1))] d_X12_heard_50 3 rfl rfl (Nat.le_of_ble_eq_true rfl) rfl rfl ?_
        refine aw_goto (tgt := 14) d_X12_heard_53 rfl ?_
        exact k
